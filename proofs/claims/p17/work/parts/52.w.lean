/-! What changes the number of things or acts; the asks. -/
def sp (a i : Int) : Prop := (a = 3 ∧ i = 14) ∨ (4 ≤ a ∧ a ≤ 7) ∨ a = 52
def Sw (d ac : Int) (M : nM) : Prop := (∀ a i : Int, 0 ≤ i → ¬ sp a i → (tb d ac a i).1 ≤ M a i ∧ M a i ≤ (tb d ac a i).2) ∧ CK M ∧ PK M ∧ AK M ∧ 0 ≤ ac ∧ ac ≤ 8
section
variable {d ac : Int} {M0 M M2 Ms : nM}
theorem AK.u {a i z : Int} (h : AK M) (w6 : ¬ (a = 112 ∧ (i = 7 ∨ i = 10 ∨ i = 11))) (w7 : a ≠ 118) (w8 : a ≠ 120) (w9 : a ≠ 121) : AK (nu M a i z) := by
  intro q h0 hq
  have e7 : nu M a i z 112 7 = M 112 7 := by rw [nu_e, if_neg (by omega)]
  have e10 : nu M a i z 112 10 = M 112 10 := by rw [nu_e, if_neg (by omega)]
  have e11 : nu M a i z 112 11 = M 112 11 := by rw [nu_e, if_neg (by omega)]
  rw [e11] at hq
  obtain ⟨a1, a2⟩ := h q h0 hq
  rw [nu_a (Ne.symm w8), e7, e10]
  refine ⟨a1, fun j b1 b2 => ?_⟩
  rw [nu_a (Ne.symm w7)] at b2
  rw [nu_a (Ne.symm w9)]
  exact a2 j b1 b2
theorem Sf.sw (h : Sf d ac M0 M) : Sw d ac M := ⟨fun a i h0 _ => h.1 a i h0, h.2.1, h.2.2.1, h.2.2.2.1.2.of h.2.2.2.1.1, h.2.2.2.2⟩
theorem Sw.m (h : Sw d ac M) {a i z : Int} (hw : Mok d ac a i z) : Sw d ac (nu M a i z) := by
  obtain ⟨h1, h2, h3, h4, h5⟩ := h
  obtain ⟨w0, w1, w3, w4, w5, w6, w7, w8, w9⟩ := hw
  refine ⟨fun a' i' h0 hs => ?_, fun i' h0 => ?_, ?_, h4.u w6 w7 w8 w9, h5⟩
  · rw [nu_e]
    split
    · rename_i q
      rw [q.1, q.2]
      exact w1
    · exact h1 a' i' h0 hs
  · rw [nu_a (Ne.symm w3)]
    exact h2 i' h0
  · unfold PK
    rw [nu_e M a i z 15 9, if_neg (fun q => w5 ⟨q.1.symm, q.2.symm⟩), nu_a (Ne.symm w4)]
    exact h3
theorem Sw.s (h : Sw d ac M) {a i z : Int} (hs : sp a i) : Sw d ac (nu M a i z) := by
  obtain ⟨h1, h2, h3, h4, h5⟩ := h
  unfold sp at hs
  refine ⟨fun a' i' h0 hn => ?_, fun i' h0 => ?_, ?_, h4.u (by omega) (by omega) (by omega) (by omega), h5⟩
  · rw [nu_e]
    split
    · rename_i q
      exact absurd (by unfold sp; omega) hn
    · exact h1 a' i' h0 hn
  · rw [nu_a (by omega)]
    exact h2 i' h0
  · unfold PK
    rw [nu_a (by omega), nu_a (by omega)]
    exact h3
theorem Sw.of (h : Sw d ac M) (e : ∀ a i : Int, ¬ sp a i → M2 a i = M a i) : Sw d ac M2 := by
  obtain ⟨h1, h2, h3, h4, h5⟩ := h
  have f : ∀ a i : Int, a ≠ 3 → (a < 4 ∨ 7 < a) → a ≠ 52 → M2 a i = M a i := fun a i p q r => e a i (by unfold sp; omega)
  refine ⟨fun a i h0 hn => by rw [e a i hn]; exact h1 a i h0 hn, fun i h0 => by rw [f 41 i (by omega) (by omega) (by omega)]; exact h2 i h0, ?_, ?_, h5⟩
  · unfold PK
    rw [f 15 9 (by omega) (by omega) (by omega), f (-1) 0 (by omega) (by omega) (by omega)]
    exact h3
  · intro q h0 h6
    rw [f 112 11 (by omega) (by omega) (by omega)] at h6
    obtain ⟨a1, a2⟩ := h4 q h0 h6
    rw [f 120 q (by omega) (by omega) (by omega), f 112 7 (by omega) (by omega) (by omega), f 112 10 (by omega) (by omega) (by omega)]
    refine ⟨a1, fun j b1 b2 => ?_⟩
    rw [f 118 _ (by omega) (by omega) (by omega)] at b2
    rw [f 121 _ (by omega) (by omega) (by omega)]
    exact a2 j b1 b2
theorem mok_made {q i z : Int} (hq : MadeAt q) (hi : 0 ≤ i ∧ i ≤ 1) (hz : 0 ≤ z ∧ z ≤ 1) : Mok d ac q i z := by
  have hw := w_made (d := d) (ac := ac) (z := z) hq (i := i) (by omega) (by omega)
  unfold MadeAt at hq
  exact ⟨hw.1, hw.2.1, by omega, by omega, by omega, by omega, by omega, by omega, by omega⟩
end
section
variable {xs : List Int32} {d j k : Nat} {L : nL} {st : List nX} {M : nM} {Q : Option nX → nM → Prop} {nx a b c : Nat} {dd ac : Int}
theorem n_iastoreW {r i z : Int} {n : Nat} (hS : Sw dd ac M) (hc : mj_code j k = some (.iastore, nx, a, b, c)) (hC : nC M r 13 n) (hn : Nat.ble n 1000000 = true) (hi : 0 ≤ i ∧ i < (n : Int)) (hw : Sw dd ac M → Sw dd ac (nu M r i z)) (h : ∀ M2, M2 = nu M r i z → Sw dd ac M2 → nW xs d j nx L st M2 Q) : nW xs d j k L ((0, z) :: (0, i) :: (2, r) :: st) M Q := n_iastore hc hC hn hi (h _ rfl (hw hS))
theorem n_putW {i} {r z bi : Int} {n : Nat} (hS : Sw dd ac M) (hc : mj_code j k = some (.putfield i, nx, a, b, c)) (hC : nC M r a n) (hb : Nat.blt b n = true) (hk : nkd a b = 0) (ht : mj_ty a b = .int) (hbi : (b : Int) = bi) (hw : Sw dd ac M → Sw dd ac (nu M r bi z)) (h : ∀ M2, M2 = nu M r bi z → Sw dd ac M2 → nW xs d j nx L st M2 Q) : nW xs d j k L ((0, z) :: (2, r) :: st) M Q := n_putI hc hC hb hk ht (by rw [hbi]; exact h _ rfl (hw hS))
theorem n_putZW {i} {r z bi : Int} {n : Nat} (hS : Sw dd ac M) (hc : mj_code j k = some (.putfield i, nx, a, b, c)) (hC : nC M r a n) (hb : Nat.blt b n = true) (hk : nkd a b = 0) (ht : mj_ty a b = .boolean) (hz : z = 0 ∨ z = 1) (hbi : (b : Int) = bi) (hw : Sw dd ac M → Sw dd ac (nu M r bi z)) (h : ∀ M2, M2 = nu M r bi z → Sw dd ac M2 → nW xs d j nx L st M2 Q) : nW xs d j k L ((0, z) :: (2, r) :: st) M Q := n_putZ hc hC hb hk ht hz (by rw [hbi]; exact h _ rfl (hw hS))
theorem n_iastoreG {r i z : Int} {n : Nat} (hc : mj_code j k = some (.iastore, nx, a, b, c)) (hC : nC M r 13 n) (hn : Nat.ble n 1000000 = true) (hi : 0 ≤ i ∧ i < (n : Int)) (hw : Sf dd ac (nu M r i z) (nu M r i z)) (h : ∀ M2, M2 = nu M r i z → Sf dd ac M2 M2 → nW xs d j nx L st M2 Q) : nW xs d j k L ((0, z) :: (0, i) :: (2, r) :: st) M Q := n_iastore hc hC hn hi (h _ rfl hw)
theorem n_putG {i} {r z bi : Int} {n : Nat} {P : nM → Prop} (hc : mj_code j k = some (.putfield i, nx, a, b, c)) (hC : nC M r a n) (hb : Nat.blt b n = true) (hk : nkd a b = 0) (ht : mj_ty a b = .int) (hbi : (b : Int) = bi) (hw : P (nu M r bi z)) (h : ∀ M2, M2 = nu M r bi z → P M2 → nW xs d j nx L st M2 Q) : nW xs d j k L ((0, z) :: (2, r) :: st) M Q := n_putI hc hC hb hk ht (by rw [hbi]; exact h _ rfl hw)
/-- a number at a place that holds a reference which never changes says nothing -/
theorem n_jk {v : Int} (h : ∀ M2, (∀ a i : Int, ¬ (a = 4 ∧ 2 ≤ i) → M2 a i = M a i) → (∀ i : Int, 2 ≤ i → M2 4 i = v) → nW xs d j k L st M2 Q) : nW xs d j k L st M Q := fun hp LL hR hL => by
  refine h (fun a i => if a = 4 ∧ 2 ≤ i then v else M a i) (fun a i q => if_neg q) (fun i q => if_pos ⟨rfl, q⟩) hp LL ?_ hL
  obtain ⟨h1, h2, h3⟩ := hR
  refine ⟨h1, h2, fun a c n hC => ?_⟩
  have hC' : nC M a c n := hC
  obtain ⟨vs, g1, g2, g3⟩ := h3 a c n hC'
  refine ⟨vs, g1, g2, fun i hi => ?_⟩
  rw [g3 i hi]
  by_cases q : a = 4 ∧ 2 ≤ (i : Int)
  · obtain ⟨rfl, q2⟩ := q
    rcases hC with ⟨-, -, hs⟩ | hs
    · have e : nsh[(4 : Int).toNat]? = some (1, 5) := rfl
      rw [e] at hs
      cases hs
      have hk : nkd 1 ((i : Nat) : Int).toNat = 2 := by
        rcases (show i = 2 ∨ i = 3 ∨ i = 4 by omega) with rfl | rfl | rfl <;> rfl
      have hs : nsr 4 (i : Int) = some (4 + (i : Int) - 1) := by
        rcases (show i = 2 ∨ i = 3 ∨ i = 4 by omega) with rfl | rfl | rfl <;> rfl
      rw [nval_s hk hs, nval_s hk hs]
    · omega
  · rw [nval_e (M := M) (M2 := fun a i => if a = 4 ∧ 2 ≤ i then v else M a i) (if_neg q)]
end
/-! the base's rows -/
def B3 (M : nM) : Prop := ∀ i : Int, 0 ≤ i → (0 ≤ M 5 i ∧ M 5 i ≤ 2) ∧ (0 ≤ M 6 i ∧ M 6 i ≤ 2) ∧ (0 ≤ M 7 i ∧ M 7 i ≤ 2)
def BS (d n : Int) (Ms M : nM) : Prop := M 4 0 = d ∧ M 4 1 = d * d * d ∧ B3 M ∧ (∀ i : Int, 0 ≤ i → i < n → M 5 i = i / (d * d) ∧ M 6 i = i / d % d ∧ M 7 i = i % d) ∧ ∀ a i : Int, (a < 4 ∨ 7 < a) → M a i = Ms a i
theorem Sf.b3 {d ac : Int} {M0 M : nM} (h : Sf d ac M0 M) (hd : d = 2 ∨ d = 3) : B3 M := fun i h0 => ⟨t_5 h hd h0, t_6 h hd h0, t_7 h hd h0⟩
theorem BS.init {d : Int} {Ms M1 M2 : nM} (h3 : B3 Ms) (e1 : M1 = nu Ms 4 0 d) (e2 : M2 = nu M1 4 1 (d * d * d)) : BS d 0 Ms M2 := by
  subst e1 e2
  refine ⟨by rw [nu_i (by omega), nu_s], nu_s _ _ _ _, fun i h0 => ?_, fun i h0 h1 => by omega, fun a i h => by rw [nu_a (by omega), nu_a (by omega)]⟩
  rw [nu_a (by omega), nu_a (by omega), nu_a (by omega), nu_a (by omega), nu_a (by omega), nu_a (by omega)]
  exact h3 i h0
theorem BS.step {d n x y z : Int} {Ms M M1 M2 M3 : nM} (h : BS d n Ms M) (e1 : M1 = nu M 5 n x) (e2 : M2 = nu M1 6 n y) (e3 : M3 = nu M2 7 n z) (hx : 0 ≤ x ∧ x ≤ 2) (hy : 0 ≤ y ∧ y ≤ 2) (hz : 0 ≤ z ∧ z ≤ 2) (qx : x = n / (d * d)) (qy : y = n / d % d) (qz : z = n % d) : BS d (n + 1) Ms M3 := by
  subst e1 e2 e3
  obtain ⟨h1, h2, h3, h4, h5⟩ := h
  have f5 : ∀ i, nu (nu (nu M 5 n x) 6 n y) 7 n z 5 i = nu M 5 n x 5 i := fun i => by rw [nu_a (by omega), nu_a (by omega)]
  have f6 : ∀ i, nu (nu (nu M 5 n x) 6 n y) 7 n z 6 i = nu (nu M 5 n x) 6 n y 6 i := fun i => by rw [nu_a (by omega)]
  have fo : ∀ a i, a ≠ 5 → a ≠ 6 → a ≠ 7 → nu (nu (nu M 5 n x) 6 n y) 7 n z a i = M a i := fun a i p q r => by rw [nu_a r, nu_a q, nu_a p]
  refine ⟨by rw [fo 4 0 (by omega) (by omega) (by omega)]; exact h1, by rw [fo 4 1 (by omega) (by omega) (by omega)]; exact h2, fun i h0 => ?_, fun i h0 hi => ?_, fun a i ha => by rw [fo a i (by omega) (by omega) (by omega)]; exact h5 a i ha⟩
  · obtain ⟨g1, g2, g3⟩ := h3 i h0
    by_cases e : i = n
    · subst e
      rw [f5, f6, nu_s, nu_s, nu_s]
      exact ⟨hx, hy, hz⟩
    · rw [show nu (nu (nu M 5 n x) 6 n y) 7 n z 5 i = M 5 i by rw [f5, nu_i e], show nu (nu (nu M 5 n x) 6 n y) 7 n z 6 i = M 6 i by rw [f6, nu_i e, nu_a (by omega)], show nu (nu (nu M 5 n x) 6 n y) 7 n z 7 i = M 7 i by rw [nu_i e, nu_a (by omega), nu_a (by omega)]]
      exact ⟨g1, g2, g3⟩
  · by_cases e : i = n
    · subst e
      rw [f5, f6, nu_s, nu_s, nu_s]
      exact ⟨qx, qy, qz⟩
    · rw [show nu (nu (nu M 5 n x) 6 n y) 7 n z 5 i = M 5 i by rw [f5, nu_i e], show nu (nu (nu M 5 n x) 6 n y) 7 n z 6 i = M 6 i by rw [f6, nu_i e, nu_a (by omega)], show nu (nu (nu M 5 n x) 6 n y) 7 n z 7 i = M 7 i by rw [nu_i e, nu_a (by omega), nu_a (by omega)]]
      exact h4 i h0 (by omega)
theorem BS.fr {d n : Int} {Ms M M2 : nM} (h : BS d n Ms M) (e : ∀ a i : Int, 4 ≤ a → a ≤ 7 → ¬ (a = 4 ∧ 2 ≤ i) → M2 a i = M a i) : BS d n M2 M2 := by
  obtain ⟨h1, h2, h3, h4, h5⟩ := h
  refine ⟨by rw [e 4 0 (by omega) (by omega) (by omega)]; exact h1, by rw [e 4 1 (by omega) (by omega) (by omega)]; exact h2, fun i h0 => ?_, fun i h0 hi => ?_, fun _ _ _ => rfl⟩
  · rw [e 5 i (by omega) (by omega) (by omega), e 6 i (by omega) (by omega) (by omega), e 7 i (by omega) (by omega) (by omega)]
    exact h3 i h0
  · rw [e 5 i (by omega) (by omega) (by omega), e 6 i (by omega) (by omega) (by omega), e 7 i (by omega) (by omega) (by omega)]
    exact h4 i h0 hi
theorem tb_weak {d ac d2 a i : Int} (hd : d = 2 ∨ d = 3) (hn : ¬ sp a i) : (tb d2 0 a i).1 ≤ (tb d ac a i).1 ∧ (tb d ac a i).2 ≤ (tb d2 0 a i).2 := by
  unfold sp at hn
  unfold tb
  by_cases hA : 55 ≤ a ∧ a ≤ 78
  · rw [if_pos hA, if_pos hA]
    by_cases h3 : (a - 55) % 3 = 0
    · rw [if_pos h3, if_pos h3]
      by_cases hi : i = 0
      · rw [if_pos hi, if_pos hi, if_neg (by omega)]
        split
        · show (0 : Int) ≤ 1 ∧ (3 : Int) ≤ 3
          omega
        · exact ⟨Int.le_refl _, Int.le_refl _⟩
      · rw [if_neg hi, if_neg hi, if_neg (by omega)]
        split
        · show (0 : Int) ≤ d ∧ d * d * d ≤ 27
          rcases hd with rfl | rfl <;> omega
        · exact ⟨Int.le_refl _, Int.le_refl _⟩
    · rw [if_neg h3, if_neg h3, if_neg (by omega)]
      split
      · show (0 : Int) ≤ 0 ∧ d - 1 ≤ 2
        omega
      · exact ⟨Int.le_refl _, Int.le_refl _⟩
  rw [if_neg hA, if_neg hA]
  by_cases hL : (79 ≤ a ∧ a ≤ 102) ∨ a = 50 ∨ a = 51
  · rw [if_pos hL, if_pos hL]
    exact ⟨Int.le_refl _, Int.le_refl _⟩
  rw [if_neg hL, if_neg hL]
  by_cases hM : 103 ≤ a ∧ a ≤ 111
  · rw [if_pos hM, if_pos hM]
    exact ⟨Int.le_refl _, Int.le_refl _⟩
  rw [if_neg hM, if_neg hM]
  by_cases h : a = -1
  · rw [if_pos h, if_pos h]
    exact ⟨Int.le_refl _, Int.le_refl _⟩
  rw [if_neg h, if_neg h]
  clear h
  by_cases h : a = 0
  · rw [if_pos h, if_pos h]
    exact ⟨Int.le_refl _, Int.le_refl _⟩
  rw [if_neg h, if_neg h]
  clear h
  by_cases h : a = 1
  · rw [if_pos h, if_pos h]
    exact ⟨Int.le_refl _, Int.le_refl _⟩
  rw [if_neg h, if_neg h]
  clear h
  by_cases h : a = 3
  · rw [if_pos h, if_pos h]
    rw [if_neg (show ¬ i = 14 by omega), if_neg (show ¬ i = 14 by omega)]
    exact ⟨Int.le_refl _, Int.le_refl _⟩
  rw [if_neg h, if_neg h]
  clear h
  by_cases h : a = 4
  · omega
  rw [if_neg h, if_neg h]
  clear h
  by_cases h : a = 5
  · omega
  rw [if_neg h, if_neg h]
  clear h
  by_cases h : a = 6
  · omega
  rw [if_neg h, if_neg h]
  clear h
  by_cases h : a = 7
  · omega
  rw [if_neg h, if_neg h]
  clear h
  by_cases h : a = 9
  · rw [if_pos h, if_pos h]
    exact ⟨Int.le_refl _, Int.le_refl _⟩
  rw [if_neg h, if_neg h]
  clear h
  by_cases h : a = 10
  · rw [if_pos h, if_pos h]
    exact ⟨Int.le_refl _, Int.le_refl _⟩
  rw [if_neg h, if_neg h]
  clear h
  by_cases h : a = 11
  · rw [if_pos h, if_pos h]
    exact ⟨Int.le_refl _, Int.le_refl _⟩
  rw [if_neg h, if_neg h]
  clear h
  by_cases h : a = 15
  · rw [if_pos h, if_pos h]
    exact ⟨Int.le_refl _, Int.le_refl _⟩
  rw [if_neg h, if_neg h]
  clear h
  by_cases h : a = 20
  · rw [if_pos h, if_pos h]
    exact ⟨Int.le_refl _, Int.le_refl _⟩
  rw [if_neg h, if_neg h]
  clear h
  by_cases h : a = 21
  · rw [if_pos h, if_pos h]
    exact ⟨Int.le_refl _, Int.le_refl _⟩
  rw [if_neg h, if_neg h]
  clear h
  by_cases h : a = 22
  · rw [if_pos h, if_pos h]
    exact ⟨Int.le_refl _, Int.le_refl _⟩
  rw [if_neg h, if_neg h]
  clear h
  by_cases h : a = 23
  · rw [if_pos h, if_pos h]
    exact ⟨Int.le_refl _, Int.le_refl _⟩
  rw [if_neg h, if_neg h]
  clear h
  by_cases h : a = 24
  · rw [if_pos h, if_pos h]
    exact ⟨Int.le_refl _, Int.le_refl _⟩
  rw [if_neg h, if_neg h]
  clear h
  by_cases h : a = 25
  · rw [if_pos h, if_pos h]
    exact ⟨Int.le_refl _, Int.le_refl _⟩
  rw [if_neg h, if_neg h]
  clear h
  by_cases h : a = 26
  · rw [if_pos h, if_pos h]
    exact ⟨Int.le_refl _, Int.le_refl _⟩
  rw [if_neg h, if_neg h]
  clear h
  by_cases h : a = 27
  · rw [if_pos h, if_pos h]
    exact ⟨Int.le_refl _, Int.le_refl _⟩
  rw [if_neg h, if_neg h]
  clear h
  by_cases h : a = 28
  · rw [if_pos h, if_pos h]
    exact ⟨Int.le_refl _, Int.le_refl _⟩
  rw [if_neg h, if_neg h]
  clear h
  by_cases h : a = 29
  · rw [if_pos h, if_pos h]
    exact ⟨Int.le_refl _, Int.le_refl _⟩
  rw [if_neg h, if_neg h]
  clear h
  by_cases h : a = 30
  · rw [if_pos h, if_pos h]
    exact ⟨Int.le_refl _, Int.le_refl _⟩
  rw [if_neg h, if_neg h]
  clear h
  by_cases h : a = 31
  · rw [if_pos h, if_pos h]
    exact ⟨Int.le_refl _, Int.le_refl _⟩
  rw [if_neg h, if_neg h]
  clear h
  by_cases h : a = 32
  · rw [if_pos h, if_pos h]
    exact ⟨Int.le_refl _, Int.le_refl _⟩
  rw [if_neg h, if_neg h]
  clear h
  by_cases h : a = 33
  · rw [if_pos h, if_pos h]
    exact ⟨Int.le_refl _, Int.le_refl _⟩
  rw [if_neg h, if_neg h]
  clear h
  by_cases h : a = 34
  · rw [if_pos h, if_pos h]
    exact ⟨Int.le_refl _, Int.le_refl _⟩
  rw [if_neg h, if_neg h]
  clear h
  by_cases h : a = 35
  · rw [if_pos h, if_pos h]
    exact ⟨Int.le_refl _, Int.le_refl _⟩
  rw [if_neg h, if_neg h]
  clear h
  by_cases h : a = 36
  · rw [if_pos h, if_pos h]
    exact ⟨Int.le_refl _, Int.le_refl _⟩
  rw [if_neg h, if_neg h]
  clear h
  by_cases h : a = 37
  · rw [if_pos h, if_pos h]
    exact ⟨Int.le_refl _, Int.le_refl _⟩
  rw [if_neg h, if_neg h]
  clear h
  by_cases h : a = 38
  · rw [if_pos h, if_pos h]
    exact ⟨Int.le_refl _, Int.le_refl _⟩
  rw [if_neg h, if_neg h]
  clear h
  by_cases h : a = 39
  · rw [if_pos h, if_pos h]
    exact ⟨Int.le_refl _, Int.le_refl _⟩
  rw [if_neg h, if_neg h]
  clear h
  by_cases h : a = 40
  · rw [if_pos h, if_pos h]
    exact ⟨Int.le_refl _, Int.le_refl _⟩
  rw [if_neg h, if_neg h]
  clear h
  by_cases h : a = 41
  · rw [if_pos h, if_pos h]
    exact ⟨Int.le_refl _, Int.le_refl _⟩
  rw [if_neg h, if_neg h]
  clear h
  by_cases h : a = 42
  · rw [if_pos h, if_pos h]
    exact ⟨Int.le_refl _, Int.le_refl _⟩
  rw [if_neg h, if_neg h]
  clear h
  by_cases h : a = 43
  · rw [if_pos h, if_pos h]
    exact ⟨Int.le_refl _, Int.le_refl _⟩
  rw [if_neg h, if_neg h]
  clear h
  by_cases h : a = 44
  · rw [if_pos h, if_pos h]
    exact ⟨Int.le_refl _, Int.le_refl _⟩
  rw [if_neg h, if_neg h]
  clear h
  by_cases h : a = 45
  · rw [if_pos h, if_pos h]
    exact ⟨Int.le_refl _, Int.le_refl _⟩
  rw [if_neg h, if_neg h]
  clear h
  by_cases h : a = 46
  · rw [if_pos h, if_pos h]
    exact ⟨Int.le_refl _, Int.le_refl _⟩
  rw [if_neg h, if_neg h]
  clear h
  by_cases h : a = 47
  · rw [if_pos h, if_pos h]
    exact ⟨Int.le_refl _, Int.le_refl _⟩
  rw [if_neg h, if_neg h]
  clear h
  by_cases h : a = 48
  · rw [if_pos h, if_pos h]
    exact ⟨Int.le_refl _, Int.le_refl _⟩
  rw [if_neg h, if_neg h]
  clear h
  by_cases h : a = 49
  · rw [if_pos h, if_pos h]
    exact ⟨Int.le_refl _, Int.le_refl _⟩
  rw [if_neg h, if_neg h]
  clear h
  by_cases h : a = 52
  · omega
  rw [if_neg h, if_neg h]
  clear h
  exact ⟨Int.le_refl _, Int.le_refl _⟩
theorem Sf.fromW {d ac d2 : Int} {M : nM} (h : Sw d ac M) (hd : d = 2 ∨ d = 3) (hb : BS d2 (d2 * d2 * d2) M M) (hj : ∀ i : Int, 2 ≤ i → M 4 i = d2 * d2 * d2) (h1 : M 52 1 = d2 * d2) (h2 : M 52 2 = d2) (hr : ∀ i : Int, 0 ≤ i → i ≠ 1 → i ≠ 2 → M 52 i = 1) (h0 : M 3 14 = 0) : Sf d2 0 M M := by
  obtain ⟨g1, g2, g3, g4, g5⟩ := h
  obtain ⟨b1, b2, b3, b4, b5⟩ := hb
  refine ⟨fun a i hi => ?_, g2, g3, ⟨fun _ _ _ => rfl, g4⟩, by omega, by omega⟩
  by_cases hs : sp a i
  · unfold sp at hs
    rcases (show (a = 3 ∧ i = 14) ∨ a = 4 ∨ a = 5 ∨ a = 6 ∨ a = 7 ∨ a = 52 by omega) with ⟨rfl, rfl⟩ | rfl | rfl | rfl | rfl | rfl
    · show (0 : Int) ≤ M 3 14 ∧ M 3 14 ≤ 0
      omega
    · show (if i = 0 then (d2, d2) else (d2 * d2 * d2, d2 * d2 * d2)).1 ≤ M 4 i ∧ M 4 i ≤ (if i = 0 then (d2, d2) else (d2 * d2 * d2, d2 * d2 * d2)).2
      by_cases e : i = 0
      · rw [if_pos e, e, b1]
        exact ⟨Int.le_refl _, Int.le_refl _⟩
      · rw [if_neg e]
        by_cases e1 : i = 1
        · rw [e1, b2]
          exact ⟨Int.le_refl _, Int.le_refl _⟩
        · rw [hj i (by omega)]
          exact ⟨Int.le_refl _, Int.le_refl _⟩
    · show (if i < d2 * d2 * d2 then (i / (d2 * d2), i / (d2 * d2)) else (0, 2)).1 ≤ M 5 i ∧ M 5 i ≤ (if i < d2 * d2 * d2 then (i / (d2 * d2), i / (d2 * d2)) else (0, 2)).2
      split
      · rename_i q
        rw [(b4 i hi q).1]
        exact ⟨Int.le_refl _, Int.le_refl _⟩
      · exact (b3 i hi).1
    · show (if i < d2 * d2 * d2 then (i / d2 % d2, i / d2 % d2) else (0, 2)).1 ≤ M 6 i ∧ M 6 i ≤ (if i < d2 * d2 * d2 then (i / d2 % d2, i / d2 % d2) else (0, 2)).2
      split
      · rename_i q
        rw [(b4 i hi q).2.1]
        exact ⟨Int.le_refl _, Int.le_refl _⟩
      · exact (b3 i hi).2.1
    · show (if i < d2 * d2 * d2 then (i % d2, i % d2) else (0, 2)).1 ≤ M 7 i ∧ M 7 i ≤ (if i < d2 * d2 * d2 then (i % d2, i % d2) else (0, 2)).2
      split
      · rename_i q
        rw [(b4 i hi q).2.2]
        exact ⟨Int.le_refl _, Int.le_refl _⟩
      · exact (b3 i hi).2.2
    · show (if i = 1 then (d2 * d2, d2 * d2) else if i = 2 then (d2, d2) else (1, 1)).1 ≤ M 52 i ∧ M 52 i ≤ (if i = 1 then (d2 * d2, d2 * d2) else if i = 2 then (d2, d2) else (1, 1)).2
      by_cases e : i = 1
      · rw [if_pos e, e, h1]
        exact ⟨Int.le_refl _, Int.le_refl _⟩
      · by_cases e2 : i = 2
        · rw [if_neg e, if_pos e2, e2, h2]
          exact ⟨Int.le_refl _, Int.le_refl _⟩
        · rw [if_neg e, if_neg e2, hr i hi e e2]
          exact ⟨Int.le_refl _, Int.le_refl _⟩
  · have w := tb_weak (d2 := d2) (ac := ac) hd hs
    have t := g1 a i hi hs
    omega
/-! an act that is not live yet -/
theorem m_actn {d ac q i z : Int} (hq : ActAt q) (hn : q = 55 + 3 * ac) (hi : 0 ≤ i) (hz : 0 ≤ z ∧ z ≤ 27 ∧ (i = 0 → z ≤ 3)) : Mok d ac q i z := by
  unfold ActAt at hq
  have e : tb d ac q i = if i = 0 then (0, 3) else (0, 27) := by
    unfold tb
    have hl : ¬ q < 55 + 3 * ac := by omega
    rw [if_pos (by omega), if_pos (by omega), if_neg hl, if_neg hl]
  refine ⟨hi, ?_, by omega, by omega, by omega, by omega, by omega, by omega, by omega⟩
  rw [e]
  split
  · rename_i h
    exact ⟨hz.1, hz.2.2 h⟩
  · exact ⟨hz.1, hz.2.1⟩
theorem m_actnr {d ac q i z o : Int} (hq : ActAt q) (hn : q = 55 + 3 * ac) (ho : o = 1 ∨ o = 2) (hi : 0 ≤ i) (hz : 0 ≤ z ∧ z ≤ 2) : Mok d ac (q + o) i z := by
  unfold ActAt at hq
  have e : tb d ac (q + o) i = (0, 2) := by
    unfold tb
    rw [if_pos (by omega), if_neg (by omega), if_neg (by omega)]
  refine ⟨hi, ?_, by omega, by omega, by omega, by omega, by omega, by omega, by omega⟩
  rw [e]
  exact hz
def NA (d k r p : Int) (M : nM) : Prop := M p 0 = k ∧ (∀ i : Int, 0 < i → M p i = r) ∧ ∀ i : Int, 0 ≤ i → i < d * d * d → M (p + 1) i ≤ d - 1 ∧ M (p + 2) i ≤ d - 1
theorem Sf.actUp {d ac k r p : Int} {M : nM} (h : Sf d ac M M) (hac : ac ≤ 7) (hp : p = 55 + 3 * ac) (hk : 1 ≤ k ∧ k ≤ 3) (hr : d ≤ r ∧ r ≤ d * d * d) (hd : 1 ≤ d) (hN : NA d k r p M) : Sf d (ac + 1) (nu M 3 14 (ac + 1)) (nu M 3 14 (ac + 1)) := by
  have h5 := h.2.2.2.2
  refine ⟨fun a i hi => ?_, fun i hi => ?_, ?_, ⟨fun _ _ _ => rfl, h.2.2.2.1.2.u (by omega) (by omega) (by omega) (by omega)⟩, by omega, by omega⟩
  · rw [nu_e]
    split
    · rename_i q
      rw [q.1, q.2]
      show ac + 1 ≤ ac + 1 ∧ ac + 1 ≤ ac + 1
      omega
    · rename_i q
      have t := h.1 a i hi
      by_cases hA : 55 ≤ a ∧ a ≤ 78
      · unfold tb at t ⊢
        rw [if_pos hA] at t ⊢
        by_cases hl : a < 55 + 3 * (ac + 1)
        · by_cases hl0 : a < 55 + 3 * ac
          · by_cases h3 : (a - 55) % 3 = 0
            · rw [if_pos h3] at t ⊢
              rw [if_pos hl0, if_pos hl0] at t
              rw [if_pos hl, if_pos hl]
              exact t
            · rw [if_neg h3] at t ⊢
              by_cases hi3 : i < d * d * d
              · rw [if_pos ⟨hl0, hi3⟩] at t
                rw [if_pos ⟨hl, hi3⟩]
                exact t
              · rw [if_neg (fun q => hi3 q.2)] at t
                rw [if_neg (fun q => hi3 q.2)]
                exact t
          · by_cases h3 : (a - 55) % 3 = 0
            · have e : a = p := by omega
              rw [if_pos h3] at t ⊢
              rw [if_pos hl, if_pos hl]
              by_cases hi0 : i = 0
              · rw [if_pos hi0, hi0, e, hN.1]
                exact hk
              · rw [if_neg hi0, e, hN.2.1 i (by omega)]
                exact hr
            · rw [if_neg h3] at t ⊢
              rw [if_neg (fun q => hl0 q.1)] at t
              by_cases hi3 : i < d * d * d
              · rw [if_pos ⟨hl, hi3⟩]
                refine ⟨t.1, ?_⟩
                rcases (show a = p + 1 ∨ a = p + 2 by omega) with e | e
                · rw [e]
                  exact (hN.2.2 i hi hi3).1
                · rw [e]
                  exact (hN.2.2 i hi hi3).2
              · rw [if_neg (fun q => hi3 q.2)]
                exact t
        · have hl0 : ¬ a < 55 + 3 * ac := by omega
          by_cases h3 : (a - 55) % 3 = 0
          · rw [if_pos h3] at t ⊢
            rw [if_neg hl0, if_neg hl0] at t
            rw [if_neg hl, if_neg hl]
            exact t
          · rw [if_neg h3] at t ⊢
            rw [if_neg (fun q => hl0 q.1)] at t
            rw [if_neg (fun q => hl q.1)]
            exact t
      · have e : tb d (ac + 1) a i = tb d ac a i := by
          by_cases h3 : a = 3
          · subst h3
            have hq : ¬ i = 14 := fun w => q ⟨rfl, w⟩
            show (if i = 14 then (ac + 1, ac + 1) else _) = (if i = 14 then (ac, ac) else _)
            rw [if_neg hq, if_neg hq]
          · unfold tb
            rw [if_neg hA, if_neg hA, if_neg (c := a = 3) h3, if_neg (c := a = 3) h3]
        rw [e]
        exact t
  · rw [nu_a (by omega)]
    exact h.2.1 i hi
  · unfold PK
    rw [nu_a (by omega), nu_a (by omega)]
    exact h.2.2.1
theorem n_jka {xs : List Int32} {d j k : Nat} {L : nL} {st : List nX} {M : nM} {Q : Option nX → nM → Prop} {p v : Int} (hp : ActAt p) (h : ∀ M2, (∀ a i : Int, ¬ (a = p ∧ 2 ≤ i) → M2 a i = M a i) → (∀ i : Int, 2 ≤ i → M2 p i = v) → nW xs d j k L st M2 Q) : nW xs d j k L st M Q := fun hpp LL hR hL => by
  have hp0 := hp
  unfold ActAt at hp
  refine h (fun a i => if a = p ∧ 2 ≤ i then v else M a i) (fun a i q => if_neg q) (fun i q => if_pos ⟨rfl, q⟩) hpp LL ?_ hL
  obtain ⟨h1, h2, h3⟩ := hR
  have ef : (fun a i => if a = p ∧ 2 ≤ i then v else M a i : nM) (-1) 0 = M (-1) 0 := if_neg (by omega)
  refine ⟨?_, h2, fun a c n hC => ?_⟩
  · rw [ef]
    exact h1
  have hC' : nC M a c n := by
    unfold nC at hC
    rw [ef] at hC
    exact hC
  obtain ⟨vs, g1, g2, g3⟩ := h3 a c n hC'
  refine ⟨vs, g1, g2, fun i hi => ?_⟩
  rw [g3 i hi]
  by_cases q : a = p ∧ 2 ≤ (i : Int)
  · obtain ⟨rfl, q2⟩ := q
    rcases hC with ⟨-, -, hs⟩ | hs
    · have e := hp0.c0.1.2.2
      rw [e] at hs
      cases hs
      have hk : nkd 0 ((i : Nat) : Int).toNat = 2 := by
        rcases (show i = 2 ∨ i = 3 by omega) with rfl | rfl <;> rfl
      have hs : nsr a (i : Int) = some (a + (i : Int) - 1) := by
        have r := hp0.r
        rcases (show i = 2 ∨ i = 3 by omega) with rfl | rfl
        · rw [show ((2 : Nat) : Int) = 2 from rfl, r.1]
          congr 1
          omega
        · rw [show ((3 : Nat) : Int) = 3 from rfl, r.2]
          congr 1
          omega
      rw [nval_s hk hs, nval_s hk hs]
    · omega
  · rw [nval_e (M := M) (M2 := fun a i => if a = p ∧ 2 ≤ i then v else M a i) (if_neg q)]
theorem Sf.jka {d ac p v : Int} {M M2 : nM} (h : Sf d ac M M) (hp : ActAt p) (hn : p = 55 + 3 * ac) (e : ∀ a i : Int, ¬ (a = p ∧ 2 ≤ i) → M2 a i = M a i) (f : ∀ i : Int, 2 ≤ i → M2 p i = v) (hv : 0 ≤ v ∧ v ≤ 27) : Sf d ac M2 M2 := by
  have hp0 := hp
  unfold ActAt at hp
  obtain ⟨h1, h2, h3, h4, h5⟩ := h
  have g : ∀ a i : Int, a ≠ p → M2 a i = M a i := fun a i q => e a i (fun w => q w.1)
  refine ⟨fun a i h0 => ?_, fun i h0 => by rw [g 41 i (by omega)]; exact h2 i h0, ?_, ⟨fun _ _ _ => rfl, ?_⟩, h5⟩
  · by_cases q : a = p ∧ 2 ≤ i
    · rw [q.1, f i q.2]
      exact (m_actn hp0 hn h0 (by omega)).2.1
    · rw [e a i q]
      exact h1 a i h0
  · unfold PK
    rw [g 15 9 (by omega), g (-1) 0 (by omega)]
    exact h3
  · intro q h0 h6
    rw [g 112 11 (by omega)] at h6
    obtain ⟨a1, a2⟩ := h4.2 q h0 h6
    rw [g 120 q (by omega), g 112 7 (by omega), g 112 10 (by omega)]
    refine ⟨a1, fun j b1 b2 => ?_⟩
    rw [g 118 _ (by omega)] at b2
    rw [g 121 _ (by omega)]
    exact a2 j b1 b2
theorem na_mk {p v : Int} {M M2 : nM} (fy : ∀ a i : Int, ¬ (a = p ∧ 2 ≤ i) → M2 a i = M a i) (jy : ∀ i : Int, 2 ≤ i → M2 p i = v) (h : M p 1 = v) : ∀ i : Int, 0 < i → M2 p i = v := fun i hi => by
  by_cases h2 : 2 ≤ i
  · exact jy i h2
  · rw [show i = 1 by omega, fy p 1 (by omega)]
    exact h
theorem n_lor_bit27 {s r : Int} (hs : 0 ≤ s ∧ s ≤ 134217727) (hr : 0 ≤ r ∧ r ≤ 26) : 0 ≤ n_lor s (n_lshl 1 r) ∧ n_lor s (n_lshl 1 r) ≤ 134217727 := by
  obtain ⟨t, rfl⟩ : ∃ t : Nat, s = t := ⟨s.toNat, by omega⟩
  obtain ⟨n, rfl⟩ : ∃ n : Nat, r = n := ⟨r.toNat, by omega⟩
  have hp : 2 ^ n < 2 ^ 27 := Nat.pow_lt_pow_right (by omega) (by omega)
  have e2 : n_lshl 1 (n : Int) = ((2 ^ n : Nat) : Int) := by
    rw [n_lshl_a n (by omega)]
    norm_cast
  have ht : t < 2 ^ 27 := by omega
  rw [e2, n_lor_n ht hp]
  have hz : t ||| 2 ^ n < 2 ^ 27 := Nat.or_lt_two_pow ht hp
  omega
/-! the reference's laws and asks -/
def Sq (d ac : Int) (M : nM) : Prop := TI d ac M ∧ CK M ∧ PK M ∧ True ∧ 0 ≤ ac ∧ ac ≤ 8
section
variable {d ac : Int} {M : nM}
theorem Sf.sq {M0 : nM} (h : Sf d ac M0 M) : Sq d ac M := ⟨h.1, h.2.1, h.2.2.1, trivial, h.2.2.2.2⟩
theorem Sq.sf (h : Sq d ac M) (ha : AK M) : Sf d ac M M := ⟨h.1, h.2.1, h.2.2.1, ⟨fun _ _ _ => rfl, ha⟩, h.2.2.2.2⟩
theorem AK.none (h : M 112 11 ≤ 0) : AK M := fun q h0 h1 => by omega
theorem Sq.u (h : Sq d ac M) {i z : Int} {a : Int} (ha : a = 112 ∨ (113 ≤ a ∧ a ≤ 121)) (hz : (tb d ac a i).1 ≤ z ∧ z ≤ (tb d ac a i).2) : Sq d ac (nu M a i z) := by
  obtain ⟨h1, h2, h3, h4, h5⟩ := h
  refine ⟨h1.u hz, fun i' h0 => ?_, ?_, h4, h5⟩
  · rw [nu_a (by omega)]
    exact h2 i' h0
  · unfold PK
    rw [nu_a (by omega), nu_a (by omega)]
    exact h3
theorem Sf.w118 (h : Sf d ac M M) {l z : Int} (hl : M 112 7 ≤ l) (hz : 0 ≤ z ∧ z ≤ 3) : Sf d ac (nu M 118 l z) (nu M 118 l z) := by
  refine (h.sq.u (by omega) hz).sf ?_
  intro q h0 h1
  rw [nu_a (by omega)] at h1
  obtain ⟨a1, a2⟩ := h.2.2.2.1.2 q h0 h1
  rw [nu_a (a' := 120) (by omega), nu_a (a' := 112) (by omega), nu_a (a' := 112) (by omega)]
  refine ⟨a1, fun j b1 b2 => ?_⟩
  rw [nu_i (by omega)] at b2
  rw [nu_a (by omega)]
  exact a2 j b1 b2
theorem Sf.w112_7 (h : Sf d ac M M) {z : Int} (hl : M 112 7 ≤ z) (hz : 0 ≤ z ∧ z ≤ 12) : Sf d ac (nu M 112 7 z) (nu M 112 7 z) := by
  refine (h.sq.u (by omega) hz).sf ?_
  intro q h0 h1
  rw [nu_i (by omega)] at h1
  obtain ⟨a1, a2⟩ := h.2.2.2.1.2 q h0 h1
  rw [nu_s, nu_a (a' := 120) (by omega), nu_i (i' := 10) (by omega)]
  refine ⟨by omega, fun j b1 b2 => ?_⟩
  rw [nu_a (by omega)] at b2
  rw [nu_a (by omega)]
  exact a2 j b1 b2
theorem Sf.w120 (h : Sf d ac M M) {l z : Int} (hl : M 112 11 ≤ l) (hz : 0 ≤ z ∧ z ≤ 11) : Sf d ac (nu M 120 l z) (nu M 120 l z) := by
  refine (h.sq.u (by omega) hz).sf ?_
  intro q h0 h1
  rw [nu_a (by omega)] at h1
  obtain ⟨a1, a2⟩ := h.2.2.2.1.2 q h0 h1
  rw [nu_i (i' := q) (by omega), nu_a (a' := 112) (by omega), nu_a (a' := 112) (by omega)]
  refine ⟨a1, fun j b1 b2 => ?_⟩
  rw [nu_a (by omega)] at b2
  rw [nu_a (by omega)]
  exact a2 j b1 b2
theorem Sf.w121 (h : Sf d ac M M) {l z : Int} (hl : 3 * M 112 11 ≤ l) (hz : -2147483648 ≤ z ∧ z ≤ 2147483647) : Sf d ac (nu M 121 l z) (nu M 121 l z) := by
  refine (h.sq.u (by omega) hz).sf ?_
  intro q h0 h1
  rw [nu_a (by omega)] at h1
  have hT := h
  obtain ⟨a1, a2⟩ := h.2.2.2.1.2 q h0 h1
  rw [nu_a (a' := 120) (by omega), nu_a (a' := 112) (by omega), nu_a (a' := 112) (by omega)]
  refine ⟨a1, fun j b1 b2 => ?_⟩
  rw [nu_a (by omega)] at b2
  have t := t_118 hT (i := M 120 q) (t_120 hT h0).1
  rw [nu_i (by omega)]
  exact a2 j b1 b2
theorem Sf.w112_11 (h : Sf d ac M M) {q l z : Int} (hq : M 112 11 = q) (hz : 0 ≤ q ∧ z = q + 1 ∧ z ≤ 30) (hl : M 120 q = l) (hl2 : l < M 112 7) (hu : ∀ j : Int, 0 ≤ j → j < M 118 l → 0 ≤ M 121 (3 * q + j) ∧ M 121 (3 * q + j) < M 112 10) : Sf d ac (nu M 112 11 z) (nu M 112 11 z) := by
  have hr : (tb d ac 112 11).1 ≤ z ∧ z ≤ (tb d ac 112 11).2 := by
    show (0 : Int) ≤ z ∧ z ≤ 30
    omega
  refine (h.sq.u (by omega) hr).sf ?_
  intro p h0 h1
  rw [nu_s] at h1
  rw [nu_a (a' := 120) (by omega), nu_i (i' := 7) (by omega), nu_i (i' := 10) (by omega)]
  by_cases e : p = q
  · subst e
    rw [hl]
    refine ⟨hl2, fun j b1 b2 => ?_⟩
    rw [nu_a (by omega)] at b2
    rw [nu_a (by omega)]
    exact hu j b1 b2
  · obtain ⟨a1, a2⟩ := h.2.2.2.1.2 p h0 (by omega)
    refine ⟨a1, fun j b1 b2 => ?_⟩
    rw [nu_a (by omega)] at b2
    rw [nu_a (by omega)]
    exact a2 j b1 b2
end
