/-! The maker's own rows: what stands while it makes. C codes, D rows of three, A1 A2 A3 the most that its lines tell, then the nine weights. -/
def LK (q r w1 w2 w3 : Int) (M : nM) : Prop := M q 1 = w1 ∧ M q 2 = w2 ∧ M q 3 = w3 ∧ ∀ i : Int, 0 ≤ i → i < 27 → M r i = 0
def MK (C D A1 A2 A3 p1 p2 p3 q1 q2 q3 r1 r2 r3 : Int) (M : nM) : Prop :=
  M 15 0 = 4 ∧ (M 15 9 = 31 → C ≤ 256) ∧ C ≤ 19683
  ∧ (∀ i : Int, 0 ≤ i → i < M 15 10 → M 20 i < C ∧ M 22 i < D ∧ M 23 i < D ∧ M 24 i < D)
  ∧ (∀ i : Int, 0 ≤ i → i < 27 → (0 ≤ M 26 i ∧ M 26 i ≤ A1) ∧ (0 ≤ M 28 i ∧ M 28 i ≤ A2) ∧ (0 ≤ M 30 i ∧ M 30 i ≤ A3))
  ∧ (M 25 1 = p1 ∧ M 25 2 = p2 ∧ M 25 3 = p3) ∧ (M 27 1 = q1 ∧ M 27 2 = q2 ∧ M 27 3 = q3) ∧ (M 29 1 = r1 ∧ M 29 2 = r2 ∧ M 29 3 = r3)
def Kok (C D A1 A2 A3 a i z : Int) : Prop := (a = 20 → z < C) ∧ (a = 22 ∨ a = 23 ∨ a = 24 → z < D) ∧ (a = 26 → 0 ≤ z ∧ z ≤ A1) ∧ (a = 28 → 0 ≤ z ∧ z ≤ A2) ∧ (a = 30 → 0 ≤ z ∧ z ≤ A3) ∧ (a = 15 → i = 11) ∧ a ≠ 25 ∧ a ≠ 27 ∧ a ≠ 29
theorem made103 : MadeAt 103 := ⟨by omega, by omega, by omega⟩
theorem made106 : MadeAt 106 := ⟨by omega, by omega, by omega⟩
theorem made109 : MadeAt 109 := ⟨by omega, by omega, by omega⟩
section
variable {C D A1 A2 A3 p1 p2 p3 q1 q2 q3 r1 r2 r3 : Int} {M M2 M0 : nM} {d ac : Int}
theorem MK.u {a i z : Int} (h : MK C D A1 A2 A3 p1 p2 p3 q1 q2 q3 r1 r2 r3 M) (hw : Kok C D A1 A2 A3 a i z) (he : M2 = nu M a i z) : MK C D A1 A2 A3 p1 p2 p3 q1 q2 q3 r1 r2 r3 M2 := by
  subst he
  obtain ⟨h0, h1, h1b, h2, h3, h4, h5, h6⟩ := h
  obtain ⟨w1, w2, w3, w4, w5, w6, w7, w8, w9⟩ := hw
  have e0 : ∀ b : Int, b ≠ 11 → nu M a i z 15 b = M 15 b := fun b hb => by
    rw [nu_e]
    split
    · rename_i q
      exact absurd (q.2.trans (w6 q.1.symm)) hb
    · rfl
  refine ⟨by rw [e0 0 (by omega)]; exact h0, by rw [e0 9 (by omega)]; exact h1, h1b, fun k k0 k1 => ?_, fun k k0 k1 => ?_, ?_, ?_, ?_⟩
  · rw [e0 10 (by omega)] at k1
    obtain ⟨a1, a2, a3, a4⟩ := h2 k k0 k1
    refine ⟨?_, ?_, ?_, ?_⟩
    · rw [nu_e]; split
      · rename_i q; exact w1 q.1.symm
      · exact a1
    · rw [nu_e]; split
      · rename_i q; exact w2 (Or.inl q.1.symm)
      · exact a2
    · rw [nu_e]; split
      · rename_i q; exact w2 (Or.inr (Or.inl q.1.symm))
      · exact a3
    · rw [nu_e]; split
      · rename_i q; exact w2 (Or.inr (Or.inr q.1.symm))
      · exact a4
  · obtain ⟨a1, a2, a3⟩ := h3 k k0 k1
    refine ⟨?_, ?_, ?_⟩
    · rw [nu_e]; split
      · rename_i q; exact w3 q.1.symm
      · exact a1
    · rw [nu_e]; split
      · rename_i q; exact w4 q.1.symm
      · exact a2
    · rw [nu_e]; split
      · rename_i q; exact w5 q.1.symm
      · exact a3
  · rw [nu_a (i' := 1) (Ne.symm w7), nu_a (i' := 2) (Ne.symm w7), nu_a (i' := 3) (Ne.symm w7)]; exact h4
  · rw [nu_a (i' := 1) (Ne.symm w8), nu_a (i' := 2) (Ne.symm w8), nu_a (i' := 3) (Ne.symm w8)]; exact h5
  · rw [nu_a (i' := 1) (Ne.symm w9), nu_a (i' := 2) (Ne.symm w9), nu_a (i' := 3) (Ne.symm w9)]; exact h6
theorem MK.cnt {c z : Int} (h : MK C D A1 A2 A3 p1 p2 p3 q1 q2 q3 r1 r2 r3 M) (hc : M 15 10 = c) (hr : M 20 c < C ∧ M 22 c < D ∧ M 23 c < D ∧ M 24 c < D) (hz : z ≤ c + 1) (he : M2 = nu M 15 10 z) : MK C D A1 A2 A3 p1 p2 p3 q1 q2 q3 r1 r2 r3 M2 := by
  subst he
  obtain ⟨h0, h1, h1b, h2, h3, h4, h5, h6⟩ := h
  refine ⟨by rw [nu_i (by omega)]; exact h0, by rw [nu_i (by omega)]; exact h1, h1b, fun k k0 k1 => ?_, fun k k0 k1 => ?_, ?_, ?_, ?_⟩
  · rw [nu_s] at k1
    rw [nu_a (by omega), nu_a (by omega), nu_a (by omega), nu_a (by omega)]
    by_cases e : k = c
    · rw [e]; exact hr
    · exact h2 k k0 (by omega)
  · rw [nu_a (by omega), nu_a (by omega), nu_a (by omega)]; exact h3 k k0 k1
  · rw [nu_a (i' := 1) (by omega), nu_a (i' := 2) (by omega), nu_a (i' := 3) (by omega)]; exact h4
  · rw [nu_a (i' := 1) (by omega), nu_a (i' := 2) (by omega), nu_a (i' := 3) (by omega)]; exact h5
  · rw [nu_a (i' := 1) (by omega), nu_a (i' := 2) (by omega), nu_a (i' := 3) (by omega)]; exact h6
theorem MK.mk0 (hb : M 15 0 = 4) (hp : M 15 9 = 31 → C ≤ 256) (hC : C ≤ 19683) (hA : 0 ≤ A1 ∧ 0 ≤ A2 ∧ 0 ≤ A3) (hc : M 15 10 ≤ 0) (l1 : LK 25 26 p1 p2 p3 M) (l2 : LK 27 28 q1 q2 q3 M) (l3 : LK 29 30 r1 r2 r3 M) : MK C D A1 A2 A3 p1 p2 p3 q1 q2 q3 r1 r2 r3 M := by
  refine ⟨hb, hp, hC, fun k k0 k1 => by omega, fun k k0 k1 => ?_, ⟨l1.1, l1.2.1, l1.2.2.1⟩, ⟨l2.1, l2.2.1, l2.2.2.1⟩, ⟨l3.1, l3.2.1, l3.2.2.1⟩⟩
  have e1 := l1.2.2.2 k k0 k1
  have e2 := l2.2.2.2 k k0 k1
  have e3 := l3.2.2.2 k k0 k1
  omega
theorem LK.of {q r w1 w2 w3 : Int} (h : LK q r w1 w2 w3 M) (hq : ∀ i, M2 q i = M q i) (hr : ∀ i, M2 r i = M r i) : LK q r w1 w2 w3 M2 := ⟨by rw [hq]; exact h.1, by rw [hq]; exact h.2.1, by rw [hq]; exact h.2.2.1, fun i a b => by rw [hr]; exact h.2.2.2 i a b⟩
theorem MK.b (h : MK C D A1 A2 A3 p1 p2 p3 q1 q2 q3 r1 r2 r3 M) : M 15 0 = 4 := h.1
theorem MK.r20 (h : MK C D A1 A2 A3 p1 p2 p3 q1 q2 q3 r1 r2 r3 M) (hS : Sf d ac M0 M) {i : Int} (h0 : 0 ≤ i) (h1 : i < M 15 10) : 0 ≤ M 20 i ∧ M 20 i ≤ C - 1 := by
  have a1 := t_20 hS h0
  have a2 := (h.2.2.2.1 i h0 h1).1
  omega
theorem MK.r22 (h : MK C D A1 A2 A3 p1 p2 p3 q1 q2 q3 r1 r2 r3 M) (hS : Sf d ac M0 M) {i : Int} (h0 : 0 ≤ i) (h1 : i < M 15 10) : 0 ≤ M 22 i ∧ M 22 i ≤ D - 1 := by
  have a1 := t_22 hS h0
  have a2 := (h.2.2.2.1 i h0 h1).2.1
  omega
theorem MK.r23 (h : MK C D A1 A2 A3 p1 p2 p3 q1 q2 q3 r1 r2 r3 M) (hS : Sf d ac M0 M) {i : Int} (h0 : 0 ≤ i) (h1 : i < M 15 10) : 0 ≤ M 23 i ∧ M 23 i ≤ D - 1 := by
  have a1 := t_23 hS h0
  have a2 := (h.2.2.2.1 i h0 h1).2.2.1
  omega
theorem MK.r24 (h : MK C D A1 A2 A3 p1 p2 p3 q1 q2 q3 r1 r2 r3 M) (hS : Sf d ac M0 M) {i : Int} (h0 : 0 ≤ i) (h1 : i < M 15 10) : 0 ≤ M 24 i ∧ M 24 i ≤ D - 1 := by
  have a1 := t_24 hS h0
  have a2 := (h.2.2.2.1 i h0 h1).2.2.2
  omega
theorem MK.l26 (h : MK C D A1 A2 A3 p1 p2 p3 q1 q2 q3 r1 r2 r3 M) {i : Int} (h0 : 0 ≤ i) (h1 : i < 27) : 0 ≤ M 26 i ∧ M 26 i ≤ A1 := (h.2.2.2.2.1 i h0 h1).1
theorem MK.l28 (h : MK C D A1 A2 A3 p1 p2 p3 q1 q2 q3 r1 r2 r3 M) {i : Int} (h0 : 0 ≤ i) (h1 : i < 27) : 0 ≤ M 28 i ∧ M 28 i ≤ A2 := (h.2.2.2.2.1 i h0 h1).2.1
theorem MK.l30 (h : MK C D A1 A2 A3 p1 p2 p3 q1 q2 q3 r1 r2 r3 M) {i : Int} (h0 : 0 ≤ i) (h1 : i < 27) : 0 ≤ M 30 i ∧ M 30 i ≤ A3 := (h.2.2.2.2.1 i h0 h1).2.2
theorem MK.w25 (h : MK C D A1 A2 A3 p1 p2 p3 q1 q2 q3 r1 r2 r3 M) : (p1 ≤ M 25 1 ∧ M 25 1 ≤ p1) ∧ (p2 ≤ M 25 2 ∧ M 25 2 ≤ p2) ∧ (p3 ≤ M 25 3 ∧ M 25 3 ≤ p3) := by
  have a := h.2.2.2.2.2.1
  omega
theorem MK.w27 (h : MK C D A1 A2 A3 p1 p2 p3 q1 q2 q3 r1 r2 r3 M) : (q1 ≤ M 27 1 ∧ M 27 1 ≤ q1) ∧ (q2 ≤ M 27 2 ∧ M 27 2 ≤ q2) ∧ (q3 ≤ M 27 3 ∧ M 27 3 ≤ q3) := by
  have a := h.2.2.2.2.2.2.1
  omega
theorem MK.w29 (h : MK C D A1 A2 A3 p1 p2 p3 q1 q2 q3 r1 r2 r3 M) : (r1 ≤ M 29 1 ∧ M 29 1 ≤ r1) ∧ (r2 ≤ M 29 2 ∧ M 29 2 ≤ r2) ∧ (r3 ≤ M 29 3 ∧ M 29 3 ≤ r3) := by
  have a := h.2.2.2.2.2.2.2
  omega
end
section
variable {C D A1 A2 A3 p1 p2 p3 q1 q2 q3 r1 r2 r3 : Int} {xs : List Int32} {d j k : Nat} {L : nL} {st : List nX} {M M0 : nM} {Q : Option nX → nM → Prop} {nx nx2 a b c a2 b2 c2 : Nat} {dd ac : Int}
theorem n_getB {i} (hc : mj_code j k = some (.getfield i, nx, 7, 0, c)) (hB : M 15 0 = 4) (h : nW xs d j nx L ((2, 4) :: st) M Q) : nW xs d j k L ((2, 15) :: st) M Q := n_getD (bi := 0) hc sc_15.n rfl rfl rfl (by decide) (by rw [hB]; exact h)
theorem n_putB {i} (hS : Sf dd ac M0 M) (hc : mj_code j k = some (.putfield i, nx, 7, 0, c)) (h : ∀ M2, M2 = nu M 15 0 4 → Sf dd ac M0 M2 → nW xs d j nx L st M2 Q) : nW xs d j k L ((2, 4) :: (2, 15) :: st) M Q := n_putR (r := 15) (n := 12) hc sc_15.n rfl rfl (fun _ => rfl) (by decide) (h _ rfl (hS.u (w_15_0 (by omega))))
theorem n_stk {x y : Int} {κ : Nat} (e : x = y) (h : nW xs d j k L ((κ, y) :: st) M Q) : nW xs d j k L ((κ, x) :: st) M Q := by rw [e]; exact h
theorem n_getP {i} (hc : mj_code j k = some (.getfield i, nx, 7, 9, c)) (h : ∀ p, p = M 15 9 → nW xs d j nx L ((2, p) :: st) M Q) : nW xs d j k L ((2, 15) :: st) M Q := n_getD (bi := 9) hc sc_15.n rfl rfl rfl (by decide) (h _ rfl)
theorem n_ialoadP {p i : Int} (hS : Sf dd ac M0 M) (hK : MK C D A1 A2 A3 p1 p2 p3 q1 q2 q3 r1 r2 r3 M) (hc : mj_code j k = some (.iaload, nx, a, b, c)) (hp : p = M 15 9) (hi : 0 ≤ i ∧ i < C) (h : ∀ z, 0 ≤ z ∧ z ≤ 257 → nW xs d j nx L ((0, z) :: st) M Q) : nW xs d j k L ((0, i) :: (2, p) :: st) M Q := by
  subst hp
  have k1 := hK.2.1
  have k2 := hK.2.2.1
  rcases hS.2.2.1 with ⟨e, f⟩ | ⟨e, f⟩
  · rw [e]
    have k3 := k1 e
    exact n_iaload hc sc_31.n rfl rfl rfl (by omega) (h _ (t_31 hS hi.1))
  · rw [e]
    exact n_iaload hc (Or.inr ⟨rfl, f, rfl, rfl⟩) rfl rfl rfl (by omega) (h _ (t_130 hS hi.1))
theorem n_iastoreP {p i z : Int} (hS : Sf dd ac M0 M) (hK : MK C D A1 A2 A3 p1 p2 p3 q1 q2 q3 r1 r2 r3 M) (hc : mj_code j k = some (.iastore, nx, a, b, c)) (hp : p = M 15 9) (hi : 0 ≤ i ∧ i < C) (hz : 0 ≤ z ∧ z ≤ 257) (h : ∀ M2, (∀ a' i', a' ≠ 31 → a' ≠ 130 → M2 a' i' = M a' i') → Sf dd ac M0 M2 → MK C D A1 A2 A3 p1 p2 p3 q1 q2 q3 r1 r2 r3 M2 → nW xs d j nx L st M2 Q) : nW xs d j k L ((0, z) :: (0, i) :: (2, p) :: st) M Q := by
  subst hp
  have k1 := hK.2.1
  have k2 := hK.2.2.1
  rcases hS.2.2.1 with ⟨e, f⟩ | ⟨e, f⟩
  · rw [e]
    have k3 := k1 e
    exact n_iastore hc sc_31.n rfl (by omega) (h _ (fun a' i' u _ => nu_a u) (hS.u (w_31 hi.1 hz)) (hK.u (by unfold Kok; omega) rfl))
  · rw [e]
    exact n_iastore hc (Or.inr ⟨rfl, f, rfl, rfl⟩) rfl (by omega) (h _ (fun a' i' _ u => nu_a u) (hS.u (w_130 hi.1 hz)) (hK.u (by unfold Kok; omega) rfl))
theorem n_alenP {p : Int} (hS : Sf dd ac M0 M) (hc : mj_code j k = some (.arraylength, nx, a, b, c)) (hp : p = M 15 9) (h : ∀ z, (M 15 9 = 31 ∧ z = 256) ∨ (M 15 9 = 130 ∧ z = 19683) → nW xs d j nx L ((0, z) :: st) M Q) : nW xs d j k L ((2, p) :: st) M Q := by
  subst hp
  rcases hS.2.2.1 with ⟨e, f⟩ | ⟨e, f⟩
  · rw [e]
    exact n_alen hc sc_31.n rfl (h _ (Or.inl ⟨e, rfl⟩))
  · rw [e]
    exact n_alen hc (Or.inr ⟨rfl, f, rfl, rfl⟩) rfl (h _ (Or.inr ⟨e, rfl⟩))
theorem Sf.big (hS : Sf dd ac M0 M) : Sf dd ac M0 (nu (nbig M) 15 9 130) := by
  obtain ⟨h1, h2, h3, h4, h5⟩ := hS
  have e : ∀ a i : Int, a ≠ -1 → a ≠ 130 → nbig M a i = M a i := fun a i u v => by
    unfold nbig
    rw [if_neg (fun q => u q.1), if_neg v]
  refine ⟨fun a i h0 => ?_, fun i h0 => ?_, ?_, ⟨fun a i hc => ?_, h4.2⟩, h5⟩
  · rw [nu_e]
    split
    · rename_i q
      rw [q.1, q.2]
      show (31 : Int) ≤ 130 ∧ (130 : Int) ≤ 130
      omega
    · unfold nbig
      split
      · rename_i q
        rw [q.1, q.2]
        show (0 : Int) ≤ 1 ∧ (1 : Int) ≤ 1
        omega
      · split
        · rename_i q
          rw [q]
          show (0 : Int) ≤ 0 ∧ (0 : Int) ≤ 257
          omega
        · exact h1 a i h0
  · rw [nu_a (by omega), e 41 i (by omega) (by omega)]
    exact h2 i h0
  · right
    refine ⟨nu_s _ _ _ _, ?_⟩
    rw [nu_a (by omega)]
    rfl
  · have q : a ≠ -1 ∧ a ≠ 130 ∧ a ≠ 15 := by
      unfold core at hc
      omega
    rw [nu_a q.2.2, e a i q.1 q.2.1]
    exact h4.1 a i hc
theorem n_bigP {i} (hS : Sf dd ac M0 M) (hc : mj_code j k = some (.newarray .int, nx, a, b, c)) (hc2 : mj_code j nx = some (.putfield i, nx2, 7, 9, c2)) (hf : M 15 9 = 31) (h : ∀ M2, (∀ a' i', a' ≠ -1 → a' ≠ 130 → ¬ (a' = 15 ∧ i' = 9) → M2 a' i' = M a' i') → M2 15 9 = 130 → Sf dd ac M0 M2 → nW xs d j nx2 L st M2 Q) : nW xs d j k L ((0, 19683) :: (2, 15) :: st) M Q := by
  have f : M (-1) 0 ≠ 1 := by
    rcases hS.2.2.1 with ⟨e, f⟩ | ⟨e, f⟩
    · omega
    · omega
  refine n_big hc f (n_putR (r := 15) (n := 12) hc2 sc_15.n rfl rfl (fun _ => rfl) (by decide) (h _ (fun a' i' u v w => ?_) (nu_s _ _ _ _) hS.big))
  rw [nu_e]
  split
  · rename_i q
    exact absurd q w
  · unfold nbig
    rw [if_neg (fun q => u q.1), if_neg v]
end
