/-! Asks on both sides. -/
def AskEq (i : Int) (M : nM) : Prop := M 33 i = M 120 i ∧ (0 ≤ M 120 i ∧ M 120 i < M 3 15) ∧ M 34 i = M 121 (3 * i) ∧ M 35 i = (if 1 < M 118 (M 120 i) then M 121 (3 * i + 1) else M 121 (3 * i)) ∧ M 36 i = (if 2 < M 118 (M 120 i) then M 121 (3 * i + 2) else M 35 i)
def RXk (M : nM) : Prop := ∀ i : Int, 0 ≤ i → i < M 32 1 → AskEq i M
theorem AskEq.of {i : Int} {M M2 : nM} (h : AskEq i M) (h1 : M 3 15 ≤ M2 3 15) (e : ∀ a j : Int, (33 ≤ a ∧ a ≤ 36 ∧ j = i) ∨ (a = 120 ∧ j = i) ∨ (a = 121 ∧ 3 * i ≤ j ∧ j ≤ 3 * i + 2) ∨ (a = 118 ∧ j < M 3 15) → M2 a j = M a j) : AskEq i M2 := by
  obtain ⟨g1, g2, g3, g4, g5⟩ := h
  unfold AskEq
  rw [e 33 i (by omega), e 120 i (by omega), e 34 i (by omega), e 35 i (by omega), e 36 i (by omega), e 121 (3 * i) (by omega), e 121 (3 * i + 1) (by omega), e 121 (3 * i + 2) (by omega), e 118 (M 120 i) (by omega)]
  exact ⟨g1, by omega, g3, g4, g5⟩
theorem RXk.of {M M2 : nM} (h : RXk M) (h0 : M2 32 1 = M 32 1) (h1 : M 3 15 ≤ M2 3 15) (e : ∀ a j : Int, (33 ≤ a ∧ a ≤ 36) ∨ a = 120 ∨ a = 121 ∨ (a = 118 ∧ j < M 3 15) → M2 a j = M a j) : RXk M2 := fun i i0 i1 => (h i i0 (by omega)).of h1 (fun a j q => e a j (by omega))
def cAskR (l x y w z : Int) (M M1 : nM) : Prop := 0 ≤ z → M1 33 z = l ∧ M1 34 z = x ∧ M1 35 z = (if 1 < M (79 + 2 * l) 0 then y else x) ∧ M1 36 z = (if 2 < M (79 + 2 * l) 0 then w else if 1 < M (79 + 2 * l) 0 then y else x)
def mAskR (l x y w z : Int) (M1 : nM) : Prop := 0 ≤ z → M1 120 z = l ∧ M1 121 (3 * z) = x ∧ M1 121 (3 * z + 1) = y ∧ M1 121 (3 * z + 2) = w
def RLK (d : Int) (M : nM) : Prop := RLX d M ∧ RXk M
theorem RLK.of {d ac : Int} {M0 M M2 : nM} (h : RLK d M) (hd : d = 2 ∨ d = 3) (hS : Sf d ac M0 M) (e : Eqc M M2) : RLK d M2 := ⟨h.1.of hd hS e, h.2.of (e 32 1 (by unfold core; omega)) (by rw [e 3 15 (by unfold core; omega)]; omega) (fun a j q => e a j (by unfold core; omega))⟩
section
variable {d ac s w n z z2 i v k r u l x y : Int} {M0 M M1 M2 : nM}
theorem RLK.two (h : RLK d M) (q : RLX d M2 ∧ z = z2) (e1 : ∀ a i : Int, core a i → (a = 3 ∧ i = 15) ∨ (32 ≤ a ∧ a ≤ 36) ∨ (118 ≤ a ∧ a ≤ 121) → M1 a i = M a i) (e2 : ∀ a i : Int, core a i → (a = 3 ∧ i = 15) ∨ (32 ≤ a ∧ a ≤ 36) ∨ (118 ≤ a ∧ a ≤ 121) → M2 a i = M1 a i) : RLK d M2 ∧ z = z2 := by
  have ee : ∀ a i : Int, core a i → (a = 3 ∧ i = 15) ∨ (32 ≤ a ∧ a ≤ 36) ∨ (118 ≤ a ∧ a ≤ 121) → M2 a i = M a i := fun a i hc u => (e2 a i hc u).trans (e1 a i hc u)
  exact ⟨⟨q.1, h.2.of (ee 32 1 (by unfold core; omega) (by omega)) (by rw [ee 3 15 (by unfold core; omega) (by omega)]; omega) (fun a j u => ee a j (by unfold core; omega) (by omega))⟩, q.2⟩
theorem RLK.row (hd : d = 2 ∨ d = 3) (h : RLK d M) (hS : Sf d ac M0 M) (c : cRow s w n z M M1) (m : mRow s w n z2 M1 M2) : RLK d M2 ∧ z = z2 := RLK.two h (RLX.row hd h.1 hS c m)
  (fun a i hc q => by
    rcases c with ⟨-, -, e⟩ | ⟨-, -, -, -, -, -, e⟩ | ⟨-, -, -, -, -, -, -, -, -, -, e⟩
    · exact e a i hc
    · exact e a i hc
    · exact e a i hc (by omega) (by omega) (by omega))
  (fun a i hc q => by
    rcases m with ⟨-, -, e⟩ | ⟨-, -, -, -, -, -, e⟩ | ⟨-, -, -, -, -, -, -, -, -, -, e⟩
    · exact e a i hc
    · exact e a i hc
    · exact e a i hc (by omega) (by omega) (by omega))
theorem RLK.tear (hd : d = 2 ∨ d = 3) (h : RLK d M) (hS : Sf d ac M0 M) (c : cTear s z M M1) (m : mTear s z2 M1 M2) : RLK d M2 ∧ z = z2 := RLK.two h (RLX.tear hd h.1 hS c m)
  (fun a i hc q => by
    rcases c with ⟨-, -, e⟩ | ⟨-, -, -, -, -, e⟩
    · exact e a i hc
    · exact e a i hc (by omega))
  (fun a i hc q => by
    rcases m with ⟨-, -, e⟩ | ⟨-, -, -, -, -, e⟩
    · exact e a i hc
    · exact e a i hc (by omega))
theorem RLK.wri (hd : d = 2 ∨ d = 3) (h : RLK d M) (hS : Sf d ac M0 M) (c : cWri s i v z M M1) (m : mWri s i v z2 M1 M2) : RLK d M2 ∧ z = z2 := RLK.two h (RLX.wri hd h.1 hS c m)
  (fun a i hc q => by
    rcases c with ⟨-, -, e⟩ | ⟨-, -, -, -, e⟩ | ⟨-, -, -, -, -, e⟩ | ⟨-, -, -, -, -, -, e⟩
    · exact e a i hc
    · exact e a i hc
    · exact e a i hc
    · exact e a i hc (by omega))
  (fun a i hc q => by
    rcases m with ⟨-, -, e⟩ | ⟨-, -, -, -, e⟩ | ⟨-, -, -, -, -, e⟩ | ⟨-, -, -, -, -, -, -, e⟩
    · exact e a i hc
    · exact e a i hc
    · exact e a i hc
    · exact e a i hc (by omega))
theorem RLK.act (hd : d = 2 ∨ d = 3) (hr : (1 ≤ k ∧ k ≤ 3) → r = pw d k) (h : RLK d M) (hS : Sf d ac M0 M) (c : cAct d k r s z M M1) (m : mAct d k r s z2 M1 M2) : RLK d M2 ∧ z = z2 := RLK.two h (RLX.act hd hr h.1 hS c m)
  (fun a i hc q => by
    have b14 := t_3_14x hS
    rcases c with ⟨-, -, e⟩ | ⟨-, -, -, -, -, -, e⟩ | ⟨-, -, -, -, -, -, -, e⟩ | ⟨-, -, -, -, -, -, -, e⟩ | ⟨-, -, -, -, -, -, -, -, -, -, e⟩
    · exact e a i hc
    · exact e a i hc
    · exact e a i hc
    · exact e a i hc
    · exact e a i hc (by omega) (by omega))
  (fun a i hc q => by
    rcases m with ⟨-, -, e⟩ | ⟨-, -, -, -, -, -, e⟩ | ⟨-, -, -, -, -, -, -, e⟩ | ⟨-, -, -, -, -, -, -, e⟩ | ⟨-, -, -, -, -, -, -, -, -, -, -, e⟩
    · exact e a i hc
    · exact e a i hc
    · exact e a i hc
    · exact e a i hc (by omega)
    · exact e a i hc (by omega) (by omega) (by omega))
theorem RLK.law (hd : d = 2 ∨ d = 3) (h : RLK d M) (hS : Sf d ac M0 M) (c : cLaw d k s z M M1 ∧ cLawR d z M1) (m : mLaw d k s z2 M1 M2) : RLK d M2 ∧ z = z2 := by
  have q := RLX.law hd h.1 hS c m
  have b15 := t_3_15 hS
  have g7 := h.1.1.2.2.1.1
  refine ⟨⟨q.1, ?_⟩, q.2⟩
  have e1 : ∀ a i : Int, core a i → (32 ≤ a ∧ a ≤ 36) ∨ 112 ≤ a → M1 a i = M a i := fun a i hc u => by
    rcases c.1 with ⟨-, -, e⟩ | ⟨-, -, -, -, -, -, e⟩ | ⟨-, -, -, -, -, -, -, e⟩ | ⟨-, -, -, -, -, -, -, e⟩ | ⟨-, -, -, -, -, -, -, -, -, -, -, e⟩
    · exact e a i hc
    · exact e a i hc
    · exact e a i hc
    · exact e a i hc
    · exact e a i hc (by omega) (by omega)
  have n15 : M 3 15 ≤ M1 3 15 := by
    rcases c.1 with ⟨-, -, e⟩ | ⟨-, -, -, -, -, -, e⟩ | ⟨-, -, -, -, -, -, -, e⟩ | ⟨-, -, -, -, -, -, -, e⟩ | ⟨-, -, -, -, -, -, -, -, e, -⟩
    · rw [e 3 15 (by unfold core; omega)]; omega
    · rw [e 3 15 (by unfold core; omega)]; omega
    · rw [e 3 15 (by unfold core; omega)]; omega
    · rw [e 3 15 (by unfold core; omega)]; omega
    · omega
  have e7 := e1 112 7 (by unfold core; omega) (by omega)
  have e2 : ∀ a i : Int, core a i → (a = 3 ∧ i = 15) ∨ (32 ≤ a ∧ a ≤ 36) ∨ a = 120 ∨ a = 121 ∨ (a = 118 ∧ i < M 3 15) → M2 a i = M1 a i := fun a i hc u => by
    rcases m with ⟨-, -, e⟩ | ⟨-, -, -, -, -, -, e⟩ | ⟨-, -, -, -, -, -, -, e⟩ | ⟨-, -, -, -, -, -, -, e⟩ | ⟨-, -, -, -, -, -, -, -, -, -, -, e⟩
    · exact e a i hc
    · exact e a i hc
    · exact e a i hc
    · exact e a i hc
    · exact e a i hc (by omega) (by omega) (by omega)
  exact h.2.of ((e2 32 1 (by unfold core; omega) (by omega)).trans (e1 32 1 (by unfold core; omega) (by omega))) (by rw [e2 3 15 (by unfold core; omega) (by omega)]; exact n15) (fun a j u => (e2 a j (by unfold core; omega) (by omega)).trans (e1 a j (by unfold core; omega) (by omega)))
theorem RLK.rid (hd : d = 2 ∨ d = 3) (h : RLK d M) (hS : Sf d ac M0 M) (c : cRid u z M M1) (m : mRid u z2 M1 M2) : RLK d M2 ∧ z = z2 := by
  have q := RLX.rid hd h.1 hS c m
  refine ⟨⟨q.1, ?_⟩, q.2⟩
  have e2 : ∀ a i : Int, core a i → a < 112 ∨ 112 < a → M2 a i = M1 a i := fun a i hc w => by
    rcases m with ⟨-, -, e⟩ | ⟨-, -, -, -, -, e⟩
    · exact e a i hc
    · exact e a i hc (by omega)
  rcases c with ⟨-, -, e⟩ | ⟨-, -, -, -, c1, e⟩
  · have ee : ∀ a i : Int, core a i → a < 112 ∨ 112 < a → M2 a i = M a i := fun a i hc w => (e2 a i hc w).trans (e a i hc)
    exact h.2.of (ee 32 1 (by unfold core; omega) (by omega)) (by rw [ee 3 15 (by unfold core; omega) (by omega)]; omega) (fun a j w => ee a j (by unfold core; omega) (by omega))
  · intro i i0 i1
    rw [e2 32 1 (by unfold core; omega) (by omega), c1] at i1
    omega
theorem RLK.fre {e : Int} (h : RLK d M) (h14 : M1 3 14 = 0) (c : cFre M M1) (m : mFre M1 M2) : RLK e M2 := ⟨RLX.fre h.1 h14 c m, fun i i0 i1 => by
  rw [m.2.2.2.2 32 1 (by unfold core; omega) (by omega), c.2.2.1] at i1
  omega⟩
theorem RLK.ask (hd : d = 2 ∨ d = 3) (h : RLK d M) (hS : Sf d ac M0 M) (c : cAsk l x y w z M M1 ∧ cAskR l x y w z M M1) (m : mAsk l x y w z2 M1 M2 ∧ mAskR l x y w z2 M2) : RLK d M2 ∧ z = z2 := by
  obtain ⟨c, cr⟩ := c
  obtain ⟨m, mr⟩ := m
  have q := RLX.ask hd h.1 hS c m
  refine ⟨⟨q.1, ?_⟩, q.2⟩
  have b1 := t_32_1 hS
  have g11 := h.1.1.2.2.2.2
  have gl := h.1.1.2.2.1
  have e1 : ∀ a i : Int, core a i → ¬ ((a = 32 ∧ i = 1) ∨ (a = 3 ∧ i = 18)) → ¬ (33 ≤ a ∧ a ≤ 36 ∧ i = M 32 1) → M1 a i = M a i := fun a i hc w1 w2 => by
    rcases c with ⟨-, -, e⟩ | ⟨-, -, -, -, -, e⟩ | ⟨-, -, -, -, -, -, e⟩
    · exact e a i hc
    · exact e a i hc
    · exact e a i hc w1 w2
  have e11 := e1 112 11 (by unfold core; omega) (by omega) (by omega)
  have e2 : ∀ a i : Int, core a i → ¬ (a = 112 ∧ i = 11) → ¬ (a = 120 ∧ i = M 32 1) → ¬ (a = 121 ∧ 3 * M 32 1 ≤ i) → M2 a i = M1 a i := fun a i hc w1 w2 w3 => by
    rcases m with ⟨-, -, e⟩ | ⟨-, -, -, -, -, e⟩ | ⟨-, -, -, -, -, -, e⟩
    · exact e a i hc
    · exact e a i hc
    · exact e a i hc w1 (by omega) (by omega)
  have old : ∀ i : Int, 0 ≤ i → i < M 32 1 → AskEq i M2 := fun i i0 i1 => (h.2 i i0 i1).of (by rw [e2 3 15 (by unfold core; omega) (by omega) (by omega) (by omega), e1 3 15 (by unfold core; omega) (by omega) (by omega)]; omega) (fun a j u => by rw [e2 a j (by unfold core; omega) (by omega) (by omega) (by omega), e1 a j (by unfold core; omega) (by omega) (by omega)])
  rcases c with ⟨-, -, e⟩ | ⟨-, -, -, -, -, e⟩ | ⟨p1, p2, -, -, p5, p6, -⟩
  · intro i i0 i1
    rw [e2 32 1 (by unfold core; omega) (by omega) (by omega) (by omega), e 32 1 (by unfold core; omega)] at i1
    exact old i i0 i1
  · intro i i0 i1
    rw [e2 32 1 (by unfold core; omega) (by omega) (by omega) (by omega), e 32 1 (by unfold core; omega)] at i1
    exact old i i0 i1
  · intro i i0 i1
    rw [e2 32 1 (by unfold core; omega) (by omega) (by omega) (by omega), p6] at i1
    by_cases hi : i = M 32 1
    · have ez : z = i := by omega
      have ez2 : z2 = i := by rw [← q.2]; exact ez
      obtain ⟨a1, a2, a3, a4⟩ := cr (by omega)
      obtain ⟨b1', b2, b3, b4⟩ := mr (by omega)
      rw [ez] at a1 a2 a3 a4
      rw [ez2] at b1' b2 b3 b4
      have f : ∀ a : Int, 33 ≤ a → a ≤ 36 → M2 a i = M1 a i := fun a w1 w2 => e2 a i (by unfold core; omega) (by omega) (by omega) (by omega)
      have e118 : M2 118 l = M (79 + 2 * l) 0 := by rw [e2 118 l (by unfold core; omega) (by omega) (by omega) (by omega), e1 118 l (by unfold core; omega) (by omega) (by omega)]; exact (gl.2 l p1 p2).1.symm
      have e15 : M2 3 15 = M 3 15 := by rw [e2 3 15 (by unfold core; omega) (by omega) (by omega) (by omega), e1 3 15 (by unfold core; omega) (by omega) (by omega)]
      unfold AskEq
      rw [f 33 (by omega) (by omega), f 34 (by omega) (by omega), f 35 (by omega) (by omega), f 36 (by omega) (by omega), a1, a2, a3, a4, b1', b2, b3, b4, e118, e15]
      refine ⟨rfl, ⟨p1, p2⟩, rfl, rfl, ?_⟩
      rfl
    · exact old i i0 (by omega)
end
