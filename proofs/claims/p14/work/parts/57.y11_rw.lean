/-! What both keep of what is made, over the calls. -/
def KW (a i : Int) : Prop := (a = 3 ∧ i = 14) ∨ (55 ≤ a ∧ a ≤ 78) ∨ a = 31 ∨ a = 130 ∨ (a = 15 ∧ i = 9) ∨ ((a = 103 ∨ a = 106 ∨ a = 109) ∧ (i = 0 ∨ i = 1 ∨ i = 2)) ∨ a = 124
theorem KW.co {a i : Int} (q : KW a i) : core a i := by
  unfold KW at q
  rcases q with ⟨rfl, rfl⟩ | ⟨h1, h2⟩ | rfl | rfl | ⟨rfl, rfl⟩ | ⟨rfl | rfl | rfl, h⟩ | rfl
  · unfold core; omega
  · exact core_l (Or.inr (Or.inr (Or.inr (Or.inr (Or.inl ⟨h1, by omega⟩)))))
  · unfold core; omega
  · unfold core; omega
  · unfold core; omega
  · unfold core; omega
  · unfold core; omega
  · unfold core; omega
  · unfold core; omega
def KM1 (d : Int) (R : Nat) (n q : Int) (M : nM) : Prop := (M q 0 = 1 → KN (NCl d R n (M 3 14) (Tm M)) (M q 1) (M q 2)) ∧ (M 124 n ≠ -1 → cMd (NCl d R n (M 3 14) (Tm M)) (M 124 n))
def RXw (d : Int) (M : nM) : Prop := PZ M ∧ (d = 2 → KM1 2 2 1 103 M ∧ KM1 2 4 2 106 M ∧ KM1 2 8 3 109 M) ∧ (d = 3 → KM1 3 3 1 103 M ∧ KM1 3 9 2 106 M)
def RLW (d : Int) (M : nM) : Prop := RL d M ∧ RXw d M
section
variable {d ac s w n z z2 i v k r u l x y : Int} {R : Nat} {M0 M M1 M2 : nM}
theorem KM1.of {q : Int} (h : KM1 d R n q M) (hq : q = 103 ∨ q = 106 ∨ q = 109) (e : ∀ a i : Int, KW a i → M2 a i = M a i) : KM1 d R n q M2 := by
  have eT : Tm M2 = Tm M := Tm_of (fun a i q1 q2 => e a i (Or.inr (Or.inl ⟨by omega, q2⟩)))
  unfold KM1 at *
  rw [eT, e 3 14 (by unfold KW; omega), e q 0 (by unfold KW; omega), e q 1 (by unfold KW; omega), e q 2 (by unfold KW; omega), e 124 n (by unfold KW; omega)]
  exact h
theorem RXw.of (h : RXw d M) (hP : M 15 9 = 31 ∨ M 15 9 = 130) (e : ∀ a i : Int, KW a i → M2 a i = M a i) : RXw d M2 := by
  obtain ⟨h1, h2, h3⟩ := h
  refine ⟨PZ.of h1 hP (e 15 9 (by unfold KW; omega)) (fun a i q => e a i (by unfold KW; omega)), fun q => ?_, fun q => ?_⟩
  · obtain ⟨a, b, c⟩ := h2 q
    exact ⟨a.of (by omega) e, b.of (by omega) e, c.of (by omega) e⟩
  · obtain ⟨a, b⟩ := h3 q
    exact ⟨a.of (by omega) e, b.of (by omega) e⟩
theorem RLW.of (h : RLW d M) (hd : d = 2 ∨ d = 3) (hS : Sf d ac M0 M) (e : Eqc M M2) : RLW d M2 := ⟨h.1.of hd hS e, h.2.of hS.p9 (fun a i q => e a i (KW.co q))⟩
theorem RLW.two (h : RLW d M) (hS : Sf d ac M0 M) (q : RL d M2 ∧ z = z2) (e1 : ∀ a i : Int, core a i → KW a i → M1 a i = M a i) (e2 : ∀ a i : Int, core a i → KW a i → M2 a i = M1 a i) : RLW d M2 ∧ z = z2 := ⟨⟨q.1, h.2.of hS.p9 (fun a i u => (e2 a i (KW.co u) u).trans (e1 a i (KW.co u) u))⟩, q.2⟩
theorem RLW.row (hd : d = 2 ∨ d = 3) (h : RLW d M) (hS : Sf d ac M0 M) (c : cRow s w n z M M1) (m : mRow s w n z2 M1 M2) : RLW d M2 ∧ z = z2 := RLW.two h hS (RL.row hd h.1 hS c m)
  (fun a i hc q => by
    unfold KW at q
    rcases c with ⟨-, -, e⟩ | ⟨-, -, -, -, -, -, e⟩ | ⟨-, -, -, -, -, -, -, -, -, -, e⟩
    · exact e a i hc
    · exact e a i hc
    · exact e a i hc (by omega) (by omega) (by omega))
  (fun a i hc q => by
    unfold KW at q
    rcases m with ⟨-, -, e⟩ | ⟨-, -, -, -, -, -, e⟩ | ⟨-, -, -, -, -, -, -, -, -, -, e⟩
    · exact e a i hc
    · exact e a i hc
    · exact e a i hc (by omega) (by omega) (by omega))
theorem RLW.tear (hd : d = 2 ∨ d = 3) (h : RLW d M) (hS : Sf d ac M0 M) (c : cTear s z M M1) (m : mTear s z2 M1 M2) : RLW d M2 ∧ z = z2 := RLW.two h hS (RL.tear hd h.1 hS c m)
  (fun a i hc q => by
    unfold KW at q
    rcases c with ⟨-, -, e⟩ | ⟨-, -, -, -, -, e⟩
    · exact e a i hc
    · exact e a i hc (by omega))
  (fun a i hc q => by
    unfold KW at q
    rcases m with ⟨-, -, e⟩ | ⟨-, -, -, -, -, e⟩
    · exact e a i hc
    · exact e a i hc (by omega))
theorem RLW.wri (hd : d = 2 ∨ d = 3) (h : RLW d M) (hS : Sf d ac M0 M) (c : cWri s i v z M M1) (m : mWri s i v z2 M1 M2) : RLW d M2 ∧ z = z2 := RLW.two h hS (RL.wri hd h.1 hS c m)
  (fun a i hc q => by
    unfold KW at q
    rcases c with ⟨-, -, e⟩ | ⟨-, -, -, -, e⟩ | ⟨-, -, -, -, -, e⟩ | ⟨-, -, -, -, -, -, e⟩
    · exact e a i hc
    · exact e a i hc
    · exact e a i hc
    · exact e a i hc (by omega))
  (fun a i hc q => by
    unfold KW at q
    rcases m with ⟨-, -, e⟩ | ⟨-, -, -, -, e⟩ | ⟨-, -, -, -, -, e⟩ | ⟨-, -, -, -, -, -, -, e⟩
    · exact e a i hc
    · exact e a i hc
    · exact e a i hc
    · exact e a i hc (by omega))
theorem RLW.rid (hd : d = 2 ∨ d = 3) (h : RLW d M) (hS : Sf d ac M0 M) (c : cRid u z M M1) (m : mRid u z2 M1 M2) : RLW d M2 ∧ z = z2 := RLW.two h hS (RL.rid hd h.1 hS c m)
  (fun a i hc q => by
    unfold KW at q
    rcases c with ⟨-, -, e⟩ | ⟨-, -, -, -, -, e⟩
    · exact e a i hc
    · exact e a i hc (by omega))
  (fun a i hc q => by
    unfold KW at q
    rcases m with ⟨-, -, e⟩ | ⟨-, -, -, -, -, e⟩
    · exact e a i hc
    · exact e a i hc (by omega))
theorem RLW.ask (hd : d = 2 ∨ d = 3) (h : RLW d M) (hS : Sf d ac M0 M) (c : cAsk l x y w z M M1) (m : mAsk l x y w z2 M1 M2) : RLW d M2 ∧ z = z2 := RLW.two h hS (RL.ask hd h.1 hS c m)
  (fun a i hc q => by
    unfold KW at q
    rcases c with ⟨-, -, e⟩ | ⟨-, -, -, -, -, e⟩ | ⟨-, -, -, -, -, -, e⟩
    · exact e a i hc
    · exact e a i hc
    · exact e a i hc (by omega) (by omega))
  (fun a i hc q => by
    unfold KW at q
    rcases m with ⟨-, -, e⟩ | ⟨-, -, -, -, -, e⟩ | ⟨-, -, -, -, -, -, e⟩
    · exact e a i hc
    · exact e a i hc
    · exact e a i hc (by omega) (by omega) (by omega))
theorem RLW.law (hd : d = 2 ∨ d = 3) (h : RLW d M) (hS : Sf d ac M0 M) (c : cLaw d k s z M M1) (m : mLaw d k s z2 M1 M2) : RLW d M2 ∧ z = z2 := RLW.two h hS (RL.law hd h.1 hS c m)
  (fun a i hc q => by
    unfold KW at q
    have b15 := t_3_15 hS
    rcases c with ⟨-, -, e⟩ | ⟨-, -, -, -, -, -, e⟩ | ⟨-, -, -, -, -, -, -, e⟩ | ⟨-, -, -, -, -, -, -, e⟩ | ⟨-, -, -, -, p5, -, -, -, -, -, -, e⟩
    · exact e a i hc
    · exact e a i hc
    · exact e a i hc
    · exact e a i hc
    · exact e a i hc (by omega) (by omega))
  (fun a i hc q => by
    unfold KW at q
    rcases m with ⟨-, -, e⟩ | ⟨-, -, -, -, -, -, e⟩ | ⟨-, -, -, -, -, -, -, e⟩ | ⟨-, -, -, -, -, -, -, e⟩ | ⟨-, -, -, -, -, -, -, -, -, -, -, e⟩
    · exact e a i hc
    · exact e a i hc
    · exact e a i hc
    · exact e a i hc
    · exact e a i hc (by omega) (by omega) (by omega))
/-- all are forgotten -/
theorem RXw.non (hz : PZ M) (c : M 103 0 = 0 ∧ M 106 0 = 0 ∧ M 109 0 = 0) (m : ∀ k : Int, 0 ≤ k → k < 4 → M 124 k = -1) : RXw d M := by
  have k1 : ∀ (e : Int) (R : Nat), KM1 e R 1 103 M := fun e R => ⟨fun q => by omega, fun q => absurd (m 1 (by omega) (by omega)) q⟩
  have k2 : ∀ (e : Int) (R : Nat), KM1 e R 2 106 M := fun e R => ⟨fun q => by omega, fun q => absurd (m 2 (by omega) (by omega)) q⟩
  have k3 : ∀ (e : Int) (R : Nat), KM1 e R 3 109 M := fun e R => ⟨fun q => by omega, fun q => absurd (m 3 (by omega) (by omega)) q⟩
  exact ⟨hz, fun _ => ⟨k1 _ _, k2 _ _, k3 _ _⟩, fun _ => ⟨k1 _ _, k2 _ _⟩⟩
theorem RLW.fre {e : Int} (h : RLW d M) (h14 : M1 3 14 = 0) (c : cFre M M1 ∧ cFreW M M1) (m : mFre M1 M2 ∧ mFreW M2) (hP : M 15 9 = 31 ∨ M 15 9 = 130) : RLW e M2 := by
  have f : ∀ a i : Int, core a i → a ≠ 112 → a ≠ 124 → M2 a i = M1 a i := fun a i hc q1 q2 => m.1.2.2.2.2 a i hc ⟨q1, q2⟩
  refine ⟨RL.fre h.1 h14 c.1 m.1, RXw.non ?_ ?_ m.2⟩
  · refine PZ.of h.2.1 hP ?_ (fun a i q => ?_)
    · rw [f 15 9 (by unfold core; omega) (by omega) (by omega), c.2.2 15 9 (by omega)]
    · rcases q with rfl | rfl
      · rw [f 31 i (by unfold core; omega) (by omega) (by omega), c.2.2 31 i (by omega)]
      · rw [f 130 i (by unfold core; omega) (by omega) (by omega), c.1.2.2.2 130 i (by omega)]
  · rw [f 103 0 (by unfold core; omega) (by omega) (by omega), f 106 0 (by unfold core; omega) (by omega) (by omega), f 109 0 (by unfold core; omega) (by omega) (by omega)]
    exact c.2.1
theorem RLW.act (hd : d = 2 ∨ d = 3) (hr : (1 ≤ k ∧ k ≤ 3) → r = pw d k) (h : RLW d M) (hS : Sf d ac M0 M) (c : cAct d k r s z M M1 ∧ cActW z M1) (m : mAct d k r s z2 M1 M2 ∧ mActW z2 M2) : RLW d M2 ∧ z = z2 := by
  have q := RL.act hd hr h.1 hS c.1 m.1
  refine ⟨⟨q.1, ?_⟩, q.2⟩
  have b14 := t_3_14x hS
  have zz := q.2
  have hP := hS.p9
  have two : (Eqc M M1 ∧ z < 0) ∨ (0 ≤ z ∧ ∀ a i : Int, core a i → (a = 31 ∨ a = 130 ∨ (a = 15 ∧ i = 9)) → M1 a i = M a i) := by
    rcases c.1 with ⟨-, z1, e⟩ | ⟨-, -, -, -, -, z1, e⟩ | ⟨-, -, -, -, -, -, z1, e⟩ | ⟨-, -, -, -, -, -, z1, e⟩ | ⟨-, -, -, -, -, -, -, z1, -, -, e⟩
    · exact Or.inl ⟨e, by omega⟩
    · exact Or.inl ⟨e, by omega⟩
    · exact Or.inl ⟨e, by omega⟩
    · exact Or.inl ⟨e, by have y := rdf.neg z1; omega⟩
    · exact Or.inr ⟨by omega, fun a i hc w => e a i hc (by omega) (by omega)⟩
  have mtwo : (z2 < 0 ∧ ∀ a i : Int, core a i → ¬ (a = 117) → M2 a i = M1 a i) ∨ (0 ≤ z2 ∧ ∀ a i : Int, core a i → (a = 31 ∨ a = 130 ∨ a = 15 ∨ a = 103 ∨ a = 106 ∨ a = 109) → M2 a i = M1 a i) := by
    have g4 := h.1.2.1.1
    rcases m.1 with ⟨-, z1, e⟩ | ⟨-, -, -, -, -, z1, e⟩ | ⟨-, -, -, -, -, -, z1, e⟩ | ⟨-, -, -, -, -, -, z1, e⟩ | ⟨-, -, -, -, -, -, -, z1, -, -, -, e⟩
    · exact Or.inl ⟨by omega, fun a i hc _ => e a i hc⟩
    · exact Or.inl ⟨by omega, fun a i hc _ => e a i hc⟩
    · exact Or.inl ⟨by omega, fun a i hc _ => e a i hc⟩
    · exact Or.inl ⟨by have y := rdf.neg z1; omega, fun a i hc w => e a i hc (fun u => w u.1)⟩
    · rcases two with ⟨-, y⟩ | ⟨y, -⟩
      · have e4 : M1 112 4 = z2 := z1.symm
        rcases c.1 with ⟨-, -, f⟩ | ⟨-, -, -, -, -, -, f⟩ | ⟨-, -, -, -, -, -, -, f⟩ | ⟨-, -, -, -, -, -, -, f⟩ | ⟨-, -, -, -, -, -, -, w, -, -, -⟩
        · have t := f 112 4 (by unfold core; omega)
          omega
        · have t := f 112 4 (by unfold core; omega)
          omega
        · have t := f 112 4 (by unfold core; omega)
          omega
        · have t := f 112 4 (by unfold core; omega)
          omega
        · omega
      · exact Or.inr ⟨by omega, fun a i hc w => e a i hc (by omega) (by omega) (by omega)⟩
  rcases two with ⟨e, y⟩ | ⟨y, e⟩
  · rcases mtwo with ⟨-, f⟩ | ⟨y2, -⟩
    · exact h.2.of hP (fun a i u => by
        have hc : core a i := KW.co u
        rw [f a i hc (by unfold KW at u; omega), e a i hc])
    · omega
  · rcases mtwo with ⟨y2, -⟩ | ⟨y2, f⟩
    · omega
    · refine RXw.non (PZ.of h.2.1 hP ?_ (fun a i w => ?_)) ?_ (m.2 y2)
      · rw [f 15 9 (by unfold core; omega) (by omega), e 15 9 (by unfold core; omega) (by omega)]
      · rw [f a i (by unfold core; omega) (by omega), e a i (by unfold core; omega) (by omega)]
      · rw [f 103 0 (by unfold core; omega) (by omega), f 106 0 (by unfold core; omega) (by omega), f 109 0 (by unfold core; omega) (by omega)]
        exact c.2 y
/-- acts as both hold them -/
theorem RL.wact (hd : d = 2 ∨ d = 3) (h : RL d M) (h14 : M 3 14 = ac) : ∀ a : Int, 0 ≤ a → a < ac → WAct d (55 + 3 * a) M := fun a a0 a1 => by
  obtain ⟨k, n1, n2, n3⟩ := h.2.1.2.2 a a0 (by omega)
  have p := pw_r hd k
  refine ⟨⟨by omega, by rw [n2, n1]⟩, fun i i0 i1 => ?_, fun i i0 i1 => (n3 i i0 i1).2⟩
  have r0 : 0 ≤ i % pw d (M (55 + 3 * a) 0) := Int.emod_nonneg _ (by rw [n1]; omega)
  have r1 : i % pw d (M (55 + 3 * a) 0) < pw d (M (55 + 3 * a) 0) := Int.emod_lt_of_pos _ (by rw [n1]; omega)
  rw [(n3 i i0 i1).1, (n3 _ r0 (by rw [n1] at r1; rw [n1]; omega)).1]
  show M 117 (27 * a + i % pw d (M 116 a)) = M 117 (27 * a + i % pw d (M (55 + 3 * a) 0) % pw d (M 116 a))
  rw [n1] at r0 r1 ⊢
  rw [Int.emod_eq_of_lt r0 r1]
theorem RL.wr (hd : d = 2 ∨ d = 3) (h : RL d M) (h8 : ac ≤ 8) (h14 : M 3 14 = ac) : ∀ a : Int, 0 ≤ a → a < ac → WR d a M := fun a a0 a1 => by
  obtain ⟨k, n1, n2, n3⟩ := h.2.1.2.2 a a0 (by omega)
  refine ⟨by omega, fun i i0 i1 => ?_⟩
  rw [← tm_e (by omega)]
  exact (n3 i i0 i1).1
/-- behind a call of the class -/
theorem RLW.cm {q : Int} (hd : d = 2 ∨ d = 3) (h : RLW d M) (hS : Sf d ac M0 M) (hq : q = 103 ∨ q = 106 ∨ q = 109) (c : MDs d R n ac q M M1) : RL d M1 ∧ PZ M1 ∧ (∀ (Q : Nat) (p t : Int), (t = 103 ∨ t = 106 ∨ t = 109) → t ≠ q → KM1 d Q p t M → KM1 d Q p t M1) ∧ (KM1 d R n q M → KM1 d R n q M1) := by
  have b14 := t_ac hS
  obtain ⟨c1, c2, c3⟩ := c
  have e2 : ∀ a i : Int, (a < 15 ∨ 31 < a) → (a < 103 ∨ 111 < a) → a ≠ 130 → a ≠ -1 → M1 a i = M a i := fun a i w1 w2 w3 w4 => c3 a i w1 w3 w4 (by omega) (by omega) (by omega)
  have eT : Tm M1 = Tm M := Tm_of (fun a i q1 q2 => e2 a i (by omega) (by omega) (by omega) (by omega))
  have e14 := e2 3 14 (by omega) (by omega) (by omega) (by omega)
  have b1 := t_3_14x hS
  have b2 := t_3_15 hS
  obtain ⟨h1, h2, h3, h4⟩ := h.1
  refine ⟨⟨h1.of (fun a i w => e2 a i (by omega) (by omega) (by omega) (by omega)), h2.of hd (by omega) (fun a i w => e2 a i (by omega) (by omega) (by omega) (by omega)), h3.of (by omega) (fun a i w => e2 a i (by omega) (by omega) (by omega) (by omega)), h4.of (fun a i w => e2 a i (by omega) (by omega) (by omega) (by omega))⟩, c2, fun Q p t ht w k1 => ?_, fun k1 => ?_⟩
  · have f : ∀ i : Int, M1 t i = M t i := fun i => c3 _ i (by omega) (by omega) (by omega) (by omega) (by omega) (by omega)
    unfold KM1 at *
    rw [eT, e14, f 0, f 1, f 2, e2 124 p (by omega) (by omega) (by omega) (by omega)]
    exact k1
  · unfold KM1 at *
    rw [eT, e14, b14, e2 124 n (by omega) (by omega) (by omega) (by omega)]
    rw [b14] at k1
    exact ⟨c1, k1.2⟩
/-- behind a call of the reference -/
theorem RLW.rm {q : Int} (hd : d = 2 ∨ d = 3) (h : RLW d M) (hS : Sf d ac M0 M) (hq : q = 103 ∨ q = 106 ∨ q = 109) (c : (M1 124 n ≠ -1 → cMd (NCl d R n ac (Tm M)) (M1 124 n)) ∧ F5 n M M1) : RL d M1 ∧ PZ M1 ∧ (∀ (Q : Nat) (p t : Int), (t = 103 ∨ t = 106 ∨ t = 109) → p ≠ n → KM1 d Q p t M → KM1 d Q p t M1) ∧ (KM1 d R n q M → KM1 d R n q M1) := by
  have b14 := t_ac hS
  obtain ⟨c1, c3⟩ := c
  have e2 : ∀ a i : Int, (a < 122 ∨ 126 < a) → M1 a i = M a i := fun a i w => c3 a i (by omega) (by omega) (by omega) (by omega) (by omega)
  have eT : Tm M1 = Tm M := Tm_of (fun a i q1 q2 => e2 a i (by omega))
  have b1 := t_3_14x hS
  have b2 := t_3_15 hS
  have hP := hS.p9
  obtain ⟨h1, h2, h3, h4⟩ := h.1
  refine ⟨⟨h1.of (fun a i w => e2 a i (by omega)), h2.of hd (by omega) (fun a i w => e2 a i (by omega)), h3.of (by omega) (fun a i w => e2 a i (by omega)), h4.of (fun a i w => e2 a i (by omega))⟩, PZ.of h.2.1 hP (e2 15 9 (by omega)) (fun a i w => e2 a i (by omega)), fun Q p t ht w k1 => ?_, fun k1 => ?_⟩
  · unfold KM1 at *
    rw [eT, e2 3 14 (by omega), e2 t 0 (by omega), e2 t 1 (by omega), e2 t 2 (by omega), c3 124 p (by omega) (by omega) (by omega) (by omega) (by omega)]
    exact k1
  · unfold KM1 at *
    rw [eT, e2 3 14 (by omega), b14, e2 q 0 (by omega), e2 q 1 (by omega), e2 q 2 (by omega)]
    rw [b14] at k1
    exact ⟨k1.1, c1⟩
end
theorem cMd_eq {N z z2 : Int} (c : cMd N z) (m : cMd N z2) : z = z2 := by
  unfold cMd at c m
  omega
