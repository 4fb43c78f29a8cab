/-! What both keep of what is made, over the calls: the lists too. -/
def KV (a i : Int) : Prop := (a = 3 ∧ i = 14) ∨ (55 ≤ a ∧ a ≤ 78) ∨ ((a = 103 ∨ a = 106 ∨ a = 109) ∧ (i = 0 ∨ i = 1 ∨ i = 2)) ∨ a = 104 ∨ a = 105 ∨ a = 107 ∨ a = 108 ∨ a = 110 ∨ a = 111 ∨ a = 122 ∨ a = 123 ∨ a = 124
theorem KV.co {a i : Int} (q : KV a i) : core a i := by
  unfold KV at q
  rcases q with ⟨rfl, rfl⟩ | ⟨h1, h2⟩ | ⟨rfl | rfl | rfl, h⟩ | rfl | rfl | rfl | rfl | rfl | rfl | rfl | rfl | rfl
  · unfold core; omega
  · exact core_l (Or.inr (Or.inr (Or.inr (Or.inr (Or.inl ⟨h1, by omega⟩)))))
  all_goals (unfold core; omega)
def KM2 (d : Int) (R : Nat) (n q : Int) (M : nM) : Prop := (M q 0 = 1 → LOa d R n (M 3 14) M q M) ∧ (M 124 n ≠ -1 → M 124 n ≠ -8 → LOr d R n (M 3 14) M (M 124 n) M)
def RXv (d : Int) (M : nM) : Prop := (d = 2 → KM2 2 2 1 103 M ∧ KM2 2 4 2 106 M ∧ KM2 2 8 3 109 M) ∧ (d = 3 → KM2 3 3 1 103 M ∧ KM2 3 9 2 106 M)
def RLV (d : Int) (M : nM) : Prop := RLW d M ∧ RXv d M
theorem LO.t {d n ac q N : Int} {R : Nat} {Ms Mt M M1 : nM} (h : LO d R n ac Ms q N M) (eT : Tm Mt = Tm Ms) (eP : Pm Mt = Pm Ms) (f : ∀ i : Int, M1 (q + 1) i = M (q + 1) i ∧ M1 (q + 2) i = M (q + 2) i) : LO d R n ac Mt q N M1 := by
  have y := h.e f
  unfold LO at y ⊢
  rw [eT, eP]
  exact y
theorem LOr.t {d n ac N : Int} {R : Nat} {Ms Mt M M1 : nM} (h : LOr d R n ac Ms N M) (eT : Tm Mt = Tm Ms) (eP : Pm Mt = Pm Ms) (e1 : ∀ i : Int, 0 ≤ i → i < N → cdr n M1 i = cdr n M i ∧ szr n M1 i = szr n M i) : LOr d R n ac Mt N M1 := by
  obtain ⟨h1, ⟨h2, h3⟩, h4, h5⟩ := h
  unfold LOr
  rw [eT, eP]
  refine ⟨fun i j i0 ij j1 => ?_, ⟨fun j j0 j1 => ?_, fun a x y z a0 a1 hx hy hz => ?_⟩, fun i i0 i1 => ?_, fun i j i0 i1 j0 j1 e => ?_⟩
  · rw [(e1 i i0 (by omega)).1, (e1 i i0 (by omega)).2, (e1 j (by omega) j1).1, (e1 j (by omega) j1).2]
    exact h1 i j i0 ij j1
  · obtain ⟨i, i0, i1, f1, f2⟩ := h2 j j0 j1
    exact ⟨i, i0, i1, by rw [(e1 i i0 i1).1]; exact f1, by rw [(e1 i i0 i1).2]; exact f2⟩
  · rw [(e1 x hx.1 hx.2).1, (e1 x hx.1 hx.2).2, (e1 y hy.1 hy.2).1, (e1 y hy.1 hy.2).2, (e1 z hz.1 hz.2).1, (e1 z hz.1 hz.2).2]
    obtain ⟨i, i0, i1, f1, f2⟩ := h3 a x y z a0 a1 hx hy hz
    exact ⟨i, i0, i1, by rw [(e1 i i0 i1).1]; exact f1, by rw [(e1 i i0 i1).2]; exact f2⟩
  · rw [(e1 i i0 i1).1, (e1 i i0 i1).2]
    exact h4 i i0 i1
  · rw [(e1 i i0 i1).1, (e1 j j0 j1).1] at e
    exact h5 i j i0 i1 j0 j1 e
section
variable {d ac s w n z z2 i v k r u l x y : Int} {R : Nat} {M0 M M1 M2 : nM}
theorem KM2.of {q : Int} (h : KM2 d R n q M) (hq : q = 103 ∨ q = 106 ∨ q = 109) (e : ∀ a i : Int, KV a i → M2 a i = M a i) : KM2 d R n q M2 := by
  have eT : Tm M2 = Tm M := Tm_of (fun a i q1 q2 => e a i (Or.inr (Or.inl ⟨by omega, q2⟩)))
  have eP : Pm M2 = Pm M := Pm_of (fun a i q1 q2 => e a i (Or.inr (Or.inl ⟨q1, q2⟩)))
  unfold KM2 LOa at *
  rw [e 3 14 (by unfold KV; omega), e q 0 (by unfold KV; omega), e q 1 (by unfold KV; omega), e q 2 (by unfold KV; omega), e 124 n (by unfold KV; omega)]
  refine ⟨fun w => ⟨fun w2 => ((h.1 w).1 w2).t eT eP (fun i => ⟨e _ i (by unfold KV; omega), e _ i (by unfold KV; omega)⟩), (h.1 w).2⟩, fun w1 w2 => (h.2 w1 w2).t eT eP (fun i _ _ => ⟨e 122 _ (by unfold KV; omega), e 123 _ (by unfold KV; omega)⟩)⟩
theorem RXv.of (h : RXv d M) (e : ∀ a i : Int, KV a i → M2 a i = M a i) : RXv d M2 := by
  obtain ⟨h2, h3⟩ := h
  refine ⟨fun q => ?_, fun q => ?_⟩
  · obtain ⟨a, b, c⟩ := h2 q
    exact ⟨a.of (by omega) e, b.of (by omega) e, c.of (by omega) e⟩
  · obtain ⟨a, b⟩ := h3 q
    exact ⟨a.of (by omega) e, b.of (by omega) e⟩
theorem RLV.of (h : RLV d M) (hd : d = 2 ∨ d = 3) (hS : Sf d ac M0 M) (e : Eqc M M2) : RLV d M2 := ⟨h.1.of hd hS e, h.2.of (fun a i q => e a i (KV.co q))⟩
theorem RLV.two (h : RLV d M) (hS : Sf d ac M0 M) (q : RLW d M2 ∧ z = z2) (e1 : ∀ a i : Int, core a i → KV a i → M1 a i = M a i) (e2 : ∀ a i : Int, core a i → KV a i → M2 a i = M1 a i) : RLV d M2 ∧ z = z2 := ⟨⟨q.1, h.2.of (fun a i u => (e2 a i (KV.co u) u).trans (e1 a i (KV.co u) u))⟩, q.2⟩
theorem RLV.row (hd : d = 2 ∨ d = 3) (h : RLV d M) (hS : Sf d ac M0 M) (c : cRow s w n z M M1) (m : mRow s w n z2 M1 M2) : RLV d M2 ∧ z = z2 := RLV.two h hS (RLW.row hd h.1 hS c m)
  (fun a i hc q => by
    unfold KV at q
    rcases c with ⟨-, -, e⟩ | ⟨-, -, -, -, -, -, e⟩ | ⟨-, -, -, -, -, -, -, -, -, -, e⟩
    · exact e a i hc
    · exact e a i hc
    · exact e a i hc (by omega) (by omega) (by omega))
  (fun a i hc q => by
    unfold KV at q
    rcases m with ⟨-, -, e⟩ | ⟨-, -, -, -, -, -, e⟩ | ⟨-, -, -, -, -, -, -, -, -, -, e⟩
    · exact e a i hc
    · exact e a i hc
    · exact e a i hc (by omega) (by omega) (by omega))
theorem RLV.tear (hd : d = 2 ∨ d = 3) (h : RLV d M) (hS : Sf d ac M0 M) (c : cTear s z M M1) (m : mTear s z2 M1 M2) : RLV d M2 ∧ z = z2 := RLV.two h hS (RLW.tear hd h.1 hS c m)
  (fun a i hc q => by
    unfold KV at q
    rcases c with ⟨-, -, e⟩ | ⟨-, -, -, -, -, e⟩
    · exact e a i hc
    · exact e a i hc (by omega))
  (fun a i hc q => by
    unfold KV at q
    rcases m with ⟨-, -, e⟩ | ⟨-, -, -, -, -, e⟩
    · exact e a i hc
    · exact e a i hc (by omega))
theorem RLV.wri (hd : d = 2 ∨ d = 3) (h : RLV d M) (hS : Sf d ac M0 M) (c : cWri s i v z M M1) (m : mWri s i v z2 M1 M2) : RLV d M2 ∧ z = z2 := RLV.two h hS (RLW.wri hd h.1 hS c m)
  (fun a i hc q => by
    unfold KV at q
    rcases c with ⟨-, -, e⟩ | ⟨-, -, -, -, e⟩ | ⟨-, -, -, -, -, e⟩ | ⟨-, -, -, -, -, -, e⟩
    · exact e a i hc
    · exact e a i hc
    · exact e a i hc
    · exact e a i hc (by omega))
  (fun a i hc q => by
    unfold KV at q
    rcases m with ⟨-, -, e⟩ | ⟨-, -, -, -, e⟩ | ⟨-, -, -, -, -, e⟩ | ⟨-, -, -, -, -, -, -, e⟩
    · exact e a i hc
    · exact e a i hc
    · exact e a i hc
    · exact e a i hc (by omega))
theorem RLV.rid (hd : d = 2 ∨ d = 3) (h : RLV d M) (hS : Sf d ac M0 M) (c : cRid u z M M1) (m : mRid u z2 M1 M2) : RLV d M2 ∧ z = z2 := RLV.two h hS (RLW.rid hd h.1 hS c m)
  (fun a i hc q => by
    unfold KV at q
    rcases c with ⟨-, -, e⟩ | ⟨-, -, -, -, -, e⟩
    · exact e a i hc
    · exact e a i hc (by omega))
  (fun a i hc q => by
    unfold KV at q
    rcases m with ⟨-, -, e⟩ | ⟨-, -, -, -, -, e⟩
    · exact e a i hc
    · exact e a i hc (by omega))
theorem RLV.ask (hd : d = 2 ∨ d = 3) (h : RLV d M) (hS : Sf d ac M0 M) (c : cAsk l x y w z M M1) (m : mAsk l x y w z2 M1 M2) : RLV d M2 ∧ z = z2 := RLV.two h hS (RLW.ask hd h.1 hS c m)
  (fun a i hc q => by
    unfold KV at q
    rcases c with ⟨-, -, e⟩ | ⟨-, -, -, -, -, e⟩ | ⟨-, -, -, -, -, -, e⟩
    · exact e a i hc
    · exact e a i hc
    · exact e a i hc (by omega) (by omega))
  (fun a i hc q => by
    unfold KV at q
    rcases m with ⟨-, -, e⟩ | ⟨-, -, -, -, -, e⟩ | ⟨-, -, -, -, -, -, e⟩
    · exact e a i hc
    · exact e a i hc
    · exact e a i hc (by omega) (by omega) (by omega))
theorem RLV.law (hd : d = 2 ∨ d = 3) (h : RLV d M) (hS : Sf d ac M0 M) (c : cLaw d k s z M M1) (m : mLaw d k s z2 M1 M2) : RLV d M2 ∧ z = z2 := RLV.two h hS (RLW.law hd h.1 hS c m)
  (fun a i hc q => by
    unfold KV at q
    have b15 := t_3_15 hS
    rcases c with ⟨-, -, e⟩ | ⟨-, -, -, -, -, -, e⟩ | ⟨-, -, -, -, -, -, -, e⟩ | ⟨-, -, -, -, -, -, -, e⟩ | ⟨-, -, -, -, p5, -, -, -, -, -, -, e⟩
    · exact e a i hc
    · exact e a i hc
    · exact e a i hc
    · exact e a i hc
    · exact e a i hc (by omega) (by omega))
  (fun a i hc q => by
    unfold KV at q
    rcases m with ⟨-, -, e⟩ | ⟨-, -, -, -, -, -, e⟩ | ⟨-, -, -, -, -, -, -, e⟩ | ⟨-, -, -, -, -, -, -, e⟩ | ⟨-, -, -, -, -, -, -, -, -, -, -, e⟩
    · exact e a i hc
    · exact e a i hc
    · exact e a i hc
    · exact e a i hc
    · exact e a i hc (by omega) (by omega) (by omega))
/-- places as both hold them -/
theorem RL.pm (h : RL d M) (h8 : ac ≤ 8) (h14 : M 3 14 = ac) : ∀ a : Int, 0 ≤ a → a < ac → Pm M a = M 116 a := fun a a0 a1 => by
  obtain ⟨k, n1, -⟩ := h.2.1.2.2 a a0 (by omega)
  unfold Pm
  rw [if_pos (by omega)]
  exact n1
/-- all are forgotten -/
theorem RXv.non (c : M 103 0 = 0 ∧ M 106 0 = 0 ∧ M 109 0 = 0) (m : ∀ k : Int, 0 ≤ k → k < 4 → M 124 k = -1) : RXv d M := by
  have k1 : ∀ (e : Int) (R : Nat), KM2 e R 1 103 M := fun e R => ⟨fun q => by omega, fun q => absurd (m 1 (by omega) (by omega)) q⟩
  have k2 : ∀ (e : Int) (R : Nat), KM2 e R 2 106 M := fun e R => ⟨fun q => by omega, fun q => absurd (m 2 (by omega) (by omega)) q⟩
  have k3 : ∀ (e : Int) (R : Nat), KM2 e R 3 109 M := fun e R => ⟨fun q => by omega, fun q => absurd (m 3 (by omega) (by omega)) q⟩
  exact ⟨fun _ => ⟨k1 _ _, k2 _ _, k3 _ _⟩, fun _ => ⟨k1 _ _, k2 _ _⟩⟩
theorem RLV.fre {e : Int} (h : RLV d M) (h14 : M1 3 14 = 0) (c : cFre M M1 ∧ cFreW M M1) (m : mFre M1 M2 ∧ mFreW M2) (hP : M 15 9 = 31 ∨ M 15 9 = 130) : RLV e M2 := by
  have f : ∀ a i : Int, core a i → a ≠ 112 → a ≠ 124 → M2 a i = M1 a i := fun a i hc q1 q2 => m.1.2.2.2.2 a i hc ⟨q1, q2⟩
  refine ⟨RLW.fre h.1 h14 c m hP, RXv.non ?_ m.2⟩
  rw [f 103 0 (by unfold core; omega) (by omega) (by omega), f 106 0 (by unfold core; omega) (by omega) (by omega), f 109 0 (by unfold core; omega) (by omega) (by omega)]
  exact c.2.1
theorem RLV.act (hd : d = 2 ∨ d = 3) (hr : (1 ≤ k ∧ k ≤ 3) → r = pw d k) (h : RLV d M) (hS : Sf d ac M0 M) (c : cAct d k r s z M M1 ∧ cActW z M1) (m : mAct d k r s z2 M1 M2 ∧ mActW z2 M2) : RLV d M2 ∧ z = z2 := by
  have q := RLW.act hd hr h.1 hS c m
  refine ⟨⟨q.1, ?_⟩, q.2⟩
  have b14 := t_3_14x hS
  have zz := q.2
  have two : (Eqc M M1 ∧ z < 0) ∨ 0 ≤ z := by
    rcases c.1 with ⟨-, z1, e⟩ | ⟨-, -, -, -, -, z1, e⟩ | ⟨-, -, -, -, -, -, z1, e⟩ | ⟨-, -, -, -, -, -, z1, e⟩ | ⟨-, -, -, -, -, -, -, z1, -, -, e⟩
    · exact Or.inl ⟨e, by omega⟩
    · exact Or.inl ⟨e, by omega⟩
    · exact Or.inl ⟨e, by omega⟩
    · exact Or.inl ⟨e, by have y := rdf.neg z1; omega⟩
    · exact Or.inr (by omega)
  rcases two with ⟨e, y⟩ | y
  · have f : ∀ a i : Int, core a i → ¬ (a = 117) → M2 a i = M1 a i := by
      have e4 := e 112 4 (by unfold core; omega)
      have g4 := h.1.1.2.1.1
      rcases m.1 with ⟨-, z1, f⟩ | ⟨-, -, -, -, -, z1, f⟩ | ⟨-, -, -, -, -, -, z1, f⟩ | ⟨-, -, -, -, -, -, z1, f⟩ | ⟨-, -, -, -, -, -, -, z1, -, -, -, f⟩
      · exact fun a i hc _ => f a i hc
      · exact fun a i hc _ => f a i hc
      · exact fun a i hc _ => f a i hc
      · exact fun a i hc w => f a i hc (fun u => w u.1)
      · omega
    exact h.2.of (fun a i u => by
      have hc : core a i := KV.co u
      rw [f a i hc (by unfold KV at u; omega), e a i hc])
  · have y2 : 0 ≤ z2 := by omega
    have f : ∀ a i : Int, core a i → (a = 103 ∨ a = 106 ∨ a = 109) → M2 a i = M1 a i := by
      rcases m.1 with ⟨-, z1, f⟩ | ⟨-, -, -, -, -, z1, f⟩ | ⟨-, -, -, -, -, -, z1, f⟩ | ⟨-, -, -, -, -, -, z1, f⟩ | ⟨-, -, -, -, -, -, -, z1, -, -, -, f⟩
      · omega
      · omega
      · omega
      · have := rdf.neg z1
        omega
      · exact fun a i hc w => f a i hc (by omega) (by omega) (by omega)
    refine RXv.non ?_ (m.2 y2)
    rw [f 103 0 (by unfold core; omega) (by omega), f 106 0 (by unfold core; omega) (by omega), f 109 0 (by unfold core; omega) (by omega)]
    exact c.2 y
/-- behind a call of the class -/
theorem RLV.cm {q : Int} (hd : d = 2 ∨ d = 3) (h : RLV d M) (hS : Sf d ac M0 M) (hq : q = 103 ∨ q = 106 ∨ q = 109) (c : MDs d R n ac q M M1) (cl : M1 q 0 = 1 → LOa d R n ac M q M1) : (∀ (Q : Nat) (p t : Int), (t = 103 ∨ t = 106 ∨ t = 109) → t ≠ q → KM2 d Q p t M → KM2 d Q p t M1) ∧ (KM2 d R n q M → KM2 d R n q M1) := by
  have b14 := t_ac hS
  obtain ⟨c1, c2, c3⟩ := c
  have e2 : ∀ a i : Int, (a < 15 ∨ 31 < a) → (a < 103 ∨ 111 < a) → a ≠ 130 → a ≠ -1 → M1 a i = M a i := fun a i w1 w2 w3 w4 => c3 a i w1 w3 w4 (by omega) (by omega) (by omega)
  have eT : Tm M1 = Tm M := Tm_of (fun a i q1 q2 => e2 a i (by omega) (by omega) (by omega) (by omega))
  have eP : Pm M1 = Pm M := Pm_of (fun a i q1 q2 => e2 a i (by omega) (by omega) (by omega) (by omega))
  have e14 := e2 3 14 (by omega) (by omega) (by omega) (by omega)
  have e124 : ∀ i : Int, M1 124 i = M 124 i := fun i => e2 124 i (by omega) (by omega) (by omega) (by omega)
  have rr : ∀ (Q : Nat) (p : Int), (M 124 p ≠ -1 → M 124 p ≠ -8 → LOr d Q p (M 3 14) M (M 124 p) M) → (M1 124 p ≠ -1 → M1 124 p ≠ -8 → LOr d Q p (M1 3 14) M1 (M1 124 p) M1) := fun Q p w => by
    rw [e124, e14]
    exact fun w1 w2 => (w w1 w2).t eT eP (fun i _ _ => ⟨e2 122 _ (by omega) (by omega) (by omega) (by omega), e2 123 _ (by omega) (by omega) (by omega) (by omega)⟩)
  refine ⟨fun Q p t ht w k1 => ⟨?_, rr Q p k1.2⟩, fun k1 => ⟨fun w => ?_, rr R n k1.2⟩⟩
  · have f : ∀ a i : Int, t ≤ a → a ≤ t + 2 → M1 a i = M a i := fun a i w1 w2 => c3 a i (by omega) (by omega) (by omega) (by omega) (by omega) (by omega)
    have y := k1.1
    unfold LOa at y ⊢
    rw [f t 0 (by omega) (by omega), f t 1 (by omega) (by omega), f t 2 (by omega) (by omega), e14]
    exact fun w0 => ⟨fun w1 => ((y w0).1 w1).t eT eP (fun i => ⟨f _ i (by omega) (by omega), f _ i (by omega) (by omega)⟩), (y w0).2⟩
  · have y := cl w
    unfold LOa at y ⊢
    rw [e14, b14]
    exact ⟨fun w1 => (y.1 w1).t eT eP (fun _ => ⟨rfl, rfl⟩), y.2⟩
/-- behind a call of the reference -/
theorem RLV.rm {q : Int} (hd : d = 2 ∨ d = 3) (h : RLV d M) (hS : Sf d ac M0 M) (hq : q = 103 ∨ q = 106 ∨ q = 109) (hn : n = 1 ∨ n = 2 ∨ n = 3) (c : F5 n M M1) (f6 : F6 n M M1) (hb : ∀ p : Int, 0 ≤ p → M 124 p ≤ 256) (cl : M1 124 n ≠ -1 → M1 124 n ≠ -8 → LOr d R n ac M (M1 124 n) M1) : (∀ (Q : Nat) (p t : Int), (t = 103 ∨ t = 106 ∨ t = 109) → (p = 1 ∨ p = 2 ∨ p = 3) → p ≠ n → KM2 d Q p t M → KM2 d Q p t M1) ∧ (KM2 d R n q M → KM2 d R n q M1) := by
  have b14 := t_ac hS
  have e2 : ∀ a i : Int, (a < 122 ∨ 126 < a) → M1 a i = M a i := fun a i w => c a i (by omega) (by omega) (by omega) (by omega) (by omega)
  have eT : Tm M1 = Tm M := Tm_of (fun a i q1 q2 => e2 a i (by omega))
  have eP : Pm M1 = Pm M := Pm_of (fun a i q1 q2 => e2 a i (by omega))
  have cc : ∀ (Q : Nat) (p t : Int), (t = 103 ∨ t = 106 ∨ t = 109) → (M t 0 = 1 → LOa d Q p (M 3 14) M t M) → (M1 t 0 = 1 → LOa d Q p (M1 3 14) M1 t M1) := fun Q p t ht y => by
    unfold LOa at y ⊢
    rw [e2 t 0 (by omega), e2 t 1 (by omega), e2 t 2 (by omega), e2 3 14 (by omega)]
    exact fun w0 => ⟨fun w1 => ((y w0).1 w1).t eT eP (fun i => ⟨e2 _ i (by omega), e2 _ i (by omega)⟩), (y w0).2⟩
  refine ⟨fun Q p t ht hp w k1 => ⟨cc Q p t ht k1.1, ?_⟩, fun k1 => ⟨cc R n q hq k1.1, ?_⟩⟩
  · have e4 : M1 124 p = M 124 p := c 124 p (by omega) (by omega) (by omega) (by omega) (by omega)
    have b := hb p (by omega)
    rw [e4, e2 3 14 (by omega)]
    exact fun w1 w2 => (k1.2 w1 w2).t eT eP (fun i i0 i1 => ⟨f6 122 _ (Or.inl rfl) (by omega), f6 123 _ (Or.inr rfl) (by omega)⟩)
  · rw [e2 3 14 (by omega), b14]
    exact fun w1 w2 => (cl w1 w2).t eT eP (fun _ _ _ => ⟨rfl, rfl⟩)
end
theorem MO_eq {d n ac q i w z z2 : Int} {R : Nat} {M M1 M2 : nM} (fl : (w = 0 ∨ w = 1) → M1 q 0 = 1) (kn : M1 q 0 = 1 → KN (NCl d R n ac (Tm M)) (M1 q 1) (M1 q 2)) (lo : M1 q 0 = 1 → LOa d R n ac M q M1) (c : cMO q i w z M1) (md : cMd (NCl d R n ac (Tm M)) (M2 124 n)) (lr : M2 124 n ≠ -1 → M2 124 n ≠ -8 → LOr d R n ac M (M2 124 n) M2) (m : mMO n i w z2 M2) : z = z2 := by
  generalize NCl d R n ac (Tm M) = N at kn md
  unfold cMO at c
  unfold mMO at m
  by_cases u : w = 0 ∨ w = 1
  · have f := fl u
    have k := kn f
    have l := lo f
    unfold KN at k
    unfold cMd at md
    by_cases b : N ≤ 256
    · have k1 : M1 q 1 = 0 := by omega
      have k2 : M1 q 2 = N := by omega
      have k3 : M2 124 n = N := by omega
      rw [k2] at c
      rw [k3] at m
      by_cases r : 0 ≤ i ∧ i < N
      · have a1 := l.1 k1
        have a2 := lr (by omega) (by omega)
        rw [k2] at a1
        rw [k3] at a2
        obtain ⟨s1, c1, v1, d1⟩ := a1
        obtain ⟨s2, c2, v2, d2⟩ := a2
        have y := Srt.eq s1 s2 (fun i i0 i1 => CL2.sub c1 c2 v1 v2 d1 i0 i1) (fun i i0 i1 => CL2.sub c2 c1 v2 v1 d2 i0 i1) i r.1 r.2
        have y1 : M1 (q + 1) i = M2 122 (256 * n + i) := y.1
        have y2 : M1 (q + 2) i = M2 123 (256 * n + i) := y.2
        omega
      · omega
    · have k1 : M1 q 2 = 0 := l.2 (by omega)
      have k3 : M2 124 n = -8 := by omega
      rw [k1] at c
      rw [k3] at m
      omega
  · omega
