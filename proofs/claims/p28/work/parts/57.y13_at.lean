/-! Answers: what the class holds of them is right, as long as it says so. -/
def core0 (a i : Int) : Prop := (a = 3 ∧ (i = 14 ∨ i = 15)) ∨ (4 ≤ a ∧ a ≤ 11) ∨ (a = 32 ∧ (i = 0 ∨ i = 1)) ∨ (33 ≤ a ∧ a ≤ 36) ∨ (55 ≤ a ∧ a ≤ 102) ∨ (a = 112 ∧ (i = 0 ∨ i = 4 ∨ i = 7 ∨ i = 10 ∨ i = 11)) ∨ (113 ≤ a ∧ a ≤ 121)
def Eq0 (M M1 : nM) : Prop := ∀ a i : Int, core0 a i → M1 a i = M a i
theorem RL.of0 {d ac : Int} {M0 M M2 : nM} (h : RL d M) (hd : d = 2 ∨ d = 3) (hS : Sf d ac M0 M) (e : Eq0 M M2) : RL d M2 := by
  have b1 := t_3_14x hS
  have b2 := t_3_15 hS
  obtain ⟨h1, h2, h3, h4⟩ := h
  exact ⟨h1.of (fun a i q => e a i (by unfold core0; omega)), h2.of hd (by omega) (fun a i q => e a i (by unfold core0; omega)), h3.of (by omega) (fun a i q => e a i (by unfold core0; omega)), h4.of (fun a i q => e a i (by unfold core0; omega))⟩
theorem RLX.of0 {d ac : Int} {M0 M M2 : nM} (h : RLX d M) (hd : d = 2 ∨ d = 3) (hS : Sf d ac M0 M) (e : Eq0 M M2) : RLX d M2 := by
  have b2 := t_3_15 hS
  exact ⟨h.1.of0 hd hS e, h.2.of (by omega) (fun a i q => e a i (by unfold core0; omega))⟩
theorem RLK.of0 {d ac : Int} {M0 M M2 : nM} (h : RLK d M) (hd : d = 2 ∨ d = 3) (hS : Sf d ac M0 M) (e : Eq0 M M2) : RLK d M2 := ⟨h.1.of0 hd hS e, h.2.of (e 32 1 (by unfold core0; omega)) (by rw [e 3 15 (by unfold core0; omega)]; omega) (fun a j q => e a j (by unfold core0; omega))⟩
def BA (d : Int) (M M1 : nM) : Prop := ∀ m : Int, 0 ≤ m → m < 6592 → (wbt M1 49 m = 1 ↔ (m < pn d (M 32 0).toNat ∧ ANS d M m))
theorem ANS.of {d L m : Int} {M M2 : nM} (hq : ∀ i : Int, 0 ≤ i → i < M 32 1 → 0 ≤ M 33 i ∧ M 33 i < L) (e : ∀ a i : Int, (a = 32 ∧ (i = 0 ∨ i = 1)) ∨ (33 ≤ a ∧ a ≤ 36) ∨ (79 ≤ a ∧ a < 79 + 2 * L) → M2 a i = M a i) : ANS d M2 m ↔ ANS d M m := by
  unfold ANS
  rw [e 32 0 (by omega), e 32 1 (by omega)]
  constructor
  · intro h i i0 i1
    have y := h i i0 i1
    have q := hq i i0 i1
    rw [e 33 i (by omega), e 34 i (by omega), e 35 i (by omega), e 36 i (by omega), e (79 + 2 * M 33 i) 2 (by omega)] at y
    exact y
  · intro h i i0 i1
    have y := h i i0 i1
    have q := hq i i0 i1
    rw [e 33 i (by omega), e 34 i (by omega), e 35 i (by omega), e 36 i (by omega), e (79 + 2 * M 33 i) 2 (by omega)]
    exact y
def RXt (d : Int) (M : nM) : Prop := M 3 18 = 1 → M 48 1 = NAn d M ∧ BA d M M
def RLT (d : Int) (M : nM) : Prop := RLK d M ∧ RXt d M
theorem RXt.of {d ac : Int} {M0 M M2 : nM} (h : RLT d M) (hS : Sf d ac M0 M) (e : ∀ a i : Int, core a i → (a = 3 ∧ i = 18) ∨ a = 48 ∨ a = 49 ∨ (a = 32 ∧ (i = 0 ∨ i = 1)) ∨ (33 ≤ a ∧ a ≤ 36) ∨ (79 ≤ a ∧ a < 79 + 2 * M 3 15) → M2 a i = M a i) : RXt d M2 := fun u => by
  have b15 := t_3_15 hS
  have u2 : M 3 18 = 1 := by rw [← e 3 18 (by unfold core; omega) (by omega)]; exact u
  have hk := RLK.hak h.1 hS
  rw [e 48 1 (by unfold core; omega) (by omega), NAn.of (L := M 3 15) (fun i i0 i1 => (hk i i0 i1).1) (fun a i q => e a i (by unfold core; omega) (by omega))]
  refine ⟨(h.2 u2).1, fun m m0 m1 => ?_⟩
  rw [ANS.of (L := M 3 15) (fun i i0 i1 => (hk i i0 i1).1) (fun a i q => e a i (by unfold core; omega) (by omega)), e 32 0 (by unfold core; omega) (by omega)]
  unfold wbt
  rw [e 49 _ (by unfold core; omega) (by omega)]
  exact (h.2 u2).2 m m0 m1
theorem RLT.of {d ac : Int} {M0 M M2 : nM} (h : RLT d M) (hd : d = 2 ∨ d = 3) (hS : Sf d ac M0 M) (e : Eqc M M2) : RLT d M2 := ⟨h.1.of hd hS e, RXt.of h hS (fun a i hc _ => e a i hc)⟩
section
variable {d ac s w n z z2 i v k r u l x y : Int} {M0 M M1 M2 : nM}
theorem RLT.two (h : RLT d M) (hS : Sf d ac M0 M) (q : RLK d M2 ∧ z = z2) (e1 : ∀ a i : Int, core a i → (a = 3 ∧ i = 18) ∨ a = 48 ∨ a = 49 ∨ (a = 32 ∧ (i = 0 ∨ i = 1)) ∨ (33 ≤ a ∧ a ≤ 36) ∨ (79 ≤ a ∧ a < 79 + 2 * M 3 15) → M1 a i = M a i) (e2 : ∀ a i : Int, core a i → (a = 3 ∧ i = 18) ∨ a = 48 ∨ a = 49 ∨ (a = 32 ∧ (i = 0 ∨ i = 1)) ∨ (33 ≤ a ∧ a ≤ 36) ∨ (79 ≤ a ∧ a < 79 + 2 * M 3 15) → M2 a i = M1 a i) : RLT d M2 ∧ z = z2 := ⟨⟨q.1, RXt.of h hS (fun a i hc u => (e2 a i hc u).trans (e1 a i hc u))⟩, q.2⟩
theorem RLT.row (hd : d = 2 ∨ d = 3) (h : RLT d M) (hS : Sf d ac M0 M) (c : cRow s w n z M M1) (m : mRow s w n z2 M1 M2) : RLT d M2 ∧ z = z2 := RLT.two h hS (RLK.row hd h.1 hS c m)
  (fun a i hc q => by
    have b15 := t_3_15 hS
    rcases c with ⟨-, -, e⟩ | ⟨-, -, -, -, -, -, e⟩ | ⟨-, -, -, -, -, -, -, -, -, -, e⟩
    · exact e a i hc
    · exact e a i hc
    · exact e a i hc (by omega) (by omega) (by omega))
  (fun a i hc q => by
    have b15 := t_3_15 hS
    rcases m with ⟨-, -, e⟩ | ⟨-, -, -, -, -, -, e⟩ | ⟨-, -, -, -, -, -, -, -, -, -, e⟩
    · exact e a i hc
    · exact e a i hc
    · exact e a i hc (by omega) (by omega) (by omega))
theorem RLT.tear (hd : d = 2 ∨ d = 3) (h : RLT d M) (hS : Sf d ac M0 M) (c : cTear s z M M1) (m : mTear s z2 M1 M2) : RLT d M2 ∧ z = z2 := RLT.two h hS (RLK.tear hd h.1 hS c m)
  (fun a i hc q => by
    have b15 := t_3_15 hS
    rcases c with ⟨-, -, e⟩ | ⟨-, -, -, -, -, e⟩
    · exact e a i hc
    · exact e a i hc (by omega))
  (fun a i hc q => by
    have b15 := t_3_15 hS
    rcases m with ⟨-, -, e⟩ | ⟨-, -, -, -, -, e⟩
    · exact e a i hc
    · exact e a i hc (by omega))
theorem RLT.wri (hd : d = 2 ∨ d = 3) (h : RLT d M) (hS : Sf d ac M0 M) (c : cWri s i v z M M1) (m : mWri s i v z2 M1 M2) : RLT d M2 ∧ z = z2 := RLT.two h hS (RLK.wri hd h.1 hS c m)
  (fun a i hc q => by
    have b15 := t_3_15 hS
    rcases c with ⟨-, -, e⟩ | ⟨-, -, -, -, e⟩ | ⟨-, -, -, -, -, e⟩ | ⟨-, -, -, -, -, -, e⟩
    · exact e a i hc
    · exact e a i hc
    · exact e a i hc
    · exact e a i hc (by omega))
  (fun a i hc q => by
    have b15 := t_3_15 hS
    rcases m with ⟨-, -, e⟩ | ⟨-, -, -, -, e⟩ | ⟨-, -, -, -, -, e⟩ | ⟨-, -, -, -, -, -, -, e⟩
    · exact e a i hc
    · exact e a i hc
    · exact e a i hc
    · exact e a i hc (by omega))
theorem RLT.act (hd : d = 2 ∨ d = 3) (hr : (1 ≤ k ∧ k ≤ 3) → r = pw d k) (h : RLT d M) (hS : Sf d ac M0 M) (c : cAct d k r s z M M1) (m : mAct d k r s z2 M1 M2) : RLT d M2 ∧ z = z2 := RLT.two h hS (RLK.act hd hr h.1 hS c m)
  (fun a i hc q => by
    have b15 := t_3_15 hS
    have b14 := t_3_14x hS
    rcases c with ⟨-, -, e⟩ | ⟨-, -, -, -, -, -, e⟩ | ⟨-, -, -, -, -, -, -, e⟩ | ⟨-, -, -, -, -, -, -, e⟩ | ⟨-, -, -, -, tm, -, -, -, -, -, e⟩
    · exact e a i hc
    · exact e a i hc
    · exact e a i hc
    · exact e a i hc
    · have t8 : M 3 14 < 8 := by
        unfold tooMany at tm
        omega
      exact e a i hc (by omega) (by omega))
  (fun a i hc q => by
    have b15 := t_3_15 hS
    rcases m with ⟨-, -, e⟩ | ⟨-, -, -, -, -, -, e⟩ | ⟨-, -, -, -, -, -, -, e⟩ | ⟨-, -, -, -, -, -, -, e⟩ | ⟨-, -, -, -, -, -, -, -, -, -, -, e⟩
    · exact e a i hc
    · exact e a i hc
    · exact e a i hc
    · exact e a i hc (by omega)
    · exact e a i hc (by omega) (by omega) (by omega))
theorem RLT.law (hd : d = 2 ∨ d = 3) (h : RLT d M) (hS : Sf d ac M0 M) (c : cLaw d k s z M M1 ∧ cLawR d z M1) (m : mLaw d k s z2 M1 M2) : RLT d M2 ∧ z = z2 := RLT.two h hS (RLK.law hd h.1 hS c m)
  (fun a i hc q => by
    have b15 := t_3_15 hS
    rcases c.1 with ⟨-, -, e⟩ | ⟨-, -, -, -, -, -, e⟩ | ⟨-, -, -, -, -, -, -, e⟩ | ⟨-, -, -, -, -, -, -, e⟩ | ⟨-, -, -, -, -, -, -, -, -, -, -, e⟩
    · exact e a i hc
    · exact e a i hc
    · exact e a i hc
    · exact e a i hc
    · exact e a i hc (by omega) (by omega))
  (fun a i hc q => by
    have b15 := t_3_15 hS
    rcases m with ⟨-, -, e⟩ | ⟨-, -, -, -, -, -, e⟩ | ⟨-, -, -, -, -, -, -, e⟩ | ⟨-, -, -, -, -, -, -, e⟩ | ⟨-, -, -, -, -, -, -, -, -, -, -, e⟩
    · exact e a i hc
    · exact e a i hc
    · exact e a i hc
    · exact e a i hc
    · exact e a i hc (by omega) (by omega) (by omega))
def cS0 (z : Int) (M1 : nM) : Prop := 0 < z → M1 3 18 = 0
def cS1 (z : Int) (M1 : nM) : Prop := 0 ≤ z → M1 3 18 = 0
theorem RLT.rid (hd : d = 2 ∨ d = 3) (h : RLT d M) (hS : Sf d ac M0 M) (c : cRid u z M M1 ∧ cS0 z M1) (m : mRid u z2 M1 M2) : RLT d M2 ∧ z = z2 := by
  have q := RLK.rid hd h.1 hS c.1 m
  have e2 : ∀ a i : Int, core a i → a < 112 ∨ 112 < a → M2 a i = M1 a i := fun a i hc w => by
    rcases m with ⟨-, -, e⟩ | ⟨-, -, -, -, -, e⟩
    · exact e a i hc
    · exact e a i hc (by omega)
  have b15 := t_3_15 hS
  refine ⟨⟨q.1, ?_⟩, q.2⟩
  rcases c with ⟨⟨-, -, e⟩ | ⟨-, -, z1, -, -, -⟩, c2⟩
  · exact RXt.of h hS (fun a i hc w => (e2 a i hc (by omega)).trans (e a i hc))
  · intro w
    have y := c2 (by omega)
    rw [e2 3 18 (by unfold core; omega) (by omega), y] at w
    omega
theorem RLT.ask (hd : d = 2 ∨ d = 3) (h : RLT d M) (hS : Sf d ac M0 M) (c : (cAsk l x y w z M M1 ∧ cAskR l x y w z M M1) ∧ cS1 z M1) (m : mAsk l x y w z2 M1 M2 ∧ mAskR l x y w z2 M2) : RLT d M2 ∧ z = z2 := by
  have q := RLK.ask hd h.1 hS c.1 m
  have b15 := t_3_15 hS
  have b1 := t_32_1 hS
  have g11 := h.1.1.1.2.2.2.2
  have e2 : ∀ a i : Int, core a i → a < 112 → M2 a i = M1 a i := fun a i hc w => by
    rcases m.1 with ⟨-, -, e⟩ | ⟨-, -, -, -, -, e⟩ | ⟨-, -, -, -, -, -, e⟩
    · exact e a i hc
    · exact e a i hc
    · exact e a i hc (by omega) (by omega) (by omega)
  refine ⟨⟨q.1, ?_⟩, q.2⟩
  rcases c with ⟨⟨⟨-, -, e⟩ | ⟨-, -, -, -, -, e⟩ | ⟨-, -, -, -, z1, -, -⟩, -⟩, c2⟩
  · exact RXt.of h hS (fun a i hc w => (e2 a i hc (by omega)).trans (e a i hc))
  · exact RXt.of h hS (fun a i hc w => (e2 a i hc (by omega)).trans (e a i hc))
  · intro w
    have y := c2 (by omega)
    rw [e2 3 18 (by unfold core; omega) (by omega), y] at w
    omega
theorem RLT.fre {e : Int} (h : RLT d M) (h14 : M1 3 14 = 0) (c : cFre M M1 ∧ M1 3 18 = 0) (m : mFre M1 M2) : RLT e M2 := ⟨RLK.fre h.1 h14 c.1 m, fun w => by
  rw [m.2.2.2.2 3 18 (by unfold core; omega) (by omega), c.2] at w
  omega⟩
/-- behind the search -/
def cSt (d : Int) (M M1 : nM) : Prop := M1 3 18 = 1 ∧ M1 48 1 = NAn d M ∧ Eq0 M M1 ∧ BA d M M1
theorem RLT.sol (hd : d = 2 ∨ d = 3) (h : RLT d M) (hS : Sf d ac M0 M) (c : cSt d M M1) : RLT d M1 := by
  have hk := RLK.hak h.1 hS
  have b15 := t_3_15 hS
  have ee := c.2.2.1
  have e : NAn d M1 = NAn d M := NAn.of (L := M 3 15) (fun i i0 i1 => (hk i i0 i1).1) (fun a i q => ee a i (by unfold core0; omega))
  refine ⟨h.1.of0 hd hS ee, fun _ => ⟨by rw [c.2.1, e], fun m m0 m1 => ?_⟩⟩
  rw [ANS.of (L := M 3 15) (fun i i0 i1 => (hk i i0 i1).1) (fun a i q => ee a i (by unfold core0; omega)), ee 32 0 (by unfold core0; omega)]
  exact c.2.2.2 m m0 m1
end
/-! the reference's answers -/
def mrow (d V m k : Int) (f : Int → Int) : Int := if k = 1 then dg d V m (f 0) else if k = 2 then dg d V m (f 0) * d + dg d V m (f 1) else (dg d V m (f 0) * d + dg d V m (f 1)) * d + dg d V m (f 2)
def mAq (d : Int) (M : nM) (m q : Int) : Prop := bt (M 119 (M 120 q)) (mrow d (M 112 10) m (M 118 (M 120 q)) (fun j => M 121 (3 * q + j)))
def mANS (d : Int) (M : nM) (m : Int) : Prop := ∀ q : Int, 0 ≤ q → q < M 112 11 → mAq d M m q
noncomputable def mNAn (d : Int) (M : nM) : Int := cf (fun m => bb (mANS d M m)) (pn d (M 112 10).toNat).toNat
theorem mrow_r {d V m k : Int} {f : Int → Int} (hd : d = 2 ∨ d = 3) (hk : 1 ≤ k ∧ k ≤ 3) : 0 ≤ mrow d V m k f ∧ mrow d V m k f < pw d k := by
  have a := dg_r (V := V) (m := m) (u := f 0) hd
  have b := dg_r (V := V) (m := m) (u := f 1) hd
  have c := dg_r (V := V) (m := m) (u := f 2) hd
  unfold mrow pw
  rcases (show k = 1 ∨ k = 2 ∨ k = 3 by omega) with rfl | rfl | rfl
  · rw [if_pos rfl, if_pos rfl]
    exact a
  · rw [if_neg (by decide), if_pos rfl, if_neg (by decide), if_pos rfl]
    rcases hd with rfl | rfl <;> omega
  · rw [if_neg (by decide), if_neg (by decide), if_neg (by decide), if_neg (by decide)]
    rcases hd with rfl | rfl <;> omega
theorem mrow_wd {d V m k x y w : Int} {f : Int → Int} (hd : d = 2 ∨ d = 3) (hk : 1 ≤ k ∧ k ≤ 3) (h1 : x = f 0) (h2 : y = if 1 < k then f 1 else f 0) (h3 : w = if 2 < k then f 2 else y) : row3 d V m x y w = wd d k (mrow d V m k f) := by
  have a := dg_r (V := V) (m := m) (u := f 0) hd
  have b := dg_r (V := V) (m := m) (u := f 1) hd
  unfold row3 rw3 mrow wd
  rcases (show k = 1 ∨ k = 2 ∨ k = 3 by omega) with rfl | rfl | rfl
  · rw [if_neg (by decide)] at h2 h3
    rw [if_pos rfl, if_pos rfl, h3, h2, h1]
    show (dg d V m (f 0) * d + dg d V m (f 0)) * d + dg d V m (f 0) = dg d V m (f 0) * (d * d + d + 1)
    rcases hd with rfl | rfl <;> omega
  · rw [if_pos (by decide)] at h2
    rw [if_neg (by decide)] at h3
    rw [if_neg (by decide), if_pos rfl, if_neg (by decide), if_pos rfl, h3, h2, h1]
    show (dg d V m (f 0) * d + dg d V m (f 1)) * d + dg d V m (f 1) = (dg d V m (f 0) * d + dg d V m (f 1)) * d + (dg d V m (f 0) * d + dg d V m (f 1)) % d
    rcases hd with rfl | rfl <;> omega
  · rw [if_pos (by decide)] at h2 h3
    rw [if_neg (by decide), if_neg (by decide), if_neg (by decide), if_neg (by decide), h3, h2, h1]
theorem ANS_eq {d ac m : Int} {M0 M : nM} (hd : d = 2 ∨ d = 3) (h : RLK d M) (hS : Sf d ac M0 M) : ANS d M m ↔ mANS d M m := by
  have g11 : M 32 1 = M 112 11 := h.1.1.2.2.2.2
  have g10 : M 32 0 = M 112 10 := h.1.1.2.2.2.1
  have key : ∀ i : Int, 0 ≤ i → i < M 32 1 → (bt (M (79 + 2 * M 33 i) 2) (row3 d (M 32 0) m (M 34 i) (M 35 i) (M 36 i)) ↔ mAq d M m i) := fun i i0 i1 => by
    obtain ⟨a1, a2, a3, a4, a5⟩ := h.2 i i0 i1
    have hl := h.1.1.2.2.1.2 (M 120 i) a2.1 a2.2
    obtain ⟨⟨hk, hL⟩, -⟩ := h.1.2 (M 120 i) a2.1 a2.2
    rw [hl.1] at hk hL
    have w := mrow_wd (V := M 112 10) (m := m) (f := fun j => M 121 (3 * i + j)) hd hk (x := M 34 i) (y := M 35 i) (w := M 36 i) (by rw [a3]; show _ = M 121 (3 * i + 0); rw [Int.add_zero]) (by rw [a4]; show _ = if 1 < _ then _ else M 121 (3 * i + 0); rw [Int.add_zero]) a5
    have r := mrow_r (V := M 112 10) (m := m) (f := fun j => M 121 (3 * i + j)) hd hk
    unfold mAq
    rw [a1, g10, w, LRn.bit hd hk hL r, hl.2]
  unfold ANS mANS
  rw [g11] at key ⊢
  exact ⟨fun u q q0 q1 => (key q q0 q1).mp (u q q0 q1), fun u q q0 q1 => (key q q0 q1).mpr (u q q0 q1)⟩
theorem NAn_eq {d ac : Int} {M0 M : nM} (hd : d = 2 ∨ d = 3) (h : RLK d M) (hS : Sf d ac M0 M) : NAn d M = mNAn d M := by
  have g10 : M 32 0 = M 112 10 := h.1.1.2.2.2.1
  unfold NAn mNAn
  rw [g10]
  exact cf_congr _ (fun m _ _ => bb_c (ANS_eq hd h hS))
/-- the i-th by rank -/
def mAth (d i z : Int) (M : nM) : Prop := (z = -1 ∧ (i < 0 ∨ mNAn d M ≤ i)) ∨ (0 ≤ i ∧ (0 ≤ z ∧ z < pn d (M 112 10).toNat) ∧ mANS d M z ∧ cf (fun m => bb (mANS d M m)) z.toNat = i)
theorem mANS.of {d m : Int} {M M1 : nM} (k : ∀ a i : Int, core0 a i → M1 a i = M a i) : mANS d M1 m ↔ mANS d M m := by
  unfold mANS
  rw [k 112 11 (by unfold core0; omega)]
  have kk : ∀ q : Int, mAq d M1 m q ↔ mAq d M m q := fun q => by
    unfold mAq
    have e121 : (fun j => M1 121 (3 * q + j)) = fun j => M 121 (3 * q + j) := funext fun j => k 121 _ (by unfold core0; omega)
    rw [e121, k 120 q (by unfold core0; omega), k 119 _ (by unfold core0; omega), k 118 _ (by unfold core0; omega), k 112 10 (by unfold core0; omega)]
  exact ⟨fun u q q0 q1 => (kk q).mp (u q q0 q1), fun u q q0 q1 => (kk q).mpr (u q q0 q1)⟩
theorem pn_8 {d U : Int} (hd : d = 2 ∨ d = 3) (hU : U ≤ 8) : 1 ≤ pn d U.toNat ∧ pn d U.toNat ≤ 6561 := by
  have h := pn_le hd U.toNat 8 (by omega)
  have h2 : pn d 8 ≤ 6561 := by
    rcases hd with rfl | rfl <;> decide
  have h3 := pn_pos hd U.toNat
  omega
theorem cSt.hct {d ac : Int} {M0 M M1 : nM} (hd : d = 2 ∨ d = 3) (hS : Sf d ac M0 M) (c : cSt d M M1) : cf (wbt M1 49) 6592 = M1 48 1 := by
  have b := t_32_0 hS
  have p := pn_8 hd (show M 32 0 ≤ 8 by omega)
  have h := cf_cut (f := wbt M1 49) (P := fun m => ANS d M m) (N := pn d (M 32 0).toNat) (L := 6592) (by omega) (wbt_r M1 49) c.2.2.2
  rw [c.2.1]
  exact h
theorem RLT.ath {d ac i z z2 : Int} {M0 M M1 : nM} (hd : d = 2 ∨ d = 3) (h : RLT d M) (hS : Sf d ac M0 M) (c : cSt d M M1) (n : Nth M1 48 i z 6592) (m : mAth d i z2 M1) : z = z2 := by
  have b := t_32_0 hS
  have p := pn_8 hd (show M 32 0 ≤ 8 by omega)
  have g10 : M 32 0 = M 112 10 := h.1.1.1.2.2.2.1
  have ee := c.2.2.1
  have e10 := ee 112 10 (by unfold core0; omega)
  have en : M1 48 1 = mNAn d M1 := by
    rw [c.2.1, NAn_eq hd h.1 hS]
    unfold mNAn
    rw [e10]
    exact cf_congr _ (fun m _ _ => bb_c (mANS.of ee).symm)
  have eq1 : ∀ j : Int, 0 ≤ j → j < pn d (M 32 0).toNat → wbt M1 49 j = bb (mANS d M1 j) := fun j j0 j1 => by
    rw [bits_eq (wbt_r M1 49) (by omega) c.2.2.2 j0 j1]
    exact bb_c ((ANS_eq hd h.1 hS).trans (mANS.of ee).symm)
  rcases n with ⟨n1, n2⟩ | ⟨n1, n2, n3, n4, n5⟩
  · rcases m with ⟨m1, m2⟩ | ⟨m1, m2, m3, m4⟩
    · rw [n2, m1]
    · exfalso
      have r : cf (fun m => bb (mANS d M1 m)) (z2 + 1).toNat ≤ mNAn d M1 := by
        unfold mNAn
        have y := cf_mono (f := fun m => bb (mANS d M1 m)) (fun j => by have := bb_r (mANS d M1 j); show 0 ≤ bb (mANS d M1 j); omega) (z2 + 1).toNat ((pn d (M1 112 10).toNat).toNat - (z2 + 1).toNat)
        rw [show (z2 + 1).toNat + ((pn d (M1 112 10).toNat).toNat - (z2 + 1).toNat) = (pn d (M1 112 10).toNat).toNat by omega] at y
        exact y
      rw [cf_step (by omega)] at r
      have r2 : bb (mANS d M1 z2) = 1 := bb_t m3
      have r3 : cf (fun m => bb (mANS d M1 m)) z2.toNat + bb (mANS d M1 z2) ≤ mNAn d M1 := r
      omega
  · rcases m with ⟨m1, m2⟩ | ⟨m1, m2, m3, m4⟩
    · exfalso
      omega
    · have zb := ((c.2.2.2 z n3.1 n3.2).mp n4).1
      exact rank_uniq (f := wbt M1 49) (g := fun m => bb (mANS d M1 m)) (L := pn d (M 32 0).toNat) (fun j => (wbt_r M1 49 j).1) eq1 n3.1 m2.1 (by rw [g10, ← e10]; exact m2.2) n4 (bb_t m3) (by rw [m4]; exact n5)
def PRW (d V m : Int) (f : Int → Int) (x y : Int) : Prop := (y = 0 ∧ x = 0) ∨ (y = 1 ∧ x = dg d V m (f 0)) ∨ (y = 2 ∧ x = dg d V m (f 0) * d + dg d V m (f 1)) ∨ (y = 3 ∧ x = (dg d V m (f 0) * d + dg d V m (f 1)) * d + dg d V m (f 2))
theorem PRW.step {d V m x y z : Int} {f : Int → Int} (h : PRW d V m f x y) (hy : y < 3) (hz : z = dg d V m (f y)) : PRW d V m f (x * d + z) (y + 1) := by
  rcases h with ⟨a, b⟩ | ⟨a, b⟩ | ⟨a, b⟩ | ⟨a, b⟩
  · rw [a] at hz
    refine Or.inr (Or.inl ⟨by omega, ?_⟩)
    rw [b, hz, Int.zero_mul, Int.zero_add]
  · rw [a] at hz
    refine Or.inr (Or.inr (Or.inl ⟨by omega, ?_⟩))
    rw [b, hz]
  · rw [a] at hz
    refine Or.inr (Or.inr (Or.inr ⟨by omega, ?_⟩))
    rw [b, hz]
  · omega
theorem PRW.r {d V m x y : Int} {f : Int → Int} (hd : d = 2 ∨ d = 3) (h : PRW d V m f x y) (hy : y ≤ 2) : 0 ≤ x ∧ x ≤ 8 := by
  have a := dg_r (V := V) (m := m) (u := f 0) hd
  have b := dg_r (V := V) (m := m) (u := f 1) hd
  rcases h with ⟨_, e⟩ | ⟨_, e⟩ | ⟨_, e⟩ | ⟨c, _⟩
  · omega
  · omega
  · rcases hd with rfl | rfl <;> omega
  · omega
theorem PRW.mr {d V m x y k : Int} {f : Int → Int} (h : PRW d V m f x y) (hk : 1 ≤ k ∧ k ≤ 3) (e : y = k) : x = mrow d V m k f := by
  subst e
  unfold mrow
  rcases h with ⟨a, b⟩ | ⟨a, b⟩ | ⟨a, b⟩ | ⟨a, b⟩
  · omega
  · rw [if_pos a]
    exact b
  · rw [if_neg (by omega), if_pos a]
    exact b
  · rw [if_neg (by omega), if_neg (by omega)]
    exact b
/-- the net behind the limits and their order -/
theorem NST.mk2 {d V n : Int} {Ms M M2 : nM} (hV : 0 ≤ V ∧ V ≤ 9) (h5 : M 38 5 = d) (h6 : M 38 6 = V) (hA : ALn d n Ms M) (f : FO M M2) (o : ORD (fun i => M 40 i) (fun i => M2 41 i) (fun i => M2 42 i) (fun i => M2 43 i) (ARd d) (M 38 6)) : NST d V M2 := by
  have e40 : (fun i => M2 40 i) = fun i => M 40 i := funext fun i => f 40 i (by omega) (by omega) (by omega)
  refine ⟨(f 38 5 (by omega) (by omega) (by omega)).trans h5, (f 38 6 (by omega) (by omega) (by omega)).trans h6, hV, fun p q r hp hq hr => ?_, ?_⟩
  · rw [f 40 _ (by omega) (by omega) (by omega)]
    exact (hA p q r hp hq hr).1
  · rw [e40, ← h6]
    exact o
def FS (Ms M : nM) : Prop := ∀ a i : Int, ¬ (38 ≤ a ∧ a ≤ 43) → M a i = Ms a i
theorem LawOk.w {d q : Int} {M : nM} (h : LawOk d q M) : 0 ≤ M q 2 ∧ M q 2 ≤ 134217727 := h.2.2.1
theorem RLT.hq1 {d : Int} {M : nM} (h : RLT d M) : ∀ q : Int, 0 ≤ q → q < M 112 11 → 1 ≤ M 118 (M 120 q) := fun q q0 q1 => by
  have g11 : M 32 1 = M 112 11 := h.1.1.1.2.2.2.2
  have g7 : M 3 15 = M 112 7 := h.1.1.1.2.2.1.1
  obtain ⟨a1, a2, a3, a4, a5⟩ := h.1.2 q q0 (by omega)
  exact RLX.hlp h.1.1 (M 120 q) a2.1 (by omega)
