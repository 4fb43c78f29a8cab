/-! The maker's sizes. -/
def Pm (M : nM) (a : Int) : Int := if 0 ≤ a ∧ a < 8 then M (55 + 3 * a) 0 else 0
def VS (d : Int) (R : Nat) (n ac : Int) (Ms M : nM) : Prop := ∀ i : Int, 0 ≤ i → i < M 15 10 → VAL d R n ac (Tm Ms) (Pm Ms) (M 20 i) (M 21 i)
theorem VAL.cg {d n ac c s r : Int} {R : Nat} {T : Int → Int → Int} {P : Int → Int} (h : VAL d R n ac T P c (kap s)) (e : s = r) : VAL d R n ac T P c (kap r) := by
  rw [← e]
  exact h
/-- it is there, with no more signs than s -/
def HSs (M : nM) (c s : Int) : Prop := ∃ i : Int, 0 ≤ i ∧ i < M 15 10 ∧ M 20 i = c ∧ M 21 i ≤ s
/-- sizes go down at most, those up to L stay, all others stay above L (or at the most that is told) -/
def SL (L : Int) (M M1 : nM) : Prop := (∀ i : Int, 0 ≤ i → i < M 15 10 → M1 21 i ≤ M 21 i ∧ (M 21 i ≤ L → M1 21 i = M 21 i) ∧ (kap (L + 1) ≤ M 21 i → kap (L + 1) ≤ M1 21 i)) ∧ ∀ i : Int, 0 ≤ i → M 15 10 ≤ i → i < M1 15 10 → kap (L + 1) ≤ M1 21 i
section
variable {d n ac L : Int} {R : Nat} {Ms M M1 M2 : nM}
theorem HSs.has {c s : Int} (h : HSs M c s) : HAS M c := by
  obtain ⟨i, i0, i1, e, -⟩ := h
  exact ⟨i, i0, i1, e⟩
theorem HSs.le {c s t : Int} (h : HSs M c s) (q : s ≤ t) : HSs M c t := by
  obtain ⟨i, i0, i1, e, w⟩ := h
  exact ⟨i, i0, i1, e, Int.le_trans w q⟩
theorem SL.refl : SL L M M := ⟨fun _ _ _ => ⟨Int.le_refl _, fun _ => rfl, fun q => q⟩, fun i _ h1 h2 => by omega⟩
theorem SL.tr (h : SL L M M1) (k : SL L M1 M2) (g : GR M M1) : SL L M M2 := by
  refine ⟨fun i i0 i1 => ?_, fun i i0 h1 h2 => ?_⟩
  · obtain ⟨a1, a2, a3⟩ := h.1 i i0 i1
    obtain ⟨b1, b2, b3⟩ := k.1 i i0 (Int.lt_of_lt_of_le i1 g.1)
    refine ⟨Int.le_trans b1 a1, fun q => ?_, fun q => b3 (a3 q)⟩
    have y := a2 q
    rw [b2 (by omega), y]
  · by_cases u : i < M1 15 10
    · exact (k.1 i i0 u).2.2 (h.2 i i0 h1 u)
    · exact k.2 i i0 (by omega) h2
theorem HSs.gr {c s : Int} (h : HSs M c s) (g : GR M M1) (k : SL L M M1) : HSs M1 c s := by
  obtain ⟨i, i0, i1, e, w⟩ := h
  exact ⟨i, i0, Int.lt_of_lt_of_le i1 g.1, (g.2 i i0 i1).trans e, Int.le_trans (k.1 i i0 i1).1 w⟩
/-- behind add, with the size -/
def ADz (c s : Int) (M M1 : nM) : Prop := (256 < M 15 10 ∧ M1 = M) ∨ (M1 15 10 = M 15 10 + 1 ∧ M1 20 (M 15 10) = c ∧ M1 21 (M 15 10) = s ∧ ∀ i : Int, 0 ≤ i → i < M 15 10 → M1 20 i = M 20 i ∧ M1 21 i = M 21 i)
theorem ADz.vs {c s : Int} (h : ADz c s M M1) (v : VS d R n ac Ms M) (vl : VAL d R n ac (Tm Ms) (Pm Ms) c s) : VS d R n ac Ms M1 := by
  rcases h with ⟨-, e⟩ | ⟨e1, e2, e3, e4⟩
  · rw [e]
    exact v
  · intro i i0 i1
    by_cases u : i = M 15 10
    · rw [u, e2, e3]
      exact vl
    · obtain ⟨a, b⟩ := e4 i i0 (by omega)
      rw [a, b]
      exact v i i0 (by omega)
theorem ADz.sl {c s : Int} (h : ADz c s M M1) (q : kap (L + 1) ≤ s) : SL L M M1 := by
  rcases h with ⟨-, e⟩ | ⟨e1, e2, e3, e4⟩
  · rw [e]
    exact SL.refl
  · refine ⟨fun i i0 i1 => ?_, fun i i0 h1 h2 => ?_⟩
    · rw [(e4 i i0 i1).2]
      exact ⟨Int.le_refl _, fun _ => rfl, fun w => w⟩
    · rw [show i = M 15 10 by omega, e3]
      exact q
theorem ADz.hs {c s : Int} (h : ADz c s M M1) (h0 : 0 ≤ M 15 10) : 256 < M1 15 10 ∨ HSs M1 c s := by
  rcases h with ⟨u, e⟩ | ⟨e1, e2, e3, -⟩
  · rw [e]
    exact Or.inl u
  · exact Or.inr ⟨M 15 10, h0, by omega, e2, by rw [e3]; exact Int.le_refl _⟩
/-- a size goes down -/
theorem SL.siz {p s : Int} (hp : 0 ≤ p ∧ p < M 15 10) (h1 : s < M 21 p) (h2 : kap (L + 1) ≤ s) (h3 : M 21 p ≤ 1000000) (e : M1 = nu M 21 p s) : SL L M M1 := by
  have e10 : M1 15 10 = M 15 10 := by rw [e, nu_a (by omega)]
  refine ⟨fun i i0 i1 => ?_, fun i i0 w1 w2 => by omega⟩
  by_cases u : i = p
  · rw [u, e, nu_s]
    exact ⟨by omega, fun q => by exfalso; unfold kap at h2; split at h2 <;> omega, fun _ => h2⟩
  · rw [e, nu_i u]
    exact ⟨Int.le_refl _, fun _ => rfl, fun q => q⟩
theorem VS.siz {p s : Int} (v : VS d R n ac Ms M) (vl : VAL d R n ac (Tm Ms) (Pm Ms) (M 20 p) s) (e : M1 = nu M 21 p s) : VS d R n ac Ms M1 := fun i i0 i1 => by
  rw [e, nu_a (by omega)] at i1
  by_cases u : i = p
  · rw [u, e, nu_s, nu_a (by omega)]
    exact vl
  · have f20 : M1 20 i = M 20 i := by rw [e, nu_a (by omega)]
    have f21 : M1 21 i = M 21 i := by rw [e, nu_i u]
    rw [f20, f21]
    exact v i i0 i1
theorem VS.of (v : VS d R n ac Ms M) (e10 : M1 15 10 = M 15 10) (f : ∀ a i : Int, a = 20 ∨ a = 21 → M1 a i = M a i) : VS d R n ac Ms M1 := fun i i0 i1 => by
  rw [f 20 i (by omega), f 21 i (by omega)]
  exact v i i0 (by omega)
theorem SL.of (e10 : M1 15 10 = M 15 10) (f : ∀ i : Int, M1 21 i = M 21 i) : SL L M M1 := ⟨fun i i0 i1 => by
  rw [f i]
  exact ⟨Int.le_refl _, fun _ => rfl, fun q => q⟩, fun i _ w1 w2 => by omega⟩
/-- what the ceiling says -/
def CEI (d : Int) (R : Nat) (n ac : Int) (Ms M : nM) : Prop := M 15 11 = 3000002 ∨ ∀ c : Int, Clo d R n ac (Tm Ms) c → HSs M c (M 15 11)
theorem CEI.hs {c s : Int} (h : CEI d R n ac Ms M) (v : VS d R n ac Ms M) (q : M 15 11 ≤ s) (q2 : M 15 11 < 3000002) (cl : Clo d R n ac (Tm Ms) c) : HSs M c (kap s) := by
  rcases h with u | u
  · omega
  · obtain ⟨i, i0, i1, e, w⟩ := u c cl
    exact ⟨i, i0, i1, e, kap_ge (Int.le_trans w q) (v i i0 i1).r.2⟩
end
section
variable {d n ac L : Int} {R : Nat} {Ms Mt M M1 : nM}
theorem ADz.mk {c s z cz : Int} {M2 M3 M4 M5 M6 M7 : nM} (hcz : cz = M 15 10) (hP : M 15 9 = 31 ∨ M 15 9 = 130) (e1 : M1 = nu M 20 cz c) (e2 : M2 = nu M1 21 cz s) (e3 : M3 = nu M2 22 cz (t3 d c 0)) (e4 : M4 = nu M3 23 cz (t3 d c 3)) (e5 : M5 = nu M4 24 cz (t3 d c 6)) (e6 : M6 = nu M5 15 10 (cz + 1)) (e7 : M7 = nu M6 (M6 15 9) c z) : ADz c s M M7 := by
  have p6 : M6 15 9 = M 15 9 := by rw [e6, nu_i (by omega), e5, nu_a (by omega), e4, nu_a (by omega), e3, nu_a (by omega), e2, nu_a (by omega), e1, nu_a (by omega)]
  rw [p6] at e7
  have f : ∀ a i : Int, a = 20 ∨ a = 21 → M7 a i = M2 a i := fun a i q => by rw [e7, nu_a (by omega), e6, nu_a (by omega), e5, nu_a (by omega), e4, nu_a (by omega), e3, nu_a (by omega)]
  refine Or.inr ⟨by rw [e7, nu_a (by omega), e6, nu_s, hcz], ?_, ?_, fun i i0 i1 => ⟨?_, ?_⟩⟩
  · rw [f 20 _ (by omega), e2, nu_a (by omega), e1, hcz, nu_s]
  · rw [f 21 _ (by omega), e2, hcz, nu_s]
  · rw [f 20 _ (by omega), e2, nu_a (by omega), e1, nu_i (by omega)]
  · rw [f 21 _ (by omega), e2, nu_i (by omega), e1, nu_a (by omega)]
/-- what a sweep has met, with sizes -/
def SWS (d : Int) (R : Nat) (T : Int → Int) (x y f t s : Int) (Mt M : nM) : Prop := ∀ z : Int, f ≤ z → z < t → 256 < M 15 10 ∨ HSs M (mcm d R T (Mt 20 x) (Mt 20 y) (Mt 20 z)) (kap (s + Mt 21 z))
theorem SWS.st {T : Int → Int} {x y f t s : Int} (h : SWS d R T x y f t s Mt M) (g : GR M M1) (k : SL L M M1) (q : 256 < M1 15 10 ∨ HSs M1 (mcm d R T (Mt 20 x) (Mt 20 y) (Mt 20 t)) (kap (s + Mt 21 t))) : SWS d R T x y f (t + 1) s Mt M1 := fun z z0 z1 => by
  by_cases u : z = t
  · rw [u]
    exact q
  · rcases h z z0 (by omega) with w | w
    · exact Or.inl (Int.lt_of_lt_of_le w g.1)
    · exact Or.inr (w.gr g k)
theorem SWS.gr {T : Int → Int} {x y f t s : Int} (h : SWS d R T x y f t s Mt M) (g : GR M M1) (k : SL L M M1) : SWS d R T x y f t s Mt M1 := fun z z0 z1 => by
  rcases h z z0 z1 with w | w
  · exact Or.inl (Int.lt_of_lt_of_le w g.1)
  · exact Or.inr (w.gr g k)
theorem CEI.gr (h : CEI d R n ac Ms M) (g : GR M M1) (k : SL L M M1) (e : M1 15 11 = M 15 11) : CEI d R n ac Ms M1 := by
  rcases h with u | u
  · exact Or.inl (e.trans u)
  · refine Or.inr (fun c cl => ?_)
    rw [e]
    exact (u c cl).gr g k
/-- under the ceiling nothing more can come -/
theorem SWS.ce {T : Int → Int} {x y f t z s : Int} (h : SWS d R T x y f z s Mt M) (ce : CEI d R n ac Ms M) (v : VS d R n ac Ms M) (lt : M 15 11 ≤ s + Mt 21 z) (l3 : s + Mt 21 z < 3000002) (so : ∀ q : Int, z ≤ q → q < t → Mt 21 z ≤ Mt 21 q) (cl : ∀ q : Int, z ≤ q → q < t → Clo d R n ac (Tm Ms) (mcm d R T (Mt 20 x) (Mt 20 y) (Mt 20 q))) : SWS d R T x y f t s Mt M := fun q q0 q1 => by
  by_cases u : q < z
  · exact h q q0 u
  · have w := so q (by omega) q1
    exact Or.inr (ce.hs v (by omega) (by omega) (cl q (by omega) q1))
end
theorem cst1 {x y z : Int} : cst 1 x y z = kap (1 + z) := by
  unfold cst
  rw [if_neg (by omega), if_neg (by omega), show 1 + 0 + 0 + z = 1 + z by omega]
theorem cst2 {x y z : Int} : cst 2 x y z = kap (1 + y + z) := by
  unfold cst
  rw [if_neg (by omega), if_pos (by omega), show 1 + 0 + y + z = 1 + y + z by omega]
theorem cst3 {x y z : Int} : cst 3 x y z = kap (1 + x + y + z) := by
  unfold cst
  rw [if_pos rfl, if_pos (by omega)]
/-- what has been met of an act of k places, with sizes -/
def PSD (d : Int) (R : Nat) (T : Int → Int) (k : Int) (Mt M : nM) (P : Int → Int → Int → Prop) : Prop := ∀ x y z : Int, P x y z → 256 < M 15 10 ∨ HSs M (mcm d R T (Mt 20 x) (Mt 20 y) (Mt 20 z)) (cst k (Mt 21 x) (Mt 21 y) (Mt 21 z))
def POz (d : Int) (R : Nat) (T : Int → Int) (k e : Int) (Mt M1 : nM) : Prop := (∀ x y z : Int, (0 ≤ x ∧ x < e) → (0 ≤ y ∧ y < e) → (0 ≤ z ∧ z < e) → HSs Mt (mcm d R T (Mt 20 x) (Mt 20 y) (Mt 20 z)) (cst k (Mt 21 x) (Mt 21 y) (Mt 21 z))) → ∀ x y z : Int, (0 ≤ x ∧ x ≤ e) → (0 ≤ y ∧ y ≤ e) → (0 ≤ z ∧ z ≤ e) → 256 < M1 15 10 ∨ HSs M1 (mcm d R T (Mt 20 x) (Mt 20 y) (Mt 20 z)) (cst k (Mt 21 x) (Mt 21 y) (Mt 21 z))
section
variable {d k e L : Int} {R : Nat} {T U : Int → Int} {Mt M M1 : nM} {P Q : Int → Int → Int → Prop}
theorem PSD.gr (h : PSD d R T k Mt M P) (g : GR M M1) (s : SL L M M1) : PSD d R T k Mt M1 P := fun x y z p => by
  rcases h x y z p with u | u
  · exact Or.inl (Int.lt_of_lt_of_le u g.1)
  · exact Or.inr (u.gr g s)
theorem PSD.or (h : PSD d R T k Mt M P) (q : PSD d R T k Mt M Q) : PSD d R T k Mt M (fun x y z => P x y z ∨ Q x y z) := fun x y z p => p.elim (h x y z) (q x y z)
theorem PSD.im (h : PSD d R T k Mt M Q) (q : ∀ x y z : Int, P x y z → Q x y z) : PSD d R T k Mt M P := fun x y z p => h x y z (q x y z p)
theorem PSD.of {x y f t s : Int} (h : SWS d R T x y f t s M M1) (ex : M 20 x = Mt 20 x) (ey : M 20 y = Mt 20 y) (ez : ∀ z : Int, f ≤ z → z < t → M 20 z = Mt 20 z ∧ kap (s + M 21 z) = cst k (Mt 21 x) (Mt 21 y) (Mt 21 z)) : PSD d R T k Mt M1 (fun a b c => a = x ∧ b = y ∧ f ≤ c ∧ c < t) := fun a b c p => by
  obtain ⟨p1, p2, p3, p4⟩ := p
  obtain ⟨e1, e2⟩ := ez c p3 p4
  have y0 := h c p3 p4
  rw [ex, ey, e1, e2] at y0
  rw [p1, p2]
  exact y0
theorem PSD.ou {x y f t s : Int} (hd : d = 2 ∨ d = 3) (hU : ∀ i : Int, 0 ≤ i → i < d * d * d → U i = T (tr d i)) (h : SWS d R U x y f t s M M1) (ex : M 20 x = Mt 20 x) (ey : M 20 y = Mt 20 y) (ez : ∀ z : Int, f ≤ z → z < t → M 20 z = Mt 20 z ∧ kap (s + M 21 z) = cst k (Mt 21 x) (Mt 21 z) (Mt 21 y)) : PSD d R T k Mt M1 (fun a b c => a = x ∧ c = y ∧ f ≤ b ∧ b < t) := fun a b c p => by
  obtain ⟨p1, p2, p3, p4⟩ := p
  obtain ⟨e1, e2⟩ := ez b p3 p4
  have y0 := h b p3 p4
  rw [ex, ey, e1, e2, mcm_tr hd hU] at y0
  rw [p1, p2]
  exact y0
theorem POz.one (hd : d = 2 ∨ d = 3) (he : 0 ≤ e) (hw : ∀ i : Int, 0 ≤ i → i < d * d * d → T i = T (i % pw d 1)) (g : GR Mt M1) (s : SL L Mt M1) (h : PSD d R T 1 Mt M1 (fun a b c => a = e ∧ b = e ∧ e ≤ c ∧ c < e + 1)) : POz d R T 1 e Mt M1 := fun p x y z hx hy hz => by
  by_cases w : z = e
  · have y0 := h e e z ⟨rfl, rfl, by omega, by omega⟩
    rw [mcm_ig (k := 1) (x2 := Mt 20 x) (y2 := Mt 20 y) hd (by omega) hw (by omega) (by omega), cst1] at y0
    rw [cst1]
    exact y0
  · have y0 := (p z z z (by omega) (by omega) (by omega)).gr g s
    rw [mcm_ig (k := 1) (x2 := Mt 20 x) (y2 := Mt 20 y) hd (by omega) hw (by omega) (by omega), cst1] at y0
    rw [cst1]
    exact Or.inr y0
theorem POz.two (hd : d = 2 ∨ d = 3) (he : 0 ≤ e) (hw : ∀ i : Int, 0 ≤ i → i < d * d * d → T i = T (i % pw d 2)) (g : GR Mt M1) (s : SL L Mt M1) (h : PSD d R T 2 Mt M1 (fun a b c => a = e ∧ b = e ∧ 0 ≤ c ∧ c < e + 1)) (q : PSD d R T 2 Mt M1 (fun a b c => a = e ∧ c = e ∧ 0 ≤ b ∧ b < e - 1 + 1)) : POz d R T 2 e Mt M1 := fun p x y z hx hy hz => by
  by_cases w : y = e
  · have y0 := h e y z ⟨rfl, w, by omega, by omega⟩
    rw [mcm_ig (k := 2) (x2 := Mt 20 x) (y2 := Mt 20 y) hd (by omega) hw (by omega) (fun _ => rfl), cst2] at y0
    rw [cst2]
    exact y0
  · by_cases w2 : z = e
    · have y0 := q e y z ⟨rfl, w2, by omega, by omega⟩
      rw [mcm_ig (k := 2) (x2 := Mt 20 x) (y2 := Mt 20 y) hd (by omega) hw (by omega) (fun _ => rfl), cst2] at y0
      rw [cst2]
      exact y0
    · have y0 := (p y y z (by omega) (by omega) (by omega)).gr g s
      rw [mcm_ig (k := 2) (x2 := Mt 20 x) (y2 := Mt 20 y) hd (by omega) hw (by omega) (fun _ => rfl), cst2] at y0
      rw [cst2]
      exact Or.inr y0
theorem POz.thr (g : GR Mt M1) (s : SL L Mt M1) (h : PSD d R T 3 Mt M1 (fun a b c => a = e ∧ 0 ≤ b ∧ b < e + 1 ∧ 0 ≤ c ∧ c < e + 1)) (h2 : PSD d R T 3 Mt M1 (fun a b c => 0 ≤ a ∧ a < e ∧ b = e ∧ 0 ≤ c ∧ c < e + 1)) (h3 : PSD d R T 3 Mt M1 (fun a b c => 0 ≤ a ∧ a < e ∧ c = e ∧ 0 ≤ b ∧ b < e - 1 + 1)) : POz d R T 3 e Mt M1 := fun p x y z hx hy hz => by
  by_cases w1 : x = e
  · exact h x y z ⟨w1, by omega, by omega, hz.1, by omega⟩
  · by_cases w2 : y = e
    · exact h2 x y z ⟨hx.1, by omega, w2, hz.1, by omega⟩
    · by_cases w3 : z = e
      · exact h3 x y z ⟨hx.1, by omega, w3, hy.1, by omega⟩
      · exact Or.inr ((p x y z (by omega) (by omega) (by omega)).gr g s)
end
/-- i stands ahead of j -/
def LT (M : nM) (i j : Int) : Prop := M 21 i < M 21 j ∨ (M 21 i = M 21 j ∧ M 20 i < M 20 j)
/-- two have changed their places -/
def SWP (x y : Int) (M M1 : nM) : Prop := ∀ a : Int, a = 20 ∨ a = 21 → M1 a x = M a y ∧ M1 a y = M a x ∧ ∀ q : Int, q ≠ x → q ≠ y → M1 a q = M a q
theorem SWP.mk {x y z1 z2 : Int} {M M1 M2 M3 M4 M5 M6 M7 : nM} (hP : M 15 9 = 31 ∨ M 15 9 = 130) (e1 : M1 = swq M 20 x y) (e2 : M2 = swq M1 21 x y) (e3 : M3 = swq M2 22 x y) (e4 : M4 = swq M3 23 x y) (e5 : M5 = swq M4 24 x y) (e6 : M6 = nu M5 (M5 15 9) z1 (x + 1)) (e7 : M7 = nu M6 (M6 15 9) z2 (y + 1)) : SWP x y M M7 := by
  have p5 : M5 15 9 = M 15 9 := by rw [e5, swq_a (by omega), e4, swq_a (by omega), e3, swq_a (by omega), e2, swq_a (by omega), e1, swq_a (by omega)]
  rw [p5] at e6
  have p6 : M6 15 9 = M 15 9 := by rw [e6, nu_a (by omega)]; exact p5
  rw [p6] at e7
  have f : ∀ a i : Int, a = 20 ∨ a = 21 → M7 a i = M2 a i := fun a i q => by rw [e7, nu_a (by omega), e6, nu_a (by omega), e5, swq_a (by omega), e4, swq_a (by omega), e3, swq_a (by omega)]
  intro a q
  rw [f a x q, f a y q]
  rcases q with rfl | rfl
  · have w : ∀ i : Int, M2 20 i = swq M 20 x y 20 i := fun i => by rw [e2, swq_a (by omega), e1]
    rw [w x, w y]
    exact ⟨swq_x, swq_y, fun q p r => by rw [f 20 q (by omega), w q]; exact swq_i p r⟩
  · have v : ∀ i : Int, M1 21 i = M 21 i := fun i => by rw [e1, swq_a (by omega)]
    rw [e2]
    exact ⟨swq_x.trans (v y), swq_y.trans (v x), fun q p r => by rw [f 21 q (by omega), e2]; exact (swq_i p r).trans (v q)⟩
section
variable {d n ac x y : Int} {R : Nat} {Ms M M1 : nM}
theorem SWP.at (h : SWP x y M M1) (i : Int) : ∃ j : Int, ((i = x ∧ j = y) ∨ (i = y ∧ j = x) ∨ (i ≠ x ∧ i ≠ y ∧ j = i)) ∧ M1 20 i = M 20 j ∧ M1 21 i = M 21 j := by
  obtain ⟨a1, a2, a3⟩ := h 20 (Or.inl rfl)
  obtain ⟨b1, b2, b3⟩ := h 21 (Or.inr rfl)
  by_cases u : i = x
  · exact ⟨y, Or.inl ⟨u, rfl⟩, by rw [u]; exact a1, by rw [u]; exact b1⟩
  · by_cases w : i = y
    · exact ⟨x, Or.inr (Or.inl ⟨w, rfl⟩), by rw [w]; exact a2, by rw [w]; exact b2⟩
    · exact ⟨i, Or.inr (Or.inr ⟨u, w, rfl⟩), a3 i u w, b3 i u w⟩
theorem SWP.to (h : SWP x y M M1) (i : Int) : ∃ j : Int, ((i = x ∧ j = y) ∨ (i = y ∧ j = x) ∨ (i ≠ x ∧ i ≠ y ∧ j = i)) ∧ M1 20 j = M 20 i ∧ M1 21 j = M 21 i := by
  obtain ⟨a1, a2, a3⟩ := h 20 (Or.inl rfl)
  obtain ⟨b1, b2, b3⟩ := h 21 (Or.inr rfl)
  by_cases u : i = x
  · exact ⟨y, Or.inl ⟨u, rfl⟩, by rw [u]; exact a2, by rw [u]; exact b2⟩
  · by_cases w : i = y
    · exact ⟨x, Or.inr (Or.inl ⟨w, rfl⟩), by rw [w]; exact a1, by rw [w]; exact b1⟩
    · exact ⟨i, Or.inr (Or.inr ⟨u, w, rfl⟩), a3 i u w, b3 i u w⟩
theorem SWP.vs (h : SWP x y M M1) (e : M1 15 10 = M 15 10) (hx : 0 ≤ x ∧ x < M 15 10) (hy : 0 ≤ y ∧ y < M 15 10) (v : VS d R n ac Ms M) : VS d R n ac Ms M1 := fun i i0 i1 => by
  obtain ⟨j, q, e1, e2⟩ := h.at i
  rw [e1, e2]
  exact v j (by omega) (by omega)
theorem SWP.hs (h : SWP x y M M1) (e : M1 15 10 = M 15 10) (hx : 0 ≤ x ∧ x < M 15 10) (hy : 0 ≤ y ∧ y < M 15 10) (c s : Int) : HSs M1 c s ↔ HSs M c s := by
  constructor
  · rintro ⟨i, i0, i1, e1, e2⟩
    obtain ⟨j, q, a, b⟩ := h.at i
    exact ⟨j, by omega, by omega, by rw [← a]; exact e1, by rw [← b]; exact e2⟩
  · rintro ⟨i, i0, i1, e1, e2⟩
    obtain ⟨j, q, a, b⟩ := h.to i
    exact ⟨j, by omega, by omega, by rw [a]; exact e1, by rw [b]; exact e2⟩
/-- the least has been brought to x -/
theorem SWP.lt (h : SWP x y M M1) (hy : x ≤ y) (q : ∀ i : Int, x ≤ i → i < M 15 10 → i ≠ y → LT M y i) : ∀ i : Int, x < i → i < M 15 10 → LT M1 x i := fun i i0 i1 => by
  obtain ⟨a1, -, -⟩ := h 20 (Or.inl rfl)
  obtain ⟨b1, -, -⟩ := h 21 (Or.inr rfl)
  obtain ⟨j, w, c1, c2⟩ := h.at i
  unfold LT
  rw [a1, b1, c1, c2]
  exact q j (by omega) (by omega) (by omega)
end
theorem LT.tr {M : nM} {i j k : Int} (h : LT M i j) (q : LT M j k) : LT M i k := by
  unfold LT at *
  omega
theorem LT.no {M : nM} {i j : Int} (h : ¬ LT M i j) (q : M 20 i ≠ M 20 j) : LT M j i := by
  unfold LT at *
  omega
theorem VAL.pj {d n ac j v : Int} {R : Nat} {T : Int → Int → Int} {P : Int → Int} (e : mpj d R j = v) (h0 : 0 ≤ j) (h1 : j < n) : VAL d R n ac T P v 0 := by
  subst e
  exact VAL.prj h0 h1
/-! making, with sizes -/
def I2 (e : Int) (M : nM) : Prop := ∀ i j : Int, 0 ≤ i → i < e → i ≤ j → j < M 15 10 → M 21 i ≤ M 21 j
def PDz (d : Int) (R : Nat) (ac e : Int) (Ms M : nM) : Prop := ∀ a x y z : Int, 0 ≤ a → a < ac → (0 ≤ x ∧ x < e) → (0 ≤ y ∧ y < e) → (0 ≤ z ∧ z < e) → 256 < M 15 10 ∨ HSs M (mcm d R (Tm Ms a) (M 20 x) (M 20 y) (M 20 z)) (cst (Pm Ms a) (M 21 x) (M 21 y) (M 21 z))
def PZa (d : Int) (R : Nat) (e k : Int) (Ms M : nM) : Prop := ∀ a x y z : Int, (0 ≤ a ∧ a < k) → (0 ≤ x ∧ x ≤ e) → (0 ≤ y ∧ y ≤ e) → (0 ≤ z ∧ z ≤ e) → 256 < M 15 10 ∨ HSs M (mcm d R (Tm Ms a) (M 20 x) (M 20 y) (M 20 z)) (cst (Pm Ms a) (M 21 x) (M 21 y) (M 21 z))
section
variable {d n ac e y k : Int} {R : Nat} {Ms M M1 : nM}
theorem I2.br (h : I2 e M) (sw : SWP e y M M1) (hy : e ≤ y ∧ y < M 15 10) (e10 : M1 15 10 = M 15 10) (lt : ∀ j : Int, e < j → j < M 15 10 → LT M1 e j) : I2 (e + 1) M1 := fun i j i0 i1 ij j1 => by
  by_cases u : i = e
  · by_cases w : j = e
    · rw [u, w]
      exact Int.le_refl _
    · have q := lt j (by omega) (by omega)
      unfold LT at q
      rw [u]
      omega
  · have f := (sw 21 (Or.inr rfl)).2.2 i u (by omega)
    obtain ⟨j2, q, -, e2⟩ := sw.at j
    rw [f, e2]
    exact h i j2 i0 (by omega) (by omega) (by omega)
theorem PDz.br (h : PDz d R ac e Ms M) (sw : SWP e y M M1) (he : 0 ≤ e) (hy : e ≤ y ∧ y < M 15 10) (e10 : M1 15 10 = M 15 10) : PDz d R ac e Ms M1 := fun a x u z a0 a1 hx hu hz => by
  have f : ∀ q : Int, 0 ≤ q → q < e → M1 20 q = M 20 q ∧ M1 21 q = M 21 q := fun q q0 q1 => ⟨(sw 20 (Or.inl rfl)).2.2 q (by omega) (by omega), (sw 21 (Or.inr rfl)).2.2 q (by omega) (by omega)⟩
  obtain ⟨x1, x2⟩ := f x hx.1 hx.2
  obtain ⟨u1, u2⟩ := f u hu.1 hu.2
  obtain ⟨z1, z2⟩ := f z hz.1 hz.2
  rw [x1, x2, u1, u2, z1, z2, e10, sw.hs e10 (by omega) (by omega)]
  exact h a x u z a0 a1 hx hu hz
theorem MI.fnd (mi : MI d R n ac Ms M) (hd : d = 2 ∨ d = 3) (hT : ∀ a i : Int, 0 ≤ a → a < ac → 0 ≤ i → i < d * d * d → 0 ≤ Tm Ms a i ∧ Tm Ms a i < d) (h0 : 0 ≤ M 15 10) (hN : NCl d R n ac (Tm Ms) ≤ M 15 10) {c : Int} (cl : Clo d R n ac (Tm Ms) c) : ∃ i : Int, 0 ≤ i ∧ i < M 15 10 ∧ M 20 i = c := by
  have eN : ((M 15 10).toNat : Int) = M 15 10 := by omega
  have p := dpn_pos hd R
  have y := Dif.all (g := fun i => M 20 i) (m := (M 15 10).toNat) (N := (dpn d R).toNat) (P := fun c => Clo d R n ac (Tm Ms) c) (by rw [eN]; exact mi.dif) (fun i i0 i1 => by
    have q := Clo.r hd hT (mi.1 i i0 (by omega)).1
    show 0 ≤ M 20 i ∧ M 20 i < _
    omega) (fun i i0 i1 => (mi.1 i i0 (by omega)).1) (by rw [eN]; exact hN) (by have q := Clo.r hd hT cl; omega) cl
  rw [eN] at y
  exact y
theorem CEI.mk {z m : Int} (mi : MI d R n ac Ms M) (hd : d = 2 ∨ d = 3) (hT : ∀ a i : Int, 0 ≤ a → a < ac → 0 ≤ i → i < d * d * d → 0 ≤ Tm Ms a i ∧ Tm Ms a i < d) (hm : NCl d R n ac (Tm Ms) ≤ m) (cm : M 15 10 = m) (he : 0 ≤ e ∧ e < M 15 10) (i2 : I2 (e + 1) M) (lg : ∀ q : Int, e ≤ q → q < M 15 10 → M 21 q ≤ z) (e1 : M1 = nu M 15 11 z) : CEI d R n ac Ms M1 := by
  refine Or.inr (fun c cl => ?_)
  obtain ⟨i, i0, i1, ei⟩ := mi.fnd hd hT (by omega) (by omega) cl
  refine ⟨i, i0, by rw [e1, nu_i (by omega)]; exact i1, by rw [e1, nu_a (by omega)]; exact ei, ?_⟩
  rw [e1, nu_a (by omega), nu_s]
  by_cases u : e ≤ i
  · exact lg i u i1
  · exact Int.le_trans (i2 i e i0 (by omega) (by omega) he.2) (lg e (Int.le_refl _) he.2)
theorem I2.sl (h : I2 (e + 1) M) (s : SL (M 21 e) M M1) (g : GR M M1) (he : 0 ≤ e ∧ e < M 15 10) (hb : M 21 e ≤ 1000000) : I2 (e + 1) M1 := fun i j i0 i1 ij j1 => by
  have q := h i e i0 i1 (by omega) he.2
  have w := (s.1 i i0 (by omega)).2.1 q
  rw [w]
  by_cases u : j < M 15 10
  · obtain ⟨b1, b2, b3⟩ := s.1 j (by omega) u
    by_cases v : M 21 j ≤ M 21 e
    · rw [b2 v]
      exact h i j i0 i1 ij u
    · have y := b3 (Int.le_trans kap_le.1 (by omega))
      unfold kap at y
      split at y <;> omega
  · have y := s.2 j (by omega) (by omega) j1
    unfold kap at y
    split at y <;> omega
theorem PDz.sl (h : PDz d R ac e Ms M) (i2 : I2 (e + 1) M) (s : SL (M 21 e) M M1) (g : GR M M1) (he : 0 ≤ e ∧ e < M 15 10) : PDz d R ac e Ms M1 := fun a x u z a0 a1 hx hu hz => by
  have f : ∀ q : Int, 0 ≤ q → q < e → M1 20 q = M 20 q ∧ M1 21 q = M 21 q := fun q q0 q1 => ⟨g.2 q q0 (by omega), (s.1 q q0 (by omega)).2.1 (i2 q e q0 (by omega) (by omega) he.2)⟩
  obtain ⟨x1, x2⟩ := f x hx.1 hx.2
  obtain ⟨u1, u2⟩ := f u hu.1 hu.2
  obtain ⟨z1, z2⟩ := f z hz.1 hz.2
  rw [x1, x2, u1, u2, z1, z2]
  rcases h a x u z a0 a1 hx hu hz with w | w
  · exact Or.inl (Int.lt_of_lt_of_le w g.1)
  · exact Or.inr (w.gr g s)
theorem PZa.st (h : PZa d R e k Ms M) (pd : PDz d R ac e Ms M) (i2 : I2 (e + 1) M) (hk : 0 ≤ k ∧ k < ac) (s : SL (M 21 e) M M1) (g : GR M M1) (he : 0 ≤ e ∧ e < M 15 10) (po : POz d R (Tm Ms k) (Pm Ms k) e M M1) : PZa d R e (k + 1) Ms M1 := fun a x u z ha hx hu hz => by
  have f : ∀ q : Int, 0 ≤ q → q ≤ e → M1 20 q = M 20 q ∧ M1 21 q = M 21 q := fun q q0 q1 => ⟨g.2 q q0 (by omega), (s.1 q q0 (by omega)).2.1 (i2 q e q0 (by omega) q1 he.2)⟩
  obtain ⟨x1, x2⟩ := f x hx.1 hx.2
  obtain ⟨u1, u2⟩ := f u hu.1 hu.2
  obtain ⟨z1, z2⟩ := f z hz.1 hz.2
  rw [x1, x2, u1, u2, z1, z2]
  by_cases w : 256 < M 15 10
  · exact Or.inl (Int.lt_of_lt_of_le w g.1)
  · by_cases v : a = k
    · rw [v]
      exact po (fun x u z hx hu hz => (pd k x u z hk.1 hk.2 hx hu hz).resolve_left w) x u z hx hu hz
    · rcases h a x u z (by omega) hx hu hz with q | q
      · exact absurd q w
      · exact Or.inr (q.gr g s)
theorem PZa.nx (h : PZa d R e k Ms M) (hk : ac ≤ k) : PDz d R ac (e + 1) Ms M := fun a x u z a0 a1 hx hu hz => h a x u z (by omega) (by omega) (by omega) (by omega)
/-- under the ceiling -/
theorem PDz.ce (h : PDz d R ac e Ms M) (hd : d = 2 ∨ d = 3) (mi : MI d R n ac Ms M) (he : 0 ≤ e ∧ e < M 15 10) (ce : CEI d R n ac Ms M) (v : VS d R n ac Ms M) (lt : M 15 11 ≤ M 21 e + 1) (wa : ∀ a : Int, 0 ≤ a → a < ac → (Pm Ms a = 1 ∨ Pm Ms a = 2 ∨ Pm Ms a = 3) ∧ ∀ i : Int, 0 ≤ i → i < d * d * d → Tm Ms a i = Tm Ms a (i % pw d (Pm Ms a))) : PDz d R ac (e + 1) Ms M := fun a x u z a0 a1 hx hu hz => by
  have re := (v e he.1 he.2).r
  have rx := (v x hx.1 (by omega)).r
  have ru := (v u hu.1 (by omega)).r
  have rz := (v z hz.1 (by omega)).r
  have cl : Clo d R n ac (Tm Ms) (mcm d R (Tm Ms a) (M 20 x) (M 20 u) (M 20 z)) := Clo.app a0 a1 (mi.1 x hx.1 (by omega)).1 (mi.1 u hu.1 (by omega)).1 (mi.1 z hz.1 (by omega)).1
  have hh := ce.hs v (s := M 21 e + 1) lt (by omega) cl
  obtain ⟨k3, hw⟩ := wa a a0 a1
  rcases k3 with k | k | k
  · rw [k] at hw
    by_cases w : z = e
    · refine Or.inr (hh.le ?_)
      rw [k, cst1, w]
      exact kap_mo (by omega)
    · have y0 := h a z z z a0 a1 (by omega) (by omega) (by omega)
      rw [mcm_ig (k := 1) (x2 := M 20 x) (y2 := M 20 u) hd (by omega) hw (by omega) (by omega), k, cst1] at y0
      rw [k, cst1]
      exact y0
  · rw [k] at hw
    by_cases w : u = e ∨ z = e
    · refine Or.inr (hh.le ?_)
      rw [k, cst2]
      refine kap_mo ?_
      rcases w with w | w
      · rw [w]
        omega
      · rw [w]
        omega
    · have y0 := h a u u z a0 a1 (by omega) (by omega) (by omega)
      rw [mcm_ig (k := 2) (x2 := M 20 x) (y2 := M 20 u) hd (by omega) hw (by omega) (fun _ => rfl), k, cst2] at y0
      rw [k, cst2]
      exact y0
  · by_cases w : x = e ∨ u = e ∨ z = e
    · refine Or.inr (hh.le ?_)
      rw [k, cst3]
      refine kap_mo ?_
      rcases w with w | w | w
      · rw [w]
        omega
      · rw [w]
        omega
      · rw [w]
        omega
    · exact h a x u z a0 a1 (by omega) (by omega) (by omega)
end
/-- a list that is done -/
def CLp (d : Int) (R : Nat) (n ac : Int) (Ms M : nM) : Prop := 256 < M 15 10 ∨ ((∀ j : Int, 0 ≤ j → j < n → HSs M (mpj d R j) 0) ∧ ∀ a x y z : Int, 0 ≤ a → a < ac → (0 ≤ x ∧ x < M 15 10) → (0 ≤ y ∧ y < M 15 10) → (0 ≤ z ∧ z < M 15 10) → HSs M (mcm d R (Tm Ms a) (M 20 x) (M 20 y) (M 20 z)) (cst (Pm Ms a) (M 21 x) (M 21 y) (M 21 z)))
def OUd (q x : Int) (M : nM) : Prop := ∀ i : Int, 0 ≤ i → i < x → M (q + 1) i = M 20 i ∧ M (q + 2) i = M 21 i
def SRd (x : Int) (M : nM) : Prop := ∀ i j : Int, 0 ≤ i → i < x → i < j → j < M 15 10 → LT M i j
section
variable {d n ac e y : Int} {R : Nat} {Ms M M1 : nM}
theorem CLp.mk (pj : ∀ j : Int, 0 ≤ j → j < n → HSs M (mpj d R j) 0) (pd : PDz d R ac e Ms M) (he : e = M 15 10 ∨ 256 < M 15 10) : CLp d R n ac Ms M := by
  by_cases u : 256 < M 15 10
  · exact Or.inl u
  · refine Or.inr ⟨pj, fun a x y z a0 a1 hx hy hz => ?_⟩
    exact (pd a x y z a0 a1 (by omega) (by omega) (by omega)).resolve_left u
theorem CLp.br (h : CLp d R n ac Ms M) (sw : SWP e y M M1) (he : 0 ≤ e ∧ e < M 15 10) (hy : 0 ≤ y ∧ y < M 15 10) (e10 : M1 15 10 = M 15 10) : CLp d R n ac Ms M1 := by
  rcases h with u | ⟨u1, u2⟩
  · exact Or.inl (by omega)
  · refine Or.inr ⟨fun j j0 j1 => (sw.hs e10 he hy _ _).mpr (u1 j j0 j1), fun a x u z a0 a1 hx hu hz => ?_⟩
    obtain ⟨x2, q1, a1', b1⟩ := sw.at x
    obtain ⟨v2, q2, a2, b2⟩ := sw.at u
    obtain ⟨z2, q3, a3, b3⟩ := sw.at z
    rw [a1', b1, a2, b2, a3, b3]
    exact (sw.hs e10 he hy _ _).mpr (u2 a x2 v2 z2 a0 a1 (by omega) (by omega) (by omega))
theorem SRd.br (h : SRd e M) (sw : SWP e y M M1) (he : 0 ≤ e) (hy : e ≤ y ∧ y < M 15 10) (e10 : M1 15 10 = M 15 10) (lt : ∀ j : Int, e < j → j < M 15 10 → LT M1 e j) : SRd (e + 1) M1 := fun i j i0 i1 ij j1 => by
  by_cases u : i = e
  · rw [u]
    exact lt j (by omega) (by omega)
  · have f0 := (sw 20 (Or.inl rfl)).2.2 i u (by omega)
    have f1 := (sw 21 (Or.inr rfl)).2.2 i u (by omega)
    obtain ⟨j2, q, c1, c2⟩ := sw.at j
    have w := h i j2 i0 (by omega) (by omega) (by omega)
    unfold LT at w ⊢
    rw [f0, f1, c1, c2]
    exact w
end
theorem pm_e {M : nM} {a : Int} (h : 0 ≤ a ∧ a < 8) : Pm M a = M (55 + 3 * a) 0 := by
  unfold Pm
  rw [if_pos h]
/-- the lists are the same -/
def E15 (M M1 : nM) : Prop := M1 15 10 = M 15 10 ∧ ∀ i : Int, M1 20 i = M 20 i ∧ M1 21 i = M 21 i
theorem E15.mk {a i z : Int} {M M1 : nM} (e : M1 = nu M a i z) (ha : (a = 15 ∧ i ≠ 10) ∨ (a ≠ 15 ∧ a ≠ 20 ∧ a ≠ 21)) : E15 M M1 := by
  refine ⟨?_, fun q => ⟨?_, ?_⟩⟩
  · rw [e, nu_e, if_neg (by omega)]
  · rw [e, nu_a (by omega)]
  · rw [e, nu_a (by omega)]
theorem E15.tr {M M1 M2 : nM} (h : E15 M M1) (k : E15 M1 M2) : E15 M M2 := ⟨k.1.trans h.1, fun i => ⟨(k.2 i).1.trans (h.2 i).1, (k.2 i).2.trans (h.2 i).2⟩⟩
section
variable {d n ac t k : Int} {R : Nat} {Ms M M1 : nM}
theorem VS.e (h : VS d R n ac Ms M) (q : E15 M M1) : VS d R n ac Ms M1 := fun i i0 i1 => by
  rw [(q.2 i).1, (q.2 i).2]
  exact h i i0 (by rw [← q.1]; exact i1)
theorem HSs.e {c s : Int} (h : HSs M c s) (q : E15 M M1) : HSs M1 c s := by
  obtain ⟨i, i0, i1, e1, e2⟩ := h
  exact ⟨i, i0, by rw [q.1]; exact i1, by rw [(q.2 i).1]; exact e1, by rw [(q.2 i).2]; exact e2⟩
theorem I2.e (h : I2 t M) (q : E15 M M1) : I2 t M1 := fun i j i0 i1 ij j1 => by
  rw [(q.2 i).2, (q.2 j).2]
  exact h i j i0 i1 ij (by rw [← q.1]; exact j1)
theorem PDz.e (h : PDz d R ac t Ms M) (q : E15 M M1) : PDz d R ac t Ms M1 := fun a x u z a0 a1 hx hu hz => by
  rw [(q.2 x).1, (q.2 x).2, (q.2 u).1, (q.2 u).2, (q.2 z).1, (q.2 z).2, q.1]
  exact (h a x u z a0 a1 hx hu hz).imp id (fun w => w.e q)
theorem CLp.e (h : CLp d R n ac Ms M) (q : E15 M M1) : CLp d R n ac Ms M1 := by
  rcases h with u | ⟨u1, u2⟩
  · exact Or.inl (by rw [q.1]; exact u)
  · refine Or.inr ⟨fun j j0 j1 => (u1 j j0 j1).e q, fun a x u z a0 a1 hx hu hz => ?_⟩
    rw [q.1] at hx hu hz
    rw [(q.2 x).1, (q.2 x).2, (q.2 u).1, (q.2 u).2, (q.2 z).1, (q.2 z).2]
    exact (u2 a x u z a0 a1 hx hu hz).e q
theorem SRd.e {x : Int} (h : SRd x M) (q : E15 M M1) : SRd x M1 := fun i j i0 i1 ij j1 => by
  have w := h i j i0 i1 ij (by rw [← q.1]; exact j1)
  unfold LT at w ⊢
  rw [(q.2 i).1, (q.2 i).2, (q.2 j).1, (q.2 j).2]
  exact w
end
/-- a list as it is kept -/
def LO (d : Int) (R : Nat) (n ac : Int) (Ms : nM) (q N : Int) (M : nM) : Prop := Srt (fun i => M (q + 1) i) (fun i => M (q + 2) i) N ∧ CL2 d R n ac (Tm Ms) (Pm Ms) (fun i => M (q + 1) i) (fun i => M (q + 2) i) N ∧ (∀ i : Int, 0 ≤ i → i < N → VAL d R n ac (Tm Ms) (Pm Ms) (M (q + 1) i) (M (q + 2) i)) ∧ Dif (fun i => M (q + 1) i) N
section
variable {d n ac q N : Int} {R : Nat} {Ms M M1 : nM}
theorem LO.mk (ou : OUd q N M) (sr : SRd N M) (cl : CLp d R n ac Ms M) (vs : VS d R n ac Ms M) (mi : MI d R n ac Ms M) (hN : N = M 15 10) (hs : N ≤ 256) : LO d R n ac Ms q N M := by
  subst hN
  have f : ∀ i : Int, 0 ≤ i → i < M 15 10 → M (q + 1) i = M 20 i ∧ M (q + 2) i = M 21 i := ou
  have cl := cl.resolve_left (by omega)
  have hs : ∀ c s : Int, HSs M c s → ∃ i : Int, 0 ≤ i ∧ i < M 15 10 ∧ M (q + 1) i = c ∧ M (q + 2) i ≤ s := fun c s ⟨i, i0, i1, e1, e2⟩ => ⟨i, i0, i1, by rw [(f i i0 i1).1]; exact e1, by rw [(f i i0 i1).2]; exact e2⟩
  refine ⟨fun i j i0 ij j1 => ?_, ⟨fun j j0 j1 => hs _ _ (cl.1 j j0 j1), fun a x y z a0 a1 hx hy hz => ?_⟩, fun i i0 i1 => ?_, fun i j i0 i1 j0 j1 e => ?_⟩
  · show M (q + 2) i < M (q + 2) j ∨ (M (q + 2) i = M (q + 2) j ∧ M (q + 1) i < M (q + 1) j)
    rw [(f i i0 (by omega)).1, (f i i0 (by omega)).2, (f j (by omega) j1).1, (f j (by omega) j1).2]
    exact sr i j i0 (by omega) ij j1
  · show ∃ i : Int, 0 ≤ i ∧ i < M 15 10 ∧ M (q + 1) i = mcm d R (Tm Ms a) (M (q + 1) x) (M (q + 1) y) (M (q + 1) z) ∧ M (q + 2) i ≤ cst (Pm Ms a) (M (q + 2) x) (M (q + 2) y) (M (q + 2) z)
    rw [(f x hx.1 hx.2).1, (f x hx.1 hx.2).2, (f y hy.1 hy.2).1, (f y hy.1 hy.2).2, (f z hz.1 hz.2).1, (f z hz.1 hz.2).2]
    exact hs _ _ (cl.2 a x y z a0 a1 hx hy hz)
  · rw [(f i i0 i1).1, (f i i0 i1).2]
    exact vs i i0 i1
  · have e : M (q + 1) i = M (q + 1) j := e
    rw [(f i i0 i1).1, (f j j0 j1).1] at e
    exact mi.dif i j i0 i1 j0 j1 e
theorem LO.e (h : LO d R n ac Ms q N M) (f : ∀ i : Int, M1 (q + 1) i = M (q + 1) i ∧ M1 (q + 2) i = M (q + 2) i) : LO d R n ac Ms q N M1 := by
  have f1 : (fun i => M1 (q + 1) i) = fun i => M (q + 1) i := funext fun i => (f i).1
  have f2 : (fun i => M1 (q + 2) i) = fun i => M (q + 2) i := funext fun i => (f i).2
  unfold LO
  rw [f1, f2]
  refine ⟨h.1, h.2.1, fun i i0 i1 => ?_, h.2.2.2⟩
  rw [(f i).1, (f i).2]
  exact h.2.2.1 i i0 i1
theorem OUd.st {x : Int} {M2 M3 : nM} (h : OUd q x M) (hq : 103 ≤ q ∧ q ≤ 109) (x0 : 0 ≤ x) (fb : ∀ i : Int, M1 (q + 1) i = M (q + 1) i ∧ M1 (q + 2) i = M (q + 2) i) (fk : ∀ i : Int, 0 ≤ i → i < x → M1 20 i = M 20 i ∧ M1 21 i = M 21 i) (e2 : M2 = nu M1 (q + 1) x (M1 20 x)) (e3 : M3 = nu M2 (q + 2) x (M2 21 x)) : OUd q (x + 1) M3 := fun i i0 i1 => by
  have g20 : M3 20 i = M1 20 i := by rw [e3, nu_a (by omega), e2, nu_a (by omega)]
  have g21 : M3 21 i = M1 21 i := by rw [e3, nu_a (by omega), e2, nu_a (by omega)]
  rw [g20, g21]
  by_cases u : i = x
  · rw [u]
    refine ⟨by rw [e3, nu_a (by omega), e2, nu_s], ?_⟩
    rw [e3, nu_s, e2, nu_a (by omega)]
  · rw [e3, nu_a (by omega), nu_i u, e2, nu_i u, nu_a (by omega), (fb i).1, (fb i).2, (fk i i0 (by omega)).1, (fk i i0 (by omega)).2]
    exact h i i0 (by omega)
end
theorem kap_kap {a b : Int} (h : 0 ≤ b) : kap (kap a + b) = kap (a + b) := by
  unfold kap
  split
  · rfl
  · split <;> split <;> omega
theorem kap_min {x z : Int} (h : z ≤ 1000000 ∧ z ≤ x ∧ (z = 1000000 ∨ z = x)) : z = kap x := by
  unfold kap
  split <;> omega
