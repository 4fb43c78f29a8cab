/-! Which acts keep a law: the class's way. -/
def LawOk (d q : Int) (M : nM) : Prop := (1 ≤ M q 0 ∧ M q 0 ≤ 3) ∧ LQ d (M q 0) (M q 1) (pw d (M q 0)) q M
def ActOk (d p : Int) (M : nM) : Prop := ∀ i : Int, 0 ≤ i → i < d * d * d → M (p + 1) i = M (p + 1) (i % pw d (M p 0))
theorem LawOk.of {d q : Int} {M M2 : nM} (h : LawOk d q M) (e : ∀ a i : Int, q ≤ a → a ≤ q + 1 → M2 a i = M a i) : LawOk d q M2 := by
  unfold LawOk LQ
  rw [e q 0 (by omega) (by omega), e q 1 (by omega) (by omega), e q 2 (by omega) (by omega), e q 3 (by omega) (by omega)]
  exact ⟨h.1, LRn.of h.2 (fun i _ => e (q + 1) i (by omega) (by omega))⟩
theorem ActOk.of {d p : Int} {M M2 : nM} (h : ActOk d p M) (e : ∀ a i : Int, p ≤ a → a ≤ p + 1 → M2 a i = M a i) : ActOk d p M2 := fun i h0 h1 => by
  rw [e p 0 (by omega) (by omega), e (p + 1) i (by omega) (by omega), e (p + 1) _ (by omega) (by omega)]
  exact h i h0 h1
def KC1 (d m : Int) (T : Int → Int) (w c : Int) (r : Int → Int) (n : Int) : Prop := ∀ i j k : Int, 0 ≤ i → i < n → 0 ≤ j → j < tf m 2 c → 0 ≤ k → k < c → bt w (lin d T (r i) (r j) (r k))
def KC2 (d : Int) (T : Int → Int) (w c : Int) (r : Int → Int) (i n : Int) : Prop := ∀ j k : Int, 0 ≤ j → j < n → 0 ≤ k → k < c → bt w (lin d T (r i) (r j) (r k))
def KC3 (d : Int) (T : Int → Int) (w : Int) (r : Int → Int) (i j n : Int) : Prop := ∀ k : Int, 0 ≤ k → k < n → bt w (lin d T (r i) (r j) (r k))
section
variable {d m w c i j n : Int} {T r : Int → Int}
theorem KC3.step (h : KC3 d T w r i j n) (q : bt w (lin d T (r i) (r j) (r n))) : KC3 d T w r i j (n + 1) := fun k h0 h1 => by
  by_cases e : k = n
  · rw [e]
    exact q
  · exact h k h0 (by omega)
theorem KC2.step {u : Int} (h : KC2 d T w c r i n) (q : KC3 d T w r i n u) (hu : c ≤ u) : KC2 d T w c r i (n + 1) := fun j k h0 h1 h2 h3 => by
  by_cases e : j = n
  · rw [e]
    exact q k h2 (by omega)
  · exact h j k h0 (by omega) h2 h3
theorem KC1.step {u : Int} (h : KC1 d m T w c r n) (q : KC2 d T w c r n u) (hu : tf m 2 c ≤ u) : KC1 d m T w c r (n + 1) := fun i j k h0 h1 h2 h3 h4 h5 => by
  by_cases e : i = n
  · rw [e]
    exact q j k h2 (by omega) h4 h5
  · exact h i j k h0 (by omega) h2 h3 h4 h5
theorem KC1.all (h : KC1 d m T w c r n) (hn : tf m 3 c ≤ n) : KC d m T w c r := fun i j k h0 h1 h2 h3 h4 h5 => h i j k h0 (by omega) h2 h3 h4 h5
end
theorem keeps_e {d ac p q : Int} {M0 M : nM} (hd : d = 2 ∨ d = 3) (hS : Sf d ac M0 M) (hp : ActAt p) (hl : p < 55 + 3 * ac) (hL : LawOk d q M) (hA : ActOk d p M) : bb (KC d (M p 0) (fun n => M (p + 1) n) (M q 2) (M q 3) (fun i => M (q + 1) i)) = bb (KP d (M p 0) (fun i => M (p + 1) i) (M q 0) (M q 1)) := by
  have t := t_actl hS hp hl
  have hp3 := pw_r hd t.1
  exact bb_c (KC_KP hd t.1 hL.1 hL.2 hA (fun i h0 h1 => by
    have u := t_actrl hS hp hl (Or.inl rfl) (i := i) h0 (by omega)
    exact ⟨u.1, by omega⟩))
def CKP (d : Int) (M : nM) (k s : Int) : Prop := ∀ a : Int, 0 ≤ a → a < M 3 14 → KP d (M (55 + 3 * a) 0) (fun i => M (55 + 3 * a + 1) i) k s
theorem ix_r {d m a b c : Int} (hd : d = 2 ∨ d = 3) (hm : 1 ≤ m ∧ m ≤ 3) (ha : 0 ≤ a ∧ a < d) (hb : 0 ≤ b ∧ b < d) (hc : 0 ≤ c ∧ c < d) : 0 ≤ ix d m a b c ∧ ix d m a b c < pw d m := by
  rcases hd with rfl | rfl <;> rcases (show m = 1 ∨ m = 2 ∨ m = 3 by omega) with rfl | rfl | rfl
  · show 0 ≤ a ∧ a < 2
    omega
  · show 0 ≤ a * 2 + b ∧ a * 2 + b < 4
    omega
  · show 0 ≤ (a * 2 + b) * 2 + c ∧ (a * 2 + b) * 2 + c < 8
    omega
  · show 0 ≤ a ∧ a < 3
    omega
  · show 0 ≤ a * 3 + b ∧ a * 3 + b < 9
    omega
  · show 0 ≤ (a * 3 + b) * 3 + c ∧ (a * 3 + b) * 3 + c < 27
    omega
theorem im_congr {d m k x y z : Int} {f g : Int → Int} (hd : d = 2 ∨ d = 3) (hm : 1 ≤ m ∧ m ≤ 3) (e : ∀ i : Int, 0 ≤ i → i < pw d m → f i = g i) : im d m f k x y z = im d m g k x y z := by
  have hr : ∀ v : Int, 0 ≤ v % d ∧ v % d < d := fun v => ⟨Int.emod_nonneg _ (by omega), Int.emod_lt_of_pos _ (by omega)⟩
  have key : ∀ a b c : Int, f (ix d m (a % d) (b % d) (c % d)) = g (ix d m (a % d) (b % d) (c % d)) := fun a b c => by
    have q := ix_r (a := a % d) (b := b % d) (c := c % d) hd hm (hr a) (hr b) (hr c)
    exact e _ q.1 q.2
  unfold im
  rw [key, key, key]
theorem KP_congr {d m k s : Int} {f g : Int → Int} (hd : d = 2 ∨ d = 3) (hm : 1 ≤ m ∧ m ≤ 3) (e : ∀ i : Int, 0 ≤ i → i < pw d m → f i = g i) : KP d m f k s ↔ KP d m g k s := by
  constructor
  · intro h x y z hx hy hz
    rw [← im_congr hd hm e]
    exact h x y z hx hy hz
  · intro h x y z hx hy hz
    rw [im_congr hd hm e]
    exact h x y z hx hy hz
theorem RL.ckp {d k s : Int} {M : nM} (hd : d = 2 ∨ d = 3) (h : RL d M) : CKP d M k s ↔ AKP d M k s := by
  have g1 := h.2.1.1
  constructor
  · intro q a h0 h1
    obtain ⟨x1, x2, x3, x4⟩ := h.tl hd h0 (show a < M 3 14 by omega)
    have u := q a h0 (by omega)
    rw [x2] at u
    exact (KP_congr hd x1 x4).mp u
  · intro q a h0 h1
    obtain ⟨x1, x2, x3, x4⟩ := h.tl hd h0 h1
    rw [x2]
    exact (KP_congr hd x1 x4).mpr (q a h0 (by omega))
theorem RL.aok {d : Int} {M : nM} (hd : d = 2 ∨ d = 3) (h : RL d M) : ∀ a : Int, 0 ≤ a → a < M 3 14 → ActOk d (55 + 3 * a) M := fun a h0 h1 i i0 i1 => by
  obtain ⟨-, ⟨g1, -, g2⟩, -, -⟩ := h
  obtain ⟨x1, x2, x3, x4⟩ := g2 a h0 h1
  have hp := pw_r hd x1
  have r1 : 0 ≤ i % pw d (M 116 a) := Int.emod_nonneg _ (by omega)
  have r2 : i % pw d (M 116 a) < pw d (M 116 a) := Int.emod_lt_of_pos _ (by omega)
  rw [x2, (x4 i i0 i1).1, (x4 (i % pw d (M 116 a)) r1 (by omega)).1, Int.emod_emod_of_dvd _ (Int.dvd_refl _)]
/-! laws on both sides -/
def RXl (d : Int) (M : nM) : Prop := ∀ l : Int, 0 ≤ l → l < M 3 15 → LawOk d (79 + 2 * l) M ∧ ∀ y : Int, pw d (M (79 + 2 * l) 0) ≤ y → y ≤ 26 → ¬ bt (M (79 + 2 * l) 1) y
def RLX (d : Int) (M : nM) : Prop := RL d M ∧ RXl d M
theorem RXl.of {d : Int} {M M2 : nM} (h : RXl d M) (hb : M 3 15 ≤ 12) (e : ∀ a i : Int, (a = 3 ∧ i = 15) ∨ (79 ≤ a ∧ a ≤ 102) → M2 a i = M a i) : RXl d M2 := fun l h0 h1 => by
  rw [e 3 15 (by omega)] at h1
  obtain ⟨g1, g2⟩ := h l h0 h1
  rw [e (79 + 2 * l) 0 (by omega), e (79 + 2 * l) 1 (by omega)]
  exact ⟨g1.of (fun a i q1 q2 => e a i (by omega)), g2⟩
theorem RLX.of {d ac : Int} {M0 M M2 : nM} (h : RLX d M) (hd : d = 2 ∨ d = 3) (hS : Sf d ac M0 M) (e : Eqc M M2) : RLX d M2 := by
  have b2 := t_3_15 hS
  exact ⟨h.1.of hd hS e, h.2.of (by omega) (fun a i q => e a i (by unfold core; omega))⟩
section
variable {d ac s w n z z2 i v k r u l x y : Int} {M0 M M1 M2 : nM}
theorem RLX.two (h : RLX d M) (hS : Sf d ac M0 M) (q : RL d M2 ∧ z = z2) (e1 : ∀ a i : Int, core a i → (a = 3 ∧ i = 15) ∨ (79 ≤ a ∧ a ≤ 102) → M1 a i = M a i) (e2 : ∀ a i : Int, core a i → (a = 3 ∧ i = 15) ∨ (79 ≤ a ∧ a ≤ 102) → M2 a i = M1 a i) : RLX d M2 ∧ z = z2 := by
  have b2 := t_3_15 hS
  exact ⟨⟨q.1, h.2.of (by omega) (fun a i u => (e2 a i (by unfold core; omega) u).trans (e1 a i (by unfold core; omega) u))⟩, q.2⟩
theorem RLX.row (hd : d = 2 ∨ d = 3) (h : RLX d M) (hS : Sf d ac M0 M) (c : cRow s w n z M M1) (m : mRow s w n z2 M1 M2) : RLX d M2 ∧ z = z2 := RLX.two h hS (RL.row hd h.1 hS c m)
  (fun a i hc q => by
    rcases c with ⟨-, -, e⟩ | ⟨-, -, -, -, -, -, e⟩ | ⟨-, -, -, -, -, -, -, -, -, -, e⟩
    · exact e a i hc
    · exact e a i hc
    · exact e a i hc (by omega) (by omega) (by omega))
  (fun a i hc q => by
    rcases m with ⟨-, -, e⟩ | ⟨-, -, -, -, -, -, e⟩ | ⟨-, -, -, -, -, -, -, -, -, -, e⟩
    · exact e a i hc
    · exact e a i hc
    · exact e a i hc (by omega) (by omega) (by omega))
theorem RLX.tear (hd : d = 2 ∨ d = 3) (h : RLX d M) (hS : Sf d ac M0 M) (c : cTear s z M M1) (m : mTear s z2 M1 M2) : RLX d M2 ∧ z = z2 := RLX.two h hS (RL.tear hd h.1 hS c m)
  (fun a i hc q => by
    rcases c with ⟨-, -, e⟩ | ⟨-, -, -, -, -, e⟩
    · exact e a i hc
    · exact e a i hc (by omega))
  (fun a i hc q => by
    rcases m with ⟨-, -, e⟩ | ⟨-, -, -, -, -, e⟩
    · exact e a i hc
    · exact e a i hc (by omega))
theorem RLX.wri (hd : d = 2 ∨ d = 3) (h : RLX d M) (hS : Sf d ac M0 M) (c : cWri s i v z M M1) (m : mWri s i v z2 M1 M2) : RLX d M2 ∧ z = z2 := RLX.two h hS (RL.wri hd h.1 hS c m)
  (fun a i hc q => by
    rcases c with ⟨-, -, e⟩ | ⟨-, -, -, -, e⟩ | ⟨-, -, -, -, -, e⟩ | ⟨-, -, -, -, -, -, e⟩
    · exact e a i hc
    · exact e a i hc
    · exact e a i hc
    · exact e a i hc (by omega))
  (fun a i hc q => by
    rcases m with ⟨-, -, e⟩ | ⟨-, -, -, -, e⟩ | ⟨-, -, -, -, -, e⟩ | ⟨-, -, -, -, -, -, -, e⟩
    · exact e a i hc
    · exact e a i hc
    · exact e a i hc
    · exact e a i hc (by omega))
theorem RLX.act (hd : d = 2 ∨ d = 3) (hr : (1 ≤ k ∧ k ≤ 3) → r = pw d k) (h : RLX d M) (hS : Sf d ac M0 M) (c : cAct d k r s z M M1) (m : mAct d k r s z2 M1 M2) : RLX d M2 ∧ z = z2 := RLX.two h hS (RL.act hd hr h.1 hS c m)
  (fun a i hc q => by
    rcases c with ⟨-, -, e⟩ | ⟨-, -, -, -, -, -, e⟩ | ⟨-, -, -, -, -, -, -, e⟩ | ⟨-, -, -, -, -, -, -, e⟩ | ⟨-, -, -, -, tm, -, -, -, -, -, e⟩
    · exact e a i hc
    · exact e a i hc
    · exact e a i hc
    · exact e a i hc
    · have b14 := t_3_14x hS
      have t8 : M 3 14 < 8 := by
        by_cases t : 8 ≤ M 3 14
        · exact absurd (Or.inl t) tm
        · omega
      exact e a i hc (by omega) (by omega))
  (fun a i hc q => by
    rcases m with ⟨-, -, e⟩ | ⟨-, -, -, -, -, -, e⟩ | ⟨-, -, -, -, -, -, -, e⟩ | ⟨-, -, -, -, -, -, -, e⟩ | ⟨-, -, -, -, -, -, -, -, -, -, -, e⟩
    · exact e a i hc
    · exact e a i hc
    · exact e a i hc
    · exact e a i hc (by omega)
    · exact e a i hc (by omega) (by omega) (by omega))
theorem RLX.rid (hd : d = 2 ∨ d = 3) (h : RLX d M) (hS : Sf d ac M0 M) (c : cRid u z M M1) (m : mRid u z2 M1 M2) : RLX d M2 ∧ z = z2 := RLX.two h hS (RL.rid hd h.1 hS c m)
  (fun a i hc q => by
    rcases c with ⟨-, -, e⟩ | ⟨-, -, -, -, -, e⟩
    · exact e a i hc
    · exact e a i hc (by omega))
  (fun a i hc q => by
    rcases m with ⟨-, -, e⟩ | ⟨-, -, -, -, -, e⟩
    · exact e a i hc
    · exact e a i hc (by omega))
theorem RLX.ask (hd : d = 2 ∨ d = 3) (h : RLX d M) (hS : Sf d ac M0 M) (c : cAsk l x y w z M M1) (m : mAsk l x y w z2 M1 M2) : RLX d M2 ∧ z = z2 := RLX.two h hS (RL.ask hd h.1 hS c m)
  (fun a i hc q => by
    rcases c with ⟨-, -, e⟩ | ⟨-, -, -, -, -, e⟩ | ⟨-, -, -, -, -, -, e⟩
    · exact e a i hc
    · exact e a i hc
    · exact e a i hc (by omega) (by omega))
  (fun a i hc q => by
    rcases m with ⟨-, -, e⟩ | ⟨-, -, -, -, -, e⟩ | ⟨-, -, -, -, -, -, e⟩
    · exact e a i hc
    · exact e a i hc
    · exact e a i hc (by omega) (by omega) (by omega))
theorem RLX.fre {e : Int} (h : RLX d M) (h14 : M1 3 14 = 0) (c : cFre M M1) (m : mFre M1 M2) : RLX e M2 := ⟨RL.fre h.1 h14 c m, fun l h0 h1 => by
  rw [m.2.2.2.2 3 15 (by unfold core; omega) (by omega), c.1] at h1
  omega⟩
end
/-- the set of a told law has no row beyond its own -/
theorem lset_lt {d k len : Int} {f : Int → Int} (hd : d = 2 ∨ d = 3) (hk : 1 ≤ k ∧ k ≤ 3) : ∀ n : Nat, (n : Int) ≤ 27 → RO d len f (1 + k * n) → (0 ≤ lset d k f n ∧ lset d k f n ≤ 134217727) ∧ ∀ y : Int, pw d k ≤ y → y ≤ 26 → ¬ bt (lset d k f n) y := by
  intro n
  induction n with
  | zero => exact fun _ _ => ⟨⟨by show (0 : Int) ≤ 0; omega, by show (0 : Int) ≤ 134217727; omega⟩, fun y _ _ => bt_0 y⟩
  | succ n ih =>
    intro hn h
    have hkn : k * ((n : Int) + 1) = k * n + k := by rw [Int.mul_add, Int.mul_one]
    have hk0 : 0 ≤ k * (n : Int) := Int.mul_nonneg (by omega) (by omega)
    have cs : ((n + 1 : Nat) : Int) = (n : Int) + 1 := by omega
    rw [cs, hkn] at h
    obtain ⟨g1, g2⟩ := ih (by omega) (fun i h0 h1 => h i h0 (by omega))
    have rn : 0 ≤ rowno d k f (1 + k * n) ∧ rowno d k f (1 + k * n) < pw d k := by
      rcases (show k = 1 ∨ k = 2 ∨ k = 3 by omega) with rfl | rfl | rfl
      · obtain ⟨a1, a2, a3⟩ := h (1 + 1 * n) (by omega) (by omega)
        show 0 ≤ f (1 + 1 * n) ∧ f (1 + 1 * n) < d
        omega
      · obtain ⟨a1, a2, a3⟩ := h (1 + 2 * n) (by omega) (by omega)
        obtain ⟨b1, b2, b3⟩ := h (1 + 2 * n + 1) (by omega) (by omega)
        show 0 ≤ f (1 + 2 * n) * d + f (1 + 2 * n + 1) ∧ f (1 + 2 * n) * d + f (1 + 2 * n + 1) < d * d
        rcases hd with rfl | rfl <;> omega
      · obtain ⟨a1, a2, a3⟩ := h (1 + 3 * n) (by omega) (by omega)
        obtain ⟨b1, b2, b3⟩ := h (1 + 3 * n + 1) (by omega) (by omega)
        obtain ⟨c1, c2, c3⟩ := h (1 + 3 * n + 1 + 1) (by omega) (by omega)
        show 0 ≤ (f (1 + 3 * n) * d + f (1 + 3 * n + 1)) * d + f (1 + 3 * n + 1 + 1) ∧ (f (1 + 3 * n) * d + f (1 + 3 * n + 1)) * d + f (1 + 3 * n + 1 + 1) < d * d * d
        rcases hd with rfl | rfl <;> omega
    have hp := pw_r hd hk
    have e : lset d k f (n + 1) = n_or (lset d k f n) (n_shl 1 (rowno d k f (1 + k * n))) := rfl
    rw [e]
    refine ⟨(n_or_bit27 g1 (by omega)).1, fun y y0 y1 q => ?_⟩
    rcases (bt_or g1 (by omega) (by omega)).mp q with q | q
    · exact g2 y y0 y1 q
    · omega
def cLawR (d z : Int) (M1 : nM) : Prop := 0 ≤ z → LawOk d (79 + 2 * z) M1
theorem RLX.law {d ac k s z z2 : Int} {M0 M M1 M2 : nM} (hd : d = 2 ∨ d = 3) (h : RLX d M) (hS : Sf d ac M0 M) (c : cLaw d k s z M M1 ∧ cLawR d z M1) (m : mLaw d k s z2 M1 M2) : RLX d M2 ∧ z = z2 := by
  obtain ⟨c, cr⟩ := c
  have q := RL.law hd h.1 hS c m
  refine ⟨⟨q.1, ?_⟩, q.2⟩
  have b2 := t_3_15 hS
  have e2 : ∀ a i : Int, core a i → (a = 3 ∧ i = 15) ∨ (79 ≤ a ∧ a ≤ 102) → M2 a i = M1 a i := fun a i hc u => by
    rcases m with ⟨-, -, e⟩ | ⟨-, -, -, -, -, -, e⟩ | ⟨-, -, -, -, -, -, -, e⟩ | ⟨-, -, -, -, -, -, -, e⟩ | ⟨-, -, -, -, -, -, -, -, -, -, -, e⟩
    · exact e a i hc
    · exact e a i hc
    · exact e a i hc
    · exact e a i hc
    · exact e a i hc (by omega) (by omega) (by omega)
  rcases c with ⟨-, -, e⟩ | ⟨-, -, -, -, -, -, e⟩ | ⟨-, -, -, -, -, -, -, e⟩ | ⟨-, -, -, -, -, -, -, e⟩ | ⟨p1, p2, p3, p4, p5, p6, p7, p8, p9, p10, p11, e⟩
  · exact h.2.of (by omega) (fun a i u => (e2 a i (by unfold core; omega) u).trans (e a i (by unfold core; omega)))
  · exact h.2.of (by omega) (fun a i u => (e2 a i (by unfold core; omega) u).trans (e a i (by unfold core; omega)))
  · exact h.2.of (by omega) (fun a i u => (e2 a i (by unfold core; omega) u).trans (e a i (by unfold core; omega)))
  · exact h.2.of (by omega) (fun a i u => (e2 a i (by unfold core; omega) u).trans (e a i (by unfold core; omega)))
  · intro l h0 h1
    rw [e2 3 15 (by unfold core; omega) (by omega), p9] at h1
    by_cases hl : l = M 3 15
    · subst hl
      have ok := cr (by omega)
      rw [p8] at ok
      obtain ⟨w1, w2, w3, w4⟩ := p7
      have w2 : 0 ≤ M 9 (40 * s + 0) := w2
      have w3 : M 9 (40 * s + 0) ≤ 27 := w3
      have ls := lset_lt hd ⟨p3, p4⟩ (M 9 (40 * s + 0)).toNat (by omega) (by rw [Int.toNat_of_nonneg w2]; exact w4)
      rw [e2 (79 + 2 * M 3 15) 0 (by unfold core; omega) (by omega), e2 (79 + 2 * M 3 15) 1 (by unfold core; omega) (by omega), p10, p11]
      exact ⟨ok.of (fun a i u1 u2 => e2 a i (by unfold core; omega) (by omega)), ls.2⟩
    · obtain ⟨g1, g2⟩ := h.2 l h0 (by omega)
      have ee : ∀ a i : Int, 79 + 2 * l ≤ a → a ≤ 79 + 2 * l + 1 → M2 a i = M a i := fun a i u1 u2 => (e2 a i (by unfold core; omega) (by omega)).trans (e a i (by unfold core; omega) (by omega) (by omega))
      rw [ee (79 + 2 * l) 0 (by omega) (by omega), ee (79 + 2 * l) 1 (by omega) (by omega)]
      exact ⟨g1.of (fun a i u1 u2 => ee a i u1 u2), g2⟩
/-! keeps -/
def cKe (d a l z : Int) (M : nM) : Prop := ((a < 0 ∨ M 3 14 ≤ a ∨ l < 0 ∨ M 3 15 ≤ l) ∧ z = -1) ∨ (0 ≤ a ∧ a < M 3 14 ∧ 0 ≤ l ∧ l < M 3 15 ∧ z = bb (KP d (M (55 + 3 * a) 0) (fun i => M (55 + 3 * a + 1) i) (M (79 + 2 * l) 0) (M (79 + 2 * l) 1)))
def mKe (d a l z : Int) (M : nM) : Prop := ((a < 0 ∨ M 112 4 ≤ a ∨ l < 0 ∨ M 112 7 ≤ l) ∧ z = -1) ∨ (0 ≤ a ∧ a < M 112 4 ∧ 0 ≤ l ∧ l < M 112 7 ∧ z = bb (KP d (M 116 a) (fun i => M 117 (27 * a + i)) (M 118 l) (M 119 l)))
theorem RLX.ke {d ac a l z z2 : Int} {M0 M M1 : nM} (hd : d = 2 ∨ d = 3) (h : RLX d M) (hS : Sf d ac M0 M) (c : cKe d a l z M) (e : Eqc M M1) (m : mKe d a l z2 M1) : z = z2 := by
  have g1 := h.1.2.1.1
  have g2 := h.1.2.2.1
  have e4 := e 112 4 (by unfold core; omega)
  have e7 := e 112 7 (by unfold core; omega)
  rcases c with ⟨p, rfl⟩ | ⟨p1, p2, p3, p4, rfl⟩ <;> rcases m with ⟨q, rfl⟩ | ⟨q1, q2, q3, q4, rfl⟩
  · rfl
  · have := g2.1
    omega
  · have := g2.1
    omega
  · obtain ⟨x1, x2, x3, x4⟩ := h.1.tl hd p1 p2
    have l1 := g2.2 l p3 p4
    have ef : (fun i => M1 117 (27 * a + i)) = (fun i => M 117 (27 * a + i)) := by
      funext i
      exact e 117 _ (by unfold core; omega)
    rw [e 116 a (by unfold core; omega), e 118 l (by unfold core; omega), e 119 l (by unfold core; omega), ef, x2, l1.1, l1.2]
    exact bb_c (KP_congr hd x1 x4)
/-! how many laws are kept -/
def FB (Ms M : nM) : Prop := ∀ a i : Int, ¬ (50 ≤ a ∧ a ≤ 53) → M a i = Ms a i
theorem FB.q {Ms M M2 : nM} (h : FB Ms M) (q : FQ 50 M M2) : FB Ms M2 := fun a i u => (q a i (by omega)).trans (h a i u)
theorem FB.c {Ms M M2 : nM} (h : FB Ms M) (q : FC 53 M M2) : FB Ms M2 := fun a i u => (q a i (by omega)).trans (h a i u)
theorem CKP.of {d k s : Int} {M Ms : nM} (hb : 0 ≤ Ms 3 14 ∧ Ms 3 14 ≤ 8) (h : FB Ms M) : CKP d M k s ↔ CKP d Ms k s := by
  have key : ∀ a : Int, 0 ≤ a → a < Ms 3 14 → (KP d (M (55 + 3 * a) 0) (fun i => M (55 + 3 * a + 1) i) k s ↔ KP d (Ms (55 + 3 * a) 0) (fun i => Ms (55 + 3 * a + 1) i) k s) := fun a h0 h1 => by
    have ef : (fun i => M (55 + 3 * a + 1) i) = (fun i => Ms (55 + 3 * a + 1) i) := by
      funext i
      exact h _ i (by omega)
    rw [h (55 + 3 * a) 0 (by omega), ef]
  unfold CKP
  rw [h 3 14 (by omega)]
  exact ⟨fun q a h0 h1 => (key a h0 h1).mp (q a h0 h1), fun q a h0 h1 => (key a h0 h1).mpr (q a h0 h1)⟩
def cLs (d k z : Int) (M : nM) : Prop := ((k < 1 ∨ 2 < k) ∧ z = -1) ∨ (1 ≤ k ∧ k ≤ 2 ∧ z = cf (fun s => bb (CKP d M k s)) (2 ^ (pw d k).toNat))
def mLs (d k z : Int) (M : nM) : Prop := ((k < 1 ∨ 2 < k) ∧ z = -1) ∨ (1 ≤ k ∧ k ≤ 2 ∧ z = cf (fun s => bb (AKP d M k s)) (2 ^ (pw d k).toNat))
theorem AKP.of {d k s : Int} {M M1 : nM} (e : Eqc M M1) : AKP d M1 k s ↔ AKP d M k s := by
  have key : ∀ a : Int, (KP d (M1 116 a) (fun i => M1 117 (27 * a + i)) k s ↔ KP d (M 116 a) (fun i => M 117 (27 * a + i)) k s) := fun a => by
    have ef : (fun i => M1 117 (27 * a + i)) = (fun i => M 117 (27 * a + i)) := by
      funext i
      exact e 117 _ (by unfold core; omega)
    rw [e 116 a (by unfold core; omega), ef]
  unfold AKP
  rw [e 112 4 (by unfold core; omega)]
  exact ⟨fun q a h0 h1 => (key a).mp (q a h0 h1), fun q a h0 h1 => (key a).mpr (q a h0 h1)⟩
theorem RL.ls {d k z z2 : Int} {M M1 : nM} (hd : d = 2 ∨ d = 3) (h : RL d M) (c : cLs d k z M) (e : Eqc M M1) (m : mLs d k z2 M1) : z = z2 := by
  rcases c with ⟨p, rfl⟩ | ⟨p1, p2, rfl⟩ <;> rcases m with ⟨q, rfl⟩ | ⟨q1, q2, rfl⟩
  · rfl
  · omega
  · omega
  · exact cf_congr _ (fun s _ _ => bb_c ((h.ckp hd).trans (AKP.of e).symm))
theorem keeps_fr {d p q : Int} {Ms M : nM} (h : FC 53 Ms M) (hp : p ≠ 53 ∧ p + 1 ≠ 53 ∧ q ≠ 53) : bb (KP d (M p 0) (fun i => M (p + 1) i) (M q 0) (M q 1)) = bb (KP d (Ms p 0) (fun i => Ms (p + 1) i) (Ms q 0) (Ms q 1)) := by
  have ef : (fun i => M (p + 1) i) = (fun i => Ms (p + 1) i) := by
    funext i
    exact h (p + 1) i hp.2.1
  rw [h p 0 hp.1, h q 0 hp.2.2, h q 1 hp.2.2, ef]
theorem RLX.hlp {d : Int} {M : nM} (h : RLX d M) : ∀ l : Int, 0 ≤ l → l < M 112 7 → 1 ≤ M 118 l := fun l h0 h1 => by
  have g := h.1.2.2.1
  rw [← g.1] at h1
  have q := ((h.2 l h0 h1).1).1
  rw [(g.2 l h0 h1).1] at q
  exact q.1
