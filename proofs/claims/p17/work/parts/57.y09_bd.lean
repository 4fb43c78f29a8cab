/-! The bits of a found set. -/
def wbt (M : nM) (c m : Int) : Int := bbt (un (M c (m / 64))) (m % 64)
theorem wbt_r (M : nM) (c m : Int) : 0 ≤ wbt M c m ∧ wbt M c m ≤ 1 := bbt_r _ _
theorem bbt_t (X t : Nat) : bbt X (t : Int) = if X.testBit t = true then 1 else 0 := by
  unfold bbt
  rw [Int.toNat_natCast, Nat.testBit_eq_decide_div_mod_eq]
  by_cases h : X / 2 ^ t % 2 = 1
  · rw [if_pos (decide_eq_true h), h]
    rfl
  · rw [decide_eq_false h, if_neg (by decide)]
    omega
theorem bbt_or {X k t : Nat} : bbt (X ||| 2 ^ k) (t : Int) = if t = k then 1 else bbt X (t : Int) := by
  rw [bbt_t, bbt_t, Nat.testBit_or, Nat.testBit_two_pow]
  by_cases h : t = k
  · rw [if_pos h, h, decide_eq_true rfl, Bool.or_true, if_pos rfl]
  · rw [if_neg h, decide_eq_false (fun q => h q.symm), Bool.or_false]
theorem and63 {x : Int} (hx : 0 ≤ x ∧ x ≤ 134217727) : n_and x 63 = x % 64 := by
  obtain ⟨a, rfl⟩ : ∃ a : Nat, x = a := ⟨x.toNat, by omega⟩
  have e := n_and_n (x := a) (y := 63) (by omega) (by decide)
  have e2 : a &&& 63 = a % 64 := Nat.and_two_pow_sub_one_eq_mod a 6
  rw [e2] at e
  exact e
theorem wbt_add {c n m w : Int} {M M1 : nM} (hn : 0 ≤ n ∧ n ≤ 134217727) (hm : 0 ≤ m) (hw : w = n / 64) (e1 : M1 c w = n_lor (M c w) (n_lshl 1 (n % 64))) (e2 : ∀ i : Int, i ≠ w → M1 c i = M c i) : wbt M1 c m = if m = n then 1 else wbt M c m := by
  unfold wbt
  by_cases h : m / 64 = w
  · rw [h, e1, un_lor]
    have k : n % 64 = (((n % 64).toNat : Nat) : Int) := by omega
    have k2 : m % 64 = (((m % 64).toNat : Nat) : Int) := by omega
    rw [k, un_sl _ (by omega), k2, bbt_or]
    by_cases y : m = n
    · rw [if_pos y, if_pos (by rw [y])]
    · rw [if_neg y, if_neg (by omega)]
  · rw [e2 _ h, if_neg (fun y => h (by rw [y, hw]))]
def BSt (c : Int) (Ms M : nM) (P : Int → Prop) : Prop := ∀ m : Int, 0 ≤ m → (wbt M c m = 1 ↔ (wbt Ms c m = 1 ∨ P m))
theorem BSt.refl {c : Int} {M : nM} {P : Int → Prop} (h : ∀ m : Int, 0 ≤ m → ¬ P m) : BSt c M M P := fun m m0 => ⟨Or.inl, fun q => q.elim id (fun y => absurd y (h m m0))⟩
theorem BSt.tr {c : Int} {Ms M M2 : nM} {P Q S : Int → Prop} (h : BSt c Ms M P) (h2 : BSt c M M2 Q) (e : ∀ m : Int, 0 ≤ m → (S m ↔ (P m ∨ Q m))) : BSt c Ms M2 S := fun m m0 => by
  rw [h2 m m0, h m m0, e m m0]
  exact or_assoc
theorem BSt.same {c : Int} {Ms M M2 : nM} {P : Int → Prop} (h : BSt c Ms M P) (e : ∀ i : Int, M2 c i = M c i) : BSt c Ms M2 P := fun m m0 => by
  unfold wbt
  rw [e]
  exact h m m0
theorem BSt.congr {c : Int} {Ms M : nM} {P Q : Int → Prop} (h : BSt c Ms M P) (e : ∀ m : Int, 0 ≤ m → (P m ↔ Q m)) : BSt c Ms M Q := fun m m0 => by
  rw [h m m0, e m m0]
/-- the numbers that begin with n, x of the next digit's values done -/
def gs (d V k n : Int) (A : Int → Int) (x m : Int) : Prop := n * pn d (V - k).toNat ≤ m ∧ m < n * pn d (V - k).toNat + x * pn d (V - (k + 1)).toNat ∧ SOLN d A V m
def ga (d V k n : Int) (A : Int → Int) (m : Int) : Prop := n * pn d (V - k).toNat ≤ m ∧ m < n * pn d (V - k).toNat + pn d (V - k).toNat ∧ SOLN d A V m
section
variable {d V k n x m : Int} {A v w : Int → Int}
theorem gs_0 : ¬ gs d V k n A 0 m := fun h => by
  obtain ⟨h1, h2, -⟩ := h
  rw [Int.zero_mul] at h2
  omega
theorem gs_s (hd : d = 2 ∨ d = 3) (hk : 0 ≤ k ∧ k < V) (hx : 0 ≤ x) : gs d V k n A (x + 1) m ↔ (gs d V k n A x m ∨ ga d V (k + 1) (n * d + x) A m) := by
  have hp := pn_pos hd (V - (k + 1)).toNat
  have hm : 0 ≤ x * pn d (V - (k + 1)).toNat := Int.mul_nonneg hx (by omega)
  unfold gs ga
  have e : (n * d + x) * pn d (V - (k + 1)).toNat = n * pn d (V - k).toNat + x * pn d (V - (k + 1)).toNat := by
    rw [pn_s hk.1 hk.2, Int.add_mul, Int.mul_assoc]
  rw [e, Int.add_mul, Int.one_mul]
  constructor
  · rintro ⟨h1, h2, h3⟩
    by_cases y : m < n * pn d (V - k).toNat + x * pn d (V - (k + 1)).toNat
    · exact Or.inl ⟨h1, y, h3⟩
    · exact Or.inr ⟨by omega, by omega, h3⟩
  · rintro (⟨h1, h2, h3⟩ | ⟨h1, h2, h3⟩)
    · exact ⟨h1, by omega, h3⟩
    · exact ⟨by omega, by omega, h3⟩
theorem gs_a (hk : 0 ≤ k ∧ k < V) : gs d V k n A d m ↔ ga d V k n A m := by
  unfold gs ga
  rw [pn_s (d := d) hk.1 hk.2]
theorem ga_no (hd : d = 2 ∨ d = 3) (h : PF d k n A v) (hk : 0 ≤ k ∧ k < V) (hc : 0 ≤ x ∧ x < d) (e : ∀ u : Int, 0 ≤ u → u < k → w u = v u) (ek : w k = x) (f : ¬ FIT d A w k) : ¬ ga d V (k + 1) (n * d + x) A m := fun y => by
  obtain ⟨h1, h2, h3⟩ := y
  have q := PF.none hd h hk hc e ek f (i := m - (n * d + x) * pn d (V - (k + 1)).toNat) (by omega)
  rw [show (n * d + x) * pn d (V - (k + 1)).toNat + (m - (n * d + x) * pn d (V - (k + 1)).toNat) = m by omega] at q
  exact q h3
theorem ga_v (h : PF d V n A v) : ga d V V n A m ↔ m = n := by
  unfold ga
  rw [show (V - V).toNat = 0 by omega]
  show (n * 1 ≤ m ∧ m < n * 1 + 1 ∧ SOLN d A V m) ↔ m = n
  constructor
  · rintro ⟨h1, h2, -⟩
    omega
  · intro e
    rw [e]
    exact ⟨by omega, by omega, h.sol⟩
theorem ga_of {B : Int → Int} (e : ∀ i : Int, B i = A i) : ga d V k n B m ↔ ga d V k n A m := by
  have : B = A := funext e
  rw [this]
end
section
variable {d V k n x c : Int} {Ms M M2 M3 : nM}
theorem GA.bno (hd : d = 2 ∨ d = 3) (hN : NST d V Ms) (hk : 0 ≤ k ∧ k < V) (hP : PF d k n (fun i => Ms 40 i) (fun i => Ms 39 i)) (hc : c = 46 ∨ c = 48) (hx : 0 ≤ x ∧ x < d) (f : FG c Ms M) (v : ∀ u : Int, 0 ≤ u → u < k → M 39 u = Ms 39 u) (e : M2 = nu M 39 k x) (q : ¬ ∀ c : Int, M2 43 k ≤ c → c < M2 43 (k + 1) → CHK d (fun i => M2 41 i) (fun i => M2 42 i) (fun i => M2 39 i) c) (g : BSt (c + 1) Ms M (gs d V k n (fun i => Ms 40 i) x)) : BSt (c + 1) Ms M2 (gs d V k n (fun i => Ms 40 i) (x + 1)) := by
  have w := GA.w hP v e
  have nf : ¬ FIT d (fun i => Ms 40 i) (fun i => M2 39 i) k := fun y => q ((GA.fit hd hN hk hP hc hx (f.u e (Or.inl rfl)) w).mpr y)
  refine (g.same (fun i => by rw [e, nu_a (by omega)])).congr (fun m _ => ?_)
  rw [gs_s hd hk hx.1]
  exact ⟨Or.inl, fun y => y.elim id (fun z => absurd z (ga_no hd hP hk hx w.1 w.2 nf))⟩
theorem GA.bgo (hd : d = 2 ∨ d = 3) (hk : 0 ≤ k ∧ k < V) (hc : c = 46 ∨ c = 48) (hx : 0 ≤ x) (f : FG c Ms M) (e : M2 = nu M 39 k x) (g : BSt (c + 1) Ms M (gs d V k n (fun i => Ms 40 i) x)) (r : BSt (c + 1) M2 M3 (ga d V (k + 1) (n * d + x) (fun i => M2 40 i))) : BSt (c + 1) Ms M3 (gs d V k n (fun i => Ms 40 i) (x + 1)) := by
  have f2 := f.u e (Or.inl rfl)
  refine (g.same (M2 := M2) (fun i => by rw [e, nu_a (by omega)])).tr r (fun m _ => ?_)
  rw [gs_s hd hk hx, ga_of (fun i => f2 40 i (by omega) (by omega) (by omega))]
end
/-- the n-th bit of a word -/
def NB1 (X : Nat) (n z : Int) : Prop := 0 ≤ z ∧ z < 64 ∧ bbt X z = 1 ∧ cf (bbt X) z.toNat = n
theorem cf_mono {f : Int → Int} (h : ∀ i : Int, 0 ≤ f i) (a : Nat) : ∀ b : Nat, cf f a ≤ cf f (a + b)
  | 0 => Int.le_refl _
  | b + 1 => by
    have y := cf_mono h a b
    have y2 := h ((a + b : Nat) : Int)
    show cf f a ≤ cf f (a + b) + f ((a + b : Nat) : Int)
    omega
/-- the rank tells the place -/
theorem rank_uniq {f g : Int → Int} {y z L : Int} (hf : ∀ i : Int, 0 ≤ f i) (hg : ∀ i : Int, 0 ≤ i → i < L → f i = g i) (y0 : 0 ≤ y) (z0 : 0 ≤ z) (zL : z < L) (fy : f y = 1) (gz : g z = 1) (e : cf f y.toNat = cf g z.toNat) : y = z := by
  have eg : cf g z.toNat = cf f z.toNat := cf_congr _ (fun i i0 i1 => (hg i i0 (by omega)).symm)
  rw [eg] at e
  have fz : f z = 1 := by rw [hg z z0 zL]; exact gz
  have key : ∀ a b : Int, 0 ≤ a → f a = 1 → a < b → cf f a.toNat < cf f b.toNat := fun a b a0 fa h => by
    have s := cf_step (f := f) a0
    have m := cf_mono hf (a + 1).toNat (b.toNat - (a + 1).toNat)
    rw [show (a + 1).toNat + (b.toNat - (a + 1).toNat) = b.toNat by omega] at m
    omega
  by_cases h : y < z
  · have := key y z y0 fy h
    omega
  · by_cases h2 : z < y
    · have := key z y z0 fz h2
      omega
    · omega
theorem wbt_64 {M : nM} {c w i : Int} (hw : 0 ≤ w) (hi : 0 ≤ i ∧ i < 64) : wbt M c (64 * w + i) = bbt (un (M c w)) i := by
  unfold wbt
  rw [show (64 * w + i) / 64 = w by omega, show (64 * w + i) % 64 = i by omega]
theorem cf_w {M : nM} {c w : Int} (hw : 0 ≤ w) (n : Nat) (hn : n ≤ 64) : cf (wbt M c) ((64 * w).toNat + n) = cf (wbt M c) (64 * w).toNat + cf (bbt (un (M c w))) n := by
  rw [cf_add]
  congr 1
  refine cf_congr _ (fun i i0 i1 => ?_)
  rw [show (((64 * w).toNat : Nat) : Int) = 64 * w by omega]
  exact wbt_64 hw ⟨i0, by omega⟩
/-- the n-th of a found set -/
def Nth (M : nM) (a i z L : Int) : Prop := ((i < 0 ∨ M a 1 ≤ i) ∧ z = -1) ∨ (0 ≤ i ∧ i < M a 1 ∧ (0 ≤ z ∧ z < L) ∧ wbt M (a + 1) z = 1 ∧ cf (wbt M (a + 1)) z.toNat = i)
theorem BSt.add1 {c n : Int} {M M1 : nM} (e : ∀ m : Int, 0 ≤ m → wbt M1 c m = if m = n then 1 else wbt M c m) : BSt c M M1 (fun m => m = n) := fun m m0 => by
  rw [e m m0]
  by_cases h : m = n
  · rw [if_pos h]
    exact ⟨fun _ => Or.inr h, fun _ => rfl⟩
  · rw [if_neg h]
    exact ⟨Or.inl, fun q => q.elim id (fun y => absurd y h)⟩
theorem FA_bits {d V c L : Int} {A : Int → Int} {M M1 : nM} {L64 : Int} (h0 : ∀ i : Int, 0 ≤ i → i < L → M c i = 0) (eA : ∀ i : Int, M 40 i = A i) (b : BSt c M M1 (ga d V 0 0 (fun i => M 40 i))) (hL : L64 = 64 * L := by rfl) : ∀ m : Int, 0 ≤ m → m < L64 → (wbt M1 c m = 1 ↔ (m < pn d V.toNat ∧ SOLN d A V m)) := fun m m0 m1 => by
  have e : (fun i => M 40 i) = A := funext eA
  rw [e] at b
  have z : wbt M c m = 0 := by
    unfold wbt
    rw [h0 (m / 64) (by omega) (by omega)]
    have k : un 0 = 0 := by decide
    rw [k]
    unfold bbt
    rw [Nat.zero_div]
    rfl
  rw [b m m0, z]
  unfold ga
  rw [show V - 0 = V by omega, show 0 * pn d V.toNat = 0 by omega]
  constructor
  · rintro (h | ⟨_, h2, h3⟩)
    · omega
    · exact ⟨by omega, h3⟩
  · rintro ⟨h2, h3⟩
    exact Or.inr ⟨by omega, by omega, h3⟩
theorem and127 (x : Int) : n_and (n_wr x) 127 = x % 128 := by
  have e : n_and (n_wr x) 127 = (BitVec.ofInt 32 (BitVec.ofInt 32 x).toInt &&& BitVec.ofInt 32 127).toInt := rfl
  rw [e, BitVec.ofInt_toInt]
  have h : (BitVec.ofInt 32 x &&& BitVec.ofInt 32 127).toNat = (BitVec.ofInt 32 x).toNat % 128 := by
    rw [BitVec.toNat_and]
    exact Nat.and_two_pow_sub_one_eq_mod _ 7
  have h2 : (BitVec.ofInt 32 x).toNat = (x % 4294967296).toNat := BitVec.toNat_ofInt x
  rw [BitVec.toInt_eq_toNat_of_lt (by omega), h, h2]
  omega
theorem lbit_v {x t : Int} (ht : 0 ≤ t ∧ t ≤ 63) : n_land (n_lushr x t) 1 = bbt (un x) t := by
  obtain ⟨n, rfl⟩ : ∃ n : Nat, t = n := ⟨t.toNat, by omega⟩
  have u : un (n_land (n_lushr x (n : Int)) 1) = un x / 2 ^ n % 2 := by
    rw [un_land, un_lushr (by omega), show un 1 = 1 by decide]
    exact Nat.and_one_is_mod _
  have v := un_v (n_land (n_lushr x (n : Int)) 1)
  have r := n_land_r (n_lushr x (n : Int)) 1
  unfold bbt
  rw [Int.toNat_natCast, ← u]
  omega
/-- the bits of the found set are those below N for which P holds: so many are found -/
theorem cf_cut {f : Int → Int} {P : Int → Prop} {N L : Int} (hN : 0 ≤ N ∧ N ≤ L) (hf : ∀ i : Int, 0 ≤ f i ∧ f i ≤ 1) (h : ∀ m : Int, 0 ≤ m → m < L → (f m = 1 ↔ (m < N ∧ P m))) : cf f L.toNat = cf (fun m => bb (P m)) N.toNat := by
  have e : L.toNat = N.toNat + (L - N).toNat := by omega
  rw [e, cf_add]
  have z : cf (fun i => f ((N.toNat : Int) + i)) (L - N).toNat = 0 := cf_0 _ (fun i i0 i1 => by
    have a := h ((N.toNat : Int) + i) (by omega) (by omega)
    have b := hf ((N.toNat : Int) + i)
    show f ((N.toNat : Int) + i) = 0
    by_cases y : f ((N.toNat : Int) + i) = 1
    · have := (a.mp y).1
      omega
    · omega)
  rw [z, Int.add_zero]
  refine cf_congr _ (fun i i0 i1 => ?_)
  have a := h i i0 (by omega)
  have b := hf i
  by_cases y : P i
  · rw [bb_t y]
    exact a.mpr ⟨by omega, y⟩
  · rw [bb_f y]
    by_cases u : f i = 1
    · exact absurd (a.mp u).2 y
    · omega
theorem bits_eq {f : Int → Int} {P : Int → Prop} {N L : Int} (hf : ∀ i : Int, 0 ≤ f i ∧ f i ≤ 1) (hN : N ≤ L) (h : ∀ m : Int, 0 ≤ m → m < L → (f m = 1 ↔ (m < N ∧ P m))) {i : Int} (i0 : 0 ≤ i) (i1 : i < N) : f i = bb (P i) := by
  have a := h i i0 (by omega)
  have b := hf i
  by_cases y : P i
  · rw [bb_t y]
    exact a.mpr ⟨i1, y⟩
  · rw [bb_f y]
    by_cases u : f i = 1
    · exact absurd (a.mp u).2 y
    · omega
