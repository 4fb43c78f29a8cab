/-! The first: the search for the least number whose values keep the limits and suit. -/
/-- that it doesn't matter which two of three a half takes first -/
def ASC (d : Int) (f : Int → Int) : Prop := ∀ a b c : Int, (0 ≤ a ∧ a < d) → (0 ≤ b ∧ b < d) → (0 ≤ c ∧ c < d) → f (f (a * d + b) * d + c) = f (a * d + f (b * d + c))
def SUIT (d h : Int) (Vr v : Int → Int) : Prop := h = 0 ∨ ASC d (fun x => v (Vr x))
theorem SUIT.congr {d h V : Int} {Vr v w : Int → Int} (hd : d = 2 ∨ d = 3) (hF : ∀ i : Int, 0 ≤ i → i < d * d → 0 ≤ Vr i ∧ Vr i < V) (hv : vok d V v) (e : ∀ u : Int, 0 ≤ u → u < V → w u = v u) : SUIT d h Vr w ↔ SUIT d h Vr v := by
  have k : ∀ x : Int, 0 ≤ x → x < d * d → w (Vr x) = v (Vr x) := fun x x0 x1 => e _ (hF x x0 x1).1 (hF x x0 x1).2
  have r : ∀ a b : Int, (0 ≤ a ∧ a < d) → (0 ≤ b ∧ b < d) → 0 ≤ a * d + b ∧ a * d + b < d * d := fun a b ha hb => by
    rcases hd with rfl | rfl <;> omega
  have t : ∀ a b : Int, (0 ≤ a ∧ a < d) → (0 ≤ b ∧ b < d) → 0 ≤ v (Vr (a * d + b)) ∧ v (Vr (a * d + b)) < d := fun a b ha hb => by
    have q := r a b ha hb
    exact hv _ (hF _ q.1 q.2).1 (hF _ q.1 q.2).2
  have s : ASC d (fun x => w (Vr x)) ↔ ASC d (fun x => v (Vr x)) := by
    unfold ASC
    have y : ∀ a b c : Int, (0 ≤ a ∧ a < d) → (0 ≤ b ∧ b < d) → (0 ≤ c ∧ c < d) → (w (Vr (w (Vr (a * d + b)) * d + c)) = w (Vr (a * d + w (Vr (b * d + c)))) ↔ v (Vr (v (Vr (a * d + b)) * d + c)) = v (Vr (a * d + v (Vr (b * d + c))))) := fun a b c ha hb hc => by
      have q1 := r a b ha hb
      have q2 := r b c hb hc
      have t1 := t a b ha hb
      have t2 := t b c hb hc
      have q3 := r (v (Vr (a * d + b))) c t1 hc
      have q4 := r a (v (Vr (b * d + c))) ha t2
      rw [k _ q1.1 q1.2, k _ q2.1 q2.2, k _ q3.1 q3.2, k _ q4.1 q4.2]
    exact ⟨fun h a b c ha hb hc => (y a b c ha hb hc).mp (h a b c ha hb hc), fun h a b c ha hb hc => (y a b c ha hb hc).mpr (h a b c ha hb hc)⟩
  unfold SUIT
  rw [s]
def FV (Ms M : nM) : Prop := ∀ a i : Int, a ≠ 39 → M a i = Ms a i
theorem FV.u {i z : Int} {Ms M M2 : nM} (h : FV Ms M) (e : M2 = nu M 39 i z) : FV Ms M2 := fun a j ha => by
  rw [e, nu_a ha]
  exact h a j ha
theorem FV.tr {Ms M M2 : nM} (h : FV Ms M) (h2 : FV M M2) : FV Ms M2 := fun a i q => (h2 a i q).trans (h a i q)
theorem FV.nst {d V : Int} {Ms M : nM} (h : FV Ms M) (n : NST d V Ms) : NST d V M := n.of (fun a i q => h a i (by omega))
/-- m's values suit -/
def SUm (d V : Int) (M : nM) (m : Int) : Prop := SUIT d (M 44 3) (fun x => M 45 x) (fun u => dg d V m u)
theorem SUm.of {d V m : Int} {Ms M : nM} (f : FV Ms M) : SUm d V M m ↔ SUm d V Ms m := by
  unfold SUm
  have e : (fun x => M 45 x) = fun x => Ms 45 x := funext fun x => f 45 x (by omega)
  rw [e, f 44 3 (by omega)]
def SKP (d V k n z : Int) (Ms M1 : nM) : Prop := FV Ms M1 ∧ (∀ u : Int, 0 ≤ u → u < k → M1 39 u = Ms 39 u) ∧ ((z = 1 ∧ ∃ m : Int, ga d V k n (fun i => Ms 40 i) m ∧ SUm d V Ms m ∧ (∀ u : Int, 0 ≤ u → u < V → M1 39 u = dg d V m u) ∧ ∀ m2 : Int, ga d V k n (fun i => Ms 40 i) m2 → SUm d V Ms m2 → m ≤ m2) ∨ (z = 0 ∧ ∀ m : Int, ga d V k n (fun i => Ms 40 i) m → ¬ SUm d V Ms m))
def SKn (d V k n x : Int) (Ms : nM) : Prop := ∀ m : Int, gs d V k n (fun i => Ms 40 i) x m → ¬ SUm d V Ms m
section
variable {d V k n x z : Int} {Ms M M2 M3 : nM}
theorem SKn.zero : SKn d V k n 0 Ms := fun m h => absurd h gs_0
theorem SKP.leaf (hd : d = 2 ∨ d = 3) (hk : k = V) (hP : PF d k n (fun i => Ms 40 i) (fun i => Ms 39 i)) (hF : ∀ i : Int, 0 ≤ i → i < d * d → 0 ≤ Ms 45 i ∧ Ms 45 i < V) (hz : z = bb (SUIT d (Ms 44 3) (fun x => Ms 45 x) (fun u => Ms 39 u))) : SKP d V k n z Ms Ms := by
  subst hk
  have e : ∀ u : Int, 0 ≤ u → u < k → Ms 39 u = dg d k n u := fun u u0 u1 => hP.1 u u0 u1
  have s : SUIT d (Ms 44 3) (fun x => Ms 45 x) (fun u => Ms 39 u) ↔ SUm d k Ms n := SUIT.congr hd hF (fun u _ _ => dg_r hd) e
  refine ⟨fun _ _ _ => rfl, fun _ _ _ => rfl, ?_⟩
  by_cases y : SUm d k Ms n
  · left
    refine ⟨by rw [hz]; exact bb_t (s.mpr y), n, (ga_v hP).mpr rfl, y, e, fun m2 g2 _ => ?_⟩
    rw [(ga_v hP).mp g2]
    exact Int.le_refl n
  · right
    refine ⟨by rw [hz]; exact bb_f (fun q => y (s.mp q)), fun m g => ?_⟩
    rw [(ga_v hP).mp g]
    exact y
theorem SKn.no (hd : d = 2 ∨ d = 3) (hN : NST d V Ms) (hk : 0 ≤ k ∧ k < V) (hP : PF d k n (fun i => Ms 40 i) (fun i => Ms 39 i)) (hx : 0 ≤ x ∧ x < d) (f : FV Ms M) (v : ∀ u : Int, 0 ≤ u → u < k → M 39 u = Ms 39 u) (e : M2 = nu M 39 k x) (q : ¬ ∀ c : Int, M2 43 k ≤ c → c < M2 43 (k + 1) → CHK d (fun i => M2 41 i) (fun i => M2 42 i) (fun i => M2 39 i) c) (g : SKn d V k n x Ms) : SKn d V k n (x + 1) Ms := fun m hm => by
  have w := GA.w hP v e
  have f2 := f.u e
  have nf : ¬ FIT d (fun i => Ms 40 i) (fun i => M2 39 i) k := fun y => q ((GA.fit (c := 46) hd hN hk hP (Or.inl rfl) hx (fun a i h1 _ _ => f2 a i h1) w).mpr y)
  rcases (gs_s hd hk hx.1).mp hm with h | h
  · exact g m h
  · exact absurd h (ga_no hd hP hk hx w.1 w.2 nf)
theorem SKn.pf (hd : d = 2 ∨ d = 3) (hN : NST d V Ms) (hk : 0 ≤ k ∧ k < V) (hP : PF d k n (fun i => Ms 40 i) (fun i => Ms 39 i)) (hx : 0 ≤ x ∧ x < d) (f : FV Ms M) (v : ∀ u : Int, 0 ≤ u → u < k → M 39 u = Ms 39 u) (e : M2 = nu M 39 k x) (q : ∀ c : Int, M2 43 k ≤ c → c < M2 43 (k + 1) → CHK d (fun i => M2 41 i) (fun i => M2 42 i) (fun i => M2 39 i) c) : PF d (k + 1) (n * d + x) (fun i => M2 40 i) (fun i => M2 39 i) := by
  have w := GA.w hP v e
  have f2 := f.u e
  have h := PF.next hd hP hx w.1 w.2 ((GA.fit (c := 46) hd hN hk hP (Or.inl rfl) hx (fun a i h1 _ _ => f2 a i h1) w).mp q)
  exact h.of (fun _ _ _ => rfl) (fun i => f2 40 i (by omega))
theorem SKn.go (hd : d = 2 ∨ d = 3) (hk : 0 ≤ k ∧ k < V) (hx : 0 ≤ x) (f : FV Ms M) (e : M2 = nu M 39 k x) (g : SKn d V k n x Ms) (r : SKP d V (k + 1) (n * d + x) z M2 M3) (hz : z = 0) : SKn d V k n (x + 1) Ms := fun m hm => by
  have f2 := f.u e
  have e40 : (fun i => M2 40 i) = fun i => Ms 40 i := funext fun i => f2 40 i (by omega)
  rcases (gs_s hd hk hx).mp hm with h | h
  · exact g m h
  · rcases r.2.2 with ⟨y, -⟩ | ⟨-, y⟩
    · omega
    · rw [e40] at y
      exact fun s => y m h ((SUm.of f2).mpr s)
theorem SKP.found (hd : d = 2 ∨ d = 3) (hk : 0 ≤ k ∧ k < V) (hx : 0 ≤ x ∧ x < d) (f : FV Ms M) (v : ∀ u : Int, 0 ≤ u → u < k → M 39 u = Ms 39 u) (e : M2 = nu M 39 k x) (g : SKn d V k n x Ms) (r : SKP d V (k + 1) (n * d + x) z M2 M3) (hz : z ≠ 0) : SKP d V k n 1 Ms M3 := by
  have f2 := f.u e
  have e40 : (fun i => M2 40 i) = fun i => Ms 40 i := funext fun i => f2 40 i (by omega)
  have hp := pn_pos hd (V - (k + 1)).toNat
  refine ⟨f2.tr r.1, fun u u0 u1 => ?_, ?_⟩
  · rw [r.2.1 u u0 (by omega), e, nu_i (by omega)]
    exact v u u0 u1
  · rcases r.2.2 with ⟨-, m, y1, y2, y3, y4⟩ | ⟨y, -⟩
    · rw [e40] at y1 y4
      have ea : (n * d + x) * pn d (V - (k + 1)).toNat = n * pn d (V - k).toNat + x * pn d (V - (k + 1)).toNat := by
        rw [pn_s hk.1 hk.2, Int.add_mul, Int.mul_assoc]
      have es : pn d (V - k).toNat = d * pn d (V - (k + 1)).toNat := pn_s hk.1 hk.2
      have xl : x * pn d (V - (k + 1)).toNat + pn d (V - (k + 1)).toNat ≤ d * pn d (V - (k + 1)).toNat := by
        have q : (x + 1) * pn d (V - (k + 1)).toNat ≤ d * pn d (V - (k + 1)).toNat := Int.mul_le_mul_of_nonneg_right (by omega) (by omega)
        rw [Int.add_mul, Int.one_mul] at q
        exact q
      have x0 : 0 ≤ x * pn d (V - (k + 1)).toNat := Int.mul_nonneg hx.1 (by omega)
      obtain ⟨a1, a2, a3⟩ := y1
      refine Or.inl ⟨rfl, m, ⟨by omega, by omega, a3⟩, (SUm.of f2).mp y2, y3, fun m2 g2 s2 => ?_⟩
      obtain ⟨b1, b2, b3⟩ := g2
      by_cases h1 : m2 < n * pn d (V - k).toNat + x * pn d (V - (k + 1)).toNat
      · exact absurd s2 (g m2 ⟨b1, h1, b3⟩)
      · by_cases h2 : m2 < (n * d + x) * pn d (V - (k + 1)).toNat + pn d (V - (k + 1)).toNat
        · exact y4 m2 ⟨by omega, h2, b3⟩ ((SUm.of f2).mpr s2)
        · omega
    · omega
theorem SKP.none (hk : 0 ≤ k ∧ k < V) (f : FV Ms M) (v : ∀ u : Int, 0 ≤ u → u < k → M 39 u = Ms 39 u) (g : SKn d V k n d Ms) : SKP d V k n 0 Ms M := ⟨f, v, Or.inr ⟨rfl, fun m h => g m ((gs_a hk).mpr h)⟩⟩
end
theorem PF.vr {d k n u : Int} {A v : Int → Int} (hd : d = 2 ∨ d = 3) (h : PF d k n A v) (hu : 0 ≤ u ∧ u < k) : 0 ≤ v u ∧ v u < d := by
  rw [h.1 u hu.1 hu.2]
  rcases hd with rfl | rfl <;> omega
/-- behind the constants -/
def FFP (d V n z : Int) (Ms M1 : nM) : Prop := FV Ms M1 ∧ ((z = 1 ∧ ∃ m : Int, ga d V d n (fun i => Ms 40 i) m ∧ SUm d V Ms m ∧ (∀ u : Int, 0 ≤ u → u < V → M1 39 u = dg d V m u) ∧ ∀ m2 : Int, ga d V d n (fun i => Ms 40 i) m2 → SUm d V Ms m2 → m ≤ m2) ∨ (z = 0 ∧ ∀ m : Int, ga d V d n (fun i => Ms 40 i) m → ¬ SUm d V Ms m))
theorem FFP.of {d V n z : Int} {Ms M M1 : nM} (f : FV Ms M) (h : SKP d V d n z M M1) : FFP d V n z Ms M1 := by
  have e40 : (fun i => M 40 i) = fun i => Ms 40 i := funext fun i => f 40 i (by omega)
  obtain ⟨h1, -, h3⟩ := h
  rw [e40] at h3
  refine ⟨f.tr h1, ?_⟩
  rcases h3 with ⟨a, m, b1, b2, b3, b4⟩ | ⟨a, b⟩
  · exact Or.inl ⟨a, m, b1, (SUm.of f).mp b2, b3, fun m2 g s => b4 m2 g ((SUm.of f).mpr s)⟩
  · exact Or.inr ⟨a, fun m g s => b m g ((SUm.of f).mpr s)⟩
/-- n's digits are 0, 1, .. -/
theorem FFP.fail {d V k n : Int} {Ms M : nM} (hd : d = 2 ∨ d = 3) (hN : NST d V Ms) (hV : d ≤ V) (hk : 0 ≤ k ∧ k < d) (hn : ∀ u : Int, 0 ≤ u → u ≤ k → n / pn d (d - 1 - u).toNat % d = u) (f : FV Ms M) (w : ∀ u : Int, 0 ≤ u → u ≤ k → M 39 u = u) (q : ¬ ∀ c : Int, M 43 k ≤ c → c < M 43 (k + 1) → CHK d (fun i => M 41 i) (fun i => M 42 i) (fun i => M 39 i) c) : FFP d V n 0 Ms M := ⟨f, Or.inr ⟨rfl, fun m g _ => by
  obtain ⟨g1, g2, g3⟩ := g
  refine q ((NST.fit hd (f.nst hN) hk.1 (by omega) (fun u u0 u1 => by rw [w u u0 u1]; omega)).mpr ?_)
  have e40 : (fun i => M 40 i) = fun i => Ms 40 i := funext fun i => f 40 i (by omega)
  rw [e40]
  refine (g3 k hk.1 (by omega)).congr (fun u u0 u1 => ?_)
  show dg d V m u = M 39 u
  rw [w u u0 u1, show m = n * pn d (V - d).toNat + (m - n * pn d (V - d).toNat) by omega, dg_pre hd ⟨u0, by omega⟩ hV (by omega)]
  exact hn u u0 u1⟩⟩
