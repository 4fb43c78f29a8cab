/-! Acts of laws: how many codes keep all laws of a mask. -/
def cdg (d c r : Int) : Int := c / pn d r.toNat % d
def kmask (m n : Int) : Int := n_and m (n_shl 1 n - 1)
noncomputable def KNc (d k mask : Int) (M : nM) : Int := cf (fun c => bb (KM d k (fun x => cdg d c x) mask (M 3 15) M)) (pn d (pw d k).toNat).toNat
theorem dg_cdg {d V c x : Int} (hx : 0 ≤ x ∧ x < V) : dg d V c (V - 1 - x) = cdg d c x := by
  unfold dg cdg
  rw [show V - 1 - (V - 1 - x) = x by omega]
theorem KM_congr {d m mask n : Int} {f g : Int → Int} {M : nM} (hd : d = 2 ∨ d = 3) (hm : 1 ≤ m ∧ m ≤ 3) (e : ∀ i : Int, 0 ≤ i → i < pw d m → f i = g i) : KM d m f mask n M ↔ KM d m g mask n M := ⟨fun h l l0 l1 b => (KP_congr hd hm e).mp (h l l0 l1 b), fun h l l0 l1 b => (KP_congr hd hm e).mpr (h l l0 l1 b)⟩
theorem gall_kn {d k mask V : Int} {Ms M1 : nM} (hd : d = 2 ∨ d = 3) (hk : 1 ≤ k ∧ k ≤ 3) (hV : V = pw d k) (h9 : V ≤ 9) (r : RSM d V mask (Ms 3 15) Ms M1) (h40 : ∀ i : Int, 0 ≤ i → i < 729 → Ms 40 i = ARd d) (h44 : Ms 44 0 = k) (h45 : ∀ i : Int, 0 ≤ i → i < d * d * d → Ms 45 i = V - 1 - i % V) : gall d V 0 0 (fun i => M1 40 i) = KNc d k mask Ms := by
  unfold gall KNc
  rw [show V - 0 = V by omega, ← hV]
  refine cf_congr _ (fun i i0 i1 => bb_c ?_)
  rw [show 0 * pn d V.toNat + i = i by omega, SOLN_SAT]
  have hv : vok d V (fun u => dg d V i u) := fun u _ _ => dg_r hd
  have hp := pw_r hd hk
  rw [r.1.2 _ hv]
  show (SATV d (fun i => Ms 40 i) V (fun u => dg d V i u) ∧ KM d (Ms 44 0) (fun x => dg d V i (Ms 45 x)) mask (Ms 3 15) Ms) ↔ KM d k (fun x => cdg d i x) mask (Ms 3 15) Ms
  rw [h44]
  have e : KM d k (fun x => dg d V i (Ms 45 x)) mask (Ms 3 15) Ms ↔ KM d k (fun x => cdg d i x) mask (Ms 3 15) Ms := KM_congr hd hk (fun x x0 x1 => by
    show dg d V i (Ms 45 x) = cdg d i x
    rw [h45 x x0 (by omega), Int.emod_eq_of_lt x0 (by omega)]
    exact dg_cdg ⟨x0, by omega⟩)
  rw [e]
  exact ⟨fun q => q.2, fun q => ⟨SATV.init hd h9 h40 hv, q⟩⟩
theorem KNc.of {d k mask : Int} {M M2 : nM} (e : ∀ a i : Int, (a = 3 ∧ i = 15) ∨ (79 ≤ a ∧ a < 79 + 2 * M 3 15) → M2 a i = M a i) : KNc d k mask M2 = KNc d k mask M := by
  unfold KNc
  rw [e 3 15 (by omega)]
  refine cf_congr _ (fun c _ _ => bb_c ?_)
  constructor
  · intro h l l0 l1 b
    have y := h l l0 l1 b
    rw [e (79 + 2 * l) 0 (by omega), e (79 + 2 * l) 1 (by omega)] at y
    exact y
  · intro h l l0 l1 b
    have y := h l l0 l1 b
    rw [e (79 + 2 * l) 0 (by omega), e (79 + 2 * l) 1 (by omega)]
    exact y
/-- one more law, which the mask doesn't name -/
theorem KNc.more {d k mask : Int} {M M2 : nM} (h15 : M2 3 15 = M 3 15 + 1) (hm : ¬ bt mask (M 3 15)) (e : ∀ a i : Int, (79 ≤ a ∧ a < 79 + 2 * M 3 15) → M2 a i = M a i) : KNc d k mask M2 = KNc d k mask M := by
  unfold KNc
  rw [h15]
  refine cf_congr _ (fun c _ _ => bb_c ?_)
  constructor
  · intro h l l0 l1 b
    have y := h l l0 (by omega) b
    rw [e (79 + 2 * l) 0 (by omega), e (79 + 2 * l) 1 (by omega)] at y
    exact y
  · intro h l l0 l1 b
    by_cases u : l = M 3 15
    · rw [u] at b
      exact absurd b hm
    · have y := h l l0 (by omega) b
      rw [e (79 + 2 * l) 0 (by omega), e (79 + 2 * l) 1 (by omega)]
      exact y
theorem kmask_a : ∀ n : Nat, n ≤ 12 → n_shl 1 (n : Int) - 1 = ((2 ^ n - 1 : Nat) : Int) := by decide +kernel
theorem kmask_r {m n : Int} (hn : 0 ≤ n ∧ n ≤ 12) : 0 ≤ kmask m n ∧ kmask m n ≤ 4095 ∧ kmask m n < 2 ^ n.toNat := by
  obtain ⟨b, rfl⟩ : ∃ b : Nat, n = b := ⟨n.toNat, by omega⟩
  have hb : (2 : Nat) ^ b ≤ 2 ^ 12 := Nat.pow_le_pow_right (by omega) (by omega)
  have hp : 0 < (2 : Nat) ^ b := Nat.pow_pos (by omega)
  have e := kmask_a b (by omega)
  have y := n_and_y (x := m) (y := n_shl 1 (b : Int) - 1) (by omega)
  unfold kmask
  rw [Int.toNat_natCast]
  have e2 : ((2 : Int) ^ b) = ((2 ^ b : Nat) : Int) := by
    rw [Int.natCast_pow]
    rfl
  rw [e2]
  omega
theorem kmask_b {mask n : Int} (hn : 0 ≤ n ∧ n ≤ 12) (h0 : 0 ≤ mask) (h : mask < 2 ^ n.toNat) : ¬ bt mask n := fun b => by
  obtain ⟨c, rfl⟩ : ∃ c : Nat, n = c := ⟨n.toNat, by omega⟩
  unfold bt at b
  rw [Int.toNat_natCast] at b h
  rw [Int.ediv_eq_zero_of_lt h0 h] at b
  omega
/-! the reference's list -/
def KMm (d m : Int) (f : Int → Int) (mask : Int) (M : nM) : Prop := ∀ l : Int, 0 ≤ l → l < M 112 7 → bt mask l → KP d m f (M 118 l) (M 119 l)
noncomputable def KNm (d k mask : Int) (M : nM) : Int := cf (fun c => bb (KMm d k (fun x => cdg d c x) mask M)) (pn d (pw d k).toNat).toNat
theorem RL.km {d m mask : Int} {f : Int → Int} {M : nM} (h : RL d M) : KM d m f mask (M 3 15) M ↔ KMm d m f mask M := by
  have g7 : M 3 15 = M 112 7 := h.2.2.1.1
  have g : ∀ l : Int, 0 ≤ l → l < M 3 15 → M (79 + 2 * l) 0 = M 118 l ∧ M (79 + 2 * l) 1 = M 119 l := h.2.2.1.2
  constructor
  · intro k l l0 l1 b
    have y := k l l0 (by omega) b
    rw [(g l l0 (by omega)).1, (g l l0 (by omega)).2] at y
    exact y
  · intro k l l0 l1 b
    have y := k l l0 (by omega) b
    rw [(g l l0 l1).1, (g l l0 l1).2]
    exact y
theorem RL.kn {d k mask : Int} {M : nM} (h : RL d M) : KNc d k mask M = KNm d k mask M := cf_congr _ (fun _ _ _ => bb_c h.km)
theorem KMm_congr {d m mask : Int} {f g : Int → Int} {M : nM} (hd : d = 2 ∨ d = 3) (hm : 1 ≤ m ∧ m ≤ 3) (e : ∀ i : Int, 0 ≤ i → i < pw d m → f i = g i) : KMm d m f mask M ↔ KMm d m g mask M := ⟨fun h l l0 l1 b => (KP_congr hd hm e).mp (h l l0 l1 b), fun h l l0 l1 b => (KP_congr hd hm e).mpr (h l l0 l1 b)⟩
theorem KMm.of {d m mask : Int} {f : Int → Int} {M M2 : nM} (e : ∀ a i : Int, (a = 112 ∧ i = 7) ∨ a = 118 ∨ a = 119 → M2 a i = M a i) : KMm d m f mask M2 ↔ KMm d m f mask M := by
  unfold KMm
  rw [e 112 7 (by omega)]
  constructor
  · intro h l l0 l1 b
    have y := h l l0 l1 b
    rw [e 118 l (by omega), e 119 l (by omega)] at y
    exact y
  · intro h l l0 l1 b
    rw [e 118 l (by omega), e 119 l (by omega)]
    exact h l l0 l1 b
/-- the hand behind lay -/
def HD (d c n : Int) (M : nM) : Prop := ∀ r : Int, 0 ≤ r → r < n → M 127 r = cdg d c r
theorem cdg_0 {d c : Int} : cdg d c 0 = c % d := by
  unfold cdg
  show c / 1 % d = c % d
  rw [Int.ediv_one]
theorem pn_t {d r : Int} (h : 0 ≤ r) : pn d (r + 1).toNat = d * pn d r.toNat := by
  rw [show (r + 1).toNat = r.toNat + 1 by omega]
  rfl
theorem FMk.free {d k V : Int} {M : nM} (hd : d = 2 ∨ d = 3) (hk : 1 ≤ k ∧ k ≤ 3) (hV : V = pw d k) (h0 : M 44 0 = k) (h45 : ∀ i : Int, 0 ≤ i → i < d * d * d → M 45 i = V - 1 - i % V) : FMk d (M 44 0) V (fun x => M 45 x) := by
  have hp := pw_r hd hk
  rw [h0]
  refine ⟨hk, fun i i0 i1 => ?_, fun i i0 i1 => ?_⟩
  · show M 45 i = M 45 (i % pw d k)
    have a := Int.emod_nonneg i (show pw d k ≠ 0 by omega)
    have b := Int.emod_lt_of_pos i (show 0 < pw d k by omega)
    rw [h45 i i0 i1, h45 _ a (by omega), hV, Int.emod_emod_of_dvd _ (Int.dvd_refl _)]
  · show 0 ≤ M 45 i ∧ M 45 i < V
    rw [h45 i i0 (by omega), hV, Int.emod_eq_of_lt i0 i1]
    omega
theorem NST.mk3 {d V : Int} {A : Int → Int} {P : (Int → Int) → Prop} {M M2 : nM} (hV : 0 ≤ V ∧ V ≤ 9) (h5 : M 38 5 = d) (h6 : M 38 6 = V) (hA : RST d V A (fun i => M 40 i) P) (f : FO M M2) (o : ORD (fun i => M 40 i) (fun i => M2 41 i) (fun i => M2 42 i) (fun i => M2 43 i) (ARd d) (M 38 6)) : NST d V M2 := by
  have e40 : (fun i => M2 40 i) = fun i => M 40 i := funext fun i => f 40 i (by omega) (by omega) (by omega)
  refine ⟨(f 38 5 (by omega) (by omega) (by omega)).trans h5, (f 38 6 (by omega) (by omega) (by omega)).trans h6, hV, fun p q r hp hq hr => ?_, ?_⟩
  · rw [f 40 _ (by omega) (by omega) (by omega)]
    exact hA.1 p q r hp hq hr
  · rw [e40, ← h6]
    exact o
def FLs (Ms M : nM) : Prop := ∀ a i : Int, a ≠ 127 → a ≠ 128 → ¬ (a = 112 ∧ 20 ≤ i ∧ i ≤ 22) → M a i = Ms a i
