/-! Acts of laws: what is held of them is right. -/
def core0 (a i : Int) : Prop := (a = 3 ∧ (i = 14 ∨ i = 15)) ∨ (4 ≤ a ∧ a ≤ 11) ∨ (a = 32 ∧ (i = 0 ∨ i = 1)) ∨ (33 ≤ a ∧ a ≤ 36) ∨ (55 ≤ a ∧ a ≤ 102) ∨ (a = 112 ∧ (i = 0 ∨ i = 4 ∨ i = 7 ∨ i = 10 ∨ i = 11)) ∨ (113 ≤ a ∧ a ≤ 121)
def Eq0 (M M1 : nM) : Prop := ∀ a i : Int, core0 a i → M1 a i = M a i
theorem RL.of0 {d ac : Int} {M0 M M2 : nM} (h : RL d M) (hd : d = 2 ∨ d = 3) (hS : Sf d ac M0 M) (e : Eq0 M M2) : RL d M2 := by
  have b1 := t_3_14x hS
  have b2 := t_3_15 hS
  obtain ⟨h1, h2, h3, h4⟩ := h
  exact ⟨h1.of (fun a i q => e a i (by unfold core0; omega)), h2.of hd (by omega) (fun a i q => e a i (by unfold core0; omega)), h3.of (by omega) (fun a i q => e a i (by unfold core0; omega)), h4.of (fun a i q => e a i (by unfold core0; omega))⟩
theorem RLX.of0 {d ac : Int} {M0 M M2 : nM} (h : RLX d M) (hd : d = 2 ∨ d = 3) (hS : Sf d ac M0 M) (e : Eq0 M M2) : RLX d M2 := by
  have b2 := t_3_15 hS
  exact ⟨h.1.of0 hd hS e, h.2.of (by omega) (fun a i q => e a i (by unfold core0; omega))⟩
def cdg (d c r : Int) : Int := c / pn d r.toNat % d
def kmask (m n : Int) : Int := n_and m (n_shl 1 n - 1)
noncomputable def KNc (d k mask : Int) (M : nM) : Int := cf (fun c => bb (KM d k (fun x => cdg d c x) mask (M 3 15) M)) (pn d (pw d k).toNat).toNat
theorem dg_cdg {d V c x : Int} (hx : 0 ≤ x ∧ x < V) : dg d V c (V - 1 - x) = cdg d c x := by
  unfold dg cdg
  rw [show V - 1 - (V - 1 - x) = x by omega]
theorem KM_congr {d m mask n : Int} {f g : Int → Int} {M : nM} (hd : d = 2 ∨ d = 3) (hm : 1 ≤ m ∧ m ≤ 3) (e : ∀ i : Int, 0 ≤ i → i < pw d m → f i = g i) : KM d m f mask n M ↔ KM d m g mask n M := ⟨fun h l l0 l1 b => (KP_congr hd hm e).mp (h l l0 l1 b), fun h l l0 l1 b => (KP_congr hd hm e).mpr (h l l0 l1 b)⟩
theorem gall_kn {d k mask V : Int} {Ms M1 : nM} (hd : d = 2 ∨ d = 3) (hk : 1 ≤ k ∧ k ≤ 3) (hV : V = pw d k) (h9 : V ≤ 9) (r : RSM d V mask (Ms 3 15) Ms M1) (h40 : ∀ i : Int, 0 ≤ i → i < 729 → Ms 40 i = ARd d) (h44 : Ms 44 0 = k) (h45 : ∀ i : Int, 0 ≤ i → i < d * d * d → Ms 45 i = V - 1 - i % V) : gall d V 0 0 (fun i => M1 40 i) = KNc d k mask Ms := by
  unfold gall KNc
  rw [show V - 0 = V by omega, ← hV]
  refine cf_congr _ (fun i i0 i1 => bb_c ?_)
  rw [show 0 * pn d V.toNat + i = i by omega, SOLN_SAT]
  have hv : vok d V (fun u => dg d V i u) := fun u _ _ => dg_r hd
  have hp := pw_r hd hk
  rw [r.1.2 _ hv]
  show (SATV d (fun i => Ms 40 i) V (fun u => dg d V i u) ∧ KM d (Ms 44 0) (fun x => dg d V i (Ms 45 x)) mask (Ms 3 15) Ms) ↔ KM d k (fun x => cdg d i x) mask (Ms 3 15) Ms
  rw [h44]
  have e : KM d k (fun x => dg d V i (Ms 45 x)) mask (Ms 3 15) Ms ↔ KM d k (fun x => cdg d i x) mask (Ms 3 15) Ms := KM_congr hd hk (fun x x0 x1 => by
    show dg d V i (Ms 45 x) = cdg d i x
    rw [h45 x x0 (by omega), Int.emod_eq_of_lt x0 (by omega)]
    exact dg_cdg ⟨x0, by omega⟩)
  rw [e]
  exact ⟨fun q => q.2, fun q => ⟨SATV.init hd h9 h40 hv, q⟩⟩
theorem KNc.of {d k mask : Int} {M M2 : nM} (e : ∀ a i : Int, (a = 3 ∧ i = 15) ∨ (79 ≤ a ∧ a < 79 + 2 * M 3 15) → M2 a i = M a i) : KNc d k mask M2 = KNc d k mask M := by
  unfold KNc
  rw [e 3 15 (by omega)]
  refine cf_congr _ (fun c _ _ => bb_c ?_)
  constructor
  · intro h l l0 l1 b
    have y := h l l0 l1 b
    rw [e (79 + 2 * l) 0 (by omega), e (79 + 2 * l) 1 (by omega)] at y
    exact y
  · intro h l l0 l1 b
    have y := h l l0 l1 b
    rw [e (79 + 2 * l) 0 (by omega), e (79 + 2 * l) 1 (by omega)]
    exact y
/-- one more law, which the mask doesn't name -/
theorem KNc.more {d k mask : Int} {M M2 : nM} (h15 : M2 3 15 = M 3 15 + 1) (hm : ¬ bt mask (M 3 15)) (e : ∀ a i : Int, (79 ≤ a ∧ a < 79 + 2 * M 3 15) → M2 a i = M a i) : KNc d k mask M2 = KNc d k mask M := by
  unfold KNc
  rw [h15]
  refine cf_congr _ (fun c _ _ => bb_c ?_)
  constructor
  · intro h l l0 l1 b
    have y := h l l0 (by omega) b
    rw [e (79 + 2 * l) 0 (by omega), e (79 + 2 * l) 1 (by omega)] at y
    exact y
  · intro h l l0 l1 b
    by_cases u : l = M 3 15
    · rw [u] at b
      exact absurd b hm
    · have y := h l l0 (by omega) b
      rw [e (79 + 2 * l) 0 (by omega), e (79 + 2 * l) 1 (by omega)]
      exact y
theorem kmask_a : ∀ n : Nat, n ≤ 12 → n_shl 1 (n : Int) - 1 = ((2 ^ n - 1 : Nat) : Int) := by decide +kernel
theorem kmask_r {m n : Int} (hn : 0 ≤ n ∧ n ≤ 12) : 0 ≤ kmask m n ∧ kmask m n ≤ 4095 ∧ kmask m n < 2 ^ n.toNat := by
  obtain ⟨b, rfl⟩ : ∃ b : Nat, n = b := ⟨n.toNat, by omega⟩
  have hb : (2 : Nat) ^ b ≤ 2 ^ 12 := Nat.pow_le_pow_right (by omega) (by omega)
  have hp : 0 < (2 : Nat) ^ b := Nat.pow_pos (by omega)
  have e := kmask_a b (by omega)
  have y := n_and_y (x := m) (y := n_shl 1 (b : Int) - 1) (by omega)
  unfold kmask
  rw [Int.toNat_natCast]
  have e2 : ((2 : Int) ^ b) = ((2 ^ b : Nat) : Int) := by
    rw [Int.natCast_pow]
    rfl
  rw [e2]
  omega
theorem kmask_b {mask n : Int} (hn : 0 ≤ n ∧ n ≤ 12) (h0 : 0 ≤ mask) (h : mask < 2 ^ n.toNat) : ¬ bt mask n := fun b => by
  obtain ⟨c, rfl⟩ : ∃ c : Nat, n = c := ⟨n.toNat, by omega⟩
  unfold bt at b
  rw [Int.toNat_natCast] at b h
  rw [Int.ediv_eq_zero_of_lt h0 h] at b
  omega
/-! the reference's list -/
def KMm (d m : Int) (f : Int → Int) (mask : Int) (M : nM) : Prop := ∀ l : Int, 0 ≤ l → l < M 112 7 → bt mask l → KP d m f (M 118 l) (M 119 l)
noncomputable def KNm (d k mask : Int) (M : nM) : Int := cf (fun c => bb (KMm d k (fun x => cdg d c x) mask M)) (pn d (pw d k).toNat).toNat
theorem RL.km {d m mask : Int} {f : Int → Int} {M : nM} (h : RL d M) : KM d m f mask (M 3 15) M ↔ KMm d m f mask M := by
  have g7 : M 3 15 = M 112 7 := h.2.2.1.1
  have g : ∀ l : Int, 0 ≤ l → l < M 3 15 → M (79 + 2 * l) 0 = M 118 l ∧ M (79 + 2 * l) 1 = M 119 l := h.2.2.1.2
  constructor
  · intro k l l0 l1 b
    have y := k l l0 (by omega) b
    rw [(g l l0 (by omega)).1, (g l l0 (by omega)).2] at y
    exact y
  · intro k l l0 l1 b
    have y := k l l0 (by omega) b
    rw [(g l l0 l1).1, (g l l0 l1).2]
    exact y
theorem RL.kn {d k mask : Int} {M : nM} (h : RL d M) : KNc d k mask M = KNm d k mask M := cf_congr _ (fun _ _ _ => bb_c h.km)
theorem KMm_congr {d m mask : Int} {f g : Int → Int} {M : nM} (hd : d = 2 ∨ d = 3) (hm : 1 ≤ m ∧ m ≤ 3) (e : ∀ i : Int, 0 ≤ i → i < pw d m → f i = g i) : KMm d m f mask M ↔ KMm d m g mask M := ⟨fun h l l0 l1 b => (KP_congr hd hm e).mp (h l l0 l1 b), fun h l l0 l1 b => (KP_congr hd hm e).mpr (h l l0 l1 b)⟩
theorem KMm.of {d m mask : Int} {f : Int → Int} {M M2 : nM} (e : ∀ a i : Int, (a = 112 ∧ i = 7) ∨ a = 118 ∨ a = 119 → M2 a i = M a i) : KMm d m f mask M2 ↔ KMm d m f mask M := by
  unfold KMm
  rw [e 112 7 (by omega)]
  constructor
  · intro h l l0 l1 b
    have y := h l l0 l1 b
    rw [e 118 l (by omega), e 119 l (by omega)] at y
    exact y
  · intro h l l0 l1 b
    rw [e 118 l (by omega), e 119 l (by omega)]
    exact h l l0 l1 b
/-- the hand behind lay -/
def HD (d c n : Int) (M : nM) : Prop := ∀ r : Int, 0 ≤ r → r < n → M 127 r = cdg d c r
theorem cdg_0 {d c : Int} : cdg d c 0 = c % d := by
  unfold cdg
  show c / 1 % d = c % d
  rw [Int.ediv_one]
theorem pn_t {d r : Int} (h : 0 ≤ r) : pn d (r + 1).toNat = d * pn d r.toNat := by
  rw [show (r + 1).toNat = r.toNat + 1 by omega]
  rfl
theorem FMk.free {d k V : Int} {M : nM} (hd : d = 2 ∨ d = 3) (hk : 1 ≤ k ∧ k ≤ 3) (hV : V = pw d k) (h0 : M 44 0 = k) (h45 : ∀ i : Int, 0 ≤ i → i < d * d * d → M 45 i = V - 1 - i % V) : FMk d (M 44 0) V (fun x => M 45 x) := by
  have hp := pw_r hd hk
  rw [h0]
  refine ⟨hk, fun i i0 i1 => ?_, fun i i0 i1 => ?_⟩
  · show M 45 i = M 45 (i % pw d k)
    have a := Int.emod_nonneg i (show pw d k ≠ 0 by omega)
    have b := Int.emod_lt_of_pos i (show 0 < pw d k by omega)
    rw [h45 i i0 i1, h45 _ a (by omega), hV, Int.emod_emod_of_dvd _ (Int.dvd_refl _)]
  · show 0 ≤ M 45 i ∧ M 45 i < V
    rw [h45 i i0 (by omega), hV, Int.emod_eq_of_lt i0 i1]
    omega
theorem NST.mk3 {d V : Int} {A : Int → Int} {P : (Int → Int) → Prop} {M M2 : nM} (hV : 0 ≤ V ∧ V ≤ 9) (h5 : M 38 5 = d) (h6 : M 38 6 = V) (hA : RST d V A (fun i => M 40 i) P) (f : FO M M2) (o : ORD (fun i => M 40 i) (fun i => M2 41 i) (fun i => M2 42 i) (fun i => M2 43 i) (ARd d) (M 38 6)) : NST d V M2 := by
  have e40 : (fun i => M2 40 i) = fun i => M 40 i := funext fun i => f 40 i (by omega) (by omega) (by omega)
  refine ⟨(f 38 5 (by omega) (by omega) (by omega)).trans h5, (f 38 6 (by omega) (by omega) (by omega)).trans h6, hV, fun p q r hp hq hr => ?_, ?_⟩
  · rw [f 40 _ (by omega) (by omega) (by omega)]
    exact hA.1 p q r hp hq hr
  · rw [e40, ← h6]
    exact o
def BK (d k mask : Int) (M M1 : nM) : Prop := ∀ m : Int, 0 ≤ m → m < 19712 → (wbt M1 47 m = 1 ↔ (m < pn d (pw d k).toNat ∧ KM d k (fun x => cdg d m x) mask (M 3 15) M))
def LQk (d k mask : Int) (M M1 : nM) : Prop := ∀ j : Int, 0 ≤ j → j < M1 112 22 → (0 ≤ M1 128 j ∧ M1 128 j < pn d (pw d k).toNat) ∧ KMm d k (fun x => cdg d (M1 128 j) x) mask M ∧ cf (fun c => bb (KMm d k (fun x => cdg d c x) mask M)) (M1 128 j).toNat = j
theorem KM.of {d m mask : Int} {f : Int → Int} {M M2 : nM} (e : ∀ a i : Int, (a = 3 ∧ i = 15) ∨ (79 ≤ a ∧ a < 79 + 2 * M 3 15) → M2 a i = M a i) : KM d m f mask (M2 3 15) M2 ↔ KM d m f mask (M 3 15) M := by
  rw [e 3 15 (by omega)]
  constructor
  · intro h l l0 l1 b
    have y := h l l0 l1 b
    rw [e (79 + 2 * l) 0 (by omega), e (79 + 2 * l) 1 (by omega)] at y
    exact y
  · intro h l l0 l1 b
    have y := h l l0 l1 b
    rw [e (79 + 2 * l) 0 (by omega), e (79 + 2 * l) 1 (by omega)]
    exact y
theorem KM.more {d m mask : Int} {f : Int → Int} {M M2 : nM} (h15 : M2 3 15 = M 3 15 + 1) (hm : ¬ bt mask (M 3 15)) (e : ∀ a i : Int, (79 ≤ a ∧ a < 79 + 2 * M 3 15) → M2 a i = M a i) : KM d m f mask (M2 3 15) M2 ↔ KM d m f mask (M 3 15) M := by
  rw [h15]
  constructor
  · intro h l l0 l1 b
    have y := h l l0 (by omega) b
    rw [e (79 + 2 * l) 0 (by omega), e (79 + 2 * l) 1 (by omega)] at y
    exact y
  · intro h l l0 l1 b
    by_cases u : l = M 3 15
    · rw [u] at b
      exact absurd b hm
    · have y := h l l0 (by omega) b
      rw [e (79 + 2 * l) 0 (by omega), e (79 + 2 * l) 1 (by omega)]
      exact y
theorem KMm.more {d m mask : Int} {f : Int → Int} {M M2 : nM} (h15 : M2 112 7 = M 112 7 + 1) (hm : ¬ bt mask (M 112 7)) (e : ∀ a i : Int, (a = 118 ∨ a = 119) → i < M 112 7 → M2 a i = M a i) : KMm d m f mask M2 ↔ KMm d m f mask M := by
  unfold KMm
  rw [h15]
  constructor
  · intro h l l0 l1 b
    have y := h l l0 (by omega) b
    rw [e 118 l (by omega) l1, e 119 l (by omega) l1] at y
    exact y
  · intro h l l0 l1 b
    by_cases u : l = M 112 7
    · rw [u] at b
      exact absurd b hm
    · have y := h l l0 (by omega) b
      rw [e 118 l (by omega) (by omega), e 119 l (by omega) (by omega)]
      exact y
theorem BK.cg {d k mask : Int} {M M2 N N2 : nM} (h : BK d k mask M N) (e : ∀ m : Int, KM d k (fun x => cdg d m x) mask (M2 3 15) M2 ↔ KM d k (fun x => cdg d m x) mask (M 3 15) M) (w : ∀ i : Int, N2 47 i = N 47 i) : BK d k mask M2 N2 := fun m m0 m1 => by
  unfold wbt
  rw [e m, w]
  exact h m m0 m1
theorem LQk.cg {d k mask : Int} {M M2 N N2 : nM} (h : LQk d k mask M N) (e : ∀ c : Int, KMm d k (fun x => cdg d c x) mask M2 ↔ KMm d k (fun x => cdg d c x) mask M) (w : ∀ i : Int, N2 128 i = N 128 i) (w2 : N2 112 22 = N 112 22) : LQk d k mask M2 N2 := fun j j0 j1 => by
  have y := h j j0 (by omega)
  rw [w j]
  refine ⟨y.1, (e _).mpr y.2.1, ?_⟩
  have z : cf (fun c => bb (KMm d k (fun x => cdg d c x) mask M2)) (N 128 j).toNat = cf (fun c => bb (KMm d k (fun x => cdg d c x) mask M)) (N 128 j).toNat := cf_congr _ (fun c _ _ => bb_c (e c))
  rw [z]
  exact y.2.2
theorem soln_kn {d k mask V i : Int} {Ms M1 : nM} (hd : d = 2 ∨ d = 3) (hk : 1 ≤ k ∧ k ≤ 3) (hV : V = pw d k) (h9 : V ≤ 9) (r : RSM d V mask (Ms 3 15) Ms M1) (h40 : ∀ i : Int, 0 ≤ i → i < 729 → Ms 40 i = ARd d) (h44 : Ms 44 0 = k) (h45 : ∀ i : Int, 0 ≤ i → i < d * d * d → Ms 45 i = V - 1 - i % V) : SOLN d (fun i => M1 40 i) V i ↔ KM d k (fun x => cdg d i x) mask (Ms 3 15) Ms := by
  rw [SOLN_SAT]
  have hv : vok d V (fun u => dg d V i u) := fun u _ _ => dg_r hd
  have hp := pw_r hd hk
  rw [r.1.2 _ hv]
  show (SATV d (fun i => Ms 40 i) V (fun u => dg d V i u) ∧ KM d (Ms 44 0) (fun x => dg d V i (Ms 45 x)) mask (Ms 3 15) Ms) ↔ KM d k (fun x => cdg d i x) mask (Ms 3 15) Ms
  rw [h44]
  have e : KM d k (fun x => dg d V i (Ms 45 x)) mask (Ms 3 15) Ms ↔ KM d k (fun x => cdg d i x) mask (Ms 3 15) Ms := KM_congr hd hk (fun x x0 x1 => by
    show dg d V i (Ms 45 x) = cdg d i x
    rw [h45 x x0 (by omega), Int.emod_eq_of_lt x0 (by omega)]
    exact dg_cdg ⟨x0, by omega⟩)
  rw [e]
  exact ⟨fun q => q.2, fun q => ⟨SATV.init hd h9 h40 hv, q⟩⟩
theorem BK.mk {d k mask V : Int} {Mn Mr Ms N : nM} (hd : d = 2 ∨ d = 3) (hk : 1 ≤ k ∧ k ≤ 3) (hV : V = pw d k) (h9 : V ≤ 9) (r : RSM d V mask (Mn 3 15) Mn Mr) (h40 : ∀ i : Int, 0 ≤ i → i < 729 → Mn 40 i = ARd d) (h44 : Mn 44 0 = k) (h45 : ∀ i : Int, 0 ≤ i → i < d * d * d → Mn 45 i = V - 1 - i % V) (b : ∀ m : Int, 0 ≤ m → m < 19712 → (wbt N 47 m = 1 ↔ (m < pn d V.toNat ∧ SOLN d (fun i => Mr 40 i) V m))) (e : ∀ a i : Int, (a = 3 ∧ i = 15) ∨ (79 ≤ a ∧ a < 79 + 2 * Ms 3 15) → Mn a i = Ms a i) : BK d k mask Ms N := fun m m0 m1 => by
  rw [b m m0 m1, soln_kn hd hk hV h9 r h40 h44 h45, KM.of e, hV]
theorem cf_hct {d k mask : Int} {M M1 : nM} (hN : 0 ≤ pn d (pw d k).toNat ∧ pn d (pw d k).toNat ≤ 19712) (c : BK d k mask M M1) : cf (wbt M1 47) 19712 = KNc d k mask M := cf_cut (f := wbt M1 47) (P := fun m => KM d k (fun x => cdg d m x) mask (M 3 15) M) (N := pn d (pw d k).toNat) (L := 19712) hN (wbt_r M1 47) c
def mLi (i z : Int) (M : nM) : Prop := ((i < 0 ∨ M 112 22 ≤ i) ∧ z = -1) ∨ (0 ≤ i ∧ i < M 112 22 ∧ z = M 128 i)
/-- behind the class's search -/
def cKp (d k m : Int) (M M1 : nM) : Prop := M1 3 17 = k ∧ M1 3 16 = kmask m (M 3 15) ∧ M1 46 1 = KNc d k (kmask m (M 3 15)) M ∧ (∀ a i : Int, core0 a i ∨ 112 ≤ a → M1 a i = M a i) ∧ BK d k (kmask m (M 3 15)) M M1
/-- behind the reference's list -/
def mKp (d k m : Int) (M M1 : nM) : Prop := M1 112 21 = k ∧ M1 112 20 = kmask m (M 112 7) ∧ M1 112 22 = KNm d k (kmask m (M 112 7)) M ∧ (∀ a i : Int, core0 a i ∨ (a = 3 ∧ (i = 16 ∨ i = 17)) ∨ a = 46 ∨ a = 47 → M1 a i = M a i) ∧ LQk d k (kmask m (M 112 7)) M M1
def FLs (Ms M : nM) : Prop := ∀ a i : Int, a ≠ 127 → a ≠ 128 → ¬ (a = 112 ∧ 20 ≤ i ∧ i ≤ 22) → M a i = Ms a i
theorem KNm.of {d k mask : Int} {M M2 : nM} (e : ∀ a i : Int, (a = 112 ∧ i = 7) ∨ a = 118 ∨ a = 119 → M2 a i = M a i) : KNm d k mask M2 = KNm d k mask M := cf_congr _ (fun _ _ _ => bb_c (KMm.of e))
theorem KNm.more {d k mask : Int} {M M2 : nM} (h15 : M2 112 7 = M 112 7 + 1) (hm : ¬ bt mask (M 112 7)) (e : ∀ a i : Int, (a = 118 ∨ a = 119) → i < M 112 7 → M2 a i = M a i) : KNm d k mask M2 = KNm d k mask M := by
  refine cf_congr _ (fun c _ _ => bb_c ?_)
  unfold KMm
  rw [h15]
  constructor
  · intro h l l0 l1 b
    have y := h l l0 (by omega) b
    rw [e 118 l (by omega) l1, e 119 l (by omega) l1] at y
    exact y
  · intro h l l0 l1 b
    by_cases u : l = M 112 7
    · rw [u] at b
      exact absurd b hm
    · have y := h l l0 (by omega) b
      rw [e 118 l (by omega) (by omega), e 119 l (by omega) (by omega)]
      exact y
theorem pow_m {x : Int} {a b : Int} (h : x < 2 ^ a.toNat) (hab : a ≤ b) : x < 2 ^ b.toNat := by
  have y : (2 : Int) ^ a.toNat ≤ 2 ^ b.toNat := by
    have z : (2 : Nat) ^ a.toNat ≤ 2 ^ b.toNat := Nat.pow_le_pow_right (by omega) (by omega)
    exact_mod_cast z
  omega
def RXq (d : Int) (M : nM) : Prop := (∀ k : Int, 1 ≤ k → M 3 17 = k → M 46 1 = KNc d k (M 3 16) M ∧ 0 ≤ M 3 16 ∧ M 3 16 < 2 ^ (M 3 15).toNat ∧ BK d k (M 3 16) M M) ∧ ∀ k : Int, M 112 21 = k → 0 ≤ M 112 20 → M 112 22 = KNm d k (M 112 20) M ∧ M 112 20 < 2 ^ (M 112 7).toNat ∧ LQk d k (M 112 20) M M
def RLQ (d : Int) (M : nM) : Prop := RLX d M ∧ RXq d M
theorem RXq.of {d : Int} {M M2 : nM} (h : RXq d M) (hb : M 3 15 ≤ 12) (e : ∀ a i : Int, core a i → (a = 3 ∧ (i = 15 ∨ i = 16 ∨ i = 17)) ∨ a = 46 ∨ a = 47 ∨ (a = 112 ∧ (i = 7 ∨ i = 20 ∨ i = 21 ∨ i = 22)) ∨ (79 ≤ a ∧ a < 79 + 2 * M 3 15) ∨ a = 118 ∨ a = 119 ∨ a = 128 → M2 a i = M a i) : RXq d M2 := by
  have c15 := e 3 15 (by unfold core; omega) (by omega)
  have c16 := e 3 16 (by unfold core; omega) (by omega)
  have c17 := e 3 17 (by unfold core; omega) (by omega)
  have c46 := e 46 1 (by unfold core; omega) (by omega)
  have c7 := e 112 7 (by unfold core; omega) (by omega)
  have c20 := e 112 20 (by unfold core; omega) (by omega)
  have c21 := e 112 21 (by unfold core; omega) (by omega)
  have c22 := e 112 22 (by unfold core; omega) (by omega)
  refine ⟨fun k k1 u => ?_, fun k u q => ?_⟩
  · rw [c17] at u
    rw [c46, c16, c15, KNc.of (fun a i q => e a i (by unfold core; omega) (by omega))]
    obtain ⟨h1, h2, h3, h4⟩ := h.1 k k1 u
    exact ⟨h1, h2, h3, h4.cg (fun m => KM.of (fun a i q => e a i (by unfold core; omega) (by omega))) (fun i => e 47 i (by unfold core; omega) (by omega))⟩
  · rw [c21] at u
    rw [c20] at q
    rw [c22, c20, c7, KNm.of (fun a i q => e a i (by unfold core; omega) (by omega))]
    obtain ⟨h1, h3, h4⟩ := h.2 k u q
    exact ⟨h1, h3, h4.cg (fun c => KMm.of (fun a i q => e a i (by unfold core; omega) (by omega))) (fun i => e 128 i (by unfold core; omega) (by omega)) c22⟩
theorem RLQ.of {d ac : Int} {M0 M M2 : nM} (h : RLQ d M) (hd : d = 2 ∨ d = 3) (hS : Sf d ac M0 M) (e : Eqc M M2) : RLQ d M2 := ⟨h.1.of hd hS e, h.2.of (by have := t_3_15 hS; omega) (fun a i hc _ => e a i hc)⟩
section
variable {d ac s w n z z2 i v k r u l x y : Int} {M0 M M1 M2 : nM}
theorem RLQ.two (h : RLQ d M) (hS : Sf d ac M0 M) (q : RLX d M2 ∧ z = z2) (e1 : ∀ a i : Int, core a i → (a = 3 ∧ (i = 15 ∨ i = 16 ∨ i = 17)) ∨ a = 46 ∨ a = 47 ∨ (a = 112 ∧ (i = 7 ∨ i = 20 ∨ i = 21 ∨ i = 22)) ∨ (79 ≤ a ∧ a < 79 + 2 * M 3 15) ∨ a = 118 ∨ a = 119 ∨ a = 128 → M1 a i = M a i) (e2 : ∀ a i : Int, core a i → (a = 3 ∧ (i = 15 ∨ i = 16 ∨ i = 17)) ∨ a = 46 ∨ a = 47 ∨ (a = 112 ∧ (i = 7 ∨ i = 20 ∨ i = 21 ∨ i = 22)) ∨ (79 ≤ a ∧ a < 79 + 2 * M 3 15) ∨ a = 118 ∨ a = 119 ∨ a = 128 → M2 a i = M1 a i) : RLQ d M2 ∧ z = z2 := ⟨⟨q.1, h.2.of (by have := t_3_15 hS; omega) (fun a i hc u => (e2 a i hc u).trans (e1 a i hc u))⟩, q.2⟩
theorem RLQ.row (hd : d = 2 ∨ d = 3) (h : RLQ d M) (hS : Sf d ac M0 M) (c : cRow s w n z M M1) (m : mRow s w n z2 M1 M2) : RLQ d M2 ∧ z = z2 := RLQ.two h hS (RLX.row hd h.1 hS c m)
  (fun a i hc q => by
    have b15 := t_3_15 hS
    rcases c with ⟨-, -, e⟩ | ⟨-, -, -, -, -, -, e⟩ | ⟨-, -, -, -, -, -, -, -, -, -, e⟩
    · exact e a i hc
    · exact e a i hc
    · exact e a i hc (by omega) (by omega) (by omega))
  (fun a i hc q => by
    have b15 := t_3_15 hS
    rcases m with ⟨-, -, e⟩ | ⟨-, -, -, -, -, -, e⟩ | ⟨-, -, -, -, -, -, -, -, -, -, e⟩
    · exact e a i hc
    · exact e a i hc
    · exact e a i hc (by omega) (by omega) (by omega))
theorem RLQ.tear (hd : d = 2 ∨ d = 3) (h : RLQ d M) (hS : Sf d ac M0 M) (c : cTear s z M M1) (m : mTear s z2 M1 M2) : RLQ d M2 ∧ z = z2 := RLQ.two h hS (RLX.tear hd h.1 hS c m)
  (fun a i hc q => by
    have b15 := t_3_15 hS
    rcases c with ⟨-, -, e⟩ | ⟨-, -, -, -, -, e⟩
    · exact e a i hc
    · exact e a i hc (by omega))
  (fun a i hc q => by
    have b15 := t_3_15 hS
    rcases m with ⟨-, -, e⟩ | ⟨-, -, -, -, -, e⟩
    · exact e a i hc
    · exact e a i hc (by omega))
theorem RLQ.wri (hd : d = 2 ∨ d = 3) (h : RLQ d M) (hS : Sf d ac M0 M) (c : cWri s i v z M M1) (m : mWri s i v z2 M1 M2) : RLQ d M2 ∧ z = z2 := RLQ.two h hS (RLX.wri hd h.1 hS c m)
  (fun a i hc q => by
    have b15 := t_3_15 hS
    rcases c with ⟨-, -, e⟩ | ⟨-, -, -, -, e⟩ | ⟨-, -, -, -, -, e⟩ | ⟨-, -, -, -, -, -, e⟩
    · exact e a i hc
    · exact e a i hc
    · exact e a i hc
    · exact e a i hc (by omega))
  (fun a i hc q => by
    have b15 := t_3_15 hS
    rcases m with ⟨-, -, e⟩ | ⟨-, -, -, -, e⟩ | ⟨-, -, -, -, -, e⟩ | ⟨-, -, -, -, -, -, -, e⟩
    · exact e a i hc
    · exact e a i hc
    · exact e a i hc
    · exact e a i hc (by omega))
theorem RLQ.act (hd : d = 2 ∨ d = 3) (hr : (1 ≤ k ∧ k ≤ 3) → r = pw d k) (h : RLQ d M) (hS : Sf d ac M0 M) (c : cAct d k r s z M M1) (m : mAct d k r s z2 M1 M2) : RLQ d M2 ∧ z = z2 := RLQ.two h hS (RLX.act hd hr h.1 hS c m)
  (fun a i hc q => by
    have b15 := t_3_15 hS
    have b14 := t_3_14x hS
    rcases c with ⟨-, -, e⟩ | ⟨-, -, -, -, -, -, e⟩ | ⟨-, -, -, -, -, -, -, e⟩ | ⟨-, -, -, -, -, -, -, e⟩ | ⟨-, -, -, -, tm, -, -, -, -, -, e⟩
    · exact e a i hc
    · exact e a i hc
    · exact e a i hc
    · exact e a i hc
    · have t8 : M 3 14 < 8 := by
        unfold tooMany at tm
        omega
      exact e a i hc (by omega) (by omega))
  (fun a i hc q => by
    have b15 := t_3_15 hS
    rcases m with ⟨-, -, e⟩ | ⟨-, -, -, -, -, -, e⟩ | ⟨-, -, -, -, -, -, -, e⟩ | ⟨-, -, -, -, -, -, -, e⟩ | ⟨-, -, -, -, -, -, -, -, -, -, -, e⟩
    · exact e a i hc
    · exact e a i hc
    · exact e a i hc
    · exact e a i hc (by omega)
    · exact e a i hc (by omega) (by omega) (by omega))
theorem RLQ.rid (hd : d = 2 ∨ d = 3) (h : RLQ d M) (hS : Sf d ac M0 M) (c : cRid u z M M1) (m : mRid u z2 M1 M2) : RLQ d M2 ∧ z = z2 := RLQ.two h hS (RLX.rid hd h.1 hS c m)
  (fun a i hc q => by
    have b15 := t_3_15 hS
    rcases c with ⟨-, -, e⟩ | ⟨-, -, -, -, -, e⟩
    · exact e a i hc
    · exact e a i hc (by omega))
  (fun a i hc q => by
    have b15 := t_3_15 hS
    rcases m with ⟨-, -, e⟩ | ⟨-, -, -, -, -, e⟩
    · exact e a i hc
    · exact e a i hc (by omega))
theorem RLQ.ask (hd : d = 2 ∨ d = 3) (h : RLQ d M) (hS : Sf d ac M0 M) (c : cAsk l x y w z M M1) (m : mAsk l x y w z2 M1 M2) : RLQ d M2 ∧ z = z2 := RLQ.two h hS (RLX.ask hd h.1 hS c m)
  (fun a i hc q => by
    have b15 := t_3_15 hS
    rcases c with ⟨-, -, e⟩ | ⟨-, -, -, -, -, e⟩ | ⟨-, -, -, -, -, -, e⟩
    · exact e a i hc
    · exact e a i hc
    · exact e a i hc (by omega) (by omega))
  (fun a i hc q => by
    have b15 := t_3_15 hS
    rcases m with ⟨-, -, e⟩ | ⟨-, -, -, -, -, e⟩ | ⟨-, -, -, -, -, -, e⟩
    · exact e a i hc
    · exact e a i hc
    · exact e a i hc (by omega) (by omega) (by omega))
theorem RLQ.fre {e : Int} (h : RLQ d M) (h14 : M1 3 14 = 0) (c : cFre M M1 ∧ M1 3 17 = 0) (m : mFre M1 M2 ∧ M2 112 20 = -1) : RLQ e M2 := ⟨RLX.fre h.1 h14 c.1 m.1, fun k k1 w => by
  rw [m.1.2.2.2.2 3 17 (by unfold core; omega) (by omega), c.2] at w
  omega, fun k w q => by
  rw [m.2] at q
  omega⟩
theorem RLQ.law (hd : d = 2 ∨ d = 3) (h : RLQ d M) (hS : Sf d ac M0 M) (c : cLaw d k s z M M1 ∧ cLawR d z M1) (m : mLaw d k s z2 M1 M2) : RLQ d M2 ∧ z = z2 := by
  have q := RLX.law hd h.1 hS c m
  have b15 := t_3_15 hS
  have g7 : M 3 15 = M 112 7 := h.1.1.2.2.1.1
  refine ⟨⟨q.1, ?_⟩, q.2⟩
  have two : (Eqc M M1 ∨ (z = M 3 15 ∧ M1 3 15 = M 3 15 + 1 ∧ ∀ a i : Int, core a i → ¬ (a = 3 ∧ i = 15) → ¬ (79 + 2 * M 3 15 ≤ a ∧ a ≤ 79 + 2 * M 3 15 + 1) → M1 a i = M a i)) ∧ (Eqc M M1 → z < 0) := by
    rcases c.1 with ⟨-, z1, e⟩ | ⟨-, -, -, -, -, z1, e⟩ | ⟨-, -, -, -, -, -, z1, e⟩ | ⟨-, -, -, -, -, -, z1, e⟩ | ⟨-, -, -, -, p5, -, -, z1, e1, -, -, e⟩
    · exact ⟨Or.inl e, fun _ => by omega⟩
    · exact ⟨Or.inl e, fun _ => by omega⟩
    · exact ⟨Or.inl e, fun _ => by omega⟩
    · exact ⟨Or.inl e, fun _ => by have := rLawF.neg z1; omega⟩
    · exact ⟨Or.inr ⟨z1, e1, e⟩, fun y => by have y2 := y 3 15 (by unfold core; omega); omega⟩
  have mtwo : (Eqc M1 M2 ∨ (z2 = M1 112 7 ∧ M2 112 7 = M1 112 7 + 1 ∧ ∀ a i : Int, core a i → ¬ (a = 112 ∧ i = 7) → ¬ (a = 118 ∧ i = M1 112 7) → ¬ (a = 119 ∧ i = M1 112 7) → M2 a i = M1 a i)) ∧ (Eqc M1 M2 → z2 < 0) := by
    rcases m with ⟨-, z1, e⟩ | ⟨-, -, -, -, -, z1, e⟩ | ⟨-, -, -, -, -, -, z1, e⟩ | ⟨-, -, -, -, -, -, z1, e⟩ | ⟨-, -, -, -, p5, -, -, z1, e1, -, -, e⟩
    · exact ⟨Or.inl e, fun _ => by omega⟩
    · exact ⟨Or.inl e, fun _ => by omega⟩
    · exact ⟨Or.inl e, fun _ => by omega⟩
    · exact ⟨Or.inl e, fun _ => by have := rLawF.neg z1; omega⟩
    · exact ⟨Or.inr ⟨z1, e1, e⟩, fun y => by have y2 := y 112 7 (by unfold core; omega); omega⟩
  obtain ⟨t1, t2⟩ := two
  obtain ⟨u1, u2⟩ := mtwo
  have zz := q.2
  rcases t1 with e | ⟨z1, p15, e⟩
  · have zn := t2 e
    rcases u1 with f | ⟨y1, -, -⟩
    · exact h.2.of (by omega) (fun a i hc _ => (f a i hc).trans (e a i hc))
    · have r7 := e 112 7 (by unfold core; omega)
      omega
  · rcases u1 with f | ⟨y1, p7, f⟩
    · have := u2 f
      omega
    · have e7 := e 112 7 (by unfold core; omega) (by omega) (by omega)
      have ee : ∀ a i : Int, core a i → ¬ (a = 3 ∧ i = 15) → ¬ (79 + 2 * M 3 15 ≤ a ∧ a ≤ 79 + 2 * M 3 15 + 1) → ¬ (a = 112 ∧ i = 7) → ¬ (a = 118 ∧ i = M 112 7) → ¬ (a = 119 ∧ i = M 112 7) → M2 a i = M a i := fun a i hc w1 w2 w3 w4 w5 => (f a i hc w3 (by omega) (by omega)).trans (e a i hc w1 w2)
      have f15 : M2 3 15 = M 3 15 + 1 := (f 3 15 (by unfold core; omega) (by omega) (by omega) (by omega)).trans p15
      have f7 : M2 112 7 = M 112 7 + 1 := by rw [p7, e7]
      have c16 := ee 3 16 (by unfold core; omega) (by omega) (by omega) (by omega) (by omega) (by omega)
      have c17 := ee 3 17 (by unfold core; omega) (by omega) (by omega) (by omega) (by omega) (by omega)
      have c46 := ee 46 1 (by unfold core; omega) (by omega) (by omega) (by omega) (by omega) (by omega)
      have c20 := ee 112 20 (by unfold core; omega) (by omega) (by omega) (by omega) (by omega) (by omega)
      have c21 := ee 112 21 (by unfold core; omega) (by omega) (by omega) (by omega) (by omega) (by omega)
      have c22 := ee 112 22 (by unfold core; omega) (by omega) (by omega) (by omega) (by omega) (by omega)
      refine ⟨fun k k1 u => ?_, fun k u q => ?_⟩
      · rw [c17] at u
        obtain ⟨h1, h2, h3, h4⟩ := h.2.1 k k1 u
        rw [c46, c16, KNc.more f15 (kmask_b (by omega) h2 h3) (fun a i q => ee a i (by unfold core; omega) (by omega) (by omega) (by omega) (by omega) (by omega)), f15]
        exact ⟨h1, h2, pow_m h3 (by omega), h4.cg (fun m => KM.more f15 (kmask_b (by omega) h2 h3) (fun a i q => ee a i (by unfold core; omega) (by omega) (by omega) (by omega) (by omega) (by omega))) (fun i => ee 47 i (by unfold core; omega) (by omega) (by omega) (by omega) (by omega) (by omega))⟩
      · rw [c21] at u
        rw [c20] at q
        obtain ⟨h1, h3, h4⟩ := h.2.2 k u q
        rw [c22, c20, KNm.more f7 (kmask_b (by omega) q h3) (fun a i q1 q2 => ee a i (by unfold core; omega) (by omega) (by omega) (by omega) (by omega) (by omega)), f7]
        exact ⟨h1, pow_m h3 (by omega), h4.cg (fun c => KMm.more f7 (kmask_b (by omega) q h3) (fun a i q1 q2 => ee a i (by unfold core; omega) (by omega) (by omega) (by omega) (by omega) (by omega))) (fun i => ee 128 i (by unfold core; omega) (by omega) (by omega) (by omega) (by omega) (by omega)) c22⟩
theorem RLQ.kc {m : Int} (hd : d = 2 ∨ d = 3) (h : RLQ d M) (hS : Sf d ac M0 M) (c : cKp d k m M M1) : RLQ d M1 := by
  have b15 := t_3_15 hS
  obtain ⟨c1, c2, c3, c4, c5⟩ := c
  have kr := kmask_r (m := m) (n := M 3 15) (by omega)
  have e15 := c4 3 15 (Or.inl (by unfold core0; omega))
  refine ⟨h.1.of0 hd hS (fun a i q => c4 a i (Or.inl q)), fun k2 k1 w => ?_, fun k2 w q => ?_⟩
  · rw [c1] at w
    rw [c3, c2, e15, ← w, KNc.of (fun a i q => c4 a i (Or.inl (by unfold core0; omega)))]
    exact ⟨rfl, kr.1, kr.2.2, c5.cg (fun m => KM.of (fun a i q => c4 a i (Or.inl (by unfold core0; omega)))) (fun _ => rfl)⟩
  · rw [c4 112 21 (Or.inr (by omega))] at w
    rw [c4 112 20 (Or.inr (by omega))] at q
    rw [c4 112 22 (Or.inr (by omega)), c4 112 20 (Or.inr (by omega)), c4 112 7 (Or.inr (by omega)), KNm.of (fun a i q => c4 a i (Or.inr (by omega)))]
    obtain ⟨h1, h3, h4⟩ := h.2.2 k2 w q
    exact ⟨h1, h3, h4.cg (fun c => KMm.of (fun a i q => c4 a i (Or.inr (by omega)))) (fun i => c4 128 i (Or.inr (by omega))) (c4 112 22 (Or.inr (by omega)))⟩
theorem RLQ.mc {m : Int} (hd : d = 2 ∨ d = 3) (h : RLQ d M) (hS : Sf d ac M0 M) (c : mKp d k m M M1) : RLQ d M1 := by
  have b15 := t_3_15 hS
  have g7 : M 3 15 = M 112 7 := h.1.1.2.2.1.1
  obtain ⟨c1, c2, c3, c4, c5⟩ := c
  have kr := kmask_r (m := m) (n := M 112 7) (by omega)
  have e7 := c4 112 7 (Or.inl (by unfold core0; omega))
  refine ⟨h.1.of0 hd hS (fun a i q => c4 a i (Or.inl q)), fun k2 k1 w => ?_, fun k2 w q => ?_⟩
  · rw [c4 3 17 (Or.inr (by omega))] at w
    rw [c4 46 1 (Or.inr (by omega)), c4 3 16 (Or.inr (by omega)), c4 3 15 (Or.inl (by unfold core0; omega)), KNc.of (fun a i q => c4 a i (Or.inl (by unfold core0; omega)))]
    obtain ⟨h1, h2, h3, h4⟩ := h.2.1 k2 k1 w
    exact ⟨h1, h2, h3, h4.cg (fun m => KM.of (fun a i q => c4 a i (Or.inl (by unfold core0; omega)))) (fun i => c4 47 i (Or.inr (by omega)))⟩
  · rw [c1] at w
    rw [c3, c2, e7, ← w, KNm.of (fun a i q => c4 a i (Or.inl (by unfold core0; omega)))]
    exact ⟨rfl, kr.2.2, c5.cg (fun c => KMm.of (fun a i q => c4 a i (Or.inl (by unfold core0; omega)))) (fun _ => rfl) rfl⟩
theorem RLQ.ao {m : Int} (h : RLQ d M) (c : cKp d k m M M1) (c2 : z = M1 46 1) (r : mKp d k m M1 M2) (r2 : z2 = M2 112 22) : z = z2 := by
  have g7 : M 3 15 = M 112 7 := h.1.1.2.2.1.1
  have e7 := c.2.2.2.1 112 7 (Or.inr (by omega))
  rw [c2, c.2.2.1, r2, r.2.2.1, h.1.1.kn, e7, g7]
  exact (KNm.of (fun a i q => c.2.2.2.1 a i (Or.inr (by omega)))).symm
theorem RLQ.io {m : Int} (hN : 0 ≤ pn d (pw d k).toNat ∧ pn d (pw d k).toNat ≤ 19712) (h : RLQ d M) (c : cKp d k m M M1) (n : Nth M1 46 i z 19712) (r : mKp d k m M1 M2) (q : mLi i z2 M2) : z = z2 := by
  have g7 : M 3 15 = M 112 7 := h.1.1.2.2.1.1
  have e7 := c.2.2.2.1 112 7 (Or.inr (by omega))
  have en : M1 46 1 = M2 112 22 := RLQ.ao h c rfl r rfl
  have em : kmask m (M1 112 7) = kmask m (M 3 15) := by rw [e7, g7]
  have lk := r.2.2.2.2
  rw [em] at lk
  have eq1 : ∀ j : Int, 0 ≤ j → j < pn d (pw d k).toNat → wbt M1 47 j = bb (KMm d k (fun x => cdg d j x) (kmask m (M 3 15)) M1) := fun j j0 j1 => by
    rw [bits_eq (wbt_r M1 47) hN.2 c.2.2.2.2 j0 j1]
    exact bb_c (h.1.1.km.trans (KMm.of (fun a i q => c.2.2.2.1 a i (Or.inr (by omega)))).symm)
  rcases n with ⟨n1, n2⟩ | ⟨n1, n2, n3, n4, n5⟩
  · rcases q with ⟨q1, q2⟩ | ⟨q1, q2, q3⟩
    · rw [n2, q2]
    · omega
  · rcases q with ⟨q1, q2⟩ | ⟨q1, q2, q3⟩
    · omega
    · obtain ⟨y1, y2, y3⟩ := lk i q1 q2
      rw [← q3] at y1 y2 y3
      exact rank_uniq (f := wbt M1 47) (g := fun c => bb (KMm d k (fun x => cdg d c x) (kmask m (M 3 15)) M1)) (L := pn d (pw d k).toNat) (fun j => (wbt_r M1 47 j).1) eq1 n3.1 y1.1 y1.2 n4 (bb_t y2) (by rw [y3]; exact n5)
end
