/-! Narrowing: the reference's rounds. -/
def gj (d j : Int) : Int → Int := if j = 0 then wA d else if j = 1 then wB d else wC d
theorem dgt_w {d k r j : Int} (hd : d = 2 ∨ d = 3) (hk : 1 ≤ k ∧ k ≤ 3) (hj : 0 ≤ j ∧ j < k) (hr : 0 ≤ r ∧ r < pw d k) : gj d j (wd d k r) = dgt d k r j := by
  rcases hd with rfl | rfl <;> rcases (show k = 1 ∨ k = 2 ∨ k = 3 by omega) with rfl | rfl | rfl
  · have hr : 0 ≤ r ∧ r < 2 := hr
    obtain rfl : j = 0 := by omega
    show (r * 7) / (2 * 2) = r / 1 % 2
    rw [(wq_21 hr).1]
    omega
  · have hr : 0 ≤ r ∧ r < 4 := hr
    rcases (show j = 0 ∨ j = 1 by omega) with rfl | rfl
    · show (r * 2 + r % 2) / (2 * 2) = r / 2 % 2
      rw [(wq_22 hr).1]
    · show (r * 2 + r % 2) / 2 % 2 = r / 1 % 2
      rw [(wq_22 hr).2.1]
      omega
  · have hr : 0 ≤ r ∧ r < 8 := hr
    rcases (show j = 0 ∨ j = 1 ∨ j = 2 by omega) with rfl | rfl | rfl
    · show r / (2 * 2) = r / 4 % 2
      omega
    · show r / 2 % 2 = r / 2 % 2
      rfl
    · show r % 2 = r / 1 % 2
      omega
  · have hr : 0 ≤ r ∧ r < 3 := hr
    obtain rfl : j = 0 := by omega
    show (r * 13) / (3 * 3) = r / 1 % 3
    rw [(wq_31 hr).1]
    omega
  · have hr : 0 ≤ r ∧ r < 9 := hr
    rcases (show j = 0 ∨ j = 1 by omega) with rfl | rfl
    · show (r * 3 + r % 3) / (3 * 3) = r / 3 % 3
      rw [(wq_32 hr).1]
    · show (r * 3 + r % 3) / 3 % 3 = r / 1 % 3
      rw [(wq_32 hr).2.1]
      omega
  · have hr : 0 ≤ r ∧ r < 27 := hr
    rcases (show j = 0 ∨ j = 1 ∨ j = 2 by omega) with rfl | rfl | rfl
    · show r / (3 * 3) = r / 9 % 3
      omega
    · show r / 3 % 3 = r / 3 % 3
      rfl
    · show r % 3 = r / 1 % 3
      omega
def SupR (d : Int) (D u : Int → Int) (k s j t : Int) : Prop := ∃ r : Int, 0 ≤ r ∧ r < pw d k ∧ bt s r ∧ FT d D u k r k ∧ dgt d k r j = t
def mNCj (d : Int) (D u : Int → Int) (k s j : Int) : Prop := ∀ t : Int, 0 ≤ t → t < d → bt (D (u j)) t → SupR d D u k s j t
def mNCq (d : Int) (D u : Int → Int) (k s : Int) : Prop := ∀ j : Int, 0 ≤ j → j < k → mNCj d D u k s j
def SJ (d : Int) (D u : Int → Int) (k s j x n : Int) : Prop := ∀ t : Int, 0 ≤ t → t ≤ 26 → (bt x t ↔ ∃ r : Int, 0 ≤ r ∧ r < n ∧ bt s r ∧ FT d D u k r k ∧ dgt d k r j = t)
section
variable {d k s j x n a : Int} {D E u : Int → Int}
theorem SJ.init : SJ d D u k s j 0 0 := fun t _ _ => ⟨fun h => absurd h (bt_0 t), fun ⟨r, r0, r1, _⟩ => by omega⟩
theorem SJ.skip (h : SJ d D u k s j x n) (q : ¬ (bt s n ∧ FT d D u k n k)) : SJ d D u k s j x (n + 1) := fun t t0 t1 => by
  rw [h t t0 t1]
  constructor
  · rintro ⟨r, r0, r1, y⟩
    exact ⟨r, r0, by omega, y⟩
  · rintro ⟨r, r0, r1, b, f, y⟩
    by_cases v : r = n
    · rw [v] at b f
      exact absurd ⟨b, f⟩ q
    · exact ⟨r, r0, by omega, b, f, y⟩
theorem SJ.add (h : SJ d D u k s j x n) (hn : 0 ≤ n) (hx : 0 ≤ x ∧ x ≤ 134217727) (ha : 0 ≤ a ∧ a ≤ 26) (e : a = dgt d k n j) (b : bt s n) (f : FT d D u k n k) : SJ d D u k s j (n_or x (n_shl 1 a)) (n + 1) := fun t t0 t1 => by
  rw [bt_or hx ha t0, h t t0 t1]
  constructor
  · rintro (⟨r, r0, r1, y⟩ | y)
    · exact ⟨r, r0, by omega, y⟩
    · exact ⟨n, hn, by omega, b, f, by rw [y, e]⟩
  · rintro ⟨r, r0, r1, b2, f2, y⟩
    by_cases v : r = n
    · rw [v] at y
      exact Or.inr (by rw [e, y])
    · exact Or.inl ⟨r, r0, by omega, b2, f2, y⟩
theorem FT.mono {r : Int} (hd : d = 2 ∨ d = 3) (h : FT d E u k r n) (e : ∀ i : Int, 0 ≤ i → i < n → sub27 (E (u i)) (D (u i))) : FT d D u k r n := fun i i0 i1 => by
  have y := h i i0 i1
  have w : 0 ≤ dgt d k r i ∧ dgt d k r i ≤ 26 := by
    unfold dgt
    rcases hd with rfl | rfl <;> omega
  exact ⟨e i i0 i1 _ w.1 w.2 y.1, y.2⟩
theorem SJ.sub (hd : d = 2 ∨ d = 3) (h : SJ d D u k s j x (pw d k)) {c : Int} (hc : 0 ≤ c ∧ c ≤ alld d) (ec : E (u j) = c) (e : ∀ i : Int, 0 ≤ i → i < k → sub27 (E (u i)) (D (u i))) (q : mNCj d E u k s j) : sub27 c x := fun t t0 t1 ht => by
  have td := Dbit hd hc ⟨t0, t1⟩ ht
  rw [← ec] at ht
  obtain ⟨r, r0, r1, b, f, y⟩ := q t t0 td ht
  exact (h t t0 t1).mpr ⟨r, r0, r1, b, f.mono hd e, y⟩
end
theorem cut0a : ∀ c : Nat, c < 8 → ∀ s : Nat, s < 8 → n_and (c : Int) (n_xor (s : Int) (-1)) = 0 → n_and (c : Int) (s : Int) = (c : Int) := by decide +kernel
theorem cut0 {c s : Int} (hc : 0 ≤ c ∧ c ≤ 7) (hs : 0 ≤ s ∧ s ≤ 7) (h : n_and c (n_xor s (-1)) = 0) : n_and c s = c := by
  obtain ⟨a, rfl⟩ : ∃ a : Nat, c = a := ⟨c.toNat, by omega⟩
  obtain ⟨b, rfl⟩ : ∃ b : Nat, s = b := ⟨s.toNat, by omega⟩
  exact cut0a a (by omega) b (by omega) h
def mNC (d : Int) (M : nM) (D : Int → Int) (q : Int) : Prop := mNCq d D (fun j => M 121 (3 * q + j)) (M 118 (M 120 q)) (M 119 (M 120 q))
def mNCi (d : Int) (M : nM) (D : Int → Int) (q j : Int) : Prop := mNCj d D (fun j => M 121 (3 * q + j)) (M 118 (M 120 q)) (M 119 (M 120 q)) j
def mGND (d : Int) (M : nM) (D : Int → Int) : Prop := Dok d (M 112 10) D ∧ (∀ q : Int, 0 ≤ q → q < M 112 11 → mNC d M D q) ∧ ∀ E : Int → Int, Dok d (M 112 10) E → (∀ q : Int, 0 ≤ q → q < M 112 11 → mNC d M E q) → ∀ u : Int, 0 ≤ u → u < M 112 10 → sub27 (E u) (D u)
def mNI (d : Int) (Ms M : nM) : Prop := (∀ a i : Int, a ≠ 129 → M a i = Ms a i) ∧ Dok d (Ms 112 10) (fun v => M 129 v) ∧ ∀ E : Int → Int, Dok d (Ms 112 10) E → (∀ q : Int, 0 ≤ q → q < Ms 112 11 → mNC d Ms E q) → ∀ u : Int, 0 ≤ u → u < Ms 112 10 → sub27 (E u) (M 129 u)
section
variable {d q j x c : Int} {Ms M M2 : nM}
theorem mNI.init (hd : d = 2 ∨ d = 3) (f : ∀ a i : Int, a ≠ 129 → M a i = Ms a i) (e : ∀ v : Int, 0 ≤ v → v < Ms 112 10 → M 129 v = alld d) : mNI d Ms M := by
  have ar := alld_r hd
  refine ⟨f, fun u u0 u1 => ?_, fun E e1 _ u u0 u1 y y0 y1 w => ?_⟩
  · show 0 ≤ M 129 u ∧ M 129 u ≤ alld d
    rw [e u u0 u1]
    omega
  · rw [e u u0 u1]
    have yd := Dbit hd (e1 u u0 u1) ⟨y0, y1⟩ w
    obtain ⟨m, rfl⟩ : ∃ m : Nat, y = m := ⟨y.toNat, by omega⟩
    rcases hd with rfl | rfl
    · exact bt_tb.mpr ((allbit 2 (by omega) m (by omega)).mpr (by omega))
    · exact bt_tb.mpr ((allbit 3 (by omega) m (by omega)).mpr (by omega))
theorem mNI.step (hd : d = 2 ∨ d = 3) (h : mNI d Ms M) (hq : 0 ≤ q ∧ q < Ms 112 11) (hj : 0 ≤ j ∧ j < Ms 118 (Ms 120 q)) (hp : ∀ i : Int, 0 ≤ i → i < Ms 118 (Ms 120 q) → 0 ≤ Ms 121 (3 * q + i) ∧ Ms 121 (3 * q + i) < Ms 112 10) (hx : 0 ≤ x ∧ x ≤ 7) (hs : SJ d (fun v => M 129 v) (fun j => Ms 121 (3 * q + j)) (Ms 118 (Ms 120 q)) (Ms 119 (Ms 120 q)) j x (pw d (Ms 118 (Ms 120 q)))) (hc : c = Ms 121 (3 * q + j)) (e : M2 = nu M 129 c (n_and (M 129 c) x)) : mNI d Ms M2 := by
  have ar := alld_r hd
  obtain ⟨h1, h2, h3⟩ := h
  have cu := hp j hj.1 hj.2
  rw [← hc] at cu
  have dc : 0 ≤ M 129 c ∧ M 129 c ≤ alld d := h2 c cu.1 cu.2
  have nx := n_and_x (x := M 129 c) (y := x) (by omega)
  refine ⟨fun a i ha => by rw [e, nu_a ha]; exact h1 a i ha, fun u u0 u1 => ?_, fun E e1 e2 u u0 u1 => ?_⟩
  · show 0 ≤ M2 129 u ∧ M2 129 u ≤ alld d
    by_cases v : u = c
    · rw [v, e, nu_s]
      omega
    · rw [e, nu_i v]
      exact h2 u u0 u1
  · have old := h3 E e1 e2 u u0 u1
    by_cases v : u = c
    · have s27 := SJ.sub hd hs (E := E) (e1 c cu.1 cu.2) (by show E (Ms 121 (3 * q + j)) = E c; rw [hc]) (fun i i0 i1 => h3 E e1 e2 _ (hp i i0 i1).1 (hp i i0 i1).2) (e2 q hq.1 hq.2 j hj.1 hj.2)
      rw [v] at old ⊢
      rw [e, nu_s]
      exact fun y y0 y1 w => (bt_and (by omega) (by omega) y0).mpr ⟨old y y0 y1 w, s27 y y0 y1 w⟩
    · rw [e, nu_i v]
      exact old
theorem mNI.same (e : M2 = nu M 129 c (n_and (M 129 c) x)) (y : n_and (M 129 c) x = M 129 c) : (fun v => M2 129 v) = fun v => M 129 v := funext fun v => by
  by_cases w : v = c
  · rw [w, e, nu_s, y]
  · rw [e, nu_i w]
theorem mNI.nc (hd : d = 2 ∨ d = 3) (h : mNI d Ms M) (cu : 0 ≤ c ∧ c < Ms 112 10) (hx : 0 ≤ x ∧ x ≤ 7) (hs : SJ d (fun v => M 129 v) (fun j => Ms 121 (3 * q + j)) (Ms 118 (Ms 120 q)) (Ms 119 (Ms 120 q)) j x (pw d (Ms 118 (Ms 120 q)))) (hc : c = Ms 121 (3 * q + j)) (y : n_and (M 129 c) x = M 129 c) : mNCi d Ms (fun v => M 129 v) q j := fun t t0 t1 w => by
  have ar := alld_r hd
  have dc : 0 ≤ M 129 c ∧ M 129 c ≤ alld d := h.2.1 c cu.1 cu.2
  have w : bt (M 129 (Ms 121 (3 * q + j))) t := w
  rw [← hc, ← y] at w
  have w2 := ((bt_and (by omega) (by omega) t0).mp w).2
  exact (hs t t0 (by omega)).mp w2
theorem mNI.gnd (h : mNI d Ms M) (n : ∀ q : Int, 0 ≤ q → q < Ms 112 11 → mNC d Ms (fun v => M 129 v) q) : mGND d Ms (fun v => M 129 v) := ⟨h.2.1, n, h.2.2⟩
end
theorem FT_fr {d q r : Int} {D : Int → Int} {Ms M : nM} (e : ∀ a i : Int, a ≠ 129 → M a i = Ms a i) : FT d D (fun j => M 121 (3 * q + j)) (M 118 (M 120 q)) r (M 118 (M 120 q)) ↔ FT d D (fun j => Ms 121 (3 * q + j)) (Ms 118 (Ms 120 q)) r (Ms 118 (Ms 120 q)) := by
  have e1 : (fun j => M 121 (3 * q + j)) = fun j => Ms 121 (3 * q + j) := funext fun j => e 121 _ (by omega)
  rw [e1, e 120 q (by omega), e 118 _ (by omega)]
/-! both sides -/
theorem NCq_eq {d k s w c : Int} {r : Int → Int} {D u : Int → Int} (hd : d = 2 ∨ d = 3) (hk : 1 ≤ k ∧ k ≤ 3) (hL : LRn d k s (pw d k) w c r) : NCq d D (u 0) (y2 k u) (y3 k u) w ↔ mNCq d D u k s := by
  have key : ∀ j t : Int, 0 ≤ j → j < k → (SupN d D (u 0) (y2 k u) (y3 k u) w (gj d j) t ↔ SupR d D u k s j t) := fun j t j0 j1 => by
    have hp := (pw_r hd hk).2.2
    constructor
    · rintro ⟨y, y0, y1, b, g, o⟩
      obtain ⟨n, n0, n1, hn, en⟩ := (hL.2.2.2.2 y y0 (by omega)).mp b
      rw [en] at g o
      exact ⟨n, n0, n1, hn, (FT_W hd hk ⟨n0, n1⟩).mpr o, by rw [← dgt_w hd hk ⟨j0, j1⟩ ⟨n0, n1⟩]; exact g⟩
    · rintro ⟨n, n0, n1, hn, f, g⟩
      have wr := wd_r hd hk ⟨n0, n1⟩
      exact ⟨wd d k n, wr.1, wr.2.1, (hL.bit hd hk ⟨n0, n1⟩).mpr hn, by rw [dgt_w hd hk ⟨j0, j1⟩ ⟨n0, n1⟩]; exact g, (FT_W hd hk ⟨n0, n1⟩).mp f⟩
  have w2 : k = 1 → ∀ t : Int, SupN d D (u 0) (y2 k u) (y3 k u) w (wA d) t → SupN d D (u 0) (y2 k u) (y3 k u) w (wB d) t ∧ SupN d D (u 0) (y2 k u) (y3 k u) w (wC d) t := fun k1 t => by
    rintro ⟨y, y0, y1, b, g, o⟩
    have o1 := o
    obtain ⟨q1, q2, q3, q4, q5, q6⟩ := o1
    have a1 : wA d y = wB d y := q4 (by unfold y2; rw [if_neg (by omega)])
    have a2 : wA d y = wC d y := q6 (by unfold y3 y2; rw [if_neg (by omega), if_neg (by omega)])
    exact ⟨⟨y, y0, y1, b, by rw [← a1]; exact g, o⟩, ⟨y, y0, y1, b, by rw [← a2]; exact g, o⟩⟩
  have w3 : k = 2 → ∀ t : Int, SupN d D (u 0) (y2 k u) (y3 k u) w (wB d) t → SupN d D (u 0) (y2 k u) (y3 k u) w (wC d) t := fun k1 t => by
    rintro ⟨y, y0, y1, b, g, o⟩
    have o1 := o
    obtain ⟨q1, q2, q3, q4, q5, q6⟩ := o1
    have a1 : wB d y = wC d y := q5 (by unfold y3; rw [if_neg (by omega)])
    exact ⟨y, y0, y1, b, by rw [← a1]; exact g, o⟩
  constructor
  · intro h j j0 j1 t t0 t1 b
    obtain ⟨h1, h2, h3⟩ := h t t0 t1
    rcases (show j = 0 ∨ j = 1 ∨ j = 2 by omega) with rfl | rfl | rfl
    · exact (key 0 t (by omega) j1).mp (h1 b)
    · exact (key 1 t (by omega) j1).mp (h2 (by unfold y2; rw [if_pos j1]; exact b))
    · exact (key 2 t (by omega) j1).mp (h3 (by unfold y3; rw [if_pos j1]; exact b))
  · intro h t t0 t1
    have g0 : bt (D (u 0)) t → SupN d D (u 0) (y2 k u) (y3 k u) w (wA d) t := fun b => (key 0 t (by omega) (by omega)).mpr (h 0 (by omega) (by omega) t t0 t1 b)
    rcases (show k = 1 ∨ k = 2 ∨ k = 3 by omega) with e | e | e
    · have e2 : y2 k u = u 0 := by unfold y2; rw [if_neg (by omega)]
      have e3 : y3 k u = u 0 := by unfold y3 y2; rw [if_neg (by omega), if_neg (by omega)]
      exact ⟨g0, fun b => by rw [e2] at b; exact (w2 e t (g0 b)).1, fun b => by rw [e3] at b; exact (w2 e t (g0 b)).2⟩
    · have e2 : y2 k u = u 1 := by unfold y2; rw [if_pos (by omega)]
      have e3 : y3 k u = u 1 := by unfold y3 y2; rw [if_neg (by omega), if_pos (by omega)]
      have g1 : bt (D (u 1)) t → SupN d D (u 0) (y2 k u) (y3 k u) w (wB d) t := fun b => (key 1 t (by omega) (by omega)).mpr (h 1 (by omega) (by omega) t t0 t1 b)
      exact ⟨g0, fun b => by rw [e2] at b; exact g1 b, fun b => by rw [e3] at b; exact w3 e t (g1 b)⟩
    · have e2 : y2 k u = u 1 := by unfold y2; rw [if_pos (by omega)]
      have e3 : y3 k u = u 2 := by unfold y3; rw [if_pos (by omega)]
      have g1 : bt (D (u 1)) t → SupN d D (u 0) (y2 k u) (y3 k u) w (wB d) t := fun b => (key 1 t (by omega) (by omega)).mpr (h 1 (by omega) (by omega) t t0 t1 b)
      have g2 : bt (D (u 2)) t → SupN d D (u 0) (y2 k u) (y3 k u) w (wC d) t := fun b => (key 2 t (by omega) (by omega)).mpr (h 2 (by omega) (by omega) t t0 t1 b)
      exact ⟨g0, fun b => by rw [e2] at b; exact g1 b, fun b => by rw [e3] at b; exact g2 b⟩
theorem RLK.nc {d : Int} {M : nM} {D : Int → Int} (hd : d = 2 ∨ d = 3) (h : RLK d M) : NCs d M D (M 32 1) ↔ ∀ q : Int, 0 ≤ q → q < M 112 11 → mNC d M D q := by
  have g11 : M 32 1 = M 112 11 := h.1.1.2.2.2.2
  have key : ∀ i : Int, 0 ≤ i → i < M 32 1 → (NCq d D (M 34 i) (M 35 i) (M 36 i) (M (79 + 2 * M 33 i) 2) ↔ mNC d M D i) := fun i i0 i1 => by
    obtain ⟨a1, a2, a3, a4, a5⟩ := h.2 i i0 i1
    have hl := h.1.1.2.2.1.2 (M 120 i) a2.1 a2.2
    obtain ⟨⟨hk, hL⟩, -⟩ := h.1.2 (M 120 i) a2.1 a2.2
    rw [hl.1] at hk hL
    have e1 : M 34 i = (fun j => M 121 (3 * i + j)) 0 := by rw [a3]; show _ = M 121 (3 * i + 0); rw [Int.add_zero]
    have e2 : M 35 i = y2 (M 118 (M 120 i)) (fun j => M 121 (3 * i + j)) := by rw [a4]; unfold y2; show _ = if 1 < _ then _ else M 121 (3 * i + 0); rw [Int.add_zero]
    have e3 : M 36 i = y3 (M 118 (M 120 i)) (fun j => M 121 (3 * i + j)) := by rw [a5, e2]; rfl
    have key2 := NCq_eq (D := D) (u := fun j => M 121 (3 * i + j)) hd hk hL
    rw [hl.2] at key2
    rw [e1, e2, e3, a1]
    exact key2
  rw [← g11]
  exact ⟨fun u q q0 q1 => (key q q0 q1).mp (u q q0 q1), fun u q q0 q1 => (key q q0 q1).mpr (u q q0 q1)⟩
theorem RLK.gnd {d : Int} {M : nM} {D : Int → Int} (hd : d = 2 ∨ d = 3) (h : RLK d M) : GND d M D ↔ mGND d M D := by
  have g10 : M 32 0 = M 112 10 := h.1.1.2.2.2.1
  unfold GND mGND
  rw [g10, h.nc hd]
  constructor
  · rintro ⟨a, b, c⟩
    exact ⟨a, b, fun E e1 e2 => c E e1 ((h.nc hd).mpr e2)⟩
  · rintro ⟨a, b, c⟩
    exact ⟨a, b, fun E e1 e2 => c E e1 ((h.nc hd).mp e2)⟩
def mNa (d u z : Int) (M : nM) : Prop := ((u < 0 ∨ M 112 10 ≤ u) ∧ z = -1) ∨ (0 ≤ u ∧ u < M 112 10 ∧ ∃ D : Int → Int, mGND d M D ∧ z = D u)
theorem mGND.of {d : Int} {M M1 : nM} {D : Int → Int} (k : Eqc M M1) (h : mGND d M1 D) : mGND d M D := by
  have kk : ∀ (E : Int → Int) (q : Int), mNC d M1 E q ↔ mNC d M E q := fun E q => by
    unfold mNC
    have e121 : (fun j => M1 121 (3 * q + j)) = fun j => M 121 (3 * q + j) := funext fun j => k 121 _ (by unfold core; omega)
    rw [e121, k 120 q (by unfold core; omega), k 119 _ (by unfold core; omega), k 118 _ (by unfold core; omega)]
  unfold mGND at h ⊢
  rw [k 112 10 (by unfold core; omega), k 112 11 (by unfold core; omega)] at h
  exact ⟨h.1, fun q q0 q1 => (kk D q).mp (h.2.1 q q0 q1), fun E e1 e2 => h.2.2 E e1 (fun q q0 q1 => (kk E q).mpr (e2 q q0 q1))⟩
theorem RLK.na {d ac u z z2 : Int} {M0 M M1 : nM} (hd : d = 2 ∨ d = 3) (h : RLK d M) (hS : Sf d ac M0 M) (c : cNa d u z M) (e : Eqc M M1) (m : mNa d u z2 M1) : z = z2 := by
  have g10 : M 32 0 = M 112 10 := h.1.1.2.2.2.1
  have e10 := e 112 10 (by unfold core; omega)
  rcases c with ⟨c1, c2⟩ | ⟨c1, c2, D, c3, c4⟩
  · rcases m with ⟨m1, m2⟩ | ⟨m1, m2, -⟩
    · rw [c2, m2]
    · omega
  · rcases m with ⟨m1, m2⟩ | ⟨m1, m2, E, m3, m4⟩
    · omega
    · rw [c4, m4]
      exact GND.uniq hd c3 ((h.gnd hd).mpr (m3.of e)) c1 c2
theorem RLK.hq1 {d : Int} {M : nM} (h : RLK d M) : ∀ q : Int, 0 ≤ q → q < M 112 11 → 1 ≤ M 118 (M 120 q) := fun q q0 q1 => by
  have g11 : M 32 1 = M 112 11 := h.1.1.2.2.2.2
  have g7 : M 3 15 = M 112 7 := h.1.1.2.2.1.1
  obtain ⟨a1, a2, a3, a4, a5⟩ := h.2 q q0 (by omega)
  exact RLX.hlp h.1 (M 120 q) a2.1 (by omega)
