/-! The signs of acts of two things. -/
def NF (f : Int → Int) (r : Int) : Prop := ∀ x p : Int, 0 ≤ x → x < r → (p = 1 ∨ p = 2 ∨ p = 4) → p < r → f x ≤ f (n_or x p)
def RI (f : Int → Int) (r : Int) : Prop := ∀ x y : Int, 0 ≤ x → x < r → 0 ≤ y → y < r → n_and x y = x → f x ≤ f y
def TO (f : Int → Int) (r : Int) : Prop := ∀ x : Int, 0 ≤ x → x < r → f x ≠ f (r - 1 - x)
def csP (f : Int → Int) (r x s p : Int) : Int := if p < r then (if n_and x p = 0 then s else n_xor s (n_xor (f p) (f 0))) else s
def SC (f : Int → Int) (r : Int) : Prop := ∀ x : Int, 0 ≤ x → x < r → csP f r x (csP f r x (csP f r x (f 0) 1) 2) 4 = f x
def pvb (v b : Int) : Int := (v + b % 2 + b / 2 % 2 + b / 4 % 2) % 2
def RS (f : Int → Int) (r : Int) : Prop := ∃ some more : Int, 0 ≤ some ∧ some < r ∧ 0 ≤ more ∧ more < 2 ∧ ∀ x : Int, 0 ≤ x → x < r → pvb more (n_and x some) = f x
theorem pvb_a : ∀ v : Nat, v < 2 → ∀ b : Nat, b < 8 → pvb (n_xor (v : Int) (n_and (b : Int) 1)) (n_shr (b : Int) 1) = pvb v b := by decide +kernel
theorem pvb_step {v b : Int} (hv : 0 ≤ v ∧ v ≤ 1) (hb : 0 ≤ b ∧ b ≤ 7) : pvb (n_xor v (n_and b 1)) (n_shr b 1) = pvb v b := by
  obtain ⟨n, rfl⟩ : ∃ n : Nat, v = n := ⟨v.toNat, by omega⟩
  obtain ⟨m, rfl⟩ : ∃ m : Nat, b = m := ⟨b.toNat, by omega⟩
  exact pvb_a n (by omega) m (by omega)
theorem pvb_0 {v : Int} (hv : 0 ≤ v ∧ v ≤ 1) : pvb v 0 = v := by
  rcases (show v = 0 ∨ v = 1 by omega) with rfl | rfl <;> rfl
/-- 1 if it is so, else 0 -/
noncomputable def bb (P : Prop) : Int := @ite Int P (Classical.propDecidable P) 1 0
theorem bb_t {P : Prop} (h : P) : bb P = 1 := by
  unfold bb
  exact if_pos h
theorem bb_f {P : Prop} (h : ¬ P) : bb P = 0 := by
  unfold bb
  exact if_neg h
theorem bb_r (P : Prop) : bb P = 0 ∨ bb P = 1 := by
  by_cases h : P
  · exact Or.inr (bb_t h)
  · exact Or.inl (bb_f h)
theorem bb_n {P : Prop} (h : bb P ≠ 0) : P := by
  by_cases q : P
  · exact q
  · exact absurd (bb_f q) h
theorem bb_z {P : Prop} (h : bb P = 0) : ¬ P := fun q => by
  rw [bb_t q] at h
  omega
theorem bb_c {P Q : Prop} (h : P ↔ Q) : bb P = bb Q := by
  by_cases q : P
  · rw [bb_t q, bb_t (h.mp q)]
  · rw [bb_f q, bb_f (fun u => q (h.mpr u))]
/-- the signs of a table f with r rows -/
noncomputable def sgc (f : Int → Int) (r : Int) : Int := bb (f 0 = 0) + 2 * bb (f (r - 1) = 1) + 4 * bb (NF f r) + 8 * bb (TO f r) + 16 * bb (SC f r)
noncomputable def sgm (f : Int → Int) (r : Int) : Int := bb (f 0 = 0) + 2 * bb (f (r - 1) = 1) + 4 * bb (RI f r) + 8 * bb (TO f r) + 16 * bb (RS f r)
theorem or_1 : ∀ p : Nat, p < 5 → ∀ x : Nat, x < 8 → (p = 1 ∨ p = 2 ∨ p = 4 → n_and (x : Int) (n_or (x : Int) (p : Int)) = x) := by decide +kernel
theorem or_2 : ∀ p : Nat, p < 5 → ∀ x : Nat, x < 8 → (0 ≤ n_or (x : Int) (p : Int) ∧ n_or (x : Int) (p : Int) < 8) := by decide +kernel
theorem or_3 : ∀ p : Nat, p < 2 → ∀ x : Nat, x < 2 → n_or (x : Int) (p : Int) < 2 := by decide +kernel
theorem or_4 : ∀ p : Nat, p < 4 → ∀ x : Nat, x < 4 → n_or (x : Int) (p : Int) < 4 := by decide +kernel
theorem or_a (x : Nat) (hx : x < 8) (p : Nat) (hp : p = 1 ∨ p = 2 ∨ p = 4) : n_and (x : Int) (n_or (x : Int) (p : Int)) = x ∧ 0 ≤ n_or (x : Int) (p : Int) ∧ (∀ r : Nat, (r = 2 ∨ r = 4 ∨ r = 8) → x < r → p < r → n_or (x : Int) (p : Int) < r) := by
  refine ⟨or_1 p (by omega) x hx hp, (or_2 p (by omega) x hx).1, fun r hr h1 h2 => ?_⟩
  rcases hr with rfl | rfl | rfl
  · exact or_3 p h2 x h1
  · exact or_4 p h2 x h1
  · exact (or_2 p (by omega) x hx).2
theorem NF_RI {f : Int → Int} {r : Int} (hr : r = 2 ∨ r = 4 ∨ r = 8) : NF f r ↔ RI f r := by
  constructor
  · intro h x y x0 x1 y0 y1 hxy
    have g : ∀ a p b : Int, 0 ≤ a → a < r → (p = 1 ∨ p = 2 ∨ p = 4) → p < r → n_or a p = b → f a ≤ f b := fun a p b h0 h1 h2 h3 e => by
      rw [← e]
      exact h a p h0 h1 h2 h3
    have q : x < 8 ∧ y < 8 := by omega
    have hs : ∀ x : Nat, x < 8 → ∀ y : Nat, y < 8 → n_and (x : Int) (y : Int) = x → n_or (n_or (n_or (x : Int) (n_and y 1)) (n_and y 2)) (n_and y 4) = y := by decide +kernel
    have e1 : 2 ≤ r := by omega
    rcases hr with rfl | rfl | rfl
    · rcases (show x = 0 ∨ x = 1 by omega) with rfl | rfl <;> rcases (show y = 0 ∨ y = 1 by omega) with rfl | rfl
      · omega
      · exact g 0 1 1 (by omega) (by omega) (by omega) (by omega) (by decide)
      · exact absurd hxy (by decide)
      · omega
    · have a1 := g 0 1 1 (by omega) (by omega) (by omega) (by omega) (by decide)
      have a2 := g 0 2 2 (by omega) (by omega) (by omega) (by omega) (by decide)
      have a3 := g 1 2 3 (by omega) (by omega) (by omega) (by omega) (by decide)
      have a4 := g 2 1 3 (by omega) (by omega) (by omega) (by omega) (by decide)
      rcases (show x = 0 ∨ x = 1 ∨ x = 2 ∨ x = 3 by omega) with rfl | rfl | rfl | rfl <;> rcases (show y = 0 ∨ y = 1 ∨ y = 2 ∨ y = 3 by omega) with rfl | rfl | rfl | rfl <;> first | omega | exact absurd hxy (by decide)
    · have a1 := g 0 1 1 (by omega) (by omega) (by omega) (by omega) (by decide)
      have a2 := g 0 2 2 (by omega) (by omega) (by omega) (by omega) (by decide)
      have a3 := g 1 2 3 (by omega) (by omega) (by omega) (by omega) (by decide)
      have a4 := g 2 1 3 (by omega) (by omega) (by omega) (by omega) (by decide)
      have a5 := g 0 4 4 (by omega) (by omega) (by omega) (by omega) (by decide)
      have a6 := g 1 4 5 (by omega) (by omega) (by omega) (by omega) (by decide)
      have a7 := g 2 4 6 (by omega) (by omega) (by omega) (by omega) (by decide)
      have a8 := g 3 4 7 (by omega) (by omega) (by omega) (by omega) (by decide)
      have a9 := g 4 1 5 (by omega) (by omega) (by omega) (by omega) (by decide)
      have a10 := g 4 2 6 (by omega) (by omega) (by omega) (by omega) (by decide)
      have a11 := g 5 2 7 (by omega) (by omega) (by omega) (by omega) (by decide)
      have a12 := g 6 1 7 (by omega) (by omega) (by omega) (by omega) (by decide)
      rcases (show x = 0 ∨ x = 1 ∨ x = 2 ∨ x = 3 ∨ x = 4 ∨ x = 5 ∨ x = 6 ∨ x = 7 by omega) with rfl | rfl | rfl | rfl | rfl | rfl | rfl | rfl <;> rcases (show y = 0 ∨ y = 1 ∨ y = 2 ∨ y = 3 ∨ y = 4 ∨ y = 5 ∨ y = 6 ∨ y = 7 by omega) with rfl | rfl | rfl | rfl | rfl | rfl | rfl | rfl <;> first | omega | exact absurd hxy (by decide)
  · intro h x p x0 x1 hp hpr
    obtain ⟨n, rfl⟩ : ∃ n : Nat, x = n := ⟨x.toNat, by omega⟩
    obtain ⟨q, rfl⟩ : ∃ q : Nat, p = q := ⟨p.toNat, by omega⟩
    obtain ⟨t, rfl⟩ : ∃ t : Nat, r = t := ⟨r.toNat, by omega⟩
    obtain ⟨a1, a2, a3⟩ := or_a n (by omega) q (by omega)
    exact h n (n_or n q) x0 x1 a2 (a3 t (by omega) (by omega) (by omega)) a1
theorem xor_b {x y : Int} (hx : 0 ≤ x ∧ x ≤ 1) (hy : 0 ≤ y ∧ y ≤ 1) : n_xor x y = (x + y) % 2 := by
  rcases n_01 hx with rfl | rfl <;> rcases n_01 hy with rfl | rfl <;> rfl
/-! loops -/
def NFx (f : Int → Int) (r n : Int) : Prop := ∀ x p : Int, 0 ≤ x → x < n → (p = 1 ∨ p = 2 ∨ p = 4) → p < r → f x ≤ f (n_or x p)
def NFp (f : Int → Int) (r x n : Int) : Prop := ∀ p : Int, (p = 1 ∨ p = 2 ∨ p = 4) → p < n → p < r → f x ≤ f (n_or x p)
theorem NFp.step {f : Int → Int} {r x n : Int} (h : NFp f r x n) (hn : n = 1 ∨ n = 2 ∨ n = 4 ∨ n = 8) (q : f x ≤ f (n_or x n)) : NFp f r x (n * 2) := fun p hp h1 h2 => by
  by_cases e : p = n
  · rw [e]
    exact q
  · exact h p hp (by omega) h2
theorem NFx.step {f : Int → Int} {r n m : Int} (h : NFx f r n) (hr : r ≤ m) (q : NFp f r n m) : NFx f r (n + 1) := fun x p h0 h1 hp h2 => by
  by_cases e : x = n
  · rw [e]
    exact q p hp (by omega) h2
  · exact h x p h0 (by omega) hp h2
theorem NFx.all {f : Int → Int} {r n : Int} (h : NFx f r n) (hr : r ≤ n) : NF f r := fun x p h0 h1 hp h2 => h x p h0 (by omega) hp h2
def TOx (f : Int → Int) (r n : Int) : Prop := ∀ x : Int, 0 ≤ x → x < n → f x ≠ f (r - 1 - x)
theorem TOx.step {f : Int → Int} {r n : Int} (h : TOx f r n) (q : f n ≠ f (r - 1 - n)) : TOx f r (n + 1) := fun x h0 h1 => by
  by_cases e : x = n
  · rw [e]
    exact q
  · exact h x h0 (by omega)
theorem TOx.all {f : Int → Int} {r n : Int} (h : TOx f r n) (hr : r ≤ n) : TO f r := fun x h0 h1 => h x h0 (by omega)
def csn (f : Int → Int) (r x n : Int) : Int := if n ≤ 1 then f 0 else if n ≤ 2 then csP f r x (f 0) 1 else if n ≤ 4 then csP f r x (csP f r x (f 0) 1) 2 else csP f r x (csP f r x (csP f r x (f 0) 1) 2) 4
theorem csP_y {f : Int → Int} {r x s p : Int} (h2 : n_and x p = 0) : csP f r x s p = s := by
  unfold csP
  by_cases h : p < r
  · rw [if_pos h, if_pos h2]
  · rw [if_neg h]
theorem csP_n {f : Int → Int} {r x s p : Int} (h : p < r) (h2 : n_and x p ≠ 0) : csP f r x s p = n_xor s (n_xor (f p) (f 0)) := by
  unfold csP
  rw [if_pos h, if_neg h2]
theorem csP_o {f : Int → Int} {r x s p : Int} (h : ¬ p < r) : csP f r x s p = s := by
  unfold csP
  rw [if_neg h]
theorem csn_s {f : Int → Int} {r x n : Int} (hn : n = 1 ∨ n = 2 ∨ n = 4) : csn f r x (n * 2) = csP f r x (csn f r x n) n := by
  rcases hn with rfl | rfl | rfl <;> rfl
theorem csn_a {f : Int → Int} {r x n s : Int} (hn : n = 1 ∨ n = 2 ∨ n = 4) (h : n_and x n = 0) (hs : s = csn f r x n) : s = csn f r x (n * 2) := by
  rw [csn_s hn, csP_y h]
  exact hs
theorem csn_b {f : Int → Int} {r x n s : Int} (hn : n = 1 ∨ n = 2 ∨ n = 4) (hr : n < r) (h : n_and x n ≠ 0) (hs : s = csn f r x n) : n_xor s (n_xor (f n) (f 0)) = csn f r x (n * 2) := by
  rw [csn_s hn, csP_n hr h, hs]
theorem csn_e {f : Int → Int} {r x n : Int} (hn : n = 1 ∨ n = 2 ∨ n = 4 ∨ n = 8) (hr : r ≤ n) : csP f r x (csP f r x (csP f r x (f 0) 1) 2) 4 = csn f r x n := by
  rcases hn with rfl | rfl | rfl | rfl
  · rw [csP_o (by omega), csP_o (by omega), csP_o (by omega)]
    rfl
  · rw [csP_o (p := 4) (by omega), csP_o (p := 2) (by omega)]
    rfl
  · rw [csP_o (p := 4) (by omega)]
    rfl
  · rfl
def SCx (f : Int → Int) (r n : Int) : Prop := ∀ x : Int, 0 ≤ x → x < n → csP f r x (csP f r x (csP f r x (f 0) 1) 2) 4 = f x
theorem SCx.step {f : Int → Int} {r n m s : Int} (h : SCx f r n) (hm : m = 1 ∨ m = 2 ∨ m = 4 ∨ m = 8) (hr : r ≤ m) (hs : s = csn f r n m) (q : s = f n) : SCx f r (n + 1) := fun x h0 h1 => by
  by_cases e : x = n
  · rw [e, csn_e hm hr, ← hs]
    exact q
  · exact h x h0 (by omega)
theorem SCx.no {f : Int → Int} {r n m s : Int} (h0 : 0 ≤ n) (h1 : n < r) (hm : m = 1 ∨ m = 2 ∨ m = 4 ∨ m = 8) (hr : r ≤ m) (hs : s = csn f r n m) (q : s ≠ f n) : ¬ SC f r := fun h => by
  have e := h n h0 h1
  rw [csn_e hm hr, ← hs] at e
  exact q e
theorem SCx.all {f : Int → Int} {r n : Int} (h : SCx f r n) (hr : r ≤ n) : SC f r := fun x h0 h1 => h x h0 (by omega)
def RIx (f : Int → Int) (r n : Int) : Prop := ∀ x y : Int, 0 ≤ x → x < n → 0 ≤ y → y < r → n_and x y = x → f x ≤ f y
def RIy (f : Int → Int) (x n : Int) : Prop := ∀ y : Int, 0 ≤ y → y < n → n_and x y = x → f x ≤ f y
theorem RIy.step {f : Int → Int} {x n : Int} (h : RIy f x n) (q : n_and x n = x → f x ≤ f n) : RIy f x (n + 1) := fun y h0 h1 hy => by
  by_cases e : y = n
  · rw [e] at hy ⊢
    exact q hy
  · exact h y h0 (by omega) hy
theorem RIx.step {f : Int → Int} {r n m : Int} (h : RIx f r n) (hr : r ≤ m) (q : RIy f n m) : RIx f r (n + 1) := fun x y h0 h1 h2 h3 hy => by
  by_cases e : x = n
  · rw [e] at hy ⊢
    exact q y h2 (by omega) hy
  · exact h x y h0 (by omega) h2 h3 hy
theorem RIx.all {f : Int → Int} {r n : Int} (h : RIx f r n) (hr : r ≤ n) : RI f r := fun x y h0 h1 h2 h3 hy => h x y h0 (by omega) h2 h3 hy
def RSx (f : Int → Int) (s m n : Int) : Prop := ∀ x : Int, 0 ≤ x → x < n → pvb m (n_and x s) = f x
theorem RSx_1 {f : Int → Int} {s m n c : Int} (h : c = bb (RSx f s m n)) (hc : c ≠ 0) (e : pvb m (n_and n s) = f n) : (1 : Int) = bb (RSx f s m (n + 1)) := (bb_t (fun x h0 h1 => by
  by_cases q : x = n
  · rw [q]
    exact e
  · exact bb_n (fun u => hc (h.trans u)) x h0 (by omega))).symm
theorem RSx_0 {f : Int → Int} {s m n c : Int} (h : c = bb (RSx f s m n)) (hn : 0 ≤ n) (e : c = 0 ∨ pvb m (n_and n s) ≠ f n) : (0 : Int) = bb (RSx f s m (n + 1)) := (bb_f (fun q => by
  rcases e with e | e
  · exact bb_z (h.symm.trans e) (fun x h0 h1 => q x h0 (by omega))
  · exact e (q n hn (by omega)))).symm
def RSn (f : Int → Int) (r n : Int) : Prop := ∀ s m : Int, 0 ≤ s → s < n → 0 ≤ m → m < 2 → ¬ RSx f s m r
def RSm (f : Int → Int) (r s n : Int) : Prop := ∀ m : Int, 0 ≤ m → m < n → ¬ RSx f s m r
theorem RSx.more {f : Int → Int} {s m n r : Int} (h : RSx f s m n) (hr : r ≤ n) : RSx f s m r := fun x h0 h1 => h x h0 (by omega)
theorem RSm.step {f : Int → Int} {r s n q c : Int} (h : RSm f r s n) (hc : c = bb (RSx f s n q)) (h0 : c = 0) (hq : q = r) : RSm f r s (n + 1) := fun m h1 h2 u => by
  by_cases e : m = n
  · rw [e, ← hq] at u
    exact bb_z (hc.symm.trans h0) u
  · exact h m h1 (by omega) u
theorem RSn.step {f : Int → Int} {r n m : Int} (h : RSn f r n) (q : RSm f r n m) (hm : 2 ≤ m) : RSn f r (n + 1) := fun s k h0 h1 h2 h3 u => by
  by_cases e : s = n
  · rw [e] at u
    exact q k h2 (by omega) u
  · exact h s k h0 (by omega) h2 h3 u
theorem RSn.all {f : Int → Int} {r n : Int} (h : RSn f r n) (hr : r ≤ n) : ¬ RS f r := fun ⟨s, m, h0, h1, h2, h3, u⟩ => h s m h0 (by omega) h2 h3 u
/-! the two ways of telling a sum -/
theorem xo {x y : Int} (hx : 0 ≤ x ∧ x ≤ 1) (hy : 0 ≤ y ∧ y ≤ 1) : n_xor x y = (x + y) % 2 ∧ 0 ≤ n_xor x y ∧ n_xor x y ≤ 1 := by
  rcases n_01 hx with rfl | rfl <;> rcases n_01 hy with rfl | rfl <;> decide
def b01 (x : Int) : Prop := x = 0 ∨ x = 1
theorem cs_st {f : Int → Int} {r x s p e : Int} (hs : b01 s) (h0 : b01 (f 0)) (c : (e = 0 ∧ (n_and x p = 0 ∨ r ≤ p)) ∨ (e = 1 ∧ n_and x p ≠ 0 ∧ p < r ∧ b01 (f p))) : b01 (csP f r x s p) ∧ csP f r x s p = (s + e * (f p + f 0)) % 2 := by
  rcases c with ⟨rfl, h⟩ | ⟨rfl, h1, h2, h3⟩
  · have q : csP f r x s p = s := by
      rcases h with h | h
      · exact csP_y h
      · exact csP_o (by omega)
    rw [q]
    refine ⟨hs, ?_⟩
    unfold b01 at hs
    omega
  · rw [csP_n h2 h1]
    unfold b01 at *
    have a1 := (xo (x := f p) (y := f 0) (by omega) (by omega))
    have a2 := (xo (x := s) (y := n_xor (f p) (f 0)) (by omega) (by omega))
    omega
theorem cs_full {f : Int → Int} {r x e1 e2 e4 : Int} (h0 : b01 (f 0)) (c1 : (e1 = 0 ∧ (n_and x 1 = 0 ∨ r ≤ 1)) ∨ (e1 = 1 ∧ n_and x 1 ≠ 0 ∧ 1 < r ∧ b01 (f 1))) (c2 : (e2 = 0 ∧ (n_and x 2 = 0 ∨ r ≤ 2)) ∨ (e2 = 1 ∧ n_and x 2 ≠ 0 ∧ 2 < r ∧ b01 (f 2))) (c4 : (e4 = 0 ∧ (n_and x 4 = 0 ∨ r ≤ 4)) ∨ (e4 = 1 ∧ n_and x 4 ≠ 0 ∧ 4 < r ∧ b01 (f 4))) : csP f r x (csP f r x (csP f r x (f 0) 1) 2) 4 = (f 0 + e1 * (f 1 + f 0) + e2 * (f 2 + f 0) + e4 * (f 4 + f 0)) % 2 := by
  obtain ⟨b1, q1⟩ := cs_st (s := f 0) h0 h0 c1
  obtain ⟨b2, q2⟩ := cs_st b1 h0 c2
  obtain ⟨b3, q3⟩ := cs_st b2 h0 c4
  rw [q3, q2, q1]
  omega
theorem pvx0 : ∀ s : Nat, s < 8 → ∀ m : Nat, m < 2 → pvb (m : Int) (n_and 0 (s : Int)) = ((m : Int)) % 2 := by decide +kernel
theorem pvx1 : ∀ s : Nat, s < 8 → ∀ m : Nat, m < 2 → pvb (m : Int) (n_and 1 (s : Int)) = ((m : Int) + (s : Int) % 2) % 2 := by decide +kernel
theorem pvx2 : ∀ s : Nat, s < 8 → ∀ m : Nat, m < 2 → pvb (m : Int) (n_and 2 (s : Int)) = ((m : Int) + (s : Int) / 2 % 2) % 2 := by decide +kernel
theorem pvx3 : ∀ s : Nat, s < 8 → ∀ m : Nat, m < 2 → pvb (m : Int) (n_and 3 (s : Int)) = ((m : Int) + (s : Int) % 2 + (s : Int) / 2 % 2) % 2 := by decide +kernel
theorem pvx4 : ∀ s : Nat, s < 8 → ∀ m : Nat, m < 2 → pvb (m : Int) (n_and 4 (s : Int)) = ((m : Int) + (s : Int) / 4 % 2) % 2 := by decide +kernel
theorem pvx5 : ∀ s : Nat, s < 8 → ∀ m : Nat, m < 2 → pvb (m : Int) (n_and 5 (s : Int)) = ((m : Int) + (s : Int) % 2 + (s : Int) / 4 % 2) % 2 := by decide +kernel
theorem pvx6 : ∀ s : Nat, s < 8 → ∀ m : Nat, m < 2 → pvb (m : Int) (n_and 6 (s : Int)) = ((m : Int) + (s : Int) / 2 % 2 + (s : Int) / 4 % 2) % 2 := by decide +kernel
theorem pvx7 : ∀ s : Nat, s < 8 → ∀ m : Nat, m < 2 → pvb (m : Int) (n_and 7 (s : Int)) = ((m : Int) + (s : Int) % 2 + (s : Int) / 2 % 2 + (s : Int) / 4 % 2) % 2 := by decide +kernel
theorem sa0 {f : Int → Int} {n m : Nat} (hn : n < 8) (hq : m < 2) (hm : (m : Int) = f 0) : pvb (m : Int) (n_and 0 (n : Int)) = (f 0 + 0 * (f 1 + f 0) + 0 * (f 2 + f 0) + 0 * (f 4 + f 0)) % 2 := by
  rw [pvx0 n hn m hq, hm]
  omega
theorem sb0 {f : Int → Int} {m a b c : Int} (h0 : f 0 = m % 2) (hx : f 0 = (m) % 2) : (f 0 + 0 * (f 1 + f 0) + 0 * (f 2 + f 0) + 0 * (f 4 + f 0)) % 2 = f 0 := by
  omega
theorem sa1 {f : Int → Int} {n m : Nat} (hn : n < 8) (hq : m < 2) (hm : (m : Int) = f 0) (h1 : (n : Int) % 2 = (f 1 + f 0) % 2) : pvb (m : Int) (n_and 1 (n : Int)) = (f 0 + 1 * (f 1 + f 0) + 0 * (f 2 + f 0) + 0 * (f 4 + f 0)) % 2 := by
  rw [pvx1 n hn m hq, h1, hm]
  omega
theorem sb1 {f : Int → Int} {m a b c : Int} (h0 : f 0 = m % 2) (h1 : f 1 = (m + a) % 2) (hx : f 1 = (m + a) % 2) : (f 0 + 1 * (f 1 + f 0) + 0 * (f 2 + f 0) + 0 * (f 4 + f 0)) % 2 = f 1 := by
  omega
theorem sa2 {f : Int → Int} {n m : Nat} (hn : n < 8) (hq : m < 2) (hm : (m : Int) = f 0) (h2 : (n : Int) / 2 % 2 = (f 2 + f 0) % 2) : pvb (m : Int) (n_and 2 (n : Int)) = (f 0 + 0 * (f 1 + f 0) + 1 * (f 2 + f 0) + 0 * (f 4 + f 0)) % 2 := by
  rw [pvx2 n hn m hq, h2, hm]
  omega
theorem sb2 {f : Int → Int} {m a b c : Int} (h0 : f 0 = m % 2) (h2 : f 2 = (m + b) % 2) (hx : f 2 = (m + b) % 2) : (f 0 + 0 * (f 1 + f 0) + 1 * (f 2 + f 0) + 0 * (f 4 + f 0)) % 2 = f 2 := by
  omega
theorem sa3 {f : Int → Int} {n m : Nat} (hn : n < 8) (hq : m < 2) (hm : (m : Int) = f 0) (h1 : (n : Int) % 2 = (f 1 + f 0) % 2) (h2 : (n : Int) / 2 % 2 = (f 2 + f 0) % 2) : pvb (m : Int) (n_and 3 (n : Int)) = (f 0 + 1 * (f 1 + f 0) + 1 * (f 2 + f 0) + 0 * (f 4 + f 0)) % 2 := by
  rw [pvx3 n hn m hq, h1, h2, hm]
  omega
theorem sb3 {f : Int → Int} {m a b c : Int} (h0 : f 0 = m % 2) (h1 : f 1 = (m + a) % 2) (h2 : f 2 = (m + b) % 2) (hx : f 3 = (m + a + b) % 2) : (f 0 + 1 * (f 1 + f 0) + 1 * (f 2 + f 0) + 0 * (f 4 + f 0)) % 2 = f 3 := by
  omega
theorem sa4 {f : Int → Int} {n m : Nat} (hn : n < 8) (hq : m < 2) (hm : (m : Int) = f 0) (h4 : (n : Int) / 4 % 2 = (f 4 + f 0) % 2) : pvb (m : Int) (n_and 4 (n : Int)) = (f 0 + 0 * (f 1 + f 0) + 0 * (f 2 + f 0) + 1 * (f 4 + f 0)) % 2 := by
  rw [pvx4 n hn m hq, h4, hm]
  omega
theorem sb4 {f : Int → Int} {m a b c : Int} (h0 : f 0 = m % 2) (h4 : f 4 = (m + c) % 2) (hx : f 4 = (m + c) % 2) : (f 0 + 0 * (f 1 + f 0) + 0 * (f 2 + f 0) + 1 * (f 4 + f 0)) % 2 = f 4 := by
  omega
theorem sa5 {f : Int → Int} {n m : Nat} (hn : n < 8) (hq : m < 2) (hm : (m : Int) = f 0) (h1 : (n : Int) % 2 = (f 1 + f 0) % 2) (h4 : (n : Int) / 4 % 2 = (f 4 + f 0) % 2) : pvb (m : Int) (n_and 5 (n : Int)) = (f 0 + 1 * (f 1 + f 0) + 0 * (f 2 + f 0) + 1 * (f 4 + f 0)) % 2 := by
  rw [pvx5 n hn m hq, h1, h4, hm]
  omega
theorem sb5 {f : Int → Int} {m a b c : Int} (h0 : f 0 = m % 2) (h1 : f 1 = (m + a) % 2) (h4 : f 4 = (m + c) % 2) (hx : f 5 = (m + a + c) % 2) : (f 0 + 1 * (f 1 + f 0) + 0 * (f 2 + f 0) + 1 * (f 4 + f 0)) % 2 = f 5 := by
  omega
theorem sa6 {f : Int → Int} {n m : Nat} (hn : n < 8) (hq : m < 2) (hm : (m : Int) = f 0) (h2 : (n : Int) / 2 % 2 = (f 2 + f 0) % 2) (h4 : (n : Int) / 4 % 2 = (f 4 + f 0) % 2) : pvb (m : Int) (n_and 6 (n : Int)) = (f 0 + 0 * (f 1 + f 0) + 1 * (f 2 + f 0) + 1 * (f 4 + f 0)) % 2 := by
  rw [pvx6 n hn m hq, h2, h4, hm]
  omega
theorem sb6 {f : Int → Int} {m a b c : Int} (h0 : f 0 = m % 2) (h2 : f 2 = (m + b) % 2) (h4 : f 4 = (m + c) % 2) (hx : f 6 = (m + b + c) % 2) : (f 0 + 0 * (f 1 + f 0) + 1 * (f 2 + f 0) + 1 * (f 4 + f 0)) % 2 = f 6 := by
  omega
theorem sa7 {f : Int → Int} {n m : Nat} (hn : n < 8) (hq : m < 2) (hm : (m : Int) = f 0) (h1 : (n : Int) % 2 = (f 1 + f 0) % 2) (h2 : (n : Int) / 2 % 2 = (f 2 + f 0) % 2) (h4 : (n : Int) / 4 % 2 = (f 4 + f 0) % 2) : pvb (m : Int) (n_and 7 (n : Int)) = (f 0 + 1 * (f 1 + f 0) + 1 * (f 2 + f 0) + 1 * (f 4 + f 0)) % 2 := by
  rw [pvx7 n hn m hq, h1, h2, h4, hm]
  omega
theorem sb7 {f : Int → Int} {m a b c : Int} (h0 : f 0 = m % 2) (h1 : f 1 = (m + a) % 2) (h2 : f 2 = (m + b) % 2) (h4 : f 4 = (m + c) % 2) (hx : f 7 = (m + a + b + c) % 2) : (f 0 + 1 * (f 1 + f 0) + 1 * (f 2 + f 0) + 1 * (f 4 + f 0)) % 2 = f 7 := by
  omega
theorem en {a b c n : Int} (ha : a = 0 ∨ a = 1) (hb : b = 0 ∨ b = 1) (hc : c = 0 ∨ c = 1) (hn : n = a + 2 * b + 4 * c) : n % 2 = a ∧ n / 2 % 2 = b ∧ n / 4 % 2 = c ∧ 0 ≤ n ∧ n < 8 := by
  subst hn
  rcases ha with rfl | rfl <;> rcases hb with rfl | rfl <;> rcases hc with rfl | rfl <;> decide
theorem m01 (x : Int) : x % 2 = 0 ∨ x % 2 = 1 := by omega
theorem SC_RS2 {f : Int → Int} (hb : ∀ i : Int, 0 ≤ i → i < 2 → b01 (f i)) : SC f 2 ↔ RS f 2 := by
  have g0 := cs_full (f := f) (r := 2) (x := 0) (e1 := 0) (e2 := 0) (e4 := 0) (hb 0 (by decide) (by decide)) (Or.inl ⟨rfl, Or.inl (by decide)⟩) (Or.inl ⟨rfl, Or.inl (by decide)⟩) (Or.inl ⟨rfl, Or.inl (by decide)⟩)
  have g1 := cs_full (f := f) (r := 2) (x := 1) (e1 := 1) (e2 := 0) (e4 := 0) (hb 0 (by decide) (by decide)) (Or.inr ⟨rfl, by decide, by decide, hb 1 (by decide) (by decide)⟩) (Or.inl ⟨rfl, Or.inl (by decide)⟩) (Or.inl ⟨rfl, Or.inl (by decide)⟩)
  constructor
  · intro h
    obtain ⟨n1, n2, n3, n4, n5⟩ := en (m01 _) (Or.inl rfl) (Or.inl rfl) (rfl : ((f 1 + f 0) % 2) + 2 * 0 + 4 * 0 = ((f 1 + f 0) % 2) + 2 * 0 + 4 * 0)
    have n6 : ((f 1 + f 0) % 2) + 2 * 0 + 4 * 0 < 2 := by clear n1 n2 n3 n4 n5 h g0 g1; omega
    have k0 : f 0 = 0 ∨ f 0 = 1 := hb 0 (by decide) (by decide)
    obtain ⟨n, hn⟩ : ∃ n : Nat, ((f 1 + f 0) % 2) + 2 * 0 + 4 * 0 = n := ⟨_, (Int.toNat_of_nonneg n4).symm⟩
    rw [hn] at n1 n2 n3 n5 n6
    obtain ⟨m, hm⟩ : ∃ m : Nat, (m : Int) = f 0 := by
      rcases k0 with q | q
      · exact ⟨0, q.symm⟩
      · exact ⟨1, q.symm⟩
    have hm2 : m < 2 := by clear n1 n2 n3 n5 n6 hn h g0 g1; omega
    have hn8 : n < 8 := by exact_mod_cast n5
    refine ⟨n, m, Int.natCast_nonneg n, n6, Int.natCast_nonneg m, by exact_mod_cast hm2, fun x x0 x1 => ?_⟩
    rcases (show x = 0 ∨ x = 1 by clear n1 n2 n3 n5 n6 hn h hm g0 g1; omega) with rfl | rfl
    · exact (sa0 hn8 hm2 hm).trans (g0.symm.trans (h 0 (by decide) (by decide)))
    · exact (sa1 hn8 hm2 hm n1).trans (g1.symm.trans (h 1 (by decide) (by decide)))
  · rintro ⟨a, b, a0, a1, b0, b1, u⟩ x x0 x1
    obtain ⟨n, rfl⟩ : ∃ n : Nat, a = n := ⟨_, (Int.toNat_of_nonneg a0).symm⟩
    obtain ⟨m, rfl⟩ : ∃ m : Nat, b = m := ⟨_, (Int.toNat_of_nonneg b0).symm⟩
    have hn8 : n < 8 := by clear u g0 g1; omega
    have hm2 : m < 2 := by clear u g0 g1; omega
    have u0 := (u 0 (by decide) (by decide)).symm.trans (pvx0 n hn8 m hm2)
    have u1 := (u 1 (by decide) (by decide)).symm.trans (pvx1 n hn8 m hm2)
    rcases (show x = 0 ∨ x = 1 by clear u u0 g0 u1 g1; omega) with rfl | rfl
    · exact g0.trans (sb0 (a := (n : Int) % 2) (b := (n : Int) / 2 % 2) (c := (n : Int) / 4 % 2) u0 u0)
    · exact g1.trans (sb1 (a := (n : Int) % 2) (b := (n : Int) / 2 % 2) (c := (n : Int) / 4 % 2) u0 u1 u1)
theorem SC_RS4 {f : Int → Int} (hb : ∀ i : Int, 0 ≤ i → i < 4 → b01 (f i)) : SC f 4 ↔ RS f 4 := by
  have g0 := cs_full (f := f) (r := 4) (x := 0) (e1 := 0) (e2 := 0) (e4 := 0) (hb 0 (by decide) (by decide)) (Or.inl ⟨rfl, Or.inl (by decide)⟩) (Or.inl ⟨rfl, Or.inl (by decide)⟩) (Or.inl ⟨rfl, Or.inl (by decide)⟩)
  have g1 := cs_full (f := f) (r := 4) (x := 1) (e1 := 1) (e2 := 0) (e4 := 0) (hb 0 (by decide) (by decide)) (Or.inr ⟨rfl, by decide, by decide, hb 1 (by decide) (by decide)⟩) (Or.inl ⟨rfl, Or.inl (by decide)⟩) (Or.inl ⟨rfl, Or.inl (by decide)⟩)
  have g2 := cs_full (f := f) (r := 4) (x := 2) (e1 := 0) (e2 := 1) (e4 := 0) (hb 0 (by decide) (by decide)) (Or.inl ⟨rfl, Or.inl (by decide)⟩) (Or.inr ⟨rfl, by decide, by decide, hb 2 (by decide) (by decide)⟩) (Or.inl ⟨rfl, Or.inl (by decide)⟩)
  have g3 := cs_full (f := f) (r := 4) (x := 3) (e1 := 1) (e2 := 1) (e4 := 0) (hb 0 (by decide) (by decide)) (Or.inr ⟨rfl, by decide, by decide, hb 1 (by decide) (by decide)⟩) (Or.inr ⟨rfl, by decide, by decide, hb 2 (by decide) (by decide)⟩) (Or.inl ⟨rfl, Or.inl (by decide)⟩)
  constructor
  · intro h
    obtain ⟨n1, n2, n3, n4, n5⟩ := en (m01 _) (m01 _) (Or.inl rfl) (rfl : ((f 1 + f 0) % 2) + 2 * ((f 2 + f 0) % 2) + 4 * 0 = ((f 1 + f 0) % 2) + 2 * ((f 2 + f 0) % 2) + 4 * 0)
    have n6 : ((f 1 + f 0) % 2) + 2 * ((f 2 + f 0) % 2) + 4 * 0 < 4 := by clear n1 n2 n3 n4 n5 h g0 g1 g2 g3; omega
    have k0 : f 0 = 0 ∨ f 0 = 1 := hb 0 (by decide) (by decide)
    obtain ⟨n, hn⟩ : ∃ n : Nat, ((f 1 + f 0) % 2) + 2 * ((f 2 + f 0) % 2) + 4 * 0 = n := ⟨_, (Int.toNat_of_nonneg n4).symm⟩
    rw [hn] at n1 n2 n3 n5 n6
    obtain ⟨m, hm⟩ : ∃ m : Nat, (m : Int) = f 0 := by
      rcases k0 with q | q
      · exact ⟨0, q.symm⟩
      · exact ⟨1, q.symm⟩
    have hm2 : m < 2 := by clear n1 n2 n3 n5 n6 hn h g0 g1 g2 g3; omega
    have hn8 : n < 8 := by exact_mod_cast n5
    refine ⟨n, m, Int.natCast_nonneg n, n6, Int.natCast_nonneg m, by exact_mod_cast hm2, fun x x0 x1 => ?_⟩
    rcases (show x = 0 ∨ x = 1 ∨ x = 2 ∨ x = 3 by clear n1 n2 n3 n5 n6 hn h hm g0 g1 g2 g3; omega) with rfl | rfl | rfl | rfl
    · exact (sa0 hn8 hm2 hm).trans (g0.symm.trans (h 0 (by decide) (by decide)))
    · exact (sa1 hn8 hm2 hm n1).trans (g1.symm.trans (h 1 (by decide) (by decide)))
    · exact (sa2 hn8 hm2 hm n2).trans (g2.symm.trans (h 2 (by decide) (by decide)))
    · exact (sa3 hn8 hm2 hm n1 n2).trans (g3.symm.trans (h 3 (by decide) (by decide)))
  · rintro ⟨a, b, a0, a1, b0, b1, u⟩ x x0 x1
    obtain ⟨n, rfl⟩ : ∃ n : Nat, a = n := ⟨_, (Int.toNat_of_nonneg a0).symm⟩
    obtain ⟨m, rfl⟩ : ∃ m : Nat, b = m := ⟨_, (Int.toNat_of_nonneg b0).symm⟩
    have hn8 : n < 8 := by clear u g0 g1 g2 g3; omega
    have hm2 : m < 2 := by clear u g0 g1 g2 g3; omega
    have u0 := (u 0 (by decide) (by decide)).symm.trans (pvx0 n hn8 m hm2)
    have u1 := (u 1 (by decide) (by decide)).symm.trans (pvx1 n hn8 m hm2)
    have u2 := (u 2 (by decide) (by decide)).symm.trans (pvx2 n hn8 m hm2)
    have u3 := (u 3 (by decide) (by decide)).symm.trans (pvx3 n hn8 m hm2)
    rcases (show x = 0 ∨ x = 1 ∨ x = 2 ∨ x = 3 by clear u u0 g0 u1 g1 u2 g2 u3 g3; omega) with rfl | rfl | rfl | rfl
    · exact g0.trans (sb0 (a := (n : Int) % 2) (b := (n : Int) / 2 % 2) (c := (n : Int) / 4 % 2) u0 u0)
    · exact g1.trans (sb1 (a := (n : Int) % 2) (b := (n : Int) / 2 % 2) (c := (n : Int) / 4 % 2) u0 u1 u1)
    · exact g2.trans (sb2 (a := (n : Int) % 2) (b := (n : Int) / 2 % 2) (c := (n : Int) / 4 % 2) u0 u2 u2)
    · exact g3.trans (sb3 (a := (n : Int) % 2) (b := (n : Int) / 2 % 2) (c := (n : Int) / 4 % 2) u0 u1 u2 u3)
theorem SC_RS8 {f : Int → Int} (hb : ∀ i : Int, 0 ≤ i → i < 8 → b01 (f i)) : SC f 8 ↔ RS f 8 := by
  have g0 := cs_full (f := f) (r := 8) (x := 0) (e1 := 0) (e2 := 0) (e4 := 0) (hb 0 (by decide) (by decide)) (Or.inl ⟨rfl, Or.inl (by decide)⟩) (Or.inl ⟨rfl, Or.inl (by decide)⟩) (Or.inl ⟨rfl, Or.inl (by decide)⟩)
  have g1 := cs_full (f := f) (r := 8) (x := 1) (e1 := 1) (e2 := 0) (e4 := 0) (hb 0 (by decide) (by decide)) (Or.inr ⟨rfl, by decide, by decide, hb 1 (by decide) (by decide)⟩) (Or.inl ⟨rfl, Or.inl (by decide)⟩) (Or.inl ⟨rfl, Or.inl (by decide)⟩)
  have g2 := cs_full (f := f) (r := 8) (x := 2) (e1 := 0) (e2 := 1) (e4 := 0) (hb 0 (by decide) (by decide)) (Or.inl ⟨rfl, Or.inl (by decide)⟩) (Or.inr ⟨rfl, by decide, by decide, hb 2 (by decide) (by decide)⟩) (Or.inl ⟨rfl, Or.inl (by decide)⟩)
  have g3 := cs_full (f := f) (r := 8) (x := 3) (e1 := 1) (e2 := 1) (e4 := 0) (hb 0 (by decide) (by decide)) (Or.inr ⟨rfl, by decide, by decide, hb 1 (by decide) (by decide)⟩) (Or.inr ⟨rfl, by decide, by decide, hb 2 (by decide) (by decide)⟩) (Or.inl ⟨rfl, Or.inl (by decide)⟩)
  have g4 := cs_full (f := f) (r := 8) (x := 4) (e1 := 0) (e2 := 0) (e4 := 1) (hb 0 (by decide) (by decide)) (Or.inl ⟨rfl, Or.inl (by decide)⟩) (Or.inl ⟨rfl, Or.inl (by decide)⟩) (Or.inr ⟨rfl, by decide, by decide, hb 4 (by decide) (by decide)⟩)
  have g5 := cs_full (f := f) (r := 8) (x := 5) (e1 := 1) (e2 := 0) (e4 := 1) (hb 0 (by decide) (by decide)) (Or.inr ⟨rfl, by decide, by decide, hb 1 (by decide) (by decide)⟩) (Or.inl ⟨rfl, Or.inl (by decide)⟩) (Or.inr ⟨rfl, by decide, by decide, hb 4 (by decide) (by decide)⟩)
  have g6 := cs_full (f := f) (r := 8) (x := 6) (e1 := 0) (e2 := 1) (e4 := 1) (hb 0 (by decide) (by decide)) (Or.inl ⟨rfl, Or.inl (by decide)⟩) (Or.inr ⟨rfl, by decide, by decide, hb 2 (by decide) (by decide)⟩) (Or.inr ⟨rfl, by decide, by decide, hb 4 (by decide) (by decide)⟩)
  have g7 := cs_full (f := f) (r := 8) (x := 7) (e1 := 1) (e2 := 1) (e4 := 1) (hb 0 (by decide) (by decide)) (Or.inr ⟨rfl, by decide, by decide, hb 1 (by decide) (by decide)⟩) (Or.inr ⟨rfl, by decide, by decide, hb 2 (by decide) (by decide)⟩) (Or.inr ⟨rfl, by decide, by decide, hb 4 (by decide) (by decide)⟩)
  constructor
  · intro h
    obtain ⟨n1, n2, n3, n4, n5⟩ := en (m01 _) (m01 _) (m01 _) (rfl : ((f 1 + f 0) % 2) + 2 * ((f 2 + f 0) % 2) + 4 * ((f 4 + f 0) % 2) = ((f 1 + f 0) % 2) + 2 * ((f 2 + f 0) % 2) + 4 * ((f 4 + f 0) % 2))
    have n6 := n5
    have k0 : f 0 = 0 ∨ f 0 = 1 := hb 0 (by decide) (by decide)
    obtain ⟨n, hn⟩ : ∃ n : Nat, ((f 1 + f 0) % 2) + 2 * ((f 2 + f 0) % 2) + 4 * ((f 4 + f 0) % 2) = n := ⟨_, (Int.toNat_of_nonneg n4).symm⟩
    rw [hn] at n1 n2 n3 n5 n6
    obtain ⟨m, hm⟩ : ∃ m : Nat, (m : Int) = f 0 := by
      rcases k0 with q | q
      · exact ⟨0, q.symm⟩
      · exact ⟨1, q.symm⟩
    have hm2 : m < 2 := by clear n1 n2 n3 n5 n6 hn h g0 g1 g2 g3 g4 g5 g6 g7; omega
    have hn8 : n < 8 := by exact_mod_cast n5
    refine ⟨n, m, Int.natCast_nonneg n, n6, Int.natCast_nonneg m, by exact_mod_cast hm2, fun x x0 x1 => ?_⟩
    rcases (show x = 0 ∨ x = 1 ∨ x = 2 ∨ x = 3 ∨ x = 4 ∨ x = 5 ∨ x = 6 ∨ x = 7 by clear n1 n2 n3 n5 n6 hn h hm g0 g1 g2 g3 g4 g5 g6 g7; omega) with rfl | rfl | rfl | rfl | rfl | rfl | rfl | rfl
    · exact (sa0 hn8 hm2 hm).trans (g0.symm.trans (h 0 (by decide) (by decide)))
    · exact (sa1 hn8 hm2 hm n1).trans (g1.symm.trans (h 1 (by decide) (by decide)))
    · exact (sa2 hn8 hm2 hm n2).trans (g2.symm.trans (h 2 (by decide) (by decide)))
    · exact (sa3 hn8 hm2 hm n1 n2).trans (g3.symm.trans (h 3 (by decide) (by decide)))
    · exact (sa4 hn8 hm2 hm n3).trans (g4.symm.trans (h 4 (by decide) (by decide)))
    · exact (sa5 hn8 hm2 hm n1 n3).trans (g5.symm.trans (h 5 (by decide) (by decide)))
    · exact (sa6 hn8 hm2 hm n2 n3).trans (g6.symm.trans (h 6 (by decide) (by decide)))
    · exact (sa7 hn8 hm2 hm n1 n2 n3).trans (g7.symm.trans (h 7 (by decide) (by decide)))
  · rintro ⟨a, b, a0, a1, b0, b1, u⟩ x x0 x1
    obtain ⟨n, rfl⟩ : ∃ n : Nat, a = n := ⟨_, (Int.toNat_of_nonneg a0).symm⟩
    obtain ⟨m, rfl⟩ : ∃ m : Nat, b = m := ⟨_, (Int.toNat_of_nonneg b0).symm⟩
    have hn8 : n < 8 := by clear u g0 g1 g2 g3 g4 g5 g6 g7; omega
    have hm2 : m < 2 := by clear u g0 g1 g2 g3 g4 g5 g6 g7; omega
    have u0 := (u 0 (by decide) (by decide)).symm.trans (pvx0 n hn8 m hm2)
    have u1 := (u 1 (by decide) (by decide)).symm.trans (pvx1 n hn8 m hm2)
    have u2 := (u 2 (by decide) (by decide)).symm.trans (pvx2 n hn8 m hm2)
    have u3 := (u 3 (by decide) (by decide)).symm.trans (pvx3 n hn8 m hm2)
    have u4 := (u 4 (by decide) (by decide)).symm.trans (pvx4 n hn8 m hm2)
    have u5 := (u 5 (by decide) (by decide)).symm.trans (pvx5 n hn8 m hm2)
    have u6 := (u 6 (by decide) (by decide)).symm.trans (pvx6 n hn8 m hm2)
    have u7 := (u 7 (by decide) (by decide)).symm.trans (pvx7 n hn8 m hm2)
    rcases (show x = 0 ∨ x = 1 ∨ x = 2 ∨ x = 3 ∨ x = 4 ∨ x = 5 ∨ x = 6 ∨ x = 7 by clear u u0 g0 u1 g1 u2 g2 u3 g3 u4 g4 u5 g5 u6 g6 u7 g7; omega) with rfl | rfl | rfl | rfl | rfl | rfl | rfl | rfl
    · exact g0.trans (sb0 (a := (n : Int) % 2) (b := (n : Int) / 2 % 2) (c := (n : Int) / 4 % 2) u0 u0)
    · exact g1.trans (sb1 (a := (n : Int) % 2) (b := (n : Int) / 2 % 2) (c := (n : Int) / 4 % 2) u0 u1 u1)
    · exact g2.trans (sb2 (a := (n : Int) % 2) (b := (n : Int) / 2 % 2) (c := (n : Int) / 4 % 2) u0 u2 u2)
    · exact g3.trans (sb3 (a := (n : Int) % 2) (b := (n : Int) / 2 % 2) (c := (n : Int) / 4 % 2) u0 u1 u2 u3)
    · exact g4.trans (sb4 (a := (n : Int) % 2) (b := (n : Int) / 2 % 2) (c := (n : Int) / 4 % 2) u0 u4 u4)
    · exact g5.trans (sb5 (a := (n : Int) % 2) (b := (n : Int) / 2 % 2) (c := (n : Int) / 4 % 2) u0 u1 u4 u5)
    · exact g6.trans (sb6 (a := (n : Int) % 2) (b := (n : Int) / 2 % 2) (c := (n : Int) / 4 % 2) u0 u2 u4 u6)
    · exact g7.trans (sb7 (a := (n : Int) % 2) (b := (n : Int) / 2 % 2) (c := (n : Int) / 4 % 2) u0 u1 u2 u4 u7)
theorem sg_eq {f g : Int → Int} {r : Int} (hr : r = 2 ∨ r = 4 ∨ r = 8) (hb : ∀ i : Int, 0 ≤ i → i < r → b01 (f i)) (e : ∀ i : Int, 0 ≤ i → i < r → f i = g i) : sgc f r = sgm g r := by
  have a1 : bb (f 0 = 0) = bb (g 0 = 0) := by rw [e 0 (by omega) (by omega)]
  have a2 : bb (f (r - 1) = 1) = bb (g (r - 1) = 1) := by rw [e (r - 1) (by omega) (by omega)]
  have a3 : bb (NF f r) = bb (RI g r) := bb_c ((NF_RI hr).trans ⟨fun h x y h0 h1 h2 h3 q => by rw [← e x h0 h1, ← e y h2 h3]; exact h x y h0 h1 h2 h3 q, fun h x y h0 h1 h2 h3 q => by rw [e x h0 h1, e y h2 h3]; exact h x y h0 h1 h2 h3 q⟩)
  have a4 : bb (TO f r) = bb (TO g r) := bb_c ⟨fun h x h0 h1 => by rw [← e x h0 h1, ← e (r - 1 - x) (by omega) (by omega)]; exact h x h0 h1, fun h x h0 h1 => by rw [e x h0 h1, e (r - 1 - x) (by omega) (by omega)]; exact h x h0 h1⟩
  have s1 : SC f r ↔ RS f r := by
    rcases hr with rfl | rfl | rfl
    · exact SC_RS2 hb
    · exact SC_RS4 hb
    · exact SC_RS8 hb
  have a5 : bb (SC f r) = bb (RS g r) := bb_c (s1.trans ⟨fun ⟨a, b, a0, a1, b0, b1, u⟩ => ⟨a, b, a0, a1, b0, b1, fun x h0 h1 => by rw [← e x h0 h1]; exact u x h0 h1⟩, fun ⟨a, b, a0, a1, b0, b1, u⟩ => ⟨a, b, a0, a1, b0, b1, fun x h0 h1 => by rw [e x h0 h1]; exact u x h0 h1⟩⟩)
  unfold sgc sgm
  rw [a1, a2, a3, a4, a5]
/-! the two sides -/
def cSg (d a z : Int) (M : nM) : Prop := ((d = 3 ∨ a < 0 ∨ M 3 14 ≤ a) ∧ z = -1) ∨ (d = 2 ∧ 0 ≤ a ∧ a < M 3 14 ∧ z = sgc (fun i => M (55 + 3 * a + 1) i) (M (55 + 3 * a) 1))
def mSg (d a z : Int) (M : nM) : Prop := ((d = 3 ∨ a < 0 ∨ M 112 4 ≤ a) ∧ z = -1) ∨ (d = 2 ∧ 0 ≤ a ∧ a < M 112 4 ∧ z = sgm (fun i => M 117 (27 * a + i)) (n_shl 1 (M 116 a)))
noncomputable def wh (g : Int → Int) : Nat → Int
  | 0 => 31
  | n + 1 => n_and (wh g n) (g n)
theorem wh_step {g : Int → Int} {x : Int} (h : 0 ≤ x) : wh g (x + 1).toNat = n_and (wh g x.toNat) (g x) := by
  obtain ⟨n, rfl⟩ : ∃ n : Nat, x = n := ⟨x.toNat, by omega⟩
  have e : ((n : Int) + 1).toNat = n + 1 := by omega
  rw [e, Int.toNat_natCast]
  rfl
theorem wh_congr {f g : Int → Int} : ∀ n : Nat, (∀ i : Int, 0 ≤ i → i < n → f i = g i) → wh f n = wh g n := by
  intro n
  induction n with
  | zero => intro _; rfl
  | succ n ih =>
    intro h
    show n_and (wh f n) (f n) = n_and (wh g n) (g n)
    rw [ih (fun i h0 h1 => h i h0 (by omega)), h n (by omega) (by omega)]
def cWh (d z : Int) (M : nM) : Prop := (d = 3 ∧ z = -1) ∨ (d = 2 ∧ ((wh (fun a => sgc (fun i => M (55 + 3 * a + 1) i) (M (55 + 3 * a) 1)) (M 3 14).toNat = 0 ∧ z = 1) ∨ (wh (fun a => sgc (fun i => M (55 + 3 * a + 1) i) (M (55 + 3 * a) 1)) (M 3 14).toNat ≠ 0 ∧ z = 0)))
def mWh (d z : Int) (M : nM) : Prop := (d = 3 ∧ z = -1) ∨ (d = 2 ∧ ((wh (fun a => sgm (fun i => M 117 (27 * a + i)) (n_shl 1 (M 116 a))) (M 112 4).toNat = 0 ∧ z = 1) ∨ (wh (fun a => sgm (fun i => M 117 (27 * a + i)) (n_shl 1 (M 116 a))) (M 112 4).toNat ≠ 0 ∧ z = 0)))
theorem RL.sg1 {ac a : Int} {M0 M : nM} (h : RL 2 M) (hS : Sf 2 ac M0 M) (h0 : 0 ≤ a) (h1 : a < M 3 14) : sgc (fun i => M (55 + 3 * a + 1) i) (M (55 + 3 * a) 1) = sgm (fun i => M 117 (27 * a + i)) (n_shl 1 (M 116 a)) := by
  obtain ⟨-, ⟨g1, -, g2⟩, -, -⟩ := h
  obtain ⟨x1, x2, x3, x4⟩ := g2 a h0 h1
  have er : n_shl 1 (M 116 a) = pw 2 (M 116 a) := by
    rcases (show M 116 a = 1 ∨ M 116 a = 2 ∨ M 116 a = 3 by omega) with q | q | q <;> rw [q] <;> decide
  have hr : pw 2 (M 116 a) = 2 ∨ pw 2 (M 116 a) = 4 ∨ pw 2 (M 116 a) = 8 := by
    rcases (show M 116 a = 1 ∨ M 116 a = 2 ∨ M 116 a = 3 by omega) with q | q | q <;> rw [q] <;> decide
  rw [x3, er]
  have b3 := t_3_14x hS
  have e : ∀ i : Int, 0 ≤ i → i < pw 2 (M 116 a) → M (55 + 3 * a + 1) i = M 117 (27 * a + i) := fun i i0 i1 => by
    have q := (x4 i i0 (by omega)).1
    rw [Int.emod_eq_of_lt i0 i1] at q
    exact q
  refine sg_eq hr (fun i i0 i1 => ?_) e
  have q := t_117 hS (i := 27 * a + i) (by omega)
  have q2 := t_actrl hS (q := 55 + 3 * a) (by unfold ActAt; omega) (by have := t_ac hS; omega) (Or.inl rfl) (i := i) i0 (by omega)
  unfold b01
  omega
theorem RL.sig {d ac a z z2 : Int} {M0 M : nM} (hd : d = 2 ∨ d = 3) (h : RL d M) (hS : Sf d ac M0 M) (c : cSg d a z M) (m : mSg d a z2 M) : z = z2 := by
  have g1 := h.2.1.1
  rcases c with ⟨p, rfl⟩ | ⟨rfl, p1, p2, rfl⟩ <;> rcases m with ⟨q, rfl⟩ | ⟨q0, q1, q2, rfl⟩
  · rfl
  · omega
  · omega
  · exact h.sg1 hS p1 p2
theorem RL.who {d ac z z2 : Int} {M0 M : nM} (hd : d = 2 ∨ d = 3) (h : RL d M) (hS : Sf d ac M0 M) (c : cWh d z M) (m : mWh d z2 M) : z = z2 := by
  have g1 := h.2.1.1
  have b3 := t_3_14x hS
  rcases hd with rfl | rfl
  · have e : wh (fun a => sgc (fun i => M (55 + 3 * a + 1) i) (M (55 + 3 * a) 1)) (M 3 14).toNat = wh (fun a => sgm (fun i => M 117 (27 * a + i)) (n_shl 1 (M 116 a))) (M 112 4).toNat := by
      rw [← g1]
      exact wh_congr _ (fun i h0 h1 => h.sg1 hS h0 (by omega))
    unfold cWh at c
    unfold mWh at m
    rw [e] at c
    omega
  · unfold cWh at c
    unfold mWh at m
    omega
