/-! Restraints: an act of a form keeps laws just when its values keep the net's limits. -/
def vok (d V : Int) (v : Int → Int) : Prop := ∀ u : Int, 0 ≤ u → u < V → 0 ≤ v u ∧ v u < d
def SATV (d : Int) (A : Int → Int) (V : Int) (v : Int → Int) : Prop := ∀ p q r : Int, (0 ≤ p ∧ p < V) → (0 ≤ q ∧ q < V) → (0 ≤ r ∧ r < V) → bt (A (ai p q r)) (rw3 d v p q r)
def Aok (A : Int → Int) : Prop := ∀ p q r : Int, (0 ≤ p ∧ p ≤ 8) → (0 ≤ q ∧ q ≤ 8) → (0 ≤ r ∧ r ≤ 8) → 0 ≤ A (ai p q r) ∧ A (ai p q r) ≤ 134217727
/-- the limits B say what A says, and P -/
def RST (d V : Int) (A B : Int → Int) (P : (Int → Int) → Prop) : Prop := Aok B ∧ ∀ v : Int → Int, vok d V v → (SATV d B V v ↔ (SATV d A V v ∧ P v))
section
variable {d V : Int} {A B D : Int → Int} {P Q : (Int → Int) → Prop}
theorem RST.refl (h : Aok A) : RST d V A A (fun _ => True) := ⟨h, fun _ _ => ⟨fun q => ⟨q, trivial⟩, fun q => q.1⟩⟩
theorem RST.congr (h : RST d V A B P) (e : ∀ v : Int → Int, vok d V v → (P v ↔ Q v)) : RST d V A B Q := ⟨h.1, fun v hv => by rw [h.2 v hv, e v hv]⟩
theorem Aok.init (hd : d = 2 ∨ d = 3) (e : ∀ i : Int, 0 ≤ i → i < 729 → A i = ARd d) : Aok A := fun p q r hp hq hr => by
  rw [e (ai p q r) (by unfold ai; omega) (by unfold ai; omega)]
  exact ARd_r hd
theorem SATV.init {v : Int → Int} (hd : d = 2 ∨ d = 3) (hV : V ≤ 9) (e : ∀ i : Int, 0 ≤ i → i < 729 → A i = ARd d) (hv : vok d V v) : SATV d A V v := fun p q r hp hq hr => by
  rw [e (ai p q r) (by unfold ai; omega) (by unfold ai; omega)]
  exact ARd_b hd (rw3_r hd (hv p hp.1 hp.2) (hv q hq.1 hq.2) (hv r hr.1 hr.2))
theorem RST.limit {p q r w : Int} (hV : V ≤ 9) (h : RST d V A B P) (hp : 0 ≤ p ∧ p < V) (hq : 0 ≤ q ∧ q < V) (hr : 0 ≤ r ∧ r < V) (hw : 0 ≤ w ∧ w ≤ 134217727) (hd : d = 2 ∨ d = 3) (e1 : D (ai p q r) = n_and (B (ai p q r)) w) (e2 : ∀ i : Int, i ≠ ai p q r → D i = B i) : RST d V A D (fun v => P v ∧ bt w (rw3 d v p q r)) := by
  obtain ⟨h1, h2⟩ := h
  have b := h1 p q r (by omega) (by omega) (by omega)
  have nx := n_and_x (x := B (ai p q r)) (y := w) (by omega)
  refine ⟨fun a b' c ha hb hc => ?_, fun v hv => ?_⟩
  · by_cases y : ai a b' c = ai p q r
    · rw [y, e1]
      omega
    · rw [e2 _ y]
      exact h1 a b' c ha hb hc
  · have rr := rw3_r hd (hv p hp.1 hp.2) (hv q hq.1 hq.2) (hv r hr.1 hr.2)
    have key : SATV d D V v ↔ (SATV d B V v ∧ bt w (rw3 d v p q r)) := by
      constructor
      · intro s
        have s1 := s p q r hp hq hr
        rw [e1, bt_and b hw rr.1] at s1
        refine ⟨fun a b' c ha hb hc => ?_, s1.2⟩
        by_cases y : ai a b' c = ai p q r
        · obtain ⟨y1, y2, y3⟩ := ai_i (by omega) (by omega) (by omega) (by omega) y
          rw [y1, y2, y3]
          exact s1.1
        · rw [← e2 _ y]
          exact s a b' c ha hb hc
      · rintro ⟨s, s2⟩ a b' c ha hb hc
        by_cases y : ai a b' c = ai p q r
        · obtain ⟨y1, y2, y3⟩ := ai_i (by omega) (by omega) (by omega) (by omega) y
          rw [y1, y2, y3, e1, bt_and b hw rr.1]
          exact ⟨s p q r hp hq hr, s2⟩
        · rw [e2 _ y]
          exact s a b' c ha hb hc
    rw [key, h2 v hv]
    exact and_assoc
theorem SOLN_SAT {m : Int} : SOLN d A V m ↔ SATV d A V (fun u => dg d V m u) := ⟨fun h p q r hp hq hr => h.pqr hp hq hr, fun h => SOLN.mk h⟩
end
section
variable {d m w c i j n : Int} {T r : Int → Int}
theorem KC3.iff (hn : 0 ≤ n) : KC3 d T w r i j (n + 1) ↔ (KC3 d T w r i j n ∧ bt w (lin d T (r i) (r j) (r n))) := ⟨fun h => ⟨fun k h0 h1 => h k h0 (by omega), h n hn (by omega)⟩, fun h => KC3.step h.1 h.2⟩
theorem KC2.iff (hn : 0 ≤ n) : KC2 d T w c r i (n + 1) ↔ (KC2 d T w c r i n ∧ KC3 d T w r i n c) := ⟨fun h => ⟨fun j k h0 h1 => h j k h0 (by omega), fun k h0 h1 => h n k hn (by omega) h0 h1⟩, fun h => KC2.step h.1 h.2 (Int.le_refl c)⟩
theorem KC1.iff (hn : 0 ≤ n) : KC1 d m T w c r (n + 1) ↔ (KC1 d m T w c r n ∧ KC2 d T w c r n (tf m 2 c)) := ⟨fun h => ⟨fun i j k h0 h1 => h i j k h0 (by omega), fun j k h0 h1 h2 h3 => h n j k hn (by omega) h0 h1 h2 h3⟩, fun h => KC1.step h.1 h.2 (Int.le_refl _)⟩
theorem KC1.zero : KC1 d m T w c r 0 := fun i j k h0 h1 => by omega
theorem KC2.zero : KC2 d T w c r i 0 := fun j k h0 h1 => by omega
theorem KC3.zero : KC3 d T w r i j 0 := fun k h0 h1 => by omega
theorem KC1.eq : KC1 d m T w c r (tf m 3 c) ↔ KC d m T w c r := Iff.rfl
end
/-- how far the limits of one law are in the net -/
def RP (d m V : Int) (Vr : Int → Int) (w c : Int) (r : Int → Int) (A B : Int → Int) (i j k : Int) : Prop := RST d V A B (fun v => KC1 d m (fun x => v (Vr x)) w c r i ∧ KC2 d (fun x => v (Vr x)) w c r i j ∧ KC3 d (fun x => v (Vr x)) w r i j k)
section
variable {d m V w c i j k : Int} {Vr r A B D : Int → Int}
theorem RP.init (h : Aok A) : RP d m V Vr w c r A A 0 0 0 := (RST.refl h).congr (fun v _ => ⟨fun _ => ⟨KC1.zero, KC2.zero, KC3.zero⟩, fun _ => trivial⟩)
theorem RP.goi (h : RP d m V Vr w c r A B i j 0) (hj : j = tf m 2 c) (hi : 0 ≤ i) : RP d m V Vr w c r A B (i + 1) 0 0 := RST.congr h (fun v _ => by
  rw [KC1.iff hi, hj]
  exact ⟨fun q => ⟨⟨q.1, q.2.1⟩, KC2.zero, KC3.zero⟩, fun q => ⟨q.1.1, q.1.2, KC3.zero⟩⟩)
theorem RP.goj (h : RP d m V Vr w c r A B i j k) (hk : k = c) (hj : 0 ≤ j) : RP d m V Vr w c r A B i (j + 1) 0 := RST.congr h (fun v _ => by
  rw [KC2.iff hj, hk]
  exact ⟨fun q => ⟨q.1, ⟨q.2.1, q.2.2⟩, KC3.zero⟩, fun q => ⟨q.1, q.2.1.1, q.2.1.2⟩⟩)
theorem RP.gok {x1 x2 x3 : Int} (hd : d = 2 ∨ d = 3) (hV : V ≤ 9) (h : RP d m V Vr w c r A B i j k) (hk : 0 ≤ k) (hw : 0 ≤ w ∧ w ≤ 134217727) (h1 : x1 = Vr ((r i / (d * d) * d + r j / (d * d)) * d + r k / (d * d))) (h2 : x2 = Vr ((r i / d % d * d + r j / d % d) * d + r k / d % d)) (h3 : x3 = Vr ((r i % d * d + r j % d) * d + r k % d)) (g1 : 0 ≤ x1 ∧ x1 < V) (g2 : 0 ≤ x2 ∧ x2 < V) (g3 : 0 ≤ x3 ∧ x3 < V) (e1 : D (ai x1 x2 x3) = n_and (B (ai x1 x2 x3)) w) (e2 : ∀ y : Int, y ≠ ai x1 x2 x3 → D y = B y) : RP d m V Vr w c r A D i j (k + 1) := (RST.limit hV h g1 g2 g3 hw hd e1 e2).congr (fun v _ => by
  rw [KC3.iff hk]
  have y : rw3 d v x1 x2 x3 = lin d (fun x => v (Vr x)) (r i) (r j) (r k) := by
    unfold rw3 lin
    rw [h1, h2, h3]
    have k : ∀ a b c e : Int, (a * e + b) * e + c = a * (e * e) + b * e + c := fun a b c e => by rw [Int.add_mul, Int.mul_assoc]
    exact k _ _ _ _
  rw [y]
  exact ⟨fun q => ⟨q.1.1, q.1.2.1, q.1.2.2, q.2⟩, fun q => ⟨⟨q.1, q.2.1, q.2.2.1⟩, q.2.2.2⟩⟩)
theorem RP.all (h : RP d m V Vr w c r A B i 0 0) (hi : i = tf m 3 c) : RST d V A B (fun v => KC d m (fun x => v (Vr x)) w c r) := RST.congr h (fun v _ => by
  rw [hi]
  exact ⟨fun q => q.1, fun q => ⟨q, KC2.zero, KC3.zero⟩⟩)
end
theorem pcn_all {s : Int} : ∀ n : Nat, pcn s n = n → ∀ x : Int, 0 ≤ x → x < n → bt s x
  | 0, _, x, h0, h1 => by omega
  | n + 1, h, x, h0, h1 => by
    have r := pcn_r s n
    have e := pcn_s (s := s) (x := (n : Int)) (by omega)
    have e2 : ((n : Int) + 1).toNat = n + 1 := by omega
    have e3 : ((n : Int)).toNat = n := by omega
    rw [e2, e3] at e
    have b := bt_v s (n : Int)
    rw [e3] at b
    by_cases q : x = n
    · rw [q]
      rcases b with b | b
      · exact b.1
      · omega
    · exact pcn_all n (by omega) x h0 (by omega)
/-- a form: m places, the variable of each row -/
def FMk (d m V : Int) (Vr : Int → Int) : Prop := (1 ≤ m ∧ m ≤ 3) ∧ (∀ i : Int, 0 ≤ i → i < d * d * d → Vr i = Vr (i % pw d m)) ∧ ∀ i : Int, 0 ≤ i → i < pw d m → 0 ≤ Vr i ∧ Vr i < V
theorem FMk.r {d m V x : Int} {Vr : Int → Int} (hd : d = 2 ∨ d = 3) (h : FMk d m V Vr) (hx : 0 ≤ x ∧ x < d * d * d) : 0 ≤ Vr x ∧ Vr x < V := by
  rw [h.2.1 x hx.1 hx.2]
  have hp := pw_r hd h.1
  exact h.2.2 _ (Int.emod_nonneg _ (by omega)) (Int.emod_lt_of_pos _ (by omega))
theorem KC_form {d m V k s w c : Int} {Vr r v : Int → Int} (hd : d = 2 ∨ d = 3) (hF : FMk d m V Vr) (hk : 1 ≤ k ∧ k ≤ 3) (hL : LRn d k s (pw d k) w c r) (hv : vok d V v) : KC d m (fun x => v (Vr x)) w c r ↔ KP d m (fun x => v (Vr x)) k s := KC_KP hd hF.1 hk hL (fun i i0 i1 => by show v (Vr i) = v (Vr (i % pw d m)); rw [hF.2.1 i i0 i1]) (fun i i0 i1 => hv _ (hF.2.2 i i0 i1).1 (hF.2.2 i i0 i1).2)
theorem KP_full {d m V k s w c : Int} {Vr r v : Int → Int} (hd : d = 2 ∨ d = 3) (hF : FMk d m V Vr) (hk : 1 ≤ k ∧ k ≤ 3) (hL : LRn d k s (pw d k) w c r) (hc : c = pw d k) (hv : vok d V v) : KP d m (fun x => v (Vr x)) k s := fun x y z hx hy hz => by
  have hp := pw_r hd hk
  have full : ∀ x : Int, 0 ≤ x → x < pw d k → bt s x := fun x x0 x1 => pcn_all (pw d k).toNat (by rw [← hL.1]; omega) x x0 (by omega)
  have hT : ∀ i : Int, 0 ≤ i → i < d * d * d → (fun x => v (Vr x)) i = (fun x => v (Vr x)) (i % pw d m) := fun i i0 i1 => by show v (Vr i) = v (Vr (i % pw d m)); rw [hF.2.1 i i0 i1]
  have hf : ∀ i : Int, 0 ≤ i → i < pw d m → 0 ≤ (fun x => v (Vr x)) i ∧ (fun x => v (Vr x)) i < d := fun i i0 i1 => hv _ (hF.2.2 i i0 i1).1 (hF.2.2 i i0 i1).2
  have hm := hF.1
  rcases (show m = 1 ∨ m = 2 ∨ m = 3 by omega) with rfl | rfl | rfl
  · have l := lw1 (i := 0) (j := 0) (y := y) (z := z) hd hk hT hf ⟨hx.1, hx.2.1⟩ (by omega) (by omega)
    exact full _ l.2.1 l.2.2
  · have y1 := hy (by omega)
    have l := lw2 (i := 0) (z := z) hd hk hT hf ⟨hx.1, hx.2.1⟩ ⟨y1.1, y1.2.1⟩ (by omega)
    exact full _ l.2.1 l.2.2
  · have y1 := hy (by omega)
    have z1 := hz (by omega)
    have l := lw3 hd hk hT hf ⟨hx.1, hx.2.1⟩ ⟨y1.1, y1.2.1⟩ ⟨z1.1, z1.2.1⟩
    exact full _ l.2.1 l.2.2
/-- what one law's restraint leaves -/
def RSL (d V q : Int) (Ms M1 : nM) : Prop := RST d V (fun i => Ms 40 i) (fun i => M1 40 i) (fun v => KP d (Ms 44 0) (fun x => v (Ms 45 x)) (Ms q 0) (Ms q 1)) ∧ FC 40 Ms M1
theorem RSL.skip {d V q : Int} {M : nM} (hd : d = 2 ∨ d = 3) (hF : FMk d (M 44 0) V (fun x => M 45 x)) (hL : LawOk d q M) (hA : Aok (fun i => M 40 i)) (hc : M q 3 = pw d (M q 0)) : RSL d V q M M := ⟨(RST.refl hA).congr (fun v hv => ⟨fun _ => KP_full hd hF hL.1 hL.2 hc hv, fun _ => trivial⟩), fun _ _ _ => rfl⟩
theorem RSL.mk {d V q i : Int} {Ms M1 : nM} (hd : d = 2 ∨ d = 3) (hF : FMk d (Ms 44 0) V (fun x => Ms 45 x)) (hL : LawOk d q Ms) (h : RP d (Ms 44 0) V (fun x => Ms 45 x) (Ms q 2) (Ms q 3) (fun i => Ms (q + 1) i) (fun i => Ms 40 i) (fun i => M1 40 i) i 0 0) (hi : i = tf (Ms 44 0) 3 (Ms q 3)) (f : FC 40 Ms M1) : RSL d V q Ms M1 := ⟨(h.all hi).congr (fun v hv => KC_form hd hF hL.1 hL.2 hv), f⟩
/-- the laws of a mask that an act keeps -/
def KM (d m : Int) (f : Int → Int) (mask n : Int) (M : nM) : Prop := ∀ l : Int, 0 ≤ l → l < n → bt mask l → KP d m f (M (79 + 2 * l) 0) (M (79 + 2 * l) 1)
def RSM (d V mask n : Int) (Ms M : nM) : Prop := RST d V (fun i => Ms 40 i) (fun i => M 40 i) (fun v => KM d (Ms 44 0) (fun x => v (Ms 45 x)) mask n Ms) ∧ FC 40 Ms M
section
variable {d V mask n : Int} {Ms M M2 : nM}
theorem RSM.init (hA : Aok (fun i => M 40 i)) : RSM d V mask 0 M M := ⟨(RST.refl hA).congr (fun v _ => ⟨fun _ l l0 l1 => by omega, fun _ => trivial⟩), fun _ _ _ => rfl⟩
theorem RSM.skip (h : RSM d V mask n Ms M) (q : ¬ bt mask n) : RSM d V mask (n + 1) Ms M := ⟨h.1.congr (fun v _ => ⟨fun k l l0 l1 b => by
  by_cases y : l = n
  · rw [y] at b
    exact absurd b q
  · exact k l l0 (by omega) b, fun k l l0 l1 b => k l l0 (by omega) b⟩), h.2⟩
theorem RSM.add (h : RSM d V mask n Ms M) (hn : 0 ≤ n) (q : bt mask n) (r : RSL d V (79 + 2 * n) M M2) : RSM d V mask (n + 1) Ms M2 := by
  have f := h.2
  have e45 : (fun x => M 45 x) = fun x => Ms 45 x := funext fun x => f 45 x (by omega)
  refine ⟨⟨r.1.1, fun v hv => ?_⟩, fun a i ha => (r.2 a i ha).trans (f a i ha)⟩
  rw [r.1.2 v hv, h.1.2 v hv]
  have ev : (fun x => v (M 45 x)) = fun x => v (Ms 45 x) := funext fun x => by rw [f 45 x (by omega)]
  show ((SATV d (fun i => Ms 40 i) V v ∧ KM d (Ms 44 0) (fun x => v (Ms 45 x)) mask n Ms) ∧ KP d (M 44 0) (fun x => v (M 45 x)) (M (79 + 2 * n) 0) (M (79 + 2 * n) 1)) ↔ (SATV d (fun i => Ms 40 i) V v ∧ KM d (Ms 44 0) (fun x => v (Ms 45 x)) mask (n + 1) Ms)
  rw [f 44 0 (by omega), f (79 + 2 * n) 0 (by omega), f (79 + 2 * n) 1 (by omega), ev]
  constructor
  · rintro ⟨⟨a, b⟩, c⟩
    refine ⟨a, fun l l0 l1 bl => ?_⟩
    by_cases y : l = n
    · rw [y]
      exact c
    · exact b l l0 (by omega) bl
  · rintro ⟨a, b⟩
    exact ⟨⟨a, fun l l0 l1 bl => b l l0 (by omega) bl⟩, b n hn (by omega) q⟩
end
theorem LawOk.w {d q : Int} {M : nM} (h : LawOk d q M) : 0 ≤ M q 2 ∧ M q 2 ≤ 134217727 := h.2.2.1
