/-! The least law around a law that the acts keep: the class's way. -/
theorem bt_e {s y : Int} : bt s y → s / 2 ^ y.toNat % 2 = 1 := fun h => h
theorem pcn_add {s n : Int} (hs : 0 ≤ s ∧ s ≤ 134217727) (hn : 0 ≤ n ∧ n ≤ 26) (h : ¬ bt s n) : ∀ N : Nat, pcn (n_or s (n_shl 1 n)) N = pcn s N + (if n < N then 1 else 0) := by
  intro N
  induction N with
  | zero =>
    show (0 : Int) = 0 + _
    rw [if_neg (by omega)]
    omega
  | succ N ih =>
    have e1 : pcn (n_or s (n_shl 1 n)) (N + 1) = pcn (n_or s (n_shl 1 n)) N + n_or s (n_shl 1 n) / 2 ^ N % 2 := rfl
    have e2 : pcn s (N + 1) = pcn s N + s / 2 ^ N % 2 := rfl
    have q := bt_or (y := (N : Int)) hs hn (by omega)
    have a := bt_v (n_or s (n_shl 1 n)) (N : Int)
    have b := bt_v s (N : Int)
    rw [Int.toNat_natCast] at a b
    rw [e1, e2, ih]
    by_cases u : (N : Int) = n
    · have c1 : ¬ bt s (N : Int) := by rw [u]; exact h
      have c2 : bt (n_or s (n_shl 1 n)) (N : Int) := q.mpr (Or.inr u)
      rw [if_neg (by omega), if_pos (by omega)]
      rcases a with ⟨-, a⟩ | ⟨a, -⟩
      · rcases b with ⟨b, -⟩ | ⟨-, b⟩
        · exact absurd b c1
        · omega
      · exact absurd c2 a
    · have c : bt (n_or s (n_shl 1 n)) (N : Int) ↔ bt s (N : Int) := ⟨fun w => by
        rcases q.mp w with w | w
        · exact w
        · exact absurd w u, fun w => q.mpr (Or.inl w)⟩
      have e3 : n_or s (n_shl 1 n) / 2 ^ N % 2 = s / 2 ^ N % 2 := by
        rcases a with ⟨a1, a2⟩ | ⟨a1, a2⟩ <;> rcases b with ⟨b1, b2⟩ | ⟨b1, b2⟩
        · omega
        · exact absurd (c.mp a1) b1
        · exact absurd (c.mpr b1) a1
        · omega
      by_cases w : n < (N : Int)
      · rw [if_pos w, if_pos (by omega)]
        omega
      · rw [if_neg w, if_neg (by omega)]
        omega
theorem LRn.grow {d k s w c w2 c2 n : Int} {r r2 : Int → Int} (hd : d = 2 ∨ d = 3) (hk : 1 ≤ k ∧ k ≤ 3) (h : LRn d k s (pw d k) w c r) (hs : 0 ≤ s ∧ s ≤ 134217727) (hn : 0 ≤ n ∧ n < pw d k) (a : (c < 27 ∧ ¬ bt w (wd d k n) ∧ c2 = c + 1 ∧ w2 = n_or w (n_shl 1 (wd d k n)) ∧ r2 c = wd d k n ∧ ∀ i : Int, i ≠ c → r2 i = r i) ∨ ((27 ≤ c ∨ bt w (wd d k n)) ∧ c2 = c ∧ w2 = w ∧ ∀ i : Int, r2 i = r i)) : (¬ bt s n ∧ LRn d k (n_or s (n_shl 1 n)) (pw d k) w2 c2 r2 ∧ c2 = c + 1) ∨ (bt s n ∧ c2 = c ∧ w2 = w ∧ ∀ i : Int, r2 i = r i) := by
  have hb := h.bit hd hk hn
  have wr := wd_r hd hk hn
  have hp := pw_r hd hk
  obtain ⟨h1, h2, h3, h4, h5⟩ := h
  by_cases q : bt s n
  · right
    rcases a with ⟨-, a2, -⟩ | ⟨-, a2, a3, a4⟩
    · exact absurd (hb.mpr q) a2
    · exact ⟨q, a2, a3, a4⟩
  · left
    have pa := pcn_add hs (by omega) q (pw d k).toNat
    have pr := pcn_r (n_or s (n_shl 1 n)) (pw d k).toNat
    rw [if_pos (by omega)] at pa
    rcases a with ⟨a1, a2, a3, a4, a5, a6⟩ | ⟨a1 | a1, -⟩
    · refine ⟨q, ⟨by omega, ?_, fun i i0 i1 => ?_, fun x x0 x1 hx => ?_, fun y y0 y1 => ?_⟩, a3⟩
      · rw [a4]
        exact (n_or_bit27 h2 (by omega)).1
      · by_cases e : i = c
        · exact ⟨n, hn.1, hn.2, (bt_or hs (by omega) hn.1).mpr (Or.inr rfl), by rw [e]; exact a5⟩
        · obtain ⟨x, x0, x1, hx, u⟩ := h3 i i0 (by omega)
          exact ⟨x, x0, x1, (bt_or hs (by omega) x0).mpr (Or.inl hx), by rw [a6 i e]; exact u⟩
      · have pc := pcn_r s (pw d k).toNat
        rcases (bt_or hs (by omega) x0).mp hx with hx | hx
        · obtain ⟨i, i0, i1, u⟩ := h4 x x0 x1 hx
          exact ⟨i, i0, by omega, by rw [a6 i (by omega)]; exact u⟩
        · exact ⟨c, by omega, by omega, by rw [hx]; exact a5⟩
      · rw [a4, bt_or h2 (by omega) y0, h5 y y0 y1]
        constructor
        · rintro (⟨x, x0, x1, hx, e⟩ | e)
          · exact ⟨x, x0, x1, (bt_or hs (by omega) x0).mpr (Or.inl hx), e⟩
          · exact ⟨n, hn.1, hn.2, (bt_or hs (by omega) hn.1).mpr (Or.inr rfl), e⟩
        · rintro ⟨x, x0, x1, hx, e⟩
          rcases (bt_or hs (by omega) x0).mp hx with hx | hx
          · exact Or.inl ⟨x, x0, x1, hx, e⟩
          · exact Or.inr (by rw [e, hx])
    · omega
    · exact absurd (hb.mp a1) q
/-- the rows so far: a set between cu and every kept set around it; the known rows of the list stand -/
def GI (d m k : Int) (T : Int → Int) (cu : Int) (Ms M : nM) : Prop := ∃ cx : Int, (0 ≤ cx ∧ cx ≤ 134217727) ∧ (∀ y : Int, pw d k ≤ y → y ≤ 26 → ¬ bt cx y) ∧ sub27 cu cx ∧ (∀ t : Int, sub27 cu t → KP d m T k t → sub27 cx t) ∧ LQ d k cx (pw d k) 50 M ∧ (∀ i : Int, 0 ≤ i → i < Ms 50 3 → M 51 i = Ms 51 i) ∧ ((cx = cu ∧ M 50 3 = Ms 50 3 ∧ M 50 2 = Ms 50 2) ∨ Ms 50 3 < M 50 3) ∧ M 50 0 = Ms 50 0 ∧ M 50 1 = Ms 50 1 ∧ FB Ms M
def CuOk (d k cu : Int) (M : nM) : Prop := (1 ≤ k ∧ k ≤ 3) ∧ (0 ≤ cu ∧ cu ≤ 134217727) ∧ (∀ y : Int, pw d k ≤ y → y ≤ 26 → ¬ bt cu y) ∧ LQ d k cu (pw d k) 50 M
theorem GI.init {d m k cu : Int} {T : Int → Int} {Ms : nM} (h : CuOk d k cu Ms) : GI d m k T cu Ms Ms := ⟨cu, h.2.1, h.2.2.1, fun _ _ _ q => q, fun _ q _ => q, h.2.2.2, fun _ _ _ => rfl, Or.inl ⟨rfl, rfl, rfl⟩, rfl, rfl, fun _ _ _ => rfl⟩
theorem GI.c {d m k cu : Int} {T : Int → Int} {Ms M M1 : nM} (h : GI d m k T cu Ms M) (f : FC 53 M M1) : GI d m k T cu Ms M1 := by
  obtain ⟨cx, g1, g2, g3, g4, g5, g6, g7, g8, g9, g10⟩ := h
  refine ⟨cx, g1, g2, g3, g4, ?_, fun i i0 i1 => (f 51 i (by omega)).trans (g6 i i0 i1), ?_, (f 50 0 (by omega)).trans g8, (f 50 1 (by omega)).trans g9, g10.c f⟩
  · unfold LQ
    rw [f 50 2 (by omega), f 50 3 (by omega)]
    exact LRn.of g5 (fun i _ => f (50 + 1) i (by omega))
  · rw [f 50 2 (by omega), f 50 3 (by omega)]
    exact g7
theorem GI.add {d m k cu r : Int} {T : Int → Int} {Ms M M1 : nM} (hd : d = 2 ∨ d = 3) (hk : 1 ≤ k ∧ k ≤ 3) (h : GI d m k T cu Ms M) (a : AW 50 r M M1) {n : Int} (hn : 0 ≤ n ∧ n < pw d k) (hr : r = wd d k n) (him : ∀ t : Int, sub27 cu t → KP d m T k t → bt t n) : GI d m k T cu Ms M1 ∧ sub27 (M 50 2) (M1 50 2) ∧ bt (M1 50 2) r := by
  obtain ⟨cx, g1, g2, g3, g4, g5, g6, g7, g8, g9, g10⟩ := h
  obtain ⟨a1, a2, a3, a4⟩ := a
  have hp := pw_r hd hk
  have hl := g5
  unfold LQ at hl
  have c0 : 0 ≤ M 50 3 := by
    have := pcn_r cx (pw d k).toNat
    have := hl.1
    omega
  rw [hr] at a1
  have q := LRn.grow hd hk hl g1 hn a1
  have wr := wd_r hd hk hn
  rcases q with ⟨q1, q2, q3⟩ | ⟨q1, q2, q3, q4⟩
  · refine ⟨⟨n_or cx (n_shl 1 n), (n_or_bit27 g1 (by omega)).1, fun y y0 y1 u => ?_, fun y y0 y1 u => (bt_or g1 (by omega) y0).mpr (Or.inl (g3 y y0 y1 u)), fun t t0 t1 y y0 y1 u => ?_, q2, fun i i0 i1 => ?_, Or.inr ?_, a2.trans g8, a3.trans g9, fun b i u => (a4 b i (by omega)).trans (g10 b i u)⟩, fun y y0 y1 u => ?_, ?_⟩
    · rcases (bt_or g1 (by omega) (by omega)).mp u with u | u
      · exact g2 y y0 y1 u
      · omega
    · rcases (bt_or g1 (by omega) y0).mp u with u | u
      · exact g4 t t0 t1 y y0 y1 u
      · rw [u]
        exact him t t0 t1
    · rcases a1 with ⟨-, -, -, -, -, a6⟩ | ⟨-, -, -, a6⟩
      · have e : M1 51 i = M 51 i := a6 i (by rcases g7 with ⟨-, g7, -⟩ | g7 <;> omega)
        rw [e]
        exact g6 i i0 i1
      · have e : M1 51 i = M 51 i := a6 i
        rw [e]
        exact g6 i i0 i1
    · rcases g7 with ⟨-, g7, -⟩ | g7 <;> omega
    · obtain ⟨x, x0, x1, hx, e⟩ := (hl.2.2.2.2 y y0 y1).mp u
      exact (q2.2.2.2.2 y y0 y1).mpr ⟨x, x0, x1, (bt_or g1 (by omega) x0).mpr (Or.inl hx), e⟩
    · rw [hr]
      exact (q2.2.2.2.2 _ wr.1 wr.2.2).mpr ⟨n, hn.1, hn.2, (bt_or g1 (by omega) hn.1).mpr (Or.inr rfl), rfl⟩
  · refine ⟨⟨cx, g1, g2, g3, g4, ?_, fun i i0 i1 => ?_, ?_, a2.trans g8, a3.trans g9, fun b i u => (a4 b i (by omega)).trans (g10 b i u)⟩, fun y y0 y1 u => by rw [q3]; exact u, ?_⟩
    · unfold LQ
      rw [q2, q3]
      exact LRn.of hl (fun i _ => q4 i)
    · have e : M1 51 i = M 51 i := q4 i
      rw [e]
      exact g6 i i0 i1
    · rw [q2, q3]
      exact g7
    · rw [q3, hr]
      exact (hl.2.2.2.2 _ wr.1 wr.2.2).mpr ⟨n, hn.1, hn.2, q1, rfl⟩
section
variable {d m w w2 c n i j : Int} {T r : Int → Int}
def LR26 (d : Int) (T : Int → Int) (m c : Int) (r : Int → Int) : Prop := ∀ i j k : Int, 0 ≤ i → i < tf m 3 c → 0 ≤ j → j < tf m 2 c → 0 ≤ k → k < c → 0 ≤ lin d T (r i) (r j) (r k) ∧ lin d T (r i) (r j) (r k) ≤ 26
theorem KC1.mono (h : KC1 d m T w c r n) (q : sub27 w w2) (hl : LR26 d T m c r) (hn : n ≤ tf m 3 c) : KC1 d m T w2 c r n := fun i j k h0 h1 h2 h3 h4 h5 => by
  have u := hl i j k h0 (by omega) h2 h3 h4 h5
  exact q _ u.1 u.2 (h i j k h0 h1 h2 h3 h4 h5)
theorem KC2.mono (h : KC2 d T w c r i n) (q : sub27 w w2) (hl : LR26 d T m c r) (hi : 0 ≤ i ∧ i < tf m 3 c) (hn : n ≤ tf m 2 c) : KC2 d T w2 c r i n := fun j k h2 h3 h4 h5 => by
  have u := hl i j k hi.1 hi.2 h2 (by omega) h4 h5
  exact q _ u.1 u.2 (h j k h2 h3 h4 h5)
theorem KC3.mono (h : KC3 d T w r i j n) (q : sub27 w w2) (hl : LR26 d T m c r) (hi : 0 ≤ i ∧ i < tf m 3 c) (hj : 0 ≤ j ∧ j < tf m 2 c) (hn : n ≤ c) : KC3 d T w2 r i j n := fun k h4 h5 => by
  have u := hl i j k hi.1 hi.2 hj.1 hj.2 h4 (by omega)
  exact q _ u.1 u.2 (h k h4 h5)
end
theorem LRn.lim {d m k s w c : Int} {T f r : Int → Int} (hd : d = 2 ∨ d = 3) (hm : 1 ≤ m ∧ m ≤ 3) (hk : 1 ≤ k ∧ k ≤ 3) (h : LRn d k s (pw d k) w c r) (hT : ∀ i : Int, 0 ≤ i → i < d * d * d → T i = f (i % pw d m)) (hf : ∀ i : Int, 0 ≤ i → i < pw d m → 0 ≤ f i ∧ f i < d) {i j l : Int} (i0 : 0 ≤ i) (i1 : i < tf m 3 c) (j0 : 0 ≤ j) (j1 : j < tf m 2 c) (l0 : 0 ≤ l) (l1 : l < c) : ∃ n : Int, (0 ≤ n ∧ n < pw d k) ∧ lin d T (r i) (r j) (r l) = wd d k n ∧ ∀ t : Int, sub27 s t → KP d m f k t → bt t n := by
  have hp := pw_r hd hk
  obtain ⟨x, hx, ex, x0, x1⟩ := h.row hd hk i0 (tf_le i1)
  obtain ⟨y, hy, ey, y0, y1⟩ := h.row hd hk j0 (tf_le j1)
  obtain ⟨z, hz, ez, z0, z1⟩ := h.row hd hk l0 l1
  rcases (show m = 1 ∨ m = 2 ∨ m = 3 by omega) with rfl | rfl | rfl
  · have u := lw1 (y := 0) (z := 0) hd hk hT hf ⟨hz.1, hz.2.1⟩ ⟨x0, x1⟩ ⟨y0, y1⟩
    exact ⟨_, u.2, by rw [ez]; exact u.1, fun t t1 t2 => t2 z 0 0 (hz.sub t1 (by omega)) (fun q => by omega) (fun q => by omega)⟩
  · have u := lw2 (z := 0) hd hk hT hf ⟨hy.1, hy.2.1⟩ ⟨hz.1, hz.2.1⟩ ⟨x0, x1⟩
    exact ⟨_, u.2, by rw [ey, ez]; exact u.1, fun t t1 t2 => t2 y z 0 (hy.sub t1 (by omega)) (fun _ => hz.sub t1 (by omega)) (fun q => by omega)⟩
  · have u := lw3 hd hk hT hf ⟨hx.1, hx.2.1⟩ ⟨hy.1, hy.2.1⟩ ⟨hz.1, hz.2.1⟩
    exact ⟨_, u.2, by rw [ex, ey, ez]; exact u.1, fun t t1 t2 => t2 x y z (hx.sub t1 (by omega)) (fun _ => hy.sub t1 (by omega)) (fun _ => hz.sub t1 (by omega))⟩
theorem or01 {x y : Int} (hx : 0 ≤ x ∧ x ≤ 1) (hy : 0 ≤ y ∧ y ≤ 1) : (n_or x y = 0 ∧ x = 0 ∧ y = 0) ∨ (n_or x y = 1 ∧ (x = 1 ∨ y = 1)) := by
  rcases n_01 hx with rfl | rfl <;> rcases n_01 hy with rfl | rfl
  · exact Or.inl ⟨by decide, rfl, rfl⟩
  · exact Or.inr ⟨by decide, Or.inr rfl⟩
  · exact Or.inr ⟨by decide, Or.inl rfl⟩
  · exact Or.inr ⟨by decide, Or.inl rfl⟩
/-- what one act's growing leaves -/
def GP (d m k : Int) (T : Int → Int) (cu z : Int) (Ms M1 : nM) : Prop := GI d m k T cu Ms M1 ∧ (z = 1 → Ms 50 3 < M1 50 3) ∧ (z = 0 → M1 50 3 = Ms 50 3 ∧ M1 50 2 = Ms 50 2 ∧ KP d m T k cu)
theorem GI.le {d m k cu : Int} {T : Int → Int} {Ms M : nM} (h : GI d m k T cu Ms M) : Ms 50 3 ≤ M 50 3 := by
  obtain ⟨cx, g1, g2, g3, g4, g5, g6, g7, g8, g9, g10⟩ := h
  rcases g7 with ⟨-, g7, -⟩ | g7 <;> omega
theorem GI.w {d m k cu : Int} {T : Int → Int} {Ms M : nM} (h : GI d m k T cu Ms M) : 0 ≤ M 50 2 ∧ M 50 2 ≤ 134217727 := by
  obtain ⟨cx, g1, g2, g3, g4, g5, g6, g7, g8, g9, g10⟩ := h
  exact g5.2.1
theorem GI.r {d m k cu : Int} {T : Int → Int} {Ms M : nM} (h : GI d m k T cu Ms M) : (∀ i : Int, 0 ≤ i → i < Ms 50 3 → M 51 i = Ms 51 i) ∧ FB Ms M := by
  obtain ⟨cx, g1, g2, g3, g4, g5, g6, g7, g8, g9, g10⟩ := h
  exact ⟨g6, g10⟩
theorem GI.done {d m k cu : Int} {T : Int → Int} {Ms M : nM} (hd : d = 2 ∨ d = 3) (hm : 1 ≤ m ∧ m ≤ 3) (hC : CuOk d k cu Ms) (hT : ∀ i : Int, 0 ≤ i → i < d * d * d → T i = T (i % pw d m)) (hf : ∀ i : Int, 0 ≤ i → i < pw d m → 0 ≤ T i ∧ T i < d) (h : GI d m k T cu Ms M) (q : KC d m T (M 50 2) (Ms 50 3) (fun i => Ms 51 i)) : (Ms 50 3 < M 50 3 ∧ GP d m k T cu 1 Ms M) ∨ (M 50 3 = Ms 50 3 ∧ GP d m k T cu 0 Ms M) := by
  have h' := h
  obtain ⟨cx, g1, g2, g3, g4, g5, g6, g7, g8, g9, g10⟩ := h
  rcases g7 with ⟨e1, e2, e3⟩ | g7
  · right
    refine ⟨e2, h', fun u => by omega, fun _ => ⟨e2, e3, ?_⟩⟩
    rw [e3] at q
    exact (KC_KP hd hm hC.1 hC.2.2.2 hT hf).mp q
  · left
    exact ⟨g7, h', fun _ => g7, fun u => by omega⟩
theorem LR26.mk {d m k s w c : Int} {T r : Int → Int} (hd : d = 2 ∨ d = 3) (hm : 1 ≤ m ∧ m ≤ 3) (hk : 1 ≤ k ∧ k ≤ 3) (h : LRn d k s (pw d k) w c r) (hT : ∀ i : Int, 0 ≤ i → i < d * d * d → T i = T (i % pw d m)) (hf : ∀ i : Int, 0 ≤ i → i < pw d m → 0 ≤ T i ∧ T i < d) : LR26 d T m c r := fun i j l i0 i1 j0 j1 l0 l1 => by
  obtain ⟨n, n1, n2, -⟩ := h.lim hd hm hk hT hf i0 i1 j0 j1 l0 l1
  have u := wd_r hd hk n1
  rw [n2]
  exact ⟨u.1, u.2.2⟩
theorem GI.put {d m k cu r i j l : Int} {T : Int → Int} {Ms M M1 : nM} (hd : d = 2 ∨ d = 3) (hm : 1 ≤ m ∧ m ≤ 3) (hC : CuOk d k cu Ms) (hT : ∀ i : Int, 0 ≤ i → i < d * d * d → T i = T (i % pw d m)) (hf : ∀ i : Int, 0 ≤ i → i < pw d m → 0 ≤ T i ∧ T i < d) (h : GI d m k T cu Ms M) (a : AW 50 r M M1) (i0 : 0 ≤ i) (i1 : i < tf m 3 (Ms 50 3)) (j0 : 0 ≤ j) (j1 : j < tf m 2 (Ms 50 3)) (l0 : 0 ≤ l) (l1 : l < Ms 50 3) (hr : r = lin d T (Ms 51 i) (Ms 51 j) (Ms 51 l)) : GI d m k T cu Ms M1 ∧ sub27 (M 50 2) (M1 50 2) ∧ bt (M1 50 2) (lin d T (Ms 51 i) (Ms 51 j) (Ms 51 l)) := by
  obtain ⟨n, n1, n2, n3⟩ := hC.2.2.2.lim hd hm hC.1 hT hf i0 i1 j0 j1 l0 l1
  have n2 : lin d T (Ms 51 i) (Ms 51 j) (Ms 51 l) = wd d k n := n2
  have q := h.add hd hC.1 a n1 (hr.trans n2) n3
  rw [← hr]
  exact q
/-- the closing so far -/
def CI (d k s : Int) (Ms M : nM) (P : Int → Prop) : Prop := ∃ cu : Int, CuOk d k cu M ∧ sub27 s cu ∧ (∀ t : Int, sub27 s t → CKP d Ms k t → sub27 cu t) ∧ FB Ms M ∧ M 50 0 = k ∧ P cu
def KPn (d : Int) (Ms : nM) (k n cu : Int) : Prop := ∀ a : Int, 0 ≤ a → a < n → KP d (Ms (55 + 3 * a) 0) (fun i => Ms (55 + 3 * a + 1) i) k cu
theorem CI.grow {d k s a z x2 x3 cu : Int} {Ms M M1 : nM} (ha : 0 ≤ a ∧ a < Ms 3 14) (ha8 : Ms 3 14 ≤ 8) (hz : 0 ≤ z ∧ z ≤ 1) (hx : 0 ≤ x2 ∧ x2 ≤ 1) (c1 : CuOk d k cu M) (c2 : sub27 s cu) (c3 : ∀ t : Int, sub27 s t → CKP d Ms k t → sub27 cu t) (c4 : FB Ms M) (c5 : M 50 0 = k) (c6 : x2 = 0 → KPn d Ms k a cu) (c7 : x3 ≤ M 50 3) (c8 : x2 = 1 → x3 + 1 ≤ M 50 3) (q : GP d (M (55 + 3 * a) 0) (M 50 0) (fun i => M (55 + 3 * a + 1) i) cu z M M1) : CI d k s Ms M1 (fun cu => (n_or x2 z = 0 → KPn d Ms k (a + 1) cu) ∧ x3 ≤ M1 50 3 ∧ (n_or x2 z = 1 → x3 + 1 ≤ M1 50 3)) := by
  rw [c5] at q
  obtain ⟨g, g1, g0⟩ := q
  have le := g.le
  obtain ⟨cx, y1, y2, y3, y4, y5, y6, y7, y8, y9, y10⟩ := g
  have e0 : M (55 + 3 * a) 0 = Ms (55 + 3 * a) 0 := c4 _ 0 (by omega)
  have ef : (fun i => M (55 + 3 * a + 1) i) = (fun i => Ms (55 + 3 * a + 1) i) := by
    funext i
    exact c4 _ i (by omega)
  rw [e0, ef] at y4 g0
  have fb : FB Ms M1 := fun b i u => (y10 b i u).trans (c4 b i u)
  refine ⟨cx, ⟨c1.1, y1, y2, y5⟩, fun y b0 b1 u => y3 y b0 b1 (c2 y b0 b1 u), fun t t1 t2 => y4 t (c3 t t1 t2) (t2 a ha.1 ha.2), fb, y8.trans c5, fun u b b0 b1 => ?_, by omega, fun u => ?_⟩
  · rcases or01 hx hz with ⟨-, o1, o2⟩ | ⟨o, -⟩
    · obtain ⟨k1, k2, k3⟩ := g0 o2
      have ecx : cx = cu := by
        rcases y7 with ⟨y7, -⟩ | y7
        · exact y7
        · omega
      rw [ecx]
      by_cases e : b = a
      · rw [e]
        exact k3
      · exact c6 o1 b b0 (by omega)
    · omega
  · rcases or01 hx hz with ⟨o, -⟩ | ⟨-, o | o⟩
    · omega
    · have := c8 o
      omega
    · have := g1 o
      omega
def cCl (d l z : Int) (M : nM) : Prop := ((l < 0 ∨ M 3 15 ≤ l) ∧ z = -1) ∨ (0 ≤ l ∧ l < M 3 15 ∧ (0 ≤ z ∧ z ≤ 134217727) ∧ (∀ y : Int, pw d (M (79 + 2 * l) 0) ≤ y → y ≤ 26 → ¬ bt z y) ∧ sub27 (M (79 + 2 * l) 1) z ∧ CKP d M (M (79 + 2 * l) 0) z ∧ ∀ t : Int, sub27 (M (79 + 2 * l) 1) t → CKP d M (M (79 + 2 * l) 0) t → sub27 z t)
def mCl (d l z : Int) (M : nM) : Prop := ((l < 0 ∨ M 112 7 ≤ l) ∧ z = -1) ∨ (0 ≤ l ∧ l < M 112 7 ∧ (0 ≤ z ∧ z ≤ 134217727) ∧ CLS d M (M 118 l) (M 119 l) z)
theorem RLX.cl {d ac l z z2 : Int} {M0 M M1 : nM} (hd : d = 2 ∨ d = 3) (h : RLX d M) (hS : Sf d ac M0 M) (c : cCl d l z M) (e : Eqc M M1) (m : mCl d l z2 M1) : z = z2 := by
  have g2 := h.1.2.2.1
  have e7 := e 112 7 (by unfold core; omega)
  rcases c with ⟨p, rfl⟩ | ⟨p1, p2, p3, p4, p5, p6, p7⟩ <;> rcases m with ⟨q, rfl⟩ | ⟨q1, q2, q3, q4, q5, q6⟩
  · rfl
  · have := g2.1
    omega
  · have := g2.1
    omega
  · have l1 := g2.2 l p1 p2
    have k1 : M1 118 l = M (79 + 2 * l) 0 := (e 118 l (by unfold core; omega)).trans l1.1.symm
    have k2 : M1 119 l = M (79 + 2 * l) 1 := (e 119 l (by unfold core; omega)).trans l1.2.symm
    rw [k2] at q4
    rw [k1] at q5
    rw [k1, k2] at q6
    have a1 := q6 z (by omega) (by omega) p5 ((AKP.of e).mpr ((h.1.ckp hd).mp p6))
    have a2 := p7 z2 q4 ((h.1.ckp hd).mpr ((AKP.of e).mp q5))
    exact bt_ext p3 q3 (fun y y0 y1 => ⟨fun u => a2 y y0 y1 u, fun u => a1 y y0 y1 u⟩)
theorem RL.sb {d ac : Int} {M0 M : nM} (h : RL d M) (hS : Sf d ac M0 M) : ∀ l : Int, 0 ≤ l → l < M 3 15 → 0 ≤ M (79 + 2 * l) 1 ∧ M (79 + 2 * l) 1 ≤ 134217727 := fun l h0 h1 => by
  rw [(h.2.2.1.2 l h0 h1).2]
  exact t_119 hS h0
theorem RLX.kk {d l : Int} {M : nM} (h : RLX d M) (h0 : 0 ≤ l) (h1 : l < M 3 15) : M (79 + 2 * l) 0 = 1 ∨ M (79 + 2 * l) 0 = 2 ∨ M (79 + 2 * l) 0 = 3 := by
  have q := (h.2 l h0 h1).1.1
  omega
