/-! Each instruction of the small machine, on the machine. -/
def mj_isNest : Jvm.Cond → Bool
  | .methodLinkNest _ _ _ _ => true
  | _ => false
def mj_isAO : Jvm.Cond → Bool
  | .arrayOver (.object _) => true
  | _ => false
def mj_gd (w : Jvm.Cond) : Bool := goodWord w || mj_isNest w || mj_isAO w
def lw_gd : List Jvm.Cond := lw_tbl.filter mj_gd
def mj_Tb (U : State) : Prop := ∀ w ∈ lw_gd, ∀ A : Array Value, w.before A U = true
theorem mj_isNest_c {w : Jvm.Cond} (h : mj_isNest w = true) : ∃ a i x z, w = .methodLinkNest a i x z := by
  cases w <;> first | exact ⟨_, _, _, _, rfl⟩ | exact absurd (show false = true from h) (by decide)
theorem mj_isAO_c {w : Jvm.Cond} (h : mj_isAO w = true) : ∃ n, w = .arrayOver (.object n) := by
  cases w <;> first | exact absurd (show false = true from h) (by decide) | skip
  rename_i ty
  cases ty <;> first | exact ⟨_, rfl⟩ | exact absurd (show false = true from h) (by decide)
theorem mj_Tb.warm {s U : State} (hW : s.WarmedH U.vm) (h : mj_Tb s) : mj_Tb U := by
  intro w hw A
  have hg := (List.mem_filter.mp hw).2
  simp only [mj_gd, Bool.or_eq_true] at hg
  rcases hg with (hg | hg) | hg
  · exact word_at hW (good_of_word hg) (h w hw #[])
  · obtain ⟨a, i, x, z, rfl⟩ := mj_isNest_c hg
    exact va_Nw.use rfl (va_Nw.warmM hW (h _ hw #[]))
  · obtain ⟨n, rfl⟩ := mj_isAO_c hg
    exact va_AO.use (va_AO.moved hW.alike (h _ hw #[]))
theorem mj_in {i : Nat} {w : Jvm.Cond} (h : lw_tbl[i]? = some w) (hg : mj_gd w = true) : w ∈ lw_gd := List.mem_filter.mpr ⟨List.mem_of_getElem? h, hg⟩
def mj_ety (x : Nat) : FieldType := bif Nat.beq x 13 then .int else bif Nat.beq x 14 then .long else .object (mj_nm (mj_el x))
def mj_arr (U : State) (cA : ClassId) (ty : FieldType) : Prop := ∃ (kA : Class) (comp : ClassId), U.vm.classes[cA]? = some kA ∧ kA.kind = .array comp ty
def mj_K (G : mj_G) (U : State) : Prop := (∀ x, x < 13 → u_Kn U (mj_nm x) (mj_T x) (mj_N x) (G.1 x) (G.2 x)) ∧ ∀ x, 13 ≤ x → x < 18 → mj_arr U (G.1 x) (mj_ety x) ∧ va_RA U (G.1 x) (mj_ety x)
theorem mj_arr.moved {u U : State} {cA : ClassId} {ty : FieldType} (hvm : u.vm.Alike U.vm) (h : mj_arr u cA ty) : mj_arr U cA ty := by
  obtain ⟨kA, comp, h1, h2⟩ := h
  obtain ⟨k', hk', he⟩ := hvm.2.2 _ _ h1
  exact ⟨k', comp, hk', by rw [he]; exact h2⟩
theorem mj_K.moved {G : mj_G} {u U : State} (hvm : u.vm.Alike U.vm) (h : mj_K G u) : mj_K G U := ⟨fun x hx => u_Kn_moved hvm (h.1 x hx), fun x h1 h2 => ⟨(h.2 x h1 h2).1.moved hvm, (h.2 x h1 h2).2.moved hvm⟩⟩
theorem mj_arr.of {U : State} {cA : ClassId} {ty : FieldType} (h : mj_arr U cA ty) {cell : Cell} (h1 : cell.cls = cA) (h2 : cell.vm = .none) : U.isArrayOf cell ty := by
  obtain ⟨kA, comp, h3, h4⟩ := h
  exact ⟨fun k q => (by rw [h2] at q; cases q), kA, (by rw [h1]; exact h3), comp, h4⟩
theorem mj_idx {xs : List Value} {i : Int32} {v : Value} (hi : ¬ i < 0) (hv : xs[i.toNatClampNeg]? = some v) {n : Nat} (hn : xs.length ≤ n) : ¬ (i < 0 ∨ n ≤ i.toNatClampNeg) := by
  have := (List.getElem?_eq_some_iff.mp hv).1
  intro q
  rcases q with q | q
  · exact hi q
  · omega
theorem mj_at.set {G : mj_G} {ad : Nat → Nat} {H1 : Heap} {a y pl : Nat} {vs : List Value} {v : Value} {cell : Cell} (hinj : ∀ u w : Nat, u < vs.length → w < vs.length → u ≠ w → mj_slot G y u ≠ mj_slot G y w) (h1 : cell.cls = G.1 y) (h2 : cell.vm = .none) (h3 : 13 ≤ y → cell.slots.size = vs.length) (h4 : y < 13 → vs.length = mj_N y) (h5 : ∀ (k : Nat) (w : Value), vs[k]? = some w → cell.slots[mj_slot G y k]? = some (mj_cv ad w)) (hpl : pl < vs.length) (hH : H1[a]? = some (cell.setSlot (mj_slot G y pl) (mj_cv ad v))) : mj_at G ad H1 a (y, vs.set pl v) := by
  refine ⟨_, hH, h1, h2, fun q => ?_, fun q => by rw [List.length_set]; exact h4 q, fun k w hk => ?_⟩
  · show (cell.setSlot _ _).slots.size = (vs.set pl v).length
    rw [List.length_set, ← h3 q]
    simp [Cell.setSlot]
  · have hk : (vs.set pl v)[k]? = some w := hk
    have hsl : mj_slot G y pl < cell.slots.size := by
      have := h5 pl _ (List.getElem?_eq_getElem hpl)
      exact (Array.getElem?_eq_some_iff.mp this).1
    by_cases e : k = pl
    · subst e
      rw [List.getElem?_set_self hpl] at hk
      cases hk
      show (cell.slots.setIfInBounds _ _)[_]? = _
      simp [hsl]
    · rw [List.getElem?_set_ne (Ne.symm e)] at hk
      have hkl := (List.getElem?_eq_some_iff.mp hk).1
      show (cell.slots.setIfInBounds _ _)[_]? = _
      rw [Array.getElem?_setIfInBounds_ne (hinj pl k hpl hkl (Ne.symm e))]
      exact h5 k w hk
theorem mj_inj_a {G : mj_G} {y : Nat} (hy : 13 ≤ y) {n : Nat} : ∀ u w : Nat, u < n → w < n → u ≠ w → mj_slot G y u ≠ mj_slot G y w := by
  intro u w _ _ h
  have hb : Nat.ble 13 y = true := Nat.ble_eq_true_of_le hy
  simp only [mj_slot, hb, cond_true]
  exact h
theorem mj_slot_a {G : mj_G} {y k : Nat} (hy : 13 ≤ y) : mj_slot G y k = k := by
  have hb : Nat.ble 13 y = true := Nat.ble_eq_true_of_le hy
  simp only [mj_slot, hb, cond_true]
theorem mj_slot_o {G : mj_G} {y k : Nat} (hy : y < 13) : mj_slot G y k = G.2 y k := by
  have hb : Nat.ble 13 y = false := by
    cases h : Nat.ble 13 y with
    | false => rfl
    | true => have := Nat.le_of_ble_eq_true h; omega
  simp only [mj_slot, hb, cond_false]
theorem mj_isI_c {y : Nat} (h : mj_isI y = true) : y = 13 ∨ y = 18 := by
  simp only [mj_isI, Bool.or_eq_true] at h
  rcases h with h | h
  · exact Or.inl (Nat.eq_of_beq_eq_true h)
  · exact Or.inr (Nat.eq_of_beq_eq_true h)
theorem mj_isR_c {y : Nat} (h : mj_isR y = true) : y = 15 ∨ y = 16 ∨ y = 17 := by
  simp only [mj_isR, Bool.or_eq_true] at h
  rcases h with (h | h) | h
  · exact Or.inl (Nat.eq_of_beq_eq_true h)
  · exact Or.inr (Or.inl (Nat.eq_of_beq_eq_true h))
  · exact Or.inr (Or.inr (Nat.eq_of_beq_eq_true h))
section MJR
variable {p : Program} {l : Launch} {e : Env} {R : Room} {s : State} {m : MethodId} {args : Array Value} {below : List Frame} {meth : Method} {c : Code} {H : Heap} {locs : List Loc} {cells slots : Nat} {Q : State → Prop}
variable {cc : ByteArray} {pc : Nat} {ls : Array Slot} {rest : List Value} {G : mj_G} {ad : Nat → Nat} {B0 : Nat} {hp : List mj_C}
theorem mj_r_iald (hexec : p.tables.exec = Jvm.exec) (hb : c.code = cc) (hK : mj_K G s) (hW : mj_W G ad B0 s hp H) {q y : Nat} {vs : List Value} {i x : Int32} (hq : hp[q]? = some (y, vs)) (hy : mj_isI y = true) (hi : ¬ i < 0) (hv : vs[i.toNatClampNeg]? = some (.int x)) (hdg : decode cc pc = .ok (.iaload, 1))
    (kk : W p l e R s m args below meth c H locs cells slots Q (F0 m (pc + 1) ls (.int x :: rest))) : W p l e R s m args below meth c H locs cells slots Q (F0 m pc ls (.int i :: .ref (ad q) :: rest)) := by
  rcases hW.1 q _ hq with ⟨-, cell, h1, h2, h3, h4, -, h6⟩ | ⟨hl, -, cell, h1, h2, h3, h4, -, h6⟩
  · exact W.iald (v := .int x) hexec hb h1 h2 h3 (mj_idx hi hv h4) (h6 _ _ hv).2 rfl rfl hdg kk
  · have hy13 : y = 13 := by
      have hy := mj_isI_c hy
      have hl : y < 18 := hl
      omega
    subst hy13
    have h5 := h6 _ _ hv
    rw [mj_slot_a (Nat.le_refl _)] at h5
    exact W.iald (v := .int x) hexec hb h1 ((hK.2 13 (by omega) (by omega)).1.of h2 h3) (by rw [h3]; exact fun h => by cases h) (mj_idx hi hv (by rw [h4 (Nat.le_refl _)]; exact Nat.le_refl _)) h5 rfl rfl hdg kk
theorem mj_r_lald (hexec : p.tables.exec = Jvm.exec) (hb : c.code = cc) (hK : mj_K G s) (hW : mj_W G ad B0 s hp H) {q : Nat} {vs : List Value} {i : Int32} {x : Int64} (hq : hp[q]? = some (14, vs)) (hi : ¬ i < 0) (hv : vs[i.toNatClampNeg]? = some (.long x)) (hdg : decode cc pc = .ok (.laload, 1))
    (kk : W p l e R s m args below meth c H locs cells slots Q (F0 m (pc + 1) ls (.long x :: rest))) : W p l e R s m args below meth c H locs cells slots Q (F0 m pc ls (.int i :: .ref (ad q) :: rest)) := by
  rcases hW.1 q _ hq with ⟨h0, -⟩ | ⟨hl, -, cell, h1, h2, h3, h4, -, h6⟩
  · exact absurd h0 (by show ¬ (14 : Nat) = 18; decide)
  · have h5 := h6 _ _ hv
    rw [mj_slot_a (show 13 ≤ (14 : Nat) by decide)] at h5
    exact W.lald (v := .long x) hexec hb h1 ((hK.2 14 (by omega) (by omega)).1.of h2 h3) (by rw [h3]; exact fun h => by cases h) (mj_idx hi hv (by rw [h4 (show 13 ≤ (14 : Nat) by decide)]; exact Nat.le_refl _)) h5 rfl rfl hdg kk
theorem mj_isR_lt {y : Nat} (h : mj_isR y = true) : 15 ≤ y ∧ y < 18 := by
  have h := mj_isR_c h
  omega
theorem mj_r_aald (hexec : p.tables.exec = Jvm.exec) (hb : c.code = cc) (hK : mj_K G s) (hW : mj_W G ad B0 s hp H) {q y : Nat} {vs : List Value} {i : Int32} {x : Nat} (hq : hp[q]? = some (y, vs)) (hy : mj_isR y = true) (hi : ¬ i < 0) (hv : vs[i.toNatClampNeg]? = some (.ref x)) (hdg : decode cc pc = .ok (.aaload, 1))
    (kk : W p l e R s m args below meth c H locs cells slots Q (F0 m (pc + 1) ls (.ref (ad x) :: rest))) : W p l e R s m args below meth c H locs cells slots Q (F0 m pc ls (.int i :: .ref (ad q) :: rest)) := by
  obtain ⟨g1, g2⟩ := mj_isR_lt hy
  rcases hW.1 q _ hq with ⟨h0, -⟩ | ⟨hl, -, cell, h1, h2, h3, h4, -, h6⟩
  · exact absurd h0 (by show ¬ y = 18; omega)
  · have h5 := h6 _ _ hv
    rw [mj_slot_a (show 13 ≤ y by omega)] at h5
    have hty : (mj_ety y).isReference = true := by
      rcases mj_isR_c hy with rfl | rfl | rfl <;> rfl
    exact W.aald (v := .ref (ad x)) (ty := mj_ety y) hexec hb h1 ((hK.2 y (by omega) g2).1.of h2 h3) hty (by rw [h3]; exact fun h => by cases h) (mj_idx hi hv (by rw [h4 (show 13 ≤ y by omega)]; exact Nat.le_refl _)) h5 rfl rfl hdg kk
theorem mj_locs {locs : List Loc} (hL : ∀ q ∈ locs, B0 ≤ q.base) {a k : Nat} (ha : B0 ≤ a) : ∀ q ∈ locs ++ [(⟨a, k⟩ : Loc)], B0 ≤ q.base := fun q hq => by
  rcases List.mem_append.mp hq with h | h
  · exact hL q h
  · rw [List.mem_singleton.mp h]
    exact ha
theorem mj_r_iast (hexec : p.tables.exec = Jvm.exec) (hb : c.code = cc) (hK : mj_K G s) (hW : mj_W G ad B0 s hp H) (hL : ∀ q ∈ locs, B0 ≤ q.base) {q : Nat} {vs : List Value} {i x : Int32} {v0 : Value} (hq : hp[q]? = some (13, vs)) (hi : ¬ i < 0) (hv : vs[i.toNatClampNeg]? = some v0) (hdg : decode cc pc = .ok (.iastore, 1))
    (kk : ∀ (H1 : Heap) (locs1 : List Loc), mj_W G ad B0 s (mj_wr hp q i.toNatClampNeg (.int x)) H1 → (∀ q ∈ locs1, B0 ≤ q.base) → W p l e R s m args below meth c H1 locs1 cells slots Q (F0 m (pc + 1) ls rest)) : W p l e R s m args below meth c H locs cells slots Q (F0 m pc ls (.int x :: .int i :: .ref (ad q) :: rest)) := by
  rcases hW.1 q _ hq with ⟨h0, -⟩ | ⟨hl, hB, cell, h1, h2, h3, h4, h5, h6⟩
  · exact absurd h0 (by show ¬ (13 : Nat) = 18; decide)
  · have hlt := (List.getElem?_eq_some_iff.mp hv).1
    refine W.iast hexec hb h1 ((hK.2 13 (by omega) (by omega)).1.of h2 h3) (by rw [h3]; exact fun h => by cases h) (mj_idx hi hv (by rw [h4 (Nat.le_refl _)]; exact Nat.le_refl _)) rfl rfl hdg fun H1 e1 e2 e3 => ?_
    refine kk H1 _ (hW.write hq hB (by decide) (mj_at.set (mj_inj_a (Nat.le_refl _)) h2 h3 h4 h5 h6 hlt ?_) e2 e3) (mj_locs hL hB)
    rw [mj_slot_a (Nat.le_refl _)]
    exact e1
theorem mj_r_last (hexec : p.tables.exec = Jvm.exec) (hb : c.code = cc) (hK : mj_K G s) (hW : mj_W G ad B0 s hp H) (hL : ∀ q ∈ locs, B0 ≤ q.base) {q : Nat} {vs : List Value} {i : Int32} {x : Int64} {v0 : Value} (hq : hp[q]? = some (14, vs)) (hi : ¬ i < 0) (hv : vs[i.toNatClampNeg]? = some v0) (hdg : decode cc pc = .ok (.lastore, 1))
    (kk : ∀ (H1 : Heap) (locs1 : List Loc), mj_W G ad B0 s (mj_wr hp q i.toNatClampNeg (.long x)) H1 → (∀ q ∈ locs1, B0 ≤ q.base) → W p l e R s m args below meth c H1 locs1 cells slots Q (F0 m (pc + 1) ls rest)) : W p l e R s m args below meth c H locs cells slots Q (F0 m pc ls (.long x :: .int i :: .ref (ad q) :: rest)) := by
  have h14 : 13 ≤ (14 : Nat) := by decide
  rcases hW.1 q _ hq with ⟨h0, -⟩ | ⟨hl, hB, cell, h1, h2, h3, h4, h5, h6⟩
  · exact absurd h0 (by show ¬ (14 : Nat) = 18; decide)
  · have hlt := (List.getElem?_eq_some_iff.mp hv).1
    refine W.last hexec hb h1 ((hK.2 14 (by omega) (by omega)).1.of h2 h3) (by rw [h3]; exact fun h => by cases h) (mj_idx hi hv (by rw [h4 h14]; exact Nat.le_refl _)) rfl rfl hdg fun H1 e1 e2 e3 => ?_
    refine kk H1 _ (hW.write hq hB (by decide) (mj_at.set (mj_inj_a h14) h2 h3 h4 h5 h6 hlt ?_) e2 e3) (mj_locs hL hB)
    rw [mj_slot_a h14]
    exact e1
theorem mj_r_aast (hexec : p.tables.exec = Jvm.exec) (hb : c.code = cc) (hK : mj_K G s) (hW : mj_W G ad B0 s hp H) (hL : ∀ q ∈ locs, B0 ≤ q.base) {q y : Nat} {vs : List Value} {i : Int32} {x cx : Nat} {xs : List Value} {v0 : Value} (hq : hp[q]? = some (y, vs)) (hy : mj_isR y = true) (hi : ¬ i < 0) (hv : vs[i.toNatClampNeg]? = some v0) (hx : hp[x]? = some (cx, xs)) (hcx : cx = mj_el y) (hdg : decode cc pc = .ok (.aastore, 1))
    (kk : ∀ (H1 : Heap) (locs1 : List Loc), mj_W G ad B0 s (mj_wr hp q i.toNatClampNeg (.ref x)) H1 → (∀ q ∈ locs1, B0 ≤ q.base) → W p l e R s m args below meth c H1 locs1 cells slots Q (F0 m (pc + 1) ls rest)) : W p l e R s m args below meth c H locs cells slots Q (F0 m pc ls (.ref (ad x) :: .int i :: .ref (ad q) :: rest)) := by
  obtain ⟨g1, g2⟩ := mj_isR_lt hy
  have hy13 : 13 ≤ y := by omega
  have hel : mj_el y < 13 ∧ mj_ety y = .object (mj_nm (mj_el y)) := by
    rcases mj_isR_c hy with rfl | rfl | rfl <;> exact ⟨by decide, rfl⟩
  rcases hW.1 q _ hq with ⟨h0, -⟩ | ⟨hl, hB, cell, h1, h2, h3, h4, h5, h6⟩
  · exact absurd h0 (by show ¬ y = 18; omega)
  · rcases hW.1 x _ hx with ⟨h0, -⟩ | ⟨-, -, cellV, w1, w2, w3, -⟩
    · exact absurd h0 (by show ¬ cx = 18; omega)
    · have hlt := (List.getElem?_eq_some_iff.mp hv).1
      have hcls := (hK.1 _ hel.1).2
      have hRA := (hK.2 y hy13 g2).2
      rw [hel.2] at hRA
      obtain ⟨kA, comp, k1, k2, k3, -⟩ := hRA
      have hcomp : comp = G.1 (mj_el y) := Option.some.inj (k3.symm.trans hcls.1)
      subst hcomp
      subst hcx
      obtain ⟨kC, hkC, -⟩ := hcls.2
      refine W.aast hexec hb h1 (fun q h => by rw [h3] at h; cases h) (by rw [h3]; exact fun h => by cases h) (by rw [h2]; exact k1) k2 rfl hkC ⟨hi, by rw [h4 hy13]; exact hlt⟩ w1 (fun q h => by rw [w3] at h; cases h) (by rw [w2]; exact hkC) (by rw [w2]; exact va_assign hcls) rfl rfl hdg fun H1 e1 e2 e3 => ?_
      refine kk H1 _ (hW.write hq hB (by show y < 18; omega) (mj_at.set (mj_inj_a hy13) h2 h3 h4 h5 h6 hlt ?_) e2 e3) (mj_locs hL hB)
      rw [mj_slot_a hy13]
      exact e1
theorem mj_r_alen (hexec : p.tables.exec = Jvm.exec) (hb : c.code = cc) (hK : mj_K G s) (hW : mj_W G ad B0 s hp H) {q y : Nat} {vs : List Value} (hq : hp[q]? = some (y, vs)) (hy : 13 ≤ y) (hdg : decode cc pc = .ok (.arraylength, 1))
    (kk : W p l e R s m args below meth c H locs cells slots Q (F0 m (pc + 1) ls (.int (Int32.ofNat vs.length) :: rest))) : W p l e R s m args below meth c H locs cells slots Q (F0 m pc ls (.ref (ad q) :: rest)) := by
  rcases hW.1 q _ hq with ⟨-, cell, h1, h2, h3, h4, h5, h6⟩ | ⟨hl, -, cell, h1, h2, h3, h4, -, h6⟩
  · exact W.alen hexec hb h1 h2 h5 rfl rfl hdg kk
  · exact W.alen hexec hb h1 ((hK.2 y hy hl).1.of h2 h3) (by rw [h4 hy]) rfl rfl hdg kk
theorem mj_r_getf (hexec : p.tables.exec = Jvm.exec) (hb : c.code = cc) (hT : mj_Tb s) (hK : mj_K G s) (hW : mj_W G ad B0 s hp H) {own : String} {index : Nat} (hown : s.vm.findClass own = some m.cls) {q y k : Nat} {vs : List Value} {v : Value} (hq : hp[q]? = some (y, vs)) (hy : y < 13) (hk : k < mj_N y) (hws : ∀ w ∈ u_ws (mj_nm y) (mj_T y) (mj_N y), w ∈ lw_gd) (hlink : Jvm.Cond.fieldLink own index (mj_nm y) (mj_T y k).2.1 (mj_T y k).2.2.1 ∈ lw_gd) (hcl : (mj_T y k).1 = mj_nm y) (hv : vs[k]? = some v) (hdg : decode cc pc = .ok (.getfield index, 3))
    (kk : W p l e R s m args below meth c H locs cells slots Q (F0 m (pc + 3) ls (mj_cv ad v :: rest))) : W p l e R s m args below meth c H locs cells slots Q (F0 m pc ls (.ref (ad q) :: rest)) := by
  rcases hW.1 q _ hq with ⟨h0, -⟩ | ⟨hl, hB, cell, h1, h2, h3, h4, h5, h6⟩
  · exact absurd h0 (by show ¬ y = 18; omega)
  · have hts : ∀ w ∈ lw_gd, w.before args s = true := fun w h => hT w h args
    obtain ⟨hS, hfc, kC, hkC, hkind⟩ := hK.1 y hy
    obtain ⟨cf, kf, fi, f, hi, hsl⟩ := hS k hk
    have h7 := h6 _ _ hv
    rw [mj_slot_o hy] at h7
    exact W.getf hexec hb hown (hts _ hlink) (by rw [← hcl]; exact hi) (u_facts hfc hkC (u_lays hts hws hk) hi).1 h1 (by rw [h3]; exact fun h => by cases h) (v := mj_cv ad v) (by rw [hsl]; exact h7) rfl rfl hdg kk
theorem mj_r_putf (hexec : p.tables.exec = Jvm.exec) (hb : c.code = cc) (hT : mj_Tb s) (hK : mj_K G s) (hW : mj_W G ad B0 s hp H) (hL : ∀ q ∈ locs, B0 ≤ q.base) {own : String} {index : Nat} (hown : s.vm.findClass own = some m.cls) {q y k : Nat} {vs : List Value} {v v0 : Value} (hq : hp[q]? = some (y, vs)) (hy : y < 13) (hk : k < mj_N y) (hws : ∀ w ∈ u_ws (mj_nm y) (mj_T y) (mj_N y), w ∈ lw_gd) (hty : ∀ k, k < mj_N y → parseFieldDescriptor (mj_T y k).2.2.1 = some (mj_ty y k)) (hnm : ∀ a, a < mj_N y → ∀ b, b < mj_N y → a ≠ b → (mj_T y a).2.1 ≠ (mj_T y b).2.1) (hlink : Jvm.Cond.fieldLink own index (mj_nm y) (mj_T y k).2.1 (mj_T y k).2.2.1 ∈ lw_gd) (hcl : (mj_T y k).1 = mj_nm y) (hv : vs[k]? = some v0)
    (hfin : (mj_T y k).2.2.2 = false ∨ (mj_nm y = own ∧ meth.name = "<init>")) (hn : narrow (mj_ty y k) (mj_cv ad v) = mj_cv ad v) (hfit : fits (mj_ty y k) (mj_cv ad v) = true) (hdg : decode cc pc = .ok (.putfield index, 3))
    (kk : ∀ (H1 : Heap) (locs1 : List Loc), mj_W G ad B0 s (mj_wr hp q k v) H1 → (∀ q ∈ locs1, B0 ≤ q.base) → W p l e R s m args below meth c H1 locs1 cells slots Q (F0 m (pc + 3) ls rest)) : W p l e R s m args below meth c H locs cells slots Q (F0 m pc ls (mj_cv ad v :: .ref (ad q) :: rest)) := by
  rcases hW.1 q _ hq with ⟨h0, -⟩ | ⟨hl, hB, cell, h1, h2, h3, h4, h5, h6⟩
  · exact absurd h0 (by show ¬ y = 18; omega)
  · have hts : ∀ w ∈ lw_gd, w.before args s = true := fun w h => hT w h args
    have hlen : vs.length = mj_N y := h5 hy
    obtain ⟨hS, hfc, kC, hkC, hkind⟩ := hK.1 y hy
    have hap : ∀ u w : Nat, u < vs.length → w < vs.length → u ≠ w → mj_slot G y u ≠ mj_slot G y w := by
      intro u w hu hw hne
      rw [mj_slot_o hy, mj_slot_o hy]
      obtain ⟨_, _, _, fa, hia, ea⟩ := hS u (by omega)
      obtain ⟨_, _, _, fb, hib, eb⟩ := hS w (by omega)
      rw [← ea, ← eb]
      refine u_apart (u_lays hts hws (by omega)) (u_lays hts hws (by omega)) hia hib ?_
      rw [(State.fieldFound?_type hia (hty u (by omega))).1, (State.fieldFound?_type hib (hty w (by omega))).1]
      exact hnm u (by omega) w (by omega) hne
    obtain ⟨cf, kf, fi, f, hi, hsl⟩ := hS k hk
    have hlay := hts _ (hws _ (u_in_lay hk))
    have hst := (u_facts hfc hkC (u_lays hts hws hk) hi).1
    have hlt : f.slot < cell.slots.size := by
      have := h6 _ _ hv
      rw [mj_slot_o hy, ← hsl] at this
      exact (Array.getElem?_eq_some_iff.mp this).1
    have go : ∀ H1 : Heap, H1[ad q]? = some (cell.setSlot f.slot (mj_cv ad v)) → H1.size = H.size → (∀ z, z ≠ ad q → H1[z]? = H[z]?) → W p l e R s m args below meth c H1 (locs ++ [⟨ad q, f.slot⟩]) cells slots Q (F0 m (pc + 3) ls rest) := by
      intro H1 e1 e2 e3
      refine kk H1 _ (hW.write hq hB (by show y < 18; omega) (mj_at.set hap h2 h3 h4 h5 h6 (by omega) ?_) e2 e3) (mj_locs hL hB)
      rw [mj_slot_o hy, ← hsl]
      exact e1
    have hi' : s.fieldFound? (mj_nm y) (mj_T y k).2.1 (mj_T y k).2.2.1 = some (cf, kf, fi, f) := by rw [← hcl]; exact hi
    by_cases hf : (mj_T y k).2.2.2 = true
    · rcases hfin with hfin | ⟨hdecl, hin⟩
      · rw [hfin] at hf; cases hf
      · unfold u_lay at hlay
        rw [if_pos hf] at hlay
        have hcf : m.cls = cf := by
          obtain ⟨_, _, c', _, _, _, -, -, hf', -, -, -, hown2, -⟩ := Cond.laysFinal_spec hlay
          have e1 : c' = cf := by have := hi.symm.trans hf'; simp at this; exact this.1.symm
          rw [hcl, hdecl] at hown2
          rw [← e1]; exact Option.some.inj (hown.symm.trans hown2)
        have h8 := u_fits hfc hkC hkind (Or.inr hlay) hi (hty k hk) hn hfit
        exact W.putFinK hexec hb hown (hts _ hlink) hi' hst hcf hin (by rw [h2]; exact h8) h1 h3 hlt rfl rfl hdg go
    · unfold u_lay at hlay
      rw [if_neg hf] at hlay
      have h8 := u_store hfc hkC hkind hlay hi (hty k hk) hn hfit
      exact W.putK hexec hb (f := f) ⟨hown, hts _ hlink, ⟨_, _, _, hi'⟩, hst⟩ (by rw [h2]; exact h8) h1 h3 hlt rfl rfl hdg go
theorem mj_r_gets (hexec : p.tables.exec = Jvm.exec) (hb : c.code = cc) (hT : mj_Tb s) (hW : mj_W G ad B0 s hp H) {own : String} {index r : Nat} (hr : r < 2) (hown : s.vm.findClass own = some m.cls) (hlink : Jvm.Cond.fieldLink own index "ActBench" (mj_sn r) "[I" ∈ lw_gd) (hdg : decode cc pc = .ok (.getstatic index, 3))
    (kk : W p l e R s m args below meth c H locs cells slots Q (F0 m (pc + 3) ls (.ref (ad r) :: rest))) : W p l e R s m args below meth c H locs cells slots Q (F0 m pc ls rest) := by
  obtain ⟨cf, kf, fi, f, a, cell, h1, h2, h3, h4, h5, h6, h7, h8⟩ := hW.2.2.2.2 r hr
  exact W.gets hexec hb hown (hT _ hlink args) h1 h2 h3 h4 h5 (fun e => by rw [e] at h6; cases h6) h7 rfl hdg kk
theorem mj_r_new (hexec : p.tables.exec = Jvm.exec) (hb : c.code = cc) (hT : mj_Tb s) (hK : mj_K G s) (hW : mj_W G ad B0 s hp H) {own : String} {index y : Nat} (hy : y < 13) (hown : s.vm.findClass own = some m.cls) (hws : ∀ w ∈ u_ws (mj_nm y) (mj_T y) (mj_N y), w ∈ lw_gd) (hty : ∀ k, k < mj_N y → parseFieldDescriptor (mj_T y k).2.2.1 = some (mj_ty y k)) (hcl : Jvm.Cond.classLink own index (mj_nm y) ∈ lw_gd) (hinst : Jvm.Cond.instantiable (mj_nm y) (mj_N y) ∈ lw_gd) (hini : Jvm.Cond.initialized (mj_nm y) ∈ lw_gd) (hcells : cells + 1 ≤ R.cells) (hslots : slots + mj_N y ≤ R.slots) (hdg : decode cc pc = .ok (.new index, 3))
    (kk : ∀ H1 : Heap, mj_W G ad B0 s (hp ++ [mj_blank y]) H1 → W p l e R s m args below meth c H1 locs (cells + 1) (slots + mj_N y) Q (F0 m (pc + 3) ls (.ref (ad hp.length) :: rest))) : W p l e R s m args below meth c H locs cells slots Q (F0 m pc ls rest) := by
  have hts : ∀ w ∈ lw_gd, w.before args s = true := fun w h => hT w h args
  have hKn := hK.1 y hy
  refine W.newcK hexec hb hown (hts _ hcl) (hts _ hinst) (hts _ hini) rfl hdg hcells hslots hKn.2.1 rfl fun H1 kC hkC e1 z1 o1 => ?_
  obtain ⟨cell, b1, b2, b3, b4⟩ := u_born (mj_ty y) hts hws hKn hkC e1 hty
  have hlen : ((List.range (mj_N y)).map (fun k => defaultValue (mj_ty y k))).length = mj_N y := by simp
  obtain ⟨hW1, ha⟩ := hW.push (x := mj_blank y) (by show y < 18; omega) ⟨cell, b1, b2, b3, fun (q : 13 ≤ y) => by omega, fun _ => hlen, fun k v hk => by
    have hk : ((List.range (mj_N y)).map (fun k => defaultValue (mj_ty y k)))[k]? = some v := hk
    have hkl : k < mj_N y := by have := (List.getElem?_eq_some_iff.mp hk).1; omega
    rw [List.getElem?_map, List.getElem?_range hkl] at hk
    have hk : defaultValue (mj_ty y k) = v := Option.some.inj hk
    rw [show mj_slot G (mj_blank y).1 k = G.2 y k from mj_slot_o hy, b4 k hkl]
    show some (defaultValue (mj_ty y k)) = _
    rw [← hk]
    cases mj_ty y k <;> rfl⟩ z1 o1
  have := kk H1 hW1
  rw [ha] at this
  exact this
theorem mj_arrZ {G : mj_G} {ad : Nat → Nat} {H1 : Heap} {a y N : Nat} {v : Value} (hy : 13 ≤ y) (hv : mj_cv ad v = v) {cell : Cell} (h : H1[a]? = some cell) (h1 : cell.cls = G.1 y) (h2 : cell.vm = .none) (h3 : cell.slots.size = N) (h4 : ∀ k, k < N → cell.slots[k]? = some v) : mj_at G ad H1 a (y, List.replicate N v) := by
  refine ⟨cell, h, h1, h2, fun _ => by show _ = (List.replicate N v).length; rw [List.length_replicate]; exact h3, fun (q : y < 13) => by omega, fun k w hk => ?_⟩
  have hk : (List.replicate N v)[k]? = some w := hk
  rw [List.getElem?_replicate] at hk
  split at hk
  · rename_i hkN
    cases hk
    rw [show mj_slot G (y, List.replicate N v).1 k = k from mj_slot_a hy, hv]
    exact h4 k hkN
  · cases hk
theorem mj_r_newaI (hexec : p.tables.exec = Jvm.exec) (hb : c.code = cc) (hT : mj_Tb s) (hK : mj_K G s) (hW : mj_W G ad B0 s hp H) {n : Int32} (hn : ¬ n < 0) (hN : n.toNatClampNeg ≤ 1000000) (hcells : cells + 1 ≤ R.cells) (hslots : slots + n.toNatClampNeg ≤ R.slots) (hw : Jvm.Cond.arrayClass .int ∈ lw_gd) (hdg : decode cc pc = .ok (.newarray .int, 2))
    (kk : ∀ H1 : Heap, mj_W G ad B0 s (hp ++ [(13, List.replicate n.toNatClampNeg (.int 0))]) H1 → W p l e R s m args below meth c H1 locs (cells + 1) (slots + n.toNatClampNeg) Q (F0 m (pc + 2) ls (.ref (ad hp.length) :: rest))) : W p l e R s m args below meth c H locs cells slots Q (F0 m pc ls (.int n :: rest)) := by
  refine va_newaK (atype := .int) hexec hb (hT _ hw args) rfl hdg rfl hn rfl (by show _ * 4 ≤ _; omega) hcells hslots rfl fun H1 cA e1 z1 o1 hAr hNm => ?_
  have hc : cA = G.1 13 := Option.some.inj (hNm.symm.trans (hK.2 13 (by omega) (by omega)).2)
  obtain ⟨hW1, ha⟩ := hW.push (x := (13, List.replicate n.toNatClampNeg (.int 0))) (show (13 : Nat) < 18 by decide) (mj_arrZ (Nat.le_refl _) rfl e1 hc rfl (arrV_size _ _ _) (fun k hk => arrV_read _ _ hk)) z1 o1
  have := kk H1 hW1
  rw [ha] at this
  exact this
theorem mj_r_newaL (hexec : p.tables.exec = Jvm.exec) (hb : c.code = cc) (hT : mj_Tb s) (hK : mj_K G s) (hW : mj_W G ad B0 s hp H) {n : Int32} (hn : ¬ n < 0) (hN : n.toNatClampNeg ≤ 1000000) (hcells : cells + 1 ≤ R.cells) (hslots : slots + n.toNatClampNeg ≤ R.slots) (hw : Jvm.Cond.arrayClass .long ∈ lw_gd) (hdg : decode cc pc = .ok (.newarray .long, 2))
    (kk : ∀ H1 : Heap, mj_W G ad B0 s (hp ++ [(14, List.replicate n.toNatClampNeg (.long 0))]) H1 → W p l e R s m args below meth c H1 locs (cells + 1) (slots + n.toNatClampNeg) Q (F0 m (pc + 2) ls (.ref (ad hp.length) :: rest))) : W p l e R s m args below meth c H locs cells slots Q (F0 m pc ls (.int n :: rest)) := by
  refine va_newaK (atype := .long) hexec hb (hT _ hw args) rfl hdg rfl hn rfl (by show _ * 8 ≤ _; omega) hcells hslots rfl fun H1 cA e1 z1 o1 hAr hNm => ?_
  have hc : cA = G.1 14 := Option.some.inj (hNm.symm.trans (hK.2 14 (by omega) (by omega)).2)
  obtain ⟨hW1, ha⟩ := hW.push (x := (14, List.replicate n.toNatClampNeg (.long 0))) (show (14 : Nat) < 18 by decide) (mj_arrZ (by decide) rfl e1 hc rfl (arrV_size _ _ _) (fun k hk => arrV_read _ _ hk)) z1 o1
  have := kk H1 hW1
  rw [ha] at this
  exact this
theorem mj_r_anew (hexec : p.tables.exec = Jvm.exec) (hb : c.code = cc) (hT : mj_Tb s) (hK : mj_K G s) (hW : mj_W G ad B0 s hp H) {own : String} {index y : Nat} (hy : mj_isR y = true) (hown : s.vm.findClass own = some m.cls) (hcl : Jvm.Cond.classLink own index (mj_nm (mj_el y)) ∈ lw_gd) (hov : Jvm.Cond.arrayOver (.object (mj_nm (mj_el y))) ∈ lw_gd) {n : Int32} (hn : ¬ n < 0) (hN : n.toNatClampNeg ≤ 1000000) (hcells : cells + 1 ≤ R.cells) (hslots : slots + n.toNatClampNeg ≤ R.slots) (hdg : decode cc pc = .ok (.anewarray index, 3))
    (kk : ∀ H1 : Heap, mj_W G ad B0 s (hp ++ [(y, List.replicate n.toNatClampNeg .null)]) H1 → W p l e R s m args below meth c H1 locs (cells + 1) (slots + n.toNatClampNeg) Q (F0 m (pc + 3) ls (.ref (ad hp.length) :: rest))) : W p l e R s m args below meth c H locs cells slots Q (F0 m pc ls (.int n :: rest)) := by
  obtain ⟨g1, g2⟩ := mj_isR_lt hy
  refine W.anew hexec hb hown (hT _ hcl args) (hT _ hov args) rfl hdg rfl hn (by omega) hcells hslots fun cA kA comp k1 k2 k3 k4 => ?_
  have hRA := (hK.2 y (by omega) g2).2
  have hety : mj_ety y = .object (mj_nm (mj_el y)) := by
    rcases mj_isR_c hy with rfl | rfl | rfl <;> rfl
  rw [hety] at hRA
  obtain ⟨kA', comp', m1, m2, m3, m4⟩ := hRA
  have hc : cA = G.1 y := Option.some.inj (k1.symm.trans m4)
  obtain ⟨hW1, ha⟩ := hW.push (H1 := H.push { cls := cA, slots := Array.replicate n.toNatClampNeg .null, vm := .none }) (x := (y, List.replicate n.toNatClampNeg .null)) (by show y < 18; exact g2) (mj_arrZ (by omega) rfl (cell := { cls := cA, slots := Array.replicate n.toNatClampNeg .null, vm := .none }) (by simp) hc rfl (by simp) (fun k hk => by simp [hk])) (by simp) (fun q hq => by rw [Array.getElem?_push, if_neg (Nat.ne_of_lt hq)])
  have := kk _ hW1
  rw [ha] at this
  exact this
end MJR
