/-! The small machine's state and the machine's: addresses, locals, the world. -/
abbrev mj_G : Type := (Nat → ClassId) × (Nat → Nat → Nat)
def mj_cv (ad : Nat → Nat) (v : Value) : Value := match v with
  | .ref i => .ref (ad i)
  | w => w
theorem mj_cv_cat (ad : Nat → Nat) (v : Value) : (mj_cv ad v).category = v.category := by cases v <;> rfl
def mj_lr (ad : Nat → Nat) (ls : Array Slot) (nL : Nat) (L : mj_L) : Prop := ls.size = nL ∧ lv_wf ls ∧ L.length = nL ∧ ∀ (i : Nat) (v : Value), L[i]? = some (some v) → ls[i]? = some (.val (mj_cv ad v))
def mj_al (ad : Nat → Nat) (L : mj_L) : List (Nat × Value) := (List.range L.length).filterMap (fun i => match L[i]? with
  | some (some v) => some (i, mj_cv ad v)
  | _ => none)
theorem mj_al_of {ad : Nat → Nat} {L : mj_L} {q : Nat × Value} (h : q ∈ mj_al ad L) : ∃ v, L[q.1]? = some (some v) ∧ q.2 = mj_cv ad v := by
  obtain ⟨i, -, hi⟩ := List.mem_filterMap.mp h
  split at hi
  · rename_i v hv
    cases hi
    exact ⟨v, hv, rfl⟩
  · cases hi
theorem mj_al_mem {ad : Nat → Nat} {L : mj_L} {i : Nat} {v : Value} (h : L[i]? = some (some v)) : (i, mj_cv ad v) ∈ mj_al ad L := by
  refine List.mem_filterMap.mpr ⟨i, List.mem_range.mpr (List.getElem?_eq_some_iff.mp h).1, ?_⟩
  rw [h]
theorem mj_lr.has {ad : Nat → Nat} {ls : Array Slot} {nL : Nat} {L : mj_L} (h : mj_lr ad ls nL L) : lv_has ls nL (mj_al ad L) := ⟨h.1, h.2.1, fun q hq => by
  obtain ⟨v, h1, h2⟩ := mj_al_of hq
  rw [h2]
  exact h.2.2.2 _ _ h1⟩
theorem mj_un_s (L : mj_L) (i : Nat) : mj_un L (i + 1) = match L[i]? with
    | some (some w) => if w.category = 2 then L.set i none else L
    | _ => L := rfl
theorem mj_un_len (L : mj_L) (i : Nat) : (mj_un L i).length = L.length := by
  cases i with
  | zero => rfl
  | succ i =>
    rw [mj_un_s]
    split
    · split
      · simp
      · rfl
    · rfl
theorem mj_un_get {L : mj_L} {i k : Nat} {w : Value} (h : (mj_un L i)[k]? = some (some w)) : L[k]? = some (some w) ∧ ¬ (k + 1 = i ∧ w.category = 2) := by
  cases i with
  | zero => exact ⟨h, fun q => by omega⟩
  | succ i =>
    rw [mj_un_s] at h
    split at h
    · rename_i w0 h0
      split at h
      · rename_i hc
        by_cases hk : k = i
        · subst hk
          rw [List.getElem?_set_self (List.getElem?_eq_some_iff.mp h0).1] at h
          cases h
        · rw [List.getElem?_set_ne (Ne.symm hk)] at h
          exact ⟨h, fun q => hk (by omega)⟩
      · rename_i hc
        refine ⟨h, fun q => ?_⟩
        have hk : k = i := by omega
        subst hk
        rw [h0] at h
        cases h
        exact hc q.2
    · rename_i h0
      refine ⟨h, fun q => ?_⟩
      have hk : k = i := by omega
      subst hk
      exact h0 w h
theorem mj_lr.st1 {ad : Nat → Nat} {ls ls' : Array Slot} {nL i : Nat} {L : mj_L} {v : Value} (h : mj_lr ad ls nL L) (hi : i < nL) (h' : lv_has ls' nL ((i, mj_cv ad v) :: (mj_al ad L).filter (fun q => !(q.1 == i) && !(q.1 + 1 == i && q.2.category == 2)))) : mj_lr ad ls' nL (mj_s1 L i v) := by
  refine ⟨h'.1, h'.2.1, by unfold mj_s1; rw [List.length_set, mj_un_len]; exact h.2.2.1, fun k w hk => ?_⟩
  unfold mj_s1 at hk
  by_cases e : k = i
  · subst e
    rw [List.getElem?_set_self (by rw [mj_un_len, h.2.2.1]; exact hi)] at hk
    cases hk
    exact h'.2.2 (k, mj_cv ad v) List.mem_cons_self
  · rw [List.getElem?_set_ne (Ne.symm e)] at hk
    obtain ⟨h1, h2⟩ := mj_un_get hk
    refine h'.2.2 (k, mj_cv ad w) (List.mem_cons_of_mem _ (List.mem_filter.mpr ⟨mj_al_mem h1, ?_⟩))
    simp only [mj_cv_cat, Bool.and_eq_true, Bool.not_eq_true', beq_eq_false_iff_ne, ne_eq, Bool.and_eq_false_imp, beq_iff_eq]
    exact ⟨e, fun q z => h2 ⟨q, z⟩⟩
theorem mj_lr.st2 {ad : Nat → Nat} {ls ls' : Array Slot} {nL i : Nat} {L : mj_L} {v : Value} (h : mj_lr ad ls nL L) (hi : i + 1 < nL) (h' : lv_has ls' nL ((i, mj_cv ad v) :: (mj_al ad L).filter (fun q => !(q.1 == i) && (!(q.1 == i + 1) && !(q.1 + 1 == i && q.2.category == 2))))) : mj_lr ad ls' nL (mj_s2 L i v) := by
  refine ⟨h'.1, h'.2.1, by unfold mj_s2; rw [List.length_set, List.length_set, mj_un_len]; exact h.2.2.1, fun k w hk => ?_⟩
  unfold mj_s2 at hk
  by_cases e1 : k = i + 1
  · subst e1
    rw [List.getElem?_set_self (by rw [List.length_set, mj_un_len, h.2.2.1]; exact hi)] at hk
    cases hk
  · rw [List.getElem?_set_ne (Ne.symm e1)] at hk
    by_cases e : k = i
    · subst e
      rw [List.getElem?_set_self (by rw [mj_un_len, h.2.2.1]; omega)] at hk
      cases hk
      exact h'.2.2 (k, mj_cv ad v) List.mem_cons_self
    · rw [List.getElem?_set_ne (Ne.symm e)] at hk
      obtain ⟨h1, h2⟩ := mj_un_get hk
      refine h'.2.2 (k, mj_cv ad w) (List.mem_cons_of_mem _ (List.mem_filter.mpr ⟨mj_al_mem h1, ?_⟩))
      simp only [mj_cv_cat, Bool.and_eq_true, Bool.not_eq_true', beq_eq_false_iff_ne, ne_eq, Bool.and_eq_false_imp, beq_iff_eq]
      exact ⟨e, e1, fun q z => h2 ⟨q, z⟩⟩
theorem mj_sl_get {ad : Nat → Nat} : ∀ (as : List Value) (i : Nat) (v : Value), (mj_sl as)[i]? = some (some v) → (lg_sl (as.map (mj_cv ad)))[i]? = some (.val (mj_cv ad v))
  | [], i, v, h => by simp [mj_sl] at h
  | a :: as, i, v, h => by
    have e1 : mj_sl (a :: as) = (if a.category = 2 then [some a, none] else [some a]) ++ mj_sl as := rfl
    have e2 : lg_sl ((a :: as).map (mj_cv ad)) = (if a.category = 2 then [.val (mj_cv ad a), .second] else [.val (mj_cv ad a)]) ++ lg_sl (as.map (mj_cv ad)) := by
      show (if (mj_cv ad a).category = 2 then [Slot.val (mj_cv ad a), Slot.second] else [Slot.val (mj_cv ad a)]) ++ lg_sl (as.map (mj_cv ad)) = _
      rw [mj_cv_cat]
    rw [e1] at h
    rw [e2]
    by_cases hc : a.category = 2
    · rw [if_pos hc] at h ⊢
      rcases i with _ | _ | i
      · simp at h; subst h; rfl
      · simp at h
      · exact mj_sl_get as i v (by simpa using h)
    · rw [if_neg hc] at h ⊢
      rcases i with _ | i
      · simp at h; subst h; rfl
      · exact mj_sl_get as i v (by simpa using h)
theorem mj_sl_len {ad : Nat → Nat} (as : List Value) : (lg_sl (as.map (mj_cv ad))).length = (mj_sl as).length := by
  induction as with
  | nil => rfl
  | cons a as ih =>
    show ((if (mj_cv ad a).category = 2 then [Slot.val (mj_cv ad a), Slot.second] else [Slot.val (mj_cv ad a)]) ++ lg_sl (as.map (mj_cv ad))).length = ((if a.category = 2 then [some a, none] else [some a]) ++ mj_sl as).length
    rw [List.length_append, List.length_append, ih, mj_cv_cat]
    split <;> rfl
theorem mj_lr.entry {ad : Nat → Nat} {as : List Value} {n : Nat} (h : (mj_sl as).length ≤ n) : mj_lr ad ((lg_sl (as.map (mj_cv ad)) ++ List.replicate (n - (lg_sl (as.map (mj_cv ad))).length) Slot.unset).toArray) n (mj_ent n as) := by
  have h1 := lv_entry (as.map (mj_cv ad)) (n := n) (by rw [mj_sl_len]; exact h)
  refine ⟨h1.1, h1.2.1, by unfold mj_ent; simp; omega, fun i v hi => ?_⟩
  unfold mj_ent at hi
  have hlt : i < (mj_sl as).length := by
    by_cases q : i < (mj_sl as).length
    · exact q
    · rw [List.getElem?_append_right (by omega), List.getElem?_replicate] at hi
      split at hi <;> cases hi
  rw [List.getElem?_append_left hlt] at hi
  rw [List.getElem?_toArray, List.getElem?_append_left (by rw [mj_sl_len]; exact hlt)]
  exact mj_sl_get as i v hi
/-! the world -/
def mj_slot (G : mj_G) (x k : Nat) : Nat := bif Nat.ble 13 x then k else G.2 x k
def mj_at (G : mj_G) (ad : Nat → Nat) (H : Heap) (a : Nat) (x : mj_C) : Prop := ∃ cell : Cell, H[a]? = some cell ∧ cell.cls = G.1 x.1 ∧ cell.vm = .none ∧ (13 ≤ x.1 → cell.slots.size = x.2.length) ∧ (x.1 < 13 → x.2.length = mj_N x.1) ∧ ∀ (k : Nat) (v : Value), x.2[k]? = some v → cell.slots[mj_slot G x.1 k]? = some (mj_cv ad v)
def mj_ro (U : State) (H : Heap) (a : Nat) (x : mj_C) : Prop := ∃ cell : Cell, H[a]? = some cell ∧ U.isArrayOf cell .int ∧ cell.vm ≠ .unknown ∧ x.2.length ≤ cell.slots.size ∧ cell.slots.size.toInt32 = Int32.ofNat x.2.length ∧ ∀ (k : Nat) (v : Value), x.2[k]? = some v → (∃ z, v = .int z) ∧ cell.slots[k]? = some v
def mj_sn (r : Nat) : String := bif Nat.beq r 0 then "PARTINGS_OF_TWO" else "PARTINGS_OF_THREE"
def mj_W (G : mj_G) (ad : Nat → Nat) (B0 : Nat) (U : State) (hp : List mj_C) (H : Heap) : Prop :=
  (∀ (i : Nat) (x : mj_C), hp[i]? = some x → (x.1 = 18 ∧ mj_ro U H (ad i) x) ∨ (x.1 < 18 ∧ B0 ≤ ad i ∧ mj_at G ad H (ad i) x)) ∧
  (∀ i j : Nat, i < hp.length → j < hp.length → ad i = ad j → i = j) ∧ B0 ≤ H.size ∧ (∀ i : Nat, hp.length ≤ i → ad i = H.size + (i - hp.length)) ∧
  (∀ r : Nat, r < 2 → va_Z "ActBench" (mj_sn r) "[I" (.ref (ad r)) (fun q => B0 ≤ q) U H)
theorem mj_ro.kept {U : State} {H H1 : Heap} {a : Nat} {x : mj_C} (h : mj_ro U H a x) (e : H1[a]? = H[a]?) : mj_ro U H1 a x := by
  obtain ⟨cell, h1, h2⟩ := h
  exact ⟨cell, by rw [e]; exact h1, h2⟩
theorem mj_at.kept {G : mj_G} {ad : Nat → Nat} {H H1 : Heap} {a : Nat} {x : mj_C} (h : mj_at G ad H a x) (e : H1[a]? = H[a]?) : mj_at G ad H1 a x := by
  obtain ⟨cell, h1, h2⟩ := h
  exact ⟨cell, by rw [e]; exact h1, h2⟩
theorem mj_W.moved {G : mj_G} {ad : Nat → Nat} {B0 : Nat} {u U : State} {hp : List mj_C} {H : Heap} (hvm : u.vm.Alike U.vm) (h : mj_W G ad B0 u hp H) : mj_W G ad B0 U hp H := by
  obtain ⟨h1, h2, h3, h4, h5⟩ := h
  refine ⟨fun i x hx => ?_, h2, h3, h4, fun r hr => (h5 r hr).moved hvm⟩
  rcases h1 i x hx with ⟨a, cell, b1, b2, b3⟩ | q
  · exact Or.inl ⟨a, cell, b1, State.isArrayOf_alike hvm b2, b3⟩
  · exact Or.inr q
theorem mj_W.lt {G : mj_G} {ad : Nat → Nat} {B0 : Nat} {U : State} {hp : List mj_C} {H : Heap} (h : mj_W G ad B0 U hp H) {i : Nat} {x : mj_C} (hx : hp[i]? = some x) : ad i < H.size := by
  rcases h.1 i x hx with ⟨-, cell, b1, -⟩ | ⟨-, -, cell, b1, -⟩
  · exact (Array.getElem?_eq_some_iff.mp b1).1
  · exact (Array.getElem?_eq_some_iff.mp b1).1
/-- a place of a cell is written -/
theorem mj_W.write {G : mj_G} {ad : Nat → Nat} {B0 : Nat} {U : State} {hp : List mj_C} {H H1 : Heap} (h : mj_W G ad B0 U hp H) {i pl : Nat} {y : Nat} {vs : List Value} {v : Value} (hx : hp[i]? = some (y, vs)) (hb : B0 ≤ ad i) (hy : y < 18) (he : mj_at G ad H1 (ad i) (y, vs.set pl v)) (hz : H1.size = H.size) (oq : ∀ q, q ≠ ad i → H1[q]? = H[q]?) : mj_W G ad B0 U (mj_wr hp i pl v) H1 := by
  have hl := (List.getElem?_eq_some_iff.mp hx).1
  have e : mj_wr hp i pl v = hp.set i (y, vs.set pl v) := by unfold mj_wr; rw [hx]
  rw [e]
  obtain ⟨h1, h2, h3, h4, h5⟩ := h
  refine ⟨fun k x hk => ?_, by rw [List.length_set]; exact h2, by rw [hz]; exact h3, by rw [List.length_set, hz]; exact h4, fun r hr => (h5 r hr).kept (fun a _ ha => oq a (fun z => ha (by rw [z]; exact hb)))⟩
  by_cases hki : k = i
  · subst hki
    rw [List.getElem?_set_self hl] at hk
    cases hk
    exact Or.inr ⟨hy, hb, he⟩
  · rw [List.getElem?_set_ne (Ne.symm hki)] at hk
    have hne : ad k ≠ ad i := fun z => hki (h2 k i (List.getElem?_eq_some_iff.mp hk).1 hl z)
    rcases h1 k x hk with ⟨a, b⟩ | ⟨a, b, c⟩
    · exact Or.inl ⟨a, b.kept (oq _ hne)⟩
    · exact Or.inr ⟨a, b, c.kept (oq _ hne)⟩
/-- a cell is made -/
theorem mj_W.push {G : mj_G} {ad : Nat → Nat} {B0 : Nat} {U : State} {hp : List mj_C} {H H1 : Heap} (h : mj_W G ad B0 U hp H) {x : mj_C} (hy : x.1 < 18) (he : mj_at G ad H1 H.size x) (hz : H1.size = H.size + 1) (oq : ∀ q, q < H.size → H1[q]? = H[q]?) : mj_W G ad B0 U (hp ++ [x]) H1 ∧ ad hp.length = H.size := by
  have h0 := h
  obtain ⟨h1, h2, h3, h4, h5⟩ := h
  have e0 : ad hp.length = H.size := by have := h4 hp.length (Nat.le_refl _); omega
  refine ⟨⟨fun k z hk => ?_, fun i j hi hj hij => ?_, by omega, fun i hi => ?_, fun r hr => (h5 r hr).kept (fun a ha _ => oq a ha)⟩, e0⟩
  · by_cases hl : k < hp.length
    · rw [List.getElem?_append_left hl] at hk
      have hlt := mj_W.lt h0 hk
      rcases h1 k z hk with ⟨a, b⟩ | ⟨a, b, c⟩
      · exact Or.inl ⟨a, b.kept (oq _ hlt)⟩
      · exact Or.inr ⟨a, b, c.kept (oq _ hlt)⟩
    · have hk1 : k < hp.length + 1 := by have := (List.getElem?_eq_some_iff.mp hk).1; simpa using this
      have hk2 : k = hp.length := by omega
      subst hk2
      rw [List.getElem?_append_right (Nat.le_refl _), Nat.sub_self] at hk
      cases hk
      exact Or.inr ⟨hy, by rw [e0]; exact h3, by rw [e0]; exact he⟩
  · rw [List.length_append] at hi hj
    simp only [List.length_cons, List.length_nil] at hi hj
    have key : ∀ a b : Nat, a < hp.length → b = hp.length → ad a = ad b → False := fun a b ha hb hab => by
      have hlt := mj_W.lt h0 (List.getElem?_eq_getElem ha)
      rw [hb, e0] at hab
      omega
    by_cases a1 : i < hp.length <;> by_cases a2 : j < hp.length
    · exact h2 i j a1 a2 hij
    · exact absurd hij (fun z => key i j a1 (by omega) z)
    · exact absurd hij.symm (fun z => key j i a2 (by omega) z)
    · omega
  · rw [List.length_append] at hi ⊢
    simp only [List.length_cons, List.length_nil] at hi ⊢
    rw [h4 i (by omega), hz]
    omega
