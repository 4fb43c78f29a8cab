/-! What the small machine's steps say backwards. -/
def mj_sz (hp : List mj_C) : Nat := (hp.map (fun x => x.2.length)).sum
theorem mj_wr_len (hp : List mj_C) (i p : Nat) (v : Value) : (mj_wr hp i p v).length = hp.length := by
  unfold mj_wr
  split
  · simp
  · rfl
theorem mj_wr_sz (hp : List mj_C) (i p : Nat) (v : Value) : mj_sz (mj_wr hp i p v) = mj_sz hp := by
  unfold mj_wr
  split
  · rename_i y vs h
    obtain ⟨hlt, he⟩ := List.getElem?_eq_some_iff.mp h
    unfold mj_sz
    rw [List.map_set]
    have e1 : (vs.set p v).length = (hp.map (fun x => x.2.length))[i]'(by simpa using hlt) := by
      rw [List.getElem_map, he, List.length_set]
    show ((hp.map (fun x => x.2.length)).set i (vs.set p v).length).sum = _
    rw [e1, List.set_getElem_self]
  · rfl
theorem mj_push_sz (hp : List mj_C) (x : mj_C) : mj_sz (hp ++ [x]) = mj_sz hp + x.2.length := by
  unfold mj_sz
  simp
section MJI
variable {E : mj_X} {d j nx nx' k : Nat} {L : mj_L} {st : List Value} {hp : List mj_C} {R : Option Value × List mj_C}
theorem mj_v_i2 {f : Int32 → Int32 → Int32} (h : mj_cont E d j nx' L hp (mj_i2 f nx L st) = some R) : ∃ x y r, st = .int y :: .int x :: r ∧ E d j nx L (.int (f x y) :: r) hp = some R := by
  unfold mj_i2 at h
  split at h
  · exact ⟨_, _, _, rfl, h⟩
  · cases h
theorem mj_v_id {f : Int32 → Int32 → Int32} (h : mj_cont E d j nx' L hp (mj_id f nx L st) = some R) : ∃ x y r, st = .int y :: .int x :: r ∧ ¬ y = 0 ∧ E d j nx L (.int (f x y) :: r) hp = some R := by
  unfold mj_id at h
  split at h
  · split at h
    · cases h
    · rename_i h0
      exact ⟨_, _, _, rfl, h0, h⟩
  · cases h
theorem mj_v_l2 {f : Int64 → Int64 → Int64} (h : mj_cont E d j nx' L hp (mj_l2 f nx L st) = some R) : ∃ x y r, st = .long y :: .long x :: r ∧ E d j nx L (.long (f x y) :: r) hp = some R := by
  unfold mj_l2 at h
  split at h
  · exact ⟨_, _, _, rfl, h⟩
  · cases h
theorem mj_v_ld {f : Int64 → Int64 → Int64} (h : mj_cont E d j nx' L hp (mj_ld f nx L st) = some R) : ∃ x y r, st = .long y :: .long x :: r ∧ ¬ y = 0 ∧ E d j nx L (.long (f x y) :: r) hp = some R := by
  unfold mj_ld at h
  split at h
  · split at h
    · cases h
    · rename_i h0
      exact ⟨_, _, _, rfl, h0, h⟩
  · cases h
theorem mj_v_ls {f : Int64 → Int32 → Int64} (h : mj_cont E d j nx' L hp (mj_ls f nx L st) = some R) : ∃ x y r, st = .int y :: .long x :: r ∧ E d j nx L (.long (f x y) :: r) hp = some R := by
  unfold mj_ls at h
  split at h
  · exact ⟨_, _, _, rfl, h⟩
  · cases h
theorem mj_v_i1 {f : Int32 → Value} (h : mj_cont E d j nx' L hp (mj_i1 f nx L st) = some R) : ∃ x r, st = .int x :: r ∧ E d j nx L (f x :: r) hp = some R := by
  unfold mj_i1 at h
  split at h
  · exact ⟨_, _, rfl, h⟩
  · cases h
theorem mj_v_ild {i : Nat} (h : mj_cont E d j nx' L hp (mj_ild i nx L st) = some R) : ∃ x, L[i]? = some (some (.int x)) ∧ E d j nx L (.int x :: st) hp = some R := by
  unfold mj_ild at h
  split at h
  · rename_i x hx
    exact ⟨x, hx, h⟩
  · cases h
theorem mj_v_lld {i : Nat} (h : mj_cont E d j nx' L hp (mj_lld i nx L st) = some R) : ∃ x, L[i]? = some (some (.long x)) ∧ E d j nx L (.long x :: st) hp = some R := by
  unfold mj_lld at h
  split at h
  · rename_i x hx
    exact ⟨x, hx, h⟩
  · cases h
theorem mj_v_ald {i : Nat} (h : mj_cont E d j nx' L hp (mj_ald i nx L st) = some R) : ∃ x, L[i]? = some (some (.ref x)) ∧ E d j nx L (.ref x :: st) hp = some R := by
  unfold mj_ald at h
  split at h
  · rename_i x hx
    exact ⟨x, hx, h⟩
  · cases h
theorem mj_bif {α : Type} {b : Bool} {x : Option α} {R : α} (h : (bif b then x else none) = some R) : b = true ∧ x = some R := by
  cases b with
  | true => exact ⟨rfl, h⟩
  | false => cases h
theorem mj_bifc {b : Bool} {x : Option mj_Act} (h : mj_cont E d j nx' L hp (bif b then x else none) = some R) : b = true ∧ mj_cont E d j nx' L hp x = some R := by
  cases b with
  | true => exact ⟨rfl, h⟩
  | false => cases h
theorem mj_blt {a b : Nat} (h : Nat.blt a b = true) : a < b := Nat.le_of_ble_eq_true h
theorem mj_v_ist {i : Nat} (h : mj_cont E d j nx' L hp (mj_ist i nx L st) = some R) : ∃ x r, st = .int x :: r ∧ i < L.length ∧ E d j nx (mj_s1 L i (.int x)) r hp = some R := by
  unfold mj_ist at h
  split at h
  · obtain ⟨h1, h2⟩ := mj_bifc h
    exact ⟨_, _, rfl, mj_blt h1, h2⟩
  · cases h
theorem mj_v_lst {i : Nat} (h : mj_cont E d j nx' L hp (mj_lst i nx L st) = some R) : ∃ x r, st = .long x :: r ∧ i + 1 < L.length ∧ E d j nx (mj_s2 L i (.long x)) r hp = some R := by
  unfold mj_lst at h
  split at h
  · obtain ⟨h1, h2⟩ := mj_bifc h
    exact ⟨_, _, rfl, mj_blt h1, h2⟩
  · cases h
theorem mj_v_ast {i : Nat} (h : mj_cont E d j nx' L hp (mj_ast i nx L st) = some R) : ∃ x r, st = .ref x :: r ∧ i < L.length ∧ E d j nx (mj_s1 L i (.ref x)) r hp = some R := by
  unfold mj_ast at h
  split at h
  · obtain ⟨h1, h2⟩ := mj_bifc h
    exact ⟨_, _, rfl, mj_blt h1, h2⟩
  · cases h
theorem mj_v_iald (h : mj_cont E d j nx' L hp (mj_iald nx L st hp) = some R) : ∃ i q r y vs x, st = .int i :: .ref q :: r ∧ hp[q]? = some (y, vs) ∧ ¬ i < 0 ∧ mj_isI y = true ∧ vs[i.toNatClampNeg]? = some (.int x) ∧ E d j nx L (.int x :: r) hp = some R := by
  unfold mj_iald at h
  split at h
  · split at h
    · rename_i y vs hq
      split at h
      · cases h
      · rename_i hi
        obtain ⟨h1, h2⟩ := mj_bifc h
        split at h2
        · rename_i x hx
          exact ⟨_, _, _, y, vs, x, rfl, hq, hi, h1, hx, h2⟩
        · cases h2
    · cases h
  · cases h
theorem mj_v_lald (h : mj_cont E d j nx' L hp (mj_lald nx L st hp) = some R) : ∃ i q r vs x, st = .int i :: .ref q :: r ∧ hp[q]? = some (14, vs) ∧ ¬ i < 0 ∧ vs[i.toNatClampNeg]? = some (.long x) ∧ E d j nx L (.long x :: r) hp = some R := by
  unfold mj_lald at h
  split at h
  · split at h
    · rename_i y vs hq
      split at h
      · cases h
      · rename_i hi
        obtain ⟨h1, h2⟩ := mj_bifc h
        have h1 := Nat.eq_of_beq_eq_true h1
        subst h1
        split at h2
        · rename_i x hx
          exact ⟨_, _, _, vs, x, rfl, hq, hi, hx, h2⟩
        · cases h2
    · cases h
  · cases h
theorem mj_v_aald (h : mj_cont E d j nx' L hp (mj_aald nx L st hp) = some R) : ∃ i q r y vs x, st = .int i :: .ref q :: r ∧ hp[q]? = some (y, vs) ∧ ¬ i < 0 ∧ mj_isR y = true ∧ vs[i.toNatClampNeg]? = some (.ref x) ∧ E d j nx L (.ref x :: r) hp = some R := by
  unfold mj_aald at h
  split at h
  · split at h
    · rename_i y vs hq
      split at h
      · cases h
      · rename_i hi
        obtain ⟨h1, h2⟩ := mj_bifc h
        split at h2
        · rename_i x hx
          exact ⟨_, _, _, y, vs, x, rfl, hq, hi, h1, hx, h2⟩
        · cases h2
    · cases h
  · cases h
theorem mj_v_iast (h : mj_cont E d j nx L hp (mj_iast st hp) = some R) : ∃ x i q r vs v0, st = .int x :: .int i :: .ref q :: r ∧ hp[q]? = some (13, vs) ∧ ¬ i < 0 ∧ vs[i.toNatClampNeg]? = some v0 ∧ E d j nx L r (mj_wr hp q i.toNatClampNeg (.int x)) = some R := by
  unfold mj_iast at h
  split at h
  · split at h
    · rename_i y vs hq
      split at h
      · cases h
      · rename_i hi
        obtain ⟨h1, h2⟩ := mj_bifc h
        have h1 := Nat.eq_of_beq_eq_true h1
        subst h1
        split at h2
        · rename_i v0 hx
          exact ⟨_, _, _, _, vs, v0, rfl, hq, hi, hx, h2⟩
        · cases h2
    · cases h
  · cases h
theorem mj_v_last (h : mj_cont E d j nx L hp (mj_last st hp) = some R) : ∃ x i q r vs v0, st = .long x :: .int i :: .ref q :: r ∧ hp[q]? = some (14, vs) ∧ ¬ i < 0 ∧ vs[i.toNatClampNeg]? = some v0 ∧ E d j nx L r (mj_wr hp q i.toNatClampNeg (.long x)) = some R := by
  unfold mj_last at h
  split at h
  · split at h
    · rename_i y vs hq
      split at h
      · cases h
      · rename_i hi
        obtain ⟨h1, h2⟩ := mj_bifc h
        have h1 := Nat.eq_of_beq_eq_true h1
        subst h1
        split at h2
        · rename_i v0 hx
          exact ⟨_, _, _, _, vs, v0, rfl, hq, hi, hx, h2⟩
        · cases h2
    · cases h
  · cases h
theorem mj_v_aast (h : mj_cont E d j nx L hp (mj_aast st hp) = some R) : ∃ x i q r y vs v0 cx xs, st = .ref x :: .int i :: .ref q :: r ∧ hp[q]? = some (y, vs) ∧ ¬ i < 0 ∧ mj_isR y = true ∧ vs[i.toNatClampNeg]? = some v0 ∧ hp[x]? = some (cx, xs) ∧ cx = mj_el y ∧ E d j nx L r (mj_wr hp q i.toNatClampNeg (.ref x)) = some R := by
  unfold mj_aast at h
  split at h
  · split at h
    · rename_i y vs hq
      split at h
      · cases h
      · rename_i hi
        obtain ⟨h1, h2⟩ := mj_bifc h
        split at h2
        · rename_i v0 hx
          split at h2
          · rename_i cx xs hxx
            obtain ⟨h3, h4⟩ := mj_bifc h2
            exact ⟨_, _, _, _, y, vs, v0, cx, xs, rfl, hq, hi, h1, hx, hxx, Nat.eq_of_beq_eq_true h3, h4⟩
          · cases h2
        · cases h2
    · cases h
  · cases h
theorem mj_v_alen (h : mj_cont E d j nx' L hp (mj_alen nx L st hp) = some R) : ∃ q r y vs, st = .ref q :: r ∧ hp[q]? = some (y, vs) ∧ 13 ≤ y ∧ E d j nx L (.int (Int32.ofNat vs.length) :: r) hp = some R := by
  unfold mj_alen at h
  split at h
  · split at h
    · rename_i y vs hq
      obtain ⟨h1, h2⟩ := mj_bifc h
      simp only [Bool.and_eq_true] at h1
      exact ⟨_, _, y, vs, rfl, hq, Nat.le_of_ble_eq_true h1.1, h2⟩
    · cases h
  · cases h
theorem mj_v_getf {a b : Nat} (h : mj_cont E d j nx' L hp (mj_getf a b nx L st hp) = some R) : ∃ q r vs v, st = .ref q :: r ∧ hp[q]? = some (a, vs) ∧ vs[b]? = some v ∧ E d j nx L (v :: r) hp = some R := by
  unfold mj_getf at h
  split at h
  · split at h
    · rename_i y vs hq
      obtain ⟨h1, h2⟩ := mj_bifc h
      have h1 := Nat.eq_of_beq_eq_true h1
      subst h1
      split at h2
      · rename_i v hv
        exact ⟨_, _, vs, v, rfl, hq, hv, h2⟩
      · cases h2
    · cases h
  · cases h
theorem mj_v_putf {a b : Nat} (h : mj_cont E d j nx L hp (mj_putf a b st hp) = some R) : ∃ v q r vs v0, st = v :: .ref q :: r ∧ hp[q]? = some (a, vs) ∧ vs[b]? = some v0 ∧ narrow (mj_ty a b) v = v ∧ fits (mj_ty a b) v = true ∧ E d j nx L r (mj_wr hp q b v) = some R := by
  unfold mj_putf at h
  split at h
  · split at h
    · rename_i y vs hq
      obtain ⟨h1, h2⟩ := mj_bifc h
      have h1 := Nat.eq_of_beq_eq_true h1
      subst h1
      split at h2
      · rename_i v0 hv
        obtain ⟨h3, h4⟩ := mj_bifc h2
        simp only [Bool.and_eq_true, decide_eq_true_eq] at h3
        exact ⟨_, _, _, vs, v0, rfl, hq, hv, h3.1, h3.2, h4⟩
      · cases h2
    · cases h
  · cases h
theorem mj_v_newa {t : ArrayType} (h : mj_cont E d j nx L hp (mj_newa t st) = some R) : ∃ n r, st = .int n :: r ∧ ¬ n < 0 ∧ n.toNatClampNeg ≤ 1000000 ∧ ((t = .int ∧ E d j nx L (.ref hp.length :: r) (hp ++ [(13, List.replicate n.toNatClampNeg (.int 0))]) = some R) ∨ (t = .long ∧ E d j nx L (.ref hp.length :: r) (hp ++ [(14, List.replicate n.toNatClampNeg (.long 0))]) = some R)) := by
  unfold mj_newa at h
  split at h
  · split at h
    · cases h
    · rename_i hn
      obtain ⟨h1, h2⟩ := mj_bifc h
      refine ⟨_, _, rfl, hn, Nat.le_of_ble_eq_true h1, ?_⟩
      split at h2
      · exact Or.inl ⟨rfl, h2⟩
      · exact Or.inr ⟨rfl, h2⟩
      · cases h2
  · cases h
theorem mj_v_anew {b : Nat} (h : mj_cont E d j nx L hp (mj_anew b st) = some R) : ∃ n r, st = .int n :: r ∧ ¬ n < 0 ∧ n.toNatClampNeg ≤ 1000000 ∧ E d j nx L (.ref hp.length :: r) (hp ++ [(b, List.replicate n.toNatClampNeg .null)]) = some R := by
  unfold mj_anew at h
  split at h
  · split at h
    · cases h
    · rename_i hn
      obtain ⟨h1, h2⟩ := mj_bifc h
      exact ⟨_, _, rfl, hn, Nat.le_of_ble_eq_true h1, h2⟩
  · cases h
theorem mj_td {n : Nat} {v : Value} {r : List Value} (h : st.drop n = v :: r) : st = ((st.take n).reverse).reverse ++ v :: r ∧ (st.take n).reverse.length = n := by
  rw [List.reverse_reverse, ← h, List.take_append_drop]
  refine ⟨rfl, ?_⟩
  rw [List.length_reverse, List.length_take]
  have : (st.drop n).length = r.length + 1 := by rw [h]; rfl
  rw [List.length_drop] at this
  omega
theorem mj_v_V {a : Nat} (h : mj_cont E d j nx L hp (mj_invV a st hp) = some R) : ∃ as q r y vs, st = as.reverse ++ .ref q :: r ∧ as.length = (mj_mx a).2.2 ∧ hp[q]? = some (y, vs) ∧ y = (mj_mx a).2.1 ∧ y < 13 ∧ mj_cats r ≤ 8 ∧ mj_call E d j nx L hp a (.ref q :: as) r = some R := by
  unfold mj_invV at h
  split at h
  · rename_i q r hd
    split at h
    · rename_i y vs hq
      obtain ⟨h1, h2⟩ := mj_bifc h
      simp only [Bool.and_eq_true] at h1
      obtain ⟨e1, e2⟩ := mj_td hd
      exact ⟨_, q, r, y, vs, e1, e2, hq, Nat.eq_of_beq_eq_true h1.1.1, mj_blt h1.2, Nat.le_of_ble_eq_true h1.1.2, h2⟩
    · cases h
  · cases h
theorem mj_v_I {a : Nat} (h : mj_cont E d j nx L hp (mj_invI a st) = some R) : ∃ as q r, st = as.reverse ++ .ref q :: r ∧ as.length = (mj_mx a).2.2 ∧ mj_cats r ≤ 8 ∧ mj_call E d j nx L hp a (.ref q :: as) r = some R := by
  unfold mj_invI at h
  split at h
  · rename_i q r hd
    obtain ⟨h1, h2⟩ := mj_bifc h
    obtain ⟨e1, e2⟩ := mj_td hd
    exact ⟨_, q, r, e1, e2, Nat.le_of_ble_eq_true h1, h2⟩
  · cases h
theorem mj_v_S {a : Nat} (h : mj_cont E d j nx L hp (mj_invS a st) = some R) : ∃ as r, st = as.reverse ++ r ∧ as.length = (mj_mx a).2.2 ∧ mj_cats r ≤ 8 ∧ mj_call E d j nx L hp a as r = some R := by
  unfold mj_invS at h
  obtain ⟨h1, h2⟩ := mj_bifc h
  simp only [Bool.and_eq_true] at h1
  have hle := Nat.le_of_ble_eq_true h1.1
  refine ⟨(st.take (mj_mx a).2.2).reverse, st.drop (mj_mx a).2.2, ?_, ?_, Nat.le_of_ble_eq_true h1.2, h2⟩
  · rw [List.reverse_reverse, List.take_append_drop]
  · rw [List.length_reverse, List.length_take]
    omega
theorem mj_v_call {a : Nat} {as r : List Value} (h : mj_call E d j nx L hp a as r = some R) : ∃ d' v hp1, d = d' + 1 ∧ (mj_sl as).length ≤ (mj_mx a).1 ∧ E d' a 0 (mj_ent (mj_mx a).1 as) [] hp = some (v, hp1) ∧ E (d' + 1) j nx L (v.toList ++ r) hp1 = some R := by
  unfold mj_call at h
  split at h
  · cases h
  · rename_i d'
    obtain ⟨h1, h2⟩ := mj_bif h
    split at h2
    · cases h2
    · rename_i v hp1 hx
      exact ⟨d', v, hp1, rfl, Nat.le_of_ble_eq_true h1, hx, h2⟩
theorem mj_v_if0 {c : ClassFile.Cond} {a : Nat} (h : mj_cont E d j nx' L hp (mj_fif0 c a nx L st) = some R) : ∃ x r, st = .int x :: r ∧ E d j (bif mj_c0 c x then a else nx) L r hp = some R := by
  unfold mj_fif0 at h
  split at h
  · exact ⟨_, _, rfl, h⟩
  · cases h
theorem mj_v_if2 {c : ClassFile.Cond} {a : Nat} (h : mj_cont E d j nx' L hp (mj_fif2 c a nx L st) = some R) : ∃ x y r, st = .int y :: .int x :: r ∧ E d j (bif mj_c2 c x y then a else nx) L r hp = some R := by
  unfold mj_fif2 at h
  split at h
  · exact ⟨_, _, _, rfl, h⟩
  · cases h
theorem mj_v_isw {df lo hi : Int} {offs : Array Int} (h : mj_cont E d j nx' L hp (mj_isw k nx df lo hi offs L st) = some R) : ∃ x r, st = .int x :: r ∧ (((x.toInt < lo ∨ hi < x.toInt) ∧ ¬ (k : Int) + df < 0 ∧ E d j ((k : Int) + df).toNat L r hp = some R) ∨ (¬ (x.toInt < lo ∨ hi < x.toInt) ∧ ∃ o, offs[(x.toInt - lo).toNat]? = some o ∧ ¬ (k : Int) + o < 0 ∧ E d j ((k : Int) + o).toNat L r hp = some R)) := by
  unfold mj_isw at h
  split at h
  · refine ⟨_, _, rfl, ?_⟩
    split at h
    · rename_i ho
      split at h
      · cases h
      · rename_i h0
        exact Or.inl ⟨ho, h0, h⟩
    · rename_i ho
      split at h
      · rename_i o hof
        split at h
        · cases h
        · rename_i h0
          exact Or.inr ⟨ho, o, hof, h0, h⟩
      · cases h
  · cases h
theorem mj_v_obj (h : mj_cont E d j nx' L hp (mj_fobj nx L st) = some R) : ∃ q r, st = .ref q :: r ∧ mj_cats r ≤ 8 ∧ E d j nx L r hp = some R := by
  unfold mj_fobj at h
  split at h
  · obtain ⟨h1, h2⟩ := mj_bifc h
    exact ⟨_, _, rfl, Nat.le_of_ble_eq_true h1, h2⟩
  · cases h
theorem mj_v_ir (h : mj_cont E d j nx' L hp (mj_fir j st) = some R) : ∃ v, st = [.int v] ∧ (some (.int v), hp) = R ∧ (mj_rt j = some .int ∨ (mj_rt j = some .boolean ∧ (v = 0 ∨ v = 1))) := by
  unfold mj_fir at h
  split at h
  · refine ⟨_, rfl, ?_⟩
    split at h
    · rename_i hrt
      exact ⟨Option.some.inj h, Or.inl hrt⟩
    · rename_i hrt
      split at h
      · rename_i hv
        exact ⟨Option.some.inj h, Or.inr ⟨hrt, hv⟩⟩
      · cases h
    · cases h
  · cases h
theorem mj_v_lr (h : mj_cont E d j nx' L hp (mj_flr j st) = some R) : ∃ v, st = [.long v] ∧ (some (.long v), hp) = R ∧ mj_rt j = some .long := by
  unfold mj_flr at h
  split at h
  · refine ⟨_, rfl, ?_⟩
    split at h
    · rename_i hrt
      exact ⟨Option.some.inj h, hrt⟩
    · cases h
  · cases h
theorem mj_v_ar (h : mj_cont E d j nx' L hp (mj_far j st) = some R) : ∃ v, st = [.ref v] ∧ (some (.ref v), hp) = R ∧ ((∃ n, mj_rt j = some (.object n)) ∨ ∃ t, mj_rt j = some (.array t)) := by
  unfold mj_far at h
  split at h
  · refine ⟨_, rfl, ?_⟩
    split at h
    · rename_i z hrt
      exact ⟨Option.some.inj h, Or.inl ⟨z, hrt⟩⟩
    · rename_i z hrt
      exact ⟨Option.some.inj h, Or.inr ⟨z, hrt⟩⟩
    · cases h
  · cases h
theorem mj_v_vr (h : mj_cont E d j nx' L hp (mj_fvr j st) = some R) : st = [] ∧ (none, hp) = R ∧ mj_rt j = none := by
  unfold mj_fvr at h
  split at h
  · refine ⟨rfl, ?_⟩
    split at h
    · rename_i hrt
      exact ⟨Option.some.inj h, hrt⟩
    · cases h
  · cases h
end MJI
theorem mj_exec_s {n d j k : Nat} {L : mj_L} {st : List Value} {hp : List mj_C} {R : Option Value × List mj_C} (h : mj_exec (n + 1) d j k L st hp = some R) : ∃ e, mj_code j k = some e ∧ mj_cont (mj_exec n) d j e.2.1 L hp (mj_step j k e L st hp) = some R := by
  unfold mj_exec at h
  split at h
  · cases h
  · rename_i e he
    exact ⟨e, he, h⟩
theorem mj_mono : ∀ (n d j k : Nat) (L : mj_L) (st : List Value) (hp : List mj_C) (r : Option Value) (hp' : List mj_C), mj_exec n d j k L st hp = some (r, hp') → hp.length ≤ hp'.length ∧ mj_sz hp ≤ mj_sz hp' := by
  intro n
  induction n with
  | zero => intro d j k L st hp r hp' h; cases h
  | succ n ih =>
    intro d j k L st hp r hp' h
    obtain ⟨e, -, h⟩ := mj_exec_s h
    generalize mj_step j k e L st hp = o at h
    unfold mj_cont at h
    split at h
    · cases h
    · exact ih _ _ _ _ _ _ _ _ h
    · have := ih _ _ _ _ _ _ _ _ h
      rw [mj_wr_len, mj_wr_sz] at this
      exact this
    · have := ih _ _ _ _ _ _ _ _ h
      rw [mj_push_sz, List.length_append] at this
      exact ⟨by have := this.1; omega, by omega⟩
    · obtain ⟨d', v, hp1, -, -, h1, h2⟩ := mj_v_call h
      have a1 := ih _ _ _ _ _ _ _ _ h1
      have a2 := ih _ _ _ _ _ _ _ _ h2
      omega
    · cases h
      exact ⟨Nat.le_refl _, Nat.le_refl _⟩
