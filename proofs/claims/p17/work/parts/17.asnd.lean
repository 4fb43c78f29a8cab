/-! The machine of unknowns, closure by closure. -/
theorem mo_L_of {rs : List Int} : ∀ {as : ma_L} {vs : mj_L}, vs.length = as.length → (∀ (i : Nat) (x : ma_V), as[i]? = some (some x) → ∃ w, vs[i]? = some (some w) ∧ mo_v rs x w) → mo_L rs as vs
  | [], [], _, _ => trivial
  | a :: as, v :: vs, hl, h => ⟨fun x hx => by
      obtain ⟨w, h1, h2⟩ := h 0 x (by rw [List.getElem?_cons_zero, hx])
      exact ⟨w, Option.some.inj h1, h2⟩, mo_L_of (Nat.succ.inj hl) (fun i x hx => by
      have := h (i + 1) x (by rw [List.getElem?_cons_succ]; exact hx)
      rw [List.getElem?_cons_succ] at this
      exact this)⟩
  | [], _ :: _, hl, _ => by cases hl
  | _ :: _, [], hl, _ => by cases hl
theorem mo_v.cat {rs : List Int} {a : ma_V} {v : Value} (h : mo_v rs a v) : v.category = ma_lcat a := by
  rcases a with c | ⟨i, o⟩ | n | c | u
  · obtain ⟨z, rfl, -⟩ := h; rfl
  · obtain ⟨r, z, -, rfl, -⟩ := h; rfl
  · cases n with
    | zero => have h : v = .null := h; subst h; rfl
    | succ n => have h : v = .ref n ∧ n < 256 := h; obtain ⟨rfl, -⟩ := h; rfl
  · obtain ⟨z, rfl, -⟩ := h; rfl
  · obtain ⟨z, rfl⟩ := h; rfl
theorem mo_v.int {rs : List Int} {a : ma_V} {v : Value} (h : mo_v rs a v) (hs : Nat.beq (ma_srt a) 0 = true) : ∃ z, v = .int z := by
  rcases a with c | ⟨i, o⟩ | n | c
  · obtain ⟨z, rfl, -⟩ := h; exact ⟨z, rfl⟩
  · obtain ⟨r, z, -, rfl, -⟩ := h; exact ⟨z, rfl⟩
  · cases hs
  · cases hs
theorem mo_v.long {rs : List Int} {a : ma_V} {v : Value} (h : mo_v rs a v) (hs : Nat.beq (ma_srt a) 2 = true) : ∃ z, v = .long z := by
  rcases a with c | ⟨i, o⟩ | n | c | u
  · cases hs
  · cases hs
  · cases hs
  · obtain ⟨z, rfl, -⟩ := h; exact ⟨z, rfl⟩
  · obtain ⟨z, rfl⟩ := h; exact ⟨z, rfl⟩
theorem ma_un_get {L : ma_L} {i k : Nat} {x : ma_V} (h : (ma_un L i)[k]? = some (some x)) : L[k]? = some (some x) ∧ ¬ (k + 1 = i ∧ ma_lcat x = 2) := by
  cases i with
  | zero => exact ⟨h, fun q => by omega⟩
  | succ i =>
    have e : ma_un L (i + 1) = match ma_nth L i with
      | some (some (.inr (.inr (.inr _)))) => ma_set L i none
      | _ => L := rfl
    rw [e, ma_nth_eq, ma_set_eq] at h
    split at h
    · rename_i w0 h0
      by_cases hk : k = i
      · subst hk
        rw [List.getElem?_set_self (List.getElem?_eq_some_iff.mp h0).1] at h
        cases h
      · rw [List.getElem?_set_ne (Ne.symm hk)] at h
        exact ⟨h, fun q => hk (by omega)⟩
    · rename_i h0
      refine ⟨h, fun q => ?_⟩
      have hk : k = i := by omega
      subst hk
      rcases x with c | p | n | w
      · exact absurd q.2 (by show ¬ (1 : Nat) = 2; decide)
      · exact absurd q.2 (by show ¬ (1 : Nat) = 2; decide)
      · exact absurd q.2 (by show ¬ (1 : Nat) = 2; decide)
      · exact h0 w h
theorem ma_un_len (L : ma_L) (i : Nat) : (ma_un L i).length = L.length := by
  cases i with
  | zero => rfl
  | succ i =>
    have e : ma_un L (i + 1) = match ma_nth L i with
      | some (some (.inr (.inr (.inr _)))) => ma_set L i none
      | _ => L := rfl
    rw [e, ma_set_eq]
    split
    · simp
    · rfl
theorem mj_un_get2 {L : mj_L} {i k : Nat} {w : Value} (h : L[k]? = some (some w)) (hn : ¬ (k + 1 = i ∧ w.category = 2)) : (mj_un L i)[k]? = some (some w) := by
  cases i with
  | zero => exact h
  | succ i =>
    rw [mj_un_s]
    split
    · rename_i w0 h0
      split
      · rename_i hc
        by_cases hk : k = i
        · subst hk
          rw [h] at h0
          cases h0
          exact absurd ⟨rfl, hc⟩ hn
        · rw [List.getElem?_set_ne (Ne.symm hk)]
          exact h
      · exact h
    · exact h
theorem mo_L.s1 {rs : List Int} {L : ma_L} {L' : mj_L} (h : mo_L rs L L') {x : ma_V} {w : Value} (hx : mo_v rs x w) (i : Nat) : mo_L rs (ma_s1 L i x) (mj_s1 L' i w) := by
  have hlen := mo_L.len h
  unfold ma_s1 mj_s1
  rw [ma_set_eq]
  refine mo_L_of (by rw [List.length_set, List.length_set, mj_un_len, ma_un_len, hlen]) (fun k y hk => ?_)
  by_cases e : k = i
  · subst e
    have hl : k < (ma_un L k).length := by
      have := (List.getElem?_eq_some_iff.mp hk).1
      rw [List.length_set] at this
      exact this
    rw [List.getElem?_set_self hl] at hk
    cases hk
    exact ⟨w, by rw [List.getElem?_set_self (by rw [mj_un_len, hlen, ← ma_un_len L k]; exact hl)], hx⟩
  · rw [List.getElem?_set_ne (Ne.symm e)] at hk
    obtain ⟨h1, h2⟩ := ma_un_get hk
    obtain ⟨w2, h3, h4⟩ := mo_L.get h h1
    exact ⟨w2, by rw [List.getElem?_set_ne (Ne.symm e)]; exact mj_un_get2 h3 (by rw [h4.cat]; exact h2), h4⟩
theorem mo_L.s2 {rs : List Int} {L : ma_L} {L' : mj_L} (h : mo_L rs L L') {x : ma_V} {w : Value} (hx : mo_v rs x w) (i : Nat) : mo_L rs (ma_s2 L i x) (mj_s2 L' i w) := by
  have h1 := mo_L.s1 h hx i
  have h2 : mo_L rs ((ma_s1 L i x).set (i + 1) none) ((mj_s1 L' i w).set (i + 1) none) := mo_L.set (fun _ q => by cases q) h1
  unfold ma_s2 mj_s2
  unfold ma_s1 mj_s1 at h2
  rw [ma_set_eq, ma_set_eq] at *
  exact h2
section MS
variable {X : mo_X} {E : ma_E} {H : ma_H} {d j k nx : Nat} {L : ma_L} {st : List ma_V} {K : List ma_F} {rs : List Int} {hp : List mj_C} {L' : mj_L} {st' : List Value} {K' : List mo_F}
theorem ms_on {k2 : Nat} {L2 : ma_L} {st2 : List ma_V} (hg : mo_Gs X (ma_on k2 E H d j L2 st2 K)) (hR : mo_R X rs E H hp) (hL : mo_L rs L2 L') (hst : mo_vs rs st2 st') (hK : mo_fs rs K K') : mo_Ok d j k2 L' st' hp (mo_K K' (mo_P X)) := hg _ (List.mem_singleton.mpr rfl) rs hp ((d, j, k2, L', st') :: K') hR ⟨⟨rfl, rfl, rfl, hL, hst⟩, hK⟩
theorem mo_E.cut {v : Nat} {lo hi a b : Int} (h : mo_E rs E) (he : E[v]? = some (lo, hi)) {r : Int} (hr : rs[v]? = some r) (h1 : a ≤ r) (h2 : r ≤ b) : mo_E rs (ma_set E v (a, b)) := by
  rw [ma_set_eq]
  refine ⟨by rw [List.length_set]; exact h.1, fun i lo' hi' r' hi1 hr1 => ?_⟩
  by_cases e : i = v
  · subst e
    rw [List.getElem?_set_self (List.getElem?_eq_some_iff.mp he).1] at hi1
    cases hi1
    rw [hr] at hr1
    cases hr1
    exact ⟨h1, h2⟩
  · rw [List.getElem?_set_ne (Ne.symm e)] at hi1
    exact h.2 i lo' hi' r' hi1 hr1
theorem ms_cut {m : Int} {v : Nat} (hg : mo_Gs X (ma_cut m v k E H d j L st K)) (hR : mo_R X rs E H hp) (hL : mo_L rs L L') (hst : mo_vs rs st st') (hK : mo_fs rs K K') : mo_Ok d j k L' st' hp (mo_K K' (mo_P X)) := by
  unfold ma_cut at hg
  rw [ma_nth_eq] at hg
  cases he : E[v]? with
  | none => rw [he] at hg; exact hg.elim
  | some q =>
    obtain ⟨lo, hi⟩ := q
    rw [he] at hg
    obtain ⟨hb, hg⟩ := ma_b_n hg
    rw [Bool.and_eq_true, ma_le_iff, ma_lt_iff] at hb
    obtain ⟨h1, h2, h3⟩ := hR
    have hvl : v < rs.length := by rw [h2.1]; exact (List.getElem?_eq_some_iff.mp he).1
    have hr : rs[v]? = some rs[v] := List.getElem?_eq_getElem hvl
    have hbd := h2.2 v lo hi _ he hr
    by_cases hm : rs[v] ≤ m
    · exact hg _ List.mem_cons_self rs hp ((d, j, k, L', st') :: K') ⟨h1, h2.cut he hr hbd.1 hm, h3⟩ ⟨⟨rfl, rfl, rfl, hL, hst⟩, hK⟩
    · exact hg _ (List.mem_cons_of_mem _ List.mem_cons_self) rs hp ((d, j, k, L', st') :: K') ⟨h1, h2.cut he hr (show m + 1 ≤ rs[v] by omega) hbd.2, h3⟩ ⟨⟨rfl, rfl, rfl, hL, hst⟩, hK⟩
theorem ms_cutL {v : Nat} (hg : mo_Gs X (ma_cutL v k E H d j L st K)) (hR : mo_R X rs E H hp) (hL : mo_L rs L L') (hst : mo_vs rs st st') (hK : mo_fs rs K K') : mo_Ok d j k L' st' hp (mo_K K' (mo_P X)) := by
  unfold ma_cutL at hg
  split at hg
  · exact hg.elim
  · obtain ⟨-, hg⟩ := ma_b_n hg
    rw [ma_fz_eq] at hg
    exact ms_cut hg hR hL hst hK
end MS
/-- the start of a closure's proof -/
theorem ms_in {j k : Nat} {f : ma_I} (h : ∀ (X : mo_X) (E : ma_E) (H : ma_H) (d : Nat) (L : ma_L) (st : List ma_V) (K : List ma_F) (rs : List Int) (hp : List mj_C) (L' : mj_L) (st' : List Value) (K' : List mo_F), mo_Gs X (f E H d j L st K) → mo_R X rs E H hp → mo_L rs L L' → mo_vs rs st st' → mo_fs rs K K' → mo_Ok d j k L' st' hp (mo_K K' (mo_P X))) : mo_Sim j k f := by
  intro X E H d L st K hg rs hp fs hR hF
  obtain ⟨L', st', K', rfl, hL, hst, hK⟩ := mo_fs.cons hF
  exact h X E H d L st K rs hp L' st' K' hg hR hL hst hK
section MT
variable {j k nx : Nat} {e : mj_E}
theorem ms_pushi {c : Int} {z : Int32} (hc : mj_code j k = some e) (hs : ∀ L st hp, mj_step j k e L st hp = mj_go nx L (.int z :: st)) (hz : z.toInt = c) : mo_Sim j k (ma_push (ma_ci c) nx) := ms_in fun X E H d L st K rs hp L' st' K' hg hR hL hst hK => mo_go hc (hs L' st' hp) (ms_on hg hR hL ⟨⟨z, rfl, hz⟩, hst⟩ hK)
theorem ms_pushl {c : Int} {z : Int64} (hc : mj_code j k = some e) (hs : ∀ L st hp, mj_step j k e L st hp = mj_go nx L (.long z :: st)) (hz : z.toInt = c) : mo_Sim j k (ma_push (ma_cl c) nx) := ms_in fun X E H d L st K rs hp L' st' K' hg hR hL hst hK => mo_go hc (hs L' st' hp) (ms_on hg hR hL ⟨⟨z, rfl, hz⟩, hst⟩ hK)
theorem ms_pushr {a : Nat} (hc : mj_code j k = some e) (hs : ∀ L st hp, mj_step j k e L st hp = mj_go nx L (.ref a :: st)) (ha : a < 256) : mo_Sim j k (ma_push (ma_cr a) nx) := ms_in fun X E H d L st K rs hp L' st' K' hg hR hL hst hK => mo_go hc (hs L' st' hp) (ms_on hg hR hL ⟨⟨rfl, ha⟩, hst⟩ hK)
theorem ms_ild {i : Nat} (hc : mj_code j k = some e) (hs : ∀ L st hp, mj_step j k e L st hp = mj_ild i nx L st) : mo_Sim j k (ma_load 0 i nx) := ms_in fun X E H d L st K rs hp L' st' K' hg hR hL hst hK => by
  unfold ma_load at hg
  rw [ma_nth_eq] at hg
  split at hg
  · rename_i v hv
    obtain ⟨hb, hg⟩ := ma_b_n hg
    obtain ⟨w, h1, h2⟩ := mo_L.get hL hv
    obtain ⟨z, rfl⟩ := h2.int hb
    refine mo_go hc ?_ (ms_on hg hR hL (st' := .int z :: st') ⟨h2, hst⟩ hK)
    rw [hs]
    unfold mj_ild
    rw [h1]
    rfl
  · exact hg.elim
theorem ms_lld {i : Nat} (hc : mj_code j k = some e) (hs : ∀ L st hp, mj_step j k e L st hp = mj_lld i nx L st) : mo_Sim j k (ma_load 2 i nx) := ms_in fun X E H d L st K rs hp L' st' K' hg hR hL hst hK => by
  unfold ma_load at hg
  rw [ma_nth_eq] at hg
  split at hg
  · rename_i v hv
    obtain ⟨hb, hg⟩ := ma_b_n hg
    obtain ⟨w, h1, h2⟩ := mo_L.get hL hv
    obtain ⟨z, rfl⟩ := h2.long hb
    refine mo_go hc ?_ (ms_on hg hR hL (st' := .long z :: st') ⟨h2, hst⟩ hK)
    rw [hs]
    unfold mj_lld
    rw [h1]
    rfl
  · exact hg.elim
theorem ms_ald {i : Nat} (hc : mj_code j k = some e) (hs : ∀ L st hp, mj_step j k e L st hp = mj_ald i nx L st) : mo_Sim j k (ma_lda i nx) := ms_in fun X E H d L st K rs hp L' st' K' hg hR hL hst hK => by
  unfold ma_lda at hg
  rw [ma_nth_eq] at hg
  split at hg
  · rename_i q hv
    obtain ⟨w, h1, h2⟩ := mo_L.get hL hv
    have h2' : w = .ref q ∧ q < 256 := h2
    obtain ⟨rfl, hq⟩ := h2'
    refine mo_go hc ?_ (ms_on hg hR hL (st' := .ref q :: st') ⟨⟨rfl, hq⟩, hst⟩ hK)
    rw [hs]
    unfold mj_ald
    rw [h1]
    rfl
  · exact hg.elim
theorem ms_blt {a b : Nat} (h : a < b) : Nat.blt a b = true := Nat.ble_eq_true_of_le h
theorem ms_ist {i : Nat} (hc : mj_code j k = some e) (hs : ∀ L st hp, mj_step j k e L st hp = mj_ist i nx L st) : mo_Sim j k (ma_stor 0 i nx) := ms_in fun X E H d L st K rs hp L' st' K' hg hR hL hst hK => by
  unfold ma_stor at hg
  split at hg
  · obtain ⟨hb, hg⟩ := ma_b_n hg
    rw [Bool.and_eq_true] at hb
    obtain ⟨w, t, rfl, h1, h2⟩ := hst.cons
    obtain ⟨z, rfl⟩ := h1.int hb.1
    have hl : i < L'.length := by have := mj_blt hb.2; rw [ma_len_eq] at this; rw [mo_L.len hL]; exact this
    refine mo_go hc ?_ (ms_on hg hR (mo_L.s1 hL h1 i) h2 hK)
    rw [hs]
    unfold mj_ist
    rw [ms_blt hl]
    rfl
  · exact hg.elim
theorem ms_lst {i : Nat} (hc : mj_code j k = some e) (hs : ∀ L st hp, mj_step j k e L st hp = mj_lst i nx L st) : mo_Sim j k (ma_stol i nx) := ms_in fun X E H d L st K rs hp L' st' K' hg hR hL hst hK => by
  unfold ma_stol at hg
  split at hg
  · obtain ⟨hb, hg⟩ := ma_b_n hg
    rw [Bool.and_eq_true] at hb
    obtain ⟨w, t, rfl, h1, h2⟩ := hst.cons
    obtain ⟨z, rfl⟩ := h1.long hb.1
    have hl : i + 1 < L'.length := by have := mj_blt hb.2; rw [ma_len_eq] at this; rw [mo_L.len hL]; exact this
    refine mo_go hc ?_ (ms_on hg hR (mo_L.s2 hL h1 i) h2 hK)
    rw [hs]
    unfold mj_lst
    rw [ms_blt hl]
    rfl
  · exact hg.elim
theorem ms_ast0 {i : Nat} (hc : mj_code j k = some e) (hs : ∀ L st hp, mj_step j k e L st hp = mj_ast i nx L st) : mo_Sim j k (ma_sta i nx) := ms_in fun X E H d L st K rs hp L' st' K' hg hR hL hst hK => by
  unfold ma_sta at hg
  split at hg
  · obtain ⟨hb, hg⟩ := ma_b_n hg
    obtain ⟨w, t, rfl, h1, h2⟩ := hst.cons
    have h1' := h1
    obtain ⟨rfl, hq⟩ := h1'
    have hl : i < L'.length := by have := mj_blt hb; rw [ma_len_eq] at this; rw [mo_L.len hL]; exact this
    refine mo_go hc ?_ (ms_on hg hR (mo_L.s1 hL h1 i) h2 hK)
    rw [hs]
    unfold mj_ast
    rw [ms_blt hl]
    rfl
  · exact hg.elim
theorem mo_add32 {z y : Int32} {a b : Int} (hz : z.toInt = a) (hy : y.toInt = b) : (z + y).toInt = Int.bmod (a + b) 4294967296 := by
  rw [Int32.toInt_add, hz, hy]
/-- an int and a number, added -/
theorem ms_add {X : mo_X} {E : ma_E} {H : ma_H} {d : Nat} {L : ma_L} {st : List ma_V} {K : List ma_F} {rs : List Int} {hp : List mj_C} {L' : mj_L} {st' : List Value} {K' : List mo_F} {x : ma_V} {c : Int} {go : ma_V → ma_R} {z y : Int32} (hg : mo_Gs X (ma_add x c k nx E H d j L st K go)) (hR : mo_R X rs E H hp) (hL : mo_L rs L L') (hst : mo_vs rs st st') (hK : mo_fs rs K K') (hx : mo_v rs x (.int z)) (hy : y.toInt = Int.bmod (z.toInt + c) 4294967296)
    (kk : ∀ a, mo_Gs X (go a) → mo_v rs a (.int y) → mo_Ok d j k L' st' hp (mo_K K' (mo_P X))) : mo_Ok d j k L' st' hp (mo_K K' (mo_P X)) := by
  have hn := mo_num hR.2.1 hx
  unfold ma_add at hg
  split at hg
  · rename_i a ha
    rw [ha] at hn
    obtain ⟨z', hz1, hz2⟩ := hn
    cases hz1
    rw [ma_fz_eq] at hg
    exact kk _ hg ⟨_, rfl, ma_w_of (by rw [hy, hz2]; rfl)⟩
  · exact hg.elim
  · rename_i v o lo hi ha
    rw [ha] at hn
    obtain ⟨r, z', he, hr, hz1, hz2, hlo, hhi⟩ := hn
    cases hz1
    rcases ma_b_t hg with ⟨hb, hg⟩ | ⟨-, hg⟩
    · rw [Bool.and_eq_true, ma_in_iff, ma_in_iff] at hb
      obtain ⟨⟨b1, b2⟩, b3, b4⟩ := hb
      rw [ma_fz_eq] at hg
      refine kk _ hg ⟨r, _, hr, rfl, ?_⟩
      rw [hy, hz2]
      have e1 : Int.add (Int.add lo o) c = lo + o + c := rfl
      have e2 : Int.add (Int.add hi o) c = hi + o + c := rfl
      have e3 : Int.add o c = o + c := rfl
      rw [e1] at b1 b2
      rw [e2] at b3 b4
      rw [e3, Int.bmod_eq_of_le (by omega) (by omega)]
      omega
    · exact ms_cutL hg hR hL hst hK
theorem ms_iinc {i : Nat} {c : Int} (hc : mj_code j k = some e) (hs : ∀ L st hp, mj_step j k e L st hp = match L[i]? with
      | some (some (.int x)) => mj_go nx (mj_s1 L i (.int (x + Int32.ofInt c))) st
      | _ => none) (hcr : (Int32.ofInt c).toInt = c) : mo_Sim j k (ma_iinc i c k nx) := ms_in fun X E H d L st K rs hp L' st' K' hg hR hL hst hK => by
  unfold ma_iinc at hg
  rw [ma_nth_eq] at hg
  split at hg
  · rename_i x hx
    obtain ⟨w, h1, h2⟩ := mo_L.get hL hx
    have hn := mo_num hR.2.1 h2
    have hi : ∃ z, w = .int z := by
      unfold ma_add at hg
      split at hg
      · rename_i a ha; rw [ha] at hn; obtain ⟨z, q, -⟩ := hn; exact ⟨z, q⟩
      · exact hg.elim
      · rename_i v o lo hi ha; rw [ha] at hn; obtain ⟨r, z, -, -, q, -⟩ := hn; exact ⟨z, q⟩
    obtain ⟨z, rfl⟩ := hi
    refine ms_add hg hR hL hst hK h2 (y := z + Int32.ofInt c) (mo_add32 rfl hcr) (fun a ga ha => ?_)
    refine mo_go hc ?_ (ms_on ga hR (mo_L.s1 hL ha i) hst hK)
    rw [hs, h1]
    rfl
  · exact hg.elim
/-- a value whose number is known is an int -/
theorem mo_num_i {rs : List Int} {E : ma_E} (hE : mo_E rs E) {a : ma_V} {v : Value} (h : mo_v rs a v) {c : Int} (hc : ma_num E a = .inl c) : ∃ z, v = .int z ∧ z.toInt = c := by
  have := mo_num hE h
  rw [hc] at this
  exact this
theorem mo_num_u {rs : List Int} {E : ma_E} (hE : mo_E rs E) {a : ma_V} {v : Value} (h : mo_v rs a v) {i : Nat} {o lo hi : Int} (hc : ma_num E a = .inr (some (i, o, lo, hi))) : ∃ r z, E[i]? = some (lo, hi) ∧ rs[i]? = some r ∧ v = .int z ∧ z.toInt = r + o ∧ lo ≤ r ∧ r ≤ hi := by
  have := mo_num hE h
  rw [hc] at this
  exact this
theorem ms_addi {X : mo_X} {E : ma_E} {H : ma_H} {d : Nat} {L : ma_L} {st : List ma_V} {K : List ma_F} {x : ma_V} {c : Int} {go : ma_V → ma_R} {rs : List Int} {v : Value} (hg : mo_Gs X (ma_add x c k nx E H d j L st K go)) (hE : mo_E rs E) (hx : mo_v rs x v) : ∃ z, v = .int z := by
  unfold ma_add at hg
  split at hg
  · rename_i a ha; obtain ⟨z, q, -⟩ := mo_num_i hE hx ha; exact ⟨z, q⟩
  · exact hg.elim
  · rename_i v o lo hi ha; obtain ⟨r, z, -, -, q, -⟩ := mo_num_u hE hx ha; exact ⟨z, q⟩
theorem ms_iadd (hc : mj_code j k = some e) (hs : ∀ L st hp, mj_step j k e L st hp = mj_i2 (fun x y => x + y) nx L st) : mo_Sim j k (ma_iadd k nx) := ms_in fun X E H d L st K rs hp L' st' K' hg hR hL hst hK => by
  unfold ma_iadd at hg
  split at hg
  · rename_i y x r
    have hst0 := hst
    obtain ⟨wy, t1, rfl, hy, h1⟩ := hst.cons
    obtain ⟨wx, t2, rfl, hx, h2⟩ := h1.cons
    split at hg
    · rename_i b hb
      obtain ⟨zy, rfl, hzy⟩ := mo_num_i hR.2.1 hy hb
      obtain ⟨zx, rfl⟩ := ms_addi hg hR.2.1 hx
      refine ms_add hg hR hL hst0 hK hx (y := zx + zy) (mo_add32 rfl hzy) (fun a ga ha => ?_)
      exact mo_go hc ((hs _ _ _).trans rfl) (ms_on ga hR hL (st' := .int (zx + zy) :: t2) ⟨ha, h2⟩ hK)
    · exact hg.elim
    · rename_i v q hb
      obtain ⟨ry, zy, -, -, rfl, -⟩ := mo_num_u hR.2.1 hy hb
      split at hg
      · rename_i a ha
        obtain ⟨zx, rfl, hzx⟩ := mo_num_i hR.2.1 hx ha
        refine ms_add hg hR hL hst0 hK hy (y := zx + zy) (by rw [Int32.add_comm]; exact mo_add32 rfl hzx) (fun a ga ha => ?_)
        exact mo_go hc ((hs _ _ _).trans rfl) (ms_on ga hR hL (st' := .int (zx + zy) :: t2) ⟨ha, h2⟩ hK)
      · exact ms_cutL hg hR hL hst0 hK
  · exact hg.elim
theorem ms_isub (hc : mj_code j k = some e) (hs : ∀ L st hp, mj_step j k e L st hp = mj_i2 (fun x y => x - y) nx L st) : mo_Sim j k (ma_isub k nx) := ms_in fun X E H d L st K rs hp L' st' K' hg hR hL hst hK => by
  unfold ma_isub at hg
  split at hg
  · rename_i y x r
    have hst0 := hst
    obtain ⟨wy, t1, rfl, hy, h1⟩ := hst.cons
    obtain ⟨wx, t2, rfl, hx, h2⟩ := h1.cons
    split at hg
    · rename_i b hb
      obtain ⟨zy, rfl, hzy⟩ := mo_num_i hR.2.1 hy hb
      obtain ⟨zx, rfl⟩ := ms_addi hg hR.2.1 hx
      refine ms_add hg hR hL hst0 hK hx (y := zx - zy) (by rw [Int32.toInt_sub, hzy]; rfl) (fun a ga ha => ?_)
      exact mo_go hc ((hs _ _ _).trans rfl) (ms_on ga hR hL (st' := .int (zx - zy) :: t2) ⟨ha, h2⟩ hK)
    · exact hg.elim
    · rename_i v q hb
      exact ms_cutL hg hR hL hst0 hK
  · exact hg.elim
end MT
