/-! The machine of unknowns, closure by closure: calls, returns. -/
theorem mo_vs.app {rs : List Int} : ∀ {a b : List ma_V} {a' b' : List Value}, mo_vs rs a a' → mo_vs rs b b' → mo_vs rs (a ++ b) (a' ++ b')
  | [], _, [], _, _, h => h
  | _ :: _, _, _ :: _, _, h1, h2 => ⟨h1.1, mo_vs.app h1.2 h2⟩
  | [], _, _ :: _, _, h, _ => h.elim
  | _ :: _, _, [], _, h, _ => h.elim
/-- what the call takes off the stack -/
theorem mo_args {rs : List Int} : ∀ (n : Nat) (st acc as r : List ma_V) (st' acc' : List Value), ma_args n st acc = some (as, r) → mo_vs rs st st' → mo_vs rs acc acc' → n ≤ st'.length ∧ mo_vs rs as ((st'.take n).reverse ++ acc') ∧ mo_vs rs r (st'.drop n)
  | 0, st, acc, as, r, st', acc', h, h1, h2 => by
    have h : some (acc, st) = some (as, r) := h
    cases h
    exact ⟨Nat.zero_le _, h2, h1⟩
  | n + 1, v :: st, acc, as, r, st', acc', h, h1, h2 => by
    have h : ma_args n st (v :: acc) = some (as, r) := h
    obtain ⟨w, t, rfl, h3, h4⟩ := h1.cons
    obtain ⟨q1, q2, q3⟩ := mo_args n st (v :: acc) as r t (w :: acc') h h4 ⟨h3, h2⟩
    refine ⟨by show n + 1 ≤ t.length + 1; omega, ?_, q3⟩
    show mo_vs rs as ((w :: t.take n).reverse ++ acc')
    rw [List.reverse_cons, List.append_assoc]
    exact q2
  | n + 1, [], acc, as, r, st', acc', h, _, _ => by
    have h : (none : Option (List ma_V × List ma_V)) = some (as, r) := h
    cases h
theorem mo_cats {rs : List Int} : ∀ {r : List ma_V} {r' : List Value}, mo_vs rs r r' → mj_cats r' = ma_cats r
  | [], [], _ => rfl
  | a :: r, v :: r', h => by
    have e1 : mj_cats (v :: r') = v.category + mj_cats r' := by simp [mj_cats]
    have e2 : ma_cats (a :: r) = ma_lcat a + ma_cats r := rfl
    rw [e1, e2, h.1.cat, mo_cats h.2]
  | [], _ :: _, h => h.elim
  | _ :: _, [], h => h.elim
theorem mo_sl {rs : List Int} : ∀ {as : List ma_V} {vs : List Value}, mo_vs rs as vs → mo_L rs (ma_sl as) (mj_sl vs)
  | [], [], _ => trivial
  | a :: as, v :: vs, h => by
    have e : mj_sl (v :: vs) = (if v.category = 2 then [some v, none] else [some v]) ++ mj_sl vs := rfl
    have ih := mo_sl h.2
    have hc := h.1.cat
    rcases a with c | p | n | w
    · rw [e, hc, if_neg (by show ¬ (1 : Nat) = 2; decide)]
      exact ⟨fun x hx => by cases hx; exact ⟨v, rfl, h.1⟩, ih⟩
    · rw [e, hc, if_neg (by show ¬ (1 : Nat) = 2; decide)]
      exact ⟨fun x hx => by cases hx; exact ⟨v, rfl, h.1⟩, ih⟩
    · rw [e, hc, if_neg (by show ¬ (1 : Nat) = 2; decide)]
      exact ⟨fun x hx => by cases hx; exact ⟨v, rfl, h.1⟩, ih⟩
    · rw [e, hc, if_pos (by rfl)]
      exact ⟨fun x hx => (by cases hx; exact ⟨v, rfl, h.1⟩), (fun x hx => (by cases hx)), ih⟩
  | [], _ :: _, h => h.elim
  | _ :: _, [], h => h.elim
theorem mo_pad {rs : List Int} : ∀ (n : Nat) {L : ma_L} {L' : mj_L}, mo_L rs L L' → L.length ≤ n → mo_L rs (ma_pad n L) (L' ++ List.replicate (n - L'.length) none)
  | 0, [], [], _, _ => trivial
  | n + 1, [], [], _, _ => by
    have := mo_pad n (rs := rs) (L := []) (L' := []) trivial (Nat.zero_le _)
    exact ⟨fun x hx => (by cases hx), this⟩
  | n + 1, a :: L, v :: L', h, hl => by
    have := mo_pad n h.2 (Nat.le_of_succ_le_succ hl)
    refine ⟨h.1, ?_⟩
    show mo_L rs (ma_pad n L) (L' ++ List.replicate (n + 1 - (L'.length + 1)) none)
    rw [Nat.add_sub_add_right]
    exact this
  | 0, _ :: _, _ :: _, _, hl => by cases hl
  | _, [], _ :: _, h, _ => h.elim
  | _, _ :: _, [], h, _ => h.elim
section MT
variable {j k nx : Nat} {e : mj_E}
/-- a call, once it is clear what the small machine calls -/
theorem ms_inv {X : mo_X} {E : ma_E} {H : ma_H} {d : Nat} {L : ma_L} {K : List ma_F} {rs : List Int} {hp : List mj_C} {L' : mj_L} {st' : List Value} {K' : List mo_F} {a mx : Nat} {as r : List ma_V} {as' r' : List Value} (hmx : (mj_mx a).1 = mx) (hnx : e.2.1 = nx) (hc : mj_code j k = some e) (hR : mo_R X rs E H hp) (hL : mo_L rs L L') (has : mo_vs rs as as') (hr : mo_vs rs r r') (hK : mo_fs rs K K') (hlen : Nat.ble (ma_len (ma_sl as)) mx = true)
    (hg : mo_Gs X (match d with
      | 0 => none
      | d' + 1 => some [(E, H, (d', a, 0, ma_pad mx (ma_sl as), []) :: (d' + 1, j, nx, L, r) :: K)])) (hs : mj_step j k e L' st' hp = mj_ca a as' r') : mo_Ok d j k L' st' hp (mo_K K' (mo_P X)) := by
  have hsl := mo_sl has
  have hl : (ma_sl as).length ≤ mx := by have := Nat.le_of_ble_eq_true hlen; rw [ma_len_eq] at this; exact this
  split at hg
  · exact hg.elim
  · rename_i d'
    refine mo_ca hc hs rfl (by rw [mo_L.len hsl, hmx]; exact hl) ?_
    rw [hnx, hmx]
    exact hg _ (List.mem_singleton.mpr rfl) rs hp ((d', a, 0, mj_ent mx as', []) :: (d' + 1, j, nx, L', r') :: K') hR ⟨⟨rfl, rfl, rfl, mo_pad mx hsl hl, trivial⟩, ⟨rfl, rfl, rfl, hL, hr⟩, hK⟩
theorem ms_invS {a np mx : Nat} (hc : mj_code j k = some e) (hnx : e.2.1 = nx) (hs : ∀ L st hp, mj_step j k e L st hp = mj_invS a st) (hmx : (mj_mx a).1 = mx) (hnp : (mj_mx a).2.2 = np) : mo_Sim j k (ma_inv a np mx 20 nx) := ms_in fun X E H d L st K rs hp L' st' K' hg hR hL hst hK => by
  unfold ma_inv at hg
  split at hg
  · exact hg.elim
  · rename_i as r ha
    obtain ⟨hb, hg⟩ := ma_b_n hg
    rw [Bool.and_eq_true, Bool.and_eq_true] at hb
    obtain ⟨⟨b1, b2⟩, -⟩ := hb
    obtain ⟨q1, q2, q3⟩ := mo_args np st [] as r st' [] ha hst trivial
    rw [List.append_nil] at q2
    refine ms_inv hmx hnx hc hR hL q2 q3 hK b2 hg ?_
    rw [hs]
    unfold mj_invS
    rw [hnp]
    have h1 : Nat.ble np st'.length = true := Nat.ble_eq_true_of_le q1
    have h2 : Nat.ble (mj_cats (st'.drop np)) 8 = true := by rw [mo_cats q3]; exact b1
    rw [h1, h2]
    rfl
theorem ma_rcv_c {o : Nat} {as : List ma_V} {H : ma_H} (h : ma_rcv o as H = true) : ∃ q as0, as = .inr (.inr (.inl (q + 1))) :: as0 ∧ (o = 21 ∨ ∃ c, ma_g8 H.2.2 q = some (o, c)) := by
  unfold ma_rcv at h
  split at h
  · refine ⟨_, _, rfl, ?_⟩
    rw [Bool.or_eq_true] at h
    rcases h with h | h
    · exact Or.inl (Nat.eq_of_beq_eq_true h)
    · split at h
      · rename_i y c hc
        have h := Nat.eq_of_beq_eq_true h
        subst h
        exact Or.inr ⟨c, hc⟩
      · cases h
  · cases h
theorem mo_td {st' : List Value} {p : Nat} (h : p + 1 ≤ st'.length) : ∃ c, st'.drop p = c :: st'.drop (p + 1) ∧ (st'.take (p + 1)).reverse = c :: (st'.take p).reverse := by
  have hp : p < st'.length := h
  refine ⟨st'[p], List.drop_eq_getElem_cons hp, ?_⟩
  rw [List.take_succ, List.getElem?_eq_getElem hp]
  simp
theorem ms_invI {a p mx : Nat} (hc : mj_code j k = some e) (hnx : e.2.1 = nx) (hs : ∀ L st hp, mj_step j k e L st hp = mj_invI a st) (hmx : (mj_mx a).1 = mx) (hnp : (mj_mx a).2.2 = p) : mo_Sim j k (ma_inv a (p + 1) mx 21 nx) := ms_in fun X E H d L st K rs hp L' st' K' hg hR hL hst hK => by
  unfold ma_inv at hg
  split at hg
  · exact hg.elim
  · rename_i as r ha
    obtain ⟨hb, hg⟩ := ma_b_n hg
    rw [Bool.and_eq_true, Bool.and_eq_true] at hb
    obtain ⟨⟨b1, b2⟩, b3⟩ := hb
    obtain ⟨q1, q2, q3⟩ := mo_args (p + 1) st [] as r st' [] ha hst trivial
    rw [List.append_nil] at q2
    obtain ⟨c, t1, t2⟩ := mo_td q1
    have b3 : ma_rcv 21 as H = true := b3
    refine ms_inv hmx hnx hc hR hL q2 q3 hK b2 hg ?_
    rw [t2] at q2 ⊢
    obtain ⟨q, as0, has0, -⟩ := ma_rcv_c b3
    rw [has0] at q2
    obtain ⟨w0, tt, e0, hw0, -⟩ := q2.cons
    have e0 : c = w0 := (List.cons.inj e0).1
    subst e0
    obtain ⟨rfl, -⟩ := hw0
    rw [hs]
    unfold mj_invI
    rw [hnp, t1]
    have h2 : Nat.ble (mj_cats (st'.drop (p + 1))) 8 = true := by rw [mo_cats q3]; exact b1
    show (bif Nat.ble (mj_cats (st'.drop (p + 1))) 8 then _ else none) = _
    rw [h2]
    rfl
theorem ms_invV {a p mx o : Nat} (hc : mj_code j k = some e) (hnx : e.2.1 = nx) (hs : ∀ L st hp, mj_step j k e L st hp = mj_invV a st hp) (hmx : (mj_mx a).1 = mx) (hnp : (mj_mx a).2.2 = p) (ho : (mj_mx a).2.1 = o) (ho13 : o < 13) : mo_Sim j k (ma_inv a (p + 1) mx o nx) := ms_in fun X E H d L st K rs hp L' st' K' hg hR hL hst hK => by
  unfold ma_inv at hg
  split at hg
  · exact hg.elim
  · rename_i as r ha
    obtain ⟨hb, hg⟩ := ma_b_n hg
    rw [Bool.and_eq_true, Bool.and_eq_true, Bool.or_eq_true] at hb
    obtain ⟨⟨b1, b2⟩, b3⟩ := hb
    obtain ⟨q1, q2, q3⟩ := mo_args (p + 1) st [] as r st' [] ha hst trivial
    rw [List.append_nil] at q2
    obtain ⟨c, t1, t2⟩ := mo_td q1
    have b3 : ma_rcv o as H = true := b3.resolve_left (fun q => by have := Nat.eq_of_beq_eq_true q; omega)
    refine ms_inv hmx hnx hc hR hL q2 q3 hK b2 hg ?_
    rw [t2] at q2 ⊢
    obtain ⟨q, as0, has0, hcy⟩ := ma_rcv_c b3
    obtain ⟨cy, hcy⟩ := hcy.resolve_left (by omega)
    rw [has0] at q2
    obtain ⟨w0, tt, e0, hw0, -⟩ := q2.cons
    have e0 : c = w0 := (List.cons.inj e0).1
    subst e0
    obtain ⟨rfl, hq⟩ := hw0
    obtain ⟨vs, h3, -⟩ := hR.2.2.1.2.2 q _ hq hcy
    have h3 : hp[q]? = some (o, vs) := h3
    rw [hs]
    unfold mj_invV
    rw [hnp, t1]
    have h2 : Nat.ble (mj_cats (st'.drop (p + 1))) 8 = true := by rw [mo_cats q3]; exact b1
    have h5 : Nat.beq o (mj_mx a).2.1 = true := ms_beq ho.symm
    have h6 : Nat.blt o 13 = true := ms_blt ho13
    simp only [h3, h2, h5, h6, Bool.and_self, cond_true]
theorem ms_obj (hc : mj_code j k = some e) (hs : ∀ L st hp, mj_step j k e L st hp = mj_fobj nx L st) : mo_Sim j k (ma_obj nx) := ms_in fun X E H d L st K rs hp L' st' K' hg hR hL hst hK => by
  unfold ma_obj at hg
  split at hg
  · obtain ⟨wx, t2, rfl, hx, h2⟩ := hst.cons
    obtain ⟨rfl, -⟩ := hx
    obtain ⟨hb, hg⟩ := ma_b_n hg
    refine mo_go hc ?_ (ms_on hg hR hL h2 hK)
    rw [hs]
    unfold mj_fobj
    have h2 : Nat.ble (mj_cats t2) 8 = true := by rw [mo_cats h2]; exact hb
    simp only [h2, cond_true]
    rfl
  · exact hg.elim
theorem mo_num_back {rs : List Int} {E : ma_E} (hE : mo_E rs E) {y : ma_V} {b : Int} (h : ma_num E y = .inl b) {z : Int32} (hz : z.toInt = b) : mo_v rs y (.int z) := by
  rcases y with c | ⟨i, o⟩ | n
  · have h : Sum.inl c = Sum.inl b := h
    cases h
    exact ⟨z, rfl, hz⟩
  · unfold ma_num at h
    simp only [ma_nth_eq] at h
    cases he : E[i]? with
    | none => rw [he] at h; cases h
    | some q =>
      obtain ⟨lo, hi⟩ := q
      rw [he] at h
      have hil : i < rs.length := by rw [hE.1]; exact (List.getElem?_eq_some_iff.mp he).1
      obtain ⟨r, hr⟩ : ∃ r, rs[i]? = some r := ⟨_, List.getElem?_eq_getElem hil⟩
      have hb := hE.2 i lo hi r he hr
      cases hq : ma_eq lo hi with
      | true =>
        have hq2 := (ma_eq_iff _ _).mp hq
        simp only [hq, ma_fz_eq] at h
        have h : lo + o = b := Sum.inl.inj h
        exact ⟨r, z, hr, rfl, by omega⟩
      | false =>
        simp only [hq] at h
        cases h
  · cases h
theorem ma_num_v {E : ma_E} {x : ma_V} {v : Nat} {o lo hi : Int} (h : ma_num E x = .inr (some (v, o, lo, hi))) : x = .inr (.inl (v, o)) := by
  rcases x with c | ⟨i, o2⟩ | n
  · cases h
  · unfold ma_num at h
    simp only at h
    split at h
    · rename_i lo2 hi2 he
      cases hq : ma_eq lo2 hi2 with
      | true => simp only [hq, ma_fz_eq] at h; cases h
      | false => simp only [hq] at h; cases h; rfl
    · cases h
  · cases h
theorem mo_same {rs : List Int} {E : ma_E} (hE : mo_E rs E) {x y : ma_V} {w : Value} (hx : mo_v rs x w) (h : ma_same E x y = true) : mo_v rs y w := by
  unfold ma_same at h
  split at h
  · rename_i a b
    have h := (ma_eq_iff _ _).mp h
    subst h
    exact hx
  · cases h
  · cases h
  · split at h
    · rename_i a b ha hb
      have h := (ma_eq_iff _ _).mp h
      subst h
      obtain ⟨z, rfl, hz⟩ := mo_num_i hE hx ha
      exact mo_num_back hE hb hz
    · rename_i v o q v' o' q' ha hb
      obtain ⟨lo, hi⟩ := q
      obtain ⟨lo', hi'⟩ := q'
      rw [Bool.and_eq_true, ma_eq_iff] at h
      have h1 := Nat.eq_of_beq_eq_true h.1
      have e1 := ma_num_v ha
      have e2 := ma_num_v hb
      rw [e2, ← h1, ← h.2, ← e1]
      exact hx
    · cases h
def mo_ov (rs : List Int) (a : Option ma_V) (v : Option Value) : Prop := match a with
  | some x => ∃ w, v = some w ∧ mo_v rs x w
  | none => v = none
theorem ms_back {X : mo_X} {E : ma_E} {H : ma_H} {K : List ma_F} {rs : List Int} {hp : List mj_C} {K' : List mo_F} {a : Option ma_V} {v : Option Value} (hg : mo_Gs X (ma_back a E H K)) (hR : mo_R X rs E H hp) (hK : mo_fs rs K K') (hv : mo_ov rs a v) : mo_K K' (mo_P X) v hp := by
  unfold ma_back at hg
  split at hg
  · rename_i d j k L st K2
    obtain ⟨L', st', K3, rfl, h1, h2, h3⟩ := mo_fs.cons hK
    show mo_Ok d j k L' (v.toList ++ st') hp (mo_K K3 (mo_P X))
    cases a with
    | none =>
      have hv : v = none := hv
      subst hv
      exact hg _ (List.mem_singleton.mpr rfl) rs hp ((d, j, k, L', st') :: K3) hR ⟨⟨rfl, rfl, rfl, h1, h2⟩, h3⟩
    | some x =>
      obtain ⟨w, rfl, hw⟩ := hv
      exact hg _ (List.mem_singleton.mpr rfl) rs hp ((d, j, k, L', w :: st') :: K3) hR ⟨⟨rfl, rfl, rfl, h1, ⟨hw, h2⟩⟩, h3⟩
  · cases K' with
    | cons _ _ => exact hK.elim
    | nil =>
      cases a with
      | none => exact hg.elim
      | some x =>
        obtain ⟨w, rfl, hw⟩ := hv
        obtain ⟨hb, -⟩ := ma_b_n hg
        rw [Bool.and_eq_true] at hb
        obtain ⟨⟨t, ht⟩, hE, hH, hev, hU⟩ := hR
        have hs := mo_same hE hw hb.1
        have hn := Nat.eq_of_beq_eq_true hb.2
        exact hev.2 _ _ ⟨⟨w, t, rfl, by rw [← ht, ← hev.1]; exact hs⟩, by rw [hH.1, hn, hev.1], fun i hi => (hU i hi).2.2⟩
theorem ms_ret {f : Nat} (hc : mj_code j k = some e) (hs : (f = 0 ∧ mj_rt j = some .int ∧ ∀ L st hp, mj_step j k e L st hp = mj_fir j st) ∨ (f = 1 ∧ mj_rt j = some .boolean ∧ ∀ L st hp, mj_step j k e L st hp = mj_fir j st) ∨ (f = 2 ∧ ((∃ n, mj_rt j = some (.object n)) ∨ ∃ t, mj_rt j = some (.array t)) ∧ ∀ L st hp, mj_step j k e L st hp = mj_far j st) ∨ (f = 3 ∧ mj_rt j = some .long ∧ ∀ L st hp, mj_step j k e L st hp = mj_flr j st)) : mo_Sim j k (ma_ret f) := ms_in fun X E H d L st K rs hp L' st' K' hg hR hL hst hK => by
  unfold ma_ret at hg
  split at hg
  · rename_i v
    obtain ⟨hb, hg⟩ := ma_b_n hg
    obtain ⟨w, t, rfl, hv, ht⟩ := hst.cons
    have ht := mo_vs.nil ht
    subst ht
    split at hg
    · exact hg.elim
    · rename_i hnn
      refine mo_re hc (v := some w) ?_ (ms_back hg hR hK ⟨w, rfl, hv⟩)
      rcases hs with ⟨rfl, hrt, hs⟩ | ⟨rfl, hrt, hs⟩ | ⟨rfl, hrt, hs⟩ | ⟨rfl, hrt, hs⟩
      · rcases v with c | ⟨i, o⟩ | n | q
        · obtain ⟨z, rfl, -⟩ := hv
          rw [hs]; unfold mj_fir; rw [hrt]; rfl
        · obtain ⟨r, z, -, rfl, -⟩ := hv
          rw [hs]; unfold mj_fir; rw [hrt]; rfl
        · cases hb
        · cases hb
      · obtain ⟨m1, m2⟩ := mo_fit (ty := .boolean) (Or.inr (Or.inl ⟨rfl, rfl⟩)) hb hv
        rcases v with c | ⟨i, o⟩ | n | q
        · obtain ⟨z, rfl, -⟩ := hv
          have hz : z = 0 ∨ z = 1 := by
            have m2 : (z == 0 || z == 1) = true := m2
            simp only [Bool.or_eq_true, beq_iff_eq] at m2
            exact m2
          rw [hs]; unfold mj_fir; rw [hrt]
          show (if z = 0 ∨ z = 1 then mj_re (some (.int z)) else none) = _
          rw [if_pos hz]
          rfl
        · cases hb
        · cases hb
        · cases hb
      · rcases v with c | ⟨i, o⟩ | n | q
        · cases hb
        · cases hb
        · cases n with
          | zero => exact absurd rfl hnn
          | succ n =>
            obtain ⟨rfl, -⟩ := hv
            rw [hs]; unfold mj_far
            rcases hrt with ⟨z, hrt⟩ | ⟨z, hrt⟩ <;> (rw [hrt]; rfl)
        · cases hb
      · rcases v with c | ⟨i, o⟩ | n | q
        · cases hb
        · cases hb
        · cases hb
        · obtain ⟨z, rfl⟩ := hv.long rfl
          rw [hs]; unfold mj_flr; rw [hrt]; rfl
  · exact hg.elim
theorem ms_retv (hc : mj_code j k = some e) (hrt : mj_rt j = none) (hs : ∀ L st hp, mj_step j k e L st hp = mj_fvr j st) : mo_Sim j k ma_retv := ms_in fun X E H d L st K rs hp L' st' K' hg hR hL hst hK => by
  unfold ma_retv at hg
  split at hg
  · have ht := mo_vs.nil hst
    subst ht
    refine mo_re hc (v := none) ?_ (ms_back hg hR hK rfl)
    rw [hs]; unfold mj_fvr; rw [hrt]; rfl
  · exact hg.elim
end MT
