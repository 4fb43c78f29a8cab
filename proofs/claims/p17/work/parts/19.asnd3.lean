/-! The machine of unknowns, closure by closure: cells, calls, returns. -/
theorem mo_R.wr {X : mo_X} {rs : List Int} {E : ma_E} {H : ma_H} {hp : List mj_C} (hR : mo_R X rs E H hp) {q y pl : Nat} {c0 c1 : List ma_V ⊕ (Nat × ma_A15)} {vs : List Value} {v : Value} (hq : q < 256) (hx : ma_g8 H.2.2 q = some (y, c0)) (hv : hp[q]? = some (y, vs)) (h1 : mo_c rs c1 (vs.set pl v)) : mo_R X rs E (ma_wr H q (y, c1)) (mj_wr hp q pl v) := by
  have e : mj_wr hp q pl v = hp.set q (y, vs.set pl v) := by unfold mj_wr; rw [hv]
  have hl := (List.getElem?_eq_some_iff.mp hv).1
  rw [e]
  obtain ⟨a1, a2, ⟨b1, b2, b3⟩, a4, a5⟩ := hR
  refine ⟨a1, a2, ⟨by rw [List.length_set]; exact b1, b2, fun i x hi hxi => ?_⟩, a4, fun i hi => ?_⟩
  · by_cases h : i = q
    · subst h
      have h2 : ma_g8 (ma_p8 H.2.2 i (y, c1)) i = some x := hxi
      rw [ma_g_hit8 _ _ _ _ rfl] at h2
      cases h2
      exact ⟨_, List.getElem?_set_self hl, h1⟩
    · have h2 : ma_g8 (ma_p8 H.2.2 q (y, c1)) i = some x := hxi
      rw [ma_g_miss8 _ _ _ _ (by omega)] at h2
      obtain ⟨vs2, h3, h4⟩ := b3 i x hi h2
      exact ⟨vs2, by rw [List.getElem?_set_ne (Ne.symm h)]; exact h3, h4⟩
  · obtain ⟨q1, q2, q3⟩ := a5 i hi
    have hne : i ≠ q := fun z => by rw [z, hx] at q2; cases q2
    refine ⟨q1, ?_, by rw [List.getElem?_set_ne (Ne.symm hne)]; exact q3⟩
    show ma_g8 (ma_p8 H.2.2 q (y, c1)) i = none
    rw [ma_g_miss8 _ _ _ _ (by omega)]
    exact q2
theorem mo_R.push {X : mo_X} {rs : List Int} {E : ma_E} {H : ma_H} {hp : List mj_C} (hR : mo_R X rs E H hp) {n : Nat} (hn : H.1 = n + 1) (hb : n < 250) {x : ma_C} {vs : List Value} (h1 : mo_c rs x.2 vs) : mo_R X rs E (n + 2, H.2.1, ma_p8 H.2.2 (n + 1) x) (hp ++ [(x.1, vs)]) := by
  obtain ⟨a1, a2, ⟨b1, b2, b3⟩, a4, a5⟩ := hR
  refine ⟨a1, a2, ⟨by rw [List.length_append, b1, hn]; rfl, by show n + 2 ≤ 252; omega, fun i z hi hz => ?_⟩, a4, fun i hi => ?_⟩
  · by_cases h : i = n + 1
    · subst h
      have h2 : ma_g8 (ma_p8 H.2.2 (n + 1) x) (n + 1) = some z := hz
      rw [ma_g_hit8 _ _ _ _ rfl] at h2
      cases h2
      refine ⟨vs, ?_, h1⟩
      rw [← hn, ← b1, List.getElem?_append_right (Nat.le_refl _), Nat.sub_self]
      rfl
    · have h2 : ma_g8 (ma_p8 H.2.2 (n + 1) x) i = some z := hz
      rw [ma_g_miss8 _ _ _ _ (by omega)] at h2
      obtain ⟨vs2, h3, h4⟩ := b3 i z hi h2
      exact ⟨vs2, by rw [List.getElem?_append_left (List.getElem?_eq_some_iff.mp h3).1]; exact h3, h4⟩
  · obtain ⟨q1, q2, q3⟩ := a5 i hi
    refine ⟨by show i < n + 2; omega, ?_, by rw [List.getElem?_append_left (by omega)]; exact q3⟩
    show ma_g8 (ma_p8 H.2.2 (n + 1) x) i = none
    rw [ma_g_miss8 _ _ _ _ (by omega)]
    exact q2
theorem mo_c.set {rs : List Int} {len : Nat} {t : ma_A15} {vs : List Value} (h : mo_c rs (.inr (len, t)) vs) {n : Nat} (hn : n < len) {x : ma_V} {v : Value} (hv : mo_v rs x v) : mo_c rs (.inr (len, ma_as15 t n x)) (vs.set n v) := by
  obtain ⟨h1, h2, h3⟩ := h
  refine ⟨by rw [List.length_set]; exact h1, h2, fun m w hm => ?_⟩
  by_cases e : m = n
  · subst e
    rw [List.getElem?_set_self (by omega)] at hm
    cases hm
    rw [ma_ag_hit15 _ _ _ _ rfl]
    exact hv
  · rw [List.getElem?_set_ne (Ne.symm e)] at hm
    have := (List.getElem?_eq_some_iff.mp hm).1
    rw [ma_ag_miss15 _ _ _ _ (by omega)]
    exact h3 m w hm
def mo_ty (f : Nat) (ty : FieldType) : Prop := (f = 0 ∧ ty = .int) ∨ (f = 1 ∧ ty = .boolean) ∨ (f = 2 ∧ ((∃ n, ty = .object n) ∨ ∃ t, ty = .array t)) ∨ (f = 3 ∧ ty = .long)
theorem mo_fit {rs : List Int} {f : Nat} {ty : FieldType} {a : ma_V} {v : Value} (ht : mo_ty f ty) (h : ma_fit f a = true) (hv : mo_v rs a v) : narrow ty v = v ∧ fits ty v = true := by
  rcases ht with ⟨rfl, rfl⟩ | ⟨rfl, rfl⟩ | ⟨rfl, ht⟩ | ⟨rfl, rfl⟩
  · rcases a with c | ⟨i, o⟩ | n | w
    · obtain ⟨z, rfl, -⟩ := hv; exact ⟨rfl, rfl⟩
    · obtain ⟨r, z, -, rfl, -⟩ := hv; exact ⟨rfl, rfl⟩
    · cases h
    · cases h
  · rcases a with c | ⟨i, o⟩ | n | w
    · obtain ⟨z, rfl, hz⟩ := hv
      have h : (false || (true && (ma_eq c 0 || ma_eq c 1))) = true := h
      simp only [Bool.false_or, Bool.true_and, Bool.or_eq_true, ma_eq_iff] at h
      rcases h with h | h
      · have : z = 0 := Int32.toInt_inj.mp (by rw [hz, h]; rfl)
        subst this; exact ⟨rfl, rfl⟩
      · have : z = 1 := Int32.toInt_inj.mp (by rw [hz, h]; rfl)
        subst this; exact ⟨rfl, rfl⟩
    · cases h
    · cases h
    · cases h
  · rcases a with c | ⟨i, o⟩ | n | w
    · cases h
    · cases h
    · cases n with
      | zero => have hv : v = .null := hv; subst hv; rcases ht with ⟨n, rfl⟩ | ⟨t, rfl⟩ <;> exact ⟨rfl, rfl⟩
      | succ n => obtain ⟨rfl, -⟩ := hv; rcases ht with ⟨n, rfl⟩ | ⟨t, rfl⟩ <;> exact ⟨rfl, rfl⟩
    · cases h
  · rcases a with c | ⟨i, o⟩ | n | w
    · cases h
    · cases h
    · cases h
    · obtain ⟨z, rfl⟩ := hv.long rfl; exact ⟨rfl, rfl⟩
section MT
variable {j k nx : Nat} {e : mj_E}
theorem ms_beq {n m : Nat} (h : n = m) : Nat.beq n m = true := by rw [h]; exact Nat.beq_refl m
theorem ms_getf {a b : Nat} (hc : mj_code j k = some e) (hs : ∀ L st hp, mj_step j k e L st hp = mj_getf a b nx L st hp) : mo_Sim j k (ma_getf a b nx) := ms_in fun X E H d L st K rs hp L' st' K' hg hR hL hst hK => by
  unfold ma_getf at hg
  split at hg
  · rename_i q r
    obtain ⟨wx, t2, rfl, hx, h2⟩ := hst.cons
    obtain ⟨rfl, hq⟩ := hx
    split at hg
    · rename_i y vs hc1
      obtain ⟨hb, hg⟩ := ma_b_n hg
      have hb := Nat.eq_of_beq_eq_true hb
      rw [ma_nth_eq] at hg
      split at hg
      · rename_i v hv
        obtain ⟨vs', h3, h4⟩ := hR.2.2.1.2.2 q _ hq hc1
        obtain ⟨w, h5, h6⟩ := mo_vs.get h4 hv
        refine mo_go hc ?_ (ms_on hg hR hL (st' := w :: t2) ⟨h6, h2⟩ hK)
        rw [hs]
        unfold mj_getf
        simp only [h3, ms_beq hb, h5, cond_true]
        rfl
      · exact hg.elim
    · exact hg.elim
  · exact hg.elim
theorem ms_putf {a b f : Nat} (hc : mj_code j k = some e) (hnx : e.2.1 = nx) (hs : ∀ L st hp, mj_step j k e L st hp = mj_putf a b st hp) (hty : mo_ty f (mj_ty a b)) : mo_Sim j k (ma_putf a b f nx) := ms_in fun X E H d L st K rs hp L' st' K' hg hR hL hst hK => by
  unfold ma_putf at hg
  split at hg
  · rename_i v q r
    obtain ⟨wv, t1, rfl, hv, h1⟩ := hst.cons
    obtain ⟨wx, t2, rfl, hx, h2⟩ := h1.cons
    obtain ⟨rfl, hq⟩ := hx
    split at hg
    · rename_i y vs hc1
      obtain ⟨hb, hg⟩ := ma_b_n hg
      rw [Bool.and_eq_true, Bool.and_eq_true] at hb
      obtain ⟨⟨b1, b2⟩, b3⟩ := hb
      have b1 := Nat.eq_of_beq_eq_true b1
      have b3 := mj_blt b3
      rw [ma_len_eq] at b3
      obtain ⟨vs', h3, h4⟩ := hR.2.2.1.2.2 q _ hq hc1
      have h4 : mo_vs rs vs vs' := h4
      obtain ⟨n1, n2⟩ := mo_fit hty b2 hv
      have hlen := mo_vs.len h4
      have hbv : vs'[b]? = some vs'[b] := List.getElem?_eq_getElem (by omega)
      rw [ma_set_eq] at hg
      refine mo_wr hc (i := q) (p := b) (v := wv) (st2 := t2) ?_ (by rw [hnx]; exact ms_on hg (hR.wr (pl := b) (v := wv) hq hc1 h3 (mo_vs.set hv h4)) hL h2 hK)
      rw [hs]
      unfold mj_putf
      simp only [h3, ms_beq b1, hbv, cond_true, n1, n2, decide_true, Bool.and_self]
      rfl
    · exact hg.elim
  · exact hg.elim
theorem ms_aff {rs : List Int} {vs : List Value} {t : ma_A15} {len : Nat} (h : mo_c rs (.inr (len, t)) vs) : ∀ (n m : Nat) (x : Int), ma_aff n t m x = true → ∀ i : Nat, i < n → ma_ag15 t (m + i) = .inl (x + i)
  | 0, _, _, _, i, hi => absurd hi (Nat.not_lt_zero i)
  | n + 1, m, x, ha, i, hi => by
    have e : ma_aff (n + 1) t m x = match ma_ag15 t m with
      | .inl z => ma_eq z x && ma_aff n t (Nat.succ m) (Int.add x 1)
      | _ => false := rfl
    rw [e] at ha
    split at ha
    · rename_i z hz
      rw [Bool.and_eq_true, ma_eq_iff] at ha
      obtain ⟨rfl, h2⟩ := ha
      cases i with
      | zero => rw [Nat.add_zero, hz]; congr 1; omega
      | succ i =>
        have := ms_aff h n (Nat.succ m) (Int.add z 1) h2 i (by omega)
        rw [show m + (i + 1) = Nat.succ m + i by omega, this]
        show Sum.inl (z + 1 + (i : Int)) = Sum.inl (z + ((i + 1 : Nat) : Int))
        congr 1
        omega
    · cases ha
theorem mo_idx {i : Int32} {n : Nat} (h : i.toInt = (n : Int)) : ¬ i < 0 ∧ i.toNatClampNeg = n := by
  refine ⟨fun q => ?_, ?_⟩
  · have := Int32.lt_iff_toInt_lt.mp q
    have e : (0 : Int32).toInt = 0 := rfl
    omega
  · show i.toInt.toNat = n
    omega
theorem ms_iald (hc : mj_code j k = some e) (hs : ∀ L st hp, mj_step j k e L st hp = mj_iald nx L st hp) : mo_Sim j k (ma_iald k nx) := ms_in fun X E H d L st K rs hp L' st' K' hg hR hL hst hK => by
  unfold ma_iald at hg
  split at hg
  · rename_i i q r
    have hst0 := hst
    obtain ⟨wi, t1, rfl, hi, h1⟩ := hst.cons
    obtain ⟨wx, t2, rfl, hx, h2⟩ := h1.cons
    obtain ⟨rfl, hq⟩ := hx
    split at hg
    · rename_i y len t hc1
      obtain ⟨hb, hg⟩ := ma_b_n hg
      obtain ⟨vs, h3, h4⟩ := hR.2.2.1.2.2 q _ hq hc1
      have h4 : mo_c rs (.inr (len, t)) vs := h4
      have fin : ∀ (zi z : Int32) (n : Nat), wi = .int zi → zi.toInt = (n : Int) → vs[n]? = some (.int z) → mj_step j k e L' (wi :: .ref q :: t2) hp = some (.inl (nx, L', .int z :: t2)) := fun zi z n e1 e2 e3 => by
        obtain ⟨q1, q2⟩ := mo_idx e2
        rw [hs, e1]
        unfold mj_iald
        simp only [h3, if_neg q1, hb, cond_true, q2, e3]
        rfl
      split at hg
      · rename_i n hn
        obtain ⟨zi, e1, e2⟩ := mo_num_i hR.2.1 hi hn
        obtain ⟨hl, hg⟩ := ma_b_n hg
        have hl := mj_blt hl
        obtain ⟨w0, hvn⟩ : ∃ w0, vs[n]? = some w0 := ⟨_, List.getElem?_eq_getElem (by rw [h4.1]; exact hl)⟩
        have hr := h4.2.2 n _ hvn
        split at hg
        · rename_i z hz
          rw [hz] at hr
          obtain ⟨zz, f1, f2⟩ := hr
          rw [f1] at hvn
          exact mo_go hc (fin zi zz n e1 e2 hvn) (ms_on hg hR hL (st' := .int zz :: t2) ⟨⟨zz, rfl, f2⟩, h2⟩ hK)
        · rename_i p hz
          rw [hz] at hr
          obtain ⟨pi, po⟩ := p
          obtain ⟨rr, zz, f0, f1, f2⟩ := hr
          rw [f1] at hvn
          exact mo_go hc (fin zi zz n e1 e2 hvn) (ms_on hg hR hL (st' := .int zz :: t2) ⟨⟨rr, zz, f0, rfl, f2⟩, h2⟩ hK)
        · exact hg.elim
      · rename_i v o lo hi2 hn
        obtain ⟨rr, zi, he, hrr, e1, e2, e3, e4⟩ := mo_num_u hR.2.1 hi hn
        split at hg
        · rename_i m w hm hw
          have hm : lo + o = (m : Int) := hm
          have hw : hi2 - lo = (w : Int) := hw
          split at hg
          · rename_i x hx0
            rcases ma_b_t hg with ⟨hb2, hg⟩ | ⟨-, hg⟩
            · rw [Bool.and_eq_true, Bool.and_eq_true] at hb2
              obtain ⟨⟨-, b2⟩, b3⟩ := hb2
              have b2 : m + w < len := mj_blt b2
              rw [ma_fz_eq] at hg
              obtain ⟨i0, hi0⟩ : ∃ i0 : Nat, rr - lo = (i0 : Int) := ⟨(rr - lo).toNat, by omega⟩
              have haf := ms_aff h4 (Nat.succ w) m x b3 i0 (by omega)
              have hzi : zi.toInt = ((m + i0 : Nat) : Int) := by rw [e2]; omega
              obtain ⟨w0, hvn⟩ : ∃ w0, vs[m + i0]? = some w0 := ⟨_, List.getElem?_eq_getElem (by rw [h4.1]; omega)⟩
              have hr := h4.2.2 (m + i0) _ hvn
              rw [haf] at hr
              obtain ⟨zz, f1, f2⟩ := hr
              rw [f1] at hvn
              refine mo_go hc (fin zi zz (m + i0) e1 hzi hvn) (ms_on hg hR hL (st' := .int zz :: t2) ⟨⟨rr, zz, hrr, rfl, ?_⟩, h2⟩ hK)
              show zz.toInt = rr + (x - lo)
              omega
            · exact ms_cutL hg hR hL hst0 hK
          · exact ms_cutL hg hR hL hst0 hK
        · exact hg.elim
      · exact hg.elim
    · exact hg.elim
  · exact hg.elim
theorem ms_lald (hc : mj_code j k = some e) (hs : ∀ L st hp, mj_step j k e L st hp = mj_lald nx L st hp) : mo_Sim j k (ma_lald nx) := ms_in fun X E H d L st K rs hp L' st' K' hg hR hL hst hK => by
  unfold ma_lald at hg
  split at hg
  · rename_i n q r
    obtain ⟨wi, t1, rfl, hi, h1⟩ := hst.cons
    obtain ⟨wx, t2, rfl, hx, h2⟩ := h1.cons
    obtain ⟨rfl, hq⟩ := hx
    obtain ⟨zi, rfl, e2⟩ := hi
    split at hg
    · rename_i y len t hc1
      obtain ⟨hb, hg⟩ := ma_b_n hg
      rw [Bool.and_eq_true] at hb
      obtain ⟨vs, h3, h4⟩ := hR.2.2.1.2.2 q _ hq hc1
      have h4 : mo_c rs (.inr (len, t)) vs := h4
      have hl := mj_blt hb.2
      obtain ⟨w0, hvn⟩ : ∃ w0, vs[n]? = some w0 := ⟨_, List.getElem?_eq_getElem (by rw [h4.1]; exact hl)⟩
      have hr := h4.2.2 n _ hvn
      obtain ⟨q1, q2⟩ := mo_idx e2
      split at hg
      · rename_i z hz
        rw [hz] at hr
        obtain ⟨zz, f1⟩ := hr.long rfl
        rw [f1] at hvn
        refine mo_go hc ?_ (ms_on hg hR hL (st' := .long zz :: t2) ⟨by rw [← f1]; exact hr, h2⟩ hK)
        rw [hs]
        unfold mj_lald
        simp only [h3, if_neg q1, hb.1, cond_true, q2, hvn]
        rfl
      · exact hg.elim
    · exact hg.elim
  · exact hg.elim
theorem ms_aald (hc : mj_code j k = some e) (hs : ∀ L st hp, mj_step j k e L st hp = mj_aald nx L st hp) : mo_Sim j k (ma_aald k nx) := ms_in fun X E H d L st K rs hp L' st' K' hg hR hL hst hK => by
  unfold ma_aald at hg
  split at hg
  · rename_i i q r
    have hst0 := hst
    obtain ⟨wi, t1, rfl, hi, h1⟩ := hst.cons
    obtain ⟨wx, t2, rfl, hx, h2⟩ := h1.cons
    obtain ⟨rfl, hq⟩ := hx
    split at hg
    · rename_i y len t hc1
      obtain ⟨hb, hg⟩ := ma_b_n hg
      obtain ⟨vs, h3, h4⟩ := hR.2.2.1.2.2 q _ hq hc1
      have h4 : mo_c rs (.inr (len, t)) vs := h4
      split at hg
      · rename_i n hn
        obtain ⟨zi, rfl, e2⟩ := mo_num_i hR.2.1 hi hn
        obtain ⟨hl, hg⟩ := ma_b_n hg
        have hl := mj_blt hl
        obtain ⟨w0, hvn⟩ : ∃ w0, vs[n]? = some w0 := ⟨_, List.getElem?_eq_getElem (by rw [h4.1]; exact hl)⟩
        have hr := h4.2.2 n _ hvn
        obtain ⟨q1, q2⟩ := mo_idx e2
        split at hg
        · rename_i p hz
          rw [hz] at hr
          obtain ⟨f1, f2⟩ := hr
          rw [f1] at hvn
          refine mo_go hc ?_ (ms_on hg hR hL (st' := .ref p :: t2) ⟨⟨rfl, f2⟩, h2⟩ hK)
          rw [hs]
          unfold mj_aald
          simp only [h3, if_neg q1, hb, cond_true, q2, hvn]
          rfl
        · exact hg.elim
      · exact ms_cutL hg hR hL hst0 hK
      · exact hg.elim
    · exact hg.elim
  · exact hg.elim
theorem ms_iast (hc : mj_code j k = some e) (hnx : e.2.1 = nx) (hs : ∀ L st hp, mj_step j k e L st hp = mj_iast st hp) : mo_Sim j k (ma_ast 13 0 k nx) := ms_in fun X E H d L st K rs hp L' st' K' hg hR hL hst hK => by
  unfold ma_ast at hg
  split at hg
  · rename_i x i q r
    have hst0 := hst
    obtain ⟨wv, t0, rfl, hv, h0⟩ := hst.cons
    obtain ⟨wi, t1, rfl, hi, h1⟩ := h0.cons
    obtain ⟨wx, t2, rfl, hx, h2⟩ := h1.cons
    obtain ⟨rfl, hq⟩ := hx
    split at hg
    · rename_i y len t hc1
      obtain ⟨hb, hg⟩ := ma_b_n hg
      rw [Bool.and_eq_true] at hb
      obtain ⟨vs, h3, h4⟩ := hR.2.2.1.2.2 q _ hq hc1
      have h4 : mo_c rs (.inr (len, t)) vs := h4
      obtain ⟨zv, rfl⟩ := hv.int hb.2
      split at hg
      · rename_i n hn
        obtain ⟨zi, rfl, e2⟩ := mo_num_i hR.2.1 hi hn
        obtain ⟨hl, hg⟩ := ma_b_n hg
        have hl := mj_blt hl
        obtain ⟨w0, hvn⟩ : ∃ w0, vs[n]? = some w0 := ⟨_, List.getElem?_eq_getElem (by rw [h4.1]; exact hl)⟩
        obtain ⟨q1, q2⟩ := mo_idx e2
        refine mo_wr hc (i := q) (p := n) (v := .int zv) (st2 := t2) ?_ (by rw [hnx]; exact ms_on hg (hR.wr (pl := n) (v := .int zv) hq hc1 h3 (h4.set hl hv)) hL h2 hK)
        rw [hs]
        unfold mj_iast
        simp only [h3, if_neg q1, hb.1, cond_true, q2, hvn]
        rfl
      · exact ms_cutL hg hR hL hst0 hK
      · exact hg.elim
    · exact hg.elim
  · exact hg.elim
theorem ms_last (hc : mj_code j k = some e) (hnx : e.2.1 = nx) (hs : ∀ L st hp, mj_step j k e L st hp = mj_last st hp) : mo_Sim j k (ma_ast 14 2 k nx) := ms_in fun X E H d L st K rs hp L' st' K' hg hR hL hst hK => by
  unfold ma_ast at hg
  split at hg
  · rename_i x i q r
    have hst0 := hst
    obtain ⟨wv, t0, rfl, hv, h0⟩ := hst.cons
    obtain ⟨wi, t1, rfl, hi, h1⟩ := h0.cons
    obtain ⟨wx, t2, rfl, hx, h2⟩ := h1.cons
    obtain ⟨rfl, hq⟩ := hx
    split at hg
    · rename_i y len t hc1
      obtain ⟨hb, hg⟩ := ma_b_n hg
      rw [Bool.and_eq_true] at hb
      obtain ⟨vs, h3, h4⟩ := hR.2.2.1.2.2 q _ hq hc1
      have h4 : mo_c rs (.inr (len, t)) vs := h4
      obtain ⟨zv, rfl⟩ := hv.long hb.2
      split at hg
      · rename_i n hn
        obtain ⟨zi, rfl, e2⟩ := mo_num_i hR.2.1 hi hn
        obtain ⟨hl, hg⟩ := ma_b_n hg
        have hl := mj_blt hl
        obtain ⟨w0, hvn⟩ : ∃ w0, vs[n]? = some w0 := ⟨_, List.getElem?_eq_getElem (by rw [h4.1]; exact hl)⟩
        obtain ⟨q1, q2⟩ := mo_idx e2
        refine mo_wr hc (i := q) (p := n) (v := .long zv) (st2 := t2) ?_ (by rw [hnx]; exact ms_on hg (hR.wr (pl := n) (v := .long zv) hq hc1 h3 (h4.set hl hv)) hL h2 hK)
        rw [hs]
        unfold mj_last
        simp only [h3, if_neg q1, hb.1, cond_true, q2, hvn]
        rfl
      · exact ms_cutL hg hR hL hst0 hK
      · exact hg.elim
    · exact hg.elim
  · exact hg.elim
theorem ms_aast (hc : mj_code j k = some e) (hnx : e.2.1 = nx) (hs : ∀ L st hp, mj_step j k e L st hp = mj_aast st hp) : mo_Sim j k (ma_aast nx) := ms_in fun X E H d L st K rs hp L' st' K' hg hR hL hst hK => by
  unfold ma_aast at hg
  split at hg
  · rename_i p n q r
    obtain ⟨wv, t0, rfl, hv, h0⟩ := hst.cons
    obtain ⟨wi, t1, rfl, hi, h1⟩ := h0.cons
    obtain ⟨wx, t2, rfl, hx, h2⟩ := h1.cons
    obtain ⟨rfl, hq⟩ := hx
    have hv0 := hv
    obtain ⟨rfl, hp1⟩ := hv0
    obtain ⟨zi, rfl, e2⟩ := hi
    split at hg
    · rename_i y len t yx cx hc1 hc2
      obtain ⟨hb, hg⟩ := ma_b_n hg
      rw [Bool.and_eq_true, Bool.and_eq_true] at hb
      obtain ⟨⟨b1, b2⟩, b3⟩ := hb
      have hl := mj_blt b3
      obtain ⟨vs, h3, h4⟩ := hR.2.2.1.2.2 q _ hq hc1
      obtain ⟨vs2, h5, -⟩ := hR.2.2.1.2.2 p _ hp1 hc2
      have h4 : mo_c rs (.inr (len, t)) vs := h4
      obtain ⟨w0, hvn⟩ : ∃ w0, vs[n]? = some w0 := ⟨_, List.getElem?_eq_getElem (by rw [h4.1]; exact hl)⟩
      obtain ⟨q1, q2⟩ := mo_idx e2
      refine mo_wr hc (i := q) (p := n) (v := .ref p) (st2 := t2) ?_ (by rw [hnx]; exact ms_on hg (hR.wr (pl := n) (v := .ref p) hq hc1 h3 (h4.set hl hv)) hL h2 hK)
      rw [hs]
      unfold mj_aast
      simp only [h3, if_neg q1, b1, cond_true, q2, hvn, h5, b2]
      rfl
    · exact hg.elim
  · exact hg.elim
theorem ms_alen (hc : mj_code j k = some e) (hs : ∀ L st hp, mj_step j k e L st hp = mj_alen nx L st hp) : mo_Sim j k (ma_alen nx) := ms_in fun X E H d L st K rs hp L' st' K' hg hR hL hst hK => by
  unfold ma_alen at hg
  split at hg
  · rename_i q r
    obtain ⟨wx, t2, rfl, hx, h2⟩ := hst.cons
    obtain ⟨rfl, hq⟩ := hx
    split at hg
    · rename_i y len t hc1
      obtain ⟨hb, hg⟩ := ma_b_n hg
      rw [Bool.and_eq_true] at hb
      rw [ma_fz_eq] at hg
      obtain ⟨vs, h3, h4⟩ := hR.2.2.1.2.2 q _ hq hc1
      have h4 : mo_c rs (.inr (len, t)) vs := h4
      refine mo_go hc ?_ (ms_on hg hR hL (st' := .int (Int32.ofNat vs.length) :: t2) ⟨⟨_, rfl, ?_⟩, h2⟩ hK)
      · rw [hs]
        unfold mj_alen
        simp only [h3, hb.1, hb.2, Bool.and_self, cond_true]
        rfl
      · rw [h4.1]
        have := h4.2.1
        exact nI_toInt (by omega)
    · exact hg.elim
  · exact hg.elim
theorem ms_new1 {X : mo_X} {E : ma_E} {H : ma_H} {d : Nat} {L : ma_L} {st : List ma_V} {K : List ma_F} {rs : List Int} {hp : List mj_C} {L' : mj_L} {st' st2 : List Value} {K' : List mo_F} {x : ma_C} {vs : List Value} (hg : mo_Gs X (ma_new1 x nx E H d j L st K)) (hR : mo_R X rs E H hp) (hL : mo_L rs L L') (hst : mo_vs rs st st2) (hK : mo_fs rs K K') (hc : mj_code j k = some e) (hnx : e.2.1 = nx) (hs : mj_step j k e L' st' hp = mj_a (x.1, vs) st2) (h1 : mo_c rs x.2 vs) : mo_Ok d j k L' st' hp (mo_K K' (mo_P X)) := by
  unfold ma_new1 at hg
  split at hg
  · exact hg.elim
  · rename_i n hn
    obtain ⟨hb, hg⟩ := ma_b_n hg
    have hb := mj_blt hb
    refine mo_al hc hs ?_
    rw [hnx, hR.2.2.1.1, hn]
    exact ms_on hg (hR.push hn hb h1) hL ⟨⟨rfl, by omega⟩, hst⟩ hK
theorem ms_newo {a : Nat} {x : ma_C} (hc : mj_code j k = some e) (hnx : e.2.1 = nx) (hs : ∀ L st hp, mj_step j k e L st hp = mj_a (mj_blank a) st) (hx1 : x.1 = a) (hx2 : ∀ rs, mo_c rs x.2 (mj_blank a).2) : mo_Sim j k (ma_new x nx) := ms_in fun X E H d L st K rs hp L' st' K' hg hR hL hst hK => by
  subst hx1
  exact ms_new1 hg hR hL hst hK hc hnx (hs L' st' hp) (hx2 rs)
theorem mo_c.rep {rs : List Int} {z : ma_V} {v : Value} (h : mo_v rs z v) {n : Nat} (hn : n ≤ 32768) : mo_c rs (.inr (n, ma_a15 z)) (List.replicate n v) := by
  refine ⟨List.length_replicate, hn, fun m w hm => ?_⟩
  rw [List.getElem?_replicate] at hm
  split at hm
  · cases hm
    rw [ma_ag_nil15]
    exact h
  · cases hm
theorem ms_newa {c : Nat} {z : ma_V} {v : Value} (hc : mj_code j k = some e) (hnx : e.2.1 = nx) (hs : ∀ L (x : Int32) r hp, ¬ x < 0 → x.toNatClampNeg ≤ 1000000 → mj_step j k e L (.int x :: r) hp = mj_a (c, List.replicate x.toNatClampNeg v) r) (hz : ∀ rs, mo_v rs z v) : mo_Sim j k (ma_newa c z nx) := ms_in fun X E H d L st K rs hp L' st' K' hg hR hL hst hK => by
  unfold ma_newa at hg
  split at hg
  · rename_i n r
    obtain ⟨wx, t2, rfl, hx, h2⟩ := hst.cons
    obtain ⟨zi, rfl, e2⟩ := hx
    obtain ⟨q1, q2⟩ := mo_idx e2
    obtain ⟨hb, hg⟩ := ma_b_n hg
    have hb := Nat.le_of_ble_eq_true hb
    exact ms_new1 hg hR hL h2 hK hc hnx (hs L' zi t2 hp q1 (by omega)) (by rw [q2]; exact mo_c.rep (hz rs) hb)
  · exact hg.elim
end MT
