/-! Calls. -/
def mj_Pc (G : mj_G) (ad : Nat → Nat) (B0 : Nat) (as : List Value) (hp : List mj_C) : Array Value → State → Prop := fun v U => v = (as.map (mj_cv ad)).toArray ∧ mj_Tb U ∧ mj_K G U ∧ mj_W G ad B0 U hp U.heap
def mj_Qc (G : mj_G) (ad : Nat → Nat) (B0 : Nat) (r : Option Value) (hp' : List mj_C) : Array Value → State → Outcome → State → Prop := fun _ _ oc t => oc = .returned (r.map (mj_cv ad)) ∧ mj_W G ad B0 t hp' t.heap
def mj_rm (d mc ms : Nat) : Room := { frames := d + 1, cells := mc, slots := ms, locals := 40 * (d + 1) }
def mj_ws (j : Nat) : List Jvm.Cond := [Jvm.Cond.code (mj_y j) (mj_cc j) (mj_mx j).1 (mj_rt j)]
def mj_MetP (l : Launch) (G : mj_G) (ad : Nat → Nat) (B0 d j : Nat) (as : List Value) (hp : List mj_C) (r : Option Value) (hp' : List mj_C) : Prop := Met l (mj_y j) (mj_ws j) (mj_rm d (hp'.length - hp.length) (mj_sz hp' - mj_sz hp)) (mj_Pc G ad B0 as hp) (mj_Qc G ad B0 r hp') (hp'.length - hp.length) (mj_sz hp' - mj_sz hp) (fun q => B0 ≤ q)
def mj_Fr (G : mj_G) (j d : Nat) (p : Program) (R : Room) (s : State) (m : MethodId) (meth : Method) (c : Code) : Prop := p.tables.exec = Jvm.exec ∧ c.code = mj_cc j ∧ c.maxLocals = (mj_mx j).1 ∧ s.vm.findClass (mj_nm (mj_mx j).2.1) = some m.cls ∧ mj_Tb s ∧ mj_K G s ∧ ((mj_y j).name = "<init>" → meth.name = "<init>") ∧ d + 1 ≤ R.frames ∧ 40 * (d + 1) ≤ R.locals
theorem mj_gd_good {w : Jvm.Cond} (h : goodWord w = true) : mj_gd w = true := by
  unfold mj_gd
  rw [h]
  rfl
/-- what a method's own words say -/
theorem mj_cm {j : Nat} (hj : j < mj_M) (h0 : 0 < j) : Jvm.Cond.code (mj_y j) (mj_cc j) (mj_mx j).1 (mj_rt j) ∈ lw_gd ∧ Jvm.Cond.initialized (mj_y j).cls ∈ lw_gd ∧ (mj_y j).cls = mj_nm (mj_mx j).2.1 ∧ (parseMethodDescriptor (mj_y j).desc).map (fun d => d.parameters.length) = some (mj_mx j).2.2 ∧ plainFor (mj_y j) = true ∧ ((mj_y j).cls ≠ "java/lang/invoke/MethodHandle" ∧ (mj_y j).cls ≠ "java/lang/invoke/VarHandle") ∧ (mj_mx j).1 ≤ 21 := by
  have h := mj_cm_all j hj
  unfold mj_ckm at h
  simp only [Bool.or_eq_true, Bool.and_eq_true, decide_eq_true_eq] at h
  rcases h with h | ⟨⟨⟨⟨⟨⟨⟨h1, h2⟩, h3⟩, h4⟩, h5⟩, h6⟩, h7⟩, h8⟩
  · have := Nat.eq_of_beq_eq_true h
    omega
  · exact ⟨mj_in h1 (mj_gd_good rfl), mj_in h2 (mj_gd_good rfl), h3, h4, h5, ⟨h6, h7⟩, h8⟩
theorem mj_blind (G : mj_G) (ad : Nat → Nat) (B0 : Nat) (as : List Value) (hp : List mj_C) : FrameBlind (mj_Pc G ad B0 as hp) := fun a U g mk h => by
  obtain ⟨h1, h2, h3, h4⟩ := h
  exact ⟨h1, h2.warm (U := U.calling g mk a) (State.WarmedH.refl U), h3.moved (U := U.calling g mk a) (Vm.Alike.refl U.vm), h4.moved (U := U.calling g mk a) (Vm.Alike.refl U.vm)⟩
section MJC
variable {p : Program} {l : Launch} {e : Env} {R : Room} {s : State} {m : MethodId} {args : Array Value} {below : List Frame} {meth : Method} {c : Code} {H : Heap} {locs : List Loc} {cells slots : Nat} {Q : State → Prop}
variable {pc : Nat} {ls : Array Slot} {G : mj_G} {ad : Nat → Nat} {B0 : Nat} {hp hp1 : List mj_C}
theorem mj_callW {Qa : State → Outcome → State → Prop} {mc ms : Nat} {st0 rest : List Value} {rv : Option Value} (hr : va_Run p l e R s m args below meth c H locs cells slots mc ms (F0 m pc ls st0) rest Qa (fun q => B0 ≤ q)) (hQ : ∀ st₀ v t, Qa st₀ (.returned v) t → v = rv ∧ mj_W G ad B0 t hp1 t.heap) (hL : ∀ q ∈ locs, B0 ≤ q.base)
    (kk : ∀ (H1 : Heap) (locs1 : List Loc), mj_W G ad B0 s hp1 H1 → (∀ q ∈ locs1, B0 ≤ q.base) → W p l e R s m args below meth c H1 locs1 (cells + mc) (slots + ms) Q (F0 m (pc + 3) ls (rv.toList ++ rest))) : W p l e R s m args below meth c H locs cells slots Q (F0 m pc ls st0) := by
  intro T hT X
  obtain ⟨v, st₀, t, T', L, h0, X', hL', e1, e2, hq, st⟩ := hr T hT X
  obtain ⟨rfl, hW1⟩ := hQ _ _ _ hq
  have hal : s.vm.Alike t.vm := by rw [← e2]; exact X'.warmed.alike
  obtain ⟨t2, a1, b1⟩ := kk T'.heap (locs ++ L) (by rw [e1]; exact hW1.moved hal.symm) (fun q hq => by
    rcases List.mem_append.mp hq with h | h
    · exact hL q h
    · exact hL' q h) T' rfl X'
  exact ⟨t2, st t2 a1, b1⟩
theorem mj_catsv (rest : List Value) : ((rest.map (mj_cv ad)).map fun v => v.category).sum = mj_cats rest := by
  unfold mj_cats
  rw [List.map_map]
  congr 1
  refine List.map_congr_left fun v _ => ?_
  exact mj_cv_cat ad v
theorem mj_cb {j d' a mc ms index : Nat} (F : mj_Fr G j (d' + 1) p R s m meth c) (ha : a < mj_M) (h0 : 0 < a) (hl : Jvm.Cond.methodLink (mj_nm (mj_mx j).2.1) index (mj_y a) ∈ lw_gd) : CallB R s args (mj_nm (mj_mx j).2.1) index (mj_y a) (mj_cc a) (mj_mx a).1 (mj_rt a) (mj_ws a) (mj_rm d' mc ms) mc ms (mj_mx a).2.2 := by
  obtain ⟨hx, hb, hml, hown, hT, hK, hnm, hfr, hlo⟩ := F
  obtain ⟨w1, w2, w3, w4, w5, w6, w7⟩ := mj_cm ha h0
  refine ⟨rfl, rfl, by show d' + 1 + 1 ≤ _; omega, by show 8 + ((mj_mx a).1 + 11) + 40 * (d' + 1) ≤ _; omega, fun w hw a' U hW => ?_, List.mem_singleton.mpr rfl, hT _ w1 args, hT _ w2 args, w6, fun sig h => ?_, hT _ hl args⟩
  · rw [List.mem_singleton.mp hw]
    exact (hT.warm hW) _ w1 a'
  · rw [h] at w4
    exact (Option.some.inj w4).symm
theorem mj_pre {U : State} {as : List Value} (hT : mj_Tb s) (hK : mj_K G s) (hW : mj_W G ad B0 s hp H) (hU : U.heap = H) (hWm : s.WarmedH U.vm) : mj_Pc G ad B0 as hp (as.map (mj_cv ad)).toArray U := ⟨rfl, hT.warm hWm, hK.moved hWm.alike, by rw [hU]; exact hW.moved hWm.alike⟩
theorem mj_post {as : Array Value} {rv : Option Value} : ∀ (st₀ : State) (v : Option Value) (t : State), mj_Qc G ad B0 rv hp1 as st₀ (.returned v) t → v = rv.map (mj_cv ad) ∧ mj_W G ad B0 t hp1 t.heap := fun st₀ v t h => ⟨Outcome.returned.inj h.1, h.2⟩
theorem mj_r_V {j d' a index q y : Nat} {as rest : List Value} {vs : List Value} {rv : Option Value} (F : mj_Fr G j (d' + 1) p R s m meth c) (ha : a < mj_M) (h0 : 0 < a) (hM : mj_MetP l G ad B0 d' a (.ref q :: as) hp rv hp1) (hW : mj_W G ad B0 s hp H) (hL : ∀ q ∈ locs, B0 ≤ q.base) (hq : hp[q]? = some (y, vs)) (hy : y = (mj_mx a).2.1) (hy13 : y < 13) (hlen : as.length = (mj_mx a).2.2) (hcat : mj_cats rest ≤ 8) (hsz : ls.size = (mj_mx j).1)
    (hl : Jvm.Cond.methodLink (mj_nm (mj_mx j).2.1) index (mj_y a) ∈ lw_gd) (hin : Jvm.Cond.instanceMethod (mj_y a) ∈ lw_gd) (hse : Jvm.Cond.selects (mj_y a).cls (mj_y a) (mj_y a) ∈ lw_gd) (hdg : decode (mj_cc j) pc = .ok (.invokevirtual index, 3)) (hc1 : cells + (hp1.length - hp.length) ≤ R.cells) (hs1 : slots + (mj_sz hp1 - mj_sz hp) ≤ R.slots)
    (kk : ∀ (H1 : Heap) (locs1 : List Loc), mj_W G ad B0 s hp1 H1 → (∀ q ∈ locs1, B0 ≤ q.base) → W p l e R s m args below meth c H1 locs1 (cells + (hp1.length - hp.length)) (slots + (mj_sz hp1 - mj_sz hp)) Q (F0 m (pc + 3) ls ((rv.map (mj_cv ad)).toList ++ rest.map (mj_cv ad)))) : W p l e R s m args below meth c H locs cells slots Q (F0 m pc ls ((as.reverse ++ .ref q :: rest).map (mj_cv ad))) := by
  have hcb := mj_cb (args := args) (mc := hp1.length - hp.length) (ms := mj_sz hp1 - mj_sz hp) F ha h0 hl
  obtain ⟨hx, hb, hml, hown, hT, hK, hnm, hfr, hlo⟩ := F
  obtain ⟨-, -, w3, -⟩ := mj_cm ha h0
  refine mj_callW (va_runV (Ts := []) (C := (mj_y a).cls) (b := ad q) (As := as.map (mj_cv ad)) (rest := rest.map (mj_cv ad)) ⟨hx, hb, hml, hown, fun w h => by cases h⟩ hM ⟨hcb, hT _ hin args, hT _ hse args⟩ ⟨mj_blind G ad B0 _ hp, ?_, fun U hU hWm => mj_pre (as := .ref q :: as) hT hK hW hU hWm⟩ rfl (by rw [List.length_map]; exact hlen) hsz (by simp [mj_cv]) (lv_room (by rw [mj_catsv]; exact hcat)) hdg ⟨hc1, hs1⟩) mj_post hL kk
  rcases hW.1 q _ hq with ⟨h18, -⟩ | ⟨-, -, cell, h1, h2, h3, -⟩
  · exact absurd h18 (by show ¬ y = 18; omega)
  · refine ⟨cell, h1, by rw [h3]; rfl, ?_⟩
    rw [w3, ← hy, h2]
    exact (hK.1 y hy13).2.1
theorem mj_r_S {j d' a index : Nat} {as rest : List Value} {rv : Option Value} (F : mj_Fr G j (d' + 1) p R s m meth c) (ha : a < mj_M) (h0 : 0 < a) (hM : mj_MetP l G ad B0 d' a as hp rv hp1) (hW : mj_W G ad B0 s hp H) (hL : ∀ q ∈ locs, B0 ≤ q.base) (hlen : as.length = (mj_mx a).2.2) (hcat : mj_cats rest ≤ 8) (hsz : ls.size = (mj_mx j).1)
    (hl : Jvm.Cond.methodLink (mj_nm (mj_mx j).2.1) index (mj_y a) ∈ lw_gd) (hin : Jvm.Cond.static (mj_y a) ∈ lw_gd) (hdg : decode (mj_cc j) pc = .ok (.invokestatic index, 3)) (hc1 : cells + (hp1.length - hp.length) ≤ R.cells) (hs1 : slots + (mj_sz hp1 - mj_sz hp) ≤ R.slots)
    (kk : ∀ (H1 : Heap) (locs1 : List Loc), mj_W G ad B0 s hp1 H1 → (∀ q ∈ locs1, B0 ≤ q.base) → W p l e R s m args below meth c H1 locs1 (cells + (hp1.length - hp.length)) (slots + (mj_sz hp1 - mj_sz hp)) Q (F0 m (pc + 3) ls ((rv.map (mj_cv ad)).toList ++ rest.map (mj_cv ad)))) : W p l e R s m args below meth c H locs cells slots Q (F0 m pc ls ((as.reverse ++ rest).map (mj_cv ad))) := by
  have hcb := mj_cb (args := args) (mc := hp1.length - hp.length) (ms := mj_sz hp1 - mj_sz hp) F ha h0 hl
  obtain ⟨hx, hb, hml, hown, hT, hK, hnm, hfr, hlo⟩ := F
  exact mj_callW (va_runS (Ts := []) (As := as.map (mj_cv ad)) (rest := rest.map (mj_cv ad)) ⟨hx, hb, hml, hown, fun w h => by cases h⟩ hM ⟨hcb, hT _ hin args⟩ ⟨mj_blind G ad B0 _ hp, fun U hU hWm => mj_pre (as := as) hT hK hW hU hWm⟩ rfl (by rw [List.length_map]; exact hlen) hsz (by simp) (lv_room (by rw [mj_catsv]; exact hcat)) hdg ⟨hc1, hs1⟩) mj_post hL kk
theorem mj_r_I {j d' a index q : Nat} {as rest : List Value} {rv : Option Value} (F : mj_Fr G j (d' + 1) p R s m meth c) (ha : a < mj_M) (h0 : 0 < a) (hM : mj_MetP l G ad B0 d' a (.ref q :: as) hp rv hp1) (hW : mj_W G ad B0 s hp H) (hL : ∀ q ∈ locs, B0 ≤ q.base) (hlen : as.length = (mj_mx a).2.2) (hcat : mj_cats rest ≤ 8) (hsz : ls.size = (mj_mx j).1)
    (hl : Jvm.Cond.methodLink (mj_nm (mj_mx j).2.1) index (mj_y a) ∈ lw_gd) (hin : Jvm.Cond.instanceMethod (mj_y a) ∈ lw_gd) (hnm1 : (mj_y a).name = "<init>") (hrt : mj_rt a = none) (hdg : decode (mj_cc j) pc = .ok (.invokespecial index, 3)) (hc1 : cells + (hp1.length - hp.length) ≤ R.cells) (hs1 : slots + (mj_sz hp1 - mj_sz hp) ≤ R.slots)
    (kk : ∀ (H1 : Heap) (locs1 : List Loc), mj_W G ad B0 s hp1 H1 → (∀ q ∈ locs1, B0 ≤ q.base) → W p l e R s m args below meth c H1 locs1 (cells + (hp1.length - hp.length)) (slots + (mj_sz hp1 - mj_sz hp)) Q (F0 m (pc + 3) ls ((rv.map (mj_cv ad)).toList ++ rest.map (mj_cv ad)))) : W p l e R s m args below meth c H locs cells slots Q (F0 m pc ls ((as.reverse ++ .ref q :: rest).map (mj_cv ad))) := by
  have hcb := mj_cb (args := args) (mc := hp1.length - hp.length) (ms := mj_sz hp1 - mj_sz hp) F ha h0 hl
  rw [hrt] at hcb
  obtain ⟨hx, hb, hml, hown, hT, hK, hnm, hfr, hlo⟩ := F
  exact mj_callW (va_runI (Ts := []) (b := ad q) (As := as.map (mj_cv ad)) (rest := rest.map (mj_cv ad)) ⟨hx, hb, hml, hown, fun w h => by cases h⟩ hM ⟨hcb, hnm1, hT _ hin args⟩ ⟨mj_blind G ad B0 _ hp, fun U hU hWm => mj_pre (as := .ref q :: as) hT hK hW hU hWm⟩ rfl (by rw [List.length_map]; exact hlen) hsz (by simp [mj_cv]) (lv_room (by rw [mj_catsv]; exact hcat)) hdg ⟨hc1, hs1⟩) mj_post hL kk
theorem mj_r_IN {j d' a index q : Nat} {as rest : List Value} {rv : Option Value} (F : mj_Fr G j (d' + 1) p R s m meth c) (ha : a < mj_M) (h0 : 0 < a) (hM : mj_MetP l G ad B0 d' a (.ref q :: as) hp rv hp1) (hW : mj_W G ad B0 s hp H) (hL : ∀ q ∈ locs, B0 ≤ q.base) (hlen : as.length = (mj_mx a).2.2) (hcat : mj_cats rest ≤ 8) (hsz : ls.size = (mj_mx j).1)
    (hl : Jvm.Cond.methodLinkNest (mj_nm (mj_mx j).2.1) index (mj_y a) mj_host ∈ lw_gd) (hin : Jvm.Cond.instanceMethod (mj_y a) ∈ lw_gd) (hnm1 : (mj_y a).name = "<init>") (hrt : mj_rt a = none) (hdg : decode (mj_cc j) pc = .ok (.invokespecial index, 3)) (hc1 : cells + (hp1.length - hp.length) ≤ R.cells) (hs1 : slots + (mj_sz hp1 - mj_sz hp) ≤ R.slots)
    (kk : ∀ (H1 : Heap) (locs1 : List Loc), mj_W G ad B0 s hp1 H1 → (∀ q ∈ locs1, B0 ≤ q.base) → W p l e R s m args below meth c H1 locs1 (cells + (hp1.length - hp.length)) (slots + (mj_sz hp1 - mj_sz hp)) Q (F0 m (pc + 3) ls ((rv.map (mj_cv ad)).toList ++ rest.map (mj_cv ad)))) : W p l e R s m args below meth c H locs cells slots Q (F0 m pc ls ((as.reverse ++ .ref q :: rest).map (mj_cv ad))) := by
  obtain ⟨hx, hb, hml, hown, hT, hK, hnm, hfr, hlo⟩ := F
  obtain ⟨w1, w2, w3, w4, w5, w6, w7⟩ := mj_cm ha h0
  have w1' := w1
  rw [hrt] at w1'
  have hcn : va_CN R s args (mj_nm (mj_mx j).2.1) index (mj_y a) mj_host (mj_cc a) (mj_mx a).1 none (mj_ws a) (mj_rm d' (hp1.length - hp.length) (mj_sz hp1 - mj_sz hp)) (hp1.length - hp.length) (mj_sz hp1 - mj_sz hp) (mj_mx a).2.2 := by
    refine ⟨⟨rfl, rfl, by show d' + 1 + 1 ≤ _; omega, by show 8 + ((mj_mx a).1 + 11) + 40 * (d' + 1) ≤ _; omega, fun w hw a' U hW => ?_, by unfold mj_ws; rw [hrt]; exact List.mem_singleton.mpr rfl⟩, hT _ w1' args, hT _ w2 args, w6, fun sig h => ?_, hT _ hl args⟩
    · rw [List.mem_singleton.mp hw]
      exact (hT.warm hW) _ w1 a'
    · rw [h] at w4
      exact (Option.some.inj w4).symm
  exact mj_callW (va_runIN (Ts := []) (b := ad q) (As := as.map (mj_cv ad)) (rest := rest.map (mj_cv ad)) ⟨hx, hb, hml, hown, fun w h => by cases h⟩ hM ⟨hcn, hnm1, hT _ hin args⟩ ⟨mj_blind G ad B0 _ hp, fun U hU hWm => mj_pre (as := .ref q :: as) hT hK hW hU hWm⟩ rfl (by rw [List.length_map]; exact hlen) hsz (by simp [mj_cv]) (lv_room (by rw [mj_catsv]; exact hcat)) hdg ⟨hc1, hs1⟩) mj_post hL kk
end MJC
