/-! The small machine's runs are the machine's. -/
def mj_rk (j : Nat) (ins : Instr) (r : Option Value) : Prop :=
  (ins = .ireturn ∧ ∃ v, r = some (.int v) ∧ (mj_rt j = some .int ∨ (mj_rt j = some .boolean ∧ (v = 0 ∨ v = 1)))) ∨ (ins = .lreturn ∧ ∃ v, r = some (.long v) ∧ mj_rt j = some .long) ∨ (ins = .areturn ∧ ∃ v, r = some (.ref v) ∧ ((∃ n, mj_rt j = some (.object n)) ∨ ∃ t, mj_rt j = some (.array t))) ∨ (ins = .return_ ∧ r = none ∧ mj_rt j = none)
def mj_Snd (n : Nat) : Prop := ∀ (d j k : Nat) (L : mj_L) (st : List Value) (hp : List mj_C) (r : Option Value) (hp' : List mj_C), mj_exec n d j k L st hp = some (r, hp') → j < mj_M →
  ∀ (l : Launch) (G : mj_G) (ad : Nat → Nat) (B0 : Nat) (p : Program) (e : Env) (R : Room) (s : State) (m : MethodId) (args : Array Value) (below : List Frame) (meth : Method) (c : Code) (H : Heap) (locs : List Loc) (cells slots : Nat) (Q : State → Prop) (ls : Array Slot),
  mj_Fr G j d p R s m meth c → mj_W G ad B0 s hp H → mj_lr ad ls (mj_mx j).1 L → (∀ q ∈ locs, B0 ≤ q.base) → cells + (hp'.length - hp.length) ≤ R.cells → slots + (mj_sz hp' - mj_sz hp) ≤ R.slots →
  (∀ (H' : Heap) (locs' : List Loc) (ls' : Array Slot) (k' : Nat) (ins : Instr), decode (mj_cc j) k' = .ok (ins, 1) → mj_rk j ins r → mj_W G ad B0 s hp' H' → (∀ q ∈ locs', B0 ≤ q.base) → W p l e R s m args below meth c H' locs' (cells + (hp'.length - hp.length)) (slots + (mj_sz hp' - mj_sz hp)) Q (F0 m k' ls' (r.map (mj_cv ad)).toList)) →
  W p l e R s m args below meth c H locs cells slots Q (F0 m k ls (st.map (mj_cv ad)))
/-- a contract by way of plainFor -/
theorem mj_ofW {l : Launch} {y : MethodName} {ws ws' : List Jvm.Cond} {rm : Room} {Pc : Array Value → State → Prop} {Qc : Array Value → State → Outcome → State → Prop} {mc ms : Nat} {free : Addr → Prop} {cc : ByteArray} {maxL : Nat} {ret : Option FieldType}
    (hy : plainFor y = true) (hw : ws = Cond.code y cc maxL ret :: ws')
    (body : ∀ p e s m args below meth c s₁, BodyLoose p l y (headSpec ws rm) cc maxL ret e s m args below meth c s₁ → c.maxLocals = maxL → Pc args s →
      W p l e (headSpec ws rm).room s m args below meth c s.heap [] 0 0 (MQ below Qc args s mc ms free) (entryFrame m args maxL)) : Met l y ws rm Pc Qc mc ms free := by
  refine MetFree.of_bodySF (code := cc) (maxLocals := maxL) (ret := ret) hy ?_ ?_
  · intro args s m h hn
    obtain ⟨meth, c, h1, h2, h3, h4, h5, h6, -, -⟩ := Cond.code_spec hn (atoms_spec (ws := ws) h _ (by rw [hw]; exact List.mem_cons_self))
    exact ⟨meth, c, h1, h2, h3, h4, h5, h6⟩
  · intro p e s m args below meth c s₁ B hml hP _
    have hh0 : s₁.heap = s.heap := by rw [B.state]; rfl
    obtain ⟨t, a1, o, b1, b2, b3⟩ := body p e s m args below meth c s₁ B hml hP s₁ hh0 (Stand.of_body B)
    exact ⟨t, o, a1, b1, b2, ⟨b3.1, b3.2⟩⟩
theorem mj_met {n : Nat} (ih : mj_Snd n) {l : Launch} {G : mj_G} {ad : Nat → Nat} {B0 d j : Nat} {as : List Value} {hp hp' : List mj_C} {r : Option Value} (h : mj_exec n d j 0 (mj_ent (mj_mx j).1 as) [] hp = some (r, hp')) (hl : (mj_sl as).length ≤ (mj_mx j).1) (hj : j < mj_M) (h0 : 0 < j) : mj_MetP l G ad B0 d j as hp r hp' := by
  obtain ⟨w1, w2, w3, w4, w5, w6, w7⟩ := mj_cm hj h0
  refine mj_ofW (cc := mj_cc j) (maxL := (mj_mx j).1) (ret := mj_rt j) (ws' := []) w5 rfl ?_
  intro p e s m args below meth c s₁ B hml hv
  obtain ⟨rfl, hT, hK, hW⟩ := hv
  have hx := B.exec
  have hb := B.bytes
  have hr := B.returns
  have hown : s.vm.findClass (mj_y j).cls = some m.cls := findClass_of_methodNamed B.named
  have hlocks := B.notSynchronized
  have hnm : meth.name = (mj_y j).name := (name_of_methodNamed B.named B.method).1
  rw [lg_entry_eq]
  refine ih d j 0 _ [] hp r hp' h hj l G ad B0 p e _ s m _ below meth c s.heap [] 0 0 _ _ ⟨hx, hb, hml, by rw [← w3]; exact hown, hT, hK, fun q => hnm.trans q, Nat.le_refl _, Nat.le_refl _⟩ hW (mj_lr.entry hl) (fun q hq => by cases hq) (by show 0 + _ ≤ hp'.length - hp.length; omega) (by show 0 + _ ≤ mj_sz hp' - mj_sz hp; omega) ?_
  intro H' locs' ls' k' ins hd hk hW' hL'
  rw [Nat.zero_add, Nat.zero_add]
  have hq : ∀ t : State, t.heap = H' → s.WarmedH t.vm → mj_Qc G ad B0 r hp' (as.map (mj_cv ad)).toArray s (.returned (r.map (mj_cv ad))) t := fun t ht hWm => ⟨rfl, by rw [ht]; exact hW'.moved hWm.alike⟩
  rcases hk with ⟨rfl, v, rfl, hk⟩ | ⟨rfl, v, rfl, hk⟩ | ⟨rfl, v, rfl, hk⟩ | ⟨rfl, rfl, hk⟩
  · rcases hk with hk | ⟨hk, hv⟩
    · exact W.iret (v := v) hx hb (hr.trans hk) hq hL' hd
    · refine W.zret (v := v) hx hb (hr.trans hk) ?_ hq hL' hd
      rcases hv with rfl | rfl <;> rfl
  · exact W.lret (v := v) hx hb (hr.trans hk) hq hL' hd
  · rcases hk with ⟨z, hk⟩ | ⟨z, hk⟩
    · exact W.aret (v := .ref (ad v)) hx hb (hr.trans hk) (Or.inl ⟨z, rfl⟩) (Or.inr ⟨_, rfl⟩) hq hL' hd
    · exact W.aret (v := .ref (ad v)) hx hb (hr.trans hk) (Or.inr ⟨z, rfl⟩) (Or.inr ⟨_, rfl⟩) hq hL' hd
  · exact W.vret hx hb (hr.trans hk) hq hL' hd
theorem mj_ft {b : Bool} (h : b = true) (e : b = false) : False := by rw [h] at e; cases e
/-- what the checks say of an entry -/
theorem mj_ck {j k : Nat} {ins : Instr} {nx a b w : Nat} (hj : j < mj_M) (h : mj_code j k = some (ins, nx, a, b, w)) : mj_ckw j k (ins, nx, a, b, w) = true ∧ (mj_isTs ins = false → nx = k + mj_il ins ∧ decode (mj_cc j) k = .ok (ins, mj_il ins)) ∧ ∃ n, decode (mj_cc j) k = .ok (ins, n) := by
  have hlt : k < mj_len j := by
    unfold mj_code at h
    obtain ⟨h1, -⟩ := mj_bif h
    exact mj_blt h1
  have h1 := mj_ck_all j hj k hlt
  have h2 := mj_cl_all j hj k hlt
  unfold mj_ckp at h1
  unfold mj_ckl at h2
  rw [h] at h1 h2
  simp only [Bool.and_eq_true, decide_eq_true_eq, Bool.or_eq_true] at h1 h2
  obtain ⟨⟨h3, h4⟩, h5⟩ := h1
  refine ⟨h5, fun hts => ?_, _, h3⟩
  rcases h2 with h2 | h2
  · rw [hts] at h2; cases h2
  · have e := Nat.eq_of_beq_eq_true h2
    refine ⟨e, ?_⟩
    rw [h3, e, Nat.add_sub_cancel_left]
/-- what a class's own words say -/
theorem mj_cw {y : Nat} (hy : y < 13) : Jvm.Cond.instantiable (mj_nm y) (mj_N y) ∈ lw_gd ∧ Jvm.Cond.initialized (mj_nm y) ∈ lw_gd ∧ (∀ w ∈ u_ws (mj_nm y) (mj_T y) (mj_N y), w ∈ lw_gd) ∧ ∀ k, k < mj_N y → parseFieldDescriptor (mj_T y k).2.2.1 = some (mj_ty y k) := by
  have h := mj_cw_all y hy
  unfold mj_ckc at h
  simp only [Bool.and_eq_true, decide_eq_true_eq] at h
  obtain ⟨⟨h1, h2⟩, h3⟩ := h
  have h4 := fun k (hk : k < mj_N y) => List.all_eq_true.mp h3 k (List.mem_range.mpr hk)
  refine ⟨mj_in h1 (mj_gd_good rfl), mj_in h2 (mj_gd_good rfl), fun w hw => ?_, fun k hk => ?_⟩
  · obtain ⟨k, hk, rfl⟩ := List.mem_map.mp hw
    have h5 := h4 k (List.mem_range.mp hk)
    simp only [Bool.and_eq_true] at h5
    refine List.mem_filter.mpr ⟨List.contains_iff_mem.mp h5.1, mj_gd_good ?_⟩
    unfold u_lay
    split <;> rfl
  · have h5 := h4 k hk
    simp only [Bool.and_eq_true, decide_eq_true_eq] at h5
    exact h5.2
theorem mj_cvn {ad : Nat → Nat} {ty : FieldType} {v : Value} (h : narrow ty v = v) : narrow ty (mj_cv ad v) = mj_cv ad v := by
  cases v with
  | ref i => cases ty <;> rfl
  | _ => exact h
theorem mj_cvf {ad : Nat → Nat} {ty : FieldType} {v : Value} (h : fits ty v = true) : fits ty (mj_cv ad v) = true := by
  cases v with
  | ref i => cases ty <;> first | rfl | exact h
  | _ => exact h
set_option maxHeartbeats 4000000 in
set_option maxRecDepth 100000 in
theorem mj_snd : ∀ n, mj_Snd n := by
  intro n
  induction n with
  | zero => intro d j k L st hp r hp' h; cases h
  | succ n ih =>
    intro d j k L st hp r hp' h hj l G ad B0 p e R s m args below meth c H locs cells slots Q ls F hW hlr hL hc hs K
    have hmono0 := mj_mono _ _ _ _ _ _ _ _ _ h
    obtain ⟨en, hen, h⟩ := mj_exec_s h
    obtain ⟨ins, nx, a, b, w⟩ := en
    obtain ⟨hckw, hD, len, hdec⟩ := mj_ck hj hen
    have F0' := F
    obtain ⟨hx, hb, hml, hown, hT, hK, hnm, hfr, hlo⟩ := F
    have fin : ∀ (k1 : Nat) (L1 : mj_L) (st1 : List Value) (hp1 : List mj_C) (H1 : Heap) (locs1 : List Loc) (ls1 : Array Slot) (cells1 slots1 : Nat), mj_exec n d j k1 L1 st1 hp1 = some (r, hp') → mj_W G ad B0 s hp1 H1 → mj_lr ad ls1 (mj_mx j).1 L1 → (∀ q ∈ locs1, B0 ≤ q.base) → cells1 + (hp'.length - hp1.length) = cells + (hp'.length - hp.length) → slots1 + (mj_sz hp' - mj_sz hp1) = slots + (mj_sz hp' - mj_sz hp) → W p l e R s m args below meth c H1 locs1 cells1 slots1 Q (F0 m k1 ls1 (st1.map (mj_cv ad))) := by
      intro k1 L1 st1 hp1 H1 locs1 ls1 cells1 slots1 g1 g2 g3 g4 g5 g6
      refine ih d j k1 L1 st1 hp1 r hp' g1 hj l G ad B0 p e R s m args below meth c H1 locs1 cells1 slots1 Q ls1 F0' g2 g3 g4 (by rw [g5]; exact hc) (by rw [g6]; exact hs) ?_
      intro H' locs' ls' k' ins' a1 a2 a3 a4
      rw [g5, g6]
      exact K H' locs' ls' k' ins' a1 a2 a3 a4
    have go : ∀ (k1 : Nat) (L1 : mj_L) (st1 : List Value) (ls1 : Array Slot), mj_exec n d j k1 L1 st1 hp = some (r, hp') → mj_lr ad ls1 (mj_mx j).1 L1 → W p l e R s m args below meth c H locs cells slots Q (F0 m k1 ls1 (st1.map (mj_cv ad))) := fun k1 L1 st1 ls1 g1 g3 => fin k1 L1 st1 hp H locs ls1 cells slots g1 hW g3 hL rfl rfl
    have hLn := hlr.2.2.1
    have stw : ∀ (q pl : Nat) (v : Value) (st1 : List Value) (k1 : Nat), mj_exec n d j k1 L st1 (mj_wr hp q pl v) = some (r, hp') → ∀ (H1 : Heap) (locs1 : List Loc), mj_W G ad B0 s (mj_wr hp q pl v) H1 → (∀ q ∈ locs1, B0 ≤ q.base) → W p l e R s m args below meth c H1 locs1 cells slots Q (F0 m k1 ls (st1.map (mj_cv ad))) := fun q pl v st1 k1 g1 H1 locs1 g2 g3 => fin k1 L st1 _ H1 locs1 ls cells slots g1 g2 hlr g3 (by rw [mj_wr_len]) (by rw [mj_wr_sz])
    have alo : ∀ (x : mj_C) (st1 : List Value) (k1 : Nat), mj_exec n d j k1 L (.ref hp.length :: st1) (hp ++ [x]) = some (r, hp') → (cells + 1 ≤ R.cells ∧ slots + x.2.length ≤ R.slots) ∧ ∀ H1 : Heap, mj_W G ad B0 s (hp ++ [x]) H1 → W p l e R s m args below meth c H1 locs (cells + 1) (slots + x.2.length) Q (F0 m k1 ls (.ref (ad hp.length) :: st1.map (mj_cv ad))) := by
      intro x st1 k1 g1
      have hm := mj_mono _ _ _ _ _ _ _ _ _ g1
      rw [mj_push_sz, List.length_append] at hm
      simp only [List.length_cons, List.length_nil] at hm
      refine ⟨⟨by omega, by omega⟩, fun H1 g2 => ?_⟩
      exact fin k1 L (.ref hp.length :: st1) _ H1 locs ls (cells + 1) (slots + x.2.length) g1 g2 hlr hL (by rw [List.length_append]; simp only [List.length_cons, List.length_nil]; omega) (by rw [mj_push_sz]; omega)
    have cal : ∀ (j' : Nat) (as st1 : List Value) (k1 : Nat), mj_call (mj_exec n) d j k1 L hp j' as st1 = some (r, hp') → j' < mj_M → 0 < j' → ∃ d' v hp1, d = d' + 1 ∧ mj_MetP l G ad B0 d' j' as hp v hp1 ∧ cells + (hp1.length - hp.length) ≤ R.cells ∧ slots + (mj_sz hp1 - mj_sz hp) ≤ R.slots ∧ ∀ (H1 : Heap) (locs1 : List Loc), mj_W G ad B0 s hp1 H1 → (∀ q ∈ locs1, B0 ≤ q.base) → W p l e R s m args below meth c H1 locs1 (cells + (hp1.length - hp.length)) (slots + (mj_sz hp1 - mj_sz hp)) Q (F0 m k1 ls ((v.map (mj_cv ad)).toList ++ st1.map (mj_cv ad))) := by
      intro j' as st1 k1 g1 g2 g3
      obtain ⟨d', v, hp1, hd, e1, e2, e3⟩ := mj_v_call g1
      have m1 := mj_mono _ _ _ _ _ _ _ _ _ e2
      have m2 := mj_mono _ _ _ _ _ _ _ _ _ e3
      refine ⟨d', v, hp1, hd, mj_met ih e2 e1 g2 g3, by omega, by omega, fun H1 locs1 q1 q2 => ?_⟩
      rw [← hd] at e3
      have := fin k1 L (v.toList ++ st1) hp1 H1 locs1 ls (cells + (hp1.length - hp.length)) (slots + (mj_sz hp1 - mj_sz hp)) e3 q1 hlr q2 (by omega) (by omega)
      rw [List.map_append] at this
      have ev : v.toList.map (mj_cv ad) = (v.map (mj_cv ad)).toList := by cases v <;> rfl
      rw [ev] at this
      exact this
    cases ins
    case iconst z =>
      obtain ⟨rfl, hdg⟩ := hD rfl
      exact lv_iconst hx hb hdg rfl (go _ _ (_ :: st) ls h hlr)
    case bipush z =>
      obtain ⟨rfl, hdg⟩ := hD rfl
      exact lv_bipush hx hb hdg rfl (go _ _ (_ :: st) ls h hlr)
    case sipush z =>
      obtain ⟨rfl, hdg⟩ := hD rfl
      exact lv_sipush hx hb hdg rfl (go _ _ (_ :: st) ls h hlr)
    case lconst z =>
      obtain ⟨rfl, hdg⟩ := hD rfl
      exact lv_lconst hx hb hdg rfl (go _ _ (_ :: st) ls h hlr)
    case ldc z =>
      obtain ⟨rfl, hdg⟩ := hD rfl
      have hw : decide (lw_tbl[w]? = some (Jvm.Cond.constant (mj_nm (mj_mx j).2.1) z (Int32.ofNat a))) = true := hckw
      exact lv_ldc hx hb hown (hT _ (mj_in (of_decide_eq_true hw) (mj_gd_good rfl)) args) hdg (go _ _ (_ :: st) ls h hlr)
    case ldc_w z =>
      obtain ⟨rfl, hdg⟩ := hD rfl
      have hw : decide (lw_tbl[w]? = some (Jvm.Cond.constant (mj_nm (mj_mx j).2.1) z (Int32.ofNat a))) = true := hckw
      exact lv_ldcw hx hb hown (hT _ (mj_in (of_decide_eq_true hw) (mj_gd_good rfl)) args) hdg (go _ _ (_ :: st) ls h hlr)
    case ldc2_w z =>
      obtain ⟨rfl, hdg⟩ := hD rfl
      have hw : decide (lw_tbl[w]? = some (Jvm.Cond.constantLong (mj_nm (mj_mx j).2.1) z (Int64.ofNat a))) = true := hckw
      exact lv_ldc2 hx hb hown (hT _ (mj_in (of_decide_eq_true hw) (mj_gd_good rfl)) args) hdg (go _ _ (_ :: st) ls h hlr)
    case iload z =>
      obtain ⟨rfl, hdg⟩ := hD rfl
      obtain ⟨x, h1, h⟩ := mj_v_ild h
      exact lv_iload hx hb hdg (hlr.2.2.2 _ _ h1) (go _ _ (_ :: st) ls h hlr)
    case iload_n z =>
      obtain ⟨rfl, hdg⟩ := hD rfl
      obtain ⟨x, h1, h⟩ := mj_v_ild h
      exact lv_iload_n hx hb hdg rfl (hlr.2.2.2 _ _ h1) (go _ _ (_ :: st) ls h hlr)
    case lload z =>
      obtain ⟨rfl, hdg⟩ := hD rfl
      obtain ⟨x, h1, h⟩ := mj_v_lld h
      exact lv_lload hx hb hdg (hlr.2.2.2 _ _ h1) (go _ _ (_ :: st) ls h hlr)
    case lload_n z =>
      obtain ⟨rfl, hdg⟩ := hD rfl
      obtain ⟨x, h1, h⟩ := mj_v_lld h
      exact lv_lload_n hx hb hdg rfl (hlr.2.2.2 _ _ h1) (go _ _ (_ :: st) ls h hlr)
    case aload z =>
      obtain ⟨rfl, hdg⟩ := hD rfl
      obtain ⟨x, h1, h⟩ := mj_v_ald h
      exact lv_aload hx hb hdg (hlr.2.2.2 _ _ h1) (go _ _ (_ :: st) ls h hlr)
    case aload_n z =>
      obtain ⟨rfl, hdg⟩ := hD rfl
      obtain ⟨x, h1, h⟩ := mj_v_ald h
      exact lv_aload_n hx hb hdg rfl (hlr.2.2.2 _ _ h1) (go _ _ (_ :: st) ls h hlr)
    case istore z =>
      obtain ⟨rfl, hdg⟩ := hD rfl
      obtain ⟨x, r', rfl, h1, h⟩ := mj_v_ist h
      exact lv_istore hx hb hdg hlr.has (by omega) rfl (fun ls' hl' => go _ _ r' ls' h (hlr.st1 (v := .int x) (by omega) hl'))
    case istore_n z =>
      obtain ⟨rfl, hdg⟩ := hD rfl
      obtain ⟨x, r', rfl, h1, h⟩ := mj_v_ist h
      exact lv_istore_n hx hb hdg rfl hlr.has (by omega) rfl (fun ls' hl' => go _ _ r' ls' h (hlr.st1 (v := .int x) (by omega) hl'))
    case lstore z =>
      obtain ⟨rfl, hdg⟩ := hD rfl
      obtain ⟨x, r', rfl, h1, h⟩ := mj_v_lst h
      exact lv_lstore hx hb hdg hlr.has (by omega) rfl (fun ls' hl' => go _ _ r' ls' h (hlr.st2 (v := .long x) (by omega) hl'))
    case lstore_n z =>
      obtain ⟨rfl, hdg⟩ := hD rfl
      obtain ⟨x, r', rfl, h1, h⟩ := mj_v_lst h
      exact lv_lstore_n hx hb hdg rfl hlr.has (by omega) rfl (fun ls' hl' => go _ _ r' ls' h (hlr.st2 (v := .long x) (by omega) hl'))
    case astore z =>
      obtain ⟨rfl, hdg⟩ := hD rfl
      obtain ⟨x, r', rfl, h1, h⟩ := mj_v_ast h
      exact lv_astore hx hb hdg hlr.has (by omega) rfl (fun ls' hl' => go _ _ r' ls' h (hlr.st1 (v := .ref x) (by omega) hl'))
    case astore_n z =>
      obtain ⟨rfl, hdg⟩ := hD rfl
      obtain ⟨x, r', rfl, h1, h⟩ := mj_v_ast h
      exact lv_astore_n hx hb hdg rfl hlr.has (by omega) rfl (fun ls' hl' => go _ _ r' ls' h (hlr.st1 (v := .ref x) (by omega) hl'))
    case iinc z q =>
      obtain ⟨rfl, hdg⟩ := hD rfl
      have h : mj_cont (mj_exec n) d j (k + 3) L hp (match L[z]? with
        | some (some (.int x)) => mj_go (k + 3) (mj_s1 L z (.int (x + Int32.ofInt q))) st
        | _ => none) = some (r, hp') := h
      split at h
      · rename_i x hx1
        obtain ⟨i, hi⟩ := List.getElem?_of_mem (mj_al_mem (ad := ad) hx1)
        have hz : z < (mj_mx j).1 := by have := (List.getElem?_eq_some_iff.mp hx1).1; omega
        exact lv_iinc hx hb hdg hlr.has hi rfl hz rfl (fun ls' hl' => go _ _ st ls' h (hlr.st1 (v := .int (x + Int32.ofInt q)) hz hl'))
      · cases h
    case iadd => 
      obtain ⟨rfl, hdg⟩ := hD rfl
      obtain ⟨x, y, r', rfl, h⟩ := mj_v_i2 h
      exact lv_iadd hx hb hdg (go _ _ (_ :: r') ls h hlr)
    case isub =>
      obtain ⟨rfl, hdg⟩ := hD rfl
      obtain ⟨x, y, r', rfl, h⟩ := mj_v_i2 h
      exact lv_isub hx hb hdg (go _ _ (_ :: r') ls h hlr)
    case imul =>
      obtain ⟨rfl, hdg⟩ := hD rfl
      obtain ⟨x, y, r', rfl, h⟩ := mj_v_i2 h
      exact lv_imul hx hb hdg (go _ _ (_ :: r') ls h hlr)
    case iand =>
      obtain ⟨rfl, hdg⟩ := hD rfl
      obtain ⟨x, y, r', rfl, h⟩ := mj_v_i2 h
      exact lv_iand hx hb hdg (go _ _ (_ :: r') ls h hlr)
    case ior =>
      obtain ⟨rfl, hdg⟩ := hD rfl
      obtain ⟨x, y, r', rfl, h⟩ := mj_v_i2 h
      exact lv_ior hx hb hdg (go _ _ (_ :: r') ls h hlr)
    case ixor =>
      obtain ⟨rfl, hdg⟩ := hD rfl
      obtain ⟨x, y, r', rfl, h⟩ := mj_v_i2 h
      exact lv_ixor hx hb hdg (go _ _ (_ :: r') ls h hlr)
    case ishl =>
      obtain ⟨rfl, hdg⟩ := hD rfl
      obtain ⟨x, y, r', rfl, h⟩ := mj_v_i2 h
      exact lv_ishl hx hb hdg (go _ _ (_ :: r') ls h hlr)
    case ishr =>
      obtain ⟨rfl, hdg⟩ := hD rfl
      obtain ⟨x, y, r', rfl, h⟩ := mj_v_i2 h
      exact lv_ishr hx hb hdg (go _ _ (_ :: r') ls h hlr)
    case iushr =>
      obtain ⟨rfl, hdg⟩ := hD rfl
      obtain ⟨x, y, r', rfl, h⟩ := mj_v_i2 h
      exact lv_iushr hx hb hdg rfl (go _ _ (_ :: r') ls h hlr)
    case idiv =>
      obtain ⟨rfl, hdg⟩ := hD rfl
      obtain ⟨x, y, r', rfl, h1, h⟩ := mj_v_id h
      exact lv_idiv hx hb hdg h1 (go _ _ (_ :: r') ls h hlr)
    case irem =>
      obtain ⟨rfl, hdg⟩ := hD rfl
      obtain ⟨x, y, r', rfl, h1, h⟩ := mj_v_id h
      exact lv_irem hx hb hdg h1 (go _ _ (_ :: r') ls h hlr)
    case ladd =>
      obtain ⟨rfl, hdg⟩ := hD rfl
      obtain ⟨x, y, r', rfl, h⟩ := mj_v_l2 h
      exact lv_ladd hx hb hdg (go _ _ (_ :: r') ls h hlr)
    case lsub =>
      obtain ⟨rfl, hdg⟩ := hD rfl
      obtain ⟨x, y, r', rfl, h⟩ := mj_v_l2 h
      exact lv_lsub hx hb hdg (go _ _ (_ :: r') ls h hlr)
    case lmul =>
      obtain ⟨rfl, hdg⟩ := hD rfl
      obtain ⟨x, y, r', rfl, h⟩ := mj_v_l2 h
      exact lv_lmul hx hb hdg (go _ _ (_ :: r') ls h hlr)
    case land =>
      obtain ⟨rfl, hdg⟩ := hD rfl
      obtain ⟨x, y, r', rfl, h⟩ := mj_v_l2 h
      exact lv_land hx hb hdg (go _ _ (_ :: r') ls h hlr)
    case lor =>
      obtain ⟨rfl, hdg⟩ := hD rfl
      obtain ⟨x, y, r', rfl, h⟩ := mj_v_l2 h
      exact lv_lor hx hb hdg (go _ _ (_ :: r') ls h hlr)
    case ldiv =>
      obtain ⟨rfl, hdg⟩ := hD rfl
      obtain ⟨x, y, r', rfl, h1, h⟩ := mj_v_ld h
      exact lv_ldiv hx hb hdg h1 (go _ _ (_ :: r') ls h hlr)
    case lrem =>
      obtain ⟨rfl, hdg⟩ := hD rfl
      obtain ⟨x, y, r', rfl, h1, h⟩ := mj_v_ld h
      exact lv_lrem hx hb hdg h1 (go _ _ (_ :: r') ls h hlr)
    case lshl =>
      obtain ⟨rfl, hdg⟩ := hD rfl
      obtain ⟨x, y, r', rfl, h⟩ := mj_v_ls h
      exact lv_lshl hx hb hdg rfl (go _ _ (_ :: r') ls h hlr)
    case lshr =>
      obtain ⟨rfl, hdg⟩ := hD rfl
      obtain ⟨x, y, r', rfl, h⟩ := mj_v_ls h
      exact lv_lshr hx hb hdg rfl (go _ _ (_ :: r') ls h hlr)
    case lushr =>
      obtain ⟨rfl, hdg⟩ := hD rfl
      obtain ⟨x, y, r', rfl, h⟩ := mj_v_ls h
      exact lv_lushr hx hb hdg rfl (go _ _ (_ :: r') ls h hlr)
    case lcmp =>
      obtain ⟨rfl, hdg⟩ := hD rfl
      have h : mj_cont (mj_exec n) d j (k + 1) L hp (mj_fcmp (k + 1) L st) = some (r, hp') := h
      unfold mj_fcmp at h
      split at h
      · exact W.lcmp hx hb hdg (go _ _ (_ :: _) ls h hlr)
      · cases h
    case i2l =>
      obtain ⟨rfl, hdg⟩ := hD rfl
      obtain ⟨x, r', rfl, h⟩ := mj_v_i1 h
      exact lv_i2l hx hb hdg rfl (go _ _ (_ :: r') ls h hlr)
    case i2b =>
      obtain ⟨rfl, hdg⟩ := hD rfl
      obtain ⟨x, r', rfl, h⟩ := mj_v_i1 h
      exact lv_i2b hx hb hdg rfl (go _ _ (_ :: r') ls h hlr)
    case i2s =>
      obtain ⟨rfl, hdg⟩ := hD rfl
      obtain ⟨x, r', rfl, h⟩ := mj_v_i1 h
      exact lv_i2s hx hb hdg rfl (go _ _ (_ :: r') ls h hlr)
    case l2i =>
      obtain ⟨rfl, hdg⟩ := hD rfl
      have h : mj_cont (mj_exec n) d j (k + 1) L hp (mj_fl2i (k + 1) L st) = some (r, hp') := h
      unfold mj_fl2i at h
      split at h
      · exact lv_l2i hx hb hdg rfl (go _ _ (_ :: _) ls h hlr)
      · cases h
    case dup =>
      obtain ⟨rfl, hdg⟩ := hD rfl
      have h : mj_cont (mj_exec n) d j (k + 1) L hp (mj_fdup (k + 1) L st) = some (r, hp') := h
      unfold mj_fdup at h
      split at h
      · obtain ⟨h1, h⟩ := mj_bifc h
        have h1 := Nat.eq_of_beq_eq_true h1
        exact lv_dup hx hb hdg (by rw [mj_cv_cat]; exact h1) (go _ _ (_ :: _ :: _) ls h hlr)
      · cases h
    case pop =>
      obtain ⟨rfl, hdg⟩ := hD rfl
      have h : mj_cont (mj_exec n) d j (k + 1) L hp (mj_fpop (k + 1) L st) = some (r, hp') := h
      unfold mj_fpop at h
      split at h
      · obtain ⟨h1, h⟩ := mj_bifc h
        have h1 := Nat.eq_of_beq_eq_true h1
        exact lv_pop hx hb hdg (by rw [mj_cv_cat]; exact h1) (go _ _ _ ls h hlr)
      · cases h
    case pop2 =>
      obtain ⟨rfl, hdg⟩ := hD rfl
      have h : mj_cont (mj_exec n) d j (k + 1) L hp (mj_fpop2 (k + 1) L st) = some (r, hp') := h
      unfold mj_fpop2 at h
      split at h
      · obtain ⟨h1, h⟩ := mj_bifc h
        have h1 := Nat.eq_of_beq_eq_true h1
        exact lv_pop2_2 hx hb hdg (by rw [mj_cv_cat]; exact h1) (go _ _ _ ls h hlr)
      · cases h
    case dup_x1 =>
      obtain ⟨rfl, hdg⟩ := hD rfl
      have h : mj_cont (mj_exec n) d j (k + 1) L hp (mj_fdx1 (k + 1) L st) = some (r, hp') := h
      unfold mj_fdx1 at h
      split at h
      · obtain ⟨h1, h⟩ := mj_bifc h
        simp only [Bool.and_eq_true] at h1
        exact lv_dup_x1 hx hb hdg (by rw [mj_cv_cat]; exact Nat.eq_of_beq_eq_true h1.1) (by rw [mj_cv_cat]; exact Nat.eq_of_beq_eq_true h1.2) (go _ _ (_ :: _ :: _ :: _) ls h hlr)
      · cases h
    case dup2 =>
      obtain ⟨rfl, hdg⟩ := hD rfl
      have h : mj_cont (mj_exec n) d j (k + 1) L hp (mj_fd2 (k + 1) L st) = some (r, hp') := h
      unfold mj_fd2 at h
      split at h
      · obtain ⟨h1, h⟩ := mj_bifc h
        simp only [Bool.and_eq_true] at h1
        exact lv_dup2_11 hx hb hdg (by rw [mj_cv_cat]; exact Nat.eq_of_beq_eq_true h1.1) (by rw [mj_cv_cat]; exact Nat.eq_of_beq_eq_true h1.2) (go _ _ (_ :: _ :: _ :: _ :: _) ls h hlr)
      · cases h
    case ifCond q off =>
      obtain ⟨rfl, hdg⟩ := hD rfl
      have ht : (k : Int) + off = (a : Int) := of_decide_eq_true hckw
      obtain ⟨x, r', rfl, h7⟩ := mj_v_if0 h
      have hy : mj_c0 q x = true → mj_exec n d j a L r' hp = some (r, hp') := fun z => by rw [z] at h7; exact h7
      have hn : mj_c0 q x = false → mj_exec n d j (k + 3) L r' hp = some (r, hp') := fun z => by rw [z] at h7; exact h7
      cases q
      · exact lv_if_eq hx hb hdg ht (fun z => go _ _ r' ls (hy (decide_eq_true z)) hlr) (fun z => go _ _ r' ls (hn (decide_eq_false z)) hlr)
      · exact lv_if_ne hx hb hdg ht (fun z => go _ _ r' ls (hy (decide_eq_true z)) hlr) (fun z => go _ _ r' ls (hn (decide_eq_false (fun w => w z))) hlr)
      · exact lv_if_lt hx hb hdg ht (fun z => go _ _ r' ls (hy (decide_eq_true z)) hlr) (fun z => go _ _ r' ls (hn (decide_eq_false z)) hlr)
      · exact lv_if_ge hx hb hdg ht (fun z => go _ _ r' ls (hy (decide_eq_true z)) hlr) (fun z => go _ _ r' ls (hn (decide_eq_false z)) hlr)
      · exact lv_if_gt hx hb hdg ht (fun z => go _ _ r' ls (hy (decide_eq_true z)) hlr) (fun z => go _ _ r' ls (hn (decide_eq_false z)) hlr)
      · exact lv_if_le hx hb hdg ht (fun z => go _ _ r' ls (hy (decide_eq_true z)) hlr) (fun z => go _ _ r' ls (hn (decide_eq_false z)) hlr)
    case if_icmp q off =>
      obtain ⟨rfl, hdg⟩ := hD rfl
      have ht : (k : Int) + off = (a : Int) := of_decide_eq_true hckw
      obtain ⟨x, y, r', rfl, h7⟩ := mj_v_if2 h
      have hy : mj_c2 q x y = true → mj_exec n d j a L r' hp = some (r, hp') := fun z => by rw [z] at h7; exact h7
      have hn : mj_c2 q x y = false → mj_exec n d j (k + 3) L r' hp = some (r, hp') := fun z => by rw [z] at h7; exact h7
      cases q
      · exact lv_icmp_eq hx hb hdg ht (fun z => go _ _ r' ls (hy (decide_eq_true z)) hlr) (fun z => go _ _ r' ls (hn (decide_eq_false z)) hlr)
      · exact lv_icmp_ne hx hb hdg ht (fun z => go _ _ r' ls (hy (decide_eq_true z)) hlr) (fun z => go _ _ r' ls (hn (decide_eq_false (fun w => w z))) hlr)
      · exact lv_icmp_lt hx hb hdg ht (fun z => go _ _ r' ls (hy (decide_eq_true z)) hlr) (fun z => go _ _ r' ls (hn (decide_eq_false z)) hlr)
      · exact lv_icmp_ge hx hb hdg ht (fun z => go _ _ r' ls (hy (decide_eq_true z)) hlr) (fun z => go _ _ r' ls (hn (decide_eq_false z)) hlr)
      · exact lv_icmp_gt hx hb hdg ht (fun z => go _ _ r' ls (hy (decide_eq_true z)) hlr) (fun z => go _ _ r' ls (hn (decide_eq_false z)) hlr)
      · exact lv_icmp_le hx hb hdg ht (fun z => go _ _ r' ls (hy (decide_eq_true z)) hlr) (fun z => go _ _ r' ls (hn (decide_eq_false z)) hlr)
    case goto off =>
      obtain ⟨rfl, hdg⟩ := hD rfl
      exact lv_goto hx hb hdg (of_decide_eq_true hckw) (go _ _ st ls h hlr)
    case tableswitch df lo hi offs =>
      obtain ⟨x, r', rfl, h7⟩ := mj_v_isw (nx := nx) h
      rcases h7 with ⟨ho, h0, h⟩ | ⟨ho, o, hof, h0, h⟩
      · exact lv_tableOut hx hb hdec ho (by omega) (go _ _ r' ls h hlr)
      · exact lv_tableIn hx hb hdec (fun q => ho (Or.inl q)) (fun q => ho (Or.inr q)) hof (by omega) (go _ _ r' ls h hlr)
    case getfield z =>
      obtain ⟨rfl, hdg⟩ := hD rfl
      obtain ⟨q, r', vs, v, rfl, h1, h2, h⟩ := mj_v_getf h
      have hw : (decide (a < 13) && decide (b < mj_N a) && decide (lw_tbl[w]? = some (Jvm.Cond.fieldLink (mj_nm (mj_mx j).2.1) z (mj_nm a) (mj_T a b).2.1 (mj_T a b).2.2.1)) && decide ((mj_T a b).1 = mj_nm a)) = true := hckw
      simp only [Bool.and_eq_true, decide_eq_true_eq] at hw
      obtain ⟨⟨⟨g1, g2⟩, g3⟩, g4⟩ := hw
      exact mj_r_getf hx hb hT hK hW hown h1 g1 g2 (mj_cw g1).2.2.1 (mj_in g3 (mj_gd_good rfl)) g4 h2 hdg (go _ _ (_ :: r') ls h hlr)
    case putfield z =>
      obtain ⟨rfl, hdg⟩ := hD rfl
      obtain ⟨v, q, r', vs, v0, rfl, h1, h2, h3, h4, h⟩ := mj_v_putf h
      have hw : (decide (a < 13) && decide (b < mj_N a) && decide (lw_tbl[w]? = some (Jvm.Cond.fieldLink (mj_nm (mj_mx j).2.1) z (mj_nm a) (mj_T a b).2.1 (mj_T a b).2.2.1)) && decide ((mj_T a b).1 = mj_nm a) && ((mj_T a b).2.2.2 == false || (decide (a = (mj_mx j).2.1) && decide ((mj_y j).name = "<init>")))) = true := hckw
      simp only [Bool.and_eq_true, Bool.or_eq_true, decide_eq_true_eq, beq_iff_eq] at hw
      obtain ⟨⟨⟨⟨g1, g2⟩, g3⟩, g4⟩, g5⟩ := hw
      obtain ⟨-, -, c3, c4⟩ := mj_cw g1
      exact mj_r_putf hx hb hT hK hW hL hown h1 g1 g2 c3 c4 (mj_w_nm a g1) (mj_in g3 (mj_gd_good rfl)) g4 h2 (g5.imp id (fun q => ⟨by rw [q.1], hnm q.2⟩)) (mj_cvn h3) (mj_cvf h4) hdg (stw _ _ _ r' _ h)
    case getstatic z =>
      obtain ⟨rfl, hdg⟩ := hD rfl
      have hw : (decide (a < 2) && decide (lw_tbl[w]? = some (Jvm.Cond.fieldLink (mj_nm (mj_mx j).2.1) z "ActBench" (bif Nat.beq a 0 then "PARTINGS_OF_TWO" else "PARTINGS_OF_THREE") "[I"))) = true := hckw
      simp only [Bool.and_eq_true, decide_eq_true_eq] at hw
      exact mj_r_gets hx hb hT hW hw.1 hown (mj_in hw.2 (mj_gd_good rfl)) hdg (go _ _ (.ref a :: st) ls h hlr)
    case iaload =>
      obtain ⟨rfl, hdg⟩ := hD rfl
      obtain ⟨i, q, r', y, vs, x, rfl, h1, h2, h3, h4, h⟩ := mj_v_iald h
      exact mj_r_iald hx hb hK hW h1 h3 h2 h4 hdg (go _ _ (_ :: r') ls h hlr)
    case laload =>
      obtain ⟨rfl, hdg⟩ := hD rfl
      obtain ⟨i, q, r', vs, x, rfl, h1, h2, h4, h⟩ := mj_v_lald h
      exact mj_r_lald hx hb hK hW h1 h2 h4 hdg (go _ _ (_ :: r') ls h hlr)
    case aaload =>
      obtain ⟨rfl, hdg⟩ := hD rfl
      obtain ⟨i, q, r', y, vs, x, rfl, h1, h2, h3, h4, h⟩ := mj_v_aald h
      exact mj_r_aald hx hb hK hW h1 h3 h2 h4 hdg (go _ _ (.ref x :: r') ls h hlr)
    case iastore =>
      obtain ⟨rfl, hdg⟩ := hD rfl
      obtain ⟨x, i, q, r', vs, v0, rfl, h1, h2, h3, h⟩ := mj_v_iast h
      exact mj_r_iast hx hb hK hW hL h1 h2 h3 hdg (stw _ _ _ r' _ h)
    case lastore =>
      obtain ⟨rfl, hdg⟩ := hD rfl
      obtain ⟨x, i, q, r', vs, v0, rfl, h1, h2, h3, h⟩ := mj_v_last h
      exact mj_r_last hx hb hK hW hL h1 h2 h3 hdg (stw _ _ _ r' _ h)
    case aastore =>
      obtain ⟨rfl, hdg⟩ := hD rfl
      obtain ⟨x, i, q, r', y, vs, v0, cx, xs, rfl, h1, h2, h3, h4, h5, h6, h⟩ := mj_v_aast h
      exact mj_r_aast hx hb hK hW hL h1 h3 h2 h4 h5 h6 hdg (stw _ _ _ r' _ h)
    case arraylength =>
      obtain ⟨rfl, hdg⟩ := hD rfl
      obtain ⟨q, r', y, vs, rfl, h1, h2, h⟩ := mj_v_alen h
      exact mj_r_alen hx hb hK hW h1 h2 hdg (go _ _ (_ :: r') ls h hlr)
    case new z =>
      obtain ⟨rfl, hdg⟩ := hD rfl
      have hw : (decide (a < 13) && decide (lw_tbl[w]? = some (Jvm.Cond.classLink (mj_nm (mj_mx j).2.1) z (mj_nm a)))) = true := hckw
      simp only [Bool.and_eq_true, decide_eq_true_eq] at hw
      obtain ⟨c1, c2, c3, c4⟩ := mj_cw hw.1
      have hlen : (mj_blank a).2.length = mj_N a := by simp [mj_blank]
      obtain ⟨⟨e1, e2⟩, e3⟩ := alo (mj_blank a) st _ h
      rw [hlen] at e2 e3
      exact mj_r_new hx hb hT hK hW hw.1 hown c3 c4 (mj_in hw.2 (mj_gd_good rfl)) c1 c2 e1 e2 hdg e3
    case newarray t =>
      obtain ⟨rfl, hdg⟩ := hD rfl
      obtain ⟨z, r', rfl, h1, h2, h⟩ := mj_v_newa h
      rcases h with ⟨rfl, h⟩ | ⟨rfl, h⟩
      · obtain ⟨⟨e1, e2⟩, e3⟩ := alo _ r' _ h
        rw [show ((13, List.replicate z.toNatClampNeg (Value.int 0)) : mj_C).2.length = z.toNatClampNeg from List.length_replicate] at e2 e3
        exact mj_r_newaI hx hb hT hK hW h1 h2 e1 e2 (List.mem_filter.mpr ⟨mj_w_ai, rfl⟩) hdg e3
      · obtain ⟨⟨e1, e2⟩, e3⟩ := alo _ r' _ h
        rw [show ((14, List.replicate z.toNatClampNeg (Value.long 0)) : mj_C).2.length = z.toNatClampNeg from List.length_replicate] at e2 e3
        exact mj_r_newaL hx hb hT hK hW h1 h2 e1 e2 (List.mem_filter.mpr ⟨mj_w_al, rfl⟩) hdg e3
    case anewarray z =>
      obtain ⟨rfl, hdg⟩ := hD rfl
      obtain ⟨y, r', rfl, h1, h2, h⟩ := mj_v_anew h
      have hw : (((Nat.beq a 0 && Nat.beq b 15) || (Nat.beq a 4 && Nat.beq b 16) || (Nat.beq a 6 && Nat.beq b 17)) && decide (lw_tbl[w]? = some (Jvm.Cond.classLink (mj_nm (mj_mx j).2.1) z (mj_nm a)))) = true := hckw
      simp only [Bool.and_eq_true, Bool.or_eq_true, decide_eq_true_eq] at hw
      obtain ⟨⟨e1, e2⟩, e3⟩ := alo _ r' _ h
      rw [show ((b, List.replicate y.toNatClampNeg Value.null) : mj_C).2.length = y.toNatClampNeg from List.length_replicate] at e2 e3
      obtain ⟨hw1, hw2⟩ := hw
      have key : mj_isR b = true ∧ mj_el b = a ∧ Jvm.Cond.arrayOver (.object (mj_nm (mj_el b))) ∈ lw_gd := by
        rcases hw1 with (⟨q1, q2⟩ | ⟨q1, q2⟩) | ⟨q1, q2⟩ <;> (have q1 := Nat.eq_of_beq_eq_true q1; have q2 := Nat.eq_of_beq_eq_true q2; subst q1; subst q2)
        · exact ⟨rfl, rfl, List.mem_filter.mpr ⟨mj_w_o0, rfl⟩⟩
        · exact ⟨rfl, rfl, List.mem_filter.mpr ⟨mj_w_o4, rfl⟩⟩
        · exact ⟨rfl, rfl, List.mem_filter.mpr ⟨mj_w_o6, rfl⟩⟩
      obtain ⟨k1, k2, k3⟩ := key
      exact mj_r_anew hx hb hT hK hW k1 hown (by rw [k2]; exact mj_in hw2 (mj_gd_good rfl)) k3 h1 h2 e1 e2 hdg e3
    case invokevirtual z =>
      obtain ⟨rfl, hdg⟩ := hD rfl
      obtain ⟨as, q, r', y, vs, rfl, h1, h2, h3, h4, h5, h⟩ := mj_v_V h
      have hw : (decide (a < mj_M) && decide (0 < a) && Nat.beq b 0 && decide (lw_tbl[w]? = some (Jvm.Cond.methodLink (mj_nm (mj_mx j).2.1) z (mj_y a))) && decide (lw_tbl[(mj_hi a).2.1]? = some (Jvm.Cond.instanceMethod (mj_y a))) && decide (lw_tbl[(mj_hi a).2.2.1]? = some (Jvm.Cond.selects (mj_y a).cls (mj_y a) (mj_y a)))) = true := hckw
      simp only [Bool.and_eq_true, decide_eq_true_eq] at hw
      obtain ⟨⟨⟨⟨⟨g1, g2⟩, -⟩, g3⟩, g4⟩, g5⟩ := hw
      obtain ⟨d', v, hp1, rfl, e1, e2, e3, e4⟩ := cal _ _ _ _ h g1 g2
      exact mj_r_V F0' g1 g2 e1 hW hL h2 h3 h4 h1 h5 hlr.1 (mj_in g3 (mj_gd_good rfl)) (mj_in g4 (mj_gd_good rfl)) (mj_in g5 (mj_gd_good rfl)) hdg e2 e3 e4
    case invokestatic z =>
      obtain ⟨rfl, hdg⟩ := hD rfl
      obtain ⟨as, r', rfl, h1, h5, h⟩ := mj_v_S h
      have hw : (decide (a < mj_M) && decide (0 < a) && Nat.beq b 1 && decide (lw_tbl[w]? = some (Jvm.Cond.methodLink (mj_nm (mj_mx j).2.1) z (mj_y a))) && decide (lw_tbl[(mj_hi a).2.1]? = some (Jvm.Cond.static (mj_y a)))) = true := hckw
      simp only [Bool.and_eq_true, decide_eq_true_eq] at hw
      obtain ⟨⟨⟨⟨g1, g2⟩, -⟩, g3⟩, g4⟩ := hw
      obtain ⟨d', v, hp1, rfl, e1, e2, e3, e4⟩ := cal _ _ _ _ h g1 g2
      exact mj_r_S F0' g1 g2 e1 hW hL h1 h5 hlr.1 (mj_in g3 (mj_gd_good rfl)) (mj_in g4 (mj_gd_good rfl)) hdg e2 e3 e4
    case invokespecial z =>
      obtain ⟨rfl, hdg⟩ := hD rfl
      have h : mj_cont (mj_exec n) d j (k + 3) L hp (bif Nat.beq b 4 then mj_fobj (k + 3) L st else mj_invI a st) = some (r, hp') := h
      have hw : (bif Nat.beq b 4 then decide (lw_tbl[w]? = some (Jvm.Cond.methodLink (mj_nm (mj_mx j).2.1) z Jvm.Lib.objectInit)) else
        (decide (a < mj_M) && decide (0 < a) && (Nat.beq b 2 || Nat.beq b 3) && decide ((mj_y a).name = "<init>") && decide (mj_rt a = none) && decide (lw_tbl[(mj_hi a).2.1]? = some (Jvm.Cond.instanceMethod (mj_y a))) && (bif Nat.beq b 2 then decide (lw_tbl[w]? = some (Jvm.Cond.methodLink (mj_nm (mj_mx j).2.1) z (mj_y a))) else decide (lw_tbl[w]? = some (Jvm.Cond.methodLinkNest (mj_nm (mj_mx j).2.1) z (mj_y a) mj_host))))) = true := hckw
      cases hb4 : Nat.beq b 4 with
      | true =>
        rw [hb4] at h hw
        have hw : lw_tbl[w]? = some (Jvm.Cond.methodLink (mj_nm (mj_mx j).2.1) z Jvm.Lib.objectInit) := of_decide_eq_true hw
        obtain ⟨q, r', rfl, h1, h⟩ := mj_v_obj h
        refine W.objInit (a := ad q) (rest := r'.map (mj_cv ad)) hx hb hown (hT _ (mj_in hw (mj_gd_good rfl)) args) (hT _ (List.mem_filter.mpr ⟨mj_w_oi, rfl⟩) args) (hT _ (List.mem_filter.mpr ⟨mj_w_oc, rfl⟩) args) rfl (by rw [hml]; exact hlr.1) rfl hdg (by omega) ?_ (go _ _ r' ls h hlr)
        show 2 * 0 + _ + 12 ≤ _
        rw [mj_catsv]
        omega
      | false =>
        rw [hb4] at h hw
        have h : mj_cont (mj_exec n) d j (k + 3) L hp (mj_invI a st) = some (r, hp') := h
        have hw : (decide (a < mj_M) && decide (0 < a) && (Nat.beq b 2 || Nat.beq b 3) && decide ((mj_y a).name = "<init>") && decide (mj_rt a = none) && decide (lw_tbl[(mj_hi a).2.1]? = some (Jvm.Cond.instanceMethod (mj_y a))) && (bif Nat.beq b 2 then decide (lw_tbl[w]? = some (Jvm.Cond.methodLink (mj_nm (mj_mx j).2.1) z (mj_y a))) else decide (lw_tbl[w]? = some (Jvm.Cond.methodLinkNest (mj_nm (mj_mx j).2.1) z (mj_y a) mj_host)))) = true := hw
        obtain ⟨as, q, r', rfl, h1, h5, h⟩ := mj_v_I h
        simp only [Bool.and_eq_true, decide_eq_true_eq] at hw
        obtain ⟨⟨⟨⟨⟨⟨g1, g2⟩, -⟩, g3⟩, g4⟩, g5⟩, g6⟩ := hw
        obtain ⟨d', v, hp1, rfl, e1, e2, e3, e4⟩ := cal _ _ _ _ h g1 g2
        cases hb2 : Nat.beq b 2 with
        | true =>
          rw [hb2] at g6
          have g6 : lw_tbl[w]? = some (Jvm.Cond.methodLink (mj_nm (mj_mx j).2.1) z (mj_y a)) := of_decide_eq_true g6
          exact mj_r_I F0' g1 g2 e1 hW hL h1 h5 hlr.1 (mj_in g6 (mj_gd_good rfl)) (mj_in g5 (mj_gd_good rfl)) g3 g4 hdg e2 e3 e4
        | false =>
          rw [hb2] at g6
          have g6 : lw_tbl[w]? = some (Jvm.Cond.methodLinkNest (mj_nm (mj_mx j).2.1) z (mj_y a) mj_host) := of_decide_eq_true g6
          exact mj_r_IN F0' g1 g2 e1 hW hL h1 h5 hlr.1 (mj_in g6 rfl) (mj_in g5 (mj_gd_good rfl)) g3 g4 hdg e2 e3 e4
    case ireturn =>
      obtain ⟨rfl, hdg⟩ := hD rfl
      obtain ⟨v, rfl, h1, h2⟩ := mj_v_ir h
      cases h1
      have := K H locs ls k _ hdg (Or.inl ⟨rfl, v, rfl, h2⟩) hW hL
      rw [Nat.sub_self, Nat.sub_self, Nat.add_zero, Nat.add_zero] at this
      exact this
    case lreturn =>
      obtain ⟨rfl, hdg⟩ := hD rfl
      obtain ⟨v, rfl, h1, h2⟩ := mj_v_lr h
      cases h1
      have := K H locs ls k _ hdg (Or.inr (Or.inl ⟨rfl, v, rfl, h2⟩)) hW hL
      rw [Nat.sub_self, Nat.sub_self, Nat.add_zero, Nat.add_zero] at this
      exact this
    case areturn =>
      obtain ⟨rfl, hdg⟩ := hD rfl
      obtain ⟨v, rfl, h1, h2⟩ := mj_v_ar h
      cases h1
      have := K H locs ls k _ hdg (Or.inr (Or.inr (Or.inl ⟨rfl, v, rfl, h2⟩))) hW hL
      rw [Nat.sub_self, Nat.sub_self, Nat.add_zero, Nat.add_zero] at this
      exact this
    case return_ =>
      obtain ⟨rfl, hdg⟩ := hD rfl
      obtain ⟨rfl, h1, h2⟩ := mj_v_vr h
      cases h1
      have := K H locs ls k _ hdg (Or.inr (Or.inr (Or.inr ⟨rfl, rfl, h2⟩))) hW hL
      rw [Nat.sub_self, Nat.sub_self, Nat.add_zero, Nat.add_zero] at this
      exact this
    all_goals exact absurd (show (none : Option (Option Value × List mj_C)) = some (r, hp') from h) (by intro q; cases q)
