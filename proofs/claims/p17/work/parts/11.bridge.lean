/-! From runs of the small machine to the claim. -/
/-! THE CLAIM OUT OF ONE WALK OF THE LAW'S BODY. Your part is whole_start (and what it stands on); all else here is the same for every law, but numbers. -/
def R_law : String := "ActBenchLaw"
def lw_P (b : Addr) (xs : List Int32) (args : Array Value) (s : State) : Prop := args = #[.ref b] ∧ s.IntsAt b xs ∧ xs.length ≤ 2560 ∧ (Jvm.Cond.and given_1 narrow_1).before args s = true
def lw_Q (_ : Array Value) (s : State) (o : Outcome) (t : State) : Prop := o = .returned (some (.int 1)) ∧ Framed s o t [] room_1.cells room_1.slots
def lw_Z (below : List Frame) (a : Array Value) (s : State) : State → Prop := fun t => ∃ o, t.status = .running ∧ Ended t below o ∧ lw_Q a s o t
/-- the law's own end, with 1 on the stack, nothing written that was there before, its room as the claim has it -/
theorem lw_ret {p : Program} {l : Launch} {e : Env} {s : State} {m : MethodId} {below : List Frame} {meth : Method} {c : Code} {b : Nat} (hx : p.tables.exec = Jvm.exec) (hb : c.code = code) (hr : meth.sig.returnType = ret) (hlocks : meth.locks = false) {pc : Nat} {H : Heap} {ls : Array Slot} (hdg : decode code pc = .ok (.ireturn, 1)) : W p l e room_1 s m #[Value.ref b] below meth c H [] room_1.cells room_1.slots (lw_Z below #[Value.ref b] s) (F0 m pc ls [.int 1]) := by
  intro T hT X
  obtain ⟨fs, hret, hrun, hended, hW, hframe⟩ := X.leave (v := some (.int 1)) (hlocks := hlocks) (fun h => by rw [hr] at h; cases h)
  have hmeth' : T.vm.method? m = some meth := X.method'
  refine ⟨T.setFrames fs, ?_, .returned (some (.int 1)), hrun, hended, rfl, ⟨_, rfl⟩, hW, hframe⟩
  jvm_step X.here [X.here.top, hx, hb, hdg, hmeth', hr, ret, narrow_b1]
  (try refine ⟨rfl, ?_⟩); (try refine ⟨rfl, ?_⟩)
  first | (intro acts; rw [hret _ acts rfl rfl rfl]) | rw [hret _ _ rfl rfl rfl]
  exact Steps.refl _
/-- what holds at the law's entry: the machine, the code, the tables' words (any of lw_tbl by 'hts w (by decide +kernel)'), the script of L ints xs at the cell b, what the Statement gives of the start (any of its parts by flat_of_before) -/
def lw_At (p : Program) (s : State) (m : MethodId) (meth : Method) (c : Code) (b L : Nat) (xs : Nat → Int32) : Prop :=
  p.tables.exec = Jvm.exec ∧ c.code = code ∧ meth.sig.returnType = ret ∧ c.maxLocals = 4 ∧ s.vm.findClass R_law = some m.cls ∧ (∀ w ∈ lw_tbl, w.before #[Value.ref b] s = true) ∧ va_X b L xs s s.heap ∧ b < s.heap.size ∧ meth.locks = false ∧ (Jvm.Cond.and given_1 narrow_1).before #[Value.ref b] s = true
def mj_p2 : List Value := [.int 0, .int 4]
def mj_p3 : List Value := [.int 0, .int 4, .int 20, .int 32, .int 36]
def mj_hp0 (xs : List Int32) : List mj_C := [(18, mj_p2), (18, mj_p3), (18, xs.map .int)]
/-- the claim, of the small machine -/
def mj_Claim (N : Nat) : Prop := ∀ xs : List Int32, xs.length ≤ N → ∃ (n : Nat) (hp' : List mj_C), mj_exec n 60 0 0 (mj_ent 4 [.ref 2]) [] (mj_hp0 xs) = some (some (.int 1), hp') ∧ hp'.length ≤ 300000 ∧ mj_sz hp' ≤ 3000000
theorem mj_Tb.of {s : State} {A0 : Array Value} (h : ∀ w ∈ lw_tbl, w.before A0 s = true) : mj_Tb s := by
  intro w hw A
  obtain ⟨hm, hg⟩ := List.mem_filter.mp hw
  simp only [mj_gd, Bool.or_eq_true] at hg
  rcases hg with (hg | hg) | hg
  · exact word_at (State.WarmedH.refl s) (good_of_word hg) (h w hm)
  · obtain ⟨a, i, x, z, rfl⟩ := mj_isNest_c hg
    exact va_Nw.use rfl (va_Nw.of rfl (h _ hm))
  · obtain ⟨n, rfl⟩ := mj_isAO_c hg
    exact va_AO.use (va_AO.of (h _ hm))
theorem mj_Kof {s : State} (hT : mj_Tb s) : ∃ G : mj_G, mj_K G s := by
  have hO : ∀ x, ∃ q : ClassId × (Nat → Nat), x < 13 → u_Kn s (mj_nm x) (mj_T x) (mj_N x) q.1 q.2 := by
    intro x
    by_cases h : x < 13
    · obtain ⟨h1, h2, h3, h4⟩ := mj_cw h
      obtain ⟨cC, iS, hk⟩ := u_known (ws := lw_gd) (args := #[]) (fun w hw => hT w hw #[]) h3 (hT _ h1 #[])
      exact ⟨(cC, iS), fun _ => hk⟩
    · exact ⟨(0, fun _ => 0), fun q => absurd q h⟩
  have hA : ∀ x, ∃ q : ClassId, 13 ≤ x → x < 18 → mj_arr s q (mj_ety x) ∧ va_RA s q (mj_ety x) := by
    intro x
    by_cases h : 13 ≤ x ∧ x < 18
    · have hx : x = 13 ∨ x = 14 ∨ x = 15 ∨ x = 16 ∨ x = 17 := by omega
      rcases hx with rfl | rfl | rfl | rfl | rfl
      · obtain ⟨cA, k, comp, h1, h2, h3⟩ := Cond.arrayClass_spec (hT _ (List.mem_filter.mpr ⟨mj_w_ai, rfl⟩) #[])
        exact ⟨cA, fun _ _ => ⟨⟨k, comp, h2, h3⟩, h1⟩⟩
      · obtain ⟨cA, k, comp, h1, h2, h3⟩ := Cond.arrayClass_spec (hT _ (List.mem_filter.mpr ⟨mj_w_al, rfl⟩) #[])
        exact ⟨cA, fun _ _ => ⟨⟨k, comp, h2, h3⟩, h1⟩⟩
      · obtain ⟨comp, cA, k, h1, -, h2, h3, h4⟩ := Cond.arrayOver_spec (hT _ (List.mem_filter.mpr ⟨mj_w_o0, rfl⟩) #[])
        exact ⟨cA, fun _ _ => ⟨⟨k, comp, h2, h3⟩, ⟨k, comp, h2, h3, h1, h4⟩⟩⟩
      · obtain ⟨comp, cA, k, h1, -, h2, h3, h4⟩ := Cond.arrayOver_spec (hT _ (List.mem_filter.mpr ⟨mj_w_o4, rfl⟩) #[])
        exact ⟨cA, fun _ _ => ⟨⟨k, comp, h2, h3⟩, ⟨k, comp, h2, h3, h1, h4⟩⟩⟩
      · obtain ⟨comp, cA, k, h1, -, h2, h3, h4⟩ := Cond.arrayOver_spec (hT _ (List.mem_filter.mpr ⟨mj_w_o6, rfl⟩) #[])
        exact ⟨cA, fun _ _ => ⟨⟨k, comp, h2, h3⟩, ⟨k, comp, h2, h3, h1, h4⟩⟩⟩
    · exact ⟨0, fun q1 q2 => absurd ⟨q1, q2⟩ h⟩
  refine ⟨(fun x => if x < 13 then (Classical.choose (hO x)).1 else Classical.choose (hA x), fun x => (Classical.choose (hO x)).2), fun x hx => ?_, fun x h1 h2 => ?_⟩
  · have := Classical.choose_spec (hO x) hx
    simp only [if_pos hx]
    exact this
  · have := Classical.choose_spec (hA x) h1 h2
    simp only [if_neg (show ¬ x < 13 by omega)]
    exact this
theorem mj_ro_of {s : State} {t : Nat} {A : Nat → Prop} {vs : List Value} (hv : ∀ v ∈ vs, ∃ z, v = .int z) (h : va_T .int t vs.length (fun j => vs.getD j .null) A s s.heap) : mj_ro s s.heap t (18, vs) := by
  obtain ⟨cell, h1, h2, h3, h4, h5, h6, -⟩ := h
  refine ⟨cell, h1, h2, h3, h4, h5, fun k v hk => ⟨hv v (List.mem_of_getElem? hk), ?_⟩⟩
  have hk : vs[k]? = some v := hk
  rw [h6 k (List.getElem?_eq_some_iff.mp hk).1]
  show some (vs.getD k Value.null) = some v
  rw [List.getD_eq_getElem?_getD, hk]
  rfl
set_option maxHeartbeats 4000000 in
set_option maxRecDepth 100000 in
theorem whole_start_of (hC : mj_Claim 2560) {p : Program} {e : Env} {s : State} {m : MethodId} {below : List Frame} {meth : Method} {c : Code} (l : Launch) {b L : Nat} {xs : Nat → Int32} (hL : L ≤ 2560) (C0 : lw_At p s m meth c b L xs) : W p l e room_1 s m #[Value.ref b] below meth c s.heap [] 0 0 (lw_Z below #[Value.ref b] s) (entryFrame m ([Value.ref b] : List Value).toArray 4) := by
  obtain ⟨hx, hb, hr, hml, hown, hts, hX, hbl, hlocks, hgv⟩ := C0
  have hT : mj_Tb s := mj_Tb.of hts
  obtain ⟨G, hK⟩ := mj_Kof hT
  have hs := flat_of_before _ hgv
  have hA : ∀ a : Nat, a < s.heap.size → ¬ (fun q => s.heap.size ≤ q) a := fun a h q => Nat.lt_irrefl _ (Nat.lt_of_lt_of_le h q)
  obtain ⟨t2, e2, hT2⟩ := va_Tof (tm := .static "ActBench" "PARTINGS_OF_TWO" "[I") (ty := .int) (N := mj_p2.length) (f := fun j => mj_p2.getD j .null) (A := fun q => s.heap.size ≤ q) (by decide) (hs (.arrayOf (.static "ActBench" "PARTINGS_OF_TWO" "[I") .int) (by decide +kernel)) (va_eqt (hs (.eq (.length (.static "ActBench" "PARTINGS_OF_TWO" "[I")) (.int 2)) (by decide +kernel))) (fun j hj => by
    have hj : j < 2 := hj
    rcases (show j = 0 ∨ j = 1 by omega) with rfl | rfl
    · exact va_eqt (hs (.eq (.elem (.static "ActBench" "PARTINGS_OF_TWO" "[I") (.int 0)) (.int 0)) (by decide +kernel))
    · exact va_eqt (hs (.eq (.elem (.static "ActBench" "PARTINGS_OF_TWO" "[I") (.int 1)) (.int 4)) (by decide +kernel))) hA
  obtain ⟨t3, e3, hT3⟩ := va_Tof (tm := .static "ActBench" "PARTINGS_OF_THREE" "[I") (ty := .int) (N := mj_p3.length) (f := fun j => mj_p3.getD j .null) (A := fun q => s.heap.size ≤ q) (by decide) (hs (.arrayOf (.static "ActBench" "PARTINGS_OF_THREE" "[I") .int) (by decide +kernel)) (va_eqt (hs (.eq (.length (.static "ActBench" "PARTINGS_OF_THREE" "[I")) (.int 5)) (by decide +kernel))) (fun j hj => by
    have hj : j < 5 := hj
    rcases (show j = 0 ∨ j = 1 ∨ j = 2 ∨ j = 3 ∨ j = 4 by omega) with rfl | rfl | rfl | rfl | rfl
    · exact va_eqt (hs (.eq (.elem (.static "ActBench" "PARTINGS_OF_THREE" "[I") (.int 0)) (.int 0)) (by decide +kernel))
    · exact va_eqt (hs (.eq (.elem (.static "ActBench" "PARTINGS_OF_THREE" "[I") (.int 1)) (.int 4)) (by decide +kernel))
    · exact va_eqt (hs (.eq (.elem (.static "ActBench" "PARTINGS_OF_THREE" "[I") (.int 2)) (.int 20)) (by decide +kernel))
    · exact va_eqt (hs (.eq (.elem (.static "ActBench" "PARTINGS_OF_THREE" "[I") (.int 3)) (.int 32)) (by decide +kernel))
    · exact va_eqt (hs (.eq (.elem (.static "ActBench" "PARTINGS_OF_THREE" "[I") (.int 4)) (.int 36)) (by decide +kernel))) hA
  have hini : (Jvm.Cond.initialized "ActBench").before #[Value.ref b] s = true := hts _ (by decide +kernel)
  have hZ2 := va_Zref (hts (.laysStatic "ActBench" "PARTINGS_OF_TWO" "[I") (by decide +kernel)) hini e2 hA
  have hZ3 := va_Zref (hts (.laysStatic "ActBench" "PARTINGS_OF_THREE" "[I") (by decide +kernel)) hini e3 hA
  have harg : (Term.arg 0).eval #[Value.ref b] s none [] s = some (.ref b) := rfl
  have hn2 : b ≠ t2 := by
    intro q
    have h := hs (.not (.eq (.arg 0) (.static "ActBench" "PARTINGS_OF_TWO" "[I"))) (by decide +kernel)
    simp only [Cond.before, Cond.holds, Cond.value, e2, harg] at h
    simp [q] at h
  have hn3 : b ≠ t3 := by
    intro q
    have h := hs (.not (.eq (.arg 0) (.static "ActBench" "PARTINGS_OF_THREE" "[I"))) (by decide +kernel)
    simp only [Cond.before, Cond.holds, Cond.value, e3, harg] at h
    simp [q] at h
  have hn23 : t2 ≠ t3 := by
    intro q
    obtain ⟨c2, a1, -, -, -, a5, -⟩ := hT2
    obtain ⟨c3, b1, -, -, -, b5, -⟩ := hT3
    rw [q, b1] at a1
    cases a1
    rw [b5] at a5
    exact absurd a5 (by decide)
  have hlx : ((List.range L).map xs).length = L := by simp
  obtain ⟨n, hp', hex, hcc, hss⟩ := hC ((List.range L).map xs) (by rw [hlx]; exact hL)
  have hW : mj_W G (fun i => match i with
      | 0 => t2
      | 1 => t3
      | 2 => b
      | i + 3 => s.heap.size + i) s.heap.size s (mj_hp0 ((List.range L).map xs)) s.heap := by
    refine ⟨fun i x hx => ?_, fun i j hi hj hij => ?_, Nat.le_refl _, fun i hi => ?_, fun r hr => ?_⟩
    · rcases i with _ | _ | _ | i
      · cases hx
        exact Or.inl ⟨rfl, mj_ro_of (by intro v hv; simp [mj_p2] at hv; rcases hv with rfl | rfl <;> exact ⟨_, rfl⟩) hT2⟩
      · cases hx
        exact Or.inl ⟨rfl, mj_ro_of (by intro v hv; simp [mj_p3] at hv; rcases hv with rfl | rfl | rfl | rfl | rfl <;> exact ⟨_, rfl⟩) hT3⟩
      · cases hx
        obtain ⟨scr, g1, g2, g3, g4, g5⟩ := hX
        refine Or.inl ⟨rfl, scr, g1, g2, g3, ?_, ?_, fun k v hk => ?_⟩
        · show (((List.range L).map xs).map Value.int).length ≤ _
          rw [List.length_map, hlx, g4]
          exact Nat.le_refl _
        · show _ = Int32.ofNat (((List.range L).map xs).map Value.int).length
          rw [List.length_map, hlx, g4]
        · have hk : (((List.range L).map xs).map Value.int)[k]? = some v := hk
          have hkl : k < L := by
            have := (List.getElem?_eq_some_iff.mp hk).1
            rw [List.length_map, hlx] at this
            exact this
          rw [List.getElem?_map, List.getElem?_map, List.getElem?_range hkl] at hk
          have hk : Value.int (xs k) = v := Option.some.inj hk
          exact ⟨⟨_, hk.symm⟩, by rw [g5 k hkl, hk]⟩
      · cases hx
    · have hi : i < 3 := hi
      have hj : j < 3 := hj
      rcases (show i = 0 ∨ i = 1 ∨ i = 2 by omega) with rfl | rfl | rfl <;> rcases (show j = 0 ∨ j = 1 ∨ j = 2 by omega) with rfl | rfl | rfl
      · rfl
      · exact absurd hij hn23
      · exact absurd (Eq.symm hij) hn2
      · exact absurd (Eq.symm hij) hn23
      · rfl
      · exact absurd (Eq.symm hij) hn3
      · exact absurd hij hn2
      · exact absurd hij hn3
      · rfl
    · have hi : 3 ≤ i := hi
      obtain ⟨q, rfl⟩ : ∃ q, i = q + 3 := ⟨i - 3, by omega⟩
      show s.heap.size + q = s.heap.size + (q + 3 - 3)
      omega
    · rcases (show r = 0 ∨ r = 1 by omega) with rfl | rfl
      · exact hZ2
      · exact hZ3
  have hown' : s.vm.findClass (mj_nm (mj_mx 0).2.1) = some m.cls := by
    rw [show mj_nm (mj_mx 0).2.1 = R_law from by decide +kernel]
    exact hown
  have hl0 : (mj_hp0 ((List.range L).map xs)).length = 3 := rfl
  generalize hadd : (fun i : Nat => match i with
      | 0 => t2
      | 1 => t3
      | 2 => b
      | i + 3 => s.heap.size + i) = ad at hW
  have hab : ad 2 = b := by rw [← hadd]
  have hcv : ([Value.ref b] : List Value) = ([.ref 2] : List Value).map (mj_cv ad) := by
    show _ = [Value.ref (ad 2)]
    rw [hab]
  have hef : entryFrame m ([Value.ref b] : List Value).toArray 4 = F0 m 0 ((lg_sl (([.ref 2] : List Value).map (mj_cv ad)) ++ List.replicate (4 - (lg_sl (([.ref 2] : List Value).map (mj_cv ad))).length) Slot.unset).toArray) [] := by
    rw [hcv, lg_entry_eq]
  refine W.eq hef ?_
  refine mj_snd n 60 0 0 _ [] _ _ _ hex (by decide) l G ad s.heap.size p e room_1 s m #[Value.ref b] below meth c s.heap [] 0 0 _ _ ⟨hx, hb, hml, hown', hT, hK, fun q => absurd q (by decide +kernel), by decide, by decide⟩ hW (mj_lr.entry (n := 4) (by decide)) (fun q hq => by cases hq) (by show 0 + _ ≤ room_1.cells; have hr1 : 300000 ≤ room_1.cells := Nat.le_of_ble_eq_true rfl; omega) (by show 0 + _ ≤ room_1.slots; have hr2 : 3000000 ≤ room_1.slots := Nat.le_of_ble_eq_true rfl; omega) ?_
  intro H' locs' ls' k' ins hd hk hW' hL'
  rcases hk with ⟨rfl, v, hv, -⟩ | ⟨-, v, hv, -⟩ | ⟨-, v, hv, -⟩ | ⟨-, hv, -⟩
  · refine va_forget hL' ?_
    refine W.widen (k := room_1.cells) (n := room_1.slots) (by have hr1 : 300000 ≤ room_1.cells := Nat.le_of_ble_eq_true rfl; omega) (by have hr2 : 3000000 ≤ room_1.slots := Nat.le_of_ble_eq_true rfl; omega) ?_
    exact lw_ret hx hb hr hlocks hd
  · cases hv
  · cases hv
  · cases hv
