/-! Whole runs of the machine of unknowns. -/
theorem ma_es_c {E : ma_E} {H : ma_H} {d j k : Nat} {L : ma_L} {st : List ma_V} {K : List ma_F} {rest : List ma_S} : ma_es ((E, H, (d, j, k, L, st) :: K) :: rest) = match ma_mt j k with
    | none => none
    | some f => (match f E H d j L st K with
      | none => none
      | some ss => some (ma_app ss rest)) := by unfold ma_es; rfl
theorem ma_es_n {E : ma_E} {H : ma_H} {rest : List ma_S} : ma_es ((E, H, []) :: rest) = none := by unfold ma_es; rfl
theorem ma_es_ok {X : mo_X} {w : List ma_S} (h : mo_Gs X (ma_es w)) : ∀ c ∈ w, mo_G X c := by
  rcases w with _ | ⟨⟨E, H, fr⟩, rest⟩
  · intro c hc; cases hc
  · rcases fr with _ | ⟨⟨d, j, k, L, st⟩, K⟩
    · rw [ma_es_n] at h
      exact h.elim
    · rw [ma_es_c] at h
      generalize hq : ma_mt j k = q at h
      cases q with
      | none => exact h.elim
      | some f =>
        have h : mo_Gs X (match f E H d j L st K with
          | none => none
          | some ss => some (ma_app ss rest)) := h
        generalize hs : f E H d j L st K = s at h
        cases s with
        | none => exact False.elim h
        | some ss =>
          have h : ∀ c ∈ ma_app ss rest, mo_G X c := h
          rw [ma_app_eq] at h
          intro c hc
          rcases List.mem_cons.mp hc with rfl | hc
          · exact ma_mt_ok j k f hq X E H d L st K (by rw [hs]; exact fun c hc => h c (List.mem_append_left _ hc))
          · exact h c (List.mem_append_right _ hc)
theorem ma_r0_ok {X : mo_X} {w : ma_R} (h : mo_Gs X (ma_r0 w)) : mo_Gs X w := by
  cases w with
  | none => exact h
  | some l => exact ma_es_ok (show mo_Gs X (ma_es l) from h)
theorem ma_r1_c {x : ma_S} {l : List ma_S} : ma_r1 (some (x :: l)) = ma_r0 (ma_r0 (some (x :: l))) := by unfold ma_r1; rfl
theorem ma_r1_ok {X : mo_X} {w : ma_R} (h : mo_Gs X (ma_r1 w)) : mo_Gs X w := by
  rcases w with _ | _ | ⟨x, l⟩
  · unfold ma_r1 at h; exact h
  · exact fun c hc => by cases hc
  · rw [ma_r1_c] at h
    exact ma_r0_ok (ma_r0_ok h)
theorem ma_r2_c {x : ma_S} {l : List ma_S} : ma_r2 (some (x :: l)) = ma_r1 (ma_r1 (some (x :: l))) := by unfold ma_r2; rfl
theorem ma_r2_ok {X : mo_X} {w : ma_R} (h : mo_Gs X (ma_r2 w)) : mo_Gs X w := by
  rcases w with _ | _ | ⟨x, l⟩
  · unfold ma_r2 at h; exact h
  · exact fun c hc => by cases hc
  · rw [ma_r2_c] at h
    exact ma_r1_ok (ma_r1_ok h)
theorem ma_r3_c {x : ma_S} {l : List ma_S} : ma_r3 (some (x :: l)) = ma_r2 (ma_r2 (some (x :: l))) := by unfold ma_r3; rfl
theorem ma_r3_ok {X : mo_X} {w : ma_R} (h : mo_Gs X (ma_r3 w)) : mo_Gs X w := by
  rcases w with _ | _ | ⟨x, l⟩
  · unfold ma_r3 at h; exact h
  · exact fun c hc => by cases hc
  · rw [ma_r3_c] at h
    exact ma_r2_ok (ma_r2_ok h)
theorem ma_r4_c {x : ma_S} {l : List ma_S} : ma_r4 (some (x :: l)) = ma_r3 (ma_r3 (some (x :: l))) := by unfold ma_r4; rfl
theorem ma_r4_ok {X : mo_X} {w : ma_R} (h : mo_Gs X (ma_r4 w)) : mo_Gs X w := by
  rcases w with _ | _ | ⟨x, l⟩
  · unfold ma_r4 at h; exact h
  · exact fun c hc => by cases hc
  · rw [ma_r4_c] at h
    exact ma_r3_ok (ma_r3_ok h)
theorem ma_r5_c {x : ma_S} {l : List ma_S} : ma_r5 (some (x :: l)) = ma_r4 (ma_r4 (some (x :: l))) := by unfold ma_r5; rfl
theorem ma_r5_ok {X : mo_X} {w : ma_R} (h : mo_Gs X (ma_r5 w)) : mo_Gs X w := by
  rcases w with _ | _ | ⟨x, l⟩
  · unfold ma_r5 at h; exact h
  · exact fun c hc => by cases hc
  · rw [ma_r5_c] at h
    exact ma_r4_ok (ma_r4_ok h)
theorem ma_r6_c {x : ma_S} {l : List ma_S} : ma_r6 (some (x :: l)) = ma_r5 (ma_r5 (some (x :: l))) := by unfold ma_r6; rfl
theorem ma_r6_ok {X : mo_X} {w : ma_R} (h : mo_Gs X (ma_r6 w)) : mo_Gs X w := by
  rcases w with _ | _ | ⟨x, l⟩
  · unfold ma_r6 at h; exact h
  · exact fun c hc => by cases hc
  · rw [ma_r6_c] at h
    exact ma_r5_ok (ma_r5_ok h)
theorem ma_r7_c {x : ma_S} {l : List ma_S} : ma_r7 (some (x :: l)) = ma_r6 (ma_r6 (some (x :: l))) := by unfold ma_r7; rfl
theorem ma_r7_ok {X : mo_X} {w : ma_R} (h : mo_Gs X (ma_r7 w)) : mo_Gs X w := by
  rcases w with _ | _ | ⟨x, l⟩
  · unfold ma_r7 at h; exact h
  · exact fun c hc => by cases hc
  · rw [ma_r7_c] at h
    exact ma_r6_ok (ma_r6_ok h)
theorem ma_r8_c {x : ma_S} {l : List ma_S} : ma_r8 (some (x :: l)) = ma_r7 (ma_r7 (some (x :: l))) := by unfold ma_r8; rfl
theorem ma_r8_ok {X : mo_X} {w : ma_R} (h : mo_Gs X (ma_r8 w)) : mo_Gs X w := by
  rcases w with _ | _ | ⟨x, l⟩
  · unfold ma_r8 at h; exact h
  · exact fun c hc => by cases hc
  · rw [ma_r8_c] at h
    exact ma_r7_ok (ma_r7_ok h)
theorem ma_r9_c {x : ma_S} {l : List ma_S} : ma_r9 (some (x :: l)) = ma_r8 (ma_r8 (some (x :: l))) := by unfold ma_r9; rfl
theorem ma_r9_ok {X : mo_X} {w : ma_R} (h : mo_Gs X (ma_r9 w)) : mo_Gs X w := by
  rcases w with _ | _ | ⟨x, l⟩
  · unfold ma_r9 at h; exact h
  · exact fun c hc => by cases hc
  · rw [ma_r9_c] at h
    exact ma_r8_ok (ma_r8_ok h)
theorem ma_r10_c {x : ma_S} {l : List ma_S} : ma_r10 (some (x :: l)) = ma_r9 (ma_r9 (some (x :: l))) := by unfold ma_r10; rfl
theorem ma_r10_ok {X : mo_X} {w : ma_R} (h : mo_Gs X (ma_r10 w)) : mo_Gs X w := by
  rcases w with _ | _ | ⟨x, l⟩
  · unfold ma_r10 at h; exact h
  · exact fun c hc => by cases hc
  · rw [ma_r10_c] at h
    exact ma_r9_ok (ma_r9_ok h)
theorem ma_r11_c {x : ma_S} {l : List ma_S} : ma_r11 (some (x :: l)) = ma_r10 (ma_r10 (some (x :: l))) := by unfold ma_r11; rfl
theorem ma_r11_ok {X : mo_X} {w : ma_R} (h : mo_Gs X (ma_r11 w)) : mo_Gs X w := by
  rcases w with _ | _ | ⟨x, l⟩
  · unfold ma_r11 at h; exact h
  · exact fun c hc => by cases hc
  · rw [ma_r11_c] at h
    exact ma_r10_ok (ma_r10_ok h)
theorem ma_r12_c {x : ma_S} {l : List ma_S} : ma_r12 (some (x :: l)) = ma_r11 (ma_r11 (some (x :: l))) := by unfold ma_r12; rfl
theorem ma_r12_ok {X : mo_X} {w : ma_R} (h : mo_Gs X (ma_r12 w)) : mo_Gs X w := by
  rcases w with _ | _ | ⟨x, l⟩
  · unfold ma_r12 at h; exact h
  · exact fun c hc => by cases hc
  · rw [ma_r12_c] at h
    exact ma_r11_ok (ma_r11_ok h)
theorem ma_r13_c {x : ma_S} {l : List ma_S} : ma_r13 (some (x :: l)) = ma_r12 (ma_r12 (some (x :: l))) := by unfold ma_r13; rfl
theorem ma_r13_ok {X : mo_X} {w : ma_R} (h : mo_Gs X (ma_r13 w)) : mo_Gs X w := by
  rcases w with _ | _ | ⟨x, l⟩
  · unfold ma_r13 at h; exact h
  · exact fun c hc => by cases hc
  · rw [ma_r13_c] at h
    exact ma_r12_ok (ma_r12_ok h)
theorem ma_r14_c {x : ma_S} {l : List ma_S} : ma_r14 (some (x :: l)) = ma_r13 (ma_r13 (some (x :: l))) := by unfold ma_r14; rfl
theorem ma_r14_ok {X : mo_X} {w : ma_R} (h : mo_Gs X (ma_r14 w)) : mo_Gs X w := by
  rcases w with _ | _ | ⟨x, l⟩
  · unfold ma_r14 at h; exact h
  · exact fun c hc => by cases hc
  · rw [ma_r14_c] at h
    exact ma_r13_ok (ma_r13_ok h)
theorem ma_r15_c {x : ma_S} {l : List ma_S} : ma_r15 (some (x :: l)) = ma_r14 (ma_r14 (some (x :: l))) := by unfold ma_r15; rfl
theorem ma_r15_ok {X : mo_X} {w : ma_R} (h : mo_Gs X (ma_r15 w)) : mo_Gs X w := by
  rcases w with _ | _ | ⟨x, l⟩
  · unfold ma_r15 at h; exact h
  · exact fun c hc => by cases hc
  · rw [ma_r15_c] at h
    exact ma_r14_ok (ma_r14_ok h)
theorem ma_r16_c {x : ma_S} {l : List ma_S} : ma_r16 (some (x :: l)) = ma_r15 (ma_r15 (some (x :: l))) := by unfold ma_r16; rfl
theorem ma_r16_ok {X : mo_X} {w : ma_R} (h : mo_Gs X (ma_r16 w)) : mo_Gs X w := by
  rcases w with _ | _ | ⟨x, l⟩
  · unfold ma_r16 at h; exact h
  · exact fun c hc => by cases hc
  · rw [ma_r16_c] at h
    exact ma_r15_ok (ma_r15_ok h)
theorem ma_r17_c {x : ma_S} {l : List ma_S} : ma_r17 (some (x :: l)) = ma_r16 (ma_r16 (some (x :: l))) := by unfold ma_r17; rfl
theorem ma_r17_ok {X : mo_X} {w : ma_R} (h : mo_Gs X (ma_r17 w)) : mo_Gs X w := by
  rcases w with _ | _ | ⟨x, l⟩
  · unfold ma_r17 at h; exact h
  · exact fun c hc => by cases hc
  · rw [ma_r17_c] at h
    exact ma_r16_ok (ma_r16_ok h)
theorem ma_r18_c {x : ma_S} {l : List ma_S} : ma_r18 (some (x :: l)) = ma_r17 (ma_r17 (some (x :: l))) := by unfold ma_r18; rfl
theorem ma_r18_ok {X : mo_X} {w : ma_R} (h : mo_Gs X (ma_r18 w)) : mo_Gs X w := by
  rcases w with _ | _ | ⟨x, l⟩
  · unfold ma_r18 at h; exact h
  · exact fun c hc => by cases hc
  · rw [ma_r18_c] at h
    exact ma_r17_ok (ma_r17_ok h)
theorem ma_r19_c {x : ma_S} {l : List ma_S} : ma_r19 (some (x :: l)) = ma_r18 (ma_r18 (some (x :: l))) := by unfold ma_r19; rfl
theorem ma_r19_ok {X : mo_X} {w : ma_R} (h : mo_Gs X (ma_r19 w)) : mo_Gs X w := by
  rcases w with _ | _ | ⟨x, l⟩
  · unfold ma_r19 at h; exact h
  · exact fun c hc => by cases hc
  · rw [ma_r19_c] at h
    exact ma_r18_ok (ma_r18_ok h)
theorem ma_r20_c {x : ma_S} {l : List ma_S} : ma_r20 (some (x :: l)) = ma_r19 (ma_r19 (some (x :: l))) := by unfold ma_r20; rfl
theorem ma_r20_ok {X : mo_X} {w : ma_R} (h : mo_Gs X (ma_r20 w)) : mo_Gs X w := by
  rcases w with _ | _ | ⟨x, l⟩
  · unfold ma_r20 at h; exact h
  · exact fun c hc => by cases hc
  · rw [ma_r20_c] at h
    exact ma_r19_ok (ma_r19_ok h)
theorem ma_run {X : mo_X} {w : ma_R} {l : List ma_S} (h : ma_r20 w = some []) (hw : w = some l) : ∀ c ∈ l, mo_G X c := by
  have : mo_Gs X w := ma_r20_ok (by rw [h]; exact fun c hc => by cases hc)
  rw [hw] at this
  exact this
/-- a run that makes no cell leaves the sizes -/
theorem mj_exec_sz : ∀ (n d j k : Nat) (L : mj_L) (st : List Value) (hp : List mj_C) (r : Option Value) (hp' : List mj_C), mj_exec n d j k L st hp = some (r, hp') → hp'.length = hp.length → mj_sz hp' = mj_sz hp := by
  intro n
  induction n with
  | zero => intro d j k L st hp r hp' h; cases h
  | succ n ih =>
    intro d j k L st hp r hp' h hl
    obtain ⟨e, -, h⟩ := mj_exec_s h
    generalize mj_step j k e L st hp = o at h
    unfold mj_cont at h
    split at h
    · cases h
    · exact ih _ _ _ _ _ _ _ _ h hl
    · have := ih _ _ _ _ _ _ _ _ h (by rw [mj_wr_len]; exact hl)
      rw [mj_wr_sz] at this
      exact this
    · have := (mj_mono _ _ _ _ _ _ _ _ _ h).1
      rw [List.length_append] at this
      simp only [List.length_cons, List.length_nil] at this
      omega
    · obtain ⟨d', v, hp1, -, -, h1, h2⟩ := mj_v_call h
      have a1 := (mj_mono _ _ _ _ _ _ _ _ _ h1).1
      have a2 := (mj_mono _ _ _ _ _ _ _ _ _ h2).1
      rw [ih _ _ _ _ _ _ _ _ h2 (by omega), ih _ _ _ _ _ _ _ _ h1 (by omega)]
    · cases h
      rfl
