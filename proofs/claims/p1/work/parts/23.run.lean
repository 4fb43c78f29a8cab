/-! Whole runs of the machine of unknowns. -/
theorem ma_es_ok {X : mo_X} {w : List ma_S} (h : mo_Gs X (ma_es w)) : ∀ c ∈ w, mo_G X c := by
  unfold ma_es at h
  split at h
  · intro c hc; cases hc
  · rename_i E H fr rest
    split at h
    · exact h.elim
    · rename_i d j k L st K
      split at h
      · exact h.elim
      · rename_i f hf
        split at h
        · exact h.elim
        · rename_i ss hss
          rw [ma_app_eq] at h
          have h : ∀ c ∈ ss ++ rest, mo_G X c := h
          intro c hc
          rcases List.mem_cons.mp hc with rfl | hc
          · exact ma_mt_ok j k f hf X E H d L st K (by rw [hss]; exact fun c hc => h c (List.mem_append_left _ hc))
          · exact h c (List.mem_append_right _ hc)
theorem ma_r0_ok {X : mo_X} {w : ma_R} (h : mo_Gs X (ma_r0 w)) : mo_Gs X w := by
  unfold ma_r0 at h
  split at h
  · exact h
  · exact ma_es_ok h
theorem ma_r1_ok {X : mo_X} {w : ma_R} (h : mo_Gs X (ma_r1 w)) : mo_Gs X w := by
  unfold ma_r1 at h
  split at h
  · exact h
  · exact fun c hc => by cases hc
  · exact ma_r0_ok (ma_r0_ok h)
theorem ma_r2_ok {X : mo_X} {w : ma_R} (h : mo_Gs X (ma_r2 w)) : mo_Gs X w := by
  unfold ma_r2 at h
  split at h
  · exact h
  · exact fun c hc => by cases hc
  · exact ma_r1_ok (ma_r1_ok h)
theorem ma_r3_ok {X : mo_X} {w : ma_R} (h : mo_Gs X (ma_r3 w)) : mo_Gs X w := by
  unfold ma_r3 at h
  split at h
  · exact h
  · exact fun c hc => by cases hc
  · exact ma_r2_ok (ma_r2_ok h)
theorem ma_r4_ok {X : mo_X} {w : ma_R} (h : mo_Gs X (ma_r4 w)) : mo_Gs X w := by
  unfold ma_r4 at h
  split at h
  · exact h
  · exact fun c hc => by cases hc
  · exact ma_r3_ok (ma_r3_ok h)
theorem ma_r5_ok {X : mo_X} {w : ma_R} (h : mo_Gs X (ma_r5 w)) : mo_Gs X w := by
  unfold ma_r5 at h
  split at h
  · exact h
  · exact fun c hc => by cases hc
  · exact ma_r4_ok (ma_r4_ok h)
theorem ma_r6_ok {X : mo_X} {w : ma_R} (h : mo_Gs X (ma_r6 w)) : mo_Gs X w := by
  unfold ma_r6 at h
  split at h
  · exact h
  · exact fun c hc => by cases hc
  · exact ma_r5_ok (ma_r5_ok h)
theorem ma_r7_ok {X : mo_X} {w : ma_R} (h : mo_Gs X (ma_r7 w)) : mo_Gs X w := by
  unfold ma_r7 at h
  split at h
  · exact h
  · exact fun c hc => by cases hc
  · exact ma_r6_ok (ma_r6_ok h)
theorem ma_r8_ok {X : mo_X} {w : ma_R} (h : mo_Gs X (ma_r8 w)) : mo_Gs X w := by
  unfold ma_r8 at h
  split at h
  · exact h
  · exact fun c hc => by cases hc
  · exact ma_r7_ok (ma_r7_ok h)
theorem ma_r9_ok {X : mo_X} {w : ma_R} (h : mo_Gs X (ma_r9 w)) : mo_Gs X w := by
  unfold ma_r9 at h
  split at h
  · exact h
  · exact fun c hc => by cases hc
  · exact ma_r8_ok (ma_r8_ok h)
theorem ma_r10_ok {X : mo_X} {w : ma_R} (h : mo_Gs X (ma_r10 w)) : mo_Gs X w := by
  unfold ma_r10 at h
  split at h
  · exact h
  · exact fun c hc => by cases hc
  · exact ma_r9_ok (ma_r9_ok h)
theorem ma_r11_ok {X : mo_X} {w : ma_R} (h : mo_Gs X (ma_r11 w)) : mo_Gs X w := by
  unfold ma_r11 at h
  split at h
  · exact h
  · exact fun c hc => by cases hc
  · exact ma_r10_ok (ma_r10_ok h)
theorem ma_r12_ok {X : mo_X} {w : ma_R} (h : mo_Gs X (ma_r12 w)) : mo_Gs X w := by
  unfold ma_r12 at h
  split at h
  · exact h
  · exact fun c hc => by cases hc
  · exact ma_r11_ok (ma_r11_ok h)
theorem ma_r13_ok {X : mo_X} {w : ma_R} (h : mo_Gs X (ma_r13 w)) : mo_Gs X w := by
  unfold ma_r13 at h
  split at h
  · exact h
  · exact fun c hc => by cases hc
  · exact ma_r12_ok (ma_r12_ok h)
theorem ma_r14_ok {X : mo_X} {w : ma_R} (h : mo_Gs X (ma_r14 w)) : mo_Gs X w := by
  unfold ma_r14 at h
  split at h
  · exact h
  · exact fun c hc => by cases hc
  · exact ma_r13_ok (ma_r13_ok h)
theorem ma_r15_ok {X : mo_X} {w : ma_R} (h : mo_Gs X (ma_r15 w)) : mo_Gs X w := by
  unfold ma_r15 at h
  split at h
  · exact h
  · exact fun c hc => by cases hc
  · exact ma_r14_ok (ma_r14_ok h)
theorem ma_r16_ok {X : mo_X} {w : ma_R} (h : mo_Gs X (ma_r16 w)) : mo_Gs X w := by
  unfold ma_r16 at h
  split at h
  · exact h
  · exact fun c hc => by cases hc
  · exact ma_r15_ok (ma_r15_ok h)
theorem ma_r17_ok {X : mo_X} {w : ma_R} (h : mo_Gs X (ma_r17 w)) : mo_Gs X w := by
  unfold ma_r17 at h
  split at h
  · exact h
  · exact fun c hc => by cases hc
  · exact ma_r16_ok (ma_r16_ok h)
theorem ma_r18_ok {X : mo_X} {w : ma_R} (h : mo_Gs X (ma_r18 w)) : mo_Gs X w := by
  unfold ma_r18 at h
  split at h
  · exact h
  · exact fun c hc => by cases hc
  · exact ma_r17_ok (ma_r17_ok h)
theorem ma_r19_ok {X : mo_X} {w : ma_R} (h : mo_Gs X (ma_r19 w)) : mo_Gs X w := by
  unfold ma_r19 at h
  split at h
  · exact h
  · exact fun c hc => by cases hc
  · exact ma_r18_ok (ma_r18_ok h)
theorem ma_r20_ok {X : mo_X} {w : ma_R} (h : mo_Gs X (ma_r20 w)) : mo_Gs X w := by
  unfold ma_r20 at h
  split at h
  · exact h
  · exact fun c hc => by cases hc
  · exact ma_r19_ok (ma_r19_ok h)
theorem ma_run {X : mo_X} {w : ma_R} {l : List ma_S} (h : ma_r20 w = some []) (hw : w = some l) : ∀ c ∈ l, mo_G X c := by
  have : mo_Gs X w := ma_r20_ok (by rw [h]; exact fun c hc => by cases hc)
  rw [hw] at this
  exact this
/-- a run that makes no cell leaves the sizes -/
theorem mj_exec_sz : ∀ (n d j k : Nat) (L : mj_L) (st : List Value) (hp : List mj_C) (r : Option Value) (hp' : List mj_C), mj_exec n d j k L st hp = some (r, hp') → hp'.length = hp.length → mj_sz hp' = mj_sz hp := by
  intro n
  induction n with
  | zero => intro d j k L st hp r hp' h; cases h
  | succ n ih =>
    intro d j k L st hp r hp' h hl
    obtain ⟨e, -, h⟩ := mj_exec_s h
    generalize mj_step j k e L st hp = o at h
    unfold mj_cont at h
    split at h
    · cases h
    · exact ih _ _ _ _ _ _ _ _ h hl
    · have := ih _ _ _ _ _ _ _ _ h (by rw [mj_wr_len]; exact hl)
      rw [mj_wr_sz] at this
      exact this
    · have := (mj_mono _ _ _ _ _ _ _ _ _ h).1
      rw [List.length_append] at this
      simp only [List.length_cons, List.length_nil] at this
      omega
    · obtain ⟨d', v, hp1, -, -, h1, h2⟩ := mj_v_call h
      have a1 := (mj_mono _ _ _ _ _ _ _ _ _ h1).1
      have a2 := (mj_mono _ _ _ _ _ _ _ _ _ h2).1
      rw [ih _ _ _ _ _ _ _ _ h2 (by omega), ih _ _ _ _ _ _ _ _ h1 (by omega)]
    · cases h
      rfl
