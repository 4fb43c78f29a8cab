/-! The claim. -/
theorem mp_gz (xs : List Int32) (w : ma_R) (i : Nat) {E : ma_E} (h : ma_ok (ma_r10 (mp_op w i E)) = true) (hE : mo_E (mp_rs xs) E) : ∃ E, mo_E (mp_rs xs) E ∧ mo_Gs (mp_Y xs) (mp_op w i E) := ⟨E, hE, ma_r10_ok (ma_ok_s h)⟩
theorem mp_zero (xs : List Int32) (w : ma_R) (hn : mp_n w 1 = true) (h : ma_ok (ma_r10 (mp_op w 0 mp_E)) = true) : mo_Gs (mp_X xs) w :=
  mp_all hn fun i hi => by
    have hi : i = 0 := by omega
    subst hi
    exact mp_gz xs w 0 h (mp_Eok xs)
theorem mp_kinds (xs : List Int32) (i : Nat) (hi : i < 32) : ∃ E, mo_E (mp_rs xs) E ∧ mo_Gs (mp_Y xs) (mp_op mp_W1 i E) := by
  have key : i = 0 ∨ i = 1 ∨ i = 2 ∨ i = 3 ∨ i = 4 ∨ i = 5 ∨ i = 6 ∨ i = 7 ∨ i = 8 ∨ i = 9 ∨ i = 10 ∨ i = 11 ∨ i = 12 ∨ i = 13 ∨ i = 14 ∨ i = 15 ∨ i = 16 ∨ i = 17 ∨ i = 18 ∨ i = 19 ∨ i = 20 ∨ i = 21 ∨ i = 22 ∨ i = 23 ∨ i = 24 ∨ i = 25 ∨ i = 26 ∨ i = 27 ∨ i = 28 ∨ i = 29 ∨ i = 30 ∨ i = 31 := by omega
  rcases key with rfl | rfl | rfl | rfl | rfl | rfl | rfl | rfl | rfl | rfl | rfl | rfl | rfl | rfl | rfl | rfl | rfl | rfl | rfl | rfl | rfl | rfl | rfl | rfl | rfl | rfl | rfl | rfl | rfl | rfl | rfl | rfl
  · exact mp_g xs mp_W1 0 mp_o31 (mp_Eok xs)
  · exact mp_g xs mp_W1 1 mp_o30 (mp_Eok xs)
  · exact mp_g xs mp_W1 2 mp_o29 (mp_Eok xs)
  · exact mp_g xs mp_W1 3 mp_o28 (mp_Eok xs)
  · exact mp_g xs mp_W1 4 mp_o27 (mp_Eok xs)
  · exact mp_g xs mp_W1 5 mp_o26 (mp_Eok xs)
  · exact mp_g xs mp_W1 6 mp_o25 (mp_Eok xs)
  · exact mp_g xs mp_W1 7 mp_o24 (mp_Eok xs)
  · exact mp_g xs mp_W1 8 mp_o23 (mp_Eok xs)
  · exact mp_g xs mp_W1 9 mp_o22 (mp_Eok xs)
  · exact mp_g xs mp_W1 10 mp_o21 (mp_Eok xs)
  · exact mp_g xs mp_W1 11 mp_o20 (mp_Eok xs)
  · exact mp_g xs mp_W1 12 mp_o19 (mp_Eok xs)
  · exact mp_g xs mp_W1 13 mp_o18 (mp_Eok xs)
  · exact mp_g xs mp_W1 14 mp_o17 (mp_Eok xs)
  · exact mp_g xs mp_W1 15 mp_o16 (mp_Eok xs)
  · exact mp_k15 xs
  · exact mp_k14 xs
  · exact mp_k13 xs
  · exact mp_k12 xs
  · exact mp_g xs mp_W1 20 mp_o11 (mp_Eok xs)
  · exact mp_g xs mp_W1 21 mp_o10 (mp_Eok xs)
  · exact mp_g xs mp_W1 22 mp_o9 (mp_Eok xs)
  · exact mp_g xs mp_W1 23 mp_o8 (mp_Eok xs)
  · exact mp_g xs mp_W1 24 mp_o7 (mp_Eok xs)
  · exact mp_g xs mp_W1 25 mp_o6 (mp_Eok xs)
  · exact mp_g xs mp_W1 26 mp_o5 (mp_Eok xs)
  · exact mp_g xs mp_W1 27 mp_o4 (mp_Eok xs)
  · exact mp_g xs mp_W1 28 mp_o3 (mp_Eok xs)
  · exact mp_g xs mp_W1 29 mp_o2 (mp_Eok xs)
  · exact mp_g xs mp_W1 30 mp_o1 (mp_Eok xs)
  · exact mp_g xs mp_W1 31 mp_o0 (mp_Eok xs)
theorem mp_fullw (xs : List Int32) (w : ma_R) (hw : mp_n w 32 = true) (h : ∀ i, i < 32 → ∃ E, mo_E (mp_rs xs) E ∧ mo_Gs (mp_Y xs) (mp_op w i E)) : mo_Gs (mp_X xs) w := mp_all hw h
theorem mj_claim : mj_Claim 5 := by
  intro xs hl
  refine mp_start hl ?_
  rcases (show xs.length = 0 ∨ xs.length = 1 ∨ xs.length = 2 ∨ xs.length = 3 ∨ xs.length = 4 ∨ xs.length = 5 by omega) with h | h | h | h | h | h
  · exact @mp_start0 xs (@mp_zero xs (mp_W0 xs.length) (by rw [h]; exact mp_z0) (by rw [h]; exact mp_y0))
  · exact @mp_start0 xs (@mp_zero xs (mp_W0 xs.length) (by rw [h]; exact mp_z1) (by rw [h]; exact mp_y1))
  · exact @mp_start0 xs (@mp_zero xs (mp_W0 xs.length) (by rw [h]; exact mp_z2) (by rw [h]; exact mp_y2))
  · exact @mp_start0 xs (@mp_zero xs (mp_W0 xs.length) (by rw [h]; exact mp_z3) (by rw [h]; exact mp_y3))
  · exact @mp_start0 xs (@mp_zero xs (mp_W0 xs.length) (by rw [h]; exact mp_z4) (by rw [h]; exact mp_y4))
  · exact @mp_start1 xs h (@mp_fullw xs mp_W1 mp_w (mp_kinds xs))
