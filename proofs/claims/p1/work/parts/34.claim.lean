/-! The claim. -/
theorem mp_one1 {xs : List Int32} {w : ma_R} {i : Nat} (h : ∀ X, mo_Gs X (mp_op w i mp_E)) : ∃ E, mo_E (mp_rs xs) E ∧ mo_Gs (mp_Y xs) (mp_op w i E) := ⟨mp_E, mp_Eok xs, h _⟩
theorem mp_zero {xs : List Int32} (hn : mp_n (mp_W0 xs.length) 1 = true) (h : ma_ok (ma_r10 (mp_op (mp_W0 xs.length) 0 mp_E)) = true) : mo_Gs (mp_X xs) (mp_W0 xs.length) :=
  mp_all hn fun i hi => by
    have hi : i = 0 := by omega
    subst hi
    exact mp_one1 fun X => ma_r10_ok (ma_ok_s h)
theorem mp_full (xs : List Int32) : mo_Gs (mp_X xs) mp_W1 := by
  refine mp_all mp_w fun i hi => ?_
  have key : i = 0 ∨ i = 1 ∨ i = 2 ∨ i = 3 ∨ i = 4 ∨ i = 5 ∨ i = 6 ∨ i = 7 ∨ i = 8 ∨ i = 9 ∨ i = 10 ∨ i = 11 ∨ i = 12 ∨ i = 13 ∨ i = 14 ∨ i = 15 ∨ i = 16 ∨ i = 17 ∨ i = 18 ∨ i = 19 ∨ i = 20 ∨ i = 21 ∨ i = 22 ∨ i = 23 ∨ i = 24 ∨ i = 25 ∨ i = 26 ∨ i = 27 ∨ i = 28 ∨ i = 29 ∨ i = 30 ∨ i = 31 := by omega
  rcases key with rfl | rfl | rfl | rfl | rfl | rfl | rfl | rfl | rfl | rfl | rfl | rfl | rfl | rfl | rfl | rfl | rfl | rfl | rfl | rfl | rfl | rfl | rfl | rfl | rfl | rfl | rfl | rfl | rfl | rfl | rfl | rfl
  · exact mp_one1 fun X => ma_r16_ok (ma_ok_s mp_o31)
  · exact mp_one1 fun X => ma_r16_ok (ma_ok_s mp_o30)
  · exact mp_one1 fun X => ma_r16_ok (ma_ok_s mp_o29)
  · exact mp_one1 fun X => ma_r16_ok (ma_ok_s mp_o28)
  · exact mp_one1 fun X => ma_r16_ok (ma_ok_s mp_o27)
  · exact mp_one1 fun X => ma_r16_ok (ma_ok_s mp_o26)
  · exact mp_one1 fun X => ma_r16_ok (ma_ok_s mp_o25)
  · exact mp_one1 fun X => ma_r16_ok (ma_ok_s mp_o24)
  · exact mp_one1 fun X => ma_r16_ok (ma_ok_s mp_o23)
  · exact mp_one1 fun X => ma_r16_ok (ma_ok_s mp_o22)
  · exact mp_one1 fun X => ma_r16_ok (ma_ok_s mp_o21)
  · exact mp_one1 fun X => ma_r16_ok (ma_ok_s mp_o20)
  · exact mp_one1 fun X => ma_r16_ok (ma_ok_s mp_o19)
  · exact mp_one1 fun X => ma_r16_ok (ma_ok_s mp_o18)
  · exact mp_one1 fun X => ma_r16_ok (ma_ok_s mp_o17)
  · exact mp_one1 fun X => ma_r16_ok (ma_ok_s mp_o16)
  · exact mp_k15 xs
  · exact mp_k14 xs
  · exact mp_k13 xs
  · exact mp_k12 xs
  · exact mp_one1 fun X => ma_r16_ok (ma_ok_s mp_o11)
  · exact mp_one1 fun X => ma_r16_ok (ma_ok_s mp_o10)
  · exact mp_one1 fun X => ma_r16_ok (ma_ok_s mp_o9)
  · exact mp_one1 fun X => ma_r16_ok (ma_ok_s mp_o8)
  · exact mp_one1 fun X => ma_r16_ok (ma_ok_s mp_o7)
  · exact mp_one1 fun X => ma_r16_ok (ma_ok_s mp_o6)
  · exact mp_one1 fun X => ma_r16_ok (ma_ok_s mp_o5)
  · exact mp_one1 fun X => ma_r16_ok (ma_ok_s mp_o4)
  · exact mp_one1 fun X => ma_r16_ok (ma_ok_s mp_o3)
  · exact mp_one1 fun X => ma_r16_ok (ma_ok_s mp_o2)
  · exact mp_one1 fun X => ma_r16_ok (ma_ok_s mp_o1)
  · exact mp_one1 fun X => ma_r16_ok (ma_ok_s mp_o0)
theorem mj_claim : mj_Claim 5 := by
  intro xs hl
  refine mp_start hl ?_
  rcases (show xs.length = 0 ∨ xs.length = 1 ∨ xs.length = 2 ∨ xs.length = 3 ∨ xs.length = 4 ∨ xs.length = 5 by omega) with h | h | h | h | h | h
  · exact mp_start0 (mp_zero (by rw [h]; exact mp_z0) (by rw [h]; exact mp_y0))
  · exact mp_start0 (mp_zero (by rw [h]; exact mp_z1) (by rw [h]; exact mp_y1))
  · exact mp_start0 (mp_zero (by rw [h]; exact mp_z2) (by rw [h]; exact mp_y2))
  · exact mp_start0 (mp_zero (by rw [h]; exact mp_z3) (by rw [h]; exact mp_y3))
  · exact mp_start0 (mp_zero (by rw [h]; exact mp_z4) (by rw [h]; exact mp_y4))
  · exact mp_start1 h (mp_full xs)
