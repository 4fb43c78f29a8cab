/-! The heavy kinds, whole. -/
theorem mp_nl (n : Nat) (z : Int) (h : (n : Int) ≤ z) : (Int.ofNat n) ≤ z := h
theorem mp_nu (n : Nat) (z : Int) (h : z ≤ (n : Int)) : z ≤ (Int.ofNat n) := h
theorem mp_g (xs : List Int32) (w : ma_R) (i : Nat) {E : ma_E} (h : ma_ok (ma_r16 (mp_op w i E)) = true) (hE : mo_E (mp_rs xs) E) : ∃ E, mo_E (mp_rs xs) E ∧ mo_Gs (mp_Y xs) (mp_op w i E) := ⟨E, hE, ma_r16_ok (ma_ok_s h)⟩
theorem mp_g14 (xs : List Int32) (w : ma_R) (i : Nat) {E : ma_E} (hA : ma_ok (ma_r16 (mp_A (ma_ci (.ofNat 256)) (ma_r0 (ma_r2 (ma_r3 (mp_op w i E)))))) = true) (hB : ma_ok (ma_r16 (mp_B (ma_ci (.ofNat 256)) (ma_r0 (ma_r2 (ma_r3 (mp_op w i E)))))) = true) (hE : mo_E (mp_rs xs) E) : ∃ E, mo_E (mp_rs xs) E ∧ mo_Gs (mp_Y xs) (mp_op w i E) := ⟨E, hE, ma_r3_ok (ma_r2_ok (ma_r0_ok (mp_split (fun _ h => h) (mp_less_c _) (fun _ => ma_r16_ok (ma_ok_s hA)) (ma_r16_ok (ma_ok_s hB)))))⟩
theorem mp_g15 (xs : List Int32) (w : ma_R) (i : Nat) {E : ma_E} (hA : ma_ok (ma_r16 (mp_A (ma_ci (.negSucc 0)) (ma_r1 (ma_r4 (mp_op w i E))))) = true) (hB : ma_ok (ma_r16 (mp_B (ma_ci (.negSucc 0)) (ma_r1 (ma_r4 (mp_op w i E))))) = true) (hE : mo_E (mp_rs xs) E) : ∃ E, mo_E (mp_rs xs) E ∧ mo_Gs (mp_Y xs) (mp_op w i E) := ⟨E, hE, ma_r4_ok (ma_r1_ok (mp_split (fun _ h => h) (mp_less_c _) (fun _ => ma_r16_ok (ma_ok_s hA)) (ma_r16_ok (ma_ok_s hB))))⟩
theorem mp_g15u (xs : List Int32) (w : ma_R) (i : Nat) {E : ma_E} (hA : ma_ok (ma_r17 (mp_A (ma_uv 3 (.ofNat 0)) (ma_r1 (ma_r4 (mp_op w i E))))) = true) (hB : ma_ok (ma_r16 (mp_B (ma_uv 3 (.ofNat 0)) (ma_r1 (ma_r4 (mp_op w i E))))) = true) (hE : mo_E (mp_rs xs) E) : ∃ E, mo_E (mp_rs xs) E ∧ mo_Gs (mp_Y xs) (mp_op w i E) := ⟨E, hE, ma_r4_ok (ma_r1_ok (mp_split (fun _ h => h) (mp_less_u (by decide) _) (fun _ => ma_r17_ok (ma_ok_s hA)) (ma_r16_ok (ma_ok_s hB))))⟩
theorem mp_k13 (xs : List Int32) : ∃ E, mo_E (mp_rs xs) E ∧ mo_Gs (mp_Y xs) (mp_op mp_W1 18 E) := by
  have h1 := mp_i32 (xs.getD 1 0)
  have h2 := mp_i32 (xs.getD 2 0)
  have h3 := mp_i32 (xs.getD 3 0)
  rcases (show (xs.getD 1 0).toInt ≤ 2 ∨ (3 ≤ (xs.getD 1 0).toInt ∧ (xs.getD 1 0).toInt ≤ 3) ∨ 4 ≤ (xs.getD 1 0).toInt by omega) with g0 | g0 | g0
  · exact mp_g xs mp_W1 18 mp_o13_0 (mp_Ea_ok xs ⟨h1.1, mp_nu 2 _ (by omega)⟩ h2 h3)
  · rcases (show (xs.getD 2 0).toInt ≤ -1 ∨ (0 ≤ (xs.getD 2 0).toInt ∧ (xs.getD 2 0).toInt ≤ 169) ∨ (170 ≤ (xs.getD 2 0).toInt ∧ (xs.getD 2 0).toInt ≤ 170) ∨ (171 ≤ (xs.getD 2 0).toInt ∧ (xs.getD 2 0).toInt ≤ 203) ∨ (204 ≤ (xs.getD 2 0).toInt ∧ (xs.getD 2 0).toInt ≤ 204) ∨ (205 ≤ (xs.getD 2 0).toInt ∧ (xs.getD 2 0).toInt ≤ 239) ∨ (240 ≤ (xs.getD 2 0).toInt ∧ (xs.getD 2 0).toInt ≤ 240) ∨ (241 ≤ (xs.getD 2 0).toInt ∧ (xs.getD 2 0).toInt ≤ 255) ∨ 256 ≤ (xs.getD 2 0).toInt by omega) with g1 | g1 | g1 | g1 | g1 | g1 | g1 | g1 | g1
    · exact mp_g xs mp_W1 18 mp_o13_2 (mp_Ea_ok xs ⟨mp_nl 3 _ (by omega), mp_nu 3 _ (by omega)⟩ ⟨h2.1, (by show _ ≤ (-1 : Int); omega)⟩ h3)
    · exact mp_g xs mp_W1 18 mp_o13_3 (mp_Ea_ok xs ⟨mp_nl 3 _ (by omega), mp_nu 3 _ (by omega)⟩ ⟨mp_nl 0 _ (by omega), mp_nu 169 _ (by omega)⟩ h3)
    · exact mp_g xs mp_W1 18 mp_o13_4 (mp_Ea_ok xs ⟨mp_nl 3 _ (by omega), mp_nu 3 _ (by omega)⟩ ⟨mp_nl 170 _ (by omega), mp_nu 170 _ (by omega)⟩ h3)
    · exact mp_g xs mp_W1 18 mp_o13_5 (mp_Ea_ok xs ⟨mp_nl 3 _ (by omega), mp_nu 3 _ (by omega)⟩ ⟨mp_nl 171 _ (by omega), mp_nu 203 _ (by omega)⟩ h3)
    · exact mp_g xs mp_W1 18 mp_o13_6 (mp_Ea_ok xs ⟨mp_nl 3 _ (by omega), mp_nu 3 _ (by omega)⟩ ⟨mp_nl 204 _ (by omega), mp_nu 204 _ (by omega)⟩ h3)
    · exact mp_g xs mp_W1 18 mp_o13_7 (mp_Ea_ok xs ⟨mp_nl 3 _ (by omega), mp_nu 3 _ (by omega)⟩ ⟨mp_nl 205 _ (by omega), mp_nu 239 _ (by omega)⟩ h3)
    · exact mp_g xs mp_W1 18 mp_o13_8 (mp_Ea_ok xs ⟨mp_nl 3 _ (by omega), mp_nu 3 _ (by omega)⟩ ⟨mp_nl 240 _ (by omega), mp_nu 240 _ (by omega)⟩ h3)
    · exact mp_g xs mp_W1 18 mp_o13_9 (mp_Ea_ok xs ⟨mp_nl 3 _ (by omega), mp_nu 3 _ (by omega)⟩ ⟨mp_nl 241 _ (by omega), mp_nu 255 _ (by omega)⟩ h3)
    · exact mp_g xs mp_W1 18 mp_o13_10 (mp_Ea_ok xs ⟨mp_nl 3 _ (by omega), mp_nu 3 _ (by omega)⟩ ⟨mp_nl 256 _ (by omega), h2.2⟩ h3)
  · exact mp_g xs mp_W1 18 mp_o13_1 (mp_Ea_ok xs ⟨mp_nl 4 _ (by omega), h1.2⟩ h2 h3)
theorem mp_k12 (xs : List Int32) : ∃ E, mo_E (mp_rs xs) E ∧ mo_Gs (mp_Y xs) (mp_op mp_W1 19 E) := by
  have h1 := mp_i32 (xs.getD 1 0)
  have h2 := mp_i32 (xs.getD 2 0)
  have h3 := mp_i32 (xs.getD 3 0)
  rcases (show (xs.getD 1 0).toInt ≤ 2 ∨ (3 ≤ (xs.getD 1 0).toInt ∧ (xs.getD 1 0).toInt ≤ 3) ∨ 4 ≤ (xs.getD 1 0).toInt by omega) with g0 | g0 | g0
  · exact mp_g xs mp_W1 19 mp_o12_0 (mp_Ea_ok xs ⟨h1.1, mp_nu 2 _ (by omega)⟩ h2 h3)
  · rcases (show (xs.getD 3 0).toInt ≤ -1 ∨ (0 ≤ (xs.getD 3 0).toInt ∧ (xs.getD 3 0).toInt ≤ 0) ∨ (1 ≤ (xs.getD 3 0).toInt ∧ (xs.getD 3 0).toInt ≤ 1) ∨ 2 ≤ (xs.getD 3 0).toInt by omega) with g2 | g2 | g2 | g2
    · exact mp_g xs mp_W1 19 mp_o12_2 (mp_Ea_ok xs ⟨mp_nl 3 _ (by omega), mp_nu 3 _ (by omega)⟩ h2 ⟨h3.1, (by show _ ≤ (-1 : Int); omega)⟩)
    · rcases (show (xs.getD 2 0).toInt ≤ -1 ∨ (0 ≤ (xs.getD 2 0).toInt ∧ (xs.getD 2 0).toInt ≤ 0) ∨ (1 ≤ (xs.getD 2 0).toInt ∧ (xs.getD 2 0).toInt ≤ 1) ∨ (2 ≤ (xs.getD 2 0).toInt ∧ (xs.getD 2 0).toInt ≤ 2) ∨ 3 ≤ (xs.getD 2 0).toInt by omega) with g1 | g1 | g1 | g1 | g1
      · exact mp_g xs mp_W1 19 mp_o12_4 (mp_Ea_ok xs ⟨mp_nl 3 _ (by omega), mp_nu 3 _ (by omega)⟩ ⟨h2.1, (by show _ ≤ (-1 : Int); omega)⟩ ⟨mp_nl 0 _ (by omega), mp_nu 0 _ (by omega)⟩)
      · exact mp_g xs mp_W1 19 mp_o12_5 (mp_Ea_ok xs ⟨mp_nl 3 _ (by omega), mp_nu 3 _ (by omega)⟩ ⟨mp_nl 0 _ (by omega), mp_nu 0 _ (by omega)⟩ ⟨mp_nl 0 _ (by omega), mp_nu 0 _ (by omega)⟩)
      · exact mp_g xs mp_W1 19 mp_o12_6 (mp_Ea_ok xs ⟨mp_nl 3 _ (by omega), mp_nu 3 _ (by omega)⟩ ⟨mp_nl 1 _ (by omega), mp_nu 1 _ (by omega)⟩ ⟨mp_nl 0 _ (by omega), mp_nu 0 _ (by omega)⟩)
      · exact mp_g xs mp_W1 19 mp_o12_7 (mp_Ea_ok xs ⟨mp_nl 3 _ (by omega), mp_nu 3 _ (by omega)⟩ ⟨mp_nl 2 _ (by omega), mp_nu 2 _ (by omega)⟩ ⟨mp_nl 0 _ (by omega), mp_nu 0 _ (by omega)⟩)
      · exact mp_g xs mp_W1 19 mp_o12_8 (mp_Ea_ok xs ⟨mp_nl 3 _ (by omega), mp_nu 3 _ (by omega)⟩ ⟨mp_nl 3 _ (by omega), h2.2⟩ ⟨mp_nl 0 _ (by omega), mp_nu 0 _ (by omega)⟩)
    · rcases (show (xs.getD 2 0).toInt ≤ -1 ∨ (0 ≤ (xs.getD 2 0).toInt ∧ (xs.getD 2 0).toInt ≤ 0) ∨ (1 ≤ (xs.getD 2 0).toInt ∧ (xs.getD 2 0).toInt ≤ 1) ∨ (2 ≤ (xs.getD 2 0).toInt ∧ (xs.getD 2 0).toInt ≤ 2) ∨ 3 ≤ (xs.getD 2 0).toInt by omega) with g1 | g1 | g1 | g1 | g1
      · exact mp_g xs mp_W1 19 mp_o12_9 (mp_Ea_ok xs ⟨mp_nl 3 _ (by omega), mp_nu 3 _ (by omega)⟩ ⟨h2.1, (by show _ ≤ (-1 : Int); omega)⟩ ⟨mp_nl 1 _ (by omega), mp_nu 1 _ (by omega)⟩)
      · exact mp_g xs mp_W1 19 mp_o12_10 (mp_Ea_ok xs ⟨mp_nl 3 _ (by omega), mp_nu 3 _ (by omega)⟩ ⟨mp_nl 0 _ (by omega), mp_nu 0 _ (by omega)⟩ ⟨mp_nl 1 _ (by omega), mp_nu 1 _ (by omega)⟩)
      · exact mp_g xs mp_W1 19 mp_o12_11 (mp_Ea_ok xs ⟨mp_nl 3 _ (by omega), mp_nu 3 _ (by omega)⟩ ⟨mp_nl 1 _ (by omega), mp_nu 1 _ (by omega)⟩ ⟨mp_nl 1 _ (by omega), mp_nu 1 _ (by omega)⟩)
      · exact mp_g xs mp_W1 19 mp_o12_12 (mp_Ea_ok xs ⟨mp_nl 3 _ (by omega), mp_nu 3 _ (by omega)⟩ ⟨mp_nl 2 _ (by omega), mp_nu 2 _ (by omega)⟩ ⟨mp_nl 1 _ (by omega), mp_nu 1 _ (by omega)⟩)
      · exact mp_g xs mp_W1 19 mp_o12_13 (mp_Ea_ok xs ⟨mp_nl 3 _ (by omega), mp_nu 3 _ (by omega)⟩ ⟨mp_nl 3 _ (by omega), h2.2⟩ ⟨mp_nl 1 _ (by omega), mp_nu 1 _ (by omega)⟩)
    · exact mp_g xs mp_W1 19 mp_o12_3 (mp_Ea_ok xs ⟨mp_nl 3 _ (by omega), mp_nu 3 _ (by omega)⟩ h2 ⟨mp_nl 2 _ (by omega), h3.2⟩)
  · exact mp_g xs mp_W1 19 mp_o12_1 (mp_Ea_ok xs ⟨mp_nl 4 _ (by omega), h1.2⟩ h2 h3)
theorem mp_k14 (xs : List Int32) : ∃ E, mo_E (mp_rs xs) E ∧ mo_Gs (mp_Y xs) (mp_op mp_W1 17 E) := by
  have h1 := mp_i32 (xs.getD 1 0)
  have h2 := mp_i32 (xs.getD 2 0)
  have h3 := mp_i32 (xs.getD 3 0)
  rcases (show (xs.getD 2 0).toInt ≤ 2 ∨ (3 ≤ (xs.getD 2 0).toInt ∧ (xs.getD 2 0).toInt ≤ 3) ∨ 4 ≤ (xs.getD 2 0).toInt by omega) with g1 | g1 | g1
  · exact mp_g xs mp_W1 17 mp_o14_0 (mp_Ea_ok xs h1 ⟨h2.1, mp_nu 2 _ (by omega)⟩ h3)
  · exact mp_g14 xs mp_W1 17 mp_o14_2a mp_o14_2b (mp_Ea_ok xs h1 ⟨mp_nl 3 _ (by omega), mp_nu 3 _ (by omega)⟩ h3)
  · exact mp_g xs mp_W1 17 mp_o14_1 (mp_Ea_ok xs h1 ⟨mp_nl 4 _ (by omega), h2.2⟩ h3)
theorem mp_k15 (xs : List Int32) : ∃ E, mo_E (mp_rs xs) E ∧ mo_Gs (mp_Y xs) (mp_op mp_W1 16 E) := by
  have h1 := mp_i32 (xs.getD 1 0)
  have h2 := mp_i32 (xs.getD 2 0)
  have h3 := mp_i32 (xs.getD 3 0)
  rcases (show (xs.getD 2 0).toInt ≤ 1 ∨ (2 ≤ (xs.getD 2 0).toInt ∧ (xs.getD 2 0).toInt ≤ 2) ∨ (3 ≤ (xs.getD 2 0).toInt ∧ (xs.getD 2 0).toInt ≤ 3) ∨ 4 ≤ (xs.getD 2 0).toInt by omega) with g1 | g1 | g1 | g1
  · exact mp_g xs mp_W1 16 mp_o15_0 (mp_Ea_ok xs h1 ⟨h2.1, mp_nu 1 _ (by omega)⟩ h3)
  · exact mp_g xs mp_W1 16 mp_o15_1 (mp_Ea_ok xs h1 ⟨mp_nl 2 _ (by omega), mp_nu 2 _ (by omega)⟩ h3)
  · rcases (show (xs.getD 3 0).toInt ≤ -1 ∨ (0 ≤ (xs.getD 3 0).toInt ∧ (xs.getD 3 0).toInt ≤ 255) ∨ 256 ≤ (xs.getD 3 0).toInt by omega) with g2 | g2 | g2
    · exact mp_g15 xs mp_W1 16 mp_o15_3a mp_o15_3b (mp_Ea_ok xs h1 ⟨mp_nl 3 _ (by omega), mp_nu 3 _ (by omega)⟩ ⟨h3.1, (by show _ ≤ (-1 : Int); omega)⟩)
    · exact mp_g15u xs mp_W1 16 mp_o15_5a mp_o15_5b (mp_Ea_ok xs h1 ⟨mp_nl 3 _ (by omega), mp_nu 3 _ (by omega)⟩ ⟨mp_nl 0 _ (by omega), mp_nu 255 _ (by omega)⟩)
    · exact mp_g15 xs mp_W1 16 mp_o15_4a mp_o15_4b (mp_Ea_ok xs h1 ⟨mp_nl 3 _ (by omega), mp_nu 3 _ (by omega)⟩ ⟨mp_nl 256 _ (by omega), h3.2⟩)
  · exact mp_g xs mp_W1 16 mp_o15_2 (mp_Ea_ok xs h1 ⟨mp_nl 4 _ (by omega), h2.2⟩ h3)
