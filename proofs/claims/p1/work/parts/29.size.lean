/-! The runs of kind 13. -/
set_option maxRecDepth 1000000 in
theorem mp_o13_0 : ma_ok (ma_r16 (mp_op mp_W1 18 (mp_Ea (mp_lo, .ofNat 2) mp_a mp_a))) = true := by decide +kernel
set_option maxRecDepth 1000000 in
theorem mp_o13_1 : ma_ok (ma_r16 (mp_op mp_W1 18 (mp_Ea (.ofNat 4, mp_hi) mp_a mp_a))) = true := by decide +kernel
set_option maxRecDepth 1000000 in
theorem mp_o13_2 : ma_ok (ma_r16 (mp_op mp_W1 18 (mp_Ea (.ofNat 3, .ofNat 3) (mp_lo, .negSucc 0) mp_a))) = true := by decide +kernel
set_option maxRecDepth 1000000 in
theorem mp_o13_3 : ma_ok (ma_r16 (mp_op mp_W1 18 (mp_Ea (.ofNat 3, .ofNat 3) (.ofNat 0, .ofNat 169) mp_a))) = true := by decide +kernel
set_option maxRecDepth 1000000 in
theorem mp_o13_4 : ma_ok (ma_r16 (mp_op mp_W1 18 (mp_Ea (.ofNat 3, .ofNat 3) (.ofNat 170, .ofNat 170) mp_a))) = true := by decide +kernel
set_option maxRecDepth 1000000 in
theorem mp_o13_5 : ma_ok (ma_r16 (mp_op mp_W1 18 (mp_Ea (.ofNat 3, .ofNat 3) (.ofNat 171, .ofNat 203) mp_a))) = true := by decide +kernel
set_option maxRecDepth 1000000 in
theorem mp_o13_6 : ma_ok (ma_r16 (mp_op mp_W1 18 (mp_Ea (.ofNat 3, .ofNat 3) (.ofNat 204, .ofNat 204) mp_a))) = true := by decide +kernel
set_option maxRecDepth 1000000 in
theorem mp_o13_7 : ma_ok (ma_r16 (mp_op mp_W1 18 (mp_Ea (.ofNat 3, .ofNat 3) (.ofNat 205, .ofNat 239) mp_a))) = true := by decide +kernel
set_option maxRecDepth 1000000 in
theorem mp_o13_8 : ma_ok (ma_r16 (mp_op mp_W1 18 (mp_Ea (.ofNat 3, .ofNat 3) (.ofNat 240, .ofNat 240) mp_a))) = true := by decide +kernel
set_option maxRecDepth 1000000 in
theorem mp_o13_9 : ma_ok (ma_r16 (mp_op mp_W1 18 (mp_Ea (.ofNat 3, .ofNat 3) (.ofNat 241, .ofNat 255) mp_a))) = true := by decide +kernel
set_option maxRecDepth 1000000 in
theorem mp_o13_10 : ma_ok (ma_r16 (mp_op mp_W1 18 (mp_Ea (.ofNat 3, .ofNat 3) (.ofNat 256, mp_hi) mp_a))) = true := by decide +kernel
