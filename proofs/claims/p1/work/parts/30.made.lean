/-! The runs of kind 12. -/
set_option maxRecDepth 1000000 in
theorem mp_o12_0 : ma_ok (ma_r16 (mp_op mp_W1 19 (mp_Ea (mp_lo, .ofNat 2) mp_a mp_a))) = true := by decide +kernel
set_option maxRecDepth 1000000 in
theorem mp_o12_1 : ma_ok (ma_r16 (mp_op mp_W1 19 (mp_Ea (.ofNat 4, mp_hi) mp_a mp_a))) = true := by decide +kernel
set_option maxRecDepth 1000000 in
theorem mp_o12_2 : ma_ok (ma_r16 (mp_op mp_W1 19 (mp_Ea (.ofNat 3, .ofNat 3) mp_a (mp_lo, .negSucc 0)))) = true := by decide +kernel
set_option maxRecDepth 1000000 in
theorem mp_o12_3 : ma_ok (ma_r16 (mp_op mp_W1 19 (mp_Ea (.ofNat 3, .ofNat 3) mp_a (.ofNat 2, mp_hi)))) = true := by decide +kernel
set_option maxRecDepth 1000000 in
theorem mp_o12_4 : ma_ok (ma_r16 (mp_op mp_W1 19 (mp_Ea (.ofNat 3, .ofNat 3) (mp_lo, .negSucc 0) (.ofNat 0, .ofNat 0)))) = true := by decide +kernel
set_option maxRecDepth 1000000 in
theorem mp_o12_5 : ma_ok (ma_r16 (mp_op mp_W1 19 (mp_Ea (.ofNat 3, .ofNat 3) (.ofNat 0, .ofNat 0) (.ofNat 0, .ofNat 0)))) = true := by decide +kernel
set_option maxRecDepth 1000000 in
theorem mp_o12_6 : ma_ok (ma_r16 (mp_op mp_W1 19 (mp_Ea (.ofNat 3, .ofNat 3) (.ofNat 1, .ofNat 1) (.ofNat 0, .ofNat 0)))) = true := by decide +kernel
set_option maxRecDepth 1000000 in
theorem mp_o12_7 : ma_ok (ma_r16 (mp_op mp_W1 19 (mp_Ea (.ofNat 3, .ofNat 3) (.ofNat 2, .ofNat 2) (.ofNat 0, .ofNat 0)))) = true := by decide +kernel
set_option maxRecDepth 1000000 in
theorem mp_o12_8 : ma_ok (ma_r16 (mp_op mp_W1 19 (mp_Ea (.ofNat 3, .ofNat 3) (.ofNat 3, mp_hi) (.ofNat 0, .ofNat 0)))) = true := by decide +kernel
set_option maxRecDepth 1000000 in
theorem mp_o12_9 : ma_ok (ma_r16 (mp_op mp_W1 19 (mp_Ea (.ofNat 3, .ofNat 3) (mp_lo, .negSucc 0) (.ofNat 1, .ofNat 1)))) = true := by decide +kernel
set_option maxRecDepth 1000000 in
theorem mp_o12_10 : ma_ok (ma_r16 (mp_op mp_W1 19 (mp_Ea (.ofNat 3, .ofNat 3) (.ofNat 0, .ofNat 0) (.ofNat 1, .ofNat 1)))) = true := by decide +kernel
set_option maxRecDepth 1000000 in
theorem mp_o12_11 : ma_ok (ma_r16 (mp_op mp_W1 19 (mp_Ea (.ofNat 3, .ofNat 3) (.ofNat 1, .ofNat 1) (.ofNat 1, .ofNat 1)))) = true := by decide +kernel
set_option maxRecDepth 1000000 in
theorem mp_o12_12 : ma_ok (ma_r16 (mp_op mp_W1 19 (mp_Ea (.ofNat 3, .ofNat 3) (.ofNat 2, .ofNat 2) (.ofNat 1, .ofNat 1)))) = true := by decide +kernel
set_option maxRecDepth 1000000 in
theorem mp_o12_13 : ma_ok (ma_r16 (mp_op mp_W1 19 (mp_Ea (.ofNat 3, .ofNat 3) (.ofNat 3, mp_hi) (.ofNat 1, .ofNat 1)))) = true := by decide +kernel
