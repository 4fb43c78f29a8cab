/-! The runs of kind 15. -/
set_option maxRecDepth 1000000 in
theorem mp_o15_0 : ma_ok (ma_r16 (mp_op mp_W1 16 (mp_Ea mp_a (mp_lo, .ofNat 1) mp_a))) = true := by decide +kernel
set_option maxRecDepth 1000000 in
theorem mp_o15_1 : ma_ok (ma_r16 (mp_op mp_W1 16 (mp_Ea mp_a (.ofNat 2, .ofNat 2) mp_a))) = true := by decide +kernel
set_option maxRecDepth 1000000 in
theorem mp_o15_2 : ma_ok (ma_r16 (mp_op mp_W1 16 (mp_Ea mp_a (.ofNat 4, mp_hi) mp_a))) = true := by decide +kernel
set_option maxRecDepth 1000000 in
theorem mp_o15_3a : ma_ok (ma_r16 (mp_A (ma_ci (.negSucc 0)) (ma_r1 (ma_r4 (mp_op mp_W1 16 (mp_Ea mp_a (.ofNat 3, .ofNat 3) (mp_lo, .negSucc 0))))))) = true := by decide +kernel
set_option maxRecDepth 1000000 in
theorem mp_o15_3b : ma_ok (ma_r16 (mp_B (ma_ci (.negSucc 0)) (ma_r1 (ma_r4 (mp_op mp_W1 16 (mp_Ea mp_a (.ofNat 3, .ofNat 3) (mp_lo, .negSucc 0))))))) = true := by decide +kernel
set_option maxRecDepth 1000000 in
theorem mp_o15_4a : ma_ok (ma_r16 (mp_A (ma_ci (.negSucc 0)) (ma_r1 (ma_r4 (mp_op mp_W1 16 (mp_Ea mp_a (.ofNat 3, .ofNat 3) (.ofNat 256, mp_hi))))))) = true := by decide +kernel
set_option maxRecDepth 1000000 in
theorem mp_o15_4b : ma_ok (ma_r16 (mp_B (ma_ci (.negSucc 0)) (ma_r1 (ma_r4 (mp_op mp_W1 16 (mp_Ea mp_a (.ofNat 3, .ofNat 3) (.ofNat 256, mp_hi))))))) = true := by decide +kernel
set_option maxRecDepth 1000000 in
theorem mp_o15_5a : ma_ok (ma_r17 (mp_A (ma_uv 3 (.ofNat 0)) (ma_r1 (ma_r4 (mp_op mp_W1 16 (mp_Ea mp_a (.ofNat 3, .ofNat 3) (.ofNat 0, .ofNat 255))))))) = true := by decide +kernel
set_option maxRecDepth 1000000 in
theorem mp_o15_5b : ma_ok (ma_r16 (mp_B (ma_uv 3 (.ofNat 0)) (ma_r1 (ma_r4 (mp_op mp_W1 16 (mp_Ea mp_a (.ofNat 3, .ofNat 3) (.ofNat 0, .ofNat 255))))))) = true := by decide +kernel
