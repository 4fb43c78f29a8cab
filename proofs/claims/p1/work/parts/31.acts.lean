/-! The runs of kind 14. -/
set_option maxRecDepth 1000000 in
theorem mp_o14_0 : ma_ok (ma_r16 (mp_op mp_W1 17 (mp_Ea mp_a (mp_lo, .ofNat 2) mp_a))) = true := by decide +kernel
set_option maxRecDepth 1000000 in
theorem mp_o14_1 : ma_ok (ma_r16 (mp_op mp_W1 17 (mp_Ea mp_a (.ofNat 4, mp_hi) mp_a))) = true := by decide +kernel
set_option maxRecDepth 1000000 in
theorem mp_o14_2a : ma_ok (ma_r16 (mp_A (ma_ci (.ofNat 256)) (ma_r0 (ma_r2 (ma_r3 (mp_op mp_W1 17 (mp_Ea mp_a (.ofNat 3, .ofNat 3) mp_a))))))) = true := by decide +kernel
set_option maxRecDepth 1000000 in
theorem mp_o14_2b : ma_ok (ma_r16 (mp_B (ma_ci (.ofNat 256)) (ma_r0 (ma_r2 (ma_r3 (mp_op mp_W1 17 (mp_Ea mp_a (.ofNat 3, .ofNat 3) mp_a))))))) = true := by decide +kernel
