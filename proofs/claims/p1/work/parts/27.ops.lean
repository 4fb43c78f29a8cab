/-! The runs of the kinds. -/
set_option maxRecDepth 1000000 in
theorem mp_o1 : ma_ok (ma_r16 (mp_op mp_W1 30 mp_E)) = true := by decide +kernel
set_option maxRecDepth 1000000 in
theorem mp_o3 : ma_ok (ma_r16 (mp_op mp_W1 28 mp_E)) = true := by decide +kernel
set_option maxRecDepth 1000000 in
theorem mp_o4 : ma_ok (ma_r16 (mp_op mp_W1 27 mp_E)) = true := by decide +kernel
set_option maxRecDepth 1000000 in
theorem mp_o5 : ma_ok (ma_r16 (mp_op mp_W1 26 mp_E)) = true := by decide +kernel
set_option maxRecDepth 1000000 in
theorem mp_o6 : ma_ok (ma_r16 (mp_op mp_W1 25 mp_E)) = true := by decide +kernel
set_option maxRecDepth 1000000 in
theorem mp_o8 : ma_ok (ma_r16 (mp_op mp_W1 23 mp_E)) = true := by decide +kernel
set_option maxRecDepth 1000000 in
theorem mp_o23 : ma_ok (ma_r16 (mp_op mp_W1 8 mp_E)) = true := by decide +kernel
set_option maxRecDepth 1000000 in
theorem mp_o11 : ma_ok (ma_r16 (mp_op mp_W1 20 mp_E)) = true := by decide +kernel
