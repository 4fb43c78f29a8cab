/-! The runs of the kinds. -/
set_option maxRecDepth 1000000 in
theorem mp_o31 : ma_ok (ma_r16 (mp_op mp_W1 0 mp_E)) = true := by decide +kernel
set_option maxRecDepth 1000000 in
theorem mp_o30 : ma_ok (ma_r16 (mp_op mp_W1 1 mp_E)) = true := by decide +kernel
set_option maxRecDepth 1000000 in
theorem mp_o29 : ma_ok (ma_r16 (mp_op mp_W1 2 mp_E)) = true := by decide +kernel
set_option maxRecDepth 1000000 in
theorem mp_o16 : ma_ok (ma_r16 (mp_op mp_W1 15 mp_E)) = true := by decide +kernel
set_option maxRecDepth 1000000 in
theorem mp_o18 : ma_ok (ma_r16 (mp_op mp_W1 13 mp_E)) = true := by decide +kernel
set_option maxRecDepth 1000000 in
theorem mp_o21 : ma_ok (ma_r16 (mp_op mp_W1 10 mp_E)) = true := by decide +kernel
set_option maxRecDepth 1000000 in
theorem mp_o25 : ma_ok (ma_r16 (mp_op mp_W1 6 mp_E)) = true := by decide +kernel
set_option maxRecDepth 1000000 in
theorem mp_o0 : ma_ok (ma_r16 (mp_op mp_W1 31 mp_E)) = true := by decide +kernel
set_option maxRecDepth 1000000 in
theorem mp_o2 : ma_ok (ma_r16 (mp_op mp_W1 29 mp_E)) = true := by decide +kernel
set_option maxRecDepth 1000000 in
theorem mp_o22 : ma_ok (ma_r16 (mp_op mp_W1 9 mp_E)) = true := by decide +kernel
set_option maxRecDepth 1000000 in
theorem mp_o24 : ma_ok (ma_r16 (mp_op mp_W1 7 mp_E)) = true := by decide +kernel
set_option maxRecDepth 1000000 in
theorem mp_o26 : ma_ok (ma_r16 (mp_op mp_W1 5 mp_E)) = true := by decide +kernel
set_option maxRecDepth 1000000 in
theorem mp_o27 : ma_ok (ma_r16 (mp_op mp_W1 4 mp_E)) = true := by decide +kernel
set_option maxRecDepth 1000000 in
theorem mp_o28 : ma_ok (ma_r16 (mp_op mp_W1 3 mp_E)) = true := by decide +kernel
set_option maxRecDepth 1000000 in
theorem mp_o17 : ma_ok (ma_r16 (mp_op mp_W1 14 mp_E)) = true := by decide +kernel
set_option maxRecDepth 1000000 in
theorem mp_o19 : ma_ok (ma_r16 (mp_op mp_W1 12 mp_E)) = true := by decide +kernel
set_option maxRecDepth 1000000 in
theorem mp_o20 : ma_ok (ma_r16 (mp_op mp_W1 11 mp_E)) = true := by decide +kernel
set_option maxRecDepth 1000000 in
theorem mp_o10 : ma_ok (ma_r16 (mp_op mp_W1 21 mp_E)) = true := by decide +kernel
set_option maxRecDepth 1000000 in
theorem mp_o9 : ma_ok (ma_r16 (mp_op mp_W1 22 mp_E)) = true := by decide +kernel
set_option maxRecDepth 1000000 in
theorem mp_o7 : ma_ok (ma_r16 (mp_op mp_W1 24 mp_E)) = true := by decide +kernel
