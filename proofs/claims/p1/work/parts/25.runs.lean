/-! The runs. -/
set_option maxRecDepth 1000000 in
theorem mp_z0 : mp_n (mp_W0 0) 1 = true := by decide +kernel
set_option maxRecDepth 1000000 in
theorem mp_y0 : ma_ok (ma_r10 (mp_op (mp_W0 0) 0 mp_E)) = true := by decide +kernel
set_option maxRecDepth 1000000 in
theorem mp_z1 : mp_n (mp_W0 1) 1 = true := by decide +kernel
set_option maxRecDepth 1000000 in
theorem mp_y1 : ma_ok (ma_r10 (mp_op (mp_W0 1) 0 mp_E)) = true := by decide +kernel
set_option maxRecDepth 1000000 in
theorem mp_z2 : mp_n (mp_W0 2) 1 = true := by decide +kernel
set_option maxRecDepth 1000000 in
theorem mp_y2 : ma_ok (ma_r10 (mp_op (mp_W0 2) 0 mp_E)) = true := by decide +kernel
set_option maxRecDepth 1000000 in
theorem mp_z3 : mp_n (mp_W0 3) 1 = true := by decide +kernel
set_option maxRecDepth 1000000 in
theorem mp_y3 : ma_ok (ma_r10 (mp_op (mp_W0 3) 0 mp_E)) = true := by decide +kernel
set_option maxRecDepth 1000000 in
theorem mp_z4 : mp_n (mp_W0 4) 1 = true := by decide +kernel
set_option maxRecDepth 1000000 in
theorem mp_y4 : ma_ok (ma_r10 (mp_op (mp_W0 4) 0 mp_E)) = true := by decide +kernel
set_option maxRecDepth 1000000 in
theorem mp_w : mp_n mp_W1 32 = true := by decide +kernel
