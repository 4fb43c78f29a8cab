noncomputable def ma_rom (xs : List ma_V) : ma_H := (3, ma_put 8 (ma_put 8 (ma_put 8 (ma_nil 8) 0 (18, [ma_ci 0, ma_ci 4])) 1 (18, [ma_ci 0, ma_ci 4, ma_ci 20, ma_ci 32, ma_ci 36])) 2 (18, xs))
noncomputable def ma_c0 (E : ma_E) (xs : List ma_V) : ma_S := (E, ma_rom xs, [(60, 0, 0, [some (ma_cr 2), none, none, none], [])])
noncomputable def ma_ok (w : ma_R) : Bool := match w with
  | some [] => true
  | _ => false
set_option maxRecDepth 1000000 in
theorem tst : ma_ok (ma_r14 (some [ma_c0 [] []])) = true := by decide +kernel
