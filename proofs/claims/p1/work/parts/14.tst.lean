noncomputable def ma_ls2 (xs : List ma_V) : Nat → ma_A15 → ma_A15 := fun k t => (xs.foldl (fun (q : Nat × ma_A15) x => (q.1 + 1, ma_as15 q.2 q.1 x)) (k, t)).2
noncomputable def ma_row (xs : List ma_V) : ma_C := (18, .inr (xs.length, ma_ls2 xs 0 (ma_a15 (ma_ci 0))))
noncomputable def ma_rom (xs : List ma_V) : ma_H := (3, (ma_ci 1, 130), ma_p8 (ma_p8 (ma_p8 ma_n8 0 (ma_row [ma_ci 0, ma_ci 4])) 1 (ma_row [ma_ci 0, ma_ci 4, ma_ci 20, ma_ci 32, ma_ci 36])) 2 (ma_row xs))
noncomputable def ma_c0 (E : ma_E) (xs : List ma_V) : ma_S := (E, ma_rom xs, [(60, 0, 0, [some (ma_cr 2), none, none, none], [])])
noncomputable def ma_ok (w : ma_R) : Bool := match w with
  | some [] => true
  | _ => false
set_option maxRecDepth 1000000 in
theorem tst : ma_ok (ma_r16 (some [ma_c0 [] [ma_ci 11, ma_ci 1, ma_ci 7, ma_ci 0, ma_ci 0]])) = true := by decide +kernel
