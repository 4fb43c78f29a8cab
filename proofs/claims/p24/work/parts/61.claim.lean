/-! The claim. -/
theorem mj_claim : mj_Claim 2560 := fun xs hx => by
  have hW := law_loop (xs := xs) hx (xs.length + 1) 2 0 0 M0 (Or.inl rfl) M0_Sf (by decide) (by omega) (by omega)
  have h : mo_Gs (st_X xs) (ma_r1 (ma_r2 (ma_r3 (ma_r6 (ma_r9 (ma_r10 (some [st_c0]))))))) := st_ok hx st_run hW
  have h0 : mo_Gs (st_X xs) (some [st_c0]) := (ma_r10_ok (ma_r9_ok (ma_r6_ok (ma_r3_ok (ma_r2_ok (ma_r1_ok h))))))
  exact st_start (h0 st_c0 List.mem_cons_self)
