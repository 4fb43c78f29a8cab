/-! The claim. -/
theorem M0_RL : RL 2 M0 := by
  have e11 : ∀ s : Int, 0 ≤ s → s < 8 → M0 11 s = -1 ∧ M0 113 s = 0 ∧ M0 10 s = M0 114 s := fun s a b => by
    rcases (show s = 0 ∨ s = 1 ∨ s = 2 ∨ s = 3 ∨ s = 4 ∨ s = 5 ∨ s = 6 ∨ s = 7 by omega) with rfl | rfl | rfl | rfl | rfl | rfl | rfl | rfl <;> decide
  have e14 : M0 3 14 = 0 := by decide
  have e15 : M0 3 15 = 0 := by decide
  refine ⟨fun s h0 h1 => ?_, ⟨by decide, by decide, fun a h0 h1 => by omega⟩, ⟨by decide, fun l h0 h1 => by omega⟩, by decide, by decide⟩
  obtain ⟨g1, g2, g3⟩ := e11 s h0 h1
  exact ⟨by omega, g3, fun i q0 q1 => by omega⟩
theorem M0_RLX : RLX 2 M0 := ⟨M0_RL, fun l h0 h1 => by have e : M0 3 15 = 0 := (by decide); omega⟩
theorem M0_RLQ : RLQ 2 M0 := ⟨M0_RLX, fun k hk u => by have e : M0 3 17 = 0 := (by decide); exfalso; omega, fun k u q => by have e : M0 112 20 = -1 := (by decide); exfalso; omega⟩
theorem mj_claim : mj_Claim 2560 := fun xs hx => by
  have hW := law_loop (xs := xs) hx (xs.length + 1) 2 0 0 M0 (Or.inl rfl) M0_Sf (by decide) M0_RLQ (by omega) (by omega)
  have h : mo_Gs (st_X xs) (ma_r1 (ma_r2 (ma_r3 (ma_r6 (ma_r9 (ma_r10 (some [st_c0]))))))) := st_ok hx st_run hW
  have h0 : mo_Gs (st_X xs) (some [st_c0]) := (ma_r10_ok (ma_r9_ok (ma_r6_ok (ma_r3_ok (ma_r2_ok (ma_r1_ok h))))))
  exact st_start (h0 st_c0 List.mem_cons_self)
