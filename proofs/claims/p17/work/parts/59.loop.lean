/-! The law's loop. -/
theorem law_loop {xs : List Int32} (hx : xs.length ≤ 2560) : ∀ (nn : Nat) (d ac i : Int) (M : nM), (d = 2 ∨ d = 3) → Sf d ac M M → M 112 0 = d → RLQ d M → (0 ≤ i ∧ i ≤ (xs.length : Int)) → (xs.length : Int) - i < (nn : Int) → nW xs 60 0 18 [some (2, 2), some (2, 3), some (2, 112), some (0, i)] [] M (nPI fun z M1 => z = 1) := by
  intro nn
  induction nn with
  | zero => intro d ac i M hd hS hdm rl hi hn; omega
  | succ nn ih =>
    intro d ac i M hd hS hdm rl hi hn
    have key : ∀ (d2 ac2 : Int) (M2 : nM), i + 5 ≤ (xs.length : Int) → (d2 = 2 ∨ d2 = 3) → Sf d2 ac2 M2 M2 → M2 112 0 = d2 → RLQ d2 M2 → nW xs 60 0 991 [some (2, 2), some (2, 3), some (2, 112), some (0, i)] [] M2 (nPI fun z M1 => z = 1) := fun d2 ac2 M2 h5 hd2 hS2 hm2 rl2 => by
      refine n_iinc (L2 := [some (2, 2), some (2, 3), some (2, 112), some (0, i + 5)]) c_0_991 rfl rfl rfl ?_
      refine n_goto c_0_994 ?_
      exact ih d2 ac2 (i + 5) M2 hd2 hS2 hm2 rl2 (by omega) (by omega)
    rcases hd with rfl | rfl
    · exact law_step_2 hS hdm rl hx hi key
    · exact law_step_3 hS hdm rl hx hi key
