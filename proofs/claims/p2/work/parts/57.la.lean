/-! The law's own instructions; methods by cases. -/
section
variable {xs : List Int32} {d j k : Nat} {L : nL} {st : List nX} {M : nM} {Q : Option nX → nM → Prop} {nx a b c : Nat}
theorem n_pop {x : Int} (hc : mj_code j k = some (.pop, nx, a, b, c)) (h : nW xs d j nx L st M Q) : nW xs d j k L ((0, x) :: st) M Q := n_gs hc (fun _ _ _ _ => rfl) h
theorem n_pop2 {x : Int} (hc : mj_code j k = some (.pop2, nx, a, b, c)) (h : nW xs d j nx L st M Q) : nW xs d j k L ((1, x) :: st) M Q := n_gs hc (fun _ _ _ _ => rfl) h
end
set_option maxHeartbeats 4000000 in
theorem actA_2 {xs : List Int32} {e : Nat} {ac : Int} {M : nM} {k s gd : Int} (hS : Sf 2 ac M M) (hk : -2147483648 ≤ k ∧ k ≤ 2147483647) (hs : -2147483648 ≤ s ∧ s ≤ 2147483647) (hgd : M 112 0 = gd) : nW xs (e + 2) 97 0 [some (2, 3), some (0, k), some (0, s), none, none, none] [] M (nPI fun z M1 => (∃ ac2, Sf 2 ac2 M1 M1) ∧ (-2147483648 ≤ z ∧ z ≤ 2147483647) ∧ (M1 112 0 = gd)) := by
  rcases (show (-2147483648 ≤ k ∧ k ≤ 0) ∨ k = 1 ∨ k = 2 ∨ k = 3 ∨ (4 ≤ k ∧ k ≤ 2147483647) by omega) with hx | rfl | rfl | rfl | hx
  · exact n_post (actL_2 hS (by omega) (by omega)) (fun w M1 h => by obtain ⟨z, rfl, rfl, h2⟩ := h; exact ⟨z, rfl, ⟨_, hS⟩, by omega, hgd⟩)
  · exact act1_2 hS (by omega) hgd
  · exact act2_2 hS (by omega) hgd
  · exact act3_2 hS (by omega) hgd
  · exact n_post (actH_2 hS (by omega) (by omega)) (fun w M1 h => by obtain ⟨z, rfl, rfl, h2⟩ := h; exact ⟨z, rfl, ⟨_, hS⟩, by omega, hgd⟩)

set_option maxHeartbeats 4000000 in
theorem mlawA_2 {xs : List Int32} {e : Nat} {ac : Int} {M : nM} {k s gd : Int} (hS : Sf 2 ac M M) (hdm : M 112 0 = 2) (hk : -2147483648 ≤ k ∧ k ≤ 2147483647) (hs : -2147483648 ≤ s ∧ s ≤ 2147483647) (hgd : M 112 0 = gd) : nW xs (e + 1) 149 0 [some (2, 112), some (0, k), some (0, s), none, none, none, none, none, none, none, none, none] [] M (nPI fun z M1 => Sf 2 ac M1 M1 ∧ (-2147483648 ≤ z ∧ z ≤ 2147483647) ∧ (M1 112 0 = gd)) := by
  rcases (show (-2147483648 ≤ k ∧ k ≤ 0) ∨ k = 1 ∨ k = 2 ∨ k = 3 ∨ (4 ≤ k ∧ k ≤ 2147483647) by omega) with hx | rfl | rfl | rfl | hx
  · exact n_post (mlawL_2 hS hdm (by omega) (by omega)) (fun w M1 h => by obtain ⟨z, rfl, rfl, h2⟩ := h; exact ⟨z, rfl, hS, by omega, hgd⟩)
  · exact mlaw1_2 hS hdm (by omega) hgd
  · exact mlaw2_2 hS hdm (by omega) hgd
  · exact mlaw3_2 hS hdm (by omega) hgd
  · exact n_post (mlawH_2 hS hdm (by omega) (by omega)) (fun w M1 h => by obtain ⟨z, rfl, rfl, h2⟩ := h; exact ⟨z, rfl, hS, by omega, hgd⟩)
set_option maxHeartbeats 4000000 in
theorem actA_3 {xs : List Int32} {e : Nat} {ac : Int} {M : nM} {k s gd : Int} (hS : Sf 3 ac M M) (hk : -2147483648 ≤ k ∧ k ≤ 2147483647) (hs : -2147483648 ≤ s ∧ s ≤ 2147483647) (hgd : M 112 0 = gd) : nW xs (e + 2) 97 0 [some (2, 3), some (0, k), some (0, s), none, none, none] [] M (nPI fun z M1 => (∃ ac2, Sf 3 ac2 M1 M1) ∧ (-2147483648 ≤ z ∧ z ≤ 2147483647) ∧ (M1 112 0 = gd)) := by
  rcases (show (-2147483648 ≤ k ∧ k ≤ 0) ∨ k = 1 ∨ k = 2 ∨ k = 3 ∨ (4 ≤ k ∧ k ≤ 2147483647) by omega) with hx | rfl | rfl | rfl | hx
  · exact n_post (actL_3 hS (by omega) (by omega)) (fun w M1 h => by obtain ⟨z, rfl, rfl, h2⟩ := h; exact ⟨z, rfl, ⟨_, hS⟩, by omega, hgd⟩)
  · exact act1_3 hS (by omega) hgd
  · exact act2_3 hS (by omega) hgd
  · exact act3_3 hS (by omega) hgd
  · exact n_post (actH_3 hS (by omega) (by omega)) (fun w M1 h => by obtain ⟨z, rfl, rfl, h2⟩ := h; exact ⟨z, rfl, ⟨_, hS⟩, by omega, hgd⟩)

set_option maxHeartbeats 4000000 in
theorem mlawA_3 {xs : List Int32} {e : Nat} {ac : Int} {M : nM} {k s gd : Int} (hS : Sf 3 ac M M) (hdm : M 112 0 = 3) (hk : -2147483648 ≤ k ∧ k ≤ 2147483647) (hs : -2147483648 ≤ s ∧ s ≤ 2147483647) (hgd : M 112 0 = gd) : nW xs (e + 1) 149 0 [some (2, 112), some (0, k), some (0, s), none, none, none, none, none, none, none, none, none] [] M (nPI fun z M1 => Sf 3 ac M1 M1 ∧ (-2147483648 ≤ z ∧ z ≤ 2147483647) ∧ (M1 112 0 = gd)) := by
  rcases (show (-2147483648 ≤ k ∧ k ≤ 0) ∨ k = 1 ∨ k = 2 ∨ k = 3 ∨ (4 ≤ k ∧ k ≤ 2147483647) by omega) with hx | rfl | rfl | rfl | hx
  · exact n_post (mlawL_3 hS hdm (by omega) (by omega)) (fun w M1 h => by obtain ⟨z, rfl, rfl, h2⟩ := h; exact ⟨z, rfl, hS, by omega, hgd⟩)
  · exact mlaw1_3 hS hdm (by omega) hgd
  · exact mlaw2_3 hS hdm (by omega) hgd
  · exact mlaw3_3 hS hdm (by omega) hgd
  · exact n_post (mlawH_3 hS hdm (by omega) (by omega)) (fun w M1 h => by obtain ⟨z, rfl, rfl, h2⟩ := h; exact ⟨z, rfl, hS, by omega, hgd⟩)
