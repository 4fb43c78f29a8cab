/-! What the methods tell. -/
set_option maxHeartbeats 4000000 in
theorem mquickX2_3_c {xs : List Int32} {e : Nat} {ac : Int} {M0 M : nM} {Ms : nM} (hS : Sf 3 ac M0 M) (hdm : M0 112 0 = 3) (hms : M = Ms) (hl2 : ∀ l : Int, 0 ≤ l → l < Ms 112 7 → 1 ≤ Ms 118 l) : ∀ nn : Nat, (∀ (x2 x3 : Int) (M : nM), Sf 3 ac M0 M → (0 ≤ x2 ∧ x2 ≤ 4095) → (0 ≤ x3 ∧ x3 ≤ 27) → (LMk x2 (Ms 112 11) (fun i => Ms 120 i)) → (FC 127 Ms M) → (∀ r : Int, 0 ≤ r → r < x3 → M 127 r = tbl (kT 2 3) r) → (27 - x3) * 1 + 1 < (nn : Int) → nW xs (e + 4) 200 142 [some (2, 112), none, some (0, x2), some (0, x3)] [] M (nPJ fun z M1 => Sf 3 ac M0 M1 ∧ (-9223372036854775808 ≤ z ∧ z ≤ 9223372036854775807) ∧ (mQ 2 3 z 27 Ms))) := by
  have hd : (3 : Int) = 2 ∨ (3 : Int) = 3 := by decide
  have hac := hS.2.2.2.2
  have pk : pn 3 (kV 2 3 - 3).toNat = 1 := by decide
  intro nn
  induction nn with
  | zero => intros; omega
  | succ nn ih =>
    intro x2 x3 M hS k2 k3 v0 v1 v2 hnn
    refine n_iload_n c_200_142 rfl (n_aload_n c_200_143 rfl (n_getV (bi := 0) c_200_144 sc_112.n rfl rfl rfl (t_dm hS hdm) ?_))
    intro z1 ez1 f2
    obtain rfl : z1 = 3 := by omega
    refine n_iconst c_200_147 (n_s2I c_200_148 rfl rfl rfl rfl (mpower3_3  hS ) ?_)
    intro z3 M4 hP5
    obtain ⟨eM, f5⟩ := hP5
    subst eM
    obtain rfl : z3 = 27 := by omega
    refine n_if2_ge c_200_151 (by omega) (by omega) ?_ ?_
    · intro h6
      refine n_aload_n c_200_199 rfl (n_iconst c_200_200 (n_iload_n c_200_201 rfl ?_))
      refine n_v2I c_200_202 rfl sc_112.n rfl rfl rfl rfl (mhandKeepsX_3 (m := 3) (k := x2) hS hdm (by omega) (by omega) (by exact fun l l0 l1 => by rw [v1 118 l (by omega)]; exact hl2 l l0 (by have y := v1 112 7 (by omega); omega))) ?_
      intro z7 M8 hP9
      obtain ⟨eM, f9, f9p0⟩ := hP9
      subst eM
      have la : ∀ r : Int, 0 ≤ r → r < 27 → M 127 r = fq 2 3 0 r := fun r h0 h1 => by rw [fq_su (by decide) (by omega)]; exact v2 r h0 (by omega)
      have hk : z7 = bb (KMm 3 (km 2) (fq 2 3 0) x2 Ms) := by rw [f9p0]; exact bb_c ((KMm.of (fun a i u => v1 a i (by omega))).trans (KMm_congr (by decide) (by decide) (fun i i0 i1 => la i i0 (by have y : pw 3 3 = 27 := (by decide); omega))))
      refine n_if0_eq c_200_205 (by omega) ?_ ?_
      · intro h10
        refine n_ldc2 (n := (-7)) c_200_215 rfl ?_
        exact n_rJ c_200_218 rfl ⟨hS, by omega, by exact ⟨x2, v0, Or.inl ⟨rfl, fun k k0 k1 g => by rw [show pn 3 (kV 2 3 - 3).toNat = 1 by decide] at k1; have e : k = 0 := (by omega); rw [e] at g; exact (bb_z (by omega)) g.2⟩⟩⟩
      · intro h11
        refine n_aload_n c_200_208 rfl (n_v0J c_200_209 rfl sc_112.n rfl rfl rfl rfl (mhandCodeX_3  hS hdm) ?_)
        intro z12 M13 hP14
        obtain ⟨eM, f14, f14p0⟩ := hP14
        subst eM
        refine n_goto c_200_212 ?_
        exact n_rJ c_200_218 rfl ⟨hS, by omega, by exact ⟨x2, v0, Or.inr ⟨0, by omega, by rw [show pn 3 (kV 2 3 - 3).toNat = 1 by decide]; omega, ⟨fun u => by omega, bb_n (by omega)⟩, fun j j0 j1 => by omega, by rw [f14p0]; exact cdN_congr 27 0 (fun i i0 i1 => la i i0 (by omega))⟩⟩⟩
    · intro h15
      refine n_aload_n c_200_154 rfl (n_getR c_200_155 sc_112.n rfl rfl rfl r_112_19 (n_iload_n c_200_158 rfl (n_aload_n c_200_159 rfl (n_iload_n c_200_160 rfl (n_iconst c_200_161 (n_iconst c_200_162 (n_v3I c_200_163 rfl sc_112.n rfl rfl rfl rfl (mdigitX_3 (r := x3) (k := 3) (j := 0) hS hdm (by omega) (by omega) (by omega) (by omega)) ?_)))))))
      intro z16 M17 hP18
      obtain ⟨eM, f18, f18p0⟩ := hP18
      subst eM
      have kza : z16 = x3 / (3 * 3) := by rw [f18p0]; exact (dgt3 (d := 3) (by decide) (by omega)).1
      refine n_aload_n c_200_166 rfl (n_getV (bi := 0) c_200_167 sc_112.n rfl rfl rfl (t_dm hS hdm) ?_)
      intro z19 ez19 f20
      obtain rfl : z19 = 3 := by omega
      refine n_iadd c_200_170 rfl (n_aload_n c_200_171 rfl (n_iload_n c_200_172 rfl (n_iconst c_200_173 (n_iconst c_200_174 (n_v3I c_200_175 rfl sc_112.n rfl rfl rfl rfl (mdigitX_3 (r := x3) (k := 3) (j := 1) hS hdm (by omega) (by omega) (by omega) (by omega)) ?_)))))
      intro z21 M22 hP23
      obtain ⟨eM, f23, f23p0⟩ := hP23
      subst eM
      have kzb : z21 = x3 / 3 % 3 := by rw [f23p0]; exact (dgt3 (d := 3) (by decide) (by omega)).2.1
      refine n_isub c_200_178 rfl (n_aload_n c_200_179 rfl (n_iload_n c_200_180 rfl (n_iconst c_200_181 (n_iconst c_200_182 (n_v3I c_200_183 rfl sc_112.n rfl rfl rfl rfl (mdigitX_3 (r := x3) (k := 3) (j := 2) hS hdm (by omega) (by omega) (by omega) (by omega)) ?_)))))
      intro z24 M25 hP26
      obtain ⟨eM, f26, f26p0⟩ := hP26
      subst eM
      have kzc : z24 = x3 % 3 := by rw [f26p0]; exact (dgt3 (d := 3) (by decide) (by omega)).2.2
      have su := su_i (d := 3) (r := x3) (by decide) (by omega) kza kzb kzc
      refine n_iadd c_200_186 rfl (n_aload_n c_200_187 rfl (n_getV (bi := 0) c_200_188 sc_112.n rfl rfl rfl (t_dm hS hdm) ?_))
      intro z27 ez27 f28
      obtain rfl : z27 = 3 := by omega
      refine n_iremV c_200_191 (by omega) (by omega) ?_
      intro z29 ez29 f30
      have ks : z29 = tbl (kT 2 3) x3 := by rw [ez29]; exact su.2.symm
      refine n_iastoreV hS c_200_192 sc_127.n rfl (by omega) (w_127 (by omega) (by omega)) ?_
      intro M31 eM31 hS31
      refine n_iinc (L2 := [some (2, 112), none, some (0, x2), some (0, (x3 + 1))]) c_200_193 rfl rfl rfl (n_goto c_200_196 (n_fg (le_s (le_n (le_s (le_s le_0)))) ?_))
      exact ih _ _ M31 hS31 (by omega) (by omega) (by exact v0) (by exact fun a i ha => by rw [eM31, nu_a ha]; exact v1 a i ha) (by exact fun r h0 h1 => by rw [eM31, nu_e]; by_cases y : r = x3; (rw [if_pos ⟨rfl, y⟩, y]; exact ks); (rw [if_neg (fun q => y q.2)]; exact v2 r h0 (by omega))) (by omega)
set_option maxHeartbeats 4000000 in
theorem mquickX2_3 {xs : List Int32} {e : Nat} {ac : Int} {M0 M : nM} {Ms : nM} (hS : Sf 3 ac M0 M) (hdm : M0 112 0 = 3) (hms : M = Ms) (hl2 : ∀ l : Int, 0 ≤ l → l < Ms 112 7 → 1 ≤ Ms 118 l) : nW xs (e + 4) 200 0 [some (2, 112), some (0, 2), none, none] [] M (nPJ fun z M1 => Sf 3 ac M0 M1 ∧ (-9223372036854775808 ≤ z ∧ z ≤ 9223372036854775807) ∧ (mQ 2 3 z 27 Ms)) := by
  have hd : (3 : Int) = 2 ∨ (3 : Int) = 3 := by decide
  have hac := hS.2.2.2.2
  have pk : pn 3 (kV 2 3 - 3).toNat = 1 := by decide
  refine n_aload_n c_200_0 rfl (n_v0I c_200_1 rfl sc_112.n rfl rfl rfl rfl (maskedX_3  hS hdm) ?_)
  intro z1 M2 hP3
  obtain ⟨eM, f3, f3p0⟩ := hP3
  subst eM
  have lm : LMk z1 (Ms 112 11) (fun i => Ms 120 i) := by have y := f3p0; rw [hms] at y; exact y
  refine n_istore_n (L2 := [some (2, 112), some (0, 2), some (0, z1), none]) c_200_4 rfl rfl (n_iload_n c_200_5 rfl ?_)
  refine n_sw c_200_6 (by omega) (by decide) ?_ ?_
  · intro h4
    refine n_pc (k2 := 219) rfl ?_
    exfalso; omega
  · intro h5 h5b
    refine ⟨_, rfl, by decide, ?_⟩
    refine n_pc (k2 := 140) rfl (n_iconst c_200_140 (n_istore_n (L2 := [some (2, 112), some (0, 2), some (0, z1), some (0, 0)]) c_200_141 rfl rfl (n_fg (le_s (le_n (le_s (le_s le_0)))) ?_)))
    exact (mquickX2_3_c hS hdm hms hl2 68) _ _ M hS (by omega) (by omega) (by exact lm) (by exact fun a i _ => by rw [hms]) (by exact fun r h0 h1 => by omega) (by omega)

set_option maxHeartbeats 4000000 in
theorem mquickXL_3 {xs : List Int32} {e : Nat} {ac : Int} {M0 M : nM} {k : Int} (hS : Sf 3 ac M0 M) (hdm : M0 112 0 = 3) (hk : -2147483648 ≤ k ∧ k ≤ -1) : nW xs (e + 4) 200 0 [some (2, 112), some (0, k), none, none] [] M (nPJ fun z M1 => M = M1 ∧ (-1 ≤ z ∧ z ≤ -1)) := by
  have hd : (3 : Int) = 2 ∨ (3 : Int) = 3 := by decide
  have hac := hS.2.2.2.2
  refine n_aload_n c_200_0 rfl (n_v0I c_200_1 rfl sc_112.n rfl rfl rfl rfl (masked_3  hS hdm) ?_)
  intro z1 M2 hP3
  obtain ⟨eM, f3⟩ := hP3
  subst eM
  refine n_istore_n (L2 := [some (2, 112), some (0, k), some (0, z1), none]) c_200_4 rfl rfl (n_iload_n c_200_5 rfl ?_)
  refine n_sw c_200_6 (by omega) (by decide) ?_ ?_
  · intro h4
    refine n_pc (k2 := 219) rfl (n_ldc2 (n := (-1)) c_200_219 rfl ?_)
    exact n_rJ c_200_222 rfl ⟨rfl, by omega⟩
  · intro h5 h5b
    rcases (show k = 0 ∨ k = 1 ∨ k = 2 by omega) with h5c | h5c | h5c
    · refine ⟨_, by rw [h5c]; rfl, by decide, ?_⟩
      refine n_pc (k2 := 32) rfl ?_
      exfalso; omega
    · refine ⟨_, by rw [h5c]; rfl, by decide, ?_⟩
      refine n_pc (k2 := 90) rfl ?_
      exfalso; omega
    · refine ⟨_, by rw [h5c]; rfl, by decide, ?_⟩
      refine n_pc (k2 := 140) rfl ?_
      exfalso; omega

set_option maxHeartbeats 4000000 in
theorem mquickXH_3 {xs : List Int32} {e : Nat} {ac : Int} {M0 M : nM} {k : Int} (hS : Sf 3 ac M0 M) (hdm : M0 112 0 = 3) (hk : 3 ≤ k ∧ k ≤ 2147483647) : nW xs (e + 4) 200 0 [some (2, 112), some (0, k), none, none] [] M (nPJ fun z M1 => M = M1 ∧ (-1 ≤ z ∧ z ≤ -1)) := by
  have hd : (3 : Int) = 2 ∨ (3 : Int) = 3 := by decide
  have hac := hS.2.2.2.2
  refine n_aload_n c_200_0 rfl (n_v0I c_200_1 rfl sc_112.n rfl rfl rfl rfl (masked_3  hS hdm) ?_)
  intro z1 M2 hP3
  obtain ⟨eM, f3⟩ := hP3
  subst eM
  refine n_istore_n (L2 := [some (2, 112), some (0, k), some (0, z1), none]) c_200_4 rfl rfl (n_iload_n c_200_5 rfl ?_)
  refine n_sw c_200_6 (by omega) (by decide) ?_ ?_
  · intro h4
    refine n_pc (k2 := 219) rfl (n_ldc2 (n := (-1)) c_200_219 rfl ?_)
    exact n_rJ c_200_222 rfl ⟨rfl, by omega⟩
  · intro h5 h5b
    rcases (show k = 0 ∨ k = 1 ∨ k = 2 by omega) with h5c | h5c | h5c
    · refine ⟨_, by rw [h5c]; rfl, by decide, ?_⟩
      refine n_pc (k2 := 32) rfl ?_
      exfalso; omega
    · refine ⟨_, by rw [h5c]; rfl, by decide, ?_⟩
      refine n_pc (k2 := 90) rfl ?_
      exfalso; omega
    · refine ⟨_, by rw [h5c]; rfl, by decide, ?_⟩
      refine n_pc (k2 := 140) rfl ?_
      exfalso; omega
