/-! Rules that name what is read; ranges of what the bit operations give. -/
theorem n_div_le {x y : Int} (hy : 0 < y) : y * (x / y) ≤ x := by
  have h1 := Int.emod_add_mul_ediv x y
  have h2 := Int.emod_nonneg x (b := y) (by omega)
  omega
theorem n_mod_le {x y : Int} (hx : 0 ≤ x) (hy : 0 < y) : x % y ≤ x := by
  have h1 := Int.emod_add_mul_ediv x y
  have h2 := Int.mul_nonneg (Int.le_of_lt hy) (Int.ediv_nonneg hx (Int.le_of_lt hy))
  omega
section
variable {xs : List Int32} {d j k : Nat} {L L2 : nL} {st st2 : List nX} {M M0 : nM} {Q : Option nX → nM → Prop} {nx a b c : Nat} {dd ac : Int}
theorem n_getV {i} {r lo hi bi : Int} {n : Nat} (hc : mj_code j k = some (.getfield i, nx, a, b, c)) (hC : nC M r a n) (hb : Nat.blt b n = true) (hk : nkd a b = 0) (hbi : (b : Int) = bi) (ht : lo ≤ M r bi ∧ M r bi ≤ hi) (h : ∀ z, z = M r bi → lo ≤ z ∧ z ≤ hi → nW xs d j nx L ((0, z) :: st) M Q) : nW xs d j k L ((2, r) :: st) M Q := n_getI hc hC hb hk (by rw [hbi]; exact h _ rfl ht)
theorem n_getR {i} {r z bi : Int} {n : Nat} (hc : mj_code j k = some (.getfield i, nx, a, b, c)) (hC : nC M r a n) (hb : Nat.blt b n = true) (hk : nkd a b = 2) (hbi : (b : Int) = bi) (hv : nsr r bi = some z) (h : nW xs d j nx L ((2, z) :: st) M Q) : nW xs d j k L ((2, r) :: st) M Q := n_getr hc hC hb hk (by rw [hbi]; exact hv) h
theorem n_getD {i} {r bi : Int} {n : Nat} (hc : mj_code j k = some (.getfield i, nx, a, b, c)) (hC : nC M r a n) (hb : Nat.blt b n = true) (hk : nkd a b = 2) (hbi : (b : Int) = bi) (hv : nsr r bi = none) (h : nW xs d j nx L ((2, M r bi) :: st) M Q) : nW xs d j k L ((2, r) :: st) M Q := n_getd hc hC hb hk (by rw [hbi]; exact hv) (by rw [hbi]; exact h)
theorem n_ialoadV {r i l0 u0 : Int} {cl n : Nat} (hc : mj_code j k = some (.iaload, nx, a, b, c)) (hC : nC M r cl n) (hcl : mj_isI cl = true) (hk : nkd cl i.toNat = 0) (hn : Nat.ble n 1000000 = true) (hi : 0 ≤ i ∧ i < (n : Int)) (ht : l0 ≤ M r i ∧ M r i ≤ u0) (h : ∀ z, z = M r i → l0 ≤ z ∧ z ≤ u0 → nW xs d j nx L ((0, z) :: st) M Q) : nW xs d j k L ((0, i) :: (2, r) :: st) M Q := n_iaload hc hC hcl hk hn hi (h _ rfl ht)
theorem n_laloadV {r i l0 u0 : Int} {cl n : Nat} (hc : mj_code j k = some (.laload, nx, a, b, c)) (hC : nC M r cl n) (hcl : Nat.beq cl 14 = true) (hk : nkd cl i.toNat = 1) (hn : Nat.ble n 1000000 = true) (hi : 0 ≤ i ∧ i < (n : Int)) (ht : l0 ≤ M r i ∧ M r i ≤ u0) (h : ∀ z, z = M r i → l0 ≤ z ∧ z ≤ u0 → nW xs d j nx L ((1, z) :: st) M Q) : nW xs d j k L ((0, i) :: (2, r) :: st) M Q := n_laload hc hC hcl hk hn hi (h _ rfl ht)
theorem n_iastoreV {r i z : Int} {n : Nat} (hS : Sf dd ac M0 M) (hc : mj_code j k = some (.iastore, nx, a, b, c)) (hC : nC M r 13 n) (hn : Nat.ble n 1000000 = true) (hi : 0 ≤ i ∧ i < (n : Int)) (hw : Wok dd ac r i z) (h : ∀ M2, M2 = nu M r i z → Sf dd ac M0 M2 → nW xs d j nx L st M2 Q) : nW xs d j k L ((0, z) :: (0, i) :: (2, r) :: st) M Q := n_iastore hc hC hn hi (h _ rfl (hS.u hw))
theorem n_lastoreV {r i z : Int} {n : Nat} (hS : Sf dd ac M0 M) (hc : mj_code j k = some (.lastore, nx, a, b, c)) (hC : nC M r 14 n) (hn : Nat.ble n 1000000 = true) (hi : 0 ≤ i ∧ i < (n : Int)) (hw : Wok dd ac r i z) (h : ∀ M2, M2 = nu M r i z → Sf dd ac M0 M2 → nW xs d j nx L st M2 Q) : nW xs d j k L ((1, z) :: (0, i) :: (2, r) :: st) M Q := n_lastore hc hC hn hi (h _ rfl (hS.u hw))
theorem n_putV {i} {r z bi : Int} {n : Nat} (hS : Sf dd ac M0 M) (hc : mj_code j k = some (.putfield i, nx, a, b, c)) (hC : nC M r a n) (hb : Nat.blt b n = true) (hk : nkd a b = 0) (ht : mj_ty a b = .int) (hbi : (b : Int) = bi) (hw : Wok dd ac r bi z) (h : ∀ M2, M2 = nu M r bi z → Sf dd ac M0 M2 → nW xs d j nx L st M2 Q) : nW xs d j k L ((0, z) :: (2, r) :: st) M Q := n_putI hc hC hb hk ht (by rw [hbi]; exact h _ rfl (hS.u hw))
theorem n_putZV {i} {r z bi : Int} {n : Nat} (hS : Sf dd ac M0 M) (hc : mj_code j k = some (.putfield i, nx, a, b, c)) (hC : nC M r a n) (hb : Nat.blt b n = true) (hk : nkd a b = 0) (ht : mj_ty a b = .boolean) (hz : z = 0 ∨ z = 1) (hbi : (b : Int) = bi) (hw : Wok dd ac r bi z) (h : ∀ M2, M2 = nu M r bi z → Sf dd ac M0 M2 → nW xs d j nx L st M2 Q) : nW xs d j k L ((0, z) :: (2, r) :: st) M Q := n_putZ hc hC hb hk ht hz (by rw [hbi]; exact h _ rfl (hS.u hw))
theorem n_iastoreM {r i z : Int} {n : Nat} (hS : Sf dd ac M M) (hc : mj_code j k = some (.iastore, nx, a, b, c)) (hC : nC M r 13 n) (hn : Nat.ble n 1000000 = true) (hi : 0 ≤ i ∧ i < (n : Int)) (hw : Mok dd ac r i z) (h : ∀ M2, M2 = nu M r i z → Sf dd ac M2 M2 → nW xs d j nx L st M2 Q) : nW xs d j k L ((0, z) :: (0, i) :: (2, r) :: st) M Q := n_iastore hc hC hn hi (h _ rfl (hS.m hw))
theorem n_lastoreM {r i z : Int} {n : Nat} (hS : Sf dd ac M M) (hc : mj_code j k = some (.lastore, nx, a, b, c)) (hC : nC M r 14 n) (hn : Nat.ble n 1000000 = true) (hi : 0 ≤ i ∧ i < (n : Int)) (hw : Mok dd ac r i z) (h : ∀ M2, M2 = nu M r i z → Sf dd ac M2 M2 → nW xs d j nx L st M2 Q) : nW xs d j k L ((1, z) :: (0, i) :: (2, r) :: st) M Q := n_lastore hc hC hn hi (h _ rfl (hS.m hw))
theorem n_putM {i} {r z bi : Int} {n : Nat} (hS : Sf dd ac M M) (hc : mj_code j k = some (.putfield i, nx, a, b, c)) (hC : nC M r a n) (hb : Nat.blt b n = true) (hk : nkd a b = 0) (ht : mj_ty a b = .int) (hbi : (b : Int) = bi) (hw : Mok dd ac r bi z) (h : ∀ M2, M2 = nu M r bi z → Sf dd ac M2 M2 → nW xs d j nx L st M2 Q) : nW xs d j k L ((0, z) :: (2, r) :: st) M Q := n_putI hc hC hb hk ht (by rw [hbi]; exact h _ rfl (hS.m hw))
theorem n_putZM {i} {r z bi : Int} {n : Nat} (hS : Sf dd ac M M) (hc : mj_code j k = some (.putfield i, nx, a, b, c)) (hC : nC M r a n) (hb : Nat.blt b n = true) (hk : nkd a b = 0) (ht : mj_ty a b = .boolean) (hz : z = 0 ∨ z = 1) (hbi : (b : Int) = bi) (hw : Mok dd ac r bi z) (h : ∀ M2, M2 = nu M r bi z → Sf dd ac M2 M2 → nW xs d j nx L st M2 Q) : nW xs d j k L ((0, z) :: (2, r) :: st) M Q := n_putZ hc hC hb hk ht hz (by rw [hbi]; exact h _ rfl (hS.m hw))
theorem n_idivV {x y : Int} (hc : mj_code j k = some (.idiv, nx, a, b, c)) (hx : 0 ≤ x ∧ x ≤ 2147483647) (hy : 0 < y ∧ y ≤ 2147483647) (h : ∀ z, z = x / y → 0 ≤ z ∧ z ≤ x ∧ y * z ≤ x → nW xs d j nx L ((0, z) :: st) M Q) : nW xs d j k L ((0, y) :: (0, x) :: st) M Q := n_idiv hc hx hy rfl (h _ rfl ⟨Int.ediv_nonneg hx.1 (by omega), Int.ediv_le_self _ hx.1, n_div_le hy.1⟩)
theorem n_iremV {x y : Int} (hc : mj_code j k = some (.irem, nx, a, b, c)) (hx : 0 ≤ x ∧ x ≤ 2147483647) (hy : 0 < y ∧ y ≤ 2147483647) (h : ∀ z, z = x % y → 0 ≤ z ∧ z < y ∧ z ≤ x → nW xs d j nx L ((0, z) :: st) M Q) : nW xs d j k L ((0, y) :: (0, x) :: st) M Q := n_irem hc hx hy rfl (h _ rfl ⟨Int.emod_nonneg _ (by omega), Int.emod_lt_of_pos _ hy.1, n_mod_le hx.1 hy.1⟩)
theorem n_ldivV {x y : Int} (hc : mj_code j k = some (.ldiv, nx, a, b, c)) (hx : 0 ≤ x ∧ x ≤ 9223372036854775807) (hy : 0 < y ∧ y ≤ 9223372036854775807) (h : ∀ z, z = x / y → 0 ≤ z ∧ z ≤ x ∧ y * z ≤ x → nW xs d j nx L ((1, z) :: st) M Q) : nW xs d j k L ((1, y) :: (1, x) :: st) M Q := n_ldiv hc hx hy rfl (h _ rfl ⟨Int.ediv_nonneg hx.1 (by omega), Int.ediv_le_self _ hx.1, n_div_le hy.1⟩)
theorem n_lremV {x y : Int} (hc : mj_code j k = some (.lrem, nx, a, b, c)) (hx : 0 ≤ x ∧ x ≤ 9223372036854775807) (hy : 0 < y ∧ y ≤ 9223372036854775807) (h : ∀ z, z = x % y → 0 ≤ z ∧ z < y ∧ z ≤ x → nW xs d j nx L ((1, z) :: st) M Q) : nW xs d j k L ((1, y) :: (1, x) :: st) M Q := n_lrem hc hx hy rfl (h _ rfl ⟨Int.emod_nonneg _ (by omega), Int.emod_lt_of_pos _ hy.1, n_mod_le hx.1 hy.1⟩)
theorem n_iincW {i} {n z : Int} (hc : mj_code j k = some (.iinc i n, nx, a, b, c)) (hl : L[(i : Nat)]? = some (some (0, z))) (hL : ns1 L i (0, n_wr (z + n)) = L2) (h : nW xs d j nx L2 st M Q) : nW xs d j k L st M Q := n_go hc (fun hp LL _ hLL => by
  subst hL
  refine ⟨mj_s1 LL i (nv (0, n_wr (z + n))), ?_, hLL.s1 (List.getElem?_eq_some_iff.mp hl).1 _⟩
  show (match LL[(i : Nat)]? with
    | some (some (.int x)) => mj_go nx (mj_s1 LL i (.int (x + Int32.ofInt n))) (nvS st)
    | _ => none) = _
  rw [hLL.2 _ _ hl]
  show mj_go nx (mj_s1 LL i (.int (Int32.ofInt z + Int32.ofInt n))) (nvS st) = some (.inl (nx, mj_s1 LL i (.int (Int32.ofInt (n_wr (z + n)))), nvS st))
  unfold n_wr
  rw [Int32.ofInt_toInt, Int32.ofInt_add]; rfl) h
theorem n_pc {k2 : Nat} (hk : k2 = k) (h : nW xs d j k2 L st M Q) : nW xs d j k L st M Q := by subst hk; exact h
end
theorem n_bv {z : Int} (h : 0 ≤ z ∧ z ≤ 2147483647) : (Int32.ofInt z).toBitVec.toNat = z.toNat := by
  show (BitVec.ofInt 32 z).toNat = _
  rw [BitVec.toNat_ofInt]
  omega
theorem n_bvi {v : BitVec 32} {n : Nat} (h : v.toNat ≤ n) (hn : n ≤ 2147483647) : 0 ≤ v.toInt ∧ v.toInt ≤ (n : Int) := by
  rw [BitVec.toInt_eq_toNat_of_lt (by omega)]
  omega
theorem n_pow {a b : Nat} (h : a ≤ b) : (2 : Int) ^ a ≤ 2 ^ b := by
  have := Nat.pow_le_pow_right (n := 2) (by omega) h
  exact_mod_cast this
theorem n_and_y {x y : Int} (hy : 0 ≤ y ∧ y ≤ 2147483647) : 0 ≤ n_and x y ∧ n_and x y ≤ y := by
  have e := n_bv hy
  have h := n_bvi (v := (Int32.ofInt x).toBitVec &&& (Int32.ofInt y).toBitVec) (n := y.toNat) (by rw [BitVec.toNat_and, e]; exact Nat.and_le_right) (by omega)
  have e2 : n_and x y = ((Int32.ofInt x).toBitVec &&& (Int32.ofInt y).toBitVec).toInt := rfl
  rw [e2]
  omega
theorem n_and_x {x y : Int} (hx : 0 ≤ x ∧ x ≤ 2147483647) : 0 ≤ n_and x y ∧ n_and x y ≤ x := by
  have e := n_bv hx
  have h := n_bvi (v := (Int32.ofInt x).toBitVec &&& (Int32.ofInt y).toBitVec) (n := x.toNat) (by rw [BitVec.toNat_and, e]; exact Nat.and_le_left) (by omega)
  have e2 : n_and x y = ((Int32.ofInt x).toBitVec &&& (Int32.ofInt y).toBitVec).toInt := rfl
  rw [e2]
  omega
theorem n_01 {x : Int} (h : 0 ≤ x ∧ x ≤ 1) : x = 0 ∨ x = 1 := by omega
theorem n_or_1 {x y : Int} (hx : 0 ≤ x ∧ x ≤ 1) (hy : 0 ≤ y ∧ y ≤ 1) : 0 ≤ n_or x y ∧ n_or x y ≤ 1 := by
  rcases n_01 hx with rfl | rfl <;> rcases n_01 hy with rfl | rfl <;> decide
theorem n_or_k {x y : Int} {n : Nat} (hn : n ≤ 31) (hx : 0 ≤ x ∧ x < 2 ^ n) (hy : 0 ≤ y ∧ y < 2 ^ n) : 0 ≤ n_or x y ∧ n_or x y < 2 ^ n := by
  have hp : (2 : Int) ^ n ≤ 2 ^ 31 := n_pow hn
  have e1 := n_bv (z := x) (by omega)
  have e2 := n_bv (z := y) (by omega)
  have hx2 : x.toNat < 2 ^ n := by
    have : ((x.toNat : Nat) : Int) < ((2 ^ n : Nat) : Int) := by rw [Int.toNat_of_nonneg hx.1]; exact_mod_cast hx.2
    exact_mod_cast this
  have hy2 : y.toNat < 2 ^ n := by
    have : ((y.toNat : Nat) : Int) < ((2 ^ n : Nat) : Int) := by rw [Int.toNat_of_nonneg hy.1]; exact_mod_cast hy.2
    exact_mod_cast this
  have h3 : ((Int32.ofInt x).toBitVec ||| (Int32.ofInt y).toBitVec).toNat < 2 ^ n := by
    rw [BitVec.toNat_or, e1, e2]
    exact Nat.or_lt_two_pow hx2 hy2
  have h4 : 2 ^ n ≤ 2 ^ 31 := Nat.pow_le_pow_right (by omega) hn
  have h := n_bvi (v := (Int32.ofInt x).toBitVec ||| (Int32.ofInt y).toBitVec) (n := 2 ^ n - 1) (by omega) (by omega)
  have e3 : n_or x y = ((Int32.ofInt x).toBitVec ||| (Int32.ofInt y).toBitVec).toInt := rfl
  rw [e3]
  refine ⟨h.1, ?_⟩
  have h5 : ((2 ^ n - 1 : Nat) : Int) < (2 : Int) ^ n := by
    have : 2 ^ n - 1 < 2 ^ n := Nat.sub_lt (Nat.two_pow_pos n) (by omega)
    exact_mod_cast this
  omega
theorem n_xor_1 {x y : Int} (hx : 0 ≤ x ∧ x ≤ 1) (hy : 0 ≤ y ∧ y ≤ 1) : 0 ≤ n_xor x y ∧ n_xor x y ≤ 1 := by
  rcases n_01 hx with rfl | rfl <;> rcases n_01 hy with rfl | rfl <;> decide
theorem n_shl_a : ∀ n : Nat, n ≤ 30 → n_shl 1 n = 2 ^ n := by decide +kernel
theorem n_lshl_a : ∀ n : Nat, n ≤ 62 → n_lshl 1 n = 2 ^ n := by decide +kernel
theorem n_shl_1 {y : Int} {a b : Nat} (hb : b ≤ 30) (h : (a : Int) ≤ y ∧ y ≤ (b : Int)) : (2 : Int) ^ a ≤ n_shl 1 y ∧ n_shl 1 y ≤ 2 ^ b := by
  obtain ⟨n, rfl⟩ : ∃ n : Nat, y = n := ⟨y.toNat, by omega⟩
  rw [n_shl_a n (by omega)]
  exact ⟨n_pow (by omega), n_pow (by omega)⟩
theorem n_lshl_1 {y : Int} {a b : Nat} (hb : b ≤ 62) (h : (a : Int) ≤ y ∧ y ≤ (b : Int)) : (2 : Int) ^ a ≤ n_lshl 1 y ∧ n_lshl 1 y ≤ 2 ^ b := by
  obtain ⟨n, rfl⟩ : ∃ n : Nat, y = n := ⟨y.toNat, by omega⟩
  rw [n_lshl_a n (by omega)]
  exact ⟨n_pow (by omega), n_pow (by omega)⟩
theorem n_shr_1 {x : Int} (hx : 0 ≤ x ∧ x ≤ 2147483647) : n_shr x 1 = x / 2 := by
  have e2 : n_shr x 1 = (((Int32.ofInt x).toBitVec).sshiftRight 1).toInt := rfl
  rw [e2, BitVec.toInt_sshiftRight]
  have e3 : (Int32.ofInt x).toBitVec.toInt = x := n_i32 (by omega)
  rw [e3, Int.shiftRight_eq_div_pow]
  rfl
theorem ckey_a : ∀ p : Nat, p < 9 → ∀ q : Nat, q < 9 → ∀ r : Nat, r < 9 → n_and ((p : Int) + 16 * q + 256 * r) 15 = p ∧ n_and (n_shr ((p : Int) + 16 * q + 256 * r) 4) 15 = q ∧ n_shr ((p : Int) + 16 * q + 256 * r) 8 = r ∧ n_or (n_or (p : Int) (n_shl q 4)) (n_shl r 8) = (p : Int) + 16 * q + 256 * r := by decide +kernel
theorem ckey_b {x : Int} (h : ckey x) : ∃ p q r : Nat, p < 9 ∧ q < 9 ∧ r < 9 ∧ x = (p : Int) + 16 * q + 256 * r := by
  obtain ⟨p, q, r, h1, h2, h3, h4, h5, h6, rfl⟩ := h
  refine ⟨p.toNat, q.toNat, r.toNat, by omega, by omega, by omega, ?_⟩
  rw [Int.toNat_of_nonneg h1, Int.toNat_of_nonneg h3, Int.toNat_of_nonneg h5]
theorem ckey_0 {x : Int} (h : ckey x) : 0 ≤ n_and x 15 ∧ n_and x 15 ≤ 8 := by
  obtain ⟨p, q, r, h1, h2, h3, rfl⟩ := ckey_b h
  rw [(ckey_a p h1 q h2 r h3).1]
  omega
theorem ckey_4 {x : Int} (h : ckey x) : 0 ≤ n_and (n_shr x 4) 15 ∧ n_and (n_shr x 4) 15 ≤ 8 := by
  obtain ⟨p, q, r, h1, h2, h3, rfl⟩ := ckey_b h
  rw [(ckey_a p h1 q h2 r h3).2.1]
  omega
theorem ckey_8 {x : Int} (h : ckey x) : 0 ≤ n_shr x 8 ∧ n_shr x 8 ≤ 8 := by
  obtain ⟨p, q, r, h1, h2, h3, rfl⟩ := ckey_b h
  rw [(ckey_a p h1 q h2 r h3).2.2.1]
  omega
theorem ckey_mk {p q r : Int} (hp : 0 ≤ p ∧ p ≤ 8) (hq : 0 ≤ q ∧ q ≤ 8) (hr : 0 ≤ r ∧ r ≤ 8) : ckey (n_or (n_or p (n_shl q 4)) (n_shl r 8)) := by
  obtain ⟨a, rfl⟩ : ∃ n : Nat, p = n := ⟨p.toNat, by omega⟩
  obtain ⟨b, rfl⟩ : ∃ n : Nat, q = n := ⟨q.toNat, by omega⟩
  obtain ⟨c, rfl⟩ : ∃ n : Nat, r = n := ⟨r.toNat, by omega⟩
  rw [(ckey_a a (by omega) b (by omega) c (by omega)).2.2.2]
  exact ⟨a, b, c, by omega, by omega, by omega, by omega, by omega, by omega, rfl⟩
theorem Sf.u41 {d ac : Int} {M0 M : nM} (h : Sf d ac M0 M) {i z : Int} (hi : 0 ≤ i) (hz : ckey z) : Sf d ac M0 (nu M 41 i z) := by
  obtain ⟨h1, h2, h3, h4, h5⟩ := h
  have hr : (tb d ac 41 i).1 ≤ z ∧ z ≤ (tb d ac 41 i).2 := by
    show (0 : Int) ≤ z ∧ z ≤ 2184
    obtain ⟨p, q, r, a1, a2, a3, a4, a5, a6, rfl⟩ := hz
    omega
  refine ⟨h1.u hr, fun i' h0 => ?_, ?_, ⟨fun a' i' hc => ?_, h4.2⟩, h5⟩
  · rw [nu_e]
    split
    · exact hz
    · exact h2 i' h0
  · unfold PK
    rw [nu_a (by omega), nu_a (by omega)]
    exact h3
  · rw [nu_a (fun q => by subst q; unfold core at hc; omega)]
    exact h4.1 a' i' hc
theorem n_iastore41 {xs : List Int32} {d j k : Nat} {L : nL} {st : List nX} {M M0 : nM} {Q : Option nX → nM → Prop} {nx a b c : Nat} {dd ac i z : Int} (hS : Sf dd ac M0 M) (hc : mj_code j k = some (.iastore, nx, a, b, c)) (hi : 0 ≤ i ∧ i < 729) (hz : ckey z) (h : ∀ M2, M2 = nu M 41 i z → Sf dd ac M0 M2 → nW xs d j nx L st M2 Q) : nW xs d j k L ((0, z) :: (0, i) :: (2, 41) :: st) M Q := n_iastore hc sc_41.n rfl hi (h _ rfl (hS.u41 hi.1 hz))
