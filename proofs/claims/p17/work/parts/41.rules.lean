/-! The rules: from an instruction to the next one. -/
theorem n_blt {a b : Nat} (h : Nat.blt a b = true) : a < b := Nat.le_of_ble_eq_true h
section
variable {xs : List Int32} {d j k : Nat} {L L2 : nL} {st st2 : List nX} {M : nM} {Q : Option nX → nM → Prop} {nx a b c : Nat}
theorem n_go {e : mj_E} {k2 : Nat} (hc : mj_code j k = some e) (hs : ∀ hp LL, nR xs M hp → nLr L LL → ∃ LL2, mj_step j k e LL (nvS st) hp = some (.inl (k2, LL2, nvS st2)) ∧ nLr L2 LL2) (h : nW xs d j k2 L2 st2 M Q) : nW xs d j k L st M Q := fun hp LL hR hL => by
  obtain ⟨LL2, h1, h2⟩ := hs hp LL hR hL
  exact mo_go hc h1 (h hp LL2 hR h2)
theorem n_gs {e : mj_E} {k2 : Nat} (hc : mj_code j k = some e) (hs : ∀ hp LL, nR xs M hp → nLr L LL → mj_step j k e LL (nvS st) hp = some (.inl (k2, LL, nvS st2))) (h : nW xs d j k2 L st2 M Q) : nW xs d j k L st M Q := n_go hc (fun hp LL hR hL => ⟨LL, hs hp LL hR hL, hL⟩) h
theorem n_fg (hL : nLe L2 L) (h : nW xs d j k L2 st M Q) : nW xs d j k L st M Q := fun hp LL hR hl => h hp LL hR ⟨by rw [hl.1, hL.1], fun i v hi => hl.2 i v (hL.2 i v hi)⟩
theorem n_eqM {M2 : nM} (hM : M = M2) (h : nW xs d j k L st M2 Q) : nW xs d j k L st M Q := by rw [hM]; exact h
theorem n_post {Q2 : Option nX → nM → Prop} (h : nW xs d j k L st M Q2) (hq : ∀ w M2, Q2 w M2 → Q w M2) : nW xs d j k L st M Q := fun hp LL hR hLL => by
  obtain ⟨n, r, hp', h1, w, M', h2, h3, h4⟩ := h hp LL hR hLL
  exact ⟨n, r, hp', h1, w, M', h2, h3, hq w M' h4⟩
theorem n_iconst {n : Int} (hc : mj_code j k = some (.iconst n, nx, a, b, c)) (h : nW xs d j nx L ((0, n) :: st) M Q) : nW xs d j k L st M Q := n_gs hc (fun _ _ _ _ => rfl) h
theorem n_bipush {n : Int} (hc : mj_code j k = some (.bipush n, nx, a, b, c)) (hv : (Int8.ofInt n).toInt32 = Int32.ofInt n) (h : nW xs d j nx L ((0, n) :: st) M Q) : nW xs d j k L st M Q := n_gs hc (fun hp LL _ hLL => by
  show mj_go nx LL (.int (Int8.ofInt n).toInt32 :: nvS st) = _
  rw [hv]; rfl) h
theorem n_sipush {n : Int} (hc : mj_code j k = some (.sipush n, nx, a, b, c)) (hv : (Int16.ofInt n).toInt32 = Int32.ofInt n) (h : nW xs d j nx L ((0, n) :: st) M Q) : nW xs d j k L st M Q := n_gs hc (fun hp LL _ hLL => by
  show mj_go nx LL (.int (Int16.ofInt n).toInt32 :: nvS st) = _
  rw [hv]; rfl) h
theorem n_ldc {i} {n : Int} (hc : mj_code j k = some (.ldc i, nx, a, b, c)) (hv : Int32.ofNat a = Int32.ofInt n) (h : nW xs d j nx L ((0, n) :: st) M Q) : nW xs d j k L st M Q := n_gs hc (fun hp LL _ hLL => by
  show mj_go nx LL (.int (Int32.ofNat a) :: nvS st) = _
  rw [hv]; rfl) h
theorem n_ldc_w {i} {n : Int} (hc : mj_code j k = some (.ldc_w i, nx, a, b, c)) (hv : Int32.ofNat a = Int32.ofInt n) (h : nW xs d j nx L ((0, n) :: st) M Q) : nW xs d j k L st M Q := n_gs hc (fun hp LL _ hLL => by
  show mj_go nx LL (.int (Int32.ofNat a) :: nvS st) = _
  rw [hv]; rfl) h
theorem n_ldc2 {i} {n : Int} (hc : mj_code j k = some (.ldc2_w i, nx, a, b, c)) (hv : Int64.ofNat a = Int64.ofInt n) (h : nW xs d j nx L ((1, n) :: st) M Q) : nW xs d j k L st M Q := n_gs hc (fun hp LL _ hLL => by
  show mj_go nx LL (.long (Int64.ofNat a) :: nvS st) = _
  rw [hv]; rfl) h
theorem n_lconst {i} {n : Int} (hc : mj_code j k = some (.lconst i, nx, a, b, c)) (hv : Int64.ofNat (i : Nat) = Int64.ofInt n) (h : nW xs d j nx L ((1, n) :: st) M Q) : nW xs d j k L st M Q := n_gs hc (fun hp LL _ hLL => by
  show mj_go nx LL (.long (Int64.ofNat (i : Nat)) :: nvS st) = _
  rw [hv]; rfl) h
theorem n_iload {i} {z : Int} (hc : mj_code j k = some (.iload i, nx, a, b, c)) (hl : L[(i : Nat)]? = some (some (0, z))) (h : nW xs d j nx L ((0, z) :: st) M Q) : nW xs d j k L st M Q := n_gs hc (fun hp LL _ hLL => by
  show mj_ild i nx LL (nvS st) = _
  unfold mj_ild
  rw [hLL.2 _ _ hl]; rfl) h
theorem n_iload_n {i} {z : Int} (hc : mj_code j k = some (.iload_n i, nx, a, b, c)) (hl : L[(i : Nat)]? = some (some (0, z))) (h : nW xs d j nx L ((0, z) :: st) M Q) : nW xs d j k L st M Q := n_gs hc (fun hp LL _ hLL => by
  show mj_ild i nx LL (nvS st) = _
  unfold mj_ild
  rw [hLL.2 _ _ hl]; rfl) h
theorem n_istore {i} {z : Int} (hc : mj_code j k = some (.istore i, nx, a, b, c)) (hl : Nat.blt ((i : Nat)) L.length = true) (hL : ns1 L i (0, z) = L2) (h : nW xs d j nx L2 st M Q) : nW xs d j k L ((0, z) :: st) M Q := n_go hc (fun hp LL _ hLL => by
  subst hL
  refine ⟨mj_s1 LL i (nv (0, z)), ?_, hLL.s1 (n_blt hl) _⟩
  show (bif Nat.blt ((i : Nat)) LL.length then mj_go nx (mj_s1 LL i (nv (0, z))) (nvS st) else none) = _
  rw [hLL.1, hl]; rfl) h
theorem n_istore_n {i} {z : Int} (hc : mj_code j k = some (.istore_n i, nx, a, b, c)) (hl : Nat.blt ((i : Nat)) L.length = true) (hL : ns1 L i (0, z) = L2) (h : nW xs d j nx L2 st M Q) : nW xs d j k L ((0, z) :: st) M Q := n_go hc (fun hp LL _ hLL => by
  subst hL
  refine ⟨mj_s1 LL i (nv (0, z)), ?_, hLL.s1 (n_blt hl) _⟩
  show (bif Nat.blt ((i : Nat)) LL.length then mj_go nx (mj_s1 LL i (nv (0, z))) (nvS st) else none) = _
  rw [hLL.1, hl]; rfl) h
theorem n_lload {i} {z : Int} (hc : mj_code j k = some (.lload i, nx, a, b, c)) (hl : L[(i : Nat)]? = some (some (1, z))) (h : nW xs d j nx L ((1, z) :: st) M Q) : nW xs d j k L st M Q := n_gs hc (fun hp LL _ hLL => by
  show mj_lld i nx LL (nvS st) = _
  unfold mj_lld
  rw [hLL.2 _ _ hl]; rfl) h
theorem n_lload_n {i} {z : Int} (hc : mj_code j k = some (.lload_n i, nx, a, b, c)) (hl : L[(i : Nat)]? = some (some (1, z))) (h : nW xs d j nx L ((1, z) :: st) M Q) : nW xs d j k L st M Q := n_gs hc (fun hp LL _ hLL => by
  show mj_lld i nx LL (nvS st) = _
  unfold mj_lld
  rw [hLL.2 _ _ hl]; rfl) h
theorem n_lstore {i} {z : Int} (hc : mj_code j k = some (.lstore i, nx, a, b, c)) (hl : Nat.blt ((i : Nat) + 1) L.length = true) (hL : ns2 L i (1, z) = L2) (h : nW xs d j nx L2 st M Q) : nW xs d j k L ((1, z) :: st) M Q := n_go hc (fun hp LL _ hLL => by
  subst hL
  refine ⟨mj_s2 LL i (nv (1, z)), ?_, hLL.s2 (n_blt hl) _⟩
  show (bif Nat.blt ((i : Nat) + 1) LL.length then mj_go nx (mj_s2 LL i (nv (1, z))) (nvS st) else none) = _
  rw [hLL.1, hl]; rfl) h
theorem n_lstore_n {i} {z : Int} (hc : mj_code j k = some (.lstore_n i, nx, a, b, c)) (hl : Nat.blt ((i : Nat) + 1) L.length = true) (hL : ns2 L i (1, z) = L2) (h : nW xs d j nx L2 st M Q) : nW xs d j k L ((1, z) :: st) M Q := n_go hc (fun hp LL _ hLL => by
  subst hL
  refine ⟨mj_s2 LL i (nv (1, z)), ?_, hLL.s2 (n_blt hl) _⟩
  show (bif Nat.blt ((i : Nat) + 1) LL.length then mj_go nx (mj_s2 LL i (nv (1, z))) (nvS st) else none) = _
  rw [hLL.1, hl]; rfl) h
theorem n_aload {i} {z : Int} (hc : mj_code j k = some (.aload i, nx, a, b, c)) (hl : L[(i : Nat)]? = some (some (2, z))) (h : nW xs d j nx L ((2, z) :: st) M Q) : nW xs d j k L st M Q := n_gs hc (fun hp LL _ hLL => by
  show mj_ald i nx LL (nvS st) = _
  unfold mj_ald
  rw [hLL.2 _ _ hl]; rfl) h
theorem n_aload_n {i} {z : Int} (hc : mj_code j k = some (.aload_n i, nx, a, b, c)) (hl : L[(i : Nat)]? = some (some (2, z))) (h : nW xs d j nx L ((2, z) :: st) M Q) : nW xs d j k L st M Q := n_gs hc (fun hp LL _ hLL => by
  show mj_ald i nx LL (nvS st) = _
  unfold mj_ald
  rw [hLL.2 _ _ hl]; rfl) h
theorem n_astore {i} {z : Int} (hc : mj_code j k = some (.astore i, nx, a, b, c)) (hl : Nat.blt ((i : Nat)) L.length = true) (hL : ns1 L i (2, z) = L2) (h : nW xs d j nx L2 st M Q) : nW xs d j k L ((2, z) :: st) M Q := n_go hc (fun hp LL _ hLL => by
  subst hL
  refine ⟨mj_s1 LL i (nv (2, z)), ?_, hLL.s1 (n_blt hl) _⟩
  show (bif Nat.blt ((i : Nat)) LL.length then mj_go nx (mj_s1 LL i (nv (2, z))) (nvS st) else none) = _
  rw [hLL.1, hl]; rfl) h
theorem n_astore_n {i} {z : Int} (hc : mj_code j k = some (.astore_n i, nx, a, b, c)) (hl : Nat.blt ((i : Nat)) L.length = true) (hL : ns1 L i (2, z) = L2) (h : nW xs d j nx L2 st M Q) : nW xs d j k L ((2, z) :: st) M Q := n_go hc (fun hp LL _ hLL => by
  subst hL
  refine ⟨mj_s1 LL i (nv (2, z)), ?_, hLL.s1 (n_blt hl) _⟩
  show (bif Nat.blt ((i : Nat)) LL.length then mj_go nx (mj_s1 LL i (nv (2, z))) (nvS st) else none) = _
  rw [hLL.1, hl]; rfl) h
theorem n_iinc {i} {n z w : Int} (hc : mj_code j k = some (.iinc i n, nx, a, b, c)) (hl : L[(i : Nat)]? = some (some (0, z))) (hw : z + n = w) (hL : ns1 L i (0, w) = L2) (h : nW xs d j nx L2 st M Q) : nW xs d j k L st M Q := n_go hc (fun hp LL _ hLL => by
  subst hL
  refine ⟨mj_s1 LL i (nv (0, w)), ?_, hLL.s1 (List.getElem?_eq_some_iff.mp hl).1 _⟩
  show (match LL[(i : Nat)]? with
    | some (some (.int x)) => mj_go nx (mj_s1 LL i (.int (x + Int32.ofInt n))) (nvS st)
    | _ => none) = _
  rw [hLL.2 _ _ hl, ← hw]
  show mj_go nx (mj_s1 LL i (.int (Int32.ofInt z + Int32.ofInt n))) (nvS st) = some (.inl (nx, mj_s1 LL i (.int (Int32.ofInt (z + n))), nvS st))
  rw [Int32.ofInt_add]; rfl) h
theorem n_iadd {x y z : Int} (hc : mj_code j k = some (.iadd, nx, a, b, c)) (hz : x + y = z) (h : nW xs d j nx L ((0, z) :: st) M Q) : nW xs d j k L ((0, y) :: (0, x) :: st) M Q := n_gs hc (fun hp LL _ hLL => by
  subst hz
  show mj_go nx LL (.int (Int32.ofInt x + Int32.ofInt y) :: nvS st) = some (.inl (nx, LL, .int (Int32.ofInt (x + y)) :: nvS st))
  rw [Int32.ofInt_add]; rfl) h
theorem n_isub {x y z : Int} (hc : mj_code j k = some (.isub, nx, a, b, c)) (hz : x - y = z) (h : nW xs d j nx L ((0, z) :: st) M Q) : nW xs d j k L ((0, y) :: (0, x) :: st) M Q := n_gs hc (fun hp LL _ hLL => by
  subst hz
  show mj_go nx LL (.int (Int32.ofInt x - Int32.ofInt y) :: nvS st) = some (.inl (nx, LL, .int (Int32.ofInt (x - y)) :: nvS st))
  rw [Int32.ofInt_sub]; rfl) h
theorem n_imul {x y z : Int} (hc : mj_code j k = some (.imul, nx, a, b, c)) (hz : x * y = z) (h : nW xs d j nx L ((0, z) :: st) M Q) : nW xs d j k L ((0, y) :: (0, x) :: st) M Q := n_gs hc (fun hp LL _ hLL => by
  subst hz
  show mj_go nx LL (.int (Int32.ofInt x * Int32.ofInt y) :: nvS st) = some (.inl (nx, LL, .int (Int32.ofInt (x * y)) :: nvS st))
  rw [Int32.ofInt_mul]; rfl) h
theorem n_ladd {x y z : Int} (hc : mj_code j k = some (.ladd, nx, a, b, c)) (hz : x + y = z) (h : nW xs d j nx L ((1, z) :: st) M Q) : nW xs d j k L ((1, y) :: (1, x) :: st) M Q := n_gs hc (fun hp LL _ hLL => by
  subst hz
  show mj_go nx LL (.long (Int64.ofInt x + Int64.ofInt y) :: nvS st) = some (.inl (nx, LL, .long (Int64.ofInt (x + y)) :: nvS st))
  rw [Int64.ofInt_add]; rfl) h
theorem n_lsub {x y z : Int} (hc : mj_code j k = some (.lsub, nx, a, b, c)) (hz : x - y = z) (h : nW xs d j nx L ((1, z) :: st) M Q) : nW xs d j k L ((1, y) :: (1, x) :: st) M Q := n_gs hc (fun hp LL _ hLL => by
  subst hz
  show mj_go nx LL (.long (Int64.ofInt x - Int64.ofInt y) :: nvS st) = some (.inl (nx, LL, .long (Int64.ofInt (x - y)) :: nvS st))
  rw [Int64.ofInt_sub]; rfl) h
theorem n_lmul {x y z : Int} (hc : mj_code j k = some (.lmul, nx, a, b, c)) (hz : x * y = z) (h : nW xs d j nx L ((1, z) :: st) M Q) : nW xs d j k L ((1, y) :: (1, x) :: st) M Q := n_gs hc (fun hp LL _ hLL => by
  subst hz
  show mj_go nx LL (.long (Int64.ofInt x * Int64.ofInt y) :: nvS st) = some (.inl (nx, LL, .long (Int64.ofInt (x * y)) :: nvS st))
  rw [Int64.ofInt_mul]; rfl) h
theorem n_i_iand {x y z : Int} (hc : mj_code j k = some (.iand, nx, a, b, c)) (hz : n_and x y = z) (h : nW xs d j nx L ((0, z) :: st) M Q) : nW xs d j k L ((0, y) :: (0, x) :: st) M Q := n_gs hc (fun hp LL _ hLL => by
  subst hz
  show _ = mj_go nx LL (.int (Int32.ofInt (n_and x y)) :: nvS st)
  unfold n_and
  rw [Int32.ofInt_toInt]; rfl) h
theorem n_i_ior {x y z : Int} (hc : mj_code j k = some (.ior, nx, a, b, c)) (hz : n_or x y = z) (h : nW xs d j nx L ((0, z) :: st) M Q) : nW xs d j k L ((0, y) :: (0, x) :: st) M Q := n_gs hc (fun hp LL _ hLL => by
  subst hz
  show _ = mj_go nx LL (.int (Int32.ofInt (n_or x y)) :: nvS st)
  unfold n_or
  rw [Int32.ofInt_toInt]; rfl) h
theorem n_i_ixor {x y z : Int} (hc : mj_code j k = some (.ixor, nx, a, b, c)) (hz : n_xor x y = z) (h : nW xs d j nx L ((0, z) :: st) M Q) : nW xs d j k L ((0, y) :: (0, x) :: st) M Q := n_gs hc (fun hp LL _ hLL => by
  subst hz
  show _ = mj_go nx LL (.int (Int32.ofInt (n_xor x y)) :: nvS st)
  unfold n_xor
  rw [Int32.ofInt_toInt]; rfl) h
theorem n_i_ishl {x y z : Int} (hc : mj_code j k = some (.ishl, nx, a, b, c)) (hz : n_shl x y = z) (h : nW xs d j nx L ((0, z) :: st) M Q) : nW xs d j k L ((0, y) :: (0, x) :: st) M Q := n_gs hc (fun hp LL _ hLL => by
  subst hz
  show _ = mj_go nx LL (.int (Int32.ofInt (n_shl x y)) :: nvS st)
  unfold n_shl
  rw [Int32.ofInt_toInt]; rfl) h
theorem n_i_ishr {x y z : Int} (hc : mj_code j k = some (.ishr, nx, a, b, c)) (hz : n_shr x y = z) (h : nW xs d j nx L ((0, z) :: st) M Q) : nW xs d j k L ((0, y) :: (0, x) :: st) M Q := n_gs hc (fun hp LL _ hLL => by
  subst hz
  show _ = mj_go nx LL (.int (Int32.ofInt (n_shr x y)) :: nvS st)
  unfold n_shr
  rw [Int32.ofInt_toInt]; rfl) h
theorem n_i_iushr {x y z : Int} (hc : mj_code j k = some (.iushr, nx, a, b, c)) (hz : n_ushr x y = z) (h : nW xs d j nx L ((0, z) :: st) M Q) : nW xs d j k L ((0, y) :: (0, x) :: st) M Q := n_gs hc (fun hp LL _ hLL => by
  subst hz
  show _ = mj_go nx LL (.int (Int32.ofInt (n_ushr x y)) :: nvS st)
  unfold n_ushr
  rw [Int32.ofInt_toInt]; rfl) h
theorem n_i_land {x y z : Int} (hc : mj_code j k = some (.land, nx, a, b, c)) (hz : n_land x y = z) (h : nW xs d j nx L ((1, z) :: st) M Q) : nW xs d j k L ((1, y) :: (1, x) :: st) M Q := n_gs hc (fun hp LL _ hLL => by
  subst hz
  show _ = mj_go nx LL (.long (Int64.ofInt (n_land x y)) :: nvS st)
  unfold n_land
  rw [Int64.ofInt_toInt]; rfl) h
theorem n_i_lor {x y z : Int} (hc : mj_code j k = some (.lor, nx, a, b, c)) (hz : n_lor x y = z) (h : nW xs d j nx L ((1, z) :: st) M Q) : nW xs d j k L ((1, y) :: (1, x) :: st) M Q := n_gs hc (fun hp LL _ hLL => by
  subst hz
  show _ = mj_go nx LL (.long (Int64.ofInt (n_lor x y)) :: nvS st)
  unfold n_lor
  rw [Int64.ofInt_toInt]; rfl) h
theorem n_i_lshl {x y z : Int} (hc : mj_code j k = some (.lshl, nx, a, b, c)) (hz : n_lshl x y = z) (h : nW xs d j nx L ((1, z) :: st) M Q) : nW xs d j k L ((0, y) :: (1, x) :: st) M Q := n_gs hc (fun hp LL _ hLL => by
  subst hz
  show _ = mj_go nx LL (.long (Int64.ofInt (n_lshl x y)) :: nvS st)
  unfold n_lshl
  rw [Int64.ofInt_toInt]; rfl) h
theorem n_i_lshr {x y z : Int} (hc : mj_code j k = some (.lshr, nx, a, b, c)) (hz : n_lshr x y = z) (h : nW xs d j nx L ((1, z) :: st) M Q) : nW xs d j k L ((0, y) :: (1, x) :: st) M Q := n_gs hc (fun hp LL _ hLL => by
  subst hz
  show _ = mj_go nx LL (.long (Int64.ofInt (n_lshr x y)) :: nvS st)
  unfold n_lshr
  rw [Int64.ofInt_toInt]; rfl) h
theorem n_i_lushr {x y z : Int} (hc : mj_code j k = some (.lushr, nx, a, b, c)) (hz : n_lushr x y = z) (h : nW xs d j nx L ((1, z) :: st) M Q) : nW xs d j k L ((0, y) :: (1, x) :: st) M Q := n_gs hc (fun hp LL _ hLL => by
  subst hz
  show _ = mj_go nx LL (.long (Int64.ofInt (n_lushr x y)) :: nvS st)
  unfold n_lushr
  rw [Int64.ofInt_toInt]; rfl) h
theorem n_ne0 {y : Int} (hy : -2147483648 ≤ y ∧ y ≤ 2147483647) (h0 : y ≠ 0) : ¬ Int32.ofInt y = 0 := fun q => h0 ((n_eq hy n_z0).mp q)
theorem n_lne0 {y : Int} (hy : -9223372036854775808 ≤ y ∧ y ≤ 9223372036854775807) (h0 : y ≠ 0) : ¬ Int64.ofInt y = 0 := fun q => h0 ((n_leq hy (by omega)).mp q)
theorem n_rem32 {x y : Int} (hx : -2147483648 ≤ x ∧ x ≤ 2147483647) (hy : -2147483648 ≤ y ∧ y ≤ 2147483647) : Int32.ofInt x - Int32.ofInt x / Int32.ofInt y * Int32.ofInt y = Int32.ofInt (x.tmod y) := by
  rw [← Int32.ofInt_tdiv (by show (-2147483648 : Int) ≤ x; omega) (by show x ≤ (2147483647 : Int); omega) (by show (-2147483648 : Int) ≤ y; omega) (by show y ≤ (2147483647 : Int); omega), ← Int32.ofInt_mul, ← Int32.ofInt_sub]
  congr 1
  have := Int.tmod_add_mul_tdiv x y
  rw [Int.mul_comm] at this
  omega
theorem n_rem64 {x y : Int} (hx : -9223372036854775808 ≤ x ∧ x ≤ 9223372036854775807) (hy : -9223372036854775808 ≤ y ∧ y ≤ 9223372036854775807) : Int64.ofInt x - Int64.ofInt x / Int64.ofInt y * Int64.ofInt y = Int64.ofInt (x.tmod y) := by
  rw [← Int64.ofInt_tdiv (by show (-9223372036854775808 : Int) ≤ x; omega) (by show x ≤ (9223372036854775807 : Int); omega) (by show (-9223372036854775808 : Int) ≤ y; omega) (by show y ≤ (9223372036854775807 : Int); omega), ← Int64.ofInt_mul, ← Int64.ofInt_sub]
  congr 1
  have := Int.tmod_add_mul_tdiv x y
  rw [Int.mul_comm] at this
  omega
theorem n_idivT {x y z : Int} (hc : mj_code j k = some (.idiv, nx, a, b, c)) (hx : -2147483648 ≤ x ∧ x ≤ 2147483647) (hy : -2147483648 ≤ y ∧ y ≤ 2147483647) (h0 : y ≠ 0) (hz : x.tdiv y = z) (h : nW xs d j nx L ((0, z) :: st) M Q) : nW xs d j k L ((0, y) :: (0, x) :: st) M Q := n_gs hc (fun hp LL _ hLL => by
  subst hz
  show (if Int32.ofInt y = 0 then none else mj_go nx LL (.int (Int32.ofInt x / Int32.ofInt y) :: nvS st)) = some (.inl (nx, LL, .int (Int32.ofInt (x.tdiv y)) :: nvS st))
  rw [if_neg (n_ne0 hy h0), Int32.ofInt_tdiv (by show (-2147483648 : Int) ≤ x; omega) (by show x ≤ (2147483647 : Int); omega) (by show (-2147483648 : Int) ≤ y; omega) (by show y ≤ (2147483647 : Int); omega)]; rfl) h
theorem n_idiv {x y z : Int} (hc : mj_code j k = some (.idiv, nx, a, b, c)) (hx : 0 ≤ x ∧ x ≤ 2147483647) (hy : 0 < y ∧ y ≤ 2147483647) (hz : x / y = z) (h : nW xs d j nx L ((0, z) :: st) M Q) : nW xs d j k L ((0, y) :: (0, x) :: st) M Q := n_idivT hc (by omega) (by omega) (by omega) (by rw [Int.tdiv_eq_ediv_of_nonneg hx.1]; exact hz) h
theorem n_iremT {x y z : Int} (hc : mj_code j k = some (.irem, nx, a, b, c)) (hx : -2147483648 ≤ x ∧ x ≤ 2147483647) (hy : -2147483648 ≤ y ∧ y ≤ 2147483647) (h0 : y ≠ 0) (hz : x.tmod y = z) (h : nW xs d j nx L ((0, z) :: st) M Q) : nW xs d j k L ((0, y) :: (0, x) :: st) M Q := n_gs hc (fun hp LL _ hLL => by
  subst hz
  show (if Int32.ofInt y = 0 then none else mj_go nx LL (.int (Int32.ofInt x - Int32.ofInt x / Int32.ofInt y * Int32.ofInt y) :: nvS st)) = some (.inl (nx, LL, .int (Int32.ofInt (x.tmod y)) :: nvS st))
  rw [if_neg (n_ne0 hy h0), n_rem32 hx hy]; rfl) h
theorem n_irem {x y z : Int} (hc : mj_code j k = some (.irem, nx, a, b, c)) (hx : 0 ≤ x ∧ x ≤ 2147483647) (hy : 0 < y ∧ y ≤ 2147483647) (hz : x % y = z) (h : nW xs d j nx L ((0, z) :: st) M Q) : nW xs d j k L ((0, y) :: (0, x) :: st) M Q := n_iremT hc (by omega) (by omega) (by omega) (by rw [Int.tmod_eq_emod_of_nonneg hx.1]; exact hz) h
theorem n_ldiv {x y z : Int} (hc : mj_code j k = some (.ldiv, nx, a, b, c)) (hx : 0 ≤ x ∧ x ≤ 9223372036854775807) (hy : 0 < y ∧ y ≤ 9223372036854775807) (hz : x / y = z) (h : nW xs d j nx L ((1, z) :: st) M Q) : nW xs d j k L ((1, y) :: (1, x) :: st) M Q := n_gs hc (fun hp LL _ hLL => by
  subst hz
  show (if Int64.ofInt y = 0 then none else mj_go nx LL (.long (Int64.ofInt x / Int64.ofInt y) :: nvS st)) = some (.inl (nx, LL, .long (Int64.ofInt (x / y)) :: nvS st))
  rw [if_neg (n_lne0 (by omega) (by omega)), ← Int.tdiv_eq_ediv_of_nonneg hx.1, Int64.ofInt_tdiv (by show (-9223372036854775808 : Int) ≤ x; omega) (by show x ≤ (9223372036854775807 : Int); omega) (by show (-9223372036854775808 : Int) ≤ y; omega) (by show y ≤ (9223372036854775807 : Int); omega)]; rfl) h
theorem n_lrem {x y z : Int} (hc : mj_code j k = some (.lrem, nx, a, b, c)) (hx : 0 ≤ x ∧ x ≤ 9223372036854775807) (hy : 0 < y ∧ y ≤ 9223372036854775807) (hz : x % y = z) (h : nW xs d j nx L ((1, z) :: st) M Q) : nW xs d j k L ((1, y) :: (1, x) :: st) M Q := n_gs hc (fun hp LL _ hLL => by
  subst hz
  show (if Int64.ofInt y = 0 then none else mj_go nx LL (.long (Int64.ofInt x - Int64.ofInt x / Int64.ofInt y * Int64.ofInt y) :: nvS st)) = some (.inl (nx, LL, .long (Int64.ofInt (x % y)) :: nvS st))
  rw [if_neg (n_lne0 (by omega) (by omega)), n_rem64 (by omega) (by omega), Int.tmod_eq_emod_of_nonneg hx.1]; rfl) h
theorem n_lcmp {x y : Int} (hc : mj_code j k = some (.lcmp, nx, a, b, c)) (h : nW xs d j nx L ((0, n_cmp x y) :: st) M Q) : nW xs d j k L ((1, y) :: (1, x) :: st) M Q := n_gs hc (fun hp LL _ hLL => by
  show _ = mj_go nx LL (.int (Int32.ofInt (n_cmp x y)) :: nvS st)
  unfold n_cmp
  rw [Int32.ofInt_toInt]; rfl) h
theorem n_i2l {x : Int} (hc : mj_code j k = some (.i2l, nx, a, b, c)) (hx : -2147483648 ≤ x ∧ x ≤ 2147483647) (h : nW xs d j nx L ((1, x) :: st) M Q) : nW xs d j k L ((0, x) :: st) M Q := n_gs hc (fun hp LL _ hLL => by
  show mj_go nx LL (.long (Int32.ofInt x).toInt64 :: nvS st) = some (.inl (nx, LL, .long (Int64.ofInt x) :: nvS st))
  rw [Int32.toInt64_ofInt (by show (-2147483648 : Int) ≤ x; omega) (by show x ≤ (2147483647 : Int); omega)]; rfl) h
theorem n_l2i {x : Int} (hc : mj_code j k = some (.l2i, nx, a, b, c)) (h : nW xs d j nx L ((0, x) :: st) M Q) : nW xs d j k L ((1, x) :: st) M Q := n_gs hc (fun hp LL _ hLL => by
  show mj_go nx LL (.int (Int64.ofInt x).toInt32 :: nvS st) = some (.inl (nx, LL, .int (Int32.ofInt x) :: nvS st))
  rw [Int64.toInt32_ofInt]; rfl) h
theorem n_i2b {x : Int} (hc : mj_code j k = some (.i2b, nx, a, b, c)) (h : nW xs d j nx L ((0, n_2b x) :: st) M Q) : nW xs d j k L ((0, x) :: st) M Q := n_gs hc (fun hp LL _ hLL => by
  show _ = mj_go nx LL (.int (Int32.ofInt (n_2b x)) :: nvS st)
  unfold n_2b
  rw [Int32.ofInt_toInt]; rfl) h
theorem n_i2s {x : Int} (hc : mj_code j k = some (.i2s, nx, a, b, c)) (h : nW xs d j nx L ((0, n_2s x) :: st) M Q) : nW xs d j k L ((0, x) :: st) M Q := n_gs hc (fun hp LL _ hLL => by
  show _ = mj_go nx LL (.int (Int32.ofInt (n_2s x)) :: nvS st)
  unfold n_2s
  rw [Int32.ofInt_toInt]; rfl) h
/-- a number by its wrapped one -/
theorem n_wrap {x : Int} (h : nW xs d j k L ((0, n_wr x) :: st) M Q) : nW xs d j k L ((0, x) :: st) M Q := fun hp LL hR hLL => by
  have e : nvS ((0, x) :: st) = nvS ((0, n_wr x) :: st) := by
    show Value.int (Int32.ofInt x) :: nvS st = Value.int (Int32.ofInt (n_wr x)) :: nvS st
    unfold n_wr
    rw [Int32.ofInt_toInt]
  rw [e]
  exact h hp LL hR hLL
theorem n_wrapl {x : Int} (h : nW xs d j k L ((1, n_wl x) :: st) M Q) : nW xs d j k L ((1, x) :: st) M Q := fun hp LL hR hLL => by
  have e : nvS ((1, x) :: st) = nvS ((1, n_wl x) :: st) := by
    show Value.long (Int64.ofInt x) :: nvS st = Value.long (Int64.ofInt (n_wl x)) :: nvS st
    unfold n_wl
    rw [Int64.ofInt_toInt]
  rw [e]
  exact h hp LL hR hLL
theorem n_dup0 {x : Int} (hc : mj_code j k = some (.dup, nx, a, b, c)) (h : nW xs d j nx L ((0, x) :: (0, x) :: st) M Q) : nW xs d j k L ((0, x) :: st) M Q := n_gs hc (fun _ _ _ _ => rfl) h
theorem n_dup_x100 {x y : Int} (hc : mj_code j k = some (.dup_x1, nx, a, b, c)) (h : nW xs d j nx L ((0, x) :: (0, y) :: (0, x) :: st) M Q) : nW xs d j k L ((0, x) :: (0, y) :: st) M Q := n_gs hc (fun _ _ _ _ => rfl) h
theorem n_dup200 {x y : Int} (hc : mj_code j k = some (.dup2, nx, a, b, c)) (h : nW xs d j nx L ((0, x) :: (0, y) :: (0, x) :: (0, y) :: st) M Q) : nW xs d j k L ((0, x) :: (0, y) :: st) M Q := n_gs hc (fun _ _ _ _ => rfl) h
theorem n_dup_x102 {x y : Int} (hc : mj_code j k = some (.dup_x1, nx, a, b, c)) (h : nW xs d j nx L ((0, x) :: (2, y) :: (0, x) :: st) M Q) : nW xs d j k L ((0, x) :: (2, y) :: st) M Q := n_gs hc (fun _ _ _ _ => rfl) h
theorem n_dup202 {x y : Int} (hc : mj_code j k = some (.dup2, nx, a, b, c)) (h : nW xs d j nx L ((0, x) :: (2, y) :: (0, x) :: (2, y) :: st) M Q) : nW xs d j k L ((0, x) :: (2, y) :: st) M Q := n_gs hc (fun _ _ _ _ => rfl) h
theorem n_dup2 {x : Int} (hc : mj_code j k = some (.dup, nx, a, b, c)) (h : nW xs d j nx L ((2, x) :: (2, x) :: st) M Q) : nW xs d j k L ((2, x) :: st) M Q := n_gs hc (fun _ _ _ _ => rfl) h
theorem n_dup_x120 {x y : Int} (hc : mj_code j k = some (.dup_x1, nx, a, b, c)) (h : nW xs d j nx L ((2, x) :: (0, y) :: (2, x) :: st) M Q) : nW xs d j k L ((2, x) :: (0, y) :: st) M Q := n_gs hc (fun _ _ _ _ => rfl) h
theorem n_dup220 {x y : Int} (hc : mj_code j k = some (.dup2, nx, a, b, c)) (h : nW xs d j nx L ((2, x) :: (0, y) :: (2, x) :: (0, y) :: st) M Q) : nW xs d j k L ((2, x) :: (0, y) :: st) M Q := n_gs hc (fun _ _ _ _ => rfl) h
theorem n_dup_x122 {x y : Int} (hc : mj_code j k = some (.dup_x1, nx, a, b, c)) (h : nW xs d j nx L ((2, x) :: (2, y) :: (2, x) :: st) M Q) : nW xs d j k L ((2, x) :: (2, y) :: st) M Q := n_gs hc (fun _ _ _ _ => rfl) h
theorem n_dup222 {x y : Int} (hc : mj_code j k = some (.dup2, nx, a, b, c)) (h : nW xs d j nx L ((2, x) :: (2, y) :: (2, x) :: (2, y) :: st) M Q) : nW xs d j k L ((2, x) :: (2, y) :: st) M Q := n_gs hc (fun _ _ _ _ => rfl) h
theorem n_goto {i} (hc : mj_code j k = some (.goto i, nx, a, b, c)) (h : nW xs d j a L st M Q) : nW xs d j k L st M Q := n_gs hc (fun _ _ _ _ => rfl) h
theorem n_br {e : mj_E} {q : Bool} (hc : mj_code j k = some e) (hs : ∀ hp LL, mj_step j k e LL (nvS st) hp = mj_go (bif q then a else nx) LL (nvS st2)) (h1 : q = true → nW xs d j a L st2 M Q) (h2 : q = false → nW xs d j nx L st2 M Q) : nW xs d j k L st M Q := by
  cases q with
  | true => exact n_gs hc (fun hp LL _ _ => hs hp LL) (h1 rfl)
  | false => exact n_gs hc (fun hp LL _ _ => hs hp LL) (h2 rfl)
theorem n_if2_eq {i} {x y : Int} (hc : mj_code j k = some (.if_icmp .eq i, nx, a, b, c)) (hx : -2147483648 ≤ x ∧ x ≤ 2147483647) (hy : -2147483648 ≤ y ∧ y ≤ 2147483647) (h1 : x = y → nW xs d j a L st M Q) (h2 : x ≠ y → nW xs d j nx L st M Q) : nW xs d j k L ((0, y) :: (0, x) :: st) M Q := n_br (q := mj_c2 .eq (Int32.ofInt x) (Int32.ofInt y)) hc (fun _ _ => rfl) (fun q => h1 ((n_eq hx hy).mp (of_decide_eq_true q))) (fun q => h2 (fun e => of_decide_eq_false q ((n_eq hx hy).mpr e)))
theorem n_if0_eq {i} {x : Int} (hc : mj_code j k = some (.ifCond .eq i, nx, a, b, c)) (hx : -2147483648 ≤ x ∧ x ≤ 2147483647) (h1 : x = 0 → nW xs d j a L st M Q) (h2 : x ≠ 0 → nW xs d j nx L st M Q) : nW xs d j k L ((0, x) :: st) M Q := n_br (q := mj_c0 .eq (Int32.ofInt x)) hc (fun _ _ => rfl) (fun q => h1 ((n_eq hx n_z0).mp (of_decide_eq_true q))) (fun q => h2 (fun e => of_decide_eq_false q ((n_eq hx n_z0).mpr e)))
theorem n_if2_ne {i} {x y : Int} (hc : mj_code j k = some (.if_icmp .ne i, nx, a, b, c)) (hx : -2147483648 ≤ x ∧ x ≤ 2147483647) (hy : -2147483648 ≤ y ∧ y ≤ 2147483647) (h1 : x ≠ y → nW xs d j a L st M Q) (h2 : x = y → nW xs d j nx L st M Q) : nW xs d j k L ((0, y) :: (0, x) :: st) M Q := n_br (q := mj_c2 .ne (Int32.ofInt x) (Int32.ofInt y)) hc (fun _ _ => rfl) (fun q => h1 (fun e => of_decide_eq_true q ((n_eq hx hy).mpr e))) (fun q => h2 (Decidable.byContradiction fun e => of_decide_eq_false q (fun w => e ((n_eq hx hy).mp w))))
theorem n_if0_ne {i} {x : Int} (hc : mj_code j k = some (.ifCond .ne i, nx, a, b, c)) (hx : -2147483648 ≤ x ∧ x ≤ 2147483647) (h1 : x ≠ 0 → nW xs d j a L st M Q) (h2 : x = 0 → nW xs d j nx L st M Q) : nW xs d j k L ((0, x) :: st) M Q := n_br (q := mj_c0 .ne (Int32.ofInt x)) hc (fun _ _ => rfl) (fun q => h1 (fun e => of_decide_eq_true q ((n_eq hx n_z0).mpr e))) (fun q => h2 (Decidable.byContradiction fun e => of_decide_eq_false q (fun w => e ((n_eq hx n_z0).mp w))))
theorem n_if2_lt {i} {x y : Int} (hc : mj_code j k = some (.if_icmp .lt i, nx, a, b, c)) (hx : -2147483648 ≤ x ∧ x ≤ 2147483647) (hy : -2147483648 ≤ y ∧ y ≤ 2147483647) (h1 : x < y → nW xs d j a L st M Q) (h2 : y ≤ x → nW xs d j nx L st M Q) : nW xs d j k L ((0, y) :: (0, x) :: st) M Q := n_br (q := mj_c2 .lt (Int32.ofInt x) (Int32.ofInt y)) hc (fun _ _ => rfl) (fun q => h1 ((n_lt hx hy).mp (of_decide_eq_true q))) (fun q => h2 (Int.not_lt.mp fun e => of_decide_eq_false q ((n_lt hx hy).mpr e)))
theorem n_if0_lt {i} {x : Int} (hc : mj_code j k = some (.ifCond .lt i, nx, a, b, c)) (hx : -2147483648 ≤ x ∧ x ≤ 2147483647) (h1 : x < 0 → nW xs d j a L st M Q) (h2 : 0 ≤ x → nW xs d j nx L st M Q) : nW xs d j k L ((0, x) :: st) M Q := n_br (q := mj_c0 .lt (Int32.ofInt x)) hc (fun _ _ => rfl) (fun q => h1 ((n_lt hx n_z0).mp (of_decide_eq_true q))) (fun q => h2 (Int.not_lt.mp fun e => of_decide_eq_false q ((n_lt hx n_z0).mpr e)))
theorem n_if2_ge {i} {x y : Int} (hc : mj_code j k = some (.if_icmp .ge i, nx, a, b, c)) (hx : -2147483648 ≤ x ∧ x ≤ 2147483647) (hy : -2147483648 ≤ y ∧ y ≤ 2147483647) (h1 : y ≤ x → nW xs d j a L st M Q) (h2 : x < y → nW xs d j nx L st M Q) : nW xs d j k L ((0, y) :: (0, x) :: st) M Q := n_br (q := mj_c2 .ge (Int32.ofInt x) (Int32.ofInt y)) hc (fun _ _ => rfl) (fun q => h1 ((n_le hy hx).mp (of_decide_eq_true q))) (fun q => h2 (Int.not_le.mp fun e => of_decide_eq_false q ((n_le hy hx).mpr e)))
theorem n_if0_ge {i} {x : Int} (hc : mj_code j k = some (.ifCond .ge i, nx, a, b, c)) (hx : -2147483648 ≤ x ∧ x ≤ 2147483647) (h1 : 0 ≤ x → nW xs d j a L st M Q) (h2 : x < 0 → nW xs d j nx L st M Q) : nW xs d j k L ((0, x) :: st) M Q := n_br (q := mj_c0 .ge (Int32.ofInt x)) hc (fun _ _ => rfl) (fun q => h1 ((n_le n_z0 hx).mp (of_decide_eq_true q))) (fun q => h2 (Int.not_le.mp fun e => of_decide_eq_false q ((n_le n_z0 hx).mpr e)))
theorem n_if2_gt {i} {x y : Int} (hc : mj_code j k = some (.if_icmp .gt i, nx, a, b, c)) (hx : -2147483648 ≤ x ∧ x ≤ 2147483647) (hy : -2147483648 ≤ y ∧ y ≤ 2147483647) (h1 : y < x → nW xs d j a L st M Q) (h2 : x ≤ y → nW xs d j nx L st M Q) : nW xs d j k L ((0, y) :: (0, x) :: st) M Q := n_br (q := mj_c2 .gt (Int32.ofInt x) (Int32.ofInt y)) hc (fun _ _ => rfl) (fun q => h1 ((n_lt hy hx).mp (of_decide_eq_true q))) (fun q => h2 (Int.not_lt.mp fun e => of_decide_eq_false q ((n_lt hy hx).mpr e)))
theorem n_if0_gt {i} {x : Int} (hc : mj_code j k = some (.ifCond .gt i, nx, a, b, c)) (hx : -2147483648 ≤ x ∧ x ≤ 2147483647) (h1 : 0 < x → nW xs d j a L st M Q) (h2 : x ≤ 0 → nW xs d j nx L st M Q) : nW xs d j k L ((0, x) :: st) M Q := n_br (q := mj_c0 .gt (Int32.ofInt x)) hc (fun _ _ => rfl) (fun q => h1 ((n_lt n_z0 hx).mp (of_decide_eq_true q))) (fun q => h2 (Int.not_lt.mp fun e => of_decide_eq_false q ((n_lt n_z0 hx).mpr e)))
theorem n_if2_le {i} {x y : Int} (hc : mj_code j k = some (.if_icmp .le i, nx, a, b, c)) (hx : -2147483648 ≤ x ∧ x ≤ 2147483647) (hy : -2147483648 ≤ y ∧ y ≤ 2147483647) (h1 : x ≤ y → nW xs d j a L st M Q) (h2 : y < x → nW xs d j nx L st M Q) : nW xs d j k L ((0, y) :: (0, x) :: st) M Q := n_br (q := mj_c2 .le (Int32.ofInt x) (Int32.ofInt y)) hc (fun _ _ => rfl) (fun q => h1 ((n_le hx hy).mp (of_decide_eq_true q))) (fun q => h2 (Int.not_le.mp fun e => of_decide_eq_false q ((n_le hx hy).mpr e)))
theorem n_if0_le {i} {x : Int} (hc : mj_code j k = some (.ifCond .le i, nx, a, b, c)) (hx : -2147483648 ≤ x ∧ x ≤ 2147483647) (h1 : x ≤ 0 → nW xs d j a L st M Q) (h2 : 0 < x → nW xs d j nx L st M Q) : nW xs d j k L ((0, x) :: st) M Q := n_br (q := mj_c0 .le (Int32.ofInt x)) hc (fun _ _ => rfl) (fun q => h1 ((n_le hx n_z0).mp (of_decide_eq_true q))) (fun q => h2 (Int.not_le.mp fun e => of_decide_eq_false q ((n_le hx n_z0).mpr e)))
theorem n_cmp_r (x y : Int) : -2147483648 ≤ n_cmp x y ∧ n_cmp x y ≤ 2147483647 := n_toInt _
theorem n_cmp_lt {x y : Int} (hx : -9223372036854775808 ≤ x ∧ x ≤ 9223372036854775807) (hy : -9223372036854775808 ≤ y ∧ y ≤ 9223372036854775807) : n_cmp x y < 0 ↔ x < y := by
  have h := lg_cmp_lt (Int64.ofInt x) (Int64.ofInt y)
  rw [n_llt hx hy, Int32.lt_iff_toInt_lt] at h
  exact h
theorem n_cmp_gt {x y : Int} (hx : -9223372036854775808 ≤ x ∧ x ≤ 9223372036854775807) (hy : -9223372036854775808 ≤ y ∧ y ≤ 9223372036854775807) : 0 < n_cmp x y ↔ y < x := by
  have h := lg_cmp_gt (Int64.ofInt x) (Int64.ofInt y)
  rw [n_llt hy hx, Int32.lt_iff_toInt_lt] at h
  exact h
theorem n_cmp_eq {x y : Int} (hx : -9223372036854775808 ≤ x ∧ x ≤ 9223372036854775807) (hy : -9223372036854775808 ≤ y ∧ y ≤ 9223372036854775807) : n_cmp x y = 0 ↔ x = y := by
  have h1 := n_cmp_lt hx hy
  have h2 := n_cmp_gt hx hy
  constructor
  · intro h; omega
  · intro h; omega
theorem n_lif_eq {i} {x y : Int} (hc : mj_code j k = some (.ifCond .eq i, nx, a, b, c)) (hx : -9223372036854775808 ≤ x ∧ x ≤ 9223372036854775807) (hy : -9223372036854775808 ≤ y ∧ y ≤ 9223372036854775807) (h1 : x = y → nW xs d j a L st M Q) (h2 : x ≠ y → nW xs d j nx L st M Q) : nW xs d j k L ((0, n_cmp x y) :: st) M Q := by
  have e1 := n_cmp_lt hx hy
  have e2 := n_cmp_gt hx hy
  have e3 := n_cmp_eq hx hy
  exact n_if0_eq hc (n_cmp_r x y) (fun q => h1 (by omega)) (fun q => h2 (by omega))
theorem n_lif_ne {i} {x y : Int} (hc : mj_code j k = some (.ifCond .ne i, nx, a, b, c)) (hx : -9223372036854775808 ≤ x ∧ x ≤ 9223372036854775807) (hy : -9223372036854775808 ≤ y ∧ y ≤ 9223372036854775807) (h1 : x ≠ y → nW xs d j a L st M Q) (h2 : x = y → nW xs d j nx L st M Q) : nW xs d j k L ((0, n_cmp x y) :: st) M Q := by
  have e1 := n_cmp_lt hx hy
  have e2 := n_cmp_gt hx hy
  have e3 := n_cmp_eq hx hy
  exact n_if0_ne hc (n_cmp_r x y) (fun q => h1 (by omega)) (fun q => h2 (by omega))
theorem n_lif_lt {i} {x y : Int} (hc : mj_code j k = some (.ifCond .lt i, nx, a, b, c)) (hx : -9223372036854775808 ≤ x ∧ x ≤ 9223372036854775807) (hy : -9223372036854775808 ≤ y ∧ y ≤ 9223372036854775807) (h1 : x < y → nW xs d j a L st M Q) (h2 : y ≤ x → nW xs d j nx L st M Q) : nW xs d j k L ((0, n_cmp x y) :: st) M Q := by
  have e1 := n_cmp_lt hx hy
  have e2 := n_cmp_gt hx hy
  have e3 := n_cmp_eq hx hy
  exact n_if0_lt hc (n_cmp_r x y) (fun q => h1 (by omega)) (fun q => h2 (by omega))
theorem n_lif_ge {i} {x y : Int} (hc : mj_code j k = some (.ifCond .ge i, nx, a, b, c)) (hx : -9223372036854775808 ≤ x ∧ x ≤ 9223372036854775807) (hy : -9223372036854775808 ≤ y ∧ y ≤ 9223372036854775807) (h1 : y ≤ x → nW xs d j a L st M Q) (h2 : x < y → nW xs d j nx L st M Q) : nW xs d j k L ((0, n_cmp x y) :: st) M Q := by
  have e1 := n_cmp_lt hx hy
  have e2 := n_cmp_gt hx hy
  have e3 := n_cmp_eq hx hy
  exact n_if0_ge hc (n_cmp_r x y) (fun q => h1 (by omega)) (fun q => h2 (by omega))
theorem n_lif_gt {i} {x y : Int} (hc : mj_code j k = some (.ifCond .gt i, nx, a, b, c)) (hx : -9223372036854775808 ≤ x ∧ x ≤ 9223372036854775807) (hy : -9223372036854775808 ≤ y ∧ y ≤ 9223372036854775807) (h1 : y < x → nW xs d j a L st M Q) (h2 : x ≤ y → nW xs d j nx L st M Q) : nW xs d j k L ((0, n_cmp x y) :: st) M Q := by
  have e1 := n_cmp_lt hx hy
  have e2 := n_cmp_gt hx hy
  have e3 := n_cmp_eq hx hy
  exact n_if0_gt hc (n_cmp_r x y) (fun q => h1 (by omega)) (fun q => h2 (by omega))
theorem n_lif_le {i} {x y : Int} (hc : mj_code j k = some (.ifCond .le i, nx, a, b, c)) (hx : -9223372036854775808 ≤ x ∧ x ≤ 9223372036854775807) (hy : -9223372036854775808 ≤ y ∧ y ≤ 9223372036854775807) (h1 : x ≤ y → nW xs d j a L st M Q) (h2 : y < x → nW xs d j nx L st M Q) : nW xs d j k L ((0, n_cmp x y) :: st) M Q := by
  have e1 := n_cmp_lt hx hy
  have e2 := n_cmp_gt hx hy
  have e3 := n_cmp_eq hx hy
  exact n_if0_le hc (n_cmp_r x y) (fun q => h1 (by omega)) (fun q => h2 (by omega))
theorem n_sw {x dd lo hi : Int} {offs : Array Int} (hc : mj_code j k = some (.tableswitch dd lo hi offs, nx, a, b, c)) (hx : -2147483648 ≤ x ∧ x ≤ 2147483647) (hd : 0 ≤ (k : Int) + dd) (h0 : x < lo ∨ hi < x → nW xs d j ((k : Int) + dd).toNat L st M Q) (h1 : lo ≤ x → x ≤ hi → ∃ o, offs[(x - lo).toNat]? = some o ∧ 0 ≤ (k : Int) + o ∧ nW xs d j ((k : Int) + o).toNat L st M Q) : nW xs d j k L ((0, x) :: st) M Q := by
  have e := n_i32 hx
  by_cases h : x < lo ∨ hi < x
  · refine n_gs hc (fun hp LL _ _ => ?_) (h0 h)
    show mj_isw k nx dd lo hi offs LL (.int (Int32.ofInt x) :: nvS st) = _
    unfold mj_isw
    simp only [e]
    rw [if_pos h, if_neg (by omega)]
    rfl
  · obtain ⟨o, g1, g2, g3⟩ := h1 (by omega) (by omega)
    refine n_gs hc (fun hp LL _ _ => ?_) g3
    show mj_isw k nx dd lo hi offs LL (.int (Int32.ofInt x) :: nvS st) = _
    unfold mj_isw
    simp only [e]
    rw [if_neg h, g1]
    simp only
    rw [if_neg (by omega)]
    rfl
/-! the heap -/
theorem n_getI {i} {r : Int} {n : Nat} (hc : mj_code j k = some (.getfield i, nx, a, b, c)) (hC : nC M r a n) (hb : Nat.blt b n = true) (hk : nkd a b = 0) (h : nW xs d j nx L ((0, M r b) :: st) M Q) : nW xs d j k L ((2, r) :: st) M Q := n_gs hc (fun hp LL hR hLL => by
  obtain ⟨vs, h1, h2, h3⟩ := hR.2.2 r a n hC
  have h4 := h3 b (n_blt hb)
  rw [hk, nval_0 (by rw [Int.toNat_natCast, hk]; decide)] at h4
  show mj_getf a b nx LL (.ref r.toNat :: nvS st) hp = _
  unfold mj_getf
  simp only [h1, Nat.beq_refl, cond_true, h4]
  rfl) h
theorem n_getr {i} {r z : Int} {n : Nat} (hc : mj_code j k = some (.getfield i, nx, a, b, c)) (hC : nC M r a n) (hb : Nat.blt b n = true) (hk : nkd a b = 2) (hv : nsr r b = some z) (h : nW xs d j nx L ((2, z) :: st) M Q) : nW xs d j k L ((2, r) :: st) M Q := n_gs hc (fun hp LL hR hLL => by
  obtain ⟨vs, h1, h2, h3⟩ := hR.2.2 r a n hC
  have h4 := h3 b (n_blt hb)
  rw [hk, nval_s (by rw [Int.toNat_natCast, hk]) hv] at h4
  show mj_getf a b nx LL (.ref r.toNat :: nvS st) hp = _
  unfold mj_getf
  simp only [h1, Nat.beq_refl, cond_true, h4]
  rfl) h
theorem n_getd {i} {r : Int} {n : Nat} (hc : mj_code j k = some (.getfield i, nx, a, b, c)) (hC : nC M r a n) (hb : Nat.blt b n = true) (hk : nkd a b = 2) (hv : nsr r b = none) (h : nW xs d j nx L ((2, M r b) :: st) M Q) : nW xs d j k L ((2, r) :: st) M Q := n_gs hc (fun hp LL hR hLL => by
  obtain ⟨vs, h1, h2, h3⟩ := hR.2.2 r a n hC
  have h4 := h3 b (n_blt hb)
  rw [hk, nval_d (by rw [Int.toNat_natCast, hk]) hv] at h4
  show mj_getf a b nx LL (.ref r.toNat :: nvS st) hp = _
  unfold mj_getf
  simp only [h1, Nat.beq_refl, cond_true, h4]
  rfl) h
theorem n_gets {i} (hc : mj_code j k = some (.getstatic i, nx, a, b, c)) (h : nW xs d j nx L ((2, (a : Int)) :: st) M Q) : nW xs d j k L st M Q := n_gs hc (fun _ _ _ _ => rfl) h
theorem n_clamp {i : Int} {n : Nat} (hi : 0 ≤ i ∧ i < (n : Int)) (hn : Nat.ble n 1000000 = true) : (Int32.ofInt i).toNatClampNeg = i.toNat ∧ ¬ Int32.ofInt i < 0 := by
  have hn := Nat.le_of_ble_eq_true hn
  have e := n_i32 (x := i) (by omega)
  refine ⟨?_, fun q => ?_⟩
  · show (Int32.ofInt i).toInt.toNat = i.toNat
    rw [e]
  · have := (n_lt (x := i) (y := 0) (by omega) (by omega)).mp q
    omega
theorem n_iaload {r i : Int} {cl n : Nat} (hc : mj_code j k = some (.iaload, nx, a, b, c)) (hC : nC M r cl n) (hcl : mj_isI cl = true) (hk : nkd cl i.toNat = 0) (hn : Nat.ble n 1000000 = true) (hi : 0 ≤ i ∧ i < (n : Int)) (h : nW xs d j nx L ((0, M r i) :: st) M Q) : nW xs d j k L ((0, i) :: (2, r) :: st) M Q := n_gs hc (fun hp LL hR hLL => by
  obtain ⟨vs, h1, h2, h3⟩ := hR.2.2 r cl n hC
  obtain ⟨e1, e2⟩ := n_clamp hi hn
  have h4 := h3 i.toNat (by omega)
  rw [hk, Int.toNat_of_nonneg hi.1, nval_0 (by rw [hk]; decide)] at h4
  show mj_iald nx LL (.int (Int32.ofInt i) :: .ref r.toNat :: nvS st) hp = _
  unfold mj_iald
  simp only [h1, if_neg e2, hcl, cond_true, e1, h4]
  rfl) h
theorem n_laload {r i : Int} {cl n : Nat} (hc : mj_code j k = some (.laload, nx, a, b, c)) (hC : nC M r cl n) (hcl : Nat.beq cl 14 = true) (hk : nkd cl i.toNat = 1) (hn : Nat.ble n 1000000 = true) (hi : 0 ≤ i ∧ i < (n : Int)) (h : nW xs d j nx L ((1, M r i) :: st) M Q) : nW xs d j k L ((0, i) :: (2, r) :: st) M Q := n_gs hc (fun hp LL hR hLL => by
  obtain ⟨vs, h1, h2, h3⟩ := hR.2.2 r cl n hC
  obtain ⟨e1, e2⟩ := n_clamp hi hn
  have h4 := h3 i.toNat (by omega)
  rw [hk, Int.toNat_of_nonneg hi.1, nval_0 (by rw [hk]; decide)] at h4
  show mj_lald nx LL (.int (Int32.ofInt i) :: .ref r.toNat :: nvS st) hp = _
  unfold mj_lald
  simp only [h1, if_neg e2, hcl, cond_true, e1, h4]
  rfl) h
theorem n_aaload {r i z : Int} {cl n : Nat} (hc : mj_code j k = some (.aaload, nx, a, b, c)) (hC : nC M r cl n) (hcl : mj_isR cl = true) (hk : nkd cl i.toNat = 2) (hn : Nat.ble n 1000000 = true) (hi : 0 ≤ i ∧ i < (n : Int)) (hv : nsr r i = some z) (h : nW xs d j nx L ((2, z) :: st) M Q) : nW xs d j k L ((0, i) :: (2, r) :: st) M Q := n_gs hc (fun hp LL hR hLL => by
  obtain ⟨vs, h1, h2, h3⟩ := hR.2.2 r cl n hC
  obtain ⟨e1, e2⟩ := n_clamp hi hn
  have h4 := h3 i.toNat (by omega)
  rw [hk, Int.toNat_of_nonneg hi.1, nval_s hk hv] at h4
  show mj_aald nx LL (.int (Int32.ofInt i) :: .ref r.toNat :: nvS st) hp = _
  unfold mj_aald
  simp only [h1, if_neg e2, hcl, cond_true, e1, h4]
  rfl) h
theorem n_alen {r : Int} {cl n : Nat} (hc : mj_code j k = some (.arraylength, nx, a, b, c)) (hC : nC M r cl n) (hcl : (Nat.ble 13 cl && Nat.ble cl 18) = true) (h : nW xs d j nx L ((0, (n : Int)) :: st) M Q) : nW xs d j k L ((2, r) :: st) M Q := n_gs hc (fun hp LL hR hLL => by
  obtain ⟨vs, h1, h2, h3⟩ := hR.2.2 r cl n hC
  show mj_alen nx LL (.ref r.toNat :: nvS st) hp = _
  unfold mj_alen
  simp only [h1, hcl, cond_true, h2]
  show mj_go nx LL (.int (Int32.ofNat n) :: nvS st) = some (.inl (nx, LL, .int (Int32.ofInt (n : Int)) :: nvS st))
  rw [Int32.ofInt_eq_ofNat]; rfl) h
theorem n_slen (hc : mj_code j k = some (.arraylength, nx, a, b, c)) (h : nW xs d j nx L ((0, (xs.length : Int)) :: st) M Q) : nW xs d j k L ((2, 2) :: st) M Q := n_gs hc (fun hp LL hR hLL => by
  have h1 := hR.2.1
  show mj_alen nx LL (.ref 2 :: nvS st) hp = _
  unfold mj_alen
  simp only [h1, List.length_map]
  show mj_go nx LL (.int (Int32.ofNat xs.length) :: nvS st) = some (.inl (nx, LL, .int (Int32.ofInt (xs.length : Int)) :: nvS st))
  rw [Int32.ofInt_eq_ofNat]; rfl) h
theorem n_sld {i z : Int} (hc : mj_code j k = some (.iaload, nx, a, b, c)) (hn : xs.length ≤ 1000000) (hi : 0 ≤ i ∧ i < (xs.length : Int)) (hv : (xs.getD i.toNat 0).toInt = z) (h : nW xs d j nx L ((0, z) :: st) M Q) : nW xs d j k L ((0, i) :: (2, 2) :: st) M Q := n_gs hc (fun hp LL hR hLL => by
  have h1 := hR.2.1
  obtain ⟨e1, e2⟩ := n_clamp hi (Nat.ble_eq_true_of_le hn)
  have hl : i.toNat < xs.length := by omega
  have h4 : (xs.map Value.int)[i.toNat]? = some (.int (xs.getD i.toNat 0)) := by
    rw [List.getElem?_map, List.getElem?_eq_getElem hl, List.getD_eq_getElem?_getD, List.getElem?_eq_getElem hl]
    rfl
  subst hv
  show mj_iald nx LL (.int (Int32.ofInt i) :: .ref 2 :: nvS st) hp = _
  unfold mj_iald
  simp only [h1, if_neg e2, e1, h4]
  show mj_go nx LL (.int (xs.getD i.toNat 0) :: nvS st) = some (.inl (nx, LL, .int (Int32.ofInt (xs.getD i.toNat 0).toInt) :: nvS st))
  rw [Int32.ofInt_toInt]; rfl) h
theorem nC.u {M : nM} {a i z r : Int} {c n : Nat} (ha : 0 ≤ a) : nC (nu M a i z) r c n ↔ nC M r c n := by
  unfold nC
  rw [nu_a (by omega)]
/-- a place is written -/
theorem nR.wr {hp : List mj_C} {r i z : Int} {cl n : Nat} (hR : nR xs M hp) (hC : nC M r cl n) (hi : 0 ≤ i ∧ i < (n : Int)) (hk : nkd cl i.toNat ≠ 2 ∨ nsr r i = none) {v : Value} (hv : v = nv (nkd cl i.toNat, z)) : nR xs (nu M r i z) (mj_wr hp r.toNat i.toNat v) := by
  obtain ⟨vs, h1, h2, h3⟩ := hR.2.2 r cl n hC
  have hr := hC.ge
  have e : mj_wr hp r.toNat i.toNat v = hp.set r.toNat (cl, vs.set i.toNat v) := by unfold mj_wr; rw [h1]
  have hl : r.toNat < hp.length := (List.getElem?_eq_some_iff.mp h1).1
  refine ⟨?_, ?_, ?_⟩
  · rw [e, List.length_set, nu_a (by omega)]
    exact hR.1
  · rw [e, List.getElem?_set_ne (by omega)]
    exact hR.2.1
  · intro a' c' n' hC'
    have hC2 : nC M a' c' n' := (nC.u hr.1).mp hC'
    obtain ⟨vs', g1, g2, g3⟩ := hR.2.2 a' c' n' hC2
    have ha := hC2.ge
    by_cases q : a' = r
    · subst q
      rw [h1] at g1
      cases g1
      refine ⟨vs.set i.toNat v, ?_, by rw [List.length_set]; exact g2, fun p hp' => ?_⟩
      · rw [e, List.getElem?_set_self hl]
      · by_cases w : p = i.toNat
        · subst w
          rw [List.getElem?_set_self (by omega), Int.toNat_of_nonneg hi.1, hv]
          congr 3
          rcases hk with hk | hk
          · rw [nval_0 hk, nu_s]
          · by_cases hk2 : nkd cl i.toNat = 2
            · rw [nval_d hk2 hk, nu_s]
            · rw [nval_0 hk2, nu_s]
        · rw [List.getElem?_set_ne (Ne.symm w), nval_e (nu_i (by omega))]
          exact g3 p hp'
    · refine ⟨vs', ?_, g2, fun p hp' => ?_⟩
      · rw [e, List.getElem?_set_ne (by omega)]
        exact g1
      · rw [nval_e (nu_a q)]
        exact g3 p hp'
theorem n_wrt {e : mj_E} {r i z : Int} {cl n : Nat} (hc : mj_code j k = some e) (hC : nC M r cl n) (hi : 0 ≤ i ∧ i < (n : Int)) (hk : nkd cl i.toNat ≠ 2 ∨ nsr r i = none) (hs : ∀ hp LL, nR xs M hp → mj_step j k e LL (nvS st) hp = some (.inr (.inl (r.toNat, i.toNat, nv (nkd cl i.toNat, z), nvS st2)))) (h : nW xs d j e.2.1 L st2 (nu M r i z) Q) : nW xs d j k L st M Q := fun hp LL hR hLL => mo_wr hc (hs hp LL hR) (h _ LL (hR.wr hC hi hk rfl) hLL)
theorem n_iastore {r i z : Int} {n : Nat} (hc : mj_code j k = some (.iastore, nx, a, b, c)) (hC : nC M r 13 n) (hn : Nat.ble n 1000000 = true) (hi : 0 ≤ i ∧ i < (n : Int)) (h : nW xs d j nx L st (nu M r i z) Q) : nW xs d j k L ((0, z) :: (0, i) :: (2, r) :: st) M Q := n_wrt hc hC hi (Or.inl (by show (0 : Nat) ≠ 2; decide)) (fun hp LL hR => by
  obtain ⟨vs, h1, h2, h3⟩ := hR.2.2 r 13 n hC
  obtain ⟨e1, e2⟩ := n_clamp hi hn
  have h4 := h3 i.toNat (by omega)
  show mj_iast (nv (0, z) :: .int (Int32.ofInt i) :: .ref r.toNat :: nvS st) hp = some (.inr (.inl (r.toNat, i.toNat, nv (0, z), nvS st)))
  unfold mj_iast
  simp only [nv, h1, if_neg e2, Nat.beq_refl, cond_true, e1, h4]
  rfl) h
theorem n_lastore {r i z : Int} {n : Nat} (hc : mj_code j k = some (.lastore, nx, a, b, c)) (hC : nC M r 14 n) (hn : Nat.ble n 1000000 = true) (hi : 0 ≤ i ∧ i < (n : Int)) (h : nW xs d j nx L st (nu M r i z) Q) : nW xs d j k L ((1, z) :: (0, i) :: (2, r) :: st) M Q := n_wrt hc hC hi (Or.inl (by show (1 : Nat) ≠ 2; decide)) (fun hp LL hR => by
  obtain ⟨vs, h1, h2, h3⟩ := hR.2.2 r 14 n hC
  obtain ⟨e1, e2⟩ := n_clamp hi hn
  have h4 := h3 i.toNat (by omega)
  show mj_last (nv (1, z) :: .int (Int32.ofInt i) :: .ref r.toNat :: nvS st) hp = some (.inr (.inl (r.toNat, i.toNat, nv (1, z), nvS st)))
  unfold mj_last
  simp only [nv, h1, if_neg e2, Nat.beq_refl, cond_true, e1, h4]
  rfl) h
theorem n_putI {i} {r z : Int} {n : Nat} (hc : mj_code j k = some (.putfield i, nx, a, b, c)) (hC : nC M r a n) (hb : Nat.blt b n = true) (hk : nkd a b = 0) (ht : mj_ty a b = .int) (h : nW xs d j nx L st (nu M r b z) Q) : nW xs d j k L ((0, z) :: (2, r) :: st) M Q := by
  have hb' := n_blt hb
  refine n_wrt (i := (b : Int)) hc hC ⟨by omega, by omega⟩ (Or.inl (by rw [Int.toNat_natCast, hk]; decide)) (fun hp LL hR => ?_) h
  obtain ⟨vs, h1, h2, h3⟩ := hR.2.2 r a n hC
  rw [Int.toNat_natCast, hk]
  show mj_putf a b (.int (Int32.ofInt z) :: .ref r.toNat :: nvS st) hp = some (.inr (.inl (r.toNat, b, .int (Int32.ofInt z), nvS st)))
  unfold mj_putf
  simp only [h1, Nat.beq_refl, cond_true, h3 b hb', ht]
  simp [narrow, fits, mj_w]
theorem n_putZ {i} {r z : Int} {n : Nat} (hc : mj_code j k = some (.putfield i, nx, a, b, c)) (hC : nC M r a n) (hb : Nat.blt b n = true) (hk : nkd a b = 0) (ht : mj_ty a b = .boolean) (hz : z = 0 ∨ z = 1) (h : nW xs d j nx L st (nu M r b z) Q) : nW xs d j k L ((0, z) :: (2, r) :: st) M Q := by
  have hb' := n_blt hb
  refine n_wrt (i := (b : Int)) hc hC ⟨by omega, by omega⟩ (Or.inl (by rw [Int.toNat_natCast, hk]; decide)) (fun hp LL hR => ?_) h
  obtain ⟨vs, h1, h2, h3⟩ := hR.2.2 r a n hC
  rw [Int.toNat_natCast, hk]
  show mj_putf a b (.int (Int32.ofInt z) :: .ref r.toNat :: nvS st) hp = some (.inr (.inl (r.toNat, b, .int (Int32.ofInt z), nvS st)))
  unfold mj_putf
  simp only [h1, Nat.beq_refl, cond_true, h3 b hb', ht]
  rcases hz with rfl | rfl <;> rfl
theorem n_putR {i} {r z : Int} {n : Nat} (hc : mj_code j k = some (.putfield i, nx, a, b, c)) (hC : nC M r a n) (hb : Nat.blt b n = true) (hk : nkd a b = 2) (ht : ∀ q, fits (mj_ty a b) (.ref q) = true) (hsr : nsr r b = none) (h : nW xs d j nx L st (nu M r b z) Q) : nW xs d j k L ((2, z) :: (2, r) :: st) M Q := by
  have hb' := n_blt hb
  refine n_wrt (i := (b : Int)) hc hC ⟨by omega, by omega⟩ (Or.inr hsr) (fun hp LL hR => ?_) h
  obtain ⟨vs, h1, h2, h3⟩ := hR.2.2 r a n hC
  rw [Int.toNat_natCast, hk]
  show mj_putf a b (.ref z.toNat :: .ref r.toNat :: nvS st) hp = some (.inr (.inl (r.toNat, b, .ref z.toNat, nvS st)))
  unfold mj_putf
  have hnr : narrow (mj_ty a b) (.ref z.toNat) = .ref z.toNat := by cases mj_ty a b <;> rfl
  simp only [h1, Nat.beq_refl, cond_true, h3 b hb', hnr, ht]
  simp [mj_w]
/-- the large row is made -/
def nbig (M : nM) : nM := fun a i => if a = -1 ∧ i = 0 then 1 else if a = 130 then 0 else M a i
theorem n_big (hc : mj_code j k = some (.newarray .int, nx, a, b, c)) (h0 : M (-1) 0 ≠ 1) (h : nW xs d j nx L ((2, 130) :: st) (nbig M) Q) : nW xs d j k L ((0, 19683) :: st) M Q := fun hp LL hR hLL => by
  have hl : hp.length = 130 := by rw [hR.1, if_neg h0]
  have key : nR xs (nbig M) (hp ++ [(13, List.replicate 19683 (.int 0))]) := by
    refine ⟨?_, ?_, ?_⟩
    · rw [List.length_append, hl]
      rfl
    · rw [List.getElem?_append_left (by omega)]
      exact hR.2.1
    · intro a' c' n' hC'
      rcases hC' with hC' | ⟨rfl, -, rfl, rfl⟩
      · obtain ⟨vs, g1, g2, g3⟩ := hR.2.2 a' c' n' (Or.inl hC')
        have hlt := (List.getElem?_eq_some_iff.mp g1).1
        have hge := hC'.1
        refine ⟨vs, by rw [List.getElem?_append_left hlt]; exact g1, g2, fun p hp' => ?_⟩
        have e : nbig M a' p = M a' p := by
          unfold nbig
          rw [if_neg (by omega), if_neg (by omega)]
        rw [nval_e e]
        exact g3 p hp'
      · refine ⟨List.replicate 19683 (.int 0), ?_, List.length_replicate, fun p hp' => ?_⟩
        · show (hp ++ [_])[130]? = _
          rw [List.getElem?_append_right (by omega), hl]
          rfl
        · rw [List.getElem?_replicate, if_pos hp']
          have e : nbig M 130 p = 0 := by
            unfold nbig
            rw [if_neg (by omega), if_pos rfl]
          rw [nval_0 (by show (0 : Nat) ≠ 2; decide), e]
          rfl
  refine mo_al hc (x := (13, List.replicate 19683 (.int 0))) (st2 := nvS st) ?_ ?_
  · show mj_newa .int (.int (Int32.ofInt 19683) :: nvS st) = _
    unfold mj_newa
    rfl
  · rw [hl]
    exact h _ LL key hLL
/-! calls -/
def nsl (as : List nX) : nL := as.flatMap fun v => match v.1 with
  | 1 => [some v, none]
  | _ => [some v]
def nent (n : Nat) (as : List nX) : nL := nsl as ++ List.replicate (n - (nsl as).length) none
def ncats (st : List nX) : Nat := match st with
  | [] => 0
  | v :: r => (match v.1 with
    | 1 => 2
    | _ => 1) + ncats r
theorem nsl_c (v : nX) (as : List nX) : nsl (v :: as) = (match v.1 with
  | 1 => [some v, none]
  | _ => [some v]) ++ nsl as := by
  unfold nsl
  rw [List.flatMap_cons]
theorem nvS_sl (as : List nX) : nvL (nsl as) = mj_sl (nvS as) := by
  induction as with
  | nil => rfl
  | cons v as ih =>
    rw [nsl_c]
    have e : mj_sl (nvS (v :: as)) = (if (nv v).category = 2 then [some (nv v), none] else [some (nv v)]) ++ mj_sl (nvS as) := rfl
    rw [e, ← ih]
    unfold nvL
    rw [List.map_append]
    congr 1
    obtain ⟨q, z⟩ := v
    rcases q with _ | _ | q
    · rfl
    · rfl
    · show [some (nv (q + 1 + 1, z))] = if (nv (q + 1 + 1, z)).category = 2 then _ else _
      rw [if_neg (by show ¬ ((1 : Nat) = 2); omega)]
theorem nvS_ent (n : Nat) (as : List nX) : nvL (nent n as) = mj_ent n (nvS as) := by
  unfold nent mj_ent
  have e1 := nvS_sl as
  have e2 : (mj_sl (nvS as)).length = (nsl as).length := by rw [← e1, nvL_len]
  rw [e2, ← e1]
  unfold nvL
  rw [List.map_append, List.map_replicate]
  rfl
theorem nvS_cats (st : List nX) : mj_cats (nvS st) = ncats st := by
  induction st with
  | nil => rfl
  | cons v st ih =>
    have e : mj_cats (nvS (v :: st)) = (nv v).category + mj_cats (nvS st) := by
      show ((nv v).category :: (nvS st).map fun v => v.category).sum = _
      rw [List.sum_cons]
      rfl
    rw [e, ih]
    obtain ⟨q, z⟩ := v
    rcases q with _ | _ | q <;> rfl
theorem n_ca {e : mj_E} {m : Nat} {as : List nX} {L0 : nL} {Qa : Option nX → nM → Prop} (hc : mj_code j k = some e) (hs : ∀ hp LL, nR xs M hp → mj_step j k e LL (nvS st) hp = some (.inr (.inr (.inr (.inl (m, nvS as, nvS st2)))))) (hl : Nat.ble (nsl as).length (mj_mx m).1 = true) (hE : nent (mj_mx m).1 as = L0) (h : nW xs d m 0 L0 [] M Qa) (h2 : ∀ w M1, Qa w M1 → nW xs (d + 1) j e.2.1 L (w.toList ++ st2) M1 Q) : nW xs (d + 1) j k L st M Q := fun hp LL hR hLL => by
  subst hE
  refine mo_ca hc (hs hp LL hR) rfl ?_ ?_
  · rw [← nvS_sl, nvL_len]
    exact Nat.le_of_ble_eq_true hl
  · rw [← nvS_ent]
    obtain ⟨n, r, hp1, g1, w, M1, rfl, g3, g4⟩ := h hp _ hR (nLr.of _)
    refine ⟨n, _, hp1, g1, ?_⟩
    have g5 := h2 w M1 g4 hp1 LL g3 hLL
    have e : nvS (w.toList ++ st2) = (w.map nv).toList ++ nvS st2 := by
      cases w <;> rfl
    rw [e] at g5
    exact g5
theorem n_vir {i} {m : Nat} {q : Int} {n : Nat} {ps : List nX} {as : List nX} {L0 : nL} {Qa : Option nX → nM → Prop} (hc : mj_code j k = some (.invokevirtual i, nx, m, b, c)) (hst : st = ps ++ (2, q) :: st2) (hp : ps.length = (mj_mx m).2.2) (ha : as = (2, q) :: ps.reverse) (hq : nC M q (mj_mx m).2.1 n) (h13 : Nat.blt (mj_mx m).2.1 13 = true) (hcat : Nat.ble (ncats st2) 8 = true) (hl : Nat.ble (nsl as).length (mj_mx m).1 = true) (hE : nent (mj_mx m).1 as = L0) (h : nW xs d m 0 L0 [] M Qa) (h2 : ∀ w M1, Qa w M1 → nW xs (d + 1) j nx L (w.toList ++ st2) M1 Q) : nW xs (d + 1) j k L st M Q := by
  refine n_ca (e := (.invokevirtual i, nx, m, b, c)) (st2 := st2) hc (fun hp' LL hR => ?_) hl hE h h2
  obtain ⟨vs, h1, -, -⟩ := hR.2.2 q _ n hq
  show mj_invV m (nvS st) hp' = _
  have e1 : (nvS st).drop (mj_mx m).2.2 = .ref q.toNat :: nvS st2 := by
    rw [hst, ← hp]
    unfold nvS
    rw [List.map_append, List.drop_left' (List.length_map _)]
    rfl
  have e2 : (nvS st).take (mj_mx m).2.2 = nvS ps := by
    rw [hst, ← hp]
    unfold nvS
    rw [List.map_append, List.take_left' (List.length_map _)]
  unfold mj_invV
  simp only [e1, e2, h1, Nat.beq_refl, nvS_cats, hcat, h13, Bool.and_self, cond_true]
  show mj_ca m (.ref q.toNat :: (nvS ps).reverse) (nvS st2) = mj_ca m (nvS as) (nvS st2)
  have e3 : nvS as = .ref q.toNat :: (nvS ps).reverse := by
    rw [ha]
    show nv (2, q) :: nvS ps.reverse = _
    unfold nvS
    rw [List.map_reverse]
    rfl
  rw [e3]
theorem n_sta {i} {m : Nat} {ps : List nX} {as : List nX} {L0 : nL} {Qa : Option nX → nM → Prop} (hc : mj_code j k = some (.invokestatic i, nx, m, b, c)) (hst : st = ps ++ st2) (hp : ps.length = (mj_mx m).2.2) (ha : as = ps.reverse) (hcat : Nat.ble (ncats st2) 8 = true) (hl : Nat.ble (nsl as).length (mj_mx m).1 = true) (hE : nent (mj_mx m).1 as = L0) (h : nW xs d m 0 L0 [] M Qa) (h2 : ∀ w M1, Qa w M1 → nW xs (d + 1) j nx L (w.toList ++ st2) M1 Q) : nW xs (d + 1) j k L st M Q := by
  refine n_ca (e := (.invokestatic i, nx, m, b, c)) (st2 := st2) hc (fun hp' LL hR => ?_) hl hE h h2
  show mj_invS m (nvS st) = _
  have e1 : (nvS st).drop (mj_mx m).2.2 = nvS st2 := by
    rw [hst, ← hp]
    unfold nvS
    rw [List.map_append, List.drop_left' (List.length_map _)]
  have e2 : (nvS st).take (mj_mx m).2.2 = nvS ps := by
    rw [hst, ← hp]
    unfold nvS
    rw [List.map_append, List.take_left' (List.length_map _)]
  have e4 : Nat.ble (mj_mx m).2.2 (nvS st).length = true := by
    apply Nat.ble_eq_true_of_le
    rw [hst, ← hp]
    unfold nvS
    rw [List.length_map, List.length_append]
    omega
  unfold mj_invS
  simp only [e1, e2, e4, nvS_cats, hcat, Bool.and_self, cond_true]
  show mj_ca m (nvS ps).reverse (nvS st2) = mj_ca m (nvS as) (nvS st2)
  have e3 : nvS as = (nvS ps).reverse := by
    rw [ha]
    unfold nvS
    rw [List.map_reverse]
  rw [e3]
theorem n_v0 {i} {m n : Nat} {q : Int} {L0 : nL} {Qa : Option nX → nM → Prop} (hc : mj_code j k = some (.invokevirtual i, nx, m, b, c)) (hp : (mj_mx m).2.2 = 0) (hq : nC M q (mj_mx m).2.1 n) (h13 : Nat.blt (mj_mx m).2.1 13 = true) (hcat : Nat.ble (ncats st) 8 = true) (hl : Nat.ble (nsl [(2, q)]).length (mj_mx m).1 = true) (hE : nent (mj_mx m).1 [(2, q)] = L0) (h : nW xs d m 0 L0 [] M Qa) (h2 : ∀ w M1, Qa w M1 → nW xs (d + 1) j nx L (w.toList ++ st) M1 Q) : nW xs (d + 1) j k L ((2, q) :: st) M Q := n_vir (ps := []) (as := [(2, q)]) hc rfl hp.symm rfl hq h13 hcat hl hE h h2
theorem n_s0 {i} {m : Nat} {L0 : nL} {Qa : Option nX → nM → Prop} (hc : mj_code j k = some (.invokestatic i, nx, m, b, c)) (hp : (mj_mx m).2.2 = 0) (hcat : Nat.ble (ncats st) 8 = true) (hl : Nat.ble (nsl []).length (mj_mx m).1 = true) (hE : nent (mj_mx m).1 [] = L0) (h : nW xs d m 0 L0 [] M Qa) (h2 : ∀ w M1, Qa w M1 → nW xs (d + 1) j nx L (w.toList ++ st) M1 Q) : nW xs (d + 1) j k L (st) M Q := n_sta (ps := []) (as := []) hc rfl hp.symm rfl hcat hl hE h h2
theorem n_v1 {i} {m n : Nat} {q : Int} {p0 : nX} {L0 : nL} {Qa : Option nX → nM → Prop} (hc : mj_code j k = some (.invokevirtual i, nx, m, b, c)) (hp : (mj_mx m).2.2 = 1) (hq : nC M q (mj_mx m).2.1 n) (h13 : Nat.blt (mj_mx m).2.1 13 = true) (hcat : Nat.ble (ncats st) 8 = true) (hl : Nat.ble (nsl [(2, q), p0]).length (mj_mx m).1 = true) (hE : nent (mj_mx m).1 [(2, q), p0] = L0) (h : nW xs d m 0 L0 [] M Qa) (h2 : ∀ w M1, Qa w M1 → nW xs (d + 1) j nx L (w.toList ++ st) M1 Q) : nW xs (d + 1) j k L (p0 :: (2, q) :: st) M Q := n_vir (ps := [p0]) (as := [(2, q), p0]) hc rfl hp.symm rfl hq h13 hcat hl hE h h2
theorem n_s1 {i} {m : Nat} {p0 : nX} {L0 : nL} {Qa : Option nX → nM → Prop} (hc : mj_code j k = some (.invokestatic i, nx, m, b, c)) (hp : (mj_mx m).2.2 = 1) (hcat : Nat.ble (ncats st) 8 = true) (hl : Nat.ble (nsl [p0]).length (mj_mx m).1 = true) (hE : nent (mj_mx m).1 [p0] = L0) (h : nW xs d m 0 L0 [] M Qa) (h2 : ∀ w M1, Qa w M1 → nW xs (d + 1) j nx L (w.toList ++ st) M1 Q) : nW xs (d + 1) j k L (p0 :: st) M Q := n_sta (ps := [p0]) (as := [p0]) hc rfl hp.symm rfl hcat hl hE h h2
theorem n_v2 {i} {m n : Nat} {q : Int} {p0 p1 : nX} {L0 : nL} {Qa : Option nX → nM → Prop} (hc : mj_code j k = some (.invokevirtual i, nx, m, b, c)) (hp : (mj_mx m).2.2 = 2) (hq : nC M q (mj_mx m).2.1 n) (h13 : Nat.blt (mj_mx m).2.1 13 = true) (hcat : Nat.ble (ncats st) 8 = true) (hl : Nat.ble (nsl [(2, q), p1, p0]).length (mj_mx m).1 = true) (hE : nent (mj_mx m).1 [(2, q), p1, p0] = L0) (h : nW xs d m 0 L0 [] M Qa) (h2 : ∀ w M1, Qa w M1 → nW xs (d + 1) j nx L (w.toList ++ st) M1 Q) : nW xs (d + 1) j k L (p0 :: p1 :: (2, q) :: st) M Q := n_vir (ps := [p0, p1]) (as := [(2, q), p1, p0]) hc rfl hp.symm rfl hq h13 hcat hl hE h h2
theorem n_s2 {i} {m : Nat} {p0 p1 : nX} {L0 : nL} {Qa : Option nX → nM → Prop} (hc : mj_code j k = some (.invokestatic i, nx, m, b, c)) (hp : (mj_mx m).2.2 = 2) (hcat : Nat.ble (ncats st) 8 = true) (hl : Nat.ble (nsl [p1, p0]).length (mj_mx m).1 = true) (hE : nent (mj_mx m).1 [p1, p0] = L0) (h : nW xs d m 0 L0 [] M Qa) (h2 : ∀ w M1, Qa w M1 → nW xs (d + 1) j nx L (w.toList ++ st) M1 Q) : nW xs (d + 1) j k L (p0 :: p1 :: st) M Q := n_sta (ps := [p0, p1]) (as := [p1, p0]) hc rfl hp.symm rfl hcat hl hE h h2
theorem n_v3 {i} {m n : Nat} {q : Int} {p0 p1 p2 : nX} {L0 : nL} {Qa : Option nX → nM → Prop} (hc : mj_code j k = some (.invokevirtual i, nx, m, b, c)) (hp : (mj_mx m).2.2 = 3) (hq : nC M q (mj_mx m).2.1 n) (h13 : Nat.blt (mj_mx m).2.1 13 = true) (hcat : Nat.ble (ncats st) 8 = true) (hl : Nat.ble (nsl [(2, q), p2, p1, p0]).length (mj_mx m).1 = true) (hE : nent (mj_mx m).1 [(2, q), p2, p1, p0] = L0) (h : nW xs d m 0 L0 [] M Qa) (h2 : ∀ w M1, Qa w M1 → nW xs (d + 1) j nx L (w.toList ++ st) M1 Q) : nW xs (d + 1) j k L (p0 :: p1 :: p2 :: (2, q) :: st) M Q := n_vir (ps := [p0, p1, p2]) (as := [(2, q), p2, p1, p0]) hc rfl hp.symm rfl hq h13 hcat hl hE h h2
theorem n_s3 {i} {m : Nat} {p0 p1 p2 : nX} {L0 : nL} {Qa : Option nX → nM → Prop} (hc : mj_code j k = some (.invokestatic i, nx, m, b, c)) (hp : (mj_mx m).2.2 = 3) (hcat : Nat.ble (ncats st) 8 = true) (hl : Nat.ble (nsl [p2, p1, p0]).length (mj_mx m).1 = true) (hE : nent (mj_mx m).1 [p2, p1, p0] = L0) (h : nW xs d m 0 L0 [] M Qa) (h2 : ∀ w M1, Qa w M1 → nW xs (d + 1) j nx L (w.toList ++ st) M1 Q) : nW xs (d + 1) j k L (p0 :: p1 :: p2 :: st) M Q := n_sta (ps := [p0, p1, p2]) (as := [p2, p1, p0]) hc rfl hp.symm rfl hcat hl hE h h2
theorem n_v4 {i} {m n : Nat} {q : Int} {p0 p1 p2 p3 : nX} {L0 : nL} {Qa : Option nX → nM → Prop} (hc : mj_code j k = some (.invokevirtual i, nx, m, b, c)) (hp : (mj_mx m).2.2 = 4) (hq : nC M q (mj_mx m).2.1 n) (h13 : Nat.blt (mj_mx m).2.1 13 = true) (hcat : Nat.ble (ncats st) 8 = true) (hl : Nat.ble (nsl [(2, q), p3, p2, p1, p0]).length (mj_mx m).1 = true) (hE : nent (mj_mx m).1 [(2, q), p3, p2, p1, p0] = L0) (h : nW xs d m 0 L0 [] M Qa) (h2 : ∀ w M1, Qa w M1 → nW xs (d + 1) j nx L (w.toList ++ st) M1 Q) : nW xs (d + 1) j k L (p0 :: p1 :: p2 :: p3 :: (2, q) :: st) M Q := n_vir (ps := [p0, p1, p2, p3]) (as := [(2, q), p3, p2, p1, p0]) hc rfl hp.symm rfl hq h13 hcat hl hE h h2
theorem n_s4 {i} {m : Nat} {p0 p1 p2 p3 : nX} {L0 : nL} {Qa : Option nX → nM → Prop} (hc : mj_code j k = some (.invokestatic i, nx, m, b, c)) (hp : (mj_mx m).2.2 = 4) (hcat : Nat.ble (ncats st) 8 = true) (hl : Nat.ble (nsl [p3, p2, p1, p0]).length (mj_mx m).1 = true) (hE : nent (mj_mx m).1 [p3, p2, p1, p0] = L0) (h : nW xs d m 0 L0 [] M Qa) (h2 : ∀ w M1, Qa w M1 → nW xs (d + 1) j nx L (w.toList ++ st) M1 Q) : nW xs (d + 1) j k L (p0 :: p1 :: p2 :: p3 :: st) M Q := n_sta (ps := [p0, p1, p2, p3]) (as := [p3, p2, p1, p0]) hc rfl hp.symm rfl hcat hl hE h h2
theorem n_v5 {i} {m n : Nat} {q : Int} {p0 p1 p2 p3 p4 : nX} {L0 : nL} {Qa : Option nX → nM → Prop} (hc : mj_code j k = some (.invokevirtual i, nx, m, b, c)) (hp : (mj_mx m).2.2 = 5) (hq : nC M q (mj_mx m).2.1 n) (h13 : Nat.blt (mj_mx m).2.1 13 = true) (hcat : Nat.ble (ncats st) 8 = true) (hl : Nat.ble (nsl [(2, q), p4, p3, p2, p1, p0]).length (mj_mx m).1 = true) (hE : nent (mj_mx m).1 [(2, q), p4, p3, p2, p1, p0] = L0) (h : nW xs d m 0 L0 [] M Qa) (h2 : ∀ w M1, Qa w M1 → nW xs (d + 1) j nx L (w.toList ++ st) M1 Q) : nW xs (d + 1) j k L (p0 :: p1 :: p2 :: p3 :: p4 :: (2, q) :: st) M Q := n_vir (ps := [p0, p1, p2, p3, p4]) (as := [(2, q), p4, p3, p2, p1, p0]) hc rfl hp.symm rfl hq h13 hcat hl hE h h2
theorem n_s5 {i} {m : Nat} {p0 p1 p2 p3 p4 : nX} {L0 : nL} {Qa : Option nX → nM → Prop} (hc : mj_code j k = some (.invokestatic i, nx, m, b, c)) (hp : (mj_mx m).2.2 = 5) (hcat : Nat.ble (ncats st) 8 = true) (hl : Nat.ble (nsl [p4, p3, p2, p1, p0]).length (mj_mx m).1 = true) (hE : nent (mj_mx m).1 [p4, p3, p2, p1, p0] = L0) (h : nW xs d m 0 L0 [] M Qa) (h2 : ∀ w M1, Qa w M1 → nW xs (d + 1) j nx L (w.toList ++ st) M1 Q) : nW xs (d + 1) j k L (p0 :: p1 :: p2 :: p3 :: p4 :: st) M Q := n_sta (ps := [p0, p1, p2, p3, p4]) (as := [p4, p3, p2, p1, p0]) hc rfl hp.symm rfl hcat hl hE h h2
theorem n_v6 {i} {m n : Nat} {q : Int} {p0 p1 p2 p3 p4 p5 : nX} {L0 : nL} {Qa : Option nX → nM → Prop} (hc : mj_code j k = some (.invokevirtual i, nx, m, b, c)) (hp : (mj_mx m).2.2 = 6) (hq : nC M q (mj_mx m).2.1 n) (h13 : Nat.blt (mj_mx m).2.1 13 = true) (hcat : Nat.ble (ncats st) 8 = true) (hl : Nat.ble (nsl [(2, q), p5, p4, p3, p2, p1, p0]).length (mj_mx m).1 = true) (hE : nent (mj_mx m).1 [(2, q), p5, p4, p3, p2, p1, p0] = L0) (h : nW xs d m 0 L0 [] M Qa) (h2 : ∀ w M1, Qa w M1 → nW xs (d + 1) j nx L (w.toList ++ st) M1 Q) : nW xs (d + 1) j k L (p0 :: p1 :: p2 :: p3 :: p4 :: p5 :: (2, q) :: st) M Q := n_vir (ps := [p0, p1, p2, p3, p4, p5]) (as := [(2, q), p5, p4, p3, p2, p1, p0]) hc rfl hp.symm rfl hq h13 hcat hl hE h h2
theorem n_s6 {i} {m : Nat} {p0 p1 p2 p3 p4 p5 : nX} {L0 : nL} {Qa : Option nX → nM → Prop} (hc : mj_code j k = some (.invokestatic i, nx, m, b, c)) (hp : (mj_mx m).2.2 = 6) (hcat : Nat.ble (ncats st) 8 = true) (hl : Nat.ble (nsl [p5, p4, p3, p2, p1, p0]).length (mj_mx m).1 = true) (hE : nent (mj_mx m).1 [p5, p4, p3, p2, p1, p0] = L0) (h : nW xs d m 0 L0 [] M Qa) (h2 : ∀ w M1, Qa w M1 → nW xs (d + 1) j nx L (w.toList ++ st) M1 Q) : nW xs (d + 1) j k L (p0 :: p1 :: p2 :: p3 :: p4 :: p5 :: st) M Q := n_sta (ps := [p0, p1, p2, p3, p4, p5]) (as := [p5, p4, p3, p2, p1, p0]) hc rfl hp.symm rfl hcat hl hE h h2
theorem n_v7 {i} {m n : Nat} {q : Int} {p0 p1 p2 p3 p4 p5 p6 : nX} {L0 : nL} {Qa : Option nX → nM → Prop} (hc : mj_code j k = some (.invokevirtual i, nx, m, b, c)) (hp : (mj_mx m).2.2 = 7) (hq : nC M q (mj_mx m).2.1 n) (h13 : Nat.blt (mj_mx m).2.1 13 = true) (hcat : Nat.ble (ncats st) 8 = true) (hl : Nat.ble (nsl [(2, q), p6, p5, p4, p3, p2, p1, p0]).length (mj_mx m).1 = true) (hE : nent (mj_mx m).1 [(2, q), p6, p5, p4, p3, p2, p1, p0] = L0) (h : nW xs d m 0 L0 [] M Qa) (h2 : ∀ w M1, Qa w M1 → nW xs (d + 1) j nx L (w.toList ++ st) M1 Q) : nW xs (d + 1) j k L (p0 :: p1 :: p2 :: p3 :: p4 :: p5 :: p6 :: (2, q) :: st) M Q := n_vir (ps := [p0, p1, p2, p3, p4, p5, p6]) (as := [(2, q), p6, p5, p4, p3, p2, p1, p0]) hc rfl hp.symm rfl hq h13 hcat hl hE h h2
theorem n_s7 {i} {m : Nat} {p0 p1 p2 p3 p4 p5 p6 : nX} {L0 : nL} {Qa : Option nX → nM → Prop} (hc : mj_code j k = some (.invokestatic i, nx, m, b, c)) (hp : (mj_mx m).2.2 = 7) (hcat : Nat.ble (ncats st) 8 = true) (hl : Nat.ble (nsl [p6, p5, p4, p3, p2, p1, p0]).length (mj_mx m).1 = true) (hE : nent (mj_mx m).1 [p6, p5, p4, p3, p2, p1, p0] = L0) (h : nW xs d m 0 L0 [] M Qa) (h2 : ∀ w M1, Qa w M1 → nW xs (d + 1) j nx L (w.toList ++ st) M1 Q) : nW xs (d + 1) j k L (p0 :: p1 :: p2 :: p3 :: p4 :: p5 :: p6 :: st) M Q := n_sta (ps := [p0, p1, p2, p3, p4, p5, p6]) (as := [p6, p5, p4, p3, p2, p1, p0]) hc rfl hp.symm rfl hcat hl hE h h2
theorem n_re {e : mj_E} {w : Option nX} (hc : mj_code j k = some e) (hs : ∀ hp LL, mj_step j k e LL (nvS st) hp = some (.inr (.inr (.inr (.inr (w.map nv)))))) (h : Q w M) : nW xs d j k L st M Q := fun hp LL hR hLL => mo_re hc (hs hp LL) ⟨w, M, rfl, hR, h⟩
theorem n_iret {z : Int} (hc : mj_code j k = some (.ireturn, nx, a, b, c)) (hr : mj_rt j = some .int) (h : Q (some (0, z)) M) : nW xs d j k L [(0, z)] M Q := n_re (w := some (0, z)) hc (fun hp LL => by
  show mj_fir j [.int (Int32.ofInt z)] = _
  unfold mj_fir
  simp only [hr]
  rfl) h
theorem n_zret {z : Int} (hc : mj_code j k = some (.ireturn, nx, a, b, c)) (hr : mj_rt j = some .boolean) (hz : z = 0 ∨ z = 1) (h : Q (some (0, z)) M) : nW xs d j k L [(0, z)] M Q := n_re (w := some (0, z)) hc (fun hp LL => by
  show mj_fir j [.int (Int32.ofInt z)] = _
  unfold mj_fir
  simp only [hr]
  rcases hz with rfl | rfl <;> rfl) h
theorem n_lret {z : Int} (hc : mj_code j k = some (.lreturn, nx, a, b, c)) (hr : mj_rt j = some .long) (h : Q (some (1, z)) M) : nW xs d j k L [(1, z)] M Q := n_re (w := some (1, z)) hc (fun hp LL => by
  show mj_flr j [.long (Int64.ofInt z)] = _
  unfold mj_flr
  simp only [hr]
  rfl) h
theorem n_aret {z : Int} (hc : mj_code j k = some (.areturn, nx, a, b, c)) (hr : (match mj_rt j with
    | some (.object _) => true
    | some (.array _) => true
    | _ => false) = true) (h : Q (some (2, z)) M) : nW xs d j k L [(2, z)] M Q := n_re (w := some (2, z)) hc (fun hp LL => by
  show mj_far j [.ref z.toNat] = _
  unfold mj_far
  simp only
  split at hr
  · rename_i e; rw [e]; rfl
  · rename_i e; rw [e]; rfl
  · cases hr) h
theorem n_vret (hc : mj_code j k = some (.return_, nx, a, b, c)) (hr : mj_rt j = none) (h : Q none M) : nW xs d j k L [] M Q := n_re (w := none) hc (fun hp LL => by
  show mj_fvr j [] = _
  unfold mj_fvr
  simp only [hr]
  rfl) h
def nPI (P : Int → nM → Prop) : Option nX → nM → Prop := fun w M => ∃ z, w = some (0, z) ∧ P z M
def nPJ (P : Int → nM → Prop) : Option nX → nM → Prop := fun w M => ∃ z, w = some (1, z) ∧ P z M
def nPA (P : Int → nM → Prop) : Option nX → nM → Prop := fun w M => ∃ z, w = some (2, z) ∧ P z M
def nPV (P : nM → Prop) : Option nX → nM → Prop := fun w M => w = none ∧ P M
theorem n_rI {P : Int → nM → Prop} {z : Int} (hc : mj_code j k = some (.ireturn, nx, a, b, c)) (hr : mj_rt j = some .int) (h : P z M) : nW xs d j k L [(0, z)] M (nPI P) := n_iret hc hr ⟨z, rfl, h⟩
theorem n_rZ {P : Int → nM → Prop} {z : Int} (hc : mj_code j k = some (.ireturn, nx, a, b, c)) (hr : mj_rt j = some .boolean) (hz : z = 0 ∨ z = 1) (h : P z M) : nW xs d j k L [(0, z)] M (nPI P) := n_zret hc hr hz ⟨z, rfl, h⟩
theorem n_rJ {P : Int → nM → Prop} {z : Int} (hc : mj_code j k = some (.lreturn, nx, a, b, c)) (hr : mj_rt j = some .long) (h : P z M) : nW xs d j k L [(1, z)] M (nPJ P) := n_lret hc hr ⟨z, rfl, h⟩
theorem n_rA {P : Int → nM → Prop} {z : Int} (hc : mj_code j k = some (.areturn, nx, a, b, c)) (hr : (match mj_rt j with
    | some (.object _) => true
    | some (.array _) => true
    | _ => false) = true) (h : P z M) : nW xs d j k L [(2, z)] M (nPA P) := n_aret hc hr ⟨z, rfl, h⟩
theorem n_rV {P : nM → Prop} (hc : mj_code j k = some (.return_, nx, a, b, c)) (hr : mj_rt j = none) (h : P M) : nW xs d j k L [] M (nPV P) := n_vret hc hr ⟨rfl, h⟩

theorem n_v0I {i} {m n : Nat} {q : Int} {L0 : nL} {P : Int → nM → Prop} (hc : mj_code j k = some (.invokevirtual i, nx, m, b, c)) (hp : (mj_mx m).2.2 = 0) (hq : nC M q (mj_mx m).2.1 n) (h13 : Nat.blt (mj_mx m).2.1 13 = true) (hcat : Nat.ble (ncats st) 8 = true) (hl : Nat.ble (nsl [(2, q)]).length (mj_mx m).1 = true) (hE : nent (mj_mx m).1 [(2, q)] = L0) (h : nW xs d m 0 L0 [] M (nPI P)) (h2 : ∀ z M1, P z M1 → nW xs (d + 1) j nx L ((0, z) :: st) M1 Q) : nW xs (d + 1) j k L ((2, q) :: st) M Q := n_v0 hc hp hq h13 hcat hl hE h (fun w M1 hw => by obtain ⟨z, rfl, hP⟩ := hw; exact h2 z M1 hP)
theorem n_v0J {i} {m n : Nat} {q : Int} {L0 : nL} {P : Int → nM → Prop} (hc : mj_code j k = some (.invokevirtual i, nx, m, b, c)) (hp : (mj_mx m).2.2 = 0) (hq : nC M q (mj_mx m).2.1 n) (h13 : Nat.blt (mj_mx m).2.1 13 = true) (hcat : Nat.ble (ncats st) 8 = true) (hl : Nat.ble (nsl [(2, q)]).length (mj_mx m).1 = true) (hE : nent (mj_mx m).1 [(2, q)] = L0) (h : nW xs d m 0 L0 [] M (nPJ P)) (h2 : ∀ z M1, P z M1 → nW xs (d + 1) j nx L ((1, z) :: st) M1 Q) : nW xs (d + 1) j k L ((2, q) :: st) M Q := n_v0 hc hp hq h13 hcat hl hE h (fun w M1 hw => by obtain ⟨z, rfl, hP⟩ := hw; exact h2 z M1 hP)
theorem n_v0A {i} {m n : Nat} {q : Int} {L0 : nL} {P : Int → nM → Prop} (hc : mj_code j k = some (.invokevirtual i, nx, m, b, c)) (hp : (mj_mx m).2.2 = 0) (hq : nC M q (mj_mx m).2.1 n) (h13 : Nat.blt (mj_mx m).2.1 13 = true) (hcat : Nat.ble (ncats st) 8 = true) (hl : Nat.ble (nsl [(2, q)]).length (mj_mx m).1 = true) (hE : nent (mj_mx m).1 [(2, q)] = L0) (h : nW xs d m 0 L0 [] M (nPA P)) (h2 : ∀ z M1, P z M1 → nW xs (d + 1) j nx L ((2, z) :: st) M1 Q) : nW xs (d + 1) j k L ((2, q) :: st) M Q := n_v0 hc hp hq h13 hcat hl hE h (fun w M1 hw => by obtain ⟨z, rfl, hP⟩ := hw; exact h2 z M1 hP)
theorem n_v0V {i} {m n : Nat} {q : Int} {L0 : nL} {P : nM → Prop} (hc : mj_code j k = some (.invokevirtual i, nx, m, b, c)) (hp : (mj_mx m).2.2 = 0) (hq : nC M q (mj_mx m).2.1 n) (h13 : Nat.blt (mj_mx m).2.1 13 = true) (hcat : Nat.ble (ncats st) 8 = true) (hl : Nat.ble (nsl [(2, q)]).length (mj_mx m).1 = true) (hE : nent (mj_mx m).1 [(2, q)] = L0) (h : nW xs d m 0 L0 [] M (nPV P)) (h2 : ∀ M1, P M1 → nW xs (d + 1) j nx L st M1 Q) : nW xs (d + 1) j k L ((2, q) :: st) M Q := n_v0 hc hp hq h13 hcat hl hE h (fun w M1 hw => by obtain ⟨rfl, hP⟩ := hw; exact h2 M1 hP)
theorem n_s0I {i} {m : Nat} {L0 : nL} {P : Int → nM → Prop} (hc : mj_code j k = some (.invokestatic i, nx, m, b, c)) (hp : (mj_mx m).2.2 = 0) (hcat : Nat.ble (ncats st) 8 = true) (hl : Nat.ble (nsl []).length (mj_mx m).1 = true) (hE : nent (mj_mx m).1 [] = L0) (h : nW xs d m 0 L0 [] M (nPI P)) (h2 : ∀ z M1, P z M1 → nW xs (d + 1) j nx L ((0, z) :: st) M1 Q) : nW xs (d + 1) j k L (st) M Q := n_s0 hc hp hcat hl hE h (fun w M1 hw => by obtain ⟨z, rfl, hP⟩ := hw; exact h2 z M1 hP)
theorem n_s0J {i} {m : Nat} {L0 : nL} {P : Int → nM → Prop} (hc : mj_code j k = some (.invokestatic i, nx, m, b, c)) (hp : (mj_mx m).2.2 = 0) (hcat : Nat.ble (ncats st) 8 = true) (hl : Nat.ble (nsl []).length (mj_mx m).1 = true) (hE : nent (mj_mx m).1 [] = L0) (h : nW xs d m 0 L0 [] M (nPJ P)) (h2 : ∀ z M1, P z M1 → nW xs (d + 1) j nx L ((1, z) :: st) M1 Q) : nW xs (d + 1) j k L (st) M Q := n_s0 hc hp hcat hl hE h (fun w M1 hw => by obtain ⟨z, rfl, hP⟩ := hw; exact h2 z M1 hP)
theorem n_s0A {i} {m : Nat} {L0 : nL} {P : Int → nM → Prop} (hc : mj_code j k = some (.invokestatic i, nx, m, b, c)) (hp : (mj_mx m).2.2 = 0) (hcat : Nat.ble (ncats st) 8 = true) (hl : Nat.ble (nsl []).length (mj_mx m).1 = true) (hE : nent (mj_mx m).1 [] = L0) (h : nW xs d m 0 L0 [] M (nPA P)) (h2 : ∀ z M1, P z M1 → nW xs (d + 1) j nx L ((2, z) :: st) M1 Q) : nW xs (d + 1) j k L (st) M Q := n_s0 hc hp hcat hl hE h (fun w M1 hw => by obtain ⟨z, rfl, hP⟩ := hw; exact h2 z M1 hP)
theorem n_s0V {i} {m : Nat} {L0 : nL} {P : nM → Prop} (hc : mj_code j k = some (.invokestatic i, nx, m, b, c)) (hp : (mj_mx m).2.2 = 0) (hcat : Nat.ble (ncats st) 8 = true) (hl : Nat.ble (nsl []).length (mj_mx m).1 = true) (hE : nent (mj_mx m).1 [] = L0) (h : nW xs d m 0 L0 [] M (nPV P)) (h2 : ∀ M1, P M1 → nW xs (d + 1) j nx L st M1 Q) : nW xs (d + 1) j k L (st) M Q := n_s0 hc hp hcat hl hE h (fun w M1 hw => by obtain ⟨rfl, hP⟩ := hw; exact h2 M1 hP)
theorem n_v1I {i} {m n : Nat} {q : Int} {p0 : nX} {L0 : nL} {P : Int → nM → Prop} (hc : mj_code j k = some (.invokevirtual i, nx, m, b, c)) (hp : (mj_mx m).2.2 = 1) (hq : nC M q (mj_mx m).2.1 n) (h13 : Nat.blt (mj_mx m).2.1 13 = true) (hcat : Nat.ble (ncats st) 8 = true) (hl : Nat.ble (nsl [(2, q), p0]).length (mj_mx m).1 = true) (hE : nent (mj_mx m).1 [(2, q), p0] = L0) (h : nW xs d m 0 L0 [] M (nPI P)) (h2 : ∀ z M1, P z M1 → nW xs (d + 1) j nx L ((0, z) :: st) M1 Q) : nW xs (d + 1) j k L (p0 :: (2, q) :: st) M Q := n_v1 hc hp hq h13 hcat hl hE h (fun w M1 hw => by obtain ⟨z, rfl, hP⟩ := hw; exact h2 z M1 hP)
theorem n_v1J {i} {m n : Nat} {q : Int} {p0 : nX} {L0 : nL} {P : Int → nM → Prop} (hc : mj_code j k = some (.invokevirtual i, nx, m, b, c)) (hp : (mj_mx m).2.2 = 1) (hq : nC M q (mj_mx m).2.1 n) (h13 : Nat.blt (mj_mx m).2.1 13 = true) (hcat : Nat.ble (ncats st) 8 = true) (hl : Nat.ble (nsl [(2, q), p0]).length (mj_mx m).1 = true) (hE : nent (mj_mx m).1 [(2, q), p0] = L0) (h : nW xs d m 0 L0 [] M (nPJ P)) (h2 : ∀ z M1, P z M1 → nW xs (d + 1) j nx L ((1, z) :: st) M1 Q) : nW xs (d + 1) j k L (p0 :: (2, q) :: st) M Q := n_v1 hc hp hq h13 hcat hl hE h (fun w M1 hw => by obtain ⟨z, rfl, hP⟩ := hw; exact h2 z M1 hP)
theorem n_v1A {i} {m n : Nat} {q : Int} {p0 : nX} {L0 : nL} {P : Int → nM → Prop} (hc : mj_code j k = some (.invokevirtual i, nx, m, b, c)) (hp : (mj_mx m).2.2 = 1) (hq : nC M q (mj_mx m).2.1 n) (h13 : Nat.blt (mj_mx m).2.1 13 = true) (hcat : Nat.ble (ncats st) 8 = true) (hl : Nat.ble (nsl [(2, q), p0]).length (mj_mx m).1 = true) (hE : nent (mj_mx m).1 [(2, q), p0] = L0) (h : nW xs d m 0 L0 [] M (nPA P)) (h2 : ∀ z M1, P z M1 → nW xs (d + 1) j nx L ((2, z) :: st) M1 Q) : nW xs (d + 1) j k L (p0 :: (2, q) :: st) M Q := n_v1 hc hp hq h13 hcat hl hE h (fun w M1 hw => by obtain ⟨z, rfl, hP⟩ := hw; exact h2 z M1 hP)
theorem n_v1V {i} {m n : Nat} {q : Int} {p0 : nX} {L0 : nL} {P : nM → Prop} (hc : mj_code j k = some (.invokevirtual i, nx, m, b, c)) (hp : (mj_mx m).2.2 = 1) (hq : nC M q (mj_mx m).2.1 n) (h13 : Nat.blt (mj_mx m).2.1 13 = true) (hcat : Nat.ble (ncats st) 8 = true) (hl : Nat.ble (nsl [(2, q), p0]).length (mj_mx m).1 = true) (hE : nent (mj_mx m).1 [(2, q), p0] = L0) (h : nW xs d m 0 L0 [] M (nPV P)) (h2 : ∀ M1, P M1 → nW xs (d + 1) j nx L st M1 Q) : nW xs (d + 1) j k L (p0 :: (2, q) :: st) M Q := n_v1 hc hp hq h13 hcat hl hE h (fun w M1 hw => by obtain ⟨rfl, hP⟩ := hw; exact h2 M1 hP)
theorem n_s1I {i} {m : Nat} {p0 : nX} {L0 : nL} {P : Int → nM → Prop} (hc : mj_code j k = some (.invokestatic i, nx, m, b, c)) (hp : (mj_mx m).2.2 = 1) (hcat : Nat.ble (ncats st) 8 = true) (hl : Nat.ble (nsl [p0]).length (mj_mx m).1 = true) (hE : nent (mj_mx m).1 [p0] = L0) (h : nW xs d m 0 L0 [] M (nPI P)) (h2 : ∀ z M1, P z M1 → nW xs (d + 1) j nx L ((0, z) :: st) M1 Q) : nW xs (d + 1) j k L (p0 :: st) M Q := n_s1 hc hp hcat hl hE h (fun w M1 hw => by obtain ⟨z, rfl, hP⟩ := hw; exact h2 z M1 hP)
theorem n_s1J {i} {m : Nat} {p0 : nX} {L0 : nL} {P : Int → nM → Prop} (hc : mj_code j k = some (.invokestatic i, nx, m, b, c)) (hp : (mj_mx m).2.2 = 1) (hcat : Nat.ble (ncats st) 8 = true) (hl : Nat.ble (nsl [p0]).length (mj_mx m).1 = true) (hE : nent (mj_mx m).1 [p0] = L0) (h : nW xs d m 0 L0 [] M (nPJ P)) (h2 : ∀ z M1, P z M1 → nW xs (d + 1) j nx L ((1, z) :: st) M1 Q) : nW xs (d + 1) j k L (p0 :: st) M Q := n_s1 hc hp hcat hl hE h (fun w M1 hw => by obtain ⟨z, rfl, hP⟩ := hw; exact h2 z M1 hP)
theorem n_s1A {i} {m : Nat} {p0 : nX} {L0 : nL} {P : Int → nM → Prop} (hc : mj_code j k = some (.invokestatic i, nx, m, b, c)) (hp : (mj_mx m).2.2 = 1) (hcat : Nat.ble (ncats st) 8 = true) (hl : Nat.ble (nsl [p0]).length (mj_mx m).1 = true) (hE : nent (mj_mx m).1 [p0] = L0) (h : nW xs d m 0 L0 [] M (nPA P)) (h2 : ∀ z M1, P z M1 → nW xs (d + 1) j nx L ((2, z) :: st) M1 Q) : nW xs (d + 1) j k L (p0 :: st) M Q := n_s1 hc hp hcat hl hE h (fun w M1 hw => by obtain ⟨z, rfl, hP⟩ := hw; exact h2 z M1 hP)
theorem n_s1V {i} {m : Nat} {p0 : nX} {L0 : nL} {P : nM → Prop} (hc : mj_code j k = some (.invokestatic i, nx, m, b, c)) (hp : (mj_mx m).2.2 = 1) (hcat : Nat.ble (ncats st) 8 = true) (hl : Nat.ble (nsl [p0]).length (mj_mx m).1 = true) (hE : nent (mj_mx m).1 [p0] = L0) (h : nW xs d m 0 L0 [] M (nPV P)) (h2 : ∀ M1, P M1 → nW xs (d + 1) j nx L st M1 Q) : nW xs (d + 1) j k L (p0 :: st) M Q := n_s1 hc hp hcat hl hE h (fun w M1 hw => by obtain ⟨rfl, hP⟩ := hw; exact h2 M1 hP)
theorem n_v2I {i} {m n : Nat} {q : Int} {p0 p1 : nX} {L0 : nL} {P : Int → nM → Prop} (hc : mj_code j k = some (.invokevirtual i, nx, m, b, c)) (hp : (mj_mx m).2.2 = 2) (hq : nC M q (mj_mx m).2.1 n) (h13 : Nat.blt (mj_mx m).2.1 13 = true) (hcat : Nat.ble (ncats st) 8 = true) (hl : Nat.ble (nsl [(2, q), p1, p0]).length (mj_mx m).1 = true) (hE : nent (mj_mx m).1 [(2, q), p1, p0] = L0) (h : nW xs d m 0 L0 [] M (nPI P)) (h2 : ∀ z M1, P z M1 → nW xs (d + 1) j nx L ((0, z) :: st) M1 Q) : nW xs (d + 1) j k L (p0 :: p1 :: (2, q) :: st) M Q := n_v2 hc hp hq h13 hcat hl hE h (fun w M1 hw => by obtain ⟨z, rfl, hP⟩ := hw; exact h2 z M1 hP)
theorem n_v2J {i} {m n : Nat} {q : Int} {p0 p1 : nX} {L0 : nL} {P : Int → nM → Prop} (hc : mj_code j k = some (.invokevirtual i, nx, m, b, c)) (hp : (mj_mx m).2.2 = 2) (hq : nC M q (mj_mx m).2.1 n) (h13 : Nat.blt (mj_mx m).2.1 13 = true) (hcat : Nat.ble (ncats st) 8 = true) (hl : Nat.ble (nsl [(2, q), p1, p0]).length (mj_mx m).1 = true) (hE : nent (mj_mx m).1 [(2, q), p1, p0] = L0) (h : nW xs d m 0 L0 [] M (nPJ P)) (h2 : ∀ z M1, P z M1 → nW xs (d + 1) j nx L ((1, z) :: st) M1 Q) : nW xs (d + 1) j k L (p0 :: p1 :: (2, q) :: st) M Q := n_v2 hc hp hq h13 hcat hl hE h (fun w M1 hw => by obtain ⟨z, rfl, hP⟩ := hw; exact h2 z M1 hP)
theorem n_v2A {i} {m n : Nat} {q : Int} {p0 p1 : nX} {L0 : nL} {P : Int → nM → Prop} (hc : mj_code j k = some (.invokevirtual i, nx, m, b, c)) (hp : (mj_mx m).2.2 = 2) (hq : nC M q (mj_mx m).2.1 n) (h13 : Nat.blt (mj_mx m).2.1 13 = true) (hcat : Nat.ble (ncats st) 8 = true) (hl : Nat.ble (nsl [(2, q), p1, p0]).length (mj_mx m).1 = true) (hE : nent (mj_mx m).1 [(2, q), p1, p0] = L0) (h : nW xs d m 0 L0 [] M (nPA P)) (h2 : ∀ z M1, P z M1 → nW xs (d + 1) j nx L ((2, z) :: st) M1 Q) : nW xs (d + 1) j k L (p0 :: p1 :: (2, q) :: st) M Q := n_v2 hc hp hq h13 hcat hl hE h (fun w M1 hw => by obtain ⟨z, rfl, hP⟩ := hw; exact h2 z M1 hP)
theorem n_v2V {i} {m n : Nat} {q : Int} {p0 p1 : nX} {L0 : nL} {P : nM → Prop} (hc : mj_code j k = some (.invokevirtual i, nx, m, b, c)) (hp : (mj_mx m).2.2 = 2) (hq : nC M q (mj_mx m).2.1 n) (h13 : Nat.blt (mj_mx m).2.1 13 = true) (hcat : Nat.ble (ncats st) 8 = true) (hl : Nat.ble (nsl [(2, q), p1, p0]).length (mj_mx m).1 = true) (hE : nent (mj_mx m).1 [(2, q), p1, p0] = L0) (h : nW xs d m 0 L0 [] M (nPV P)) (h2 : ∀ M1, P M1 → nW xs (d + 1) j nx L st M1 Q) : nW xs (d + 1) j k L (p0 :: p1 :: (2, q) :: st) M Q := n_v2 hc hp hq h13 hcat hl hE h (fun w M1 hw => by obtain ⟨rfl, hP⟩ := hw; exact h2 M1 hP)
theorem n_s2I {i} {m : Nat} {p0 p1 : nX} {L0 : nL} {P : Int → nM → Prop} (hc : mj_code j k = some (.invokestatic i, nx, m, b, c)) (hp : (mj_mx m).2.2 = 2) (hcat : Nat.ble (ncats st) 8 = true) (hl : Nat.ble (nsl [p1, p0]).length (mj_mx m).1 = true) (hE : nent (mj_mx m).1 [p1, p0] = L0) (h : nW xs d m 0 L0 [] M (nPI P)) (h2 : ∀ z M1, P z M1 → nW xs (d + 1) j nx L ((0, z) :: st) M1 Q) : nW xs (d + 1) j k L (p0 :: p1 :: st) M Q := n_s2 hc hp hcat hl hE h (fun w M1 hw => by obtain ⟨z, rfl, hP⟩ := hw; exact h2 z M1 hP)
theorem n_s2J {i} {m : Nat} {p0 p1 : nX} {L0 : nL} {P : Int → nM → Prop} (hc : mj_code j k = some (.invokestatic i, nx, m, b, c)) (hp : (mj_mx m).2.2 = 2) (hcat : Nat.ble (ncats st) 8 = true) (hl : Nat.ble (nsl [p1, p0]).length (mj_mx m).1 = true) (hE : nent (mj_mx m).1 [p1, p0] = L0) (h : nW xs d m 0 L0 [] M (nPJ P)) (h2 : ∀ z M1, P z M1 → nW xs (d + 1) j nx L ((1, z) :: st) M1 Q) : nW xs (d + 1) j k L (p0 :: p1 :: st) M Q := n_s2 hc hp hcat hl hE h (fun w M1 hw => by obtain ⟨z, rfl, hP⟩ := hw; exact h2 z M1 hP)
theorem n_s2A {i} {m : Nat} {p0 p1 : nX} {L0 : nL} {P : Int → nM → Prop} (hc : mj_code j k = some (.invokestatic i, nx, m, b, c)) (hp : (mj_mx m).2.2 = 2) (hcat : Nat.ble (ncats st) 8 = true) (hl : Nat.ble (nsl [p1, p0]).length (mj_mx m).1 = true) (hE : nent (mj_mx m).1 [p1, p0] = L0) (h : nW xs d m 0 L0 [] M (nPA P)) (h2 : ∀ z M1, P z M1 → nW xs (d + 1) j nx L ((2, z) :: st) M1 Q) : nW xs (d + 1) j k L (p0 :: p1 :: st) M Q := n_s2 hc hp hcat hl hE h (fun w M1 hw => by obtain ⟨z, rfl, hP⟩ := hw; exact h2 z M1 hP)
theorem n_s2V {i} {m : Nat} {p0 p1 : nX} {L0 : nL} {P : nM → Prop} (hc : mj_code j k = some (.invokestatic i, nx, m, b, c)) (hp : (mj_mx m).2.2 = 2) (hcat : Nat.ble (ncats st) 8 = true) (hl : Nat.ble (nsl [p1, p0]).length (mj_mx m).1 = true) (hE : nent (mj_mx m).1 [p1, p0] = L0) (h : nW xs d m 0 L0 [] M (nPV P)) (h2 : ∀ M1, P M1 → nW xs (d + 1) j nx L st M1 Q) : nW xs (d + 1) j k L (p0 :: p1 :: st) M Q := n_s2 hc hp hcat hl hE h (fun w M1 hw => by obtain ⟨rfl, hP⟩ := hw; exact h2 M1 hP)
theorem n_v3I {i} {m n : Nat} {q : Int} {p0 p1 p2 : nX} {L0 : nL} {P : Int → nM → Prop} (hc : mj_code j k = some (.invokevirtual i, nx, m, b, c)) (hp : (mj_mx m).2.2 = 3) (hq : nC M q (mj_mx m).2.1 n) (h13 : Nat.blt (mj_mx m).2.1 13 = true) (hcat : Nat.ble (ncats st) 8 = true) (hl : Nat.ble (nsl [(2, q), p2, p1, p0]).length (mj_mx m).1 = true) (hE : nent (mj_mx m).1 [(2, q), p2, p1, p0] = L0) (h : nW xs d m 0 L0 [] M (nPI P)) (h2 : ∀ z M1, P z M1 → nW xs (d + 1) j nx L ((0, z) :: st) M1 Q) : nW xs (d + 1) j k L (p0 :: p1 :: p2 :: (2, q) :: st) M Q := n_v3 hc hp hq h13 hcat hl hE h (fun w M1 hw => by obtain ⟨z, rfl, hP⟩ := hw; exact h2 z M1 hP)
theorem n_v3J {i} {m n : Nat} {q : Int} {p0 p1 p2 : nX} {L0 : nL} {P : Int → nM → Prop} (hc : mj_code j k = some (.invokevirtual i, nx, m, b, c)) (hp : (mj_mx m).2.2 = 3) (hq : nC M q (mj_mx m).2.1 n) (h13 : Nat.blt (mj_mx m).2.1 13 = true) (hcat : Nat.ble (ncats st) 8 = true) (hl : Nat.ble (nsl [(2, q), p2, p1, p0]).length (mj_mx m).1 = true) (hE : nent (mj_mx m).1 [(2, q), p2, p1, p0] = L0) (h : nW xs d m 0 L0 [] M (nPJ P)) (h2 : ∀ z M1, P z M1 → nW xs (d + 1) j nx L ((1, z) :: st) M1 Q) : nW xs (d + 1) j k L (p0 :: p1 :: p2 :: (2, q) :: st) M Q := n_v3 hc hp hq h13 hcat hl hE h (fun w M1 hw => by obtain ⟨z, rfl, hP⟩ := hw; exact h2 z M1 hP)
theorem n_v3A {i} {m n : Nat} {q : Int} {p0 p1 p2 : nX} {L0 : nL} {P : Int → nM → Prop} (hc : mj_code j k = some (.invokevirtual i, nx, m, b, c)) (hp : (mj_mx m).2.2 = 3) (hq : nC M q (mj_mx m).2.1 n) (h13 : Nat.blt (mj_mx m).2.1 13 = true) (hcat : Nat.ble (ncats st) 8 = true) (hl : Nat.ble (nsl [(2, q), p2, p1, p0]).length (mj_mx m).1 = true) (hE : nent (mj_mx m).1 [(2, q), p2, p1, p0] = L0) (h : nW xs d m 0 L0 [] M (nPA P)) (h2 : ∀ z M1, P z M1 → nW xs (d + 1) j nx L ((2, z) :: st) M1 Q) : nW xs (d + 1) j k L (p0 :: p1 :: p2 :: (2, q) :: st) M Q := n_v3 hc hp hq h13 hcat hl hE h (fun w M1 hw => by obtain ⟨z, rfl, hP⟩ := hw; exact h2 z M1 hP)
theorem n_v3V {i} {m n : Nat} {q : Int} {p0 p1 p2 : nX} {L0 : nL} {P : nM → Prop} (hc : mj_code j k = some (.invokevirtual i, nx, m, b, c)) (hp : (mj_mx m).2.2 = 3) (hq : nC M q (mj_mx m).2.1 n) (h13 : Nat.blt (mj_mx m).2.1 13 = true) (hcat : Nat.ble (ncats st) 8 = true) (hl : Nat.ble (nsl [(2, q), p2, p1, p0]).length (mj_mx m).1 = true) (hE : nent (mj_mx m).1 [(2, q), p2, p1, p0] = L0) (h : nW xs d m 0 L0 [] M (nPV P)) (h2 : ∀ M1, P M1 → nW xs (d + 1) j nx L st M1 Q) : nW xs (d + 1) j k L (p0 :: p1 :: p2 :: (2, q) :: st) M Q := n_v3 hc hp hq h13 hcat hl hE h (fun w M1 hw => by obtain ⟨rfl, hP⟩ := hw; exact h2 M1 hP)
theorem n_s3I {i} {m : Nat} {p0 p1 p2 : nX} {L0 : nL} {P : Int → nM → Prop} (hc : mj_code j k = some (.invokestatic i, nx, m, b, c)) (hp : (mj_mx m).2.2 = 3) (hcat : Nat.ble (ncats st) 8 = true) (hl : Nat.ble (nsl [p2, p1, p0]).length (mj_mx m).1 = true) (hE : nent (mj_mx m).1 [p2, p1, p0] = L0) (h : nW xs d m 0 L0 [] M (nPI P)) (h2 : ∀ z M1, P z M1 → nW xs (d + 1) j nx L ((0, z) :: st) M1 Q) : nW xs (d + 1) j k L (p0 :: p1 :: p2 :: st) M Q := n_s3 hc hp hcat hl hE h (fun w M1 hw => by obtain ⟨z, rfl, hP⟩ := hw; exact h2 z M1 hP)
theorem n_s3J {i} {m : Nat} {p0 p1 p2 : nX} {L0 : nL} {P : Int → nM → Prop} (hc : mj_code j k = some (.invokestatic i, nx, m, b, c)) (hp : (mj_mx m).2.2 = 3) (hcat : Nat.ble (ncats st) 8 = true) (hl : Nat.ble (nsl [p2, p1, p0]).length (mj_mx m).1 = true) (hE : nent (mj_mx m).1 [p2, p1, p0] = L0) (h : nW xs d m 0 L0 [] M (nPJ P)) (h2 : ∀ z M1, P z M1 → nW xs (d + 1) j nx L ((1, z) :: st) M1 Q) : nW xs (d + 1) j k L (p0 :: p1 :: p2 :: st) M Q := n_s3 hc hp hcat hl hE h (fun w M1 hw => by obtain ⟨z, rfl, hP⟩ := hw; exact h2 z M1 hP)
theorem n_s3A {i} {m : Nat} {p0 p1 p2 : nX} {L0 : nL} {P : Int → nM → Prop} (hc : mj_code j k = some (.invokestatic i, nx, m, b, c)) (hp : (mj_mx m).2.2 = 3) (hcat : Nat.ble (ncats st) 8 = true) (hl : Nat.ble (nsl [p2, p1, p0]).length (mj_mx m).1 = true) (hE : nent (mj_mx m).1 [p2, p1, p0] = L0) (h : nW xs d m 0 L0 [] M (nPA P)) (h2 : ∀ z M1, P z M1 → nW xs (d + 1) j nx L ((2, z) :: st) M1 Q) : nW xs (d + 1) j k L (p0 :: p1 :: p2 :: st) M Q := n_s3 hc hp hcat hl hE h (fun w M1 hw => by obtain ⟨z, rfl, hP⟩ := hw; exact h2 z M1 hP)
theorem n_s3V {i} {m : Nat} {p0 p1 p2 : nX} {L0 : nL} {P : nM → Prop} (hc : mj_code j k = some (.invokestatic i, nx, m, b, c)) (hp : (mj_mx m).2.2 = 3) (hcat : Nat.ble (ncats st) 8 = true) (hl : Nat.ble (nsl [p2, p1, p0]).length (mj_mx m).1 = true) (hE : nent (mj_mx m).1 [p2, p1, p0] = L0) (h : nW xs d m 0 L0 [] M (nPV P)) (h2 : ∀ M1, P M1 → nW xs (d + 1) j nx L st M1 Q) : nW xs (d + 1) j k L (p0 :: p1 :: p2 :: st) M Q := n_s3 hc hp hcat hl hE h (fun w M1 hw => by obtain ⟨rfl, hP⟩ := hw; exact h2 M1 hP)
theorem n_v4I {i} {m n : Nat} {q : Int} {p0 p1 p2 p3 : nX} {L0 : nL} {P : Int → nM → Prop} (hc : mj_code j k = some (.invokevirtual i, nx, m, b, c)) (hp : (mj_mx m).2.2 = 4) (hq : nC M q (mj_mx m).2.1 n) (h13 : Nat.blt (mj_mx m).2.1 13 = true) (hcat : Nat.ble (ncats st) 8 = true) (hl : Nat.ble (nsl [(2, q), p3, p2, p1, p0]).length (mj_mx m).1 = true) (hE : nent (mj_mx m).1 [(2, q), p3, p2, p1, p0] = L0) (h : nW xs d m 0 L0 [] M (nPI P)) (h2 : ∀ z M1, P z M1 → nW xs (d + 1) j nx L ((0, z) :: st) M1 Q) : nW xs (d + 1) j k L (p0 :: p1 :: p2 :: p3 :: (2, q) :: st) M Q := n_v4 hc hp hq h13 hcat hl hE h (fun w M1 hw => by obtain ⟨z, rfl, hP⟩ := hw; exact h2 z M1 hP)
theorem n_v4J {i} {m n : Nat} {q : Int} {p0 p1 p2 p3 : nX} {L0 : nL} {P : Int → nM → Prop} (hc : mj_code j k = some (.invokevirtual i, nx, m, b, c)) (hp : (mj_mx m).2.2 = 4) (hq : nC M q (mj_mx m).2.1 n) (h13 : Nat.blt (mj_mx m).2.1 13 = true) (hcat : Nat.ble (ncats st) 8 = true) (hl : Nat.ble (nsl [(2, q), p3, p2, p1, p0]).length (mj_mx m).1 = true) (hE : nent (mj_mx m).1 [(2, q), p3, p2, p1, p0] = L0) (h : nW xs d m 0 L0 [] M (nPJ P)) (h2 : ∀ z M1, P z M1 → nW xs (d + 1) j nx L ((1, z) :: st) M1 Q) : nW xs (d + 1) j k L (p0 :: p1 :: p2 :: p3 :: (2, q) :: st) M Q := n_v4 hc hp hq h13 hcat hl hE h (fun w M1 hw => by obtain ⟨z, rfl, hP⟩ := hw; exact h2 z M1 hP)
theorem n_v4A {i} {m n : Nat} {q : Int} {p0 p1 p2 p3 : nX} {L0 : nL} {P : Int → nM → Prop} (hc : mj_code j k = some (.invokevirtual i, nx, m, b, c)) (hp : (mj_mx m).2.2 = 4) (hq : nC M q (mj_mx m).2.1 n) (h13 : Nat.blt (mj_mx m).2.1 13 = true) (hcat : Nat.ble (ncats st) 8 = true) (hl : Nat.ble (nsl [(2, q), p3, p2, p1, p0]).length (mj_mx m).1 = true) (hE : nent (mj_mx m).1 [(2, q), p3, p2, p1, p0] = L0) (h : nW xs d m 0 L0 [] M (nPA P)) (h2 : ∀ z M1, P z M1 → nW xs (d + 1) j nx L ((2, z) :: st) M1 Q) : nW xs (d + 1) j k L (p0 :: p1 :: p2 :: p3 :: (2, q) :: st) M Q := n_v4 hc hp hq h13 hcat hl hE h (fun w M1 hw => by obtain ⟨z, rfl, hP⟩ := hw; exact h2 z M1 hP)
theorem n_v4V {i} {m n : Nat} {q : Int} {p0 p1 p2 p3 : nX} {L0 : nL} {P : nM → Prop} (hc : mj_code j k = some (.invokevirtual i, nx, m, b, c)) (hp : (mj_mx m).2.2 = 4) (hq : nC M q (mj_mx m).2.1 n) (h13 : Nat.blt (mj_mx m).2.1 13 = true) (hcat : Nat.ble (ncats st) 8 = true) (hl : Nat.ble (nsl [(2, q), p3, p2, p1, p0]).length (mj_mx m).1 = true) (hE : nent (mj_mx m).1 [(2, q), p3, p2, p1, p0] = L0) (h : nW xs d m 0 L0 [] M (nPV P)) (h2 : ∀ M1, P M1 → nW xs (d + 1) j nx L st M1 Q) : nW xs (d + 1) j k L (p0 :: p1 :: p2 :: p3 :: (2, q) :: st) M Q := n_v4 hc hp hq h13 hcat hl hE h (fun w M1 hw => by obtain ⟨rfl, hP⟩ := hw; exact h2 M1 hP)
theorem n_s4I {i} {m : Nat} {p0 p1 p2 p3 : nX} {L0 : nL} {P : Int → nM → Prop} (hc : mj_code j k = some (.invokestatic i, nx, m, b, c)) (hp : (mj_mx m).2.2 = 4) (hcat : Nat.ble (ncats st) 8 = true) (hl : Nat.ble (nsl [p3, p2, p1, p0]).length (mj_mx m).1 = true) (hE : nent (mj_mx m).1 [p3, p2, p1, p0] = L0) (h : nW xs d m 0 L0 [] M (nPI P)) (h2 : ∀ z M1, P z M1 → nW xs (d + 1) j nx L ((0, z) :: st) M1 Q) : nW xs (d + 1) j k L (p0 :: p1 :: p2 :: p3 :: st) M Q := n_s4 hc hp hcat hl hE h (fun w M1 hw => by obtain ⟨z, rfl, hP⟩ := hw; exact h2 z M1 hP)
theorem n_s4J {i} {m : Nat} {p0 p1 p2 p3 : nX} {L0 : nL} {P : Int → nM → Prop} (hc : mj_code j k = some (.invokestatic i, nx, m, b, c)) (hp : (mj_mx m).2.2 = 4) (hcat : Nat.ble (ncats st) 8 = true) (hl : Nat.ble (nsl [p3, p2, p1, p0]).length (mj_mx m).1 = true) (hE : nent (mj_mx m).1 [p3, p2, p1, p0] = L0) (h : nW xs d m 0 L0 [] M (nPJ P)) (h2 : ∀ z M1, P z M1 → nW xs (d + 1) j nx L ((1, z) :: st) M1 Q) : nW xs (d + 1) j k L (p0 :: p1 :: p2 :: p3 :: st) M Q := n_s4 hc hp hcat hl hE h (fun w M1 hw => by obtain ⟨z, rfl, hP⟩ := hw; exact h2 z M1 hP)
theorem n_s4A {i} {m : Nat} {p0 p1 p2 p3 : nX} {L0 : nL} {P : Int → nM → Prop} (hc : mj_code j k = some (.invokestatic i, nx, m, b, c)) (hp : (mj_mx m).2.2 = 4) (hcat : Nat.ble (ncats st) 8 = true) (hl : Nat.ble (nsl [p3, p2, p1, p0]).length (mj_mx m).1 = true) (hE : nent (mj_mx m).1 [p3, p2, p1, p0] = L0) (h : nW xs d m 0 L0 [] M (nPA P)) (h2 : ∀ z M1, P z M1 → nW xs (d + 1) j nx L ((2, z) :: st) M1 Q) : nW xs (d + 1) j k L (p0 :: p1 :: p2 :: p3 :: st) M Q := n_s4 hc hp hcat hl hE h (fun w M1 hw => by obtain ⟨z, rfl, hP⟩ := hw; exact h2 z M1 hP)
theorem n_s4V {i} {m : Nat} {p0 p1 p2 p3 : nX} {L0 : nL} {P : nM → Prop} (hc : mj_code j k = some (.invokestatic i, nx, m, b, c)) (hp : (mj_mx m).2.2 = 4) (hcat : Nat.ble (ncats st) 8 = true) (hl : Nat.ble (nsl [p3, p2, p1, p0]).length (mj_mx m).1 = true) (hE : nent (mj_mx m).1 [p3, p2, p1, p0] = L0) (h : nW xs d m 0 L0 [] M (nPV P)) (h2 : ∀ M1, P M1 → nW xs (d + 1) j nx L st M1 Q) : nW xs (d + 1) j k L (p0 :: p1 :: p2 :: p3 :: st) M Q := n_s4 hc hp hcat hl hE h (fun w M1 hw => by obtain ⟨rfl, hP⟩ := hw; exact h2 M1 hP)
theorem n_v5I {i} {m n : Nat} {q : Int} {p0 p1 p2 p3 p4 : nX} {L0 : nL} {P : Int → nM → Prop} (hc : mj_code j k = some (.invokevirtual i, nx, m, b, c)) (hp : (mj_mx m).2.2 = 5) (hq : nC M q (mj_mx m).2.1 n) (h13 : Nat.blt (mj_mx m).2.1 13 = true) (hcat : Nat.ble (ncats st) 8 = true) (hl : Nat.ble (nsl [(2, q), p4, p3, p2, p1, p0]).length (mj_mx m).1 = true) (hE : nent (mj_mx m).1 [(2, q), p4, p3, p2, p1, p0] = L0) (h : nW xs d m 0 L0 [] M (nPI P)) (h2 : ∀ z M1, P z M1 → nW xs (d + 1) j nx L ((0, z) :: st) M1 Q) : nW xs (d + 1) j k L (p0 :: p1 :: p2 :: p3 :: p4 :: (2, q) :: st) M Q := n_v5 hc hp hq h13 hcat hl hE h (fun w M1 hw => by obtain ⟨z, rfl, hP⟩ := hw; exact h2 z M1 hP)
theorem n_v5J {i} {m n : Nat} {q : Int} {p0 p1 p2 p3 p4 : nX} {L0 : nL} {P : Int → nM → Prop} (hc : mj_code j k = some (.invokevirtual i, nx, m, b, c)) (hp : (mj_mx m).2.2 = 5) (hq : nC M q (mj_mx m).2.1 n) (h13 : Nat.blt (mj_mx m).2.1 13 = true) (hcat : Nat.ble (ncats st) 8 = true) (hl : Nat.ble (nsl [(2, q), p4, p3, p2, p1, p0]).length (mj_mx m).1 = true) (hE : nent (mj_mx m).1 [(2, q), p4, p3, p2, p1, p0] = L0) (h : nW xs d m 0 L0 [] M (nPJ P)) (h2 : ∀ z M1, P z M1 → nW xs (d + 1) j nx L ((1, z) :: st) M1 Q) : nW xs (d + 1) j k L (p0 :: p1 :: p2 :: p3 :: p4 :: (2, q) :: st) M Q := n_v5 hc hp hq h13 hcat hl hE h (fun w M1 hw => by obtain ⟨z, rfl, hP⟩ := hw; exact h2 z M1 hP)
theorem n_v5A {i} {m n : Nat} {q : Int} {p0 p1 p2 p3 p4 : nX} {L0 : nL} {P : Int → nM → Prop} (hc : mj_code j k = some (.invokevirtual i, nx, m, b, c)) (hp : (mj_mx m).2.2 = 5) (hq : nC M q (mj_mx m).2.1 n) (h13 : Nat.blt (mj_mx m).2.1 13 = true) (hcat : Nat.ble (ncats st) 8 = true) (hl : Nat.ble (nsl [(2, q), p4, p3, p2, p1, p0]).length (mj_mx m).1 = true) (hE : nent (mj_mx m).1 [(2, q), p4, p3, p2, p1, p0] = L0) (h : nW xs d m 0 L0 [] M (nPA P)) (h2 : ∀ z M1, P z M1 → nW xs (d + 1) j nx L ((2, z) :: st) M1 Q) : nW xs (d + 1) j k L (p0 :: p1 :: p2 :: p3 :: p4 :: (2, q) :: st) M Q := n_v5 hc hp hq h13 hcat hl hE h (fun w M1 hw => by obtain ⟨z, rfl, hP⟩ := hw; exact h2 z M1 hP)
theorem n_v5V {i} {m n : Nat} {q : Int} {p0 p1 p2 p3 p4 : nX} {L0 : nL} {P : nM → Prop} (hc : mj_code j k = some (.invokevirtual i, nx, m, b, c)) (hp : (mj_mx m).2.2 = 5) (hq : nC M q (mj_mx m).2.1 n) (h13 : Nat.blt (mj_mx m).2.1 13 = true) (hcat : Nat.ble (ncats st) 8 = true) (hl : Nat.ble (nsl [(2, q), p4, p3, p2, p1, p0]).length (mj_mx m).1 = true) (hE : nent (mj_mx m).1 [(2, q), p4, p3, p2, p1, p0] = L0) (h : nW xs d m 0 L0 [] M (nPV P)) (h2 : ∀ M1, P M1 → nW xs (d + 1) j nx L st M1 Q) : nW xs (d + 1) j k L (p0 :: p1 :: p2 :: p3 :: p4 :: (2, q) :: st) M Q := n_v5 hc hp hq h13 hcat hl hE h (fun w M1 hw => by obtain ⟨rfl, hP⟩ := hw; exact h2 M1 hP)
theorem n_s5I {i} {m : Nat} {p0 p1 p2 p3 p4 : nX} {L0 : nL} {P : Int → nM → Prop} (hc : mj_code j k = some (.invokestatic i, nx, m, b, c)) (hp : (mj_mx m).2.2 = 5) (hcat : Nat.ble (ncats st) 8 = true) (hl : Nat.ble (nsl [p4, p3, p2, p1, p0]).length (mj_mx m).1 = true) (hE : nent (mj_mx m).1 [p4, p3, p2, p1, p0] = L0) (h : nW xs d m 0 L0 [] M (nPI P)) (h2 : ∀ z M1, P z M1 → nW xs (d + 1) j nx L ((0, z) :: st) M1 Q) : nW xs (d + 1) j k L (p0 :: p1 :: p2 :: p3 :: p4 :: st) M Q := n_s5 hc hp hcat hl hE h (fun w M1 hw => by obtain ⟨z, rfl, hP⟩ := hw; exact h2 z M1 hP)
theorem n_s5J {i} {m : Nat} {p0 p1 p2 p3 p4 : nX} {L0 : nL} {P : Int → nM → Prop} (hc : mj_code j k = some (.invokestatic i, nx, m, b, c)) (hp : (mj_mx m).2.2 = 5) (hcat : Nat.ble (ncats st) 8 = true) (hl : Nat.ble (nsl [p4, p3, p2, p1, p0]).length (mj_mx m).1 = true) (hE : nent (mj_mx m).1 [p4, p3, p2, p1, p0] = L0) (h : nW xs d m 0 L0 [] M (nPJ P)) (h2 : ∀ z M1, P z M1 → nW xs (d + 1) j nx L ((1, z) :: st) M1 Q) : nW xs (d + 1) j k L (p0 :: p1 :: p2 :: p3 :: p4 :: st) M Q := n_s5 hc hp hcat hl hE h (fun w M1 hw => by obtain ⟨z, rfl, hP⟩ := hw; exact h2 z M1 hP)
theorem n_s5A {i} {m : Nat} {p0 p1 p2 p3 p4 : nX} {L0 : nL} {P : Int → nM → Prop} (hc : mj_code j k = some (.invokestatic i, nx, m, b, c)) (hp : (mj_mx m).2.2 = 5) (hcat : Nat.ble (ncats st) 8 = true) (hl : Nat.ble (nsl [p4, p3, p2, p1, p0]).length (mj_mx m).1 = true) (hE : nent (mj_mx m).1 [p4, p3, p2, p1, p0] = L0) (h : nW xs d m 0 L0 [] M (nPA P)) (h2 : ∀ z M1, P z M1 → nW xs (d + 1) j nx L ((2, z) :: st) M1 Q) : nW xs (d + 1) j k L (p0 :: p1 :: p2 :: p3 :: p4 :: st) M Q := n_s5 hc hp hcat hl hE h (fun w M1 hw => by obtain ⟨z, rfl, hP⟩ := hw; exact h2 z M1 hP)
theorem n_s5V {i} {m : Nat} {p0 p1 p2 p3 p4 : nX} {L0 : nL} {P : nM → Prop} (hc : mj_code j k = some (.invokestatic i, nx, m, b, c)) (hp : (mj_mx m).2.2 = 5) (hcat : Nat.ble (ncats st) 8 = true) (hl : Nat.ble (nsl [p4, p3, p2, p1, p0]).length (mj_mx m).1 = true) (hE : nent (mj_mx m).1 [p4, p3, p2, p1, p0] = L0) (h : nW xs d m 0 L0 [] M (nPV P)) (h2 : ∀ M1, P M1 → nW xs (d + 1) j nx L st M1 Q) : nW xs (d + 1) j k L (p0 :: p1 :: p2 :: p3 :: p4 :: st) M Q := n_s5 hc hp hcat hl hE h (fun w M1 hw => by obtain ⟨rfl, hP⟩ := hw; exact h2 M1 hP)
theorem n_v6I {i} {m n : Nat} {q : Int} {p0 p1 p2 p3 p4 p5 : nX} {L0 : nL} {P : Int → nM → Prop} (hc : mj_code j k = some (.invokevirtual i, nx, m, b, c)) (hp : (mj_mx m).2.2 = 6) (hq : nC M q (mj_mx m).2.1 n) (h13 : Nat.blt (mj_mx m).2.1 13 = true) (hcat : Nat.ble (ncats st) 8 = true) (hl : Nat.ble (nsl [(2, q), p5, p4, p3, p2, p1, p0]).length (mj_mx m).1 = true) (hE : nent (mj_mx m).1 [(2, q), p5, p4, p3, p2, p1, p0] = L0) (h : nW xs d m 0 L0 [] M (nPI P)) (h2 : ∀ z M1, P z M1 → nW xs (d + 1) j nx L ((0, z) :: st) M1 Q) : nW xs (d + 1) j k L (p0 :: p1 :: p2 :: p3 :: p4 :: p5 :: (2, q) :: st) M Q := n_v6 hc hp hq h13 hcat hl hE h (fun w M1 hw => by obtain ⟨z, rfl, hP⟩ := hw; exact h2 z M1 hP)
theorem n_v6J {i} {m n : Nat} {q : Int} {p0 p1 p2 p3 p4 p5 : nX} {L0 : nL} {P : Int → nM → Prop} (hc : mj_code j k = some (.invokevirtual i, nx, m, b, c)) (hp : (mj_mx m).2.2 = 6) (hq : nC M q (mj_mx m).2.1 n) (h13 : Nat.blt (mj_mx m).2.1 13 = true) (hcat : Nat.ble (ncats st) 8 = true) (hl : Nat.ble (nsl [(2, q), p5, p4, p3, p2, p1, p0]).length (mj_mx m).1 = true) (hE : nent (mj_mx m).1 [(2, q), p5, p4, p3, p2, p1, p0] = L0) (h : nW xs d m 0 L0 [] M (nPJ P)) (h2 : ∀ z M1, P z M1 → nW xs (d + 1) j nx L ((1, z) :: st) M1 Q) : nW xs (d + 1) j k L (p0 :: p1 :: p2 :: p3 :: p4 :: p5 :: (2, q) :: st) M Q := n_v6 hc hp hq h13 hcat hl hE h (fun w M1 hw => by obtain ⟨z, rfl, hP⟩ := hw; exact h2 z M1 hP)
theorem n_v6A {i} {m n : Nat} {q : Int} {p0 p1 p2 p3 p4 p5 : nX} {L0 : nL} {P : Int → nM → Prop} (hc : mj_code j k = some (.invokevirtual i, nx, m, b, c)) (hp : (mj_mx m).2.2 = 6) (hq : nC M q (mj_mx m).2.1 n) (h13 : Nat.blt (mj_mx m).2.1 13 = true) (hcat : Nat.ble (ncats st) 8 = true) (hl : Nat.ble (nsl [(2, q), p5, p4, p3, p2, p1, p0]).length (mj_mx m).1 = true) (hE : nent (mj_mx m).1 [(2, q), p5, p4, p3, p2, p1, p0] = L0) (h : nW xs d m 0 L0 [] M (nPA P)) (h2 : ∀ z M1, P z M1 → nW xs (d + 1) j nx L ((2, z) :: st) M1 Q) : nW xs (d + 1) j k L (p0 :: p1 :: p2 :: p3 :: p4 :: p5 :: (2, q) :: st) M Q := n_v6 hc hp hq h13 hcat hl hE h (fun w M1 hw => by obtain ⟨z, rfl, hP⟩ := hw; exact h2 z M1 hP)
theorem n_v6V {i} {m n : Nat} {q : Int} {p0 p1 p2 p3 p4 p5 : nX} {L0 : nL} {P : nM → Prop} (hc : mj_code j k = some (.invokevirtual i, nx, m, b, c)) (hp : (mj_mx m).2.2 = 6) (hq : nC M q (mj_mx m).2.1 n) (h13 : Nat.blt (mj_mx m).2.1 13 = true) (hcat : Nat.ble (ncats st) 8 = true) (hl : Nat.ble (nsl [(2, q), p5, p4, p3, p2, p1, p0]).length (mj_mx m).1 = true) (hE : nent (mj_mx m).1 [(2, q), p5, p4, p3, p2, p1, p0] = L0) (h : nW xs d m 0 L0 [] M (nPV P)) (h2 : ∀ M1, P M1 → nW xs (d + 1) j nx L st M1 Q) : nW xs (d + 1) j k L (p0 :: p1 :: p2 :: p3 :: p4 :: p5 :: (2, q) :: st) M Q := n_v6 hc hp hq h13 hcat hl hE h (fun w M1 hw => by obtain ⟨rfl, hP⟩ := hw; exact h2 M1 hP)
theorem n_s6I {i} {m : Nat} {p0 p1 p2 p3 p4 p5 : nX} {L0 : nL} {P : Int → nM → Prop} (hc : mj_code j k = some (.invokestatic i, nx, m, b, c)) (hp : (mj_mx m).2.2 = 6) (hcat : Nat.ble (ncats st) 8 = true) (hl : Nat.ble (nsl [p5, p4, p3, p2, p1, p0]).length (mj_mx m).1 = true) (hE : nent (mj_mx m).1 [p5, p4, p3, p2, p1, p0] = L0) (h : nW xs d m 0 L0 [] M (nPI P)) (h2 : ∀ z M1, P z M1 → nW xs (d + 1) j nx L ((0, z) :: st) M1 Q) : nW xs (d + 1) j k L (p0 :: p1 :: p2 :: p3 :: p4 :: p5 :: st) M Q := n_s6 hc hp hcat hl hE h (fun w M1 hw => by obtain ⟨z, rfl, hP⟩ := hw; exact h2 z M1 hP)
theorem n_s6J {i} {m : Nat} {p0 p1 p2 p3 p4 p5 : nX} {L0 : nL} {P : Int → nM → Prop} (hc : mj_code j k = some (.invokestatic i, nx, m, b, c)) (hp : (mj_mx m).2.2 = 6) (hcat : Nat.ble (ncats st) 8 = true) (hl : Nat.ble (nsl [p5, p4, p3, p2, p1, p0]).length (mj_mx m).1 = true) (hE : nent (mj_mx m).1 [p5, p4, p3, p2, p1, p0] = L0) (h : nW xs d m 0 L0 [] M (nPJ P)) (h2 : ∀ z M1, P z M1 → nW xs (d + 1) j nx L ((1, z) :: st) M1 Q) : nW xs (d + 1) j k L (p0 :: p1 :: p2 :: p3 :: p4 :: p5 :: st) M Q := n_s6 hc hp hcat hl hE h (fun w M1 hw => by obtain ⟨z, rfl, hP⟩ := hw; exact h2 z M1 hP)
theorem n_s6A {i} {m : Nat} {p0 p1 p2 p3 p4 p5 : nX} {L0 : nL} {P : Int → nM → Prop} (hc : mj_code j k = some (.invokestatic i, nx, m, b, c)) (hp : (mj_mx m).2.2 = 6) (hcat : Nat.ble (ncats st) 8 = true) (hl : Nat.ble (nsl [p5, p4, p3, p2, p1, p0]).length (mj_mx m).1 = true) (hE : nent (mj_mx m).1 [p5, p4, p3, p2, p1, p0] = L0) (h : nW xs d m 0 L0 [] M (nPA P)) (h2 : ∀ z M1, P z M1 → nW xs (d + 1) j nx L ((2, z) :: st) M1 Q) : nW xs (d + 1) j k L (p0 :: p1 :: p2 :: p3 :: p4 :: p5 :: st) M Q := n_s6 hc hp hcat hl hE h (fun w M1 hw => by obtain ⟨z, rfl, hP⟩ := hw; exact h2 z M1 hP)
theorem n_s6V {i} {m : Nat} {p0 p1 p2 p3 p4 p5 : nX} {L0 : nL} {P : nM → Prop} (hc : mj_code j k = some (.invokestatic i, nx, m, b, c)) (hp : (mj_mx m).2.2 = 6) (hcat : Nat.ble (ncats st) 8 = true) (hl : Nat.ble (nsl [p5, p4, p3, p2, p1, p0]).length (mj_mx m).1 = true) (hE : nent (mj_mx m).1 [p5, p4, p3, p2, p1, p0] = L0) (h : nW xs d m 0 L0 [] M (nPV P)) (h2 : ∀ M1, P M1 → nW xs (d + 1) j nx L st M1 Q) : nW xs (d + 1) j k L (p0 :: p1 :: p2 :: p3 :: p4 :: p5 :: st) M Q := n_s6 hc hp hcat hl hE h (fun w M1 hw => by obtain ⟨rfl, hP⟩ := hw; exact h2 M1 hP)
theorem n_v7I {i} {m n : Nat} {q : Int} {p0 p1 p2 p3 p4 p5 p6 : nX} {L0 : nL} {P : Int → nM → Prop} (hc : mj_code j k = some (.invokevirtual i, nx, m, b, c)) (hp : (mj_mx m).2.2 = 7) (hq : nC M q (mj_mx m).2.1 n) (h13 : Nat.blt (mj_mx m).2.1 13 = true) (hcat : Nat.ble (ncats st) 8 = true) (hl : Nat.ble (nsl [(2, q), p6, p5, p4, p3, p2, p1, p0]).length (mj_mx m).1 = true) (hE : nent (mj_mx m).1 [(2, q), p6, p5, p4, p3, p2, p1, p0] = L0) (h : nW xs d m 0 L0 [] M (nPI P)) (h2 : ∀ z M1, P z M1 → nW xs (d + 1) j nx L ((0, z) :: st) M1 Q) : nW xs (d + 1) j k L (p0 :: p1 :: p2 :: p3 :: p4 :: p5 :: p6 :: (2, q) :: st) M Q := n_v7 hc hp hq h13 hcat hl hE h (fun w M1 hw => by obtain ⟨z, rfl, hP⟩ := hw; exact h2 z M1 hP)
theorem n_v7J {i} {m n : Nat} {q : Int} {p0 p1 p2 p3 p4 p5 p6 : nX} {L0 : nL} {P : Int → nM → Prop} (hc : mj_code j k = some (.invokevirtual i, nx, m, b, c)) (hp : (mj_mx m).2.2 = 7) (hq : nC M q (mj_mx m).2.1 n) (h13 : Nat.blt (mj_mx m).2.1 13 = true) (hcat : Nat.ble (ncats st) 8 = true) (hl : Nat.ble (nsl [(2, q), p6, p5, p4, p3, p2, p1, p0]).length (mj_mx m).1 = true) (hE : nent (mj_mx m).1 [(2, q), p6, p5, p4, p3, p2, p1, p0] = L0) (h : nW xs d m 0 L0 [] M (nPJ P)) (h2 : ∀ z M1, P z M1 → nW xs (d + 1) j nx L ((1, z) :: st) M1 Q) : nW xs (d + 1) j k L (p0 :: p1 :: p2 :: p3 :: p4 :: p5 :: p6 :: (2, q) :: st) M Q := n_v7 hc hp hq h13 hcat hl hE h (fun w M1 hw => by obtain ⟨z, rfl, hP⟩ := hw; exact h2 z M1 hP)
theorem n_v7A {i} {m n : Nat} {q : Int} {p0 p1 p2 p3 p4 p5 p6 : nX} {L0 : nL} {P : Int → nM → Prop} (hc : mj_code j k = some (.invokevirtual i, nx, m, b, c)) (hp : (mj_mx m).2.2 = 7) (hq : nC M q (mj_mx m).2.1 n) (h13 : Nat.blt (mj_mx m).2.1 13 = true) (hcat : Nat.ble (ncats st) 8 = true) (hl : Nat.ble (nsl [(2, q), p6, p5, p4, p3, p2, p1, p0]).length (mj_mx m).1 = true) (hE : nent (mj_mx m).1 [(2, q), p6, p5, p4, p3, p2, p1, p0] = L0) (h : nW xs d m 0 L0 [] M (nPA P)) (h2 : ∀ z M1, P z M1 → nW xs (d + 1) j nx L ((2, z) :: st) M1 Q) : nW xs (d + 1) j k L (p0 :: p1 :: p2 :: p3 :: p4 :: p5 :: p6 :: (2, q) :: st) M Q := n_v7 hc hp hq h13 hcat hl hE h (fun w M1 hw => by obtain ⟨z, rfl, hP⟩ := hw; exact h2 z M1 hP)
theorem n_v7V {i} {m n : Nat} {q : Int} {p0 p1 p2 p3 p4 p5 p6 : nX} {L0 : nL} {P : nM → Prop} (hc : mj_code j k = some (.invokevirtual i, nx, m, b, c)) (hp : (mj_mx m).2.2 = 7) (hq : nC M q (mj_mx m).2.1 n) (h13 : Nat.blt (mj_mx m).2.1 13 = true) (hcat : Nat.ble (ncats st) 8 = true) (hl : Nat.ble (nsl [(2, q), p6, p5, p4, p3, p2, p1, p0]).length (mj_mx m).1 = true) (hE : nent (mj_mx m).1 [(2, q), p6, p5, p4, p3, p2, p1, p0] = L0) (h : nW xs d m 0 L0 [] M (nPV P)) (h2 : ∀ M1, P M1 → nW xs (d + 1) j nx L st M1 Q) : nW xs (d + 1) j k L (p0 :: p1 :: p2 :: p3 :: p4 :: p5 :: p6 :: (2, q) :: st) M Q := n_v7 hc hp hq h13 hcat hl hE h (fun w M1 hw => by obtain ⟨rfl, hP⟩ := hw; exact h2 M1 hP)
theorem n_s7I {i} {m : Nat} {p0 p1 p2 p3 p4 p5 p6 : nX} {L0 : nL} {P : Int → nM → Prop} (hc : mj_code j k = some (.invokestatic i, nx, m, b, c)) (hp : (mj_mx m).2.2 = 7) (hcat : Nat.ble (ncats st) 8 = true) (hl : Nat.ble (nsl [p6, p5, p4, p3, p2, p1, p0]).length (mj_mx m).1 = true) (hE : nent (mj_mx m).1 [p6, p5, p4, p3, p2, p1, p0] = L0) (h : nW xs d m 0 L0 [] M (nPI P)) (h2 : ∀ z M1, P z M1 → nW xs (d + 1) j nx L ((0, z) :: st) M1 Q) : nW xs (d + 1) j k L (p0 :: p1 :: p2 :: p3 :: p4 :: p5 :: p6 :: st) M Q := n_s7 hc hp hcat hl hE h (fun w M1 hw => by obtain ⟨z, rfl, hP⟩ := hw; exact h2 z M1 hP)
theorem n_s7J {i} {m : Nat} {p0 p1 p2 p3 p4 p5 p6 : nX} {L0 : nL} {P : Int → nM → Prop} (hc : mj_code j k = some (.invokestatic i, nx, m, b, c)) (hp : (mj_mx m).2.2 = 7) (hcat : Nat.ble (ncats st) 8 = true) (hl : Nat.ble (nsl [p6, p5, p4, p3, p2, p1, p0]).length (mj_mx m).1 = true) (hE : nent (mj_mx m).1 [p6, p5, p4, p3, p2, p1, p0] = L0) (h : nW xs d m 0 L0 [] M (nPJ P)) (h2 : ∀ z M1, P z M1 → nW xs (d + 1) j nx L ((1, z) :: st) M1 Q) : nW xs (d + 1) j k L (p0 :: p1 :: p2 :: p3 :: p4 :: p5 :: p6 :: st) M Q := n_s7 hc hp hcat hl hE h (fun w M1 hw => by obtain ⟨z, rfl, hP⟩ := hw; exact h2 z M1 hP)
theorem n_s7A {i} {m : Nat} {p0 p1 p2 p3 p4 p5 p6 : nX} {L0 : nL} {P : Int → nM → Prop} (hc : mj_code j k = some (.invokestatic i, nx, m, b, c)) (hp : (mj_mx m).2.2 = 7) (hcat : Nat.ble (ncats st) 8 = true) (hl : Nat.ble (nsl [p6, p5, p4, p3, p2, p1, p0]).length (mj_mx m).1 = true) (hE : nent (mj_mx m).1 [p6, p5, p4, p3, p2, p1, p0] = L0) (h : nW xs d m 0 L0 [] M (nPA P)) (h2 : ∀ z M1, P z M1 → nW xs (d + 1) j nx L ((2, z) :: st) M1 Q) : nW xs (d + 1) j k L (p0 :: p1 :: p2 :: p3 :: p4 :: p5 :: p6 :: st) M Q := n_s7 hc hp hcat hl hE h (fun w M1 hw => by obtain ⟨z, rfl, hP⟩ := hw; exact h2 z M1 hP)
theorem n_s7V {i} {m : Nat} {p0 p1 p2 p3 p4 p5 p6 : nX} {L0 : nL} {P : nM → Prop} (hc : mj_code j k = some (.invokestatic i, nx, m, b, c)) (hp : (mj_mx m).2.2 = 7) (hcat : Nat.ble (ncats st) 8 = true) (hl : Nat.ble (nsl [p6, p5, p4, p3, p2, p1, p0]).length (mj_mx m).1 = true) (hE : nent (mj_mx m).1 [p6, p5, p4, p3, p2, p1, p0] = L0) (h : nW xs d m 0 L0 [] M (nPV P)) (h2 : ∀ M1, P M1 → nW xs (d + 1) j nx L st M1 Q) : nW xs (d + 1) j k L (p0 :: p1 :: p2 :: p3 :: p4 :: p5 :: p6 :: st) M Q := n_s7 hc hp hcat hl hE h (fun w M1 hw => by obtain ⟨rfl, hP⟩ := hw; exact h2 M1 hP)
end
