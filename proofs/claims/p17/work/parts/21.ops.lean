/-! The operations' numbers; the table's trees. -/
theorem hf_mul (x y : Int32) (c : Int) (h : ma_fmul x.toInt y.toInt = some c) : (x * y).toInt = c := by
  have h : ma_w (x.toInt * y.toInt) = c := Option.some.inj h
  rw [← h]
  exact ma_w_of (Int32.toInt_mul x y)
theorem hf_or (x y : Int32) (c : Int) (h : ma_for x.toInt y.toInt = some c) : (x ||| y).toInt = c := by
  have h : (Int32.ofInt x.toInt ||| Int32.ofInt y.toInt).toInt = c := Option.some.inj h
  rw [Int32.ofInt_toInt, Int32.ofInt_toInt] at h
  exact h
theorem hf_xor (x y : Int32) (c : Int) (h : ma_fxor x.toInt y.toInt = some c) : (x ^^^ y).toInt = c := by
  have h : (Int32.ofInt x.toInt ^^^ Int32.ofInt y.toInt).toInt = c := Option.some.inj h
  rw [Int32.ofInt_toInt, Int32.ofInt_toInt] at h
  exact h
theorem hf_shl (x y : Int32) (c : Int) (h : ma_fshl x.toInt y.toInt = some c) : (x <<< (y &&& 31)).toInt = c := by
  have h : (Int32.ofInt x.toInt <<< (Int32.ofInt y.toInt &&& 31)).toInt = c := Option.some.inj h
  rw [Int32.ofInt_toInt, Int32.ofInt_toInt] at h
  exact h
theorem hf_shr (x y : Int32) (c : Int) (h : ma_fshr x.toInt y.toInt = some c) : (x >>> (y &&& 31)).toInt = c := by
  have h : (Int32.ofInt x.toInt >>> (Int32.ofInt y.toInt &&& 31)).toInt = c := Option.some.inj h
  rw [Int32.ofInt_toInt, Int32.ofInt_toInt] at h
  exact h
theorem hf_ushr (x y : Int32) (c : Int) (h : ma_fushr x.toInt y.toInt = some c) : ((x.toUInt32 >>> (y.toUInt32 &&& Int32.toUInt32 31)).toInt32).toInt = c := by
  have h : ((Int32.ofInt x.toInt).toUInt32 >>> ((Int32.ofInt y.toInt).toUInt32 &&& Int32.toUInt32 31)).toInt32.toInt = c := Option.some.inj h
  rw [Int32.ofInt_toInt, Int32.ofInt_toInt] at h
  exact h
theorem hf_nz {y : Int32} (h : ma_eq y.toInt (.ofNat 0) = false) : ¬ y = 0 := fun q => (ma_eq_not _ _).mp h (by rw [q]; rfl)
theorem hf_div (x y : Int32) (c : Int) (h : ma_fdiv x.toInt y.toInt = some c) : ¬ y = 0 ∧ (x / y).toInt = c := by
  unfold ma_fdiv at h
  cases hq : ma_eq y.toInt (.ofNat 0) with
  | true => rw [hq] at h; cases h
  | false =>
    rw [hq] at h
    have h : (Int32.ofInt x.toInt / Int32.ofInt y.toInt).toInt = c := Option.some.inj h
    rw [Int32.ofInt_toInt, Int32.ofInt_toInt] at h
    exact ⟨hf_nz hq, h⟩
theorem hf_rem (x y : Int32) (c : Int) (h : ma_frem x.toInt y.toInt = some c) : ¬ y = 0 ∧ (x - x / y * y).toInt = c := by
  unfold ma_frem at h
  cases hq : ma_eq y.toInt (.ofNat 0) with
  | true => rw [hq] at h; cases h
  | false =>
    rw [hq] at h
    have h : (Int32.ofInt x.toInt - Int32.ofInt x.toInt / Int32.ofInt y.toInt * Int32.ofInt y.toInt).toInt = c := Option.some.inj h
    rw [Int32.ofInt_toInt, Int32.ofInt_toInt] at h
    exact ⟨hf_nz hq, h⟩
theorem ma_wl_of {z : Int64} {x : Int} (h : z.toInt = Int.bmod x 18446744073709551616) : z.toInt = ma_wl x := by
  unfold ma_wl
  cases hq : (ma_le (.negSucc 9223372036854775807) x && ma_le x (.ofNat 9223372036854775807)) with
  | true =>
    rw [Bool.and_eq_true, ma_le_iff, ma_le_iff] at hq
    have h1 : (-9223372036854775808 : Int) ≤ x := hq.1
    have h2 : x ≤ (9223372036854775807 : Int) := hq.2
    rw [h]
    show _ = x
    rw [Int.bmod_eq_of_le] <;> omega
  | false => exact h
theorem hg_add (x y : Int64) (c : Int) (h : ma_gadd x.toInt y.toInt = some c) : (x + y).toInt = c := by
  have h : ma_wl (x.toInt + y.toInt) = c := Option.some.inj h
  rw [← h]
  exact ma_wl_of (Int64.toInt_add x y)
theorem hg_sub (x y : Int64) (c : Int) (h : ma_gsub x.toInt y.toInt = some c) : (x - y).toInt = c := by
  have h : ma_wl (x.toInt - y.toInt) = c := Option.some.inj h
  rw [← h]
  exact ma_wl_of (Int64.toInt_sub x y)
theorem hg_mul (x y : Int64) (c : Int) (h : ma_gmul x.toInt y.toInt = some c) : (x * y).toInt = c := by
  have h : ma_wl (x.toInt * y.toInt) = c := Option.some.inj h
  rw [← h]
  exact ma_wl_of (Int64.toInt_mul x y)
theorem hg_and (x y : Int64) (c : Int) (h : ma_gand x.toInt y.toInt = some c) : (x &&& y).toInt = c := by
  have h : (Int64.ofInt x.toInt &&& Int64.ofInt y.toInt).toInt = c := Option.some.inj h
  rw [Int64.ofInt_toInt, Int64.ofInt_toInt] at h
  exact h
theorem hg_or (x y : Int64) (c : Int) (h : ma_gor x.toInt y.toInt = some c) : (x ||| y).toInt = c := by
  have h : (Int64.ofInt x.toInt ||| Int64.ofInt y.toInt).toInt = c := Option.some.inj h
  rw [Int64.ofInt_toInt, Int64.ofInt_toInt] at h
  exact h
theorem hg_nz {y : Int64} (h : ma_eq y.toInt (.ofNat 0) = false) : ¬ y = 0 := fun q => (ma_eq_not _ _).mp h (by rw [q]; rfl)
theorem hg_div (x y : Int64) (c : Int) (h : ma_gdiv x.toInt y.toInt = some c) : ¬ y = 0 ∧ (x / y).toInt = c := by
  unfold ma_gdiv at h
  cases hq : ma_eq y.toInt (.ofNat 0) with
  | true => rw [hq] at h; cases h
  | false =>
    rw [hq] at h
    have h : (Int64.ofInt x.toInt / Int64.ofInt y.toInt).toInt = c := Option.some.inj h
    rw [Int64.ofInt_toInt, Int64.ofInt_toInt] at h
    exact ⟨hg_nz hq, h⟩
theorem hg_rem (x y : Int64) (c : Int) (h : ma_grem x.toInt y.toInt = some c) : ¬ y = 0 ∧ (x - x / y * y).toInt = c := by
  unfold ma_grem at h
  cases hq : ma_eq y.toInt (.ofNat 0) with
  | true => rw [hq] at h; cases h
  | false =>
    rw [hq] at h
    have h : (Int64.ofInt x.toInt - Int64.ofInt x.toInt / Int64.ofInt y.toInt * Int64.ofInt y.toInt).toInt = c := Option.some.inj h
    rw [Int64.ofInt_toInt, Int64.ofInt_toInt] at h
    exact ⟨hg_nz hq, h⟩
theorem hg_shl (x : Int64) (y : Int32) (c : Int) (h : ma_gshl x.toInt y.toInt = some c) : (x <<< (y.toInt64 &&& 63)).toInt = c := by
  have h : (Int64.ofInt x.toInt <<< ((Int32.ofInt y.toInt).toInt64 &&& 63)).toInt = c := Option.some.inj h
  rw [Int64.ofInt_toInt, Int32.ofInt_toInt] at h
  exact h
theorem hg_shr (x : Int64) (y : Int32) (c : Int) (h : ma_gshr x.toInt y.toInt = some c) : (x >>> (y.toInt64 &&& 63)).toInt = c := by
  have h : (Int64.ofInt x.toInt >>> ((Int32.ofInt y.toInt).toInt64 &&& 63)).toInt = c := Option.some.inj h
  rw [Int64.ofInt_toInt, Int32.ofInt_toInt] at h
  exact h
theorem hg_ushr (x : Int64) (y : Int32) (c : Int) (h : ma_gushr x.toInt y.toInt = some c) : ((x.toUInt64 >>> (y.toInt64.toUInt64 &&& Int64.toUInt64 63)).toInt64).toInt = c := by
  have h : ((Int64.ofInt x.toInt).toUInt64 >>> ((Int32.ofInt y.toInt).toInt64.toUInt64 &&& Int64.toUInt64 63)).toInt64.toInt = c := Option.some.inj h
  rw [Int64.ofInt_toInt, Int32.ofInt_toInt] at h
  exact h
theorem hh_b (x : Int32) (c : Int) (h : ma_hb x.toInt = some c) : x.toInt8.toInt32.toInt = c := by
  have h : (Int32.ofInt x.toInt).toInt8.toInt32.toInt = c := Option.some.inj h
  rw [Int32.ofInt_toInt] at h
  exact h
theorem hh_s (x : Int32) (c : Int) (h : ma_hs x.toInt = some c) : x.toInt16.toInt32.toInt = c := by
  have h : (Int32.ofInt x.toInt).toInt16.toInt32.toInt = c := Option.some.inj h
  rw [Int32.ofInt_toInt] at h
  exact h
section MT
variable {j k nx : Nat} {e : mj_E}
theorem ms_newaI (hc : mj_code j k = some e) (hnx : e.2.1 = nx) (hs : ∀ L st hp, mj_step j k e L st hp = mj_newa .int st) : mo_Sim j k (ma_newa 13 (ma_ci (.ofNat 0)) nx) := ms_newa (v := .int 0) hc hnx (fun L x r hp h1 h2 => by
  rw [hs]
  unfold mj_newa
  have h3 : Nat.ble x.toNatClampNeg 1000000 = true := Nat.ble_eq_true_of_le h2
  simp only [if_neg h1, h3, cond_true]) (fun rs => ⟨0, rfl, rfl⟩)
theorem ms_newaL (hc : mj_code j k = some e) (hnx : e.2.1 = nx) (hs : ∀ L st hp, mj_step j k e L st hp = mj_newa .long st) : mo_Sim j k (ma_newa 14 (ma_cl (.ofNat 0)) nx) := ms_newa (v := .long 0) hc hnx (fun L x r hp h1 h2 => by
  rw [hs]
  unfold mj_newa
  have h3 : Nat.ble x.toNatClampNeg 1000000 = true := Nat.ble_eq_true_of_le h2
  simp only [if_neg h1, h3, cond_true]) (fun rs => ⟨0, rfl, rfl⟩)
theorem ms_anew {b : Nat} (hc : mj_code j k = some e) (hnx : e.2.1 = nx) (hs : ∀ L st hp, mj_step j k e L st hp = mj_anew b st) : mo_Sim j k (ma_newa b ma_null nx) := ms_newa (v := .null) hc hnx (fun L x r hp h1 h2 => by
  rw [hs]
  unfold mj_anew
  have h3 : Nat.ble x.toNatClampNeg 1000000 = true := Nat.ble_eq_true_of_le h2
  simp only [if_neg h1, h3, cond_true]) (fun rs => rfl)
theorem ms_isw {dfo : Int} {hi : Int} {offs : Array Int} {ts : List Nat} {df : Nat} (hc : mj_code j k = some e) (hs : ∀ L st hp, mj_step j k e L st hp = mj_isw k nx dfo 0 hi offs L st) (hhi : hi + 1 = ts.length) (hdf : (k : Int) + dfo = (df : Int)) (ho : offs.toList.map (fun o => (k : Int) + o) = ts.map (fun (t : Nat) => (t : Int))) : mo_Sim j k (ma_sw ts df k) := by
  refine ms_sw hc (fun L x r hp h => ?_) (fun L x r hp n t h1 h2 => ?_)
  · rw [hs]
    unfold mj_isw
    have h' : x.toInt < 0 ∨ hi < x.toInt := by omega
    simp only [if_pos h']
    rw [if_neg (by omega), hdf]
    rfl
  · rw [hs]
    unfold mj_isw
    have hlt := (List.getElem?_eq_some_iff.mp h2).1
    have h' : ¬ (x.toInt < 0 ∨ hi < x.toInt) := by omega
    have hm : (offs.toList.map (fun o => (k : Int) + o))[n]? = some (t : Int) := by rw [ho, List.getElem?_map, h2]; rfl
    rw [List.getElem?_map] at hm
    cases hq : offs.toList[n]? with
    | none => rw [hq] at hm; cases hm
    | some o =>
      rw [hq] at hm
      have hm : (k : Int) + o = (t : Int) := Option.some.inj hm
      have hn : (x.toInt - 0).toNat = n := by omega
      have hof : offs[(x.toInt - 0).toNat]? = some o := by rw [hn, ← Array.getElem?_toList]; exact hq
      simp only [if_neg h', hof]
      rw [if_neg (by omega), hm]
      rfl
end MT
theorem mt_none {j k : Nat} : ∀ f : ma_I, (none : Option ma_I) = some f → mo_Sim j k f := fun _ h => by cases h
theorem mt_leaf {j k k0 : Nat} {c : ma_I} {r : Option ma_I} (hc : mo_Sim j k0 c) (hr : ∀ f, r = some f → mo_Sim j k f) : ∀ f, Bool.rec (motive := fun _ => Option ma_I) r (some c) (Nat.beq k k0) = some f → mo_Sim j k f := by
  intro f h
  cases hb : Nat.beq k k0 with
  | true =>
    rw [hb] at h
    have h : some c = some f := h
    cases h
    rw [Nat.eq_of_beq_eq_true hb]
    exact hc
  | false =>
    rw [hb] at h
    exact hr f h
theorem mt_node {j k m : Nat} {a b : Option ma_I} (ha : ∀ f, a = some f → mo_Sim j k f) (hb : ∀ f, b = some f → mo_Sim j k f) : ∀ f, Bool.rec (motive := fun _ => Option ma_I) b a (Nat.ble k m) = some f → mo_Sim j k f := by
  intro f h
  cases hq : Nat.ble k m with
  | true => rw [hq] at h; exact ha f h
  | false => rw [hq] at h; exact hb f h
theorem mt_jleaf {j k j0 : Nat} {c r : Option ma_I} (hc : j = j0 → ∀ f, c = some f → mo_Sim j0 k f) (hr : ∀ f, r = some f → mo_Sim j k f) : ∀ f, Bool.rec (motive := fun _ => Option ma_I) r c (Nat.beq j j0) = some f → mo_Sim j k f := by
  intro f h
  cases hb : Nat.beq j j0 with
  | true =>
    rw [hb] at h
    have e := Nat.eq_of_beq_eq_true hb
    subst e
    exact hc rfl f h
  | false =>
    rw [hb] at h
    exact hr f h
theorem mt_jnode {j k m : Nat} {a b : Option ma_I} (ha : ∀ f, a = some f → mo_Sim j k f) (hb : ∀ f, b = some f → mo_Sim j k f) : ∀ f, Bool.rec (motive := fun _ => Option ma_I) b a (Nat.ble j m) = some f → mo_Sim j k f := by
  intro f h
  cases hq : Nat.ble j m with
  | true => rw [hq] at h; exact ha f h
  | false => rw [hq] at h; exact hb f h
