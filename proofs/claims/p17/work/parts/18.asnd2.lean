/-! The machine of unknowns, closure by closure: numbers, stack, branches. -/
section MT
variable {j k nx : Nat} {e : mj_E}
theorem ms_i2 {f : Int → Int → Option Int} {F : Int32 → Int32 → Int32} (hc : mj_code j k = some e) (hs : ∀ L st hp, mj_step j k e L st hp = mj_i2 F nx L st) (hf : ∀ (x y : Int32) (c : Int), f x.toInt y.toInt = some c → (F x y).toInt = c) : mo_Sim j k (ma_i2 f k nx) := ms_in fun X E H d L st K rs hp L' st' K' hg hR hL hst hK => by
  unfold ma_i2 at hg
  split at hg
  · rename_i y x r
    have hst0 := hst
    obtain ⟨wy, t1, rfl, hy, h1⟩ := hst.cons
    obtain ⟨wx, t2, rfl, hx, h2⟩ := h1.cons
    split at hg
    · exact hg.elim
    · exact ms_cutL hg hR hL hst0 hK
    · rename_i b hb
      obtain ⟨zy, rfl, hzy⟩ := mo_num_i hR.2.1 hy hb
      split at hg
      · exact hg.elim
      · exact ms_cutL hg hR hL hst0 hK
      · rename_i a ha
        obtain ⟨zx, rfl, hzx⟩ := mo_num_i hR.2.1 hx ha
        split at hg
        · exact hg.elim
        · rename_i c hfc
          rw [ma_fz_eq] at hg
          rw [← hzx, ← hzy] at hfc
          exact mo_go hc ((hs _ _ _).trans rfl) (ms_on hg hR hL (st' := .int (F zx zy) :: t2) ⟨⟨_, rfl, hf _ _ _ hfc⟩, h2⟩ hK)
  · exact hg.elim
theorem ms_id {f : Int → Int → Option Int} {F : Int32 → Int32 → Int32} (hc : mj_code j k = some e) (hs : ∀ L st hp, mj_step j k e L st hp = mj_id F nx L st) (hf : ∀ (x y : Int32) (c : Int), f x.toInt y.toInt = some c → ¬ y = 0 ∧ (F x y).toInt = c) : mo_Sim j k (ma_i2 f k nx) := ms_in fun X E H d L st K rs hp L' st' K' hg hR hL hst hK => by
  unfold ma_i2 at hg
  split at hg
  · rename_i y x r
    have hst0 := hst
    obtain ⟨wy, t1, rfl, hy, h1⟩ := hst.cons
    obtain ⟨wx, t2, rfl, hx, h2⟩ := h1.cons
    split at hg
    · exact hg.elim
    · exact ms_cutL hg hR hL hst0 hK
    · rename_i b hb
      obtain ⟨zy, rfl, hzy⟩ := mo_num_i hR.2.1 hy hb
      split at hg
      · exact hg.elim
      · exact ms_cutL hg hR hL hst0 hK
      · rename_i a ha
        obtain ⟨zx, rfl, hzx⟩ := mo_num_i hR.2.1 hx ha
        split at hg
        · exact hg.elim
        · rename_i c hfc
          rw [ma_fz_eq] at hg
          rw [← hzx, ← hzy] at hfc
          obtain ⟨q1, q2⟩ := hf _ _ _ hfc
          refine mo_go hc ?_ (ms_on hg hR hL (st' := .int (F zx zy) :: t2) ⟨⟨_, rfl, q2⟩, h2⟩ hK)
          rw [hs]
          show (if zy = 0 then none else mj_go nx L' (.int (F zx zy) :: t2)) = _
          rw [if_neg q1]
          rfl
  · exact hg.elim
theorem mo_and {x y : Int32} {b : Int} (hy : y.toInt = b) (hb : 0 ≤ b) : 0 ≤ (x &&& y).toInt ∧ (x &&& y).toInt ≤ b := by
  have e1 : y.toInt = y.toBitVec.toInt := rfl
  have e2 : (x &&& y).toInt = (x.toBitVec &&& y.toBitVec).toInt := rfl
  have hlt := y.toBitVec.isLt
  rw [e1, BitVec.toInt_eq_toNat_cond] at hy
  have hle : (x.toBitVec &&& y.toBitVec).toNat ≤ y.toBitVec.toNat := by rw [BitVec.toNat_and]; exact Nat.and_le_right
  rw [e2, BitVec.toInt_eq_toNat_cond]
  split at hy <;> split <;> omega
theorem ma_all_mem {α : Type} : ∀ (n : Nat) (f : Int → α) (z : Int), 0 ≤ z → z ≤ n → f z ∈ ma_all n f
  | 0, f, z, h1, h2 => by
    have : z = 0 := by omega
    subst this
    exact List.mem_singleton.mpr rfl
  | n + 1, f, z, h1, h2 => by
    by_cases h : z = ((n + 1 : Nat) : Int)
    · subst h
      exact List.mem_cons_self
    · exact List.mem_cons_of_mem _ (ma_all_mem n f z h1 (by omega))
theorem ms_iand (hc : mj_code j k = some e) (hs : ∀ L st hp, mj_step j k e L st hp = mj_i2 (fun x y => x &&& y) nx L st) : mo_Sim j k (ma_iand k nx) := ms_in fun X E H d L st K rs hp L' st' K' hg hR hL hst hK => by
  unfold ma_iand at hg
  split at hg
  · rename_i y x r
    have hst0 := hst
    obtain ⟨wy, t1, rfl, hy, h1⟩ := hst.cons
    obtain ⟨wx, t2, rfl, hx, h2⟩ := h1.cons
    split at hg
    · exact hg.elim
    · exact ms_cutL hg hR hL hst0 hK
    · rename_i b hb
      obtain ⟨zy, rfl, hzy⟩ := mo_num_i hR.2.1 hy hb
      split at hg
      · exact hg.elim
      · rename_i q ha
        obtain ⟨v, o, lo, hi⟩ := q
        obtain ⟨rx, zx, -, -, rfl, -⟩ := mo_num_u hR.2.1 hx ha
        rcases ma_b_t hg with ⟨hz, hg⟩ | ⟨-, hg⟩
        · have hz := (ma_eq_iff _ _).mp hz
          have hbd := mo_and (x := zx) hzy (by omega)
          exact mo_go hc ((hs _ _ _).trans rfl) (ms_on hg hR hL (st' := .int (zx &&& zy) :: t2) ⟨⟨_, rfl, by omega⟩, h2⟩ hK)
        · obtain ⟨hz, hg⟩ := ma_b_n hg
          rw [Bool.and_eq_true, ma_lt_iff, ma_lt_iff] at hz
          have hbd := mo_and (x := zx) hzy (by omega)
          have hm := ma_all_mem b.toNat (fun z => (E, H, (d, j, nx, L, ma_ci z :: r) :: K)) (zx &&& zy).toInt hbd.1 (by omega)
          exact mo_go hc ((hs _ _ _).trans rfl) (hg _ hm rs hp ((d, j, nx, L', .int (zx &&& zy) :: t2) :: K') hR ⟨⟨rfl, rfl, rfl, hL, ⟨⟨_, rfl, rfl⟩, h2⟩⟩, hK⟩)
      · rename_i a ha
        obtain ⟨zx, rfl, hzx⟩ := mo_num_i hR.2.1 hx ha
        split at hg
        · exact hg.elim
        · rename_i c hfc
          rw [ma_fz_eq] at hg
          have hfc : (Int32.ofInt a &&& Int32.ofInt b).toInt = c := Option.some.inj hfc
          rw [← hzx, ← hzy, Int32.ofInt_toInt, Int32.ofInt_toInt] at hfc
          exact mo_go hc ((hs _ _ _).trans rfl) (ms_on hg hR hL (st' := .int (zx &&& zy) :: t2) ⟨⟨_, rfl, hfc⟩, h2⟩ hK)
  · exact hg.elim
theorem ms_l2 {f : Int → Int → Option Int} {F : Int64 → Int64 → Int64} (hc : mj_code j k = some e) (hs : ∀ L st hp, mj_step j k e L st hp = mj_l2 F nx L st) (hf : ∀ (x y : Int64) (c : Int), f x.toInt y.toInt = some c → (F x y).toInt = c) : mo_Sim j k (ma_l2 f nx) := ms_in fun X E H d L st K rs hp L' st' K' hg hR hL hst hK => by
  unfold ma_l2 at hg
  split at hg
  · obtain ⟨wy, t1, rfl, hy, h1⟩ := hst.cons
    obtain ⟨wx, t2, rfl, hx, h2⟩ := h1.cons
    split at hg
    · obtain ⟨zy, rfl, hzy⟩ := hy
      obtain ⟨zx, rfl, hzx⟩ := hx
      split at hg
      · exact hg.elim
      · rename_i c hfc
        rw [ma_fz_eq] at hg
        rw [← hzx, ← hzy] at hfc
        exact mo_go hc ((hs _ _ _).trans rfl) (ms_on hg hR hL (st' := .long (F zx zy) :: t2) ⟨⟨_, rfl, hf _ _ _ hfc⟩, h2⟩ hK)
    · obtain ⟨zy, rfl⟩ := hy.long rfl
      obtain ⟨zx, rfl⟩ := hx.long rfl
      exact mo_go hc ((hs _ _ _).trans rfl) (ms_on hg hR hL (st' := .long (F zx zy) :: t2) ⟨⟨_, rfl⟩, h2⟩ hK)
    · exact hg.elim
  · exact hg.elim
theorem ms_ld {f : Int → Int → Option Int} {F : Int64 → Int64 → Int64} (hc : mj_code j k = some e) (hs : ∀ L st hp, mj_step j k e L st hp = mj_ld F nx L st) (hf : ∀ (x y : Int64) (c : Int), f x.toInt y.toInt = some c → ¬ y = 0 ∧ (F x y).toInt = c) : mo_Sim j k (ma_ld f nx) := ms_in fun X E H d L st K rs hp L' st' K' hg hR hL hst hK => by
  unfold ma_ld at hg
  split at hg
  · obtain ⟨wy, t1, rfl, hy, h1⟩ := hst.cons
    obtain ⟨wx, t2, rfl, hx, h2⟩ := h1.cons
    obtain ⟨zy, rfl, hzy⟩ := hy
    obtain ⟨zx, rfl, hzx⟩ := hx
    split at hg
    · exact hg.elim
    · rename_i c hfc
      rw [ma_fz_eq] at hg
      rw [← hzx, ← hzy] at hfc
      obtain ⟨q1, q2⟩ := hf _ _ _ hfc
      refine mo_go hc ?_ (ms_on hg hR hL (st' := .long (F zx zy) :: t2) ⟨⟨_, rfl, q2⟩, h2⟩ hK)
      rw [hs]
      show (if zy = 0 then none else mj_go nx L' (.long (F zx zy) :: t2)) = _
      rw [if_neg q1]
      rfl
  · exact hg.elim
theorem ms_ls {f : Int → Int → Option Int} {F : Int64 → Int32 → Int64} (hc : mj_code j k = some e) (hs : ∀ L st hp, mj_step j k e L st hp = mj_ls F nx L st) (hf : ∀ (x : Int64) (y : Int32) (c : Int), f x.toInt y.toInt = some c → (F x y).toInt = c) : mo_Sim j k (ma_ls f k nx) := ms_in fun X E H d L st K rs hp L' st' K' hg hR hL hst hK => by
  unfold ma_ls at hg
  split at hg
  · have hst0 := hst
    obtain ⟨wy, t1, rfl, hy, h1⟩ := hst.cons
    obtain ⟨wx, t2, rfl, hx, h2⟩ := h1.cons
    split at hg
    · exact hg.elim
    · exact ms_cutL hg hR hL hst0 hK
    · rename_i b hb
      obtain ⟨zy, rfl, hzy⟩ := mo_num_i hR.2.1 hy hb
      split at hg
      · obtain ⟨zx, rfl⟩ := hx
        exact mo_go hc ((hs _ _ _).trans rfl) (ms_on hg hR hL (st' := .long (F zx zy) :: t2) ⟨⟨_, rfl⟩, h2⟩ hK)
      · obtain ⟨zx, rfl, hzx⟩ := hx
        split at hg
        · exact hg.elim
        · rename_i c hfc
          rw [ma_fz_eq] at hg
          rw [← hzx, ← hzy] at hfc
          exact mo_go hc ((hs _ _ _).trans rfl) (ms_on hg hR hL (st' := .long (F zx zy) :: t2) ⟨⟨_, rfl, hf _ _ _ hfc⟩, h2⟩ hK)
  · exact hg.elim
theorem ms_lcmp (hc : mj_code j k = some e) (hs : ∀ L st hp, mj_step j k e L st hp = mj_fcmp nx L st) : mo_Sim j k (ma_lcmp nx) := ms_in fun X E H d L st K rs hp L' st' K' hg hR hL hst hK => by
  unfold ma_lcmp at hg
  split at hg
  · rename_i b a r
    obtain ⟨wy, t1, rfl, hy, h1⟩ := hst.cons
    obtain ⟨wx, t2, rfl, hx, h2⟩ := h1.cons
    obtain ⟨zy, rfl, hzy⟩ := hy
    obtain ⟨zx, rfl, hzx⟩ := hx
    refine mo_go hc ((hs _ _ _).trans rfl) (ms_on hg hR hL (st' := .int (lg_cmp zx zy) :: t2) ⟨⟨_, rfl, ?_⟩, h2⟩ hK)
    unfold lg_cmp ma_c3
    cases h3 : ma_lt b a with
    | true =>
      have := (ma_lt_iff _ _).mp h3
      rw [if_pos (show zx > zy from Int64.lt_iff_toInt_lt.mpr (by omega))]
      rfl
    | false =>
      have h4 := (ma_lt_not _ _).mp h3
      rw [if_neg (show ¬ zx > zy from fun q => by have := Int64.lt_iff_toInt_lt.mp q; omega)]
      cases h5 : ma_eq a b with
      | true =>
        have h6 := (ma_eq_iff _ _).mp h5
        rw [if_pos (Int64.toInt_inj.mp (by omega))]
        rfl
      | false =>
        have h6 := (ma_eq_not _ _).mp h5
        rw [if_neg (fun q => h6 (by rw [← hzx, ← hzy, q]))]
        rfl
  · exact hg.elim
theorem ms_i2l (hc : mj_code j k = some e) (hs : ∀ L st hp, mj_step j k e L st hp = mj_i1 (fun x => .long x.toInt64) nx L st) : mo_Sim j k (ma_i2l nx) := ms_in fun X E H d L st K rs hp L' st' K' hg hR hL hst hK => by
  unfold ma_i2l at hg
  split at hg
  · obtain ⟨wx, t2, rfl, hx, h2⟩ := hst.cons
    split at hg
    · rename_i a ha
      obtain ⟨zx, rfl, hzx⟩ := mo_num_i hR.2.1 hx ha
      exact mo_go hc ((hs _ _ _).trans rfl) (ms_on hg hR hL (st' := .long zx.toInt64 :: t2) ⟨⟨_, rfl, by rw [Int32.toInt_toInt64]; exact hzx⟩, h2⟩ hK)
    · rename_i q ha
      obtain ⟨v, o, lo, hi⟩ := q
      obtain ⟨rx, zx, -, -, rfl, -⟩ := mo_num_u hR.2.1 hx ha
      exact mo_go hc ((hs _ _ _).trans rfl) (ms_on hg hR hL (st' := .long zx.toInt64 :: t2) ⟨⟨_, rfl⟩, h2⟩ hK)
    · exact hg.elim
  · exact hg.elim
theorem ms_i1 {f : Int → Option Int} {F : Int32 → Int32} (hc : mj_code j k = some e) (hs : ∀ L st hp, mj_step j k e L st hp = mj_i1 (fun x => .int (F x)) nx L st) (hf : ∀ (x : Int32) (c : Int), f x.toInt = some c → (F x).toInt = c) : mo_Sim j k (ma_i1 f k nx) := ms_in fun X E H d L st K rs hp L' st' K' hg hR hL hst hK => by
  unfold ma_i1 at hg
  split at hg
  · have hst0 := hst
    obtain ⟨wx, t2, rfl, hx, h2⟩ := hst.cons
    split at hg
    · rename_i a ha
      obtain ⟨zx, rfl, hzx⟩ := mo_num_i hR.2.1 hx ha
      split at hg
      · exact hg.elim
      · rename_i c hfc
        rw [ma_fz_eq] at hg
        rw [← hzx] at hfc
        exact mo_go hc ((hs _ _ _).trans rfl) (ms_on hg hR hL (st' := .int (F zx) :: t2) ⟨⟨_, rfl, hf _ _ hfc⟩, h2⟩ hK)
    · exact ms_cutL hg hR hL hst0 hK
    · exact hg.elim
  · exact hg.elim
theorem ms_l2i (hc : mj_code j k = some e) (hs : ∀ L st hp, mj_step j k e L st hp = mj_fl2i nx L st) : mo_Sim j k (ma_l2i nx) := ms_in fun X E H d L st K rs hp L' st' K' hg hR hL hst hK => by
  unfold ma_l2i at hg
  split at hg
  · obtain ⟨wx, t2, rfl, hx, h2⟩ := hst.cons
    obtain ⟨zx, rfl, hzx⟩ := hx
    rw [ma_fz_eq] at hg
    exact mo_go hc ((hs _ _ _).trans rfl) (ms_on hg hR hL (st' := .int zx.toInt32 :: t2) ⟨⟨_, rfl, ma_w_of (by rw [Int64.toInt_toInt32, hzx])⟩, h2⟩ hK)
  · exact hg.elim
theorem ma_srt_cat {a : ma_V} (h : Nat.blt (ma_srt a) 2 = true) : ma_lcat a = 1 := by
  rcases a with c | p | n | w
  · rfl
  · rfl
  · rfl
  · cases h
theorem ms_beq1 {n : Nat} (h : n = 1) : Nat.beq n 1 = true := by rw [h]; rfl
theorem ms_dup (hc : mj_code j k = some e) (hs : ∀ L st hp, mj_step j k e L st hp = mj_fdup nx L st) : mo_Sim j k (ma_dup nx) := ms_in fun X E H d L st K rs hp L' st' K' hg hR hL hst hK => by
  unfold ma_dup at hg
  split at hg
  · obtain ⟨hb, hg⟩ := ma_b_n hg
    obtain ⟨wx, t2, rfl, hx, h2⟩ := hst.cons
    refine mo_go hc ?_ (ms_on hg hR hL (st' := wx :: wx :: t2) ⟨hx, hx, h2⟩ hK)
    rw [hs]
    show (bif Nat.beq wx.category 1 then mj_go nx L' (wx :: wx :: t2) else none) = _
    rw [ms_beq1 (hx.cat.trans (ma_srt_cat hb))]
    rfl
  · exact hg.elim
theorem ms_dx1 (hc : mj_code j k = some e) (hs : ∀ L st hp, mj_step j k e L st hp = mj_fdx1 nx L st) : mo_Sim j k (ma_dx1 nx) := ms_in fun X E H d L st K rs hp L' st' K' hg hR hL hst hK => by
  unfold ma_dx1 at hg
  split at hg
  · obtain ⟨hb, hg⟩ := ma_b_n hg
    rw [Bool.and_eq_true] at hb
    obtain ⟨wy, t1, rfl, hy, h1⟩ := hst.cons
    obtain ⟨wx, t2, rfl, hx, h2⟩ := h1.cons
    refine mo_go hc ?_ (ms_on hg hR hL (st' := wy :: wx :: wy :: t2) ⟨hy, hx, hy, h2⟩ hK)
    rw [hs]
    show (bif Nat.beq wy.category 1 && Nat.beq wx.category 1 then mj_go nx L' (wy :: wx :: wy :: t2) else none) = _
    rw [ms_beq1 (hy.cat.trans (ma_srt_cat hb.1)), ms_beq1 (hx.cat.trans (ma_srt_cat hb.2))]
    rfl
  · exact hg.elim
theorem ms_d2 (hc : mj_code j k = some e) (hs : ∀ L st hp, mj_step j k e L st hp = mj_fd2 nx L st) : mo_Sim j k (ma_d2 nx) := ms_in fun X E H d L st K rs hp L' st' K' hg hR hL hst hK => by
  unfold ma_d2 at hg
  split at hg
  · obtain ⟨hb, hg⟩ := ma_b_n hg
    rw [Bool.and_eq_true] at hb
    obtain ⟨wy, t1, rfl, hy, h1⟩ := hst.cons
    obtain ⟨wx, t2, rfl, hx, h2⟩ := h1.cons
    refine mo_go hc ?_ (ms_on hg hR hL (st' := wy :: wx :: wy :: wx :: t2) ⟨hy, hx, hy, hx, h2⟩ hK)
    rw [hs]
    show (bif Nat.beq wy.category 1 && Nat.beq wx.category 1 then mj_go nx L' (wy :: wx :: wy :: wx :: t2) else none) = _
    rw [ms_beq1 (hy.cat.trans (ma_srt_cat hb.1)), ms_beq1 (hx.cat.trans (ma_srt_cat hb.2))]
    rfl
  · exact hg.elim
/-! branches -/
def mo_ci (c : ClassFile.Cond) (a b : Int) : Bool := match c with
  | .eq => decide (a = b)
  | .ne => decide (¬ a = b)
  | .lt => decide (a < b)
  | .ge => decide (b ≤ a)
  | .gt => decide (b < a)
  | .le => decide (a ≤ b)
theorem mo_c2 (c : ClassFile.Cond) (x y : Int32) : mj_c2 c x y = mo_ci c x.toInt y.toInt := by
  cases c <;> simp only [mj_c2, mo_ci] <;> (congr 1; first | rw [Int32.toInt_inj] | rw [Int32.lt_iff_toInt_lt] | rw [Int32.le_iff_toInt_le])
theorem mo_c0 (c : ClassFile.Cond) (x : Int32) : mj_c0 c x = mo_ci c x.toInt 0 := by
  have h : mj_c0 c x = mj_c2 c x 0 := by cases c <;> rfl
  rw [h, mo_c2]
  rfl
theorem mo_tu (c : ClassFile.Cond) (a b : Int) : mo_ci (ma_tu c) b a = mo_ci c a b := by
  cases c <;> simp only [mo_ci, ma_tu] <;> (congr 1; first | rfl | (apply propext; constructor <;> (intro h; omega)))
theorem ms_cmp {X : mo_X} {E : ma_E} {H : ma_H} {d : Nat} {L : ma_L} {st r : List ma_V} {K : List ma_F} {rs : List Int} {hp : List mj_C} {L' : mj_L} {st' r' : List Value} {K' : List mo_F} {c : ClassFile.Cond} {x : ma_V} {b : Int} {a : Nat} {v : Value} (hg : mo_Gs X (ma_cmp c x b k a nx E H d j L st r K)) (hR : mo_R X rs E H hp) (hL : mo_L rs L L') (hst : mo_vs rs st st') (hr : mo_vs rs r r') (hK : mo_fs rs K K') (hx : mo_v rs x v)
    (kk : ∀ z : Int32, v = .int z → mo_Ok d j (bif mo_ci c z.toInt b then a else nx) L' r' hp (mo_K K' (mo_P X)) → mo_Ok d j k L' st' hp (mo_K K' (mo_P X))) : mo_Ok d j k L' st' hp (mo_K K' (mo_P X)) := by
  unfold ma_cmp at hg
  split at hg
  · exact hg.elim
  · rename_i n hn
    obtain ⟨z, rfl, hz⟩ := mo_num_i hR.2.1 hx hn
    refine kk z rfl ?_
    rw [hz]
    cases c
    all_goals
      rcases ma_b_t hg with ⟨hb, hg⟩ | ⟨hb, hg⟩
    · rw [show mo_ci .eq n b = true from decide_eq_true ((ma_eq_iff _ _).mp hb)]; exact ms_on hg hR hL hr hK
    · rw [show mo_ci .eq n b = false from decide_eq_false ((ma_eq_not _ _).mp hb)]; exact ms_on hg hR hL hr hK
    · rw [show mo_ci .ne n b = false from decide_eq_false (fun q => q ((ma_eq_iff _ _).mp hb))]; exact ms_on hg hR hL hr hK
    · rw [show mo_ci .ne n b = true from decide_eq_true ((ma_eq_not _ _).mp hb)]; exact ms_on hg hR hL hr hK
    · rw [show mo_ci .lt n b = true from decide_eq_true ((ma_lt_iff _ _).mp hb)]; exact ms_on hg hR hL hr hK
    · rw [show mo_ci .lt n b = false from decide_eq_false (by have := (ma_lt_not _ _).mp hb; omega)]; exact ms_on hg hR hL hr hK
    · rw [show mo_ci .ge n b = false from decide_eq_false (by have := (ma_lt_iff _ _).mp hb; omega)]; exact ms_on hg hR hL hr hK
    · rw [show mo_ci .ge n b = true from decide_eq_true ((ma_lt_not _ _).mp hb)]; exact ms_on hg hR hL hr hK
    · rw [show mo_ci .gt n b = true from decide_eq_true ((ma_lt_iff _ _).mp hb)]; exact ms_on hg hR hL hr hK
    · rw [show mo_ci .gt n b = false from decide_eq_false (by have := (ma_lt_not _ _).mp hb; omega)]; exact ms_on hg hR hL hr hK
    · rw [show mo_ci .le n b = false from decide_eq_false (by have := (ma_lt_iff _ _).mp hb; omega)]; exact ms_on hg hR hL hr hK
    · rw [show mo_ci .le n b = true from decide_eq_true ((ma_lt_not _ _).mp hb)]; exact ms_on hg hR hL hr hK
  · rename_i i o lo hi hn
    obtain ⟨q, z, he, hq, rfl, hz, hlo, hhi⟩ := mo_num_u hR.2.1 hx hn
    have a1 : Int.add hi o = hi + o := rfl
    have a2 : Int.add lo o = lo + o := rfl
    rw [a1, a2] at hg
    have yes : mo_ci c z.toInt b = true → mo_Gs X (ma_on a E H d j L r K) → mo_Ok d j k L' st' hp (mo_K K' (mo_P X)) := fun h1 h2 => kk z rfl (by rw [h1]; exact ms_on h2 hR hL hr hK)
    have no : mo_ci c z.toInt b = false → mo_Gs X (ma_on nx E H d j L r K) → mo_Ok d j k L' st' hp (mo_K K' (mo_P X)) := fun h1 h2 => kk z rfl (by rw [h1]; exact ms_on h2 hR hL hr hK)
    rw [hz] at yes no
    cases c
    · rcases ma_b_t hg with ⟨hb, hg⟩ | ⟨hb, hg⟩
      · rw [Bool.or_eq_true, ma_lt_iff, ma_lt_iff] at hb
        exact no (decide_eq_false (by omega)) hg
      · rcases ma_b_t hg with ⟨-, hg⟩ | ⟨-, hg⟩ <;> (rw [ma_fz_eq] at hg; exact ms_cut hg hR hL hst hK)
    · rcases ma_b_t hg with ⟨hb, hg⟩ | ⟨hb, hg⟩
      · rw [Bool.or_eq_true, ma_lt_iff, ma_lt_iff] at hb
        exact yes (decide_eq_true (by omega)) hg
      · rcases ma_b_t hg with ⟨-, hg⟩ | ⟨-, hg⟩ <;> (rw [ma_fz_eq] at hg; exact ms_cut hg hR hL hst hK)
    · rcases ma_b_t hg with ⟨hb, hg⟩ | ⟨-, hg⟩
      · have hb := (ma_lt_iff _ _).mp hb
        exact yes (decide_eq_true (by omega)) hg
      · rcases ma_b_t hg with ⟨hb, hg⟩ | ⟨-, hg⟩
        · have hb := (ma_le_iff _ _).mp hb
          exact no (decide_eq_false (by omega)) hg
        · rw [ma_fz_eq] at hg; exact ms_cut hg hR hL hst hK
    · rcases ma_b_t hg with ⟨hb, hg⟩ | ⟨-, hg⟩
      · have hb := (ma_lt_iff _ _).mp hb
        exact no (decide_eq_false (by omega)) hg
      · rcases ma_b_t hg with ⟨hb, hg⟩ | ⟨-, hg⟩
        · have hb := (ma_le_iff _ _).mp hb
          exact yes (decide_eq_true (by omega)) hg
        · rw [ma_fz_eq] at hg; exact ms_cut hg hR hL hst hK
    · rcases ma_b_t hg with ⟨hb, hg⟩ | ⟨-, hg⟩
      · have hb := (ma_le_iff _ _).mp hb
        exact no (decide_eq_false (by omega)) hg
      · rcases ma_b_t hg with ⟨hb, hg⟩ | ⟨-, hg⟩
        · have hb := (ma_lt_iff _ _).mp hb
          exact yes (decide_eq_true (by omega)) hg
        · rw [ma_fz_eq] at hg; exact ms_cut hg hR hL hst hK
    · rcases ma_b_t hg with ⟨hb, hg⟩ | ⟨-, hg⟩
      · have hb := (ma_le_iff _ _).mp hb
        exact yes (decide_eq_true (by omega)) hg
      · rcases ma_b_t hg with ⟨hb, hg⟩ | ⟨-, hg⟩
        · have hb := (ma_lt_iff _ _).mp hb
          exact no (decide_eq_false (by omega)) hg
        · rw [ma_fz_eq] at hg; exact ms_cut hg hR hL hst hK
theorem ms_if0 {c : ClassFile.Cond} {a : Nat} (hc : mj_code j k = some e) (hs : ∀ L st hp, mj_step j k e L st hp = mj_fif0 c a nx L st) : mo_Sim j k (ma_if0 c a k nx) := ms_in fun X E H d L st K rs hp L' st' K' hg hR hL hst hK => by
  unfold ma_if0 at hg
  split at hg
  · have hst0 := hst
    obtain ⟨wx, t2, rfl, hx, h2⟩ := hst.cons
    refine ms_cmp hg hR hL hst0 h2 hK hx (fun z hz h => ?_)
    subst hz
    refine mo_go hc ?_ h
    rw [hs]
    show mj_go (bif mj_c0 c z then a else nx) L' t2 = _
    rw [mo_c0]
    rfl
  · exact hg.elim
theorem ms_if2 {c : ClassFile.Cond} {a : Nat} (hc : mj_code j k = some e) (hs : ∀ L st hp, mj_step j k e L st hp = mj_fif2 c a nx L st) : mo_Sim j k (ma_if2 c a k nx) := ms_in fun X E H d L st K rs hp L' st' K' hg hR hL hst hK => by
  unfold ma_if2 at hg
  split at hg
  · have hst0 := hst
    obtain ⟨wy, t1, rfl, hy, h1⟩ := hst.cons
    obtain ⟨wx, t2, rfl, hx, h2⟩ := h1.cons
    split at hg
    · rename_i b hb
      obtain ⟨zy, rfl, hzy⟩ := mo_num_i hR.2.1 hy hb
      refine ms_cmp hg hR hL hst0 h2 hK hx (fun z hz h => ?_)
      subst hz
      refine mo_go hc ?_ h
      rw [hs]
      show mj_go (bif mj_c2 c z zy then a else nx) L' t2 = _
      rw [mo_c2, hzy]
      rfl
    · exact hg.elim
    · rename_i v o w hb
      obtain ⟨lo, hi⟩ := w
      obtain ⟨ry, zy, he, hry, rfl, hzy, -⟩ := mo_num_u hR.2.1 hy hb
      split at hg
      · rename_i z0 hz0
        obtain ⟨zx, rfl, hzx⟩ := mo_num_i hR.2.1 hx hz0
        refine ms_cmp hg hR hL hst0 h2 hK hy (fun z hz h => ?_)
        cases hz
        refine mo_go hc ?_ h
        rw [hs]
        show mj_go (bif mj_c2 c zx zy then a else nx) L' t2 = _
        rw [mo_c2, hzx, ← mo_tu]
        rfl
      · exact hg.elim
      · rename_i v' o' w' hx'
        obtain ⟨lo', hi'⟩ := w'
        obtain ⟨rx, zx, he', hrx, rfl, hzx, -⟩ := mo_num_u hR.2.1 hx hx'
        rcases ma_b_t hg with ⟨hb2, hg9⟩ | ⟨-, hg⟩
        · rw [Bool.and_eq_true, ma_eq_iff] at hb2
          obtain ⟨q1, q2⟩ := hb2
          have q1 := Nat.eq_of_beq_eq_true q1
          subst q1
          subst q2
          rw [hry] at hrx
          cases hrx
          have heq : zx = zy := Int32.toInt_inj.mp (by rw [hzx, hzy])
          subst heq
          refine mo_go hc ((hs _ _ _).trans (show mj_go (bif mj_c2 c zx zx then a else nx) L' t2 = mj_go (bif mo_ci c zx.toInt zx.toInt then a else nx) L' t2 by rw [mo_c2])) ?_
          cases c
          · rw [show mo_ci .eq zx.toInt zx.toInt = true from decide_eq_true rfl]; exact ms_on hg9 hR hL h2 hK
          · rw [show mo_ci .ne zx.toInt zx.toInt = false from decide_eq_false (fun q => q rfl)]; exact ms_on hg9 hR hL h2 hK
          · rw [show mo_ci .lt zx.toInt zx.toInt = false from decide_eq_false (by omega)]; exact ms_on hg9 hR hL h2 hK
          · rw [show mo_ci .ge zx.toInt zx.toInt = true from decide_eq_true (by omega)]; exact ms_on hg9 hR hL h2 hK
          · rw [show mo_ci .gt zx.toInt zx.toInt = false from decide_eq_false (by omega)]; exact ms_on hg9 hR hL h2 hK
          · rw [show mo_ci .le zx.toInt zx.toInt = true from decide_eq_true (by omega)]; exact ms_on hg9 hR hL h2 hK
        · exact ms_cutL hg hR hL hst0 hK
  · exact hg.elim
theorem ms_goto {a : Nat} (hc : mj_code j k = some e) (hs : ∀ L st hp, mj_step j k e L st hp = mj_go a L st) : mo_Sim j k (ma_goto a) := ms_in fun X E H d L st K rs hp L' st' K' hg hR hL hst hK => mo_go hc (hs L' st' hp) (ms_on hg hR hL hst hK)
theorem ms_sw {ts : List Nat} {df : Nat} (hc : mj_code j k = some e) (h1 : ∀ L (x : Int32) r hp, (x.toInt < 0 ∨ (ts.length : Int) ≤ x.toInt) → mj_step j k e L (.int x :: r) hp = mj_go df L r) (h2 : ∀ L (x : Int32) r hp (n t : Nat), x.toInt = n → ts[n]? = some t → mj_step j k e L (.int x :: r) hp = mj_go t L r) : mo_Sim j k (ma_sw ts df k) := ms_in fun X E H d L st K rs hp L' st' K' hg hR hL hst hK => by
  unfold ma_sw at hg
  split at hg
  · have hst0 := hst
    obtain ⟨wx, t2, rfl, hx, h3⟩ := hst.cons
    split at hg
    · exact hg.elim
    · rename_i v o lo hi hn
      obtain ⟨q, z, he, hq, rfl, hz, hlo, hhi⟩ := mo_num_u hR.2.1 hx hn
      have a1 : Int.add hi o = hi + o := rfl
      have a2 : Int.add lo o = lo + o := rfl
      rw [a1, a2] at hg
      rcases ma_b_t hg with ⟨hb, hg⟩ | ⟨-, hg⟩
      · rw [Bool.or_eq_true, ma_lt_iff, ma_le_iff, ma_len_eq] at hb
        have hb : hi + o < 0 ∨ (ts.length : Int) ≤ lo + o := hb
        exact mo_go hc (h1 _ z _ _ (by omega)) (ms_on hg hR hL h3 hK)
      · rcases ma_b_t hg with ⟨-, hg⟩ | ⟨-, hg⟩ <;> (rw [ma_fz_eq] at hg; exact ms_cut hg hR hL hst0 hK)
    · rename_i z0 hz0
      obtain ⟨z, rfl, hz⟩ := mo_num_i hR.2.1 hx hz0
      split at hg
      · exact mo_go hc (h1 _ z _ _ (Or.inl (by rw [hz]; exact Int.negSucc_lt_zero _))) (ms_on hg hR hL h3 hK)
      · rename_i n
        rw [ma_nth_eq] at hg
        split at hg
        · rename_i t ht
          exact mo_go hc (h2 _ z _ _ n t hz ht) (ms_on hg hR hL h3 hK)
        · rename_i ht
          have hle : ts.length ≤ n := List.getElem?_eq_none_iff.mp ht
          exact mo_go hc (h1 _ z _ _ (Or.inr (by rw [hz]; exact Int.ofNat_le.mpr hle))) (ms_on hg hR hL h3 hK)
  · exact hg.elim
end MT
