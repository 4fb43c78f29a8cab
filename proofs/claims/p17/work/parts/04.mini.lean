/-! The small machine: the instructions that the classes use, over a heap that is a list of cells. A cell: the number of its class, its contents. 13: int[], 14: long[], 15, 16, 17: arrays of acts, laws, mades; 18: an int[] that is only read. -/
abbrev mj_C : Type := Nat × List Value
abbrev mj_L : Type := List (Option Value)
/-- what an instruction does: goes on; writes a place of a cell; makes a cell; calls; returns -/
abbrev mj_Act : Type := (Nat × mj_L × List Value) ⊕ (Nat × Nat × Value × List Value) ⊕ (mj_C × List Value) ⊕ (Nat × List Value × List Value) ⊕ (Option Value)
def mj_go (k : Nat) (L : mj_L) (st : List Value) : Option mj_Act := some (.inl (k, L, st))
def mj_w (i p : Nat) (v : Value) (st : List Value) : Option mj_Act := some (.inr (.inl (i, p, v, st)))
def mj_a (x : mj_C) (st : List Value) : Option mj_Act := some (.inr (.inr (.inl (x, st))))
def mj_ca (j : Nat) (as st : List Value) : Option mj_Act := some (.inr (.inr (.inr (.inl (j, as, st)))))
def mj_re (v : Option Value) : Option mj_Act := some (.inr (.inr (.inr (.inr v))))
def mj_un (L : mj_L) (i : Nat) : mj_L := match i with
  | 0 => L
  | i + 1 => match L[i]? with
    | some (some w) => if w.category = 2 then L.set i none else L
    | _ => L
def mj_s1 (L : mj_L) (i : Nat) (v : Value) : mj_L := (mj_un L i).set i (some v)
def mj_s2 (L : mj_L) (i : Nat) (v : Value) : mj_L := ((mj_un L i).set i (some v)).set (i + 1) none
def mj_c0 (c : ClassFile.Cond) (x : Int32) : Bool := match c with
  | .eq => decide (x = 0)
  | .ne => decide (¬ x = 0)
  | .lt => decide (x < 0)
  | .ge => decide (0 ≤ x)
  | .gt => decide (0 < x)
  | .le => decide (x ≤ 0)
def mj_c2 (c : ClassFile.Cond) (x y : Int32) : Bool := match c with
  | .eq => decide (x = y)
  | .ne => decide (¬ x = y)
  | .lt => decide (x < y)
  | .ge => decide (y ≤ x)
  | .gt => decide (y < x)
  | .le => decide (x ≤ y)
def mj_ild (i nx : Nat) (L : mj_L) (st : List Value) : Option mj_Act := match L[i]? with
  | some (some (.int x)) => mj_go nx L (.int x :: st)
  | _ => none
def mj_lld (i nx : Nat) (L : mj_L) (st : List Value) : Option mj_Act := match L[i]? with
  | some (some (.long x)) => mj_go nx L (.long x :: st)
  | _ => none
def mj_ald (i nx : Nat) (L : mj_L) (st : List Value) : Option mj_Act := match L[i]? with
  | some (some (.ref x)) => mj_go nx L (.ref x :: st)
  | _ => none
def mj_ist (i nx : Nat) (L : mj_L) (st : List Value) : Option mj_Act := match st with
  | .int x :: r => bif Nat.blt i L.length then mj_go nx (mj_s1 L i (.int x)) r else none
  | _ => none
def mj_lst (i nx : Nat) (L : mj_L) (st : List Value) : Option mj_Act := match st with
  | .long x :: r => bif Nat.blt (i + 1) L.length then mj_go nx (mj_s2 L i (.long x)) r else none
  | _ => none
def mj_ast (i nx : Nat) (L : mj_L) (st : List Value) : Option mj_Act := match st with
  | .ref x :: r => bif Nat.blt i L.length then mj_go nx (mj_s1 L i (.ref x)) r else none
  | _ => none
def mj_i2 (f : Int32 → Int32 → Int32) (nx : Nat) (L : mj_L) (st : List Value) : Option mj_Act := match st with
  | .int y :: .int x :: r => mj_go nx L (.int (f x y) :: r)
  | _ => none
def mj_l2 (f : Int64 → Int64 → Int64) (nx : Nat) (L : mj_L) (st : List Value) : Option mj_Act := match st with
  | .long y :: .long x :: r => mj_go nx L (.long (f x y) :: r)
  | _ => none
def mj_ls (f : Int64 → Int32 → Int64) (nx : Nat) (L : mj_L) (st : List Value) : Option mj_Act := match st with
  | .int y :: .long x :: r => mj_go nx L (.long (f x y) :: r)
  | _ => none
def mj_id (f : Int32 → Int32 → Int32) (nx : Nat) (L : mj_L) (st : List Value) : Option mj_Act := match st with
  | .int y :: .int x :: r => if y = 0 then none else mj_go nx L (.int (f x y) :: r)
  | _ => none
def mj_ld (f : Int64 → Int64 → Int64) (nx : Nat) (L : mj_L) (st : List Value) : Option mj_Act := match st with
  | .long y :: .long x :: r => if y = 0 then none else mj_go nx L (.long (f x y) :: r)
  | _ => none
def mj_i1 (f : Int32 → Value) (nx : Nat) (L : mj_L) (st : List Value) : Option mj_Act := match st with
  | .int x :: r => mj_go nx L (f x :: r)
  | _ => none
def mj_isI (c : Nat) : Bool := Nat.beq c 13 || Nat.beq c 18
def mj_isR (c : Nat) : Bool := Nat.beq c 15 || Nat.beq c 16 || Nat.beq c 17
/-- the class of what an array of references holds -/
def mj_el (c : Nat) : Nat := bif Nat.beq c 15 then 0 else bif Nat.beq c 16 then 4 else 6
def mj_iald (nx : Nat) (L : mj_L) (st : List Value) (hp : List mj_C) : Option mj_Act := match st with
  | .int i :: .ref q :: r => match hp[q]? with
    | some (c, vs) => if i < 0 then none else bif mj_isI c then (match vs[i.toNatClampNeg]? with
      | some (.int x) => mj_go nx L (.int x :: r)
      | _ => none) else none
    | none => none
  | _ => none
def mj_lald (nx : Nat) (L : mj_L) (st : List Value) (hp : List mj_C) : Option mj_Act := match st with
  | .int i :: .ref q :: r => match hp[q]? with
    | some (c, vs) => if i < 0 then none else bif Nat.beq c 14 then (match vs[i.toNatClampNeg]? with
      | some (.long x) => mj_go nx L (.long x :: r)
      | _ => none) else none
    | none => none
  | _ => none
def mj_aald (nx : Nat) (L : mj_L) (st : List Value) (hp : List mj_C) : Option mj_Act := match st with
  | .int i :: .ref q :: r => match hp[q]? with
    | some (c, vs) => if i < 0 then none else bif mj_isR c then (match vs[i.toNatClampNeg]? with
      | some (.ref x) => mj_go nx L (.ref x :: r)
      | _ => none) else none
    | none => none
  | _ => none
def mj_iast (st : List Value) (hp : List mj_C) : Option mj_Act := match st with
  | .int x :: .int i :: .ref q :: r => match hp[q]? with
    | some (c, vs) => if i < 0 then none else bif Nat.beq c 13 then (match vs[i.toNatClampNeg]? with
      | some _ => mj_w q i.toNatClampNeg (.int x) r
      | none => none) else none
    | none => none
  | _ => none
def mj_last (st : List Value) (hp : List mj_C) : Option mj_Act := match st with
  | .long x :: .int i :: .ref q :: r => match hp[q]? with
    | some (c, vs) => if i < 0 then none else bif Nat.beq c 14 then (match vs[i.toNatClampNeg]? with
      | some _ => mj_w q i.toNatClampNeg (.long x) r
      | none => none) else none
    | none => none
  | _ => none
def mj_aast (st : List Value) (hp : List mj_C) : Option mj_Act := match st with
  | .ref x :: .int i :: .ref q :: r => match hp[q]? with
    | some (c, vs) => if i < 0 then none else bif mj_isR c then (match vs[i.toNatClampNeg]? with
      | some _ => (match hp[x]? with
        | some (cx, _) => bif Nat.beq cx (mj_el c) then mj_w q i.toNatClampNeg (.ref x) r else none
        | none => none)
      | none => none) else none
    | none => none
  | _ => none
def mj_alen (nx : Nat) (L : mj_L) (st : List Value) (hp : List mj_C) : Option mj_Act := match st with
  | .ref q :: r => match hp[q]? with
    | some (c, vs) => bif Nat.ble 13 c && Nat.ble c 18 then mj_go nx L (.int (Int32.ofNat vs.length) :: r) else none
    | none => none
  | _ => none
def mj_getf (a b nx : Nat) (L : mj_L) (st : List Value) (hp : List mj_C) : Option mj_Act := match st with
  | .ref q :: r => match hp[q]? with
    | some (c, vs) => bif Nat.beq c a then (match vs[b]? with
      | some v => mj_go nx L (v :: r)
      | none => none) else none
    | none => none
  | _ => none
def mj_putf (a b : Nat) (st : List Value) (hp : List mj_C) : Option mj_Act := match st with
  | v :: .ref q :: r => match hp[q]? with
    | some (c, vs) => bif Nat.beq c a then (match vs[b]? with
      | some _ => bif decide (narrow (mj_ty a b) v = v) && fits (mj_ty a b) v then mj_w q b v r else none
      | none => none) else none
    | none => none
  | _ => none
def mj_blank (c : Nat) : mj_C := (c, (List.range (mj_N c)).map (fun k => defaultValue (mj_ty c k)))
def mj_newa (t : ArrayType) (st : List Value) : Option mj_Act := match st with
  | .int n :: r => if n < 0 then none else bif Nat.ble n.toNatClampNeg 1000000 then (match t with
    | .int => mj_a (13, List.replicate n.toNatClampNeg (.int 0)) r
    | .long => mj_a (14, List.replicate n.toNatClampNeg (.long 0)) r
    | _ => none) else none
  | _ => none
def mj_anew (b : Nat) (st : List Value) : Option mj_Act := match st with
  | .int n :: r => if n < 0 then none else bif Nat.ble n.toNatClampNeg 1000000 then mj_a (b, List.replicate n.toNatClampNeg .null) r else none
  | _ => none
def mj_cats (st : List Value) : Nat := (st.map fun v => v.category).sum
def mj_invV (a : Nat) (st : List Value) (hp : List mj_C) : Option mj_Act := match st.drop (mj_mx a).2.2 with
  | .ref q :: r => match hp[q]? with
    | some (c, _) => bif Nat.beq c (mj_mx a).2.1 && Nat.ble (mj_cats r) 8 && Nat.blt c 13 then mj_ca a (.ref q :: (st.take (mj_mx a).2.2).reverse) r else none
    | none => none
  | _ => none
def mj_invI (a : Nat) (st : List Value) : Option mj_Act := match st.drop (mj_mx a).2.2 with
  | .ref q :: r => bif Nat.ble (mj_cats r) 8 then mj_ca a (.ref q :: (st.take (mj_mx a).2.2).reverse) r else none
  | _ => none
def mj_invS (a : Nat) (st : List Value) : Option mj_Act := bif Nat.ble (mj_mx a).2.2 st.length && Nat.ble (mj_cats (st.drop (mj_mx a).2.2)) 8 then mj_ca a (st.take (mj_mx a).2.2).reverse (st.drop (mj_mx a).2.2) else none
def mj_isw (k nx : Nat) (d lo hi : Int) (offs : Array Int) (L : mj_L) (st : List Value) : Option mj_Act := match st with
  | .int x :: r => if x.toInt < lo ∨ hi < x.toInt then (if (k : Int) + d < 0 then none else mj_go ((k : Int) + d).toNat L r) else (match offs[(x.toInt - lo).toNat]? with
    | some o => if (k : Int) + o < 0 then none else mj_go ((k : Int) + o).toNat L r
    | none => none)
  | _ => none
def mj_fcmp (nx : Nat) (L : mj_L) (st : List Value) : Option mj_Act := match st with
  | .long y :: .long x :: r => mj_go nx L (.int (lg_cmp x y) :: r)
  | _ => none
def mj_fl2i (nx : Nat) (L : mj_L) (st : List Value) : Option mj_Act := match st with
  | .long x :: r => mj_go nx L (.int x.toInt32 :: r)
  | _ => none
def mj_fdup (nx : Nat) (L : mj_L) (st : List Value) : Option mj_Act := match st with
  | v :: r => bif Nat.beq v.category 1 then mj_go nx L (v :: v :: r) else none
  | _ => none
def mj_fpop (nx : Nat) (L : mj_L) (st : List Value) : Option mj_Act := match st with
  | v :: r => bif Nat.beq v.category 1 then mj_go nx L r else none
  | _ => none
def mj_fpop2 (nx : Nat) (L : mj_L) (st : List Value) : Option mj_Act := match st with
  | v :: r => bif Nat.beq v.category 2 then mj_go nx L r else none
  | _ => none
def mj_fdx1 (nx : Nat) (L : mj_L) (st : List Value) : Option mj_Act := match st with
  | v :: w :: r => bif Nat.beq v.category 1 && Nat.beq w.category 1 then mj_go nx L (v :: w :: v :: r) else none
  | _ => none
def mj_fd2 (nx : Nat) (L : mj_L) (st : List Value) : Option mj_Act := match st with
  | v :: w :: r => bif Nat.beq v.category 1 && Nat.beq w.category 1 then mj_go nx L (v :: w :: v :: w :: r) else none
  | _ => none
def mj_fif0 (c : ClassFile.Cond) (a nx : Nat) (L : mj_L) (st : List Value) : Option mj_Act := match st with
  | .int x :: r => mj_go (bif mj_c0 c x then a else nx) L r
  | _ => none
def mj_fif2 (c : ClassFile.Cond) (a nx : Nat) (L : mj_L) (st : List Value) : Option mj_Act := match st with
  | .int y :: .int x :: r => mj_go (bif mj_c2 c x y then a else nx) L r
  | _ => none
def mj_fobj (nx : Nat) (L : mj_L) (st : List Value) : Option mj_Act := match st with
  | .ref _ :: r => bif Nat.ble (mj_cats r) 8 then mj_go nx L r else none
  | _ => none
def mj_fir (j : Nat) (st : List Value) : Option mj_Act := match st with
  | [.int v] => (match mj_rt j with
    | some .int => mj_re (some (.int v))
    | some .boolean => if v = 0 ∨ v = 1 then mj_re (some (.int v)) else none
    | _ => none)
  | _ => none
def mj_flr (j : Nat) (st : List Value) : Option mj_Act := match st with
  | [.long v] => (match mj_rt j with
    | some .long => mj_re (some (.long v))
    | _ => none)
  | _ => none
def mj_far (j : Nat) (st : List Value) : Option mj_Act := match st with
  | [.ref v] => (match mj_rt j with
    | some (.object _) => mj_re (some (.ref v))
    | some (.array _) => mj_re (some (.ref v))
    | _ => none)
  | _ => none
def mj_fvr (j : Nat) (st : List Value) : Option mj_Act := match st with
  | [] => (match mj_rt j with
    | none => mj_re none
    | _ => none)
  | _ => none
/-- one instruction of method j at place k -/
def mj_step (j k : Nat) (e : mj_E) (L : mj_L) (st : List Value) (hp : List mj_C) : Option mj_Act := match e with
  | (ins, nx, a, b, _) => match ins with
    | .iconst n => mj_go nx L (.int (Int32.ofInt n) :: st)
    | .bipush n => mj_go nx L (.int (Int8.ofInt n).toInt32 :: st)
    | .sipush n => mj_go nx L (.int (Int16.ofInt n).toInt32 :: st)
    | .lconst n => mj_go nx L (.long (Int64.ofNat (n : Nat)) :: st)
    | .ldc _ => mj_go nx L (.int (Int32.ofNat a) :: st)
    | .ldc_w _ => mj_go nx L (.int (Int32.ofNat a) :: st)
    | .ldc2_w _ => mj_go nx L (.long (Int64.ofNat a) :: st)
    | .iload i => mj_ild i nx L st
    | .iload_n i => mj_ild i nx L st
    | .lload i => mj_lld i nx L st
    | .lload_n i => mj_lld i nx L st
    | .aload i => mj_ald i nx L st
    | .aload_n i => mj_ald i nx L st
    | .istore i => mj_ist i nx L st
    | .istore_n i => mj_ist i nx L st
    | .lstore i => mj_lst i nx L st
    | .lstore_n i => mj_lst i nx L st
    | .astore i => mj_ast i nx L st
    | .astore_n i => mj_ast i nx L st
    | .iinc i n => match L[i]? with
      | some (some (.int x)) => mj_go nx (mj_s1 L i (.int (x + Int32.ofInt n))) st
      | _ => none
    | .iadd => mj_i2 (fun x y => x + y) nx L st
    | .isub => mj_i2 (fun x y => x - y) nx L st
    | .imul => mj_i2 (fun x y => x * y) nx L st
    | .iand => mj_i2 (fun x y => x &&& y) nx L st
    | .ior => mj_i2 (fun x y => x ||| y) nx L st
    | .ixor => mj_i2 (fun x y => x ^^^ y) nx L st
    | .ishl => mj_i2 (fun x y => x <<< (y &&& 31)) nx L st
    | .ishr => mj_i2 (fun x y => x >>> (y &&& 31)) nx L st
    | .iushr => mj_i2 (fun x y => (x.toUInt32 >>> (y.toUInt32 &&& Int32.toUInt32 31)).toInt32) nx L st
    | .idiv => mj_id (fun x y => x / y) nx L st
    | .irem => mj_id (fun x y => x - x / y * y) nx L st
    | .ladd => mj_l2 (fun x y => x + y) nx L st
    | .lsub => mj_l2 (fun x y => x - y) nx L st
    | .lmul => mj_l2 (fun x y => x * y) nx L st
    | .land => mj_l2 (fun x y => x &&& y) nx L st
    | .lor => mj_l2 (fun x y => x ||| y) nx L st
    | .ldiv => mj_ld (fun x y => x / y) nx L st
    | .lrem => mj_ld (fun x y => x - x / y * y) nx L st
    | .lshl => mj_ls (fun x y => x <<< (y.toInt64 &&& 63)) nx L st
    | .lshr => mj_ls (fun x y => x >>> (y.toInt64 &&& 63)) nx L st
    | .lushr => mj_ls (fun x y => (x.toUInt64 >>> (y.toInt64.toUInt64 &&& Int64.toUInt64 63)).toInt64) nx L st
    | .lcmp => mj_fcmp nx L st
    | .i2l => mj_i1 (fun x => .long x.toInt64) nx L st
    | .i2b => mj_i1 (fun x => .int x.toInt8.toInt32) nx L st
    | .i2s => mj_i1 (fun x => .int x.toInt16.toInt32) nx L st
    | .l2i => mj_fl2i nx L st
    | .dup => mj_fdup nx L st
    | .pop => mj_fpop nx L st
    | .pop2 => mj_fpop2 nx L st
    | .dup_x1 => mj_fdx1 nx L st
    | .dup2 => mj_fd2 nx L st
    | .ifCond c _ => mj_fif0 c a nx L st
    | .if_icmp c _ => mj_fif2 c a nx L st
    | .goto _ => mj_go a L st
    | .tableswitch d lo hi offs => mj_isw k nx d lo hi offs L st
    | .getfield _ => mj_getf a b nx L st hp
    | .putfield _ => mj_putf a b st hp
    | .getstatic _ => mj_go nx L (.ref a :: st)
    | .iaload => mj_iald nx L st hp
    | .laload => mj_lald nx L st hp
    | .aaload => mj_aald nx L st hp
    | .iastore => mj_iast st hp
    | .lastore => mj_last st hp
    | .aastore => mj_aast st hp
    | .arraylength => mj_alen nx L st hp
    | .new _ => mj_a (mj_blank a) st
    | .newarray t => mj_newa t st
    | .anewarray _ => mj_anew b st
    | .invokevirtual _ => mj_invV a st hp
    | .invokestatic _ => mj_invS a st
    | .invokespecial _ => bif Nat.beq b 4 then mj_fobj nx L st else mj_invI a st
    | .ireturn => mj_fir j st
    | .lreturn => mj_flr j st
    | .areturn => mj_far j st
    | .return_ => mj_fvr j st
    | _ => none
def mj_wr (hp : List mj_C) (i p : Nat) (v : Value) : List mj_C := match hp[i]? with
  | some (c, vs) => hp.set i (c, vs.set p v)
  | none => hp
def mj_sl (as : List Value) : mj_L := as.flatMap fun v => if v.category = 2 then [some v, none] else [some v]
def mj_ent (n : Nat) (as : List Value) : mj_L := mj_sl as ++ List.replicate (n - (mj_sl as).length) none
abbrev mj_X : Type := Nat → Nat → Nat → mj_L → List Value → List mj_C → Option (Option Value × List mj_C)
def mj_call (E : mj_X) (d j nx : Nat) (L : mj_L) (hp : List mj_C) (j' : Nat) (as r : List Value) : Option (Option Value × List mj_C) := match d with
  | 0 => none
  | d' + 1 => bif Nat.ble (mj_sl as).length (mj_mx j').1 then (match E d' j' 0 (mj_ent (mj_mx j').1 as) [] hp with
    | none => none
    | some (v, hp1) => E (d' + 1) j nx L (v.toList ++ r) hp1) else none
def mj_cont (E : mj_X) (d j nx : Nat) (L : mj_L) (hp : List mj_C) (o : Option mj_Act) : Option (Option Value × List mj_C) := match o with
  | none => none
  | some (.inl (k', L', st')) => E d j k' L' st' hp
  | some (.inr (.inl (i, p, v, r))) => E d j nx L r (mj_wr hp i p v)
  | some (.inr (.inr (.inl (x, r)))) => E d j nx L (.ref hp.length :: r) (hp ++ [x])
  | some (.inr (.inr (.inr (.inl (j', as, r))))) => mj_call E d j nx L hp j' as r
  | some (.inr (.inr (.inr (.inr v)))) => some (v, hp)
/-- n instructions at most, d frames at most above this one -/
def mj_exec : Nat → mj_X
  | 0, _, _, _, _, _, _ => none
  | n + 1, d, j, k, L, st, hp => match mj_code j k with
    | none => none
    | some e => mj_cont (mj_exec n) d j e.2.1 L hp (mj_step j k e L st hp)
