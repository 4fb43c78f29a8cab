abbrev mq_U (c : ByteArray) (k o : Nat) : Prop := (Jvm.ClassFile.Reader.u1 : Jvm.ClassFile.Decoder Nat) c k = .ok (o, k + 1)
theorem mq_by {c : ByteArray} {k : Nat} {b : UInt8} {t : List UInt8} (h : c.data.toList.drop k = b :: t) : mq_U c k b.toNat ∧ c.data.toList.drop (k + 1) = t := by
  have hl : k < c.data.toList.length := by
    apply Classical.byContradiction
    intro q
    rw [List.drop_eq_nil_of_le (by omega)] at h
    cases h
  have hs : k < c.size := hl
  have hc : c[k] = b := by
    have e := List.drop_eq_getElem_cons hl
    rw [h] at e
    have e2 := (List.cons.inj e).1
    rw [e2]
    rfl
  have ht : c.data.toList.drop (k + 1) = t := by
    have e := List.drop_eq_getElem_cons hl
    rw [h] at e
    exact (List.cons.inj e).2.symm
  refine ⟨?_, ht⟩
  show (if h : k < c.size then (do set (k + 1); pure (c[k]).toNat : Jvm.ClassFile.Decoder Nat) else throw (Jvm.ClassFile.HasTruncated.truncated k)) c k = _
  rw [dif_pos hs, hc]
  rfl
theorem mq_bd {c : ByteArray} {k o p : Nat} {i : Instr} {q n : Nat} (G : Nat → Jvm.ClassFile.Decoder Instr) (hG : Jvm.ClassFile.Decoder.instr k = (Jvm.ClassFile.Reader.u1 : Jvm.ClassFile.Decoder Nat) >>= G) (r : Jvm.ClassFile.Decoder Instr) (hr : G o = r) (hu : (Jvm.ClassFile.Reader.u1 : Jvm.ClassFile.Decoder Nat) c k = .ok (o, p)) (hx : r c p = .ok (i, q)) (hn : q - k = n) : decode c k = .ok (i, n) := by
  have e : (Jvm.ClassFile.Decoder.instr k) c k = .ok (i, q) := by
    rw [hG]
    show Except.bind ((Jvm.ClassFile.Reader.u1 : Jvm.ClassFile.Decoder Nat) c k) (fun x => G x.1 c x.2) = _
    rw [hu]
    show G o c p = _
    rw [hr, hx]
  show Except.bind ((Jvm.ClassFile.Decoder.instr k) c k) (fun x => Except.ok (x.1, x.2 - k)) = _
  rw [e]
  show Except.ok (i, q - k) = _
  rw [hn]
theorem mq_x0 {c : ByteArray} {p : Nat} {i : Instr} : (pure i : Jvm.ClassFile.Decoder Instr) c p = .ok (i, p) := rfl
theorem mq_x1 {c : ByteArray} {p x : Nat} {f : Nat → Instr} (hu : mq_U c p x) : ((Jvm.ClassFile.Reader.u1 : Jvm.ClassFile.Decoder Nat) >>= fun y => pure (f y)) c p = .ok (f x, p + 1) := by
  show Except.bind ((Jvm.ClassFile.Reader.u1 : Jvm.ClassFile.Decoder Nat) c p) (fun z => Except.ok (f z.1, z.2)) = _
  rw [hu]
  rfl
theorem mq_u2 {c : ByteArray} {p a b : Nat} (h1 : mq_U c p a) (h2 : mq_U c (p + 1) b) : (Jvm.ClassFile.Reader.u2 : Jvm.ClassFile.Decoder Nat) c p = .ok (a * 256 + b, p + 2) := by
  show Except.bind ((Jvm.ClassFile.Reader.u1 : Jvm.ClassFile.Decoder Nat) c p) (fun y => Except.bind ((Jvm.ClassFile.Reader.u1 : Jvm.ClassFile.Decoder Nat) c y.2) (fun z => Except.ok (y.1 * 256 + z.1, z.2))) = _
  rw [h1]
  show Except.bind ((Jvm.ClassFile.Reader.u1 : Jvm.ClassFile.Decoder Nat) c (p + 1)) (fun z => Except.ok (a * 256 + z.1, z.2)) = _
  rw [h2]
  rfl
theorem mq_x2 {c : ByteArray} {p a b : Nat} {f : Nat → Instr} (h1 : mq_U c p a) (h2 : mq_U c (p + 1) b) : ((Jvm.ClassFile.Reader.u2 : Jvm.ClassFile.Decoder Nat) >>= fun y => pure (f y)) c p = .ok (f (a * 256 + b), p + 2) := by
  show Except.bind ((Jvm.ClassFile.Reader.u2 : Jvm.ClassFile.Decoder Nat) c p) (fun z => Except.ok (f z.1, z.2)) = _
  rw [mq_u2 h1 h2]
  rfl
theorem mq_y1 {c : ByteArray} {p a : Nat} {f : Int → Instr} (h1 : mq_U c p a) : ((Jvm.ClassFile.Reader.s1 : Jvm.ClassFile.Decoder Int) >>= fun y => pure (f y)) c p = .ok (f (Jvm.ClassFile.Reader.signed 8 a), p + 1) := by
  show Except.bind (Except.map (fun z : Nat × Nat => (Jvm.ClassFile.Reader.signed 8 z.1, z.2)) ((Jvm.ClassFile.Reader.u1 : Jvm.ClassFile.Decoder Nat) c p)) (fun z => Except.ok (f z.1, z.2)) = _
  rw [h1]
  rfl
theorem mq_y2 {c : ByteArray} {p a b : Nat} {f : Int → Instr} (h1 : mq_U c p a) (h2 : mq_U c (p + 1) b) : ((Jvm.ClassFile.Reader.s2 : Jvm.ClassFile.Decoder Int) >>= fun y => pure (f y)) c p = .ok (f (Jvm.ClassFile.Reader.signed 16 (a * 256 + b)), p + 2) := by
  show Except.bind (Except.map (fun z : Nat × Nat => (Jvm.ClassFile.Reader.signed 16 z.1, z.2)) ((Jvm.ClassFile.Reader.u2 : Jvm.ClassFile.Decoder Nat) c p)) (fun z => Except.ok (f z.1, z.2)) = _
  rw [mq_u2 h1 h2]
  rfl
theorem mq_yi {c : ByteArray} {p a b : Nat} {f : Nat → Int → Instr} (h1 : mq_U c p a) (h2 : mq_U c (p + 1) b) : ((Jvm.ClassFile.Reader.u1 : Jvm.ClassFile.Decoder Nat) >>= fun x => (Jvm.ClassFile.Reader.s1 : Jvm.ClassFile.Decoder Int) >>= fun y => pure (f x y)) c p = .ok (f a (Jvm.ClassFile.Reader.signed 8 b), p + 2) := by
  show Except.bind ((Jvm.ClassFile.Reader.u1 : Jvm.ClassFile.Decoder Nat) c p) (fun w => ((Jvm.ClassFile.Reader.s1 : Jvm.ClassFile.Decoder Int) >>= fun y => pure (f w.1 y)) c w.2) = _
  rw [h1]
  exact mq_y1 h2
theorem mq_na {c : ByteArray} {k p o : Nat} {i : Instr} (G : Nat → Jvm.ClassFile.Decoder Instr) (hG : Jvm.ClassFile.Decoder.newarray k = (Jvm.ClassFile.Reader.u1 : Jvm.ClassFile.Decoder Nat) >>= G) (hr : G o = (Pure.pure i : Jvm.ClassFile.Decoder Instr)) (hu : mq_U c p o) : (Jvm.ClassFile.Decoder.newarray k) c p = .ok (i, p + 1) := by
  rw [hG]
  show Except.bind ((Jvm.ClassFile.Reader.u1 : Jvm.ClassFile.Decoder Nat) c p) (fun x => G x.1 c x.2) = _
  rw [hu]
  show G o c (p + 1) = _
  rw [hr]
  rfl
def mq_m1 (l : List UInt8) (o n : Nat) : Bool := match l with
  | b :: _ => Nat.beq b.toNat o && Nat.beq n 1
  | [] => false
def mq_m2 (l : List UInt8) (o x n : Nat) : Bool := match l with
  | b :: d :: _ => Nat.beq b.toNat o && Nat.beq d.toNat x && Nat.beq n 2
  | _ => false
def mq_m3 (l : List UInt8) (o x n : Nat) : Bool := match l with
  | b :: d :: e :: _ => Nat.beq b.toNat o && Nat.beq (d.toNat * 256 + e.toNat) x && Nat.beq n 3
  | _ => false
def mq_s1 (l : List UInt8) (o : Nat) (x : Int) (n : Nat) : Bool := match l with
  | b :: d :: _ => Nat.beq b.toNat o && decide (Jvm.ClassFile.Reader.signed 8 d.toNat = x) && Nat.beq n 2
  | _ => false
def mq_s2 (l : List UInt8) (o : Nat) (x : Int) (n : Nat) : Bool := match l with
  | b :: d :: e :: _ => Nat.beq b.toNat o && decide (Jvm.ClassFile.Reader.signed 16 (d.toNat * 256 + e.toNat) = x) && Nat.beq n 3
  | _ => false
def mq_si (l : List UInt8) (o x : Nat) (y : Int) (n : Nat) : Bool := match l with
  | b :: d :: e :: _ => Nat.beq b.toNat o && Nat.beq d.toNat x && decide (Jvm.ClassFile.Reader.signed 8 e.toNat = y) && Nat.beq n 3
  | _ => false
theorem mq_m1_ok {c : ByteArray} {k : Nat} {l : List UInt8} {o n : Nat} (hl : c.data.toList.drop k = l) (h : mq_m1 l o n = true) : mq_U c k o ∧ n = 1 := by
  match l, hl, h with
  | b :: t, hl, h =>
    have h : (Nat.beq b.toNat o && Nat.beq n 1) = true := h
    rw [Bool.and_eq_true] at h
    have e := Nat.eq_of_beq_eq_true h.1
    exact ⟨e ▸ (mq_by hl).1, Nat.eq_of_beq_eq_true h.2⟩
  | [], _, h => cases h
theorem mq_m2_ok {c : ByteArray} {k : Nat} {l : List UInt8} {o x n : Nat} (hl : c.data.toList.drop k = l) (h : mq_m2 l o x n = true) : mq_U c k o ∧ mq_U c (k + 1) x ∧ n = 2 := by
  match l, hl, h with
  | b :: d :: t, hl, h =>
    have h : (Nat.beq b.toNat o && Nat.beq d.toNat x && Nat.beq n 2) = true := h
    rw [Bool.and_eq_true, Bool.and_eq_true] at h
    have e := Nat.eq_of_beq_eq_true h.1.1
    have e2 := Nat.eq_of_beq_eq_true h.1.2
    exact ⟨e ▸ (mq_by hl).1, e2 ▸ (mq_by (mq_by hl).2).1, Nat.eq_of_beq_eq_true h.2⟩
  | [_], _, h => cases h
  | [], _, h => cases h
theorem mq_m3_ok {c : ByteArray} {k : Nat} {l : List UInt8} {o x n : Nat} (hl : c.data.toList.drop k = l) (h : mq_m3 l o x n = true) : ∃ a b : Nat, mq_U c k o ∧ mq_U c (k + 1) a ∧ mq_U c (k + 2) b ∧ a * 256 + b = x ∧ n = 3 := by
  match l, hl, h with
  | b :: d :: f :: t, hl, h =>
    have h : (Nat.beq b.toNat o && Nat.beq (d.toNat * 256 + f.toNat) x && Nat.beq n 3) = true := h
    rw [Bool.and_eq_true, Bool.and_eq_true] at h
    have e := Nat.eq_of_beq_eq_true h.1.1
    have e2 := Nat.eq_of_beq_eq_true h.1.2
    have q2 := (mq_by hl).2
    have q3 := (mq_by q2).2
    exact ⟨d.toNat, f.toNat, e ▸ (mq_by hl).1, (mq_by q2).1, (mq_by q3).1, e2, Nat.eq_of_beq_eq_true h.2⟩
  | [_, _], _, h => cases h
  | [_], _, h => cases h
  | [], _, h => cases h
theorem mq_s1_ok {c : ByteArray} {k : Nat} {l : List UInt8} {o : Nat} {x : Int} {n : Nat} (hl : c.data.toList.drop k = l) (h : mq_s1 l o x n = true) : ∃ a : Nat, mq_U c k o ∧ mq_U c (k + 1) a ∧ Jvm.ClassFile.Reader.signed 8 a = x ∧ n = 2 := by
  match l, hl, h with
  | b :: d :: t, hl, h =>
    have h : (Nat.beq b.toNat o && decide (Jvm.ClassFile.Reader.signed 8 d.toNat = x) && Nat.beq n 2) = true := h
    rw [Bool.and_eq_true, Bool.and_eq_true] at h
    have e := Nat.eq_of_beq_eq_true h.1.1
    exact ⟨d.toNat, e ▸ (mq_by hl).1, (mq_by (mq_by hl).2).1, of_decide_eq_true h.1.2, Nat.eq_of_beq_eq_true h.2⟩
  | [_], _, h => cases h
  | [], _, h => cases h
theorem mq_s2_ok {c : ByteArray} {k : Nat} {l : List UInt8} {o : Nat} {x : Int} {n : Nat} (hl : c.data.toList.drop k = l) (h : mq_s2 l o x n = true) : ∃ a b : Nat, mq_U c k o ∧ mq_U c (k + 1) a ∧ mq_U c (k + 2) b ∧ Jvm.ClassFile.Reader.signed 16 (a * 256 + b) = x ∧ n = 3 := by
  match l, hl, h with
  | b :: d :: f :: t, hl, h =>
    have h : (Nat.beq b.toNat o && decide (Jvm.ClassFile.Reader.signed 16 (d.toNat * 256 + f.toNat) = x) && Nat.beq n 3) = true := h
    rw [Bool.and_eq_true, Bool.and_eq_true] at h
    have e := Nat.eq_of_beq_eq_true h.1.1
    have q2 := (mq_by hl).2
    have q3 := (mq_by q2).2
    exact ⟨d.toNat, f.toNat, e ▸ (mq_by hl).1, (mq_by q2).1, (mq_by q3).1, of_decide_eq_true h.1.2, Nat.eq_of_beq_eq_true h.2⟩
  | [_, _], _, h => cases h
  | [_], _, h => cases h
  | [], _, h => cases h
theorem mq_si_ok {c : ByteArray} {k : Nat} {l : List UInt8} {o x : Nat} {y : Int} {n : Nat} (hl : c.data.toList.drop k = l) (h : mq_si l o x y n = true) : ∃ b : Nat, mq_U c k o ∧ mq_U c (k + 1) x ∧ mq_U c (k + 2) b ∧ Jvm.ClassFile.Reader.signed 8 b = y ∧ n = 3 := by
  match l, hl, h with
  | b :: d :: f :: t, hl, h =>
    have h : (Nat.beq b.toNat o && Nat.beq d.toNat x && decide (Jvm.ClassFile.Reader.signed 8 f.toNat = y) && Nat.beq n 3) = true := h
    rw [Bool.and_eq_true, Bool.and_eq_true, Bool.and_eq_true] at h
    have e := Nat.eq_of_beq_eq_true h.1.1.1
    have e2 := Nat.eq_of_beq_eq_true h.1.1.2
    have q2 := (mq_by hl).2
    have q3 := (mq_by q2).2
    exact ⟨f.toNat, e ▸ (mq_by hl).1, e2 ▸ (mq_by q2).1, (mq_by q3).1, of_decide_eq_true h.1.2, Nat.eq_of_beq_eq_true h.2⟩
  | [_, _], _, h => cases h
  | [_], _, h => cases h
  | [], _, h => cases h
theorem mqd_46 {c : ByteArray} {k : Nat} (h0 : mq_U c k 46) : decode c k = .ok (.iaload, 1) := mq_bd _ rfl ((pure (.iaload) : Jvm.ClassFile.Decoder Instr)) rfl h0 rfl (by omega)
theorem mqd_47 {c : ByteArray} {k : Nat} (h0 : mq_U c k 47) : decode c k = .ok (.laload, 1) := mq_bd _ rfl ((pure (.laload) : Jvm.ClassFile.Decoder Instr)) rfl h0 rfl (by omega)
theorem mqd_50 {c : ByteArray} {k : Nat} (h0 : mq_U c k 50) : decode c k = .ok (.aaload, 1) := mq_bd _ rfl ((pure (.aaload) : Jvm.ClassFile.Decoder Instr)) rfl h0 rfl (by omega)
theorem mqd_79 {c : ByteArray} {k : Nat} (h0 : mq_U c k 79) : decode c k = .ok (.iastore, 1) := mq_bd _ rfl ((pure (.iastore) : Jvm.ClassFile.Decoder Instr)) rfl h0 rfl (by omega)
theorem mqd_80 {c : ByteArray} {k : Nat} (h0 : mq_U c k 80) : decode c k = .ok (.lastore, 1) := mq_bd _ rfl ((pure (.lastore) : Jvm.ClassFile.Decoder Instr)) rfl h0 rfl (by omega)
theorem mqd_83 {c : ByteArray} {k : Nat} (h0 : mq_U c k 83) : decode c k = .ok (.aastore, 1) := mq_bd _ rfl ((pure (.aastore) : Jvm.ClassFile.Decoder Instr)) rfl h0 rfl (by omega)
theorem mqd_87 {c : ByteArray} {k : Nat} (h0 : mq_U c k 87) : decode c k = .ok (.pop, 1) := mq_bd _ rfl ((pure (.pop) : Jvm.ClassFile.Decoder Instr)) rfl h0 rfl (by omega)
theorem mqd_88 {c : ByteArray} {k : Nat} (h0 : mq_U c k 88) : decode c k = .ok (.pop2, 1) := mq_bd _ rfl ((pure (.pop2) : Jvm.ClassFile.Decoder Instr)) rfl h0 rfl (by omega)
theorem mqd_89 {c : ByteArray} {k : Nat} (h0 : mq_U c k 89) : decode c k = .ok (.dup, 1) := mq_bd _ rfl ((pure (.dup) : Jvm.ClassFile.Decoder Instr)) rfl h0 rfl (by omega)
theorem mqd_90 {c : ByteArray} {k : Nat} (h0 : mq_U c k 90) : decode c k = .ok (.dup_x1, 1) := mq_bd _ rfl ((pure (.dup_x1) : Jvm.ClassFile.Decoder Instr)) rfl h0 rfl (by omega)
theorem mqd_92 {c : ByteArray} {k : Nat} (h0 : mq_U c k 92) : decode c k = .ok (.dup2, 1) := mq_bd _ rfl ((pure (.dup2) : Jvm.ClassFile.Decoder Instr)) rfl h0 rfl (by omega)
theorem mqd_96 {c : ByteArray} {k : Nat} (h0 : mq_U c k 96) : decode c k = .ok (.iadd, 1) := mq_bd _ rfl ((pure (.iadd) : Jvm.ClassFile.Decoder Instr)) rfl h0 rfl (by omega)
theorem mqd_97 {c : ByteArray} {k : Nat} (h0 : mq_U c k 97) : decode c k = .ok (.ladd, 1) := mq_bd _ rfl ((pure (.ladd) : Jvm.ClassFile.Decoder Instr)) rfl h0 rfl (by omega)
theorem mqd_100 {c : ByteArray} {k : Nat} (h0 : mq_U c k 100) : decode c k = .ok (.isub, 1) := mq_bd _ rfl ((pure (.isub) : Jvm.ClassFile.Decoder Instr)) rfl h0 rfl (by omega)
theorem mqd_101 {c : ByteArray} {k : Nat} (h0 : mq_U c k 101) : decode c k = .ok (.lsub, 1) := mq_bd _ rfl ((pure (.lsub) : Jvm.ClassFile.Decoder Instr)) rfl h0 rfl (by omega)
theorem mqd_104 {c : ByteArray} {k : Nat} (h0 : mq_U c k 104) : decode c k = .ok (.imul, 1) := mq_bd _ rfl ((pure (.imul) : Jvm.ClassFile.Decoder Instr)) rfl h0 rfl (by omega)
theorem mqd_105 {c : ByteArray} {k : Nat} (h0 : mq_U c k 105) : decode c k = .ok (.lmul, 1) := mq_bd _ rfl ((pure (.lmul) : Jvm.ClassFile.Decoder Instr)) rfl h0 rfl (by omega)
theorem mqd_108 {c : ByteArray} {k : Nat} (h0 : mq_U c k 108) : decode c k = .ok (.idiv, 1) := mq_bd _ rfl ((pure (.idiv) : Jvm.ClassFile.Decoder Instr)) rfl h0 rfl (by omega)
theorem mqd_109 {c : ByteArray} {k : Nat} (h0 : mq_U c k 109) : decode c k = .ok (.ldiv, 1) := mq_bd _ rfl ((pure (.ldiv) : Jvm.ClassFile.Decoder Instr)) rfl h0 rfl (by omega)
theorem mqd_112 {c : ByteArray} {k : Nat} (h0 : mq_U c k 112) : decode c k = .ok (.irem, 1) := mq_bd _ rfl ((pure (.irem) : Jvm.ClassFile.Decoder Instr)) rfl h0 rfl (by omega)
theorem mqd_113 {c : ByteArray} {k : Nat} (h0 : mq_U c k 113) : decode c k = .ok (.lrem, 1) := mq_bd _ rfl ((pure (.lrem) : Jvm.ClassFile.Decoder Instr)) rfl h0 rfl (by omega)
theorem mqd_120 {c : ByteArray} {k : Nat} (h0 : mq_U c k 120) : decode c k = .ok (.ishl, 1) := mq_bd _ rfl ((pure (.ishl) : Jvm.ClassFile.Decoder Instr)) rfl h0 rfl (by omega)
theorem mqd_121 {c : ByteArray} {k : Nat} (h0 : mq_U c k 121) : decode c k = .ok (.lshl, 1) := mq_bd _ rfl ((pure (.lshl) : Jvm.ClassFile.Decoder Instr)) rfl h0 rfl (by omega)
theorem mqd_122 {c : ByteArray} {k : Nat} (h0 : mq_U c k 122) : decode c k = .ok (.ishr, 1) := mq_bd _ rfl ((pure (.ishr) : Jvm.ClassFile.Decoder Instr)) rfl h0 rfl (by omega)
theorem mqd_123 {c : ByteArray} {k : Nat} (h0 : mq_U c k 123) : decode c k = .ok (.lshr, 1) := mq_bd _ rfl ((pure (.lshr) : Jvm.ClassFile.Decoder Instr)) rfl h0 rfl (by omega)
theorem mqd_124 {c : ByteArray} {k : Nat} (h0 : mq_U c k 124) : decode c k = .ok (.iushr, 1) := mq_bd _ rfl ((pure (.iushr) : Jvm.ClassFile.Decoder Instr)) rfl h0 rfl (by omega)
theorem mqd_125 {c : ByteArray} {k : Nat} (h0 : mq_U c k 125) : decode c k = .ok (.lushr, 1) := mq_bd _ rfl ((pure (.lushr) : Jvm.ClassFile.Decoder Instr)) rfl h0 rfl (by omega)
theorem mqd_126 {c : ByteArray} {k : Nat} (h0 : mq_U c k 126) : decode c k = .ok (.iand, 1) := mq_bd _ rfl ((pure (.iand) : Jvm.ClassFile.Decoder Instr)) rfl h0 rfl (by omega)
theorem mqd_127 {c : ByteArray} {k : Nat} (h0 : mq_U c k 127) : decode c k = .ok (.land, 1) := mq_bd _ rfl ((pure (.land) : Jvm.ClassFile.Decoder Instr)) rfl h0 rfl (by omega)
theorem mqd_128 {c : ByteArray} {k : Nat} (h0 : mq_U c k 128) : decode c k = .ok (.ior, 1) := mq_bd _ rfl ((pure (.ior) : Jvm.ClassFile.Decoder Instr)) rfl h0 rfl (by omega)
theorem mqd_129 {c : ByteArray} {k : Nat} (h0 : mq_U c k 129) : decode c k = .ok (.lor, 1) := mq_bd _ rfl ((pure (.lor) : Jvm.ClassFile.Decoder Instr)) rfl h0 rfl (by omega)
theorem mqd_130 {c : ByteArray} {k : Nat} (h0 : mq_U c k 130) : decode c k = .ok (.ixor, 1) := mq_bd _ rfl ((pure (.ixor) : Jvm.ClassFile.Decoder Instr)) rfl h0 rfl (by omega)
theorem mqd_133 {c : ByteArray} {k : Nat} (h0 : mq_U c k 133) : decode c k = .ok (.i2l, 1) := mq_bd _ rfl ((pure (.i2l) : Jvm.ClassFile.Decoder Instr)) rfl h0 rfl (by omega)
theorem mqd_136 {c : ByteArray} {k : Nat} (h0 : mq_U c k 136) : decode c k = .ok (.l2i, 1) := mq_bd _ rfl ((pure (.l2i) : Jvm.ClassFile.Decoder Instr)) rfl h0 rfl (by omega)
theorem mqd_145 {c : ByteArray} {k : Nat} (h0 : mq_U c k 145) : decode c k = .ok (.i2b, 1) := mq_bd _ rfl ((pure (.i2b) : Jvm.ClassFile.Decoder Instr)) rfl h0 rfl (by omega)
theorem mqd_147 {c : ByteArray} {k : Nat} (h0 : mq_U c k 147) : decode c k = .ok (.i2s, 1) := mq_bd _ rfl ((pure (.i2s) : Jvm.ClassFile.Decoder Instr)) rfl h0 rfl (by omega)
theorem mqd_148 {c : ByteArray} {k : Nat} (h0 : mq_U c k 148) : decode c k = .ok (.lcmp, 1) := mq_bd _ rfl ((pure (.lcmp) : Jvm.ClassFile.Decoder Instr)) rfl h0 rfl (by omega)
theorem mqd_172 {c : ByteArray} {k : Nat} (h0 : mq_U c k 172) : decode c k = .ok (.ireturn, 1) := mq_bd _ rfl ((pure (.ireturn) : Jvm.ClassFile.Decoder Instr)) rfl h0 rfl (by omega)
theorem mqd_173 {c : ByteArray} {k : Nat} (h0 : mq_U c k 173) : decode c k = .ok (.lreturn, 1) := mq_bd _ rfl ((pure (.lreturn) : Jvm.ClassFile.Decoder Instr)) rfl h0 rfl (by omega)
theorem mqd_176 {c : ByteArray} {k : Nat} (h0 : mq_U c k 176) : decode c k = .ok (.areturn, 1) := mq_bd _ rfl ((pure (.areturn) : Jvm.ClassFile.Decoder Instr)) rfl h0 rfl (by omega)
theorem mqd_177 {c : ByteArray} {k : Nat} (h0 : mq_U c k 177) : decode c k = .ok (.return_, 1) := mq_bd _ rfl ((pure (.return_) : Jvm.ClassFile.Decoder Instr)) rfl h0 rfl (by omega)
theorem mqd_190 {c : ByteArray} {k : Nat} (h0 : mq_U c k 190) : decode c k = .ok (.arraylength, 1) := mq_bd _ rfl ((pure (.arraylength) : Jvm.ClassFile.Decoder Instr)) rfl h0 rfl (by omega)
theorem mqd_26 {c : ByteArray} {k : Nat} (h0 : mq_U c k 26) : decode c k = .ok (.iload_n 0, 1) := mq_bd _ rfl ((pure (.iload_n 0) : Jvm.ClassFile.Decoder Instr)) rfl h0 rfl (by omega)
theorem mqd_27 {c : ByteArray} {k : Nat} (h0 : mq_U c k 27) : decode c k = .ok (.iload_n 1, 1) := mq_bd _ rfl ((pure (.iload_n 1) : Jvm.ClassFile.Decoder Instr)) rfl h0 rfl (by omega)
theorem mqd_28 {c : ByteArray} {k : Nat} (h0 : mq_U c k 28) : decode c k = .ok (.iload_n 2, 1) := mq_bd _ rfl ((pure (.iload_n 2) : Jvm.ClassFile.Decoder Instr)) rfl h0 rfl (by omega)
theorem mqd_29 {c : ByteArray} {k : Nat} (h0 : mq_U c k 29) : decode c k = .ok (.iload_n 3, 1) := mq_bd _ rfl ((pure (.iload_n 3) : Jvm.ClassFile.Decoder Instr)) rfl h0 rfl (by omega)
theorem mqd_30 {c : ByteArray} {k : Nat} (h0 : mq_U c k 30) : decode c k = .ok (.lload_n 0, 1) := mq_bd _ rfl ((pure (.lload_n 0) : Jvm.ClassFile.Decoder Instr)) rfl h0 rfl (by omega)
theorem mqd_31 {c : ByteArray} {k : Nat} (h0 : mq_U c k 31) : decode c k = .ok (.lload_n 1, 1) := mq_bd _ rfl ((pure (.lload_n 1) : Jvm.ClassFile.Decoder Instr)) rfl h0 rfl (by omega)
theorem mqd_32 {c : ByteArray} {k : Nat} (h0 : mq_U c k 32) : decode c k = .ok (.lload_n 2, 1) := mq_bd _ rfl ((pure (.lload_n 2) : Jvm.ClassFile.Decoder Instr)) rfl h0 rfl (by omega)
theorem mqd_33 {c : ByteArray} {k : Nat} (h0 : mq_U c k 33) : decode c k = .ok (.lload_n 3, 1) := mq_bd _ rfl ((pure (.lload_n 3) : Jvm.ClassFile.Decoder Instr)) rfl h0 rfl (by omega)
theorem mqd_42 {c : ByteArray} {k : Nat} (h0 : mq_U c k 42) : decode c k = .ok (.aload_n 0, 1) := mq_bd _ rfl ((pure (.aload_n 0) : Jvm.ClassFile.Decoder Instr)) rfl h0 rfl (by omega)
theorem mqd_43 {c : ByteArray} {k : Nat} (h0 : mq_U c k 43) : decode c k = .ok (.aload_n 1, 1) := mq_bd _ rfl ((pure (.aload_n 1) : Jvm.ClassFile.Decoder Instr)) rfl h0 rfl (by omega)
theorem mqd_44 {c : ByteArray} {k : Nat} (h0 : mq_U c k 44) : decode c k = .ok (.aload_n 2, 1) := mq_bd _ rfl ((pure (.aload_n 2) : Jvm.ClassFile.Decoder Instr)) rfl h0 rfl (by omega)
theorem mqd_45 {c : ByteArray} {k : Nat} (h0 : mq_U c k 45) : decode c k = .ok (.aload_n 3, 1) := mq_bd _ rfl ((pure (.aload_n 3) : Jvm.ClassFile.Decoder Instr)) rfl h0 rfl (by omega)
theorem mqd_59 {c : ByteArray} {k : Nat} (h0 : mq_U c k 59) : decode c k = .ok (.istore_n 0, 1) := mq_bd _ rfl ((pure (.istore_n 0) : Jvm.ClassFile.Decoder Instr)) rfl h0 rfl (by omega)
theorem mqd_60 {c : ByteArray} {k : Nat} (h0 : mq_U c k 60) : decode c k = .ok (.istore_n 1, 1) := mq_bd _ rfl ((pure (.istore_n 1) : Jvm.ClassFile.Decoder Instr)) rfl h0 rfl (by omega)
theorem mqd_61 {c : ByteArray} {k : Nat} (h0 : mq_U c k 61) : decode c k = .ok (.istore_n 2, 1) := mq_bd _ rfl ((pure (.istore_n 2) : Jvm.ClassFile.Decoder Instr)) rfl h0 rfl (by omega)
theorem mqd_62 {c : ByteArray} {k : Nat} (h0 : mq_U c k 62) : decode c k = .ok (.istore_n 3, 1) := mq_bd _ rfl ((pure (.istore_n 3) : Jvm.ClassFile.Decoder Instr)) rfl h0 rfl (by omega)
theorem mqd_63 {c : ByteArray} {k : Nat} (h0 : mq_U c k 63) : decode c k = .ok (.lstore_n 0, 1) := mq_bd _ rfl ((pure (.lstore_n 0) : Jvm.ClassFile.Decoder Instr)) rfl h0 rfl (by omega)
theorem mqd_64 {c : ByteArray} {k : Nat} (h0 : mq_U c k 64) : decode c k = .ok (.lstore_n 1, 1) := mq_bd _ rfl ((pure (.lstore_n 1) : Jvm.ClassFile.Decoder Instr)) rfl h0 rfl (by omega)
theorem mqd_65 {c : ByteArray} {k : Nat} (h0 : mq_U c k 65) : decode c k = .ok (.lstore_n 2, 1) := mq_bd _ rfl ((pure (.lstore_n 2) : Jvm.ClassFile.Decoder Instr)) rfl h0 rfl (by omega)
theorem mqd_66 {c : ByteArray} {k : Nat} (h0 : mq_U c k 66) : decode c k = .ok (.lstore_n 3, 1) := mq_bd _ rfl ((pure (.lstore_n 3) : Jvm.ClassFile.Decoder Instr)) rfl h0 rfl (by omega)
theorem mqd_75 {c : ByteArray} {k : Nat} (h0 : mq_U c k 75) : decode c k = .ok (.astore_n 0, 1) := mq_bd _ rfl ((pure (.astore_n 0) : Jvm.ClassFile.Decoder Instr)) rfl h0 rfl (by omega)
theorem mqd_76 {c : ByteArray} {k : Nat} (h0 : mq_U c k 76) : decode c k = .ok (.astore_n 1, 1) := mq_bd _ rfl ((pure (.astore_n 1) : Jvm.ClassFile.Decoder Instr)) rfl h0 rfl (by omega)
theorem mqd_77 {c : ByteArray} {k : Nat} (h0 : mq_U c k 77) : decode c k = .ok (.astore_n 2, 1) := mq_bd _ rfl ((pure (.astore_n 2) : Jvm.ClassFile.Decoder Instr)) rfl h0 rfl (by omega)
theorem mqd_78 {c : ByteArray} {k : Nat} (h0 : mq_U c k 78) : decode c k = .ok (.astore_n 3, 1) := mq_bd _ rfl ((pure (.astore_n 3) : Jvm.ClassFile.Decoder Instr)) rfl h0 rfl (by omega)
theorem mqd_2 {c : ByteArray} {k : Nat} (h0 : mq_U c k 2) : decode c k = .ok (.iconst (-1), 1) := mq_bd _ rfl ((pure (.iconst (-1)) : Jvm.ClassFile.Decoder Instr)) rfl h0 rfl (by omega)
theorem mqd_3 {c : ByteArray} {k : Nat} (h0 : mq_U c k 3) : decode c k = .ok (.iconst (0), 1) := mq_bd _ rfl ((pure (.iconst (0)) : Jvm.ClassFile.Decoder Instr)) rfl h0 rfl (by omega)
theorem mqd_4 {c : ByteArray} {k : Nat} (h0 : mq_U c k 4) : decode c k = .ok (.iconst (1), 1) := mq_bd _ rfl ((pure (.iconst (1)) : Jvm.ClassFile.Decoder Instr)) rfl h0 rfl (by omega)
theorem mqd_5 {c : ByteArray} {k : Nat} (h0 : mq_U c k 5) : decode c k = .ok (.iconst (2), 1) := mq_bd _ rfl ((pure (.iconst (2)) : Jvm.ClassFile.Decoder Instr)) rfl h0 rfl (by omega)
theorem mqd_6 {c : ByteArray} {k : Nat} (h0 : mq_U c k 6) : decode c k = .ok (.iconst (3), 1) := mq_bd _ rfl ((pure (.iconst (3)) : Jvm.ClassFile.Decoder Instr)) rfl h0 rfl (by omega)
theorem mqd_7 {c : ByteArray} {k : Nat} (h0 : mq_U c k 7) : decode c k = .ok (.iconst (4), 1) := mq_bd _ rfl ((pure (.iconst (4)) : Jvm.ClassFile.Decoder Instr)) rfl h0 rfl (by omega)
theorem mqd_8 {c : ByteArray} {k : Nat} (h0 : mq_U c k 8) : decode c k = .ok (.iconst (5), 1) := mq_bd _ rfl ((pure (.iconst (5)) : Jvm.ClassFile.Decoder Instr)) rfl h0 rfl (by omega)
theorem mqd_9 {c : ByteArray} {k : Nat} (h0 : mq_U c k 9) : decode c k = .ok (.lconst 0, 1) := mq_bd _ rfl ((pure (.lconst 0) : Jvm.ClassFile.Decoder Instr)) rfl h0 rfl (by omega)
theorem mqd_10 {c : ByteArray} {k : Nat} (h0 : mq_U c k 10) : decode c k = .ok (.lconst 1, 1) := mq_bd _ rfl ((pure (.lconst 1) : Jvm.ClassFile.Decoder Instr)) rfl h0 rfl (by omega)
theorem mqd_18 {c : ByteArray} {k : Nat} {x : Nat} (h0 : mq_U c k 18) (h1 : mq_U c (k + 1) x) : decode c k = .ok (.ldc x, 2) := mq_bd _ rfl ((Jvm.ClassFile.Reader.u1 : Jvm.ClassFile.Decoder Nat) >>= fun y => pure (.ldc y)) rfl h0 (mq_x1 (f := fun y => .ldc y) h1) (by omega)
theorem mqd_21 {c : ByteArray} {k : Nat} {x : Nat} (h0 : mq_U c k 21) (h1 : mq_U c (k + 1) x) : decode c k = .ok (.iload x, 2) := mq_bd _ rfl ((Jvm.ClassFile.Reader.u1 : Jvm.ClassFile.Decoder Nat) >>= fun y => pure (.iload y)) rfl h0 (mq_x1 (f := fun y => .iload y) h1) (by omega)
theorem mqd_22 {c : ByteArray} {k : Nat} {x : Nat} (h0 : mq_U c k 22) (h1 : mq_U c (k + 1) x) : decode c k = .ok (.lload x, 2) := mq_bd _ rfl ((Jvm.ClassFile.Reader.u1 : Jvm.ClassFile.Decoder Nat) >>= fun y => pure (.lload y)) rfl h0 (mq_x1 (f := fun y => .lload y) h1) (by omega)
theorem mqd_25 {c : ByteArray} {k : Nat} {x : Nat} (h0 : mq_U c k 25) (h1 : mq_U c (k + 1) x) : decode c k = .ok (.aload x, 2) := mq_bd _ rfl ((Jvm.ClassFile.Reader.u1 : Jvm.ClassFile.Decoder Nat) >>= fun y => pure (.aload y)) rfl h0 (mq_x1 (f := fun y => .aload y) h1) (by omega)
theorem mqd_54 {c : ByteArray} {k : Nat} {x : Nat} (h0 : mq_U c k 54) (h1 : mq_U c (k + 1) x) : decode c k = .ok (.istore x, 2) := mq_bd _ rfl ((Jvm.ClassFile.Reader.u1 : Jvm.ClassFile.Decoder Nat) >>= fun y => pure (.istore y)) rfl h0 (mq_x1 (f := fun y => .istore y) h1) (by omega)
theorem mqd_55 {c : ByteArray} {k : Nat} {x : Nat} (h0 : mq_U c k 55) (h1 : mq_U c (k + 1) x) : decode c k = .ok (.lstore x, 2) := mq_bd _ rfl ((Jvm.ClassFile.Reader.u1 : Jvm.ClassFile.Decoder Nat) >>= fun y => pure (.lstore y)) rfl h0 (mq_x1 (f := fun y => .lstore y) h1) (by omega)
theorem mqd_58 {c : ByteArray} {k : Nat} {x : Nat} (h0 : mq_U c k 58) (h1 : mq_U c (k + 1) x) : decode c k = .ok (.astore x, 2) := mq_bd _ rfl ((Jvm.ClassFile.Reader.u1 : Jvm.ClassFile.Decoder Nat) >>= fun y => pure (.astore y)) rfl h0 (mq_x1 (f := fun y => .astore y) h1) (by omega)
theorem mqd_19 {c : ByteArray} {k : Nat} {a b : Nat} (h0 : mq_U c k 19) (h1 : mq_U c (k + 1) a) (h2 : mq_U c (k + 2) b) : decode c k = .ok (.ldc_w (a * 256 + b), 3) := mq_bd _ rfl ((Jvm.ClassFile.Reader.u2 : Jvm.ClassFile.Decoder Nat) >>= fun y => pure (.ldc_w y)) rfl h0 (mq_x2 (f := fun y => .ldc_w y) h1 h2) (by omega)
theorem mqd_20 {c : ByteArray} {k : Nat} {a b : Nat} (h0 : mq_U c k 20) (h1 : mq_U c (k + 1) a) (h2 : mq_U c (k + 2) b) : decode c k = .ok (.ldc2_w (a * 256 + b), 3) := mq_bd _ rfl ((Jvm.ClassFile.Reader.u2 : Jvm.ClassFile.Decoder Nat) >>= fun y => pure (.ldc2_w y)) rfl h0 (mq_x2 (f := fun y => .ldc2_w y) h1 h2) (by omega)
theorem mqd_178 {c : ByteArray} {k : Nat} {a b : Nat} (h0 : mq_U c k 178) (h1 : mq_U c (k + 1) a) (h2 : mq_U c (k + 2) b) : decode c k = .ok (.getstatic (a * 256 + b), 3) := mq_bd _ rfl ((Jvm.ClassFile.Reader.u2 : Jvm.ClassFile.Decoder Nat) >>= fun y => pure (.getstatic y)) rfl h0 (mq_x2 (f := fun y => .getstatic y) h1 h2) (by omega)
theorem mqd_180 {c : ByteArray} {k : Nat} {a b : Nat} (h0 : mq_U c k 180) (h1 : mq_U c (k + 1) a) (h2 : mq_U c (k + 2) b) : decode c k = .ok (.getfield (a * 256 + b), 3) := mq_bd _ rfl ((Jvm.ClassFile.Reader.u2 : Jvm.ClassFile.Decoder Nat) >>= fun y => pure (.getfield y)) rfl h0 (mq_x2 (f := fun y => .getfield y) h1 h2) (by omega)
theorem mqd_181 {c : ByteArray} {k : Nat} {a b : Nat} (h0 : mq_U c k 181) (h1 : mq_U c (k + 1) a) (h2 : mq_U c (k + 2) b) : decode c k = .ok (.putfield (a * 256 + b), 3) := mq_bd _ rfl ((Jvm.ClassFile.Reader.u2 : Jvm.ClassFile.Decoder Nat) >>= fun y => pure (.putfield y)) rfl h0 (mq_x2 (f := fun y => .putfield y) h1 h2) (by omega)
theorem mqd_182 {c : ByteArray} {k : Nat} {a b : Nat} (h0 : mq_U c k 182) (h1 : mq_U c (k + 1) a) (h2 : mq_U c (k + 2) b) : decode c k = .ok (.invokevirtual (a * 256 + b), 3) := mq_bd _ rfl ((Jvm.ClassFile.Reader.u2 : Jvm.ClassFile.Decoder Nat) >>= fun y => pure (.invokevirtual y)) rfl h0 (mq_x2 (f := fun y => .invokevirtual y) h1 h2) (by omega)
theorem mqd_183 {c : ByteArray} {k : Nat} {a b : Nat} (h0 : mq_U c k 183) (h1 : mq_U c (k + 1) a) (h2 : mq_U c (k + 2) b) : decode c k = .ok (.invokespecial (a * 256 + b), 3) := mq_bd _ rfl ((Jvm.ClassFile.Reader.u2 : Jvm.ClassFile.Decoder Nat) >>= fun y => pure (.invokespecial y)) rfl h0 (mq_x2 (f := fun y => .invokespecial y) h1 h2) (by omega)
theorem mqd_184 {c : ByteArray} {k : Nat} {a b : Nat} (h0 : mq_U c k 184) (h1 : mq_U c (k + 1) a) (h2 : mq_U c (k + 2) b) : decode c k = .ok (.invokestatic (a * 256 + b), 3) := mq_bd _ rfl ((Jvm.ClassFile.Reader.u2 : Jvm.ClassFile.Decoder Nat) >>= fun y => pure (.invokestatic y)) rfl h0 (mq_x2 (f := fun y => .invokestatic y) h1 h2) (by omega)
theorem mqd_187 {c : ByteArray} {k : Nat} {a b : Nat} (h0 : mq_U c k 187) (h1 : mq_U c (k + 1) a) (h2 : mq_U c (k + 2) b) : decode c k = .ok (.new (a * 256 + b), 3) := mq_bd _ rfl ((Jvm.ClassFile.Reader.u2 : Jvm.ClassFile.Decoder Nat) >>= fun y => pure (.new y)) rfl h0 (mq_x2 (f := fun y => .new y) h1 h2) (by omega)
theorem mqd_189 {c : ByteArray} {k : Nat} {a b : Nat} (h0 : mq_U c k 189) (h1 : mq_U c (k + 1) a) (h2 : mq_U c (k + 2) b) : decode c k = .ok (.anewarray (a * 256 + b), 3) := mq_bd _ rfl ((Jvm.ClassFile.Reader.u2 : Jvm.ClassFile.Decoder Nat) >>= fun y => pure (.anewarray y)) rfl h0 (mq_x2 (f := fun y => .anewarray y) h1 h2) (by omega)
theorem mqd_16 {c : ByteArray} {k : Nat} {a : Nat} (h0 : mq_U c k 16) (h1 : mq_U c (k + 1) a) : decode c k = .ok (.bipush (Jvm.ClassFile.Reader.signed 8 a), 2) := mq_bd _ rfl ((Jvm.ClassFile.Reader.s1 : Jvm.ClassFile.Decoder Int) >>= fun y => pure (.bipush y)) rfl h0 (mq_y1 (f := fun y => .bipush y) h1) (by omega)
theorem mqd_17 {c : ByteArray} {k : Nat} {a b : Nat} (h0 : mq_U c k 17) (h1 : mq_U c (k + 1) a) (h2 : mq_U c (k + 2) b) : decode c k = .ok (.sipush (Jvm.ClassFile.Reader.signed 16 (a * 256 + b)), 3) := mq_bd _ rfl ((Jvm.ClassFile.Reader.s2 : Jvm.ClassFile.Decoder Int) >>= fun y => pure (.sipush y)) rfl h0 (mq_y2 (f := fun y => .sipush y) h1 h2) (by omega)
theorem mqd_167 {c : ByteArray} {k : Nat} {a b : Nat} (h0 : mq_U c k 167) (h1 : mq_U c (k + 1) a) (h2 : mq_U c (k + 2) b) : decode c k = .ok (.goto (Jvm.ClassFile.Reader.signed 16 (a * 256 + b)), 3) := mq_bd _ rfl ((Jvm.ClassFile.Reader.s2 : Jvm.ClassFile.Decoder Int) >>= fun y => pure (.goto y)) rfl h0 (mq_y2 (f := fun y => .goto y) h1 h2) (by omega)
theorem mqd_153 {c : ByteArray} {k : Nat} {a b : Nat} (h0 : mq_U c k 153) (h1 : mq_U c (k + 1) a) (h2 : mq_U c (k + 2) b) : decode c k = .ok (.ifCond .eq (Jvm.ClassFile.Reader.signed 16 (a * 256 + b)), 3) := mq_bd _ rfl ((Jvm.ClassFile.Reader.s2 : Jvm.ClassFile.Decoder Int) >>= fun y => pure (.ifCond .eq y)) rfl h0 (mq_y2 (f := fun y => .ifCond .eq y) h1 h2) (by omega)
theorem mqd_154 {c : ByteArray} {k : Nat} {a b : Nat} (h0 : mq_U c k 154) (h1 : mq_U c (k + 1) a) (h2 : mq_U c (k + 2) b) : decode c k = .ok (.ifCond .ne (Jvm.ClassFile.Reader.signed 16 (a * 256 + b)), 3) := mq_bd _ rfl ((Jvm.ClassFile.Reader.s2 : Jvm.ClassFile.Decoder Int) >>= fun y => pure (.ifCond .ne y)) rfl h0 (mq_y2 (f := fun y => .ifCond .ne y) h1 h2) (by omega)
theorem mqd_155 {c : ByteArray} {k : Nat} {a b : Nat} (h0 : mq_U c k 155) (h1 : mq_U c (k + 1) a) (h2 : mq_U c (k + 2) b) : decode c k = .ok (.ifCond .lt (Jvm.ClassFile.Reader.signed 16 (a * 256 + b)), 3) := mq_bd _ rfl ((Jvm.ClassFile.Reader.s2 : Jvm.ClassFile.Decoder Int) >>= fun y => pure (.ifCond .lt y)) rfl h0 (mq_y2 (f := fun y => .ifCond .lt y) h1 h2) (by omega)
theorem mqd_156 {c : ByteArray} {k : Nat} {a b : Nat} (h0 : mq_U c k 156) (h1 : mq_U c (k + 1) a) (h2 : mq_U c (k + 2) b) : decode c k = .ok (.ifCond .ge (Jvm.ClassFile.Reader.signed 16 (a * 256 + b)), 3) := mq_bd _ rfl ((Jvm.ClassFile.Reader.s2 : Jvm.ClassFile.Decoder Int) >>= fun y => pure (.ifCond .ge y)) rfl h0 (mq_y2 (f := fun y => .ifCond .ge y) h1 h2) (by omega)
theorem mqd_157 {c : ByteArray} {k : Nat} {a b : Nat} (h0 : mq_U c k 157) (h1 : mq_U c (k + 1) a) (h2 : mq_U c (k + 2) b) : decode c k = .ok (.ifCond .gt (Jvm.ClassFile.Reader.signed 16 (a * 256 + b)), 3) := mq_bd _ rfl ((Jvm.ClassFile.Reader.s2 : Jvm.ClassFile.Decoder Int) >>= fun y => pure (.ifCond .gt y)) rfl h0 (mq_y2 (f := fun y => .ifCond .gt y) h1 h2) (by omega)
theorem mqd_158 {c : ByteArray} {k : Nat} {a b : Nat} (h0 : mq_U c k 158) (h1 : mq_U c (k + 1) a) (h2 : mq_U c (k + 2) b) : decode c k = .ok (.ifCond .le (Jvm.ClassFile.Reader.signed 16 (a * 256 + b)), 3) := mq_bd _ rfl ((Jvm.ClassFile.Reader.s2 : Jvm.ClassFile.Decoder Int) >>= fun y => pure (.ifCond .le y)) rfl h0 (mq_y2 (f := fun y => .ifCond .le y) h1 h2) (by omega)
theorem mqd_159 {c : ByteArray} {k : Nat} {a b : Nat} (h0 : mq_U c k 159) (h1 : mq_U c (k + 1) a) (h2 : mq_U c (k + 2) b) : decode c k = .ok (.if_icmp .eq (Jvm.ClassFile.Reader.signed 16 (a * 256 + b)), 3) := mq_bd _ rfl ((Jvm.ClassFile.Reader.s2 : Jvm.ClassFile.Decoder Int) >>= fun y => pure (.if_icmp .eq y)) rfl h0 (mq_y2 (f := fun y => .if_icmp .eq y) h1 h2) (by omega)
theorem mqd_160 {c : ByteArray} {k : Nat} {a b : Nat} (h0 : mq_U c k 160) (h1 : mq_U c (k + 1) a) (h2 : mq_U c (k + 2) b) : decode c k = .ok (.if_icmp .ne (Jvm.ClassFile.Reader.signed 16 (a * 256 + b)), 3) := mq_bd _ rfl ((Jvm.ClassFile.Reader.s2 : Jvm.ClassFile.Decoder Int) >>= fun y => pure (.if_icmp .ne y)) rfl h0 (mq_y2 (f := fun y => .if_icmp .ne y) h1 h2) (by omega)
theorem mqd_161 {c : ByteArray} {k : Nat} {a b : Nat} (h0 : mq_U c k 161) (h1 : mq_U c (k + 1) a) (h2 : mq_U c (k + 2) b) : decode c k = .ok (.if_icmp .lt (Jvm.ClassFile.Reader.signed 16 (a * 256 + b)), 3) := mq_bd _ rfl ((Jvm.ClassFile.Reader.s2 : Jvm.ClassFile.Decoder Int) >>= fun y => pure (.if_icmp .lt y)) rfl h0 (mq_y2 (f := fun y => .if_icmp .lt y) h1 h2) (by omega)
theorem mqd_162 {c : ByteArray} {k : Nat} {a b : Nat} (h0 : mq_U c k 162) (h1 : mq_U c (k + 1) a) (h2 : mq_U c (k + 2) b) : decode c k = .ok (.if_icmp .ge (Jvm.ClassFile.Reader.signed 16 (a * 256 + b)), 3) := mq_bd _ rfl ((Jvm.ClassFile.Reader.s2 : Jvm.ClassFile.Decoder Int) >>= fun y => pure (.if_icmp .ge y)) rfl h0 (mq_y2 (f := fun y => .if_icmp .ge y) h1 h2) (by omega)
theorem mqd_163 {c : ByteArray} {k : Nat} {a b : Nat} (h0 : mq_U c k 163) (h1 : mq_U c (k + 1) a) (h2 : mq_U c (k + 2) b) : decode c k = .ok (.if_icmp .gt (Jvm.ClassFile.Reader.signed 16 (a * 256 + b)), 3) := mq_bd _ rfl ((Jvm.ClassFile.Reader.s2 : Jvm.ClassFile.Decoder Int) >>= fun y => pure (.if_icmp .gt y)) rfl h0 (mq_y2 (f := fun y => .if_icmp .gt y) h1 h2) (by omega)
theorem mqd_164 {c : ByteArray} {k : Nat} {a b : Nat} (h0 : mq_U c k 164) (h1 : mq_U c (k + 1) a) (h2 : mq_U c (k + 2) b) : decode c k = .ok (.if_icmp .le (Jvm.ClassFile.Reader.signed 16 (a * 256 + b)), 3) := mq_bd _ rfl ((Jvm.ClassFile.Reader.s2 : Jvm.ClassFile.Decoder Int) >>= fun y => pure (.if_icmp .le y)) rfl h0 (mq_y2 (f := fun y => .if_icmp .le y) h1 h2) (by omega)
theorem mqd_132 {c : ByteArray} {k : Nat} {a b : Nat} (h0 : mq_U c k 132) (h1 : mq_U c (k + 1) a) (h2 : mq_U c (k + 2) b) : decode c k = .ok (.iinc a (Jvm.ClassFile.Reader.signed 8 b), 3) := mq_bd _ rfl ((Jvm.ClassFile.Reader.u1 : Jvm.ClassFile.Decoder Nat) >>= fun x => (Jvm.ClassFile.Reader.s1 : Jvm.ClassFile.Decoder Int) >>= fun y => pure (.iinc x y)) rfl h0 (mq_yi (f := fun x y => .iinc x y) h1 h2) (by omega)
theorem mqd_188_10 {c : ByteArray} {k : Nat} (h0 : mq_U c k 188) (h1 : mq_U c (k + 1) 10) : decode c k = .ok (.newarray .int, 2) := mq_bd _ rfl (Jvm.ClassFile.Decoder.newarray k) rfl h0 (mq_na _ rfl rfl h1) (by omega)
theorem mqd_188_11 {c : ByteArray} {k : Nat} (h0 : mq_U c k 188) (h1 : mq_U c (k + 1) 11) : decode c k = .ok (.newarray .long, 2) := mq_bd _ rfl (Jvm.ClassFile.Decoder.newarray k) rfl h0 (mq_na _ rfl rfl h1) (by omega)
def mq_cn : Jvm.ClassFile.Cond → Nat
  | .eq => 0
  | .ne => 1
  | .lt => 2
  | .ge => 3
  | .gt => 4
  | .le => 5
def mq_op (c : ByteArray) (k : Nat) (l : List UInt8) (i : Instr) (n : Nat) : Bool := match i with
  | .iaload => mq_m1 l 46 n
  | .laload => mq_m1 l 47 n
  | .aaload => mq_m1 l 50 n
  | .iastore => mq_m1 l 79 n
  | .lastore => mq_m1 l 80 n
  | .aastore => mq_m1 l 83 n
  | .pop => mq_m1 l 87 n
  | .pop2 => mq_m1 l 88 n
  | .dup => mq_m1 l 89 n
  | .dup_x1 => mq_m1 l 90 n
  | .dup2 => mq_m1 l 92 n
  | .iadd => mq_m1 l 96 n
  | .ladd => mq_m1 l 97 n
  | .isub => mq_m1 l 100 n
  | .lsub => mq_m1 l 101 n
  | .imul => mq_m1 l 104 n
  | .lmul => mq_m1 l 105 n
  | .idiv => mq_m1 l 108 n
  | .ldiv => mq_m1 l 109 n
  | .irem => mq_m1 l 112 n
  | .lrem => mq_m1 l 113 n
  | .ishl => mq_m1 l 120 n
  | .lshl => mq_m1 l 121 n
  | .ishr => mq_m1 l 122 n
  | .lshr => mq_m1 l 123 n
  | .iushr => mq_m1 l 124 n
  | .lushr => mq_m1 l 125 n
  | .iand => mq_m1 l 126 n
  | .land => mq_m1 l 127 n
  | .ior => mq_m1 l 128 n
  | .lor => mq_m1 l 129 n
  | .ixor => mq_m1 l 130 n
  | .i2l => mq_m1 l 133 n
  | .l2i => mq_m1 l 136 n
  | .i2b => mq_m1 l 145 n
  | .i2s => mq_m1 l 147 n
  | .lcmp => mq_m1 l 148 n
  | .ireturn => mq_m1 l 172 n
  | .lreturn => mq_m1 l 173 n
  | .areturn => mq_m1 l 176 n
  | .return_ => mq_m1 l 177 n
  | .arraylength => mq_m1 l 190 n
  | .iload_n x => mq_m1 l (26 + x.val) n
  | .lload_n x => mq_m1 l (30 + x.val) n
  | .aload_n x => mq_m1 l (42 + x.val) n
  | .istore_n x => mq_m1 l (59 + x.val) n
  | .lstore_n x => mq_m1 l (63 + x.val) n
  | .astore_n x => mq_m1 l (75 + x.val) n
  | .iconst x => decide (-1 ≤ x) && decide (x ≤ 5) && mq_m1 l (x + 3).toNat n
  | .lconst x => mq_m1 l (9 + x.val) n
  | .ldc x => mq_m2 l 18 x n
  | .iload x => mq_m2 l 21 x n
  | .lload x => mq_m2 l 22 x n
  | .aload x => mq_m2 l 25 x n
  | .istore x => mq_m2 l 54 x n
  | .lstore x => mq_m2 l 55 x n
  | .astore x => mq_m2 l 58 x n
  | .ldc_w x => mq_m3 l 19 x n
  | .ldc2_w x => mq_m3 l 20 x n
  | .getstatic x => mq_m3 l 178 x n
  | .getfield x => mq_m3 l 180 x n
  | .putfield x => mq_m3 l 181 x n
  | .invokevirtual x => mq_m3 l 182 x n
  | .invokespecial x => mq_m3 l 183 x n
  | .invokestatic x => mq_m3 l 184 x n
  | .new x => mq_m3 l 187 x n
  | .anewarray x => mq_m3 l 189 x n
  | .bipush x => mq_s1 l 16 x n
  | .sipush x => mq_s2 l 17 x n
  | .goto x => mq_s2 l 167 x n
  | .ifCond d x => mq_s2 l (153 + mq_cn d) x n
  | .if_icmp d x => mq_s2 l (159 + mq_cn d) x n
  | .iinc x y => mq_si l 132 x y n
  | .newarray .int => mq_m2 l 188 10 n
  | .newarray .long => mq_m2 l 188 11 n
  | i => decide (decode c k = .ok (i, n))
theorem mq_op_ok {c : ByteArray} {k : Nat} {l : List UInt8} {i : Instr} {n : Nat} (hl : c.data.toList.drop k = l) (h : mq_op c k l i n = true) : decode c k = .ok (i, n) := by
  cases i
  case iaload =>
    obtain ⟨a, rfl⟩ := mq_m1_ok hl h
    exact mqd_46 a
  case laload =>
    obtain ⟨a, rfl⟩ := mq_m1_ok hl h
    exact mqd_47 a
  case aaload =>
    obtain ⟨a, rfl⟩ := mq_m1_ok hl h
    exact mqd_50 a
  case iastore =>
    obtain ⟨a, rfl⟩ := mq_m1_ok hl h
    exact mqd_79 a
  case lastore =>
    obtain ⟨a, rfl⟩ := mq_m1_ok hl h
    exact mqd_80 a
  case aastore =>
    obtain ⟨a, rfl⟩ := mq_m1_ok hl h
    exact mqd_83 a
  case pop =>
    obtain ⟨a, rfl⟩ := mq_m1_ok hl h
    exact mqd_87 a
  case pop2 =>
    obtain ⟨a, rfl⟩ := mq_m1_ok hl h
    exact mqd_88 a
  case dup =>
    obtain ⟨a, rfl⟩ := mq_m1_ok hl h
    exact mqd_89 a
  case dup_x1 =>
    obtain ⟨a, rfl⟩ := mq_m1_ok hl h
    exact mqd_90 a
  case dup2 =>
    obtain ⟨a, rfl⟩ := mq_m1_ok hl h
    exact mqd_92 a
  case iadd =>
    obtain ⟨a, rfl⟩ := mq_m1_ok hl h
    exact mqd_96 a
  case ladd =>
    obtain ⟨a, rfl⟩ := mq_m1_ok hl h
    exact mqd_97 a
  case isub =>
    obtain ⟨a, rfl⟩ := mq_m1_ok hl h
    exact mqd_100 a
  case lsub =>
    obtain ⟨a, rfl⟩ := mq_m1_ok hl h
    exact mqd_101 a
  case imul =>
    obtain ⟨a, rfl⟩ := mq_m1_ok hl h
    exact mqd_104 a
  case lmul =>
    obtain ⟨a, rfl⟩ := mq_m1_ok hl h
    exact mqd_105 a
  case idiv =>
    obtain ⟨a, rfl⟩ := mq_m1_ok hl h
    exact mqd_108 a
  case ldiv =>
    obtain ⟨a, rfl⟩ := mq_m1_ok hl h
    exact mqd_109 a
  case irem =>
    obtain ⟨a, rfl⟩ := mq_m1_ok hl h
    exact mqd_112 a
  case lrem =>
    obtain ⟨a, rfl⟩ := mq_m1_ok hl h
    exact mqd_113 a
  case ishl =>
    obtain ⟨a, rfl⟩ := mq_m1_ok hl h
    exact mqd_120 a
  case lshl =>
    obtain ⟨a, rfl⟩ := mq_m1_ok hl h
    exact mqd_121 a
  case ishr =>
    obtain ⟨a, rfl⟩ := mq_m1_ok hl h
    exact mqd_122 a
  case lshr =>
    obtain ⟨a, rfl⟩ := mq_m1_ok hl h
    exact mqd_123 a
  case iushr =>
    obtain ⟨a, rfl⟩ := mq_m1_ok hl h
    exact mqd_124 a
  case lushr =>
    obtain ⟨a, rfl⟩ := mq_m1_ok hl h
    exact mqd_125 a
  case iand =>
    obtain ⟨a, rfl⟩ := mq_m1_ok hl h
    exact mqd_126 a
  case land =>
    obtain ⟨a, rfl⟩ := mq_m1_ok hl h
    exact mqd_127 a
  case ior =>
    obtain ⟨a, rfl⟩ := mq_m1_ok hl h
    exact mqd_128 a
  case lor =>
    obtain ⟨a, rfl⟩ := mq_m1_ok hl h
    exact mqd_129 a
  case ixor =>
    obtain ⟨a, rfl⟩ := mq_m1_ok hl h
    exact mqd_130 a
  case i2l =>
    obtain ⟨a, rfl⟩ := mq_m1_ok hl h
    exact mqd_133 a
  case l2i =>
    obtain ⟨a, rfl⟩ := mq_m1_ok hl h
    exact mqd_136 a
  case i2b =>
    obtain ⟨a, rfl⟩ := mq_m1_ok hl h
    exact mqd_145 a
  case i2s =>
    obtain ⟨a, rfl⟩ := mq_m1_ok hl h
    exact mqd_147 a
  case lcmp =>
    obtain ⟨a, rfl⟩ := mq_m1_ok hl h
    exact mqd_148 a
  case ireturn =>
    obtain ⟨a, rfl⟩ := mq_m1_ok hl h
    exact mqd_172 a
  case lreturn =>
    obtain ⟨a, rfl⟩ := mq_m1_ok hl h
    exact mqd_173 a
  case areturn =>
    obtain ⟨a, rfl⟩ := mq_m1_ok hl h
    exact mqd_176 a
  case return_ =>
    obtain ⟨a, rfl⟩ := mq_m1_ok hl h
    exact mqd_177 a
  case arraylength =>
    obtain ⟨a, rfl⟩ := mq_m1_ok hl h
    exact mqd_190 a
  case iload_n x =>
    obtain ⟨a, rfl⟩ := mq_m1_ok (o := 26 + x.val) hl h
    match x, a with
    | 0, a => exact mqd_26 a
    | 1, a => exact mqd_27 a
    | 2, a => exact mqd_28 a
    | 3, a => exact mqd_29 a
  case lload_n x =>
    obtain ⟨a, rfl⟩ := mq_m1_ok (o := 30 + x.val) hl h
    match x, a with
    | 0, a => exact mqd_30 a
    | 1, a => exact mqd_31 a
    | 2, a => exact mqd_32 a
    | 3, a => exact mqd_33 a
  case aload_n x =>
    obtain ⟨a, rfl⟩ := mq_m1_ok (o := 42 + x.val) hl h
    match x, a with
    | 0, a => exact mqd_42 a
    | 1, a => exact mqd_43 a
    | 2, a => exact mqd_44 a
    | 3, a => exact mqd_45 a
  case istore_n x =>
    obtain ⟨a, rfl⟩ := mq_m1_ok (o := 59 + x.val) hl h
    match x, a with
    | 0, a => exact mqd_59 a
    | 1, a => exact mqd_60 a
    | 2, a => exact mqd_61 a
    | 3, a => exact mqd_62 a
  case lstore_n x =>
    obtain ⟨a, rfl⟩ := mq_m1_ok (o := 63 + x.val) hl h
    match x, a with
    | 0, a => exact mqd_63 a
    | 1, a => exact mqd_64 a
    | 2, a => exact mqd_65 a
    | 3, a => exact mqd_66 a
  case astore_n x =>
    obtain ⟨a, rfl⟩ := mq_m1_ok (o := 75 + x.val) hl h
    match x, a with
    | 0, a => exact mqd_75 a
    | 1, a => exact mqd_76 a
    | 2, a => exact mqd_77 a
    | 3, a => exact mqd_78 a
  case iconst x =>
    have h : (decide (-1 ≤ x) && decide (x ≤ 5) && mq_m1 l (x + 3).toNat n) = true := h
    rw [Bool.and_eq_true, Bool.and_eq_true] at h
    obtain ⟨⟨h1, h2⟩, h3⟩ := h
    have h1 := of_decide_eq_true h1
    have h2 := of_decide_eq_true h2
    obtain ⟨a, rfl⟩ := mq_m1_ok hl h3
    have q : x = -1 ∨ x = 0 ∨ x = 1 ∨ x = 2 ∨ x = 3 ∨ x = 4 ∨ x = 5 := by omega
    rcases q with q | q | q | q | q | q | q
    · subst q
      exact mqd_2 a
    · subst q
      exact mqd_3 a
    · subst q
      exact mqd_4 a
    · subst q
      exact mqd_5 a
    · subst q
      exact mqd_6 a
    · subst q
      exact mqd_7 a
    · subst q
      exact mqd_8 a
  case lconst x =>
    obtain ⟨a, rfl⟩ := mq_m1_ok (o := 9 + x.val) hl h
    match x, a with
    | 0, a => exact mqd_9 a
    | 1, a => exact mqd_10 a
  case ldc x =>
    obtain ⟨a, b, rfl⟩ := mq_m2_ok hl h
    exact mqd_18 a b
  case iload x =>
    obtain ⟨a, b, rfl⟩ := mq_m2_ok hl h
    exact mqd_21 a b
  case lload x =>
    obtain ⟨a, b, rfl⟩ := mq_m2_ok hl h
    exact mqd_22 a b
  case aload x =>
    obtain ⟨a, b, rfl⟩ := mq_m2_ok hl h
    exact mqd_25 a b
  case istore x =>
    obtain ⟨a, b, rfl⟩ := mq_m2_ok hl h
    exact mqd_54 a b
  case lstore x =>
    obtain ⟨a, b, rfl⟩ := mq_m2_ok hl h
    exact mqd_55 a b
  case astore x =>
    obtain ⟨a, b, rfl⟩ := mq_m2_ok hl h
    exact mqd_58 a b
  case ldc_w x =>
    obtain ⟨p, q, a, b, d, rfl, rfl⟩ := mq_m3_ok hl h
    exact mqd_19 a b d
  case ldc2_w x =>
    obtain ⟨p, q, a, b, d, rfl, rfl⟩ := mq_m3_ok hl h
    exact mqd_20 a b d
  case getstatic x =>
    obtain ⟨p, q, a, b, d, rfl, rfl⟩ := mq_m3_ok hl h
    exact mqd_178 a b d
  case getfield x =>
    obtain ⟨p, q, a, b, d, rfl, rfl⟩ := mq_m3_ok hl h
    exact mqd_180 a b d
  case putfield x =>
    obtain ⟨p, q, a, b, d, rfl, rfl⟩ := mq_m3_ok hl h
    exact mqd_181 a b d
  case invokevirtual x =>
    obtain ⟨p, q, a, b, d, rfl, rfl⟩ := mq_m3_ok hl h
    exact mqd_182 a b d
  case invokespecial x =>
    obtain ⟨p, q, a, b, d, rfl, rfl⟩ := mq_m3_ok hl h
    exact mqd_183 a b d
  case invokestatic x =>
    obtain ⟨p, q, a, b, d, rfl, rfl⟩ := mq_m3_ok hl h
    exact mqd_184 a b d
  case new x =>
    obtain ⟨p, q, a, b, d, rfl, rfl⟩ := mq_m3_ok hl h
    exact mqd_187 a b d
  case anewarray x =>
    obtain ⟨p, q, a, b, d, rfl, rfl⟩ := mq_m3_ok hl h
    exact mqd_189 a b d
  case bipush x =>
    obtain ⟨p, a, b, rfl, rfl⟩ := mq_s1_ok hl h
    exact mqd_16 a b
  case sipush x =>
    obtain ⟨p, q, a, b, d, rfl, rfl⟩ := mq_s2_ok hl h
    exact mqd_17 a b d
  case goto x =>
    obtain ⟨p, q, a, b, d, rfl, rfl⟩ := mq_s2_ok hl h
    exact mqd_167 a b d
  case ifCond x y =>
    obtain ⟨p, q, a, b, d, rfl, rfl⟩ := mq_s2_ok (o := 153 + mq_cn x) hl h
    cases x
    · exact mqd_153 a b d
    · exact mqd_154 a b d
    · exact mqd_155 a b d
    · exact mqd_156 a b d
    · exact mqd_157 a b d
    · exact mqd_158 a b d
  case if_icmp x y =>
    obtain ⟨p, q, a, b, d, rfl, rfl⟩ := mq_s2_ok (o := 159 + mq_cn x) hl h
    cases x
    · exact mqd_159 a b d
    · exact mqd_160 a b d
    · exact mqd_161 a b d
    · exact mqd_162 a b d
    · exact mqd_163 a b d
    · exact mqd_164 a b d
  case iinc x y =>
    obtain ⟨q, a, b, d, rfl, rfl⟩ := mq_si_ok hl h
    exact mqd_132 a b d
  case newarray x =>
    cases x
    case int =>
      obtain ⟨a, b, rfl⟩ := mq_m2_ok hl h
      exact mqd_188_10 a b
    case long =>
      obtain ⟨a, b, rfl⟩ := mq_m2_ok hl h
      exact mqd_188_11 a b
    all_goals exact of_decide_eq_true h
  all_goals exact of_decide_eq_true h
