/-! What every call keeps: the range of each number, by the place of its cell and the index; d: how many things; ac: how many acts. -/
def ActAt (q : Int) : Prop := 55 ≤ q ∧ q ≤ 76 ∧ (q - 55) % 3 = 0
def LawAt (q : Int) : Prop := q = 50 ∨ (79 ≤ q ∧ q ≤ 101 ∧ (q - 79) % 2 = 0)
def MadeAt (q : Int) : Prop := 103 ≤ q ∧ q ≤ 109 ∧ (q - 103) % 3 = 0
def LineAt (q : Int) : Prop := q = 25 ∨ q = 27 ∨ q = 29 ∨ q = 52
def FoundAt (q : Int) : Prop := q = 46 ∨ q = 48
def tb (d ac a i : Int) : Int × Int :=
  if 55 ≤ a ∧ a ≤ 78 then (if (a - 55) % 3 = 0 then (if i = 0 then (if a < 55 + 3 * ac then (1, 3) else (0, 3)) else (if a < 55 + 3 * ac then (d, d * d * d) else (0, 27))) else (if a < 55 + 3 * ac ∧ i < d * d * d then (0, d - 1) else (0, 2)))
  else if (79 ≤ a ∧ a ≤ 102) ∨ a = 50 ∨ a = 51 then (if a ≤ 51 ∧ a = 50 ∨ 51 < a ∧ (a - 79) % 2 = 0 then (if i = 0 then (0, 3) else if i = 3 then (0, 27) else (-2147483648, 2147483647)) else (0, 26))
  else if 103 ≤ a ∧ a ≤ 111 then (if (a - 103) % 3 = 0 then (if i ≤ 1 then (0, 1) else (0, 256)) else (-2147483648, 2147483647))
  else if a = -1 then ((0, 1))
  else if a = 0 then (if i = 0 then (0, 0) else (4, 4))
  else if a = 1 then (if i = 0 then (0, 0) else if i = 1 then (4, 4) else if i = 2 then (20, 20) else if i = 3 then (32, 32) else (36, 36))
  else if a = 3 then (if i = 14 then (ac, ac) else if i = 15 then (0, 12) else if i = 16 then (-2147483648, 2147483647) else if i = 17 then (0, 3) else (0, 1))
  else if a = 4 then (if i = 0 then (d, d) else (d * d * d, d * d * d))
  else if a = 5 then (if i < d * d * d then (i / (d * d), i / (d * d)) else (0, 2))
  else if a = 6 then (if i < d * d * d then (i / d % d, i / d % d) else (0, 2))
  else if a = 7 then (if i < d * d * d then (i % d, i % d) else (0, 2))
  else if a = 9 then (-9223372036854775808, 9223372036854775807)
  else if a = 10 then (0, 3)
  else if a = 11 then (-1, 40)
  else if a = 15 then (if i = 0 then (4, 16) else if i = 9 then (31, 130) else if i = 10 then (0, 257) else (-2147483648, 2147483647))
  else if a = 20 then (0, 19682)
  else if a = 21 then (-2147483648, 2147483647)
  else if a = 22 then (0, 26)
  else if a = 23 then (0, 26)
  else if a = 24 then (0, 26)
  else if a = 25 then (if i = 1 then (-2147483648, 2147483647) else if i = 2 then (-2147483648, 2147483647) else (-2147483648, 2147483647))
  else if a = 26 then (-2147483648, 2147483647)
  else if a = 27 then (if i = 1 then (-2147483648, 2147483647) else if i = 2 then (-2147483648, 2147483647) else (-2147483648, 2147483647))
  else if a = 28 then (-2147483648, 2147483647)
  else if a = 29 then (if i = 1 then (-2147483648, 2147483647) else if i = 2 then (-2147483648, 2147483647) else (-2147483648, 2147483647))
  else if a = 30 then (-2147483648, 2147483647)
  else if a = 31 then (0, 257)
  else if a = 32 then (if i = 0 then (1, 8) else (0, 30))
  else if a = 33 then (0, 11)
  else if a = 34 then (0, 7)
  else if a = 35 then (0, 7)
  else if a = 36 then (0, 7)
  else if a = 37 then (-2147483648, 2147483647)
  else if a = 38 then (if i = 5 then (0, 3) else if i = 6 then (0, 9) else (-2147483648, 2147483647))
  else if a = 39 then (0, 2)
  else if a = 40 then (-2147483648, 2147483647)
  else if a = 41 then (0, 2184)
  else if a = 42 then (-2147483648, 2147483647)
  else if a = 43 then (0, 729)
  else if a = 44 then (if i = 0 then (0, 3) else if i = 1 then (0, 3) else if i = 2 then (0, 9) else if i = 3 then (0, 1) else (2, 3))
  else if a = 45 then (0, 8)
  else if a = 46 then ((-2147483648, 2147483647))
  else if a = 47 then (-9223372036854775808, 9223372036854775807)
  else if a = 48 then ((-2147483648, 2147483647))
  else if a = 49 then (-9223372036854775808, 9223372036854775807)
  else if a = 52 then (if i = 1 then (d * d, d * d) else if i = 2 then (d, d) else (1, 1))
  else if a = 53 then (0, 26)
  else if a = 54 then (0, 2)
  else if a = 112 then (if i = 0 then (2, 3) else if i = 4 then (0, 8) else if i = 7 then (0, 12) else if i = 10 then (1, 8) else if i = 11 then (0, 30) else if i = 20 then (-1, 4095) else if i = 21 then (0, 3) else (0, 19683))
  else if a = 113 then (0, 41)
  else if a = 114 then (0, 3)
  else if a = 115 then (-9223372036854775808, 9223372036854775807)
  else if a = 116 then (0, 3)
  else if a = 117 then (0, 2)
  else if a = 118 then (0, 3)
  else if a = 119 then (0, 134217727)
  else if a = 120 then (0, 11)
  else if a = 121 then (-2147483648, 2147483647)
  else if a = 122 then (0, 19682)
  else if a = 123 then (0, 1000000)
  else if a = 124 then (-8, 256)
  else if a = 125 then (-1, 1000001)
  else if a = 126 then (0, 2)
  else if a = 127 then (0, 2)
  else if a = 128 then (0, 19682)
  else if a = 129 then (0, 7)
  else if a = 130 then (0, 257)
  else (-9223372036854775808, 9223372036854775807)
def TI (d ac : Int) (M : nM) : Prop := ∀ a i : Int, 0 ≤ i → (tb d ac a i).1 ≤ M a i ∧ M a i ≤ (tb d ac a i).2
/-- a key of a check: three numbers up to 8 -/
def ckey (x : Int) : Prop := ∃ p q r : Int, 0 ≤ p ∧ p ≤ 8 ∧ 0 ≤ q ∧ q ≤ 8 ∧ 0 ≤ r ∧ r ≤ 8 ∧ x = p + 16 * q + 256 * r
def CK (M : nM) : Prop := ∀ i : Int, 0 ≤ i → ckey (M 41 i)
def PK (M : nM) : Prop := (M 15 9 = 31 ∧ M (-1) 0 = 0) ∨ (M 15 9 = 130 ∧ M (-1) 0 = 1)
def core (a i : Int) : Prop := (a = 3 ∧ (i = 14 ∨ i = 15)) ∨ (4 ≤ a ∧ a ≤ 11) ∨ (a = 32 ∧ (i = 0 ∨ i = 1)) ∨ (33 ≤ a ∧ a ≤ 36) ∨ (55 ≤ a ∧ a ≤ 102) ∨ (a = 112 ∧ (i = 0 ∨ i = 4 ∨ i = 7 ∨ i = 10 ∨ i = 11)) ∨ (113 ≤ a ∧ a ≤ 121) ∨ (a = 3 ∧ (i = 16 ∨ i = 17)) ∨ a = 46 ∨ a = 47 ∨ (a = 112 ∧ (i = 20 ∨ i = 21 ∨ i = 22)) ∨ a = 128
/-- an ask's unknowns are there, for the places that its law has; the law is there -/
def AK (M : nM) : Prop := ∀ q : Int, 0 ≤ q → q < M 112 11 → M 120 q < M 112 7 ∧ ∀ j : Int, 0 ≤ j → j < M 118 (M 120 q) → 0 ≤ M 121 (3 * q + j) ∧ M 121 (3 * q + j) < M 112 10
def Fc (M0 M : nM) : Prop := (∀ a i, core a i → M a i = M0 a i) ∧ AK M0
def Sf (d ac : Int) (M0 M : nM) : Prop := TI d ac M ∧ CK M ∧ PK M ∧ Fc M0 M ∧ 0 ≤ ac ∧ ac ≤ 8
def Wok (d ac a i z : Int) : Prop := 0 ≤ i ∧ ((tb d ac a i).1 ≤ z ∧ z ≤ (tb d ac a i).2) ∧ ¬ core a i ∧ a ≠ 41 ∧ a ≠ -1 ∧ ¬ (a = 15 ∧ i = 9)
theorem TI.u {d ac : Int} {M : nM} (h : TI d ac M) {a i z : Int} (hz : (tb d ac a i).1 ≤ z ∧ z ≤ (tb d ac a i).2) : TI d ac (nu M a i z) := by
  intro a' i' h0
  rw [nu_e]
  split
  · rename_i q
    rw [q.1, q.2]
    exact hz
  · exact h a' i' h0
theorem Sf.u {d ac : Int} {M0 M : nM} (h : Sf d ac M0 M) {a i z : Int} (hw : Wok d ac a i z) : Sf d ac M0 (nu M a i z) := by
  obtain ⟨h1, h2, h3, h4, h5⟩ := h
  obtain ⟨w0, w1, w2, w3, w4, w5⟩ := hw
  refine ⟨h1.u w1, fun i' h0 => ?_, ?_, ⟨fun a' i' hc => ?_, h4.2⟩, h5⟩
  · rw [nu_a (Ne.symm w3)]
    exact h2 i' h0
  · unfold PK
    rw [nu_e M a i z 15 9, if_neg (fun q => w5 ⟨q.1.symm, q.2.symm⟩), nu_a (Ne.symm w4)]
    exact h3
  · rw [nu_e, if_neg (fun q => w2 (by rw [← q.1, ← q.2]; exact hc))]
    exact h4.1 a' i' hc
theorem AK.of {M0 M : nM} (h : AK M0) (hc : ∀ a i, core a i → M a i = M0 a i) : AK M := by
  intro q h0 h1
  rw [hc 112 11 (by unfold core; omega)] at h1
  obtain ⟨a1, a2⟩ := h q h0 h1
  have e1 : M 120 q = M0 120 q := hc 120 q (by unfold core; omega)
  rw [e1, hc 112 7 (by unfold core; omega), hc 112 10 (by unfold core; omega)]
  refine ⟨a1, fun j h2 h3 => ?_⟩
  rw [hc 118 _ (by unfold core; omega)] at h3
  rw [hc 121 _ (by unfold core; omega)]
  exact a2 j h2 h3
theorem Sf.refl {d ac : Int} {M0 M : nM} (h : Sf d ac M0 M) : Sf d ac M M := ⟨h.1, h.2.1, h.2.2.1, ⟨fun _ _ _ => rfl, h.2.2.2.1.2.of h.2.2.2.1.1⟩, h.2.2.2.2⟩
/-- a place of the core is written: no ask hangs on it -/
def Mok (d ac a i z : Int) : Prop := 0 ≤ i ∧ ((tb d ac a i).1 ≤ z ∧ z ≤ (tb d ac a i).2) ∧ a ≠ 41 ∧ a ≠ -1 ∧ ¬ (a = 15 ∧ i = 9) ∧ ¬ (a = 112 ∧ (i = 7 ∨ i = 10 ∨ i = 11)) ∧ a ≠ 118 ∧ a ≠ 120 ∧ a ≠ 121
theorem Sf.m {d ac : Int} {M : nM} (h : Sf d ac M M) {a i z : Int} (hw : Mok d ac a i z) : Sf d ac (nu M a i z) (nu M a i z) := by
  obtain ⟨h1, h2, h3, h4, h5⟩ := h
  obtain ⟨w0, w1, w3, w4, w5, w6, w7, w8, w9⟩ := hw
  refine ⟨h1.u w1, fun i' h0 => ?_, ?_, ⟨fun _ _ _ => rfl, ?_⟩, h5⟩
  · rw [nu_a (Ne.symm w3)]
    exact h2 i' h0
  · unfold PK
    rw [nu_e M a i z 15 9, if_neg (fun q => w5 ⟨q.1.symm, q.2.symm⟩), nu_a (Ne.symm w4)]
    exact h3
  · intro q h0 hq
    have e7 : nu M a i z 112 7 = M 112 7 := by rw [nu_e, if_neg (by omega)]
    have e10 : nu M a i z 112 10 = M 112 10 := by rw [nu_e, if_neg (by omega)]
    have e11 : nu M a i z 112 11 = M 112 11 := by rw [nu_e, if_neg (by omega)]
    rw [e11] at hq
    obtain ⟨a1, a2⟩ := h4.2 q h0 hq
    rw [nu_a (Ne.symm w8), e7, e10]
    refine ⟨a1, fun j b1 b2 => ?_⟩
    rw [nu_a (Ne.symm w7)] at b2
    rw [nu_a (Ne.symm w9)]
    exact a2 j b1 b2
theorem sc_0 : sC 0 18 2 := ⟨by decide, by decide, rfl⟩
theorem sc_1 : sC 1 18 5 := ⟨by decide, by decide, rfl⟩
theorem sc_3 : sC 3 11 19 := ⟨by decide, by decide, rfl⟩
theorem sc_4 : sC 4 1 5 := ⟨by decide, by decide, rfl⟩
theorem sc_5 : sC 5 13 27 := ⟨by decide, by decide, rfl⟩
theorem sc_6 : sC 6 13 27 := ⟨by decide, by decide, rfl⟩
theorem sc_7 : sC 7 13 27 := ⟨by decide, by decide, rfl⟩
theorem sc_8 : sC 8 10 3 := ⟨by decide, by decide, rfl⟩
theorem sc_9 : sC 9 14 320 := ⟨by decide, by decide, rfl⟩
theorem sc_10 : sC 10 13 8 := ⟨by decide, by decide, rfl⟩
theorem sc_11 : sC 11 13 8 := ⟨by decide, by decide, rfl⟩
theorem sc_12 : sC 12 15 8 := ⟨by decide, by decide, rfl⟩
theorem sc_13 : sC 13 16 12 := ⟨by decide, by decide, rfl⟩
theorem sc_14 : sC 14 17 3 := ⟨by decide, by decide, rfl⟩
theorem sc_15 : sC 15 7 12 := ⟨by decide, by decide, rfl⟩
theorem sc_16 : sC 16 1 5 := ⟨by decide, by decide, rfl⟩
theorem sc_17 : sC 17 13 27 := ⟨by decide, by decide, rfl⟩
theorem sc_18 : sC 18 13 27 := ⟨by decide, by decide, rfl⟩
theorem sc_19 : sC 19 13 27 := ⟨by decide, by decide, rfl⟩
theorem sc_20 : sC 20 13 257 := ⟨by decide, by decide, rfl⟩
theorem sc_21 : sC 21 13 257 := ⟨by decide, by decide, rfl⟩
theorem sc_22 : sC 22 13 257 := ⟨by decide, by decide, rfl⟩
theorem sc_23 : sC 23 13 257 := ⟨by decide, by decide, rfl⟩
theorem sc_24 : sC 24 13 257 := ⟨by decide, by decide, rfl⟩
theorem sc_25 : sC 25 5 4 := ⟨by decide, by decide, rfl⟩
theorem sc_26 : sC 26 13 27 := ⟨by decide, by decide, rfl⟩
theorem sc_27 : sC 27 5 4 := ⟨by decide, by decide, rfl⟩
theorem sc_28 : sC 28 13 27 := ⟨by decide, by decide, rfl⟩
theorem sc_29 : sC 29 5 4 := ⟨by decide, by decide, rfl⟩
theorem sc_30 : sC 30 13 27 := ⟨by decide, by decide, rfl⟩
theorem sc_31 : sC 31 13 256 := ⟨by decide, by decide, rfl⟩
theorem sc_32 : sC 32 9 7 := ⟨by decide, by decide, rfl⟩
theorem sc_33 : sC 33 13 30 := ⟨by decide, by decide, rfl⟩
theorem sc_34 : sC 34 13 30 := ⟨by decide, by decide, rfl⟩
theorem sc_35 : sC 35 13 30 := ⟨by decide, by decide, rfl⟩
theorem sc_36 : sC 36 13 30 := ⟨by decide, by decide, rfl⟩
theorem sc_37 : sC 37 13 8 := ⟨by decide, by decide, rfl⟩
theorem sc_38 : sC 38 8 8 := ⟨by decide, by decide, rfl⟩
theorem sc_39 : sC 39 13 9 := ⟨by decide, by decide, rfl⟩
theorem sc_40 : sC 40 13 729 := ⟨by decide, by decide, rfl⟩
theorem sc_41 : sC 41 13 729 := ⟨by decide, by decide, rfl⟩
theorem sc_42 : sC 42 13 729 := ⟨by decide, by decide, rfl⟩
theorem sc_43 : sC 43 13 10 := ⟨by decide, by decide, rfl⟩
theorem sc_44 : sC 44 2 6 := ⟨by decide, by decide, rfl⟩
theorem sc_45 : sC 45 13 27 := ⟨by decide, by decide, rfl⟩
theorem sc_46 : sC 46 3 2 := ⟨by decide, by decide, rfl⟩
theorem sc_47 : sC 47 14 308 := ⟨by decide, by decide, rfl⟩
theorem sc_48 : sC 48 3 2 := ⟨by decide, by decide, rfl⟩
theorem sc_49 : sC 49 14 103 := ⟨by decide, by decide, rfl⟩
theorem sc_50 : sC 50 4 5 := ⟨by decide, by decide, rfl⟩
theorem sc_51 : sC 51 13 27 := ⟨by decide, by decide, rfl⟩
theorem sc_52 : sC 52 5 4 := ⟨by decide, by decide, rfl⟩
theorem sc_53 : sC 53 13 27 := ⟨by decide, by decide, rfl⟩
theorem sc_54 : sC 54 13 27 := ⟨by decide, by decide, rfl⟩
theorem sc_112 : sC 112 12 25 := ⟨by decide, by decide, rfl⟩
theorem sc_113 : sC 113 13 10 := ⟨by decide, by decide, rfl⟩
theorem sc_114 : sC 114 13 10 := ⟨by decide, by decide, rfl⟩
theorem sc_115 : sC 115 14 320 := ⟨by decide, by decide, rfl⟩
theorem sc_116 : sC 116 13 8 := ⟨by decide, by decide, rfl⟩
theorem sc_117 : sC 117 13 216 := ⟨by decide, by decide, rfl⟩
theorem sc_118 : sC 118 13 12 := ⟨by decide, by decide, rfl⟩
theorem sc_119 : sC 119 14 12 := ⟨by decide, by decide, rfl⟩
theorem sc_120 : sC 120 13 30 := ⟨by decide, by decide, rfl⟩
theorem sc_121 : sC 121 13 90 := ⟨by decide, by decide, rfl⟩
theorem sc_122 : sC 122 13 1024 := ⟨by decide, by decide, rfl⟩
theorem sc_123 : sC 123 13 1024 := ⟨by decide, by decide, rfl⟩
theorem sc_124 : sC 124 13 4 := ⟨by decide, by decide, rfl⟩
theorem sc_125 : sC 125 13 19683 := ⟨by decide, by decide, rfl⟩
theorem sc_126 : sC 126 13 2313 := ⟨by decide, by decide, rfl⟩
theorem sc_127 : sC 127 13 27 := ⟨by decide, by decide, rfl⟩
theorem sc_128 : sC 128 13 19683 := ⟨by decide, by decide, rfl⟩
theorem sc_129 : sC 129 13 8 := ⟨by decide, by decide, rfl⟩
theorem ActAt.c0 {q : Int} (h : ActAt q) : sC q 0 4 ∧ sC (q + 1) 13 27 ∧ sC (q + 2) 13 27 := by
  obtain ⟨h1, h2, h3⟩ := h
  rcases (show q = 55 ∨ q = 58 ∨ q = 61 ∨ q = 64 ∨ q = 67 ∨ q = 70 ∨ q = 73 ∨ q = 76 by omega) with rfl | rfl | rfl | rfl | rfl | rfl | rfl | rfl <;> exact ⟨⟨by decide, by decide, rfl⟩, ⟨by decide, by decide, rfl⟩, ⟨by decide, by decide, rfl⟩⟩
theorem LawAt.c0 {q : Int} (h : LawAt q) : sC q 4 5 ∧ sC (q + 1) 13 27 := by
  rcases h with rfl | ⟨h1, h2, h3⟩
  · exact ⟨⟨by decide, by decide, rfl⟩, ⟨by decide, by decide, rfl⟩⟩
  · rcases (show q = 79 ∨ q = 81 ∨ q = 83 ∨ q = 85 ∨ q = 87 ∨ q = 89 ∨ q = 91 ∨ q = 93 ∨ q = 95 ∨ q = 97 ∨ q = 99 ∨ q = 101 by omega) with rfl | rfl | rfl | rfl | rfl | rfl | rfl | rfl | rfl | rfl | rfl | rfl <;> exact ⟨⟨by decide, by decide, rfl⟩, ⟨by decide, by decide, rfl⟩⟩
theorem MadeAt.c0 {q : Int} (h : MadeAt q) : sC q 6 5 ∧ sC (q + 1) 13 256 ∧ sC (q + 2) 13 256 := by
  obtain ⟨h1, h2, h3⟩ := h
  rcases (show q = 103 ∨ q = 106 ∨ q = 109 by omega) with rfl | rfl | rfl <;> exact ⟨⟨by decide, by decide, rfl⟩, ⟨by decide, by decide, rfl⟩, ⟨by decide, by decide, rfl⟩⟩
theorem LineAt.c0 {q : Int} (h : LineAt q) : sC q 5 4 ∧ sC (q + 1) 13 27 := by
  rcases h with rfl | rfl | rfl | rfl <;> exact ⟨⟨by decide, by decide, rfl⟩, ⟨by decide, by decide, rfl⟩⟩
theorem law50 : LawAt 50 := Or.inl rfl
theorem ActAt.r {q : Int} (h : ActAt q) : nsr q 2 = some (q + 1) ∧ nsr q 3 = some (q + 2) := by
  obtain ⟨h1, h2, h3⟩ := h
  rcases (show q = 55 ∨ q = 58 ∨ q = 61 ∨ q = 64 ∨ q = 67 ∨ q = 70 ∨ q = 73 ∨ q = 76 by omega) with rfl | rfl | rfl | rfl | rfl | rfl | rfl | rfl <;> exact ⟨rfl, rfl⟩
theorem LawAt.r {q : Int} (h : LawAt q) : nsr q 4 = some (q + 1) := by
  rcases h with rfl | ⟨h1, h2, h3⟩
  · rfl
  · rcases (show q = 79 ∨ q = 81 ∨ q = 83 ∨ q = 85 ∨ q = 87 ∨ q = 89 ∨ q = 91 ∨ q = 93 ∨ q = 95 ∨ q = 97 ∨ q = 99 ∨ q = 101 by omega) with rfl | rfl | rfl | rfl | rfl | rfl | rfl | rfl | rfl | rfl | rfl | rfl <;> rfl
theorem MadeAt.r {q : Int} (h : MadeAt q) : nsr q 3 = some (q + 1) ∧ nsr q 4 = some (q + 2) := by
  obtain ⟨h1, h2, h3⟩ := h
  rcases (show q = 103 ∨ q = 106 ∨ q = 109 by omega) with rfl | rfl | rfl <;> exact ⟨rfl, rfl⟩
theorem LineAt.r {q : Int} (h : LineAt q) : nsr q 0 = some (q + 1) := by
  rcases h with rfl | rfl | rfl | rfl <;> rfl
theorem r_acts (i : Int) : nsr 12 i = some (55 + 3 * i) := rfl
theorem r_laws (i : Int) : nsr 13 i = some (79 + 2 * i) := rfl
theorem r_made (i : Int) : nsr 14 i = some (103 + 3 * i) := rfl
section
variable {d ac : Int} {M0 M : nM}
theorem t_m1_0 (h : Sf d ac M0 M) : 0 ≤ M (-1) 0 ∧ M (-1) 0 ≤ 1 := h.1 (-1) 0 (by decide)
theorem t_0_0 (h : Sf d ac M0 M) : 0 ≤ M 0 0 ∧ M 0 0 ≤ 0 := h.1 0 0 (by decide)
theorem t_0_1 (h : Sf d ac M0 M) : 4 ≤ M 0 1 ∧ M 0 1 ≤ 4 := h.1 0 1 (by decide)
theorem t_1_0 (h : Sf d ac M0 M) : 0 ≤ M 1 0 ∧ M 1 0 ≤ 0 := h.1 1 0 (by decide)
theorem t_1_1 (h : Sf d ac M0 M) : 4 ≤ M 1 1 ∧ M 1 1 ≤ 4 := h.1 1 1 (by decide)
theorem t_1_2 (h : Sf d ac M0 M) : 20 ≤ M 1 2 ∧ M 1 2 ≤ 20 := h.1 1 2 (by decide)
theorem t_1_3 (h : Sf d ac M0 M) : 32 ≤ M 1 3 ∧ M 1 3 ≤ 32 := h.1 1 3 (by decide)
theorem t_1_4 (h : Sf d ac M0 M) : 36 ≤ M 1 4 ∧ M 1 4 ≤ 36 := h.1 1 4 (by decide)
theorem t_3_14 (h : Sf d ac M0 M) : ac ≤ M 3 14 ∧ M 3 14 ≤ ac := h.1 3 14 (by decide)
theorem t_3_15 (h : Sf d ac M0 M) : 0 ≤ M 3 15 ∧ M 3 15 ≤ 12 := h.1 3 15 (by decide)
theorem t_3_16 (h : Sf d ac M0 M) : -2147483648 ≤ M 3 16 ∧ M 3 16 ≤ 2147483647 := h.1 3 16 (by decide)
theorem t_3_17 (h : Sf d ac M0 M) : 0 ≤ M 3 17 ∧ M 3 17 ≤ 3 := h.1 3 17 (by decide)
theorem t_3_18 (h : Sf d ac M0 M) : 0 ≤ M 3 18 ∧ M 3 18 ≤ 1 := h.1 3 18 (by decide)
theorem t_4_0 (h : Sf d ac M0 M) : d ≤ M 4 0 ∧ M 4 0 ≤ d := h.1 4 0 (by decide)
theorem t_4_1 (h : Sf d ac M0 M) : d * d * d ≤ M 4 1 ∧ M 4 1 ≤ d * d * d := h.1 4 1 (by decide)
theorem t_5e (h : Sf d ac M0 M) {i : Int} (h0 : 0 ≤ i) (hi : i < d * d * d) : M 5 i = i / (d * d) := by
  have h1 := h.1 5 i h0
  have e : tb d ac 5 i = if i < d * d * d then (i / (d * d), i / (d * d)) else (0, 2) := rfl
  rw [e, if_pos hi] at h1
  have h2 := h1.1
  have h3 := h1.2
  show M 5 i = i / (d * d)
  omega
theorem t_5d (h : Sf d ac M0 M) (hd : d = 2 ∨ d = 3) {i : Int} (h0 : 0 ≤ i) (hi : i < d * d * d) : 0 ≤ M 5 i ∧ M 5 i ≤ d - 1 := by
  have h1 := t_5e h h0 hi
  rw [h1]
  rcases hd with rfl | rfl
  · omega
  · omega
theorem t_5 (h : Sf d ac M0 M) (hd : d = 2 ∨ d = 3) {i : Int} (h0 : 0 ≤ i) : 0 ≤ M 5 i ∧ M 5 i ≤ 2 := by
  by_cases hi : i < d * d * d
  · have h1 := t_5d h hd h0 hi
    omega
  · have h1 := h.1 5 i h0
    have e : tb d ac 5 i = if i < d * d * d then (i / (d * d), i / (d * d)) else (0, 2) := rfl
    rw [e, if_neg hi] at h1
    exact h1
theorem t_5k (h : Sf d ac M0 M) {i z : Int} (h0 : 0 ≤ i) (hi : i < d * d * d) (hz : i / (d * d) = z) : z ≤ M 5 i ∧ M 5 i ≤ z := by
  have h1 := t_5e h h0 hi
  omega
theorem t_6e (h : Sf d ac M0 M) {i : Int} (h0 : 0 ≤ i) (hi : i < d * d * d) : M 6 i = i / d % d := by
  have h1 := h.1 6 i h0
  have e : tb d ac 6 i = if i < d * d * d then (i / d % d, i / d % d) else (0, 2) := rfl
  rw [e, if_pos hi] at h1
  have h2 := h1.1
  have h3 := h1.2
  show M 6 i = i / d % d
  omega
theorem t_6d (h : Sf d ac M0 M) (hd : d = 2 ∨ d = 3) {i : Int} (h0 : 0 ≤ i) (hi : i < d * d * d) : 0 ≤ M 6 i ∧ M 6 i ≤ d - 1 := by
  have h1 := t_6e h h0 hi
  rw [h1]
  rcases hd with rfl | rfl
  · omega
  · omega
theorem t_6 (h : Sf d ac M0 M) (hd : d = 2 ∨ d = 3) {i : Int} (h0 : 0 ≤ i) : 0 ≤ M 6 i ∧ M 6 i ≤ 2 := by
  by_cases hi : i < d * d * d
  · have h1 := t_6d h hd h0 hi
    omega
  · have h1 := h.1 6 i h0
    have e : tb d ac 6 i = if i < d * d * d then (i / d % d, i / d % d) else (0, 2) := rfl
    rw [e, if_neg hi] at h1
    exact h1
theorem t_6k (h : Sf d ac M0 M) {i z : Int} (h0 : 0 ≤ i) (hi : i < d * d * d) (hz : i / d % d = z) : z ≤ M 6 i ∧ M 6 i ≤ z := by
  have h1 := t_6e h h0 hi
  omega
theorem t_7e (h : Sf d ac M0 M) {i : Int} (h0 : 0 ≤ i) (hi : i < d * d * d) : M 7 i = i % d := by
  have h1 := h.1 7 i h0
  have e : tb d ac 7 i = if i < d * d * d then (i % d, i % d) else (0, 2) := rfl
  rw [e, if_pos hi] at h1
  have h2 := h1.1
  have h3 := h1.2
  show M 7 i = i % d
  omega
theorem t_7d (h : Sf d ac M0 M) (hd : d = 2 ∨ d = 3) {i : Int} (h0 : 0 ≤ i) (hi : i < d * d * d) : 0 ≤ M 7 i ∧ M 7 i ≤ d - 1 := by
  have h1 := t_7e h h0 hi
  rw [h1]
  rcases hd with rfl | rfl
  · omega
  · omega
theorem t_7 (h : Sf d ac M0 M) (hd : d = 2 ∨ d = 3) {i : Int} (h0 : 0 ≤ i) : 0 ≤ M 7 i ∧ M 7 i ≤ 2 := by
  by_cases hi : i < d * d * d
  · have h1 := t_7d h hd h0 hi
    omega
  · have h1 := h.1 7 i h0
    have e : tb d ac 7 i = if i < d * d * d then (i % d, i % d) else (0, 2) := rfl
    rw [e, if_neg hi] at h1
    exact h1
theorem t_7k (h : Sf d ac M0 M) {i z : Int} (h0 : 0 ≤ i) (hi : i < d * d * d) (hz : i % d = z) : z ≤ M 7 i ∧ M 7 i ≤ z := by
  have h1 := t_7e h h0 hi
  omega
theorem t_9 (h : Sf d ac M0 M) {i : Int} (h0 : 0 ≤ i) : -9223372036854775808 ≤ M 9 i ∧ M 9 i ≤ 9223372036854775807 := h.1 9 i h0
theorem t_10 (h : Sf d ac M0 M) {i : Int} (h0 : 0 ≤ i) : 0 ≤ M 10 i ∧ M 10 i ≤ 3 := h.1 10 i h0
theorem t_11 (h : Sf d ac M0 M) {i : Int} (h0 : 0 ≤ i) : -1 ≤ M 11 i ∧ M 11 i ≤ 40 := h.1 11 i h0
theorem t_15_0 (h : Sf d ac M0 M) : 4 ≤ M 15 0 ∧ M 15 0 ≤ 16 := h.1 15 0 (by decide)
theorem t_15_9 (h : Sf d ac M0 M) : 31 ≤ M 15 9 ∧ M 15 9 ≤ 130 := h.1 15 9 (by decide)
theorem t_15_10 (h : Sf d ac M0 M) : 0 ≤ M 15 10 ∧ M 15 10 ≤ 257 := h.1 15 10 (by decide)
theorem t_15_11 (h : Sf d ac M0 M) : -2147483648 ≤ M 15 11 ∧ M 15 11 ≤ 2147483647 := h.1 15 11 (by decide)
theorem t_20 (h : Sf d ac M0 M) {i : Int} (h0 : 0 ≤ i) : 0 ≤ M 20 i ∧ M 20 i ≤ 19682 := h.1 20 i h0
theorem t_21 (h : Sf d ac M0 M) {i : Int} (h0 : 0 ≤ i) : -2147483648 ≤ M 21 i ∧ M 21 i ≤ 2147483647 := h.1 21 i h0
theorem t_22 (h : Sf d ac M0 M) {i : Int} (h0 : 0 ≤ i) : 0 ≤ M 22 i ∧ M 22 i ≤ 26 := h.1 22 i h0
theorem t_23 (h : Sf d ac M0 M) {i : Int} (h0 : 0 ≤ i) : 0 ≤ M 23 i ∧ M 23 i ≤ 26 := h.1 23 i h0
theorem t_24 (h : Sf d ac M0 M) {i : Int} (h0 : 0 ≤ i) : 0 ≤ M 24 i ∧ M 24 i ≤ 26 := h.1 24 i h0
theorem t_25_1 (h : Sf d ac M0 M) : -2147483648 ≤ M 25 1 ∧ M 25 1 ≤ 2147483647 := h.1 25 1 (by decide)
theorem t_25_2 (h : Sf d ac M0 M) : -2147483648 ≤ M 25 2 ∧ M 25 2 ≤ 2147483647 := h.1 25 2 (by decide)
theorem t_25_3 (h : Sf d ac M0 M) : -2147483648 ≤ M 25 3 ∧ M 25 3 ≤ 2147483647 := h.1 25 3 (by decide)
theorem t_27_1 (h : Sf d ac M0 M) : -2147483648 ≤ M 27 1 ∧ M 27 1 ≤ 2147483647 := h.1 27 1 (by decide)
theorem t_27_2 (h : Sf d ac M0 M) : -2147483648 ≤ M 27 2 ∧ M 27 2 ≤ 2147483647 := h.1 27 2 (by decide)
theorem t_27_3 (h : Sf d ac M0 M) : -2147483648 ≤ M 27 3 ∧ M 27 3 ≤ 2147483647 := h.1 27 3 (by decide)
theorem t_29_1 (h : Sf d ac M0 M) : -2147483648 ≤ M 29 1 ∧ M 29 1 ≤ 2147483647 := h.1 29 1 (by decide)
theorem t_29_2 (h : Sf d ac M0 M) : -2147483648 ≤ M 29 2 ∧ M 29 2 ≤ 2147483647 := h.1 29 2 (by decide)
theorem t_29_3 (h : Sf d ac M0 M) : -2147483648 ≤ M 29 3 ∧ M 29 3 ≤ 2147483647 := h.1 29 3 (by decide)
theorem t_26 (h : Sf d ac M0 M) {i : Int} (h0 : 0 ≤ i) : -2147483648 ≤ M 26 i ∧ M 26 i ≤ 2147483647 := h.1 26 i h0
theorem t_28 (h : Sf d ac M0 M) {i : Int} (h0 : 0 ≤ i) : -2147483648 ≤ M 28 i ∧ M 28 i ≤ 2147483647 := h.1 28 i h0
theorem t_30 (h : Sf d ac M0 M) {i : Int} (h0 : 0 ≤ i) : -2147483648 ≤ M 30 i ∧ M 30 i ≤ 2147483647 := h.1 30 i h0
theorem t_31 (h : Sf d ac M0 M) {i : Int} (h0 : 0 ≤ i) : 0 ≤ M 31 i ∧ M 31 i ≤ 257 := h.1 31 i h0
theorem t_130 (h : Sf d ac M0 M) {i : Int} (h0 : 0 ≤ i) : 0 ≤ M 130 i ∧ M 130 i ≤ 257 := h.1 130 i h0
theorem t_32_0 (h : Sf d ac M0 M) : 1 ≤ M 32 0 ∧ M 32 0 ≤ 8 := h.1 32 0 (by decide)
theorem t_32_1 (h : Sf d ac M0 M) : 0 ≤ M 32 1 ∧ M 32 1 ≤ 30 := h.1 32 1 (by decide)
theorem t_33 (h : Sf d ac M0 M) {i : Int} (h0 : 0 ≤ i) : 0 ≤ M 33 i ∧ M 33 i ≤ 11 := h.1 33 i h0
theorem t_34 (h : Sf d ac M0 M) {i : Int} (h0 : 0 ≤ i) : 0 ≤ M 34 i ∧ M 34 i ≤ 7 := h.1 34 i h0
theorem t_35 (h : Sf d ac M0 M) {i : Int} (h0 : 0 ≤ i) : 0 ≤ M 35 i ∧ M 35 i ≤ 7 := h.1 35 i h0
theorem t_36 (h : Sf d ac M0 M) {i : Int} (h0 : 0 ≤ i) : 0 ≤ M 36 i ∧ M 36 i ≤ 7 := h.1 36 i h0
theorem t_37 (h : Sf d ac M0 M) {i : Int} (h0 : 0 ≤ i) : -2147483648 ≤ M 37 i ∧ M 37 i ≤ 2147483647 := h.1 37 i h0
theorem t_38_5 (h : Sf d ac M0 M) : 0 ≤ M 38 5 ∧ M 38 5 ≤ 3 := h.1 38 5 (by decide)
theorem t_38_6 (h : Sf d ac M0 M) : 0 ≤ M 38 6 ∧ M 38 6 ≤ 9 := h.1 38 6 (by decide)
theorem t_38_7 (h : Sf d ac M0 M) : -2147483648 ≤ M 38 7 ∧ M 38 7 ≤ 2147483647 := h.1 38 7 (by decide)
theorem t_39 (h : Sf d ac M0 M) {i : Int} (h0 : 0 ≤ i) : 0 ≤ M 39 i ∧ M 39 i ≤ 2 := h.1 39 i h0
theorem t_40 (h : Sf d ac M0 M) {i : Int} (h0 : 0 ≤ i) : -2147483648 ≤ M 40 i ∧ M 40 i ≤ 2147483647 := h.1 40 i h0
theorem t_41 (h : Sf d ac M0 M) {i : Int} (h0 : 0 ≤ i) : 0 ≤ M 41 i ∧ M 41 i ≤ 2184 := h.1 41 i h0
theorem t_42 (h : Sf d ac M0 M) {i : Int} (h0 : 0 ≤ i) : -2147483648 ≤ M 42 i ∧ M 42 i ≤ 2147483647 := h.1 42 i h0
theorem t_43 (h : Sf d ac M0 M) {i : Int} (h0 : 0 ≤ i) : 0 ≤ M 43 i ∧ M 43 i ≤ 729 := h.1 43 i h0
theorem t_44_0 (h : Sf d ac M0 M) : 0 ≤ M 44 0 ∧ M 44 0 ≤ 3 := h.1 44 0 (by decide)
theorem t_44_1 (h : Sf d ac M0 M) : 0 ≤ M 44 1 ∧ M 44 1 ≤ 3 := h.1 44 1 (by decide)
theorem t_44_2 (h : Sf d ac M0 M) : 0 ≤ M 44 2 ∧ M 44 2 ≤ 9 := h.1 44 2 (by decide)
theorem t_44_3 (h : Sf d ac M0 M) : 0 ≤ M 44 3 ∧ M 44 3 ≤ 1 := h.1 44 3 (by decide)
theorem t_44_5 (h : Sf d ac M0 M) : 2 ≤ M 44 5 ∧ M 44 5 ≤ 3 := h.1 44 5 (by decide)
theorem t_45 (h : Sf d ac M0 M) {i : Int} (h0 : 0 ≤ i) : 0 ≤ M 45 i ∧ M 45 i ≤ 8 := h.1 45 i h0
theorem t_46_1 (h : Sf d ac M0 M) : -2147483648 ≤ M 46 1 ∧ M 46 1 ≤ 2147483647 := h.1 46 1 (by decide)
theorem t_48_1 (h : Sf d ac M0 M) : -2147483648 ≤ M 48 1 ∧ M 48 1 ≤ 2147483647 := h.1 48 1 (by decide)
theorem t_47 (h : Sf d ac M0 M) {i : Int} (h0 : 0 ≤ i) : -9223372036854775808 ≤ M 47 i ∧ M 47 i ≤ 9223372036854775807 := h.1 47 i h0
theorem t_49 (h : Sf d ac M0 M) {i : Int} (h0 : 0 ≤ i) : -9223372036854775808 ≤ M 49 i ∧ M 49 i ≤ 9223372036854775807 := h.1 49 i h0
theorem t_52_1 (h : Sf d ac M0 M) : d * d ≤ M 52 1 ∧ M 52 1 ≤ d * d := h.1 52 1 (by decide)
theorem t_52_2 (h : Sf d ac M0 M) : d ≤ M 52 2 ∧ M 52 2 ≤ d := h.1 52 2 (by decide)
theorem t_52_3 (h : Sf d ac M0 M) : 1 ≤ M 52 3 ∧ M 52 3 ≤ 1 := h.1 52 3 (by decide)
theorem t_53 (h : Sf d ac M0 M) {i : Int} (h0 : 0 ≤ i) : 0 ≤ M 53 i ∧ M 53 i ≤ 26 := h.1 53 i h0
theorem t_54 (h : Sf d ac M0 M) {i : Int} (h0 : 0 ≤ i) : 0 ≤ M 54 i ∧ M 54 i ≤ 2 := h.1 54 i h0
theorem t_112_0 (h : Sf d ac M0 M) : 2 ≤ M 112 0 ∧ M 112 0 ≤ 3 := h.1 112 0 (by decide)
theorem t_112_4 (h : Sf d ac M0 M) : 0 ≤ M 112 4 ∧ M 112 4 ≤ 8 := h.1 112 4 (by decide)
theorem t_112_7 (h : Sf d ac M0 M) : 0 ≤ M 112 7 ∧ M 112 7 ≤ 12 := h.1 112 7 (by decide)
theorem t_112_10 (h : Sf d ac M0 M) : 1 ≤ M 112 10 ∧ M 112 10 ≤ 8 := h.1 112 10 (by decide)
theorem t_112_11 (h : Sf d ac M0 M) : 0 ≤ M 112 11 ∧ M 112 11 ≤ 30 := h.1 112 11 (by decide)
theorem t_112_20 (h : Sf d ac M0 M) : -1 ≤ M 112 20 ∧ M 112 20 ≤ 4095 := h.1 112 20 (by decide)
theorem t_112_21 (h : Sf d ac M0 M) : 0 ≤ M 112 21 ∧ M 112 21 ≤ 3 := h.1 112 21 (by decide)
theorem t_112_22 (h : Sf d ac M0 M) : 0 ≤ M 112 22 ∧ M 112 22 ≤ 19683 := h.1 112 22 (by decide)
theorem t_113 (h : Sf d ac M0 M) {i : Int} (h0 : 0 ≤ i) : 0 ≤ M 113 i ∧ M 113 i ≤ 41 := h.1 113 i h0
theorem t_114 (h : Sf d ac M0 M) {i : Int} (h0 : 0 ≤ i) : 0 ≤ M 114 i ∧ M 114 i ≤ 3 := h.1 114 i h0
theorem t_115 (h : Sf d ac M0 M) {i : Int} (h0 : 0 ≤ i) : -9223372036854775808 ≤ M 115 i ∧ M 115 i ≤ 9223372036854775807 := h.1 115 i h0
theorem t_116 (h : Sf d ac M0 M) {i : Int} (h0 : 0 ≤ i) : 0 ≤ M 116 i ∧ M 116 i ≤ 3 := h.1 116 i h0
theorem t_117 (h : Sf d ac M0 M) {i : Int} (h0 : 0 ≤ i) : 0 ≤ M 117 i ∧ M 117 i ≤ 2 := h.1 117 i h0
theorem t_118 (h : Sf d ac M0 M) {i : Int} (h0 : 0 ≤ i) : 0 ≤ M 118 i ∧ M 118 i ≤ 3 := h.1 118 i h0
theorem t_119 (h : Sf d ac M0 M) {i : Int} (h0 : 0 ≤ i) : 0 ≤ M 119 i ∧ M 119 i ≤ 134217727 := h.1 119 i h0
theorem t_120 (h : Sf d ac M0 M) {i : Int} (h0 : 0 ≤ i) : 0 ≤ M 120 i ∧ M 120 i ≤ 11 := h.1 120 i h0
theorem t_121 (h : Sf d ac M0 M) {i : Int} (h0 : 0 ≤ i) : -2147483648 ≤ M 121 i ∧ M 121 i ≤ 2147483647 := h.1 121 i h0
theorem t_122 (h : Sf d ac M0 M) {i : Int} (h0 : 0 ≤ i) : 0 ≤ M 122 i ∧ M 122 i ≤ 19682 := h.1 122 i h0
theorem t_123 (h : Sf d ac M0 M) {i : Int} (h0 : 0 ≤ i) : 0 ≤ M 123 i ∧ M 123 i ≤ 1000000 := h.1 123 i h0
theorem t_124 (h : Sf d ac M0 M) {i : Int} (h0 : 0 ≤ i) : -8 ≤ M 124 i ∧ M 124 i ≤ 256 := h.1 124 i h0
theorem t_125 (h : Sf d ac M0 M) {i : Int} (h0 : 0 ≤ i) : -1 ≤ M 125 i ∧ M 125 i ≤ 1000001 := h.1 125 i h0
theorem t_126 (h : Sf d ac M0 M) {i : Int} (h0 : 0 ≤ i) : 0 ≤ M 126 i ∧ M 126 i ≤ 2 := h.1 126 i h0
theorem t_127 (h : Sf d ac M0 M) {i : Int} (h0 : 0 ≤ i) : 0 ≤ M 127 i ∧ M 127 i ≤ 2 := h.1 127 i h0
theorem t_128 (h : Sf d ac M0 M) {i : Int} (h0 : 0 ≤ i) : 0 ≤ M 128 i ∧ M 128 i ≤ 19682 := h.1 128 i h0
theorem t_129 (h : Sf d ac M0 M) {i : Int} (h0 : 0 ≤ i) : 0 ≤ M 129 i ∧ M 129 i ≤ 7 := h.1 129 i h0
theorem w_3_18 {z : Int} (hz : 0 ≤ z ∧ z ≤ 1) : Wok d ac 3 18 z := ⟨by omega, hz, by unfold core; omega, by omega, by omega, by omega⟩
theorem w_15_0 {z : Int} (hz : 4 ≤ z ∧ z ≤ 16) : Wok d ac 15 0 z := ⟨by omega, hz, by unfold core; omega, by omega, by omega, by omega⟩
theorem w_15_10 {z : Int} (hz : 0 ≤ z ∧ z ≤ 257) : Wok d ac 15 10 z := ⟨by omega, hz, by unfold core; omega, by omega, by omega, by omega⟩
theorem w_15_11 {z : Int} (hz : -2147483648 ≤ z ∧ z ≤ 2147483647) : Wok d ac 15 11 z := ⟨by omega, hz, by unfold core; omega, by omega, by omega, by omega⟩
theorem w_20 {i z : Int} (h0 : 0 ≤ i) (hz : 0 ≤ z ∧ z ≤ 19682) : Wok d ac 20 i z := ⟨h0, hz, by unfold core; omega, by omega, by omega, by omega⟩
theorem w_21 {i z : Int} (h0 : 0 ≤ i) (hz : -2147483648 ≤ z ∧ z ≤ 2147483647) : Wok d ac 21 i z := ⟨h0, hz, by unfold core; omega, by omega, by omega, by omega⟩
theorem w_22 {i z : Int} (h0 : 0 ≤ i) (hz : 0 ≤ z ∧ z ≤ 26) : Wok d ac 22 i z := ⟨h0, hz, by unfold core; omega, by omega, by omega, by omega⟩
theorem w_23 {i z : Int} (h0 : 0 ≤ i) (hz : 0 ≤ z ∧ z ≤ 26) : Wok d ac 23 i z := ⟨h0, hz, by unfold core; omega, by omega, by omega, by omega⟩
theorem w_24 {i z : Int} (h0 : 0 ≤ i) (hz : 0 ≤ z ∧ z ≤ 26) : Wok d ac 24 i z := ⟨h0, hz, by unfold core; omega, by omega, by omega, by omega⟩
theorem w_25_1 {z : Int} (hz : -2147483648 ≤ z ∧ z ≤ 2147483647) : Wok d ac 25 1 z := ⟨by omega, hz, by unfold core; omega, by omega, by omega, by omega⟩
theorem w_25_2 {z : Int} (hz : -2147483648 ≤ z ∧ z ≤ 2147483647) : Wok d ac 25 2 z := ⟨by omega, hz, by unfold core; omega, by omega, by omega, by omega⟩
theorem w_25_3 {z : Int} (hz : -2147483648 ≤ z ∧ z ≤ 2147483647) : Wok d ac 25 3 z := ⟨by omega, hz, by unfold core; omega, by omega, by omega, by omega⟩
theorem w_27_1 {z : Int} (hz : -2147483648 ≤ z ∧ z ≤ 2147483647) : Wok d ac 27 1 z := ⟨by omega, hz, by unfold core; omega, by omega, by omega, by omega⟩
theorem w_27_2 {z : Int} (hz : -2147483648 ≤ z ∧ z ≤ 2147483647) : Wok d ac 27 2 z := ⟨by omega, hz, by unfold core; omega, by omega, by omega, by omega⟩
theorem w_27_3 {z : Int} (hz : -2147483648 ≤ z ∧ z ≤ 2147483647) : Wok d ac 27 3 z := ⟨by omega, hz, by unfold core; omega, by omega, by omega, by omega⟩
theorem w_29_1 {z : Int} (hz : -2147483648 ≤ z ∧ z ≤ 2147483647) : Wok d ac 29 1 z := ⟨by omega, hz, by unfold core; omega, by omega, by omega, by omega⟩
theorem w_29_2 {z : Int} (hz : -2147483648 ≤ z ∧ z ≤ 2147483647) : Wok d ac 29 2 z := ⟨by omega, hz, by unfold core; omega, by omega, by omega, by omega⟩
theorem w_29_3 {z : Int} (hz : -2147483648 ≤ z ∧ z ≤ 2147483647) : Wok d ac 29 3 z := ⟨by omega, hz, by unfold core; omega, by omega, by omega, by omega⟩
theorem w_26 {i z : Int} (h0 : 0 ≤ i) (hz : -2147483648 ≤ z ∧ z ≤ 2147483647) : Wok d ac 26 i z := ⟨h0, hz, by unfold core; omega, by omega, by omega, by omega⟩
theorem w_28 {i z : Int} (h0 : 0 ≤ i) (hz : -2147483648 ≤ z ∧ z ≤ 2147483647) : Wok d ac 28 i z := ⟨h0, hz, by unfold core; omega, by omega, by omega, by omega⟩
theorem w_30 {i z : Int} (h0 : 0 ≤ i) (hz : -2147483648 ≤ z ∧ z ≤ 2147483647) : Wok d ac 30 i z := ⟨h0, hz, by unfold core; omega, by omega, by omega, by omega⟩
theorem w_31 {i z : Int} (h0 : 0 ≤ i) (hz : 0 ≤ z ∧ z ≤ 257) : Wok d ac 31 i z := ⟨h0, hz, by unfold core; omega, by omega, by omega, by omega⟩
theorem w_130 {i z : Int} (h0 : 0 ≤ i) (hz : 0 ≤ z ∧ z ≤ 257) : Wok d ac 130 i z := ⟨h0, hz, by unfold core; omega, by omega, by omega, by omega⟩
theorem w_37 {i z : Int} (h0 : 0 ≤ i) (hz : -2147483648 ≤ z ∧ z ≤ 2147483647) : Wok d ac 37 i z := ⟨h0, hz, by unfold core; omega, by omega, by omega, by omega⟩
theorem w_38_5 {z : Int} (hz : 0 ≤ z ∧ z ≤ 3) : Wok d ac 38 5 z := ⟨by omega, hz, by unfold core; omega, by omega, by omega, by omega⟩
theorem w_38_6 {z : Int} (hz : 0 ≤ z ∧ z ≤ 9) : Wok d ac 38 6 z := ⟨by omega, hz, by unfold core; omega, by omega, by omega, by omega⟩
theorem w_38_7 {z : Int} (hz : -2147483648 ≤ z ∧ z ≤ 2147483647) : Wok d ac 38 7 z := ⟨by omega, hz, by unfold core; omega, by omega, by omega, by omega⟩
theorem w_39 {i z : Int} (h0 : 0 ≤ i) (hz : 0 ≤ z ∧ z ≤ 2) : Wok d ac 39 i z := ⟨h0, hz, by unfold core; omega, by omega, by omega, by omega⟩
theorem w_40 {i z : Int} (h0 : 0 ≤ i) (hz : -2147483648 ≤ z ∧ z ≤ 2147483647) : Wok d ac 40 i z := ⟨h0, hz, by unfold core; omega, by omega, by omega, by omega⟩
theorem w_42 {i z : Int} (h0 : 0 ≤ i) (hz : -2147483648 ≤ z ∧ z ≤ 2147483647) : Wok d ac 42 i z := ⟨h0, hz, by unfold core; omega, by omega, by omega, by omega⟩
theorem w_43 {i z : Int} (h0 : 0 ≤ i) (hz : 0 ≤ z ∧ z ≤ 729) : Wok d ac 43 i z := ⟨h0, hz, by unfold core; omega, by omega, by omega, by omega⟩
theorem w_44_0 {z : Int} (hz : 0 ≤ z ∧ z ≤ 3) : Wok d ac 44 0 z := ⟨by omega, hz, by unfold core; omega, by omega, by omega, by omega⟩
theorem w_44_1 {z : Int} (hz : 0 ≤ z ∧ z ≤ 3) : Wok d ac 44 1 z := ⟨by omega, hz, by unfold core; omega, by omega, by omega, by omega⟩
theorem w_44_2 {z : Int} (hz : 0 ≤ z ∧ z ≤ 9) : Wok d ac 44 2 z := ⟨by omega, hz, by unfold core; omega, by omega, by omega, by omega⟩
theorem w_44_3 {z : Int} (hz : 0 ≤ z ∧ z ≤ 1) : Wok d ac 44 3 z := ⟨by omega, hz, by unfold core; omega, by omega, by omega, by omega⟩
theorem w_44_5 {z : Int} (hz : 2 ≤ z ∧ z ≤ 3) : Wok d ac 44 5 z := ⟨by omega, hz, by unfold core; omega, by omega, by omega, by omega⟩
theorem w_45 {i z : Int} (h0 : 0 ≤ i) (hz : 0 ≤ z ∧ z ≤ 8) : Wok d ac 45 i z := ⟨h0, hz, by unfold core; omega, by omega, by omega, by omega⟩
theorem w_48_1 {z : Int} (hz : -2147483648 ≤ z ∧ z ≤ 2147483647) : Wok d ac 48 1 z := ⟨by omega, hz, by unfold core; omega, by omega, by omega, by omega⟩
theorem w_49 {i z : Int} (h0 : 0 ≤ i) (hz : -9223372036854775808 ≤ z ∧ z ≤ 9223372036854775807) : Wok d ac 49 i z := ⟨h0, hz, by unfold core; omega, by omega, by omega, by omega⟩
theorem w_52_1 {z : Int} (hz : d * d ≤ z ∧ z ≤ d * d) : Wok d ac 52 1 z := ⟨by omega, hz, by unfold core; omega, by omega, by omega, by omega⟩
theorem w_52_2 {z : Int} (hz : d ≤ z ∧ z ≤ d) : Wok d ac 52 2 z := ⟨by omega, hz, by unfold core; omega, by omega, by omega, by omega⟩
theorem w_52_3 {z : Int} (hz : 1 ≤ z ∧ z ≤ 1) : Wok d ac 52 3 z := ⟨by omega, hz, by unfold core; omega, by omega, by omega, by omega⟩
theorem w_53 {i z : Int} (h0 : 0 ≤ i) (hz : 0 ≤ z ∧ z ≤ 26) : Wok d ac 53 i z := ⟨h0, hz, by unfold core; omega, by omega, by omega, by omega⟩
theorem w_54 {i z : Int} (h0 : 0 ≤ i) (hz : 0 ≤ z ∧ z ≤ 2) : Wok d ac 54 i z := ⟨h0, hz, by unfold core; omega, by omega, by omega, by omega⟩
theorem w_122 {i z : Int} (h0 : 0 ≤ i) (hz : 0 ≤ z ∧ z ≤ 19682) : Wok d ac 122 i z := ⟨h0, hz, by unfold core; omega, by omega, by omega, by omega⟩
theorem w_123 {i z : Int} (h0 : 0 ≤ i) (hz : 0 ≤ z ∧ z ≤ 1000000) : Wok d ac 123 i z := ⟨h0, hz, by unfold core; omega, by omega, by omega, by omega⟩
theorem w_124 {i z : Int} (h0 : 0 ≤ i) (hz : -8 ≤ z ∧ z ≤ 256) : Wok d ac 124 i z := ⟨h0, hz, by unfold core; omega, by omega, by omega, by omega⟩
theorem w_125 {i z : Int} (h0 : 0 ≤ i) (hz : -1 ≤ z ∧ z ≤ 1000001) : Wok d ac 125 i z := ⟨h0, hz, by unfold core; omega, by omega, by omega, by omega⟩
theorem w_126 {i z : Int} (h0 : 0 ≤ i) (hz : 0 ≤ z ∧ z ≤ 2) : Wok d ac 126 i z := ⟨h0, hz, by unfold core; omega, by omega, by omega, by omega⟩
theorem w_127 {i z : Int} (h0 : 0 ≤ i) (hz : 0 ≤ z ∧ z ≤ 2) : Wok d ac 127 i z := ⟨h0, hz, by unfold core; omega, by omega, by omega, by omega⟩
theorem w_129 {i z : Int} (h0 : 0 ≤ i) (hz : 0 ≤ z ∧ z ≤ 7) : Wok d ac 129 i z := ⟨h0, hz, by unfold core; omega, by omega, by omega, by omega⟩
theorem m_3_14 {z : Int} (hz : ac ≤ z ∧ z ≤ ac) : Mok d ac 3 14 z := ⟨by omega, hz, by omega, by omega, by omega, by omega, by omega, by omega, by omega⟩
theorem m_3_15 {z : Int} (hz : 0 ≤ z ∧ z ≤ 12) : Mok d ac 3 15 z := ⟨by omega, hz, by omega, by omega, by omega, by omega, by omega, by omega, by omega⟩
theorem m_3_16 {z : Int} (hz : -2147483648 ≤ z ∧ z ≤ 2147483647) : Mok d ac 3 16 z := ⟨by omega, hz, by omega, by omega, by omega, by omega, by omega, by omega, by omega⟩
theorem m_3_17 {z : Int} (hz : 0 ≤ z ∧ z ≤ 3) : Mok d ac 3 17 z := ⟨by omega, hz, by omega, by omega, by omega, by omega, by omega, by omega, by omega⟩
theorem m_3_18 {z : Int} (hz : 0 ≤ z ∧ z ≤ 1) : Mok d ac 3 18 z := ⟨by omega, hz, by omega, by omega, by omega, by omega, by omega, by omega, by omega⟩
theorem m_4_0 {z : Int} (hz : d ≤ z ∧ z ≤ d) : Mok d ac 4 0 z := ⟨by omega, hz, by omega, by omega, by omega, by omega, by omega, by omega, by omega⟩
theorem m_4_1 {z : Int} (hz : d * d * d ≤ z ∧ z ≤ d * d * d) : Mok d ac 4 1 z := ⟨by omega, hz, by omega, by omega, by omega, by omega, by omega, by omega, by omega⟩
theorem m_9 {i z : Int} (h0 : 0 ≤ i) (hz : -9223372036854775808 ≤ z ∧ z ≤ 9223372036854775807) : Mok d ac 9 i z := ⟨h0, hz, by omega, by omega, by omega, by omega, by omega, by omega, by omega⟩
theorem m_10 {i z : Int} (h0 : 0 ≤ i) (hz : 0 ≤ z ∧ z ≤ 3) : Mok d ac 10 i z := ⟨h0, hz, by omega, by omega, by omega, by omega, by omega, by omega, by omega⟩
theorem m_11 {i z : Int} (h0 : 0 ≤ i) (hz : -1 ≤ z ∧ z ≤ 40) : Mok d ac 11 i z := ⟨h0, hz, by omega, by omega, by omega, by omega, by omega, by omega, by omega⟩
theorem m_15_0 {z : Int} (hz : 4 ≤ z ∧ z ≤ 16) : Mok d ac 15 0 z := ⟨by omega, hz, by omega, by omega, by omega, by omega, by omega, by omega, by omega⟩
theorem m_15_10 {z : Int} (hz : 0 ≤ z ∧ z ≤ 257) : Mok d ac 15 10 z := ⟨by omega, hz, by omega, by omega, by omega, by omega, by omega, by omega, by omega⟩
theorem m_15_11 {z : Int} (hz : -2147483648 ≤ z ∧ z ≤ 2147483647) : Mok d ac 15 11 z := ⟨by omega, hz, by omega, by omega, by omega, by omega, by omega, by omega, by omega⟩
theorem m_20 {i z : Int} (h0 : 0 ≤ i) (hz : 0 ≤ z ∧ z ≤ 19682) : Mok d ac 20 i z := ⟨h0, hz, by omega, by omega, by omega, by omega, by omega, by omega, by omega⟩
theorem m_21 {i z : Int} (h0 : 0 ≤ i) (hz : -2147483648 ≤ z ∧ z ≤ 2147483647) : Mok d ac 21 i z := ⟨h0, hz, by omega, by omega, by omega, by omega, by omega, by omega, by omega⟩
theorem m_22 {i z : Int} (h0 : 0 ≤ i) (hz : 0 ≤ z ∧ z ≤ 26) : Mok d ac 22 i z := ⟨h0, hz, by omega, by omega, by omega, by omega, by omega, by omega, by omega⟩
theorem m_23 {i z : Int} (h0 : 0 ≤ i) (hz : 0 ≤ z ∧ z ≤ 26) : Mok d ac 23 i z := ⟨h0, hz, by omega, by omega, by omega, by omega, by omega, by omega, by omega⟩
theorem m_24 {i z : Int} (h0 : 0 ≤ i) (hz : 0 ≤ z ∧ z ≤ 26) : Mok d ac 24 i z := ⟨h0, hz, by omega, by omega, by omega, by omega, by omega, by omega, by omega⟩
theorem m_25_1 {z : Int} (hz : -2147483648 ≤ z ∧ z ≤ 2147483647) : Mok d ac 25 1 z := ⟨by omega, hz, by omega, by omega, by omega, by omega, by omega, by omega, by omega⟩
theorem m_25_2 {z : Int} (hz : -2147483648 ≤ z ∧ z ≤ 2147483647) : Mok d ac 25 2 z := ⟨by omega, hz, by omega, by omega, by omega, by omega, by omega, by omega, by omega⟩
theorem m_25_3 {z : Int} (hz : -2147483648 ≤ z ∧ z ≤ 2147483647) : Mok d ac 25 3 z := ⟨by omega, hz, by omega, by omega, by omega, by omega, by omega, by omega, by omega⟩
theorem m_27_1 {z : Int} (hz : -2147483648 ≤ z ∧ z ≤ 2147483647) : Mok d ac 27 1 z := ⟨by omega, hz, by omega, by omega, by omega, by omega, by omega, by omega, by omega⟩
theorem m_27_2 {z : Int} (hz : -2147483648 ≤ z ∧ z ≤ 2147483647) : Mok d ac 27 2 z := ⟨by omega, hz, by omega, by omega, by omega, by omega, by omega, by omega, by omega⟩
theorem m_27_3 {z : Int} (hz : -2147483648 ≤ z ∧ z ≤ 2147483647) : Mok d ac 27 3 z := ⟨by omega, hz, by omega, by omega, by omega, by omega, by omega, by omega, by omega⟩
theorem m_29_1 {z : Int} (hz : -2147483648 ≤ z ∧ z ≤ 2147483647) : Mok d ac 29 1 z := ⟨by omega, hz, by omega, by omega, by omega, by omega, by omega, by omega, by omega⟩
theorem m_29_2 {z : Int} (hz : -2147483648 ≤ z ∧ z ≤ 2147483647) : Mok d ac 29 2 z := ⟨by omega, hz, by omega, by omega, by omega, by omega, by omega, by omega, by omega⟩
theorem m_29_3 {z : Int} (hz : -2147483648 ≤ z ∧ z ≤ 2147483647) : Mok d ac 29 3 z := ⟨by omega, hz, by omega, by omega, by omega, by omega, by omega, by omega, by omega⟩
theorem m_26 {i z : Int} (h0 : 0 ≤ i) (hz : -2147483648 ≤ z ∧ z ≤ 2147483647) : Mok d ac 26 i z := ⟨h0, hz, by omega, by omega, by omega, by omega, by omega, by omega, by omega⟩
theorem m_28 {i z : Int} (h0 : 0 ≤ i) (hz : -2147483648 ≤ z ∧ z ≤ 2147483647) : Mok d ac 28 i z := ⟨h0, hz, by omega, by omega, by omega, by omega, by omega, by omega, by omega⟩
theorem m_30 {i z : Int} (h0 : 0 ≤ i) (hz : -2147483648 ≤ z ∧ z ≤ 2147483647) : Mok d ac 30 i z := ⟨h0, hz, by omega, by omega, by omega, by omega, by omega, by omega, by omega⟩
theorem m_31 {i z : Int} (h0 : 0 ≤ i) (hz : 0 ≤ z ∧ z ≤ 257) : Mok d ac 31 i z := ⟨h0, hz, by omega, by omega, by omega, by omega, by omega, by omega, by omega⟩
theorem m_130 {i z : Int} (h0 : 0 ≤ i) (hz : 0 ≤ z ∧ z ≤ 257) : Mok d ac 130 i z := ⟨h0, hz, by omega, by omega, by omega, by omega, by omega, by omega, by omega⟩
theorem m_32_0 {z : Int} (hz : 1 ≤ z ∧ z ≤ 8) : Mok d ac 32 0 z := ⟨by omega, hz, by omega, by omega, by omega, by omega, by omega, by omega, by omega⟩
theorem m_32_1 {z : Int} (hz : 0 ≤ z ∧ z ≤ 30) : Mok d ac 32 1 z := ⟨by omega, hz, by omega, by omega, by omega, by omega, by omega, by omega, by omega⟩
theorem m_33 {i z : Int} (h0 : 0 ≤ i) (hz : 0 ≤ z ∧ z ≤ 11) : Mok d ac 33 i z := ⟨h0, hz, by omega, by omega, by omega, by omega, by omega, by omega, by omega⟩
theorem m_34 {i z : Int} (h0 : 0 ≤ i) (hz : 0 ≤ z ∧ z ≤ 7) : Mok d ac 34 i z := ⟨h0, hz, by omega, by omega, by omega, by omega, by omega, by omega, by omega⟩
theorem m_35 {i z : Int} (h0 : 0 ≤ i) (hz : 0 ≤ z ∧ z ≤ 7) : Mok d ac 35 i z := ⟨h0, hz, by omega, by omega, by omega, by omega, by omega, by omega, by omega⟩
theorem m_36 {i z : Int} (h0 : 0 ≤ i) (hz : 0 ≤ z ∧ z ≤ 7) : Mok d ac 36 i z := ⟨h0, hz, by omega, by omega, by omega, by omega, by omega, by omega, by omega⟩
theorem m_37 {i z : Int} (h0 : 0 ≤ i) (hz : -2147483648 ≤ z ∧ z ≤ 2147483647) : Mok d ac 37 i z := ⟨h0, hz, by omega, by omega, by omega, by omega, by omega, by omega, by omega⟩
theorem m_38_5 {z : Int} (hz : 0 ≤ z ∧ z ≤ 3) : Mok d ac 38 5 z := ⟨by omega, hz, by omega, by omega, by omega, by omega, by omega, by omega, by omega⟩
theorem m_38_6 {z : Int} (hz : 0 ≤ z ∧ z ≤ 9) : Mok d ac 38 6 z := ⟨by omega, hz, by omega, by omega, by omega, by omega, by omega, by omega, by omega⟩
theorem m_38_7 {z : Int} (hz : -2147483648 ≤ z ∧ z ≤ 2147483647) : Mok d ac 38 7 z := ⟨by omega, hz, by omega, by omega, by omega, by omega, by omega, by omega, by omega⟩
theorem m_39 {i z : Int} (h0 : 0 ≤ i) (hz : 0 ≤ z ∧ z ≤ 2) : Mok d ac 39 i z := ⟨h0, hz, by omega, by omega, by omega, by omega, by omega, by omega, by omega⟩
theorem m_40 {i z : Int} (h0 : 0 ≤ i) (hz : -2147483648 ≤ z ∧ z ≤ 2147483647) : Mok d ac 40 i z := ⟨h0, hz, by omega, by omega, by omega, by omega, by omega, by omega, by omega⟩
theorem m_42 {i z : Int} (h0 : 0 ≤ i) (hz : -2147483648 ≤ z ∧ z ≤ 2147483647) : Mok d ac 42 i z := ⟨h0, hz, by omega, by omega, by omega, by omega, by omega, by omega, by omega⟩
theorem m_43 {i z : Int} (h0 : 0 ≤ i) (hz : 0 ≤ z ∧ z ≤ 729) : Mok d ac 43 i z := ⟨h0, hz, by omega, by omega, by omega, by omega, by omega, by omega, by omega⟩
theorem m_44_0 {z : Int} (hz : 0 ≤ z ∧ z ≤ 3) : Mok d ac 44 0 z := ⟨by omega, hz, by omega, by omega, by omega, by omega, by omega, by omega, by omega⟩
theorem m_44_1 {z : Int} (hz : 0 ≤ z ∧ z ≤ 3) : Mok d ac 44 1 z := ⟨by omega, hz, by omega, by omega, by omega, by omega, by omega, by omega, by omega⟩
theorem m_44_2 {z : Int} (hz : 0 ≤ z ∧ z ≤ 9) : Mok d ac 44 2 z := ⟨by omega, hz, by omega, by omega, by omega, by omega, by omega, by omega, by omega⟩
theorem m_44_3 {z : Int} (hz : 0 ≤ z ∧ z ≤ 1) : Mok d ac 44 3 z := ⟨by omega, hz, by omega, by omega, by omega, by omega, by omega, by omega, by omega⟩
theorem m_44_5 {z : Int} (hz : 2 ≤ z ∧ z ≤ 3) : Mok d ac 44 5 z := ⟨by omega, hz, by omega, by omega, by omega, by omega, by omega, by omega, by omega⟩
theorem m_45 {i z : Int} (h0 : 0 ≤ i) (hz : 0 ≤ z ∧ z ≤ 8) : Mok d ac 45 i z := ⟨h0, hz, by omega, by omega, by omega, by omega, by omega, by omega, by omega⟩
theorem m_46_1 {z : Int} (hz : -2147483648 ≤ z ∧ z ≤ 2147483647) : Mok d ac 46 1 z := ⟨by omega, hz, by omega, by omega, by omega, by omega, by omega, by omega, by omega⟩
theorem m_48_1 {z : Int} (hz : -2147483648 ≤ z ∧ z ≤ 2147483647) : Mok d ac 48 1 z := ⟨by omega, hz, by omega, by omega, by omega, by omega, by omega, by omega, by omega⟩
theorem m_47 {i z : Int} (h0 : 0 ≤ i) (hz : -9223372036854775808 ≤ z ∧ z ≤ 9223372036854775807) : Mok d ac 47 i z := ⟨h0, hz, by omega, by omega, by omega, by omega, by omega, by omega, by omega⟩
theorem m_49 {i z : Int} (h0 : 0 ≤ i) (hz : -9223372036854775808 ≤ z ∧ z ≤ 9223372036854775807) : Mok d ac 49 i z := ⟨h0, hz, by omega, by omega, by omega, by omega, by omega, by omega, by omega⟩
theorem m_52_1 {z : Int} (hz : d * d ≤ z ∧ z ≤ d * d) : Mok d ac 52 1 z := ⟨by omega, hz, by omega, by omega, by omega, by omega, by omega, by omega, by omega⟩
theorem m_52_2 {z : Int} (hz : d ≤ z ∧ z ≤ d) : Mok d ac 52 2 z := ⟨by omega, hz, by omega, by omega, by omega, by omega, by omega, by omega, by omega⟩
theorem m_52_3 {z : Int} (hz : 1 ≤ z ∧ z ≤ 1) : Mok d ac 52 3 z := ⟨by omega, hz, by omega, by omega, by omega, by omega, by omega, by omega, by omega⟩
theorem m_53 {i z : Int} (h0 : 0 ≤ i) (hz : 0 ≤ z ∧ z ≤ 26) : Mok d ac 53 i z := ⟨h0, hz, by omega, by omega, by omega, by omega, by omega, by omega, by omega⟩
theorem m_54 {i z : Int} (h0 : 0 ≤ i) (hz : 0 ≤ z ∧ z ≤ 2) : Mok d ac 54 i z := ⟨h0, hz, by omega, by omega, by omega, by omega, by omega, by omega, by omega⟩
theorem m_112_0 {z : Int} (hz : 2 ≤ z ∧ z ≤ 3) : Mok d ac 112 0 z := ⟨by omega, hz, by omega, by omega, by omega, by omega, by omega, by omega, by omega⟩
theorem m_112_4 {z : Int} (hz : 0 ≤ z ∧ z ≤ 8) : Mok d ac 112 4 z := ⟨by omega, hz, by omega, by omega, by omega, by omega, by omega, by omega, by omega⟩
theorem m_112_20 {z : Int} (hz : -1 ≤ z ∧ z ≤ 4095) : Mok d ac 112 20 z := ⟨by omega, hz, by omega, by omega, by omega, by omega, by omega, by omega, by omega⟩
theorem m_112_21 {z : Int} (hz : 0 ≤ z ∧ z ≤ 3) : Mok d ac 112 21 z := ⟨by omega, hz, by omega, by omega, by omega, by omega, by omega, by omega, by omega⟩
theorem m_112_22 {z : Int} (hz : 0 ≤ z ∧ z ≤ 19683) : Mok d ac 112 22 z := ⟨by omega, hz, by omega, by omega, by omega, by omega, by omega, by omega, by omega⟩
theorem m_113 {i z : Int} (h0 : 0 ≤ i) (hz : 0 ≤ z ∧ z ≤ 41) : Mok d ac 113 i z := ⟨h0, hz, by omega, by omega, by omega, by omega, by omega, by omega, by omega⟩
theorem m_114 {i z : Int} (h0 : 0 ≤ i) (hz : 0 ≤ z ∧ z ≤ 3) : Mok d ac 114 i z := ⟨h0, hz, by omega, by omega, by omega, by omega, by omega, by omega, by omega⟩
theorem m_115 {i z : Int} (h0 : 0 ≤ i) (hz : -9223372036854775808 ≤ z ∧ z ≤ 9223372036854775807) : Mok d ac 115 i z := ⟨h0, hz, by omega, by omega, by omega, by omega, by omega, by omega, by omega⟩
theorem m_116 {i z : Int} (h0 : 0 ≤ i) (hz : 0 ≤ z ∧ z ≤ 3) : Mok d ac 116 i z := ⟨h0, hz, by omega, by omega, by omega, by omega, by omega, by omega, by omega⟩
theorem m_117 {i z : Int} (h0 : 0 ≤ i) (hz : 0 ≤ z ∧ z ≤ 2) : Mok d ac 117 i z := ⟨h0, hz, by omega, by omega, by omega, by omega, by omega, by omega, by omega⟩
theorem m_119 {i z : Int} (h0 : 0 ≤ i) (hz : 0 ≤ z ∧ z ≤ 134217727) : Mok d ac 119 i z := ⟨h0, hz, by omega, by omega, by omega, by omega, by omega, by omega, by omega⟩
theorem m_122 {i z : Int} (h0 : 0 ≤ i) (hz : 0 ≤ z ∧ z ≤ 19682) : Mok d ac 122 i z := ⟨h0, hz, by omega, by omega, by omega, by omega, by omega, by omega, by omega⟩
theorem m_123 {i z : Int} (h0 : 0 ≤ i) (hz : 0 ≤ z ∧ z ≤ 1000000) : Mok d ac 123 i z := ⟨h0, hz, by omega, by omega, by omega, by omega, by omega, by omega, by omega⟩
theorem m_124 {i z : Int} (h0 : 0 ≤ i) (hz : -8 ≤ z ∧ z ≤ 256) : Mok d ac 124 i z := ⟨h0, hz, by omega, by omega, by omega, by omega, by omega, by omega, by omega⟩
theorem m_125 {i z : Int} (h0 : 0 ≤ i) (hz : -1 ≤ z ∧ z ≤ 1000001) : Mok d ac 125 i z := ⟨h0, hz, by omega, by omega, by omega, by omega, by omega, by omega, by omega⟩
theorem m_126 {i z : Int} (h0 : 0 ≤ i) (hz : 0 ≤ z ∧ z ≤ 2) : Mok d ac 126 i z := ⟨h0, hz, by omega, by omega, by omega, by omega, by omega, by omega, by omega⟩
theorem m_127 {i z : Int} (h0 : 0 ≤ i) (hz : 0 ≤ z ∧ z ≤ 2) : Mok d ac 127 i z := ⟨h0, hz, by omega, by omega, by omega, by omega, by omega, by omega, by omega⟩
theorem m_128 {i z : Int} (h0 : 0 ≤ i) (hz : 0 ≤ z ∧ z ≤ 19682) : Mok d ac 128 i z := ⟨h0, hz, by omega, by omega, by omega, by omega, by omega, by omega, by omega⟩
theorem m_129 {i z : Int} (h0 : 0 ≤ i) (hz : 0 ≤ z ∧ z ≤ 7) : Mok d ac 129 i z := ⟨h0, hz, by omega, by omega, by omega, by omega, by omega, by omega, by omega⟩
theorem m_law {q i z : Int} (hq : LawAt q) (hi : 0 ≤ i) (hz : (i = 0 ∧ 0 ≤ z ∧ z ≤ 3) ∨ (i = 3 ∧ 0 ≤ z ∧ z ≤ 27) ∨ (i ≠ 0 ∧ i ≠ 3 ∧ -2147483648 ≤ z ∧ z ≤ 2147483647)) : Mok d ac q i z := by
  unfold LawAt at hq
  have e : tb d ac q i = if i = 0 then (0, 3) else if i = 3 then (0, 27) else (-2147483648, 2147483647) := by
    unfold tb
    rw [if_neg (by omega), if_pos (by omega), if_pos (by omega)]
  refine ⟨hi, ?_, by omega, by omega, by omega, by omega, by omega, by omega, by omega⟩
  rw [e]
  rcases hz with ⟨rfl, h⟩ | ⟨rfl, h⟩ | ⟨h1, h2, h⟩
  · exact h
  · exact h
  · rw [if_neg h1, if_neg h2]
    exact h
theorem m_lawr {q i z : Int} (hq : LawAt q) (h0 : 0 ≤ i) (hz : 0 ≤ z ∧ z ≤ 26) : Mok d ac (q + 1) i z := by
  unfold LawAt at hq
  have e : tb d ac (q + 1) i = (0, 26) := by
    unfold tb
    rw [if_neg (by omega), if_pos (by omega), if_neg (by omega)]
  refine ⟨h0, ?_, by omega, by omega, by omega, by omega, by omega, by omega, by omega⟩
  rw [e]
  exact hz
theorem t_dm {v : Int} (h : Sf d ac M0 M) (hm : M0 112 0 = v) : v ≤ M 112 0 ∧ M 112 0 ≤ v := by
  have h1 := h.2.2.2.1.1 112 0 (by unfold core; omega)
  omega
theorem t_ask {q j : Int} (h : Sf d ac M0 M) (h0 : 0 ≤ q) (h1 : q < M 112 11) (h2 : 0 ≤ j) (h3 : j < M 118 (M 120 q)) : 0 ≤ M 121 (3 * q + j) ∧ M 121 (3 * q + j) < M 112 10 := ((h.2.2.2.1.2.of h.2.2.2.1.1) q h0 h1).2 j h2 h3
theorem t_ac (h : Sf d ac M0 M) : M 3 14 = ac := by
  have h1 := t_3_14 h
  omega
theorem t_3_14x (h : Sf d ac M0 M) : 0 ≤ M 3 14 ∧ M 3 14 ≤ 8 := by
  have h1 := t_3_14 h
  have h2 := h.2.2.2.2
  omega
theorem r_3_0 : nsr 3 0 = some 4 := by decide
theorem r_3_1 : nsr 3 1 = some 8 := by decide
theorem r_3_2 : nsr 3 2 = some 12 := by decide
theorem r_3_3 : nsr 3 3 = some 13 := by decide
theorem r_3_4 : nsr 3 4 = some 14 := by decide
theorem r_3_5 : nsr 3 5 = some 15 := by decide
theorem r_3_6 : nsr 3 6 = some 32 := by decide
theorem r_3_7 : nsr 3 7 = some 38 := by decide
theorem r_3_8 : nsr 3 8 = some 44 := by decide
theorem r_3_9 : nsr 3 9 = some 46 := by decide
theorem r_3_10 : nsr 3 10 = some 48 := by decide
theorem r_3_11 : nsr 3 11 = some 50 := by decide
theorem r_3_12 : nsr 3 12 = some 52 := by decide
theorem r_3_13 : nsr 3 13 = some 54 := by decide
theorem r_4_2 : nsr 4 2 = some 5 := by decide
theorem r_4_3 : nsr 4 3 = some 6 := by decide
theorem r_4_4 : nsr 4 4 = some 7 := by decide
theorem r_8_0 : nsr 8 0 = some 9 := by decide
theorem r_8_1 : nsr 8 1 = some 10 := by decide
theorem r_8_2 : nsr 8 2 = some 11 := by decide
theorem r_15_1 : nsr 15 1 = some 20 := by decide
theorem r_15_2 : nsr 15 2 = some 21 := by decide
theorem r_15_3 : nsr 15 3 = some 22 := by decide
theorem r_15_4 : nsr 15 4 = some 23 := by decide
theorem r_15_5 : nsr 15 5 = some 24 := by decide
theorem r_15_6 : nsr 15 6 = some 25 := by decide
theorem r_15_7 : nsr 15 7 = some 27 := by decide
theorem r_15_8 : nsr 15 8 = some 29 := by decide
theorem r_16_2 : nsr 16 2 = some 17 := by decide
theorem r_16_3 : nsr 16 3 = some 18 := by decide
theorem r_16_4 : nsr 16 4 = some 19 := by decide
theorem r_25_0 : nsr 25 0 = some 26 := by decide
theorem r_27_0 : nsr 27 0 = some 28 := by decide
theorem r_29_0 : nsr 29 0 = some 30 := by decide
theorem r_32_2 : nsr 32 2 = some 33 := by decide
theorem r_32_3 : nsr 32 3 = some 34 := by decide
theorem r_32_4 : nsr 32 4 = some 35 := by decide
theorem r_32_5 : nsr 32 5 = some 36 := by decide
theorem r_32_6 : nsr 32 6 = some 37 := by decide
theorem r_38_0 : nsr 38 0 = some 39 := by decide
theorem r_38_1 : nsr 38 1 = some 40 := by decide
theorem r_38_2 : nsr 38 2 = some 41 := by decide
theorem r_38_3 : nsr 38 3 = some 42 := by decide
theorem r_38_4 : nsr 38 4 = some 43 := by decide
theorem r_44_4 : nsr 44 4 = some 45 := by decide
theorem r_46_0 : nsr 46 0 = some 47 := by decide
theorem r_48_0 : nsr 48 0 = some 49 := by decide
theorem r_50_4 : nsr 50 4 = some 51 := by decide
theorem r_52_0 : nsr 52 0 = some 53 := by decide
theorem r_112_1 : nsr 112 1 = some 113 := by decide
theorem r_112_2 : nsr 112 2 = some 114 := by decide
theorem r_112_3 : nsr 112 3 = some 115 := by decide
theorem r_112_5 : nsr 112 5 = some 116 := by decide
theorem r_112_6 : nsr 112 6 = some 117 := by decide
theorem r_112_8 : nsr 112 8 = some 118 := by decide
theorem r_112_9 : nsr 112 9 = some 119 := by decide
theorem r_112_12 : nsr 112 12 = some 120 := by decide
theorem r_112_13 : nsr 112 13 = some 121 := by decide
theorem r_112_14 : nsr 112 14 = some 122 := by decide
theorem r_112_15 : nsr 112 15 = some 123 := by decide
theorem r_112_16 : nsr 112 16 = some 124 := by decide
theorem r_112_17 : nsr 112 17 = some 125 := by decide
theorem r_112_18 : nsr 112 18 = some 126 := by decide
theorem r_112_19 : nsr 112 19 = some 127 := by decide
theorem r_112_23 : nsr 112 23 = some 128 := by decide
theorem r_112_24 : nsr 112 24 = some 129 := by decide
theorem t_law {q : Int} (h : Sf d ac M0 M) (hq : LawAt q) : (0 ≤ M q 0 ∧ M q 0 ≤ 3) ∧ (-2147483648 ≤ M q 1 ∧ M q 1 ≤ 2147483647) ∧ (-2147483648 ≤ M q 2 ∧ M q 2 ≤ 2147483647) ∧ (0 ≤ M q 3 ∧ M q 3 ≤ 27) := by
  have e : ∀ i, tb d ac q i = if i = 0 then (0, 3) else if i = 3 then (0, 27) else (-2147483648, 2147483647) := fun i => by
    unfold tb
    unfold LawAt at hq
    rw [if_neg (by omega), if_pos (by omega), if_pos (by omega)]
  have h0 := h.1 q 0 (by omega)
  have h1 := h.1 q 1 (by omega)
  have h2 := h.1 q 2 (by omega)
  have h3 := h.1 q 3 (by omega)
  rw [e] at h0 h1 h2 h3
  exact ⟨h0, h1, h2, h3⟩
theorem t_lawr {q i : Int} (h : Sf d ac M0 M) (hq : LawAt q) (h0 : 0 ≤ i) : 0 ≤ M (q + 1) i ∧ M (q + 1) i ≤ 26 := by
  have e : tb d ac (q + 1) i = (0, 26) := by
    unfold tb
    unfold LawAt at hq
    rw [if_neg (by omega), if_pos (by omega), if_neg (by omega)]
  have h1 := h.1 (q + 1) i h0
  rw [e] at h1
  exact h1
theorem t_act {q : Int} (h : Sf d ac M0 M) (hd : d = 2 ∨ d = 3) (hq : ActAt q) : (0 ≤ M q 0 ∧ M q 0 ≤ 3) ∧ (0 ≤ M q 1 ∧ M q 1 ≤ 27) := by
  have e : ∀ i, tb d ac q i = if i = 0 then (if q < 55 + 3 * ac then (1, 3) else (0, 3)) else (if q < 55 + 3 * ac then (d, d * d * d) else (0, 27)) := fun i => by
    unfold tb
    unfold ActAt at hq
    rw [if_pos (by omega), if_pos (by omega)]
  have h0 := h.1 q 0 (by omega)
  have h1 := h.1 q 1 (by omega)
  rw [e] at h0 h1
  rw [if_pos rfl] at h0
  rw [if_neg (by omega)] at h1
  split at h0
  · rename_i hl
    rw [if_pos hl] at h1
    rcases hd with rfl | rfl
    · exact ⟨⟨by have := h0.1; omega, h0.2⟩, ⟨by have := h1.1; omega, by have := h1.2; omega⟩⟩
    · exact ⟨⟨by have := h0.1; omega, h0.2⟩, ⟨by have := h1.1; omega, by have := h1.2; omega⟩⟩
  · rename_i hl
    rw [if_neg hl] at h1
    exact ⟨h0, h1⟩
theorem t_actl {q : Int} (h : Sf d ac M0 M) (hq : ActAt q) (hl : q < 55 + 3 * ac) : (1 ≤ M q 0 ∧ M q 0 ≤ 3) ∧ (d ≤ M q 1 ∧ M q 1 ≤ d * d * d) := by
  have e : ∀ i, tb d ac q i = if i = 0 then (if q < 55 + 3 * ac then (1, 3) else (0, 3)) else (if q < 55 + 3 * ac then (d, d * d * d) else (0, 27)) := fun i => by
    unfold tb
    unfold ActAt at hq
    rw [if_pos (by omega), if_pos (by omega)]
  have h0 := h.1 q 0 (by omega)
  have h1 := h.1 q 1 (by omega)
  rw [e, if_pos rfl, if_pos hl] at h0
  rw [e, if_neg (by omega), if_pos hl] at h1
  exact ⟨h0, h1⟩
theorem t_actr {q i : Int} (h : Sf d ac M0 M) (hd : d = 2 ∨ d = 3) (hq : ActAt q) {o : Int} (ho : o = 1 ∨ o = 2) (h0 : 0 ≤ i) : 0 ≤ M (q + o) i ∧ M (q + o) i ≤ 2 := by
  have e : tb d ac (q + o) i = if q + o < 55 + 3 * ac ∧ i < d * d * d then (0, d - 1) else (0, 2) := by
    unfold tb
    unfold ActAt at hq
    rw [if_pos (by omega), if_neg (by omega)]
  have h1 := h.1 (q + o) i h0
  rw [e] at h1
  split at h1
  · rcases hd with rfl | rfl
    · exact ⟨h1.1, by have := h1.2; omega⟩
    · exact ⟨h1.1, by have := h1.2; omega⟩
  · exact h1
theorem t_actrl {q i : Int} (h : Sf d ac M0 M) (hq : ActAt q) (hl : q < 55 + 3 * ac) {o : Int} (ho : o = 1 ∨ o = 2) (h0 : 0 ≤ i) (hi : i < d * d * d) : 0 ≤ M (q + o) i ∧ M (q + o) i ≤ d - 1 := by
  have e : tb d ac (q + o) i = if q + o < 55 + 3 * ac ∧ i < d * d * d then (0, d - 1) else (0, 2) := by
    unfold tb
    unfold ActAt at hq
    rw [if_pos (by omega), if_neg (by omega)]
  have h1 := h.1 (q + o) i h0
  unfold ActAt at hq
  rw [e, if_pos ⟨by omega, hi⟩] at h1
  exact h1
theorem t_made {q : Int} (h : Sf d ac M0 M) (hq : MadeAt q) : (0 ≤ M q 0 ∧ M q 0 ≤ 1) ∧ (0 ≤ M q 1 ∧ M q 1 ≤ 1) ∧ (0 ≤ M q 2 ∧ M q 2 ≤ 256) := by
  have e : ∀ i, tb d ac q i = if i ≤ 1 then (0, 1) else (0, 256) := fun i => by
    unfold tb
    unfold MadeAt at hq
    rw [if_neg (by omega), if_neg (by omega), if_pos (by omega), if_pos (by omega)]
  have h0 := h.1 q 0 (by omega)
  have h1 := h.1 q 1 (by omega)
  have h2 := h.1 q 2 (by omega)
  rw [e] at h0 h1 h2
  exact ⟨h0, h1, h2⟩
theorem t_mader {q i : Int} (h : Sf d ac M0 M) (hq : MadeAt q) {o : Int} (ho : o = 1 ∨ o = 2) (h0 : 0 ≤ i) : -2147483648 ≤ M (q + o) i ∧ M (q + o) i ≤ 2147483647 := by
  have e : tb d ac (q + o) i = (-2147483648, 2147483647) := by
    unfold tb
    unfold MadeAt at hq
    rw [if_neg (by omega), if_neg (by omega), if_pos (by omega), if_neg (by omega)]
  have h1 := h.1 (q + o) i h0
  rw [e] at h1
  exact h1
theorem w_made {q i z : Int} (hq : MadeAt q) (hi : 0 ≤ i ∧ i ≤ 2) (hz : 0 ≤ z ∧ (i ≤ 1 → z ≤ 1) ∧ z ≤ 256) : Wok d ac q i z := by
  unfold MadeAt at hq
  have e : tb d ac q i = if i ≤ 1 then (0, 1) else (0, 256) := by
    unfold tb
    rw [if_neg (by omega), if_neg (by omega), if_pos (by omega), if_pos (by omega)]
  refine ⟨hi.1, ?_, by unfold core; omega, by omega, by omega, by omega⟩
  rw [e]
  split
  · rename_i h
    exact ⟨hz.1, hz.2.1 h⟩
  · exact ⟨hz.1, hz.2.2⟩
theorem w_mader {q i z : Int} (hq : MadeAt q) {o : Int} (ho : o = 1 ∨ o = 2) (h0 : 0 ≤ i) (hz : -2147483648 ≤ z ∧ z ≤ 2147483647) : Wok d ac (q + o) i z := by
  unfold MadeAt at hq
  have e : tb d ac (q + o) i = (-2147483648, 2147483647) := by
    unfold tb
    rw [if_neg (by omega), if_neg (by omega), if_pos (by omega), if_neg (by omega)]
  refine ⟨h0, ?_, by unfold core; omega, by omega, by omega, by omega⟩
  rw [e]
  exact hz
theorem w_50 {i z : Int} (hi : 0 ≤ i) (hz : (i = 0 ∧ 0 ≤ z ∧ z ≤ 3) ∨ (i = 3 ∧ 0 ≤ z ∧ z ≤ 27) ∨ (i ≠ 0 ∧ i ≠ 3 ∧ -2147483648 ≤ z ∧ z ≤ 2147483647)) : Wok d ac 50 i z := by
  have e : tb d ac 50 i = if i = 0 then (0, 3) else if i = 3 then (0, 27) else (-2147483648, 2147483647) := rfl
  refine ⟨hi, ?_, by unfold core; omega, by omega, by omega, by omega⟩
  rw [e]
  rcases hz with ⟨rfl, h⟩ | ⟨rfl, h⟩ | ⟨h1, h2, h⟩
  · exact h
  · exact h
  · rw [if_neg h1, if_neg h2]
    exact h
theorem w_51 {i z : Int} (h0 : 0 ≤ i) (hz : 0 ≤ z ∧ z ≤ 26) : Wok d ac 51 i z := ⟨h0, hz, by unfold core; omega, by omega, by omega, by omega⟩
end
