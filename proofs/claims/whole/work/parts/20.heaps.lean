/-! the heaps of the class (HC) and of the reference (HM) as functions of what they hold; printed by wip/whole/gen3.py -/
def am_u {α : Type} (f : Nat → α) (k : Nat) (x : α) : Nat → α := fun j => if j = k then x else f j
theorem am_us {α : Type} (f : Nat → α) (k : Nat) (x : α) : am_u f k x k = x := if_pos rfl
theorem am_un {α : Type} {f : Nat → α} {k j : Nat} {x : α} (h : ¬ j = k) : am_u f k x j = f j := if_neg h
def HC (I : Nat → Int32) (J : Nat → Int64) (A : Nat → Nat → Int32) (B : Nat → Nat → Int64) (tl : am_H) : am_H := .inr (6, [.ref 1, .ref 3, .ref 7, .ref 11, .ref 12, .ref 32, .long (J 0)]) :: .inr (5, [.ref 2, .int (I 0)]) :: .inl (200, .inl (A 0)) :: .inr (0, [.ref 4, .ref 5, .ref 6, .int (I 1)]) :: .inl (24, .inr (.inl (B 0))) :: .inl (24, .inr (.inl (B 1))) :: .inl (24, .inl (A 1)) :: .inr (1, [.ref 8, .ref 9, .ref 10, .int (I 2)]) :: .inl (6, .inr (.inl (B 2))) :: .inl (7, .inl (A 2)) :: .inl (42, .inl (A 3)) :: .inl (11, .inl (A 4)) :: .inr (3, [.ref 13, .ref 19, .ref 25, .ref 3, .ref 7, .ref 11, .ref 31, .long (J 1), .int (I 3), .int (I 4), .int (I 5), .int (I 6)]) :: .inr (4, [.ref 14, .ref 15, .ref 16, .ref 17, .ref 18]) :: .inl (10752, .inl (A 6)) :: .inl (10752, .inr (.inl (B 3))) :: .inl (10752, .inl (A 7)) :: .inl (10752, .inr (.inl (B 4))) :: .inl (10752, .inl (A 8)) :: .inr (4, [.ref 20, .ref 21, .ref 22, .ref 23, .ref 24]) :: .inl (10752, .inl (A 9)) :: .inl (10752, .inr (.inl (B 5))) :: .inl (10752, .inl (A 10)) :: .inl (10752, .inr (.inl (B 6))) :: .inl (10752, .inl (A 11)) :: .inr (4, [.ref 26, .ref 27, .ref 28, .ref 29, .ref 30]) :: .inl (1, .inl (A 12)) :: .inl (1, .inr (.inl (B 7))) :: .inl (1, .inl (A 13)) :: .inl (1, .inr (.inl (B 8))) :: .inl (1, .inl (A 14)) :: .inl (6, .inl (A 5)) :: .inr (2, [.ref 33, .int (I 7), .int (I 8), .ref 12]) :: .inl (200, .inl (A 15)) :: tl
def HM (hd : Nat → am_C) (I : Nat → Int32) (A : Nat → Nat → Int32) (T : Nat → Int64) : am_H := hd 0 :: hd 1 :: hd 2 :: hd 3 :: hd 4 :: hd 5 :: hd 6 :: hd 7 :: hd 8 :: hd 9 :: hd 10 :: hd 11 :: hd 12 :: hd 13 :: hd 14 :: hd 15 :: hd 16 :: hd 17 :: hd 18 :: hd 19 :: hd 20 :: hd 21 :: hd 22 :: hd 23 :: hd 24 :: hd 25 :: hd 26 :: hd 27 :: hd 28 :: hd 29 :: hd 30 :: hd 31 :: hd 32 :: hd 33 :: [.inr (7, [.int (I 0), .ref 35, .int (I 1), .ref 36, .ref 37, .ref 38, .int (I 2), .ref 39, .ref 40, .ref 41, .int (I 3), .ref 42, .ref 43, .ref 44, .ref 45, .ref 46, .int (I 4), .int (I 5), .int (I 6), .int (I 7), .int (I 8), .int (I 9), .int (I 10), .int (I 11), .int (I 12), .int (I 13), .ref 47, .ref 48, .int (I 14), .int (I 15), .ref 49, .ref 50, .int (I 16), .ref 51, .ref 52, .ref 53, .ref 54, .ref 55, .ref 56]), .inl (200, .inl (A 0)), .inl (192, .inl (A 1)), .inl (216, .inl (A 2)), .inl (24, .inl (A 3)), .inl (200, .inl (A 4)), .inl (225, .inl (A 5)), .inl (25, .inl (A 6)), .inl (48, .inl (A 7)), .inl (9, .inl (A 8)), .inl (9, .inl (A 9)), .inl (11, .inl (A 10)), .inl (10752, .inr (.inl T)), .inl (8, .inl (A 11)), .inl (42, .inl (A 12)), .inl (400, .inl (A 13)), .inl (60, .inl (A 14)), .inl (28, .inl (A 15)), .inl (29, .inl (A 16)), .inl (30, .inl (A 17)), .inl (30, .inl (A 18)), .inl (16, .inl (A 19)), .inl (48, .inl (A 20))]
theorem hc_i0 (I : Nat → Int32) (J : Nat → Int64) (A : Nat → Nat → Int32) (B : Nat → Nat → Int64) (tl : am_H) : am_is (HC I J A B tl) 0 6 := rfl
theorem hc_f0_0 (I : Nat → Int32) (J : Nat → Int64) (A : Nat → Nat → Int32) (B : Nat → Nat → Int64) (tl : am_H) : am_fld (HC I J A B tl) 0 6 0 = some (.ref 1) := rfl
theorem hc_f0_1 (I : Nat → Int32) (J : Nat → Int64) (A : Nat → Nat → Int32) (B : Nat → Nat → Int64) (tl : am_H) : am_fld (HC I J A B tl) 0 6 1 = some (.ref 3) := rfl
theorem hc_f0_2 (I : Nat → Int32) (J : Nat → Int64) (A : Nat → Nat → Int32) (B : Nat → Nat → Int64) (tl : am_H) : am_fld (HC I J A B tl) 0 6 2 = some (.ref 7) := rfl
theorem hc_f0_3 (I : Nat → Int32) (J : Nat → Int64) (A : Nat → Nat → Int32) (B : Nat → Nat → Int64) (tl : am_H) : am_fld (HC I J A B tl) 0 6 3 = some (.ref 11) := rfl
theorem hc_f0_4 (I : Nat → Int32) (J : Nat → Int64) (A : Nat → Nat → Int32) (B : Nat → Nat → Int64) (tl : am_H) : am_fld (HC I J A B tl) 0 6 4 = some (.ref 12) := rfl
theorem hc_f0_5 (I : Nat → Int32) (J : Nat → Int64) (A : Nat → Nat → Int32) (B : Nat → Nat → Int64) (tl : am_H) : am_fld (HC I J A B tl) 0 6 5 = some (.ref 32) := rfl
theorem hc_f0_6 (I : Nat → Int32) (J : Nat → Int64) (A : Nat → Nat → Int32) (B : Nat → Nat → Int64) (tl : am_H) : am_fld (HC I J A B tl) 0 6 6 = some (.long (J 0)) := rfl
theorem hc_p0_6 (I : Nat → Int32) (J : Nat → Int64) (A : Nat → Nat → Int32) (B : Nat → Nat → Int64) (tl : am_H) (x : Int64) : am_put (HC I J A B tl) 0 6 6 (.long x) = some (HC I (am_u J 0 x) A B tl) := rfl
theorem hc_i1 (I : Nat → Int32) (J : Nat → Int64) (A : Nat → Nat → Int32) (B : Nat → Nat → Int64) (tl : am_H) : am_is (HC I J A B tl) 1 5 := rfl
theorem hc_f1_0 (I : Nat → Int32) (J : Nat → Int64) (A : Nat → Nat → Int32) (B : Nat → Nat → Int64) (tl : am_H) : am_fld (HC I J A B tl) 1 5 0 = some (.ref 2) := rfl
theorem hc_f1_1 (I : Nat → Int32) (J : Nat → Int64) (A : Nat → Nat → Int32) (B : Nat → Nat → Int64) (tl : am_H) : am_fld (HC I J A B tl) 1 5 1 = some (.int (I 0)) := rfl
theorem hc_p1_1 (I : Nat → Int32) (J : Nat → Int64) (A : Nat → Nat → Int32) (B : Nat → Nat → Int64) (tl : am_H) (x : Int32) : am_put (HC I J A B tl) 1 5 1 (.int x) = some (HC (am_u I 0 x) J A B tl) := rfl
theorem hc_a2 (I : Nat → Int32) (J : Nat → Int64) (A : Nat → Nat → Int32) (B : Nat → Nat → Int64) (tl : am_H) : am_ia (HC I J A B tl) 2 = some (200, A 0) := rfl
theorem hc_s2 (I : Nat → Int32) (J : Nat → Int64) (A : Nat → Nat → Int32) (B : Nat → Nat → Int64) (tl : am_H) (f : Nat → Int32) : (HC I J A B tl).set 2 (.inl (200, .inl f)) = HC I J (am_u A 0 f) B tl := rfl
theorem hc_l2 (I : Nat → Int32) (J : Nat → Int64) (A : Nat → Nat → Int32) (B : Nat → Nat → Int64) (tl : am_H) : am_len (HC I J A B tl) 2 = some 200 := rfl
theorem hc_i3 (I : Nat → Int32) (J : Nat → Int64) (A : Nat → Nat → Int32) (B : Nat → Nat → Int64) (tl : am_H) : am_is (HC I J A B tl) 3 0 := rfl
theorem hc_f3_0 (I : Nat → Int32) (J : Nat → Int64) (A : Nat → Nat → Int32) (B : Nat → Nat → Int64) (tl : am_H) : am_fld (HC I J A B tl) 3 0 0 = some (.ref 4) := rfl
theorem hc_f3_1 (I : Nat → Int32) (J : Nat → Int64) (A : Nat → Nat → Int32) (B : Nat → Nat → Int64) (tl : am_H) : am_fld (HC I J A B tl) 3 0 1 = some (.ref 5) := rfl
theorem hc_f3_2 (I : Nat → Int32) (J : Nat → Int64) (A : Nat → Nat → Int32) (B : Nat → Nat → Int64) (tl : am_H) : am_fld (HC I J A B tl) 3 0 2 = some (.ref 6) := rfl
theorem hc_f3_3 (I : Nat → Int32) (J : Nat → Int64) (A : Nat → Nat → Int32) (B : Nat → Nat → Int64) (tl : am_H) : am_fld (HC I J A B tl) 3 0 3 = some (.int (I 1)) := rfl
theorem hc_p3_3 (I : Nat → Int32) (J : Nat → Int64) (A : Nat → Nat → Int32) (B : Nat → Nat → Int64) (tl : am_H) (x : Int32) : am_put (HC I J A B tl) 3 0 3 (.int x) = some (HC (am_u I 1 x) J A B tl) := rfl
theorem hc_a4 (I : Nat → Int32) (J : Nat → Int64) (A : Nat → Nat → Int32) (B : Nat → Nat → Int64) (tl : am_H) : am_la (HC I J A B tl) 4 = some (24, B 0) := rfl
theorem hc_s4 (I : Nat → Int32) (J : Nat → Int64) (A : Nat → Nat → Int32) (B : Nat → Nat → Int64) (tl : am_H) (f : Nat → Int64) : (HC I J A B tl).set 4 (.inl (24, .inr (.inl f))) = HC I J A (am_u B 0 f) tl := rfl
theorem hc_l4 (I : Nat → Int32) (J : Nat → Int64) (A : Nat → Nat → Int32) (B : Nat → Nat → Int64) (tl : am_H) : am_len (HC I J A B tl) 4 = some 24 := rfl
theorem hc_a5 (I : Nat → Int32) (J : Nat → Int64) (A : Nat → Nat → Int32) (B : Nat → Nat → Int64) (tl : am_H) : am_la (HC I J A B tl) 5 = some (24, B 1) := rfl
theorem hc_s5 (I : Nat → Int32) (J : Nat → Int64) (A : Nat → Nat → Int32) (B : Nat → Nat → Int64) (tl : am_H) (f : Nat → Int64) : (HC I J A B tl).set 5 (.inl (24, .inr (.inl f))) = HC I J A (am_u B 1 f) tl := rfl
theorem hc_l5 (I : Nat → Int32) (J : Nat → Int64) (A : Nat → Nat → Int32) (B : Nat → Nat → Int64) (tl : am_H) : am_len (HC I J A B tl) 5 = some 24 := rfl
theorem hc_a6 (I : Nat → Int32) (J : Nat → Int64) (A : Nat → Nat → Int32) (B : Nat → Nat → Int64) (tl : am_H) : am_ia (HC I J A B tl) 6 = some (24, A 1) := rfl
theorem hc_s6 (I : Nat → Int32) (J : Nat → Int64) (A : Nat → Nat → Int32) (B : Nat → Nat → Int64) (tl : am_H) (f : Nat → Int32) : (HC I J A B tl).set 6 (.inl (24, .inl f)) = HC I J (am_u A 1 f) B tl := rfl
theorem hc_l6 (I : Nat → Int32) (J : Nat → Int64) (A : Nat → Nat → Int32) (B : Nat → Nat → Int64) (tl : am_H) : am_len (HC I J A B tl) 6 = some 24 := rfl
theorem hc_i7 (I : Nat → Int32) (J : Nat → Int64) (A : Nat → Nat → Int32) (B : Nat → Nat → Int64) (tl : am_H) : am_is (HC I J A B tl) 7 1 := rfl
theorem hc_f7_0 (I : Nat → Int32) (J : Nat → Int64) (A : Nat → Nat → Int32) (B : Nat → Nat → Int64) (tl : am_H) : am_fld (HC I J A B tl) 7 1 0 = some (.ref 8) := rfl
theorem hc_f7_1 (I : Nat → Int32) (J : Nat → Int64) (A : Nat → Nat → Int32) (B : Nat → Nat → Int64) (tl : am_H) : am_fld (HC I J A B tl) 7 1 1 = some (.ref 9) := rfl
theorem hc_f7_2 (I : Nat → Int32) (J : Nat → Int64) (A : Nat → Nat → Int32) (B : Nat → Nat → Int64) (tl : am_H) : am_fld (HC I J A B tl) 7 1 2 = some (.ref 10) := rfl
theorem hc_f7_3 (I : Nat → Int32) (J : Nat → Int64) (A : Nat → Nat → Int32) (B : Nat → Nat → Int64) (tl : am_H) : am_fld (HC I J A B tl) 7 1 3 = some (.int (I 2)) := rfl
theorem hc_p7_3 (I : Nat → Int32) (J : Nat → Int64) (A : Nat → Nat → Int32) (B : Nat → Nat → Int64) (tl : am_H) (x : Int32) : am_put (HC I J A B tl) 7 1 3 (.int x) = some (HC (am_u I 2 x) J A B tl) := rfl
theorem hc_a8 (I : Nat → Int32) (J : Nat → Int64) (A : Nat → Nat → Int32) (B : Nat → Nat → Int64) (tl : am_H) : am_la (HC I J A B tl) 8 = some (6, B 2) := rfl
theorem hc_s8 (I : Nat → Int32) (J : Nat → Int64) (A : Nat → Nat → Int32) (B : Nat → Nat → Int64) (tl : am_H) (f : Nat → Int64) : (HC I J A B tl).set 8 (.inl (6, .inr (.inl f))) = HC I J A (am_u B 2 f) tl := rfl
theorem hc_l8 (I : Nat → Int32) (J : Nat → Int64) (A : Nat → Nat → Int32) (B : Nat → Nat → Int64) (tl : am_H) : am_len (HC I J A B tl) 8 = some 6 := rfl
theorem hc_a9 (I : Nat → Int32) (J : Nat → Int64) (A : Nat → Nat → Int32) (B : Nat → Nat → Int64) (tl : am_H) : am_ia (HC I J A B tl) 9 = some (7, A 2) := rfl
theorem hc_s9 (I : Nat → Int32) (J : Nat → Int64) (A : Nat → Nat → Int32) (B : Nat → Nat → Int64) (tl : am_H) (f : Nat → Int32) : (HC I J A B tl).set 9 (.inl (7, .inl f)) = HC I J (am_u A 2 f) B tl := rfl
theorem hc_l9 (I : Nat → Int32) (J : Nat → Int64) (A : Nat → Nat → Int32) (B : Nat → Nat → Int64) (tl : am_H) : am_len (HC I J A B tl) 9 = some 7 := rfl
theorem hc_a10 (I : Nat → Int32) (J : Nat → Int64) (A : Nat → Nat → Int32) (B : Nat → Nat → Int64) (tl : am_H) : am_ia (HC I J A B tl) 10 = some (42, A 3) := rfl
theorem hc_s10 (I : Nat → Int32) (J : Nat → Int64) (A : Nat → Nat → Int32) (B : Nat → Nat → Int64) (tl : am_H) (f : Nat → Int32) : (HC I J A B tl).set 10 (.inl (42, .inl f)) = HC I J (am_u A 3 f) B tl := rfl
theorem hc_l10 (I : Nat → Int32) (J : Nat → Int64) (A : Nat → Nat → Int32) (B : Nat → Nat → Int64) (tl : am_H) : am_len (HC I J A B tl) 10 = some 42 := rfl
theorem hc_a11 (I : Nat → Int32) (J : Nat → Int64) (A : Nat → Nat → Int32) (B : Nat → Nat → Int64) (tl : am_H) : am_ia (HC I J A B tl) 11 = some (11, A 4) := rfl
theorem hc_s11 (I : Nat → Int32) (J : Nat → Int64) (A : Nat → Nat → Int32) (B : Nat → Nat → Int64) (tl : am_H) (f : Nat → Int32) : (HC I J A B tl).set 11 (.inl (11, .inl f)) = HC I J (am_u A 4 f) B tl := rfl
theorem hc_l11 (I : Nat → Int32) (J : Nat → Int64) (A : Nat → Nat → Int32) (B : Nat → Nat → Int64) (tl : am_H) : am_len (HC I J A B tl) 11 = some 11 := rfl
theorem hc_i12 (I : Nat → Int32) (J : Nat → Int64) (A : Nat → Nat → Int32) (B : Nat → Nat → Int64) (tl : am_H) : am_is (HC I J A B tl) 12 3 := rfl
theorem hc_f12_0 (I : Nat → Int32) (J : Nat → Int64) (A : Nat → Nat → Int32) (B : Nat → Nat → Int64) (tl : am_H) : am_fld (HC I J A B tl) 12 3 0 = some (.ref 13) := rfl
theorem hc_f12_1 (I : Nat → Int32) (J : Nat → Int64) (A : Nat → Nat → Int32) (B : Nat → Nat → Int64) (tl : am_H) : am_fld (HC I J A B tl) 12 3 1 = some (.ref 19) := rfl
theorem hc_f12_2 (I : Nat → Int32) (J : Nat → Int64) (A : Nat → Nat → Int32) (B : Nat → Nat → Int64) (tl : am_H) : am_fld (HC I J A B tl) 12 3 2 = some (.ref 25) := rfl
theorem hc_f12_3 (I : Nat → Int32) (J : Nat → Int64) (A : Nat → Nat → Int32) (B : Nat → Nat → Int64) (tl : am_H) : am_fld (HC I J A B tl) 12 3 3 = some (.ref 3) := rfl
theorem hc_f12_4 (I : Nat → Int32) (J : Nat → Int64) (A : Nat → Nat → Int32) (B : Nat → Nat → Int64) (tl : am_H) : am_fld (HC I J A B tl) 12 3 4 = some (.ref 7) := rfl
theorem hc_f12_5 (I : Nat → Int32) (J : Nat → Int64) (A : Nat → Nat → Int32) (B : Nat → Nat → Int64) (tl : am_H) : am_fld (HC I J A B tl) 12 3 5 = some (.ref 11) := rfl
theorem hc_f12_6 (I : Nat → Int32) (J : Nat → Int64) (A : Nat → Nat → Int32) (B : Nat → Nat → Int64) (tl : am_H) : am_fld (HC I J A B tl) 12 3 6 = some (.ref 31) := rfl
theorem hc_f12_7 (I : Nat → Int32) (J : Nat → Int64) (A : Nat → Nat → Int32) (B : Nat → Nat → Int64) (tl : am_H) : am_fld (HC I J A B tl) 12 3 7 = some (.long (J 1)) := rfl
theorem hc_p12_7 (I : Nat → Int32) (J : Nat → Int64) (A : Nat → Nat → Int32) (B : Nat → Nat → Int64) (tl : am_H) (x : Int64) : am_put (HC I J A B tl) 12 3 7 (.long x) = some (HC I (am_u J 1 x) A B tl) := rfl
theorem hc_f12_8 (I : Nat → Int32) (J : Nat → Int64) (A : Nat → Nat → Int32) (B : Nat → Nat → Int64) (tl : am_H) : am_fld (HC I J A B tl) 12 3 8 = some (.int (I 3)) := rfl
theorem hc_p12_8 (I : Nat → Int32) (J : Nat → Int64) (A : Nat → Nat → Int32) (B : Nat → Nat → Int64) (tl : am_H) (x : Int32) : am_put (HC I J A B tl) 12 3 8 (.int x) = some (HC (am_u I 3 x) J A B tl) := rfl
theorem hc_f12_9 (I : Nat → Int32) (J : Nat → Int64) (A : Nat → Nat → Int32) (B : Nat → Nat → Int64) (tl : am_H) : am_fld (HC I J A B tl) 12 3 9 = some (.int (I 4)) := rfl
theorem hc_p12_9 (I : Nat → Int32) (J : Nat → Int64) (A : Nat → Nat → Int32) (B : Nat → Nat → Int64) (tl : am_H) (x : Int32) : am_put (HC I J A B tl) 12 3 9 (.int x) = some (HC (am_u I 4 x) J A B tl) := rfl
theorem hc_f12_10 (I : Nat → Int32) (J : Nat → Int64) (A : Nat → Nat → Int32) (B : Nat → Nat → Int64) (tl : am_H) : am_fld (HC I J A B tl) 12 3 10 = some (.int (I 5)) := rfl
theorem hc_p12_10 (I : Nat → Int32) (J : Nat → Int64) (A : Nat → Nat → Int32) (B : Nat → Nat → Int64) (tl : am_H) (x : Int32) : am_put (HC I J A B tl) 12 3 10 (.int x) = some (HC (am_u I 5 x) J A B tl) := rfl
theorem hc_f12_11 (I : Nat → Int32) (J : Nat → Int64) (A : Nat → Nat → Int32) (B : Nat → Nat → Int64) (tl : am_H) : am_fld (HC I J A B tl) 12 3 11 = some (.int (I 6)) := rfl
theorem hc_p12_11 (I : Nat → Int32) (J : Nat → Int64) (A : Nat → Nat → Int32) (B : Nat → Nat → Int64) (tl : am_H) (x : Int32) : am_put (HC I J A B tl) 12 3 11 (.int x) = some (HC (am_u I 6 x) J A B tl) := rfl
theorem hc_i13 (I : Nat → Int32) (J : Nat → Int64) (A : Nat → Nat → Int32) (B : Nat → Nat → Int64) (tl : am_H) : am_is (HC I J A B tl) 13 4 := rfl
theorem hc_f13_0 (I : Nat → Int32) (J : Nat → Int64) (A : Nat → Nat → Int32) (B : Nat → Nat → Int64) (tl : am_H) : am_fld (HC I J A B tl) 13 4 0 = some (.ref 14) := rfl
theorem hc_f13_1 (I : Nat → Int32) (J : Nat → Int64) (A : Nat → Nat → Int32) (B : Nat → Nat → Int64) (tl : am_H) : am_fld (HC I J A B tl) 13 4 1 = some (.ref 15) := rfl
theorem hc_f13_2 (I : Nat → Int32) (J : Nat → Int64) (A : Nat → Nat → Int32) (B : Nat → Nat → Int64) (tl : am_H) : am_fld (HC I J A B tl) 13 4 2 = some (.ref 16) := rfl
theorem hc_f13_3 (I : Nat → Int32) (J : Nat → Int64) (A : Nat → Nat → Int32) (B : Nat → Nat → Int64) (tl : am_H) : am_fld (HC I J A B tl) 13 4 3 = some (.ref 17) := rfl
theorem hc_f13_4 (I : Nat → Int32) (J : Nat → Int64) (A : Nat → Nat → Int32) (B : Nat → Nat → Int64) (tl : am_H) : am_fld (HC I J A B tl) 13 4 4 = some (.ref 18) := rfl
theorem hc_a14 (I : Nat → Int32) (J : Nat → Int64) (A : Nat → Nat → Int32) (B : Nat → Nat → Int64) (tl : am_H) : am_ia (HC I J A B tl) 14 = some (10752, A 6) := rfl
theorem hc_s14 (I : Nat → Int32) (J : Nat → Int64) (A : Nat → Nat → Int32) (B : Nat → Nat → Int64) (tl : am_H) (f : Nat → Int32) : (HC I J A B tl).set 14 (.inl (10752, .inl f)) = HC I J (am_u A 6 f) B tl := rfl
theorem hc_l14 (I : Nat → Int32) (J : Nat → Int64) (A : Nat → Nat → Int32) (B : Nat → Nat → Int64) (tl : am_H) : am_len (HC I J A B tl) 14 = some 10752 := rfl
theorem hc_a15 (I : Nat → Int32) (J : Nat → Int64) (A : Nat → Nat → Int32) (B : Nat → Nat → Int64) (tl : am_H) : am_la (HC I J A B tl) 15 = some (10752, B 3) := rfl
theorem hc_s15 (I : Nat → Int32) (J : Nat → Int64) (A : Nat → Nat → Int32) (B : Nat → Nat → Int64) (tl : am_H) (f : Nat → Int64) : (HC I J A B tl).set 15 (.inl (10752, .inr (.inl f))) = HC I J A (am_u B 3 f) tl := rfl
theorem hc_l15 (I : Nat → Int32) (J : Nat → Int64) (A : Nat → Nat → Int32) (B : Nat → Nat → Int64) (tl : am_H) : am_len (HC I J A B tl) 15 = some 10752 := rfl
theorem hc_a16 (I : Nat → Int32) (J : Nat → Int64) (A : Nat → Nat → Int32) (B : Nat → Nat → Int64) (tl : am_H) : am_ia (HC I J A B tl) 16 = some (10752, A 7) := rfl
theorem hc_s16 (I : Nat → Int32) (J : Nat → Int64) (A : Nat → Nat → Int32) (B : Nat → Nat → Int64) (tl : am_H) (f : Nat → Int32) : (HC I J A B tl).set 16 (.inl (10752, .inl f)) = HC I J (am_u A 7 f) B tl := rfl
theorem hc_l16 (I : Nat → Int32) (J : Nat → Int64) (A : Nat → Nat → Int32) (B : Nat → Nat → Int64) (tl : am_H) : am_len (HC I J A B tl) 16 = some 10752 := rfl
theorem hc_a17 (I : Nat → Int32) (J : Nat → Int64) (A : Nat → Nat → Int32) (B : Nat → Nat → Int64) (tl : am_H) : am_la (HC I J A B tl) 17 = some (10752, B 4) := rfl
theorem hc_s17 (I : Nat → Int32) (J : Nat → Int64) (A : Nat → Nat → Int32) (B : Nat → Nat → Int64) (tl : am_H) (f : Nat → Int64) : (HC I J A B tl).set 17 (.inl (10752, .inr (.inl f))) = HC I J A (am_u B 4 f) tl := rfl
theorem hc_l17 (I : Nat → Int32) (J : Nat → Int64) (A : Nat → Nat → Int32) (B : Nat → Nat → Int64) (tl : am_H) : am_len (HC I J A B tl) 17 = some 10752 := rfl
theorem hc_a18 (I : Nat → Int32) (J : Nat → Int64) (A : Nat → Nat → Int32) (B : Nat → Nat → Int64) (tl : am_H) : am_ia (HC I J A B tl) 18 = some (10752, A 8) := rfl
theorem hc_s18 (I : Nat → Int32) (J : Nat → Int64) (A : Nat → Nat → Int32) (B : Nat → Nat → Int64) (tl : am_H) (f : Nat → Int32) : (HC I J A B tl).set 18 (.inl (10752, .inl f)) = HC I J (am_u A 8 f) B tl := rfl
theorem hc_l18 (I : Nat → Int32) (J : Nat → Int64) (A : Nat → Nat → Int32) (B : Nat → Nat → Int64) (tl : am_H) : am_len (HC I J A B tl) 18 = some 10752 := rfl
theorem hc_i19 (I : Nat → Int32) (J : Nat → Int64) (A : Nat → Nat → Int32) (B : Nat → Nat → Int64) (tl : am_H) : am_is (HC I J A B tl) 19 4 := rfl
theorem hc_f19_0 (I : Nat → Int32) (J : Nat → Int64) (A : Nat → Nat → Int32) (B : Nat → Nat → Int64) (tl : am_H) : am_fld (HC I J A B tl) 19 4 0 = some (.ref 20) := rfl
theorem hc_f19_1 (I : Nat → Int32) (J : Nat → Int64) (A : Nat → Nat → Int32) (B : Nat → Nat → Int64) (tl : am_H) : am_fld (HC I J A B tl) 19 4 1 = some (.ref 21) := rfl
theorem hc_f19_2 (I : Nat → Int32) (J : Nat → Int64) (A : Nat → Nat → Int32) (B : Nat → Nat → Int64) (tl : am_H) : am_fld (HC I J A B tl) 19 4 2 = some (.ref 22) := rfl
theorem hc_f19_3 (I : Nat → Int32) (J : Nat → Int64) (A : Nat → Nat → Int32) (B : Nat → Nat → Int64) (tl : am_H) : am_fld (HC I J A B tl) 19 4 3 = some (.ref 23) := rfl
theorem hc_f19_4 (I : Nat → Int32) (J : Nat → Int64) (A : Nat → Nat → Int32) (B : Nat → Nat → Int64) (tl : am_H) : am_fld (HC I J A B tl) 19 4 4 = some (.ref 24) := rfl
theorem hc_a20 (I : Nat → Int32) (J : Nat → Int64) (A : Nat → Nat → Int32) (B : Nat → Nat → Int64) (tl : am_H) : am_ia (HC I J A B tl) 20 = some (10752, A 9) := rfl
theorem hc_s20 (I : Nat → Int32) (J : Nat → Int64) (A : Nat → Nat → Int32) (B : Nat → Nat → Int64) (tl : am_H) (f : Nat → Int32) : (HC I J A B tl).set 20 (.inl (10752, .inl f)) = HC I J (am_u A 9 f) B tl := rfl
theorem hc_l20 (I : Nat → Int32) (J : Nat → Int64) (A : Nat → Nat → Int32) (B : Nat → Nat → Int64) (tl : am_H) : am_len (HC I J A B tl) 20 = some 10752 := rfl
theorem hc_a21 (I : Nat → Int32) (J : Nat → Int64) (A : Nat → Nat → Int32) (B : Nat → Nat → Int64) (tl : am_H) : am_la (HC I J A B tl) 21 = some (10752, B 5) := rfl
theorem hc_s21 (I : Nat → Int32) (J : Nat → Int64) (A : Nat → Nat → Int32) (B : Nat → Nat → Int64) (tl : am_H) (f : Nat → Int64) : (HC I J A B tl).set 21 (.inl (10752, .inr (.inl f))) = HC I J A (am_u B 5 f) tl := rfl
theorem hc_l21 (I : Nat → Int32) (J : Nat → Int64) (A : Nat → Nat → Int32) (B : Nat → Nat → Int64) (tl : am_H) : am_len (HC I J A B tl) 21 = some 10752 := rfl
theorem hc_a22 (I : Nat → Int32) (J : Nat → Int64) (A : Nat → Nat → Int32) (B : Nat → Nat → Int64) (tl : am_H) : am_ia (HC I J A B tl) 22 = some (10752, A 10) := rfl
theorem hc_s22 (I : Nat → Int32) (J : Nat → Int64) (A : Nat → Nat → Int32) (B : Nat → Nat → Int64) (tl : am_H) (f : Nat → Int32) : (HC I J A B tl).set 22 (.inl (10752, .inl f)) = HC I J (am_u A 10 f) B tl := rfl
theorem hc_l22 (I : Nat → Int32) (J : Nat → Int64) (A : Nat → Nat → Int32) (B : Nat → Nat → Int64) (tl : am_H) : am_len (HC I J A B tl) 22 = some 10752 := rfl
theorem hc_a23 (I : Nat → Int32) (J : Nat → Int64) (A : Nat → Nat → Int32) (B : Nat → Nat → Int64) (tl : am_H) : am_la (HC I J A B tl) 23 = some (10752, B 6) := rfl
theorem hc_s23 (I : Nat → Int32) (J : Nat → Int64) (A : Nat → Nat → Int32) (B : Nat → Nat → Int64) (tl : am_H) (f : Nat → Int64) : (HC I J A B tl).set 23 (.inl (10752, .inr (.inl f))) = HC I J A (am_u B 6 f) tl := rfl
theorem hc_l23 (I : Nat → Int32) (J : Nat → Int64) (A : Nat → Nat → Int32) (B : Nat → Nat → Int64) (tl : am_H) : am_len (HC I J A B tl) 23 = some 10752 := rfl
theorem hc_a24 (I : Nat → Int32) (J : Nat → Int64) (A : Nat → Nat → Int32) (B : Nat → Nat → Int64) (tl : am_H) : am_ia (HC I J A B tl) 24 = some (10752, A 11) := rfl
theorem hc_s24 (I : Nat → Int32) (J : Nat → Int64) (A : Nat → Nat → Int32) (B : Nat → Nat → Int64) (tl : am_H) (f : Nat → Int32) : (HC I J A B tl).set 24 (.inl (10752, .inl f)) = HC I J (am_u A 11 f) B tl := rfl
theorem hc_l24 (I : Nat → Int32) (J : Nat → Int64) (A : Nat → Nat → Int32) (B : Nat → Nat → Int64) (tl : am_H) : am_len (HC I J A B tl) 24 = some 10752 := rfl
theorem hc_i25 (I : Nat → Int32) (J : Nat → Int64) (A : Nat → Nat → Int32) (B : Nat → Nat → Int64) (tl : am_H) : am_is (HC I J A B tl) 25 4 := rfl
theorem hc_f25_0 (I : Nat → Int32) (J : Nat → Int64) (A : Nat → Nat → Int32) (B : Nat → Nat → Int64) (tl : am_H) : am_fld (HC I J A B tl) 25 4 0 = some (.ref 26) := rfl
theorem hc_f25_1 (I : Nat → Int32) (J : Nat → Int64) (A : Nat → Nat → Int32) (B : Nat → Nat → Int64) (tl : am_H) : am_fld (HC I J A B tl) 25 4 1 = some (.ref 27) := rfl
theorem hc_f25_2 (I : Nat → Int32) (J : Nat → Int64) (A : Nat → Nat → Int32) (B : Nat → Nat → Int64) (tl : am_H) : am_fld (HC I J A B tl) 25 4 2 = some (.ref 28) := rfl
theorem hc_f25_3 (I : Nat → Int32) (J : Nat → Int64) (A : Nat → Nat → Int32) (B : Nat → Nat → Int64) (tl : am_H) : am_fld (HC I J A B tl) 25 4 3 = some (.ref 29) := rfl
theorem hc_f25_4 (I : Nat → Int32) (J : Nat → Int64) (A : Nat → Nat → Int32) (B : Nat → Nat → Int64) (tl : am_H) : am_fld (HC I J A B tl) 25 4 4 = some (.ref 30) := rfl
theorem hc_a26 (I : Nat → Int32) (J : Nat → Int64) (A : Nat → Nat → Int32) (B : Nat → Nat → Int64) (tl : am_H) : am_ia (HC I J A B tl) 26 = some (1, A 12) := rfl
theorem hc_s26 (I : Nat → Int32) (J : Nat → Int64) (A : Nat → Nat → Int32) (B : Nat → Nat → Int64) (tl : am_H) (f : Nat → Int32) : (HC I J A B tl).set 26 (.inl (1, .inl f)) = HC I J (am_u A 12 f) B tl := rfl
theorem hc_l26 (I : Nat → Int32) (J : Nat → Int64) (A : Nat → Nat → Int32) (B : Nat → Nat → Int64) (tl : am_H) : am_len (HC I J A B tl) 26 = some 1 := rfl
theorem hc_a27 (I : Nat → Int32) (J : Nat → Int64) (A : Nat → Nat → Int32) (B : Nat → Nat → Int64) (tl : am_H) : am_la (HC I J A B tl) 27 = some (1, B 7) := rfl
theorem hc_s27 (I : Nat → Int32) (J : Nat → Int64) (A : Nat → Nat → Int32) (B : Nat → Nat → Int64) (tl : am_H) (f : Nat → Int64) : (HC I J A B tl).set 27 (.inl (1, .inr (.inl f))) = HC I J A (am_u B 7 f) tl := rfl
theorem hc_l27 (I : Nat → Int32) (J : Nat → Int64) (A : Nat → Nat → Int32) (B : Nat → Nat → Int64) (tl : am_H) : am_len (HC I J A B tl) 27 = some 1 := rfl
theorem hc_a28 (I : Nat → Int32) (J : Nat → Int64) (A : Nat → Nat → Int32) (B : Nat → Nat → Int64) (tl : am_H) : am_ia (HC I J A B tl) 28 = some (1, A 13) := rfl
theorem hc_s28 (I : Nat → Int32) (J : Nat → Int64) (A : Nat → Nat → Int32) (B : Nat → Nat → Int64) (tl : am_H) (f : Nat → Int32) : (HC I J A B tl).set 28 (.inl (1, .inl f)) = HC I J (am_u A 13 f) B tl := rfl
theorem hc_l28 (I : Nat → Int32) (J : Nat → Int64) (A : Nat → Nat → Int32) (B : Nat → Nat → Int64) (tl : am_H) : am_len (HC I J A B tl) 28 = some 1 := rfl
theorem hc_a29 (I : Nat → Int32) (J : Nat → Int64) (A : Nat → Nat → Int32) (B : Nat → Nat → Int64) (tl : am_H) : am_la (HC I J A B tl) 29 = some (1, B 8) := rfl
theorem hc_s29 (I : Nat → Int32) (J : Nat → Int64) (A : Nat → Nat → Int32) (B : Nat → Nat → Int64) (tl : am_H) (f : Nat → Int64) : (HC I J A B tl).set 29 (.inl (1, .inr (.inl f))) = HC I J A (am_u B 8 f) tl := rfl
theorem hc_l29 (I : Nat → Int32) (J : Nat → Int64) (A : Nat → Nat → Int32) (B : Nat → Nat → Int64) (tl : am_H) : am_len (HC I J A B tl) 29 = some 1 := rfl
theorem hc_a30 (I : Nat → Int32) (J : Nat → Int64) (A : Nat → Nat → Int32) (B : Nat → Nat → Int64) (tl : am_H) : am_ia (HC I J A B tl) 30 = some (1, A 14) := rfl
theorem hc_s30 (I : Nat → Int32) (J : Nat → Int64) (A : Nat → Nat → Int32) (B : Nat → Nat → Int64) (tl : am_H) (f : Nat → Int32) : (HC I J A B tl).set 30 (.inl (1, .inl f)) = HC I J (am_u A 14 f) B tl := rfl
theorem hc_l30 (I : Nat → Int32) (J : Nat → Int64) (A : Nat → Nat → Int32) (B : Nat → Nat → Int64) (tl : am_H) : am_len (HC I J A B tl) 30 = some 1 := rfl
theorem hc_a31 (I : Nat → Int32) (J : Nat → Int64) (A : Nat → Nat → Int32) (B : Nat → Nat → Int64) (tl : am_H) : am_ia (HC I J A B tl) 31 = some (6, A 5) := rfl
theorem hc_s31 (I : Nat → Int32) (J : Nat → Int64) (A : Nat → Nat → Int32) (B : Nat → Nat → Int64) (tl : am_H) (f : Nat → Int32) : (HC I J A B tl).set 31 (.inl (6, .inl f)) = HC I J (am_u A 5 f) B tl := rfl
theorem hc_l31 (I : Nat → Int32) (J : Nat → Int64) (A : Nat → Nat → Int32) (B : Nat → Nat → Int64) (tl : am_H) : am_len (HC I J A B tl) 31 = some 6 := rfl
theorem hc_i32 (I : Nat → Int32) (J : Nat → Int64) (A : Nat → Nat → Int32) (B : Nat → Nat → Int64) (tl : am_H) : am_is (HC I J A B tl) 32 2 := rfl
theorem hc_f32_0 (I : Nat → Int32) (J : Nat → Int64) (A : Nat → Nat → Int32) (B : Nat → Nat → Int64) (tl : am_H) : am_fld (HC I J A B tl) 32 2 0 = some (.ref 33) := rfl
theorem hc_f32_1 (I : Nat → Int32) (J : Nat → Int64) (A : Nat → Nat → Int32) (B : Nat → Nat → Int64) (tl : am_H) : am_fld (HC I J A B tl) 32 2 1 = some (.int (I 7)) := rfl
theorem hc_p32_1 (I : Nat → Int32) (J : Nat → Int64) (A : Nat → Nat → Int32) (B : Nat → Nat → Int64) (tl : am_H) (x : Int32) : am_put (HC I J A B tl) 32 2 1 (.int x) = some (HC (am_u I 7 x) J A B tl) := rfl
theorem hc_f32_2 (I : Nat → Int32) (J : Nat → Int64) (A : Nat → Nat → Int32) (B : Nat → Nat → Int64) (tl : am_H) : am_fld (HC I J A B tl) 32 2 2 = some (.int (I 8)) := rfl
theorem hc_p32_2 (I : Nat → Int32) (J : Nat → Int64) (A : Nat → Nat → Int32) (B : Nat → Nat → Int64) (tl : am_H) (x : Int32) : am_put (HC I J A B tl) 32 2 2 (.int x) = some (HC (am_u I 8 x) J A B tl) := rfl
theorem hc_f32_3 (I : Nat → Int32) (J : Nat → Int64) (A : Nat → Nat → Int32) (B : Nat → Nat → Int64) (tl : am_H) : am_fld (HC I J A B tl) 32 2 3 = some (.ref 12) := rfl
theorem hc_a33 (I : Nat → Int32) (J : Nat → Int64) (A : Nat → Nat → Int32) (B : Nat → Nat → Int64) (tl : am_H) : am_ia (HC I J A B tl) 33 = some (200, A 15) := rfl
theorem hc_s33 (I : Nat → Int32) (J : Nat → Int64) (A : Nat → Nat → Int32) (B : Nat → Nat → Int64) (tl : am_H) (f : Nat → Int32) : (HC I J A B tl).set 33 (.inl (200, .inl f)) = HC I J (am_u A 15 f) B tl := rfl
theorem hc_l33 (I : Nat → Int32) (J : Nat → Int64) (A : Nat → Nat → Int32) (B : Nat → Nat → Int64) (tl : am_H) : am_len (HC I J A B tl) 33 = some 200 := rfl
theorem hm_i34 (hd : Nat → am_C) (I : Nat → Int32) (A : Nat → Nat → Int32) (T : Nat → Int64) : am_is (HM hd I A T) 34 7 := rfl
theorem hm_f34_0 (hd : Nat → am_C) (I : Nat → Int32) (A : Nat → Nat → Int32) (T : Nat → Int64) : am_fld (HM hd I A T) 34 7 0 = some (.int (I 0)) := rfl
theorem hm_p34_0 (hd : Nat → am_C) (I : Nat → Int32) (A : Nat → Nat → Int32) (T : Nat → Int64) (x : Int32) : am_put (HM hd I A T) 34 7 0 (.int x) = some (HM hd (am_u I 0 x) A T) := rfl
theorem hm_f34_1 (hd : Nat → am_C) (I : Nat → Int32) (A : Nat → Nat → Int32) (T : Nat → Int64) : am_fld (HM hd I A T) 34 7 1 = some (.ref 35) := rfl
theorem hm_f34_2 (hd : Nat → am_C) (I : Nat → Int32) (A : Nat → Nat → Int32) (T : Nat → Int64) : am_fld (HM hd I A T) 34 7 2 = some (.int (I 1)) := rfl
theorem hm_p34_2 (hd : Nat → am_C) (I : Nat → Int32) (A : Nat → Nat → Int32) (T : Nat → Int64) (x : Int32) : am_put (HM hd I A T) 34 7 2 (.int x) = some (HM hd (am_u I 1 x) A T) := rfl
theorem hm_f34_3 (hd : Nat → am_C) (I : Nat → Int32) (A : Nat → Nat → Int32) (T : Nat → Int64) : am_fld (HM hd I A T) 34 7 3 = some (.ref 36) := rfl
theorem hm_f34_4 (hd : Nat → am_C) (I : Nat → Int32) (A : Nat → Nat → Int32) (T : Nat → Int64) : am_fld (HM hd I A T) 34 7 4 = some (.ref 37) := rfl
theorem hm_f34_5 (hd : Nat → am_C) (I : Nat → Int32) (A : Nat → Nat → Int32) (T : Nat → Int64) : am_fld (HM hd I A T) 34 7 5 = some (.ref 38) := rfl
theorem hm_f34_6 (hd : Nat → am_C) (I : Nat → Int32) (A : Nat → Nat → Int32) (T : Nat → Int64) : am_fld (HM hd I A T) 34 7 6 = some (.int (I 2)) := rfl
theorem hm_p34_6 (hd : Nat → am_C) (I : Nat → Int32) (A : Nat → Nat → Int32) (T : Nat → Int64) (x : Int32) : am_put (HM hd I A T) 34 7 6 (.int x) = some (HM hd (am_u I 2 x) A T) := rfl
theorem hm_f34_7 (hd : Nat → am_C) (I : Nat → Int32) (A : Nat → Nat → Int32) (T : Nat → Int64) : am_fld (HM hd I A T) 34 7 7 = some (.ref 39) := rfl
theorem hm_f34_8 (hd : Nat → am_C) (I : Nat → Int32) (A : Nat → Nat → Int32) (T : Nat → Int64) : am_fld (HM hd I A T) 34 7 8 = some (.ref 40) := rfl
theorem hm_f34_9 (hd : Nat → am_C) (I : Nat → Int32) (A : Nat → Nat → Int32) (T : Nat → Int64) : am_fld (HM hd I A T) 34 7 9 = some (.ref 41) := rfl
theorem hm_f34_10 (hd : Nat → am_C) (I : Nat → Int32) (A : Nat → Nat → Int32) (T : Nat → Int64) : am_fld (HM hd I A T) 34 7 10 = some (.int (I 3)) := rfl
theorem hm_p34_10 (hd : Nat → am_C) (I : Nat → Int32) (A : Nat → Nat → Int32) (T : Nat → Int64) (x : Int32) : am_put (HM hd I A T) 34 7 10 (.int x) = some (HM hd (am_u I 3 x) A T) := rfl
theorem hm_f34_11 (hd : Nat → am_C) (I : Nat → Int32) (A : Nat → Nat → Int32) (T : Nat → Int64) : am_fld (HM hd I A T) 34 7 11 = some (.ref 42) := rfl
theorem hm_f34_12 (hd : Nat → am_C) (I : Nat → Int32) (A : Nat → Nat → Int32) (T : Nat → Int64) : am_fld (HM hd I A T) 34 7 12 = some (.ref 43) := rfl
theorem hm_f34_13 (hd : Nat → am_C) (I : Nat → Int32) (A : Nat → Nat → Int32) (T : Nat → Int64) : am_fld (HM hd I A T) 34 7 13 = some (.ref 44) := rfl
theorem hm_f34_14 (hd : Nat → am_C) (I : Nat → Int32) (A : Nat → Nat → Int32) (T : Nat → Int64) : am_fld (HM hd I A T) 34 7 14 = some (.ref 45) := rfl
theorem hm_f34_15 (hd : Nat → am_C) (I : Nat → Int32) (A : Nat → Nat → Int32) (T : Nat → Int64) : am_fld (HM hd I A T) 34 7 15 = some (.ref 46) := rfl
theorem hm_f34_16 (hd : Nat → am_C) (I : Nat → Int32) (A : Nat → Nat → Int32) (T : Nat → Int64) : am_fld (HM hd I A T) 34 7 16 = some (.int (I 4)) := rfl
theorem hm_p34_16 (hd : Nat → am_C) (I : Nat → Int32) (A : Nat → Nat → Int32) (T : Nat → Int64) (x : Int32) : am_put (HM hd I A T) 34 7 16 (.int x) = some (HM hd (am_u I 4 x) A T) := rfl
theorem hm_f34_17 (hd : Nat → am_C) (I : Nat → Int32) (A : Nat → Nat → Int32) (T : Nat → Int64) : am_fld (HM hd I A T) 34 7 17 = some (.int (I 5)) := rfl
theorem hm_p34_17 (hd : Nat → am_C) (I : Nat → Int32) (A : Nat → Nat → Int32) (T : Nat → Int64) (x : Int32) : am_put (HM hd I A T) 34 7 17 (.int x) = some (HM hd (am_u I 5 x) A T) := rfl
theorem hm_f34_18 (hd : Nat → am_C) (I : Nat → Int32) (A : Nat → Nat → Int32) (T : Nat → Int64) : am_fld (HM hd I A T) 34 7 18 = some (.int (I 6)) := rfl
theorem hm_p34_18 (hd : Nat → am_C) (I : Nat → Int32) (A : Nat → Nat → Int32) (T : Nat → Int64) (x : Int32) : am_put (HM hd I A T) 34 7 18 (.int x) = some (HM hd (am_u I 6 x) A T) := rfl
theorem hm_f34_19 (hd : Nat → am_C) (I : Nat → Int32) (A : Nat → Nat → Int32) (T : Nat → Int64) : am_fld (HM hd I A T) 34 7 19 = some (.int (I 7)) := rfl
theorem hm_p34_19 (hd : Nat → am_C) (I : Nat → Int32) (A : Nat → Nat → Int32) (T : Nat → Int64) (x : Int32) : am_put (HM hd I A T) 34 7 19 (.int x) = some (HM hd (am_u I 7 x) A T) := rfl
theorem hm_f34_20 (hd : Nat → am_C) (I : Nat → Int32) (A : Nat → Nat → Int32) (T : Nat → Int64) : am_fld (HM hd I A T) 34 7 20 = some (.int (I 8)) := rfl
theorem hm_p34_20 (hd : Nat → am_C) (I : Nat → Int32) (A : Nat → Nat → Int32) (T : Nat → Int64) (x : Int32) : am_put (HM hd I A T) 34 7 20 (.int x) = some (HM hd (am_u I 8 x) A T) := rfl
theorem hm_f34_21 (hd : Nat → am_C) (I : Nat → Int32) (A : Nat → Nat → Int32) (T : Nat → Int64) : am_fld (HM hd I A T) 34 7 21 = some (.int (I 9)) := rfl
theorem hm_p34_21 (hd : Nat → am_C) (I : Nat → Int32) (A : Nat → Nat → Int32) (T : Nat → Int64) (x : Int32) : am_put (HM hd I A T) 34 7 21 (.int x) = some (HM hd (am_u I 9 x) A T) := rfl
theorem hm_f34_22 (hd : Nat → am_C) (I : Nat → Int32) (A : Nat → Nat → Int32) (T : Nat → Int64) : am_fld (HM hd I A T) 34 7 22 = some (.int (I 10)) := rfl
theorem hm_p34_22 (hd : Nat → am_C) (I : Nat → Int32) (A : Nat → Nat → Int32) (T : Nat → Int64) (x : Int32) : am_put (HM hd I A T) 34 7 22 (.int x) = some (HM hd (am_u I 10 x) A T) := rfl
theorem hm_f34_23 (hd : Nat → am_C) (I : Nat → Int32) (A : Nat → Nat → Int32) (T : Nat → Int64) : am_fld (HM hd I A T) 34 7 23 = some (.int (I 11)) := rfl
theorem hm_p34_23 (hd : Nat → am_C) (I : Nat → Int32) (A : Nat → Nat → Int32) (T : Nat → Int64) (x : Int32) : am_put (HM hd I A T) 34 7 23 (.int x) = some (HM hd (am_u I 11 x) A T) := rfl
theorem hm_f34_24 (hd : Nat → am_C) (I : Nat → Int32) (A : Nat → Nat → Int32) (T : Nat → Int64) : am_fld (HM hd I A T) 34 7 24 = some (.int (I 12)) := rfl
theorem hm_p34_24 (hd : Nat → am_C) (I : Nat → Int32) (A : Nat → Nat → Int32) (T : Nat → Int64) (x : Int32) : am_put (HM hd I A T) 34 7 24 (.int x) = some (HM hd (am_u I 12 x) A T) := rfl
theorem hm_f34_25 (hd : Nat → am_C) (I : Nat → Int32) (A : Nat → Nat → Int32) (T : Nat → Int64) : am_fld (HM hd I A T) 34 7 25 = some (.int (I 13)) := rfl
theorem hm_p34_25 (hd : Nat → am_C) (I : Nat → Int32) (A : Nat → Nat → Int32) (T : Nat → Int64) (x : Int32) : am_put (HM hd I A T) 34 7 25 (.int x) = some (HM hd (am_u I 13 x) A T) := rfl
theorem hm_f34_26 (hd : Nat → am_C) (I : Nat → Int32) (A : Nat → Nat → Int32) (T : Nat → Int64) : am_fld (HM hd I A T) 34 7 26 = some (.ref 47) := rfl
theorem hm_f34_27 (hd : Nat → am_C) (I : Nat → Int32) (A : Nat → Nat → Int32) (T : Nat → Int64) : am_fld (HM hd I A T) 34 7 27 = some (.ref 48) := rfl
theorem hm_f34_28 (hd : Nat → am_C) (I : Nat → Int32) (A : Nat → Nat → Int32) (T : Nat → Int64) : am_fld (HM hd I A T) 34 7 28 = some (.int (I 14)) := rfl
theorem hm_p34_28 (hd : Nat → am_C) (I : Nat → Int32) (A : Nat → Nat → Int32) (T : Nat → Int64) (x : Int32) : am_put (HM hd I A T) 34 7 28 (.int x) = some (HM hd (am_u I 14 x) A T) := rfl
theorem hm_f34_29 (hd : Nat → am_C) (I : Nat → Int32) (A : Nat → Nat → Int32) (T : Nat → Int64) : am_fld (HM hd I A T) 34 7 29 = some (.int (I 15)) := rfl
theorem hm_p34_29 (hd : Nat → am_C) (I : Nat → Int32) (A : Nat → Nat → Int32) (T : Nat → Int64) (x : Int32) : am_put (HM hd I A T) 34 7 29 (.int x) = some (HM hd (am_u I 15 x) A T) := rfl
theorem hm_f34_30 (hd : Nat → am_C) (I : Nat → Int32) (A : Nat → Nat → Int32) (T : Nat → Int64) : am_fld (HM hd I A T) 34 7 30 = some (.ref 49) := rfl
theorem hm_f34_31 (hd : Nat → am_C) (I : Nat → Int32) (A : Nat → Nat → Int32) (T : Nat → Int64) : am_fld (HM hd I A T) 34 7 31 = some (.ref 50) := rfl
theorem hm_f34_32 (hd : Nat → am_C) (I : Nat → Int32) (A : Nat → Nat → Int32) (T : Nat → Int64) : am_fld (HM hd I A T) 34 7 32 = some (.int (I 16)) := rfl
theorem hm_p34_32 (hd : Nat → am_C) (I : Nat → Int32) (A : Nat → Nat → Int32) (T : Nat → Int64) (x : Int32) : am_put (HM hd I A T) 34 7 32 (.int x) = some (HM hd (am_u I 16 x) A T) := rfl
theorem hm_f34_33 (hd : Nat → am_C) (I : Nat → Int32) (A : Nat → Nat → Int32) (T : Nat → Int64) : am_fld (HM hd I A T) 34 7 33 = some (.ref 51) := rfl
theorem hm_f34_34 (hd : Nat → am_C) (I : Nat → Int32) (A : Nat → Nat → Int32) (T : Nat → Int64) : am_fld (HM hd I A T) 34 7 34 = some (.ref 52) := rfl
theorem hm_f34_35 (hd : Nat → am_C) (I : Nat → Int32) (A : Nat → Nat → Int32) (T : Nat → Int64) : am_fld (HM hd I A T) 34 7 35 = some (.ref 53) := rfl
theorem hm_f34_36 (hd : Nat → am_C) (I : Nat → Int32) (A : Nat → Nat → Int32) (T : Nat → Int64) : am_fld (HM hd I A T) 34 7 36 = some (.ref 54) := rfl
theorem hm_f34_37 (hd : Nat → am_C) (I : Nat → Int32) (A : Nat → Nat → Int32) (T : Nat → Int64) : am_fld (HM hd I A T) 34 7 37 = some (.ref 55) := rfl
theorem hm_f34_38 (hd : Nat → am_C) (I : Nat → Int32) (A : Nat → Nat → Int32) (T : Nat → Int64) : am_fld (HM hd I A T) 34 7 38 = some (.ref 56) := rfl
theorem hm_a35 (hd : Nat → am_C) (I : Nat → Int32) (A : Nat → Nat → Int32) (T : Nat → Int64) : am_ia (HM hd I A T) 35 = some (200, A 0) := rfl
theorem hm_s35 (hd : Nat → am_C) (I : Nat → Int32) (A : Nat → Nat → Int32) (T : Nat → Int64) (f : Nat → Int32) : (HM hd I A T).set 35 (.inl (200, .inl f)) = HM hd I (am_u A 0 f) T := rfl
theorem hm_l35 (hd : Nat → am_C) (I : Nat → Int32) (A : Nat → Nat → Int32) (T : Nat → Int64) : am_len (HM hd I A T) 35 = some 200 := rfl
theorem hm_a36 (hd : Nat → am_C) (I : Nat → Int32) (A : Nat → Nat → Int32) (T : Nat → Int64) : am_ia (HM hd I A T) 36 = some (192, A 1) := rfl
theorem hm_s36 (hd : Nat → am_C) (I : Nat → Int32) (A : Nat → Nat → Int32) (T : Nat → Int64) (f : Nat → Int32) : (HM hd I A T).set 36 (.inl (192, .inl f)) = HM hd I (am_u A 1 f) T := rfl
theorem hm_l36 (hd : Nat → am_C) (I : Nat → Int32) (A : Nat → Nat → Int32) (T : Nat → Int64) : am_len (HM hd I A T) 36 = some 192 := rfl
theorem hm_a37 (hd : Nat → am_C) (I : Nat → Int32) (A : Nat → Nat → Int32) (T : Nat → Int64) : am_ia (HM hd I A T) 37 = some (216, A 2) := rfl
theorem hm_s37 (hd : Nat → am_C) (I : Nat → Int32) (A : Nat → Nat → Int32) (T : Nat → Int64) (f : Nat → Int32) : (HM hd I A T).set 37 (.inl (216, .inl f)) = HM hd I (am_u A 2 f) T := rfl
theorem hm_l37 (hd : Nat → am_C) (I : Nat → Int32) (A : Nat → Nat → Int32) (T : Nat → Int64) : am_len (HM hd I A T) 37 = some 216 := rfl
theorem hm_a38 (hd : Nat → am_C) (I : Nat → Int32) (A : Nat → Nat → Int32) (T : Nat → Int64) : am_ia (HM hd I A T) 38 = some (24, A 3) := rfl
theorem hm_s38 (hd : Nat → am_C) (I : Nat → Int32) (A : Nat → Nat → Int32) (T : Nat → Int64) (f : Nat → Int32) : (HM hd I A T).set 38 (.inl (24, .inl f)) = HM hd I (am_u A 3 f) T := rfl
theorem hm_l38 (hd : Nat → am_C) (I : Nat → Int32) (A : Nat → Nat → Int32) (T : Nat → Int64) : am_len (HM hd I A T) 38 = some 24 := rfl
theorem hm_a39 (hd : Nat → am_C) (I : Nat → Int32) (A : Nat → Nat → Int32) (T : Nat → Int64) : am_ia (HM hd I A T) 39 = some (200, A 4) := rfl
theorem hm_s39 (hd : Nat → am_C) (I : Nat → Int32) (A : Nat → Nat → Int32) (T : Nat → Int64) (f : Nat → Int32) : (HM hd I A T).set 39 (.inl (200, .inl f)) = HM hd I (am_u A 4 f) T := rfl
theorem hm_l39 (hd : Nat → am_C) (I : Nat → Int32) (A : Nat → Nat → Int32) (T : Nat → Int64) : am_len (HM hd I A T) 39 = some 200 := rfl
theorem hm_a40 (hd : Nat → am_C) (I : Nat → Int32) (A : Nat → Nat → Int32) (T : Nat → Int64) : am_ia (HM hd I A T) 40 = some (225, A 5) := rfl
theorem hm_s40 (hd : Nat → am_C) (I : Nat → Int32) (A : Nat → Nat → Int32) (T : Nat → Int64) (f : Nat → Int32) : (HM hd I A T).set 40 (.inl (225, .inl f)) = HM hd I (am_u A 5 f) T := rfl
theorem hm_l40 (hd : Nat → am_C) (I : Nat → Int32) (A : Nat → Nat → Int32) (T : Nat → Int64) : am_len (HM hd I A T) 40 = some 225 := rfl
theorem hm_a41 (hd : Nat → am_C) (I : Nat → Int32) (A : Nat → Nat → Int32) (T : Nat → Int64) : am_ia (HM hd I A T) 41 = some (25, A 6) := rfl
theorem hm_s41 (hd : Nat → am_C) (I : Nat → Int32) (A : Nat → Nat → Int32) (T : Nat → Int64) (f : Nat → Int32) : (HM hd I A T).set 41 (.inl (25, .inl f)) = HM hd I (am_u A 6 f) T := rfl
theorem hm_l41 (hd : Nat → am_C) (I : Nat → Int32) (A : Nat → Nat → Int32) (T : Nat → Int64) : am_len (HM hd I A T) 41 = some 25 := rfl
theorem hm_a42 (hd : Nat → am_C) (I : Nat → Int32) (A : Nat → Nat → Int32) (T : Nat → Int64) : am_ia (HM hd I A T) 42 = some (48, A 7) := rfl
theorem hm_s42 (hd : Nat → am_C) (I : Nat → Int32) (A : Nat → Nat → Int32) (T : Nat → Int64) (f : Nat → Int32) : (HM hd I A T).set 42 (.inl (48, .inl f)) = HM hd I (am_u A 7 f) T := rfl
theorem hm_l42 (hd : Nat → am_C) (I : Nat → Int32) (A : Nat → Nat → Int32) (T : Nat → Int64) : am_len (HM hd I A T) 42 = some 48 := rfl
theorem hm_a43 (hd : Nat → am_C) (I : Nat → Int32) (A : Nat → Nat → Int32) (T : Nat → Int64) : am_ia (HM hd I A T) 43 = some (9, A 8) := rfl
theorem hm_s43 (hd : Nat → am_C) (I : Nat → Int32) (A : Nat → Nat → Int32) (T : Nat → Int64) (f : Nat → Int32) : (HM hd I A T).set 43 (.inl (9, .inl f)) = HM hd I (am_u A 8 f) T := rfl
theorem hm_l43 (hd : Nat → am_C) (I : Nat → Int32) (A : Nat → Nat → Int32) (T : Nat → Int64) : am_len (HM hd I A T) 43 = some 9 := rfl
theorem hm_a44 (hd : Nat → am_C) (I : Nat → Int32) (A : Nat → Nat → Int32) (T : Nat → Int64) : am_ia (HM hd I A T) 44 = some (9, A 9) := rfl
theorem hm_s44 (hd : Nat → am_C) (I : Nat → Int32) (A : Nat → Nat → Int32) (T : Nat → Int64) (f : Nat → Int32) : (HM hd I A T).set 44 (.inl (9, .inl f)) = HM hd I (am_u A 9 f) T := rfl
theorem hm_l44 (hd : Nat → am_C) (I : Nat → Int32) (A : Nat → Nat → Int32) (T : Nat → Int64) : am_len (HM hd I A T) 44 = some 9 := rfl
theorem hm_a45 (hd : Nat → am_C) (I : Nat → Int32) (A : Nat → Nat → Int32) (T : Nat → Int64) : am_ia (HM hd I A T) 45 = some (11, A 10) := rfl
theorem hm_s45 (hd : Nat → am_C) (I : Nat → Int32) (A : Nat → Nat → Int32) (T : Nat → Int64) (f : Nat → Int32) : (HM hd I A T).set 45 (.inl (11, .inl f)) = HM hd I (am_u A 10 f) T := rfl
theorem hm_l45 (hd : Nat → am_C) (I : Nat → Int32) (A : Nat → Nat → Int32) (T : Nat → Int64) : am_len (HM hd I A T) 45 = some 11 := rfl
theorem hm_a46 (hd : Nat → am_C) (I : Nat → Int32) (A : Nat → Nat → Int32) (T : Nat → Int64) : am_la (HM hd I A T) 46 = some (10752, T) := rfl
theorem hm_s46 (hd : Nat → am_C) (I : Nat → Int32) (A : Nat → Nat → Int32) (T : Nat → Int64) (f : Nat → Int64) : (HM hd I A T).set 46 (.inl (10752, .inr (.inl f))) = HM hd I A f := rfl
theorem hm_l46 (hd : Nat → am_C) (I : Nat → Int32) (A : Nat → Nat → Int32) (T : Nat → Int64) : am_len (HM hd I A T) 46 = some 10752 := rfl
theorem hm_a47 (hd : Nat → am_C) (I : Nat → Int32) (A : Nat → Nat → Int32) (T : Nat → Int64) : am_ia (HM hd I A T) 47 = some (8, A 11) := rfl
theorem hm_s47 (hd : Nat → am_C) (I : Nat → Int32) (A : Nat → Nat → Int32) (T : Nat → Int64) (f : Nat → Int32) : (HM hd I A T).set 47 (.inl (8, .inl f)) = HM hd I (am_u A 11 f) T := rfl
theorem hm_l47 (hd : Nat → am_C) (I : Nat → Int32) (A : Nat → Nat → Int32) (T : Nat → Int64) : am_len (HM hd I A T) 47 = some 8 := rfl
theorem hm_a48 (hd : Nat → am_C) (I : Nat → Int32) (A : Nat → Nat → Int32) (T : Nat → Int64) : am_ia (HM hd I A T) 48 = some (42, A 12) := rfl
theorem hm_s48 (hd : Nat → am_C) (I : Nat → Int32) (A : Nat → Nat → Int32) (T : Nat → Int64) (f : Nat → Int32) : (HM hd I A T).set 48 (.inl (42, .inl f)) = HM hd I (am_u A 12 f) T := rfl
theorem hm_l48 (hd : Nat → am_C) (I : Nat → Int32) (A : Nat → Nat → Int32) (T : Nat → Int64) : am_len (HM hd I A T) 48 = some 42 := rfl
theorem hm_a49 (hd : Nat → am_C) (I : Nat → Int32) (A : Nat → Nat → Int32) (T : Nat → Int64) : am_ia (HM hd I A T) 49 = some (400, A 13) := rfl
theorem hm_s49 (hd : Nat → am_C) (I : Nat → Int32) (A : Nat → Nat → Int32) (T : Nat → Int64) (f : Nat → Int32) : (HM hd I A T).set 49 (.inl (400, .inl f)) = HM hd I (am_u A 13 f) T := rfl
theorem hm_l49 (hd : Nat → am_C) (I : Nat → Int32) (A : Nat → Nat → Int32) (T : Nat → Int64) : am_len (HM hd I A T) 49 = some 400 := rfl
theorem hm_a50 (hd : Nat → am_C) (I : Nat → Int32) (A : Nat → Nat → Int32) (T : Nat → Int64) : am_ia (HM hd I A T) 50 = some (60, A 14) := rfl
theorem hm_s50 (hd : Nat → am_C) (I : Nat → Int32) (A : Nat → Nat → Int32) (T : Nat → Int64) (f : Nat → Int32) : (HM hd I A T).set 50 (.inl (60, .inl f)) = HM hd I (am_u A 14 f) T := rfl
theorem hm_l50 (hd : Nat → am_C) (I : Nat → Int32) (A : Nat → Nat → Int32) (T : Nat → Int64) : am_len (HM hd I A T) 50 = some 60 := rfl
theorem hm_a51 (hd : Nat → am_C) (I : Nat → Int32) (A : Nat → Nat → Int32) (T : Nat → Int64) : am_ia (HM hd I A T) 51 = some (28, A 15) := rfl
theorem hm_s51 (hd : Nat → am_C) (I : Nat → Int32) (A : Nat → Nat → Int32) (T : Nat → Int64) (f : Nat → Int32) : (HM hd I A T).set 51 (.inl (28, .inl f)) = HM hd I (am_u A 15 f) T := rfl
theorem hm_l51 (hd : Nat → am_C) (I : Nat → Int32) (A : Nat → Nat → Int32) (T : Nat → Int64) : am_len (HM hd I A T) 51 = some 28 := rfl
theorem hm_a52 (hd : Nat → am_C) (I : Nat → Int32) (A : Nat → Nat → Int32) (T : Nat → Int64) : am_ia (HM hd I A T) 52 = some (29, A 16) := rfl
theorem hm_s52 (hd : Nat → am_C) (I : Nat → Int32) (A : Nat → Nat → Int32) (T : Nat → Int64) (f : Nat → Int32) : (HM hd I A T).set 52 (.inl (29, .inl f)) = HM hd I (am_u A 16 f) T := rfl
theorem hm_l52 (hd : Nat → am_C) (I : Nat → Int32) (A : Nat → Nat → Int32) (T : Nat → Int64) : am_len (HM hd I A T) 52 = some 29 := rfl
theorem hm_a53 (hd : Nat → am_C) (I : Nat → Int32) (A : Nat → Nat → Int32) (T : Nat → Int64) : am_ia (HM hd I A T) 53 = some (30, A 17) := rfl
theorem hm_s53 (hd : Nat → am_C) (I : Nat → Int32) (A : Nat → Nat → Int32) (T : Nat → Int64) (f : Nat → Int32) : (HM hd I A T).set 53 (.inl (30, .inl f)) = HM hd I (am_u A 17 f) T := rfl
theorem hm_l53 (hd : Nat → am_C) (I : Nat → Int32) (A : Nat → Nat → Int32) (T : Nat → Int64) : am_len (HM hd I A T) 53 = some 30 := rfl
theorem hm_a54 (hd : Nat → am_C) (I : Nat → Int32) (A : Nat → Nat → Int32) (T : Nat → Int64) : am_ia (HM hd I A T) 54 = some (30, A 18) := rfl
theorem hm_s54 (hd : Nat → am_C) (I : Nat → Int32) (A : Nat → Nat → Int32) (T : Nat → Int64) (f : Nat → Int32) : (HM hd I A T).set 54 (.inl (30, .inl f)) = HM hd I (am_u A 18 f) T := rfl
theorem hm_l54 (hd : Nat → am_C) (I : Nat → Int32) (A : Nat → Nat → Int32) (T : Nat → Int64) : am_len (HM hd I A T) 54 = some 30 := rfl
theorem hm_a55 (hd : Nat → am_C) (I : Nat → Int32) (A : Nat → Nat → Int32) (T : Nat → Int64) : am_ia (HM hd I A T) 55 = some (16, A 19) := rfl
theorem hm_s55 (hd : Nat → am_C) (I : Nat → Int32) (A : Nat → Nat → Int32) (T : Nat → Int64) (f : Nat → Int32) : (HM hd I A T).set 55 (.inl (16, .inl f)) = HM hd I (am_u A 19 f) T := rfl
theorem hm_l55 (hd : Nat → am_C) (I : Nat → Int32) (A : Nat → Nat → Int32) (T : Nat → Int64) : am_len (HM hd I A T) 55 = some 16 := rfl
theorem hm_a56 (hd : Nat → am_C) (I : Nat → Int32) (A : Nat → Nat → Int32) (T : Nat → Int64) : am_ia (HM hd I A T) 56 = some (48, A 20) := rfl
theorem hm_s56 (hd : Nat → am_C) (I : Nat → Int32) (A : Nat → Nat → Int32) (T : Nat → Int64) (f : Nat → Int32) : (HM hd I A T).set 56 (.inl (48, .inl f)) = HM hd I (am_u A 20 f) T := rfl
theorem hm_l56 (hd : Nat → am_C) (I : Nat → Int32) (A : Nat → Nat → Int32) (T : Nat → Int64) : am_len (HM hd I A T) 56 = some 48 := rfl
