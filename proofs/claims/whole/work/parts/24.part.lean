/-! Part: a set of the answer's letters and a direction, as a number below 512 -/
def pt_pos (p : Nat) : List Nat := if p &&& 256 = 0 then (List.range 8).filter (fun i => p.testBit i) else ((List.range 8).filter (fun i => p.testBit i)).reverse
def pt_sz (p : Nat) : Nat := (pt_pos p).length
def pt_low (l : Nat) : Nat := l &&& (4294967296 - l)
def pt_hb (l : Nat) : Nat → Nat
  | 0 => if l &&& 1 = 0 then 0 else 1
  | k + 1 => if l &&& 2 ^ (k + 1) = 0 then pt_hb l k else 2 ^ (k + 1)
def pt_f (p : Nat) : Nat := if p &&& 256 = 0 then pt_low (p &&& 255) else pt_hb (p &&& 255) 7
def pt_m (p q : Nat) : Nat := p &&& ((q &&& 255) ^^^ 4294967295)
section PT
variable {h : am_H} {Q : am_Q}
def pt_bc (x : Int32) : Int32 :=
  let a := x - ((x.toUInt32 >>> ((1 : Int32).toUInt32 &&& Int32.toUInt32 31)).toInt32 &&& 1431655765)
  let b := (a &&& 858993459) + ((a.toUInt32 >>> ((2 : Int32).toUInt32 &&& Int32.toUInt32 31)).toInt32 &&& 858993459)
  let d := (b + (b.toUInt32 >>> ((4 : Int32).toUInt32 &&& Int32.toUInt32 31)).toInt32) &&& 252645135
  let e := d + (d.toUInt32 >>> ((8 : Int32).toUInt32 &&& Int32.toUInt32 31)).toInt32
  let f := e + (e.toUInt32 >>> ((16 : Int32).toUInt32 &&& Int32.toUInt32 31)).toInt32
  f &&& 63
theorem p_J6_bitCount {x : Int32} (hQ : Q (some (.int (pt_bc x))) h) : K_J6_bitCount_0f7a4 [.int x] h Q := by
  refine ⟨Nat.le_of_ble_eq_true rfl, fun G hG => ?_⟩
  refine hG _ _ _ ?_
  simp only [B_J6_bitCount_0f7a4_0, ak_c, ak_il, ak_ll, ak_al, ak_is, ak_as, ak_ls, ak_ii, ak_ib, ak_id, ak_lb, ak_lx, ak_lc, ak_iu, ak_i2l, ak_l2i, ak_dup, ak_dup2, ak_pop, ak_if, ak_ic, ak_sw, am_sws, ak_get, ak_puti, ak_putz, ak_putl, ak_puta, ak_iald, ak_lald, ak_iast, ak_last, ak_alen, ak_cs, ak_cv, ak_ri, ak_rz, ak_rl, ak_rv, am_ent, am_sp, am_pu, am_rs, Value.category, am_st1, am_st2, am_clr, List.getElem?_cons_zero, List.getElem?_cons_succ, List.set_cons_zero, List.set_cons_succ, List.length_cons, List.length_nil, Nat.reduceAdd, Nat.reduceLT, Nat.reduceLeDiff, Nat.zero_add, Nat.add_zero, true_and, and_true, if_true, if_false, Option.some.injEq, true_implies, false_implies, not_true_eq_false, not_false_eq_true, hc_i0, hc_f0_0, hc_f0_1, hc_f0_2, hc_f0_3, hc_f0_4, hc_f0_5, hc_f0_6, hc_p0_6, hc_i1, hc_f1_0, hc_f1_1, hc_p1_1, hc_a2, hc_s2, hc_l2, hc_i3, hc_f3_0, hc_f3_1, hc_f3_2, hc_f3_3, hc_p3_3, hc_a4, hc_s4, hc_l4, hc_a5, hc_s5, hc_l5, hc_a6, hc_s6, hc_l6, hc_i7, hc_f7_0, hc_f7_1, hc_f7_2, hc_f7_3, hc_p7_3, hc_a8, hc_s8, hc_l8, hc_a9, hc_s9, hc_l9, hc_a10, hc_s10, hc_l10, hc_a11, hc_s11, hc_l11, hc_i12, hc_f12_0, hc_f12_1, hc_f12_2, hc_f12_3, hc_f12_4, hc_f12_5, hc_f12_6, hc_f12_7, hc_p12_7, hc_f12_8, hc_p12_8, hc_f12_9, hc_p12_9, hc_f12_10, hc_p12_10, hc_f12_11, hc_p12_11, hc_i13, hc_f13_0, hc_f13_1, hc_f13_2, hc_f13_3, hc_f13_4, hc_a14, hc_s14, hc_l14, hc_a15, hc_s15, hc_l15, hc_a16, hc_s16, hc_l16, hc_a17, hc_s17, hc_l17, hc_a18, hc_s18, hc_l18, hc_i19, hc_f19_0, hc_f19_1, hc_f19_2, hc_f19_3, hc_f19_4, hc_a20, hc_s20, hc_l20, hc_a21, hc_s21, hc_l21, hc_a22, hc_s22, hc_l22, hc_a23, hc_s23, hc_l23, hc_a24, hc_s24, hc_l24, hc_i25, hc_f25_0, hc_f25_1, hc_f25_2, hc_f25_3, hc_f25_4, hc_a26, hc_s26, hc_l26, hc_a27, hc_s27, hc_l27, hc_a28, hc_s28, hc_l28, hc_a29, hc_s29, hc_l29, hc_a30, hc_s30, hc_l30, hc_a31, hc_s31, hc_l31, hc_i32, hc_f32_0, hc_f32_1, hc_p32_1, hc_f32_2, hc_p32_2, hc_f32_3, hc_a33, hc_s33, hc_l33]
  exact hQ
theorem pt_bc_sz : ∀ p, p < 512 → pt_bc (nI p &&& 255) = nI (pt_sz p) := by decide +kernel
theorem pt_bc_pw : ∀ k, k < 9 → pt_bc (nI (2 ^ k) - 1) = nI k := by decide +kernel
theorem p_X4_size {p : Nat} (hp : p < 512) (hQ : Q (some (.int (nI (pt_sz p)))) h) : K_X4_size [.int (nI p)] h Q := by
  refine ⟨Nat.le_of_ble_eq_true rfl, fun G hG => ?_⟩
  refine hG _ _ _ ?_
  simp only [B_X4_size_0, ak_c, ak_il, ak_ll, ak_al, ak_is, ak_as, ak_ls, ak_ii, ak_ib, ak_id, ak_lb, ak_lx, ak_lc, ak_iu, ak_i2l, ak_l2i, ak_dup, ak_dup2, ak_pop, ak_if, ak_ic, ak_sw, am_sws, ak_get, ak_puti, ak_putz, ak_putl, ak_puta, ak_iald, ak_lald, ak_iast, ak_last, ak_alen, ak_cs, ak_cv, ak_ri, ak_rz, ak_rl, ak_rv, am_ent, am_sp, am_pu, am_rs, Value.category, am_st1, am_st2, am_clr, List.getElem?_cons_zero, List.getElem?_cons_succ, List.set_cons_zero, List.set_cons_succ, List.length_cons, List.length_nil, Nat.reduceAdd, Nat.reduceLT, Nat.reduceLeDiff, Nat.zero_add, Nat.add_zero, true_and, and_true, if_true, if_false, Option.some.injEq, true_implies, false_implies, not_true_eq_false, not_false_eq_true, hc_i0, hc_f0_0, hc_f0_1, hc_f0_2, hc_f0_3, hc_f0_4, hc_f0_5, hc_f0_6, hc_p0_6, hc_i1, hc_f1_0, hc_f1_1, hc_p1_1, hc_a2, hc_s2, hc_l2, hc_i3, hc_f3_0, hc_f3_1, hc_f3_2, hc_f3_3, hc_p3_3, hc_a4, hc_s4, hc_l4, hc_a5, hc_s5, hc_l5, hc_a6, hc_s6, hc_l6, hc_i7, hc_f7_0, hc_f7_1, hc_f7_2, hc_f7_3, hc_p7_3, hc_a8, hc_s8, hc_l8, hc_a9, hc_s9, hc_l9, hc_a10, hc_s10, hc_l10, hc_a11, hc_s11, hc_l11, hc_i12, hc_f12_0, hc_f12_1, hc_f12_2, hc_f12_3, hc_f12_4, hc_f12_5, hc_f12_6, hc_f12_7, hc_p12_7, hc_f12_8, hc_p12_8, hc_f12_9, hc_p12_9, hc_f12_10, hc_p12_10, hc_f12_11, hc_p12_11, hc_i13, hc_f13_0, hc_f13_1, hc_f13_2, hc_f13_3, hc_f13_4, hc_a14, hc_s14, hc_l14, hc_a15, hc_s15, hc_l15, hc_a16, hc_s16, hc_l16, hc_a17, hc_s17, hc_l17, hc_a18, hc_s18, hc_l18, hc_i19, hc_f19_0, hc_f19_1, hc_f19_2, hc_f19_3, hc_f19_4, hc_a20, hc_s20, hc_l20, hc_a21, hc_s21, hc_l21, hc_a22, hc_s22, hc_l22, hc_a23, hc_s23, hc_l23, hc_a24, hc_s24, hc_l24, hc_i25, hc_f25_0, hc_f25_1, hc_f25_2, hc_f25_3, hc_f25_4, hc_a26, hc_s26, hc_l26, hc_a27, hc_s27, hc_l27, hc_a28, hc_s28, hc_l28, hc_a29, hc_s29, hc_l29, hc_a30, hc_s30, hc_l30, hc_a31, hc_s31, hc_l31, hc_i32, hc_f32_0, hc_f32_1, hc_p32_1, hc_f32_2, hc_p32_2, hc_f32_3, hc_a33, hc_s33, hc_l33]
  refine p_J6_bitCount ?_
  simp only [ak_c, ak_il, ak_ll, ak_al, ak_is, ak_as, ak_ls, ak_ii, ak_ib, ak_id, ak_lb, ak_lx, ak_lc, ak_iu, ak_i2l, ak_l2i, ak_dup, ak_dup2, ak_pop, ak_if, ak_ic, ak_sw, am_sws, ak_get, ak_puti, ak_putz, ak_putl, ak_puta, ak_iald, ak_lald, ak_iast, ak_last, ak_alen, ak_cs, ak_cv, ak_ri, ak_rz, ak_rl, ak_rv, am_ent, am_sp, am_pu, am_rs, Value.category, am_st1, am_st2, am_clr, List.getElem?_cons_zero, List.getElem?_cons_succ, List.set_cons_zero, List.set_cons_succ, List.length_cons, List.length_nil, Nat.reduceAdd, Nat.reduceLT, Nat.reduceLeDiff, Nat.zero_add, Nat.add_zero, true_and, and_true, if_true, if_false, Option.some.injEq, true_implies, false_implies, not_true_eq_false, not_false_eq_true, hc_i0, hc_f0_0, hc_f0_1, hc_f0_2, hc_f0_3, hc_f0_4, hc_f0_5, hc_f0_6, hc_p0_6, hc_i1, hc_f1_0, hc_f1_1, hc_p1_1, hc_a2, hc_s2, hc_l2, hc_i3, hc_f3_0, hc_f3_1, hc_f3_2, hc_f3_3, hc_p3_3, hc_a4, hc_s4, hc_l4, hc_a5, hc_s5, hc_l5, hc_a6, hc_s6, hc_l6, hc_i7, hc_f7_0, hc_f7_1, hc_f7_2, hc_f7_3, hc_p7_3, hc_a8, hc_s8, hc_l8, hc_a9, hc_s9, hc_l9, hc_a10, hc_s10, hc_l10, hc_a11, hc_s11, hc_l11, hc_i12, hc_f12_0, hc_f12_1, hc_f12_2, hc_f12_3, hc_f12_4, hc_f12_5, hc_f12_6, hc_f12_7, hc_p12_7, hc_f12_8, hc_p12_8, hc_f12_9, hc_p12_9, hc_f12_10, hc_p12_10, hc_f12_11, hc_p12_11, hc_i13, hc_f13_0, hc_f13_1, hc_f13_2, hc_f13_3, hc_f13_4, hc_a14, hc_s14, hc_l14, hc_a15, hc_s15, hc_l15, hc_a16, hc_s16, hc_l16, hc_a17, hc_s17, hc_l17, hc_a18, hc_s18, hc_l18, hc_i19, hc_f19_0, hc_f19_1, hc_f19_2, hc_f19_3, hc_f19_4, hc_a20, hc_s20, hc_l20, hc_a21, hc_s21, hc_l21, hc_a22, hc_s22, hc_l22, hc_a23, hc_s23, hc_l23, hc_a24, hc_s24, hc_l24, hc_i25, hc_f25_0, hc_f25_1, hc_f25_2, hc_f25_3, hc_f25_4, hc_a26, hc_s26, hc_l26, hc_a27, hc_s27, hc_l27, hc_a28, hc_s28, hc_l28, hc_a29, hc_s29, hc_l29, hc_a30, hc_s30, hc_l30, hc_a31, hc_s31, hc_l31, hc_i32, hc_f32_0, hc_f32_1, hc_p32_1, hc_f32_2, hc_p32_2, hc_f32_3, hc_a33, hc_s33, hc_l33]
  rw [pt_bc_sz p hp]
  exact hQ
theorem p_X4_direction {p : Nat} (hQ : Q (some (.int (nI (p &&& 256)))) h) : K_X4_direction [.int (nI p)] h Q := by
  refine ⟨Nat.le_of_ble_eq_true rfl, fun G hG => ?_⟩
  refine hG _ _ _ ?_
  simp only [B_X4_direction_0, ak_c, ak_il, ak_ll, ak_al, ak_is, ak_as, ak_ls, ak_ii, ak_ib, ak_id, ak_lb, ak_lx, ak_lc, ak_iu, ak_i2l, ak_l2i, ak_dup, ak_dup2, ak_pop, ak_if, ak_ic, ak_sw, am_sws, ak_get, ak_puti, ak_putz, ak_putl, ak_puta, ak_iald, ak_lald, ak_iast, ak_last, ak_alen, ak_cs, ak_cv, ak_ri, ak_rz, ak_rl, ak_rv, am_ent, am_sp, am_pu, am_rs, Value.category, am_st1, am_st2, am_clr, List.getElem?_cons_zero, List.getElem?_cons_succ, List.set_cons_zero, List.set_cons_succ, List.length_cons, List.length_nil, Nat.reduceAdd, Nat.reduceLT, Nat.reduceLeDiff, Nat.zero_add, Nat.add_zero, true_and, and_true, if_true, if_false, Option.some.injEq, true_implies, false_implies, not_true_eq_false, not_false_eq_true, hc_i0, hc_f0_0, hc_f0_1, hc_f0_2, hc_f0_3, hc_f0_4, hc_f0_5, hc_f0_6, hc_p0_6, hc_i1, hc_f1_0, hc_f1_1, hc_p1_1, hc_a2, hc_s2, hc_l2, hc_i3, hc_f3_0, hc_f3_1, hc_f3_2, hc_f3_3, hc_p3_3, hc_a4, hc_s4, hc_l4, hc_a5, hc_s5, hc_l5, hc_a6, hc_s6, hc_l6, hc_i7, hc_f7_0, hc_f7_1, hc_f7_2, hc_f7_3, hc_p7_3, hc_a8, hc_s8, hc_l8, hc_a9, hc_s9, hc_l9, hc_a10, hc_s10, hc_l10, hc_a11, hc_s11, hc_l11, hc_i12, hc_f12_0, hc_f12_1, hc_f12_2, hc_f12_3, hc_f12_4, hc_f12_5, hc_f12_6, hc_f12_7, hc_p12_7, hc_f12_8, hc_p12_8, hc_f12_9, hc_p12_9, hc_f12_10, hc_p12_10, hc_f12_11, hc_p12_11, hc_i13, hc_f13_0, hc_f13_1, hc_f13_2, hc_f13_3, hc_f13_4, hc_a14, hc_s14, hc_l14, hc_a15, hc_s15, hc_l15, hc_a16, hc_s16, hc_l16, hc_a17, hc_s17, hc_l17, hc_a18, hc_s18, hc_l18, hc_i19, hc_f19_0, hc_f19_1, hc_f19_2, hc_f19_3, hc_f19_4, hc_a20, hc_s20, hc_l20, hc_a21, hc_s21, hc_l21, hc_a22, hc_s22, hc_l22, hc_a23, hc_s23, hc_l23, hc_a24, hc_s24, hc_l24, hc_i25, hc_f25_0, hc_f25_1, hc_f25_2, hc_f25_3, hc_f25_4, hc_a26, hc_s26, hc_l26, hc_a27, hc_s27, hc_l27, hc_a28, hc_s28, hc_l28, hc_a29, hc_s29, hc_l29, hc_a30, hc_s30, hc_l30, hc_a31, hc_s31, hc_l31, hc_i32, hc_f32_0, hc_f32_1, hc_p32_1, hc_f32_2, hc_p32_2, hc_f32_3, hc_a33, hc_s33, hc_l33]
  rw [n_lit, n_and]
  exact hQ
theorem p_X4_reversed {p : Nat} (hQ : Q (some (.int (nI (p ^^^ 256)))) h) : K_X4_reversed [.int (nI p)] h Q := by
  refine ⟨Nat.le_of_ble_eq_true rfl, fun G hG => ?_⟩
  refine hG _ _ _ ?_
  simp only [B_X4_reversed_0, ak_c, ak_il, ak_ll, ak_al, ak_is, ak_as, ak_ls, ak_ii, ak_ib, ak_id, ak_lb, ak_lx, ak_lc, ak_iu, ak_i2l, ak_l2i, ak_dup, ak_dup2, ak_pop, ak_if, ak_ic, ak_sw, am_sws, ak_get, ak_puti, ak_putz, ak_putl, ak_puta, ak_iald, ak_lald, ak_iast, ak_last, ak_alen, ak_cs, ak_cv, ak_ri, ak_rz, ak_rl, ak_rv, am_ent, am_sp, am_pu, am_rs, Value.category, am_st1, am_st2, am_clr, List.getElem?_cons_zero, List.getElem?_cons_succ, List.set_cons_zero, List.set_cons_succ, List.length_cons, List.length_nil, Nat.reduceAdd, Nat.reduceLT, Nat.reduceLeDiff, Nat.zero_add, Nat.add_zero, true_and, and_true, if_true, if_false, Option.some.injEq, true_implies, false_implies, not_true_eq_false, not_false_eq_true, hc_i0, hc_f0_0, hc_f0_1, hc_f0_2, hc_f0_3, hc_f0_4, hc_f0_5, hc_f0_6, hc_p0_6, hc_i1, hc_f1_0, hc_f1_1, hc_p1_1, hc_a2, hc_s2, hc_l2, hc_i3, hc_f3_0, hc_f3_1, hc_f3_2, hc_f3_3, hc_p3_3, hc_a4, hc_s4, hc_l4, hc_a5, hc_s5, hc_l5, hc_a6, hc_s6, hc_l6, hc_i7, hc_f7_0, hc_f7_1, hc_f7_2, hc_f7_3, hc_p7_3, hc_a8, hc_s8, hc_l8, hc_a9, hc_s9, hc_l9, hc_a10, hc_s10, hc_l10, hc_a11, hc_s11, hc_l11, hc_i12, hc_f12_0, hc_f12_1, hc_f12_2, hc_f12_3, hc_f12_4, hc_f12_5, hc_f12_6, hc_f12_7, hc_p12_7, hc_f12_8, hc_p12_8, hc_f12_9, hc_p12_9, hc_f12_10, hc_p12_10, hc_f12_11, hc_p12_11, hc_i13, hc_f13_0, hc_f13_1, hc_f13_2, hc_f13_3, hc_f13_4, hc_a14, hc_s14, hc_l14, hc_a15, hc_s15, hc_l15, hc_a16, hc_s16, hc_l16, hc_a17, hc_s17, hc_l17, hc_a18, hc_s18, hc_l18, hc_i19, hc_f19_0, hc_f19_1, hc_f19_2, hc_f19_3, hc_f19_4, hc_a20, hc_s20, hc_l20, hc_a21, hc_s21, hc_l21, hc_a22, hc_s22, hc_l22, hc_a23, hc_s23, hc_l23, hc_a24, hc_s24, hc_l24, hc_i25, hc_f25_0, hc_f25_1, hc_f25_2, hc_f25_3, hc_f25_4, hc_a26, hc_s26, hc_l26, hc_a27, hc_s27, hc_l27, hc_a28, hc_s28, hc_l28, hc_a29, hc_s29, hc_l29, hc_a30, hc_s30, hc_l30, hc_a31, hc_s31, hc_l31, hc_i32, hc_f32_0, hc_f32_1, hc_p32_1, hc_f32_2, hc_p32_2, hc_f32_3, hc_a33, hc_s33, hc_l33]
  rw [n_lit, n_xor]
  exact hQ
theorem p_X4_minus {p q : Nat} (hQ : Q (some (.int (nI (pt_m p q)))) h) : K_X4_minus [.int (nI p), .int (nI q)] h Q := by
  refine ⟨Nat.le_of_ble_eq_true rfl, fun G hG => ?_⟩
  refine hG _ _ _ ?_
  simp only [B_X4_minus_0, ak_c, ak_il, ak_ll, ak_al, ak_is, ak_as, ak_ls, ak_ii, ak_ib, ak_id, ak_lb, ak_lx, ak_lc, ak_iu, ak_i2l, ak_l2i, ak_dup, ak_dup2, ak_pop, ak_if, ak_ic, ak_sw, am_sws, ak_get, ak_puti, ak_putz, ak_putl, ak_puta, ak_iald, ak_lald, ak_iast, ak_last, ak_alen, ak_cs, ak_cv, ak_ri, ak_rz, ak_rl, ak_rv, am_ent, am_sp, am_pu, am_rs, Value.category, am_st1, am_st2, am_clr, List.getElem?_cons_zero, List.getElem?_cons_succ, List.set_cons_zero, List.set_cons_succ, List.length_cons, List.length_nil, Nat.reduceAdd, Nat.reduceLT, Nat.reduceLeDiff, Nat.zero_add, Nat.add_zero, true_and, and_true, if_true, if_false, Option.some.injEq, true_implies, false_implies, not_true_eq_false, not_false_eq_true, hc_i0, hc_f0_0, hc_f0_1, hc_f0_2, hc_f0_3, hc_f0_4, hc_f0_5, hc_f0_6, hc_p0_6, hc_i1, hc_f1_0, hc_f1_1, hc_p1_1, hc_a2, hc_s2, hc_l2, hc_i3, hc_f3_0, hc_f3_1, hc_f3_2, hc_f3_3, hc_p3_3, hc_a4, hc_s4, hc_l4, hc_a5, hc_s5, hc_l5, hc_a6, hc_s6, hc_l6, hc_i7, hc_f7_0, hc_f7_1, hc_f7_2, hc_f7_3, hc_p7_3, hc_a8, hc_s8, hc_l8, hc_a9, hc_s9, hc_l9, hc_a10, hc_s10, hc_l10, hc_a11, hc_s11, hc_l11, hc_i12, hc_f12_0, hc_f12_1, hc_f12_2, hc_f12_3, hc_f12_4, hc_f12_5, hc_f12_6, hc_f12_7, hc_p12_7, hc_f12_8, hc_p12_8, hc_f12_9, hc_p12_9, hc_f12_10, hc_p12_10, hc_f12_11, hc_p12_11, hc_i13, hc_f13_0, hc_f13_1, hc_f13_2, hc_f13_3, hc_f13_4, hc_a14, hc_s14, hc_l14, hc_a15, hc_s15, hc_l15, hc_a16, hc_s16, hc_l16, hc_a17, hc_s17, hc_l17, hc_a18, hc_s18, hc_l18, hc_i19, hc_f19_0, hc_f19_1, hc_f19_2, hc_f19_3, hc_f19_4, hc_a20, hc_s20, hc_l20, hc_a21, hc_s21, hc_l21, hc_a22, hc_s22, hc_l22, hc_a23, hc_s23, hc_l23, hc_a24, hc_s24, hc_l24, hc_i25, hc_f25_0, hc_f25_1, hc_f25_2, hc_f25_3, hc_f25_4, hc_a26, hc_s26, hc_l26, hc_a27, hc_s27, hc_l27, hc_a28, hc_s28, hc_l28, hc_a29, hc_s29, hc_l29, hc_a30, hc_s30, hc_l30, hc_a31, hc_s31, hc_l31, hc_i32, hc_f32_0, hc_f32_1, hc_p32_1, hc_f32_2, hc_p32_2, hc_f32_3, hc_a33, hc_s33, hc_l33]
  rw [n_lit, n_and, show (-1 : Int32) = nI 4294967295 from rfl, n_xor, n_and]
  exact hQ
theorem pt_neg {l : Nat} (hl : l < 4294967296) : - nI l = nI (4294967296 - l) := by
  apply Int32.toBitVec_inj.mp
  show - BitVec.ofNat 32 l = BitVec.ofNat 32 (4294967296 - l)
  apply BitVec.eq_of_toNat_eq
  rw [BitVec.toNat_neg, BitVec.toNat_ofNat, BitVec.toNat_ofNat, Nat.mod_eq_of_lt hl]
theorem p_X4_firstLetter {p : Nat} (hp : p < 512) (hQ : Q (some (.int (nI (pt_f p)))) h) : K_X4_firstLetter [.int (nI p)] h Q := by
  refine ⟨Nat.le_of_ble_eq_true rfl, fun G hG => ?_⟩
  obtain ⟨g0, g23⟩ := hG
  refine g0 _ _ _ ?_
  simp only [B_X4_firstLetter_0, ak_c, ak_il, ak_ll, ak_al, ak_is, ak_as, ak_ls, ak_ii, ak_ib, ak_id, ak_lb, ak_lx, ak_lc, ak_iu, ak_i2l, ak_l2i, ak_dup, ak_dup2, ak_pop, ak_if, ak_ic, ak_sw, am_sws, ak_get, ak_puti, ak_putz, ak_putl, ak_puta, ak_iald, ak_lald, ak_iast, ak_last, ak_alen, ak_cs, ak_cv, ak_ri, ak_rz, ak_rl, ak_rv, am_ent, am_sp, am_pu, am_rs, Value.category, am_st1, am_st2, am_clr, List.getElem?_cons_zero, List.getElem?_cons_succ, List.set_cons_zero, List.set_cons_succ, List.length_cons, List.length_nil, Nat.reduceAdd, Nat.reduceLT, Nat.reduceLeDiff, Nat.zero_add, Nat.add_zero, true_and, and_true, if_true, if_false, Option.some.injEq, true_implies, false_implies, not_true_eq_false, not_false_eq_true, hc_i0, hc_f0_0, hc_f0_1, hc_f0_2, hc_f0_3, hc_f0_4, hc_f0_5, hc_f0_6, hc_p0_6, hc_i1, hc_f1_0, hc_f1_1, hc_p1_1, hc_a2, hc_s2, hc_l2, hc_i3, hc_f3_0, hc_f3_1, hc_f3_2, hc_f3_3, hc_p3_3, hc_a4, hc_s4, hc_l4, hc_a5, hc_s5, hc_l5, hc_a6, hc_s6, hc_l6, hc_i7, hc_f7_0, hc_f7_1, hc_f7_2, hc_f7_3, hc_p7_3, hc_a8, hc_s8, hc_l8, hc_a9, hc_s9, hc_l9, hc_a10, hc_s10, hc_l10, hc_a11, hc_s11, hc_l11, hc_i12, hc_f12_0, hc_f12_1, hc_f12_2, hc_f12_3, hc_f12_4, hc_f12_5, hc_f12_6, hc_f12_7, hc_p12_7, hc_f12_8, hc_p12_8, hc_f12_9, hc_p12_9, hc_f12_10, hc_p12_10, hc_f12_11, hc_p12_11, hc_i13, hc_f13_0, hc_f13_1, hc_f13_2, hc_f13_3, hc_f13_4, hc_a14, hc_s14, hc_l14, hc_a15, hc_s15, hc_l15, hc_a16, hc_s16, hc_l16, hc_a17, hc_s17, hc_l17, hc_a18, hc_s18, hc_l18, hc_i19, hc_f19_0, hc_f19_1, hc_f19_2, hc_f19_3, hc_f19_4, hc_a20, hc_s20, hc_l20, hc_a21, hc_s21, hc_l21, hc_a22, hc_s22, hc_l22, hc_a23, hc_s23, hc_l23, hc_a24, hc_s24, hc_l24, hc_i25, hc_f25_0, hc_f25_1, hc_f25_2, hc_f25_3, hc_f25_4, hc_a26, hc_s26, hc_l26, hc_a27, hc_s27, hc_l27, hc_a28, hc_s28, hc_l28, hc_a29, hc_s29, hc_l29, hc_a30, hc_s30, hc_l30, hc_a31, hc_s31, hc_l31, hc_i32, hc_f32_0, hc_f32_1, hc_p32_1, hc_f32_2, hc_p32_2, hc_f32_3, hc_a33, hc_s33, hc_l33]
  have hl : p &&& 255 ≤ 255 := Nat.and_le_right
  have hd : p &&& 256 ≤ 256 := Nat.and_le_right
  simp only [n_lit, n_and]
  simp (disch := omega) only [pt_neg, n_and, n_lit, n_litL, n_shr, n_shl, n_lt, n_le, n_eq, pk_mul, nI_add, n_cl, n_sub, Nat.reduceAdd, Nat.not_lt_zero, Nat.zero_le, true_implies, false_implies, not_true_eq_false, not_false_eq_true, true_and, and_true]
  refine ⟨fun q => ?_, fun q => ?_⟩
  · simp only [pt_f, q, if_true] at hQ
    exact hQ
  · simp only [pt_f, q, if_false] at hQ
    have loop : ∀ k, k < 8 → Q (some (.int (nI (pt_hb (p &&& 255) k)))) h → G 23 [some (.int (nI p)), some (.int (nI (p &&& 255))), some (.int (nI (2 ^ k)))] [] h := by
      intro k
      induction k with
      | zero =>
        intro _ hq
        refine g23 _ _ _ ?_
        simp only [B_X4_firstLetter_23, ak_c, ak_il, ak_ll, ak_al, ak_is, ak_as, ak_ls, ak_ii, ak_ib, ak_id, ak_lb, ak_lx, ak_lc, ak_iu, ak_i2l, ak_l2i, ak_dup, ak_dup2, ak_pop, ak_if, ak_ic, ak_sw, am_sws, ak_get, ak_puti, ak_putz, ak_putl, ak_puta, ak_iald, ak_lald, ak_iast, ak_last, ak_alen, ak_cs, ak_cv, ak_ri, ak_rz, ak_rl, ak_rv, am_ent, am_sp, am_pu, am_rs, Value.category, am_st1, am_st2, am_clr, List.getElem?_cons_zero, List.getElem?_cons_succ, List.set_cons_zero, List.set_cons_succ, List.length_cons, List.length_nil, Nat.reduceAdd, Nat.reduceLT, Nat.reduceLeDiff, Nat.zero_add, Nat.add_zero, true_and, and_true, if_true, if_false, Option.some.injEq, true_implies, false_implies, not_true_eq_false, not_false_eq_true, hc_i0, hc_f0_0, hc_f0_1, hc_f0_2, hc_f0_3, hc_f0_4, hc_f0_5, hc_f0_6, hc_p0_6, hc_i1, hc_f1_0, hc_f1_1, hc_p1_1, hc_a2, hc_s2, hc_l2, hc_i3, hc_f3_0, hc_f3_1, hc_f3_2, hc_f3_3, hc_p3_3, hc_a4, hc_s4, hc_l4, hc_a5, hc_s5, hc_l5, hc_a6, hc_s6, hc_l6, hc_i7, hc_f7_0, hc_f7_1, hc_f7_2, hc_f7_3, hc_p7_3, hc_a8, hc_s8, hc_l8, hc_a9, hc_s9, hc_l9, hc_a10, hc_s10, hc_l10, hc_a11, hc_s11, hc_l11, hc_i12, hc_f12_0, hc_f12_1, hc_f12_2, hc_f12_3, hc_f12_4, hc_f12_5, hc_f12_6, hc_f12_7, hc_p12_7, hc_f12_8, hc_p12_8, hc_f12_9, hc_p12_9, hc_f12_10, hc_p12_10, hc_f12_11, hc_p12_11, hc_i13, hc_f13_0, hc_f13_1, hc_f13_2, hc_f13_3, hc_f13_4, hc_a14, hc_s14, hc_l14, hc_a15, hc_s15, hc_l15, hc_a16, hc_s16, hc_l16, hc_a17, hc_s17, hc_l17, hc_a18, hc_s18, hc_l18, hc_i19, hc_f19_0, hc_f19_1, hc_f19_2, hc_f19_3, hc_f19_4, hc_a20, hc_s20, hc_l20, hc_a21, hc_s21, hc_l21, hc_a22, hc_s22, hc_l22, hc_a23, hc_s23, hc_l23, hc_a24, hc_s24, hc_l24, hc_i25, hc_f25_0, hc_f25_1, hc_f25_2, hc_f25_3, hc_f25_4, hc_a26, hc_s26, hc_l26, hc_a27, hc_s27, hc_l27, hc_a28, hc_s28, hc_l28, hc_a29, hc_s29, hc_l29, hc_a30, hc_s30, hc_l30, hc_a31, hc_s31, hc_l31, hc_i32, hc_f32_0, hc_f32_1, hc_p32_1, hc_f32_2, hc_p32_2, hc_f32_3, hc_a33, hc_s33, hc_l33]
        have hz : (p &&& 255) &&& 2 ^ 0 ≤ 2 ^ 0 := Nat.and_le_right
        have h1 : (2 : Nat) ^ 0 = 1 := rfl
        rw [h1] at hz ⊢
        simp only [n_lit, n_and]
        simp (disch := omega) only [n_lit, n_litL, n_shr, n_shl, n_lt, n_le, n_eq, pk_mul, nI_add, n_cl, n_sub, Nat.reduceAdd, Nat.not_lt_zero, Nat.zero_le, true_implies, false_implies, not_true_eq_false, not_false_eq_true, true_and, and_true]
        refine ⟨fun z => absurd z (by omega), fun _ => ⟨fun z => ?_, fun z => ?_⟩⟩
        · refine g23 _ _ _ ?_
          simp only [B_X4_firstLetter_23, ak_c, ak_il, ak_ll, ak_al, ak_is, ak_as, ak_ls, ak_ii, ak_ib, ak_id, ak_lb, ak_lx, ak_lc, ak_iu, ak_i2l, ak_l2i, ak_dup, ak_dup2, ak_pop, ak_if, ak_ic, ak_sw, am_sws, ak_get, ak_puti, ak_putz, ak_putl, ak_puta, ak_iald, ak_lald, ak_iast, ak_last, ak_alen, ak_cs, ak_cv, ak_ri, ak_rz, ak_rl, ak_rv, am_ent, am_sp, am_pu, am_rs, Value.category, am_st1, am_st2, am_clr, List.getElem?_cons_zero, List.getElem?_cons_succ, List.set_cons_zero, List.set_cons_succ, List.length_cons, List.length_nil, Nat.reduceAdd, Nat.reduceLT, Nat.reduceLeDiff, Nat.zero_add, Nat.add_zero, true_and, and_true, if_true, if_false, Option.some.injEq, true_implies, false_implies, not_true_eq_false, not_false_eq_true, hc_i0, hc_f0_0, hc_f0_1, hc_f0_2, hc_f0_3, hc_f0_4, hc_f0_5, hc_f0_6, hc_p0_6, hc_i1, hc_f1_0, hc_f1_1, hc_p1_1, hc_a2, hc_s2, hc_l2, hc_i3, hc_f3_0, hc_f3_1, hc_f3_2, hc_f3_3, hc_p3_3, hc_a4, hc_s4, hc_l4, hc_a5, hc_s5, hc_l5, hc_a6, hc_s6, hc_l6, hc_i7, hc_f7_0, hc_f7_1, hc_f7_2, hc_f7_3, hc_p7_3, hc_a8, hc_s8, hc_l8, hc_a9, hc_s9, hc_l9, hc_a10, hc_s10, hc_l10, hc_a11, hc_s11, hc_l11, hc_i12, hc_f12_0, hc_f12_1, hc_f12_2, hc_f12_3, hc_f12_4, hc_f12_5, hc_f12_6, hc_f12_7, hc_p12_7, hc_f12_8, hc_p12_8, hc_f12_9, hc_p12_9, hc_f12_10, hc_p12_10, hc_f12_11, hc_p12_11, hc_i13, hc_f13_0, hc_f13_1, hc_f13_2, hc_f13_3, hc_f13_4, hc_a14, hc_s14, hc_l14, hc_a15, hc_s15, hc_l15, hc_a16, hc_s16, hc_l16, hc_a17, hc_s17, hc_l17, hc_a18, hc_s18, hc_l18, hc_i19, hc_f19_0, hc_f19_1, hc_f19_2, hc_f19_3, hc_f19_4, hc_a20, hc_s20, hc_l20, hc_a21, hc_s21, hc_l21, hc_a22, hc_s22, hc_l22, hc_a23, hc_s23, hc_l23, hc_a24, hc_s24, hc_l24, hc_i25, hc_f25_0, hc_f25_1, hc_f25_2, hc_f25_3, hc_f25_4, hc_a26, hc_s26, hc_l26, hc_a27, hc_s27, hc_l27, hc_a28, hc_s28, hc_l28, hc_a29, hc_s29, hc_l29, hc_a30, hc_s30, hc_l30, hc_a31, hc_s31, hc_l31, hc_i32, hc_f32_0, hc_f32_1, hc_p32_1, hc_f32_2, hc_p32_2, hc_f32_3, hc_a33, hc_s33, hc_l33]
          rw [show nI 1 >>> nI (1 &&& 31) = 0 from by decide]
          refine ⟨fun _ => ?_, fun z => absurd (by decide) z⟩
          simp only [pt_hb, z, if_true] at hq
          exact hq
        · simp only [pt_hb, z, if_false] at hq
          exact hq
      | succ k ih =>
        intro hk hq
        refine g23 _ _ _ ?_
        simp only [B_X4_firstLetter_23, ak_c, ak_il, ak_ll, ak_al, ak_is, ak_as, ak_ls, ak_ii, ak_ib, ak_id, ak_lb, ak_lx, ak_lc, ak_iu, ak_i2l, ak_l2i, ak_dup, ak_dup2, ak_pop, ak_if, ak_ic, ak_sw, am_sws, ak_get, ak_puti, ak_putz, ak_putl, ak_puta, ak_iald, ak_lald, ak_iast, ak_last, ak_alen, ak_cs, ak_cv, ak_ri, ak_rz, ak_rl, ak_rv, am_ent, am_sp, am_pu, am_rs, Value.category, am_st1, am_st2, am_clr, List.getElem?_cons_zero, List.getElem?_cons_succ, List.set_cons_zero, List.set_cons_succ, List.length_cons, List.length_nil, Nat.reduceAdd, Nat.reduceLT, Nat.reduceLeDiff, Nat.zero_add, Nat.add_zero, true_and, and_true, if_true, if_false, Option.some.injEq, true_implies, false_implies, not_true_eq_false, not_false_eq_true, hc_i0, hc_f0_0, hc_f0_1, hc_f0_2, hc_f0_3, hc_f0_4, hc_f0_5, hc_f0_6, hc_p0_6, hc_i1, hc_f1_0, hc_f1_1, hc_p1_1, hc_a2, hc_s2, hc_l2, hc_i3, hc_f3_0, hc_f3_1, hc_f3_2, hc_f3_3, hc_p3_3, hc_a4, hc_s4, hc_l4, hc_a5, hc_s5, hc_l5, hc_a6, hc_s6, hc_l6, hc_i7, hc_f7_0, hc_f7_1, hc_f7_2, hc_f7_3, hc_p7_3, hc_a8, hc_s8, hc_l8, hc_a9, hc_s9, hc_l9, hc_a10, hc_s10, hc_l10, hc_a11, hc_s11, hc_l11, hc_i12, hc_f12_0, hc_f12_1, hc_f12_2, hc_f12_3, hc_f12_4, hc_f12_5, hc_f12_6, hc_f12_7, hc_p12_7, hc_f12_8, hc_p12_8, hc_f12_9, hc_p12_9, hc_f12_10, hc_p12_10, hc_f12_11, hc_p12_11, hc_i13, hc_f13_0, hc_f13_1, hc_f13_2, hc_f13_3, hc_f13_4, hc_a14, hc_s14, hc_l14, hc_a15, hc_s15, hc_l15, hc_a16, hc_s16, hc_l16, hc_a17, hc_s17, hc_l17, hc_a18, hc_s18, hc_l18, hc_i19, hc_f19_0, hc_f19_1, hc_f19_2, hc_f19_3, hc_f19_4, hc_a20, hc_s20, hc_l20, hc_a21, hc_s21, hc_l21, hc_a22, hc_s22, hc_l22, hc_a23, hc_s23, hc_l23, hc_a24, hc_s24, hc_l24, hc_i25, hc_f25_0, hc_f25_1, hc_f25_2, hc_f25_3, hc_f25_4, hc_a26, hc_s26, hc_l26, hc_a27, hc_s27, hc_l27, hc_a28, hc_s28, hc_l28, hc_a29, hc_s29, hc_l29, hc_a30, hc_s30, hc_l30, hc_a31, hc_s31, hc_l31, hc_i32, hc_f32_0, hc_f32_1, hc_p32_1, hc_f32_2, hc_p32_2, hc_f32_3, hc_a33, hc_s33, hc_l33]
        have hz : (p &&& 255) &&& 2 ^ (k + 1) ≤ 2 ^ (k + 1) := Nat.and_le_right
        have h1 : (2 : Nat) ^ (k + 1) ≤ 2 ^ 8 := Nat.pow_le_pow_right (by decide) (by omega)
        have h2 : (1 : Nat) ≤ 2 ^ (k + 1) := Nat.one_le_two_pow
        have h3 : (2 : Nat) ^ (k + 1) / 2 ^ 1 = 2 ^ k := by rw [Nat.pow_succ]; omega
        simp only [n_lit]
        simp (disch := omega) only [n_ishr, h3]
        simp only [n_and]
        simp (disch := omega) only [n_lit, n_litL, n_shr, n_shl, n_lt, n_le, n_eq, pk_mul, nI_add, n_cl, n_sub, Nat.reduceAdd, Nat.not_lt_zero, Nat.zero_le, true_implies, false_implies, not_true_eq_false, not_false_eq_true, true_and, and_true]
        refine ⟨fun z => absurd z (by omega), fun _ => ⟨fun z => ?_, fun z => ?_⟩⟩
        · simp only [pt_hb, z, if_true] at hq
          exact ih (by omega) hq
        · simp only [pt_hb, z, if_false] at hq
          exact hq
    exact loop 7 (by omega) hQ
end PT
/-! lists of places, and their sums -/
def pt_bs (l : List Nat) : Nat := (l.map (2 ^ ·)).sum
def pt_subs : List Nat → List (List Nat)
  | [] => [[]]
  | a :: r => pt_subs r ++ (pt_subs r).map (a :: ·)
theorem pt_subs_mem {l r : List Nat} (h : l.Sublist r) : l ∈ pt_subs r := by
  induction h with
  | slnil => exact List.mem_singleton.mpr rfl
  | cons a _ ih => exact List.mem_append_left _ ih
  | cons_cons a _ ih => exact List.mem_append_right _ (List.mem_map.mpr ⟨_, ih, rfl⟩)
def pt_vl (d : Nat) (l : List Nat) : Prop := (d = 0 ∧ l.Sublist (List.range 8)) ∨ (d = 256 ∧ l.reverse.Sublist (List.range 8))
def pt_chk (d : Nat) (l : List Nat) : Bool := decide (pt_pos (d + pt_bs l) = l) && decide ((d + pt_bs l) &&& 256 = d) && decide (d + pt_bs l < 512) && (l.isEmpty || (decide (pt_f (d + pt_bs l) = 2 ^ (l.headD 0)) && decide (pt_m (d + pt_bs l) (2 ^ (l.headD 0)) = d + pt_bs l.tail) && decide ((d + pt_bs l.dropLast) ||| 2 ^ (l.getLastD 0) = d + pt_bs l)))
theorem pt_chk_all : (pt_subs (List.range 8)).all (fun l => pt_chk 0 l && pt_chk 256 l.reverse) = true := by decide +kernel
theorem pt_vl.chk {d : Nat} {l : List Nat} (h : pt_vl d l) : pt_chk d l = true := by
  rcases h with ⟨rfl, h⟩ | ⟨rfl, h⟩
  · have := List.all_eq_true.mp pt_chk_all l (pt_subs_mem h)
    simp only [Bool.and_eq_true] at this
    exact this.1
  · have := List.all_eq_true.mp pt_chk_all l.reverse (pt_subs_mem h)
    simp only [Bool.and_eq_true, List.reverse_reverse] at this
    exact this.2
theorem pt_vl.facts {d : Nat} {l : List Nat} (h : pt_vl d l) : pt_pos (d + pt_bs l) = l ∧ (d + pt_bs l) &&& 256 = d ∧ d + pt_bs l < 512 := by
  have := h.chk
  simp only [pt_chk, Bool.and_eq_true, decide_eq_true_eq] at this
  exact ⟨this.1.1.1, this.1.1.2, this.1.2⟩
theorem pt_vl.first {d : Nat} {l : List Nat} (h : pt_vl d l) (hn : l ≠ []) : pt_f (d + pt_bs l) = 2 ^ (l.headD 0) ∧ pt_m (d + pt_bs l) (2 ^ (l.headD 0)) = d + pt_bs l.tail ∧ (d + pt_bs l.dropLast) ||| 2 ^ (l.getLastD 0) = d + pt_bs l := by
  have := h.chk
  have he : l.isEmpty = false := by cases l with
    | nil => exact absurd rfl hn
    | cons a r => rfl
  simp only [pt_chk, Bool.and_eq_true, decide_eq_true_eq, he, Bool.false_or] at this
  exact ⟨this.2.1.1, this.2.1.2, this.2.2⟩
theorem pt_vl.sub {d : Nat} {l r : List Nat} (h : pt_vl d l) (hs : r.Sublist l) : pt_vl d r := by
  rcases h with ⟨h1, h2⟩ | ⟨h1, h2⟩
  · exact Or.inl ⟨h1, hs.trans h2⟩
  · exact Or.inr ⟨h1, (List.Sublist.reverse hs).trans h2⟩
theorem pt_dir (p : Nat) : p &&& 256 = 0 ∨ p &&& 256 = 256 := by
  have h : p &&& 256 = 256 * (p / 256 % 2) := by
    apply Nat.eq_of_testBit_eq
    intro i
    have e : (256 : Nat) = 2 ^ 8 := rfl
    rw [Nat.testBit_and, e, Nat.testBit_two_pow]
    have hm : p / 2 ^ 8 % 2 = 0 ∨ p / 2 ^ 8 % 2 = 1 := by omega
    have hb : p.testBit 8 = decide (p / 2 ^ 8 % 2 = 1) := Nat.testBit_eq_decide_div_mod_eq
    by_cases hi : 8 = i
    · subst hi
      rcases hm with h0 | h1
      · rw [h0, hb, h0]; simp
      · rw [h1, hb, h1]; decide
    · rcases hm with h0 | h1
      · rw [h0]; simp [hi]
      · rw [h1, Nat.mul_one, Nat.testBit_two_pow]; simp [hi]
  rw [h]; omega
theorem pt_vl_pos (p : Nat) : pt_vl (p &&& 256) (pt_pos p) := by
  unfold pt_pos
  rcases pt_dir p with h | h
  · rw [h, if_pos rfl]
    exact Or.inl ⟨rfl, List.filter_sublist⟩
  · rw [h, if_neg (by decide)]
    exact Or.inr ⟨rfl, by rw [List.reverse_reverse]; exact List.filter_sublist⟩
theorem pt_all : ∀ p, p < 512 → p = (p &&& 256) + pt_bs (pt_pos p) := by decide +kernel
theorem pt_rev : ∀ p, p < 512 → pt_pos (p ^^^ 256) = (pt_pos p).reverse ∧ p ^^^ 256 < 512 := by decide +kernel
theorem pt_vl.nodup {d : Nat} {l : List Nat} (h : pt_vl d l) : l.Nodup := by
  rcases h with ⟨-, h⟩ | ⟨-, h⟩
  · exact List.Nodup.sublist h List.nodup_range
  · exact (List.reverse_perm l).nodup (List.Nodup.sublist h List.nodup_range)
theorem pt_vl.lt {d : Nat} {l : List Nat} (h : pt_vl d l) : ∀ i ∈ l, i < 8 := by
  rcases h with ⟨-, h⟩ | ⟨-, h⟩
  · exact fun i hi => List.mem_range.mp (h.subset hi)
  · exact fun i hi => List.mem_range.mp (h.subset (List.mem_reverse.mpr hi))
theorem pt_pos_mem {p i : Nat} : i ∈ pt_pos p ↔ i < 8 ∧ p.testBit i = true := by
  unfold pt_pos
  split <;> simp [List.mem_filter, List.mem_range]
theorem pt_pos_m (p q : Nat) : pt_pos (pt_m p q) = (pt_pos p).filter (fun i => !q.testBit i) := by
  have hb : ∀ i, i < 32 → (pt_m p q).testBit i = (p.testBit i && !((q &&& 255).testBit i)) := by
    intro i hi
    unfold pt_m
    rw [Nat.testBit_and, Nat.testBit_xor, show (4294967295 : Nat) = 2 ^ 32 - 1 from rfl, Nat.testBit_two_pow_sub_one]
    simp [hi]
  have hq : ∀ i, i < 8 → (q &&& 255).testBit i = q.testBit i := by
    intro i hi
    rw [Nat.testBit_and, show (255 : Nat) = 2 ^ 8 - 1 from rfl, Nat.testBit_two_pow_sub_one]
    simp [hi]
  have hf : (List.range 8).filter (fun i => (pt_m p q).testBit i) = ((List.range 8).filter (fun i => p.testBit i)).filter (fun i => !q.testBit i) := by
    rw [List.filter_filter]
    refine List.filter_congr fun i hi => ?_
    have hi := List.mem_range.mp hi
    rw [hb i (by omega), hq i hi, Bool.and_comm]
  have hd : pt_m p q &&& 256 = p &&& 256 := by
    apply Nat.eq_of_testBit_eq
    intro i
    rw [Nat.testBit_and, Nat.testBit_and, show (256 : Nat) = 2 ^ 8 from rfl, Nat.testBit_two_pow]
    by_cases hi : 8 = i
    · subst hi
      rw [hb 8 (by omega), Nat.testBit_and, show (255 : Nat) = 2 ^ 8 - 1 from rfl, Nat.testBit_two_pow_sub_one]
      simp
    · simp [hi]
  unfold pt_pos
  rw [hd, hf]
  split
  · rfl
  · rw [List.filter_reverse]
theorem pt_m_dir (p q : Nat) : pt_m p q &&& 256 = p &&& 256 := by
  apply Nat.eq_of_testBit_eq
  intro i
  rw [Nat.testBit_and, Nat.testBit_and, show (256 : Nat) = 2 ^ 8 from rfl, Nat.testBit_two_pow]
  by_cases hi : 8 = i
  · subst hi
    unfold pt_m
    rw [Nat.testBit_and, Nat.testBit_xor, show (4294967295 : Nat) = 2 ^ 32 - 1 from rfl, Nat.testBit_two_pow_sub_one, Nat.testBit_and, show (255 : Nat) = 2 ^ 8 - 1 from rfl, Nat.testBit_two_pow_sub_one]
    simp
  · simp [hi]
theorem pt_m_lt {p : Nat} (q : Nat) (hp : p < 512) : pt_m p q < 512 := Nat.lt_of_le_of_lt Nat.and_le_left hp
/-- letters a to b - 1 of a part, in its direction -/
def pt_s (p a b : Nat) : Nat := (p &&& 256) + pt_bs (((pt_pos p).take b).drop a)
theorem pt_s_sub (p a b : Nat) : pt_vl (p &&& 256) (((pt_pos p).take b).drop a) := (pt_vl_pos p).sub ((List.drop_sublist _ _).trans (List.take_sublist _ _))
theorem pt_s_pos (p a b : Nat) : pt_pos (pt_s p a b) = ((pt_pos p).take b).drop a ∧ pt_s p a b &&& 256 = p &&& 256 ∧ pt_s p a b < 512 := (pt_s_sub p a b).facts
theorem pt_sz_le (p : Nat) : pt_sz p ≤ 8 := by
  have h := pt_vl_pos p
  rcases h with ⟨-, h⟩ | ⟨-, h⟩
  · simpa [pt_sz] using h.length_le
  · simpa [pt_sz] using h.length_le
theorem pt_s_all {p : Nat} (hp : p < 512) {b : Nat} (hb : pt_sz p ≤ b) : pt_s p 0 b = p := by
  unfold pt_s
  rw [List.drop_zero, List.take_of_length_le hb]
  exact (pt_all p hp).symm
theorem pt_s_f {p a b : Nat} (hb : pt_sz p ≤ b) (ha : a < pt_sz p) : pt_f (pt_s p a b) = 2 ^ ((pt_pos p).getD a 0) ∧ pt_m (pt_s p a b) (2 ^ ((pt_pos p).getD a 0)) = pt_s p (a + 1) b := by
  have hv := pt_s_sub p a b
  have hl : ((pt_pos p).take b) = pt_pos p := List.take_of_length_le hb
  have hd : (pt_pos p).drop a = (pt_pos p).getD a 0 :: (pt_pos p).drop (a + 1) := by
    rw [List.getD_eq_getElem?_getD, List.getElem?_eq_getElem ha, Option.getD_some]
    exact List.drop_eq_getElem_cons ha
  unfold pt_s
  rw [hl] at hv ⊢
  have := hv.first (by rw [hd]; simp)
  rw [hd] at this ⊢
  exact ⟨this.1, this.2.1⟩
theorem pt_s_or {p a b : Nat} (hb : b < pt_sz p) (ha : a ≤ b) : pt_s p a b ||| 2 ^ ((pt_pos p).getD b 0) = pt_s p a (b + 1) := by
  have hv := pt_s_sub p a (b + 1)
  have ht : (pt_pos p).take (b + 1) = (pt_pos p).take b ++ [(pt_pos p).getD b 0] := by
    rw [List.getD_eq_getElem?_getD, List.getElem?_eq_getElem hb, Option.getD_some]
    exact List.take_succ_eq_append_getElem hb
  have hd : ((pt_pos p).take (b + 1)).drop a = ((pt_pos p).take b).drop a ++ [(pt_pos p).getD b 0] := by
    rw [ht, List.drop_append_of_le_length]
    simp [pt_sz] at hb
    rw [List.length_take]
    omega
  unfold pt_s
  have := (hv.first (by rw [hd]; simp)).2.2
  rw [hd] at this ⊢
  simpa using this
theorem pt_s_m {p a b : Nat} (hab : a ≤ b) : pt_pos (pt_m p (pt_s p a b)) = (pt_pos p).take a ++ (pt_pos p).drop b := by
  rw [pt_pos_m]
  obtain ⟨h1, h2, h3⟩ := pt_s_pos p a b
  have hn := (pt_vl_pos p).nodup
  have hlt := (pt_vl_pos p).lt
  have hm : ∀ i ∈ pt_pos p, (!(pt_s p a b).testBit i) = decide (i ∉ ((pt_pos p).take b).drop a) := by
    intro i hi
    have hi8 := hlt i hi
    have := pt_pos_mem (p := pt_s p a b) (i := i)
    rw [h1] at this
    by_cases hx : i ∈ ((pt_pos p).take b).drop a
    · have := (this.mp hx).2
      simp [this, hx]
    · have h4 : (pt_s p a b).testBit i = false := by
        cases hz : (pt_s p a b).testBit i with
        | false => rfl
        | true => exact absurd (this.mpr ⟨hi8, hz⟩) hx
      simp [h4, hx]
  rw [List.filter_congr hm]
  have hsplit : pt_pos p = (pt_pos p).take a ++ (((pt_pos p).take b).drop a ++ (pt_pos p).drop b) := by
    have e1 : ((pt_pos p).take b).take a ++ ((pt_pos p).take b).drop a = (pt_pos p).take b := List.take_append_drop a _
    rw [List.take_take, Nat.min_eq_left hab] at e1
    rw [← List.append_assoc, e1, List.take_append_drop]
  generalize (pt_pos p).take a = x at *
  generalize ((pt_pos p).take b).drop a = y at *
  generalize (pt_pos p).drop b = z at *
  rw [hsplit] at hn ⊢
  rw [List.nodup_append] at hn
  obtain ⟨n1, n2, n3⟩ := hn
  rw [List.nodup_append] at n2
  obtain ⟨n4, n5, n6⟩ := n2
  rw [List.filter_append, List.filter_append]
  have f1 : x.filter (fun i => decide (i ∉ y)) = x := List.filter_eq_self.mpr fun i hi => by
    simp only [decide_eq_true_eq]
    exact fun hy => n3 i hi i (List.mem_append_left _ hy) rfl
  have f2 : y.filter (fun i => decide (i ∉ y)) = [] := List.filter_eq_nil_iff.mpr fun i hi => by simp [hi]
  have f3 : z.filter (fun i => decide (i ∉ y)) = z := List.filter_eq_self.mpr fun i hi => by
    simp only [decide_eq_true_eq]
    exact fun hy => n6 i hy i hi rfl
  rw [f1, f2, f3, List.nil_append]
