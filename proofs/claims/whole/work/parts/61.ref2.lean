/-! the reference: sorts and their letters -/
section RF2
variable {hd : Nat → am_C} {I : Nat → Int32} {A : Nat → Nat → Int32} {T : Nat → Int64} {Q : am_Q} {h : am_H} {n : Nat} {cx : Nat → Nat}
theorem p_X9_sortOf {c : Nat} (hc : c < 2147483648) (hQ : Q (some (.int (nI (so_of c)))) h) : K_X9_sortOf [.ref 34, .int (nI c)] h Q := by
  refine ⟨Nat.le_of_ble_eq_true rfl, fun G hG => ?_⟩
  obtain ⟨g0, g119⟩ := hG
  have es : (nI c).toInt = (c : Int) := nI_toInt hc
  have z : so_of c = 0 → G 119 [some (.ref 34), some (.int (nI c))] [] h := by
    intro hz
    refine g119 _ _ _ ?_
    simp only [B_X9_sortOf_119, am_us, am_un, Nat.reduceEqDiff, not_false_eq_true, ak_c, ak_il, ak_ll, ak_al, ak_is, ak_as, ak_ls, ak_ii, ak_ib, ak_id, ak_lb, ak_lx, ak_lc, ak_iu, ak_i2l, ak_l2i, ak_dup, ak_dup2, ak_pop, ak_if, ak_ic, ak_sw, am_sws, ak_get, ak_puti, ak_putz, ak_putl, ak_puta, ak_iald, ak_lald, ak_iast, ak_last, ak_alen, ak_cs, ak_cv, ak_ri, ak_rz, ak_rl, ak_rv, am_ent, am_sp, am_pu, am_rs, Value.category, am_st1, am_st2, am_clr, List.getElem?_cons_zero, List.getElem?_cons_succ, List.set_cons_zero, List.set_cons_succ, List.length_cons, List.length_nil, Nat.reduceAdd, Nat.reduceLT, Nat.reduceLeDiff, Nat.zero_add, Nat.add_zero, true_and, and_true, or_true, true_or, if_true, if_false, Option.some.injEq, true_implies, false_implies, not_true_eq_false, not_false_eq_true, hm_i34, hm_f34_0, hm_p34_0, hm_f34_1, hm_f34_2, hm_p34_2, hm_f34_3, hm_f34_4, hm_f34_5, hm_f34_6, hm_p34_6, hm_f34_7, hm_f34_8, hm_f34_9, hm_f34_10, hm_p34_10, hm_f34_11, hm_f34_12, hm_f34_13, hm_f34_14, hm_f34_15, hm_f34_16, hm_p34_16, hm_f34_17, hm_p34_17, hm_f34_18, hm_p34_18, hm_f34_19, hm_p34_19, hm_f34_20, hm_p34_20, hm_f34_21, hm_p34_21, hm_f34_22, hm_p34_22, hm_f34_23, hm_p34_23, hm_f34_24, hm_p34_24, hm_f34_25, hm_p34_25, hm_f34_26, hm_f34_27, hm_f34_28, hm_p34_28, hm_f34_29, hm_p34_29, hm_f34_30, hm_f34_31, hm_f34_32, hm_p34_32, hm_f34_33, hm_f34_34, hm_f34_35, hm_f34_36, hm_f34_37, hm_f34_38, hm_a35, hm_s35, hm_l35, hm_a36, hm_s36, hm_l36, hm_a37, hm_s37, hm_l37, hm_a38, hm_s38, hm_l38, hm_a39, hm_s39, hm_l39, hm_a40, hm_s40, hm_l40, hm_a41, hm_s41, hm_l41, hm_a42, hm_s42, hm_l42, hm_a43, hm_s43, hm_l43, hm_a44, hm_s44, hm_l44, hm_a45, hm_s45, hm_l45, hm_a46, hm_s46, hm_l46, hm_a47, hm_s47, hm_l47, hm_a48, hm_s48, hm_l48, hm_a49, hm_s49, hm_l49, hm_a50, hm_s50, hm_l50, hm_a51, hm_s51, hm_l51, hm_a52, hm_s52, hm_l52, hm_a53, hm_s53, hm_l53, hm_a54, hm_s54, hm_l54, hm_a55, hm_s55, hm_l55, hm_a56, hm_s56, hm_l56]
    rw [hz] at hQ
    exact hQ
  refine g0 _ _ _ ?_
  simp only [B_X9_sortOf_0, es, am_us, am_un, Nat.reduceEqDiff, not_false_eq_true, ak_c, ak_il, ak_ll, ak_al, ak_is, ak_as, ak_ls, ak_ii, ak_ib, ak_id, ak_lb, ak_lx, ak_lc, ak_iu, ak_i2l, ak_l2i, ak_dup, ak_dup2, ak_pop, ak_if, ak_ic, ak_sw, am_sws, ak_get, ak_puti, ak_putz, ak_putl, ak_puta, ak_iald, ak_lald, ak_iast, ak_last, ak_alen, ak_cs, ak_cv, ak_ri, ak_rz, ak_rl, ak_rv, am_ent, am_sp, am_pu, am_rs, Value.category, am_st1, am_st2, am_clr, List.getElem?_cons_zero, List.getElem?_cons_succ, List.set_cons_zero, List.set_cons_succ, List.length_cons, List.length_nil, Nat.reduceAdd, Nat.reduceLT, Nat.reduceLeDiff, Nat.zero_add, Nat.add_zero, true_and, and_true, or_true, true_or, if_true, if_false, Option.some.injEq, true_implies, false_implies, not_true_eq_false, not_false_eq_true, hm_i34, hm_f34_0, hm_p34_0, hm_f34_1, hm_f34_2, hm_p34_2, hm_f34_3, hm_f34_4, hm_f34_5, hm_f34_6, hm_p34_6, hm_f34_7, hm_f34_8, hm_f34_9, hm_f34_10, hm_p34_10, hm_f34_11, hm_f34_12, hm_f34_13, hm_f34_14, hm_f34_15, hm_f34_16, hm_p34_16, hm_f34_17, hm_p34_17, hm_f34_18, hm_p34_18, hm_f34_19, hm_p34_19, hm_f34_20, hm_p34_20, hm_f34_21, hm_p34_21, hm_f34_22, hm_p34_22, hm_f34_23, hm_p34_23, hm_f34_24, hm_p34_24, hm_f34_25, hm_p34_25, hm_f34_26, hm_f34_27, hm_f34_28, hm_p34_28, hm_f34_29, hm_p34_29, hm_f34_30, hm_f34_31, hm_f34_32, hm_p34_32, hm_f34_33, hm_f34_34, hm_f34_35, hm_f34_36, hm_f34_37, hm_f34_38, hm_a35, hm_s35, hm_l35, hm_a36, hm_s36, hm_l36, hm_a37, hm_s37, hm_l37, hm_a38, hm_s38, hm_l38, hm_a39, hm_s39, hm_l39, hm_a40, hm_s40, hm_l40, hm_a41, hm_s41, hm_l41, hm_a42, hm_s42, hm_l42, hm_a43, hm_s43, hm_l43, hm_a44, hm_s44, hm_l44, hm_a45, hm_s45, hm_l45, hm_a46, hm_s46, hm_l46, hm_a47, hm_s47, hm_l47, hm_a48, hm_s48, hm_l48, hm_a49, hm_s49, hm_l49, hm_a50, hm_s50, hm_l50, hm_a51, hm_s51, hm_l51, hm_a52, hm_s52, hm_l52, hm_a53, hm_s53, hm_l53, hm_a54, hm_s54, hm_l54, hm_a55, hm_s55, hm_l55, hm_a56, hm_s56, hm_l56]
  refine ⟨⟨fun q => ?_, fun q => ?_, fun q => ?_, fun q => ?_, fun q => ?_, fun q => ?_, fun q => ?_, fun q => ?_, fun q => ?_, fun q => ?_, fun q => ?_, fun q => ?_, fun q => ?_, fun q => ?_, fun q => ?_, fun q => ?_, fun q => ?_, fun q => ?_, fun q => ?_, fun q => ?_⟩, fun q => ?_⟩
  · obtain rfl : c = 65 := by omega
    exact hQ
  · obtain rfl : c = 66 := by omega
    exact hQ
  · obtain rfl : c = 67 := by omega
    exact hQ
  · obtain rfl : c = 68 := by omega
    exact z rfl
  · obtain rfl : c = 69 := by omega
    exact z rfl
  · obtain rfl : c = 70 := by omega
    exact z rfl
  · obtain rfl : c = 71 := by omega
    exact z rfl
  · obtain rfl : c = 72 := by omega
    exact hQ
  · obtain rfl : c = 73 := by omega
    exact hQ
  · obtain rfl : c = 74 := by omega
    exact z rfl
  · obtain rfl : c = 75 := by omega
    exact z rfl
  · obtain rfl : c = 76 := by omega
    exact hQ
  · obtain rfl : c = 77 := by omega
    exact z rfl
  · obtain rfl : c = 78 := by omega
    exact hQ
  · obtain rfl : c = 79 := by omega
    exact z rfl
  · obtain rfl : c = 80 := by omega
    exact z rfl
  · obtain rfl : c = 81 := by omega
    exact z rfl
  · obtain rfl : c = 82 := by omega
    exact hQ
  · obtain rfl : c = 83 := by omega
    exact z rfl
  · obtain rfl : c = 84 := by omega
    exact hQ
  · refine z ?_
    unfold so_of
    repeat rw [if_neg (by omega)]
theorem p_X9_letterOf {s : Nat} (hs : s ≤ 10) (hQ : Q (some (.int (if s < 2 then -4 else nI (so_ch s)))) h) : K_X9_letterOf [.ref 34, .int (nI s)] h Q := by
  refine ⟨Nat.le_of_ble_eq_true rfl, fun G hG => ?_⟩
  have es : (nI s).toInt = (s : Int) := nI_toInt (by omega)
  refine hG _ _ _ ?_
  simp only [B_X9_letterOf_0, es, am_us, am_un, Nat.reduceEqDiff, not_false_eq_true, ak_c, ak_il, ak_ll, ak_al, ak_is, ak_as, ak_ls, ak_ii, ak_ib, ak_id, ak_lb, ak_lx, ak_lc, ak_iu, ak_i2l, ak_l2i, ak_dup, ak_dup2, ak_pop, ak_if, ak_ic, ak_sw, am_sws, ak_get, ak_puti, ak_putz, ak_putl, ak_puta, ak_iald, ak_lald, ak_iast, ak_last, ak_alen, ak_cs, ak_cv, ak_ri, ak_rz, ak_rl, ak_rv, am_ent, am_sp, am_pu, am_rs, Value.category, am_st1, am_st2, am_clr, List.getElem?_cons_zero, List.getElem?_cons_succ, List.set_cons_zero, List.set_cons_succ, List.length_cons, List.length_nil, Nat.reduceAdd, Nat.reduceLT, Nat.reduceLeDiff, Nat.zero_add, Nat.add_zero, true_and, and_true, or_true, true_or, if_true, if_false, Option.some.injEq, true_implies, false_implies, not_true_eq_false, not_false_eq_true, hm_i34, hm_f34_0, hm_p34_0, hm_f34_1, hm_f34_2, hm_p34_2, hm_f34_3, hm_f34_4, hm_f34_5, hm_f34_6, hm_p34_6, hm_f34_7, hm_f34_8, hm_f34_9, hm_f34_10, hm_p34_10, hm_f34_11, hm_f34_12, hm_f34_13, hm_f34_14, hm_f34_15, hm_f34_16, hm_p34_16, hm_f34_17, hm_p34_17, hm_f34_18, hm_p34_18, hm_f34_19, hm_p34_19, hm_f34_20, hm_p34_20, hm_f34_21, hm_p34_21, hm_f34_22, hm_p34_22, hm_f34_23, hm_p34_23, hm_f34_24, hm_p34_24, hm_f34_25, hm_p34_25, hm_f34_26, hm_f34_27, hm_f34_28, hm_p34_28, hm_f34_29, hm_p34_29, hm_f34_30, hm_f34_31, hm_f34_32, hm_p34_32, hm_f34_33, hm_f34_34, hm_f34_35, hm_f34_36, hm_f34_37, hm_f34_38, hm_a35, hm_s35, hm_l35, hm_a36, hm_s36, hm_l36, hm_a37, hm_s37, hm_l37, hm_a38, hm_s38, hm_l38, hm_a39, hm_s39, hm_l39, hm_a40, hm_s40, hm_l40, hm_a41, hm_s41, hm_l41, hm_a42, hm_s42, hm_l42, hm_a43, hm_s43, hm_l43, hm_a44, hm_s44, hm_l44, hm_a45, hm_s45, hm_l45, hm_a46, hm_s46, hm_l46, hm_a47, hm_s47, hm_l47, hm_a48, hm_s48, hm_l48, hm_a49, hm_s49, hm_l49, hm_a50, hm_s50, hm_l50, hm_a51, hm_s51, hm_l51, hm_a52, hm_s52, hm_l52, hm_a53, hm_s53, hm_l53, hm_a54, hm_s54, hm_l54, hm_a55, hm_s55, hm_l55, hm_a56, hm_s56, hm_l56]
  refine ⟨⟨fun q => ?_, fun q => ?_, fun q => ?_, fun q => ?_, fun q => ?_, fun q => ?_, fun q => ?_, fun q => ?_, fun q => ?_⟩, fun q => ?_⟩
  · obtain rfl : s = 2 := by omega
    exact hQ
  · obtain rfl : s = 3 := by omega
    exact hQ
  · obtain rfl : s = 4 := by omega
    exact hQ
  · obtain rfl : s = 5 := by omega
    exact hQ
  · obtain rfl : s = 6 := by omega
    exact hQ
  · obtain rfl : s = 7 := by omega
    exact hQ
  · obtain rfl : s = 8 := by omega
    exact hQ
  · obtain rfl : s = 9 := by omega
    exact hQ
  · obtain rfl : s = 10 := by omega
    exact hQ
  · rw [if_pos (by omega)] at hQ
    exact hQ
end RF2
