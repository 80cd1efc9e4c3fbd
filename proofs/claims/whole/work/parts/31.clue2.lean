/-! the clue: reading; letters in a row -/
def mk_pd (w : List Nat) : List Nat := (List.range 12).map (fun i => w.getD i 0)
def mk_sm (a b : List Nat) : Bool := (List.range 12).all (fun i => decide ((mk_pd a).count (a.getD i 0) = (mk_pd b).count (a.getD i 0)))
theorem mk_W.lt {w : List Nat} (hw : mk_W w) (k : Nat) : w.getD k 0 < 27 := by
  rw [List.getD_eq_getElem?_getD]
  cases hx : w[k]? with
  | none => simp
  | some d => have := hw d (List.mem_of_getElem? hx); simp; omega
theorem mk_pd_le (w : List Nat) (k d : Nat) : ((List.range k).map (fun i => w.getD i 0)).count d ≤ k := by
  have h := List.count_le_length (a := d) (l := (List.range k).map (fun i => w.getD i 0))
  rw [List.length_map, List.length_range] at h
  exact h
theorem mk_pd_s (w : List Nat) (k d : Nat) : ((List.range (k + 1)).map (fun i => w.getD i 0)).count d = ((List.range k).map (fun i => w.getD i 0)).count d + if w.getD k 0 = d then 1 else 0 := by
  rw [List.range_succ, List.map_append, List.count_append, List.map_singleton, List.count_singleton]
  by_cases e : w.getD k 0 = d
  · rw [if_pos e, if_pos (by rw [e]; exact beq_self_eq_true d)]
  · rw [if_neg e, if_neg (fun q => e (beq_iff_eq.mp q))]
section BG
variable {h : am_H} {Q : am_Q}
theorem p_X2_times {w : List Nat} (hw : mk_W w) (hl : w.length ≤ 12) {d : Nat} (hd : d < 27) (hQ : Q (some (.int (nI ((mk_pd w).count d)))) h) : K_X2_times [.int (nI d), .long (lN (mk_pk w))] h Q := by
  refine ⟨Nat.le_of_ble_eq_true rfl, fun G hG => ?_⟩
  obtain ⟨g0, g5, g31⟩ := hG
  refine g0 _ _ _ ?_
  simp only [B_X2_times_0, am_us, am_un, Nat.reduceEqDiff, not_false_eq_true, ak_c, ak_il, ak_ll, ak_al, ak_is, ak_as, ak_ls, ak_ii, ak_ib, ak_id, ak_lb, ak_lx, ak_lc, ak_iu, ak_i2l, ak_l2i, ak_dup, ak_dup2, ak_pop, ak_if, ak_ic, ak_sw, am_sws, ak_get, ak_puti, ak_putz, ak_putl, ak_puta, ak_iald, ak_lald, ak_iast, ak_last, ak_alen, ak_cs, ak_cv, ak_ri, ak_rz, ak_rl, ak_rv, am_ent, am_sp, am_pu, am_rs, Value.category, am_st1, am_st2, am_clr, List.getElem?_cons_zero, List.getElem?_cons_succ, List.set_cons_zero, List.set_cons_succ, List.length_cons, List.length_nil, Nat.reduceAdd, Nat.reduceLT, Nat.reduceLeDiff, Nat.zero_add, Nat.add_zero, true_and, and_true, or_true, true_or, if_true, if_false, Option.some.injEq, true_implies, false_implies, not_true_eq_false, not_false_eq_true, hc_i0, hc_f0_0, hc_f0_1, hc_f0_2, hc_f0_3, hc_f0_4, hc_f0_5, hc_f0_6, hc_p0_6, hc_i1, hc_f1_0, hc_f1_1, hc_p1_1, hc_a2, hc_s2, hc_l2, hc_i3, hc_f3_0, hc_f3_1, hc_f3_2, hc_f3_3, hc_p3_3, hc_a4, hc_s4, hc_l4, hc_a5, hc_s5, hc_l5, hc_a6, hc_s6, hc_l6, hc_i7, hc_f7_0, hc_f7_1, hc_f7_2, hc_f7_3, hc_p7_3, hc_a8, hc_s8, hc_l8, hc_a9, hc_s9, hc_l9, hc_a10, hc_s10, hc_l10, hc_a11, hc_s11, hc_l11, hc_i12, hc_f12_0, hc_f12_1, hc_f12_2, hc_f12_3, hc_f12_4, hc_f12_5, hc_f12_6, hc_f12_7, hc_p12_7, hc_f12_8, hc_p12_8, hc_f12_9, hc_p12_9, hc_f12_10, hc_p12_10, hc_f12_11, hc_p12_11, hc_i13, hc_f13_0, hc_f13_1, hc_f13_2, hc_f13_3, hc_f13_4, hc_a14, hc_s14, hc_l14, hc_a15, hc_s15, hc_l15, hc_a16, hc_s16, hc_l16, hc_a17, hc_s17, hc_l17, hc_a18, hc_s18, hc_l18, hc_i19, hc_f19_0, hc_f19_1, hc_f19_2, hc_f19_3, hc_f19_4, hc_a20, hc_s20, hc_l20, hc_a21, hc_s21, hc_l21, hc_a22, hc_s22, hc_l22, hc_a23, hc_s23, hc_l23, hc_a24, hc_s24, hc_l24, hc_i25, hc_f25_0, hc_f25_1, hc_f25_2, hc_f25_3, hc_f25_4, hc_a26, hc_s26, hc_l26, hc_a27, hc_s27, hc_l27, hc_a28, hc_s28, hc_l28, hc_a29, hc_s29, hc_l29, hc_a30, hc_s30, hc_l30, hc_a31, hc_s31, hc_l31, hc_i32, hc_f32_0, hc_f32_1, hc_p32_1, hc_f32_2, hc_p32_2, hc_f32_3, hc_a33, hc_s33, hc_l33]
  have hb := mk_lt64 hw hl
  have loop : ∀ f k, k + f = 12 → G 5 [some (.int (nI d)), some (.long (lN (mk_pk w))), none, some (.int (nI (((List.range k).map (fun i => w.getD i 0)).count d))), some (.int (nI k))] [] h := by
    intro f
    induction f with
    | zero =>
      intro k hk
      refine g5 _ _ _ ?_
      simp only [B_X2_times_5, am_us, am_un, Nat.reduceEqDiff, not_false_eq_true, ak_c, ak_il, ak_ll, ak_al, ak_is, ak_as, ak_ls, ak_ii, ak_ib, ak_id, ak_lb, ak_lx, ak_lc, ak_iu, ak_i2l, ak_l2i, ak_dup, ak_dup2, ak_pop, ak_if, ak_ic, ak_sw, am_sws, ak_get, ak_puti, ak_putz, ak_putl, ak_puta, ak_iald, ak_lald, ak_iast, ak_last, ak_alen, ak_cs, ak_cv, ak_ri, ak_rz, ak_rl, ak_rv, am_ent, am_sp, am_pu, am_rs, Value.category, am_st1, am_st2, am_clr, List.getElem?_cons_zero, List.getElem?_cons_succ, List.set_cons_zero, List.set_cons_succ, List.length_cons, List.length_nil, Nat.reduceAdd, Nat.reduceLT, Nat.reduceLeDiff, Nat.zero_add, Nat.add_zero, true_and, and_true, or_true, true_or, if_true, if_false, Option.some.injEq, true_implies, false_implies, not_true_eq_false, not_false_eq_true, hc_i0, hc_f0_0, hc_f0_1, hc_f0_2, hc_f0_3, hc_f0_4, hc_f0_5, hc_f0_6, hc_p0_6, hc_i1, hc_f1_0, hc_f1_1, hc_p1_1, hc_a2, hc_s2, hc_l2, hc_i3, hc_f3_0, hc_f3_1, hc_f3_2, hc_f3_3, hc_p3_3, hc_a4, hc_s4, hc_l4, hc_a5, hc_s5, hc_l5, hc_a6, hc_s6, hc_l6, hc_i7, hc_f7_0, hc_f7_1, hc_f7_2, hc_f7_3, hc_p7_3, hc_a8, hc_s8, hc_l8, hc_a9, hc_s9, hc_l9, hc_a10, hc_s10, hc_l10, hc_a11, hc_s11, hc_l11, hc_i12, hc_f12_0, hc_f12_1, hc_f12_2, hc_f12_3, hc_f12_4, hc_f12_5, hc_f12_6, hc_f12_7, hc_p12_7, hc_f12_8, hc_p12_8, hc_f12_9, hc_p12_9, hc_f12_10, hc_p12_10, hc_f12_11, hc_p12_11, hc_i13, hc_f13_0, hc_f13_1, hc_f13_2, hc_f13_3, hc_f13_4, hc_a14, hc_s14, hc_l14, hc_a15, hc_s15, hc_l15, hc_a16, hc_s16, hc_l16, hc_a17, hc_s17, hc_l17, hc_a18, hc_s18, hc_l18, hc_i19, hc_f19_0, hc_f19_1, hc_f19_2, hc_f19_3, hc_f19_4, hc_a20, hc_s20, hc_l20, hc_a21, hc_s21, hc_l21, hc_a22, hc_s22, hc_l22, hc_a23, hc_s23, hc_l23, hc_a24, hc_s24, hc_l24, hc_i25, hc_f25_0, hc_f25_1, hc_f25_2, hc_f25_3, hc_f25_4, hc_a26, hc_s26, hc_l26, hc_a27, hc_s27, hc_l27, hc_a28, hc_s28, hc_l28, hc_a29, hc_s29, hc_l29, hc_a30, hc_s30, hc_l30, hc_a31, hc_s31, hc_l31, hc_i32, hc_f32_0, hc_f32_1, hc_p32_1, hc_f32_2, hc_p32_2, hc_f32_3, hc_a33, hc_s33, hc_l33]
      simp (disch := omega) only [n_lit, n_litL, n_shr, n_shl, n_lt, n_le, n_eq, pk_mul, nI_add, n_cl, n_sub, Nat.reduceAdd, Nat.not_lt_zero, Nat.zero_le, true_implies, false_implies, not_true_eq_false, not_false_eq_true, true_and, and_true]
      refine ⟨fun _ => ?_, fun q => absurd (by omega) q⟩
      rw [show k = 12 by omega]
      exact hQ
    | succ f ih =>
      intro k hk
      have hc := mk_pd_le w k d
      have hs := mk_pd_s w k d
      have hx := hw.lt k
      have ih := ih (k + 1) (by omega)
      refine g5 _ _ _ ?_
      have hb2 := Nat.div_le_self (mk_pk w) (2 ^ (5 * k))
      simp only [B_X2_times_5, am_us, am_un, Nat.reduceEqDiff, not_false_eq_true, ak_c, ak_il, ak_ll, ak_al, ak_is, ak_as, ak_ls, ak_ii, ak_ib, ak_id, ak_lb, ak_lx, ak_lc, ak_iu, ak_i2l, ak_l2i, ak_dup, ak_dup2, ak_pop, ak_if, ak_ic, ak_sw, am_sws, ak_get, ak_puti, ak_putz, ak_putl, ak_puta, ak_iald, ak_lald, ak_iast, ak_last, ak_alen, ak_cs, ak_cv, ak_ri, ak_rz, ak_rl, ak_rv, am_ent, am_sp, am_pu, am_rs, Value.category, am_st1, am_st2, am_clr, List.getElem?_cons_zero, List.getElem?_cons_succ, List.set_cons_zero, List.set_cons_succ, List.length_cons, List.length_nil, Nat.reduceAdd, Nat.reduceLT, Nat.reduceLeDiff, Nat.zero_add, Nat.add_zero, true_and, and_true, or_true, true_or, if_true, if_false, Option.some.injEq, true_implies, false_implies, not_true_eq_false, not_false_eq_true, hc_i0, hc_f0_0, hc_f0_1, hc_f0_2, hc_f0_3, hc_f0_4, hc_f0_5, hc_f0_6, hc_p0_6, hc_i1, hc_f1_0, hc_f1_1, hc_p1_1, hc_a2, hc_s2, hc_l2, hc_i3, hc_f3_0, hc_f3_1, hc_f3_2, hc_f3_3, hc_p3_3, hc_a4, hc_s4, hc_l4, hc_a5, hc_s5, hc_l5, hc_a6, hc_s6, hc_l6, hc_i7, hc_f7_0, hc_f7_1, hc_f7_2, hc_f7_3, hc_p7_3, hc_a8, hc_s8, hc_l8, hc_a9, hc_s9, hc_l9, hc_a10, hc_s10, hc_l10, hc_a11, hc_s11, hc_l11, hc_i12, hc_f12_0, hc_f12_1, hc_f12_2, hc_f12_3, hc_f12_4, hc_f12_5, hc_f12_6, hc_f12_7, hc_p12_7, hc_f12_8, hc_p12_8, hc_f12_9, hc_p12_9, hc_f12_10, hc_p12_10, hc_f12_11, hc_p12_11, hc_i13, hc_f13_0, hc_f13_1, hc_f13_2, hc_f13_3, hc_f13_4, hc_a14, hc_s14, hc_l14, hc_a15, hc_s15, hc_l15, hc_a16, hc_s16, hc_l16, hc_a17, hc_s17, hc_l17, hc_a18, hc_s18, hc_l18, hc_i19, hc_f19_0, hc_f19_1, hc_f19_2, hc_f19_3, hc_f19_4, hc_a20, hc_s20, hc_l20, hc_a21, hc_s21, hc_l21, hc_a22, hc_s22, hc_l22, hc_a23, hc_s23, hc_l23, hc_a24, hc_s24, hc_l24, hc_i25, hc_f25_0, hc_f25_1, hc_f25_2, hc_f25_3, hc_f25_4, hc_a26, hc_s26, hc_l26, hc_a27, hc_s27, hc_l27, hc_a28, hc_s28, hc_l28, hc_a29, hc_s29, hc_l29, hc_a30, hc_s30, hc_l30, hc_a31, hc_s31, hc_l31, hc_i32, hc_f32_0, hc_f32_1, hc_p32_1, hc_f32_2, hc_p32_2, hc_f32_3, hc_a33, hc_s33, hc_l33]
      simp (disch := omega) only [lg_cz, n_lit, n_litL, n_shr, n_shl, n_lt, n_le, n_eq, pk_mul, nI_add, n_cl, n_sub, Nat.reduceAdd, Nat.not_lt_zero, Nat.zero_le, true_implies, false_implies, not_true_eq_false, not_false_eq_true, true_and, and_true]
      rw [show (31 : Nat) = 2 ^ 5 - 1 from rfl, wb_mask (k := 5) (by omega) (by omega), show (2 ^ 5 : Nat) = 32 from rfl, Nat.pow_mul, show (2 ^ 5 : Nat) = 32 from rfl, mk_dig k hw, nI_l (by omega), lN_eq0 (by omega) (by omega)]
      refine ⟨fun q => absurd q (by omega), fun _ => ⟨fun q => g31 _ _ _ ?_, fun q => g31 _ _ _ ?_⟩⟩
      · simp only [B_X2_times_31, am_us, am_un, Nat.reduceEqDiff, not_false_eq_true, ak_c, ak_il, ak_ll, ak_al, ak_is, ak_as, ak_ls, ak_ii, ak_ib, ak_id, ak_lb, ak_lx, ak_lc, ak_iu, ak_i2l, ak_l2i, ak_dup, ak_dup2, ak_pop, ak_if, ak_ic, ak_sw, am_sws, ak_get, ak_puti, ak_putz, ak_putl, ak_puta, ak_iald, ak_lald, ak_iast, ak_last, ak_alen, ak_cs, ak_cv, ak_ri, ak_rz, ak_rl, ak_rv, am_ent, am_sp, am_pu, am_rs, Value.category, am_st1, am_st2, am_clr, List.getElem?_cons_zero, List.getElem?_cons_succ, List.set_cons_zero, List.set_cons_succ, List.length_cons, List.length_nil, Nat.reduceAdd, Nat.reduceLT, Nat.reduceLeDiff, Nat.zero_add, Nat.add_zero, true_and, and_true, or_true, true_or, if_true, if_false, Option.some.injEq, true_implies, false_implies, not_true_eq_false, not_false_eq_true, hc_i0, hc_f0_0, hc_f0_1, hc_f0_2, hc_f0_3, hc_f0_4, hc_f0_5, hc_f0_6, hc_p0_6, hc_i1, hc_f1_0, hc_f1_1, hc_p1_1, hc_a2, hc_s2, hc_l2, hc_i3, hc_f3_0, hc_f3_1, hc_f3_2, hc_f3_3, hc_p3_3, hc_a4, hc_s4, hc_l4, hc_a5, hc_s5, hc_l5, hc_a6, hc_s6, hc_l6, hc_i7, hc_f7_0, hc_f7_1, hc_f7_2, hc_f7_3, hc_p7_3, hc_a8, hc_s8, hc_l8, hc_a9, hc_s9, hc_l9, hc_a10, hc_s10, hc_l10, hc_a11, hc_s11, hc_l11, hc_i12, hc_f12_0, hc_f12_1, hc_f12_2, hc_f12_3, hc_f12_4, hc_f12_5, hc_f12_6, hc_f12_7, hc_p12_7, hc_f12_8, hc_p12_8, hc_f12_9, hc_p12_9, hc_f12_10, hc_p12_10, hc_f12_11, hc_p12_11, hc_i13, hc_f13_0, hc_f13_1, hc_f13_2, hc_f13_3, hc_f13_4, hc_a14, hc_s14, hc_l14, hc_a15, hc_s15, hc_l15, hc_a16, hc_s16, hc_l16, hc_a17, hc_s17, hc_l17, hc_a18, hc_s18, hc_l18, hc_i19, hc_f19_0, hc_f19_1, hc_f19_2, hc_f19_3, hc_f19_4, hc_a20, hc_s20, hc_l20, hc_a21, hc_s21, hc_l21, hc_a22, hc_s22, hc_l22, hc_a23, hc_s23, hc_l23, hc_a24, hc_s24, hc_l24, hc_i25, hc_f25_0, hc_f25_1, hc_f25_2, hc_f25_3, hc_f25_4, hc_a26, hc_s26, hc_l26, hc_a27, hc_s27, hc_l27, hc_a28, hc_s28, hc_l28, hc_a29, hc_s29, hc_l29, hc_a30, hc_s30, hc_l30, hc_a31, hc_s31, hc_l31, hc_i32, hc_f32_0, hc_f32_1, hc_p32_1, hc_f32_2, hc_p32_2, hc_f32_3, hc_a33, hc_s33, hc_l33]
        simp (disch := omega) only [n_lit, n_litL, n_shr, n_shl, n_lt, n_le, n_eq, pk_mul, nI_add, n_cl, n_sub, Nat.reduceAdd, Nat.not_lt_zero, Nat.zero_le, true_implies, false_implies, not_true_eq_false, not_false_eq_true, true_and, and_true]
        rw [hs, if_pos q] at ih
        exact ih
      · simp only [B_X2_times_31, am_us, am_un, Nat.reduceEqDiff, not_false_eq_true, ak_c, ak_il, ak_ll, ak_al, ak_is, ak_as, ak_ls, ak_ii, ak_ib, ak_id, ak_lb, ak_lx, ak_lc, ak_iu, ak_i2l, ak_l2i, ak_dup, ak_dup2, ak_pop, ak_if, ak_ic, ak_sw, am_sws, ak_get, ak_puti, ak_putz, ak_putl, ak_puta, ak_iald, ak_lald, ak_iast, ak_last, ak_alen, ak_cs, ak_cv, ak_ri, ak_rz, ak_rl, ak_rv, am_ent, am_sp, am_pu, am_rs, Value.category, am_st1, am_st2, am_clr, List.getElem?_cons_zero, List.getElem?_cons_succ, List.set_cons_zero, List.set_cons_succ, List.length_cons, List.length_nil, Nat.reduceAdd, Nat.reduceLT, Nat.reduceLeDiff, Nat.zero_add, Nat.add_zero, true_and, and_true, or_true, true_or, if_true, if_false, Option.some.injEq, true_implies, false_implies, not_true_eq_false, not_false_eq_true, hc_i0, hc_f0_0, hc_f0_1, hc_f0_2, hc_f0_3, hc_f0_4, hc_f0_5, hc_f0_6, hc_p0_6, hc_i1, hc_f1_0, hc_f1_1, hc_p1_1, hc_a2, hc_s2, hc_l2, hc_i3, hc_f3_0, hc_f3_1, hc_f3_2, hc_f3_3, hc_p3_3, hc_a4, hc_s4, hc_l4, hc_a5, hc_s5, hc_l5, hc_a6, hc_s6, hc_l6, hc_i7, hc_f7_0, hc_f7_1, hc_f7_2, hc_f7_3, hc_p7_3, hc_a8, hc_s8, hc_l8, hc_a9, hc_s9, hc_l9, hc_a10, hc_s10, hc_l10, hc_a11, hc_s11, hc_l11, hc_i12, hc_f12_0, hc_f12_1, hc_f12_2, hc_f12_3, hc_f12_4, hc_f12_5, hc_f12_6, hc_f12_7, hc_p12_7, hc_f12_8, hc_p12_8, hc_f12_9, hc_p12_9, hc_f12_10, hc_p12_10, hc_f12_11, hc_p12_11, hc_i13, hc_f13_0, hc_f13_1, hc_f13_2, hc_f13_3, hc_f13_4, hc_a14, hc_s14, hc_l14, hc_a15, hc_s15, hc_l15, hc_a16, hc_s16, hc_l16, hc_a17, hc_s17, hc_l17, hc_a18, hc_s18, hc_l18, hc_i19, hc_f19_0, hc_f19_1, hc_f19_2, hc_f19_3, hc_f19_4, hc_a20, hc_s20, hc_l20, hc_a21, hc_s21, hc_l21, hc_a22, hc_s22, hc_l22, hc_a23, hc_s23, hc_l23, hc_a24, hc_s24, hc_l24, hc_i25, hc_f25_0, hc_f25_1, hc_f25_2, hc_f25_3, hc_f25_4, hc_a26, hc_s26, hc_l26, hc_a27, hc_s27, hc_l27, hc_a28, hc_s28, hc_l28, hc_a29, hc_s29, hc_l29, hc_a30, hc_s30, hc_l30, hc_a31, hc_s31, hc_l31, hc_i32, hc_f32_0, hc_f32_1, hc_p32_1, hc_f32_2, hc_p32_2, hc_f32_3, hc_a33, hc_s33, hc_l33]
        simp (disch := omega) only [n_lit, n_litL, n_shr, n_shl, n_lt, n_le, n_eq, pk_mul, nI_add, n_cl, n_sub, Nat.reduceAdd, Nat.not_lt_zero, Nat.zero_le, true_implies, false_implies, not_true_eq_false, not_false_eq_true, true_and, and_true]
        rw [hs, if_neg q] at ih
        exact ih
  exact loop 12 0 (by omega)
theorem p_X2_areSame {a b : List Nat} (ha : mk_W a) (hb : mk_W b) (hal : a.length ≤ 12) (hbl : b.length ≤ 12) (hQ : Q (some (.int (if mk_sm a b then 1 else 0))) h) : K_X2_areSame [.long (lN (mk_pk a)), .long (lN (mk_pk b))] h Q := by
  refine ⟨Nat.le_of_ble_eq_true rfl, fun G hG => ?_⟩
  obtain ⟨g0, g3⟩ := hG
  refine g0 _ _ _ ?_
  simp only [B_X2_areSame_0, am_us, am_un, Nat.reduceEqDiff, not_false_eq_true, ak_c, ak_il, ak_ll, ak_al, ak_is, ak_as, ak_ls, ak_ii, ak_ib, ak_id, ak_lb, ak_lx, ak_lc, ak_iu, ak_i2l, ak_l2i, ak_dup, ak_dup2, ak_pop, ak_if, ak_ic, ak_sw, am_sws, ak_get, ak_puti, ak_putz, ak_putl, ak_puta, ak_iald, ak_lald, ak_iast, ak_last, ak_alen, ak_cs, ak_cv, ak_ri, ak_rz, ak_rl, ak_rv, am_ent, am_sp, am_pu, am_rs, Value.category, am_st1, am_st2, am_clr, List.getElem?_cons_zero, List.getElem?_cons_succ, List.set_cons_zero, List.set_cons_succ, List.length_cons, List.length_nil, Nat.reduceAdd, Nat.reduceLT, Nat.reduceLeDiff, Nat.zero_add, Nat.add_zero, true_and, and_true, or_true, true_or, if_true, if_false, Option.some.injEq, true_implies, false_implies, not_true_eq_false, not_false_eq_true, hc_i0, hc_f0_0, hc_f0_1, hc_f0_2, hc_f0_3, hc_f0_4, hc_f0_5, hc_f0_6, hc_p0_6, hc_i1, hc_f1_0, hc_f1_1, hc_p1_1, hc_a2, hc_s2, hc_l2, hc_i3, hc_f3_0, hc_f3_1, hc_f3_2, hc_f3_3, hc_p3_3, hc_a4, hc_s4, hc_l4, hc_a5, hc_s5, hc_l5, hc_a6, hc_s6, hc_l6, hc_i7, hc_f7_0, hc_f7_1, hc_f7_2, hc_f7_3, hc_p7_3, hc_a8, hc_s8, hc_l8, hc_a9, hc_s9, hc_l9, hc_a10, hc_s10, hc_l10, hc_a11, hc_s11, hc_l11, hc_i12, hc_f12_0, hc_f12_1, hc_f12_2, hc_f12_3, hc_f12_4, hc_f12_5, hc_f12_6, hc_f12_7, hc_p12_7, hc_f12_8, hc_p12_8, hc_f12_9, hc_p12_9, hc_f12_10, hc_p12_10, hc_f12_11, hc_p12_11, hc_i13, hc_f13_0, hc_f13_1, hc_f13_2, hc_f13_3, hc_f13_4, hc_a14, hc_s14, hc_l14, hc_a15, hc_s15, hc_l15, hc_a16, hc_s16, hc_l16, hc_a17, hc_s17, hc_l17, hc_a18, hc_s18, hc_l18, hc_i19, hc_f19_0, hc_f19_1, hc_f19_2, hc_f19_3, hc_f19_4, hc_a20, hc_s20, hc_l20, hc_a21, hc_s21, hc_l21, hc_a22, hc_s22, hc_l22, hc_a23, hc_s23, hc_l23, hc_a24, hc_s24, hc_l24, hc_i25, hc_f25_0, hc_f25_1, hc_f25_2, hc_f25_3, hc_f25_4, hc_a26, hc_s26, hc_l26, hc_a27, hc_s27, hc_l27, hc_a28, hc_s28, hc_l28, hc_a29, hc_s29, hc_l29, hc_a30, hc_s30, hc_l30, hc_a31, hc_s31, hc_l31, hc_i32, hc_f32_0, hc_f32_1, hc_p32_1, hc_f32_2, hc_p32_2, hc_f32_3, hc_a33, hc_s33, hc_l33]
  have hb1 := mk_lt64 ha hal
  have loop : ∀ f k v, k + f = 12 → (∀ i, i < k → (mk_pd a).count (a.getD i 0) = (mk_pd b).count (a.getD i 0)) → G 3 [some (.long (lN (mk_pk a))), none, some (.long (lN (mk_pk b))), none, some (.int (nI k)), v] [] h := by
    intro f
    induction f with
    | zero =>
      intro k v hk he
      refine g3 _ _ _ ?_
      simp only [B_X2_areSame_3, am_us, am_un, Nat.reduceEqDiff, not_false_eq_true, ak_c, ak_il, ak_ll, ak_al, ak_is, ak_as, ak_ls, ak_ii, ak_ib, ak_id, ak_lb, ak_lx, ak_lc, ak_iu, ak_i2l, ak_l2i, ak_dup, ak_dup2, ak_pop, ak_if, ak_ic, ak_sw, am_sws, ak_get, ak_puti, ak_putz, ak_putl, ak_puta, ak_iald, ak_lald, ak_iast, ak_last, ak_alen, ak_cs, ak_cv, ak_ri, ak_rz, ak_rl, ak_rv, am_ent, am_sp, am_pu, am_rs, Value.category, am_st1, am_st2, am_clr, List.getElem?_cons_zero, List.getElem?_cons_succ, List.set_cons_zero, List.set_cons_succ, List.length_cons, List.length_nil, Nat.reduceAdd, Nat.reduceLT, Nat.reduceLeDiff, Nat.zero_add, Nat.add_zero, true_and, and_true, or_true, true_or, if_true, if_false, Option.some.injEq, true_implies, false_implies, not_true_eq_false, not_false_eq_true, hc_i0, hc_f0_0, hc_f0_1, hc_f0_2, hc_f0_3, hc_f0_4, hc_f0_5, hc_f0_6, hc_p0_6, hc_i1, hc_f1_0, hc_f1_1, hc_p1_1, hc_a2, hc_s2, hc_l2, hc_i3, hc_f3_0, hc_f3_1, hc_f3_2, hc_f3_3, hc_p3_3, hc_a4, hc_s4, hc_l4, hc_a5, hc_s5, hc_l5, hc_a6, hc_s6, hc_l6, hc_i7, hc_f7_0, hc_f7_1, hc_f7_2, hc_f7_3, hc_p7_3, hc_a8, hc_s8, hc_l8, hc_a9, hc_s9, hc_l9, hc_a10, hc_s10, hc_l10, hc_a11, hc_s11, hc_l11, hc_i12, hc_f12_0, hc_f12_1, hc_f12_2, hc_f12_3, hc_f12_4, hc_f12_5, hc_f12_6, hc_f12_7, hc_p12_7, hc_f12_8, hc_p12_8, hc_f12_9, hc_p12_9, hc_f12_10, hc_p12_10, hc_f12_11, hc_p12_11, hc_i13, hc_f13_0, hc_f13_1, hc_f13_2, hc_f13_3, hc_f13_4, hc_a14, hc_s14, hc_l14, hc_a15, hc_s15, hc_l15, hc_a16, hc_s16, hc_l16, hc_a17, hc_s17, hc_l17, hc_a18, hc_s18, hc_l18, hc_i19, hc_f19_0, hc_f19_1, hc_f19_2, hc_f19_3, hc_f19_4, hc_a20, hc_s20, hc_l20, hc_a21, hc_s21, hc_l21, hc_a22, hc_s22, hc_l22, hc_a23, hc_s23, hc_l23, hc_a24, hc_s24, hc_l24, hc_i25, hc_f25_0, hc_f25_1, hc_f25_2, hc_f25_3, hc_f25_4, hc_a26, hc_s26, hc_l26, hc_a27, hc_s27, hc_l27, hc_a28, hc_s28, hc_l28, hc_a29, hc_s29, hc_l29, hc_a30, hc_s30, hc_l30, hc_a31, hc_s31, hc_l31, hc_i32, hc_f32_0, hc_f32_1, hc_p32_1, hc_f32_2, hc_p32_2, hc_f32_3, hc_a33, hc_s33, hc_l33]
      rw [show (12 : Int32) = nI 12 from rfl, n_le (by omega) (by omega)]
      refine ⟨fun _ => ?_, fun q => absurd (by omega) q⟩
      have hs : mk_sm a b = true := by
        unfold mk_sm
        rw [List.all_eq_true]
        intro i hi
        exact decide_eq_true (he i (by have := List.mem_range.mp hi; omega))
      rw [if_pos hs] at hQ
      exact hQ
    | succ f ih =>
      intro k v hk he
      have hx := ha.lt k
      have c1 : (mk_pd a).count (a.getD k 0) ≤ 12 := mk_pd_le a 12 (a.getD k 0)
      have c2 : (mk_pd b).count (a.getD k 0) ≤ 12 := mk_pd_le b 12 (a.getD k 0)
      refine g3 _ _ _ ?_
      have hb2 := Nat.div_le_self (mk_pk a) (2 ^ (5 * k))
      simp only [B_X2_areSame_3, am_us, am_un, Nat.reduceEqDiff, not_false_eq_true, ak_c, ak_il, ak_ll, ak_al, ak_is, ak_as, ak_ls, ak_ii, ak_ib, ak_id, ak_lb, ak_lx, ak_lc, ak_iu, ak_i2l, ak_l2i, ak_dup, ak_dup2, ak_pop, ak_if, ak_ic, ak_sw, am_sws, ak_get, ak_puti, ak_putz, ak_putl, ak_puta, ak_iald, ak_lald, ak_iast, ak_last, ak_alen, ak_cs, ak_cv, ak_ri, ak_rz, ak_rl, ak_rv, am_ent, am_sp, am_pu, am_rs, Value.category, am_st1, am_st2, am_clr, List.getElem?_cons_zero, List.getElem?_cons_succ, List.set_cons_zero, List.set_cons_succ, List.length_cons, List.length_nil, Nat.reduceAdd, Nat.reduceLT, Nat.reduceLeDiff, Nat.zero_add, Nat.add_zero, true_and, and_true, or_true, true_or, if_true, if_false, Option.some.injEq, true_implies, false_implies, not_true_eq_false, not_false_eq_true, hc_i0, hc_f0_0, hc_f0_1, hc_f0_2, hc_f0_3, hc_f0_4, hc_f0_5, hc_f0_6, hc_p0_6, hc_i1, hc_f1_0, hc_f1_1, hc_p1_1, hc_a2, hc_s2, hc_l2, hc_i3, hc_f3_0, hc_f3_1, hc_f3_2, hc_f3_3, hc_p3_3, hc_a4, hc_s4, hc_l4, hc_a5, hc_s5, hc_l5, hc_a6, hc_s6, hc_l6, hc_i7, hc_f7_0, hc_f7_1, hc_f7_2, hc_f7_3, hc_p7_3, hc_a8, hc_s8, hc_l8, hc_a9, hc_s9, hc_l9, hc_a10, hc_s10, hc_l10, hc_a11, hc_s11, hc_l11, hc_i12, hc_f12_0, hc_f12_1, hc_f12_2, hc_f12_3, hc_f12_4, hc_f12_5, hc_f12_6, hc_f12_7, hc_p12_7, hc_f12_8, hc_p12_8, hc_f12_9, hc_p12_9, hc_f12_10, hc_p12_10, hc_f12_11, hc_p12_11, hc_i13, hc_f13_0, hc_f13_1, hc_f13_2, hc_f13_3, hc_f13_4, hc_a14, hc_s14, hc_l14, hc_a15, hc_s15, hc_l15, hc_a16, hc_s16, hc_l16, hc_a17, hc_s17, hc_l17, hc_a18, hc_s18, hc_l18, hc_i19, hc_f19_0, hc_f19_1, hc_f19_2, hc_f19_3, hc_f19_4, hc_a20, hc_s20, hc_l20, hc_a21, hc_s21, hc_l21, hc_a22, hc_s22, hc_l22, hc_a23, hc_s23, hc_l23, hc_a24, hc_s24, hc_l24, hc_i25, hc_f25_0, hc_f25_1, hc_f25_2, hc_f25_3, hc_f25_4, hc_a26, hc_s26, hc_l26, hc_a27, hc_s27, hc_l27, hc_a28, hc_s28, hc_l28, hc_a29, hc_s29, hc_l29, hc_a30, hc_s30, hc_l30, hc_a31, hc_s31, hc_l31, hc_i32, hc_f32_0, hc_f32_1, hc_p32_1, hc_f32_2, hc_p32_2, hc_f32_3, hc_a33, hc_s33, hc_l33]
      simp (disch := omega) only [n_lit, n_litL, n_shr, n_shl, n_lt, n_le, n_eq, pk_mul, nI_add, n_cl, n_sub, Nat.reduceAdd, Nat.not_lt_zero, Nat.zero_le, true_implies, false_implies, not_true_eq_false, not_false_eq_true, true_and, and_true]
      rw [show (31 : Nat) = 2 ^ 5 - 1 from rfl, wb_mask (k := 5) (by omega) (by omega), show (2 ^ 5 : Nat) = 32 from rfl, Nat.pow_mul, show (2 ^ 5 : Nat) = 32 from rfl, mk_dig k ha, lN_i]
      refine ⟨fun q => absurd q (by omega), fun _ => p_X2_times ha hal hx ?_⟩
      simp only [am_us, am_un, Nat.reduceEqDiff, not_false_eq_true, ak_c, ak_il, ak_ll, ak_al, ak_is, ak_as, ak_ls, ak_ii, ak_ib, ak_id, ak_lb, ak_lx, ak_lc, ak_iu, ak_i2l, ak_l2i, ak_dup, ak_dup2, ak_pop, ak_if, ak_ic, ak_sw, am_sws, ak_get, ak_puti, ak_putz, ak_putl, ak_puta, ak_iald, ak_lald, ak_iast, ak_last, ak_alen, ak_cs, ak_cv, ak_ri, ak_rz, ak_rl, ak_rv, am_ent, am_sp, am_pu, am_rs, Value.category, am_st1, am_st2, am_clr, List.getElem?_cons_zero, List.getElem?_cons_succ, List.set_cons_zero, List.set_cons_succ, List.length_cons, List.length_nil, Nat.reduceAdd, Nat.reduceLT, Nat.reduceLeDiff, Nat.zero_add, Nat.add_zero, true_and, and_true, or_true, true_or, if_true, if_false, Option.some.injEq, true_implies, false_implies, not_true_eq_false, not_false_eq_true, hc_i0, hc_f0_0, hc_f0_1, hc_f0_2, hc_f0_3, hc_f0_4, hc_f0_5, hc_f0_6, hc_p0_6, hc_i1, hc_f1_0, hc_f1_1, hc_p1_1, hc_a2, hc_s2, hc_l2, hc_i3, hc_f3_0, hc_f3_1, hc_f3_2, hc_f3_3, hc_p3_3, hc_a4, hc_s4, hc_l4, hc_a5, hc_s5, hc_l5, hc_a6, hc_s6, hc_l6, hc_i7, hc_f7_0, hc_f7_1, hc_f7_2, hc_f7_3, hc_p7_3, hc_a8, hc_s8, hc_l8, hc_a9, hc_s9, hc_l9, hc_a10, hc_s10, hc_l10, hc_a11, hc_s11, hc_l11, hc_i12, hc_f12_0, hc_f12_1, hc_f12_2, hc_f12_3, hc_f12_4, hc_f12_5, hc_f12_6, hc_f12_7, hc_p12_7, hc_f12_8, hc_p12_8, hc_f12_9, hc_p12_9, hc_f12_10, hc_p12_10, hc_f12_11, hc_p12_11, hc_i13, hc_f13_0, hc_f13_1, hc_f13_2, hc_f13_3, hc_f13_4, hc_a14, hc_s14, hc_l14, hc_a15, hc_s15, hc_l15, hc_a16, hc_s16, hc_l16, hc_a17, hc_s17, hc_l17, hc_a18, hc_s18, hc_l18, hc_i19, hc_f19_0, hc_f19_1, hc_f19_2, hc_f19_3, hc_f19_4, hc_a20, hc_s20, hc_l20, hc_a21, hc_s21, hc_l21, hc_a22, hc_s22, hc_l22, hc_a23, hc_s23, hc_l23, hc_a24, hc_s24, hc_l24, hc_i25, hc_f25_0, hc_f25_1, hc_f25_2, hc_f25_3, hc_f25_4, hc_a26, hc_s26, hc_l26, hc_a27, hc_s27, hc_l27, hc_a28, hc_s28, hc_l28, hc_a29, hc_s29, hc_l29, hc_a30, hc_s30, hc_l30, hc_a31, hc_s31, hc_l31, hc_i32, hc_f32_0, hc_f32_1, hc_p32_1, hc_f32_2, hc_p32_2, hc_f32_3, hc_a33, hc_s33, hc_l33]
      refine p_X2_times hb hbl hx ?_
      simp only [am_us, am_un, Nat.reduceEqDiff, not_false_eq_true, ak_c, ak_il, ak_ll, ak_al, ak_is, ak_as, ak_ls, ak_ii, ak_ib, ak_id, ak_lb, ak_lx, ak_lc, ak_iu, ak_i2l, ak_l2i, ak_dup, ak_dup2, ak_pop, ak_if, ak_ic, ak_sw, am_sws, ak_get, ak_puti, ak_putz, ak_putl, ak_puta, ak_iald, ak_lald, ak_iast, ak_last, ak_alen, ak_cs, ak_cv, ak_ri, ak_rz, ak_rl, ak_rv, am_ent, am_sp, am_pu, am_rs, Value.category, am_st1, am_st2, am_clr, List.getElem?_cons_zero, List.getElem?_cons_succ, List.set_cons_zero, List.set_cons_succ, List.length_cons, List.length_nil, Nat.reduceAdd, Nat.reduceLT, Nat.reduceLeDiff, Nat.zero_add, Nat.add_zero, true_and, and_true, or_true, true_or, if_true, if_false, Option.some.injEq, true_implies, false_implies, not_true_eq_false, not_false_eq_true, hc_i0, hc_f0_0, hc_f0_1, hc_f0_2, hc_f0_3, hc_f0_4, hc_f0_5, hc_f0_6, hc_p0_6, hc_i1, hc_f1_0, hc_f1_1, hc_p1_1, hc_a2, hc_s2, hc_l2, hc_i3, hc_f3_0, hc_f3_1, hc_f3_2, hc_f3_3, hc_p3_3, hc_a4, hc_s4, hc_l4, hc_a5, hc_s5, hc_l5, hc_a6, hc_s6, hc_l6, hc_i7, hc_f7_0, hc_f7_1, hc_f7_2, hc_f7_3, hc_p7_3, hc_a8, hc_s8, hc_l8, hc_a9, hc_s9, hc_l9, hc_a10, hc_s10, hc_l10, hc_a11, hc_s11, hc_l11, hc_i12, hc_f12_0, hc_f12_1, hc_f12_2, hc_f12_3, hc_f12_4, hc_f12_5, hc_f12_6, hc_f12_7, hc_p12_7, hc_f12_8, hc_p12_8, hc_f12_9, hc_p12_9, hc_f12_10, hc_p12_10, hc_f12_11, hc_p12_11, hc_i13, hc_f13_0, hc_f13_1, hc_f13_2, hc_f13_3, hc_f13_4, hc_a14, hc_s14, hc_l14, hc_a15, hc_s15, hc_l15, hc_a16, hc_s16, hc_l16, hc_a17, hc_s17, hc_l17, hc_a18, hc_s18, hc_l18, hc_i19, hc_f19_0, hc_f19_1, hc_f19_2, hc_f19_3, hc_f19_4, hc_a20, hc_s20, hc_l20, hc_a21, hc_s21, hc_l21, hc_a22, hc_s22, hc_l22, hc_a23, hc_s23, hc_l23, hc_a24, hc_s24, hc_l24, hc_i25, hc_f25_0, hc_f25_1, hc_f25_2, hc_f25_3, hc_f25_4, hc_a26, hc_s26, hc_l26, hc_a27, hc_s27, hc_l27, hc_a28, hc_s28, hc_l28, hc_a29, hc_s29, hc_l29, hc_a30, hc_s30, hc_l30, hc_a31, hc_s31, hc_l31, hc_i32, hc_f32_0, hc_f32_1, hc_p32_1, hc_f32_2, hc_p32_2, hc_f32_3, hc_a33, hc_s33, hc_l33]
      rw [n_eq (Nat.lt_of_le_of_lt c1 (by decide)) (Nat.lt_of_le_of_lt c2 (by decide))]
      refine ⟨fun q => ?_, fun q => ?_⟩
      · refine ih (k + 1) _ (by omega) (fun i hi => ?_)
        by_cases e : i = k
        · rw [e]; exact q
        · exact he i (by omega)
      · have hs : ¬ mk_sm a b = true := fun e => by
          unfold mk_sm at e
          rw [List.all_eq_true] at e
          exact q (decide_eq_true_eq.mp (e k (List.mem_range.mpr (by omega))))
        rw [if_neg hs] at hQ
        exact hQ
  exact loop 12 0 _ (by omega) (fun i hi => absurd hi (by omega))
end BG
section CL2
variable {I : Nat → Int32} {J : Nat → Int64} {A : Nat → Nat → Int32} {B : Nat → Nat → Int64} {tl : am_H} {Q : am_Q} {n : Nat} {cx : Nat → Nat} {cl : List (List Nat)}
theorem p_X1_readFrom (hT : rc_T I A n cx) (hz : A 2 0 = nI 0)
    (hQ1 : (∀ l, mc_p cx n 6 0 = some l → l.length < 2) → Q (some (.int 0)) (HC I J A B tl))
    (hQ2 : ∀ I' A' B' l, mc_p cx n 6 0 = some l → 2 ≤ l.length → fr_C I A B I' A' B' → rc_C I' A' B' l → A' 2 0 = nI 0 → Q (some (.int 1)) (HC I' J A' B' tl)) : K_X1_readFrom [.ref 7, .ref 1] (HC I J A B tl) Q := by
  refine ⟨Nat.le_of_ble_eq_true rfl, fun G hG => ?_⟩
  obtain ⟨g0, g17, g47⟩ := hG
  refine g0 _ _ _ ?_
  simp only [B_X1_readFrom_0, am_us, am_un, Nat.reduceEqDiff, not_false_eq_true, ak_c, ak_il, ak_ll, ak_al, ak_is, ak_as, ak_ls, ak_ii, ak_ib, ak_id, ak_lb, ak_lx, ak_lc, ak_iu, ak_i2l, ak_l2i, ak_dup, ak_dup2, ak_pop, ak_if, ak_ic, ak_sw, am_sws, ak_get, ak_puti, ak_putz, ak_putl, ak_puta, ak_iald, ak_lald, ak_iast, ak_last, ak_alen, ak_cs, ak_cv, ak_ri, ak_rz, ak_rl, ak_rv, am_ent, am_sp, am_pu, am_rs, Value.category, am_st1, am_st2, am_clr, List.getElem?_cons_zero, List.getElem?_cons_succ, List.set_cons_zero, List.set_cons_succ, List.length_cons, List.length_nil, Nat.reduceAdd, Nat.reduceLT, Nat.reduceLeDiff, Nat.zero_add, Nat.add_zero, true_and, and_true, or_true, true_or, if_true, if_false, Option.some.injEq, true_implies, false_implies, not_true_eq_false, not_false_eq_true, hc_i0, hc_f0_0, hc_f0_1, hc_f0_2, hc_f0_3, hc_f0_4, hc_f0_5, hc_f0_6, hc_p0_6, hc_i1, hc_f1_0, hc_f1_1, hc_p1_1, hc_a2, hc_s2, hc_l2, hc_i3, hc_f3_0, hc_f3_1, hc_f3_2, hc_f3_3, hc_p3_3, hc_a4, hc_s4, hc_l4, hc_a5, hc_s5, hc_l5, hc_a6, hc_s6, hc_l6, hc_i7, hc_f7_0, hc_f7_1, hc_f7_2, hc_f7_3, hc_p7_3, hc_a8, hc_s8, hc_l8, hc_a9, hc_s9, hc_l9, hc_a10, hc_s10, hc_l10, hc_a11, hc_s11, hc_l11, hc_i12, hc_f12_0, hc_f12_1, hc_f12_2, hc_f12_3, hc_f12_4, hc_f12_5, hc_f12_6, hc_f12_7, hc_p12_7, hc_f12_8, hc_p12_8, hc_f12_9, hc_p12_9, hc_f12_10, hc_p12_10, hc_f12_11, hc_p12_11, hc_i13, hc_f13_0, hc_f13_1, hc_f13_2, hc_f13_3, hc_f13_4, hc_a14, hc_s14, hc_l14, hc_a15, hc_s15, hc_l15, hc_a16, hc_s16, hc_l16, hc_a17, hc_s17, hc_l17, hc_a18, hc_s18, hc_l18, hc_i19, hc_f19_0, hc_f19_1, hc_f19_2, hc_f19_3, hc_f19_4, hc_a20, hc_s20, hc_l20, hc_a21, hc_s21, hc_l21, hc_a22, hc_s22, hc_l22, hc_a23, hc_s23, hc_l23, hc_a24, hc_s24, hc_l24, hc_i25, hc_f25_0, hc_f25_1, hc_f25_2, hc_f25_3, hc_f25_4, hc_a26, hc_s26, hc_l26, hc_a27, hc_s27, hc_l27, hc_a28, hc_s28, hc_l28, hc_a29, hc_s29, hc_l29, hc_a30, hc_s30, hc_l30, hc_a31, hc_s31, hc_l31, hc_i32, hc_f32_0, hc_f32_1, hc_p32_1, hc_f32_2, hc_p32_2, hc_f32_3, hc_a33, hc_s33, hc_l33]
  refine p_X1_wordsIn hT ?_
  simp only [am_us, am_un, Nat.reduceEqDiff, not_false_eq_true, ak_c, ak_il, ak_ll, ak_al, ak_is, ak_as, ak_ls, ak_ii, ak_ib, ak_id, ak_lb, ak_lx, ak_lc, ak_iu, ak_i2l, ak_l2i, ak_dup, ak_dup2, ak_pop, ak_if, ak_ic, ak_sw, am_sws, ak_get, ak_puti, ak_putz, ak_putl, ak_puta, ak_iald, ak_lald, ak_iast, ak_last, ak_alen, ak_cs, ak_cv, ak_ri, ak_rz, ak_rl, ak_rv, am_ent, am_sp, am_pu, am_rs, Value.category, am_st1, am_st2, am_clr, List.getElem?_cons_zero, List.getElem?_cons_succ, List.set_cons_zero, List.set_cons_succ, List.length_cons, List.length_nil, Nat.reduceAdd, Nat.reduceLT, Nat.reduceLeDiff, Nat.zero_add, Nat.add_zero, true_and, and_true, or_true, true_or, if_true, if_false, Option.some.injEq, true_implies, false_implies, not_true_eq_false, not_false_eq_true, hc_i0, hc_f0_0, hc_f0_1, hc_f0_2, hc_f0_3, hc_f0_4, hc_f0_5, hc_f0_6, hc_p0_6, hc_i1, hc_f1_0, hc_f1_1, hc_p1_1, hc_a2, hc_s2, hc_l2, hc_i3, hc_f3_0, hc_f3_1, hc_f3_2, hc_f3_3, hc_p3_3, hc_a4, hc_s4, hc_l4, hc_a5, hc_s5, hc_l5, hc_a6, hc_s6, hc_l6, hc_i7, hc_f7_0, hc_f7_1, hc_f7_2, hc_f7_3, hc_p7_3, hc_a8, hc_s8, hc_l8, hc_a9, hc_s9, hc_l9, hc_a10, hc_s10, hc_l10, hc_a11, hc_s11, hc_l11, hc_i12, hc_f12_0, hc_f12_1, hc_f12_2, hc_f12_3, hc_f12_4, hc_f12_5, hc_f12_6, hc_f12_7, hc_p12_7, hc_f12_8, hc_p12_8, hc_f12_9, hc_p12_9, hc_f12_10, hc_p12_10, hc_f12_11, hc_p12_11, hc_i13, hc_f13_0, hc_f13_1, hc_f13_2, hc_f13_3, hc_f13_4, hc_a14, hc_s14, hc_l14, hc_a15, hc_s15, hc_l15, hc_a16, hc_s16, hc_l16, hc_a17, hc_s17, hc_l17, hc_a18, hc_s18, hc_l18, hc_i19, hc_f19_0, hc_f19_1, hc_f19_2, hc_f19_3, hc_f19_4, hc_a20, hc_s20, hc_l20, hc_a21, hc_s21, hc_l21, hc_a22, hc_s22, hc_l22, hc_a23, hc_s23, hc_l23, hc_a24, hc_s24, hc_l24, hc_i25, hc_f25_0, hc_f25_1, hc_f25_2, hc_f25_3, hc_f25_4, hc_a26, hc_s26, hc_l26, hc_a27, hc_s27, hc_l27, hc_a28, hc_s28, hc_l28, hc_a29, hc_s29, hc_l29, hc_a30, hc_s30, hc_l30, hc_a31, hc_s31, hc_l31, hc_i32, hc_f32_0, hc_f32_1, hc_p32_1, hc_f32_2, hc_p32_2, hc_f32_3, hc_a33, hc_s33, hc_l33]
  cases hm : mc_p cx n 6 0 with
  | none => exact ⟨fun q => absurd q (by decide), fun _ => hQ1 (fun l hl => by rw [hm] at hl; cases hl)⟩
  | some cl =>
  have hcl := mc_p_C hm
  rw [n_lit, n_le (by omega) (by omega)]
  refine ⟨fun h2 => ?_, fun q => hQ1 (fun l hl => by rw [hm] at hl; cases hl; omega)⟩
  have hCC : mc_C cl := ⟨h2, by omega, hcl.2.2⟩
  have hn := hT.1.1
  have htl := hCC.le
  -- the letters of one word
  have inner : ∀ (A1 : Nat → Nat → Int32) (B1 : Nat → Nat → Int64) (p r w : Nat) (pre : List (List Nat)) v6, rc_T I A1 n cx → p + r ≤ 200 → w ≤ 6 → p = ml_t pre + w → ml_t pre + r ≤ 42 →
      (∀ k x, pre.flatten[k]? = some x → A1 3 k = nI (96 + x)) → (∀ k, k < r → mt_sm (cx (p + k)) = true) →
      (∀ (A2 : Nat → Nat → Int32), (∀ k, k ≠ 3 → A2 k = A1 k) → (∀ k x, (pre ++ [me_w cx p r]).flatten[k]? = some x → A2 3 k = nI (96 + x)) → G 47 [some (.ref 7), some (.ref 1), some (.int (nI cl.length)), some (.int (nI p)), some (.int (nI w)), some (.int (nI (p + r))), some (.int (nI (p + r)))] [] (HC I J A2 B1 tl)) →
      v6 = nI p → G 47 [some (.ref 7), some (.ref 1), some (.int (nI cl.length)), some (.int (nI p)), some (.int (nI w)), some (.int (nI (p + r))), some (.int v6)] [] (HC I J A1 B1 tl) := by
    intro A1 B1 p r w pre v6 hT1 h1 h2 h3 h4 h5 h6 hfin hv
    subst hv
    have lp : ∀ f k (A2 : Nat → Nat → Int32), k + f = r → (∀ j, j ≠ 3 → A2 j = A1 j) → (∀ j x, (pre ++ [me_w cx p k]).flatten[j]? = some x → A2 3 j = nI (96 + x)) → G 47 [some (.ref 7), some (.ref 1), some (.int (nI cl.length)), some (.int (nI p)), some (.int (nI w)), some (.int (nI (p + r))), some (.int (nI (p + k)))] [] (HC I J A2 B1 tl) := by
      intro f
      induction f with
      | zero =>
        intro k A2 hk hA hx
        rw [show k = r by omega] at hx ⊢
        exact hfin A2 hA hx
      | succ f ih =>
        intro k A2 hk hA hx
        have hT2 : rc_T I A2 n cx := ⟨hT1.1, hT1.2.1, fun j hj => by rw [hA 0 (by decide)]; exact hT1.2.2 j hj⟩
        refine g47 _ _ _ ?_
        simp only [B_X1_readFrom_47, am_us, am_un, Nat.reduceEqDiff, not_false_eq_true, ak_c, ak_il, ak_ll, ak_al, ak_is, ak_as, ak_ls, ak_ii, ak_ib, ak_id, ak_lb, ak_lx, ak_lc, ak_iu, ak_i2l, ak_l2i, ak_dup, ak_dup2, ak_pop, ak_if, ak_ic, ak_sw, am_sws, ak_get, ak_puti, ak_putz, ak_putl, ak_puta, ak_iald, ak_lald, ak_iast, ak_last, ak_alen, ak_cs, ak_cv, ak_ri, ak_rz, ak_rl, ak_rv, am_ent, am_sp, am_pu, am_rs, Value.category, am_st1, am_st2, am_clr, List.getElem?_cons_zero, List.getElem?_cons_succ, List.set_cons_zero, List.set_cons_succ, List.length_cons, List.length_nil, Nat.reduceAdd, Nat.reduceLT, Nat.reduceLeDiff, Nat.zero_add, Nat.add_zero, true_and, and_true, or_true, true_or, if_true, if_false, Option.some.injEq, true_implies, false_implies, not_true_eq_false, not_false_eq_true, hc_i0, hc_f0_0, hc_f0_1, hc_f0_2, hc_f0_3, hc_f0_4, hc_f0_5, hc_f0_6, hc_p0_6, hc_i1, hc_f1_0, hc_f1_1, hc_p1_1, hc_a2, hc_s2, hc_l2, hc_i3, hc_f3_0, hc_f3_1, hc_f3_2, hc_f3_3, hc_p3_3, hc_a4, hc_s4, hc_l4, hc_a5, hc_s5, hc_l5, hc_a6, hc_s6, hc_l6, hc_i7, hc_f7_0, hc_f7_1, hc_f7_2, hc_f7_3, hc_p7_3, hc_a8, hc_s8, hc_l8, hc_a9, hc_s9, hc_l9, hc_a10, hc_s10, hc_l10, hc_a11, hc_s11, hc_l11, hc_i12, hc_f12_0, hc_f12_1, hc_f12_2, hc_f12_3, hc_f12_4, hc_f12_5, hc_f12_6, hc_f12_7, hc_p12_7, hc_f12_8, hc_p12_8, hc_f12_9, hc_p12_9, hc_f12_10, hc_p12_10, hc_f12_11, hc_p12_11, hc_i13, hc_f13_0, hc_f13_1, hc_f13_2, hc_f13_3, hc_f13_4, hc_a14, hc_s14, hc_l14, hc_a15, hc_s15, hc_l15, hc_a16, hc_s16, hc_l16, hc_a17, hc_s17, hc_l17, hc_a18, hc_s18, hc_l18, hc_i19, hc_f19_0, hc_f19_1, hc_f19_2, hc_f19_3, hc_f19_4, hc_a20, hc_s20, hc_l20, hc_a21, hc_s21, hc_l21, hc_a22, hc_s22, hc_l22, hc_a23, hc_s23, hc_l23, hc_a24, hc_s24, hc_l24, hc_i25, hc_f25_0, hc_f25_1, hc_f25_2, hc_f25_3, hc_f25_4, hc_a26, hc_s26, hc_l26, hc_a27, hc_s27, hc_l27, hc_a28, hc_s28, hc_l28, hc_a29, hc_s29, hc_l29, hc_a30, hc_s30, hc_l30, hc_a31, hc_s31, hc_l31, hc_i32, hc_f32_0, hc_f32_1, hc_p32_1, hc_f32_2, hc_p32_2, hc_f32_3, hc_a33, hc_s33, hc_l33]
        simp (disch := omega) only [n_lit, n_litL, n_shr, n_shl, n_lt, n_le, n_eq, pk_mul, nI_add, n_cl, n_sub, Nat.reduceAdd, Nat.not_lt_zero, Nat.zero_le, true_implies, false_implies, not_true_eq_false, not_false_eq_true, true_and, and_true]
        refine ⟨fun q => absurd q (by omega), fun _ => p_X7_at hT2 (by omega) ?_⟩
        simp only [am_us, am_un, Nat.reduceEqDiff, not_false_eq_true, ak_c, ak_il, ak_ll, ak_al, ak_is, ak_as, ak_ls, ak_ii, ak_ib, ak_id, ak_lb, ak_lx, ak_lc, ak_iu, ak_i2l, ak_l2i, ak_dup, ak_dup2, ak_pop, ak_if, ak_ic, ak_sw, am_sws, ak_get, ak_puti, ak_putz, ak_putl, ak_puta, ak_iald, ak_lald, ak_iast, ak_last, ak_alen, ak_cs, ak_cv, ak_ri, ak_rz, ak_rl, ak_rv, am_ent, am_sp, am_pu, am_rs, Value.category, am_st1, am_st2, am_clr, List.getElem?_cons_zero, List.getElem?_cons_succ, List.set_cons_zero, List.set_cons_succ, List.length_cons, List.length_nil, Nat.reduceAdd, Nat.reduceLT, Nat.reduceLeDiff, Nat.zero_add, Nat.add_zero, true_and, and_true, or_true, true_or, if_true, if_false, Option.some.injEq, true_implies, false_implies, not_true_eq_false, not_false_eq_true, hc_i0, hc_f0_0, hc_f0_1, hc_f0_2, hc_f0_3, hc_f0_4, hc_f0_5, hc_f0_6, hc_p0_6, hc_i1, hc_f1_0, hc_f1_1, hc_p1_1, hc_a2, hc_s2, hc_l2, hc_i3, hc_f3_0, hc_f3_1, hc_f3_2, hc_f3_3, hc_p3_3, hc_a4, hc_s4, hc_l4, hc_a5, hc_s5, hc_l5, hc_a6, hc_s6, hc_l6, hc_i7, hc_f7_0, hc_f7_1, hc_f7_2, hc_f7_3, hc_p7_3, hc_a8, hc_s8, hc_l8, hc_a9, hc_s9, hc_l9, hc_a10, hc_s10, hc_l10, hc_a11, hc_s11, hc_l11, hc_i12, hc_f12_0, hc_f12_1, hc_f12_2, hc_f12_3, hc_f12_4, hc_f12_5, hc_f12_6, hc_f12_7, hc_p12_7, hc_f12_8, hc_p12_8, hc_f12_9, hc_p12_9, hc_f12_10, hc_p12_10, hc_f12_11, hc_p12_11, hc_i13, hc_f13_0, hc_f13_1, hc_f13_2, hc_f13_3, hc_f13_4, hc_a14, hc_s14, hc_l14, hc_a15, hc_s15, hc_l15, hc_a16, hc_s16, hc_l16, hc_a17, hc_s17, hc_l17, hc_a18, hc_s18, hc_l18, hc_i19, hc_f19_0, hc_f19_1, hc_f19_2, hc_f19_3, hc_f19_4, hc_a20, hc_s20, hc_l20, hc_a21, hc_s21, hc_l21, hc_a22, hc_s22, hc_l22, hc_a23, hc_s23, hc_l23, hc_a24, hc_s24, hc_l24, hc_i25, hc_f25_0, hc_f25_1, hc_f25_2, hc_f25_3, hc_f25_4, hc_a26, hc_s26, hc_l26, hc_a27, hc_s27, hc_l27, hc_a28, hc_s28, hc_l28, hc_a29, hc_s29, hc_l29, hc_a30, hc_s30, hc_l30, hc_a31, hc_s31, hc_l31, hc_i32, hc_f32_0, hc_f32_1, hc_p32_1, hc_f32_2, hc_p32_2, hc_f32_3, hc_a33, hc_s33, hc_l33]
        have hs := mt_sm_d (h6 k (by omega))
        simp (disch := omega) only [n_lit, n_litL, n_shr, n_shl, n_lt, n_le, n_eq, pk_mul, nI_add, n_cl, n_sub, Nat.reduceAdd, Nat.not_lt_zero, Nat.zero_le, true_implies, false_implies, not_true_eq_false, not_false_eq_true, true_and, and_true]
        refine ⟨vp_in_nI (by omega) (by omega), ?_⟩
        rw [show p + k + 1 = p + (k + 1) by omega]
        refine ih (k + 1) _ (by omega) (fun j hj => (am_un hj).trans (hA j hj)) (fun j x hj => ?_)
        rw [am_us, n_up]
        have hlen : (pre ++ [me_w cx p k]).flatten.length = ml_t pre + k := by rw [ml_flat, ml_app]; simp [ml_t, me_w_len]
        have hsp : (pre ++ [me_w cx p (k + 1)]).flatten = (pre ++ [me_w cx p k]).flatten ++ [cx (p + k) - 96] := by simp [me_w_succ]
        rw [hsp, List.getElem?_append, hlen] at hj
        split at hj
        · rw [if_neg (by omega)]
          exact hx j x hj
        · next hge =>
          have hj0 : j - (ml_t pre + k) = 0 := by
            have := (List.getElem?_eq_some_iff.mp hj).1
            simp at this; omega
          rw [hj0] at hj
          simp at hj
          rw [if_pos (by omega)]
          congr 1; omega
    refine lp r 0 A1 (by omega) (fun _ _ => rfl) (fun j x hj => h5 j x ?_)
    simpa [me_w] using hj
  -- the words
  have outer : ∀ (rest pre : List (List Nat)) (A1 : Nat → Nat → Int32) (B1 : Nat → Nat → Int64) (f p : Nat) v5 v6, cl = pre ++ rest → (rest ≠ [] → mc_p cx n f p = some rest) → (rest ≠ [] → p = ml_t pre + pre.length ∧ p ≤ 200) → p ≤ 201 →
      fr_C I A B I A1 B1 → (∀ w x, pre[w]? = some x → B1 2 w = lN (mk_pk x)) → (∀ w, w ≤ pre.length → A1 2 w = nI (ml_s cl w)) → (∀ k x, pre.flatten[k]? = some x → A1 3 k = nI (96 + x)) →
      G 17 [some (.ref 7), some (.ref 1), some (.int (nI cl.length)), some (.int (nI p)), some (.int (nI pre.length)), v5, v6] [] (HC I J A1 B1 tl) := by
    intro rest
    induction rest with
    | nil =>
      intro pre A1 B1 f p v5 v6 hcl2 hmp hp hp2 hfr hB hA2 hA3
      have hpc : pre = cl := by rw [hcl2]; simp
      subst hpc
      refine g17 _ _ _ ?_
      simp only [B_X1_readFrom_17, am_us, am_un, Nat.reduceEqDiff, not_false_eq_true, ak_c, ak_il, ak_ll, ak_al, ak_is, ak_as, ak_ls, ak_ii, ak_ib, ak_id, ak_lb, ak_lx, ak_lc, ak_iu, ak_i2l, ak_l2i, ak_dup, ak_dup2, ak_pop, ak_if, ak_ic, ak_sw, am_sws, ak_get, ak_puti, ak_putz, ak_putl, ak_puta, ak_iald, ak_lald, ak_iast, ak_last, ak_alen, ak_cs, ak_cv, ak_ri, ak_rz, ak_rl, ak_rv, am_ent, am_sp, am_pu, am_rs, Value.category, am_st1, am_st2, am_clr, List.getElem?_cons_zero, List.getElem?_cons_succ, List.set_cons_zero, List.set_cons_succ, List.length_cons, List.length_nil, Nat.reduceAdd, Nat.reduceLT, Nat.reduceLeDiff, Nat.zero_add, Nat.add_zero, true_and, and_true, or_true, true_or, if_true, if_false, Option.some.injEq, true_implies, false_implies, not_true_eq_false, not_false_eq_true, hc_i0, hc_f0_0, hc_f0_1, hc_f0_2, hc_f0_3, hc_f0_4, hc_f0_5, hc_f0_6, hc_p0_6, hc_i1, hc_f1_0, hc_f1_1, hc_p1_1, hc_a2, hc_s2, hc_l2, hc_i3, hc_f3_0, hc_f3_1, hc_f3_2, hc_f3_3, hc_p3_3, hc_a4, hc_s4, hc_l4, hc_a5, hc_s5, hc_l5, hc_a6, hc_s6, hc_l6, hc_i7, hc_f7_0, hc_f7_1, hc_f7_2, hc_f7_3, hc_p7_3, hc_a8, hc_s8, hc_l8, hc_a9, hc_s9, hc_l9, hc_a10, hc_s10, hc_l10, hc_a11, hc_s11, hc_l11, hc_i12, hc_f12_0, hc_f12_1, hc_f12_2, hc_f12_3, hc_f12_4, hc_f12_5, hc_f12_6, hc_f12_7, hc_p12_7, hc_f12_8, hc_p12_8, hc_f12_9, hc_p12_9, hc_f12_10, hc_p12_10, hc_f12_11, hc_p12_11, hc_i13, hc_f13_0, hc_f13_1, hc_f13_2, hc_f13_3, hc_f13_4, hc_a14, hc_s14, hc_l14, hc_a15, hc_s15, hc_l15, hc_a16, hc_s16, hc_l16, hc_a17, hc_s17, hc_l17, hc_a18, hc_s18, hc_l18, hc_i19, hc_f19_0, hc_f19_1, hc_f19_2, hc_f19_3, hc_f19_4, hc_a20, hc_s20, hc_l20, hc_a21, hc_s21, hc_l21, hc_a22, hc_s22, hc_l22, hc_a23, hc_s23, hc_l23, hc_a24, hc_s24, hc_l24, hc_i25, hc_f25_0, hc_f25_1, hc_f25_2, hc_f25_3, hc_f25_4, hc_a26, hc_s26, hc_l26, hc_a27, hc_s27, hc_l27, hc_a28, hc_s28, hc_l28, hc_a29, hc_s29, hc_l29, hc_a30, hc_s30, hc_l30, hc_a31, hc_s31, hc_l31, hc_i32, hc_f32_0, hc_f32_1, hc_p32_1, hc_f32_2, hc_p32_2, hc_f32_3, hc_a33, hc_s33, hc_l33]
      refine ⟨fun _ => ?_, fun q => absurd (by rw [n_le (by omega) (by omega)]; omega) q⟩
      refine hQ2 _ _ _ pre hm h2 ⟨fun k hk => am_un hk, hfr.2.1, hfr.2.2⟩ ⟨hCC, am_us _ _ _, hB, hA2, hA3⟩ ?_
      rw [hA2 0 (by omega)]; rfl
    | cons x rest ih =>
      intro pre A1 B1 f p v5 v6 hcl2 hmp hp hp2 hfr hB hA2 hA3
      have hmp := hmp (by simp)
      obtain ⟨hp, hp200⟩ := hp (by simp)
      have hT1 := hfr.T hT
      have hlen : cl.length = pre.length + (rest.length + 1) := by rw [hcl2]; simp
      cases f with
      | zero => cases hmp
      | succ f =>
      unfold mc_p at hmp
      refine g17 _ _ _ ?_
      simp only [B_X1_readFrom_17, am_us, am_un, Nat.reduceEqDiff, not_false_eq_true, ak_c, ak_il, ak_ll, ak_al, ak_is, ak_as, ak_ls, ak_ii, ak_ib, ak_id, ak_lb, ak_lx, ak_lc, ak_iu, ak_i2l, ak_l2i, ak_dup, ak_dup2, ak_pop, ak_if, ak_ic, ak_sw, am_sws, ak_get, ak_puti, ak_putz, ak_putl, ak_puta, ak_iald, ak_lald, ak_iast, ak_last, ak_alen, ak_cs, ak_cv, ak_ri, ak_rz, ak_rl, ak_rv, am_ent, am_sp, am_pu, am_rs, Value.category, am_st1, am_st2, am_clr, List.getElem?_cons_zero, List.getElem?_cons_succ, List.set_cons_zero, List.set_cons_succ, List.length_cons, List.length_nil, Nat.reduceAdd, Nat.reduceLT, Nat.reduceLeDiff, Nat.zero_add, Nat.add_zero, true_and, and_true, or_true, true_or, if_true, if_false, Option.some.injEq, true_implies, false_implies, not_true_eq_false, not_false_eq_true, hc_i0, hc_f0_0, hc_f0_1, hc_f0_2, hc_f0_3, hc_f0_4, hc_f0_5, hc_f0_6, hc_p0_6, hc_i1, hc_f1_0, hc_f1_1, hc_p1_1, hc_a2, hc_s2, hc_l2, hc_i3, hc_f3_0, hc_f3_1, hc_f3_2, hc_f3_3, hc_p3_3, hc_a4, hc_s4, hc_l4, hc_a5, hc_s5, hc_l5, hc_a6, hc_s6, hc_l6, hc_i7, hc_f7_0, hc_f7_1, hc_f7_2, hc_f7_3, hc_p7_3, hc_a8, hc_s8, hc_l8, hc_a9, hc_s9, hc_l9, hc_a10, hc_s10, hc_l10, hc_a11, hc_s11, hc_l11, hc_i12, hc_f12_0, hc_f12_1, hc_f12_2, hc_f12_3, hc_f12_4, hc_f12_5, hc_f12_6, hc_f12_7, hc_p12_7, hc_f12_8, hc_p12_8, hc_f12_9, hc_p12_9, hc_f12_10, hc_p12_10, hc_f12_11, hc_p12_11, hc_i13, hc_f13_0, hc_f13_1, hc_f13_2, hc_f13_3, hc_f13_4, hc_a14, hc_s14, hc_l14, hc_a15, hc_s15, hc_l15, hc_a16, hc_s16, hc_l16, hc_a17, hc_s17, hc_l17, hc_a18, hc_s18, hc_l18, hc_i19, hc_f19_0, hc_f19_1, hc_f19_2, hc_f19_3, hc_f19_4, hc_a20, hc_s20, hc_l20, hc_a21, hc_s21, hc_l21, hc_a22, hc_s22, hc_l22, hc_a23, hc_s23, hc_l23, hc_a24, hc_s24, hc_l24, hc_i25, hc_f25_0, hc_f25_1, hc_f25_2, hc_f25_3, hc_f25_4, hc_a26, hc_s26, hc_l26, hc_a27, hc_s27, hc_l27, hc_a28, hc_s28, hc_l28, hc_a29, hc_s29, hc_l29, hc_a30, hc_s30, hc_l30, hc_a31, hc_s31, hc_l31, hc_i32, hc_f32_0, hc_f32_1, hc_p32_1, hc_f32_2, hc_p32_2, hc_f32_3, hc_a33, hc_s33, hc_l33]
      simp (disch := omega) only [n_lit, n_litL, n_shr, n_shl, n_lt, n_le, n_eq, pk_mul, nI_add, n_cl, n_sub, Nat.reduceAdd, Nat.not_lt_zero, Nat.zero_le, true_implies, false_implies, not_true_eq_false, not_false_eq_true, true_and, and_true]
      refine ⟨fun q => absurd q (by omega), fun _ => p_X7_wordEnd hT1 (by omega) ?_⟩
      simp only [am_us, am_un, Nat.reduceEqDiff, not_false_eq_true, ak_c, ak_il, ak_ll, ak_al, ak_is, ak_as, ak_ls, ak_ii, ak_ib, ak_id, ak_lb, ak_lx, ak_lc, ak_iu, ak_i2l, ak_l2i, ak_dup, ak_dup2, ak_pop, ak_if, ak_ic, ak_sw, am_sws, ak_get, ak_puti, ak_putz, ak_putl, ak_puta, ak_iald, ak_lald, ak_iast, ak_last, ak_alen, ak_cs, ak_cv, ak_ri, ak_rz, ak_rl, ak_rv, am_ent, am_sp, am_pu, am_rs, Value.category, am_st1, am_st2, am_clr, List.getElem?_cons_zero, List.getElem?_cons_succ, List.set_cons_zero, List.set_cons_succ, List.length_cons, List.length_nil, Nat.reduceAdd, Nat.reduceLT, Nat.reduceLeDiff, Nat.zero_add, Nat.add_zero, true_and, and_true, or_true, true_or, if_true, if_false, Option.some.injEq, true_implies, false_implies, not_true_eq_false, not_false_eq_true, hc_i0, hc_f0_0, hc_f0_1, hc_f0_2, hc_f0_3, hc_f0_4, hc_f0_5, hc_f0_6, hc_p0_6, hc_i1, hc_f1_0, hc_f1_1, hc_p1_1, hc_a2, hc_s2, hc_l2, hc_i3, hc_f3_0, hc_f3_1, hc_f3_2, hc_f3_3, hc_p3_3, hc_a4, hc_s4, hc_l4, hc_a5, hc_s5, hc_l5, hc_a6, hc_s6, hc_l6, hc_i7, hc_f7_0, hc_f7_1, hc_f7_2, hc_f7_3, hc_p7_3, hc_a8, hc_s8, hc_l8, hc_a9, hc_s9, hc_l9, hc_a10, hc_s10, hc_l10, hc_a11, hc_s11, hc_l11, hc_i12, hc_f12_0, hc_f12_1, hc_f12_2, hc_f12_3, hc_f12_4, hc_f12_5, hc_f12_6, hc_f12_7, hc_p12_7, hc_f12_8, hc_p12_8, hc_f12_9, hc_p12_9, hc_f12_10, hc_p12_10, hc_f12_11, hc_p12_11, hc_i13, hc_f13_0, hc_f13_1, hc_f13_2, hc_f13_3, hc_f13_4, hc_a14, hc_s14, hc_l14, hc_a15, hc_s15, hc_l15, hc_a16, hc_s16, hc_l16, hc_a17, hc_s17, hc_l17, hc_a18, hc_s18, hc_l18, hc_i19, hc_f19_0, hc_f19_1, hc_f19_2, hc_f19_3, hc_f19_4, hc_a20, hc_s20, hc_l20, hc_a21, hc_s21, hc_l21, hc_a22, hc_s22, hc_l22, hc_a23, hc_s23, hc_l23, hc_a24, hc_s24, hc_l24, hc_i25, hc_f25_0, hc_f25_1, hc_f25_2, hc_f25_3, hc_f25_4, hc_a26, hc_s26, hc_l26, hc_a27, hc_s27, hc_l27, hc_a28, hc_s28, hc_l28, hc_a29, hc_s29, hc_l29, hc_a30, hc_s30, hc_l30, hc_a31, hc_s31, hc_l31, hc_i32, hc_f32_0, hc_f32_1, hc_p32_1, hc_f32_2, hc_p32_2, hc_f32_3, hc_a33, hc_s33, hc_l33]
      have hr := mt_rl_le (cx := cx) 300 p
      have hsm : ∀ k, k < mt_rl cx p 300 → mt_sm (cx (p + k)) = true := fun k hk => mt_rl_sm 300 p k hk
      have hre := mt_rl_end hT.1 300 p
      generalize hr1 : mt_rl cx p 300 = r at hr hmp hsm hre ⊢
      split at hmp
      · cases hmp
      next h7 =>
      have hx : x = me_w cx p r := by
        split at hmp
        · cases hmp; rfl
        · split at hmp
          · cases hq : mc_p cx n f (p + r + 1) with
            | none => rw [hq] at hmp; cases hmp
            | some l => rw [hq] at hmp; cases hmp; rfl
          · cases hmp
      refine p_X7_packed hT1 (by omega) (by omega) (by omega) (fun k hk => hsm k (by omega)) ?_
      simp only [am_us, am_un, Nat.reduceEqDiff, not_false_eq_true, ak_c, ak_il, ak_ll, ak_al, ak_is, ak_as, ak_ls, ak_ii, ak_ib, ak_id, ak_lb, ak_lx, ak_lc, ak_iu, ak_i2l, ak_l2i, ak_dup, ak_dup2, ak_pop, ak_if, ak_ic, ak_sw, am_sws, ak_get, ak_puti, ak_putz, ak_putl, ak_puta, ak_iald, ak_lald, ak_iast, ak_last, ak_alen, ak_cs, ak_cv, ak_ri, ak_rz, ak_rl, ak_rv, am_ent, am_sp, am_pu, am_rs, Value.category, am_st1, am_st2, am_clr, List.getElem?_cons_zero, List.getElem?_cons_succ, List.set_cons_zero, List.set_cons_succ, List.length_cons, List.length_nil, Nat.reduceAdd, Nat.reduceLT, Nat.reduceLeDiff, Nat.zero_add, Nat.add_zero, true_and, and_true, or_true, true_or, if_true, if_false, Option.some.injEq, true_implies, false_implies, not_true_eq_false, not_false_eq_true, hc_i0, hc_f0_0, hc_f0_1, hc_f0_2, hc_f0_3, hc_f0_4, hc_f0_5, hc_f0_6, hc_p0_6, hc_i1, hc_f1_0, hc_f1_1, hc_p1_1, hc_a2, hc_s2, hc_l2, hc_i3, hc_f3_0, hc_f3_1, hc_f3_2, hc_f3_3, hc_p3_3, hc_a4, hc_s4, hc_l4, hc_a5, hc_s5, hc_l5, hc_a6, hc_s6, hc_l6, hc_i7, hc_f7_0, hc_f7_1, hc_f7_2, hc_f7_3, hc_p7_3, hc_a8, hc_s8, hc_l8, hc_a9, hc_s9, hc_l9, hc_a10, hc_s10, hc_l10, hc_a11, hc_s11, hc_l11, hc_i12, hc_f12_0, hc_f12_1, hc_f12_2, hc_f12_3, hc_f12_4, hc_f12_5, hc_f12_6, hc_f12_7, hc_p12_7, hc_f12_8, hc_p12_8, hc_f12_9, hc_p12_9, hc_f12_10, hc_p12_10, hc_f12_11, hc_p12_11, hc_i13, hc_f13_0, hc_f13_1, hc_f13_2, hc_f13_3, hc_f13_4, hc_a14, hc_s14, hc_l14, hc_a15, hc_s15, hc_l15, hc_a16, hc_s16, hc_l16, hc_a17, hc_s17, hc_l17, hc_a18, hc_s18, hc_l18, hc_i19, hc_f19_0, hc_f19_1, hc_f19_2, hc_f19_3, hc_f19_4, hc_a20, hc_s20, hc_l20, hc_a21, hc_s21, hc_l21, hc_a22, hc_s22, hc_l22, hc_a23, hc_s23, hc_l23, hc_a24, hc_s24, hc_l24, hc_i25, hc_f25_0, hc_f25_1, hc_f25_2, hc_f25_3, hc_f25_4, hc_a26, hc_s26, hc_l26, hc_a27, hc_s27, hc_l27, hc_a28, hc_s28, hc_l28, hc_a29, hc_s29, hc_l29, hc_a30, hc_s30, hc_l30, hc_a31, hc_s31, hc_l31, hc_i32, hc_f32_0, hc_f32_1, hc_p32_1, hc_f32_2, hc_p32_2, hc_f32_3, hc_a33, hc_s33, hc_l33]
      simp (disch := omega) only [n_lit, n_litL, n_shr, n_shl, n_lt, n_le, n_eq, pk_mul, nI_add, n_cl, n_sub, Nat.reduceAdd, Nat.not_lt_zero, Nat.zero_le, true_implies, false_implies, not_true_eq_false, not_false_eq_true, true_and, and_true]
      have hpl : pre.length < 6 := by omega
      refine ⟨vp_in_nI (by omega) (by omega), ?_⟩
      rw [show p + r - p = r by omega]
      have ht : ml_t cl = ml_t pre + (x.length + ml_t rest) := by rw [hcl2, ml_app]; simp [ml_t]
      have hxl : x.length = r := by rw [hx, me_w_len]
      refine inner A1 _ p r pre.length pre _ hT1 (by omega) (by omega) hp (by omega) hA3 hsm (fun A2 hA hx3 => ?_) rfl
      refine g47 _ _ _ ?_
      simp only [B_X1_readFrom_47, am_us, am_un, Nat.reduceEqDiff, not_false_eq_true, ak_c, ak_il, ak_ll, ak_al, ak_is, ak_as, ak_ls, ak_ii, ak_ib, ak_id, ak_lb, ak_lx, ak_lc, ak_iu, ak_i2l, ak_l2i, ak_dup, ak_dup2, ak_pop, ak_if, ak_ic, ak_sw, am_sws, ak_get, ak_puti, ak_putz, ak_putl, ak_puta, ak_iald, ak_lald, ak_iast, ak_last, ak_alen, ak_cs, ak_cv, ak_ri, ak_rz, ak_rl, ak_rv, am_ent, am_sp, am_pu, am_rs, Value.category, am_st1, am_st2, am_clr, List.getElem?_cons_zero, List.getElem?_cons_succ, List.set_cons_zero, List.set_cons_succ, List.length_cons, List.length_nil, Nat.reduceAdd, Nat.reduceLT, Nat.reduceLeDiff, Nat.zero_add, Nat.add_zero, true_and, and_true, or_true, true_or, if_true, if_false, Option.some.injEq, true_implies, false_implies, not_true_eq_false, not_false_eq_true, hc_i0, hc_f0_0, hc_f0_1, hc_f0_2, hc_f0_3, hc_f0_4, hc_f0_5, hc_f0_6, hc_p0_6, hc_i1, hc_f1_0, hc_f1_1, hc_p1_1, hc_a2, hc_s2, hc_l2, hc_i3, hc_f3_0, hc_f3_1, hc_f3_2, hc_f3_3, hc_p3_3, hc_a4, hc_s4, hc_l4, hc_a5, hc_s5, hc_l5, hc_a6, hc_s6, hc_l6, hc_i7, hc_f7_0, hc_f7_1, hc_f7_2, hc_f7_3, hc_p7_3, hc_a8, hc_s8, hc_l8, hc_a9, hc_s9, hc_l9, hc_a10, hc_s10, hc_l10, hc_a11, hc_s11, hc_l11, hc_i12, hc_f12_0, hc_f12_1, hc_f12_2, hc_f12_3, hc_f12_4, hc_f12_5, hc_f12_6, hc_f12_7, hc_p12_7, hc_f12_8, hc_p12_8, hc_f12_9, hc_p12_9, hc_f12_10, hc_p12_10, hc_f12_11, hc_p12_11, hc_i13, hc_f13_0, hc_f13_1, hc_f13_2, hc_f13_3, hc_f13_4, hc_a14, hc_s14, hc_l14, hc_a15, hc_s15, hc_l15, hc_a16, hc_s16, hc_l16, hc_a17, hc_s17, hc_l17, hc_a18, hc_s18, hc_l18, hc_i19, hc_f19_0, hc_f19_1, hc_f19_2, hc_f19_3, hc_f19_4, hc_a20, hc_s20, hc_l20, hc_a21, hc_s21, hc_l21, hc_a22, hc_s22, hc_l22, hc_a23, hc_s23, hc_l23, hc_a24, hc_s24, hc_l24, hc_i25, hc_f25_0, hc_f25_1, hc_f25_2, hc_f25_3, hc_f25_4, hc_a26, hc_s26, hc_l26, hc_a27, hc_s27, hc_l27, hc_a28, hc_s28, hc_l28, hc_a29, hc_s29, hc_l29, hc_a30, hc_s30, hc_l30, hc_a31, hc_s31, hc_l31, hc_i32, hc_f32_0, hc_f32_1, hc_p32_1, hc_f32_2, hc_p32_2, hc_f32_3, hc_a33, hc_s33, hc_l33]
      simp (disch := omega) only [n_lit, n_litL, n_shr, n_shl, n_lt, n_le, n_eq, pk_mul, nI_add, n_cl, n_sub, Nat.reduceAdd, Nat.not_lt_zero, Nat.zero_le, true_implies, false_implies, not_true_eq_false, not_false_eq_true, true_and, and_true]
      refine ⟨fun _ => ⟨vp_in_nI (by omega) (by omega), ?_⟩, fun q => absurd (by omega) q⟩
      have hpre1 : (pre ++ [x]).length = pre.length + 1 := by simp
      rw [show (pre.length + 1 : Nat) = (pre ++ [x]).length from hpre1.symm, ← hx] at *
      have hms : ml_s cl (pre ++ [x]).length = ml_t pre + r := by
        unfold ml_s
        rw [hcl2, show pre ++ x :: rest = (pre ++ [x]) ++ rest by simp, List.take_left' rfl, ml_app]
        simp [ml_t, hxl]
      refine ih (pre ++ [x]) _ _ f (p + r + 1) _ _ (by rw [hcl2]; simp) (fun hne => ?_) (fun hne => ?_) (by omega) ⟨fun k hk => hfr.1 k hk, fun k h0 h1 => ?_, fun k hk => ?_⟩ (fun w y hy => ?_) (fun w hw => ?_) (fun k y hk => ?_)
      · split at hmp
        · cases hmp; exact absurd rfl hne
        · split at hmp
          · cases hq : mc_p cx n f (p + r + 1) with
            | none => rw [hq] at hmp; cases hmp
            | some l => rw [hq] at hmp; cases hmp; rfl
          · cases hmp
      · refine ⟨by rw [hpre1, ml_app]; simp [ml_t, hxl]; simp [ml_t] at hp; omega, ?_⟩
        split at hmp
        · cases hmp; exact absurd rfl hne
        · omega
      · rw [am_un h0, hA k h1]; exact hfr.2.1 k h0 h1
      · rw [am_un hk]; exact hfr.2.2 k hk
      · rw [am_us, n_upL]
        rw [List.getElem?_append] at hy
        split at hy
        · rw [if_neg (by omega)]; exact hB w y hy
        · next hge =>
          have hw0 : w - pre.length = 0 := by
            have := (List.getElem?_eq_some_iff.mp hy).1
            simp at this; omega
          rw [hw0] at hy
          simp at hy
          rw [if_pos (by omega), ← hy]
      · rw [am_us, n_up]
        by_cases e : w = (pre ++ [x]).length
        · rw [if_pos e, e, hms]
          congr 1; omega
        · rw [if_neg e, hA 2 (by decide)]
          exact hA2 w (by have h9 : (pre ++ [x]).length = pre.length + 1 := by simp
                          omega)
      · rw [am_un (by decide)]
        exact hx3 k y hk
  refine outer cl [] A B 6 0 _ _ (by simp) (fun _ => hm) (fun _ => ⟨rfl, by omega⟩) (by omega) ⟨fun _ _ => rfl, fun _ _ _ => rfl, fun _ _ => rfl⟩ (fun w x hx => by simp at hx) (fun w hw => ?_) (fun k x hx => by simp at hx)
  have : w = 0 := by simpa using hw
  subst this
  exact hz
end CL2
