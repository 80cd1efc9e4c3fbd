/-! the reference: a piece, the whole line; first -/
section RF32
variable {hd : Nat → am_C} {I I' I0 : Nat → Int32} {A A' A0 : Nat → Nat → Int32} {T T' : Nat → Int64} {Q : am_Q} {h : am_H} {X : MX} {s : MS} {d : List Nat} {B : List ItS} {i j p : Nat}
theorem lx_of (hR : rs0 X I A) : lx X := ⟨fun s hs => (hR.2.2.2.2 s hs).2, hR.2.1.1.2.1, hR.1.1.1⟩
theorem ly_of9 (hR : rs0 X I A) : ly X := by
  have hC := hR.2.1.1
  refine ⟨lx_of hR, fun w => ?_, fun i j hij hj => ?_, fun e => ?_⟩
  · rw [List.getD_eq_getElem?_getD]
    cases hc : X.2.1[w]? with
    | none => exact Nat.zero_le _
    | some y => exact (hC.2.2 y (List.mem_of_getElem? hc)).2.2
  · rw [lq_w_ml hij, lq_s_len]
    have key : ∀ n, i + n ≤ X.2.1.length → (ml_w X.2.1 i n).length ≤ 7 * n := by
      intro n
      induction n with
      | zero => intro _; exact Nat.zero_le _
      | succ n ih =>
        intro hn
        have hx : X.2.1[i + n]? = some (X.2.1[i + n]'(by omega)) := List.getElem?_eq_getElem (by omega)
        rw [ml_w_s hx, List.length_append]
        have := (hC.2.2 _ (List.mem_of_getElem? hx)).2.2
        have := ih (by omega)
        omega
    exact key (j - i) (by omega)
  · rw [List.getD_eq_getElem?_getD, List.getElem?_map]
    cases hc : X.1[e]? with
    | none => exact Nat.zero_le _
    | some x => exact (hR.1.1.2.1 x (List.mem_of_getElem? hc)).2.2.2.1
theorem ML_len9 (hy : ly X) (hg : mg_W X.2.2.1) (hz : ¬ (MZ X).1 = 0) : (ML X).length ≤ 100 := by
  obtain ⟨m1, m2, m3, m4⟩ := MZ_pick hy.1.1 hy.1.2.1 hz
  have l6 := hy.1.2.1
  have hb : mz_b X (MZ X).2.2.2 ≤ X.2.1.length := by unfold mz_b; split <;> (try split) <;> omega
  have hr : rg X (mz_a (MZ X).2.2.2) (mz_b X (MZ X).2.2.2) (mz_f X) := rg.st hg m3 hb (by have := hg.2.1; omega) (Nat.le_refl _)
  have h1 := LLn_len hy 6 _ _ _ (by omega) hr m4
  have h2 : (mz_d X (MZ X).2.2.2).length ≤ 7 := hy.2.1 _
  unfold ML
  rw [if_neg hz]
  have e : ln_P X 7 = LLn X := rfl
  rw [e]
  simp only [List.length_cons, List.length_append, lq_s_len]
  split <;> simp only [List.length_cons, List.length_nil] <;> omega
theorem p_X9_saysPiece (hS : SL I0 A0 X d B I A) (hT : rtb false X T 7) (hF : flm X i j p) (hz : ¬ (MP X i j p).1 = 0) (hB : B.length ≤ 50) (hQ : ∀ (I' : Nat → Int32) (A' : Nat → Nat → Int32) (N : List ItS), SL I0 A0 X d (B ++ N) I' A' → (∀ x ∈ N, ito X x) → N.reverse.flatMap (itl X) = LLn X i j p → (N.map itw).sum < 6 * (j - i) → Q none (HM hd I' A' T)) : K_X9_saysPiece [.ref 34, .int (nI i), .int (nI j), .int (nI (p % 256)), .int (nI (p / 256))] (HM hd I A T) Q := by
  refine ⟨Nat.le_of_ble_eq_true rfl, fun G hG => ?_⟩
  obtain ⟨g0, g55⟩ := hG
  have hp := hF.1.2.2.1.1
  have hij := hF.1.1
  have hjn := hF.1.2.1
  have h6 := hS.1.2.1.1.2.1
  have h8 := pt_sz_le p
  have hlx := lx_of hS.1.z
  obtain ⟨e, hh, hfu, hej, hh5⟩ := fu_of hlx hF.1 hz
  have hLL := LLn_eq hlx hF.1 hz hfu hh5
  obtain ⟨ec, hie, hru, hzu, hrest⟩ := hfu
  have hpz := hT i j p hF (by omega)
  refine g0 _ _ _ ?_
  simp only [B_X9_saysPiece_0, am_us, am_un, Nat.reduceEqDiff, not_false_eq_true, ak_c, ak_il, ak_ll, ak_al, ak_is, ak_as, ak_ls, ak_ii, ak_ib, ak_id, ak_lb, ak_lx, ak_lc, ak_iu, ak_i2l, ak_l2i, ak_dup, ak_dup2, ak_pop, ak_if, ak_ic, ak_sw, am_sws, ak_get, ak_puti, ak_putz, ak_putl, ak_puta, ak_iald, ak_lald, ak_iast, ak_last, ak_alen, ak_cs, ak_cv, ak_ri, ak_rz, ak_rl, ak_rv, am_ent, am_sp, am_pu, am_rs, Value.category, am_st1, am_st2, am_clr, List.getElem?_cons_zero, List.getElem?_cons_succ, List.set_cons_zero, List.set_cons_succ, List.length_cons, List.length_nil, Nat.reduceAdd, Nat.reduceLT, Nat.reduceLeDiff, Nat.zero_add, Nat.add_zero, true_and, and_true, or_true, true_or, if_true, if_false, Option.some.injEq, true_implies, false_implies, not_true_eq_false, not_false_eq_true, hm_i34, hm_f34_0, hm_p34_0, hm_f34_1, hm_f34_2, hm_p34_2, hm_f34_3, hm_f34_4, hm_f34_5, hm_f34_6, hm_p34_6, hm_f34_7, hm_f34_8, hm_f34_9, hm_f34_10, hm_p34_10, hm_f34_11, hm_f34_12, hm_f34_13, hm_f34_14, hm_f34_15, hm_f34_16, hm_p34_16, hm_f34_17, hm_p34_17, hm_f34_18, hm_p34_18, hm_f34_19, hm_p34_19, hm_f34_20, hm_p34_20, hm_f34_21, hm_p34_21, hm_f34_22, hm_p34_22, hm_f34_23, hm_p34_23, hm_f34_24, hm_p34_24, hm_f34_25, hm_p34_25, hm_f34_26, hm_f34_27, hm_f34_28, hm_p34_28, hm_f34_29, hm_p34_29, hm_f34_30, hm_f34_31, hm_f34_32, hm_p34_32, hm_f34_33, hm_f34_34, hm_f34_35, hm_f34_36, hm_f34_37, hm_f34_38, hm_a35, hm_s35, hm_l35, hm_a36, hm_s36, hm_l36, hm_a37, hm_s37, hm_l37, hm_a38, hm_s38, hm_l38, hm_a39, hm_s39, hm_l39, hm_a40, hm_s40, hm_l40, hm_a41, hm_s41, hm_l41, hm_a42, hm_s42, hm_l42, hm_a43, hm_s43, hm_l43, hm_a44, hm_s44, hm_l44, hm_a45, hm_s45, hm_l45, hm_a46, hm_s46, hm_l46, hm_a47, hm_s47, hm_l47, hm_a48, hm_s48, hm_l48, hm_a49, hm_s49, hm_l49, hm_a50, hm_s50, hm_l50, hm_a51, hm_s51, hm_l51, hm_a52, hm_s52, hm_l52, hm_a53, hm_s53, hm_l53, hm_a54, hm_s54, hm_l54, hm_a55, hm_s55, hm_l55, hm_a56, hm_s56, hm_l56]
  refine p_X9_piecesOf hS.1 hF (hT.le (by omega)) hpz (fun I1 A1 hU => ?_)
  have hS1 : SL I0 A0 X d B I1 A1 := hS.fr hU.2.2.2.1
  obtain ⟨h10, n, h11, hn, hcn⟩ := (hU.2.2.1.2.2 hz).2.2
  rw [ec] at h10 hcn
  rw [show (e * 512 + hh) / 512 = e by omega] at h10
  rw [show (e * 512 + hh) % 512 = hh by omega] at hcn
  have hn1 : 1 ≤ n := by
    have h1 := hru.2.2.2
    rw [hcn, ps_sz (a := 0) (by omega)] at h1
    omega
  have hrf := rn_f hp (a := 0) (b := n) (by omega) hn
  have hsz2 := pm_sz (p := p) (a := 0) (b := n) (by omega) hn
  rw [← hcn] at hrf hsz2
  have hfu1 : flm X i e hh := hF.sub (Nat.le_refl _) hie hej hru.2.2.1 hru.2.2.2 (Or.inl hrf.2.2.2.1) hrf.2.2.2.2.1
  simp only [h10, h11, am_us, am_un, Nat.reduceEqDiff, not_false_eq_true, ak_c, ak_il, ak_ll, ak_al, ak_is, ak_as, ak_ls, ak_ii, ak_ib, ak_id, ak_lb, ak_lx, ak_lc, ak_iu, ak_i2l, ak_l2i, ak_dup, ak_dup2, ak_pop, ak_if, ak_ic, ak_sw, am_sws, ak_get, ak_puti, ak_putz, ak_putl, ak_puta, ak_iald, ak_lald, ak_iast, ak_last, ak_alen, ak_cs, ak_cv, ak_ri, ak_rz, ak_rl, ak_rv, am_ent, am_sp, am_pu, am_rs, Value.category, am_st1, am_st2, am_clr, List.getElem?_cons_zero, List.getElem?_cons_succ, List.set_cons_zero, List.set_cons_succ, List.length_cons, List.length_nil, Nat.reduceAdd, Nat.reduceLT, Nat.reduceLeDiff, Nat.zero_add, Nat.add_zero, true_and, and_true, or_true, true_or, if_true, if_false, Option.some.injEq, true_implies, false_implies, not_true_eq_false, not_false_eq_true, hm_i34, hm_f34_0, hm_p34_0, hm_f34_1, hm_f34_2, hm_p34_2, hm_f34_3, hm_f34_4, hm_f34_5, hm_f34_6, hm_p34_6, hm_f34_7, hm_f34_8, hm_f34_9, hm_f34_10, hm_p34_10, hm_f34_11, hm_f34_12, hm_f34_13, hm_f34_14, hm_f34_15, hm_f34_16, hm_p34_16, hm_f34_17, hm_p34_17, hm_f34_18, hm_p34_18, hm_f34_19, hm_p34_19, hm_f34_20, hm_p34_20, hm_f34_21, hm_p34_21, hm_f34_22, hm_p34_22, hm_f34_23, hm_p34_23, hm_f34_24, hm_p34_24, hm_f34_25, hm_p34_25, hm_f34_26, hm_f34_27, hm_f34_28, hm_p34_28, hm_f34_29, hm_p34_29, hm_f34_30, hm_f34_31, hm_f34_32, hm_p34_32, hm_f34_33, hm_f34_34, hm_f34_35, hm_f34_36, hm_f34_37, hm_f34_38, hm_a35, hm_s35, hm_l35, hm_a36, hm_s36, hm_l36, hm_a37, hm_s37, hm_l37, hm_a38, hm_s38, hm_l38, hm_a39, hm_s39, hm_l39, hm_a40, hm_s40, hm_l40, hm_a41, hm_s41, hm_l41, hm_a42, hm_s42, hm_l42, hm_a43, hm_s43, hm_l43, hm_a44, hm_s44, hm_l44, hm_a45, hm_s45, hm_l45, hm_a46, hm_s46, hm_l46, hm_a47, hm_s47, hm_l47, hm_a48, hm_s48, hm_l48, hm_a49, hm_s49, hm_l49, hm_a50, hm_s50, hm_l50, hm_a51, hm_s51, hm_l51, hm_a52, hm_s52, hm_l52, hm_a53, hm_s53, hm_l53, hm_a54, hm_s54, hm_l54, hm_a55, hm_s55, hm_l55, hm_a56, hm_s56, hm_l56]
  refine p_X9_part (p := p) (a := 0) (n := n) hU.2.1 (by omega) ?_
  rw [Nat.zero_add, ← hcn]
  have fin : ∀ (I3 : Nat → Int32) (A3 : Nat → Nat → Int32) (N : List ItS), SL I0 A0 X d (B ++ N) I3 A3 → N.length ≤ 2 → (∀ x ∈ N, ito X x) → N.reverse.flatMap (itl X) = (if e < j then 43 :: LLn X e j (pt_m p hh) else []) → (N.map itw).sum + 6 * (e - i) - 2 < 6 * (j - i) → 2 ≤ 6 * (e - i) → G 55 [some (.ref 34), some (.int (nI i)), some (.int (nI j)), some (.int (nI (p % 256))), some (.int (nI (p / 256))), some (.int (nI e)), some (.int (nI (hh % 256)))] [] (HM hd I3 A3 T) := by
    intro I3 A3 N hS3 hNl hN hsem hwt h2
    refine g55 _ _ _ ?_
    simp only [B_X9_saysPiece_55, am_us, am_un, Nat.reduceEqDiff, not_false_eq_true, ak_c, ak_il, ak_ll, ak_al, ak_is, ak_as, ak_ls, ak_ii, ak_ib, ak_id, ak_lb, ak_lx, ak_lc, ak_iu, ak_i2l, ak_l2i, ak_dup, ak_dup2, ak_pop, ak_if, ak_ic, ak_sw, am_sws, ak_get, ak_puti, ak_putz, ak_putl, ak_puta, ak_iald, ak_lald, ak_iast, ak_last, ak_alen, ak_cs, ak_cv, ak_ri, ak_rz, ak_rl, ak_rv, am_ent, am_sp, am_pu, am_rs, Value.category, am_st1, am_st2, am_clr, List.getElem?_cons_zero, List.getElem?_cons_succ, List.set_cons_zero, List.set_cons_succ, List.length_cons, List.length_nil, Nat.reduceAdd, Nat.reduceLT, Nat.reduceLeDiff, Nat.zero_add, Nat.add_zero, true_and, and_true, or_true, true_or, if_true, if_false, Option.some.injEq, true_implies, false_implies, not_true_eq_false, not_false_eq_true, hm_i34, hm_f34_0, hm_p34_0, hm_f34_1, hm_f34_2, hm_p34_2, hm_f34_3, hm_f34_4, hm_f34_5, hm_f34_6, hm_p34_6, hm_f34_7, hm_f34_8, hm_f34_9, hm_f34_10, hm_p34_10, hm_f34_11, hm_f34_12, hm_f34_13, hm_f34_14, hm_f34_15, hm_f34_16, hm_p34_16, hm_f34_17, hm_p34_17, hm_f34_18, hm_p34_18, hm_f34_19, hm_p34_19, hm_f34_20, hm_p34_20, hm_f34_21, hm_p34_21, hm_f34_22, hm_p34_22, hm_f34_23, hm_p34_23, hm_f34_24, hm_p34_24, hm_f34_25, hm_p34_25, hm_f34_26, hm_f34_27, hm_f34_28, hm_p34_28, hm_f34_29, hm_p34_29, hm_f34_30, hm_f34_31, hm_f34_32, hm_p34_32, hm_f34_33, hm_f34_34, hm_f34_35, hm_f34_36, hm_f34_37, hm_f34_38, hm_a35, hm_s35, hm_l35, hm_a36, hm_s36, hm_l36, hm_a37, hm_s37, hm_l37, hm_a38, hm_s38, hm_l38, hm_a39, hm_s39, hm_l39, hm_a40, hm_s40, hm_l40, hm_a41, hm_s41, hm_l41, hm_a42, hm_s42, hm_l42, hm_a43, hm_s43, hm_l43, hm_a44, hm_s44, hm_l44, hm_a45, hm_s45, hm_l45, hm_a46, hm_s46, hm_l46, hm_a47, hm_s47, hm_l47, hm_a48, hm_s48, hm_l48, hm_a49, hm_s49, hm_l49, hm_a50, hm_s50, hm_l50, hm_a51, hm_s51, hm_l51, hm_a52, hm_s52, hm_l52, hm_a53, hm_s53, hm_l53, hm_a54, hm_s54, hm_l54, hm_a55, hm_s55, hm_l55, hm_a56, hm_s56, hm_l56]
    simp (disch := omega) only [n_lit, n_litL, n_shr, n_shl, n_lt, n_le, n_eq, pk_mul, nI_add, n_cl, n_sub, Nat.reduceAdd, Nat.not_lt_zero, Nat.zero_le, true_implies, false_implies, not_true_eq_false, not_false_eq_true, true_and, and_true]
    refine p_X9_state (i := i) (j := e) (p := hh) (u := 1) rfl hrf.2.2.2.1.symm hh5 ?_
    simp only [am_us, am_un, Nat.reduceEqDiff, not_false_eq_true, ak_c, ak_il, ak_ll, ak_al, ak_is, ak_as, ak_ls, ak_ii, ak_ib, ak_id, ak_lb, ak_lx, ak_lc, ak_iu, ak_i2l, ak_l2i, ak_dup, ak_dup2, ak_pop, ak_if, ak_ic, ak_sw, am_sws, ak_get, ak_puti, ak_putz, ak_putl, ak_puta, ak_iald, ak_lald, ak_iast, ak_last, ak_alen, ak_cs, ak_cv, ak_ri, ak_rz, ak_rl, ak_rv, am_ent, am_sp, am_pu, am_rs, Value.category, am_st1, am_st2, am_clr, List.getElem?_cons_zero, List.getElem?_cons_succ, List.set_cons_zero, List.set_cons_succ, List.length_cons, List.length_nil, Nat.reduceAdd, Nat.reduceLT, Nat.reduceLeDiff, Nat.zero_add, Nat.add_zero, true_and, and_true, or_true, true_or, if_true, if_false, Option.some.injEq, true_implies, false_implies, not_true_eq_false, not_false_eq_true, hm_i34, hm_f34_0, hm_p34_0, hm_f34_1, hm_f34_2, hm_p34_2, hm_f34_3, hm_f34_4, hm_f34_5, hm_f34_6, hm_p34_6, hm_f34_7, hm_f34_8, hm_f34_9, hm_f34_10, hm_p34_10, hm_f34_11, hm_f34_12, hm_f34_13, hm_f34_14, hm_f34_15, hm_f34_16, hm_p34_16, hm_f34_17, hm_p34_17, hm_f34_18, hm_p34_18, hm_f34_19, hm_p34_19, hm_f34_20, hm_p34_20, hm_f34_21, hm_p34_21, hm_f34_22, hm_p34_22, hm_f34_23, hm_p34_23, hm_f34_24, hm_p34_24, hm_f34_25, hm_p34_25, hm_f34_26, hm_f34_27, hm_f34_28, hm_p34_28, hm_f34_29, hm_p34_29, hm_f34_30, hm_f34_31, hm_f34_32, hm_p34_32, hm_f34_33, hm_f34_34, hm_f34_35, hm_f34_36, hm_f34_37, hm_f34_38, hm_a35, hm_s35, hm_l35, hm_a36, hm_s36, hm_l36, hm_a37, hm_s37, hm_l37, hm_a38, hm_s38, hm_l38, hm_a39, hm_s39, hm_l39, hm_a40, hm_s40, hm_l40, hm_a41, hm_s41, hm_l41, hm_a42, hm_s42, hm_l42, hm_a43, hm_s43, hm_l43, hm_a44, hm_s44, hm_l44, hm_a45, hm_s45, hm_l45, hm_a46, hm_s46, hm_l46, hm_a47, hm_s47, hm_l47, hm_a48, hm_s48, hm_l48, hm_a49, hm_s49, hm_l49, hm_a50, hm_s50, hm_l50, hm_a51, hm_s51, hm_l51, hm_a52, hm_s52, hm_l52, hm_a53, hm_s53, hm_l53, hm_a54, hm_s54, hm_l54, hm_a55, hm_s55, hm_l55, hm_a56, hm_s56, hm_l56]
    refine p_L_push (x := (1, i, e, hh)) hS3 (by rw [List.length_append]; omega) rfl (fun I4 A4 _ _ hS4 => ?_)
    simp only [am_us, am_un, Nat.reduceEqDiff, not_false_eq_true, ak_c, ak_il, ak_ll, ak_al, ak_is, ak_as, ak_ls, ak_ii, ak_ib, ak_id, ak_lb, ak_lx, ak_lc, ak_iu, ak_i2l, ak_l2i, ak_dup, ak_dup2, ak_pop, ak_if, ak_ic, ak_sw, am_sws, ak_get, ak_puti, ak_putz, ak_putl, ak_puta, ak_iald, ak_lald, ak_iast, ak_last, ak_alen, ak_cs, ak_cv, ak_ri, ak_rz, ak_rl, ak_rv, am_ent, am_sp, am_pu, am_rs, Value.category, am_st1, am_st2, am_clr, List.getElem?_cons_zero, List.getElem?_cons_succ, List.set_cons_zero, List.set_cons_succ, List.length_cons, List.length_nil, Nat.reduceAdd, Nat.reduceLT, Nat.reduceLeDiff, Nat.zero_add, Nat.add_zero, true_and, and_true, or_true, true_or, if_true, if_false, Option.some.injEq, true_implies, false_implies, not_true_eq_false, not_false_eq_true, hm_i34, hm_f34_0, hm_p34_0, hm_f34_1, hm_f34_2, hm_p34_2, hm_f34_3, hm_f34_4, hm_f34_5, hm_f34_6, hm_p34_6, hm_f34_7, hm_f34_8, hm_f34_9, hm_f34_10, hm_p34_10, hm_f34_11, hm_f34_12, hm_f34_13, hm_f34_14, hm_f34_15, hm_f34_16, hm_p34_16, hm_f34_17, hm_p34_17, hm_f34_18, hm_p34_18, hm_f34_19, hm_p34_19, hm_f34_20, hm_p34_20, hm_f34_21, hm_p34_21, hm_f34_22, hm_p34_22, hm_f34_23, hm_p34_23, hm_f34_24, hm_p34_24, hm_f34_25, hm_p34_25, hm_f34_26, hm_f34_27, hm_f34_28, hm_p34_28, hm_f34_29, hm_p34_29, hm_f34_30, hm_f34_31, hm_f34_32, hm_p34_32, hm_f34_33, hm_f34_34, hm_f34_35, hm_f34_36, hm_f34_37, hm_f34_38, hm_a35, hm_s35, hm_l35, hm_a36, hm_s36, hm_l36, hm_a37, hm_s37, hm_l37, hm_a38, hm_s38, hm_l38, hm_a39, hm_s39, hm_l39, hm_a40, hm_s40, hm_l40, hm_a41, hm_s41, hm_l41, hm_a42, hm_s42, hm_l42, hm_a43, hm_s43, hm_l43, hm_a44, hm_s44, hm_l44, hm_a45, hm_s45, hm_l45, hm_a46, hm_s46, hm_l46, hm_a47, hm_s47, hm_l47, hm_a48, hm_s48, hm_l48, hm_a49, hm_s49, hm_l49, hm_a50, hm_s50, hm_l50, hm_a51, hm_s51, hm_l51, hm_a52, hm_s52, hm_l52, hm_a53, hm_s53, hm_l53, hm_a54, hm_s54, hm_l54, hm_a55, hm_s55, hm_l55, hm_a56, hm_s56, hm_l56]
    rw [List.append_assoc] at hS4
    refine hQ I4 A4 (N ++ [(1, i, e, hh)]) hS4 (fun x hx => ?_) ?_ ?_
    · rcases List.mem_append.mp hx with z | z
      · exact hN x z
      · rw [List.mem_singleton.mp z]
        exact Or.inr (Or.inl ⟨rfl, hfu1, hzu⟩)
    · rw [List.reverse_append, List.flatMap_append, hsem, hLL, show [(1, i, e, hh)].reverse.flatMap (itl X) = ln_U X (LLn X) i e hh from by simp [itl]]
    · rw [List.map_append, List.sum_append]
      show (N.map itw).sum + (6 * (e - i) - 2 + 0) < 6 * (j - i)
      omega
  simp only [am_us, am_un, Nat.reduceEqDiff, not_false_eq_true, ak_c, ak_il, ak_ll, ak_al, ak_is, ak_as, ak_ls, ak_ii, ak_ib, ak_id, ak_lb, ak_lx, ak_lc, ak_iu, ak_i2l, ak_l2i, ak_dup, ak_dup2, ak_pop, ak_if, ak_ic, ak_sw, am_sws, ak_get, ak_puti, ak_putz, ak_putl, ak_puta, ak_iald, ak_lald, ak_iast, ak_last, ak_alen, ak_cs, ak_cv, ak_ri, ak_rz, ak_rl, ak_rv, am_ent, am_sp, am_pu, am_rs, Value.category, am_st1, am_st2, am_clr, List.getElem?_cons_zero, List.getElem?_cons_succ, List.set_cons_zero, List.set_cons_succ, List.length_cons, List.length_nil, Nat.reduceAdd, Nat.reduceLT, Nat.reduceLeDiff, Nat.zero_add, Nat.add_zero, true_and, and_true, or_true, true_or, if_true, if_false, Option.some.injEq, true_implies, false_implies, not_true_eq_false, not_false_eq_true, hm_i34, hm_f34_0, hm_p34_0, hm_f34_1, hm_f34_2, hm_p34_2, hm_f34_3, hm_f34_4, hm_f34_5, hm_f34_6, hm_p34_6, hm_f34_7, hm_f34_8, hm_f34_9, hm_f34_10, hm_p34_10, hm_f34_11, hm_f34_12, hm_f34_13, hm_f34_14, hm_f34_15, hm_f34_16, hm_p34_16, hm_f34_17, hm_p34_17, hm_f34_18, hm_p34_18, hm_f34_19, hm_p34_19, hm_f34_20, hm_p34_20, hm_f34_21, hm_p34_21, hm_f34_22, hm_p34_22, hm_f34_23, hm_p34_23, hm_f34_24, hm_p34_24, hm_f34_25, hm_p34_25, hm_f34_26, hm_f34_27, hm_f34_28, hm_p34_28, hm_f34_29, hm_p34_29, hm_f34_30, hm_f34_31, hm_f34_32, hm_p34_32, hm_f34_33, hm_f34_34, hm_f34_35, hm_f34_36, hm_f34_37, hm_f34_38, hm_a35, hm_s35, hm_l35, hm_a36, hm_s36, hm_l36, hm_a37, hm_s37, hm_l37, hm_a38, hm_s38, hm_l38, hm_a39, hm_s39, hm_l39, hm_a40, hm_s40, hm_l40, hm_a41, hm_s41, hm_l41, hm_a42, hm_s42, hm_l42, hm_a43, hm_s43, hm_l43, hm_a44, hm_s44, hm_l44, hm_a45, hm_s45, hm_l45, hm_a46, hm_s46, hm_l46, hm_a47, hm_s47, hm_l47, hm_a48, hm_s48, hm_l48, hm_a49, hm_s49, hm_l49, hm_a50, hm_s50, hm_l50, hm_a51, hm_s51, hm_l51, hm_a52, hm_s52, hm_l52, hm_a53, hm_s53, hm_l53, hm_a54, hm_s54, hm_l54, hm_a55, hm_s55, hm_l55, hm_a56, hm_s56, hm_l56]
  rw [n_le (by omega) (by omega)]
  refine ⟨fun q => fin I1 A1 [] (by rw [List.append_nil]; exact hS1) (by decide) (fun x hx => by cases hx) (by rw [if_neg (by omega)]; rfl) (by show 0 + 6 * (e - i) - 2 < 6 * (j - i); omega) (by omega), fun q => ?_⟩
  rcases hrest with z | ⟨-, hrr, hzr⟩
  · exact absurd z (by omega)
  have hfr : flm X e j (pt_m p hh) := hF.sub (by omega) (by omega) (Nat.le_refl _) hrr.2.2.1 hrr.2.2.2 (Or.inl hrf.2.2.1) (hrf.2.2.2.2.2.2 rfl)
  simp (disch := omega) only [n_lit, n_litL, n_shr, n_shl, n_lt, n_le, n_eq, pk_mul, nI_add, n_cl, n_sub, Nat.reduceAdd, Nat.not_lt_zero, Nat.zero_le, true_implies, false_implies, not_true_eq_false, not_false_eq_true, true_and, and_true]
  refine p_X9_state (i := e) (j := j) (p := pt_m p hh) (u := 0) hrf.2.1.symm hrf.2.2.1.symm hrr.2.2.1.1 ?_
  simp only [am_us, am_un, Nat.reduceEqDiff, not_false_eq_true, ak_c, ak_il, ak_ll, ak_al, ak_is, ak_as, ak_ls, ak_ii, ak_ib, ak_id, ak_lb, ak_lx, ak_lc, ak_iu, ak_i2l, ak_l2i, ak_dup, ak_dup2, ak_pop, ak_if, ak_ic, ak_sw, am_sws, ak_get, ak_puti, ak_putz, ak_putl, ak_puta, ak_iald, ak_lald, ak_iast, ak_last, ak_alen, ak_cs, ak_cv, ak_ri, ak_rz, ak_rl, ak_rv, am_ent, am_sp, am_pu, am_rs, Value.category, am_st1, am_st2, am_clr, List.getElem?_cons_zero, List.getElem?_cons_succ, List.set_cons_zero, List.set_cons_succ, List.length_cons, List.length_nil, Nat.reduceAdd, Nat.reduceLT, Nat.reduceLeDiff, Nat.zero_add, Nat.add_zero, true_and, and_true, or_true, true_or, if_true, if_false, Option.some.injEq, true_implies, false_implies, not_true_eq_false, not_false_eq_true, hm_i34, hm_f34_0, hm_p34_0, hm_f34_1, hm_f34_2, hm_p34_2, hm_f34_3, hm_f34_4, hm_f34_5, hm_f34_6, hm_p34_6, hm_f34_7, hm_f34_8, hm_f34_9, hm_f34_10, hm_p34_10, hm_f34_11, hm_f34_12, hm_f34_13, hm_f34_14, hm_f34_15, hm_f34_16, hm_p34_16, hm_f34_17, hm_p34_17, hm_f34_18, hm_p34_18, hm_f34_19, hm_p34_19, hm_f34_20, hm_p34_20, hm_f34_21, hm_p34_21, hm_f34_22, hm_p34_22, hm_f34_23, hm_p34_23, hm_f34_24, hm_p34_24, hm_f34_25, hm_p34_25, hm_f34_26, hm_f34_27, hm_f34_28, hm_p34_28, hm_f34_29, hm_p34_29, hm_f34_30, hm_f34_31, hm_f34_32, hm_p34_32, hm_f34_33, hm_f34_34, hm_f34_35, hm_f34_36, hm_f34_37, hm_f34_38, hm_a35, hm_s35, hm_l35, hm_a36, hm_s36, hm_l36, hm_a37, hm_s37, hm_l37, hm_a38, hm_s38, hm_l38, hm_a39, hm_s39, hm_l39, hm_a40, hm_s40, hm_l40, hm_a41, hm_s41, hm_l41, hm_a42, hm_s42, hm_l42, hm_a43, hm_s43, hm_l43, hm_a44, hm_s44, hm_l44, hm_a45, hm_s45, hm_l45, hm_a46, hm_s46, hm_l46, hm_a47, hm_s47, hm_l47, hm_a48, hm_s48, hm_l48, hm_a49, hm_s49, hm_l49, hm_a50, hm_s50, hm_l50, hm_a51, hm_s51, hm_l51, hm_a52, hm_s52, hm_l52, hm_a53, hm_s53, hm_l53, hm_a54, hm_s54, hm_l54, hm_a55, hm_s55, hm_l55, hm_a56, hm_s56, hm_l56]
  refine p_L_push (x := (0, e, j, pt_m p hh)) hS1 (by omega) rfl (fun I2 A2 _ _ hS2 => ?_)
  simp only [am_us, am_un, Nat.reduceEqDiff, not_false_eq_true, ak_c, ak_il, ak_ll, ak_al, ak_is, ak_as, ak_ls, ak_ii, ak_ib, ak_id, ak_lb, ak_lx, ak_lc, ak_iu, ak_i2l, ak_l2i, ak_dup, ak_dup2, ak_pop, ak_if, ak_ic, ak_sw, am_sws, ak_get, ak_puti, ak_putz, ak_putl, ak_puta, ak_iald, ak_lald, ak_iast, ak_last, ak_alen, ak_cs, ak_cv, ak_ri, ak_rz, ak_rl, ak_rv, am_ent, am_sp, am_pu, am_rs, Value.category, am_st1, am_st2, am_clr, List.getElem?_cons_zero, List.getElem?_cons_succ, List.set_cons_zero, List.set_cons_succ, List.length_cons, List.length_nil, Nat.reduceAdd, Nat.reduceLT, Nat.reduceLeDiff, Nat.zero_add, Nat.add_zero, true_and, and_true, or_true, true_or, if_true, if_false, Option.some.injEq, true_implies, false_implies, not_true_eq_false, not_false_eq_true, hm_i34, hm_f34_0, hm_p34_0, hm_f34_1, hm_f34_2, hm_p34_2, hm_f34_3, hm_f34_4, hm_f34_5, hm_f34_6, hm_p34_6, hm_f34_7, hm_f34_8, hm_f34_9, hm_f34_10, hm_p34_10, hm_f34_11, hm_f34_12, hm_f34_13, hm_f34_14, hm_f34_15, hm_f34_16, hm_p34_16, hm_f34_17, hm_p34_17, hm_f34_18, hm_p34_18, hm_f34_19, hm_p34_19, hm_f34_20, hm_p34_20, hm_f34_21, hm_p34_21, hm_f34_22, hm_p34_22, hm_f34_23, hm_p34_23, hm_f34_24, hm_p34_24, hm_f34_25, hm_p34_25, hm_f34_26, hm_f34_27, hm_f34_28, hm_p34_28, hm_f34_29, hm_p34_29, hm_f34_30, hm_f34_31, hm_f34_32, hm_p34_32, hm_f34_33, hm_f34_34, hm_f34_35, hm_f34_36, hm_f34_37, hm_f34_38, hm_a35, hm_s35, hm_l35, hm_a36, hm_s36, hm_l36, hm_a37, hm_s37, hm_l37, hm_a38, hm_s38, hm_l38, hm_a39, hm_s39, hm_l39, hm_a40, hm_s40, hm_l40, hm_a41, hm_s41, hm_l41, hm_a42, hm_s42, hm_l42, hm_a43, hm_s43, hm_l43, hm_a44, hm_s44, hm_l44, hm_a45, hm_s45, hm_l45, hm_a46, hm_s46, hm_l46, hm_a47, hm_s47, hm_l47, hm_a48, hm_s48, hm_l48, hm_a49, hm_s49, hm_l49, hm_a50, hm_s50, hm_l50, hm_a51, hm_s51, hm_l51, hm_a52, hm_s52, hm_l52, hm_a53, hm_s53, hm_l53, hm_a54, hm_s54, hm_l54, hm_a55, hm_s55, hm_l55, hm_a56, hm_s56, hm_l56]
  refine p_L_push (x := (2, 0, 0, 43)) (c := 43) hS2 (by rw [List.length_append, List.length_singleton]; omega) rfl (fun I3 A3 _ _ hS3 => ?_)
  simp only [am_us, am_un, Nat.reduceEqDiff, not_false_eq_true, ak_c, ak_il, ak_ll, ak_al, ak_is, ak_as, ak_ls, ak_ii, ak_ib, ak_id, ak_lb, ak_lx, ak_lc, ak_iu, ak_i2l, ak_l2i, ak_dup, ak_dup2, ak_pop, ak_if, ak_ic, ak_sw, am_sws, ak_get, ak_puti, ak_putz, ak_putl, ak_puta, ak_iald, ak_lald, ak_iast, ak_last, ak_alen, ak_cs, ak_cv, ak_ri, ak_rz, ak_rl, ak_rv, am_ent, am_sp, am_pu, am_rs, Value.category, am_st1, am_st2, am_clr, List.getElem?_cons_zero, List.getElem?_cons_succ, List.set_cons_zero, List.set_cons_succ, List.length_cons, List.length_nil, Nat.reduceAdd, Nat.reduceLT, Nat.reduceLeDiff, Nat.zero_add, Nat.add_zero, true_and, and_true, or_true, true_or, if_true, if_false, Option.some.injEq, true_implies, false_implies, not_true_eq_false, not_false_eq_true, hm_i34, hm_f34_0, hm_p34_0, hm_f34_1, hm_f34_2, hm_p34_2, hm_f34_3, hm_f34_4, hm_f34_5, hm_f34_6, hm_p34_6, hm_f34_7, hm_f34_8, hm_f34_9, hm_f34_10, hm_p34_10, hm_f34_11, hm_f34_12, hm_f34_13, hm_f34_14, hm_f34_15, hm_f34_16, hm_p34_16, hm_f34_17, hm_p34_17, hm_f34_18, hm_p34_18, hm_f34_19, hm_p34_19, hm_f34_20, hm_p34_20, hm_f34_21, hm_p34_21, hm_f34_22, hm_p34_22, hm_f34_23, hm_p34_23, hm_f34_24, hm_p34_24, hm_f34_25, hm_p34_25, hm_f34_26, hm_f34_27, hm_f34_28, hm_p34_28, hm_f34_29, hm_p34_29, hm_f34_30, hm_f34_31, hm_f34_32, hm_p34_32, hm_f34_33, hm_f34_34, hm_f34_35, hm_f34_36, hm_f34_37, hm_f34_38, hm_a35, hm_s35, hm_l35, hm_a36, hm_s36, hm_l36, hm_a37, hm_s37, hm_l37, hm_a38, hm_s38, hm_l38, hm_a39, hm_s39, hm_l39, hm_a40, hm_s40, hm_l40, hm_a41, hm_s41, hm_l41, hm_a42, hm_s42, hm_l42, hm_a43, hm_s43, hm_l43, hm_a44, hm_s44, hm_l44, hm_a45, hm_s45, hm_l45, hm_a46, hm_s46, hm_l46, hm_a47, hm_s47, hm_l47, hm_a48, hm_s48, hm_l48, hm_a49, hm_s49, hm_l49, hm_a50, hm_s50, hm_l50, hm_a51, hm_s51, hm_l51, hm_a52, hm_s52, hm_l52, hm_a53, hm_s53, hm_l53, hm_a54, hm_s54, hm_l54, hm_a55, hm_s55, hm_l55, hm_a56, hm_s56, hm_l56]
  refine fin I3 A3 [(0, e, j, pt_m p hh), (2, 0, 0, 43)] (by rw [List.append_assoc] at hS3; exact hS3) (Nat.le_refl 2) (fun x hx => ?_) ?_ ?_ (by omega)
  · rcases List.mem_cons.mp hx with z | z
    · rw [z]; exact Or.inr (Or.inr ⟨rfl, hfr, hzr⟩)
    · rw [List.mem_singleton.mp z]; exact Or.inl ⟨rfl, by decide⟩
  · rw [if_pos (by omega)]
    show [43] ++ (LLn X e j (pt_m p hh) ++ []) = _
    rw [List.append_nil]
    rfl
  · show (6 * (j - e) + (1 + 0)) + 6 * (e - i) - 2 < 6 * (j - i)
    omega
theorem cd_dec {u a b c V : Nat} (hu : u < 2) (ha : a < 8) (hb : b < 8) (hc : c < 512) (hV : (((u * 8 + a) * 8 + b) * 256 + c % 256) * 2 + c / 256 = V) : V - V / 2 * 2 = c / 256 ∧ V / 2 - V / 2 / 256 * 256 = c % 256 ∧ V / 512 - V / 512 / 8 * 8 = b ∧ V / 4096 - V / 4096 / 8 * 8 = a ∧ V / 32768 = u ∧ V < 70000 := by
  have hr : c / 256 < 2 := by omega
  have hq : c % 256 < 256 := by omega
  generalize c / 256 = r at *
  generalize c % 256 = q at *
  clear hc
  have e1 : V / 2 = ((u * 8 + a) * 8 + b) * 256 + q := by omega
  have e2 : V / 512 = (u * 8 + a) * 8 + b := by omega
  have e3 : V / 4096 = u * 8 + a := by
    have : V / 4096 = V / 512 / 8 := by omega
    rw [this, e2]
    omega
  have e4 : V / 32768 = u := by
    have : V / 32768 = V / 4096 / 8 := by omega
    rw [this, e3]
    omega
  rw [e1, e2, e3, e4]
  omega
theorem itw_pos {x : ItS} (h : ito X x) : 1 ≤ itw x := by
  unfold itw
  rcases h with ⟨h1, -⟩ | ⟨h1, h2, -⟩ | ⟨h1, h2, -⟩
  · rw [if_pos h1]; exact Nat.le_refl 1
  · rw [if_neg (by omega), if_pos h1]
    have := h2.1.1
    omega
  · rw [if_neg (by omega), if_neg (by omega)]
    have := h2.1.1
    omega
theorem itw_len : ∀ {B : List ItS}, (∀ x ∈ B, ito X x) → B.length ≤ (B.map itw).sum
  | [], _ => Nat.le_refl _
  | x :: B, h => by
    have h1 := itw_pos (h x List.mem_cons_self)
    have h2 := itw_len (B := B) (fun y hy => h y (List.mem_cons_of_mem _ hy))
    rw [List.length_cons, List.map_cons, List.sum_cons]
    omega
theorem p_X9_saysAll (h : RX X I A T) (hQ : ∀ (I' : Nat → Int32) (A' : Nat → Nat → Int32) (T' : Nat → Int64) (I1 : Nat → Int32) (A1 : Nat → Nat → Int32), frM I A I1 A1 → RX X I1 A1 T' → (∀ k, k < 7 → I' k = I1 k) → (∀ m, m < 11 → A' m = A1 m) → rl I' A' 15 13 (ML X) → Q none (HM hd I' A' T')) : K_X9_saysAll [.ref 34] (HM hd I A T) Q := by
  refine ⟨Nat.le_of_ble_eq_true rfl, fun G hG => ?_⟩
  obtain ⟨g0, g42, g70, g87, g120, g196, g235⟩ := hG
  have hg := h.2.1
  refine g0 _ _ _ ?_
  simp only [B_X9_saysAll_0, am_us, am_un, Nat.reduceEqDiff, not_false_eq_true, ak_c, ak_il, ak_ll, ak_al, ak_is, ak_as, ak_ls, ak_ii, ak_ib, ak_id, ak_lb, ak_lx, ak_lc, ak_iu, ak_i2l, ak_l2i, ak_dup, ak_dup2, ak_pop, ak_if, ak_ic, ak_sw, am_sws, ak_get, ak_puti, ak_putz, ak_putl, ak_puta, ak_iald, ak_lald, ak_iast, ak_last, ak_alen, ak_cs, ak_cv, ak_ri, ak_rz, ak_rl, ak_rv, am_ent, am_sp, am_pu, am_rs, Value.category, am_st1, am_st2, am_clr, List.getElem?_cons_zero, List.getElem?_cons_succ, List.set_cons_zero, List.set_cons_succ, List.length_cons, List.length_nil, Nat.reduceAdd, Nat.reduceLT, Nat.reduceLeDiff, Nat.zero_add, Nat.add_zero, true_and, and_true, or_true, true_or, if_true, if_false, Option.some.injEq, true_implies, false_implies, not_true_eq_false, not_false_eq_true, hm_i34, hm_f34_0, hm_p34_0, hm_f34_1, hm_f34_2, hm_p34_2, hm_f34_3, hm_f34_4, hm_f34_5, hm_f34_6, hm_p34_6, hm_f34_7, hm_f34_8, hm_f34_9, hm_f34_10, hm_p34_10, hm_f34_11, hm_f34_12, hm_f34_13, hm_f34_14, hm_f34_15, hm_f34_16, hm_p34_16, hm_f34_17, hm_p34_17, hm_f34_18, hm_p34_18, hm_f34_19, hm_p34_19, hm_f34_20, hm_p34_20, hm_f34_21, hm_p34_21, hm_f34_22, hm_p34_22, hm_f34_23, hm_p34_23, hm_f34_24, hm_p34_24, hm_f34_25, hm_p34_25, hm_f34_26, hm_f34_27, hm_f34_28, hm_p34_28, hm_f34_29, hm_p34_29, hm_f34_30, hm_f34_31, hm_f34_32, hm_p34_32, hm_f34_33, hm_f34_34, hm_f34_35, hm_f34_36, hm_f34_37, hm_f34_38, hm_a35, hm_s35, hm_l35, hm_a36, hm_s36, hm_l36, hm_a37, hm_s37, hm_l37, hm_a38, hm_s38, hm_l38, hm_a39, hm_s39, hm_l39, hm_a40, hm_s40, hm_l40, hm_a41, hm_s41, hm_l41, hm_a42, hm_s42, hm_l42, hm_a43, hm_s43, hm_l43, hm_a44, hm_s44, hm_l44, hm_a45, hm_s45, hm_l45, hm_a46, hm_s46, hm_l46, hm_a47, hm_s47, hm_l47, hm_a48, hm_s48, hm_l48, hm_a49, hm_s49, hm_l49, hm_a50, hm_s50, hm_l50, hm_a51, hm_s51, hm_l51, hm_a52, hm_s52, hm_l52, hm_a53, hm_s53, hm_l53, hm_a54, hm_s54, hm_l54, hm_a55, hm_s55, hm_l55, hm_a56, hm_s56, hm_l56]
  refine p_X9_measures false h.1 h.2.2 (fun Ia Aa T1 hf hR hT h4 => ?_)
  simp only [am_us, am_un, Nat.reduceEqDiff, not_false_eq_true, ak_c, ak_il, ak_ll, ak_al, ak_is, ak_as, ak_ls, ak_ii, ak_ib, ak_id, ak_lb, ak_lx, ak_lc, ak_iu, ak_i2l, ak_l2i, ak_dup, ak_dup2, ak_pop, ak_if, ak_ic, ak_sw, am_sws, ak_get, ak_puti, ak_putz, ak_putl, ak_puta, ak_iald, ak_lald, ak_iast, ak_last, ak_alen, ak_cs, ak_cv, ak_ri, ak_rz, ak_rl, ak_rv, am_ent, am_sp, am_pu, am_rs, Value.category, am_st1, am_st2, am_clr, List.getElem?_cons_zero, List.getElem?_cons_succ, List.set_cons_zero, List.set_cons_succ, List.length_cons, List.length_nil, Nat.reduceAdd, Nat.reduceLT, Nat.reduceLeDiff, Nat.zero_add, Nat.add_zero, true_and, and_true, or_true, true_or, if_true, if_false, Option.some.injEq, true_implies, false_implies, not_true_eq_false, not_false_eq_true, hm_i34, hm_f34_0, hm_p34_0, hm_f34_1, hm_f34_2, hm_p34_2, hm_f34_3, hm_f34_4, hm_f34_5, hm_f34_6, hm_p34_6, hm_f34_7, hm_f34_8, hm_f34_9, hm_f34_10, hm_p34_10, hm_f34_11, hm_f34_12, hm_f34_13, hm_f34_14, hm_f34_15, hm_f34_16, hm_p34_16, hm_f34_17, hm_p34_17, hm_f34_18, hm_p34_18, hm_f34_19, hm_p34_19, hm_f34_20, hm_p34_20, hm_f34_21, hm_p34_21, hm_f34_22, hm_p34_22, hm_f34_23, hm_p34_23, hm_f34_24, hm_p34_24, hm_f34_25, hm_p34_25, hm_f34_26, hm_f34_27, hm_f34_28, hm_p34_28, hm_f34_29, hm_p34_29, hm_f34_30, hm_f34_31, hm_f34_32, hm_p34_32, hm_f34_33, hm_f34_34, hm_f34_35, hm_f34_36, hm_f34_37, hm_f34_38, hm_a35, hm_s35, hm_l35, hm_a36, hm_s36, hm_l36, hm_a37, hm_s37, hm_l37, hm_a38, hm_s38, hm_l38, hm_a39, hm_s39, hm_l39, hm_a40, hm_s40, hm_l40, hm_a41, hm_s41, hm_l41, hm_a42, hm_s42, hm_l42, hm_a43, hm_s43, hm_l43, hm_a44, hm_s44, hm_l44, hm_a45, hm_s45, hm_l45, hm_a46, hm_s46, hm_l46, hm_a47, hm_s47, hm_l47, hm_a48, hm_s48, hm_l48, hm_a49, hm_s49, hm_l49, hm_a50, hm_s50, hm_l50, hm_a51, hm_s51, hm_l51, hm_a52, hm_s52, hm_l52, hm_a53, hm_s53, hm_l53, hm_a54, hm_s54, hm_l54, hm_a55, hm_s55, hm_l55, hm_a56, hm_s56, hm_l56]
  refine p_X9_parsesOf hR hT hg (fun Ib hIb hr => ?_)
  have hXa : RX X Ib Aa T1 := (RX.of hR hg hT h4).mv (fun k hk => hIb k (Or.inl hk)) (fun _ _ => rfl)
  have hfr : frM I A Ib Aa := ⟨fun k hk => (hIb k (by omega)).trans (hf.1 k hk), hf.2⟩
  have hRb : rs false X Ib Aa := hR.mv (fun k hk => hIb k (Or.inl hk)) (fun _ _ => rfl)
  generalize hIc : am_u (am_u Ib 15 0) 16 0 = Ic
  have hc : ∀ k, ¬ k = 15 → ¬ k = 16 → Ic k = Ib k := fun k h1 h2 => by rw [← hIc, am_un h2, am_un h1]
  have hS0 : SL Ib Aa X [] [] Ic Aa := ⟨hRb.mv (fun k hk => hc k (by omega) (by omega)) (fun _ _ => rfl), ⟨by rw [← hIc, am_un (by decide), am_us]; rfl, fun k x hx => by cases hx⟩, ⟨by rw [← hIc, am_us]; rfl, fun k x hx => by cases hx⟩, fun k hk => hc k (by omega) (by omega), fun _ _ => rfl⟩
  simp only [am_us, am_un, Nat.reduceEqDiff, not_false_eq_true, ak_c, ak_il, ak_ll, ak_al, ak_is, ak_as, ak_ls, ak_ii, ak_ib, ak_id, ak_lb, ak_lx, ak_lc, ak_iu, ak_i2l, ak_l2i, ak_dup, ak_dup2, ak_pop, ak_if, ak_ic, ak_sw, am_sws, ak_get, ak_puti, ak_putz, ak_putl, ak_puta, ak_iald, ak_lald, ak_iast, ak_last, ak_alen, ak_cs, ak_cv, ak_ri, ak_rz, ak_rl, ak_rv, am_ent, am_sp, am_pu, am_rs, Value.category, am_st1, am_st2, am_clr, List.getElem?_cons_zero, List.getElem?_cons_succ, List.set_cons_zero, List.set_cons_succ, List.length_cons, List.length_nil, Nat.reduceAdd, Nat.reduceLT, Nat.reduceLeDiff, Nat.zero_add, Nat.add_zero, true_and, and_true, or_true, true_or, if_true, if_false, Option.some.injEq, true_implies, false_implies, not_true_eq_false, not_false_eq_true, hm_i34, hm_f34_0, hm_p34_0, hm_f34_1, hm_f34_2, hm_p34_2, hm_f34_3, hm_f34_4, hm_f34_5, hm_f34_6, hm_p34_6, hm_f34_7, hm_f34_8, hm_f34_9, hm_f34_10, hm_p34_10, hm_f34_11, hm_f34_12, hm_f34_13, hm_f34_14, hm_f34_15, hm_f34_16, hm_p34_16, hm_f34_17, hm_p34_17, hm_f34_18, hm_p34_18, hm_f34_19, hm_p34_19, hm_f34_20, hm_p34_20, hm_f34_21, hm_p34_21, hm_f34_22, hm_p34_22, hm_f34_23, hm_p34_23, hm_f34_24, hm_p34_24, hm_f34_25, hm_p34_25, hm_f34_26, hm_f34_27, hm_f34_28, hm_p34_28, hm_f34_29, hm_p34_29, hm_f34_30, hm_f34_31, hm_f34_32, hm_p34_32, hm_f34_33, hm_f34_34, hm_f34_35, hm_f34_36, hm_f34_37, hm_f34_38, hm_a35, hm_s35, hm_l35, hm_a36, hm_s36, hm_l36, hm_a37, hm_s37, hm_l37, hm_a38, hm_s38, hm_l38, hm_a39, hm_s39, hm_l39, hm_a40, hm_s40, hm_l40, hm_a41, hm_s41, hm_l41, hm_a42, hm_s42, hm_l42, hm_a43, hm_s43, hm_l43, hm_a44, hm_s44, hm_l44, hm_a45, hm_s45, hm_l45, hm_a46, hm_s46, hm_l46, hm_a47, hm_s47, hm_l47, hm_a48, hm_s48, hm_l48, hm_a49, hm_s49, hm_l49, hm_a50, hm_s50, hm_l50, hm_a51, hm_s51, hm_l51, hm_a52, hm_s52, hm_l52, hm_a53, hm_s53, hm_l53, hm_a54, hm_s54, hm_l54, hm_a55, hm_s55, hm_l55, hm_a56, hm_s56, hm_l56]
  rw [hIc]
  have h6 := hRb.2.1.1.2.1
  have h2 := hRb.2.1.1.1
  have hw : ∀ s, s < 11 → X.2.2.2.1 s ≤ 9 := fun s hs => (hRb.2.2.2.2.1 s hs).2
  by_cases hz : (MZ X).1 = 0
  · rw [(hr.2.1 hz).2]
    refine ⟨fun q => absurd q (by decide), fun _ => ?_⟩
    refine hQ Ic Aa T1 Ib Aa hfr hXa (fun k hk => hc k (by omega) (by omega)) (fun _ _ => rfl) ?_
    unfold ML
    rw [if_pos hz]
    exact hS0.2.1
  obtain ⟨-, i8, c4, i9, i10, i11, i12⟩ := hr.2.2 hz
  have h255 := hr.1.1.2 hz
  obtain ⟨m1, m2, m3, m4⟩ := MZ_pick hw h6 hz
  have hMLl := ML_len9 (ly_of9 hXa.1) hg hz
  have eML : ML X = (if (MZ X).2.2.2 < 2 then 60 else 62) :: (lq_s (mz_d X (MZ X).2.2.2) ++ ((if (MZ X).2.2.2 % 2 = 1 then [45] else []) ++ (61 :: LLn X (mz_a (MZ X).2.2.2) (mz_b X (MZ X).2.2.2) (mz_f X)))) := by
    unfold ML
    rw [if_neg hz]
    rfl
  have hbN : mz_b X (MZ X).2.2.2 ≤ X.2.1.length := by unfold mz_b; split <;> (try split) <;> omega
  have hF : flm X (mz_a (MZ X).2.2.2) (mz_b X (MZ X).2.2.2) (mz_f X) := flm.st hg m3 hbN (by have := hg.2.1; omega) (Nat.le_refl _)
  -- the stack
  have loop : ∀ f (B : List ItS) (d : List Nat) (I2 : Nat → Int32) (A2 : Nat → Nat → Int32) (x1 x2 x3 x4 x5 x6 : Option Value), (B.map itw).sum ≤ f → f ≤ 36 → SL Ib Aa X d B I2 A2 → (∀ x ∈ B, ito X x) → d ++ B.reverse.flatMap (itl X) = ML X → G 120 [some (.ref 34), x1, x2, x3, x4, x5, x6] [] (HM hd I2 A2 T1) := by
    intro f
    induction f with
    | zero =>
      intro B d I2 A2 x1 x2 x3 x4 x5 x6 hf hf36 hS hB hline
      have hl := itw_len hB
      have hnil : B = [] := List.length_eq_zero_iff.mp (by omega)
      subst hnil
      have i16 : I2 16 = nI 0 := hS.2.2.1.1
      refine g120 _ _ _ ?_
      simp only [B_X9_saysAll_120, i16, am_us, am_un, Nat.reduceEqDiff, not_false_eq_true, ak_c, ak_il, ak_ll, ak_al, ak_is, ak_as, ak_ls, ak_ii, ak_ib, ak_id, ak_lb, ak_lx, ak_lc, ak_iu, ak_i2l, ak_l2i, ak_dup, ak_dup2, ak_pop, ak_if, ak_ic, ak_sw, am_sws, ak_get, ak_puti, ak_putz, ak_putl, ak_puta, ak_iald, ak_lald, ak_iast, ak_last, ak_alen, ak_cs, ak_cv, ak_ri, ak_rz, ak_rl, ak_rv, am_ent, am_sp, am_pu, am_rs, Value.category, am_st1, am_st2, am_clr, List.getElem?_cons_zero, List.getElem?_cons_succ, List.set_cons_zero, List.set_cons_succ, List.length_cons, List.length_nil, Nat.reduceAdd, Nat.reduceLT, Nat.reduceLeDiff, Nat.zero_add, Nat.add_zero, true_and, and_true, or_true, true_or, if_true, if_false, Option.some.injEq, true_implies, false_implies, not_true_eq_false, not_false_eq_true, hm_i34, hm_f34_0, hm_p34_0, hm_f34_1, hm_f34_2, hm_p34_2, hm_f34_3, hm_f34_4, hm_f34_5, hm_f34_6, hm_p34_6, hm_f34_7, hm_f34_8, hm_f34_9, hm_f34_10, hm_p34_10, hm_f34_11, hm_f34_12, hm_f34_13, hm_f34_14, hm_f34_15, hm_f34_16, hm_p34_16, hm_f34_17, hm_p34_17, hm_f34_18, hm_p34_18, hm_f34_19, hm_p34_19, hm_f34_20, hm_p34_20, hm_f34_21, hm_p34_21, hm_f34_22, hm_p34_22, hm_f34_23, hm_p34_23, hm_f34_24, hm_p34_24, hm_f34_25, hm_p34_25, hm_f34_26, hm_f34_27, hm_f34_28, hm_p34_28, hm_f34_29, hm_p34_29, hm_f34_30, hm_f34_31, hm_f34_32, hm_p34_32, hm_f34_33, hm_f34_34, hm_f34_35, hm_f34_36, hm_f34_37, hm_f34_38, hm_a35, hm_s35, hm_l35, hm_a36, hm_s36, hm_l36, hm_a37, hm_s37, hm_l37, hm_a38, hm_s38, hm_l38, hm_a39, hm_s39, hm_l39, hm_a40, hm_s40, hm_l40, hm_a41, hm_s41, hm_l41, hm_a42, hm_s42, hm_l42, hm_a43, hm_s43, hm_l43, hm_a44, hm_s44, hm_l44, hm_a45, hm_s45, hm_l45, hm_a46, hm_s46, hm_l46, hm_a47, hm_s47, hm_l47, hm_a48, hm_s48, hm_l48, hm_a49, hm_s49, hm_l49, hm_a50, hm_s50, hm_l50, hm_a51, hm_s51, hm_l51, hm_a52, hm_s52, hm_l52, hm_a53, hm_s53, hm_l53, hm_a54, hm_s54, hm_l54, hm_a55, hm_s55, hm_l55, hm_a56, hm_s56, hm_l56]
      refine ⟨fun _ => ?_, fun z => absurd (by decide) z⟩
      have e : d = ML X := by rw [← hline]; exact (List.append_nil d).symm
      exact hQ I2 A2 T1 Ib Aa hfr hXa hS.2.2.2.1 hS.2.2.2.2 (by rw [← e]; exact hS.2.1)
    | succ f ih =>
      intro B d I2 A2 x1 x2 x3 x4 x5 x6 hf hf36 hS hB hline
      have hl := itw_len hB
      have hdl : d.length ≤ 100 := by
        have := congrArg List.length hline
        rw [List.length_append] at this
        omega
      rcases List.eq_nil_or_concat B with hnil | ⟨B', x, hBx⟩
      · subst hnil
        have i16 : I2 16 = nI 0 := hS.2.2.1.1
        refine g120 _ _ _ ?_
        simp only [B_X9_saysAll_120, i16, am_us, am_un, Nat.reduceEqDiff, not_false_eq_true, ak_c, ak_il, ak_ll, ak_al, ak_is, ak_as, ak_ls, ak_ii, ak_ib, ak_id, ak_lb, ak_lx, ak_lc, ak_iu, ak_i2l, ak_l2i, ak_dup, ak_dup2, ak_pop, ak_if, ak_ic, ak_sw, am_sws, ak_get, ak_puti, ak_putz, ak_putl, ak_puta, ak_iald, ak_lald, ak_iast, ak_last, ak_alen, ak_cs, ak_cv, ak_ri, ak_rz, ak_rl, ak_rv, am_ent, am_sp, am_pu, am_rs, Value.category, am_st1, am_st2, am_clr, List.getElem?_cons_zero, List.getElem?_cons_succ, List.set_cons_zero, List.set_cons_succ, List.length_cons, List.length_nil, Nat.reduceAdd, Nat.reduceLT, Nat.reduceLeDiff, Nat.zero_add, Nat.add_zero, true_and, and_true, or_true, true_or, if_true, if_false, Option.some.injEq, true_implies, false_implies, not_true_eq_false, not_false_eq_true, hm_i34, hm_f34_0, hm_p34_0, hm_f34_1, hm_f34_2, hm_p34_2, hm_f34_3, hm_f34_4, hm_f34_5, hm_f34_6, hm_p34_6, hm_f34_7, hm_f34_8, hm_f34_9, hm_f34_10, hm_p34_10, hm_f34_11, hm_f34_12, hm_f34_13, hm_f34_14, hm_f34_15, hm_f34_16, hm_p34_16, hm_f34_17, hm_p34_17, hm_f34_18, hm_p34_18, hm_f34_19, hm_p34_19, hm_f34_20, hm_p34_20, hm_f34_21, hm_p34_21, hm_f34_22, hm_p34_22, hm_f34_23, hm_p34_23, hm_f34_24, hm_p34_24, hm_f34_25, hm_p34_25, hm_f34_26, hm_f34_27, hm_f34_28, hm_p34_28, hm_f34_29, hm_p34_29, hm_f34_30, hm_f34_31, hm_f34_32, hm_p34_32, hm_f34_33, hm_f34_34, hm_f34_35, hm_f34_36, hm_f34_37, hm_f34_38, hm_a35, hm_s35, hm_l35, hm_a36, hm_s36, hm_l36, hm_a37, hm_s37, hm_l37, hm_a38, hm_s38, hm_l38, hm_a39, hm_s39, hm_l39, hm_a40, hm_s40, hm_l40, hm_a41, hm_s41, hm_l41, hm_a42, hm_s42, hm_l42, hm_a43, hm_s43, hm_l43, hm_a44, hm_s44, hm_l44, hm_a45, hm_s45, hm_l45, hm_a46, hm_s46, hm_l46, hm_a47, hm_s47, hm_l47, hm_a48, hm_s48, hm_l48, hm_a49, hm_s49, hm_l49, hm_a50, hm_s50, hm_l50, hm_a51, hm_s51, hm_l51, hm_a52, hm_s52, hm_l52, hm_a53, hm_s53, hm_l53, hm_a54, hm_s54, hm_l54, hm_a55, hm_s55, hm_l55, hm_a56, hm_s56, hm_l56]
        refine ⟨fun _ => ?_, fun z => absurd (by decide) z⟩
        have e : d = ML X := by rw [← hline]; exact (List.append_nil d).symm
        exact hQ I2 A2 T1 Ib Aa hfr hXa hS.2.2.2.1 hS.2.2.2.2 (by rw [← e]; exact hS.2.1)
      · rw [List.concat_eq_append] at hBx
        subst hBx
        have hB' : ∀ y ∈ B', ito X y := fun y hy => hB y (List.mem_append_left _ hy)
        have hx := hB x (List.mem_append_right _ (List.mem_singleton.mpr rfl))
        have hsum : ((B' ++ [x]).map itw).sum = (B'.map itw).sum + itw x := by
          rw [List.map_append, List.sum_append]
          show _ + (itw x + 0) = _
          omega
        rw [hsum] at hf
        have hl' := itw_len hB'
        have hxp := itw_pos hx
        have hline' : d ++ (itl X x ++ B'.reverse.flatMap (itl X)) = ML X := by
          rw [← hline, List.reverse_append, List.flatMap_append]
          rw [show [x].reverse.flatMap (itl X) = itl X x from by simp]
        have i16 : I2 16 = nI (B'.length + 1) := by
          rw [hS.2.2.1.1, List.length_map, List.length_append]; rfl
        have hbl : B'.length ≤ 36 := by omega
        generalize hI3 : am_u I2 16 (nI B'.length) = I3
        have hc3 : ∀ k, ¬ k = 16 → I3 k = I2 k := fun k hk => by rw [← hI3, am_un hk]
        have hS3 : SL Ib Aa X d B' I3 A2 := ⟨hS.1.mv (fun k hk => hc3 k (by omega)) (fun _ _ => rfl), hS.2.1.mv (hc3 15 (by decide)) rfl, ⟨by rw [← hI3, am_us, List.length_map], fun k y hy => by
          have hk := (List.getElem?_eq_some_iff.mp hy).1
          refine hS.2.2.1.2 k y ?_
          rw [List.map_append, List.getElem?_append_left hk]
          exact hy⟩, fun k hk => (hc3 k (by omega)).trans (hS.2.2.2.1 k hk), hS.2.2.2.2⟩
        have hwhat : A2 14 B'.length = nI (itc x) := by
          refine hS.2.2.1.2 _ _ ?_
          rw [List.map_append, List.getElem?_append_right (by rw [List.length_map]; exact Nat.le_refl _), List.length_map, Nat.sub_self]
          rfl
        have back : ∀ (d' : List Nat) (N : List ItS) (I4 : Nat → Int32) (A4 : Nat → Nat → Int32) (x1 x2 x3 x4 x5 x6 : Option Value), SL Ib Aa X d' (B' ++ N) I4 A4 → (∀ y ∈ N, ito X y) → d' ++ N.reverse.flatMap (itl X) = d ++ itl X x → (N.map itw).sum < itw x → G 235 [some (.ref 34), x1, x2, x3, x4, x5, x6] [] (HM hd I4 A4 T1) := by
          intro d' N I4 A4 x1 x2 x3 x4 x5 x6 hS4 hN hsem hwt
          refine g235 _ _ _ ?_
          simp only [B_X9_saysAll_235, am_us, am_un, Nat.reduceEqDiff, not_false_eq_true, ak_c, ak_il, ak_ll, ak_al, ak_is, ak_as, ak_ls, ak_ii, ak_ib, ak_id, ak_lb, ak_lx, ak_lc, ak_iu, ak_i2l, ak_l2i, ak_dup, ak_dup2, ak_pop, ak_if, ak_ic, ak_sw, am_sws, ak_get, ak_puti, ak_putz, ak_putl, ak_puta, ak_iald, ak_lald, ak_iast, ak_last, ak_alen, ak_cs, ak_cv, ak_ri, ak_rz, ak_rl, ak_rv, am_ent, am_sp, am_pu, am_rs, Value.category, am_st1, am_st2, am_clr, List.getElem?_cons_zero, List.getElem?_cons_succ, List.set_cons_zero, List.set_cons_succ, List.length_cons, List.length_nil, Nat.reduceAdd, Nat.reduceLT, Nat.reduceLeDiff, Nat.zero_add, Nat.add_zero, true_and, and_true, or_true, true_or, if_true, if_false, Option.some.injEq, true_implies, false_implies, not_true_eq_false, not_false_eq_true, hm_i34, hm_f34_0, hm_p34_0, hm_f34_1, hm_f34_2, hm_p34_2, hm_f34_3, hm_f34_4, hm_f34_5, hm_f34_6, hm_p34_6, hm_f34_7, hm_f34_8, hm_f34_9, hm_f34_10, hm_p34_10, hm_f34_11, hm_f34_12, hm_f34_13, hm_f34_14, hm_f34_15, hm_f34_16, hm_p34_16, hm_f34_17, hm_p34_17, hm_f34_18, hm_p34_18, hm_f34_19, hm_p34_19, hm_f34_20, hm_p34_20, hm_f34_21, hm_p34_21, hm_f34_22, hm_p34_22, hm_f34_23, hm_p34_23, hm_f34_24, hm_p34_24, hm_f34_25, hm_p34_25, hm_f34_26, hm_f34_27, hm_f34_28, hm_p34_28, hm_f34_29, hm_p34_29, hm_f34_30, hm_f34_31, hm_f34_32, hm_p34_32, hm_f34_33, hm_f34_34, hm_f34_35, hm_f34_36, hm_f34_37, hm_f34_38, hm_a35, hm_s35, hm_l35, hm_a36, hm_s36, hm_l36, hm_a37, hm_s37, hm_l37, hm_a38, hm_s38, hm_l38, hm_a39, hm_s39, hm_l39, hm_a40, hm_s40, hm_l40, hm_a41, hm_s41, hm_l41, hm_a42, hm_s42, hm_l42, hm_a43, hm_s43, hm_l43, hm_a44, hm_s44, hm_l44, hm_a45, hm_s45, hm_l45, hm_a46, hm_s46, hm_l46, hm_a47, hm_s47, hm_l47, hm_a48, hm_s48, hm_l48, hm_a49, hm_s49, hm_l49, hm_a50, hm_s50, hm_l50, hm_a51, hm_s51, hm_l51, hm_a52, hm_s52, hm_l52, hm_a53, hm_s53, hm_l53, hm_a54, hm_s54, hm_l54, hm_a55, hm_s55, hm_l55, hm_a56, hm_s56, hm_l56]
          refine ih (B' ++ N) d' I4 A4 _ _ _ _ _ _ ?_ (by omega) hS4 (fun y hy => ?_) ?_
          · rw [List.map_append, List.sum_append]; omega
          · rcases List.mem_append.mp hy with z | z
            · exact hB' y z
            · exact hN y z
          · rw [List.reverse_append, List.flatMap_append, ← List.append_assoc, hsem, List.append_assoc]
            exact hline'
        have i16' : I3 16 = nI B'.length := by rw [← hI3, am_us]
        refine g120 _ _ _ ?_
        simp only [B_X9_saysAll_120, i16, am_us, am_un, Nat.reduceEqDiff, not_false_eq_true, ak_c, ak_il, ak_ll, ak_al, ak_is, ak_as, ak_ls, ak_ii, ak_ib, ak_id, ak_lb, ak_lx, ak_lc, ak_iu, ak_i2l, ak_l2i, ak_dup, ak_dup2, ak_pop, ak_if, ak_ic, ak_sw, am_sws, ak_get, ak_puti, ak_putz, ak_putl, ak_puta, ak_iald, ak_lald, ak_iast, ak_last, ak_alen, ak_cs, ak_cv, ak_ri, ak_rz, ak_rl, ak_rv, am_ent, am_sp, am_pu, am_rs, Value.category, am_st1, am_st2, am_clr, List.getElem?_cons_zero, List.getElem?_cons_succ, List.set_cons_zero, List.set_cons_succ, List.length_cons, List.length_nil, Nat.reduceAdd, Nat.reduceLT, Nat.reduceLeDiff, Nat.zero_add, Nat.add_zero, true_and, and_true, or_true, true_or, if_true, if_false, Option.some.injEq, true_implies, false_implies, not_true_eq_false, not_false_eq_true, hm_i34, hm_f34_0, hm_p34_0, hm_f34_1, hm_f34_2, hm_p34_2, hm_f34_3, hm_f34_4, hm_f34_5, hm_f34_6, hm_p34_6, hm_f34_7, hm_f34_8, hm_f34_9, hm_f34_10, hm_p34_10, hm_f34_11, hm_f34_12, hm_f34_13, hm_f34_14, hm_f34_15, hm_f34_16, hm_p34_16, hm_f34_17, hm_p34_17, hm_f34_18, hm_p34_18, hm_f34_19, hm_p34_19, hm_f34_20, hm_p34_20, hm_f34_21, hm_p34_21, hm_f34_22, hm_p34_22, hm_f34_23, hm_p34_23, hm_f34_24, hm_p34_24, hm_f34_25, hm_p34_25, hm_f34_26, hm_f34_27, hm_f34_28, hm_p34_28, hm_f34_29, hm_p34_29, hm_f34_30, hm_f34_31, hm_f34_32, hm_p34_32, hm_f34_33, hm_f34_34, hm_f34_35, hm_f34_36, hm_f34_37, hm_f34_38, hm_a35, hm_s35, hm_l35, hm_a36, hm_s36, hm_l36, hm_a37, hm_s37, hm_l37, hm_a38, hm_s38, hm_l38, hm_a39, hm_s39, hm_l39, hm_a40, hm_s40, hm_l40, hm_a41, hm_s41, hm_l41, hm_a42, hm_s42, hm_l42, hm_a43, hm_s43, hm_l43, hm_a44, hm_s44, hm_l44, hm_a45, hm_s45, hm_l45, hm_a46, hm_s46, hm_l46, hm_a47, hm_s47, hm_l47, hm_a48, hm_s48, hm_l48, hm_a49, hm_s49, hm_l49, hm_a50, hm_s50, hm_l50, hm_a51, hm_s51, hm_l51, hm_a52, hm_s52, hm_l52, hm_a53, hm_s53, hm_l53, hm_a54, hm_s54, hm_l54, hm_a55, hm_s55, hm_l55, hm_a56, hm_s56, hm_l56]
        refine ⟨fun z => absurd z (by rw [n_lit, n_le (by omega) (by omega)]; omega), fun _ => ?_⟩
        rw [n_sub1 (by omega), Nat.add_sub_cancel, hI3, n_cl (by omega), hwhat]
        refine ⟨vp_in_nI (by omega) (by omega), ?_⟩
        rw [show (128 : Int32) = nI 128 from rfl]
        obtain ⟨u, a, b', c⟩ := x
        rcases hx with ⟨e1, e2⟩ | ⟨e1, hFx, hzx⟩ | ⟨e1, hFx, hzx⟩
        · -- a letter
          have e1 : u = 2 := e1
          have e2 : c < 128 := e2
          subst e1
          have ei : itc (2, a, b', c) = c := rfl
          rw [ei, n_le (by omega) (by omega)]
          refine ⟨fun z => absurd z (by omega), fun _ => ?_⟩
          refine p_L_say hS3 (by omega) (fun I4 A4 _ hS4 => ?_)
          simp only [am_us, am_un, Nat.reduceEqDiff, not_false_eq_true, ak_c, ak_il, ak_ll, ak_al, ak_is, ak_as, ak_ls, ak_ii, ak_ib, ak_id, ak_lb, ak_lx, ak_lc, ak_iu, ak_i2l, ak_l2i, ak_dup, ak_dup2, ak_pop, ak_if, ak_ic, ak_sw, am_sws, ak_get, ak_puti, ak_putz, ak_putl, ak_puta, ak_iald, ak_lald, ak_iast, ak_last, ak_alen, ak_cs, ak_cv, ak_ri, ak_rz, ak_rl, ak_rv, am_ent, am_sp, am_pu, am_rs, Value.category, am_st1, am_st2, am_clr, List.getElem?_cons_zero, List.getElem?_cons_succ, List.set_cons_zero, List.set_cons_succ, List.length_cons, List.length_nil, Nat.reduceAdd, Nat.reduceLT, Nat.reduceLeDiff, Nat.zero_add, Nat.add_zero, true_and, and_true, or_true, true_or, if_true, if_false, Option.some.injEq, true_implies, false_implies, not_true_eq_false, not_false_eq_true, hm_i34, hm_f34_0, hm_p34_0, hm_f34_1, hm_f34_2, hm_p34_2, hm_f34_3, hm_f34_4, hm_f34_5, hm_f34_6, hm_p34_6, hm_f34_7, hm_f34_8, hm_f34_9, hm_f34_10, hm_p34_10, hm_f34_11, hm_f34_12, hm_f34_13, hm_f34_14, hm_f34_15, hm_f34_16, hm_p34_16, hm_f34_17, hm_p34_17, hm_f34_18, hm_p34_18, hm_f34_19, hm_p34_19, hm_f34_20, hm_p34_20, hm_f34_21, hm_p34_21, hm_f34_22, hm_p34_22, hm_f34_23, hm_p34_23, hm_f34_24, hm_p34_24, hm_f34_25, hm_p34_25, hm_f34_26, hm_f34_27, hm_f34_28, hm_p34_28, hm_f34_29, hm_p34_29, hm_f34_30, hm_f34_31, hm_f34_32, hm_p34_32, hm_f34_33, hm_f34_34, hm_f34_35, hm_f34_36, hm_f34_37, hm_f34_38, hm_a35, hm_s35, hm_l35, hm_a36, hm_s36, hm_l36, hm_a37, hm_s37, hm_l37, hm_a38, hm_s38, hm_l38, hm_a39, hm_s39, hm_l39, hm_a40, hm_s40, hm_l40, hm_a41, hm_s41, hm_l41, hm_a42, hm_s42, hm_l42, hm_a43, hm_s43, hm_l43, hm_a44, hm_s44, hm_l44, hm_a45, hm_s45, hm_l45, hm_a46, hm_s46, hm_l46, hm_a47, hm_s47, hm_l47, hm_a48, hm_s48, hm_l48, hm_a49, hm_s49, hm_l49, hm_a50, hm_s50, hm_l50, hm_a51, hm_s51, hm_l51, hm_a52, hm_s52, hm_l52, hm_a53, hm_s53, hm_l53, hm_a54, hm_s54, hm_l54, hm_a55, hm_s55, hm_l55, hm_a56, hm_s56, hm_l56]
          refine back (d ++ [c]) [] I4 A4 _ _ _ _ _ _ (by rw [List.append_nil]; exact hS4) (fun y hy => by cases hy) ?_ ?_
          · show d ++ [c] ++ [] = d ++ [c]
            rw [List.append_nil]
          · show 0 < 1
            omega
        · have e1 : u = 1 := e1
          subst e1
          have hFx : flm X a b' c := hFx
          have hc5 := hFx.1.2.2.1.1
          have hb6 := hFx.1.2.1
          have hab := hFx.1.1
          have ei : itc (1, a, b', c) = 128 + ((((1 * 8 + a) * 8 + b') * 256 + c % 256) * 2 + c / 256) := rfl
          rw [ei]
          generalize hV : (((1 * 8 + a) * 8 + b') * 256 + c % 256) * 2 + c / 256 = V
          obtain ⟨v1, v2, v3, v4, v5, v6⟩ := cd_dec (u := 1) (by decide) (by omega) (by omega) hc5 hV
          rw [n_le (by omega) (by omega)]
          refine ⟨fun _ => ?_, fun z => absurd (by omega) z⟩
          simp (disch := omega) only [pk_div, n_lit, n_litL, n_shr, n_shl, n_lt, n_le, n_eq, pk_mul, nI_add, n_cl, n_sub, Nat.reduceAdd, Nat.not_lt_zero, Nat.zero_le, true_implies, false_implies, not_true_eq_false, not_false_eq_true, true_and, and_true]
          rw [show 128 + V - 128 = V by omega]
          refine ⟨by decide, by decide, by decide, by decide, by decide, by decide, g196 _ _ _ ?_⟩
          simp only [B_X9_saysAll_196, am_us, am_un, Nat.reduceEqDiff, not_false_eq_true, ak_c, ak_il, ak_ll, ak_al, ak_is, ak_as, ak_ls, ak_ii, ak_ib, ak_id, ak_lb, ak_lx, ak_lc, ak_iu, ak_i2l, ak_l2i, ak_dup, ak_dup2, ak_pop, ak_if, ak_ic, ak_sw, am_sws, ak_get, ak_puti, ak_putz, ak_putl, ak_puta, ak_iald, ak_lald, ak_iast, ak_last, ak_alen, ak_cs, ak_cv, ak_ri, ak_rz, ak_rl, ak_rv, am_ent, am_sp, am_pu, am_rs, Value.category, am_st1, am_st2, am_clr, List.getElem?_cons_zero, List.getElem?_cons_succ, List.set_cons_zero, List.set_cons_succ, List.length_cons, List.length_nil, Nat.reduceAdd, Nat.reduceLT, Nat.reduceLeDiff, Nat.zero_add, Nat.add_zero, true_and, and_true, or_true, true_or, if_true, if_false, Option.some.injEq, true_implies, false_implies, not_true_eq_false, not_false_eq_true, hm_i34, hm_f34_0, hm_p34_0, hm_f34_1, hm_f34_2, hm_p34_2, hm_f34_3, hm_f34_4, hm_f34_5, hm_f34_6, hm_p34_6, hm_f34_7, hm_f34_8, hm_f34_9, hm_f34_10, hm_p34_10, hm_f34_11, hm_f34_12, hm_f34_13, hm_f34_14, hm_f34_15, hm_f34_16, hm_p34_16, hm_f34_17, hm_p34_17, hm_f34_18, hm_p34_18, hm_f34_19, hm_p34_19, hm_f34_20, hm_p34_20, hm_f34_21, hm_p34_21, hm_f34_22, hm_p34_22, hm_f34_23, hm_p34_23, hm_f34_24, hm_p34_24, hm_f34_25, hm_p34_25, hm_f34_26, hm_f34_27, hm_f34_28, hm_p34_28, hm_f34_29, hm_p34_29, hm_f34_30, hm_f34_31, hm_f34_32, hm_p34_32, hm_f34_33, hm_f34_34, hm_f34_35, hm_f34_36, hm_f34_37, hm_f34_38, hm_a35, hm_s35, hm_l35, hm_a36, hm_s36, hm_l36, hm_a37, hm_s37, hm_l37, hm_a38, hm_s38, hm_l38, hm_a39, hm_s39, hm_l39, hm_a40, hm_s40, hm_l40, hm_a41, hm_s41, hm_l41, hm_a42, hm_s42, hm_l42, hm_a43, hm_s43, hm_l43, hm_a44, hm_s44, hm_l44, hm_a45, hm_s45, hm_l45, hm_a46, hm_s46, hm_l46, hm_a47, hm_s47, hm_l47, hm_a48, hm_s48, hm_l48, hm_a49, hm_s49, hm_l49, hm_a50, hm_s50, hm_l50, hm_a51, hm_s51, hm_l51, hm_a52, hm_s52, hm_l52, hm_a53, hm_s53, hm_l53, hm_a54, hm_s54, hm_l54, hm_a55, hm_s55, hm_l55, hm_a56, hm_s56, hm_l56]
          simp (disch := omega) only [pk_div, n_lit, n_litL, n_shr, n_shl, n_lt, n_le, n_eq, pk_mul, nI_add, n_cl, n_sub, Nat.reduceAdd, Nat.not_lt_zero, Nat.zero_le, true_implies, false_implies, not_true_eq_false, not_false_eq_true, true_and, and_true]
          refine ⟨by decide, by decide, ?_⟩
          rw [v1, v2, v3, v4, v5]
          refine ⟨fun _ => ?_, fun z => absurd rfl z⟩
          refine p_X9_saysUnit hS3 hT hFx hzx (by omega) (by omega) (fun I4 A4 e N hS4 hN hsem hwt => ?_)
          simp only [am_us, am_un, Nat.reduceEqDiff, not_false_eq_true, ak_c, ak_il, ak_ll, ak_al, ak_is, ak_as, ak_ls, ak_ii, ak_ib, ak_id, ak_lb, ak_lx, ak_lc, ak_iu, ak_i2l, ak_l2i, ak_dup, ak_dup2, ak_pop, ak_if, ak_ic, ak_sw, am_sws, ak_get, ak_puti, ak_putz, ak_putl, ak_puta, ak_iald, ak_lald, ak_iast, ak_last, ak_alen, ak_cs, ak_cv, ak_ri, ak_rz, ak_rl, ak_rv, am_ent, am_sp, am_pu, am_rs, Value.category, am_st1, am_st2, am_clr, List.getElem?_cons_zero, List.getElem?_cons_succ, List.set_cons_zero, List.set_cons_succ, List.length_cons, List.length_nil, Nat.reduceAdd, Nat.reduceLT, Nat.reduceLeDiff, Nat.zero_add, Nat.add_zero, true_and, and_true, or_true, true_or, if_true, if_false, Option.some.injEq, true_implies, false_implies, not_true_eq_false, not_false_eq_true, hm_i34, hm_f34_0, hm_p34_0, hm_f34_1, hm_f34_2, hm_p34_2, hm_f34_3, hm_f34_4, hm_f34_5, hm_f34_6, hm_p34_6, hm_f34_7, hm_f34_8, hm_f34_9, hm_f34_10, hm_p34_10, hm_f34_11, hm_f34_12, hm_f34_13, hm_f34_14, hm_f34_15, hm_f34_16, hm_p34_16, hm_f34_17, hm_p34_17, hm_f34_18, hm_p34_18, hm_f34_19, hm_p34_19, hm_f34_20, hm_p34_20, hm_f34_21, hm_p34_21, hm_f34_22, hm_p34_22, hm_f34_23, hm_p34_23, hm_f34_24, hm_p34_24, hm_f34_25, hm_p34_25, hm_f34_26, hm_f34_27, hm_f34_28, hm_p34_28, hm_f34_29, hm_p34_29, hm_f34_30, hm_f34_31, hm_f34_32, hm_p34_32, hm_f34_33, hm_f34_34, hm_f34_35, hm_f34_36, hm_f34_37, hm_f34_38, hm_a35, hm_s35, hm_l35, hm_a36, hm_s36, hm_l36, hm_a37, hm_s37, hm_l37, hm_a38, hm_s38, hm_l38, hm_a39, hm_s39, hm_l39, hm_a40, hm_s40, hm_l40, hm_a41, hm_s41, hm_l41, hm_a42, hm_s42, hm_l42, hm_a43, hm_s43, hm_l43, hm_a44, hm_s44, hm_l44, hm_a45, hm_s45, hm_l45, hm_a46, hm_s46, hm_l46, hm_a47, hm_s47, hm_l47, hm_a48, hm_s48, hm_l48, hm_a49, hm_s49, hm_l49, hm_a50, hm_s50, hm_l50, hm_a51, hm_s51, hm_l51, hm_a52, hm_s52, hm_l52, hm_a53, hm_s53, hm_l53, hm_a54, hm_s54, hm_l54, hm_a55, hm_s55, hm_l55, hm_a56, hm_s56, hm_l56]
          refine back (d ++ e) N I4 A4 _ _ _ _ _ _ hS4 hN (by rw [List.append_assoc, hsem]; rfl) ?_
          exact hwt
        · have e1 : u = 0 := e1
          subst e1
          have hFx : flm X a b' c := hFx
          have hc5 := hFx.1.2.2.1.1
          have hb6 := hFx.1.2.1
          have hab := hFx.1.1
          have ei : itc (0, a, b', c) = 128 + ((((0 * 8 + a) * 8 + b') * 256 + c % 256) * 2 + c / 256) := rfl
          rw [ei]
          generalize hV : (((0 * 8 + a) * 8 + b') * 256 + c % 256) * 2 + c / 256 = V
          obtain ⟨v1, v2, v3, v4, v5, v6⟩ := cd_dec (u := 0) (by decide) (by omega) (by omega) hc5 hV
          rw [n_le (by omega) (by omega)]
          refine ⟨fun _ => ?_, fun z => absurd (by omega) z⟩
          simp (disch := omega) only [pk_div, n_lit, n_litL, n_shr, n_shl, n_lt, n_le, n_eq, pk_mul, nI_add, n_cl, n_sub, Nat.reduceAdd, Nat.not_lt_zero, Nat.zero_le, true_implies, false_implies, not_true_eq_false, not_false_eq_true, true_and, and_true]
          rw [show 128 + V - 128 = V by omega]
          refine ⟨by decide, by decide, by decide, by decide, by decide, by decide, g196 _ _ _ ?_⟩
          simp only [B_X9_saysAll_196, am_us, am_un, Nat.reduceEqDiff, not_false_eq_true, ak_c, ak_il, ak_ll, ak_al, ak_is, ak_as, ak_ls, ak_ii, ak_ib, ak_id, ak_lb, ak_lx, ak_lc, ak_iu, ak_i2l, ak_l2i, ak_dup, ak_dup2, ak_pop, ak_if, ak_ic, ak_sw, am_sws, ak_get, ak_puti, ak_putz, ak_putl, ak_puta, ak_iald, ak_lald, ak_iast, ak_last, ak_alen, ak_cs, ak_cv, ak_ri, ak_rz, ak_rl, ak_rv, am_ent, am_sp, am_pu, am_rs, Value.category, am_st1, am_st2, am_clr, List.getElem?_cons_zero, List.getElem?_cons_succ, List.set_cons_zero, List.set_cons_succ, List.length_cons, List.length_nil, Nat.reduceAdd, Nat.reduceLT, Nat.reduceLeDiff, Nat.zero_add, Nat.add_zero, true_and, and_true, or_true, true_or, if_true, if_false, Option.some.injEq, true_implies, false_implies, not_true_eq_false, not_false_eq_true, hm_i34, hm_f34_0, hm_p34_0, hm_f34_1, hm_f34_2, hm_p34_2, hm_f34_3, hm_f34_4, hm_f34_5, hm_f34_6, hm_p34_6, hm_f34_7, hm_f34_8, hm_f34_9, hm_f34_10, hm_p34_10, hm_f34_11, hm_f34_12, hm_f34_13, hm_f34_14, hm_f34_15, hm_f34_16, hm_p34_16, hm_f34_17, hm_p34_17, hm_f34_18, hm_p34_18, hm_f34_19, hm_p34_19, hm_f34_20, hm_p34_20, hm_f34_21, hm_p34_21, hm_f34_22, hm_p34_22, hm_f34_23, hm_p34_23, hm_f34_24, hm_p34_24, hm_f34_25, hm_p34_25, hm_f34_26, hm_f34_27, hm_f34_28, hm_p34_28, hm_f34_29, hm_p34_29, hm_f34_30, hm_f34_31, hm_f34_32, hm_p34_32, hm_f34_33, hm_f34_34, hm_f34_35, hm_f34_36, hm_f34_37, hm_f34_38, hm_a35, hm_s35, hm_l35, hm_a36, hm_s36, hm_l36, hm_a37, hm_s37, hm_l37, hm_a38, hm_s38, hm_l38, hm_a39, hm_s39, hm_l39, hm_a40, hm_s40, hm_l40, hm_a41, hm_s41, hm_l41, hm_a42, hm_s42, hm_l42, hm_a43, hm_s43, hm_l43, hm_a44, hm_s44, hm_l44, hm_a45, hm_s45, hm_l45, hm_a46, hm_s46, hm_l46, hm_a47, hm_s47, hm_l47, hm_a48, hm_s48, hm_l48, hm_a49, hm_s49, hm_l49, hm_a50, hm_s50, hm_l50, hm_a51, hm_s51, hm_l51, hm_a52, hm_s52, hm_l52, hm_a53, hm_s53, hm_l53, hm_a54, hm_s54, hm_l54, hm_a55, hm_s55, hm_l55, hm_a56, hm_s56, hm_l56]
          simp (disch := omega) only [pk_div, n_lit, n_litL, n_shr, n_shl, n_lt, n_le, n_eq, pk_mul, nI_add, n_cl, n_sub, Nat.reduceAdd, Nat.not_lt_zero, Nat.zero_le, true_implies, false_implies, not_true_eq_false, not_false_eq_true, true_and, and_true]
          refine ⟨by decide, by decide, ?_⟩
          rw [v1, v2, v3, v4, v5]
          refine ⟨fun z => absurd z (by decide), fun _ => ?_⟩
          refine p_X9_saysPiece hS3 hT hFx hzx (by omega) (fun I4 A4 N hS4 hN hsem hwt => ?_)
          simp only [am_us, am_un, Nat.reduceEqDiff, not_false_eq_true, ak_c, ak_il, ak_ll, ak_al, ak_is, ak_as, ak_ls, ak_ii, ak_ib, ak_id, ak_lb, ak_lx, ak_lc, ak_iu, ak_i2l, ak_l2i, ak_dup, ak_dup2, ak_pop, ak_if, ak_ic, ak_sw, am_sws, ak_get, ak_puti, ak_putz, ak_putl, ak_puta, ak_iald, ak_lald, ak_iast, ak_last, ak_alen, ak_cs, ak_cv, ak_ri, ak_rz, ak_rl, ak_rv, am_ent, am_sp, am_pu, am_rs, Value.category, am_st1, am_st2, am_clr, List.getElem?_cons_zero, List.getElem?_cons_succ, List.set_cons_zero, List.set_cons_succ, List.length_cons, List.length_nil, Nat.reduceAdd, Nat.reduceLT, Nat.reduceLeDiff, Nat.zero_add, Nat.add_zero, true_and, and_true, or_true, true_or, if_true, if_false, Option.some.injEq, true_implies, false_implies, not_true_eq_false, not_false_eq_true, hm_i34, hm_f34_0, hm_p34_0, hm_f34_1, hm_f34_2, hm_p34_2, hm_f34_3, hm_f34_4, hm_f34_5, hm_f34_6, hm_p34_6, hm_f34_7, hm_f34_8, hm_f34_9, hm_f34_10, hm_p34_10, hm_f34_11, hm_f34_12, hm_f34_13, hm_f34_14, hm_f34_15, hm_f34_16, hm_p34_16, hm_f34_17, hm_p34_17, hm_f34_18, hm_p34_18, hm_f34_19, hm_p34_19, hm_f34_20, hm_p34_20, hm_f34_21, hm_p34_21, hm_f34_22, hm_p34_22, hm_f34_23, hm_p34_23, hm_f34_24, hm_p34_24, hm_f34_25, hm_p34_25, hm_f34_26, hm_f34_27, hm_f34_28, hm_p34_28, hm_f34_29, hm_p34_29, hm_f34_30, hm_f34_31, hm_f34_32, hm_p34_32, hm_f34_33, hm_f34_34, hm_f34_35, hm_f34_36, hm_f34_37, hm_f34_38, hm_a35, hm_s35, hm_l35, hm_a36, hm_s36, hm_l36, hm_a37, hm_s37, hm_l37, hm_a38, hm_s38, hm_l38, hm_a39, hm_s39, hm_l39, hm_a40, hm_s40, hm_l40, hm_a41, hm_s41, hm_l41, hm_a42, hm_s42, hm_l42, hm_a43, hm_s43, hm_l43, hm_a44, hm_s44, hm_l44, hm_a45, hm_s45, hm_l45, hm_a46, hm_s46, hm_l46, hm_a47, hm_s47, hm_l47, hm_a48, hm_s48, hm_l48, hm_a49, hm_s49, hm_l49, hm_a50, hm_s50, hm_l50, hm_a51, hm_s51, hm_l51, hm_a52, hm_s52, hm_l52, hm_a53, hm_s53, hm_l53, hm_a54, hm_s54, hm_l54, hm_a55, hm_s55, hm_l55, hm_a56, hm_s56, hm_l56]
          refine back d N I4 A4 _ _ _ _ _ _ hS4 hN (by rw [hsem]; rfl) ?_
          exact hwt
  -- the head of the line
  have c87 : ∀ (I2 : Nat → Int32) (A2 : Nat → Nat → Int32) (d : List Nat), SL Ib Aa X d [] I2 A2 → d.length ≤ 100 → d ++ (61 :: LLn X (mz_a (MZ X).2.2.2) (mz_b X (MZ X).2.2.2) (mz_f X)) = ML X → (∀ k, 9 ≤ k → k ≤ 12 → I2 k = Ib k) → G 87 [some (.ref 34), none, none, none, none, none, none] [] (HM hd I2 A2 T1) := by
    intro I2 A2 d hS hdl hline hpk
    refine g87 _ _ _ ?_
    simp only [B_X9_saysAll_87, am_us, am_un, Nat.reduceEqDiff, not_false_eq_true, ak_c, ak_il, ak_ll, ak_al, ak_is, ak_as, ak_ls, ak_ii, ak_ib, ak_id, ak_lb, ak_lx, ak_lc, ak_iu, ak_i2l, ak_l2i, ak_dup, ak_dup2, ak_pop, ak_if, ak_ic, ak_sw, am_sws, ak_get, ak_puti, ak_putz, ak_putl, ak_puta, ak_iald, ak_lald, ak_iast, ak_last, ak_alen, ak_cs, ak_cv, ak_ri, ak_rz, ak_rl, ak_rv, am_ent, am_sp, am_pu, am_rs, Value.category, am_st1, am_st2, am_clr, List.getElem?_cons_zero, List.getElem?_cons_succ, List.set_cons_zero, List.set_cons_succ, List.length_cons, List.length_nil, Nat.reduceAdd, Nat.reduceLT, Nat.reduceLeDiff, Nat.zero_add, Nat.add_zero, true_and, and_true, or_true, true_or, if_true, if_false, Option.some.injEq, true_implies, false_implies, not_true_eq_false, not_false_eq_true, hm_i34, hm_f34_0, hm_p34_0, hm_f34_1, hm_f34_2, hm_p34_2, hm_f34_3, hm_f34_4, hm_f34_5, hm_f34_6, hm_p34_6, hm_f34_7, hm_f34_8, hm_f34_9, hm_f34_10, hm_p34_10, hm_f34_11, hm_f34_12, hm_f34_13, hm_f34_14, hm_f34_15, hm_f34_16, hm_p34_16, hm_f34_17, hm_p34_17, hm_f34_18, hm_p34_18, hm_f34_19, hm_p34_19, hm_f34_20, hm_p34_20, hm_f34_21, hm_p34_21, hm_f34_22, hm_p34_22, hm_f34_23, hm_p34_23, hm_f34_24, hm_p34_24, hm_f34_25, hm_p34_25, hm_f34_26, hm_f34_27, hm_f34_28, hm_p34_28, hm_f34_29, hm_p34_29, hm_f34_30, hm_f34_31, hm_f34_32, hm_p34_32, hm_f34_33, hm_f34_34, hm_f34_35, hm_f34_36, hm_f34_37, hm_f34_38, hm_a35, hm_s35, hm_l35, hm_a36, hm_s36, hm_l36, hm_a37, hm_s37, hm_l37, hm_a38, hm_s38, hm_l38, hm_a39, hm_s39, hm_l39, hm_a40, hm_s40, hm_l40, hm_a41, hm_s41, hm_l41, hm_a42, hm_s42, hm_l42, hm_a43, hm_s43, hm_l43, hm_a44, hm_s44, hm_l44, hm_a45, hm_s45, hm_l45, hm_a46, hm_s46, hm_l46, hm_a47, hm_s47, hm_l47, hm_a48, hm_s48, hm_l48, hm_a49, hm_s49, hm_l49, hm_a50, hm_s50, hm_l50, hm_a51, hm_s51, hm_l51, hm_a52, hm_s52, hm_l52, hm_a53, hm_s53, hm_l53, hm_a54, hm_s54, hm_l54, hm_a55, hm_s55, hm_l55, hm_a56, hm_s56, hm_l56]
    refine p_L_say (c := 61) hS (by omega) (fun I3 A3 hf3 hS3 => ?_)
    have j11 : I3 11 = nI (mz_a (MZ X).2.2.2) := ((hf3.1 11 (by decide)).trans (hpk 11 (by decide) (by decide))).trans i11
    have j12 : I3 12 = nI (mz_b X (MZ X).2.2.2) := ((hf3.1 12 (by decide)).trans (hpk 12 (by decide) (by decide))).trans i12
    have hgl := hS3.1.2.2.2.1.1.1
    have hn8 := hg.2.2
    have hpw : 2 ^ X.2.2.1.length ≤ 2 ^ 8 := Nat.pow_le_pow_right (by decide) hn8
    have hpw1 : 2 ≤ 2 ^ X.2.2.1.length := by
      have : 2 ^ 1 ≤ 2 ^ X.2.2.1.length := Nat.pow_le_pow_right (by decide) (by have := hg.2.1; omega)
      omega
    have hmf : mz_f X = 2 ^ X.2.2.1.length - 1 := by unfold mz_f; rw [Nat.pow_zero]
    simp only [j11, j12, am_us, am_un, Nat.reduceEqDiff, not_false_eq_true, ak_c, ak_il, ak_ll, ak_al, ak_is, ak_as, ak_ls, ak_ii, ak_ib, ak_id, ak_lb, ak_lx, ak_lc, ak_iu, ak_i2l, ak_l2i, ak_dup, ak_dup2, ak_pop, ak_if, ak_ic, ak_sw, am_sws, ak_get, ak_puti, ak_putz, ak_putl, ak_puta, ak_iald, ak_lald, ak_iast, ak_last, ak_alen, ak_cs, ak_cv, ak_ri, ak_rz, ak_rl, ak_rv, am_ent, am_sp, am_pu, am_rs, Value.category, am_st1, am_st2, am_clr, List.getElem?_cons_zero, List.getElem?_cons_succ, List.set_cons_zero, List.set_cons_succ, List.length_cons, List.length_nil, Nat.reduceAdd, Nat.reduceLT, Nat.reduceLeDiff, Nat.zero_add, Nat.add_zero, true_and, and_true, or_true, true_or, if_true, if_false, Option.some.injEq, true_implies, false_implies, not_true_eq_false, not_false_eq_true, hm_i34, hm_f34_0, hm_p34_0, hm_f34_1, hm_f34_2, hm_p34_2, hm_f34_3, hm_f34_4, hm_f34_5, hm_f34_6, hm_p34_6, hm_f34_7, hm_f34_8, hm_f34_9, hm_f34_10, hm_p34_10, hm_f34_11, hm_f34_12, hm_f34_13, hm_f34_14, hm_f34_15, hm_f34_16, hm_p34_16, hm_f34_17, hm_p34_17, hm_f34_18, hm_p34_18, hm_f34_19, hm_p34_19, hm_f34_20, hm_p34_20, hm_f34_21, hm_p34_21, hm_f34_22, hm_p34_22, hm_f34_23, hm_p34_23, hm_f34_24, hm_p34_24, hm_f34_25, hm_p34_25, hm_f34_26, hm_f34_27, hm_f34_28, hm_p34_28, hm_f34_29, hm_p34_29, hm_f34_30, hm_f34_31, hm_f34_32, hm_p34_32, hm_f34_33, hm_f34_34, hm_f34_35, hm_f34_36, hm_f34_37, hm_f34_38, hm_a35, hm_s35, hm_l35, hm_a36, hm_s36, hm_l36, hm_a37, hm_s37, hm_l37, hm_a38, hm_s38, hm_l38, hm_a39, hm_s39, hm_l39, hm_a40, hm_s40, hm_l40, hm_a41, hm_s41, hm_l41, hm_a42, hm_s42, hm_l42, hm_a43, hm_s43, hm_l43, hm_a44, hm_s44, hm_l44, hm_a45, hm_s45, hm_l45, hm_a46, hm_s46, hm_l46, hm_a47, hm_s47, hm_l47, hm_a48, hm_s48, hm_l48, hm_a49, hm_s49, hm_l49, hm_a50, hm_s50, hm_l50, hm_a51, hm_s51, hm_l51, hm_a52, hm_s52, hm_l52, hm_a53, hm_s53, hm_l53, hm_a54, hm_s54, hm_l54, hm_a55, hm_s55, hm_l55, hm_a56, hm_s56, hm_l56]
    simp only [n_lit] at hgl ⊢
    simp (disch := omega) only [hgl, n_ishl, n_lit, n_litL, n_shr, n_shl, n_lt, n_le, n_eq, pk_mul, nI_add, n_cl, n_sub, Nat.reduceAdd, Nat.not_lt_zero, Nat.zero_le, true_implies, false_implies, not_true_eq_false, not_false_eq_true, true_and, and_true]
    rw [Nat.one_mul, ← hmf]
    refine ⟨vp_in_nI (by omega) (by omega), ?_⟩
    refine p_X9_state (p := mz_f X) (u := 0) (by omega) (show 0 = _ by omega) (by omega) ?_
    simp only [am_us, am_un, Nat.reduceEqDiff, not_false_eq_true, ak_c, ak_il, ak_ll, ak_al, ak_is, ak_as, ak_ls, ak_ii, ak_ib, ak_id, ak_lb, ak_lx, ak_lc, ak_iu, ak_i2l, ak_l2i, ak_dup, ak_dup2, ak_pop, ak_if, ak_ic, ak_sw, am_sws, ak_get, ak_puti, ak_putz, ak_putl, ak_puta, ak_iald, ak_lald, ak_iast, ak_last, ak_alen, ak_cs, ak_cv, ak_ri, ak_rz, ak_rl, ak_rv, am_ent, am_sp, am_pu, am_rs, Value.category, am_st1, am_st2, am_clr, List.getElem?_cons_zero, List.getElem?_cons_succ, List.set_cons_zero, List.set_cons_succ, List.length_cons, List.length_nil, Nat.reduceAdd, Nat.reduceLT, Nat.reduceLeDiff, Nat.zero_add, Nat.add_zero, true_and, and_true, or_true, true_or, if_true, if_false, Option.some.injEq, true_implies, false_implies, not_true_eq_false, not_false_eq_true, hm_i34, hm_f34_0, hm_p34_0, hm_f34_1, hm_f34_2, hm_p34_2, hm_f34_3, hm_f34_4, hm_f34_5, hm_f34_6, hm_p34_6, hm_f34_7, hm_f34_8, hm_f34_9, hm_f34_10, hm_p34_10, hm_f34_11, hm_f34_12, hm_f34_13, hm_f34_14, hm_f34_15, hm_f34_16, hm_p34_16, hm_f34_17, hm_p34_17, hm_f34_18, hm_p34_18, hm_f34_19, hm_p34_19, hm_f34_20, hm_p34_20, hm_f34_21, hm_p34_21, hm_f34_22, hm_p34_22, hm_f34_23, hm_p34_23, hm_f34_24, hm_p34_24, hm_f34_25, hm_p34_25, hm_f34_26, hm_f34_27, hm_f34_28, hm_p34_28, hm_f34_29, hm_p34_29, hm_f34_30, hm_f34_31, hm_f34_32, hm_p34_32, hm_f34_33, hm_f34_34, hm_f34_35, hm_f34_36, hm_f34_37, hm_f34_38, hm_a35, hm_s35, hm_l35, hm_a36, hm_s36, hm_l36, hm_a37, hm_s37, hm_l37, hm_a38, hm_s38, hm_l38, hm_a39, hm_s39, hm_l39, hm_a40, hm_s40, hm_l40, hm_a41, hm_s41, hm_l41, hm_a42, hm_s42, hm_l42, hm_a43, hm_s43, hm_l43, hm_a44, hm_s44, hm_l44, hm_a45, hm_s45, hm_l45, hm_a46, hm_s46, hm_l46, hm_a47, hm_s47, hm_l47, hm_a48, hm_s48, hm_l48, hm_a49, hm_s49, hm_l49, hm_a50, hm_s50, hm_l50, hm_a51, hm_s51, hm_l51, hm_a52, hm_s52, hm_l52, hm_a53, hm_s53, hm_l53, hm_a54, hm_s54, hm_l54, hm_a55, hm_s55, hm_l55, hm_a56, hm_s56, hm_l56]
    refine p_L_push (x := (0, mz_a (MZ X).2.2.2, mz_b X (MZ X).2.2.2, mz_f X)) hS3 (by decide) rfl (fun I4 A4 _ _ hS4 => ?_)
    simp only [am_us, am_un, Nat.reduceEqDiff, not_false_eq_true, ak_c, ak_il, ak_ll, ak_al, ak_is, ak_as, ak_ls, ak_ii, ak_ib, ak_id, ak_lb, ak_lx, ak_lc, ak_iu, ak_i2l, ak_l2i, ak_dup, ak_dup2, ak_pop, ak_if, ak_ic, ak_sw, am_sws, ak_get, ak_puti, ak_putz, ak_putl, ak_puta, ak_iald, ak_lald, ak_iast, ak_last, ak_alen, ak_cs, ak_cv, ak_ri, ak_rz, ak_rl, ak_rv, am_ent, am_sp, am_pu, am_rs, Value.category, am_st1, am_st2, am_clr, List.getElem?_cons_zero, List.getElem?_cons_succ, List.set_cons_zero, List.set_cons_succ, List.length_cons, List.length_nil, Nat.reduceAdd, Nat.reduceLT, Nat.reduceLeDiff, Nat.zero_add, Nat.add_zero, true_and, and_true, or_true, true_or, if_true, if_false, Option.some.injEq, true_implies, false_implies, not_true_eq_false, not_false_eq_true, hm_i34, hm_f34_0, hm_p34_0, hm_f34_1, hm_f34_2, hm_p34_2, hm_f34_3, hm_f34_4, hm_f34_5, hm_f34_6, hm_p34_6, hm_f34_7, hm_f34_8, hm_f34_9, hm_f34_10, hm_p34_10, hm_f34_11, hm_f34_12, hm_f34_13, hm_f34_14, hm_f34_15, hm_f34_16, hm_p34_16, hm_f34_17, hm_p34_17, hm_f34_18, hm_p34_18, hm_f34_19, hm_p34_19, hm_f34_20, hm_p34_20, hm_f34_21, hm_p34_21, hm_f34_22, hm_p34_22, hm_f34_23, hm_p34_23, hm_f34_24, hm_p34_24, hm_f34_25, hm_p34_25, hm_f34_26, hm_f34_27, hm_f34_28, hm_p34_28, hm_f34_29, hm_p34_29, hm_f34_30, hm_f34_31, hm_f34_32, hm_p34_32, hm_f34_33, hm_f34_34, hm_f34_35, hm_f34_36, hm_f34_37, hm_f34_38, hm_a35, hm_s35, hm_l35, hm_a36, hm_s36, hm_l36, hm_a37, hm_s37, hm_l37, hm_a38, hm_s38, hm_l38, hm_a39, hm_s39, hm_l39, hm_a40, hm_s40, hm_l40, hm_a41, hm_s41, hm_l41, hm_a42, hm_s42, hm_l42, hm_a43, hm_s43, hm_l43, hm_a44, hm_s44, hm_l44, hm_a45, hm_s45, hm_l45, hm_a46, hm_s46, hm_l46, hm_a47, hm_s47, hm_l47, hm_a48, hm_s48, hm_l48, hm_a49, hm_s49, hm_l49, hm_a50, hm_s50, hm_l50, hm_a51, hm_s51, hm_l51, hm_a52, hm_s52, hm_l52, hm_a53, hm_s53, hm_l53, hm_a54, hm_s54, hm_l54, hm_a55, hm_s55, hm_l55, hm_a56, hm_s56, hm_l56]
    refine loop 36 [(0, mz_a (MZ X).2.2.2, mz_b X (MZ X).2.2.2, mz_f X)] (d ++ [61]) I4 A4 _ _ _ _ _ _ ?_ (Nat.le_refl _) hS4 (fun x hx => ?_) ?_
    · show 6 * (mz_b X (MZ X).2.2.2 - mz_a (MZ X).2.2.2) + 0 ≤ 36
      omega
    · rw [List.mem_singleton.mp hx]
      exact Or.inr (Or.inr ⟨rfl, hF, m4⟩)
    · rw [← hline]
      simp [itl]
  have c70 : ∀ (w : Nat) (I2 : Nat → Int32) (A2 : Nat → Nat → Int32) (d : List Nat), w = (if (MZ X).2.2.2 < 2 then 0 else X.2.1.length - 1) → SL Ib Aa X d [] I2 A2 → d = [if (MZ X).2.2.2 < 2 then 60 else 62] → (∀ k, 9 ≤ k → k ≤ 12 → I2 k = Ib k) → G 70 [some (.ref 34), none, none, none, none, none, none] [.int (nI (8 * w)), .ref 42, .ref 34] (HM hd I2 A2 T1) := by
    intro w I2 A2 d hww hS hdd hpk
    have hwl : w < X.2.1.length := by rw [hww]; split <;> omega
    have hy : X.2.1[w]? = some (X.2.1[w]'hwl) := List.getElem?_eq_getElem hwl
    have ed : mz_d X (MZ X).2.2.2 = X.2.1[w]'hwl := by
      unfold mz_d
      rw [← hww, List.getD_eq_getElem?_getD, hy]
      rfl
    have hyl := (hS.1.2.1.1.2.2 _ (List.mem_of_getElem? hy)).2.2
    have hdl : d.length = 1 := by rw [hdd]; rfl
    refine g70 _ _ _ ?_
    simp only [B_X9_saysAll_70, am_us, am_un, Nat.reduceEqDiff, not_false_eq_true, ak_c, ak_il, ak_ll, ak_al, ak_is, ak_as, ak_ls, ak_ii, ak_ib, ak_id, ak_lb, ak_lx, ak_lc, ak_iu, ak_i2l, ak_l2i, ak_dup, ak_dup2, ak_pop, ak_if, ak_ic, ak_sw, am_sws, ak_get, ak_puti, ak_putz, ak_putl, ak_puta, ak_iald, ak_lald, ak_iast, ak_last, ak_alen, ak_cs, ak_cv, ak_ri, ak_rz, ak_rl, ak_rv, am_ent, am_sp, am_pu, am_rs, Value.category, am_st1, am_st2, am_clr, List.getElem?_cons_zero, List.getElem?_cons_succ, List.set_cons_zero, List.set_cons_succ, List.length_cons, List.length_nil, Nat.reduceAdd, Nat.reduceLT, Nat.reduceLeDiff, Nat.zero_add, Nat.add_zero, true_and, and_true, or_true, true_or, if_true, if_false, Option.some.injEq, true_implies, false_implies, not_true_eq_false, not_false_eq_true, hm_i34, hm_f34_0, hm_p34_0, hm_f34_1, hm_f34_2, hm_p34_2, hm_f34_3, hm_f34_4, hm_f34_5, hm_f34_6, hm_p34_6, hm_f34_7, hm_f34_8, hm_f34_9, hm_f34_10, hm_p34_10, hm_f34_11, hm_f34_12, hm_f34_13, hm_f34_14, hm_f34_15, hm_f34_16, hm_p34_16, hm_f34_17, hm_p34_17, hm_f34_18, hm_p34_18, hm_f34_19, hm_p34_19, hm_f34_20, hm_p34_20, hm_f34_21, hm_p34_21, hm_f34_22, hm_p34_22, hm_f34_23, hm_p34_23, hm_f34_24, hm_p34_24, hm_f34_25, hm_p34_25, hm_f34_26, hm_f34_27, hm_f34_28, hm_p34_28, hm_f34_29, hm_p34_29, hm_f34_30, hm_f34_31, hm_f34_32, hm_p34_32, hm_f34_33, hm_f34_34, hm_f34_35, hm_f34_36, hm_f34_37, hm_f34_38, hm_a35, hm_s35, hm_l35, hm_a36, hm_s36, hm_l36, hm_a37, hm_s37, hm_l37, hm_a38, hm_s38, hm_l38, hm_a39, hm_s39, hm_l39, hm_a40, hm_s40, hm_l40, hm_a41, hm_s41, hm_l41, hm_a42, hm_s42, hm_l42, hm_a43, hm_s43, hm_l43, hm_a44, hm_s44, hm_l44, hm_a45, hm_s45, hm_l45, hm_a46, hm_s46, hm_l46, hm_a47, hm_s47, hm_l47, hm_a48, hm_s48, hm_l48, hm_a49, hm_s49, hm_l49, hm_a50, hm_s50, hm_l50, hm_a51, hm_s51, hm_l51, hm_a52, hm_s52, hm_l52, hm_a53, hm_s53, hm_l53, hm_a54, hm_s54, hm_l54, hm_a55, hm_s55, hm_l55, hm_a56, hm_s56, hm_l56]
    refine p_X9_saysRow_c hS.2.1 (hS.1.2.1.2.2 w _ hy) (by omega) (by omega) (by omega) (fun I3 A3 hf3 hl3 => ?_)
    have hS3 := hS.says hf3 hl3
    have hpk3 : ∀ k, 9 ≤ k → k ≤ 12 → I3 k = Ib k := fun k h1 h2 => (hf3.1 k (by omega)).trans (hpk k h1 h2)
    have j10 : I3 10 = nI ((MZ X).2.2.2 % 2) := (hpk3 10 (by decide) (by decide)).trans i10
    have hd3 : (d ++ lq_s (X.2.1[w]'hwl)).length ≤ 8 := by rw [List.length_append, lq_s_len]; omega
    simp only [j10, am_us, am_un, Nat.reduceEqDiff, not_false_eq_true, ak_c, ak_il, ak_ll, ak_al, ak_is, ak_as, ak_ls, ak_ii, ak_ib, ak_id, ak_lb, ak_lx, ak_lc, ak_iu, ak_i2l, ak_l2i, ak_dup, ak_dup2, ak_pop, ak_if, ak_ic, ak_sw, am_sws, ak_get, ak_puti, ak_putz, ak_putl, ak_puta, ak_iald, ak_lald, ak_iast, ak_last, ak_alen, ak_cs, ak_cv, ak_ri, ak_rz, ak_rl, ak_rv, am_ent, am_sp, am_pu, am_rs, Value.category, am_st1, am_st2, am_clr, List.getElem?_cons_zero, List.getElem?_cons_succ, List.set_cons_zero, List.set_cons_succ, List.length_cons, List.length_nil, Nat.reduceAdd, Nat.reduceLT, Nat.reduceLeDiff, Nat.zero_add, Nat.add_zero, true_and, and_true, or_true, true_or, if_true, if_false, Option.some.injEq, true_implies, false_implies, not_true_eq_false, not_false_eq_true, hm_i34, hm_f34_0, hm_p34_0, hm_f34_1, hm_f34_2, hm_p34_2, hm_f34_3, hm_f34_4, hm_f34_5, hm_f34_6, hm_p34_6, hm_f34_7, hm_f34_8, hm_f34_9, hm_f34_10, hm_p34_10, hm_f34_11, hm_f34_12, hm_f34_13, hm_f34_14, hm_f34_15, hm_f34_16, hm_p34_16, hm_f34_17, hm_p34_17, hm_f34_18, hm_p34_18, hm_f34_19, hm_p34_19, hm_f34_20, hm_p34_20, hm_f34_21, hm_p34_21, hm_f34_22, hm_p34_22, hm_f34_23, hm_p34_23, hm_f34_24, hm_p34_24, hm_f34_25, hm_p34_25, hm_f34_26, hm_f34_27, hm_f34_28, hm_p34_28, hm_f34_29, hm_p34_29, hm_f34_30, hm_f34_31, hm_f34_32, hm_p34_32, hm_f34_33, hm_f34_34, hm_f34_35, hm_f34_36, hm_f34_37, hm_f34_38, hm_a35, hm_s35, hm_l35, hm_a36, hm_s36, hm_l36, hm_a37, hm_s37, hm_l37, hm_a38, hm_s38, hm_l38, hm_a39, hm_s39, hm_l39, hm_a40, hm_s40, hm_l40, hm_a41, hm_s41, hm_l41, hm_a42, hm_s42, hm_l42, hm_a43, hm_s43, hm_l43, hm_a44, hm_s44, hm_l44, hm_a45, hm_s45, hm_l45, hm_a46, hm_s46, hm_l46, hm_a47, hm_s47, hm_l47, hm_a48, hm_s48, hm_l48, hm_a49, hm_s49, hm_l49, hm_a50, hm_s50, hm_l50, hm_a51, hm_s51, hm_l51, hm_a52, hm_s52, hm_l52, hm_a53, hm_s53, hm_l53, hm_a54, hm_s54, hm_l54, hm_a55, hm_s55, hm_l55, hm_a56, hm_s56, hm_l56]
    rw [show (1 : Int32) = nI 1 from rfl, n_eq (by omega) (by omega)]
    refine ⟨fun q => ?_, fun q => ?_⟩
    · refine p_L_say (c := 45) hS3 (by omega) (fun I4 A4 hf4 hS4 => ?_)
      simp only [am_us, am_un, Nat.reduceEqDiff, not_false_eq_true, ak_c, ak_il, ak_ll, ak_al, ak_is, ak_as, ak_ls, ak_ii, ak_ib, ak_id, ak_lb, ak_lx, ak_lc, ak_iu, ak_i2l, ak_l2i, ak_dup, ak_dup2, ak_pop, ak_if, ak_ic, ak_sw, am_sws, ak_get, ak_puti, ak_putz, ak_putl, ak_puta, ak_iald, ak_lald, ak_iast, ak_last, ak_alen, ak_cs, ak_cv, ak_ri, ak_rz, ak_rl, ak_rv, am_ent, am_sp, am_pu, am_rs, Value.category, am_st1, am_st2, am_clr, List.getElem?_cons_zero, List.getElem?_cons_succ, List.set_cons_zero, List.set_cons_succ, List.length_cons, List.length_nil, Nat.reduceAdd, Nat.reduceLT, Nat.reduceLeDiff, Nat.zero_add, Nat.add_zero, true_and, and_true, or_true, true_or, if_true, if_false, Option.some.injEq, true_implies, false_implies, not_true_eq_false, not_false_eq_true, hm_i34, hm_f34_0, hm_p34_0, hm_f34_1, hm_f34_2, hm_p34_2, hm_f34_3, hm_f34_4, hm_f34_5, hm_f34_6, hm_p34_6, hm_f34_7, hm_f34_8, hm_f34_9, hm_f34_10, hm_p34_10, hm_f34_11, hm_f34_12, hm_f34_13, hm_f34_14, hm_f34_15, hm_f34_16, hm_p34_16, hm_f34_17, hm_p34_17, hm_f34_18, hm_p34_18, hm_f34_19, hm_p34_19, hm_f34_20, hm_p34_20, hm_f34_21, hm_p34_21, hm_f34_22, hm_p34_22, hm_f34_23, hm_p34_23, hm_f34_24, hm_p34_24, hm_f34_25, hm_p34_25, hm_f34_26, hm_f34_27, hm_f34_28, hm_p34_28, hm_f34_29, hm_p34_29, hm_f34_30, hm_f34_31, hm_f34_32, hm_p34_32, hm_f34_33, hm_f34_34, hm_f34_35, hm_f34_36, hm_f34_37, hm_f34_38, hm_a35, hm_s35, hm_l35, hm_a36, hm_s36, hm_l36, hm_a37, hm_s37, hm_l37, hm_a38, hm_s38, hm_l38, hm_a39, hm_s39, hm_l39, hm_a40, hm_s40, hm_l40, hm_a41, hm_s41, hm_l41, hm_a42, hm_s42, hm_l42, hm_a43, hm_s43, hm_l43, hm_a44, hm_s44, hm_l44, hm_a45, hm_s45, hm_l45, hm_a46, hm_s46, hm_l46, hm_a47, hm_s47, hm_l47, hm_a48, hm_s48, hm_l48, hm_a49, hm_s49, hm_l49, hm_a50, hm_s50, hm_l50, hm_a51, hm_s51, hm_l51, hm_a52, hm_s52, hm_l52, hm_a53, hm_s53, hm_l53, hm_a54, hm_s54, hm_l54, hm_a55, hm_s55, hm_l55, hm_a56, hm_s56, hm_l56]
      refine c87 I4 A4 _ hS4 (by rw [List.length_append, List.length_singleton]; omega) ?_ (fun k h1 h2 => (hf4.1 k (by omega)).trans (hpk3 k h1 h2))
      rw [eML, if_pos q, ed, hdd]
      simp
    · refine c87 I3 A3 _ hS3 (by omega) ?_ hpk3
      rw [eML, if_neg q, ed, hdd]
      simp
  have c42 : ∀ cc : Nat, cc = (if (MZ X).2.2.2 < 2 then 60 else 62) → G 42 [some (.ref 34), none, none, none, none, none, none] [.int (nI cc), .ref 34] (HM hd Ic Aa T1) := by
    intro cc hcc
    refine g42 _ _ _ ?_
    simp only [B_X9_saysAll_42, am_us, am_un, Nat.reduceEqDiff, not_false_eq_true, ak_c, ak_il, ak_ll, ak_al, ak_is, ak_as, ak_ls, ak_ii, ak_ib, ak_id, ak_lb, ak_lx, ak_lc, ak_iu, ak_i2l, ak_l2i, ak_dup, ak_dup2, ak_pop, ak_if, ak_ic, ak_sw, am_sws, ak_get, ak_puti, ak_putz, ak_putl, ak_puta, ak_iald, ak_lald, ak_iast, ak_last, ak_alen, ak_cs, ak_cv, ak_ri, ak_rz, ak_rl, ak_rv, am_ent, am_sp, am_pu, am_rs, Value.category, am_st1, am_st2, am_clr, List.getElem?_cons_zero, List.getElem?_cons_succ, List.set_cons_zero, List.set_cons_succ, List.length_cons, List.length_nil, Nat.reduceAdd, Nat.reduceLT, Nat.reduceLeDiff, Nat.zero_add, Nat.add_zero, true_and, and_true, or_true, true_or, if_true, if_false, Option.some.injEq, true_implies, false_implies, not_true_eq_false, not_false_eq_true, hm_i34, hm_f34_0, hm_p34_0, hm_f34_1, hm_f34_2, hm_p34_2, hm_f34_3, hm_f34_4, hm_f34_5, hm_f34_6, hm_p34_6, hm_f34_7, hm_f34_8, hm_f34_9, hm_f34_10, hm_p34_10, hm_f34_11, hm_f34_12, hm_f34_13, hm_f34_14, hm_f34_15, hm_f34_16, hm_p34_16, hm_f34_17, hm_p34_17, hm_f34_18, hm_p34_18, hm_f34_19, hm_p34_19, hm_f34_20, hm_p34_20, hm_f34_21, hm_p34_21, hm_f34_22, hm_p34_22, hm_f34_23, hm_p34_23, hm_f34_24, hm_p34_24, hm_f34_25, hm_p34_25, hm_f34_26, hm_f34_27, hm_f34_28, hm_p34_28, hm_f34_29, hm_p34_29, hm_f34_30, hm_f34_31, hm_f34_32, hm_p34_32, hm_f34_33, hm_f34_34, hm_f34_35, hm_f34_36, hm_f34_37, hm_f34_38, hm_a35, hm_s35, hm_l35, hm_a36, hm_s36, hm_l36, hm_a37, hm_s37, hm_l37, hm_a38, hm_s38, hm_l38, hm_a39, hm_s39, hm_l39, hm_a40, hm_s40, hm_l40, hm_a41, hm_s41, hm_l41, hm_a42, hm_s42, hm_l42, hm_a43, hm_s43, hm_l43, hm_a44, hm_s44, hm_l44, hm_a45, hm_s45, hm_l45, hm_a46, hm_s46, hm_l46, hm_a47, hm_s47, hm_l47, hm_a48, hm_s48, hm_l48, hm_a49, hm_s49, hm_l49, hm_a50, hm_s50, hm_l50, hm_a51, hm_s51, hm_l51, hm_a52, hm_s52, hm_l52, hm_a53, hm_s53, hm_l53, hm_a54, hm_s54, hm_l54, hm_a55, hm_s55, hm_l55, hm_a56, hm_s56, hm_l56]
    refine p_L_say hS0 (by decide) (fun I2 A2 hf2 hS2 => ?_)
    have hpk2 : ∀ k, 9 ≤ k → k ≤ 12 → I2 k = Ib k := fun k h1 h2 => (hf2.1 k (by omega)).trans (hc k (by omega) (by omega))
    have j9 : I2 9 = nI ((MZ X).2.2.2 / 2) := (hpk2 9 (by decide) (by decide)).trans i9
    simp only [j9, hS2.1.2.1.2.1, am_us, am_un, Nat.reduceEqDiff, not_false_eq_true, ak_c, ak_il, ak_ll, ak_al, ak_is, ak_as, ak_ls, ak_ii, ak_ib, ak_id, ak_lb, ak_lx, ak_lc, ak_iu, ak_i2l, ak_l2i, ak_dup, ak_dup2, ak_pop, ak_if, ak_ic, ak_sw, am_sws, ak_get, ak_puti, ak_putz, ak_putl, ak_puta, ak_iald, ak_lald, ak_iast, ak_last, ak_alen, ak_cs, ak_cv, ak_ri, ak_rz, ak_rl, ak_rv, am_ent, am_sp, am_pu, am_rs, Value.category, am_st1, am_st2, am_clr, List.getElem?_cons_zero, List.getElem?_cons_succ, List.set_cons_zero, List.set_cons_succ, List.length_cons, List.length_nil, Nat.reduceAdd, Nat.reduceLT, Nat.reduceLeDiff, Nat.zero_add, Nat.add_zero, true_and, and_true, or_true, true_or, if_true, if_false, Option.some.injEq, true_implies, false_implies, not_true_eq_false, not_false_eq_true, hm_i34, hm_f34_0, hm_p34_0, hm_f34_1, hm_f34_2, hm_p34_2, hm_f34_3, hm_f34_4, hm_f34_5, hm_f34_6, hm_p34_6, hm_f34_7, hm_f34_8, hm_f34_9, hm_f34_10, hm_p34_10, hm_f34_11, hm_f34_12, hm_f34_13, hm_f34_14, hm_f34_15, hm_f34_16, hm_p34_16, hm_f34_17, hm_p34_17, hm_f34_18, hm_p34_18, hm_f34_19, hm_p34_19, hm_f34_20, hm_p34_20, hm_f34_21, hm_p34_21, hm_f34_22, hm_p34_22, hm_f34_23, hm_p34_23, hm_f34_24, hm_p34_24, hm_f34_25, hm_p34_25, hm_f34_26, hm_f34_27, hm_f34_28, hm_p34_28, hm_f34_29, hm_p34_29, hm_f34_30, hm_f34_31, hm_f34_32, hm_p34_32, hm_f34_33, hm_f34_34, hm_f34_35, hm_f34_36, hm_f34_37, hm_f34_38, hm_a35, hm_s35, hm_l35, hm_a36, hm_s36, hm_l36, hm_a37, hm_s37, hm_l37, hm_a38, hm_s38, hm_l38, hm_a39, hm_s39, hm_l39, hm_a40, hm_s40, hm_l40, hm_a41, hm_s41, hm_l41, hm_a42, hm_s42, hm_l42, hm_a43, hm_s43, hm_l43, hm_a44, hm_s44, hm_l44, hm_a45, hm_s45, hm_l45, hm_a46, hm_s46, hm_l46, hm_a47, hm_s47, hm_l47, hm_a48, hm_s48, hm_l48, hm_a49, hm_s49, hm_l49, hm_a50, hm_s50, hm_l50, hm_a51, hm_s51, hm_l51, hm_a52, hm_s52, hm_l52, hm_a53, hm_s53, hm_l53, hm_a54, hm_s54, hm_l54, hm_a55, hm_s55, hm_l55, hm_a56, hm_s56, hm_l56]
    rw [show (nI ((MZ X).2.2.2 / 2) = (0 : Int32)) ↔ (MZ X).2.2.2 / 2 = 0 from n_eq (b := 0) (by omega) (by omega)]
    refine ⟨fun q => ?_, fun q => ?_⟩
    · exact c70 0 I2 A2 _ (by rw [if_pos (by omega)]) hS2 (by rw [hcc]; rfl) hpk2
    · rw [n_sub1 (by omega), show (8 : Int32) * nI (X.2.1.length - 1) = nI (8 * (X.2.1.length - 1)) from pk_mul 8 _]
      exact c70 (X.2.1.length - 1) I2 A2 _ (by rw [if_neg (by omega)]) hS2 (by rw [hcc]; rfl) hpk2
  rw [i8]
  refine ⟨fun _ => ?_, fun z => absurd (by rw [n_lit, n_le (by omega) (by omega)]; omega) z⟩
  rw [i9, show (nI ((MZ X).2.2.2 / 2) = (0 : Int32)) ↔ (MZ X).2.2.2 / 2 = 0 from n_eq (b := 0) (by omega) (by omega)]
  exact ⟨fun q => c42 60 (by rw [if_pos (by omega)]), fun q => c42 62 (by rw [if_neg (by omega)])⟩
theorem p_X9_first (h : RI I A T s) {i : Int32} (hQ : RQ hd (sv_first s i) s Q) : K_X9_first [.ref 34, .int i] (HM hd I A T) Q := by
  refine ⟨Nat.le_of_ble_eq_true rfl, fun G hG => ?_⟩
  obtain ⟨g0, g53⟩ := hG
  have t0 : (0 : Int32).toInt = 0 := rfl
  have t1 : (-1 : Int32).toInt = -1 := rfl
  unfold sv_first at hQ
  refine g0 _ _ _ ?_
  simp only [B_X9_first_0, am_us, am_un, Nat.reduceEqDiff, not_false_eq_true, ak_c, ak_il, ak_ll, ak_al, ak_is, ak_as, ak_ls, ak_ii, ak_ib, ak_id, ak_lb, ak_lx, ak_lc, ak_iu, ak_i2l, ak_l2i, ak_dup, ak_dup2, ak_pop, ak_if, ak_ic, ak_sw, am_sws, ak_get, ak_puti, ak_putz, ak_putl, ak_puta, ak_iald, ak_lald, ak_iast, ak_last, ak_alen, ak_cs, ak_cv, ak_ri, ak_rz, ak_rl, ak_rv, am_ent, am_sp, am_pu, am_rs, Value.category, am_st1, am_st2, am_clr, List.getElem?_cons_zero, List.getElem?_cons_succ, List.set_cons_zero, List.set_cons_succ, List.length_cons, List.length_nil, Nat.reduceAdd, Nat.reduceLT, Nat.reduceLeDiff, Nat.zero_add, Nat.add_zero, true_and, and_true, or_true, true_or, if_true, if_false, Option.some.injEq, true_implies, false_implies, not_true_eq_false, not_false_eq_true, hm_i34, hm_f34_0, hm_p34_0, hm_f34_1, hm_f34_2, hm_p34_2, hm_f34_3, hm_f34_4, hm_f34_5, hm_f34_6, hm_p34_6, hm_f34_7, hm_f34_8, hm_f34_9, hm_f34_10, hm_p34_10, hm_f34_11, hm_f34_12, hm_f34_13, hm_f34_14, hm_f34_15, hm_f34_16, hm_p34_16, hm_f34_17, hm_p34_17, hm_f34_18, hm_p34_18, hm_f34_19, hm_p34_19, hm_f34_20, hm_p34_20, hm_f34_21, hm_p34_21, hm_f34_22, hm_p34_22, hm_f34_23, hm_p34_23, hm_f34_24, hm_p34_24, hm_f34_25, hm_p34_25, hm_f34_26, hm_f34_27, hm_f34_28, hm_p34_28, hm_f34_29, hm_p34_29, hm_f34_30, hm_f34_31, hm_f34_32, hm_p34_32, hm_f34_33, hm_f34_34, hm_f34_35, hm_f34_36, hm_f34_37, hm_f34_38, hm_a35, hm_s35, hm_l35, hm_a36, hm_s36, hm_l36, hm_a37, hm_s37, hm_l37, hm_a38, hm_s38, hm_l38, hm_a39, hm_s39, hm_l39, hm_a40, hm_s40, hm_l40, hm_a41, hm_s41, hm_l41, hm_a42, hm_s42, hm_l42, hm_a43, hm_s43, hm_l43, hm_a44, hm_s44, hm_l44, hm_a45, hm_s45, hm_l45, hm_a46, hm_s46, hm_l46, hm_a47, hm_s47, hm_l47, hm_a48, hm_s48, hm_l48, hm_a49, hm_s49, hm_l49, hm_a50, hm_s50, hm_l50, hm_a51, hm_s51, hm_l51, hm_a52, hm_s52, hm_l52, hm_a53, hm_s53, hm_l53, hm_a54, hm_s54, hm_l54, hm_a55, hm_s55, hm_l55, hm_a56, hm_s56, hm_l56]
  refine ⟨fun q => ?_, fun q => ?_⟩
  rotate_left
  · rw [if_pos (by rw [Int32.lt_iff_toInt_lt]; rw [Int32.le_iff_toInt_le] at q; omega)] at hQ
    exact hQ.now h
  rw [if_neg (by rw [Int32.lt_iff_toInt_lt]; rw [Int32.le_iff_toInt_le] at q; omega)] at hQ
  refine p_X9_saysAll h.2 (fun I2 A2 T2 I1 A1 hf hX1 hI hA hl => ?_)
  have hfin : RI I2 A2 T2 s := ⟨h.1.mv ((hI 0 (by decide)).trans (hf.1 0 (by decide))) ((hA 0 (by decide)).trans (hf.2 0 (by decide))), hX1.mv hI hA⟩
  have c53 : ∀ v, RQ hd v s Q → G 53 [some (.ref 34), some (.int i)] [.int v] (HM hd I2 A2 T2) := by
    intro v hv
    refine g53 _ _ _ ?_
    simp only [B_X9_first_53, am_us, am_un, Nat.reduceEqDiff, not_false_eq_true, ak_c, ak_il, ak_ll, ak_al, ak_is, ak_as, ak_ls, ak_ii, ak_ib, ak_id, ak_lb, ak_lx, ak_lc, ak_iu, ak_i2l, ak_l2i, ak_dup, ak_dup2, ak_pop, ak_if, ak_ic, ak_sw, am_sws, ak_get, ak_puti, ak_putz, ak_putl, ak_puta, ak_iald, ak_lald, ak_iast, ak_last, ak_alen, ak_cs, ak_cv, ak_ri, ak_rz, ak_rl, ak_rv, am_ent, am_sp, am_pu, am_rs, Value.category, am_st1, am_st2, am_clr, List.getElem?_cons_zero, List.getElem?_cons_succ, List.set_cons_zero, List.set_cons_succ, List.length_cons, List.length_nil, Nat.reduceAdd, Nat.reduceLT, Nat.reduceLeDiff, Nat.zero_add, Nat.add_zero, true_and, and_true, or_true, true_or, if_true, if_false, Option.some.injEq, true_implies, false_implies, not_true_eq_false, not_false_eq_true, hm_i34, hm_f34_0, hm_p34_0, hm_f34_1, hm_f34_2, hm_p34_2, hm_f34_3, hm_f34_4, hm_f34_5, hm_f34_6, hm_p34_6, hm_f34_7, hm_f34_8, hm_f34_9, hm_f34_10, hm_p34_10, hm_f34_11, hm_f34_12, hm_f34_13, hm_f34_14, hm_f34_15, hm_f34_16, hm_p34_16, hm_f34_17, hm_p34_17, hm_f34_18, hm_p34_18, hm_f34_19, hm_p34_19, hm_f34_20, hm_p34_20, hm_f34_21, hm_p34_21, hm_f34_22, hm_p34_22, hm_f34_23, hm_p34_23, hm_f34_24, hm_p34_24, hm_f34_25, hm_p34_25, hm_f34_26, hm_f34_27, hm_f34_28, hm_p34_28, hm_f34_29, hm_p34_29, hm_f34_30, hm_f34_31, hm_f34_32, hm_p34_32, hm_f34_33, hm_f34_34, hm_f34_35, hm_f34_36, hm_f34_37, hm_f34_38, hm_a35, hm_s35, hm_l35, hm_a36, hm_s36, hm_l36, hm_a37, hm_s37, hm_l37, hm_a38, hm_s38, hm_l38, hm_a39, hm_s39, hm_l39, hm_a40, hm_s40, hm_l40, hm_a41, hm_s41, hm_l41, hm_a42, hm_s42, hm_l42, hm_a43, hm_s43, hm_l43, hm_a44, hm_s44, hm_l44, hm_a45, hm_s45, hm_l45, hm_a46, hm_s46, hm_l46, hm_a47, hm_s47, hm_l47, hm_a48, hm_s48, hm_l48, hm_a49, hm_s49, hm_l49, hm_a50, hm_s50, hm_l50, hm_a51, hm_s51, hm_l51, hm_a52, hm_s52, hm_l52, hm_a53, hm_s53, hm_l53, hm_a54, hm_s54, hm_l54, hm_a55, hm_s55, hm_l55, hm_a56, hm_s56, hm_l56]
    exact hv.now hfin
  simp only [hl.1, am_us, am_un, Nat.reduceEqDiff, not_false_eq_true, ak_c, ak_il, ak_ll, ak_al, ak_is, ak_as, ak_ls, ak_ii, ak_ib, ak_id, ak_lb, ak_lx, ak_lc, ak_iu, ak_i2l, ak_l2i, ak_dup, ak_dup2, ak_pop, ak_if, ak_ic, ak_sw, am_sws, ak_get, ak_puti, ak_putz, ak_putl, ak_puta, ak_iald, ak_lald, ak_iast, ak_last, ak_alen, ak_cs, ak_cv, ak_ri, ak_rz, ak_rl, ak_rv, am_ent, am_sp, am_pu, am_rs, Value.category, am_st1, am_st2, am_clr, List.getElem?_cons_zero, List.getElem?_cons_succ, List.set_cons_zero, List.set_cons_succ, List.length_cons, List.length_nil, Nat.reduceAdd, Nat.reduceLT, Nat.reduceLeDiff, Nat.zero_add, Nat.add_zero, true_and, and_true, or_true, true_or, if_true, if_false, Option.some.injEq, true_implies, false_implies, not_true_eq_false, not_false_eq_true, hm_i34, hm_f34_0, hm_p34_0, hm_f34_1, hm_f34_2, hm_p34_2, hm_f34_3, hm_f34_4, hm_f34_5, hm_f34_6, hm_p34_6, hm_f34_7, hm_f34_8, hm_f34_9, hm_f34_10, hm_p34_10, hm_f34_11, hm_f34_12, hm_f34_13, hm_f34_14, hm_f34_15, hm_f34_16, hm_p34_16, hm_f34_17, hm_p34_17, hm_f34_18, hm_p34_18, hm_f34_19, hm_p34_19, hm_f34_20, hm_p34_20, hm_f34_21, hm_p34_21, hm_f34_22, hm_p34_22, hm_f34_23, hm_p34_23, hm_f34_24, hm_p34_24, hm_f34_25, hm_p34_25, hm_f34_26, hm_f34_27, hm_f34_28, hm_p34_28, hm_f34_29, hm_p34_29, hm_f34_30, hm_f34_31, hm_f34_32, hm_p34_32, hm_f34_33, hm_f34_34, hm_f34_35, hm_f34_36, hm_f34_37, hm_f34_38, hm_a35, hm_s35, hm_l35, hm_a36, hm_s36, hm_l36, hm_a37, hm_s37, hm_l37, hm_a38, hm_s38, hm_l38, hm_a39, hm_s39, hm_l39, hm_a40, hm_s40, hm_l40, hm_a41, hm_s41, hm_l41, hm_a42, hm_s42, hm_l42, hm_a43, hm_s43, hm_l43, hm_a44, hm_s44, hm_l44, hm_a45, hm_s45, hm_l45, hm_a46, hm_s46, hm_l46, hm_a47, hm_s47, hm_l47, hm_a48, hm_s48, hm_l48, hm_a49, hm_s49, hm_l49, hm_a50, hm_s50, hm_l50, hm_a51, hm_s51, hm_l51, hm_a52, hm_s52, hm_l52, hm_a53, hm_s53, hm_l53, hm_a54, hm_s54, hm_l54, hm_a55, hm_s55, hm_l55, hm_a56, hm_s56, hm_l56]
  by_cases hz : (MZ (sX s none)).1 = 0
  · rw [if_pos hz] at hQ
    have e0 : (ML (sX s none)).length = 0 := by unfold ML; rw [if_pos hz]; rfl
    rw [e0]
    exact ⟨fun _ => c53 _ hQ, fun z => absurd rfl z⟩
  rw [if_neg hz] at hQ
  have hlen := ML_len9 (ly_of9 hX1.1) hX1.2.1 hz
  have hpos : 1 ≤ (ML (sX s none)).length := by
    unfold ML
    rw [if_neg hz, List.length_cons]
    omega
  have tl : (nI (ML (sX s none)).length).toInt = (ML (sX s none)).length := nI_toInt (by omega)
  refine ⟨fun z => absurd z (by rw [show (0 : Int32) = nI 0 from rfl, n_eq (by omega) (by omega)]; omega), fun _ => ⟨fun q2 => ⟨fun q3 => ?_, fun q3 => ?_⟩, fun q2 => ?_⟩⟩
  · rw [if_neg (fun z => by rw [z] at q2; exact absurd q2 (by decide)), sp_ix_no (Or.inr q3)] at hQ
    exact c53 _ hQ
  · rw [if_neg (fun z => by rw [z] at q2; exact absurd q2 (by decide))] at hQ
    obtain ⟨k, hk, rfl⟩ := (sp_ix_c i (n := (ML (sX s none)).length) (by omega)).elim (fun z => z.elim (fun y => absurd y (by rw [Int32.lt_iff_toInt_lt]; rw [Int32.le_iff_toInt_le] at q2; omega)) (fun y => absurd y q3)) id
    rw [sp_ix_yes hk (by omega)] at hQ
    simp only at hQ
    have hx : (ML (sX s none))[k]? = some (ML (sX s none))[k] := List.getElem?_eq_getElem hk
    rw [n_cl (by omega), hl.2 k _ hx]
    refine ⟨vp_in_nI (by omega) (by omega), c53 _ ?_⟩
    rw [List.getD_eq_getElem?_getD, hx, Option.getD_some] at hQ
    exact hQ
  · have : i = -1 := Int32.toInt_inj.mp (by rw [Int32.le_iff_toInt_le] at q q2; omega)
    rw [if_pos this] at hQ
    exact c53 _ hQ
end RF32
