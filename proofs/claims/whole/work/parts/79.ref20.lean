/-! the reference: public methods that look and write -/
section RF20
variable {hd : Nat → am_C} {I I' : Nat → Int32} {A A' : Nat → Nat → Int32} {T T' : Nat → Int64} {Q : am_Q} {h : am_H} {X : MX} {b : Bool} {s : MS}
theorem rc_T.app9 {n : Nat} {cx : Nat → Nat} (hT : rc_T I A n cx) {c : Nat} (hn : n < 200) (hc : c < 127) (hc2 : 32 ≤ c) : rc_T (am_u I 0 (nI (n + 1))) (am_u A 0 (upd (A 0) n (nI c))) (n + 1) (fun m => if m = n then c else cx m) := hT.app hn hc
theorem p_X9_write (h : RI I A T s) {c : Int32} (hQ : RQ hd (sv_write s c).1 (sv_write s c).2 Q) : K_X9_write [.ref 34, .int c] (HM hd I A T) Q := by
  refine ⟨Nat.le_of_ble_eq_true rfl, fun G hG => ?_⟩
  obtain ⟨g0, g12⟩ := hG
  have hT := h.1
  have hn := hT.1.1
  unfold sv_write at hQ
  have bad : (c < 32 ∨ ¬ c ≤ 126) → G 12 [some (.ref 34), some (.int c)] [] (HM hd I A T) := by
    intro hb
    refine g12 _ _ _ ?_
    simp only [B_X9_write_12, am_us, am_un, Nat.reduceEqDiff, not_false_eq_true, ak_c, ak_il, ak_ll, ak_al, ak_is, ak_as, ak_ls, ak_ii, ak_ib, ak_id, ak_lb, ak_lx, ak_lc, ak_iu, ak_i2l, ak_l2i, ak_dup, ak_dup2, ak_pop, ak_if, ak_ic, ak_sw, am_sws, ak_get, ak_puti, ak_putz, ak_putl, ak_puta, ak_iald, ak_lald, ak_iast, ak_last, ak_alen, ak_cs, ak_cv, ak_ri, ak_rz, ak_rl, ak_rv, am_ent, am_sp, am_pu, am_rs, Value.category, am_st1, am_st2, am_clr, List.getElem?_cons_zero, List.getElem?_cons_succ, List.set_cons_zero, List.set_cons_succ, List.length_cons, List.length_nil, Nat.reduceAdd, Nat.reduceLT, Nat.reduceLeDiff, Nat.zero_add, Nat.add_zero, true_and, and_true, or_true, true_or, if_true, if_false, Option.some.injEq, true_implies, false_implies, not_true_eq_false, not_false_eq_true, hm_i34, hm_f34_0, hm_p34_0, hm_f34_1, hm_f34_2, hm_p34_2, hm_f34_3, hm_f34_4, hm_f34_5, hm_f34_6, hm_p34_6, hm_f34_7, hm_f34_8, hm_f34_9, hm_f34_10, hm_p34_10, hm_f34_11, hm_f34_12, hm_f34_13, hm_f34_14, hm_f34_15, hm_f34_16, hm_p34_16, hm_f34_17, hm_p34_17, hm_f34_18, hm_p34_18, hm_f34_19, hm_p34_19, hm_f34_20, hm_p34_20, hm_f34_21, hm_p34_21, hm_f34_22, hm_p34_22, hm_f34_23, hm_p34_23, hm_f34_24, hm_p34_24, hm_f34_25, hm_p34_25, hm_f34_26, hm_f34_27, hm_f34_28, hm_p34_28, hm_f34_29, hm_p34_29, hm_f34_30, hm_f34_31, hm_f34_32, hm_p34_32, hm_f34_33, hm_f34_34, hm_f34_35, hm_f34_36, hm_f34_37, hm_f34_38, hm_a35, hm_s35, hm_l35, hm_a36, hm_s36, hm_l36, hm_a37, hm_s37, hm_l37, hm_a38, hm_s38, hm_l38, hm_a39, hm_s39, hm_l39, hm_a40, hm_s40, hm_l40, hm_a41, hm_s41, hm_l41, hm_a42, hm_s42, hm_l42, hm_a43, hm_s43, hm_l43, hm_a44, hm_s44, hm_l44, hm_a45, hm_s45, hm_l45, hm_a46, hm_s46, hm_l46, hm_a47, hm_s47, hm_l47, hm_a48, hm_s48, hm_l48, hm_a49, hm_s49, hm_l49, hm_a50, hm_s50, hm_l50, hm_a51, hm_s51, hm_l51, hm_a52, hm_s52, hm_l52, hm_a53, hm_s53, hm_l53, hm_a54, hm_s54, hm_l54, hm_a55, hm_s55, hm_l55, hm_a56, hm_s56, hm_l56]
    rcases sp_ix_c (c - 32) (n := 95) (by decide) with h2 | ⟨k, hk, he⟩
    · rw [sp_ix_no h2] at hQ
      exact hQ.now h
    · exfalso
      have e : c = nI (k + 32) := by
        have : c = c - 32 + 32 := (Int32.sub_add_cancel c 32).symm
        rw [this, he]
        exact nI_add k 32
      rw [e] at hb
      change nI (k + 32) < nI 32 ∨ ¬ nI (k + 32) ≤ nI 126 at hb
      rw [n_lt (by omega) (by omega), n_le (by omega) (by omega)] at hb
      omega
  refine g0 _ _ _ ?_
  simp only [B_X9_write_0, hT.2.1, am_us, am_un, Nat.reduceEqDiff, not_false_eq_true, ak_c, ak_il, ak_ll, ak_al, ak_is, ak_as, ak_ls, ak_ii, ak_ib, ak_id, ak_lb, ak_lx, ak_lc, ak_iu, ak_i2l, ak_l2i, ak_dup, ak_dup2, ak_pop, ak_if, ak_ic, ak_sw, am_sws, ak_get, ak_puti, ak_putz, ak_putl, ak_puta, ak_iald, ak_lald, ak_iast, ak_last, ak_alen, ak_cs, ak_cv, ak_ri, ak_rz, ak_rl, ak_rv, am_ent, am_sp, am_pu, am_rs, Value.category, am_st1, am_st2, am_clr, List.getElem?_cons_zero, List.getElem?_cons_succ, List.set_cons_zero, List.set_cons_succ, List.length_cons, List.length_nil, Nat.reduceAdd, Nat.reduceLT, Nat.reduceLeDiff, Nat.zero_add, Nat.add_zero, true_and, and_true, or_true, true_or, if_true, if_false, Option.some.injEq, true_implies, false_implies, not_true_eq_false, not_false_eq_true, hm_i34, hm_f34_0, hm_p34_0, hm_f34_1, hm_f34_2, hm_p34_2, hm_f34_3, hm_f34_4, hm_f34_5, hm_f34_6, hm_p34_6, hm_f34_7, hm_f34_8, hm_f34_9, hm_f34_10, hm_p34_10, hm_f34_11, hm_f34_12, hm_f34_13, hm_f34_14, hm_f34_15, hm_f34_16, hm_p34_16, hm_f34_17, hm_p34_17, hm_f34_18, hm_p34_18, hm_f34_19, hm_p34_19, hm_f34_20, hm_p34_20, hm_f34_21, hm_p34_21, hm_f34_22, hm_p34_22, hm_f34_23, hm_p34_23, hm_f34_24, hm_p34_24, hm_f34_25, hm_p34_25, hm_f34_26, hm_f34_27, hm_f34_28, hm_p34_28, hm_f34_29, hm_p34_29, hm_f34_30, hm_f34_31, hm_f34_32, hm_p34_32, hm_f34_33, hm_f34_34, hm_f34_35, hm_f34_36, hm_f34_37, hm_f34_38, hm_a35, hm_s35, hm_l35, hm_a36, hm_s36, hm_l36, hm_a37, hm_s37, hm_l37, hm_a38, hm_s38, hm_l38, hm_a39, hm_s39, hm_l39, hm_a40, hm_s40, hm_l40, hm_a41, hm_s41, hm_l41, hm_a42, hm_s42, hm_l42, hm_a43, hm_s43, hm_l43, hm_a44, hm_s44, hm_l44, hm_a45, hm_s45, hm_l45, hm_a46, hm_s46, hm_l46, hm_a47, hm_s47, hm_l47, hm_a48, hm_s48, hm_l48, hm_a49, hm_s49, hm_l49, hm_a50, hm_s50, hm_l50, hm_a51, hm_s51, hm_l51, hm_a52, hm_s52, hm_l52, hm_a53, hm_s53, hm_l53, hm_a54, hm_s54, hm_l54, hm_a55, hm_s55, hm_l55, hm_a56, hm_s56, hm_l56]
  refine ⟨fun q => bad (Or.inl q), fun q1 => ⟨fun q2 => ?_, fun q => bad (Or.inr q)⟩⟩
  obtain ⟨k, hk, he⟩ : ∃ k, k < 127 ∧ c = nI k := by
    refine vp_in_of (vp_in_iff.mpr ?_) (by decide)
    rw [Int32.lt_iff_toInt_lt] at q1
    rw [Int32.le_iff_toInt_le] at q2
    have e1 : (32 : Int32).toInt = 32 := rfl
    have e2 : (126 : Int32).toInt = 126 := rfl
    omega
  subst he
  change ¬ nI k < nI 32 at q1
  rw [n_lt (by omega) (by omega)] at q1
  have e : nI k - 32 = nI (k - 32) := n_sub (b := 32) (by omega)
  rw [e, sp_ix_yes (by omega) (by decide)] at hQ
  simp only at hQ
  refine ⟨fun q => ?_, fun q => ?_⟩
  · rw [n_lit, n_eq (by omega) (by omega)] at q
    rw [if_neg (by omega)] at hQ
    exact hQ.now h
  · rw [n_lit, n_eq (by omega) (by omega)] at q
    rw [if_pos (by omega), show 32 + (k - 32) = k by omega] at hQ
    rw [n_cl (by omega), n_add1]
    refine ⟨vp_in_nI (by omega) (by omega), hQ.now ⟨hT.app9 (by omega) (by omega) (by omega), h.2.1.mv (am_un (by decide)) (am_un (by decide)) (am_un (by decide)) (fun m hm => ?_), h.2.2.1, h.2.2.2.mv (am_un (by decide)) (am_un (by decide))⟩⟩
    sorry
theorem p_X9_wipe (h : RI I A T s) (hQ : RQ hd (sv_wipe s).1 (sv_wipe s).2 Q) : K_X9_wipe [.ref 34] (HM hd I A T) Q := by
  refine ⟨Nat.le_of_ble_eq_true rfl, fun G hG => hG _ _ _ ?_⟩
  simp only [B_X9_wipe_0, h.1.2.1, am_us, am_un, Nat.reduceEqDiff, not_false_eq_true, ak_c, ak_il, ak_ll, ak_al, ak_is, ak_as, ak_ls, ak_ii, ak_ib, ak_id, ak_lb, ak_lx, ak_lc, ak_iu, ak_i2l, ak_l2i, ak_dup, ak_dup2, ak_pop, ak_if, ak_ic, ak_sw, am_sws, ak_get, ak_puti, ak_putz, ak_putl, ak_puta, ak_iald, ak_lald, ak_iast, ak_last, ak_alen, ak_cs, ak_cv, ak_ri, ak_rz, ak_rl, ak_rv, am_ent, am_sp, am_pu, am_rs, Value.category, am_st1, am_st2, am_clr, List.getElem?_cons_zero, List.getElem?_cons_succ, List.set_cons_zero, List.set_cons_succ, List.length_cons, List.length_nil, Nat.reduceAdd, Nat.reduceLT, Nat.reduceLeDiff, Nat.zero_add, Nat.add_zero, true_and, and_true, or_true, true_or, if_true, if_false, Option.some.injEq, true_implies, false_implies, not_true_eq_false, not_false_eq_true, hm_i34, hm_f34_0, hm_p34_0, hm_f34_1, hm_f34_2, hm_p34_2, hm_f34_3, hm_f34_4, hm_f34_5, hm_f34_6, hm_p34_6, hm_f34_7, hm_f34_8, hm_f34_9, hm_f34_10, hm_p34_10, hm_f34_11, hm_f34_12, hm_f34_13, hm_f34_14, hm_f34_15, hm_f34_16, hm_p34_16, hm_f34_17, hm_p34_17, hm_f34_18, hm_p34_18, hm_f34_19, hm_p34_19, hm_f34_20, hm_p34_20, hm_f34_21, hm_p34_21, hm_f34_22, hm_p34_22, hm_f34_23, hm_p34_23, hm_f34_24, hm_p34_24, hm_f34_25, hm_p34_25, hm_f34_26, hm_f34_27, hm_f34_28, hm_p34_28, hm_f34_29, hm_p34_29, hm_f34_30, hm_f34_31, hm_f34_32, hm_p34_32, hm_f34_33, hm_f34_34, hm_f34_35, hm_f34_36, hm_f34_37, hm_f34_38, hm_a35, hm_s35, hm_l35, hm_a36, hm_s36, hm_l36, hm_a37, hm_s37, hm_l37, hm_a38, hm_s38, hm_l38, hm_a39, hm_s39, hm_l39, hm_a40, hm_s40, hm_l40, hm_a41, hm_s41, hm_l41, hm_a42, hm_s42, hm_l42, hm_a43, hm_s43, hm_l43, hm_a44, hm_s44, hm_l44, hm_a45, hm_s45, hm_l45, hm_a46, hm_s46, hm_l46, hm_a47, hm_s47, hm_l47, hm_a48, hm_s48, hm_l48, hm_a49, hm_s49, hm_l49, hm_a50, hm_s50, hm_l50, hm_a51, hm_s51, hm_l51, hm_a52, hm_s52, hm_l52, hm_a53, hm_s53, hm_l53, hm_a54, hm_s54, hm_l54, hm_a55, hm_s55, hm_l55, hm_a56, hm_s56, hm_l56]
  exact hQ.now ⟨⟨⟨Nat.zero_le _, fun _ _ => rfl, fun k hk => absurd hk (by omega)⟩, am_us _ _ _, fun k hk => absurd hk (by omega)⟩, h.2.1.mv (am_un (by decide)) (am_un (by decide)) (am_un (by decide)) (fun _ _ => rfl), h.2.2.1, h.2.2.2.mv (am_un (by decide)) (am_un (by decide))⟩
end RF20
