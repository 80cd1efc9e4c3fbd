/-! the reference: counts; an entry that no word of the clue is, changes nothing -/
section SM
variable {bk : List ME} {cl : List (List Nat)} {g : List Nat} {wt : Nat → Nat} {e : Nat} {x : ME}
theorem mk_same (hx : bk[e]? = some x) (hn : ¬ x.1 ∈ cl) (w t : Nat) : mx_mk (bk, cl, g, wt, some e) w t = mx_mk (bk, cl, g, wt, none) w t := by
  unfold mx_mk
  refine List.any_congr rfl (fun k => ?_)
  by_cases hk : k = e
  · subst hk
    simp only [hx]
    have : ¬ cl[w]? = some x.1 := fun z => hn (List.mem_of_getElem? z)
    simp [this]
  · have h1 : ¬ (some e : Option Nat) = some k := fun z => hk (Option.some.inj z).symm
    have h2 : ¬ (none : Option Nat) = some k := fun z => by cases z
    simp only [h1, h2]
theorem gd_ne (hn : ¬ x.1 ∈ cl) (h1 : 1 ≤ x.1.length) (i : Nat) : ¬ cl.getD i [] = x.1 := by
  intro z
  rw [List.getD_eq_getElem?_getD] at z
  cases hc : cl[i]? with
  | none =>
    rw [hc] at z
    rw [← z] at h1
    exact absurd h1 (by decide)
  | some y =>
    rw [hc] at z
    exact hn (by rw [← z]; exact List.mem_of_getElem? hc)
theorem sy_same (hx : bk[e]? = some x) (hn : ¬ x.1 ∈ cl) (h1 : 1 ≤ x.1.length) (i : Nat) (l : List Nat) : mx_sy (bk, cl, g, wt, some e) (cl.getD i []) l = mx_sy (bk, cl, g, wt, none) (cl.getD i []) l := by
  unfold mx_sy
  simp only
  cases hi : bk.idxOf? (cl.getD i [], l, 0) with
  | none => rfl
  | some e0 =>
    have h0 : bk[e0]? = some (cl.getD i [], l, 0) := by
      obtain ⟨h1, h2, -⟩ := List.findIdx?_eq_some_iff_getElem.mp hi
      rw [List.getElem?_eq_getElem h1]
      simpa using h2
    have hne : ¬ e = e0 := fun z => by
      rw [z, h0] at hx
      cases hx
      exact gd_ne hn h1 i rfl
    have h2 : ¬ (some e : Option Nat) = some e0 := fun z => hne (Option.some.inj z)
    have h3 : ¬ (none : Option Nat) = some e0 := fun z => by cases z
    simp only [h2, h3]
theorem te_same (hx : bk[e]? = some x) (hn : ¬ x.1 ∈ cl) (h1 : 1 ≤ x.1.length) (s i p k : Nat) : mu_Te (bk, cl, g, wt, some e) s i p k = mu_Te (bk, cl, g, wt, none) s i p k := by
  unfold mu_Te
  by_cases hk : k = e
  · subst hk
    simp only [hx]
    have := gd_ne hn h1 (i + 1)
    rw [if_neg (fun z => this z.2.1), if_neg (fun z => this z.2.1)]
  · have h1 : ¬ (some e : Option Nat) = some k := fun z => hk (Option.some.inj z).symm
    have h2 : ¬ (none : Option Nat) = some k := fun z => by cases z
    simp only [h1, h2]
    rfl
theorem us_same (hx : bk[e]? = some x) (hn : ¬ x.1 ∈ cl) (h1 : 1 ≤ x.1.length) (P : Nat → Nat → Nat → AC) (i j p : Nat) : mu_us (bk, cl, g, wt, some e) P i j p = mu_us (bk, cl, g, wt, none) P i j p := by
  have mk := mk_same (g := g) (wt := wt) hx hn
  have e1 : mu_1 (bk, cl, g, wt, some e) i p = mu_1 (bk, cl, g, wt, none) i p := by
    unfold mu_1
    rw [show ((bk, cl, g, wt, some e) : MX).2.1.getD i [] = cl.getD i [] from rfl, sy_same hx hn h1]
    rfl
  have eR : mu_R (bk, cl, g, wt, some e) P i j p = mu_R (bk, cl, g, wt, none) P i j p := by
    unfold mu_R
    rw [mk, mk]
  have eA : mu_A (bk, cl, g, wt, some e) i j p = mu_A (bk, cl, g, wt, none) i j p := by
    unfold mu_A
    rw [mk, mk]
    rfl
  have eC : ∀ s, mu_C (bk, cl, g, wt, some e) P s i j p = mu_C (bk, cl, g, wt, none) P s i j p := by
    intro s
    unfold mu_C
    congr 1
    funext k
    rw [mk]
    rfl
  have eH : mu_H (bk, cl, g, wt, some e) i j p = mu_H (bk, cl, g, wt, none) i j p := by
    unfold mu_H
    rw [mk]
    rfl
  have eT : ∀ s, mu_T (bk, cl, g, wt, some e) s i j p = mu_T (bk, cl, g, wt, none) s i j p := by
    intro s
    unfold mu_T
    rw [mk, show mu_Te (bk, cl, g, wt, some e) s i p = mu_Te (bk, cl, g, wt, none) s i p from funext (te_same hx hn h1 s i p)]
    rfl
  have eI : mu_I (bk, cl, g, wt, some e) i j p = mu_I (bk, cl, g, wt, none) i j p := by
    unfold mu_I
    rw [mk]
    rfl
  unfold mu_us
  rw [e1, eR, eA, eC, eC, eH, eT, eT, eI]
theorem pp_same (hx : bk[e]? = some x) (hn : ¬ x.1 ∈ cl) (h1 : 1 ≤ x.1.length) : ∀ d, mx_PP (bk, cl, g, wt, some e) d = mx_PP (bk, cl, g, wt, none) d
  | 0 => rfl
  | d + 1 => by
    have ih := pp_same hx hn h1 d
    have eU : mx_U (bk, cl, g, wt, some e) (mx_PP (bk, cl, g, wt, some e) d) = mx_U (bk, cl, g, wt, none) (mx_PP (bk, cl, g, wt, none) d) := by
      funext i j p
      unfold mx_U
      rw [ih, us_same hx hn h1]
    funext i j p
    show (mu_ps _ (mx_U (bk, cl, g, wt, some e) (mx_PP (bk, cl, g, wt, some e) d)) (mx_PP (bk, cl, g, wt, some e) d) i j p).foldl ac_ad ac_0 = (mu_ps _ (mx_U (bk, cl, g, wt, none) (mx_PP (bk, cl, g, wt, none) d)) (mx_PP (bk, cl, g, wt, none) d) i j p).foldl ac_ad ac_0
    rw [eU, ih]
    rfl
theorem mz_same (hx : bk[e]? = some x) (hn : ¬ x.1 ∈ cl) (h1 : 1 ≤ x.1.length) : MZ (bk, cl, g, wt, some e) = MZ (bk, cl, g, wt, none) := by
  unfold MZ
  congr 1
  congr 1
  funext c
  have e1 : mz_po (bk, cl, g, wt, some e) c = mz_po (bk, cl, g, wt, none) c := by
    unfold mz_po
    rw [mk_same hx hn, show mz_d (bk, cl, g, wt, some e) c = cl.getD (if c < 2 then 0 else cl.length - 1) [] from rfl, sy_same hx hn h1]
    rfl
  have e2 : mz_q (bk, cl, g, wt, some e) c = mz_q (bk, cl, g, wt, none) c := by
    unfold mz_q MP
    rw [pp_same hx hn h1]
    rfl
  have e3 : mz_it (bk, cl, g, wt, some e) c = mz_it (bk, cl, g, wt, none) c := by
    unfold mz_it
    rw [e2]
  rw [e1, e3]
end SM
section RF23
variable {hd : Nat → am_C} {I I' : Nat → Int32} {A A' : Nat → Nat → Int32} {T T' : Nat → Int64} {Q : am_Q} {h : am_H} {X : MX} {b : Bool} {s : MS}
theorem mq_n_eq (hB : mb_B s.2.2.1) {e : Nat} (he : e < s.2.2.1.length) : mq_n s e = decide ((MZ (sX s (some e))).1 < (MZ (sX s none)).1) := by
  have hx : s.2.2.1[e]? = some s.2.2.1[e] := List.getElem?_eq_getElem he
  have hxE := hB.2.1 _ (List.mem_of_getElem? hx)
  generalize s.2.2.1[e] = x at hx hxE
  unfold mq_n mq_w
  rw [hx]
  simp only
  by_cases hm : x.1 ∈ s.2.2.2.1
  · rw [decide_eq_true hm, Bool.true_and]
  · have : MZ (sX s (some e)) = MZ (sX s none) := mz_same hx hm hxE.2.1.1
    rw [this, decide_eq_false (Nat.lt_irrefl _), Bool.and_false]
theorem p_X9_count (h : RI I A T s) (hbd : (MZ (sX s none)).1 ≤ 1000000) {w : Int32} (hQ : RQ hd (sv_count s w) s Q) : K_X9_count [.ref 34, .int w] (HM hd I A T) Q := by
  refine ⟨Nat.le_of_ble_eq_true rfl, fun G hG => ?_⟩
  obtain ⟨g0, g82, g107, g123, g149⟩ := hG
  have hB : qr_B I A s.2.2.1 := h.2.1.1
  have h24 := hB.1.1
  have hC : qr_C I A s.2.2.2.1 := h.2.1.2.1
  have hgl : A 8 0 = nI s.2.2.2.2.1.length := h.2.1.2.2.2.1.1.1
  have l82 : ∀ r e (I : Nat → Int32) (A : Nat → Nat → Int32) (T : Nat → Int64) (x5 : Option Value), e + r = s.2.2.1.length → RI I A T s → RQ hd (nI ((List.range s.2.2.1.length).filter (mq_n s)).length) s Q → G 82 [some (.ref 34), some (.int w), some (.int (sv_lim (MZ (sX s none)).1)), some (.int (nI ((List.range e).filter (mq_n s)).length)), some (.int (nI e)), x5] [] (HM hd I A T) := by
    intro r
    induction r with
    | zero =>
      intro e I A T x5 he h hQ
      have hB : qr_B I A s.2.2.1 := h.2.1.1
      obtain rfl : e = s.2.2.1.length := by omega
      refine g82 _ _ _ ?_
      simp only [B_X9_count_82, hB.2.1, am_us, am_un, Nat.reduceEqDiff, not_false_eq_true, ak_c, ak_il, ak_ll, ak_al, ak_is, ak_as, ak_ls, ak_ii, ak_ib, ak_id, ak_lb, ak_lx, ak_lc, ak_iu, ak_i2l, ak_l2i, ak_dup, ak_dup2, ak_pop, ak_if, ak_ic, ak_sw, am_sws, ak_get, ak_puti, ak_putz, ak_putl, ak_puta, ak_iald, ak_lald, ak_iast, ak_last, ak_alen, ak_cs, ak_cv, ak_ri, ak_rz, ak_rl, ak_rv, am_ent, am_sp, am_pu, am_rs, Value.category, am_st1, am_st2, am_clr, List.getElem?_cons_zero, List.getElem?_cons_succ, List.set_cons_zero, List.set_cons_succ, List.length_cons, List.length_nil, Nat.reduceAdd, Nat.reduceLT, Nat.reduceLeDiff, Nat.zero_add, Nat.add_zero, true_and, and_true, or_true, true_or, if_true, if_false, Option.some.injEq, true_implies, false_implies, not_true_eq_false, not_false_eq_true, hm_i34, hm_f34_0, hm_p34_0, hm_f34_1, hm_f34_2, hm_p34_2, hm_f34_3, hm_f34_4, hm_f34_5, hm_f34_6, hm_p34_6, hm_f34_7, hm_f34_8, hm_f34_9, hm_f34_10, hm_p34_10, hm_f34_11, hm_f34_12, hm_f34_13, hm_f34_14, hm_f34_15, hm_f34_16, hm_p34_16, hm_f34_17, hm_p34_17, hm_f34_18, hm_p34_18, hm_f34_19, hm_p34_19, hm_f34_20, hm_p34_20, hm_f34_21, hm_p34_21, hm_f34_22, hm_p34_22, hm_f34_23, hm_p34_23, hm_f34_24, hm_p34_24, hm_f34_25, hm_p34_25, hm_f34_26, hm_f34_27, hm_f34_28, hm_p34_28, hm_f34_29, hm_p34_29, hm_f34_30, hm_f34_31, hm_f34_32, hm_p34_32, hm_f34_33, hm_f34_34, hm_f34_35, hm_f34_36, hm_f34_37, hm_f34_38, hm_a35, hm_s35, hm_l35, hm_a36, hm_s36, hm_l36, hm_a37, hm_s37, hm_l37, hm_a38, hm_s38, hm_l38, hm_a39, hm_s39, hm_l39, hm_a40, hm_s40, hm_l40, hm_a41, hm_s41, hm_l41, hm_a42, hm_s42, hm_l42, hm_a43, hm_s43, hm_l43, hm_a44, hm_s44, hm_l44, hm_a45, hm_s45, hm_l45, hm_a46, hm_s46, hm_l46, hm_a47, hm_s47, hm_l47, hm_a48, hm_s48, hm_l48, hm_a49, hm_s49, hm_l49, hm_a50, hm_s50, hm_l50, hm_a51, hm_s51, hm_l51, hm_a52, hm_s52, hm_l52, hm_a53, hm_s53, hm_l53, hm_a54, hm_s54, hm_l54, hm_a55, hm_s55, hm_l55, hm_a56, hm_s56, hm_l56]
      refine ⟨fun _ => hQ.now h, fun z => absurd (by rw [n_le (by omega) (by omega)]; omega) z⟩
    | succ r ih =>
      intro e I A T x5 he h hQ
      have hB : qr_B I A s.2.2.1 := h.2.1.1
      have es := flt_s (mq_n s) e
      refine g82 _ _ _ ?_
      simp only [B_X9_count_82, hB.2.1, am_us, am_un, Nat.reduceEqDiff, not_false_eq_true, ak_c, ak_il, ak_ll, ak_al, ak_is, ak_as, ak_ls, ak_ii, ak_ib, ak_id, ak_lb, ak_lx, ak_lc, ak_iu, ak_i2l, ak_l2i, ak_dup, ak_dup2, ak_pop, ak_if, ak_ic, ak_sw, am_sws, ak_get, ak_puti, ak_putz, ak_putl, ak_puta, ak_iald, ak_lald, ak_iast, ak_last, ak_alen, ak_cs, ak_cv, ak_ri, ak_rz, ak_rl, ak_rv, am_ent, am_sp, am_pu, am_rs, Value.category, am_st1, am_st2, am_clr, List.getElem?_cons_zero, List.getElem?_cons_succ, List.set_cons_zero, List.set_cons_succ, List.length_cons, List.length_nil, Nat.reduceAdd, Nat.reduceLT, Nat.reduceLeDiff, Nat.zero_add, Nat.add_zero, true_and, and_true, or_true, true_or, if_true, if_false, Option.some.injEq, true_implies, false_implies, not_true_eq_false, not_false_eq_true, hm_i34, hm_f34_0, hm_p34_0, hm_f34_1, hm_f34_2, hm_p34_2, hm_f34_3, hm_f34_4, hm_f34_5, hm_f34_6, hm_p34_6, hm_f34_7, hm_f34_8, hm_f34_9, hm_f34_10, hm_p34_10, hm_f34_11, hm_f34_12, hm_f34_13, hm_f34_14, hm_f34_15, hm_f34_16, hm_p34_16, hm_f34_17, hm_p34_17, hm_f34_18, hm_p34_18, hm_f34_19, hm_p34_19, hm_f34_20, hm_p34_20, hm_f34_21, hm_p34_21, hm_f34_22, hm_p34_22, hm_f34_23, hm_p34_23, hm_f34_24, hm_p34_24, hm_f34_25, hm_p34_25, hm_f34_26, hm_f34_27, hm_f34_28, hm_p34_28, hm_f34_29, hm_p34_29, hm_f34_30, hm_f34_31, hm_f34_32, hm_p34_32, hm_f34_33, hm_f34_34, hm_f34_35, hm_f34_36, hm_f34_37, hm_f34_38, hm_a35, hm_s35, hm_l35, hm_a36, hm_s36, hm_l36, hm_a37, hm_s37, hm_l37, hm_a38, hm_s38, hm_l38, hm_a39, hm_s39, hm_l39, hm_a40, hm_s40, hm_l40, hm_a41, hm_s41, hm_l41, hm_a42, hm_s42, hm_l42, hm_a43, hm_s43, hm_l43, hm_a44, hm_s44, hm_l44, hm_a45, hm_s45, hm_l45, hm_a46, hm_s46, hm_l46, hm_a47, hm_s47, hm_l47, hm_a48, hm_s48, hm_l48, hm_a49, hm_s49, hm_l49, hm_a50, hm_s50, hm_l50, hm_a51, hm_s51, hm_l51, hm_a52, hm_s52, hm_l52, hm_a53, hm_s53, hm_l53, hm_a54, hm_s54, hm_l54, hm_a55, hm_s55, hm_l55, hm_a56, hm_s56, hm_l56]
      refine ⟨fun z => absurd z (by rw [n_le (by omega) (by omega)]; omega), fun _ => p_X9_without1 h (by omega) (fun I1 A1 T1 h1 => ?_)⟩
      simp only [am_us, am_un, Nat.reduceEqDiff, not_false_eq_true, ak_c, ak_il, ak_ll, ak_al, ak_is, ak_as, ak_ls, ak_ii, ak_ib, ak_id, ak_lb, ak_lx, ak_lc, ak_iu, ak_i2l, ak_l2i, ak_dup, ak_dup2, ak_pop, ak_if, ak_ic, ak_sw, am_sws, ak_get, ak_puti, ak_putz, ak_putl, ak_puta, ak_iald, ak_lald, ak_iast, ak_last, ak_alen, ak_cs, ak_cv, ak_ri, ak_rz, ak_rl, ak_rv, am_ent, am_sp, am_pu, am_rs, Value.category, am_st1, am_st2, am_clr, List.getElem?_cons_zero, List.getElem?_cons_succ, List.set_cons_zero, List.set_cons_succ, List.length_cons, List.length_nil, Nat.reduceAdd, Nat.reduceLT, Nat.reduceLeDiff, Nat.zero_add, Nat.add_zero, true_and, and_true, or_true, true_or, if_true, if_false, Option.some.injEq, true_implies, false_implies, not_true_eq_false, not_false_eq_true, hm_i34, hm_f34_0, hm_p34_0, hm_f34_1, hm_f34_2, hm_p34_2, hm_f34_3, hm_f34_4, hm_f34_5, hm_f34_6, hm_p34_6, hm_f34_7, hm_f34_8, hm_f34_9, hm_f34_10, hm_p34_10, hm_f34_11, hm_f34_12, hm_f34_13, hm_f34_14, hm_f34_15, hm_f34_16, hm_p34_16, hm_f34_17, hm_p34_17, hm_f34_18, hm_p34_18, hm_f34_19, hm_p34_19, hm_f34_20, hm_p34_20, hm_f34_21, hm_p34_21, hm_f34_22, hm_p34_22, hm_f34_23, hm_p34_23, hm_f34_24, hm_p34_24, hm_f34_25, hm_p34_25, hm_f34_26, hm_f34_27, hm_f34_28, hm_p34_28, hm_f34_29, hm_p34_29, hm_f34_30, hm_f34_31, hm_f34_32, hm_p34_32, hm_f34_33, hm_f34_34, hm_f34_35, hm_f34_36, hm_f34_37, hm_f34_38, hm_a35, hm_s35, hm_l35, hm_a36, hm_s36, hm_l36, hm_a37, hm_s37, hm_l37, hm_a38, hm_s38, hm_l38, hm_a39, hm_s39, hm_l39, hm_a40, hm_s40, hm_l40, hm_a41, hm_s41, hm_l41, hm_a42, hm_s42, hm_l42, hm_a43, hm_s43, hm_l43, hm_a44, hm_s44, hm_l44, hm_a45, hm_s45, hm_l45, hm_a46, hm_s46, hm_l46, hm_a47, hm_s47, hm_l47, hm_a48, hm_s48, hm_l48, hm_a49, hm_s49, hm_l49, hm_a50, hm_s50, hm_l50, hm_a51, hm_s51, hm_l51, hm_a52, hm_s52, hm_l52, hm_a53, hm_s53, hm_l53, hm_a54, hm_s54, hm_l54, hm_a55, hm_s55, hm_l55, hm_a56, hm_s56, hm_l56]
      have hn := mq_n_eq (s := s) hB.1 (e := e) (by omega)
      have ih := ih (e + 1) I1 A1 T1 x5 (by omega) h1 hQ
      rw [es] at ih
      have c107 : G 107 [some (.ref 34), some (.int w), some (.int (sv_lim (MZ (sX s none)).1)), some (.int (nI ((List.range e).filter (mq_n s)).length)), some (.int (nI e)), x5] [.int (nI (if mq_n s e then 1 else 0)), .int (nI ((List.range e).filter (mq_n s)).length)] (HM hd I1 A1 T1) := by
        refine g107 _ _ _ ?_
        simp only [B_X9_count_107, am_us, am_un, Nat.reduceEqDiff, not_false_eq_true, ak_c, ak_il, ak_ll, ak_al, ak_is, ak_as, ak_ls, ak_ii, ak_ib, ak_id, ak_lb, ak_lx, ak_lc, ak_iu, ak_i2l, ak_l2i, ak_dup, ak_dup2, ak_pop, ak_if, ak_ic, ak_sw, am_sws, ak_get, ak_puti, ak_putz, ak_putl, ak_puta, ak_iald, ak_lald, ak_iast, ak_last, ak_alen, ak_cs, ak_cv, ak_ri, ak_rz, ak_rl, ak_rv, am_ent, am_sp, am_pu, am_rs, Value.category, am_st1, am_st2, am_clr, List.getElem?_cons_zero, List.getElem?_cons_succ, List.set_cons_zero, List.set_cons_succ, List.length_cons, List.length_nil, Nat.reduceAdd, Nat.reduceLT, Nat.reduceLeDiff, Nat.zero_add, Nat.add_zero, true_and, and_true, or_true, true_or, if_true, if_false, Option.some.injEq, true_implies, false_implies, not_true_eq_false, not_false_eq_true, hm_i34, hm_f34_0, hm_p34_0, hm_f34_1, hm_f34_2, hm_p34_2, hm_f34_3, hm_f34_4, hm_f34_5, hm_f34_6, hm_p34_6, hm_f34_7, hm_f34_8, hm_f34_9, hm_f34_10, hm_p34_10, hm_f34_11, hm_f34_12, hm_f34_13, hm_f34_14, hm_f34_15, hm_f34_16, hm_p34_16, hm_f34_17, hm_p34_17, hm_f34_18, hm_p34_18, hm_f34_19, hm_p34_19, hm_f34_20, hm_p34_20, hm_f34_21, hm_p34_21, hm_f34_22, hm_p34_22, hm_f34_23, hm_p34_23, hm_f34_24, hm_p34_24, hm_f34_25, hm_p34_25, hm_f34_26, hm_f34_27, hm_f34_28, hm_p34_28, hm_f34_29, hm_p34_29, hm_f34_30, hm_f34_31, hm_f34_32, hm_p34_32, hm_f34_33, hm_f34_34, hm_f34_35, hm_f34_36, hm_f34_37, hm_f34_38, hm_a35, hm_s35, hm_l35, hm_a36, hm_s36, hm_l36, hm_a37, hm_s37, hm_l37, hm_a38, hm_s38, hm_l38, hm_a39, hm_s39, hm_l39, hm_a40, hm_s40, hm_l40, hm_a41, hm_s41, hm_l41, hm_a42, hm_s42, hm_l42, hm_a43, hm_s43, hm_l43, hm_a44, hm_s44, hm_l44, hm_a45, hm_s45, hm_l45, hm_a46, hm_s46, hm_l46, hm_a47, hm_s47, hm_l47, hm_a48, hm_s48, hm_l48, hm_a49, hm_s49, hm_l49, hm_a50, hm_s50, hm_l50, hm_a51, hm_s51, hm_l51, hm_a52, hm_s52, hm_l52, hm_a53, hm_s53, hm_l53, hm_a54, hm_s54, hm_l54, hm_a55, hm_s55, hm_l55, hm_a56, hm_s56, hm_l56]
        rw [nI_add, n_add1]
        exact ih
      unfold sv_lim
      rw [n_le (by omega) (by omega)]
      unfold sv_lim at c107
      refine ⟨fun q => ?_, fun q => ?_⟩
      · have : mq_n s e = false := by rw [hn]; exact decide_eq_false (by omega)
        rw [this] at c107
        exact c107
      · have : mq_n s e = true := by rw [hn]; exact decide_eq_true (by omega)
        rw [this] at c107
        exact c107
  have c123 : ∀ r e (x2 x3 : Option Value), e + r = s.2.2.1.length → RQ hd (nI (s.2.2.1.filter (fun x => x.2.2 == 0)).length) s Q → G 123 [some (.ref 34), some (.int w), none, none, some (.int (nI ((s.2.2.1.take e).filter (fun x => x.2.2 == 0)).length)), some (.int (nI e))] [] (HM hd I A T) := by
    intro r
    induction r with
    | zero =>
      intro e x2 x3 he hQ
      refine g123 _ _ _ ?_
      simp only [B_X9_count_123, hB.2.1, am_us, am_un, Nat.reduceEqDiff, not_false_eq_true, ak_c, ak_il, ak_ll, ak_al, ak_is, ak_as, ak_ls, ak_ii, ak_ib, ak_id, ak_lb, ak_lx, ak_lc, ak_iu, ak_i2l, ak_l2i, ak_dup, ak_dup2, ak_pop, ak_if, ak_ic, ak_sw, am_sws, ak_get, ak_puti, ak_putz, ak_putl, ak_puta, ak_iald, ak_lald, ak_iast, ak_last, ak_alen, ak_cs, ak_cv, ak_ri, ak_rz, ak_rl, ak_rv, am_ent, am_sp, am_pu, am_rs, Value.category, am_st1, am_st2, am_clr, List.getElem?_cons_zero, List.getElem?_cons_succ, List.set_cons_zero, List.set_cons_succ, List.length_cons, List.length_nil, Nat.reduceAdd, Nat.reduceLT, Nat.reduceLeDiff, Nat.zero_add, Nat.add_zero, true_and, and_true, or_true, true_or, if_true, if_false, Option.some.injEq, true_implies, false_implies, not_true_eq_false, not_false_eq_true, hm_i34, hm_f34_0, hm_p34_0, hm_f34_1, hm_f34_2, hm_p34_2, hm_f34_3, hm_f34_4, hm_f34_5, hm_f34_6, hm_p34_6, hm_f34_7, hm_f34_8, hm_f34_9, hm_f34_10, hm_p34_10, hm_f34_11, hm_f34_12, hm_f34_13, hm_f34_14, hm_f34_15, hm_f34_16, hm_p34_16, hm_f34_17, hm_p34_17, hm_f34_18, hm_p34_18, hm_f34_19, hm_p34_19, hm_f34_20, hm_p34_20, hm_f34_21, hm_p34_21, hm_f34_22, hm_p34_22, hm_f34_23, hm_p34_23, hm_f34_24, hm_p34_24, hm_f34_25, hm_p34_25, hm_f34_26, hm_f34_27, hm_f34_28, hm_p34_28, hm_f34_29, hm_p34_29, hm_f34_30, hm_f34_31, hm_f34_32, hm_p34_32, hm_f34_33, hm_f34_34, hm_f34_35, hm_f34_36, hm_f34_37, hm_f34_38, hm_a35, hm_s35, hm_l35, hm_a36, hm_s36, hm_l36, hm_a37, hm_s37, hm_l37, hm_a38, hm_s38, hm_l38, hm_a39, hm_s39, hm_l39, hm_a40, hm_s40, hm_l40, hm_a41, hm_s41, hm_l41, hm_a42, hm_s42, hm_l42, hm_a43, hm_s43, hm_l43, hm_a44, hm_s44, hm_l44, hm_a45, hm_s45, hm_l45, hm_a46, hm_s46, hm_l46, hm_a47, hm_s47, hm_l47, hm_a48, hm_s48, hm_l48, hm_a49, hm_s49, hm_l49, hm_a50, hm_s50, hm_l50, hm_a51, hm_s51, hm_l51, hm_a52, hm_s52, hm_l52, hm_a53, hm_s53, hm_l53, hm_a54, hm_s54, hm_l54, hm_a55, hm_s55, hm_l55, hm_a56, hm_s56, hm_l56]
      rw [List.take_of_length_le (by omega)]
      refine ⟨fun _ => hQ.now h, fun z => absurd (by rw [n_le (by omega) (by omega)]; omega) z⟩
    | succ r ih =>
      intro e x2 x3 he hQ
      have hx : s.2.2.1[e]? = some (s.2.2.1[e]'(by omega)) := List.getElem?_eq_getElem (by omega)
      generalize s.2.2.1[e]'(by omega) = x at hx
      have hxE := hB.1.2.1 x (List.mem_of_getElem? hx)
      have hx10 : x.2.2 ≤ 10 := by rcases hxE.2.2.2.2 with z | z <;> omega
      have hrow := (hB.2.2 e x hx).2.2
      have es : ((s.2.2.1.take (e + 1)).filter (fun x => x.2.2 == 0)).length = ((s.2.2.1.take e).filter (fun x => x.2.2 == 0)).length + (if x.2.2 = 0 then 1 else 0) := by
        rw [List.take_succ, hx, List.filter_append, List.length_append]
        congr 1
        by_cases z : x.2.2 = 0
        · simp [z]
        · simp [z]
      have ih := ih (e + 1) none none (by omega) hQ
      rw [es] at ih
      have c149 : G 149 [some (.ref 34), some (.int w), none, none, some (.int (nI ((s.2.2.1.take e).filter (fun x => x.2.2 == 0)).length)), some (.int (nI e))] [.int (nI (if x.2.2 = 0 then 1 else 0)), .int (nI ((s.2.2.1.take e).filter (fun x => x.2.2 == 0)).length)] (HM hd I A T) := by
        refine g149 _ _ _ ?_
        simp only [B_X9_count_149, am_us, am_un, Nat.reduceEqDiff, not_false_eq_true, ak_c, ak_il, ak_ll, ak_al, ak_is, ak_as, ak_ls, ak_ii, ak_ib, ak_id, ak_lb, ak_lx, ak_lc, ak_iu, ak_i2l, ak_l2i, ak_dup, ak_dup2, ak_pop, ak_if, ak_ic, ak_sw, am_sws, ak_get, ak_puti, ak_putz, ak_putl, ak_puta, ak_iald, ak_lald, ak_iast, ak_last, ak_alen, ak_cs, ak_cv, ak_ri, ak_rz, ak_rl, ak_rv, am_ent, am_sp, am_pu, am_rs, Value.category, am_st1, am_st2, am_clr, List.getElem?_cons_zero, List.getElem?_cons_succ, List.set_cons_zero, List.set_cons_succ, List.length_cons, List.length_nil, Nat.reduceAdd, Nat.reduceLT, Nat.reduceLeDiff, Nat.zero_add, Nat.add_zero, true_and, and_true, or_true, true_or, if_true, if_false, Option.some.injEq, true_implies, false_implies, not_true_eq_false, not_false_eq_true, hm_i34, hm_f34_0, hm_p34_0, hm_f34_1, hm_f34_2, hm_p34_2, hm_f34_3, hm_f34_4, hm_f34_5, hm_f34_6, hm_p34_6, hm_f34_7, hm_f34_8, hm_f34_9, hm_f34_10, hm_p34_10, hm_f34_11, hm_f34_12, hm_f34_13, hm_f34_14, hm_f34_15, hm_f34_16, hm_p34_16, hm_f34_17, hm_p34_17, hm_f34_18, hm_p34_18, hm_f34_19, hm_p34_19, hm_f34_20, hm_p34_20, hm_f34_21, hm_p34_21, hm_f34_22, hm_p34_22, hm_f34_23, hm_p34_23, hm_f34_24, hm_p34_24, hm_f34_25, hm_p34_25, hm_f34_26, hm_f34_27, hm_f34_28, hm_p34_28, hm_f34_29, hm_p34_29, hm_f34_30, hm_f34_31, hm_f34_32, hm_p34_32, hm_f34_33, hm_f34_34, hm_f34_35, hm_f34_36, hm_f34_37, hm_f34_38, hm_a35, hm_s35, hm_l35, hm_a36, hm_s36, hm_l36, hm_a37, hm_s37, hm_l37, hm_a38, hm_s38, hm_l38, hm_a39, hm_s39, hm_l39, hm_a40, hm_s40, hm_l40, hm_a41, hm_s41, hm_l41, hm_a42, hm_s42, hm_l42, hm_a43, hm_s43, hm_l43, hm_a44, hm_s44, hm_l44, hm_a45, hm_s45, hm_l45, hm_a46, hm_s46, hm_l46, hm_a47, hm_s47, hm_l47, hm_a48, hm_s48, hm_l48, hm_a49, hm_s49, hm_l49, hm_a50, hm_s50, hm_l50, hm_a51, hm_s51, hm_l51, hm_a52, hm_s52, hm_l52, hm_a53, hm_s53, hm_l53, hm_a54, hm_s54, hm_l54, hm_a55, hm_s55, hm_l55, hm_a56, hm_s56, hm_l56]
        rw [nI_add, n_add1]
        exact ih
      refine g123 _ _ _ ?_
      simp only [B_X9_count_123, hB.2.1, am_us, am_un, Nat.reduceEqDiff, not_false_eq_true, ak_c, ak_il, ak_ll, ak_al, ak_is, ak_as, ak_ls, ak_ii, ak_ib, ak_id, ak_lb, ak_lx, ak_lc, ak_iu, ak_i2l, ak_l2i, ak_dup, ak_dup2, ak_pop, ak_if, ak_ic, ak_sw, am_sws, ak_get, ak_puti, ak_putz, ak_putl, ak_puta, ak_iald, ak_lald, ak_iast, ak_last, ak_alen, ak_cs, ak_cv, ak_ri, ak_rz, ak_rl, ak_rv, am_ent, am_sp, am_pu, am_rs, Value.category, am_st1, am_st2, am_clr, List.getElem?_cons_zero, List.getElem?_cons_succ, List.set_cons_zero, List.set_cons_succ, List.length_cons, List.length_nil, Nat.reduceAdd, Nat.reduceLT, Nat.reduceLeDiff, Nat.zero_add, Nat.add_zero, true_and, and_true, or_true, true_or, if_true, if_false, Option.some.injEq, true_implies, false_implies, not_true_eq_false, not_false_eq_true, hm_i34, hm_f34_0, hm_p34_0, hm_f34_1, hm_f34_2, hm_p34_2, hm_f34_3, hm_f34_4, hm_f34_5, hm_f34_6, hm_p34_6, hm_f34_7, hm_f34_8, hm_f34_9, hm_f34_10, hm_p34_10, hm_f34_11, hm_f34_12, hm_f34_13, hm_f34_14, hm_f34_15, hm_f34_16, hm_p34_16, hm_f34_17, hm_p34_17, hm_f34_18, hm_p34_18, hm_f34_19, hm_p34_19, hm_f34_20, hm_p34_20, hm_f34_21, hm_p34_21, hm_f34_22, hm_p34_22, hm_f34_23, hm_p34_23, hm_f34_24, hm_p34_24, hm_f34_25, hm_p34_25, hm_f34_26, hm_f34_27, hm_f34_28, hm_p34_28, hm_f34_29, hm_p34_29, hm_f34_30, hm_f34_31, hm_f34_32, hm_p34_32, hm_f34_33, hm_f34_34, hm_f34_35, hm_f34_36, hm_f34_37, hm_f34_38, hm_a35, hm_s35, hm_l35, hm_a36, hm_s36, hm_l36, hm_a37, hm_s37, hm_l37, hm_a38, hm_s38, hm_l38, hm_a39, hm_s39, hm_l39, hm_a40, hm_s40, hm_l40, hm_a41, hm_s41, hm_l41, hm_a42, hm_s42, hm_l42, hm_a43, hm_s43, hm_l43, hm_a44, hm_s44, hm_l44, hm_a45, hm_s45, hm_l45, hm_a46, hm_s46, hm_l46, hm_a47, hm_s47, hm_l47, hm_a48, hm_s48, hm_l48, hm_a49, hm_s49, hm_l49, hm_a50, hm_s50, hm_l50, hm_a51, hm_s51, hm_l51, hm_a52, hm_s52, hm_l52, hm_a53, hm_s53, hm_l53, hm_a54, hm_s54, hm_l54, hm_a55, hm_s55, hm_l55, hm_a56, hm_s56, hm_l56]
      rw [n_cl (by omega), hrow, n_le (by omega) (by omega), show (nI x.2.2 = (0 : Int32)) ↔ x.2.2 = 0 from n_eq (b := 0) (by omega) (by omega)]
      refine ⟨fun z => absurd z (by omega), fun _ => ⟨vp_in_nI (by omega) (by omega), fun q => ?_, fun q => ?_⟩⟩
      · rw [if_pos q] at c149
        exact c149
      · rw [if_neg q] at c149
        exact c149
  unfold sv_count at hQ
  rcases sp_ix_c w (n := 7) (by decide) with hw | ⟨m, hm, rfl⟩
  · rw [sp_ix_no hw] at hQ
    refine g0 _ _ _ ?_
    simp only [B_X9_count_0, am_us, am_un, Nat.reduceEqDiff, not_false_eq_true, ak_c, ak_il, ak_ll, ak_al, ak_is, ak_as, ak_ls, ak_ii, ak_ib, ak_id, ak_lb, ak_lx, ak_lc, ak_iu, ak_i2l, ak_l2i, ak_dup, ak_dup2, ak_pop, ak_if, ak_ic, ak_sw, am_sws, ak_get, ak_puti, ak_putz, ak_putl, ak_puta, ak_iald, ak_lald, ak_iast, ak_last, ak_alen, ak_cs, ak_cv, ak_ri, ak_rz, ak_rl, ak_rv, am_ent, am_sp, am_pu, am_rs, Value.category, am_st1, am_st2, am_clr, List.getElem?_cons_zero, List.getElem?_cons_succ, List.set_cons_zero, List.set_cons_succ, List.length_cons, List.length_nil, Nat.reduceAdd, Nat.reduceLT, Nat.reduceLeDiff, Nat.zero_add, Nat.add_zero, true_and, and_true, or_true, true_or, if_true, if_false, Option.some.injEq, true_implies, false_implies, not_true_eq_false, not_false_eq_true, hm_i34, hm_f34_0, hm_p34_0, hm_f34_1, hm_f34_2, hm_p34_2, hm_f34_3, hm_f34_4, hm_f34_5, hm_f34_6, hm_p34_6, hm_f34_7, hm_f34_8, hm_f34_9, hm_f34_10, hm_p34_10, hm_f34_11, hm_f34_12, hm_f34_13, hm_f34_14, hm_f34_15, hm_f34_16, hm_p34_16, hm_f34_17, hm_p34_17, hm_f34_18, hm_p34_18, hm_f34_19, hm_p34_19, hm_f34_20, hm_p34_20, hm_f34_21, hm_p34_21, hm_f34_22, hm_p34_22, hm_f34_23, hm_p34_23, hm_f34_24, hm_p34_24, hm_f34_25, hm_p34_25, hm_f34_26, hm_f34_27, hm_f34_28, hm_p34_28, hm_f34_29, hm_p34_29, hm_f34_30, hm_f34_31, hm_f34_32, hm_p34_32, hm_f34_33, hm_f34_34, hm_f34_35, hm_f34_36, hm_f34_37, hm_f34_38, hm_a35, hm_s35, hm_l35, hm_a36, hm_s36, hm_l36, hm_a37, hm_s37, hm_l37, hm_a38, hm_s38, hm_l38, hm_a39, hm_s39, hm_l39, hm_a40, hm_s40, hm_l40, hm_a41, hm_s41, hm_l41, hm_a42, hm_s42, hm_l42, hm_a43, hm_s43, hm_l43, hm_a44, hm_s44, hm_l44, hm_a45, hm_s45, hm_l45, hm_a46, hm_s46, hm_l46, hm_a47, hm_s47, hm_l47, hm_a48, hm_s48, hm_l48, hm_a49, hm_s49, hm_l49, hm_a50, hm_s50, hm_l50, hm_a51, hm_s51, hm_l51, hm_a52, hm_s52, hm_l52, hm_a53, hm_s53, hm_l53, hm_a54, hm_s54, hm_l54, hm_a55, hm_s55, hm_l55, hm_a56, hm_s56, hm_l56]
    rw [Int32.lt_iff_toInt_lt, Int32.le_iff_toInt_le] at hw
    have t0 : (0 : Int32).toInt = 0 := rfl
    have t7 : (nI 7).toInt = 7 := rfl
    exact ⟨⟨fun q => absurd q (by omega), fun q => absurd q (by omega), fun q => absurd q (by omega), fun q => absurd q (by omega), fun q => absurd q (by omega), fun q => absurd q (by omega), fun q => absurd q (by omega)⟩, fun _ => hQ.now h⟩
  · rw [sp_ix_yes hm (by decide)] at hQ
    simp only at hQ
    have es : (nI m).toInt = (m : Int) := nI_toInt (by omega)
    refine g0 _ _ _ ?_
    simp only [B_X9_count_0, es, hB.2.1, hC.2.1, h.1.2.1, am_us, am_un, Nat.reduceEqDiff, not_false_eq_true, ak_c, ak_il, ak_ll, ak_al, ak_is, ak_as, ak_ls, ak_ii, ak_ib, ak_id, ak_lb, ak_lx, ak_lc, ak_iu, ak_i2l, ak_l2i, ak_dup, ak_dup2, ak_pop, ak_if, ak_ic, ak_sw, am_sws, ak_get, ak_puti, ak_putz, ak_putl, ak_puta, ak_iald, ak_lald, ak_iast, ak_last, ak_alen, ak_cs, ak_cv, ak_ri, ak_rz, ak_rl, ak_rv, am_ent, am_sp, am_pu, am_rs, Value.category, am_st1, am_st2, am_clr, List.getElem?_cons_zero, List.getElem?_cons_succ, List.set_cons_zero, List.set_cons_succ, List.length_cons, List.length_nil, Nat.reduceAdd, Nat.reduceLT, Nat.reduceLeDiff, Nat.zero_add, Nat.add_zero, true_and, and_true, or_true, true_or, if_true, if_false, Option.some.injEq, true_implies, false_implies, not_true_eq_false, not_false_eq_true, hm_i34, hm_f34_0, hm_p34_0, hm_f34_1, hm_f34_2, hm_p34_2, hm_f34_3, hm_f34_4, hm_f34_5, hm_f34_6, hm_p34_6, hm_f34_7, hm_f34_8, hm_f34_9, hm_f34_10, hm_p34_10, hm_f34_11, hm_f34_12, hm_f34_13, hm_f34_14, hm_f34_15, hm_f34_16, hm_p34_16, hm_f34_17, hm_p34_17, hm_f34_18, hm_p34_18, hm_f34_19, hm_p34_19, hm_f34_20, hm_p34_20, hm_f34_21, hm_p34_21, hm_f34_22, hm_p34_22, hm_f34_23, hm_p34_23, hm_f34_24, hm_p34_24, hm_f34_25, hm_p34_25, hm_f34_26, hm_f34_27, hm_f34_28, hm_p34_28, hm_f34_29, hm_p34_29, hm_f34_30, hm_f34_31, hm_f34_32, hm_p34_32, hm_f34_33, hm_f34_34, hm_f34_35, hm_f34_36, hm_f34_37, hm_f34_38, hm_a35, hm_s35, hm_l35, hm_a36, hm_s36, hm_l36, hm_a37, hm_s37, hm_l37, hm_a38, hm_s38, hm_l38, hm_a39, hm_s39, hm_l39, hm_a40, hm_s40, hm_l40, hm_a41, hm_s41, hm_l41, hm_a42, hm_s42, hm_l42, hm_a43, hm_s43, hm_l43, hm_a44, hm_s44, hm_l44, hm_a45, hm_s45, hm_l45, hm_a46, hm_s46, hm_l46, hm_a47, hm_s47, hm_l47, hm_a48, hm_s48, hm_l48, hm_a49, hm_s49, hm_l49, hm_a50, hm_s50, hm_l50, hm_a51, hm_s51, hm_l51, hm_a52, hm_s52, hm_l52, hm_a53, hm_s53, hm_l53, hm_a54, hm_s54, hm_l54, hm_a55, hm_s55, hm_l55, hm_a56, hm_s56, hm_l56]
    refine ⟨⟨fun q => ?_, fun q => ?_, fun q => ?_, fun q => ?_, fun q => ?_, fun q => ?_, fun q => ?_⟩, fun q => absurd q (by omega)⟩
    · obtain rfl : m = 0 := by omega
      exact hQ.now h
    · obtain rfl : m = 1 := by omega
      exact hQ.now h
    · obtain rfl : m = 2 := by omega
      rw [show A 8 (Int32.toNatClampNeg 0) = nI s.2.2.2.2.1.length from hgl]
      exact ⟨show vp_in (nI 0) 9 from vp_in_nI (by omega) (by omega), hQ.now h⟩
    · obtain rfl : m = 3 := by omega
      refine p_R_offer h.2.1 ?_
      simp only [am_us, am_un, Nat.reduceEqDiff, not_false_eq_true, ak_c, ak_il, ak_ll, ak_al, ak_is, ak_as, ak_ls, ak_ii, ak_ib, ak_id, ak_lb, ak_lx, ak_lc, ak_iu, ak_i2l, ak_l2i, ak_dup, ak_dup2, ak_pop, ak_if, ak_ic, ak_sw, am_sws, ak_get, ak_puti, ak_putz, ak_putl, ak_puta, ak_iald, ak_lald, ak_iast, ak_last, ak_alen, ak_cs, ak_cv, ak_ri, ak_rz, ak_rl, ak_rv, am_ent, am_sp, am_pu, am_rs, Value.category, am_st1, am_st2, am_clr, List.getElem?_cons_zero, List.getElem?_cons_succ, List.set_cons_zero, List.set_cons_succ, List.length_cons, List.length_nil, Nat.reduceAdd, Nat.reduceLT, Nat.reduceLeDiff, Nat.zero_add, Nat.add_zero, true_and, and_true, or_true, true_or, if_true, if_false, Option.some.injEq, true_implies, false_implies, not_true_eq_false, not_false_eq_true, hm_i34, hm_f34_0, hm_p34_0, hm_f34_1, hm_f34_2, hm_p34_2, hm_f34_3, hm_f34_4, hm_f34_5, hm_f34_6, hm_p34_6, hm_f34_7, hm_f34_8, hm_f34_9, hm_f34_10, hm_p34_10, hm_f34_11, hm_f34_12, hm_f34_13, hm_f34_14, hm_f34_15, hm_f34_16, hm_p34_16, hm_f34_17, hm_p34_17, hm_f34_18, hm_p34_18, hm_f34_19, hm_p34_19, hm_f34_20, hm_p34_20, hm_f34_21, hm_p34_21, hm_f34_22, hm_p34_22, hm_f34_23, hm_p34_23, hm_f34_24, hm_p34_24, hm_f34_25, hm_p34_25, hm_f34_26, hm_f34_27, hm_f34_28, hm_p34_28, hm_f34_29, hm_p34_29, hm_f34_30, hm_f34_31, hm_f34_32, hm_p34_32, hm_f34_33, hm_f34_34, hm_f34_35, hm_f34_36, hm_f34_37, hm_f34_38, hm_a35, hm_s35, hm_l35, hm_a36, hm_s36, hm_l36, hm_a37, hm_s37, hm_l37, hm_a38, hm_s38, hm_l38, hm_a39, hm_s39, hm_l39, hm_a40, hm_s40, hm_l40, hm_a41, hm_s41, hm_l41, hm_a42, hm_s42, hm_l42, hm_a43, hm_s43, hm_l43, hm_a44, hm_s44, hm_l44, hm_a45, hm_s45, hm_l45, hm_a46, hm_s46, hm_l46, hm_a47, hm_s47, hm_l47, hm_a48, hm_s48, hm_l48, hm_a49, hm_s49, hm_l49, hm_a50, hm_s50, hm_l50, hm_a51, hm_s51, hm_l51, hm_a52, hm_s52, hm_l52, hm_a53, hm_s53, hm_l53, hm_a54, hm_s54, hm_l54, hm_a55, hm_s55, hm_l55, hm_a56, hm_s56, hm_l56]
      have e3 : sv_offer s (-1) = nI (mq_l s).length := by
        unfold sv_offer
        rw [if_neg (by decide), if_pos rfl]
      rw [e3]
      exact hQ.now h
    · obtain rfl : m = 4 := by omega
      exact hQ.now h
    · obtain rfl : m = 5 := by omega
      refine p_X9_parses h (fun I1 A1 T1 h1 => ?_)
      simp only [am_us, am_un, Nat.reduceEqDiff, not_false_eq_true, ak_c, ak_il, ak_ll, ak_al, ak_is, ak_as, ak_ls, ak_ii, ak_ib, ak_id, ak_lb, ak_lx, ak_lc, ak_iu, ak_i2l, ak_l2i, ak_dup, ak_dup2, ak_pop, ak_if, ak_ic, ak_sw, am_sws, ak_get, ak_puti, ak_putz, ak_putl, ak_puta, ak_iald, ak_lald, ak_iast, ak_last, ak_alen, ak_cs, ak_cv, ak_ri, ak_rz, ak_rl, ak_rv, am_ent, am_sp, am_pu, am_rs, Value.category, am_st1, am_st2, am_clr, List.getElem?_cons_zero, List.getElem?_cons_succ, List.set_cons_zero, List.set_cons_succ, List.length_cons, List.length_nil, Nat.reduceAdd, Nat.reduceLT, Nat.reduceLeDiff, Nat.zero_add, Nat.add_zero, true_and, and_true, or_true, true_or, if_true, if_false, Option.some.injEq, true_implies, false_implies, not_true_eq_false, not_false_eq_true, hm_i34, hm_f34_0, hm_p34_0, hm_f34_1, hm_f34_2, hm_p34_2, hm_f34_3, hm_f34_4, hm_f34_5, hm_f34_6, hm_p34_6, hm_f34_7, hm_f34_8, hm_f34_9, hm_f34_10, hm_p34_10, hm_f34_11, hm_f34_12, hm_f34_13, hm_f34_14, hm_f34_15, hm_f34_16, hm_p34_16, hm_f34_17, hm_p34_17, hm_f34_18, hm_p34_18, hm_f34_19, hm_p34_19, hm_f34_20, hm_p34_20, hm_f34_21, hm_p34_21, hm_f34_22, hm_p34_22, hm_f34_23, hm_p34_23, hm_f34_24, hm_p34_24, hm_f34_25, hm_p34_25, hm_f34_26, hm_f34_27, hm_f34_28, hm_p34_28, hm_f34_29, hm_p34_29, hm_f34_30, hm_f34_31, hm_f34_32, hm_p34_32, hm_f34_33, hm_f34_34, hm_f34_35, hm_f34_36, hm_f34_37, hm_f34_38, hm_a35, hm_s35, hm_l35, hm_a36, hm_s36, hm_l36, hm_a37, hm_s37, hm_l37, hm_a38, hm_s38, hm_l38, hm_a39, hm_s39, hm_l39, hm_a40, hm_s40, hm_l40, hm_a41, hm_s41, hm_l41, hm_a42, hm_s42, hm_l42, hm_a43, hm_s43, hm_l43, hm_a44, hm_s44, hm_l44, hm_a45, hm_s45, hm_l45, hm_a46, hm_s46, hm_l46, hm_a47, hm_s47, hm_l47, hm_a48, hm_s48, hm_l48, hm_a49, hm_s49, hm_l49, hm_a50, hm_s50, hm_l50, hm_a51, hm_s51, hm_l51, hm_a52, hm_s52, hm_l52, hm_a53, hm_s53, hm_l53, hm_a54, hm_s54, hm_l54, hm_a55, hm_s55, hm_l55, hm_a56, hm_s56, hm_l56]
      exact l82 s.2.2.1.length 0 I1 A1 T1 _ (by omega) h1 hQ
    · obtain rfl : m = 6 := by omega
      exact c123 s.2.2.1.length 0 none none (by omega) hQ
end RF23
