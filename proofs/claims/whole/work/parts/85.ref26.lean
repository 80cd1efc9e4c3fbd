/-! the reference: learn, forget -/
section RF26
variable {hd : Nat → am_C} {I I' : Nat → Int32} {A A' : Nat → Nat → Int32} {T T' : Nat → Int64} {Q : am_Q} {h : am_H} {X : MX} {b : Bool} {s : MS} {n : Nat} {cx : Nat → Nat} {bk : List ME}
def qrw (A : Nat → Nat → Int32) (bk : List ME) : Prop := ∀ e x, bk[e]? = some x → rw1 A 1 (8 * e) x.1 ∧ rw1 A 2 (9 * e) x.2.1 ∧ A 3 e = nI x.2.2
theorem RI.book {b2 : List ME} (h : RI I A T s) (hB : mb_B b2) (h1 : I' 1 = nI b2.length) (hr : qrw A' b2) (hI : ∀ k, k = 0 ∨ k = 3 ∨ k = 6 → I' k = I k) (h4 : I' 4 = 0) (hA : ∀ m, m = 0 ∨ m = 7 ∨ m = 8 ∨ m = 10 → A' m = A m) : RI I' A' T' (st_B s b2) := by
  obtain ⟨hT, ⟨-, ⟨c1, c2, c3⟩, ⟨m1, m2⟩, ⟨g1, g2, g3⟩, w1⟩, hg, -⟩ := h
  refine ⟨hT.mv (hI 0 (by decide)) (hA 0 (by decide)), ⟨⟨hB, h1, hr⟩, ⟨c1, by rw [hI 3 (by decide)]; exact c2, fun w x hx => ?_⟩, ⟨by rw [hI 6 (by decide)]; exact m1, m2⟩, ⟨?_, g2, g3⟩, by rw [hA 10 (by decide)]; exact w1⟩, hg, Or.inl h4⟩
  · unfold rw1
    rw [hA 7 (by decide)]
    exact c3 w x hx
  · unfold rw1
    rw [hA 8 (by decide)]
    exact g1
theorem au2 {α : Type} (f : Nat → α) (k : Nat) (x y : α) : am_u (am_u f k x) k y = am_u f k y := by
  funext m
  by_cases hm : m = k
  · rw [hm, am_us, am_us]
  · rw [am_un hm, am_un hm, am_un hm]
theorem au0 {α : Type} (f : Nat → α) (k : Nat) : am_u f k (f k) = f := by
  funext m
  by_cases hm : m = k
  · rw [hm, am_us]
  · rw [am_un hm]
theorem p_X9_learn (h : RI I A T s) (hQ : RQ hd (sv_learn s).1 (sv_learn s).2 Q) : K_X9_learn [.ref 34] (HM hd I A T) Q := by
  refine ⟨Nat.le_of_ble_eq_true rfl, fun G hG => ?_⟩
  obtain ⟨g0, g31, g41, g80⟩ := hG
  have hB : qr_B I A s.2.2.1 := h.2.1.1
  have h24 := hB.1.1
  unfold sv_learn at hQ
  refine g0 _ _ _ ?_
  simp only [B_X9_learn_0, am_us, am_un, Nat.reduceEqDiff, not_false_eq_true, ak_c, ak_il, ak_ll, ak_al, ak_is, ak_as, ak_ls, ak_ii, ak_ib, ak_id, ak_lb, ak_lx, ak_lc, ak_iu, ak_i2l, ak_l2i, ak_dup, ak_dup2, ak_pop, ak_if, ak_ic, ak_sw, am_sws, ak_get, ak_puti, ak_putz, ak_putl, ak_puta, ak_iald, ak_lald, ak_iast, ak_last, ak_alen, ak_cs, ak_cv, ak_ri, ak_rz, ak_rl, ak_rv, am_ent, am_sp, am_pu, am_rs, Value.category, am_st1, am_st2, am_clr, List.getElem?_cons_zero, List.getElem?_cons_succ, List.set_cons_zero, List.set_cons_succ, List.length_cons, List.length_nil, Nat.reduceAdd, Nat.reduceLT, Nat.reduceLeDiff, Nat.zero_add, Nat.add_zero, true_and, and_true, or_true, true_or, if_true, if_false, Option.some.injEq, true_implies, false_implies, not_true_eq_false, not_false_eq_true, hm_i34, hm_f34_0, hm_p34_0, hm_f34_1, hm_f34_2, hm_p34_2, hm_f34_3, hm_f34_4, hm_f34_5, hm_f34_6, hm_p34_6, hm_f34_7, hm_f34_8, hm_f34_9, hm_f34_10, hm_p34_10, hm_f34_11, hm_f34_12, hm_f34_13, hm_f34_14, hm_f34_15, hm_f34_16, hm_p34_16, hm_f34_17, hm_p34_17, hm_f34_18, hm_p34_18, hm_f34_19, hm_p34_19, hm_f34_20, hm_p34_20, hm_f34_21, hm_p34_21, hm_f34_22, hm_p34_22, hm_f34_23, hm_p34_23, hm_f34_24, hm_p34_24, hm_f34_25, hm_p34_25, hm_f34_26, hm_f34_27, hm_f34_28, hm_p34_28, hm_f34_29, hm_p34_29, hm_f34_30, hm_f34_31, hm_f34_32, hm_p34_32, hm_f34_33, hm_f34_34, hm_f34_35, hm_f34_36, hm_f34_37, hm_f34_38, hm_a35, hm_s35, hm_l35, hm_a36, hm_s36, hm_l36, hm_a37, hm_s37, hm_l37, hm_a38, hm_s38, hm_l38, hm_a39, hm_s39, hm_l39, hm_a40, hm_s40, hm_l40, hm_a41, hm_s41, hm_l41, hm_a42, hm_s42, hm_l42, hm_a43, hm_s43, hm_l43, hm_a44, hm_s44, hm_l44, hm_a45, hm_s45, hm_l45, hm_a46, hm_s46, hm_l46, hm_a47, hm_s47, hm_l47, hm_a48, hm_s48, hm_l48, hm_a49, hm_s49, hm_l49, hm_a50, hm_s50, hm_l50, hm_a51, hm_s51, hm_l51, hm_a52, hm_s52, hm_l52, hm_a53, hm_s53, hm_l53, hm_a54, hm_s54, hm_l54, hm_a55, hm_s55, hm_l55, hm_a56, hm_s56, hm_l56]
  refine p_X9_reads h.1 hB (fun p I1 A1 e hf => ?_) (fun I1 A1 e hf hL => ?_)
  · simp only [am_us, am_un, Nat.reduceEqDiff, not_false_eq_true, ak_c, ak_il, ak_ll, ak_al, ak_is, ak_as, ak_ls, ak_ii, ak_ib, ak_id, ak_lb, ak_lx, ak_lc, ak_iu, ak_i2l, ak_l2i, ak_dup, ak_dup2, ak_pop, ak_if, ak_ic, ak_sw, am_sws, ak_get, ak_puti, ak_putz, ak_putl, ak_puta, ak_iald, ak_lald, ak_iast, ak_last, ak_alen, ak_cs, ak_cv, ak_ri, ak_rz, ak_rl, ak_rv, am_ent, am_sp, am_pu, am_rs, Value.category, am_st1, am_st2, am_clr, List.getElem?_cons_zero, List.getElem?_cons_succ, List.set_cons_zero, List.set_cons_succ, List.length_cons, List.length_nil, Nat.reduceAdd, Nat.reduceLT, Nat.reduceLeDiff, Nat.zero_add, Nat.add_zero, true_and, and_true, or_true, true_or, if_true, if_false, Option.some.injEq, true_implies, false_implies, not_true_eq_false, not_false_eq_true, hm_i34, hm_f34_0, hm_p34_0, hm_f34_1, hm_f34_2, hm_p34_2, hm_f34_3, hm_f34_4, hm_f34_5, hm_f34_6, hm_p34_6, hm_f34_7, hm_f34_8, hm_f34_9, hm_f34_10, hm_p34_10, hm_f34_11, hm_f34_12, hm_f34_13, hm_f34_14, hm_f34_15, hm_f34_16, hm_p34_16, hm_f34_17, hm_p34_17, hm_f34_18, hm_p34_18, hm_f34_19, hm_p34_19, hm_f34_20, hm_p34_20, hm_f34_21, hm_p34_21, hm_f34_22, hm_p34_22, hm_f34_23, hm_p34_23, hm_f34_24, hm_p34_24, hm_f34_25, hm_p34_25, hm_f34_26, hm_f34_27, hm_f34_28, hm_p34_28, hm_f34_29, hm_p34_29, hm_f34_30, hm_f34_31, hm_f34_32, hm_p34_32, hm_f34_33, hm_f34_34, hm_f34_35, hm_f34_36, hm_f34_37, hm_f34_38, hm_a35, hm_s35, hm_l35, hm_a36, hm_s36, hm_l36, hm_a37, hm_s37, hm_l37, hm_a38, hm_s38, hm_l38, hm_a39, hm_s39, hm_l39, hm_a40, hm_s40, hm_l40, hm_a41, hm_s41, hm_l41, hm_a42, hm_s42, hm_l42, hm_a43, hm_s43, hm_l43, hm_a44, hm_s44, hm_l44, hm_a45, hm_s45, hm_l45, hm_a46, hm_s46, hm_l46, hm_a47, hm_s47, hm_l47, hm_a48, hm_s48, hm_l48, hm_a49, hm_s49, hm_l49, hm_a50, hm_s50, hm_l50, hm_a51, hm_s51, hm_l51, hm_a52, hm_s52, hm_l52, hm_a53, hm_s53, hm_l53, hm_a54, hm_s54, hm_l54, hm_a55, hm_s55, hm_l55, hm_a56, hm_s56, hm_l56]
    rw [e] at hQ
    have hp : p < 2147483648 := by
      have : ∀ f q, mf_p s.2.1 s.1 f q = some p → p < 201 := by
        intro f
        induction f with
        | zero => intro q z; cases z
        | succ f ih =>
          intro q z
          unfold mf_p at z
          split at z
          · cases z
          · rename_i hc
            cases hm : me_pe s.2.1 q with
            | none => rw [hm] at z; cases z; have := h.1.1.1; omega
            | some y => rw [hm] at z; exact ih _ z
      have := this 201 0 e
      omega
    refine ⟨fun z => absurd z (n_nem hp (by decide)), fun _ => hQ.now (h.frT hf)⟩
  · rw [e] at hQ
    simp only at hQ
    have had := ra_adds (bk := s.2.2.1) (mf_es s.2.1 s.1 201 0) [] (by simpa using h24)
    rw [List.append_nil] at had
    have h1 := h.frT hf
    generalize hLL : (mf_es s.2.1 s.1 201 0).foldl (ra s.2.2.1) [] = L at hL had
    have hl25 := hL.1
    have hB1 : qr_B I1 A1 s.2.2.1 := h1.2.1.1
    simp only [hB1.2.1, hL.2.2.1, am_us, am_un, Nat.reduceEqDiff, not_false_eq_true, ak_c, ak_il, ak_ll, ak_al, ak_is, ak_as, ak_ls, ak_ii, ak_ib, ak_id, ak_lb, ak_lx, ak_lc, ak_iu, ak_i2l, ak_l2i, ak_dup, ak_dup2, ak_pop, ak_if, ak_ic, ak_sw, am_sws, ak_get, ak_puti, ak_putz, ak_putl, ak_puta, ak_iald, ak_lald, ak_iast, ak_last, ak_alen, ak_cs, ak_cv, ak_ri, ak_rz, ak_rl, ak_rv, am_ent, am_sp, am_pu, am_rs, Value.category, am_st1, am_st2, am_clr, List.getElem?_cons_zero, List.getElem?_cons_succ, List.set_cons_zero, List.set_cons_succ, List.length_cons, List.length_nil, Nat.reduceAdd, Nat.reduceLT, Nat.reduceLeDiff, Nat.zero_add, Nat.add_zero, true_and, and_true, or_true, true_or, if_true, if_false, Option.some.injEq, true_implies, false_implies, not_true_eq_false, not_false_eq_true, hm_i34, hm_f34_0, hm_p34_0, hm_f34_1, hm_f34_2, hm_p34_2, hm_f34_3, hm_f34_4, hm_f34_5, hm_f34_6, hm_p34_6, hm_f34_7, hm_f34_8, hm_f34_9, hm_f34_10, hm_p34_10, hm_f34_11, hm_f34_12, hm_f34_13, hm_f34_14, hm_f34_15, hm_f34_16, hm_p34_16, hm_f34_17, hm_p34_17, hm_f34_18, hm_p34_18, hm_f34_19, hm_p34_19, hm_f34_20, hm_p34_20, hm_f34_21, hm_p34_21, hm_f34_22, hm_p34_22, hm_f34_23, hm_p34_23, hm_f34_24, hm_p34_24, hm_f34_25, hm_p34_25, hm_f34_26, hm_f34_27, hm_f34_28, hm_p34_28, hm_f34_29, hm_p34_29, hm_f34_30, hm_f34_31, hm_f34_32, hm_p34_32, hm_f34_33, hm_f34_34, hm_f34_35, hm_f34_36, hm_f34_37, hm_f34_38, hm_a35, hm_s35, hm_l35, hm_a36, hm_s36, hm_l36, hm_a37, hm_s37, hm_l37, hm_a38, hm_s38, hm_l38, hm_a39, hm_s39, hm_l39, hm_a40, hm_s40, hm_l40, hm_a41, hm_s41, hm_l41, hm_a42, hm_s42, hm_l42, hm_a43, hm_s43, hm_l43, hm_a44, hm_s44, hm_l44, hm_a45, hm_s45, hm_l45, hm_a46, hm_s46, hm_l46, hm_a47, hm_s47, hm_l47, hm_a48, hm_s48, hm_l48, hm_a49, hm_s49, hm_l49, hm_a50, hm_s50, hm_l50, hm_a51, hm_s51, hm_l51, hm_a52, hm_s52, hm_l52, hm_a53, hm_s53, hm_l53, hm_a54, hm_s54, hm_l54, hm_a55, hm_s55, hm_l55, hm_a56, hm_s56, hm_l56]
    rw [show (24 : Int32) = nI 24 from rfl, nI_add, n_le (by omega) (by omega)]
    refine ⟨fun q => ?_, fun q => ?_⟩
    rotate_left
    · rw [if_neg (by omega)] at had
      rw [had] at hQ
      exact hQ.now h1
    rw [if_pos q] at had
    rw [had] at hQ
    simp only at hQ
    have hB2 : mb_B (s.2.2.1 ++ L) := mb_adds_B (bk := s.2.2.1) hB.1 (mf_es_E 201 0) had
    have outer : ∀ r t (I2 : Nat → Int32) (A2 : Nat → Nat → Int32) (x2 : Option Value), t + r = L.length → I2 1 = nI (s.2.2.1.length + t) → qrw A2 (s.2.2.1 ++ L.take t) → (∀ k, ¬ k = 1 → I2 k = I1 k) → (∀ m, ¬ m = 1 → ¬ m = 2 → ¬ m = 3 → A2 m = A1 m) → G 31 [some (.ref 34), some (.int (nI t)), x2] [] (HM hd I2 A2 T) := by
      intro r
      induction r with
      | zero =>
        intro t I2 A2 x2 ht i1 hr hI hA
        have i2 : I2 2 = nI L.length := (hI 2 (by decide)).trans hL.2.2.1
        refine g31 _ _ _ ?_
        simp only [B_X9_learn_31, i2, am_us, am_un, Nat.reduceEqDiff, not_false_eq_true, ak_c, ak_il, ak_ll, ak_al, ak_is, ak_as, ak_ls, ak_ii, ak_ib, ak_id, ak_lb, ak_lx, ak_lc, ak_iu, ak_i2l, ak_l2i, ak_dup, ak_dup2, ak_pop, ak_if, ak_ic, ak_sw, am_sws, ak_get, ak_puti, ak_putz, ak_putl, ak_puta, ak_iald, ak_lald, ak_iast, ak_last, ak_alen, ak_cs, ak_cv, ak_ri, ak_rz, ak_rl, ak_rv, am_ent, am_sp, am_pu, am_rs, Value.category, am_st1, am_st2, am_clr, List.getElem?_cons_zero, List.getElem?_cons_succ, List.set_cons_zero, List.set_cons_succ, List.length_cons, List.length_nil, Nat.reduceAdd, Nat.reduceLT, Nat.reduceLeDiff, Nat.zero_add, Nat.add_zero, true_and, and_true, or_true, true_or, if_true, if_false, Option.some.injEq, true_implies, false_implies, not_true_eq_false, not_false_eq_true, hm_i34, hm_f34_0, hm_p34_0, hm_f34_1, hm_f34_2, hm_p34_2, hm_f34_3, hm_f34_4, hm_f34_5, hm_f34_6, hm_p34_6, hm_f34_7, hm_f34_8, hm_f34_9, hm_f34_10, hm_p34_10, hm_f34_11, hm_f34_12, hm_f34_13, hm_f34_14, hm_f34_15, hm_f34_16, hm_p34_16, hm_f34_17, hm_p34_17, hm_f34_18, hm_p34_18, hm_f34_19, hm_p34_19, hm_f34_20, hm_p34_20, hm_f34_21, hm_p34_21, hm_f34_22, hm_p34_22, hm_f34_23, hm_p34_23, hm_f34_24, hm_p34_24, hm_f34_25, hm_p34_25, hm_f34_26, hm_f34_27, hm_f34_28, hm_p34_28, hm_f34_29, hm_p34_29, hm_f34_30, hm_f34_31, hm_f34_32, hm_p34_32, hm_f34_33, hm_f34_34, hm_f34_35, hm_f34_36, hm_f34_37, hm_f34_38, hm_a35, hm_s35, hm_l35, hm_a36, hm_s36, hm_l36, hm_a37, hm_s37, hm_l37, hm_a38, hm_s38, hm_l38, hm_a39, hm_s39, hm_l39, hm_a40, hm_s40, hm_l40, hm_a41, hm_s41, hm_l41, hm_a42, hm_s42, hm_l42, hm_a43, hm_s43, hm_l43, hm_a44, hm_s44, hm_l44, hm_a45, hm_s45, hm_l45, hm_a46, hm_s46, hm_l46, hm_a47, hm_s47, hm_l47, hm_a48, hm_s48, hm_l48, hm_a49, hm_s49, hm_l49, hm_a50, hm_s50, hm_l50, hm_a51, hm_s51, hm_l51, hm_a52, hm_s52, hm_l52, hm_a53, hm_s53, hm_l53, hm_a54, hm_s54, hm_l54, hm_a55, hm_s55, hm_l55, hm_a56, hm_s56, hm_l56]
        rw [n_le (by omega) (by omega)]
        refine ⟨fun _ => ?_, fun z => absurd (by omega) z⟩
        rw [List.length_append, Nat.add_sub_cancel_left] at hQ
        rw [List.take_of_length_le (by omega)] at hr
        refine hQ.now (h1.book hB2 ?_ hr (fun k hk => ?_) (am_us _ _ _) (fun m hm => hA m (by omega) (by omega) (by omega)))
        · rw [am_un (by decide), i1, List.length_append, show t = L.length by omega]
        · rw [am_un (by omega), hI k (by omega)]
      | succ r ih =>
        intro t I2 A2 x2 ht i1 hr hI hA
        have i2 : I2 2 = nI L.length := (hI 2 (by decide)).trans hL.2.2.1
        have hu : L[t]? = some (L[t]'(by omega)) := List.getElem?_eq_getElem (by omega)
        generalize L[t]'(by omega) = u at hu
        have huE := hL.2.1 u (List.mem_of_getElem? hu)
        have hu7 := huE.2.1.2
        have hu8 := huE.2.2.2.1
        obtain ⟨w1, w2, w3⟩ := hL.2.2.2 t u (by omega) hu
        refine g31 _ _ _ ?_
        simp only [B_X9_learn_31, i2, am_us, am_un, Nat.reduceEqDiff, not_false_eq_true, ak_c, ak_il, ak_ll, ak_al, ak_is, ak_as, ak_ls, ak_ii, ak_ib, ak_id, ak_lb, ak_lx, ak_lc, ak_iu, ak_i2l, ak_l2i, ak_dup, ak_dup2, ak_pop, ak_if, ak_ic, ak_sw, am_sws, ak_get, ak_puti, ak_putz, ak_putl, ak_puta, ak_iald, ak_lald, ak_iast, ak_last, ak_alen, ak_cs, ak_cv, ak_ri, ak_rz, ak_rl, ak_rv, am_ent, am_sp, am_pu, am_rs, Value.category, am_st1, am_st2, am_clr, List.getElem?_cons_zero, List.getElem?_cons_succ, List.set_cons_zero, List.set_cons_succ, List.length_cons, List.length_nil, Nat.reduceAdd, Nat.reduceLT, Nat.reduceLeDiff, Nat.zero_add, Nat.add_zero, true_and, and_true, or_true, true_or, if_true, if_false, Option.some.injEq, true_implies, false_implies, not_true_eq_false, not_false_eq_true, hm_i34, hm_f34_0, hm_p34_0, hm_f34_1, hm_f34_2, hm_p34_2, hm_f34_3, hm_f34_4, hm_f34_5, hm_f34_6, hm_p34_6, hm_f34_7, hm_f34_8, hm_f34_9, hm_f34_10, hm_p34_10, hm_f34_11, hm_f34_12, hm_f34_13, hm_f34_14, hm_f34_15, hm_f34_16, hm_p34_16, hm_f34_17, hm_p34_17, hm_f34_18, hm_p34_18, hm_f34_19, hm_p34_19, hm_f34_20, hm_p34_20, hm_f34_21, hm_p34_21, hm_f34_22, hm_p34_22, hm_f34_23, hm_p34_23, hm_f34_24, hm_p34_24, hm_f34_25, hm_p34_25, hm_f34_26, hm_f34_27, hm_f34_28, hm_p34_28, hm_f34_29, hm_p34_29, hm_f34_30, hm_f34_31, hm_f34_32, hm_p34_32, hm_f34_33, hm_f34_34, hm_f34_35, hm_f34_36, hm_f34_37, hm_f34_38, hm_a35, hm_s35, hm_l35, hm_a36, hm_s36, hm_l36, hm_a37, hm_s37, hm_l37, hm_a38, hm_s38, hm_l38, hm_a39, hm_s39, hm_l39, hm_a40, hm_s40, hm_l40, hm_a41, hm_s41, hm_l41, hm_a42, hm_s42, hm_l42, hm_a43, hm_s43, hm_l43, hm_a44, hm_s44, hm_l44, hm_a45, hm_s45, hm_l45, hm_a46, hm_s46, hm_l46, hm_a47, hm_s47, hm_l47, hm_a48, hm_s48, hm_l48, hm_a49, hm_s49, hm_l49, hm_a50, hm_s50, hm_l50, hm_a51, hm_s51, hm_l51, hm_a52, hm_s52, hm_l52, hm_a53, hm_s53, hm_l53, hm_a54, hm_s54, hm_l54, hm_a55, hm_s55, hm_l55, hm_a56, hm_s56, hm_l56]
        rw [n_le (by omega) (by omega)]
        refine ⟨fun z => absurd z (by omega), fun _ => ?_⟩
        generalize hE : s.2.2.1.length + t = E at i1
        have e4 : A2 4 = A1 4 := hA 4 (by decide) (by decide) (by decide)
        have e5 : A2 5 = A1 5 := hA 5 (by decide) (by decide) (by decide)
        have e6 : A2 6 = A1 6 := hA 6 (by decide) (by decide) (by decide)
        have l2 : ∀ r k (R1 R2 : Nat → Int32), k + r = 9 → (∀ c, c < 8 → R1 (8 * E + c) = A1 4 (8 * t + c)) → (∀ m, m < 8 * E → R1 m = A2 1 m) → (∀ c, c < k → R2 (9 * E + c) = A1 5 (9 * t + c)) → (∀ m, m < 9 * E → R2 m = A2 2 m) → G 80 [some (.ref 34), some (.int (nI t)), some (.int (nI k))] [] (HM hd I2 (am_u (am_u A2 1 R1) 2 R2) T) := by
          intro r
          induction r with
          | zero =>
            intro k R1 R2 hk a1 a2 a3 a4
            obtain rfl : k = 9 := by omega
            refine g80 _ _ _ ?_
            simp only [B_X9_learn_80, i1, am_us, am_un, Nat.reduceEqDiff, not_false_eq_true, ak_c, ak_il, ak_ll, ak_al, ak_is, ak_as, ak_ls, ak_ii, ak_ib, ak_id, ak_lb, ak_lx, ak_lc, ak_iu, ak_i2l, ak_l2i, ak_dup, ak_dup2, ak_pop, ak_if, ak_ic, ak_sw, am_sws, ak_get, ak_puti, ak_putz, ak_putl, ak_puta, ak_iald, ak_lald, ak_iast, ak_last, ak_alen, ak_cs, ak_cv, ak_ri, ak_rz, ak_rl, ak_rv, am_ent, am_sp, am_pu, am_rs, Value.category, am_st1, am_st2, am_clr, List.getElem?_cons_zero, List.getElem?_cons_succ, List.set_cons_zero, List.set_cons_succ, List.length_cons, List.length_nil, Nat.reduceAdd, Nat.reduceLT, Nat.reduceLeDiff, Nat.zero_add, Nat.add_zero, true_and, and_true, or_true, true_or, if_true, if_false, Option.some.injEq, true_implies, false_implies, not_true_eq_false, not_false_eq_true, hm_i34, hm_f34_0, hm_p34_0, hm_f34_1, hm_f34_2, hm_p34_2, hm_f34_3, hm_f34_4, hm_f34_5, hm_f34_6, hm_p34_6, hm_f34_7, hm_f34_8, hm_f34_9, hm_f34_10, hm_p34_10, hm_f34_11, hm_f34_12, hm_f34_13, hm_f34_14, hm_f34_15, hm_f34_16, hm_p34_16, hm_f34_17, hm_p34_17, hm_f34_18, hm_p34_18, hm_f34_19, hm_p34_19, hm_f34_20, hm_p34_20, hm_f34_21, hm_p34_21, hm_f34_22, hm_p34_22, hm_f34_23, hm_p34_23, hm_f34_24, hm_p34_24, hm_f34_25, hm_p34_25, hm_f34_26, hm_f34_27, hm_f34_28, hm_p34_28, hm_f34_29, hm_p34_29, hm_f34_30, hm_f34_31, hm_f34_32, hm_p34_32, hm_f34_33, hm_f34_34, hm_f34_35, hm_f34_36, hm_f34_37, hm_f34_38, hm_a35, hm_s35, hm_l35, hm_a36, hm_s36, hm_l36, hm_a37, hm_s37, hm_l37, hm_a38, hm_s38, hm_l38, hm_a39, hm_s39, hm_l39, hm_a40, hm_s40, hm_l40, hm_a41, hm_s41, hm_l41, hm_a42, hm_s42, hm_l42, hm_a43, hm_s43, hm_l43, hm_a44, hm_s44, hm_l44, hm_a45, hm_s45, hm_l45, hm_a46, hm_s46, hm_l46, hm_a47, hm_s47, hm_l47, hm_a48, hm_s48, hm_l48, hm_a49, hm_s49, hm_l49, hm_a50, hm_s50, hm_l50, hm_a51, hm_s51, hm_l51, hm_a52, hm_s52, hm_l52, hm_a53, hm_s53, hm_l53, hm_a54, hm_s54, hm_l54, hm_a55, hm_s55, hm_l55, hm_a56, hm_s56, hm_l56]
            refine ⟨fun _ => ?_, fun z => absurd (by decide) z⟩
            rw [n_cl (by omega), n_cl (by omega), n_add1, n_add1, e6, w3]
            refine ⟨vp_in_nI (by omega) (by omega), vp_in_nI (by omega) (by omega), ?_⟩
            have hlen : (s.2.2.1 ++ L.take t).length = E := by rw [List.length_append, List.length_take]; omega
            refine ih (t + 1) _ _ _ (by omega) (by rw [am_us, ← hE]; rfl) ?_ (fun k hk => (am_un hk).trans (hI k hk)) (fun m h1 h2 h3 => by rw [am_un h3, am_un h2, am_un h1]; exact hA m h1 h2 h3)
            intro e x hx
            have et : L.take (t + 1) = L.take t ++ [u] := by rw [List.take_succ, hu]; rfl
            rw [et, ← List.append_assoc] at hx
            by_cases he : e < E
            · rw [List.getElem?_append_left (by omega)] at hx
              obtain ⟨⟨r1, r2⟩, ⟨r3, r4⟩, r5⟩ := hr e x hx
              have hxm : x ∈ s.2.2.1 ++ L := by
                rcases List.mem_append.mp (List.mem_of_getElem? hx) with z | z
                · exact List.mem_append_left _ z
                · exact List.mem_append_right _ (List.mem_of_mem_take z)
              have hxE := hB2.2.1 x hxm
              have hx7 := hxE.2.1.2
              have hx8 := hxE.2.2.2.1
              refine ⟨⟨?_, fun c y hy => ?_⟩, ⟨?_, fun c y hy => ?_⟩, ?_⟩
              · rw [am_un (by decide), am_un (by decide), am_us, a2 _ (by omega)]; exact r1
              · have := (List.getElem?_eq_some_iff.mp hy).1
                rw [am_un (by decide), am_un (by decide), am_us, a2 _ (by omega)]; exact r2 c y hy
              · rw [am_un (by decide), am_us, a4 _ (by omega)]; exact r3
              · have := (List.getElem?_eq_some_iff.mp hy).1
                rw [am_un (by decide), am_us, a4 _ (by omega)]; exact r4 c y hy
              · rw [am_us, n_up, if_neg (by omega)]; exact r5
            · have hlt := (List.getElem?_eq_some_iff.mp hx).1
              rw [List.length_append, List.length_singleton, hlen] at hlt
              have ee : e = E := by omega
              rw [List.getElem?_append_right (by omega), hlen, ee, Nat.sub_self] at hx
              cases hx
              rw [ee]
              refine ⟨⟨?_, fun c y hy => ?_⟩, ⟨?_, fun c y hy => ?_⟩, ?_⟩
              · rw [am_un (by decide), am_un (by decide), am_us]
                have := a1 0 (by omega)
                rw [Nat.add_zero, Nat.add_zero] at this
                rw [this]; exact w1.1
              · have hc := (List.getElem?_eq_some_iff.mp hy).1
                rw [am_un (by decide), am_un (by decide), am_us, show 8 * E + 1 + c = 8 * E + (1 + c) by omega, a1 (1 + c) (by omega), show 8 * t + (1 + c) = 8 * t + 1 + c by omega]
                exact w1.2 c y hy
              · rw [am_un (by decide), am_us]
                have := a3 0 (by omega)
                rw [Nat.add_zero, Nat.add_zero] at this
                rw [this]; exact w2.1
              · have hc := (List.getElem?_eq_some_iff.mp hy).1
                rw [am_un (by decide), am_us, show 9 * E + 1 + c = 9 * E + (1 + c) by omega, a3 (1 + c) (by omega), show 9 * t + (1 + c) = 9 * t + 1 + c by omega]
                exact w2.2 c y hy
              · rw [am_us, n_up, if_pos rfl]
          | succ r ih2 =>
            intro k R1 R2 hk a1 a2 a3 a4
            refine g80 _ _ _ ?_
            simp only [B_X9_learn_80, i1, am_us, am_un, Nat.reduceEqDiff, not_false_eq_true, ak_c, ak_il, ak_ll, ak_al, ak_is, ak_as, ak_ls, ak_ii, ak_ib, ak_id, ak_lb, ak_lx, ak_lc, ak_iu, ak_i2l, ak_l2i, ak_dup, ak_dup2, ak_pop, ak_if, ak_ic, ak_sw, am_sws, ak_get, ak_puti, ak_putz, ak_putl, ak_puta, ak_iald, ak_lald, ak_iast, ak_last, ak_alen, ak_cs, ak_cv, ak_ri, ak_rz, ak_rl, ak_rv, am_ent, am_sp, am_pu, am_rs, Value.category, am_st1, am_st2, am_clr, List.getElem?_cons_zero, List.getElem?_cons_succ, List.set_cons_zero, List.set_cons_succ, List.length_cons, List.length_nil, Nat.reduceAdd, Nat.reduceLT, Nat.reduceLeDiff, Nat.zero_add, Nat.add_zero, true_and, and_true, or_true, true_or, if_true, if_false, Option.some.injEq, true_implies, false_implies, not_true_eq_false, not_false_eq_true, hm_i34, hm_f34_0, hm_p34_0, hm_f34_1, hm_f34_2, hm_p34_2, hm_f34_3, hm_f34_4, hm_f34_5, hm_f34_6, hm_p34_6, hm_f34_7, hm_f34_8, hm_f34_9, hm_f34_10, hm_p34_10, hm_f34_11, hm_f34_12, hm_f34_13, hm_f34_14, hm_f34_15, hm_f34_16, hm_p34_16, hm_f34_17, hm_p34_17, hm_f34_18, hm_p34_18, hm_f34_19, hm_p34_19, hm_f34_20, hm_p34_20, hm_f34_21, hm_p34_21, hm_f34_22, hm_p34_22, hm_f34_23, hm_p34_23, hm_f34_24, hm_p34_24, hm_f34_25, hm_p34_25, hm_f34_26, hm_f34_27, hm_f34_28, hm_p34_28, hm_f34_29, hm_p34_29, hm_f34_30, hm_f34_31, hm_f34_32, hm_p34_32, hm_f34_33, hm_f34_34, hm_f34_35, hm_f34_36, hm_f34_37, hm_f34_38, hm_a35, hm_s35, hm_l35, hm_a36, hm_s36, hm_l36, hm_a37, hm_s37, hm_l37, hm_a38, hm_s38, hm_l38, hm_a39, hm_s39, hm_l39, hm_a40, hm_s40, hm_l40, hm_a41, hm_s41, hm_l41, hm_a42, hm_s42, hm_l42, hm_a43, hm_s43, hm_l43, hm_a44, hm_s44, hm_l44, hm_a45, hm_s45, hm_l45, hm_a46, hm_s46, hm_l46, hm_a47, hm_s47, hm_l47, hm_a48, hm_s48, hm_l48, hm_a49, hm_s49, hm_l49, hm_a50, hm_s50, hm_l50, hm_a51, hm_s51, hm_l51, hm_a52, hm_s52, hm_l52, hm_a53, hm_s53, hm_l53, hm_a54, hm_s54, hm_l54, hm_a55, hm_s55, hm_l55, hm_a56, hm_s56, hm_l56]
            simp (disch := omega) only [n_lit, n_litL, n_shr, n_shl, n_lt, n_le, n_eq, pk_mul, nI_add, n_cl, n_sub, Nat.reduceAdd, Nat.not_lt_zero, Nat.zero_le, true_implies, false_implies, not_true_eq_false, not_false_eq_true, true_and, and_true]
            refine ⟨fun z => absurd z (by omega), fun _ => ⟨vp_in_nI (by omega) (by omega), vp_in_nI (by omega) (by omega), ?_⟩⟩
            rw [au2]
            refine ih2 (k + 1) R1 _ (by omega) a1 a2 (fun c hc => ?_) (fun m hm => ?_)
            · rw [n_up]
              by_cases ec : c = k
              · rw [if_pos (by rw [ec]), ec, e5]
              · rw [if_neg (by omega)]
                exact a3 c (by omega)
            · rw [n_up, if_neg (by omega)]
              exact a4 m hm
        have l1 : ∀ r k (R1 : Nat → Int32), k + r = 8 → (∀ c, c < k → R1 (8 * E + c) = A1 4 (8 * t + c)) → (∀ m, m < 8 * E → R1 m = A2 1 m) → G 41 [some (.ref 34), some (.int (nI t)), some (.int (nI k))] [] (HM hd I2 (am_u A2 1 R1) T) := by
          intro r
          induction r with
          | zero =>
            intro k R1 hk a1 a2
            obtain rfl : k = 8 := by omega
            refine g41 _ _ _ ?_
            simp only [B_X9_learn_41, am_us, am_un, Nat.reduceEqDiff, not_false_eq_true, ak_c, ak_il, ak_ll, ak_al, ak_is, ak_as, ak_ls, ak_ii, ak_ib, ak_id, ak_lb, ak_lx, ak_lc, ak_iu, ak_i2l, ak_l2i, ak_dup, ak_dup2, ak_pop, ak_if, ak_ic, ak_sw, am_sws, ak_get, ak_puti, ak_putz, ak_putl, ak_puta, ak_iald, ak_lald, ak_iast, ak_last, ak_alen, ak_cs, ak_cv, ak_ri, ak_rz, ak_rl, ak_rv, am_ent, am_sp, am_pu, am_rs, Value.category, am_st1, am_st2, am_clr, List.getElem?_cons_zero, List.getElem?_cons_succ, List.set_cons_zero, List.set_cons_succ, List.length_cons, List.length_nil, Nat.reduceAdd, Nat.reduceLT, Nat.reduceLeDiff, Nat.zero_add, Nat.add_zero, true_and, and_true, or_true, true_or, if_true, if_false, Option.some.injEq, true_implies, false_implies, not_true_eq_false, not_false_eq_true, hm_i34, hm_f34_0, hm_p34_0, hm_f34_1, hm_f34_2, hm_p34_2, hm_f34_3, hm_f34_4, hm_f34_5, hm_f34_6, hm_p34_6, hm_f34_7, hm_f34_8, hm_f34_9, hm_f34_10, hm_p34_10, hm_f34_11, hm_f34_12, hm_f34_13, hm_f34_14, hm_f34_15, hm_f34_16, hm_p34_16, hm_f34_17, hm_p34_17, hm_f34_18, hm_p34_18, hm_f34_19, hm_p34_19, hm_f34_20, hm_p34_20, hm_f34_21, hm_p34_21, hm_f34_22, hm_p34_22, hm_f34_23, hm_p34_23, hm_f34_24, hm_p34_24, hm_f34_25, hm_p34_25, hm_f34_26, hm_f34_27, hm_f34_28, hm_p34_28, hm_f34_29, hm_p34_29, hm_f34_30, hm_f34_31, hm_f34_32, hm_p34_32, hm_f34_33, hm_f34_34, hm_f34_35, hm_f34_36, hm_f34_37, hm_f34_38, hm_a35, hm_s35, hm_l35, hm_a36, hm_s36, hm_l36, hm_a37, hm_s37, hm_l37, hm_a38, hm_s38, hm_l38, hm_a39, hm_s39, hm_l39, hm_a40, hm_s40, hm_l40, hm_a41, hm_s41, hm_l41, hm_a42, hm_s42, hm_l42, hm_a43, hm_s43, hm_l43, hm_a44, hm_s44, hm_l44, hm_a45, hm_s45, hm_l45, hm_a46, hm_s46, hm_l46, hm_a47, hm_s47, hm_l47, hm_a48, hm_s48, hm_l48, hm_a49, hm_s49, hm_l49, hm_a50, hm_s50, hm_l50, hm_a51, hm_s51, hm_l51, hm_a52, hm_s52, hm_l52, hm_a53, hm_s53, hm_l53, hm_a54, hm_s54, hm_l54, hm_a55, hm_s55, hm_l55, hm_a56, hm_s56, hm_l56]
            refine ⟨fun _ => ?_, fun z => absurd (by decide) z⟩
            have := l2 9 0 R1 (A2 2) (by omega) a1 a2 (fun c hc => absurd hc (by omega)) (fun m hm => rfl)
            rw [show am_u (am_u A2 1 R1) 2 (A2 2) = am_u A2 1 R1 from by
              have := au0 (am_u A2 1 R1) 2
              rw [am_un (by decide)] at this
              exact this] at this
            exact this
          | succ r ih1 =>
            intro k R1 hk a1 a2
            refine g41 _ _ _ ?_
            simp only [B_X9_learn_41, i1, am_us, am_un, Nat.reduceEqDiff, not_false_eq_true, ak_c, ak_il, ak_ll, ak_al, ak_is, ak_as, ak_ls, ak_ii, ak_ib, ak_id, ak_lb, ak_lx, ak_lc, ak_iu, ak_i2l, ak_l2i, ak_dup, ak_dup2, ak_pop, ak_if, ak_ic, ak_sw, am_sws, ak_get, ak_puti, ak_putz, ak_putl, ak_puta, ak_iald, ak_lald, ak_iast, ak_last, ak_alen, ak_cs, ak_cv, ak_ri, ak_rz, ak_rl, ak_rv, am_ent, am_sp, am_pu, am_rs, Value.category, am_st1, am_st2, am_clr, List.getElem?_cons_zero, List.getElem?_cons_succ, List.set_cons_zero, List.set_cons_succ, List.length_cons, List.length_nil, Nat.reduceAdd, Nat.reduceLT, Nat.reduceLeDiff, Nat.zero_add, Nat.add_zero, true_and, and_true, or_true, true_or, if_true, if_false, Option.some.injEq, true_implies, false_implies, not_true_eq_false, not_false_eq_true, hm_i34, hm_f34_0, hm_p34_0, hm_f34_1, hm_f34_2, hm_p34_2, hm_f34_3, hm_f34_4, hm_f34_5, hm_f34_6, hm_p34_6, hm_f34_7, hm_f34_8, hm_f34_9, hm_f34_10, hm_p34_10, hm_f34_11, hm_f34_12, hm_f34_13, hm_f34_14, hm_f34_15, hm_f34_16, hm_p34_16, hm_f34_17, hm_p34_17, hm_f34_18, hm_p34_18, hm_f34_19, hm_p34_19, hm_f34_20, hm_p34_20, hm_f34_21, hm_p34_21, hm_f34_22, hm_p34_22, hm_f34_23, hm_p34_23, hm_f34_24, hm_p34_24, hm_f34_25, hm_p34_25, hm_f34_26, hm_f34_27, hm_f34_28, hm_p34_28, hm_f34_29, hm_p34_29, hm_f34_30, hm_f34_31, hm_f34_32, hm_p34_32, hm_f34_33, hm_f34_34, hm_f34_35, hm_f34_36, hm_f34_37, hm_f34_38, hm_a35, hm_s35, hm_l35, hm_a36, hm_s36, hm_l36, hm_a37, hm_s37, hm_l37, hm_a38, hm_s38, hm_l38, hm_a39, hm_s39, hm_l39, hm_a40, hm_s40, hm_l40, hm_a41, hm_s41, hm_l41, hm_a42, hm_s42, hm_l42, hm_a43, hm_s43, hm_l43, hm_a44, hm_s44, hm_l44, hm_a45, hm_s45, hm_l45, hm_a46, hm_s46, hm_l46, hm_a47, hm_s47, hm_l47, hm_a48, hm_s48, hm_l48, hm_a49, hm_s49, hm_l49, hm_a50, hm_s50, hm_l50, hm_a51, hm_s51, hm_l51, hm_a52, hm_s52, hm_l52, hm_a53, hm_s53, hm_l53, hm_a54, hm_s54, hm_l54, hm_a55, hm_s55, hm_l55, hm_a56, hm_s56, hm_l56]
            simp (disch := omega) only [n_lit, n_litL, n_shr, n_shl, n_lt, n_le, n_eq, pk_mul, nI_add, n_cl, n_sub, Nat.reduceAdd, Nat.not_lt_zero, Nat.zero_le, true_implies, false_implies, not_true_eq_false, not_false_eq_true, true_and, and_true]
            refine ⟨fun z => absurd z (by omega), fun _ => ⟨vp_in_nI (by omega) (by omega), vp_in_nI (by omega) (by omega), ?_⟩⟩
            rw [au2]
            refine ih1 (k + 1) _ (by omega) (fun c hc => ?_) (fun m hm => ?_)
            · rw [n_up]
              by_cases ec : c = k
              · rw [if_pos (by rw [ec]), ec, e4]
              · rw [if_neg (by omega)]
                exact a1 c (by omega)
            · rw [n_up, if_neg (by omega)]
              exact a2 m hm
        have := l1 8 0 (A2 1) (by omega) (fun c hc => absurd hc (by omega)) (fun m hm => rfl)
        rw [au0] at this
        exact this
    exact outer L.length 0 I1 A1 _ (by omega) hB1.2.1 (by rw [List.take_zero, List.append_nil]; exact hB1.2.2) (fun _ _ => rfl) (fun _ _ _ _ => rfl)
end RF26
