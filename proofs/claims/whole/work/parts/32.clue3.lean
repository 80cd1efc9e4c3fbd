/-! the clue: anagrams, initials, hidden letters -/
def mu_fl (cl : List (List Nat)) (i j : Nat) : List Nat := (cl.flatten.take (ml_s cl j)).drop (ml_s cl i)
def mu_ana (l sp : List Nat) : Bool := decide (¬ l = sp) && l.isPerm sp
def mu_ini (cl : List (List Nat)) (i n : Nat) : List Nat := (List.range n).map (fun k => (cl.getD (i + k) []).headD 0)
def mu_hid (cl : List (List Nat)) (i j : Nat) (sp : List Nat) (fr : Nat) : Bool := decide (ml_s cl (j - 1) < fr + sp.length) && (decide (fr + sp.length < ml_s cl j) && decide ((cl.flatten.drop fr).take sp.length = sp))
def mu_hids (cl : List (List Nat)) (i j : Nat) (sp : List Nat) : List Nat := (List.range ((cl.getD i []).length - 1)).filter (fun k => mu_hid cl i j sp (ml_s cl i + 1 + k))
theorem mk_pd_eq {w : List Nat} (h : w.length ≤ 12) : mk_pd w = w ++ List.replicate (12 - w.length) 0 := by
  refine List.ext_getElem ?_ (fun i h1 h2 => ?_)
  · rw [mk_pd, List.length_map, List.length_range, List.length_append, List.length_replicate]; omega
  · simp only [mk_pd, List.getElem_map, List.getElem_range]
    rw [List.getElem_append, List.getD_eq_getElem?_getD]
    split
    · next q => rw [List.getElem?_eq_getElem q]; rfl
    · next q => rw [List.getElem?_eq_none (by omega), List.getElem_replicate]; rfl
theorem mk_cnt : ∀ {a b : List Nat}, (∀ d ∈ a, a.count d ≤ b.count d) → b.length = a.length → a.Perm b
  | [], b, _, h => by
    have e : b = [] := List.eq_nil_of_length_eq_zero h
    subst e
    exact List.Perm.refl _
  | d :: r, b, h, hl => by
    have h1 := h d List.mem_cons_self
    rw [List.count_cons_self] at h1
    have hm : d ∈ b := List.count_pos_iff.mp (by omega)
    have hp := List.perm_cons_erase hm
    have hlen := hp.length_eq
    refine (List.Perm.cons d (mk_cnt (a := r) (b := b.erase d) (fun x hx => ?_) ?_)).trans hp.symm
    · have h2 := h x (List.mem_cons_of_mem _ hx)
      have h3 := hp.count_eq x
      rw [List.count_cons] at h2 h3
      omega
    · rw [List.length_cons] at hlen hl
      omega
theorem mk_sm_iff {l sp : List Nat} (hl : l.length = sp.length) (h12 : sp.length ≤ 12) : mk_sm sp l = true ↔ l.Perm sp := by
  have e1 := mk_pd_eq h12
  have e2 := mk_pd_eq (w := l) (by omega)
  rw [hl] at e2
  constructor
  · intro h
    unfold mk_sm at h
    rw [List.all_eq_true] at h
    have hp : (mk_pd sp).Perm (mk_pd l) := mk_cnt (fun d hd => by
      obtain ⟨i, hi, rfl⟩ := List.mem_map.mp hd
      exact Nat.le_of_eq (decide_eq_true_eq.mp (h i hi))) (by simp only [mk_pd, List.length_map])
    rw [e1, e2] at hp
    exact ((List.perm_append_right_iff _).mp hp).symm
  · intro h
    have hp : (mk_pd l).Perm (mk_pd sp) := by rw [e1, e2]; exact h.append_right _
    unfold mk_sm
    rw [List.all_eq_true]
    exact fun i _ => decide_eq_true (hp.count_eq _).symm
theorem mu_ana_iff {l sp : List Nat} (hl : l.length = sp.length) (h12 : sp.length ≤ 12) : mu_ana l sp = true ↔ ¬ l = sp ∧ mk_sm sp l = true := by
  unfold mu_ana
  rw [Bool.and_eq_true, decide_eq_true_eq, List.isPerm_iff, mk_sm_iff hl h12]
theorem mk_W.flat {cl : List (List Nat)} (h : ∀ x ∈ cl, mk_W x) : mk_W cl.flatten := fun d hd => by
  obtain ⟨x, hx, hdx⟩ := List.mem_flatten.mp hd
  exact h x hx d hdx
theorem ml_s_mono (cl : List (List Nat)) {i j : Nat} (h : i ≤ j) : ml_s cl i ≤ ml_s cl j := by
  have : cl.take i = (cl.take j).take i := by rw [List.take_take, Nat.min_eq_left h]
  have h2 := ml_s_le (cl.take j) i
  unfold ml_s at h2 ⊢
  rw [← this] at h2
  exact h2
theorem mu_fl_len {cl : List (List Nat)} {i j : Nat} (h : i ≤ j) : (mu_fl cl i j).length = ml_s cl j - ml_s cl i := by
  unfold mu_fl
  have := ml_s_le cl j
  rw [List.length_drop, List.length_take, ml_flat, Nat.min_eq_left this]
theorem mu_31 : ∀ c, c < 27 → nI (96 + c) &&& 31 = nI c := by decide +kernel
theorem ml_head {cl : List (List Nat)} {w : Nat} {x : List Nat} (h : cl[w]? = some x) (hx : 1 ≤ x.length) : cl.flatten[ml_s cl w]? = some (x.headD 0) := by
  have hw := (List.getElem?_eq_some_iff.mp h).1
  have e : cl = cl.take w ++ x :: cl.drop (w + 1) := by
    have h1 : cl.drop w = x :: cl.drop (w + 1) := by
      rw [List.drop_eq_getElem_cons hw]
      congr 1
      exact (List.getElem?_eq_some_iff.mp h).2
    rw [← h1, List.take_append_drop]
  have hf : cl.flatten = (cl.take w).flatten ++ (x ++ (cl.drop (w + 1)).flatten) := by
    conv => lhs; rw [e]
    simp
  have hl : (cl.take w).flatten.length = ml_s cl w := ml_flat _
  rw [hf, List.getElem?_append_right (by omega), hl, Nat.sub_self]
  cases x with
  | nil => simp at hx
  | cons a r => simp
theorem p_X2_withK {h : am_H} {Q : am_Q} {w : List Nat} {k : Nat} (hk : w.length = k) (hw : mk_W w) (hl : k < 12) {c d : Nat} (hc : nI c &&& 31 = nI d) (hd : d < 32) (hQ : Q (some (.long (lN (mk_pk (w ++ [d]))))) h) : K_X2_with [.long (lN (mk_pk w)), .int (nI k), .int (nI c)] h Q := by
  subst hk
  exact p_X2_with hw hl hc hd hQ
section CL3
variable {I : Nat → Int32} {J : Nat → Int64} {A : Nat → Nat → Int32} {B : Nat → Nat → Int64} {tl : am_H} {Q : am_Q} {cl : List (List Nat)}
theorem rc_C.bd (hC : rc_C I A B cl) : ml_t cl ≤ 42 := by
  have := hC.1.le
  have := hC.1.2.1
  omega
theorem p_X1_isAnagram (hC : rc_C I A B cl) {i j : Nat} {sp : List Nat} (hij : i ≤ j) (hj : j ≤ cl.length) (hs : mk_W sp) (hs8 : sp.length ≤ 8) (hQ : Q (some (.int (if mu_ana (mu_fl cl i j) sp then 1 else 0))) (HC I J A B tl)) : K_X1_isAnagram [.ref 7, .int (nI i), .int (nI j), .long (lN (mk_pk sp))] (HC I J A B tl) Q := by
  refine ⟨Nat.le_of_ble_eq_true rfl, fun G hG => ?_⟩
  obtain ⟨g0, g33, g93, g94⟩ := hG
  refine g0 _ _ _ ?_
  have h6 := hC.1.2.1
  have hbd := hC.bd
  have hsj := ml_s_le cl j
  have hsi := ml_s_mono cl hij
  have hlen := mu_fl_len (cl := cl) hij
  have hW : mk_W cl.flatten := mk_W.flat (fun x hx => (hC.1.2.2 x hx).1)
  have hW2 : mk_W (mu_fl cl i j) := (hW.take _).drop _
  have zero : mu_ana (mu_fl cl i j) sp = false → ∀ v5 v7, G 93 [some (.ref 7), some (.int (nI i)), some (.int (nI j)), some (.long (lN (mk_pk sp))), none, v5, none, v7] [] (HC I J A B tl) := by
    intro hz v5 v7
    refine g93 _ _ _ ?_
    simp only [B_X1_isAnagram_93, am_us, am_un, Nat.reduceEqDiff, not_false_eq_true, ak_c, ak_il, ak_ll, ak_al, ak_is, ak_as, ak_ls, ak_ii, ak_ib, ak_id, ak_lb, ak_lx, ak_lc, ak_iu, ak_i2l, ak_l2i, ak_dup, ak_dup2, ak_pop, ak_if, ak_ic, ak_sw, am_sws, ak_get, ak_puti, ak_putz, ak_putl, ak_puta, ak_iald, ak_lald, ak_iast, ak_last, ak_alen, ak_cs, ak_cv, ak_ri, ak_rz, ak_rl, ak_rv, am_ent, am_sp, am_pu, am_rs, Value.category, am_st1, am_st2, am_clr, List.getElem?_cons_zero, List.getElem?_cons_succ, List.set_cons_zero, List.set_cons_succ, List.length_cons, List.length_nil, Nat.reduceAdd, Nat.reduceLT, Nat.reduceLeDiff, Nat.zero_add, Nat.add_zero, true_and, and_true, or_true, true_or, if_true, if_false, Option.some.injEq, true_implies, false_implies, not_true_eq_false, not_false_eq_true, hc_i0, hc_f0_0, hc_f0_1, hc_f0_2, hc_f0_3, hc_f0_4, hc_f0_5, hc_f0_6, hc_p0_6, hc_i1, hc_f1_0, hc_f1_1, hc_p1_1, hc_a2, hc_s2, hc_l2, hc_i3, hc_f3_0, hc_f3_1, hc_f3_2, hc_f3_3, hc_p3_3, hc_a4, hc_s4, hc_l4, hc_a5, hc_s5, hc_l5, hc_a6, hc_s6, hc_l6, hc_i7, hc_f7_0, hc_f7_1, hc_f7_2, hc_f7_3, hc_p7_3, hc_a8, hc_s8, hc_l8, hc_a9, hc_s9, hc_l9, hc_a10, hc_s10, hc_l10, hc_a11, hc_s11, hc_l11, hc_i12, hc_f12_0, hc_f12_1, hc_f12_2, hc_f12_3, hc_f12_4, hc_f12_5, hc_f12_6, hc_f12_7, hc_p12_7, hc_f12_8, hc_p12_8, hc_f12_9, hc_p12_9, hc_f12_10, hc_p12_10, hc_f12_11, hc_p12_11, hc_i13, hc_f13_0, hc_f13_1, hc_f13_2, hc_f13_3, hc_f13_4, hc_a14, hc_s14, hc_l14, hc_a15, hc_s15, hc_l15, hc_a16, hc_s16, hc_l16, hc_a17, hc_s17, hc_l17, hc_a18, hc_s18, hc_l18, hc_i19, hc_f19_0, hc_f19_1, hc_f19_2, hc_f19_3, hc_f19_4, hc_a20, hc_s20, hc_l20, hc_a21, hc_s21, hc_l21, hc_a22, hc_s22, hc_l22, hc_a23, hc_s23, hc_l23, hc_a24, hc_s24, hc_l24, hc_i25, hc_f25_0, hc_f25_1, hc_f25_2, hc_f25_3, hc_f25_4, hc_a26, hc_s26, hc_l26, hc_a27, hc_s27, hc_l27, hc_a28, hc_s28, hc_l28, hc_a29, hc_s29, hc_l29, hc_a30, hc_s30, hc_l30, hc_a31, hc_s31, hc_l31, hc_i32, hc_f32_0, hc_f32_1, hc_p32_1, hc_f32_2, hc_p32_2, hc_f32_3, hc_a33, hc_s33, hc_l33]
    refine g94 _ _ _ ?_
    simp only [B_X1_isAnagram_94, am_us, am_un, Nat.reduceEqDiff, not_false_eq_true, ak_c, ak_il, ak_ll, ak_al, ak_is, ak_as, ak_ls, ak_ii, ak_ib, ak_id, ak_lb, ak_lx, ak_lc, ak_iu, ak_i2l, ak_l2i, ak_dup, ak_dup2, ak_pop, ak_if, ak_ic, ak_sw, am_sws, ak_get, ak_puti, ak_putz, ak_putl, ak_puta, ak_iald, ak_lald, ak_iast, ak_last, ak_alen, ak_cs, ak_cv, ak_ri, ak_rz, ak_rl, ak_rv, am_ent, am_sp, am_pu, am_rs, Value.category, am_st1, am_st2, am_clr, List.getElem?_cons_zero, List.getElem?_cons_succ, List.set_cons_zero, List.set_cons_succ, List.length_cons, List.length_nil, Nat.reduceAdd, Nat.reduceLT, Nat.reduceLeDiff, Nat.zero_add, Nat.add_zero, true_and, and_true, or_true, true_or, if_true, if_false, Option.some.injEq, true_implies, false_implies, not_true_eq_false, not_false_eq_true, hc_i0, hc_f0_0, hc_f0_1, hc_f0_2, hc_f0_3, hc_f0_4, hc_f0_5, hc_f0_6, hc_p0_6, hc_i1, hc_f1_0, hc_f1_1, hc_p1_1, hc_a2, hc_s2, hc_l2, hc_i3, hc_f3_0, hc_f3_1, hc_f3_2, hc_f3_3, hc_p3_3, hc_a4, hc_s4, hc_l4, hc_a5, hc_s5, hc_l5, hc_a6, hc_s6, hc_l6, hc_i7, hc_f7_0, hc_f7_1, hc_f7_2, hc_f7_3, hc_p7_3, hc_a8, hc_s8, hc_l8, hc_a9, hc_s9, hc_l9, hc_a10, hc_s10, hc_l10, hc_a11, hc_s11, hc_l11, hc_i12, hc_f12_0, hc_f12_1, hc_f12_2, hc_f12_3, hc_f12_4, hc_f12_5, hc_f12_6, hc_f12_7, hc_p12_7, hc_f12_8, hc_p12_8, hc_f12_9, hc_p12_9, hc_f12_10, hc_p12_10, hc_f12_11, hc_p12_11, hc_i13, hc_f13_0, hc_f13_1, hc_f13_2, hc_f13_3, hc_f13_4, hc_a14, hc_s14, hc_l14, hc_a15, hc_s15, hc_l15, hc_a16, hc_s16, hc_l16, hc_a17, hc_s17, hc_l17, hc_a18, hc_s18, hc_l18, hc_i19, hc_f19_0, hc_f19_1, hc_f19_2, hc_f19_3, hc_f19_4, hc_a20, hc_s20, hc_l20, hc_a21, hc_s21, hc_l21, hc_a22, hc_s22, hc_l22, hc_a23, hc_s23, hc_l23, hc_a24, hc_s24, hc_l24, hc_i25, hc_f25_0, hc_f25_1, hc_f25_2, hc_f25_3, hc_f25_4, hc_a26, hc_s26, hc_l26, hc_a27, hc_s27, hc_l27, hc_a28, hc_s28, hc_l28, hc_a29, hc_s29, hc_l29, hc_a30, hc_s30, hc_l30, hc_a31, hc_s31, hc_l31, hc_i32, hc_f32_0, hc_f32_1, hc_p32_1, hc_f32_2, hc_p32_2, hc_f32_3, hc_a33, hc_s33, hc_l33]
    rw [hz] at hQ
    exact hQ
  simp only [B_X1_isAnagram_0, am_us, am_un, Nat.reduceEqDiff, not_false_eq_true, ak_c, ak_il, ak_ll, ak_al, ak_is, ak_as, ak_ls, ak_ii, ak_ib, ak_id, ak_lb, ak_lx, ak_lc, ak_iu, ak_i2l, ak_l2i, ak_dup, ak_dup2, ak_pop, ak_if, ak_ic, ak_sw, am_sws, ak_get, ak_puti, ak_putz, ak_putl, ak_puta, ak_iald, ak_lald, ak_iast, ak_last, ak_alen, ak_cs, ak_cv, ak_ri, ak_rz, ak_rl, ak_rv, am_ent, am_sp, am_pu, am_rs, Value.category, am_st1, am_st2, am_clr, List.getElem?_cons_zero, List.getElem?_cons_succ, List.set_cons_zero, List.set_cons_succ, List.length_cons, List.length_nil, Nat.reduceAdd, Nat.reduceLT, Nat.reduceLeDiff, Nat.zero_add, Nat.add_zero, true_and, and_true, or_true, true_or, if_true, if_false, Option.some.injEq, true_implies, false_implies, not_true_eq_false, not_false_eq_true, hc_i0, hc_f0_0, hc_f0_1, hc_f0_2, hc_f0_3, hc_f0_4, hc_f0_5, hc_f0_6, hc_p0_6, hc_i1, hc_f1_0, hc_f1_1, hc_p1_1, hc_a2, hc_s2, hc_l2, hc_i3, hc_f3_0, hc_f3_1, hc_f3_2, hc_f3_3, hc_p3_3, hc_a4, hc_s4, hc_l4, hc_a5, hc_s5, hc_l5, hc_a6, hc_s6, hc_l6, hc_i7, hc_f7_0, hc_f7_1, hc_f7_2, hc_f7_3, hc_p7_3, hc_a8, hc_s8, hc_l8, hc_a9, hc_s9, hc_l9, hc_a10, hc_s10, hc_l10, hc_a11, hc_s11, hc_l11, hc_i12, hc_f12_0, hc_f12_1, hc_f12_2, hc_f12_3, hc_f12_4, hc_f12_5, hc_f12_6, hc_f12_7, hc_p12_7, hc_f12_8, hc_p12_8, hc_f12_9, hc_p12_9, hc_f12_10, hc_p12_10, hc_f12_11, hc_p12_11, hc_i13, hc_f13_0, hc_f13_1, hc_f13_2, hc_f13_3, hc_f13_4, hc_a14, hc_s14, hc_l14, hc_a15, hc_s15, hc_l15, hc_a16, hc_s16, hc_l16, hc_a17, hc_s17, hc_l17, hc_a18, hc_s18, hc_l18, hc_i19, hc_f19_0, hc_f19_1, hc_f19_2, hc_f19_3, hc_f19_4, hc_a20, hc_s20, hc_l20, hc_a21, hc_s21, hc_l21, hc_a22, hc_s22, hc_l22, hc_a23, hc_s23, hc_l23, hc_a24, hc_s24, hc_l24, hc_i25, hc_f25_0, hc_f25_1, hc_f25_2, hc_f25_3, hc_f25_4, hc_a26, hc_s26, hc_l26, hc_a27, hc_s27, hc_l27, hc_a28, hc_s28, hc_l28, hc_a29, hc_s29, hc_l29, hc_a30, hc_s30, hc_l30, hc_a31, hc_s31, hc_l31, hc_i32, hc_f32_0, hc_f32_1, hc_p32_1, hc_f32_2, hc_p32_2, hc_f32_3, hc_a33, hc_s33, hc_l33]
  simp (disch := omega) only [hC.2.2.2.1 j hj, hC.2.2.2.1 i (by omega), n_lit, n_litL, n_shr, n_shl, n_lt, n_le, n_eq, pk_mul, nI_add, n_cl, n_sub, Nat.reduceAdd, Nat.not_lt_zero, Nat.zero_le, true_implies, false_implies, not_true_eq_false, not_false_eq_true, true_and, and_true]
  refine ⟨vp_in_nI (by omega) (by omega), vp_in_nI (by omega) (by omega), p_X2_size hs (by omega) ?_⟩
  simp only [am_us, am_un, Nat.reduceEqDiff, not_false_eq_true, ak_c, ak_il, ak_ll, ak_al, ak_is, ak_as, ak_ls, ak_ii, ak_ib, ak_id, ak_lb, ak_lx, ak_lc, ak_iu, ak_i2l, ak_l2i, ak_dup, ak_dup2, ak_pop, ak_if, ak_ic, ak_sw, am_sws, ak_get, ak_puti, ak_putz, ak_putl, ak_puta, ak_iald, ak_lald, ak_iast, ak_last, ak_alen, ak_cs, ak_cv, ak_ri, ak_rz, ak_rl, ak_rv, am_ent, am_sp, am_pu, am_rs, Value.category, am_st1, am_st2, am_clr, List.getElem?_cons_zero, List.getElem?_cons_succ, List.set_cons_zero, List.set_cons_succ, List.length_cons, List.length_nil, Nat.reduceAdd, Nat.reduceLT, Nat.reduceLeDiff, Nat.zero_add, Nat.add_zero, true_and, and_true, or_true, true_or, if_true, if_false, Option.some.injEq, true_implies, false_implies, not_true_eq_false, not_false_eq_true, hc_i0, hc_f0_0, hc_f0_1, hc_f0_2, hc_f0_3, hc_f0_4, hc_f0_5, hc_f0_6, hc_p0_6, hc_i1, hc_f1_0, hc_f1_1, hc_p1_1, hc_a2, hc_s2, hc_l2, hc_i3, hc_f3_0, hc_f3_1, hc_f3_2, hc_f3_3, hc_p3_3, hc_a4, hc_s4, hc_l4, hc_a5, hc_s5, hc_l5, hc_a6, hc_s6, hc_l6, hc_i7, hc_f7_0, hc_f7_1, hc_f7_2, hc_f7_3, hc_p7_3, hc_a8, hc_s8, hc_l8, hc_a9, hc_s9, hc_l9, hc_a10, hc_s10, hc_l10, hc_a11, hc_s11, hc_l11, hc_i12, hc_f12_0, hc_f12_1, hc_f12_2, hc_f12_3, hc_f12_4, hc_f12_5, hc_f12_6, hc_f12_7, hc_p12_7, hc_f12_8, hc_p12_8, hc_f12_9, hc_p12_9, hc_f12_10, hc_p12_10, hc_f12_11, hc_p12_11, hc_i13, hc_f13_0, hc_f13_1, hc_f13_2, hc_f13_3, hc_f13_4, hc_a14, hc_s14, hc_l14, hc_a15, hc_s15, hc_l15, hc_a16, hc_s16, hc_l16, hc_a17, hc_s17, hc_l17, hc_a18, hc_s18, hc_l18, hc_i19, hc_f19_0, hc_f19_1, hc_f19_2, hc_f19_3, hc_f19_4, hc_a20, hc_s20, hc_l20, hc_a21, hc_s21, hc_l21, hc_a22, hc_s22, hc_l22, hc_a23, hc_s23, hc_l23, hc_a24, hc_s24, hc_l24, hc_i25, hc_f25_0, hc_f25_1, hc_f25_2, hc_f25_3, hc_f25_4, hc_a26, hc_s26, hc_l26, hc_a27, hc_s27, hc_l27, hc_a28, hc_s28, hc_l28, hc_a29, hc_s29, hc_l29, hc_a30, hc_s30, hc_l30, hc_a31, hc_s31, hc_l31, hc_i32, hc_f32_0, hc_f32_1, hc_p32_1, hc_f32_2, hc_p32_2, hc_f32_3, hc_a33, hc_s33, hc_l33]
  simp (disch := omega) only [hC.2.2.2.1 i (by omega), n_lit, n_litL, n_shr, n_shl, n_lt, n_le, n_eq, pk_mul, nI_add, n_cl, n_sub, Nat.reduceAdd, Nat.not_lt_zero, Nat.zero_le, true_implies, false_implies, not_true_eq_false, not_false_eq_true, true_and, and_true]
  refine ⟨fun h8 => ⟨vp_in_nI (by omega) (by omega), ?_⟩, fun h8 => ?_⟩
  · have loop : ∀ f k, ml_s cl i + k + f = ml_s cl j → G 33 [some (.ref 7), some (.int (nI i)), some (.int (nI j)), some (.long (lN (mk_pk sp))), none, some (.long (lN (mk_pk ((mu_fl cl i j).take k)))), none, some (.int (nI (ml_s cl i + k)))] [] (HC I J A B tl) := by
      intro f
      induction f with
      | zero =>
        intro k hk
        refine g33 _ _ _ ?_
        simp only [B_X1_isAnagram_33, am_us, am_un, Nat.reduceEqDiff, not_false_eq_true, ak_c, ak_il, ak_ll, ak_al, ak_is, ak_as, ak_ls, ak_ii, ak_ib, ak_id, ak_lb, ak_lx, ak_lc, ak_iu, ak_i2l, ak_l2i, ak_dup, ak_dup2, ak_pop, ak_if, ak_ic, ak_sw, am_sws, ak_get, ak_puti, ak_putz, ak_putl, ak_puta, ak_iald, ak_lald, ak_iast, ak_last, ak_alen, ak_cs, ak_cv, ak_ri, ak_rz, ak_rl, ak_rv, am_ent, am_sp, am_pu, am_rs, Value.category, am_st1, am_st2, am_clr, List.getElem?_cons_zero, List.getElem?_cons_succ, List.set_cons_zero, List.set_cons_succ, List.length_cons, List.length_nil, Nat.reduceAdd, Nat.reduceLT, Nat.reduceLeDiff, Nat.zero_add, Nat.add_zero, true_and, and_true, or_true, true_or, if_true, if_false, Option.some.injEq, true_implies, false_implies, not_true_eq_false, not_false_eq_true, hc_i0, hc_f0_0, hc_f0_1, hc_f0_2, hc_f0_3, hc_f0_4, hc_f0_5, hc_f0_6, hc_p0_6, hc_i1, hc_f1_0, hc_f1_1, hc_p1_1, hc_a2, hc_s2, hc_l2, hc_i3, hc_f3_0, hc_f3_1, hc_f3_2, hc_f3_3, hc_p3_3, hc_a4, hc_s4, hc_l4, hc_a5, hc_s5, hc_l5, hc_a6, hc_s6, hc_l6, hc_i7, hc_f7_0, hc_f7_1, hc_f7_2, hc_f7_3, hc_p7_3, hc_a8, hc_s8, hc_l8, hc_a9, hc_s9, hc_l9, hc_a10, hc_s10, hc_l10, hc_a11, hc_s11, hc_l11, hc_i12, hc_f12_0, hc_f12_1, hc_f12_2, hc_f12_3, hc_f12_4, hc_f12_5, hc_f12_6, hc_f12_7, hc_p12_7, hc_f12_8, hc_p12_8, hc_f12_9, hc_p12_9, hc_f12_10, hc_p12_10, hc_f12_11, hc_p12_11, hc_i13, hc_f13_0, hc_f13_1, hc_f13_2, hc_f13_3, hc_f13_4, hc_a14, hc_s14, hc_l14, hc_a15, hc_s15, hc_l15, hc_a16, hc_s16, hc_l16, hc_a17, hc_s17, hc_l17, hc_a18, hc_s18, hc_l18, hc_i19, hc_f19_0, hc_f19_1, hc_f19_2, hc_f19_3, hc_f19_4, hc_a20, hc_s20, hc_l20, hc_a21, hc_s21, hc_l21, hc_a22, hc_s22, hc_l22, hc_a23, hc_s23, hc_l23, hc_a24, hc_s24, hc_l24, hc_i25, hc_f25_0, hc_f25_1, hc_f25_2, hc_f25_3, hc_f25_4, hc_a26, hc_s26, hc_l26, hc_a27, hc_s27, hc_l27, hc_a28, hc_s28, hc_l28, hc_a29, hc_s29, hc_l29, hc_a30, hc_s30, hc_l30, hc_a31, hc_s31, hc_l31, hc_i32, hc_f32_0, hc_f32_1, hc_p32_1, hc_f32_2, hc_p32_2, hc_f32_3, hc_a33, hc_s33, hc_l33]
        rw [List.take_of_length_le (show (mu_fl cl i j).length ≤ k by omega)]
        simp (disch := omega) only [hC.2.2.2.1 j hj, lg_cz, n_lit, n_litL, n_shr, n_shl, n_lt, n_le, n_eq, pk_mul, nI_add, n_cl, n_sub, Nat.reduceAdd, Nat.not_lt_zero, Nat.zero_le, true_implies, false_implies, not_true_eq_false, not_false_eq_true, true_and, and_true]
        rw [mk_eq hW2 hs (by omega) (by omega)]
        refine ⟨vp_in_nI (by omega) (by omega), fun _ => ⟨fun q => zero (by simp [mu_ana, q]) _ _, fun q => p_X2_areSame hs hW2 (by omega) (by omega) ?_⟩, fun q => absurd (by omega) q⟩
        simp only [am_us, am_un, Nat.reduceEqDiff, not_false_eq_true, ak_c, ak_il, ak_ll, ak_al, ak_is, ak_as, ak_ls, ak_ii, ak_ib, ak_id, ak_lb, ak_lx, ak_lc, ak_iu, ak_i2l, ak_l2i, ak_dup, ak_dup2, ak_pop, ak_if, ak_ic, ak_sw, am_sws, ak_get, ak_puti, ak_putz, ak_putl, ak_puta, ak_iald, ak_lald, ak_iast, ak_last, ak_alen, ak_cs, ak_cv, ak_ri, ak_rz, ak_rl, ak_rv, am_ent, am_sp, am_pu, am_rs, Value.category, am_st1, am_st2, am_clr, List.getElem?_cons_zero, List.getElem?_cons_succ, List.set_cons_zero, List.set_cons_succ, List.length_cons, List.length_nil, Nat.reduceAdd, Nat.reduceLT, Nat.reduceLeDiff, Nat.zero_add, Nat.add_zero, true_and, and_true, or_true, true_or, if_true, if_false, Option.some.injEq, true_implies, false_implies, not_true_eq_false, not_false_eq_true, hc_i0, hc_f0_0, hc_f0_1, hc_f0_2, hc_f0_3, hc_f0_4, hc_f0_5, hc_f0_6, hc_p0_6, hc_i1, hc_f1_0, hc_f1_1, hc_p1_1, hc_a2, hc_s2, hc_l2, hc_i3, hc_f3_0, hc_f3_1, hc_f3_2, hc_f3_3, hc_p3_3, hc_a4, hc_s4, hc_l4, hc_a5, hc_s5, hc_l5, hc_a6, hc_s6, hc_l6, hc_i7, hc_f7_0, hc_f7_1, hc_f7_2, hc_f7_3, hc_p7_3, hc_a8, hc_s8, hc_l8, hc_a9, hc_s9, hc_l9, hc_a10, hc_s10, hc_l10, hc_a11, hc_s11, hc_l11, hc_i12, hc_f12_0, hc_f12_1, hc_f12_2, hc_f12_3, hc_f12_4, hc_f12_5, hc_f12_6, hc_f12_7, hc_p12_7, hc_f12_8, hc_p12_8, hc_f12_9, hc_p12_9, hc_f12_10, hc_p12_10, hc_f12_11, hc_p12_11, hc_i13, hc_f13_0, hc_f13_1, hc_f13_2, hc_f13_3, hc_f13_4, hc_a14, hc_s14, hc_l14, hc_a15, hc_s15, hc_l15, hc_a16, hc_s16, hc_l16, hc_a17, hc_s17, hc_l17, hc_a18, hc_s18, hc_l18, hc_i19, hc_f19_0, hc_f19_1, hc_f19_2, hc_f19_3, hc_f19_4, hc_a20, hc_s20, hc_l20, hc_a21, hc_s21, hc_l21, hc_a22, hc_s22, hc_l22, hc_a23, hc_s23, hc_l23, hc_a24, hc_s24, hc_l24, hc_i25, hc_f25_0, hc_f25_1, hc_f25_2, hc_f25_3, hc_f25_4, hc_a26, hc_s26, hc_l26, hc_a27, hc_s27, hc_l27, hc_a28, hc_s28, hc_l28, hc_a29, hc_s29, hc_l29, hc_a30, hc_s30, hc_l30, hc_a31, hc_s31, hc_l31, hc_i32, hc_f32_0, hc_f32_1, hc_p32_1, hc_f32_2, hc_p32_2, hc_f32_3, hc_a33, hc_s33, hc_l33]
        have hA := mu_ana_iff (l := mu_fl cl i j) (sp := sp) (by omega) (by omega)
        by_cases q2 : mk_sm sp (mu_fl cl i j) = true
        · rw [if_pos q2]
          refine ⟨fun z => absurd z (by decide), fun _ => g94 _ _ _ ?_⟩
          simp only [B_X1_isAnagram_94, am_us, am_un, Nat.reduceEqDiff, not_false_eq_true, ak_c, ak_il, ak_ll, ak_al, ak_is, ak_as, ak_ls, ak_ii, ak_ib, ak_id, ak_lb, ak_lx, ak_lc, ak_iu, ak_i2l, ak_l2i, ak_dup, ak_dup2, ak_pop, ak_if, ak_ic, ak_sw, am_sws, ak_get, ak_puti, ak_putz, ak_putl, ak_puta, ak_iald, ak_lald, ak_iast, ak_last, ak_alen, ak_cs, ak_cv, ak_ri, ak_rz, ak_rl, ak_rv, am_ent, am_sp, am_pu, am_rs, Value.category, am_st1, am_st2, am_clr, List.getElem?_cons_zero, List.getElem?_cons_succ, List.set_cons_zero, List.set_cons_succ, List.length_cons, List.length_nil, Nat.reduceAdd, Nat.reduceLT, Nat.reduceLeDiff, Nat.zero_add, Nat.add_zero, true_and, and_true, or_true, true_or, if_true, if_false, Option.some.injEq, true_implies, false_implies, not_true_eq_false, not_false_eq_true, hc_i0, hc_f0_0, hc_f0_1, hc_f0_2, hc_f0_3, hc_f0_4, hc_f0_5, hc_f0_6, hc_p0_6, hc_i1, hc_f1_0, hc_f1_1, hc_p1_1, hc_a2, hc_s2, hc_l2, hc_i3, hc_f3_0, hc_f3_1, hc_f3_2, hc_f3_3, hc_p3_3, hc_a4, hc_s4, hc_l4, hc_a5, hc_s5, hc_l5, hc_a6, hc_s6, hc_l6, hc_i7, hc_f7_0, hc_f7_1, hc_f7_2, hc_f7_3, hc_p7_3, hc_a8, hc_s8, hc_l8, hc_a9, hc_s9, hc_l9, hc_a10, hc_s10, hc_l10, hc_a11, hc_s11, hc_l11, hc_i12, hc_f12_0, hc_f12_1, hc_f12_2, hc_f12_3, hc_f12_4, hc_f12_5, hc_f12_6, hc_f12_7, hc_p12_7, hc_f12_8, hc_p12_8, hc_f12_9, hc_p12_9, hc_f12_10, hc_p12_10, hc_f12_11, hc_p12_11, hc_i13, hc_f13_0, hc_f13_1, hc_f13_2, hc_f13_3, hc_f13_4, hc_a14, hc_s14, hc_l14, hc_a15, hc_s15, hc_l15, hc_a16, hc_s16, hc_l16, hc_a17, hc_s17, hc_l17, hc_a18, hc_s18, hc_l18, hc_i19, hc_f19_0, hc_f19_1, hc_f19_2, hc_f19_3, hc_f19_4, hc_a20, hc_s20, hc_l20, hc_a21, hc_s21, hc_l21, hc_a22, hc_s22, hc_l22, hc_a23, hc_s23, hc_l23, hc_a24, hc_s24, hc_l24, hc_i25, hc_f25_0, hc_f25_1, hc_f25_2, hc_f25_3, hc_f25_4, hc_a26, hc_s26, hc_l26, hc_a27, hc_s27, hc_l27, hc_a28, hc_s28, hc_l28, hc_a29, hc_s29, hc_l29, hc_a30, hc_s30, hc_l30, hc_a31, hc_s31, hc_l31, hc_i32, hc_f32_0, hc_f32_1, hc_p32_1, hc_f32_2, hc_p32_2, hc_f32_3, hc_a33, hc_s33, hc_l33]
          rw [if_pos (hA.mpr ⟨q, q2⟩)] at hQ
          exact ⟨Or.inr rfl, hQ⟩
        · rw [if_neg q2]
          refine ⟨fun _ => zero ?_ _ _, fun z => absurd (by decide) z⟩
          cases hh : mu_ana (mu_fl cl i j) sp with
          | false => rfl
          | true => exact absurd (hA.mp hh).2 q2
      | succ f ih =>
        intro k hk
        have hkl : k < (mu_fl cl i j).length := by omega
        obtain ⟨d, hd⟩ : ∃ d, (mu_fl cl i j)[k]? = some d := ⟨_, List.getElem?_eq_getElem hkl⟩
        have hdW := hW2 d (List.mem_of_getElem? hd)
        have hfl : cl.flatten[ml_s cl i + k]? = some d := by
          unfold mu_fl at hd
          rw [List.getElem?_drop, List.getElem?_take] at hd
          split at hd
          · exact hd
          · cases hd
        refine g33 _ _ _ ?_
        simp only [B_X1_isAnagram_33, am_us, am_un, Nat.reduceEqDiff, not_false_eq_true, ak_c, ak_il, ak_ll, ak_al, ak_is, ak_as, ak_ls, ak_ii, ak_ib, ak_id, ak_lb, ak_lx, ak_lc, ak_iu, ak_i2l, ak_l2i, ak_dup, ak_dup2, ak_pop, ak_if, ak_ic, ak_sw, am_sws, ak_get, ak_puti, ak_putz, ak_putl, ak_puta, ak_iald, ak_lald, ak_iast, ak_last, ak_alen, ak_cs, ak_cv, ak_ri, ak_rz, ak_rl, ak_rv, am_ent, am_sp, am_pu, am_rs, Value.category, am_st1, am_st2, am_clr, List.getElem?_cons_zero, List.getElem?_cons_succ, List.set_cons_zero, List.set_cons_succ, List.length_cons, List.length_nil, Nat.reduceAdd, Nat.reduceLT, Nat.reduceLeDiff, Nat.zero_add, Nat.add_zero, true_and, and_true, or_true, true_or, if_true, if_false, Option.some.injEq, true_implies, false_implies, not_true_eq_false, not_false_eq_true, hc_i0, hc_f0_0, hc_f0_1, hc_f0_2, hc_f0_3, hc_f0_4, hc_f0_5, hc_f0_6, hc_p0_6, hc_i1, hc_f1_0, hc_f1_1, hc_p1_1, hc_a2, hc_s2, hc_l2, hc_i3, hc_f3_0, hc_f3_1, hc_f3_2, hc_f3_3, hc_p3_3, hc_a4, hc_s4, hc_l4, hc_a5, hc_s5, hc_l5, hc_a6, hc_s6, hc_l6, hc_i7, hc_f7_0, hc_f7_1, hc_f7_2, hc_f7_3, hc_p7_3, hc_a8, hc_s8, hc_l8, hc_a9, hc_s9, hc_l9, hc_a10, hc_s10, hc_l10, hc_a11, hc_s11, hc_l11, hc_i12, hc_f12_0, hc_f12_1, hc_f12_2, hc_f12_3, hc_f12_4, hc_f12_5, hc_f12_6, hc_f12_7, hc_p12_7, hc_f12_8, hc_p12_8, hc_f12_9, hc_p12_9, hc_f12_10, hc_p12_10, hc_f12_11, hc_p12_11, hc_i13, hc_f13_0, hc_f13_1, hc_f13_2, hc_f13_3, hc_f13_4, hc_a14, hc_s14, hc_l14, hc_a15, hc_s15, hc_l15, hc_a16, hc_s16, hc_l16, hc_a17, hc_s17, hc_l17, hc_a18, hc_s18, hc_l18, hc_i19, hc_f19_0, hc_f19_1, hc_f19_2, hc_f19_3, hc_f19_4, hc_a20, hc_s20, hc_l20, hc_a21, hc_s21, hc_l21, hc_a22, hc_s22, hc_l22, hc_a23, hc_s23, hc_l23, hc_a24, hc_s24, hc_l24, hc_i25, hc_f25_0, hc_f25_1, hc_f25_2, hc_f25_3, hc_f25_4, hc_a26, hc_s26, hc_l26, hc_a27, hc_s27, hc_l27, hc_a28, hc_s28, hc_l28, hc_a29, hc_s29, hc_l29, hc_a30, hc_s30, hc_l30, hc_a31, hc_s31, hc_l31, hc_i32, hc_f32_0, hc_f32_1, hc_p32_1, hc_f32_2, hc_p32_2, hc_f32_3, hc_a33, hc_s33, hc_l33]
        simp (disch := omega) only [hC.2.2.2.1 j hj, hC.2.2.2.1 i (by omega), hC.2.2.2.2 _ d hfl, Nat.add_sub_cancel_left, n_lit, n_litL, n_shr, n_shl, n_lt, n_le, n_eq, pk_mul, nI_add, n_cl, n_sub, Nat.reduceAdd, Nat.not_lt_zero, Nat.zero_le, true_implies, false_implies, not_true_eq_false, not_false_eq_true, true_and, and_true]
        refine ⟨vp_in_nI (by omega) (by omega), fun q => absurd q (by omega), fun _ => ⟨vp_in_nI (by omega) (by omega), vp_in_nI (by omega) (by omega), ?_⟩⟩
        have ht : ((mu_fl cl i j).take k).length = k := by rw [List.length_take]; omega
        refine p_X2_withK ht (hW2.take k) (by omega) (mu_31 d (by omega)) (by omega) ?_
        simp only [am_us, am_un, Nat.reduceEqDiff, not_false_eq_true, ak_c, ak_il, ak_ll, ak_al, ak_is, ak_as, ak_ls, ak_ii, ak_ib, ak_id, ak_lb, ak_lx, ak_lc, ak_iu, ak_i2l, ak_l2i, ak_dup, ak_dup2, ak_pop, ak_if, ak_ic, ak_sw, am_sws, ak_get, ak_puti, ak_putz, ak_putl, ak_puta, ak_iald, ak_lald, ak_iast, ak_last, ak_alen, ak_cs, ak_cv, ak_ri, ak_rz, ak_rl, ak_rv, am_ent, am_sp, am_pu, am_rs, Value.category, am_st1, am_st2, am_clr, List.getElem?_cons_zero, List.getElem?_cons_succ, List.set_cons_zero, List.set_cons_succ, List.length_cons, List.length_nil, Nat.reduceAdd, Nat.reduceLT, Nat.reduceLeDiff, Nat.zero_add, Nat.add_zero, true_and, and_true, or_true, true_or, if_true, if_false, Option.some.injEq, true_implies, false_implies, not_true_eq_false, not_false_eq_true, hc_i0, hc_f0_0, hc_f0_1, hc_f0_2, hc_f0_3, hc_f0_4, hc_f0_5, hc_f0_6, hc_p0_6, hc_i1, hc_f1_0, hc_f1_1, hc_p1_1, hc_a2, hc_s2, hc_l2, hc_i3, hc_f3_0, hc_f3_1, hc_f3_2, hc_f3_3, hc_p3_3, hc_a4, hc_s4, hc_l4, hc_a5, hc_s5, hc_l5, hc_a6, hc_s6, hc_l6, hc_i7, hc_f7_0, hc_f7_1, hc_f7_2, hc_f7_3, hc_p7_3, hc_a8, hc_s8, hc_l8, hc_a9, hc_s9, hc_l9, hc_a10, hc_s10, hc_l10, hc_a11, hc_s11, hc_l11, hc_i12, hc_f12_0, hc_f12_1, hc_f12_2, hc_f12_3, hc_f12_4, hc_f12_5, hc_f12_6, hc_f12_7, hc_p12_7, hc_f12_8, hc_p12_8, hc_f12_9, hc_p12_9, hc_f12_10, hc_p12_10, hc_f12_11, hc_p12_11, hc_i13, hc_f13_0, hc_f13_1, hc_f13_2, hc_f13_3, hc_f13_4, hc_a14, hc_s14, hc_l14, hc_a15, hc_s15, hc_l15, hc_a16, hc_s16, hc_l16, hc_a17, hc_s17, hc_l17, hc_a18, hc_s18, hc_l18, hc_i19, hc_f19_0, hc_f19_1, hc_f19_2, hc_f19_3, hc_f19_4, hc_a20, hc_s20, hc_l20, hc_a21, hc_s21, hc_l21, hc_a22, hc_s22, hc_l22, hc_a23, hc_s23, hc_l23, hc_a24, hc_s24, hc_l24, hc_i25, hc_f25_0, hc_f25_1, hc_f25_2, hc_f25_3, hc_f25_4, hc_a26, hc_s26, hc_l26, hc_a27, hc_s27, hc_l27, hc_a28, hc_s28, hc_l28, hc_a29, hc_s29, hc_l29, hc_a30, hc_s30, hc_l30, hc_a31, hc_s31, hc_l31, hc_i32, hc_f32_0, hc_f32_1, hc_p32_1, hc_f32_2, hc_p32_2, hc_f32_3, hc_a33, hc_s33, hc_l33]
        have e : (mu_fl cl i j).take k ++ [d] = (mu_fl cl i j).take (k + 1) := by rw [List.take_add_one, hd]; rfl
        rw [e]
        exact ih (k + 1) (by omega)
    exact loop (ml_s cl j - ml_s cl i) 0 (by omega)
  · have hz : mu_ana (mu_fl cl i j) sp = false := by
      cases hh : mu_ana (mu_fl cl i j) sp with
      | false => rfl
      | true =>
        exfalso
        unfold mu_ana at hh
        rw [Bool.and_eq_true, List.isPerm_iff] at hh
        have := hh.2.length_eq
        omega
    rw [hz] at hQ
    exact hQ
theorem p_X1_initials (hC : rc_C I A B cl) {i j : Nat} (hij : i ≤ j) (hj : j ≤ cl.length) (hQ : Q (some (.long (lN (mk_pk (mu_ini cl i (j - i)))))) (HC I J A B tl)) : K_X1_initials [.ref 7, .int (nI i), .int (nI j)] (HC I J A B tl) Q := by
  refine ⟨Nat.le_of_ble_eq_true rfl, fun G hG => ?_⟩
  obtain ⟨g0, g5⟩ := hG
  refine g0 _ _ _ ?_
  have h6 := hC.1.2.1
  have hbd := hC.bd
  simp only [B_X1_initials_0, am_us, am_un, Nat.reduceEqDiff, not_false_eq_true, ak_c, ak_il, ak_ll, ak_al, ak_is, ak_as, ak_ls, ak_ii, ak_ib, ak_id, ak_lb, ak_lx, ak_lc, ak_iu, ak_i2l, ak_l2i, ak_dup, ak_dup2, ak_pop, ak_if, ak_ic, ak_sw, am_sws, ak_get, ak_puti, ak_putz, ak_putl, ak_puta, ak_iald, ak_lald, ak_iast, ak_last, ak_alen, ak_cs, ak_cv, ak_ri, ak_rz, ak_rl, ak_rv, am_ent, am_sp, am_pu, am_rs, Value.category, am_st1, am_st2, am_clr, List.getElem?_cons_zero, List.getElem?_cons_succ, List.set_cons_zero, List.set_cons_succ, List.length_cons, List.length_nil, Nat.reduceAdd, Nat.reduceLT, Nat.reduceLeDiff, Nat.zero_add, Nat.add_zero, true_and, and_true, or_true, true_or, if_true, if_false, Option.some.injEq, true_implies, false_implies, not_true_eq_false, not_false_eq_true, hc_i0, hc_f0_0, hc_f0_1, hc_f0_2, hc_f0_3, hc_f0_4, hc_f0_5, hc_f0_6, hc_p0_6, hc_i1, hc_f1_0, hc_f1_1, hc_p1_1, hc_a2, hc_s2, hc_l2, hc_i3, hc_f3_0, hc_f3_1, hc_f3_2, hc_f3_3, hc_p3_3, hc_a4, hc_s4, hc_l4, hc_a5, hc_s5, hc_l5, hc_a6, hc_s6, hc_l6, hc_i7, hc_f7_0, hc_f7_1, hc_f7_2, hc_f7_3, hc_p7_3, hc_a8, hc_s8, hc_l8, hc_a9, hc_s9, hc_l9, hc_a10, hc_s10, hc_l10, hc_a11, hc_s11, hc_l11, hc_i12, hc_f12_0, hc_f12_1, hc_f12_2, hc_f12_3, hc_f12_4, hc_f12_5, hc_f12_6, hc_f12_7, hc_p12_7, hc_f12_8, hc_p12_8, hc_f12_9, hc_p12_9, hc_f12_10, hc_p12_10, hc_f12_11, hc_p12_11, hc_i13, hc_f13_0, hc_f13_1, hc_f13_2, hc_f13_3, hc_f13_4, hc_a14, hc_s14, hc_l14, hc_a15, hc_s15, hc_l15, hc_a16, hc_s16, hc_l16, hc_a17, hc_s17, hc_l17, hc_a18, hc_s18, hc_l18, hc_i19, hc_f19_0, hc_f19_1, hc_f19_2, hc_f19_3, hc_f19_4, hc_a20, hc_s20, hc_l20, hc_a21, hc_s21, hc_l21, hc_a22, hc_s22, hc_l22, hc_a23, hc_s23, hc_l23, hc_a24, hc_s24, hc_l24, hc_i25, hc_f25_0, hc_f25_1, hc_f25_2, hc_f25_3, hc_f25_4, hc_a26, hc_s26, hc_l26, hc_a27, hc_s27, hc_l27, hc_a28, hc_s28, hc_l28, hc_a29, hc_s29, hc_l29, hc_a30, hc_s30, hc_l30, hc_a31, hc_s31, hc_l31, hc_i32, hc_f32_0, hc_f32_1, hc_p32_1, hc_f32_2, hc_p32_2, hc_f32_3, hc_a33, hc_s33, hc_l33]
  have hlen : ∀ k, (mu_ini cl i k).length = k := fun k => by simp [mu_ini]
  have hdW : ∀ k, i + k < cl.length → ∃ x, cl[i + k]? = some x ∧ 1 ≤ x.length ∧ mk_W x ∧ (cl.getD (i + k) []).headD 0 = x.headD 0 ∧ x.headD 0 < 27 ∧ 1 ≤ x.headD 0 := by
    intro k hk
    refine ⟨_, List.getElem?_eq_getElem hk, ?_⟩
    have hx := hC.1.2.2 _ (List.getElem_mem hk)
    refine ⟨hx.2.1, hx.1, by simp [List.getD_eq_getElem?_getD, hk], ?_⟩
    generalize cl[i + k] = x at hx
    cases x with
    | nil => simp at hx
    | cons a r => have := hx.1.hd; simp; omega
  have hWk : ∀ k, i + k ≤ cl.length → mk_W (mu_ini cl i k) := by
    intro k hk d hd
    obtain ⟨m, hm, rfl⟩ := List.mem_map.mp hd
    have hm := List.mem_range.mp hm
    obtain ⟨x, -, -, -, h4, h5, h6⟩ := hdW m (by omega)
    rw [h4]; omega
  have loop : ∀ f k, i + k + f = j → G 5 [some (.ref 7), some (.int (nI i)), some (.int (nI j)), some (.long (lN (mk_pk (mu_ini cl i k)))), none, some (.int (nI (i + k)))] [] (HC I J A B tl) := by
    intro f
    induction f with
    | zero =>
      intro k hk
      refine g5 _ _ _ ?_
      simp only [B_X1_initials_5, am_us, am_un, Nat.reduceEqDiff, not_false_eq_true, ak_c, ak_il, ak_ll, ak_al, ak_is, ak_as, ak_ls, ak_ii, ak_ib, ak_id, ak_lb, ak_lx, ak_lc, ak_iu, ak_i2l, ak_l2i, ak_dup, ak_dup2, ak_pop, ak_if, ak_ic, ak_sw, am_sws, ak_get, ak_puti, ak_putz, ak_putl, ak_puta, ak_iald, ak_lald, ak_iast, ak_last, ak_alen, ak_cs, ak_cv, ak_ri, ak_rz, ak_rl, ak_rv, am_ent, am_sp, am_pu, am_rs, Value.category, am_st1, am_st2, am_clr, List.getElem?_cons_zero, List.getElem?_cons_succ, List.set_cons_zero, List.set_cons_succ, List.length_cons, List.length_nil, Nat.reduceAdd, Nat.reduceLT, Nat.reduceLeDiff, Nat.zero_add, Nat.add_zero, true_and, and_true, or_true, true_or, if_true, if_false, Option.some.injEq, true_implies, false_implies, not_true_eq_false, not_false_eq_true, hc_i0, hc_f0_0, hc_f0_1, hc_f0_2, hc_f0_3, hc_f0_4, hc_f0_5, hc_f0_6, hc_p0_6, hc_i1, hc_f1_0, hc_f1_1, hc_p1_1, hc_a2, hc_s2, hc_l2, hc_i3, hc_f3_0, hc_f3_1, hc_f3_2, hc_f3_3, hc_p3_3, hc_a4, hc_s4, hc_l4, hc_a5, hc_s5, hc_l5, hc_a6, hc_s6, hc_l6, hc_i7, hc_f7_0, hc_f7_1, hc_f7_2, hc_f7_3, hc_p7_3, hc_a8, hc_s8, hc_l8, hc_a9, hc_s9, hc_l9, hc_a10, hc_s10, hc_l10, hc_a11, hc_s11, hc_l11, hc_i12, hc_f12_0, hc_f12_1, hc_f12_2, hc_f12_3, hc_f12_4, hc_f12_5, hc_f12_6, hc_f12_7, hc_p12_7, hc_f12_8, hc_p12_8, hc_f12_9, hc_p12_9, hc_f12_10, hc_p12_10, hc_f12_11, hc_p12_11, hc_i13, hc_f13_0, hc_f13_1, hc_f13_2, hc_f13_3, hc_f13_4, hc_a14, hc_s14, hc_l14, hc_a15, hc_s15, hc_l15, hc_a16, hc_s16, hc_l16, hc_a17, hc_s17, hc_l17, hc_a18, hc_s18, hc_l18, hc_i19, hc_f19_0, hc_f19_1, hc_f19_2, hc_f19_3, hc_f19_4, hc_a20, hc_s20, hc_l20, hc_a21, hc_s21, hc_l21, hc_a22, hc_s22, hc_l22, hc_a23, hc_s23, hc_l23, hc_a24, hc_s24, hc_l24, hc_i25, hc_f25_0, hc_f25_1, hc_f25_2, hc_f25_3, hc_f25_4, hc_a26, hc_s26, hc_l26, hc_a27, hc_s27, hc_l27, hc_a28, hc_s28, hc_l28, hc_a29, hc_s29, hc_l29, hc_a30, hc_s30, hc_l30, hc_a31, hc_s31, hc_l31, hc_i32, hc_f32_0, hc_f32_1, hc_p32_1, hc_f32_2, hc_p32_2, hc_f32_3, hc_a33, hc_s33, hc_l33]
      simp (disch := omega) only [n_lit, n_litL, n_shr, n_shl, n_lt, n_le, n_eq, pk_mul, nI_add, n_cl, n_sub, Nat.reduceAdd, Nat.not_lt_zero, Nat.zero_le, true_implies, false_implies, not_true_eq_false, not_false_eq_true, true_and, and_true]
      refine ⟨fun _ => ?_, fun q => absurd (by omega) q⟩
      rw [show j - i = k by omega] at hQ
      exact hQ
    | succ f ih =>
      intro k hk
      obtain ⟨x, x1, x2, x3, x4, x5, x6⟩ := hdW k (by omega)
      have hs := ml_s_le cl (i + k)
      have hh := ml_head x1 x2
      have hlt := (List.getElem?_eq_some_iff.mp hh).1
      rw [ml_flat] at hlt
      refine g5 _ _ _ ?_
      simp only [B_X1_initials_5, am_us, am_un, Nat.reduceEqDiff, not_false_eq_true, ak_c, ak_il, ak_ll, ak_al, ak_is, ak_as, ak_ls, ak_ii, ak_ib, ak_id, ak_lb, ak_lx, ak_lc, ak_iu, ak_i2l, ak_l2i, ak_dup, ak_dup2, ak_pop, ak_if, ak_ic, ak_sw, am_sws, ak_get, ak_puti, ak_putz, ak_putl, ak_puta, ak_iald, ak_lald, ak_iast, ak_last, ak_alen, ak_cs, ak_cv, ak_ri, ak_rz, ak_rl, ak_rv, am_ent, am_sp, am_pu, am_rs, Value.category, am_st1, am_st2, am_clr, List.getElem?_cons_zero, List.getElem?_cons_succ, List.set_cons_zero, List.set_cons_succ, List.length_cons, List.length_nil, Nat.reduceAdd, Nat.reduceLT, Nat.reduceLeDiff, Nat.zero_add, Nat.add_zero, true_and, and_true, or_true, true_or, if_true, if_false, Option.some.injEq, true_implies, false_implies, not_true_eq_false, not_false_eq_true, hc_i0, hc_f0_0, hc_f0_1, hc_f0_2, hc_f0_3, hc_f0_4, hc_f0_5, hc_f0_6, hc_p0_6, hc_i1, hc_f1_0, hc_f1_1, hc_p1_1, hc_a2, hc_s2, hc_l2, hc_i3, hc_f3_0, hc_f3_1, hc_f3_2, hc_f3_3, hc_p3_3, hc_a4, hc_s4, hc_l4, hc_a5, hc_s5, hc_l5, hc_a6, hc_s6, hc_l6, hc_i7, hc_f7_0, hc_f7_1, hc_f7_2, hc_f7_3, hc_p7_3, hc_a8, hc_s8, hc_l8, hc_a9, hc_s9, hc_l9, hc_a10, hc_s10, hc_l10, hc_a11, hc_s11, hc_l11, hc_i12, hc_f12_0, hc_f12_1, hc_f12_2, hc_f12_3, hc_f12_4, hc_f12_5, hc_f12_6, hc_f12_7, hc_p12_7, hc_f12_8, hc_p12_8, hc_f12_9, hc_p12_9, hc_f12_10, hc_p12_10, hc_f12_11, hc_p12_11, hc_i13, hc_f13_0, hc_f13_1, hc_f13_2, hc_f13_3, hc_f13_4, hc_a14, hc_s14, hc_l14, hc_a15, hc_s15, hc_l15, hc_a16, hc_s16, hc_l16, hc_a17, hc_s17, hc_l17, hc_a18, hc_s18, hc_l18, hc_i19, hc_f19_0, hc_f19_1, hc_f19_2, hc_f19_3, hc_f19_4, hc_a20, hc_s20, hc_l20, hc_a21, hc_s21, hc_l21, hc_a22, hc_s22, hc_l22, hc_a23, hc_s23, hc_l23, hc_a24, hc_s24, hc_l24, hc_i25, hc_f25_0, hc_f25_1, hc_f25_2, hc_f25_3, hc_f25_4, hc_a26, hc_s26, hc_l26, hc_a27, hc_s27, hc_l27, hc_a28, hc_s28, hc_l28, hc_a29, hc_s29, hc_l29, hc_a30, hc_s30, hc_l30, hc_a31, hc_s31, hc_l31, hc_i32, hc_f32_0, hc_f32_1, hc_p32_1, hc_f32_2, hc_p32_2, hc_f32_3, hc_a33, hc_s33, hc_l33]
      simp (disch := omega) only [hC.2.2.2.1 (i + k) (by omega), hC.2.2.2.2 _ _ hh, Nat.add_sub_cancel_left, n_lit, n_litL, n_shr, n_shl, n_lt, n_le, n_eq, pk_mul, nI_add, n_cl, n_sub, Nat.reduceAdd, Nat.not_lt_zero, Nat.zero_le, true_implies, false_implies, not_true_eq_false, not_false_eq_true, true_and, and_true]
      refine ⟨fun q => absurd q (by omega), fun _ => ⟨vp_in_nI (by omega) (by omega), vp_in_nI (by omega) (by omega), p_X2_withK (hlen k) (hWk k (by omega)) (by omega) (mu_31 _ x5) (by omega) ?_⟩⟩
      simp only [am_us, am_un, Nat.reduceEqDiff, not_false_eq_true, ak_c, ak_il, ak_ll, ak_al, ak_is, ak_as, ak_ls, ak_ii, ak_ib, ak_id, ak_lb, ak_lx, ak_lc, ak_iu, ak_i2l, ak_l2i, ak_dup, ak_dup2, ak_pop, ak_if, ak_ic, ak_sw, am_sws, ak_get, ak_puti, ak_putz, ak_putl, ak_puta, ak_iald, ak_lald, ak_iast, ak_last, ak_alen, ak_cs, ak_cv, ak_ri, ak_rz, ak_rl, ak_rv, am_ent, am_sp, am_pu, am_rs, Value.category, am_st1, am_st2, am_clr, List.getElem?_cons_zero, List.getElem?_cons_succ, List.set_cons_zero, List.set_cons_succ, List.length_cons, List.length_nil, Nat.reduceAdd, Nat.reduceLT, Nat.reduceLeDiff, Nat.zero_add, Nat.add_zero, true_and, and_true, or_true, true_or, if_true, if_false, Option.some.injEq, true_implies, false_implies, not_true_eq_false, not_false_eq_true, hc_i0, hc_f0_0, hc_f0_1, hc_f0_2, hc_f0_3, hc_f0_4, hc_f0_5, hc_f0_6, hc_p0_6, hc_i1, hc_f1_0, hc_f1_1, hc_p1_1, hc_a2, hc_s2, hc_l2, hc_i3, hc_f3_0, hc_f3_1, hc_f3_2, hc_f3_3, hc_p3_3, hc_a4, hc_s4, hc_l4, hc_a5, hc_s5, hc_l5, hc_a6, hc_s6, hc_l6, hc_i7, hc_f7_0, hc_f7_1, hc_f7_2, hc_f7_3, hc_p7_3, hc_a8, hc_s8, hc_l8, hc_a9, hc_s9, hc_l9, hc_a10, hc_s10, hc_l10, hc_a11, hc_s11, hc_l11, hc_i12, hc_f12_0, hc_f12_1, hc_f12_2, hc_f12_3, hc_f12_4, hc_f12_5, hc_f12_6, hc_f12_7, hc_p12_7, hc_f12_8, hc_p12_8, hc_f12_9, hc_p12_9, hc_f12_10, hc_p12_10, hc_f12_11, hc_p12_11, hc_i13, hc_f13_0, hc_f13_1, hc_f13_2, hc_f13_3, hc_f13_4, hc_a14, hc_s14, hc_l14, hc_a15, hc_s15, hc_l15, hc_a16, hc_s16, hc_l16, hc_a17, hc_s17, hc_l17, hc_a18, hc_s18, hc_l18, hc_i19, hc_f19_0, hc_f19_1, hc_f19_2, hc_f19_3, hc_f19_4, hc_a20, hc_s20, hc_l20, hc_a21, hc_s21, hc_l21, hc_a22, hc_s22, hc_l22, hc_a23, hc_s23, hc_l23, hc_a24, hc_s24, hc_l24, hc_i25, hc_f25_0, hc_f25_1, hc_f25_2, hc_f25_3, hc_f25_4, hc_a26, hc_s26, hc_l26, hc_a27, hc_s27, hc_l27, hc_a28, hc_s28, hc_l28, hc_a29, hc_s29, hc_l29, hc_a30, hc_s30, hc_l30, hc_a31, hc_s31, hc_l31, hc_i32, hc_f32_0, hc_f32_1, hc_p32_1, hc_f32_2, hc_p32_2, hc_f32_3, hc_a33, hc_s33, hc_l33]
      have e : mu_ini cl i k ++ [x.headD 0] = mu_ini cl i (k + 1) := by
        unfold mu_ini
        rw [List.range_succ, List.map_append, List.map_singleton, x4]
      rw [e]
      exact ih (k + 1) (by omega)
  exact loop (j - i) 0 (by omega)
theorem p_X1_standsAt (hC : rc_C I A B cl) {fr : Nat} {sp : List Nat} (hs : mk_W sp) (hs8 : sp.length ≤ 8) (hb : fr + sp.length ≤ ml_t cl) (hQ : Q (some (.int (if (cl.flatten.drop fr).take sp.length = sp then 1 else 0))) (HC I J A B tl)) : K_X1_standsAt [.ref 7, .int (nI fr), .int (nI sp.length), .long (lN (mk_pk sp))] (HC I J A B tl) Q := by
  refine ⟨Nat.le_of_ble_eq_true rfl, fun G hG => ?_⟩
  obtain ⟨g0, g3⟩ := hG
  refine g0 _ _ _ ?_
  have hbd := hC.bd
  have hW : mk_W cl.flatten := mk_W.flat (fun x hx => (hC.1.2.2 x hx).1)
  simp only [B_X1_standsAt_0, am_us, am_un, Nat.reduceEqDiff, not_false_eq_true, ak_c, ak_il, ak_ll, ak_al, ak_is, ak_as, ak_ls, ak_ii, ak_ib, ak_id, ak_lb, ak_lx, ak_lc, ak_iu, ak_i2l, ak_l2i, ak_dup, ak_dup2, ak_pop, ak_if, ak_ic, ak_sw, am_sws, ak_get, ak_puti, ak_putz, ak_putl, ak_puta, ak_iald, ak_lald, ak_iast, ak_last, ak_alen, ak_cs, ak_cv, ak_ri, ak_rz, ak_rl, ak_rv, am_ent, am_sp, am_pu, am_rs, Value.category, am_st1, am_st2, am_clr, List.getElem?_cons_zero, List.getElem?_cons_succ, List.set_cons_zero, List.set_cons_succ, List.length_cons, List.length_nil, Nat.reduceAdd, Nat.reduceLT, Nat.reduceLeDiff, Nat.zero_add, Nat.add_zero, true_and, and_true, or_true, true_or, if_true, if_false, Option.some.injEq, true_implies, false_implies, not_true_eq_false, not_false_eq_true, hc_i0, hc_f0_0, hc_f0_1, hc_f0_2, hc_f0_3, hc_f0_4, hc_f0_5, hc_f0_6, hc_p0_6, hc_i1, hc_f1_0, hc_f1_1, hc_p1_1, hc_a2, hc_s2, hc_l2, hc_i3, hc_f3_0, hc_f3_1, hc_f3_2, hc_f3_3, hc_p3_3, hc_a4, hc_s4, hc_l4, hc_a5, hc_s5, hc_l5, hc_a6, hc_s6, hc_l6, hc_i7, hc_f7_0, hc_f7_1, hc_f7_2, hc_f7_3, hc_p7_3, hc_a8, hc_s8, hc_l8, hc_a9, hc_s9, hc_l9, hc_a10, hc_s10, hc_l10, hc_a11, hc_s11, hc_l11, hc_i12, hc_f12_0, hc_f12_1, hc_f12_2, hc_f12_3, hc_f12_4, hc_f12_5, hc_f12_6, hc_f12_7, hc_p12_7, hc_f12_8, hc_p12_8, hc_f12_9, hc_p12_9, hc_f12_10, hc_p12_10, hc_f12_11, hc_p12_11, hc_i13, hc_f13_0, hc_f13_1, hc_f13_2, hc_f13_3, hc_f13_4, hc_a14, hc_s14, hc_l14, hc_a15, hc_s15, hc_l15, hc_a16, hc_s16, hc_l16, hc_a17, hc_s17, hc_l17, hc_a18, hc_s18, hc_l18, hc_i19, hc_f19_0, hc_f19_1, hc_f19_2, hc_f19_3, hc_f19_4, hc_a20, hc_s20, hc_l20, hc_a21, hc_s21, hc_l21, hc_a22, hc_s22, hc_l22, hc_a23, hc_s23, hc_l23, hc_a24, hc_s24, hc_l24, hc_i25, hc_f25_0, hc_f25_1, hc_f25_2, hc_f25_3, hc_f25_4, hc_a26, hc_s26, hc_l26, hc_a27, hc_s27, hc_l27, hc_a28, hc_s28, hc_l28, hc_a29, hc_s29, hc_l29, hc_a30, hc_s30, hc_l30, hc_a31, hc_s31, hc_l31, hc_i32, hc_f32_0, hc_f32_1, hc_p32_1, hc_f32_2, hc_p32_2, hc_f32_3, hc_a33, hc_s33, hc_l33]
  have loop : ∀ f k, k + f = sp.length → (∀ m, m < k → cl.flatten[fr + m]? = sp[m]?) → G 3 [some (.ref 7), some (.int (nI fr)), some (.int (nI sp.length)), some (.long (lN (mk_pk sp))), none, some (.int (nI k))] [] (HC I J A B tl) := by
    intro f
    induction f with
    | zero =>
      intro k hk he
      refine g3 _ _ _ ?_
      simp only [B_X1_standsAt_3, am_us, am_un, Nat.reduceEqDiff, not_false_eq_true, ak_c, ak_il, ak_ll, ak_al, ak_is, ak_as, ak_ls, ak_ii, ak_ib, ak_id, ak_lb, ak_lx, ak_lc, ak_iu, ak_i2l, ak_l2i, ak_dup, ak_dup2, ak_pop, ak_if, ak_ic, ak_sw, am_sws, ak_get, ak_puti, ak_putz, ak_putl, ak_puta, ak_iald, ak_lald, ak_iast, ak_last, ak_alen, ak_cs, ak_cv, ak_ri, ak_rz, ak_rl, ak_rv, am_ent, am_sp, am_pu, am_rs, Value.category, am_st1, am_st2, am_clr, List.getElem?_cons_zero, List.getElem?_cons_succ, List.set_cons_zero, List.set_cons_succ, List.length_cons, List.length_nil, Nat.reduceAdd, Nat.reduceLT, Nat.reduceLeDiff, Nat.zero_add, Nat.add_zero, true_and, and_true, or_true, true_or, if_true, if_false, Option.some.injEq, true_implies, false_implies, not_true_eq_false, not_false_eq_true, hc_i0, hc_f0_0, hc_f0_1, hc_f0_2, hc_f0_3, hc_f0_4, hc_f0_5, hc_f0_6, hc_p0_6, hc_i1, hc_f1_0, hc_f1_1, hc_p1_1, hc_a2, hc_s2, hc_l2, hc_i3, hc_f3_0, hc_f3_1, hc_f3_2, hc_f3_3, hc_p3_3, hc_a4, hc_s4, hc_l4, hc_a5, hc_s5, hc_l5, hc_a6, hc_s6, hc_l6, hc_i7, hc_f7_0, hc_f7_1, hc_f7_2, hc_f7_3, hc_p7_3, hc_a8, hc_s8, hc_l8, hc_a9, hc_s9, hc_l9, hc_a10, hc_s10, hc_l10, hc_a11, hc_s11, hc_l11, hc_i12, hc_f12_0, hc_f12_1, hc_f12_2, hc_f12_3, hc_f12_4, hc_f12_5, hc_f12_6, hc_f12_7, hc_p12_7, hc_f12_8, hc_p12_8, hc_f12_9, hc_p12_9, hc_f12_10, hc_p12_10, hc_f12_11, hc_p12_11, hc_i13, hc_f13_0, hc_f13_1, hc_f13_2, hc_f13_3, hc_f13_4, hc_a14, hc_s14, hc_l14, hc_a15, hc_s15, hc_l15, hc_a16, hc_s16, hc_l16, hc_a17, hc_s17, hc_l17, hc_a18, hc_s18, hc_l18, hc_i19, hc_f19_0, hc_f19_1, hc_f19_2, hc_f19_3, hc_f19_4, hc_a20, hc_s20, hc_l20, hc_a21, hc_s21, hc_l21, hc_a22, hc_s22, hc_l22, hc_a23, hc_s23, hc_l23, hc_a24, hc_s24, hc_l24, hc_i25, hc_f25_0, hc_f25_1, hc_f25_2, hc_f25_3, hc_f25_4, hc_a26, hc_s26, hc_l26, hc_a27, hc_s27, hc_l27, hc_a28, hc_s28, hc_l28, hc_a29, hc_s29, hc_l29, hc_a30, hc_s30, hc_l30, hc_a31, hc_s31, hc_l31, hc_i32, hc_f32_0, hc_f32_1, hc_p32_1, hc_f32_2, hc_p32_2, hc_f32_3, hc_a33, hc_s33, hc_l33]
      rw [n_le (by omega) (by omega)]
      refine ⟨fun _ => ?_, fun q => absurd (by omega) q⟩
      rw [if_pos] at hQ
      · exact hQ
      · refine List.ext_getElem? fun m => ?_
        rw [List.getElem?_take]
        split
        · rw [List.getElem?_drop]; exact he m (by omega)
        · rw [List.getElem?_eq_none (by omega)]
    | succ f ih =>
      intro k hk he
      have hks : k < sp.length := by omega
      have hkf : fr + k < cl.flatten.length := by rw [ml_flat]; omega
      obtain ⟨a, ha⟩ : ∃ a, cl.flatten[fr + k]? = some a := ⟨_, List.getElem?_eq_getElem hkf⟩
      obtain ⟨b, hb2⟩ : ∃ b, sp[k]? = some b := ⟨_, List.getElem?_eq_getElem hks⟩
      have haW := hW a (List.mem_of_getElem? ha)
      have hbW := hs b (List.mem_of_getElem? hb2)
      refine g3 _ _ _ ?_
      simp only [B_X1_standsAt_3, am_us, am_un, Nat.reduceEqDiff, not_false_eq_true, ak_c, ak_il, ak_ll, ak_al, ak_is, ak_as, ak_ls, ak_ii, ak_ib, ak_id, ak_lb, ak_lx, ak_lc, ak_iu, ak_i2l, ak_l2i, ak_dup, ak_dup2, ak_pop, ak_if, ak_ic, ak_sw, am_sws, ak_get, ak_puti, ak_putz, ak_putl, ak_puta, ak_iald, ak_lald, ak_iast, ak_last, ak_alen, ak_cs, ak_cv, ak_ri, ak_rz, ak_rl, ak_rv, am_ent, am_sp, am_pu, am_rs, Value.category, am_st1, am_st2, am_clr, List.getElem?_cons_zero, List.getElem?_cons_succ, List.set_cons_zero, List.set_cons_succ, List.length_cons, List.length_nil, Nat.reduceAdd, Nat.reduceLT, Nat.reduceLeDiff, Nat.zero_add, Nat.add_zero, true_and, and_true, or_true, true_or, if_true, if_false, Option.some.injEq, true_implies, false_implies, not_true_eq_false, not_false_eq_true, hc_i0, hc_f0_0, hc_f0_1, hc_f0_2, hc_f0_3, hc_f0_4, hc_f0_5, hc_f0_6, hc_p0_6, hc_i1, hc_f1_0, hc_f1_1, hc_p1_1, hc_a2, hc_s2, hc_l2, hc_i3, hc_f3_0, hc_f3_1, hc_f3_2, hc_f3_3, hc_p3_3, hc_a4, hc_s4, hc_l4, hc_a5, hc_s5, hc_l5, hc_a6, hc_s6, hc_l6, hc_i7, hc_f7_0, hc_f7_1, hc_f7_2, hc_f7_3, hc_p7_3, hc_a8, hc_s8, hc_l8, hc_a9, hc_s9, hc_l9, hc_a10, hc_s10, hc_l10, hc_a11, hc_s11, hc_l11, hc_i12, hc_f12_0, hc_f12_1, hc_f12_2, hc_f12_3, hc_f12_4, hc_f12_5, hc_f12_6, hc_f12_7, hc_p12_7, hc_f12_8, hc_p12_8, hc_f12_9, hc_p12_9, hc_f12_10, hc_p12_10, hc_f12_11, hc_p12_11, hc_i13, hc_f13_0, hc_f13_1, hc_f13_2, hc_f13_3, hc_f13_4, hc_a14, hc_s14, hc_l14, hc_a15, hc_s15, hc_l15, hc_a16, hc_s16, hc_l16, hc_a17, hc_s17, hc_l17, hc_a18, hc_s18, hc_l18, hc_i19, hc_f19_0, hc_f19_1, hc_f19_2, hc_f19_3, hc_f19_4, hc_a20, hc_s20, hc_l20, hc_a21, hc_s21, hc_l21, hc_a22, hc_s22, hc_l22, hc_a23, hc_s23, hc_l23, hc_a24, hc_s24, hc_l24, hc_i25, hc_f25_0, hc_f25_1, hc_f25_2, hc_f25_3, hc_f25_4, hc_a26, hc_s26, hc_l26, hc_a27, hc_s27, hc_l27, hc_a28, hc_s28, hc_l28, hc_a29, hc_s29, hc_l29, hc_a30, hc_s30, hc_l30, hc_a31, hc_s31, hc_l31, hc_i32, hc_f32_0, hc_f32_1, hc_p32_1, hc_f32_2, hc_p32_2, hc_f32_3, hc_a33, hc_s33, hc_l33]
      rw [nI_add, n_le (by omega) (by omega), n_cl (by omega), hC.2.2.2.2 _ _ ha]
      refine ⟨fun q => absurd q (by omega), fun _ => ⟨vp_in_nI (by omega) (by omega), p_X2_at hs (by omega) (by omega) ?_⟩⟩
      simp only [am_us, am_un, Nat.reduceEqDiff, not_false_eq_true, ak_c, ak_il, ak_ll, ak_al, ak_is, ak_as, ak_ls, ak_ii, ak_ib, ak_id, ak_lb, ak_lx, ak_lc, ak_iu, ak_i2l, ak_l2i, ak_dup, ak_dup2, ak_pop, ak_if, ak_ic, ak_sw, am_sws, ak_get, ak_puti, ak_putz, ak_putl, ak_puta, ak_iald, ak_lald, ak_iast, ak_last, ak_alen, ak_cs, ak_cv, ak_ri, ak_rz, ak_rl, ak_rv, am_ent, am_sp, am_pu, am_rs, Value.category, am_st1, am_st2, am_clr, List.getElem?_cons_zero, List.getElem?_cons_succ, List.set_cons_zero, List.set_cons_succ, List.length_cons, List.length_nil, Nat.reduceAdd, Nat.reduceLT, Nat.reduceLeDiff, Nat.zero_add, Nat.add_zero, true_and, and_true, or_true, true_or, if_true, if_false, Option.some.injEq, true_implies, false_implies, not_true_eq_false, not_false_eq_true, hc_i0, hc_f0_0, hc_f0_1, hc_f0_2, hc_f0_3, hc_f0_4, hc_f0_5, hc_f0_6, hc_p0_6, hc_i1, hc_f1_0, hc_f1_1, hc_p1_1, hc_a2, hc_s2, hc_l2, hc_i3, hc_f3_0, hc_f3_1, hc_f3_2, hc_f3_3, hc_p3_3, hc_a4, hc_s4, hc_l4, hc_a5, hc_s5, hc_l5, hc_a6, hc_s6, hc_l6, hc_i7, hc_f7_0, hc_f7_1, hc_f7_2, hc_f7_3, hc_p7_3, hc_a8, hc_s8, hc_l8, hc_a9, hc_s9, hc_l9, hc_a10, hc_s10, hc_l10, hc_a11, hc_s11, hc_l11, hc_i12, hc_f12_0, hc_f12_1, hc_f12_2, hc_f12_3, hc_f12_4, hc_f12_5, hc_f12_6, hc_f12_7, hc_p12_7, hc_f12_8, hc_p12_8, hc_f12_9, hc_p12_9, hc_f12_10, hc_p12_10, hc_f12_11, hc_p12_11, hc_i13, hc_f13_0, hc_f13_1, hc_f13_2, hc_f13_3, hc_f13_4, hc_a14, hc_s14, hc_l14, hc_a15, hc_s15, hc_l15, hc_a16, hc_s16, hc_l16, hc_a17, hc_s17, hc_l17, hc_a18, hc_s18, hc_l18, hc_i19, hc_f19_0, hc_f19_1, hc_f19_2, hc_f19_3, hc_f19_4, hc_a20, hc_s20, hc_l20, hc_a21, hc_s21, hc_l21, hc_a22, hc_s22, hc_l22, hc_a23, hc_s23, hc_l23, hc_a24, hc_s24, hc_l24, hc_i25, hc_f25_0, hc_f25_1, hc_f25_2, hc_f25_3, hc_f25_4, hc_a26, hc_s26, hc_l26, hc_a27, hc_s27, hc_l27, hc_a28, hc_s28, hc_l28, hc_a29, hc_s29, hc_l29, hc_a30, hc_s30, hc_l30, hc_a31, hc_s31, hc_l31, hc_i32, hc_f32_0, hc_f32_1, hc_p32_1, hc_f32_2, hc_p32_2, hc_f32_3, hc_a33, hc_s33, hc_l33]
      rw [List.getD_eq_getElem?_getD, hb2, Option.getD_some, n_eq (by omega) (by omega)]
      refine ⟨fun q => ?_, fun q => ?_⟩
      · rw [n_add1]
        refine ih (k + 1) (by omega) (fun m hm => ?_)
        by_cases e : m = k
        · subst e; rw [ha, hb2]; congr 1; omega
        · exact he m (by omega)
      · rw [if_neg] at hQ
        · exact hQ
        · intro e
          have h2 := congrArg (fun l => l[k]?) e
          simp only [List.getElem?_take, List.getElem?_drop, hks, if_true] at h2
          rw [ha, hb2] at h2
          cases h2
          exact q rfl
  exact loop sp.length 0 (by omega) (fun m hm => absurd hm (by omega))
theorem p_X1_hidingPlaces (hC : rc_C I A B cl) {i j : Nat} {sp : List Nat} (hij : i < j) (hj : j ≤ cl.length) (hs : mk_W sp) (hs8 : sp.length ≤ 8) (hQ : Q (some (.int (nI (mu_hids cl i j sp).length))) (HC I J A B tl)) : K_X1_hidingPlaces [.ref 7, .int (nI i), .int (nI j), .long (lN (mk_pk sp))] (HC I J A B tl) Q := by
  refine ⟨Nat.le_of_ble_eq_true rfl, fun G hG => ?_⟩
  obtain ⟨g0, g19, g78⟩ := hG
  refine g0 _ _ _ ?_
  have hbd := hC.bd
  have h6 := hC.1.2.1
  have hi : i < cl.length := by omega
  have hci : cl[i]? = some cl[i] := List.getElem?_eq_getElem hi
  have hsi := ml_s_le cl i
  have hsi1 := ml_s_le cl (i + 1)
  have hsj := ml_s_le cl j
  have hsj1 := ml_s_le cl (j - 1)
  have hsu := ml_s_succ hci
  have hxi := hC.1.2.2 _ (List.getElem_mem hi)
  have hgd : cl.getD i [] = cl[i] := by simp [List.getD_eq_getElem?_getD, hi]
  simp only [B_X1_hidingPlaces_0, am_us, am_un, Nat.reduceEqDiff, not_false_eq_true, ak_c, ak_il, ak_ll, ak_al, ak_is, ak_as, ak_ls, ak_ii, ak_ib, ak_id, ak_lb, ak_lx, ak_lc, ak_iu, ak_i2l, ak_l2i, ak_dup, ak_dup2, ak_pop, ak_if, ak_ic, ak_sw, am_sws, ak_get, ak_puti, ak_putz, ak_putl, ak_puta, ak_iald, ak_lald, ak_iast, ak_last, ak_alen, ak_cs, ak_cv, ak_ri, ak_rz, ak_rl, ak_rv, am_ent, am_sp, am_pu, am_rs, Value.category, am_st1, am_st2, am_clr, List.getElem?_cons_zero, List.getElem?_cons_succ, List.set_cons_zero, List.set_cons_succ, List.length_cons, List.length_nil, Nat.reduceAdd, Nat.reduceLT, Nat.reduceLeDiff, Nat.zero_add, Nat.add_zero, true_and, and_true, or_true, true_or, if_true, if_false, Option.some.injEq, true_implies, false_implies, not_true_eq_false, not_false_eq_true, hc_i0, hc_f0_0, hc_f0_1, hc_f0_2, hc_f0_3, hc_f0_4, hc_f0_5, hc_f0_6, hc_p0_6, hc_i1, hc_f1_0, hc_f1_1, hc_p1_1, hc_a2, hc_s2, hc_l2, hc_i3, hc_f3_0, hc_f3_1, hc_f3_2, hc_f3_3, hc_p3_3, hc_a4, hc_s4, hc_l4, hc_a5, hc_s5, hc_l5, hc_a6, hc_s6, hc_l6, hc_i7, hc_f7_0, hc_f7_1, hc_f7_2, hc_f7_3, hc_p7_3, hc_a8, hc_s8, hc_l8, hc_a9, hc_s9, hc_l9, hc_a10, hc_s10, hc_l10, hc_a11, hc_s11, hc_l11, hc_i12, hc_f12_0, hc_f12_1, hc_f12_2, hc_f12_3, hc_f12_4, hc_f12_5, hc_f12_6, hc_f12_7, hc_p12_7, hc_f12_8, hc_p12_8, hc_f12_9, hc_p12_9, hc_f12_10, hc_p12_10, hc_f12_11, hc_p12_11, hc_i13, hc_f13_0, hc_f13_1, hc_f13_2, hc_f13_3, hc_f13_4, hc_a14, hc_s14, hc_l14, hc_a15, hc_s15, hc_l15, hc_a16, hc_s16, hc_l16, hc_a17, hc_s17, hc_l17, hc_a18, hc_s18, hc_l18, hc_i19, hc_f19_0, hc_f19_1, hc_f19_2, hc_f19_3, hc_f19_4, hc_a20, hc_s20, hc_l20, hc_a21, hc_s21, hc_l21, hc_a22, hc_s22, hc_l22, hc_a23, hc_s23, hc_l23, hc_a24, hc_s24, hc_l24, hc_i25, hc_f25_0, hc_f25_1, hc_f25_2, hc_f25_3, hc_f25_4, hc_a26, hc_s26, hc_l26, hc_a27, hc_s27, hc_l27, hc_a28, hc_s28, hc_l28, hc_a29, hc_s29, hc_l29, hc_a30, hc_s30, hc_l30, hc_a31, hc_s31, hc_l31, hc_i32, hc_f32_0, hc_f32_1, hc_p32_1, hc_f32_2, hc_p32_2, hc_f32_3, hc_a33, hc_s33, hc_l33]
  refine p_X2_size hs (by omega) ?_
  simp only [am_us, am_un, Nat.reduceEqDiff, not_false_eq_true, ak_c, ak_il, ak_ll, ak_al, ak_is, ak_as, ak_ls, ak_ii, ak_ib, ak_id, ak_lb, ak_lx, ak_lc, ak_iu, ak_i2l, ak_l2i, ak_dup, ak_dup2, ak_pop, ak_if, ak_ic, ak_sw, am_sws, ak_get, ak_puti, ak_putz, ak_putl, ak_puta, ak_iald, ak_lald, ak_iast, ak_last, ak_alen, ak_cs, ak_cv, ak_ri, ak_rz, ak_rl, ak_rv, am_ent, am_sp, am_pu, am_rs, Value.category, am_st1, am_st2, am_clr, List.getElem?_cons_zero, List.getElem?_cons_succ, List.set_cons_zero, List.set_cons_succ, List.length_cons, List.length_nil, Nat.reduceAdd, Nat.reduceLT, Nat.reduceLeDiff, Nat.zero_add, Nat.add_zero, true_and, and_true, or_true, true_or, if_true, if_false, Option.some.injEq, true_implies, false_implies, not_true_eq_false, not_false_eq_true, hc_i0, hc_f0_0, hc_f0_1, hc_f0_2, hc_f0_3, hc_f0_4, hc_f0_5, hc_f0_6, hc_p0_6, hc_i1, hc_f1_0, hc_f1_1, hc_p1_1, hc_a2, hc_s2, hc_l2, hc_i3, hc_f3_0, hc_f3_1, hc_f3_2, hc_f3_3, hc_p3_3, hc_a4, hc_s4, hc_l4, hc_a5, hc_s5, hc_l5, hc_a6, hc_s6, hc_l6, hc_i7, hc_f7_0, hc_f7_1, hc_f7_2, hc_f7_3, hc_p7_3, hc_a8, hc_s8, hc_l8, hc_a9, hc_s9, hc_l9, hc_a10, hc_s10, hc_l10, hc_a11, hc_s11, hc_l11, hc_i12, hc_f12_0, hc_f12_1, hc_f12_2, hc_f12_3, hc_f12_4, hc_f12_5, hc_f12_6, hc_f12_7, hc_p12_7, hc_f12_8, hc_p12_8, hc_f12_9, hc_p12_9, hc_f12_10, hc_p12_10, hc_f12_11, hc_p12_11, hc_i13, hc_f13_0, hc_f13_1, hc_f13_2, hc_f13_3, hc_f13_4, hc_a14, hc_s14, hc_l14, hc_a15, hc_s15, hc_l15, hc_a16, hc_s16, hc_l16, hc_a17, hc_s17, hc_l17, hc_a18, hc_s18, hc_l18, hc_i19, hc_f19_0, hc_f19_1, hc_f19_2, hc_f19_3, hc_f19_4, hc_a20, hc_s20, hc_l20, hc_a21, hc_s21, hc_l21, hc_a22, hc_s22, hc_l22, hc_a23, hc_s23, hc_l23, hc_a24, hc_s24, hc_l24, hc_i25, hc_f25_0, hc_f25_1, hc_f25_2, hc_f25_3, hc_f25_4, hc_a26, hc_s26, hc_l26, hc_a27, hc_s27, hc_l27, hc_a28, hc_s28, hc_l28, hc_a29, hc_s29, hc_l29, hc_a30, hc_s30, hc_l30, hc_a31, hc_s31, hc_l31, hc_i32, hc_f32_0, hc_f32_1, hc_p32_1, hc_f32_2, hc_p32_2, hc_f32_3, hc_a33, hc_s33, hc_l33]
  simp (disch := omega) only [hC.2.2.2.1 i (by omega), n_lit, n_litL, n_shr, n_shl, n_lt, n_le, n_eq, pk_mul, nI_add, n_cl, n_sub, Nat.reduceAdd, Nat.not_lt_zero, Nat.zero_le, true_implies, false_implies, not_true_eq_false, not_false_eq_true, true_and, and_true]
  refine ⟨vp_in_nI (by omega) (by omega), ?_⟩
  have loop : ∀ f k v8, k + f = (cl[i]).length - 1 → G 19 [some (.ref 7), some (.int (nI i)), some (.int (nI j)), some (.long (lN (mk_pk sp))), none, some (.int (nI sp.length)), some (.int (nI ((List.range k).filter (fun k => mu_hid cl i j sp (ml_s cl i + 1 + k))).length)), some (.int (nI (ml_s cl i + 1 + k))), v8] [] (HC I J A B tl) := by
    intro f
    induction f with
    | zero =>
      intro k v8 hk
      refine g19 _ _ _ ?_
      simp only [B_X1_hidingPlaces_19, am_us, am_un, Nat.reduceEqDiff, not_false_eq_true, ak_c, ak_il, ak_ll, ak_al, ak_is, ak_as, ak_ls, ak_ii, ak_ib, ak_id, ak_lb, ak_lx, ak_lc, ak_iu, ak_i2l, ak_l2i, ak_dup, ak_dup2, ak_pop, ak_if, ak_ic, ak_sw, am_sws, ak_get, ak_puti, ak_putz, ak_putl, ak_puta, ak_iald, ak_lald, ak_iast, ak_last, ak_alen, ak_cs, ak_cv, ak_ri, ak_rz, ak_rl, ak_rv, am_ent, am_sp, am_pu, am_rs, Value.category, am_st1, am_st2, am_clr, List.getElem?_cons_zero, List.getElem?_cons_succ, List.set_cons_zero, List.set_cons_succ, List.length_cons, List.length_nil, Nat.reduceAdd, Nat.reduceLT, Nat.reduceLeDiff, Nat.zero_add, Nat.add_zero, true_and, and_true, or_true, true_or, if_true, if_false, Option.some.injEq, true_implies, false_implies, not_true_eq_false, not_false_eq_true, hc_i0, hc_f0_0, hc_f0_1, hc_f0_2, hc_f0_3, hc_f0_4, hc_f0_5, hc_f0_6, hc_p0_6, hc_i1, hc_f1_0, hc_f1_1, hc_p1_1, hc_a2, hc_s2, hc_l2, hc_i3, hc_f3_0, hc_f3_1, hc_f3_2, hc_f3_3, hc_p3_3, hc_a4, hc_s4, hc_l4, hc_a5, hc_s5, hc_l5, hc_a6, hc_s6, hc_l6, hc_i7, hc_f7_0, hc_f7_1, hc_f7_2, hc_f7_3, hc_p7_3, hc_a8, hc_s8, hc_l8, hc_a9, hc_s9, hc_l9, hc_a10, hc_s10, hc_l10, hc_a11, hc_s11, hc_l11, hc_i12, hc_f12_0, hc_f12_1, hc_f12_2, hc_f12_3, hc_f12_4, hc_f12_5, hc_f12_6, hc_f12_7, hc_p12_7, hc_f12_8, hc_p12_8, hc_f12_9, hc_p12_9, hc_f12_10, hc_p12_10, hc_f12_11, hc_p12_11, hc_i13, hc_f13_0, hc_f13_1, hc_f13_2, hc_f13_3, hc_f13_4, hc_a14, hc_s14, hc_l14, hc_a15, hc_s15, hc_l15, hc_a16, hc_s16, hc_l16, hc_a17, hc_s17, hc_l17, hc_a18, hc_s18, hc_l18, hc_i19, hc_f19_0, hc_f19_1, hc_f19_2, hc_f19_3, hc_f19_4, hc_a20, hc_s20, hc_l20, hc_a21, hc_s21, hc_l21, hc_a22, hc_s22, hc_l22, hc_a23, hc_s23, hc_l23, hc_a24, hc_s24, hc_l24, hc_i25, hc_f25_0, hc_f25_1, hc_f25_2, hc_f25_3, hc_f25_4, hc_a26, hc_s26, hc_l26, hc_a27, hc_s27, hc_l27, hc_a28, hc_s28, hc_l28, hc_a29, hc_s29, hc_l29, hc_a30, hc_s30, hc_l30, hc_a31, hc_s31, hc_l31, hc_i32, hc_f32_0, hc_f32_1, hc_p32_1, hc_f32_2, hc_p32_2, hc_f32_3, hc_a33, hc_s33, hc_l33]
      simp (disch := omega) only [hC.2.2.2.1 (i + 1) (by omega), n_lit, n_litL, n_shr, n_shl, n_lt, n_le, n_eq, pk_mul, nI_add, n_cl, n_sub, Nat.reduceAdd, Nat.not_lt_zero, Nat.zero_le, true_implies, false_implies, not_true_eq_false, not_false_eq_true, true_and, and_true]
      refine ⟨vp_in_nI (by omega) (by omega), fun _ => ?_, fun q => absurd (by omega) q⟩
      unfold mu_hids at hQ
      rw [hgd, show (cl[i]).length - 1 = k by omega] at hQ
      exact hQ
    | succ f ih =>
      intro k v8 hk
      have hcnt : ((List.range k).filter (fun k => mu_hid cl i j sp (ml_s cl i + 1 + k))).length ≤ k := by
        have := List.length_filter_le (fun k => mu_hid cl i j sp (ml_s cl i + 1 + k)) (List.range k)
        simpa using this
      have no : mu_hid cl i j sp (ml_s cl i + 1 + k) = false → ∀ v8, G 78 [some (.ref 7), some (.int (nI i)), some (.int (nI j)), some (.long (lN (mk_pk sp))), none, some (.int (nI sp.length)), some (.int (nI ((List.range k).filter (fun k => mu_hid cl i j sp (ml_s cl i + 1 + k))).length)), some (.int (nI (ml_s cl i + 1 + k))), v8] [] (HC I J A B tl) := by
        intro hz v8
        refine g78 _ _ _ ?_
        simp only [B_X1_hidingPlaces_78, am_us, am_un, Nat.reduceEqDiff, not_false_eq_true, ak_c, ak_il, ak_ll, ak_al, ak_is, ak_as, ak_ls, ak_ii, ak_ib, ak_id, ak_lb, ak_lx, ak_lc, ak_iu, ak_i2l, ak_l2i, ak_dup, ak_dup2, ak_pop, ak_if, ak_ic, ak_sw, am_sws, ak_get, ak_puti, ak_putz, ak_putl, ak_puta, ak_iald, ak_lald, ak_iast, ak_last, ak_alen, ak_cs, ak_cv, ak_ri, ak_rz, ak_rl, ak_rv, am_ent, am_sp, am_pu, am_rs, Value.category, am_st1, am_st2, am_clr, List.getElem?_cons_zero, List.getElem?_cons_succ, List.set_cons_zero, List.set_cons_succ, List.length_cons, List.length_nil, Nat.reduceAdd, Nat.reduceLT, Nat.reduceLeDiff, Nat.zero_add, Nat.add_zero, true_and, and_true, or_true, true_or, if_true, if_false, Option.some.injEq, true_implies, false_implies, not_true_eq_false, not_false_eq_true, hc_i0, hc_f0_0, hc_f0_1, hc_f0_2, hc_f0_3, hc_f0_4, hc_f0_5, hc_f0_6, hc_p0_6, hc_i1, hc_f1_0, hc_f1_1, hc_p1_1, hc_a2, hc_s2, hc_l2, hc_i3, hc_f3_0, hc_f3_1, hc_f3_2, hc_f3_3, hc_p3_3, hc_a4, hc_s4, hc_l4, hc_a5, hc_s5, hc_l5, hc_a6, hc_s6, hc_l6, hc_i7, hc_f7_0, hc_f7_1, hc_f7_2, hc_f7_3, hc_p7_3, hc_a8, hc_s8, hc_l8, hc_a9, hc_s9, hc_l9, hc_a10, hc_s10, hc_l10, hc_a11, hc_s11, hc_l11, hc_i12, hc_f12_0, hc_f12_1, hc_f12_2, hc_f12_3, hc_f12_4, hc_f12_5, hc_f12_6, hc_f12_7, hc_p12_7, hc_f12_8, hc_p12_8, hc_f12_9, hc_p12_9, hc_f12_10, hc_p12_10, hc_f12_11, hc_p12_11, hc_i13, hc_f13_0, hc_f13_1, hc_f13_2, hc_f13_3, hc_f13_4, hc_a14, hc_s14, hc_l14, hc_a15, hc_s15, hc_l15, hc_a16, hc_s16, hc_l16, hc_a17, hc_s17, hc_l17, hc_a18, hc_s18, hc_l18, hc_i19, hc_f19_0, hc_f19_1, hc_f19_2, hc_f19_3, hc_f19_4, hc_a20, hc_s20, hc_l20, hc_a21, hc_s21, hc_l21, hc_a22, hc_s22, hc_l22, hc_a23, hc_s23, hc_l23, hc_a24, hc_s24, hc_l24, hc_i25, hc_f25_0, hc_f25_1, hc_f25_2, hc_f25_3, hc_f25_4, hc_a26, hc_s26, hc_l26, hc_a27, hc_s27, hc_l27, hc_a28, hc_s28, hc_l28, hc_a29, hc_s29, hc_l29, hc_a30, hc_s30, hc_l30, hc_a31, hc_s31, hc_l31, hc_i32, hc_f32_0, hc_f32_1, hc_p32_1, hc_f32_2, hc_p32_2, hc_f32_3, hc_a33, hc_s33, hc_l33]
        simp (disch := omega) only [n_lit, n_litL, n_shr, n_shl, n_lt, n_le, n_eq, pk_mul, nI_add, n_cl, n_sub, Nat.reduceAdd, Nat.not_lt_zero, Nat.zero_le, true_implies, false_implies, not_true_eq_false, not_false_eq_true, true_and, and_true]
        have := ih (k + 1) v8 (by omega)
        rw [List.range_succ, List.filter_append] at this
        simp only [List.filter_cons, hz, List.filter_nil, Bool.false_eq_true, if_false, List.append_nil] at this
        exact this
      refine g19 _ _ _ ?_
      simp only [B_X1_hidingPlaces_19, am_us, am_un, Nat.reduceEqDiff, not_false_eq_true, ak_c, ak_il, ak_ll, ak_al, ak_is, ak_as, ak_ls, ak_ii, ak_ib, ak_id, ak_lb, ak_lx, ak_lc, ak_iu, ak_i2l, ak_l2i, ak_dup, ak_dup2, ak_pop, ak_if, ak_ic, ak_sw, am_sws, ak_get, ak_puti, ak_putz, ak_putl, ak_puta, ak_iald, ak_lald, ak_iast, ak_last, ak_alen, ak_cs, ak_cv, ak_ri, ak_rz, ak_rl, ak_rv, am_ent, am_sp, am_pu, am_rs, Value.category, am_st1, am_st2, am_clr, List.getElem?_cons_zero, List.getElem?_cons_succ, List.set_cons_zero, List.set_cons_succ, List.length_cons, List.length_nil, Nat.reduceAdd, Nat.reduceLT, Nat.reduceLeDiff, Nat.zero_add, Nat.add_zero, true_and, and_true, or_true, true_or, if_true, if_false, Option.some.injEq, true_implies, false_implies, not_true_eq_false, not_false_eq_true, hc_i0, hc_f0_0, hc_f0_1, hc_f0_2, hc_f0_3, hc_f0_4, hc_f0_5, hc_f0_6, hc_p0_6, hc_i1, hc_f1_0, hc_f1_1, hc_p1_1, hc_a2, hc_s2, hc_l2, hc_i3, hc_f3_0, hc_f3_1, hc_f3_2, hc_f3_3, hc_p3_3, hc_a4, hc_s4, hc_l4, hc_a5, hc_s5, hc_l5, hc_a6, hc_s6, hc_l6, hc_i7, hc_f7_0, hc_f7_1, hc_f7_2, hc_f7_3, hc_p7_3, hc_a8, hc_s8, hc_l8, hc_a9, hc_s9, hc_l9, hc_a10, hc_s10, hc_l10, hc_a11, hc_s11, hc_l11, hc_i12, hc_f12_0, hc_f12_1, hc_f12_2, hc_f12_3, hc_f12_4, hc_f12_5, hc_f12_6, hc_f12_7, hc_p12_7, hc_f12_8, hc_p12_8, hc_f12_9, hc_p12_9, hc_f12_10, hc_p12_10, hc_f12_11, hc_p12_11, hc_i13, hc_f13_0, hc_f13_1, hc_f13_2, hc_f13_3, hc_f13_4, hc_a14, hc_s14, hc_l14, hc_a15, hc_s15, hc_l15, hc_a16, hc_s16, hc_l16, hc_a17, hc_s17, hc_l17, hc_a18, hc_s18, hc_l18, hc_i19, hc_f19_0, hc_f19_1, hc_f19_2, hc_f19_3, hc_f19_4, hc_a20, hc_s20, hc_l20, hc_a21, hc_s21, hc_l21, hc_a22, hc_s22, hc_l22, hc_a23, hc_s23, hc_l23, hc_a24, hc_s24, hc_l24, hc_i25, hc_f25_0, hc_f25_1, hc_f25_2, hc_f25_3, hc_f25_4, hc_a26, hc_s26, hc_l26, hc_a27, hc_s27, hc_l27, hc_a28, hc_s28, hc_l28, hc_a29, hc_s29, hc_l29, hc_a30, hc_s30, hc_l30, hc_a31, hc_s31, hc_l31, hc_i32, hc_f32_0, hc_f32_1, hc_p32_1, hc_f32_2, hc_p32_2, hc_f32_3, hc_a33, hc_s33, hc_l33]
      simp (disch := omega) only [hC.2.2.2.1 (i + 1) (by omega), hC.2.2.2.1 (j - 1) (by omega), hC.2.2.2.1 j (by omega), n_lit, n_litL, n_shr, n_shl, n_lt, n_le, n_eq, pk_mul, nI_add, n_cl, n_sub, Nat.reduceAdd, Nat.not_lt_zero, Nat.zero_le, true_implies, false_implies, not_true_eq_false, not_false_eq_true, true_and, and_true]
      refine ⟨vp_in_nI (by omega) (by omega), fun q => absurd q (by omega), fun _ => ⟨vp_in_nI (by omega) (by omega), fun q => no ?_ _, fun q1 => ⟨vp_in_nI (by omega) (by omega), fun q => no ?_ _, fun q2 => p_X1_standsAt hC hs hs8 (by omega) ?_⟩⟩⟩
      · unfold mu_hid
        rw [decide_eq_false (by omega)]; rfl
      · unfold mu_hid
        rw [decide_eq_false (show ¬ ml_s cl i + 1 + k + sp.length < ml_s cl j by omega)]; simp
      · simp only [am_us, am_un, Nat.reduceEqDiff, not_false_eq_true, ak_c, ak_il, ak_ll, ak_al, ak_is, ak_as, ak_ls, ak_ii, ak_ib, ak_id, ak_lb, ak_lx, ak_lc, ak_iu, ak_i2l, ak_l2i, ak_dup, ak_dup2, ak_pop, ak_if, ak_ic, ak_sw, am_sws, ak_get, ak_puti, ak_putz, ak_putl, ak_puta, ak_iald, ak_lald, ak_iast, ak_last, ak_alen, ak_cs, ak_cv, ak_ri, ak_rz, ak_rl, ak_rv, am_ent, am_sp, am_pu, am_rs, Value.category, am_st1, am_st2, am_clr, List.getElem?_cons_zero, List.getElem?_cons_succ, List.set_cons_zero, List.set_cons_succ, List.length_cons, List.length_nil, Nat.reduceAdd, Nat.reduceLT, Nat.reduceLeDiff, Nat.zero_add, Nat.add_zero, true_and, and_true, or_true, true_or, if_true, if_false, Option.some.injEq, true_implies, false_implies, not_true_eq_false, not_false_eq_true, hc_i0, hc_f0_0, hc_f0_1, hc_f0_2, hc_f0_3, hc_f0_4, hc_f0_5, hc_f0_6, hc_p0_6, hc_i1, hc_f1_0, hc_f1_1, hc_p1_1, hc_a2, hc_s2, hc_l2, hc_i3, hc_f3_0, hc_f3_1, hc_f3_2, hc_f3_3, hc_p3_3, hc_a4, hc_s4, hc_l4, hc_a5, hc_s5, hc_l5, hc_a6, hc_s6, hc_l6, hc_i7, hc_f7_0, hc_f7_1, hc_f7_2, hc_f7_3, hc_p7_3, hc_a8, hc_s8, hc_l8, hc_a9, hc_s9, hc_l9, hc_a10, hc_s10, hc_l10, hc_a11, hc_s11, hc_l11, hc_i12, hc_f12_0, hc_f12_1, hc_f12_2, hc_f12_3, hc_f12_4, hc_f12_5, hc_f12_6, hc_f12_7, hc_p12_7, hc_f12_8, hc_p12_8, hc_f12_9, hc_p12_9, hc_f12_10, hc_p12_10, hc_f12_11, hc_p12_11, hc_i13, hc_f13_0, hc_f13_1, hc_f13_2, hc_f13_3, hc_f13_4, hc_a14, hc_s14, hc_l14, hc_a15, hc_s15, hc_l15, hc_a16, hc_s16, hc_l16, hc_a17, hc_s17, hc_l17, hc_a18, hc_s18, hc_l18, hc_i19, hc_f19_0, hc_f19_1, hc_f19_2, hc_f19_3, hc_f19_4, hc_a20, hc_s20, hc_l20, hc_a21, hc_s21, hc_l21, hc_a22, hc_s22, hc_l22, hc_a23, hc_s23, hc_l23, hc_a24, hc_s24, hc_l24, hc_i25, hc_f25_0, hc_f25_1, hc_f25_2, hc_f25_3, hc_f25_4, hc_a26, hc_s26, hc_l26, hc_a27, hc_s27, hc_l27, hc_a28, hc_s28, hc_l28, hc_a29, hc_s29, hc_l29, hc_a30, hc_s30, hc_l30, hc_a31, hc_s31, hc_l31, hc_i32, hc_f32_0, hc_f32_1, hc_p32_1, hc_f32_2, hc_p32_2, hc_f32_3, hc_a33, hc_s33, hc_l33]
        by_cases hm : (cl.flatten.drop (ml_s cl i + 1 + k)).take sp.length = sp
        · rw [if_pos hm]
          refine ⟨fun q => absurd q (by decide), fun _ => g78 _ _ _ ?_⟩
          simp only [B_X1_hidingPlaces_78, am_us, am_un, Nat.reduceEqDiff, not_false_eq_true, ak_c, ak_il, ak_ll, ak_al, ak_is, ak_as, ak_ls, ak_ii, ak_ib, ak_id, ak_lb, ak_lx, ak_lc, ak_iu, ak_i2l, ak_l2i, ak_dup, ak_dup2, ak_pop, ak_if, ak_ic, ak_sw, am_sws, ak_get, ak_puti, ak_putz, ak_putl, ak_puta, ak_iald, ak_lald, ak_iast, ak_last, ak_alen, ak_cs, ak_cv, ak_ri, ak_rz, ak_rl, ak_rv, am_ent, am_sp, am_pu, am_rs, Value.category, am_st1, am_st2, am_clr, List.getElem?_cons_zero, List.getElem?_cons_succ, List.set_cons_zero, List.set_cons_succ, List.length_cons, List.length_nil, Nat.reduceAdd, Nat.reduceLT, Nat.reduceLeDiff, Nat.zero_add, Nat.add_zero, true_and, and_true, or_true, true_or, if_true, if_false, Option.some.injEq, true_implies, false_implies, not_true_eq_false, not_false_eq_true, hc_i0, hc_f0_0, hc_f0_1, hc_f0_2, hc_f0_3, hc_f0_4, hc_f0_5, hc_f0_6, hc_p0_6, hc_i1, hc_f1_0, hc_f1_1, hc_p1_1, hc_a2, hc_s2, hc_l2, hc_i3, hc_f3_0, hc_f3_1, hc_f3_2, hc_f3_3, hc_p3_3, hc_a4, hc_s4, hc_l4, hc_a5, hc_s5, hc_l5, hc_a6, hc_s6, hc_l6, hc_i7, hc_f7_0, hc_f7_1, hc_f7_2, hc_f7_3, hc_p7_3, hc_a8, hc_s8, hc_l8, hc_a9, hc_s9, hc_l9, hc_a10, hc_s10, hc_l10, hc_a11, hc_s11, hc_l11, hc_i12, hc_f12_0, hc_f12_1, hc_f12_2, hc_f12_3, hc_f12_4, hc_f12_5, hc_f12_6, hc_f12_7, hc_p12_7, hc_f12_8, hc_p12_8, hc_f12_9, hc_p12_9, hc_f12_10, hc_p12_10, hc_f12_11, hc_p12_11, hc_i13, hc_f13_0, hc_f13_1, hc_f13_2, hc_f13_3, hc_f13_4, hc_a14, hc_s14, hc_l14, hc_a15, hc_s15, hc_l15, hc_a16, hc_s16, hc_l16, hc_a17, hc_s17, hc_l17, hc_a18, hc_s18, hc_l18, hc_i19, hc_f19_0, hc_f19_1, hc_f19_2, hc_f19_3, hc_f19_4, hc_a20, hc_s20, hc_l20, hc_a21, hc_s21, hc_l21, hc_a22, hc_s22, hc_l22, hc_a23, hc_s23, hc_l23, hc_a24, hc_s24, hc_l24, hc_i25, hc_f25_0, hc_f25_1, hc_f25_2, hc_f25_3, hc_f25_4, hc_a26, hc_s26, hc_l26, hc_a27, hc_s27, hc_l27, hc_a28, hc_s28, hc_l28, hc_a29, hc_s29, hc_l29, hc_a30, hc_s30, hc_l30, hc_a31, hc_s31, hc_l31, hc_i32, hc_f32_0, hc_f32_1, hc_p32_1, hc_f32_2, hc_p32_2, hc_f32_3, hc_a33, hc_s33, hc_l33]
          simp (disch := omega) only [n_lit, n_litL, n_shr, n_shl, n_lt, n_le, n_eq, pk_mul, nI_add, n_cl, n_sub, Nat.reduceAdd, Nat.not_lt_zero, Nat.zero_le, true_implies, false_implies, not_true_eq_false, not_false_eq_true, true_and, and_true]
          have ht : mu_hid cl i j sp (ml_s cl i + 1 + k) = true := by
            unfold mu_hid
            rw [decide_eq_true (by omega), decide_eq_true (by omega), decide_eq_true hm]; rfl
          have := ih (k + 1) (some (.int (nI (ml_s cl i + 1 + k + sp.length)))) (by omega)
          rw [List.range_succ, List.filter_append, List.length_append] at this
          simp only [List.filter_cons, ht, List.filter_nil, if_true, List.length_cons, List.length_nil, Nat.zero_add] at this
          exact this
        · rw [if_neg hm]
          refine ⟨fun _ => no ?_ _, fun q => absurd (by decide) q⟩
          unfold mu_hid
          rw [decide_eq_false hm]; simp
  exact loop ((cl[i]).length - 1) 0 _ (by omega)
end CL3
