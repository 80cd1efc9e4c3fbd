/-! the reference: in how many runs letters lie; what the table holds -/
def rn_p (y : Nat) : Nat := y % 2 + y / 2 % 2 + y / 4 % 2 + y / 8 % 2 + y / 16 % 2 + y / 32 % 2 + y / 64 % 2 + y / 128 % 2
def rn (x : Nat) : Nat := rn_p (x &&& ((x / 2) ^^^ 255))
def rn_c (p a s : Nat) : Bool := Nat.ble (s % 256) (p % 256) && (Nat.beq (pt_m p s % 256) (p % 256 - s % 256) && (Nat.beq (pt_m p s / 256) (p / 256) && (Nat.beq (s / 256) (p / 256) && (Nat.ble (rn (s % 256)) (rn (p % 256)) && (Nat.ble (rn (pt_m p s % 256)) (rn (p % 256) + 1) && (Nat.ble 1 a || Nat.ble (rn (pt_m p s % 256)) (rn (p % 256))))))))
theorem rn_chk : (List.range 512).all (fun p => (List.range 9).all (fun b => Nat.ble (pt_sz p + 1) b || (List.range b).all (fun a => rn_c p a (pt_s p a b)))) = true := by decide +kernel
theorem rn_f {p a b : Nat} (hp : p < 512) (hab : a < b) (hb : b ≤ pt_sz p) : pt_s p a b % 256 ≤ p % 256 ∧ pt_m p (pt_s p a b) % 256 = p % 256 - pt_s p a b % 256 ∧ pt_m p (pt_s p a b) / 256 = p / 256 ∧ pt_s p a b / 256 = p / 256 ∧ rn (pt_s p a b % 256) ≤ rn (p % 256) ∧ rn (pt_m p (pt_s p a b) % 256) ≤ rn (p % 256) + 1 ∧ (a = 0 → rn (pt_m p (pt_s p a b) % 256) ≤ rn (p % 256)) := by
  have h8 := pt_sz_le p
  have h := List.all_eq_true.mp rn_chk p (List.mem_range.mpr hp)
  have h := List.all_eq_true.mp h b (List.mem_range.mpr (by omega))
  rw [Bool.or_eq_true] at h
  rcases h with h | h
  · have := Nat.le_of_ble_eq_true h
    omega
  · have h := List.all_eq_true.mp h a (List.mem_range.mpr hab)
    simp only [rn_c, Bool.and_eq_true, Bool.or_eq_true, Nat.ble_eq, Nat.beq_eq_true_eq] at h
    obtain ⟨h1, h2, h3, h4, h5, h6, h7⟩ := h
    refine ⟨h1, Nat.eq_of_beq_eq_true h2, Nat.eq_of_beq_eq_true h3, Nat.eq_of_beq_eq_true h4, h5, h6, fun z => ?_⟩
    rcases h7 with h7 | h7
    · omega
    · exact h7
theorem rn_x : ∀ p, p < 512 → (p ^^^ 256) % 256 = p % 256 ∧ (p ^^^ 256) / 256 = 1 - p / 256 := by decide +kernel
def any_s (X : MX) (s : Nat) : Bool := (List.range X.2.1.length).any (fun w => mx_mk X w s)
theorem any_s_of {X : MX} {w s : Nat} (hw : w < X.2.1.length) (h : mx_mk X w s = true) : any_s X s = true := List.any_eq_true.mpr ⟨w, List.mem_range.mpr hw, h⟩
/-- the states that the reference measures -/
def flm (X : MX) (i j p : Nat) : Prop := rg X i j p ∧ (p / 256 = 0 ∨ any_s X 2 = true) ∧ rn (p % 256) ≤ (if any_s X 4 || any_s X 5 then 1 + (X.2.1.length - (j - i)) / 2 else 1)
theorem flm.sub {X : MX} {i j p k l q : Nat} (h : flm X i j p) (hi : i ≤ k) (hkl : k < l) (hl : l ≤ j) (hq : pt_ok X q) (hs : 1 ≤ pt_sz q) (hd : q / 256 = p / 256 ∨ any_s X 2 = true) (hr : rn (q % 256) ≤ rn (p % 256)) : flm X k l q := by
  obtain ⟨⟨h1, h2, h3, h4⟩, h5, h6⟩ := h
  refine ⟨⟨hkl, by omega, hq, hs⟩, ?_, ?_⟩
  · rcases hd with hd | hd
    · rw [hd]; exact h5
    · exact Or.inr hd
  · split at h6
    · rename_i hc
      rw [if_pos hc]
      omega
    · rename_i hc
      rw [if_neg hc]
      omega
theorem flm.con {X : MX} {i j p k l q : Nat} (h : flm X i j p) (ha : any_s X 4 = true ∨ any_s X 5 = true) (hi : i ≤ k) (hkl : k < l) (hl : l ≤ j) (hw : l - k + 2 ≤ j - i) (hq : pt_ok X q) (hs : 1 ≤ pt_sz q) (hd : q / 256 = p / 256) (hr : rn (q % 256) ≤ rn (p % 256) + 1) : flm X k l q := by
  obtain ⟨⟨h1, h2, h3, h4⟩, h5, h6⟩ := h
  have hc : (any_s X 4 || any_s X 5) = true := by rw [Bool.or_eq_true]; exact ha
  rw [if_pos hc] at h6
  refine ⟨⟨hkl, by omega, hq, hs⟩, by rw [hd]; exact h5, ?_⟩
  rw [if_pos hc]
  omega
def rt (b : Bool) (X : MX) (T : Nat → Int64) (i j p : Nat) : Prop := T (rs_ix i j p) = lN (pkd b (MU X i j p) + pkd b (MP X i j p) * 4294967296)
def rtb (b : Bool) (X : MX) (T : Nat → Int64) (w : Nat) : Prop := ∀ i j p, flm X i j p → j - i < w → rt b X T i j p
theorem vw_z {b : Bool} {a : AC} (h : ac_q a) (h0 : a.1 = 0) : vw b a = 0 := by
  have := h.1.mp h0
  unfold vw
  cases b <;> simp [h0, this]
theorem pkd_m {b : Bool} {a : AC} (h : ac_q a) : pkd b a / 256 = min (vw b a) 1000000 := by
  rw [(pkd_n h).2.1]
  by_cases h0 : a.1 = 0
  · rw [if_pos h0, vw_z h h0]; rfl
  · rw [if_neg h0]
theorem cap_mul (x y : Nat) : min (min x 1000000 * min y 1000000) 1000000 = min (x * y) 1000000 := by
  have key : ∀ x y : Nat, 1000000 ≤ x → min (min x 1000000 * min y 1000000) 1000000 = min (x * y) 1000000 := by
    intro x y hx
    rw [Nat.min_eq_right hx]
    by_cases hy : y = 0
    · subst hy; rfl
    · have h1 : 1000000 * 1 ≤ 1000000 * min y 1000000 := Nat.mul_le_mul_left _ (by omega)
      have h2 : 1000000 * 1 ≤ x * y := Nat.mul_le_mul hx (by omega)
      omega
  by_cases hx : 1000000 ≤ x
  · exact key x y hx
  · by_cases hy : 1000000 ≤ y
    · rw [Nat.mul_comm, Nat.mul_comm x y]
      exact key y x hy
    · rw [Nat.min_eq_left (show x ≤ 1000000 by omega), Nat.min_eq_left (show y ≤ 1000000 by omega)]
theorem vw_mul (b : Bool) (a q : AC) (c x : Nat) : vw b (a.1 * q.1, c, a.2.2.1 * q.2.2.1, x) = vw b a * vw b q := by cases b <;> rfl
theorem fm_s {α : Type} (f : Nat → List α) (n : Nat) : (List.range (n + 1)).flatMap f = (List.range n).flatMap f ++ f n := by
  rw [List.range_succ, List.flatMap_append, List.flatMap_cons, List.flatMap_nil, List.append_nil]
theorem mp_s {α : Type} (f : Nat → α) (n : Nat) : (List.range (n + 1)).map f = (List.range n).map f ++ [f n] := by
  rw [List.range_succ, List.map_append]; rfl
section RF11
variable {hd : Nat → am_C} {I I0 : Nat → Int32} {A A0 : Nat → Nat → Int32} {T : Nat → Int64} {Q : am_Q} {h : am_H} {X : MX} {b : Bool} {pk : PKT} {a q : AC} {p i j : Nat}
theorem n_cost {c : Nat} : nI (c + 1) - 1 = nI c := by rw [n_sub1 (by omega)]; rfl
theorem p_R_pieces (hw : ∀ s, s < 11 → X.2.2.2.1 s ≤ 9) (hi : i < j) (hj : j ≤ 6) (hp : p < 512) (hT : rt b X T i j p) {x y : Nat} (hx : x = p % 256) (hy : y = p / 256) (hQ : Q (some (.int (nI (pkd b (MP X i j p))))) (HM hd I A T)) : K_X9_piecesAt [.ref 34, .int (nI i), .int (nI j), .int (nI x), .int (nI y)] (HM hd I A T) Q := by
  subst hx hy
  have h1 := (pkd_n (b := b) (MP_k hw hi (by omega) p).1).1
  have h2 := (pkd_n (b := b) (MU_k hw hi (by omega) p).1).1
  refine p_X9_piecesAt hi hj hp hT (by omega) ?_
  rw [show (pkd b (MU X i j p) + pkd b (MP X i j p) * 4294967296) / 4294967296 = pkd b (MP X i j p) by omega]
  exact hQ
theorem p_R_units (hw : ∀ s, s < 11 → X.2.2.2.1 s ≤ 9) (hi : i < j) (hj : j ≤ 6) (hp : p < 512) {m : Nat} (hT : T (rs_ix i j p) = lN (pkd b (MU X i j p) + m * 4294967296)) {x y : Nat} (hx : x = p % 256) (hy : y = p / 256) (hQ : Q (some (.int (nI (pkd b (MU X i j p))))) (HM hd I A T)) : K_X9_unitsAt [.ref 34, .int (nI i), .int (nI j), .int (nI x), .int (nI y)] (HM hd I A T) Q := by
  subst hx hy
  have h2 := (pkd_n (b := b) (MU_k hw hi (by omega) p).1).1
  refine p_X9_unitsAt hi hj hp hT ?_
  rw [show (pkd b (MU X i j p) + m * 4294967296) % 4294967296 = pkd b (MU X i j p) by omega]
  exact hQ
theorem p_X9_isStirred (hS : SU I0 A0 b X p pk a I A) {l : List Nat} (hj : jn I A l) (lW : mk_W l) (hl : l.length ≤ 42) (hQ : Q (some (.int (if mu_ana l (mx_sp X p) then 1 else 0))) (HM hd I A T)) : K_X9_isStirred [.ref 34] (HM hd I A T) Q := by
  refine ⟨Nat.le_of_ble_eq_true rfl, fun G hG => ?_⟩
  obtain ⟨g0, g19, g45, g50, g54, g88, g94⟩ := hG
  have h8 := pt_sz_le p
  have i13 := hS.2.1.1
  have hsl := mx_sp_len X p
  have spW := mx_sp_W hS.1.2.2.2.1.2.1 hS.2.2.2.2
  have ana : mu_ana l (mx_sp X p) = true ↔ ¬ l = mx_sp X p ∧ l.Perm (mx_sp X p) := by
    unfold mu_ana
    rw [Bool.and_eq_true, decide_eq_true_eq, List.isPerm_iff]
  refine g0 _ _ _ ?_
  simp only [B_X9_isStirred_0, i13, hj.1, am_us, am_un, Nat.reduceEqDiff, not_false_eq_true, ak_c, ak_il, ak_ll, ak_al, ak_is, ak_as, ak_ls, ak_ii, ak_ib, ak_id, ak_lb, ak_lx, ak_lc, ak_iu, ak_i2l, ak_l2i, ak_dup, ak_dup2, ak_pop, ak_if, ak_ic, ak_sw, am_sws, ak_get, ak_puti, ak_putz, ak_putl, ak_puta, ak_iald, ak_lald, ak_iast, ak_last, ak_alen, ak_cs, ak_cv, ak_ri, ak_rz, ak_rl, ak_rv, am_ent, am_sp, am_pu, am_rs, Value.category, am_st1, am_st2, am_clr, List.getElem?_cons_zero, List.getElem?_cons_succ, List.set_cons_zero, List.set_cons_succ, List.length_cons, List.length_nil, Nat.reduceAdd, Nat.reduceLT, Nat.reduceLeDiff, Nat.zero_add, Nat.add_zero, true_and, and_true, or_true, true_or, if_true, if_false, Option.some.injEq, true_implies, false_implies, not_true_eq_false, not_false_eq_true, hm_i34, hm_f34_0, hm_p34_0, hm_f34_1, hm_f34_2, hm_p34_2, hm_f34_3, hm_f34_4, hm_f34_5, hm_f34_6, hm_p34_6, hm_f34_7, hm_f34_8, hm_f34_9, hm_f34_10, hm_p34_10, hm_f34_11, hm_f34_12, hm_f34_13, hm_f34_14, hm_f34_15, hm_f34_16, hm_p34_16, hm_f34_17, hm_p34_17, hm_f34_18, hm_p34_18, hm_f34_19, hm_p34_19, hm_f34_20, hm_p34_20, hm_f34_21, hm_p34_21, hm_f34_22, hm_p34_22, hm_f34_23, hm_p34_23, hm_f34_24, hm_p34_24, hm_f34_25, hm_p34_25, hm_f34_26, hm_f34_27, hm_f34_28, hm_p34_28, hm_f34_29, hm_p34_29, hm_f34_30, hm_f34_31, hm_f34_32, hm_p34_32, hm_f34_33, hm_f34_34, hm_f34_35, hm_f34_36, hm_f34_37, hm_f34_38, hm_a35, hm_s35, hm_l35, hm_a36, hm_s36, hm_l36, hm_a37, hm_s37, hm_l37, hm_a38, hm_s38, hm_l38, hm_a39, hm_s39, hm_l39, hm_a40, hm_s40, hm_l40, hm_a41, hm_s41, hm_l41, hm_a42, hm_s42, hm_l42, hm_a43, hm_s43, hm_l43, hm_a44, hm_s44, hm_l44, hm_a45, hm_s45, hm_l45, hm_a46, hm_s46, hm_l46, hm_a47, hm_s47, hm_l47, hm_a48, hm_s48, hm_l48, hm_a49, hm_s49, hm_l49, hm_a50, hm_s50, hm_l50, hm_a51, hm_s51, hm_l51, hm_a52, hm_s52, hm_l52, hm_a53, hm_s53, hm_l53, hm_a54, hm_s54, hm_l54, hm_a55, hm_s55, hm_l55, hm_a56, hm_s56, hm_l56]
  simp (disch := omega) only [n_lit, n_litL, n_shr, n_shl, n_lt, n_le, n_eq, pk_mul, nI_add, n_cl, n_sub, Nat.reduceAdd, Nat.not_lt_zero, Nat.zero_le, true_implies, false_implies, not_true_eq_false, not_false_eq_true, true_and, and_true]
  refine ⟨fun hn => ?_, fun hn => ?_⟩
  rotate_left
  · have : ¬ mu_ana l (mx_sp X p) = true := fun z => hn (by rw [(ana.mp z).2.length_eq, hsl])
    rw [if_neg this] at hQ
    exact hQ
  have lt : ∀ k x (Q : am_Q), (mx_sp X p)[k]? = some x → Q (some (.int (nI (96 + x)))) (HM hd I A T) → K_X9_letter [.ref 34, .int (nI k)] (HM hd I A T) Q := fun k x Q hx hq => p_X9_letter hS.2.1 hS.1.2.2.2.1.1 hS.1.2.2.2.1.2.2 hS.2.2.2.2 hx hq
  have bit : ∀ u k, u < 256 → k < 8 → (nI u >>> (nI k &&& nI 31) &&& nI 1 = nI 1 ↔ u.testBit k = true) := by
    intro u k hu hk
    rw [n_ishr (by omega) (by omega), n_and, n_eq (Nat.lt_of_le_of_lt Nat.and_le_right (by decide)) (by decide)]
    have := pl_bit u (by omega) k hk
    rw [Nat.mod_eq_of_lt hu] at this
    exact this
  have loop : ∀ r k u (x4 : Option Value), k + r = pt_sz p → u < 256 → l.Perm ((mx_sp X p).take k ++ rm_l l u) → G 19 [some (.ref 34), some (.int (if l.take k = (mx_sp X p).take k then nI 0 else nI 1)), some (.int (nI u)), some (.int (nI k)), x4] [] (HM hd I A T) := by
    intro r
    induction r with
    | zero =>
      intro k u x4 hk hu hpm
      have ek : k = pt_sz p := by omega
      rw [List.take_of_length_le (show l.length ≤ k by omega), List.take_of_length_le (show (mx_sp X p).length ≤ k by omega)]
      rw [List.take_of_length_le (show (mx_sp X p).length ≤ k by omega)] at hpm
      have hle := hpm.length_eq
      rw [List.length_append] at hle
      have hnil : rm_l l u = [] := List.length_eq_zero_iff.mp (by omega)
      rw [hnil, List.append_nil] at hpm
      refine g19 _ _ _ ?_
      simp only [B_X9_isStirred_19, i13, am_us, am_un, Nat.reduceEqDiff, not_false_eq_true, ak_c, ak_il, ak_ll, ak_al, ak_is, ak_as, ak_ls, ak_ii, ak_ib, ak_id, ak_lb, ak_lx, ak_lc, ak_iu, ak_i2l, ak_l2i, ak_dup, ak_dup2, ak_pop, ak_if, ak_ic, ak_sw, am_sws, ak_get, ak_puti, ak_putz, ak_putl, ak_puta, ak_iald, ak_lald, ak_iast, ak_last, ak_alen, ak_cs, ak_cv, ak_ri, ak_rz, ak_rl, ak_rv, am_ent, am_sp, am_pu, am_rs, Value.category, am_st1, am_st2, am_clr, List.getElem?_cons_zero, List.getElem?_cons_succ, List.set_cons_zero, List.set_cons_succ, List.length_cons, List.length_nil, Nat.reduceAdd, Nat.reduceLT, Nat.reduceLeDiff, Nat.zero_add, Nat.add_zero, true_and, and_true, or_true, true_or, if_true, if_false, Option.some.injEq, true_implies, false_implies, not_true_eq_false, not_false_eq_true, hm_i34, hm_f34_0, hm_p34_0, hm_f34_1, hm_f34_2, hm_p34_2, hm_f34_3, hm_f34_4, hm_f34_5, hm_f34_6, hm_p34_6, hm_f34_7, hm_f34_8, hm_f34_9, hm_f34_10, hm_p34_10, hm_f34_11, hm_f34_12, hm_f34_13, hm_f34_14, hm_f34_15, hm_f34_16, hm_p34_16, hm_f34_17, hm_p34_17, hm_f34_18, hm_p34_18, hm_f34_19, hm_p34_19, hm_f34_20, hm_p34_20, hm_f34_21, hm_p34_21, hm_f34_22, hm_p34_22, hm_f34_23, hm_p34_23, hm_f34_24, hm_p34_24, hm_f34_25, hm_p34_25, hm_f34_26, hm_f34_27, hm_f34_28, hm_p34_28, hm_f34_29, hm_p34_29, hm_f34_30, hm_f34_31, hm_f34_32, hm_p34_32, hm_f34_33, hm_f34_34, hm_f34_35, hm_f34_36, hm_f34_37, hm_f34_38, hm_a35, hm_s35, hm_l35, hm_a36, hm_s36, hm_l36, hm_a37, hm_s37, hm_l37, hm_a38, hm_s38, hm_l38, hm_a39, hm_s39, hm_l39, hm_a40, hm_s40, hm_l40, hm_a41, hm_s41, hm_l41, hm_a42, hm_s42, hm_l42, hm_a43, hm_s43, hm_l43, hm_a44, hm_s44, hm_l44, hm_a45, hm_s45, hm_l45, hm_a46, hm_s46, hm_l46, hm_a47, hm_s47, hm_l47, hm_a48, hm_s48, hm_l48, hm_a49, hm_s49, hm_l49, hm_a50, hm_s50, hm_l50, hm_a51, hm_s51, hm_l51, hm_a52, hm_s52, hm_l52, hm_a53, hm_s53, hm_l53, hm_a54, hm_s54, hm_l54, hm_a55, hm_s55, hm_l55, hm_a56, hm_s56, hm_l56]
      simp (disch := omega) only [n_lit, n_litL, n_shr, n_shl, n_lt, n_le, n_eq, pk_mul, nI_add, n_cl, n_sub, Nat.reduceAdd, Nat.not_lt_zero, Nat.zero_le, true_implies, false_implies, not_true_eq_false, not_false_eq_true, true_and, and_true]
      refine ⟨fun _ => ?_, fun q => absurd (by omega) q⟩
      by_cases hc : l = mx_sp X p
      · rw [if_pos hc]
        rw [if_neg (fun z => (ana.mp z).1 hc)] at hQ
        exact ⟨Or.inl rfl, hQ⟩
      · rw [if_neg hc]
        rw [if_pos (ana.mpr ⟨hc, hpm⟩)] at hQ
        exact ⟨Or.inr rfl, hQ⟩
    | succ r ih =>
      intro k u x4 hk hu hpm
      obtain ⟨x, hx⟩ : ∃ x, l[k]? = some x := ⟨_, List.getElem?_eq_getElem (show k < l.length by omega)⟩
      obtain ⟨c, hc⟩ : ∃ c, (mx_sp X p)[k]? = some c := ⟨_, List.getElem?_eq_getElem (show k < (mx_sp X p).length by omega)⟩
      have xW := lW x (List.mem_of_getElem? hx)
      have cW := spW c (List.mem_of_getElem? hc)
      have e1 : l.take (k + 1) = l.take k ++ [x] := by rw [List.take_succ, hx]; rfl
      have e2 : (mx_sp X p).take (k + 1) = (mx_sp X p).take k ++ [c] := by rw [List.take_succ, hc]; rfl
      have e3 : l.take (k + 1) = (mx_sp X p).take (k + 1) ↔ l.take k = (mx_sp X p).take k ∧ x = c := by
        rw [e1, e2]
        constructor
        · intro z
          have := List.append_inj z (by rw [List.length_take, List.length_take]; omega)
          exact ⟨this.1, by simpa using this.2⟩
        · rintro ⟨z1, z2⟩
          rw [z1, z2]
      have inner : ∀ s m, m + s = pt_sz p → (∀ i, i < m → ¬ (l[i]? = some c ∧ u.testBit i = false)) → G 54 [some (.ref 34), some (.int (if l.take (k + 1) = (mx_sp X p).take (k + 1) then nI 0 else nI 1)), some (.int (nI u)), some (.int (nI k)), some (.int (nI m))] [] (HM hd I A T) := by
        intro s
        induction s with
        | zero =>
          intro m hm hno
          refine g54 _ _ _ ?_
          simp only [B_X9_isStirred_54, i13, am_us, am_un, Nat.reduceEqDiff, not_false_eq_true, ak_c, ak_il, ak_ll, ak_al, ak_is, ak_as, ak_ls, ak_ii, ak_ib, ak_id, ak_lb, ak_lx, ak_lc, ak_iu, ak_i2l, ak_l2i, ak_dup, ak_dup2, ak_pop, ak_if, ak_ic, ak_sw, am_sws, ak_get, ak_puti, ak_putz, ak_putl, ak_puta, ak_iald, ak_lald, ak_iast, ak_last, ak_alen, ak_cs, ak_cv, ak_ri, ak_rz, ak_rl, ak_rv, am_ent, am_sp, am_pu, am_rs, Value.category, am_st1, am_st2, am_clr, List.getElem?_cons_zero, List.getElem?_cons_succ, List.set_cons_zero, List.set_cons_succ, List.length_cons, List.length_nil, Nat.reduceAdd, Nat.reduceLT, Nat.reduceLeDiff, Nat.zero_add, Nat.add_zero, true_and, and_true, or_true, true_or, if_true, if_false, Option.some.injEq, true_implies, false_implies, not_true_eq_false, not_false_eq_true, hm_i34, hm_f34_0, hm_p34_0, hm_f34_1, hm_f34_2, hm_p34_2, hm_f34_3, hm_f34_4, hm_f34_5, hm_f34_6, hm_p34_6, hm_f34_7, hm_f34_8, hm_f34_9, hm_f34_10, hm_p34_10, hm_f34_11, hm_f34_12, hm_f34_13, hm_f34_14, hm_f34_15, hm_f34_16, hm_p34_16, hm_f34_17, hm_p34_17, hm_f34_18, hm_p34_18, hm_f34_19, hm_p34_19, hm_f34_20, hm_p34_20, hm_f34_21, hm_p34_21, hm_f34_22, hm_p34_22, hm_f34_23, hm_p34_23, hm_f34_24, hm_p34_24, hm_f34_25, hm_p34_25, hm_f34_26, hm_f34_27, hm_f34_28, hm_p34_28, hm_f34_29, hm_p34_29, hm_f34_30, hm_f34_31, hm_f34_32, hm_p34_32, hm_f34_33, hm_f34_34, hm_f34_35, hm_f34_36, hm_f34_37, hm_f34_38, hm_a35, hm_s35, hm_l35, hm_a36, hm_s36, hm_l36, hm_a37, hm_s37, hm_l37, hm_a38, hm_s38, hm_l38, hm_a39, hm_s39, hm_l39, hm_a40, hm_s40, hm_l40, hm_a41, hm_s41, hm_l41, hm_a42, hm_s42, hm_l42, hm_a43, hm_s43, hm_l43, hm_a44, hm_s44, hm_l44, hm_a45, hm_s45, hm_l45, hm_a46, hm_s46, hm_l46, hm_a47, hm_s47, hm_l47, hm_a48, hm_s48, hm_l48, hm_a49, hm_s49, hm_l49, hm_a50, hm_s50, hm_l50, hm_a51, hm_s51, hm_l51, hm_a52, hm_s52, hm_l52, hm_a53, hm_s53, hm_l53, hm_a54, hm_s54, hm_l54, hm_a55, hm_s55, hm_l55, hm_a56, hm_s56, hm_l56]
          simp (disch := omega) only [n_lit, n_litL, n_shr, n_shl, n_lt, n_le, n_eq, pk_mul, nI_add, n_cl, n_sub, Nat.reduceAdd, Nat.not_lt_zero, Nat.zero_le, true_implies, false_implies, not_true_eq_false, not_false_eq_true, true_and, and_true]
          refine ⟨fun _ => g94 _ _ _ ?_, fun q => absurd (by omega) q⟩
          simp only [B_X9_isStirred_94, i13, am_us, am_un, Nat.reduceEqDiff, not_false_eq_true, ak_c, ak_il, ak_ll, ak_al, ak_is, ak_as, ak_ls, ak_ii, ak_ib, ak_id, ak_lb, ak_lx, ak_lc, ak_iu, ak_i2l, ak_l2i, ak_dup, ak_dup2, ak_pop, ak_if, ak_ic, ak_sw, am_sws, ak_get, ak_puti, ak_putz, ak_putl, ak_puta, ak_iald, ak_lald, ak_iast, ak_last, ak_alen, ak_cs, ak_cv, ak_ri, ak_rz, ak_rl, ak_rv, am_ent, am_sp, am_pu, am_rs, Value.category, am_st1, am_st2, am_clr, List.getElem?_cons_zero, List.getElem?_cons_succ, List.set_cons_zero, List.set_cons_succ, List.length_cons, List.length_nil, Nat.reduceAdd, Nat.reduceLT, Nat.reduceLeDiff, Nat.zero_add, Nat.add_zero, true_and, and_true, or_true, true_or, if_true, if_false, Option.some.injEq, true_implies, false_implies, not_true_eq_false, not_false_eq_true, hm_i34, hm_f34_0, hm_p34_0, hm_f34_1, hm_f34_2, hm_p34_2, hm_f34_3, hm_f34_4, hm_f34_5, hm_f34_6, hm_p34_6, hm_f34_7, hm_f34_8, hm_f34_9, hm_f34_10, hm_p34_10, hm_f34_11, hm_f34_12, hm_f34_13, hm_f34_14, hm_f34_15, hm_f34_16, hm_p34_16, hm_f34_17, hm_p34_17, hm_f34_18, hm_p34_18, hm_f34_19, hm_p34_19, hm_f34_20, hm_p34_20, hm_f34_21, hm_p34_21, hm_f34_22, hm_p34_22, hm_f34_23, hm_p34_23, hm_f34_24, hm_p34_24, hm_f34_25, hm_p34_25, hm_f34_26, hm_f34_27, hm_f34_28, hm_p34_28, hm_f34_29, hm_p34_29, hm_f34_30, hm_f34_31, hm_f34_32, hm_p34_32, hm_f34_33, hm_f34_34, hm_f34_35, hm_f34_36, hm_f34_37, hm_f34_38, hm_a35, hm_s35, hm_l35, hm_a36, hm_s36, hm_l36, hm_a37, hm_s37, hm_l37, hm_a38, hm_s38, hm_l38, hm_a39, hm_s39, hm_l39, hm_a40, hm_s40, hm_l40, hm_a41, hm_s41, hm_l41, hm_a42, hm_s42, hm_l42, hm_a43, hm_s43, hm_l43, hm_a44, hm_s44, hm_l44, hm_a45, hm_s45, hm_l45, hm_a46, hm_s46, hm_l46, hm_a47, hm_s47, hm_l47, hm_a48, hm_s48, hm_l48, hm_a49, hm_s49, hm_l49, hm_a50, hm_s50, hm_l50, hm_a51, hm_s51, hm_l51, hm_a52, hm_s52, hm_l52, hm_a53, hm_s53, hm_l53, hm_a54, hm_s54, hm_l54, hm_a55, hm_s55, hm_l55, hm_a56, hm_s56, hm_l56]
          simp (disch := omega) only [n_lit, n_litL, n_shr, n_shl, n_lt, n_le, n_eq, pk_mul, nI_add, n_cl, n_sub, Nat.reduceAdd, Nat.not_lt_zero, Nat.zero_le, true_implies, false_implies, not_true_eq_false, not_false_eq_true, true_and, and_true]
          refine ⟨fun _ => ?_, fun q => absurd (by omega) q⟩
          have hnp : ¬ mu_ana l (mx_sp X p) = true := by
            intro z
            have h1 := (ana.mp z).2
            have h2 := hpm.symm.trans h1
            have h3 : (mx_sp X p).take k ++ (mx_sp X p).drop k = mx_sp X p := List.take_append_drop _ _
            rw [← h3] at h2
            simp only [List.take_append_drop] at h2
            have h4 : (rm_l l u).Perm ((mx_sp X p).drop k) := by
              have : ((mx_sp X p).take k ++ rm_l l u).Perm ((mx_sp X p).take k ++ (mx_sp X p).drop k) := by rw [h3]; exact h2
              exact (List.perm_append_left_iff _).mp this
            have h5 : c ∈ (mx_sp X p).drop k := by
              apply List.mem_of_getElem? (i := 0)
              rw [List.getElem?_drop]
              exact hc
            obtain ⟨n, hn1, hn2⟩ := rm_mem (h4.mem_iff.mpr h5)
            have := (List.getElem?_eq_some_iff.mp hn1).1
            exact hno n (by omega) ⟨hn1, hn2⟩
          rw [if_neg hnp] at hQ
          exact hQ
        | succ s ih2 =>
          intro m hm hno
          obtain ⟨y, hy⟩ : ∃ y, l[m]? = some y := ⟨_, List.getElem?_eq_getElem (show m < l.length by omega)⟩
          have yW := lW y (List.mem_of_getElem? hy)
          have next : ¬ (l[m]? = some c ∧ u.testBit m = false) → G 88 [some (.ref 34), some (.int (if l.take (k + 1) = (mx_sp X p).take (k + 1) then nI 0 else nI 1)), some (.int (nI u)), some (.int (nI k)), some (.int (nI m))] [] (HM hd I A T) := by
            intro hz
            refine g88 _ _ _ ?_
            simp only [B_X9_isStirred_88, am_us, am_un, Nat.reduceEqDiff, not_false_eq_true, ak_c, ak_il, ak_ll, ak_al, ak_is, ak_as, ak_ls, ak_ii, ak_ib, ak_id, ak_lb, ak_lx, ak_lc, ak_iu, ak_i2l, ak_l2i, ak_dup, ak_dup2, ak_pop, ak_if, ak_ic, ak_sw, am_sws, ak_get, ak_puti, ak_putz, ak_putl, ak_puta, ak_iald, ak_lald, ak_iast, ak_last, ak_alen, ak_cs, ak_cv, ak_ri, ak_rz, ak_rl, ak_rv, am_ent, am_sp, am_pu, am_rs, Value.category, am_st1, am_st2, am_clr, List.getElem?_cons_zero, List.getElem?_cons_succ, List.set_cons_zero, List.set_cons_succ, List.length_cons, List.length_nil, Nat.reduceAdd, Nat.reduceLT, Nat.reduceLeDiff, Nat.zero_add, Nat.add_zero, true_and, and_true, or_true, true_or, if_true, if_false, Option.some.injEq, true_implies, false_implies, not_true_eq_false, not_false_eq_true, hm_i34, hm_f34_0, hm_p34_0, hm_f34_1, hm_f34_2, hm_p34_2, hm_f34_3, hm_f34_4, hm_f34_5, hm_f34_6, hm_p34_6, hm_f34_7, hm_f34_8, hm_f34_9, hm_f34_10, hm_p34_10, hm_f34_11, hm_f34_12, hm_f34_13, hm_f34_14, hm_f34_15, hm_f34_16, hm_p34_16, hm_f34_17, hm_p34_17, hm_f34_18, hm_p34_18, hm_f34_19, hm_p34_19, hm_f34_20, hm_p34_20, hm_f34_21, hm_p34_21, hm_f34_22, hm_p34_22, hm_f34_23, hm_p34_23, hm_f34_24, hm_p34_24, hm_f34_25, hm_p34_25, hm_f34_26, hm_f34_27, hm_f34_28, hm_p34_28, hm_f34_29, hm_p34_29, hm_f34_30, hm_f34_31, hm_f34_32, hm_p34_32, hm_f34_33, hm_f34_34, hm_f34_35, hm_f34_36, hm_f34_37, hm_f34_38, hm_a35, hm_s35, hm_l35, hm_a36, hm_s36, hm_l36, hm_a37, hm_s37, hm_l37, hm_a38, hm_s38, hm_l38, hm_a39, hm_s39, hm_l39, hm_a40, hm_s40, hm_l40, hm_a41, hm_s41, hm_l41, hm_a42, hm_s42, hm_l42, hm_a43, hm_s43, hm_l43, hm_a44, hm_s44, hm_l44, hm_a45, hm_s45, hm_l45, hm_a46, hm_s46, hm_l46, hm_a47, hm_s47, hm_l47, hm_a48, hm_s48, hm_l48, hm_a49, hm_s49, hm_l49, hm_a50, hm_s50, hm_l50, hm_a51, hm_s51, hm_l51, hm_a52, hm_s52, hm_l52, hm_a53, hm_s53, hm_l53, hm_a54, hm_s54, hm_l54, hm_a55, hm_s55, hm_l55, hm_a56, hm_s56, hm_l56]
            rw [n_add1]
            refine ih2 (m + 1) (by omega) (fun i hi => ?_)
            by_cases e : i = m
            · rw [e]; exact hz
            · exact hno i (by omega)
          refine g54 _ _ _ ?_
          simp only [B_X9_isStirred_54, i13, am_us, am_un, Nat.reduceEqDiff, not_false_eq_true, ak_c, ak_il, ak_ll, ak_al, ak_is, ak_as, ak_ls, ak_ii, ak_ib, ak_id, ak_lb, ak_lx, ak_lc, ak_iu, ak_i2l, ak_l2i, ak_dup, ak_dup2, ak_pop, ak_if, ak_ic, ak_sw, am_sws, ak_get, ak_puti, ak_putz, ak_putl, ak_puta, ak_iald, ak_lald, ak_iast, ak_last, ak_alen, ak_cs, ak_cv, ak_ri, ak_rz, ak_rl, ak_rv, am_ent, am_sp, am_pu, am_rs, Value.category, am_st1, am_st2, am_clr, List.getElem?_cons_zero, List.getElem?_cons_succ, List.set_cons_zero, List.set_cons_succ, List.length_cons, List.length_nil, Nat.reduceAdd, Nat.reduceLT, Nat.reduceLeDiff, Nat.zero_add, Nat.add_zero, true_and, and_true, or_true, true_or, if_true, if_false, Option.some.injEq, true_implies, false_implies, not_true_eq_false, not_false_eq_true, hm_i34, hm_f34_0, hm_p34_0, hm_f34_1, hm_f34_2, hm_p34_2, hm_f34_3, hm_f34_4, hm_f34_5, hm_f34_6, hm_p34_6, hm_f34_7, hm_f34_8, hm_f34_9, hm_f34_10, hm_p34_10, hm_f34_11, hm_f34_12, hm_f34_13, hm_f34_14, hm_f34_15, hm_f34_16, hm_p34_16, hm_f34_17, hm_p34_17, hm_f34_18, hm_p34_18, hm_f34_19, hm_p34_19, hm_f34_20, hm_p34_20, hm_f34_21, hm_p34_21, hm_f34_22, hm_p34_22, hm_f34_23, hm_p34_23, hm_f34_24, hm_p34_24, hm_f34_25, hm_p34_25, hm_f34_26, hm_f34_27, hm_f34_28, hm_p34_28, hm_f34_29, hm_p34_29, hm_f34_30, hm_f34_31, hm_f34_32, hm_p34_32, hm_f34_33, hm_f34_34, hm_f34_35, hm_f34_36, hm_f34_37, hm_f34_38, hm_a35, hm_s35, hm_l35, hm_a36, hm_s36, hm_l36, hm_a37, hm_s37, hm_l37, hm_a38, hm_s38, hm_l38, hm_a39, hm_s39, hm_l39, hm_a40, hm_s40, hm_l40, hm_a41, hm_s41, hm_l41, hm_a42, hm_s42, hm_l42, hm_a43, hm_s43, hm_l43, hm_a44, hm_s44, hm_l44, hm_a45, hm_s45, hm_l45, hm_a46, hm_s46, hm_l46, hm_a47, hm_s47, hm_l47, hm_a48, hm_s48, hm_l48, hm_a49, hm_s49, hm_l49, hm_a50, hm_s50, hm_l50, hm_a51, hm_s51, hm_l51, hm_a52, hm_s52, hm_l52, hm_a53, hm_s53, hm_l53, hm_a54, hm_s54, hm_l54, hm_a55, hm_s55, hm_l55, hm_a56, hm_s56, hm_l56]
          simp only [n_lit]
          rw [bit u m hu (by omega)]
          simp (disch := omega) only [hj.2 m y hy, n_lit, n_litL, n_shr, n_shl, n_lt, n_le, n_eq, pk_mul, nI_add, n_cl, n_sub, Nat.reduceAdd, Nat.not_lt_zero, Nat.zero_le, true_implies, false_implies, not_true_eq_false, not_false_eq_true, true_and, and_true]
          refine ⟨fun q => absurd q (by omega), fun _ => ⟨fun q => next (fun z => by rw [q] at z; exact absurd z.2 (by decide)), fun q => ⟨vp_in_nI (by omega) (by omega), lt k c _ hc ?_⟩⟩⟩
          have q : u.testBit m = false := by simpa using q
          simp only [am_us, am_un, Nat.reduceEqDiff, not_false_eq_true, ak_c, ak_il, ak_ll, ak_al, ak_is, ak_as, ak_ls, ak_ii, ak_ib, ak_id, ak_lb, ak_lx, ak_lc, ak_iu, ak_i2l, ak_l2i, ak_dup, ak_dup2, ak_pop, ak_if, ak_ic, ak_sw, am_sws, ak_get, ak_puti, ak_putz, ak_putl, ak_puta, ak_iald, ak_lald, ak_iast, ak_last, ak_alen, ak_cs, ak_cv, ak_ri, ak_rz, ak_rl, ak_rv, am_ent, am_sp, am_pu, am_rs, Value.category, am_st1, am_st2, am_clr, List.getElem?_cons_zero, List.getElem?_cons_succ, List.set_cons_zero, List.set_cons_succ, List.length_cons, List.length_nil, Nat.reduceAdd, Nat.reduceLT, Nat.reduceLeDiff, Nat.zero_add, Nat.add_zero, true_and, and_true, or_true, true_or, if_true, if_false, Option.some.injEq, true_implies, false_implies, not_true_eq_false, not_false_eq_true, hm_i34, hm_f34_0, hm_p34_0, hm_f34_1, hm_f34_2, hm_p34_2, hm_f34_3, hm_f34_4, hm_f34_5, hm_f34_6, hm_p34_6, hm_f34_7, hm_f34_8, hm_f34_9, hm_f34_10, hm_p34_10, hm_f34_11, hm_f34_12, hm_f34_13, hm_f34_14, hm_f34_15, hm_f34_16, hm_p34_16, hm_f34_17, hm_p34_17, hm_f34_18, hm_p34_18, hm_f34_19, hm_p34_19, hm_f34_20, hm_p34_20, hm_f34_21, hm_p34_21, hm_f34_22, hm_p34_22, hm_f34_23, hm_p34_23, hm_f34_24, hm_p34_24, hm_f34_25, hm_p34_25, hm_f34_26, hm_f34_27, hm_f34_28, hm_p34_28, hm_f34_29, hm_p34_29, hm_f34_30, hm_f34_31, hm_f34_32, hm_p34_32, hm_f34_33, hm_f34_34, hm_f34_35, hm_f34_36, hm_f34_37, hm_f34_38, hm_a35, hm_s35, hm_l35, hm_a36, hm_s36, hm_l36, hm_a37, hm_s37, hm_l37, hm_a38, hm_s38, hm_l38, hm_a39, hm_s39, hm_l39, hm_a40, hm_s40, hm_l40, hm_a41, hm_s41, hm_l41, hm_a42, hm_s42, hm_l42, hm_a43, hm_s43, hm_l43, hm_a44, hm_s44, hm_l44, hm_a45, hm_s45, hm_l45, hm_a46, hm_s46, hm_l46, hm_a47, hm_s47, hm_l47, hm_a48, hm_s48, hm_l48, hm_a49, hm_s49, hm_l49, hm_a50, hm_s50, hm_l50, hm_a51, hm_s51, hm_l51, hm_a52, hm_s52, hm_l52, hm_a53, hm_s53, hm_l53, hm_a54, hm_s54, hm_l54, hm_a55, hm_s55, hm_l55, hm_a56, hm_s56, hm_l56]
          rw [n_eq (by omega) (by omega)]
          refine ⟨fun q2 => g94 _ _ _ ?_, fun q2 => next (fun z => q2 (by rw [hy] at z; cases z.1; rfl))⟩
          have eyc : y = c := by omega
          simp only [B_X9_isStirred_94, i13, am_us, am_un, Nat.reduceEqDiff, not_false_eq_true, ak_c, ak_il, ak_ll, ak_al, ak_is, ak_as, ak_ls, ak_ii, ak_ib, ak_id, ak_lb, ak_lx, ak_lc, ak_iu, ak_i2l, ak_l2i, ak_dup, ak_dup2, ak_pop, ak_if, ak_ic, ak_sw, am_sws, ak_get, ak_puti, ak_putz, ak_putl, ak_puta, ak_iald, ak_lald, ak_iast, ak_last, ak_alen, ak_cs, ak_cv, ak_ri, ak_rz, ak_rl, ak_rv, am_ent, am_sp, am_pu, am_rs, Value.category, am_st1, am_st2, am_clr, List.getElem?_cons_zero, List.getElem?_cons_succ, List.set_cons_zero, List.set_cons_succ, List.length_cons, List.length_nil, Nat.reduceAdd, Nat.reduceLT, Nat.reduceLeDiff, Nat.zero_add, Nat.add_zero, true_and, and_true, or_true, true_or, if_true, if_false, Option.some.injEq, true_implies, false_implies, not_true_eq_false, not_false_eq_true, hm_i34, hm_f34_0, hm_p34_0, hm_f34_1, hm_f34_2, hm_p34_2, hm_f34_3, hm_f34_4, hm_f34_5, hm_f34_6, hm_p34_6, hm_f34_7, hm_f34_8, hm_f34_9, hm_f34_10, hm_p34_10, hm_f34_11, hm_f34_12, hm_f34_13, hm_f34_14, hm_f34_15, hm_f34_16, hm_p34_16, hm_f34_17, hm_p34_17, hm_f34_18, hm_p34_18, hm_f34_19, hm_p34_19, hm_f34_20, hm_p34_20, hm_f34_21, hm_p34_21, hm_f34_22, hm_p34_22, hm_f34_23, hm_p34_23, hm_f34_24, hm_p34_24, hm_f34_25, hm_p34_25, hm_f34_26, hm_f34_27, hm_f34_28, hm_p34_28, hm_f34_29, hm_p34_29, hm_f34_30, hm_f34_31, hm_f34_32, hm_p34_32, hm_f34_33, hm_f34_34, hm_f34_35, hm_f34_36, hm_f34_37, hm_f34_38, hm_a35, hm_s35, hm_l35, hm_a36, hm_s36, hm_l36, hm_a37, hm_s37, hm_l37, hm_a38, hm_s38, hm_l38, hm_a39, hm_s39, hm_l39, hm_a40, hm_s40, hm_l40, hm_a41, hm_s41, hm_l41, hm_a42, hm_s42, hm_l42, hm_a43, hm_s43, hm_l43, hm_a44, hm_s44, hm_l44, hm_a45, hm_s45, hm_l45, hm_a46, hm_s46, hm_l46, hm_a47, hm_s47, hm_l47, hm_a48, hm_s48, hm_l48, hm_a49, hm_s49, hm_l49, hm_a50, hm_s50, hm_l50, hm_a51, hm_s51, hm_l51, hm_a52, hm_s52, hm_l52, hm_a53, hm_s53, hm_l53, hm_a54, hm_s54, hm_l54, hm_a55, hm_s55, hm_l55, hm_a56, hm_s56, hm_l56]
          simp (disch := omega) only [n_lit, n_litL, n_shr, n_shl, n_lt, n_le, n_eq, pk_mul, nI_add, n_cl, n_sub, Nat.reduceAdd, Nat.not_lt_zero, Nat.zero_le, true_implies, false_implies, not_true_eq_false, not_false_eq_true, true_and, and_true]
          have hpw : 2 ^ m ≤ 2 ^ 7 := Nat.pow_le_pow_right (by decide) (by omega)
          refine ⟨fun z => absurd z (by omega), fun _ => ?_⟩
          rw [n_ishl (by omega) (by omega), n_or, Nat.one_mul]
          refine ih (k + 1) _ _ (by omega) ?_ ?_
          · exact Nat.or_lt_two_pow (n := 8) hu (by omega)
          · rw [eyc] at hy
            have st := rm_step hy q
            rw [e2, List.append_assoc]
            exact hpm.trans (st.append_left _)
      have fwd : G 50 [some (.ref 34), some (.int (if l.take k = (mx_sp X p).take k then nI 0 else nI 1)), some (.int (nI u)), some (.int (nI k)), x4] [.int (if l.take (k + 1) = (mx_sp X p).take (k + 1) then nI 0 else nI 1)] (HM hd I A T) := by
        refine g50 _ _ _ ?_
        simp only [B_X9_isStirred_50, am_us, am_un, Nat.reduceEqDiff, not_false_eq_true, ak_c, ak_il, ak_ll, ak_al, ak_is, ak_as, ak_ls, ak_ii, ak_ib, ak_id, ak_lb, ak_lx, ak_lc, ak_iu, ak_i2l, ak_l2i, ak_dup, ak_dup2, ak_pop, ak_if, ak_ic, ak_sw, am_sws, ak_get, ak_puti, ak_putz, ak_putl, ak_puta, ak_iald, ak_lald, ak_iast, ak_last, ak_alen, ak_cs, ak_cv, ak_ri, ak_rz, ak_rl, ak_rv, am_ent, am_sp, am_pu, am_rs, Value.category, am_st1, am_st2, am_clr, List.getElem?_cons_zero, List.getElem?_cons_succ, List.set_cons_zero, List.set_cons_succ, List.length_cons, List.length_nil, Nat.reduceAdd, Nat.reduceLT, Nat.reduceLeDiff, Nat.zero_add, Nat.add_zero, true_and, and_true, or_true, true_or, if_true, if_false, Option.some.injEq, true_implies, false_implies, not_true_eq_false, not_false_eq_true, hm_i34, hm_f34_0, hm_p34_0, hm_f34_1, hm_f34_2, hm_p34_2, hm_f34_3, hm_f34_4, hm_f34_5, hm_f34_6, hm_p34_6, hm_f34_7, hm_f34_8, hm_f34_9, hm_f34_10, hm_p34_10, hm_f34_11, hm_f34_12, hm_f34_13, hm_f34_14, hm_f34_15, hm_f34_16, hm_p34_16, hm_f34_17, hm_p34_17, hm_f34_18, hm_p34_18, hm_f34_19, hm_p34_19, hm_f34_20, hm_p34_20, hm_f34_21, hm_p34_21, hm_f34_22, hm_p34_22, hm_f34_23, hm_p34_23, hm_f34_24, hm_p34_24, hm_f34_25, hm_p34_25, hm_f34_26, hm_f34_27, hm_f34_28, hm_p34_28, hm_f34_29, hm_p34_29, hm_f34_30, hm_f34_31, hm_f34_32, hm_p34_32, hm_f34_33, hm_f34_34, hm_f34_35, hm_f34_36, hm_f34_37, hm_f34_38, hm_a35, hm_s35, hm_l35, hm_a36, hm_s36, hm_l36, hm_a37, hm_s37, hm_l37, hm_a38, hm_s38, hm_l38, hm_a39, hm_s39, hm_l39, hm_a40, hm_s40, hm_l40, hm_a41, hm_s41, hm_l41, hm_a42, hm_s42, hm_l42, hm_a43, hm_s43, hm_l43, hm_a44, hm_s44, hm_l44, hm_a45, hm_s45, hm_l45, hm_a46, hm_s46, hm_l46, hm_a47, hm_s47, hm_l47, hm_a48, hm_s48, hm_l48, hm_a49, hm_s49, hm_l49, hm_a50, hm_s50, hm_l50, hm_a51, hm_s51, hm_l51, hm_a52, hm_s52, hm_l52, hm_a53, hm_s53, hm_l53, hm_a54, hm_s54, hm_l54, hm_a55, hm_s55, hm_l55, hm_a56, hm_s56, hm_l56]
        exact inner (pt_sz p) 0 (by omega) (fun i hi => absurd hi (by omega))
      have one : ¬ l.take (k + 1) = (mx_sp X p).take (k + 1) → G 45 [some (.ref 34), some (.int (if l.take k = (mx_sp X p).take k then nI 0 else nI 1)), some (.int (nI u)), some (.int (nI k)), x4] [] (HM hd I A T) := by
        intro hz
        refine g45 _ _ _ ?_
        simp only [B_X9_isStirred_45, am_us, am_un, Nat.reduceEqDiff, not_false_eq_true, ak_c, ak_il, ak_ll, ak_al, ak_is, ak_as, ak_ls, ak_ii, ak_ib, ak_id, ak_lb, ak_lx, ak_lc, ak_iu, ak_i2l, ak_l2i, ak_dup, ak_dup2, ak_pop, ak_if, ak_ic, ak_sw, am_sws, ak_get, ak_puti, ak_putz, ak_putl, ak_puta, ak_iald, ak_lald, ak_iast, ak_last, ak_alen, ak_cs, ak_cv, ak_ri, ak_rz, ak_rl, ak_rv, am_ent, am_sp, am_pu, am_rs, Value.category, am_st1, am_st2, am_clr, List.getElem?_cons_zero, List.getElem?_cons_succ, List.set_cons_zero, List.set_cons_succ, List.length_cons, List.length_nil, Nat.reduceAdd, Nat.reduceLT, Nat.reduceLeDiff, Nat.zero_add, Nat.add_zero, true_and, and_true, or_true, true_or, if_true, if_false, Option.some.injEq, true_implies, false_implies, not_true_eq_false, not_false_eq_true, hm_i34, hm_f34_0, hm_p34_0, hm_f34_1, hm_f34_2, hm_p34_2, hm_f34_3, hm_f34_4, hm_f34_5, hm_f34_6, hm_p34_6, hm_f34_7, hm_f34_8, hm_f34_9, hm_f34_10, hm_p34_10, hm_f34_11, hm_f34_12, hm_f34_13, hm_f34_14, hm_f34_15, hm_f34_16, hm_p34_16, hm_f34_17, hm_p34_17, hm_f34_18, hm_p34_18, hm_f34_19, hm_p34_19, hm_f34_20, hm_p34_20, hm_f34_21, hm_p34_21, hm_f34_22, hm_p34_22, hm_f34_23, hm_p34_23, hm_f34_24, hm_p34_24, hm_f34_25, hm_p34_25, hm_f34_26, hm_f34_27, hm_f34_28, hm_p34_28, hm_f34_29, hm_p34_29, hm_f34_30, hm_f34_31, hm_f34_32, hm_p34_32, hm_f34_33, hm_f34_34, hm_f34_35, hm_f34_36, hm_f34_37, hm_f34_38, hm_a35, hm_s35, hm_l35, hm_a36, hm_s36, hm_l36, hm_a37, hm_s37, hm_l37, hm_a38, hm_s38, hm_l38, hm_a39, hm_s39, hm_l39, hm_a40, hm_s40, hm_l40, hm_a41, hm_s41, hm_l41, hm_a42, hm_s42, hm_l42, hm_a43, hm_s43, hm_l43, hm_a44, hm_s44, hm_l44, hm_a45, hm_s45, hm_l45, hm_a46, hm_s46, hm_l46, hm_a47, hm_s47, hm_l47, hm_a48, hm_s48, hm_l48, hm_a49, hm_s49, hm_l49, hm_a50, hm_s50, hm_l50, hm_a51, hm_s51, hm_l51, hm_a52, hm_s52, hm_l52, hm_a53, hm_s53, hm_l53, hm_a54, hm_s54, hm_l54, hm_a55, hm_s55, hm_l55, hm_a56, hm_s56, hm_l56]
        rw [if_neg hz] at fwd
        exact fwd
      refine g19 _ _ _ ?_
      simp only [B_X9_isStirred_19, i13, am_us, am_un, Nat.reduceEqDiff, not_false_eq_true, ak_c, ak_il, ak_ll, ak_al, ak_is, ak_as, ak_ls, ak_ii, ak_ib, ak_id, ak_lb, ak_lx, ak_lc, ak_iu, ak_i2l, ak_l2i, ak_dup, ak_dup2, ak_pop, ak_if, ak_ic, ak_sw, am_sws, ak_get, ak_puti, ak_putz, ak_putl, ak_puta, ak_iald, ak_lald, ak_iast, ak_last, ak_alen, ak_cs, ak_cv, ak_ri, ak_rz, ak_rl, ak_rv, am_ent, am_sp, am_pu, am_rs, Value.category, am_st1, am_st2, am_clr, List.getElem?_cons_zero, List.getElem?_cons_succ, List.set_cons_zero, List.set_cons_succ, List.length_cons, List.length_nil, Nat.reduceAdd, Nat.reduceLT, Nat.reduceLeDiff, Nat.zero_add, Nat.add_zero, true_and, and_true, or_true, true_or, if_true, if_false, Option.some.injEq, true_implies, false_implies, not_true_eq_false, not_false_eq_true, hm_i34, hm_f34_0, hm_p34_0, hm_f34_1, hm_f34_2, hm_p34_2, hm_f34_3, hm_f34_4, hm_f34_5, hm_f34_6, hm_p34_6, hm_f34_7, hm_f34_8, hm_f34_9, hm_f34_10, hm_p34_10, hm_f34_11, hm_f34_12, hm_f34_13, hm_f34_14, hm_f34_15, hm_f34_16, hm_p34_16, hm_f34_17, hm_p34_17, hm_f34_18, hm_p34_18, hm_f34_19, hm_p34_19, hm_f34_20, hm_p34_20, hm_f34_21, hm_p34_21, hm_f34_22, hm_p34_22, hm_f34_23, hm_p34_23, hm_f34_24, hm_p34_24, hm_f34_25, hm_p34_25, hm_f34_26, hm_f34_27, hm_f34_28, hm_p34_28, hm_f34_29, hm_p34_29, hm_f34_30, hm_f34_31, hm_f34_32, hm_p34_32, hm_f34_33, hm_f34_34, hm_f34_35, hm_f34_36, hm_f34_37, hm_f34_38, hm_a35, hm_s35, hm_l35, hm_a36, hm_s36, hm_l36, hm_a37, hm_s37, hm_l37, hm_a38, hm_s38, hm_l38, hm_a39, hm_s39, hm_l39, hm_a40, hm_s40, hm_l40, hm_a41, hm_s41, hm_l41, hm_a42, hm_s42, hm_l42, hm_a43, hm_s43, hm_l43, hm_a44, hm_s44, hm_l44, hm_a45, hm_s45, hm_l45, hm_a46, hm_s46, hm_l46, hm_a47, hm_s47, hm_l47, hm_a48, hm_s48, hm_l48, hm_a49, hm_s49, hm_l49, hm_a50, hm_s50, hm_l50, hm_a51, hm_s51, hm_l51, hm_a52, hm_s52, hm_l52, hm_a53, hm_s53, hm_l53, hm_a54, hm_s54, hm_l54, hm_a55, hm_s55, hm_l55, hm_a56, hm_s56, hm_l56]
      simp (disch := omega) only [hj.2 k x hx, n_lit, n_litL, n_shr, n_shl, n_lt, n_le, n_eq, pk_mul, nI_add, n_cl, n_sub, Nat.reduceAdd, Nat.not_lt_zero, Nat.zero_le, true_implies, false_implies, not_true_eq_false, not_false_eq_true, true_and, and_true]
      refine ⟨fun q => absurd q (by omega), fun _ => ⟨fun q => ⟨vp_in_nI (by omega) (by omega), lt k c _ hc ?_⟩, fun q => one (fun z => q ?_)⟩⟩
      · simp only [am_us, am_un, Nat.reduceEqDiff, not_false_eq_true, ak_c, ak_il, ak_ll, ak_al, ak_is, ak_as, ak_ls, ak_ii, ak_ib, ak_id, ak_lb, ak_lx, ak_lc, ak_iu, ak_i2l, ak_l2i, ak_dup, ak_dup2, ak_pop, ak_if, ak_ic, ak_sw, am_sws, ak_get, ak_puti, ak_putz, ak_putl, ak_puta, ak_iald, ak_lald, ak_iast, ak_last, ak_alen, ak_cs, ak_cv, ak_ri, ak_rz, ak_rl, ak_rv, am_ent, am_sp, am_pu, am_rs, Value.category, am_st1, am_st2, am_clr, List.getElem?_cons_zero, List.getElem?_cons_succ, List.set_cons_zero, List.set_cons_succ, List.length_cons, List.length_nil, Nat.reduceAdd, Nat.reduceLT, Nat.reduceLeDiff, Nat.zero_add, Nat.add_zero, true_and, and_true, or_true, true_or, if_true, if_false, Option.some.injEq, true_implies, false_implies, not_true_eq_false, not_false_eq_true, hm_i34, hm_f34_0, hm_p34_0, hm_f34_1, hm_f34_2, hm_p34_2, hm_f34_3, hm_f34_4, hm_f34_5, hm_f34_6, hm_p34_6, hm_f34_7, hm_f34_8, hm_f34_9, hm_f34_10, hm_p34_10, hm_f34_11, hm_f34_12, hm_f34_13, hm_f34_14, hm_f34_15, hm_f34_16, hm_p34_16, hm_f34_17, hm_p34_17, hm_f34_18, hm_p34_18, hm_f34_19, hm_p34_19, hm_f34_20, hm_p34_20, hm_f34_21, hm_p34_21, hm_f34_22, hm_p34_22, hm_f34_23, hm_p34_23, hm_f34_24, hm_p34_24, hm_f34_25, hm_p34_25, hm_f34_26, hm_f34_27, hm_f34_28, hm_p34_28, hm_f34_29, hm_p34_29, hm_f34_30, hm_f34_31, hm_f34_32, hm_p34_32, hm_f34_33, hm_f34_34, hm_f34_35, hm_f34_36, hm_f34_37, hm_f34_38, hm_a35, hm_s35, hm_l35, hm_a36, hm_s36, hm_l36, hm_a37, hm_s37, hm_l37, hm_a38, hm_s38, hm_l38, hm_a39, hm_s39, hm_l39, hm_a40, hm_s40, hm_l40, hm_a41, hm_s41, hm_l41, hm_a42, hm_s42, hm_l42, hm_a43, hm_s43, hm_l43, hm_a44, hm_s44, hm_l44, hm_a45, hm_s45, hm_l45, hm_a46, hm_s46, hm_l46, hm_a47, hm_s47, hm_l47, hm_a48, hm_s48, hm_l48, hm_a49, hm_s49, hm_l49, hm_a50, hm_s50, hm_l50, hm_a51, hm_s51, hm_l51, hm_a52, hm_s52, hm_l52, hm_a53, hm_s53, hm_l53, hm_a54, hm_s54, hm_l54, hm_a55, hm_s55, hm_l55, hm_a56, hm_s56, hm_l56]
        rw [n_eq (by omega) (by omega)]
        have et : l.take k = (mx_sp X p).take k := by
          by_cases z : l.take k = (mx_sp X p).take k
          · exact z
          · rw [if_neg z] at q
            exact absurd q (by decide)
        refine ⟨fun q2 => ?_, fun q2 => one (fun z => q2 (by rw [(e3.mp z).2]))⟩
        rw [if_pos (e3.mpr ⟨et, by omega⟩)] at fwd
        exact fwd
      · rw [if_pos (e3.mp z).1]
  have e0 : l.Perm ((mx_sp X p).take 0 ++ rm_l l 0) := by
    rw [rm_0, List.take_zero, List.nil_append]
  have := loop (pt_sz p) 0 0 none (by omega) (by omega) e0
  rw [if_pos (by rw [List.take_zero, List.take_zero])] at this
  exact this
end RF11
