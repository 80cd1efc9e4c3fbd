/-! the reference: ways of one word; letters in another order -/
def ac_z (q : AC) : Prop := q.1 = 0 ↔ q.2.2.1 = 0
theorem ac_z_if {c : Prop} [Decidable c] {l : List AC} (h : ∀ q ∈ l, ac_z q) : ∀ q ∈ (if c then l else []), ac_z q := by
  split
  · exact h
  · intro q hq; cases hq
theorem ac_z_app {l r : List AC} (h : ∀ q ∈ l, ac_z q) (g : ∀ q ∈ r, ac_z q) : ∀ q ∈ l ++ r, ac_z q := fun q hq => (List.mem_append.mp hq).elim (h q) (g q)
theorem ac_z_1 {q : AC} (h : ac_z q) : ∀ x ∈ [q], ac_z x := fun x hx => by rw [List.mem_singleton.mp hx]; exact h
theorem ac_z_flat {α : Type} {l : List α} {f : α → List AC} (h : ∀ x ∈ l, ∀ q ∈ f x, ac_z q) : ∀ q ∈ l.flatMap f, ac_z q := fun q hq => by
  obtain ⟨x, hx, hq⟩ := List.mem_flatMap.mp hq
  exact h x hx q hq
theorem ac_z_map {α : Type} {l : List α} {f : α → AC} (h : ∀ x ∈ l, ac_z (f x)) : ∀ q ∈ l.map f, ac_z q := fun q hq => by
  obtain ⟨x, hx, rfl⟩ := List.mem_map.mp hq
  exact h x hx
theorem ac_z_mul {a b : AC} (ha : ac_z a) (hb : ac_z b) (c x : Nat) : ac_z (a.1 * b.1, c, a.2.2.1 * b.2.2.1, x) := by
  show a.1 * b.1 = 0 ↔ a.2.2.1 * b.2.2.1 = 0
  unfold ac_z at ha hb
  rw [Nat.mul_eq_zero, Nat.mul_eq_zero, ha, hb]
theorem mu_us_z (X : MX) {P : Nat → Nat → Nat → AC} {i j : Nat} (hij : i < j) (hP : ∀ a b q, a < b → b - a < j - i → ac_z (P a b q)) (p : Nat) : ∀ q ∈ mu_us X P i j p, ac_z q := by
  have one : ∀ (c x : Nat), ac_z (1, c, 1, x) := fun c x => Iff.rfl
  unfold mu_us
  split
  · exact ac_z_app (ac_z_if (ac_z_1 (one _ _))) (ac_z_if (ac_z_1 (one _ _)))
  · have hC : ∀ s, ∀ q ∈ mu_C X P s i j p, ac_z q := fun s => ac_z_flat (fun k hk => ac_z_if (ac_z_flat (fun f _ => ac_z_map (fun t _ => by
      have hk := List.mem_range.mp hk
      exact ac_z_mul (hP _ _ _ (by omega) (by omega)) (hP _ _ _ (by omega) (by omega)) _ _))))
    have hT : ∀ s, ∀ q ∈ mu_T X s i j p, ac_z q := fun s => ac_z_if (ac_z_app (ac_z_if (ac_z_1 (one _ _))) (ac_z_flat (fun e _ => by
      unfold mu_Te
      split
      · exact ac_z_if (ac_z_1 (one _ _))
      · intro q hq; cases hq)))
    refine ac_z_app (ac_z_if (ac_z_app (ac_z_if (ac_z_1 (hP (i + 1) j (p ^^^ 256) (by omega) (by omega)))) (ac_z_if (ac_z_1 (hP i (j - 1) (p ^^^ 256) (by omega) (by omega)))))) (ac_z_app (ac_z_app (ac_z_if (ac_z_1 (one _ _))) (ac_z_if (ac_z_1 (one _ _)))) (ac_z_app (hC 4) (ac_z_app (hC 5) (ac_z_app (ac_z_if (ac_z_1 Iff.rfl)) (ac_z_app (hT 7) (ac_z_app (hT 8) (ac_z_if (ac_z_1 (one _ _)))))))))
theorem mu_us_q {X : MX} (hw : ∀ s, s < 11 → X.2.2.2.1 s ≤ 9) {P : Nat → Nat → Nat → AC} {i j : Nat} (hij : i < j) (h6 : j - i ≤ 6) (hP : ∀ a b q, a < b → b - a < j - i → ac_q (P a b q)) (hc : ∀ a b r, a < b → b - a < j - i → ¬ (P a b r).1 = 0 → (P a b r).2.1 ≤ 18 * (b - a)) (p : Nat) : ∀ q ∈ mu_us X P i j p, ac_q q := fun q hq => ⟨mu_us_z X hij (fun a b r h1 h2 => (hP a b r h1 h2).1) p q hq, fun q0 => by
  have := uc_cost hc hij (mu_us_ch hw hij hq q0)
  omega⟩
theorem mx_PP_k {X : MX} (hw : ∀ s, s < 11 → X.2.2.2.1 s ≤ 9) : ∀ d i j p, i < j → j - i ≤ 6 → ac_k (mx_PP X d i j p)
  | 0, i, j, p, _, _ => ac_k0
  | d + 1, i, j, p, h1, h2 => by
    have hc : ∀ a b r, a < b → b - a ≤ 6 → ¬ (mx_PP X d a b r).1 = 0 → (mx_PP X d a b r).2.1 ≤ 18 * (b - a) := by
      cases d with
      | zero => intro a b r _ _ h; exact absurd rfl h
      | succ d => exact fun a b r ha hb hr => (mx_PP_pick hw d a b r ha hb hr).2
    have hU : ∀ b r, i < b → b ≤ j → ac_k (mx_U X (mx_PP X d) i b r) := fun b r hb1 hb2 => ac_k_fold ac_k0 (mu_us_q hw hb1 (by omega) (fun a c q ha hc => (mx_PP_k hw d a c q ha (by omega)).1) (fun a c q ha hcc => hc a c q ha (by omega)) r)
    refine ac_k_fold ac_k0 (fun q hq => ⟨?_, fun q0 => ?_⟩)
    · revert q
      exact ac_z_app (ac_z_flat (fun e he => ac_z_map (fun t _ => by
        have he := List.mem_range.mp he
        exact ac_z_mul (hU _ _ (by omega) (by omega)).1.1 (mx_PP_k hw d _ _ _ (by omega) (by omega)).1.1 _ _))) (ac_z_1 (hU j p h1 (Nat.le_refl j)).1.1)
    · have hUc : ∀ b r, i < b → b ≤ j → ¬ (mx_U X (mx_PP X d) i b r).1 = 0 → (mx_U X (mx_PP X d) i b r).2.1 ≤ 18 * (b - i) := fun b r hb1 hb2 hr => (mx_U_pick hw hb1 (by omega) (fun a c x ha hc2 hx => hc a c x ha (by omega) hx) hr).2
      rcases mu_ps_ch hq q0 with ⟨a1, a2, -⟩ | ⟨e, t, a1, a2, -, -, a3, a4, a5, -⟩
      · have := hUc j p h1 (Nat.le_refl j) a1
        omega
      · have b1 := hUc e _ a1 (by omega) a3
        have b2 := hc e j _ a2 (by omega) a4
        omega
theorem MP_k {X : MX} (hw : ∀ s, s < 11 → X.2.2.2.1 s ≤ 9) {i j : Nat} (h1 : i < j) (h2 : j - i ≤ 6) (p : Nat) : ac_k (MP X i j p) := mx_PP_k hw 7 i j p h1 h2
theorem mu_us_q0 {X : MX} (hw : ∀ s, s < 11 → X.2.2.2.1 s ≤ 9) {i j : Nat} (h1 : i < j) (h2 : j - i ≤ 6) (p : Nat) : ∀ q ∈ mu_us X (MP X) i j p, ac_q q := mu_us_q hw h1 h2 (fun a b q ha hb => (MP_k hw ha (by omega) q).1) (fun a b r ha hb hr => MP_cost hw ha (by omega) hr) p
theorem MU_k {X : MX} (hw : ∀ s, s < 11 → X.2.2.2.1 s ≤ 9) {i j : Nat} (h1 : i < j) (h2 : j - i ≤ 6) (p : Nat) : ac_k (MU X i j p) := ac_k_fold ac_k0 (mu_us_q0 hw h1 h2 p)
/-- what the reference tells of a unit's first least way -/
def pkU (X : MX) (i p : Nat) : PKT := fun c s t u v => s = nI (c / 8192) ∧ (c / 8192 = 0 → ∃ e, t = nI e ∧ X.1[e]? = some (X.2.1.getD i [], mx_sp X p, 0)) ∧ (c / 8192 = 2 ∨ c / 8192 = 3 → t = nI (c % 2)) ∧ (c / 8192 = 4 ∨ c / 8192 = 5 → ∃ k f n, t = nI k ∧ u = nI f ∧ v = nI n ∧ f + n ≤ pt_sz p ∧ c % 8192 = k * 512 + pt_s p f (f + n)) ∧ (c / 8192 = 7 ∨ c / 8192 = 8 → (c % 8192 = 0 ∧ t = -1) ∨ ∃ e, e < 24 ∧ c % 8192 = e + 1 ∧ t = nI e)
theorem fm_one {α : Type} {f : Nat → List α} {e0 : Nat} : ∀ n, (∀ e, e < n → ¬ e = e0 → f e = []) → (List.range n).flatMap f = if e0 < n then f e0 else []
  | 0, _ => rfl
  | n + 1, h => by
    rw [List.range_succ, List.flatMap_append, fm_one n (fun e he => h e (by omega))]
    by_cases h1 : e0 < n
    · rw [if_pos h1, if_pos (by omega)]
      have := h n (by omega) (by omega)
      simp [this]
    · rw [if_neg h1]
      by_cases h2 : e0 = n
      · subst h2
        simp
      · rw [if_neg (by omega)]
        have := h n (by omega) (by omega)
        simp [this]
def sy_e (X : MX) (w sp : List Nat) (q : AC) (e : Nat) : List AC := match X.1[e]? with
  | some x => if x.2.2 = 0 ∧ (¬ X.2.2.2.2 = some e ∧ x.1 = w) ∧ x.2.1 = sp then [q] else []
  | none => []
theorem sy_all {X : MX} (hn : X.1.Nodup) (w sp : List Nat) (q : AC) : (List.range X.1.length).flatMap (sy_e X w sp q) = if mx_sy X w sp then [q] else [] := by
  unfold mx_sy
  cases hi : X.1.idxOf? (w, sp, 0) with
  | none =>
    have hm : ¬ (w, sp, 0) ∈ X.1 := List.idxOf?_eq_none_iff.mp hi
    rw [fm_one (e0 := X.1.length) _ (fun e he _ => ?_), if_neg (by omega)]
    · rfl
    · unfold sy_e
      rw [List.getElem?_eq_getElem he]
      simp only
      rw [if_neg]
      rintro ⟨h1, ⟨-, h2⟩, h3⟩
      refine hm ?_
      have : X.1[e] = (w, sp, 0) := by rw [← h1, ← h2, ← h3]
      rw [← this]
      exact List.getElem_mem _
  | some e0 =>
    have h0 : X.1[e0]? = some (w, sp, 0) := by
      have := List.findIdx?_eq_some_iff_getElem.mp hi
      obtain ⟨h1, h2, -⟩ := this
      rw [List.getElem?_eq_getElem h1]
      simpa using h2
    have hl := (List.getElem?_eq_some_iff.mp h0).1
    rw [fm_one (e0 := e0) _ (fun e he hne => ?_), if_pos hl]
    · unfold sy_e
      rw [h0]
      simp
    · unfold sy_e
      rw [List.getElem?_eq_getElem he]
      simp only
      rw [if_neg]
      rintro ⟨h1, ⟨-, h2⟩, h3⟩
      have : X.1[e] = (w, sp, 0) := by rw [← h1, ← h2, ← h3]
      rw [List.getElem?_eq_getElem hl] at h0
      have e2 : X.1[e] = X.1[e0] := by rw [this]; exact (Option.some.inj h0).symm
      exact hne ((List.getElem_inj hn).mp e2)
/-- letters that are not used yet -/
def rm_l (l : List Nat) (u : Nat) : List Nat := ((List.range l.length).filter (fun i => !u.testBit i)).map (fun i => l.getD i 0)
theorem rm_0 (l : List Nat) : rm_l l 0 = l := by
  unfold rm_l
  have : (List.range l.length).filter (fun i => !(0 : Nat).testBit i) = List.range l.length := List.filter_eq_self.mpr (fun i _ => by simp)
  rw [this]
  apply List.ext_getElem?
  intro k
  rw [List.getElem?_map]
  by_cases hk : k < l.length
  · rw [List.getElem?_range hk, List.getElem?_eq_getElem hk]
    simp [List.getD_eq_getElem?_getD, List.getElem?_eq_getElem hk]
  · rw [List.getElem?_eq_none (by simpa using hk), List.getElem?_eq_none (by omega)]
    rfl
theorem rm_step {l : List Nat} {u i c : Nat} (hi : l[i]? = some c) (hu : u.testBit i = false) : (rm_l l u).Perm (c :: rm_l l (u ||| 2 ^ i)) := by
  have hl := (List.getElem?_eq_some_iff.mp hi).1
  have hc : l.getD i 0 = c := by rw [List.getD_eq_getElem?_getD, hi]; rfl
  have hm : i ∈ (List.range l.length).filter (fun i => !u.testBit i) := List.mem_filter.mpr ⟨List.mem_range.mpr hl, by simp [hu]⟩
  have hn : ((List.range l.length).filter (fun i => !u.testBit i)).Nodup := List.Nodup.sublist List.filter_sublist List.nodup_range
  have e : (List.range l.length).filter (fun k => !(u ||| 2 ^ i).testBit k) = ((List.range l.length).filter (fun i => !u.testBit i)).erase i := by
    rw [hn.erase_eq_filter, List.filter_filter]
    refine List.filter_congr fun k _ => ?_
    rw [Nat.testBit_or, Nat.testBit_two_pow]
    by_cases hk : i = k
    · subst hk
      simp
    · have : ¬ k = i := fun z => hk z.symm
      simp [hk, this]
  unfold rm_l
  rw [e]
  have := (List.perm_cons_erase hm).map (fun i => l.getD i 0)
  rw [List.map_cons, hc] at this
  exact this
theorem rm_mem {l : List Nat} {u c : Nat} (h : c ∈ rm_l l u) : ∃ i, l[i]? = some c ∧ u.testBit i = false := by
  obtain ⟨i, hi, rfl⟩ := List.mem_map.mp h
  obtain ⟨h1, h2⟩ := List.mem_filter.mp hi
  refine ⟨i, ?_, by simpa using h2⟩
  rw [List.getElem?_eq_getElem (List.mem_range.mp h1), List.getD_eq_getElem?_getD, List.getElem?_eq_getElem (List.mem_range.mp h1)]
  rfl
section RF10
variable {hd : Nat → am_C} {I I0 : Nat → Int32} {A A0 : Nat → Nat → Int32} {T : Nat → Int64} {Q : am_Q} {h : am_H} {X : MX} {b : Bool} {pk : PKT} {a q : AC} {p i : Nat}
theorem p_S_one (hS : SU I0 A0 b X p pk a I A) {cs ch : Nat} {c s t u v : Int32} (h255 : cs < 255) (hc : c = nI cs) (hp : pk ch s t u v) (hQ : ∀ I' : Nat → Int32, (∀ k, k < 7 ∨ 12 < k → I' k = I k) → SU I0 A0 b X p pk (ac_ad a (1, cs, 1, ch)) I' A → Q none (HM hd I' A T)) : K_X9_meets [.ref 34, .long 1, .int c, .int s, .int t, .int u, .int v] (HM hd I A T) Q :=
  p_S_meets (q := (1, cs, 1, ch)) (W := 1) hS ⟨Iff.rfl, fun _ => h255⟩ (by unfold vw; cases b <;> rfl) (by decide) (fun _ => hc) (fun _ => hp) hQ
theorem SU.wt (hS : SU I0 A0 b X p pk a I A) {s : Nat} (hs : s < 11) : A 10 s = nI (X.2.2.2.1 s) ∧ X.2.2.2.1 s ≤ 9 := hS.1.2.2.2.2.1 s hs
theorem p_X9_oneWord (hS : SU I0 A0 b X p (pkU X i p) a I A) (hi : i < X.2.1.length) (hQ : ∀ (I' : Nat → Int32) (A' : Nat → Nat → Int32), SU I0 A0 b X p (pkU X i p) ((mu_1 X i p).foldl ac_ad a) I' A' → Q none (HM hd I' A' T)) : K_X9_oneWord [.ref 34, .int (nI i)] (HM hd I A T) Q := by
  refine ⟨Nat.le_of_ble_eq_true rfl, fun G hG => ?_⟩
  obtain ⟨g0, g2, g68, g114⟩ := hG
  have hy : X.2.1[i]? = some X.2.1[i] := List.getElem?_eq_getElem hi
  have hyd : X.2.1.getD i [] = X.2.1[i] := by rw [List.getD_eq_getElem?_getD, hy]; rfl
  generalize X.2.1[i] = y at hy hyd
  have h6 := hS.1.2.1.1.2.1
  have h24 := hS.1.1.1.1
  refine g0 _ _ _ ?_
  simp only [B_X9_oneWord_0, am_us, am_un, Nat.reduceEqDiff, not_false_eq_true, ak_c, ak_il, ak_ll, ak_al, ak_is, ak_as, ak_ls, ak_ii, ak_ib, ak_id, ak_lb, ak_lx, ak_lc, ak_iu, ak_i2l, ak_l2i, ak_dup, ak_dup2, ak_pop, ak_if, ak_ic, ak_sw, am_sws, ak_get, ak_puti, ak_putz, ak_putl, ak_puta, ak_iald, ak_lald, ak_iast, ak_last, ak_alen, ak_cs, ak_cv, ak_ri, ak_rz, ak_rl, ak_rv, am_ent, am_sp, am_pu, am_rs, Value.category, am_st1, am_st2, am_clr, List.getElem?_cons_zero, List.getElem?_cons_succ, List.set_cons_zero, List.set_cons_succ, List.length_cons, List.length_nil, Nat.reduceAdd, Nat.reduceLT, Nat.reduceLeDiff, Nat.zero_add, Nat.add_zero, true_and, and_true, or_true, true_or, if_true, if_false, Option.some.injEq, true_implies, false_implies, not_true_eq_false, not_false_eq_true, hm_i34, hm_f34_0, hm_p34_0, hm_f34_1, hm_f34_2, hm_p34_2, hm_f34_3, hm_f34_4, hm_f34_5, hm_f34_6, hm_p34_6, hm_f34_7, hm_f34_8, hm_f34_9, hm_f34_10, hm_p34_10, hm_f34_11, hm_f34_12, hm_f34_13, hm_f34_14, hm_f34_15, hm_f34_16, hm_p34_16, hm_f34_17, hm_p34_17, hm_f34_18, hm_p34_18, hm_f34_19, hm_p34_19, hm_f34_20, hm_p34_20, hm_f34_21, hm_p34_21, hm_f34_22, hm_p34_22, hm_f34_23, hm_p34_23, hm_f34_24, hm_p34_24, hm_f34_25, hm_p34_25, hm_f34_26, hm_f34_27, hm_f34_28, hm_p34_28, hm_f34_29, hm_p34_29, hm_f34_30, hm_f34_31, hm_f34_32, hm_p34_32, hm_f34_33, hm_f34_34, hm_f34_35, hm_f34_36, hm_f34_37, hm_f34_38, hm_a35, hm_s35, hm_l35, hm_a36, hm_s36, hm_l36, hm_a37, hm_s37, hm_l37, hm_a38, hm_s38, hm_l38, hm_a39, hm_s39, hm_l39, hm_a40, hm_s40, hm_l40, hm_a41, hm_s41, hm_l41, hm_a42, hm_s42, hm_l42, hm_a43, hm_s43, hm_l43, hm_a44, hm_s44, hm_l44, hm_a45, hm_s45, hm_l45, hm_a46, hm_s46, hm_l46, hm_a47, hm_s47, hm_l47, hm_a48, hm_s48, hm_l48, hm_a49, hm_s49, hm_l49, hm_a50, hm_s50, hm_l50, hm_a51, hm_s51, hm_l51, hm_a52, hm_s52, hm_l52, hm_a53, hm_s53, hm_l53, hm_a54, hm_s54, hm_l54, hm_a55, hm_s55, hm_l55, hm_a56, hm_s56, hm_l56]
  have loop : ∀ r k (I : Nat → Int32), k + r = X.1.length → SU I0 A0 b X p (pkU X i p) (((List.range k).flatMap (sy_e X y (mx_sp X p) (1, X.2.2.2.1 0, 1, 0))).foldl ac_ad a) I A → G 2 [some (.ref 34), some (.int (nI i)), some (.int (nI k))] [] (HM hd I A T) := by
    intro r
    induction r with
    | zero =>
      intro k I hk hS
      have hB := hS.1.1
      have hC := hS.1.2.1
      have hyW := hC.1.2.2 y (List.mem_of_getElem? hy)
      have hrow := hC.2.2 i y hy
      refine g2 _ _ _ ?_
      simp only [B_X9_oneWord_2, hB.2.1, am_us, am_un, Nat.reduceEqDiff, not_false_eq_true, ak_c, ak_il, ak_ll, ak_al, ak_is, ak_as, ak_ls, ak_ii, ak_ib, ak_id, ak_lb, ak_lx, ak_lc, ak_iu, ak_i2l, ak_l2i, ak_dup, ak_dup2, ak_pop, ak_if, ak_ic, ak_sw, am_sws, ak_get, ak_puti, ak_putz, ak_putl, ak_puta, ak_iald, ak_lald, ak_iast, ak_last, ak_alen, ak_cs, ak_cv, ak_ri, ak_rz, ak_rl, ak_rv, am_ent, am_sp, am_pu, am_rs, Value.category, am_st1, am_st2, am_clr, List.getElem?_cons_zero, List.getElem?_cons_succ, List.set_cons_zero, List.set_cons_succ, List.length_cons, List.length_nil, Nat.reduceAdd, Nat.reduceLT, Nat.reduceLeDiff, Nat.zero_add, Nat.add_zero, true_and, and_true, or_true, true_or, if_true, if_false, Option.some.injEq, true_implies, false_implies, not_true_eq_false, not_false_eq_true, hm_i34, hm_f34_0, hm_p34_0, hm_f34_1, hm_f34_2, hm_p34_2, hm_f34_3, hm_f34_4, hm_f34_5, hm_f34_6, hm_p34_6, hm_f34_7, hm_f34_8, hm_f34_9, hm_f34_10, hm_p34_10, hm_f34_11, hm_f34_12, hm_f34_13, hm_f34_14, hm_f34_15, hm_f34_16, hm_p34_16, hm_f34_17, hm_p34_17, hm_f34_18, hm_p34_18, hm_f34_19, hm_p34_19, hm_f34_20, hm_p34_20, hm_f34_21, hm_p34_21, hm_f34_22, hm_p34_22, hm_f34_23, hm_p34_23, hm_f34_24, hm_p34_24, hm_f34_25, hm_p34_25, hm_f34_26, hm_f34_27, hm_f34_28, hm_p34_28, hm_f34_29, hm_p34_29, hm_f34_30, hm_f34_31, hm_f34_32, hm_p34_32, hm_f34_33, hm_f34_34, hm_f34_35, hm_f34_36, hm_f34_37, hm_f34_38, hm_a35, hm_s35, hm_l35, hm_a36, hm_s36, hm_l36, hm_a37, hm_s37, hm_l37, hm_a38, hm_s38, hm_l38, hm_a39, hm_s39, hm_l39, hm_a40, hm_s40, hm_l40, hm_a41, hm_s41, hm_l41, hm_a42, hm_s42, hm_l42, hm_a43, hm_s43, hm_l43, hm_a44, hm_s44, hm_l44, hm_a45, hm_s45, hm_l45, hm_a46, hm_s46, hm_l46, hm_a47, hm_s47, hm_l47, hm_a48, hm_s48, hm_l48, hm_a49, hm_s49, hm_l49, hm_a50, hm_s50, hm_l50, hm_a51, hm_s51, hm_l51, hm_a52, hm_s52, hm_l52, hm_a53, hm_s53, hm_l53, hm_a54, hm_s54, hm_l54, hm_a55, hm_s55, hm_l55, hm_a56, hm_s56, hm_l56]
      rw [show k = X.1.length by omega, sy_all hB.1.2.2] at hS
      simp (disch := omega) only [hrow.1, n_lit, n_litL, n_shr, n_shl, n_lt, n_le, n_eq, pk_mul, nI_add, n_cl, n_sub, Nat.reduceAdd, Nat.not_lt_zero, Nat.zero_le, true_implies, false_implies, not_true_eq_false, not_false_eq_true, true_and, and_true]
      refine ⟨fun _ => ⟨vp_in_nI (by omega) (by omega), p_X9_spells_c hS hrow hyW.1 (by omega) (by omega) (by omega) ?_⟩, fun q => absurd (by omega) q⟩
      simp only [am_us, am_un, Nat.reduceEqDiff, not_false_eq_true, ak_c, ak_il, ak_ll, ak_al, ak_is, ak_as, ak_ls, ak_ii, ak_ib, ak_id, ak_lb, ak_lx, ak_lc, ak_iu, ak_i2l, ak_l2i, ak_dup, ak_dup2, ak_pop, ak_if, ak_ic, ak_sw, am_sws, ak_get, ak_puti, ak_putz, ak_putl, ak_puta, ak_iald, ak_lald, ak_iast, ak_last, ak_alen, ak_cs, ak_cv, ak_ri, ak_rz, ak_rl, ak_rv, am_ent, am_sp, am_pu, am_rs, Value.category, am_st1, am_st2, am_clr, List.getElem?_cons_zero, List.getElem?_cons_succ, List.set_cons_zero, List.set_cons_succ, List.length_cons, List.length_nil, Nat.reduceAdd, Nat.reduceLT, Nat.reduceLeDiff, Nat.zero_add, Nat.add_zero, true_and, and_true, or_true, true_or, if_true, if_false, Option.some.injEq, true_implies, false_implies, not_true_eq_false, not_false_eq_true, hm_i34, hm_f34_0, hm_p34_0, hm_f34_1, hm_f34_2, hm_p34_2, hm_f34_3, hm_f34_4, hm_f34_5, hm_f34_6, hm_p34_6, hm_f34_7, hm_f34_8, hm_f34_9, hm_f34_10, hm_p34_10, hm_f34_11, hm_f34_12, hm_f34_13, hm_f34_14, hm_f34_15, hm_f34_16, hm_p34_16, hm_f34_17, hm_p34_17, hm_f34_18, hm_p34_18, hm_f34_19, hm_p34_19, hm_f34_20, hm_p34_20, hm_f34_21, hm_p34_21, hm_f34_22, hm_p34_22, hm_f34_23, hm_p34_23, hm_f34_24, hm_p34_24, hm_f34_25, hm_p34_25, hm_f34_26, hm_f34_27, hm_f34_28, hm_p34_28, hm_f34_29, hm_p34_29, hm_f34_30, hm_f34_31, hm_f34_32, hm_p34_32, hm_f34_33, hm_f34_34, hm_f34_35, hm_f34_36, hm_f34_37, hm_f34_38, hm_a35, hm_s35, hm_l35, hm_a36, hm_s36, hm_l36, hm_a37, hm_s37, hm_l37, hm_a38, hm_s38, hm_l38, hm_a39, hm_s39, hm_l39, hm_a40, hm_s40, hm_l40, hm_a41, hm_s41, hm_l41, hm_a42, hm_s42, hm_l42, hm_a43, hm_s43, hm_l43, hm_a44, hm_s44, hm_l44, hm_a45, hm_s45, hm_l45, hm_a46, hm_s46, hm_l46, hm_a47, hm_s47, hm_l47, hm_a48, hm_s48, hm_l48, hm_a49, hm_s49, hm_l49, hm_a50, hm_s50, hm_l50, hm_a51, hm_s51, hm_l51, hm_a52, hm_s52, hm_l52, hm_a53, hm_s53, hm_l53, hm_a54, hm_s54, hm_l54, hm_a55, hm_s55, hm_l55, hm_a56, hm_s56, hm_l56]
      rw [List.drop_zero, List.take_length]
      have e1 : mu_1 X i p = (if mx_sy X y (mx_sp X p) then [(1, X.2.2.2.1 0, 1, 0)] else []) ++ (if y = mx_sp X p then [(1, X.2.2.2.1 1, 1, 8192)] else []) := by unfold mu_1; rw [hyd]
      rw [e1, List.foldl_append] at hQ
      by_cases hc : y = mx_sp X p
      · rw [if_pos hc]
        rw [if_pos hc] at hQ
        refine ⟨fun q => absurd q (by decide), fun _ => ?_⟩
        have hwt := hS.wt (s := 1) (by decide)
        simp (disch := omega) only [hwt.1, n_lit, n_litL, n_shr, n_shl, n_lt, n_le, n_eq, pk_mul, nI_add, n_cl, n_sub, Nat.reduceAdd, Nat.not_lt_zero, Nat.zero_le, true_implies, false_implies, not_true_eq_false, not_false_eq_true, true_and, and_true]
        refine ⟨vp_in_nI (by omega) (by omega), p_S_one (ch := 8192) hS (cs := X.2.2.2.1 1) (by omega) rfl ⟨rfl, fun z => absurd z (by decide), fun z => absurd z (by decide), fun z => absurd z (by decide), fun z => absurd z (by decide)⟩ (fun I' _ hS' => g114 _ _ _ ?_)⟩
        simp only [B_X9_oneWord_114, am_us, am_un, Nat.reduceEqDiff, not_false_eq_true, ak_c, ak_il, ak_ll, ak_al, ak_is, ak_as, ak_ls, ak_ii, ak_ib, ak_id, ak_lb, ak_lx, ak_lc, ak_iu, ak_i2l, ak_l2i, ak_dup, ak_dup2, ak_pop, ak_if, ak_ic, ak_sw, am_sws, ak_get, ak_puti, ak_putz, ak_putl, ak_puta, ak_iald, ak_lald, ak_iast, ak_last, ak_alen, ak_cs, ak_cv, ak_ri, ak_rz, ak_rl, ak_rv, am_ent, am_sp, am_pu, am_rs, Value.category, am_st1, am_st2, am_clr, List.getElem?_cons_zero, List.getElem?_cons_succ, List.set_cons_zero, List.set_cons_succ, List.length_cons, List.length_nil, Nat.reduceAdd, Nat.reduceLT, Nat.reduceLeDiff, Nat.zero_add, Nat.add_zero, true_and, and_true, or_true, true_or, if_true, if_false, Option.some.injEq, true_implies, false_implies, not_true_eq_false, not_false_eq_true, hm_i34, hm_f34_0, hm_p34_0, hm_f34_1, hm_f34_2, hm_p34_2, hm_f34_3, hm_f34_4, hm_f34_5, hm_f34_6, hm_p34_6, hm_f34_7, hm_f34_8, hm_f34_9, hm_f34_10, hm_p34_10, hm_f34_11, hm_f34_12, hm_f34_13, hm_f34_14, hm_f34_15, hm_f34_16, hm_p34_16, hm_f34_17, hm_p34_17, hm_f34_18, hm_p34_18, hm_f34_19, hm_p34_19, hm_f34_20, hm_p34_20, hm_f34_21, hm_p34_21, hm_f34_22, hm_p34_22, hm_f34_23, hm_p34_23, hm_f34_24, hm_p34_24, hm_f34_25, hm_p34_25, hm_f34_26, hm_f34_27, hm_f34_28, hm_p34_28, hm_f34_29, hm_p34_29, hm_f34_30, hm_f34_31, hm_f34_32, hm_p34_32, hm_f34_33, hm_f34_34, hm_f34_35, hm_f34_36, hm_f34_37, hm_f34_38, hm_a35, hm_s35, hm_l35, hm_a36, hm_s36, hm_l36, hm_a37, hm_s37, hm_l37, hm_a38, hm_s38, hm_l38, hm_a39, hm_s39, hm_l39, hm_a40, hm_s40, hm_l40, hm_a41, hm_s41, hm_l41, hm_a42, hm_s42, hm_l42, hm_a43, hm_s43, hm_l43, hm_a44, hm_s44, hm_l44, hm_a45, hm_s45, hm_l45, hm_a46, hm_s46, hm_l46, hm_a47, hm_s47, hm_l47, hm_a48, hm_s48, hm_l48, hm_a49, hm_s49, hm_l49, hm_a50, hm_s50, hm_l50, hm_a51, hm_s51, hm_l51, hm_a52, hm_s52, hm_l52, hm_a53, hm_s53, hm_l53, hm_a54, hm_s54, hm_l54, hm_a55, hm_s55, hm_l55, hm_a56, hm_s56, hm_l56]
        exact hQ I' A hS'
      · rw [if_neg hc]
        rw [if_neg hc] at hQ
        refine ⟨fun _ => g114 _ _ _ ?_, fun q => absurd rfl q⟩
        simp only [B_X9_oneWord_114, am_us, am_un, Nat.reduceEqDiff, not_false_eq_true, ak_c, ak_il, ak_ll, ak_al, ak_is, ak_as, ak_ls, ak_ii, ak_ib, ak_id, ak_lb, ak_lx, ak_lc, ak_iu, ak_i2l, ak_l2i, ak_dup, ak_dup2, ak_pop, ak_if, ak_ic, ak_sw, am_sws, ak_get, ak_puti, ak_putz, ak_putl, ak_puta, ak_iald, ak_lald, ak_iast, ak_last, ak_alen, ak_cs, ak_cv, ak_ri, ak_rz, ak_rl, ak_rv, am_ent, am_sp, am_pu, am_rs, Value.category, am_st1, am_st2, am_clr, List.getElem?_cons_zero, List.getElem?_cons_succ, List.set_cons_zero, List.set_cons_succ, List.length_cons, List.length_nil, Nat.reduceAdd, Nat.reduceLT, Nat.reduceLeDiff, Nat.zero_add, Nat.add_zero, true_and, and_true, or_true, true_or, if_true, if_false, Option.some.injEq, true_implies, false_implies, not_true_eq_false, not_false_eq_true, hm_i34, hm_f34_0, hm_p34_0, hm_f34_1, hm_f34_2, hm_p34_2, hm_f34_3, hm_f34_4, hm_f34_5, hm_f34_6, hm_p34_6, hm_f34_7, hm_f34_8, hm_f34_9, hm_f34_10, hm_p34_10, hm_f34_11, hm_f34_12, hm_f34_13, hm_f34_14, hm_f34_15, hm_f34_16, hm_p34_16, hm_f34_17, hm_p34_17, hm_f34_18, hm_p34_18, hm_f34_19, hm_p34_19, hm_f34_20, hm_p34_20, hm_f34_21, hm_p34_21, hm_f34_22, hm_p34_22, hm_f34_23, hm_p34_23, hm_f34_24, hm_p34_24, hm_f34_25, hm_p34_25, hm_f34_26, hm_f34_27, hm_f34_28, hm_p34_28, hm_f34_29, hm_p34_29, hm_f34_30, hm_f34_31, hm_f34_32, hm_p34_32, hm_f34_33, hm_f34_34, hm_f34_35, hm_f34_36, hm_f34_37, hm_f34_38, hm_a35, hm_s35, hm_l35, hm_a36, hm_s36, hm_l36, hm_a37, hm_s37, hm_l37, hm_a38, hm_s38, hm_l38, hm_a39, hm_s39, hm_l39, hm_a40, hm_s40, hm_l40, hm_a41, hm_s41, hm_l41, hm_a42, hm_s42, hm_l42, hm_a43, hm_s43, hm_l43, hm_a44, hm_s44, hm_l44, hm_a45, hm_s45, hm_l45, hm_a46, hm_s46, hm_l46, hm_a47, hm_s47, hm_l47, hm_a48, hm_s48, hm_l48, hm_a49, hm_s49, hm_l49, hm_a50, hm_s50, hm_l50, hm_a51, hm_s51, hm_l51, hm_a52, hm_s52, hm_l52, hm_a53, hm_s53, hm_l53, hm_a54, hm_s54, hm_l54, hm_a55, hm_s55, hm_l55, hm_a56, hm_s56, hm_l56]
        exact hQ I A hS
    | succ r ih =>
      intro k I hk hS
      have hB := hS.1.1
      have hC := hS.1.2.1
      have hx : X.1[k]? = some (X.1[k]'(by omega)) := List.getElem?_eq_getElem (by omega)
      generalize X.1[k]'(by omega) = x at hx
      have hxE := hB.1.2.1 x (List.mem_of_getElem? hx)
      have hxl := hxE.l12
      have hx8 := hxE.2.2.2.1
      have hrow := hB.2.2 k x hx
      have es : (List.range (k + 1)).flatMap (sy_e X y (mx_sp X p) (1, X.2.2.2.1 0, 1, 0)) = (List.range k).flatMap (sy_e X y (mx_sp X p) (1, X.2.2.2.1 0, 1, 0)) ++ (if x.2.2 = 0 ∧ (¬ X.2.2.2.2 = some k ∧ x.1 = y) ∧ x.2.1 = mx_sp X p then [(1, X.2.2.2.1 0, 1, 0)] else []) := by
        rw [List.range_succ, List.flatMap_append]
        congr 1
        rw [List.flatMap_cons, List.flatMap_nil, List.append_nil]
        unfold sy_e
        rw [hx]
      have skip : ¬ (x.2.2 = 0 ∧ (¬ X.2.2.2.2 = some k ∧ x.1 = y) ∧ x.2.1 = mx_sp X p) → G 68 [some (.ref 34), some (.int (nI i)), some (.int (nI k))] [] (HM hd I A T) := by
        intro hz
        rw [if_neg hz, List.append_nil] at es
        refine g68 _ _ _ ?_
        simp only [B_X9_oneWord_68, am_us, am_un, Nat.reduceEqDiff, not_false_eq_true, ak_c, ak_il, ak_ll, ak_al, ak_is, ak_as, ak_ls, ak_ii, ak_ib, ak_id, ak_lb, ak_lx, ak_lc, ak_iu, ak_i2l, ak_l2i, ak_dup, ak_dup2, ak_pop, ak_if, ak_ic, ak_sw, am_sws, ak_get, ak_puti, ak_putz, ak_putl, ak_puta, ak_iald, ak_lald, ak_iast, ak_last, ak_alen, ak_cs, ak_cv, ak_ri, ak_rz, ak_rl, ak_rv, am_ent, am_sp, am_pu, am_rs, Value.category, am_st1, am_st2, am_clr, List.getElem?_cons_zero, List.getElem?_cons_succ, List.set_cons_zero, List.set_cons_succ, List.length_cons, List.length_nil, Nat.reduceAdd, Nat.reduceLT, Nat.reduceLeDiff, Nat.zero_add, Nat.add_zero, true_and, and_true, or_true, true_or, if_true, if_false, Option.some.injEq, true_implies, false_implies, not_true_eq_false, not_false_eq_true, hm_i34, hm_f34_0, hm_p34_0, hm_f34_1, hm_f34_2, hm_p34_2, hm_f34_3, hm_f34_4, hm_f34_5, hm_f34_6, hm_p34_6, hm_f34_7, hm_f34_8, hm_f34_9, hm_f34_10, hm_p34_10, hm_f34_11, hm_f34_12, hm_f34_13, hm_f34_14, hm_f34_15, hm_f34_16, hm_p34_16, hm_f34_17, hm_p34_17, hm_f34_18, hm_p34_18, hm_f34_19, hm_p34_19, hm_f34_20, hm_p34_20, hm_f34_21, hm_p34_21, hm_f34_22, hm_p34_22, hm_f34_23, hm_p34_23, hm_f34_24, hm_p34_24, hm_f34_25, hm_p34_25, hm_f34_26, hm_f34_27, hm_f34_28, hm_p34_28, hm_f34_29, hm_p34_29, hm_f34_30, hm_f34_31, hm_f34_32, hm_p34_32, hm_f34_33, hm_f34_34, hm_f34_35, hm_f34_36, hm_f34_37, hm_f34_38, hm_a35, hm_s35, hm_l35, hm_a36, hm_s36, hm_l36, hm_a37, hm_s37, hm_l37, hm_a38, hm_s38, hm_l38, hm_a39, hm_s39, hm_l39, hm_a40, hm_s40, hm_l40, hm_a41, hm_s41, hm_l41, hm_a42, hm_s42, hm_l42, hm_a43, hm_s43, hm_l43, hm_a44, hm_s44, hm_l44, hm_a45, hm_s45, hm_l45, hm_a46, hm_s46, hm_l46, hm_a47, hm_s47, hm_l47, hm_a48, hm_s48, hm_l48, hm_a49, hm_s49, hm_l49, hm_a50, hm_s50, hm_l50, hm_a51, hm_s51, hm_l51, hm_a52, hm_s52, hm_l52, hm_a53, hm_s53, hm_l53, hm_a54, hm_s54, hm_l54, hm_a55, hm_s55, hm_l55, hm_a56, hm_s56, hm_l56]
        rw [n_add1]
        exact ih (k + 1) I (by omega) (by rw [es]; exact hS)
      refine g2 _ _ _ ?_
      simp only [B_X9_oneWord_2, hB.2.1, am_us, am_un, Nat.reduceEqDiff, not_false_eq_true, ak_c, ak_il, ak_ll, ak_al, ak_is, ak_as, ak_ls, ak_ii, ak_ib, ak_id, ak_lb, ak_lx, ak_lc, ak_iu, ak_i2l, ak_l2i, ak_dup, ak_dup2, ak_pop, ak_if, ak_ic, ak_sw, am_sws, ak_get, ak_puti, ak_putz, ak_putl, ak_puta, ak_iald, ak_lald, ak_iast, ak_last, ak_alen, ak_cs, ak_cv, ak_ri, ak_rz, ak_rl, ak_rv, am_ent, am_sp, am_pu, am_rs, Value.category, am_st1, am_st2, am_clr, List.getElem?_cons_zero, List.getElem?_cons_succ, List.set_cons_zero, List.set_cons_succ, List.length_cons, List.length_nil, Nat.reduceAdd, Nat.reduceLT, Nat.reduceLeDiff, Nat.zero_add, Nat.add_zero, true_and, and_true, or_true, true_or, if_true, if_false, Option.some.injEq, true_implies, false_implies, not_true_eq_false, not_false_eq_true, hm_i34, hm_f34_0, hm_p34_0, hm_f34_1, hm_f34_2, hm_p34_2, hm_f34_3, hm_f34_4, hm_f34_5, hm_f34_6, hm_p34_6, hm_f34_7, hm_f34_8, hm_f34_9, hm_f34_10, hm_p34_10, hm_f34_11, hm_f34_12, hm_f34_13, hm_f34_14, hm_f34_15, hm_f34_16, hm_p34_16, hm_f34_17, hm_p34_17, hm_f34_18, hm_p34_18, hm_f34_19, hm_p34_19, hm_f34_20, hm_p34_20, hm_f34_21, hm_p34_21, hm_f34_22, hm_p34_22, hm_f34_23, hm_p34_23, hm_f34_24, hm_p34_24, hm_f34_25, hm_p34_25, hm_f34_26, hm_f34_27, hm_f34_28, hm_p34_28, hm_f34_29, hm_p34_29, hm_f34_30, hm_f34_31, hm_f34_32, hm_p34_32, hm_f34_33, hm_f34_34, hm_f34_35, hm_f34_36, hm_f34_37, hm_f34_38, hm_a35, hm_s35, hm_l35, hm_a36, hm_s36, hm_l36, hm_a37, hm_s37, hm_l37, hm_a38, hm_s38, hm_l38, hm_a39, hm_s39, hm_l39, hm_a40, hm_s40, hm_l40, hm_a41, hm_s41, hm_l41, hm_a42, hm_s42, hm_l42, hm_a43, hm_s43, hm_l43, hm_a44, hm_s44, hm_l44, hm_a45, hm_s45, hm_l45, hm_a46, hm_s46, hm_l46, hm_a47, hm_s47, hm_l47, hm_a48, hm_s48, hm_l48, hm_a49, hm_s49, hm_l49, hm_a50, hm_s50, hm_l50, hm_a51, hm_s51, hm_l51, hm_a52, hm_s52, hm_l52, hm_a53, hm_s53, hm_l53, hm_a54, hm_s54, hm_l54, hm_a55, hm_s55, hm_l55, hm_a56, hm_s56, hm_l56]
      simp (disch := omega) only [hrow.2.2, n_lit, n_litL, n_shr, n_shl, n_lt, n_le, n_eq, pk_mul, nI_add, n_cl, n_sub, Nat.reduceAdd, Nat.not_lt_zero, Nat.zero_le, true_implies, false_implies, not_true_eq_false, not_false_eq_true, true_and, and_true]
      refine ⟨fun q => absurd q (by omega), fun _ => ⟨vp_in_nI (by omega) (by omega), fun q0 => p_X9_isOf hB hC hS.1.2.2.1 hx hy ?_, fun q0 => skip (fun z => q0 z.1)⟩⟩
      simp only [am_us, am_un, Nat.reduceEqDiff, not_false_eq_true, ak_c, ak_il, ak_ll, ak_al, ak_is, ak_as, ak_ls, ak_ii, ak_ib, ak_id, ak_lb, ak_lx, ak_lc, ak_iu, ak_i2l, ak_l2i, ak_dup, ak_dup2, ak_pop, ak_if, ak_ic, ak_sw, am_sws, ak_get, ak_puti, ak_putz, ak_putl, ak_puta, ak_iald, ak_lald, ak_iast, ak_last, ak_alen, ak_cs, ak_cv, ak_ri, ak_rz, ak_rl, ak_rv, am_ent, am_sp, am_pu, am_rs, Value.category, am_st1, am_st2, am_clr, List.getElem?_cons_zero, List.getElem?_cons_succ, List.set_cons_zero, List.set_cons_succ, List.length_cons, List.length_nil, Nat.reduceAdd, Nat.reduceLT, Nat.reduceLeDiff, Nat.zero_add, Nat.add_zero, true_and, and_true, or_true, true_or, if_true, if_false, Option.some.injEq, true_implies, false_implies, not_true_eq_false, not_false_eq_true, hm_i34, hm_f34_0, hm_p34_0, hm_f34_1, hm_f34_2, hm_p34_2, hm_f34_3, hm_f34_4, hm_f34_5, hm_f34_6, hm_p34_6, hm_f34_7, hm_f34_8, hm_f34_9, hm_f34_10, hm_p34_10, hm_f34_11, hm_f34_12, hm_f34_13, hm_f34_14, hm_f34_15, hm_f34_16, hm_p34_16, hm_f34_17, hm_p34_17, hm_f34_18, hm_p34_18, hm_f34_19, hm_p34_19, hm_f34_20, hm_p34_20, hm_f34_21, hm_p34_21, hm_f34_22, hm_p34_22, hm_f34_23, hm_p34_23, hm_f34_24, hm_p34_24, hm_f34_25, hm_p34_25, hm_f34_26, hm_f34_27, hm_f34_28, hm_p34_28, hm_f34_29, hm_p34_29, hm_f34_30, hm_f34_31, hm_f34_32, hm_p34_32, hm_f34_33, hm_f34_34, hm_f34_35, hm_f34_36, hm_f34_37, hm_f34_38, hm_a35, hm_s35, hm_l35, hm_a36, hm_s36, hm_l36, hm_a37, hm_s37, hm_l37, hm_a38, hm_s38, hm_l38, hm_a39, hm_s39, hm_l39, hm_a40, hm_s40, hm_l40, hm_a41, hm_s41, hm_l41, hm_a42, hm_s42, hm_l42, hm_a43, hm_s43, hm_l43, hm_a44, hm_s44, hm_l44, hm_a45, hm_s45, hm_l45, hm_a46, hm_s46, hm_l46, hm_a47, hm_s47, hm_l47, hm_a48, hm_s48, hm_l48, hm_a49, hm_s49, hm_l49, hm_a50, hm_s50, hm_l50, hm_a51, hm_s51, hm_l51, hm_a52, hm_s52, hm_l52, hm_a53, hm_s53, hm_l53, hm_a54, hm_s54, hm_l54, hm_a55, hm_s55, hm_l55, hm_a56, hm_s56, hm_l56]
      by_cases q1 : ¬ X.2.2.2.2 = some k ∧ x.1 = y
      · rw [if_pos q1]
        refine ⟨fun q => absurd q (by decide), fun _ => ?_⟩
        simp (disch := omega) only [hrow.2.1.1, n_lit, n_litL, n_shr, n_shl, n_lt, n_le, n_eq, pk_mul, nI_add, n_cl, n_sub, Nat.reduceAdd, Nat.not_lt_zero, Nat.zero_le, true_implies, false_implies, not_true_eq_false, not_false_eq_true, true_and, and_true]
        refine ⟨vp_in_nI (by omega) (by omega), p_X9_spells_g hS hrow.2.1 hxE.2.2.1 (by omega) (by omega) (by omega) ?_⟩
        simp only [am_us, am_un, Nat.reduceEqDiff, not_false_eq_true, ak_c, ak_il, ak_ll, ak_al, ak_is, ak_as, ak_ls, ak_ii, ak_ib, ak_id, ak_lb, ak_lx, ak_lc, ak_iu, ak_i2l, ak_l2i, ak_dup, ak_dup2, ak_pop, ak_if, ak_ic, ak_sw, am_sws, ak_get, ak_puti, ak_putz, ak_putl, ak_puta, ak_iald, ak_lald, ak_iast, ak_last, ak_alen, ak_cs, ak_cv, ak_ri, ak_rz, ak_rl, ak_rv, am_ent, am_sp, am_pu, am_rs, Value.category, am_st1, am_st2, am_clr, List.getElem?_cons_zero, List.getElem?_cons_succ, List.set_cons_zero, List.set_cons_succ, List.length_cons, List.length_nil, Nat.reduceAdd, Nat.reduceLT, Nat.reduceLeDiff, Nat.zero_add, Nat.add_zero, true_and, and_true, or_true, true_or, if_true, if_false, Option.some.injEq, true_implies, false_implies, not_true_eq_false, not_false_eq_true, hm_i34, hm_f34_0, hm_p34_0, hm_f34_1, hm_f34_2, hm_p34_2, hm_f34_3, hm_f34_4, hm_f34_5, hm_f34_6, hm_p34_6, hm_f34_7, hm_f34_8, hm_f34_9, hm_f34_10, hm_p34_10, hm_f34_11, hm_f34_12, hm_f34_13, hm_f34_14, hm_f34_15, hm_f34_16, hm_p34_16, hm_f34_17, hm_p34_17, hm_f34_18, hm_p34_18, hm_f34_19, hm_p34_19, hm_f34_20, hm_p34_20, hm_f34_21, hm_p34_21, hm_f34_22, hm_p34_22, hm_f34_23, hm_p34_23, hm_f34_24, hm_p34_24, hm_f34_25, hm_p34_25, hm_f34_26, hm_f34_27, hm_f34_28, hm_p34_28, hm_f34_29, hm_p34_29, hm_f34_30, hm_f34_31, hm_f34_32, hm_p34_32, hm_f34_33, hm_f34_34, hm_f34_35, hm_f34_36, hm_f34_37, hm_f34_38, hm_a35, hm_s35, hm_l35, hm_a36, hm_s36, hm_l36, hm_a37, hm_s37, hm_l37, hm_a38, hm_s38, hm_l38, hm_a39, hm_s39, hm_l39, hm_a40, hm_s40, hm_l40, hm_a41, hm_s41, hm_l41, hm_a42, hm_s42, hm_l42, hm_a43, hm_s43, hm_l43, hm_a44, hm_s44, hm_l44, hm_a45, hm_s45, hm_l45, hm_a46, hm_s46, hm_l46, hm_a47, hm_s47, hm_l47, hm_a48, hm_s48, hm_l48, hm_a49, hm_s49, hm_l49, hm_a50, hm_s50, hm_l50, hm_a51, hm_s51, hm_l51, hm_a52, hm_s52, hm_l52, hm_a53, hm_s53, hm_l53, hm_a54, hm_s54, hm_l54, hm_a55, hm_s55, hm_l55, hm_a56, hm_s56, hm_l56]
        rw [List.drop_zero, List.take_length]
        by_cases q2 : x.2.1 = mx_sp X p
        · rw [if_pos q2]
          refine ⟨fun q => absurd q (by decide), fun _ => ?_⟩
          have hwt := hS.wt (s := 0) (by decide)
          simp (disch := omega) only [hwt.1, n_lit, n_litL, n_shr, n_shl, n_lt, n_le, n_eq, pk_mul, nI_add, n_cl, n_sub, Nat.reduceAdd, Nat.not_lt_zero, Nat.zero_le, true_implies, false_implies, not_true_eq_false, not_false_eq_true, true_and, and_true]
          have hxx : x = (y, mx_sp X p, 0) := by rw [← q1.2, ← q2, ← q0]
          refine ⟨vp_in_nI (by omega) (by omega), p_S_one (ch := 0) hS (cs := X.2.2.2.1 0) (by omega) rfl ⟨rfl, fun _ => ⟨k, rfl, by rw [hyd, ← hxx]; exact hx⟩, fun z => absurd z (by decide), fun z => absurd z (by decide), fun z => absurd z (by decide)⟩ (fun I' _ hS' => g68 _ _ _ ?_)⟩
          rw [if_pos ⟨q0, q1, q2⟩] at es
          simp only [B_X9_oneWord_68, am_us, am_un, Nat.reduceEqDiff, not_false_eq_true, ak_c, ak_il, ak_ll, ak_al, ak_is, ak_as, ak_ls, ak_ii, ak_ib, ak_id, ak_lb, ak_lx, ak_lc, ak_iu, ak_i2l, ak_l2i, ak_dup, ak_dup2, ak_pop, ak_if, ak_ic, ak_sw, am_sws, ak_get, ak_puti, ak_putz, ak_putl, ak_puta, ak_iald, ak_lald, ak_iast, ak_last, ak_alen, ak_cs, ak_cv, ak_ri, ak_rz, ak_rl, ak_rv, am_ent, am_sp, am_pu, am_rs, Value.category, am_st1, am_st2, am_clr, List.getElem?_cons_zero, List.getElem?_cons_succ, List.set_cons_zero, List.set_cons_succ, List.length_cons, List.length_nil, Nat.reduceAdd, Nat.reduceLT, Nat.reduceLeDiff, Nat.zero_add, Nat.add_zero, true_and, and_true, or_true, true_or, if_true, if_false, Option.some.injEq, true_implies, false_implies, not_true_eq_false, not_false_eq_true, hm_i34, hm_f34_0, hm_p34_0, hm_f34_1, hm_f34_2, hm_p34_2, hm_f34_3, hm_f34_4, hm_f34_5, hm_f34_6, hm_p34_6, hm_f34_7, hm_f34_8, hm_f34_9, hm_f34_10, hm_p34_10, hm_f34_11, hm_f34_12, hm_f34_13, hm_f34_14, hm_f34_15, hm_f34_16, hm_p34_16, hm_f34_17, hm_p34_17, hm_f34_18, hm_p34_18, hm_f34_19, hm_p34_19, hm_f34_20, hm_p34_20, hm_f34_21, hm_p34_21, hm_f34_22, hm_p34_22, hm_f34_23, hm_p34_23, hm_f34_24, hm_p34_24, hm_f34_25, hm_p34_25, hm_f34_26, hm_f34_27, hm_f34_28, hm_p34_28, hm_f34_29, hm_p34_29, hm_f34_30, hm_f34_31, hm_f34_32, hm_p34_32, hm_f34_33, hm_f34_34, hm_f34_35, hm_f34_36, hm_f34_37, hm_f34_38, hm_a35, hm_s35, hm_l35, hm_a36, hm_s36, hm_l36, hm_a37, hm_s37, hm_l37, hm_a38, hm_s38, hm_l38, hm_a39, hm_s39, hm_l39, hm_a40, hm_s40, hm_l40, hm_a41, hm_s41, hm_l41, hm_a42, hm_s42, hm_l42, hm_a43, hm_s43, hm_l43, hm_a44, hm_s44, hm_l44, hm_a45, hm_s45, hm_l45, hm_a46, hm_s46, hm_l46, hm_a47, hm_s47, hm_l47, hm_a48, hm_s48, hm_l48, hm_a49, hm_s49, hm_l49, hm_a50, hm_s50, hm_l50, hm_a51, hm_s51, hm_l51, hm_a52, hm_s52, hm_l52, hm_a53, hm_s53, hm_l53, hm_a54, hm_s54, hm_l54, hm_a55, hm_s55, hm_l55, hm_a56, hm_s56, hm_l56]
          rw [n_add1]
          exact ih (k + 1) I' (by omega) (by rw [es, List.foldl_append]; exact hS')
        · rw [if_neg q2]
          exact ⟨fun _ => skip (fun z => q2 z.2.2), fun q => absurd rfl q⟩
      · rw [if_neg q1]
        exact ⟨fun _ => skip (fun z => q1 z.2.1), fun q => absurd rfl q⟩
  exact loop X.1.length 0 I (by omega) hS
end RF10
