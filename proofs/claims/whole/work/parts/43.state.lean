/-! the state of the class -/
def lq_s (w : List Nat) : List Nat := w.map (fun d => 96 + d)
def lq_w (cl : List (List Nat)) (i j : Nat) : List Nat := lq_s (mu_fl cl i j)
def ln_I (X : MX) (P : Nat → Nat → Nat → List Nat) (s dt i j p : Nat) : List Nat :=
  if s = 2 then (if dt = 0 then P (i + 1) j (p ^^^ 256) else P i (j - 1) (p ^^^ 256)) else
  if s = 3 then (if dt = 0 then lq_w X.2.1 (i + 1) j else lq_w X.2.1 i (j - 1)) else
  if s = 4 then P i (dt / 512) (pt_m p (dt % 512)) ++ (41 :: 40 :: P (dt / 512 + 1) j (dt % 512)) else
  if s = 5 then P i (dt / 512) (dt % 512) ++ (41 :: 40 :: P (dt / 512 + 1) j (pt_m p (dt % 512))) else
  if s = 7 ∨ s = 8 then (if dt = 0 then 39 :: lq_s (X.2.1.getD (j - 1) []) else lq_s ((X.1.map (fun x => x.2.1)).getD (dt - 1) [])) else lq_w X.2.1 (i + 1) j
def ln_u (X : MX) (P : Nat → Nat → Nat → List Nat) (c i j p : Nat) : List Nat :=
  if c / 8192 = 0 then lq_s (mx_sp X p) else if c / 8192 = 1 then 39 :: lq_s (mx_sp X p) else
  so_ch (c / 8192) :: 40 :: (ln_I X P (c / 8192) (c % 8192) i j p ++ [41])
def ln_U (X : MX) (P : Nat → Nat → Nat → List Nat) (i j p : Nat) : List Nat := ln_u X P (MU X i j p).2.2.2 i j p
def ln_P (X : MX) : Nat → Nat → Nat → Nat → List Nat
  | 0 => fun _ _ _ => []
  | d + 1 => fun i j p => ln_U X (ln_P X d) i ((MP X i j p).2.2.2 / 512) ((MP X i j p).2.2.2 % 512) ++
    (if (MP X i j p).2.2.2 / 512 < j then 43 :: ln_P X d ((MP X i j p).2.2.2 / 512) j (pt_m p ((MP X i j p).2.2.2 % 512)) else [])
def ML (X : MX) : List Nat := if (MZ X).1 = 0 then [] else
  (if (MZ X).2.2.2 < 2 then 60 else 62) :: (lq_s (mz_d X (MZ X).2.2.2) ++ ((if (MZ X).2.2.2 % 2 = 1 then [45] else []) ++ (61 :: ln_P X 7 (mz_a (MZ X).2.2.2) (mz_b X (MZ X).2.2.2) (mz_f X))))
abbrev MS : Type := Nat × (Nat → Nat) × List ME × List (List Nat) × List Nat × (Nat → Nat)
def sX (s : MS) (ms : Option Nat) : MX := (s.2.2.1, s.2.2.2.1, s.2.2.2.2.1, s.2.2.2.2.2, ms)
def rc_L (I : Nat → Int32) (A : Nat → Nat → Int32) (l : List Nat) : Prop := l.length ≤ 200 ∧ I 7 = nI l.length ∧ ∀ k x, l[k]? = some x → A 15 k = nI x
def RB (I : Nat → Int32) (J : Nat → Int64) (A : Nat → Nat → Int32) (B : Nat → Nat → Int64) (s : MS) : Prop :=
  rc_T I A s.1 s.2.1 ∧ rc_B I A B s.2.2.1 ∧ rc_C I A B s.2.2.2.1 ∧ mg_W s.2.2.2.2.1 ∧ J 0 = lN (mk_pk s.2.2.2.2.1) ∧ ∀ k, k < 11 → A 4 k = nI (s.2.2.2.2.2 k) ∧ s.2.2.2.2.2 k ≤ 9
def TM (L : Nat) (I : Nat → Int32) (A : Nat → Nat → Int32) : Prop := I 4 = nI L ∧ (∀ s, ∃ t, t ≤ L ∧ A 6 s = nI t) ∧ (∀ s, ∃ t, t ≤ L ∧ A 9 s = nI t) ∧ (∃ t, t ≤ L ∧ A 12 0 = nI t) ∧ ∃ t, t ≤ L ∧ I 8 = nI t
def OW (O : Nat) (X : MX) (A : Nat → Nat → Int32) (B : Nat → Nat → Int64) : Prop := ok X (nI O) 13 A B ∧ (A 12 0 = nI O → tvZ A B (MZ X))
def LI (O : Nat) (X : MX) (I : Nat → Int32) (A : Nat → Nat → Int32) : Prop := I 8 = nI O → rc_L I A (ML X) ∧ ¬ (MZ X).1 = 0
def CI (L : Nat) (I : Nat → Int32) (J : Nat → Int64) (A : Nat → Nat → Int32) (B : Nat → Nat → Int64) (s : MS) : Prop :=
  RB I J A B s ∧ TM L I A ∧ L < 1000000 ∧ SV I J (sX s none) A B ∧ ∃ O, O ≤ L ∧ I 5 = nI O ∧ I 6 = nI O ∧ LI O (sX s none) I A
/-- another answer, or a book without an entry, is looked at -/
def CJ (L : Nat) (I : Nat → Int32) (J : Nat → Int64) (A : Nat → Nat → Int32) (B : Nat → Nat → Int64) (s : MS) (X : MX) : Prop :=
  RB I J A B s ∧ TM L I A ∧ L < 1000000 ∧ SV I J X A B ∧ I 6 = nI L ∧ ∃ O, O < L ∧ I 5 = nI O ∧ OW O (sX s none) A B ∧ LI O (sX s none) I A
def CK (L : Nat) (I : Nat → Int32) (J : Nat → Int64) (A : Nat → Nat → Int32) (B : Nat → Nat → Int64) (s : MS) : Prop :=
  RB I J A B s ∧ TM L I A ∧ L < 1000000 ∧ ∃ O, O ≤ L ∧ I 5 = nI O ∧ OW O (sX s none) A B ∧ LI O (sX s none) I A
section ST
variable {I : Nat → Int32} {J : Nat → Int64} {X : MX} {tl : am_H} {Q : am_Q} {A A1 A' : Nat → Nat → Int32} {B B1 B' : Nat → Nat → Int64} {s : MS} {L O : Nat} {n : Int32}
theorem OW.mz (h : OW O X A B) (hm : mz n A B A' B') (hn : ¬ nI O = n) : OW O X A' B' := by
  refine ⟨⟨fun a b q ha hb hs => ?_, fun a b q ha hb hs => ?_⟩, fun hs => ?_⟩
  · rcases hm.2.2.1 (sl a b q) with g | g
    · exact absurd (hs.symm.trans g) hn
    · exact g.v (h.1.1 a b q ha hb (g.1.symm.trans hs))
  · rcases hm.2.2.2.1 (sl a b q) with g | g
    · exact absurd (hs.symm.trans g) hn
    · exact g.v (h.1.2 a b q ha hb (g.1.symm.trans hs))
  · rcases hm.2.2.2.2 with g | g
    · exact absurd (hs.symm.trans g) hn
    · exact g.v (h.2 (g.1.symm.trans hs))
theorem TM.mz (h : TM L I A) {N : Nat} (hm : mz (nI N) A B A' B') (hn : N ≤ L) : TM L I A' := by
  refine ⟨h.1, fun s => ?_, fun s => ?_, ?_, h.2.2.2.2⟩
  · rcases hm.2.2.1 s with g | g
    · exact ⟨N, hn, g⟩
    · rw [g.1]; exact h.2.1 s
  · rcases hm.2.2.2.1 s with g | g
    · exact ⟨N, hn, g⟩
    · rw [g.1]; exact h.2.2.1 s
  · rcases hm.2.2.2.2 with g | g
    · exact ⟨N, hn, g⟩
    · rw [g.1]; exact h.2.2.2.1
theorem RB.mz (h : RB I J A B s) (hm : mz n A B A' B') : RB I J A' B' s := by
  obtain ⟨⟨t1, t2, t3⟩, ⟨b1, b2, b3⟩, ⟨c1, c2, c3, c4, c5⟩, h4, h5, h6⟩ := h
  refine ⟨⟨t1, t2, ?_⟩, ⟨b1, b2, ?_⟩, ⟨c1, c2, ?_, ?_, ?_⟩, h4, h5, ?_⟩
  · rw [hm.1 0 (by omega)]; exact t3
  · rw [hm.2.1 0 (by omega), hm.2.1 1 (by omega), hm.1 1 (by omega)]; exact b3
  · rw [hm.2.1 2 (by omega)]; exact c3
  · rw [hm.1 2 (by omega)]; exact c4
  · rw [hm.1 3 (by omega)]; exact c5
  · rw [hm.1 4 (by omega)]; exact h6
theorem LI.mz (h : LI O X I A) (hm : mz n A B A' B') : LI O X I A' := by
  intro q
  obtain ⟨⟨l1, l2, l3⟩, l4⟩ := h q
  refine ⟨⟨l1, l2, ?_⟩, l4⟩
  rw [hm.1 15 (by omega)]
  exact l3
/-- own state: what a look leaves -/
theorem CI.mz (h : CI L I J A B s) (hm : mz (I 6) A B A' B') (hv : SV I J (sX s none) A' B') : CI L I J A' B' s := by
  obtain ⟨h1, h2, h3, h4, O, o1, o2, o3, o4⟩ := h
  have hm2 := hm
  rw [o3] at hm2
  exact ⟨h1.mz hm, h2.mz hm2 o1, h3, hv, O, o1, o2, o3, o4.mz hm⟩
theorem CJ.mz {X : MX} (h : CJ L I J A B s X) (hm : mz (I 6) A B A' B') (hv : SV I J X A' B') : CJ L I J A' B' s X := by
  obtain ⟨h1, h2, h3, h4, h5, O, o1, o2, o3, o4⟩ := h
  have hm2 := hm
  rw [h5] at hm2
  exact ⟨h1.mz hm, h2.mz hm2 (Nat.le_refl _), h3, hv, h5, O, o1, o2, o3.mz hm2 (by rw [n_eq (by omega) (by omega)]; omega), o4.mz hm⟩
theorem TM.no (h : TM L I A) (hL : L < 1000000) {N : Nat} (hN : L < N) (hN2 : N < 2000000) : (∀ s, ¬ A 6 s = nI N) ∧ (∀ s, ¬ A 9 s = nI N) ∧ ¬ A 12 0 = nI N ∧ ¬ I 8 = nI N := by
  have key : ∀ {x : Int32}, (∃ t, t ≤ L ∧ x = nI t) → ¬ x = nI N := by
    rintro x ⟨t, ht, rfl⟩
    rw [n_eq (by omega) (by omega)]
    omega
  exact ⟨fun s => key (h.2.1 s), fun s => key (h.2.2.1 s), key h.2.2.2.1, key h.2.2.2.2⟩
theorem OW.new {N : Nat} (h1 : ∀ s, ¬ A 6 s = nI N) (h2 : ∀ s, ¬ A 9 s = nI N) (h3 : ¬ A 12 0 = nI N) : OW N X A B := ⟨⟨fun a b q _ _ hs => absurd hs (h1 _), fun a b q _ _ hs => absurd hs (h2 _)⟩, fun hs => absurd hs h3⟩
theorem OW.a5 (h : OW O X A B) (hA : ∀ k, ¬ k = 5 → A' k = A k) : OW O X A' B := by
  refine ⟨⟨fun a b q ha hb hs => ?_, fun a b q ha hb hs => ?_⟩, fun hs => ?_⟩
  · rw [hA 6 (by decide)] at hs
    have g := h.1.1 a b q ha hb hs
    exact ⟨g.1, by rw [hA 7 (by decide)]; exact g.2.1, g.2.2.1, by rw [hA 8 (by decide)]; exact g.2.2.2⟩
  · rw [hA 9 (by decide)] at hs
    have g := h.1.2 a b q ha hb hs
    exact ⟨g.1, by rw [hA 10 (by decide)]; exact g.2.1, g.2.2.1, by rw [hA 11 (by decide)]; exact g.2.2.2⟩
  · rw [hA 12 (by decide)] at hs
    have g := h.2 hs
    exact ⟨g.1, by rw [hA 13 (by decide)]; exact g.2.1, g.2.2.1, by rw [hA 14 (by decide)]; exact g.2.2.2⟩
theorem RB.fr {I' : Nat → Int32} {J' : Nat → Int64} (h : RB I J A B s) (i0 : I' 0 = I 0) (i1 : I' 1 = I 1) (i2 : I' 2 = I 2) (j0 : J' 0 = J 0) (hA : ∀ k, ¬ k = 5 → A' k = A k) : RB I' J' A' B s := by
  obtain ⟨⟨t1, t2, t3⟩, ⟨b1, b2, b3⟩, ⟨c1, c2, c3, c4, c5⟩, h4, h5, h6⟩ := h
  refine ⟨⟨t1, i0.trans t2, ?_⟩, ⟨b1, i1.trans b2, ?_⟩, ⟨c1, i2.trans c2, c3, ?_, ?_⟩, h4, j0.trans h5, ?_⟩
  · rw [hA 0 (by decide)]; exact t3
  · rw [hA 1 (by decide)]; exact b3
  · rw [hA 2 (by decide)]; exact c4
  · rw [hA 3 (by decide)]; exact c5
  · rw [hA 4 (by decide)]; exact h6
theorem TM.fr {I' : Nat → Int32} {L2 : Nat} (h : TM L I A) (hl : L ≤ L2) (i4 : I' 4 = nI L2) (i8 : I' 8 = I 8) (hA : ∀ k, ¬ k = 5 → A' k = A k) : TM L2 I' A' := by
  have key : ∀ {x : Int32}, (∃ t, t ≤ L ∧ x = nI t) → ∃ t, t ≤ L2 ∧ x = nI t := fun ⟨t, a, b⟩ => ⟨t, by omega, b⟩
  refine ⟨i4, ?_, ?_, ?_, by rw [i8]; exact key h.2.2.2.2⟩
  · rw [hA 6 (by decide)]; exact fun s => key (h.2.1 s)
  · rw [hA 9 (by decide)]; exact fun s => key (h.2.2.1 s)
  · rw [hA 12 (by decide)]; exact key h.2.2.2.1
theorem LI.fr {I' : Nat → Int32} (h : LI O X I A) (i7 : I' 7 = I 7) (i8 : I' 8 = I 8) (hA : ∀ k, ¬ k = 5 → A' k = A k) : LI O X I' A' := by
  intro q
  rw [i8] at q
  obtain ⟨⟨l1, l2, l3⟩, l4⟩ := h q
  refine ⟨⟨l1, i7.trans l2, ?_⟩, l4⟩
  rw [hA 15 (by decide)]
  exact l3
theorem CI.ck (h : CI L I J A B s) : CK L I J A B s := by
  obtain ⟨hR, hT, h3, hV, O, o1, o2, o3, o4⟩ := h
  exact ⟨hR, hT, h3, O, o1, o2, ⟨by rw [← o3]; exact hV.2.1, by rw [← o3]; exact hV.2.2⟩, o4⟩
theorem CJ.ck {X : MX} (h : CJ L I J A B s X) : CK L I J A B s := by
  obtain ⟨hR, hT, h3, hV, h6, O, o1, o2, o3, o4⟩ := h
  exact ⟨hR, hT, h3, O, by omega, o2, o3, o4⟩
theorem p_X5_renew (hR : RB I J A B s) (hT : TM L I A) (hL : L + 1 < 1000000) (hQ : ∀ I' J' A', CI (L + 1) I' J' A' B s → (∀ k, k < 3 → I' k = I k) → Q none (HC I' J' A' B tl)) : K_X5_renew [.ref 12, .long (lN (mk_pk s.2.2.2.2.1))] (HC I J A B tl) Q := by
  refine ⟨Nat.le_of_ble_eq_true rfl, fun G hG => ?_⟩
  refine hG _ _ _ ?_
  simp only [B_X5_renew_0, hT.1, am_us, am_un, Nat.reduceEqDiff, not_false_eq_true, ak_c, ak_il, ak_ll, ak_al, ak_is, ak_as, ak_ls, ak_ii, ak_ib, ak_id, ak_lb, ak_lx, ak_lc, ak_iu, ak_i2l, ak_l2i, ak_dup, ak_dup2, ak_pop, ak_if, ak_ic, ak_sw, am_sws, ak_get, ak_puti, ak_putz, ak_putl, ak_puta, ak_iald, ak_lald, ak_iast, ak_last, ak_alen, ak_cs, ak_cv, ak_ri, ak_rz, ak_rl, ak_rv, am_ent, am_sp, am_pu, am_rs, Value.category, am_st1, am_st2, am_clr, List.getElem?_cons_zero, List.getElem?_cons_succ, List.set_cons_zero, List.set_cons_succ, List.length_cons, List.length_nil, Nat.reduceAdd, Nat.reduceLT, Nat.reduceLeDiff, Nat.zero_add, Nat.add_zero, true_and, and_true, or_true, true_or, if_true, if_false, Option.some.injEq, true_implies, false_implies, not_true_eq_false, not_false_eq_true, hc_i0, hc_f0_0, hc_f0_1, hc_f0_2, hc_f0_3, hc_f0_4, hc_f0_5, hc_f0_6, hc_p0_6, hc_i1, hc_f1_0, hc_f1_1, hc_p1_1, hc_a2, hc_s2, hc_l2, hc_i3, hc_f3_0, hc_f3_1, hc_f3_2, hc_f3_3, hc_p3_3, hc_a4, hc_s4, hc_l4, hc_a5, hc_s5, hc_l5, hc_a6, hc_s6, hc_l6, hc_i7, hc_f7_0, hc_f7_1, hc_f7_2, hc_f7_3, hc_p7_3, hc_a8, hc_s8, hc_l8, hc_a9, hc_s9, hc_l9, hc_a10, hc_s10, hc_l10, hc_a11, hc_s11, hc_l11, hc_i12, hc_f12_0, hc_f12_1, hc_f12_2, hc_f12_3, hc_f12_4, hc_f12_5, hc_f12_6, hc_f12_7, hc_p12_7, hc_f12_8, hc_p12_8, hc_f12_9, hc_p12_9, hc_f12_10, hc_p12_10, hc_f12_11, hc_p12_11, hc_i13, hc_f13_0, hc_f13_1, hc_f13_2, hc_f13_3, hc_f13_4, hc_a14, hc_s14, hc_l14, hc_a15, hc_s15, hc_l15, hc_a16, hc_s16, hc_l16, hc_a17, hc_s17, hc_l17, hc_a18, hc_s18, hc_l18, hc_i19, hc_f19_0, hc_f19_1, hc_f19_2, hc_f19_3, hc_f19_4, hc_a20, hc_s20, hc_l20, hc_a21, hc_s21, hc_l21, hc_a22, hc_s22, hc_l22, hc_a23, hc_s23, hc_l23, hc_a24, hc_s24, hc_l24, hc_i25, hc_f25_0, hc_f25_1, hc_f25_2, hc_f25_3, hc_f25_4, hc_a26, hc_s26, hc_l26, hc_a27, hc_s27, hc_l27, hc_a28, hc_s28, hc_l28, hc_a29, hc_s29, hc_l29, hc_a30, hc_s30, hc_l30, hc_a31, hc_s31, hc_l31, hc_i32, hc_f32_0, hc_f32_1, hc_p32_1, hc_f32_2, hc_p32_2, hc_f32_3, hc_a33, hc_s33, hc_l33]
  rw [n_add1]
  refine ⟨Nat.le_of_ble_eq_true rfl, fun G2 hG2 => ?_⟩
  refine hG2 _ _ _ ?_
  simp only [B_X5_supposeNothing_0, am_us, am_un, Nat.reduceEqDiff, not_false_eq_true, ak_c, ak_il, ak_ll, ak_al, ak_is, ak_as, ak_ls, ak_ii, ak_ib, ak_id, ak_lb, ak_lx, ak_lc, ak_iu, ak_i2l, ak_l2i, ak_dup, ak_dup2, ak_pop, ak_if, ak_ic, ak_sw, am_sws, ak_get, ak_puti, ak_putz, ak_putl, ak_puta, ak_iald, ak_lald, ak_iast, ak_last, ak_alen, ak_cs, ak_cv, ak_ri, ak_rz, ak_rl, ak_rv, am_ent, am_sp, am_pu, am_rs, Value.category, am_st1, am_st2, am_clr, List.getElem?_cons_zero, List.getElem?_cons_succ, List.set_cons_zero, List.set_cons_succ, List.length_cons, List.length_nil, Nat.reduceAdd, Nat.reduceLT, Nat.reduceLeDiff, Nat.zero_add, Nat.add_zero, true_and, and_true, or_true, true_or, if_true, if_false, Option.some.injEq, true_implies, false_implies, not_true_eq_false, not_false_eq_true, hc_i0, hc_f0_0, hc_f0_1, hc_f0_2, hc_f0_3, hc_f0_4, hc_f0_5, hc_f0_6, hc_p0_6, hc_i1, hc_f1_0, hc_f1_1, hc_p1_1, hc_a2, hc_s2, hc_l2, hc_i3, hc_f3_0, hc_f3_1, hc_f3_2, hc_f3_3, hc_p3_3, hc_a4, hc_s4, hc_l4, hc_a5, hc_s5, hc_l5, hc_a6, hc_s6, hc_l6, hc_i7, hc_f7_0, hc_f7_1, hc_f7_2, hc_f7_3, hc_p7_3, hc_a8, hc_s8, hc_l8, hc_a9, hc_s9, hc_l9, hc_a10, hc_s10, hc_l10, hc_a11, hc_s11, hc_l11, hc_i12, hc_f12_0, hc_f12_1, hc_f12_2, hc_f12_3, hc_f12_4, hc_f12_5, hc_f12_6, hc_f12_7, hc_p12_7, hc_f12_8, hc_p12_8, hc_f12_9, hc_p12_9, hc_f12_10, hc_p12_10, hc_f12_11, hc_p12_11, hc_i13, hc_f13_0, hc_f13_1, hc_f13_2, hc_f13_3, hc_f13_4, hc_a14, hc_s14, hc_l14, hc_a15, hc_s15, hc_l15, hc_a16, hc_s16, hc_l16, hc_a17, hc_s17, hc_l17, hc_a18, hc_s18, hc_l18, hc_i19, hc_f19_0, hc_f19_1, hc_f19_2, hc_f19_3, hc_f19_4, hc_a20, hc_s20, hc_l20, hc_a21, hc_s21, hc_l21, hc_a22, hc_s22, hc_l22, hc_a23, hc_s23, hc_l23, hc_a24, hc_s24, hc_l24, hc_i25, hc_f25_0, hc_f25_1, hc_f25_2, hc_f25_3, hc_f25_4, hc_a26, hc_s26, hc_l26, hc_a27, hc_s27, hc_l27, hc_a28, hc_s28, hc_l28, hc_a29, hc_s29, hc_l29, hc_a30, hc_s30, hc_l30, hc_a31, hc_s31, hc_l31, hc_i32, hc_f32_0, hc_f32_1, hc_p32_1, hc_f32_2, hc_p32_2, hc_f32_3, hc_a33, hc_s33, hc_l33]
  generalize hI1 : am_u (am_u I 4 (nI (L + 1))) 5 (nI (L + 1)) = I1
  have e0 : I1 0 = I 0 := by rw [← hI1, am_un (by decide), am_un (by decide)]
  have e1 : I1 1 = I 1 := by rw [← hI1, am_un (by decide), am_un (by decide)]
  have e2 : I1 2 = I 2 := by rw [← hI1, am_un (by decide), am_un (by decide)]
  have e4 : I1 4 = nI (L + 1) := by rw [← hI1, am_un (by decide), am_us]
  have e5 : I1 5 = nI (L + 1) := by rw [← hI1, am_us]
  have e7 : I1 7 = I 7 := by rw [← hI1, am_un (by decide), am_un (by decide)]
  have e8 : I1 8 = I 8 := by rw [← hI1, am_un (by decide), am_un (by decide)]
  have hR1 : RB I1 J A B s := hR.fr e0 e1 e2 rfl (fun _ _ => rfl)
  refine p_X5_begin (X := sX s none) hR1.2.1 hR1.2.2.1 hR1.2.2.2.1 (fun e h => by cases h) hR1.2.2.2.2.2 (fun A' hA hS => ?_)
  simp only [am_us, am_un, Nat.reduceEqDiff, not_false_eq_true, ak_c, ak_il, ak_ll, ak_al, ak_is, ak_as, ak_ls, ak_ii, ak_ib, ak_id, ak_lb, ak_lx, ak_lc, ak_iu, ak_i2l, ak_l2i, ak_dup, ak_dup2, ak_pop, ak_if, ak_ic, ak_sw, am_sws, ak_get, ak_puti, ak_putz, ak_putl, ak_puta, ak_iald, ak_lald, ak_iast, ak_last, ak_alen, ak_cs, ak_cv, ak_ri, ak_rz, ak_rl, ak_rv, am_ent, am_sp, am_pu, am_rs, Value.category, am_st1, am_st2, am_clr, List.getElem?_cons_zero, List.getElem?_cons_succ, List.set_cons_zero, List.set_cons_succ, List.length_cons, List.length_nil, Nat.reduceAdd, Nat.reduceLT, Nat.reduceLeDiff, Nat.zero_add, Nat.add_zero, true_and, and_true, or_true, true_or, if_true, if_false, Option.some.injEq, true_implies, false_implies, not_true_eq_false, not_false_eq_true, hc_i0, hc_f0_0, hc_f0_1, hc_f0_2, hc_f0_3, hc_f0_4, hc_f0_5, hc_f0_6, hc_p0_6, hc_i1, hc_f1_0, hc_f1_1, hc_p1_1, hc_a2, hc_s2, hc_l2, hc_i3, hc_f3_0, hc_f3_1, hc_f3_2, hc_f3_3, hc_p3_3, hc_a4, hc_s4, hc_l4, hc_a5, hc_s5, hc_l5, hc_a6, hc_s6, hc_l6, hc_i7, hc_f7_0, hc_f7_1, hc_f7_2, hc_f7_3, hc_p7_3, hc_a8, hc_s8, hc_l8, hc_a9, hc_s9, hc_l9, hc_a10, hc_s10, hc_l10, hc_a11, hc_s11, hc_l11, hc_i12, hc_f12_0, hc_f12_1, hc_f12_2, hc_f12_3, hc_f12_4, hc_f12_5, hc_f12_6, hc_f12_7, hc_p12_7, hc_f12_8, hc_p12_8, hc_f12_9, hc_p12_9, hc_f12_10, hc_p12_10, hc_f12_11, hc_p12_11, hc_i13, hc_f13_0, hc_f13_1, hc_f13_2, hc_f13_3, hc_f13_4, hc_a14, hc_s14, hc_l14, hc_a15, hc_s15, hc_l15, hc_a16, hc_s16, hc_l16, hc_a17, hc_s17, hc_l17, hc_a18, hc_s18, hc_l18, hc_i19, hc_f19_0, hc_f19_1, hc_f19_2, hc_f19_3, hc_f19_4, hc_a20, hc_s20, hc_l20, hc_a21, hc_s21, hc_l21, hc_a22, hc_s22, hc_l22, hc_a23, hc_s23, hc_l23, hc_a24, hc_s24, hc_l24, hc_i25, hc_f25_0, hc_f25_1, hc_f25_2, hc_f25_3, hc_f25_4, hc_a26, hc_s26, hc_l26, hc_a27, hc_s27, hc_l27, hc_a28, hc_s28, hc_l28, hc_a29, hc_s29, hc_l29, hc_a30, hc_s30, hc_l30, hc_a31, hc_s31, hc_l31, hc_i32, hc_f32_0, hc_f32_1, hc_p32_1, hc_f32_2, hc_p32_2, hc_f32_3, hc_a33, hc_s33, hc_l33]
  obtain ⟨n1, n2, n3, n4⟩ := hT.no (by omega) (show L < L + 1 by omega) (by omega)
  have hO : OW (L + 1) (sX s none) A' B := (OW.new n1 n2 n3).a5 hA
  generalize hI2 : am_u (am_u I1 3 (mi_I (sX s none).2.2.2.2)) 6 (nI (L + 1)) = I2 at hS ⊢
  have f : ∀ k, ¬ k = 3 → ¬ k = 6 → I2 k = I1 k := fun k a b => by rw [← hI2, am_un b, am_un a]
  have g6 : I2 6 = nI (L + 1) := by rw [← hI2, am_us]
  refine hQ _ _ _ ⟨hR1.fr (f 0 (by decide) (by decide)) (f 1 (by decide) (by decide)) (f 2 (by decide) (by decide)) (am_un (by decide)) hA, hT.fr (by omega) ((f 4 (by decide) (by decide)).trans e4) ((f 8 (by decide) (by decide)).trans e8) hA, hL, ⟨hS, by rw [g6]; exact hO.1, by rw [g6]; exact hO.2⟩, L + 1, Nat.le_refl _, (f 5 (by decide) (by decide)).trans e5, g6, ?_⟩ ?_
  · intro q
    rw [f 8 (by decide) (by decide), e8] at q
    exact absurd q n4
  · intro k hk
    rw [f k (by omega) (by omega), ← hI1, am_un (by omega), am_un (by omega)]
theorem p_X5_suppose (hC : CK L I J A B s) (hL : L + 1 < 1000000) {g : List Nat} (hg : mg_W g) {ms : Option Nat} (hms : ∀ e, ms = some e → e < 24) (hQ : ∀ I' J' A', CJ (L + 1) I' J' A' B s (s.2.2.1, s.2.2.2.1, g, s.2.2.2.2.2, ms) → Q none (HC I' J' A' B tl)) : K_X5_suppose [.ref 12, .long (lN (mk_pk g)), .int (mi_I ms)] (HC I J A B tl) Q := by
  obtain ⟨hR, hT, h3, O, o1, o2, o3, o4⟩ := hC
  refine ⟨Nat.le_of_ble_eq_true rfl, fun G hG => ?_⟩
  refine hG _ _ _ ?_
  simp only [B_X5_suppose_0, hT.1, am_us, am_un, Nat.reduceEqDiff, not_false_eq_true, ak_c, ak_il, ak_ll, ak_al, ak_is, ak_as, ak_ls, ak_ii, ak_ib, ak_id, ak_lb, ak_lx, ak_lc, ak_iu, ak_i2l, ak_l2i, ak_dup, ak_dup2, ak_pop, ak_if, ak_ic, ak_sw, am_sws, ak_get, ak_puti, ak_putz, ak_putl, ak_puta, ak_iald, ak_lald, ak_iast, ak_last, ak_alen, ak_cs, ak_cv, ak_ri, ak_rz, ak_rl, ak_rv, am_ent, am_sp, am_pu, am_rs, Value.category, am_st1, am_st2, am_clr, List.getElem?_cons_zero, List.getElem?_cons_succ, List.set_cons_zero, List.set_cons_succ, List.length_cons, List.length_nil, Nat.reduceAdd, Nat.reduceLT, Nat.reduceLeDiff, Nat.zero_add, Nat.add_zero, true_and, and_true, or_true, true_or, if_true, if_false, Option.some.injEq, true_implies, false_implies, not_true_eq_false, not_false_eq_true, hc_i0, hc_f0_0, hc_f0_1, hc_f0_2, hc_f0_3, hc_f0_4, hc_f0_5, hc_f0_6, hc_p0_6, hc_i1, hc_f1_0, hc_f1_1, hc_p1_1, hc_a2, hc_s2, hc_l2, hc_i3, hc_f3_0, hc_f3_1, hc_f3_2, hc_f3_3, hc_p3_3, hc_a4, hc_s4, hc_l4, hc_a5, hc_s5, hc_l5, hc_a6, hc_s6, hc_l6, hc_i7, hc_f7_0, hc_f7_1, hc_f7_2, hc_f7_3, hc_p7_3, hc_a8, hc_s8, hc_l8, hc_a9, hc_s9, hc_l9, hc_a10, hc_s10, hc_l10, hc_a11, hc_s11, hc_l11, hc_i12, hc_f12_0, hc_f12_1, hc_f12_2, hc_f12_3, hc_f12_4, hc_f12_5, hc_f12_6, hc_f12_7, hc_p12_7, hc_f12_8, hc_p12_8, hc_f12_9, hc_p12_9, hc_f12_10, hc_p12_10, hc_f12_11, hc_p12_11, hc_i13, hc_f13_0, hc_f13_1, hc_f13_2, hc_f13_3, hc_f13_4, hc_a14, hc_s14, hc_l14, hc_a15, hc_s15, hc_l15, hc_a16, hc_s16, hc_l16, hc_a17, hc_s17, hc_l17, hc_a18, hc_s18, hc_l18, hc_i19, hc_f19_0, hc_f19_1, hc_f19_2, hc_f19_3, hc_f19_4, hc_a20, hc_s20, hc_l20, hc_a21, hc_s21, hc_l21, hc_a22, hc_s22, hc_l22, hc_a23, hc_s23, hc_l23, hc_a24, hc_s24, hc_l24, hc_i25, hc_f25_0, hc_f25_1, hc_f25_2, hc_f25_3, hc_f25_4, hc_a26, hc_s26, hc_l26, hc_a27, hc_s27, hc_l27, hc_a28, hc_s28, hc_l28, hc_a29, hc_s29, hc_l29, hc_a30, hc_s30, hc_l30, hc_a31, hc_s31, hc_l31, hc_i32, hc_f32_0, hc_f32_1, hc_p32_1, hc_f32_2, hc_p32_2, hc_f32_3, hc_a33, hc_s33, hc_l33]
  rw [n_add1]
  generalize hI1 : am_u I 4 (nI (L + 1)) = I1
  have e : ∀ k, ¬ k = 4 → I1 k = I k := fun k hk => by rw [← hI1, am_un hk]
  have e4 : I1 4 = nI (L + 1) := by rw [← hI1, am_us]
  have hR1 : RB I1 J A B s := hR.fr (e 0 (by decide)) (e 1 (by decide)) (e 2 (by decide)) rfl (fun _ _ => rfl)
  refine p_X5_begin (X := (s.2.2.1, s.2.2.2.1, g, s.2.2.2.2.2, ms)) hR1.2.1 hR1.2.2.1 hg hms hR1.2.2.2.2.2 (fun A' hA hS => ?_)
  simp only [am_us, am_un, Nat.reduceEqDiff, not_false_eq_true, ak_c, ak_il, ak_ll, ak_al, ak_is, ak_as, ak_ls, ak_ii, ak_ib, ak_id, ak_lb, ak_lx, ak_lc, ak_iu, ak_i2l, ak_l2i, ak_dup, ak_dup2, ak_pop, ak_if, ak_ic, ak_sw, am_sws, ak_get, ak_puti, ak_putz, ak_putl, ak_puta, ak_iald, ak_lald, ak_iast, ak_last, ak_alen, ak_cs, ak_cv, ak_ri, ak_rz, ak_rl, ak_rv, am_ent, am_sp, am_pu, am_rs, Value.category, am_st1, am_st2, am_clr, List.getElem?_cons_zero, List.getElem?_cons_succ, List.set_cons_zero, List.set_cons_succ, List.length_cons, List.length_nil, Nat.reduceAdd, Nat.reduceLT, Nat.reduceLeDiff, Nat.zero_add, Nat.add_zero, true_and, and_true, or_true, true_or, if_true, if_false, Option.some.injEq, true_implies, false_implies, not_true_eq_false, not_false_eq_true, hc_i0, hc_f0_0, hc_f0_1, hc_f0_2, hc_f0_3, hc_f0_4, hc_f0_5, hc_f0_6, hc_p0_6, hc_i1, hc_f1_0, hc_f1_1, hc_p1_1, hc_a2, hc_s2, hc_l2, hc_i3, hc_f3_0, hc_f3_1, hc_f3_2, hc_f3_3, hc_p3_3, hc_a4, hc_s4, hc_l4, hc_a5, hc_s5, hc_l5, hc_a6, hc_s6, hc_l6, hc_i7, hc_f7_0, hc_f7_1, hc_f7_2, hc_f7_3, hc_p7_3, hc_a8, hc_s8, hc_l8, hc_a9, hc_s9, hc_l9, hc_a10, hc_s10, hc_l10, hc_a11, hc_s11, hc_l11, hc_i12, hc_f12_0, hc_f12_1, hc_f12_2, hc_f12_3, hc_f12_4, hc_f12_5, hc_f12_6, hc_f12_7, hc_p12_7, hc_f12_8, hc_p12_8, hc_f12_9, hc_p12_9, hc_f12_10, hc_p12_10, hc_f12_11, hc_p12_11, hc_i13, hc_f13_0, hc_f13_1, hc_f13_2, hc_f13_3, hc_f13_4, hc_a14, hc_s14, hc_l14, hc_a15, hc_s15, hc_l15, hc_a16, hc_s16, hc_l16, hc_a17, hc_s17, hc_l17, hc_a18, hc_s18, hc_l18, hc_i19, hc_f19_0, hc_f19_1, hc_f19_2, hc_f19_3, hc_f19_4, hc_a20, hc_s20, hc_l20, hc_a21, hc_s21, hc_l21, hc_a22, hc_s22, hc_l22, hc_a23, hc_s23, hc_l23, hc_a24, hc_s24, hc_l24, hc_i25, hc_f25_0, hc_f25_1, hc_f25_2, hc_f25_3, hc_f25_4, hc_a26, hc_s26, hc_l26, hc_a27, hc_s27, hc_l27, hc_a28, hc_s28, hc_l28, hc_a29, hc_s29, hc_l29, hc_a30, hc_s30, hc_l30, hc_a31, hc_s31, hc_l31, hc_i32, hc_f32_0, hc_f32_1, hc_p32_1, hc_f32_2, hc_p32_2, hc_f32_3, hc_a33, hc_s33, hc_l33]
  obtain ⟨n1, n2, n3, n4⟩ := hT.no (by omega) (show L < L + 1 by omega) (by omega)
  have hO : OW (L + 1) (s.2.2.1, s.2.2.2.1, g, s.2.2.2.2.2, ms) A' B := (OW.new n1 n2 n3).a5 hA
  have f : ∀ k, ¬ k = 3 → ¬ k = 6 → am_u (am_u I1 3 (mi_I ms)) 6 (nI (L + 1)) k = I1 k := fun k a b => by rw [am_un b, am_un a]
  have g6 : am_u (am_u I1 3 (mi_I ms)) 6 (nI (L + 1)) 6 = nI (L + 1) := am_us _ _ _
  refine hQ _ _ _ ⟨hR1.fr (f 0 (by decide) (by decide)) (f 1 (by decide) (by decide)) (f 2 (by decide) (by decide)) (am_un (by decide)) hA, hT.fr (by omega) ((f 4 (by decide) (by decide)).trans e4) ((f 8 (by decide) (by decide)).trans (e 8 (by decide))) hA, hL, ⟨hS, by rw [g6]; exact hO.1, by rw [g6]; exact hO.2⟩, g6, O, by omega, ((f 5 (by decide) (by decide)).trans (e 5 (by decide))).trans o2, o3.a5 hA, o4.fr ((f 7 (by decide) (by decide)).trans (e 7 (by decide))) ((f 8 (by decide) (by decide)).trans (e 8 (by decide))) hA⟩
theorem p_X5_supposeNothing (hC : CK L I J A B s) (hQ : ∀ I' J' A', CI L I' J' A' B s → Q none (HC I' J' A' B tl)) : K_X5_supposeNothing [.ref 12, .long (lN (mk_pk s.2.2.2.2.1))] (HC I J A B tl) Q := by
  obtain ⟨hR, hT, h3, O, o1, o2, o3, o4⟩ := hC
  refine ⟨Nat.le_of_ble_eq_true rfl, fun G hG => ?_⟩
  refine hG _ _ _ ?_
  simp only [B_X5_supposeNothing_0, am_us, am_un, Nat.reduceEqDiff, not_false_eq_true, ak_c, ak_il, ak_ll, ak_al, ak_is, ak_as, ak_ls, ak_ii, ak_ib, ak_id, ak_lb, ak_lx, ak_lc, ak_iu, ak_i2l, ak_l2i, ak_dup, ak_dup2, ak_pop, ak_if, ak_ic, ak_sw, am_sws, ak_get, ak_puti, ak_putz, ak_putl, ak_puta, ak_iald, ak_lald, ak_iast, ak_last, ak_alen, ak_cs, ak_cv, ak_ri, ak_rz, ak_rl, ak_rv, am_ent, am_sp, am_pu, am_rs, Value.category, am_st1, am_st2, am_clr, List.getElem?_cons_zero, List.getElem?_cons_succ, List.set_cons_zero, List.set_cons_succ, List.length_cons, List.length_nil, Nat.reduceAdd, Nat.reduceLT, Nat.reduceLeDiff, Nat.zero_add, Nat.add_zero, true_and, and_true, or_true, true_or, if_true, if_false, Option.some.injEq, true_implies, false_implies, not_true_eq_false, not_false_eq_true, hc_i0, hc_f0_0, hc_f0_1, hc_f0_2, hc_f0_3, hc_f0_4, hc_f0_5, hc_f0_6, hc_p0_6, hc_i1, hc_f1_0, hc_f1_1, hc_p1_1, hc_a2, hc_s2, hc_l2, hc_i3, hc_f3_0, hc_f3_1, hc_f3_2, hc_f3_3, hc_p3_3, hc_a4, hc_s4, hc_l4, hc_a5, hc_s5, hc_l5, hc_a6, hc_s6, hc_l6, hc_i7, hc_f7_0, hc_f7_1, hc_f7_2, hc_f7_3, hc_p7_3, hc_a8, hc_s8, hc_l8, hc_a9, hc_s9, hc_l9, hc_a10, hc_s10, hc_l10, hc_a11, hc_s11, hc_l11, hc_i12, hc_f12_0, hc_f12_1, hc_f12_2, hc_f12_3, hc_f12_4, hc_f12_5, hc_f12_6, hc_f12_7, hc_p12_7, hc_f12_8, hc_p12_8, hc_f12_9, hc_p12_9, hc_f12_10, hc_p12_10, hc_f12_11, hc_p12_11, hc_i13, hc_f13_0, hc_f13_1, hc_f13_2, hc_f13_3, hc_f13_4, hc_a14, hc_s14, hc_l14, hc_a15, hc_s15, hc_l15, hc_a16, hc_s16, hc_l16, hc_a17, hc_s17, hc_l17, hc_a18, hc_s18, hc_l18, hc_i19, hc_f19_0, hc_f19_1, hc_f19_2, hc_f19_3, hc_f19_4, hc_a20, hc_s20, hc_l20, hc_a21, hc_s21, hc_l21, hc_a22, hc_s22, hc_l22, hc_a23, hc_s23, hc_l23, hc_a24, hc_s24, hc_l24, hc_i25, hc_f25_0, hc_f25_1, hc_f25_2, hc_f25_3, hc_f25_4, hc_a26, hc_s26, hc_l26, hc_a27, hc_s27, hc_l27, hc_a28, hc_s28, hc_l28, hc_a29, hc_s29, hc_l29, hc_a30, hc_s30, hc_l30, hc_a31, hc_s31, hc_l31, hc_i32, hc_f32_0, hc_f32_1, hc_p32_1, hc_f32_2, hc_p32_2, hc_f32_3, hc_a33, hc_s33, hc_l33]
  refine p_X5_begin (X := sX s none) hR.2.1 hR.2.2.1 hR.2.2.2.1 (fun e h => by cases h) hR.2.2.2.2.2 (fun A' hA hS => ?_)
  simp only [am_us, am_un, Nat.reduceEqDiff, not_false_eq_true, ak_c, ak_il, ak_ll, ak_al, ak_is, ak_as, ak_ls, ak_ii, ak_ib, ak_id, ak_lb, ak_lx, ak_lc, ak_iu, ak_i2l, ak_l2i, ak_dup, ak_dup2, ak_pop, ak_if, ak_ic, ak_sw, am_sws, ak_get, ak_puti, ak_putz, ak_putl, ak_puta, ak_iald, ak_lald, ak_iast, ak_last, ak_alen, ak_cs, ak_cv, ak_ri, ak_rz, ak_rl, ak_rv, am_ent, am_sp, am_pu, am_rs, Value.category, am_st1, am_st2, am_clr, List.getElem?_cons_zero, List.getElem?_cons_succ, List.set_cons_zero, List.set_cons_succ, List.length_cons, List.length_nil, Nat.reduceAdd, Nat.reduceLT, Nat.reduceLeDiff, Nat.zero_add, Nat.add_zero, true_and, and_true, or_true, true_or, if_true, if_false, Option.some.injEq, true_implies, false_implies, not_true_eq_false, not_false_eq_true, hc_i0, hc_f0_0, hc_f0_1, hc_f0_2, hc_f0_3, hc_f0_4, hc_f0_5, hc_f0_6, hc_p0_6, hc_i1, hc_f1_0, hc_f1_1, hc_p1_1, hc_a2, hc_s2, hc_l2, hc_i3, hc_f3_0, hc_f3_1, hc_f3_2, hc_f3_3, hc_p3_3, hc_a4, hc_s4, hc_l4, hc_a5, hc_s5, hc_l5, hc_a6, hc_s6, hc_l6, hc_i7, hc_f7_0, hc_f7_1, hc_f7_2, hc_f7_3, hc_p7_3, hc_a8, hc_s8, hc_l8, hc_a9, hc_s9, hc_l9, hc_a10, hc_s10, hc_l10, hc_a11, hc_s11, hc_l11, hc_i12, hc_f12_0, hc_f12_1, hc_f12_2, hc_f12_3, hc_f12_4, hc_f12_5, hc_f12_6, hc_f12_7, hc_p12_7, hc_f12_8, hc_p12_8, hc_f12_9, hc_p12_9, hc_f12_10, hc_p12_10, hc_f12_11, hc_p12_11, hc_i13, hc_f13_0, hc_f13_1, hc_f13_2, hc_f13_3, hc_f13_4, hc_a14, hc_s14, hc_l14, hc_a15, hc_s15, hc_l15, hc_a16, hc_s16, hc_l16, hc_a17, hc_s17, hc_l17, hc_a18, hc_s18, hc_l18, hc_i19, hc_f19_0, hc_f19_1, hc_f19_2, hc_f19_3, hc_f19_4, hc_a20, hc_s20, hc_l20, hc_a21, hc_s21, hc_l21, hc_a22, hc_s22, hc_l22, hc_a23, hc_s23, hc_l23, hc_a24, hc_s24, hc_l24, hc_i25, hc_f25_0, hc_f25_1, hc_f25_2, hc_f25_3, hc_f25_4, hc_a26, hc_s26, hc_l26, hc_a27, hc_s27, hc_l27, hc_a28, hc_s28, hc_l28, hc_a29, hc_s29, hc_l29, hc_a30, hc_s30, hc_l30, hc_a31, hc_s31, hc_l31, hc_i32, hc_f32_0, hc_f32_1, hc_p32_1, hc_f32_2, hc_p32_2, hc_f32_3, hc_a33, hc_s33, hc_l33]
  have hO := o3.a5 hA
  generalize hI2 : am_u (am_u I 3 (mi_I (sX s none).2.2.2.2)) 6 (I 5) = I2 at hS ⊢
  have f : ∀ k, ¬ k = 3 → ¬ k = 6 → I2 k = I k := fun k a b => by rw [← hI2, am_un b, am_un a]
  have g6 : I2 6 = nI O := by rw [← hI2, am_us, o2]
  refine hQ _ _ _ ⟨hR.fr (f 0 (by decide) (by decide)) (f 1 (by decide) (by decide)) (f 2 (by decide) (by decide)) (am_un (by decide)) hA, hT.fr (Nat.le_refl _) ((f 4 (by decide) (by decide)).trans hT.1) (f 8 (by decide) (by decide)) hA, h3, ⟨hS, by rw [g6]; exact hO.1, by rw [g6]; exact hO.2⟩, O, by omega, (f 5 (by decide) (by decide)).trans o2, g6, o4.fr (f 7 (by decide) (by decide)) (f 8 (by decide) (by decide)) hA⟩
end ST
