/-! the line: its length -/
def ly (X : MX) : Prop := lx X ∧ (∀ w, (X.2.1.getD w []).length ≤ 7) ∧ (∀ i j, i ≤ j → j ≤ X.2.1.length → (lq_w X.2.1 i j).length ≤ 7 * (j - i)) ∧ ∀ e, ((X.1.map (fun x => x.2.1)).getD e []).length ≤ 8
section LM3
variable {X : MX} {P : Nat → Nat → Nat → List Nat} {i j p : Nat}
theorem lq_s_len (w : List Nat) : (lq_s w).length = w.length := by unfold lq_s; rw [List.length_map]
theorem LLn_eq (hx : lx X) (hr : rg X i j p) (h : ¬ (MP X i j p).1 = 0) {e hd : Nat} (hf : fu X i j p e hd) (hh : hd < 512) : LLn X i j p = ln_U X (LLn X) i e hd ++ (if e < j then 43 :: LLn X e j (pt_m p hd) else []) := by
  have l6 := hx.2.1
  have := hr.2.1
  unfold LLn
  rw [ln_P_st hx 7 i j p hr (by omega) h]
  exact ln_P_fu hf hh
theorem ln_U_len (hy : ly X) (hr : rg X i j p) (u : uc X (MP X) i j p (MU X i j p)) (h : ∀ a b q, rg X a b q → b - a < j - i → ¬ (MP X a b q).1 = 0 → (P a b q).length + 1 ≤ 9 * (b - a)) : (ln_U X P i j p).length + 1 ≤ 9 * (j - i) := by
  obtain ⟨hx, y1, y2, y3⟩ := hy
  have l6 := hx.2.1
  have hij := hr.1
  have hj := hr.2.1
  have hsz := pt_sz_le p
  unfold ln_U
  generalize MU X i j p = q at u ⊢
  have hin : ∀ a b s, a ≤ b → b ≤ X.2.1.length → b - a + 1 = j - i → 2 ≤ j - i → (so_ch s :: 40 :: (lq_w X.2.1 a b ++ [41])).length + 1 ≤ 9 * (j - i) := by
    intro a b s hab hb hw h2
    have := y2 a b hab hb
    simp only [List.length_cons, List.length_append, List.length_nil]
    omega
  rcases u with ⟨h1, ⟨c, -⟩ | ⟨hs, c, -⟩⟩ | ⟨h1, -, ⟨h2, -, c⟩ | ⟨h2, -, c⟩⟩ | ⟨h1, -, c | c⟩ | ⟨s, k, fr, to, hs, h1, h2, k1, k2, k3, h3, h4, -, c⟩ | ⟨h1, -, c | c⟩ | ⟨h1, -, s, hs, c | ⟨e, he, c⟩⟩
  · rw [c]
    show (lq_s (mx_sp X p)).length + 1 ≤ _
    rw [lq_s_len, mx_sp_len]
    omega
  · rw [c]
    show (39 :: lq_s (mx_sp X p)).length + 1 ≤ _
    have := y1 i
    rw [List.length_cons, lq_s_len, ← hs]
    omega
  · rw [c]
    show (so_ch 2 :: 40 :: (P (i + 1) j (p ^^^ 256) ++ [41])).length + 1 ≤ _
    have := h (i + 1) j _ (hr.rv (by omega) (Nat.le_refl _)) (by omega) h2
    simp only [List.length_cons, List.length_append, List.length_nil]
    omega
  · rw [c]
    show (so_ch 2 :: 40 :: (P i (j - 1) (p ^^^ 256) ++ [41])).length + 1 ≤ _
    have := h i (j - 1) _ (hr.rv (by omega) (by omega)) (by omega) h2
    simp only [List.length_cons, List.length_append, List.length_nil]
    omega
  · rw [c]; exact hin (i + 1) j 3 (by omega) hj (by omega) h1
  · rw [c]; exact hin i (j - 1) 3 (by omega) (by omega) (by omega) h1
  · have hh := (pt_s_pos p fr to).2.2
    rw [c]
    rcases hs with rfl | rfl
    · rw [if_pos rfl] at h3 h4
      have a1 := h i k _ (hr.m h1 (by omega) (by omega) k1 (by omega)) (by omega) h3
      have a2 := h (k + 1) j _ (hr.s h2 (Nat.le_refl _) k2 (by omega)) (by omega) h4
      rw [ln_u4 hh (by omega)]
      simp only [List.length_cons, List.length_append, List.length_nil]
      omega
    · rw [if_neg (by decide)] at h3 h4
      have a1 := h i k _ (hr.s h1 (by omega) k2 (by omega)) (by omega) h3
      have a2 := h (k + 1) j _ (hr.m h2 (Nat.le_refl _) (by omega) k1 (by omega)) (by omega) h4
      rw [ln_u5 hh (by omega)]
      simp only [List.length_cons, List.length_append, List.length_nil]
      omega
  · rw [c]; exact hin (i + 1) j 6 (by omega) hj (by omega) h1
  · rw [c]; exact hin (i + 1) j 9 (by omega) hj (by omega) h1
  · rw [c, ln_u7 hs]
    have := y1 (j - 1)
    simp only [List.length_cons, List.length_append, List.length_nil, lq_s_len]
    omega
  · rw [c, ln_u8 hs (by have := hx.2.2; omega)]
    have := y3 e
    simp only [List.length_cons, List.length_append, List.length_nil, lq_s_len]
    omega
theorem LLn_len (hy : ly X) : ∀ w i j p, j - i ≤ w → rg X i j p → ¬ (MP X i j p).1 = 0 → (LLn X i j p).length + 1 ≤ 9 * (j - i)
  | 0, i, j, p, hw, hr, h => absurd hw (by have := hr.1; omega)
  | w + 1, i, j, p, hw, hr, h => by
    obtain ⟨e, hd, hf, hej, h512⟩ := fu_of hy.1 hr h
    rw [LLn_eq hy.1 hr h hf h512]
    obtain ⟨-, h1, h2, h3, h4⟩ := hf
    have l6 := hy.1.2.1
    have hj := hr.2.1
    have hu := ln_U_len (P := LLn X) hy h2 (MU_pick hy.1.1 h1 (by omega) h3).1 (fun a b q ha hb hq => LLn_len hy w a b q (by omega) ha hq)
    rw [List.length_append]
    split
    · next hlt =>
      rcases h4 with h4 | ⟨-, h5, h6⟩
      · omega
      · have := LLn_len hy w e j _ (by omega) h5 h6
        rw [List.length_cons]
        omega
    · rw [List.length_nil]
      omega
theorem ly_of {I : Nat → Int32} {J : Nat → Int64} {A : Nat → Nat → Int32} {B : Nat → Nat → Int64} (hS : rc_S I J A B X) : ly X := by
  refine ⟨⟨fun s hs => hS.w9 hs, hS.l6, hS.1.1.1⟩, hS.ok.2, fun i j hij hj => ?_, fun e => ?_⟩
  · rw [lq_w_len hij]
    have key : ∀ n, i + n ≤ X.2.1.length → ml_s X.2.1 (i + n) - ml_s X.2.1 i ≤ 7 * n := by
      intro n
      induction n with
      | zero => intro _; simp
      | succ n ih =>
        intro hn
        have hx : X.2.1[i + n]? = some (X.2.1[i + n]'(by omega)) := List.getElem?_eq_getElem (by omega)
        have h7 := (hS.2.1.1.2.2 _ (List.mem_of_getElem? hx)).2.2
        have h1 := ml_s_succ hx
        have h2 := ih (by omega)
        rw [show i + (n + 1) = i + n + 1 by omega]
        omega
    have := key (j - i) (by omega)
    rwa [show i + (j - i) = j by omega] at this
  · rw [List.getD_eq_getElem?_getD, List.getElem?_map]
    cases h : X.1[e]? with
    | none => simp
    | some x => exact (hS.1.1.2.1 x (List.mem_of_getElem? h)).2.2.2.1
end LM3
