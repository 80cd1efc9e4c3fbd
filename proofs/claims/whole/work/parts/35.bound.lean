/-! bounds of the accumulators -/
def ac_t (l : List AC) : Nat := (l.map (fun q => q.1)).sum
theorem ac_t_app (l r : List AC) : ac_t (l ++ r) = ac_t l + ac_t r := by simp [ac_t]
theorem ac_t_nil : ac_t [] = 0 := rfl
theorem ac_t_cons (q : AC) (l : List AC) : ac_t (q :: l) = q.1 + ac_t l := by simp [ac_t]
theorem ac_ad_1 (a q : AC) : (ac_ad a q).1 = a.1 + q.1 := by
  unfold ac_ad
  split
  · next h => rw [h]; rfl
  · split
    · rfl
    · split <;> rfl
theorem ac_fold_1 : ∀ (l : List AC) (a : AC), (l.foldl ac_ad a).1 = a.1 + ac_t l
  | [], a => by simp [ac_t]
  | q :: l, a => by
    rw [List.foldl_cons, ac_fold_1 l, ac_ad_1, ac_t_cons]
    omega
theorem ac_ad_2 (a q : AC) (h : a.2.1 ≤ 1000000) : (ac_ad a q).2.1 ≤ 1000000 := by
  unfold ac_ad
  split
  · exact h
  · split
    · simp only; omega
    · split <;> exact h
theorem ac_fold_2 : ∀ (l : List AC) (a : AC), a.2.1 ≤ 1000000 → (l.foldl ac_ad a).2.1 ≤ 1000000
  | [], a, h => h
  | q :: l, a, h => by rw [List.foldl_cons]; exact ac_fold_2 l _ (ac_ad_2 a q h)
theorem ac_t_flat {α : Type} {c : Nat} {f : α → List AC} : ∀ (l : List α), (∀ x ∈ l, ac_t (f x) ≤ c) → ac_t (l.flatMap f) ≤ l.length * c
  | [], _ => by simp [ac_t]
  | a :: l, h => by
    rw [List.flatMap_cons, ac_t_app, List.length_cons, Nat.succ_mul]
    have h1 := ac_t_flat l (fun x hx => h x (List.mem_cons_of_mem _ hx))
    have h2 := h a List.mem_cons_self
    omega
theorem ac_t_map {α : Type} {c : Nat} {f : α → AC} : ∀ (l : List α), (∀ x ∈ l, (f x).1 ≤ c) → ac_t (l.map f) ≤ l.length * c
  | [], _ => by simp [ac_t]
  | a :: l, h => by
    rw [List.map_cons, ac_t_cons, List.length_cons, Nat.succ_mul]
    have h1 := ac_t_map l (fun x hx => h x (List.mem_cons_of_mem _ hx))
    have h2 := h a List.mem_cons_self
    omega
def mb (w : Nat) : Nat := 4 * 1000 ^ (w - 1)
theorem mb_mul {a c : Nat} (ha : 1 ≤ a) (hc : 1 ≤ c) : 250 * (mb a * mb c) = mb (a + c) := by
  unfold mb
  have e : a + c - 1 = (a - 1) + (c - 1) + 1 := by omega
  rw [e, Nat.pow_succ, Nat.pow_add]
  generalize 1000 ^ (a - 1) = x
  generalize 1000 ^ (c - 1) = y
  have : 4 * x * (4 * y) = 16 * (x * y) := by rw [Nat.mul_mul_mul_comm]
  rw [this]
  omega
theorem mb_s {w : Nat} (h : 2 ≤ w) : mb w = 1000 * mb (w - 1) := by
  unfold mb
  have e : w - 1 = (w - 1 - 1) + 1 := by omega
  rw [e, Nat.pow_succ, Nat.add_sub_cancel]
  omega
theorem mb_4 (w : Nat) : 4 ≤ mb w := by
  unfold mb
  have := Nat.pow_pos (n := w - 1) (show 0 < 1000 by decide)
  omega
theorem mb_6 : ∀ w, w ≤ 6 → mb w ≤ 4000000000000000 := by decide +kernel
def mx_ok (X : MX) : Prop := X.1.length ≤ 24 ∧ ∀ w, (X.2.1.getD w []).length ≤ 7
theorem ac_if {c : Bool} {l : List AC} {n : Nat} (h : ac_t l ≤ n) : ac_t (if c then l else []) ≤ n := by
  cases c
  · exact Nat.zero_le _
  · exact h
theorem mu_us_bd {X : MX} (hX : mx_ok X) {P : Nat → Nat → Nat → AC} {i j : Nat} (hij : i < j) (h6 : j - i ≤ 6) (hP : ∀ a b q, a < b → b - a < j - i → (P a b q).1 ≤ mb (b - a)) (p : Nat) : 2 * ac_t (mu_us X P i j p) ≤ mb (j - i) := by
  have hsz := pt_sz_le p
  unfold mu_us
  by_cases h1 : j - i = 1
  · rw [if_pos h1]
    unfold mu_1
    rw [ac_t_app]
    have a1 : ac_t (if mx_sy X (X.2.1.getD i []) (mx_sp X p) then [((1, X.2.2.2.1 0, 1, 0) : AC)] else []) ≤ 1 := ac_if (by simp [ac_t])
    have a2 : ac_t (if X.2.1.getD i [] = mx_sp X p then [((1, X.2.2.2.1 1, 1, 8192) : AC)] else []) ≤ 1 := by split <;> simp [ac_t]
    have := mb_4 (j - i)
    omega
  · rw [if_neg h1]
    have hs := mb_s (w := j - i) (by omega)
    have h4 := mb_4 (j - i - 1)
    have hR : ac_t (mu_R X P i j p) ≤ 2 * mb (j - i - 1) := by
      unfold mu_R
      split
      · rw [ac_t_app]
        have a1 := hP (i + 1) j (p ^^^ 256) (by omega) (by omega)
        have a2 := hP i (j - 1) (p ^^^ 256) (by omega) (by omega)
        rw [show j - (i + 1) = j - i - 1 by omega] at a1
        rw [show j - 1 - i = j - i - 1 by omega] at a2
        have b1 : ac_t (if mx_mk X i 2 then [(((P (i + 1) j (p ^^^ 256)).1, X.2.2.2.1 2 + (P (i + 1) j (p ^^^ 256)).2.1, (P (i + 1) j (p ^^^ 256)).2.2.1, 16384) : AC)] else []) ≤ mb (j - i - 1) := ac_if (by simpa [ac_t] using a1)
        have b2 : ac_t (if mx_mk X (j - 1) 2 then [(((P i (j - 1) (p ^^^ 256)).1, X.2.2.2.1 2 + (P i (j - 1) (p ^^^ 256)).2.1, (P i (j - 1) (p ^^^ 256)).2.2.1, 16385) : AC)] else []) ≤ mb (j - i - 1) := ac_if (by simpa [ac_t] using a2)
        omega
      · exact Nat.zero_le _
    have hA : ac_t (mu_A X i j p) ≤ 2 := by
      unfold mu_A
      rw [ac_t_app]
      have b1 : ac_t (if mx_mk X i 3 && mu_ana (mu_fl X.2.1 (i + 1) j) (mx_sp X p) then [((1, X.2.2.2.1 3, 1, 24576) : AC)] else []) ≤ 1 := ac_if (by simp [ac_t])
      have b2 : ac_t (if mx_mk X (j - 1) 3 && mu_ana (mu_fl X.2.1 i (j - 1)) (mx_sp X p) then [((1, X.2.2.2.1 3, 1, 24577) : AC)] else []) ≤ 1 := ac_if (by simp [ac_t])
      omega
    have hC : ∀ s, ac_t (mu_C X P s i j p) ≤ mb (j - i - 1) := by
      intro s
      unfold mu_C
      by_cases h2 : j - i = 2
      · rw [show j - 2 - i = 0 by omega]
        simp [ac_t]
      · have hk : ∀ k, k ∈ List.range (j - 2 - i) → ac_t (if mx_mk X (i + 1 + k) s then mu_Ck X P s i j p (i + 1 + k) else []) ≤ 36 * (mb (j - i - 1) / 250) := by
          intro k hk
          have hk := List.mem_range.mp hk
          refine ac_if ?_
          have hp : ∀ f t, (mu_Cf X P s i j p (i + 1 + k) f t).1 ≤ mb (j - i - 1) / 250 := by
            intro f t
            have e1 : ∀ q, (P i (i + 1 + k) q).1 ≤ mb (k + 1) := fun q => by
              have := hP i (i + 1 + k) q (by omega) (by omega)
              rwa [show i + 1 + k - i = k + 1 by omega] at this
            have e2 : ∀ q, (P (i + 1 + k + 1) j q).1 ≤ mb (j - i - 1 - (k + 1)) := fun q => by
              have := hP (i + 1 + k + 1) j q (by omega) (by omega)
              rwa [show j - (i + 1 + k + 1) = j - i - 1 - (k + 1) by omega] at this
            have e3 := mb_mul (a := k + 1) (c := j - i - 1 - (k + 1)) (by omega) (by omega)
            rw [show k + 1 + (j - i - 1 - (k + 1)) = j - i - 1 by omega] at e3
            unfold mu_Cf
            simp only
            have e4 := Nat.mul_le_mul (e1 (if s = 4 then pt_m p (pt_s p f t) else pt_s p f t)) (e2 (if s = 4 then pt_s p f t else pt_m p (pt_s p f t)))
            omega
          unfold mu_Ck
          have b1 := ac_t_flat (c := 6 * (mb (j - i - 1) / 250)) (f := fun f => (List.range (pt_sz p - (f + 2))).map (fun t => mu_Cf X P s i j p (i + 1 + k) (f + 1) (f + 2 + t))) (List.range (pt_sz p - 2)) (fun f _ => by
            have b2 := ac_t_map (c := mb (j - i - 1) / 250) (f := fun t => mu_Cf X P s i j p (i + 1 + k) (f + 1) (f + 2 + t)) (List.range (pt_sz p - (f + 2))) (fun t _ => hp _ _)
            rw [List.length_range] at b2
            exact Nat.le_trans b2 (Nat.mul_le_mul_right _ (by omega)))
          rw [List.length_range] at b1
          have b3 := Nat.mul_le_mul_right (6 * (mb (j - i - 1) / 250)) (show pt_sz p - 2 ≤ 6 by omega)
          omega
        have b1 := ac_t_flat _ hk
        rw [List.length_range] at b1
        have b3 := Nat.mul_le_mul_right (36 * (mb (j - i - 1) / 250)) (show j - 2 - i ≤ 4 by omega)
        omega
    have hH : ac_t (mu_H X i j p) ≤ 6 := by
      unfold mu_H
      split
      · rw [ac_t_cons, ac_t_nil]
        have := List.length_filter_le (fun k => mu_hid X.2.1 (i + 1) j (mx_sp X p) (ml_s X.2.1 (i + 1) + 1 + k)) (List.range ((X.2.1.getD (i + 1) []).length - 1))
        rw [List.length_range] at this
        have h7 := hX.2 (i + 1)
        have e : (mu_hids X.2.1 (i + 1) j (mx_sp X p)).length ≤ (X.2.1.getD (i + 1) []).length - 1 := this
        simp only
        omega
      · exact Nat.zero_le _
    have hT : ∀ s, ac_t (mu_T X s i j p) ≤ 25 := by
      intro s
      unfold mu_T
      split
      · rw [ac_t_app]
        have b1 : ac_t (if mu_short s (X.2.1.getD (i + 1) []) = mx_sp X p then [((1, X.2.2.2.1 s + X.2.2.2.1 1, 1, s * 8192) : AC)] else []) ≤ 1 := by split <;> simp [ac_t]
        have b2 := ac_t_flat (c := 1) (f := mu_Te X s i p) (List.range X.1.length) (fun e _ => by
          unfold mu_Te
          split
          · split <;> simp [ac_t]
          · exact Nat.zero_le _)
        rw [List.length_range] at b2
        have := hX.1
        omega
      · exact Nat.zero_le _
    have hI : ac_t (mu_I X i j p) ≤ 1 := by
      unfold mu_I
      split <;> simp [ac_t]
    have c4 := hC 4
    have c5 := hC 5
    have t7 := hT 7
    have t8 := hT 8
    rw [ac_t_app, ac_t_app, ac_t_app, ac_t_app, ac_t_app, ac_t_app, ac_t_app]
    omega
theorem mx_PP_bd {X : MX} (hX : mx_ok X) : ∀ d i j p, i < j → j - i ≤ 6 → (mx_PP X d i j p).1 ≤ mb (j - i)
  | 0, i, j, p, h1, h2 => Nat.zero_le _
  | d + 1, i, j, p, h1, h2 => by
    show ((mu_ps X (mx_U X (mx_PP X d)) (mx_PP X d) i j p).foldl ac_ad ac_0).1 ≤ _
    have hU : ∀ b q, i < b → b ≤ j → 2 * (mx_U X (mx_PP X d) i b q).1 ≤ mb (b - i) := by
      intro b q hb1 hb2
      unfold mx_U
      rw [ac_fold_1]
      show 2 * (0 + _) ≤ _
      rw [Nat.zero_add]
      exact mu_us_bd hX hb1 (by omega) (fun a c r ha hc => mx_PP_bd hX d a c r ha (by omega)) q
    have hsz := pt_sz_le p
    rw [ac_fold_1]
    show 0 + _ ≤ _
    rw [Nat.zero_add]
    unfold mu_ps
    rw [ac_t_app, ac_t_cons, ac_t_nil]
    have u1 := hU j p h1 (Nat.le_refl j)
    have b1 : ac_t ((List.range (j - (i + 1))).flatMap (fun e => mu_Pe X (mx_U X (mx_PP X d)) (mx_PP X d) i (i + 1 + e) j p)) ≤ (j - (i + 1)) * (7 * (mb (j - i) / 250)) := by
      have := ac_t_flat (c := 7 * (mb (j - i) / 250)) (f := fun e => mu_Pe X (mx_U X (mx_PP X d)) (mx_PP X d) i (i + 1 + e) j p) (List.range (j - (i + 1))) (fun e he => by
        have he := List.mem_range.mp he
        unfold mu_Pe
        have b2 := ac_t_map (c := mb (j - i) / 250) (f := fun t => mu_Pt X (mx_U X (mx_PP X d)) (mx_PP X d) i (i + 1 + e) j p (t + 1)) (List.range (pt_sz p - 1)) (fun t _ => by
          unfold mu_Pt
          simp only
          have e1 := hU (i + 1 + e) (pt_s p 0 (t + 1)) (by omega) (by omega)
          have e2 := mx_PP_bd hX d (i + 1 + e) j (pt_s p (t + 1) 8) (by omega) (by omega)
          have e3 := mb_mul (a := i + 1 + e - i) (c := j - (i + 1 + e)) (by omega) (by omega)
          rw [show i + 1 + e - i + (j - (i + 1 + e)) = j - i by omega] at e3
          have e4 := Nat.mul_le_mul (show (mx_U X (mx_PP X d) i (i + 1 + e) (pt_s p 0 (t + 1))).1 ≤ mb (i + 1 + e - i) by omega) e2
          omega)
        rw [List.length_range] at b2
        exact Nat.le_trans b2 (Nat.mul_le_mul_right _ (by omega)))
      rw [List.length_range] at this
      exact this
    have b3 := Nat.mul_le_mul_right (7 * (mb (j - i) / 250)) (show j - (i + 1) ≤ 5 by omega)
    simp only
    omega
theorem MP_bd {X : MX} (hX : mx_ok X) {i j : Nat} (p : Nat) (h1 : i < j) (h2 : j - i ≤ 6) : (MP X i j p).1 ≤ mb (j - i) := mx_PP_bd hX 7 i j p h1 h2
theorem MU_bd {X : MX} (hX : mx_ok X) {i j : Nat} (p : Nat) (h1 : i < j) (h2 : j - i ≤ 6) : (MU X i j p).1 ≤ mb (j - i) := by
  unfold MU mx_U
  rw [ac_fold_1]
  show 0 + _ ≤ _
  have := mu_us_bd hX h1 h2 (P := MP X) (fun a c r ha hc => MP_bd hX r ha (by omega)) p
  omega
theorem MP_c (X : MX) (i j p : Nat) : (MP X i j p).2.1 ≤ 1000000 := ac_fold_2 _ _ (Nat.le_refl _)
theorem MU_c (X : MX) (i j p : Nat) : (MU X i j p).2.1 ≤ 1000000 := ac_fold_2 _ _ (Nat.le_refl _)
