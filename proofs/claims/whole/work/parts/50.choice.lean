/-! which choice stands in an accumulator -/
theorem ac_pick : ∀ (l : List AC) (a : AC), ((l.foldl ac_ad a).2.1 = a.2.1 ∧ (l.foldl ac_ad a).2.2.2 = a.2.2.2 ∧ ∀ q ∈ l, ¬ q.1 = 0 → a.2.1 ≤ q.2.1) ∨ ∃ q ∈ l, ¬ q.1 = 0 ∧ (l.foldl ac_ad a).2.1 = q.2.1 ∧ (l.foldl ac_ad a).2.2.2 = q.2.2.2
  | [], a => Or.inl ⟨rfl, rfl, fun q hq => by cases hq⟩
  | q :: l, a => by
    rw [List.foldl_cons]
    rcases ac_pick l (ac_ad a q) with ⟨h1, h2, h3⟩ | ⟨x, hx, h⟩
    · by_cases q0 : q.1 = 0
      · have e : ac_ad a q = a := if_pos q0
        rw [e] at h1 h2 h3 ⊢
        exact Or.inl ⟨h1, h2, fun x hx hx0 => by
          rcases List.mem_cons.mp hx with rfl | hx
          · exact absurd q0 hx0
          · exact h3 x hx hx0⟩
      · by_cases c1 : q.2.1 < a.2.1
        · have e : ac_ad a q = (a.1 + q.1, q.2.1, q.2.2.1, q.2.2.2) := by unfold ac_ad; rw [if_neg q0, if_pos c1]
          rw [e] at h1 h2 h3 ⊢
          exact Or.inr ⟨q, List.mem_cons_self, q0, h1, h2⟩
        · have e : (ac_ad a q).2.1 = a.2.1 ∧ (ac_ad a q).2.2.2 = a.2.2.2 := by
            unfold ac_ad
            rw [if_neg q0, if_neg c1]
            split <;> exact ⟨rfl, rfl⟩
          rw [e.1] at h1 h3
          rw [e.2] at h2
          exact Or.inl ⟨h1, h2, fun x hx hx0 => by
            rcases List.mem_cons.mp hx with rfl | hx
            · omega
            · exact h3 x hx hx0⟩
    · exact Or.inr ⟨x, List.mem_cons_of_mem _ hx, h⟩
theorem ac_t_ne {l : List AC} (h : ¬ ac_t l = 0) : ∃ q ∈ l, ¬ q.1 = 0 := by
  induction l with
  | nil => exact absurd rfl h
  | cons q l ih =>
    by_cases h0 : q.1 = 0
    · rw [ac_t_cons, h0, Nat.zero_add] at h
      obtain ⟨x, hx, h2⟩ := ih h
      exact ⟨x, List.mem_cons_of_mem _ hx, h2⟩
    · exact ⟨q, List.mem_cons_self, h0⟩
theorem ac_pick0 {l : List AC} (hc : ∀ q ∈ l, ¬ q.1 = 0 → q.2.1 < 1000000) (h : ¬ (l.foldl ac_ad ac_0).1 = 0) : ∃ q ∈ l, ¬ q.1 = 0 ∧ (l.foldl ac_ad ac_0).2.1 = q.2.1 ∧ (l.foldl ac_ad ac_0).2.2.2 = q.2.2.2 := by
  rcases ac_pick l ac_0 with ⟨-, -, h3⟩ | h4
  · exfalso
    rw [ac_fold_1] at h
    obtain ⟨q, hq, q0⟩ := ac_t_ne (l := l) (fun z => h (by rw [z]; rfl))
    have := h3 q hq q0
    have := hc q hq q0
    have e : ac_0.2.1 = 1000000 := rfl
    omega
  · exact h4
/-- what a unit's choice can be -/
def uc (X : MX) (P : Nat → Nat → Nat → AC) (i j p : Nat) (q : AC) : Prop :=
  (j - i = 1 ∧ ((q.2.2.2 = 0 ∧ q.2.1 ≤ 9) ∨ (X.2.1.getD i [] = mx_sp X p ∧ q.2.2.2 = 8192 ∧ q.2.1 ≤ 9))) ∨
  (2 ≤ j - i ∧ 2 ≤ pt_sz p ∧ ((¬ (P (i + 1) j (p ^^^ 256)).1 = 0 ∧ q.2.1 ≤ 9 + (P (i + 1) j (p ^^^ 256)).2.1 ∧ q.2.2.2 = 16384) ∨ (¬ (P i (j - 1) (p ^^^ 256)).1 = 0 ∧ q.2.1 ≤ 9 + (P i (j - 1) (p ^^^ 256)).2.1 ∧ q.2.2.2 = 16385))) ∨
  (2 ≤ j - i ∧ q.2.1 ≤ 9 ∧ (q.2.2.2 = 24576 ∨ q.2.2.2 = 24577)) ∨
  (∃ s k fr to, (s = 4 ∨ s = 5) ∧ i < k ∧ k + 1 < j ∧ 1 ≤ fr ∧ fr < to ∧ to < pt_sz p ∧ ¬ (P i k (if s = 4 then pt_m p (pt_s p fr to) else pt_s p fr to)).1 = 0 ∧ ¬ (P (k + 1) j (if s = 4 then pt_s p fr to else pt_m p (pt_s p fr to))).1 = 0 ∧ q.2.1 ≤ 9 + (P i k (if s = 4 then pt_m p (pt_s p fr to) else pt_s p fr to)).2.1 + (P (k + 1) j (if s = 4 then pt_s p fr to else pt_m p (pt_s p fr to))).2.1 ∧ q.2.2.2 = s * 8192 + k * 512 + pt_s p fr to) ∨
  (2 ≤ j - i ∧ q.2.1 ≤ 9 ∧ (q.2.2.2 = 49152 ∨ q.2.2.2 = 73728)) ∨
  (j - i = 2 ∧ q.2.1 ≤ 18 ∧ ∃ s, (s = 7 ∨ s = 8) ∧ (q.2.2.2 = s * 8192 ∨ ∃ e, e < X.1.length ∧ q.2.2.2 = s * 8192 + (e + 1)))
theorem mem_if {α : Type} {c : Prop} [Decidable c] {l : List α} {q : α} (h : q ∈ (if c then l else [])) : c ∧ q ∈ l := by
  split at h
  · next hc => exact ⟨hc, h⟩
  · cases h
theorem mu_us_ch {X : MX} (hw : ∀ s, s < 11 → X.2.2.2.1 s ≤ 9) {P : Nat → Nat → Nat → AC} {i j p : Nat} (hij : i < j) {q : AC} (hq : q ∈ mu_us X P i j p) (q0 : ¬ q.1 = 0) : uc X P i j p q := by
  have w0 := hw 0 (by decide)
  have w1 := hw 1 (by decide)
  unfold mu_us at hq
  split at hq
  · next h1 =>
    refine Or.inl ⟨h1, ?_⟩
    rcases List.mem_append.mp hq with hq | hq
    · obtain ⟨-, hq⟩ := mem_if hq
      rw [List.mem_singleton.mp hq]
      exact Or.inl ⟨rfl, w0⟩
    · obtain ⟨hc, hq⟩ := mem_if hq
      rw [List.mem_singleton.mp hq]
      exact Or.inr ⟨hc, rfl, w1⟩
  · next h1 =>
    have hC : ∀ s, (s = 4 ∨ s = 5) → q ∈ mu_C X P s i j p → uc X P i j p q := by
      intro s hs hq
      obtain ⟨k, hk, hq⟩ := List.mem_flatMap.mp hq
      have hk := List.mem_range.mp hk
      obtain ⟨-, hq⟩ := mem_if hq
      obtain ⟨f, hf, hq⟩ := List.mem_flatMap.mp hq
      have hf := List.mem_range.mp hf
      obtain ⟨t, ht, rfl⟩ := List.mem_map.mp hq
      have ht := List.mem_range.mp ht
      have q1 : ¬ (P i (i + 1 + k) (if s = 4 then pt_m p (pt_s p (f + 1) (f + 2 + t)) else pt_s p (f + 1) (f + 2 + t))).1 * (P (i + 1 + k + 1) j (if s = 4 then pt_s p (f + 1) (f + 2 + t) else pt_m p (pt_s p (f + 1) (f + 2 + t)))).1 = 0 := q0
      have ws := hw s (by omega)
      refine Or.inr (Or.inr (Or.inr (Or.inl ⟨s, i + 1 + k, f + 1, f + 2 + t, hs, by omega, by omega, by omega, by omega, by omega, fun z => q1 (by rw [z, Nat.zero_mul]), fun z => q1 (by rw [z, Nat.mul_zero]), ?_, rfl⟩)))
      show X.2.2.2.1 s + _ + _ ≤ _
      omega
    have hT : ∀ s, (s = 7 ∨ s = 8) → q ∈ mu_T X s i j p → uc X P i j p q := by
      intro s hs hq
      have ws := hw s (by omega)
      obtain ⟨hc, hq⟩ := mem_if hq
      rcases List.mem_append.mp hq with hq | hq
      · obtain ⟨-, hq⟩ := mem_if hq
        rw [List.mem_singleton.mp hq]
        exact Or.inr (Or.inr (Or.inr (Or.inr (Or.inr ⟨hc.1, by show X.2.2.2.1 s + X.2.2.2.1 1 ≤ 18; omega, s, hs, Or.inl rfl⟩))))
      · obtain ⟨e, he, hq⟩ := List.mem_flatMap.mp hq
        have he := List.mem_range.mp he
        unfold mu_Te at hq
        split at hq
        · obtain ⟨-, hq⟩ := mem_if hq
          rw [List.mem_singleton.mp hq]
          exact Or.inr (Or.inr (Or.inr (Or.inr (Or.inr ⟨hc.1, by show X.2.2.2.1 s + X.2.2.2.1 0 ≤ 18; omega, s, hs, Or.inr ⟨e, he, rfl⟩⟩))))
        · cases hq
    rcases List.mem_append.mp hq with hq | hq
    · obtain ⟨h2, hq⟩ := mem_if hq
      have w2 := hw 2 (by decide)
      refine Or.inr (Or.inl ⟨by omega, h2, ?_⟩)
      rcases List.mem_append.mp hq with hq | hq
      · obtain ⟨-, hq⟩ := mem_if hq
        rw [List.mem_singleton.mp hq] at q0 ⊢
        exact Or.inl ⟨q0, by show X.2.2.2.1 2 + _ ≤ _; omega, rfl⟩
      · obtain ⟨-, hq⟩ := mem_if hq
        rw [List.mem_singleton.mp hq] at q0 ⊢
        exact Or.inr ⟨q0, by show X.2.2.2.1 2 + _ ≤ _; omega, rfl⟩
    rcases List.mem_append.mp hq with hq | hq
    · have w3 := hw 3 (by decide)
      refine Or.inr (Or.inr (Or.inl ⟨by omega, ?_⟩))
      rcases List.mem_append.mp hq with hq | hq
      · obtain ⟨-, hq⟩ := mem_if hq
        rw [List.mem_singleton.mp hq]
        exact ⟨w3, Or.inl rfl⟩
      · obtain ⟨-, hq⟩ := mem_if hq
        rw [List.mem_singleton.mp hq]
        exact ⟨w3, Or.inr rfl⟩
    rcases List.mem_append.mp hq with hq | hq
    · exact hC 4 (Or.inl rfl) hq
    rcases List.mem_append.mp hq with hq | hq
    · exact hC 5 (Or.inr rfl) hq
    rcases List.mem_append.mp hq with hq | hq
    · have w6 := hw 6 (by decide)
      obtain ⟨-, hq⟩ := mem_if hq
      rw [List.mem_singleton.mp hq]
      exact Or.inr (Or.inr (Or.inr (Or.inr (Or.inl ⟨by omega, w6, Or.inl rfl⟩))))
    rcases List.mem_append.mp hq with hq | hq
    · exact hT 7 (Or.inl rfl) hq
    rcases List.mem_append.mp hq with hq | hq
    · exact hT 8 (Or.inr rfl) hq
    · have w9 := hw 9 (by decide)
      obtain ⟨-, hq⟩ := mem_if hq
      rw [List.mem_singleton.mp hq]
      exact Or.inr (Or.inr (Or.inr (Or.inr (Or.inl ⟨by omega, w9, Or.inr rfl⟩))))
theorem uc_cost {X : MX} {P : Nat → Nat → Nat → AC} {i j p : Nat} (hP : ∀ a b r, a < b → b - a < j - i → ¬ (P a b r).1 = 0 → (P a b r).2.1 ≤ 18 * (b - a)) {q : AC} (hij : i < j) (h : uc X P i j p q) : q.2.1 ≤ 18 * (j - i) := by
  rcases h with ⟨h1, h | h⟩ | ⟨h1, -, h | h⟩ | h | ⟨s, k, fr, to, -, h1, h2, -, -, -, h3, h4, h5, -⟩ | h | h
  · omega
  · omega
  · have := hP (i + 1) j (p ^^^ 256) (by omega) (by omega) h.1
    omega
  · have := hP i (j - 1) (p ^^^ 256) (by omega) (by omega) h.1
    omega
  · omega
  · have a1 := hP i k _ h1 (by omega) h3
    have a2 := hP (k + 1) j _ h2 (by omega) h4
    omega
  · omega
  · omega
theorem mx_U_pick {X : MX} (hw : ∀ s, s < 11 → X.2.2.2.1 s ≤ 9) {P : Nat → Nat → Nat → AC} {i j p : Nat} (hij : i < j) (h6 : j - i ≤ 6) (hP : ∀ a b r, a < b → b - a < j - i → ¬ (P a b r).1 = 0 → (P a b r).2.1 ≤ 18 * (b - a)) (h : ¬ (mx_U X P i j p).1 = 0) : uc X P i j p (mx_U X P i j p) ∧ (mx_U X P i j p).2.1 ≤ 18 * (j - i) := by
  unfold mx_U at h ⊢
  obtain ⟨q, hq, q0, q1, q2⟩ := ac_pick0 (fun q hq q0 => Nat.lt_of_le_of_lt (uc_cost hP hij (mu_us_ch hw hij hq q0)) (by omega)) h
  have u := mu_us_ch hw hij hq q0
  have c := uc_cost hP hij u
  refine ⟨?_, by rw [q1]; exact c⟩
  unfold uc at u ⊢
  rw [q1, q2]
  exact u
/-- what a piece's choice can be -/
def pc (U P : Nat → Nat → Nat → AC) (i j p : Nat) (q : AC) : Prop :=
  (¬ (U i j p).1 = 0 ∧ q.2.1 = (U i j p).2.1 ∧ q.2.2.2 = j * 512 + p) ∨
  ∃ e t, i < e ∧ e < j ∧ 1 ≤ t ∧ t < pt_sz p ∧ ¬ (U i e (pt_s p 0 t)).1 = 0 ∧ ¬ (P e j (pt_s p t 8)).1 = 0 ∧ q.2.1 = (U i e (pt_s p 0 t)).2.1 + (P e j (pt_s p t 8)).2.1 ∧ q.2.2.2 = e * 512 + pt_s p 0 t
theorem mu_ps_ch {X : MX} {U P : Nat → Nat → Nat → AC} {i j p : Nat} {q : AC} (hq : q ∈ mu_ps X U P i j p) (q0 : ¬ q.1 = 0) : pc U P i j p q := by
  unfold mu_ps at hq
  rcases List.mem_append.mp hq with hq | hq
  · obtain ⟨e, he, hq⟩ := List.mem_flatMap.mp hq
    have he := List.mem_range.mp he
    obtain ⟨t, ht, rfl⟩ := List.mem_map.mp hq
    have ht := List.mem_range.mp ht
    have q1 : ¬ (U i (i + 1 + e) (pt_s p 0 (t + 1))).1 * (P (i + 1 + e) j (pt_s p (t + 1) 8)).1 = 0 := q0
    exact Or.inr ⟨i + 1 + e, t + 1, by omega, by omega, by omega, by omega, fun z => q1 (by rw [z, Nat.zero_mul]), fun z => q1 (by rw [z, Nat.mul_zero]), rfl, rfl⟩
  · rw [List.mem_singleton.mp hq] at q0 ⊢
    exact Or.inl ⟨q0, rfl, rfl⟩
theorem mx_PP_pick {X : MX} (hw : ∀ s, s < 11 → X.2.2.2.1 s ≤ 9) : ∀ d i j p, i < j → j - i ≤ 6 → ¬ (mx_PP X (d + 1) i j p).1 = 0 → pc (mx_U X (mx_PP X d)) (mx_PP X d) i j p (mx_PP X (d + 1) i j p) ∧ (mx_PP X (d + 1) i j p).2.1 ≤ 18 * (j - i)
  | d, i, j, p, h1, h2, h => by
    have ih : ∀ a b r, a < b → b - a ≤ 6 → ¬ (mx_PP X d a b r).1 = 0 → (mx_PP X d a b r).2.1 ≤ 18 * (b - a) := by
      cases d with
      | zero => intro a b r _ _ h; exact absurd rfl h
      | succ d => exact fun a b r ha hb hr => (mx_PP_pick hw d a b r ha hb hr).2
    have hU : ∀ b r, i < b → b ≤ j → ¬ (mx_U X (mx_PP X d) i b r).1 = 0 → (mx_U X (mx_PP X d) i b r).2.1 ≤ 18 * (b - i) := fun b r hb1 hb2 hr => (mx_U_pick hw hb1 (by omega) (fun a c x ha hc hx => ih a c x ha (by omega) hx) hr).2
    have cost : ∀ q, pc (mx_U X (mx_PP X d)) (mx_PP X d) i j p q → q.2.1 ≤ 18 * (j - i) := by
      rintro q (⟨a1, a2, -⟩ | ⟨e, t, a1, a2, -, -, a3, a4, a5, -⟩)
      · have := hU j p h1 (Nat.le_refl j) a1
        omega
      · have b1 := hU e _ a1 (by omega) a3
        have b2 := ih e j _ a2 (by omega) a4
        omega
    have h' : ¬ ((mu_ps X (mx_U X (mx_PP X d)) (mx_PP X d) i j p).foldl ac_ad ac_0).1 = 0 := h
    obtain ⟨q, hq, q0, q1, q2⟩ := ac_pick0 (fun q hq q0 => Nat.lt_of_le_of_lt (cost q (mu_ps_ch hq q0)) (by omega)) h'
    have u := mu_ps_ch hq q0
    have c := cost q u
    have e1 : (mx_PP X (d + 1) i j p).2.1 = q.2.1 := q1
    have e2 : (mx_PP X (d + 1) i j p).2.2.2 = q.2.2.2 := q2
    refine ⟨?_, by rw [e1]; exact c⟩
    unfold pc at u ⊢
    rw [e1, e2]
    exact u
theorem MP_cost {X : MX} (hw : ∀ s, s < 11 → X.2.2.2.1 s ≤ 9) {i j p : Nat} (h1 : i < j) (h2 : j - i ≤ 6) (h : ¬ (MP X i j p).1 = 0) : (MP X i j p).2.1 ≤ 18 * (j - i) := (mx_PP_pick hw 6 i j p h1 h2 h).2
theorem MU_pick {X : MX} (hw : ∀ s, s < 11 → X.2.2.2.1 s ≤ 9) {i j p : Nat} (h1 : i < j) (h2 : j - i ≤ 6) (h : ¬ (MU X i j p).1 = 0) : uc X (MP X) i j p (MU X i j p) ∧ (MU X i j p).2.1 ≤ 18 * (j - i) := mx_U_pick hw h1 h2 (fun _ _ _ a b c => MP_cost hw a (by omega) c) h
theorem MP_pick {X : MX} (hw : ∀ s, s < 11 → X.2.2.2.1 s ≤ 9) {i j p : Nat} (h1 : i < j) (h2 : j - i ≤ 6) (h : ¬ (MP X i j p).1 = 0) : pc (MU X) (MP X) i j p (MP X i j p) := by
  have e : MP X i j p = mx_PP X 8 i j p := mx_PP_st X 7 i j p h1 (by omega)
  have h' : ¬ (mx_PP X 8 i j p).1 = 0 := by rw [← e]; exact h
  have := (mx_PP_pick hw 7 i j p h1 h2 h').1
  rw [e]
  exact this
