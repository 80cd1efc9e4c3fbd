/-! the reference: units and pieces are said -/
abbrev ItS : Type := Nat × Nat × Nat × Nat
def itc (x : ItS) : Nat := if x.1 = 2 then x.2.2.2 else cdS x.1 x.2.1 x.2.2.1 x.2.2.2
def itl (X : MX) (x : ItS) : List Nat := if x.1 = 2 then [x.2.2.2] else if x.1 = 1 then ln_U X (LLn X) x.2.1 x.2.2.1 x.2.2.2 else LLn X x.2.1 x.2.2.1 x.2.2.2
def itw (x : ItS) : Nat := if x.1 = 2 then 1 else if x.1 = 1 then 6 * (x.2.2.1 - x.2.1) - 2 else 6 * (x.2.2.1 - x.2.1)
def ito (X : MX) (x : ItS) : Prop := (x.1 = 2 ∧ x.2.2.2 < 128) ∨ (x.1 = 1 ∧ flm X x.2.1 x.2.2.1 x.2.2.2 ∧ ¬ (MU X x.2.1 x.2.2.1 x.2.2.2).1 = 0) ∨ (x.1 = 0 ∧ flm X x.2.1 x.2.2.1 x.2.2.2 ∧ ¬ (MP X x.2.1 x.2.2.1 x.2.2.2).1 = 0)
def SL (I0 : Nat → Int32) (A0 : Nat → Nat → Int32) (X : MX) (d : List Nat) (B : List ItS) (I : Nat → Int32) (A : Nat → Nat → Int32) : Prop := rs false X I A ∧ rl I A 15 13 d ∧ rl I A 16 14 (B.map itc) ∧ (∀ k, k < 7 → I k = I0 k) ∧ ∀ m, m < 11 → A m = A0 m
section RF30
variable {hd : Nat → am_C} {I I' I0 : Nat → Int32} {A A' A0 : Nat → Nat → Int32} {T T' : Nat → Int64} {Q : am_Q} {h : am_H} {X : MX} {s : MS} {d : List Nat} {B : List ItS} {i j p : Nat}
theorem SL.says {e : List Nat} (h : SL I0 A0 X d B I A) (hf : frL I A I' A') (hl : rl I' A' 15 13 e) : SL I0 A0 X e B I' A' := ⟨h.1.mv (fun k hk => hf.1 k (by omega)) (fun m hm => hf.2 m (by omega)), hl, h.2.2.1.mv (hf.1 16 (by decide)) (hf.2 14 (by decide)), fun k hk => (hf.1 k (by omega)).trans (h.2.2.2.1 k hk), fun m hm => (hf.2 m (by omega)).trans (h.2.2.2.2 m hm)⟩
theorem SL.push {x : ItS} (h : SL I0 A0 X d B I A) (h1 : ∀ k, ¬ k = 16 → I' k = I k) (h2 : ∀ m, ¬ m = 14 → A' m = A m) (hl : rl I' A' 16 14 (B.map itc ++ [itc x])) : SL I0 A0 X d (B ++ [x]) I' A' := ⟨h.1.mv (fun k hk => h1 k (by omega)) (fun m hm => h2 m (by omega)), h.2.1.mv (h1 15 (by decide)) (h2 13 (by decide)), by rw [List.map_append]; exact hl, fun k hk => (h1 k (by omega)).trans (h.2.2.2.1 k hk), fun m hm => (h2 m (by omega)).trans (h.2.2.2.2 m hm)⟩
theorem SL.fr (h : SL I0 A0 X d B I A) (hf : fr I A I' A') : SL I0 A0 X d B I' A' := ⟨h.1.mv (fun k hk => hf.1 k (by omega)) (fun m hm => hf.2 m (by omega)), h.2.1.mv (hf.1 15 (by decide)) (hf.2 13 (by decide)), h.2.2.1.mv (hf.1 16 (by decide)) (hf.2 14 (by decide)), fun k hk => (hf.1 k (by omega)).trans (h.2.2.2.1 k hk), fun m hm => (hf.2 m (by omega)).trans (h.2.2.2.2 m hm)⟩
theorem rtb.le {b : Bool} {w w' : Nat} (h : rtb b X T w) (hw : w' ≤ w) : rtb b X T w' := fun i j p hF hc => h i j p hF (by omega)
theorem p_L_push {x : ItS} {c : Nat} (hS : SL I0 A0 X d B I A) (hB : B.length < 60) (hc : c = itc x) (hQ : ∀ (I' : Nat → Int32) (A' : Nat → Nat → Int32), (∀ k, ¬ k = 16 → I' k = I k) → (∀ m, ¬ m = 14 → A' m = A m) → SL I0 A0 X d (B ++ [x]) I' A' → Q none (HM hd I' A' T)) : K_X9_pushes [.ref 34, .int (nI c)] (HM hd I A T) Q := by
  subst hc
  exact p_X9_pushes hS.2.2.1 (by rw [List.length_map]; exact hB) (fun I' A' h1 h2 h3 => hQ I' A' h1 h2 (hS.push h1 h2 h3))
theorem p_L_say {c : Nat} (hS : SL I0 A0 X d B I A) (hd4 : d.length < 400) (hQ : ∀ (I' : Nat → Int32) (A' : Nat → Nat → Int32), frL I A I' A' → SL I0 A0 X (d ++ [c]) B I' A' → Q none (HM hd I' A' T)) : K_X9_says [.ref 34, .int (nI c)] (HM hd I A T) Q := p_X9_says hS.2.1 hd4 (fun I' A' h1 h2 => hQ I' A' h1 (hS.says h1 h2))
theorem lq_w_ml {cl : List (List Nat)} {a b : Nat} (h : a ≤ b) : lq_w cl a b = lq_s (ml_w cl a (b - a)) := by
  unfold lq_w
  rw [← mu_fl_w, show a + (b - a) = b by omega]
theorem mu_us_sg {P : Nat → Nat → Nat → AC} (hij : i < j) (hj : j ≤ X.2.1.length) (h6 : X.2.1.length ≤ 6) (h24 : X.1.length ≤ 24) {q : AC} (hq : q ∈ mu_us X P i j p) : (q.2.2.2 / 8192 = 2 → any_s X 2 = true) ∧ (q.2.2.2 / 8192 = 4 ∨ q.2.2.2 / 8192 = 5 → any_s X 4 = true ∨ any_s X 5 = true) := by
  have no : ∀ c : Nat, ¬ c = 2 → ¬ c = 4 → ¬ c = 5 → (c = 2 → any_s X 2 = true) ∧ (c = 4 ∨ c = 5 → any_s X 4 = true ∨ any_s X 5 = true) := fun c h2 h4 h5 => ⟨fun z => absurd z h2, fun z => z.elim (fun y => absurd y h4) (fun y => absurd y h5)⟩
  unfold mu_us at hq
  split at hq
  · rcases List.mem_append.mp hq with hq | hq
    · obtain ⟨-, hq⟩ := mem_if hq
      rw [List.mem_singleton.mp hq]
      exact no (0 / 8192) (by decide) (by decide) (by decide)
    · obtain ⟨-, hq⟩ := mem_if hq
      rw [List.mem_singleton.mp hq]
      exact no (8192 / 8192) (by decide) (by decide) (by decide)
  · have hC : ∀ s, (s = 4 ∨ s = 5) → q ∈ mu_C X P s i j p → (q.2.2.2 / 8192 = 2 → any_s X 2 = true) ∧ (q.2.2.2 / 8192 = 4 ∨ q.2.2.2 / 8192 = 5 → any_s X 4 = true ∨ any_s X 5 = true) := by
      intro s hs hq
      obtain ⟨k, hk, hq⟩ := List.mem_flatMap.mp hq
      have hk := List.mem_range.mp hk
      obtain ⟨hm, hq⟩ := mem_if hq
      obtain ⟨f, hf, hq⟩ := List.mem_flatMap.mp hq
      obtain ⟨t, ht, rfl⟩ := List.mem_map.mp hq
      have h512 := (pt_s_pos p (f + 1) (f + 2 + t)).2.2
      have e : (s * 8192 + (i + 1 + k) * 512 + pt_s p (f + 1) (f + 2 + t)) / 8192 = s := by omega
      show ((s * 8192 + (i + 1 + k) * 512 + pt_s p (f + 1) (f + 2 + t)) / 8192 = 2 → _) ∧ ((s * 8192 + (i + 1 + k) * 512 + pt_s p (f + 1) (f + 2 + t)) / 8192 = 4 ∨ (s * 8192 + (i + 1 + k) * 512 + pt_s p (f + 1) (f + 2 + t)) / 8192 = 5 → _)
      rw [e]
      have ha := any_s_of (by omega) hm
      rcases hs with rfl | rfl
      · exact ⟨fun z => absurd z (by decide), fun _ => Or.inl ha⟩
      · exact ⟨fun z => absurd z (by decide), fun _ => Or.inr ha⟩
    have hT : ∀ s, (s = 7 ∨ s = 8) → q ∈ mu_T X s i j p → (q.2.2.2 / 8192 = 2 → any_s X 2 = true) ∧ (q.2.2.2 / 8192 = 4 ∨ q.2.2.2 / 8192 = 5 → any_s X 4 = true ∨ any_s X 5 = true) := by
      intro s hs hq
      obtain ⟨hc, hq⟩ := mem_if hq
      rcases List.mem_append.mp hq with hq | hq
      · obtain ⟨-, hq⟩ := mem_if hq
        rw [List.mem_singleton.mp hq]
        exact no (s * 8192 / 8192) (by omega) (by omega) (by omega)
      · obtain ⟨e, he, hq⟩ := List.mem_flatMap.mp hq
        have he := List.mem_range.mp he
        unfold mu_Te at hq
        split at hq
        · obtain ⟨-, hq⟩ := mem_if hq
          rw [List.mem_singleton.mp hq]
          exact no ((s * 8192 + (e + 1)) / 8192) (by omega) (by omega) (by omega)
        · cases hq
    rcases List.mem_append.mp hq with hq | hq
    · obtain ⟨h2, hq⟩ := mem_if hq
      rcases List.mem_append.mp hq with hq | hq
      · obtain ⟨hm, hq⟩ := mem_if hq
        rw [List.mem_singleton.mp hq]
        exact ⟨fun _ => any_s_of (by omega) hm, fun z => absurd (show 16384 / 8192 = 4 ∨ 16384 / 8192 = 5 from z) (by decide)⟩
      · obtain ⟨hm, hq⟩ := mem_if hq
        rw [List.mem_singleton.mp hq]
        exact ⟨fun _ => any_s_of (by omega) hm, fun z => absurd (show 16385 / 8192 = 4 ∨ 16385 / 8192 = 5 from z) (by decide)⟩
    rcases List.mem_append.mp hq with hq | hq
    · rcases List.mem_append.mp hq with hq | hq
      · obtain ⟨-, hq⟩ := mem_if hq
        rw [List.mem_singleton.mp hq]
        exact no (24576 / 8192) (by decide) (by decide) (by decide)
      · obtain ⟨-, hq⟩ := mem_if hq
        rw [List.mem_singleton.mp hq]
        exact no (24577 / 8192) (by decide) (by decide) (by decide)
    rcases List.mem_append.mp hq with hq | hq
    · exact hC 4 (Or.inl rfl) hq
    rcases List.mem_append.mp hq with hq | hq
    · exact hC 5 (Or.inr rfl) hq
    rcases List.mem_append.mp hq with hq | hq
    · obtain ⟨-, hq⟩ := mem_if hq
      rw [List.mem_singleton.mp hq]
      exact no (49152 / 8192) (by decide) (by decide) (by decide)
    rcases List.mem_append.mp hq with hq | hq
    · exact hT 7 (Or.inl rfl) hq
    rcases List.mem_append.mp hq with hq | hq
    · exact hT 8 (Or.inr rfl) hq
    · obtain ⟨-, hq⟩ := mem_if hq
      rw [List.mem_singleton.mp hq]
      exact no (73728 / 8192) (by decide) (by decide) (by decide)
theorem MU_sg (hw : ∀ s, s < 11 → X.2.2.2.1 s ≤ 9) (hij : i < j) (hj : j ≤ X.2.1.length) (h6 : X.2.1.length ≤ 6) (h24 : X.1.length ≤ 24) (hz : ¬ (MU X i j p).1 = 0) : ((MU X i j p).2.2.2 / 8192 = 2 → any_s X 2 = true) ∧ ((MU X i j p).2.2.2 / 8192 = 4 ∨ (MU X i j p).2.2.2 / 8192 = 5 → any_s X 4 = true ∨ any_s X 5 = true) := by
  have hz' : ¬ ((mu_us X (MP X) i j p).foldl ac_ad ac_0).1 = 0 := hz
  obtain ⟨q, hq, q0, -, q2⟩ := ac_pick0 (fun q hq q0 => by have := (mu_us_q0 hw hij (by omega) p q hq).2 q0; omega) hz'
  have e : (MU X i j p).2.2.2 = q.2.2.2 := q2
  rw [e]
  exact mu_us_sg hij hj h6 h24 hq
end RF30
