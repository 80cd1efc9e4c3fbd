/-! the line: its mathematics -/
theorem pt_m_s0 {p t : Nat} (hp : p < 512) : pt_m p (pt_s p 0 t) = pt_s p t 8 := by
  have h1 := pt_all (pt_m p (pt_s p 0 t)) (pt_m_lt _ hp)
  rw [pt_m_dir, pt_s_m (Nat.zero_le t), List.take_zero, List.nil_append] at h1
  rw [h1]
  unfold pt_s
  rw [List.take_of_length_le (pt_sz_le p)]
def LLn (X : MX) : Nat → Nat → Nat → List Nat := ln_P X 7
theorem dv1 {k h : Nat} (hh : h < 512) : (k * 512 + h) / 512 = k ∧ (k * 512 + h) % 512 = h := ⟨by omega, by omega⟩
theorem dv2 {s k h : Nat} (hh : h < 512) (hk : k < 8) : (s * 8192 + k * 512 + h) / 8192 = s ∧ (s * 8192 + k * 512 + h) % 8192 = k * 512 + h := ⟨by omega, by omega⟩
section LM
variable {X : MX} {P P' : Nat → Nat → Nat → List Nat} {i j p : Nat}
theorem ln_u4 {k h : Nat} (hh : h < 512) (hk : k < 8) : ln_u X P (4 * 8192 + k * 512 + h) i j p = so_ch 4 :: 40 :: ((P i k (pt_m p h) ++ (41 :: 40 :: P (k + 1) j h)) ++ [41]) := by
  have e3 := (dv1 (k := k) hh).1
  have e4 := (dv1 (k := k) hh).2
  have e1 := (dv2 (s := 4) hh hk).1
  have e2 := (dv2 (s := 4) hh hk).2
  unfold ln_u
  rw [e1, e2]
  unfold ln_I
  rw [e3, e4]
  rfl
theorem ln_u5 {k h : Nat} (hh : h < 512) (hk : k < 8) : ln_u X P (5 * 8192 + k * 512 + h) i j p = so_ch 5 :: 40 :: ((P i k h ++ (41 :: 40 :: P (k + 1) j (pt_m p h))) ++ [41]) := by
  have e3 := (dv1 (k := k) hh).1
  have e4 := (dv1 (k := k) hh).2
  have e1 := (dv2 (s := 5) hh hk).1
  have e2 := (dv2 (s := 5) hh hk).2
  unfold ln_u
  rw [e1, e2]
  unfold ln_I
  rw [e3, e4]
  rfl
theorem ln_u7 {s : Nat} (hs : s = 7 ∨ s = 8) : ln_u X P (s * 8192) i j p = so_ch s :: 40 :: ((39 :: lq_s (X.2.1.getD (j - 1) [])) ++ [41]) := by
  rcases hs with rfl | rfl <;> rfl
theorem ln_u8 {s e : Nat} (hs : s = 7 ∨ s = 8) (he : e < 24) : ln_u X P (s * 8192 + (e + 1)) i j p = so_ch s :: 40 :: (lq_s ((X.1.map (fun x => x.2.1)).getD e []) ++ [41]) := by
  have e1 : (s * 8192 + (e + 1)) / 8192 = s := by omega
  have e2 : (s * 8192 + (e + 1)) % 8192 = e + 1 := by omega
  unfold ln_u
  rw [e1, e2]
  rcases hs with rfl | rfl <;> rfl
/-- a unit's line by the cases of its choice -/
theorem ln_U_cong (hr : rg X i j p) (u : uc X (MP X) i j p (MU X i j p)) (hij : i < j) (h6 : j ≤ 6) (hX : X.1.length ≤ 24) (h : ∀ a b q, rg X a b q → b - a < j - i → ¬ (MP X a b q).1 = 0 → P a b q = P' a b q) : ln_U X P i j p = ln_U X P' i j p := by
  unfold ln_U
  generalize MU X i j p = q at u ⊢
  rcases u with ⟨-, ⟨c, -⟩ | ⟨-, c, -⟩⟩ | ⟨h1, -, ⟨h2, -, c⟩ | ⟨h2, -, c⟩⟩ | ⟨-, -, c | c⟩ | ⟨s, k, fr, to, hs, h1, h2, k1, k2, k3, h3, h4, -, c⟩ | ⟨-, -, c | c⟩ | ⟨-, -, s, hs, c | ⟨e, he, c⟩⟩
  · rw [c]; rfl
  · rw [c]; rfl
  · rw [c]
    show so_ch 2 :: 40 :: (P (i + 1) j (p ^^^ 256) ++ [41]) = so_ch 2 :: 40 :: (P' (i + 1) j (p ^^^ 256) ++ [41])
    rw [h (i + 1) j _ (hr.rv (by omega) (Nat.le_refl _)) (by omega) h2]
  · rw [c]
    show so_ch 2 :: 40 :: (P i (j - 1) (p ^^^ 256) ++ [41]) = so_ch 2 :: 40 :: (P' i (j - 1) (p ^^^ 256) ++ [41])
    rw [h i (j - 1) _ (hr.rv (by omega) (by omega)) (by omega) h2]
  · rw [c]; rfl
  · rw [c]; rfl
  · have hh := (pt_s_pos p fr to).2.2
    rw [c]
    rcases hs with rfl | rfl
    · rw [if_pos rfl] at h3 h4
      rw [ln_u4 hh (by omega), ln_u4 hh (by omega), h i k _ (hr.m h1 (by omega) (by omega) k1 (by omega)) (by omega) h3, h (k + 1) j _ (hr.s h2 (Nat.le_refl _) k2 (by omega)) (by omega) h4]
    · rw [if_neg (by decide)] at h3 h4
      rw [ln_u5 hh (by omega), ln_u5 hh (by omega), h i k _ (hr.s h1 (by omega) k2 (by omega)) (by omega) h3, h (k + 1) j _ (hr.m h2 (Nat.le_refl _) (by omega) k1 (by omega)) (by omega) h4]
  · rw [c]; rfl
  · rw [c]; rfl
  · rw [c, ln_u7 hs, ln_u7 hs]
  · rw [c, ln_u8 hs (by omega), ln_u8 hs (by omega)]
end LM
/-- what is asked of a state for its line -/
def lx (X : MX) : Prop := (∀ s, s < 11 → X.2.2.2.1 s ≤ 9) ∧ X.2.1.length ≤ 6 ∧ X.1.length ≤ 24
/-- the first unit of a piece and what is left -/
def fu (X : MX) (i j p e h : Nat) : Prop := (MP X i j p).2.2.2 = e * 512 + h ∧ i < e ∧ rg X i e h ∧ ¬ (MU X i e h).1 = 0 ∧ (e = j ∨ (e < j ∧ rg X e j (pt_m p h) ∧ ¬ (MP X e j (pt_m p h)).1 = 0))
section LM2
variable {X : MX} {i j p : Nat}
theorem fu_of (hx : lx X) (hr : rg X i j p) (h : ¬ (MP X i j p).1 = 0) : ∃ e hd, fu X i j p e hd ∧ e ≤ j ∧ hd < 512 := by
  have l6 := hx.2.1
  have hj := hr.2.1
  have hsz := pt_sz_le p
  rcases MP_pick hx.1 hr.1 (by omega) h with ⟨h1, -, h3⟩ | ⟨e, t, a1, a2, a3, a4, a5, a6, -, a8⟩
  · exact ⟨j, p, ⟨h3, hr.1, hr, h1, Or.inl rfl⟩, Nat.le_refl _, hr.2.2.1.1⟩
  · refine ⟨e, pt_s p 0 t, ⟨a8, a1, hr.s a1 (by omega) (by omega) (by omega), a5, Or.inr ⟨a2, ?_, ?_⟩⟩, by omega, (pt_s_pos p 0 t).2.2⟩
    · rw [pt_m_s0 hr.2.2.1.1]
      exact hr.s a2 (Nat.le_refl _) (by omega) (by omega)
    · rw [pt_m_s0 hr.2.2.1.1]
      exact a6
theorem ln_P_fu {e hd d : Nat} (hf : fu X i j p e hd) (hh : hd < 512) : ln_P X (d + 1) i j p = ln_U X (ln_P X d) i e hd ++ (if e < j then 43 :: ln_P X d e j (pt_m p hd) else []) := by
  show ln_U X (ln_P X d) i ((MP X i j p).2.2.2 / 512) ((MP X i j p).2.2.2 % 512) ++ (if (MP X i j p).2.2.2 / 512 < j then 43 :: ln_P X d ((MP X i j p).2.2.2 / 512) j (pt_m p ((MP X i j p).2.2.2 % 512)) else []) = _
  rw [hf.1, show (e * 512 + hd) / 512 = e by omega, show (e * 512 + hd) % 512 = hd by omega]
theorem ln_P_st (hx : lx X) : ∀ d i j p, rg X i j p → j - i ≤ d → ¬ (MP X i j p).1 = 0 → ln_P X d i j p = ln_P X (d + 1) i j p
  | 0, i, j, p, hr, hd, h => absurd hd (by have := hr.1; omega)
  | d + 1, i, j, p, hr, hd, h => by
    obtain ⟨e, hh, hf, hej, h512⟩ := fu_of hx hr h
    have l6 := hx.2.1
    have hj := hr.2.1
    rw [ln_P_fu hf h512, ln_P_fu hf h512]
    obtain ⟨-, h1, h2, h3, h4⟩ := hf
    rw [ln_U_cong h2 (MU_pick hx.1 h1 (by omega) h3).1 h1 (by omega) hx.2.2 (fun a b q ha hb hq => ln_P_st hx d a b q ha (by omega) hq)]
    congr 1
    split
    · next hlt =>
      rcases h4 with h4 | ⟨-, h5, h6⟩
      · omega
      · rw [ln_P_st hx d e j _ h5 (by omega) h6]
    · rfl
end LM2
