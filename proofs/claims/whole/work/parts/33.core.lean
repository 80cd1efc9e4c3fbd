/-! the mathematics of units and pieces -/
/-- book, clue, goal, weights, the entry that is left out -/
abbrev MX : Type := List ME × List (List Nat) × List Nat × (Nat → Nat) × Option Nat
abbrev AC : Type := Nat × Nat × Nat × Nat
def mx_mk (X : MX) (w s : Nat) : Bool := (List.range X.1.length).any (fun e => decide (¬ X.2.2.2.2 = some e) && match X.1[e]? with
  | some x => decide (x.2.2 = s) && decide (X.2.1[w]? = some x.1)
  | none => false)
def mx_sy (X : MX) (w l : List Nat) : Bool := match X.1.idxOf? (w, l, 0) with
  | some e => decide (¬ X.2.2.2.2 = some e)
  | none => false
def mx_sp (X : MX) (p : Nat) : List Nat := (pt_pos p).map (fun k => X.2.2.1.getD k 0)
def ac_0 : AC := (0, 1000000, 0, 0)
def ac_ad (a q : AC) : AC := if q.1 = 0 then a else if q.2.1 < a.2.1 then (a.1 + q.1, q.2.1, q.2.2.1, q.2.2.2) else if q.2.1 = a.2.1 then (a.1 + q.1, a.2.1, a.2.2.1 + q.2.2.1, a.2.2.2) else (a.1 + q.1, a.2.1, a.2.2.1, a.2.2.2)
def mu_short (s : Nat) (w : List Nat) : List Nat := if s = 7 then w.drop 1 else w.take (w.length - 1)
def mu_1 (X : MX) (i p : Nat) : List AC := (if mx_sy X (X.2.1.getD i []) (mx_sp X p) then [(1, X.2.2.2.1 0, 1, 0)] else []) ++ (if X.2.1.getD i [] = mx_sp X p then [(1, X.2.2.2.1 1, 1, 8192)] else [])
def mu_R (X : MX) (P : Nat → Nat → Nat → AC) (i j p : Nat) : List AC := if 2 ≤ pt_sz p then
    (if mx_mk X i 2 then [((P (i + 1) j (p ^^^ 256)).1, X.2.2.2.1 2 + (P (i + 1) j (p ^^^ 256)).2.1, (P (i + 1) j (p ^^^ 256)).2.2.1, 16384)] else []) ++
    (if mx_mk X (j - 1) 2 then [((P i (j - 1) (p ^^^ 256)).1, X.2.2.2.1 2 + (P i (j - 1) (p ^^^ 256)).2.1, (P i (j - 1) (p ^^^ 256)).2.2.1, 16385)] else []) else []
def mu_A (X : MX) (i j p : Nat) : List AC := (if mx_mk X i 3 && mu_ana (mu_fl X.2.1 (i + 1) j) (mx_sp X p) then [(1, X.2.2.2.1 3, 1, 24576)] else []) ++ (if mx_mk X (j - 1) 3 && mu_ana (mu_fl X.2.1 i (j - 1)) (mx_sp X p) then [(1, X.2.2.2.1 3, 1, 24577)] else [])
def mu_Cf (X : MX) (P : Nat → Nat → Nat → AC) (s i j p k fr to : Nat) : AC :=
  let a := P i k (if s = 4 then pt_m p (pt_s p fr to) else pt_s p fr to)
  let b := P (k + 1) j (if s = 4 then pt_s p fr to else pt_m p (pt_s p fr to))
  (a.1 * b.1, X.2.2.2.1 s + a.2.1 + b.2.1, a.2.2.1 * b.2.2.1, s * 8192 + k * 512 + pt_s p fr to)
def mu_Ck (X : MX) (P : Nat → Nat → Nat → AC) (s i j p k : Nat) : List AC := (List.range (pt_sz p - 2)).flatMap (fun f => (List.range (pt_sz p - (f + 2))).map (fun t => mu_Cf X P s i j p k (f + 1) (f + 2 + t)))
def mu_C (X : MX) (P : Nat → Nat → Nat → AC) (s i j p : Nat) : List AC := (List.range (j - 2 - i)).flatMap (fun k => if mx_mk X (i + 1 + k) s then mu_Ck X P s i j p (i + 1 + k) else [])
def mu_H (X : MX) (i j p : Nat) : List AC := if 3 ≤ j - i ∧ mx_mk X i 6 = true then [((mu_hids X.2.1 (i + 1) j (mx_sp X p)).length, X.2.2.2.1 6, (mu_hids X.2.1 (i + 1) j (mx_sp X p)).length, 49152)] else []
def mu_Te (X : MX) (s i p e : Nat) : List AC := match X.1[e]? with
  | some x => if (¬ X.2.2.2.2 = some e) ∧ X.2.1.getD (i + 1) [] = x.1 ∧ mu_short s x.2.1 = mx_sp X p then [(1, X.2.2.2.1 s + X.2.2.2.1 0, 1, s * 8192 + (e + 1))] else []
  | none => []
def mu_T (X : MX) (s i j p : Nat) : List AC := if j - i = 2 ∧ mx_mk X i s = true then (if mu_short s (X.2.1.getD (i + 1) []) = mx_sp X p then [(1, X.2.2.2.1 s + X.2.2.2.1 1, 1, s * 8192)] else []) ++ (List.range X.1.length).flatMap (mu_Te X s i p) else []
def mu_I (X : MX) (i j p : Nat) : List AC := if mx_mk X i 9 = true ∧ mu_ini X.2.1 (i + 1) (j - (i + 1)) = mx_sp X p then [(1, X.2.2.2.1 9, 1, 73728)] else []
def mu_us (X : MX) (P : Nat → Nat → Nat → AC) (i j p : Nat) : List AC := if j - i = 1 then mu_1 X i p else mu_R X P i j p ++ (mu_A X i j p ++ (mu_C X P 4 i j p ++ (mu_C X P 5 i j p ++ (mu_H X i j p ++ (mu_T X 7 i j p ++ (mu_T X 8 i j p ++ mu_I X i j p))))))
def mx_U (X : MX) (P : Nat → Nat → Nat → AC) (i j p : Nat) : AC := (mu_us X P i j p).foldl ac_ad ac_0
def mu_Pt (X : MX) (U P : Nat → Nat → Nat → AC) (i e j p t : Nat) : AC :=
  let a := U i e (pt_s p 0 t)
  let b := P e j (pt_s p t 8)
  (a.1 * b.1, a.2.1 + b.2.1, a.2.2.1 * b.2.2.1, e * 512 + pt_s p 0 t)
def mu_Pe (X : MX) (U P : Nat → Nat → Nat → AC) (i e j p : Nat) : List AC := (List.range (pt_sz p - 1)).map (fun t => mu_Pt X U P i e j p (t + 1))
def mu_ps (X : MX) (U P : Nat → Nat → Nat → AC) (i j p : Nat) : List AC := (List.range (j - (i + 1))).flatMap (fun e => mu_Pe X U P i (i + 1 + e) j p) ++ [((U i j p).1, (U i j p).2.1, (U i j p).2.2.1, j * 512 + p)]
def mx_PP (X : MX) : Nat → Nat → Nat → Nat → AC
  | 0 => fun _ _ _ => ac_0
  | d + 1 => fun i j p => (mu_ps X (mx_U X (mx_PP X d)) (mx_PP X d) i j p).foldl ac_ad ac_0
def MP (X : MX) : Nat → Nat → Nat → AC := mx_PP X 7
def MU (X : MX) : Nat → Nat → Nat → AC := mx_U X (MP X)
/-- units look at pieces of fewer words alone -/
theorem mu_us_cong (X : MX) {P P' : Nat → Nat → Nat → AC} {i j : Nat} (hij : i < j) (h : ∀ a b q, a < b → b - a < j - i → P a b q = P' a b q) (p : Nat) : mu_us X P i j p = mu_us X P' i j p := by
  unfold mu_us
  by_cases h1 : j - i = 1
  · rw [if_pos h1, if_pos h1]
  · rw [if_neg h1, if_neg h1]
    have hR : mu_R X P i j p = mu_R X P' i j p := by
      unfold mu_R
      rw [h (i + 1) j _ (by omega) (by omega), h i (j - 1) _ (by omega) (by omega)]
    have hC : ∀ s, mu_C X P s i j p = mu_C X P' s i j p := by
      intro s
      unfold mu_C
      have key : ∀ k ∈ List.range (j - 2 - i), (if mx_mk X (i + 1 + k) s then mu_Ck X P s i j p (i + 1 + k) else []) = (if mx_mk X (i + 1 + k) s then mu_Ck X P' s i j p (i + 1 + k) else []) := by
        intro k hk
        have hk := List.mem_range.mp hk
        have e : mu_Ck X P s i j p (i + 1 + k) = mu_Ck X P' s i j p (i + 1 + k) := by
          unfold mu_Ck mu_Cf
          have e1 : ∀ q, P i (i + 1 + k) q = P' i (i + 1 + k) q := fun q => h i _ q (by omega) (by omega)
          have e2 : ∀ q, P (i + 1 + k + 1) j q = P' (i + 1 + k + 1) j q := fun q => h _ j q (by omega) (by omega)
          simp only [e1, e2]
        rw [e]
      rw [List.flatMap_def, List.flatMap_def, List.map_congr_left key]
    rw [hR, hC 4, hC 5]
theorem mu_ps_cong (X : MX) {U U' P P' : Nat → Nat → Nat → AC} {i j : Nat} (hij : i < j) (hU : ∀ b q, i < b → b ≤ j → U i b q = U' i b q) (hP : ∀ a q, i < a → a < j → P a j q = P' a j q) (p : Nat) : mu_ps X U P i j p = mu_ps X U' P' i j p := by
  unfold mu_ps
  rw [hU j p hij (Nat.le_refl j)]
  congr 1
  have key : ∀ e ∈ List.range (j - (i + 1)), mu_Pe X U P i (i + 1 + e) j p = mu_Pe X U' P' i (i + 1 + e) j p := by
    intro e he
    have he := List.mem_range.mp he
    unfold mu_Pe mu_Pt
    have e1 : ∀ q, U i (i + 1 + e) q = U' i (i + 1 + e) q := fun q => hU _ q (by omega) (by omega)
    have e2 : ∀ q, P (i + 1 + e) j q = P' (i + 1 + e) j q := fun q => hP _ q (by omega) (by omega)
    simp only [e1, e2]
  rw [List.flatMap_def, List.flatMap_def, List.map_congr_left key]
theorem mx_PP_st (X : MX) : ∀ d i j p, i < j → j - i ≤ d → mx_PP X d i j p = mx_PP X (d + 1) i j p
  | 0, i, j, p, h1, h2 => absurd h2 (by omega)
  | d + 1, i, j, p, h1, h2 => by
    show (mu_ps X (mx_U X (mx_PP X d)) (mx_PP X d) i j p).foldl ac_ad ac_0 = (mu_ps X (mx_U X (mx_PP X (d + 1))) (mx_PP X (d + 1)) i j p).foldl ac_ad ac_0
    rw [mu_ps_cong X h1 (fun b q hb1 hb2 => ?_) (fun a q ha1 ha2 => mx_PP_st X d a j q ha2 (by omega)) p]
    unfold mx_U
    rw [mu_us_cong X hb1 (fun a b q hab hw => mx_PP_st X d a b q hab (by omega)) q]
theorem MP_eq (X : MX) {i j : Nat} (p : Nat) (h1 : i < j) (h2 : j - i ≤ 7) : MP X i j p = (mu_ps X (MU X) (MP X) i j p).foldl ac_ad ac_0 := mx_PP_st X 7 i j p h1 h2
theorem MU_eq (X : MX) (i j p : Nat) : MU X i j p = (mu_us X (MP X) i j p).foldl ac_ad ac_0 := rfl
