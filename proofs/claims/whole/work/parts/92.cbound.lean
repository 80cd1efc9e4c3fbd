/-! no clue has more than a million parses -/
def cs_n (bk : List ME) (s : Nat) : Nat := bk.countP (fun x => x.2.2 == s)
theorem cs_sum : ∀ bk : List ME, cs_n bk 0 + cs_n bk 2 + cs_n bk 4 + cs_n bk 5 + cs_n bk 7 + cs_n bk 8 ≤ bk.length
  | [] => Nat.le_refl _
  | x :: bk => by
    have ih := cs_sum bk
    have e : ∀ s, cs_n (x :: bk) s = cs_n bk s + (if x.2.2 == s then 1 else 0) := fun s => by
      unfold cs_n
      rw [List.countP_cons]
    have key : (if x.2.2 == 0 then 1 else 0) + (if x.2.2 == 2 then 1 else 0) + (if x.2.2 == 4 then 1 else 0) + (if x.2.2 == 5 then 1 else 0) + (if x.2.2 == 7 then 1 else 0) + (if x.2.2 == 8 then 1 else 0) ≤ 1 := by
      simp only [beq_iff_eq]
      repeat' split
      all_goals omega
    rw [e, e, e, e, e, e, List.length_cons]
    omega
theorem cs_pos {X : MX} {w s : Nat} (h : mx_mk X w s = true) : 1 ≤ cs_n X.1 s := by
  unfold mx_mk at h
  obtain ⟨e, he, h⟩ := List.any_eq_true.mp h
  rw [Bool.and_eq_true] at h
  have he := List.mem_range.mp he
  rw [List.getElem?_eq_getElem he] at h
  simp only [Bool.and_eq_true, decide_eq_true_eq] at h
  unfold cs_n
  rw [Nat.one_le_iff_ne_zero, Ne, List.countP_eq_zero]
  intro hz
  exact hz X.1[e] (List.getElem_mem he) (by simp [h.2.1])
theorem any_pos {X : MX} {s : Nat} (h : any_s X s = true) : 1 ≤ cs_n X.1 s := by
  obtain ⟨w, -, hm⟩ := List.any_eq_true.mp h
  exact cs_pos hm
theorem cp_two {α : Type} (p q : α → Bool) : ∀ l : List α, l.countP p + l.countP q = l.countP (fun x => p x || q x) + l.countP (fun x => p x && q x)
  | [] => rfl
  | x :: l => by
    have ih := cp_two p q l
    simp only [List.countP_cons]
    cases hp : p x <;> cases hq : q x <;> simp <;> omega
theorem cp_one {z : ME} {p : ME → Bool} : ∀ {l : List ME}, l.Nodup → (∀ x ∈ l, p x = true → x = z) → l.countP p ≤ 1
  | [], _, _ => Nat.zero_le _
  | a :: l, hn, h => by
    rw [List.nodup_cons] at hn
    rw [List.countP_cons]
    by_cases ha : p a = true
    · have e := h a List.mem_cons_self ha
      have : l.countP p = 0 := by
        rw [List.countP_eq_zero]
        intro x hx hp
        have e2 := h x (List.mem_cons_of_mem _ hx) hp
        rw [e2, ← e] at hx
        exact hn.1 hx
      rw [this, if_pos ha]
      exact Nat.le_refl _
    · rw [if_neg ha]
      exact cp_one hn.2 (fun x hx => h x (List.mem_cons_of_mem _ hx))
def gT (w sp : List Nat) (s : Nat) (x : ME) : Bool := decide (w = x.1 ∧ mu_short s x.2.1 = sp)
theorem te_cp (X : MX) (s i p : Nat) : ac_t ((List.range X.1.length).flatMap (mu_Te X s i p)) ≤ X.1.countP (gT (X.2.1.getD (i + 1) []) (mx_sp X p) s) := by
  have key : ∀ k, k ≤ X.1.length → ac_t ((List.range k).flatMap (mu_Te X s i p)) ≤ (X.1.take k).countP (gT (X.2.1.getD (i + 1) []) (mx_sp X p) s) := by
    intro k
    induction k with
    | zero => intro _; exact Nat.zero_le _
    | succ k ih =>
      intro hk
      have ih := ih (by omega)
      have hx : X.1[k]? = some (X.1[k]'(by omega)) := List.getElem?_eq_getElem (by omega)
      generalize X.1[k]'(by omega) = x at hx
      rw [fm_s, ac_t_app, List.take_succ, hx, List.countP_append]
      have : ac_t (mu_Te X s i p k) ≤ [x].countP (gT (X.2.1.getD (i + 1) []) (mx_sp X p) s) := by
        unfold mu_Te
        rw [hx]
        simp only
        split
        · rename_i hc
          rw [List.countP_cons, if_pos (by unfold gT; exact decide_eq_true ⟨hc.2.1, hc.2.2⟩)]
          simp [ac_t]
        · exact Nat.zero_le _
      show _ ≤ _ + [x].countP _
      omega
  have := key X.1.length (Nat.le_refl _)
  rwa [List.take_length] at this
/-- the two ways to cut, together -/
theorem mu_T_bd {X : MX} (hB : mb_B X.1) {i j p : Nat} (hs : 1 ≤ pt_sz p) : ac_t (mu_T X 7 i j p) + ac_t (mu_T X 8 i j p) ≤ 25 ∧ (any_s X 2 = true → any_s X 4 = true → any_s X 5 = true → ac_t (mu_T X 7 i j p) + ac_t (mu_T X 8 i j p) ≤ 22) := by
  have hsum := cs_sum X.1
  have hlen := hB.1
  have hsl := mx_sp_len X p
  have t7 := te_cp X 7 i p
  have t8 := te_cp X 8 i p
  have two := cp_two (gT (X.2.1.getD (i + 1) []) (mx_sp X p) 7) (gT (X.2.1.getD (i + 1) []) (mx_sp X p) 8) X.1
  have nz : ∀ s x, x ∈ X.1 → mu_short s x.2.1 = mx_sp X p → x.2.2 = 0 := by
    intro s x hx hm
    rcases (hB.2.1 x hx).2.2.2.2 with z | z
    · exact z.1
    · rw [z.2.2] at hm
      have e : mu_short s [] = [] := by unfold mu_short; split <;> rfl
      rw [e] at hm
      rw [← hm] at hsl
      rw [List.length_nil] at hsl
      omega
  have one : ∀ s, X.1.countP (gT (X.2.1.getD (i + 1) []) (mx_sp X p) s) ≤ cs_n X.1 0 := fun s => List.countP_mono_left (fun x hx hg => by
    unfold gT at hg
    have hg := of_decide_eq_true hg
    simp [nz s x hx hg.2])
  have bor : X.1.countP (fun x => gT (X.2.1.getD (i + 1) []) (mx_sp X p) 7 x || gT (X.2.1.getD (i + 1) []) (mx_sp X p) 8 x) ≤ cs_n X.1 0 := List.countP_mono_left (fun x hx hg => by
    rw [Bool.or_eq_true] at hg
    rcases hg with hg | hg
    · have hg := of_decide_eq_true hg
      simp [nz 7 x hx hg.2]
    · have hg := of_decide_eq_true hg
      simp [nz 8 x hx hg.2])
  have bnd : X.1.countP (fun x => gT (X.2.1.getD (i + 1) []) (mx_sp X p) 7 x && gT (X.2.1.getD (i + 1) []) (mx_sp X p) 8 x) ≤ 1 := by
    refine cp_one (z := (X.2.1.getD (i + 1) [], (mx_sp X p).headD 0 :: mx_sp X p, 0)) hB.2.2 (fun x hx hg => ?_)
    rw [Bool.and_eq_true] at hg
    have h7 := of_decide_eq_true hg.1
    have h8 := of_decide_eq_true hg.2
    have h0 := nz 7 x hx h7.2
    have e7 : x.2.1.drop 1 = mx_sp X p := h7.2
    have e8 : x.2.1.take (x.2.1.length - 1) = mx_sp X p := h8.2
    have eg : x.2.1 = (mx_sp X p).headD 0 :: mx_sp X p := by
      cases hg1 : x.2.1 with
      | nil =>
        rw [hg1] at e7
        have e7 : [] = mx_sp X p := e7
        rw [← e7, List.length_nil] at hsl
        omega
      | cons c r =>
        rw [hg1] at e7 e8
        have e7 : r = mx_sp X p := e7
        rw [e7] at e8 ⊢
        cases hr : mx_sp X p with
        | nil => rw [hr, List.length_nil] at hsl; omega
        | cons y r' =>
          rw [hr] at e8
          have e8 : (c :: y :: r').take (r'.length + 1) = y :: r' := e8
          rw [List.take_succ_cons] at e8
          injection e8 with e9 _
          rw [e9]
          rfl
    exact Prod.ext h7.1.symm (Prod.ext eg h0)
  have a7 : ac_t (mu_T X 7 i j p) ≤ 1 + X.1.countP (gT (X.2.1.getD (i + 1) []) (mx_sp X p) 7) ∧ (¬ mx_mk X i 7 = true → ac_t (mu_T X 7 i j p) = 0) := by
    unfold mu_T
    refine ⟨?_, fun hz => by rw [if_neg (fun z => hz z.2)]; rfl⟩
    split
    · rw [ac_t_app]
      have b1 : ac_t (if mu_short 7 (X.2.1.getD (i + 1) []) = mx_sp X p then [((1, X.2.2.2.1 7 + X.2.2.2.1 1, 1, 7 * 8192) : AC)] else []) ≤ 1 := by split <;> simp [ac_t]
      omega
    · exact Nat.zero_le _
  have a8 : ac_t (mu_T X 8 i j p) ≤ 1 + X.1.countP (gT (X.2.1.getD (i + 1) []) (mx_sp X p) 8) ∧ (¬ mx_mk X i 8 = true → ac_t (mu_T X 8 i j p) = 0) := by
    unfold mu_T
    refine ⟨?_, fun hz => by rw [if_neg (fun z => hz z.2)]; rfl⟩
    split
    · rw [ac_t_app]
      have b1 : ac_t (if mu_short 8 (X.2.1.getD (i + 1) []) = mx_sp X p then [((1, X.2.2.2.1 8 + X.2.2.2.1 1, 1, 8 * 8192) : AC)] else []) ≤ 1 := by split <;> simp [ac_t]
      omega
    · exact Nat.zero_le _
  have o7 := one 7
  have o8 := one 8
  by_cases m7 : mx_mk X i 7 = true
  · have p7 := cs_pos m7
    by_cases m8 : mx_mk X i 8 = true
    · have p8 := cs_pos m8
      exact ⟨by omega, fun h2 h4 h5 => by have := any_pos h2; have := any_pos h4; have := any_pos h5; omega⟩
    · have z8 := a8.2 m8
      exact ⟨by omega, fun h2 h4 h5 => by have := any_pos h2; have := any_pos h4; have := any_pos h5; omega⟩
  · have z7 := a7.2 m7
    by_cases m8 : mx_mk X i 8 = true
    · have p8 := cs_pos m8
      exact ⟨by omega, fun h2 h4 h5 => by have := any_pos h2; have := any_pos h4; have := any_pos h5; omega⟩
    · have z8 := a8.2 m8
      exact ⟨by omega, fun _ _ _ => by omega⟩
/-! the numbers: bt cuts, r turns, c4 and c5 containers -/
def bS (n : Nat) (f : Nat → Nat) : Nat := ((List.range n).map f).sum
def bC (P : Nat → Nat → Nat) (s w n : Nat) : Nat := bS (w - 2) (fun k => bS (n - 2) (fun f => bS (n - (f + 2)) (fun t => if s = 4 then P (k + 1) (n - (t + 1)) * P (w - 2 - k) (t + 1) else P (k + 1) (t + 1) * P (w - 2 - k) (n - (t + 1)))))
def bU (K : Nat × Nat × Nat × Nat) (P : Nat → Nat → Nat) (w n : Nat) : Nat := if w = 1 then 2 else K.2.1 * (if 2 ≤ n then 2 * P (w - 1) n else 0) + (3 + ((if w = 2 then K.1 else 6) + (K.2.2.1 * bC P 4 w n + K.2.2.2 * bC P 5 w n)))
def bP (K : Nat × Nat × Nat × Nat) : Nat → Nat → Nat → Nat
  | 0 => fun _ _ => 0
  | d + 1 => fun w n => bS (w - 1) (fun e => bS (n - 1) (fun t => bU K (bP K d) (e + 1) (t + 1) * bP K d (w - 1 - e) (n - 1 - t))) + bU K (bP K d) w n
theorem bS_flat {f : Nat → List AC} {g : Nat → Nat} : ∀ n, (∀ k, k < n → ac_t (f k) ≤ g k) → ac_t ((List.range n).flatMap f) ≤ bS n g
  | 0, _ => Nat.le_refl _
  | n + 1, h => by
    rw [fm_s, ac_t_app]
    unfold bS
    rw [mp_s, List.sum_append]
    have h1 := bS_flat n (fun k hk => h k (by omega))
    have h2 := h n (by omega)
    unfold bS at h1
    show _ ≤ _ + (g n + 0)
    omega
theorem bS_map {f : Nat → AC} {g : Nat → Nat} : ∀ n, (∀ k, k < n → (f k).1 ≤ g k) → ac_t ((List.range n).map f) ≤ bS n g
  | 0, _ => Nat.le_refl _
  | n + 1, h => by
    rw [mp_s, ac_t_app]
    unfold bS
    rw [mp_s, List.sum_append]
    have h1 := bS_map n (fun k hk => h k (by omega))
    have h2 := h n (by omega)
    unfold bS at h1
    show _ + ac_t [f n] ≤ _ + (g n + 0)
    have : ac_t [f n] = (f n).1 := by simp [ac_t]
    omega
def bK (X : MX) (K : Nat × Nat × Nat × Nat) : Prop := (any_s X 2 = true → 1 ≤ K.2.1) ∧ (any_s X 4 = true → 1 ≤ K.2.2.1) ∧ (any_s X 5 = true → 1 ≤ K.2.2.2) ∧ ∀ i j p, 1 ≤ pt_sz p → ac_t (mu_T X 7 i j p) + ac_t (mu_T X 8 i j p) ≤ K.1
theorem bU_ok {X : MX} {K : Nat × Nat × Nat × Nat} (hK : bK X K) (hX : ∀ w, (X.2.1.getD w []).length ≤ 7) {P : Nat → Nat → Nat → AC} {b : Nat → Nat → Nat} {i j : Nat} (hij : i < j) (hj : j ≤ X.2.1.length) (hP : ∀ a c q, a < c → c - a < j - i → c ≤ X.2.1.length → 1 ≤ pt_sz q → q < 512 → (P a c q).1 ≤ b (c - a) (pt_sz q)) {p : Nat} (hs : 1 ≤ pt_sz p) (hp : p < 512) : ac_t (mu_us X P i j p) ≤ bU K b (j - i) (pt_sz p) := by
  have hsz := pt_sz_le p
  unfold mu_us bU
  by_cases h1 : j - i = 1
  · rw [if_pos h1, if_pos h1]
    unfold mu_1
    rw [ac_t_app]
    have a1 : ac_t (if mx_sy X (X.2.1.getD i []) (mx_sp X p) then [((1, X.2.2.2.1 0, 1, 0) : AC)] else []) ≤ 1 := ac_if (by simp [ac_t])
    have a2 : ac_t (if X.2.1.getD i [] = mx_sp X p then [((1, X.2.2.2.1 1, 1, 8192) : AC)] else []) ≤ 1 := by split <;> simp [ac_t]
    omega
  rw [if_neg h1, if_neg h1]
  have hszx : pt_sz (p ^^^ 256) = pt_sz p := by unfold pt_sz; rw [(pt_rev p hp).1, List.length_reverse]
  have hR : ac_t (mu_R X P i j p) ≤ K.2.1 * (if 2 ≤ pt_sz p then 2 * b (j - i - 1) (pt_sz p) else 0) := by
    by_cases h2 : any_s X 2 = true
    · have hr := hK.1 h2
      refine Nat.le_trans ?_ (Nat.le_mul_of_pos_left _ hr)
      unfold mu_R
      by_cases hs2 : 2 ≤ pt_sz p
      · rw [if_pos hs2, if_pos hs2, ac_t_app]
        have a1 := hP (i + 1) j (p ^^^ 256) (by omega) (by omega) hj (by omega) (pt_rev p hp).2
        have a2 := hP i (j - 1) (p ^^^ 256) (by omega) (by omega) (by omega) (by omega) (pt_rev p hp).2
        rw [show j - (i + 1) = j - i - 1 by omega, hszx] at a1
        rw [show j - 1 - i = j - i - 1 by omega, hszx] at a2
        have b1 : ac_t (if mx_mk X i 2 then [(((P (i + 1) j (p ^^^ 256)).1, X.2.2.2.1 2 + (P (i + 1) j (p ^^^ 256)).2.1, (P (i + 1) j (p ^^^ 256)).2.2.1, 16384) : AC)] else []) ≤ b (j - i - 1) (pt_sz p) := ac_if (by simpa [ac_t] using a1)
        have b2 : ac_t (if mx_mk X (j - 1) 2 then [(((P i (j - 1) (p ^^^ 256)).1, X.2.2.2.1 2 + (P i (j - 1) (p ^^^ 256)).2.1, (P i (j - 1) (p ^^^ 256)).2.2.1, 16385) : AC)] else []) ≤ b (j - i - 1) (pt_sz p) := ac_if (by simpa [ac_t] using a2)
        omega
      · rw [if_neg hs2]
        exact Nat.zero_le _
    · have n1 : ¬ mx_mk X i 2 = true := fun z => h2 (any_s_of (by omega) z)
      have n2 : ¬ mx_mk X (j - 1) 2 = true := fun z => h2 (any_s_of (by omega) z)
      unfold mu_R
      rw [if_neg n1, if_neg n2]
      split <;> exact Nat.zero_le _
  have hA : ac_t (mu_A X i j p) ≤ 2 := by
    unfold mu_A
    rw [ac_t_app]
    have b1 : ac_t (if mx_mk X i 3 && mu_ana (mu_fl X.2.1 (i + 1) j) (mx_sp X p) then [((1, X.2.2.2.1 3, 1, 24576) : AC)] else []) ≤ 1 := ac_if (by simp [ac_t])
    have b2 : ac_t (if mx_mk X (j - 1) 3 && mu_ana (mu_fl X.2.1 i (j - 1)) (mx_sp X p) then [((1, X.2.2.2.1 3, 1, 24577) : AC)] else []) ≤ 1 := ac_if (by simp [ac_t])
    omega
  have hC0 : ∀ s, ¬ any_s X s = true → ac_t (mu_C X P s i j p) = 0 := by
    intro s hn
    unfold mu_C
    have : (List.range (j - 2 - i)).flatMap (fun k => if mx_mk X (i + 1 + k) s then mu_Ck X P s i j p (i + 1 + k) else []) = [] := by
      rw [List.flatMap_eq_nil_iff]
      intro k hk
      have hk := List.mem_range.mp hk
      rw [if_neg (fun z => hn (any_s_of (by omega) z))]
    rw [this]
    rfl
  have hC : ∀ s, (s = 4 ∨ s = 5) → ac_t (mu_C X P s i j p) ≤ bC b s (j - i) (pt_sz p) := by
    intro s hs4
    unfold mu_C bC
    rw [show j - i - 2 = j - 2 - i by omega]
    refine bS_flat _ (fun k hk => ac_if ?_)
    unfold mu_Ck
    refine bS_flat _ (fun f hf => bS_map _ (fun t ht => ?_))
    have z1 := ps_sz (p := p) (a := f + 1) (b := f + 2 + t) (by omega)
    have z2 := pm_sz (p := p) (a := f + 1) (b := f + 2 + t) (by omega) (by omega)
    have l1 := (pt_s_pos p (f + 1) (f + 2 + t)).2.2
    have l2 := pt_m_lt (pt_s p (f + 1) (f + 2 + t)) hp
    unfold mu_Cf
    simp only
    rcases hs4 with rfl | rfl
    · rw [if_pos rfl, if_pos rfl, if_pos rfl]
      have e1 := hP i (i + 1 + k) (pt_m p (pt_s p (f + 1) (f + 2 + t))) (by omega) (by omega) (by omega) (by omega) l2
      have e2 := hP (i + 1 + k + 1) j (pt_s p (f + 1) (f + 2 + t)) (by omega) (by omega) hj (by omega) l1
      rw [show i + 1 + k - i = k + 1 by omega, show pt_sz (pt_m p (pt_s p (f + 1) (f + 2 + t))) = pt_sz p - (t + 1) by omega] at e1
      rw [show j - (i + 1 + k + 1) = j - 2 - i - k by omega, show pt_sz (pt_s p (f + 1) (f + 2 + t)) = t + 1 by omega] at e2
      exact Nat.mul_le_mul e1 e2
    · rw [if_neg (by decide), if_neg (by decide), if_neg (by decide)]
      have e1 := hP i (i + 1 + k) (pt_s p (f + 1) (f + 2 + t)) (by omega) (by omega) (by omega) (by omega) l1
      have e2 := hP (i + 1 + k + 1) j (pt_m p (pt_s p (f + 1) (f + 2 + t))) (by omega) (by omega) hj (by omega) l2
      rw [show i + 1 + k - i = k + 1 by omega, show pt_sz (pt_s p (f + 1) (f + 2 + t)) = t + 1 by omega] at e1
      rw [show j - (i + 1 + k + 1) = j - 2 - i - k by omega, show pt_sz (pt_m p (pt_s p (f + 1) (f + 2 + t))) = pt_sz p - (t + 1) by omega] at e2
      exact Nat.mul_le_mul e1 e2
  have c4 : ac_t (mu_C X P 4 i j p) ≤ K.2.2.1 * bC b 4 (j - i) (pt_sz p) := by
    by_cases ha : any_s X 4 = true
    · exact Nat.le_trans (hC 4 (Or.inl rfl)) (Nat.le_mul_of_pos_left _ (hK.2.1 ha))
    · rw [hC0 4 ha]; exact Nat.zero_le _
  have c5 : ac_t (mu_C X P 5 i j p) ≤ K.2.2.2 * bC b 5 (j - i) (pt_sz p) := by
    by_cases ha : any_s X 5 = true
    · exact Nat.le_trans (hC 5 (Or.inr rfl)) (Nat.le_mul_of_pos_left _ (hK.2.2.1 ha))
    · rw [hC0 5 ha]; exact Nat.zero_le _
  have hHT : ac_t (mu_H X i j p) + (ac_t (mu_T X 7 i j p) + ac_t (mu_T X 8 i j p)) ≤ (if j - i = 2 then K.1 else 6) := by
    by_cases h2 : j - i = 2
    · rw [if_pos h2]
      have hH0 : ac_t (mu_H X i j p) = 0 := by
        unfold mu_H
        rw [if_neg (fun z => by omega)]
        rfl
      have := hK.2.2.2 i j p hs
      omega
    · rw [if_neg h2]
      have t0 : ∀ s, ac_t (mu_T X s i j p) = 0 := fun s => by
        unfold mu_T
        rw [if_neg (fun z => h2 z.1)]
        rfl
      rw [t0, t0]
      have hH : ac_t (mu_H X i j p) ≤ 6 := by
        unfold mu_H
        split
        · rw [ac_t_cons, ac_t_nil]
          have := List.length_filter_le (fun k => mu_hid X.2.1 (i + 1) j (mx_sp X p) (ml_s X.2.1 (i + 1) + 1 + k)) (List.range ((X.2.1.getD (i + 1) []).length - 1))
          rw [List.length_range] at this
          have h7 := hX (i + 1)
          have e : (mu_hids X.2.1 (i + 1) j (mx_sp X p)).length ≤ (X.2.1.getD (i + 1) []).length - 1 := this
          simp only
          omega
        · exact Nat.zero_le _
      omega
  have hI : ac_t (mu_I X i j p) ≤ 1 := by
    unfold mu_I
    split <;> simp [ac_t]
  rw [ac_t_app, ac_t_app, ac_t_app, ac_t_app, ac_t_app, ac_t_app, ac_t_app]
  omega
theorem bP_ok {X : MX} {K : Nat × Nat × Nat × Nat} (hK : bK X K) (hX : ∀ w, (X.2.1.getD w []).length ≤ 7) : ∀ d i j p, i < j → j ≤ X.2.1.length → 1 ≤ pt_sz p → p < 512 → (mx_PP X d i j p).1 ≤ bP K d (j - i) (pt_sz p)
  | 0, i, j, p, _, _, _, _ => Nat.zero_le _
  | d + 1, i, j, p, h1, h2, h3, h4 => by
    show ((mu_ps X (mx_U X (mx_PP X d)) (mx_PP X d) i j p).foldl ac_ad ac_0).1 ≤ _
    have hU : ∀ c q, i < c → c ≤ j → 1 ≤ pt_sz q → q < 512 → (mx_U X (mx_PP X d) i c q).1 ≤ bU K (bP K d) (c - i) (pt_sz q) := by
      intro c q hc1 hc2 hq hq5
      unfold mx_U
      rw [ac_fold_1]
      show 0 + _ ≤ _
      rw [Nat.zero_add]
      exact bU_ok hK hX hc1 (by omega) (fun a e r ha _ he hr hr5 => bP_ok hK hX d a e r ha he hr hr5) hq hq5
    have hsz := pt_sz_le p
    rw [ac_fold_1]
    show 0 + _ ≤ bS (j - i - 1) (fun e => bS (pt_sz p - 1) (fun t => bU K (bP K d) (e + 1) (t + 1) * bP K d (j - i - 1 - e) (pt_sz p - 1 - t))) + bU K (bP K d) (j - i) (pt_sz p)
    rw [Nat.zero_add]
    unfold mu_ps
    rw [ac_t_app, ac_t_cons, ac_t_nil]
    have u1 := hU j p h1 (Nat.le_refl j) h3 h4
    have b1 : ac_t ((List.range (j - (i + 1))).flatMap (fun e => mu_Pe X (mx_U X (mx_PP X d)) (mx_PP X d) i (i + 1 + e) j p)) ≤ bS (j - i - 1) (fun e => bS (pt_sz p - 1) (fun t => bU K (bP K d) (e + 1) (t + 1) * bP K d (j - i - 1 - e) (pt_sz p - 1 - t))) := by
      rw [show j - (i + 1) = j - i - 1 by omega]
      refine bS_flat _ (fun e he => ?_)
      unfold mu_Pe
      refine bS_map _ (fun t ht => ?_)
      unfold mu_Pt
      simp only
      have z1 := ps_sz (p := p) (a := 0) (b := t + 1) (by omega)
      have z2 : pt_sz (pt_s p (t + 1) 8) = pt_sz p - (t + 1) := by
        rw [← pt_m_s0 h4, pm_sz (by omega) (by omega)]
        omega
      have e1 := hU (i + 1 + e) (pt_s p 0 (t + 1)) (by omega) (by omega) (by omega) (pt_s_pos p 0 (t + 1)).2.2
      have e2 := bP_ok hK hX d (i + 1 + e) j (pt_s p (t + 1) 8) (by omega) h2 (by omega) (pt_s_pos p (t + 1) 8).2.2
      rw [show i + 1 + e - i = e + 1 by omega, show pt_sz (pt_s p 0 (t + 1)) = t + 1 by omega] at e1
      rw [show j - (i + 1 + e) = j - i - 1 - e by omega, show pt_sz (pt_s p (t + 1) 8) = pt_sz p - 1 - t by omega] at e2
      exact Nat.mul_le_mul e1 e2
    simp only
    omega
