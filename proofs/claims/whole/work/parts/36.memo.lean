/-! the memo of units and pieces -/
def sl_un (n : Nat) : Nat × Nat := ([(0, 1), (0, 2), (1, 2), (0, 3), (1, 3), (2, 3), (0, 4), (1, 4), (2, 4), (3, 4), (0, 5), (1, 5), (2, 5), (3, 5), (4, 5), (0, 6), (1, 6), (2, 6), (3, 6), (4, 6), (5, 6)] : List (Nat × Nat)).getD n (0, 0)
theorem sl_tri1 : ∀ j, j < 7 → ∀ i, i < j → sl_un (j * (j - 1) / 2 + i) = (i, j) := by decide +kernel
theorem sl_tri2 : ∀ j, j < 7 → ∀ i, i < j → ∀ j2, j2 < 7 → ∀ i2, i2 < j2 → j * (j - 1) / 2 + i = j2 * (j2 - 1) / 2 + i2 → i = i2 ∧ j = j2 := by
  intro j hj i hi j2 hj2 i2 hi2 h
  have h1 := sl_tri1 j hj i hi
  rw [h, sl_tri1 j2 hj2 i2 hi2] at h1
  cases h1
  exact ⟨rfl, rfl⟩
theorem sl_inj {i j p a b q : Nat} (h1 : i < j) (h2 : j ≤ 6) (h3 : p < 512) (g1 : a < b) (g2 : b ≤ 6) (g3 : q < 512) (h : sl i j p = sl a b q) : i = a ∧ j = b ∧ p = q := by
  unfold sl at h
  have e : p = q := by omega
  obtain ⟨e1, e2⟩ := sl_tri2 j (by omega) i h1 b (by omega) a g1 (by omega)
  exact ⟨e1, e2, e⟩
def tvP (A : Nat → Nat → Int32) (B : Nat → Nat → Int64) (k : Nat) (q : AC) : Prop := B 3 k = lN q.1 ∧ A 7 k = nI q.2.1 ∧ B 4 k = lN q.2.2.1 ∧ A 8 k = nI q.2.2.2
def tvU (A : Nat → Nat → Int32) (B : Nat → Nat → Int64) (k : Nat) (q : AC) : Prop := B 5 k = lN q.1 ∧ A 10 k = nI q.2.1 ∧ B 6 k = lN q.2.2.1 ∧ A 11 k = nI q.2.2.2
def smP (A : Nat → Nat → Int32) (B : Nat → Nat → Int64) (A' : Nat → Nat → Int32) (B' : Nat → Nat → Int64) (k : Nat) : Prop := A' 6 k = A 6 k ∧ A' 7 k = A 7 k ∧ A' 8 k = A 8 k ∧ B' 3 k = B 3 k ∧ B' 4 k = B 4 k
def smU (A : Nat → Nat → Int32) (B : Nat → Nat → Int64) (A' : Nat → Nat → Int32) (B' : Nat → Nat → Int64) (k : Nat) : Prop := A' 9 k = A 9 k ∧ A' 10 k = A 10 k ∧ A' 11 k = A 11 k ∧ B' 5 k = B 5 k ∧ B' 6 k = B 6 k
def mv (n : Int32) (r : Nat) (eP eU : Option Nat) (A : Nat → Nat → Int32) (B : Nat → Nat → Int64) (A' : Nat → Nat → Int32) (B' : Nat → Nat → Int64) : Prop :=
  (∀ k, k < 6 ∨ 12 ≤ k → A' k = A k) ∧ (∀ k, k < 3 ∨ 7 ≤ k → B' k = B k) ∧ (∀ s, A' 6 s = n ∨ smP A B A' B' s) ∧ (∀ s, A' 9 s = n ∨ smU A B A' B' s) ∧
  (∀ i j p, i < j → j ≤ 6 → p < 512 → r < 2 * (j - i) + 1 → ¬ eP = some (sl i j p) → smP A B A' B' (sl i j p)) ∧
  ∀ i j p, i < j → j ≤ 6 → p < 512 → r < 2 * (j - i) → ¬ eU = some (sl i j p) → smU A B A' B' (sl i j p)
def rg (X : MX) (i j p : Nat) : Prop := i < j ∧ j ≤ X.2.1.length ∧ pt_ok X p ∧ 1 ≤ pt_sz p
def ok (X : MX) (n : Int32) (r : Nat) (A : Nat → Nat → Int32) (B : Nat → Nat → Int64) : Prop :=
  (∀ i j p, rg X i j p → 2 * (j - i) + 1 ≤ r → A 6 (sl i j p) = n → tvP A B (sl i j p) (MP X i j p)) ∧
  ∀ i j p, rg X i j p → 2 * (j - i) ≤ r → A 9 (sl i j p) = n → tvU A B (sl i j p) (MU X i j p)
section MV
variable {n : Int32} {r r2 : Nat} {eP eU : Option Nat} {A A1 A' : Nat → Nat → Int32} {B B1 B' : Nat → Nat → Int64} {X : MX}
theorem smP.tr {k : Nat} (h : smP A B A1 B1 k) (g : smP A1 B1 A' B' k) : smP A B A' B' k := ⟨g.1.trans h.1, g.2.1.trans h.2.1, g.2.2.1.trans h.2.2.1, g.2.2.2.1.trans h.2.2.2.1, g.2.2.2.2.trans h.2.2.2.2⟩
theorem smU.tr {k : Nat} (h : smU A B A1 B1 k) (g : smU A1 B1 A' B' k) : smU A B A' B' k := ⟨g.1.trans h.1, g.2.1.trans h.2.1, g.2.2.1.trans h.2.2.1, g.2.2.2.1.trans h.2.2.2.1, g.2.2.2.2.trans h.2.2.2.2⟩
theorem smP.v {k : Nat} {q : AC} (h : smP A B A' B' k) (g : tvP A B k q) : tvP A' B' k q := ⟨h.2.2.2.1.trans g.1, h.2.1.trans g.2.1, h.2.2.2.2.trans g.2.2.1, h.2.2.1.trans g.2.2.2⟩
theorem smU.v {k : Nat} {q : AC} (h : smU A B A' B' k) (g : tvU A B k q) : tvU A' B' k q := ⟨h.2.2.2.1.trans g.1, h.2.1.trans g.2.1, h.2.2.2.2.trans g.2.2.1, h.2.2.1.trans g.2.2.2⟩
theorem mv.rf : mv n r eP eU A B A B := ⟨fun _ _ => rfl, fun _ _ => rfl, fun _ => Or.inr ⟨rfl, rfl, rfl, rfl, rfl⟩, fun _ => Or.inr ⟨rfl, rfl, rfl, rfl, rfl⟩, fun _ _ _ _ _ _ _ _ => ⟨rfl, rfl, rfl, rfl, rfl⟩, fun _ _ _ _ _ _ _ _ => ⟨rfl, rfl, rfl, rfl, rfl⟩⟩
theorem mv.tr (h : mv n r eP eU A B A1 B1) (g : mv n r eP eU A1 B1 A' B') : mv n r eP eU A B A' B' :=
  ⟨fun k hk => (g.1 k hk).trans (h.1 k hk), fun k hk => (g.2.1 k hk).trans (h.2.1 k hk), fun s => (g.2.2.1 s).elim Or.inl (fun gs => (h.2.2.1 s).elim (fun hs => Or.inl (gs.1.trans hs)) (fun hs => Or.inr (hs.tr gs))), fun s => (g.2.2.2.1 s).elim Or.inl (fun gs => (h.2.2.2.1 s).elim (fun hs => Or.inl (gs.1.trans hs)) (fun hs => Or.inr (hs.tr gs))), fun i j p a b c d e => (h.2.2.2.2.1 i j p a b c d e).tr (g.2.2.2.2.1 i j p a b c d e), fun i j p a b c d e => (h.2.2.2.2.2 i j p a b c d e).tr (g.2.2.2.2.2 i j p a b c d e)⟩
theorem mv.stP (h : mv n r eP eU A B A' B') {s : Nat} (hs : A 6 s = n) : A' 6 s = n := (h.2.2.1 s).elim id (fun g => g.1.trans hs)
theorem mv.stU (h : mv n r eP eU A B A' B') {s : Nat} (hs : A 9 s = n) : A' 9 s = n := (h.2.2.2.1 s).elim id (fun g => g.1.trans hs)
theorem mv.up (h : mv n r none none A B A' B') (hr : r ≤ r2) : mv n r2 eP eU A B A' B' :=
  ⟨h.1, h.2.1, h.2.2.1, h.2.2.2.1, fun i j p a b c d _ => h.2.2.2.2.1 i j p a b c (by omega) (fun q => by cases q), fun i j p a b c d _ => h.2.2.2.2.2 i j p a b c (by omega) (fun q => by cases q)⟩
theorem mv.cU {i j p : Nat} (h : mv n (2 * (j - i) - 1) none (some (sl i j p)) A B A' B') (h1 : i < j) (h2 : j ≤ 6) (h3 : p < 512) : mv n (2 * (j - i)) none none A B A' B' :=
  ⟨h.1, h.2.1, h.2.2.1, h.2.2.2.1, fun a b q x y z d _ => h.2.2.2.2.1 a b q x y z (by omega) (fun e => by cases e), fun a b q x y z d _ => h.2.2.2.2.2 a b q x y z (by omega) (fun e => by
    have e := sl_inj h1 h2 h3 x y z (Option.some.inj e)
    omega)⟩
theorem mv.cP {i j p : Nat} (h : mv n (2 * (j - i)) (some (sl i j p)) none A B A' B') (h1 : i < j) (h2 : j ≤ 6) (h3 : p < 512) : mv n (2 * (j - i) + 1) none none A B A' B' :=
  ⟨h.1, h.2.1, h.2.2.1, h.2.2.2.1, fun a b q x y z d _ => h.2.2.2.2.1 a b q x y z (by omega) (fun e => by
    have e := sl_inj h1 h2 h3 x y z (Option.some.inj e)
    omega), fun a b q x y z d _ => h.2.2.2.2.2 a b q x y z (by omega) (fun e => by cases e)⟩
theorem ok.dn (h : ok X n r2 A B) (hr : r ≤ r2) : ok X n r A B := ⟨fun i j p a b => h.1 i j p a (by omega), fun i j p a b => h.2 i j p a (by omega)⟩
theorem ok.lift (hX : X.2.1.length ≤ 6) (h : ok X n r2 A B) (hm : mv n r none none A B A' B') (g : ok X n r A' B') : ok X n r2 A' B' := by
  refine ⟨fun i j p a b c => ?_, fun i j p a b c => ?_⟩
  · by_cases hr : 2 * (j - i) + 1 ≤ r
    · exact g.1 i j p a hr c
    · have hs := hm.2.2.2.2.1 i j p a.1 (by have := a.2.1; omega) a.2.2.1.1 (by omega) (fun q => by cases q)
      exact hs.v (h.1 i j p a b (hs.1.symm.trans c))
  · by_cases hr : 2 * (j - i) ≤ r
    · exact g.2 i j p a hr c
    · have hs := hm.2.2.2.2.2 i j p a.1 (by have := a.2.1; omega) a.2.2.1.1 (by omega) (fun q => by cases q)
      exact hs.v (h.2 i j p a b (hs.1.symm.trans c))
theorem mv.S {I : Nat → Int32} {J : Nat → Int64} (h : mv n r eP eU A B A' B') (hS : rc_S I J A B X) : rc_S I J A' B' X := hS.fr (fun k hk => h.1 k (Or.inl hk)) (fun k hk => h.2.1 k (Or.inl hk))
theorem rc_S.ok {I : Nat → Int32} {J : Nat → Int64} (hS : rc_S I J A B X) : mx_ok X := by
  refine ⟨hS.1.1.1, fun w => ?_⟩
  rw [List.getD_eq_getElem?_getD]
  cases h : X.2.1[w]? with
  | none => simp
  | some x => exact (hS.2.1.1.2.2 x (List.mem_of_getElem? h)).2.2
theorem rc_S.l6 {I : Nat → Int32} {J : Nat → Int64} (hS : rc_S I J A B X) : X.2.1.length ≤ 6 := hS.2.1.1.2.1
end MV

def chU (k : Nat) (A : Nat → Nat → Int32) (B : Nat → Nat → Int64) (A' : Nat → Nat → Int32) (B' : Nat → Nat → Int64) : Prop := (∀ m, ¬ m = 10 → ¬ m = 11 → A' m = A m) ∧ (∀ m, ¬ m = 5 → ¬ m = 6 → B' m = B m) ∧ ∀ s, ¬ s = k → A' 10 s = A 10 s ∧ A' 11 s = A 11 s ∧ B' 5 s = B 5 s ∧ B' 6 s = B 6 s
def US (I : Nat → Int32) (J : Nat → Int64) (X : MX) (i j p : Nat) (A : Nat → Nat → Int32) (B : Nat → Nat → Int64) (acc : AC) : Prop := rc_S I J A B X ∧ rg X i j p ∧ ok X (I 6) (2 * (j - i) - 1) A B ∧ tvU A B (sl i j p) acc ∧ acc.2.1 ≤ 1000000 ∧ A 9 (sl i j p) = I 6
def UQ (I : Nat → Int32) (J : Nat → Int64) (X : MX) (i j p : Nat) (tl : am_H) (A : Nat → Nat → Int32) (B : Nat → Nat → Int64) (acc : AC) (Q : am_Q) : Prop := ∀ A' B', US I J X i j p A' B' acc → mv (I 6) (2 * (j - i) - 1) none (some (sl i j p)) A B A' B' → Q none (HC I J A' B' tl)
section MU
variable {I : Nat → Int32} {J : Nat → Int64} {X : MX} {tl : am_H} {Q : am_Q} {i j p : Nat} {A A1 A' : Nat → Nat → Int32} {B B1 B' : Nat → Nat → Int64} {acc acc2 : AC}
theorem UQ.sh (h : UQ I J X i j p tl A B acc Q) (hm : mv (I 6) (2 * (j - i) - 1) none (some (sl i j p)) A B A1 B1) : UQ I J X i j p tl A1 B1 acc Q := fun A2 B2 hu hm2 => h A2 B2 hu (hm.tr hm2)
theorem chU.mv {n : Int32} {r k : Nat} (h : chU k A B A' B') (hn : A 9 k = n) : mv n r none (some k) A B A' B' := by
  refine ⟨fun m hm => h.1 m (by omega) (by omega), fun m hm => h.2.1 m (by omega) (by omega), ?_, ?_, ?_, ?_⟩
  · intro s
    exact Or.inr ⟨by rw [h.1 6 (by decide) (by decide)], by rw [h.1 7 (by decide) (by decide)], by rw [h.1 8 (by decide) (by decide)], by rw [h.2.1 3 (by decide) (by decide)], by rw [h.2.1 4 (by decide) (by decide)]⟩
  · intro s
    by_cases he : s = k
    · left
      rw [he, h.1 9 (by decide) (by decide)]
      exact hn
    · have q1 := h.2.2 s he
      exact Or.inr ⟨by rw [h.1 9 (by decide) (by decide)], q1.1, q1.2.1, q1.2.2.1, q1.2.2.2⟩
  · intro a b q _ _ _ _ he
    exact ⟨by rw [h.1 6 (by decide) (by decide)], by rw [h.1 7 (by decide) (by decide)], by rw [h.1 8 (by decide) (by decide)], by rw [h.2.1 3 (by decide) (by decide)], by rw [h.2.1 4 (by decide) (by decide)]⟩
  · intro a b q _ _ _ _ he
    have q1 := h.2.2 (sl a b q) (fun e => he (by rw [e]))
    exact ⟨by rw [h.1 9 (by decide) (by decide)], q1.1, q1.2.1, q1.2.2.1, q1.2.2.2⟩
theorem US.ch (h : US I J X i j p A B acc) (hc : chU (sl i j p) A B A' B') (hv : tvU A' B' (sl i j p) acc2) (h6 : acc2.2.1 ≤ 1000000) : US I J X i j p A' B' acc2 := by
  obtain ⟨h1, h2, h3, h4, h5, h7⟩ := h
  have l6 := h1.l6
  have hm : mv (I 6) (2 * (j - i) - 1) none (some (sl i j p)) A B A' B' := hc.mv h7
  refine ⟨hm.S h1, h2, ⟨fun a b q ha hb hs => ?_, fun a b q ha hb hs => ?_⟩, hv, h6, by rw [hc.1 9 (by decide) (by decide)]; exact h7⟩
  · rw [hc.1 6 (by decide) (by decide)] at hs
    have := h3.1 a b q ha hb hs
    exact ⟨by rw [hc.2.1 3 (by decide) (by decide)]; exact this.1, by rw [hc.1 7 (by decide) (by decide)]; exact this.2.1, by rw [hc.2.1 4 (by decide) (by decide)]; exact this.2.2.1, by rw [hc.1 8 (by decide) (by decide)]; exact this.2.2.2⟩
  · rw [hc.1 9 (by decide) (by decide)] at hs
    have := h3.2 a b q ha hb hs
    have q1 := hc.2.2 (sl a b q) (fun e => by
      have e := sl_inj ha.1 (by have := ha.2.1; omega) ha.2.2.1.1 h2.1 (by have := h2.2.1; omega) h2.2.2.1.1 e
      have := h2.1
      omega)
    exact ⟨q1.2.2.1.trans this.1, q1.1.trans this.2.1, q1.2.2.2.trans this.2.2.1, q1.2.1.trans this.2.2.2⟩
theorem p_U_add (h : US I J X i j p A B acc) {w c t x : Nat} (hw : w < 9223372036854775808) (hc : c < 2147483648) (hQ : UQ I J X i j p tl A B (ac_ad acc (w, c, t, x)) Q) : K_X6_add [.ref 19, .int (nI (sl i j p)), .long (lN w), .int (nI c), .long (lN t), .int (nI x)] (HC I J A B tl) Q := by
  have l6 := h.1.l6
  have hk : sl i j p < 10752 := sl_lt h.2.1.1 (by have := h.2.1.2.1; omega) h.2.1.2.2.1.1
  obtain ⟨v1, v2, v3, v4⟩ := h.2.2.2.1
  have h6 := h.2.2.2.2.1
  have h62 := ac_ad_2 acc (w, c, t, x) h6
  by_cases w0 : w = 0
  · have e : ac_ad acc (w, c, t, x) = acc := if_pos w0
    rw [e] at hQ
    rw [w0]
    exact pU_ad0 hk (hQ A B h mv.rf)
  · by_cases c1 : c < acc.2.1
    · have e : ac_ad acc (w, c, t, x) = (acc.1 + w, c, t, x) := by unfold ac_ad; rw [if_neg w0, if_pos c1]
      refine pU_adL hk (by omega) hw v2 c1 (by omega) ?_
      have hch : chU (sl i j p) A B (am_u (am_u A 10 (upd (A 10) (sl i j p) (nI c))) 11 (upd (A 11) (sl i j p) (nI x))) (am_u (am_u B 5 (vp_updL (B 5) (sl i j p) (B 5 (sl i j p) + lN w))) 6 (vp_updL (B 6) (sl i j p) (lN t))) := by
        refine ⟨fun m a b => by rw [am_un b, am_un a], fun m a b => by rw [am_un b, am_un a], fun s hs => ⟨?_, ?_, ?_, ?_⟩⟩
        · rw [am_un (by decide), am_us, n_up, if_neg hs]
        · rw [am_us, n_up, if_neg hs]
        · rw [am_un (by decide), am_us, n_upL, if_neg hs]
        · rw [am_us, n_upL, if_neg hs]
      refine hQ _ _ (h.ch hch ?_ h62) (hch.mv h.2.2.2.2.2)
      rw [e]
      refine ⟨?_, ?_, ?_, ?_⟩
      · rw [am_un (by decide), am_us, n_upL, if_pos rfl, v1, lN_add]
      · rw [am_un (by decide), am_us, n_up, if_pos rfl]
      · rw [am_us, n_upL, if_pos rfl]
      · rw [am_us, n_up, if_pos rfl]
    · by_cases c2 : c = acc.2.1
      · have e : ac_ad acc (w, c, t, x) = (acc.1 + w, acc.2.1, acc.2.2.1 + t, acc.2.2.2) := by unfold ac_ad; rw [if_neg w0, if_neg c1, if_pos c2]
        refine pU_adE hk (by omega) hw (by rw [v2, c2]) hc ?_
        have hch : chU (sl i j p) A B A (am_u (am_u B 5 (vp_updL (B 5) (sl i j p) (B 5 (sl i j p) + lN w))) 6 (vp_updL (B 6) (sl i j p) (B 6 (sl i j p) + lN t))) := by
          refine ⟨fun m a b => rfl, fun m a b => by rw [am_un b, am_un a], fun s hs => ⟨rfl, rfl, ?_, ?_⟩⟩
          · rw [am_un (by decide), am_us, n_upL, if_neg hs]
          · rw [am_us, n_upL, if_neg hs]
        refine hQ _ _ (h.ch hch ?_ h62) (hch.mv h.2.2.2.2.2)
        rw [e]
        refine ⟨?_, v2, ?_, v4⟩
        · rw [am_un (by decide), am_us, n_upL, if_pos rfl, v1, lN_add]
        · rw [am_us, n_upL, if_pos rfl, v3, lN_add]
      · have e : ac_ad acc (w, c, t, x) = (acc.1 + w, acc.2.1, acc.2.2.1, acc.2.2.2) := by unfold ac_ad; rw [if_neg w0, if_neg c1, if_neg c2]
        refine pU_adG hk (by omega) hw v2 (by omega) hc ?_
        have hch : chU (sl i j p) A B A (am_u B 5 (vp_updL (B 5) (sl i j p) (B 5 (sl i j p) + lN w))) := by
          refine ⟨fun m a b => rfl, fun m a b => by rw [am_un a], fun s hs => ⟨rfl, rfl, ?_, ?_⟩⟩
          · rw [am_us, n_upL, if_neg hs]
          · rw [am_un (by decide)]
        refine hQ _ _ (h.ch hch ?_ h62) (hch.mv h.2.2.2.2.2)
        rw [e]
        refine ⟨?_, v2, ?_, v4⟩
        · rw [am_us, n_upL, if_pos rfl, v1, lN_add]
        · rw [am_un (by decide)]; exact v3
theorem US.opn (h1 : rc_S I J A B X) (h2 : rg X i j p) (h3 : ok X (I 6) (2 * (j - i)) A B) : US I J X i j p (tb_oA A 9 10 11 (sl i j p) (I 6)) (tb_oB B 5 6 (sl i j p)) ac_0 ∧ mv (I 6) (2 * (j - i) - 1) none (some (sl i j p)) A B (tb_oA A 9 10 11 (sl i j p) (I 6)) (tb_oB B 5 6 (sl i j p)) := by
  have l6 := h1.l6
  have a1 : ∀ m, ¬ m = 9 → ¬ m = 10 → ¬ m = 11 → tb_oA A 9 10 11 (sl i j p) (I 6) m = A m := fun m a b c => by unfold tb_oA; rw [am_un c, am_un b, am_un a]
  have b1 : ∀ m, ¬ m = 5 → ¬ m = 6 → tb_oB B 5 6 (sl i j p) m = B m := fun m a b => by unfold tb_oB; rw [am_un b, am_un a]
  have es : ∀ s, tb_oA A 9 10 11 (sl i j p) (I 6) 9 s = if s = sl i j p then I 6 else A 9 s := fun s => by unfold tb_oA; rw [am_un (by decide), am_un (by decide), am_us, n_up]
  have ec : ∀ s, tb_oA A 9 10 11 (sl i j p) (I 6) 10 s = if s = sl i j p then 1000000 else A 10 s := fun s => by unfold tb_oA; rw [am_un (by decide), am_us, n_up]
  have eh : ∀ s, tb_oA A 9 10 11 (sl i j p) (I 6) 11 s = if s = sl i j p then 0 else A 11 s := fun s => by unfold tb_oA; rw [am_us, n_up]
  have et : ∀ s, tb_oB B 5 6 (sl i j p) 5 s = if s = sl i j p then 0 else B 5 s := fun s => by unfold tb_oB; rw [am_un (by decide), am_us, n_upL]
  have ei : ∀ s, tb_oB B 5 6 (sl i j p) 6 s = if s = sl i j p then 0 else B 6 s := fun s => by unfold tb_oB; rw [am_us, n_upL]
  have ss : ∀ s, ¬ s = sl i j p → smU A B (tb_oA A 9 10 11 (sl i j p) (I 6)) (tb_oB B 5 6 (sl i j p)) s := fun s hs => ⟨by rw [es, if_neg hs], by rw [ec, if_neg hs], by rw [eh, if_neg hs], by rw [et, if_neg hs], by rw [ei, if_neg hs]⟩
  have so : ∀ s, smP A B (tb_oA A 9 10 11 (sl i j p) (I 6)) (tb_oB B 5 6 (sl i j p)) s := fun s => ⟨by rw [a1 _ (by decide) (by decide) (by decide)], by rw [a1 _ (by decide) (by decide) (by decide)], by rw [a1 _ (by decide) (by decide) (by decide)], by rw [b1 _ (by decide) (by decide)], by rw [b1 _ (by decide) (by decide)]⟩
  have hm : mv (I 6) (2 * (j - i) - 1) none (some (sl i j p)) A B (tb_oA A 9 10 11 (sl i j p) (I 6)) (tb_oB B 5 6 (sl i j p)) := by
    refine ⟨fun m hm => a1 m (by omega) (by omega) (by omega), fun m hm => b1 m (by omega) (by omega), ?_, ?_, ?_, ?_⟩
    · exact fun s => Or.inr (so s)
    · intro s
      by_cases hs : s = sl i j p
      · left
        rw [es, if_pos hs]
      · exact Or.inr (ss s hs)
    · exact fun a b q _ _ _ _ _ => so _
    · exact fun a b q _ _ _ _ he => ss _ (fun e => he (by rw [e]))
  refine ⟨⟨hm.S h1, h2, ⟨fun a b q ha hb hs => ?_, fun a b q ha hb hs => ?_⟩, ⟨by rw [et, if_pos rfl]; rfl, by rw [ec, if_pos rfl]; rfl, by rw [ei, if_pos rfl]; rfl, by rw [eh, if_pos rfl]; rfl⟩, Nat.le_refl _, by rw [es, if_pos rfl]⟩, hm⟩
  · exact (so _).v (h3.1 a b q ha (by omega) ((so _).1.symm.trans hs))
  · have hne : ¬ sl a b q = sl i j p := fun e => by
      have e := sl_inj ha.1 (by have := ha.2.1; omega) ha.2.2.1.1 h2.1 (by have := h2.2.1; omega) h2.2.2.1.1 e
      have := h2.1
      omega
    exact (ss _ hne).v (h3.2 a b q ha (by omega) ((ss _ hne).1.symm.trans hs))
end MU

def chP (k : Nat) (A : Nat → Nat → Int32) (B : Nat → Nat → Int64) (A' : Nat → Nat → Int32) (B' : Nat → Nat → Int64) : Prop := (∀ m, ¬ m = 7 → ¬ m = 8 → A' m = A m) ∧ (∀ m, ¬ m = 3 → ¬ m = 4 → B' m = B m) ∧ ∀ s, ¬ s = k → A' 7 s = A 7 s ∧ A' 8 s = A 8 s ∧ B' 3 s = B 3 s ∧ B' 4 s = B 4 s
def PS (I : Nat → Int32) (J : Nat → Int64) (X : MX) (i j p : Nat) (A : Nat → Nat → Int32) (B : Nat → Nat → Int64) (acc : AC) : Prop := rc_S I J A B X ∧ rg X i j p ∧ ok X (I 6) (2 * (j - i)) A B ∧ tvP A B (sl i j p) acc ∧ acc.2.1 ≤ 1000000 ∧ A 6 (sl i j p) = I 6
def PQ (I : Nat → Int32) (J : Nat → Int64) (X : MX) (i j p : Nat) (tl : am_H) (A : Nat → Nat → Int32) (B : Nat → Nat → Int64) (acc : AC) (Q : am_Q) : Prop := ∀ A' B', PS I J X i j p A' B' acc → mv (I 6) (2 * (j - i)) (some (sl i j p)) none A B A' B' → Q none (HC I J A' B' tl)
section MP
variable {I : Nat → Int32} {J : Nat → Int64} {X : MX} {tl : am_H} {Q : am_Q} {i j p : Nat} {A A1 A' : Nat → Nat → Int32} {B B1 B' : Nat → Nat → Int64} {acc acc2 : AC}
theorem PQ.sh (h : PQ I J X i j p tl A B acc Q) (hm : mv (I 6) (2 * (j - i)) (some (sl i j p)) none A B A1 B1) : PQ I J X i j p tl A1 B1 acc Q := fun A2 B2 hu hm2 => h A2 B2 hu (hm.tr hm2)
theorem chP.mv {n : Int32} {r k : Nat} (h : chP k A B A' B') (hn : A 6 k = n) : mv n r (some k) none A B A' B' := by
  refine ⟨fun m hm => h.1 m (by omega) (by omega), fun m hm => h.2.1 m (by omega) (by omega), ?_, ?_, ?_, ?_⟩
  · intro s
    by_cases he : s = k
    · left
      rw [he, h.1 6 (by decide) (by decide)]
      exact hn
    · have q1 := h.2.2 s he
      exact Or.inr ⟨by rw [h.1 6 (by decide) (by decide)], q1.1, q1.2.1, q1.2.2.1, q1.2.2.2⟩
  · intro s
    exact Or.inr ⟨by rw [h.1 9 (by decide) (by decide)], by rw [h.1 10 (by decide) (by decide)], by rw [h.1 11 (by decide) (by decide)], by rw [h.2.1 5 (by decide) (by decide)], by rw [h.2.1 6 (by decide) (by decide)]⟩
  · intro a b q _ _ _ _ he
    have q1 := h.2.2 (sl a b q) (fun e => he (by rw [e]))
    exact ⟨by rw [h.1 6 (by decide) (by decide)], q1.1, q1.2.1, q1.2.2.1, q1.2.2.2⟩
  · intro a b q _ _ _ _ he
    exact ⟨by rw [h.1 9 (by decide) (by decide)], by rw [h.1 10 (by decide) (by decide)], by rw [h.1 11 (by decide) (by decide)], by rw [h.2.1 5 (by decide) (by decide)], by rw [h.2.1 6 (by decide) (by decide)]⟩
theorem PS.ch (h : PS I J X i j p A B acc) (hc : chP (sl i j p) A B A' B') (hv : tvP A' B' (sl i j p) acc2) (h6 : acc2.2.1 ≤ 1000000) : PS I J X i j p A' B' acc2 := by
  obtain ⟨h1, h2, h3, h4, h5, h7⟩ := h
  have l6 := h1.l6
  have hm : mv (I 6) (2 * (j - i)) (some (sl i j p)) none A B A' B' := hc.mv h7
  refine ⟨hm.S h1, h2, ⟨fun a b q ha hb hs => ?_, fun a b q ha hb hs => ?_⟩, hv, h6, by rw [hc.1 6 (by decide) (by decide)]; exact h7⟩
  · rw [hc.1 6 (by decide) (by decide)] at hs
    have := h3.1 a b q ha hb hs
    have q1 := hc.2.2 (sl a b q) (fun e => by
      have e := sl_inj ha.1 (by have := ha.2.1; omega) ha.2.2.1.1 h2.1 (by have := h2.2.1; omega) h2.2.2.1.1 e
      have := h2.1
      omega)
    exact ⟨q1.2.2.1.trans this.1, q1.1.trans this.2.1, q1.2.2.2.trans this.2.2.1, q1.2.1.trans this.2.2.2⟩
  · rw [hc.1 9 (by decide) (by decide)] at hs
    have := h3.2 a b q ha hb hs
    exact ⟨by rw [hc.2.1 5 (by decide) (by decide)]; exact this.1, by rw [hc.1 10 (by decide) (by decide)]; exact this.2.1, by rw [hc.2.1 6 (by decide) (by decide)]; exact this.2.2.1, by rw [hc.1 11 (by decide) (by decide)]; exact this.2.2.2⟩
theorem p_P_add (h : PS I J X i j p A B acc) {w c t x : Nat} (hw : w < 9223372036854775808) (hc : c < 2147483648) (hQ : PQ I J X i j p tl A B (ac_ad acc (w, c, t, x)) Q) : K_X6_add [.ref 13, .int (nI (sl i j p)), .long (lN w), .int (nI c), .long (lN t), .int (nI x)] (HC I J A B tl) Q := by
  have l6 := h.1.l6
  have hk : sl i j p < 10752 := sl_lt h.2.1.1 (by have := h.2.1.2.1; omega) h.2.1.2.2.1.1
  obtain ⟨v1, v2, v3, v4⟩ := h.2.2.2.1
  have h6 := h.2.2.2.2.1
  have h62 := ac_ad_2 acc (w, c, t, x) h6
  by_cases w0 : w = 0
  · have e : ac_ad acc (w, c, t, x) = acc := if_pos w0
    rw [e] at hQ
    rw [w0]
    exact pP_ad0 hk (hQ A B h mv.rf)
  · by_cases c1 : c < acc.2.1
    · have e : ac_ad acc (w, c, t, x) = (acc.1 + w, c, t, x) := by unfold ac_ad; rw [if_neg w0, if_pos c1]
      refine pP_adL hk (by omega) hw v2 c1 (by omega) ?_
      have hch : chP (sl i j p) A B (am_u (am_u A 7 (upd (A 7) (sl i j p) (nI c))) 8 (upd (A 8) (sl i j p) (nI x))) (am_u (am_u B 3 (vp_updL (B 3) (sl i j p) (B 3 (sl i j p) + lN w))) 4 (vp_updL (B 4) (sl i j p) (lN t))) := by
        refine ⟨fun m a b => by rw [am_un b, am_un a], fun m a b => by rw [am_un b, am_un a], fun s hs => ⟨?_, ?_, ?_, ?_⟩⟩
        · rw [am_un (by decide), am_us, n_up, if_neg hs]
        · rw [am_us, n_up, if_neg hs]
        · rw [am_un (by decide), am_us, n_upL, if_neg hs]
        · rw [am_us, n_upL, if_neg hs]
      refine hQ _ _ (h.ch hch ?_ h62) (hch.mv h.2.2.2.2.2)
      rw [e]
      refine ⟨?_, ?_, ?_, ?_⟩
      · rw [am_un (by decide), am_us, n_upL, if_pos rfl, v1, lN_add]
      · rw [am_un (by decide), am_us, n_up, if_pos rfl]
      · rw [am_us, n_upL, if_pos rfl]
      · rw [am_us, n_up, if_pos rfl]
    · by_cases c2 : c = acc.2.1
      · have e : ac_ad acc (w, c, t, x) = (acc.1 + w, acc.2.1, acc.2.2.1 + t, acc.2.2.2) := by unfold ac_ad; rw [if_neg w0, if_neg c1, if_pos c2]
        refine pP_adE hk (by omega) hw (by rw [v2, c2]) hc ?_
        have hch : chP (sl i j p) A B A (am_u (am_u B 3 (vp_updL (B 3) (sl i j p) (B 3 (sl i j p) + lN w))) 4 (vp_updL (B 4) (sl i j p) (B 4 (sl i j p) + lN t))) := by
          refine ⟨fun m a b => rfl, fun m a b => by rw [am_un b, am_un a], fun s hs => ⟨rfl, rfl, ?_, ?_⟩⟩
          · rw [am_un (by decide), am_us, n_upL, if_neg hs]
          · rw [am_us, n_upL, if_neg hs]
        refine hQ _ _ (h.ch hch ?_ h62) (hch.mv h.2.2.2.2.2)
        rw [e]
        refine ⟨?_, v2, ?_, v4⟩
        · rw [am_un (by decide), am_us, n_upL, if_pos rfl, v1, lN_add]
        · rw [am_us, n_upL, if_pos rfl, v3, lN_add]
      · have e : ac_ad acc (w, c, t, x) = (acc.1 + w, acc.2.1, acc.2.2.1, acc.2.2.2) := by unfold ac_ad; rw [if_neg w0, if_neg c1, if_neg c2]
        refine pP_adG hk (by omega) hw v2 (by omega) hc ?_
        have hch : chP (sl i j p) A B A (am_u B 3 (vp_updL (B 3) (sl i j p) (B 3 (sl i j p) + lN w))) := by
          refine ⟨fun m a b => rfl, fun m a b => by rw [am_un a], fun s hs => ⟨rfl, rfl, ?_, ?_⟩⟩
          · rw [am_us, n_upL, if_neg hs]
          · rw [am_un (by decide)]
        refine hQ _ _ (h.ch hch ?_ h62) (hch.mv h.2.2.2.2.2)
        rw [e]
        refine ⟨?_, v2, ?_, v4⟩
        · rw [am_us, n_upL, if_pos rfl, v1, lN_add]
        · rw [am_un (by decide)]; exact v3
theorem PS.opn (h1 : rc_S I J A B X) (h2 : rg X i j p) (h3 : ok X (I 6) (2 * (j - i) + 1) A B) : PS I J X i j p (tb_oA A 6 7 8 (sl i j p) (I 6)) (tb_oB B 3 4 (sl i j p)) ac_0 ∧ mv (I 6) (2 * (j - i)) (some (sl i j p)) none A B (tb_oA A 6 7 8 (sl i j p) (I 6)) (tb_oB B 3 4 (sl i j p)) := by
  have l6 := h1.l6
  have a1 : ∀ m, ¬ m = 6 → ¬ m = 7 → ¬ m = 8 → tb_oA A 6 7 8 (sl i j p) (I 6) m = A m := fun m a b c => by unfold tb_oA; rw [am_un c, am_un b, am_un a]
  have b1 : ∀ m, ¬ m = 3 → ¬ m = 4 → tb_oB B 3 4 (sl i j p) m = B m := fun m a b => by unfold tb_oB; rw [am_un b, am_un a]
  have es : ∀ s, tb_oA A 6 7 8 (sl i j p) (I 6) 6 s = if s = sl i j p then I 6 else A 6 s := fun s => by unfold tb_oA; rw [am_un (by decide), am_un (by decide), am_us, n_up]
  have ec : ∀ s, tb_oA A 6 7 8 (sl i j p) (I 6) 7 s = if s = sl i j p then 1000000 else A 7 s := fun s => by unfold tb_oA; rw [am_un (by decide), am_us, n_up]
  have eh : ∀ s, tb_oA A 6 7 8 (sl i j p) (I 6) 8 s = if s = sl i j p then 0 else A 8 s := fun s => by unfold tb_oA; rw [am_us, n_up]
  have et : ∀ s, tb_oB B 3 4 (sl i j p) 3 s = if s = sl i j p then 0 else B 3 s := fun s => by unfold tb_oB; rw [am_un (by decide), am_us, n_upL]
  have ei : ∀ s, tb_oB B 3 4 (sl i j p) 4 s = if s = sl i j p then 0 else B 4 s := fun s => by unfold tb_oB; rw [am_us, n_upL]
  have ss : ∀ s, ¬ s = sl i j p → smP A B (tb_oA A 6 7 8 (sl i j p) (I 6)) (tb_oB B 3 4 (sl i j p)) s := fun s hs => ⟨by rw [es, if_neg hs], by rw [ec, if_neg hs], by rw [eh, if_neg hs], by rw [et, if_neg hs], by rw [ei, if_neg hs]⟩
  have so : ∀ s, smU A B (tb_oA A 6 7 8 (sl i j p) (I 6)) (tb_oB B 3 4 (sl i j p)) s := fun s => ⟨by rw [a1 _ (by decide) (by decide) (by decide)], by rw [a1 _ (by decide) (by decide) (by decide)], by rw [a1 _ (by decide) (by decide) (by decide)], by rw [b1 _ (by decide) (by decide)], by rw [b1 _ (by decide) (by decide)]⟩
  have hm : mv (I 6) (2 * (j - i)) (some (sl i j p)) none A B (tb_oA A 6 7 8 (sl i j p) (I 6)) (tb_oB B 3 4 (sl i j p)) := by
    refine ⟨fun m hm => a1 m (by omega) (by omega) (by omega), fun m hm => b1 m (by omega) (by omega), ?_, ?_, ?_, ?_⟩
    · intro s
      by_cases hs : s = sl i j p
      · left
        rw [es, if_pos hs]
      · exact Or.inr (ss s hs)
    · exact fun s => Or.inr (so s)
    · exact fun a b q _ _ _ _ he => ss _ (fun e => he (by rw [e]))
    · exact fun a b q _ _ _ _ _ => so _
  refine ⟨⟨hm.S h1, h2, ⟨fun a b q ha hb hs => ?_, fun a b q ha hb hs => ?_⟩, ⟨by rw [et, if_pos rfl]; rfl, by rw [ec, if_pos rfl]; rfl, by rw [ei, if_pos rfl]; rfl, by rw [eh, if_pos rfl]; rfl⟩, Nat.le_refl _, by rw [es, if_pos rfl]⟩, hm⟩
  · have hne : ¬ sl a b q = sl i j p := fun e => by
      have e := sl_inj ha.1 (by have := ha.2.1; omega) ha.2.2.1.1 h2.1 (by have := h2.2.1; omega) h2.2.2.1.1 e
      have := h2.1
      omega
    exact (ss _ hne).v (h3.1 a b q ha (by omega) ((ss _ hne).1.symm.trans hs))
  · exact (so _).v (h3.2 a b q ha (by omega) ((so _).1.symm.trans hs))
end MP
