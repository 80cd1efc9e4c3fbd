/-! the law's loop and its start; printed by wip/whole/mk99b.py -/
theorem l_cmp {L k : Nat} (hL : L ≤ 2560) (hk : 5 * k ≤ 3000) (h : ¬ (Int32.ofNat L - 5 < nI (5 * k))) : 5 * k + 5 ≤ L := by
  rcases Nat.lt_or_ge L 5 with q | q
  · exfalso
    refine h (Int32.not_le.mp (n_lem (by omega) ?_))
    rcases (show L = 0 ∨ L = 1 ∨ L = 2 ∨ L = 3 ∨ L = 4 by omega) with rfl | rfl | rfl | rfl | rfl <;> decide
  · have e : Int32.ofNat L - 5 = nI (L - 5) := n_sub (a := L) (b := 5) q
    rw [e, n_lt (by omega) (by omega)] at h
    omega
theorem l_in {L k j : Nat} (hL : L ≤ 2560) (h : 5 * k + j < L) : vp_in (nI (5 * k) + nI j) L := by
  rw [nI_add]
  exact vp_in_nI h (by omega)
set_option maxRecDepth 100000 in
theorem l_loop {G : Nat → am_K} {L : Nat} {xs : Nat → Int32} (hL : L ≤ 2560) (hc : cl_L L xs G) : ∀ (n k : Nat) (h : am_H), 515 ≤ n + k → 5 * k ≤ L + 5 → lI (1 + 26 * k) h → G 18 (lo3 (nI (5 * k))) [] h := by
  intro n
  induction n with
  | zero =>
    intro k h h1 h2
    exact absurd h1 (by omega)
  | succ n ih =>
    intro k h h1 h2 hI
    refine hc.2.1 _ _ _ ⟨rfl, fun _ => hc.2.2.2.2.2.2.2.2.2.2.2.2.2.2.2.2.2.2.2.2.2.2.2.2.2.2.2.2.2 _ _ _ rfl, fun q => ?_⟩
    have hk : 5 * k + 5 ≤ L := l_cmp hL (by omega) q
    have hG : ∀ h, lI (1 + 26 * k + 26) h → G 803 (lo3 (nI (5 * k))) [] h := by
      intro h' hI'
      refine hc.2.2.2.2.2.2.2.2.2.2.2.2.2.2.2.2.2.2.2.2.2.2.2.2.2.2.2.2.1 _ _ _ ?_
      have e : nI (5 * k) + 5 = nI (5 * (k + 1)) := nI_add (5 * k) 5
      have g := ih (k + 1) h' (by omega) (by omega) (by rw [show 1 + 26 * (k + 1) = 1 + 26 * k + 26 by omega]; exact hI')
      rw [← e] at g
      exact g
    have hN : 1 + 26 * k + 26 < 1000000 := by omega
    have i1 : vp_in (nI (5 * k) + 1) L := l_in (j := 1) hL (by omega)
    have i2 : vp_in (nI (5 * k) + 2) L := l_in (j := 2) hL (by omega)
    have i3 : vp_in (nI (5 * k) + 3) L := l_in (j := 3) hL (by omega)
    have i4 : vp_in (nI (5 * k) + 4) L := l_in (j := 4) hL (by omega)
    refine hc.2.2.1 _ _ _ ⟨rfl, vp_in_nI (by omega) (by omega), ?_, fun _ => hG _ ?_⟩
    · exact ⟨fun _ => hc.2.2.2.1 _ _ _ (lp_148 i1 i2 i3 i4 hN hI hG), ⟨fun _ => hc.2.2.2.2.1 _ _ _ (lp_171 i1 i2 i3 i4 hN hI hG), ⟨fun _ => hc.2.2.2.2.2.1 _ _ _ (lp_184 i1 i2 i3 i4 hN hI hG), ⟨fun _ => hc.2.2.2.2.2.2.1 _ _ _ (lp_197 i1 i2 i3 i4 hN hI hG), ⟨fun _ => hc.2.2.2.2.2.2.2.1 _ _ _ (lp_210 i1 i2 i3 i4 hN hI hG), ⟨fun _ => hc.2.2.2.2.2.2.2.2.1 _ _ _ (lp_233 i1 i2 i3 i4 hN hI hG), ⟨fun _ => hc.2.2.2.2.2.2.2.2.2.1 _ _ _ (lp_246 i1 i2 i3 i4 hN hI hG), ⟨fun _ => hc.2.2.2.2.2.2.2.2.2.2.1 _ _ _ (lp_259 i1 i2 i3 i4 hN hI hG), ⟨fun _ => hc.2.2.2.2.2.2.2.2.2.2.2.1 _ _ _ (lp_292 i1 i2 i3 i4 hN hI hG), ⟨fun _ => hc.2.2.2.2.2.2.2.2.2.2.2.2.1 _ _ _ (lp_325 i1 i2 i3 i4 hN hI hG), ⟨fun _ => hc.2.2.2.2.2.2.2.2.2.2.2.2.2.1 _ _ _ (lp_368 i1 i2 i3 i4 hN hI hG), ⟨fun _ => hc.2.2.2.2.2.2.2.2.2.2.2.2.2.2.1 _ _ _ (lp_401 i1 i2 i3 i4 hN hI hG), ⟨fun _ => hc.2.2.2.2.2.2.2.2.2.2.2.2.2.2.2.1 _ _ _ (lp_424 i1 i2 i3 i4 hN hI hG), ⟨fun _ => hc.2.2.2.2.2.2.2.2.2.2.2.2.2.2.2.2.1 _ _ _ (lp_457 i1 i2 i3 i4 hN hI hG), ⟨fun _ => hc.2.2.2.2.2.2.2.2.2.2.2.2.2.2.2.2.2.1 _ _ _ (lp_470 i1 i2 i3 i4 hN hI hG), ⟨fun _ => hc.2.2.2.2.2.2.2.2.2.2.2.2.2.2.2.2.2.2.1 _ _ _ (lp_483 i1 i2 i3 i4 hN hI hG), ⟨fun _ => hc.2.2.2.2.2.2.2.2.2.2.2.2.2.2.2.2.2.2.2.1 _ _ _ (lp_506 i1 i2 i3 i4 hN hI hG), ⟨fun _ => hc.2.2.2.2.2.2.2.2.2.2.2.2.2.2.2.2.2.2.2.2.1 _ _ _ (lp_559 i1 i2 i3 i4 hN hI hG), ⟨fun _ => hc.2.2.2.2.2.2.2.2.2.2.2.2.2.2.2.2.2.2.2.2.2.1 _ _ _ (lp_612 i1 i2 i3 i4 hN hI hG), ⟨fun _ => hc.2.2.2.2.2.2.2.2.2.2.2.2.2.2.2.2.2.2.2.2.2.2.1 _ _ _ (lp_665 i1 i2 i3 i4 hN hI hG), ⟨fun _ => hc.2.2.2.2.2.2.2.2.2.2.2.2.2.2.2.2.2.2.2.2.2.2.2.1 _ _ _ (lp_678 i1 i2 i3 i4 hN hI hG), ⟨fun _ => hc.2.2.2.2.2.2.2.2.2.2.2.2.2.2.2.2.2.2.2.2.2.2.2.2.1 _ _ _ (lp_701 i1 i2 i3 i4 hN hI hG), ⟨fun _ => hc.2.2.2.2.2.2.2.2.2.2.2.2.2.2.2.2.2.2.2.2.2.2.2.2.2.1 _ _ _ (lp_734 i1 i2 i3 i4 hN hI hG), ⟨fun _ => hc.2.2.2.2.2.2.2.2.2.2.2.2.2.2.2.2.2.2.2.2.2.2.2.2.2.2.1 _ _ _ (lp_757 i1 i2 i3 i4 hN hI hG), ⟨fun _ => hc.2.2.2.2.2.2.2.2.2.2.2.2.2.2.2.2.2.2.2.2.2.2.2.2.2.2.2.1 _ _ _ (lp_780 i1 i2 i3 i4 hN hI hG), trivial⟩⟩⟩⟩⟩⟩⟩⟩⟩⟩⟩⟩⟩⟩⟩⟩⟩⟩⟩⟩⟩⟩⟩⟩⟩
    · obtain ⟨I, J, A, B, I2, A2, T, s, M, hM, e, hC, hR⟩ := hI
      exact ⟨I, J, A, B, I2, A2, T, s, M, by omega, e, hC, hR⟩
theorem l_szt (I : Nat → Int32) (J : Nat → Int64) (A : Nat → Nat → Int32) (B : Nat → Nat → Int64) (tl : am_H) : am_szs (HC I J A B tl) = 108117 + am_szs tl := by
  simp only [am_szs, HC, am_sz, List.map_cons, List.sum_cons, List.length_cons, List.length_nil, Nat.reduceAdd]
  omega
theorem l_sz8 (I : Nat → Int32) (J : Nat → Int64) (A : Nat → Nat → Int32) (B : Nat → Nat → Int64) : am_szs (HC I J A B []) = 108117 := by
  rw [l_szt]
  rfl
theorem l_szh (I : Nat → Int32) (J : Nat → Int64) (A : Nat → Nat → Int32) (B : Nat → Nat → Int64) : am_szs (i9_h (hdC I J A B)) = 108156 := by
  rw [show i9_h (hdC I J A B) = HC I J A B [] ++ [.inr (7, [.int 0, .null, .int 0, .null, .null, .null, .int 0, .null, .null, .null, .int 0, .null, .null, .null, .null, .null, .int 0, .int 0, .int 0, .int 0, .int 0, .int 0, .int 0, .int 0, .int 0, .int 0, .null, .null, .int 0, .int 0, .null, .null, .int 0, .null, .null, .null, .null, .null, .null])] from rfl, am_szs_app, l_sz8]
  rfl
theorem l_szm (I : Nat → Int32) (J : Nat → Int64) (A : Nat → Nat → Int32) (B : Nat → Nat → Int64) (I2 : Nat → Int32) (A2 : Nat → Nat → Int32) (T : Nat → Int64) : am_szs (HM (hdC I J A B) I2 A2 T) = 120758 := by
  rw [← lH, l_szt]
  simp only [am_szs, tlM, HM, List.drop_succ_cons, List.drop_zero, am_sz, List.map_cons, List.map_nil, List.sum_cons, List.sum_nil, List.length_cons, List.length_nil, Nat.reduceAdd]
set_option maxRecDepth 100000 in
theorem l_start {G : Nat → am_K} {L : Nat} {xs : Nat → Int32} (hL : L ≤ 2560) (hc : cl_L L xs G) : G 0 (am_ent 4 [.ref 1013]) [] [] := by
  refine hc.1 _ _ _ ?_
  refine ⟨Nat.le_of_ble_eq_true rfl, Nat.le_of_ble_eq_true rfl, ⟨rfl, ⟨Nat.le_of_ble_eq_true rfl, Nat.le_of_ble_eq_true rfl, Nat.le_of_ble_eq_true rfl, p_X8_init (fun I J A B hC => ⟨⟨rfl, by rw [l_sz8]; exact Nat.eq_of_beq_eq_true rfl⟩, ?_⟩)⟩⟩⟩
  refine ⟨Nat.le_of_ble_eq_true rfl, ⟨Nat.le_of_ble_eq_true rfl, by rw [l_sz8]; exact Nat.le_of_ble_eq_true rfl, ⟨rfl, ⟨Nat.le_of_ble_eq_true rfl, Nat.le_of_ble_eq_true rfl, ?_, ?_⟩⟩⟩⟩
  · show am_szs (i9_h (hdC I J A B)) + _ ≤ _
    rw [l_szh]
    exact Nat.le_of_ble_eq_true rfl
  · refine p_X9_init (hd := hdC I J A B) (fun I2 A2 T hR => ⟨⟨rfl, ?_⟩, ?_⟩)
    · show am_szs (HM (hdC I J A B) I2 A2 T) = am_szs (i9_h (hdC I J A B)) + 12602
      rw [l_szm, l_szh]
    · refine ⟨Nat.le_of_ble_eq_true rfl, Nat.le_of_ble_eq_true rfl, ?_⟩
      exact l_loop hL hc 515 0 _ (Nat.le_of_ble_eq_true rfl) (Nat.zero_le _) ⟨I, J, A, B, I2, A2, T, ms0, 1, Nat.le_refl 1, lH I J A B I2 A2 T, hC, hR⟩
