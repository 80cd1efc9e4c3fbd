/-! the law: both sides answer alike, call for call; printed by wip/whole/mk99.py -/
def lo3 (i : Int32) : am_L := [some (.ref 1013), some (.ref 0), some (.ref 34), some (.int i)]
def hdC (I : Nat → Int32) (J : Nat → Int64) (A : Nat → Nat → Int32) (B : Nat → Nat → Int64) : Nat → am_C := fun k => ((HC I J A B [])[k]?).getD (.inr (0, []))
def tlM (I : Nat → Int32) (A : Nat → Nat → Int32) (T : Nat → Int64) : am_H := (HM (fun _ => .inr (0, [])) I A T).drop 34
theorem lH (I : Nat → Int32) (J : Nat → Int64) (A : Nat → Nat → Int32) (B : Nat → Nat → Int64) (I2 : Nat → Int32) (A2 : Nat → Nat → Int32) (T : Nat → Int64) : HC I J A B (tlM I2 A2 T) = HM (hdC I J A B) I2 A2 T := rfl
def lI (N : Nat) (h : am_H) : Prop := ∃ (I : Nat → Int32) (J : Nat → Int64) (A : Nat → Nat → Int32) (B : Nat → Nat → Int64) (I2 : Nat → Int32) (A2 : Nat → Nat → Int32) (T : Nat → Int64) (s : MS) (M : Nat), M ≤ N ∧ h = HC I J A B (tlM I2 A2 T) ∧ CI M I J A B s ∧ RI I2 A2 T s
theorem lw_is6 (I : Nat → Int32) (J : Nat → Int64) (A : Nat → Nat → Int32) (B : Nat → Nat → Int64) (tl : am_H) : am_is (HC I J A B tl) 0 6 := rfl
theorem lw_is7 (hd : Nat → am_C) (I : Nat → Int32) (A : Nat → Nat → Int32) (T : Nat → Int64) : am_is (HM hd I A T) 34 7 := rfl

theorem lc_0 {K8 K9 : am_T} {GG : am_K} {L N M : Nat} {xs : Nat → Int32} {i r : Int32} {s : MS} {I : Nat → Int32} {J : Nat → Int64} {A : Nat → Nat → Int32} {B : Nat → Nat → Int64} {I2 : Nat → Int32} {A2 : Nat → Nat → Int32} {T : Nat → Int64}  (hM : M ≤ N)
    (h8 : ∀ Q, CQ M (tlM I2 A2 T) r s Q → K8 [.ref 0] (HC I J A B (tlM I2 A2 T)) Q) (h9 : ∀ hd Q, RQ hd r s Q → K9 [.ref 34] (HM hd I2 A2 T) Q) (hG : ∀ h, lI (N + 26) h → GG (lo3 i) [] h) :
    (ak_al 1 (ak_cv 1 6 K8 (ak_al 2 (ak_cv 1 7 K9 (ak_ic (fun x y => x = y) GG (ak_c (.int 0) (fun _ _ _ => False))))))) (lo3 i) [] (HC I J A B (tlM I2 A2 T)) := by
  have k2 : ∀ L' I' J' A' B', L' ≤ M + 26 → CI L' I' J' A' B' s → K9 [.ref 34] (HC I' J' A' B' (tlM I2 A2 T)) (fun v h' => (ak_ic (fun x y => x = y) GG (ak_c (.int 0) (fun _ _ _ => False))) (lo3 i) (am_pu v [.int r]) h') := by
    intro L' I' J' A' B' hL' hC'
    rw [lH]
    refine h9 _ _ ?_
    intro I2' A2' T' hR'
    refine ⟨fun _ => hG _ ⟨I', J', A', B', I2', A2', T', s, L', Nat.le_trans hL' (Nat.add_le_add_right hM 26), lH I' J' A' B' I2' A2' T', hC', hR'⟩, fun q => absurd rfl q⟩
  exact ⟨lw_is6 I J A B _, Nat.le_of_ble_eq_true rfl, h8 _ (fun L' I' J' A' B' hL' hC' => ⟨lw_is7 (hdC I' J' A' B') I2 A2 T, Nat.le_of_ble_eq_true rfl, k2 L' I' J' A' B' hL' hC'⟩)⟩
theorem lc_1 {K8 K9 : am_T} {GG : am_K} {L N M : Nat} {xs : Nat → Int32} {i r : Int32} {s : MS} {I : Nat → Int32} {J : Nat → Int64} {A : Nat → Nat → Int32} {B : Nat → Nat → Int64} {I2 : Nat → Int32} {A2 : Nat → Nat → Int32} {T : Nat → Int64} (h1 : vp_in (i + 1) L) (hM : M ≤ N)
    (h8 : ∀ Q, CQ M (tlM I2 A2 T) r s Q → K8 [.ref 0, .int (xs (i + 1).toNatClampNeg)] (HC I J A B (tlM I2 A2 T)) Q) (h9 : ∀ hd Q, RQ hd r s Q → K9 [.ref 34, .int (xs (i + 1).toNatClampNeg)] (HM hd I2 A2 T) Q) (hG : ∀ h, lI (N + 26) h → GG (lo3 i) [] h) :
    (ak_al 1 (ak_al 0 (ak_il 3 (ak_c (.int 1) (ak_ib (fun x y => x + y) (ak_xv L xs (ak_cv 2 6 K8 (ak_al 2 (ak_al 0 (ak_il 3 (ak_c (.int 1) (ak_ib (fun x y => x + y) (ak_xv L xs (ak_cv 2 7 K9 (ak_ic (fun x y => x = y) GG (ak_c (.int 0) (fun _ _ _ => False))))))))))))))))) (lo3 i) [] (HC I J A B (tlM I2 A2 T)) := by
  have k2 : ∀ L' I' J' A' B', L' ≤ M + 26 → CI L' I' J' A' B' s → K9 [.ref 34, .int (xs (i + 1).toNatClampNeg)] (HC I' J' A' B' (tlM I2 A2 T)) (fun v h' => (ak_ic (fun x y => x = y) GG (ak_c (.int 0) (fun _ _ _ => False))) (lo3 i) (am_pu v [.int r]) h') := by
    intro L' I' J' A' B' hL' hC'
    rw [lH]
    refine h9 _ _ ?_
    intro I2' A2' T' hR'
    refine ⟨fun _ => hG _ ⟨I', J', A', B', I2', A2', T', s, L', Nat.le_trans hL' (Nat.add_le_add_right hM 26), lH I' J' A' B' I2' A2' T', hC', hR'⟩, fun q => absurd rfl q⟩
  exact ⟨rfl, h1, ⟨lw_is6 I J A B _, Nat.le_of_ble_eq_true rfl, h8 _ (fun L' I' J' A' B' hL' hC' => ⟨rfl, h1, ⟨lw_is7 (hdC I' J' A' B') I2 A2 T, Nat.le_of_ble_eq_true rfl, k2 L' I' J' A' B' hL' hC'⟩⟩)⟩⟩
theorem lc_2 {K8 K9 : am_T} {GG : am_K} {L N M : Nat} {xs : Nat → Int32} {i r : Int32} {s : MS} {I : Nat → Int32} {J : Nat → Int64} {A : Nat → Nat → Int32} {B : Nat → Nat → Int64} {I2 : Nat → Int32} {A2 : Nat → Nat → Int32} {T : Nat → Int64} (h1 : vp_in (i + 1) L) (h2 : vp_in (i + 2) L) (hM : M ≤ N)
    (h8 : ∀ Q, CQ M (tlM I2 A2 T) r s Q → K8 [.ref 0, .int (xs (i + 1).toNatClampNeg), .int (xs (i + 2).toNatClampNeg)] (HC I J A B (tlM I2 A2 T)) Q) (h9 : ∀ hd Q, RQ hd r s Q → K9 [.ref 34, .int (xs (i + 1).toNatClampNeg), .int (xs (i + 2).toNatClampNeg)] (HM hd I2 A2 T) Q) (hG : ∀ h, lI (N + 26) h → GG (lo3 i) [] h) :
    (ak_al 1 (ak_al 0 (ak_il 3 (ak_c (.int 1) (ak_ib (fun x y => x + y) (ak_xv L xs (ak_al 0 (ak_il 3 (ak_c (.int 2) (ak_ib (fun x y => x + y) (ak_xv L xs (ak_cv 3 6 K8 (ak_al 2 (ak_al 0 (ak_il 3 (ak_c (.int 1) (ak_ib (fun x y => x + y) (ak_xv L xs (ak_al 0 (ak_il 3 (ak_c (.int 2) (ak_ib (fun x y => x + y) (ak_xv L xs (ak_cv 3 7 K9 (ak_ic (fun x y => x = y) GG (ak_c (.int 0) (fun _ _ _ => False))))))))))))))))))))))))))) (lo3 i) [] (HC I J A B (tlM I2 A2 T)) := by
  have k2 : ∀ L' I' J' A' B', L' ≤ M + 26 → CI L' I' J' A' B' s → K9 [.ref 34, .int (xs (i + 1).toNatClampNeg), .int (xs (i + 2).toNatClampNeg)] (HC I' J' A' B' (tlM I2 A2 T)) (fun v h' => (ak_ic (fun x y => x = y) GG (ak_c (.int 0) (fun _ _ _ => False))) (lo3 i) (am_pu v [.int r]) h') := by
    intro L' I' J' A' B' hL' hC'
    rw [lH]
    refine h9 _ _ ?_
    intro I2' A2' T' hR'
    refine ⟨fun _ => hG _ ⟨I', J', A', B', I2', A2', T', s, L', Nat.le_trans hL' (Nat.add_le_add_right hM 26), lH I' J' A' B' I2' A2' T', hC', hR'⟩, fun q => absurd rfl q⟩
  exact ⟨rfl, h1, ⟨rfl, h2, ⟨lw_is6 I J A B _, Nat.le_of_ble_eq_true rfl, h8 _ (fun L' I' J' A' B' hL' hC' => ⟨rfl, h1, ⟨rfl, h2, ⟨lw_is7 (hdC I' J' A' B') I2 A2 T, Nat.le_of_ble_eq_true rfl, k2 L' I' J' A' B' hL' hC'⟩⟩⟩)⟩⟩⟩
theorem lc_3 {K8 K9 : am_T} {GG : am_K} {L N M : Nat} {xs : Nat → Int32} {i r : Int32} {s : MS} {I : Nat → Int32} {J : Nat → Int64} {A : Nat → Nat → Int32} {B : Nat → Nat → Int64} {I2 : Nat → Int32} {A2 : Nat → Nat → Int32} {T : Nat → Int64} (h1 : vp_in (i + 1) L) (h2 : vp_in (i + 2) L) (h3 : vp_in (i + 3) L) (hM : M ≤ N)
    (h8 : ∀ Q, CQ M (tlM I2 A2 T) r s Q → K8 [.ref 0, .int (xs (i + 1).toNatClampNeg), .int (xs (i + 2).toNatClampNeg), .int (xs (i + 3).toNatClampNeg)] (HC I J A B (tlM I2 A2 T)) Q) (h9 : ∀ hd Q, RQ hd r s Q → K9 [.ref 34, .int (xs (i + 1).toNatClampNeg), .int (xs (i + 2).toNatClampNeg), .int (xs (i + 3).toNatClampNeg)] (HM hd I2 A2 T) Q) (hG : ∀ h, lI (N + 26) h → GG (lo3 i) [] h) :
    (ak_al 1 (ak_al 0 (ak_il 3 (ak_c (.int 1) (ak_ib (fun x y => x + y) (ak_xv L xs (ak_al 0 (ak_il 3 (ak_c (.int 2) (ak_ib (fun x y => x + y) (ak_xv L xs (ak_al 0 (ak_il 3 (ak_c (.int 3) (ak_ib (fun x y => x + y) (ak_xv L xs (ak_cv 4 6 K8 (ak_al 2 (ak_al 0 (ak_il 3 (ak_c (.int 1) (ak_ib (fun x y => x + y) (ak_xv L xs (ak_al 0 (ak_il 3 (ak_c (.int 2) (ak_ib (fun x y => x + y) (ak_xv L xs (ak_al 0 (ak_il 3 (ak_c (.int 3) (ak_ib (fun x y => x + y) (ak_xv L xs (ak_cv 4 7 K9 (ak_ic (fun x y => x = y) GG (ak_c (.int 0) (fun _ _ _ => False))))))))))))))))))))))))))))))))))))) (lo3 i) [] (HC I J A B (tlM I2 A2 T)) := by
  have k2 : ∀ L' I' J' A' B', L' ≤ M + 26 → CI L' I' J' A' B' s → K9 [.ref 34, .int (xs (i + 1).toNatClampNeg), .int (xs (i + 2).toNatClampNeg), .int (xs (i + 3).toNatClampNeg)] (HC I' J' A' B' (tlM I2 A2 T)) (fun v h' => (ak_ic (fun x y => x = y) GG (ak_c (.int 0) (fun _ _ _ => False))) (lo3 i) (am_pu v [.int r]) h') := by
    intro L' I' J' A' B' hL' hC'
    rw [lH]
    refine h9 _ _ ?_
    intro I2' A2' T' hR'
    refine ⟨fun _ => hG _ ⟨I', J', A', B', I2', A2', T', s, L', Nat.le_trans hL' (Nat.add_le_add_right hM 26), lH I' J' A' B' I2' A2' T', hC', hR'⟩, fun q => absurd rfl q⟩
  exact ⟨rfl, h1, ⟨rfl, h2, ⟨rfl, h3, ⟨lw_is6 I J A B _, Nat.le_of_ble_eq_true rfl, h8 _ (fun L' I' J' A' B' hL' hC' => ⟨rfl, h1, ⟨rfl, h2, ⟨rfl, h3, ⟨lw_is7 (hdC I' J' A' B') I2 A2 T, Nat.le_of_ble_eq_true rfl, k2 L' I' J' A' B' hL' hC'⟩⟩⟩⟩)⟩⟩⟩⟩
theorem lc_4 {K8 K9 : am_T} {GG : am_K} {L N M : Nat} {xs : Nat → Int32} {i r : Int32} {s : MS} {I : Nat → Int32} {J : Nat → Int64} {A : Nat → Nat → Int32} {B : Nat → Nat → Int64} {I2 : Nat → Int32} {A2 : Nat → Nat → Int32} {T : Nat → Int64} (h1 : vp_in (i + 1) L) (h2 : vp_in (i + 2) L) (h3 : vp_in (i + 3) L) (h4 : vp_in (i + 4) L) (hM : M ≤ N)
    (h8 : ∀ Q, CQ M (tlM I2 A2 T) r s Q → K8 [.ref 0, .int (xs (i + 1).toNatClampNeg), .int (xs (i + 2).toNatClampNeg), .int (xs (i + 3).toNatClampNeg), .int (xs (i + 4).toNatClampNeg)] (HC I J A B (tlM I2 A2 T)) Q) (h9 : ∀ hd Q, RQ hd r s Q → K9 [.ref 34, .int (xs (i + 1).toNatClampNeg), .int (xs (i + 2).toNatClampNeg), .int (xs (i + 3).toNatClampNeg), .int (xs (i + 4).toNatClampNeg)] (HM hd I2 A2 T) Q) (hG : ∀ h, lI (N + 26) h → GG (lo3 i) [] h) :
    (ak_al 1 (ak_al 0 (ak_il 3 (ak_c (.int 1) (ak_ib (fun x y => x + y) (ak_xv L xs (ak_al 0 (ak_il 3 (ak_c (.int 2) (ak_ib (fun x y => x + y) (ak_xv L xs (ak_al 0 (ak_il 3 (ak_c (.int 3) (ak_ib (fun x y => x + y) (ak_xv L xs (ak_al 0 (ak_il 3 (ak_c (.int 4) (ak_ib (fun x y => x + y) (ak_xv L xs (ak_cv 5 6 K8 (ak_al 2 (ak_al 0 (ak_il 3 (ak_c (.int 1) (ak_ib (fun x y => x + y) (ak_xv L xs (ak_al 0 (ak_il 3 (ak_c (.int 2) (ak_ib (fun x y => x + y) (ak_xv L xs (ak_al 0 (ak_il 3 (ak_c (.int 3) (ak_ib (fun x y => x + y) (ak_xv L xs (ak_al 0 (ak_il 3 (ak_c (.int 4) (ak_ib (fun x y => x + y) (ak_xv L xs (ak_cv 5 7 K9 (ak_ic (fun x y => x = y) GG (ak_c (.int 0) (fun _ _ _ => False))))))))))))))))))))))))))))))))))))))))))))))) (lo3 i) [] (HC I J A B (tlM I2 A2 T)) := by
  have k2 : ∀ L' I' J' A' B', L' ≤ M + 26 → CI L' I' J' A' B' s → K9 [.ref 34, .int (xs (i + 1).toNatClampNeg), .int (xs (i + 2).toNatClampNeg), .int (xs (i + 3).toNatClampNeg), .int (xs (i + 4).toNatClampNeg)] (HC I' J' A' B' (tlM I2 A2 T)) (fun v h' => (ak_ic (fun x y => x = y) GG (ak_c (.int 0) (fun _ _ _ => False))) (lo3 i) (am_pu v [.int r]) h') := by
    intro L' I' J' A' B' hL' hC'
    rw [lH]
    refine h9 _ _ ?_
    intro I2' A2' T' hR'
    refine ⟨fun _ => hG _ ⟨I', J', A', B', I2', A2', T', s, L', Nat.le_trans hL' (Nat.add_le_add_right hM 26), lH I' J' A' B' I2' A2' T', hC', hR'⟩, fun q => absurd rfl q⟩
  exact ⟨rfl, h1, ⟨rfl, h2, ⟨rfl, h3, ⟨rfl, h4, ⟨lw_is6 I J A B _, Nat.le_of_ble_eq_true rfl, h8 _ (fun L' I' J' A' B' hL' hC' => ⟨rfl, h1, ⟨rfl, h2, ⟨rfl, h3, ⟨rfl, h4, ⟨lw_is7 (hdC I' J' A' B') I2 A2 T, Nat.le_of_ble_eq_true rfl, k2 L' I' J' A' B' hL' hC'⟩⟩⟩⟩⟩)⟩⟩⟩⟩⟩
theorem lp_148 {G : Nat → am_K} {L N : Nat} {xs : Nat → Int32} {i : Int32} {h : am_H} (h1 : vp_in (i + 1) L) (h2 : vp_in (i + 2) L) (h3 : vp_in (i + 3) L) (h4 : vp_in (i + 4) L) (hN : N + 26 < 1000000) (hI : lI N h) (hG : ∀ h, lI (N + 26) h → G 803 (lo3 i) [] h) : B_L_148 L xs G (lo3 i) [] h := by
  obtain ⟨I, J, A, B, I2, A2, T, s, M, hM, rfl, hC, hR⟩ := hI
  exact lc_1 (L := L) (xs := xs) h1 hM (fun Q q => p_X8_write hC q) (fun hd Q q => p_X9_write hR q) hG
theorem lp_171 {G : Nat → am_K} {L N : Nat} {xs : Nat → Int32} {i : Int32} {h : am_H} (h1 : vp_in (i + 1) L) (h2 : vp_in (i + 2) L) (h3 : vp_in (i + 3) L) (h4 : vp_in (i + 4) L) (hN : N + 26 < 1000000) (hI : lI N h) (hG : ∀ h, lI (N + 26) h → G 803 (lo3 i) [] h) : B_L_171 L xs G (lo3 i) [] h := by
  obtain ⟨I, J, A, B, I2, A2, T, s, M, hM, rfl, hC, hR⟩ := hI
  exact lc_0 (L := L) (xs := xs) hM (fun Q q => p_X8_wipe hC q) (fun hd Q q => p_X9_wipe hR q) hG
theorem lp_184 {G : Nat → am_K} {L N : Nat} {xs : Nat → Int32} {i : Int32} {h : am_H} (h1 : vp_in (i + 1) L) (h2 : vp_in (i + 2) L) (h3 : vp_in (i + 3) L) (h4 : vp_in (i + 4) L) (hN : N + 26 < 1000000) (hI : lI N h) (hG : ∀ h, lI (N + 26) h → G 803 (lo3 i) [] h) : B_L_184 L xs G (lo3 i) [] h := by
  obtain ⟨I, J, A, B, I2, A2, T, s, M, hM, rfl, hC, hR⟩ := hI
  exact lc_0 (L := L) (xs := xs) hM (fun Q q => p_X8_fault hC q) (fun hd Q q => p_X9_fault hR q) hG
theorem lp_197 {G : Nat → am_K} {L N : Nat} {xs : Nat → Int32} {i : Int32} {h : am_H} (h1 : vp_in (i + 1) L) (h2 : vp_in (i + 2) L) (h3 : vp_in (i + 3) L) (h4 : vp_in (i + 4) L) (hN : N + 26 < 1000000) (hI : lI N h) (hG : ∀ h, lI (N + 26) h → G 803 (lo3 i) [] h) : B_L_197 L xs G (lo3 i) [] h := by
  obtain ⟨I, J, A, B, I2, A2, T, s, M, hM, rfl, hC, hR⟩ := hI
  exact lc_0 (L := L) (xs := xs) hM (fun Q q => p_X8_learn hC (by omega) q) (fun hd Q q => p_X9_learn hR q) hG
theorem lp_210 {G : Nat → am_K} {L N : Nat} {xs : Nat → Int32} {i : Int32} {h : am_H} (h1 : vp_in (i + 1) L) (h2 : vp_in (i + 2) L) (h3 : vp_in (i + 3) L) (h4 : vp_in (i + 4) L) (hN : N + 26 < 1000000) (hI : lI N h) (hG : ∀ h, lI (N + 26) h → G 803 (lo3 i) [] h) : B_L_210 L xs G (lo3 i) [] h := by
  obtain ⟨I, J, A, B, I2, A2, T, s, M, hM, rfl, hC, hR⟩ := hI
  exact lc_1 (L := L) (xs := xs) h1 hM (fun Q q => p_X8_forget hC (by omega) q) (fun hd Q q => p_X9_forget hR q) hG
theorem lp_233 {G : Nat → am_K} {L N : Nat} {xs : Nat → Int32} {i : Int32} {h : am_H} (h1 : vp_in (i + 1) L) (h2 : vp_in (i + 2) L) (h3 : vp_in (i + 3) L) (h4 : vp_in (i + 4) L) (hN : N + 26 < 1000000) (hI : lI N h) (hG : ∀ h, lI (N + 26) h → G 803 (lo3 i) [] h) : B_L_233 L xs G (lo3 i) [] h := by
  obtain ⟨I, J, A, B, I2, A2, T, s, M, hM, rfl, hC, hR⟩ := hI
  exact lc_0 (L := L) (xs := xs) hM (fun Q q => p_X8_clue hC (by omega) q) (fun hd Q q => p_X9_clue hR q) hG
theorem lp_246 {G : Nat → am_K} {L N : Nat} {xs : Nat → Int32} {i : Int32} {h : am_H} (h1 : vp_in (i + 1) L) (h2 : vp_in (i + 2) L) (h3 : vp_in (i + 3) L) (h4 : vp_in (i + 4) L) (hN : N + 26 < 1000000) (hI : lI N h) (hG : ∀ h, lI (N + 26) h → G 803 (lo3 i) [] h) : B_L_246 L xs G (lo3 i) [] h := by
  obtain ⟨I, J, A, B, I2, A2, T, s, M, hM, rfl, hC, hR⟩ := hI
  exact lc_0 (L := L) (xs := xs) hM (fun Q q => p_X8_answer hC (by omega) q) (fun hd Q q => p_X9_answer hR q) hG
theorem lp_259 {G : Nat → am_K} {L N : Nat} {xs : Nat → Int32} {i : Int32} {h : am_H} (h1 : vp_in (i + 1) L) (h2 : vp_in (i + 2) L) (h3 : vp_in (i + 3) L) (h4 : vp_in (i + 4) L) (hN : N + 26 < 1000000) (hI : lI N h) (hG : ∀ h, lI (N + 26) h → G 803 (lo3 i) [] h) : B_L_259 L xs G (lo3 i) [] h := by
  obtain ⟨I, J, A, B, I2, A2, T, s, M, hM, rfl, hC, hR⟩ := hI
  exact lc_2 (L := L) (xs := xs) h1 h2 hM (fun Q q => p_X8_weigh hC (by omega) q) (fun hd Q q => p_X9_weigh hR q) hG
theorem lp_292 {G : Nat → am_K} {L N : Nat} {xs : Nat → Int32} {i : Int32} {h : am_H} (h1 : vp_in (i + 1) L) (h2 : vp_in (i + 2) L) (h3 : vp_in (i + 3) L) (h4 : vp_in (i + 4) L) (hN : N + 26 < 1000000) (hI : lI N h) (hG : ∀ h, lI (N + 26) h → G 803 (lo3 i) [] h) : B_L_292 L xs G (lo3 i) [] h := by
  obtain ⟨I, J, A, B, I2, A2, T, s, M, hM, rfl, hC, hR⟩ := hI
  exact lc_2 (L := L) (xs := xs) h1 h2 hM (fun Q q => p_X8_entry hC q) (fun hd Q q => p_X9_entry hR q) hG
theorem lp_325 {G : Nat → am_K} {L N : Nat} {xs : Nat → Int32} {i : Int32} {h : am_H} (h1 : vp_in (i + 1) L) (h2 : vp_in (i + 2) L) (h3 : vp_in (i + 3) L) (h4 : vp_in (i + 4) L) (hN : N + 26 < 1000000) (hI : lI N h) (hG : ∀ h, lI (N + 26) h → G 803 (lo3 i) [] h) : B_L_325 L xs G (lo3 i) [] h := by
  obtain ⟨I, J, A, B, I2, A2, T, s, M, hM, rfl, hC, hR⟩ := hI
  exact lc_3 (L := L) (xs := xs) h1 h2 h3 hM (fun Q q => p_X8_entryLetter hC q) (fun hd Q q => p_X9_entryLetter hR q) hG
theorem lp_368 {G : Nat → am_K} {L N : Nat} {xs : Nat → Int32} {i : Int32} {h : am_H} (h1 : vp_in (i + 1) L) (h2 : vp_in (i + 2) L) (h3 : vp_in (i + 3) L) (h4 : vp_in (i + 4) L) (hN : N + 26 < 1000000) (hI : lI N h) (hG : ∀ h, lI (N + 26) h → G 803 (lo3 i) [] h) : B_L_368 L xs G (lo3 i) [] h := by
  obtain ⟨I, J, A, B, I2, A2, T, s, M, hM, rfl, hC, hR⟩ := hI
  exact lc_2 (L := L) (xs := xs) h1 h2 hM (fun Q q => p_X8_clueLetter hC q) (fun hd Q q => p_X9_clueLetter hR q) hG
theorem lp_401 {G : Nat → am_K} {L N : Nat} {xs : Nat → Int32} {i : Int32} {h : am_H} (h1 : vp_in (i + 1) L) (h2 : vp_in (i + 2) L) (h3 : vp_in (i + 3) L) (h4 : vp_in (i + 4) L) (hN : N + 26 < 1000000) (hI : lI N h) (hG : ∀ h, lI (N + 26) h → G 803 (lo3 i) [] h) : B_L_401 L xs G (lo3 i) [] h := by
  obtain ⟨I, J, A, B, I2, A2, T, s, M, hM, rfl, hC, hR⟩ := hI
  exact lc_1 (L := L) (xs := xs) h1 hM (fun Q q => p_X8_answerLetter hC q) (fun hd Q q => p_X9_answerLetter hR q) hG
theorem lp_424 {G : Nat → am_K} {L N : Nat} {xs : Nat → Int32} {i : Int32} {h : am_H} (h1 : vp_in (i + 1) L) (h2 : vp_in (i + 2) L) (h3 : vp_in (i + 3) L) (h4 : vp_in (i + 4) L) (hN : N + 26 < 1000000) (hI : lI N h) (hG : ∀ h, lI (N + 26) h → G 803 (lo3 i) [] h) : B_L_424 L xs G (lo3 i) [] h := by
  obtain ⟨I, J, A, B, I2, A2, T, s, M, hM, rfl, hC, hR⟩ := hI
  exact lc_2 (L := L) (xs := xs) h1 h2 hM (fun Q q => p_X8_sign hC q) (fun hd Q q => p_X9_sign hR q) hG
theorem lp_457 {G : Nat → am_K} {L N : Nat} {xs : Nat → Int32} {i : Int32} {h : am_H} (h1 : vp_in (i + 1) L) (h2 : vp_in (i + 2) L) (h3 : vp_in (i + 3) L) (h4 : vp_in (i + 4) L) (hN : N + 26 < 1000000) (hI : lI N h) (hG : ∀ h, lI (N + 26) h → G 803 (lo3 i) [] h) : B_L_457 L xs G (lo3 i) [] h := by
  obtain ⟨I, J, A, B, I2, A2, T, s, M, hM, rfl, hC, hR⟩ := hI
  exact lc_0 (L := L) (xs := xs) hM (fun Q q => p_X8_parses hC q) (fun hd Q q => p_X9_parses hR q) hG
theorem lp_470 {G : Nat → am_K} {L N : Nat} {xs : Nat → Int32} {i : Int32} {h : am_H} (h1 : vp_in (i + 1) L) (h2 : vp_in (i + 2) L) (h3 : vp_in (i + 3) L) (h4 : vp_in (i + 4) L) (hN : N + 26 < 1000000) (hI : lI N h) (hG : ∀ h, lI (N + 26) h → G 803 (lo3 i) [] h) : B_L_470 L xs G (lo3 i) [] h := by
  obtain ⟨I, J, A, B, I2, A2, T, s, M, hM, rfl, hC, hR⟩ := hI
  exact lc_0 (L := L) (xs := xs) hM (fun Q q => p_X8_cost hC q) (fun hd Q q => p_X9_cost hR q) hG
theorem lp_483 {G : Nat → am_K} {L N : Nat} {xs : Nat → Int32} {i : Int32} {h : am_H} (h1 : vp_in (i + 1) L) (h2 : vp_in (i + 2) L) (h3 : vp_in (i + 3) L) (h4 : vp_in (i + 4) L) (hN : N + 26 < 1000000) (hI : lI N h) (hG : ∀ h, lI (N + 26) h → G 803 (lo3 i) [] h) : B_L_483 L xs G (lo3 i) [] h := by
  obtain ⟨I, J, A, B, I2, A2, T, s, M, hM, rfl, hC, hR⟩ := hI
  exact lc_1 (L := L) (xs := xs) h1 hM (fun Q q => p_X8_first hC q) (fun hd Q q => p_X9_first hR q) hG
theorem lp_506 {G : Nat → am_K} {L N : Nat} {xs : Nat → Int32} {i : Int32} {h : am_H} (h1 : vp_in (i + 1) L) (h2 : vp_in (i + 2) L) (h3 : vp_in (i + 3) L) (h4 : vp_in (i + 4) L) (hN : N + 26 < 1000000) (hI : lI N h) (hG : ∀ h, lI (N + 26) h → G 803 (lo3 i) [] h) : B_L_506 L xs G (lo3 i) [] h := by
  obtain ⟨I, J, A, B, I2, A2, T, s, M, hM, rfl, hC, hR⟩ := hI
  exact lc_4 (L := L) (xs := xs) h1 h2 h3 h4 hM (fun Q q => p_X8_pieces hC q) (fun hd Q q => p_X9_pieces hR q) hG
theorem lp_559 {G : Nat → am_K} {L N : Nat} {xs : Nat → Int32} {i : Int32} {h : am_H} (h1 : vp_in (i + 1) L) (h2 : vp_in (i + 2) L) (h3 : vp_in (i + 3) L) (h4 : vp_in (i + 4) L) (hN : N + 26 < 1000000) (hI : lI N h) (hG : ∀ h, lI (N + 26) h → G 803 (lo3 i) [] h) : B_L_559 L xs G (lo3 i) [] h := by
  obtain ⟨I, J, A, B, I2, A2, T, s, M, hM, rfl, hC, hR⟩ := hI
  exact lc_4 (L := L) (xs := xs) h1 h2 h3 h4 hM (fun Q q => p_X8_pieceCost hC q) (fun hd Q q => p_X9_pieceCost hR q) hG
theorem lp_612 {G : Nat → am_K} {L N : Nat} {xs : Nat → Int32} {i : Int32} {h : am_H} (h1 : vp_in (i + 1) L) (h2 : vp_in (i + 2) L) (h3 : vp_in (i + 3) L) (h4 : vp_in (i + 4) L) (hN : N + 26 < 1000000) (hI : lI N h) (hG : ∀ h, lI (N + 26) h → G 803 (lo3 i) [] h) : B_L_612 L xs G (lo3 i) [] h := by
  obtain ⟨I, J, A, B, I2, A2, T, s, M, hM, rfl, hC, hR⟩ := hI
  exact lc_4 (L := L) (xs := xs) h1 h2 h3 h4 hM (fun Q q => p_X8_units hC q) (fun hd Q q => p_X9_units hR q) hG
theorem lp_665 {G : Nat → am_K} {L N : Nat} {xs : Nat → Int32} {i : Int32} {h : am_H} (h1 : vp_in (i + 1) L) (h2 : vp_in (i + 2) L) (h3 : vp_in (i + 3) L) (h4 : vp_in (i + 4) L) (hN : N + 26 < 1000000) (hI : lI N h) (hG : ∀ h, lI (N + 26) h → G 803 (lo3 i) [] h) : B_L_665 L xs G (lo3 i) [] h := by
  obtain ⟨I, J, A, B, I2, A2, T, s, M, hM, rfl, hC, hR⟩ := hI
  exact lc_0 (L := L) (xs := xs) hM (fun Q q => p_X8_cheapest hC q) (fun hd Q q => p_X9_cheapest hR q) hG
theorem lp_678 {G : Nat → am_K} {L N : Nat} {xs : Nat → Int32} {i : Int32} {h : am_H} (h1 : vp_in (i + 1) L) (h2 : vp_in (i + 2) L) (h3 : vp_in (i + 3) L) (h4 : vp_in (i + 4) L) (hN : N + 26 < 1000000) (hI : lI N h) (hG : ∀ h, lI (N + 26) h → G 803 (lo3 i) [] h) : B_L_678 L xs G (lo3 i) [] h := by
  obtain ⟨I, J, A, B, I2, A2, T, s, M, hM, rfl, hC, hR⟩ := hI
  exact lc_1 (L := L) (xs := xs) h1 hM (fun Q q => p_X8_offer hC q) (fun hd Q q => p_X9_offer hR q) hG
theorem lp_701 {G : Nat → am_K} {L N : Nat} {xs : Nat → Int32} {i : Int32} {h : am_H} (h1 : vp_in (i + 1) L) (h2 : vp_in (i + 2) L) (h3 : vp_in (i + 3) L) (h4 : vp_in (i + 4) L) (hN : N + 26 < 1000000) (hI : lI N h) (hG : ∀ h, lI (N + 26) h → G 803 (lo3 i) [] h) : B_L_701 L xs G (lo3 i) [] h := by
  obtain ⟨I, J, A, B, I2, A2, T, s, M, hM, rfl, hC, hR⟩ := hI
  exact lc_2 (L := L) (xs := xs) h1 h2 hM (fun Q q => p_X8_ifOffer hC (by omega) q) (fun hd Q q => p_X9_ifOffer hR q) hG
theorem lp_734 {G : Nat → am_K} {L N : Nat} {xs : Nat → Int32} {i : Int32} {h : am_H} (h1 : vp_in (i + 1) L) (h2 : vp_in (i + 2) L) (h3 : vp_in (i + 3) L) (h4 : vp_in (i + 4) L) (hN : N + 26 < 1000000) (hI : lI N h) (hG : ∀ h, lI (N + 26) h → G 803 (lo3 i) [] h) : B_L_734 L xs G (lo3 i) [] h := by
  obtain ⟨I, J, A, B, I2, A2, T, s, M, hM, rfl, hC, hR⟩ := hI
  exact lc_1 (L := L) (xs := xs) h1 hM (fun Q q => p_X8_take hC (by omega) q) (fun hd Q q => p_X9_take hR q) hG
theorem lp_757 {G : Nat → am_K} {L N : Nat} {xs : Nat → Int32} {i : Int32} {h : am_H} (h1 : vp_in (i + 1) L) (h2 : vp_in (i + 2) L) (h3 : vp_in (i + 3) L) (h4 : vp_in (i + 4) L) (hN : N + 26 < 1000000) (hI : lI N h) (hG : ∀ h, lI (N + 26) h → G 803 (lo3 i) [] h) : B_L_757 L xs G (lo3 i) [] h := by
  obtain ⟨I, J, A, B, I2, A2, T, s, M, hM, rfl, hC, hR⟩ := hI
  exact lc_1 (L := L) (xs := xs) h1 hM (fun Q q => p_X8_without hC (by omega) q) (fun hd Q q => p_X9_without hR q) hG
theorem lp_780 {G : Nat → am_K} {L N : Nat} {xs : Nat → Int32} {i : Int32} {h : am_H} (h1 : vp_in (i + 1) L) (h2 : vp_in (i + 2) L) (h3 : vp_in (i + 3) L) (h4 : vp_in (i + 4) L) (hN : N + 26 < 1000000) (hI : lI N h) (hG : ∀ h, lI (N + 26) h → G 803 (lo3 i) [] h) : B_L_780 L xs G (lo3 i) [] h := by
  obtain ⟨I, J, A, B, I2, A2, T, s, M, hM, rfl, hC, hR⟩ := hI
  exact lc_1 (L := L) (xs := xs) h1 hM (fun Q q => p_X8_count hC (by omega) q) (fun hd Q q => p_X9_count hR (MZ_million hR.2.1.1.1 hR.2.1.2.1.1 hR.2.2.1) q) hG
