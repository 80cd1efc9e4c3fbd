/-! the constructors, closed; printed by wip/whole/gen4.py -/
def B_X5i_0 (mA mB : Room) (kA kB : am_T) (h0 : am_H) (rc rs : Nat) (Q : am_Q) (G : Nat → am_K) : am_K := (ak_al 0 (ak_oi (ak_al 0 (ak_new h0 rc rs 4 [.null, .null, .null, .null, .null] (ak_dup (ak_c (.int 10752) (ak_ci h0 rc rs 2 mA.cells mA.slots kA (ak_puta 3 0 (ak_al 0 (ak_new h0 rc rs 4 [.null, .null, .null, .null, .null] (ak_dup (ak_c (.int 10752) (ak_ci h0 rc rs 2 mA.cells mA.slots kA (ak_puta 3 1 (ak_al 0 (ak_new h0 rc rs 4 [.null, .null, .null, .null, .null] (ak_dup (ak_c (.int 1) (ak_ci h0 rc rs 2 mB.cells mB.slots kB (ak_puta 3 2 (ak_al 0 (ak_c (.int 6) (ak_newi h0 rc rs (ak_puta 3 6 (ak_al 0 (ak_c (.int (-4)) (ak_puti 3 8 (ak_al 0 (ak_al 1 (ak_puta 3 3 (ak_al 0 (ak_al 2 (ak_puta 3 4 (ak_al 0 (ak_al 3 (ak_puta 3 5 (ak_rv Q)))))))))))))))))))))))))))))))))))))
def cl_X5i (mA mB : Room) (kA kB : am_T) (h0 : am_H) (rc rs : Nat) (Q : am_Q) (G : Nat → am_K) : Prop := am_N G 0 (B_X5i_0 mA mB kA kB h0 rc rs Q G)
def WP_X5i (mA mB : Room) (kA kB : am_T) (rc rs : Nat) : am_T := fun av h Q => (lg_sl av).length ≤ 4 ∧ ∀ G, cl_X5i mA mB kA kB h rc rs Q G → G 0 (am_ent 4 av) [] h
set_option maxHeartbeats 4000000 in
set_option maxRecDepth 100000 in
theorem s_X5i {mA mB : Room} {kA kB : am_T} (h_A : am_S true yX6_init (am_ws yX6_init cX6_init 2 none) mA kA) (h_B : am_S true yX6_init (am_ws yX6_init cX6_init 2 none) mB kB) {rm : Room} (R_A : mA.frames + 1 ≤ rm.frames ∧ 8 + (2 + 11) + mA.locals ≤ rm.locals) (R_B : mB.frames + 1 ≤ rm.frames ∧ 8 + (2 + 11) + mB.locals ≤ rm.locals) (hO : 1 ≤ rm.frames ∧ 20 ≤ rm.locals) : am_S true yX5_init (am_ws yX5_init cX5_init 4 none) rm (WP_X5i mA mB kA kB rm.cells rm.slots) := by
  refine am_S.of (fun q => by cases q) (by decide +kernel) (fun h0 Q G => cl_X5i mA mB kA kB h0 rm.cells rm.slots Q G) ?_
  intro p l e s m args below meth c D h0 Q X hr hnm hQ
  show am_N _ 0 (B_X5i_0  mA mB kA kB h0 rm.cells rm.slots Q _)
  · unfold B_X5i_0
    refine as_aload_n X (by decide +kernel : decode cX5_init 0 = .ok (.aload_n 0, 1)) rfl ?_
    refine as_oi X (by decide +kernel : decode cX5_init 1 = .ok (.invokespecial 3, 3)) ml_X5_3 im_objectInit co_objectInit hO.1 hO.2 ?_
    refine as_aload_n X (by decide +kernel : decode cX5_init 4 = .ok (.aload_n 0, 1)) rfl ?_
    refine as_new X fc_X6 (by decide +kernel : decode cX5_init 5 = .ok (.new 9, 3)) cl_X5_9 is_X6 ini_X6 rfl (fun j hj => df_X6 D j hj) ?_
    refine as_dup X (by decide +kernel : decode cX5_init 8 = .ok (.dup, 1)) ?_
    refine as_sipush X (by decide +kernel : decode cX5_init 9 = .ok (.sipush 10752, 3)) rfl ?_
    refine as_ci X h_A (by decide +kernel : decode cX5_init 12 = .ok (.invokespecial 15, 3)) dn_X6_init rfl ml_X5_15 im_X6_init ini_X6 co_X6_init R_A ?_
    refine as_puta X fc_X5 (by decide +kernel : decode cX5_init 15 = .ok (.putfield 18, 3)) (by decide) fl_X5_18 (Or.inr ⟨rfl, hnm, rfl⟩) (Or.inr ⟨_, rfl⟩) ?_
    refine as_aload_n X (by decide +kernel : decode cX5_init 18 = .ok (.aload_n 0, 1)) rfl ?_
    refine as_new X fc_X6 (by decide +kernel : decode cX5_init 19 = .ok (.new 9, 3)) cl_X5_9 is_X6 ini_X6 rfl (fun j hj => df_X6 D j hj) ?_
    refine as_dup X (by decide +kernel : decode cX5_init 22 = .ok (.dup, 1)) ?_
    refine as_sipush X (by decide +kernel : decode cX5_init 23 = .ok (.sipush 10752, 3)) rfl ?_
    refine as_ci X h_A (by decide +kernel : decode cX5_init 26 = .ok (.invokespecial 15, 3)) dn_X6_init rfl ml_X5_15 im_X6_init ini_X6 co_X6_init R_A ?_
    refine as_puta X fc_X5 (by decide +kernel : decode cX5_init 29 = .ok (.putfield 22, 3)) (by decide) fl_X5_22 (Or.inr ⟨rfl, hnm, rfl⟩) (Or.inr ⟨_, rfl⟩) ?_
    refine as_aload_n X (by decide +kernel : decode cX5_init 32 = .ok (.aload_n 0, 1)) rfl ?_
    refine as_new X fc_X6 (by decide +kernel : decode cX5_init 33 = .ok (.new 9, 3)) cl_X5_9 is_X6 ini_X6 rfl (fun j hj => df_X6 D j hj) ?_
    refine as_dup X (by decide +kernel : decode cX5_init 36 = .ok (.dup, 1)) ?_
    refine as_iconst X (by decide +kernel : decode cX5_init 37 = .ok (.iconst 1, 1)) rfl ?_
    refine as_ci X h_B (by decide +kernel : decode cX5_init 38 = .ok (.invokespecial 15, 3)) dn_X6_init rfl ml_X5_15 im_X6_init ini_X6 co_X6_init R_B ?_
    refine as_puta X fc_X5 (by decide +kernel : decode cX5_init 41 = .ok (.putfield 25, 3)) (by decide) fl_X5_25 (Or.inr ⟨rfl, hnm, rfl⟩) (Or.inr ⟨_, rfl⟩) ?_
    refine as_aload_n X (by decide +kernel : decode cX5_init 44 = .ok (.aload_n 0, 1)) rfl ?_
    refine as_bipush X (by decide +kernel : decode cX5_init 45 = .ok (.bipush 6, 2)) rfl ?_
    refine as_newi X (by decide +kernel : decode cX5_init 47 = .ok (.newarray .int, 2)) ac_int ?_
    refine as_puta X fc_X5 (by decide +kernel : decode cX5_init 49 = .ok (.putfield 28, 3)) (by decide) fl_X5_28 (Or.inr ⟨rfl, hnm, rfl⟩) (Or.inl ⟨_, rfl⟩) ?_
    refine as_aload_n X (by decide +kernel : decode cX5_init 52 = .ok (.aload_n 0, 1)) rfl ?_
    refine as_bipush X (by decide +kernel : decode cX5_init 53 = .ok (.bipush (-4), 2)) rfl ?_
    refine as_puti X fc_X5 (by decide +kernel : decode cX5_init 55 = .ok (.putfield 32, 3)) (by decide) fl_X5_32 (Or.inl rfl) rfl ?_
    refine as_aload_n X (by decide +kernel : decode cX5_init 58 = .ok (.aload_n 0, 1)) rfl ?_
    refine as_aload_n X (by decide +kernel : decode cX5_init 59 = .ok (.aload_n 1, 1)) rfl ?_
    refine as_puta X fc_X5 (by decide +kernel : decode cX5_init 60 = .ok (.putfield 36, 3)) (by decide) fl_X5_36 (Or.inr ⟨rfl, hnm, rfl⟩) (Or.inr ⟨_, rfl⟩) ?_
    refine as_aload_n X (by decide +kernel : decode cX5_init 63 = .ok (.aload_n 0, 1)) rfl ?_
    refine as_aload_n X (by decide +kernel : decode cX5_init 64 = .ok (.aload_n 2, 1)) rfl ?_
    refine as_puta X fc_X5 (by decide +kernel : decode cX5_init 65 = .ok (.putfield 40, 3)) (by decide) fl_X5_40 (Or.inr ⟨rfl, hnm, rfl⟩) (Or.inr ⟨_, rfl⟩) ?_
    refine as_aload_n X (by decide +kernel : decode cX5_init 68 = .ok (.aload_n 0, 1)) rfl ?_
    refine as_aload_n X (by decide +kernel : decode cX5_init 69 = .ok (.aload_n 3, 1)) rfl ?_
    refine as_puta X fc_X5 (by decide +kernel : decode cX5_init 70 = .ok (.putfield 44, 3)) (by decide) fl_X5_44 (Or.inr ⟨rfl, hnm, rfl⟩) (Or.inl ⟨_, rfl⟩) ?_
    exact as_rv X hQ hr (by decide +kernel : decode cX5_init 73 = .ok (.return_, 1))
def r_X6_iA : Room := { frames := 1, cells := 5, slots := 53760, locals := 20 }
def K_X6_iA : am_T := WP_X6_init 5 53760
theorem k_X6_iA : am_S true yX6_init (am_ws yX6_init cX6_init 2 none) r_X6_iA K_X6_iA := s_X6_init ⟨Nat.le_of_ble_eq_true rfl, Nat.le_of_ble_eq_true rfl⟩
def r_X6_iB : Room := { frames := 1, cells := 5, slots := 5, locals := 20 }
def K_X6_iB : am_T := WP_X6_init 5 5
theorem k_X6_iB : am_S true yX6_init (am_ws yX6_init cX6_init 2 none) r_X6_iB K_X6_iB := s_X6_init ⟨Nat.le_of_ble_eq_true rfl, Nat.le_of_ble_eq_true rfl⟩
def r_X5_init : Room := { frames := 2, cells := 19, slots := 107546, locals := 41 }
def K_X5_init : am_T := WP_X5i r_X6_iA r_X6_iB K_X6_iA K_X6_iB 19 107546
theorem k_X5_init : am_S true yX5_init (am_ws yX5_init cX5_init 4 none) r_X5_init K_X5_init := s_X5i k_X6_iA k_X6_iB ⟨Nat.le_of_ble_eq_true rfl, Nat.le_of_ble_eq_true rfl⟩ ⟨Nat.le_of_ble_eq_true rfl, Nat.le_of_ble_eq_true rfl⟩ ⟨Nat.le_of_ble_eq_true rfl, Nat.le_of_ble_eq_true rfl⟩
def r_X8_init : Room := { frames := 7, cells := 33, slots := 108110, locals := 160 }
def K_X8_init : am_T := WP_X8_init r_X7_init r_X0_init r_X1_init r_X5_init r_X3_init K_X7_init K_X0_init K_X1_init K_X5_init K_X3_init K_X7_replace K_X0_readFrom K_X1_readFrom K_X7_packed K_X5_renew 33 108110
theorem k_X8_init : am_S true yX8_init (am_ws yX8_init cX8_init 1 none) r_X8_init K_X8_init := s_X8_init k_X7_init k_X0_init k_X1_init k_X5_init k_X3_init k_X7_replace k_X0_readFrom k_X1_readFrom k_X7_packed k_X5_renew ⟨Nat.le_of_ble_eq_true rfl, Nat.le_of_ble_eq_true rfl⟩ ⟨Nat.le_of_ble_eq_true rfl, Nat.le_of_ble_eq_true rfl⟩ ⟨Nat.le_of_ble_eq_true rfl, Nat.le_of_ble_eq_true rfl⟩ ⟨Nat.le_of_ble_eq_true rfl, Nat.le_of_ble_eq_true rfl⟩ ⟨Nat.le_of_ble_eq_true rfl, Nat.le_of_ble_eq_true rfl⟩ ⟨Nat.le_of_ble_eq_true rfl, Nat.le_of_ble_eq_true rfl⟩ ⟨Nat.le_of_ble_eq_true rfl, Nat.le_of_ble_eq_true rfl⟩ ⟨Nat.le_of_ble_eq_true rfl, Nat.le_of_ble_eq_true rfl⟩ ⟨Nat.le_of_ble_eq_true rfl, Nat.le_of_ble_eq_true rfl⟩ ⟨Nat.le_of_ble_eq_true rfl, Nat.le_of_ble_eq_true rfl⟩ ⟨Nat.le_of_ble_eq_true rfl, Nat.le_of_ble_eq_true rfl⟩
