/-! points, closures, contracts, soundness; printed by wip/whole/gen.py -/
def B_X8_init_0 (mX7_init : Room) (mX0_init : Room) (mX1_init : Room) (mX5_init : Room) (mX3_init : Room) (kX7_init : am_T) (kX0_init : am_T) (kX1_init : am_T) (kX5_init : am_T) (kX3_init : am_T) (kX7_replace : am_T) (kX0_readFrom : am_T) (kX1_readFrom : am_T) (kX7_packed : am_T) (kX5_renew : am_T) (h0 : am_H) (rc rs : Nat) (Q : am_Q) (G : Nat → am_K) : am_K := (ak_al 0 (ak_oi (ak_al 0 (ak_new h0 rc rs 5 [.null, .int 0] (ak_dup (ak_ci h0 rc rs 1 mX7_init.cells mX7_init.slots kX7_init (ak_puta 6 0 (ak_al 0 (ak_new h0 rc rs 0 [.null, .null, .null, .int 0] (ak_dup (ak_ci h0 rc rs 1 mX0_init.cells mX0_init.slots kX0_init (ak_puta 6 1 (ak_al 0 (ak_new h0 rc rs 1 [.null, .null, .null, .int 0] (ak_dup (ak_ci h0 rc rs 1 mX1_init.cells mX1_init.slots kX1_init (ak_puta 6 2 (ak_al 0 (ak_c (.ref 1011) (ak_clone h0 rc rs (ak_puta 6 3 (ak_al 0 (ak_new h0 rc rs 3 [.null, .null, .null, .null, .null, .null, .null, .long 0, .int 0, .int 0, .int 0, .int 0] (ak_dup (ak_al 0 (ak_get 6 1 (ak_al 0 (ak_get 6 2 (ak_al 0 (ak_get 6 3 (ak_ci h0 rc rs 4 mX5_init.cells mX5_init.slots kX5_init (ak_puta 6 4 (ak_al 0 (ak_new h0 rc rs 2 [.null, .int 0, .int 0, .null] (ak_dup (ak_al 0 (ak_get 6 4 (ak_ci h0 rc rs 2 mX3_init.cells mX3_init.slots kX3_init (ak_puta 6 5 (ak_al 0 (ak_get 6 0 (ak_c (.ref 1000) (ak_cv 2 5 kX7_replace (ak_al 0 (G 98)))))))))))))))))))))))))))))))))))))))))))))
def B_X8_init_98 (mX7_init : Room) (mX0_init : Room) (mX1_init : Room) (mX5_init : Room) (mX3_init : Room) (kX7_init : am_T) (kX0_init : am_T) (kX1_init : am_T) (kX5_init : am_T) (kX3_init : am_T) (kX7_replace : am_T) (kX0_readFrom : am_T) (kX1_readFrom : am_T) (kX7_packed : am_T) (kX5_renew : am_T) (h0 : am_H) (rc rs : Nat) (Q : am_Q) (G : Nat → am_K) : am_K := (ak_get 6 1 (ak_al 0 (ak_get 6 0 (ak_cv 2 0 kX0_readFrom (ak_pop (ak_al 0 (ak_get 6 0 (ak_c (.ref 1001) (ak_cv 2 5 kX7_replace (ak_al 0 (ak_get 6 1 (ak_al 0 (ak_get 6 0 (ak_cv 2 0 kX0_readFrom (ak_pop (ak_al 0 (ak_get 6 0 (ak_c (.ref 1002) (ak_cv 2 5 kX7_replace (ak_al 0 (ak_get 6 2 (ak_al 0 (ak_get 6 0 (ak_cv 2 1 kX1_readFrom (ak_pop (ak_al 0 (ak_get 6 0 (ak_c (.ref 1003) (ak_cv 2 5 kX7_replace (ak_al 0 (ak_al 0 (ak_get 6 0 (ak_c (.int 0) (ak_al 0 (ak_get 6 0 (ak_get 5 1 (ak_cv 3 5 kX7_packed (ak_putl 6 6 (ak_al 0 (ak_get 6 0 (ak_c (.int 0) (ak_puti 5 1 (ak_al 0 (ak_get 6 4 (ak_al 0 (G 192))))))))))))))))))))))))))))))))))))))))))))))
def B_X8_init_192 (mX7_init : Room) (mX0_init : Room) (mX1_init : Room) (mX5_init : Room) (mX3_init : Room) (kX7_init : am_T) (kX0_init : am_T) (kX1_init : am_T) (kX5_init : am_T) (kX3_init : am_T) (kX7_replace : am_T) (kX0_readFrom : am_T) (kX1_readFrom : am_T) (kX7_packed : am_T) (kX5_renew : am_T) (h0 : am_H) (rc rs : Nat) (Q : am_Q) (G : Nat → am_K) : am_K := (ak_get 6 6 (ak_cv 2 3 kX5_renew (ak_rv Q)))
def cl_X8_init (mX7_init : Room) (mX0_init : Room) (mX1_init : Room) (mX5_init : Room) (mX3_init : Room) (kX7_init : am_T) (kX0_init : am_T) (kX1_init : am_T) (kX5_init : am_T) (kX3_init : am_T) (kX7_replace : am_T) (kX0_readFrom : am_T) (kX1_readFrom : am_T) (kX7_packed : am_T) (kX5_renew : am_T) (h0 : am_H) (rc rs : Nat) (Q : am_Q) (G : Nat → am_K) : Prop := am_N G 0 (B_X8_init_0 mX7_init mX0_init mX1_init mX5_init mX3_init kX7_init kX0_init kX1_init kX5_init kX3_init kX7_replace kX0_readFrom kX1_readFrom kX7_packed kX5_renew h0 rc rs Q G) ∧ am_N G 98 (B_X8_init_98 mX7_init mX0_init mX1_init mX5_init mX3_init kX7_init kX0_init kX1_init kX5_init kX3_init kX7_replace kX0_readFrom kX1_readFrom kX7_packed kX5_renew h0 rc rs Q G) ∧ am_N G 192 (B_X8_init_192 mX7_init mX0_init mX1_init mX5_init mX3_init kX7_init kX0_init kX1_init kX5_init kX3_init kX7_replace kX0_readFrom kX1_readFrom kX7_packed kX5_renew h0 rc rs Q G)
def WP_X8_init (mX7_init : Room) (mX0_init : Room) (mX1_init : Room) (mX5_init : Room) (mX3_init : Room) (kX7_init : am_T) (kX0_init : am_T) (kX1_init : am_T) (kX5_init : am_T) (kX3_init : am_T) (kX7_replace : am_T) (kX0_readFrom : am_T) (kX1_readFrom : am_T) (kX7_packed : am_T) (kX5_renew : am_T) (rc rs : Nat) : am_T := fun av h Q => (lg_sl av).length ≤ 1 ∧ ∀ G, cl_X8_init mX7_init mX0_init mX1_init mX5_init mX3_init kX7_init kX0_init kX1_init kX5_init kX3_init kX7_replace kX0_readFrom kX1_readFrom kX7_packed kX5_renew h rc rs Q G → G 0 (am_ent 1 av) [] h
set_option maxHeartbeats 4000000 in
set_option maxRecDepth 100000 in
theorem s_X8_init {mX7_init : Room} {kX7_init : am_T} (h_X7_init : am_S true yX7_init (am_ws yX7_init cX7_init 1 none) mX7_init kX7_init) {mX0_init : Room} {kX0_init : am_T} (h_X0_init : am_S true yX0_init (am_ws yX0_init cX0_init 1 none) mX0_init kX0_init) {mX1_init : Room} {kX1_init : am_T} (h_X1_init : am_S true yX1_init (am_ws yX1_init cX1_init 1 none) mX1_init kX1_init) {mX5_init : Room} {kX5_init : am_T} (h_X5_init : am_S true yX5_init (am_ws yX5_init cX5_init 4 none) mX5_init kX5_init) {mX3_init : Room} {kX3_init : am_T} (h_X3_init : am_S true yX3_init (am_ws yX3_init cX3_init 2 none) mX3_init kX3_init) {mX7_replace : Room} {kX7_replace : am_T} (h_X7_replace : am_S false yX7_replace (am_ws yX7_replace cX7_replace 3 none) mX7_replace kX7_replace) {mX0_readFrom : Room} {kX0_readFrom : am_T} (h_X0_readFrom : am_S false yX0_readFrom (am_ws yX0_readFrom cX0_readFrom 5 (some .int)) mX0_readFrom kX0_readFrom) {mX1_readFrom : Room} {kX1_readFrom : am_T} (h_X1_readFrom : am_S false yX1_readFrom (am_ws yX1_readFrom cX1_readFrom 7 (some .boolean)) mX1_readFrom kX1_readFrom) {mX7_packed : Room} {kX7_packed : am_T} (h_X7_packed : am_S false yX7_packed (am_ws yX7_packed cX7_packed 6 (some .long)) mX7_packed kX7_packed) {mX5_renew : Room} {kX5_renew : am_T} (h_X5_renew : am_S false yX5_renew (am_ws yX5_renew cX5_renew 3 none) mX5_renew kX5_renew) {rm : Room} (R_X7_init : mX7_init.frames + 1 ≤ rm.frames ∧ 8 + (1 + 11) + mX7_init.locals ≤ rm.locals) (R_X0_init : mX0_init.frames + 1 ≤ rm.frames ∧ 8 + (1 + 11) + mX0_init.locals ≤ rm.locals) (R_X1_init : mX1_init.frames + 1 ≤ rm.frames ∧ 8 + (1 + 11) + mX1_init.locals ≤ rm.locals) (R_X5_init : mX5_init.frames + 1 ≤ rm.frames ∧ 8 + (4 + 11) + mX5_init.locals ≤ rm.locals) (R_X3_init : mX3_init.frames + 1 ≤ rm.frames ∧ 8 + (2 + 11) + mX3_init.locals ≤ rm.locals) (R_X7_replace : mX7_replace.frames + 1 ≤ rm.frames ∧ 8 + (3 + 11) + mX7_replace.locals ≤ rm.locals) (R_X0_readFrom : mX0_readFrom.frames + 1 ≤ rm.frames ∧ 8 + (5 + 11) + mX0_readFrom.locals ≤ rm.locals) (R_X1_readFrom : mX1_readFrom.frames + 1 ≤ rm.frames ∧ 8 + (7 + 11) + mX1_readFrom.locals ≤ rm.locals) (R_X7_packed : mX7_packed.frames + 1 ≤ rm.frames ∧ 8 + (6 + 11) + mX7_packed.locals ≤ rm.locals) (R_X5_renew : mX5_renew.frames + 1 ≤ rm.frames ∧ 8 + (3 + 11) + mX5_renew.locals ≤ rm.locals) (hO : 1 ≤ rm.frames ∧ 20 ≤ rm.locals) : am_S true yX8_init (am_ws yX8_init cX8_init 1 none) rm (WP_X8_init mX7_init mX0_init mX1_init mX5_init mX3_init kX7_init kX0_init kX1_init kX5_init kX3_init kX7_replace kX0_readFrom kX1_readFrom kX7_packed kX5_renew rm.cells rm.slots) := by
  refine am_S.of (fun q => by cases q) (by decide +kernel) (fun h0 Q G => cl_X8_init mX7_init mX0_init mX1_init mX5_init mX3_init kX7_init kX0_init kX1_init kX5_init kX3_init kX7_replace kX0_readFrom kX1_readFrom kX7_packed kX5_renew h0 rm.cells rm.slots Q G) ?_
  intro p l e s m args below meth c D h0 Q X hr hnm hQ
  refine ⟨?_, ?_, ?_⟩
  · unfold B_X8_init_0
    refine as_aload_n X (by decide +kernel : decode cX8_init 0 = .ok (.aload_n 0, 1)) rfl ?_
    refine as_oi X (by decide +kernel : decode cX8_init 1 = .ok (.invokespecial 1, 3)) ml_X8_1 im_objectInit co_objectInit hO.1 hO.2 ?_
    refine as_aload_n X (by decide +kernel : decode cX8_init 4 = .ok (.aload_n 0, 1)) rfl ?_
    refine as_new X fc_X7 (by decide +kernel : decode cX8_init 5 = .ok (.new 7, 3)) cl_X8_7 is_X7 ini_X7 rfl (fun j hj => df_X7 D j hj) ?_
    refine as_dup X (by decide +kernel : decode cX8_init 8 = .ok (.dup, 1)) ?_
    refine as_ciN X (host := "ClueParts") h_X7_init (by decide +kernel : decode cX8_init 9 = .ok (.invokespecial 9, 3)) dn_X7_init rfl (by decide +kernel) im_X7_init ini_X7 co_X7_init R_X7_init ?_
    refine as_puta X fc_X8 (by decide +kernel : decode cX8_init 12 = .ok (.putfield 10, 3)) (by decide) fl_X8_10 (Or.inr ⟨rfl, hnm, rfl⟩) (Or.inr ⟨_, rfl⟩) ?_
    refine as_aload_n X (by decide +kernel : decode cX8_init 15 = .ok (.aload_n 0, 1)) rfl ?_
    refine as_new X fc_X0 (by decide +kernel : decode cX8_init 16 = .ok (.new 16, 3)) cl_X8_16 is_X0 ini_X0 rfl (fun j hj => df_X0 D j hj) ?_
    refine as_dup X (by decide +kernel : decode cX8_init 19 = .ok (.dup, 1)) ?_
    refine as_ciN X (host := "ClueParts") h_X0_init (by decide +kernel : decode cX8_init 20 = .ok (.invokespecial 18, 3)) dn_X0_init rfl (by decide +kernel) im_X0_init ini_X0 co_X0_init R_X0_init ?_
    refine as_puta X fc_X8 (by decide +kernel : decode cX8_init 23 = .ok (.putfield 19, 3)) (by decide) fl_X8_19 (Or.inr ⟨rfl, hnm, rfl⟩) (Or.inr ⟨_, rfl⟩) ?_
    refine as_aload_n X (by decide +kernel : decode cX8_init 26 = .ok (.aload_n 0, 1)) rfl ?_
    refine as_new X fc_X1 (by decide +kernel : decode cX8_init 27 = .ok (.new 23, 3)) cl_X8_23 is_X1 ini_X1 rfl (fun j hj => df_X1 D j hj) ?_
    refine as_dup X (by decide +kernel : decode cX8_init 30 = .ok (.dup, 1)) ?_
    refine as_ciN X (host := "ClueParts") h_X1_init (by decide +kernel : decode cX8_init 31 = .ok (.invokespecial 25, 3)) dn_X1_init rfl (by decide +kernel) im_X1_init ini_X1 co_X1_init R_X1_init ?_
    refine as_puta X fc_X8 (by decide +kernel : decode cX8_init 34 = .ok (.putfield 26, 3)) (by decide) fl_X8_26 (Or.inr ⟨rfl, hnm, rfl⟩) (Or.inr ⟨_, rfl⟩) ?_
    refine as_aload_n X (by decide +kernel : decode cX8_init 37 = .ok (.aload_n 0, 1)) rfl ?_
    refine as_gs_FIRST_WEIGHTS X (by decide +kernel : decode cX8_init 38 = .ok (.getstatic 30, 3)) fl_X8_30 ?_
    refine as_clone X (by decide +kernel : decode cX8_init 41 = .ok (.invokevirtual 34, 3)) (by decide +kernel : decode cX8_init 44 = .ok (.checkcast 35, 3)) hO ?_
    refine as_puta X fc_X8 (by decide +kernel : decode cX8_init 47 = .ok (.putfield 39, 3)) (by decide) fl_X8_39 (Or.inr ⟨rfl, hnm, rfl⟩) (Or.inl ⟨_, rfl⟩) ?_
    refine as_aload_n X (by decide +kernel : decode cX8_init 50 = .ok (.aload_n 0, 1)) rfl ?_
    refine as_new X fc_X5 (by decide +kernel : decode cX8_init 51 = .ok (.new 42, 3)) cl_X8_42 is_X5 ini_X5 rfl (fun j hj => df_X5 D j hj) ?_
    refine as_dup X (by decide +kernel : decode cX8_init 54 = .ok (.dup, 1)) ?_
    refine as_aload_n X (by decide +kernel : decode cX8_init 55 = .ok (.aload_n 0, 1)) rfl ?_
    refine as_get X fc_X8 (by decide +kernel : decode cX8_init 56 = .ok (.getfield 19, 3)) (by decide) fl_X8_19 ?_
    refine as_aload_n X (by decide +kernel : decode cX8_init 59 = .ok (.aload_n 0, 1)) rfl ?_
    refine as_get X fc_X8 (by decide +kernel : decode cX8_init 60 = .ok (.getfield 26, 3)) (by decide) fl_X8_26 ?_
    refine as_aload_n X (by decide +kernel : decode cX8_init 63 = .ok (.aload_n 0, 1)) rfl ?_
    refine as_get X fc_X8 (by decide +kernel : decode cX8_init 64 = .ok (.getfield 39, 3)) (by decide) fl_X8_39 ?_
    refine as_ci X h_X5_init (by decide +kernel : decode cX8_init 67 = .ok (.invokespecial 44, 3)) dn_X5_init rfl ml_X8_44 im_X5_init ini_X5 co_X5_init R_X5_init ?_
    refine as_puta X fc_X8 (by decide +kernel : decode cX8_init 70 = .ok (.putfield 47, 3)) (by decide) fl_X8_47 (Or.inr ⟨rfl, hnm, rfl⟩) (Or.inr ⟨_, rfl⟩) ?_
    refine as_aload_n X (by decide +kernel : decode cX8_init 73 = .ok (.aload_n 0, 1)) rfl ?_
    refine as_new X fc_X3 (by decide +kernel : decode cX8_init 74 = .ok (.new 51, 3)) cl_X8_51 is_X3 ini_X3 rfl (fun j hj => df_X3 D j hj) ?_
    refine as_dup X (by decide +kernel : decode cX8_init 77 = .ok (.dup, 1)) ?_
    refine as_aload_n X (by decide +kernel : decode cX8_init 78 = .ok (.aload_n 0, 1)) rfl ?_
    refine as_get X fc_X8 (by decide +kernel : decode cX8_init 79 = .ok (.getfield 47, 3)) (by decide) fl_X8_47 ?_
    refine as_ci X h_X3_init (by decide +kernel : decode cX8_init 82 = .ok (.invokespecial 53, 3)) dn_X3_init rfl ml_X8_53 im_X3_init ini_X3 co_X3_init R_X3_init ?_
    refine as_puta X fc_X8 (by decide +kernel : decode cX8_init 85 = .ok (.putfield 56, 3)) (by decide) fl_X8_56 (Or.inr ⟨rfl, hnm, rfl⟩) (Or.inr ⟨_, rfl⟩) ?_
    refine as_aload_n X (by decide +kernel : decode cX8_init 88 = .ok (.aload_n 0, 1)) rfl ?_
    refine as_get X fc_X8 (by decide +kernel : decode cX8_init 89 = .ok (.getfield 10, 3)) (by decide) fl_X8_10 ?_
    refine as_ldcs (i := 0) X (by decide +kernel : decode cX8_init 92 = .ok (.ldc 60, 2)) rfl rfl (by decide) ?_
    refine as_cv X h_X7_replace rfl (by decide +kernel : decode cX8_init 94 = .ok (.invokevirtual 62, 3)) dn_X7_replace ml_X8_62 im_X7_replace se_X7_replace ini_X7 co_X7_replace R_X7_replace ?_
    refine as_aload_n X (by decide +kernel : decode cX8_init 97 = .ok (.aload_n 0, 1)) rfl ?_
    exact fun _ _ _ h => h
  · unfold B_X8_init_98
    refine as_get X fc_X8 (by decide +kernel : decode cX8_init 98 = .ok (.getfield 19, 3)) (by decide) fl_X8_19 ?_
    refine as_aload_n X (by decide +kernel : decode cX8_init 101 = .ok (.aload_n 0, 1)) rfl ?_
    refine as_get X fc_X8 (by decide +kernel : decode cX8_init 102 = .ok (.getfield 10, 3)) (by decide) fl_X8_10 ?_
    refine as_cv X h_X0_readFrom rfl (by decide +kernel : decode cX8_init 105 = .ok (.invokevirtual 66, 3)) dn_X0_readFrom ml_X8_66 im_X0_readFrom se_X0_readFrom ini_X0 co_X0_readFrom R_X0_readFrom ?_
    refine as_pop X (by decide +kernel : decode cX8_init 108 = .ok (.pop, 1)) ?_
    refine as_aload_n X (by decide +kernel : decode cX8_init 109 = .ok (.aload_n 0, 1)) rfl ?_
    refine as_get X fc_X8 (by decide +kernel : decode cX8_init 110 = .ok (.getfield 10, 3)) (by decide) fl_X8_10 ?_
    refine as_ldcs (i := 1) X (by decide +kernel : decode cX8_init 113 = .ok (.ldc 70, 2)) rfl rfl (by decide) ?_
    refine as_cv X h_X7_replace rfl (by decide +kernel : decode cX8_init 115 = .ok (.invokevirtual 62, 3)) dn_X7_replace ml_X8_62 im_X7_replace se_X7_replace ini_X7 co_X7_replace R_X7_replace ?_
    refine as_aload_n X (by decide +kernel : decode cX8_init 118 = .ok (.aload_n 0, 1)) rfl ?_
    refine as_get X fc_X8 (by decide +kernel : decode cX8_init 119 = .ok (.getfield 19, 3)) (by decide) fl_X8_19 ?_
    refine as_aload_n X (by decide +kernel : decode cX8_init 122 = .ok (.aload_n 0, 1)) rfl ?_
    refine as_get X fc_X8 (by decide +kernel : decode cX8_init 123 = .ok (.getfield 10, 3)) (by decide) fl_X8_10 ?_
    refine as_cv X h_X0_readFrom rfl (by decide +kernel : decode cX8_init 126 = .ok (.invokevirtual 66, 3)) dn_X0_readFrom ml_X8_66 im_X0_readFrom se_X0_readFrom ini_X0 co_X0_readFrom R_X0_readFrom ?_
    refine as_pop X (by decide +kernel : decode cX8_init 129 = .ok (.pop, 1)) ?_
    refine as_aload_n X (by decide +kernel : decode cX8_init 130 = .ok (.aload_n 0, 1)) rfl ?_
    refine as_get X fc_X8 (by decide +kernel : decode cX8_init 131 = .ok (.getfield 10, 3)) (by decide) fl_X8_10 ?_
    refine as_ldcs (i := 2) X (by decide +kernel : decode cX8_init 134 = .ok (.ldc 72, 2)) rfl rfl (by decide) ?_
    refine as_cv X h_X7_replace rfl (by decide +kernel : decode cX8_init 136 = .ok (.invokevirtual 62, 3)) dn_X7_replace ml_X8_62 im_X7_replace se_X7_replace ini_X7 co_X7_replace R_X7_replace ?_
    refine as_aload_n X (by decide +kernel : decode cX8_init 139 = .ok (.aload_n 0, 1)) rfl ?_
    refine as_get X fc_X8 (by decide +kernel : decode cX8_init 140 = .ok (.getfield 26, 3)) (by decide) fl_X8_26 ?_
    refine as_aload_n X (by decide +kernel : decode cX8_init 143 = .ok (.aload_n 0, 1)) rfl ?_
    refine as_get X fc_X8 (by decide +kernel : decode cX8_init 144 = .ok (.getfield 10, 3)) (by decide) fl_X8_10 ?_
    refine as_cv X h_X1_readFrom rfl (by decide +kernel : decode cX8_init 147 = .ok (.invokevirtual 74, 3)) dn_X1_readFrom ml_X8_74 im_X1_readFrom se_X1_readFrom ini_X1 co_X1_readFrom R_X1_readFrom ?_
    refine as_pop X (by decide +kernel : decode cX8_init 150 = .ok (.pop, 1)) ?_
    refine as_aload_n X (by decide +kernel : decode cX8_init 151 = .ok (.aload_n 0, 1)) rfl ?_
    refine as_get X fc_X8 (by decide +kernel : decode cX8_init 152 = .ok (.getfield 10, 3)) (by decide) fl_X8_10 ?_
    refine as_ldcs (i := 3) X (by decide +kernel : decode cX8_init 155 = .ok (.ldc 77, 2)) rfl rfl (by decide) ?_
    refine as_cv X h_X7_replace rfl (by decide +kernel : decode cX8_init 157 = .ok (.invokevirtual 62, 3)) dn_X7_replace ml_X8_62 im_X7_replace se_X7_replace ini_X7 co_X7_replace R_X7_replace ?_
    refine as_aload_n X (by decide +kernel : decode cX8_init 160 = .ok (.aload_n 0, 1)) rfl ?_
    refine as_aload_n X (by decide +kernel : decode cX8_init 161 = .ok (.aload_n 0, 1)) rfl ?_
    refine as_get X fc_X8 (by decide +kernel : decode cX8_init 162 = .ok (.getfield 10, 3)) (by decide) fl_X8_10 ?_
    refine as_iconst X (by decide +kernel : decode cX8_init 165 = .ok (.iconst 0, 1)) rfl ?_
    refine as_aload_n X (by decide +kernel : decode cX8_init 166 = .ok (.aload_n 0, 1)) rfl ?_
    refine as_get X fc_X8 (by decide +kernel : decode cX8_init 167 = .ok (.getfield 10, 3)) (by decide) fl_X8_10 ?_
    refine as_get X fc_X7 (by decide +kernel : decode cX8_init 170 = .ok (.getfield 79, 3)) (by decide) fl_X8_79 ?_
    refine as_cv X h_X7_packed rfl (by decide +kernel : decode cX8_init 173 = .ok (.invokevirtual 83, 3)) dn_X7_packed ml_X8_83 im_X7_packed se_X7_packed ini_X7 co_X7_packed R_X7_packed ?_
    refine as_putl X fc_X8 (by decide +kernel : decode cX8_init 176 = .ok (.putfield 87, 3)) (by decide) fl_X8_87 (Or.inl rfl) rfl ?_
    refine as_aload_n X (by decide +kernel : decode cX8_init 179 = .ok (.aload_n 0, 1)) rfl ?_
    refine as_get X fc_X8 (by decide +kernel : decode cX8_init 180 = .ok (.getfield 10, 3)) (by decide) fl_X8_10 ?_
    refine as_iconst X (by decide +kernel : decode cX8_init 183 = .ok (.iconst 0, 1)) rfl ?_
    refine as_puti X fc_X7 (by decide +kernel : decode cX8_init 184 = .ok (.putfield 79, 3)) (by decide) fl_X8_79 (Or.inl rfl) rfl ?_
    refine as_aload_n X (by decide +kernel : decode cX8_init 187 = .ok (.aload_n 0, 1)) rfl ?_
    refine as_get X fc_X8 (by decide +kernel : decode cX8_init 188 = .ok (.getfield 47, 3)) (by decide) fl_X8_47 ?_
    refine as_aload_n X (by decide +kernel : decode cX8_init 191 = .ok (.aload_n 0, 1)) rfl ?_
    exact fun _ _ _ h => h
  · unfold B_X8_init_192
    refine as_get X fc_X8 (by decide +kernel : decode cX8_init 192 = .ok (.getfield 87, 3)) (by decide) fl_X8_87 ?_
    refine as_cv X h_X5_renew rfl (by decide +kernel : decode cX8_init 195 = .ok (.invokevirtual 91, 3)) dn_X5_renew ml_X8_91 im_X5_renew se_X5_renew ini_X5 co_X5_renew R_X5_renew ?_
    exact as_rv X hQ hr (by decide +kernel : decode cX8_init 198 = .ok (.return_, 1))

def B_X8_write_0 (kX7_append : am_T) (Q : am_Q) (G : Nat → am_K) : am_K := (ak_il 1 (ak_c (.int 32) (ak_ic (fun x y => x < y) (G 12) (ak_il 1 (ak_c (.int 126) (ak_ic (fun x y => x ≤ y) (ak_al 0 (ak_get 6 0 (ak_get 5 1 (ak_c (.int 200) (ak_ic (fun x y => x < y) (ak_al 0 (ak_get 6 0 (ak_il 1 (ak_cv 2 5 kX7_append (ak_al 0 (ak_get 6 0 (ak_get 5 1 (ak_ri Q)))))))) (ak_c (.int (-3)) (ak_ri Q))))))) (G 12)))))))
def B_X8_write_12 (kX7_append : am_T) (Q : am_Q) (G : Nat → am_K) : am_K := (ak_c (.int (-1)) (ak_ri Q))
def cl_X8_write (kX7_append : am_T) (Q : am_Q) (G : Nat → am_K) : Prop := am_N G 0 (B_X8_write_0 kX7_append Q G) ∧ am_N G 12 (B_X8_write_12 kX7_append Q G)
def WP_X8_write (kX7_append : am_T) : am_T := fun av h Q => (lg_sl av).length ≤ 2 ∧ ∀ G, cl_X8_write kX7_append Q G → G 0 (am_ent 2 av) [] h
set_option maxHeartbeats 4000000 in
set_option maxRecDepth 100000 in
theorem s_X8_write {mX7_append : Room} {kX7_append : am_T} (h_X7_append : am_S false yX7_append (am_ws yX7_append cX7_append 2 none) mX7_append kX7_append) {rm : Room} (hz : rm.cells = 0 ∧ rm.slots = 0) (R_X7_append : mX7_append.frames + 1 ≤ rm.frames ∧ 8 + (2 + 11) + mX7_append.locals ≤ rm.locals) : am_S false yX8_write (am_ws yX8_write cX8_write 2 (some .int)) rm (WP_X8_write kX7_append) := by
  refine am_S.of (fun _ => hz) (by decide +kernel) (fun h0 Q G => cl_X8_write kX7_append Q G) ?_
  intro p l e s m args below meth c D h0 Q X hr hnm hQ
  refine ⟨?_, ?_⟩
  · unfold B_X8_write_0
    refine as_iload_n X (by decide +kernel : decode cX8_write 0 = .ok (.iload_n 1, 1)) rfl ?_
    refine as_bipush X (by decide +kernel : decode cX8_write 1 = .ok (.bipush 32, 2)) rfl ?_
    refine as_ic_lt X (tgt := 12) (by decide +kernel : decode cX8_write 3 = .ok (.if_icmp .lt 9, 3)) (by decide) ?_ ?_
    · exact fun _ _ _ h => h
    · refine as_iload_n X (by decide +kernel : decode cX8_write 6 = .ok (.iload_n 1, 1)) rfl ?_
      refine as_bipush X (by decide +kernel : decode cX8_write 7 = .ok (.bipush 126, 2)) rfl ?_
      refine as_ic_le X (tgt := 14) (by decide +kernel : decode cX8_write 9 = .ok (.if_icmp .le 5, 3)) (by decide) ?_ ?_
      · refine as_aload_n X (by decide +kernel : decode cX8_write 14 = .ok (.aload_n 0, 1)) rfl ?_
        refine as_get X fc_X8 (by decide +kernel : decode cX8_write 15 = .ok (.getfield 10, 3)) (by decide) fl_X8_10 ?_
        refine as_get X fc_X7 (by decide +kernel : decode cX8_write 18 = .ok (.getfield 79, 3)) (by decide) fl_X8_79 ?_
        refine as_sipush X (by decide +kernel : decode cX8_write 21 = .ok (.sipush 200, 3)) rfl ?_
        refine as_ic_lt X (tgt := 30) (by decide +kernel : decode cX8_write 24 = .ok (.if_icmp .lt 6, 3)) (by decide) ?_ ?_
        · refine as_aload_n X (by decide +kernel : decode cX8_write 30 = .ok (.aload_n 0, 1)) rfl ?_
          refine as_get X fc_X8 (by decide +kernel : decode cX8_write 31 = .ok (.getfield 10, 3)) (by decide) fl_X8_10 ?_
          refine as_iload_n X (by decide +kernel : decode cX8_write 34 = .ok (.iload_n 1, 1)) rfl ?_
          refine as_cv X h_X7_append rfl (by decide +kernel : decode cX8_write 35 = .ok (.invokevirtual 95, 3)) dn_X7_append ml_X8_95 im_X7_append se_X7_append ini_X7 co_X7_append R_X7_append ?_
          refine as_aload_n X (by decide +kernel : decode cX8_write 38 = .ok (.aload_n 0, 1)) rfl ?_
          refine as_get X fc_X8 (by decide +kernel : decode cX8_write 39 = .ok (.getfield 10, 3)) (by decide) fl_X8_10 ?_
          refine as_get X fc_X7 (by decide +kernel : decode cX8_write 42 = .ok (.getfield 79, 3)) (by decide) fl_X8_79 ?_
          exact as_ri X hQ hr (by decide +kernel : decode cX8_write 45 = .ok (.ireturn, 1))
        · refine as_bipush X (by decide +kernel : decode cX8_write 27 = .ok (.bipush (-3), 2)) rfl ?_
          exact as_ri X hQ hr (by decide +kernel : decode cX8_write 29 = .ok (.ireturn, 1))
      · exact fun _ _ _ h => h
  · unfold B_X8_write_12
    refine as_iconst X (by decide +kernel : decode cX8_write 12 = .ok (.iconst (-1), 1)) rfl ?_
    exact as_ri X hQ hr (by decide +kernel : decode cX8_write 13 = .ok (.ireturn, 1))

def B_X8_wipe_0 (Q : am_Q) (G : Nat → am_K) : am_K := (ak_al 0 (ak_get 6 0 (ak_get 5 1 (ak_is 1 (ak_al 0 (ak_get 6 0 (ak_c (.int 0) (ak_puti 5 1 (ak_il 1 (ak_ri Q))))))))))
def cl_X8_wipe (Q : am_Q) (G : Nat → am_K) : Prop := am_N G 0 (B_X8_wipe_0 Q G)
def WP_X8_wipe : am_T := fun av h Q => (lg_sl av).length ≤ 2 ∧ ∀ G, cl_X8_wipe Q G → G 0 (am_ent 2 av) [] h
set_option maxHeartbeats 4000000 in
set_option maxRecDepth 100000 in
theorem s_X8_wipe {rm : Room} (hz : rm.cells = 0 ∧ rm.slots = 0) : am_S false yX8_wipe (am_ws yX8_wipe cX8_wipe 2 (some .int)) rm (WP_X8_wipe) := by
  refine am_S.of (fun _ => hz) (by decide +kernel) (fun h0 Q G => cl_X8_wipe Q G) ?_
  intro p l e s m args below meth c D h0 Q X hr hnm hQ
  show am_N _ 0 (B_X8_wipe_0  Q _)
  · unfold B_X8_wipe_0
    refine as_aload_n X (by decide +kernel : decode cX8_wipe 0 = .ok (.aload_n 0, 1)) rfl ?_
    refine as_get X fc_X8 (by decide +kernel : decode cX8_wipe 1 = .ok (.getfield 10, 3)) (by decide) fl_X8_10 ?_
    refine as_get X fc_X7 (by decide +kernel : decode cX8_wipe 4 = .ok (.getfield 79, 3)) (by decide) fl_X8_79 ?_
    refine as_istore_n X (by decide +kernel : decode cX8_wipe 7 = .ok (.istore_n 1, 1)) rfl ?_
    refine as_aload_n X (by decide +kernel : decode cX8_wipe 8 = .ok (.aload_n 0, 1)) rfl ?_
    refine as_get X fc_X8 (by decide +kernel : decode cX8_wipe 9 = .ok (.getfield 10, 3)) (by decide) fl_X8_10 ?_
    refine as_iconst X (by decide +kernel : decode cX8_wipe 12 = .ok (.iconst 0, 1)) rfl ?_
    refine as_puti X fc_X7 (by decide +kernel : decode cX8_wipe 13 = .ok (.putfield 79, 3)) (by decide) fl_X8_79 (Or.inl rfl) rfl ?_
    refine as_iload_n X (by decide +kernel : decode cX8_wipe 16 = .ok (.iload_n 1, 1)) rfl ?_
    exact as_ri X hQ hr (by decide +kernel : decode cX8_wipe 17 = .ok (.ireturn, 1))

def B_X8_fault_0 (kX7_faultPlace : am_T) (Q : am_Q) (G : Nat → am_K) : am_K := (ak_al 0 (ak_get 6 0 (ak_cv 1 5 kX7_faultPlace (ak_ri Q))))
def cl_X8_fault (kX7_faultPlace : am_T) (Q : am_Q) (G : Nat → am_K) : Prop := am_N G 0 (B_X8_fault_0 kX7_faultPlace Q G)
def WP_X8_fault (kX7_faultPlace : am_T) : am_T := fun av h Q => (lg_sl av).length ≤ 1 ∧ ∀ G, cl_X8_fault kX7_faultPlace Q G → G 0 (am_ent 1 av) [] h
set_option maxHeartbeats 4000000 in
set_option maxRecDepth 100000 in
theorem s_X8_fault {mX7_faultPlace : Room} {kX7_faultPlace : am_T} (h_X7_faultPlace : am_S false yX7_faultPlace (am_ws yX7_faultPlace cX7_faultPlace 3 (some .int)) mX7_faultPlace kX7_faultPlace) {rm : Room} (hz : rm.cells = 0 ∧ rm.slots = 0) (R_X7_faultPlace : mX7_faultPlace.frames + 1 ≤ rm.frames ∧ 8 + (3 + 11) + mX7_faultPlace.locals ≤ rm.locals) : am_S false yX8_fault (am_ws yX8_fault cX8_fault 1 (some .int)) rm (WP_X8_fault kX7_faultPlace) := by
  refine am_S.of (fun _ => hz) (by decide +kernel) (fun h0 Q G => cl_X8_fault kX7_faultPlace Q G) ?_
  intro p l e s m args below meth c D h0 Q X hr hnm hQ
  show am_N _ 0 (B_X8_fault_0  kX7_faultPlace Q _)
  · unfold B_X8_fault_0
    refine as_aload_n X (by decide +kernel : decode cX8_fault 0 = .ok (.aload_n 0, 1)) rfl ?_
    refine as_get X fc_X8 (by decide +kernel : decode cX8_fault 1 = .ok (.getfield 10, 3)) (by decide) fl_X8_10 ?_
    refine as_cv X h_X7_faultPlace rfl (by decide +kernel : decode cX8_fault 4 = .ok (.invokevirtual 99, 3)) dn_X7_faultPlace ml_X8_99 im_X7_faultPlace se_X7_faultPlace ini_X7 co_X7_faultPlace R_X7_faultPlace ?_
    exact as_ri X hQ hr (by decide +kernel : decode cX8_fault 7 = .ok (.ireturn, 1))

def B_X8_learn_0 (kX7_faultPlace : am_T) (kX0_readFrom : am_T) (kX5_renew : am_T) (Q : am_Q) (G : Nat → am_K) : am_K := (ak_al 0 (ak_get 6 0 (ak_cv 1 5 kX7_faultPlace (ak_c (.int (-4)) (ak_ic (fun x y => x = y) (ak_al 0 (ak_get 6 1 (ak_al 0 (ak_get 6 0 (ak_cv 2 0 kX0_readFrom (ak_is 1 (ak_il 1 (ak_if (fun x => x ≤ 0) (G 42) (ak_al 0 (ak_get 6 4 (ak_al 0 (ak_get 6 6 (ak_cv 2 3 kX5_renew (G 42)))))))))))))) (ak_c (.int (-2)) (ak_ri Q)))))))
def B_X8_learn_42 (kX7_faultPlace : am_T) (kX0_readFrom : am_T) (kX5_renew : am_T) (Q : am_Q) (G : Nat → am_K) : am_K := (ak_il 1 (ak_ri Q))
def cl_X8_learn (kX7_faultPlace : am_T) (kX0_readFrom : am_T) (kX5_renew : am_T) (Q : am_Q) (G : Nat → am_K) : Prop := am_N G 0 (B_X8_learn_0 kX7_faultPlace kX0_readFrom kX5_renew Q G) ∧ am_N G 42 (B_X8_learn_42 kX7_faultPlace kX0_readFrom kX5_renew Q G)
def WP_X8_learn (kX7_faultPlace : am_T) (kX0_readFrom : am_T) (kX5_renew : am_T) : am_T := fun av h Q => (lg_sl av).length ≤ 2 ∧ ∀ G, cl_X8_learn kX7_faultPlace kX0_readFrom kX5_renew Q G → G 0 (am_ent 2 av) [] h
set_option maxHeartbeats 4000000 in
set_option maxRecDepth 100000 in
theorem s_X8_learn {mX7_faultPlace : Room} {kX7_faultPlace : am_T} (h_X7_faultPlace : am_S false yX7_faultPlace (am_ws yX7_faultPlace cX7_faultPlace 3 (some .int)) mX7_faultPlace kX7_faultPlace) {mX0_readFrom : Room} {kX0_readFrom : am_T} (h_X0_readFrom : am_S false yX0_readFrom (am_ws yX0_readFrom cX0_readFrom 5 (some .int)) mX0_readFrom kX0_readFrom) {mX5_renew : Room} {kX5_renew : am_T} (h_X5_renew : am_S false yX5_renew (am_ws yX5_renew cX5_renew 3 none) mX5_renew kX5_renew) {rm : Room} (hz : rm.cells = 0 ∧ rm.slots = 0) (R_X7_faultPlace : mX7_faultPlace.frames + 1 ≤ rm.frames ∧ 8 + (3 + 11) + mX7_faultPlace.locals ≤ rm.locals) (R_X0_readFrom : mX0_readFrom.frames + 1 ≤ rm.frames ∧ 8 + (5 + 11) + mX0_readFrom.locals ≤ rm.locals) (R_X5_renew : mX5_renew.frames + 1 ≤ rm.frames ∧ 8 + (3 + 11) + mX5_renew.locals ≤ rm.locals) : am_S false yX8_learn (am_ws yX8_learn cX8_learn 2 (some .int)) rm (WP_X8_learn kX7_faultPlace kX0_readFrom kX5_renew) := by
  refine am_S.of (fun _ => hz) (by decide +kernel) (fun h0 Q G => cl_X8_learn kX7_faultPlace kX0_readFrom kX5_renew Q G) ?_
  intro p l e s m args below meth c D h0 Q X hr hnm hQ
  refine ⟨?_, ?_⟩
  · unfold B_X8_learn_0
    refine as_aload_n X (by decide +kernel : decode cX8_learn 0 = .ok (.aload_n 0, 1)) rfl ?_
    refine as_get X fc_X8 (by decide +kernel : decode cX8_learn 1 = .ok (.getfield 10, 3)) (by decide) fl_X8_10 ?_
    refine as_cv X h_X7_faultPlace rfl (by decide +kernel : decode cX8_learn 4 = .ok (.invokevirtual 99, 3)) dn_X7_faultPlace ml_X8_99 im_X7_faultPlace se_X7_faultPlace ini_X7 co_X7_faultPlace R_X7_faultPlace ?_
    refine as_bipush X (by decide +kernel : decode cX8_learn 7 = .ok (.bipush (-4), 2)) rfl ?_
    refine as_ic_eq X (tgt := 15) (by decide +kernel : decode cX8_learn 9 = .ok (.if_icmp .eq 6, 3)) (by decide) ?_ ?_
    · refine as_aload_n X (by decide +kernel : decode cX8_learn 15 = .ok (.aload_n 0, 1)) rfl ?_
      refine as_get X fc_X8 (by decide +kernel : decode cX8_learn 16 = .ok (.getfield 19, 3)) (by decide) fl_X8_19 ?_
      refine as_aload_n X (by decide +kernel : decode cX8_learn 19 = .ok (.aload_n 0, 1)) rfl ?_
      refine as_get X fc_X8 (by decide +kernel : decode cX8_learn 20 = .ok (.getfield 10, 3)) (by decide) fl_X8_10 ?_
      refine as_cv X h_X0_readFrom rfl (by decide +kernel : decode cX8_learn 23 = .ok (.invokevirtual 66, 3)) dn_X0_readFrom ml_X8_66 im_X0_readFrom se_X0_readFrom ini_X0 co_X0_readFrom R_X0_readFrom ?_
      refine as_istore_n X (by decide +kernel : decode cX8_learn 26 = .ok (.istore_n 1, 1)) rfl ?_
      refine as_iload_n X (by decide +kernel : decode cX8_learn 27 = .ok (.iload_n 1, 1)) rfl ?_
      refine as_if_le X (tgt := 42) (by decide +kernel : decode cX8_learn 28 = .ok (.ifCond .le 14, 3)) (by decide) ?_ ?_
      · exact fun _ _ _ h => h
      · refine as_aload_n X (by decide +kernel : decode cX8_learn 31 = .ok (.aload_n 0, 1)) rfl ?_
        refine as_get X fc_X8 (by decide +kernel : decode cX8_learn 32 = .ok (.getfield 47, 3)) (by decide) fl_X8_47 ?_
        refine as_aload_n X (by decide +kernel : decode cX8_learn 35 = .ok (.aload_n 0, 1)) rfl ?_
        refine as_get X fc_X8 (by decide +kernel : decode cX8_learn 36 = .ok (.getfield 87, 3)) (by decide) fl_X8_87 ?_
        refine as_cv X h_X5_renew rfl (by decide +kernel : decode cX8_learn 39 = .ok (.invokevirtual 91, 3)) dn_X5_renew ml_X8_91 im_X5_renew se_X5_renew ini_X5 co_X5_renew R_X5_renew ?_
        exact fun _ _ _ h => h
    · refine as_bipush X (by decide +kernel : decode cX8_learn 12 = .ok (.bipush (-2), 2)) rfl ?_
      exact as_ri X hQ hr (by decide +kernel : decode cX8_learn 14 = .ok (.ireturn, 1))
  · unfold B_X8_learn_42
    refine as_iload_n X (by decide +kernel : decode cX8_learn 42 = .ok (.iload_n 1, 1)) rfl ?_
    exact as_ri X hQ hr (by decide +kernel : decode cX8_learn 43 = .ok (.ireturn, 1))

def B_X8_forget_0 (kX0_has : am_T) (kX0_remove : am_T) (kX5_renew : am_T) (Q : am_Q) (G : Nat → am_K) : am_K := (ak_al 0 (ak_get 6 1 (ak_il 1 (ak_cv 2 0 kX0_has (ak_if (fun x => x = 0) (ak_c (.int (-1)) (ak_ri Q)) (ak_al 0 (ak_get 6 1 (ak_il 1 (ak_cv 2 0 kX0_remove (ak_al 0 (ak_get 6 4 (ak_al 0 (ak_get 6 6 (ak_cv 2 3 kX5_renew (ak_al 0 (ak_get 6 1 (ak_get 0 3 (ak_ri Q))))))))))))))))))
def cl_X8_forget (kX0_has : am_T) (kX0_remove : am_T) (kX5_renew : am_T) (Q : am_Q) (G : Nat → am_K) : Prop := am_N G 0 (B_X8_forget_0 kX0_has kX0_remove kX5_renew Q G)
def WP_X8_forget (kX0_has : am_T) (kX0_remove : am_T) (kX5_renew : am_T) : am_T := fun av h Q => (lg_sl av).length ≤ 2 ∧ ∀ G, cl_X8_forget kX0_has kX0_remove kX5_renew Q G → G 0 (am_ent 2 av) [] h
set_option maxHeartbeats 4000000 in
set_option maxRecDepth 100000 in
theorem s_X8_forget {mX0_has : Room} {kX0_has : am_T} (h_X0_has : am_S false yX0_has (am_ws yX0_has cX0_has 2 (some .boolean)) mX0_has kX0_has) {mX0_remove : Room} {kX0_remove : am_T} (h_X0_remove : am_S false yX0_remove (am_ws yX0_remove cX0_remove 3 none) mX0_remove kX0_remove) {mX5_renew : Room} {kX5_renew : am_T} (h_X5_renew : am_S false yX5_renew (am_ws yX5_renew cX5_renew 3 none) mX5_renew kX5_renew) {rm : Room} (hz : rm.cells = 0 ∧ rm.slots = 0) (R_X0_has : mX0_has.frames + 1 ≤ rm.frames ∧ 8 + (2 + 11) + mX0_has.locals ≤ rm.locals) (R_X0_remove : mX0_remove.frames + 1 ≤ rm.frames ∧ 8 + (3 + 11) + mX0_remove.locals ≤ rm.locals) (R_X5_renew : mX5_renew.frames + 1 ≤ rm.frames ∧ 8 + (3 + 11) + mX5_renew.locals ≤ rm.locals) : am_S false yX8_forget (am_ws yX8_forget cX8_forget 2 (some .int)) rm (WP_X8_forget kX0_has kX0_remove kX5_renew) := by
  refine am_S.of (fun _ => hz) (by decide +kernel) (fun h0 Q G => cl_X8_forget kX0_has kX0_remove kX5_renew Q G) ?_
  intro p l e s m args below meth c D h0 Q X hr hnm hQ
  show am_N _ 0 (B_X8_forget_0  kX0_has kX0_remove kX5_renew Q _)
  · unfold B_X8_forget_0
    refine as_aload_n X (by decide +kernel : decode cX8_forget 0 = .ok (.aload_n 0, 1)) rfl ?_
    refine as_get X fc_X8 (by decide +kernel : decode cX8_forget 1 = .ok (.getfield 19, 3)) (by decide) fl_X8_19 ?_
    refine as_iload_n X (by decide +kernel : decode cX8_forget 4 = .ok (.iload_n 1, 1)) rfl ?_
    refine as_cv X h_X0_has rfl (by decide +kernel : decode cX8_forget 5 = .ok (.invokevirtual 103, 3)) dn_X0_has ml_X8_103 im_X0_has se_X0_has ini_X0 co_X0_has R_X0_has ?_
    refine as_if_ne X (tgt := 13) (by decide +kernel : decode cX8_forget 8 = .ok (.ifCond .ne 5, 3)) (by decide) ?_ ?_
    · refine as_iconst X (by decide +kernel : decode cX8_forget 11 = .ok (.iconst (-1), 1)) rfl ?_
      exact as_ri X hQ hr (by decide +kernel : decode cX8_forget 12 = .ok (.ireturn, 1))
    · refine as_aload_n X (by decide +kernel : decode cX8_forget 13 = .ok (.aload_n 0, 1)) rfl ?_
      refine as_get X fc_X8 (by decide +kernel : decode cX8_forget 14 = .ok (.getfield 19, 3)) (by decide) fl_X8_19 ?_
      refine as_iload_n X (by decide +kernel : decode cX8_forget 17 = .ok (.iload_n 1, 1)) rfl ?_
      refine as_cv X h_X0_remove rfl (by decide +kernel : decode cX8_forget 18 = .ok (.invokevirtual 107, 3)) dn_X0_remove ml_X8_107 im_X0_remove se_X0_remove ini_X0 co_X0_remove R_X0_remove ?_
      refine as_aload_n X (by decide +kernel : decode cX8_forget 21 = .ok (.aload_n 0, 1)) rfl ?_
      refine as_get X fc_X8 (by decide +kernel : decode cX8_forget 22 = .ok (.getfield 47, 3)) (by decide) fl_X8_47 ?_
      refine as_aload_n X (by decide +kernel : decode cX8_forget 25 = .ok (.aload_n 0, 1)) rfl ?_
      refine as_get X fc_X8 (by decide +kernel : decode cX8_forget 26 = .ok (.getfield 87, 3)) (by decide) fl_X8_87 ?_
      refine as_cv X h_X5_renew rfl (by decide +kernel : decode cX8_forget 29 = .ok (.invokevirtual 91, 3)) dn_X5_renew ml_X8_91 im_X5_renew se_X5_renew ini_X5 co_X5_renew R_X5_renew ?_
      refine as_aload_n X (by decide +kernel : decode cX8_forget 32 = .ok (.aload_n 0, 1)) rfl ?_
      refine as_get X fc_X8 (by decide +kernel : decode cX8_forget 33 = .ok (.getfield 19, 3)) (by decide) fl_X8_19 ?_
      refine as_get X fc_X0 (by decide +kernel : decode cX8_forget 36 = .ok (.getfield 110, 3)) (by decide) fl_X8_110 ?_
      exact as_ri X hQ hr (by decide +kernel : decode cX8_forget 39 = .ok (.ireturn, 1))

def B_X8_clue_0 (kX1_readFrom : am_T) (kX5_renew : am_T) (Q : am_Q) (G : Nat → am_K) : am_K := (ak_al 0 (ak_get 6 2 (ak_al 0 (ak_get 6 0 (ak_cv 2 1 kX1_readFrom (ak_if (fun x => x = 0) (ak_c (.int (-2)) (ak_ri Q)) (ak_al 0 (ak_get 6 4 (ak_al 0 (ak_get 6 6 (ak_cv 2 3 kX5_renew (ak_al 0 (ak_get 6 2 (ak_get 1 3 (ak_ri Q)))))))))))))))
def cl_X8_clue (kX1_readFrom : am_T) (kX5_renew : am_T) (Q : am_Q) (G : Nat → am_K) : Prop := am_N G 0 (B_X8_clue_0 kX1_readFrom kX5_renew Q G)
def WP_X8_clue (kX1_readFrom : am_T) (kX5_renew : am_T) : am_T := fun av h Q => (lg_sl av).length ≤ 1 ∧ ∀ G, cl_X8_clue kX1_readFrom kX5_renew Q G → G 0 (am_ent 1 av) [] h
set_option maxHeartbeats 4000000 in
set_option maxRecDepth 100000 in
theorem s_X8_clue {mX1_readFrom : Room} {kX1_readFrom : am_T} (h_X1_readFrom : am_S false yX1_readFrom (am_ws yX1_readFrom cX1_readFrom 7 (some .boolean)) mX1_readFrom kX1_readFrom) {mX5_renew : Room} {kX5_renew : am_T} (h_X5_renew : am_S false yX5_renew (am_ws yX5_renew cX5_renew 3 none) mX5_renew kX5_renew) {rm : Room} (hz : rm.cells = 0 ∧ rm.slots = 0) (R_X1_readFrom : mX1_readFrom.frames + 1 ≤ rm.frames ∧ 8 + (7 + 11) + mX1_readFrom.locals ≤ rm.locals) (R_X5_renew : mX5_renew.frames + 1 ≤ rm.frames ∧ 8 + (3 + 11) + mX5_renew.locals ≤ rm.locals) : am_S false yX8_clue (am_ws yX8_clue cX8_clue 1 (some .int)) rm (WP_X8_clue kX1_readFrom kX5_renew) := by
  refine am_S.of (fun _ => hz) (by decide +kernel) (fun h0 Q G => cl_X8_clue kX1_readFrom kX5_renew Q G) ?_
  intro p l e s m args below meth c D h0 Q X hr hnm hQ
  show am_N _ 0 (B_X8_clue_0  kX1_readFrom kX5_renew Q _)
  · unfold B_X8_clue_0
    refine as_aload_n X (by decide +kernel : decode cX8_clue 0 = .ok (.aload_n 0, 1)) rfl ?_
    refine as_get X fc_X8 (by decide +kernel : decode cX8_clue 1 = .ok (.getfield 26, 3)) (by decide) fl_X8_26 ?_
    refine as_aload_n X (by decide +kernel : decode cX8_clue 4 = .ok (.aload_n 0, 1)) rfl ?_
    refine as_get X fc_X8 (by decide +kernel : decode cX8_clue 5 = .ok (.getfield 10, 3)) (by decide) fl_X8_10 ?_
    refine as_cv X h_X1_readFrom rfl (by decide +kernel : decode cX8_clue 8 = .ok (.invokevirtual 74, 3)) dn_X1_readFrom ml_X8_74 im_X1_readFrom se_X1_readFrom ini_X1 co_X1_readFrom R_X1_readFrom ?_
    refine as_if_ne X (tgt := 17) (by decide +kernel : decode cX8_clue 11 = .ok (.ifCond .ne 6, 3)) (by decide) ?_ ?_
    · refine as_bipush X (by decide +kernel : decode cX8_clue 14 = .ok (.bipush (-2), 2)) rfl ?_
      exact as_ri X hQ hr (by decide +kernel : decode cX8_clue 16 = .ok (.ireturn, 1))
    · refine as_aload_n X (by decide +kernel : decode cX8_clue 17 = .ok (.aload_n 0, 1)) rfl ?_
      refine as_get X fc_X8 (by decide +kernel : decode cX8_clue 18 = .ok (.getfield 47, 3)) (by decide) fl_X8_47 ?_
      refine as_aload_n X (by decide +kernel : decode cX8_clue 21 = .ok (.aload_n 0, 1)) rfl ?_
      refine as_get X fc_X8 (by decide +kernel : decode cX8_clue 22 = .ok (.getfield 87, 3)) (by decide) fl_X8_87 ?_
      refine as_cv X h_X5_renew rfl (by decide +kernel : decode cX8_clue 25 = .ok (.invokevirtual 91, 3)) dn_X5_renew ml_X8_91 im_X5_renew se_X5_renew ini_X5 co_X5_renew R_X5_renew ?_
      refine as_aload_n X (by decide +kernel : decode cX8_clue 28 = .ok (.aload_n 0, 1)) rfl ?_
      refine as_get X fc_X8 (by decide +kernel : decode cX8_clue 29 = .ok (.getfield 26, 3)) (by decide) fl_X8_26 ?_
      refine as_get X fc_X1 (by decide +kernel : decode cX8_clue 32 = .ok (.getfield 113, 3)) (by decide) fl_X8_113 ?_
      exact as_ri X hQ hr (by decide +kernel : decode cX8_clue 35 = .ok (.ireturn, 1))

def B_X8_answer_0 (kX7_wordEnd : am_T) (kX7_packed : am_T) (kX8_adopt : am_T) (Q : am_Q) (G : Nat → am_K) : am_K := (ak_al 0 (ak_get 6 0 (ak_get 5 1 (ak_is 1 (ak_il 1 (ak_c (.int 2) (ak_ic (fun x y => x < y) (G 31) (ak_il 1 (ak_c (.int 8) (ak_ic (fun x y => y < x) (G 31) (ak_al 0 (ak_get 6 0 (ak_c (.int 0) (ak_cv 2 5 kX7_wordEnd (ak_il 1 (ak_ic (fun x y => x = y) (ak_al 0 (ak_al 0 (ak_get 6 0 (ak_c (.int 0) (ak_il 1 (ak_cv 3 5 kX7_packed (ak_cv 2 6 kX8_adopt (ak_il 1 (ak_ri Q))))))))) (G 31)))))))))))))))))
def B_X8_answer_31 (kX7_wordEnd : am_T) (kX7_packed : am_T) (kX8_adopt : am_T) (Q : am_Q) (G : Nat → am_K) : am_K := (ak_c (.int (-2)) (ak_ri Q))
def cl_X8_answer (kX7_wordEnd : am_T) (kX7_packed : am_T) (kX8_adopt : am_T) (Q : am_Q) (G : Nat → am_K) : Prop := am_N G 0 (B_X8_answer_0 kX7_wordEnd kX7_packed kX8_adopt Q G) ∧ am_N G 31 (B_X8_answer_31 kX7_wordEnd kX7_packed kX8_adopt Q G)
def WP_X8_answer (kX7_wordEnd : am_T) (kX7_packed : am_T) (kX8_adopt : am_T) : am_T := fun av h Q => (lg_sl av).length ≤ 2 ∧ ∀ G, cl_X8_answer kX7_wordEnd kX7_packed kX8_adopt Q G → G 0 (am_ent 2 av) [] h
set_option maxHeartbeats 4000000 in
set_option maxRecDepth 100000 in
theorem s_X8_answer {mX7_wordEnd : Room} {kX7_wordEnd : am_T} (h_X7_wordEnd : am_S false yX7_wordEnd (am_ws yX7_wordEnd cX7_wordEnd 3 (some .int)) mX7_wordEnd kX7_wordEnd) {mX7_packed : Room} {kX7_packed : am_T} (h_X7_packed : am_S false yX7_packed (am_ws yX7_packed cX7_packed 6 (some .long)) mX7_packed kX7_packed) {mX8_adopt : Room} {kX8_adopt : am_T} (h_X8_adopt : am_S false yX8_adopt (am_ws yX8_adopt cX8_adopt 3 none) mX8_adopt kX8_adopt) {rm : Room} (hz : rm.cells = 0 ∧ rm.slots = 0) (R_X7_wordEnd : mX7_wordEnd.frames + 1 ≤ rm.frames ∧ 8 + (3 + 11) + mX7_wordEnd.locals ≤ rm.locals) (R_X7_packed : mX7_packed.frames + 1 ≤ rm.frames ∧ 8 + (6 + 11) + mX7_packed.locals ≤ rm.locals) (R_X8_adopt : mX8_adopt.frames + 1 ≤ rm.frames ∧ 8 + (3 + 11) + mX8_adopt.locals ≤ rm.locals) : am_S false yX8_answer (am_ws yX8_answer cX8_answer 2 (some .int)) rm (WP_X8_answer kX7_wordEnd kX7_packed kX8_adopt) := by
  refine am_S.of (fun _ => hz) (by decide +kernel) (fun h0 Q G => cl_X8_answer kX7_wordEnd kX7_packed kX8_adopt Q G) ?_
  intro p l e s m args below meth c D h0 Q X hr hnm hQ
  refine ⟨?_, ?_⟩
  · unfold B_X8_answer_0
    refine as_aload_n X (by decide +kernel : decode cX8_answer 0 = .ok (.aload_n 0, 1)) rfl ?_
    refine as_get X fc_X8 (by decide +kernel : decode cX8_answer 1 = .ok (.getfield 10, 3)) (by decide) fl_X8_10 ?_
    refine as_get X fc_X7 (by decide +kernel : decode cX8_answer 4 = .ok (.getfield 79, 3)) (by decide) fl_X8_79 ?_
    refine as_istore_n X (by decide +kernel : decode cX8_answer 7 = .ok (.istore_n 1, 1)) rfl ?_
    refine as_iload_n X (by decide +kernel : decode cX8_answer 8 = .ok (.iload_n 1, 1)) rfl ?_
    refine as_iconst X (by decide +kernel : decode cX8_answer 9 = .ok (.iconst 2, 1)) rfl ?_
    refine as_ic_lt X (tgt := 31) (by decide +kernel : decode cX8_answer 10 = .ok (.if_icmp .lt 21, 3)) (by decide) ?_ ?_
    · exact fun _ _ _ h => h
    · refine as_iload_n X (by decide +kernel : decode cX8_answer 13 = .ok (.iload_n 1, 1)) rfl ?_
      refine as_bipush X (by decide +kernel : decode cX8_answer 14 = .ok (.bipush 8, 2)) rfl ?_
      refine as_ic_gt X (tgt := 31) (by decide +kernel : decode cX8_answer 16 = .ok (.if_icmp .gt 15, 3)) (by decide) ?_ ?_
      · exact fun _ _ _ h => h
      · refine as_aload_n X (by decide +kernel : decode cX8_answer 19 = .ok (.aload_n 0, 1)) rfl ?_
        refine as_get X fc_X8 (by decide +kernel : decode cX8_answer 20 = .ok (.getfield 10, 3)) (by decide) fl_X8_10 ?_
        refine as_iconst X (by decide +kernel : decode cX8_answer 23 = .ok (.iconst 0, 1)) rfl ?_
        refine as_cv X h_X7_wordEnd rfl (by decide +kernel : decode cX8_answer 24 = .ok (.invokevirtual 114, 3)) dn_X7_wordEnd ml_X8_114 im_X7_wordEnd se_X7_wordEnd ini_X7 co_X7_wordEnd R_X7_wordEnd ?_
        refine as_iload_n X (by decide +kernel : decode cX8_answer 27 = .ok (.iload_n 1, 1)) rfl ?_
        refine as_ic_eq X (tgt := 34) (by decide +kernel : decode cX8_answer 28 = .ok (.if_icmp .eq 6, 3)) (by decide) ?_ ?_
        · refine as_aload_n X (by decide +kernel : decode cX8_answer 34 = .ok (.aload_n 0, 1)) rfl ?_
          refine as_aload_n X (by decide +kernel : decode cX8_answer 35 = .ok (.aload_n 0, 1)) rfl ?_
          refine as_get X fc_X8 (by decide +kernel : decode cX8_answer 36 = .ok (.getfield 10, 3)) (by decide) fl_X8_10 ?_
          refine as_iconst X (by decide +kernel : decode cX8_answer 39 = .ok (.iconst 0, 1)) rfl ?_
          refine as_iload_n X (by decide +kernel : decode cX8_answer 40 = .ok (.iload_n 1, 1)) rfl ?_
          refine as_cv X h_X7_packed rfl (by decide +kernel : decode cX8_answer 41 = .ok (.invokevirtual 83, 3)) dn_X7_packed ml_X8_83 im_X7_packed se_X7_packed ini_X7 co_X7_packed R_X7_packed ?_
          refine as_cv X h_X8_adopt rfl (by decide +kernel : decode cX8_answer 44 = .ok (.invokevirtual 118, 3)) dn_X8_adopt ml_X8_118 im_X8_adopt se_X8_adopt ini_X8 co_X8_adopt R_X8_adopt ?_
          refine as_iload_n X (by decide +kernel : decode cX8_answer 47 = .ok (.iload_n 1, 1)) rfl ?_
          exact as_ri X hQ hr (by decide +kernel : decode cX8_answer 48 = .ok (.ireturn, 1))
        · exact fun _ _ _ h => h
  · unfold B_X8_answer_31
    refine as_bipush X (by decide +kernel : decode cX8_answer 31 = .ok (.bipush (-2), 2)) rfl ?_
    exact as_ri X hQ hr (by decide +kernel : decode cX8_answer 33 = .ok (.ireturn, 1))

def B_X8_weigh_0 (kX5_renew : am_T) (Q : am_Q) (G : Nat → am_K) : am_K := (ak_il 1 (ak_if (fun x => x < 0) (G 20) (ak_il 1 (ak_c (.int 11) (ak_ic (fun x y => y ≤ x) (G 20) (ak_il 2 (ak_if (fun x => x < 0) (G 20) (ak_il 2 (ak_c (.int 9) (ak_ic (fun x y => x ≤ y) (ak_al 0 (ak_get 6 3 (ak_il 1 (ak_iald (ak_is 3 (ak_il 3 (ak_il 2 (ak_ic (fun x y => x = y) (ak_c (.int (-2)) (ak_ri Q)) (ak_al 0 (ak_get 6 3 (ak_il 1 (ak_il 2 (ak_iast (ak_al 0 (ak_get 6 4 (ak_al 0 (ak_get 6 6 (ak_cv 2 3 kX5_renew (ak_il 3 (ak_ri Q)))))))))))))))))))) (G 20)))))))))))
def B_X8_weigh_20 (kX5_renew : am_T) (Q : am_Q) (G : Nat → am_K) : am_K := (ak_c (.int (-1)) (ak_ri Q))
def cl_X8_weigh (kX5_renew : am_T) (Q : am_Q) (G : Nat → am_K) : Prop := am_N G 0 (B_X8_weigh_0 kX5_renew Q G) ∧ am_N G 20 (B_X8_weigh_20 kX5_renew Q G)
def WP_X8_weigh (kX5_renew : am_T) : am_T := fun av h Q => (lg_sl av).length ≤ 4 ∧ ∀ G, cl_X8_weigh kX5_renew Q G → G 0 (am_ent 4 av) [] h
set_option maxHeartbeats 4000000 in
set_option maxRecDepth 100000 in
theorem s_X8_weigh {mX5_renew : Room} {kX5_renew : am_T} (h_X5_renew : am_S false yX5_renew (am_ws yX5_renew cX5_renew 3 none) mX5_renew kX5_renew) {rm : Room} (hz : rm.cells = 0 ∧ rm.slots = 0) (R_X5_renew : mX5_renew.frames + 1 ≤ rm.frames ∧ 8 + (3 + 11) + mX5_renew.locals ≤ rm.locals) : am_S false yX8_weigh (am_ws yX8_weigh cX8_weigh 4 (some .int)) rm (WP_X8_weigh kX5_renew) := by
  refine am_S.of (fun _ => hz) (by decide +kernel) (fun h0 Q G => cl_X8_weigh kX5_renew Q G) ?_
  intro p l e s m args below meth c D h0 Q X hr hnm hQ
  refine ⟨?_, ?_⟩
  · unfold B_X8_weigh_0
    refine as_iload_n X (by decide +kernel : decode cX8_weigh 0 = .ok (.iload_n 1, 1)) rfl ?_
    refine as_if_lt X (tgt := 20) (by decide +kernel : decode cX8_weigh 1 = .ok (.ifCond .lt 19, 3)) (by decide) ?_ ?_
    · exact fun _ _ _ h => h
    · refine as_iload_n X (by decide +kernel : decode cX8_weigh 4 = .ok (.iload_n 1, 1)) rfl ?_
      refine as_bipush X (by decide +kernel : decode cX8_weigh 5 = .ok (.bipush 11, 2)) rfl ?_
      refine as_ic_ge X (tgt := 20) (by decide +kernel : decode cX8_weigh 7 = .ok (.if_icmp .ge 13, 3)) (by decide) ?_ ?_
      · exact fun _ _ _ h => h
      · refine as_iload_n X (by decide +kernel : decode cX8_weigh 10 = .ok (.iload_n 2, 1)) rfl ?_
        refine as_if_lt X (tgt := 20) (by decide +kernel : decode cX8_weigh 11 = .ok (.ifCond .lt 9, 3)) (by decide) ?_ ?_
        · exact fun _ _ _ h => h
        · refine as_iload_n X (by decide +kernel : decode cX8_weigh 14 = .ok (.iload_n 2, 1)) rfl ?_
          refine as_bipush X (by decide +kernel : decode cX8_weigh 15 = .ok (.bipush 9, 2)) rfl ?_
          refine as_ic_le X (tgt := 22) (by decide +kernel : decode cX8_weigh 17 = .ok (.if_icmp .le 5, 3)) (by decide) ?_ ?_
          · refine as_aload_n X (by decide +kernel : decode cX8_weigh 22 = .ok (.aload_n 0, 1)) rfl ?_
            refine as_get X fc_X8 (by decide +kernel : decode cX8_weigh 23 = .ok (.getfield 39, 3)) (by decide) fl_X8_39 ?_
            refine as_iload_n X (by decide +kernel : decode cX8_weigh 26 = .ok (.iload_n 1, 1)) rfl ?_
            refine as_iaload X (by decide +kernel : decode cX8_weigh 27 = .ok (.iaload, 1)) ?_
            refine as_istore_n X (by decide +kernel : decode cX8_weigh 28 = .ok (.istore_n 3, 1)) rfl ?_
            refine as_iload_n X (by decide +kernel : decode cX8_weigh 29 = .ok (.iload_n 3, 1)) rfl ?_
            refine as_iload_n X (by decide +kernel : decode cX8_weigh 30 = .ok (.iload_n 2, 1)) rfl ?_
            refine as_ic_ne X (tgt := 37) (by decide +kernel : decode cX8_weigh 31 = .ok (.if_icmp .ne 6, 3)) (by decide) ?_ ?_
            · refine as_bipush X (by decide +kernel : decode cX8_weigh 34 = .ok (.bipush (-2), 2)) rfl ?_
              exact as_ri X hQ hr (by decide +kernel : decode cX8_weigh 36 = .ok (.ireturn, 1))
            · refine as_aload_n X (by decide +kernel : decode cX8_weigh 37 = .ok (.aload_n 0, 1)) rfl ?_
              refine as_get X fc_X8 (by decide +kernel : decode cX8_weigh 38 = .ok (.getfield 39, 3)) (by decide) fl_X8_39 ?_
              refine as_iload_n X (by decide +kernel : decode cX8_weigh 41 = .ok (.iload_n 1, 1)) rfl ?_
              refine as_iload_n X (by decide +kernel : decode cX8_weigh 42 = .ok (.iload_n 2, 1)) rfl ?_
              refine as_iastore X (by decide +kernel : decode cX8_weigh 43 = .ok (.iastore, 1)) ?_
              refine as_aload_n X (by decide +kernel : decode cX8_weigh 44 = .ok (.aload_n 0, 1)) rfl ?_
              refine as_get X fc_X8 (by decide +kernel : decode cX8_weigh 45 = .ok (.getfield 47, 3)) (by decide) fl_X8_47 ?_
              refine as_aload_n X (by decide +kernel : decode cX8_weigh 48 = .ok (.aload_n 0, 1)) rfl ?_
              refine as_get X fc_X8 (by decide +kernel : decode cX8_weigh 49 = .ok (.getfield 87, 3)) (by decide) fl_X8_87 ?_
              refine as_cv X h_X5_renew rfl (by decide +kernel : decode cX8_weigh 52 = .ok (.invokevirtual 91, 3)) dn_X5_renew ml_X8_91 im_X5_renew se_X5_renew ini_X5 co_X5_renew R_X5_renew ?_
              refine as_iload_n X (by decide +kernel : decode cX8_weigh 55 = .ok (.iload_n 3, 1)) rfl ?_
              exact as_ri X hQ hr (by decide +kernel : decode cX8_weigh 56 = .ok (.ireturn, 1))
          · exact fun _ _ _ h => h
  · unfold B_X8_weigh_20
    refine as_iconst X (by decide +kernel : decode cX8_weigh 20 = .ok (.iconst (-1), 1)) rfl ?_
    exact as_ri X hQ hr (by decide +kernel : decode cX8_weigh 21 = .ok (.ireturn, 1))

def B_X8_entry_0 (kX0_has : am_T) (kX2_size : am_T) (kX8_signOf : am_T) (Q : am_Q) (G : Nat → am_K) : am_K := (ak_al 0 (ak_get 6 1 (ak_il 1 (ak_cv 2 0 kX0_has (ak_if (fun x => x = 0) (G 20) (ak_il 2 (ak_if (fun x => x < 0) (G 20) (ak_il 2 (ak_c (.int 3) (ak_ic (fun x y => x ≤ y) (ak_al 0 (ak_get 6 1 (ak_get 0 2 (ak_il 1 (ak_iald (ak_is 3 (ak_il 2 (ak_sw (0) (2) [(ak_al 0 (ak_get 6 1 (ak_get 0 0 (ak_il 1 (ak_lald (ak_cs 1 kX2_size (ak_ri Q))))))), (ak_il 3 (ak_if (fun x => x = 0) (ak_c (.int 0) (G 82)) (ak_c (.int 1) (G 82)))), (ak_al 0 (ak_get 6 1 (ak_get 0 1 (ak_il 1 (ak_lald (ak_cs 1 kX2_size (ak_ri Q)))))))] (ak_il 3 (ak_if (fun x => x = 0) (ak_c (.int (-4)) (G 109)) (ak_il 3 (ak_cs 1 kX8_signOf (G 109))))))))))))) (G 20)))))))))))
def B_X8_entry_20 (kX0_has : am_T) (kX2_size : am_T) (kX8_signOf : am_T) (Q : am_Q) (G : Nat → am_K) : am_K := (ak_c (.int (-1)) (ak_ri Q))
def B_X8_entry_82 (kX0_has : am_T) (kX2_size : am_T) (kX8_signOf : am_T) (Q : am_Q) (G : Nat → am_K) : am_K := (ak_ri Q)
def B_X8_entry_109 (kX0_has : am_T) (kX2_size : am_T) (kX8_signOf : am_T) (Q : am_Q) (G : Nat → am_K) : am_K := (ak_ri Q)
def cl_X8_entry (kX0_has : am_T) (kX2_size : am_T) (kX8_signOf : am_T) (Q : am_Q) (G : Nat → am_K) : Prop := am_N G 0 (B_X8_entry_0 kX0_has kX2_size kX8_signOf Q G) ∧ am_N G 20 (B_X8_entry_20 kX0_has kX2_size kX8_signOf Q G) ∧ am_N G 82 (B_X8_entry_82 kX0_has kX2_size kX8_signOf Q G) ∧ am_N G 109 (B_X8_entry_109 kX0_has kX2_size kX8_signOf Q G)
def WP_X8_entry (kX0_has : am_T) (kX2_size : am_T) (kX8_signOf : am_T) : am_T := fun av h Q => (lg_sl av).length ≤ 4 ∧ ∀ G, cl_X8_entry kX0_has kX2_size kX8_signOf Q G → G 0 (am_ent 4 av) [] h
set_option maxHeartbeats 4000000 in
set_option maxRecDepth 100000 in
theorem s_X8_entry {mX0_has : Room} {kX0_has : am_T} (h_X0_has : am_S false yX0_has (am_ws yX0_has cX0_has 2 (some .boolean)) mX0_has kX0_has) {mX2_size : Room} {kX2_size : am_T} (h_X2_size : am_S false yX2_size (am_ws yX2_size cX2_size 3 (some .int)) mX2_size kX2_size) {mX8_signOf : Room} {kX8_signOf : am_T} (h_X8_signOf : am_S false yX8_signOf (am_ws yX8_signOf cX8_signOf 2 (some .int)) mX8_signOf kX8_signOf) {rm : Room} (hz : rm.cells = 0 ∧ rm.slots = 0) (R_X0_has : mX0_has.frames + 1 ≤ rm.frames ∧ 8 + (2 + 11) + mX0_has.locals ≤ rm.locals) (R_X2_size : mX2_size.frames + 1 ≤ rm.frames ∧ 8 + (3 + 11) + mX2_size.locals ≤ rm.locals) (R_X8_signOf : mX8_signOf.frames + 1 ≤ rm.frames ∧ 8 + (2 + 11) + mX8_signOf.locals ≤ rm.locals) : am_S false yX8_entry (am_ws yX8_entry cX8_entry 4 (some .int)) rm (WP_X8_entry kX0_has kX2_size kX8_signOf) := by
  refine am_S.of (fun _ => hz) (by decide +kernel) (fun h0 Q G => cl_X8_entry kX0_has kX2_size kX8_signOf Q G) ?_
  intro p l e s m args below meth c D h0 Q X hr hnm hQ
  refine ⟨?_, ?_, ?_, ?_⟩
  · unfold B_X8_entry_0
    refine as_aload_n X (by decide +kernel : decode cX8_entry 0 = .ok (.aload_n 0, 1)) rfl ?_
    refine as_get X fc_X8 (by decide +kernel : decode cX8_entry 1 = .ok (.getfield 19, 3)) (by decide) fl_X8_19 ?_
    refine as_iload_n X (by decide +kernel : decode cX8_entry 4 = .ok (.iload_n 1, 1)) rfl ?_
    refine as_cv X h_X0_has rfl (by decide +kernel : decode cX8_entry 5 = .ok (.invokevirtual 103, 3)) dn_X0_has ml_X8_103 im_X0_has se_X0_has ini_X0 co_X0_has R_X0_has ?_
    refine as_if_eq X (tgt := 20) (by decide +kernel : decode cX8_entry 8 = .ok (.ifCond .eq 12, 3)) (by decide) ?_ ?_
    · exact fun _ _ _ h => h
    · refine as_iload_n X (by decide +kernel : decode cX8_entry 11 = .ok (.iload_n 2, 1)) rfl ?_
      refine as_if_lt X (tgt := 20) (by decide +kernel : decode cX8_entry 12 = .ok (.ifCond .lt 8, 3)) (by decide) ?_ ?_
      · exact fun _ _ _ h => h
      · refine as_iload_n X (by decide +kernel : decode cX8_entry 15 = .ok (.iload_n 2, 1)) rfl ?_
        refine as_iconst X (by decide +kernel : decode cX8_entry 16 = .ok (.iconst 3, 1)) rfl ?_
        refine as_ic_le X (tgt := 22) (by decide +kernel : decode cX8_entry 17 = .ok (.if_icmp .le 5, 3)) (by decide) ?_ ?_
        · refine as_aload_n X (by decide +kernel : decode cX8_entry 22 = .ok (.aload_n 0, 1)) rfl ?_
          refine as_get X fc_X8 (by decide +kernel : decode cX8_entry 23 = .ok (.getfield 19, 3)) (by decide) fl_X8_19 ?_
          refine as_get X fc_X0 (by decide +kernel : decode cX8_entry 26 = .ok (.getfield 121, 3)) (by decide) fl_X8_121 ?_
          refine as_iload_n X (by decide +kernel : decode cX8_entry 29 = .ok (.iload_n 1, 1)) rfl ?_
          refine as_iaload X (by decide +kernel : decode cX8_entry 30 = .ok (.iaload, 1)) ?_
          refine as_istore_n X (by decide +kernel : decode cX8_entry 31 = .ok (.istore_n 3, 1)) rfl ?_
          refine as_iload_n X (by decide +kernel : decode cX8_entry 32 = .ok (.iload_n 2, 1)) rfl ?_
          refine as_sw X (td := 96) (by decide +kernel : decode cX8_entry 33 = .ok (.tableswitch 63 0 2 #[27, 40, 50], 27)) (by decide) rfl (by decide) ?_ ?_
          · refine as_iload_n X (by decide +kernel : decode cX8_entry 96 = .ok (.iload_n 3, 1)) rfl ?_
            refine as_if_ne X (tgt := 105) (by decide +kernel : decode cX8_entry 97 = .ok (.ifCond .ne 8, 3)) (by decide) ?_ ?_
            · refine as_bipush X (by decide +kernel : decode cX8_entry 100 = .ok (.bipush (-4), 2)) rfl ?_
              refine as_goto X (tgt := 109) (by decide +kernel : decode cX8_entry 102 = .ok (.goto 7, 3)) (by decide) ?_
              exact fun _ _ _ h => h
            · refine as_iload_n X (by decide +kernel : decode cX8_entry 105 = .ok (.iload_n 3, 1)) rfl ?_
              refine as_cs X h_X8_signOf (by decide +kernel : decode cX8_entry 106 = .ok (.invokestatic 136, 3)) dn_X8_signOf ml_X8_136 st_X8_signOf ini_X8 co_X8_signOf R_X8_signOf ?_
              exact fun _ _ _ h => h
          · intro i off K h1 h2
            match i, h1, h2 with
            | 0, h1, h2 =>
              obtain rfl := Option.some.inj h1
              obtain rfl := Option.some.inj h2
              refine ⟨60, by decide, ?_⟩
              refine as_aload_n X (by decide +kernel : decode cX8_entry 60 = .ok (.aload_n 0, 1)) rfl ?_
              refine as_get X fc_X8 (by decide +kernel : decode cX8_entry 61 = .ok (.getfield 19, 3)) (by decide) fl_X8_19 ?_
              refine as_get X fc_X0 (by decide +kernel : decode cX8_entry 64 = .ok (.getfield 124, 3)) (by decide) fl_X8_124 ?_
              refine as_iload_n X (by decide +kernel : decode cX8_entry 67 = .ok (.iload_n 1, 1)) rfl ?_
              refine as_laload X (by decide +kernel : decode cX8_entry 68 = .ok (.laload, 1)) ?_
              refine as_cs X h_X2_size (by decide +kernel : decode cX8_entry 69 = .ok (.invokestatic 128, 3)) dn_X2_size ml_X8_128 st_X2_size ini_X2 co_X2_size R_X2_size ?_
              exact as_ri X hQ hr (by decide +kernel : decode cX8_entry 72 = .ok (.ireturn, 1))
            | 1, h1, h2 =>
              obtain rfl := Option.some.inj h1
              obtain rfl := Option.some.inj h2
              refine ⟨73, by decide, ?_⟩
              refine as_iload_n X (by decide +kernel : decode cX8_entry 73 = .ok (.iload_n 3, 1)) rfl ?_
              refine as_if_ne X (tgt := 81) (by decide +kernel : decode cX8_entry 74 = .ok (.ifCond .ne 7, 3)) (by decide) ?_ ?_
              · refine as_iconst X (by decide +kernel : decode cX8_entry 77 = .ok (.iconst 0, 1)) rfl ?_
                refine as_goto X (tgt := 82) (by decide +kernel : decode cX8_entry 78 = .ok (.goto 4, 3)) (by decide) ?_
                exact fun _ _ _ h => h
              · refine as_iconst X (by decide +kernel : decode cX8_entry 81 = .ok (.iconst 1, 1)) rfl ?_
                exact fun _ _ _ h => h
            | 2, h1, h2 =>
              obtain rfl := Option.some.inj h1
              obtain rfl := Option.some.inj h2
              refine ⟨83, by decide, ?_⟩
              refine as_aload_n X (by decide +kernel : decode cX8_entry 83 = .ok (.aload_n 0, 1)) rfl ?_
              refine as_get X fc_X8 (by decide +kernel : decode cX8_entry 84 = .ok (.getfield 19, 3)) (by decide) fl_X8_19 ?_
              refine as_get X fc_X0 (by decide +kernel : decode cX8_entry 87 = .ok (.getfield 133, 3)) (by decide) fl_X8_133 ?_
              refine as_iload_n X (by decide +kernel : decode cX8_entry 90 = .ok (.iload_n 1, 1)) rfl ?_
              refine as_laload X (by decide +kernel : decode cX8_entry 91 = .ok (.laload, 1)) ?_
              refine as_cs X h_X2_size (by decide +kernel : decode cX8_entry 92 = .ok (.invokestatic 128, 3)) dn_X2_size ml_X8_128 st_X2_size ini_X2 co_X2_size R_X2_size ?_
              exact as_ri X hQ hr (by decide +kernel : decode cX8_entry 95 = .ok (.ireturn, 1))
            | i + 3, h1, h2 => exact absurd h2 (by simp)
        · exact fun _ _ _ h => h
  · unfold B_X8_entry_20
    refine as_iconst X (by decide +kernel : decode cX8_entry 20 = .ok (.iconst (-1), 1)) rfl ?_
    exact as_ri X hQ hr (by decide +kernel : decode cX8_entry 21 = .ok (.ireturn, 1))
  · unfold B_X8_entry_82
    exact as_ri X hQ hr (by decide +kernel : decode cX8_entry 82 = .ok (.ireturn, 1))
  · unfold B_X8_entry_109
    exact as_ri X hQ hr (by decide +kernel : decode cX8_entry 109 = .ok (.ireturn, 1))

def B_X8_entryLetter_0 (kX0_has : am_T) (kX8_letterOrNone : am_T) (Q : am_Q) (G : Nat → am_K) : am_K := (ak_al 0 (ak_get 6 1 (ak_il 1 (ak_cv 2 0 kX0_has (ak_if (fun x => x = 0) (G 24) (ak_il 2 (ak_if (fun x => x < 0) (G 24) (ak_il 2 (ak_c (.int 1) (ak_ic (fun x y => y < x) (G 24) (ak_il 3 (ak_if (fun x => 0 ≤ x) (ak_il 2 (ak_if (fun x => x = 0) (ak_al 0 (ak_get 6 1 (ak_get 0 0 (ak_il 1 (ak_lald (G 51)))))) (ak_al 0 (ak_get 6 1 (ak_get 0 1 (ak_il 1 (ak_lald (G 51)))))))) (G 24)))))))))))))
def B_X8_entryLetter_24 (kX0_has : am_T) (kX8_letterOrNone : am_T) (Q : am_Q) (G : Nat → am_K) : am_K := (ak_c (.int (-1)) (ak_ri Q))
def B_X8_entryLetter_51 (kX0_has : am_T) (kX8_letterOrNone : am_T) (Q : am_Q) (G : Nat → am_K) : am_K := (ak_il 3 (ak_cs 2 kX8_letterOrNone (ak_ri Q)))
def cl_X8_entryLetter (kX0_has : am_T) (kX8_letterOrNone : am_T) (Q : am_Q) (G : Nat → am_K) : Prop := am_N G 0 (B_X8_entryLetter_0 kX0_has kX8_letterOrNone Q G) ∧ am_N G 24 (B_X8_entryLetter_24 kX0_has kX8_letterOrNone Q G) ∧ am_N G 51 (B_X8_entryLetter_51 kX0_has kX8_letterOrNone Q G)
def WP_X8_entryLetter (kX0_has : am_T) (kX8_letterOrNone : am_T) : am_T := fun av h Q => (lg_sl av).length ≤ 4 ∧ ∀ G, cl_X8_entryLetter kX0_has kX8_letterOrNone Q G → G 0 (am_ent 4 av) [] h
set_option maxHeartbeats 4000000 in
set_option maxRecDepth 100000 in
theorem s_X8_entryLetter {mX0_has : Room} {kX0_has : am_T} (h_X0_has : am_S false yX0_has (am_ws yX0_has cX0_has 2 (some .boolean)) mX0_has kX0_has) {mX8_letterOrNone : Room} {kX8_letterOrNone : am_T} (h_X8_letterOrNone : am_S false yX8_letterOrNone (am_ws yX8_letterOrNone cX8_letterOrNone 3 (some .int)) mX8_letterOrNone kX8_letterOrNone) {rm : Room} (hz : rm.cells = 0 ∧ rm.slots = 0) (R_X0_has : mX0_has.frames + 1 ≤ rm.frames ∧ 8 + (2 + 11) + mX0_has.locals ≤ rm.locals) (R_X8_letterOrNone : mX8_letterOrNone.frames + 1 ≤ rm.frames ∧ 8 + (3 + 11) + mX8_letterOrNone.locals ≤ rm.locals) : am_S false yX8_entryLetter (am_ws yX8_entryLetter cX8_entryLetter 4 (some .int)) rm (WP_X8_entryLetter kX0_has kX8_letterOrNone) := by
  refine am_S.of (fun _ => hz) (by decide +kernel) (fun h0 Q G => cl_X8_entryLetter kX0_has kX8_letterOrNone Q G) ?_
  intro p l e s m args below meth c D h0 Q X hr hnm hQ
  refine ⟨?_, ?_, ?_⟩
  · unfold B_X8_entryLetter_0
    refine as_aload_n X (by decide +kernel : decode cX8_entryLetter 0 = .ok (.aload_n 0, 1)) rfl ?_
    refine as_get X fc_X8 (by decide +kernel : decode cX8_entryLetter 1 = .ok (.getfield 19, 3)) (by decide) fl_X8_19 ?_
    refine as_iload_n X (by decide +kernel : decode cX8_entryLetter 4 = .ok (.iload_n 1, 1)) rfl ?_
    refine as_cv X h_X0_has rfl (by decide +kernel : decode cX8_entryLetter 5 = .ok (.invokevirtual 103, 3)) dn_X0_has ml_X8_103 im_X0_has se_X0_has ini_X0 co_X0_has R_X0_has ?_
    refine as_if_eq X (tgt := 24) (by decide +kernel : decode cX8_entryLetter 8 = .ok (.ifCond .eq 16, 3)) (by decide) ?_ ?_
    · exact fun _ _ _ h => h
    · refine as_iload_n X (by decide +kernel : decode cX8_entryLetter 11 = .ok (.iload_n 2, 1)) rfl ?_
      refine as_if_lt X (tgt := 24) (by decide +kernel : decode cX8_entryLetter 12 = .ok (.ifCond .lt 12, 3)) (by decide) ?_ ?_
      · exact fun _ _ _ h => h
      · refine as_iload_n X (by decide +kernel : decode cX8_entryLetter 15 = .ok (.iload_n 2, 1)) rfl ?_
        refine as_iconst X (by decide +kernel : decode cX8_entryLetter 16 = .ok (.iconst 1, 1)) rfl ?_
        refine as_ic_gt X (tgt := 24) (by decide +kernel : decode cX8_entryLetter 17 = .ok (.if_icmp .gt 7, 3)) (by decide) ?_ ?_
        · exact fun _ _ _ h => h
        · refine as_iload_n X (by decide +kernel : decode cX8_entryLetter 20 = .ok (.iload_n 3, 1)) rfl ?_
          refine as_if_ge X (tgt := 26) (by decide +kernel : decode cX8_entryLetter 21 = .ok (.ifCond .ge 5, 3)) (by decide) ?_ ?_
          · refine as_iload_n X (by decide +kernel : decode cX8_entryLetter 26 = .ok (.iload_n 2, 1)) rfl ?_
            refine as_if_ne X (tgt := 42) (by decide +kernel : decode cX8_entryLetter 27 = .ok (.ifCond .ne 15, 3)) (by decide) ?_ ?_
            · refine as_aload_n X (by decide +kernel : decode cX8_entryLetter 30 = .ok (.aload_n 0, 1)) rfl ?_
              refine as_get X fc_X8 (by decide +kernel : decode cX8_entryLetter 31 = .ok (.getfield 19, 3)) (by decide) fl_X8_19 ?_
              refine as_get X fc_X0 (by decide +kernel : decode cX8_entryLetter 34 = .ok (.getfield 124, 3)) (by decide) fl_X8_124 ?_
              refine as_iload_n X (by decide +kernel : decode cX8_entryLetter 37 = .ok (.iload_n 1, 1)) rfl ?_
              refine as_laload X (by decide +kernel : decode cX8_entryLetter 38 = .ok (.laload, 1)) ?_
              refine as_goto X (tgt := 51) (by decide +kernel : decode cX8_entryLetter 39 = .ok (.goto 12, 3)) (by decide) ?_
              exact fun _ _ _ h => h
            · refine as_aload_n X (by decide +kernel : decode cX8_entryLetter 42 = .ok (.aload_n 0, 1)) rfl ?_
              refine as_get X fc_X8 (by decide +kernel : decode cX8_entryLetter 43 = .ok (.getfield 19, 3)) (by decide) fl_X8_19 ?_
              refine as_get X fc_X0 (by decide +kernel : decode cX8_entryLetter 46 = .ok (.getfield 133, 3)) (by decide) fl_X8_133 ?_
              refine as_iload_n X (by decide +kernel : decode cX8_entryLetter 49 = .ok (.iload_n 1, 1)) rfl ?_
              refine as_laload X (by decide +kernel : decode cX8_entryLetter 50 = .ok (.laload, 1)) ?_
              exact fun _ _ _ h => h
          · exact fun _ _ _ h => h
  · unfold B_X8_entryLetter_24
    refine as_iconst X (by decide +kernel : decode cX8_entryLetter 24 = .ok (.iconst (-1), 1)) rfl ?_
    exact as_ri X hQ hr (by decide +kernel : decode cX8_entryLetter 25 = .ok (.ireturn, 1))
  · unfold B_X8_entryLetter_51
    refine as_iload_n X (by decide +kernel : decode cX8_entryLetter 51 = .ok (.iload_n 3, 1)) rfl ?_
    refine as_cs X h_X8_letterOrNone (by decide +kernel : decode cX8_entryLetter 52 = .ok (.invokestatic 139, 3)) dn_X8_letterOrNone ml_X8_139 st_X8_letterOrNone ini_X8 co_X8_letterOrNone R_X8_letterOrNone ?_
    exact as_ri X hQ hr (by decide +kernel : decode cX8_entryLetter 55 = .ok (.ireturn, 1))

def B_X8_clueLetter_0 (kX1_has : am_T) (kX2_size : am_T) (kX8_letterOrNone : am_T) (Q : am_Q) (G : Nat → am_K) : am_K := (ak_al 0 (ak_get 6 2 (ak_il 1 (ak_cv 2 1 kX1_has (ak_if (fun x => x = 0) (G 16) (ak_il 2 (ak_c (.int (-1)) (ak_ic (fun x y => y ≤ x) (ak_il 2 (ak_c (.int (-1)) (ak_ic (fun x y => x = y) (ak_al 0 (ak_get 6 2 (ak_get 1 0 (ak_il 1 (ak_lald (ak_cs 1 kX2_size (ak_ri Q))))))) (ak_al 0 (ak_get 6 2 (ak_get 1 0 (ak_il 1 (ak_lald (ak_il 2 (ak_cs 2 kX8_letterOrNone (ak_ri Q))))))))))) (G 16)))))))))
def B_X8_clueLetter_16 (kX1_has : am_T) (kX2_size : am_T) (kX8_letterOrNone : am_T) (Q : am_Q) (G : Nat → am_K) : am_K := (ak_c (.int (-1)) (ak_ri Q))
def cl_X8_clueLetter (kX1_has : am_T) (kX2_size : am_T) (kX8_letterOrNone : am_T) (Q : am_Q) (G : Nat → am_K) : Prop := am_N G 0 (B_X8_clueLetter_0 kX1_has kX2_size kX8_letterOrNone Q G) ∧ am_N G 16 (B_X8_clueLetter_16 kX1_has kX2_size kX8_letterOrNone Q G)
def WP_X8_clueLetter (kX1_has : am_T) (kX2_size : am_T) (kX8_letterOrNone : am_T) : am_T := fun av h Q => (lg_sl av).length ≤ 3 ∧ ∀ G, cl_X8_clueLetter kX1_has kX2_size kX8_letterOrNone Q G → G 0 (am_ent 3 av) [] h
set_option maxHeartbeats 4000000 in
set_option maxRecDepth 100000 in
theorem s_X8_clueLetter {mX1_has : Room} {kX1_has : am_T} (h_X1_has : am_S false yX1_has (am_ws yX1_has cX1_has 2 (some .boolean)) mX1_has kX1_has) {mX2_size : Room} {kX2_size : am_T} (h_X2_size : am_S false yX2_size (am_ws yX2_size cX2_size 3 (some .int)) mX2_size kX2_size) {mX8_letterOrNone : Room} {kX8_letterOrNone : am_T} (h_X8_letterOrNone : am_S false yX8_letterOrNone (am_ws yX8_letterOrNone cX8_letterOrNone 3 (some .int)) mX8_letterOrNone kX8_letterOrNone) {rm : Room} (hz : rm.cells = 0 ∧ rm.slots = 0) (R_X1_has : mX1_has.frames + 1 ≤ rm.frames ∧ 8 + (2 + 11) + mX1_has.locals ≤ rm.locals) (R_X2_size : mX2_size.frames + 1 ≤ rm.frames ∧ 8 + (3 + 11) + mX2_size.locals ≤ rm.locals) (R_X8_letterOrNone : mX8_letterOrNone.frames + 1 ≤ rm.frames ∧ 8 + (3 + 11) + mX8_letterOrNone.locals ≤ rm.locals) : am_S false yX8_clueLetter (am_ws yX8_clueLetter cX8_clueLetter 3 (some .int)) rm (WP_X8_clueLetter kX1_has kX2_size kX8_letterOrNone) := by
  refine am_S.of (fun _ => hz) (by decide +kernel) (fun h0 Q G => cl_X8_clueLetter kX1_has kX2_size kX8_letterOrNone Q G) ?_
  intro p l e s m args below meth c D h0 Q X hr hnm hQ
  refine ⟨?_, ?_⟩
  · unfold B_X8_clueLetter_0
    refine as_aload_n X (by decide +kernel : decode cX8_clueLetter 0 = .ok (.aload_n 0, 1)) rfl ?_
    refine as_get X fc_X8 (by decide +kernel : decode cX8_clueLetter 1 = .ok (.getfield 26, 3)) (by decide) fl_X8_26 ?_
    refine as_iload_n X (by decide +kernel : decode cX8_clueLetter 4 = .ok (.iload_n 1, 1)) rfl ?_
    refine as_cv X h_X1_has rfl (by decide +kernel : decode cX8_clueLetter 5 = .ok (.invokevirtual 143, 3)) dn_X1_has ml_X8_143 im_X1_has se_X1_has ini_X1 co_X1_has R_X1_has ?_
    refine as_if_eq X (tgt := 16) (by decide +kernel : decode cX8_clueLetter 8 = .ok (.ifCond .eq 8, 3)) (by decide) ?_ ?_
    · exact fun _ _ _ h => h
    · refine as_iload_n X (by decide +kernel : decode cX8_clueLetter 11 = .ok (.iload_n 2, 1)) rfl ?_
      refine as_iconst X (by decide +kernel : decode cX8_clueLetter 12 = .ok (.iconst (-1), 1)) rfl ?_
      refine as_ic_ge X (tgt := 18) (by decide +kernel : decode cX8_clueLetter 13 = .ok (.if_icmp .ge 5, 3)) (by decide) ?_ ?_
      · refine as_iload_n X (by decide +kernel : decode cX8_clueLetter 18 = .ok (.iload_n 2, 1)) rfl ?_
        refine as_iconst X (by decide +kernel : decode cX8_clueLetter 19 = .ok (.iconst (-1), 1)) rfl ?_
        refine as_ic_ne X (tgt := 36) (by decide +kernel : decode cX8_clueLetter 20 = .ok (.if_icmp .ne 16, 3)) (by decide) ?_ ?_
        · refine as_aload_n X (by decide +kernel : decode cX8_clueLetter 23 = .ok (.aload_n 0, 1)) rfl ?_
          refine as_get X fc_X8 (by decide +kernel : decode cX8_clueLetter 24 = .ok (.getfield 26, 3)) (by decide) fl_X8_26 ?_
          refine as_get X fc_X1 (by decide +kernel : decode cX8_clueLetter 27 = .ok (.getfield 144, 3)) (by decide) fl_X8_144 ?_
          refine as_iload_n X (by decide +kernel : decode cX8_clueLetter 30 = .ok (.iload_n 1, 1)) rfl ?_
          refine as_laload X (by decide +kernel : decode cX8_clueLetter 31 = .ok (.laload, 1)) ?_
          refine as_cs X h_X2_size (by decide +kernel : decode cX8_clueLetter 32 = .ok (.invokestatic 128, 3)) dn_X2_size ml_X8_128 st_X2_size ini_X2 co_X2_size R_X2_size ?_
          exact as_ri X hQ hr (by decide +kernel : decode cX8_clueLetter 35 = .ok (.ireturn, 1))
        · refine as_aload_n X (by decide +kernel : decode cX8_clueLetter 36 = .ok (.aload_n 0, 1)) rfl ?_
          refine as_get X fc_X8 (by decide +kernel : decode cX8_clueLetter 37 = .ok (.getfield 26, 3)) (by decide) fl_X8_26 ?_
          refine as_get X fc_X1 (by decide +kernel : decode cX8_clueLetter 40 = .ok (.getfield 144, 3)) (by decide) fl_X8_144 ?_
          refine as_iload_n X (by decide +kernel : decode cX8_clueLetter 43 = .ok (.iload_n 1, 1)) rfl ?_
          refine as_laload X (by decide +kernel : decode cX8_clueLetter 44 = .ok (.laload, 1)) ?_
          refine as_iload_n X (by decide +kernel : decode cX8_clueLetter 45 = .ok (.iload_n 2, 1)) rfl ?_
          refine as_cs X h_X8_letterOrNone (by decide +kernel : decode cX8_clueLetter 46 = .ok (.invokestatic 139, 3)) dn_X8_letterOrNone ml_X8_139 st_X8_letterOrNone ini_X8 co_X8_letterOrNone R_X8_letterOrNone ?_
          exact as_ri X hQ hr (by decide +kernel : decode cX8_clueLetter 49 = .ok (.ireturn, 1))
      · exact fun _ _ _ h => h
  · unfold B_X8_clueLetter_16
    refine as_iconst X (by decide +kernel : decode cX8_clueLetter 16 = .ok (.iconst (-1), 1)) rfl ?_
    exact as_ri X hQ hr (by decide +kernel : decode cX8_clueLetter 17 = .ok (.ireturn, 1))

def B_X8_answerLetter_0 (kX8_letterOrNone : am_T) (Q : am_Q) (G : Nat → am_K) : am_K := (ak_il 1 (ak_if (fun x => 0 ≤ x) (ak_al 0 (ak_get 6 6 (ak_il 1 (ak_cs 2 kX8_letterOrNone (G 16))))) (ak_c (.int (-1)) (G 16))))
def B_X8_answerLetter_16 (kX8_letterOrNone : am_T) (Q : am_Q) (G : Nat → am_K) : am_K := (ak_ri Q)
def cl_X8_answerLetter (kX8_letterOrNone : am_T) (Q : am_Q) (G : Nat → am_K) : Prop := am_N G 0 (B_X8_answerLetter_0 kX8_letterOrNone Q G) ∧ am_N G 16 (B_X8_answerLetter_16 kX8_letterOrNone Q G)
def WP_X8_answerLetter (kX8_letterOrNone : am_T) : am_T := fun av h Q => (lg_sl av).length ≤ 2 ∧ ∀ G, cl_X8_answerLetter kX8_letterOrNone Q G → G 0 (am_ent 2 av) [] h
set_option maxHeartbeats 4000000 in
set_option maxRecDepth 100000 in
theorem s_X8_answerLetter {mX8_letterOrNone : Room} {kX8_letterOrNone : am_T} (h_X8_letterOrNone : am_S false yX8_letterOrNone (am_ws yX8_letterOrNone cX8_letterOrNone 3 (some .int)) mX8_letterOrNone kX8_letterOrNone) {rm : Room} (hz : rm.cells = 0 ∧ rm.slots = 0) (R_X8_letterOrNone : mX8_letterOrNone.frames + 1 ≤ rm.frames ∧ 8 + (3 + 11) + mX8_letterOrNone.locals ≤ rm.locals) : am_S false yX8_answerLetter (am_ws yX8_answerLetter cX8_answerLetter 2 (some .int)) rm (WP_X8_answerLetter kX8_letterOrNone) := by
  refine am_S.of (fun _ => hz) (by decide +kernel) (fun h0 Q G => cl_X8_answerLetter kX8_letterOrNone Q G) ?_
  intro p l e s m args below meth c D h0 Q X hr hnm hQ
  refine ⟨?_, ?_⟩
  · unfold B_X8_answerLetter_0
    refine as_iload_n X (by decide +kernel : decode cX8_answerLetter 0 = .ok (.iload_n 1, 1)) rfl ?_
    refine as_if_ge X (tgt := 8) (by decide +kernel : decode cX8_answerLetter 1 = .ok (.ifCond .ge 7, 3)) (by decide) ?_ ?_
    · refine as_aload_n X (by decide +kernel : decode cX8_answerLetter 8 = .ok (.aload_n 0, 1)) rfl ?_
      refine as_get X fc_X8 (by decide +kernel : decode cX8_answerLetter 9 = .ok (.getfield 87, 3)) (by decide) fl_X8_87 ?_
      refine as_iload_n X (by decide +kernel : decode cX8_answerLetter 12 = .ok (.iload_n 1, 1)) rfl ?_
      refine as_cs X h_X8_letterOrNone (by decide +kernel : decode cX8_answerLetter 13 = .ok (.invokestatic 139, 3)) dn_X8_letterOrNone ml_X8_139 st_X8_letterOrNone ini_X8 co_X8_letterOrNone R_X8_letterOrNone ?_
      exact fun _ _ _ h => h
    · refine as_iconst X (by decide +kernel : decode cX8_answerLetter 4 = .ok (.iconst (-1), 1)) rfl ?_
      refine as_goto X (tgt := 16) (by decide +kernel : decode cX8_answerLetter 5 = .ok (.goto 11, 3)) (by decide) ?_
      exact fun _ _ _ h => h
  · unfold B_X8_answerLetter_16
    exact as_ri X hQ hr (by decide +kernel : decode cX8_answerLetter 16 = .ok (.ireturn, 1))

def B_X8_sign_0 (kX1_has : am_T) (kX5_marked : am_T) (Q : am_Q) (G : Nat → am_K) : am_K := (ak_al 0 (ak_get 6 2 (ak_il 1 (ak_cv 2 1 kX1_has (ak_if (fun x => x = 0) (G 22) (ak_il 2 (ak_c (.int 2) (ak_ic (fun x y => x < y) (G 22) (ak_il 2 (ak_c (.int 11) (ak_ic (fun x y => x < y) (ak_al 0 (ak_get 6 4 (ak_il 1 (ak_il 2 (ak_cv 3 3 kX5_marked (ak_if (fun x => x = 0) (ak_c (.int 0) (G 41)) (ak_c (.int 1) (G 41)))))))) (G 22))))))))))))
def B_X8_sign_22 (kX1_has : am_T) (kX5_marked : am_T) (Q : am_Q) (G : Nat → am_K) : am_K := (ak_c (.int (-1)) (ak_ri Q))
def B_X8_sign_41 (kX1_has : am_T) (kX5_marked : am_T) (Q : am_Q) (G : Nat → am_K) : am_K := (ak_ri Q)
def cl_X8_sign (kX1_has : am_T) (kX5_marked : am_T) (Q : am_Q) (G : Nat → am_K) : Prop := am_N G 0 (B_X8_sign_0 kX1_has kX5_marked Q G) ∧ am_N G 22 (B_X8_sign_22 kX1_has kX5_marked Q G) ∧ am_N G 41 (B_X8_sign_41 kX1_has kX5_marked Q G)
def WP_X8_sign (kX1_has : am_T) (kX5_marked : am_T) : am_T := fun av h Q => (lg_sl av).length ≤ 3 ∧ ∀ G, cl_X8_sign kX1_has kX5_marked Q G → G 0 (am_ent 3 av) [] h
set_option maxHeartbeats 4000000 in
set_option maxRecDepth 100000 in
theorem s_X8_sign {mX1_has : Room} {kX1_has : am_T} (h_X1_has : am_S false yX1_has (am_ws yX1_has cX1_has 2 (some .boolean)) mX1_has kX1_has) {mX5_marked : Room} {kX5_marked : am_T} (h_X5_marked : am_S false yX5_marked (am_ws yX5_marked cX5_marked 3 (some .boolean)) mX5_marked kX5_marked) {rm : Room} (hz : rm.cells = 0 ∧ rm.slots = 0) (R_X1_has : mX1_has.frames + 1 ≤ rm.frames ∧ 8 + (2 + 11) + mX1_has.locals ≤ rm.locals) (R_X5_marked : mX5_marked.frames + 1 ≤ rm.frames ∧ 8 + (3 + 11) + mX5_marked.locals ≤ rm.locals) : am_S false yX8_sign (am_ws yX8_sign cX8_sign 3 (some .int)) rm (WP_X8_sign kX1_has kX5_marked) := by
  refine am_S.of (fun _ => hz) (by decide +kernel) (fun h0 Q G => cl_X8_sign kX1_has kX5_marked Q G) ?_
  intro p l e s m args below meth c D h0 Q X hr hnm hQ
  refine ⟨?_, ?_, ?_⟩
  · unfold B_X8_sign_0
    refine as_aload_n X (by decide +kernel : decode cX8_sign 0 = .ok (.aload_n 0, 1)) rfl ?_
    refine as_get X fc_X8 (by decide +kernel : decode cX8_sign 1 = .ok (.getfield 26, 3)) (by decide) fl_X8_26 ?_
    refine as_iload_n X (by decide +kernel : decode cX8_sign 4 = .ok (.iload_n 1, 1)) rfl ?_
    refine as_cv X h_X1_has rfl (by decide +kernel : decode cX8_sign 5 = .ok (.invokevirtual 143, 3)) dn_X1_has ml_X8_143 im_X1_has se_X1_has ini_X1 co_X1_has R_X1_has ?_
    refine as_if_eq X (tgt := 22) (by decide +kernel : decode cX8_sign 8 = .ok (.ifCond .eq 14, 3)) (by decide) ?_ ?_
    · exact fun _ _ _ h => h
    · refine as_iload_n X (by decide +kernel : decode cX8_sign 11 = .ok (.iload_n 2, 1)) rfl ?_
      refine as_iconst X (by decide +kernel : decode cX8_sign 12 = .ok (.iconst 2, 1)) rfl ?_
      refine as_ic_lt X (tgt := 22) (by decide +kernel : decode cX8_sign 13 = .ok (.if_icmp .lt 9, 3)) (by decide) ?_ ?_
      · exact fun _ _ _ h => h
      · refine as_iload_n X (by decide +kernel : decode cX8_sign 16 = .ok (.iload_n 2, 1)) rfl ?_
        refine as_bipush X (by decide +kernel : decode cX8_sign 17 = .ok (.bipush 11, 2)) rfl ?_
        refine as_ic_lt X (tgt := 24) (by decide +kernel : decode cX8_sign 19 = .ok (.if_icmp .lt 5, 3)) (by decide) ?_ ?_
        · refine as_aload_n X (by decide +kernel : decode cX8_sign 24 = .ok (.aload_n 0, 1)) rfl ?_
          refine as_get X fc_X8 (by decide +kernel : decode cX8_sign 25 = .ok (.getfield 47, 3)) (by decide) fl_X8_47 ?_
          refine as_iload_n X (by decide +kernel : decode cX8_sign 28 = .ok (.iload_n 1, 1)) rfl ?_
          refine as_iload_n X (by decide +kernel : decode cX8_sign 29 = .ok (.iload_n 2, 1)) rfl ?_
          refine as_cv X h_X5_marked rfl (by decide +kernel : decode cX8_sign 30 = .ok (.invokevirtual 145, 3)) dn_X5_marked ml_X8_145 im_X5_marked se_X5_marked ini_X5 co_X5_marked R_X5_marked ?_
          refine as_if_eq X (tgt := 40) (by decide +kernel : decode cX8_sign 33 = .ok (.ifCond .eq 7, 3)) (by decide) ?_ ?_
          · refine as_iconst X (by decide +kernel : decode cX8_sign 40 = .ok (.iconst 0, 1)) rfl ?_
            exact fun _ _ _ h => h
          · refine as_iconst X (by decide +kernel : decode cX8_sign 36 = .ok (.iconst 1, 1)) rfl ?_
            refine as_goto X (tgt := 41) (by decide +kernel : decode cX8_sign 37 = .ok (.goto 4, 3)) (by decide) ?_
            exact fun _ _ _ h => h
        · exact fun _ _ _ h => h
  · unfold B_X8_sign_22
    refine as_iconst X (by decide +kernel : decode cX8_sign 22 = .ok (.iconst (-1), 1)) rfl ?_
    exact as_ri X hQ hr (by decide +kernel : decode cX8_sign 23 = .ok (.ireturn, 1))
  · unfold B_X8_sign_41
    exact as_ri X hQ hr (by decide +kernel : decode cX8_sign 41 = .ok (.ireturn, 1))

def B_X8_parses_0 (kX5_parse : am_T) (kX6_totalAt : am_T) (kX8_limited : am_T) (Q : am_Q) (G : Nat → am_K) : am_K := (ak_al 0 (ak_get 6 4 (ak_get 3 2 (ak_al 0 (ak_get 6 4 (ak_cv 1 3 kX5_parse (ak_cv 2 4 kX6_totalAt (ak_cs 1 kX8_limited (ak_ri Q)))))))))
def cl_X8_parses (kX5_parse : am_T) (kX6_totalAt : am_T) (kX8_limited : am_T) (Q : am_Q) (G : Nat → am_K) : Prop := am_N G 0 (B_X8_parses_0 kX5_parse kX6_totalAt kX8_limited Q G)
def WP_X8_parses (kX5_parse : am_T) (kX6_totalAt : am_T) (kX8_limited : am_T) : am_T := fun av h Q => (lg_sl av).length ≤ 1 ∧ ∀ G, cl_X8_parses kX5_parse kX6_totalAt kX8_limited Q G → G 0 (am_ent 1 av) [] h
set_option maxHeartbeats 4000000 in
set_option maxRecDepth 100000 in
theorem s_X8_parses {mX5_parse : Room} {kX5_parse : am_T} (h_X5_parse : am_S false yX5_parse (am_ws yX5_parse cX5_parse 4 (some .int)) mX5_parse kX5_parse) {mX6_totalAt : Room} {kX6_totalAt : am_T} (h_X6_totalAt : am_S false yX6_totalAt (am_ws yX6_totalAt cX6_totalAt 2 (some .long)) mX6_totalAt kX6_totalAt) {mX8_limited : Room} {kX8_limited : am_T} (h_X8_limited : am_S false yX8_limited (am_ws yX8_limited cX8_limited 2 (some .int)) mX8_limited kX8_limited) {rm : Room} (hz : rm.cells = 0 ∧ rm.slots = 0) (R_X5_parse : mX5_parse.frames + 1 ≤ rm.frames ∧ 8 + (4 + 11) + mX5_parse.locals ≤ rm.locals) (R_X6_totalAt : mX6_totalAt.frames + 1 ≤ rm.frames ∧ 8 + (2 + 11) + mX6_totalAt.locals ≤ rm.locals) (R_X8_limited : mX8_limited.frames + 1 ≤ rm.frames ∧ 8 + (2 + 11) + mX8_limited.locals ≤ rm.locals) : am_S false yX8_parses (am_ws yX8_parses cX8_parses 1 (some .int)) rm (WP_X8_parses kX5_parse kX6_totalAt kX8_limited) := by
  refine am_S.of (fun _ => hz) (by decide +kernel) (fun h0 Q G => cl_X8_parses kX5_parse kX6_totalAt kX8_limited Q G) ?_
  intro p l e s m args below meth c D h0 Q X hr hnm hQ
  show am_N _ 0 (B_X8_parses_0  kX5_parse kX6_totalAt kX8_limited Q _)
  · unfold B_X8_parses_0
    refine as_aload_n X (by decide +kernel : decode cX8_parses 0 = .ok (.aload_n 0, 1)) rfl ?_
    refine as_get X fc_X8 (by decide +kernel : decode cX8_parses 1 = .ok (.getfield 47, 3)) (by decide) fl_X8_47 ?_
    refine as_get X fc_X5 (by decide +kernel : decode cX8_parses 4 = .ok (.getfield 149, 3)) (by decide) fl_X8_149 ?_
    refine as_aload_n X (by decide +kernel : decode cX8_parses 7 = .ok (.aload_n 0, 1)) rfl ?_
    refine as_get X fc_X8 (by decide +kernel : decode cX8_parses 8 = .ok (.getfield 47, 3)) (by decide) fl_X8_47 ?_
    refine as_cv X h_X5_parse rfl (by decide +kernel : decode cX8_parses 11 = .ok (.invokevirtual 153, 3)) dn_X5_parse ml_X8_153 im_X5_parse se_X5_parse ini_X5 co_X5_parse R_X5_parse ?_
    refine as_cv X h_X6_totalAt rfl (by decide +kernel : decode cX8_parses 14 = .ok (.invokevirtual 156, 3)) dn_X6_totalAt ml_X8_156 im_X6_totalAt se_X6_totalAt ini_X6 co_X6_totalAt R_X6_totalAt ?_
    refine as_cs X h_X8_limited (by decide +kernel : decode cX8_parses 17 = .ok (.invokestatic 162, 3)) dn_X8_limited ml_X8_162 st_X8_limited ini_X8 co_X8_limited R_X8_limited ?_
    exact as_ri X hQ hr (by decide +kernel : decode cX8_parses 20 = .ok (.ireturn, 1))

def B_X8_cost_0 (kX5_parse : am_T) (kX6_costOrNone : am_T) (Q : am_Q) (G : Nat → am_K) : am_K := (ak_al 0 (ak_get 6 4 (ak_get 3 2 (ak_al 0 (ak_get 6 4 (ak_cv 1 3 kX5_parse (ak_cv 2 4 kX6_costOrNone (ak_ri Q))))))))
def cl_X8_cost (kX5_parse : am_T) (kX6_costOrNone : am_T) (Q : am_Q) (G : Nat → am_K) : Prop := am_N G 0 (B_X8_cost_0 kX5_parse kX6_costOrNone Q G)
def WP_X8_cost (kX5_parse : am_T) (kX6_costOrNone : am_T) : am_T := fun av h Q => (lg_sl av).length ≤ 1 ∧ ∀ G, cl_X8_cost kX5_parse kX6_costOrNone Q G → G 0 (am_ent 1 av) [] h
set_option maxHeartbeats 4000000 in
set_option maxRecDepth 100000 in
theorem s_X8_cost {mX5_parse : Room} {kX5_parse : am_T} (h_X5_parse : am_S false yX5_parse (am_ws yX5_parse cX5_parse 4 (some .int)) mX5_parse kX5_parse) {mX6_costOrNone : Room} {kX6_costOrNone : am_T} (h_X6_costOrNone : am_S false yX6_costOrNone (am_ws yX6_costOrNone cX6_costOrNone 2 (some .int)) mX6_costOrNone kX6_costOrNone) {rm : Room} (hz : rm.cells = 0 ∧ rm.slots = 0) (R_X5_parse : mX5_parse.frames + 1 ≤ rm.frames ∧ 8 + (4 + 11) + mX5_parse.locals ≤ rm.locals) (R_X6_costOrNone : mX6_costOrNone.frames + 1 ≤ rm.frames ∧ 8 + (2 + 11) + mX6_costOrNone.locals ≤ rm.locals) : am_S false yX8_cost (am_ws yX8_cost cX8_cost 1 (some .int)) rm (WP_X8_cost kX5_parse kX6_costOrNone) := by
  refine am_S.of (fun _ => hz) (by decide +kernel) (fun h0 Q G => cl_X8_cost kX5_parse kX6_costOrNone Q G) ?_
  intro p l e s m args below meth c D h0 Q X hr hnm hQ
  show am_N _ 0 (B_X8_cost_0  kX5_parse kX6_costOrNone Q _)
  · unfold B_X8_cost_0
    refine as_aload_n X (by decide +kernel : decode cX8_cost 0 = .ok (.aload_n 0, 1)) rfl ?_
    refine as_get X fc_X8 (by decide +kernel : decode cX8_cost 1 = .ok (.getfield 47, 3)) (by decide) fl_X8_47 ?_
    refine as_get X fc_X5 (by decide +kernel : decode cX8_cost 4 = .ok (.getfield 149, 3)) (by decide) fl_X8_149 ?_
    refine as_aload_n X (by decide +kernel : decode cX8_cost 7 = .ok (.aload_n 0, 1)) rfl ?_
    refine as_get X fc_X8 (by decide +kernel : decode cX8_cost 8 = .ok (.getfield 47, 3)) (by decide) fl_X8_47 ?_
    refine as_cv X h_X5_parse rfl (by decide +kernel : decode cX8_cost 11 = .ok (.invokevirtual 153, 3)) dn_X5_parse ml_X8_153 im_X5_parse se_X5_parse ini_X5 co_X5_parse R_X5_parse ?_
    refine as_cv X h_X6_costOrNone rfl (by decide +kernel : decode cX8_cost 14 = .ok (.invokevirtual 165, 3)) dn_X6_costOrNone ml_X8_165 im_X6_costOrNone se_X6_costOrNone ini_X6 co_X6_costOrNone R_X6_costOrNone ?_
    exact as_ri X hQ hr (by decide +kernel : decode cX8_cost 17 = .ok (.ireturn, 1))

def B_X8_first_0 (kX5_parse : am_T) (kX6_totalAt : am_T) (kX3_make : am_T) (Q : am_Q) (G : Nat → am_K) : am_K := (ak_il 1 (ak_c (.int (-1)) (ak_ic (fun x y => y ≤ x) (ak_al 0 (ak_get 6 4 (ak_get 3 2 (ak_al 0 (ak_get 6 4 (ak_cv 1 3 kX5_parse (ak_cv 2 4 kX6_totalAt (ak_c (.long 0) (ak_lc (ak_if (fun x => x = 0) (ak_c (.int (-4)) (ak_ri Q)) (ak_al 0 (ak_get 6 5 (ak_cv 1 2 kX3_make (ak_il 1 (ak_c (.int (-1)) (ak_ic (fun x y => x = y) (ak_al 0 (ak_get 6 5 (ak_get 2 1 (ak_ri Q)))) (ak_il 1 (ak_al 0 (ak_get 6 5 (ak_get 2 1 (ak_ic (fun x y => y ≤ x) (ak_c (.int (-4)) (G 77)) (ak_al 0 (ak_get 6 5 (ak_get 2 0 (ak_il 1 (ak_iald (G 77))))))))))))))))))))))))))) (ak_c (.int (-1)) (ak_ri Q)))))
def B_X8_first_77 (kX5_parse : am_T) (kX6_totalAt : am_T) (kX3_make : am_T) (Q : am_Q) (G : Nat → am_K) : am_K := (ak_ri Q)
def cl_X8_first (kX5_parse : am_T) (kX6_totalAt : am_T) (kX3_make : am_T) (Q : am_Q) (G : Nat → am_K) : Prop := am_N G 0 (B_X8_first_0 kX5_parse kX6_totalAt kX3_make Q G) ∧ am_N G 77 (B_X8_first_77 kX5_parse kX6_totalAt kX3_make Q G)
def WP_X8_first (kX5_parse : am_T) (kX6_totalAt : am_T) (kX3_make : am_T) : am_T := fun av h Q => (lg_sl av).length ≤ 2 ∧ ∀ G, cl_X8_first kX5_parse kX6_totalAt kX3_make Q G → G 0 (am_ent 2 av) [] h
set_option maxHeartbeats 4000000 in
set_option maxRecDepth 100000 in
theorem s_X8_first {mX5_parse : Room} {kX5_parse : am_T} (h_X5_parse : am_S false yX5_parse (am_ws yX5_parse cX5_parse 4 (some .int)) mX5_parse kX5_parse) {mX6_totalAt : Room} {kX6_totalAt : am_T} (h_X6_totalAt : am_S false yX6_totalAt (am_ws yX6_totalAt cX6_totalAt 2 (some .long)) mX6_totalAt kX6_totalAt) {mX3_make : Room} {kX3_make : am_T} (h_X3_make : am_S false yX3_make (am_ws yX3_make cX3_make 4 none) mX3_make kX3_make) {rm : Room} (hz : rm.cells = 0 ∧ rm.slots = 0) (R_X5_parse : mX5_parse.frames + 1 ≤ rm.frames ∧ 8 + (4 + 11) + mX5_parse.locals ≤ rm.locals) (R_X6_totalAt : mX6_totalAt.frames + 1 ≤ rm.frames ∧ 8 + (2 + 11) + mX6_totalAt.locals ≤ rm.locals) (R_X3_make : mX3_make.frames + 1 ≤ rm.frames ∧ 8 + (4 + 11) + mX3_make.locals ≤ rm.locals) : am_S false yX8_first (am_ws yX8_first cX8_first 2 (some .int)) rm (WP_X8_first kX5_parse kX6_totalAt kX3_make) := by
  refine am_S.of (fun _ => hz) (by decide +kernel) (fun h0 Q G => cl_X8_first kX5_parse kX6_totalAt kX3_make Q G) ?_
  intro p l e s m args below meth c D h0 Q X hr hnm hQ
  refine ⟨?_, ?_⟩
  · unfold B_X8_first_0
    refine as_iload_n X (by decide +kernel : decode cX8_first 0 = .ok (.iload_n 1, 1)) rfl ?_
    refine as_iconst X (by decide +kernel : decode cX8_first 1 = .ok (.iconst (-1), 1)) rfl ?_
    refine as_ic_ge X (tgt := 7) (by decide +kernel : decode cX8_first 2 = .ok (.if_icmp .ge 5, 3)) (by decide) ?_ ?_
    · refine as_aload_n X (by decide +kernel : decode cX8_first 7 = .ok (.aload_n 0, 1)) rfl ?_
      refine as_get X fc_X8 (by decide +kernel : decode cX8_first 8 = .ok (.getfield 47, 3)) (by decide) fl_X8_47 ?_
      refine as_get X fc_X5 (by decide +kernel : decode cX8_first 11 = .ok (.getfield 149, 3)) (by decide) fl_X8_149 ?_
      refine as_aload_n X (by decide +kernel : decode cX8_first 14 = .ok (.aload_n 0, 1)) rfl ?_
      refine as_get X fc_X8 (by decide +kernel : decode cX8_first 15 = .ok (.getfield 47, 3)) (by decide) fl_X8_47 ?_
      refine as_cv X h_X5_parse rfl (by decide +kernel : decode cX8_first 18 = .ok (.invokevirtual 153, 3)) dn_X5_parse ml_X8_153 im_X5_parse se_X5_parse ini_X5 co_X5_parse R_X5_parse ?_
      refine as_cv X h_X6_totalAt rfl (by decide +kernel : decode cX8_first 21 = .ok (.invokevirtual 156, 3)) dn_X6_totalAt ml_X8_156 im_X6_totalAt se_X6_totalAt ini_X6 co_X6_totalAt R_X6_totalAt ?_
      refine as_lconst X (by decide +kernel : decode cX8_first 24 = .ok (.lconst 0, 1)) rfl ?_
      refine as_lcmp X (by decide +kernel : decode cX8_first 25 = .ok (.lcmp, 1)) ?_
      refine as_if_ne X (tgt := 32) (by decide +kernel : decode cX8_first 26 = .ok (.ifCond .ne 6, 3)) (by decide) ?_ ?_
      · refine as_bipush X (by decide +kernel : decode cX8_first 29 = .ok (.bipush (-4), 2)) rfl ?_
        exact as_ri X hQ hr (by decide +kernel : decode cX8_first 31 = .ok (.ireturn, 1))
      · refine as_aload_n X (by decide +kernel : decode cX8_first 32 = .ok (.aload_n 0, 1)) rfl ?_
        refine as_get X fc_X8 (by decide +kernel : decode cX8_first 33 = .ok (.getfield 56, 3)) (by decide) fl_X8_56 ?_
        refine as_cv X h_X3_make rfl (by decide +kernel : decode cX8_first 36 = .ok (.invokevirtual 168, 3)) dn_X3_make ml_X8_168 im_X3_make se_X3_make ini_X3 co_X3_make R_X3_make ?_
        refine as_iload_n X (by decide +kernel : decode cX8_first 39 = .ok (.iload_n 1, 1)) rfl ?_
        refine as_iconst X (by decide +kernel : decode cX8_first 40 = .ok (.iconst (-1), 1)) rfl ?_
        refine as_ic_ne X (tgt := 52) (by decide +kernel : decode cX8_first 41 = .ok (.if_icmp .ne 11, 3)) (by decide) ?_ ?_
        · refine as_aload_n X (by decide +kernel : decode cX8_first 44 = .ok (.aload_n 0, 1)) rfl ?_
          refine as_get X fc_X8 (by decide +kernel : decode cX8_first 45 = .ok (.getfield 56, 3)) (by decide) fl_X8_56 ?_
          refine as_get X fc_X3 (by decide +kernel : decode cX8_first 48 = .ok (.getfield 171, 3)) (by decide) fl_X8_171 ?_
          exact as_ri X hQ hr (by decide +kernel : decode cX8_first 51 = .ok (.ireturn, 1))
        · refine as_iload_n X (by decide +kernel : decode cX8_first 52 = .ok (.iload_n 1, 1)) rfl ?_
          refine as_aload_n X (by decide +kernel : decode cX8_first 53 = .ok (.aload_n 0, 1)) rfl ?_
          refine as_get X fc_X8 (by decide +kernel : decode cX8_first 54 = .ok (.getfield 56, 3)) (by decide) fl_X8_56 ?_
          refine as_get X fc_X3 (by decide +kernel : decode cX8_first 57 = .ok (.getfield 171, 3)) (by decide) fl_X8_171 ?_
          refine as_ic_ge X (tgt := 75) (by decide +kernel : decode cX8_first 60 = .ok (.if_icmp .ge 15, 3)) (by decide) ?_ ?_
          · refine as_bipush X (by decide +kernel : decode cX8_first 75 = .ok (.bipush (-4), 2)) rfl ?_
            exact fun _ _ _ h => h
          · refine as_aload_n X (by decide +kernel : decode cX8_first 63 = .ok (.aload_n 0, 1)) rfl ?_
            refine as_get X fc_X8 (by decide +kernel : decode cX8_first 64 = .ok (.getfield 56, 3)) (by decide) fl_X8_56 ?_
            refine as_get X fc_X3 (by decide +kernel : decode cX8_first 67 = .ok (.getfield 172, 3)) (by decide) fl_X8_172 ?_
            refine as_iload_n X (by decide +kernel : decode cX8_first 70 = .ok (.iload_n 1, 1)) rfl ?_
            refine as_iaload X (by decide +kernel : decode cX8_first 71 = .ok (.iaload, 1)) ?_
            refine as_goto X (tgt := 77) (by decide +kernel : decode cX8_first 72 = .ok (.goto 5, 3)) (by decide) ?_
            exact fun _ _ _ h => h
    · refine as_iconst X (by decide +kernel : decode cX8_first 5 = .ok (.iconst (-1), 1)) rfl ?_
      exact as_ri X hQ hr (by decide +kernel : decode cX8_first 6 = .ok (.ireturn, 1))
  · unfold B_X8_first_77
    exact as_ri X hQ hr (by decide +kernel : decode cX8_first 77 = .ok (.ireturn, 1))

def B_X8_pieces_0 (kX8_inRange : am_T) (kX8_stretch : am_T) (kX5_piece : am_T) (kX6_totalAt : am_T) (kX8_limited : am_T) (Q : am_Q) (G : Nat → am_K) : am_K := (ak_al 0 (ak_il 1 (ak_il 2 (ak_il 3 (ak_il 4 (ak_cv 5 6 kX8_inRange (ak_if (fun x => x = 0) (ak_c (.int (-1)) (ak_ri Q)) (ak_al 0 (ak_get 6 4 (ak_get 3 0 (ak_al 0 (ak_get 6 4 (ak_il 1 (ak_il 2 (ak_il 3 (ak_il 4 (ak_cs 2 kX8_stretch (ak_cv 4 3 kX5_piece (ak_cv 2 4 kX6_totalAt (ak_cs 1 kX8_limited (ak_ri Q)))))))))))))))))))))
def cl_X8_pieces (kX8_inRange : am_T) (kX8_stretch : am_T) (kX5_piece : am_T) (kX6_totalAt : am_T) (kX8_limited : am_T) (Q : am_Q) (G : Nat → am_K) : Prop := am_N G 0 (B_X8_pieces_0 kX8_inRange kX8_stretch kX5_piece kX6_totalAt kX8_limited Q G)
def WP_X8_pieces (kX8_inRange : am_T) (kX8_stretch : am_T) (kX5_piece : am_T) (kX6_totalAt : am_T) (kX8_limited : am_T) : am_T := fun av h Q => (lg_sl av).length ≤ 5 ∧ ∀ G, cl_X8_pieces kX8_inRange kX8_stretch kX5_piece kX6_totalAt kX8_limited Q G → G 0 (am_ent 5 av) [] h
set_option maxHeartbeats 4000000 in
set_option maxRecDepth 100000 in
theorem s_X8_pieces {mX8_inRange : Room} {kX8_inRange : am_T} (h_X8_inRange : am_S false yX8_inRange (am_ws yX8_inRange cX8_inRange 5 (some .boolean)) mX8_inRange kX8_inRange) {mX8_stretch : Room} {kX8_stretch : am_T} (h_X8_stretch : am_S false yX8_stretch (am_ws yX8_stretch cX8_stretch 2 (some .int)) mX8_stretch kX8_stretch) {mX5_piece : Room} {kX5_piece : am_T} (h_X5_piece : am_S false yX5_piece (am_ws yX5_piece cX5_piece 6 (some .int)) mX5_piece kX5_piece) {mX6_totalAt : Room} {kX6_totalAt : am_T} (h_X6_totalAt : am_S false yX6_totalAt (am_ws yX6_totalAt cX6_totalAt 2 (some .long)) mX6_totalAt kX6_totalAt) {mX8_limited : Room} {kX8_limited : am_T} (h_X8_limited : am_S false yX8_limited (am_ws yX8_limited cX8_limited 2 (some .int)) mX8_limited kX8_limited) {rm : Room} (hz : rm.cells = 0 ∧ rm.slots = 0) (R_X8_inRange : mX8_inRange.frames + 1 ≤ rm.frames ∧ 8 + (5 + 11) + mX8_inRange.locals ≤ rm.locals) (R_X8_stretch : mX8_stretch.frames + 1 ≤ rm.frames ∧ 8 + (2 + 11) + mX8_stretch.locals ≤ rm.locals) (R_X5_piece : mX5_piece.frames + 1 ≤ rm.frames ∧ 8 + (6 + 11) + mX5_piece.locals ≤ rm.locals) (R_X6_totalAt : mX6_totalAt.frames + 1 ≤ rm.frames ∧ 8 + (2 + 11) + mX6_totalAt.locals ≤ rm.locals) (R_X8_limited : mX8_limited.frames + 1 ≤ rm.frames ∧ 8 + (2 + 11) + mX8_limited.locals ≤ rm.locals) : am_S false yX8_pieces (am_ws yX8_pieces cX8_pieces 5 (some .int)) rm (WP_X8_pieces kX8_inRange kX8_stretch kX5_piece kX6_totalAt kX8_limited) := by
  refine am_S.of (fun _ => hz) (by decide +kernel) (fun h0 Q G => cl_X8_pieces kX8_inRange kX8_stretch kX5_piece kX6_totalAt kX8_limited Q G) ?_
  intro p l e s m args below meth c D h0 Q X hr hnm hQ
  show am_N _ 0 (B_X8_pieces_0  kX8_inRange kX8_stretch kX5_piece kX6_totalAt kX8_limited Q _)
  · unfold B_X8_pieces_0
    refine as_aload_n X (by decide +kernel : decode cX8_pieces 0 = .ok (.aload_n 0, 1)) rfl ?_
    refine as_iload_n X (by decide +kernel : decode cX8_pieces 1 = .ok (.iload_n 1, 1)) rfl ?_
    refine as_iload_n X (by decide +kernel : decode cX8_pieces 2 = .ok (.iload_n 2, 1)) rfl ?_
    refine as_iload_n X (by decide +kernel : decode cX8_pieces 3 = .ok (.iload_n 3, 1)) rfl ?_
    refine as_iload X (by decide +kernel : decode cX8_pieces 4 = .ok (.iload 4, 2)) ?_
    refine as_cv X h_X8_inRange rfl (by decide +kernel : decode cX8_pieces 6 = .ok (.invokevirtual 175, 3)) dn_X8_inRange ml_X8_175 im_X8_inRange se_X8_inRange ini_X8 co_X8_inRange R_X8_inRange ?_
    refine as_if_ne X (tgt := 14) (by decide +kernel : decode cX8_pieces 9 = .ok (.ifCond .ne 5, 3)) (by decide) ?_ ?_
    · refine as_iconst X (by decide +kernel : decode cX8_pieces 12 = .ok (.iconst (-1), 1)) rfl ?_
      exact as_ri X hQ hr (by decide +kernel : decode cX8_pieces 13 = .ok (.ireturn, 1))
    · refine as_aload_n X (by decide +kernel : decode cX8_pieces 14 = .ok (.aload_n 0, 1)) rfl ?_
      refine as_get X fc_X8 (by decide +kernel : decode cX8_pieces 15 = .ok (.getfield 47, 3)) (by decide) fl_X8_47 ?_
      refine as_get X fc_X5 (by decide +kernel : decode cX8_pieces 18 = .ok (.getfield 179, 3)) (by decide) fl_X8_179 ?_
      refine as_aload_n X (by decide +kernel : decode cX8_pieces 21 = .ok (.aload_n 0, 1)) rfl ?_
      refine as_get X fc_X8 (by decide +kernel : decode cX8_pieces 22 = .ok (.getfield 47, 3)) (by decide) fl_X8_47 ?_
      refine as_iload_n X (by decide +kernel : decode cX8_pieces 25 = .ok (.iload_n 1, 1)) rfl ?_
      refine as_iload_n X (by decide +kernel : decode cX8_pieces 26 = .ok (.iload_n 2, 1)) rfl ?_
      refine as_iload_n X (by decide +kernel : decode cX8_pieces 27 = .ok (.iload_n 3, 1)) rfl ?_
      refine as_iload X (by decide +kernel : decode cX8_pieces 28 = .ok (.iload 4, 2)) ?_
      refine as_cs X h_X8_stretch (by decide +kernel : decode cX8_pieces 30 = .ok (.invokestatic 182, 3)) dn_X8_stretch ml_X8_182 st_X8_stretch ini_X8 co_X8_stretch R_X8_stretch ?_
      refine as_cvN X (host := "ClueParts") h_X5_piece rfl (by decide +kernel : decode cX8_pieces 33 = .ok (.invokevirtual 186, 3)) dn_X5_piece (by decide +kernel) im_X5_piece se_X5_piece ini_X5 co_X5_piece R_X5_piece ?_
      refine as_cv X h_X6_totalAt rfl (by decide +kernel : decode cX8_pieces 36 = .ok (.invokevirtual 156, 3)) dn_X6_totalAt ml_X8_156 im_X6_totalAt se_X6_totalAt ini_X6 co_X6_totalAt R_X6_totalAt ?_
      refine as_cs X h_X8_limited (by decide +kernel : decode cX8_pieces 39 = .ok (.invokestatic 162, 3)) dn_X8_limited ml_X8_162 st_X8_limited ini_X8 co_X8_limited R_X8_limited ?_
      exact as_ri X hQ hr (by decide +kernel : decode cX8_pieces 42 = .ok (.ireturn, 1))

def B_X8_pieceCost_0 (kX8_inRange : am_T) (kX8_stretch : am_T) (kX5_piece : am_T) (kX6_costOrNone : am_T) (Q : am_Q) (G : Nat → am_K) : am_K := (ak_al 0 (ak_il 1 (ak_il 2 (ak_il 3 (ak_il 4 (ak_cv 5 6 kX8_inRange (ak_if (fun x => x = 0) (ak_c (.int (-1)) (ak_ri Q)) (ak_al 0 (ak_get 6 4 (ak_get 3 0 (ak_al 0 (ak_get 6 4 (ak_il 1 (ak_il 2 (ak_il 3 (ak_il 4 (ak_cs 2 kX8_stretch (ak_cv 4 3 kX5_piece (ak_cv 2 4 kX6_costOrNone (ak_ri Q))))))))))))))))))))
def cl_X8_pieceCost (kX8_inRange : am_T) (kX8_stretch : am_T) (kX5_piece : am_T) (kX6_costOrNone : am_T) (Q : am_Q) (G : Nat → am_K) : Prop := am_N G 0 (B_X8_pieceCost_0 kX8_inRange kX8_stretch kX5_piece kX6_costOrNone Q G)
def WP_X8_pieceCost (kX8_inRange : am_T) (kX8_stretch : am_T) (kX5_piece : am_T) (kX6_costOrNone : am_T) : am_T := fun av h Q => (lg_sl av).length ≤ 5 ∧ ∀ G, cl_X8_pieceCost kX8_inRange kX8_stretch kX5_piece kX6_costOrNone Q G → G 0 (am_ent 5 av) [] h
set_option maxHeartbeats 4000000 in
set_option maxRecDepth 100000 in
theorem s_X8_pieceCost {mX8_inRange : Room} {kX8_inRange : am_T} (h_X8_inRange : am_S false yX8_inRange (am_ws yX8_inRange cX8_inRange 5 (some .boolean)) mX8_inRange kX8_inRange) {mX8_stretch : Room} {kX8_stretch : am_T} (h_X8_stretch : am_S false yX8_stretch (am_ws yX8_stretch cX8_stretch 2 (some .int)) mX8_stretch kX8_stretch) {mX5_piece : Room} {kX5_piece : am_T} (h_X5_piece : am_S false yX5_piece (am_ws yX5_piece cX5_piece 6 (some .int)) mX5_piece kX5_piece) {mX6_costOrNone : Room} {kX6_costOrNone : am_T} (h_X6_costOrNone : am_S false yX6_costOrNone (am_ws yX6_costOrNone cX6_costOrNone 2 (some .int)) mX6_costOrNone kX6_costOrNone) {rm : Room} (hz : rm.cells = 0 ∧ rm.slots = 0) (R_X8_inRange : mX8_inRange.frames + 1 ≤ rm.frames ∧ 8 + (5 + 11) + mX8_inRange.locals ≤ rm.locals) (R_X8_stretch : mX8_stretch.frames + 1 ≤ rm.frames ∧ 8 + (2 + 11) + mX8_stretch.locals ≤ rm.locals) (R_X5_piece : mX5_piece.frames + 1 ≤ rm.frames ∧ 8 + (6 + 11) + mX5_piece.locals ≤ rm.locals) (R_X6_costOrNone : mX6_costOrNone.frames + 1 ≤ rm.frames ∧ 8 + (2 + 11) + mX6_costOrNone.locals ≤ rm.locals) : am_S false yX8_pieceCost (am_ws yX8_pieceCost cX8_pieceCost 5 (some .int)) rm (WP_X8_pieceCost kX8_inRange kX8_stretch kX5_piece kX6_costOrNone) := by
  refine am_S.of (fun _ => hz) (by decide +kernel) (fun h0 Q G => cl_X8_pieceCost kX8_inRange kX8_stretch kX5_piece kX6_costOrNone Q G) ?_
  intro p l e s m args below meth c D h0 Q X hr hnm hQ
  show am_N _ 0 (B_X8_pieceCost_0  kX8_inRange kX8_stretch kX5_piece kX6_costOrNone Q _)
  · unfold B_X8_pieceCost_0
    refine as_aload_n X (by decide +kernel : decode cX8_pieceCost 0 = .ok (.aload_n 0, 1)) rfl ?_
    refine as_iload_n X (by decide +kernel : decode cX8_pieceCost 1 = .ok (.iload_n 1, 1)) rfl ?_
    refine as_iload_n X (by decide +kernel : decode cX8_pieceCost 2 = .ok (.iload_n 2, 1)) rfl ?_
    refine as_iload_n X (by decide +kernel : decode cX8_pieceCost 3 = .ok (.iload_n 3, 1)) rfl ?_
    refine as_iload X (by decide +kernel : decode cX8_pieceCost 4 = .ok (.iload 4, 2)) ?_
    refine as_cv X h_X8_inRange rfl (by decide +kernel : decode cX8_pieceCost 6 = .ok (.invokevirtual 175, 3)) dn_X8_inRange ml_X8_175 im_X8_inRange se_X8_inRange ini_X8 co_X8_inRange R_X8_inRange ?_
    refine as_if_ne X (tgt := 14) (by decide +kernel : decode cX8_pieceCost 9 = .ok (.ifCond .ne 5, 3)) (by decide) ?_ ?_
    · refine as_iconst X (by decide +kernel : decode cX8_pieceCost 12 = .ok (.iconst (-1), 1)) rfl ?_
      exact as_ri X hQ hr (by decide +kernel : decode cX8_pieceCost 13 = .ok (.ireturn, 1))
    · refine as_aload_n X (by decide +kernel : decode cX8_pieceCost 14 = .ok (.aload_n 0, 1)) rfl ?_
      refine as_get X fc_X8 (by decide +kernel : decode cX8_pieceCost 15 = .ok (.getfield 47, 3)) (by decide) fl_X8_47 ?_
      refine as_get X fc_X5 (by decide +kernel : decode cX8_pieceCost 18 = .ok (.getfield 179, 3)) (by decide) fl_X8_179 ?_
      refine as_aload_n X (by decide +kernel : decode cX8_pieceCost 21 = .ok (.aload_n 0, 1)) rfl ?_
      refine as_get X fc_X8 (by decide +kernel : decode cX8_pieceCost 22 = .ok (.getfield 47, 3)) (by decide) fl_X8_47 ?_
      refine as_iload_n X (by decide +kernel : decode cX8_pieceCost 25 = .ok (.iload_n 1, 1)) rfl ?_
      refine as_iload_n X (by decide +kernel : decode cX8_pieceCost 26 = .ok (.iload_n 2, 1)) rfl ?_
      refine as_iload_n X (by decide +kernel : decode cX8_pieceCost 27 = .ok (.iload_n 3, 1)) rfl ?_
      refine as_iload X (by decide +kernel : decode cX8_pieceCost 28 = .ok (.iload 4, 2)) ?_
      refine as_cs X h_X8_stretch (by decide +kernel : decode cX8_pieceCost 30 = .ok (.invokestatic 182, 3)) dn_X8_stretch ml_X8_182 st_X8_stretch ini_X8 co_X8_stretch R_X8_stretch ?_
      refine as_cvN X (host := "ClueParts") h_X5_piece rfl (by decide +kernel : decode cX8_pieceCost 33 = .ok (.invokevirtual 186, 3)) dn_X5_piece (by decide +kernel) im_X5_piece se_X5_piece ini_X5 co_X5_piece R_X5_piece ?_
      refine as_cv X h_X6_costOrNone rfl (by decide +kernel : decode cX8_pieceCost 36 = .ok (.invokevirtual 165, 3)) dn_X6_costOrNone ml_X8_165 im_X6_costOrNone se_X6_costOrNone ini_X6 co_X6_costOrNone R_X6_costOrNone ?_
      exact as_ri X hQ hr (by decide +kernel : decode cX8_pieceCost 39 = .ok (.ireturn, 1))

def B_X8_units_0 (kX8_inRange : am_T) (kX8_stretch : am_T) (kX5_unit : am_T) (kX6_totalAt : am_T) (kX8_limited : am_T) (Q : am_Q) (G : Nat → am_K) : am_K := (ak_al 0 (ak_il 1 (ak_il 2 (ak_il 3 (ak_il 4 (ak_cv 5 6 kX8_inRange (ak_if (fun x => x = 0) (ak_c (.int (-1)) (ak_ri Q)) (ak_al 0 (ak_get 6 4 (ak_get 3 1 (ak_al 0 (ak_get 6 4 (ak_il 1 (ak_il 2 (ak_il 3 (ak_il 4 (ak_cs 2 kX8_stretch (ak_cv 4 3 kX5_unit (ak_cv 2 4 kX6_totalAt (ak_cs 1 kX8_limited (ak_ri Q)))))))))))))))))))))
def cl_X8_units (kX8_inRange : am_T) (kX8_stretch : am_T) (kX5_unit : am_T) (kX6_totalAt : am_T) (kX8_limited : am_T) (Q : am_Q) (G : Nat → am_K) : Prop := am_N G 0 (B_X8_units_0 kX8_inRange kX8_stretch kX5_unit kX6_totalAt kX8_limited Q G)
def WP_X8_units (kX8_inRange : am_T) (kX8_stretch : am_T) (kX5_unit : am_T) (kX6_totalAt : am_T) (kX8_limited : am_T) : am_T := fun av h Q => (lg_sl av).length ≤ 5 ∧ ∀ G, cl_X8_units kX8_inRange kX8_stretch kX5_unit kX6_totalAt kX8_limited Q G → G 0 (am_ent 5 av) [] h
set_option maxHeartbeats 4000000 in
set_option maxRecDepth 100000 in
theorem s_X8_units {mX8_inRange : Room} {kX8_inRange : am_T} (h_X8_inRange : am_S false yX8_inRange (am_ws yX8_inRange cX8_inRange 5 (some .boolean)) mX8_inRange kX8_inRange) {mX8_stretch : Room} {kX8_stretch : am_T} (h_X8_stretch : am_S false yX8_stretch (am_ws yX8_stretch cX8_stretch 2 (some .int)) mX8_stretch kX8_stretch) {mX5_unit : Room} {kX5_unit : am_T} (h_X5_unit : am_S false yX5_unit (am_ws yX5_unit cX5_unit 7 (some .int)) mX5_unit kX5_unit) {mX6_totalAt : Room} {kX6_totalAt : am_T} (h_X6_totalAt : am_S false yX6_totalAt (am_ws yX6_totalAt cX6_totalAt 2 (some .long)) mX6_totalAt kX6_totalAt) {mX8_limited : Room} {kX8_limited : am_T} (h_X8_limited : am_S false yX8_limited (am_ws yX8_limited cX8_limited 2 (some .int)) mX8_limited kX8_limited) {rm : Room} (hz : rm.cells = 0 ∧ rm.slots = 0) (R_X8_inRange : mX8_inRange.frames + 1 ≤ rm.frames ∧ 8 + (5 + 11) + mX8_inRange.locals ≤ rm.locals) (R_X8_stretch : mX8_stretch.frames + 1 ≤ rm.frames ∧ 8 + (2 + 11) + mX8_stretch.locals ≤ rm.locals) (R_X5_unit : mX5_unit.frames + 1 ≤ rm.frames ∧ 8 + (7 + 11) + mX5_unit.locals ≤ rm.locals) (R_X6_totalAt : mX6_totalAt.frames + 1 ≤ rm.frames ∧ 8 + (2 + 11) + mX6_totalAt.locals ≤ rm.locals) (R_X8_limited : mX8_limited.frames + 1 ≤ rm.frames ∧ 8 + (2 + 11) + mX8_limited.locals ≤ rm.locals) : am_S false yX8_units (am_ws yX8_units cX8_units 5 (some .int)) rm (WP_X8_units kX8_inRange kX8_stretch kX5_unit kX6_totalAt kX8_limited) := by
  refine am_S.of (fun _ => hz) (by decide +kernel) (fun h0 Q G => cl_X8_units kX8_inRange kX8_stretch kX5_unit kX6_totalAt kX8_limited Q G) ?_
  intro p l e s m args below meth c D h0 Q X hr hnm hQ
  show am_N _ 0 (B_X8_units_0  kX8_inRange kX8_stretch kX5_unit kX6_totalAt kX8_limited Q _)
  · unfold B_X8_units_0
    refine as_aload_n X (by decide +kernel : decode cX8_units 0 = .ok (.aload_n 0, 1)) rfl ?_
    refine as_iload_n X (by decide +kernel : decode cX8_units 1 = .ok (.iload_n 1, 1)) rfl ?_
    refine as_iload_n X (by decide +kernel : decode cX8_units 2 = .ok (.iload_n 2, 1)) rfl ?_
    refine as_iload_n X (by decide +kernel : decode cX8_units 3 = .ok (.iload_n 3, 1)) rfl ?_
    refine as_iload X (by decide +kernel : decode cX8_units 4 = .ok (.iload 4, 2)) ?_
    refine as_cv X h_X8_inRange rfl (by decide +kernel : decode cX8_units 6 = .ok (.invokevirtual 175, 3)) dn_X8_inRange ml_X8_175 im_X8_inRange se_X8_inRange ini_X8 co_X8_inRange R_X8_inRange ?_
    refine as_if_ne X (tgt := 14) (by decide +kernel : decode cX8_units 9 = .ok (.ifCond .ne 5, 3)) (by decide) ?_ ?_
    · refine as_iconst X (by decide +kernel : decode cX8_units 12 = .ok (.iconst (-1), 1)) rfl ?_
      exact as_ri X hQ hr (by decide +kernel : decode cX8_units 13 = .ok (.ireturn, 1))
    · refine as_aload_n X (by decide +kernel : decode cX8_units 14 = .ok (.aload_n 0, 1)) rfl ?_
      refine as_get X fc_X8 (by decide +kernel : decode cX8_units 15 = .ok (.getfield 47, 3)) (by decide) fl_X8_47 ?_
      refine as_get X fc_X5 (by decide +kernel : decode cX8_units 18 = .ok (.getfield 190, 3)) (by decide) fl_X8_190 ?_
      refine as_aload_n X (by decide +kernel : decode cX8_units 21 = .ok (.aload_n 0, 1)) rfl ?_
      refine as_get X fc_X8 (by decide +kernel : decode cX8_units 22 = .ok (.getfield 47, 3)) (by decide) fl_X8_47 ?_
      refine as_iload_n X (by decide +kernel : decode cX8_units 25 = .ok (.iload_n 1, 1)) rfl ?_
      refine as_iload_n X (by decide +kernel : decode cX8_units 26 = .ok (.iload_n 2, 1)) rfl ?_
      refine as_iload_n X (by decide +kernel : decode cX8_units 27 = .ok (.iload_n 3, 1)) rfl ?_
      refine as_iload X (by decide +kernel : decode cX8_units 28 = .ok (.iload 4, 2)) ?_
      refine as_cs X h_X8_stretch (by decide +kernel : decode cX8_units 30 = .ok (.invokestatic 182, 3)) dn_X8_stretch ml_X8_182 st_X8_stretch ini_X8 co_X8_stretch R_X8_stretch ?_
      refine as_cvN X (host := "ClueParts") h_X5_unit rfl (by decide +kernel : decode cX8_units 33 = .ok (.invokevirtual 193, 3)) dn_X5_unit (by decide +kernel) im_X5_unit se_X5_unit ini_X5 co_X5_unit R_X5_unit ?_
      refine as_cv X h_X6_totalAt rfl (by decide +kernel : decode cX8_units 36 = .ok (.invokevirtual 156, 3)) dn_X6_totalAt ml_X8_156 im_X6_totalAt se_X6_totalAt ini_X6 co_X6_totalAt R_X6_totalAt ?_
      refine as_cs X h_X8_limited (by decide +kernel : decode cX8_units 39 = .ok (.invokestatic 162, 3)) dn_X8_limited ml_X8_162 st_X8_limited ini_X8 co_X8_limited R_X8_limited ?_
      exact as_ri X hQ hr (by decide +kernel : decode cX8_units 42 = .ok (.ireturn, 1))

def B_X8_cheapest_0 (kX5_parse : am_T) (kX6_tiesAt : am_T) (kX8_limited : am_T) (Q : am_Q) (G : Nat → am_K) : am_K := (ak_al 0 (ak_get 6 4 (ak_get 3 2 (ak_al 0 (ak_get 6 4 (ak_cv 1 3 kX5_parse (ak_cv 2 4 kX6_tiesAt (ak_cs 1 kX8_limited (ak_ri Q)))))))))
def cl_X8_cheapest (kX5_parse : am_T) (kX6_tiesAt : am_T) (kX8_limited : am_T) (Q : am_Q) (G : Nat → am_K) : Prop := am_N G 0 (B_X8_cheapest_0 kX5_parse kX6_tiesAt kX8_limited Q G)
def WP_X8_cheapest (kX5_parse : am_T) (kX6_tiesAt : am_T) (kX8_limited : am_T) : am_T := fun av h Q => (lg_sl av).length ≤ 1 ∧ ∀ G, cl_X8_cheapest kX5_parse kX6_tiesAt kX8_limited Q G → G 0 (am_ent 1 av) [] h
set_option maxHeartbeats 4000000 in
set_option maxRecDepth 100000 in
theorem s_X8_cheapest {mX5_parse : Room} {kX5_parse : am_T} (h_X5_parse : am_S false yX5_parse (am_ws yX5_parse cX5_parse 4 (some .int)) mX5_parse kX5_parse) {mX6_tiesAt : Room} {kX6_tiesAt : am_T} (h_X6_tiesAt : am_S false yX6_tiesAt (am_ws yX6_tiesAt cX6_tiesAt 2 (some .long)) mX6_tiesAt kX6_tiesAt) {mX8_limited : Room} {kX8_limited : am_T} (h_X8_limited : am_S false yX8_limited (am_ws yX8_limited cX8_limited 2 (some .int)) mX8_limited kX8_limited) {rm : Room} (hz : rm.cells = 0 ∧ rm.slots = 0) (R_X5_parse : mX5_parse.frames + 1 ≤ rm.frames ∧ 8 + (4 + 11) + mX5_parse.locals ≤ rm.locals) (R_X6_tiesAt : mX6_tiesAt.frames + 1 ≤ rm.frames ∧ 8 + (2 + 11) + mX6_tiesAt.locals ≤ rm.locals) (R_X8_limited : mX8_limited.frames + 1 ≤ rm.frames ∧ 8 + (2 + 11) + mX8_limited.locals ≤ rm.locals) : am_S false yX8_cheapest (am_ws yX8_cheapest cX8_cheapest 1 (some .int)) rm (WP_X8_cheapest kX5_parse kX6_tiesAt kX8_limited) := by
  refine am_S.of (fun _ => hz) (by decide +kernel) (fun h0 Q G => cl_X8_cheapest kX5_parse kX6_tiesAt kX8_limited Q G) ?_
  intro p l e s m args below meth c D h0 Q X hr hnm hQ
  show am_N _ 0 (B_X8_cheapest_0  kX5_parse kX6_tiesAt kX8_limited Q _)
  · unfold B_X8_cheapest_0
    refine as_aload_n X (by decide +kernel : decode cX8_cheapest 0 = .ok (.aload_n 0, 1)) rfl ?_
    refine as_get X fc_X8 (by decide +kernel : decode cX8_cheapest 1 = .ok (.getfield 47, 3)) (by decide) fl_X8_47 ?_
    refine as_get X fc_X5 (by decide +kernel : decode cX8_cheapest 4 = .ok (.getfield 149, 3)) (by decide) fl_X8_149 ?_
    refine as_aload_n X (by decide +kernel : decode cX8_cheapest 7 = .ok (.aload_n 0, 1)) rfl ?_
    refine as_get X fc_X8 (by decide +kernel : decode cX8_cheapest 8 = .ok (.getfield 47, 3)) (by decide) fl_X8_47 ?_
    refine as_cv X h_X5_parse rfl (by decide +kernel : decode cX8_cheapest 11 = .ok (.invokevirtual 153, 3)) dn_X5_parse ml_X8_153 im_X5_parse se_X5_parse ini_X5 co_X5_parse R_X5_parse ?_
    refine as_cv X h_X6_tiesAt rfl (by decide +kernel : decode cX8_cheapest 14 = .ok (.invokevirtual 196, 3)) dn_X6_tiesAt ml_X8_196 im_X6_tiesAt se_X6_tiesAt ini_X6 co_X6_tiesAt R_X6_tiesAt ?_
    refine as_cs X h_X8_limited (by decide +kernel : decode cX8_cheapest 17 = .ok (.invokestatic 162, 3)) dn_X8_limited ml_X8_162 st_X8_limited ini_X8 co_X8_limited R_X8_limited ?_
    exact as_ri X hQ hr (by decide +kernel : decode cX8_cheapest 20 = .ok (.ireturn, 1))

def B_X8_offer_0 (kX8_offers : am_T) (kX8_entryOfOffer : am_T) (Q : am_Q) (G : Nat → am_K) : am_K := (ak_il 1 (ak_c (.int (-1)) (ak_ic (fun x y => y ≤ x) (ak_il 1 (ak_c (.int (-1)) (ak_ic (fun x y => x = y) (ak_al 0 (ak_cv 1 6 kX8_offers (G 24))) (ak_al 0 (ak_il 1 (ak_cv 2 6 kX8_entryOfOffer (G 24))))))) (ak_c (.int (-1)) (ak_ri Q)))))
def B_X8_offer_24 (kX8_offers : am_T) (kX8_entryOfOffer : am_T) (Q : am_Q) (G : Nat → am_K) : am_K := (ak_ri Q)
def cl_X8_offer (kX8_offers : am_T) (kX8_entryOfOffer : am_T) (Q : am_Q) (G : Nat → am_K) : Prop := am_N G 0 (B_X8_offer_0 kX8_offers kX8_entryOfOffer Q G) ∧ am_N G 24 (B_X8_offer_24 kX8_offers kX8_entryOfOffer Q G)
def WP_X8_offer (kX8_offers : am_T) (kX8_entryOfOffer : am_T) : am_T := fun av h Q => (lg_sl av).length ≤ 2 ∧ ∀ G, cl_X8_offer kX8_offers kX8_entryOfOffer Q G → G 0 (am_ent 2 av) [] h
set_option maxHeartbeats 4000000 in
set_option maxRecDepth 100000 in
theorem s_X8_offer {mX8_offers : Room} {kX8_offers : am_T} (h_X8_offers : am_S false yX8_offers (am_ws yX8_offers cX8_offers 3 (some .int)) mX8_offers kX8_offers) {mX8_entryOfOffer : Room} {kX8_entryOfOffer : am_T} (h_X8_entryOfOffer : am_S false yX8_entryOfOffer (am_ws yX8_entryOfOffer cX8_entryOfOffer 4 (some .int)) mX8_entryOfOffer kX8_entryOfOffer) {rm : Room} (hz : rm.cells = 0 ∧ rm.slots = 0) (R_X8_offers : mX8_offers.frames + 1 ≤ rm.frames ∧ 8 + (3 + 11) + mX8_offers.locals ≤ rm.locals) (R_X8_entryOfOffer : mX8_entryOfOffer.frames + 1 ≤ rm.frames ∧ 8 + (4 + 11) + mX8_entryOfOffer.locals ≤ rm.locals) : am_S false yX8_offer (am_ws yX8_offer cX8_offer 2 (some .int)) rm (WP_X8_offer kX8_offers kX8_entryOfOffer) := by
  refine am_S.of (fun _ => hz) (by decide +kernel) (fun h0 Q G => cl_X8_offer kX8_offers kX8_entryOfOffer Q G) ?_
  intro p l e s m args below meth c D h0 Q X hr hnm hQ
  refine ⟨?_, ?_⟩
  · unfold B_X8_offer_0
    refine as_iload_n X (by decide +kernel : decode cX8_offer 0 = .ok (.iload_n 1, 1)) rfl ?_
    refine as_iconst X (by decide +kernel : decode cX8_offer 1 = .ok (.iconst (-1), 1)) rfl ?_
    refine as_ic_ge X (tgt := 7) (by decide +kernel : decode cX8_offer 2 = .ok (.if_icmp .ge 5, 3)) (by decide) ?_ ?_
    · refine as_iload_n X (by decide +kernel : decode cX8_offer 7 = .ok (.iload_n 1, 1)) rfl ?_
      refine as_iconst X (by decide +kernel : decode cX8_offer 8 = .ok (.iconst (-1), 1)) rfl ?_
      refine as_ic_ne X (tgt := 19) (by decide +kernel : decode cX8_offer 9 = .ok (.if_icmp .ne 10, 3)) (by decide) ?_ ?_
      · refine as_aload_n X (by decide +kernel : decode cX8_offer 12 = .ok (.aload_n 0, 1)) rfl ?_
        refine as_cv X h_X8_offers rfl (by decide +kernel : decode cX8_offer 13 = .ok (.invokevirtual 199, 3)) dn_X8_offers ml_X8_199 im_X8_offers se_X8_offers ini_X8 co_X8_offers R_X8_offers ?_
        refine as_goto X (tgt := 24) (by decide +kernel : decode cX8_offer 16 = .ok (.goto 8, 3)) (by decide) ?_
        exact fun _ _ _ h => h
      · refine as_aload_n X (by decide +kernel : decode cX8_offer 19 = .ok (.aload_n 0, 1)) rfl ?_
        refine as_iload_n X (by decide +kernel : decode cX8_offer 20 = .ok (.iload_n 1, 1)) rfl ?_
        refine as_cv X h_X8_entryOfOffer rfl (by decide +kernel : decode cX8_offer 21 = .ok (.invokevirtual 202, 3)) dn_X8_entryOfOffer ml_X8_202 im_X8_entryOfOffer se_X8_entryOfOffer ini_X8 co_X8_entryOfOffer R_X8_entryOfOffer ?_
        exact fun _ _ _ h => h
    · refine as_iconst X (by decide +kernel : decode cX8_offer 5 = .ok (.iconst (-1), 1)) rfl ?_
      exact as_ri X hQ hr (by decide +kernel : decode cX8_offer 6 = .ok (.ireturn, 1))
  · unfold B_X8_offer_24
    exact as_ri X hQ hr (by decide +kernel : decode cX8_offer 24 = .ok (.ireturn, 1))

def B_X8_ifOffer_0 (kX8_entryOfOffer : am_T) (kX5_suppose : am_T) (kX8_parses : am_T) (kX8_cost : am_T) (kX5_supposeNothing : am_T) (Q : am_Q) (G : Nat → am_K) : am_K := (ak_al 0 (ak_il 1 (ak_cv 2 6 kX8_entryOfOffer (ak_is 3 (ak_il 3 (ak_c (.int (-4)) (ak_ic (fun x y => x = y) (G 21) (ak_il 2 (ak_if (fun x => x < 0) (G 21) (ak_il 2 (ak_c (.int 1) (ak_ic (fun x y => x ≤ y) (ak_al 0 (ak_get 6 4 (ak_al 0 (ak_get 6 1 (ak_get 0 1 (ak_il 3 (ak_lald (ak_c (.int (-4)) (ak_cv 3 3 kX5_suppose (ak_il 2 (ak_if (fun x => x = 0) (ak_al 0 (ak_cv 1 6 kX8_parses (G 56))) (ak_al 0 (ak_cv 1 6 kX8_cost (G 56)))))))))))))) (G 21)))))))))))))
def B_X8_ifOffer_21 (kX8_entryOfOffer : am_T) (kX5_suppose : am_T) (kX8_parses : am_T) (kX8_cost : am_T) (kX5_supposeNothing : am_T) (Q : am_Q) (G : Nat → am_K) : am_K := (ak_c (.int (-1)) (ak_ri Q))
def B_X8_ifOffer_56 (kX8_entryOfOffer : am_T) (kX5_suppose : am_T) (kX8_parses : am_T) (kX8_cost : am_T) (kX5_supposeNothing : am_T) (Q : am_Q) (G : Nat → am_K) : am_K := (ak_is 4 (ak_al 0 (ak_get 6 4 (ak_al 0 (ak_get 6 6 (ak_cv 2 3 kX5_supposeNothing (ak_il 4 (ak_ri Q))))))))
def cl_X8_ifOffer (kX8_entryOfOffer : am_T) (kX5_suppose : am_T) (kX8_parses : am_T) (kX8_cost : am_T) (kX5_supposeNothing : am_T) (Q : am_Q) (G : Nat → am_K) : Prop := am_N G 0 (B_X8_ifOffer_0 kX8_entryOfOffer kX5_suppose kX8_parses kX8_cost kX5_supposeNothing Q G) ∧ am_N G 21 (B_X8_ifOffer_21 kX8_entryOfOffer kX5_suppose kX8_parses kX8_cost kX5_supposeNothing Q G) ∧ am_N G 56 (B_X8_ifOffer_56 kX8_entryOfOffer kX5_suppose kX8_parses kX8_cost kX5_supposeNothing Q G)
def WP_X8_ifOffer (kX8_entryOfOffer : am_T) (kX5_suppose : am_T) (kX8_parses : am_T) (kX8_cost : am_T) (kX5_supposeNothing : am_T) : am_T := fun av h Q => (lg_sl av).length ≤ 5 ∧ ∀ G, cl_X8_ifOffer kX8_entryOfOffer kX5_suppose kX8_parses kX8_cost kX5_supposeNothing Q G → G 0 (am_ent 5 av) [] h
set_option maxHeartbeats 4000000 in
set_option maxRecDepth 100000 in
theorem s_X8_ifOffer {mX8_entryOfOffer : Room} {kX8_entryOfOffer : am_T} (h_X8_entryOfOffer : am_S false yX8_entryOfOffer (am_ws yX8_entryOfOffer cX8_entryOfOffer 4 (some .int)) mX8_entryOfOffer kX8_entryOfOffer) {mX5_suppose : Room} {kX5_suppose : am_T} (h_X5_suppose : am_S false yX5_suppose (am_ws yX5_suppose cX5_suppose 4 none) mX5_suppose kX5_suppose) {mX8_parses : Room} {kX8_parses : am_T} (h_X8_parses : am_S false yX8_parses (am_ws yX8_parses cX8_parses 1 (some .int)) mX8_parses kX8_parses) {mX8_cost : Room} {kX8_cost : am_T} (h_X8_cost : am_S false yX8_cost (am_ws yX8_cost cX8_cost 1 (some .int)) mX8_cost kX8_cost) {mX5_supposeNothing : Room} {kX5_supposeNothing : am_T} (h_X5_supposeNothing : am_S false yX5_supposeNothing (am_ws yX5_supposeNothing cX5_supposeNothing 3 none) mX5_supposeNothing kX5_supposeNothing) {rm : Room} (hz : rm.cells = 0 ∧ rm.slots = 0) (R_X8_entryOfOffer : mX8_entryOfOffer.frames + 1 ≤ rm.frames ∧ 8 + (4 + 11) + mX8_entryOfOffer.locals ≤ rm.locals) (R_X5_suppose : mX5_suppose.frames + 1 ≤ rm.frames ∧ 8 + (4 + 11) + mX5_suppose.locals ≤ rm.locals) (R_X8_parses : mX8_parses.frames + 1 ≤ rm.frames ∧ 8 + (1 + 11) + mX8_parses.locals ≤ rm.locals) (R_X8_cost : mX8_cost.frames + 1 ≤ rm.frames ∧ 8 + (1 + 11) + mX8_cost.locals ≤ rm.locals) (R_X5_supposeNothing : mX5_supposeNothing.frames + 1 ≤ rm.frames ∧ 8 + (3 + 11) + mX5_supposeNothing.locals ≤ rm.locals) : am_S false yX8_ifOffer (am_ws yX8_ifOffer cX8_ifOffer 5 (some .int)) rm (WP_X8_ifOffer kX8_entryOfOffer kX5_suppose kX8_parses kX8_cost kX5_supposeNothing) := by
  refine am_S.of (fun _ => hz) (by decide +kernel) (fun h0 Q G => cl_X8_ifOffer kX8_entryOfOffer kX5_suppose kX8_parses kX8_cost kX5_supposeNothing Q G) ?_
  intro p l e s m args below meth c D h0 Q X hr hnm hQ
  refine ⟨?_, ?_, ?_⟩
  · unfold B_X8_ifOffer_0
    refine as_aload_n X (by decide +kernel : decode cX8_ifOffer 0 = .ok (.aload_n 0, 1)) rfl ?_
    refine as_iload_n X (by decide +kernel : decode cX8_ifOffer 1 = .ok (.iload_n 1, 1)) rfl ?_
    refine as_cv X h_X8_entryOfOffer rfl (by decide +kernel : decode cX8_ifOffer 2 = .ok (.invokevirtual 202, 3)) dn_X8_entryOfOffer ml_X8_202 im_X8_entryOfOffer se_X8_entryOfOffer ini_X8 co_X8_entryOfOffer R_X8_entryOfOffer ?_
    refine as_istore_n X (by decide +kernel : decode cX8_ifOffer 5 = .ok (.istore_n 3, 1)) rfl ?_
    refine as_iload_n X (by decide +kernel : decode cX8_ifOffer 6 = .ok (.iload_n 3, 1)) rfl ?_
    refine as_bipush X (by decide +kernel : decode cX8_ifOffer 7 = .ok (.bipush (-4), 2)) rfl ?_
    refine as_ic_eq X (tgt := 21) (by decide +kernel : decode cX8_ifOffer 9 = .ok (.if_icmp .eq 12, 3)) (by decide) ?_ ?_
    · exact fun _ _ _ h => h
    · refine as_iload_n X (by decide +kernel : decode cX8_ifOffer 12 = .ok (.iload_n 2, 1)) rfl ?_
      refine as_if_lt X (tgt := 21) (by decide +kernel : decode cX8_ifOffer 13 = .ok (.ifCond .lt 8, 3)) (by decide) ?_ ?_
      · exact fun _ _ _ h => h
      · refine as_iload_n X (by decide +kernel : decode cX8_ifOffer 16 = .ok (.iload_n 2, 1)) rfl ?_
        refine as_iconst X (by decide +kernel : decode cX8_ifOffer 17 = .ok (.iconst 1, 1)) rfl ?_
        refine as_ic_le X (tgt := 23) (by decide +kernel : decode cX8_ifOffer 18 = .ok (.if_icmp .le 5, 3)) (by decide) ?_ ?_
        · refine as_aload_n X (by decide +kernel : decode cX8_ifOffer 23 = .ok (.aload_n 0, 1)) rfl ?_
          refine as_get X fc_X8 (by decide +kernel : decode cX8_ifOffer 24 = .ok (.getfield 47, 3)) (by decide) fl_X8_47 ?_
          refine as_aload_n X (by decide +kernel : decode cX8_ifOffer 27 = .ok (.aload_n 0, 1)) rfl ?_
          refine as_get X fc_X8 (by decide +kernel : decode cX8_ifOffer 28 = .ok (.getfield 19, 3)) (by decide) fl_X8_19 ?_
          refine as_get X fc_X0 (by decide +kernel : decode cX8_ifOffer 31 = .ok (.getfield 133, 3)) (by decide) fl_X8_133 ?_
          refine as_iload_n X (by decide +kernel : decode cX8_ifOffer 34 = .ok (.iload_n 3, 1)) rfl ?_
          refine as_laload X (by decide +kernel : decode cX8_ifOffer 35 = .ok (.laload, 1)) ?_
          refine as_bipush X (by decide +kernel : decode cX8_ifOffer 36 = .ok (.bipush (-4), 2)) rfl ?_
          refine as_cv X h_X5_suppose rfl (by decide +kernel : decode cX8_ifOffer 38 = .ok (.invokevirtual 205, 3)) dn_X5_suppose ml_X8_205 im_X5_suppose se_X5_suppose ini_X5 co_X5_suppose R_X5_suppose ?_
          refine as_iload_n X (by decide +kernel : decode cX8_ifOffer 41 = .ok (.iload_n 2, 1)) rfl ?_
          refine as_if_ne X (tgt := 52) (by decide +kernel : decode cX8_ifOffer 42 = .ok (.ifCond .ne 10, 3)) (by decide) ?_ ?_
          · refine as_aload_n X (by decide +kernel : decode cX8_ifOffer 45 = .ok (.aload_n 0, 1)) rfl ?_
            refine as_cv X h_X8_parses rfl (by decide +kernel : decode cX8_ifOffer 46 = .ok (.invokevirtual 209, 3)) dn_X8_parses ml_X8_209 im_X8_parses se_X8_parses ini_X8 co_X8_parses R_X8_parses ?_
            refine as_goto X (tgt := 56) (by decide +kernel : decode cX8_ifOffer 49 = .ok (.goto 7, 3)) (by decide) ?_
            exact fun _ _ _ h => h
          · refine as_aload_n X (by decide +kernel : decode cX8_ifOffer 52 = .ok (.aload_n 0, 1)) rfl ?_
            refine as_cv X h_X8_cost rfl (by decide +kernel : decode cX8_ifOffer 53 = .ok (.invokevirtual 212, 3)) dn_X8_cost ml_X8_212 im_X8_cost se_X8_cost ini_X8 co_X8_cost R_X8_cost ?_
            exact fun _ _ _ h => h
        · exact fun _ _ _ h => h
  · unfold B_X8_ifOffer_21
    refine as_iconst X (by decide +kernel : decode cX8_ifOffer 21 = .ok (.iconst (-1), 1)) rfl ?_
    exact as_ri X hQ hr (by decide +kernel : decode cX8_ifOffer 22 = .ok (.ireturn, 1))
  · unfold B_X8_ifOffer_56
    refine as_istore X (by decide +kernel : decode cX8_ifOffer 56 = .ok (.istore 4, 2)) ?_
    refine as_aload_n X (by decide +kernel : decode cX8_ifOffer 58 = .ok (.aload_n 0, 1)) rfl ?_
    refine as_get X fc_X8 (by decide +kernel : decode cX8_ifOffer 59 = .ok (.getfield 47, 3)) (by decide) fl_X8_47 ?_
    refine as_aload_n X (by decide +kernel : decode cX8_ifOffer 62 = .ok (.aload_n 0, 1)) rfl ?_
    refine as_get X fc_X8 (by decide +kernel : decode cX8_ifOffer 63 = .ok (.getfield 87, 3)) (by decide) fl_X8_87 ?_
    refine as_cv X h_X5_supposeNothing rfl (by decide +kernel : decode cX8_ifOffer 66 = .ok (.invokevirtual 215, 3)) dn_X5_supposeNothing ml_X8_215 im_X5_supposeNothing se_X5_supposeNothing ini_X5 co_X5_supposeNothing R_X5_supposeNothing ?_
    refine as_iload X (by decide +kernel : decode cX8_ifOffer 69 = .ok (.iload 4, 2)) ?_
    exact as_ri X hQ hr (by decide +kernel : decode cX8_ifOffer 71 = .ok (.ireturn, 1))

def B_X8_take_0 (kX8_entryOfOffer : am_T) (kX8_adopt : am_T) (kX2_size : am_T) (Q : am_Q) (G : Nat → am_K) : am_K := (ak_al 0 (ak_il 1 (ak_cv 2 6 kX8_entryOfOffer (ak_is 2 (ak_il 2 (ak_c (.int (-4)) (ak_ic (fun x y => x = y) (ak_c (.int (-1)) (ak_ri Q)) (ak_al 0 (ak_get 6 1 (ak_get 0 1 (ak_il 2 (ak_lald (ak_al 0 (ak_get 6 6 (ak_lc (ak_if (fun x => x = 0) (ak_c (.int (-2)) (ak_ri Q)) (ak_al 0 (ak_al 0 (ak_get 6 1 (ak_get 0 1 (ak_il 2 (ak_lald (ak_cv 2 6 kX8_adopt (ak_al 0 (ak_get 6 6 (ak_cs 1 kX2_size (ak_ri Q)))))))))))))))))))))))))))
def cl_X8_take (kX8_entryOfOffer : am_T) (kX8_adopt : am_T) (kX2_size : am_T) (Q : am_Q) (G : Nat → am_K) : Prop := am_N G 0 (B_X8_take_0 kX8_entryOfOffer kX8_adopt kX2_size Q G)
def WP_X8_take (kX8_entryOfOffer : am_T) (kX8_adopt : am_T) (kX2_size : am_T) : am_T := fun av h Q => (lg_sl av).length ≤ 3 ∧ ∀ G, cl_X8_take kX8_entryOfOffer kX8_adopt kX2_size Q G → G 0 (am_ent 3 av) [] h
set_option maxHeartbeats 4000000 in
set_option maxRecDepth 100000 in
theorem s_X8_take {mX8_entryOfOffer : Room} {kX8_entryOfOffer : am_T} (h_X8_entryOfOffer : am_S false yX8_entryOfOffer (am_ws yX8_entryOfOffer cX8_entryOfOffer 4 (some .int)) mX8_entryOfOffer kX8_entryOfOffer) {mX8_adopt : Room} {kX8_adopt : am_T} (h_X8_adopt : am_S false yX8_adopt (am_ws yX8_adopt cX8_adopt 3 none) mX8_adopt kX8_adopt) {mX2_size : Room} {kX2_size : am_T} (h_X2_size : am_S false yX2_size (am_ws yX2_size cX2_size 3 (some .int)) mX2_size kX2_size) {rm : Room} (hz : rm.cells = 0 ∧ rm.slots = 0) (R_X8_entryOfOffer : mX8_entryOfOffer.frames + 1 ≤ rm.frames ∧ 8 + (4 + 11) + mX8_entryOfOffer.locals ≤ rm.locals) (R_X8_adopt : mX8_adopt.frames + 1 ≤ rm.frames ∧ 8 + (3 + 11) + mX8_adopt.locals ≤ rm.locals) (R_X2_size : mX2_size.frames + 1 ≤ rm.frames ∧ 8 + (3 + 11) + mX2_size.locals ≤ rm.locals) : am_S false yX8_take (am_ws yX8_take cX8_take 3 (some .int)) rm (WP_X8_take kX8_entryOfOffer kX8_adopt kX2_size) := by
  refine am_S.of (fun _ => hz) (by decide +kernel) (fun h0 Q G => cl_X8_take kX8_entryOfOffer kX8_adopt kX2_size Q G) ?_
  intro p l e s m args below meth c D h0 Q X hr hnm hQ
  show am_N _ 0 (B_X8_take_0  kX8_entryOfOffer kX8_adopt kX2_size Q _)
  · unfold B_X8_take_0
    refine as_aload_n X (by decide +kernel : decode cX8_take 0 = .ok (.aload_n 0, 1)) rfl ?_
    refine as_iload_n X (by decide +kernel : decode cX8_take 1 = .ok (.iload_n 1, 1)) rfl ?_
    refine as_cv X h_X8_entryOfOffer rfl (by decide +kernel : decode cX8_take 2 = .ok (.invokevirtual 202, 3)) dn_X8_entryOfOffer ml_X8_202 im_X8_entryOfOffer se_X8_entryOfOffer ini_X8 co_X8_entryOfOffer R_X8_entryOfOffer ?_
    refine as_istore_n X (by decide +kernel : decode cX8_take 5 = .ok (.istore_n 2, 1)) rfl ?_
    refine as_iload_n X (by decide +kernel : decode cX8_take 6 = .ok (.iload_n 2, 1)) rfl ?_
    refine as_bipush X (by decide +kernel : decode cX8_take 7 = .ok (.bipush (-4), 2)) rfl ?_
    refine as_ic_ne X (tgt := 14) (by decide +kernel : decode cX8_take 9 = .ok (.if_icmp .ne 5, 3)) (by decide) ?_ ?_
    · refine as_iconst X (by decide +kernel : decode cX8_take 12 = .ok (.iconst (-1), 1)) rfl ?_
      exact as_ri X hQ hr (by decide +kernel : decode cX8_take 13 = .ok (.ireturn, 1))
    · refine as_aload_n X (by decide +kernel : decode cX8_take 14 = .ok (.aload_n 0, 1)) rfl ?_
      refine as_get X fc_X8 (by decide +kernel : decode cX8_take 15 = .ok (.getfield 19, 3)) (by decide) fl_X8_19 ?_
      refine as_get X fc_X0 (by decide +kernel : decode cX8_take 18 = .ok (.getfield 133, 3)) (by decide) fl_X8_133 ?_
      refine as_iload_n X (by decide +kernel : decode cX8_take 21 = .ok (.iload_n 2, 1)) rfl ?_
      refine as_laload X (by decide +kernel : decode cX8_take 22 = .ok (.laload, 1)) ?_
      refine as_aload_n X (by decide +kernel : decode cX8_take 23 = .ok (.aload_n 0, 1)) rfl ?_
      refine as_get X fc_X8 (by decide +kernel : decode cX8_take 24 = .ok (.getfield 87, 3)) (by decide) fl_X8_87 ?_
      refine as_lcmp X (by decide +kernel : decode cX8_take 27 = .ok (.lcmp, 1)) ?_
      refine as_if_ne X (tgt := 34) (by decide +kernel : decode cX8_take 28 = .ok (.ifCond .ne 6, 3)) (by decide) ?_ ?_
      · refine as_bipush X (by decide +kernel : decode cX8_take 31 = .ok (.bipush (-2), 2)) rfl ?_
        exact as_ri X hQ hr (by decide +kernel : decode cX8_take 33 = .ok (.ireturn, 1))
      · refine as_aload_n X (by decide +kernel : decode cX8_take 34 = .ok (.aload_n 0, 1)) rfl ?_
        refine as_aload_n X (by decide +kernel : decode cX8_take 35 = .ok (.aload_n 0, 1)) rfl ?_
        refine as_get X fc_X8 (by decide +kernel : decode cX8_take 36 = .ok (.getfield 19, 3)) (by decide) fl_X8_19 ?_
        refine as_get X fc_X0 (by decide +kernel : decode cX8_take 39 = .ok (.getfield 133, 3)) (by decide) fl_X8_133 ?_
        refine as_iload_n X (by decide +kernel : decode cX8_take 42 = .ok (.iload_n 2, 1)) rfl ?_
        refine as_laload X (by decide +kernel : decode cX8_take 43 = .ok (.laload, 1)) ?_
        refine as_cv X h_X8_adopt rfl (by decide +kernel : decode cX8_take 44 = .ok (.invokevirtual 118, 3)) dn_X8_adopt ml_X8_118 im_X8_adopt se_X8_adopt ini_X8 co_X8_adopt R_X8_adopt ?_
        refine as_aload_n X (by decide +kernel : decode cX8_take 47 = .ok (.aload_n 0, 1)) rfl ?_
        refine as_get X fc_X8 (by decide +kernel : decode cX8_take 48 = .ok (.getfield 87, 3)) (by decide) fl_X8_87 ?_
        refine as_cs X h_X2_size (by decide +kernel : decode cX8_take 51 = .ok (.invokestatic 128, 3)) dn_X2_size ml_X8_128 st_X2_size ini_X2 co_X2_size R_X2_size ?_
        exact as_ri X hQ hr (by decide +kernel : decode cX8_take 54 = .ok (.ireturn, 1))

def B_X8_without_0 (kX0_has : am_T) (kX5_suppose : am_T) (kX8_parses : am_T) (kX5_supposeNothing : am_T) (Q : am_Q) (G : Nat → am_K) : am_K := (ak_al 0 (ak_get 6 1 (ak_il 1 (ak_cv 2 0 kX0_has (ak_if (fun x => x = 0) (ak_c (.int (-1)) (ak_ri Q)) (ak_al 0 (ak_get 6 4 (ak_al 0 (ak_get 6 6 (ak_il 1 (ak_cv 3 3 kX5_suppose (ak_al 0 (ak_cv 1 6 kX8_parses (ak_is 2 (ak_al 0 (ak_get 6 4 (ak_al 0 (ak_get 6 6 (ak_cv 2 3 kX5_supposeNothing (ak_il 2 (ak_ri Q)))))))))))))))))))))
def cl_X8_without (kX0_has : am_T) (kX5_suppose : am_T) (kX8_parses : am_T) (kX5_supposeNothing : am_T) (Q : am_Q) (G : Nat → am_K) : Prop := am_N G 0 (B_X8_without_0 kX0_has kX5_suppose kX8_parses kX5_supposeNothing Q G)
def WP_X8_without (kX0_has : am_T) (kX5_suppose : am_T) (kX8_parses : am_T) (kX5_supposeNothing : am_T) : am_T := fun av h Q => (lg_sl av).length ≤ 3 ∧ ∀ G, cl_X8_without kX0_has kX5_suppose kX8_parses kX5_supposeNothing Q G → G 0 (am_ent 3 av) [] h
set_option maxHeartbeats 4000000 in
set_option maxRecDepth 100000 in
theorem s_X8_without {mX0_has : Room} {kX0_has : am_T} (h_X0_has : am_S false yX0_has (am_ws yX0_has cX0_has 2 (some .boolean)) mX0_has kX0_has) {mX5_suppose : Room} {kX5_suppose : am_T} (h_X5_suppose : am_S false yX5_suppose (am_ws yX5_suppose cX5_suppose 4 none) mX5_suppose kX5_suppose) {mX8_parses : Room} {kX8_parses : am_T} (h_X8_parses : am_S false yX8_parses (am_ws yX8_parses cX8_parses 1 (some .int)) mX8_parses kX8_parses) {mX5_supposeNothing : Room} {kX5_supposeNothing : am_T} (h_X5_supposeNothing : am_S false yX5_supposeNothing (am_ws yX5_supposeNothing cX5_supposeNothing 3 none) mX5_supposeNothing kX5_supposeNothing) {rm : Room} (hz : rm.cells = 0 ∧ rm.slots = 0) (R_X0_has : mX0_has.frames + 1 ≤ rm.frames ∧ 8 + (2 + 11) + mX0_has.locals ≤ rm.locals) (R_X5_suppose : mX5_suppose.frames + 1 ≤ rm.frames ∧ 8 + (4 + 11) + mX5_suppose.locals ≤ rm.locals) (R_X8_parses : mX8_parses.frames + 1 ≤ rm.frames ∧ 8 + (1 + 11) + mX8_parses.locals ≤ rm.locals) (R_X5_supposeNothing : mX5_supposeNothing.frames + 1 ≤ rm.frames ∧ 8 + (3 + 11) + mX5_supposeNothing.locals ≤ rm.locals) : am_S false yX8_without (am_ws yX8_without cX8_without 3 (some .int)) rm (WP_X8_without kX0_has kX5_suppose kX8_parses kX5_supposeNothing) := by
  refine am_S.of (fun _ => hz) (by decide +kernel) (fun h0 Q G => cl_X8_without kX0_has kX5_suppose kX8_parses kX5_supposeNothing Q G) ?_
  intro p l e s m args below meth c D h0 Q X hr hnm hQ
  show am_N _ 0 (B_X8_without_0  kX0_has kX5_suppose kX8_parses kX5_supposeNothing Q _)
  · unfold B_X8_without_0
    refine as_aload_n X (by decide +kernel : decode cX8_without 0 = .ok (.aload_n 0, 1)) rfl ?_
    refine as_get X fc_X8 (by decide +kernel : decode cX8_without 1 = .ok (.getfield 19, 3)) (by decide) fl_X8_19 ?_
    refine as_iload_n X (by decide +kernel : decode cX8_without 4 = .ok (.iload_n 1, 1)) rfl ?_
    refine as_cv X h_X0_has rfl (by decide +kernel : decode cX8_without 5 = .ok (.invokevirtual 103, 3)) dn_X0_has ml_X8_103 im_X0_has se_X0_has ini_X0 co_X0_has R_X0_has ?_
    refine as_if_ne X (tgt := 13) (by decide +kernel : decode cX8_without 8 = .ok (.ifCond .ne 5, 3)) (by decide) ?_ ?_
    · refine as_iconst X (by decide +kernel : decode cX8_without 11 = .ok (.iconst (-1), 1)) rfl ?_
      exact as_ri X hQ hr (by decide +kernel : decode cX8_without 12 = .ok (.ireturn, 1))
    · refine as_aload_n X (by decide +kernel : decode cX8_without 13 = .ok (.aload_n 0, 1)) rfl ?_
      refine as_get X fc_X8 (by decide +kernel : decode cX8_without 14 = .ok (.getfield 47, 3)) (by decide) fl_X8_47 ?_
      refine as_aload_n X (by decide +kernel : decode cX8_without 17 = .ok (.aload_n 0, 1)) rfl ?_
      refine as_get X fc_X8 (by decide +kernel : decode cX8_without 18 = .ok (.getfield 87, 3)) (by decide) fl_X8_87 ?_
      refine as_iload_n X (by decide +kernel : decode cX8_without 21 = .ok (.iload_n 1, 1)) rfl ?_
      refine as_cv X h_X5_suppose rfl (by decide +kernel : decode cX8_without 22 = .ok (.invokevirtual 205, 3)) dn_X5_suppose ml_X8_205 im_X5_suppose se_X5_suppose ini_X5 co_X5_suppose R_X5_suppose ?_
      refine as_aload_n X (by decide +kernel : decode cX8_without 25 = .ok (.aload_n 0, 1)) rfl ?_
      refine as_cv X h_X8_parses rfl (by decide +kernel : decode cX8_without 26 = .ok (.invokevirtual 209, 3)) dn_X8_parses ml_X8_209 im_X8_parses se_X8_parses ini_X8 co_X8_parses R_X8_parses ?_
      refine as_istore_n X (by decide +kernel : decode cX8_without 29 = .ok (.istore_n 2, 1)) rfl ?_
      refine as_aload_n X (by decide +kernel : decode cX8_without 30 = .ok (.aload_n 0, 1)) rfl ?_
      refine as_get X fc_X8 (by decide +kernel : decode cX8_without 31 = .ok (.getfield 47, 3)) (by decide) fl_X8_47 ?_
      refine as_aload_n X (by decide +kernel : decode cX8_without 34 = .ok (.aload_n 0, 1)) rfl ?_
      refine as_get X fc_X8 (by decide +kernel : decode cX8_without 35 = .ok (.getfield 87, 3)) (by decide) fl_X8_87 ?_
      refine as_cv X h_X5_supposeNothing rfl (by decide +kernel : decode cX8_without 38 = .ok (.invokevirtual 215, 3)) dn_X5_supposeNothing ml_X8_215 im_X5_supposeNothing se_X5_supposeNothing ini_X5 co_X5_supposeNothing R_X5_supposeNothing ?_
      refine as_iload_n X (by decide +kernel : decode cX8_without 41 = .ok (.iload_n 2, 1)) rfl ?_
      exact as_ri X hQ hr (by decide +kernel : decode cX8_without 42 = .ok (.ireturn, 1))

def B_X8_count_0 (kX2_size : am_T) (kX8_offers : am_T) (kX8_neededEntries : am_T) (kX0_stands : am_T) (Q : am_Q) (G : Nat → am_K) : am_K := (ak_il 1 (ak_sw (0) (6) [(ak_al 0 (ak_get 6 1 (ak_get 0 3 (ak_ri Q)))), (ak_al 0 (ak_get 6 2 (ak_get 1 3 (ak_ri Q)))), (ak_al 0 (ak_get 6 6 (ak_cs 1 kX2_size (ak_ri Q)))), (ak_al 0 (ak_cv 1 6 kX8_offers (ak_ri Q))), (ak_al 0 (ak_get 6 0 (ak_get 5 1 (ak_ri Q)))), (ak_al 0 (ak_cv 1 6 kX8_neededEntries (ak_ri Q))), (ak_al 0 (ak_get 6 1 (ak_cv 1 0 kX0_stands (ak_ri Q))))] (ak_c (.int (-1)) (ak_ri Q))))
def cl_X8_count (kX2_size : am_T) (kX8_offers : am_T) (kX8_neededEntries : am_T) (kX0_stands : am_T) (Q : am_Q) (G : Nat → am_K) : Prop := am_N G 0 (B_X8_count_0 kX2_size kX8_offers kX8_neededEntries kX0_stands Q G)
def WP_X8_count (kX2_size : am_T) (kX8_offers : am_T) (kX8_neededEntries : am_T) (kX0_stands : am_T) : am_T := fun av h Q => (lg_sl av).length ≤ 2 ∧ ∀ G, cl_X8_count kX2_size kX8_offers kX8_neededEntries kX0_stands Q G → G 0 (am_ent 2 av) [] h
set_option maxHeartbeats 4000000 in
set_option maxRecDepth 100000 in
theorem s_X8_count {mX2_size : Room} {kX2_size : am_T} (h_X2_size : am_S false yX2_size (am_ws yX2_size cX2_size 3 (some .int)) mX2_size kX2_size) {mX8_offers : Room} {kX8_offers : am_T} (h_X8_offers : am_S false yX8_offers (am_ws yX8_offers cX8_offers 3 (some .int)) mX8_offers kX8_offers) {mX8_neededEntries : Room} {kX8_neededEntries : am_T} (h_X8_neededEntries : am_S false yX8_neededEntries (am_ws yX8_neededEntries cX8_neededEntries 5 (some .int)) mX8_neededEntries kX8_neededEntries) {mX0_stands : Room} {kX0_stands : am_T} (h_X0_stands : am_S false yX0_stands (am_ws yX0_stands cX0_stands 3 (some .int)) mX0_stands kX0_stands) {rm : Room} (hz : rm.cells = 0 ∧ rm.slots = 0) (R_X2_size : mX2_size.frames + 1 ≤ rm.frames ∧ 8 + (3 + 11) + mX2_size.locals ≤ rm.locals) (R_X8_offers : mX8_offers.frames + 1 ≤ rm.frames ∧ 8 + (3 + 11) + mX8_offers.locals ≤ rm.locals) (R_X8_neededEntries : mX8_neededEntries.frames + 1 ≤ rm.frames ∧ 8 + (5 + 11) + mX8_neededEntries.locals ≤ rm.locals) (R_X0_stands : mX0_stands.frames + 1 ≤ rm.frames ∧ 8 + (3 + 11) + mX0_stands.locals ≤ rm.locals) : am_S false yX8_count (am_ws yX8_count cX8_count 2 (some .int)) rm (WP_X8_count kX2_size kX8_offers kX8_neededEntries kX0_stands) := by
  refine am_S.of (fun _ => hz) (by decide +kernel) (fun h0 Q G => cl_X8_count kX2_size kX8_offers kX8_neededEntries kX0_stands Q G) ?_
  intro p l e s m args below meth c D h0 Q X hr hnm hQ
  show am_N _ 0 (B_X8_count_0  kX2_size kX8_offers kX8_neededEntries kX0_stands Q _)
  · unfold B_X8_count_0
    refine as_iload_n X (by decide +kernel : decode cX8_count 0 = .ok (.iload_n 1, 1)) rfl ?_
    refine as_sw X (td := 94) (by decide +kernel : decode cX8_count 1 = .ok (.tableswitch 93 0 6 #[43, 51, 59, 67, 72, 80, 85], 43)) (by decide) rfl (by decide) ?_ ?_
    · refine as_iconst X (by decide +kernel : decode cX8_count 94 = .ok (.iconst (-1), 1)) rfl ?_
      exact as_ri X hQ hr (by decide +kernel : decode cX8_count 95 = .ok (.ireturn, 1))
    · intro i off K h1 h2
      match i, h1, h2 with
      | 0, h1, h2 =>
        obtain rfl := Option.some.inj h1
        obtain rfl := Option.some.inj h2
        refine ⟨44, by decide, ?_⟩
        refine as_aload_n X (by decide +kernel : decode cX8_count 44 = .ok (.aload_n 0, 1)) rfl ?_
        refine as_get X fc_X8 (by decide +kernel : decode cX8_count 45 = .ok (.getfield 19, 3)) (by decide) fl_X8_19 ?_
        refine as_get X fc_X0 (by decide +kernel : decode cX8_count 48 = .ok (.getfield 110, 3)) (by decide) fl_X8_110 ?_
        exact as_ri X hQ hr (by decide +kernel : decode cX8_count 51 = .ok (.ireturn, 1))
      | 1, h1, h2 =>
        obtain rfl := Option.some.inj h1
        obtain rfl := Option.some.inj h2
        refine ⟨52, by decide, ?_⟩
        refine as_aload_n X (by decide +kernel : decode cX8_count 52 = .ok (.aload_n 0, 1)) rfl ?_
        refine as_get X fc_X8 (by decide +kernel : decode cX8_count 53 = .ok (.getfield 26, 3)) (by decide) fl_X8_26 ?_
        refine as_get X fc_X1 (by decide +kernel : decode cX8_count 56 = .ok (.getfield 113, 3)) (by decide) fl_X8_113 ?_
        exact as_ri X hQ hr (by decide +kernel : decode cX8_count 59 = .ok (.ireturn, 1))
      | 2, h1, h2 =>
        obtain rfl := Option.some.inj h1
        obtain rfl := Option.some.inj h2
        refine ⟨60, by decide, ?_⟩
        refine as_aload_n X (by decide +kernel : decode cX8_count 60 = .ok (.aload_n 0, 1)) rfl ?_
        refine as_get X fc_X8 (by decide +kernel : decode cX8_count 61 = .ok (.getfield 87, 3)) (by decide) fl_X8_87 ?_
        refine as_cs X h_X2_size (by decide +kernel : decode cX8_count 64 = .ok (.invokestatic 128, 3)) dn_X2_size ml_X8_128 st_X2_size ini_X2 co_X2_size R_X2_size ?_
        exact as_ri X hQ hr (by decide +kernel : decode cX8_count 67 = .ok (.ireturn, 1))
      | 3, h1, h2 =>
        obtain rfl := Option.some.inj h1
        obtain rfl := Option.some.inj h2
        refine ⟨68, by decide, ?_⟩
        refine as_aload_n X (by decide +kernel : decode cX8_count 68 = .ok (.aload_n 0, 1)) rfl ?_
        refine as_cv X h_X8_offers rfl (by decide +kernel : decode cX8_count 69 = .ok (.invokevirtual 199, 3)) dn_X8_offers ml_X8_199 im_X8_offers se_X8_offers ini_X8 co_X8_offers R_X8_offers ?_
        exact as_ri X hQ hr (by decide +kernel : decode cX8_count 72 = .ok (.ireturn, 1))
      | 4, h1, h2 =>
        obtain rfl := Option.some.inj h1
        obtain rfl := Option.some.inj h2
        refine ⟨73, by decide, ?_⟩
        refine as_aload_n X (by decide +kernel : decode cX8_count 73 = .ok (.aload_n 0, 1)) rfl ?_
        refine as_get X fc_X8 (by decide +kernel : decode cX8_count 74 = .ok (.getfield 10, 3)) (by decide) fl_X8_10 ?_
        refine as_get X fc_X7 (by decide +kernel : decode cX8_count 77 = .ok (.getfield 79, 3)) (by decide) fl_X8_79 ?_
        exact as_ri X hQ hr (by decide +kernel : decode cX8_count 80 = .ok (.ireturn, 1))
      | 5, h1, h2 =>
        obtain rfl := Option.some.inj h1
        obtain rfl := Option.some.inj h2
        refine ⟨81, by decide, ?_⟩
        refine as_aload_n X (by decide +kernel : decode cX8_count 81 = .ok (.aload_n 0, 1)) rfl ?_
        refine as_cv X h_X8_neededEntries rfl (by decide +kernel : decode cX8_count 82 = .ok (.invokevirtual 218, 3)) dn_X8_neededEntries ml_X8_218 im_X8_neededEntries se_X8_neededEntries ini_X8 co_X8_neededEntries R_X8_neededEntries ?_
        exact as_ri X hQ hr (by decide +kernel : decode cX8_count 85 = .ok (.ireturn, 1))
      | 6, h1, h2 =>
        obtain rfl := Option.some.inj h1
        obtain rfl := Option.some.inj h2
        refine ⟨86, by decide, ?_⟩
        refine as_aload_n X (by decide +kernel : decode cX8_count 86 = .ok (.aload_n 0, 1)) rfl ?_
        refine as_get X fc_X8 (by decide +kernel : decode cX8_count 87 = .ok (.getfield 19, 3)) (by decide) fl_X8_19 ?_
        refine as_cv X h_X0_stands rfl (by decide +kernel : decode cX8_count 90 = .ok (.invokevirtual 221, 3)) dn_X0_stands ml_X8_221 im_X0_stands se_X0_stands ini_X0 co_X0_stands R_X0_stands ?_
        exact as_ri X hQ hr (by decide +kernel : decode cX8_count 93 = .ok (.ireturn, 1))
      | i + 7, h1, h2 => exact absurd h2 (by simp)

def B_X8_adopt_0 (kX5_renew : am_T) (Q : am_Q) (G : Nat → am_K) : am_K := (ak_al 0 (ak_ll 1 (ak_putl 6 6 (ak_al 0 (ak_get 6 4 (ak_ll 1 (ak_cv 2 3 kX5_renew (ak_rv Q))))))))
def cl_X8_adopt (kX5_renew : am_T) (Q : am_Q) (G : Nat → am_K) : Prop := am_N G 0 (B_X8_adopt_0 kX5_renew Q G)
def WP_X8_adopt (kX5_renew : am_T) : am_T := fun av h Q => (lg_sl av).length ≤ 3 ∧ ∀ G, cl_X8_adopt kX5_renew Q G → G 0 (am_ent 3 av) [] h
set_option maxHeartbeats 4000000 in
set_option maxRecDepth 100000 in
theorem s_X8_adopt {mX5_renew : Room} {kX5_renew : am_T} (h_X5_renew : am_S false yX5_renew (am_ws yX5_renew cX5_renew 3 none) mX5_renew kX5_renew) {rm : Room} (hz : rm.cells = 0 ∧ rm.slots = 0) (R_X5_renew : mX5_renew.frames + 1 ≤ rm.frames ∧ 8 + (3 + 11) + mX5_renew.locals ≤ rm.locals) : am_S false yX8_adopt (am_ws yX8_adopt cX8_adopt 3 none) rm (WP_X8_adopt kX5_renew) := by
  refine am_S.of (fun _ => hz) (by decide +kernel) (fun h0 Q G => cl_X8_adopt kX5_renew Q G) ?_
  intro p l e s m args below meth c D h0 Q X hr hnm hQ
  show am_N _ 0 (B_X8_adopt_0  kX5_renew Q _)
  · unfold B_X8_adopt_0
    refine as_aload_n X (by decide +kernel : decode cX8_adopt 0 = .ok (.aload_n 0, 1)) rfl ?_
    refine as_lload_n X (by decide +kernel : decode cX8_adopt 1 = .ok (.lload_n 1, 1)) rfl ?_
    refine as_putl X fc_X8 (by decide +kernel : decode cX8_adopt 2 = .ok (.putfield 87, 3)) (by decide) fl_X8_87 (Or.inl rfl) rfl ?_
    refine as_aload_n X (by decide +kernel : decode cX8_adopt 5 = .ok (.aload_n 0, 1)) rfl ?_
    refine as_get X fc_X8 (by decide +kernel : decode cX8_adopt 6 = .ok (.getfield 47, 3)) (by decide) fl_X8_47 ?_
    refine as_lload_n X (by decide +kernel : decode cX8_adopt 9 = .ok (.lload_n 1, 1)) rfl ?_
    refine as_cv X h_X5_renew rfl (by decide +kernel : decode cX8_adopt 10 = .ok (.invokevirtual 91, 3)) dn_X5_renew ml_X8_91 im_X5_renew se_X5_renew ini_X5 co_X5_renew R_X5_renew ?_
    exact as_rv X hQ hr (by decide +kernel : decode cX8_adopt 13 = .ok (.return_, 1))

def B_X8_inRange_0 (kX2_size : am_T) (Q : am_Q) (G : Nat → am_K) : am_K := (ak_il 1 (ak_if (fun x => x < 0) (G 46) (ak_il 1 (ak_il 2 (ak_ic (fun x y => y ≤ x) (G 46) (ak_il 2 (ak_al 0 (ak_get 6 2 (ak_get 1 3 (ak_ic (fun x y => y < x) (G 46) (ak_il 3 (ak_if (fun x => x < 0) (G 46) (ak_il 3 (ak_il 4 (ak_ic (fun x y => y ≤ x) (G 46) (ak_il 4 (ak_al 0 (ak_get 6 6 (ak_cs 1 kX2_size (ak_ic (fun x y => y < x) (G 46) (ak_c (.int 1) (G 47))))))))))))))))))))))
def B_X8_inRange_46 (kX2_size : am_T) (Q : am_Q) (G : Nat → am_K) : am_K := (ak_c (.int 0) (G 47))
def B_X8_inRange_47 (kX2_size : am_T) (Q : am_Q) (G : Nat → am_K) : am_K := (ak_rz Q)
def cl_X8_inRange (kX2_size : am_T) (Q : am_Q) (G : Nat → am_K) : Prop := am_N G 0 (B_X8_inRange_0 kX2_size Q G) ∧ am_N G 46 (B_X8_inRange_46 kX2_size Q G) ∧ am_N G 47 (B_X8_inRange_47 kX2_size Q G)
def WP_X8_inRange (kX2_size : am_T) : am_T := fun av h Q => (lg_sl av).length ≤ 5 ∧ ∀ G, cl_X8_inRange kX2_size Q G → G 0 (am_ent 5 av) [] h
set_option maxHeartbeats 4000000 in
set_option maxRecDepth 100000 in
theorem s_X8_inRange {mX2_size : Room} {kX2_size : am_T} (h_X2_size : am_S false yX2_size (am_ws yX2_size cX2_size 3 (some .int)) mX2_size kX2_size) {rm : Room} (hz : rm.cells = 0 ∧ rm.slots = 0) (R_X2_size : mX2_size.frames + 1 ≤ rm.frames ∧ 8 + (3 + 11) + mX2_size.locals ≤ rm.locals) : am_S false yX8_inRange (am_ws yX8_inRange cX8_inRange 5 (some .boolean)) rm (WP_X8_inRange kX2_size) := by
  refine am_S.of (fun _ => hz) (by decide +kernel) (fun h0 Q G => cl_X8_inRange kX2_size Q G) ?_
  intro p l e s m args below meth c D h0 Q X hr hnm hQ
  refine ⟨?_, ?_, ?_⟩
  · unfold B_X8_inRange_0
    refine as_iload_n X (by decide +kernel : decode cX8_inRange 0 = .ok (.iload_n 1, 1)) rfl ?_
    refine as_if_lt X (tgt := 46) (by decide +kernel : decode cX8_inRange 1 = .ok (.ifCond .lt 45, 3)) (by decide) ?_ ?_
    · exact fun _ _ _ h => h
    · refine as_iload_n X (by decide +kernel : decode cX8_inRange 4 = .ok (.iload_n 1, 1)) rfl ?_
      refine as_iload_n X (by decide +kernel : decode cX8_inRange 5 = .ok (.iload_n 2, 1)) rfl ?_
      refine as_ic_ge X (tgt := 46) (by decide +kernel : decode cX8_inRange 6 = .ok (.if_icmp .ge 40, 3)) (by decide) ?_ ?_
      · exact fun _ _ _ h => h
      · refine as_iload_n X (by decide +kernel : decode cX8_inRange 9 = .ok (.iload_n 2, 1)) rfl ?_
        refine as_aload_n X (by decide +kernel : decode cX8_inRange 10 = .ok (.aload_n 0, 1)) rfl ?_
        refine as_get X fc_X8 (by decide +kernel : decode cX8_inRange 11 = .ok (.getfield 26, 3)) (by decide) fl_X8_26 ?_
        refine as_get X fc_X1 (by decide +kernel : decode cX8_inRange 14 = .ok (.getfield 113, 3)) (by decide) fl_X8_113 ?_
        refine as_ic_gt X (tgt := 46) (by decide +kernel : decode cX8_inRange 17 = .ok (.if_icmp .gt 29, 3)) (by decide) ?_ ?_
        · exact fun _ _ _ h => h
        · refine as_iload_n X (by decide +kernel : decode cX8_inRange 20 = .ok (.iload_n 3, 1)) rfl ?_
          refine as_if_lt X (tgt := 46) (by decide +kernel : decode cX8_inRange 21 = .ok (.ifCond .lt 25, 3)) (by decide) ?_ ?_
          · exact fun _ _ _ h => h
          · refine as_iload_n X (by decide +kernel : decode cX8_inRange 24 = .ok (.iload_n 3, 1)) rfl ?_
            refine as_iload X (by decide +kernel : decode cX8_inRange 25 = .ok (.iload 4, 2)) ?_
            refine as_ic_ge X (tgt := 46) (by decide +kernel : decode cX8_inRange 27 = .ok (.if_icmp .ge 19, 3)) (by decide) ?_ ?_
            · exact fun _ _ _ h => h
            · refine as_iload X (by decide +kernel : decode cX8_inRange 30 = .ok (.iload 4, 2)) ?_
              refine as_aload_n X (by decide +kernel : decode cX8_inRange 32 = .ok (.aload_n 0, 1)) rfl ?_
              refine as_get X fc_X8 (by decide +kernel : decode cX8_inRange 33 = .ok (.getfield 87, 3)) (by decide) fl_X8_87 ?_
              refine as_cs X h_X2_size (by decide +kernel : decode cX8_inRange 36 = .ok (.invokestatic 128, 3)) dn_X2_size ml_X8_128 st_X2_size ini_X2 co_X2_size R_X2_size ?_
              refine as_ic_gt X (tgt := 46) (by decide +kernel : decode cX8_inRange 39 = .ok (.if_icmp .gt 7, 3)) (by decide) ?_ ?_
              · exact fun _ _ _ h => h
              · refine as_iconst X (by decide +kernel : decode cX8_inRange 42 = .ok (.iconst 1, 1)) rfl ?_
                refine as_goto X (tgt := 47) (by decide +kernel : decode cX8_inRange 43 = .ok (.goto 4, 3)) (by decide) ?_
                exact fun _ _ _ h => h
  · unfold B_X8_inRange_46
    refine as_iconst X (by decide +kernel : decode cX8_inRange 46 = .ok (.iconst 0, 1)) rfl ?_
    exact fun _ _ _ h => h
  · unfold B_X8_inRange_47
    exact as_rz X hQ hr (by decide +kernel : decode cX8_inRange 47 = .ok (.ireturn, 1))

def B_X8_limited_0 (Q : am_Q) (G : Nat → am_K) : am_K := (ak_ll 0 (ak_c (.long 1000000) (ak_mn (ak_l2i (ak_ri Q)))))
def cl_X8_limited (Q : am_Q) (G : Nat → am_K) : Prop := am_N G 0 (B_X8_limited_0 Q G)
def WP_X8_limited : am_T := fun av h Q => (lg_sl av).length ≤ 2 ∧ ∀ G, cl_X8_limited Q G → G 0 (am_ent 2 av) [] h
set_option maxHeartbeats 4000000 in
set_option maxRecDepth 100000 in
theorem s_X8_limited {rm : Room} (hz : rm.cells = 0 ∧ rm.slots = 0) (hMn : 1 ≤ rm.frames ∧ 23 ≤ rm.locals) : am_S false yX8_limited (am_ws yX8_limited cX8_limited 2 (some .int)) rm (WP_X8_limited) := by
  refine am_S.of (fun _ => hz) (by decide +kernel) (fun h0 Q G => cl_X8_limited Q G) ?_
  intro p l e s m args below meth c D h0 Q X hr hnm hQ
  show am_N _ 0 (B_X8_limited_0  Q _)
  · unfold B_X8_limited_0
    refine as_lload_n X (by decide +kernel : decode cX8_limited 0 = .ok (.lload_n 0, 1)) rfl ?_
    refine as_ldc2 X (by decide +kernel : decode cX8_limited 1 = .ok (.ldc2_w 224, 3)) kl_X8_224 ?_
    refine as_mn X (by decide +kernel : decode cX8_limited 4 = .ok (.invokestatic 226, 3)) ml_X8_226 st_min ini_Math co_min hMn ?_
    refine as_l2i X (by decide +kernel : decode cX8_limited 7 = .ok (.l2i, 1)) ?_
    exact as_ri X hQ hr (by decide +kernel : decode cX8_limited 8 = .ok (.ireturn, 1))

def B_X8_letterOrNone_0 (kX2_size : am_T) (kX2_at : am_T) (Q : am_Q) (G : Nat → am_K) : am_K := (ak_il 2 (ak_ll 0 (ak_cs 1 kX2_size (ak_ic (fun x y => y ≤ x) (ak_c (.int (-4)) (G 18)) (ak_ll 0 (ak_il 2 (ak_cs 2 kX2_at (G 18))))))))
def B_X8_letterOrNone_18 (kX2_size : am_T) (kX2_at : am_T) (Q : am_Q) (G : Nat → am_K) : am_K := (ak_ri Q)
def cl_X8_letterOrNone (kX2_size : am_T) (kX2_at : am_T) (Q : am_Q) (G : Nat → am_K) : Prop := am_N G 0 (B_X8_letterOrNone_0 kX2_size kX2_at Q G) ∧ am_N G 18 (B_X8_letterOrNone_18 kX2_size kX2_at Q G)
def WP_X8_letterOrNone (kX2_size : am_T) (kX2_at : am_T) : am_T := fun av h Q => (lg_sl av).length ≤ 3 ∧ ∀ G, cl_X8_letterOrNone kX2_size kX2_at Q G → G 0 (am_ent 3 av) [] h
set_option maxHeartbeats 4000000 in
set_option maxRecDepth 100000 in
theorem s_X8_letterOrNone {mX2_size : Room} {kX2_size : am_T} (h_X2_size : am_S false yX2_size (am_ws yX2_size cX2_size 3 (some .int)) mX2_size kX2_size) {mX2_at : Room} {kX2_at : am_T} (h_X2_at : am_S false yX2_at (am_ws yX2_at cX2_at 3 (some .int)) mX2_at kX2_at) {rm : Room} (hz : rm.cells = 0 ∧ rm.slots = 0) (R_X2_size : mX2_size.frames + 1 ≤ rm.frames ∧ 8 + (3 + 11) + mX2_size.locals ≤ rm.locals) (R_X2_at : mX2_at.frames + 1 ≤ rm.frames ∧ 8 + (3 + 11) + mX2_at.locals ≤ rm.locals) : am_S false yX8_letterOrNone (am_ws yX8_letterOrNone cX8_letterOrNone 3 (some .int)) rm (WP_X8_letterOrNone kX2_size kX2_at) := by
  refine am_S.of (fun _ => hz) (by decide +kernel) (fun h0 Q G => cl_X8_letterOrNone kX2_size kX2_at Q G) ?_
  intro p l e s m args below meth c D h0 Q X hr hnm hQ
  refine ⟨?_, ?_⟩
  · unfold B_X8_letterOrNone_0
    refine as_iload_n X (by decide +kernel : decode cX8_letterOrNone 0 = .ok (.iload_n 2, 1)) rfl ?_
    refine as_lload_n X (by decide +kernel : decode cX8_letterOrNone 1 = .ok (.lload_n 0, 1)) rfl ?_
    refine as_cs X h_X2_size (by decide +kernel : decode cX8_letterOrNone 2 = .ok (.invokestatic 128, 3)) dn_X2_size ml_X8_128 st_X2_size ini_X2 co_X2_size R_X2_size ?_
    refine as_ic_ge X (tgt := 16) (by decide +kernel : decode cX8_letterOrNone 5 = .ok (.if_icmp .ge 11, 3)) (by decide) ?_ ?_
    · refine as_bipush X (by decide +kernel : decode cX8_letterOrNone 16 = .ok (.bipush (-4), 2)) rfl ?_
      exact fun _ _ _ h => h
    · refine as_lload_n X (by decide +kernel : decode cX8_letterOrNone 8 = .ok (.lload_n 0, 1)) rfl ?_
      refine as_iload_n X (by decide +kernel : decode cX8_letterOrNone 9 = .ok (.iload_n 2, 1)) rfl ?_
      refine as_cs X h_X2_at (by decide +kernel : decode cX8_letterOrNone 10 = .ok (.invokestatic 232, 3)) dn_X2_at ml_X8_232 st_X2_at ini_X2 co_X2_at R_X2_at ?_
      refine as_goto X (tgt := 18) (by decide +kernel : decode cX8_letterOrNone 13 = .ok (.goto 5, 3)) (by decide) ?_
      exact fun _ _ _ h => h
  · unfold B_X8_letterOrNone_18
    exact as_ri X hQ hr (by decide +kernel : decode cX8_letterOrNone 18 = .ok (.ireturn, 1))

def B_X8_sortOf_0 (kJ0_length_8abf5 : am_T) (kJ0_charAt_5068e : am_T) (Q : am_Q) (G : Nat → am_K) : am_K := (ak_c (.int 0) (ak_is 1 (G 2)))
def B_X8_sortOf_2 (kJ0_length_8abf5 : am_T) (kJ0_charAt_5068e : am_T) (Q : am_Q) (G : Nat → am_K) : am_K := (ak_il 1 (ak_c (.ref 1004) (ak_ct 1 kJ0_length_8abf5 (ak_ic (fun x y => y ≤ x) (ak_c (.int (-4)) (ak_ri Q)) (ak_c (.ref 1004) (ak_il 1 (ak_ct 2 kJ0_charAt_5068e (ak_il 0 (ak_ic (fun x y => x = y) (ak_il 1 (ak_c (.int 2) (ak_ib (fun x y => x + y) (ak_ri Q)))) (ak_ii 1 1 (G 2)))))))))))
def cl_X8_sortOf (kJ0_length_8abf5 : am_T) (kJ0_charAt_5068e : am_T) (Q : am_Q) (G : Nat → am_K) : Prop := am_N G 0 (B_X8_sortOf_0 kJ0_length_8abf5 kJ0_charAt_5068e Q G) ∧ am_N G 2 (B_X8_sortOf_2 kJ0_length_8abf5 kJ0_charAt_5068e Q G)
def WP_X8_sortOf (kJ0_length_8abf5 : am_T) (kJ0_charAt_5068e : am_T) : am_T := fun av h Q => (lg_sl av).length ≤ 2 ∧ ∀ G, cl_X8_sortOf kJ0_length_8abf5 kJ0_charAt_5068e Q G → G 0 (am_ent 2 av) [] h
set_option maxHeartbeats 4000000 in
set_option maxRecDepth 100000 in
theorem s_X8_sortOf {mJ0_length_8abf5 : Room} {kJ0_length_8abf5 : am_T} (h_J0_length_8abf5 : am_S false yJ0_length_8abf5 (am_ws yJ0_length_8abf5 cJ0_length_8abf5 1 (some .int)) mJ0_length_8abf5 kJ0_length_8abf5) {mJ0_charAt_5068e : Room} {kJ0_charAt_5068e : am_T} (h_J0_charAt_5068e : am_S false yJ0_charAt_5068e (am_ws yJ0_charAt_5068e cJ0_charAt_5068e 2 (some .char)) mJ0_charAt_5068e kJ0_charAt_5068e) {rm : Room} (hz : rm.cells = 0 ∧ rm.slots = 0) (R_J0_length_8abf5 : mJ0_length_8abf5.frames + 1 ≤ rm.frames ∧ 8 + (1 + 11) + mJ0_length_8abf5.locals ≤ rm.locals) (R_J0_charAt_5068e : mJ0_charAt_5068e.frames + 1 ≤ rm.frames ∧ 8 + (2 + 11) + mJ0_charAt_5068e.locals ≤ rm.locals) : am_S false yX8_sortOf (am_ws yX8_sortOf cX8_sortOf 2 (some .int)) rm (WP_X8_sortOf kJ0_length_8abf5 kJ0_charAt_5068e) := by
  refine am_S.of (fun _ => hz) (by decide +kernel) (fun h0 Q G => cl_X8_sortOf kJ0_length_8abf5 kJ0_charAt_5068e Q G) ?_
  intro p l e s m args below meth c D h0 Q X hr hnm hQ
  refine ⟨?_, ?_⟩
  · unfold B_X8_sortOf_0
    refine as_iconst X (by decide +kernel : decode cX8_sortOf 0 = .ok (.iconst 0, 1)) rfl ?_
    refine as_istore_n X (by decide +kernel : decode cX8_sortOf 1 = .ok (.istore_n 1, 1)) rfl ?_
    exact fun _ _ _ h => h
  · unfold B_X8_sortOf_2
    refine as_iload_n X (by decide +kernel : decode cX8_sortOf 2 = .ok (.iload_n 1, 1)) rfl ?_
    refine as_ldcs (i := 4) X (by decide +kernel : decode cX8_sortOf 3 = .ok (.ldc 235, 2)) rfl rfl (by decide) ?_
    refine as_ct X h_J0_length_8abf5 rfl (by decide +kernel : decode cX8_sortOf 5 = .ok (.invokevirtual 237, 3)) dn_J0_length_8abf5 ml_X8_237 im_J0_length_8abf5 se_J0_length_8abf5 ini_J0 co_J0_length_8abf5 R_J0_length_8abf5 ?_
    refine as_ic_ge X (tgt := 31) (by decide +kernel : decode cX8_sortOf 8 = .ok (.if_icmp .ge 23, 3)) (by decide) ?_ ?_
    · refine as_bipush X (by decide +kernel : decode cX8_sortOf 31 = .ok (.bipush (-4), 2)) rfl ?_
      exact as_ri X hQ hr (by decide +kernel : decode cX8_sortOf 33 = .ok (.ireturn, 1))
    · refine as_ldcs (i := 4) X (by decide +kernel : decode cX8_sortOf 11 = .ok (.ldc 235, 2)) rfl rfl (by decide) ?_
      refine as_iload_n X (by decide +kernel : decode cX8_sortOf 13 = .ok (.iload_n 1, 1)) rfl ?_
      refine as_ct X h_J0_charAt_5068e rfl (by decide +kernel : decode cX8_sortOf 14 = .ok (.invokevirtual 241, 3)) dn_J0_charAt_5068e ml_X8_241 im_J0_charAt_5068e se_J0_charAt_5068e ini_J0 co_J0_charAt_5068e R_J0_charAt_5068e ?_
      refine as_iload_n X (by decide +kernel : decode cX8_sortOf 17 = .ok (.iload_n 0, 1)) rfl ?_
      refine as_ic_ne X (tgt := 25) (by decide +kernel : decode cX8_sortOf 18 = .ok (.if_icmp .ne 7, 3)) (by decide) ?_ ?_
      · refine as_iload_n X (by decide +kernel : decode cX8_sortOf 21 = .ok (.iload_n 1, 1)) rfl ?_
        refine as_iconst X (by decide +kernel : decode cX8_sortOf 22 = .ok (.iconst 2, 1)) rfl ?_
        refine as_iadd X (by decide +kernel : decode cX8_sortOf 23 = .ok (.iadd, 1)) ?_
        exact as_ri X hQ hr (by decide +kernel : decode cX8_sortOf 24 = .ok (.ireturn, 1))
      · refine as_iinc X (by decide +kernel : decode cX8_sortOf 25 = .ok (.iinc 1 1, 3)) rfl ?_
        refine as_goto X (tgt := 2) (by decide +kernel : decode cX8_sortOf 28 = .ok (.goto (-26), 3)) (by decide) ?_
        exact fun _ _ _ h => h

def B_X8_signOf_0 (kJ0_length_8abf5 : am_T) (kJ0_charAt_5068e : am_T) (Q : am_Q) (G : Nat → am_K) : am_K := (ak_il 0 (ak_c (.int 2) (ak_ib (fun x y => x - y) (ak_is 1 (ak_il 1 (ak_if (fun x => x < 0) (G 26) (ak_il 1 (ak_c (.ref 1004) (ak_ct 1 kJ0_length_8abf5 (ak_ic (fun x y => y ≤ x) (G 26) (ak_c (.ref 1004) (ak_il 1 (ak_ct 2 kJ0_charAt_5068e (G 28))))))))))))))
def B_X8_signOf_26 (kJ0_length_8abf5 : am_T) (kJ0_charAt_5068e : am_T) (Q : am_Q) (G : Nat → am_K) : am_K := (ak_c (.int (-4)) (G 28))
def B_X8_signOf_28 (kJ0_length_8abf5 : am_T) (kJ0_charAt_5068e : am_T) (Q : am_Q) (G : Nat → am_K) : am_K := (ak_ri Q)
def cl_X8_signOf (kJ0_length_8abf5 : am_T) (kJ0_charAt_5068e : am_T) (Q : am_Q) (G : Nat → am_K) : Prop := am_N G 0 (B_X8_signOf_0 kJ0_length_8abf5 kJ0_charAt_5068e Q G) ∧ am_N G 26 (B_X8_signOf_26 kJ0_length_8abf5 kJ0_charAt_5068e Q G) ∧ am_N G 28 (B_X8_signOf_28 kJ0_length_8abf5 kJ0_charAt_5068e Q G)
def WP_X8_signOf (kJ0_length_8abf5 : am_T) (kJ0_charAt_5068e : am_T) : am_T := fun av h Q => (lg_sl av).length ≤ 2 ∧ ∀ G, cl_X8_signOf kJ0_length_8abf5 kJ0_charAt_5068e Q G → G 0 (am_ent 2 av) [] h
set_option maxHeartbeats 4000000 in
set_option maxRecDepth 100000 in
theorem s_X8_signOf {mJ0_length_8abf5 : Room} {kJ0_length_8abf5 : am_T} (h_J0_length_8abf5 : am_S false yJ0_length_8abf5 (am_ws yJ0_length_8abf5 cJ0_length_8abf5 1 (some .int)) mJ0_length_8abf5 kJ0_length_8abf5) {mJ0_charAt_5068e : Room} {kJ0_charAt_5068e : am_T} (h_J0_charAt_5068e : am_S false yJ0_charAt_5068e (am_ws yJ0_charAt_5068e cJ0_charAt_5068e 2 (some .char)) mJ0_charAt_5068e kJ0_charAt_5068e) {rm : Room} (hz : rm.cells = 0 ∧ rm.slots = 0) (R_J0_length_8abf5 : mJ0_length_8abf5.frames + 1 ≤ rm.frames ∧ 8 + (1 + 11) + mJ0_length_8abf5.locals ≤ rm.locals) (R_J0_charAt_5068e : mJ0_charAt_5068e.frames + 1 ≤ rm.frames ∧ 8 + (2 + 11) + mJ0_charAt_5068e.locals ≤ rm.locals) : am_S false yX8_signOf (am_ws yX8_signOf cX8_signOf 2 (some .int)) rm (WP_X8_signOf kJ0_length_8abf5 kJ0_charAt_5068e) := by
  refine am_S.of (fun _ => hz) (by decide +kernel) (fun h0 Q G => cl_X8_signOf kJ0_length_8abf5 kJ0_charAt_5068e Q G) ?_
  intro p l e s m args below meth c D h0 Q X hr hnm hQ
  refine ⟨?_, ?_, ?_⟩
  · unfold B_X8_signOf_0
    refine as_iload_n X (by decide +kernel : decode cX8_signOf 0 = .ok (.iload_n 0, 1)) rfl ?_
    refine as_iconst X (by decide +kernel : decode cX8_signOf 1 = .ok (.iconst 2, 1)) rfl ?_
    refine as_isub X (by decide +kernel : decode cX8_signOf 2 = .ok (.isub, 1)) ?_
    refine as_istore_n X (by decide +kernel : decode cX8_signOf 3 = .ok (.istore_n 1, 1)) rfl ?_
    refine as_iload_n X (by decide +kernel : decode cX8_signOf 4 = .ok (.iload_n 1, 1)) rfl ?_
    refine as_if_lt X (tgt := 26) (by decide +kernel : decode cX8_signOf 5 = .ok (.ifCond .lt 21, 3)) (by decide) ?_ ?_
    · exact fun _ _ _ h => h
    · refine as_iload_n X (by decide +kernel : decode cX8_signOf 8 = .ok (.iload_n 1, 1)) rfl ?_
      refine as_ldcs (i := 4) X (by decide +kernel : decode cX8_signOf 9 = .ok (.ldc 235, 2)) rfl rfl (by decide) ?_
      refine as_ct X h_J0_length_8abf5 rfl (by decide +kernel : decode cX8_signOf 11 = .ok (.invokevirtual 237, 3)) dn_J0_length_8abf5 ml_X8_237 im_J0_length_8abf5 se_J0_length_8abf5 ini_J0 co_J0_length_8abf5 R_J0_length_8abf5 ?_
      refine as_ic_ge X (tgt := 26) (by decide +kernel : decode cX8_signOf 14 = .ok (.if_icmp .ge 12, 3)) (by decide) ?_ ?_
      · exact fun _ _ _ h => h
      · refine as_ldcs (i := 4) X (by decide +kernel : decode cX8_signOf 17 = .ok (.ldc 235, 2)) rfl rfl (by decide) ?_
        refine as_iload_n X (by decide +kernel : decode cX8_signOf 19 = .ok (.iload_n 1, 1)) rfl ?_
        refine as_ct X h_J0_charAt_5068e rfl (by decide +kernel : decode cX8_signOf 20 = .ok (.invokevirtual 241, 3)) dn_J0_charAt_5068e ml_X8_241 im_J0_charAt_5068e se_J0_charAt_5068e ini_J0 co_J0_charAt_5068e R_J0_charAt_5068e ?_
        refine as_goto X (tgt := 28) (by decide +kernel : decode cX8_signOf 23 = .ok (.goto 5, 3)) (by decide) ?_
        exact fun _ _ _ h => h
  · unfold B_X8_signOf_26
    refine as_bipush X (by decide +kernel : decode cX8_signOf 26 = .ok (.bipush (-4), 2)) rfl ?_
    exact fun _ _ _ h => h
  · unfold B_X8_signOf_28
    exact as_ri X hQ hr (by decide +kernel : decode cX8_signOf 28 = .ok (.ireturn, 1))

def B_X8_stretch_0 (Q : am_Q) (G : Nat → am_K) : am_K := (ak_c (.int 1) (ak_il 1 (ak_ib (fun x y => x <<< (y &&& 31)) (ak_c (.int 1) (ak_il 0 (ak_ib (fun x y => x <<< (y &&& 31)) (ak_ib (fun x y => x - y) (ak_ri Q))))))))
def cl_X8_stretch (Q : am_Q) (G : Nat → am_K) : Prop := am_N G 0 (B_X8_stretch_0 Q G)
def WP_X8_stretch : am_T := fun av h Q => (lg_sl av).length ≤ 2 ∧ ∀ G, cl_X8_stretch Q G → G 0 (am_ent 2 av) [] h
set_option maxHeartbeats 4000000 in
set_option maxRecDepth 100000 in
theorem s_X8_stretch {rm : Room} (hz : rm.cells = 0 ∧ rm.slots = 0) : am_S false yX8_stretch (am_ws yX8_stretch cX8_stretch 2 (some .int)) rm (WP_X8_stretch) := by
  refine am_S.of (fun _ => hz) (by decide +kernel) (fun h0 Q G => cl_X8_stretch Q G) ?_
  intro p l e s m args below meth c D h0 Q X hr hnm hQ
  show am_N _ 0 (B_X8_stretch_0  Q _)
  · unfold B_X8_stretch_0
    refine as_iconst X (by decide +kernel : decode cX8_stretch 0 = .ok (.iconst 1, 1)) rfl ?_
    refine as_iload_n X (by decide +kernel : decode cX8_stretch 1 = .ok (.iload_n 1, 1)) rfl ?_
    refine as_ishl X (by decide +kernel : decode cX8_stretch 2 = .ok (.ishl, 1)) ?_
    refine as_iconst X (by decide +kernel : decode cX8_stretch 3 = .ok (.iconst 1, 1)) rfl ?_
    refine as_iload_n X (by decide +kernel : decode cX8_stretch 4 = .ok (.iload_n 0, 1)) rfl ?_
    refine as_ishl X (by decide +kernel : decode cX8_stretch 5 = .ok (.ishl, 1)) ?_
    refine as_isub X (by decide +kernel : decode cX8_stretch 6 = .ok (.isub, 1)) ?_
    exact as_ri X hQ hr (by decide +kernel : decode cX8_stretch 7 = .ok (.ireturn, 1))

def B_X8_isOffer_0 (kX2_size : am_T) (kX8_mayDefine : am_T) (Q : am_Q) (G : Nat → am_K) : am_K := (ak_al 0 (ak_get 6 1 (ak_get 0 1 (ak_il 1 (ak_lald (ak_ls 2 (ak_ll 2 (ak_cs 1 kX2_size (ak_c (.int 2) (ak_ic (fun x y => x < y) (G 26) (ak_al 0 (ak_il 1 (ak_cv 2 6 kX8_mayDefine (ak_if (fun x => x = 0) (G 26) (ak_c (.int 0) (ak_is 4 (G 31)))))))))))))))))
def B_X8_isOffer_26 (kX2_size : am_T) (kX8_mayDefine : am_T) (Q : am_Q) (G : Nat → am_K) : am_K := (ak_c (.int 0) (ak_rz Q))
def B_X8_isOffer_31 (kX2_size : am_T) (kX8_mayDefine : am_T) (Q : am_Q) (G : Nat → am_K) : am_K := (ak_il 4 (ak_il 1 (ak_ic (fun x y => y ≤ x) (ak_c (.int 1) (ak_rz Q)) (ak_al 0 (ak_get 6 1 (ak_get 0 1 (ak_il 4 (ak_lald (ak_ll 2 (ak_lc (ak_if (fun x => x = 0) (ak_al 0 (ak_il 4 (ak_cv 2 6 kX8_mayDefine (ak_if (fun x => x = 0) (G 63) (ak_c (.int 0) (ak_rz Q)))))) (G 63))))))))))))
def B_X8_isOffer_63 (kX2_size : am_T) (kX8_mayDefine : am_T) (Q : am_Q) (G : Nat → am_K) : am_K := (ak_ii 4 1 (G 31))
def cl_X8_isOffer (kX2_size : am_T) (kX8_mayDefine : am_T) (Q : am_Q) (G : Nat → am_K) : Prop := am_N G 0 (B_X8_isOffer_0 kX2_size kX8_mayDefine Q G) ∧ am_N G 26 (B_X8_isOffer_26 kX2_size kX8_mayDefine Q G) ∧ am_N G 31 (B_X8_isOffer_31 kX2_size kX8_mayDefine Q G) ∧ am_N G 63 (B_X8_isOffer_63 kX2_size kX8_mayDefine Q G)
def WP_X8_isOffer (kX2_size : am_T) (kX8_mayDefine : am_T) : am_T := fun av h Q => (lg_sl av).length ≤ 5 ∧ ∀ G, cl_X8_isOffer kX2_size kX8_mayDefine Q G → G 0 (am_ent 5 av) [] h
set_option maxHeartbeats 4000000 in
set_option maxRecDepth 100000 in
theorem s_X8_isOffer {mX2_size : Room} {kX2_size : am_T} (h_X2_size : am_S false yX2_size (am_ws yX2_size cX2_size 3 (some .int)) mX2_size kX2_size) {mX8_mayDefine : Room} {kX8_mayDefine : am_T} (h_X8_mayDefine : am_S false yX8_mayDefine (am_ws yX8_mayDefine cX8_mayDefine 2 (some .boolean)) mX8_mayDefine kX8_mayDefine) {rm : Room} (hz : rm.cells = 0 ∧ rm.slots = 0) (R_X2_size : mX2_size.frames + 1 ≤ rm.frames ∧ 8 + (3 + 11) + mX2_size.locals ≤ rm.locals) (R_X8_mayDefine : mX8_mayDefine.frames + 1 ≤ rm.frames ∧ 8 + (2 + 11) + mX8_mayDefine.locals ≤ rm.locals) : am_S false yX8_isOffer (am_ws yX8_isOffer cX8_isOffer 5 (some .boolean)) rm (WP_X8_isOffer kX2_size kX8_mayDefine) := by
  refine am_S.of (fun _ => hz) (by decide +kernel) (fun h0 Q G => cl_X8_isOffer kX2_size kX8_mayDefine Q G) ?_
  intro p l e s m args below meth c D h0 Q X hr hnm hQ
  refine ⟨?_, ?_, ?_, ?_⟩
  · unfold B_X8_isOffer_0
    refine as_aload_n X (by decide +kernel : decode cX8_isOffer 0 = .ok (.aload_n 0, 1)) rfl ?_
    refine as_get X fc_X8 (by decide +kernel : decode cX8_isOffer 1 = .ok (.getfield 19, 3)) (by decide) fl_X8_19 ?_
    refine as_get X fc_X0 (by decide +kernel : decode cX8_isOffer 4 = .ok (.getfield 133, 3)) (by decide) fl_X8_133 ?_
    refine as_iload_n X (by decide +kernel : decode cX8_isOffer 7 = .ok (.iload_n 1, 1)) rfl ?_
    refine as_laload X (by decide +kernel : decode cX8_isOffer 8 = .ok (.laload, 1)) ?_
    refine as_lstore_n X (by decide +kernel : decode cX8_isOffer 9 = .ok (.lstore_n 2, 1)) rfl ?_
    refine as_lload_n X (by decide +kernel : decode cX8_isOffer 10 = .ok (.lload_n 2, 1)) rfl ?_
    refine as_cs X h_X2_size (by decide +kernel : decode cX8_isOffer 11 = .ok (.invokestatic 128, 3)) dn_X2_size ml_X8_128 st_X2_size ini_X2 co_X2_size R_X2_size ?_
    refine as_iconst X (by decide +kernel : decode cX8_isOffer 14 = .ok (.iconst 2, 1)) rfl ?_
    refine as_ic_lt X (tgt := 26) (by decide +kernel : decode cX8_isOffer 15 = .ok (.if_icmp .lt 11, 3)) (by decide) ?_ ?_
    · exact fun _ _ _ h => h
    · refine as_aload_n X (by decide +kernel : decode cX8_isOffer 18 = .ok (.aload_n 0, 1)) rfl ?_
      refine as_iload_n X (by decide +kernel : decode cX8_isOffer 19 = .ok (.iload_n 1, 1)) rfl ?_
      refine as_cv X h_X8_mayDefine rfl (by decide +kernel : decode cX8_isOffer 20 = .ok (.invokevirtual 245, 3)) dn_X8_mayDefine ml_X8_245 im_X8_mayDefine se_X8_mayDefine ini_X8 co_X8_mayDefine R_X8_mayDefine ?_
      refine as_if_ne X (tgt := 28) (by decide +kernel : decode cX8_isOffer 23 = .ok (.ifCond .ne 5, 3)) (by decide) ?_ ?_
      · exact fun _ _ _ h => h
      · refine as_iconst X (by decide +kernel : decode cX8_isOffer 28 = .ok (.iconst 0, 1)) rfl ?_
        refine as_istore X (by decide +kernel : decode cX8_isOffer 29 = .ok (.istore 4, 2)) ?_
        exact fun _ _ _ h => h
  · unfold B_X8_isOffer_26
    refine as_iconst X (by decide +kernel : decode cX8_isOffer 26 = .ok (.iconst 0, 1)) rfl ?_
    exact as_rz X hQ hr (by decide +kernel : decode cX8_isOffer 27 = .ok (.ireturn, 1))
  · unfold B_X8_isOffer_31
    refine as_iload X (by decide +kernel : decode cX8_isOffer 31 = .ok (.iload 4, 2)) ?_
    refine as_iload_n X (by decide +kernel : decode cX8_isOffer 33 = .ok (.iload_n 1, 1)) rfl ?_
    refine as_ic_ge X (tgt := 69) (by decide +kernel : decode cX8_isOffer 34 = .ok (.if_icmp .ge 35, 3)) (by decide) ?_ ?_
    · refine as_iconst X (by decide +kernel : decode cX8_isOffer 69 = .ok (.iconst 1, 1)) rfl ?_
      exact as_rz X hQ hr (by decide +kernel : decode cX8_isOffer 70 = .ok (.ireturn, 1))
    · refine as_aload_n X (by decide +kernel : decode cX8_isOffer 37 = .ok (.aload_n 0, 1)) rfl ?_
      refine as_get X fc_X8 (by decide +kernel : decode cX8_isOffer 38 = .ok (.getfield 19, 3)) (by decide) fl_X8_19 ?_
      refine as_get X fc_X0 (by decide +kernel : decode cX8_isOffer 41 = .ok (.getfield 133, 3)) (by decide) fl_X8_133 ?_
      refine as_iload X (by decide +kernel : decode cX8_isOffer 44 = .ok (.iload 4, 2)) ?_
      refine as_laload X (by decide +kernel : decode cX8_isOffer 46 = .ok (.laload, 1)) ?_
      refine as_lload_n X (by decide +kernel : decode cX8_isOffer 47 = .ok (.lload_n 2, 1)) rfl ?_
      refine as_lcmp X (by decide +kernel : decode cX8_isOffer 48 = .ok (.lcmp, 1)) ?_
      refine as_if_ne X (tgt := 63) (by decide +kernel : decode cX8_isOffer 49 = .ok (.ifCond .ne 14, 3)) (by decide) ?_ ?_
      · refine as_aload_n X (by decide +kernel : decode cX8_isOffer 52 = .ok (.aload_n 0, 1)) rfl ?_
        refine as_iload X (by decide +kernel : decode cX8_isOffer 53 = .ok (.iload 4, 2)) ?_
        refine as_cv X h_X8_mayDefine rfl (by decide +kernel : decode cX8_isOffer 55 = .ok (.invokevirtual 245, 3)) dn_X8_mayDefine ml_X8_245 im_X8_mayDefine se_X8_mayDefine ini_X8 co_X8_mayDefine R_X8_mayDefine ?_
        refine as_if_eq X (tgt := 63) (by decide +kernel : decode cX8_isOffer 58 = .ok (.ifCond .eq 5, 3)) (by decide) ?_ ?_
        · exact fun _ _ _ h => h
        · refine as_iconst X (by decide +kernel : decode cX8_isOffer 61 = .ok (.iconst 0, 1)) rfl ?_
          exact as_rz X hQ hr (by decide +kernel : decode cX8_isOffer 62 = .ok (.ireturn, 1))
      · exact fun _ _ _ h => h
  · unfold B_X8_isOffer_63
    refine as_iinc X (by decide +kernel : decode cX8_isOffer 63 = .ok (.iinc 4 1, 3)) rfl ?_
    refine as_goto X (tgt := 31) (by decide +kernel : decode cX8_isOffer 66 = .ok (.goto (-35), 3)) (by decide) ?_
    exact fun _ _ _ h => h

def B_X8_mayDefine_0 (kX1_wordAt : am_T) (Q : am_Q) (G : Nat → am_K) : am_K := (ak_al 0 (ak_get 6 1 (ak_get 0 0 (ak_il 1 (ak_lald (ak_al 0 (ak_get 6 2 (ak_c (.int 0) (ak_cv 2 1 kX1_wordAt (ak_lc (ak_if (fun x => x = 0) (G 50) (ak_al 0 (ak_get 6 1 (ak_get 0 0 (ak_il 1 (ak_lald (ak_al 0 (ak_get 6 2 (ak_al 0 (ak_get 6 2 (ak_get 1 3 (ak_c (.int 1) (ak_ib (fun x y => x - y) (ak_cv 2 1 kX1_wordAt (ak_lc (ak_if (fun x => x = 0) (G 50) (ak_c (.int 0) (G 55))))))))))))))))))))))))))))
def B_X8_mayDefine_50 (kX1_wordAt : am_T) (Q : am_Q) (G : Nat → am_K) : am_K := (ak_c (.int 1) (G 55))
def B_X8_mayDefine_55 (kX1_wordAt : am_T) (Q : am_Q) (G : Nat → am_K) : am_K := (ak_rz Q)
def cl_X8_mayDefine (kX1_wordAt : am_T) (Q : am_Q) (G : Nat → am_K) : Prop := am_N G 0 (B_X8_mayDefine_0 kX1_wordAt Q G) ∧ am_N G 50 (B_X8_mayDefine_50 kX1_wordAt Q G) ∧ am_N G 55 (B_X8_mayDefine_55 kX1_wordAt Q G)
def WP_X8_mayDefine (kX1_wordAt : am_T) : am_T := fun av h Q => (lg_sl av).length ≤ 2 ∧ ∀ G, cl_X8_mayDefine kX1_wordAt Q G → G 0 (am_ent 2 av) [] h
set_option maxHeartbeats 4000000 in
set_option maxRecDepth 100000 in
theorem s_X8_mayDefine {mX1_wordAt : Room} {kX1_wordAt : am_T} (h_X1_wordAt : am_S false yX1_wordAt (am_ws yX1_wordAt cX1_wordAt 2 (some .long)) mX1_wordAt kX1_wordAt) {rm : Room} (hz : rm.cells = 0 ∧ rm.slots = 0) (R_X1_wordAt : mX1_wordAt.frames + 1 ≤ rm.frames ∧ 8 + (2 + 11) + mX1_wordAt.locals ≤ rm.locals) : am_S false yX8_mayDefine (am_ws yX8_mayDefine cX8_mayDefine 2 (some .boolean)) rm (WP_X8_mayDefine kX1_wordAt) := by
  refine am_S.of (fun _ => hz) (by decide +kernel) (fun h0 Q G => cl_X8_mayDefine kX1_wordAt Q G) ?_
  intro p l e s m args below meth c D h0 Q X hr hnm hQ
  refine ⟨?_, ?_, ?_⟩
  · unfold B_X8_mayDefine_0
    refine as_aload_n X (by decide +kernel : decode cX8_mayDefine 0 = .ok (.aload_n 0, 1)) rfl ?_
    refine as_get X fc_X8 (by decide +kernel : decode cX8_mayDefine 1 = .ok (.getfield 19, 3)) (by decide) fl_X8_19 ?_
    refine as_get X fc_X0 (by decide +kernel : decode cX8_mayDefine 4 = .ok (.getfield 124, 3)) (by decide) fl_X8_124 ?_
    refine as_iload_n X (by decide +kernel : decode cX8_mayDefine 7 = .ok (.iload_n 1, 1)) rfl ?_
    refine as_laload X (by decide +kernel : decode cX8_mayDefine 8 = .ok (.laload, 1)) ?_
    refine as_aload_n X (by decide +kernel : decode cX8_mayDefine 9 = .ok (.aload_n 0, 1)) rfl ?_
    refine as_get X fc_X8 (by decide +kernel : decode cX8_mayDefine 10 = .ok (.getfield 26, 3)) (by decide) fl_X8_26 ?_
    refine as_iconst X (by decide +kernel : decode cX8_mayDefine 13 = .ok (.iconst 0, 1)) rfl ?_
    refine as_cv X h_X1_wordAt rfl (by decide +kernel : decode cX8_mayDefine 14 = .ok (.invokevirtual 248, 3)) dn_X1_wordAt ml_X8_248 im_X1_wordAt se_X1_wordAt ini_X1 co_X1_wordAt R_X1_wordAt ?_
    refine as_lcmp X (by decide +kernel : decode cX8_mayDefine 17 = .ok (.lcmp, 1)) ?_
    refine as_if_eq X (tgt := 50) (by decide +kernel : decode cX8_mayDefine 18 = .ok (.ifCond .eq 32, 3)) (by decide) ?_ ?_
    · exact fun _ _ _ h => h
    · refine as_aload_n X (by decide +kernel : decode cX8_mayDefine 21 = .ok (.aload_n 0, 1)) rfl ?_
      refine as_get X fc_X8 (by decide +kernel : decode cX8_mayDefine 22 = .ok (.getfield 19, 3)) (by decide) fl_X8_19 ?_
      refine as_get X fc_X0 (by decide +kernel : decode cX8_mayDefine 25 = .ok (.getfield 124, 3)) (by decide) fl_X8_124 ?_
      refine as_iload_n X (by decide +kernel : decode cX8_mayDefine 28 = .ok (.iload_n 1, 1)) rfl ?_
      refine as_laload X (by decide +kernel : decode cX8_mayDefine 29 = .ok (.laload, 1)) ?_
      refine as_aload_n X (by decide +kernel : decode cX8_mayDefine 30 = .ok (.aload_n 0, 1)) rfl ?_
      refine as_get X fc_X8 (by decide +kernel : decode cX8_mayDefine 31 = .ok (.getfield 26, 3)) (by decide) fl_X8_26 ?_
      refine as_aload_n X (by decide +kernel : decode cX8_mayDefine 34 = .ok (.aload_n 0, 1)) rfl ?_
      refine as_get X fc_X8 (by decide +kernel : decode cX8_mayDefine 35 = .ok (.getfield 26, 3)) (by decide) fl_X8_26 ?_
      refine as_get X fc_X1 (by decide +kernel : decode cX8_mayDefine 38 = .ok (.getfield 113, 3)) (by decide) fl_X8_113 ?_
      refine as_iconst X (by decide +kernel : decode cX8_mayDefine 41 = .ok (.iconst 1, 1)) rfl ?_
      refine as_isub X (by decide +kernel : decode cX8_mayDefine 42 = .ok (.isub, 1)) ?_
      refine as_cv X h_X1_wordAt rfl (by decide +kernel : decode cX8_mayDefine 43 = .ok (.invokevirtual 248, 3)) dn_X1_wordAt ml_X8_248 im_X1_wordAt se_X1_wordAt ini_X1 co_X1_wordAt R_X1_wordAt ?_
      refine as_lcmp X (by decide +kernel : decode cX8_mayDefine 46 = .ok (.lcmp, 1)) ?_
      refine as_if_ne X (tgt := 54) (by decide +kernel : decode cX8_mayDefine 47 = .ok (.ifCond .ne 7, 3)) (by decide) ?_ ?_
      · exact fun _ _ _ h => h
      · refine as_iconst X (by decide +kernel : decode cX8_mayDefine 54 = .ok (.iconst 0, 1)) rfl ?_
        exact fun _ _ _ h => h
  · unfold B_X8_mayDefine_50
    refine as_iconst X (by decide +kernel : decode cX8_mayDefine 50 = .ok (.iconst 1, 1)) rfl ?_
    refine as_goto X (tgt := 55) (by decide +kernel : decode cX8_mayDefine 51 = .ok (.goto 4, 3)) (by decide) ?_
    exact fun _ _ _ h => h
  · unfold B_X8_mayDefine_55
    exact as_rz X hQ hr (by decide +kernel : decode cX8_mayDefine 55 = .ok (.ireturn, 1))

def B_X8_offers_0 (kX8_isOffer : am_T) (Q : am_Q) (G : Nat → am_K) : am_K := (ak_c (.int 0) (ak_is 1 (ak_c (.int 0) (ak_is 2 (G 4)))))
def B_X8_offers_4 (kX8_isOffer : am_T) (Q : am_Q) (G : Nat → am_K) : am_K := (ak_il 2 (ak_al 0 (ak_get 6 1 (ak_get 0 3 (ak_ic (fun x y => y ≤ x) (ak_il 1 (ak_ri Q)) (ak_al 0 (ak_il 2 (ak_cv 2 6 kX8_isOffer (ak_if (fun x => x = 0) (G 26) (ak_ii 1 1 (G 26)))))))))))
def B_X8_offers_26 (kX8_isOffer : am_T) (Q : am_Q) (G : Nat → am_K) : am_K := (ak_ii 2 1 (G 4))
def cl_X8_offers (kX8_isOffer : am_T) (Q : am_Q) (G : Nat → am_K) : Prop := am_N G 0 (B_X8_offers_0 kX8_isOffer Q G) ∧ am_N G 4 (B_X8_offers_4 kX8_isOffer Q G) ∧ am_N G 26 (B_X8_offers_26 kX8_isOffer Q G)
def WP_X8_offers (kX8_isOffer : am_T) : am_T := fun av h Q => (lg_sl av).length ≤ 3 ∧ ∀ G, cl_X8_offers kX8_isOffer Q G → G 0 (am_ent 3 av) [] h
set_option maxHeartbeats 4000000 in
set_option maxRecDepth 100000 in
theorem s_X8_offers {mX8_isOffer : Room} {kX8_isOffer : am_T} (h_X8_isOffer : am_S false yX8_isOffer (am_ws yX8_isOffer cX8_isOffer 5 (some .boolean)) mX8_isOffer kX8_isOffer) {rm : Room} (hz : rm.cells = 0 ∧ rm.slots = 0) (R_X8_isOffer : mX8_isOffer.frames + 1 ≤ rm.frames ∧ 8 + (5 + 11) + mX8_isOffer.locals ≤ rm.locals) : am_S false yX8_offers (am_ws yX8_offers cX8_offers 3 (some .int)) rm (WP_X8_offers kX8_isOffer) := by
  refine am_S.of (fun _ => hz) (by decide +kernel) (fun h0 Q G => cl_X8_offers kX8_isOffer Q G) ?_
  intro p l e s m args below meth c D h0 Q X hr hnm hQ
  refine ⟨?_, ?_, ?_⟩
  · unfold B_X8_offers_0
    refine as_iconst X (by decide +kernel : decode cX8_offers 0 = .ok (.iconst 0, 1)) rfl ?_
    refine as_istore_n X (by decide +kernel : decode cX8_offers 1 = .ok (.istore_n 1, 1)) rfl ?_
    refine as_iconst X (by decide +kernel : decode cX8_offers 2 = .ok (.iconst 0, 1)) rfl ?_
    refine as_istore_n X (by decide +kernel : decode cX8_offers 3 = .ok (.istore_n 2, 1)) rfl ?_
    exact fun _ _ _ h => h
  · unfold B_X8_offers_4
    refine as_iload_n X (by decide +kernel : decode cX8_offers 4 = .ok (.iload_n 2, 1)) rfl ?_
    refine as_aload_n X (by decide +kernel : decode cX8_offers 5 = .ok (.aload_n 0, 1)) rfl ?_
    refine as_get X fc_X8 (by decide +kernel : decode cX8_offers 6 = .ok (.getfield 19, 3)) (by decide) fl_X8_19 ?_
    refine as_get X fc_X0 (by decide +kernel : decode cX8_offers 9 = .ok (.getfield 110, 3)) (by decide) fl_X8_110 ?_
    refine as_ic_ge X (tgt := 32) (by decide +kernel : decode cX8_offers 12 = .ok (.if_icmp .ge 20, 3)) (by decide) ?_ ?_
    · refine as_iload_n X (by decide +kernel : decode cX8_offers 32 = .ok (.iload_n 1, 1)) rfl ?_
      exact as_ri X hQ hr (by decide +kernel : decode cX8_offers 33 = .ok (.ireturn, 1))
    · refine as_aload_n X (by decide +kernel : decode cX8_offers 15 = .ok (.aload_n 0, 1)) rfl ?_
      refine as_iload_n X (by decide +kernel : decode cX8_offers 16 = .ok (.iload_n 2, 1)) rfl ?_
      refine as_cv X h_X8_isOffer rfl (by decide +kernel : decode cX8_offers 17 = .ok (.invokevirtual 251, 3)) dn_X8_isOffer ml_X8_251 im_X8_isOffer se_X8_isOffer ini_X8 co_X8_isOffer R_X8_isOffer ?_
      refine as_if_eq X (tgt := 26) (by decide +kernel : decode cX8_offers 20 = .ok (.ifCond .eq 6, 3)) (by decide) ?_ ?_
      · exact fun _ _ _ h => h
      · refine as_iinc X (by decide +kernel : decode cX8_offers 23 = .ok (.iinc 1 1, 3)) rfl ?_
        exact fun _ _ _ h => h
  · unfold B_X8_offers_26
    refine as_iinc X (by decide +kernel : decode cX8_offers 26 = .ok (.iinc 2 1, 3)) rfl ?_
    refine as_goto X (tgt := 4) (by decide +kernel : decode cX8_offers 29 = .ok (.goto (-25), 3)) (by decide) ?_
    exact fun _ _ _ h => h

def B_X8_entryOfOffer_0 (kX8_isOffer : am_T) (Q : am_Q) (G : Nat → am_K) : am_K := (ak_c (.int 0) (ak_is 2 (ak_c (.int 0) (ak_is 3 (G 4)))))
def B_X8_entryOfOffer_4 (kX8_isOffer : am_T) (Q : am_Q) (G : Nat → am_K) : am_K := (ak_il 3 (ak_al 0 (ak_get 6 1 (ak_get 0 3 (ak_ic (fun x y => y ≤ x) (ak_c (.int (-4)) (ak_ri Q)) (ak_al 0 (ak_il 3 (ak_cv 2 6 kX8_isOffer (ak_if (fun x => x = 0) (G 33) (ak_il 2 (ak_il 1 (ak_ic (fun x y => x = y) (ak_il 3 (ak_ri Q)) (ak_ii 2 1 (G 33))))))))))))))
def B_X8_entryOfOffer_33 (kX8_isOffer : am_T) (Q : am_Q) (G : Nat → am_K) : am_K := (ak_ii 3 1 (G 4))
def cl_X8_entryOfOffer (kX8_isOffer : am_T) (Q : am_Q) (G : Nat → am_K) : Prop := am_N G 0 (B_X8_entryOfOffer_0 kX8_isOffer Q G) ∧ am_N G 4 (B_X8_entryOfOffer_4 kX8_isOffer Q G) ∧ am_N G 33 (B_X8_entryOfOffer_33 kX8_isOffer Q G)
def WP_X8_entryOfOffer (kX8_isOffer : am_T) : am_T := fun av h Q => (lg_sl av).length ≤ 4 ∧ ∀ G, cl_X8_entryOfOffer kX8_isOffer Q G → G 0 (am_ent 4 av) [] h
set_option maxHeartbeats 4000000 in
set_option maxRecDepth 100000 in
theorem s_X8_entryOfOffer {mX8_isOffer : Room} {kX8_isOffer : am_T} (h_X8_isOffer : am_S false yX8_isOffer (am_ws yX8_isOffer cX8_isOffer 5 (some .boolean)) mX8_isOffer kX8_isOffer) {rm : Room} (hz : rm.cells = 0 ∧ rm.slots = 0) (R_X8_isOffer : mX8_isOffer.frames + 1 ≤ rm.frames ∧ 8 + (5 + 11) + mX8_isOffer.locals ≤ rm.locals) : am_S false yX8_entryOfOffer (am_ws yX8_entryOfOffer cX8_entryOfOffer 4 (some .int)) rm (WP_X8_entryOfOffer kX8_isOffer) := by
  refine am_S.of (fun _ => hz) (by decide +kernel) (fun h0 Q G => cl_X8_entryOfOffer kX8_isOffer Q G) ?_
  intro p l e s m args below meth c D h0 Q X hr hnm hQ
  refine ⟨?_, ?_, ?_⟩
  · unfold B_X8_entryOfOffer_0
    refine as_iconst X (by decide +kernel : decode cX8_entryOfOffer 0 = .ok (.iconst 0, 1)) rfl ?_
    refine as_istore_n X (by decide +kernel : decode cX8_entryOfOffer 1 = .ok (.istore_n 2, 1)) rfl ?_
    refine as_iconst X (by decide +kernel : decode cX8_entryOfOffer 2 = .ok (.iconst 0, 1)) rfl ?_
    refine as_istore_n X (by decide +kernel : decode cX8_entryOfOffer 3 = .ok (.istore_n 3, 1)) rfl ?_
    exact fun _ _ _ h => h
  · unfold B_X8_entryOfOffer_4
    refine as_iload_n X (by decide +kernel : decode cX8_entryOfOffer 4 = .ok (.iload_n 3, 1)) rfl ?_
    refine as_aload_n X (by decide +kernel : decode cX8_entryOfOffer 5 = .ok (.aload_n 0, 1)) rfl ?_
    refine as_get X fc_X8 (by decide +kernel : decode cX8_entryOfOffer 6 = .ok (.getfield 19, 3)) (by decide) fl_X8_19 ?_
    refine as_get X fc_X0 (by decide +kernel : decode cX8_entryOfOffer 9 = .ok (.getfield 110, 3)) (by decide) fl_X8_110 ?_
    refine as_ic_ge X (tgt := 39) (by decide +kernel : decode cX8_entryOfOffer 12 = .ok (.if_icmp .ge 27, 3)) (by decide) ?_ ?_
    · refine as_bipush X (by decide +kernel : decode cX8_entryOfOffer 39 = .ok (.bipush (-4), 2)) rfl ?_
      exact as_ri X hQ hr (by decide +kernel : decode cX8_entryOfOffer 41 = .ok (.ireturn, 1))
    · refine as_aload_n X (by decide +kernel : decode cX8_entryOfOffer 15 = .ok (.aload_n 0, 1)) rfl ?_
      refine as_iload_n X (by decide +kernel : decode cX8_entryOfOffer 16 = .ok (.iload_n 3, 1)) rfl ?_
      refine as_cv X h_X8_isOffer rfl (by decide +kernel : decode cX8_entryOfOffer 17 = .ok (.invokevirtual 251, 3)) dn_X8_isOffer ml_X8_251 im_X8_isOffer se_X8_isOffer ini_X8 co_X8_isOffer R_X8_isOffer ?_
      refine as_if_eq X (tgt := 33) (by decide +kernel : decode cX8_entryOfOffer 20 = .ok (.ifCond .eq 13, 3)) (by decide) ?_ ?_
      · exact fun _ _ _ h => h
      · refine as_iload_n X (by decide +kernel : decode cX8_entryOfOffer 23 = .ok (.iload_n 2, 1)) rfl ?_
        refine as_iload_n X (by decide +kernel : decode cX8_entryOfOffer 24 = .ok (.iload_n 1, 1)) rfl ?_
        refine as_ic_ne X (tgt := 30) (by decide +kernel : decode cX8_entryOfOffer 25 = .ok (.if_icmp .ne 5, 3)) (by decide) ?_ ?_
        · refine as_iload_n X (by decide +kernel : decode cX8_entryOfOffer 28 = .ok (.iload_n 3, 1)) rfl ?_
          exact as_ri X hQ hr (by decide +kernel : decode cX8_entryOfOffer 29 = .ok (.ireturn, 1))
        · refine as_iinc X (by decide +kernel : decode cX8_entryOfOffer 30 = .ok (.iinc 2 1, 3)) rfl ?_
          exact fun _ _ _ h => h
  · unfold B_X8_entryOfOffer_33
    refine as_iinc X (by decide +kernel : decode cX8_entryOfOffer 33 = .ok (.iinc 3 1, 3)) rfl ?_
    refine as_goto X (tgt := 4) (by decide +kernel : decode cX8_entryOfOffer 36 = .ok (.goto (-32), 3)) (by decide) ?_
    exact fun _ _ _ h => h

def B_X8_neededEntries_0 (kX5_parse : am_T) (kX6_totalAt : am_T) (kX1_includes : am_T) (kX5_suppose : am_T) (kX5_supposeNothing : am_T) (Q : am_Q) (G : Nat → am_K) : am_K := (ak_al 0 (ak_get 6 4 (ak_get 3 2 (ak_al 0 (ak_get 6 4 (ak_cv 1 3 kX5_parse (ak_cv 2 4 kX6_totalAt (ak_ls 1 (ak_c (.int 0) (ak_is 3 (ak_c (.int 0) (ak_is 4 (G 23)))))))))))))
def B_X8_neededEntries_23 (kX5_parse : am_T) (kX6_totalAt : am_T) (kX1_includes : am_T) (kX5_suppose : am_T) (kX5_supposeNothing : am_T) (Q : am_Q) (G : Nat → am_K) : am_K := (ak_il 4 (ak_al 0 (ak_get 6 1 (ak_get 0 3 (ak_ic (fun x y => y ≤ x) (G 105) (ak_ll 1 (ak_c (.long 0) (ak_lc (ak_if (fun x => x ≤ 0) (G 105) (ak_al 0 (ak_get 6 2 (ak_al 0 (ak_get 6 1 (ak_get 0 0 (ak_il 4 (ak_lald (ak_cv 2 1 kX1_includes (ak_if (fun x => x = 0) (G 99) (ak_al 0 (ak_get 6 4 (ak_al 0 (ak_get 6 6 (ak_il 4 (ak_cv 3 3 kX5_suppose (ak_al 0 (ak_get 6 4 (ak_get 3 2 (ak_al 0 (ak_get 6 4 (ak_cv 1 3 kX5_parse (ak_cv 2 4 kX6_totalAt (ak_ll 1 (ak_lc (ak_if (fun x => 0 ≤ x) (G 99) (ak_ii 3 1 (G 99))))))))))))))))))))))))))))))))))))
def B_X8_neededEntries_99 (kX5_parse : am_T) (kX6_totalAt : am_T) (kX1_includes : am_T) (kX5_suppose : am_T) (kX5_supposeNothing : am_T) (Q : am_Q) (G : Nat → am_K) : am_K := (ak_ii 4 1 (G 23))
def B_X8_neededEntries_105 (kX5_parse : am_T) (kX6_totalAt : am_T) (kX1_includes : am_T) (kX5_suppose : am_T) (kX5_supposeNothing : am_T) (Q : am_Q) (G : Nat → am_K) : am_K := (ak_al 0 (ak_get 6 4 (ak_al 0 (ak_get 6 6 (ak_cv 2 3 kX5_supposeNothing (ak_il 3 (ak_ri Q)))))))
def cl_X8_neededEntries (kX5_parse : am_T) (kX6_totalAt : am_T) (kX1_includes : am_T) (kX5_suppose : am_T) (kX5_supposeNothing : am_T) (Q : am_Q) (G : Nat → am_K) : Prop := am_N G 0 (B_X8_neededEntries_0 kX5_parse kX6_totalAt kX1_includes kX5_suppose kX5_supposeNothing Q G) ∧ am_N G 23 (B_X8_neededEntries_23 kX5_parse kX6_totalAt kX1_includes kX5_suppose kX5_supposeNothing Q G) ∧ am_N G 99 (B_X8_neededEntries_99 kX5_parse kX6_totalAt kX1_includes kX5_suppose kX5_supposeNothing Q G) ∧ am_N G 105 (B_X8_neededEntries_105 kX5_parse kX6_totalAt kX1_includes kX5_suppose kX5_supposeNothing Q G)
def WP_X8_neededEntries (kX5_parse : am_T) (kX6_totalAt : am_T) (kX1_includes : am_T) (kX5_suppose : am_T) (kX5_supposeNothing : am_T) : am_T := fun av h Q => (lg_sl av).length ≤ 5 ∧ ∀ G, cl_X8_neededEntries kX5_parse kX6_totalAt kX1_includes kX5_suppose kX5_supposeNothing Q G → G 0 (am_ent 5 av) [] h
set_option maxHeartbeats 4000000 in
set_option maxRecDepth 100000 in
theorem s_X8_neededEntries {mX5_parse : Room} {kX5_parse : am_T} (h_X5_parse : am_S false yX5_parse (am_ws yX5_parse cX5_parse 4 (some .int)) mX5_parse kX5_parse) {mX6_totalAt : Room} {kX6_totalAt : am_T} (h_X6_totalAt : am_S false yX6_totalAt (am_ws yX6_totalAt cX6_totalAt 2 (some .long)) mX6_totalAt kX6_totalAt) {mX1_includes : Room} {kX1_includes : am_T} (h_X1_includes : am_S false yX1_includes (am_ws yX1_includes cX1_includes 4 (some .boolean)) mX1_includes kX1_includes) {mX5_suppose : Room} {kX5_suppose : am_T} (h_X5_suppose : am_S false yX5_suppose (am_ws yX5_suppose cX5_suppose 4 none) mX5_suppose kX5_suppose) {mX5_supposeNothing : Room} {kX5_supposeNothing : am_T} (h_X5_supposeNothing : am_S false yX5_supposeNothing (am_ws yX5_supposeNothing cX5_supposeNothing 3 none) mX5_supposeNothing kX5_supposeNothing) {rm : Room} (hz : rm.cells = 0 ∧ rm.slots = 0) (R_X5_parse : mX5_parse.frames + 1 ≤ rm.frames ∧ 8 + (4 + 11) + mX5_parse.locals ≤ rm.locals) (R_X6_totalAt : mX6_totalAt.frames + 1 ≤ rm.frames ∧ 8 + (2 + 11) + mX6_totalAt.locals ≤ rm.locals) (R_X1_includes : mX1_includes.frames + 1 ≤ rm.frames ∧ 8 + (4 + 11) + mX1_includes.locals ≤ rm.locals) (R_X5_suppose : mX5_suppose.frames + 1 ≤ rm.frames ∧ 8 + (4 + 11) + mX5_suppose.locals ≤ rm.locals) (R_X5_supposeNothing : mX5_supposeNothing.frames + 1 ≤ rm.frames ∧ 8 + (3 + 11) + mX5_supposeNothing.locals ≤ rm.locals) : am_S false yX8_neededEntries (am_ws yX8_neededEntries cX8_neededEntries 5 (some .int)) rm (WP_X8_neededEntries kX5_parse kX6_totalAt kX1_includes kX5_suppose kX5_supposeNothing) := by
  refine am_S.of (fun _ => hz) (by decide +kernel) (fun h0 Q G => cl_X8_neededEntries kX5_parse kX6_totalAt kX1_includes kX5_suppose kX5_supposeNothing Q G) ?_
  intro p l e s m args below meth c D h0 Q X hr hnm hQ
  refine ⟨?_, ?_, ?_, ?_⟩
  · unfold B_X8_neededEntries_0
    refine as_aload_n X (by decide +kernel : decode cX8_neededEntries 0 = .ok (.aload_n 0, 1)) rfl ?_
    refine as_get X fc_X8 (by decide +kernel : decode cX8_neededEntries 1 = .ok (.getfield 47, 3)) (by decide) fl_X8_47 ?_
    refine as_get X fc_X5 (by decide +kernel : decode cX8_neededEntries 4 = .ok (.getfield 149, 3)) (by decide) fl_X8_149 ?_
    refine as_aload_n X (by decide +kernel : decode cX8_neededEntries 7 = .ok (.aload_n 0, 1)) rfl ?_
    refine as_get X fc_X8 (by decide +kernel : decode cX8_neededEntries 8 = .ok (.getfield 47, 3)) (by decide) fl_X8_47 ?_
    refine as_cv X h_X5_parse rfl (by decide +kernel : decode cX8_neededEntries 11 = .ok (.invokevirtual 153, 3)) dn_X5_parse ml_X8_153 im_X5_parse se_X5_parse ini_X5 co_X5_parse R_X5_parse ?_
    refine as_cv X h_X6_totalAt rfl (by decide +kernel : decode cX8_neededEntries 14 = .ok (.invokevirtual 156, 3)) dn_X6_totalAt ml_X8_156 im_X6_totalAt se_X6_totalAt ini_X6 co_X6_totalAt R_X6_totalAt ?_
    refine as_lstore_n X (by decide +kernel : decode cX8_neededEntries 17 = .ok (.lstore_n 1, 1)) rfl ?_
    refine as_iconst X (by decide +kernel : decode cX8_neededEntries 18 = .ok (.iconst 0, 1)) rfl ?_
    refine as_istore_n X (by decide +kernel : decode cX8_neededEntries 19 = .ok (.istore_n 3, 1)) rfl ?_
    refine as_iconst X (by decide +kernel : decode cX8_neededEntries 20 = .ok (.iconst 0, 1)) rfl ?_
    refine as_istore X (by decide +kernel : decode cX8_neededEntries 21 = .ok (.istore 4, 2)) ?_
    exact fun _ _ _ h => h
  · unfold B_X8_neededEntries_23
    refine as_iload X (by decide +kernel : decode cX8_neededEntries 23 = .ok (.iload 4, 2)) ?_
    refine as_aload_n X (by decide +kernel : decode cX8_neededEntries 25 = .ok (.aload_n 0, 1)) rfl ?_
    refine as_get X fc_X8 (by decide +kernel : decode cX8_neededEntries 26 = .ok (.getfield 19, 3)) (by decide) fl_X8_19 ?_
    refine as_get X fc_X0 (by decide +kernel : decode cX8_neededEntries 29 = .ok (.getfield 110, 3)) (by decide) fl_X8_110 ?_
    refine as_ic_ge X (tgt := 105) (by decide +kernel : decode cX8_neededEntries 32 = .ok (.if_icmp .ge 73, 3)) (by decide) ?_ ?_
    · exact fun _ _ _ h => h
    · refine as_lload_n X (by decide +kernel : decode cX8_neededEntries 35 = .ok (.lload_n 1, 1)) rfl ?_
      refine as_lconst X (by decide +kernel : decode cX8_neededEntries 36 = .ok (.lconst 0, 1)) rfl ?_
      refine as_lcmp X (by decide +kernel : decode cX8_neededEntries 37 = .ok (.lcmp, 1)) ?_
      refine as_if_le X (tgt := 105) (by decide +kernel : decode cX8_neededEntries 38 = .ok (.ifCond .le 67, 3)) (by decide) ?_ ?_
      · exact fun _ _ _ h => h
      · refine as_aload_n X (by decide +kernel : decode cX8_neededEntries 41 = .ok (.aload_n 0, 1)) rfl ?_
        refine as_get X fc_X8 (by decide +kernel : decode cX8_neededEntries 42 = .ok (.getfield 26, 3)) (by decide) fl_X8_26 ?_
        refine as_aload_n X (by decide +kernel : decode cX8_neededEntries 45 = .ok (.aload_n 0, 1)) rfl ?_
        refine as_get X fc_X8 (by decide +kernel : decode cX8_neededEntries 46 = .ok (.getfield 19, 3)) (by decide) fl_X8_19 ?_
        refine as_get X fc_X0 (by decide +kernel : decode cX8_neededEntries 49 = .ok (.getfield 124, 3)) (by decide) fl_X8_124 ?_
        refine as_iload X (by decide +kernel : decode cX8_neededEntries 52 = .ok (.iload 4, 2)) ?_
        refine as_laload X (by decide +kernel : decode cX8_neededEntries 54 = .ok (.laload, 1)) ?_
        refine as_cv X h_X1_includes rfl (by decide +kernel : decode cX8_neededEntries 55 = .ok (.invokevirtual 254, 3)) dn_X1_includes ml_X8_254 im_X1_includes se_X1_includes ini_X1 co_X1_includes R_X1_includes ?_
        refine as_if_eq X (tgt := 99) (by decide +kernel : decode cX8_neededEntries 58 = .ok (.ifCond .eq 41, 3)) (by decide) ?_ ?_
        · exact fun _ _ _ h => h
        · refine as_aload_n X (by decide +kernel : decode cX8_neededEntries 61 = .ok (.aload_n 0, 1)) rfl ?_
          refine as_get X fc_X8 (by decide +kernel : decode cX8_neededEntries 62 = .ok (.getfield 47, 3)) (by decide) fl_X8_47 ?_
          refine as_aload_n X (by decide +kernel : decode cX8_neededEntries 65 = .ok (.aload_n 0, 1)) rfl ?_
          refine as_get X fc_X8 (by decide +kernel : decode cX8_neededEntries 66 = .ok (.getfield 87, 3)) (by decide) fl_X8_87 ?_
          refine as_iload X (by decide +kernel : decode cX8_neededEntries 69 = .ok (.iload 4, 2)) ?_
          refine as_cv X h_X5_suppose rfl (by decide +kernel : decode cX8_neededEntries 71 = .ok (.invokevirtual 205, 3)) dn_X5_suppose ml_X8_205 im_X5_suppose se_X5_suppose ini_X5 co_X5_suppose R_X5_suppose ?_
          refine as_aload_n X (by decide +kernel : decode cX8_neededEntries 74 = .ok (.aload_n 0, 1)) rfl ?_
          refine as_get X fc_X8 (by decide +kernel : decode cX8_neededEntries 75 = .ok (.getfield 47, 3)) (by decide) fl_X8_47 ?_
          refine as_get X fc_X5 (by decide +kernel : decode cX8_neededEntries 78 = .ok (.getfield 149, 3)) (by decide) fl_X8_149 ?_
          refine as_aload_n X (by decide +kernel : decode cX8_neededEntries 81 = .ok (.aload_n 0, 1)) rfl ?_
          refine as_get X fc_X8 (by decide +kernel : decode cX8_neededEntries 82 = .ok (.getfield 47, 3)) (by decide) fl_X8_47 ?_
          refine as_cv X h_X5_parse rfl (by decide +kernel : decode cX8_neededEntries 85 = .ok (.invokevirtual 153, 3)) dn_X5_parse ml_X8_153 im_X5_parse se_X5_parse ini_X5 co_X5_parse R_X5_parse ?_
          refine as_cv X h_X6_totalAt rfl (by decide +kernel : decode cX8_neededEntries 88 = .ok (.invokevirtual 156, 3)) dn_X6_totalAt ml_X8_156 im_X6_totalAt se_X6_totalAt ini_X6 co_X6_totalAt R_X6_totalAt ?_
          refine as_lload_n X (by decide +kernel : decode cX8_neededEntries 91 = .ok (.lload_n 1, 1)) rfl ?_
          refine as_lcmp X (by decide +kernel : decode cX8_neededEntries 92 = .ok (.lcmp, 1)) ?_
          refine as_if_ge X (tgt := 99) (by decide +kernel : decode cX8_neededEntries 93 = .ok (.ifCond .ge 6, 3)) (by decide) ?_ ?_
          · exact fun _ _ _ h => h
          · refine as_iinc X (by decide +kernel : decode cX8_neededEntries 96 = .ok (.iinc 3 1, 3)) rfl ?_
            exact fun _ _ _ h => h
  · unfold B_X8_neededEntries_99
    refine as_iinc X (by decide +kernel : decode cX8_neededEntries 99 = .ok (.iinc 4 1, 3)) rfl ?_
    refine as_goto X (tgt := 23) (by decide +kernel : decode cX8_neededEntries 102 = .ok (.goto (-79), 3)) (by decide) ?_
    exact fun _ _ _ h => h
  · unfold B_X8_neededEntries_105
    refine as_aload_n X (by decide +kernel : decode cX8_neededEntries 105 = .ok (.aload_n 0, 1)) rfl ?_
    refine as_get X fc_X8 (by decide +kernel : decode cX8_neededEntries 106 = .ok (.getfield 47, 3)) (by decide) fl_X8_47 ?_
    refine as_aload_n X (by decide +kernel : decode cX8_neededEntries 109 = .ok (.aload_n 0, 1)) rfl ?_
    refine as_get X fc_X8 (by decide +kernel : decode cX8_neededEntries 110 = .ok (.getfield 87, 3)) (by decide) fl_X8_87 ?_
    refine as_cv X h_X5_supposeNothing rfl (by decide +kernel : decode cX8_neededEntries 113 = .ok (.invokevirtual 215, 3)) dn_X5_supposeNothing ml_X8_215 im_X5_supposeNothing se_X5_supposeNothing ini_X5 co_X5_supposeNothing R_X5_supposeNothing ?_
    refine as_iload_n X (by decide +kernel : decode cX8_neededEntries 116 = .ok (.iload_n 3, 1)) rfl ?_
    exact as_ri X hQ hr (by decide +kernel : decode cX8_neededEntries 117 = .ok (.ireturn, 1))
