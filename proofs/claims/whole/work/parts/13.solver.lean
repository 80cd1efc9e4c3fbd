/-! points, closures, contracts, soundness; printed by wip/whole/gen.py -/
def B_X5_init_0 (mX6_init : Room) (kX6_init : am_T) (h0 : am_H) (rc rs : Nat) (Q : am_Q) (G : Nat → am_K) : am_K := (ak_al 0 (ak_oi (ak_al 0 (ak_new h0 rc rs 4 [.null, .null, .null, .null, .null] (ak_dup (ak_c (.int 10752) (ak_ci h0 rc rs 2 mX6_init.cells mX6_init.slots kX6_init (ak_puta 3 0 (ak_al 0 (ak_new h0 rc rs 4 [.null, .null, .null, .null, .null] (ak_dup (ak_c (.int 10752) (ak_ci h0 rc rs 2 mX6_init.cells mX6_init.slots kX6_init (ak_puta 3 1 (ak_al 0 (ak_new h0 rc rs 4 [.null, .null, .null, .null, .null] (ak_dup (ak_c (.int 1) (ak_ci h0 rc rs 2 mX6_init.cells mX6_init.slots kX6_init (ak_puta 3 2 (ak_al 0 (ak_c (.int 6) (ak_newi h0 rc rs (ak_puta 3 6 (ak_al 0 (ak_c (.int (-4)) (ak_puti 3 8 (ak_al 0 (ak_al 1 (ak_puta 3 3 (ak_al 0 (ak_al 2 (ak_puta 3 4 (ak_al 0 (ak_al 3 (ak_puta 3 5 (ak_rv Q)))))))))))))))))))))))))))))))))))))
def cl_X5_init (mX6_init : Room) (kX6_init : am_T) (h0 : am_H) (rc rs : Nat) (Q : am_Q) (G : Nat → am_K) : Prop := am_N G 0 (B_X5_init_0 mX6_init kX6_init h0 rc rs Q G)
def WP_X5_init (mX6_init : Room) (kX6_init : am_T) (rc rs : Nat) : am_T := fun av h Q => (lg_sl av).length ≤ 4 ∧ ∀ G, cl_X5_init mX6_init kX6_init h rc rs Q G → G 0 (am_ent 4 av) [] h
set_option maxHeartbeats 4000000 in
set_option maxRecDepth 100000 in
theorem s_X5_init {mX6_init : Room} {kX6_init : am_T} (h_X6_init : am_S true yX6_init (am_ws yX6_init cX6_init 2 none) mX6_init kX6_init) {rm : Room} (R_X6_init : mX6_init.frames + 1 ≤ rm.frames ∧ 8 + (2 + 11) + mX6_init.locals ≤ rm.locals) (hO : 1 ≤ rm.frames ∧ 20 ≤ rm.locals) : am_S true yX5_init (am_ws yX5_init cX5_init 4 none) rm (WP_X5_init mX6_init kX6_init rm.cells rm.slots) := by
  refine am_S.of (fun q => by cases q) (by decide +kernel) (fun h0 Q G => cl_X5_init mX6_init kX6_init h0 rm.cells rm.slots Q G) ?_
  intro p l e s m args below meth c D h0 Q X hr hnm hQ
  show am_N _ 0 (B_X5_init_0  mX6_init kX6_init h0 rm.cells rm.slots Q _)
  · unfold B_X5_init_0
    refine as_aload_n X (by decide +kernel : decode cX5_init 0 = .ok (.aload_n 0, 1)) rfl ?_
    refine as_oi X (by decide +kernel : decode cX5_init 1 = .ok (.invokespecial 3, 3)) ml_X5_3 im_objectInit co_objectInit hO.1 hO.2 ?_
    refine as_aload_n X (by decide +kernel : decode cX5_init 4 = .ok (.aload_n 0, 1)) rfl ?_
    refine as_new X fc_X6 (by decide +kernel : decode cX5_init 5 = .ok (.new 9, 3)) cl_X5_9 is_X6 ini_X6 rfl (fun j hj => df_X6 D j hj) ?_
    refine as_dup X (by decide +kernel : decode cX5_init 8 = .ok (.dup, 1)) ?_
    refine as_sipush X (by decide +kernel : decode cX5_init 9 = .ok (.sipush 10752, 3)) rfl ?_
    refine as_ci X h_X6_init (by decide +kernel : decode cX5_init 12 = .ok (.invokespecial 15, 3)) dn_X6_init rfl ml_X5_15 im_X6_init ini_X6 co_X6_init R_X6_init ?_
    refine as_puta X fc_X5 (by decide +kernel : decode cX5_init 15 = .ok (.putfield 18, 3)) (by decide) fl_X5_18 (Or.inr ⟨rfl, hnm, rfl⟩) (Or.inr ⟨_, rfl⟩) ?_
    refine as_aload_n X (by decide +kernel : decode cX5_init 18 = .ok (.aload_n 0, 1)) rfl ?_
    refine as_new X fc_X6 (by decide +kernel : decode cX5_init 19 = .ok (.new 9, 3)) cl_X5_9 is_X6 ini_X6 rfl (fun j hj => df_X6 D j hj) ?_
    refine as_dup X (by decide +kernel : decode cX5_init 22 = .ok (.dup, 1)) ?_
    refine as_sipush X (by decide +kernel : decode cX5_init 23 = .ok (.sipush 10752, 3)) rfl ?_
    refine as_ci X h_X6_init (by decide +kernel : decode cX5_init 26 = .ok (.invokespecial 15, 3)) dn_X6_init rfl ml_X5_15 im_X6_init ini_X6 co_X6_init R_X6_init ?_
    refine as_puta X fc_X5 (by decide +kernel : decode cX5_init 29 = .ok (.putfield 22, 3)) (by decide) fl_X5_22 (Or.inr ⟨rfl, hnm, rfl⟩) (Or.inr ⟨_, rfl⟩) ?_
    refine as_aload_n X (by decide +kernel : decode cX5_init 32 = .ok (.aload_n 0, 1)) rfl ?_
    refine as_new X fc_X6 (by decide +kernel : decode cX5_init 33 = .ok (.new 9, 3)) cl_X5_9 is_X6 ini_X6 rfl (fun j hj => df_X6 D j hj) ?_
    refine as_dup X (by decide +kernel : decode cX5_init 36 = .ok (.dup, 1)) ?_
    refine as_iconst X (by decide +kernel : decode cX5_init 37 = .ok (.iconst 1, 1)) rfl ?_
    refine as_ci X h_X6_init (by decide +kernel : decode cX5_init 38 = .ok (.invokespecial 15, 3)) dn_X6_init rfl ml_X5_15 im_X6_init ini_X6 co_X6_init R_X6_init ?_
    refine as_puta X fc_X5 (by decide +kernel : decode cX5_init 41 = .ok (.putfield 25, 3)) (by decide) fl_X5_25 (Or.inr ⟨rfl, hnm, rfl⟩) (Or.inr ⟨_, rfl⟩) ?_
    refine as_aload_n X (by decide +kernel : decode cX5_init 44 = .ok (.aload_n 0, 1)) rfl ?_
    refine as_bipush X (by decide +kernel : decode cX5_init 45 = .ok (.bipush 6, 2)) rfl ?_
    refine as_newi X (by decide +kernel : decode cX5_init 47 = .ok (.newarray .int, 2)) ac_int ?_
    refine as_puta X fc_X5 (by decide +kernel : decode cX5_init 49 = .ok (.putfield 28, 3)) (by decide) fl_X5_28 (Or.inr ⟨rfl, hnm, rfl⟩) (Or.inl ⟨_, rfl⟩) ?_
    refine as_aload_n X (by decide +kernel : decode cX5_init 52 = .ok (.aload_n 0, 1)) rfl ?_
    refine as_bipush X (by decide +kernel : decode cX5_init 53 = .ok (.bipush (-4), 2)) rfl ?_
    refine as_puti X fc_X5 (by decide +kernel : decode cX5_init 55 = .ok (.putfield 32, 3)) (by decide) fl_X5_32 (Or.inl rfl) rfl ?_
    refine as_aload_n X (by decide +kernel : decode cX5_init 58 = .ok (.aload_n 0, 1)) rfl ?_
    refine as_aload_n X (by decide +kernel : decode cX5_init 59 = .ok (.aload_n 1, 1)) rfl ?_
    refine as_puta X fc_X5 (by decide +kernel : decode cX5_init 60 = .ok (.putfield 36, 3)) (by decide) fl_X5_36 (Or.inr ⟨rfl, hnm, rfl⟩) (Or.inr ⟨_, rfl⟩) ?_
    refine as_aload_n X (by decide +kernel : decode cX5_init 63 = .ok (.aload_n 0, 1)) rfl ?_
    refine as_aload_n X (by decide +kernel : decode cX5_init 64 = .ok (.aload_n 2, 1)) rfl ?_
    refine as_puta X fc_X5 (by decide +kernel : decode cX5_init 65 = .ok (.putfield 40, 3)) (by decide) fl_X5_40 (Or.inr ⟨rfl, hnm, rfl⟩) (Or.inr ⟨_, rfl⟩) ?_
    refine as_aload_n X (by decide +kernel : decode cX5_init 68 = .ok (.aload_n 0, 1)) rfl ?_
    refine as_aload_n X (by decide +kernel : decode cX5_init 69 = .ok (.aload_n 3, 1)) rfl ?_
    refine as_puta X fc_X5 (by decide +kernel : decode cX5_init 70 = .ok (.putfield 44, 3)) (by decide) fl_X5_44 (Or.inr ⟨rfl, hnm, rfl⟩) (Or.inl ⟨_, rfl⟩) ?_
    exact as_rv X hQ hr (by decide +kernel : decode cX5_init 73 = .ok (.return_, 1))

def B_X5_renew_0 (kX5_supposeNothing : am_T) (Q : am_Q) (G : Nat → am_K) : am_K := (ak_al 0 (ak_dup (ak_get 3 9 (ak_c (.int 1) (ak_ib (fun x y => x + y) (ak_puti 3 9 (ak_al 0 (ak_al 0 (ak_get 3 9 (ak_puti 3 10 (ak_al 0 (ak_ll 1 (ak_cv 2 3 kX5_supposeNothing (ak_rv Q))))))))))))))
def cl_X5_renew (kX5_supposeNothing : am_T) (Q : am_Q) (G : Nat → am_K) : Prop := am_N G 0 (B_X5_renew_0 kX5_supposeNothing Q G)
def WP_X5_renew (kX5_supposeNothing : am_T) : am_T := fun av h Q => (lg_sl av).length ≤ 3 ∧ ∀ G, cl_X5_renew kX5_supposeNothing Q G → G 0 (am_ent 3 av) [] h
set_option maxHeartbeats 4000000 in
set_option maxRecDepth 100000 in
theorem s_X5_renew {mX5_supposeNothing : Room} {kX5_supposeNothing : am_T} (h_X5_supposeNothing : am_S false yX5_supposeNothing (am_ws yX5_supposeNothing cX5_supposeNothing 3 none) mX5_supposeNothing kX5_supposeNothing) {rm : Room} (hz : rm.cells = 0 ∧ rm.slots = 0) (R_X5_supposeNothing : mX5_supposeNothing.frames + 1 ≤ rm.frames ∧ 8 + (3 + 11) + mX5_supposeNothing.locals ≤ rm.locals) : am_S false yX5_renew (am_ws yX5_renew cX5_renew 3 none) rm (WP_X5_renew kX5_supposeNothing) := by
  refine am_S.of (fun _ => hz) (by decide +kernel) (fun h0 Q G => cl_X5_renew kX5_supposeNothing Q G) ?_
  intro p l e s m args below meth c D h0 Q X hr hnm hQ
  show am_N _ 0 (B_X5_renew_0  kX5_supposeNothing Q _)
  · unfold B_X5_renew_0
    refine as_aload_n X (by decide +kernel : decode cX5_renew 0 = .ok (.aload_n 0, 1)) rfl ?_
    refine as_dup X (by decide +kernel : decode cX5_renew 1 = .ok (.dup, 1)) ?_
    refine as_get X fc_X5 (by decide +kernel : decode cX5_renew 2 = .ok (.getfield 47, 3)) (by decide) fl_X5_47 ?_
    refine as_iconst X (by decide +kernel : decode cX5_renew 5 = .ok (.iconst 1, 1)) rfl ?_
    refine as_iadd X (by decide +kernel : decode cX5_renew 6 = .ok (.iadd, 1)) ?_
    refine as_puti X fc_X5 (by decide +kernel : decode cX5_renew 7 = .ok (.putfield 47, 3)) (by decide) fl_X5_47 (Or.inl rfl) rfl ?_
    refine as_aload_n X (by decide +kernel : decode cX5_renew 10 = .ok (.aload_n 0, 1)) rfl ?_
    refine as_aload_n X (by decide +kernel : decode cX5_renew 11 = .ok (.aload_n 0, 1)) rfl ?_
    refine as_get X fc_X5 (by decide +kernel : decode cX5_renew 12 = .ok (.getfield 47, 3)) (by decide) fl_X5_47 ?_
    refine as_puti X fc_X5 (by decide +kernel : decode cX5_renew 15 = .ok (.putfield 50, 3)) (by decide) fl_X5_50 (Or.inl rfl) rfl ?_
    refine as_aload_n X (by decide +kernel : decode cX5_renew 18 = .ok (.aload_n 0, 1)) rfl ?_
    refine as_lload_n X (by decide +kernel : decode cX5_renew 19 = .ok (.lload_n 1, 1)) rfl ?_
    refine as_cv X h_X5_supposeNothing rfl (by decide +kernel : decode cX5_renew 20 = .ok (.invokevirtual 53, 3)) dn_X5_supposeNothing ml_X5_53 im_X5_supposeNothing se_X5_supposeNothing ini_X5 co_X5_supposeNothing R_X5_supposeNothing ?_
    exact as_rv X hQ hr (by decide +kernel : decode cX5_renew 23 = .ok (.return_, 1))

def B_X5_suppose_0 (kX5_begin : am_T) (Q : am_Q) (G : Nat → am_K) : am_K := (ak_al 0 (ak_dup (ak_get 3 9 (ak_c (.int 1) (ak_ib (fun x y => x + y) (ak_puti 3 9 (ak_al 0 (ak_ll 1 (ak_il 3 (ak_al 0 (ak_get 3 9 (ak_cv 4 3 kX5_begin (ak_rv Q)))))))))))))
def cl_X5_suppose (kX5_begin : am_T) (Q : am_Q) (G : Nat → am_K) : Prop := am_N G 0 (B_X5_suppose_0 kX5_begin Q G)
def WP_X5_suppose (kX5_begin : am_T) : am_T := fun av h Q => (lg_sl av).length ≤ 4 ∧ ∀ G, cl_X5_suppose kX5_begin Q G → G 0 (am_ent 4 av) [] h
set_option maxHeartbeats 4000000 in
set_option maxRecDepth 100000 in
theorem s_X5_suppose {mX5_begin : Room} {kX5_begin : am_T} (h_X5_begin : am_S false yX5_begin (am_ws yX5_begin cX5_begin 6 none) mX5_begin kX5_begin) {rm : Room} (hz : rm.cells = 0 ∧ rm.slots = 0) (R_X5_begin : mX5_begin.frames + 1 ≤ rm.frames ∧ 8 + (6 + 11) + mX5_begin.locals ≤ rm.locals) : am_S false yX5_suppose (am_ws yX5_suppose cX5_suppose 4 none) rm (WP_X5_suppose kX5_begin) := by
  refine am_S.of (fun _ => hz) (by decide +kernel) (fun h0 Q G => cl_X5_suppose kX5_begin Q G) ?_
  intro p l e s m args below meth c D h0 Q X hr hnm hQ
  show am_N _ 0 (B_X5_suppose_0  kX5_begin Q _)
  · unfold B_X5_suppose_0
    refine as_aload_n X (by decide +kernel : decode cX5_suppose 0 = .ok (.aload_n 0, 1)) rfl ?_
    refine as_dup X (by decide +kernel : decode cX5_suppose 1 = .ok (.dup, 1)) ?_
    refine as_get X fc_X5 (by decide +kernel : decode cX5_suppose 2 = .ok (.getfield 47, 3)) (by decide) fl_X5_47 ?_
    refine as_iconst X (by decide +kernel : decode cX5_suppose 5 = .ok (.iconst 1, 1)) rfl ?_
    refine as_iadd X (by decide +kernel : decode cX5_suppose 6 = .ok (.iadd, 1)) ?_
    refine as_puti X fc_X5 (by decide +kernel : decode cX5_suppose 7 = .ok (.putfield 47, 3)) (by decide) fl_X5_47 (Or.inl rfl) rfl ?_
    refine as_aload_n X (by decide +kernel : decode cX5_suppose 10 = .ok (.aload_n 0, 1)) rfl ?_
    refine as_lload_n X (by decide +kernel : decode cX5_suppose 11 = .ok (.lload_n 1, 1)) rfl ?_
    refine as_iload_n X (by decide +kernel : decode cX5_suppose 12 = .ok (.iload_n 3, 1)) rfl ?_
    refine as_aload_n X (by decide +kernel : decode cX5_suppose 13 = .ok (.aload_n 0, 1)) rfl ?_
    refine as_get X fc_X5 (by decide +kernel : decode cX5_suppose 14 = .ok (.getfield 47, 3)) (by decide) fl_X5_47 ?_
    refine as_cv X h_X5_begin rfl (by decide +kernel : decode cX5_suppose 17 = .ok (.invokevirtual 57, 3)) dn_X5_begin ml_X5_57 im_X5_begin se_X5_begin ini_X5 co_X5_begin R_X5_begin ?_
    exact as_rv X hQ hr (by decide +kernel : decode cX5_suppose 20 = .ok (.return_, 1))

def B_X5_supposeNothing_0 (kX5_begin : am_T) (Q : am_Q) (G : Nat → am_K) : am_K := (ak_al 0 (ak_ll 1 (ak_c (.int (-4)) (ak_al 0 (ak_get 3 10 (ak_cv 4 3 kX5_begin (ak_rv Q)))))))
def cl_X5_supposeNothing (kX5_begin : am_T) (Q : am_Q) (G : Nat → am_K) : Prop := am_N G 0 (B_X5_supposeNothing_0 kX5_begin Q G)
def WP_X5_supposeNothing (kX5_begin : am_T) : am_T := fun av h Q => (lg_sl av).length ≤ 3 ∧ ∀ G, cl_X5_supposeNothing kX5_begin Q G → G 0 (am_ent 3 av) [] h
set_option maxHeartbeats 4000000 in
set_option maxRecDepth 100000 in
theorem s_X5_supposeNothing {mX5_begin : Room} {kX5_begin : am_T} (h_X5_begin : am_S false yX5_begin (am_ws yX5_begin cX5_begin 6 none) mX5_begin kX5_begin) {rm : Room} (hz : rm.cells = 0 ∧ rm.slots = 0) (R_X5_begin : mX5_begin.frames + 1 ≤ rm.frames ∧ 8 + (6 + 11) + mX5_begin.locals ≤ rm.locals) : am_S false yX5_supposeNothing (am_ws yX5_supposeNothing cX5_supposeNothing 3 none) rm (WP_X5_supposeNothing kX5_begin) := by
  refine am_S.of (fun _ => hz) (by decide +kernel) (fun h0 Q G => cl_X5_supposeNothing kX5_begin Q G) ?_
  intro p l e s m args below meth c D h0 Q X hr hnm hQ
  show am_N _ 0 (B_X5_supposeNothing_0  kX5_begin Q _)
  · unfold B_X5_supposeNothing_0
    refine as_aload_n X (by decide +kernel : decode cX5_supposeNothing 0 = .ok (.aload_n 0, 1)) rfl ?_
    refine as_lload_n X (by decide +kernel : decode cX5_supposeNothing 1 = .ok (.lload_n 1, 1)) rfl ?_
    refine as_bipush X (by decide +kernel : decode cX5_supposeNothing 2 = .ok (.bipush (-4), 2)) rfl ?_
    refine as_aload_n X (by decide +kernel : decode cX5_supposeNothing 4 = .ok (.aload_n 0, 1)) rfl ?_
    refine as_get X fc_X5 (by decide +kernel : decode cX5_supposeNothing 5 = .ok (.getfield 50, 3)) (by decide) fl_X5_50 ?_
    refine as_cv X h_X5_begin rfl (by decide +kernel : decode cX5_supposeNothing 8 = .ok (.invokevirtual 57, 3)) dn_X5_begin ml_X5_57 im_X5_begin se_X5_begin ini_X5 co_X5_begin R_X5_begin ?_
    exact as_rv X hQ hr (by decide +kernel : decode cX5_supposeNothing 11 = .ok (.return_, 1))

def B_X5_begin_0 (kX5_marksOf : am_T) (Q : am_Q) (G : Nat → am_K) : am_K := (ak_al 0 (ak_ll 1 (ak_putl 3 7 (ak_al 0 (ak_il 3 (ak_puti 3 8 (ak_al 0 (ak_il 4 (ak_puti 3 11 (ak_c (.int 0) (ak_is 5 (G 19))))))))))))
def B_X5_begin_19 (kX5_marksOf : am_T) (Q : am_Q) (G : Nat → am_K) : am_K := (ak_il 5 (ak_al 0 (ak_get 3 4 (ak_get 1 3 (ak_ic (fun x y => y ≤ x) (ak_rv Q) (ak_al 0 (ak_get 3 6 (ak_il 5 (ak_al 0 (ak_al 0 (ak_get 3 4 (ak_get 1 0 (ak_il 5 (ak_lald (ak_cv 2 3 kX5_marksOf (ak_iast (ak_ii 5 1 (G 19))))))))))))))))))
def cl_X5_begin (kX5_marksOf : am_T) (Q : am_Q) (G : Nat → am_K) : Prop := am_N G 0 (B_X5_begin_0 kX5_marksOf Q G) ∧ am_N G 19 (B_X5_begin_19 kX5_marksOf Q G)
def WP_X5_begin (kX5_marksOf : am_T) : am_T := fun av h Q => (lg_sl av).length ≤ 6 ∧ ∀ G, cl_X5_begin kX5_marksOf Q G → G 0 (am_ent 6 av) [] h
set_option maxHeartbeats 4000000 in
set_option maxRecDepth 100000 in
theorem s_X5_begin {mX5_marksOf : Room} {kX5_marksOf : am_T} (h_X5_marksOf : am_S false yX5_marksOf (am_ws yX5_marksOf cX5_marksOf 5 (some .int)) mX5_marksOf kX5_marksOf) {rm : Room} (hz : rm.cells = 0 ∧ rm.slots = 0) (R_X5_marksOf : mX5_marksOf.frames + 1 ≤ rm.frames ∧ 8 + (5 + 11) + mX5_marksOf.locals ≤ rm.locals) : am_S false yX5_begin (am_ws yX5_begin cX5_begin 6 none) rm (WP_X5_begin kX5_marksOf) := by
  refine am_S.of (fun _ => hz) (by decide +kernel) (fun h0 Q G => cl_X5_begin kX5_marksOf Q G) ?_
  intro p l e s m args below meth c D h0 Q X hr hnm hQ
  refine ⟨?_, ?_⟩
  · unfold B_X5_begin_0
    refine as_aload_n X (by decide +kernel : decode cX5_begin 0 = .ok (.aload_n 0, 1)) rfl ?_
    refine as_lload_n X (by decide +kernel : decode cX5_begin 1 = .ok (.lload_n 1, 1)) rfl ?_
    refine as_putl X fc_X5 (by decide +kernel : decode cX5_begin 2 = .ok (.putfield 61, 3)) (by decide) fl_X5_61 (Or.inl rfl) rfl ?_
    refine as_aload_n X (by decide +kernel : decode cX5_begin 5 = .ok (.aload_n 0, 1)) rfl ?_
    refine as_iload_n X (by decide +kernel : decode cX5_begin 6 = .ok (.iload_n 3, 1)) rfl ?_
    refine as_puti X fc_X5 (by decide +kernel : decode cX5_begin 7 = .ok (.putfield 32, 3)) (by decide) fl_X5_32 (Or.inl rfl) rfl ?_
    refine as_aload_n X (by decide +kernel : decode cX5_begin 10 = .ok (.aload_n 0, 1)) rfl ?_
    refine as_iload X (by decide +kernel : decode cX5_begin 11 = .ok (.iload 4, 2)) ?_
    refine as_puti X fc_X5 (by decide +kernel : decode cX5_begin 13 = .ok (.putfield 65, 3)) (by decide) fl_X5_65 (Or.inl rfl) rfl ?_
    refine as_iconst X (by decide +kernel : decode cX5_begin 16 = .ok (.iconst 0, 1)) rfl ?_
    refine as_istore X (by decide +kernel : decode cX5_begin 17 = .ok (.istore 5, 2)) ?_
    exact fun _ _ _ h => h
  · unfold B_X5_begin_19
    refine as_iload X (by decide +kernel : decode cX5_begin 19 = .ok (.iload 5, 2)) ?_
    refine as_aload_n X (by decide +kernel : decode cX5_begin 21 = .ok (.aload_n 0, 1)) rfl ?_
    refine as_get X fc_X5 (by decide +kernel : decode cX5_begin 22 = .ok (.getfield 40, 3)) (by decide) fl_X5_40 ?_
    refine as_get X fc_X1 (by decide +kernel : decode cX5_begin 25 = .ok (.getfield 68, 3)) (by decide) fl_X5_68 ?_
    refine as_ic_ge X (tgt := 58) (by decide +kernel : decode cX5_begin 28 = .ok (.if_icmp .ge 30, 3)) (by decide) ?_ ?_
    · exact as_rv X hQ hr (by decide +kernel : decode cX5_begin 58 = .ok (.return_, 1))
    · refine as_aload_n X (by decide +kernel : decode cX5_begin 31 = .ok (.aload_n 0, 1)) rfl ?_
      refine as_get X fc_X5 (by decide +kernel : decode cX5_begin 32 = .ok (.getfield 28, 3)) (by decide) fl_X5_28 ?_
      refine as_iload X (by decide +kernel : decode cX5_begin 35 = .ok (.iload 5, 2)) ?_
      refine as_aload_n X (by decide +kernel : decode cX5_begin 37 = .ok (.aload_n 0, 1)) rfl ?_
      refine as_aload_n X (by decide +kernel : decode cX5_begin 38 = .ok (.aload_n 0, 1)) rfl ?_
      refine as_get X fc_X5 (by decide +kernel : decode cX5_begin 39 = .ok (.getfield 40, 3)) (by decide) fl_X5_40 ?_
      refine as_get X fc_X1 (by decide +kernel : decode cX5_begin 42 = .ok (.getfield 73, 3)) (by decide) fl_X5_73 ?_
      refine as_iload X (by decide +kernel : decode cX5_begin 45 = .ok (.iload 5, 2)) ?_
      refine as_laload X (by decide +kernel : decode cX5_begin 47 = .ok (.laload, 1)) ?_
      refine as_cv X h_X5_marksOf rfl (by decide +kernel : decode cX5_begin 48 = .ok (.invokevirtual 77, 3)) dn_X5_marksOf ml_X5_77 im_X5_marksOf se_X5_marksOf ini_X5 co_X5_marksOf R_X5_marksOf ?_
      refine as_iastore X (by decide +kernel : decode cX5_begin 51 = .ok (.iastore, 1)) ?_
      refine as_iinc X (by decide +kernel : decode cX5_begin 52 = .ok (.iinc 5 1, 3)) rfl ?_
      refine as_goto X (tgt := 19) (by decide +kernel : decode cX5_begin 55 = .ok (.goto (-36), 3)) (by decide) ?_
      exact fun _ _ _ h => h

def B_X5_marksOf_0 (Q : am_Q) (G : Nat → am_K) : am_K := (ak_c (.int 0) (ak_is 3 (ak_c (.int 0) (ak_is 4 (G 5)))))
def B_X5_marksOf_5 (Q : am_Q) (G : Nat → am_K) : am_K := (ak_il 4 (ak_al 0 (ak_get 3 3 (ak_get 0 3 (ak_ic (fun x y => y ≤ x) (ak_il 3 (ak_ri Q)) (ak_il 4 (ak_al 0 (ak_get 3 8 (ak_ic (fun x y => x = y) (G 69) (ak_al 0 (ak_get 3 3 (ak_get 0 2 (ak_il 4 (ak_iald (ak_if (fun x => x = 0) (G 69) (ak_al 0 (ak_get 3 3 (ak_get 0 0 (ak_il 4 (ak_lald (ak_ll 1 (ak_lc (ak_if (fun x => x = 0) (ak_il 3 (ak_c (.int 1) (ak_al 0 (ak_get 3 3 (ak_get 0 2 (ak_il 4 (ak_iald (ak_ib (fun x y => x <<< (y &&& 31)) (ak_ib (fun x y => x ||| y) (ak_is 3 (G 69))))))))))) (G 69))))))))))))))))))))))))
def B_X5_marksOf_69 (Q : am_Q) (G : Nat → am_K) : am_K := (ak_ii 4 1 (G 5))
def cl_X5_marksOf (Q : am_Q) (G : Nat → am_K) : Prop := am_N G 0 (B_X5_marksOf_0 Q G) ∧ am_N G 5 (B_X5_marksOf_5 Q G) ∧ am_N G 69 (B_X5_marksOf_69 Q G)
def WP_X5_marksOf : am_T := fun av h Q => (lg_sl av).length ≤ 5 ∧ ∀ G, cl_X5_marksOf Q G → G 0 (am_ent 5 av) [] h
set_option maxHeartbeats 4000000 in
set_option maxRecDepth 100000 in
theorem s_X5_marksOf {rm : Room} (hz : rm.cells = 0 ∧ rm.slots = 0) : am_S false yX5_marksOf (am_ws yX5_marksOf cX5_marksOf 5 (some .int)) rm (WP_X5_marksOf) := by
  refine am_S.of (fun _ => hz) (by decide +kernel) (fun h0 Q G => cl_X5_marksOf Q G) ?_
  intro p l e s m args below meth c D h0 Q X hr hnm hQ
  refine ⟨?_, ?_, ?_⟩
  · unfold B_X5_marksOf_0
    refine as_iconst X (by decide +kernel : decode cX5_marksOf 0 = .ok (.iconst 0, 1)) rfl ?_
    refine as_istore_n X (by decide +kernel : decode cX5_marksOf 1 = .ok (.istore_n 3, 1)) rfl ?_
    refine as_iconst X (by decide +kernel : decode cX5_marksOf 2 = .ok (.iconst 0, 1)) rfl ?_
    refine as_istore X (by decide +kernel : decode cX5_marksOf 3 = .ok (.istore 4, 2)) ?_
    exact fun _ _ _ h => h
  · unfold B_X5_marksOf_5
    refine as_iload X (by decide +kernel : decode cX5_marksOf 5 = .ok (.iload 4, 2)) ?_
    refine as_aload_n X (by decide +kernel : decode cX5_marksOf 7 = .ok (.aload_n 0, 1)) rfl ?_
    refine as_get X fc_X5 (by decide +kernel : decode cX5_marksOf 8 = .ok (.getfield 36, 3)) (by decide) fl_X5_36 ?_
    refine as_get X fc_X0 (by decide +kernel : decode cX5_marksOf 11 = .ok (.getfield 81, 3)) (by decide) fl_X5_81 ?_
    refine as_ic_ge X (tgt := 75) (by decide +kernel : decode cX5_marksOf 14 = .ok (.if_icmp .ge 61, 3)) (by decide) ?_ ?_
    · refine as_iload_n X (by decide +kernel : decode cX5_marksOf 75 = .ok (.iload_n 3, 1)) rfl ?_
      exact as_ri X hQ hr (by decide +kernel : decode cX5_marksOf 76 = .ok (.ireturn, 1))
    · refine as_iload X (by decide +kernel : decode cX5_marksOf 17 = .ok (.iload 4, 2)) ?_
      refine as_aload_n X (by decide +kernel : decode cX5_marksOf 19 = .ok (.aload_n 0, 1)) rfl ?_
      refine as_get X fc_X5 (by decide +kernel : decode cX5_marksOf 20 = .ok (.getfield 32, 3)) (by decide) fl_X5_32 ?_
      refine as_ic_eq X (tgt := 69) (by decide +kernel : decode cX5_marksOf 23 = .ok (.if_icmp .eq 46, 3)) (by decide) ?_ ?_
      · exact fun _ _ _ h => h
      · refine as_aload_n X (by decide +kernel : decode cX5_marksOf 26 = .ok (.aload_n 0, 1)) rfl ?_
        refine as_get X fc_X5 (by decide +kernel : decode cX5_marksOf 27 = .ok (.getfield 36, 3)) (by decide) fl_X5_36 ?_
        refine as_get X fc_X0 (by decide +kernel : decode cX5_marksOf 30 = .ok (.getfield 84, 3)) (by decide) fl_X5_84 ?_
        refine as_iload X (by decide +kernel : decode cX5_marksOf 33 = .ok (.iload 4, 2)) ?_
        refine as_iaload X (by decide +kernel : decode cX5_marksOf 35 = .ok (.iaload, 1)) ?_
        refine as_if_eq X (tgt := 69) (by decide +kernel : decode cX5_marksOf 36 = .ok (.ifCond .eq 33, 3)) (by decide) ?_ ?_
        · exact fun _ _ _ h => h
        · refine as_aload_n X (by decide +kernel : decode cX5_marksOf 39 = .ok (.aload_n 0, 1)) rfl ?_
          refine as_get X fc_X5 (by decide +kernel : decode cX5_marksOf 40 = .ok (.getfield 36, 3)) (by decide) fl_X5_36 ?_
          refine as_get X fc_X0 (by decide +kernel : decode cX5_marksOf 43 = .ok (.getfield 87, 3)) (by decide) fl_X5_87 ?_
          refine as_iload X (by decide +kernel : decode cX5_marksOf 46 = .ok (.iload 4, 2)) ?_
          refine as_laload X (by decide +kernel : decode cX5_marksOf 48 = .ok (.laload, 1)) ?_
          refine as_lload_n X (by decide +kernel : decode cX5_marksOf 49 = .ok (.lload_n 1, 1)) rfl ?_
          refine as_lcmp X (by decide +kernel : decode cX5_marksOf 50 = .ok (.lcmp, 1)) ?_
          refine as_if_ne X (tgt := 69) (by decide +kernel : decode cX5_marksOf 51 = .ok (.ifCond .ne 18, 3)) (by decide) ?_ ?_
          · refine as_iload_n X (by decide +kernel : decode cX5_marksOf 54 = .ok (.iload_n 3, 1)) rfl ?_
            refine as_iconst X (by decide +kernel : decode cX5_marksOf 55 = .ok (.iconst 1, 1)) rfl ?_
            refine as_aload_n X (by decide +kernel : decode cX5_marksOf 56 = .ok (.aload_n 0, 1)) rfl ?_
            refine as_get X fc_X5 (by decide +kernel : decode cX5_marksOf 57 = .ok (.getfield 36, 3)) (by decide) fl_X5_36 ?_
            refine as_get X fc_X0 (by decide +kernel : decode cX5_marksOf 60 = .ok (.getfield 84, 3)) (by decide) fl_X5_84 ?_
            refine as_iload X (by decide +kernel : decode cX5_marksOf 63 = .ok (.iload 4, 2)) ?_
            refine as_iaload X (by decide +kernel : decode cX5_marksOf 65 = .ok (.iaload, 1)) ?_
            refine as_ishl X (by decide +kernel : decode cX5_marksOf 66 = .ok (.ishl, 1)) ?_
            refine as_ior X (by decide +kernel : decode cX5_marksOf 67 = .ok (.ior, 1)) ?_
            refine as_istore_n X (by decide +kernel : decode cX5_marksOf 68 = .ok (.istore_n 3, 1)) rfl ?_
            exact fun _ _ _ h => h
          · exact fun _ _ _ h => h
  · unfold B_X5_marksOf_69
    refine as_iinc X (by decide +kernel : decode cX5_marksOf 69 = .ok (.iinc 4 1, 3)) rfl ?_
    refine as_goto X (tgt := 5) (by decide +kernel : decode cX5_marksOf 72 = .ok (.goto (-67), 3)) (by decide) ?_
    exact fun _ _ _ h => h

def B_X5_stampNow_0 (Q : am_Q) (G : Nat → am_K) : am_K := (ak_al 0 (ak_get 3 11 (ak_ri Q)))
def cl_X5_stampNow (Q : am_Q) (G : Nat → am_K) : Prop := am_N G 0 (B_X5_stampNow_0 Q G)
def WP_X5_stampNow : am_T := fun av h Q => (lg_sl av).length ≤ 1 ∧ ∀ G, cl_X5_stampNow Q G → G 0 (am_ent 1 av) [] h
set_option maxHeartbeats 4000000 in
set_option maxRecDepth 100000 in
theorem s_X5_stampNow {rm : Room} (hz : rm.cells = 0 ∧ rm.slots = 0) : am_S false yX5_stampNow (am_ws yX5_stampNow cX5_stampNow 1 (some .int)) rm (WP_X5_stampNow) := by
  refine am_S.of (fun _ => hz) (by decide +kernel) (fun h0 Q G => cl_X5_stampNow Q G) ?_
  intro p l e s m args below meth c D h0 Q X hr hnm hQ
  show am_N _ 0 (B_X5_stampNow_0  Q _)
  · unfold B_X5_stampNow_0
    refine as_aload_n X (by decide +kernel : decode cX5_stampNow 0 = .ok (.aload_n 0, 1)) rfl ?_
    refine as_get X fc_X5 (by decide +kernel : decode cX5_stampNow 1 = .ok (.getfield 65, 3)) (by decide) fl_X5_65 ?_
    exact as_ri X hQ hr (by decide +kernel : decode cX5_stampNow 4 = .ok (.ireturn, 1))

def B_X5_marked_0 (kX1_has : am_T) (Q : am_Q) (G : Nat → am_K) : am_K := (ak_al 0 (ak_get 3 4 (ak_il 1 (ak_cv 2 1 kX1_has (ak_if (fun x => x = 0) (G 29) (ak_al 0 (ak_get 3 6 (ak_il 1 (ak_iald (ak_il 2 (ak_ib (fun x y => x >>> (y &&& 31)) (ak_c (.int 1) (ak_ib (fun x y => x &&& y) (ak_c (.int 1) (ak_ic (fun x y => x = y) (ak_c (.int 1) (G 30)) (G 29))))))))))))))))
def B_X5_marked_29 (kX1_has : am_T) (Q : am_Q) (G : Nat → am_K) : am_K := (ak_c (.int 0) (G 30))
def B_X5_marked_30 (kX1_has : am_T) (Q : am_Q) (G : Nat → am_K) : am_K := (ak_rz Q)
def cl_X5_marked (kX1_has : am_T) (Q : am_Q) (G : Nat → am_K) : Prop := am_N G 0 (B_X5_marked_0 kX1_has Q G) ∧ am_N G 29 (B_X5_marked_29 kX1_has Q G) ∧ am_N G 30 (B_X5_marked_30 kX1_has Q G)
def WP_X5_marked (kX1_has : am_T) : am_T := fun av h Q => (lg_sl av).length ≤ 3 ∧ ∀ G, cl_X5_marked kX1_has Q G → G 0 (am_ent 3 av) [] h
set_option maxHeartbeats 4000000 in
set_option maxRecDepth 100000 in
theorem s_X5_marked {mX1_has : Room} {kX1_has : am_T} (h_X1_has : am_S false yX1_has (am_ws yX1_has cX1_has 2 (some .boolean)) mX1_has kX1_has) {rm : Room} (hz : rm.cells = 0 ∧ rm.slots = 0) (R_X1_has : mX1_has.frames + 1 ≤ rm.frames ∧ 8 + (2 + 11) + mX1_has.locals ≤ rm.locals) : am_S false yX5_marked (am_ws yX5_marked cX5_marked 3 (some .boolean)) rm (WP_X5_marked kX1_has) := by
  refine am_S.of (fun _ => hz) (by decide +kernel) (fun h0 Q G => cl_X5_marked kX1_has Q G) ?_
  intro p l e s m args below meth c D h0 Q X hr hnm hQ
  refine ⟨?_, ?_, ?_⟩
  · unfold B_X5_marked_0
    refine as_aload_n X (by decide +kernel : decode cX5_marked 0 = .ok (.aload_n 0, 1)) rfl ?_
    refine as_get X fc_X5 (by decide +kernel : decode cX5_marked 1 = .ok (.getfield 40, 3)) (by decide) fl_X5_40 ?_
    refine as_iload_n X (by decide +kernel : decode cX5_marked 4 = .ok (.iload_n 1, 1)) rfl ?_
    refine as_cv X h_X1_has rfl (by decide +kernel : decode cX5_marked 5 = .ok (.invokevirtual 88, 3)) dn_X1_has ml_X5_88 im_X1_has se_X1_has ini_X1 co_X1_has R_X1_has ?_
    refine as_if_eq X (tgt := 29) (by decide +kernel : decode cX5_marked 8 = .ok (.ifCond .eq 21, 3)) (by decide) ?_ ?_
    · exact fun _ _ _ h => h
    · refine as_aload_n X (by decide +kernel : decode cX5_marked 11 = .ok (.aload_n 0, 1)) rfl ?_
      refine as_get X fc_X5 (by decide +kernel : decode cX5_marked 12 = .ok (.getfield 28, 3)) (by decide) fl_X5_28 ?_
      refine as_iload_n X (by decide +kernel : decode cX5_marked 15 = .ok (.iload_n 1, 1)) rfl ?_
      refine as_iaload X (by decide +kernel : decode cX5_marked 16 = .ok (.iaload, 1)) ?_
      refine as_iload_n X (by decide +kernel : decode cX5_marked 17 = .ok (.iload_n 2, 1)) rfl ?_
      refine as_ishr X (by decide +kernel : decode cX5_marked 18 = .ok (.ishr, 1)) ?_
      refine as_iconst X (by decide +kernel : decode cX5_marked 19 = .ok (.iconst 1, 1)) rfl ?_
      refine as_iand X (by decide +kernel : decode cX5_marked 20 = .ok (.iand, 1)) ?_
      refine as_iconst X (by decide +kernel : decode cX5_marked 21 = .ok (.iconst 1, 1)) rfl ?_
      refine as_ic_ne X (tgt := 29) (by decide +kernel : decode cX5_marked 22 = .ok (.if_icmp .ne 7, 3)) (by decide) ?_ ?_
      · refine as_iconst X (by decide +kernel : decode cX5_marked 25 = .ok (.iconst 1, 1)) rfl ?_
        refine as_goto X (tgt := 30) (by decide +kernel : decode cX5_marked 26 = .ok (.goto 4, 3)) (by decide) ?_
        exact fun _ _ _ h => h
      · exact fun _ _ _ h => h
  · unfold B_X5_marked_29
    refine as_iconst X (by decide +kernel : decode cX5_marked 29 = .ok (.iconst 0, 1)) rfl ?_
    exact fun _ _ _ h => h
  · unfold B_X5_marked_30
    exact as_rz X hQ hr (by decide +kernel : decode cX5_marked 30 = .ok (.ireturn, 1))

def B_X5_parse_0 (kX6_opens : am_T) (kX5_isPossible : am_T) (kX5_pieceStart : am_T) (kX5_pieceEnd : am_T) (kX5_wholeAnswer : am_T) (kX5_piece : am_T) (kX6_costAt : am_T) (kX5_isLinked : am_T) (kX6_totalAt : am_T) (kX6_tiesAt : am_T) (kX6_add : am_T) (Q : am_Q) (G : Nat → am_K) : am_K := (ak_al 0 (ak_get 3 2 (ak_c (.int 0) (ak_al 0 (ak_get 3 11 (ak_cv 3 4 kX6_opens (ak_if (fun x => x = 0) (ak_c (.int 0) (ak_ri Q)) (ak_c (.int 0) (ak_is 1 (G 19))))))))))
def B_X5_parse_19 (kX6_opens : am_T) (kX5_isPossible : am_T) (kX5_pieceStart : am_T) (kX5_pieceEnd : am_T) (kX5_wholeAnswer : am_T) (kX5_piece : am_T) (kX6_costAt : am_T) (kX5_isLinked : am_T) (kX6_totalAt : am_T) (kX6_tiesAt : am_T) (kX6_add : am_T) (Q : am_Q) (G : Nat → am_K) : am_K := (ak_il 1 (ak_c (.int 4) (ak_ic (fun x y => y ≤ x) (ak_c (.int 0) (ak_ri Q)) (ak_al 0 (ak_il 1 (ak_cv 2 3 kX5_isPossible (ak_if (fun x => x = 0) (G 105) (ak_al 0 (ak_al 0 (ak_il 1 (ak_cv 2 3 kX5_pieceStart (ak_al 0 (ak_il 1 (ak_cv 2 3 kX5_pieceEnd (ak_al 0 (ak_cv 1 3 kX5_wholeAnswer (ak_cv 4 3 kX5_piece (ak_is 2 (ak_al 0 (ak_get 3 0 (ak_il 2 (ak_cv 2 4 kX6_costAt (ak_il 1 (ak_cs 1 kX5_isLinked (ak_if (fun x => x = 0) (ak_c (.int 0) (G 77)) (ak_al 0 (ak_get 3 5 (ak_c (.int 10) (ak_iald (G 77))))))))))))))))))))))))))))))
def B_X5_parse_77 (kX6_opens : am_T) (kX5_isPossible : am_T) (kX5_pieceStart : am_T) (kX5_pieceEnd : am_T) (kX5_wholeAnswer : am_T) (kX5_piece : am_T) (kX6_costAt : am_T) (kX5_isLinked : am_T) (kX6_totalAt : am_T) (kX6_tiesAt : am_T) (kX6_add : am_T) (Q : am_Q) (G : Nat → am_K) : am_K := (ak_ib (fun x y => x + y) (ak_is 3 (ak_al 0 (ak_get 3 2 (ak_c (.int 0) (ak_al 0 (ak_get 3 0 (ak_il 2 (ak_cv 2 4 kX6_totalAt (ak_il 3 (ak_al 0 (ak_get 3 0 (ak_il 2 (ak_cv 2 4 kX6_tiesAt (ak_il 1 (ak_cv 6 4 kX6_add (G 105)))))))))))))))))
def B_X5_parse_105 (kX6_opens : am_T) (kX5_isPossible : am_T) (kX5_pieceStart : am_T) (kX5_pieceEnd : am_T) (kX5_wholeAnswer : am_T) (kX5_piece : am_T) (kX6_costAt : am_T) (kX5_isLinked : am_T) (kX6_totalAt : am_T) (kX6_tiesAt : am_T) (kX6_add : am_T) (Q : am_Q) (G : Nat → am_K) : am_K := (ak_ii 1 1 (G 19))
def cl_X5_parse (kX6_opens : am_T) (kX5_isPossible : am_T) (kX5_pieceStart : am_T) (kX5_pieceEnd : am_T) (kX5_wholeAnswer : am_T) (kX5_piece : am_T) (kX6_costAt : am_T) (kX5_isLinked : am_T) (kX6_totalAt : am_T) (kX6_tiesAt : am_T) (kX6_add : am_T) (Q : am_Q) (G : Nat → am_K) : Prop := am_N G 0 (B_X5_parse_0 kX6_opens kX5_isPossible kX5_pieceStart kX5_pieceEnd kX5_wholeAnswer kX5_piece kX6_costAt kX5_isLinked kX6_totalAt kX6_tiesAt kX6_add Q G) ∧ am_N G 19 (B_X5_parse_19 kX6_opens kX5_isPossible kX5_pieceStart kX5_pieceEnd kX5_wholeAnswer kX5_piece kX6_costAt kX5_isLinked kX6_totalAt kX6_tiesAt kX6_add Q G) ∧ am_N G 77 (B_X5_parse_77 kX6_opens kX5_isPossible kX5_pieceStart kX5_pieceEnd kX5_wholeAnswer kX5_piece kX6_costAt kX5_isLinked kX6_totalAt kX6_tiesAt kX6_add Q G) ∧ am_N G 105 (B_X5_parse_105 kX6_opens kX5_isPossible kX5_pieceStart kX5_pieceEnd kX5_wholeAnswer kX5_piece kX6_costAt kX5_isLinked kX6_totalAt kX6_tiesAt kX6_add Q G)
def WP_X5_parse (kX6_opens : am_T) (kX5_isPossible : am_T) (kX5_pieceStart : am_T) (kX5_pieceEnd : am_T) (kX5_wholeAnswer : am_T) (kX5_piece : am_T) (kX6_costAt : am_T) (kX5_isLinked : am_T) (kX6_totalAt : am_T) (kX6_tiesAt : am_T) (kX6_add : am_T) : am_T := fun av h Q => (lg_sl av).length ≤ 4 ∧ ∀ G, cl_X5_parse kX6_opens kX5_isPossible kX5_pieceStart kX5_pieceEnd kX5_wholeAnswer kX5_piece kX6_costAt kX5_isLinked kX6_totalAt kX6_tiesAt kX6_add Q G → G 0 (am_ent 4 av) [] h
set_option maxHeartbeats 4000000 in
set_option maxRecDepth 100000 in
theorem s_X5_parse {mX6_opens : Room} {kX6_opens : am_T} (h_X6_opens : am_S false yX6_opens (am_ws yX6_opens cX6_opens 3 (some .boolean)) mX6_opens kX6_opens) {mX5_isPossible : Room} {kX5_isPossible : am_T} (h_X5_isPossible : am_S false yX5_isPossible (am_ws yX5_isPossible cX5_isPossible 3 (some .boolean)) mX5_isPossible kX5_isPossible) {mX5_pieceStart : Room} {kX5_pieceStart : am_T} (h_X5_pieceStart : am_S false yX5_pieceStart (am_ws yX5_pieceStart cX5_pieceStart 3 (some .int)) mX5_pieceStart kX5_pieceStart) {mX5_pieceEnd : Room} {kX5_pieceEnd : am_T} (h_X5_pieceEnd : am_S false yX5_pieceEnd (am_ws yX5_pieceEnd cX5_pieceEnd 3 (some .int)) mX5_pieceEnd kX5_pieceEnd) {mX5_wholeAnswer : Room} {kX5_wholeAnswer : am_T} (h_X5_wholeAnswer : am_S false yX5_wholeAnswer (am_ws yX5_wholeAnswer cX5_wholeAnswer 1 (some .int)) mX5_wholeAnswer kX5_wholeAnswer) {mX5_piece : Room} {kX5_piece : am_T} (h_X5_piece : am_S false yX5_piece (am_ws yX5_piece cX5_piece 6 (some .int)) mX5_piece kX5_piece) {mX6_costAt : Room} {kX6_costAt : am_T} (h_X6_costAt : am_S false yX6_costAt (am_ws yX6_costAt cX6_costAt 2 (some .int)) mX6_costAt kX6_costAt) {mX5_isLinked : Room} {kX5_isLinked : am_T} (h_X5_isLinked : am_S false yX5_isLinked (am_ws yX5_isLinked cX5_isLinked 1 (some .boolean)) mX5_isLinked kX5_isLinked) {mX6_totalAt : Room} {kX6_totalAt : am_T} (h_X6_totalAt : am_S false yX6_totalAt (am_ws yX6_totalAt cX6_totalAt 2 (some .long)) mX6_totalAt kX6_totalAt) {mX6_tiesAt : Room} {kX6_tiesAt : am_T} (h_X6_tiesAt : am_S false yX6_tiesAt (am_ws yX6_tiesAt cX6_tiesAt 2 (some .long)) mX6_tiesAt kX6_tiesAt) {mX6_add : Room} {kX6_add : am_T} (h_X6_add : am_S false yX6_add (am_ws yX6_add cX6_add 8 none) mX6_add kX6_add) {rm : Room} (hz : rm.cells = 0 ∧ rm.slots = 0) (R_X6_opens : mX6_opens.frames + 1 ≤ rm.frames ∧ 8 + (3 + 11) + mX6_opens.locals ≤ rm.locals) (R_X5_isPossible : mX5_isPossible.frames + 1 ≤ rm.frames ∧ 8 + (3 + 11) + mX5_isPossible.locals ≤ rm.locals) (R_X5_pieceStart : mX5_pieceStart.frames + 1 ≤ rm.frames ∧ 8 + (3 + 11) + mX5_pieceStart.locals ≤ rm.locals) (R_X5_pieceEnd : mX5_pieceEnd.frames + 1 ≤ rm.frames ∧ 8 + (3 + 11) + mX5_pieceEnd.locals ≤ rm.locals) (R_X5_wholeAnswer : mX5_wholeAnswer.frames + 1 ≤ rm.frames ∧ 8 + (1 + 11) + mX5_wholeAnswer.locals ≤ rm.locals) (R_X5_piece : mX5_piece.frames + 1 ≤ rm.frames ∧ 8 + (6 + 11) + mX5_piece.locals ≤ rm.locals) (R_X6_costAt : mX6_costAt.frames + 1 ≤ rm.frames ∧ 8 + (2 + 11) + mX6_costAt.locals ≤ rm.locals) (R_X5_isLinked : mX5_isLinked.frames + 1 ≤ rm.frames ∧ 8 + (1 + 11) + mX5_isLinked.locals ≤ rm.locals) (R_X6_totalAt : mX6_totalAt.frames + 1 ≤ rm.frames ∧ 8 + (2 + 11) + mX6_totalAt.locals ≤ rm.locals) (R_X6_tiesAt : mX6_tiesAt.frames + 1 ≤ rm.frames ∧ 8 + (2 + 11) + mX6_tiesAt.locals ≤ rm.locals) (R_X6_add : mX6_add.frames + 1 ≤ rm.frames ∧ 8 + (8 + 11) + mX6_add.locals ≤ rm.locals) : am_S false yX5_parse (am_ws yX5_parse cX5_parse 4 (some .int)) rm (WP_X5_parse kX6_opens kX5_isPossible kX5_pieceStart kX5_pieceEnd kX5_wholeAnswer kX5_piece kX6_costAt kX5_isLinked kX6_totalAt kX6_tiesAt kX6_add) := by
  refine am_S.of (fun _ => hz) (by decide +kernel) (fun h0 Q G => cl_X5_parse kX6_opens kX5_isPossible kX5_pieceStart kX5_pieceEnd kX5_wholeAnswer kX5_piece kX6_costAt kX5_isLinked kX6_totalAt kX6_tiesAt kX6_add Q G) ?_
  intro p l e s m args below meth c D h0 Q X hr hnm hQ
  refine ⟨?_, ?_, ?_, ?_⟩
  · unfold B_X5_parse_0
    refine as_aload_n X (by decide +kernel : decode cX5_parse 0 = .ok (.aload_n 0, 1)) rfl ?_
    refine as_get X fc_X5 (by decide +kernel : decode cX5_parse 1 = .ok (.getfield 25, 3)) (by decide) fl_X5_25 ?_
    refine as_iconst X (by decide +kernel : decode cX5_parse 4 = .ok (.iconst 0, 1)) rfl ?_
    refine as_aload_n X (by decide +kernel : decode cX5_parse 5 = .ok (.aload_n 0, 1)) rfl ?_
    refine as_get X fc_X5 (by decide +kernel : decode cX5_parse 6 = .ok (.getfield 65, 3)) (by decide) fl_X5_65 ?_
    refine as_cv X h_X6_opens rfl (by decide +kernel : decode cX5_parse 9 = .ok (.invokevirtual 92, 3)) dn_X6_opens ml_X5_92 im_X6_opens se_X6_opens ini_X6 co_X6_opens R_X6_opens ?_
    refine as_if_ne X (tgt := 17) (by decide +kernel : decode cX5_parse 12 = .ok (.ifCond .ne 5, 3)) (by decide) ?_ ?_
    · refine as_iconst X (by decide +kernel : decode cX5_parse 15 = .ok (.iconst 0, 1)) rfl ?_
      exact as_ri X hQ hr (by decide +kernel : decode cX5_parse 16 = .ok (.ireturn, 1))
    · refine as_iconst X (by decide +kernel : decode cX5_parse 17 = .ok (.iconst 0, 1)) rfl ?_
      refine as_istore_n X (by decide +kernel : decode cX5_parse 18 = .ok (.istore_n 1, 1)) rfl ?_
      exact fun _ _ _ h => h
  · unfold B_X5_parse_19
    refine as_iload_n X (by decide +kernel : decode cX5_parse 19 = .ok (.iload_n 1, 1)) rfl ?_
    refine as_iconst X (by decide +kernel : decode cX5_parse 20 = .ok (.iconst 4, 1)) rfl ?_
    refine as_ic_ge X (tgt := 111) (by decide +kernel : decode cX5_parse 21 = .ok (.if_icmp .ge 90, 3)) (by decide) ?_ ?_
    · refine as_iconst X (by decide +kernel : decode cX5_parse 111 = .ok (.iconst 0, 1)) rfl ?_
      exact as_ri X hQ hr (by decide +kernel : decode cX5_parse 112 = .ok (.ireturn, 1))
    · refine as_aload_n X (by decide +kernel : decode cX5_parse 24 = .ok (.aload_n 0, 1)) rfl ?_
      refine as_iload_n X (by decide +kernel : decode cX5_parse 25 = .ok (.iload_n 1, 1)) rfl ?_
      refine as_cv X h_X5_isPossible rfl (by decide +kernel : decode cX5_parse 26 = .ok (.invokevirtual 96, 3)) dn_X5_isPossible ml_X5_96 im_X5_isPossible se_X5_isPossible ini_X5 co_X5_isPossible R_X5_isPossible ?_
      refine as_if_eq X (tgt := 105) (by decide +kernel : decode cX5_parse 29 = .ok (.ifCond .eq 76, 3)) (by decide) ?_ ?_
      · exact fun _ _ _ h => h
      · refine as_aload_n X (by decide +kernel : decode cX5_parse 32 = .ok (.aload_n 0, 1)) rfl ?_
        refine as_aload_n X (by decide +kernel : decode cX5_parse 33 = .ok (.aload_n 0, 1)) rfl ?_
        refine as_iload_n X (by decide +kernel : decode cX5_parse 34 = .ok (.iload_n 1, 1)) rfl ?_
        refine as_cv X h_X5_pieceStart rfl (by decide +kernel : decode cX5_parse 35 = .ok (.invokevirtual 99, 3)) dn_X5_pieceStart ml_X5_99 im_X5_pieceStart se_X5_pieceStart ini_X5 co_X5_pieceStart R_X5_pieceStart ?_
        refine as_aload_n X (by decide +kernel : decode cX5_parse 38 = .ok (.aload_n 0, 1)) rfl ?_
        refine as_iload_n X (by decide +kernel : decode cX5_parse 39 = .ok (.iload_n 1, 1)) rfl ?_
        refine as_cv X h_X5_pieceEnd rfl (by decide +kernel : decode cX5_parse 40 = .ok (.invokevirtual 103, 3)) dn_X5_pieceEnd ml_X5_103 im_X5_pieceEnd se_X5_pieceEnd ini_X5 co_X5_pieceEnd R_X5_pieceEnd ?_
        refine as_aload_n X (by decide +kernel : decode cX5_parse 43 = .ok (.aload_n 0, 1)) rfl ?_
        refine as_cv X h_X5_wholeAnswer rfl (by decide +kernel : decode cX5_parse 44 = .ok (.invokevirtual 106, 3)) dn_X5_wholeAnswer ml_X5_106 im_X5_wholeAnswer se_X5_wholeAnswer ini_X5 co_X5_wholeAnswer R_X5_wholeAnswer ?_
        refine as_cv X h_X5_piece rfl (by decide +kernel : decode cX5_parse 47 = .ok (.invokevirtual 110, 3)) dn_X5_piece ml_X5_110 im_X5_piece se_X5_piece ini_X5 co_X5_piece R_X5_piece ?_
        refine as_istore_n X (by decide +kernel : decode cX5_parse 50 = .ok (.istore_n 2, 1)) rfl ?_
        refine as_aload_n X (by decide +kernel : decode cX5_parse 51 = .ok (.aload_n 0, 1)) rfl ?_
        refine as_get X fc_X5 (by decide +kernel : decode cX5_parse 52 = .ok (.getfield 18, 3)) (by decide) fl_X5_18 ?_
        refine as_iload_n X (by decide +kernel : decode cX5_parse 55 = .ok (.iload_n 2, 1)) rfl ?_
        refine as_cv X h_X6_costAt rfl (by decide +kernel : decode cX5_parse 56 = .ok (.invokevirtual 114, 3)) dn_X6_costAt ml_X5_114 im_X6_costAt se_X6_costAt ini_X6 co_X6_costAt R_X6_costAt ?_
        refine as_iload_n X (by decide +kernel : decode cX5_parse 59 = .ok (.iload_n 1, 1)) rfl ?_
        refine as_cs X h_X5_isLinked (by decide +kernel : decode cX5_parse 60 = .ok (.invokestatic 117, 3)) dn_X5_isLinked ml_X5_117 st_X5_isLinked ini_X5 co_X5_isLinked R_X5_isLinked ?_
        refine as_if_eq X (tgt := 76) (by decide +kernel : decode cX5_parse 63 = .ok (.ifCond .eq 13, 3)) (by decide) ?_ ?_
        · refine as_iconst X (by decide +kernel : decode cX5_parse 76 = .ok (.iconst 0, 1)) rfl ?_
          exact fun _ _ _ h => h
        · refine as_aload_n X (by decide +kernel : decode cX5_parse 66 = .ok (.aload_n 0, 1)) rfl ?_
          refine as_get X fc_X5 (by decide +kernel : decode cX5_parse 67 = .ok (.getfield 44, 3)) (by decide) fl_X5_44 ?_
          refine as_bipush X (by decide +kernel : decode cX5_parse 70 = .ok (.bipush 10, 2)) rfl ?_
          refine as_iaload X (by decide +kernel : decode cX5_parse 72 = .ok (.iaload, 1)) ?_
          refine as_goto X (tgt := 77) (by decide +kernel : decode cX5_parse 73 = .ok (.goto 4, 3)) (by decide) ?_
          exact fun _ _ _ h => h
  · unfold B_X5_parse_77
    refine as_iadd X (by decide +kernel : decode cX5_parse 77 = .ok (.iadd, 1)) ?_
    refine as_istore_n X (by decide +kernel : decode cX5_parse 78 = .ok (.istore_n 3, 1)) rfl ?_
    refine as_aload_n X (by decide +kernel : decode cX5_parse 79 = .ok (.aload_n 0, 1)) rfl ?_
    refine as_get X fc_X5 (by decide +kernel : decode cX5_parse 80 = .ok (.getfield 25, 3)) (by decide) fl_X5_25 ?_
    refine as_iconst X (by decide +kernel : decode cX5_parse 83 = .ok (.iconst 0, 1)) rfl ?_
    refine as_aload_n X (by decide +kernel : decode cX5_parse 84 = .ok (.aload_n 0, 1)) rfl ?_
    refine as_get X fc_X5 (by decide +kernel : decode cX5_parse 85 = .ok (.getfield 18, 3)) (by decide) fl_X5_18 ?_
    refine as_iload_n X (by decide +kernel : decode cX5_parse 88 = .ok (.iload_n 2, 1)) rfl ?_
    refine as_cv X h_X6_totalAt rfl (by decide +kernel : decode cX5_parse 89 = .ok (.invokevirtual 120, 3)) dn_X6_totalAt ml_X5_120 im_X6_totalAt se_X6_totalAt ini_X6 co_X6_totalAt R_X6_totalAt ?_
    refine as_iload_n X (by decide +kernel : decode cX5_parse 92 = .ok (.iload_n 3, 1)) rfl ?_
    refine as_aload_n X (by decide +kernel : decode cX5_parse 93 = .ok (.aload_n 0, 1)) rfl ?_
    refine as_get X fc_X5 (by decide +kernel : decode cX5_parse 94 = .ok (.getfield 18, 3)) (by decide) fl_X5_18 ?_
    refine as_iload_n X (by decide +kernel : decode cX5_parse 97 = .ok (.iload_n 2, 1)) rfl ?_
    refine as_cv X h_X6_tiesAt rfl (by decide +kernel : decode cX5_parse 98 = .ok (.invokevirtual 124, 3)) dn_X6_tiesAt ml_X5_124 im_X6_tiesAt se_X6_tiesAt ini_X6 co_X6_tiesAt R_X6_tiesAt ?_
    refine as_iload_n X (by decide +kernel : decode cX5_parse 101 = .ok (.iload_n 1, 1)) rfl ?_
    refine as_cv X h_X6_add rfl (by decide +kernel : decode cX5_parse 102 = .ok (.invokevirtual 127, 3)) dn_X6_add ml_X5_127 im_X6_add se_X6_add ini_X6 co_X6_add R_X6_add ?_
    exact fun _ _ _ h => h
  · unfold B_X5_parse_105
    refine as_iinc X (by decide +kernel : decode cX5_parse 105 = .ok (.iinc 1 1, 3)) rfl ?_
    refine as_goto X (tgt := 19) (by decide +kernel : decode cX5_parse 108 = .ok (.goto (-89), 3)) (by decide) ?_
    exact fun _ _ _ h => h

def B_X5_isDefinedFirst_0 (Q : am_Q) (G : Nat → am_K) : am_K := (ak_il 0 (ak_c (.int 2) (ak_ic (fun x y => y ≤ x) (ak_c (.int 0) (G 10)) (ak_c (.int 1) (G 10)))))
def B_X5_isDefinedFirst_10 (Q : am_Q) (G : Nat → am_K) : am_K := (ak_rz Q)
def cl_X5_isDefinedFirst (Q : am_Q) (G : Nat → am_K) : Prop := am_N G 0 (B_X5_isDefinedFirst_0 Q G) ∧ am_N G 10 (B_X5_isDefinedFirst_10 Q G)
def WP_X5_isDefinedFirst : am_T := fun av h Q => (lg_sl av).length ≤ 1 ∧ ∀ G, cl_X5_isDefinedFirst Q G → G 0 (am_ent 1 av) [] h
set_option maxHeartbeats 4000000 in
set_option maxRecDepth 100000 in
theorem s_X5_isDefinedFirst {rm : Room} (hz : rm.cells = 0 ∧ rm.slots = 0) : am_S false yX5_isDefinedFirst (am_ws yX5_isDefinedFirst cX5_isDefinedFirst 1 (some .boolean)) rm (WP_X5_isDefinedFirst) := by
  refine am_S.of (fun _ => hz) (by decide +kernel) (fun h0 Q G => cl_X5_isDefinedFirst Q G) ?_
  intro p l e s m args below meth c D h0 Q X hr hnm hQ
  refine ⟨?_, ?_⟩
  · unfold B_X5_isDefinedFirst_0
    refine as_iload_n X (by decide +kernel : decode cX5_isDefinedFirst 0 = .ok (.iload_n 0, 1)) rfl ?_
    refine as_iconst X (by decide +kernel : decode cX5_isDefinedFirst 1 = .ok (.iconst 2, 1)) rfl ?_
    refine as_ic_ge X (tgt := 9) (by decide +kernel : decode cX5_isDefinedFirst 2 = .ok (.if_icmp .ge 7, 3)) (by decide) ?_ ?_
    · refine as_iconst X (by decide +kernel : decode cX5_isDefinedFirst 9 = .ok (.iconst 0, 1)) rfl ?_
      exact fun _ _ _ h => h
    · refine as_iconst X (by decide +kernel : decode cX5_isDefinedFirst 5 = .ok (.iconst 1, 1)) rfl ?_
      refine as_goto X (tgt := 10) (by decide +kernel : decode cX5_isDefinedFirst 6 = .ok (.goto 4, 3)) (by decide) ?_
      exact fun _ _ _ h => h
  · unfold B_X5_isDefinedFirst_10
    exact as_rz X hQ hr (by decide +kernel : decode cX5_isDefinedFirst 10 = .ok (.ireturn, 1))

def B_X5_isLinked_0 (Q : am_Q) (G : Nat → am_K) : am_K := (ak_il 0 (ak_c (.int 1) (ak_ib (fun x y => x &&& y) (ak_c (.int 1) (ak_ic (fun x y => x = y) (ak_c (.int 1) (G 12)) (ak_c (.int 0) (G 12)))))))
def B_X5_isLinked_12 (Q : am_Q) (G : Nat → am_K) : am_K := (ak_rz Q)
def cl_X5_isLinked (Q : am_Q) (G : Nat → am_K) : Prop := am_N G 0 (B_X5_isLinked_0 Q G) ∧ am_N G 12 (B_X5_isLinked_12 Q G)
def WP_X5_isLinked : am_T := fun av h Q => (lg_sl av).length ≤ 1 ∧ ∀ G, cl_X5_isLinked Q G → G 0 (am_ent 1 av) [] h
set_option maxHeartbeats 4000000 in
set_option maxRecDepth 100000 in
theorem s_X5_isLinked {rm : Room} (hz : rm.cells = 0 ∧ rm.slots = 0) : am_S false yX5_isLinked (am_ws yX5_isLinked cX5_isLinked 1 (some .boolean)) rm (WP_X5_isLinked) := by
  refine am_S.of (fun _ => hz) (by decide +kernel) (fun h0 Q G => cl_X5_isLinked Q G) ?_
  intro p l e s m args below meth c D h0 Q X hr hnm hQ
  refine ⟨?_, ?_⟩
  · unfold B_X5_isLinked_0
    refine as_iload_n X (by decide +kernel : decode cX5_isLinked 0 = .ok (.iload_n 0, 1)) rfl ?_
    refine as_iconst X (by decide +kernel : decode cX5_isLinked 1 = .ok (.iconst 1, 1)) rfl ?_
    refine as_iand X (by decide +kernel : decode cX5_isLinked 2 = .ok (.iand, 1)) ?_
    refine as_iconst X (by decide +kernel : decode cX5_isLinked 3 = .ok (.iconst 1, 1)) rfl ?_
    refine as_ic_ne X (tgt := 11) (by decide +kernel : decode cX5_isLinked 4 = .ok (.if_icmp .ne 7, 3)) (by decide) ?_ ?_
    · refine as_iconst X (by decide +kernel : decode cX5_isLinked 7 = .ok (.iconst 1, 1)) rfl ?_
      refine as_goto X (tgt := 12) (by decide +kernel : decode cX5_isLinked 8 = .ok (.goto 4, 3)) (by decide) ?_
      exact fun _ _ _ h => h
    · refine as_iconst X (by decide +kernel : decode cX5_isLinked 11 = .ok (.iconst 0, 1)) rfl ?_
      exact fun _ _ _ h => h
  · unfold B_X5_isLinked_12
    exact as_rz X hQ hr (by decide +kernel : decode cX5_isLinked 12 = .ok (.ireturn, 1))

def B_X5_isPossible_0 (kX5_isDefinedFirst : am_T) (kX1_wordAt : am_T) (kX5_maySay : am_T) (kX5_isLinked : am_T) (kX5_marked : am_T) (Q : am_Q) (G : Nat → am_K) : am_K := (ak_il 1 (ak_cs 1 kX5_isDefinedFirst (ak_is 2 (ak_al 0 (ak_al 0 (ak_get 3 4 (ak_il 2 (ak_if (fun x => x = 0) (ak_al 0 (ak_get 3 4 (ak_get 1 3 (ak_c (.int 1) (ak_ib (fun x y => x - y) (G 27)))))) (ak_c (.int 0) (G 27))))))))))
def B_X5_isPossible_27 (kX5_isDefinedFirst : am_T) (kX1_wordAt : am_T) (kX5_maySay : am_T) (kX5_isLinked : am_T) (kX5_marked : am_T) (Q : am_Q) (G : Nat → am_K) : am_K := (ak_cv 2 1 kX1_wordAt (ak_al 0 (ak_get 3 7 (ak_cv 3 3 kX5_maySay (ak_if (fun x => x = 0) (G 77) (ak_il 1 (ak_cs 1 kX5_isLinked (ak_if (fun x => x = 0) (G 73) (ak_al 0 (ak_il 2 (ak_if (fun x => x = 0) (ak_al 0 (ak_get 3 4 (ak_get 1 3 (ak_c (.int 2) (ak_ib (fun x y => x - y) (G 65)))))) (ak_c (.int 1) (G 65)))))))))))))
def B_X5_isPossible_65 (kX5_isDefinedFirst : am_T) (kX1_wordAt : am_T) (kX5_maySay : am_T) (kX5_isLinked : am_T) (kX5_marked : am_T) (Q : am_Q) (G : Nat → am_K) : am_K := (ak_c (.int 10) (ak_cv 3 3 kX5_marked (ak_if (fun x => x = 0) (G 77) (G 73))))
def B_X5_isPossible_73 (kX5_isDefinedFirst : am_T) (kX1_wordAt : am_T) (kX5_maySay : am_T) (kX5_isLinked : am_T) (kX5_marked : am_T) (Q : am_Q) (G : Nat → am_K) : am_K := (ak_c (.int 1) (G 78))
def B_X5_isPossible_77 (kX5_isDefinedFirst : am_T) (kX1_wordAt : am_T) (kX5_maySay : am_T) (kX5_isLinked : am_T) (kX5_marked : am_T) (Q : am_Q) (G : Nat → am_K) : am_K := (ak_c (.int 0) (G 78))
def B_X5_isPossible_78 (kX5_isDefinedFirst : am_T) (kX1_wordAt : am_T) (kX5_maySay : am_T) (kX5_isLinked : am_T) (kX5_marked : am_T) (Q : am_Q) (G : Nat → am_K) : am_K := (ak_rz Q)
def cl_X5_isPossible (kX5_isDefinedFirst : am_T) (kX1_wordAt : am_T) (kX5_maySay : am_T) (kX5_isLinked : am_T) (kX5_marked : am_T) (Q : am_Q) (G : Nat → am_K) : Prop := am_N G 0 (B_X5_isPossible_0 kX5_isDefinedFirst kX1_wordAt kX5_maySay kX5_isLinked kX5_marked Q G) ∧ am_N G 27 (B_X5_isPossible_27 kX5_isDefinedFirst kX1_wordAt kX5_maySay kX5_isLinked kX5_marked Q G) ∧ am_N G 65 (B_X5_isPossible_65 kX5_isDefinedFirst kX1_wordAt kX5_maySay kX5_isLinked kX5_marked Q G) ∧ am_N G 73 (B_X5_isPossible_73 kX5_isDefinedFirst kX1_wordAt kX5_maySay kX5_isLinked kX5_marked Q G) ∧ am_N G 77 (B_X5_isPossible_77 kX5_isDefinedFirst kX1_wordAt kX5_maySay kX5_isLinked kX5_marked Q G) ∧ am_N G 78 (B_X5_isPossible_78 kX5_isDefinedFirst kX1_wordAt kX5_maySay kX5_isLinked kX5_marked Q G)
def WP_X5_isPossible (kX5_isDefinedFirst : am_T) (kX1_wordAt : am_T) (kX5_maySay : am_T) (kX5_isLinked : am_T) (kX5_marked : am_T) : am_T := fun av h Q => (lg_sl av).length ≤ 3 ∧ ∀ G, cl_X5_isPossible kX5_isDefinedFirst kX1_wordAt kX5_maySay kX5_isLinked kX5_marked Q G → G 0 (am_ent 3 av) [] h
set_option maxHeartbeats 4000000 in
set_option maxRecDepth 100000 in
theorem s_X5_isPossible {mX5_isDefinedFirst : Room} {kX5_isDefinedFirst : am_T} (h_X5_isDefinedFirst : am_S false yX5_isDefinedFirst (am_ws yX5_isDefinedFirst cX5_isDefinedFirst 1 (some .boolean)) mX5_isDefinedFirst kX5_isDefinedFirst) {mX1_wordAt : Room} {kX1_wordAt : am_T} (h_X1_wordAt : am_S false yX1_wordAt (am_ws yX1_wordAt cX1_wordAt 2 (some .long)) mX1_wordAt kX1_wordAt) {mX5_maySay : Room} {kX5_maySay : am_T} (h_X5_maySay : am_S false yX5_maySay (am_ws yX5_maySay cX5_maySay 6 (some .boolean)) mX5_maySay kX5_maySay) {mX5_isLinked : Room} {kX5_isLinked : am_T} (h_X5_isLinked : am_S false yX5_isLinked (am_ws yX5_isLinked cX5_isLinked 1 (some .boolean)) mX5_isLinked kX5_isLinked) {mX5_marked : Room} {kX5_marked : am_T} (h_X5_marked : am_S false yX5_marked (am_ws yX5_marked cX5_marked 3 (some .boolean)) mX5_marked kX5_marked) {rm : Room} (hz : rm.cells = 0 ∧ rm.slots = 0) (R_X5_isDefinedFirst : mX5_isDefinedFirst.frames + 1 ≤ rm.frames ∧ 8 + (1 + 11) + mX5_isDefinedFirst.locals ≤ rm.locals) (R_X1_wordAt : mX1_wordAt.frames + 1 ≤ rm.frames ∧ 8 + (2 + 11) + mX1_wordAt.locals ≤ rm.locals) (R_X5_maySay : mX5_maySay.frames + 1 ≤ rm.frames ∧ 8 + (6 + 11) + mX5_maySay.locals ≤ rm.locals) (R_X5_isLinked : mX5_isLinked.frames + 1 ≤ rm.frames ∧ 8 + (1 + 11) + mX5_isLinked.locals ≤ rm.locals) (R_X5_marked : mX5_marked.frames + 1 ≤ rm.frames ∧ 8 + (3 + 11) + mX5_marked.locals ≤ rm.locals) : am_S false yX5_isPossible (am_ws yX5_isPossible cX5_isPossible 3 (some .boolean)) rm (WP_X5_isPossible kX5_isDefinedFirst kX1_wordAt kX5_maySay kX5_isLinked kX5_marked) := by
  refine am_S.of (fun _ => hz) (by decide +kernel) (fun h0 Q G => cl_X5_isPossible kX5_isDefinedFirst kX1_wordAt kX5_maySay kX5_isLinked kX5_marked Q G) ?_
  intro p l e s m args below meth c D h0 Q X hr hnm hQ
  refine ⟨?_, ?_, ?_, ?_, ?_, ?_⟩
  · unfold B_X5_isPossible_0
    refine as_iload_n X (by decide +kernel : decode cX5_isPossible 0 = .ok (.iload_n 1, 1)) rfl ?_
    refine as_cs X h_X5_isDefinedFirst (by decide +kernel : decode cX5_isPossible 1 = .ok (.invokestatic 131, 3)) dn_X5_isDefinedFirst ml_X5_131 st_X5_isDefinedFirst ini_X5 co_X5_isDefinedFirst R_X5_isDefinedFirst ?_
    refine as_istore_n X (by decide +kernel : decode cX5_isPossible 4 = .ok (.istore_n 2, 1)) rfl ?_
    refine as_aload_n X (by decide +kernel : decode cX5_isPossible 5 = .ok (.aload_n 0, 1)) rfl ?_
    refine as_aload_n X (by decide +kernel : decode cX5_isPossible 6 = .ok (.aload_n 0, 1)) rfl ?_
    refine as_get X fc_X5 (by decide +kernel : decode cX5_isPossible 7 = .ok (.getfield 40, 3)) (by decide) fl_X5_40 ?_
    refine as_iload_n X (by decide +kernel : decode cX5_isPossible 10 = .ok (.iload_n 2, 1)) rfl ?_
    refine as_if_eq X (tgt := 18) (by decide +kernel : decode cX5_isPossible 11 = .ok (.ifCond .eq 7, 3)) (by decide) ?_ ?_
    · refine as_aload_n X (by decide +kernel : decode cX5_isPossible 18 = .ok (.aload_n 0, 1)) rfl ?_
      refine as_get X fc_X5 (by decide +kernel : decode cX5_isPossible 19 = .ok (.getfield 40, 3)) (by decide) fl_X5_40 ?_
      refine as_get X fc_X1 (by decide +kernel : decode cX5_isPossible 22 = .ok (.getfield 68, 3)) (by decide) fl_X5_68 ?_
      refine as_iconst X (by decide +kernel : decode cX5_isPossible 25 = .ok (.iconst 1, 1)) rfl ?_
      refine as_isub X (by decide +kernel : decode cX5_isPossible 26 = .ok (.isub, 1)) ?_
      exact fun _ _ _ h => h
    · refine as_iconst X (by decide +kernel : decode cX5_isPossible 14 = .ok (.iconst 0, 1)) rfl ?_
      refine as_goto X (tgt := 27) (by decide +kernel : decode cX5_isPossible 15 = .ok (.goto 12, 3)) (by decide) ?_
      exact fun _ _ _ h => h
  · unfold B_X5_isPossible_27
    refine as_cv X h_X1_wordAt rfl (by decide +kernel : decode cX5_isPossible 27 = .ok (.invokevirtual 134, 3)) dn_X1_wordAt ml_X5_134 im_X1_wordAt se_X1_wordAt ini_X1 co_X1_wordAt R_X1_wordAt ?_
    refine as_aload_n X (by decide +kernel : decode cX5_isPossible 30 = .ok (.aload_n 0, 1)) rfl ?_
    refine as_get X fc_X5 (by decide +kernel : decode cX5_isPossible 31 = .ok (.getfield 61, 3)) (by decide) fl_X5_61 ?_
    refine as_cv X h_X5_maySay rfl (by decide +kernel : decode cX5_isPossible 34 = .ok (.invokevirtual 137, 3)) dn_X5_maySay ml_X5_137 im_X5_maySay se_X5_maySay ini_X5 co_X5_maySay R_X5_maySay ?_
    refine as_if_eq X (tgt := 77) (by decide +kernel : decode cX5_isPossible 37 = .ok (.ifCond .eq 40, 3)) (by decide) ?_ ?_
    · exact fun _ _ _ h => h
    · refine as_iload_n X (by decide +kernel : decode cX5_isPossible 40 = .ok (.iload_n 1, 1)) rfl ?_
      refine as_cs X h_X5_isLinked (by decide +kernel : decode cX5_isPossible 41 = .ok (.invokestatic 117, 3)) dn_X5_isLinked ml_X5_117 st_X5_isLinked ini_X5 co_X5_isLinked R_X5_isLinked ?_
      refine as_if_eq X (tgt := 73) (by decide +kernel : decode cX5_isPossible 44 = .ok (.ifCond .eq 29, 3)) (by decide) ?_ ?_
      · exact fun _ _ _ h => h
      · refine as_aload_n X (by decide +kernel : decode cX5_isPossible 47 = .ok (.aload_n 0, 1)) rfl ?_
        refine as_iload_n X (by decide +kernel : decode cX5_isPossible 48 = .ok (.iload_n 2, 1)) rfl ?_
        refine as_if_eq X (tgt := 56) (by decide +kernel : decode cX5_isPossible 49 = .ok (.ifCond .eq 7, 3)) (by decide) ?_ ?_
        · refine as_aload_n X (by decide +kernel : decode cX5_isPossible 56 = .ok (.aload_n 0, 1)) rfl ?_
          refine as_get X fc_X5 (by decide +kernel : decode cX5_isPossible 57 = .ok (.getfield 40, 3)) (by decide) fl_X5_40 ?_
          refine as_get X fc_X1 (by decide +kernel : decode cX5_isPossible 60 = .ok (.getfield 68, 3)) (by decide) fl_X5_68 ?_
          refine as_iconst X (by decide +kernel : decode cX5_isPossible 63 = .ok (.iconst 2, 1)) rfl ?_
          refine as_isub X (by decide +kernel : decode cX5_isPossible 64 = .ok (.isub, 1)) ?_
          exact fun _ _ _ h => h
        · refine as_iconst X (by decide +kernel : decode cX5_isPossible 52 = .ok (.iconst 1, 1)) rfl ?_
          refine as_goto X (tgt := 65) (by decide +kernel : decode cX5_isPossible 53 = .ok (.goto 12, 3)) (by decide) ?_
          exact fun _ _ _ h => h
  · unfold B_X5_isPossible_65
    refine as_bipush X (by decide +kernel : decode cX5_isPossible 65 = .ok (.bipush 10, 2)) rfl ?_
    refine as_cv X h_X5_marked rfl (by decide +kernel : decode cX5_isPossible 67 = .ok (.invokevirtual 141, 3)) dn_X5_marked ml_X5_141 im_X5_marked se_X5_marked ini_X5 co_X5_marked R_X5_marked ?_
    refine as_if_eq X (tgt := 77) (by decide +kernel : decode cX5_isPossible 70 = .ok (.ifCond .eq 7, 3)) (by decide) ?_ ?_
    · exact fun _ _ _ h => h
    · exact fun _ _ _ h => h
  · unfold B_X5_isPossible_73
    refine as_iconst X (by decide +kernel : decode cX5_isPossible 73 = .ok (.iconst 1, 1)) rfl ?_
    refine as_goto X (tgt := 78) (by decide +kernel : decode cX5_isPossible 74 = .ok (.goto 4, 3)) (by decide) ?_
    exact fun _ _ _ h => h
  · unfold B_X5_isPossible_77
    refine as_iconst X (by decide +kernel : decode cX5_isPossible 77 = .ok (.iconst 0, 1)) rfl ?_
    exact fun _ _ _ h => h
  · unfold B_X5_isPossible_78
    exact as_rz X hQ hr (by decide +kernel : decode cX5_isPossible 78 = .ok (.ireturn, 1))

def B_X5_pieceStart_0 (kX5_isLinked : am_T) (kX5_isDefinedFirst : am_T) (Q : am_Q) (G : Nat → am_K) : am_K := (ak_il 1 (ak_cs 1 kX5_isLinked (ak_if (fun x => x = 0) (ak_c (.int 1) (G 12)) (ak_c (.int 2) (G 12)))))
def B_X5_pieceStart_12 (kX5_isLinked : am_T) (kX5_isDefinedFirst : am_T) (Q : am_Q) (G : Nat → am_K) : am_K := (ak_is 2 (ak_il 1 (ak_cs 1 kX5_isDefinedFirst (ak_if (fun x => x = 0) (ak_c (.int 0) (G 25)) (ak_il 2 (G 25))))))
def B_X5_pieceStart_25 (kX5_isLinked : am_T) (kX5_isDefinedFirst : am_T) (Q : am_Q) (G : Nat → am_K) : am_K := (ak_ri Q)
def cl_X5_pieceStart (kX5_isLinked : am_T) (kX5_isDefinedFirst : am_T) (Q : am_Q) (G : Nat → am_K) : Prop := am_N G 0 (B_X5_pieceStart_0 kX5_isLinked kX5_isDefinedFirst Q G) ∧ am_N G 12 (B_X5_pieceStart_12 kX5_isLinked kX5_isDefinedFirst Q G) ∧ am_N G 25 (B_X5_pieceStart_25 kX5_isLinked kX5_isDefinedFirst Q G)
def WP_X5_pieceStart (kX5_isLinked : am_T) (kX5_isDefinedFirst : am_T) : am_T := fun av h Q => (lg_sl av).length ≤ 3 ∧ ∀ G, cl_X5_pieceStart kX5_isLinked kX5_isDefinedFirst Q G → G 0 (am_ent 3 av) [] h
set_option maxHeartbeats 4000000 in
set_option maxRecDepth 100000 in
theorem s_X5_pieceStart {mX5_isLinked : Room} {kX5_isLinked : am_T} (h_X5_isLinked : am_S false yX5_isLinked (am_ws yX5_isLinked cX5_isLinked 1 (some .boolean)) mX5_isLinked kX5_isLinked) {mX5_isDefinedFirst : Room} {kX5_isDefinedFirst : am_T} (h_X5_isDefinedFirst : am_S false yX5_isDefinedFirst (am_ws yX5_isDefinedFirst cX5_isDefinedFirst 1 (some .boolean)) mX5_isDefinedFirst kX5_isDefinedFirst) {rm : Room} (hz : rm.cells = 0 ∧ rm.slots = 0) (R_X5_isLinked : mX5_isLinked.frames + 1 ≤ rm.frames ∧ 8 + (1 + 11) + mX5_isLinked.locals ≤ rm.locals) (R_X5_isDefinedFirst : mX5_isDefinedFirst.frames + 1 ≤ rm.frames ∧ 8 + (1 + 11) + mX5_isDefinedFirst.locals ≤ rm.locals) : am_S false yX5_pieceStart (am_ws yX5_pieceStart cX5_pieceStart 3 (some .int)) rm (WP_X5_pieceStart kX5_isLinked kX5_isDefinedFirst) := by
  refine am_S.of (fun _ => hz) (by decide +kernel) (fun h0 Q G => cl_X5_pieceStart kX5_isLinked kX5_isDefinedFirst Q G) ?_
  intro p l e s m args below meth c D h0 Q X hr hnm hQ
  refine ⟨?_, ?_, ?_⟩
  · unfold B_X5_pieceStart_0
    refine as_iload_n X (by decide +kernel : decode cX5_pieceStart 0 = .ok (.iload_n 1, 1)) rfl ?_
    refine as_cs X h_X5_isLinked (by decide +kernel : decode cX5_pieceStart 1 = .ok (.invokestatic 117, 3)) dn_X5_isLinked ml_X5_117 st_X5_isLinked ini_X5 co_X5_isLinked R_X5_isLinked ?_
    refine as_if_eq X (tgt := 11) (by decide +kernel : decode cX5_pieceStart 4 = .ok (.ifCond .eq 7, 3)) (by decide) ?_ ?_
    · refine as_iconst X (by decide +kernel : decode cX5_pieceStart 11 = .ok (.iconst 1, 1)) rfl ?_
      exact fun _ _ _ h => h
    · refine as_iconst X (by decide +kernel : decode cX5_pieceStart 7 = .ok (.iconst 2, 1)) rfl ?_
      refine as_goto X (tgt := 12) (by decide +kernel : decode cX5_pieceStart 8 = .ok (.goto 4, 3)) (by decide) ?_
      exact fun _ _ _ h => h
  · unfold B_X5_pieceStart_12
    refine as_istore_n X (by decide +kernel : decode cX5_pieceStart 12 = .ok (.istore_n 2, 1)) rfl ?_
    refine as_iload_n X (by decide +kernel : decode cX5_pieceStart 13 = .ok (.iload_n 1, 1)) rfl ?_
    refine as_cs X h_X5_isDefinedFirst (by decide +kernel : decode cX5_pieceStart 14 = .ok (.invokestatic 131, 3)) dn_X5_isDefinedFirst ml_X5_131 st_X5_isDefinedFirst ini_X5 co_X5_isDefinedFirst R_X5_isDefinedFirst ?_
    refine as_if_eq X (tgt := 24) (by decide +kernel : decode cX5_pieceStart 17 = .ok (.ifCond .eq 7, 3)) (by decide) ?_ ?_
    · refine as_iconst X (by decide +kernel : decode cX5_pieceStart 24 = .ok (.iconst 0, 1)) rfl ?_
      exact fun _ _ _ h => h
    · refine as_iload_n X (by decide +kernel : decode cX5_pieceStart 20 = .ok (.iload_n 2, 1)) rfl ?_
      refine as_goto X (tgt := 25) (by decide +kernel : decode cX5_pieceStart 21 = .ok (.goto 4, 3)) (by decide) ?_
      exact fun _ _ _ h => h
  · unfold B_X5_pieceStart_25
    exact as_ri X hQ hr (by decide +kernel : decode cX5_pieceStart 25 = .ok (.ireturn, 1))

def B_X5_pieceEnd_0 (kX5_isLinked : am_T) (kX5_isDefinedFirst : am_T) (Q : am_Q) (G : Nat → am_K) : am_K := (ak_il 1 (ak_cs 1 kX5_isLinked (ak_if (fun x => x = 0) (ak_c (.int 1) (G 12)) (ak_c (.int 2) (G 12)))))
def B_X5_pieceEnd_12 (kX5_isLinked : am_T) (kX5_isDefinedFirst : am_T) (Q : am_Q) (G : Nat → am_K) : am_K := (ak_is 2 (ak_il 1 (ak_cs 1 kX5_isDefinedFirst (ak_if (fun x => x = 0) (ak_al 0 (ak_get 3 4 (ak_get 1 3 (ak_il 2 (ak_ib (fun x y => x - y) (G 39)))))) (ak_al 0 (ak_get 3 4 (ak_get 1 3 (G 39))))))))
def B_X5_pieceEnd_39 (kX5_isLinked : am_T) (kX5_isDefinedFirst : am_T) (Q : am_Q) (G : Nat → am_K) : am_K := (ak_ri Q)
def cl_X5_pieceEnd (kX5_isLinked : am_T) (kX5_isDefinedFirst : am_T) (Q : am_Q) (G : Nat → am_K) : Prop := am_N G 0 (B_X5_pieceEnd_0 kX5_isLinked kX5_isDefinedFirst Q G) ∧ am_N G 12 (B_X5_pieceEnd_12 kX5_isLinked kX5_isDefinedFirst Q G) ∧ am_N G 39 (B_X5_pieceEnd_39 kX5_isLinked kX5_isDefinedFirst Q G)
def WP_X5_pieceEnd (kX5_isLinked : am_T) (kX5_isDefinedFirst : am_T) : am_T := fun av h Q => (lg_sl av).length ≤ 3 ∧ ∀ G, cl_X5_pieceEnd kX5_isLinked kX5_isDefinedFirst Q G → G 0 (am_ent 3 av) [] h
set_option maxHeartbeats 4000000 in
set_option maxRecDepth 100000 in
theorem s_X5_pieceEnd {mX5_isLinked : Room} {kX5_isLinked : am_T} (h_X5_isLinked : am_S false yX5_isLinked (am_ws yX5_isLinked cX5_isLinked 1 (some .boolean)) mX5_isLinked kX5_isLinked) {mX5_isDefinedFirst : Room} {kX5_isDefinedFirst : am_T} (h_X5_isDefinedFirst : am_S false yX5_isDefinedFirst (am_ws yX5_isDefinedFirst cX5_isDefinedFirst 1 (some .boolean)) mX5_isDefinedFirst kX5_isDefinedFirst) {rm : Room} (hz : rm.cells = 0 ∧ rm.slots = 0) (R_X5_isLinked : mX5_isLinked.frames + 1 ≤ rm.frames ∧ 8 + (1 + 11) + mX5_isLinked.locals ≤ rm.locals) (R_X5_isDefinedFirst : mX5_isDefinedFirst.frames + 1 ≤ rm.frames ∧ 8 + (1 + 11) + mX5_isDefinedFirst.locals ≤ rm.locals) : am_S false yX5_pieceEnd (am_ws yX5_pieceEnd cX5_pieceEnd 3 (some .int)) rm (WP_X5_pieceEnd kX5_isLinked kX5_isDefinedFirst) := by
  refine am_S.of (fun _ => hz) (by decide +kernel) (fun h0 Q G => cl_X5_pieceEnd kX5_isLinked kX5_isDefinedFirst Q G) ?_
  intro p l e s m args below meth c D h0 Q X hr hnm hQ
  refine ⟨?_, ?_, ?_⟩
  · unfold B_X5_pieceEnd_0
    refine as_iload_n X (by decide +kernel : decode cX5_pieceEnd 0 = .ok (.iload_n 1, 1)) rfl ?_
    refine as_cs X h_X5_isLinked (by decide +kernel : decode cX5_pieceEnd 1 = .ok (.invokestatic 117, 3)) dn_X5_isLinked ml_X5_117 st_X5_isLinked ini_X5 co_X5_isLinked R_X5_isLinked ?_
    refine as_if_eq X (tgt := 11) (by decide +kernel : decode cX5_pieceEnd 4 = .ok (.ifCond .eq 7, 3)) (by decide) ?_ ?_
    · refine as_iconst X (by decide +kernel : decode cX5_pieceEnd 11 = .ok (.iconst 1, 1)) rfl ?_
      exact fun _ _ _ h => h
    · refine as_iconst X (by decide +kernel : decode cX5_pieceEnd 7 = .ok (.iconst 2, 1)) rfl ?_
      refine as_goto X (tgt := 12) (by decide +kernel : decode cX5_pieceEnd 8 = .ok (.goto 4, 3)) (by decide) ?_
      exact fun _ _ _ h => h
  · unfold B_X5_pieceEnd_12
    refine as_istore_n X (by decide +kernel : decode cX5_pieceEnd 12 = .ok (.istore_n 2, 1)) rfl ?_
    refine as_iload_n X (by decide +kernel : decode cX5_pieceEnd 13 = .ok (.iload_n 1, 1)) rfl ?_
    refine as_cs X h_X5_isDefinedFirst (by decide +kernel : decode cX5_pieceEnd 14 = .ok (.invokestatic 131, 3)) dn_X5_isDefinedFirst ml_X5_131 st_X5_isDefinedFirst ini_X5 co_X5_isDefinedFirst R_X5_isDefinedFirst ?_
    refine as_if_eq X (tgt := 30) (by decide +kernel : decode cX5_pieceEnd 17 = .ok (.ifCond .eq 13, 3)) (by decide) ?_ ?_
    · refine as_aload_n X (by decide +kernel : decode cX5_pieceEnd 30 = .ok (.aload_n 0, 1)) rfl ?_
      refine as_get X fc_X5 (by decide +kernel : decode cX5_pieceEnd 31 = .ok (.getfield 40, 3)) (by decide) fl_X5_40 ?_
      refine as_get X fc_X1 (by decide +kernel : decode cX5_pieceEnd 34 = .ok (.getfield 68, 3)) (by decide) fl_X5_68 ?_
      refine as_iload_n X (by decide +kernel : decode cX5_pieceEnd 37 = .ok (.iload_n 2, 1)) rfl ?_
      refine as_isub X (by decide +kernel : decode cX5_pieceEnd 38 = .ok (.isub, 1)) ?_
      exact fun _ _ _ h => h
    · refine as_aload_n X (by decide +kernel : decode cX5_pieceEnd 20 = .ok (.aload_n 0, 1)) rfl ?_
      refine as_get X fc_X5 (by decide +kernel : decode cX5_pieceEnd 21 = .ok (.getfield 40, 3)) (by decide) fl_X5_40 ?_
      refine as_get X fc_X1 (by decide +kernel : decode cX5_pieceEnd 24 = .ok (.getfield 68, 3)) (by decide) fl_X5_68 ?_
      refine as_goto X (tgt := 39) (by decide +kernel : decode cX5_pieceEnd 27 = .ok (.goto 12, 3)) (by decide) ?_
      exact fun _ _ _ h => h
  · unfold B_X5_pieceEnd_39
    exact as_ri X hQ hr (by decide +kernel : decode cX5_pieceEnd 39 = .ok (.ireturn, 1))

def B_X5_wholeAnswer_0 (kX2_size : am_T) (kX8_stretch : am_T) (Q : am_Q) (G : Nat → am_K) : am_K := (ak_c (.int 0) (ak_al 0 (ak_get 3 7 (ak_cs 1 kX2_size (ak_cs 2 kX8_stretch (ak_ri Q))))))
def cl_X5_wholeAnswer (kX2_size : am_T) (kX8_stretch : am_T) (Q : am_Q) (G : Nat → am_K) : Prop := am_N G 0 (B_X5_wholeAnswer_0 kX2_size kX8_stretch Q G)
def WP_X5_wholeAnswer (kX2_size : am_T) (kX8_stretch : am_T) : am_T := fun av h Q => (lg_sl av).length ≤ 1 ∧ ∀ G, cl_X5_wholeAnswer kX2_size kX8_stretch Q G → G 0 (am_ent 1 av) [] h
set_option maxHeartbeats 4000000 in
set_option maxRecDepth 100000 in
theorem s_X5_wholeAnswer {mX2_size : Room} {kX2_size : am_T} (h_X2_size : am_S false yX2_size (am_ws yX2_size cX2_size 3 (some .int)) mX2_size kX2_size) {mX8_stretch : Room} {kX8_stretch : am_T} (h_X8_stretch : am_S false yX8_stretch (am_ws yX8_stretch cX8_stretch 2 (some .int)) mX8_stretch kX8_stretch) {rm : Room} (hz : rm.cells = 0 ∧ rm.slots = 0) (R_X2_size : mX2_size.frames + 1 ≤ rm.frames ∧ 8 + (3 + 11) + mX2_size.locals ≤ rm.locals) (R_X8_stretch : mX8_stretch.frames + 1 ≤ rm.frames ∧ 8 + (2 + 11) + mX8_stretch.locals ≤ rm.locals) : am_S false yX5_wholeAnswer (am_ws yX5_wholeAnswer cX5_wholeAnswer 1 (some .int)) rm (WP_X5_wholeAnswer kX2_size kX8_stretch) := by
  refine am_S.of (fun _ => hz) (by decide +kernel) (fun h0 Q G => cl_X5_wholeAnswer kX2_size kX8_stretch Q G) ?_
  intro p l e s m args below meth c D h0 Q X hr hnm hQ
  show am_N _ 0 (B_X5_wholeAnswer_0  kX2_size kX8_stretch Q _)
  · unfold B_X5_wholeAnswer_0
    refine as_iconst X (by decide +kernel : decode cX5_wholeAnswer 0 = .ok (.iconst 0, 1)) rfl ?_
    refine as_aload_n X (by decide +kernel : decode cX5_wholeAnswer 1 = .ok (.aload_n 0, 1)) rfl ?_
    refine as_get X fc_X5 (by decide +kernel : decode cX5_wholeAnswer 2 = .ok (.getfield 61, 3)) (by decide) fl_X5_61 ?_
    refine as_cs X h_X2_size (by decide +kernel : decode cX5_wholeAnswer 5 = .ok (.invokestatic 144, 3)) dn_X2_size ml_X5_144 st_X2_size ini_X2 co_X2_size R_X2_size ?_
    refine as_csN X (host := "ClueParts") h_X8_stretch (by decide +kernel : decode cX5_wholeAnswer 8 = .ok (.invokestatic 148, 3)) dn_X8_stretch (by decide +kernel) st_X8_stretch ini_X8 co_X8_stretch R_X8_stretch ?_
    exact as_ri X hQ hr (by decide +kernel : decode cX5_wholeAnswer 11 = .ok (.ireturn, 1))

def B_X5_maySay_0 (kX0_find : am_T) (Q : am_Q) (G : Nat → am_K) : am_K := (ak_al 0 (ak_get 3 3 (ak_ll 1 (ak_ll 3 (ak_c (.int 0) (ak_cv 4 0 kX0_find (ak_is 5 (ak_il 5 (ak_c (.int (-4)) (ak_ic (fun x y => x = y) (G 32) (ak_il 5 (ak_al 0 (ak_get 3 8 (ak_ic (fun x y => x = y) (G 32) (ak_c (.int 1) (G 33))))))))))))))))
def B_X5_maySay_32 (kX0_find : am_T) (Q : am_Q) (G : Nat → am_K) : am_K := (ak_c (.int 0) (G 33))
def B_X5_maySay_33 (kX0_find : am_T) (Q : am_Q) (G : Nat → am_K) : am_K := (ak_rz Q)
def cl_X5_maySay (kX0_find : am_T) (Q : am_Q) (G : Nat → am_K) : Prop := am_N G 0 (B_X5_maySay_0 kX0_find Q G) ∧ am_N G 32 (B_X5_maySay_32 kX0_find Q G) ∧ am_N G 33 (B_X5_maySay_33 kX0_find Q G)
def WP_X5_maySay (kX0_find : am_T) : am_T := fun av h Q => (lg_sl av).length ≤ 6 ∧ ∀ G, cl_X5_maySay kX0_find Q G → G 0 (am_ent 6 av) [] h
set_option maxHeartbeats 4000000 in
set_option maxRecDepth 100000 in
theorem s_X5_maySay {mX0_find : Room} {kX0_find : am_T} (h_X0_find : am_S false yX0_find (am_ws yX0_find cX0_find 7 (some .int)) mX0_find kX0_find) {rm : Room} (hz : rm.cells = 0 ∧ rm.slots = 0) (R_X0_find : mX0_find.frames + 1 ≤ rm.frames ∧ 8 + (7 + 11) + mX0_find.locals ≤ rm.locals) : am_S false yX5_maySay (am_ws yX5_maySay cX5_maySay 6 (some .boolean)) rm (WP_X5_maySay kX0_find) := by
  refine am_S.of (fun _ => hz) (by decide +kernel) (fun h0 Q G => cl_X5_maySay kX0_find Q G) ?_
  intro p l e s m args below meth c D h0 Q X hr hnm hQ
  refine ⟨?_, ?_, ?_⟩
  · unfold B_X5_maySay_0
    refine as_aload_n X (by decide +kernel : decode cX5_maySay 0 = .ok (.aload_n 0, 1)) rfl ?_
    refine as_get X fc_X5 (by decide +kernel : decode cX5_maySay 1 = .ok (.getfield 36, 3)) (by decide) fl_X5_36 ?_
    refine as_lload_n X (by decide +kernel : decode cX5_maySay 4 = .ok (.lload_n 1, 1)) rfl ?_
    refine as_lload_n X (by decide +kernel : decode cX5_maySay 5 = .ok (.lload_n 3, 1)) rfl ?_
    refine as_iconst X (by decide +kernel : decode cX5_maySay 6 = .ok (.iconst 0, 1)) rfl ?_
    refine as_cv X h_X0_find rfl (by decide +kernel : decode cX5_maySay 7 = .ok (.invokevirtual 152, 3)) dn_X0_find ml_X5_152 im_X0_find se_X0_find ini_X0 co_X0_find R_X0_find ?_
    refine as_istore X (by decide +kernel : decode cX5_maySay 10 = .ok (.istore 5, 2)) ?_
    refine as_iload X (by decide +kernel : decode cX5_maySay 12 = .ok (.iload 5, 2)) ?_
    refine as_bipush X (by decide +kernel : decode cX5_maySay 14 = .ok (.bipush (-4), 2)) rfl ?_
    refine as_ic_eq X (tgt := 32) (by decide +kernel : decode cX5_maySay 16 = .ok (.if_icmp .eq 16, 3)) (by decide) ?_ ?_
    · exact fun _ _ _ h => h
    · refine as_iload X (by decide +kernel : decode cX5_maySay 19 = .ok (.iload 5, 2)) ?_
      refine as_aload_n X (by decide +kernel : decode cX5_maySay 21 = .ok (.aload_n 0, 1)) rfl ?_
      refine as_get X fc_X5 (by decide +kernel : decode cX5_maySay 22 = .ok (.getfield 32, 3)) (by decide) fl_X5_32 ?_
      refine as_ic_eq X (tgt := 32) (by decide +kernel : decode cX5_maySay 25 = .ok (.if_icmp .eq 7, 3)) (by decide) ?_ ?_
      · exact fun _ _ _ h => h
      · refine as_iconst X (by decide +kernel : decode cX5_maySay 28 = .ok (.iconst 1, 1)) rfl ?_
        refine as_goto X (tgt := 33) (by decide +kernel : decode cX5_maySay 29 = .ok (.goto 4, 3)) (by decide) ?_
        exact fun _ _ _ h => h
  · unfold B_X5_maySay_32
    refine as_iconst X (by decide +kernel : decode cX5_maySay 32 = .ok (.iconst 0, 1)) rfl ?_
    exact fun _ _ _ h => h
  · unfold B_X5_maySay_33
    exact as_rz X hQ hr (by decide +kernel : decode cX5_maySay 33 = .ok (.ireturn, 1))

def B_X5_spelling_0 (kX4_size : am_T) (kX4_firstLetter : am_T) (kJ6_bitCount_0f7a4 : am_T) (kX2_at : am_T) (kX2_with : am_T) (kX4_minus : am_T) (Q : am_Q) (G : Nat → am_K) : am_K := (ak_c (.long 0) (ak_ls 2 (ak_il 1 (ak_is 4 (ak_il 1 (ak_cs 1 kX4_size (ak_is 5 (ak_c (.int 0) (ak_is 6 (G 14))))))))))
def B_X5_spelling_14 (kX4_size : am_T) (kX4_firstLetter : am_T) (kJ6_bitCount_0f7a4 : am_T) (kX2_at : am_T) (kX2_with : am_T) (kX4_minus : am_T) (Q : am_Q) (G : Nat → am_K) : am_K := (ak_il 6 (ak_il 5 (ak_ic (fun x y => y ≤ x) (ak_ll 2 (ak_rl Q)) (ak_il 4 (ak_cs 1 kX4_firstLetter (ak_is 7 (ak_ll 2 (ak_il 6 (ak_al 0 (ak_get 3 7 (ak_il 7 (ak_c (.int 1) (ak_ib (fun x y => x - y) (ak_cs 1 kJ6_bitCount_0f7a4 (ak_cs 2 kX2_at (ak_cs 3 kX2_with (ak_ls 2 (ak_il 4 (ak_il 7 (ak_cs 2 kX4_minus (ak_is 4 (ak_ii 6 1 (G 14)))))))))))))))))))))))
def cl_X5_spelling (kX4_size : am_T) (kX4_firstLetter : am_T) (kJ6_bitCount_0f7a4 : am_T) (kX2_at : am_T) (kX2_with : am_T) (kX4_minus : am_T) (Q : am_Q) (G : Nat → am_K) : Prop := am_N G 0 (B_X5_spelling_0 kX4_size kX4_firstLetter kJ6_bitCount_0f7a4 kX2_at kX2_with kX4_minus Q G) ∧ am_N G 14 (B_X5_spelling_14 kX4_size kX4_firstLetter kJ6_bitCount_0f7a4 kX2_at kX2_with kX4_minus Q G)
def WP_X5_spelling (kX4_size : am_T) (kX4_firstLetter : am_T) (kJ6_bitCount_0f7a4 : am_T) (kX2_at : am_T) (kX2_with : am_T) (kX4_minus : am_T) : am_T := fun av h Q => (lg_sl av).length ≤ 8 ∧ ∀ G, cl_X5_spelling kX4_size kX4_firstLetter kJ6_bitCount_0f7a4 kX2_at kX2_with kX4_minus Q G → G 0 (am_ent 8 av) [] h
set_option maxHeartbeats 4000000 in
set_option maxRecDepth 100000 in
theorem s_X5_spelling {mX4_size : Room} {kX4_size : am_T} (h_X4_size : am_S false yX4_size (am_ws yX4_size cX4_size 1 (some .int)) mX4_size kX4_size) {mX4_firstLetter : Room} {kX4_firstLetter : am_T} (h_X4_firstLetter : am_S false yX4_firstLetter (am_ws yX4_firstLetter cX4_firstLetter 3 (some .int)) mX4_firstLetter kX4_firstLetter) {mJ6_bitCount_0f7a4 : Room} {kJ6_bitCount_0f7a4 : am_T} (h_J6_bitCount_0f7a4 : am_S false yJ6_bitCount_0f7a4 (am_ws yJ6_bitCount_0f7a4 cJ6_bitCount_0f7a4 1 (some .int)) mJ6_bitCount_0f7a4 kJ6_bitCount_0f7a4) {mX2_at : Room} {kX2_at : am_T} (h_X2_at : am_S false yX2_at (am_ws yX2_at cX2_at 3 (some .int)) mX2_at kX2_at) {mX2_with : Room} {kX2_with : am_T} (h_X2_with : am_S false yX2_with (am_ws yX2_with cX2_with 4 (some .long)) mX2_with kX2_with) {mX4_minus : Room} {kX4_minus : am_T} (h_X4_minus : am_S false yX4_minus (am_ws yX4_minus cX4_minus 2 (some .int)) mX4_minus kX4_minus) {rm : Room} (hz : rm.cells = 0 ∧ rm.slots = 0) (R_X4_size : mX4_size.frames + 1 ≤ rm.frames ∧ 8 + (1 + 11) + mX4_size.locals ≤ rm.locals) (R_X4_firstLetter : mX4_firstLetter.frames + 1 ≤ rm.frames ∧ 8 + (3 + 11) + mX4_firstLetter.locals ≤ rm.locals) (R_J6_bitCount_0f7a4 : mJ6_bitCount_0f7a4.frames + 1 ≤ rm.frames ∧ 8 + (1 + 11) + mJ6_bitCount_0f7a4.locals ≤ rm.locals) (R_X2_at : mX2_at.frames + 1 ≤ rm.frames ∧ 8 + (3 + 11) + mX2_at.locals ≤ rm.locals) (R_X2_with : mX2_with.frames + 1 ≤ rm.frames ∧ 8 + (4 + 11) + mX2_with.locals ≤ rm.locals) (R_X4_minus : mX4_minus.frames + 1 ≤ rm.frames ∧ 8 + (2 + 11) + mX4_minus.locals ≤ rm.locals) : am_S false yX5_spelling (am_ws yX5_spelling cX5_spelling 8 (some .long)) rm (WP_X5_spelling kX4_size kX4_firstLetter kJ6_bitCount_0f7a4 kX2_at kX2_with kX4_minus) := by
  refine am_S.of (fun _ => hz) (by decide +kernel) (fun h0 Q G => cl_X5_spelling kX4_size kX4_firstLetter kJ6_bitCount_0f7a4 kX2_at kX2_with kX4_minus Q G) ?_
  intro p l e s m args below meth c D h0 Q X hr hnm hQ
  refine ⟨?_, ?_⟩
  · unfold B_X5_spelling_0
    refine as_lconst X (by decide +kernel : decode cX5_spelling 0 = .ok (.lconst 0, 1)) rfl ?_
    refine as_lstore_n X (by decide +kernel : decode cX5_spelling 1 = .ok (.lstore_n 2, 1)) rfl ?_
    refine as_iload_n X (by decide +kernel : decode cX5_spelling 2 = .ok (.iload_n 1, 1)) rfl ?_
    refine as_istore X (by decide +kernel : decode cX5_spelling 3 = .ok (.istore 4, 2)) ?_
    refine as_iload_n X (by decide +kernel : decode cX5_spelling 5 = .ok (.iload_n 1, 1)) rfl ?_
    refine as_cs X h_X4_size (by decide +kernel : decode cX5_spelling 6 = .ok (.invokestatic 156, 3)) dn_X4_size ml_X5_156 st_X4_size ini_X4 co_X4_size R_X4_size ?_
    refine as_istore X (by decide +kernel : decode cX5_spelling 9 = .ok (.istore 5, 2)) ?_
    refine as_iconst X (by decide +kernel : decode cX5_spelling 11 = .ok (.iconst 0, 1)) rfl ?_
    refine as_istore X (by decide +kernel : decode cX5_spelling 12 = .ok (.istore 6, 2)) ?_
    exact fun _ _ _ h => h
  · unfold B_X5_spelling_14
    refine as_iload X (by decide +kernel : decode cX5_spelling 14 = .ok (.iload 6, 2)) ?_
    refine as_iload X (by decide +kernel : decode cX5_spelling 16 = .ok (.iload 5, 2)) ?_
    refine as_ic_ge X (tgt := 64) (by decide +kernel : decode cX5_spelling 18 = .ok (.if_icmp .ge 46, 3)) (by decide) ?_ ?_
    · refine as_lload_n X (by decide +kernel : decode cX5_spelling 64 = .ok (.lload_n 2, 1)) rfl ?_
      exact as_rl X hQ hr (by decide +kernel : decode cX5_spelling 65 = .ok (.lreturn, 1))
    · refine as_iload X (by decide +kernel : decode cX5_spelling 21 = .ok (.iload 4, 2)) ?_
      refine as_cs X h_X4_firstLetter (by decide +kernel : decode cX5_spelling 23 = .ok (.invokestatic 158, 3)) dn_X4_firstLetter ml_X5_158 st_X4_firstLetter ini_X4 co_X4_firstLetter R_X4_firstLetter ?_
      refine as_istore X (by decide +kernel : decode cX5_spelling 26 = .ok (.istore 7, 2)) ?_
      refine as_lload_n X (by decide +kernel : decode cX5_spelling 28 = .ok (.lload_n 2, 1)) rfl ?_
      refine as_iload X (by decide +kernel : decode cX5_spelling 29 = .ok (.iload 6, 2)) ?_
      refine as_aload_n X (by decide +kernel : decode cX5_spelling 31 = .ok (.aload_n 0, 1)) rfl ?_
      refine as_get X fc_X5 (by decide +kernel : decode cX5_spelling 32 = .ok (.getfield 61, 3)) (by decide) fl_X5_61 ?_
      refine as_iload X (by decide +kernel : decode cX5_spelling 35 = .ok (.iload 7, 2)) ?_
      refine as_iconst X (by decide +kernel : decode cX5_spelling 37 = .ok (.iconst 1, 1)) rfl ?_
      refine as_isub X (by decide +kernel : decode cX5_spelling 38 = .ok (.isub, 1)) ?_
      refine as_cs X h_J6_bitCount_0f7a4 (by decide +kernel : decode cX5_spelling 39 = .ok (.invokestatic 161, 3)) dn_J6_bitCount_0f7a4 ml_X5_161 st_J6_bitCount_0f7a4 ini_J6 co_J6_bitCount_0f7a4 R_J6_bitCount_0f7a4 ?_
      refine as_cs X h_X2_at (by decide +kernel : decode cX5_spelling 42 = .ok (.invokestatic 166, 3)) dn_X2_at ml_X5_166 st_X2_at ini_X2 co_X2_at R_X2_at ?_
      refine as_cs X h_X2_with (by decide +kernel : decode cX5_spelling 45 = .ok (.invokestatic 170, 3)) dn_X2_with ml_X5_170 st_X2_with ini_X2 co_X2_with R_X2_with ?_
      refine as_lstore_n X (by decide +kernel : decode cX5_spelling 48 = .ok (.lstore_n 2, 1)) rfl ?_
      refine as_iload X (by decide +kernel : decode cX5_spelling 49 = .ok (.iload 4, 2)) ?_
      refine as_iload X (by decide +kernel : decode cX5_spelling 51 = .ok (.iload 7, 2)) ?_
      refine as_cs X h_X4_minus (by decide +kernel : decode cX5_spelling 53 = .ok (.invokestatic 174, 3)) dn_X4_minus ml_X5_174 st_X4_minus ini_X4 co_X4_minus R_X4_minus ?_
      refine as_istore X (by decide +kernel : decode cX5_spelling 56 = .ok (.istore 4, 2)) ?_
      refine as_iinc X (by decide +kernel : decode cX5_spelling 58 = .ok (.iinc 6 1, 3)) rfl ?_
      refine as_goto X (tgt := 14) (by decide +kernel : decode cX5_spelling 61 = .ok (.goto (-47), 3)) (by decide) ?_
      exact fun _ _ _ h => h

def B_X5_slotOf_0 (kX4_size : am_T) (Q : am_Q) (G : Nat → am_K) : am_K := (ak_il 1 (ak_if (fun x => x < 0) (G 38) (ak_il 1 (ak_il 2 (ak_ic (fun x y => y ≤ x) (G 38) (ak_il 2 (ak_al 0 (ak_get 3 4 (ak_get 1 3 (ak_ic (fun x y => y < x) (G 38) (ak_il 3 (ak_if (fun x => x ≤ 0) (G 38) (ak_il 3 (ak_c (.int 512) (ak_ic (fun x y => y ≤ x) (G 38) (ak_il 3 (ak_cs 1 kX4_size (ak_if (fun x => x = 0) (G 38) (ak_il 2 (ak_il 2 (ak_c (.int 1) (ak_ib (fun x y => x - y) (ak_ib (fun x y => x * y) (ak_c (.int 2) (ak_id (fun x y => x / y) (ak_il 1 (ak_ib (fun x y => x + y) (ak_c (.int 512) (ak_ib (fun x y => x * y) (ak_il 3 (ak_ib (fun x y => x + y) (ak_ri Q))))))))))))))))))))))))))))))))
def B_X5_slotOf_38 (kX4_size : am_T) (Q : am_Q) (G : Nat → am_K) : am_K := (ak_c (.int (-4)) (ak_ri Q))
def cl_X5_slotOf (kX4_size : am_T) (Q : am_Q) (G : Nat → am_K) : Prop := am_N G 0 (B_X5_slotOf_0 kX4_size Q G) ∧ am_N G 38 (B_X5_slotOf_38 kX4_size Q G)
def WP_X5_slotOf (kX4_size : am_T) : am_T := fun av h Q => (lg_sl av).length ≤ 4 ∧ ∀ G, cl_X5_slotOf kX4_size Q G → G 0 (am_ent 4 av) [] h
set_option maxHeartbeats 4000000 in
set_option maxRecDepth 100000 in
theorem s_X5_slotOf {mX4_size : Room} {kX4_size : am_T} (h_X4_size : am_S false yX4_size (am_ws yX4_size cX4_size 1 (some .int)) mX4_size kX4_size) {rm : Room} (hz : rm.cells = 0 ∧ rm.slots = 0) (R_X4_size : mX4_size.frames + 1 ≤ rm.frames ∧ 8 + (1 + 11) + mX4_size.locals ≤ rm.locals) : am_S false yX5_slotOf (am_ws yX5_slotOf cX5_slotOf 4 (some .int)) rm (WP_X5_slotOf kX4_size) := by
  refine am_S.of (fun _ => hz) (by decide +kernel) (fun h0 Q G => cl_X5_slotOf kX4_size Q G) ?_
  intro p l e s m args below meth c D h0 Q X hr hnm hQ
  refine ⟨?_, ?_⟩
  · unfold B_X5_slotOf_0
    refine as_iload_n X (by decide +kernel : decode cX5_slotOf 0 = .ok (.iload_n 1, 1)) rfl ?_
    refine as_if_lt X (tgt := 38) (by decide +kernel : decode cX5_slotOf 1 = .ok (.ifCond .lt 37, 3)) (by decide) ?_ ?_
    · exact fun _ _ _ h => h
    · refine as_iload_n X (by decide +kernel : decode cX5_slotOf 4 = .ok (.iload_n 1, 1)) rfl ?_
      refine as_iload_n X (by decide +kernel : decode cX5_slotOf 5 = .ok (.iload_n 2, 1)) rfl ?_
      refine as_ic_ge X (tgt := 38) (by decide +kernel : decode cX5_slotOf 6 = .ok (.if_icmp .ge 32, 3)) (by decide) ?_ ?_
      · exact fun _ _ _ h => h
      · refine as_iload_n X (by decide +kernel : decode cX5_slotOf 9 = .ok (.iload_n 2, 1)) rfl ?_
        refine as_aload_n X (by decide +kernel : decode cX5_slotOf 10 = .ok (.aload_n 0, 1)) rfl ?_
        refine as_get X fc_X5 (by decide +kernel : decode cX5_slotOf 11 = .ok (.getfield 40, 3)) (by decide) fl_X5_40 ?_
        refine as_get X fc_X1 (by decide +kernel : decode cX5_slotOf 14 = .ok (.getfield 68, 3)) (by decide) fl_X5_68 ?_
        refine as_ic_gt X (tgt := 38) (by decide +kernel : decode cX5_slotOf 17 = .ok (.if_icmp .gt 21, 3)) (by decide) ?_ ?_
        · exact fun _ _ _ h => h
        · refine as_iload_n X (by decide +kernel : decode cX5_slotOf 20 = .ok (.iload_n 3, 1)) rfl ?_
          refine as_if_le X (tgt := 38) (by decide +kernel : decode cX5_slotOf 21 = .ok (.ifCond .le 17, 3)) (by decide) ?_ ?_
          · exact fun _ _ _ h => h
          · refine as_iload_n X (by decide +kernel : decode cX5_slotOf 24 = .ok (.iload_n 3, 1)) rfl ?_
            refine as_sipush X (by decide +kernel : decode cX5_slotOf 25 = .ok (.sipush 512, 3)) rfl ?_
            refine as_ic_ge X (tgt := 38) (by decide +kernel : decode cX5_slotOf 28 = .ok (.if_icmp .ge 10, 3)) (by decide) ?_ ?_
            · exact fun _ _ _ h => h
            · refine as_iload_n X (by decide +kernel : decode cX5_slotOf 31 = .ok (.iload_n 3, 1)) rfl ?_
              refine as_cs X h_X4_size (by decide +kernel : decode cX5_slotOf 32 = .ok (.invokestatic 156, 3)) dn_X4_size ml_X5_156 st_X4_size ini_X4 co_X4_size R_X4_size ?_
              refine as_if_ne X (tgt := 41) (by decide +kernel : decode cX5_slotOf 35 = .ok (.ifCond .ne 6, 3)) (by decide) ?_ ?_
              · exact fun _ _ _ h => h
              · refine as_iload_n X (by decide +kernel : decode cX5_slotOf 41 = .ok (.iload_n 2, 1)) rfl ?_
                refine as_iload_n X (by decide +kernel : decode cX5_slotOf 42 = .ok (.iload_n 2, 1)) rfl ?_
                refine as_iconst X (by decide +kernel : decode cX5_slotOf 43 = .ok (.iconst 1, 1)) rfl ?_
                refine as_isub X (by decide +kernel : decode cX5_slotOf 44 = .ok (.isub, 1)) ?_
                refine as_imul X (by decide +kernel : decode cX5_slotOf 45 = .ok (.imul, 1)) ?_
                refine as_iconst X (by decide +kernel : decode cX5_slotOf 46 = .ok (.iconst 2, 1)) rfl ?_
                refine as_idiv X (by decide +kernel : decode cX5_slotOf 47 = .ok (.idiv, 1)) ?_
                refine as_iload_n X (by decide +kernel : decode cX5_slotOf 48 = .ok (.iload_n 1, 1)) rfl ?_
                refine as_iadd X (by decide +kernel : decode cX5_slotOf 49 = .ok (.iadd, 1)) ?_
                refine as_sipush X (by decide +kernel : decode cX5_slotOf 50 = .ok (.sipush 512, 3)) rfl ?_
                refine as_imul X (by decide +kernel : decode cX5_slotOf 53 = .ok (.imul, 1)) ?_
                refine as_iload_n X (by decide +kernel : decode cX5_slotOf 54 = .ok (.iload_n 3, 1)) rfl ?_
                refine as_iadd X (by decide +kernel : decode cX5_slotOf 55 = .ok (.iadd, 1)) ?_
                exact as_ri X hQ hr (by decide +kernel : decode cX5_slotOf 56 = .ok (.ireturn, 1))
  · unfold B_X5_slotOf_38
    refine as_bipush X (by decide +kernel : decode cX5_slotOf 38 = .ok (.bipush (-4), 2)) rfl ?_
    exact as_ri X hQ hr (by decide +kernel : decode cX5_slotOf 40 = .ok (.ireturn, 1))

def B_X5_piece_0 (kX5_slotOf : am_T) (kX6_opens : am_T) (kX5_unit : am_T) (kX6_totalAt : am_T) (kX6_costAt : am_T) (kX6_tiesAt : am_T) (kX6_add : am_T) (kX5_addPieces : am_T) (Q : am_Q) (G : Nat → am_K) : am_K := (ak_al 0 (ak_il 1 (ak_il 2 (ak_il 3 (ak_cv 4 3 kX5_slotOf (ak_is 4 (ak_al 0 (ak_get 3 0 (ak_il 4 (ak_al 0 (ak_get 3 11 (ak_cv 3 4 kX6_opens (ak_if (fun x => x = 0) (ak_il 4 (ak_ri Q)) (ak_il 1 (ak_c (.int 1) (ak_ib (fun x y => x + y) (ak_is 5 (G 33))))))))))))))))))
def B_X5_piece_33 (kX5_slotOf : am_T) (kX6_opens : am_T) (kX5_unit : am_T) (kX6_totalAt : am_T) (kX6_costAt : am_T) (kX6_tiesAt : am_T) (kX6_add : am_T) (kX5_addPieces : am_T) (Q : am_Q) (G : Nat → am_K) : am_K := (ak_il 5 (ak_il 2 (ak_ic (fun x y => y ≤ x) (ak_al 0 (ak_il 1 (ak_il 2 (ak_il 3 (ak_cv 4 3 kX5_unit (ak_is 5 (ak_al 0 (ak_get 3 0 (ak_il 4 (ak_al 0 (ak_get 3 1 (ak_il 5 (ak_cv 2 4 kX6_totalAt (ak_al 0 (ak_get 3 1 (ak_il 5 (ak_cv 2 4 kX6_costAt (ak_al 0 (ak_get 3 1 (ak_il 5 (ak_cv 2 4 kX6_tiesAt (ak_il 2 (ak_c (.int 512) (ak_ib (fun x y => x * y) (ak_il 3 (ak_ib (fun x y => x + y) (ak_cv 6 4 kX6_add (ak_il 4 (ak_ri Q))))))))))))))))))))))))))))) (ak_al 0 (ak_il 4 (ak_il 1 (ak_il 5 (ak_il 2 (ak_il 3 (ak_cv 6 3 kX5_addPieces (ak_ii 5 1 (G 33))))))))))))
def cl_X5_piece (kX5_slotOf : am_T) (kX6_opens : am_T) (kX5_unit : am_T) (kX6_totalAt : am_T) (kX6_costAt : am_T) (kX6_tiesAt : am_T) (kX6_add : am_T) (kX5_addPieces : am_T) (Q : am_Q) (G : Nat → am_K) : Prop := am_N G 0 (B_X5_piece_0 kX5_slotOf kX6_opens kX5_unit kX6_totalAt kX6_costAt kX6_tiesAt kX6_add kX5_addPieces Q G) ∧ am_N G 33 (B_X5_piece_33 kX5_slotOf kX6_opens kX5_unit kX6_totalAt kX6_costAt kX6_tiesAt kX6_add kX5_addPieces Q G)
def WP_X5_piece (kX5_slotOf : am_T) (kX6_opens : am_T) (kX5_unit : am_T) (kX6_totalAt : am_T) (kX6_costAt : am_T) (kX6_tiesAt : am_T) (kX6_add : am_T) (kX5_addPieces : am_T) : am_T := fun av h Q => (lg_sl av).length ≤ 6 ∧ ∀ G, cl_X5_piece kX5_slotOf kX6_opens kX5_unit kX6_totalAt kX6_costAt kX6_tiesAt kX6_add kX5_addPieces Q G → G 0 (am_ent 6 av) [] h
set_option maxHeartbeats 4000000 in
set_option maxRecDepth 100000 in
theorem s_X5_piece {mX5_slotOf : Room} {kX5_slotOf : am_T} (h_X5_slotOf : am_S false yX5_slotOf (am_ws yX5_slotOf cX5_slotOf 4 (some .int)) mX5_slotOf kX5_slotOf) {mX6_opens : Room} {kX6_opens : am_T} (h_X6_opens : am_S false yX6_opens (am_ws yX6_opens cX6_opens 3 (some .boolean)) mX6_opens kX6_opens) {mX5_unit : Room} {kX5_unit : am_T} (h_X5_unit : am_S false yX5_unit (am_ws yX5_unit cX5_unit 7 (some .int)) mX5_unit kX5_unit) {mX6_totalAt : Room} {kX6_totalAt : am_T} (h_X6_totalAt : am_S false yX6_totalAt (am_ws yX6_totalAt cX6_totalAt 2 (some .long)) mX6_totalAt kX6_totalAt) {mX6_costAt : Room} {kX6_costAt : am_T} (h_X6_costAt : am_S false yX6_costAt (am_ws yX6_costAt cX6_costAt 2 (some .int)) mX6_costAt kX6_costAt) {mX6_tiesAt : Room} {kX6_tiesAt : am_T} (h_X6_tiesAt : am_S false yX6_tiesAt (am_ws yX6_tiesAt cX6_tiesAt 2 (some .long)) mX6_tiesAt kX6_tiesAt) {mX6_add : Room} {kX6_add : am_T} (h_X6_add : am_S false yX6_add (am_ws yX6_add cX6_add 8 none) mX6_add kX6_add) {mX5_addPieces : Room} {kX5_addPieces : am_T} (h_X5_addPieces : am_S false yX5_addPieces (am_ws yX5_addPieces cX5_addPieces 13 none) mX5_addPieces kX5_addPieces) {rm : Room} (hz : rm.cells = 0 ∧ rm.slots = 0) (R_X5_slotOf : mX5_slotOf.frames + 1 ≤ rm.frames ∧ 8 + (4 + 11) + mX5_slotOf.locals ≤ rm.locals) (R_X6_opens : mX6_opens.frames + 1 ≤ rm.frames ∧ 8 + (3 + 11) + mX6_opens.locals ≤ rm.locals) (R_X5_unit : mX5_unit.frames + 1 ≤ rm.frames ∧ 8 + (7 + 11) + mX5_unit.locals ≤ rm.locals) (R_X6_totalAt : mX6_totalAt.frames + 1 ≤ rm.frames ∧ 8 + (2 + 11) + mX6_totalAt.locals ≤ rm.locals) (R_X6_costAt : mX6_costAt.frames + 1 ≤ rm.frames ∧ 8 + (2 + 11) + mX6_costAt.locals ≤ rm.locals) (R_X6_tiesAt : mX6_tiesAt.frames + 1 ≤ rm.frames ∧ 8 + (2 + 11) + mX6_tiesAt.locals ≤ rm.locals) (R_X6_add : mX6_add.frames + 1 ≤ rm.frames ∧ 8 + (8 + 11) + mX6_add.locals ≤ rm.locals) (R_X5_addPieces : mX5_addPieces.frames + 1 ≤ rm.frames ∧ 8 + (13 + 11) + mX5_addPieces.locals ≤ rm.locals) : am_S false yX5_piece (am_ws yX5_piece cX5_piece 6 (some .int)) rm (WP_X5_piece kX5_slotOf kX6_opens kX5_unit kX6_totalAt kX6_costAt kX6_tiesAt kX6_add kX5_addPieces) := by
  refine am_S.of (fun _ => hz) (by decide +kernel) (fun h0 Q G => cl_X5_piece kX5_slotOf kX6_opens kX5_unit kX6_totalAt kX6_costAt kX6_tiesAt kX6_add kX5_addPieces Q G) ?_
  intro p l e s m args below meth c D h0 Q X hr hnm hQ
  refine ⟨?_, ?_⟩
  · unfold B_X5_piece_0
    refine as_aload_n X (by decide +kernel : decode cX5_piece 0 = .ok (.aload_n 0, 1)) rfl ?_
    refine as_iload_n X (by decide +kernel : decode cX5_piece 1 = .ok (.iload_n 1, 1)) rfl ?_
    refine as_iload_n X (by decide +kernel : decode cX5_piece 2 = .ok (.iload_n 2, 1)) rfl ?_
    refine as_iload_n X (by decide +kernel : decode cX5_piece 3 = .ok (.iload_n 3, 1)) rfl ?_
    refine as_cv X h_X5_slotOf rfl (by decide +kernel : decode cX5_piece 4 = .ok (.invokevirtual 177, 3)) dn_X5_slotOf ml_X5_177 im_X5_slotOf se_X5_slotOf ini_X5 co_X5_slotOf R_X5_slotOf ?_
    refine as_istore X (by decide +kernel : decode cX5_piece 7 = .ok (.istore 4, 2)) ?_
    refine as_aload_n X (by decide +kernel : decode cX5_piece 9 = .ok (.aload_n 0, 1)) rfl ?_
    refine as_get X fc_X5 (by decide +kernel : decode cX5_piece 10 = .ok (.getfield 18, 3)) (by decide) fl_X5_18 ?_
    refine as_iload X (by decide +kernel : decode cX5_piece 13 = .ok (.iload 4, 2)) ?_
    refine as_aload_n X (by decide +kernel : decode cX5_piece 15 = .ok (.aload_n 0, 1)) rfl ?_
    refine as_get X fc_X5 (by decide +kernel : decode cX5_piece 16 = .ok (.getfield 65, 3)) (by decide) fl_X5_65 ?_
    refine as_cv X h_X6_opens rfl (by decide +kernel : decode cX5_piece 19 = .ok (.invokevirtual 92, 3)) dn_X6_opens ml_X5_92 im_X6_opens se_X6_opens ini_X6 co_X6_opens R_X6_opens ?_
    refine as_if_ne X (tgt := 28) (by decide +kernel : decode cX5_piece 22 = .ok (.ifCond .ne 6, 3)) (by decide) ?_ ?_
    · refine as_iload X (by decide +kernel : decode cX5_piece 25 = .ok (.iload 4, 2)) ?_
      exact as_ri X hQ hr (by decide +kernel : decode cX5_piece 27 = .ok (.ireturn, 1))
    · refine as_iload_n X (by decide +kernel : decode cX5_piece 28 = .ok (.iload_n 1, 1)) rfl ?_
      refine as_iconst X (by decide +kernel : decode cX5_piece 29 = .ok (.iconst 1, 1)) rfl ?_
      refine as_iadd X (by decide +kernel : decode cX5_piece 30 = .ok (.iadd, 1)) ?_
      refine as_istore X (by decide +kernel : decode cX5_piece 31 = .ok (.istore 5, 2)) ?_
      exact fun _ _ _ h => h
  · unfold B_X5_piece_33
    refine as_iload X (by decide +kernel : decode cX5_piece 33 = .ok (.iload 5, 2)) ?_
    refine as_iload_n X (by decide +kernel : decode cX5_piece 35 = .ok (.iload_n 2, 1)) rfl ?_
    refine as_ic_ge X (tgt := 56) (by decide +kernel : decode cX5_piece 36 = .ok (.if_icmp .ge 20, 3)) (by decide) ?_ ?_
    · refine as_aload_n X (by decide +kernel : decode cX5_piece 56 = .ok (.aload_n 0, 1)) rfl ?_
      refine as_iload_n X (by decide +kernel : decode cX5_piece 57 = .ok (.iload_n 1, 1)) rfl ?_
      refine as_iload_n X (by decide +kernel : decode cX5_piece 58 = .ok (.iload_n 2, 1)) rfl ?_
      refine as_iload_n X (by decide +kernel : decode cX5_piece 59 = .ok (.iload_n 3, 1)) rfl ?_
      refine as_cv X h_X5_unit rfl (by decide +kernel : decode cX5_piece 60 = .ok (.invokevirtual 184, 3)) dn_X5_unit ml_X5_184 im_X5_unit se_X5_unit ini_X5 co_X5_unit R_X5_unit ?_
      refine as_istore X (by decide +kernel : decode cX5_piece 63 = .ok (.istore 5, 2)) ?_
      refine as_aload_n X (by decide +kernel : decode cX5_piece 65 = .ok (.aload_n 0, 1)) rfl ?_
      refine as_get X fc_X5 (by decide +kernel : decode cX5_piece 66 = .ok (.getfield 18, 3)) (by decide) fl_X5_18 ?_
      refine as_iload X (by decide +kernel : decode cX5_piece 69 = .ok (.iload 4, 2)) ?_
      refine as_aload_n X (by decide +kernel : decode cX5_piece 71 = .ok (.aload_n 0, 1)) rfl ?_
      refine as_get X fc_X5 (by decide +kernel : decode cX5_piece 72 = .ok (.getfield 22, 3)) (by decide) fl_X5_22 ?_
      refine as_iload X (by decide +kernel : decode cX5_piece 75 = .ok (.iload 5, 2)) ?_
      refine as_cv X h_X6_totalAt rfl (by decide +kernel : decode cX5_piece 77 = .ok (.invokevirtual 120, 3)) dn_X6_totalAt ml_X5_120 im_X6_totalAt se_X6_totalAt ini_X6 co_X6_totalAt R_X6_totalAt ?_
      refine as_aload_n X (by decide +kernel : decode cX5_piece 80 = .ok (.aload_n 0, 1)) rfl ?_
      refine as_get X fc_X5 (by decide +kernel : decode cX5_piece 81 = .ok (.getfield 22, 3)) (by decide) fl_X5_22 ?_
      refine as_iload X (by decide +kernel : decode cX5_piece 84 = .ok (.iload 5, 2)) ?_
      refine as_cv X h_X6_costAt rfl (by decide +kernel : decode cX5_piece 86 = .ok (.invokevirtual 114, 3)) dn_X6_costAt ml_X5_114 im_X6_costAt se_X6_costAt ini_X6 co_X6_costAt R_X6_costAt ?_
      refine as_aload_n X (by decide +kernel : decode cX5_piece 89 = .ok (.aload_n 0, 1)) rfl ?_
      refine as_get X fc_X5 (by decide +kernel : decode cX5_piece 90 = .ok (.getfield 22, 3)) (by decide) fl_X5_22 ?_
      refine as_iload X (by decide +kernel : decode cX5_piece 93 = .ok (.iload 5, 2)) ?_
      refine as_cv X h_X6_tiesAt rfl (by decide +kernel : decode cX5_piece 95 = .ok (.invokevirtual 124, 3)) dn_X6_tiesAt ml_X5_124 im_X6_tiesAt se_X6_tiesAt ini_X6 co_X6_tiesAt R_X6_tiesAt ?_
      refine as_iload_n X (by decide +kernel : decode cX5_piece 98 = .ok (.iload_n 2, 1)) rfl ?_
      refine as_sipush X (by decide +kernel : decode cX5_piece 99 = .ok (.sipush 512, 3)) rfl ?_
      refine as_imul X (by decide +kernel : decode cX5_piece 102 = .ok (.imul, 1)) ?_
      refine as_iload_n X (by decide +kernel : decode cX5_piece 103 = .ok (.iload_n 3, 1)) rfl ?_
      refine as_iadd X (by decide +kernel : decode cX5_piece 104 = .ok (.iadd, 1)) ?_
      refine as_cv X h_X6_add rfl (by decide +kernel : decode cX5_piece 105 = .ok (.invokevirtual 127, 3)) dn_X6_add ml_X5_127 im_X6_add se_X6_add ini_X6 co_X6_add R_X6_add ?_
      refine as_iload X (by decide +kernel : decode cX5_piece 108 = .ok (.iload 4, 2)) ?_
      exact as_ri X hQ hr (by decide +kernel : decode cX5_piece 110 = .ok (.ireturn, 1))
    · refine as_aload_n X (by decide +kernel : decode cX5_piece 39 = .ok (.aload_n 0, 1)) rfl ?_
      refine as_iload X (by decide +kernel : decode cX5_piece 40 = .ok (.iload 4, 2)) ?_
      refine as_iload_n X (by decide +kernel : decode cX5_piece 42 = .ok (.iload_n 1, 1)) rfl ?_
      refine as_iload X (by decide +kernel : decode cX5_piece 43 = .ok (.iload 5, 2)) ?_
      refine as_iload_n X (by decide +kernel : decode cX5_piece 45 = .ok (.iload_n 2, 1)) rfl ?_
      refine as_iload_n X (by decide +kernel : decode cX5_piece 46 = .ok (.iload_n 3, 1)) rfl ?_
      refine as_cv X h_X5_addPieces rfl (by decide +kernel : decode cX5_piece 47 = .ok (.invokevirtual 180, 3)) dn_X5_addPieces ml_X5_180 im_X5_addPieces se_X5_addPieces ini_X5 co_X5_addPieces R_X5_addPieces ?_
      refine as_iinc X (by decide +kernel : decode cX5_piece 50 = .ok (.iinc 5 1, 3)) rfl ?_
      refine as_goto X (tgt := 33) (by decide +kernel : decode cX5_piece 53 = .ok (.goto (-20), 3)) (by decide) ?_
      exact fun _ _ _ h => h

def B_X5_addPieces_0 (kX4_size : am_T) (kX4_direction : am_T) (kX4_firstLetter : am_T) (kX4_minus : am_T) (kX5_unit : am_T) (kX6_totalAt : am_T) (kX5_piece : am_T) (kX6_costAt : am_T) (kX6_tiesAt : am_T) (kX6_add : am_T) (Q : am_Q) (G : Nat → am_K) : am_K := (ak_il 5 (ak_cs 1 kX4_size (ak_is 6 (ak_il 5 (ak_cs 1 kX4_direction (ak_is 7 (ak_il 5 (ak_is 8 (ak_c (.int 1) (ak_is 9 (G 21)))))))))))
def B_X5_addPieces_21 (kX4_size : am_T) (kX4_direction : am_T) (kX4_firstLetter : am_T) (kX4_minus : am_T) (kX5_unit : am_T) (kX6_totalAt : am_T) (kX5_piece : am_T) (kX6_costAt : am_T) (kX6_tiesAt : am_T) (kX6_add : am_T) (Q : am_Q) (G : Nat → am_K) : am_K := (ak_il 9 (ak_il 6 (ak_ic (fun x y => y ≤ x) (ak_rv Q) (ak_il 8 (ak_cs 1 kX4_firstLetter (ak_is 10 (ak_il 7 (ak_il 10 (ak_ib (fun x y => x ||| y) (ak_is 7 (ak_il 8 (ak_il 10 (ak_cs 2 kX4_minus (ak_is 8 (ak_al 0 (ak_il 2 (ak_il 3 (ak_il 7 (ak_cv 4 3 kX5_unit (ak_is 11 (ak_al 0 (ak_get 3 1 (ak_il 11 (ak_cv 2 4 kX6_totalAt (ak_c (.long 0) (ak_lc (ak_if (fun x => x ≤ 0) (G 159) (ak_al 0 (ak_il 3 (ak_il 4 (ak_il 8 (ak_cv 4 3 kX5_piece (ak_is 12 (ak_al 0 (ak_get 3 0 (ak_il 1 (ak_al 0 (ak_get 3 1 (ak_il 11 (ak_cv 2 4 kX6_totalAt (ak_al 0 (ak_get 3 0 (ak_il 12 (ak_cv 2 4 kX6_totalAt (ak_lb (fun x y => x * y) (G 110))))))))))))))))))))))))))))))))))))))))))))))
def B_X5_addPieces_110 (kX4_size : am_T) (kX4_direction : am_T) (kX4_firstLetter : am_T) (kX4_minus : am_T) (kX5_unit : am_T) (kX6_totalAt : am_T) (kX5_piece : am_T) (kX6_costAt : am_T) (kX6_tiesAt : am_T) (kX6_add : am_T) (Q : am_Q) (G : Nat → am_K) : am_K := (ak_al 0 (ak_get 3 1 (ak_il 11 (ak_cv 2 4 kX6_costAt (ak_al 0 (ak_get 3 0 (ak_il 12 (ak_cv 2 4 kX6_costAt (ak_ib (fun x y => x + y) (ak_al 0 (ak_get 3 1 (ak_il 11 (ak_cv 2 4 kX6_tiesAt (ak_al 0 (ak_get 3 0 (ak_il 12 (ak_cv 2 4 kX6_tiesAt (ak_lb (fun x y => x * y) (ak_il 3 (ak_c (.int 512) (ak_ib (fun x y => x * y) (ak_il 7 (ak_ib (fun x y => x + y) (ak_cv 6 4 kX6_add (G 159)))))))))))))))))))))))))
def B_X5_addPieces_159 (kX4_size : am_T) (kX4_direction : am_T) (kX4_firstLetter : am_T) (kX4_minus : am_T) (kX5_unit : am_T) (kX6_totalAt : am_T) (kX5_piece : am_T) (kX6_costAt : am_T) (kX6_tiesAt : am_T) (kX6_add : am_T) (Q : am_Q) (G : Nat → am_K) : am_K := (ak_ii 9 1 (G 21))
def cl_X5_addPieces (kX4_size : am_T) (kX4_direction : am_T) (kX4_firstLetter : am_T) (kX4_minus : am_T) (kX5_unit : am_T) (kX6_totalAt : am_T) (kX5_piece : am_T) (kX6_costAt : am_T) (kX6_tiesAt : am_T) (kX6_add : am_T) (Q : am_Q) (G : Nat → am_K) : Prop := am_N G 0 (B_X5_addPieces_0 kX4_size kX4_direction kX4_firstLetter kX4_minus kX5_unit kX6_totalAt kX5_piece kX6_costAt kX6_tiesAt kX6_add Q G) ∧ am_N G 21 (B_X5_addPieces_21 kX4_size kX4_direction kX4_firstLetter kX4_minus kX5_unit kX6_totalAt kX5_piece kX6_costAt kX6_tiesAt kX6_add Q G) ∧ am_N G 110 (B_X5_addPieces_110 kX4_size kX4_direction kX4_firstLetter kX4_minus kX5_unit kX6_totalAt kX5_piece kX6_costAt kX6_tiesAt kX6_add Q G) ∧ am_N G 159 (B_X5_addPieces_159 kX4_size kX4_direction kX4_firstLetter kX4_minus kX5_unit kX6_totalAt kX5_piece kX6_costAt kX6_tiesAt kX6_add Q G)
def WP_X5_addPieces (kX4_size : am_T) (kX4_direction : am_T) (kX4_firstLetter : am_T) (kX4_minus : am_T) (kX5_unit : am_T) (kX6_totalAt : am_T) (kX5_piece : am_T) (kX6_costAt : am_T) (kX6_tiesAt : am_T) (kX6_add : am_T) : am_T := fun av h Q => (lg_sl av).length ≤ 13 ∧ ∀ G, cl_X5_addPieces kX4_size kX4_direction kX4_firstLetter kX4_minus kX5_unit kX6_totalAt kX5_piece kX6_costAt kX6_tiesAt kX6_add Q G → G 0 (am_ent 13 av) [] h
set_option maxHeartbeats 4000000 in
set_option maxRecDepth 100000 in
theorem s_X5_addPieces {mX4_size : Room} {kX4_size : am_T} (h_X4_size : am_S false yX4_size (am_ws yX4_size cX4_size 1 (some .int)) mX4_size kX4_size) {mX4_direction : Room} {kX4_direction : am_T} (h_X4_direction : am_S false yX4_direction (am_ws yX4_direction cX4_direction 1 (some .int)) mX4_direction kX4_direction) {mX4_firstLetter : Room} {kX4_firstLetter : am_T} (h_X4_firstLetter : am_S false yX4_firstLetter (am_ws yX4_firstLetter cX4_firstLetter 3 (some .int)) mX4_firstLetter kX4_firstLetter) {mX4_minus : Room} {kX4_minus : am_T} (h_X4_minus : am_S false yX4_minus (am_ws yX4_minus cX4_minus 2 (some .int)) mX4_minus kX4_minus) {mX5_unit : Room} {kX5_unit : am_T} (h_X5_unit : am_S false yX5_unit (am_ws yX5_unit cX5_unit 7 (some .int)) mX5_unit kX5_unit) {mX6_totalAt : Room} {kX6_totalAt : am_T} (h_X6_totalAt : am_S false yX6_totalAt (am_ws yX6_totalAt cX6_totalAt 2 (some .long)) mX6_totalAt kX6_totalAt) {mX5_piece : Room} {kX5_piece : am_T} (h_X5_piece : am_S false yX5_piece (am_ws yX5_piece cX5_piece 6 (some .int)) mX5_piece kX5_piece) {mX6_costAt : Room} {kX6_costAt : am_T} (h_X6_costAt : am_S false yX6_costAt (am_ws yX6_costAt cX6_costAt 2 (some .int)) mX6_costAt kX6_costAt) {mX6_tiesAt : Room} {kX6_tiesAt : am_T} (h_X6_tiesAt : am_S false yX6_tiesAt (am_ws yX6_tiesAt cX6_tiesAt 2 (some .long)) mX6_tiesAt kX6_tiesAt) {mX6_add : Room} {kX6_add : am_T} (h_X6_add : am_S false yX6_add (am_ws yX6_add cX6_add 8 none) mX6_add kX6_add) {rm : Room} (hz : rm.cells = 0 ∧ rm.slots = 0) (R_X4_size : mX4_size.frames + 1 ≤ rm.frames ∧ 8 + (1 + 11) + mX4_size.locals ≤ rm.locals) (R_X4_direction : mX4_direction.frames + 1 ≤ rm.frames ∧ 8 + (1 + 11) + mX4_direction.locals ≤ rm.locals) (R_X4_firstLetter : mX4_firstLetter.frames + 1 ≤ rm.frames ∧ 8 + (3 + 11) + mX4_firstLetter.locals ≤ rm.locals) (R_X4_minus : mX4_minus.frames + 1 ≤ rm.frames ∧ 8 + (2 + 11) + mX4_minus.locals ≤ rm.locals) (R_X5_unit : mX5_unit.frames + 1 ≤ rm.frames ∧ 8 + (7 + 11) + mX5_unit.locals ≤ rm.locals) (R_X6_totalAt : mX6_totalAt.frames + 1 ≤ rm.frames ∧ 8 + (2 + 11) + mX6_totalAt.locals ≤ rm.locals) (R_X5_piece : mX5_piece.frames + 1 ≤ rm.frames ∧ 8 + (6 + 11) + mX5_piece.locals ≤ rm.locals) (R_X6_costAt : mX6_costAt.frames + 1 ≤ rm.frames ∧ 8 + (2 + 11) + mX6_costAt.locals ≤ rm.locals) (R_X6_tiesAt : mX6_tiesAt.frames + 1 ≤ rm.frames ∧ 8 + (2 + 11) + mX6_tiesAt.locals ≤ rm.locals) (R_X6_add : mX6_add.frames + 1 ≤ rm.frames ∧ 8 + (8 + 11) + mX6_add.locals ≤ rm.locals) : am_S false yX5_addPieces (am_ws yX5_addPieces cX5_addPieces 13 none) rm (WP_X5_addPieces kX4_size kX4_direction kX4_firstLetter kX4_minus kX5_unit kX6_totalAt kX5_piece kX6_costAt kX6_tiesAt kX6_add) := by
  refine am_S.of (fun _ => hz) (by decide +kernel) (fun h0 Q G => cl_X5_addPieces kX4_size kX4_direction kX4_firstLetter kX4_minus kX5_unit kX6_totalAt kX5_piece kX6_costAt kX6_tiesAt kX6_add Q G) ?_
  intro p l e s m args below meth c D h0 Q X hr hnm hQ
  refine ⟨?_, ?_, ?_, ?_⟩
  · unfold B_X5_addPieces_0
    refine as_iload X (by decide +kernel : decode cX5_addPieces 0 = .ok (.iload 5, 2)) ?_
    refine as_cs X h_X4_size (by decide +kernel : decode cX5_addPieces 2 = .ok (.invokestatic 156, 3)) dn_X4_size ml_X5_156 st_X4_size ini_X4 co_X4_size R_X4_size ?_
    refine as_istore X (by decide +kernel : decode cX5_addPieces 5 = .ok (.istore 6, 2)) ?_
    refine as_iload X (by decide +kernel : decode cX5_addPieces 7 = .ok (.iload 5, 2)) ?_
    refine as_cs X h_X4_direction (by decide +kernel : decode cX5_addPieces 9 = .ok (.invokestatic 187, 3)) dn_X4_direction ml_X5_187 st_X4_direction ini_X4 co_X4_direction R_X4_direction ?_
    refine as_istore X (by decide +kernel : decode cX5_addPieces 12 = .ok (.istore 7, 2)) ?_
    refine as_iload X (by decide +kernel : decode cX5_addPieces 14 = .ok (.iload 5, 2)) ?_
    refine as_istore X (by decide +kernel : decode cX5_addPieces 16 = .ok (.istore 8, 2)) ?_
    refine as_iconst X (by decide +kernel : decode cX5_addPieces 18 = .ok (.iconst 1, 1)) rfl ?_
    refine as_istore X (by decide +kernel : decode cX5_addPieces 19 = .ok (.istore 9, 2)) ?_
    exact fun _ _ _ h => h
  · unfold B_X5_addPieces_21
    refine as_iload X (by decide +kernel : decode cX5_addPieces 21 = .ok (.iload 9, 2)) ?_
    refine as_iload X (by decide +kernel : decode cX5_addPieces 23 = .ok (.iload 6, 2)) ?_
    refine as_ic_ge X (tgt := 165) (by decide +kernel : decode cX5_addPieces 25 = .ok (.if_icmp .ge 140, 3)) (by decide) ?_ ?_
    · exact as_rv X hQ hr (by decide +kernel : decode cX5_addPieces 165 = .ok (.return_, 1))
    · refine as_iload X (by decide +kernel : decode cX5_addPieces 28 = .ok (.iload 8, 2)) ?_
      refine as_cs X h_X4_firstLetter (by decide +kernel : decode cX5_addPieces 30 = .ok (.invokestatic 158, 3)) dn_X4_firstLetter ml_X5_158 st_X4_firstLetter ini_X4 co_X4_firstLetter R_X4_firstLetter ?_
      refine as_istore X (by decide +kernel : decode cX5_addPieces 33 = .ok (.istore 10, 2)) ?_
      refine as_iload X (by decide +kernel : decode cX5_addPieces 35 = .ok (.iload 7, 2)) ?_
      refine as_iload X (by decide +kernel : decode cX5_addPieces 37 = .ok (.iload 10, 2)) ?_
      refine as_ior X (by decide +kernel : decode cX5_addPieces 39 = .ok (.ior, 1)) ?_
      refine as_istore X (by decide +kernel : decode cX5_addPieces 40 = .ok (.istore 7, 2)) ?_
      refine as_iload X (by decide +kernel : decode cX5_addPieces 42 = .ok (.iload 8, 2)) ?_
      refine as_iload X (by decide +kernel : decode cX5_addPieces 44 = .ok (.iload 10, 2)) ?_
      refine as_cs X h_X4_minus (by decide +kernel : decode cX5_addPieces 46 = .ok (.invokestatic 174, 3)) dn_X4_minus ml_X5_174 st_X4_minus ini_X4 co_X4_minus R_X4_minus ?_
      refine as_istore X (by decide +kernel : decode cX5_addPieces 49 = .ok (.istore 8, 2)) ?_
      refine as_aload_n X (by decide +kernel : decode cX5_addPieces 51 = .ok (.aload_n 0, 1)) rfl ?_
      refine as_iload_n X (by decide +kernel : decode cX5_addPieces 52 = .ok (.iload_n 2, 1)) rfl ?_
      refine as_iload_n X (by decide +kernel : decode cX5_addPieces 53 = .ok (.iload_n 3, 1)) rfl ?_
      refine as_iload X (by decide +kernel : decode cX5_addPieces 54 = .ok (.iload 7, 2)) ?_
      refine as_cv X h_X5_unit rfl (by decide +kernel : decode cX5_addPieces 56 = .ok (.invokevirtual 184, 3)) dn_X5_unit ml_X5_184 im_X5_unit se_X5_unit ini_X5 co_X5_unit R_X5_unit ?_
      refine as_istore X (by decide +kernel : decode cX5_addPieces 59 = .ok (.istore 11, 2)) ?_
      refine as_aload_n X (by decide +kernel : decode cX5_addPieces 61 = .ok (.aload_n 0, 1)) rfl ?_
      refine as_get X fc_X5 (by decide +kernel : decode cX5_addPieces 62 = .ok (.getfield 22, 3)) (by decide) fl_X5_22 ?_
      refine as_iload X (by decide +kernel : decode cX5_addPieces 65 = .ok (.iload 11, 2)) ?_
      refine as_cv X h_X6_totalAt rfl (by decide +kernel : decode cX5_addPieces 67 = .ok (.invokevirtual 120, 3)) dn_X6_totalAt ml_X5_120 im_X6_totalAt se_X6_totalAt ini_X6 co_X6_totalAt R_X6_totalAt ?_
      refine as_lconst X (by decide +kernel : decode cX5_addPieces 70 = .ok (.lconst 0, 1)) rfl ?_
      refine as_lcmp X (by decide +kernel : decode cX5_addPieces 71 = .ok (.lcmp, 1)) ?_
      refine as_if_le X (tgt := 159) (by decide +kernel : decode cX5_addPieces 72 = .ok (.ifCond .le 87, 3)) (by decide) ?_ ?_
      · exact fun _ _ _ h => h
      · refine as_aload_n X (by decide +kernel : decode cX5_addPieces 75 = .ok (.aload_n 0, 1)) rfl ?_
        refine as_iload_n X (by decide +kernel : decode cX5_addPieces 76 = .ok (.iload_n 3, 1)) rfl ?_
        refine as_iload X (by decide +kernel : decode cX5_addPieces 77 = .ok (.iload 4, 2)) ?_
        refine as_iload X (by decide +kernel : decode cX5_addPieces 79 = .ok (.iload 8, 2)) ?_
        refine as_cv X h_X5_piece rfl (by decide +kernel : decode cX5_addPieces 81 = .ok (.invokevirtual 110, 3)) dn_X5_piece ml_X5_110 im_X5_piece se_X5_piece ini_X5 co_X5_piece R_X5_piece ?_
        refine as_istore X (by decide +kernel : decode cX5_addPieces 84 = .ok (.istore 12, 2)) ?_
        refine as_aload_n X (by decide +kernel : decode cX5_addPieces 86 = .ok (.aload_n 0, 1)) rfl ?_
        refine as_get X fc_X5 (by decide +kernel : decode cX5_addPieces 87 = .ok (.getfield 18, 3)) (by decide) fl_X5_18 ?_
        refine as_iload_n X (by decide +kernel : decode cX5_addPieces 90 = .ok (.iload_n 1, 1)) rfl ?_
        refine as_aload_n X (by decide +kernel : decode cX5_addPieces 91 = .ok (.aload_n 0, 1)) rfl ?_
        refine as_get X fc_X5 (by decide +kernel : decode cX5_addPieces 92 = .ok (.getfield 22, 3)) (by decide) fl_X5_22 ?_
        refine as_iload X (by decide +kernel : decode cX5_addPieces 95 = .ok (.iload 11, 2)) ?_
        refine as_cv X h_X6_totalAt rfl (by decide +kernel : decode cX5_addPieces 97 = .ok (.invokevirtual 120, 3)) dn_X6_totalAt ml_X5_120 im_X6_totalAt se_X6_totalAt ini_X6 co_X6_totalAt R_X6_totalAt ?_
        refine as_aload_n X (by decide +kernel : decode cX5_addPieces 100 = .ok (.aload_n 0, 1)) rfl ?_
        refine as_get X fc_X5 (by decide +kernel : decode cX5_addPieces 101 = .ok (.getfield 18, 3)) (by decide) fl_X5_18 ?_
        refine as_iload X (by decide +kernel : decode cX5_addPieces 104 = .ok (.iload 12, 2)) ?_
        refine as_cv X h_X6_totalAt rfl (by decide +kernel : decode cX5_addPieces 106 = .ok (.invokevirtual 120, 3)) dn_X6_totalAt ml_X5_120 im_X6_totalAt se_X6_totalAt ini_X6 co_X6_totalAt R_X6_totalAt ?_
        refine as_lmul X (by decide +kernel : decode cX5_addPieces 109 = .ok (.lmul, 1)) ?_
        exact fun _ _ _ h => h
  · unfold B_X5_addPieces_110
    refine as_aload_n X (by decide +kernel : decode cX5_addPieces 110 = .ok (.aload_n 0, 1)) rfl ?_
    refine as_get X fc_X5 (by decide +kernel : decode cX5_addPieces 111 = .ok (.getfield 22, 3)) (by decide) fl_X5_22 ?_
    refine as_iload X (by decide +kernel : decode cX5_addPieces 114 = .ok (.iload 11, 2)) ?_
    refine as_cv X h_X6_costAt rfl (by decide +kernel : decode cX5_addPieces 116 = .ok (.invokevirtual 114, 3)) dn_X6_costAt ml_X5_114 im_X6_costAt se_X6_costAt ini_X6 co_X6_costAt R_X6_costAt ?_
    refine as_aload_n X (by decide +kernel : decode cX5_addPieces 119 = .ok (.aload_n 0, 1)) rfl ?_
    refine as_get X fc_X5 (by decide +kernel : decode cX5_addPieces 120 = .ok (.getfield 18, 3)) (by decide) fl_X5_18 ?_
    refine as_iload X (by decide +kernel : decode cX5_addPieces 123 = .ok (.iload 12, 2)) ?_
    refine as_cv X h_X6_costAt rfl (by decide +kernel : decode cX5_addPieces 125 = .ok (.invokevirtual 114, 3)) dn_X6_costAt ml_X5_114 im_X6_costAt se_X6_costAt ini_X6 co_X6_costAt R_X6_costAt ?_
    refine as_iadd X (by decide +kernel : decode cX5_addPieces 128 = .ok (.iadd, 1)) ?_
    refine as_aload_n X (by decide +kernel : decode cX5_addPieces 129 = .ok (.aload_n 0, 1)) rfl ?_
    refine as_get X fc_X5 (by decide +kernel : decode cX5_addPieces 130 = .ok (.getfield 22, 3)) (by decide) fl_X5_22 ?_
    refine as_iload X (by decide +kernel : decode cX5_addPieces 133 = .ok (.iload 11, 2)) ?_
    refine as_cv X h_X6_tiesAt rfl (by decide +kernel : decode cX5_addPieces 135 = .ok (.invokevirtual 124, 3)) dn_X6_tiesAt ml_X5_124 im_X6_tiesAt se_X6_tiesAt ini_X6 co_X6_tiesAt R_X6_tiesAt ?_
    refine as_aload_n X (by decide +kernel : decode cX5_addPieces 138 = .ok (.aload_n 0, 1)) rfl ?_
    refine as_get X fc_X5 (by decide +kernel : decode cX5_addPieces 139 = .ok (.getfield 18, 3)) (by decide) fl_X5_18 ?_
    refine as_iload X (by decide +kernel : decode cX5_addPieces 142 = .ok (.iload 12, 2)) ?_
    refine as_cv X h_X6_tiesAt rfl (by decide +kernel : decode cX5_addPieces 144 = .ok (.invokevirtual 124, 3)) dn_X6_tiesAt ml_X5_124 im_X6_tiesAt se_X6_tiesAt ini_X6 co_X6_tiesAt R_X6_tiesAt ?_
    refine as_lmul X (by decide +kernel : decode cX5_addPieces 147 = .ok (.lmul, 1)) ?_
    refine as_iload_n X (by decide +kernel : decode cX5_addPieces 148 = .ok (.iload_n 3, 1)) rfl ?_
    refine as_sipush X (by decide +kernel : decode cX5_addPieces 149 = .ok (.sipush 512, 3)) rfl ?_
    refine as_imul X (by decide +kernel : decode cX5_addPieces 152 = .ok (.imul, 1)) ?_
    refine as_iload X (by decide +kernel : decode cX5_addPieces 153 = .ok (.iload 7, 2)) ?_
    refine as_iadd X (by decide +kernel : decode cX5_addPieces 155 = .ok (.iadd, 1)) ?_
    refine as_cv X h_X6_add rfl (by decide +kernel : decode cX5_addPieces 156 = .ok (.invokevirtual 127, 3)) dn_X6_add ml_X5_127 im_X6_add se_X6_add ini_X6 co_X6_add R_X6_add ?_
    exact fun _ _ _ h => h
  · unfold B_X5_addPieces_159
    refine as_iinc X (by decide +kernel : decode cX5_addPieces 159 = .ok (.iinc 9 1, 3)) rfl ?_
    refine as_goto X (tgt := 21) (by decide +kernel : decode cX5_addPieces 162 = .ok (.goto (-141), 3)) (by decide) ?_
    exact fun _ _ _ h => h

def B_X5_unit_0 (kX5_slotOf : am_T) (kX6_opens : am_T) (kX5_spelling : am_T) (kX5_addWord : am_T) (kX5_addReversals : am_T) (kX5_addAnagrams : am_T) (kX5_addContainers : am_T) (kX5_addHidden : am_T) (kX5_addShortened : am_T) (kX5_addInitials : am_T) (Q : am_Q) (G : Nat → am_K) : am_K := (ak_al 0 (ak_il 1 (ak_il 2 (ak_il 3 (ak_cv 4 3 kX5_slotOf (ak_is 4 (ak_al 0 (ak_get 3 1 (ak_il 4 (ak_al 0 (ak_get 3 11 (ak_cv 3 4 kX6_opens (ak_if (fun x => x = 0) (ak_il 4 (ak_ri Q)) (ak_al 0 (ak_il 3 (ak_cv 2 3 kX5_spelling (ak_ls 5 (ak_il 2 (ak_il 1 (ak_ib (fun x y => x - y) (ak_c (.int 1) (ak_ic (fun x y => x = y) (ak_al 0 (ak_il 4 (ak_il 1 (ak_ll 5 (ak_cv 4 3 kX5_addWord (ak_il 4 (ak_ri Q))))))) (ak_al 0 (ak_il 4 (ak_il 1 (ak_il 2 (ak_il 3 (ak_cv 5 3 kX5_addReversals (ak_al 0 (ak_il 4 (ak_il 1 (ak_il 2 (ak_ll 5 (ak_cv 5 3 kX5_addAnagrams (ak_al 0 (ak_il 4 (G 76)))))))))))))))))))))))))))))))))))))
def B_X5_unit_76 (kX5_slotOf : am_T) (kX6_opens : am_T) (kX5_spelling : am_T) (kX5_addWord : am_T) (kX5_addReversals : am_T) (kX5_addAnagrams : am_T) (kX5_addContainers : am_T) (kX5_addHidden : am_T) (kX5_addShortened : am_T) (kX5_addInitials : am_T) (Q : am_Q) (G : Nat → am_K) : am_K := (ak_c (.int 4) (ak_il 1 (ak_il 2 (ak_il 3 (ak_cv 6 3 kX5_addContainers (ak_al 0 (ak_il 4 (ak_c (.int 5) (ak_il 1 (ak_il 2 (ak_il 3 (ak_cv 6 3 kX5_addContainers (ak_al 0 (ak_il 4 (ak_il 1 (ak_il 2 (ak_ll 5 (ak_cv 5 3 kX5_addHidden (ak_al 0 (ak_il 4 (ak_c (.int 7) (ak_il 1 (ak_il 2 (ak_ll 5 (ak_cv 6 3 kX5_addShortened (ak_al 0 (ak_il 4 (ak_c (.int 8) (ak_il 1 (ak_il 2 (ak_ll 5 (ak_cv 6 3 kX5_addShortened (ak_al 0 (ak_il 4 (ak_il 1 (ak_il 2 (ak_ll 5 (ak_cv 5 3 kX5_addInitials (ak_il 4 (ak_ri Q))))))))))))))))))))))))))))))))))))))))
def cl_X5_unit (kX5_slotOf : am_T) (kX6_opens : am_T) (kX5_spelling : am_T) (kX5_addWord : am_T) (kX5_addReversals : am_T) (kX5_addAnagrams : am_T) (kX5_addContainers : am_T) (kX5_addHidden : am_T) (kX5_addShortened : am_T) (kX5_addInitials : am_T) (Q : am_Q) (G : Nat → am_K) : Prop := am_N G 0 (B_X5_unit_0 kX5_slotOf kX6_opens kX5_spelling kX5_addWord kX5_addReversals kX5_addAnagrams kX5_addContainers kX5_addHidden kX5_addShortened kX5_addInitials Q G) ∧ am_N G 76 (B_X5_unit_76 kX5_slotOf kX6_opens kX5_spelling kX5_addWord kX5_addReversals kX5_addAnagrams kX5_addContainers kX5_addHidden kX5_addShortened kX5_addInitials Q G)
def WP_X5_unit (kX5_slotOf : am_T) (kX6_opens : am_T) (kX5_spelling : am_T) (kX5_addWord : am_T) (kX5_addReversals : am_T) (kX5_addAnagrams : am_T) (kX5_addContainers : am_T) (kX5_addHidden : am_T) (kX5_addShortened : am_T) (kX5_addInitials : am_T) : am_T := fun av h Q => (lg_sl av).length ≤ 7 ∧ ∀ G, cl_X5_unit kX5_slotOf kX6_opens kX5_spelling kX5_addWord kX5_addReversals kX5_addAnagrams kX5_addContainers kX5_addHidden kX5_addShortened kX5_addInitials Q G → G 0 (am_ent 7 av) [] h
set_option maxHeartbeats 4000000 in
set_option maxRecDepth 100000 in
theorem s_X5_unit {mX5_slotOf : Room} {kX5_slotOf : am_T} (h_X5_slotOf : am_S false yX5_slotOf (am_ws yX5_slotOf cX5_slotOf 4 (some .int)) mX5_slotOf kX5_slotOf) {mX6_opens : Room} {kX6_opens : am_T} (h_X6_opens : am_S false yX6_opens (am_ws yX6_opens cX6_opens 3 (some .boolean)) mX6_opens kX6_opens) {mX5_spelling : Room} {kX5_spelling : am_T} (h_X5_spelling : am_S false yX5_spelling (am_ws yX5_spelling cX5_spelling 8 (some .long)) mX5_spelling kX5_spelling) {mX5_addWord : Room} {kX5_addWord : am_T} (h_X5_addWord : am_S false yX5_addWord (am_ws yX5_addWord cX5_addWord 5 none) mX5_addWord kX5_addWord) {mX5_addReversals : Room} {kX5_addReversals : am_T} (h_X5_addReversals : am_S false yX5_addReversals (am_ws yX5_addReversals cX5_addReversals 5 none) mX5_addReversals kX5_addReversals) {mX5_addAnagrams : Room} {kX5_addAnagrams : am_T} (h_X5_addAnagrams : am_S false yX5_addAnagrams (am_ws yX5_addAnagrams cX5_addAnagrams 6 none) mX5_addAnagrams kX5_addAnagrams) {mX5_addContainers : Room} {kX5_addContainers : am_T} (h_X5_addContainers : am_S false yX5_addContainers (am_ws yX5_addContainers cX5_addContainers 7 none) mX5_addContainers kX5_addContainers) {mX5_addHidden : Room} {kX5_addHidden : am_T} (h_X5_addHidden : am_S false yX5_addHidden (am_ws yX5_addHidden cX5_addHidden 7 none) mX5_addHidden kX5_addHidden) {mX5_addShortened : Room} {kX5_addShortened : am_T} (h_X5_addShortened : am_S false yX5_addShortened (am_ws yX5_addShortened cX5_addShortened 10 none) mX5_addShortened kX5_addShortened) {mX5_addInitials : Room} {kX5_addInitials : am_T} (h_X5_addInitials : am_S false yX5_addInitials (am_ws yX5_addInitials cX5_addInitials 6 none) mX5_addInitials kX5_addInitials) {rm : Room} (hz : rm.cells = 0 ∧ rm.slots = 0) (R_X5_slotOf : mX5_slotOf.frames + 1 ≤ rm.frames ∧ 8 + (4 + 11) + mX5_slotOf.locals ≤ rm.locals) (R_X6_opens : mX6_opens.frames + 1 ≤ rm.frames ∧ 8 + (3 + 11) + mX6_opens.locals ≤ rm.locals) (R_X5_spelling : mX5_spelling.frames + 1 ≤ rm.frames ∧ 8 + (8 + 11) + mX5_spelling.locals ≤ rm.locals) (R_X5_addWord : mX5_addWord.frames + 1 ≤ rm.frames ∧ 8 + (5 + 11) + mX5_addWord.locals ≤ rm.locals) (R_X5_addReversals : mX5_addReversals.frames + 1 ≤ rm.frames ∧ 8 + (5 + 11) + mX5_addReversals.locals ≤ rm.locals) (R_X5_addAnagrams : mX5_addAnagrams.frames + 1 ≤ rm.frames ∧ 8 + (6 + 11) + mX5_addAnagrams.locals ≤ rm.locals) (R_X5_addContainers : mX5_addContainers.frames + 1 ≤ rm.frames ∧ 8 + (7 + 11) + mX5_addContainers.locals ≤ rm.locals) (R_X5_addHidden : mX5_addHidden.frames + 1 ≤ rm.frames ∧ 8 + (7 + 11) + mX5_addHidden.locals ≤ rm.locals) (R_X5_addShortened : mX5_addShortened.frames + 1 ≤ rm.frames ∧ 8 + (10 + 11) + mX5_addShortened.locals ≤ rm.locals) (R_X5_addInitials : mX5_addInitials.frames + 1 ≤ rm.frames ∧ 8 + (6 + 11) + mX5_addInitials.locals ≤ rm.locals) : am_S false yX5_unit (am_ws yX5_unit cX5_unit 7 (some .int)) rm (WP_X5_unit kX5_slotOf kX6_opens kX5_spelling kX5_addWord kX5_addReversals kX5_addAnagrams kX5_addContainers kX5_addHidden kX5_addShortened kX5_addInitials) := by
  refine am_S.of (fun _ => hz) (by decide +kernel) (fun h0 Q G => cl_X5_unit kX5_slotOf kX6_opens kX5_spelling kX5_addWord kX5_addReversals kX5_addAnagrams kX5_addContainers kX5_addHidden kX5_addShortened kX5_addInitials Q G) ?_
  intro p l e s m args below meth c D h0 Q X hr hnm hQ
  refine ⟨?_, ?_⟩
  · unfold B_X5_unit_0
    refine as_aload_n X (by decide +kernel : decode cX5_unit 0 = .ok (.aload_n 0, 1)) rfl ?_
    refine as_iload_n X (by decide +kernel : decode cX5_unit 1 = .ok (.iload_n 1, 1)) rfl ?_
    refine as_iload_n X (by decide +kernel : decode cX5_unit 2 = .ok (.iload_n 2, 1)) rfl ?_
    refine as_iload_n X (by decide +kernel : decode cX5_unit 3 = .ok (.iload_n 3, 1)) rfl ?_
    refine as_cv X h_X5_slotOf rfl (by decide +kernel : decode cX5_unit 4 = .ok (.invokevirtual 177, 3)) dn_X5_slotOf ml_X5_177 im_X5_slotOf se_X5_slotOf ini_X5 co_X5_slotOf R_X5_slotOf ?_
    refine as_istore X (by decide +kernel : decode cX5_unit 7 = .ok (.istore 4, 2)) ?_
    refine as_aload_n X (by decide +kernel : decode cX5_unit 9 = .ok (.aload_n 0, 1)) rfl ?_
    refine as_get X fc_X5 (by decide +kernel : decode cX5_unit 10 = .ok (.getfield 22, 3)) (by decide) fl_X5_22 ?_
    refine as_iload X (by decide +kernel : decode cX5_unit 13 = .ok (.iload 4, 2)) ?_
    refine as_aload_n X (by decide +kernel : decode cX5_unit 15 = .ok (.aload_n 0, 1)) rfl ?_
    refine as_get X fc_X5 (by decide +kernel : decode cX5_unit 16 = .ok (.getfield 65, 3)) (by decide) fl_X5_65 ?_
    refine as_cv X h_X6_opens rfl (by decide +kernel : decode cX5_unit 19 = .ok (.invokevirtual 92, 3)) dn_X6_opens ml_X5_92 im_X6_opens se_X6_opens ini_X6 co_X6_opens R_X6_opens ?_
    refine as_if_ne X (tgt := 28) (by decide +kernel : decode cX5_unit 22 = .ok (.ifCond .ne 6, 3)) (by decide) ?_ ?_
    · refine as_iload X (by decide +kernel : decode cX5_unit 25 = .ok (.iload 4, 2)) ?_
      exact as_ri X hQ hr (by decide +kernel : decode cX5_unit 27 = .ok (.ireturn, 1))
    · refine as_aload_n X (by decide +kernel : decode cX5_unit 28 = .ok (.aload_n 0, 1)) rfl ?_
      refine as_iload_n X (by decide +kernel : decode cX5_unit 29 = .ok (.iload_n 3, 1)) rfl ?_
      refine as_cv X h_X5_spelling rfl (by decide +kernel : decode cX5_unit 30 = .ok (.invokevirtual 190, 3)) dn_X5_spelling ml_X5_190 im_X5_spelling se_X5_spelling ini_X5 co_X5_spelling R_X5_spelling ?_
      refine as_lstore X (by decide +kernel : decode cX5_unit 33 = .ok (.lstore 5, 2)) ?_
      refine as_iload_n X (by decide +kernel : decode cX5_unit 35 = .ok (.iload_n 2, 1)) rfl ?_
      refine as_iload_n X (by decide +kernel : decode cX5_unit 36 = .ok (.iload_n 1, 1)) rfl ?_
      refine as_isub X (by decide +kernel : decode cX5_unit 37 = .ok (.isub, 1)) ?_
      refine as_iconst X (by decide +kernel : decode cX5_unit 38 = .ok (.iconst 1, 1)) rfl ?_
      refine as_ic_ne X (tgt := 54) (by decide +kernel : decode cX5_unit 39 = .ok (.if_icmp .ne 15, 3)) (by decide) ?_ ?_
      · refine as_aload_n X (by decide +kernel : decode cX5_unit 42 = .ok (.aload_n 0, 1)) rfl ?_
        refine as_iload X (by decide +kernel : decode cX5_unit 43 = .ok (.iload 4, 2)) ?_
        refine as_iload_n X (by decide +kernel : decode cX5_unit 45 = .ok (.iload_n 1, 1)) rfl ?_
        refine as_lload X (by decide +kernel : decode cX5_unit 46 = .ok (.lload 5, 2)) ?_
        refine as_cv X h_X5_addWord rfl (by decide +kernel : decode cX5_unit 48 = .ok (.invokevirtual 193, 3)) dn_X5_addWord ml_X5_193 im_X5_addWord se_X5_addWord ini_X5 co_X5_addWord R_X5_addWord ?_
        refine as_iload X (by decide +kernel : decode cX5_unit 51 = .ok (.iload 4, 2)) ?_
        exact as_ri X hQ hr (by decide +kernel : decode cX5_unit 53 = .ok (.ireturn, 1))
      · refine as_aload_n X (by decide +kernel : decode cX5_unit 54 = .ok (.aload_n 0, 1)) rfl ?_
        refine as_iload X (by decide +kernel : decode cX5_unit 55 = .ok (.iload 4, 2)) ?_
        refine as_iload_n X (by decide +kernel : decode cX5_unit 57 = .ok (.iload_n 1, 1)) rfl ?_
        refine as_iload_n X (by decide +kernel : decode cX5_unit 58 = .ok (.iload_n 2, 1)) rfl ?_
        refine as_iload_n X (by decide +kernel : decode cX5_unit 59 = .ok (.iload_n 3, 1)) rfl ?_
        refine as_cv X h_X5_addReversals rfl (by decide +kernel : decode cX5_unit 60 = .ok (.invokevirtual 197, 3)) dn_X5_addReversals ml_X5_197 im_X5_addReversals se_X5_addReversals ini_X5 co_X5_addReversals R_X5_addReversals ?_
        refine as_aload_n X (by decide +kernel : decode cX5_unit 63 = .ok (.aload_n 0, 1)) rfl ?_
        refine as_iload X (by decide +kernel : decode cX5_unit 64 = .ok (.iload 4, 2)) ?_
        refine as_iload_n X (by decide +kernel : decode cX5_unit 66 = .ok (.iload_n 1, 1)) rfl ?_
        refine as_iload_n X (by decide +kernel : decode cX5_unit 67 = .ok (.iload_n 2, 1)) rfl ?_
        refine as_lload X (by decide +kernel : decode cX5_unit 68 = .ok (.lload 5, 2)) ?_
        refine as_cv X h_X5_addAnagrams rfl (by decide +kernel : decode cX5_unit 70 = .ok (.invokevirtual 201, 3)) dn_X5_addAnagrams ml_X5_201 im_X5_addAnagrams se_X5_addAnagrams ini_X5 co_X5_addAnagrams R_X5_addAnagrams ?_
        refine as_aload_n X (by decide +kernel : decode cX5_unit 73 = .ok (.aload_n 0, 1)) rfl ?_
        refine as_iload X (by decide +kernel : decode cX5_unit 74 = .ok (.iload 4, 2)) ?_
        exact fun _ _ _ h => h
  · unfold B_X5_unit_76
    refine as_iconst X (by decide +kernel : decode cX5_unit 76 = .ok (.iconst 4, 1)) rfl ?_
    refine as_iload_n X (by decide +kernel : decode cX5_unit 77 = .ok (.iload_n 1, 1)) rfl ?_
    refine as_iload_n X (by decide +kernel : decode cX5_unit 78 = .ok (.iload_n 2, 1)) rfl ?_
    refine as_iload_n X (by decide +kernel : decode cX5_unit 79 = .ok (.iload_n 3, 1)) rfl ?_
    refine as_cv X h_X5_addContainers rfl (by decide +kernel : decode cX5_unit 80 = .ok (.invokevirtual 205, 3)) dn_X5_addContainers ml_X5_205 im_X5_addContainers se_X5_addContainers ini_X5 co_X5_addContainers R_X5_addContainers ?_
    refine as_aload_n X (by decide +kernel : decode cX5_unit 83 = .ok (.aload_n 0, 1)) rfl ?_
    refine as_iload X (by decide +kernel : decode cX5_unit 84 = .ok (.iload 4, 2)) ?_
    refine as_iconst X (by decide +kernel : decode cX5_unit 86 = .ok (.iconst 5, 1)) rfl ?_
    refine as_iload_n X (by decide +kernel : decode cX5_unit 87 = .ok (.iload_n 1, 1)) rfl ?_
    refine as_iload_n X (by decide +kernel : decode cX5_unit 88 = .ok (.iload_n 2, 1)) rfl ?_
    refine as_iload_n X (by decide +kernel : decode cX5_unit 89 = .ok (.iload_n 3, 1)) rfl ?_
    refine as_cv X h_X5_addContainers rfl (by decide +kernel : decode cX5_unit 90 = .ok (.invokevirtual 205, 3)) dn_X5_addContainers ml_X5_205 im_X5_addContainers se_X5_addContainers ini_X5 co_X5_addContainers R_X5_addContainers ?_
    refine as_aload_n X (by decide +kernel : decode cX5_unit 93 = .ok (.aload_n 0, 1)) rfl ?_
    refine as_iload X (by decide +kernel : decode cX5_unit 94 = .ok (.iload 4, 2)) ?_
    refine as_iload_n X (by decide +kernel : decode cX5_unit 96 = .ok (.iload_n 1, 1)) rfl ?_
    refine as_iload_n X (by decide +kernel : decode cX5_unit 97 = .ok (.iload_n 2, 1)) rfl ?_
    refine as_lload X (by decide +kernel : decode cX5_unit 98 = .ok (.lload 5, 2)) ?_
    refine as_cv X h_X5_addHidden rfl (by decide +kernel : decode cX5_unit 100 = .ok (.invokevirtual 208, 3)) dn_X5_addHidden ml_X5_208 im_X5_addHidden se_X5_addHidden ini_X5 co_X5_addHidden R_X5_addHidden ?_
    refine as_aload_n X (by decide +kernel : decode cX5_unit 103 = .ok (.aload_n 0, 1)) rfl ?_
    refine as_iload X (by decide +kernel : decode cX5_unit 104 = .ok (.iload 4, 2)) ?_
    refine as_bipush X (by decide +kernel : decode cX5_unit 106 = .ok (.bipush 7, 2)) rfl ?_
    refine as_iload_n X (by decide +kernel : decode cX5_unit 108 = .ok (.iload_n 1, 1)) rfl ?_
    refine as_iload_n X (by decide +kernel : decode cX5_unit 109 = .ok (.iload_n 2, 1)) rfl ?_
    refine as_lload X (by decide +kernel : decode cX5_unit 110 = .ok (.lload 5, 2)) ?_
    refine as_cv X h_X5_addShortened rfl (by decide +kernel : decode cX5_unit 112 = .ok (.invokevirtual 211, 3)) dn_X5_addShortened ml_X5_211 im_X5_addShortened se_X5_addShortened ini_X5 co_X5_addShortened R_X5_addShortened ?_
    refine as_aload_n X (by decide +kernel : decode cX5_unit 115 = .ok (.aload_n 0, 1)) rfl ?_
    refine as_iload X (by decide +kernel : decode cX5_unit 116 = .ok (.iload 4, 2)) ?_
    refine as_bipush X (by decide +kernel : decode cX5_unit 118 = .ok (.bipush 8, 2)) rfl ?_
    refine as_iload_n X (by decide +kernel : decode cX5_unit 120 = .ok (.iload_n 1, 1)) rfl ?_
    refine as_iload_n X (by decide +kernel : decode cX5_unit 121 = .ok (.iload_n 2, 1)) rfl ?_
    refine as_lload X (by decide +kernel : decode cX5_unit 122 = .ok (.lload 5, 2)) ?_
    refine as_cv X h_X5_addShortened rfl (by decide +kernel : decode cX5_unit 124 = .ok (.invokevirtual 211, 3)) dn_X5_addShortened ml_X5_211 im_X5_addShortened se_X5_addShortened ini_X5 co_X5_addShortened R_X5_addShortened ?_
    refine as_aload_n X (by decide +kernel : decode cX5_unit 127 = .ok (.aload_n 0, 1)) rfl ?_
    refine as_iload X (by decide +kernel : decode cX5_unit 128 = .ok (.iload 4, 2)) ?_
    refine as_iload_n X (by decide +kernel : decode cX5_unit 130 = .ok (.iload_n 1, 1)) rfl ?_
    refine as_iload_n X (by decide +kernel : decode cX5_unit 131 = .ok (.iload_n 2, 1)) rfl ?_
    refine as_lload X (by decide +kernel : decode cX5_unit 132 = .ok (.lload 5, 2)) ?_
    refine as_cv X h_X5_addInitials rfl (by decide +kernel : decode cX5_unit 134 = .ok (.invokevirtual 215, 3)) dn_X5_addInitials ml_X5_215 im_X5_addInitials se_X5_addInitials ini_X5 co_X5_addInitials R_X5_addInitials ?_
    refine as_iload X (by decide +kernel : decode cX5_unit 137 = .ok (.iload 4, 2)) ?_
    exact as_ri X hQ hr (by decide +kernel : decode cX5_unit 139 = .ok (.ireturn, 1))

def B_X5_addUnit_0 (kX6_add : am_T) (Q : am_Q) (G : Nat → am_K) : am_K := (ak_al 0 (ak_get 3 1 (ak_il 1 (ak_c (.long 1) (ak_il 4 (ak_c (.long 1) (ak_il 2 (ak_c (.int 8192) (ak_ib (fun x y => x * y) (ak_il 3 (ak_ib (fun x y => x + y) (ak_cv 6 4 kX6_add (ak_rv Q)))))))))))))
def cl_X5_addUnit (kX6_add : am_T) (Q : am_Q) (G : Nat → am_K) : Prop := am_N G 0 (B_X5_addUnit_0 kX6_add Q G)
def WP_X5_addUnit (kX6_add : am_T) : am_T := fun av h Q => (lg_sl av).length ≤ 5 ∧ ∀ G, cl_X5_addUnit kX6_add Q G → G 0 (am_ent 5 av) [] h
set_option maxHeartbeats 4000000 in
set_option maxRecDepth 100000 in
theorem s_X5_addUnit {mX6_add : Room} {kX6_add : am_T} (h_X6_add : am_S false yX6_add (am_ws yX6_add cX6_add 8 none) mX6_add kX6_add) {rm : Room} (hz : rm.cells = 0 ∧ rm.slots = 0) (R_X6_add : mX6_add.frames + 1 ≤ rm.frames ∧ 8 + (8 + 11) + mX6_add.locals ≤ rm.locals) : am_S false yX5_addUnit (am_ws yX5_addUnit cX5_addUnit 5 none) rm (WP_X5_addUnit kX6_add) := by
  refine am_S.of (fun _ => hz) (by decide +kernel) (fun h0 Q G => cl_X5_addUnit kX6_add Q G) ?_
  intro p l e s m args below meth c D h0 Q X hr hnm hQ
  show am_N _ 0 (B_X5_addUnit_0  kX6_add Q _)
  · unfold B_X5_addUnit_0
    refine as_aload_n X (by decide +kernel : decode cX5_addUnit 0 = .ok (.aload_n 0, 1)) rfl ?_
    refine as_get X fc_X5 (by decide +kernel : decode cX5_addUnit 1 = .ok (.getfield 22, 3)) (by decide) fl_X5_22 ?_
    refine as_iload_n X (by decide +kernel : decode cX5_addUnit 4 = .ok (.iload_n 1, 1)) rfl ?_
    refine as_lconst X (by decide +kernel : decode cX5_addUnit 5 = .ok (.lconst 1, 1)) rfl ?_
    refine as_iload X (by decide +kernel : decode cX5_addUnit 6 = .ok (.iload 4, 2)) ?_
    refine as_lconst X (by decide +kernel : decode cX5_addUnit 8 = .ok (.lconst 1, 1)) rfl ?_
    refine as_iload_n X (by decide +kernel : decode cX5_addUnit 9 = .ok (.iload_n 2, 1)) rfl ?_
    refine as_sipush X (by decide +kernel : decode cX5_addUnit 10 = .ok (.sipush 8192, 3)) rfl ?_
    refine as_imul X (by decide +kernel : decode cX5_addUnit 13 = .ok (.imul, 1)) ?_
    refine as_iload_n X (by decide +kernel : decode cX5_addUnit 14 = .ok (.iload_n 3, 1)) rfl ?_
    refine as_iadd X (by decide +kernel : decode cX5_addUnit 15 = .ok (.iadd, 1)) ?_
    refine as_cv X h_X6_add rfl (by decide +kernel : decode cX5_addUnit 16 = .ok (.invokevirtual 127, 3)) dn_X6_add ml_X5_127 im_X6_add se_X6_add ini_X6 co_X6_add R_X6_add ?_
    exact as_rv X hQ hr (by decide +kernel : decode cX5_addUnit 19 = .ok (.return_, 1))

def B_X5_addWord_0 (kX5_maySay : am_T) (kX5_addUnit : am_T) (Q : am_Q) (G : Nat → am_K) : am_K := (ak_al 0 (ak_al 0 (ak_get 3 4 (ak_get 1 0 (ak_il 2 (ak_lald (ak_ll 3 (ak_cv 3 3 kX5_maySay (ak_if (fun x => x = 0) (G 30) (ak_al 0 (ak_il 1 (ak_c (.int 0) (ak_c (.int 0) (ak_al 0 (ak_get 3 5 (ak_c (.int 0) (ak_iald (ak_cv 5 3 kX5_addUnit (G 30)))))))))))))))))))
def B_X5_addWord_30 (kX5_maySay : am_T) (kX5_addUnit : am_T) (Q : am_Q) (G : Nat → am_K) : am_K := (ak_al 0 (ak_get 3 4 (ak_get 1 0 (ak_il 2 (ak_lald (ak_ll 3 (ak_lc (ak_if (fun x => x = 0) (ak_al 0 (ak_il 1 (ak_c (.int 1) (ak_c (.int 0) (ak_al 0 (ak_get 3 5 (ak_c (.int 1) (ak_iald (ak_cv 5 3 kX5_addUnit (G 57)))))))))) (G 57)))))))))
def B_X5_addWord_57 (kX5_maySay : am_T) (kX5_addUnit : am_T) (Q : am_Q) (G : Nat → am_K) : am_K := (ak_rv Q)
def cl_X5_addWord (kX5_maySay : am_T) (kX5_addUnit : am_T) (Q : am_Q) (G : Nat → am_K) : Prop := am_N G 0 (B_X5_addWord_0 kX5_maySay kX5_addUnit Q G) ∧ am_N G 30 (B_X5_addWord_30 kX5_maySay kX5_addUnit Q G) ∧ am_N G 57 (B_X5_addWord_57 kX5_maySay kX5_addUnit Q G)
def WP_X5_addWord (kX5_maySay : am_T) (kX5_addUnit : am_T) : am_T := fun av h Q => (lg_sl av).length ≤ 5 ∧ ∀ G, cl_X5_addWord kX5_maySay kX5_addUnit Q G → G 0 (am_ent 5 av) [] h
set_option maxHeartbeats 4000000 in
set_option maxRecDepth 100000 in
theorem s_X5_addWord {mX5_maySay : Room} {kX5_maySay : am_T} (h_X5_maySay : am_S false yX5_maySay (am_ws yX5_maySay cX5_maySay 6 (some .boolean)) mX5_maySay kX5_maySay) {mX5_addUnit : Room} {kX5_addUnit : am_T} (h_X5_addUnit : am_S false yX5_addUnit (am_ws yX5_addUnit cX5_addUnit 5 none) mX5_addUnit kX5_addUnit) {rm : Room} (hz : rm.cells = 0 ∧ rm.slots = 0) (R_X5_maySay : mX5_maySay.frames + 1 ≤ rm.frames ∧ 8 + (6 + 11) + mX5_maySay.locals ≤ rm.locals) (R_X5_addUnit : mX5_addUnit.frames + 1 ≤ rm.frames ∧ 8 + (5 + 11) + mX5_addUnit.locals ≤ rm.locals) : am_S false yX5_addWord (am_ws yX5_addWord cX5_addWord 5 none) rm (WP_X5_addWord kX5_maySay kX5_addUnit) := by
  refine am_S.of (fun _ => hz) (by decide +kernel) (fun h0 Q G => cl_X5_addWord kX5_maySay kX5_addUnit Q G) ?_
  intro p l e s m args below meth c D h0 Q X hr hnm hQ
  refine ⟨?_, ?_, ?_⟩
  · unfold B_X5_addWord_0
    refine as_aload_n X (by decide +kernel : decode cX5_addWord 0 = .ok (.aload_n 0, 1)) rfl ?_
    refine as_aload_n X (by decide +kernel : decode cX5_addWord 1 = .ok (.aload_n 0, 1)) rfl ?_
    refine as_get X fc_X5 (by decide +kernel : decode cX5_addWord 2 = .ok (.getfield 40, 3)) (by decide) fl_X5_40 ?_
    refine as_get X fc_X1 (by decide +kernel : decode cX5_addWord 5 = .ok (.getfield 73, 3)) (by decide) fl_X5_73 ?_
    refine as_iload_n X (by decide +kernel : decode cX5_addWord 8 = .ok (.iload_n 2, 1)) rfl ?_
    refine as_laload X (by decide +kernel : decode cX5_addWord 9 = .ok (.laload, 1)) ?_
    refine as_lload_n X (by decide +kernel : decode cX5_addWord 10 = .ok (.lload_n 3, 1)) rfl ?_
    refine as_cv X h_X5_maySay rfl (by decide +kernel : decode cX5_addWord 11 = .ok (.invokevirtual 137, 3)) dn_X5_maySay ml_X5_137 im_X5_maySay se_X5_maySay ini_X5 co_X5_maySay R_X5_maySay ?_
    refine as_if_eq X (tgt := 30) (by decide +kernel : decode cX5_addWord 14 = .ok (.ifCond .eq 16, 3)) (by decide) ?_ ?_
    · exact fun _ _ _ h => h
    · refine as_aload_n X (by decide +kernel : decode cX5_addWord 17 = .ok (.aload_n 0, 1)) rfl ?_
      refine as_iload_n X (by decide +kernel : decode cX5_addWord 18 = .ok (.iload_n 1, 1)) rfl ?_
      refine as_iconst X (by decide +kernel : decode cX5_addWord 19 = .ok (.iconst 0, 1)) rfl ?_
      refine as_iconst X (by decide +kernel : decode cX5_addWord 20 = .ok (.iconst 0, 1)) rfl ?_
      refine as_aload_n X (by decide +kernel : decode cX5_addWord 21 = .ok (.aload_n 0, 1)) rfl ?_
      refine as_get X fc_X5 (by decide +kernel : decode cX5_addWord 22 = .ok (.getfield 44, 3)) (by decide) fl_X5_44 ?_
      refine as_iconst X (by decide +kernel : decode cX5_addWord 25 = .ok (.iconst 0, 1)) rfl ?_
      refine as_iaload X (by decide +kernel : decode cX5_addWord 26 = .ok (.iaload, 1)) ?_
      refine as_cv X h_X5_addUnit rfl (by decide +kernel : decode cX5_addWord 27 = .ok (.invokevirtual 218, 3)) dn_X5_addUnit ml_X5_218 im_X5_addUnit se_X5_addUnit ini_X5 co_X5_addUnit R_X5_addUnit ?_
      exact fun _ _ _ h => h
  · unfold B_X5_addWord_30
    refine as_aload_n X (by decide +kernel : decode cX5_addWord 30 = .ok (.aload_n 0, 1)) rfl ?_
    refine as_get X fc_X5 (by decide +kernel : decode cX5_addWord 31 = .ok (.getfield 40, 3)) (by decide) fl_X5_40 ?_
    refine as_get X fc_X1 (by decide +kernel : decode cX5_addWord 34 = .ok (.getfield 73, 3)) (by decide) fl_X5_73 ?_
    refine as_iload_n X (by decide +kernel : decode cX5_addWord 37 = .ok (.iload_n 2, 1)) rfl ?_
    refine as_laload X (by decide +kernel : decode cX5_addWord 38 = .ok (.laload, 1)) ?_
    refine as_lload_n X (by decide +kernel : decode cX5_addWord 39 = .ok (.lload_n 3, 1)) rfl ?_
    refine as_lcmp X (by decide +kernel : decode cX5_addWord 40 = .ok (.lcmp, 1)) ?_
    refine as_if_ne X (tgt := 57) (by decide +kernel : decode cX5_addWord 41 = .ok (.ifCond .ne 16, 3)) (by decide) ?_ ?_
    · refine as_aload_n X (by decide +kernel : decode cX5_addWord 44 = .ok (.aload_n 0, 1)) rfl ?_
      refine as_iload_n X (by decide +kernel : decode cX5_addWord 45 = .ok (.iload_n 1, 1)) rfl ?_
      refine as_iconst X (by decide +kernel : decode cX5_addWord 46 = .ok (.iconst 1, 1)) rfl ?_
      refine as_iconst X (by decide +kernel : decode cX5_addWord 47 = .ok (.iconst 0, 1)) rfl ?_
      refine as_aload_n X (by decide +kernel : decode cX5_addWord 48 = .ok (.aload_n 0, 1)) rfl ?_
      refine as_get X fc_X5 (by decide +kernel : decode cX5_addWord 49 = .ok (.getfield 44, 3)) (by decide) fl_X5_44 ?_
      refine as_iconst X (by decide +kernel : decode cX5_addWord 52 = .ok (.iconst 1, 1)) rfl ?_
      refine as_iaload X (by decide +kernel : decode cX5_addWord 53 = .ok (.iaload, 1)) ?_
      refine as_cv X h_X5_addUnit rfl (by decide +kernel : decode cX5_addWord 54 = .ok (.invokevirtual 218, 3)) dn_X5_addUnit ml_X5_218 im_X5_addUnit se_X5_addUnit ini_X5 co_X5_addUnit R_X5_addUnit ?_
      exact fun _ _ _ h => h
    · exact fun _ _ _ h => h
  · unfold B_X5_addWord_57
    exact as_rv X hQ hr (by decide +kernel : decode cX5_addWord 57 = .ok (.return_, 1))

def B_X5_addReversals_0 (kX4_size : am_T) (kX5_marked : am_T) (kX4_reversed : am_T) (kX5_piece : am_T) (kX5_addReversed : am_T) (Q : am_Q) (G : Nat → am_K) : am_K := (ak_il 4 (ak_cs 1 kX4_size (ak_c (.int 2) (ak_ic (fun x y => y ≤ x) (ak_al 0 (ak_il 2 (ak_c (.int 2) (ak_cv 3 3 kX5_marked (ak_if (fun x => x = 0) (G 38) (ak_al 0 (ak_il 1 (ak_al 0 (ak_il 2 (ak_c (.int 1) (ak_ib (fun x y => x + y) (ak_il 3 (ak_il 4 (ak_cs 1 kX4_reversed (ak_cv 4 3 kX5_piece (ak_c (.int 0) (ak_cv 4 3 kX5_addReversed (G 38)))))))))))))))))) (ak_rv Q)))))
def B_X5_addReversals_38 (kX4_size : am_T) (kX5_marked : am_T) (kX4_reversed : am_T) (kX5_piece : am_T) (kX5_addReversed : am_T) (Q : am_Q) (G : Nat → am_K) : am_K := (ak_al 0 (ak_il 3 (ak_c (.int 1) (ak_ib (fun x y => x - y) (ak_c (.int 2) (ak_cv 3 3 kX5_marked (ak_if (fun x => x = 0) (G 68) (ak_al 0 (ak_il 1 (ak_al 0 (ak_il 2 (ak_il 3 (ak_c (.int 1) (ak_ib (fun x y => x - y) (ak_il 4 (ak_cs 1 kX4_reversed (ak_cv 4 3 kX5_piece (ak_c (.int 1) (ak_cv 4 3 kX5_addReversed (G 68))))))))))))))))))))
def B_X5_addReversals_68 (kX4_size : am_T) (kX5_marked : am_T) (kX4_reversed : am_T) (kX5_piece : am_T) (kX5_addReversed : am_T) (Q : am_Q) (G : Nat → am_K) : am_K := (ak_rv Q)
def cl_X5_addReversals (kX4_size : am_T) (kX5_marked : am_T) (kX4_reversed : am_T) (kX5_piece : am_T) (kX5_addReversed : am_T) (Q : am_Q) (G : Nat → am_K) : Prop := am_N G 0 (B_X5_addReversals_0 kX4_size kX5_marked kX4_reversed kX5_piece kX5_addReversed Q G) ∧ am_N G 38 (B_X5_addReversals_38 kX4_size kX5_marked kX4_reversed kX5_piece kX5_addReversed Q G) ∧ am_N G 68 (B_X5_addReversals_68 kX4_size kX5_marked kX4_reversed kX5_piece kX5_addReversed Q G)
def WP_X5_addReversals (kX4_size : am_T) (kX5_marked : am_T) (kX4_reversed : am_T) (kX5_piece : am_T) (kX5_addReversed : am_T) : am_T := fun av h Q => (lg_sl av).length ≤ 5 ∧ ∀ G, cl_X5_addReversals kX4_size kX5_marked kX4_reversed kX5_piece kX5_addReversed Q G → G 0 (am_ent 5 av) [] h
set_option maxHeartbeats 4000000 in
set_option maxRecDepth 100000 in
theorem s_X5_addReversals {mX4_size : Room} {kX4_size : am_T} (h_X4_size : am_S false yX4_size (am_ws yX4_size cX4_size 1 (some .int)) mX4_size kX4_size) {mX5_marked : Room} {kX5_marked : am_T} (h_X5_marked : am_S false yX5_marked (am_ws yX5_marked cX5_marked 3 (some .boolean)) mX5_marked kX5_marked) {mX4_reversed : Room} {kX4_reversed : am_T} (h_X4_reversed : am_S false yX4_reversed (am_ws yX4_reversed cX4_reversed 1 (some .int)) mX4_reversed kX4_reversed) {mX5_piece : Room} {kX5_piece : am_T} (h_X5_piece : am_S false yX5_piece (am_ws yX5_piece cX5_piece 6 (some .int)) mX5_piece kX5_piece) {mX5_addReversed : Room} {kX5_addReversed : am_T} (h_X5_addReversed : am_S false yX5_addReversed (am_ws yX5_addReversed cX5_addReversed 4 none) mX5_addReversed kX5_addReversed) {rm : Room} (hz : rm.cells = 0 ∧ rm.slots = 0) (R_X4_size : mX4_size.frames + 1 ≤ rm.frames ∧ 8 + (1 + 11) + mX4_size.locals ≤ rm.locals) (R_X5_marked : mX5_marked.frames + 1 ≤ rm.frames ∧ 8 + (3 + 11) + mX5_marked.locals ≤ rm.locals) (R_X4_reversed : mX4_reversed.frames + 1 ≤ rm.frames ∧ 8 + (1 + 11) + mX4_reversed.locals ≤ rm.locals) (R_X5_piece : mX5_piece.frames + 1 ≤ rm.frames ∧ 8 + (6 + 11) + mX5_piece.locals ≤ rm.locals) (R_X5_addReversed : mX5_addReversed.frames + 1 ≤ rm.frames ∧ 8 + (4 + 11) + mX5_addReversed.locals ≤ rm.locals) : am_S false yX5_addReversals (am_ws yX5_addReversals cX5_addReversals 5 none) rm (WP_X5_addReversals kX4_size kX5_marked kX4_reversed kX5_piece kX5_addReversed) := by
  refine am_S.of (fun _ => hz) (by decide +kernel) (fun h0 Q G => cl_X5_addReversals kX4_size kX5_marked kX4_reversed kX5_piece kX5_addReversed Q G) ?_
  intro p l e s m args below meth c D h0 Q X hr hnm hQ
  refine ⟨?_, ?_, ?_⟩
  · unfold B_X5_addReversals_0
    refine as_iload X (by decide +kernel : decode cX5_addReversals 0 = .ok (.iload 4, 2)) ?_
    refine as_cs X h_X4_size (by decide +kernel : decode cX5_addReversals 2 = .ok (.invokestatic 156, 3)) dn_X4_size ml_X5_156 st_X4_size ini_X4 co_X4_size R_X4_size ?_
    refine as_iconst X (by decide +kernel : decode cX5_addReversals 5 = .ok (.iconst 2, 1)) rfl ?_
    refine as_ic_ge X (tgt := 10) (by decide +kernel : decode cX5_addReversals 6 = .ok (.if_icmp .ge 4, 3)) (by decide) ?_ ?_
    · refine as_aload_n X (by decide +kernel : decode cX5_addReversals 10 = .ok (.aload_n 0, 1)) rfl ?_
      refine as_iload_n X (by decide +kernel : decode cX5_addReversals 11 = .ok (.iload_n 2, 1)) rfl ?_
      refine as_iconst X (by decide +kernel : decode cX5_addReversals 12 = .ok (.iconst 2, 1)) rfl ?_
      refine as_cv X h_X5_marked rfl (by decide +kernel : decode cX5_addReversals 13 = .ok (.invokevirtual 141, 3)) dn_X5_marked ml_X5_141 im_X5_marked se_X5_marked ini_X5 co_X5_marked R_X5_marked ?_
      refine as_if_eq X (tgt := 38) (by decide +kernel : decode cX5_addReversals 16 = .ok (.ifCond .eq 22, 3)) (by decide) ?_ ?_
      · exact fun _ _ _ h => h
      · refine as_aload_n X (by decide +kernel : decode cX5_addReversals 19 = .ok (.aload_n 0, 1)) rfl ?_
        refine as_iload_n X (by decide +kernel : decode cX5_addReversals 20 = .ok (.iload_n 1, 1)) rfl ?_
        refine as_aload_n X (by decide +kernel : decode cX5_addReversals 21 = .ok (.aload_n 0, 1)) rfl ?_
        refine as_iload_n X (by decide +kernel : decode cX5_addReversals 22 = .ok (.iload_n 2, 1)) rfl ?_
        refine as_iconst X (by decide +kernel : decode cX5_addReversals 23 = .ok (.iconst 1, 1)) rfl ?_
        refine as_iadd X (by decide +kernel : decode cX5_addReversals 24 = .ok (.iadd, 1)) ?_
        refine as_iload_n X (by decide +kernel : decode cX5_addReversals 25 = .ok (.iload_n 3, 1)) rfl ?_
        refine as_iload X (by decide +kernel : decode cX5_addReversals 26 = .ok (.iload 4, 2)) ?_
        refine as_cs X h_X4_reversed (by decide +kernel : decode cX5_addReversals 28 = .ok (.invokestatic 221, 3)) dn_X4_reversed ml_X5_221 st_X4_reversed ini_X4 co_X4_reversed R_X4_reversed ?_
        refine as_cv X h_X5_piece rfl (by decide +kernel : decode cX5_addReversals 31 = .ok (.invokevirtual 110, 3)) dn_X5_piece ml_X5_110 im_X5_piece se_X5_piece ini_X5 co_X5_piece R_X5_piece ?_
        refine as_iconst X (by decide +kernel : decode cX5_addReversals 34 = .ok (.iconst 0, 1)) rfl ?_
        refine as_cv X h_X5_addReversed rfl (by decide +kernel : decode cX5_addReversals 35 = .ok (.invokevirtual 224, 3)) dn_X5_addReversed ml_X5_224 im_X5_addReversed se_X5_addReversed ini_X5 co_X5_addReversed R_X5_addReversed ?_
        exact fun _ _ _ h => h
    · exact as_rv X hQ hr (by decide +kernel : decode cX5_addReversals 9 = .ok (.return_, 1))
  · unfold B_X5_addReversals_38
    refine as_aload_n X (by decide +kernel : decode cX5_addReversals 38 = .ok (.aload_n 0, 1)) rfl ?_
    refine as_iload_n X (by decide +kernel : decode cX5_addReversals 39 = .ok (.iload_n 3, 1)) rfl ?_
    refine as_iconst X (by decide +kernel : decode cX5_addReversals 40 = .ok (.iconst 1, 1)) rfl ?_
    refine as_isub X (by decide +kernel : decode cX5_addReversals 41 = .ok (.isub, 1)) ?_
    refine as_iconst X (by decide +kernel : decode cX5_addReversals 42 = .ok (.iconst 2, 1)) rfl ?_
    refine as_cv X h_X5_marked rfl (by decide +kernel : decode cX5_addReversals 43 = .ok (.invokevirtual 141, 3)) dn_X5_marked ml_X5_141 im_X5_marked se_X5_marked ini_X5 co_X5_marked R_X5_marked ?_
    refine as_if_eq X (tgt := 68) (by decide +kernel : decode cX5_addReversals 46 = .ok (.ifCond .eq 22, 3)) (by decide) ?_ ?_
    · exact fun _ _ _ h => h
    · refine as_aload_n X (by decide +kernel : decode cX5_addReversals 49 = .ok (.aload_n 0, 1)) rfl ?_
      refine as_iload_n X (by decide +kernel : decode cX5_addReversals 50 = .ok (.iload_n 1, 1)) rfl ?_
      refine as_aload_n X (by decide +kernel : decode cX5_addReversals 51 = .ok (.aload_n 0, 1)) rfl ?_
      refine as_iload_n X (by decide +kernel : decode cX5_addReversals 52 = .ok (.iload_n 2, 1)) rfl ?_
      refine as_iload_n X (by decide +kernel : decode cX5_addReversals 53 = .ok (.iload_n 3, 1)) rfl ?_
      refine as_iconst X (by decide +kernel : decode cX5_addReversals 54 = .ok (.iconst 1, 1)) rfl ?_
      refine as_isub X (by decide +kernel : decode cX5_addReversals 55 = .ok (.isub, 1)) ?_
      refine as_iload X (by decide +kernel : decode cX5_addReversals 56 = .ok (.iload 4, 2)) ?_
      refine as_cs X h_X4_reversed (by decide +kernel : decode cX5_addReversals 58 = .ok (.invokestatic 221, 3)) dn_X4_reversed ml_X5_221 st_X4_reversed ini_X4 co_X4_reversed R_X4_reversed ?_
      refine as_cv X h_X5_piece rfl (by decide +kernel : decode cX5_addReversals 61 = .ok (.invokevirtual 110, 3)) dn_X5_piece ml_X5_110 im_X5_piece se_X5_piece ini_X5 co_X5_piece R_X5_piece ?_
      refine as_iconst X (by decide +kernel : decode cX5_addReversals 64 = .ok (.iconst 1, 1)) rfl ?_
      refine as_cv X h_X5_addReversed rfl (by decide +kernel : decode cX5_addReversals 65 = .ok (.invokevirtual 224, 3)) dn_X5_addReversed ml_X5_224 im_X5_addReversed se_X5_addReversed ini_X5 co_X5_addReversed R_X5_addReversed ?_
      exact fun _ _ _ h => h
  · unfold B_X5_addReversals_68
    exact as_rv X hQ hr (by decide +kernel : decode cX5_addReversals 68 = .ok (.return_, 1))

def B_X5_addReversed_0 (kX6_totalAt : am_T) (kX6_costAt : am_T) (kX6_tiesAt : am_T) (kX6_add : am_T) (Q : am_Q) (G : Nat → am_K) : am_K := (ak_al 0 (ak_get 3 1 (ak_il 1 (ak_al 0 (ak_get 3 0 (ak_il 2 (ak_cv 2 4 kX6_totalAt (ak_al 0 (ak_get 3 5 (ak_c (.int 2) (ak_iald (ak_al 0 (ak_get 3 0 (ak_il 2 (ak_cv 2 4 kX6_costAt (ak_ib (fun x y => x + y) (ak_al 0 (ak_get 3 0 (ak_il 2 (ak_cv 2 4 kX6_tiesAt (ak_c (.int 16384) (ak_il 3 (ak_ib (fun x y => x + y) (ak_cv 6 4 kX6_add (ak_rv Q)))))))))))))))))))))))))
def cl_X5_addReversed (kX6_totalAt : am_T) (kX6_costAt : am_T) (kX6_tiesAt : am_T) (kX6_add : am_T) (Q : am_Q) (G : Nat → am_K) : Prop := am_N G 0 (B_X5_addReversed_0 kX6_totalAt kX6_costAt kX6_tiesAt kX6_add Q G)
def WP_X5_addReversed (kX6_totalAt : am_T) (kX6_costAt : am_T) (kX6_tiesAt : am_T) (kX6_add : am_T) : am_T := fun av h Q => (lg_sl av).length ≤ 4 ∧ ∀ G, cl_X5_addReversed kX6_totalAt kX6_costAt kX6_tiesAt kX6_add Q G → G 0 (am_ent 4 av) [] h
set_option maxHeartbeats 4000000 in
set_option maxRecDepth 100000 in
theorem s_X5_addReversed {mX6_totalAt : Room} {kX6_totalAt : am_T} (h_X6_totalAt : am_S false yX6_totalAt (am_ws yX6_totalAt cX6_totalAt 2 (some .long)) mX6_totalAt kX6_totalAt) {mX6_costAt : Room} {kX6_costAt : am_T} (h_X6_costAt : am_S false yX6_costAt (am_ws yX6_costAt cX6_costAt 2 (some .int)) mX6_costAt kX6_costAt) {mX6_tiesAt : Room} {kX6_tiesAt : am_T} (h_X6_tiesAt : am_S false yX6_tiesAt (am_ws yX6_tiesAt cX6_tiesAt 2 (some .long)) mX6_tiesAt kX6_tiesAt) {mX6_add : Room} {kX6_add : am_T} (h_X6_add : am_S false yX6_add (am_ws yX6_add cX6_add 8 none) mX6_add kX6_add) {rm : Room} (hz : rm.cells = 0 ∧ rm.slots = 0) (R_X6_totalAt : mX6_totalAt.frames + 1 ≤ rm.frames ∧ 8 + (2 + 11) + mX6_totalAt.locals ≤ rm.locals) (R_X6_costAt : mX6_costAt.frames + 1 ≤ rm.frames ∧ 8 + (2 + 11) + mX6_costAt.locals ≤ rm.locals) (R_X6_tiesAt : mX6_tiesAt.frames + 1 ≤ rm.frames ∧ 8 + (2 + 11) + mX6_tiesAt.locals ≤ rm.locals) (R_X6_add : mX6_add.frames + 1 ≤ rm.frames ∧ 8 + (8 + 11) + mX6_add.locals ≤ rm.locals) : am_S false yX5_addReversed (am_ws yX5_addReversed cX5_addReversed 4 none) rm (WP_X5_addReversed kX6_totalAt kX6_costAt kX6_tiesAt kX6_add) := by
  refine am_S.of (fun _ => hz) (by decide +kernel) (fun h0 Q G => cl_X5_addReversed kX6_totalAt kX6_costAt kX6_tiesAt kX6_add Q G) ?_
  intro p l e s m args below meth c D h0 Q X hr hnm hQ
  show am_N _ 0 (B_X5_addReversed_0  kX6_totalAt kX6_costAt kX6_tiesAt kX6_add Q _)
  · unfold B_X5_addReversed_0
    refine as_aload_n X (by decide +kernel : decode cX5_addReversed 0 = .ok (.aload_n 0, 1)) rfl ?_
    refine as_get X fc_X5 (by decide +kernel : decode cX5_addReversed 1 = .ok (.getfield 22, 3)) (by decide) fl_X5_22 ?_
    refine as_iload_n X (by decide +kernel : decode cX5_addReversed 4 = .ok (.iload_n 1, 1)) rfl ?_
    refine as_aload_n X (by decide +kernel : decode cX5_addReversed 5 = .ok (.aload_n 0, 1)) rfl ?_
    refine as_get X fc_X5 (by decide +kernel : decode cX5_addReversed 6 = .ok (.getfield 18, 3)) (by decide) fl_X5_18 ?_
    refine as_iload_n X (by decide +kernel : decode cX5_addReversed 9 = .ok (.iload_n 2, 1)) rfl ?_
    refine as_cv X h_X6_totalAt rfl (by decide +kernel : decode cX5_addReversed 10 = .ok (.invokevirtual 120, 3)) dn_X6_totalAt ml_X5_120 im_X6_totalAt se_X6_totalAt ini_X6 co_X6_totalAt R_X6_totalAt ?_
    refine as_aload_n X (by decide +kernel : decode cX5_addReversed 13 = .ok (.aload_n 0, 1)) rfl ?_
    refine as_get X fc_X5 (by decide +kernel : decode cX5_addReversed 14 = .ok (.getfield 44, 3)) (by decide) fl_X5_44 ?_
    refine as_iconst X (by decide +kernel : decode cX5_addReversed 17 = .ok (.iconst 2, 1)) rfl ?_
    refine as_iaload X (by decide +kernel : decode cX5_addReversed 18 = .ok (.iaload, 1)) ?_
    refine as_aload_n X (by decide +kernel : decode cX5_addReversed 19 = .ok (.aload_n 0, 1)) rfl ?_
    refine as_get X fc_X5 (by decide +kernel : decode cX5_addReversed 20 = .ok (.getfield 18, 3)) (by decide) fl_X5_18 ?_
    refine as_iload_n X (by decide +kernel : decode cX5_addReversed 23 = .ok (.iload_n 2, 1)) rfl ?_
    refine as_cv X h_X6_costAt rfl (by decide +kernel : decode cX5_addReversed 24 = .ok (.invokevirtual 114, 3)) dn_X6_costAt ml_X5_114 im_X6_costAt se_X6_costAt ini_X6 co_X6_costAt R_X6_costAt ?_
    refine as_iadd X (by decide +kernel : decode cX5_addReversed 27 = .ok (.iadd, 1)) ?_
    refine as_aload_n X (by decide +kernel : decode cX5_addReversed 28 = .ok (.aload_n 0, 1)) rfl ?_
    refine as_get X fc_X5 (by decide +kernel : decode cX5_addReversed 29 = .ok (.getfield 18, 3)) (by decide) fl_X5_18 ?_
    refine as_iload_n X (by decide +kernel : decode cX5_addReversed 32 = .ok (.iload_n 2, 1)) rfl ?_
    refine as_cv X h_X6_tiesAt rfl (by decide +kernel : decode cX5_addReversed 33 = .ok (.invokevirtual 124, 3)) dn_X6_tiesAt ml_X5_124 im_X6_tiesAt se_X6_tiesAt ini_X6 co_X6_tiesAt R_X6_tiesAt ?_
    refine as_sipush X (by decide +kernel : decode cX5_addReversed 36 = .ok (.sipush 16384, 3)) rfl ?_
    refine as_iload_n X (by decide +kernel : decode cX5_addReversed 39 = .ok (.iload_n 3, 1)) rfl ?_
    refine as_iadd X (by decide +kernel : decode cX5_addReversed 40 = .ok (.iadd, 1)) ?_
    refine as_cv X h_X6_add rfl (by decide +kernel : decode cX5_addReversed 41 = .ok (.invokevirtual 127, 3)) dn_X6_add ml_X5_127 im_X6_add se_X6_add ini_X6 co_X6_add R_X6_add ?_
    exact as_rv X hQ hr (by decide +kernel : decode cX5_addReversed 44 = .ok (.return_, 1))

def B_X5_addAnagrams_0 (kX5_marked : am_T) (kX1_isAnagram : am_T) (kX5_addUnit : am_T) (Q : am_Q) (G : Nat → am_K) : am_K := (ak_al 0 (ak_il 2 (ak_c (.int 3) (ak_cv 3 3 kX5_marked (ak_if (fun x => x = 0) (G 38) (ak_al 0 (ak_get 3 4 (ak_il 2 (ak_c (.int 1) (ak_ib (fun x y => x + y) (ak_il 3 (ak_ll 4 (ak_cv 4 1 kX1_isAnagram (ak_if (fun x => x = 0) (G 38) (ak_al 0 (ak_il 1 (ak_c (.int 3) (ak_c (.int 0) (ak_al 0 (ak_get 3 5 (ak_c (.int 3) (ak_iald (ak_cv 5 3 kX5_addUnit (G 38))))))))))))))))))))))))
def B_X5_addAnagrams_38 (kX5_marked : am_T) (kX1_isAnagram : am_T) (kX5_addUnit : am_T) (Q : am_Q) (G : Nat → am_K) : am_K := (ak_al 0 (ak_il 3 (ak_c (.int 1) (ak_ib (fun x y => x - y) (ak_c (.int 3) (ak_cv 3 3 kX5_marked (ak_if (fun x => x = 0) (G 78) (ak_al 0 (ak_get 3 4 (ak_il 2 (ak_il 3 (ak_c (.int 1) (ak_ib (fun x y => x - y) (ak_ll 4 (ak_cv 4 1 kX1_isAnagram (ak_if (fun x => x = 0) (G 78) (ak_al 0 (ak_il 1 (ak_c (.int 3) (ak_c (.int 1) (ak_al 0 (ak_get 3 5 (ak_c (.int 3) (ak_iald (ak_cv 5 3 kX5_addUnit (G 78))))))))))))))))))))))))))
def B_X5_addAnagrams_78 (kX5_marked : am_T) (kX1_isAnagram : am_T) (kX5_addUnit : am_T) (Q : am_Q) (G : Nat → am_K) : am_K := (ak_rv Q)
def cl_X5_addAnagrams (kX5_marked : am_T) (kX1_isAnagram : am_T) (kX5_addUnit : am_T) (Q : am_Q) (G : Nat → am_K) : Prop := am_N G 0 (B_X5_addAnagrams_0 kX5_marked kX1_isAnagram kX5_addUnit Q G) ∧ am_N G 38 (B_X5_addAnagrams_38 kX5_marked kX1_isAnagram kX5_addUnit Q G) ∧ am_N G 78 (B_X5_addAnagrams_78 kX5_marked kX1_isAnagram kX5_addUnit Q G)
def WP_X5_addAnagrams (kX5_marked : am_T) (kX1_isAnagram : am_T) (kX5_addUnit : am_T) : am_T := fun av h Q => (lg_sl av).length ≤ 6 ∧ ∀ G, cl_X5_addAnagrams kX5_marked kX1_isAnagram kX5_addUnit Q G → G 0 (am_ent 6 av) [] h
set_option maxHeartbeats 4000000 in
set_option maxRecDepth 100000 in
theorem s_X5_addAnagrams {mX5_marked : Room} {kX5_marked : am_T} (h_X5_marked : am_S false yX5_marked (am_ws yX5_marked cX5_marked 3 (some .boolean)) mX5_marked kX5_marked) {mX1_isAnagram : Room} {kX1_isAnagram : am_T} (h_X1_isAnagram : am_S false yX1_isAnagram (am_ws yX1_isAnagram cX1_isAnagram 8 (some .boolean)) mX1_isAnagram kX1_isAnagram) {mX5_addUnit : Room} {kX5_addUnit : am_T} (h_X5_addUnit : am_S false yX5_addUnit (am_ws yX5_addUnit cX5_addUnit 5 none) mX5_addUnit kX5_addUnit) {rm : Room} (hz : rm.cells = 0 ∧ rm.slots = 0) (R_X5_marked : mX5_marked.frames + 1 ≤ rm.frames ∧ 8 + (3 + 11) + mX5_marked.locals ≤ rm.locals) (R_X1_isAnagram : mX1_isAnagram.frames + 1 ≤ rm.frames ∧ 8 + (8 + 11) + mX1_isAnagram.locals ≤ rm.locals) (R_X5_addUnit : mX5_addUnit.frames + 1 ≤ rm.frames ∧ 8 + (5 + 11) + mX5_addUnit.locals ≤ rm.locals) : am_S false yX5_addAnagrams (am_ws yX5_addAnagrams cX5_addAnagrams 6 none) rm (WP_X5_addAnagrams kX5_marked kX1_isAnagram kX5_addUnit) := by
  refine am_S.of (fun _ => hz) (by decide +kernel) (fun h0 Q G => cl_X5_addAnagrams kX5_marked kX1_isAnagram kX5_addUnit Q G) ?_
  intro p l e s m args below meth c D h0 Q X hr hnm hQ
  refine ⟨?_, ?_, ?_⟩
  · unfold B_X5_addAnagrams_0
    refine as_aload_n X (by decide +kernel : decode cX5_addAnagrams 0 = .ok (.aload_n 0, 1)) rfl ?_
    refine as_iload_n X (by decide +kernel : decode cX5_addAnagrams 1 = .ok (.iload_n 2, 1)) rfl ?_
    refine as_iconst X (by decide +kernel : decode cX5_addAnagrams 2 = .ok (.iconst 3, 1)) rfl ?_
    refine as_cv X h_X5_marked rfl (by decide +kernel : decode cX5_addAnagrams 3 = .ok (.invokevirtual 141, 3)) dn_X5_marked ml_X5_141 im_X5_marked se_X5_marked ini_X5 co_X5_marked R_X5_marked ?_
    refine as_if_eq X (tgt := 38) (by decide +kernel : decode cX5_addAnagrams 6 = .ok (.ifCond .eq 32, 3)) (by decide) ?_ ?_
    · exact fun _ _ _ h => h
    · refine as_aload_n X (by decide +kernel : decode cX5_addAnagrams 9 = .ok (.aload_n 0, 1)) rfl ?_
      refine as_get X fc_X5 (by decide +kernel : decode cX5_addAnagrams 10 = .ok (.getfield 40, 3)) (by decide) fl_X5_40 ?_
      refine as_iload_n X (by decide +kernel : decode cX5_addAnagrams 13 = .ok (.iload_n 2, 1)) rfl ?_
      refine as_iconst X (by decide +kernel : decode cX5_addAnagrams 14 = .ok (.iconst 1, 1)) rfl ?_
      refine as_iadd X (by decide +kernel : decode cX5_addAnagrams 15 = .ok (.iadd, 1)) ?_
      refine as_iload_n X (by decide +kernel : decode cX5_addAnagrams 16 = .ok (.iload_n 3, 1)) rfl ?_
      refine as_lload X (by decide +kernel : decode cX5_addAnagrams 17 = .ok (.lload 4, 2)) ?_
      refine as_cv X h_X1_isAnagram rfl (by decide +kernel : decode cX5_addAnagrams 19 = .ok (.invokevirtual 228, 3)) dn_X1_isAnagram ml_X5_228 im_X1_isAnagram se_X1_isAnagram ini_X1 co_X1_isAnagram R_X1_isAnagram ?_
      refine as_if_eq X (tgt := 38) (by decide +kernel : decode cX5_addAnagrams 22 = .ok (.ifCond .eq 16, 3)) (by decide) ?_ ?_
      · exact fun _ _ _ h => h
      · refine as_aload_n X (by decide +kernel : decode cX5_addAnagrams 25 = .ok (.aload_n 0, 1)) rfl ?_
        refine as_iload_n X (by decide +kernel : decode cX5_addAnagrams 26 = .ok (.iload_n 1, 1)) rfl ?_
        refine as_iconst X (by decide +kernel : decode cX5_addAnagrams 27 = .ok (.iconst 3, 1)) rfl ?_
        refine as_iconst X (by decide +kernel : decode cX5_addAnagrams 28 = .ok (.iconst 0, 1)) rfl ?_
        refine as_aload_n X (by decide +kernel : decode cX5_addAnagrams 29 = .ok (.aload_n 0, 1)) rfl ?_
        refine as_get X fc_X5 (by decide +kernel : decode cX5_addAnagrams 30 = .ok (.getfield 44, 3)) (by decide) fl_X5_44 ?_
        refine as_iconst X (by decide +kernel : decode cX5_addAnagrams 33 = .ok (.iconst 3, 1)) rfl ?_
        refine as_iaload X (by decide +kernel : decode cX5_addAnagrams 34 = .ok (.iaload, 1)) ?_
        refine as_cv X h_X5_addUnit rfl (by decide +kernel : decode cX5_addAnagrams 35 = .ok (.invokevirtual 218, 3)) dn_X5_addUnit ml_X5_218 im_X5_addUnit se_X5_addUnit ini_X5 co_X5_addUnit R_X5_addUnit ?_
        exact fun _ _ _ h => h
  · unfold B_X5_addAnagrams_38
    refine as_aload_n X (by decide +kernel : decode cX5_addAnagrams 38 = .ok (.aload_n 0, 1)) rfl ?_
    refine as_iload_n X (by decide +kernel : decode cX5_addAnagrams 39 = .ok (.iload_n 3, 1)) rfl ?_
    refine as_iconst X (by decide +kernel : decode cX5_addAnagrams 40 = .ok (.iconst 1, 1)) rfl ?_
    refine as_isub X (by decide +kernel : decode cX5_addAnagrams 41 = .ok (.isub, 1)) ?_
    refine as_iconst X (by decide +kernel : decode cX5_addAnagrams 42 = .ok (.iconst 3, 1)) rfl ?_
    refine as_cv X h_X5_marked rfl (by decide +kernel : decode cX5_addAnagrams 43 = .ok (.invokevirtual 141, 3)) dn_X5_marked ml_X5_141 im_X5_marked se_X5_marked ini_X5 co_X5_marked R_X5_marked ?_
    refine as_if_eq X (tgt := 78) (by decide +kernel : decode cX5_addAnagrams 46 = .ok (.ifCond .eq 32, 3)) (by decide) ?_ ?_
    · exact fun _ _ _ h => h
    · refine as_aload_n X (by decide +kernel : decode cX5_addAnagrams 49 = .ok (.aload_n 0, 1)) rfl ?_
      refine as_get X fc_X5 (by decide +kernel : decode cX5_addAnagrams 50 = .ok (.getfield 40, 3)) (by decide) fl_X5_40 ?_
      refine as_iload_n X (by decide +kernel : decode cX5_addAnagrams 53 = .ok (.iload_n 2, 1)) rfl ?_
      refine as_iload_n X (by decide +kernel : decode cX5_addAnagrams 54 = .ok (.iload_n 3, 1)) rfl ?_
      refine as_iconst X (by decide +kernel : decode cX5_addAnagrams 55 = .ok (.iconst 1, 1)) rfl ?_
      refine as_isub X (by decide +kernel : decode cX5_addAnagrams 56 = .ok (.isub, 1)) ?_
      refine as_lload X (by decide +kernel : decode cX5_addAnagrams 57 = .ok (.lload 4, 2)) ?_
      refine as_cv X h_X1_isAnagram rfl (by decide +kernel : decode cX5_addAnagrams 59 = .ok (.invokevirtual 228, 3)) dn_X1_isAnagram ml_X5_228 im_X1_isAnagram se_X1_isAnagram ini_X1 co_X1_isAnagram R_X1_isAnagram ?_
      refine as_if_eq X (tgt := 78) (by decide +kernel : decode cX5_addAnagrams 62 = .ok (.ifCond .eq 16, 3)) (by decide) ?_ ?_
      · exact fun _ _ _ h => h
      · refine as_aload_n X (by decide +kernel : decode cX5_addAnagrams 65 = .ok (.aload_n 0, 1)) rfl ?_
        refine as_iload_n X (by decide +kernel : decode cX5_addAnagrams 66 = .ok (.iload_n 1, 1)) rfl ?_
        refine as_iconst X (by decide +kernel : decode cX5_addAnagrams 67 = .ok (.iconst 3, 1)) rfl ?_
        refine as_iconst X (by decide +kernel : decode cX5_addAnagrams 68 = .ok (.iconst 1, 1)) rfl ?_
        refine as_aload_n X (by decide +kernel : decode cX5_addAnagrams 69 = .ok (.aload_n 0, 1)) rfl ?_
        refine as_get X fc_X5 (by decide +kernel : decode cX5_addAnagrams 70 = .ok (.getfield 44, 3)) (by decide) fl_X5_44 ?_
        refine as_iconst X (by decide +kernel : decode cX5_addAnagrams 73 = .ok (.iconst 3, 1)) rfl ?_
        refine as_iaload X (by decide +kernel : decode cX5_addAnagrams 74 = .ok (.iaload, 1)) ?_
        refine as_cv X h_X5_addUnit rfl (by decide +kernel : decode cX5_addAnagrams 75 = .ok (.invokevirtual 218, 3)) dn_X5_addUnit ml_X5_218 im_X5_addUnit se_X5_addUnit ini_X5 co_X5_addUnit R_X5_addUnit ?_
        exact fun _ _ _ h => h
  · unfold B_X5_addAnagrams_78
    exact as_rv X hQ hr (by decide +kernel : decode cX5_addAnagrams 78 = .ok (.return_, 1))

def B_X5_addContainers_0 (kX5_marked : am_T) (kX5_addInsides : am_T) (Q : am_Q) (G : Nat → am_K) : am_K := (ak_il 3 (ak_c (.int 1) (ak_ib (fun x y => x + y) (ak_is 6 (G 5)))))
def B_X5_addContainers_5 (kX5_marked : am_T) (kX5_addInsides : am_T) (Q : am_Q) (G : Nat → am_K) : am_K := (ak_il 6 (ak_il 4 (ak_c (.int 1) (ak_ib (fun x y => x - y) (ak_ic (fun x y => y ≤ x) (ak_rv Q) (ak_al 0 (ak_il 6 (ak_il 2 (ak_cv 3 3 kX5_marked (ak_if (fun x => x = 0) (G 37) (ak_al 0 (ak_il 1 (ak_il 2 (ak_il 3 (ak_il 6 (ak_il 4 (ak_il 5 (ak_cv 7 3 kX5_addInsides (G 37)))))))))))))))))))
def B_X5_addContainers_37 (kX5_marked : am_T) (kX5_addInsides : am_T) (Q : am_Q) (G : Nat → am_K) : am_K := (ak_ii 6 1 (G 5))
def cl_X5_addContainers (kX5_marked : am_T) (kX5_addInsides : am_T) (Q : am_Q) (G : Nat → am_K) : Prop := am_N G 0 (B_X5_addContainers_0 kX5_marked kX5_addInsides Q G) ∧ am_N G 5 (B_X5_addContainers_5 kX5_marked kX5_addInsides Q G) ∧ am_N G 37 (B_X5_addContainers_37 kX5_marked kX5_addInsides Q G)
def WP_X5_addContainers (kX5_marked : am_T) (kX5_addInsides : am_T) : am_T := fun av h Q => (lg_sl av).length ≤ 7 ∧ ∀ G, cl_X5_addContainers kX5_marked kX5_addInsides Q G → G 0 (am_ent 7 av) [] h
set_option maxHeartbeats 4000000 in
set_option maxRecDepth 100000 in
theorem s_X5_addContainers {mX5_marked : Room} {kX5_marked : am_T} (h_X5_marked : am_S false yX5_marked (am_ws yX5_marked cX5_marked 3 (some .boolean)) mX5_marked kX5_marked) {mX5_addInsides : Room} {kX5_addInsides : am_T} (h_X5_addInsides : am_S false yX5_addInsides (am_ws yX5_addInsides cX5_addInsides 14 none) mX5_addInsides kX5_addInsides) {rm : Room} (hz : rm.cells = 0 ∧ rm.slots = 0) (R_X5_marked : mX5_marked.frames + 1 ≤ rm.frames ∧ 8 + (3 + 11) + mX5_marked.locals ≤ rm.locals) (R_X5_addInsides : mX5_addInsides.frames + 1 ≤ rm.frames ∧ 8 + (14 + 11) + mX5_addInsides.locals ≤ rm.locals) : am_S false yX5_addContainers (am_ws yX5_addContainers cX5_addContainers 7 none) rm (WP_X5_addContainers kX5_marked kX5_addInsides) := by
  refine am_S.of (fun _ => hz) (by decide +kernel) (fun h0 Q G => cl_X5_addContainers kX5_marked kX5_addInsides Q G) ?_
  intro p l e s m args below meth c D h0 Q X hr hnm hQ
  refine ⟨?_, ?_, ?_⟩
  · unfold B_X5_addContainers_0
    refine as_iload_n X (by decide +kernel : decode cX5_addContainers 0 = .ok (.iload_n 3, 1)) rfl ?_
    refine as_iconst X (by decide +kernel : decode cX5_addContainers 1 = .ok (.iconst 1, 1)) rfl ?_
    refine as_iadd X (by decide +kernel : decode cX5_addContainers 2 = .ok (.iadd, 1)) ?_
    refine as_istore X (by decide +kernel : decode cX5_addContainers 3 = .ok (.istore 6, 2)) ?_
    exact fun _ _ _ h => h
  · unfold B_X5_addContainers_5
    refine as_iload X (by decide +kernel : decode cX5_addContainers 5 = .ok (.iload 6, 2)) ?_
    refine as_iload X (by decide +kernel : decode cX5_addContainers 7 = .ok (.iload 4, 2)) ?_
    refine as_iconst X (by decide +kernel : decode cX5_addContainers 9 = .ok (.iconst 1, 1)) rfl ?_
    refine as_isub X (by decide +kernel : decode cX5_addContainers 10 = .ok (.isub, 1)) ?_
    refine as_ic_ge X (tgt := 43) (by decide +kernel : decode cX5_addContainers 11 = .ok (.if_icmp .ge 32, 3)) (by decide) ?_ ?_
    · exact as_rv X hQ hr (by decide +kernel : decode cX5_addContainers 43 = .ok (.return_, 1))
    · refine as_aload_n X (by decide +kernel : decode cX5_addContainers 14 = .ok (.aload_n 0, 1)) rfl ?_
      refine as_iload X (by decide +kernel : decode cX5_addContainers 15 = .ok (.iload 6, 2)) ?_
      refine as_iload_n X (by decide +kernel : decode cX5_addContainers 17 = .ok (.iload_n 2, 1)) rfl ?_
      refine as_cv X h_X5_marked rfl (by decide +kernel : decode cX5_addContainers 18 = .ok (.invokevirtual 141, 3)) dn_X5_marked ml_X5_141 im_X5_marked se_X5_marked ini_X5 co_X5_marked R_X5_marked ?_
      refine as_if_eq X (tgt := 37) (by decide +kernel : decode cX5_addContainers 21 = .ok (.ifCond .eq 16, 3)) (by decide) ?_ ?_
      · exact fun _ _ _ h => h
      · refine as_aload_n X (by decide +kernel : decode cX5_addContainers 24 = .ok (.aload_n 0, 1)) rfl ?_
        refine as_iload_n X (by decide +kernel : decode cX5_addContainers 25 = .ok (.iload_n 1, 1)) rfl ?_
        refine as_iload_n X (by decide +kernel : decode cX5_addContainers 26 = .ok (.iload_n 2, 1)) rfl ?_
        refine as_iload_n X (by decide +kernel : decode cX5_addContainers 27 = .ok (.iload_n 3, 1)) rfl ?_
        refine as_iload X (by decide +kernel : decode cX5_addContainers 28 = .ok (.iload 6, 2)) ?_
        refine as_iload X (by decide +kernel : decode cX5_addContainers 30 = .ok (.iload 4, 2)) ?_
        refine as_iload X (by decide +kernel : decode cX5_addContainers 32 = .ok (.iload 5, 2)) ?_
        refine as_cv X h_X5_addInsides rfl (by decide +kernel : decode cX5_addContainers 34 = .ok (.invokevirtual 232, 3)) dn_X5_addInsides ml_X5_232 im_X5_addInsides se_X5_addInsides ini_X5 co_X5_addInsides R_X5_addInsides ?_
        exact fun _ _ _ h => h
  · unfold B_X5_addContainers_37
    refine as_iinc X (by decide +kernel : decode cX5_addContainers 37 = .ok (.iinc 6 1, 3)) rfl ?_
    refine as_goto X (tgt := 5) (by decide +kernel : decode cX5_addContainers 40 = .ok (.goto (-35), 3)) (by decide) ?_
    exact fun _ _ _ h => h

def B_X5_addInsides_0 (kX4_size : am_T) (kX4_firstLetter : am_T) (kX4_minus : am_T) (kX4_direction : am_T) (kX5_addInside : am_T) (Q : am_Q) (G : Nat → am_K) : am_K := (ak_il 6 (ak_cs 1 kX4_size (ak_is 7 (ak_il 6 (ak_is 8 (ak_c (.int 1) (ak_is 9 (G 14))))))))
def B_X5_addInsides_14 (kX4_size : am_T) (kX4_firstLetter : am_T) (kX4_minus : am_T) (kX4_direction : am_T) (kX5_addInside : am_T) (Q : am_Q) (G : Nat → am_K) : am_K := (ak_il 9 (ak_il 7 (ak_c (.int 1) (ak_ib (fun x y => x - y) (ak_ic (fun x y => y ≤ x) (ak_rv Q) (ak_il 8 (ak_il 8 (ak_cs 1 kX4_firstLetter (ak_cs 2 kX4_minus (ak_is 8 (ak_il 6 (ak_cs 1 kX4_direction (ak_is 10 (ak_il 8 (ak_is 11 (ak_il 9 (ak_c (.int 1) (ak_ib (fun x y => x + y) (ak_is 12 (G 52))))))))))))))))))))
def B_X5_addInsides_52 (kX4_size : am_T) (kX4_firstLetter : am_T) (kX4_minus : am_T) (kX4_direction : am_T) (kX5_addInside : am_T) (Q : am_Q) (G : Nat → am_K) : am_K := (ak_il 12 (ak_il 7 (ak_ic (fun x y => y ≤ x) (ak_ii 9 1 (G 14)) (ak_il 11 (ak_cs 1 kX4_firstLetter (ak_is 13 (ak_il 10 (ak_il 13 (ak_ib (fun x y => x ||| y) (ak_is 10 (ak_il 11 (ak_il 13 (ak_cs 2 kX4_minus (ak_is 11 (ak_al 0 (ak_il 1 (ak_il 2 (ak_il 3 (ak_il 4 (ak_il 5 (ak_il 6 (ak_il 10 (ak_cv 8 3 kX5_addInside (ak_ii 12 1 (G 52)))))))))))))))))))))))))
def cl_X5_addInsides (kX4_size : am_T) (kX4_firstLetter : am_T) (kX4_minus : am_T) (kX4_direction : am_T) (kX5_addInside : am_T) (Q : am_Q) (G : Nat → am_K) : Prop := am_N G 0 (B_X5_addInsides_0 kX4_size kX4_firstLetter kX4_minus kX4_direction kX5_addInside Q G) ∧ am_N G 14 (B_X5_addInsides_14 kX4_size kX4_firstLetter kX4_minus kX4_direction kX5_addInside Q G) ∧ am_N G 52 (B_X5_addInsides_52 kX4_size kX4_firstLetter kX4_minus kX4_direction kX5_addInside Q G)
def WP_X5_addInsides (kX4_size : am_T) (kX4_firstLetter : am_T) (kX4_minus : am_T) (kX4_direction : am_T) (kX5_addInside : am_T) : am_T := fun av h Q => (lg_sl av).length ≤ 14 ∧ ∀ G, cl_X5_addInsides kX4_size kX4_firstLetter kX4_minus kX4_direction kX5_addInside Q G → G 0 (am_ent 14 av) [] h
set_option maxHeartbeats 4000000 in
set_option maxRecDepth 100000 in
theorem s_X5_addInsides {mX4_size : Room} {kX4_size : am_T} (h_X4_size : am_S false yX4_size (am_ws yX4_size cX4_size 1 (some .int)) mX4_size kX4_size) {mX4_firstLetter : Room} {kX4_firstLetter : am_T} (h_X4_firstLetter : am_S false yX4_firstLetter (am_ws yX4_firstLetter cX4_firstLetter 3 (some .int)) mX4_firstLetter kX4_firstLetter) {mX4_minus : Room} {kX4_minus : am_T} (h_X4_minus : am_S false yX4_minus (am_ws yX4_minus cX4_minus 2 (some .int)) mX4_minus kX4_minus) {mX4_direction : Room} {kX4_direction : am_T} (h_X4_direction : am_S false yX4_direction (am_ws yX4_direction cX4_direction 1 (some .int)) mX4_direction kX4_direction) {mX5_addInside : Room} {kX5_addInside : am_T} (h_X5_addInside : am_S false yX5_addInside (am_ws yX5_addInside cX5_addInside 11 none) mX5_addInside kX5_addInside) {rm : Room} (hz : rm.cells = 0 ∧ rm.slots = 0) (R_X4_size : mX4_size.frames + 1 ≤ rm.frames ∧ 8 + (1 + 11) + mX4_size.locals ≤ rm.locals) (R_X4_firstLetter : mX4_firstLetter.frames + 1 ≤ rm.frames ∧ 8 + (3 + 11) + mX4_firstLetter.locals ≤ rm.locals) (R_X4_minus : mX4_minus.frames + 1 ≤ rm.frames ∧ 8 + (2 + 11) + mX4_minus.locals ≤ rm.locals) (R_X4_direction : mX4_direction.frames + 1 ≤ rm.frames ∧ 8 + (1 + 11) + mX4_direction.locals ≤ rm.locals) (R_X5_addInside : mX5_addInside.frames + 1 ≤ rm.frames ∧ 8 + (11 + 11) + mX5_addInside.locals ≤ rm.locals) : am_S false yX5_addInsides (am_ws yX5_addInsides cX5_addInsides 14 none) rm (WP_X5_addInsides kX4_size kX4_firstLetter kX4_minus kX4_direction kX5_addInside) := by
  refine am_S.of (fun _ => hz) (by decide +kernel) (fun h0 Q G => cl_X5_addInsides kX4_size kX4_firstLetter kX4_minus kX4_direction kX5_addInside Q G) ?_
  intro p l e s m args below meth c D h0 Q X hr hnm hQ
  refine ⟨?_, ?_, ?_⟩
  · unfold B_X5_addInsides_0
    refine as_iload X (by decide +kernel : decode cX5_addInsides 0 = .ok (.iload 6, 2)) ?_
    refine as_cs X h_X4_size (by decide +kernel : decode cX5_addInsides 2 = .ok (.invokestatic 156, 3)) dn_X4_size ml_X5_156 st_X4_size ini_X4 co_X4_size R_X4_size ?_
    refine as_istore X (by decide +kernel : decode cX5_addInsides 5 = .ok (.istore 7, 2)) ?_
    refine as_iload X (by decide +kernel : decode cX5_addInsides 7 = .ok (.iload 6, 2)) ?_
    refine as_istore X (by decide +kernel : decode cX5_addInsides 9 = .ok (.istore 8, 2)) ?_
    refine as_iconst X (by decide +kernel : decode cX5_addInsides 11 = .ok (.iconst 1, 1)) rfl ?_
    refine as_istore X (by decide +kernel : decode cX5_addInsides 12 = .ok (.istore 9, 2)) ?_
    exact fun _ _ _ h => h
  · unfold B_X5_addInsides_14
    refine as_iload X (by decide +kernel : decode cX5_addInsides 14 = .ok (.iload 9, 2)) ?_
    refine as_iload X (by decide +kernel : decode cX5_addInsides 16 = .ok (.iload 7, 2)) ?_
    refine as_iconst X (by decide +kernel : decode cX5_addInsides 18 = .ok (.iconst 1, 1)) rfl ?_
    refine as_isub X (by decide +kernel : decode cX5_addInsides 19 = .ok (.isub, 1)) ?_
    refine as_ic_ge X (tgt := 109) (by decide +kernel : decode cX5_addInsides 20 = .ok (.if_icmp .ge 89, 3)) (by decide) ?_ ?_
    · exact as_rv X hQ hr (by decide +kernel : decode cX5_addInsides 109 = .ok (.return_, 1))
    · refine as_iload X (by decide +kernel : decode cX5_addInsides 23 = .ok (.iload 8, 2)) ?_
      refine as_iload X (by decide +kernel : decode cX5_addInsides 25 = .ok (.iload 8, 2)) ?_
      refine as_cs X h_X4_firstLetter (by decide +kernel : decode cX5_addInsides 27 = .ok (.invokestatic 158, 3)) dn_X4_firstLetter ml_X5_158 st_X4_firstLetter ini_X4 co_X4_firstLetter R_X4_firstLetter ?_
      refine as_cs X h_X4_minus (by decide +kernel : decode cX5_addInsides 30 = .ok (.invokestatic 174, 3)) dn_X4_minus ml_X5_174 st_X4_minus ini_X4 co_X4_minus R_X4_minus ?_
      refine as_istore X (by decide +kernel : decode cX5_addInsides 33 = .ok (.istore 8, 2)) ?_
      refine as_iload X (by decide +kernel : decode cX5_addInsides 35 = .ok (.iload 6, 2)) ?_
      refine as_cs X h_X4_direction (by decide +kernel : decode cX5_addInsides 37 = .ok (.invokestatic 187, 3)) dn_X4_direction ml_X5_187 st_X4_direction ini_X4 co_X4_direction R_X4_direction ?_
      refine as_istore X (by decide +kernel : decode cX5_addInsides 40 = .ok (.istore 10, 2)) ?_
      refine as_iload X (by decide +kernel : decode cX5_addInsides 42 = .ok (.iload 8, 2)) ?_
      refine as_istore X (by decide +kernel : decode cX5_addInsides 44 = .ok (.istore 11, 2)) ?_
      refine as_iload X (by decide +kernel : decode cX5_addInsides 46 = .ok (.iload 9, 2)) ?_
      refine as_iconst X (by decide +kernel : decode cX5_addInsides 48 = .ok (.iconst 1, 1)) rfl ?_
      refine as_iadd X (by decide +kernel : decode cX5_addInsides 49 = .ok (.iadd, 1)) ?_
      refine as_istore X (by decide +kernel : decode cX5_addInsides 50 = .ok (.istore 12, 2)) ?_
      exact fun _ _ _ h => h
  · unfold B_X5_addInsides_52
    refine as_iload X (by decide +kernel : decode cX5_addInsides 52 = .ok (.iload 12, 2)) ?_
    refine as_iload X (by decide +kernel : decode cX5_addInsides 54 = .ok (.iload 7, 2)) ?_
    refine as_ic_ge X (tgt := 103) (by decide +kernel : decode cX5_addInsides 56 = .ok (.if_icmp .ge 47, 3)) (by decide) ?_ ?_
    · refine as_iinc X (by decide +kernel : decode cX5_addInsides 103 = .ok (.iinc 9 1, 3)) rfl ?_
      refine as_goto X (tgt := 14) (by decide +kernel : decode cX5_addInsides 106 = .ok (.goto (-92), 3)) (by decide) ?_
      exact fun _ _ _ h => h
    · refine as_iload X (by decide +kernel : decode cX5_addInsides 59 = .ok (.iload 11, 2)) ?_
      refine as_cs X h_X4_firstLetter (by decide +kernel : decode cX5_addInsides 61 = .ok (.invokestatic 158, 3)) dn_X4_firstLetter ml_X5_158 st_X4_firstLetter ini_X4 co_X4_firstLetter R_X4_firstLetter ?_
      refine as_istore X (by decide +kernel : decode cX5_addInsides 64 = .ok (.istore 13, 2)) ?_
      refine as_iload X (by decide +kernel : decode cX5_addInsides 66 = .ok (.iload 10, 2)) ?_
      refine as_iload X (by decide +kernel : decode cX5_addInsides 68 = .ok (.iload 13, 2)) ?_
      refine as_ior X (by decide +kernel : decode cX5_addInsides 70 = .ok (.ior, 1)) ?_
      refine as_istore X (by decide +kernel : decode cX5_addInsides 71 = .ok (.istore 10, 2)) ?_
      refine as_iload X (by decide +kernel : decode cX5_addInsides 73 = .ok (.iload 11, 2)) ?_
      refine as_iload X (by decide +kernel : decode cX5_addInsides 75 = .ok (.iload 13, 2)) ?_
      refine as_cs X h_X4_minus (by decide +kernel : decode cX5_addInsides 77 = .ok (.invokestatic 174, 3)) dn_X4_minus ml_X5_174 st_X4_minus ini_X4 co_X4_minus R_X4_minus ?_
      refine as_istore X (by decide +kernel : decode cX5_addInsides 80 = .ok (.istore 11, 2)) ?_
      refine as_aload_n X (by decide +kernel : decode cX5_addInsides 82 = .ok (.aload_n 0, 1)) rfl ?_
      refine as_iload_n X (by decide +kernel : decode cX5_addInsides 83 = .ok (.iload_n 1, 1)) rfl ?_
      refine as_iload_n X (by decide +kernel : decode cX5_addInsides 84 = .ok (.iload_n 2, 1)) rfl ?_
      refine as_iload_n X (by decide +kernel : decode cX5_addInsides 85 = .ok (.iload_n 3, 1)) rfl ?_
      refine as_iload X (by decide +kernel : decode cX5_addInsides 86 = .ok (.iload 4, 2)) ?_
      refine as_iload X (by decide +kernel : decode cX5_addInsides 88 = .ok (.iload 5, 2)) ?_
      refine as_iload X (by decide +kernel : decode cX5_addInsides 90 = .ok (.iload 6, 2)) ?_
      refine as_iload X (by decide +kernel : decode cX5_addInsides 92 = .ok (.iload 10, 2)) ?_
      refine as_cv X h_X5_addInside rfl (by decide +kernel : decode cX5_addInsides 94 = .ok (.invokevirtual 236, 3)) dn_X5_addInside ml_X5_236 im_X5_addInside se_X5_addInside ini_X5 co_X5_addInside R_X5_addInside ?_
      refine as_iinc X (by decide +kernel : decode cX5_addInsides 97 = .ok (.iinc 12 1, 3)) rfl ?_
      refine as_goto X (tgt := 52) (by decide +kernel : decode cX5_addInsides 100 = .ok (.goto (-48), 3)) (by decide) ?_
      exact fun _ _ _ h => h

def B_X5_addInside_0 (kX4_minus : am_T) (kX5_piece : am_T) (kX6_totalAt : am_T) (kX6_costAt : am_T) (kX6_tiesAt : am_T) (kX6_add : am_T) (Q : am_Q) (G : Nat → am_K) : am_K := (ak_il 6 (ak_il 7 (ak_cs 2 kX4_minus (ak_is 8 (ak_al 0 (ak_il 3 (ak_il 4 (ak_il 2 (ak_c (.int 4) (ak_ic (fun x y => x = y) (ak_il 8 (G 25)) (ak_il 7 (G 25))))))))))))
def B_X5_addInside_25 (kX4_minus : am_T) (kX5_piece : am_T) (kX6_totalAt : am_T) (kX6_costAt : am_T) (kX6_tiesAt : am_T) (kX6_add : am_T) (Q : am_Q) (G : Nat → am_K) : am_K := (ak_cv 4 3 kX5_piece (ak_is 9 (ak_al 0 (ak_get 3 0 (ak_il 9 (ak_cv 2 4 kX6_totalAt (ak_c (.long 0) (ak_lc (ak_if (fun x => x = 0) (ak_rv Q) (ak_al 0 (ak_il 4 (ak_c (.int 1) (ak_ib (fun x y => x + y) (ak_il 5 (ak_il 2 (ak_c (.int 4) (ak_ic (fun x y => x = y) (ak_il 7 (G 64)) (ak_il 8 (G 64)))))))))))))))))))
def B_X5_addInside_64 (kX4_minus : am_T) (kX5_piece : am_T) (kX6_totalAt : am_T) (kX6_costAt : am_T) (kX6_tiesAt : am_T) (kX6_add : am_T) (Q : am_Q) (G : Nat → am_K) : am_K := (ak_cv 4 3 kX5_piece (ak_is 10 (ak_al 0 (ak_get 3 1 (ak_il 1 (ak_al 0 (ak_get 3 0 (ak_il 9 (ak_cv 2 4 kX6_totalAt (ak_al 0 (ak_get 3 0 (ak_il 10 (ak_cv 2 4 kX6_totalAt (ak_lb (fun x y => x * y) (ak_al 0 (ak_get 3 5 (ak_il 2 (ak_iald (ak_al 0 (ak_get 3 0 (ak_il 9 (ak_cv 2 4 kX6_costAt (ak_ib (fun x y => x + y) (ak_al 0 (ak_get 3 0 (ak_il 10 (ak_cv 2 4 kX6_costAt (ak_ib (fun x y => x + y) (ak_al 0 (ak_get 3 0 (ak_il 9 (ak_cv 2 4 kX6_tiesAt (ak_al 0 (ak_get 3 0 (ak_il 10 (ak_cv 2 4 kX6_tiesAt (ak_lb (fun x y => x * y) (ak_il 2 (ak_c (.int 8192) (ak_ib (fun x y => x * y) (ak_il 4 (ak_c (.int 512) (ak_ib (fun x y => x * y) (ak_ib (fun x y => x + y) (ak_il 7 (G 152))))))))))))))))))))))))))))))))))))))))))))))
def B_X5_addInside_152 (kX4_minus : am_T) (kX5_piece : am_T) (kX6_totalAt : am_T) (kX6_costAt : am_T) (kX6_tiesAt : am_T) (kX6_add : am_T) (Q : am_Q) (G : Nat → am_K) : am_K := (ak_ib (fun x y => x + y) (ak_cv 6 4 kX6_add (ak_rv Q)))
def cl_X5_addInside (kX4_minus : am_T) (kX5_piece : am_T) (kX6_totalAt : am_T) (kX6_costAt : am_T) (kX6_tiesAt : am_T) (kX6_add : am_T) (Q : am_Q) (G : Nat → am_K) : Prop := am_N G 0 (B_X5_addInside_0 kX4_minus kX5_piece kX6_totalAt kX6_costAt kX6_tiesAt kX6_add Q G) ∧ am_N G 25 (B_X5_addInside_25 kX4_minus kX5_piece kX6_totalAt kX6_costAt kX6_tiesAt kX6_add Q G) ∧ am_N G 64 (B_X5_addInside_64 kX4_minus kX5_piece kX6_totalAt kX6_costAt kX6_tiesAt kX6_add Q G) ∧ am_N G 152 (B_X5_addInside_152 kX4_minus kX5_piece kX6_totalAt kX6_costAt kX6_tiesAt kX6_add Q G)
def WP_X5_addInside (kX4_minus : am_T) (kX5_piece : am_T) (kX6_totalAt : am_T) (kX6_costAt : am_T) (kX6_tiesAt : am_T) (kX6_add : am_T) : am_T := fun av h Q => (lg_sl av).length ≤ 11 ∧ ∀ G, cl_X5_addInside kX4_minus kX5_piece kX6_totalAt kX6_costAt kX6_tiesAt kX6_add Q G → G 0 (am_ent 11 av) [] h
set_option maxHeartbeats 4000000 in
set_option maxRecDepth 100000 in
theorem s_X5_addInside {mX4_minus : Room} {kX4_minus : am_T} (h_X4_minus : am_S false yX4_minus (am_ws yX4_minus cX4_minus 2 (some .int)) mX4_minus kX4_minus) {mX5_piece : Room} {kX5_piece : am_T} (h_X5_piece : am_S false yX5_piece (am_ws yX5_piece cX5_piece 6 (some .int)) mX5_piece kX5_piece) {mX6_totalAt : Room} {kX6_totalAt : am_T} (h_X6_totalAt : am_S false yX6_totalAt (am_ws yX6_totalAt cX6_totalAt 2 (some .long)) mX6_totalAt kX6_totalAt) {mX6_costAt : Room} {kX6_costAt : am_T} (h_X6_costAt : am_S false yX6_costAt (am_ws yX6_costAt cX6_costAt 2 (some .int)) mX6_costAt kX6_costAt) {mX6_tiesAt : Room} {kX6_tiesAt : am_T} (h_X6_tiesAt : am_S false yX6_tiesAt (am_ws yX6_tiesAt cX6_tiesAt 2 (some .long)) mX6_tiesAt kX6_tiesAt) {mX6_add : Room} {kX6_add : am_T} (h_X6_add : am_S false yX6_add (am_ws yX6_add cX6_add 8 none) mX6_add kX6_add) {rm : Room} (hz : rm.cells = 0 ∧ rm.slots = 0) (R_X4_minus : mX4_minus.frames + 1 ≤ rm.frames ∧ 8 + (2 + 11) + mX4_minus.locals ≤ rm.locals) (R_X5_piece : mX5_piece.frames + 1 ≤ rm.frames ∧ 8 + (6 + 11) + mX5_piece.locals ≤ rm.locals) (R_X6_totalAt : mX6_totalAt.frames + 1 ≤ rm.frames ∧ 8 + (2 + 11) + mX6_totalAt.locals ≤ rm.locals) (R_X6_costAt : mX6_costAt.frames + 1 ≤ rm.frames ∧ 8 + (2 + 11) + mX6_costAt.locals ≤ rm.locals) (R_X6_tiesAt : mX6_tiesAt.frames + 1 ≤ rm.frames ∧ 8 + (2 + 11) + mX6_tiesAt.locals ≤ rm.locals) (R_X6_add : mX6_add.frames + 1 ≤ rm.frames ∧ 8 + (8 + 11) + mX6_add.locals ≤ rm.locals) : am_S false yX5_addInside (am_ws yX5_addInside cX5_addInside 11 none) rm (WP_X5_addInside kX4_minus kX5_piece kX6_totalAt kX6_costAt kX6_tiesAt kX6_add) := by
  refine am_S.of (fun _ => hz) (by decide +kernel) (fun h0 Q G => cl_X5_addInside kX4_minus kX5_piece kX6_totalAt kX6_costAt kX6_tiesAt kX6_add Q G) ?_
  intro p l e s m args below meth c D h0 Q X hr hnm hQ
  refine ⟨?_, ?_, ?_, ?_⟩
  · unfold B_X5_addInside_0
    refine as_iload X (by decide +kernel : decode cX5_addInside 0 = .ok (.iload 6, 2)) ?_
    refine as_iload X (by decide +kernel : decode cX5_addInside 2 = .ok (.iload 7, 2)) ?_
    refine as_cs X h_X4_minus (by decide +kernel : decode cX5_addInside 4 = .ok (.invokestatic 174, 3)) dn_X4_minus ml_X5_174 st_X4_minus ini_X4 co_X4_minus R_X4_minus ?_
    refine as_istore X (by decide +kernel : decode cX5_addInside 7 = .ok (.istore 8, 2)) ?_
    refine as_aload_n X (by decide +kernel : decode cX5_addInside 9 = .ok (.aload_n 0, 1)) rfl ?_
    refine as_iload_n X (by decide +kernel : decode cX5_addInside 10 = .ok (.iload_n 3, 1)) rfl ?_
    refine as_iload X (by decide +kernel : decode cX5_addInside 11 = .ok (.iload 4, 2)) ?_
    refine as_iload_n X (by decide +kernel : decode cX5_addInside 13 = .ok (.iload_n 2, 1)) rfl ?_
    refine as_iconst X (by decide +kernel : decode cX5_addInside 14 = .ok (.iconst 4, 1)) rfl ?_
    refine as_ic_ne X (tgt := 23) (by decide +kernel : decode cX5_addInside 15 = .ok (.if_icmp .ne 8, 3)) (by decide) ?_ ?_
    · refine as_iload X (by decide +kernel : decode cX5_addInside 18 = .ok (.iload 8, 2)) ?_
      refine as_goto X (tgt := 25) (by decide +kernel : decode cX5_addInside 20 = .ok (.goto 5, 3)) (by decide) ?_
      exact fun _ _ _ h => h
    · refine as_iload X (by decide +kernel : decode cX5_addInside 23 = .ok (.iload 7, 2)) ?_
      exact fun _ _ _ h => h
  · unfold B_X5_addInside_25
    refine as_cv X h_X5_piece rfl (by decide +kernel : decode cX5_addInside 25 = .ok (.invokevirtual 110, 3)) dn_X5_piece ml_X5_110 im_X5_piece se_X5_piece ini_X5 co_X5_piece R_X5_piece ?_
    refine as_istore X (by decide +kernel : decode cX5_addInside 28 = .ok (.istore 9, 2)) ?_
    refine as_aload_n X (by decide +kernel : decode cX5_addInside 30 = .ok (.aload_n 0, 1)) rfl ?_
    refine as_get X fc_X5 (by decide +kernel : decode cX5_addInside 31 = .ok (.getfield 18, 3)) (by decide) fl_X5_18 ?_
    refine as_iload X (by decide +kernel : decode cX5_addInside 34 = .ok (.iload 9, 2)) ?_
    refine as_cv X h_X6_totalAt rfl (by decide +kernel : decode cX5_addInside 36 = .ok (.invokevirtual 120, 3)) dn_X6_totalAt ml_X5_120 im_X6_totalAt se_X6_totalAt ini_X6 co_X6_totalAt R_X6_totalAt ?_
    refine as_lconst X (by decide +kernel : decode cX5_addInside 39 = .ok (.lconst 0, 1)) rfl ?_
    refine as_lcmp X (by decide +kernel : decode cX5_addInside 40 = .ok (.lcmp, 1)) ?_
    refine as_if_ne X (tgt := 45) (by decide +kernel : decode cX5_addInside 41 = .ok (.ifCond .ne 4, 3)) (by decide) ?_ ?_
    · exact as_rv X hQ hr (by decide +kernel : decode cX5_addInside 44 = .ok (.return_, 1))
    · refine as_aload_n X (by decide +kernel : decode cX5_addInside 45 = .ok (.aload_n 0, 1)) rfl ?_
      refine as_iload X (by decide +kernel : decode cX5_addInside 46 = .ok (.iload 4, 2)) ?_
      refine as_iconst X (by decide +kernel : decode cX5_addInside 48 = .ok (.iconst 1, 1)) rfl ?_
      refine as_iadd X (by decide +kernel : decode cX5_addInside 49 = .ok (.iadd, 1)) ?_
      refine as_iload X (by decide +kernel : decode cX5_addInside 50 = .ok (.iload 5, 2)) ?_
      refine as_iload_n X (by decide +kernel : decode cX5_addInside 52 = .ok (.iload_n 2, 1)) rfl ?_
      refine as_iconst X (by decide +kernel : decode cX5_addInside 53 = .ok (.iconst 4, 1)) rfl ?_
      refine as_ic_ne X (tgt := 62) (by decide +kernel : decode cX5_addInside 54 = .ok (.if_icmp .ne 8, 3)) (by decide) ?_ ?_
      · refine as_iload X (by decide +kernel : decode cX5_addInside 57 = .ok (.iload 7, 2)) ?_
        refine as_goto X (tgt := 64) (by decide +kernel : decode cX5_addInside 59 = .ok (.goto 5, 3)) (by decide) ?_
        exact fun _ _ _ h => h
      · refine as_iload X (by decide +kernel : decode cX5_addInside 62 = .ok (.iload 8, 2)) ?_
        exact fun _ _ _ h => h
  · unfold B_X5_addInside_64
    refine as_cv X h_X5_piece rfl (by decide +kernel : decode cX5_addInside 64 = .ok (.invokevirtual 110, 3)) dn_X5_piece ml_X5_110 im_X5_piece se_X5_piece ini_X5 co_X5_piece R_X5_piece ?_
    refine as_istore X (by decide +kernel : decode cX5_addInside 67 = .ok (.istore 10, 2)) ?_
    refine as_aload_n X (by decide +kernel : decode cX5_addInside 69 = .ok (.aload_n 0, 1)) rfl ?_
    refine as_get X fc_X5 (by decide +kernel : decode cX5_addInside 70 = .ok (.getfield 22, 3)) (by decide) fl_X5_22 ?_
    refine as_iload_n X (by decide +kernel : decode cX5_addInside 73 = .ok (.iload_n 1, 1)) rfl ?_
    refine as_aload_n X (by decide +kernel : decode cX5_addInside 74 = .ok (.aload_n 0, 1)) rfl ?_
    refine as_get X fc_X5 (by decide +kernel : decode cX5_addInside 75 = .ok (.getfield 18, 3)) (by decide) fl_X5_18 ?_
    refine as_iload X (by decide +kernel : decode cX5_addInside 78 = .ok (.iload 9, 2)) ?_
    refine as_cv X h_X6_totalAt rfl (by decide +kernel : decode cX5_addInside 80 = .ok (.invokevirtual 120, 3)) dn_X6_totalAt ml_X5_120 im_X6_totalAt se_X6_totalAt ini_X6 co_X6_totalAt R_X6_totalAt ?_
    refine as_aload_n X (by decide +kernel : decode cX5_addInside 83 = .ok (.aload_n 0, 1)) rfl ?_
    refine as_get X fc_X5 (by decide +kernel : decode cX5_addInside 84 = .ok (.getfield 18, 3)) (by decide) fl_X5_18 ?_
    refine as_iload X (by decide +kernel : decode cX5_addInside 87 = .ok (.iload 10, 2)) ?_
    refine as_cv X h_X6_totalAt rfl (by decide +kernel : decode cX5_addInside 89 = .ok (.invokevirtual 120, 3)) dn_X6_totalAt ml_X5_120 im_X6_totalAt se_X6_totalAt ini_X6 co_X6_totalAt R_X6_totalAt ?_
    refine as_lmul X (by decide +kernel : decode cX5_addInside 92 = .ok (.lmul, 1)) ?_
    refine as_aload_n X (by decide +kernel : decode cX5_addInside 93 = .ok (.aload_n 0, 1)) rfl ?_
    refine as_get X fc_X5 (by decide +kernel : decode cX5_addInside 94 = .ok (.getfield 44, 3)) (by decide) fl_X5_44 ?_
    refine as_iload_n X (by decide +kernel : decode cX5_addInside 97 = .ok (.iload_n 2, 1)) rfl ?_
    refine as_iaload X (by decide +kernel : decode cX5_addInside 98 = .ok (.iaload, 1)) ?_
    refine as_aload_n X (by decide +kernel : decode cX5_addInside 99 = .ok (.aload_n 0, 1)) rfl ?_
    refine as_get X fc_X5 (by decide +kernel : decode cX5_addInside 100 = .ok (.getfield 18, 3)) (by decide) fl_X5_18 ?_
    refine as_iload X (by decide +kernel : decode cX5_addInside 103 = .ok (.iload 9, 2)) ?_
    refine as_cv X h_X6_costAt rfl (by decide +kernel : decode cX5_addInside 105 = .ok (.invokevirtual 114, 3)) dn_X6_costAt ml_X5_114 im_X6_costAt se_X6_costAt ini_X6 co_X6_costAt R_X6_costAt ?_
    refine as_iadd X (by decide +kernel : decode cX5_addInside 108 = .ok (.iadd, 1)) ?_
    refine as_aload_n X (by decide +kernel : decode cX5_addInside 109 = .ok (.aload_n 0, 1)) rfl ?_
    refine as_get X fc_X5 (by decide +kernel : decode cX5_addInside 110 = .ok (.getfield 18, 3)) (by decide) fl_X5_18 ?_
    refine as_iload X (by decide +kernel : decode cX5_addInside 113 = .ok (.iload 10, 2)) ?_
    refine as_cv X h_X6_costAt rfl (by decide +kernel : decode cX5_addInside 115 = .ok (.invokevirtual 114, 3)) dn_X6_costAt ml_X5_114 im_X6_costAt se_X6_costAt ini_X6 co_X6_costAt R_X6_costAt ?_
    refine as_iadd X (by decide +kernel : decode cX5_addInside 118 = .ok (.iadd, 1)) ?_
    refine as_aload_n X (by decide +kernel : decode cX5_addInside 119 = .ok (.aload_n 0, 1)) rfl ?_
    refine as_get X fc_X5 (by decide +kernel : decode cX5_addInside 120 = .ok (.getfield 18, 3)) (by decide) fl_X5_18 ?_
    refine as_iload X (by decide +kernel : decode cX5_addInside 123 = .ok (.iload 9, 2)) ?_
    refine as_cv X h_X6_tiesAt rfl (by decide +kernel : decode cX5_addInside 125 = .ok (.invokevirtual 124, 3)) dn_X6_tiesAt ml_X5_124 im_X6_tiesAt se_X6_tiesAt ini_X6 co_X6_tiesAt R_X6_tiesAt ?_
    refine as_aload_n X (by decide +kernel : decode cX5_addInside 128 = .ok (.aload_n 0, 1)) rfl ?_
    refine as_get X fc_X5 (by decide +kernel : decode cX5_addInside 129 = .ok (.getfield 18, 3)) (by decide) fl_X5_18 ?_
    refine as_iload X (by decide +kernel : decode cX5_addInside 132 = .ok (.iload 10, 2)) ?_
    refine as_cv X h_X6_tiesAt rfl (by decide +kernel : decode cX5_addInside 134 = .ok (.invokevirtual 124, 3)) dn_X6_tiesAt ml_X5_124 im_X6_tiesAt se_X6_tiesAt ini_X6 co_X6_tiesAt R_X6_tiesAt ?_
    refine as_lmul X (by decide +kernel : decode cX5_addInside 137 = .ok (.lmul, 1)) ?_
    refine as_iload_n X (by decide +kernel : decode cX5_addInside 138 = .ok (.iload_n 2, 1)) rfl ?_
    refine as_sipush X (by decide +kernel : decode cX5_addInside 139 = .ok (.sipush 8192, 3)) rfl ?_
    refine as_imul X (by decide +kernel : decode cX5_addInside 142 = .ok (.imul, 1)) ?_
    refine as_iload X (by decide +kernel : decode cX5_addInside 143 = .ok (.iload 4, 2)) ?_
    refine as_sipush X (by decide +kernel : decode cX5_addInside 145 = .ok (.sipush 512, 3)) rfl ?_
    refine as_imul X (by decide +kernel : decode cX5_addInside 148 = .ok (.imul, 1)) ?_
    refine as_iadd X (by decide +kernel : decode cX5_addInside 149 = .ok (.iadd, 1)) ?_
    refine as_iload X (by decide +kernel : decode cX5_addInside 150 = .ok (.iload 7, 2)) ?_
    exact fun _ _ _ h => h
  · unfold B_X5_addInside_152
    refine as_iadd X (by decide +kernel : decode cX5_addInside 152 = .ok (.iadd, 1)) ?_
    refine as_cv X h_X6_add rfl (by decide +kernel : decode cX5_addInside 153 = .ok (.invokevirtual 127, 3)) dn_X6_add ml_X5_127 im_X6_add se_X6_add ini_X6 co_X6_add R_X6_add ?_
    exact as_rv X hQ hr (by decide +kernel : decode cX5_addInside 156 = .ok (.return_, 1))

def B_X5_addHidden_0 (kX5_marked : am_T) (kX1_hidingPlaces : am_T) (kX6_add : am_T) (Q : am_Q) (G : Nat → am_K) : am_K := (ak_il 3 (ak_il 2 (ak_ib (fun x y => x - y) (ak_c (.int 3) (ak_ic (fun x y => x < y) (G 17) (ak_al 0 (ak_il 2 (ak_c (.int 6) (ak_cv 3 3 kX5_marked (ak_if (fun x => x = 0) (G 17) (ak_al 0 (ak_get 3 4 (ak_il 2 (ak_c (.int 1) (ak_ib (fun x y => x + y) (ak_il 3 (ak_ll 4 (ak_cv 4 1 kX1_hidingPlaces (ak_is 6 (ak_al 0 (ak_get 3 1 (ak_il 1 (ak_il 6 (ak_i2l (ak_al 0 (ak_get 3 5 (ak_c (.int 6) (ak_iald (ak_il 6 (ak_i2l (ak_c (.int 49152) (ak_cv 6 4 kX6_add (ak_rv Q)))))))))))))))))))))))))))))))))
def B_X5_addHidden_17 (kX5_marked : am_T) (kX1_hidingPlaces : am_T) (kX6_add : am_T) (Q : am_Q) (G : Nat → am_K) : am_K := (ak_rv Q)
def cl_X5_addHidden (kX5_marked : am_T) (kX1_hidingPlaces : am_T) (kX6_add : am_T) (Q : am_Q) (G : Nat → am_K) : Prop := am_N G 0 (B_X5_addHidden_0 kX5_marked kX1_hidingPlaces kX6_add Q G) ∧ am_N G 17 (B_X5_addHidden_17 kX5_marked kX1_hidingPlaces kX6_add Q G)
def WP_X5_addHidden (kX5_marked : am_T) (kX1_hidingPlaces : am_T) (kX6_add : am_T) : am_T := fun av h Q => (lg_sl av).length ≤ 7 ∧ ∀ G, cl_X5_addHidden kX5_marked kX1_hidingPlaces kX6_add Q G → G 0 (am_ent 7 av) [] h
set_option maxHeartbeats 4000000 in
set_option maxRecDepth 100000 in
theorem s_X5_addHidden {mX5_marked : Room} {kX5_marked : am_T} (h_X5_marked : am_S false yX5_marked (am_ws yX5_marked cX5_marked 3 (some .boolean)) mX5_marked kX5_marked) {mX1_hidingPlaces : Room} {kX1_hidingPlaces : am_T} (h_X1_hidingPlaces : am_S false yX1_hidingPlaces (am_ws yX1_hidingPlaces cX1_hidingPlaces 9 (some .int)) mX1_hidingPlaces kX1_hidingPlaces) {mX6_add : Room} {kX6_add : am_T} (h_X6_add : am_S false yX6_add (am_ws yX6_add cX6_add 8 none) mX6_add kX6_add) {rm : Room} (hz : rm.cells = 0 ∧ rm.slots = 0) (R_X5_marked : mX5_marked.frames + 1 ≤ rm.frames ∧ 8 + (3 + 11) + mX5_marked.locals ≤ rm.locals) (R_X1_hidingPlaces : mX1_hidingPlaces.frames + 1 ≤ rm.frames ∧ 8 + (9 + 11) + mX1_hidingPlaces.locals ≤ rm.locals) (R_X6_add : mX6_add.frames + 1 ≤ rm.frames ∧ 8 + (8 + 11) + mX6_add.locals ≤ rm.locals) : am_S false yX5_addHidden (am_ws yX5_addHidden cX5_addHidden 7 none) rm (WP_X5_addHidden kX5_marked kX1_hidingPlaces kX6_add) := by
  refine am_S.of (fun _ => hz) (by decide +kernel) (fun h0 Q G => cl_X5_addHidden kX5_marked kX1_hidingPlaces kX6_add Q G) ?_
  intro p l e s m args below meth c D h0 Q X hr hnm hQ
  refine ⟨?_, ?_⟩
  · unfold B_X5_addHidden_0
    refine as_iload_n X (by decide +kernel : decode cX5_addHidden 0 = .ok (.iload_n 3, 1)) rfl ?_
    refine as_iload_n X (by decide +kernel : decode cX5_addHidden 1 = .ok (.iload_n 2, 1)) rfl ?_
    refine as_isub X (by decide +kernel : decode cX5_addHidden 2 = .ok (.isub, 1)) ?_
    refine as_iconst X (by decide +kernel : decode cX5_addHidden 3 = .ok (.iconst 3, 1)) rfl ?_
    refine as_ic_lt X (tgt := 17) (by decide +kernel : decode cX5_addHidden 4 = .ok (.if_icmp .lt 13, 3)) (by decide) ?_ ?_
    · exact fun _ _ _ h => h
    · refine as_aload_n X (by decide +kernel : decode cX5_addHidden 7 = .ok (.aload_n 0, 1)) rfl ?_
      refine as_iload_n X (by decide +kernel : decode cX5_addHidden 8 = .ok (.iload_n 2, 1)) rfl ?_
      refine as_bipush X (by decide +kernel : decode cX5_addHidden 9 = .ok (.bipush 6, 2)) rfl ?_
      refine as_cv X h_X5_marked rfl (by decide +kernel : decode cX5_addHidden 11 = .ok (.invokevirtual 141, 3)) dn_X5_marked ml_X5_141 im_X5_marked se_X5_marked ini_X5 co_X5_marked R_X5_marked ?_
      refine as_if_ne X (tgt := 18) (by decide +kernel : decode cX5_addHidden 14 = .ok (.ifCond .ne 4, 3)) (by decide) ?_ ?_
      · exact fun _ _ _ h => h
      · refine as_aload_n X (by decide +kernel : decode cX5_addHidden 18 = .ok (.aload_n 0, 1)) rfl ?_
        refine as_get X fc_X5 (by decide +kernel : decode cX5_addHidden 19 = .ok (.getfield 40, 3)) (by decide) fl_X5_40 ?_
        refine as_iload_n X (by decide +kernel : decode cX5_addHidden 22 = .ok (.iload_n 2, 1)) rfl ?_
        refine as_iconst X (by decide +kernel : decode cX5_addHidden 23 = .ok (.iconst 1, 1)) rfl ?_
        refine as_iadd X (by decide +kernel : decode cX5_addHidden 24 = .ok (.iadd, 1)) ?_
        refine as_iload_n X (by decide +kernel : decode cX5_addHidden 25 = .ok (.iload_n 3, 1)) rfl ?_
        refine as_lload X (by decide +kernel : decode cX5_addHidden 26 = .ok (.lload 4, 2)) ?_
        refine as_cv X h_X1_hidingPlaces rfl (by decide +kernel : decode cX5_addHidden 28 = .ok (.invokevirtual 240, 3)) dn_X1_hidingPlaces ml_X5_240 im_X1_hidingPlaces se_X1_hidingPlaces ini_X1 co_X1_hidingPlaces R_X1_hidingPlaces ?_
        refine as_istore X (by decide +kernel : decode cX5_addHidden 31 = .ok (.istore 6, 2)) ?_
        refine as_aload_n X (by decide +kernel : decode cX5_addHidden 33 = .ok (.aload_n 0, 1)) rfl ?_
        refine as_get X fc_X5 (by decide +kernel : decode cX5_addHidden 34 = .ok (.getfield 22, 3)) (by decide) fl_X5_22 ?_
        refine as_iload_n X (by decide +kernel : decode cX5_addHidden 37 = .ok (.iload_n 1, 1)) rfl ?_
        refine as_iload X (by decide +kernel : decode cX5_addHidden 38 = .ok (.iload 6, 2)) ?_
        refine as_i2l X (by decide +kernel : decode cX5_addHidden 40 = .ok (.i2l, 1)) ?_
        refine as_aload_n X (by decide +kernel : decode cX5_addHidden 41 = .ok (.aload_n 0, 1)) rfl ?_
        refine as_get X fc_X5 (by decide +kernel : decode cX5_addHidden 42 = .ok (.getfield 44, 3)) (by decide) fl_X5_44 ?_
        refine as_bipush X (by decide +kernel : decode cX5_addHidden 45 = .ok (.bipush 6, 2)) rfl ?_
        refine as_iaload X (by decide +kernel : decode cX5_addHidden 47 = .ok (.iaload, 1)) ?_
        refine as_iload X (by decide +kernel : decode cX5_addHidden 48 = .ok (.iload 6, 2)) ?_
        refine as_i2l X (by decide +kernel : decode cX5_addHidden 50 = .ok (.i2l, 1)) ?_
        refine as_ldc X (by decide +kernel : decode cX5_addHidden 51 = .ok (.ldc 244, 2)) kc_X5_244 ?_
        refine as_cv X h_X6_add rfl (by decide +kernel : decode cX5_addHidden 53 = .ok (.invokevirtual 127, 3)) dn_X6_add ml_X5_127 im_X6_add se_X6_add ini_X6 co_X6_add R_X6_add ?_
        exact as_rv X hQ hr (by decide +kernel : decode cX5_addHidden 56 = .ok (.return_, 1))
  · unfold B_X5_addHidden_17
    exact as_rv X hQ hr (by decide +kernel : decode cX5_addHidden 17 = .ok (.return_, 1))

def B_X5_addShortened_0 (kX5_marked : am_T) (kX2_shortened : am_T) (kX5_addUnit : am_T) (Q : am_Q) (G : Nat → am_K) : am_K := (ak_il 4 (ak_il 3 (ak_ib (fun x y => x - y) (ak_c (.int 2) (ak_ic (fun x y => x = y) (ak_al 0 (ak_il 3 (ak_il 2 (ak_cv 3 3 kX5_marked (ak_if (fun x => x = 0) (G 17) (ak_al 0 (ak_get 3 4 (ak_get 1 0 (ak_il 3 (ak_c (.int 1) (ak_ib (fun x y => x + y) (ak_lald (ak_ls 7 (ak_ll 7 (ak_il 2 (ak_cs 2 kX2_shortened (ak_ll 5 (ak_lc (ak_if (fun x => x = 0) (ak_al 0 (ak_il 1 (ak_il 2 (ak_c (.int 0) (ak_al 0 (ak_get 3 5 (ak_il 2 (ak_iald (ak_al 0 (ak_get 3 5 (ak_c (.int 1) (ak_iald (ak_ib (fun x y => x + y) (ak_cv 5 3 kX5_addUnit (G 63))))))))))))))) (G 63)))))))))))))))))))) (G 17))))))
def B_X5_addShortened_17 (kX5_marked : am_T) (kX2_shortened : am_T) (kX5_addUnit : am_T) (Q : am_Q) (G : Nat → am_K) : am_K := (ak_rv Q)
def B_X5_addShortened_63 (kX5_marked : am_T) (kX2_shortened : am_T) (kX5_addUnit : am_T) (Q : am_Q) (G : Nat → am_K) : am_K := (ak_c (.int 0) (ak_is 9 (G 66)))
def B_X5_addShortened_66 (kX5_marked : am_T) (kX2_shortened : am_T) (kX5_addUnit : am_T) (Q : am_Q) (G : Nat → am_K) : am_K := (ak_il 9 (ak_al 0 (ak_get 3 3 (ak_get 0 3 (ak_ic (fun x y => y ≤ x) (ak_rv Q) (ak_il 9 (ak_al 0 (ak_get 3 8 (ak_ic (fun x y => x = y) (G 146) (ak_al 0 (ak_get 3 3 (ak_get 0 0 (ak_il 9 (ak_lald (ak_ll 7 (ak_lc (ak_if (fun x => x = 0) (ak_al 0 (ak_get 3 3 (ak_get 0 1 (ak_il 9 (ak_lald (ak_il 2 (ak_cs 2 kX2_shortened (ak_ll 5 (ak_lc (ak_if (fun x => x = 0) (ak_al 0 (ak_il 1 (ak_il 2 (ak_il 9 (ak_c (.int 1) (ak_ib (fun x y => x + y) (ak_al 0 (ak_get 3 5 (ak_il 2 (ak_iald (ak_al 0 (ak_get 3 5 (ak_c (.int 0) (ak_iald (ak_ib (fun x y => x + y) (ak_cv 5 3 kX5_addUnit (G 146))))))))))))))))) (G 146))))))))))) (G 146))))))))))))))))))
def B_X5_addShortened_146 (kX5_marked : am_T) (kX2_shortened : am_T) (kX5_addUnit : am_T) (Q : am_Q) (G : Nat → am_K) : am_K := (ak_ii 9 1 (G 66))
def cl_X5_addShortened (kX5_marked : am_T) (kX2_shortened : am_T) (kX5_addUnit : am_T) (Q : am_Q) (G : Nat → am_K) : Prop := am_N G 0 (B_X5_addShortened_0 kX5_marked kX2_shortened kX5_addUnit Q G) ∧ am_N G 17 (B_X5_addShortened_17 kX5_marked kX2_shortened kX5_addUnit Q G) ∧ am_N G 63 (B_X5_addShortened_63 kX5_marked kX2_shortened kX5_addUnit Q G) ∧ am_N G 66 (B_X5_addShortened_66 kX5_marked kX2_shortened kX5_addUnit Q G) ∧ am_N G 146 (B_X5_addShortened_146 kX5_marked kX2_shortened kX5_addUnit Q G)
def WP_X5_addShortened (kX5_marked : am_T) (kX2_shortened : am_T) (kX5_addUnit : am_T) : am_T := fun av h Q => (lg_sl av).length ≤ 10 ∧ ∀ G, cl_X5_addShortened kX5_marked kX2_shortened kX5_addUnit Q G → G 0 (am_ent 10 av) [] h
set_option maxHeartbeats 4000000 in
set_option maxRecDepth 100000 in
theorem s_X5_addShortened {mX5_marked : Room} {kX5_marked : am_T} (h_X5_marked : am_S false yX5_marked (am_ws yX5_marked cX5_marked 3 (some .boolean)) mX5_marked kX5_marked) {mX2_shortened : Room} {kX2_shortened : am_T} (h_X2_shortened : am_S false yX2_shortened (am_ws yX2_shortened cX2_shortened 4 (some .long)) mX2_shortened kX2_shortened) {mX5_addUnit : Room} {kX5_addUnit : am_T} (h_X5_addUnit : am_S false yX5_addUnit (am_ws yX5_addUnit cX5_addUnit 5 none) mX5_addUnit kX5_addUnit) {rm : Room} (hz : rm.cells = 0 ∧ rm.slots = 0) (R_X5_marked : mX5_marked.frames + 1 ≤ rm.frames ∧ 8 + (3 + 11) + mX5_marked.locals ≤ rm.locals) (R_X2_shortened : mX2_shortened.frames + 1 ≤ rm.frames ∧ 8 + (4 + 11) + mX2_shortened.locals ≤ rm.locals) (R_X5_addUnit : mX5_addUnit.frames + 1 ≤ rm.frames ∧ 8 + (5 + 11) + mX5_addUnit.locals ≤ rm.locals) : am_S false yX5_addShortened (am_ws yX5_addShortened cX5_addShortened 10 none) rm (WP_X5_addShortened kX5_marked kX2_shortened kX5_addUnit) := by
  refine am_S.of (fun _ => hz) (by decide +kernel) (fun h0 Q G => cl_X5_addShortened kX5_marked kX2_shortened kX5_addUnit Q G) ?_
  intro p l e s m args below meth c D h0 Q X hr hnm hQ
  refine ⟨?_, ?_, ?_, ?_, ?_⟩
  · unfold B_X5_addShortened_0
    refine as_iload X (by decide +kernel : decode cX5_addShortened 0 = .ok (.iload 4, 2)) ?_
    refine as_iload_n X (by decide +kernel : decode cX5_addShortened 2 = .ok (.iload_n 3, 1)) rfl ?_
    refine as_isub X (by decide +kernel : decode cX5_addShortened 3 = .ok (.isub, 1)) ?_
    refine as_iconst X (by decide +kernel : decode cX5_addShortened 4 = .ok (.iconst 2, 1)) rfl ?_
    refine as_ic_ne X (tgt := 17) (by decide +kernel : decode cX5_addShortened 5 = .ok (.if_icmp .ne 12, 3)) (by decide) ?_ ?_
    · refine as_aload_n X (by decide +kernel : decode cX5_addShortened 8 = .ok (.aload_n 0, 1)) rfl ?_
      refine as_iload_n X (by decide +kernel : decode cX5_addShortened 9 = .ok (.iload_n 3, 1)) rfl ?_
      refine as_iload_n X (by decide +kernel : decode cX5_addShortened 10 = .ok (.iload_n 2, 1)) rfl ?_
      refine as_cv X h_X5_marked rfl (by decide +kernel : decode cX5_addShortened 11 = .ok (.invokevirtual 141, 3)) dn_X5_marked ml_X5_141 im_X5_marked se_X5_marked ini_X5 co_X5_marked R_X5_marked ?_
      refine as_if_ne X (tgt := 18) (by decide +kernel : decode cX5_addShortened 14 = .ok (.ifCond .ne 4, 3)) (by decide) ?_ ?_
      · exact fun _ _ _ h => h
      · refine as_aload_n X (by decide +kernel : decode cX5_addShortened 18 = .ok (.aload_n 0, 1)) rfl ?_
        refine as_get X fc_X5 (by decide +kernel : decode cX5_addShortened 19 = .ok (.getfield 40, 3)) (by decide) fl_X5_40 ?_
        refine as_get X fc_X1 (by decide +kernel : decode cX5_addShortened 22 = .ok (.getfield 73, 3)) (by decide) fl_X5_73 ?_
        refine as_iload_n X (by decide +kernel : decode cX5_addShortened 25 = .ok (.iload_n 3, 1)) rfl ?_
        refine as_iconst X (by decide +kernel : decode cX5_addShortened 26 = .ok (.iconst 1, 1)) rfl ?_
        refine as_iadd X (by decide +kernel : decode cX5_addShortened 27 = .ok (.iadd, 1)) ?_
        refine as_laload X (by decide +kernel : decode cX5_addShortened 28 = .ok (.laload, 1)) ?_
        refine as_lstore X (by decide +kernel : decode cX5_addShortened 29 = .ok (.lstore 7, 2)) ?_
        refine as_lload X (by decide +kernel : decode cX5_addShortened 31 = .ok (.lload 7, 2)) ?_
        refine as_iload_n X (by decide +kernel : decode cX5_addShortened 33 = .ok (.iload_n 2, 1)) rfl ?_
        refine as_cs X h_X2_shortened (by decide +kernel : decode cX5_addShortened 34 = .ok (.invokestatic 245, 3)) dn_X2_shortened ml_X5_245 st_X2_shortened ini_X2 co_X2_shortened R_X2_shortened ?_
        refine as_lload X (by decide +kernel : decode cX5_addShortened 37 = .ok (.lload 5, 2)) ?_
        refine as_lcmp X (by decide +kernel : decode cX5_addShortened 39 = .ok (.lcmp, 1)) ?_
        refine as_if_ne X (tgt := 63) (by decide +kernel : decode cX5_addShortened 40 = .ok (.ifCond .ne 23, 3)) (by decide) ?_ ?_
        · refine as_aload_n X (by decide +kernel : decode cX5_addShortened 43 = .ok (.aload_n 0, 1)) rfl ?_
          refine as_iload_n X (by decide +kernel : decode cX5_addShortened 44 = .ok (.iload_n 1, 1)) rfl ?_
          refine as_iload_n X (by decide +kernel : decode cX5_addShortened 45 = .ok (.iload_n 2, 1)) rfl ?_
          refine as_iconst X (by decide +kernel : decode cX5_addShortened 46 = .ok (.iconst 0, 1)) rfl ?_
          refine as_aload_n X (by decide +kernel : decode cX5_addShortened 47 = .ok (.aload_n 0, 1)) rfl ?_
          refine as_get X fc_X5 (by decide +kernel : decode cX5_addShortened 48 = .ok (.getfield 44, 3)) (by decide) fl_X5_44 ?_
          refine as_iload_n X (by decide +kernel : decode cX5_addShortened 51 = .ok (.iload_n 2, 1)) rfl ?_
          refine as_iaload X (by decide +kernel : decode cX5_addShortened 52 = .ok (.iaload, 1)) ?_
          refine as_aload_n X (by decide +kernel : decode cX5_addShortened 53 = .ok (.aload_n 0, 1)) rfl ?_
          refine as_get X fc_X5 (by decide +kernel : decode cX5_addShortened 54 = .ok (.getfield 44, 3)) (by decide) fl_X5_44 ?_
          refine as_iconst X (by decide +kernel : decode cX5_addShortened 57 = .ok (.iconst 1, 1)) rfl ?_
          refine as_iaload X (by decide +kernel : decode cX5_addShortened 58 = .ok (.iaload, 1)) ?_
          refine as_iadd X (by decide +kernel : decode cX5_addShortened 59 = .ok (.iadd, 1)) ?_
          refine as_cv X h_X5_addUnit rfl (by decide +kernel : decode cX5_addShortened 60 = .ok (.invokevirtual 218, 3)) dn_X5_addUnit ml_X5_218 im_X5_addUnit se_X5_addUnit ini_X5 co_X5_addUnit R_X5_addUnit ?_
          exact fun _ _ _ h => h
        · exact fun _ _ _ h => h
    · exact fun _ _ _ h => h
  · unfold B_X5_addShortened_17
    exact as_rv X hQ hr (by decide +kernel : decode cX5_addShortened 17 = .ok (.return_, 1))
  · unfold B_X5_addShortened_63
    refine as_iconst X (by decide +kernel : decode cX5_addShortened 63 = .ok (.iconst 0, 1)) rfl ?_
    refine as_istore X (by decide +kernel : decode cX5_addShortened 64 = .ok (.istore 9, 2)) ?_
    exact fun _ _ _ h => h
  · unfold B_X5_addShortened_66
    refine as_iload X (by decide +kernel : decode cX5_addShortened 66 = .ok (.iload 9, 2)) ?_
    refine as_aload_n X (by decide +kernel : decode cX5_addShortened 68 = .ok (.aload_n 0, 1)) rfl ?_
    refine as_get X fc_X5 (by decide +kernel : decode cX5_addShortened 69 = .ok (.getfield 36, 3)) (by decide) fl_X5_36 ?_
    refine as_get X fc_X0 (by decide +kernel : decode cX5_addShortened 72 = .ok (.getfield 81, 3)) (by decide) fl_X5_81 ?_
    refine as_ic_ge X (tgt := 152) (by decide +kernel : decode cX5_addShortened 75 = .ok (.if_icmp .ge 77, 3)) (by decide) ?_ ?_
    · exact as_rv X hQ hr (by decide +kernel : decode cX5_addShortened 152 = .ok (.return_, 1))
    · refine as_iload X (by decide +kernel : decode cX5_addShortened 78 = .ok (.iload 9, 2)) ?_
      refine as_aload_n X (by decide +kernel : decode cX5_addShortened 80 = .ok (.aload_n 0, 1)) rfl ?_
      refine as_get X fc_X5 (by decide +kernel : decode cX5_addShortened 81 = .ok (.getfield 32, 3)) (by decide) fl_X5_32 ?_
      refine as_ic_eq X (tgt := 146) (by decide +kernel : decode cX5_addShortened 84 = .ok (.if_icmp .eq 62, 3)) (by decide) ?_ ?_
      · exact fun _ _ _ h => h
      · refine as_aload_n X (by decide +kernel : decode cX5_addShortened 87 = .ok (.aload_n 0, 1)) rfl ?_
        refine as_get X fc_X5 (by decide +kernel : decode cX5_addShortened 88 = .ok (.getfield 36, 3)) (by decide) fl_X5_36 ?_
        refine as_get X fc_X0 (by decide +kernel : decode cX5_addShortened 91 = .ok (.getfield 87, 3)) (by decide) fl_X5_87 ?_
        refine as_iload X (by decide +kernel : decode cX5_addShortened 94 = .ok (.iload 9, 2)) ?_
        refine as_laload X (by decide +kernel : decode cX5_addShortened 96 = .ok (.laload, 1)) ?_
        refine as_lload X (by decide +kernel : decode cX5_addShortened 97 = .ok (.lload 7, 2)) ?_
        refine as_lcmp X (by decide +kernel : decode cX5_addShortened 99 = .ok (.lcmp, 1)) ?_
        refine as_if_ne X (tgt := 146) (by decide +kernel : decode cX5_addShortened 100 = .ok (.ifCond .ne 46, 3)) (by decide) ?_ ?_
        · refine as_aload_n X (by decide +kernel : decode cX5_addShortened 103 = .ok (.aload_n 0, 1)) rfl ?_
          refine as_get X fc_X5 (by decide +kernel : decode cX5_addShortened 104 = .ok (.getfield 36, 3)) (by decide) fl_X5_36 ?_
          refine as_get X fc_X0 (by decide +kernel : decode cX5_addShortened 107 = .ok (.getfield 249, 3)) (by decide) fl_X5_249 ?_
          refine as_iload X (by decide +kernel : decode cX5_addShortened 110 = .ok (.iload 9, 2)) ?_
          refine as_laload X (by decide +kernel : decode cX5_addShortened 112 = .ok (.laload, 1)) ?_
          refine as_iload_n X (by decide +kernel : decode cX5_addShortened 113 = .ok (.iload_n 2, 1)) rfl ?_
          refine as_cs X h_X2_shortened (by decide +kernel : decode cX5_addShortened 114 = .ok (.invokestatic 245, 3)) dn_X2_shortened ml_X5_245 st_X2_shortened ini_X2 co_X2_shortened R_X2_shortened ?_
          refine as_lload X (by decide +kernel : decode cX5_addShortened 117 = .ok (.lload 5, 2)) ?_
          refine as_lcmp X (by decide +kernel : decode cX5_addShortened 119 = .ok (.lcmp, 1)) ?_
          refine as_if_ne X (tgt := 146) (by decide +kernel : decode cX5_addShortened 120 = .ok (.ifCond .ne 26, 3)) (by decide) ?_ ?_
          · refine as_aload_n X (by decide +kernel : decode cX5_addShortened 123 = .ok (.aload_n 0, 1)) rfl ?_
            refine as_iload_n X (by decide +kernel : decode cX5_addShortened 124 = .ok (.iload_n 1, 1)) rfl ?_
            refine as_iload_n X (by decide +kernel : decode cX5_addShortened 125 = .ok (.iload_n 2, 1)) rfl ?_
            refine as_iload X (by decide +kernel : decode cX5_addShortened 126 = .ok (.iload 9, 2)) ?_
            refine as_iconst X (by decide +kernel : decode cX5_addShortened 128 = .ok (.iconst 1, 1)) rfl ?_
            refine as_iadd X (by decide +kernel : decode cX5_addShortened 129 = .ok (.iadd, 1)) ?_
            refine as_aload_n X (by decide +kernel : decode cX5_addShortened 130 = .ok (.aload_n 0, 1)) rfl ?_
            refine as_get X fc_X5 (by decide +kernel : decode cX5_addShortened 131 = .ok (.getfield 44, 3)) (by decide) fl_X5_44 ?_
            refine as_iload_n X (by decide +kernel : decode cX5_addShortened 134 = .ok (.iload_n 2, 1)) rfl ?_
            refine as_iaload X (by decide +kernel : decode cX5_addShortened 135 = .ok (.iaload, 1)) ?_
            refine as_aload_n X (by decide +kernel : decode cX5_addShortened 136 = .ok (.aload_n 0, 1)) rfl ?_
            refine as_get X fc_X5 (by decide +kernel : decode cX5_addShortened 137 = .ok (.getfield 44, 3)) (by decide) fl_X5_44 ?_
            refine as_iconst X (by decide +kernel : decode cX5_addShortened 140 = .ok (.iconst 0, 1)) rfl ?_
            refine as_iaload X (by decide +kernel : decode cX5_addShortened 141 = .ok (.iaload, 1)) ?_
            refine as_iadd X (by decide +kernel : decode cX5_addShortened 142 = .ok (.iadd, 1)) ?_
            refine as_cv X h_X5_addUnit rfl (by decide +kernel : decode cX5_addShortened 143 = .ok (.invokevirtual 218, 3)) dn_X5_addUnit ml_X5_218 im_X5_addUnit se_X5_addUnit ini_X5 co_X5_addUnit R_X5_addUnit ?_
            exact fun _ _ _ h => h
          · exact fun _ _ _ h => h
        · exact fun _ _ _ h => h
  · unfold B_X5_addShortened_146
    refine as_iinc X (by decide +kernel : decode cX5_addShortened 146 = .ok (.iinc 9 1, 3)) rfl ?_
    refine as_goto X (tgt := 66) (by decide +kernel : decode cX5_addShortened 149 = .ok (.goto (-83), 3)) (by decide) ?_
    exact fun _ _ _ h => h

def B_X5_addInitials_0 (kX5_marked : am_T) (kX1_initials : am_T) (kX5_addUnit : am_T) (Q : am_Q) (G : Nat → am_K) : am_K := (ak_al 0 (ak_il 2 (ak_c (.int 9) (ak_cv 3 3 kX5_marked (ak_if (fun x => x = 0) (G 42) (ak_al 0 (ak_get 3 4 (ak_il 2 (ak_c (.int 1) (ak_ib (fun x y => x + y) (ak_il 3 (ak_cv 3 1 kX1_initials (ak_ll 4 (ak_lc (ak_if (fun x => x = 0) (ak_al 0 (ak_il 1 (ak_c (.int 9) (ak_c (.int 0) (ak_al 0 (ak_get 3 5 (ak_c (.int 9) (ak_iald (ak_cv 5 3 kX5_addUnit (G 42)))))))))) (G 42))))))))))))))))
def B_X5_addInitials_42 (kX5_marked : am_T) (kX1_initials : am_T) (kX5_addUnit : am_T) (Q : am_Q) (G : Nat → am_K) : am_K := (ak_rv Q)
def cl_X5_addInitials (kX5_marked : am_T) (kX1_initials : am_T) (kX5_addUnit : am_T) (Q : am_Q) (G : Nat → am_K) : Prop := am_N G 0 (B_X5_addInitials_0 kX5_marked kX1_initials kX5_addUnit Q G) ∧ am_N G 42 (B_X5_addInitials_42 kX5_marked kX1_initials kX5_addUnit Q G)
def WP_X5_addInitials (kX5_marked : am_T) (kX1_initials : am_T) (kX5_addUnit : am_T) : am_T := fun av h Q => (lg_sl av).length ≤ 6 ∧ ∀ G, cl_X5_addInitials kX5_marked kX1_initials kX5_addUnit Q G → G 0 (am_ent 6 av) [] h
set_option maxHeartbeats 4000000 in
set_option maxRecDepth 100000 in
theorem s_X5_addInitials {mX5_marked : Room} {kX5_marked : am_T} (h_X5_marked : am_S false yX5_marked (am_ws yX5_marked cX5_marked 3 (some .boolean)) mX5_marked kX5_marked) {mX1_initials : Room} {kX1_initials : am_T} (h_X1_initials : am_S false yX1_initials (am_ws yX1_initials cX1_initials 6 (some .long)) mX1_initials kX1_initials) {mX5_addUnit : Room} {kX5_addUnit : am_T} (h_X5_addUnit : am_S false yX5_addUnit (am_ws yX5_addUnit cX5_addUnit 5 none) mX5_addUnit kX5_addUnit) {rm : Room} (hz : rm.cells = 0 ∧ rm.slots = 0) (R_X5_marked : mX5_marked.frames + 1 ≤ rm.frames ∧ 8 + (3 + 11) + mX5_marked.locals ≤ rm.locals) (R_X1_initials : mX1_initials.frames + 1 ≤ rm.frames ∧ 8 + (6 + 11) + mX1_initials.locals ≤ rm.locals) (R_X5_addUnit : mX5_addUnit.frames + 1 ≤ rm.frames ∧ 8 + (5 + 11) + mX5_addUnit.locals ≤ rm.locals) : am_S false yX5_addInitials (am_ws yX5_addInitials cX5_addInitials 6 none) rm (WP_X5_addInitials kX5_marked kX1_initials kX5_addUnit) := by
  refine am_S.of (fun _ => hz) (by decide +kernel) (fun h0 Q G => cl_X5_addInitials kX5_marked kX1_initials kX5_addUnit Q G) ?_
  intro p l e s m args below meth c D h0 Q X hr hnm hQ
  refine ⟨?_, ?_⟩
  · unfold B_X5_addInitials_0
    refine as_aload_n X (by decide +kernel : decode cX5_addInitials 0 = .ok (.aload_n 0, 1)) rfl ?_
    refine as_iload_n X (by decide +kernel : decode cX5_addInitials 1 = .ok (.iload_n 2, 1)) rfl ?_
    refine as_bipush X (by decide +kernel : decode cX5_addInitials 2 = .ok (.bipush 9, 2)) rfl ?_
    refine as_cv X h_X5_marked rfl (by decide +kernel : decode cX5_addInitials 4 = .ok (.invokevirtual 141, 3)) dn_X5_marked ml_X5_141 im_X5_marked se_X5_marked ini_X5 co_X5_marked R_X5_marked ?_
    refine as_if_eq X (tgt := 42) (by decide +kernel : decode cX5_addInitials 7 = .ok (.ifCond .eq 35, 3)) (by decide) ?_ ?_
    · exact fun _ _ _ h => h
    · refine as_aload_n X (by decide +kernel : decode cX5_addInitials 10 = .ok (.aload_n 0, 1)) rfl ?_
      refine as_get X fc_X5 (by decide +kernel : decode cX5_addInitials 11 = .ok (.getfield 40, 3)) (by decide) fl_X5_40 ?_
      refine as_iload_n X (by decide +kernel : decode cX5_addInitials 14 = .ok (.iload_n 2, 1)) rfl ?_
      refine as_iconst X (by decide +kernel : decode cX5_addInitials 15 = .ok (.iconst 1, 1)) rfl ?_
      refine as_iadd X (by decide +kernel : decode cX5_addInitials 16 = .ok (.iadd, 1)) ?_
      refine as_iload_n X (by decide +kernel : decode cX5_addInitials 17 = .ok (.iload_n 3, 1)) rfl ?_
      refine as_cv X h_X1_initials rfl (by decide +kernel : decode cX5_addInitials 18 = .ok (.invokevirtual 252, 3)) dn_X1_initials ml_X5_252 im_X1_initials se_X1_initials ini_X1 co_X1_initials R_X1_initials ?_
      refine as_lload X (by decide +kernel : decode cX5_addInitials 21 = .ok (.lload 4, 2)) ?_
      refine as_lcmp X (by decide +kernel : decode cX5_addInitials 23 = .ok (.lcmp, 1)) ?_
      refine as_if_ne X (tgt := 42) (by decide +kernel : decode cX5_addInitials 24 = .ok (.ifCond .ne 18, 3)) (by decide) ?_ ?_
      · refine as_aload_n X (by decide +kernel : decode cX5_addInitials 27 = .ok (.aload_n 0, 1)) rfl ?_
        refine as_iload_n X (by decide +kernel : decode cX5_addInitials 28 = .ok (.iload_n 1, 1)) rfl ?_
        refine as_bipush X (by decide +kernel : decode cX5_addInitials 29 = .ok (.bipush 9, 2)) rfl ?_
        refine as_iconst X (by decide +kernel : decode cX5_addInitials 31 = .ok (.iconst 0, 1)) rfl ?_
        refine as_aload_n X (by decide +kernel : decode cX5_addInitials 32 = .ok (.aload_n 0, 1)) rfl ?_
        refine as_get X fc_X5 (by decide +kernel : decode cX5_addInitials 33 = .ok (.getfield 44, 3)) (by decide) fl_X5_44 ?_
        refine as_bipush X (by decide +kernel : decode cX5_addInitials 36 = .ok (.bipush 9, 2)) rfl ?_
        refine as_iaload X (by decide +kernel : decode cX5_addInitials 38 = .ok (.iaload, 1)) ?_
        refine as_cv X h_X5_addUnit rfl (by decide +kernel : decode cX5_addInitials 39 = .ok (.invokevirtual 218, 3)) dn_X5_addUnit ml_X5_218 im_X5_addUnit se_X5_addUnit ini_X5 co_X5_addUnit R_X5_addUnit ?_
        exact fun _ _ _ h => h
      · exact fun _ _ _ h => h
  · unfold B_X5_addInitials_42
    exact as_rv X hQ hr (by decide +kernel : decode cX5_addInitials 42 = .ok (.return_, 1))
