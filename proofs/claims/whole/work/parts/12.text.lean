/-! points, closures, contracts, soundness; printed by wip/whole/gen.py -/
def B_X0_init_0 (h0 : am_H) (rc rs : Nat) (Q : am_Q) (G : Nat → am_K) : am_K := (ak_al 0 (ak_oi (ak_al 0 (ak_c (.int 24) (ak_newl h0 rc rs (ak_puta 0 0 (ak_al 0 (ak_c (.int 24) (ak_newl h0 rc rs (ak_puta 0 1 (ak_al 0 (ak_c (.int 24) (ak_newi h0 rc rs (ak_puta 0 2 (ak_rv Q)))))))))))))))
def cl_X0_init (h0 : am_H) (rc rs : Nat) (Q : am_Q) (G : Nat → am_K) : Prop := am_N G 0 (B_X0_init_0 h0 rc rs Q G)
def WP_X0_init (rc rs : Nat) : am_T := fun av h Q => (lg_sl av).length ≤ 1 ∧ ∀ G, cl_X0_init h rc rs Q G → G 0 (am_ent 1 av) [] h
set_option maxHeartbeats 4000000 in
set_option maxRecDepth 100000 in
theorem s_X0_init {rm : Room} (hO : 1 ≤ rm.frames ∧ 20 ≤ rm.locals) : am_S true yX0_init (am_ws yX0_init cX0_init 1 none) rm (WP_X0_init rm.cells rm.slots) := by
  refine am_S.of (fun q => by cases q) (by decide +kernel) (fun h0 Q G => cl_X0_init h0 rm.cells rm.slots Q G) ?_
  intro p l e s m args below meth c D h0 Q X hr hnm hQ
  show am_N _ 0 (B_X0_init_0  h0 rm.cells rm.slots Q _)
  · unfold B_X0_init_0
    refine as_aload_n X (by decide +kernel : decode cX0_init 0 = .ok (.aload_n 0, 1)) rfl ?_
    refine as_oi X (by decide +kernel : decode cX0_init 1 = .ok (.invokespecial 3, 3)) ml_X0_3 im_objectInit co_objectInit hO.1 hO.2 ?_
    refine as_aload_n X (by decide +kernel : decode cX0_init 4 = .ok (.aload_n 0, 1)) rfl ?_
    refine as_bipush X (by decide +kernel : decode cX0_init 5 = .ok (.bipush 24, 2)) rfl ?_
    refine as_newl X (by decide +kernel : decode cX0_init 7 = .ok (.newarray .long, 2)) ac_long ?_
    refine as_puta X fc_X0 (by decide +kernel : decode cX0_init 9 = .ok (.putfield 9, 3)) (by decide) fl_X0_9 (Or.inr ⟨rfl, hnm, rfl⟩) (Or.inl ⟨_, rfl⟩) ?_
    refine as_aload_n X (by decide +kernel : decode cX0_init 12 = .ok (.aload_n 0, 1)) rfl ?_
    refine as_bipush X (by decide +kernel : decode cX0_init 13 = .ok (.bipush 24, 2)) rfl ?_
    refine as_newl X (by decide +kernel : decode cX0_init 15 = .ok (.newarray .long, 2)) ac_long ?_
    refine as_puta X fc_X0 (by decide +kernel : decode cX0_init 17 = .ok (.putfield 15, 3)) (by decide) fl_X0_15 (Or.inr ⟨rfl, hnm, rfl⟩) (Or.inl ⟨_, rfl⟩) ?_
    refine as_aload_n X (by decide +kernel : decode cX0_init 20 = .ok (.aload_n 0, 1)) rfl ?_
    refine as_bipush X (by decide +kernel : decode cX0_init 21 = .ok (.bipush 24, 2)) rfl ?_
    refine as_newi X (by decide +kernel : decode cX0_init 23 = .ok (.newarray .int, 2)) ac_int ?_
    refine as_puta X fc_X0 (by decide +kernel : decode cX0_init 25 = .ok (.putfield 18, 3)) (by decide) fl_X0_18 (Or.inr ⟨rfl, hnm, rfl⟩) (Or.inl ⟨_, rfl⟩) ?_
    exact as_rv X hQ hr (by decide +kernel : decode cX0_init 28 = .ok (.return_, 1))

def B_X0_has_0 (Q : am_Q) (G : Nat → am_K) : am_K := (ak_il 1 (ak_if (fun x => x < 0) (G 16) (ak_il 1 (ak_al 0 (ak_get 0 3 (ak_ic (fun x y => y ≤ x) (G 16) (ak_c (.int 1) (G 17))))))))
def B_X0_has_16 (Q : am_Q) (G : Nat → am_K) : am_K := (ak_c (.int 0) (G 17))
def B_X0_has_17 (Q : am_Q) (G : Nat → am_K) : am_K := (ak_rz Q)
def cl_X0_has (Q : am_Q) (G : Nat → am_K) : Prop := am_N G 0 (B_X0_has_0 Q G) ∧ am_N G 16 (B_X0_has_16 Q G) ∧ am_N G 17 (B_X0_has_17 Q G)
def WP_X0_has : am_T := fun av h Q => (lg_sl av).length ≤ 2 ∧ ∀ G, cl_X0_has Q G → G 0 (am_ent 2 av) [] h
set_option maxHeartbeats 4000000 in
set_option maxRecDepth 100000 in
theorem s_X0_has {rm : Room} (hz : rm.cells = 0 ∧ rm.slots = 0) : am_S false yX0_has (am_ws yX0_has cX0_has 2 (some .boolean)) rm (WP_X0_has) := by
  refine am_S.of (fun _ => hz) (by decide +kernel) (fun h0 Q G => cl_X0_has Q G) ?_
  intro p l e s m args below meth c D h0 Q X hr hnm hQ
  refine ⟨?_, ?_, ?_⟩
  · unfold B_X0_has_0
    refine as_iload_n X (by decide +kernel : decode cX0_has 0 = .ok (.iload_n 1, 1)) rfl ?_
    refine as_if_lt X (tgt := 16) (by decide +kernel : decode cX0_has 1 = .ok (.ifCond .lt 15, 3)) (by decide) ?_ ?_
    · exact fun _ _ _ h => h
    · refine as_iload_n X (by decide +kernel : decode cX0_has 4 = .ok (.iload_n 1, 1)) rfl ?_
      refine as_aload_n X (by decide +kernel : decode cX0_has 5 = .ok (.aload_n 0, 1)) rfl ?_
      refine as_get X fc_X0 (by decide +kernel : decode cX0_has 6 = .ok (.getfield 22, 3)) (by decide) fl_X0_22 ?_
      refine as_ic_ge X (tgt := 16) (by decide +kernel : decode cX0_has 9 = .ok (.if_icmp .ge 7, 3)) (by decide) ?_ ?_
      · exact fun _ _ _ h => h
      · refine as_iconst X (by decide +kernel : decode cX0_has 12 = .ok (.iconst 1, 1)) rfl ?_
        refine as_goto X (tgt := 17) (by decide +kernel : decode cX0_has 13 = .ok (.goto 4, 3)) (by decide) ?_
        exact fun _ _ _ h => h
  · unfold B_X0_has_16
    refine as_iconst X (by decide +kernel : decode cX0_has 16 = .ok (.iconst 0, 1)) rfl ?_
    exact fun _ _ _ h => h
  · unfold B_X0_has_17
    exact as_rz X hQ hr (by decide +kernel : decode cX0_has 17 = .ok (.ireturn, 1))

def B_X0_readFrom_0 (kX7_entryEnd : am_T) (kX0_added : am_T) (Q : am_Q) (G : Nat → am_K) : am_K := (ak_al 0 (ak_get 0 3 (ak_is 2 (ak_c (.int 0) (ak_is 3 (G 7))))))
def B_X0_readFrom_7 (kX7_entryEnd : am_T) (kX0_added : am_T) (Q : am_Q) (G : Nat → am_K) : am_K := (ak_il 3 (ak_al 1 (ak_get 5 1 (ak_ic (fun x y => y ≤ x) (G 56) (ak_al 1 (ak_il 3 (ak_cv 2 5 kX7_entryEnd (ak_is 4 (ak_il 4 (ak_il 3 (ak_ic (fun x y => y < x) (ak_al 0 (ak_al 1 (ak_il 3 (ak_il 4 (ak_cv 4 0 kX0_added (ak_if (fun x => x = 0) (ak_al 0 (ak_il 2 (ak_puti 0 3 (ak_c (.int (-3)) (ak_ri Q))))) (ak_il 4 (ak_is 3 (G 7))))))))) (G 56))))))))))))
def B_X0_readFrom_56 (kX7_entryEnd : am_T) (kX0_added : am_T) (Q : am_Q) (G : Nat → am_K) : am_K := (ak_al 0 (ak_get 0 3 (ak_il 2 (ak_ib (fun x y => x - y) (ak_ri Q)))))
def cl_X0_readFrom (kX7_entryEnd : am_T) (kX0_added : am_T) (Q : am_Q) (G : Nat → am_K) : Prop := am_N G 0 (B_X0_readFrom_0 kX7_entryEnd kX0_added Q G) ∧ am_N G 7 (B_X0_readFrom_7 kX7_entryEnd kX0_added Q G) ∧ am_N G 56 (B_X0_readFrom_56 kX7_entryEnd kX0_added Q G)
def WP_X0_readFrom (kX7_entryEnd : am_T) (kX0_added : am_T) : am_T := fun av h Q => (lg_sl av).length ≤ 5 ∧ ∀ G, cl_X0_readFrom kX7_entryEnd kX0_added Q G → G 0 (am_ent 5 av) [] h
set_option maxHeartbeats 4000000 in
set_option maxRecDepth 100000 in
theorem s_X0_readFrom {mX7_entryEnd : Room} {kX7_entryEnd : am_T} (h_X7_entryEnd : am_S false yX7_entryEnd (am_ws yX7_entryEnd cX7_entryEnd 5 (some .int)) mX7_entryEnd kX7_entryEnd) {mX0_added : Room} {kX0_added : am_T} (h_X0_added : am_S false yX0_added (am_ws yX0_added cX0_added 11 (some .boolean)) mX0_added kX0_added) {rm : Room} (hz : rm.cells = 0 ∧ rm.slots = 0) (R_X7_entryEnd : mX7_entryEnd.frames + 1 ≤ rm.frames ∧ 8 + (5 + 11) + mX7_entryEnd.locals ≤ rm.locals) (R_X0_added : mX0_added.frames + 1 ≤ rm.frames ∧ 8 + (11 + 11) + mX0_added.locals ≤ rm.locals) : am_S false yX0_readFrom (am_ws yX0_readFrom cX0_readFrom 5 (some .int)) rm (WP_X0_readFrom kX7_entryEnd kX0_added) := by
  refine am_S.of (fun _ => hz) (by decide +kernel) (fun h0 Q G => cl_X0_readFrom kX7_entryEnd kX0_added Q G) ?_
  intro p l e s m args below meth c D h0 Q X hr hnm hQ
  refine ⟨?_, ?_, ?_⟩
  · unfold B_X0_readFrom_0
    refine as_aload_n X (by decide +kernel : decode cX0_readFrom 0 = .ok (.aload_n 0, 1)) rfl ?_
    refine as_get X fc_X0 (by decide +kernel : decode cX0_readFrom 1 = .ok (.getfield 22, 3)) (by decide) fl_X0_22 ?_
    refine as_istore_n X (by decide +kernel : decode cX0_readFrom 4 = .ok (.istore_n 2, 1)) rfl ?_
    refine as_iconst X (by decide +kernel : decode cX0_readFrom 5 = .ok (.iconst 0, 1)) rfl ?_
    refine as_istore_n X (by decide +kernel : decode cX0_readFrom 6 = .ok (.istore_n 3, 1)) rfl ?_
    exact fun _ _ _ h => h
  · unfold B_X0_readFrom_7
    refine as_iload_n X (by decide +kernel : decode cX0_readFrom 7 = .ok (.iload_n 3, 1)) rfl ?_
    refine as_aload_n X (by decide +kernel : decode cX0_readFrom 8 = .ok (.aload_n 1, 1)) rfl ?_
    refine as_get X fc_X7 (by decide +kernel : decode cX0_readFrom 9 = .ok (.getfield 26, 3)) (by decide) fl_X0_26 ?_
    refine as_ic_ge X (tgt := 56) (by decide +kernel : decode cX0_readFrom 12 = .ok (.if_icmp .ge 44, 3)) (by decide) ?_ ?_
    · exact fun _ _ _ h => h
    · refine as_aload_n X (by decide +kernel : decode cX0_readFrom 15 = .ok (.aload_n 1, 1)) rfl ?_
      refine as_iload_n X (by decide +kernel : decode cX0_readFrom 16 = .ok (.iload_n 3, 1)) rfl ?_
      refine as_cv X h_X7_entryEnd rfl (by decide +kernel : decode cX0_readFrom 17 = .ok (.invokevirtual 31, 3)) dn_X7_entryEnd ml_X0_31 im_X7_entryEnd se_X7_entryEnd ini_X7 co_X7_entryEnd R_X7_entryEnd ?_
      refine as_istore X (by decide +kernel : decode cX0_readFrom 20 = .ok (.istore 4, 2)) ?_
      refine as_iload X (by decide +kernel : decode cX0_readFrom 22 = .ok (.iload 4, 2)) ?_
      refine as_iload_n X (by decide +kernel : decode cX0_readFrom 24 = .ok (.iload_n 3, 1)) rfl ?_
      refine as_ic_gt X (tgt := 31) (by decide +kernel : decode cX0_readFrom 25 = .ok (.if_icmp .gt 6, 3)) (by decide) ?_ ?_
      · refine as_aload_n X (by decide +kernel : decode cX0_readFrom 31 = .ok (.aload_n 0, 1)) rfl ?_
        refine as_aload_n X (by decide +kernel : decode cX0_readFrom 32 = .ok (.aload_n 1, 1)) rfl ?_
        refine as_iload_n X (by decide +kernel : decode cX0_readFrom 33 = .ok (.iload_n 3, 1)) rfl ?_
        refine as_iload X (by decide +kernel : decode cX0_readFrom 34 = .ok (.iload 4, 2)) ?_
        refine as_cv X h_X0_added rfl (by decide +kernel : decode cX0_readFrom 36 = .ok (.invokevirtual 35, 3)) dn_X0_added ml_X0_35 im_X0_added se_X0_added ini_X0 co_X0_added R_X0_added ?_
        refine as_if_ne X (tgt := 50) (by decide +kernel : decode cX0_readFrom 39 = .ok (.ifCond .ne 11, 3)) (by decide) ?_ ?_
        · refine as_aload_n X (by decide +kernel : decode cX0_readFrom 42 = .ok (.aload_n 0, 1)) rfl ?_
          refine as_iload_n X (by decide +kernel : decode cX0_readFrom 43 = .ok (.iload_n 2, 1)) rfl ?_
          refine as_puti X fc_X0 (by decide +kernel : decode cX0_readFrom 44 = .ok (.putfield 22, 3)) (by decide) fl_X0_22 (Or.inl rfl) rfl ?_
          refine as_bipush X (by decide +kernel : decode cX0_readFrom 47 = .ok (.bipush (-3), 2)) rfl ?_
          exact as_ri X hQ hr (by decide +kernel : decode cX0_readFrom 49 = .ok (.ireturn, 1))
        · refine as_iload X (by decide +kernel : decode cX0_readFrom 50 = .ok (.iload 4, 2)) ?_
          refine as_istore_n X (by decide +kernel : decode cX0_readFrom 52 = .ok (.istore_n 3, 1)) rfl ?_
          refine as_goto X (tgt := 7) (by decide +kernel : decode cX0_readFrom 53 = .ok (.goto (-46), 3)) (by decide) ?_
          exact fun _ _ _ h => h
      · refine as_goto X (tgt := 56) (by decide +kernel : decode cX0_readFrom 28 = .ok (.goto 28, 3)) (by decide) ?_
        exact fun _ _ _ h => h
  · unfold B_X0_readFrom_56
    refine as_aload_n X (by decide +kernel : decode cX0_readFrom 56 = .ok (.aload_n 0, 1)) rfl ?_
    refine as_get X fc_X0 (by decide +kernel : decode cX0_readFrom 57 = .ok (.getfield 22, 3)) (by decide) fl_X0_22 ?_
    refine as_iload_n X (by decide +kernel : decode cX0_readFrom 60 = .ok (.iload_n 2, 1)) rfl ?_
    refine as_isub X (by decide +kernel : decode cX0_readFrom 61 = .ok (.isub, 1)) ?_
    exact as_ri X hQ hr (by decide +kernel : decode cX0_readFrom 62 = .ok (.ireturn, 1))

def B_X0_added_0 (kX7_wordEnd : am_T) (kX7_packed : am_T) (kX7_at : am_T) (kX8_sortOf : am_T) (kX0_find : am_T) (Q : am_Q) (G : Nat → am_K) : am_K := (ak_al 1 (ak_il 2 (ak_cv 2 5 kX7_wordEnd (ak_is 4 (ak_al 1 (ak_il 2 (ak_il 4 (ak_cv 3 5 kX7_packed (ak_ls 5 (ak_al 1 (ak_il 4 (ak_cv 2 5 kX7_at (ak_c (.int 61) (ak_ic (fun x y => x = y) (ak_c (.int 1) (G 32)) (ak_c (.int 0) (G 32))))))))))))))))
def B_X0_added_32 (kX7_wordEnd : am_T) (kX7_packed : am_T) (kX7_at : am_T) (kX8_sortOf : am_T) (kX0_find : am_T) (Q : am_Q) (G : Nat → am_K) : am_K := (ak_is 7 (ak_il 7 (ak_if (fun x => x = 0) (ak_c (.long 0) (G 54)) (ak_al 1 (ak_il 4 (ak_c (.int 1) (ak_ib (fun x y => x + y) (ak_il 3 (ak_c (.int 1) (ak_ib (fun x y => x - y) (ak_cv 3 5 kX7_packed (G 54))))))))))))
def B_X0_added_54 (kX7_wordEnd : am_T) (kX7_packed : am_T) (kX7_at : am_T) (kX8_sortOf : am_T) (kX0_find : am_T) (Q : am_Q) (G : Nat → am_K) : am_K := (ak_ls 8 (ak_il 7 (ak_if (fun x => x = 0) (ak_al 1 (ak_il 4 (ak_c (.int 1) (ak_ib (fun x y => x + y) (ak_cv 2 5 kX7_at (ak_cs 1 kX8_sortOf (G 76))))))) (ak_c (.int 0) (G 76)))))
def B_X0_added_76 (kX7_wordEnd : am_T) (kX7_packed : am_T) (kX7_at : am_T) (kX8_sortOf : am_T) (kX0_find : am_T) (Q : am_Q) (G : Nat → am_K) : am_K := (ak_is 10 (ak_al 0 (ak_ll 5 (ak_ll 8 (ak_il 10 (ak_cv 4 0 kX0_find (ak_c (.int (-4)) (ak_ic (fun x y => x = y) (ak_al 0 (ak_get 0 3 (ak_c (.int 24) (ak_ic (fun x y => x < y) (ak_al 0 (ak_get 0 0 (ak_al 0 (ak_get 0 3 (ak_ll 5 (ak_last (ak_al 0 (ak_get 0 1 (ak_al 0 (ak_get 0 3 (ak_ll 8 (ak_last (ak_al 0 (ak_get 0 2 (ak_al 0 (ak_get 0 3 (ak_il 10 (ak_iast (ak_al 0 (ak_dup (ak_get 0 3 (ak_c (.int 1) (ak_ib (fun x y => x + y) (ak_puti 0 3 (ak_c (.int 1) (ak_rz Q)))))))))))))))))))))))))) (ak_c (.int 0) (ak_rz Q)))))) (ak_c (.int 1) (ak_rz Q))))))))))
def cl_X0_added (kX7_wordEnd : am_T) (kX7_packed : am_T) (kX7_at : am_T) (kX8_sortOf : am_T) (kX0_find : am_T) (Q : am_Q) (G : Nat → am_K) : Prop := am_N G 0 (B_X0_added_0 kX7_wordEnd kX7_packed kX7_at kX8_sortOf kX0_find Q G) ∧ am_N G 32 (B_X0_added_32 kX7_wordEnd kX7_packed kX7_at kX8_sortOf kX0_find Q G) ∧ am_N G 54 (B_X0_added_54 kX7_wordEnd kX7_packed kX7_at kX8_sortOf kX0_find Q G) ∧ am_N G 76 (B_X0_added_76 kX7_wordEnd kX7_packed kX7_at kX8_sortOf kX0_find Q G)
def WP_X0_added (kX7_wordEnd : am_T) (kX7_packed : am_T) (kX7_at : am_T) (kX8_sortOf : am_T) (kX0_find : am_T) : am_T := fun av h Q => (lg_sl av).length ≤ 11 ∧ ∀ G, cl_X0_added kX7_wordEnd kX7_packed kX7_at kX8_sortOf kX0_find Q G → G 0 (am_ent 11 av) [] h
set_option maxHeartbeats 4000000 in
set_option maxRecDepth 100000 in
theorem s_X0_added {mX7_wordEnd : Room} {kX7_wordEnd : am_T} (h_X7_wordEnd : am_S false yX7_wordEnd (am_ws yX7_wordEnd cX7_wordEnd 3 (some .int)) mX7_wordEnd kX7_wordEnd) {mX7_packed : Room} {kX7_packed : am_T} (h_X7_packed : am_S false yX7_packed (am_ws yX7_packed cX7_packed 6 (some .long)) mX7_packed kX7_packed) {mX7_at : Room} {kX7_at : am_T} (h_X7_at : am_S false yX7_at (am_ws yX7_at cX7_at 2 (some .int)) mX7_at kX7_at) {mX8_sortOf : Room} {kX8_sortOf : am_T} (h_X8_sortOf : am_S false yX8_sortOf (am_ws yX8_sortOf cX8_sortOf 2 (some .int)) mX8_sortOf kX8_sortOf) {mX0_find : Room} {kX0_find : am_T} (h_X0_find : am_S false yX0_find (am_ws yX0_find cX0_find 7 (some .int)) mX0_find kX0_find) {rm : Room} (hz : rm.cells = 0 ∧ rm.slots = 0) (R_X7_wordEnd : mX7_wordEnd.frames + 1 ≤ rm.frames ∧ 8 + (3 + 11) + mX7_wordEnd.locals ≤ rm.locals) (R_X7_packed : mX7_packed.frames + 1 ≤ rm.frames ∧ 8 + (6 + 11) + mX7_packed.locals ≤ rm.locals) (R_X7_at : mX7_at.frames + 1 ≤ rm.frames ∧ 8 + (2 + 11) + mX7_at.locals ≤ rm.locals) (R_X8_sortOf : mX8_sortOf.frames + 1 ≤ rm.frames ∧ 8 + (2 + 11) + mX8_sortOf.locals ≤ rm.locals) (R_X0_find : mX0_find.frames + 1 ≤ rm.frames ∧ 8 + (7 + 11) + mX0_find.locals ≤ rm.locals) : am_S false yX0_added (am_ws yX0_added cX0_added 11 (some .boolean)) rm (WP_X0_added kX7_wordEnd kX7_packed kX7_at kX8_sortOf kX0_find) := by
  refine am_S.of (fun _ => hz) (by decide +kernel) (fun h0 Q G => cl_X0_added kX7_wordEnd kX7_packed kX7_at kX8_sortOf kX0_find Q G) ?_
  intro p l e s m args below meth c D h0 Q X hr hnm hQ
  refine ⟨?_, ?_, ?_, ?_⟩
  · unfold B_X0_added_0
    refine as_aload_n X (by decide +kernel : decode cX0_added 0 = .ok (.aload_n 1, 1)) rfl ?_
    refine as_iload_n X (by decide +kernel : decode cX0_added 1 = .ok (.iload_n 2, 1)) rfl ?_
    refine as_cv X h_X7_wordEnd rfl (by decide +kernel : decode cX0_added 2 = .ok (.invokevirtual 39, 3)) dn_X7_wordEnd ml_X0_39 im_X7_wordEnd se_X7_wordEnd ini_X7 co_X7_wordEnd R_X7_wordEnd ?_
    refine as_istore X (by decide +kernel : decode cX0_added 5 = .ok (.istore 4, 2)) ?_
    refine as_aload_n X (by decide +kernel : decode cX0_added 7 = .ok (.aload_n 1, 1)) rfl ?_
    refine as_iload_n X (by decide +kernel : decode cX0_added 8 = .ok (.iload_n 2, 1)) rfl ?_
    refine as_iload X (by decide +kernel : decode cX0_added 9 = .ok (.iload 4, 2)) ?_
    refine as_cv X h_X7_packed rfl (by decide +kernel : decode cX0_added 11 = .ok (.invokevirtual 42, 3)) dn_X7_packed ml_X0_42 im_X7_packed se_X7_packed ini_X7 co_X7_packed R_X7_packed ?_
    refine as_lstore X (by decide +kernel : decode cX0_added 14 = .ok (.lstore 5, 2)) ?_
    refine as_aload_n X (by decide +kernel : decode cX0_added 16 = .ok (.aload_n 1, 1)) rfl ?_
    refine as_iload X (by decide +kernel : decode cX0_added 17 = .ok (.iload 4, 2)) ?_
    refine as_cv X h_X7_at rfl (by decide +kernel : decode cX0_added 19 = .ok (.invokevirtual 46, 3)) dn_X7_at ml_X0_46 im_X7_at se_X7_at ini_X7 co_X7_at R_X7_at ?_
    refine as_bipush X (by decide +kernel : decode cX0_added 22 = .ok (.bipush 61, 2)) rfl ?_
    refine as_ic_ne X (tgt := 31) (by decide +kernel : decode cX0_added 24 = .ok (.if_icmp .ne 7, 3)) (by decide) ?_ ?_
    · refine as_iconst X (by decide +kernel : decode cX0_added 27 = .ok (.iconst 1, 1)) rfl ?_
      refine as_goto X (tgt := 32) (by decide +kernel : decode cX0_added 28 = .ok (.goto 4, 3)) (by decide) ?_
      exact fun _ _ _ h => h
    · refine as_iconst X (by decide +kernel : decode cX0_added 31 = .ok (.iconst 0, 1)) rfl ?_
      exact fun _ _ _ h => h
  · unfold B_X0_added_32
    refine as_istore X (by decide +kernel : decode cX0_added 32 = .ok (.istore 7, 2)) ?_
    refine as_iload X (by decide +kernel : decode cX0_added 34 = .ok (.iload 7, 2)) ?_
    refine as_if_eq X (tgt := 53) (by decide +kernel : decode cX0_added 36 = .ok (.ifCond .eq 17, 3)) (by decide) ?_ ?_
    · refine as_lconst X (by decide +kernel : decode cX0_added 53 = .ok (.lconst 0, 1)) rfl ?_
      exact fun _ _ _ h => h
    · refine as_aload_n X (by decide +kernel : decode cX0_added 39 = .ok (.aload_n 1, 1)) rfl ?_
      refine as_iload X (by decide +kernel : decode cX0_added 40 = .ok (.iload 4, 2)) ?_
      refine as_iconst X (by decide +kernel : decode cX0_added 42 = .ok (.iconst 1, 1)) rfl ?_
      refine as_iadd X (by decide +kernel : decode cX0_added 43 = .ok (.iadd, 1)) ?_
      refine as_iload_n X (by decide +kernel : decode cX0_added 44 = .ok (.iload_n 3, 1)) rfl ?_
      refine as_iconst X (by decide +kernel : decode cX0_added 45 = .ok (.iconst 1, 1)) rfl ?_
      refine as_isub X (by decide +kernel : decode cX0_added 46 = .ok (.isub, 1)) ?_
      refine as_cv X h_X7_packed rfl (by decide +kernel : decode cX0_added 47 = .ok (.invokevirtual 42, 3)) dn_X7_packed ml_X0_42 im_X7_packed se_X7_packed ini_X7 co_X7_packed R_X7_packed ?_
      refine as_goto X (tgt := 54) (by decide +kernel : decode cX0_added 50 = .ok (.goto 4, 3)) (by decide) ?_
      exact fun _ _ _ h => h
  · unfold B_X0_added_54
    refine as_lstore X (by decide +kernel : decode cX0_added 54 = .ok (.lstore 8, 2)) ?_
    refine as_iload X (by decide +kernel : decode cX0_added 56 = .ok (.iload 7, 2)) ?_
    refine as_if_eq X (tgt := 65) (by decide +kernel : decode cX0_added 58 = .ok (.ifCond .eq 7, 3)) (by decide) ?_ ?_
    · refine as_aload_n X (by decide +kernel : decode cX0_added 65 = .ok (.aload_n 1, 1)) rfl ?_
      refine as_iload X (by decide +kernel : decode cX0_added 66 = .ok (.iload 4, 2)) ?_
      refine as_iconst X (by decide +kernel : decode cX0_added 68 = .ok (.iconst 1, 1)) rfl ?_
      refine as_iadd X (by decide +kernel : decode cX0_added 69 = .ok (.iadd, 1)) ?_
      refine as_cv X h_X7_at rfl (by decide +kernel : decode cX0_added 70 = .ok (.invokevirtual 46, 3)) dn_X7_at ml_X0_46 im_X7_at se_X7_at ini_X7 co_X7_at R_X7_at ?_
      refine as_csN X (host := "ClueParts") h_X8_sortOf (by decide +kernel : decode cX0_added 73 = .ok (.invokestatic 49, 3)) dn_X8_sortOf (by decide +kernel) st_X8_sortOf ini_X8 co_X8_sortOf R_X8_sortOf ?_
      exact fun _ _ _ h => h
    · refine as_iconst X (by decide +kernel : decode cX0_added 61 = .ok (.iconst 0, 1)) rfl ?_
      refine as_goto X (tgt := 76) (by decide +kernel : decode cX0_added 62 = .ok (.goto 14, 3)) (by decide) ?_
      exact fun _ _ _ h => h
  · unfold B_X0_added_76
    refine as_istore X (by decide +kernel : decode cX0_added 76 = .ok (.istore 10, 2)) ?_
    refine as_aload_n X (by decide +kernel : decode cX0_added 78 = .ok (.aload_n 0, 1)) rfl ?_
    refine as_lload X (by decide +kernel : decode cX0_added 79 = .ok (.lload 5, 2)) ?_
    refine as_lload X (by decide +kernel : decode cX0_added 81 = .ok (.lload 8, 2)) ?_
    refine as_iload X (by decide +kernel : decode cX0_added 83 = .ok (.iload 10, 2)) ?_
    refine as_cv X h_X0_find rfl (by decide +kernel : decode cX0_added 85 = .ok (.invokevirtual 52, 3)) dn_X0_find ml_X0_52 im_X0_find se_X0_find ini_X0 co_X0_find R_X0_find ?_
    refine as_bipush X (by decide +kernel : decode cX0_added 88 = .ok (.bipush (-4), 2)) rfl ?_
    refine as_ic_eq X (tgt := 95) (by decide +kernel : decode cX0_added 90 = .ok (.if_icmp .eq 5, 3)) (by decide) ?_ ?_
    · refine as_aload_n X (by decide +kernel : decode cX0_added 95 = .ok (.aload_n 0, 1)) rfl ?_
      refine as_get X fc_X0 (by decide +kernel : decode cX0_added 96 = .ok (.getfield 22, 3)) (by decide) fl_X0_22 ?_
      refine as_bipush X (by decide +kernel : decode cX0_added 99 = .ok (.bipush 24, 2)) rfl ?_
      refine as_ic_lt X (tgt := 106) (by decide +kernel : decode cX0_added 101 = .ok (.if_icmp .lt 5, 3)) (by decide) ?_ ?_
      · refine as_aload_n X (by decide +kernel : decode cX0_added 106 = .ok (.aload_n 0, 1)) rfl ?_
        refine as_get X fc_X0 (by decide +kernel : decode cX0_added 107 = .ok (.getfield 9, 3)) (by decide) fl_X0_9 ?_
        refine as_aload_n X (by decide +kernel : decode cX0_added 110 = .ok (.aload_n 0, 1)) rfl ?_
        refine as_get X fc_X0 (by decide +kernel : decode cX0_added 111 = .ok (.getfield 22, 3)) (by decide) fl_X0_22 ?_
        refine as_lload X (by decide +kernel : decode cX0_added 114 = .ok (.lload 5, 2)) ?_
        refine as_lastore X (by decide +kernel : decode cX0_added 116 = .ok (.lastore, 1)) ?_
        refine as_aload_n X (by decide +kernel : decode cX0_added 117 = .ok (.aload_n 0, 1)) rfl ?_
        refine as_get X fc_X0 (by decide +kernel : decode cX0_added 118 = .ok (.getfield 15, 3)) (by decide) fl_X0_15 ?_
        refine as_aload_n X (by decide +kernel : decode cX0_added 121 = .ok (.aload_n 0, 1)) rfl ?_
        refine as_get X fc_X0 (by decide +kernel : decode cX0_added 122 = .ok (.getfield 22, 3)) (by decide) fl_X0_22 ?_
        refine as_lload X (by decide +kernel : decode cX0_added 125 = .ok (.lload 8, 2)) ?_
        refine as_lastore X (by decide +kernel : decode cX0_added 127 = .ok (.lastore, 1)) ?_
        refine as_aload_n X (by decide +kernel : decode cX0_added 128 = .ok (.aload_n 0, 1)) rfl ?_
        refine as_get X fc_X0 (by decide +kernel : decode cX0_added 129 = .ok (.getfield 18, 3)) (by decide) fl_X0_18 ?_
        refine as_aload_n X (by decide +kernel : decode cX0_added 132 = .ok (.aload_n 0, 1)) rfl ?_
        refine as_get X fc_X0 (by decide +kernel : decode cX0_added 133 = .ok (.getfield 22, 3)) (by decide) fl_X0_22 ?_
        refine as_iload X (by decide +kernel : decode cX0_added 136 = .ok (.iload 10, 2)) ?_
        refine as_iastore X (by decide +kernel : decode cX0_added 138 = .ok (.iastore, 1)) ?_
        refine as_aload_n X (by decide +kernel : decode cX0_added 139 = .ok (.aload_n 0, 1)) rfl ?_
        refine as_dup X (by decide +kernel : decode cX0_added 140 = .ok (.dup, 1)) ?_
        refine as_get X fc_X0 (by decide +kernel : decode cX0_added 141 = .ok (.getfield 22, 3)) (by decide) fl_X0_22 ?_
        refine as_iconst X (by decide +kernel : decode cX0_added 144 = .ok (.iconst 1, 1)) rfl ?_
        refine as_iadd X (by decide +kernel : decode cX0_added 145 = .ok (.iadd, 1)) ?_
        refine as_puti X fc_X0 (by decide +kernel : decode cX0_added 146 = .ok (.putfield 22, 3)) (by decide) fl_X0_22 (Or.inl rfl) rfl ?_
        refine as_iconst X (by decide +kernel : decode cX0_added 149 = .ok (.iconst 1, 1)) rfl ?_
        exact as_rz X hQ hr (by decide +kernel : decode cX0_added 150 = .ok (.ireturn, 1))
      · refine as_iconst X (by decide +kernel : decode cX0_added 104 = .ok (.iconst 0, 1)) rfl ?_
        exact as_rz X hQ hr (by decide +kernel : decode cX0_added 105 = .ok (.ireturn, 1))
    · refine as_iconst X (by decide +kernel : decode cX0_added 93 = .ok (.iconst 1, 1)) rfl ?_
      exact as_rz X hQ hr (by decide +kernel : decode cX0_added 94 = .ok (.ireturn, 1))

def B_X0_find_0 (Q : am_Q) (G : Nat → am_K) : am_K := (ak_c (.int 0) (ak_is 6 (G 3)))
def B_X0_find_3 (Q : am_Q) (G : Nat → am_K) : am_K := (ak_il 6 (ak_al 0 (ak_get 0 3 (ak_ic (fun x y => y ≤ x) (ak_c (.int (-4)) (ak_ri Q)) (ak_al 0 (ak_get 0 0 (ak_il 6 (ak_lald (ak_ll 1 (ak_lc (ak_if (fun x => x = 0) (ak_al 0 (ak_get 0 1 (ak_il 6 (ak_lald (ak_ll 3 (ak_lc (ak_if (fun x => x = 0) (ak_al 0 (ak_get 0 2 (ak_il 6 (ak_iald (ak_il 5 (ak_ic (fun x y => x = y) (ak_il 6 (ak_ri Q)) (G 51))))))) (G 51)))))))) (G 51))))))))))))
def B_X0_find_51 (Q : am_Q) (G : Nat → am_K) : am_K := (ak_ii 6 1 (G 3))
def cl_X0_find (Q : am_Q) (G : Nat → am_K) : Prop := am_N G 0 (B_X0_find_0 Q G) ∧ am_N G 3 (B_X0_find_3 Q G) ∧ am_N G 51 (B_X0_find_51 Q G)
def WP_X0_find : am_T := fun av h Q => (lg_sl av).length ≤ 7 ∧ ∀ G, cl_X0_find Q G → G 0 (am_ent 7 av) [] h
set_option maxHeartbeats 4000000 in
set_option maxRecDepth 100000 in
theorem s_X0_find {rm : Room} (hz : rm.cells = 0 ∧ rm.slots = 0) : am_S false yX0_find (am_ws yX0_find cX0_find 7 (some .int)) rm (WP_X0_find) := by
  refine am_S.of (fun _ => hz) (by decide +kernel) (fun h0 Q G => cl_X0_find Q G) ?_
  intro p l e s m args below meth c D h0 Q X hr hnm hQ
  refine ⟨?_, ?_, ?_⟩
  · unfold B_X0_find_0
    refine as_iconst X (by decide +kernel : decode cX0_find 0 = .ok (.iconst 0, 1)) rfl ?_
    refine as_istore X (by decide +kernel : decode cX0_find 1 = .ok (.istore 6, 2)) ?_
    exact fun _ _ _ h => h
  · unfold B_X0_find_3
    refine as_iload X (by decide +kernel : decode cX0_find 3 = .ok (.iload 6, 2)) ?_
    refine as_aload_n X (by decide +kernel : decode cX0_find 5 = .ok (.aload_n 0, 1)) rfl ?_
    refine as_get X fc_X0 (by decide +kernel : decode cX0_find 6 = .ok (.getfield 22, 3)) (by decide) fl_X0_22 ?_
    refine as_ic_ge X (tgt := 57) (by decide +kernel : decode cX0_find 9 = .ok (.if_icmp .ge 48, 3)) (by decide) ?_ ?_
    · refine as_bipush X (by decide +kernel : decode cX0_find 57 = .ok (.bipush (-4), 2)) rfl ?_
      exact as_ri X hQ hr (by decide +kernel : decode cX0_find 59 = .ok (.ireturn, 1))
    · refine as_aload_n X (by decide +kernel : decode cX0_find 12 = .ok (.aload_n 0, 1)) rfl ?_
      refine as_get X fc_X0 (by decide +kernel : decode cX0_find 13 = .ok (.getfield 9, 3)) (by decide) fl_X0_9 ?_
      refine as_iload X (by decide +kernel : decode cX0_find 16 = .ok (.iload 6, 2)) ?_
      refine as_laload X (by decide +kernel : decode cX0_find 18 = .ok (.laload, 1)) ?_
      refine as_lload_n X (by decide +kernel : decode cX0_find 19 = .ok (.lload_n 1, 1)) rfl ?_
      refine as_lcmp X (by decide +kernel : decode cX0_find 20 = .ok (.lcmp, 1)) ?_
      refine as_if_ne X (tgt := 51) (by decide +kernel : decode cX0_find 21 = .ok (.ifCond .ne 30, 3)) (by decide) ?_ ?_
      · refine as_aload_n X (by decide +kernel : decode cX0_find 24 = .ok (.aload_n 0, 1)) rfl ?_
        refine as_get X fc_X0 (by decide +kernel : decode cX0_find 25 = .ok (.getfield 15, 3)) (by decide) fl_X0_15 ?_
        refine as_iload X (by decide +kernel : decode cX0_find 28 = .ok (.iload 6, 2)) ?_
        refine as_laload X (by decide +kernel : decode cX0_find 30 = .ok (.laload, 1)) ?_
        refine as_lload_n X (by decide +kernel : decode cX0_find 31 = .ok (.lload_n 3, 1)) rfl ?_
        refine as_lcmp X (by decide +kernel : decode cX0_find 32 = .ok (.lcmp, 1)) ?_
        refine as_if_ne X (tgt := 51) (by decide +kernel : decode cX0_find 33 = .ok (.ifCond .ne 18, 3)) (by decide) ?_ ?_
        · refine as_aload_n X (by decide +kernel : decode cX0_find 36 = .ok (.aload_n 0, 1)) rfl ?_
          refine as_get X fc_X0 (by decide +kernel : decode cX0_find 37 = .ok (.getfield 18, 3)) (by decide) fl_X0_18 ?_
          refine as_iload X (by decide +kernel : decode cX0_find 40 = .ok (.iload 6, 2)) ?_
          refine as_iaload X (by decide +kernel : decode cX0_find 42 = .ok (.iaload, 1)) ?_
          refine as_iload X (by decide +kernel : decode cX0_find 43 = .ok (.iload 5, 2)) ?_
          refine as_ic_ne X (tgt := 51) (by decide +kernel : decode cX0_find 45 = .ok (.if_icmp .ne 6, 3)) (by decide) ?_ ?_
          · refine as_iload X (by decide +kernel : decode cX0_find 48 = .ok (.iload 6, 2)) ?_
            exact as_ri X hQ hr (by decide +kernel : decode cX0_find 50 = .ok (.ireturn, 1))
          · exact fun _ _ _ h => h
        · exact fun _ _ _ h => h
      · exact fun _ _ _ h => h
  · unfold B_X0_find_51
    refine as_iinc X (by decide +kernel : decode cX0_find 51 = .ok (.iinc 6 1, 3)) rfl ?_
    refine as_goto X (tgt := 3) (by decide +kernel : decode cX0_find 54 = .ok (.goto (-51), 3)) (by decide) ?_
    exact fun _ _ _ h => h

def B_X0_remove_0 (kX0_has : am_T) (Q : am_Q) (G : Nat → am_K) : am_K := (ak_al 0 (ak_il 1 (ak_cv 2 0 kX0_has (ak_if (fun x => x = 0) (ak_rv Q) (ak_il 1 (ak_c (.int 1) (ak_ib (fun x y => x + y) (ak_is 2 (G 13)))))))))
def B_X0_remove_13 (kX0_has : am_T) (Q : am_Q) (G : Nat → am_K) : am_K := (ak_il 2 (ak_al 0 (ak_get 0 3 (ak_ic (fun x y => y ≤ x) (ak_al 0 (ak_dup (ak_get 0 3 (ak_c (.int 1) (ak_ib (fun x y => x - y) (ak_puti 0 3 (ak_rv Q))))))) (ak_al 0 (ak_get 0 0 (ak_il 2 (ak_c (.int 1) (ak_ib (fun x y => x - y) (ak_al 0 (ak_get 0 0 (ak_il 2 (ak_lald (ak_last (ak_al 0 (ak_get 0 1 (ak_il 2 (ak_c (.int 1) (ak_ib (fun x y => x - y) (ak_al 0 (ak_get 0 1 (ak_il 2 (ak_lald (ak_last (ak_al 0 (ak_get 0 2 (ak_il 2 (ak_c (.int 1) (ak_ib (fun x y => x - y) (ak_al 0 (ak_get 0 2 (ak_il 2 (ak_iald (ak_iast (ak_ii 2 1 (G 13))))))))))))))))))))))))))))))))))))
def cl_X0_remove (kX0_has : am_T) (Q : am_Q) (G : Nat → am_K) : Prop := am_N G 0 (B_X0_remove_0 kX0_has Q G) ∧ am_N G 13 (B_X0_remove_13 kX0_has Q G)
def WP_X0_remove (kX0_has : am_T) : am_T := fun av h Q => (lg_sl av).length ≤ 3 ∧ ∀ G, cl_X0_remove kX0_has Q G → G 0 (am_ent 3 av) [] h
set_option maxHeartbeats 4000000 in
set_option maxRecDepth 100000 in
theorem s_X0_remove {mX0_has : Room} {kX0_has : am_T} (h_X0_has : am_S false yX0_has (am_ws yX0_has cX0_has 2 (some .boolean)) mX0_has kX0_has) {rm : Room} (hz : rm.cells = 0 ∧ rm.slots = 0) (R_X0_has : mX0_has.frames + 1 ≤ rm.frames ∧ 8 + (2 + 11) + mX0_has.locals ≤ rm.locals) : am_S false yX0_remove (am_ws yX0_remove cX0_remove 3 none) rm (WP_X0_remove kX0_has) := by
  refine am_S.of (fun _ => hz) (by decide +kernel) (fun h0 Q G => cl_X0_remove kX0_has Q G) ?_
  intro p l e s m args below meth c D h0 Q X hr hnm hQ
  refine ⟨?_, ?_⟩
  · unfold B_X0_remove_0
    refine as_aload_n X (by decide +kernel : decode cX0_remove 0 = .ok (.aload_n 0, 1)) rfl ?_
    refine as_iload_n X (by decide +kernel : decode cX0_remove 1 = .ok (.iload_n 1, 1)) rfl ?_
    refine as_cv X h_X0_has rfl (by decide +kernel : decode cX0_remove 2 = .ok (.invokevirtual 56, 3)) dn_X0_has ml_X0_56 im_X0_has se_X0_has ini_X0 co_X0_has R_X0_has ?_
    refine as_if_ne X (tgt := 9) (by decide +kernel : decode cX0_remove 5 = .ok (.ifCond .ne 4, 3)) (by decide) ?_ ?_
    · exact as_rv X hQ hr (by decide +kernel : decode cX0_remove 8 = .ok (.return_, 1))
    · refine as_iload_n X (by decide +kernel : decode cX0_remove 9 = .ok (.iload_n 1, 1)) rfl ?_
      refine as_iconst X (by decide +kernel : decode cX0_remove 10 = .ok (.iconst 1, 1)) rfl ?_
      refine as_iadd X (by decide +kernel : decode cX0_remove 11 = .ok (.iadd, 1)) ?_
      refine as_istore_n X (by decide +kernel : decode cX0_remove 12 = .ok (.istore_n 2, 1)) rfl ?_
      exact fun _ _ _ h => h
  · unfold B_X0_remove_13
    refine as_iload_n X (by decide +kernel : decode cX0_remove 13 = .ok (.iload_n 2, 1)) rfl ?_
    refine as_aload_n X (by decide +kernel : decode cX0_remove 14 = .ok (.aload_n 0, 1)) rfl ?_
    refine as_get X fc_X0 (by decide +kernel : decode cX0_remove 15 = .ok (.getfield 22, 3)) (by decide) fl_X0_22 ?_
    refine as_ic_ge X (tgt := 69) (by decide +kernel : decode cX0_remove 18 = .ok (.if_icmp .ge 51, 3)) (by decide) ?_ ?_
    · refine as_aload_n X (by decide +kernel : decode cX0_remove 69 = .ok (.aload_n 0, 1)) rfl ?_
      refine as_dup X (by decide +kernel : decode cX0_remove 70 = .ok (.dup, 1)) ?_
      refine as_get X fc_X0 (by decide +kernel : decode cX0_remove 71 = .ok (.getfield 22, 3)) (by decide) fl_X0_22 ?_
      refine as_iconst X (by decide +kernel : decode cX0_remove 74 = .ok (.iconst 1, 1)) rfl ?_
      refine as_isub X (by decide +kernel : decode cX0_remove 75 = .ok (.isub, 1)) ?_
      refine as_puti X fc_X0 (by decide +kernel : decode cX0_remove 76 = .ok (.putfield 22, 3)) (by decide) fl_X0_22 (Or.inl rfl) rfl ?_
      exact as_rv X hQ hr (by decide +kernel : decode cX0_remove 79 = .ok (.return_, 1))
    · refine as_aload_n X (by decide +kernel : decode cX0_remove 21 = .ok (.aload_n 0, 1)) rfl ?_
      refine as_get X fc_X0 (by decide +kernel : decode cX0_remove 22 = .ok (.getfield 9, 3)) (by decide) fl_X0_9 ?_
      refine as_iload_n X (by decide +kernel : decode cX0_remove 25 = .ok (.iload_n 2, 1)) rfl ?_
      refine as_iconst X (by decide +kernel : decode cX0_remove 26 = .ok (.iconst 1, 1)) rfl ?_
      refine as_isub X (by decide +kernel : decode cX0_remove 27 = .ok (.isub, 1)) ?_
      refine as_aload_n X (by decide +kernel : decode cX0_remove 28 = .ok (.aload_n 0, 1)) rfl ?_
      refine as_get X fc_X0 (by decide +kernel : decode cX0_remove 29 = .ok (.getfield 9, 3)) (by decide) fl_X0_9 ?_
      refine as_iload_n X (by decide +kernel : decode cX0_remove 32 = .ok (.iload_n 2, 1)) rfl ?_
      refine as_laload X (by decide +kernel : decode cX0_remove 33 = .ok (.laload, 1)) ?_
      refine as_lastore X (by decide +kernel : decode cX0_remove 34 = .ok (.lastore, 1)) ?_
      refine as_aload_n X (by decide +kernel : decode cX0_remove 35 = .ok (.aload_n 0, 1)) rfl ?_
      refine as_get X fc_X0 (by decide +kernel : decode cX0_remove 36 = .ok (.getfield 15, 3)) (by decide) fl_X0_15 ?_
      refine as_iload_n X (by decide +kernel : decode cX0_remove 39 = .ok (.iload_n 2, 1)) rfl ?_
      refine as_iconst X (by decide +kernel : decode cX0_remove 40 = .ok (.iconst 1, 1)) rfl ?_
      refine as_isub X (by decide +kernel : decode cX0_remove 41 = .ok (.isub, 1)) ?_
      refine as_aload_n X (by decide +kernel : decode cX0_remove 42 = .ok (.aload_n 0, 1)) rfl ?_
      refine as_get X fc_X0 (by decide +kernel : decode cX0_remove 43 = .ok (.getfield 15, 3)) (by decide) fl_X0_15 ?_
      refine as_iload_n X (by decide +kernel : decode cX0_remove 46 = .ok (.iload_n 2, 1)) rfl ?_
      refine as_laload X (by decide +kernel : decode cX0_remove 47 = .ok (.laload, 1)) ?_
      refine as_lastore X (by decide +kernel : decode cX0_remove 48 = .ok (.lastore, 1)) ?_
      refine as_aload_n X (by decide +kernel : decode cX0_remove 49 = .ok (.aload_n 0, 1)) rfl ?_
      refine as_get X fc_X0 (by decide +kernel : decode cX0_remove 50 = .ok (.getfield 18, 3)) (by decide) fl_X0_18 ?_
      refine as_iload_n X (by decide +kernel : decode cX0_remove 53 = .ok (.iload_n 2, 1)) rfl ?_
      refine as_iconst X (by decide +kernel : decode cX0_remove 54 = .ok (.iconst 1, 1)) rfl ?_
      refine as_isub X (by decide +kernel : decode cX0_remove 55 = .ok (.isub, 1)) ?_
      refine as_aload_n X (by decide +kernel : decode cX0_remove 56 = .ok (.aload_n 0, 1)) rfl ?_
      refine as_get X fc_X0 (by decide +kernel : decode cX0_remove 57 = .ok (.getfield 18, 3)) (by decide) fl_X0_18 ?_
      refine as_iload_n X (by decide +kernel : decode cX0_remove 60 = .ok (.iload_n 2, 1)) rfl ?_
      refine as_iaload X (by decide +kernel : decode cX0_remove 61 = .ok (.iaload, 1)) ?_
      refine as_iastore X (by decide +kernel : decode cX0_remove 62 = .ok (.iastore, 1)) ?_
      refine as_iinc X (by decide +kernel : decode cX0_remove 63 = .ok (.iinc 2 1, 3)) rfl ?_
      refine as_goto X (tgt := 13) (by decide +kernel : decode cX0_remove 66 = .ok (.goto (-53), 3)) (by decide) ?_
      exact fun _ _ _ h => h

def B_X0_stands_0 (Q : am_Q) (G : Nat → am_K) : am_K := (ak_c (.int 0) (ak_is 1 (ak_c (.int 0) (ak_is 2 (G 4)))))
def B_X0_stands_4 (Q : am_Q) (G : Nat → am_K) : am_K := (ak_il 2 (ak_al 0 (ak_get 0 3 (ak_ic (fun x y => y ≤ x) (ak_il 1 (ak_ri Q)) (ak_al 0 (ak_get 0 2 (ak_il 2 (ak_iald (ak_if (fun x => x = 0) (ak_ii 1 1 (G 24)) (G 24))))))))))
def B_X0_stands_24 (Q : am_Q) (G : Nat → am_K) : am_K := (ak_ii 2 1 (G 4))
def cl_X0_stands (Q : am_Q) (G : Nat → am_K) : Prop := am_N G 0 (B_X0_stands_0 Q G) ∧ am_N G 4 (B_X0_stands_4 Q G) ∧ am_N G 24 (B_X0_stands_24 Q G)
def WP_X0_stands : am_T := fun av h Q => (lg_sl av).length ≤ 3 ∧ ∀ G, cl_X0_stands Q G → G 0 (am_ent 3 av) [] h
set_option maxHeartbeats 4000000 in
set_option maxRecDepth 100000 in
theorem s_X0_stands {rm : Room} (hz : rm.cells = 0 ∧ rm.slots = 0) : am_S false yX0_stands (am_ws yX0_stands cX0_stands 3 (some .int)) rm (WP_X0_stands) := by
  refine am_S.of (fun _ => hz) (by decide +kernel) (fun h0 Q G => cl_X0_stands Q G) ?_
  intro p l e s m args below meth c D h0 Q X hr hnm hQ
  refine ⟨?_, ?_, ?_⟩
  · unfold B_X0_stands_0
    refine as_iconst X (by decide +kernel : decode cX0_stands 0 = .ok (.iconst 0, 1)) rfl ?_
    refine as_istore_n X (by decide +kernel : decode cX0_stands 1 = .ok (.istore_n 1, 1)) rfl ?_
    refine as_iconst X (by decide +kernel : decode cX0_stands 2 = .ok (.iconst 0, 1)) rfl ?_
    refine as_istore_n X (by decide +kernel : decode cX0_stands 3 = .ok (.istore_n 2, 1)) rfl ?_
    exact fun _ _ _ h => h
  · unfold B_X0_stands_4
    refine as_iload_n X (by decide +kernel : decode cX0_stands 4 = .ok (.iload_n 2, 1)) rfl ?_
    refine as_aload_n X (by decide +kernel : decode cX0_stands 5 = .ok (.aload_n 0, 1)) rfl ?_
    refine as_get X fc_X0 (by decide +kernel : decode cX0_stands 6 = .ok (.getfield 22, 3)) (by decide) fl_X0_22 ?_
    refine as_ic_ge X (tgt := 30) (by decide +kernel : decode cX0_stands 9 = .ok (.if_icmp .ge 21, 3)) (by decide) ?_ ?_
    · refine as_iload_n X (by decide +kernel : decode cX0_stands 30 = .ok (.iload_n 1, 1)) rfl ?_
      exact as_ri X hQ hr (by decide +kernel : decode cX0_stands 31 = .ok (.ireturn, 1))
    · refine as_aload_n X (by decide +kernel : decode cX0_stands 12 = .ok (.aload_n 0, 1)) rfl ?_
      refine as_get X fc_X0 (by decide +kernel : decode cX0_stands 13 = .ok (.getfield 18, 3)) (by decide) fl_X0_18 ?_
      refine as_iload_n X (by decide +kernel : decode cX0_stands 16 = .ok (.iload_n 2, 1)) rfl ?_
      refine as_iaload X (by decide +kernel : decode cX0_stands 17 = .ok (.iaload, 1)) ?_
      refine as_if_ne X (tgt := 24) (by decide +kernel : decode cX0_stands 18 = .ok (.ifCond .ne 6, 3)) (by decide) ?_ ?_
      · refine as_iinc X (by decide +kernel : decode cX0_stands 21 = .ok (.iinc 1 1, 3)) rfl ?_
        exact fun _ _ _ h => h
      · exact fun _ _ _ h => h
  · unfold B_X0_stands_24
    refine as_iinc X (by decide +kernel : decode cX0_stands 24 = .ok (.iinc 2 1, 3)) rfl ?_
    refine as_goto X (tgt := 4) (by decide +kernel : decode cX0_stands 27 = .ok (.goto (-23), 3)) (by decide) ?_
    exact fun _ _ _ h => h

def B_X1_init_0 (h0 : am_H) (rc rs : Nat) (Q : am_Q) (G : Nat → am_K) : am_K := (ak_al 0 (ak_oi (ak_al 0 (ak_c (.int 6) (ak_newl h0 rc rs (ak_puta 1 0 (ak_al 0 (ak_c (.int 7) (ak_newi h0 rc rs (ak_puta 1 1 (ak_al 0 (ak_c (.int 42) (ak_newi h0 rc rs (ak_puta 1 2 (ak_rv Q)))))))))))))))
def cl_X1_init (h0 : am_H) (rc rs : Nat) (Q : am_Q) (G : Nat → am_K) : Prop := am_N G 0 (B_X1_init_0 h0 rc rs Q G)
def WP_X1_init (rc rs : Nat) : am_T := fun av h Q => (lg_sl av).length ≤ 1 ∧ ∀ G, cl_X1_init h rc rs Q G → G 0 (am_ent 1 av) [] h
set_option maxHeartbeats 4000000 in
set_option maxRecDepth 100000 in
theorem s_X1_init {rm : Room} (hO : 1 ≤ rm.frames ∧ 20 ≤ rm.locals) : am_S true yX1_init (am_ws yX1_init cX1_init 1 none) rm (WP_X1_init rm.cells rm.slots) := by
  refine am_S.of (fun q => by cases q) (by decide +kernel) (fun h0 Q G => cl_X1_init h0 rm.cells rm.slots Q G) ?_
  intro p l e s m args below meth c D h0 Q X hr hnm hQ
  show am_N _ 0 (B_X1_init_0  h0 rm.cells rm.slots Q _)
  · unfold B_X1_init_0
    refine as_aload_n X (by decide +kernel : decode cX1_init 0 = .ok (.aload_n 0, 1)) rfl ?_
    refine as_oi X (by decide +kernel : decode cX1_init 1 = .ok (.invokespecial 3, 3)) ml_X1_3 im_objectInit co_objectInit hO.1 hO.2 ?_
    refine as_aload_n X (by decide +kernel : decode cX1_init 4 = .ok (.aload_n 0, 1)) rfl ?_
    refine as_bipush X (by decide +kernel : decode cX1_init 5 = .ok (.bipush 6, 2)) rfl ?_
    refine as_newl X (by decide +kernel : decode cX1_init 7 = .ok (.newarray .long, 2)) ac_long ?_
    refine as_puta X fc_X1 (by decide +kernel : decode cX1_init 9 = .ok (.putfield 9, 3)) (by decide) fl_X1_9 (Or.inr ⟨rfl, hnm, rfl⟩) (Or.inl ⟨_, rfl⟩) ?_
    refine as_aload_n X (by decide +kernel : decode cX1_init 12 = .ok (.aload_n 0, 1)) rfl ?_
    refine as_bipush X (by decide +kernel : decode cX1_init 13 = .ok (.bipush 7, 2)) rfl ?_
    refine as_newi X (by decide +kernel : decode cX1_init 15 = .ok (.newarray .int, 2)) ac_int ?_
    refine as_puta X fc_X1 (by decide +kernel : decode cX1_init 17 = .ok (.putfield 15, 3)) (by decide) fl_X1_15 (Or.inr ⟨rfl, hnm, rfl⟩) (Or.inl ⟨_, rfl⟩) ?_
    refine as_aload_n X (by decide +kernel : decode cX1_init 20 = .ok (.aload_n 0, 1)) rfl ?_
    refine as_bipush X (by decide +kernel : decode cX1_init 21 = .ok (.bipush 42, 2)) rfl ?_
    refine as_newi X (by decide +kernel : decode cX1_init 23 = .ok (.newarray .int, 2)) ac_int ?_
    refine as_puta X fc_X1 (by decide +kernel : decode cX1_init 25 = .ok (.putfield 19, 3)) (by decide) fl_X1_19 (Or.inr ⟨rfl, hnm, rfl⟩) (Or.inl ⟨_, rfl⟩) ?_
    exact as_rv X hQ hr (by decide +kernel : decode cX1_init 28 = .ok (.return_, 1))

def B_X1_has_0 (Q : am_Q) (G : Nat → am_K) : am_K := (ak_il 1 (ak_if (fun x => x < 0) (G 16) (ak_il 1 (ak_al 0 (ak_get 1 3 (ak_ic (fun x y => y ≤ x) (G 16) (ak_c (.int 1) (G 17))))))))
def B_X1_has_16 (Q : am_Q) (G : Nat → am_K) : am_K := (ak_c (.int 0) (G 17))
def B_X1_has_17 (Q : am_Q) (G : Nat → am_K) : am_K := (ak_rz Q)
def cl_X1_has (Q : am_Q) (G : Nat → am_K) : Prop := am_N G 0 (B_X1_has_0 Q G) ∧ am_N G 16 (B_X1_has_16 Q G) ∧ am_N G 17 (B_X1_has_17 Q G)
def WP_X1_has : am_T := fun av h Q => (lg_sl av).length ≤ 2 ∧ ∀ G, cl_X1_has Q G → G 0 (am_ent 2 av) [] h
set_option maxHeartbeats 4000000 in
set_option maxRecDepth 100000 in
theorem s_X1_has {rm : Room} (hz : rm.cells = 0 ∧ rm.slots = 0) : am_S false yX1_has (am_ws yX1_has cX1_has 2 (some .boolean)) rm (WP_X1_has) := by
  refine am_S.of (fun _ => hz) (by decide +kernel) (fun h0 Q G => cl_X1_has Q G) ?_
  intro p l e s m args below meth c D h0 Q X hr hnm hQ
  refine ⟨?_, ?_, ?_⟩
  · unfold B_X1_has_0
    refine as_iload_n X (by decide +kernel : decode cX1_has 0 = .ok (.iload_n 1, 1)) rfl ?_
    refine as_if_lt X (tgt := 16) (by decide +kernel : decode cX1_has 1 = .ok (.ifCond .lt 15, 3)) (by decide) ?_ ?_
    · exact fun _ _ _ h => h
    · refine as_iload_n X (by decide +kernel : decode cX1_has 4 = .ok (.iload_n 1, 1)) rfl ?_
      refine as_aload_n X (by decide +kernel : decode cX1_has 5 = .ok (.aload_n 0, 1)) rfl ?_
      refine as_get X fc_X1 (by decide +kernel : decode cX1_has 6 = .ok (.getfield 22, 3)) (by decide) fl_X1_22 ?_
      refine as_ic_ge X (tgt := 16) (by decide +kernel : decode cX1_has 9 = .ok (.if_icmp .ge 7, 3)) (by decide) ?_ ?_
      · exact fun _ _ _ h => h
      · refine as_iconst X (by decide +kernel : decode cX1_has 12 = .ok (.iconst 1, 1)) rfl ?_
        refine as_goto X (tgt := 17) (by decide +kernel : decode cX1_has 13 = .ok (.goto 4, 3)) (by decide) ?_
        exact fun _ _ _ h => h
  · unfold B_X1_has_16
    refine as_iconst X (by decide +kernel : decode cX1_has 16 = .ok (.iconst 0, 1)) rfl ?_
    exact fun _ _ _ h => h
  · unfold B_X1_has_17
    exact as_rz X hQ hr (by decide +kernel : decode cX1_has 17 = .ok (.ireturn, 1))

def B_X1_wordAt_0 (kX1_has : am_T) (Q : am_Q) (G : Nat → am_K) : am_K := (ak_al 0 (ak_il 1 (ak_cv 2 1 kX1_has (ak_if (fun x => x = 0) (ak_c (.long 0) (G 18)) (ak_al 0 (ak_get 1 0 (ak_il 1 (ak_lald (G 18)))))))))
def B_X1_wordAt_18 (kX1_has : am_T) (Q : am_Q) (G : Nat → am_K) : am_K := (ak_rl Q)
def cl_X1_wordAt (kX1_has : am_T) (Q : am_Q) (G : Nat → am_K) : Prop := am_N G 0 (B_X1_wordAt_0 kX1_has Q G) ∧ am_N G 18 (B_X1_wordAt_18 kX1_has Q G)
def WP_X1_wordAt (kX1_has : am_T) : am_T := fun av h Q => (lg_sl av).length ≤ 2 ∧ ∀ G, cl_X1_wordAt kX1_has Q G → G 0 (am_ent 2 av) [] h
set_option maxHeartbeats 4000000 in
set_option maxRecDepth 100000 in
theorem s_X1_wordAt {mX1_has : Room} {kX1_has : am_T} (h_X1_has : am_S false yX1_has (am_ws yX1_has cX1_has 2 (some .boolean)) mX1_has kX1_has) {rm : Room} (hz : rm.cells = 0 ∧ rm.slots = 0) (R_X1_has : mX1_has.frames + 1 ≤ rm.frames ∧ 8 + (2 + 11) + mX1_has.locals ≤ rm.locals) : am_S false yX1_wordAt (am_ws yX1_wordAt cX1_wordAt 2 (some .long)) rm (WP_X1_wordAt kX1_has) := by
  refine am_S.of (fun _ => hz) (by decide +kernel) (fun h0 Q G => cl_X1_wordAt kX1_has Q G) ?_
  intro p l e s m args below meth c D h0 Q X hr hnm hQ
  refine ⟨?_, ?_⟩
  · unfold B_X1_wordAt_0
    refine as_aload_n X (by decide +kernel : decode cX1_wordAt 0 = .ok (.aload_n 0, 1)) rfl ?_
    refine as_iload_n X (by decide +kernel : decode cX1_wordAt 1 = .ok (.iload_n 1, 1)) rfl ?_
    refine as_cv X h_X1_has rfl (by decide +kernel : decode cX1_wordAt 2 = .ok (.invokevirtual 26, 3)) dn_X1_has ml_X1_26 im_X1_has se_X1_has ini_X1 co_X1_has R_X1_has ?_
    refine as_if_eq X (tgt := 17) (by decide +kernel : decode cX1_wordAt 5 = .ok (.ifCond .eq 12, 3)) (by decide) ?_ ?_
    · refine as_lconst X (by decide +kernel : decode cX1_wordAt 17 = .ok (.lconst 0, 1)) rfl ?_
      exact fun _ _ _ h => h
    · refine as_aload_n X (by decide +kernel : decode cX1_wordAt 8 = .ok (.aload_n 0, 1)) rfl ?_
      refine as_get X fc_X1 (by decide +kernel : decode cX1_wordAt 9 = .ok (.getfield 9, 3)) (by decide) fl_X1_9 ?_
      refine as_iload_n X (by decide +kernel : decode cX1_wordAt 12 = .ok (.iload_n 1, 1)) rfl ?_
      refine as_laload X (by decide +kernel : decode cX1_wordAt 13 = .ok (.laload, 1)) ?_
      refine as_goto X (tgt := 18) (by decide +kernel : decode cX1_wordAt 14 = .ok (.goto 4, 3)) (by decide) ?_
      exact fun _ _ _ h => h
  · unfold B_X1_wordAt_18
    exact as_rl X hQ hr (by decide +kernel : decode cX1_wordAt 18 = .ok (.lreturn, 1))

def B_X1_readFrom_0 (kX1_wordsIn : am_T) (kX7_wordEnd : am_T) (kX7_packed : am_T) (kX7_at : am_T) (Q : am_Q) (G : Nat → am_K) : am_K := (ak_al 1 (ak_cs 1 kX1_wordsIn (ak_is 2 (ak_il 2 (ak_c (.int 2) (ak_ic (fun x y => y ≤ x) (ak_c (.int 0) (ak_is 3 (ak_c (.int 0) (ak_is 4 (G 17))))) (ak_c (.int 0) (ak_rz Q))))))))
def B_X1_readFrom_17 (kX1_wordsIn : am_T) (kX7_wordEnd : am_T) (kX7_packed : am_T) (kX7_at : am_T) (Q : am_Q) (G : Nat → am_K) : am_K := (ak_il 4 (ak_il 2 (ak_ic (fun x y => y ≤ x) (ak_al 0 (ak_il 2 (ak_puti 1 3 (ak_c (.int 1) (ak_rz Q))))) (ak_al 1 (ak_il 3 (ak_cv 2 5 kX7_wordEnd (ak_is 5 (ak_al 0 (ak_get 1 0 (ak_il 4 (ak_al 1 (ak_il 3 (ak_il 5 (ak_cv 3 5 kX7_packed (ak_last (ak_il 3 (ak_is 6 (G 47))))))))))))))))))
def B_X1_readFrom_47 (kX1_wordsIn : am_T) (kX7_wordEnd : am_T) (kX7_packed : am_T) (kX7_at : am_T) (Q : am_Q) (G : Nat → am_K) : am_K := (ak_il 6 (ak_il 5 (ak_ic (fun x y => y ≤ x) (ak_al 0 (ak_get 1 1 (ak_il 4 (ak_c (.int 1) (ak_ib (fun x y => x + y) (ak_il 5 (ak_il 4 (ak_ib (fun x y => x - y) (ak_iast (ak_il 5 (ak_c (.int 1) (ak_ib (fun x y => x + y) (ak_is 3 (ak_ii 4 1 (G 17))))))))))))))) (ak_al 0 (ak_get 1 2 (ak_il 6 (ak_il 4 (ak_ib (fun x y => x - y) (ak_al 1 (ak_il 6 (ak_cv 2 5 kX7_at (ak_iast (ak_ii 6 1 (G 47))))))))))))))
def cl_X1_readFrom (kX1_wordsIn : am_T) (kX7_wordEnd : am_T) (kX7_packed : am_T) (kX7_at : am_T) (Q : am_Q) (G : Nat → am_K) : Prop := am_N G 0 (B_X1_readFrom_0 kX1_wordsIn kX7_wordEnd kX7_packed kX7_at Q G) ∧ am_N G 17 (B_X1_readFrom_17 kX1_wordsIn kX7_wordEnd kX7_packed kX7_at Q G) ∧ am_N G 47 (B_X1_readFrom_47 kX1_wordsIn kX7_wordEnd kX7_packed kX7_at Q G)
def WP_X1_readFrom (kX1_wordsIn : am_T) (kX7_wordEnd : am_T) (kX7_packed : am_T) (kX7_at : am_T) : am_T := fun av h Q => (lg_sl av).length ≤ 7 ∧ ∀ G, cl_X1_readFrom kX1_wordsIn kX7_wordEnd kX7_packed kX7_at Q G → G 0 (am_ent 7 av) [] h
set_option maxHeartbeats 4000000 in
set_option maxRecDepth 100000 in
theorem s_X1_readFrom {mX1_wordsIn : Room} {kX1_wordsIn : am_T} (h_X1_wordsIn : am_S false yX1_wordsIn (am_ws yX1_wordsIn cX1_wordsIn 4 (some .int)) mX1_wordsIn kX1_wordsIn) {mX7_wordEnd : Room} {kX7_wordEnd : am_T} (h_X7_wordEnd : am_S false yX7_wordEnd (am_ws yX7_wordEnd cX7_wordEnd 3 (some .int)) mX7_wordEnd kX7_wordEnd) {mX7_packed : Room} {kX7_packed : am_T} (h_X7_packed : am_S false yX7_packed (am_ws yX7_packed cX7_packed 6 (some .long)) mX7_packed kX7_packed) {mX7_at : Room} {kX7_at : am_T} (h_X7_at : am_S false yX7_at (am_ws yX7_at cX7_at 2 (some .int)) mX7_at kX7_at) {rm : Room} (hz : rm.cells = 0 ∧ rm.slots = 0) (R_X1_wordsIn : mX1_wordsIn.frames + 1 ≤ rm.frames ∧ 8 + (4 + 11) + mX1_wordsIn.locals ≤ rm.locals) (R_X7_wordEnd : mX7_wordEnd.frames + 1 ≤ rm.frames ∧ 8 + (3 + 11) + mX7_wordEnd.locals ≤ rm.locals) (R_X7_packed : mX7_packed.frames + 1 ≤ rm.frames ∧ 8 + (6 + 11) + mX7_packed.locals ≤ rm.locals) (R_X7_at : mX7_at.frames + 1 ≤ rm.frames ∧ 8 + (2 + 11) + mX7_at.locals ≤ rm.locals) : am_S false yX1_readFrom (am_ws yX1_readFrom cX1_readFrom 7 (some .boolean)) rm (WP_X1_readFrom kX1_wordsIn kX7_wordEnd kX7_packed kX7_at) := by
  refine am_S.of (fun _ => hz) (by decide +kernel) (fun h0 Q G => cl_X1_readFrom kX1_wordsIn kX7_wordEnd kX7_packed kX7_at Q G) ?_
  intro p l e s m args below meth c D h0 Q X hr hnm hQ
  refine ⟨?_, ?_, ?_⟩
  · unfold B_X1_readFrom_0
    refine as_aload_n X (by decide +kernel : decode cX1_readFrom 0 = .ok (.aload_n 1, 1)) rfl ?_
    refine as_cs X h_X1_wordsIn (by decide +kernel : decode cX1_readFrom 1 = .ok (.invokestatic 30, 3)) dn_X1_wordsIn ml_X1_30 st_X1_wordsIn ini_X1 co_X1_wordsIn R_X1_wordsIn ?_
    refine as_istore_n X (by decide +kernel : decode cX1_readFrom 4 = .ok (.istore_n 2, 1)) rfl ?_
    refine as_iload_n X (by decide +kernel : decode cX1_readFrom 5 = .ok (.iload_n 2, 1)) rfl ?_
    refine as_iconst X (by decide +kernel : decode cX1_readFrom 6 = .ok (.iconst 2, 1)) rfl ?_
    refine as_ic_ge X (tgt := 12) (by decide +kernel : decode cX1_readFrom 7 = .ok (.if_icmp .ge 5, 3)) (by decide) ?_ ?_
    · refine as_iconst X (by decide +kernel : decode cX1_readFrom 12 = .ok (.iconst 0, 1)) rfl ?_
      refine as_istore_n X (by decide +kernel : decode cX1_readFrom 13 = .ok (.istore_n 3, 1)) rfl ?_
      refine as_iconst X (by decide +kernel : decode cX1_readFrom 14 = .ok (.iconst 0, 1)) rfl ?_
      refine as_istore X (by decide +kernel : decode cX1_readFrom 15 = .ok (.istore 4, 2)) ?_
      exact fun _ _ _ h => h
    · refine as_iconst X (by decide +kernel : decode cX1_readFrom 10 = .ok (.iconst 0, 1)) rfl ?_
      exact as_rz X hQ hr (by decide +kernel : decode cX1_readFrom 11 = .ok (.ireturn, 1))
  · unfold B_X1_readFrom_17
    refine as_iload X (by decide +kernel : decode cX1_readFrom 17 = .ok (.iload 4, 2)) ?_
    refine as_iload_n X (by decide +kernel : decode cX1_readFrom 19 = .ok (.iload_n 2, 1)) rfl ?_
    refine as_ic_ge X (tgt := 101) (by decide +kernel : decode cX1_readFrom 20 = .ok (.if_icmp .ge 81, 3)) (by decide) ?_ ?_
    · refine as_aload_n X (by decide +kernel : decode cX1_readFrom 101 = .ok (.aload_n 0, 1)) rfl ?_
      refine as_iload_n X (by decide +kernel : decode cX1_readFrom 102 = .ok (.iload_n 2, 1)) rfl ?_
      refine as_puti X fc_X1 (by decide +kernel : decode cX1_readFrom 103 = .ok (.putfield 22, 3)) (by decide) fl_X1_22 (Or.inl rfl) rfl ?_
      refine as_iconst X (by decide +kernel : decode cX1_readFrom 106 = .ok (.iconst 1, 1)) rfl ?_
      exact as_rz X hQ hr (by decide +kernel : decode cX1_readFrom 107 = .ok (.ireturn, 1))
    · refine as_aload_n X (by decide +kernel : decode cX1_readFrom 23 = .ok (.aload_n 1, 1)) rfl ?_
      refine as_iload_n X (by decide +kernel : decode cX1_readFrom 24 = .ok (.iload_n 3, 1)) rfl ?_
      refine as_cv X h_X7_wordEnd rfl (by decide +kernel : decode cX1_readFrom 25 = .ok (.invokevirtual 34, 3)) dn_X7_wordEnd ml_X1_34 im_X7_wordEnd se_X7_wordEnd ini_X7 co_X7_wordEnd R_X7_wordEnd ?_
      refine as_istore X (by decide +kernel : decode cX1_readFrom 28 = .ok (.istore 5, 2)) ?_
      refine as_aload_n X (by decide +kernel : decode cX1_readFrom 30 = .ok (.aload_n 0, 1)) rfl ?_
      refine as_get X fc_X1 (by decide +kernel : decode cX1_readFrom 31 = .ok (.getfield 9, 3)) (by decide) fl_X1_9 ?_
      refine as_iload X (by decide +kernel : decode cX1_readFrom 34 = .ok (.iload 4, 2)) ?_
      refine as_aload_n X (by decide +kernel : decode cX1_readFrom 36 = .ok (.aload_n 1, 1)) rfl ?_
      refine as_iload_n X (by decide +kernel : decode cX1_readFrom 37 = .ok (.iload_n 3, 1)) rfl ?_
      refine as_iload X (by decide +kernel : decode cX1_readFrom 38 = .ok (.iload 5, 2)) ?_
      refine as_cv X h_X7_packed rfl (by decide +kernel : decode cX1_readFrom 40 = .ok (.invokevirtual 40, 3)) dn_X7_packed ml_X1_40 im_X7_packed se_X7_packed ini_X7 co_X7_packed R_X7_packed ?_
      refine as_lastore X (by decide +kernel : decode cX1_readFrom 43 = .ok (.lastore, 1)) ?_
      refine as_iload_n X (by decide +kernel : decode cX1_readFrom 44 = .ok (.iload_n 3, 1)) rfl ?_
      refine as_istore X (by decide +kernel : decode cX1_readFrom 45 = .ok (.istore 6, 2)) ?_
      exact fun _ _ _ h => h
  · unfold B_X1_readFrom_47
    refine as_iload X (by decide +kernel : decode cX1_readFrom 47 = .ok (.iload 6, 2)) ?_
    refine as_iload X (by decide +kernel : decode cX1_readFrom 49 = .ok (.iload 5, 2)) ?_
    refine as_ic_ge X (tgt := 76) (by decide +kernel : decode cX1_readFrom 51 = .ok (.if_icmp .ge 25, 3)) (by decide) ?_ ?_
    · refine as_aload_n X (by decide +kernel : decode cX1_readFrom 76 = .ok (.aload_n 0, 1)) rfl ?_
      refine as_get X fc_X1 (by decide +kernel : decode cX1_readFrom 77 = .ok (.getfield 15, 3)) (by decide) fl_X1_15 ?_
      refine as_iload X (by decide +kernel : decode cX1_readFrom 80 = .ok (.iload 4, 2)) ?_
      refine as_iconst X (by decide +kernel : decode cX1_readFrom 82 = .ok (.iconst 1, 1)) rfl ?_
      refine as_iadd X (by decide +kernel : decode cX1_readFrom 83 = .ok (.iadd, 1)) ?_
      refine as_iload X (by decide +kernel : decode cX1_readFrom 84 = .ok (.iload 5, 2)) ?_
      refine as_iload X (by decide +kernel : decode cX1_readFrom 86 = .ok (.iload 4, 2)) ?_
      refine as_isub X (by decide +kernel : decode cX1_readFrom 88 = .ok (.isub, 1)) ?_
      refine as_iastore X (by decide +kernel : decode cX1_readFrom 89 = .ok (.iastore, 1)) ?_
      refine as_iload X (by decide +kernel : decode cX1_readFrom 90 = .ok (.iload 5, 2)) ?_
      refine as_iconst X (by decide +kernel : decode cX1_readFrom 92 = .ok (.iconst 1, 1)) rfl ?_
      refine as_iadd X (by decide +kernel : decode cX1_readFrom 93 = .ok (.iadd, 1)) ?_
      refine as_istore_n X (by decide +kernel : decode cX1_readFrom 94 = .ok (.istore_n 3, 1)) rfl ?_
      refine as_iinc X (by decide +kernel : decode cX1_readFrom 95 = .ok (.iinc 4 1, 3)) rfl ?_
      refine as_goto X (tgt := 17) (by decide +kernel : decode cX1_readFrom 98 = .ok (.goto (-81), 3)) (by decide) ?_
      exact fun _ _ _ h => h
    · refine as_aload_n X (by decide +kernel : decode cX1_readFrom 54 = .ok (.aload_n 0, 1)) rfl ?_
      refine as_get X fc_X1 (by decide +kernel : decode cX1_readFrom 55 = .ok (.getfield 19, 3)) (by decide) fl_X1_19 ?_
      refine as_iload X (by decide +kernel : decode cX1_readFrom 58 = .ok (.iload 6, 2)) ?_
      refine as_iload X (by decide +kernel : decode cX1_readFrom 60 = .ok (.iload 4, 2)) ?_
      refine as_isub X (by decide +kernel : decode cX1_readFrom 62 = .ok (.isub, 1)) ?_
      refine as_aload_n X (by decide +kernel : decode cX1_readFrom 63 = .ok (.aload_n 1, 1)) rfl ?_
      refine as_iload X (by decide +kernel : decode cX1_readFrom 64 = .ok (.iload 6, 2)) ?_
      refine as_cv X h_X7_at rfl (by decide +kernel : decode cX1_readFrom 66 = .ok (.invokevirtual 44, 3)) dn_X7_at ml_X1_44 im_X7_at se_X7_at ini_X7 co_X7_at R_X7_at ?_
      refine as_iastore X (by decide +kernel : decode cX1_readFrom 69 = .ok (.iastore, 1)) ?_
      refine as_iinc X (by decide +kernel : decode cX1_readFrom 70 = .ok (.iinc 6 1, 3)) rfl ?_
      refine as_goto X (tgt := 47) (by decide +kernel : decode cX1_readFrom 73 = .ok (.goto (-26), 3)) (by decide) ?_
      exact fun _ _ _ h => h

def B_X1_wordsIn_0 (kX7_wordEnd : am_T) (kX7_at : am_T) (Q : am_Q) (G : Nat → am_K) : am_K := (ak_c (.int 0) (ak_is 1 (ak_c (.int 1) (ak_is 2 (G 4)))))
def B_X1_wordsIn_4 (kX7_wordEnd : am_T) (kX7_at : am_T) (Q : am_Q) (G : Nat → am_K) : am_K := (ak_il 2 (ak_c (.int 6) (ak_ic (fun x y => y < x) (ak_c (.int 0) (ak_ri Q)) (ak_al 0 (ak_il 1 (ak_cv 2 5 kX7_wordEnd (ak_is 3 (ak_il 3 (ak_il 1 (ak_ic (fun x y => x = y) (G 29) (ak_il 3 (ak_il 1 (ak_ib (fun x y => x - y) (ak_c (.int 7) (ak_ic (fun x y => x ≤ y) (ak_il 3 (ak_al 0 (ak_get 5 1 (ak_ic (fun x y => x = y) (ak_il 2 (ak_ri Q)) (ak_al 0 (ak_il 3 (ak_cv 2 5 kX7_at (ak_c (.int 32) (ak_ic (fun x y => x = y) (ak_il 3 (ak_c (.int 1) (ak_ib (fun x y => x + y) (ak_is 1 (ak_ii 2 1 (G 4)))))) (ak_c (.int 0) (ak_ri Q))))))))))) (G 29))))))))))))))))
def B_X1_wordsIn_29 (kX7_wordEnd : am_T) (kX7_at : am_T) (Q : am_Q) (G : Nat → am_K) : am_K := (ak_c (.int 0) (ak_ri Q))
def cl_X1_wordsIn (kX7_wordEnd : am_T) (kX7_at : am_T) (Q : am_Q) (G : Nat → am_K) : Prop := am_N G 0 (B_X1_wordsIn_0 kX7_wordEnd kX7_at Q G) ∧ am_N G 4 (B_X1_wordsIn_4 kX7_wordEnd kX7_at Q G) ∧ am_N G 29 (B_X1_wordsIn_29 kX7_wordEnd kX7_at Q G)
def WP_X1_wordsIn (kX7_wordEnd : am_T) (kX7_at : am_T) : am_T := fun av h Q => (lg_sl av).length ≤ 4 ∧ ∀ G, cl_X1_wordsIn kX7_wordEnd kX7_at Q G → G 0 (am_ent 4 av) [] h
set_option maxHeartbeats 4000000 in
set_option maxRecDepth 100000 in
theorem s_X1_wordsIn {mX7_wordEnd : Room} {kX7_wordEnd : am_T} (h_X7_wordEnd : am_S false yX7_wordEnd (am_ws yX7_wordEnd cX7_wordEnd 3 (some .int)) mX7_wordEnd kX7_wordEnd) {mX7_at : Room} {kX7_at : am_T} (h_X7_at : am_S false yX7_at (am_ws yX7_at cX7_at 2 (some .int)) mX7_at kX7_at) {rm : Room} (hz : rm.cells = 0 ∧ rm.slots = 0) (R_X7_wordEnd : mX7_wordEnd.frames + 1 ≤ rm.frames ∧ 8 + (3 + 11) + mX7_wordEnd.locals ≤ rm.locals) (R_X7_at : mX7_at.frames + 1 ≤ rm.frames ∧ 8 + (2 + 11) + mX7_at.locals ≤ rm.locals) : am_S false yX1_wordsIn (am_ws yX1_wordsIn cX1_wordsIn 4 (some .int)) rm (WP_X1_wordsIn kX7_wordEnd kX7_at) := by
  refine am_S.of (fun _ => hz) (by decide +kernel) (fun h0 Q G => cl_X1_wordsIn kX7_wordEnd kX7_at Q G) ?_
  intro p l e s m args below meth c D h0 Q X hr hnm hQ
  refine ⟨?_, ?_, ?_⟩
  · unfold B_X1_wordsIn_0
    refine as_iconst X (by decide +kernel : decode cX1_wordsIn 0 = .ok (.iconst 0, 1)) rfl ?_
    refine as_istore_n X (by decide +kernel : decode cX1_wordsIn 1 = .ok (.istore_n 1, 1)) rfl ?_
    refine as_iconst X (by decide +kernel : decode cX1_wordsIn 2 = .ok (.iconst 1, 1)) rfl ?_
    refine as_istore_n X (by decide +kernel : decode cX1_wordsIn 3 = .ok (.istore_n 2, 1)) rfl ?_
    exact fun _ _ _ h => h
  · unfold B_X1_wordsIn_4
    refine as_iload_n X (by decide +kernel : decode cX1_wordsIn 4 = .ok (.iload_n 2, 1)) rfl ?_
    refine as_bipush X (by decide +kernel : decode cX1_wordsIn 5 = .ok (.bipush 6, 2)) rfl ?_
    refine as_ic_gt X (tgt := 63) (by decide +kernel : decode cX1_wordsIn 7 = .ok (.if_icmp .gt 56, 3)) (by decide) ?_ ?_
    · refine as_iconst X (by decide +kernel : decode cX1_wordsIn 63 = .ok (.iconst 0, 1)) rfl ?_
      exact as_ri X hQ hr (by decide +kernel : decode cX1_wordsIn 64 = .ok (.ireturn, 1))
    · refine as_aload_n X (by decide +kernel : decode cX1_wordsIn 10 = .ok (.aload_n 0, 1)) rfl ?_
      refine as_iload_n X (by decide +kernel : decode cX1_wordsIn 11 = .ok (.iload_n 1, 1)) rfl ?_
      refine as_cv X h_X7_wordEnd rfl (by decide +kernel : decode cX1_wordsIn 12 = .ok (.invokevirtual 34, 3)) dn_X7_wordEnd ml_X1_34 im_X7_wordEnd se_X7_wordEnd ini_X7 co_X7_wordEnd R_X7_wordEnd ?_
      refine as_istore_n X (by decide +kernel : decode cX1_wordsIn 15 = .ok (.istore_n 3, 1)) rfl ?_
      refine as_iload_n X (by decide +kernel : decode cX1_wordsIn 16 = .ok (.iload_n 3, 1)) rfl ?_
      refine as_iload_n X (by decide +kernel : decode cX1_wordsIn 17 = .ok (.iload_n 1, 1)) rfl ?_
      refine as_ic_eq X (tgt := 29) (by decide +kernel : decode cX1_wordsIn 18 = .ok (.if_icmp .eq 11, 3)) (by decide) ?_ ?_
      · exact fun _ _ _ h => h
      · refine as_iload_n X (by decide +kernel : decode cX1_wordsIn 21 = .ok (.iload_n 3, 1)) rfl ?_
        refine as_iload_n X (by decide +kernel : decode cX1_wordsIn 22 = .ok (.iload_n 1, 1)) rfl ?_
        refine as_isub X (by decide +kernel : decode cX1_wordsIn 23 = .ok (.isub, 1)) ?_
        refine as_bipush X (by decide +kernel : decode cX1_wordsIn 24 = .ok (.bipush 7, 2)) rfl ?_
        refine as_ic_le X (tgt := 31) (by decide +kernel : decode cX1_wordsIn 26 = .ok (.if_icmp .le 5, 3)) (by decide) ?_ ?_
        · refine as_iload_n X (by decide +kernel : decode cX1_wordsIn 31 = .ok (.iload_n 3, 1)) rfl ?_
          refine as_aload_n X (by decide +kernel : decode cX1_wordsIn 32 = .ok (.aload_n 0, 1)) rfl ?_
          refine as_get X fc_X7 (by decide +kernel : decode cX1_wordsIn 33 = .ok (.getfield 47, 3)) (by decide) fl_X1_47 ?_
          refine as_ic_ne X (tgt := 41) (by decide +kernel : decode cX1_wordsIn 36 = .ok (.if_icmp .ne 5, 3)) (by decide) ?_ ?_
          · refine as_iload_n X (by decide +kernel : decode cX1_wordsIn 39 = .ok (.iload_n 2, 1)) rfl ?_
            exact as_ri X hQ hr (by decide +kernel : decode cX1_wordsIn 40 = .ok (.ireturn, 1))
          · refine as_aload_n X (by decide +kernel : decode cX1_wordsIn 41 = .ok (.aload_n 0, 1)) rfl ?_
            refine as_iload_n X (by decide +kernel : decode cX1_wordsIn 42 = .ok (.iload_n 3, 1)) rfl ?_
            refine as_cv X h_X7_at rfl (by decide +kernel : decode cX1_wordsIn 43 = .ok (.invokevirtual 44, 3)) dn_X7_at ml_X1_44 im_X7_at se_X7_at ini_X7 co_X7_at R_X7_at ?_
            refine as_bipush X (by decide +kernel : decode cX1_wordsIn 46 = .ok (.bipush 32, 2)) rfl ?_
            refine as_ic_eq X (tgt := 53) (by decide +kernel : decode cX1_wordsIn 48 = .ok (.if_icmp .eq 5, 3)) (by decide) ?_ ?_
            · refine as_iload_n X (by decide +kernel : decode cX1_wordsIn 53 = .ok (.iload_n 3, 1)) rfl ?_
              refine as_iconst X (by decide +kernel : decode cX1_wordsIn 54 = .ok (.iconst 1, 1)) rfl ?_
              refine as_iadd X (by decide +kernel : decode cX1_wordsIn 55 = .ok (.iadd, 1)) ?_
              refine as_istore_n X (by decide +kernel : decode cX1_wordsIn 56 = .ok (.istore_n 1, 1)) rfl ?_
              refine as_iinc X (by decide +kernel : decode cX1_wordsIn 57 = .ok (.iinc 2 1, 3)) rfl ?_
              refine as_goto X (tgt := 4) (by decide +kernel : decode cX1_wordsIn 60 = .ok (.goto (-56), 3)) (by decide) ?_
              exact fun _ _ _ h => h
            · refine as_iconst X (by decide +kernel : decode cX1_wordsIn 51 = .ok (.iconst 0, 1)) rfl ?_
              exact as_ri X hQ hr (by decide +kernel : decode cX1_wordsIn 52 = .ok (.ireturn, 1))
        · exact fun _ _ _ h => h
  · unfold B_X1_wordsIn_29
    refine as_iconst X (by decide +kernel : decode cX1_wordsIn 29 = .ok (.iconst 0, 1)) rfl ?_
    exact as_ri X hQ hr (by decide +kernel : decode cX1_wordsIn 30 = .ok (.ireturn, 1))

def B_X1_includes_0 (Q : am_Q) (G : Nat → am_K) : am_K := (ak_c (.int 0) (ak_is 3 (G 2)))
def B_X1_includes_2 (Q : am_Q) (G : Nat → am_K) : am_K := (ak_il 3 (ak_al 0 (ak_get 1 3 (ak_ic (fun x y => y ≤ x) (ak_c (.int 0) (ak_rz Q)) (ak_al 0 (ak_get 1 0 (ak_il 3 (ak_lald (ak_ll 1 (ak_lc (ak_if (fun x => x = 0) (ak_c (.int 1) (ak_rz Q)) (ak_ii 3 1 (G 2)))))))))))))
def cl_X1_includes (Q : am_Q) (G : Nat → am_K) : Prop := am_N G 0 (B_X1_includes_0 Q G) ∧ am_N G 2 (B_X1_includes_2 Q G)
def WP_X1_includes : am_T := fun av h Q => (lg_sl av).length ≤ 4 ∧ ∀ G, cl_X1_includes Q G → G 0 (am_ent 4 av) [] h
set_option maxHeartbeats 4000000 in
set_option maxRecDepth 100000 in
theorem s_X1_includes {rm : Room} (hz : rm.cells = 0 ∧ rm.slots = 0) : am_S false yX1_includes (am_ws yX1_includes cX1_includes 4 (some .boolean)) rm (WP_X1_includes) := by
  refine am_S.of (fun _ => hz) (by decide +kernel) (fun h0 Q G => cl_X1_includes Q G) ?_
  intro p l e s m args below meth c D h0 Q X hr hnm hQ
  refine ⟨?_, ?_⟩
  · unfold B_X1_includes_0
    refine as_iconst X (by decide +kernel : decode cX1_includes 0 = .ok (.iconst 0, 1)) rfl ?_
    refine as_istore_n X (by decide +kernel : decode cX1_includes 1 = .ok (.istore_n 3, 1)) rfl ?_
    exact fun _ _ _ h => h
  · unfold B_X1_includes_2
    refine as_iload_n X (by decide +kernel : decode cX1_includes 2 = .ok (.iload_n 3, 1)) rfl ?_
    refine as_aload_n X (by decide +kernel : decode cX1_includes 3 = .ok (.aload_n 0, 1)) rfl ?_
    refine as_get X fc_X1 (by decide +kernel : decode cX1_includes 4 = .ok (.getfield 22, 3)) (by decide) fl_X1_22 ?_
    refine as_ic_ge X (tgt := 29) (by decide +kernel : decode cX1_includes 7 = .ok (.if_icmp .ge 22, 3)) (by decide) ?_ ?_
    · refine as_iconst X (by decide +kernel : decode cX1_includes 29 = .ok (.iconst 0, 1)) rfl ?_
      exact as_rz X hQ hr (by decide +kernel : decode cX1_includes 30 = .ok (.ireturn, 1))
    · refine as_aload_n X (by decide +kernel : decode cX1_includes 10 = .ok (.aload_n 0, 1)) rfl ?_
      refine as_get X fc_X1 (by decide +kernel : decode cX1_includes 11 = .ok (.getfield 9, 3)) (by decide) fl_X1_9 ?_
      refine as_iload_n X (by decide +kernel : decode cX1_includes 14 = .ok (.iload_n 3, 1)) rfl ?_
      refine as_laload X (by decide +kernel : decode cX1_includes 15 = .ok (.laload, 1)) ?_
      refine as_lload_n X (by decide +kernel : decode cX1_includes 16 = .ok (.lload_n 1, 1)) rfl ?_
      refine as_lcmp X (by decide +kernel : decode cX1_includes 17 = .ok (.lcmp, 1)) ?_
      refine as_if_ne X (tgt := 23) (by decide +kernel : decode cX1_includes 18 = .ok (.ifCond .ne 5, 3)) (by decide) ?_ ?_
      · refine as_iconst X (by decide +kernel : decode cX1_includes 21 = .ok (.iconst 1, 1)) rfl ?_
        exact as_rz X hQ hr (by decide +kernel : decode cX1_includes 22 = .ok (.ireturn, 1))
      · refine as_iinc X (by decide +kernel : decode cX1_includes 23 = .ok (.iinc 3 1, 3)) rfl ?_
        refine as_goto X (tgt := 2) (by decide +kernel : decode cX1_includes 26 = .ok (.goto (-24), 3)) (by decide) ?_
        exact fun _ _ _ h => h

def B_X1_isAnagram_0 (kX2_size : am_T) (kX2_areSame : am_T) (kX2_with : am_T) (Q : am_Q) (G : Nat → am_K) : am_K := (ak_al 0 (ak_get 1 1 (ak_il 2 (ak_iald (ak_al 0 (ak_get 1 1 (ak_il 1 (ak_iald (ak_ib (fun x y => x - y) (ak_ll 3 (ak_cs 1 kX2_size (ak_ic (fun x y => x = y) (ak_c (.long 0) (ak_ls 5 (ak_al 0 (ak_get 1 1 (ak_il 1 (ak_iald (ak_is 7 (G 33)))))))) (ak_c (.int 0) (ak_rz Q))))))))))))))
def B_X1_isAnagram_33 (kX2_size : am_T) (kX2_areSame : am_T) (kX2_with : am_T) (Q : am_Q) (G : Nat → am_K) : am_K := (ak_il 7 (ak_al 0 (ak_get 1 1 (ak_il 2 (ak_iald (ak_ic (fun x y => y ≤ x) (ak_ll 5 (ak_ll 3 (ak_lc (ak_if (fun x => x = 0) (G 93) (ak_ll 3 (ak_ll 5 (ak_cs 2 kX2_areSame (ak_if (fun x => x = 0) (G 93) (ak_c (.int 1) (G 94)))))))))) (ak_ll 5 (ak_il 7 (ak_al 0 (ak_get 1 1 (ak_il 1 (ak_iald (ak_ib (fun x y => x - y) (ak_al 0 (ak_get 1 2 (ak_il 7 (ak_iald (ak_cs 3 kX2_with (ak_ls 5 (ak_ii 7 1 (G 33)))))))))))))))))))))
def B_X1_isAnagram_93 (kX2_size : am_T) (kX2_areSame : am_T) (kX2_with : am_T) (Q : am_Q) (G : Nat → am_K) : am_K := (ak_c (.int 0) (G 94))
def B_X1_isAnagram_94 (kX2_size : am_T) (kX2_areSame : am_T) (kX2_with : am_T) (Q : am_Q) (G : Nat → am_K) : am_K := (ak_rz Q)
def cl_X1_isAnagram (kX2_size : am_T) (kX2_areSame : am_T) (kX2_with : am_T) (Q : am_Q) (G : Nat → am_K) : Prop := am_N G 0 (B_X1_isAnagram_0 kX2_size kX2_areSame kX2_with Q G) ∧ am_N G 33 (B_X1_isAnagram_33 kX2_size kX2_areSame kX2_with Q G) ∧ am_N G 93 (B_X1_isAnagram_93 kX2_size kX2_areSame kX2_with Q G) ∧ am_N G 94 (B_X1_isAnagram_94 kX2_size kX2_areSame kX2_with Q G)
def WP_X1_isAnagram (kX2_size : am_T) (kX2_areSame : am_T) (kX2_with : am_T) : am_T := fun av h Q => (lg_sl av).length ≤ 8 ∧ ∀ G, cl_X1_isAnagram kX2_size kX2_areSame kX2_with Q G → G 0 (am_ent 8 av) [] h
set_option maxHeartbeats 4000000 in
set_option maxRecDepth 100000 in
theorem s_X1_isAnagram {mX2_size : Room} {kX2_size : am_T} (h_X2_size : am_S false yX2_size (am_ws yX2_size cX2_size 3 (some .int)) mX2_size kX2_size) {mX2_areSame : Room} {kX2_areSame : am_T} (h_X2_areSame : am_S false yX2_areSame (am_ws yX2_areSame cX2_areSame 6 (some .boolean)) mX2_areSame kX2_areSame) {mX2_with : Room} {kX2_with : am_T} (h_X2_with : am_S false yX2_with (am_ws yX2_with cX2_with 4 (some .long)) mX2_with kX2_with) {rm : Room} (hz : rm.cells = 0 ∧ rm.slots = 0) (R_X2_size : mX2_size.frames + 1 ≤ rm.frames ∧ 8 + (3 + 11) + mX2_size.locals ≤ rm.locals) (R_X2_areSame : mX2_areSame.frames + 1 ≤ rm.frames ∧ 8 + (6 + 11) + mX2_areSame.locals ≤ rm.locals) (R_X2_with : mX2_with.frames + 1 ≤ rm.frames ∧ 8 + (4 + 11) + mX2_with.locals ≤ rm.locals) : am_S false yX1_isAnagram (am_ws yX1_isAnagram cX1_isAnagram 8 (some .boolean)) rm (WP_X1_isAnagram kX2_size kX2_areSame kX2_with) := by
  refine am_S.of (fun _ => hz) (by decide +kernel) (fun h0 Q G => cl_X1_isAnagram kX2_size kX2_areSame kX2_with Q G) ?_
  intro p l e s m args below meth c D h0 Q X hr hnm hQ
  refine ⟨?_, ?_, ?_, ?_⟩
  · unfold B_X1_isAnagram_0
    refine as_aload_n X (by decide +kernel : decode cX1_isAnagram 0 = .ok (.aload_n 0, 1)) rfl ?_
    refine as_get X fc_X1 (by decide +kernel : decode cX1_isAnagram 1 = .ok (.getfield 15, 3)) (by decide) fl_X1_15 ?_
    refine as_iload_n X (by decide +kernel : decode cX1_isAnagram 4 = .ok (.iload_n 2, 1)) rfl ?_
    refine as_iaload X (by decide +kernel : decode cX1_isAnagram 5 = .ok (.iaload, 1)) ?_
    refine as_aload_n X (by decide +kernel : decode cX1_isAnagram 6 = .ok (.aload_n 0, 1)) rfl ?_
    refine as_get X fc_X1 (by decide +kernel : decode cX1_isAnagram 7 = .ok (.getfield 15, 3)) (by decide) fl_X1_15 ?_
    refine as_iload_n X (by decide +kernel : decode cX1_isAnagram 10 = .ok (.iload_n 1, 1)) rfl ?_
    refine as_iaload X (by decide +kernel : decode cX1_isAnagram 11 = .ok (.iaload, 1)) ?_
    refine as_isub X (by decide +kernel : decode cX1_isAnagram 12 = .ok (.isub, 1)) ?_
    refine as_lload_n X (by decide +kernel : decode cX1_isAnagram 13 = .ok (.lload_n 3, 1)) rfl ?_
    refine as_cs X h_X2_size (by decide +kernel : decode cX1_isAnagram 14 = .ok (.invokestatic 50, 3)) dn_X2_size ml_X1_50 st_X2_size ini_X2 co_X2_size R_X2_size ?_
    refine as_ic_eq X (tgt := 22) (by decide +kernel : decode cX1_isAnagram 17 = .ok (.if_icmp .eq 5, 3)) (by decide) ?_ ?_
    · refine as_lconst X (by decide +kernel : decode cX1_isAnagram 22 = .ok (.lconst 0, 1)) rfl ?_
      refine as_lstore X (by decide +kernel : decode cX1_isAnagram 23 = .ok (.lstore 5, 2)) ?_
      refine as_aload_n X (by decide +kernel : decode cX1_isAnagram 25 = .ok (.aload_n 0, 1)) rfl ?_
      refine as_get X fc_X1 (by decide +kernel : decode cX1_isAnagram 26 = .ok (.getfield 15, 3)) (by decide) fl_X1_15 ?_
      refine as_iload_n X (by decide +kernel : decode cX1_isAnagram 29 = .ok (.iload_n 1, 1)) rfl ?_
      refine as_iaload X (by decide +kernel : decode cX1_isAnagram 30 = .ok (.iaload, 1)) ?_
      refine as_istore X (by decide +kernel : decode cX1_isAnagram 31 = .ok (.istore 7, 2)) ?_
      exact fun _ _ _ h => h
    · refine as_iconst X (by decide +kernel : decode cX1_isAnagram 20 = .ok (.iconst 0, 1)) rfl ?_
      exact as_rz X hQ hr (by decide +kernel : decode cX1_isAnagram 21 = .ok (.ireturn, 1))
  · unfold B_X1_isAnagram_33
    refine as_iload X (by decide +kernel : decode cX1_isAnagram 33 = .ok (.iload 7, 2)) ?_
    refine as_aload_n X (by decide +kernel : decode cX1_isAnagram 35 = .ok (.aload_n 0, 1)) rfl ?_
    refine as_get X fc_X1 (by decide +kernel : decode cX1_isAnagram 36 = .ok (.getfield 15, 3)) (by decide) fl_X1_15 ?_
    refine as_iload_n X (by decide +kernel : decode cX1_isAnagram 39 = .ok (.iload_n 2, 1)) rfl ?_
    refine as_iaload X (by decide +kernel : decode cX1_isAnagram 40 = .ok (.iaload, 1)) ?_
    refine as_ic_ge X (tgt := 73) (by decide +kernel : decode cX1_isAnagram 41 = .ok (.if_icmp .ge 32, 3)) (by decide) ?_ ?_
    · refine as_lload X (by decide +kernel : decode cX1_isAnagram 73 = .ok (.lload 5, 2)) ?_
      refine as_lload_n X (by decide +kernel : decode cX1_isAnagram 75 = .ok (.lload_n 3, 1)) rfl ?_
      refine as_lcmp X (by decide +kernel : decode cX1_isAnagram 76 = .ok (.lcmp, 1)) ?_
      refine as_if_eq X (tgt := 93) (by decide +kernel : decode cX1_isAnagram 77 = .ok (.ifCond .eq 16, 3)) (by decide) ?_ ?_
      · exact fun _ _ _ h => h
      · refine as_lload_n X (by decide +kernel : decode cX1_isAnagram 80 = .ok (.lload_n 3, 1)) rfl ?_
        refine as_lload X (by decide +kernel : decode cX1_isAnagram 81 = .ok (.lload 5, 2)) ?_
        refine as_cs X h_X2_areSame (by decide +kernel : decode cX1_isAnagram 83 = .ok (.invokestatic 59, 3)) dn_X2_areSame ml_X1_59 st_X2_areSame ini_X2 co_X2_areSame R_X2_areSame ?_
        refine as_if_eq X (tgt := 93) (by decide +kernel : decode cX1_isAnagram 86 = .ok (.ifCond .eq 7, 3)) (by decide) ?_ ?_
        · exact fun _ _ _ h => h
        · refine as_iconst X (by decide +kernel : decode cX1_isAnagram 89 = .ok (.iconst 1, 1)) rfl ?_
          refine as_goto X (tgt := 94) (by decide +kernel : decode cX1_isAnagram 90 = .ok (.goto 4, 3)) (by decide) ?_
          exact fun _ _ _ h => h
    · refine as_lload X (by decide +kernel : decode cX1_isAnagram 44 = .ok (.lload 5, 2)) ?_
      refine as_iload X (by decide +kernel : decode cX1_isAnagram 46 = .ok (.iload 7, 2)) ?_
      refine as_aload_n X (by decide +kernel : decode cX1_isAnagram 48 = .ok (.aload_n 0, 1)) rfl ?_
      refine as_get X fc_X1 (by decide +kernel : decode cX1_isAnagram 49 = .ok (.getfield 15, 3)) (by decide) fl_X1_15 ?_
      refine as_iload_n X (by decide +kernel : decode cX1_isAnagram 52 = .ok (.iload_n 1, 1)) rfl ?_
      refine as_iaload X (by decide +kernel : decode cX1_isAnagram 53 = .ok (.iaload, 1)) ?_
      refine as_isub X (by decide +kernel : decode cX1_isAnagram 54 = .ok (.isub, 1)) ?_
      refine as_aload_n X (by decide +kernel : decode cX1_isAnagram 55 = .ok (.aload_n 0, 1)) rfl ?_
      refine as_get X fc_X1 (by decide +kernel : decode cX1_isAnagram 56 = .ok (.getfield 19, 3)) (by decide) fl_X1_19 ?_
      refine as_iload X (by decide +kernel : decode cX1_isAnagram 59 = .ok (.iload 7, 2)) ?_
      refine as_iaload X (by decide +kernel : decode cX1_isAnagram 61 = .ok (.iaload, 1)) ?_
      refine as_cs X h_X2_with (by decide +kernel : decode cX1_isAnagram 62 = .ok (.invokestatic 55, 3)) dn_X2_with ml_X1_55 st_X2_with ini_X2 co_X2_with R_X2_with ?_
      refine as_lstore X (by decide +kernel : decode cX1_isAnagram 65 = .ok (.lstore 5, 2)) ?_
      refine as_iinc X (by decide +kernel : decode cX1_isAnagram 67 = .ok (.iinc 7 1, 3)) rfl ?_
      refine as_goto X (tgt := 33) (by decide +kernel : decode cX1_isAnagram 70 = .ok (.goto (-37), 3)) (by decide) ?_
      exact fun _ _ _ h => h
  · unfold B_X1_isAnagram_93
    refine as_iconst X (by decide +kernel : decode cX1_isAnagram 93 = .ok (.iconst 0, 1)) rfl ?_
    exact fun _ _ _ h => h
  · unfold B_X1_isAnagram_94
    exact as_rz X hQ hr (by decide +kernel : decode cX1_isAnagram 94 = .ok (.ireturn, 1))

def B_X1_initials_0 (kX2_with : am_T) (Q : am_Q) (G : Nat → am_K) : am_K := (ak_c (.long 0) (ak_ls 3 (ak_il 1 (ak_is 5 (G 5)))))
def B_X1_initials_5 (kX2_with : am_T) (Q : am_Q) (G : Nat → am_K) : am_K := (ak_il 5 (ak_il 2 (ak_ic (fun x y => y ≤ x) (ak_ll 3 (ak_rl Q)) (ak_ll 3 (ak_il 5 (ak_il 1 (ak_ib (fun x y => x - y) (ak_al 0 (ak_get 1 2 (ak_al 0 (ak_get 1 1 (ak_il 5 (ak_iald (ak_iald (ak_cs 3 kX2_with (ak_ls 3 (ak_ii 5 1 (G 5))))))))))))))))))
def cl_X1_initials (kX2_with : am_T) (Q : am_Q) (G : Nat → am_K) : Prop := am_N G 0 (B_X1_initials_0 kX2_with Q G) ∧ am_N G 5 (B_X1_initials_5 kX2_with Q G)
def WP_X1_initials (kX2_with : am_T) : am_T := fun av h Q => (lg_sl av).length ≤ 6 ∧ ∀ G, cl_X1_initials kX2_with Q G → G 0 (am_ent 6 av) [] h
set_option maxHeartbeats 4000000 in
set_option maxRecDepth 100000 in
theorem s_X1_initials {mX2_with : Room} {kX2_with : am_T} (h_X2_with : am_S false yX2_with (am_ws yX2_with cX2_with 4 (some .long)) mX2_with kX2_with) {rm : Room} (hz : rm.cells = 0 ∧ rm.slots = 0) (R_X2_with : mX2_with.frames + 1 ≤ rm.frames ∧ 8 + (4 + 11) + mX2_with.locals ≤ rm.locals) : am_S false yX1_initials (am_ws yX1_initials cX1_initials 6 (some .long)) rm (WP_X1_initials kX2_with) := by
  refine am_S.of (fun _ => hz) (by decide +kernel) (fun h0 Q G => cl_X1_initials kX2_with Q G) ?_
  intro p l e s m args below meth c D h0 Q X hr hnm hQ
  refine ⟨?_, ?_⟩
  · unfold B_X1_initials_0
    refine as_lconst X (by decide +kernel : decode cX1_initials 0 = .ok (.lconst 0, 1)) rfl ?_
    refine as_lstore_n X (by decide +kernel : decode cX1_initials 1 = .ok (.lstore_n 3, 1)) rfl ?_
    refine as_iload_n X (by decide +kernel : decode cX1_initials 2 = .ok (.iload_n 1, 1)) rfl ?_
    refine as_istore X (by decide +kernel : decode cX1_initials 3 = .ok (.istore 5, 2)) ?_
    exact fun _ _ _ h => h
  · unfold B_X1_initials_5
    refine as_iload X (by decide +kernel : decode cX1_initials 5 = .ok (.iload 5, 2)) ?_
    refine as_iload_n X (by decide +kernel : decode cX1_initials 7 = .ok (.iload_n 2, 1)) rfl ?_
    refine as_ic_ge X (tgt := 38) (by decide +kernel : decode cX1_initials 8 = .ok (.if_icmp .ge 30, 3)) (by decide) ?_ ?_
    · refine as_lload_n X (by decide +kernel : decode cX1_initials 38 = .ok (.lload_n 3, 1)) rfl ?_
      exact as_rl X hQ hr (by decide +kernel : decode cX1_initials 39 = .ok (.lreturn, 1))
    · refine as_lload_n X (by decide +kernel : decode cX1_initials 11 = .ok (.lload_n 3, 1)) rfl ?_
      refine as_iload X (by decide +kernel : decode cX1_initials 12 = .ok (.iload 5, 2)) ?_
      refine as_iload_n X (by decide +kernel : decode cX1_initials 14 = .ok (.iload_n 1, 1)) rfl ?_
      refine as_isub X (by decide +kernel : decode cX1_initials 15 = .ok (.isub, 1)) ?_
      refine as_aload_n X (by decide +kernel : decode cX1_initials 16 = .ok (.aload_n 0, 1)) rfl ?_
      refine as_get X fc_X1 (by decide +kernel : decode cX1_initials 17 = .ok (.getfield 19, 3)) (by decide) fl_X1_19 ?_
      refine as_aload_n X (by decide +kernel : decode cX1_initials 20 = .ok (.aload_n 0, 1)) rfl ?_
      refine as_get X fc_X1 (by decide +kernel : decode cX1_initials 21 = .ok (.getfield 15, 3)) (by decide) fl_X1_15 ?_
      refine as_iload X (by decide +kernel : decode cX1_initials 24 = .ok (.iload 5, 2)) ?_
      refine as_iaload X (by decide +kernel : decode cX1_initials 26 = .ok (.iaload, 1)) ?_
      refine as_iaload X (by decide +kernel : decode cX1_initials 27 = .ok (.iaload, 1)) ?_
      refine as_cs X h_X2_with (by decide +kernel : decode cX1_initials 28 = .ok (.invokestatic 55, 3)) dn_X2_with ml_X1_55 st_X2_with ini_X2 co_X2_with R_X2_with ?_
      refine as_lstore_n X (by decide +kernel : decode cX1_initials 31 = .ok (.lstore_n 3, 1)) rfl ?_
      refine as_iinc X (by decide +kernel : decode cX1_initials 32 = .ok (.iinc 5 1, 3)) rfl ?_
      refine as_goto X (tgt := 5) (by decide +kernel : decode cX1_initials 35 = .ok (.goto (-30), 3)) (by decide) ?_
      exact fun _ _ _ h => h

def B_X1_hidingPlaces_0 (kX2_size : am_T) (kX1_standsAt : am_T) (Q : am_Q) (G : Nat → am_K) : am_K := (ak_ll 3 (ak_cs 1 kX2_size (ak_is 5 (ak_c (.int 0) (ak_is 6 (ak_al 0 (ak_get 1 1 (ak_il 1 (ak_iald (ak_c (.int 1) (ak_ib (fun x y => x + y) (ak_is 7 (G 19)))))))))))))
def B_X1_hidingPlaces_19 (kX2_size : am_T) (kX1_standsAt : am_T) (Q : am_Q) (G : Nat → am_K) : am_K := (ak_il 7 (ak_al 0 (ak_get 1 1 (ak_il 1 (ak_c (.int 1) (ak_ib (fun x y => x + y) (ak_iald (ak_ic (fun x y => y ≤ x) (ak_il 6 (ak_ri Q)) (ak_il 7 (ak_il 5 (ak_ib (fun x y => x + y) (ak_is 8 (ak_il 8 (ak_al 0 (ak_get 1 1 (ak_il 2 (ak_c (.int 1) (ak_ib (fun x y => x - y) (ak_iald (ak_ic (fun x y => x ≤ y) (G 78) (ak_il 8 (ak_al 0 (ak_get 1 1 (ak_il 2 (ak_iald (ak_ic (fun x y => y ≤ x) (G 78) (ak_al 0 (ak_il 7 (ak_il 5 (ak_ll 3 (ak_cv 4 1 kX1_standsAt (ak_if (fun x => x = 0) (G 78) (ak_ii 6 1 (G 78))))))))))))))))))))))))))))))))))
def B_X1_hidingPlaces_78 (kX2_size : am_T) (kX1_standsAt : am_T) (Q : am_Q) (G : Nat → am_K) : am_K := (ak_ii 7 1 (G 19))
def cl_X1_hidingPlaces (kX2_size : am_T) (kX1_standsAt : am_T) (Q : am_Q) (G : Nat → am_K) : Prop := am_N G 0 (B_X1_hidingPlaces_0 kX2_size kX1_standsAt Q G) ∧ am_N G 19 (B_X1_hidingPlaces_19 kX2_size kX1_standsAt Q G) ∧ am_N G 78 (B_X1_hidingPlaces_78 kX2_size kX1_standsAt Q G)
def WP_X1_hidingPlaces (kX2_size : am_T) (kX1_standsAt : am_T) : am_T := fun av h Q => (lg_sl av).length ≤ 9 ∧ ∀ G, cl_X1_hidingPlaces kX2_size kX1_standsAt Q G → G 0 (am_ent 9 av) [] h
set_option maxHeartbeats 4000000 in
set_option maxRecDepth 100000 in
theorem s_X1_hidingPlaces {mX2_size : Room} {kX2_size : am_T} (h_X2_size : am_S false yX2_size (am_ws yX2_size cX2_size 3 (some .int)) mX2_size kX2_size) {mX1_standsAt : Room} {kX1_standsAt : am_T} (h_X1_standsAt : am_S false yX1_standsAt (am_ws yX1_standsAt cX1_standsAt 6 (some .boolean)) mX1_standsAt kX1_standsAt) {rm : Room} (hz : rm.cells = 0 ∧ rm.slots = 0) (R_X2_size : mX2_size.frames + 1 ≤ rm.frames ∧ 8 + (3 + 11) + mX2_size.locals ≤ rm.locals) (R_X1_standsAt : mX1_standsAt.frames + 1 ≤ rm.frames ∧ 8 + (6 + 11) + mX1_standsAt.locals ≤ rm.locals) : am_S false yX1_hidingPlaces (am_ws yX1_hidingPlaces cX1_hidingPlaces 9 (some .int)) rm (WP_X1_hidingPlaces kX2_size kX1_standsAt) := by
  refine am_S.of (fun _ => hz) (by decide +kernel) (fun h0 Q G => cl_X1_hidingPlaces kX2_size kX1_standsAt Q G) ?_
  intro p l e s m args below meth c D h0 Q X hr hnm hQ
  refine ⟨?_, ?_, ?_⟩
  · unfold B_X1_hidingPlaces_0
    refine as_lload_n X (by decide +kernel : decode cX1_hidingPlaces 0 = .ok (.lload_n 3, 1)) rfl ?_
    refine as_cs X h_X2_size (by decide +kernel : decode cX1_hidingPlaces 1 = .ok (.invokestatic 50, 3)) dn_X2_size ml_X1_50 st_X2_size ini_X2 co_X2_size R_X2_size ?_
    refine as_istore X (by decide +kernel : decode cX1_hidingPlaces 4 = .ok (.istore 5, 2)) ?_
    refine as_iconst X (by decide +kernel : decode cX1_hidingPlaces 6 = .ok (.iconst 0, 1)) rfl ?_
    refine as_istore X (by decide +kernel : decode cX1_hidingPlaces 7 = .ok (.istore 6, 2)) ?_
    refine as_aload_n X (by decide +kernel : decode cX1_hidingPlaces 9 = .ok (.aload_n 0, 1)) rfl ?_
    refine as_get X fc_X1 (by decide +kernel : decode cX1_hidingPlaces 10 = .ok (.getfield 15, 3)) (by decide) fl_X1_15 ?_
    refine as_iload_n X (by decide +kernel : decode cX1_hidingPlaces 13 = .ok (.iload_n 1, 1)) rfl ?_
    refine as_iaload X (by decide +kernel : decode cX1_hidingPlaces 14 = .ok (.iaload, 1)) ?_
    refine as_iconst X (by decide +kernel : decode cX1_hidingPlaces 15 = .ok (.iconst 1, 1)) rfl ?_
    refine as_iadd X (by decide +kernel : decode cX1_hidingPlaces 16 = .ok (.iadd, 1)) ?_
    refine as_istore X (by decide +kernel : decode cX1_hidingPlaces 17 = .ok (.istore 7, 2)) ?_
    exact fun _ _ _ h => h
  · unfold B_X1_hidingPlaces_19
    refine as_iload X (by decide +kernel : decode cX1_hidingPlaces 19 = .ok (.iload 7, 2)) ?_
    refine as_aload_n X (by decide +kernel : decode cX1_hidingPlaces 21 = .ok (.aload_n 0, 1)) rfl ?_
    refine as_get X fc_X1 (by decide +kernel : decode cX1_hidingPlaces 22 = .ok (.getfield 15, 3)) (by decide) fl_X1_15 ?_
    refine as_iload_n X (by decide +kernel : decode cX1_hidingPlaces 25 = .ok (.iload_n 1, 1)) rfl ?_
    refine as_iconst X (by decide +kernel : decode cX1_hidingPlaces 26 = .ok (.iconst 1, 1)) rfl ?_
    refine as_iadd X (by decide +kernel : decode cX1_hidingPlaces 27 = .ok (.iadd, 1)) ?_
    refine as_iaload X (by decide +kernel : decode cX1_hidingPlaces 28 = .ok (.iaload, 1)) ?_
    refine as_ic_ge X (tgt := 84) (by decide +kernel : decode cX1_hidingPlaces 29 = .ok (.if_icmp .ge 55, 3)) (by decide) ?_ ?_
    · refine as_iload X (by decide +kernel : decode cX1_hidingPlaces 84 = .ok (.iload 6, 2)) ?_
      exact as_ri X hQ hr (by decide +kernel : decode cX1_hidingPlaces 86 = .ok (.ireturn, 1))
    · refine as_iload X (by decide +kernel : decode cX1_hidingPlaces 32 = .ok (.iload 7, 2)) ?_
      refine as_iload X (by decide +kernel : decode cX1_hidingPlaces 34 = .ok (.iload 5, 2)) ?_
      refine as_iadd X (by decide +kernel : decode cX1_hidingPlaces 36 = .ok (.iadd, 1)) ?_
      refine as_istore X (by decide +kernel : decode cX1_hidingPlaces 37 = .ok (.istore 8, 2)) ?_
      refine as_iload X (by decide +kernel : decode cX1_hidingPlaces 39 = .ok (.iload 8, 2)) ?_
      refine as_aload_n X (by decide +kernel : decode cX1_hidingPlaces 41 = .ok (.aload_n 0, 1)) rfl ?_
      refine as_get X fc_X1 (by decide +kernel : decode cX1_hidingPlaces 42 = .ok (.getfield 15, 3)) (by decide) fl_X1_15 ?_
      refine as_iload_n X (by decide +kernel : decode cX1_hidingPlaces 45 = .ok (.iload_n 2, 1)) rfl ?_
      refine as_iconst X (by decide +kernel : decode cX1_hidingPlaces 46 = .ok (.iconst 1, 1)) rfl ?_
      refine as_isub X (by decide +kernel : decode cX1_hidingPlaces 47 = .ok (.isub, 1)) ?_
      refine as_iaload X (by decide +kernel : decode cX1_hidingPlaces 48 = .ok (.iaload, 1)) ?_
      refine as_ic_le X (tgt := 78) (by decide +kernel : decode cX1_hidingPlaces 49 = .ok (.if_icmp .le 29, 3)) (by decide) ?_ ?_
      · exact fun _ _ _ h => h
      · refine as_iload X (by decide +kernel : decode cX1_hidingPlaces 52 = .ok (.iload 8, 2)) ?_
        refine as_aload_n X (by decide +kernel : decode cX1_hidingPlaces 54 = .ok (.aload_n 0, 1)) rfl ?_
        refine as_get X fc_X1 (by decide +kernel : decode cX1_hidingPlaces 55 = .ok (.getfield 15, 3)) (by decide) fl_X1_15 ?_
        refine as_iload_n X (by decide +kernel : decode cX1_hidingPlaces 58 = .ok (.iload_n 2, 1)) rfl ?_
        refine as_iaload X (by decide +kernel : decode cX1_hidingPlaces 59 = .ok (.iaload, 1)) ?_
        refine as_ic_ge X (tgt := 78) (by decide +kernel : decode cX1_hidingPlaces 60 = .ok (.if_icmp .ge 18, 3)) (by decide) ?_ ?_
        · exact fun _ _ _ h => h
        · refine as_aload_n X (by decide +kernel : decode cX1_hidingPlaces 63 = .ok (.aload_n 0, 1)) rfl ?_
          refine as_iload X (by decide +kernel : decode cX1_hidingPlaces 64 = .ok (.iload 7, 2)) ?_
          refine as_iload X (by decide +kernel : decode cX1_hidingPlaces 66 = .ok (.iload 5, 2)) ?_
          refine as_lload_n X (by decide +kernel : decode cX1_hidingPlaces 68 = .ok (.lload_n 3, 1)) rfl ?_
          refine as_cv X h_X1_standsAt rfl (by decide +kernel : decode cX1_hidingPlaces 69 = .ok (.invokevirtual 63, 3)) dn_X1_standsAt ml_X1_63 im_X1_standsAt se_X1_standsAt ini_X1 co_X1_standsAt R_X1_standsAt ?_
          refine as_if_eq X (tgt := 78) (by decide +kernel : decode cX1_hidingPlaces 72 = .ok (.ifCond .eq 6, 3)) (by decide) ?_ ?_
          · exact fun _ _ _ h => h
          · refine as_iinc X (by decide +kernel : decode cX1_hidingPlaces 75 = .ok (.iinc 6 1, 3)) rfl ?_
            exact fun _ _ _ h => h
  · unfold B_X1_hidingPlaces_78
    refine as_iinc X (by decide +kernel : decode cX1_hidingPlaces 78 = .ok (.iinc 7 1, 3)) rfl ?_
    refine as_goto X (tgt := 19) (by decide +kernel : decode cX1_hidingPlaces 81 = .ok (.goto (-62), 3)) (by decide) ?_
    exact fun _ _ _ h => h

def B_X1_standsAt_0 (kX2_at : am_T) (Q : am_Q) (G : Nat → am_K) : am_K := (ak_c (.int 0) (ak_is 5 (G 3)))
def B_X1_standsAt_3 (kX2_at : am_T) (Q : am_Q) (G : Nat → am_K) : am_K := (ak_il 5 (ak_il 2 (ak_ic (fun x y => y ≤ x) (ak_c (.int 1) (ak_rz Q)) (ak_al 0 (ak_get 1 2 (ak_il 1 (ak_il 5 (ak_ib (fun x y => x + y) (ak_iald (ak_ll 3 (ak_il 5 (ak_cs 2 kX2_at (ak_ic (fun x y => x = y) (ak_ii 5 1 (G 3)) (ak_c (.int 0) (ak_rz Q)))))))))))))))
def cl_X1_standsAt (kX2_at : am_T) (Q : am_Q) (G : Nat → am_K) : Prop := am_N G 0 (B_X1_standsAt_0 kX2_at Q G) ∧ am_N G 3 (B_X1_standsAt_3 kX2_at Q G)
def WP_X1_standsAt (kX2_at : am_T) : am_T := fun av h Q => (lg_sl av).length ≤ 6 ∧ ∀ G, cl_X1_standsAt kX2_at Q G → G 0 (am_ent 6 av) [] h
set_option maxHeartbeats 4000000 in
set_option maxRecDepth 100000 in
theorem s_X1_standsAt {mX2_at : Room} {kX2_at : am_T} (h_X2_at : am_S false yX2_at (am_ws yX2_at cX2_at 3 (some .int)) mX2_at kX2_at) {rm : Room} (hz : rm.cells = 0 ∧ rm.slots = 0) (R_X2_at : mX2_at.frames + 1 ≤ rm.frames ∧ 8 + (3 + 11) + mX2_at.locals ≤ rm.locals) : am_S false yX1_standsAt (am_ws yX1_standsAt cX1_standsAt 6 (some .boolean)) rm (WP_X1_standsAt kX2_at) := by
  refine am_S.of (fun _ => hz) (by decide +kernel) (fun h0 Q G => cl_X1_standsAt kX2_at Q G) ?_
  intro p l e s m args below meth c D h0 Q X hr hnm hQ
  refine ⟨?_, ?_⟩
  · unfold B_X1_standsAt_0
    refine as_iconst X (by decide +kernel : decode cX1_standsAt 0 = .ok (.iconst 0, 1)) rfl ?_
    refine as_istore X (by decide +kernel : decode cX1_standsAt 1 = .ok (.istore 5, 2)) ?_
    exact fun _ _ _ h => h
  · unfold B_X1_standsAt_3
    refine as_iload X (by decide +kernel : decode cX1_standsAt 3 = .ok (.iload 5, 2)) ?_
    refine as_iload_n X (by decide +kernel : decode cX1_standsAt 5 = .ok (.iload_n 2, 1)) rfl ?_
    refine as_ic_ge X (tgt := 35) (by decide +kernel : decode cX1_standsAt 6 = .ok (.if_icmp .ge 29, 3)) (by decide) ?_ ?_
    · refine as_iconst X (by decide +kernel : decode cX1_standsAt 35 = .ok (.iconst 1, 1)) rfl ?_
      exact as_rz X hQ hr (by decide +kernel : decode cX1_standsAt 36 = .ok (.ireturn, 1))
    · refine as_aload_n X (by decide +kernel : decode cX1_standsAt 9 = .ok (.aload_n 0, 1)) rfl ?_
      refine as_get X fc_X1 (by decide +kernel : decode cX1_standsAt 10 = .ok (.getfield 19, 3)) (by decide) fl_X1_19 ?_
      refine as_iload_n X (by decide +kernel : decode cX1_standsAt 13 = .ok (.iload_n 1, 1)) rfl ?_
      refine as_iload X (by decide +kernel : decode cX1_standsAt 14 = .ok (.iload 5, 2)) ?_
      refine as_iadd X (by decide +kernel : decode cX1_standsAt 16 = .ok (.iadd, 1)) ?_
      refine as_iaload X (by decide +kernel : decode cX1_standsAt 17 = .ok (.iaload, 1)) ?_
      refine as_lload_n X (by decide +kernel : decode cX1_standsAt 18 = .ok (.lload_n 3, 1)) rfl ?_
      refine as_iload X (by decide +kernel : decode cX1_standsAt 19 = .ok (.iload 5, 2)) ?_
      refine as_cs X h_X2_at (by decide +kernel : decode cX1_standsAt 21 = .ok (.invokestatic 67, 3)) dn_X2_at ml_X1_67 st_X2_at ini_X2 co_X2_at R_X2_at ?_
      refine as_ic_eq X (tgt := 29) (by decide +kernel : decode cX1_standsAt 24 = .ok (.if_icmp .eq 5, 3)) (by decide) ?_ ?_
      · refine as_iinc X (by decide +kernel : decode cX1_standsAt 29 = .ok (.iinc 5 1, 3)) rfl ?_
        refine as_goto X (tgt := 3) (by decide +kernel : decode cX1_standsAt 32 = .ok (.goto (-29), 3)) (by decide) ?_
        exact fun _ _ _ h => h
      · refine as_iconst X (by decide +kernel : decode cX1_standsAt 27 = .ok (.iconst 0, 1)) rfl ?_
        exact as_rz X hQ hr (by decide +kernel : decode cX1_standsAt 28 = .ok (.ireturn, 1))

def B_X7_init_0 (h0 : am_H) (rc rs : Nat) (Q : am_Q) (G : Nat → am_K) : am_K := (ak_al 0 (ak_oi (ak_al 0 (ak_c (.int 200) (ak_newi h0 rc rs (ak_puta 5 0 (ak_rv Q)))))))
def cl_X7_init (h0 : am_H) (rc rs : Nat) (Q : am_Q) (G : Nat → am_K) : Prop := am_N G 0 (B_X7_init_0 h0 rc rs Q G)
def WP_X7_init (rc rs : Nat) : am_T := fun av h Q => (lg_sl av).length ≤ 1 ∧ ∀ G, cl_X7_init h rc rs Q G → G 0 (am_ent 1 av) [] h
set_option maxHeartbeats 4000000 in
set_option maxRecDepth 100000 in
theorem s_X7_init {rm : Room} (hO : 1 ≤ rm.frames ∧ 20 ≤ rm.locals) : am_S true yX7_init (am_ws yX7_init cX7_init 1 none) rm (WP_X7_init rm.cells rm.slots) := by
  refine am_S.of (fun q => by cases q) (by decide +kernel) (fun h0 Q G => cl_X7_init h0 rm.cells rm.slots Q G) ?_
  intro p l e s m args below meth c D h0 Q X hr hnm hQ
  show am_N _ 0 (B_X7_init_0  h0 rm.cells rm.slots Q _)
  · unfold B_X7_init_0
    refine as_aload_n X (by decide +kernel : decode cX7_init 0 = .ok (.aload_n 0, 1)) rfl ?_
    refine as_oi X (by decide +kernel : decode cX7_init 1 = .ok (.invokespecial 3, 3)) ml_X7_3 im_objectInit co_objectInit hO.1 hO.2 ?_
    refine as_aload_n X (by decide +kernel : decode cX7_init 4 = .ok (.aload_n 0, 1)) rfl ?_
    refine as_sipush X (by decide +kernel : decode cX7_init 5 = .ok (.sipush 200, 3)) rfl ?_
    refine as_newi X (by decide +kernel : decode cX7_init 8 = .ok (.newarray .int, 2)) ac_int ?_
    refine as_puta X fc_X7 (by decide +kernel : decode cX7_init 10 = .ok (.putfield 9, 3)) (by decide) fl_X7_9 (Or.inr ⟨rfl, hnm, rfl⟩) (Or.inl ⟨_, rfl⟩) ?_
    exact as_rv X hQ hr (by decide +kernel : decode cX7_init 13 = .ok (.return_, 1))

def B_X7_append_0 (Q : am_Q) (G : Nat → am_K) : am_K := (ak_al 0 (ak_get 5 1 (ak_c (.int 200) (ak_ic (fun x y => y ≤ x) (G 30) (ak_al 0 (ak_get 5 0 (ak_al 0 (ak_get 5 1 (ak_il 1 (ak_iast (ak_al 0 (ak_dup (ak_get 5 1 (ak_c (.int 1) (ak_ib (fun x y => x + y) (ak_puti 5 1 (G 30)))))))))))))))))
def B_X7_append_30 (Q : am_Q) (G : Nat → am_K) : am_K := (ak_rv Q)
def cl_X7_append (Q : am_Q) (G : Nat → am_K) : Prop := am_N G 0 (B_X7_append_0 Q G) ∧ am_N G 30 (B_X7_append_30 Q G)
def WP_X7_append : am_T := fun av h Q => (lg_sl av).length ≤ 2 ∧ ∀ G, cl_X7_append Q G → G 0 (am_ent 2 av) [] h
set_option maxHeartbeats 4000000 in
set_option maxRecDepth 100000 in
theorem s_X7_append {rm : Room} (hz : rm.cells = 0 ∧ rm.slots = 0) : am_S false yX7_append (am_ws yX7_append cX7_append 2 none) rm (WP_X7_append) := by
  refine am_S.of (fun _ => hz) (by decide +kernel) (fun h0 Q G => cl_X7_append Q G) ?_
  intro p l e s m args below meth c D h0 Q X hr hnm hQ
  refine ⟨?_, ?_⟩
  · unfold B_X7_append_0
    refine as_aload_n X (by decide +kernel : decode cX7_append 0 = .ok (.aload_n 0, 1)) rfl ?_
    refine as_get X fc_X7 (by decide +kernel : decode cX7_append 1 = .ok (.getfield 15, 3)) (by decide) fl_X7_15 ?_
    refine as_sipush X (by decide +kernel : decode cX7_append 4 = .ok (.sipush 200, 3)) rfl ?_
    refine as_ic_ge X (tgt := 30) (by decide +kernel : decode cX7_append 7 = .ok (.if_icmp .ge 23, 3)) (by decide) ?_ ?_
    · exact fun _ _ _ h => h
    · refine as_aload_n X (by decide +kernel : decode cX7_append 10 = .ok (.aload_n 0, 1)) rfl ?_
      refine as_get X fc_X7 (by decide +kernel : decode cX7_append 11 = .ok (.getfield 9, 3)) (by decide) fl_X7_9 ?_
      refine as_aload_n X (by decide +kernel : decode cX7_append 14 = .ok (.aload_n 0, 1)) rfl ?_
      refine as_get X fc_X7 (by decide +kernel : decode cX7_append 15 = .ok (.getfield 15, 3)) (by decide) fl_X7_15 ?_
      refine as_iload_n X (by decide +kernel : decode cX7_append 18 = .ok (.iload_n 1, 1)) rfl ?_
      refine as_iastore X (by decide +kernel : decode cX7_append 19 = .ok (.iastore, 1)) ?_
      refine as_aload_n X (by decide +kernel : decode cX7_append 20 = .ok (.aload_n 0, 1)) rfl ?_
      refine as_dup X (by decide +kernel : decode cX7_append 21 = .ok (.dup, 1)) ?_
      refine as_get X fc_X7 (by decide +kernel : decode cX7_append 22 = .ok (.getfield 15, 3)) (by decide) fl_X7_15 ?_
      refine as_iconst X (by decide +kernel : decode cX7_append 25 = .ok (.iconst 1, 1)) rfl ?_
      refine as_iadd X (by decide +kernel : decode cX7_append 26 = .ok (.iadd, 1)) ?_
      refine as_puti X fc_X7 (by decide +kernel : decode cX7_append 27 = .ok (.putfield 15, 3)) (by decide) fl_X7_15 (Or.inl rfl) rfl ?_
      exact fun _ _ _ h => h
  · unfold B_X7_append_30
    exact as_rv X hQ hr (by decide +kernel : decode cX7_append 30 = .ok (.return_, 1))

def B_X7_replace_0 (kJ0_length_8abf5 : am_T) (kJ0_charAt_5068e : am_T) (kX7_append : am_T) (Q : am_Q) (G : Nat → am_K) : am_K := (ak_al 0 (ak_c (.int 0) (ak_puti 5 1 (ak_c (.int 0) (ak_is 2 (G 7))))))
def B_X7_replace_7 (kJ0_length_8abf5 : am_T) (kJ0_charAt_5068e : am_T) (kX7_append : am_T) (Q : am_Q) (G : Nat → am_K) : am_K := (ak_il 2 (ak_al 1 (ak_ct 1 kJ0_length_8abf5 (ak_ic (fun x y => y ≤ x) (ak_rv Q) (ak_al 0 (ak_al 1 (ak_il 2 (ak_ct 2 kJ0_charAt_5068e (ak_cv 2 5 kX7_append (ak_ii 2 1 (G 7)))))))))))
def cl_X7_replace (kJ0_length_8abf5 : am_T) (kJ0_charAt_5068e : am_T) (kX7_append : am_T) (Q : am_Q) (G : Nat → am_K) : Prop := am_N G 0 (B_X7_replace_0 kJ0_length_8abf5 kJ0_charAt_5068e kX7_append Q G) ∧ am_N G 7 (B_X7_replace_7 kJ0_length_8abf5 kJ0_charAt_5068e kX7_append Q G)
def WP_X7_replace (kJ0_length_8abf5 : am_T) (kJ0_charAt_5068e : am_T) (kX7_append : am_T) : am_T := fun av h Q => (lg_sl av).length ≤ 3 ∧ ∀ G, cl_X7_replace kJ0_length_8abf5 kJ0_charAt_5068e kX7_append Q G → G 0 (am_ent 3 av) [] h
set_option maxHeartbeats 4000000 in
set_option maxRecDepth 100000 in
theorem s_X7_replace {mJ0_length_8abf5 : Room} {kJ0_length_8abf5 : am_T} (h_J0_length_8abf5 : am_S false yJ0_length_8abf5 (am_ws yJ0_length_8abf5 cJ0_length_8abf5 1 (some .int)) mJ0_length_8abf5 kJ0_length_8abf5) {mJ0_charAt_5068e : Room} {kJ0_charAt_5068e : am_T} (h_J0_charAt_5068e : am_S false yJ0_charAt_5068e (am_ws yJ0_charAt_5068e cJ0_charAt_5068e 2 (some .char)) mJ0_charAt_5068e kJ0_charAt_5068e) {mX7_append : Room} {kX7_append : am_T} (h_X7_append : am_S false yX7_append (am_ws yX7_append cX7_append 2 none) mX7_append kX7_append) {rm : Room} (hz : rm.cells = 0 ∧ rm.slots = 0) (R_J0_length_8abf5 : mJ0_length_8abf5.frames + 1 ≤ rm.frames ∧ 8 + (1 + 11) + mJ0_length_8abf5.locals ≤ rm.locals) (R_J0_charAt_5068e : mJ0_charAt_5068e.frames + 1 ≤ rm.frames ∧ 8 + (2 + 11) + mJ0_charAt_5068e.locals ≤ rm.locals) (R_X7_append : mX7_append.frames + 1 ≤ rm.frames ∧ 8 + (2 + 11) + mX7_append.locals ≤ rm.locals) : am_S false yX7_replace (am_ws yX7_replace cX7_replace 3 none) rm (WP_X7_replace kJ0_length_8abf5 kJ0_charAt_5068e kX7_append) := by
  refine am_S.of (fun _ => hz) (by decide +kernel) (fun h0 Q G => cl_X7_replace kJ0_length_8abf5 kJ0_charAt_5068e kX7_append Q G) ?_
  intro p l e s m args below meth c D h0 Q X hr hnm hQ
  refine ⟨?_, ?_⟩
  · unfold B_X7_replace_0
    refine as_aload_n X (by decide +kernel : decode cX7_replace 0 = .ok (.aload_n 0, 1)) rfl ?_
    refine as_iconst X (by decide +kernel : decode cX7_replace 1 = .ok (.iconst 0, 1)) rfl ?_
    refine as_puti X fc_X7 (by decide +kernel : decode cX7_replace 2 = .ok (.putfield 15, 3)) (by decide) fl_X7_15 (Or.inl rfl) rfl ?_
    refine as_iconst X (by decide +kernel : decode cX7_replace 5 = .ok (.iconst 0, 1)) rfl ?_
    refine as_istore_n X (by decide +kernel : decode cX7_replace 6 = .ok (.istore_n 2, 1)) rfl ?_
    exact fun _ _ _ h => h
  · unfold B_X7_replace_7
    refine as_iload_n X (by decide +kernel : decode cX7_replace 7 = .ok (.iload_n 2, 1)) rfl ?_
    refine as_aload_n X (by decide +kernel : decode cX7_replace 8 = .ok (.aload_n 1, 1)) rfl ?_
    refine as_ct X h_J0_length_8abf5 rfl (by decide +kernel : decode cX7_replace 9 = .ok (.invokevirtual 19, 3)) dn_J0_length_8abf5 ml_X7_19 im_J0_length_8abf5 se_J0_length_8abf5 ini_J0 co_J0_length_8abf5 R_J0_length_8abf5 ?_
    refine as_ic_ge X (tgt := 30) (by decide +kernel : decode cX7_replace 12 = .ok (.if_icmp .ge 18, 3)) (by decide) ?_ ?_
    · exact as_rv X hQ hr (by decide +kernel : decode cX7_replace 30 = .ok (.return_, 1))
    · refine as_aload_n X (by decide +kernel : decode cX7_replace 15 = .ok (.aload_n 0, 1)) rfl ?_
      refine as_aload_n X (by decide +kernel : decode cX7_replace 16 = .ok (.aload_n 1, 1)) rfl ?_
      refine as_iload_n X (by decide +kernel : decode cX7_replace 17 = .ok (.iload_n 2, 1)) rfl ?_
      refine as_ct X h_J0_charAt_5068e rfl (by decide +kernel : decode cX7_replace 18 = .ok (.invokevirtual 24, 3)) dn_J0_charAt_5068e ml_X7_24 im_J0_charAt_5068e se_J0_charAt_5068e ini_J0 co_J0_charAt_5068e R_J0_charAt_5068e ?_
      refine as_cv X h_X7_append rfl (by decide +kernel : decode cX7_replace 21 = .ok (.invokevirtual 28, 3)) dn_X7_append ml_X7_28 im_X7_append se_X7_append ini_X7 co_X7_append R_X7_append ?_
      refine as_iinc X (by decide +kernel : decode cX7_replace 24 = .ok (.iinc 2 1, 3)) rfl ?_
      refine as_goto X (tgt := 7) (by decide +kernel : decode cX7_replace 27 = .ok (.goto (-20), 3)) (by decide) ?_
      exact fun _ _ _ h => h

def B_X7_at_0 (Q : am_Q) (G : Nat → am_K) : am_K := (ak_il 1 (ak_if (fun x => x < 0) (G 21) (ak_il 1 (ak_al 0 (ak_get 5 1 (ak_ic (fun x y => y ≤ x) (G 21) (ak_al 0 (ak_get 5 0 (ak_il 1 (ak_iald (G 22)))))))))))
def B_X7_at_21 (Q : am_Q) (G : Nat → am_K) : am_K := (ak_c (.int 0) (G 22))
def B_X7_at_22 (Q : am_Q) (G : Nat → am_K) : am_K := (ak_ri Q)
def cl_X7_at (Q : am_Q) (G : Nat → am_K) : Prop := am_N G 0 (B_X7_at_0 Q G) ∧ am_N G 21 (B_X7_at_21 Q G) ∧ am_N G 22 (B_X7_at_22 Q G)
def WP_X7_at : am_T := fun av h Q => (lg_sl av).length ≤ 2 ∧ ∀ G, cl_X7_at Q G → G 0 (am_ent 2 av) [] h
set_option maxHeartbeats 4000000 in
set_option maxRecDepth 100000 in
theorem s_X7_at {rm : Room} (hz : rm.cells = 0 ∧ rm.slots = 0) : am_S false yX7_at (am_ws yX7_at cX7_at 2 (some .int)) rm (WP_X7_at) := by
  refine am_S.of (fun _ => hz) (by decide +kernel) (fun h0 Q G => cl_X7_at Q G) ?_
  intro p l e s m args below meth c D h0 Q X hr hnm hQ
  refine ⟨?_, ?_, ?_⟩
  · unfold B_X7_at_0
    refine as_iload_n X (by decide +kernel : decode cX7_at 0 = .ok (.iload_n 1, 1)) rfl ?_
    refine as_if_lt X (tgt := 21) (by decide +kernel : decode cX7_at 1 = .ok (.ifCond .lt 20, 3)) (by decide) ?_ ?_
    · exact fun _ _ _ h => h
    · refine as_iload_n X (by decide +kernel : decode cX7_at 4 = .ok (.iload_n 1, 1)) rfl ?_
      refine as_aload_n X (by decide +kernel : decode cX7_at 5 = .ok (.aload_n 0, 1)) rfl ?_
      refine as_get X fc_X7 (by decide +kernel : decode cX7_at 6 = .ok (.getfield 15, 3)) (by decide) fl_X7_15 ?_
      refine as_ic_ge X (tgt := 21) (by decide +kernel : decode cX7_at 9 = .ok (.if_icmp .ge 12, 3)) (by decide) ?_ ?_
      · exact fun _ _ _ h => h
      · refine as_aload_n X (by decide +kernel : decode cX7_at 12 = .ok (.aload_n 0, 1)) rfl ?_
        refine as_get X fc_X7 (by decide +kernel : decode cX7_at 13 = .ok (.getfield 9, 3)) (by decide) fl_X7_9 ?_
        refine as_iload_n X (by decide +kernel : decode cX7_at 16 = .ok (.iload_n 1, 1)) rfl ?_
        refine as_iaload X (by decide +kernel : decode cX7_at 17 = .ok (.iaload, 1)) ?_
        refine as_goto X (tgt := 22) (by decide +kernel : decode cX7_at 18 = .ok (.goto 4, 3)) (by decide) ?_
        exact fun _ _ _ h => h
  · unfold B_X7_at_21
    refine as_iconst X (by decide +kernel : decode cX7_at 21 = .ok (.iconst 0, 1)) rfl ?_
    exact fun _ _ _ h => h
  · unfold B_X7_at_22
    exact as_ri X hQ hr (by decide +kernel : decode cX7_at 22 = .ok (.ireturn, 1))

def B_X7_wordEnd_0 (kX7_at : am_T) (Q : am_Q) (G : Nat → am_K) : am_K := (ak_il 1 (ak_is 2 (G 2)))
def B_X7_wordEnd_2 (kX7_at : am_T) (Q : am_Q) (G : Nat → am_K) : am_K := (ak_il 2 (ak_al 0 (ak_get 5 1 (ak_ic (fun x y => y ≤ x) (G 36) (ak_al 0 (ak_il 2 (ak_cv 2 5 kX7_at (ak_c (.int 97) (ak_ic (fun x y => x < y) (G 36) (ak_al 0 (ak_il 2 (ak_cv 2 5 kX7_at (ak_c (.int 122) (ak_ic (fun x y => y < x) (G 36) (ak_ii 2 1 (G 2))))))))))))))))
def B_X7_wordEnd_36 (kX7_at : am_T) (Q : am_Q) (G : Nat → am_K) : am_K := (ak_il 2 (ak_ri Q))
def cl_X7_wordEnd (kX7_at : am_T) (Q : am_Q) (G : Nat → am_K) : Prop := am_N G 0 (B_X7_wordEnd_0 kX7_at Q G) ∧ am_N G 2 (B_X7_wordEnd_2 kX7_at Q G) ∧ am_N G 36 (B_X7_wordEnd_36 kX7_at Q G)
def WP_X7_wordEnd (kX7_at : am_T) : am_T := fun av h Q => (lg_sl av).length ≤ 3 ∧ ∀ G, cl_X7_wordEnd kX7_at Q G → G 0 (am_ent 3 av) [] h
set_option maxHeartbeats 4000000 in
set_option maxRecDepth 100000 in
theorem s_X7_wordEnd {mX7_at : Room} {kX7_at : am_T} (h_X7_at : am_S false yX7_at (am_ws yX7_at cX7_at 2 (some .int)) mX7_at kX7_at) {rm : Room} (hz : rm.cells = 0 ∧ rm.slots = 0) (R_X7_at : mX7_at.frames + 1 ≤ rm.frames ∧ 8 + (2 + 11) + mX7_at.locals ≤ rm.locals) : am_S false yX7_wordEnd (am_ws yX7_wordEnd cX7_wordEnd 3 (some .int)) rm (WP_X7_wordEnd kX7_at) := by
  refine am_S.of (fun _ => hz) (by decide +kernel) (fun h0 Q G => cl_X7_wordEnd kX7_at Q G) ?_
  intro p l e s m args below meth c D h0 Q X hr hnm hQ
  refine ⟨?_, ?_, ?_⟩
  · unfold B_X7_wordEnd_0
    refine as_iload_n X (by decide +kernel : decode cX7_wordEnd 0 = .ok (.iload_n 1, 1)) rfl ?_
    refine as_istore_n X (by decide +kernel : decode cX7_wordEnd 1 = .ok (.istore_n 2, 1)) rfl ?_
    exact fun _ _ _ h => h
  · unfold B_X7_wordEnd_2
    refine as_iload_n X (by decide +kernel : decode cX7_wordEnd 2 = .ok (.iload_n 2, 1)) rfl ?_
    refine as_aload_n X (by decide +kernel : decode cX7_wordEnd 3 = .ok (.aload_n 0, 1)) rfl ?_
    refine as_get X fc_X7 (by decide +kernel : decode cX7_wordEnd 4 = .ok (.getfield 15, 3)) (by decide) fl_X7_15 ?_
    refine as_ic_ge X (tgt := 36) (by decide +kernel : decode cX7_wordEnd 7 = .ok (.if_icmp .ge 29, 3)) (by decide) ?_ ?_
    · exact fun _ _ _ h => h
    · refine as_aload_n X (by decide +kernel : decode cX7_wordEnd 10 = .ok (.aload_n 0, 1)) rfl ?_
      refine as_iload_n X (by decide +kernel : decode cX7_wordEnd 11 = .ok (.iload_n 2, 1)) rfl ?_
      refine as_cv X h_X7_at rfl (by decide +kernel : decode cX7_wordEnd 12 = .ok (.invokevirtual 32, 3)) dn_X7_at ml_X7_32 im_X7_at se_X7_at ini_X7 co_X7_at R_X7_at ?_
      refine as_bipush X (by decide +kernel : decode cX7_wordEnd 15 = .ok (.bipush 97, 2)) rfl ?_
      refine as_ic_lt X (tgt := 36) (by decide +kernel : decode cX7_wordEnd 17 = .ok (.if_icmp .lt 19, 3)) (by decide) ?_ ?_
      · exact fun _ _ _ h => h
      · refine as_aload_n X (by decide +kernel : decode cX7_wordEnd 20 = .ok (.aload_n 0, 1)) rfl ?_
        refine as_iload_n X (by decide +kernel : decode cX7_wordEnd 21 = .ok (.iload_n 2, 1)) rfl ?_
        refine as_cv X h_X7_at rfl (by decide +kernel : decode cX7_wordEnd 22 = .ok (.invokevirtual 32, 3)) dn_X7_at ml_X7_32 im_X7_at se_X7_at ini_X7 co_X7_at R_X7_at ?_
        refine as_bipush X (by decide +kernel : decode cX7_wordEnd 25 = .ok (.bipush 122, 2)) rfl ?_
        refine as_ic_gt X (tgt := 36) (by decide +kernel : decode cX7_wordEnd 27 = .ok (.if_icmp .gt 9, 3)) (by decide) ?_ ?_
        · exact fun _ _ _ h => h
        · refine as_iinc X (by decide +kernel : decode cX7_wordEnd 30 = .ok (.iinc 2 1, 3)) rfl ?_
          refine as_goto X (tgt := 2) (by decide +kernel : decode cX7_wordEnd 33 = .ok (.goto (-31), 3)) (by decide) ?_
          exact fun _ _ _ h => h
  · unfold B_X7_wordEnd_36
    refine as_iload_n X (by decide +kernel : decode cX7_wordEnd 36 = .ok (.iload_n 2, 1)) rfl ?_
    exact as_ri X hQ hr (by decide +kernel : decode cX7_wordEnd 37 = .ok (.ireturn, 1))

def B_X7_packed_0 (kX7_at : am_T) (kX2_with : am_T) (Q : am_Q) (G : Nat → am_K) : am_K := (ak_c (.long 0) (ak_ls 3 (ak_il 1 (ak_is 5 (G 5)))))
def B_X7_packed_5 (kX7_at : am_T) (kX2_with : am_T) (Q : am_Q) (G : Nat → am_K) : am_K := (ak_il 5 (ak_il 2 (ak_ic (fun x y => y ≤ x) (ak_ll 3 (ak_rl Q)) (ak_ll 3 (ak_il 5 (ak_il 1 (ak_ib (fun x y => x - y) (ak_al 0 (ak_il 5 (ak_cv 2 5 kX7_at (ak_cs 3 kX2_with (ak_ls 3 (ak_ii 5 1 (G 5))))))))))))))
def cl_X7_packed (kX7_at : am_T) (kX2_with : am_T) (Q : am_Q) (G : Nat → am_K) : Prop := am_N G 0 (B_X7_packed_0 kX7_at kX2_with Q G) ∧ am_N G 5 (B_X7_packed_5 kX7_at kX2_with Q G)
def WP_X7_packed (kX7_at : am_T) (kX2_with : am_T) : am_T := fun av h Q => (lg_sl av).length ≤ 6 ∧ ∀ G, cl_X7_packed kX7_at kX2_with Q G → G 0 (am_ent 6 av) [] h
set_option maxHeartbeats 4000000 in
set_option maxRecDepth 100000 in
theorem s_X7_packed {mX7_at : Room} {kX7_at : am_T} (h_X7_at : am_S false yX7_at (am_ws yX7_at cX7_at 2 (some .int)) mX7_at kX7_at) {mX2_with : Room} {kX2_with : am_T} (h_X2_with : am_S false yX2_with (am_ws yX2_with cX2_with 4 (some .long)) mX2_with kX2_with) {rm : Room} (hz : rm.cells = 0 ∧ rm.slots = 0) (R_X7_at : mX7_at.frames + 1 ≤ rm.frames ∧ 8 + (2 + 11) + mX7_at.locals ≤ rm.locals) (R_X2_with : mX2_with.frames + 1 ≤ rm.frames ∧ 8 + (4 + 11) + mX2_with.locals ≤ rm.locals) : am_S false yX7_packed (am_ws yX7_packed cX7_packed 6 (some .long)) rm (WP_X7_packed kX7_at kX2_with) := by
  refine am_S.of (fun _ => hz) (by decide +kernel) (fun h0 Q G => cl_X7_packed kX7_at kX2_with Q G) ?_
  intro p l e s m args below meth c D h0 Q X hr hnm hQ
  refine ⟨?_, ?_⟩
  · unfold B_X7_packed_0
    refine as_lconst X (by decide +kernel : decode cX7_packed 0 = .ok (.lconst 0, 1)) rfl ?_
    refine as_lstore_n X (by decide +kernel : decode cX7_packed 1 = .ok (.lstore_n 3, 1)) rfl ?_
    refine as_iload_n X (by decide +kernel : decode cX7_packed 2 = .ok (.iload_n 1, 1)) rfl ?_
    refine as_istore X (by decide +kernel : decode cX7_packed 3 = .ok (.istore 5, 2)) ?_
    exact fun _ _ _ h => h
  · unfold B_X7_packed_5
    refine as_iload X (by decide +kernel : decode cX7_packed 5 = .ok (.iload 5, 2)) ?_
    refine as_iload_n X (by decide +kernel : decode cX7_packed 7 = .ok (.iload_n 2, 1)) rfl ?_
    refine as_ic_ge X (tgt := 32) (by decide +kernel : decode cX7_packed 8 = .ok (.if_icmp .ge 24, 3)) (by decide) ?_ ?_
    · refine as_lload_n X (by decide +kernel : decode cX7_packed 32 = .ok (.lload_n 3, 1)) rfl ?_
      exact as_rl X hQ hr (by decide +kernel : decode cX7_packed 33 = .ok (.lreturn, 1))
    · refine as_lload_n X (by decide +kernel : decode cX7_packed 11 = .ok (.lload_n 3, 1)) rfl ?_
      refine as_iload X (by decide +kernel : decode cX7_packed 12 = .ok (.iload 5, 2)) ?_
      refine as_iload_n X (by decide +kernel : decode cX7_packed 14 = .ok (.iload_n 1, 1)) rfl ?_
      refine as_isub X (by decide +kernel : decode cX7_packed 15 = .ok (.isub, 1)) ?_
      refine as_aload_n X (by decide +kernel : decode cX7_packed 16 = .ok (.aload_n 0, 1)) rfl ?_
      refine as_iload X (by decide +kernel : decode cX7_packed 17 = .ok (.iload 5, 2)) ?_
      refine as_cv X h_X7_at rfl (by decide +kernel : decode cX7_packed 19 = .ok (.invokevirtual 32, 3)) dn_X7_at ml_X7_32 im_X7_at se_X7_at ini_X7 co_X7_at R_X7_at ?_
      refine as_cs X h_X2_with (by decide +kernel : decode cX7_packed 22 = .ok (.invokestatic 36, 3)) dn_X2_with ml_X7_36 st_X2_with ini_X2 co_X2_with R_X2_with ?_
      refine as_lstore_n X (by decide +kernel : decode cX7_packed 25 = .ok (.lstore_n 3, 1)) rfl ?_
      refine as_iinc X (by decide +kernel : decode cX7_packed 26 = .ok (.iinc 5 1, 3)) rfl ?_
      refine as_goto X (tgt := 5) (by decide +kernel : decode cX7_packed 29 = .ok (.goto (-24), 3)) (by decide) ?_
      exact fun _ _ _ h => h

def B_X7_faultPlace_0 (kX7_entryEnd : am_T) (Q : am_Q) (G : Nat → am_K) : am_K := (ak_c (.int 0) (ak_is 1 (G 2)))
def B_X7_faultPlace_2 (kX7_entryEnd : am_T) (Q : am_Q) (G : Nat → am_K) : am_K := (ak_il 1 (ak_al 0 (ak_get 5 1 (ak_ic (fun x y => y ≤ x) (ak_c (.int (-4)) (ak_ri Q)) (ak_al 0 (ak_il 1 (ak_cv 2 5 kX7_entryEnd (ak_is 2 (ak_il 2 (ak_il 1 (ak_ic (fun x y => y < x) (ak_il 2 (ak_is 1 (G 2))) (ak_il 1 (ak_ri Q)))))))))))))
def cl_X7_faultPlace (kX7_entryEnd : am_T) (Q : am_Q) (G : Nat → am_K) : Prop := am_N G 0 (B_X7_faultPlace_0 kX7_entryEnd Q G) ∧ am_N G 2 (B_X7_faultPlace_2 kX7_entryEnd Q G)
def WP_X7_faultPlace (kX7_entryEnd : am_T) : am_T := fun av h Q => (lg_sl av).length ≤ 3 ∧ ∀ G, cl_X7_faultPlace kX7_entryEnd Q G → G 0 (am_ent 3 av) [] h
set_option maxHeartbeats 4000000 in
set_option maxRecDepth 100000 in
theorem s_X7_faultPlace {mX7_entryEnd : Room} {kX7_entryEnd : am_T} (h_X7_entryEnd : am_S false yX7_entryEnd (am_ws yX7_entryEnd cX7_entryEnd 5 (some .int)) mX7_entryEnd kX7_entryEnd) {rm : Room} (hz : rm.cells = 0 ∧ rm.slots = 0) (R_X7_entryEnd : mX7_entryEnd.frames + 1 ≤ rm.frames ∧ 8 + (5 + 11) + mX7_entryEnd.locals ≤ rm.locals) : am_S false yX7_faultPlace (am_ws yX7_faultPlace cX7_faultPlace 3 (some .int)) rm (WP_X7_faultPlace kX7_entryEnd) := by
  refine am_S.of (fun _ => hz) (by decide +kernel) (fun h0 Q G => cl_X7_faultPlace kX7_entryEnd Q G) ?_
  intro p l e s m args below meth c D h0 Q X hr hnm hQ
  refine ⟨?_, ?_⟩
  · unfold B_X7_faultPlace_0
    refine as_iconst X (by decide +kernel : decode cX7_faultPlace 0 = .ok (.iconst 0, 1)) rfl ?_
    refine as_istore_n X (by decide +kernel : decode cX7_faultPlace 1 = .ok (.istore_n 1, 1)) rfl ?_
    exact fun _ _ _ h => h
  · unfold B_X7_faultPlace_2
    refine as_iload_n X (by decide +kernel : decode cX7_faultPlace 2 = .ok (.iload_n 1, 1)) rfl ?_
    refine as_aload_n X (by decide +kernel : decode cX7_faultPlace 3 = .ok (.aload_n 0, 1)) rfl ?_
    refine as_get X fc_X7 (by decide +kernel : decode cX7_faultPlace 4 = .ok (.getfield 15, 3)) (by decide) fl_X7_15 ?_
    refine as_ic_ge X (tgt := 28) (by decide +kernel : decode cX7_faultPlace 7 = .ok (.if_icmp .ge 21, 3)) (by decide) ?_ ?_
    · refine as_bipush X (by decide +kernel : decode cX7_faultPlace 28 = .ok (.bipush (-4), 2)) rfl ?_
      exact as_ri X hQ hr (by decide +kernel : decode cX7_faultPlace 30 = .ok (.ireturn, 1))
    · refine as_aload_n X (by decide +kernel : decode cX7_faultPlace 10 = .ok (.aload_n 0, 1)) rfl ?_
      refine as_iload_n X (by decide +kernel : decode cX7_faultPlace 11 = .ok (.iload_n 1, 1)) rfl ?_
      refine as_cv X h_X7_entryEnd rfl (by decide +kernel : decode cX7_faultPlace 12 = .ok (.invokevirtual 42, 3)) dn_X7_entryEnd ml_X7_42 im_X7_entryEnd se_X7_entryEnd ini_X7 co_X7_entryEnd R_X7_entryEnd ?_
      refine as_istore_n X (by decide +kernel : decode cX7_faultPlace 15 = .ok (.istore_n 2, 1)) rfl ?_
      refine as_iload_n X (by decide +kernel : decode cX7_faultPlace 16 = .ok (.iload_n 2, 1)) rfl ?_
      refine as_iload_n X (by decide +kernel : decode cX7_faultPlace 17 = .ok (.iload_n 1, 1)) rfl ?_
      refine as_ic_gt X (tgt := 23) (by decide +kernel : decode cX7_faultPlace 18 = .ok (.if_icmp .gt 5, 3)) (by decide) ?_ ?_
      · refine as_iload_n X (by decide +kernel : decode cX7_faultPlace 23 = .ok (.iload_n 2, 1)) rfl ?_
        refine as_istore_n X (by decide +kernel : decode cX7_faultPlace 24 = .ok (.istore_n 1, 1)) rfl ?_
        refine as_goto X (tgt := 2) (by decide +kernel : decode cX7_faultPlace 25 = .ok (.goto (-23), 3)) (by decide) ?_
        exact fun _ _ _ h => h
      · refine as_iload_n X (by decide +kernel : decode cX7_faultPlace 21 = .ok (.iload_n 1, 1)) rfl ?_
        exact as_ri X hQ hr (by decide +kernel : decode cX7_faultPlace 22 = .ok (.ireturn, 1))

def B_X7_entryEnd_0 (kX7_wordEnd : am_T) (kX7_at : am_T) (kX8_sortOf : am_T) (Q : am_Q) (G : Nat → am_K) : am_K := (ak_al 0 (ak_il 1 (ak_cv 2 5 kX7_wordEnd (ak_is 2 (ak_il 2 (ak_il 1 (ak_ic (fun x y => x = y) (G 19) (ak_il 2 (ak_il 1 (ak_ib (fun x y => x - y) (ak_c (.int 7) (ak_ic (fun x y => x ≤ y) (ak_il 2 (ak_c (.int 1) (ak_ib (fun x y => x + y) (ak_is 3 (ak_al 0 (ak_il 2 (ak_cv 2 5 kX7_at (ak_c (.int 61) (ak_ic (fun x y => x = y) (ak_al 0 (ak_il 3 (ak_cv 2 5 kX7_wordEnd (ak_is 4 (ak_il 4 (ak_il 3 (ak_ic (fun x y => x = y) (G 58) (ak_il 4 (ak_il 3 (ak_ib (fun x y => x - y) (ak_c (.int 8) (ak_ic (fun x y => x ≤ y) (G 95) (G 58))))))))))))) (ak_al 0 (ak_il 2 (ak_cv 2 5 kX7_at (ak_c (.int 47) (ak_ic (fun x y => x = y) (ak_al 0 (ak_il 3 (ak_cv 2 5 kX7_at (ak_cs 1 kX8_sortOf (ak_c (.int (-4)) (ak_ic (fun x y => x = y) (G 92) (ak_il 3 (ak_c (.int 1) (ak_ib (fun x y => x + y) (ak_is 4 (G 95))))))))))) (G 92))))))))))))))) (G 19)))))))))))))
def B_X7_entryEnd_19 (kX7_wordEnd : am_T) (kX7_at : am_T) (kX8_sortOf : am_T) (Q : am_Q) (G : Nat → am_K) : am_K := (ak_c (.int (-4)) (ak_ri Q))
def B_X7_entryEnd_58 (kX7_wordEnd : am_T) (kX7_at : am_T) (kX8_sortOf : am_T) (Q : am_Q) (G : Nat → am_K) : am_K := (ak_c (.int (-4)) (ak_ri Q))
def B_X7_entryEnd_92 (kX7_wordEnd : am_T) (kX7_at : am_T) (kX8_sortOf : am_T) (Q : am_Q) (G : Nat → am_K) : am_K := (ak_c (.int (-4)) (ak_ri Q))
def B_X7_entryEnd_95 (kX7_wordEnd : am_T) (kX7_at : am_T) (kX8_sortOf : am_T) (Q : am_Q) (G : Nat → am_K) : am_K := (ak_al 0 (ak_il 4 (ak_cv 2 5 kX7_at (ak_c (.int 59) (ak_ic (fun x y => x = y) (ak_il 4 (ak_c (.int 1) (ak_ib (fun x y => x + y) (G 115)))) (ak_c (.int (-4)) (G 115)))))))
def B_X7_entryEnd_115 (kX7_wordEnd : am_T) (kX7_at : am_T) (kX8_sortOf : am_T) (Q : am_Q) (G : Nat → am_K) : am_K := (ak_ri Q)
def cl_X7_entryEnd (kX7_wordEnd : am_T) (kX7_at : am_T) (kX8_sortOf : am_T) (Q : am_Q) (G : Nat → am_K) : Prop := am_N G 0 (B_X7_entryEnd_0 kX7_wordEnd kX7_at kX8_sortOf Q G) ∧ am_N G 19 (B_X7_entryEnd_19 kX7_wordEnd kX7_at kX8_sortOf Q G) ∧ am_N G 58 (B_X7_entryEnd_58 kX7_wordEnd kX7_at kX8_sortOf Q G) ∧ am_N G 92 (B_X7_entryEnd_92 kX7_wordEnd kX7_at kX8_sortOf Q G) ∧ am_N G 95 (B_X7_entryEnd_95 kX7_wordEnd kX7_at kX8_sortOf Q G) ∧ am_N G 115 (B_X7_entryEnd_115 kX7_wordEnd kX7_at kX8_sortOf Q G)
def WP_X7_entryEnd (kX7_wordEnd : am_T) (kX7_at : am_T) (kX8_sortOf : am_T) : am_T := fun av h Q => (lg_sl av).length ≤ 5 ∧ ∀ G, cl_X7_entryEnd kX7_wordEnd kX7_at kX8_sortOf Q G → G 0 (am_ent 5 av) [] h
set_option maxHeartbeats 4000000 in
set_option maxRecDepth 100000 in
theorem s_X7_entryEnd {mX7_wordEnd : Room} {kX7_wordEnd : am_T} (h_X7_wordEnd : am_S false yX7_wordEnd (am_ws yX7_wordEnd cX7_wordEnd 3 (some .int)) mX7_wordEnd kX7_wordEnd) {mX7_at : Room} {kX7_at : am_T} (h_X7_at : am_S false yX7_at (am_ws yX7_at cX7_at 2 (some .int)) mX7_at kX7_at) {mX8_sortOf : Room} {kX8_sortOf : am_T} (h_X8_sortOf : am_S false yX8_sortOf (am_ws yX8_sortOf cX8_sortOf 2 (some .int)) mX8_sortOf kX8_sortOf) {rm : Room} (hz : rm.cells = 0 ∧ rm.slots = 0) (R_X7_wordEnd : mX7_wordEnd.frames + 1 ≤ rm.frames ∧ 8 + (3 + 11) + mX7_wordEnd.locals ≤ rm.locals) (R_X7_at : mX7_at.frames + 1 ≤ rm.frames ∧ 8 + (2 + 11) + mX7_at.locals ≤ rm.locals) (R_X8_sortOf : mX8_sortOf.frames + 1 ≤ rm.frames ∧ 8 + (2 + 11) + mX8_sortOf.locals ≤ rm.locals) : am_S false yX7_entryEnd (am_ws yX7_entryEnd cX7_entryEnd 5 (some .int)) rm (WP_X7_entryEnd kX7_wordEnd kX7_at kX8_sortOf) := by
  refine am_S.of (fun _ => hz) (by decide +kernel) (fun h0 Q G => cl_X7_entryEnd kX7_wordEnd kX7_at kX8_sortOf Q G) ?_
  intro p l e s m args below meth c D h0 Q X hr hnm hQ
  refine ⟨?_, ?_, ?_, ?_, ?_, ?_⟩
  · unfold B_X7_entryEnd_0
    refine as_aload_n X (by decide +kernel : decode cX7_entryEnd 0 = .ok (.aload_n 0, 1)) rfl ?_
    refine as_iload_n X (by decide +kernel : decode cX7_entryEnd 1 = .ok (.iload_n 1, 1)) rfl ?_
    refine as_cv X h_X7_wordEnd rfl (by decide +kernel : decode cX7_entryEnd 2 = .ok (.invokevirtual 45, 3)) dn_X7_wordEnd ml_X7_45 im_X7_wordEnd se_X7_wordEnd ini_X7 co_X7_wordEnd R_X7_wordEnd ?_
    refine as_istore_n X (by decide +kernel : decode cX7_entryEnd 5 = .ok (.istore_n 2, 1)) rfl ?_
    refine as_iload_n X (by decide +kernel : decode cX7_entryEnd 6 = .ok (.iload_n 2, 1)) rfl ?_
    refine as_iload_n X (by decide +kernel : decode cX7_entryEnd 7 = .ok (.iload_n 1, 1)) rfl ?_
    refine as_ic_eq X (tgt := 19) (by decide +kernel : decode cX7_entryEnd 8 = .ok (.if_icmp .eq 11, 3)) (by decide) ?_ ?_
    · exact fun _ _ _ h => h
    · refine as_iload_n X (by decide +kernel : decode cX7_entryEnd 11 = .ok (.iload_n 2, 1)) rfl ?_
      refine as_iload_n X (by decide +kernel : decode cX7_entryEnd 12 = .ok (.iload_n 1, 1)) rfl ?_
      refine as_isub X (by decide +kernel : decode cX7_entryEnd 13 = .ok (.isub, 1)) ?_
      refine as_bipush X (by decide +kernel : decode cX7_entryEnd 14 = .ok (.bipush 7, 2)) rfl ?_
      refine as_ic_le X (tgt := 22) (by decide +kernel : decode cX7_entryEnd 16 = .ok (.if_icmp .le 6, 3)) (by decide) ?_ ?_
      · refine as_iload_n X (by decide +kernel : decode cX7_entryEnd 22 = .ok (.iload_n 2, 1)) rfl ?_
        refine as_iconst X (by decide +kernel : decode cX7_entryEnd 23 = .ok (.iconst 1, 1)) rfl ?_
        refine as_iadd X (by decide +kernel : decode cX7_entryEnd 24 = .ok (.iadd, 1)) ?_
        refine as_istore_n X (by decide +kernel : decode cX7_entryEnd 25 = .ok (.istore_n 3, 1)) rfl ?_
        refine as_aload_n X (by decide +kernel : decode cX7_entryEnd 26 = .ok (.aload_n 0, 1)) rfl ?_
        refine as_iload_n X (by decide +kernel : decode cX7_entryEnd 27 = .ok (.iload_n 2, 1)) rfl ?_
        refine as_cv X h_X7_at rfl (by decide +kernel : decode cX7_entryEnd 28 = .ok (.invokevirtual 32, 3)) dn_X7_at ml_X7_32 im_X7_at se_X7_at ini_X7 co_X7_at R_X7_at ?_
        refine as_bipush X (by decide +kernel : decode cX7_entryEnd 31 = .ok (.bipush 61, 2)) rfl ?_
        refine as_ic_ne X (tgt := 61) (by decide +kernel : decode cX7_entryEnd 33 = .ok (.if_icmp .ne 28, 3)) (by decide) ?_ ?_
        · refine as_aload_n X (by decide +kernel : decode cX7_entryEnd 36 = .ok (.aload_n 0, 1)) rfl ?_
          refine as_iload_n X (by decide +kernel : decode cX7_entryEnd 37 = .ok (.iload_n 3, 1)) rfl ?_
          refine as_cv X h_X7_wordEnd rfl (by decide +kernel : decode cX7_entryEnd 38 = .ok (.invokevirtual 45, 3)) dn_X7_wordEnd ml_X7_45 im_X7_wordEnd se_X7_wordEnd ini_X7 co_X7_wordEnd R_X7_wordEnd ?_
          refine as_istore X (by decide +kernel : decode cX7_entryEnd 41 = .ok (.istore 4, 2)) ?_
          refine as_iload X (by decide +kernel : decode cX7_entryEnd 43 = .ok (.iload 4, 2)) ?_
          refine as_iload_n X (by decide +kernel : decode cX7_entryEnd 45 = .ok (.iload_n 3, 1)) rfl ?_
          refine as_ic_eq X (tgt := 58) (by decide +kernel : decode cX7_entryEnd 46 = .ok (.if_icmp .eq 12, 3)) (by decide) ?_ ?_
          · exact fun _ _ _ h => h
          · refine as_iload X (by decide +kernel : decode cX7_entryEnd 49 = .ok (.iload 4, 2)) ?_
            refine as_iload_n X (by decide +kernel : decode cX7_entryEnd 51 = .ok (.iload_n 3, 1)) rfl ?_
            refine as_isub X (by decide +kernel : decode cX7_entryEnd 52 = .ok (.isub, 1)) ?_
            refine as_bipush X (by decide +kernel : decode cX7_entryEnd 53 = .ok (.bipush 8, 2)) rfl ?_
            refine as_ic_le X (tgt := 95) (by decide +kernel : decode cX7_entryEnd 55 = .ok (.if_icmp .le 40, 3)) (by decide) ?_ ?_
            · exact fun _ _ _ h => h
            · exact fun _ _ _ h => h
        · refine as_aload_n X (by decide +kernel : decode cX7_entryEnd 61 = .ok (.aload_n 0, 1)) rfl ?_
          refine as_iload_n X (by decide +kernel : decode cX7_entryEnd 62 = .ok (.iload_n 2, 1)) rfl ?_
          refine as_cv X h_X7_at rfl (by decide +kernel : decode cX7_entryEnd 63 = .ok (.invokevirtual 32, 3)) dn_X7_at ml_X7_32 im_X7_at se_X7_at ini_X7 co_X7_at R_X7_at ?_
          refine as_bipush X (by decide +kernel : decode cX7_entryEnd 66 = .ok (.bipush 47, 2)) rfl ?_
          refine as_ic_ne X (tgt := 92) (by decide +kernel : decode cX7_entryEnd 68 = .ok (.if_icmp .ne 24, 3)) (by decide) ?_ ?_
          · refine as_aload_n X (by decide +kernel : decode cX7_entryEnd 71 = .ok (.aload_n 0, 1)) rfl ?_
            refine as_iload_n X (by decide +kernel : decode cX7_entryEnd 72 = .ok (.iload_n 3, 1)) rfl ?_
            refine as_cv X h_X7_at rfl (by decide +kernel : decode cX7_entryEnd 73 = .ok (.invokevirtual 32, 3)) dn_X7_at ml_X7_32 im_X7_at se_X7_at ini_X7 co_X7_at R_X7_at ?_
            refine as_csN X (host := "ClueParts") h_X8_sortOf (by decide +kernel : decode cX7_entryEnd 76 = .ok (.invokestatic 48, 3)) dn_X8_sortOf (by decide +kernel) st_X8_sortOf ini_X8 co_X8_sortOf R_X8_sortOf ?_
            refine as_bipush X (by decide +kernel : decode cX7_entryEnd 79 = .ok (.bipush (-4), 2)) rfl ?_
            refine as_ic_eq X (tgt := 92) (by decide +kernel : decode cX7_entryEnd 81 = .ok (.if_icmp .eq 11, 3)) (by decide) ?_ ?_
            · exact fun _ _ _ h => h
            · refine as_iload_n X (by decide +kernel : decode cX7_entryEnd 84 = .ok (.iload_n 3, 1)) rfl ?_
              refine as_iconst X (by decide +kernel : decode cX7_entryEnd 85 = .ok (.iconst 1, 1)) rfl ?_
              refine as_iadd X (by decide +kernel : decode cX7_entryEnd 86 = .ok (.iadd, 1)) ?_
              refine as_istore X (by decide +kernel : decode cX7_entryEnd 87 = .ok (.istore 4, 2)) ?_
              refine as_goto X (tgt := 95) (by decide +kernel : decode cX7_entryEnd 89 = .ok (.goto 6, 3)) (by decide) ?_
              exact fun _ _ _ h => h
          · exact fun _ _ _ h => h
      · exact fun _ _ _ h => h
  · unfold B_X7_entryEnd_19
    refine as_bipush X (by decide +kernel : decode cX7_entryEnd 19 = .ok (.bipush (-4), 2)) rfl ?_
    exact as_ri X hQ hr (by decide +kernel : decode cX7_entryEnd 21 = .ok (.ireturn, 1))
  · unfold B_X7_entryEnd_58
    refine as_bipush X (by decide +kernel : decode cX7_entryEnd 58 = .ok (.bipush (-4), 2)) rfl ?_
    exact as_ri X hQ hr (by decide +kernel : decode cX7_entryEnd 60 = .ok (.ireturn, 1))
  · unfold B_X7_entryEnd_92
    refine as_bipush X (by decide +kernel : decode cX7_entryEnd 92 = .ok (.bipush (-4), 2)) rfl ?_
    exact as_ri X hQ hr (by decide +kernel : decode cX7_entryEnd 94 = .ok (.ireturn, 1))
  · unfold B_X7_entryEnd_95
    refine as_aload_n X (by decide +kernel : decode cX7_entryEnd 95 = .ok (.aload_n 0, 1)) rfl ?_
    refine as_iload X (by decide +kernel : decode cX7_entryEnd 96 = .ok (.iload 4, 2)) ?_
    refine as_cv X h_X7_at rfl (by decide +kernel : decode cX7_entryEnd 98 = .ok (.invokevirtual 32, 3)) dn_X7_at ml_X7_32 im_X7_at se_X7_at ini_X7 co_X7_at R_X7_at ?_
    refine as_bipush X (by decide +kernel : decode cX7_entryEnd 101 = .ok (.bipush 59, 2)) rfl ?_
    refine as_ic_ne X (tgt := 113) (by decide +kernel : decode cX7_entryEnd 103 = .ok (.if_icmp .ne 10, 3)) (by decide) ?_ ?_
    · refine as_iload X (by decide +kernel : decode cX7_entryEnd 106 = .ok (.iload 4, 2)) ?_
      refine as_iconst X (by decide +kernel : decode cX7_entryEnd 108 = .ok (.iconst 1, 1)) rfl ?_
      refine as_iadd X (by decide +kernel : decode cX7_entryEnd 109 = .ok (.iadd, 1)) ?_
      refine as_goto X (tgt := 115) (by decide +kernel : decode cX7_entryEnd 110 = .ok (.goto 5, 3)) (by decide) ?_
      exact fun _ _ _ h => h
    · refine as_bipush X (by decide +kernel : decode cX7_entryEnd 113 = .ok (.bipush (-4), 2)) rfl ?_
      exact fun _ _ _ h => h
  · unfold B_X7_entryEnd_115
    exact as_ri X hQ hr (by decide +kernel : decode cX7_entryEnd 115 = .ok (.ireturn, 1))
