/-! points, closures, contracts, soundness; printed by wip/whole/gen.py -/
def B_X3_init_0 (h0 : am_H) (rc rs : Nat) (Q : am_Q) (G : Nat → am_K) : am_K := (ak_al 0 (ak_oi (ak_al 0 (ak_c (.int 200) (ak_newi h0 rc rs (ak_puta 2 0 (ak_al 0 (ak_al 1 (ak_puta 2 3 (ak_rv Q))))))))))
def cl_X3_init (h0 : am_H) (rc rs : Nat) (Q : am_Q) (G : Nat → am_K) : Prop := am_N G 0 (B_X3_init_0 h0 rc rs Q G)
def WP_X3_init (rc rs : Nat) : am_T := fun av h Q => (lg_sl av).length ≤ 2 ∧ ∀ G, cl_X3_init h rc rs Q G → G 0 (am_ent 2 av) [] h
set_option maxHeartbeats 4000000 in
set_option maxRecDepth 100000 in
theorem s_X3_init {rm : Room} (hO : 1 ≤ rm.frames ∧ 20 ≤ rm.locals) : am_S true yX3_init (am_ws yX3_init cX3_init 2 none) rm (WP_X3_init rm.cells rm.slots) := by
  refine am_S.of (fun q => by cases q) (by decide +kernel) (fun h0 Q G => cl_X3_init h0 rm.cells rm.slots Q G) ?_
  intro p l e s m args below meth c D h0 Q X hr hnm hQ
  show am_N _ 0 (B_X3_init_0  h0 rm.cells rm.slots Q _)
  · unfold B_X3_init_0
    refine as_aload_n X (by decide +kernel : decode cX3_init 0 = .ok (.aload_n 0, 1)) rfl ?_
    refine as_oi X (by decide +kernel : decode cX3_init 1 = .ok (.invokespecial 3, 3)) ml_X3_3 im_objectInit co_objectInit hO.1 hO.2 ?_
    refine as_aload_n X (by decide +kernel : decode cX3_init 4 = .ok (.aload_n 0, 1)) rfl ?_
    refine as_sipush X (by decide +kernel : decode cX3_init 5 = .ok (.sipush 200, 3)) rfl ?_
    refine as_newi X (by decide +kernel : decode cX3_init 8 = .ok (.newarray .int, 2)) ac_int ?_
    refine as_puta X fc_X3 (by decide +kernel : decode cX3_init 10 = .ok (.putfield 9, 3)) (by decide) fl_X3_9 (Or.inr ⟨rfl, hnm, rfl⟩) (Or.inl ⟨_, rfl⟩) ?_
    refine as_aload_n X (by decide +kernel : decode cX3_init 13 = .ok (.aload_n 0, 1)) rfl ?_
    refine as_aload_n X (by decide +kernel : decode cX3_init 14 = .ok (.aload_n 1, 1)) rfl ?_
    refine as_puta X fc_X3 (by decide +kernel : decode cX3_init 15 = .ok (.putfield 15, 3)) (by decide) fl_X3_15 (Or.inr ⟨rfl, hnm, rfl⟩) (Or.inr ⟨_, rfl⟩) ?_
    exact as_rv X hQ hr (by decide +kernel : decode cX3_init 18 = .ok (.return_, 1))

def B_X3_make_0 (kX5_stampNow : am_T) (kX5_parse : am_T) (kX6_choiceAt : am_T) (kX5_isDefinedFirst : am_T) (kX3_put : am_T) (kX3_putWords : am_T) (kX5_isLinked : am_T) (kX5_pieceStart : am_T) (kX5_pieceEnd : am_T) (kX5_wholeAnswer : am_T) (kX3_putPiece : am_T) (Q : am_Q) (G : Nat → am_K) : am_K := (ak_al 0 (ak_get 2 2 (ak_al 0 (ak_get 2 3 (ak_cv 1 3 kX5_stampNow (ak_ic (fun x y => x = y) (ak_rv Q) (ak_al 0 (ak_al 0 (ak_get 2 3 (ak_cv 1 3 kX5_stampNow (ak_puti 2 2 (ak_al 0 (ak_c (.int 0) (ak_puti 2 1 (ak_al 0 (ak_get 2 3 (ak_get 3 2 (ak_al 0 (ak_get 2 3 (ak_cv 1 3 kX5_parse (ak_cv 2 4 kX6_choiceAt (ak_is 1 (ak_il 1 (ak_cs 1 kX5_isDefinedFirst (ak_is 2 (ak_il 2 (ak_if (fun x => x = 0) (ak_al 0 (ak_get 2 3 (ak_get 3 4 (ak_get 1 3 (ak_c (.int 1) (ak_ib (fun x y => x - y) (G 74))))))) (ak_c (.int 0) (G 74)))))))))))))))))))))))))))))
def B_X3_make_74 (kX5_stampNow : am_T) (kX5_parse : am_T) (kX6_choiceAt : am_T) (kX5_isDefinedFirst : am_T) (kX3_put : am_T) (kX3_putWords : am_T) (kX5_isLinked : am_T) (kX5_pieceStart : am_T) (kX5_pieceEnd : am_T) (kX5_wholeAnswer : am_T) (kX3_putPiece : am_T) (Q : am_Q) (G : Nat → am_K) : am_K := (ak_is 3 (ak_al 0 (ak_il 2 (ak_if (fun x => x = 0) (ak_c (.int 62) (G 87)) (ak_c (.int 60) (G 87))))))
def B_X3_make_87 (kX5_stampNow : am_T) (kX5_parse : am_T) (kX6_choiceAt : am_T) (kX5_isDefinedFirst : am_T) (kX3_put : am_T) (kX3_putWords : am_T) (kX5_isLinked : am_T) (kX5_pieceStart : am_T) (kX5_pieceEnd : am_T) (kX5_wholeAnswer : am_T) (kX3_putPiece : am_T) (Q : am_Q) (G : Nat → am_K) : am_K := (ak_cv 2 2 kX3_put (ak_al 0 (ak_il 3 (ak_il 3 (ak_c (.int 1) (ak_ib (fun x y => x + y) (ak_cv 3 2 kX3_putWords (ak_il 1 (ak_cs 1 kX5_isLinked (ak_if (fun x => x = 0) (G 111) (ak_al 0 (ak_c (.int 45) (ak_cv 2 2 kX3_put (G 111))))))))))))))
def B_X3_make_111 (kX5_stampNow : am_T) (kX5_parse : am_T) (kX6_choiceAt : am_T) (kX5_isDefinedFirst : am_T) (kX3_put : am_T) (kX3_putWords : am_T) (kX5_isLinked : am_T) (kX5_pieceStart : am_T) (kX5_pieceEnd : am_T) (kX5_wholeAnswer : am_T) (kX3_putPiece : am_T) (Q : am_Q) (G : Nat → am_K) : am_K := (ak_al 0 (ak_c (.int 61) (ak_cv 2 2 kX3_put (ak_al 0 (ak_al 0 (ak_get 2 3 (ak_il 1 (ak_cv 2 3 kX5_pieceStart (ak_al 0 (ak_get 2 3 (ak_il 1 (ak_cv 2 3 kX5_pieceEnd (ak_al 0 (ak_get 2 3 (ak_cv 1 3 kX5_wholeAnswer (ak_cv 4 2 kX3_putPiece (ak_rv Q)))))))))))))))))
def cl_X3_make (kX5_stampNow : am_T) (kX5_parse : am_T) (kX6_choiceAt : am_T) (kX5_isDefinedFirst : am_T) (kX3_put : am_T) (kX3_putWords : am_T) (kX5_isLinked : am_T) (kX5_pieceStart : am_T) (kX5_pieceEnd : am_T) (kX5_wholeAnswer : am_T) (kX3_putPiece : am_T) (Q : am_Q) (G : Nat → am_K) : Prop := am_N G 0 (B_X3_make_0 kX5_stampNow kX5_parse kX6_choiceAt kX5_isDefinedFirst kX3_put kX3_putWords kX5_isLinked kX5_pieceStart kX5_pieceEnd kX5_wholeAnswer kX3_putPiece Q G) ∧ am_N G 74 (B_X3_make_74 kX5_stampNow kX5_parse kX6_choiceAt kX5_isDefinedFirst kX3_put kX3_putWords kX5_isLinked kX5_pieceStart kX5_pieceEnd kX5_wholeAnswer kX3_putPiece Q G) ∧ am_N G 87 (B_X3_make_87 kX5_stampNow kX5_parse kX6_choiceAt kX5_isDefinedFirst kX3_put kX3_putWords kX5_isLinked kX5_pieceStart kX5_pieceEnd kX5_wholeAnswer kX3_putPiece Q G) ∧ am_N G 111 (B_X3_make_111 kX5_stampNow kX5_parse kX6_choiceAt kX5_isDefinedFirst kX3_put kX3_putWords kX5_isLinked kX5_pieceStart kX5_pieceEnd kX5_wholeAnswer kX3_putPiece Q G)
def WP_X3_make (kX5_stampNow : am_T) (kX5_parse : am_T) (kX6_choiceAt : am_T) (kX5_isDefinedFirst : am_T) (kX3_put : am_T) (kX3_putWords : am_T) (kX5_isLinked : am_T) (kX5_pieceStart : am_T) (kX5_pieceEnd : am_T) (kX5_wholeAnswer : am_T) (kX3_putPiece : am_T) : am_T := fun av h Q => (lg_sl av).length ≤ 4 ∧ ∀ G, cl_X3_make kX5_stampNow kX5_parse kX6_choiceAt kX5_isDefinedFirst kX3_put kX3_putWords kX5_isLinked kX5_pieceStart kX5_pieceEnd kX5_wholeAnswer kX3_putPiece Q G → G 0 (am_ent 4 av) [] h
set_option maxHeartbeats 4000000 in
set_option maxRecDepth 100000 in
theorem s_X3_make {mX5_stampNow : Room} {kX5_stampNow : am_T} (h_X5_stampNow : am_S false yX5_stampNow (am_ws yX5_stampNow cX5_stampNow 1 (some .int)) mX5_stampNow kX5_stampNow) {mX5_parse : Room} {kX5_parse : am_T} (h_X5_parse : am_S false yX5_parse (am_ws yX5_parse cX5_parse 4 (some .int)) mX5_parse kX5_parse) {mX6_choiceAt : Room} {kX6_choiceAt : am_T} (h_X6_choiceAt : am_S false yX6_choiceAt (am_ws yX6_choiceAt cX6_choiceAt 2 (some .int)) mX6_choiceAt kX6_choiceAt) {mX5_isDefinedFirst : Room} {kX5_isDefinedFirst : am_T} (h_X5_isDefinedFirst : am_S false yX5_isDefinedFirst (am_ws yX5_isDefinedFirst cX5_isDefinedFirst 1 (some .boolean)) mX5_isDefinedFirst kX5_isDefinedFirst) {mX3_put : Room} {kX3_put : am_T} (h_X3_put : am_S false yX3_put (am_ws yX3_put cX3_put 2 none) mX3_put kX3_put) {mX3_putWords : Room} {kX3_putWords : am_T} (h_X3_putWords : am_S false yX3_putWords (am_ws yX3_putWords cX3_putWords 4 none) mX3_putWords kX3_putWords) {mX5_isLinked : Room} {kX5_isLinked : am_T} (h_X5_isLinked : am_S false yX5_isLinked (am_ws yX5_isLinked cX5_isLinked 1 (some .boolean)) mX5_isLinked kX5_isLinked) {mX5_pieceStart : Room} {kX5_pieceStart : am_T} (h_X5_pieceStart : am_S false yX5_pieceStart (am_ws yX5_pieceStart cX5_pieceStart 3 (some .int)) mX5_pieceStart kX5_pieceStart) {mX5_pieceEnd : Room} {kX5_pieceEnd : am_T} (h_X5_pieceEnd : am_S false yX5_pieceEnd (am_ws yX5_pieceEnd cX5_pieceEnd 3 (some .int)) mX5_pieceEnd kX5_pieceEnd) {mX5_wholeAnswer : Room} {kX5_wholeAnswer : am_T} (h_X5_wholeAnswer : am_S false yX5_wholeAnswer (am_ws yX5_wholeAnswer cX5_wholeAnswer 1 (some .int)) mX5_wholeAnswer kX5_wholeAnswer) {mX3_putPiece : Room} {kX3_putPiece : am_T} (h_X3_putPiece : am_S false yX3_putPiece (am_ws yX3_putPiece cX3_putPiece 9 none) mX3_putPiece kX3_putPiece) {rm : Room} (hz : rm.cells = 0 ∧ rm.slots = 0) (R_X5_stampNow : mX5_stampNow.frames + 1 ≤ rm.frames ∧ 8 + (1 + 11) + mX5_stampNow.locals ≤ rm.locals) (R_X5_parse : mX5_parse.frames + 1 ≤ rm.frames ∧ 8 + (4 + 11) + mX5_parse.locals ≤ rm.locals) (R_X6_choiceAt : mX6_choiceAt.frames + 1 ≤ rm.frames ∧ 8 + (2 + 11) + mX6_choiceAt.locals ≤ rm.locals) (R_X5_isDefinedFirst : mX5_isDefinedFirst.frames + 1 ≤ rm.frames ∧ 8 + (1 + 11) + mX5_isDefinedFirst.locals ≤ rm.locals) (R_X3_put : mX3_put.frames + 1 ≤ rm.frames ∧ 8 + (2 + 11) + mX3_put.locals ≤ rm.locals) (R_X3_putWords : mX3_putWords.frames + 1 ≤ rm.frames ∧ 8 + (4 + 11) + mX3_putWords.locals ≤ rm.locals) (R_X5_isLinked : mX5_isLinked.frames + 1 ≤ rm.frames ∧ 8 + (1 + 11) + mX5_isLinked.locals ≤ rm.locals) (R_X5_pieceStart : mX5_pieceStart.frames + 1 ≤ rm.frames ∧ 8 + (3 + 11) + mX5_pieceStart.locals ≤ rm.locals) (R_X5_pieceEnd : mX5_pieceEnd.frames + 1 ≤ rm.frames ∧ 8 + (3 + 11) + mX5_pieceEnd.locals ≤ rm.locals) (R_X5_wholeAnswer : mX5_wholeAnswer.frames + 1 ≤ rm.frames ∧ 8 + (1 + 11) + mX5_wholeAnswer.locals ≤ rm.locals) (R_X3_putPiece : mX3_putPiece.frames + 1 ≤ rm.frames ∧ 8 + (9 + 11) + mX3_putPiece.locals ≤ rm.locals) : am_S false yX3_make (am_ws yX3_make cX3_make 4 none) rm (WP_X3_make kX5_stampNow kX5_parse kX6_choiceAt kX5_isDefinedFirst kX3_put kX3_putWords kX5_isLinked kX5_pieceStart kX5_pieceEnd kX5_wholeAnswer kX3_putPiece) := by
  refine am_S.of (fun _ => hz) (by decide +kernel) (fun h0 Q G => cl_X3_make kX5_stampNow kX5_parse kX6_choiceAt kX5_isDefinedFirst kX3_put kX3_putWords kX5_isLinked kX5_pieceStart kX5_pieceEnd kX5_wholeAnswer kX3_putPiece Q G) ?_
  intro p l e s m args below meth c D h0 Q X hr hnm hQ
  refine ⟨?_, ?_, ?_, ?_⟩
  · unfold B_X3_make_0
    refine as_aload_n X (by decide +kernel : decode cX3_make 0 = .ok (.aload_n 0, 1)) rfl ?_
    refine as_get X fc_X3 (by decide +kernel : decode cX3_make 1 = .ok (.getfield 19, 3)) (by decide) fl_X3_19 ?_
    refine as_aload_n X (by decide +kernel : decode cX3_make 4 = .ok (.aload_n 0, 1)) rfl ?_
    refine as_get X fc_X3 (by decide +kernel : decode cX3_make 5 = .ok (.getfield 15, 3)) (by decide) fl_X3_15 ?_
    refine as_cv X h_X5_stampNow rfl (by decide +kernel : decode cX3_make 8 = .ok (.invokevirtual 23, 3)) dn_X5_stampNow ml_X3_23 im_X5_stampNow se_X5_stampNow ini_X5 co_X5_stampNow R_X5_stampNow ?_
    refine as_ic_ne X (tgt := 15) (by decide +kernel : decode cX3_make 11 = .ok (.if_icmp .ne 4, 3)) (by decide) ?_ ?_
    · exact as_rv X hQ hr (by decide +kernel : decode cX3_make 14 = .ok (.return_, 1))
    · refine as_aload_n X (by decide +kernel : decode cX3_make 15 = .ok (.aload_n 0, 1)) rfl ?_
      refine as_aload_n X (by decide +kernel : decode cX3_make 16 = .ok (.aload_n 0, 1)) rfl ?_
      refine as_get X fc_X3 (by decide +kernel : decode cX3_make 17 = .ok (.getfield 15, 3)) (by decide) fl_X3_15 ?_
      refine as_cv X h_X5_stampNow rfl (by decide +kernel : decode cX3_make 20 = .ok (.invokevirtual 23, 3)) dn_X5_stampNow ml_X3_23 im_X5_stampNow se_X5_stampNow ini_X5 co_X5_stampNow R_X5_stampNow ?_
      refine as_puti X fc_X3 (by decide +kernel : decode cX3_make 23 = .ok (.putfield 19, 3)) (by decide) fl_X3_19 (Or.inl rfl) rfl ?_
      refine as_aload_n X (by decide +kernel : decode cX3_make 26 = .ok (.aload_n 0, 1)) rfl ?_
      refine as_iconst X (by decide +kernel : decode cX3_make 27 = .ok (.iconst 0, 1)) rfl ?_
      refine as_puti X fc_X3 (by decide +kernel : decode cX3_make 28 = .ok (.putfield 29, 3)) (by decide) fl_X3_29 (Or.inl rfl) rfl ?_
      refine as_aload_n X (by decide +kernel : decode cX3_make 31 = .ok (.aload_n 0, 1)) rfl ?_
      refine as_get X fc_X3 (by decide +kernel : decode cX3_make 32 = .ok (.getfield 15, 3)) (by decide) fl_X3_15 ?_
      refine as_get X fc_X5 (by decide +kernel : decode cX3_make 35 = .ok (.getfield 32, 3)) (by decide) fl_X3_32 ?_
      refine as_aload_n X (by decide +kernel : decode cX3_make 38 = .ok (.aload_n 0, 1)) rfl ?_
      refine as_get X fc_X3 (by decide +kernel : decode cX3_make 39 = .ok (.getfield 15, 3)) (by decide) fl_X3_15 ?_
      refine as_cv X h_X5_parse rfl (by decide +kernel : decode cX3_make 42 = .ok (.invokevirtual 36, 3)) dn_X5_parse ml_X3_36 im_X5_parse se_X5_parse ini_X5 co_X5_parse R_X5_parse ?_
      refine as_cv X h_X6_choiceAt rfl (by decide +kernel : decode cX3_make 45 = .ok (.invokevirtual 39, 3)) dn_X6_choiceAt ml_X3_39 im_X6_choiceAt se_X6_choiceAt ini_X6 co_X6_choiceAt R_X6_choiceAt ?_
      refine as_istore_n X (by decide +kernel : decode cX3_make 48 = .ok (.istore_n 1, 1)) rfl ?_
      refine as_iload_n X (by decide +kernel : decode cX3_make 49 = .ok (.iload_n 1, 1)) rfl ?_
      refine as_cs X h_X5_isDefinedFirst (by decide +kernel : decode cX3_make 50 = .ok (.invokestatic 45, 3)) dn_X5_isDefinedFirst ml_X3_45 st_X5_isDefinedFirst ini_X5 co_X5_isDefinedFirst R_X5_isDefinedFirst ?_
      refine as_istore_n X (by decide +kernel : decode cX3_make 53 = .ok (.istore_n 2, 1)) rfl ?_
      refine as_iload_n X (by decide +kernel : decode cX3_make 54 = .ok (.iload_n 2, 1)) rfl ?_
      refine as_if_eq X (tgt := 62) (by decide +kernel : decode cX3_make 55 = .ok (.ifCond .eq 7, 3)) (by decide) ?_ ?_
      · refine as_aload_n X (by decide +kernel : decode cX3_make 62 = .ok (.aload_n 0, 1)) rfl ?_
        refine as_get X fc_X3 (by decide +kernel : decode cX3_make 63 = .ok (.getfield 15, 3)) (by decide) fl_X3_15 ?_
        refine as_get X fc_X5 (by decide +kernel : decode cX3_make 66 = .ok (.getfield 49, 3)) (by decide) fl_X3_49 ?_
        refine as_get X fc_X1 (by decide +kernel : decode cX3_make 69 = .ok (.getfield 53, 3)) (by decide) fl_X3_53 ?_
        refine as_iconst X (by decide +kernel : decode cX3_make 72 = .ok (.iconst 1, 1)) rfl ?_
        refine as_isub X (by decide +kernel : decode cX3_make 73 = .ok (.isub, 1)) ?_
        exact fun _ _ _ h => h
      · refine as_iconst X (by decide +kernel : decode cX3_make 58 = .ok (.iconst 0, 1)) rfl ?_
        refine as_goto X (tgt := 74) (by decide +kernel : decode cX3_make 59 = .ok (.goto 15, 3)) (by decide) ?_
        exact fun _ _ _ h => h
  · unfold B_X3_make_74
    refine as_istore_n X (by decide +kernel : decode cX3_make 74 = .ok (.istore_n 3, 1)) rfl ?_
    refine as_aload_n X (by decide +kernel : decode cX3_make 75 = .ok (.aload_n 0, 1)) rfl ?_
    refine as_iload_n X (by decide +kernel : decode cX3_make 76 = .ok (.iload_n 2, 1)) rfl ?_
    refine as_if_eq X (tgt := 85) (by decide +kernel : decode cX3_make 77 = .ok (.ifCond .eq 8, 3)) (by decide) ?_ ?_
    · refine as_bipush X (by decide +kernel : decode cX3_make 85 = .ok (.bipush 62, 2)) rfl ?_
      exact fun _ _ _ h => h
    · refine as_bipush X (by decide +kernel : decode cX3_make 80 = .ok (.bipush 60, 2)) rfl ?_
      refine as_goto X (tgt := 87) (by decide +kernel : decode cX3_make 82 = .ok (.goto 5, 3)) (by decide) ?_
      exact fun _ _ _ h => h
  · unfold B_X3_make_87
    refine as_cv X h_X3_put rfl (by decide +kernel : decode cX3_make 87 = .ok (.invokevirtual 58, 3)) dn_X3_put ml_X3_58 im_X3_put se_X3_put ini_X3 co_X3_put R_X3_put ?_
    refine as_aload_n X (by decide +kernel : decode cX3_make 90 = .ok (.aload_n 0, 1)) rfl ?_
    refine as_iload_n X (by decide +kernel : decode cX3_make 91 = .ok (.iload_n 3, 1)) rfl ?_
    refine as_iload_n X (by decide +kernel : decode cX3_make 92 = .ok (.iload_n 3, 1)) rfl ?_
    refine as_iconst X (by decide +kernel : decode cX3_make 93 = .ok (.iconst 1, 1)) rfl ?_
    refine as_iadd X (by decide +kernel : decode cX3_make 94 = .ok (.iadd, 1)) ?_
    refine as_cv X h_X3_putWords rfl (by decide +kernel : decode cX3_make 95 = .ok (.invokevirtual 62, 3)) dn_X3_putWords ml_X3_62 im_X3_putWords se_X3_putWords ini_X3 co_X3_putWords R_X3_putWords ?_
    refine as_iload_n X (by decide +kernel : decode cX3_make 98 = .ok (.iload_n 1, 1)) rfl ?_
    refine as_cs X h_X5_isLinked (by decide +kernel : decode cX3_make 99 = .ok (.invokestatic 66, 3)) dn_X5_isLinked ml_X3_66 st_X5_isLinked ini_X5 co_X5_isLinked R_X5_isLinked ?_
    refine as_if_eq X (tgt := 111) (by decide +kernel : decode cX3_make 102 = .ok (.ifCond .eq 9, 3)) (by decide) ?_ ?_
    · exact fun _ _ _ h => h
    · refine as_aload_n X (by decide +kernel : decode cX3_make 105 = .ok (.aload_n 0, 1)) rfl ?_
      refine as_bipush X (by decide +kernel : decode cX3_make 106 = .ok (.bipush 45, 2)) rfl ?_
      refine as_cv X h_X3_put rfl (by decide +kernel : decode cX3_make 108 = .ok (.invokevirtual 58, 3)) dn_X3_put ml_X3_58 im_X3_put se_X3_put ini_X3 co_X3_put R_X3_put ?_
      exact fun _ _ _ h => h
  · unfold B_X3_make_111
    refine as_aload_n X (by decide +kernel : decode cX3_make 111 = .ok (.aload_n 0, 1)) rfl ?_
    refine as_bipush X (by decide +kernel : decode cX3_make 112 = .ok (.bipush 61, 2)) rfl ?_
    refine as_cv X h_X3_put rfl (by decide +kernel : decode cX3_make 114 = .ok (.invokevirtual 58, 3)) dn_X3_put ml_X3_58 im_X3_put se_X3_put ini_X3 co_X3_put R_X3_put ?_
    refine as_aload_n X (by decide +kernel : decode cX3_make 117 = .ok (.aload_n 0, 1)) rfl ?_
    refine as_aload_n X (by decide +kernel : decode cX3_make 118 = .ok (.aload_n 0, 1)) rfl ?_
    refine as_get X fc_X3 (by decide +kernel : decode cX3_make 119 = .ok (.getfield 15, 3)) (by decide) fl_X3_15 ?_
    refine as_iload_n X (by decide +kernel : decode cX3_make 122 = .ok (.iload_n 1, 1)) rfl ?_
    refine as_cv X h_X5_pieceStart rfl (by decide +kernel : decode cX3_make 123 = .ok (.invokevirtual 69, 3)) dn_X5_pieceStart ml_X3_69 im_X5_pieceStart se_X5_pieceStart ini_X5 co_X5_pieceStart R_X5_pieceStart ?_
    refine as_aload_n X (by decide +kernel : decode cX3_make 126 = .ok (.aload_n 0, 1)) rfl ?_
    refine as_get X fc_X3 (by decide +kernel : decode cX3_make 127 = .ok (.getfield 15, 3)) (by decide) fl_X3_15 ?_
    refine as_iload_n X (by decide +kernel : decode cX3_make 130 = .ok (.iload_n 1, 1)) rfl ?_
    refine as_cv X h_X5_pieceEnd rfl (by decide +kernel : decode cX3_make 131 = .ok (.invokevirtual 72, 3)) dn_X5_pieceEnd ml_X3_72 im_X5_pieceEnd se_X5_pieceEnd ini_X5 co_X5_pieceEnd R_X5_pieceEnd ?_
    refine as_aload_n X (by decide +kernel : decode cX3_make 134 = .ok (.aload_n 0, 1)) rfl ?_
    refine as_get X fc_X3 (by decide +kernel : decode cX3_make 135 = .ok (.getfield 15, 3)) (by decide) fl_X3_15 ?_
    refine as_cv X h_X5_wholeAnswer rfl (by decide +kernel : decode cX3_make 138 = .ok (.invokevirtual 75, 3)) dn_X5_wholeAnswer ml_X3_75 im_X5_wholeAnswer se_X5_wholeAnswer ini_X5 co_X5_wholeAnswer R_X5_wholeAnswer ?_
    refine as_cv X h_X3_putPiece rfl (by decide +kernel : decode cX3_make 141 = .ok (.invokevirtual 78, 3)) dn_X3_putPiece ml_X3_78 im_X3_putPiece se_X3_putPiece ini_X3 co_X3_putPiece R_X3_putPiece ?_
    exact as_rv X hQ hr (by decide +kernel : decode cX3_make 144 = .ok (.return_, 1))

def B_X3_put_0 (Q : am_Q) (G : Nat → am_K) : am_K := (ak_al 0 (ak_get 2 1 (ak_c (.int 200) (ak_ic (fun x y => y ≤ x) (G 30) (ak_al 0 (ak_get 2 0 (ak_al 0 (ak_get 2 1 (ak_il 1 (ak_iast (ak_al 0 (ak_dup (ak_get 2 1 (ak_c (.int 1) (ak_ib (fun x y => x + y) (ak_puti 2 1 (G 30)))))))))))))))))
def B_X3_put_30 (Q : am_Q) (G : Nat → am_K) : am_K := (ak_rv Q)
def cl_X3_put (Q : am_Q) (G : Nat → am_K) : Prop := am_N G 0 (B_X3_put_0 Q G) ∧ am_N G 30 (B_X3_put_30 Q G)
def WP_X3_put : am_T := fun av h Q => (lg_sl av).length ≤ 2 ∧ ∀ G, cl_X3_put Q G → G 0 (am_ent 2 av) [] h
set_option maxHeartbeats 4000000 in
set_option maxRecDepth 100000 in
theorem s_X3_put {rm : Room} (hz : rm.cells = 0 ∧ rm.slots = 0) : am_S false yX3_put (am_ws yX3_put cX3_put 2 none) rm (WP_X3_put) := by
  refine am_S.of (fun _ => hz) (by decide +kernel) (fun h0 Q G => cl_X3_put Q G) ?_
  intro p l e s m args below meth c D h0 Q X hr hnm hQ
  refine ⟨?_, ?_⟩
  · unfold B_X3_put_0
    refine as_aload_n X (by decide +kernel : decode cX3_put 0 = .ok (.aload_n 0, 1)) rfl ?_
    refine as_get X fc_X3 (by decide +kernel : decode cX3_put 1 = .ok (.getfield 29, 3)) (by decide) fl_X3_29 ?_
    refine as_sipush X (by decide +kernel : decode cX3_put 4 = .ok (.sipush 200, 3)) rfl ?_
    refine as_ic_ge X (tgt := 30) (by decide +kernel : decode cX3_put 7 = .ok (.if_icmp .ge 23, 3)) (by decide) ?_ ?_
    · exact fun _ _ _ h => h
    · refine as_aload_n X (by decide +kernel : decode cX3_put 10 = .ok (.aload_n 0, 1)) rfl ?_
      refine as_get X fc_X3 (by decide +kernel : decode cX3_put 11 = .ok (.getfield 9, 3)) (by decide) fl_X3_9 ?_
      refine as_aload_n X (by decide +kernel : decode cX3_put 14 = .ok (.aload_n 0, 1)) rfl ?_
      refine as_get X fc_X3 (by decide +kernel : decode cX3_put 15 = .ok (.getfield 29, 3)) (by decide) fl_X3_29 ?_
      refine as_iload_n X (by decide +kernel : decode cX3_put 18 = .ok (.iload_n 1, 1)) rfl ?_
      refine as_iastore X (by decide +kernel : decode cX3_put 19 = .ok (.iastore, 1)) ?_
      refine as_aload_n X (by decide +kernel : decode cX3_put 20 = .ok (.aload_n 0, 1)) rfl ?_
      refine as_dup X (by decide +kernel : decode cX3_put 21 = .ok (.dup, 1)) ?_
      refine as_get X fc_X3 (by decide +kernel : decode cX3_put 22 = .ok (.getfield 29, 3)) (by decide) fl_X3_29 ?_
      refine as_iconst X (by decide +kernel : decode cX3_put 25 = .ok (.iconst 1, 1)) rfl ?_
      refine as_iadd X (by decide +kernel : decode cX3_put 26 = .ok (.iadd, 1)) ?_
      refine as_puti X fc_X3 (by decide +kernel : decode cX3_put 27 = .ok (.putfield 29, 3)) (by decide) fl_X3_29 (Or.inl rfl) rfl ?_
      exact fun _ _ _ h => h
  · unfold B_X3_put_30
    exact as_rv X hQ hr (by decide +kernel : decode cX3_put 30 = .ok (.return_, 1))

def B_X3_putLetters_0 (kX2_size : am_T) (kX2_at : am_T) (kX3_put : am_T) (Q : am_Q) (G : Nat → am_K) : am_K := (ak_ll 1 (ak_cs 1 kX2_size (ak_is 3 (ak_c (.int 0) (ak_is 4 (G 8))))))
def B_X3_putLetters_8 (kX2_size : am_T) (kX2_at : am_T) (kX3_put : am_T) (Q : am_Q) (G : Nat → am_K) : am_K := (ak_il 4 (ak_il 3 (ak_ic (fun x y => y ≤ x) (ak_rv Q) (ak_al 0 (ak_ll 1 (ak_il 4 (ak_cs 2 kX2_at (ak_cv 2 2 kX3_put (ak_ii 4 1 (G 8))))))))))
def cl_X3_putLetters (kX2_size : am_T) (kX2_at : am_T) (kX3_put : am_T) (Q : am_Q) (G : Nat → am_K) : Prop := am_N G 0 (B_X3_putLetters_0 kX2_size kX2_at kX3_put Q G) ∧ am_N G 8 (B_X3_putLetters_8 kX2_size kX2_at kX3_put Q G)
def WP_X3_putLetters (kX2_size : am_T) (kX2_at : am_T) (kX3_put : am_T) : am_T := fun av h Q => (lg_sl av).length ≤ 5 ∧ ∀ G, cl_X3_putLetters kX2_size kX2_at kX3_put Q G → G 0 (am_ent 5 av) [] h
set_option maxHeartbeats 4000000 in
set_option maxRecDepth 100000 in
theorem s_X3_putLetters {mX2_size : Room} {kX2_size : am_T} (h_X2_size : am_S false yX2_size (am_ws yX2_size cX2_size 3 (some .int)) mX2_size kX2_size) {mX2_at : Room} {kX2_at : am_T} (h_X2_at : am_S false yX2_at (am_ws yX2_at cX2_at 3 (some .int)) mX2_at kX2_at) {mX3_put : Room} {kX3_put : am_T} (h_X3_put : am_S false yX3_put (am_ws yX3_put cX3_put 2 none) mX3_put kX3_put) {rm : Room} (hz : rm.cells = 0 ∧ rm.slots = 0) (R_X2_size : mX2_size.frames + 1 ≤ rm.frames ∧ 8 + (3 + 11) + mX2_size.locals ≤ rm.locals) (R_X2_at : mX2_at.frames + 1 ≤ rm.frames ∧ 8 + (3 + 11) + mX2_at.locals ≤ rm.locals) (R_X3_put : mX3_put.frames + 1 ≤ rm.frames ∧ 8 + (2 + 11) + mX3_put.locals ≤ rm.locals) : am_S false yX3_putLetters (am_ws yX3_putLetters cX3_putLetters 5 none) rm (WP_X3_putLetters kX2_size kX2_at kX3_put) := by
  refine am_S.of (fun _ => hz) (by decide +kernel) (fun h0 Q G => cl_X3_putLetters kX2_size kX2_at kX3_put Q G) ?_
  intro p l e s m args below meth c D h0 Q X hr hnm hQ
  refine ⟨?_, ?_⟩
  · unfold B_X3_putLetters_0
    refine as_lload_n X (by decide +kernel : decode cX3_putLetters 0 = .ok (.lload_n 1, 1)) rfl ?_
    refine as_cs X h_X2_size (by decide +kernel : decode cX3_putLetters 1 = .ok (.invokestatic 82, 3)) dn_X2_size ml_X3_82 st_X2_size ini_X2 co_X2_size R_X2_size ?_
    refine as_istore_n X (by decide +kernel : decode cX3_putLetters 4 = .ok (.istore_n 3, 1)) rfl ?_
    refine as_iconst X (by decide +kernel : decode cX3_putLetters 5 = .ok (.iconst 0, 1)) rfl ?_
    refine as_istore X (by decide +kernel : decode cX3_putLetters 6 = .ok (.istore 4, 2)) ?_
    exact fun _ _ _ h => h
  · unfold B_X3_putLetters_8
    refine as_iload X (by decide +kernel : decode cX3_putLetters 8 = .ok (.iload 4, 2)) ?_
    refine as_iload_n X (by decide +kernel : decode cX3_putLetters 10 = .ok (.iload_n 3, 1)) rfl ?_
    refine as_ic_ge X (tgt := 30) (by decide +kernel : decode cX3_putLetters 11 = .ok (.if_icmp .ge 19, 3)) (by decide) ?_ ?_
    · exact as_rv X hQ hr (by decide +kernel : decode cX3_putLetters 30 = .ok (.return_, 1))
    · refine as_aload_n X (by decide +kernel : decode cX3_putLetters 14 = .ok (.aload_n 0, 1)) rfl ?_
      refine as_lload_n X (by decide +kernel : decode cX3_putLetters 15 = .ok (.lload_n 1, 1)) rfl ?_
      refine as_iload X (by decide +kernel : decode cX3_putLetters 16 = .ok (.iload 4, 2)) ?_
      refine as_cs X h_X2_at (by decide +kernel : decode cX3_putLetters 18 = .ok (.invokestatic 87, 3)) dn_X2_at ml_X3_87 st_X2_at ini_X2 co_X2_at R_X2_at ?_
      refine as_cv X h_X3_put rfl (by decide +kernel : decode cX3_putLetters 21 = .ok (.invokevirtual 58, 3)) dn_X3_put ml_X3_58 im_X3_put se_X3_put ini_X3 co_X3_put R_X3_put ?_
      refine as_iinc X (by decide +kernel : decode cX3_putLetters 24 = .ok (.iinc 4 1, 3)) rfl ?_
      refine as_goto X (tgt := 8) (by decide +kernel : decode cX3_putLetters 27 = .ok (.goto (-19), 3)) (by decide) ?_
      exact fun _ _ _ h => h

def B_X3_putWords_0 (kX1_wordAt : am_T) (kX3_putLetters : am_T) (Q : am_Q) (G : Nat → am_K) : am_K := (ak_il 1 (ak_is 3 (G 2)))
def B_X3_putWords_2 (kX1_wordAt : am_T) (kX3_putLetters : am_T) (Q : am_Q) (G : Nat → am_K) : am_K := (ak_il 3 (ak_il 2 (ak_ic (fun x y => y ≤ x) (ak_rv Q) (ak_al 0 (ak_al 0 (ak_get 2 3 (ak_get 3 4 (ak_il 3 (ak_cv 2 1 kX1_wordAt (ak_cv 2 2 kX3_putLetters (ak_ii 3 1 (G 2))))))))))))
def cl_X3_putWords (kX1_wordAt : am_T) (kX3_putLetters : am_T) (Q : am_Q) (G : Nat → am_K) : Prop := am_N G 0 (B_X3_putWords_0 kX1_wordAt kX3_putLetters Q G) ∧ am_N G 2 (B_X3_putWords_2 kX1_wordAt kX3_putLetters Q G)
def WP_X3_putWords (kX1_wordAt : am_T) (kX3_putLetters : am_T) : am_T := fun av h Q => (lg_sl av).length ≤ 4 ∧ ∀ G, cl_X3_putWords kX1_wordAt kX3_putLetters Q G → G 0 (am_ent 4 av) [] h
set_option maxHeartbeats 4000000 in
set_option maxRecDepth 100000 in
theorem s_X3_putWords {mX1_wordAt : Room} {kX1_wordAt : am_T} (h_X1_wordAt : am_S false yX1_wordAt (am_ws yX1_wordAt cX1_wordAt 2 (some .long)) mX1_wordAt kX1_wordAt) {mX3_putLetters : Room} {kX3_putLetters : am_T} (h_X3_putLetters : am_S false yX3_putLetters (am_ws yX3_putLetters cX3_putLetters 5 none) mX3_putLetters kX3_putLetters) {rm : Room} (hz : rm.cells = 0 ∧ rm.slots = 0) (R_X1_wordAt : mX1_wordAt.frames + 1 ≤ rm.frames ∧ 8 + (2 + 11) + mX1_wordAt.locals ≤ rm.locals) (R_X3_putLetters : mX3_putLetters.frames + 1 ≤ rm.frames ∧ 8 + (5 + 11) + mX3_putLetters.locals ≤ rm.locals) : am_S false yX3_putWords (am_ws yX3_putWords cX3_putWords 4 none) rm (WP_X3_putWords kX1_wordAt kX3_putLetters) := by
  refine am_S.of (fun _ => hz) (by decide +kernel) (fun h0 Q G => cl_X3_putWords kX1_wordAt kX3_putLetters Q G) ?_
  intro p l e s m args below meth c D h0 Q X hr hnm hQ
  refine ⟨?_, ?_⟩
  · unfold B_X3_putWords_0
    refine as_iload_n X (by decide +kernel : decode cX3_putWords 0 = .ok (.iload_n 1, 1)) rfl ?_
    refine as_istore_n X (by decide +kernel : decode cX3_putWords 1 = .ok (.istore_n 3, 1)) rfl ?_
    exact fun _ _ _ h => h
  · unfold B_X3_putWords_2
    refine as_iload_n X (by decide +kernel : decode cX3_putWords 2 = .ok (.iload_n 3, 1)) rfl ?_
    refine as_iload_n X (by decide +kernel : decode cX3_putWords 3 = .ok (.iload_n 2, 1)) rfl ?_
    refine as_ic_ge X (tgt := 28) (by decide +kernel : decode cX3_putWords 4 = .ok (.if_icmp .ge 24, 3)) (by decide) ?_ ?_
    · exact as_rv X hQ hr (by decide +kernel : decode cX3_putWords 28 = .ok (.return_, 1))
    · refine as_aload_n X (by decide +kernel : decode cX3_putWords 7 = .ok (.aload_n 0, 1)) rfl ?_
      refine as_aload_n X (by decide +kernel : decode cX3_putWords 8 = .ok (.aload_n 0, 1)) rfl ?_
      refine as_get X fc_X3 (by decide +kernel : decode cX3_putWords 9 = .ok (.getfield 15, 3)) (by decide) fl_X3_15 ?_
      refine as_get X fc_X5 (by decide +kernel : decode cX3_putWords 12 = .ok (.getfield 49, 3)) (by decide) fl_X3_49 ?_
      refine as_iload_n X (by decide +kernel : decode cX3_putWords 15 = .ok (.iload_n 3, 1)) rfl ?_
      refine as_cv X h_X1_wordAt rfl (by decide +kernel : decode cX3_putWords 16 = .ok (.invokevirtual 91, 3)) dn_X1_wordAt ml_X3_91 im_X1_wordAt se_X1_wordAt ini_X1 co_X1_wordAt R_X1_wordAt ?_
      refine as_cv X h_X3_putLetters rfl (by decide +kernel : decode cX3_putWords 19 = .ok (.invokevirtual 95, 3)) dn_X3_putLetters ml_X3_95 im_X3_putLetters se_X3_putLetters ini_X3 co_X3_putLetters R_X3_putLetters ?_
      refine as_iinc X (by decide +kernel : decode cX3_putWords 22 = .ok (.iinc 3 1, 3)) rfl ?_
      refine as_goto X (tgt := 2) (by decide +kernel : decode cX3_putWords 25 = .ok (.goto (-23), 3)) (by decide) ?_
      exact fun _ _ _ h => h

def B_X3_putPiece_0 (kX5_piece : am_T) (kX6_choiceAt : am_T) (kX3_put : am_T) (kX3_putUnit : am_T) (kX4_minus : am_T) (Q : am_Q) (G : Nat → am_K) : am_K := (ak_il 1 (ak_is 4 (ak_il 3 (ak_is 5 (G 6)))))
def B_X3_putPiece_6 (kX5_piece : am_T) (kX6_choiceAt : am_T) (kX3_put : am_T) (kX3_putUnit : am_T) (kX4_minus : am_T) (Q : am_Q) (G : Nat → am_K) : am_K := (ak_il 4 (ak_il 2 (ak_ic (fun x y => y ≤ x) (ak_rv Q) (ak_al 0 (ak_get 2 3 (ak_get 3 0 (ak_al 0 (ak_get 2 3 (ak_il 4 (ak_il 2 (ak_il 5 (ak_cv 4 3 kX5_piece (ak_cv 2 4 kX6_choiceAt (ak_is 6 (ak_il 6 (ak_c (.int 512) (ak_id (fun x y => x / y) (ak_is 7 (ak_il 6 (ak_c (.int 512) (ak_id (fun x y => x - x / y * y) (ak_is 8 (ak_il 7 (ak_il 4 (ak_ic (fun x y => x ≤ y) (G 65) (ak_il 7 (ak_il 2 (ak_ic (fun x y => x ≤ y) (ak_il 4 (ak_il 1 (ak_ic (fun x y => x ≤ y) (G 78) (ak_al 0 (ak_c (.int 43) (ak_cv 2 2 kX3_put (G 78))))))) (G 65)))))))))))))))))))))))))))))
def B_X3_putPiece_65 (kX5_piece : am_T) (kX6_choiceAt : am_T) (kX3_put : am_T) (kX3_putUnit : am_T) (kX4_minus : am_T) (Q : am_Q) (G : Nat → am_K) : am_K := (ak_rv Q)
def B_X3_putPiece_78 (kX5_piece : am_T) (kX6_choiceAt : am_T) (kX3_put : am_T) (kX3_putUnit : am_T) (kX4_minus : am_T) (Q : am_Q) (G : Nat → am_K) : am_K := (ak_al 0 (ak_il 4 (ak_il 7 (ak_il 8 (ak_cv 4 2 kX3_putUnit (ak_il 5 (ak_il 8 (ak_cs 2 kX4_minus (ak_is 5 (ak_il 7 (ak_is 4 (G 6))))))))))))
def cl_X3_putPiece (kX5_piece : am_T) (kX6_choiceAt : am_T) (kX3_put : am_T) (kX3_putUnit : am_T) (kX4_minus : am_T) (Q : am_Q) (G : Nat → am_K) : Prop := am_N G 0 (B_X3_putPiece_0 kX5_piece kX6_choiceAt kX3_put kX3_putUnit kX4_minus Q G) ∧ am_N G 6 (B_X3_putPiece_6 kX5_piece kX6_choiceAt kX3_put kX3_putUnit kX4_minus Q G) ∧ am_N G 65 (B_X3_putPiece_65 kX5_piece kX6_choiceAt kX3_put kX3_putUnit kX4_minus Q G) ∧ am_N G 78 (B_X3_putPiece_78 kX5_piece kX6_choiceAt kX3_put kX3_putUnit kX4_minus Q G)
def WP_X3_putPiece (kX5_piece : am_T) (kX6_choiceAt : am_T) (kX3_put : am_T) (kX3_putUnit : am_T) (kX4_minus : am_T) : am_T := fun av h Q => (lg_sl av).length ≤ 9 ∧ ∀ G, cl_X3_putPiece kX5_piece kX6_choiceAt kX3_put kX3_putUnit kX4_minus Q G → G 0 (am_ent 9 av) [] h
set_option maxHeartbeats 4000000 in
set_option maxRecDepth 100000 in
theorem s_X3_putPiece {mX5_piece : Room} {kX5_piece : am_T} (h_X5_piece : am_S false yX5_piece (am_ws yX5_piece cX5_piece 6 (some .int)) mX5_piece kX5_piece) {mX6_choiceAt : Room} {kX6_choiceAt : am_T} (h_X6_choiceAt : am_S false yX6_choiceAt (am_ws yX6_choiceAt cX6_choiceAt 2 (some .int)) mX6_choiceAt kX6_choiceAt) {mX3_put : Room} {kX3_put : am_T} (h_X3_put : am_S false yX3_put (am_ws yX3_put cX3_put 2 none) mX3_put kX3_put) {mX3_putUnit : Room} {kX3_putUnit : am_T} (h_X3_putUnit : am_S false yX3_putUnit (am_ws yX3_putUnit cX3_putUnit 6 none) mX3_putUnit kX3_putUnit) {mX4_minus : Room} {kX4_minus : am_T} (h_X4_minus : am_S false yX4_minus (am_ws yX4_minus cX4_minus 2 (some .int)) mX4_minus kX4_minus) {rm : Room} (hz : rm.cells = 0 ∧ rm.slots = 0) (R_X5_piece : mX5_piece.frames + 1 ≤ rm.frames ∧ 8 + (6 + 11) + mX5_piece.locals ≤ rm.locals) (R_X6_choiceAt : mX6_choiceAt.frames + 1 ≤ rm.frames ∧ 8 + (2 + 11) + mX6_choiceAt.locals ≤ rm.locals) (R_X3_put : mX3_put.frames + 1 ≤ rm.frames ∧ 8 + (2 + 11) + mX3_put.locals ≤ rm.locals) (R_X3_putUnit : mX3_putUnit.frames + 1 ≤ rm.frames ∧ 8 + (6 + 11) + mX3_putUnit.locals ≤ rm.locals) (R_X4_minus : mX4_minus.frames + 1 ≤ rm.frames ∧ 8 + (2 + 11) + mX4_minus.locals ≤ rm.locals) : am_S false yX3_putPiece (am_ws yX3_putPiece cX3_putPiece 9 none) rm (WP_X3_putPiece kX5_piece kX6_choiceAt kX3_put kX3_putUnit kX4_minus) := by
  refine am_S.of (fun _ => hz) (by decide +kernel) (fun h0 Q G => cl_X3_putPiece kX5_piece kX6_choiceAt kX3_put kX3_putUnit kX4_minus Q G) ?_
  intro p l e s m args below meth c D h0 Q X hr hnm hQ
  refine ⟨?_, ?_, ?_, ?_⟩
  · unfold B_X3_putPiece_0
    refine as_iload_n X (by decide +kernel : decode cX3_putPiece 0 = .ok (.iload_n 1, 1)) rfl ?_
    refine as_istore X (by decide +kernel : decode cX3_putPiece 1 = .ok (.istore 4, 2)) ?_
    refine as_iload_n X (by decide +kernel : decode cX3_putPiece 3 = .ok (.iload_n 3, 1)) rfl ?_
    refine as_istore X (by decide +kernel : decode cX3_putPiece 4 = .ok (.istore 5, 2)) ?_
    exact fun _ _ _ h => h
  · unfold B_X3_putPiece_6
    refine as_iload X (by decide +kernel : decode cX3_putPiece 6 = .ok (.iload 4, 2)) ?_
    refine as_iload_n X (by decide +kernel : decode cX3_putPiece 8 = .ok (.iload_n 2, 1)) rfl ?_
    refine as_ic_ge X (tgt := 104) (by decide +kernel : decode cX3_putPiece 9 = .ok (.if_icmp .ge 95, 3)) (by decide) ?_ ?_
    · exact as_rv X hQ hr (by decide +kernel : decode cX3_putPiece 104 = .ok (.return_, 1))
    · refine as_aload_n X (by decide +kernel : decode cX3_putPiece 12 = .ok (.aload_n 0, 1)) rfl ?_
      refine as_get X fc_X3 (by decide +kernel : decode cX3_putPiece 13 = .ok (.getfield 15, 3)) (by decide) fl_X3_15 ?_
      refine as_get X fc_X5 (by decide +kernel : decode cX3_putPiece 16 = .ok (.getfield 99, 3)) (by decide) fl_X3_99 ?_
      refine as_aload_n X (by decide +kernel : decode cX3_putPiece 19 = .ok (.aload_n 0, 1)) rfl ?_
      refine as_get X fc_X3 (by decide +kernel : decode cX3_putPiece 20 = .ok (.getfield 15, 3)) (by decide) fl_X3_15 ?_
      refine as_iload X (by decide +kernel : decode cX3_putPiece 23 = .ok (.iload 4, 2)) ?_
      refine as_iload_n X (by decide +kernel : decode cX3_putPiece 25 = .ok (.iload_n 2, 1)) rfl ?_
      refine as_iload X (by decide +kernel : decode cX3_putPiece 26 = .ok (.iload 5, 2)) ?_
      refine as_cvN X (host := "ClueParts") h_X5_piece rfl (by decide +kernel : decode cX3_putPiece 28 = .ok (.invokevirtual 102, 3)) dn_X5_piece (by decide +kernel) im_X5_piece se_X5_piece ini_X5 co_X5_piece R_X5_piece ?_
      refine as_cv X h_X6_choiceAt rfl (by decide +kernel : decode cX3_putPiece 31 = .ok (.invokevirtual 39, 3)) dn_X6_choiceAt ml_X3_39 im_X6_choiceAt se_X6_choiceAt ini_X6 co_X6_choiceAt R_X6_choiceAt ?_
      refine as_istore X (by decide +kernel : decode cX3_putPiece 34 = .ok (.istore 6, 2)) ?_
      refine as_iload X (by decide +kernel : decode cX3_putPiece 36 = .ok (.iload 6, 2)) ?_
      refine as_sipush X (by decide +kernel : decode cX3_putPiece 38 = .ok (.sipush 512, 3)) rfl ?_
      refine as_idiv X (by decide +kernel : decode cX3_putPiece 41 = .ok (.idiv, 1)) ?_
      refine as_istore X (by decide +kernel : decode cX3_putPiece 42 = .ok (.istore 7, 2)) ?_
      refine as_iload X (by decide +kernel : decode cX3_putPiece 44 = .ok (.iload 6, 2)) ?_
      refine as_sipush X (by decide +kernel : decode cX3_putPiece 46 = .ok (.sipush 512, 3)) rfl ?_
      refine as_irem X (by decide +kernel : decode cX3_putPiece 49 = .ok (.irem, 1)) ?_
      refine as_istore X (by decide +kernel : decode cX3_putPiece 50 = .ok (.istore 8, 2)) ?_
      refine as_iload X (by decide +kernel : decode cX3_putPiece 52 = .ok (.iload 7, 2)) ?_
      refine as_iload X (by decide +kernel : decode cX3_putPiece 54 = .ok (.iload 4, 2)) ?_
      refine as_ic_le X (tgt := 65) (by decide +kernel : decode cX3_putPiece 56 = .ok (.if_icmp .le 9, 3)) (by decide) ?_ ?_
      · exact fun _ _ _ h => h
      · refine as_iload X (by decide +kernel : decode cX3_putPiece 59 = .ok (.iload 7, 2)) ?_
        refine as_iload_n X (by decide +kernel : decode cX3_putPiece 61 = .ok (.iload_n 2, 1)) rfl ?_
        refine as_ic_le X (tgt := 66) (by decide +kernel : decode cX3_putPiece 62 = .ok (.if_icmp .le 4, 3)) (by decide) ?_ ?_
        · refine as_iload X (by decide +kernel : decode cX3_putPiece 66 = .ok (.iload 4, 2)) ?_
          refine as_iload_n X (by decide +kernel : decode cX3_putPiece 68 = .ok (.iload_n 1, 1)) rfl ?_
          refine as_ic_le X (tgt := 78) (by decide +kernel : decode cX3_putPiece 69 = .ok (.if_icmp .le 9, 3)) (by decide) ?_ ?_
          · exact fun _ _ _ h => h
          · refine as_aload_n X (by decide +kernel : decode cX3_putPiece 72 = .ok (.aload_n 0, 1)) rfl ?_
            refine as_bipush X (by decide +kernel : decode cX3_putPiece 73 = .ok (.bipush 43, 2)) rfl ?_
            refine as_cv X h_X3_put rfl (by decide +kernel : decode cX3_putPiece 75 = .ok (.invokevirtual 58, 3)) dn_X3_put ml_X3_58 im_X3_put se_X3_put ini_X3 co_X3_put R_X3_put ?_
            exact fun _ _ _ h => h
        · exact fun _ _ _ h => h
  · unfold B_X3_putPiece_65
    exact as_rv X hQ hr (by decide +kernel : decode cX3_putPiece 65 = .ok (.return_, 1))
  · unfold B_X3_putPiece_78
    refine as_aload_n X (by decide +kernel : decode cX3_putPiece 78 = .ok (.aload_n 0, 1)) rfl ?_
    refine as_iload X (by decide +kernel : decode cX3_putPiece 79 = .ok (.iload 4, 2)) ?_
    refine as_iload X (by decide +kernel : decode cX3_putPiece 81 = .ok (.iload 7, 2)) ?_
    refine as_iload X (by decide +kernel : decode cX3_putPiece 83 = .ok (.iload 8, 2)) ?_
    refine as_cv X h_X3_putUnit rfl (by decide +kernel : decode cX3_putPiece 85 = .ok (.invokevirtual 108, 3)) dn_X3_putUnit ml_X3_108 im_X3_putUnit se_X3_putUnit ini_X3 co_X3_putUnit R_X3_putUnit ?_
    refine as_iload X (by decide +kernel : decode cX3_putPiece 88 = .ok (.iload 5, 2)) ?_
    refine as_iload X (by decide +kernel : decode cX3_putPiece 90 = .ok (.iload 8, 2)) ?_
    refine as_cs X h_X4_minus (by decide +kernel : decode cX3_putPiece 92 = .ok (.invokestatic 111, 3)) dn_X4_minus ml_X3_111 st_X4_minus ini_X4 co_X4_minus R_X4_minus ?_
    refine as_istore X (by decide +kernel : decode cX3_putPiece 95 = .ok (.istore 5, 2)) ?_
    refine as_iload X (by decide +kernel : decode cX3_putPiece 97 = .ok (.iload 7, 2)) ?_
    refine as_istore X (by decide +kernel : decode cX3_putPiece 99 = .ok (.istore 4, 2)) ?_
    refine as_goto X (tgt := 6) (by decide +kernel : decode cX3_putPiece 101 = .ok (.goto (-95), 3)) (by decide) ?_
    exact fun _ _ _ h => h

def B_X3_putUnit_0 (kX5_unit : am_T) (kX6_choiceAt : am_T) (kX8_signOf : am_T) (kX3_put : am_T) (kX3_putInside : am_T) (kX5_spelling : am_T) (kX3_putLetters : am_T) (Q : am_Q) (G : Nat → am_K) : am_K := (ak_al 0 (ak_get 2 3 (ak_get 3 1 (ak_al 0 (ak_get 2 3 (ak_il 1 (ak_il 2 (ak_il 3 (ak_cv 4 3 kX5_unit (ak_cv 2 4 kX6_choiceAt (ak_is 4 (ak_il 4 (ak_c (.int 8192) (ak_id (fun x y => x / y) (ak_is 5 (ak_il 5 (ak_if (fun x => x = 0) (G 41) (ak_il 5 (ak_c (.int 1) (ak_ic (fun x y => x = y) (G 41) (ak_al 0 (ak_il 5 (ak_cs 1 kX8_signOf (ak_cv 2 2 kX3_put (ak_al 0 (ak_c (.int 40) (ak_cv 2 2 kX3_put (ak_al 0 (ak_il 5 (ak_il 4 (ak_c (.int 8192) (ak_id (fun x y => x - x / y * y) (ak_il 1 (ak_il 2 (ak_il 3 (ak_cv 6 2 kX3_putInside (ak_al 0 (ak_c (.int 41) (ak_cv 2 2 kX3_put (ak_rv Q))))))))))))))))))))))))))))))))))))))))
def B_X3_putUnit_41 (kX5_unit : am_T) (kX6_choiceAt : am_T) (kX8_signOf : am_T) (kX3_put : am_T) (kX3_putInside : am_T) (kX5_spelling : am_T) (kX3_putLetters : am_T) (Q : am_Q) (G : Nat → am_K) : am_K := (ak_il 5 (ak_c (.int 1) (ak_ic (fun x y => x = y) (ak_al 0 (ak_c (.int 39) (ak_cv 2 2 kX3_put (G 53)))) (G 53))))
def B_X3_putUnit_53 (kX5_unit : am_T) (kX6_choiceAt : am_T) (kX8_signOf : am_T) (kX3_put : am_T) (kX3_putInside : am_T) (kX5_spelling : am_T) (kX3_putLetters : am_T) (Q : am_Q) (G : Nat → am_K) : am_K := (ak_al 0 (ak_al 0 (ak_get 2 3 (ak_il 3 (ak_cv 2 3 kX5_spelling (ak_cv 2 2 kX3_putLetters (ak_rv Q)))))))
def cl_X3_putUnit (kX5_unit : am_T) (kX6_choiceAt : am_T) (kX8_signOf : am_T) (kX3_put : am_T) (kX3_putInside : am_T) (kX5_spelling : am_T) (kX3_putLetters : am_T) (Q : am_Q) (G : Nat → am_K) : Prop := am_N G 0 (B_X3_putUnit_0 kX5_unit kX6_choiceAt kX8_signOf kX3_put kX3_putInside kX5_spelling kX3_putLetters Q G) ∧ am_N G 41 (B_X3_putUnit_41 kX5_unit kX6_choiceAt kX8_signOf kX3_put kX3_putInside kX5_spelling kX3_putLetters Q G) ∧ am_N G 53 (B_X3_putUnit_53 kX5_unit kX6_choiceAt kX8_signOf kX3_put kX3_putInside kX5_spelling kX3_putLetters Q G)
def WP_X3_putUnit (kX5_unit : am_T) (kX6_choiceAt : am_T) (kX8_signOf : am_T) (kX3_put : am_T) (kX3_putInside : am_T) (kX5_spelling : am_T) (kX3_putLetters : am_T) : am_T := fun av h Q => (lg_sl av).length ≤ 6 ∧ ∀ G, cl_X3_putUnit kX5_unit kX6_choiceAt kX8_signOf kX3_put kX3_putInside kX5_spelling kX3_putLetters Q G → G 0 (am_ent 6 av) [] h
set_option maxHeartbeats 4000000 in
set_option maxRecDepth 100000 in
theorem s_X3_putUnit {mX5_unit : Room} {kX5_unit : am_T} (h_X5_unit : am_S false yX5_unit (am_ws yX5_unit cX5_unit 7 (some .int)) mX5_unit kX5_unit) {mX6_choiceAt : Room} {kX6_choiceAt : am_T} (h_X6_choiceAt : am_S false yX6_choiceAt (am_ws yX6_choiceAt cX6_choiceAt 2 (some .int)) mX6_choiceAt kX6_choiceAt) {mX8_signOf : Room} {kX8_signOf : am_T} (h_X8_signOf : am_S false yX8_signOf (am_ws yX8_signOf cX8_signOf 2 (some .int)) mX8_signOf kX8_signOf) {mX3_put : Room} {kX3_put : am_T} (h_X3_put : am_S false yX3_put (am_ws yX3_put cX3_put 2 none) mX3_put kX3_put) {mX3_putInside : Room} {kX3_putInside : am_T} (h_X3_putInside : am_S false yX3_putInside (am_ws yX3_putInside cX3_putInside 6 none) mX3_putInside kX3_putInside) {mX5_spelling : Room} {kX5_spelling : am_T} (h_X5_spelling : am_S false yX5_spelling (am_ws yX5_spelling cX5_spelling 8 (some .long)) mX5_spelling kX5_spelling) {mX3_putLetters : Room} {kX3_putLetters : am_T} (h_X3_putLetters : am_S false yX3_putLetters (am_ws yX3_putLetters cX3_putLetters 5 none) mX3_putLetters kX3_putLetters) {rm : Room} (hz : rm.cells = 0 ∧ rm.slots = 0) (R_X5_unit : mX5_unit.frames + 1 ≤ rm.frames ∧ 8 + (7 + 11) + mX5_unit.locals ≤ rm.locals) (R_X6_choiceAt : mX6_choiceAt.frames + 1 ≤ rm.frames ∧ 8 + (2 + 11) + mX6_choiceAt.locals ≤ rm.locals) (R_X8_signOf : mX8_signOf.frames + 1 ≤ rm.frames ∧ 8 + (2 + 11) + mX8_signOf.locals ≤ rm.locals) (R_X3_put : mX3_put.frames + 1 ≤ rm.frames ∧ 8 + (2 + 11) + mX3_put.locals ≤ rm.locals) (R_X3_putInside : mX3_putInside.frames + 1 ≤ rm.frames ∧ 8 + (6 + 11) + mX3_putInside.locals ≤ rm.locals) (R_X5_spelling : mX5_spelling.frames + 1 ≤ rm.frames ∧ 8 + (8 + 11) + mX5_spelling.locals ≤ rm.locals) (R_X3_putLetters : mX3_putLetters.frames + 1 ≤ rm.frames ∧ 8 + (5 + 11) + mX3_putLetters.locals ≤ rm.locals) : am_S false yX3_putUnit (am_ws yX3_putUnit cX3_putUnit 6 none) rm (WP_X3_putUnit kX5_unit kX6_choiceAt kX8_signOf kX3_put kX3_putInside kX5_spelling kX3_putLetters) := by
  refine am_S.of (fun _ => hz) (by decide +kernel) (fun h0 Q G => cl_X3_putUnit kX5_unit kX6_choiceAt kX8_signOf kX3_put kX3_putInside kX5_spelling kX3_putLetters Q G) ?_
  intro p l e s m args below meth c D h0 Q X hr hnm hQ
  refine ⟨?_, ?_, ?_⟩
  · unfold B_X3_putUnit_0
    refine as_aload_n X (by decide +kernel : decode cX3_putUnit 0 = .ok (.aload_n 0, 1)) rfl ?_
    refine as_get X fc_X3 (by decide +kernel : decode cX3_putUnit 1 = .ok (.getfield 15, 3)) (by decide) fl_X3_15 ?_
    refine as_get X fc_X5 (by decide +kernel : decode cX3_putUnit 4 = .ok (.getfield 115, 3)) (by decide) fl_X3_115 ?_
    refine as_aload_n X (by decide +kernel : decode cX3_putUnit 7 = .ok (.aload_n 0, 1)) rfl ?_
    refine as_get X fc_X3 (by decide +kernel : decode cX3_putUnit 8 = .ok (.getfield 15, 3)) (by decide) fl_X3_15 ?_
    refine as_iload_n X (by decide +kernel : decode cX3_putUnit 11 = .ok (.iload_n 1, 1)) rfl ?_
    refine as_iload_n X (by decide +kernel : decode cX3_putUnit 12 = .ok (.iload_n 2, 1)) rfl ?_
    refine as_iload_n X (by decide +kernel : decode cX3_putUnit 13 = .ok (.iload_n 3, 1)) rfl ?_
    refine as_cvN X (host := "ClueParts") h_X5_unit rfl (by decide +kernel : decode cX3_putUnit 14 = .ok (.invokevirtual 118, 3)) dn_X5_unit (by decide +kernel) im_X5_unit se_X5_unit ini_X5 co_X5_unit R_X5_unit ?_
    refine as_cv X h_X6_choiceAt rfl (by decide +kernel : decode cX3_putUnit 17 = .ok (.invokevirtual 39, 3)) dn_X6_choiceAt ml_X3_39 im_X6_choiceAt se_X6_choiceAt ini_X6 co_X6_choiceAt R_X6_choiceAt ?_
    refine as_istore X (by decide +kernel : decode cX3_putUnit 20 = .ok (.istore 4, 2)) ?_
    refine as_iload X (by decide +kernel : decode cX3_putUnit 22 = .ok (.iload 4, 2)) ?_
    refine as_sipush X (by decide +kernel : decode cX3_putUnit 24 = .ok (.sipush 8192, 3)) rfl ?_
    refine as_idiv X (by decide +kernel : decode cX3_putUnit 27 = .ok (.idiv, 1)) ?_
    refine as_istore X (by decide +kernel : decode cX3_putUnit 28 = .ok (.istore 5, 2)) ?_
    refine as_iload X (by decide +kernel : decode cX3_putUnit 30 = .ok (.iload 5, 2)) ?_
    refine as_if_eq X (tgt := 41) (by decide +kernel : decode cX3_putUnit 32 = .ok (.ifCond .eq 9, 3)) (by decide) ?_ ?_
    · exact fun _ _ _ h => h
    · refine as_iload X (by decide +kernel : decode cX3_putUnit 35 = .ok (.iload 5, 2)) ?_
      refine as_iconst X (by decide +kernel : decode cX3_putUnit 37 = .ok (.iconst 1, 1)) rfl ?_
      refine as_ic_ne X (tgt := 66) (by decide +kernel : decode cX3_putUnit 38 = .ok (.if_icmp .ne 28, 3)) (by decide) ?_ ?_
      · exact fun _ _ _ h => h
      · refine as_aload_n X (by decide +kernel : decode cX3_putUnit 66 = .ok (.aload_n 0, 1)) rfl ?_
        refine as_iload X (by decide +kernel : decode cX3_putUnit 67 = .ok (.iload 5, 2)) ?_
        refine as_csN X (host := "ClueParts") h_X8_signOf (by decide +kernel : decode cX3_putUnit 69 = .ok (.invokestatic 124, 3)) dn_X8_signOf (by decide +kernel) st_X8_signOf ini_X8 co_X8_signOf R_X8_signOf ?_
        refine as_cv X h_X3_put rfl (by decide +kernel : decode cX3_putUnit 72 = .ok (.invokevirtual 58, 3)) dn_X3_put ml_X3_58 im_X3_put se_X3_put ini_X3 co_X3_put R_X3_put ?_
        refine as_aload_n X (by decide +kernel : decode cX3_putUnit 75 = .ok (.aload_n 0, 1)) rfl ?_
        refine as_bipush X (by decide +kernel : decode cX3_putUnit 76 = .ok (.bipush 40, 2)) rfl ?_
        refine as_cv X h_X3_put rfl (by decide +kernel : decode cX3_putUnit 78 = .ok (.invokevirtual 58, 3)) dn_X3_put ml_X3_58 im_X3_put se_X3_put ini_X3 co_X3_put R_X3_put ?_
        refine as_aload_n X (by decide +kernel : decode cX3_putUnit 81 = .ok (.aload_n 0, 1)) rfl ?_
        refine as_iload X (by decide +kernel : decode cX3_putUnit 82 = .ok (.iload 5, 2)) ?_
        refine as_iload X (by decide +kernel : decode cX3_putUnit 84 = .ok (.iload 4, 2)) ?_
        refine as_sipush X (by decide +kernel : decode cX3_putUnit 86 = .ok (.sipush 8192, 3)) rfl ?_
        refine as_irem X (by decide +kernel : decode cX3_putUnit 89 = .ok (.irem, 1)) ?_
        refine as_iload_n X (by decide +kernel : decode cX3_putUnit 90 = .ok (.iload_n 1, 1)) rfl ?_
        refine as_iload_n X (by decide +kernel : decode cX3_putUnit 91 = .ok (.iload_n 2, 1)) rfl ?_
        refine as_iload_n X (by decide +kernel : decode cX3_putUnit 92 = .ok (.iload_n 3, 1)) rfl ?_
        refine as_cv X h_X3_putInside rfl (by decide +kernel : decode cX3_putUnit 93 = .ok (.invokevirtual 127, 3)) dn_X3_putInside ml_X3_127 im_X3_putInside se_X3_putInside ini_X3 co_X3_putInside R_X3_putInside ?_
        refine as_aload_n X (by decide +kernel : decode cX3_putUnit 96 = .ok (.aload_n 0, 1)) rfl ?_
        refine as_bipush X (by decide +kernel : decode cX3_putUnit 97 = .ok (.bipush 41, 2)) rfl ?_
        refine as_cv X h_X3_put rfl (by decide +kernel : decode cX3_putUnit 99 = .ok (.invokevirtual 58, 3)) dn_X3_put ml_X3_58 im_X3_put se_X3_put ini_X3 co_X3_put R_X3_put ?_
        exact as_rv X hQ hr (by decide +kernel : decode cX3_putUnit 102 = .ok (.return_, 1))
  · unfold B_X3_putUnit_41
    refine as_iload X (by decide +kernel : decode cX3_putUnit 41 = .ok (.iload 5, 2)) ?_
    refine as_iconst X (by decide +kernel : decode cX3_putUnit 43 = .ok (.iconst 1, 1)) rfl ?_
    refine as_ic_ne X (tgt := 53) (by decide +kernel : decode cX3_putUnit 44 = .ok (.if_icmp .ne 9, 3)) (by decide) ?_ ?_
    · refine as_aload_n X (by decide +kernel : decode cX3_putUnit 47 = .ok (.aload_n 0, 1)) rfl ?_
      refine as_bipush X (by decide +kernel : decode cX3_putUnit 48 = .ok (.bipush 39, 2)) rfl ?_
      refine as_cv X h_X3_put rfl (by decide +kernel : decode cX3_putUnit 50 = .ok (.invokevirtual 58, 3)) dn_X3_put ml_X3_58 im_X3_put se_X3_put ini_X3 co_X3_put R_X3_put ?_
      exact fun _ _ _ h => h
    · exact fun _ _ _ h => h
  · unfold B_X3_putUnit_53
    refine as_aload_n X (by decide +kernel : decode cX3_putUnit 53 = .ok (.aload_n 0, 1)) rfl ?_
    refine as_aload_n X (by decide +kernel : decode cX3_putUnit 54 = .ok (.aload_n 0, 1)) rfl ?_
    refine as_get X fc_X3 (by decide +kernel : decode cX3_putUnit 55 = .ok (.getfield 15, 3)) (by decide) fl_X3_15 ?_
    refine as_iload_n X (by decide +kernel : decode cX3_putUnit 58 = .ok (.iload_n 3, 1)) rfl ?_
    refine as_cv X h_X5_spelling rfl (by decide +kernel : decode cX3_putUnit 59 = .ok (.invokevirtual 121, 3)) dn_X5_spelling ml_X3_121 im_X5_spelling se_X5_spelling ini_X5 co_X5_spelling R_X5_spelling ?_
    refine as_cv X h_X3_putLetters rfl (by decide +kernel : decode cX3_putUnit 62 = .ok (.invokevirtual 95, 3)) dn_X3_putLetters ml_X3_95 im_X3_putLetters se_X3_putLetters ini_X3 co_X3_putLetters R_X3_putLetters ?_
    exact as_rv X hQ hr (by decide +kernel : decode cX3_putUnit 65 = .ok (.return_, 1))

def B_X3_putInside_0 (kX4_reversed : am_T) (kX3_putPiece : am_T) (kX3_putWords : am_T) (kX3_putContainer : am_T) (kX3_putWhole : am_T) (Q : am_Q) (G : Nat → am_K) : am_K := (ak_il 1 (ak_sw (2) (8) [(ak_al 0 (ak_il 2 (ak_if (fun x => x = 0) (ak_il 3 (ak_c (.int 1) (ak_ib (fun x y => x + y) (G 56)))) (ak_il 3 (G 56))))), (ak_al 0 (ak_il 2 (ak_if (fun x => x = 0) (ak_il 3 (ak_c (.int 1) (ak_ib (fun x y => x + y) (G 92)))) (ak_il 3 (G 92))))), (G 111), (G 111), (G 137), (G 125), (G 125)] (G 137)))
def B_X3_putInside_56 (kX4_reversed : am_T) (kX3_putPiece : am_T) (kX3_putWords : am_T) (kX3_putContainer : am_T) (kX3_putWhole : am_T) (Q : am_Q) (G : Nat → am_K) : am_K := (ak_il 2 (ak_if (fun x => x = 0) (ak_il 4 (G 69)) (ak_il 4 (ak_c (.int 1) (ak_ib (fun x y => x - y) (G 69))))))
def B_X3_putInside_69 (kX4_reversed : am_T) (kX3_putPiece : am_T) (kX3_putWords : am_T) (kX3_putContainer : am_T) (kX3_putWhole : am_T) (Q : am_Q) (G : Nat → am_K) : am_K := (ak_il 5 (ak_cs 1 kX4_reversed (ak_cv 4 2 kX3_putPiece (G 146))))
def B_X3_putInside_92 (kX4_reversed : am_T) (kX3_putPiece : am_T) (kX3_putWords : am_T) (kX3_putContainer : am_T) (kX3_putWhole : am_T) (Q : am_Q) (G : Nat → am_K) : am_K := (ak_il 2 (ak_if (fun x => x = 0) (ak_il 4 (G 105)) (ak_il 4 (ak_c (.int 1) (ak_ib (fun x y => x - y) (G 105))))))
def B_X3_putInside_105 (kX4_reversed : am_T) (kX3_putPiece : am_T) (kX3_putWords : am_T) (kX3_putContainer : am_T) (kX3_putWhole : am_T) (Q : am_Q) (G : Nat → am_K) : am_K := (ak_cv 3 2 kX3_putWords (G 146))
def B_X3_putInside_111 (kX4_reversed : am_T) (kX3_putPiece : am_T) (kX3_putWords : am_T) (kX3_putContainer : am_T) (kX3_putWhole : am_T) (Q : am_Q) (G : Nat → am_K) : am_K := (ak_al 0 (ak_il 1 (ak_il 2 (ak_il 3 (ak_il 4 (ak_il 5 (ak_cv 6 2 kX3_putContainer (G 146))))))))
def B_X3_putInside_125 (kX4_reversed : am_T) (kX3_putPiece : am_T) (kX3_putWords : am_T) (kX3_putContainer : am_T) (kX3_putWhole : am_T) (Q : am_Q) (G : Nat → am_K) : am_K := (ak_al 0 (ak_il 2 (ak_il 4 (ak_c (.int 1) (ak_ib (fun x y => x - y) (ak_cv 3 2 kX3_putWhole (G 146)))))))
def B_X3_putInside_137 (kX4_reversed : am_T) (kX3_putPiece : am_T) (kX3_putWords : am_T) (kX3_putContainer : am_T) (kX3_putWhole : am_T) (Q : am_Q) (G : Nat → am_K) : am_K := (ak_al 0 (ak_il 3 (ak_c (.int 1) (ak_ib (fun x y => x + y) (ak_il 4 (ak_cv 3 2 kX3_putWords (G 146)))))))
def B_X3_putInside_146 (kX4_reversed : am_T) (kX3_putPiece : am_T) (kX3_putWords : am_T) (kX3_putContainer : am_T) (kX3_putWhole : am_T) (Q : am_Q) (G : Nat → am_K) : am_K := (ak_rv Q)
def cl_X3_putInside (kX4_reversed : am_T) (kX3_putPiece : am_T) (kX3_putWords : am_T) (kX3_putContainer : am_T) (kX3_putWhole : am_T) (Q : am_Q) (G : Nat → am_K) : Prop := am_N G 0 (B_X3_putInside_0 kX4_reversed kX3_putPiece kX3_putWords kX3_putContainer kX3_putWhole Q G) ∧ am_N G 56 (B_X3_putInside_56 kX4_reversed kX3_putPiece kX3_putWords kX3_putContainer kX3_putWhole Q G) ∧ am_N G 69 (B_X3_putInside_69 kX4_reversed kX3_putPiece kX3_putWords kX3_putContainer kX3_putWhole Q G) ∧ am_N G 92 (B_X3_putInside_92 kX4_reversed kX3_putPiece kX3_putWords kX3_putContainer kX3_putWhole Q G) ∧ am_N G 105 (B_X3_putInside_105 kX4_reversed kX3_putPiece kX3_putWords kX3_putContainer kX3_putWhole Q G) ∧ am_N G 111 (B_X3_putInside_111 kX4_reversed kX3_putPiece kX3_putWords kX3_putContainer kX3_putWhole Q G) ∧ am_N G 125 (B_X3_putInside_125 kX4_reversed kX3_putPiece kX3_putWords kX3_putContainer kX3_putWhole Q G) ∧ am_N G 137 (B_X3_putInside_137 kX4_reversed kX3_putPiece kX3_putWords kX3_putContainer kX3_putWhole Q G) ∧ am_N G 146 (B_X3_putInside_146 kX4_reversed kX3_putPiece kX3_putWords kX3_putContainer kX3_putWhole Q G)
def WP_X3_putInside (kX4_reversed : am_T) (kX3_putPiece : am_T) (kX3_putWords : am_T) (kX3_putContainer : am_T) (kX3_putWhole : am_T) : am_T := fun av h Q => (lg_sl av).length ≤ 6 ∧ ∀ G, cl_X3_putInside kX4_reversed kX3_putPiece kX3_putWords kX3_putContainer kX3_putWhole Q G → G 0 (am_ent 6 av) [] h
set_option maxHeartbeats 4000000 in
set_option maxRecDepth 100000 in
theorem s_X3_putInside {mX4_reversed : Room} {kX4_reversed : am_T} (h_X4_reversed : am_S false yX4_reversed (am_ws yX4_reversed cX4_reversed 1 (some .int)) mX4_reversed kX4_reversed) {mX3_putPiece : Room} {kX3_putPiece : am_T} (h_X3_putPiece : am_S false yX3_putPiece (am_ws yX3_putPiece cX3_putPiece 9 none) mX3_putPiece kX3_putPiece) {mX3_putWords : Room} {kX3_putWords : am_T} (h_X3_putWords : am_S false yX3_putWords (am_ws yX3_putWords cX3_putWords 4 none) mX3_putWords kX3_putWords) {mX3_putContainer : Room} {kX3_putContainer : am_T} (h_X3_putContainer : am_S false yX3_putContainer (am_ws yX3_putContainer cX3_putContainer 9 none) mX3_putContainer kX3_putContainer) {mX3_putWhole : Room} {kX3_putWhole : am_T} (h_X3_putWhole : am_S false yX3_putWhole (am_ws yX3_putWhole cX3_putWhole 3 none) mX3_putWhole kX3_putWhole) {rm : Room} (hz : rm.cells = 0 ∧ rm.slots = 0) (R_X4_reversed : mX4_reversed.frames + 1 ≤ rm.frames ∧ 8 + (1 + 11) + mX4_reversed.locals ≤ rm.locals) (R_X3_putPiece : mX3_putPiece.frames + 1 ≤ rm.frames ∧ 8 + (9 + 11) + mX3_putPiece.locals ≤ rm.locals) (R_X3_putWords : mX3_putWords.frames + 1 ≤ rm.frames ∧ 8 + (4 + 11) + mX3_putWords.locals ≤ rm.locals) (R_X3_putContainer : mX3_putContainer.frames + 1 ≤ rm.frames ∧ 8 + (9 + 11) + mX3_putContainer.locals ≤ rm.locals) (R_X3_putWhole : mX3_putWhole.frames + 1 ≤ rm.frames ∧ 8 + (3 + 11) + mX3_putWhole.locals ≤ rm.locals) : am_S false yX3_putInside (am_ws yX3_putInside cX3_putInside 6 none) rm (WP_X3_putInside kX4_reversed kX3_putPiece kX3_putWords kX3_putContainer kX3_putWhole) := by
  refine am_S.of (fun _ => hz) (by decide +kernel) (fun h0 Q G => cl_X3_putInside kX4_reversed kX3_putPiece kX3_putWords kX3_putContainer kX3_putWhole Q G) ?_
  intro p l e s m args below meth c D h0 Q X hr hnm hQ
  refine ⟨?_, ?_, ?_, ?_, ?_, ?_, ?_, ?_, ?_⟩
  · unfold B_X3_putInside_0
    refine as_iload_n X (by decide +kernel : decode cX3_putInside 0 = .ok (.iload_n 1, 1)) rfl ?_
    refine as_sw X (td := 137) (by decide +kernel : decode cX3_putInside 1 = .ok (.tableswitch 136 2 8 #[43, 79, 110, 110, 136, 124, 124], 43)) (by decide) rfl (by decide) ?_ ?_
    · exact fun _ _ _ h => h
    · intro i off K h1 h2
      match i, h1, h2 with
      | 0, h1, h2 =>
        obtain rfl := Option.some.inj h1
        obtain rfl := Option.some.inj h2
        refine ⟨44, by decide, ?_⟩
        refine as_aload_n X (by decide +kernel : decode cX3_putInside 44 = .ok (.aload_n 0, 1)) rfl ?_
        refine as_iload_n X (by decide +kernel : decode cX3_putInside 45 = .ok (.iload_n 2, 1)) rfl ?_
        refine as_if_ne X (tgt := 55) (by decide +kernel : decode cX3_putInside 46 = .ok (.ifCond .ne 9, 3)) (by decide) ?_ ?_
        · refine as_iload_n X (by decide +kernel : decode cX3_putInside 49 = .ok (.iload_n 3, 1)) rfl ?_
          refine as_iconst X (by decide +kernel : decode cX3_putInside 50 = .ok (.iconst 1, 1)) rfl ?_
          refine as_iadd X (by decide +kernel : decode cX3_putInside 51 = .ok (.iadd, 1)) ?_
          refine as_goto X (tgt := 56) (by decide +kernel : decode cX3_putInside 52 = .ok (.goto 4, 3)) (by decide) ?_
          exact fun _ _ _ h => h
        · refine as_iload_n X (by decide +kernel : decode cX3_putInside 55 = .ok (.iload_n 3, 1)) rfl ?_
          exact fun _ _ _ h => h
      | 1, h1, h2 =>
        obtain rfl := Option.some.inj h1
        obtain rfl := Option.some.inj h2
        refine ⟨80, by decide, ?_⟩
        refine as_aload_n X (by decide +kernel : decode cX3_putInside 80 = .ok (.aload_n 0, 1)) rfl ?_
        refine as_iload_n X (by decide +kernel : decode cX3_putInside 81 = .ok (.iload_n 2, 1)) rfl ?_
        refine as_if_ne X (tgt := 91) (by decide +kernel : decode cX3_putInside 82 = .ok (.ifCond .ne 9, 3)) (by decide) ?_ ?_
        · refine as_iload_n X (by decide +kernel : decode cX3_putInside 85 = .ok (.iload_n 3, 1)) rfl ?_
          refine as_iconst X (by decide +kernel : decode cX3_putInside 86 = .ok (.iconst 1, 1)) rfl ?_
          refine as_iadd X (by decide +kernel : decode cX3_putInside 87 = .ok (.iadd, 1)) ?_
          refine as_goto X (tgt := 92) (by decide +kernel : decode cX3_putInside 88 = .ok (.goto 4, 3)) (by decide) ?_
          exact fun _ _ _ h => h
        · refine as_iload_n X (by decide +kernel : decode cX3_putInside 91 = .ok (.iload_n 3, 1)) rfl ?_
          exact fun _ _ _ h => h
      | 2, h1, h2 =>
        obtain rfl := Option.some.inj h1
        obtain rfl := Option.some.inj h2
        refine ⟨111, by decide, ?_⟩
        exact fun _ _ _ h => h
      | 3, h1, h2 =>
        obtain rfl := Option.some.inj h1
        obtain rfl := Option.some.inj h2
        refine ⟨111, by decide, ?_⟩
        exact fun _ _ _ h => h
      | 4, h1, h2 =>
        obtain rfl := Option.some.inj h1
        obtain rfl := Option.some.inj h2
        refine ⟨137, by decide, ?_⟩
        exact fun _ _ _ h => h
      | 5, h1, h2 =>
        obtain rfl := Option.some.inj h1
        obtain rfl := Option.some.inj h2
        refine ⟨125, by decide, ?_⟩
        exact fun _ _ _ h => h
      | 6, h1, h2 =>
        obtain rfl := Option.some.inj h1
        obtain rfl := Option.some.inj h2
        refine ⟨125, by decide, ?_⟩
        exact fun _ _ _ h => h
      | i + 7, h1, h2 => exact absurd h2 (by simp)
  · unfold B_X3_putInside_56
    refine as_iload_n X (by decide +kernel : decode cX3_putInside 56 = .ok (.iload_n 2, 1)) rfl ?_
    refine as_if_ne X (tgt := 65) (by decide +kernel : decode cX3_putInside 57 = .ok (.ifCond .ne 8, 3)) (by decide) ?_ ?_
    · refine as_iload X (by decide +kernel : decode cX3_putInside 60 = .ok (.iload 4, 2)) ?_
      refine as_goto X (tgt := 69) (by decide +kernel : decode cX3_putInside 62 = .ok (.goto 7, 3)) (by decide) ?_
      exact fun _ _ _ h => h
    · refine as_iload X (by decide +kernel : decode cX3_putInside 65 = .ok (.iload 4, 2)) ?_
      refine as_iconst X (by decide +kernel : decode cX3_putInside 67 = .ok (.iconst 1, 1)) rfl ?_
      refine as_isub X (by decide +kernel : decode cX3_putInside 68 = .ok (.isub, 1)) ?_
      exact fun _ _ _ h => h
  · unfold B_X3_putInside_69
    refine as_iload X (by decide +kernel : decode cX3_putInside 69 = .ok (.iload 5, 2)) ?_
    refine as_cs X h_X4_reversed (by decide +kernel : decode cX3_putInside 71 = .ok (.invokestatic 131, 3)) dn_X4_reversed ml_X3_131 st_X4_reversed ini_X4 co_X4_reversed R_X4_reversed ?_
    refine as_cv X h_X3_putPiece rfl (by decide +kernel : decode cX3_putInside 74 = .ok (.invokevirtual 78, 3)) dn_X3_putPiece ml_X3_78 im_X3_putPiece se_X3_putPiece ini_X3 co_X3_putPiece R_X3_putPiece ?_
    refine as_goto X (tgt := 146) (by decide +kernel : decode cX3_putInside 77 = .ok (.goto 69, 3)) (by decide) ?_
    exact fun _ _ _ h => h
  · unfold B_X3_putInside_92
    refine as_iload_n X (by decide +kernel : decode cX3_putInside 92 = .ok (.iload_n 2, 1)) rfl ?_
    refine as_if_ne X (tgt := 101) (by decide +kernel : decode cX3_putInside 93 = .ok (.ifCond .ne 8, 3)) (by decide) ?_ ?_
    · refine as_iload X (by decide +kernel : decode cX3_putInside 96 = .ok (.iload 4, 2)) ?_
      refine as_goto X (tgt := 105) (by decide +kernel : decode cX3_putInside 98 = .ok (.goto 7, 3)) (by decide) ?_
      exact fun _ _ _ h => h
    · refine as_iload X (by decide +kernel : decode cX3_putInside 101 = .ok (.iload 4, 2)) ?_
      refine as_iconst X (by decide +kernel : decode cX3_putInside 103 = .ok (.iconst 1, 1)) rfl ?_
      refine as_isub X (by decide +kernel : decode cX3_putInside 104 = .ok (.isub, 1)) ?_
      exact fun _ _ _ h => h
  · unfold B_X3_putInside_105
    refine as_cv X h_X3_putWords rfl (by decide +kernel : decode cX3_putInside 105 = .ok (.invokevirtual 62, 3)) dn_X3_putWords ml_X3_62 im_X3_putWords se_X3_putWords ini_X3 co_X3_putWords R_X3_putWords ?_
    refine as_goto X (tgt := 146) (by decide +kernel : decode cX3_putInside 108 = .ok (.goto 38, 3)) (by decide) ?_
    exact fun _ _ _ h => h
  · unfold B_X3_putInside_111
    refine as_aload_n X (by decide +kernel : decode cX3_putInside 111 = .ok (.aload_n 0, 1)) rfl ?_
    refine as_iload_n X (by decide +kernel : decode cX3_putInside 112 = .ok (.iload_n 1, 1)) rfl ?_
    refine as_iload_n X (by decide +kernel : decode cX3_putInside 113 = .ok (.iload_n 2, 1)) rfl ?_
    refine as_iload_n X (by decide +kernel : decode cX3_putInside 114 = .ok (.iload_n 3, 1)) rfl ?_
    refine as_iload X (by decide +kernel : decode cX3_putInside 115 = .ok (.iload 4, 2)) ?_
    refine as_iload X (by decide +kernel : decode cX3_putInside 117 = .ok (.iload 5, 2)) ?_
    refine as_cv X h_X3_putContainer rfl (by decide +kernel : decode cX3_putInside 119 = .ok (.invokevirtual 134, 3)) dn_X3_putContainer ml_X3_134 im_X3_putContainer se_X3_putContainer ini_X3 co_X3_putContainer R_X3_putContainer ?_
    refine as_goto X (tgt := 146) (by decide +kernel : decode cX3_putInside 122 = .ok (.goto 24, 3)) (by decide) ?_
    exact fun _ _ _ h => h
  · unfold B_X3_putInside_125
    refine as_aload_n X (by decide +kernel : decode cX3_putInside 125 = .ok (.aload_n 0, 1)) rfl ?_
    refine as_iload_n X (by decide +kernel : decode cX3_putInside 126 = .ok (.iload_n 2, 1)) rfl ?_
    refine as_iload X (by decide +kernel : decode cX3_putInside 127 = .ok (.iload 4, 2)) ?_
    refine as_iconst X (by decide +kernel : decode cX3_putInside 129 = .ok (.iconst 1, 1)) rfl ?_
    refine as_isub X (by decide +kernel : decode cX3_putInside 130 = .ok (.isub, 1)) ?_
    refine as_cv X h_X3_putWhole rfl (by decide +kernel : decode cX3_putInside 131 = .ok (.invokevirtual 137, 3)) dn_X3_putWhole ml_X3_137 im_X3_putWhole se_X3_putWhole ini_X3 co_X3_putWhole R_X3_putWhole ?_
    refine as_goto X (tgt := 146) (by decide +kernel : decode cX3_putInside 134 = .ok (.goto 12, 3)) (by decide) ?_
    exact fun _ _ _ h => h
  · unfold B_X3_putInside_137
    refine as_aload_n X (by decide +kernel : decode cX3_putInside 137 = .ok (.aload_n 0, 1)) rfl ?_
    refine as_iload_n X (by decide +kernel : decode cX3_putInside 138 = .ok (.iload_n 3, 1)) rfl ?_
    refine as_iconst X (by decide +kernel : decode cX3_putInside 139 = .ok (.iconst 1, 1)) rfl ?_
    refine as_iadd X (by decide +kernel : decode cX3_putInside 140 = .ok (.iadd, 1)) ?_
    refine as_iload X (by decide +kernel : decode cX3_putInside 141 = .ok (.iload 4, 2)) ?_
    refine as_cv X h_X3_putWords rfl (by decide +kernel : decode cX3_putInside 143 = .ok (.invokevirtual 62, 3)) dn_X3_putWords ml_X3_62 im_X3_putWords se_X3_putWords ini_X3 co_X3_putWords R_X3_putWords ?_
    exact fun _ _ _ h => h
  · unfold B_X3_putInside_146
    exact as_rv X hQ hr (by decide +kernel : decode cX3_putInside 146 = .ok (.return_, 1))

def B_X3_putContainer_0 (kX4_minus : am_T) (kX3_putPiece : am_T) (kX3_put : am_T) (Q : am_Q) (G : Nat → am_K) : am_K := (ak_il 2 (ak_c (.int 512) (ak_id (fun x y => x / y) (ak_is 6 (ak_il 2 (ak_c (.int 512) (ak_id (fun x y => x - x / y * y) (ak_is 7 (ak_il 5 (ak_il 7 (ak_cs 2 kX4_minus (ak_is 8 (ak_il 6 (ak_il 3 (ak_ic (fun x y => x ≤ y) (G 36) (ak_il 6 (ak_il 4 (ak_ic (fun x y => x < y) (ak_al 0 (ak_il 3 (ak_il 6 (ak_il 1 (ak_c (.int 4) (ak_ic (fun x y => x = y) (ak_il 8 (G 53)) (ak_il 7 (G 53)))))))) (G 36)))))))))))))))))))
def B_X3_putContainer_36 (kX4_minus : am_T) (kX3_putPiece : am_T) (kX3_put : am_T) (Q : am_Q) (G : Nat → am_K) : am_K := (ak_rv Q)
def B_X3_putContainer_53 (kX4_minus : am_T) (kX3_putPiece : am_T) (kX3_put : am_T) (Q : am_Q) (G : Nat → am_K) : am_K := (ak_cv 4 2 kX3_putPiece (ak_al 0 (ak_c (.int 41) (ak_cv 2 2 kX3_put (ak_al 0 (ak_c (.int 40) (ak_cv 2 2 kX3_put (ak_al 0 (ak_il 6 (ak_c (.int 1) (ak_ib (fun x y => x + y) (ak_il 4 (ak_il 1 (ak_c (.int 4) (ak_ic (fun x y => x = y) (ak_il 7 (G 87)) (ak_il 8 (G 87)))))))))))))))))
def B_X3_putContainer_87 (kX4_minus : am_T) (kX3_putPiece : am_T) (kX3_put : am_T) (Q : am_Q) (G : Nat → am_K) : am_K := (ak_cv 4 2 kX3_putPiece (ak_rv Q))
def cl_X3_putContainer (kX4_minus : am_T) (kX3_putPiece : am_T) (kX3_put : am_T) (Q : am_Q) (G : Nat → am_K) : Prop := am_N G 0 (B_X3_putContainer_0 kX4_minus kX3_putPiece kX3_put Q G) ∧ am_N G 36 (B_X3_putContainer_36 kX4_minus kX3_putPiece kX3_put Q G) ∧ am_N G 53 (B_X3_putContainer_53 kX4_minus kX3_putPiece kX3_put Q G) ∧ am_N G 87 (B_X3_putContainer_87 kX4_minus kX3_putPiece kX3_put Q G)
def WP_X3_putContainer (kX4_minus : am_T) (kX3_putPiece : am_T) (kX3_put : am_T) : am_T := fun av h Q => (lg_sl av).length ≤ 9 ∧ ∀ G, cl_X3_putContainer kX4_minus kX3_putPiece kX3_put Q G → G 0 (am_ent 9 av) [] h
set_option maxHeartbeats 4000000 in
set_option maxRecDepth 100000 in
theorem s_X3_putContainer {mX4_minus : Room} {kX4_minus : am_T} (h_X4_minus : am_S false yX4_minus (am_ws yX4_minus cX4_minus 2 (some .int)) mX4_minus kX4_minus) {mX3_putPiece : Room} {kX3_putPiece : am_T} (h_X3_putPiece : am_S false yX3_putPiece (am_ws yX3_putPiece cX3_putPiece 9 none) mX3_putPiece kX3_putPiece) {mX3_put : Room} {kX3_put : am_T} (h_X3_put : am_S false yX3_put (am_ws yX3_put cX3_put 2 none) mX3_put kX3_put) {rm : Room} (hz : rm.cells = 0 ∧ rm.slots = 0) (R_X4_minus : mX4_minus.frames + 1 ≤ rm.frames ∧ 8 + (2 + 11) + mX4_minus.locals ≤ rm.locals) (R_X3_putPiece : mX3_putPiece.frames + 1 ≤ rm.frames ∧ 8 + (9 + 11) + mX3_putPiece.locals ≤ rm.locals) (R_X3_put : mX3_put.frames + 1 ≤ rm.frames ∧ 8 + (2 + 11) + mX3_put.locals ≤ rm.locals) : am_S false yX3_putContainer (am_ws yX3_putContainer cX3_putContainer 9 none) rm (WP_X3_putContainer kX4_minus kX3_putPiece kX3_put) := by
  refine am_S.of (fun _ => hz) (by decide +kernel) (fun h0 Q G => cl_X3_putContainer kX4_minus kX3_putPiece kX3_put Q G) ?_
  intro p l e s m args below meth c D h0 Q X hr hnm hQ
  refine ⟨?_, ?_, ?_, ?_⟩
  · unfold B_X3_putContainer_0
    refine as_iload_n X (by decide +kernel : decode cX3_putContainer 0 = .ok (.iload_n 2, 1)) rfl ?_
    refine as_sipush X (by decide +kernel : decode cX3_putContainer 1 = .ok (.sipush 512, 3)) rfl ?_
    refine as_idiv X (by decide +kernel : decode cX3_putContainer 4 = .ok (.idiv, 1)) ?_
    refine as_istore X (by decide +kernel : decode cX3_putContainer 5 = .ok (.istore 6, 2)) ?_
    refine as_iload_n X (by decide +kernel : decode cX3_putContainer 7 = .ok (.iload_n 2, 1)) rfl ?_
    refine as_sipush X (by decide +kernel : decode cX3_putContainer 8 = .ok (.sipush 512, 3)) rfl ?_
    refine as_irem X (by decide +kernel : decode cX3_putContainer 11 = .ok (.irem, 1)) ?_
    refine as_istore X (by decide +kernel : decode cX3_putContainer 12 = .ok (.istore 7, 2)) ?_
    refine as_iload X (by decide +kernel : decode cX3_putContainer 14 = .ok (.iload 5, 2)) ?_
    refine as_iload X (by decide +kernel : decode cX3_putContainer 16 = .ok (.iload 7, 2)) ?_
    refine as_cs X h_X4_minus (by decide +kernel : decode cX3_putContainer 18 = .ok (.invokestatic 111, 3)) dn_X4_minus ml_X3_111 st_X4_minus ini_X4 co_X4_minus R_X4_minus ?_
    refine as_istore X (by decide +kernel : decode cX3_putContainer 21 = .ok (.istore 8, 2)) ?_
    refine as_iload X (by decide +kernel : decode cX3_putContainer 23 = .ok (.iload 6, 2)) ?_
    refine as_iload_n X (by decide +kernel : decode cX3_putContainer 25 = .ok (.iload_n 3, 1)) rfl ?_
    refine as_ic_le X (tgt := 36) (by decide +kernel : decode cX3_putContainer 26 = .ok (.if_icmp .le 10, 3)) (by decide) ?_ ?_
    · exact fun _ _ _ h => h
    · refine as_iload X (by decide +kernel : decode cX3_putContainer 29 = .ok (.iload 6, 2)) ?_
      refine as_iload X (by decide +kernel : decode cX3_putContainer 31 = .ok (.iload 4, 2)) ?_
      refine as_ic_lt X (tgt := 37) (by decide +kernel : decode cX3_putContainer 33 = .ok (.if_icmp .lt 4, 3)) (by decide) ?_ ?_
      · refine as_aload_n X (by decide +kernel : decode cX3_putContainer 37 = .ok (.aload_n 0, 1)) rfl ?_
        refine as_iload_n X (by decide +kernel : decode cX3_putContainer 38 = .ok (.iload_n 3, 1)) rfl ?_
        refine as_iload X (by decide +kernel : decode cX3_putContainer 39 = .ok (.iload 6, 2)) ?_
        refine as_iload_n X (by decide +kernel : decode cX3_putContainer 41 = .ok (.iload_n 1, 1)) rfl ?_
        refine as_iconst X (by decide +kernel : decode cX3_putContainer 42 = .ok (.iconst 4, 1)) rfl ?_
        refine as_ic_ne X (tgt := 51) (by decide +kernel : decode cX3_putContainer 43 = .ok (.if_icmp .ne 8, 3)) (by decide) ?_ ?_
        · refine as_iload X (by decide +kernel : decode cX3_putContainer 46 = .ok (.iload 8, 2)) ?_
          refine as_goto X (tgt := 53) (by decide +kernel : decode cX3_putContainer 48 = .ok (.goto 5, 3)) (by decide) ?_
          exact fun _ _ _ h => h
        · refine as_iload X (by decide +kernel : decode cX3_putContainer 51 = .ok (.iload 7, 2)) ?_
          exact fun _ _ _ h => h
      · exact fun _ _ _ h => h
  · unfold B_X3_putContainer_36
    exact as_rv X hQ hr (by decide +kernel : decode cX3_putContainer 36 = .ok (.return_, 1))
  · unfold B_X3_putContainer_53
    refine as_cv X h_X3_putPiece rfl (by decide +kernel : decode cX3_putContainer 53 = .ok (.invokevirtual 78, 3)) dn_X3_putPiece ml_X3_78 im_X3_putPiece se_X3_putPiece ini_X3 co_X3_putPiece R_X3_putPiece ?_
    refine as_aload_n X (by decide +kernel : decode cX3_putContainer 56 = .ok (.aload_n 0, 1)) rfl ?_
    refine as_bipush X (by decide +kernel : decode cX3_putContainer 57 = .ok (.bipush 41, 2)) rfl ?_
    refine as_cv X h_X3_put rfl (by decide +kernel : decode cX3_putContainer 59 = .ok (.invokevirtual 58, 3)) dn_X3_put ml_X3_58 im_X3_put se_X3_put ini_X3 co_X3_put R_X3_put ?_
    refine as_aload_n X (by decide +kernel : decode cX3_putContainer 62 = .ok (.aload_n 0, 1)) rfl ?_
    refine as_bipush X (by decide +kernel : decode cX3_putContainer 63 = .ok (.bipush 40, 2)) rfl ?_
    refine as_cv X h_X3_put rfl (by decide +kernel : decode cX3_putContainer 65 = .ok (.invokevirtual 58, 3)) dn_X3_put ml_X3_58 im_X3_put se_X3_put ini_X3 co_X3_put R_X3_put ?_
    refine as_aload_n X (by decide +kernel : decode cX3_putContainer 68 = .ok (.aload_n 0, 1)) rfl ?_
    refine as_iload X (by decide +kernel : decode cX3_putContainer 69 = .ok (.iload 6, 2)) ?_
    refine as_iconst X (by decide +kernel : decode cX3_putContainer 71 = .ok (.iconst 1, 1)) rfl ?_
    refine as_iadd X (by decide +kernel : decode cX3_putContainer 72 = .ok (.iadd, 1)) ?_
    refine as_iload X (by decide +kernel : decode cX3_putContainer 73 = .ok (.iload 4, 2)) ?_
    refine as_iload_n X (by decide +kernel : decode cX3_putContainer 75 = .ok (.iload_n 1, 1)) rfl ?_
    refine as_iconst X (by decide +kernel : decode cX3_putContainer 76 = .ok (.iconst 4, 1)) rfl ?_
    refine as_ic_ne X (tgt := 85) (by decide +kernel : decode cX3_putContainer 77 = .ok (.if_icmp .ne 8, 3)) (by decide) ?_ ?_
    · refine as_iload X (by decide +kernel : decode cX3_putContainer 80 = .ok (.iload 7, 2)) ?_
      refine as_goto X (tgt := 87) (by decide +kernel : decode cX3_putContainer 82 = .ok (.goto 5, 3)) (by decide) ?_
      exact fun _ _ _ h => h
    · refine as_iload X (by decide +kernel : decode cX3_putContainer 85 = .ok (.iload 8, 2)) ?_
      exact fun _ _ _ h => h
  · unfold B_X3_putContainer_87
    refine as_cv X h_X3_putPiece rfl (by decide +kernel : decode cX3_putContainer 87 = .ok (.invokevirtual 78, 3)) dn_X3_putPiece ml_X3_78 im_X3_putPiece se_X3_putPiece ini_X3 co_X3_putPiece R_X3_putPiece ?_
    exact as_rv X hQ hr (by decide +kernel : decode cX3_putContainer 90 = .ok (.return_, 1))

def B_X3_putWhole_0 (kX3_put : am_T) (kX3_putWords : am_T) (kX0_has : am_T) (kX3_putLetters : am_T) (Q : am_Q) (G : Nat → am_K) : am_K := (ak_il 1 (ak_if (fun x => x = 0) (ak_al 0 (ak_c (.int 39) (ak_cv 2 2 kX3_put (ak_al 0 (ak_il 2 (ak_il 2 (ak_c (.int 1) (ak_ib (fun x y => x + y) (ak_cv 3 2 kX3_putWords (G 55)))))))))) (ak_al 0 (ak_get 2 3 (ak_get 3 3 (ak_il 1 (ak_c (.int 1) (ak_ib (fun x y => x - y) (ak_cv 2 0 kX0_has (ak_if (fun x => x = 0) (G 55) (ak_al 0 (ak_al 0 (ak_get 2 3 (ak_get 3 3 (ak_get 0 1 (ak_il 1 (ak_c (.int 1) (ak_ib (fun x y => x - y) (ak_lald (ak_cv 2 2 kX3_putLetters (G 55)))))))))))))))))))))
def B_X3_putWhole_55 (kX3_put : am_T) (kX3_putWords : am_T) (kX0_has : am_T) (kX3_putLetters : am_T) (Q : am_Q) (G : Nat → am_K) : am_K := (ak_rv Q)
def cl_X3_putWhole (kX3_put : am_T) (kX3_putWords : am_T) (kX0_has : am_T) (kX3_putLetters : am_T) (Q : am_Q) (G : Nat → am_K) : Prop := am_N G 0 (B_X3_putWhole_0 kX3_put kX3_putWords kX0_has kX3_putLetters Q G) ∧ am_N G 55 (B_X3_putWhole_55 kX3_put kX3_putWords kX0_has kX3_putLetters Q G)
def WP_X3_putWhole (kX3_put : am_T) (kX3_putWords : am_T) (kX0_has : am_T) (kX3_putLetters : am_T) : am_T := fun av h Q => (lg_sl av).length ≤ 3 ∧ ∀ G, cl_X3_putWhole kX3_put kX3_putWords kX0_has kX3_putLetters Q G → G 0 (am_ent 3 av) [] h
set_option maxHeartbeats 4000000 in
set_option maxRecDepth 100000 in
theorem s_X3_putWhole {mX3_put : Room} {kX3_put : am_T} (h_X3_put : am_S false yX3_put (am_ws yX3_put cX3_put 2 none) mX3_put kX3_put) {mX3_putWords : Room} {kX3_putWords : am_T} (h_X3_putWords : am_S false yX3_putWords (am_ws yX3_putWords cX3_putWords 4 none) mX3_putWords kX3_putWords) {mX0_has : Room} {kX0_has : am_T} (h_X0_has : am_S false yX0_has (am_ws yX0_has cX0_has 2 (some .boolean)) mX0_has kX0_has) {mX3_putLetters : Room} {kX3_putLetters : am_T} (h_X3_putLetters : am_S false yX3_putLetters (am_ws yX3_putLetters cX3_putLetters 5 none) mX3_putLetters kX3_putLetters) {rm : Room} (hz : rm.cells = 0 ∧ rm.slots = 0) (R_X3_put : mX3_put.frames + 1 ≤ rm.frames ∧ 8 + (2 + 11) + mX3_put.locals ≤ rm.locals) (R_X3_putWords : mX3_putWords.frames + 1 ≤ rm.frames ∧ 8 + (4 + 11) + mX3_putWords.locals ≤ rm.locals) (R_X0_has : mX0_has.frames + 1 ≤ rm.frames ∧ 8 + (2 + 11) + mX0_has.locals ≤ rm.locals) (R_X3_putLetters : mX3_putLetters.frames + 1 ≤ rm.frames ∧ 8 + (5 + 11) + mX3_putLetters.locals ≤ rm.locals) : am_S false yX3_putWhole (am_ws yX3_putWhole cX3_putWhole 3 none) rm (WP_X3_putWhole kX3_put kX3_putWords kX0_has kX3_putLetters) := by
  refine am_S.of (fun _ => hz) (by decide +kernel) (fun h0 Q G => cl_X3_putWhole kX3_put kX3_putWords kX0_has kX3_putLetters Q G) ?_
  intro p l e s m args below meth c D h0 Q X hr hnm hQ
  refine ⟨?_, ?_⟩
  · unfold B_X3_putWhole_0
    refine as_iload_n X (by decide +kernel : decode cX3_putWhole 0 = .ok (.iload_n 1, 1)) rfl ?_
    refine as_if_ne X (tgt := 21) (by decide +kernel : decode cX3_putWhole 1 = .ok (.ifCond .ne 20, 3)) (by decide) ?_ ?_
    · refine as_aload_n X (by decide +kernel : decode cX3_putWhole 4 = .ok (.aload_n 0, 1)) rfl ?_
      refine as_bipush X (by decide +kernel : decode cX3_putWhole 5 = .ok (.bipush 39, 2)) rfl ?_
      refine as_cv X h_X3_put rfl (by decide +kernel : decode cX3_putWhole 7 = .ok (.invokevirtual 58, 3)) dn_X3_put ml_X3_58 im_X3_put se_X3_put ini_X3 co_X3_put R_X3_put ?_
      refine as_aload_n X (by decide +kernel : decode cX3_putWhole 10 = .ok (.aload_n 0, 1)) rfl ?_
      refine as_iload_n X (by decide +kernel : decode cX3_putWhole 11 = .ok (.iload_n 2, 1)) rfl ?_
      refine as_iload_n X (by decide +kernel : decode cX3_putWhole 12 = .ok (.iload_n 2, 1)) rfl ?_
      refine as_iconst X (by decide +kernel : decode cX3_putWhole 13 = .ok (.iconst 1, 1)) rfl ?_
      refine as_iadd X (by decide +kernel : decode cX3_putWhole 14 = .ok (.iadd, 1)) ?_
      refine as_cv X h_X3_putWords rfl (by decide +kernel : decode cX3_putWhole 15 = .ok (.invokevirtual 62, 3)) dn_X3_putWords ml_X3_62 im_X3_putWords se_X3_putWords ini_X3 co_X3_putWords R_X3_putWords ?_
      refine as_goto X (tgt := 55) (by decide +kernel : decode cX3_putWhole 18 = .ok (.goto 37, 3)) (by decide) ?_
      exact fun _ _ _ h => h
    · refine as_aload_n X (by decide +kernel : decode cX3_putWhole 21 = .ok (.aload_n 0, 1)) rfl ?_
      refine as_get X fc_X3 (by decide +kernel : decode cX3_putWhole 22 = .ok (.getfield 15, 3)) (by decide) fl_X3_15 ?_
      refine as_get X fc_X5 (by decide +kernel : decode cX3_putWhole 25 = .ok (.getfield 140, 3)) (by decide) fl_X3_140 ?_
      refine as_iload_n X (by decide +kernel : decode cX3_putWhole 28 = .ok (.iload_n 1, 1)) rfl ?_
      refine as_iconst X (by decide +kernel : decode cX3_putWhole 29 = .ok (.iconst 1, 1)) rfl ?_
      refine as_isub X (by decide +kernel : decode cX3_putWhole 30 = .ok (.isub, 1)) ?_
      refine as_cv X h_X0_has rfl (by decide +kernel : decode cX3_putWhole 31 = .ok (.invokevirtual 144, 3)) dn_X0_has ml_X3_144 im_X0_has se_X0_has ini_X0 co_X0_has R_X0_has ?_
      refine as_if_eq X (tgt := 55) (by decide +kernel : decode cX3_putWhole 34 = .ok (.ifCond .eq 21, 3)) (by decide) ?_ ?_
      · exact fun _ _ _ h => h
      · refine as_aload_n X (by decide +kernel : decode cX3_putWhole 37 = .ok (.aload_n 0, 1)) rfl ?_
        refine as_aload_n X (by decide +kernel : decode cX3_putWhole 38 = .ok (.aload_n 0, 1)) rfl ?_
        refine as_get X fc_X3 (by decide +kernel : decode cX3_putWhole 39 = .ok (.getfield 15, 3)) (by decide) fl_X3_15 ?_
        refine as_get X fc_X5 (by decide +kernel : decode cX3_putWhole 42 = .ok (.getfield 140, 3)) (by decide) fl_X3_140 ?_
        refine as_get X fc_X0 (by decide +kernel : decode cX3_putWhole 45 = .ok (.getfield 149, 3)) (by decide) fl_X3_149 ?_
        refine as_iload_n X (by decide +kernel : decode cX3_putWhole 48 = .ok (.iload_n 1, 1)) rfl ?_
        refine as_iconst X (by decide +kernel : decode cX3_putWhole 49 = .ok (.iconst 1, 1)) rfl ?_
        refine as_isub X (by decide +kernel : decode cX3_putWhole 50 = .ok (.isub, 1)) ?_
        refine as_laload X (by decide +kernel : decode cX3_putWhole 51 = .ok (.laload, 1)) ?_
        refine as_cv X h_X3_putLetters rfl (by decide +kernel : decode cX3_putWhole 52 = .ok (.invokevirtual 95, 3)) dn_X3_putLetters ml_X3_95 im_X3_putLetters se_X3_putLetters ini_X3 co_X3_putLetters R_X3_putLetters ?_
        exact fun _ _ _ h => h
  · unfold B_X3_putWhole_55
    exact as_rv X hQ hr (by decide +kernel : decode cX3_putWhole 55 = .ok (.return_, 1))
