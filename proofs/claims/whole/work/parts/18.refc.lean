/-! points, closures, contracts, soundness; printed by wip/whole/gen.py -/
def B_X9_isGiven_0 (kX9_isOf : am_T) (kX9_isLike : am_T) (Q : am_Q) (G : Nat → am_K) : am_K := (ak_c (.int 0) (ak_is 2 (G 2)))
def B_X9_isGiven_2 (kX9_isOf : am_T) (kX9_isLike : am_T) (Q : am_Q) (G : Nat → am_K) : am_K := (ak_il 2 (ak_al 0 (ak_get 7 2 (ak_ic (fun x y => y ≤ x) (ak_c (.int 0) (ak_rz Q)) (ak_al 0 (ak_get 7 5 (ak_il 2 (ak_iald (ak_if (fun x => x = 0) (ak_al 0 (ak_il 2 (ak_il 1 (ak_cv 3 7 kX9_isOf (ak_if (fun x => x = 0) (G 49) (ak_al 0 (ak_get 7 4 (ak_c (.int 9) (ak_il 2 (ak_ib (fun x y => x * y) (ak_al 0 (ak_get 7 12 (ak_c (.int 0) (ak_cs 4 kX9_isLike (ak_if (fun x => x = 0) (G 49) (ak_c (.int 1) (ak_rz Q))))))))))))))))) (G 49))))))))))
def B_X9_isGiven_49 (kX9_isOf : am_T) (kX9_isLike : am_T) (Q : am_Q) (G : Nat → am_K) : am_K := (ak_ii 2 1 (G 2))
def cl_X9_isGiven (kX9_isOf : am_T) (kX9_isLike : am_T) (Q : am_Q) (G : Nat → am_K) : Prop := am_N G 0 (B_X9_isGiven_0 kX9_isOf kX9_isLike Q G) ∧ am_N G 2 (B_X9_isGiven_2 kX9_isOf kX9_isLike Q G) ∧ am_N G 49 (B_X9_isGiven_49 kX9_isOf kX9_isLike Q G)
def WP_X9_isGiven (kX9_isOf : am_T) (kX9_isLike : am_T) : am_T := fun av h Q => (lg_sl av).length ≤ 3 ∧ ∀ G, cl_X9_isGiven kX9_isOf kX9_isLike Q G → G 0 (am_ent 3 av) [] h
set_option maxHeartbeats 4000000 in
set_option maxRecDepth 100000 in
theorem s_X9_isGiven {mX9_isOf : Room} {kX9_isOf : am_T} (h_X9_isOf : am_S false yX9_isOf (am_ws yX9_isOf cX9_isOf 3 (some .boolean)) mX9_isOf kX9_isOf) {mX9_isLike : Room} {kX9_isLike : am_T} (h_X9_isLike : am_S false yX9_isLike (am_ws yX9_isLike cX9_isLike 6 (some .boolean)) mX9_isLike kX9_isLike) {rm : Room} (hz : rm.cells = 0 ∧ rm.slots = 0) (R_X9_isOf : mX9_isOf.frames + 1 ≤ rm.frames ∧ 8 + (3 + 11) + mX9_isOf.locals ≤ rm.locals) (R_X9_isLike : mX9_isLike.frames + 1 ≤ rm.frames ∧ 8 + (6 + 11) + mX9_isLike.locals ≤ rm.locals) : am_S false yX9_isGiven (am_ws yX9_isGiven cX9_isGiven 3 (some .boolean)) rm (WP_X9_isGiven kX9_isOf kX9_isLike) := by
  refine am_S.of (fun _ => hz) (by decide +kernel) (fun h0 Q G => cl_X9_isGiven kX9_isOf kX9_isLike Q G) ?_
  intro p l e s m args below meth c D h0 Q X hr hnm hQ
  refine ⟨?_, ?_, ?_⟩
  · unfold B_X9_isGiven_0
    refine as_iconst X (by decide +kernel : decode cX9_isGiven 0 = .ok (.iconst 0, 1)) rfl ?_
    refine as_istore_n X (by decide +kernel : decode cX9_isGiven 1 = .ok (.istore_n 2, 1)) rfl ?_
    exact fun _ _ _ h => h
  · unfold B_X9_isGiven_2
    refine as_iload_n X (by decide +kernel : decode cX9_isGiven 2 = .ok (.iload_n 2, 1)) rfl ?_
    refine as_aload_n X (by decide +kernel : decode cX9_isGiven 3 = .ok (.aload_n 0, 1)) rfl ?_
    refine as_get X fc_X9 (by decide +kernel : decode cX9_isGiven 4 = .ok (.getfield 116, 3)) (by decide) fl_X9_116 ?_
    refine as_ic_ge X (tgt := 55) (by decide +kernel : decode cX9_isGiven 7 = .ok (.if_icmp .ge 48, 3)) (by decide) ?_ ?_
    · refine as_iconst X (by decide +kernel : decode cX9_isGiven 55 = .ok (.iconst 0, 1)) rfl ?_
      exact as_rz X hQ hr (by decide +kernel : decode cX9_isGiven 56 = .ok (.ireturn, 1))
    · refine as_aload_n X (by decide +kernel : decode cX9_isGiven 10 = .ok (.aload_n 0, 1)) rfl ?_
      refine as_get X fc_X9 (by decide +kernel : decode cX9_isGiven 11 = .ok (.getfield 19, 3)) (by decide) fl_X9_19 ?_
      refine as_iload_n X (by decide +kernel : decode cX9_isGiven 14 = .ok (.iload_n 2, 1)) rfl ?_
      refine as_iaload X (by decide +kernel : decode cX9_isGiven 15 = .ok (.iaload, 1)) ?_
      refine as_if_ne X (tgt := 49) (by decide +kernel : decode cX9_isGiven 16 = .ok (.ifCond .ne 33, 3)) (by decide) ?_ ?_
      · refine as_aload_n X (by decide +kernel : decode cX9_isGiven 19 = .ok (.aload_n 0, 1)) rfl ?_
        refine as_iload_n X (by decide +kernel : decode cX9_isGiven 20 = .ok (.iload_n 2, 1)) rfl ?_
        refine as_iload_n X (by decide +kernel : decode cX9_isGiven 21 = .ok (.iload_n 1, 1)) rfl ?_
        refine as_cv X h_X9_isOf rfl (by decide +kernel : decode cX9_isGiven 22 = .ok (.invokevirtual 151, 3)) dn_X9_isOf ml_X9_151 im_X9_isOf se_X9_isOf ini_X9 co_X9_isOf R_X9_isOf ?_
        refine as_if_eq X (tgt := 49) (by decide +kernel : decode cX9_isGiven 25 = .ok (.ifCond .eq 24, 3)) (by decide) ?_ ?_
        · exact fun _ _ _ h => h
        · refine as_aload_n X (by decide +kernel : decode cX9_isGiven 28 = .ok (.aload_n 0, 1)) rfl ?_
          refine as_get X fc_X9 (by decide +kernel : decode cX9_isGiven 29 = .ok (.getfield 16, 3)) (by decide) fl_X9_16 ?_
          refine as_bipush X (by decide +kernel : decode cX9_isGiven 32 = .ok (.bipush 9, 2)) rfl ?_
          refine as_iload_n X (by decide +kernel : decode cX9_isGiven 34 = .ok (.iload_n 2, 1)) rfl ?_
          refine as_imul X (by decide +kernel : decode cX9_isGiven 35 = .ok (.imul, 1)) ?_
          refine as_aload_n X (by decide +kernel : decode cX9_isGiven 36 = .ok (.aload_n 0, 1)) rfl ?_
          refine as_get X fc_X9 (by decide +kernel : decode cX9_isGiven 37 = .ok (.getfield 34, 3)) (by decide) fl_X9_34 ?_
          refine as_iconst X (by decide +kernel : decode cX9_isGiven 40 = .ok (.iconst 0, 1)) rfl ?_
          refine as_cs X h_X9_isLike (by decide +kernel : decode cX9_isGiven 41 = .ok (.invokestatic 119, 3)) dn_X9_isLike ml_X9_119 st_X9_isLike ini_X9 co_X9_isLike R_X9_isLike ?_
          refine as_if_eq X (tgt := 49) (by decide +kernel : decode cX9_isGiven 44 = .ok (.ifCond .eq 5, 3)) (by decide) ?_ ?_
          · exact fun _ _ _ h => h
          · refine as_iconst X (by decide +kernel : decode cX9_isGiven 47 = .ok (.iconst 1, 1)) rfl ?_
            exact as_rz X hQ hr (by decide +kernel : decode cX9_isGiven 48 = .ok (.ireturn, 1))
      · exact fun _ _ _ h => h
  · unfold B_X9_isGiven_49
    refine as_iinc X (by decide +kernel : decode cX9_isGiven 49 = .ok (.iinc 2 1, 3)) rfl ?_
    refine as_goto X (tgt := 2) (by decide +kernel : decode cX9_isGiven 52 = .ok (.goto (-50), 3)) (by decide) ?_
    exact fun _ _ _ h => h

def B_X9_parsesOf_0 (kX9_opens : am_T) (kX9_isGiven : am_T) (kX9_isSign : am_T) (kX9_piecesAt : am_T) (kX9_manyOf : am_T) (kX9_costOf : am_T) (kX9_meets : am_T) (Q : am_Q) (G : Nat → am_K) : am_K := (ak_al 0 (ak_cv 1 7 kX9_opens (ak_c (.int 1) (ak_al 0 (ak_get 7 12 (ak_c (.int 0) (ak_iald (ak_ib (fun x y => x <<< (y &&& 31)) (ak_c (.int 1) (ak_ib (fun x y => x - y) (ak_is 1 (ak_c (.int 0) (ak_is 2 (G 17))))))))))))))
def B_X9_parsesOf_17 (kX9_opens : am_T) (kX9_isGiven : am_T) (kX9_isSign : am_T) (kX9_piecesAt : am_T) (kX9_manyOf : am_T) (kX9_costOf : am_T) (kX9_meets : am_T) (Q : am_Q) (G : Nat → am_K) : am_K := (ak_il 2 (ak_c (.int 2) (ak_ic (fun x y => y ≤ x) (ak_rv Q) (ak_al 0 (ak_il 2 (ak_if (fun x => x = 0) (ak_c (.int 0) (G 37)) (ak_al 0 (ak_get 7 10 (ak_c (.int 1) (ak_ib (fun x y => x - y) (G 37)))))))))))
def B_X9_parsesOf_37 (kX9_opens : am_T) (kX9_isGiven : am_T) (kX9_isSign : am_T) (kX9_piecesAt : am_T) (kX9_manyOf : am_T) (kX9_costOf : am_T) (kX9_meets : am_T) (Q : am_Q) (G : Nat → am_K) : am_K := (ak_cv 2 7 kX9_isGiven (ak_if (fun x => x = 0) (G 189) (ak_c (.int 0) (ak_is 3 (G 45)))))
def B_X9_parsesOf_45 (kX9_opens : am_T) (kX9_isGiven : am_T) (kX9_isSign : am_T) (kX9_piecesAt : am_T) (kX9_manyOf : am_T) (kX9_costOf : am_T) (kX9_meets : am_T) (Q : am_Q) (G : Nat → am_K) : am_K := (ak_il 3 (ak_c (.int 2) (ak_ic (fun x y => y ≤ x) (G 189) (ak_il 2 (ak_if (fun x => x = 0) (ak_c (.int 1) (ak_il 3 (ak_ib (fun x y => x + y) (G 61)))) (ak_c (.int 0) (G 61)))))))
def B_X9_parsesOf_61 (kX9_opens : am_T) (kX9_isGiven : am_T) (kX9_isSign : am_T) (kX9_piecesAt : am_T) (kX9_manyOf : am_T) (kX9_costOf : am_T) (kX9_meets : am_T) (Q : am_Q) (G : Nat → am_K) : am_K := (ak_is 4 (ak_il 2 (ak_if (fun x => x = 0) (ak_al 0 (ak_get 7 10 (G 82))) (ak_al 0 (ak_get 7 10 (ak_c (.int 1) (ak_ib (fun x y => x - y) (ak_il 3 (ak_ib (fun x y => x - y) (G 82))))))))))
def B_X9_parsesOf_82 (kX9_opens : am_T) (kX9_isGiven : am_T) (kX9_isSign : am_T) (kX9_piecesAt : am_T) (kX9_manyOf : am_T) (kX9_costOf : am_T) (kX9_meets : am_T) (Q : am_Q) (G : Nat → am_K) : am_K := (ak_is 5 (ak_il 4 (ak_il 5 (ak_ic (fun x y => y ≤ x) (G 122) (ak_il 3 (ak_if (fun x => x = 0) (G 118) (ak_al 0 (ak_il 2 (ak_if (fun x => x = 0) (ak_c (.int 1) (G 110)) (ak_al 0 (ak_get 7 10 (ak_c (.int 2) (ak_ib (fun x y => x - y) (G 110))))))))))))))
def B_X9_parsesOf_110 (kX9_opens : am_T) (kX9_isGiven : am_T) (kX9_isSign : am_T) (kX9_piecesAt : am_T) (kX9_manyOf : am_T) (kX9_costOf : am_T) (kX9_meets : am_T) (Q : am_Q) (G : Nat → am_K) : am_K := (ak_c (.int 10) (ak_cv 3 7 kX9_isSign (ak_if (fun x => x = 0) (G 122) (G 118))))
def B_X9_parsesOf_118 (kX9_opens : am_T) (kX9_isGiven : am_T) (kX9_isSign : am_T) (kX9_piecesAt : am_T) (kX9_manyOf : am_T) (kX9_costOf : am_T) (kX9_meets : am_T) (Q : am_Q) (G : Nat → am_K) : am_K := (ak_c (.int 1) (G 123))
def B_X9_parsesOf_122 (kX9_opens : am_T) (kX9_isGiven : am_T) (kX9_isSign : am_T) (kX9_piecesAt : am_T) (kX9_manyOf : am_T) (kX9_costOf : am_T) (kX9_meets : am_T) (Q : am_Q) (G : Nat → am_K) : am_K := (ak_c (.int 0) (G 123))
def B_X9_parsesOf_123 (kX9_opens : am_T) (kX9_isGiven : am_T) (kX9_isSign : am_T) (kX9_piecesAt : am_T) (kX9_manyOf : am_T) (kX9_costOf : am_T) (kX9_meets : am_T) (Q : am_Q) (G : Nat → am_K) : am_K := (ak_is 6 (ak_il 6 (ak_if (fun x => x = 0) (ak_c (.int 0) (G 144)) (ak_al 0 (ak_il 4 (ak_il 5 (ak_il 1 (ak_c (.int 0) (ak_cv 5 7 kX9_piecesAt (G 144))))))))))
def B_X9_parsesOf_144 (kX9_opens : am_T) (kX9_isGiven : am_T) (kX9_isSign : am_T) (kX9_piecesAt : am_T) (kX9_manyOf : am_T) (kX9_costOf : am_T) (kX9_meets : am_T) (Q : am_Q) (G : Nat → am_K) : am_K := (ak_is 7 (ak_al 0 (ak_il 7 (ak_cs 1 kX9_manyOf (ak_i2l (ak_il 7 (ak_cs 1 kX9_costOf (ak_il 3 (ak_if (fun x => x = 0) (ak_c (.int 0) (G 173)) (ak_al 0 (ak_get 7 14 (ak_c (.int 10) (ak_iald (G 173))))))))))))))
def B_X9_parsesOf_173 (kX9_opens : am_T) (kX9_isGiven : am_T) (kX9_isSign : am_T) (kX9_piecesAt : am_T) (kX9_manyOf : am_T) (kX9_costOf : am_T) (kX9_meets : am_T) (Q : am_Q) (G : Nat → am_K) : am_K := (ak_ib (fun x y => x + y) (ak_il 2 (ak_il 3 (ak_il 4 (ak_il 5 (ak_cv 7 7 kX9_meets (ak_ii 3 1 (G 45))))))))
def B_X9_parsesOf_189 (kX9_opens : am_T) (kX9_isGiven : am_T) (kX9_isSign : am_T) (kX9_piecesAt : am_T) (kX9_manyOf : am_T) (kX9_costOf : am_T) (kX9_meets : am_T) (Q : am_Q) (G : Nat → am_K) : am_K := (ak_ii 2 1 (G 17))
def cl_X9_parsesOf (kX9_opens : am_T) (kX9_isGiven : am_T) (kX9_isSign : am_T) (kX9_piecesAt : am_T) (kX9_manyOf : am_T) (kX9_costOf : am_T) (kX9_meets : am_T) (Q : am_Q) (G : Nat → am_K) : Prop := am_N G 0 (B_X9_parsesOf_0 kX9_opens kX9_isGiven kX9_isSign kX9_piecesAt kX9_manyOf kX9_costOf kX9_meets Q G) ∧ am_N G 17 (B_X9_parsesOf_17 kX9_opens kX9_isGiven kX9_isSign kX9_piecesAt kX9_manyOf kX9_costOf kX9_meets Q G) ∧ am_N G 37 (B_X9_parsesOf_37 kX9_opens kX9_isGiven kX9_isSign kX9_piecesAt kX9_manyOf kX9_costOf kX9_meets Q G) ∧ am_N G 45 (B_X9_parsesOf_45 kX9_opens kX9_isGiven kX9_isSign kX9_piecesAt kX9_manyOf kX9_costOf kX9_meets Q G) ∧ am_N G 61 (B_X9_parsesOf_61 kX9_opens kX9_isGiven kX9_isSign kX9_piecesAt kX9_manyOf kX9_costOf kX9_meets Q G) ∧ am_N G 82 (B_X9_parsesOf_82 kX9_opens kX9_isGiven kX9_isSign kX9_piecesAt kX9_manyOf kX9_costOf kX9_meets Q G) ∧ am_N G 110 (B_X9_parsesOf_110 kX9_opens kX9_isGiven kX9_isSign kX9_piecesAt kX9_manyOf kX9_costOf kX9_meets Q G) ∧ am_N G 118 (B_X9_parsesOf_118 kX9_opens kX9_isGiven kX9_isSign kX9_piecesAt kX9_manyOf kX9_costOf kX9_meets Q G) ∧ am_N G 122 (B_X9_parsesOf_122 kX9_opens kX9_isGiven kX9_isSign kX9_piecesAt kX9_manyOf kX9_costOf kX9_meets Q G) ∧ am_N G 123 (B_X9_parsesOf_123 kX9_opens kX9_isGiven kX9_isSign kX9_piecesAt kX9_manyOf kX9_costOf kX9_meets Q G) ∧ am_N G 144 (B_X9_parsesOf_144 kX9_opens kX9_isGiven kX9_isSign kX9_piecesAt kX9_manyOf kX9_costOf kX9_meets Q G) ∧ am_N G 173 (B_X9_parsesOf_173 kX9_opens kX9_isGiven kX9_isSign kX9_piecesAt kX9_manyOf kX9_costOf kX9_meets Q G) ∧ am_N G 189 (B_X9_parsesOf_189 kX9_opens kX9_isGiven kX9_isSign kX9_piecesAt kX9_manyOf kX9_costOf kX9_meets Q G)
def WP_X9_parsesOf (kX9_opens : am_T) (kX9_isGiven : am_T) (kX9_isSign : am_T) (kX9_piecesAt : am_T) (kX9_manyOf : am_T) (kX9_costOf : am_T) (kX9_meets : am_T) : am_T := fun av h Q => (lg_sl av).length ≤ 8 ∧ ∀ G, cl_X9_parsesOf kX9_opens kX9_isGiven kX9_isSign kX9_piecesAt kX9_manyOf kX9_costOf kX9_meets Q G → G 0 (am_ent 8 av) [] h
set_option maxHeartbeats 4000000 in
set_option maxRecDepth 100000 in
theorem s_X9_parsesOf {mX9_opens : Room} {kX9_opens : am_T} (h_X9_opens : am_S false yX9_opens (am_ws yX9_opens cX9_opens 1 none) mX9_opens kX9_opens) {mX9_isGiven : Room} {kX9_isGiven : am_T} (h_X9_isGiven : am_S false yX9_isGiven (am_ws yX9_isGiven cX9_isGiven 3 (some .boolean)) mX9_isGiven kX9_isGiven) {mX9_isSign : Room} {kX9_isSign : am_T} (h_X9_isSign : am_S false yX9_isSign (am_ws yX9_isSign cX9_isSign 4 (some .boolean)) mX9_isSign kX9_isSign) {mX9_piecesAt : Room} {kX9_piecesAt : am_T} (h_X9_piecesAt : am_S false yX9_piecesAt (am_ws yX9_piecesAt cX9_piecesAt 5 (some .int)) mX9_piecesAt kX9_piecesAt) {mX9_manyOf : Room} {kX9_manyOf : am_T} (h_X9_manyOf : am_S false yX9_manyOf (am_ws yX9_manyOf cX9_manyOf 1 (some .int)) mX9_manyOf kX9_manyOf) {mX9_costOf : Room} {kX9_costOf : am_T} (h_X9_costOf : am_S false yX9_costOf (am_ws yX9_costOf cX9_costOf 1 (some .int)) mX9_costOf kX9_costOf) {mX9_meets : Room} {kX9_meets : am_T} (h_X9_meets : am_S false yX9_meets (am_ws yX9_meets cX9_meets 8 none) mX9_meets kX9_meets) {rm : Room} (hz : rm.cells = 0 ∧ rm.slots = 0) (R_X9_opens : mX9_opens.frames + 1 ≤ rm.frames ∧ 8 + (1 + 11) + mX9_opens.locals ≤ rm.locals) (R_X9_isGiven : mX9_isGiven.frames + 1 ≤ rm.frames ∧ 8 + (3 + 11) + mX9_isGiven.locals ≤ rm.locals) (R_X9_isSign : mX9_isSign.frames + 1 ≤ rm.frames ∧ 8 + (4 + 11) + mX9_isSign.locals ≤ rm.locals) (R_X9_piecesAt : mX9_piecesAt.frames + 1 ≤ rm.frames ∧ 8 + (5 + 11) + mX9_piecesAt.locals ≤ rm.locals) (R_X9_manyOf : mX9_manyOf.frames + 1 ≤ rm.frames ∧ 8 + (1 + 11) + mX9_manyOf.locals ≤ rm.locals) (R_X9_costOf : mX9_costOf.frames + 1 ≤ rm.frames ∧ 8 + (1 + 11) + mX9_costOf.locals ≤ rm.locals) (R_X9_meets : mX9_meets.frames + 1 ≤ rm.frames ∧ 8 + (8 + 11) + mX9_meets.locals ≤ rm.locals) : am_S false yX9_parsesOf (am_ws yX9_parsesOf cX9_parsesOf 8 none) rm (WP_X9_parsesOf kX9_opens kX9_isGiven kX9_isSign kX9_piecesAt kX9_manyOf kX9_costOf kX9_meets) := by
  refine am_S.of (fun _ => hz) (by decide +kernel) (fun h0 Q G => cl_X9_parsesOf kX9_opens kX9_isGiven kX9_isSign kX9_piecesAt kX9_manyOf kX9_costOf kX9_meets Q G) ?_
  intro p l e s m args below meth c D h0 Q X hr hnm hQ
  refine ⟨?_, ?_, ?_, ?_, ?_, ?_, ?_, ?_, ?_, ?_, ?_, ?_, ?_⟩
  · unfold B_X9_parsesOf_0
    refine as_aload_n X (by decide +kernel : decode cX9_parsesOf 0 = .ok (.aload_n 0, 1)) rfl ?_
    refine as_cv X h_X9_opens rfl (by decide +kernel : decode cX9_parsesOf 1 = .ok (.invokevirtual 227, 3)) dn_X9_opens ml_X9_227 im_X9_opens se_X9_opens ini_X9 co_X9_opens R_X9_opens ?_
    refine as_iconst X (by decide +kernel : decode cX9_parsesOf 4 = .ok (.iconst 1, 1)) rfl ?_
    refine as_aload_n X (by decide +kernel : decode cX9_parsesOf 5 = .ok (.aload_n 0, 1)) rfl ?_
    refine as_get X fc_X9 (by decide +kernel : decode cX9_parsesOf 6 = .ok (.getfield 34, 3)) (by decide) fl_X9_34 ?_
    refine as_iconst X (by decide +kernel : decode cX9_parsesOf 9 = .ok (.iconst 0, 1)) rfl ?_
    refine as_iaload X (by decide +kernel : decode cX9_parsesOf 10 = .ok (.iaload, 1)) ?_
    refine as_ishl X (by decide +kernel : decode cX9_parsesOf 11 = .ok (.ishl, 1)) ?_
    refine as_iconst X (by decide +kernel : decode cX9_parsesOf 12 = .ok (.iconst 1, 1)) rfl ?_
    refine as_isub X (by decide +kernel : decode cX9_parsesOf 13 = .ok (.isub, 1)) ?_
    refine as_istore_n X (by decide +kernel : decode cX9_parsesOf 14 = .ok (.istore_n 1, 1)) rfl ?_
    refine as_iconst X (by decide +kernel : decode cX9_parsesOf 15 = .ok (.iconst 0, 1)) rfl ?_
    refine as_istore_n X (by decide +kernel : decode cX9_parsesOf 16 = .ok (.istore_n 2, 1)) rfl ?_
    exact fun _ _ _ h => h
  · unfold B_X9_parsesOf_17
    refine as_iload_n X (by decide +kernel : decode cX9_parsesOf 17 = .ok (.iload_n 2, 1)) rfl ?_
    refine as_iconst X (by decide +kernel : decode cX9_parsesOf 18 = .ok (.iconst 2, 1)) rfl ?_
    refine as_ic_ge X (tgt := 195) (by decide +kernel : decode cX9_parsesOf 19 = .ok (.if_icmp .ge 176, 3)) (by decide) ?_ ?_
    · exact as_rv X hQ hr (by decide +kernel : decode cX9_parsesOf 195 = .ok (.return_, 1))
    · refine as_aload_n X (by decide +kernel : decode cX9_parsesOf 22 = .ok (.aload_n 0, 1)) rfl ?_
      refine as_iload_n X (by decide +kernel : decode cX9_parsesOf 23 = .ok (.iload_n 2, 1)) rfl ?_
      refine as_if_ne X (tgt := 31) (by decide +kernel : decode cX9_parsesOf 24 = .ok (.ifCond .ne 7, 3)) (by decide) ?_ ?_
      · refine as_iconst X (by decide +kernel : decode cX9_parsesOf 27 = .ok (.iconst 0, 1)) rfl ?_
        refine as_goto X (tgt := 37) (by decide +kernel : decode cX9_parsesOf 28 = .ok (.goto 9, 3)) (by decide) ?_
        exact fun _ _ _ h => h
      · refine as_aload_n X (by decide +kernel : decode cX9_parsesOf 31 = .ok (.aload_n 0, 1)) rfl ?_
        refine as_get X fc_X9 (by decide +kernel : decode cX9_parsesOf 32 = .ok (.getfield 142, 3)) (by decide) fl_X9_142 ?_
        refine as_iconst X (by decide +kernel : decode cX9_parsesOf 35 = .ok (.iconst 1, 1)) rfl ?_
        refine as_isub X (by decide +kernel : decode cX9_parsesOf 36 = .ok (.isub, 1)) ?_
        exact fun _ _ _ h => h
  · unfold B_X9_parsesOf_37
    refine as_cv X h_X9_isGiven rfl (by decide +kernel : decode cX9_parsesOf 37 = .ok (.invokevirtual 273, 3)) dn_X9_isGiven ml_X9_273 im_X9_isGiven se_X9_isGiven ini_X9 co_X9_isGiven R_X9_isGiven ?_
    refine as_if_eq X (tgt := 189) (by decide +kernel : decode cX9_parsesOf 40 = .ok (.ifCond .eq 149, 3)) (by decide) ?_ ?_
    · exact fun _ _ _ h => h
    · refine as_iconst X (by decide +kernel : decode cX9_parsesOf 43 = .ok (.iconst 0, 1)) rfl ?_
      refine as_istore_n X (by decide +kernel : decode cX9_parsesOf 44 = .ok (.istore_n 3, 1)) rfl ?_
      exact fun _ _ _ h => h
  · unfold B_X9_parsesOf_45
    refine as_iload_n X (by decide +kernel : decode cX9_parsesOf 45 = .ok (.iload_n 3, 1)) rfl ?_
    refine as_iconst X (by decide +kernel : decode cX9_parsesOf 46 = .ok (.iconst 2, 1)) rfl ?_
    refine as_ic_ge X (tgt := 189) (by decide +kernel : decode cX9_parsesOf 47 = .ok (.if_icmp .ge 142, 3)) (by decide) ?_ ?_
    · exact fun _ _ _ h => h
    · refine as_iload_n X (by decide +kernel : decode cX9_parsesOf 50 = .ok (.iload_n 2, 1)) rfl ?_
      refine as_if_ne X (tgt := 60) (by decide +kernel : decode cX9_parsesOf 51 = .ok (.ifCond .ne 9, 3)) (by decide) ?_ ?_
      · refine as_iconst X (by decide +kernel : decode cX9_parsesOf 54 = .ok (.iconst 1, 1)) rfl ?_
        refine as_iload_n X (by decide +kernel : decode cX9_parsesOf 55 = .ok (.iload_n 3, 1)) rfl ?_
        refine as_iadd X (by decide +kernel : decode cX9_parsesOf 56 = .ok (.iadd, 1)) ?_
        refine as_goto X (tgt := 61) (by decide +kernel : decode cX9_parsesOf 57 = .ok (.goto 4, 3)) (by decide) ?_
        exact fun _ _ _ h => h
      · refine as_iconst X (by decide +kernel : decode cX9_parsesOf 60 = .ok (.iconst 0, 1)) rfl ?_
        exact fun _ _ _ h => h
  · unfold B_X9_parsesOf_61
    refine as_istore X (by decide +kernel : decode cX9_parsesOf 61 = .ok (.istore 4, 2)) ?_
    refine as_iload_n X (by decide +kernel : decode cX9_parsesOf 63 = .ok (.iload_n 2, 1)) rfl ?_
    refine as_if_ne X (tgt := 74) (by decide +kernel : decode cX9_parsesOf 64 = .ok (.ifCond .ne 10, 3)) (by decide) ?_ ?_
    · refine as_aload_n X (by decide +kernel : decode cX9_parsesOf 67 = .ok (.aload_n 0, 1)) rfl ?_
      refine as_get X fc_X9 (by decide +kernel : decode cX9_parsesOf 68 = .ok (.getfield 142, 3)) (by decide) fl_X9_142 ?_
      refine as_goto X (tgt := 82) (by decide +kernel : decode cX9_parsesOf 71 = .ok (.goto 11, 3)) (by decide) ?_
      exact fun _ _ _ h => h
    · refine as_aload_n X (by decide +kernel : decode cX9_parsesOf 74 = .ok (.aload_n 0, 1)) rfl ?_
      refine as_get X fc_X9 (by decide +kernel : decode cX9_parsesOf 75 = .ok (.getfield 142, 3)) (by decide) fl_X9_142 ?_
      refine as_iconst X (by decide +kernel : decode cX9_parsesOf 78 = .ok (.iconst 1, 1)) rfl ?_
      refine as_isub X (by decide +kernel : decode cX9_parsesOf 79 = .ok (.isub, 1)) ?_
      refine as_iload_n X (by decide +kernel : decode cX9_parsesOf 80 = .ok (.iload_n 3, 1)) rfl ?_
      refine as_isub X (by decide +kernel : decode cX9_parsesOf 81 = .ok (.isub, 1)) ?_
      exact fun _ _ _ h => h
  · unfold B_X9_parsesOf_82
    refine as_istore X (by decide +kernel : decode cX9_parsesOf 82 = .ok (.istore 5, 2)) ?_
    refine as_iload X (by decide +kernel : decode cX9_parsesOf 84 = .ok (.iload 4, 2)) ?_
    refine as_iload X (by decide +kernel : decode cX9_parsesOf 86 = .ok (.iload 5, 2)) ?_
    refine as_ic_ge X (tgt := 122) (by decide +kernel : decode cX9_parsesOf 88 = .ok (.if_icmp .ge 34, 3)) (by decide) ?_ ?_
    · exact fun _ _ _ h => h
    · refine as_iload_n X (by decide +kernel : decode cX9_parsesOf 91 = .ok (.iload_n 3, 1)) rfl ?_
      refine as_if_eq X (tgt := 118) (by decide +kernel : decode cX9_parsesOf 92 = .ok (.ifCond .eq 26, 3)) (by decide) ?_ ?_
      · exact fun _ _ _ h => h
      · refine as_aload_n X (by decide +kernel : decode cX9_parsesOf 95 = .ok (.aload_n 0, 1)) rfl ?_
        refine as_iload_n X (by decide +kernel : decode cX9_parsesOf 96 = .ok (.iload_n 2, 1)) rfl ?_
        refine as_if_ne X (tgt := 104) (by decide +kernel : decode cX9_parsesOf 97 = .ok (.ifCond .ne 7, 3)) (by decide) ?_ ?_
        · refine as_iconst X (by decide +kernel : decode cX9_parsesOf 100 = .ok (.iconst 1, 1)) rfl ?_
          refine as_goto X (tgt := 110) (by decide +kernel : decode cX9_parsesOf 101 = .ok (.goto 9, 3)) (by decide) ?_
          exact fun _ _ _ h => h
        · refine as_aload_n X (by decide +kernel : decode cX9_parsesOf 104 = .ok (.aload_n 0, 1)) rfl ?_
          refine as_get X fc_X9 (by decide +kernel : decode cX9_parsesOf 105 = .ok (.getfield 142, 3)) (by decide) fl_X9_142 ?_
          refine as_iconst X (by decide +kernel : decode cX9_parsesOf 108 = .ok (.iconst 2, 1)) rfl ?_
          refine as_isub X (by decide +kernel : decode cX9_parsesOf 109 = .ok (.isub, 1)) ?_
          exact fun _ _ _ h => h
  · unfold B_X9_parsesOf_110
    refine as_bipush X (by decide +kernel : decode cX9_parsesOf 110 = .ok (.bipush 10, 2)) rfl ?_
    refine as_cv X h_X9_isSign rfl (by decide +kernel : decode cX9_parsesOf 112 = .ok (.invokevirtual 155, 3)) dn_X9_isSign ml_X9_155 im_X9_isSign se_X9_isSign ini_X9 co_X9_isSign R_X9_isSign ?_
    refine as_if_eq X (tgt := 122) (by decide +kernel : decode cX9_parsesOf 115 = .ok (.ifCond .eq 7, 3)) (by decide) ?_ ?_
    · exact fun _ _ _ h => h
    · exact fun _ _ _ h => h
  · unfold B_X9_parsesOf_118
    refine as_iconst X (by decide +kernel : decode cX9_parsesOf 118 = .ok (.iconst 1, 1)) rfl ?_
    refine as_goto X (tgt := 123) (by decide +kernel : decode cX9_parsesOf 119 = .ok (.goto 4, 3)) (by decide) ?_
    exact fun _ _ _ h => h
  · unfold B_X9_parsesOf_122
    refine as_iconst X (by decide +kernel : decode cX9_parsesOf 122 = .ok (.iconst 0, 1)) rfl ?_
    exact fun _ _ _ h => h
  · unfold B_X9_parsesOf_123
    refine as_istore X (by decide +kernel : decode cX9_parsesOf 123 = .ok (.istore 6, 2)) ?_
    refine as_iload X (by decide +kernel : decode cX9_parsesOf 125 = .ok (.iload 6, 2)) ?_
    refine as_if_eq X (tgt := 143) (by decide +kernel : decode cX9_parsesOf 127 = .ok (.ifCond .eq 16, 3)) (by decide) ?_ ?_
    · refine as_iconst X (by decide +kernel : decode cX9_parsesOf 143 = .ok (.iconst 0, 1)) rfl ?_
      exact fun _ _ _ h => h
    · refine as_aload_n X (by decide +kernel : decode cX9_parsesOf 130 = .ok (.aload_n 0, 1)) rfl ?_
      refine as_iload X (by decide +kernel : decode cX9_parsesOf 131 = .ok (.iload 4, 2)) ?_
      refine as_iload X (by decide +kernel : decode cX9_parsesOf 133 = .ok (.iload 5, 2)) ?_
      refine as_iload_n X (by decide +kernel : decode cX9_parsesOf 135 = .ok (.iload_n 1, 1)) rfl ?_
      refine as_iconst X (by decide +kernel : decode cX9_parsesOf 136 = .ok (.iconst 0, 1)) rfl ?_
      refine as_cv X h_X9_piecesAt rfl (by decide +kernel : decode cX9_parsesOf 137 = .ok (.invokevirtual 203, 3)) dn_X9_piecesAt ml_X9_203 im_X9_piecesAt se_X9_piecesAt ini_X9 co_X9_piecesAt R_X9_piecesAt ?_
      refine as_goto X (tgt := 144) (by decide +kernel : decode cX9_parsesOf 140 = .ok (.goto 4, 3)) (by decide) ?_
      exact fun _ _ _ h => h
  · unfold B_X9_parsesOf_144
    refine as_istore X (by decide +kernel : decode cX9_parsesOf 144 = .ok (.istore 7, 2)) ?_
    refine as_aload_n X (by decide +kernel : decode cX9_parsesOf 146 = .ok (.aload_n 0, 1)) rfl ?_
    refine as_iload X (by decide +kernel : decode cX9_parsesOf 147 = .ok (.iload 7, 2)) ?_
    refine as_cs X h_X9_manyOf (by decide +kernel : decode cX9_parsesOf 149 = .ok (.invokestatic 206, 3)) dn_X9_manyOf ml_X9_206 st_X9_manyOf ini_X9 co_X9_manyOf R_X9_manyOf ?_
    refine as_i2l X (by decide +kernel : decode cX9_parsesOf 152 = .ok (.i2l, 1)) ?_
    refine as_iload X (by decide +kernel : decode cX9_parsesOf 153 = .ok (.iload 7, 2)) ?_
    refine as_cs X h_X9_costOf (by decide +kernel : decode cX9_parsesOf 155 = .ok (.invokestatic 209, 3)) dn_X9_costOf ml_X9_209 st_X9_costOf ini_X9 co_X9_costOf R_X9_costOf ?_
    refine as_iload_n X (by decide +kernel : decode cX9_parsesOf 158 = .ok (.iload_n 3, 1)) rfl ?_
    refine as_if_ne X (tgt := 166) (by decide +kernel : decode cX9_parsesOf 159 = .ok (.ifCond .ne 7, 3)) (by decide) ?_ ?_
    · refine as_iconst X (by decide +kernel : decode cX9_parsesOf 162 = .ok (.iconst 0, 1)) rfl ?_
      refine as_goto X (tgt := 173) (by decide +kernel : decode cX9_parsesOf 163 = .ok (.goto 10, 3)) (by decide) ?_
      exact fun _ _ _ h => h
    · refine as_aload_n X (by decide +kernel : decode cX9_parsesOf 166 = .ok (.aload_n 0, 1)) rfl ?_
      refine as_get X fc_X9 (by decide +kernel : decode cX9_parsesOf 167 = .ok (.getfield 40, 3)) (by decide) fl_X9_40 ?_
      refine as_bipush X (by decide +kernel : decode cX9_parsesOf 170 = .ok (.bipush 10, 2)) rfl ?_
      refine as_iaload X (by decide +kernel : decode cX9_parsesOf 172 = .ok (.iaload, 1)) ?_
      exact fun _ _ _ h => h
  · unfold B_X9_parsesOf_173
    refine as_iadd X (by decide +kernel : decode cX9_parsesOf 173 = .ok (.iadd, 1)) ?_
    refine as_iload_n X (by decide +kernel : decode cX9_parsesOf 174 = .ok (.iload_n 2, 1)) rfl ?_
    refine as_iload_n X (by decide +kernel : decode cX9_parsesOf 175 = .ok (.iload_n 3, 1)) rfl ?_
    refine as_iload X (by decide +kernel : decode cX9_parsesOf 176 = .ok (.iload 4, 2)) ?_
    refine as_iload X (by decide +kernel : decode cX9_parsesOf 178 = .ok (.iload 5, 2)) ?_
    refine as_cv X h_X9_meets rfl (by decide +kernel : decode cX9_parsesOf 180 = .ok (.invokevirtual 196, 3)) dn_X9_meets ml_X9_196 im_X9_meets se_X9_meets ini_X9 co_X9_meets R_X9_meets ?_
    refine as_iinc X (by decide +kernel : decode cX9_parsesOf 183 = .ok (.iinc 3 1, 3)) rfl ?_
    refine as_goto X (tgt := 45) (by decide +kernel : decode cX9_parsesOf 186 = .ok (.goto (-141), 3)) (by decide) ?_
    exact fun _ _ _ h => h
  · unfold B_X9_parsesOf_189
    refine as_iinc X (by decide +kernel : decode cX9_parsesOf 189 = .ok (.iinc 2 1, 3)) rfl ?_
    refine as_goto X (tgt := 17) (by decide +kernel : decode cX9_parsesOf 192 = .ok (.goto (-175), 3)) (by decide) ?_
    exact fun _ _ _ h => h

def B_X9_parses_0 (kX9_measures : am_T) (kX9_parsesOf : am_T) (Q : am_Q) (G : Nat → am_K) : am_K := (ak_al 0 (ak_c (.int 0) (ak_cv 2 7 kX9_measures (ak_al 0 (ak_cv 1 7 kX9_parsesOf (ak_al 0 (ak_get 7 19 (ak_ri Q))))))))
def cl_X9_parses (kX9_measures : am_T) (kX9_parsesOf : am_T) (Q : am_Q) (G : Nat → am_K) : Prop := am_N G 0 (B_X9_parses_0 kX9_measures kX9_parsesOf Q G)
def WP_X9_parses (kX9_measures : am_T) (kX9_parsesOf : am_T) : am_T := fun av h Q => (lg_sl av).length ≤ 1 ∧ ∀ G, cl_X9_parses kX9_measures kX9_parsesOf Q G → G 0 (am_ent 1 av) [] h
set_option maxHeartbeats 4000000 in
set_option maxRecDepth 100000 in
theorem s_X9_parses {mX9_measures : Room} {kX9_measures : am_T} (h_X9_measures : am_S false yX9_measures (am_ws yX9_measures cX9_measures 11 none) mX9_measures kX9_measures) {mX9_parsesOf : Room} {kX9_parsesOf : am_T} (h_X9_parsesOf : am_S false yX9_parsesOf (am_ws yX9_parsesOf cX9_parsesOf 8 none) mX9_parsesOf kX9_parsesOf) {rm : Room} (hz : rm.cells = 0 ∧ rm.slots = 0) (R_X9_measures : mX9_measures.frames + 1 ≤ rm.frames ∧ 8 + (11 + 11) + mX9_measures.locals ≤ rm.locals) (R_X9_parsesOf : mX9_parsesOf.frames + 1 ≤ rm.frames ∧ 8 + (8 + 11) + mX9_parsesOf.locals ≤ rm.locals) : am_S false yX9_parses (am_ws yX9_parses cX9_parses 1 (some .int)) rm (WP_X9_parses kX9_measures kX9_parsesOf) := by
  refine am_S.of (fun _ => hz) (by decide +kernel) (fun h0 Q G => cl_X9_parses kX9_measures kX9_parsesOf Q G) ?_
  intro p l e s m args below meth c D h0 Q X hr hnm hQ
  show am_N _ 0 (B_X9_parses_0  kX9_measures kX9_parsesOf Q _)
  · unfold B_X9_parses_0
    refine as_aload_n X (by decide +kernel : decode cX9_parses 0 = .ok (.aload_n 0, 1)) rfl ?_
    refine as_iconst X (by decide +kernel : decode cX9_parses 1 = .ok (.iconst 0, 1)) rfl ?_
    refine as_cv X h_X9_measures rfl (by decide +kernel : decode cX9_parses 2 = .ok (.invokevirtual 276, 3)) dn_X9_measures ml_X9_276 im_X9_measures se_X9_measures ini_X9 co_X9_measures R_X9_measures ?_
    refine as_aload_n X (by decide +kernel : decode cX9_parses 5 = .ok (.aload_n 0, 1)) rfl ?_
    refine as_cv X h_X9_parsesOf rfl (by decide +kernel : decode cX9_parses 6 = .ok (.invokevirtual 280, 3)) dn_X9_parsesOf ml_X9_280 im_X9_parsesOf se_X9_parsesOf ini_X9 co_X9_parsesOf R_X9_parsesOf ?_
    refine as_aload_n X (by decide +kernel : decode cX9_parses 9 = .ok (.aload_n 0, 1)) rfl ?_
    refine as_get X fc_X9 (by decide +kernel : decode cX9_parses 10 = .ok (.getfield 165, 3)) (by decide) fl_X9_165 ?_
    exact as_ri X hQ hr (by decide +kernel : decode cX9_parses 13 = .ok (.ireturn, 1))

def B_X9_cost_0 (kX9_measures : am_T) (kX9_parsesOf : am_T) (Q : am_Q) (G : Nat → am_K) : am_K := (ak_al 0 (ak_c (.int 0) (ak_cv 2 7 kX9_measures (ak_al 0 (ak_cv 1 7 kX9_parsesOf (ak_al 0 (ak_get 7 20 (ak_if (fun x => 0 ≤ x) (ak_al 0 (ak_get 7 20 (G 25))) (ak_c (.int (-4)) (G 25))))))))))
def B_X9_cost_25 (kX9_measures : am_T) (kX9_parsesOf : am_T) (Q : am_Q) (G : Nat → am_K) : am_K := (ak_ri Q)
def cl_X9_cost (kX9_measures : am_T) (kX9_parsesOf : am_T) (Q : am_Q) (G : Nat → am_K) : Prop := am_N G 0 (B_X9_cost_0 kX9_measures kX9_parsesOf Q G) ∧ am_N G 25 (B_X9_cost_25 kX9_measures kX9_parsesOf Q G)
def WP_X9_cost (kX9_measures : am_T) (kX9_parsesOf : am_T) : am_T := fun av h Q => (lg_sl av).length ≤ 1 ∧ ∀ G, cl_X9_cost kX9_measures kX9_parsesOf Q G → G 0 (am_ent 1 av) [] h
set_option maxHeartbeats 4000000 in
set_option maxRecDepth 100000 in
theorem s_X9_cost {mX9_measures : Room} {kX9_measures : am_T} (h_X9_measures : am_S false yX9_measures (am_ws yX9_measures cX9_measures 11 none) mX9_measures kX9_measures) {mX9_parsesOf : Room} {kX9_parsesOf : am_T} (h_X9_parsesOf : am_S false yX9_parsesOf (am_ws yX9_parsesOf cX9_parsesOf 8 none) mX9_parsesOf kX9_parsesOf) {rm : Room} (hz : rm.cells = 0 ∧ rm.slots = 0) (R_X9_measures : mX9_measures.frames + 1 ≤ rm.frames ∧ 8 + (11 + 11) + mX9_measures.locals ≤ rm.locals) (R_X9_parsesOf : mX9_parsesOf.frames + 1 ≤ rm.frames ∧ 8 + (8 + 11) + mX9_parsesOf.locals ≤ rm.locals) : am_S false yX9_cost (am_ws yX9_cost cX9_cost 1 (some .int)) rm (WP_X9_cost kX9_measures kX9_parsesOf) := by
  refine am_S.of (fun _ => hz) (by decide +kernel) (fun h0 Q G => cl_X9_cost kX9_measures kX9_parsesOf Q G) ?_
  intro p l e s m args below meth c D h0 Q X hr hnm hQ
  refine ⟨?_, ?_⟩
  · unfold B_X9_cost_0
    refine as_aload_n X (by decide +kernel : decode cX9_cost 0 = .ok (.aload_n 0, 1)) rfl ?_
    refine as_iconst X (by decide +kernel : decode cX9_cost 1 = .ok (.iconst 0, 1)) rfl ?_
    refine as_cv X h_X9_measures rfl (by decide +kernel : decode cX9_cost 2 = .ok (.invokevirtual 276, 3)) dn_X9_measures ml_X9_276 im_X9_measures se_X9_measures ini_X9 co_X9_measures R_X9_measures ?_
    refine as_aload_n X (by decide +kernel : decode cX9_cost 5 = .ok (.aload_n 0, 1)) rfl ?_
    refine as_cv X h_X9_parsesOf rfl (by decide +kernel : decode cX9_cost 6 = .ok (.invokevirtual 280, 3)) dn_X9_parsesOf ml_X9_280 im_X9_parsesOf se_X9_parsesOf ini_X9 co_X9_parsesOf R_X9_parsesOf ?_
    refine as_aload_n X (by decide +kernel : decode cX9_cost 9 = .ok (.aload_n 0, 1)) rfl ?_
    refine as_get X fc_X9 (by decide +kernel : decode cX9_cost 10 = .ok (.getfield 168, 3)) (by decide) fl_X9_168 ?_
    refine as_if_ge X (tgt := 21) (by decide +kernel : decode cX9_cost 13 = .ok (.ifCond .ge 8, 3)) (by decide) ?_ ?_
    · refine as_aload_n X (by decide +kernel : decode cX9_cost 21 = .ok (.aload_n 0, 1)) rfl ?_
      refine as_get X fc_X9 (by decide +kernel : decode cX9_cost 22 = .ok (.getfield 168, 3)) (by decide) fl_X9_168 ?_
      exact fun _ _ _ h => h
    · refine as_bipush X (by decide +kernel : decode cX9_cost 16 = .ok (.bipush (-4), 2)) rfl ?_
      refine as_goto X (tgt := 25) (by decide +kernel : decode cX9_cost 18 = .ok (.goto 7, 3)) (by decide) ?_
      exact fun _ _ _ h => h
  · unfold B_X9_cost_25
    exact as_ri X hQ hr (by decide +kernel : decode cX9_cost 25 = .ok (.ireturn, 1))

def B_X9_cheapest_0 (kX9_measures : am_T) (kX9_parsesOf : am_T) (Q : am_Q) (G : Nat → am_K) : am_K := (ak_al 0 (ak_c (.int 1) (ak_cv 2 7 kX9_measures (ak_al 0 (ak_cv 1 7 kX9_parsesOf (ak_al 0 (ak_get 7 19 (ak_ri Q))))))))
def cl_X9_cheapest (kX9_measures : am_T) (kX9_parsesOf : am_T) (Q : am_Q) (G : Nat → am_K) : Prop := am_N G 0 (B_X9_cheapest_0 kX9_measures kX9_parsesOf Q G)
def WP_X9_cheapest (kX9_measures : am_T) (kX9_parsesOf : am_T) : am_T := fun av h Q => (lg_sl av).length ≤ 1 ∧ ∀ G, cl_X9_cheapest kX9_measures kX9_parsesOf Q G → G 0 (am_ent 1 av) [] h
set_option maxHeartbeats 4000000 in
set_option maxRecDepth 100000 in
theorem s_X9_cheapest {mX9_measures : Room} {kX9_measures : am_T} (h_X9_measures : am_S false yX9_measures (am_ws yX9_measures cX9_measures 11 none) mX9_measures kX9_measures) {mX9_parsesOf : Room} {kX9_parsesOf : am_T} (h_X9_parsesOf : am_S false yX9_parsesOf (am_ws yX9_parsesOf cX9_parsesOf 8 none) mX9_parsesOf kX9_parsesOf) {rm : Room} (hz : rm.cells = 0 ∧ rm.slots = 0) (R_X9_measures : mX9_measures.frames + 1 ≤ rm.frames ∧ 8 + (11 + 11) + mX9_measures.locals ≤ rm.locals) (R_X9_parsesOf : mX9_parsesOf.frames + 1 ≤ rm.frames ∧ 8 + (8 + 11) + mX9_parsesOf.locals ≤ rm.locals) : am_S false yX9_cheapest (am_ws yX9_cheapest cX9_cheapest 1 (some .int)) rm (WP_X9_cheapest kX9_measures kX9_parsesOf) := by
  refine am_S.of (fun _ => hz) (by decide +kernel) (fun h0 Q G => cl_X9_cheapest kX9_measures kX9_parsesOf Q G) ?_
  intro p l e s m args below meth c D h0 Q X hr hnm hQ
  show am_N _ 0 (B_X9_cheapest_0  kX9_measures kX9_parsesOf Q _)
  · unfold B_X9_cheapest_0
    refine as_aload_n X (by decide +kernel : decode cX9_cheapest 0 = .ok (.aload_n 0, 1)) rfl ?_
    refine as_iconst X (by decide +kernel : decode cX9_cheapest 1 = .ok (.iconst 1, 1)) rfl ?_
    refine as_cv X h_X9_measures rfl (by decide +kernel : decode cX9_cheapest 2 = .ok (.invokevirtual 276, 3)) dn_X9_measures ml_X9_276 im_X9_measures se_X9_measures ini_X9 co_X9_measures R_X9_measures ?_
    refine as_aload_n X (by decide +kernel : decode cX9_cheapest 5 = .ok (.aload_n 0, 1)) rfl ?_
    refine as_cv X h_X9_parsesOf rfl (by decide +kernel : decode cX9_cheapest 6 = .ok (.invokevirtual 280, 3)) dn_X9_parsesOf ml_X9_280 im_X9_parsesOf se_X9_parsesOf ini_X9 co_X9_parsesOf R_X9_parsesOf ?_
    refine as_aload_n X (by decide +kernel : decode cX9_cheapest 9 = .ok (.aload_n 0, 1)) rfl ?_
    refine as_get X fc_X9 (by decide +kernel : decode cX9_cheapest 10 = .ok (.getfield 165, 3)) (by decide) fl_X9_165 ?_
    exact as_ri X hQ hr (by decide +kernel : decode cX9_cheapest 13 = .ok (.ireturn, 1))

def B_X9_says_0 (Q : am_Q) (G : Nat → am_K) : am_K := (ak_al 0 (ak_get 7 30 (ak_al 0 (ak_get 7 29 (ak_il 1 (ak_iast (ak_al 0 (ak_dup (ak_get 7 29 (ak_c (.int 1) (ak_ib (fun x y => x + y) (ak_puti 7 29 (ak_rv Q)))))))))))))
def cl_X9_says (Q : am_Q) (G : Nat → am_K) : Prop := am_N G 0 (B_X9_says_0 Q G)
def WP_X9_says : am_T := fun av h Q => (lg_sl av).length ≤ 2 ∧ ∀ G, cl_X9_says Q G → G 0 (am_ent 2 av) [] h
set_option maxHeartbeats 4000000 in
set_option maxRecDepth 100000 in
theorem s_X9_says {rm : Room} (hz : rm.cells = 0 ∧ rm.slots = 0) : am_S false yX9_says (am_ws yX9_says cX9_says 2 none) rm (WP_X9_says) := by
  refine am_S.of (fun _ => hz) (by decide +kernel) (fun h0 Q G => cl_X9_says Q G) ?_
  intro p l e s m args below meth c D h0 Q X hr hnm hQ
  show am_N _ 0 (B_X9_says_0  Q _)
  · unfold B_X9_says_0
    refine as_aload_n X (by decide +kernel : decode cX9_says 0 = .ok (.aload_n 0, 1)) rfl ?_
    refine as_get X fc_X9 (by decide +kernel : decode cX9_says 1 = .ok (.getfield 57, 3)) (by decide) fl_X9_57 ?_
    refine as_aload_n X (by decide +kernel : decode cX9_says 4 = .ok (.aload_n 0, 1)) rfl ?_
    refine as_get X fc_X9 (by decide +kernel : decode cX9_says 5 = .ok (.getfield 283, 3)) (by decide) fl_X9_283 ?_
    refine as_iload_n X (by decide +kernel : decode cX9_says 8 = .ok (.iload_n 1, 1)) rfl ?_
    refine as_iastore X (by decide +kernel : decode cX9_says 9 = .ok (.iastore, 1)) ?_
    refine as_aload_n X (by decide +kernel : decode cX9_says 10 = .ok (.aload_n 0, 1)) rfl ?_
    refine as_dup X (by decide +kernel : decode cX9_says 11 = .ok (.dup, 1)) ?_
    refine as_get X fc_X9 (by decide +kernel : decode cX9_says 12 = .ok (.getfield 283, 3)) (by decide) fl_X9_283 ?_
    refine as_iconst X (by decide +kernel : decode cX9_says 15 = .ok (.iconst 1, 1)) rfl ?_
    refine as_iadd X (by decide +kernel : decode cX9_says 16 = .ok (.iadd, 1)) ?_
    refine as_puti X fc_X9 (by decide +kernel : decode cX9_says 17 = .ok (.putfield 283, 3)) (by decide) fl_X9_283 (Or.inl rfl) rfl ?_
    exact as_rv X hQ hr (by decide +kernel : decode cX9_says 20 = .ok (.return_, 1))

def B_X9_saysRow_0 (kX9_says : am_T) (Q : am_Q) (G : Nat → am_K) : am_K := (ak_c (.int 1) (ak_is 3 (G 2)))
def B_X9_saysRow_2 (kX9_says : am_T) (Q : am_Q) (G : Nat → am_K) : am_K := (ak_il 3 (ak_al 1 (ak_il 2 (ak_iald (ak_ic (fun x y => y < x) (ak_rv Q) (ak_al 0 (ak_al 1 (ak_il 2 (ak_il 3 (ak_ib (fun x y => x + y) (ak_iald (ak_cv 2 7 kX9_says (ak_ii 3 1 (G 2))))))))))))))
def cl_X9_saysRow (kX9_says : am_T) (Q : am_Q) (G : Nat → am_K) : Prop := am_N G 0 (B_X9_saysRow_0 kX9_says Q G) ∧ am_N G 2 (B_X9_saysRow_2 kX9_says Q G)
def WP_X9_saysRow (kX9_says : am_T) : am_T := fun av h Q => (lg_sl av).length ≤ 4 ∧ ∀ G, cl_X9_saysRow kX9_says Q G → G 0 (am_ent 4 av) [] h
set_option maxHeartbeats 4000000 in
set_option maxRecDepth 100000 in
theorem s_X9_saysRow {mX9_says : Room} {kX9_says : am_T} (h_X9_says : am_S false yX9_says (am_ws yX9_says cX9_says 2 none) mX9_says kX9_says) {rm : Room} (hz : rm.cells = 0 ∧ rm.slots = 0) (R_X9_says : mX9_says.frames + 1 ≤ rm.frames ∧ 8 + (2 + 11) + mX9_says.locals ≤ rm.locals) : am_S false yX9_saysRow (am_ws yX9_saysRow cX9_saysRow 4 none) rm (WP_X9_saysRow kX9_says) := by
  refine am_S.of (fun _ => hz) (by decide +kernel) (fun h0 Q G => cl_X9_saysRow kX9_says Q G) ?_
  intro p l e s m args below meth c D h0 Q X hr hnm hQ
  refine ⟨?_, ?_⟩
  · unfold B_X9_saysRow_0
    refine as_iconst X (by decide +kernel : decode cX9_saysRow 0 = .ok (.iconst 1, 1)) rfl ?_
    refine as_istore_n X (by decide +kernel : decode cX9_saysRow 1 = .ok (.istore_n 3, 1)) rfl ?_
    exact fun _ _ _ h => h
  · unfold B_X9_saysRow_2
    refine as_iload_n X (by decide +kernel : decode cX9_saysRow 2 = .ok (.iload_n 3, 1)) rfl ?_
    refine as_aload_n X (by decide +kernel : decode cX9_saysRow 3 = .ok (.aload_n 1, 1)) rfl ?_
    refine as_iload_n X (by decide +kernel : decode cX9_saysRow 4 = .ok (.iload_n 2, 1)) rfl ?_
    refine as_iaload X (by decide +kernel : decode cX9_saysRow 5 = .ok (.iaload, 1)) ?_
    refine as_ic_gt X (tgt := 24) (by decide +kernel : decode cX9_saysRow 6 = .ok (.if_icmp .gt 18, 3)) (by decide) ?_ ?_
    · exact as_rv X hQ hr (by decide +kernel : decode cX9_saysRow 24 = .ok (.return_, 1))
    · refine as_aload_n X (by decide +kernel : decode cX9_saysRow 9 = .ok (.aload_n 0, 1)) rfl ?_
      refine as_aload_n X (by decide +kernel : decode cX9_saysRow 10 = .ok (.aload_n 1, 1)) rfl ?_
      refine as_iload_n X (by decide +kernel : decode cX9_saysRow 11 = .ok (.iload_n 2, 1)) rfl ?_
      refine as_iload_n X (by decide +kernel : decode cX9_saysRow 12 = .ok (.iload_n 3, 1)) rfl ?_
      refine as_iadd X (by decide +kernel : decode cX9_saysRow 13 = .ok (.iadd, 1)) ?_
      refine as_iaload X (by decide +kernel : decode cX9_saysRow 14 = .ok (.iaload, 1)) ?_
      refine as_cv X h_X9_says rfl (by decide +kernel : decode cX9_saysRow 15 = .ok (.invokevirtual 286, 3)) dn_X9_says ml_X9_286 im_X9_says se_X9_says ini_X9 co_X9_says R_X9_says ?_
      refine as_iinc X (by decide +kernel : decode cX9_saysRow 18 = .ok (.iinc 3 1, 3)) rfl ?_
      refine as_goto X (tgt := 2) (by decide +kernel : decode cX9_saysRow 21 = .ok (.goto (-19), 3)) (by decide) ?_
      exact fun _ _ _ h => h

def B_X9_pushes_0 (Q : am_Q) (G : Nat → am_K) : am_K := (ak_al 0 (ak_get 7 31 (ak_al 0 (ak_get 7 32 (ak_il 1 (ak_iast (ak_al 0 (ak_dup (ak_get 7 32 (ak_c (.int 1) (ak_ib (fun x y => x + y) (ak_puti 7 32 (ak_rv Q)))))))))))))
def cl_X9_pushes (Q : am_Q) (G : Nat → am_K) : Prop := am_N G 0 (B_X9_pushes_0 Q G)
def WP_X9_pushes : am_T := fun av h Q => (lg_sl av).length ≤ 2 ∧ ∀ G, cl_X9_pushes Q G → G 0 (am_ent 2 av) [] h
set_option maxHeartbeats 4000000 in
set_option maxRecDepth 100000 in
theorem s_X9_pushes {rm : Room} (hz : rm.cells = 0 ∧ rm.slots = 0) : am_S false yX9_pushes (am_ws yX9_pushes cX9_pushes 2 none) rm (WP_X9_pushes) := by
  refine am_S.of (fun _ => hz) (by decide +kernel) (fun h0 Q G => cl_X9_pushes Q G) ?_
  intro p l e s m args below meth c D h0 Q X hr hnm hQ
  show am_N _ 0 (B_X9_pushes_0  Q _)
  · unfold B_X9_pushes_0
    refine as_aload_n X (by decide +kernel : decode cX9_pushes 0 = .ok (.aload_n 0, 1)) rfl ?_
    refine as_get X fc_X9 (by decide +kernel : decode cX9_pushes 1 = .ok (.getfield 60, 3)) (by decide) fl_X9_60 ?_
    refine as_aload_n X (by decide +kernel : decode cX9_pushes 4 = .ok (.aload_n 0, 1)) rfl ?_
    refine as_get X fc_X9 (by decide +kernel : decode cX9_pushes 5 = .ok (.getfield 289, 3)) (by decide) fl_X9_289 ?_
    refine as_iload_n X (by decide +kernel : decode cX9_pushes 8 = .ok (.iload_n 1, 1)) rfl ?_
    refine as_iastore X (by decide +kernel : decode cX9_pushes 9 = .ok (.iastore, 1)) ?_
    refine as_aload_n X (by decide +kernel : decode cX9_pushes 10 = .ok (.aload_n 0, 1)) rfl ?_
    refine as_dup X (by decide +kernel : decode cX9_pushes 11 = .ok (.dup, 1)) ?_
    refine as_get X fc_X9 (by decide +kernel : decode cX9_pushes 12 = .ok (.getfield 289, 3)) (by decide) fl_X9_289 ?_
    refine as_iconst X (by decide +kernel : decode cX9_pushes 15 = .ok (.iconst 1, 1)) rfl ?_
    refine as_iadd X (by decide +kernel : decode cX9_pushes 16 = .ok (.iadd, 1)) ?_
    refine as_puti X fc_X9 (by decide +kernel : decode cX9_pushes 17 = .ok (.putfield 289, 3)) (by decide) fl_X9_289 (Or.inl rfl) rfl ?_
    exact as_rv X hQ hr (by decide +kernel : decode cX9_pushes 20 = .ok (.return_, 1))

def B_X9_state_0 (Q : am_Q) (G : Nat → am_K) : am_K := (ak_c (.int 128) (ak_il 4 (ak_c (.int 8) (ak_ib (fun x y => x * y) (ak_il 0 (ak_ib (fun x y => x + y) (ak_c (.int 8) (ak_ib (fun x y => x * y) (ak_il 1 (ak_ib (fun x y => x + y) (ak_c (.int 256) (ak_ib (fun x y => x * y) (ak_il 2 (ak_ib (fun x y => x + y) (ak_c (.int 2) (ak_ib (fun x y => x * y) (ak_il 3 (ak_ib (fun x y => x + y) (ak_ib (fun x y => x + y) (ak_ri Q))))))))))))))))))))
def cl_X9_state (Q : am_Q) (G : Nat → am_K) : Prop := am_N G 0 (B_X9_state_0 Q G)
def WP_X9_state : am_T := fun av h Q => (lg_sl av).length ≤ 5 ∧ ∀ G, cl_X9_state Q G → G 0 (am_ent 5 av) [] h
set_option maxHeartbeats 4000000 in
set_option maxRecDepth 100000 in
theorem s_X9_state {rm : Room} (hz : rm.cells = 0 ∧ rm.slots = 0) : am_S false yX9_state (am_ws yX9_state cX9_state 5 (some .int)) rm (WP_X9_state) := by
  refine am_S.of (fun _ => hz) (by decide +kernel) (fun h0 Q G => cl_X9_state Q G) ?_
  intro p l e s m args below meth c D h0 Q X hr hnm hQ
  show am_N _ 0 (B_X9_state_0  Q _)
  · unfold B_X9_state_0
    refine as_sipush X (by decide +kernel : decode cX9_state 0 = .ok (.sipush 128, 3)) rfl ?_
    refine as_iload X (by decide +kernel : decode cX9_state 3 = .ok (.iload 4, 2)) ?_
    refine as_bipush X (by decide +kernel : decode cX9_state 5 = .ok (.bipush 8, 2)) rfl ?_
    refine as_imul X (by decide +kernel : decode cX9_state 7 = .ok (.imul, 1)) ?_
    refine as_iload_n X (by decide +kernel : decode cX9_state 8 = .ok (.iload_n 0, 1)) rfl ?_
    refine as_iadd X (by decide +kernel : decode cX9_state 9 = .ok (.iadd, 1)) ?_
    refine as_bipush X (by decide +kernel : decode cX9_state 10 = .ok (.bipush 8, 2)) rfl ?_
    refine as_imul X (by decide +kernel : decode cX9_state 12 = .ok (.imul, 1)) ?_
    refine as_iload_n X (by decide +kernel : decode cX9_state 13 = .ok (.iload_n 1, 1)) rfl ?_
    refine as_iadd X (by decide +kernel : decode cX9_state 14 = .ok (.iadd, 1)) ?_
    refine as_sipush X (by decide +kernel : decode cX9_state 15 = .ok (.sipush 256, 3)) rfl ?_
    refine as_imul X (by decide +kernel : decode cX9_state 18 = .ok (.imul, 1)) ?_
    refine as_iload_n X (by decide +kernel : decode cX9_state 19 = .ok (.iload_n 2, 1)) rfl ?_
    refine as_iadd X (by decide +kernel : decode cX9_state 20 = .ok (.iadd, 1)) ?_
    refine as_iconst X (by decide +kernel : decode cX9_state 21 = .ok (.iconst 2, 1)) rfl ?_
    refine as_imul X (by decide +kernel : decode cX9_state 22 = .ok (.imul, 1)) ?_
    refine as_iload_n X (by decide +kernel : decode cX9_state 23 = .ok (.iload_n 3, 1)) rfl ?_
    refine as_iadd X (by decide +kernel : decode cX9_state 24 = .ok (.iadd, 1)) ?_
    refine as_iadd X (by decide +kernel : decode cX9_state 25 = .ok (.iadd, 1)) ?_
    exact as_ri X hQ hr (by decide +kernel : decode cX9_state 26 = .ok (.ireturn, 1))

def B_X9_saysJoined_0 (kX9_saysRow : am_T) (Q : am_Q) (G : Nat → am_K) : am_K := (ak_il 1 (ak_is 3 (G 2)))
def B_X9_saysJoined_2 (kX9_saysRow : am_T) (Q : am_Q) (G : Nat → am_K) : am_K := (ak_il 3 (ak_il 2 (ak_ic (fun x y => y ≤ x) (ak_rv Q) (ak_al 0 (ak_al 0 (ak_get 7 11 (ak_c (.int 8) (ak_il 3 (ak_ib (fun x y => x * y) (ak_cv 3 7 kX9_saysRow (ak_ii 3 1 (G 2))))))))))))
def cl_X9_saysJoined (kX9_saysRow : am_T) (Q : am_Q) (G : Nat → am_K) : Prop := am_N G 0 (B_X9_saysJoined_0 kX9_saysRow Q G) ∧ am_N G 2 (B_X9_saysJoined_2 kX9_saysRow Q G)
def WP_X9_saysJoined (kX9_saysRow : am_T) : am_T := fun av h Q => (lg_sl av).length ≤ 4 ∧ ∀ G, cl_X9_saysJoined kX9_saysRow Q G → G 0 (am_ent 4 av) [] h
set_option maxHeartbeats 4000000 in
set_option maxRecDepth 100000 in
theorem s_X9_saysJoined {mX9_saysRow : Room} {kX9_saysRow : am_T} (h_X9_saysRow : am_S false yX9_saysRow (am_ws yX9_saysRow cX9_saysRow 4 none) mX9_saysRow kX9_saysRow) {rm : Room} (hz : rm.cells = 0 ∧ rm.slots = 0) (R_X9_saysRow : mX9_saysRow.frames + 1 ≤ rm.frames ∧ 8 + (4 + 11) + mX9_saysRow.locals ≤ rm.locals) : am_S false yX9_saysJoined (am_ws yX9_saysJoined cX9_saysJoined 4 none) rm (WP_X9_saysJoined kX9_saysRow) := by
  refine am_S.of (fun _ => hz) (by decide +kernel) (fun h0 Q G => cl_X9_saysJoined kX9_saysRow Q G) ?_
  intro p l e s m args below meth c D h0 Q X hr hnm hQ
  refine ⟨?_, ?_⟩
  · unfold B_X9_saysJoined_0
    refine as_iload_n X (by decide +kernel : decode cX9_saysJoined 0 = .ok (.iload_n 1, 1)) rfl ?_
    refine as_istore_n X (by decide +kernel : decode cX9_saysJoined 1 = .ok (.istore_n 3, 1)) rfl ?_
    exact fun _ _ _ h => h
  · unfold B_X9_saysJoined_2
    refine as_iload_n X (by decide +kernel : decode cX9_saysJoined 2 = .ok (.iload_n 3, 1)) rfl ?_
    refine as_iload_n X (by decide +kernel : decode cX9_saysJoined 3 = .ok (.iload_n 2, 1)) rfl ?_
    refine as_ic_ge X (tgt := 25) (by decide +kernel : decode cX9_saysJoined 4 = .ok (.if_icmp .ge 21, 3)) (by decide) ?_ ?_
    · exact as_rv X hQ hr (by decide +kernel : decode cX9_saysJoined 25 = .ok (.return_, 1))
    · refine as_aload_n X (by decide +kernel : decode cX9_saysJoined 7 = .ok (.aload_n 0, 1)) rfl ?_
      refine as_aload_n X (by decide +kernel : decode cX9_saysJoined 8 = .ok (.aload_n 0, 1)) rfl ?_
      refine as_get X fc_X9 (by decide +kernel : decode cX9_saysJoined 9 = .ok (.getfield 31, 3)) (by decide) fl_X9_31 ?_
      refine as_bipush X (by decide +kernel : decode cX9_saysJoined 12 = .ok (.bipush 8, 2)) rfl ?_
      refine as_iload_n X (by decide +kernel : decode cX9_saysJoined 14 = .ok (.iload_n 3, 1)) rfl ?_
      refine as_imul X (by decide +kernel : decode cX9_saysJoined 15 = .ok (.imul, 1)) ?_
      refine as_cv X h_X9_saysRow rfl (by decide +kernel : decode cX9_saysJoined 16 = .ok (.invokevirtual 292, 3)) dn_X9_saysRow ml_X9_292 im_X9_saysRow se_X9_saysRow ini_X9 co_X9_saysRow R_X9_saysRow ?_
      refine as_iinc X (by decide +kernel : decode cX9_saysJoined 19 = .ok (.iinc 3 1, 3)) rfl ?_
      refine as_goto X (tgt := 2) (by decide +kernel : decode cX9_saysJoined 22 = .ok (.goto (-20), 3)) (by decide) ?_
      exact fun _ _ _ h => h

def B_X9_saysUnit_0 (kX9_unitsOf : am_T) (kX9_saysRow : am_T) (kX9_says : am_T) (kX9_letterOf : am_T) (kX9_pushes : am_T) (kX9_saysJoined : am_T) (kX9_part : am_T) (kX9_state : am_T) (Q : am_Q) (G : Nat → am_K) : am_K := (ak_al 0 (ak_il 1 (ak_il 2 (ak_il 3 (ak_il 4 (ak_cv 5 7 kX9_unitsOf (ak_al 0 (ak_get 7 22 (ak_if (fun x => x = 0) (ak_c (.int 1) (G 21)) (ak_c (.int 0) (G 21)))))))))))
def B_X9_saysUnit_21 (kX9_unitsOf : am_T) (kX9_saysRow : am_T) (kX9_says : am_T) (kX9_letterOf : am_T) (kX9_pushes : am_T) (kX9_saysJoined : am_T) (kX9_part : am_T) (kX9_state : am_T) (Q : am_Q) (G : Nat → am_K) : am_K := (ak_is 5 (ak_al 0 (ak_get 7 21 (ak_if (fun x => x = 0) (ak_al 0 (ak_al 0 (ak_get 7 4 (ak_c (.int 9) (ak_al 0 (ak_get 7 22 (ak_ib (fun x y => x * y) (ak_cv 3 7 kX9_saysRow (ak_rv Q))))))))) (ak_al 0 (ak_get 7 21 (ak_c (.int 1) (ak_ic (fun x y => x = y) (ak_al 0 (ak_c (.int 39) (ak_cv 2 7 kX9_says (ak_al 0 (ak_al 0 (ak_get 7 11 (ak_c (.int 8) (ak_il 1 (ak_ib (fun x y => x * y) (ak_cv 3 7 kX9_saysRow (ak_rv Q))))))))))) (ak_al 0 (ak_al 0 (ak_al 0 (ak_get 7 21 (ak_cv 2 7 kX9_letterOf (ak_cv 2 7 kX9_says (ak_al 0 (ak_c (.int 40) (ak_cv 2 7 kX9_says (ak_al 0 (ak_get 7 21 (ak_c (.int 2) (ak_ic (fun x y => x = y) (ak_al 0 (ak_c (.int 41) (ak_cv 2 7 kX9_pushes (ak_al 0 (G 106))))) (ak_al 0 (ak_get 7 21 (ak_c (.int 3) (ak_ic (fun x y => x = y) (ak_al 0 (ak_il 1 (ak_il 5 (ak_ib (fun x y => x + y) (ak_il 2 (ak_c (.int 1) (ak_ib (fun x y => x - y) (ak_il 5 (ak_ib (fun x y => x + y) (ak_cv 3 7 kX9_saysJoined (ak_al 0 (ak_c (.int 41) (ak_cv 2 7 kX9_says (G 358)))))))))))))) (ak_al 0 (ak_get 7 21 (ak_c (.int 6) (ak_ic (fun x y => y ≤ x) (ak_al 0 (ak_get 7 21 (ak_c (.int 6) (ak_ic (fun x y => x = y) (G 290) (ak_al 0 (ak_get 7 21 (ak_c (.int 9) (ak_ic (fun x y => x = y) (G 290) (ak_al 0 (ak_get 7 22 (ak_if (fun x => 0 ≤ x) (ak_al 0 (ak_al 0 (ak_get 7 4 (ak_c (.int 9) (ak_al 0 (ak_get 7 22 (ak_ib (fun x y => x * y) (ak_cv 3 7 kX9_saysRow (G 352))))))))) (ak_al 0 (ak_c (.int 39) (ak_cv 2 7 kX9_says (ak_al 0 (ak_al 0 (ak_get 7 11 (ak_c (.int 8) (ak_il 1 (ak_c (.int 1) (ak_ib (fun x y => x + y) (ak_ib (fun x y => x * y) (ak_cv 3 7 kX9_saysRow (G 352)))))))))))))))))))))))) (ak_al 0 (ak_al 0 (ak_get 7 23 (ak_al 0 (ak_get 7 24 (ak_cv 3 7 kX9_part (ak_is 6 (G 185)))))))))))))))))))))))))))))))))))))
def B_X9_saysUnit_106 (kX9_unitsOf : am_T) (kX9_saysRow : am_T) (kX9_says : am_T) (kX9_letterOf : am_T) (kX9_pushes : am_T) (kX9_saysJoined : am_T) (kX9_part : am_T) (kX9_state : am_T) (Q : am_Q) (G : Nat → am_K) : am_K := (ak_il 1 (ak_il 5 (ak_ib (fun x y => x + y) (ak_il 2 (ak_c (.int 1) (ak_ib (fun x y => x - y) (ak_il 5 (ak_ib (fun x y => x + y) (ak_il 3 (ak_c (.int 1) (ak_il 4 (ak_ib (fun x y => x - y) (ak_c (.int 0) (ak_cs 5 kX9_state (ak_cv 2 7 kX9_pushes (G 358))))))))))))))))
def B_X9_saysUnit_185 (kX9_unitsOf : am_T) (kX9_saysRow : am_T) (kX9_says : am_T) (kX9_letterOf : am_T) (kX9_pushes : am_T) (kX9_saysJoined : am_T) (kX9_part : am_T) (kX9_state : am_T) (Q : am_Q) (G : Nat → am_K) : am_K := (ak_al 0 (ak_c (.int 41) (ak_cv 2 7 kX9_pushes (ak_al 0 (ak_al 0 (ak_get 7 22 (ak_c (.int 1) (ak_ib (fun x y => x + y) (ak_il 2 (ak_al 0 (ak_get 7 21 (ak_c (.int 4) (ak_ic (fun x y => x = y) (ak_il 6 (G 216)) (ak_il 3 (ak_il 6 (ak_ib (fun x y => x - y) (G 216)))))))))))))))))
def B_X9_saysUnit_216 (kX9_unitsOf : am_T) (kX9_saysRow : am_T) (kX9_says : am_T) (kX9_letterOf : am_T) (kX9_pushes : am_T) (kX9_saysJoined : am_T) (kX9_part : am_T) (kX9_state : am_T) (Q : am_Q) (G : Nat → am_K) : am_K := (ak_il 4 (ak_c (.int 0) (ak_cs 5 kX9_state (ak_cv 2 7 kX9_pushes (ak_al 0 (ak_c (.int 40) (ak_cv 2 7 kX9_pushes (ak_al 0 (ak_c (.int 41) (ak_cv 2 7 kX9_pushes (ak_al 0 (ak_il 1 (ak_al 0 (ak_get 7 22 (ak_al 0 (ak_get 7 21 (ak_c (.int 4) (ak_ic (fun x y => x = y) (ak_il 3 (ak_il 6 (ak_ib (fun x y => x - y) (G 260)))) (ak_il 6 (G 260))))))))))))))))))))
def B_X9_saysUnit_260 (kX9_unitsOf : am_T) (kX9_saysRow : am_T) (kX9_says : am_T) (kX9_letterOf : am_T) (kX9_pushes : am_T) (kX9_saysJoined : am_T) (kX9_part : am_T) (kX9_state : am_T) (Q : am_Q) (G : Nat → am_K) : am_K := (ak_il 4 (ak_c (.int 0) (ak_cs 5 kX9_state (ak_cv 2 7 kX9_pushes (G 358)))))
def B_X9_saysUnit_290 (kX9_unitsOf : am_T) (kX9_saysRow : am_T) (kX9_says : am_T) (kX9_letterOf : am_T) (kX9_pushes : am_T) (kX9_saysJoined : am_T) (kX9_part : am_T) (kX9_state : am_T) (Q : am_Q) (G : Nat → am_K) : am_K := (ak_al 0 (ak_il 1 (ak_c (.int 1) (ak_ib (fun x y => x + y) (ak_il 2 (ak_cv 3 7 kX9_saysJoined (ak_al 0 (ak_c (.int 41) (ak_cv 2 7 kX9_says (G 358))))))))))
def B_X9_saysUnit_352 (kX9_unitsOf : am_T) (kX9_saysRow : am_T) (kX9_says : am_T) (kX9_letterOf : am_T) (kX9_pushes : am_T) (kX9_saysJoined : am_T) (kX9_part : am_T) (kX9_state : am_T) (Q : am_Q) (G : Nat → am_K) : am_K := (ak_al 0 (ak_c (.int 41) (ak_cv 2 7 kX9_says (G 358))))
def B_X9_saysUnit_358 (kX9_unitsOf : am_T) (kX9_saysRow : am_T) (kX9_says : am_T) (kX9_letterOf : am_T) (kX9_pushes : am_T) (kX9_saysJoined : am_T) (kX9_part : am_T) (kX9_state : am_T) (Q : am_Q) (G : Nat → am_K) : am_K := (ak_rv Q)
def cl_X9_saysUnit (kX9_unitsOf : am_T) (kX9_saysRow : am_T) (kX9_says : am_T) (kX9_letterOf : am_T) (kX9_pushes : am_T) (kX9_saysJoined : am_T) (kX9_part : am_T) (kX9_state : am_T) (Q : am_Q) (G : Nat → am_K) : Prop := am_N G 0 (B_X9_saysUnit_0 kX9_unitsOf kX9_saysRow kX9_says kX9_letterOf kX9_pushes kX9_saysJoined kX9_part kX9_state Q G) ∧ am_N G 21 (B_X9_saysUnit_21 kX9_unitsOf kX9_saysRow kX9_says kX9_letterOf kX9_pushes kX9_saysJoined kX9_part kX9_state Q G) ∧ am_N G 106 (B_X9_saysUnit_106 kX9_unitsOf kX9_saysRow kX9_says kX9_letterOf kX9_pushes kX9_saysJoined kX9_part kX9_state Q G) ∧ am_N G 185 (B_X9_saysUnit_185 kX9_unitsOf kX9_saysRow kX9_says kX9_letterOf kX9_pushes kX9_saysJoined kX9_part kX9_state Q G) ∧ am_N G 216 (B_X9_saysUnit_216 kX9_unitsOf kX9_saysRow kX9_says kX9_letterOf kX9_pushes kX9_saysJoined kX9_part kX9_state Q G) ∧ am_N G 260 (B_X9_saysUnit_260 kX9_unitsOf kX9_saysRow kX9_says kX9_letterOf kX9_pushes kX9_saysJoined kX9_part kX9_state Q G) ∧ am_N G 290 (B_X9_saysUnit_290 kX9_unitsOf kX9_saysRow kX9_says kX9_letterOf kX9_pushes kX9_saysJoined kX9_part kX9_state Q G) ∧ am_N G 352 (B_X9_saysUnit_352 kX9_unitsOf kX9_saysRow kX9_says kX9_letterOf kX9_pushes kX9_saysJoined kX9_part kX9_state Q G) ∧ am_N G 358 (B_X9_saysUnit_358 kX9_unitsOf kX9_saysRow kX9_says kX9_letterOf kX9_pushes kX9_saysJoined kX9_part kX9_state Q G)
def WP_X9_saysUnit (kX9_unitsOf : am_T) (kX9_saysRow : am_T) (kX9_says : am_T) (kX9_letterOf : am_T) (kX9_pushes : am_T) (kX9_saysJoined : am_T) (kX9_part : am_T) (kX9_state : am_T) : am_T := fun av h Q => (lg_sl av).length ≤ 7 ∧ ∀ G, cl_X9_saysUnit kX9_unitsOf kX9_saysRow kX9_says kX9_letterOf kX9_pushes kX9_saysJoined kX9_part kX9_state Q G → G 0 (am_ent 7 av) [] h
set_option maxHeartbeats 4000000 in
set_option maxRecDepth 100000 in
theorem s_X9_saysUnit {mX9_unitsOf : Room} {kX9_unitsOf : am_T} (h_X9_unitsOf : am_S false yX9_unitsOf (am_ws yX9_unitsOf cX9_unitsOf 5 none) mX9_unitsOf kX9_unitsOf) {mX9_saysRow : Room} {kX9_saysRow : am_T} (h_X9_saysRow : am_S false yX9_saysRow (am_ws yX9_saysRow cX9_saysRow 4 none) mX9_saysRow kX9_saysRow) {mX9_says : Room} {kX9_says : am_T} (h_X9_says : am_S false yX9_says (am_ws yX9_says cX9_says 2 none) mX9_says kX9_says) {mX9_letterOf : Room} {kX9_letterOf : am_T} (h_X9_letterOf : am_S false yX9_letterOf (am_ws yX9_letterOf cX9_letterOf 2 (some .int)) mX9_letterOf kX9_letterOf) {mX9_pushes : Room} {kX9_pushes : am_T} (h_X9_pushes : am_S false yX9_pushes (am_ws yX9_pushes cX9_pushes 2 none) mX9_pushes kX9_pushes) {mX9_saysJoined : Room} {kX9_saysJoined : am_T} (h_X9_saysJoined : am_S false yX9_saysJoined (am_ws yX9_saysJoined cX9_saysJoined 4 none) mX9_saysJoined kX9_saysJoined) {mX9_part : Room} {kX9_part : am_T} (h_X9_part : am_S false yX9_part (am_ws yX9_part cX9_part 5 (some .int)) mX9_part kX9_part) {mX9_state : Room} {kX9_state : am_T} (h_X9_state : am_S false yX9_state (am_ws yX9_state cX9_state 5 (some .int)) mX9_state kX9_state) {rm : Room} (hz : rm.cells = 0 ∧ rm.slots = 0) (R_X9_unitsOf : mX9_unitsOf.frames + 1 ≤ rm.frames ∧ 8 + (5 + 11) + mX9_unitsOf.locals ≤ rm.locals) (R_X9_saysRow : mX9_saysRow.frames + 1 ≤ rm.frames ∧ 8 + (4 + 11) + mX9_saysRow.locals ≤ rm.locals) (R_X9_says : mX9_says.frames + 1 ≤ rm.frames ∧ 8 + (2 + 11) + mX9_says.locals ≤ rm.locals) (R_X9_letterOf : mX9_letterOf.frames + 1 ≤ rm.frames ∧ 8 + (2 + 11) + mX9_letterOf.locals ≤ rm.locals) (R_X9_pushes : mX9_pushes.frames + 1 ≤ rm.frames ∧ 8 + (2 + 11) + mX9_pushes.locals ≤ rm.locals) (R_X9_saysJoined : mX9_saysJoined.frames + 1 ≤ rm.frames ∧ 8 + (4 + 11) + mX9_saysJoined.locals ≤ rm.locals) (R_X9_part : mX9_part.frames + 1 ≤ rm.frames ∧ 8 + (5 + 11) + mX9_part.locals ≤ rm.locals) (R_X9_state : mX9_state.frames + 1 ≤ rm.frames ∧ 8 + (5 + 11) + mX9_state.locals ≤ rm.locals) : am_S false yX9_saysUnit (am_ws yX9_saysUnit cX9_saysUnit 7 none) rm (WP_X9_saysUnit kX9_unitsOf kX9_saysRow kX9_says kX9_letterOf kX9_pushes kX9_saysJoined kX9_part kX9_state) := by
  refine am_S.of (fun _ => hz) (by decide +kernel) (fun h0 Q G => cl_X9_saysUnit kX9_unitsOf kX9_saysRow kX9_says kX9_letterOf kX9_pushes kX9_saysJoined kX9_part kX9_state Q G) ?_
  intro p l e s m args below meth c D h0 Q X hr hnm hQ
  refine ⟨?_, ?_, ?_, ?_, ?_, ?_, ?_, ?_, ?_⟩
  · unfold B_X9_saysUnit_0
    refine as_aload_n X (by decide +kernel : decode cX9_saysUnit 0 = .ok (.aload_n 0, 1)) rfl ?_
    refine as_iload_n X (by decide +kernel : decode cX9_saysUnit 1 = .ok (.iload_n 1, 1)) rfl ?_
    refine as_iload_n X (by decide +kernel : decode cX9_saysUnit 2 = .ok (.iload_n 2, 1)) rfl ?_
    refine as_iload_n X (by decide +kernel : decode cX9_saysUnit 3 = .ok (.iload_n 3, 1)) rfl ?_
    refine as_iload X (by decide +kernel : decode cX9_saysUnit 4 = .ok (.iload 4, 2)) ?_
    refine as_cv X h_X9_unitsOf rfl (by decide +kernel : decode cX9_saysUnit 6 = .ok (.invokevirtual 264, 3)) dn_X9_unitsOf ml_X9_264 im_X9_unitsOf se_X9_unitsOf ini_X9 co_X9_unitsOf R_X9_unitsOf ?_
    refine as_aload_n X (by decide +kernel : decode cX9_saysUnit 9 = .ok (.aload_n 0, 1)) rfl ?_
    refine as_get X fc_X9 (by decide +kernel : decode cX9_saysUnit 10 = .ok (.getfield 178, 3)) (by decide) fl_X9_178 ?_
    refine as_if_ne X (tgt := 20) (by decide +kernel : decode cX9_saysUnit 13 = .ok (.ifCond .ne 7, 3)) (by decide) ?_ ?_
    · refine as_iconst X (by decide +kernel : decode cX9_saysUnit 16 = .ok (.iconst 1, 1)) rfl ?_
      refine as_goto X (tgt := 21) (by decide +kernel : decode cX9_saysUnit 17 = .ok (.goto 4, 3)) (by decide) ?_
      exact fun _ _ _ h => h
    · refine as_iconst X (by decide +kernel : decode cX9_saysUnit 20 = .ok (.iconst 0, 1)) rfl ?_
      exact fun _ _ _ h => h
  · unfold B_X9_saysUnit_21
    refine as_istore X (by decide +kernel : decode cX9_saysUnit 21 = .ok (.istore 5, 2)) ?_
    refine as_aload_n X (by decide +kernel : decode cX9_saysUnit 23 = .ok (.aload_n 0, 1)) rfl ?_
    refine as_get X fc_X9 (by decide +kernel : decode cX9_saysUnit 24 = .ok (.getfield 175, 3)) (by decide) fl_X9_175 ?_
    refine as_if_ne X (tgt := 46) (by decide +kernel : decode cX9_saysUnit 27 = .ok (.ifCond .ne 19, 3)) (by decide) ?_ ?_
    · refine as_aload_n X (by decide +kernel : decode cX9_saysUnit 30 = .ok (.aload_n 0, 1)) rfl ?_
      refine as_aload_n X (by decide +kernel : decode cX9_saysUnit 31 = .ok (.aload_n 0, 1)) rfl ?_
      refine as_get X fc_X9 (by decide +kernel : decode cX9_saysUnit 32 = .ok (.getfield 16, 3)) (by decide) fl_X9_16 ?_
      refine as_bipush X (by decide +kernel : decode cX9_saysUnit 35 = .ok (.bipush 9, 2)) rfl ?_
      refine as_aload_n X (by decide +kernel : decode cX9_saysUnit 37 = .ok (.aload_n 0, 1)) rfl ?_
      refine as_get X fc_X9 (by decide +kernel : decode cX9_saysUnit 38 = .ok (.getfield 178, 3)) (by decide) fl_X9_178 ?_
      refine as_imul X (by decide +kernel : decode cX9_saysUnit 41 = .ok (.imul, 1)) ?_
      refine as_cv X h_X9_saysRow rfl (by decide +kernel : decode cX9_saysUnit 42 = .ok (.invokevirtual 292, 3)) dn_X9_saysRow ml_X9_292 im_X9_saysRow se_X9_saysRow ini_X9 co_X9_saysRow R_X9_saysRow ?_
      exact as_rv X hQ hr (by decide +kernel : decode cX9_saysUnit 45 = .ok (.return_, 1))
    · refine as_aload_n X (by decide +kernel : decode cX9_saysUnit 46 = .ok (.aload_n 0, 1)) rfl ?_
      refine as_get X fc_X9 (by decide +kernel : decode cX9_saysUnit 47 = .ok (.getfield 175, 3)) (by decide) fl_X9_175 ?_
      refine as_iconst X (by decide +kernel : decode cX9_saysUnit 50 = .ok (.iconst 1, 1)) rfl ?_
      refine as_ic_ne X (tgt := 73) (by decide +kernel : decode cX9_saysUnit 51 = .ok (.if_icmp .ne 22, 3)) (by decide) ?_ ?_
      · refine as_aload_n X (by decide +kernel : decode cX9_saysUnit 54 = .ok (.aload_n 0, 1)) rfl ?_
        refine as_bipush X (by decide +kernel : decode cX9_saysUnit 55 = .ok (.bipush 39, 2)) rfl ?_
        refine as_cv X h_X9_says rfl (by decide +kernel : decode cX9_saysUnit 57 = .ok (.invokevirtual 286, 3)) dn_X9_says ml_X9_286 im_X9_says se_X9_says ini_X9 co_X9_says R_X9_says ?_
        refine as_aload_n X (by decide +kernel : decode cX9_saysUnit 60 = .ok (.aload_n 0, 1)) rfl ?_
        refine as_aload_n X (by decide +kernel : decode cX9_saysUnit 61 = .ok (.aload_n 0, 1)) rfl ?_
        refine as_get X fc_X9 (by decide +kernel : decode cX9_saysUnit 62 = .ok (.getfield 31, 3)) (by decide) fl_X9_31 ?_
        refine as_bipush X (by decide +kernel : decode cX9_saysUnit 65 = .ok (.bipush 8, 2)) rfl ?_
        refine as_iload_n X (by decide +kernel : decode cX9_saysUnit 67 = .ok (.iload_n 1, 1)) rfl ?_
        refine as_imul X (by decide +kernel : decode cX9_saysUnit 68 = .ok (.imul, 1)) ?_
        refine as_cv X h_X9_saysRow rfl (by decide +kernel : decode cX9_saysUnit 69 = .ok (.invokevirtual 292, 3)) dn_X9_saysRow ml_X9_292 im_X9_saysRow se_X9_saysRow ini_X9 co_X9_saysRow R_X9_saysRow ?_
        exact as_rv X hQ hr (by decide +kernel : decode cX9_saysUnit 72 = .ok (.return_, 1))
      · refine as_aload_n X (by decide +kernel : decode cX9_saysUnit 73 = .ok (.aload_n 0, 1)) rfl ?_
        refine as_aload_n X (by decide +kernel : decode cX9_saysUnit 74 = .ok (.aload_n 0, 1)) rfl ?_
        refine as_aload_n X (by decide +kernel : decode cX9_saysUnit 75 = .ok (.aload_n 0, 1)) rfl ?_
        refine as_get X fc_X9 (by decide +kernel : decode cX9_saysUnit 76 = .ok (.getfield 175, 3)) (by decide) fl_X9_175 ?_
        refine as_cv X h_X9_letterOf rfl (by decide +kernel : decode cX9_saysUnit 79 = .ok (.invokevirtual 145, 3)) dn_X9_letterOf ml_X9_145 im_X9_letterOf se_X9_letterOf ini_X9 co_X9_letterOf R_X9_letterOf ?_
        refine as_cv X h_X9_says rfl (by decide +kernel : decode cX9_saysUnit 82 = .ok (.invokevirtual 286, 3)) dn_X9_says ml_X9_286 im_X9_says se_X9_says ini_X9 co_X9_says R_X9_says ?_
        refine as_aload_n X (by decide +kernel : decode cX9_saysUnit 85 = .ok (.aload_n 0, 1)) rfl ?_
        refine as_bipush X (by decide +kernel : decode cX9_saysUnit 86 = .ok (.bipush 40, 2)) rfl ?_
        refine as_cv X h_X9_says rfl (by decide +kernel : decode cX9_saysUnit 88 = .ok (.invokevirtual 286, 3)) dn_X9_says ml_X9_286 im_X9_says se_X9_says ini_X9 co_X9_says R_X9_says ?_
        refine as_aload_n X (by decide +kernel : decode cX9_saysUnit 91 = .ok (.aload_n 0, 1)) rfl ?_
        refine as_get X fc_X9 (by decide +kernel : decode cX9_saysUnit 92 = .ok (.getfield 175, 3)) (by decide) fl_X9_175 ?_
        refine as_iconst X (by decide +kernel : decode cX9_saysUnit 95 = .ok (.iconst 2, 1)) rfl ?_
        refine as_ic_ne X (tgt := 131) (by decide +kernel : decode cX9_saysUnit 96 = .ok (.if_icmp .ne 35, 3)) (by decide) ?_ ?_
        · refine as_aload_n X (by decide +kernel : decode cX9_saysUnit 99 = .ok (.aload_n 0, 1)) rfl ?_
          refine as_bipush X (by decide +kernel : decode cX9_saysUnit 100 = .ok (.bipush 41, 2)) rfl ?_
          refine as_cv X h_X9_pushes rfl (by decide +kernel : decode cX9_saysUnit 102 = .ok (.invokevirtual 296, 3)) dn_X9_pushes ml_X9_296 im_X9_pushes se_X9_pushes ini_X9 co_X9_pushes R_X9_pushes ?_
          refine as_aload_n X (by decide +kernel : decode cX9_saysUnit 105 = .ok (.aload_n 0, 1)) rfl ?_
          exact fun _ _ _ h => h
        · refine as_aload_n X (by decide +kernel : decode cX9_saysUnit 131 = .ok (.aload_n 0, 1)) rfl ?_
          refine as_get X fc_X9 (by decide +kernel : decode cX9_saysUnit 132 = .ok (.getfield 175, 3)) (by decide) fl_X9_175 ?_
          refine as_iconst X (by decide +kernel : decode cX9_saysUnit 135 = .ok (.iconst 3, 1)) rfl ?_
          refine as_ic_ne X (tgt := 162) (by decide +kernel : decode cX9_saysUnit 136 = .ok (.if_icmp .ne 26, 3)) (by decide) ?_ ?_
          · refine as_aload_n X (by decide +kernel : decode cX9_saysUnit 139 = .ok (.aload_n 0, 1)) rfl ?_
            refine as_iload_n X (by decide +kernel : decode cX9_saysUnit 140 = .ok (.iload_n 1, 1)) rfl ?_
            refine as_iload X (by decide +kernel : decode cX9_saysUnit 141 = .ok (.iload 5, 2)) ?_
            refine as_iadd X (by decide +kernel : decode cX9_saysUnit 143 = .ok (.iadd, 1)) ?_
            refine as_iload_n X (by decide +kernel : decode cX9_saysUnit 144 = .ok (.iload_n 2, 1)) rfl ?_
            refine as_iconst X (by decide +kernel : decode cX9_saysUnit 145 = .ok (.iconst 1, 1)) rfl ?_
            refine as_isub X (by decide +kernel : decode cX9_saysUnit 146 = .ok (.isub, 1)) ?_
            refine as_iload X (by decide +kernel : decode cX9_saysUnit 147 = .ok (.iload 5, 2)) ?_
            refine as_iadd X (by decide +kernel : decode cX9_saysUnit 149 = .ok (.iadd, 1)) ?_
            refine as_cv X h_X9_saysJoined rfl (by decide +kernel : decode cX9_saysUnit 150 = .ok (.invokevirtual 303, 3)) dn_X9_saysJoined ml_X9_303 im_X9_saysJoined se_X9_saysJoined ini_X9 co_X9_saysJoined R_X9_saysJoined ?_
            refine as_aload_n X (by decide +kernel : decode cX9_saysUnit 153 = .ok (.aload_n 0, 1)) rfl ?_
            refine as_bipush X (by decide +kernel : decode cX9_saysUnit 154 = .ok (.bipush 41, 2)) rfl ?_
            refine as_cv X h_X9_says rfl (by decide +kernel : decode cX9_saysUnit 156 = .ok (.invokevirtual 286, 3)) dn_X9_says ml_X9_286 im_X9_says se_X9_says ini_X9 co_X9_says R_X9_says ?_
            refine as_goto X (tgt := 358) (by decide +kernel : decode cX9_saysUnit 159 = .ok (.goto 199, 3)) (by decide) ?_
            exact fun _ _ _ h => h
          · refine as_aload_n X (by decide +kernel : decode cX9_saysUnit 162 = .ok (.aload_n 0, 1)) rfl ?_
            refine as_get X fc_X9 (by decide +kernel : decode cX9_saysUnit 163 = .ok (.getfield 175, 3)) (by decide) fl_X9_175 ?_
            refine as_bipush X (by decide +kernel : decode cX9_saysUnit 166 = .ok (.bipush 6, 2)) rfl ?_
            refine as_ic_ge X (tgt := 272) (by decide +kernel : decode cX9_saysUnit 168 = .ok (.if_icmp .ge 104, 3)) (by decide) ?_ ?_
            · refine as_aload_n X (by decide +kernel : decode cX9_saysUnit 272 = .ok (.aload_n 0, 1)) rfl ?_
              refine as_get X fc_X9 (by decide +kernel : decode cX9_saysUnit 273 = .ok (.getfield 175, 3)) (by decide) fl_X9_175 ?_
              refine as_bipush X (by decide +kernel : decode cX9_saysUnit 276 = .ok (.bipush 6, 2)) rfl ?_
              refine as_ic_eq X (tgt := 290) (by decide +kernel : decode cX9_saysUnit 278 = .ok (.if_icmp .eq 12, 3)) (by decide) ?_ ?_
              · exact fun _ _ _ h => h
              · refine as_aload_n X (by decide +kernel : decode cX9_saysUnit 281 = .ok (.aload_n 0, 1)) rfl ?_
                refine as_get X fc_X9 (by decide +kernel : decode cX9_saysUnit 282 = .ok (.getfield 175, 3)) (by decide) fl_X9_175 ?_
                refine as_bipush X (by decide +kernel : decode cX9_saysUnit 285 = .ok (.bipush 9, 2)) rfl ?_
                refine as_ic_ne X (tgt := 307) (by decide +kernel : decode cX9_saysUnit 287 = .ok (.if_icmp .ne 20, 3)) (by decide) ?_ ?_
                · exact fun _ _ _ h => h
                · refine as_aload_n X (by decide +kernel : decode cX9_saysUnit 307 = .ok (.aload_n 0, 1)) rfl ?_
                  refine as_get X fc_X9 (by decide +kernel : decode cX9_saysUnit 308 = .ok (.getfield 178, 3)) (by decide) fl_X9_178 ?_
                  refine as_if_ge X (tgt := 337) (by decide +kernel : decode cX9_saysUnit 311 = .ok (.ifCond .ge 26, 3)) (by decide) ?_ ?_
                  · refine as_aload_n X (by decide +kernel : decode cX9_saysUnit 337 = .ok (.aload_n 0, 1)) rfl ?_
                    refine as_aload_n X (by decide +kernel : decode cX9_saysUnit 338 = .ok (.aload_n 0, 1)) rfl ?_
                    refine as_get X fc_X9 (by decide +kernel : decode cX9_saysUnit 339 = .ok (.getfield 16, 3)) (by decide) fl_X9_16 ?_
                    refine as_bipush X (by decide +kernel : decode cX9_saysUnit 342 = .ok (.bipush 9, 2)) rfl ?_
                    refine as_aload_n X (by decide +kernel : decode cX9_saysUnit 344 = .ok (.aload_n 0, 1)) rfl ?_
                    refine as_get X fc_X9 (by decide +kernel : decode cX9_saysUnit 345 = .ok (.getfield 178, 3)) (by decide) fl_X9_178 ?_
                    refine as_imul X (by decide +kernel : decode cX9_saysUnit 348 = .ok (.imul, 1)) ?_
                    refine as_cv X h_X9_saysRow rfl (by decide +kernel : decode cX9_saysUnit 349 = .ok (.invokevirtual 292, 3)) dn_X9_saysRow ml_X9_292 im_X9_saysRow se_X9_saysRow ini_X9 co_X9_saysRow R_X9_saysRow ?_
                    exact fun _ _ _ h => h
                  · refine as_aload_n X (by decide +kernel : decode cX9_saysUnit 314 = .ok (.aload_n 0, 1)) rfl ?_
                    refine as_bipush X (by decide +kernel : decode cX9_saysUnit 315 = .ok (.bipush 39, 2)) rfl ?_
                    refine as_cv X h_X9_says rfl (by decide +kernel : decode cX9_saysUnit 317 = .ok (.invokevirtual 286, 3)) dn_X9_says ml_X9_286 im_X9_says se_X9_says ini_X9 co_X9_says R_X9_says ?_
                    refine as_aload_n X (by decide +kernel : decode cX9_saysUnit 320 = .ok (.aload_n 0, 1)) rfl ?_
                    refine as_aload_n X (by decide +kernel : decode cX9_saysUnit 321 = .ok (.aload_n 0, 1)) rfl ?_
                    refine as_get X fc_X9 (by decide +kernel : decode cX9_saysUnit 322 = .ok (.getfield 31, 3)) (by decide) fl_X9_31 ?_
                    refine as_bipush X (by decide +kernel : decode cX9_saysUnit 325 = .ok (.bipush 8, 2)) rfl ?_
                    refine as_iload_n X (by decide +kernel : decode cX9_saysUnit 327 = .ok (.iload_n 1, 1)) rfl ?_
                    refine as_iconst X (by decide +kernel : decode cX9_saysUnit 328 = .ok (.iconst 1, 1)) rfl ?_
                    refine as_iadd X (by decide +kernel : decode cX9_saysUnit 329 = .ok (.iadd, 1)) ?_
                    refine as_imul X (by decide +kernel : decode cX9_saysUnit 330 = .ok (.imul, 1)) ?_
                    refine as_cv X h_X9_saysRow rfl (by decide +kernel : decode cX9_saysUnit 331 = .ok (.invokevirtual 292, 3)) dn_X9_saysRow ml_X9_292 im_X9_saysRow se_X9_saysRow ini_X9 co_X9_saysRow R_X9_saysRow ?_
                    refine as_goto X (tgt := 352) (by decide +kernel : decode cX9_saysUnit 334 = .ok (.goto 18, 3)) (by decide) ?_
                    exact fun _ _ _ h => h
            · refine as_aload_n X (by decide +kernel : decode cX9_saysUnit 171 = .ok (.aload_n 0, 1)) rfl ?_
              refine as_aload_n X (by decide +kernel : decode cX9_saysUnit 172 = .ok (.aload_n 0, 1)) rfl ?_
              refine as_get X fc_X9 (by decide +kernel : decode cX9_saysUnit 173 = .ok (.getfield 181, 3)) (by decide) fl_X9_181 ?_
              refine as_aload_n X (by decide +kernel : decode cX9_saysUnit 176 = .ok (.aload_n 0, 1)) rfl ?_
              refine as_get X fc_X9 (by decide +kernel : decode cX9_saysUnit 177 = .ok (.getfield 184, 3)) (by decide) fl_X9_184 ?_
              refine as_cv X h_X9_part rfl (by decide +kernel : decode cX9_saysUnit 180 = .ok (.invokevirtual 220, 3)) dn_X9_part ml_X9_220 im_X9_part se_X9_part ini_X9 co_X9_part R_X9_part ?_
              refine as_istore X (by decide +kernel : decode cX9_saysUnit 183 = .ok (.istore 6, 2)) ?_
              exact fun _ _ _ h => h
  · unfold B_X9_saysUnit_106
    refine as_iload_n X (by decide +kernel : decode cX9_saysUnit 106 = .ok (.iload_n 1, 1)) rfl ?_
    refine as_iload X (by decide +kernel : decode cX9_saysUnit 107 = .ok (.iload 5, 2)) ?_
    refine as_iadd X (by decide +kernel : decode cX9_saysUnit 109 = .ok (.iadd, 1)) ?_
    refine as_iload_n X (by decide +kernel : decode cX9_saysUnit 110 = .ok (.iload_n 2, 1)) rfl ?_
    refine as_iconst X (by decide +kernel : decode cX9_saysUnit 111 = .ok (.iconst 1, 1)) rfl ?_
    refine as_isub X (by decide +kernel : decode cX9_saysUnit 112 = .ok (.isub, 1)) ?_
    refine as_iload X (by decide +kernel : decode cX9_saysUnit 113 = .ok (.iload 5, 2)) ?_
    refine as_iadd X (by decide +kernel : decode cX9_saysUnit 115 = .ok (.iadd, 1)) ?_
    refine as_iload_n X (by decide +kernel : decode cX9_saysUnit 116 = .ok (.iload_n 3, 1)) rfl ?_
    refine as_iconst X (by decide +kernel : decode cX9_saysUnit 117 = .ok (.iconst 1, 1)) rfl ?_
    refine as_iload X (by decide +kernel : decode cX9_saysUnit 118 = .ok (.iload 4, 2)) ?_
    refine as_isub X (by decide +kernel : decode cX9_saysUnit 120 = .ok (.isub, 1)) ?_
    refine as_iconst X (by decide +kernel : decode cX9_saysUnit 121 = .ok (.iconst 0, 1)) rfl ?_
    refine as_cs X h_X9_state (by decide +kernel : decode cX9_saysUnit 122 = .ok (.invokestatic 299, 3)) dn_X9_state ml_X9_299 st_X9_state ini_X9 co_X9_state R_X9_state ?_
    refine as_cv X h_X9_pushes rfl (by decide +kernel : decode cX9_saysUnit 125 = .ok (.invokevirtual 296, 3)) dn_X9_pushes ml_X9_296 im_X9_pushes se_X9_pushes ini_X9 co_X9_pushes R_X9_pushes ?_
    refine as_goto X (tgt := 358) (by decide +kernel : decode cX9_saysUnit 128 = .ok (.goto 230, 3)) (by decide) ?_
    exact fun _ _ _ h => h
  · unfold B_X9_saysUnit_185
    refine as_aload_n X (by decide +kernel : decode cX9_saysUnit 185 = .ok (.aload_n 0, 1)) rfl ?_
    refine as_bipush X (by decide +kernel : decode cX9_saysUnit 186 = .ok (.bipush 41, 2)) rfl ?_
    refine as_cv X h_X9_pushes rfl (by decide +kernel : decode cX9_saysUnit 188 = .ok (.invokevirtual 296, 3)) dn_X9_pushes ml_X9_296 im_X9_pushes se_X9_pushes ini_X9 co_X9_pushes R_X9_pushes ?_
    refine as_aload_n X (by decide +kernel : decode cX9_saysUnit 191 = .ok (.aload_n 0, 1)) rfl ?_
    refine as_aload_n X (by decide +kernel : decode cX9_saysUnit 192 = .ok (.aload_n 0, 1)) rfl ?_
    refine as_get X fc_X9 (by decide +kernel : decode cX9_saysUnit 193 = .ok (.getfield 178, 3)) (by decide) fl_X9_178 ?_
    refine as_iconst X (by decide +kernel : decode cX9_saysUnit 196 = .ok (.iconst 1, 1)) rfl ?_
    refine as_iadd X (by decide +kernel : decode cX9_saysUnit 197 = .ok (.iadd, 1)) ?_
    refine as_iload_n X (by decide +kernel : decode cX9_saysUnit 198 = .ok (.iload_n 2, 1)) rfl ?_
    refine as_aload_n X (by decide +kernel : decode cX9_saysUnit 199 = .ok (.aload_n 0, 1)) rfl ?_
    refine as_get X fc_X9 (by decide +kernel : decode cX9_saysUnit 200 = .ok (.getfield 175, 3)) (by decide) fl_X9_175 ?_
    refine as_iconst X (by decide +kernel : decode cX9_saysUnit 203 = .ok (.iconst 4, 1)) rfl ?_
    refine as_ic_ne X (tgt := 212) (by decide +kernel : decode cX9_saysUnit 204 = .ok (.if_icmp .ne 8, 3)) (by decide) ?_ ?_
    · refine as_iload X (by decide +kernel : decode cX9_saysUnit 207 = .ok (.iload 6, 2)) ?_
      refine as_goto X (tgt := 216) (by decide +kernel : decode cX9_saysUnit 209 = .ok (.goto 7, 3)) (by decide) ?_
      exact fun _ _ _ h => h
    · refine as_iload_n X (by decide +kernel : decode cX9_saysUnit 212 = .ok (.iload_n 3, 1)) rfl ?_
      refine as_iload X (by decide +kernel : decode cX9_saysUnit 213 = .ok (.iload 6, 2)) ?_
      refine as_isub X (by decide +kernel : decode cX9_saysUnit 215 = .ok (.isub, 1)) ?_
      exact fun _ _ _ h => h
  · unfold B_X9_saysUnit_216
    refine as_iload X (by decide +kernel : decode cX9_saysUnit 216 = .ok (.iload 4, 2)) ?_
    refine as_iconst X (by decide +kernel : decode cX9_saysUnit 218 = .ok (.iconst 0, 1)) rfl ?_
    refine as_cs X h_X9_state (by decide +kernel : decode cX9_saysUnit 219 = .ok (.invokestatic 299, 3)) dn_X9_state ml_X9_299 st_X9_state ini_X9 co_X9_state R_X9_state ?_
    refine as_cv X h_X9_pushes rfl (by decide +kernel : decode cX9_saysUnit 222 = .ok (.invokevirtual 296, 3)) dn_X9_pushes ml_X9_296 im_X9_pushes se_X9_pushes ini_X9 co_X9_pushes R_X9_pushes ?_
    refine as_aload_n X (by decide +kernel : decode cX9_saysUnit 225 = .ok (.aload_n 0, 1)) rfl ?_
    refine as_bipush X (by decide +kernel : decode cX9_saysUnit 226 = .ok (.bipush 40, 2)) rfl ?_
    refine as_cv X h_X9_pushes rfl (by decide +kernel : decode cX9_saysUnit 228 = .ok (.invokevirtual 296, 3)) dn_X9_pushes ml_X9_296 im_X9_pushes se_X9_pushes ini_X9 co_X9_pushes R_X9_pushes ?_
    refine as_aload_n X (by decide +kernel : decode cX9_saysUnit 231 = .ok (.aload_n 0, 1)) rfl ?_
    refine as_bipush X (by decide +kernel : decode cX9_saysUnit 232 = .ok (.bipush 41, 2)) rfl ?_
    refine as_cv X h_X9_pushes rfl (by decide +kernel : decode cX9_saysUnit 234 = .ok (.invokevirtual 296, 3)) dn_X9_pushes ml_X9_296 im_X9_pushes se_X9_pushes ini_X9 co_X9_pushes R_X9_pushes ?_
    refine as_aload_n X (by decide +kernel : decode cX9_saysUnit 237 = .ok (.aload_n 0, 1)) rfl ?_
    refine as_iload_n X (by decide +kernel : decode cX9_saysUnit 238 = .ok (.iload_n 1, 1)) rfl ?_
    refine as_aload_n X (by decide +kernel : decode cX9_saysUnit 239 = .ok (.aload_n 0, 1)) rfl ?_
    refine as_get X fc_X9 (by decide +kernel : decode cX9_saysUnit 240 = .ok (.getfield 178, 3)) (by decide) fl_X9_178 ?_
    refine as_aload_n X (by decide +kernel : decode cX9_saysUnit 243 = .ok (.aload_n 0, 1)) rfl ?_
    refine as_get X fc_X9 (by decide +kernel : decode cX9_saysUnit 244 = .ok (.getfield 175, 3)) (by decide) fl_X9_175 ?_
    refine as_iconst X (by decide +kernel : decode cX9_saysUnit 247 = .ok (.iconst 4, 1)) rfl ?_
    refine as_ic_ne X (tgt := 258) (by decide +kernel : decode cX9_saysUnit 248 = .ok (.if_icmp .ne 10, 3)) (by decide) ?_ ?_
    · refine as_iload_n X (by decide +kernel : decode cX9_saysUnit 251 = .ok (.iload_n 3, 1)) rfl ?_
      refine as_iload X (by decide +kernel : decode cX9_saysUnit 252 = .ok (.iload 6, 2)) ?_
      refine as_isub X (by decide +kernel : decode cX9_saysUnit 254 = .ok (.isub, 1)) ?_
      refine as_goto X (tgt := 260) (by decide +kernel : decode cX9_saysUnit 255 = .ok (.goto 5, 3)) (by decide) ?_
      exact fun _ _ _ h => h
    · refine as_iload X (by decide +kernel : decode cX9_saysUnit 258 = .ok (.iload 6, 2)) ?_
      exact fun _ _ _ h => h
  · unfold B_X9_saysUnit_260
    refine as_iload X (by decide +kernel : decode cX9_saysUnit 260 = .ok (.iload 4, 2)) ?_
    refine as_iconst X (by decide +kernel : decode cX9_saysUnit 262 = .ok (.iconst 0, 1)) rfl ?_
    refine as_cs X h_X9_state (by decide +kernel : decode cX9_saysUnit 263 = .ok (.invokestatic 299, 3)) dn_X9_state ml_X9_299 st_X9_state ini_X9 co_X9_state R_X9_state ?_
    refine as_cv X h_X9_pushes rfl (by decide +kernel : decode cX9_saysUnit 266 = .ok (.invokevirtual 296, 3)) dn_X9_pushes ml_X9_296 im_X9_pushes se_X9_pushes ini_X9 co_X9_pushes R_X9_pushes ?_
    refine as_goto X (tgt := 358) (by decide +kernel : decode cX9_saysUnit 269 = .ok (.goto 89, 3)) (by decide) ?_
    exact fun _ _ _ h => h
  · unfold B_X9_saysUnit_290
    refine as_aload_n X (by decide +kernel : decode cX9_saysUnit 290 = .ok (.aload_n 0, 1)) rfl ?_
    refine as_iload_n X (by decide +kernel : decode cX9_saysUnit 291 = .ok (.iload_n 1, 1)) rfl ?_
    refine as_iconst X (by decide +kernel : decode cX9_saysUnit 292 = .ok (.iconst 1, 1)) rfl ?_
    refine as_iadd X (by decide +kernel : decode cX9_saysUnit 293 = .ok (.iadd, 1)) ?_
    refine as_iload_n X (by decide +kernel : decode cX9_saysUnit 294 = .ok (.iload_n 2, 1)) rfl ?_
    refine as_cv X h_X9_saysJoined rfl (by decide +kernel : decode cX9_saysUnit 295 = .ok (.invokevirtual 303, 3)) dn_X9_saysJoined ml_X9_303 im_X9_saysJoined se_X9_saysJoined ini_X9 co_X9_saysJoined R_X9_saysJoined ?_
    refine as_aload_n X (by decide +kernel : decode cX9_saysUnit 298 = .ok (.aload_n 0, 1)) rfl ?_
    refine as_bipush X (by decide +kernel : decode cX9_saysUnit 299 = .ok (.bipush 41, 2)) rfl ?_
    refine as_cv X h_X9_says rfl (by decide +kernel : decode cX9_saysUnit 301 = .ok (.invokevirtual 286, 3)) dn_X9_says ml_X9_286 im_X9_says se_X9_says ini_X9 co_X9_says R_X9_says ?_
    refine as_goto X (tgt := 358) (by decide +kernel : decode cX9_saysUnit 304 = .ok (.goto 54, 3)) (by decide) ?_
    exact fun _ _ _ h => h
  · unfold B_X9_saysUnit_352
    refine as_aload_n X (by decide +kernel : decode cX9_saysUnit 352 = .ok (.aload_n 0, 1)) rfl ?_
    refine as_bipush X (by decide +kernel : decode cX9_saysUnit 353 = .ok (.bipush 41, 2)) rfl ?_
    refine as_cv X h_X9_says rfl (by decide +kernel : decode cX9_saysUnit 355 = .ok (.invokevirtual 286, 3)) dn_X9_says ml_X9_286 im_X9_says se_X9_says ini_X9 co_X9_says R_X9_says ?_
    exact fun _ _ _ h => h
  · unfold B_X9_saysUnit_358
    exact as_rv X hQ hr (by decide +kernel : decode cX9_saysUnit 358 = .ok (.return_, 1))

def B_X9_saysPiece_0 (kX9_piecesOf : am_T) (kX9_part : am_T) (kX9_state : am_T) (kX9_pushes : am_T) (Q : am_Q) (G : Nat → am_K) : am_K := (ak_al 0 (ak_il 1 (ak_il 2 (ak_il 3 (ak_il 4 (ak_cv 5 7 kX9_piecesOf (ak_al 0 (ak_get 7 22 (ak_is 5 (ak_al 0 (ak_c (.int 0) (ak_al 0 (ak_get 7 23 (ak_cv 3 7 kX9_part (ak_is 6 (ak_il 5 (ak_il 2 (ak_ic (fun x y => y ≤ x) (G 55) (ak_al 0 (ak_il 5 (ak_il 2 (ak_il 3 (ak_il 6 (ak_ib (fun x y => x - y) (ak_il 4 (ak_c (.int 0) (ak_cs 5 kX9_state (ak_cv 2 7 kX9_pushes (ak_al 0 (ak_c (.int 43) (ak_cv 2 7 kX9_pushes (G 55))))))))))))))))))))))))))))))))
def B_X9_saysPiece_55 (kX9_piecesOf : am_T) (kX9_part : am_T) (kX9_state : am_T) (kX9_pushes : am_T) (Q : am_Q) (G : Nat → am_K) : am_K := (ak_al 0 (ak_il 1 (ak_il 5 (ak_il 6 (ak_il 4 (ak_c (.int 1) (ak_cs 5 kX9_state (ak_cv 2 7 kX9_pushes (ak_rv Q)))))))))
def cl_X9_saysPiece (kX9_piecesOf : am_T) (kX9_part : am_T) (kX9_state : am_T) (kX9_pushes : am_T) (Q : am_Q) (G : Nat → am_K) : Prop := am_N G 0 (B_X9_saysPiece_0 kX9_piecesOf kX9_part kX9_state kX9_pushes Q G) ∧ am_N G 55 (B_X9_saysPiece_55 kX9_piecesOf kX9_part kX9_state kX9_pushes Q G)
def WP_X9_saysPiece (kX9_piecesOf : am_T) (kX9_part : am_T) (kX9_state : am_T) (kX9_pushes : am_T) : am_T := fun av h Q => (lg_sl av).length ≤ 7 ∧ ∀ G, cl_X9_saysPiece kX9_piecesOf kX9_part kX9_state kX9_pushes Q G → G 0 (am_ent 7 av) [] h
set_option maxHeartbeats 4000000 in
set_option maxRecDepth 100000 in
theorem s_X9_saysPiece {mX9_piecesOf : Room} {kX9_piecesOf : am_T} (h_X9_piecesOf : am_S false yX9_piecesOf (am_ws yX9_piecesOf cX9_piecesOf 10 none) mX9_piecesOf kX9_piecesOf) {mX9_part : Room} {kX9_part : am_T} (h_X9_part : am_S false yX9_part (am_ws yX9_part cX9_part 5 (some .int)) mX9_part kX9_part) {mX9_state : Room} {kX9_state : am_T} (h_X9_state : am_S false yX9_state (am_ws yX9_state cX9_state 5 (some .int)) mX9_state kX9_state) {mX9_pushes : Room} {kX9_pushes : am_T} (h_X9_pushes : am_S false yX9_pushes (am_ws yX9_pushes cX9_pushes 2 none) mX9_pushes kX9_pushes) {rm : Room} (hz : rm.cells = 0 ∧ rm.slots = 0) (R_X9_piecesOf : mX9_piecesOf.frames + 1 ≤ rm.frames ∧ 8 + (10 + 11) + mX9_piecesOf.locals ≤ rm.locals) (R_X9_part : mX9_part.frames + 1 ≤ rm.frames ∧ 8 + (5 + 11) + mX9_part.locals ≤ rm.locals) (R_X9_state : mX9_state.frames + 1 ≤ rm.frames ∧ 8 + (5 + 11) + mX9_state.locals ≤ rm.locals) (R_X9_pushes : mX9_pushes.frames + 1 ≤ rm.frames ∧ 8 + (2 + 11) + mX9_pushes.locals ≤ rm.locals) : am_S false yX9_saysPiece (am_ws yX9_saysPiece cX9_saysPiece 7 none) rm (WP_X9_saysPiece kX9_piecesOf kX9_part kX9_state kX9_pushes) := by
  refine am_S.of (fun _ => hz) (by decide +kernel) (fun h0 Q G => cl_X9_saysPiece kX9_piecesOf kX9_part kX9_state kX9_pushes Q G) ?_
  intro p l e s m args below meth c D h0 Q X hr hnm hQ
  refine ⟨?_, ?_⟩
  · unfold B_X9_saysPiece_0
    refine as_aload_n X (by decide +kernel : decode cX9_saysPiece 0 = .ok (.aload_n 0, 1)) rfl ?_
    refine as_iload_n X (by decide +kernel : decode cX9_saysPiece 1 = .ok (.iload_n 1, 1)) rfl ?_
    refine as_iload_n X (by decide +kernel : decode cX9_saysPiece 2 = .ok (.iload_n 2, 1)) rfl ?_
    refine as_iload_n X (by decide +kernel : decode cX9_saysPiece 3 = .ok (.iload_n 3, 1)) rfl ?_
    refine as_iload X (by decide +kernel : decode cX9_saysPiece 4 = .ok (.iload 4, 2)) ?_
    refine as_cv X h_X9_piecesOf rfl (by decide +kernel : decode cX9_saysPiece 6 = .ok (.invokevirtual 270, 3)) dn_X9_piecesOf ml_X9_270 im_X9_piecesOf se_X9_piecesOf ini_X9 co_X9_piecesOf R_X9_piecesOf ?_
    refine as_aload_n X (by decide +kernel : decode cX9_saysPiece 9 = .ok (.aload_n 0, 1)) rfl ?_
    refine as_get X fc_X9 (by decide +kernel : decode cX9_saysPiece 10 = .ok (.getfield 178, 3)) (by decide) fl_X9_178 ?_
    refine as_istore X (by decide +kernel : decode cX9_saysPiece 13 = .ok (.istore 5, 2)) ?_
    refine as_aload_n X (by decide +kernel : decode cX9_saysPiece 15 = .ok (.aload_n 0, 1)) rfl ?_
    refine as_iconst X (by decide +kernel : decode cX9_saysPiece 16 = .ok (.iconst 0, 1)) rfl ?_
    refine as_aload_n X (by decide +kernel : decode cX9_saysPiece 17 = .ok (.aload_n 0, 1)) rfl ?_
    refine as_get X fc_X9 (by decide +kernel : decode cX9_saysPiece 18 = .ok (.getfield 181, 3)) (by decide) fl_X9_181 ?_
    refine as_cv X h_X9_part rfl (by decide +kernel : decode cX9_saysPiece 21 = .ok (.invokevirtual 220, 3)) dn_X9_part ml_X9_220 im_X9_part se_X9_part ini_X9 co_X9_part R_X9_part ?_
    refine as_istore X (by decide +kernel : decode cX9_saysPiece 24 = .ok (.istore 6, 2)) ?_
    refine as_iload X (by decide +kernel : decode cX9_saysPiece 26 = .ok (.iload 5, 2)) ?_
    refine as_iload_n X (by decide +kernel : decode cX9_saysPiece 28 = .ok (.iload_n 2, 1)) rfl ?_
    refine as_ic_ge X (tgt := 55) (by decide +kernel : decode cX9_saysPiece 29 = .ok (.if_icmp .ge 26, 3)) (by decide) ?_ ?_
    · exact fun _ _ _ h => h
    · refine as_aload_n X (by decide +kernel : decode cX9_saysPiece 32 = .ok (.aload_n 0, 1)) rfl ?_
      refine as_iload X (by decide +kernel : decode cX9_saysPiece 33 = .ok (.iload 5, 2)) ?_
      refine as_iload_n X (by decide +kernel : decode cX9_saysPiece 35 = .ok (.iload_n 2, 1)) rfl ?_
      refine as_iload_n X (by decide +kernel : decode cX9_saysPiece 36 = .ok (.iload_n 3, 1)) rfl ?_
      refine as_iload X (by decide +kernel : decode cX9_saysPiece 37 = .ok (.iload 6, 2)) ?_
      refine as_isub X (by decide +kernel : decode cX9_saysPiece 39 = .ok (.isub, 1)) ?_
      refine as_iload X (by decide +kernel : decode cX9_saysPiece 40 = .ok (.iload 4, 2)) ?_
      refine as_iconst X (by decide +kernel : decode cX9_saysPiece 42 = .ok (.iconst 0, 1)) rfl ?_
      refine as_cs X h_X9_state (by decide +kernel : decode cX9_saysPiece 43 = .ok (.invokestatic 299, 3)) dn_X9_state ml_X9_299 st_X9_state ini_X9 co_X9_state R_X9_state ?_
      refine as_cv X h_X9_pushes rfl (by decide +kernel : decode cX9_saysPiece 46 = .ok (.invokevirtual 296, 3)) dn_X9_pushes ml_X9_296 im_X9_pushes se_X9_pushes ini_X9 co_X9_pushes R_X9_pushes ?_
      refine as_aload_n X (by decide +kernel : decode cX9_saysPiece 49 = .ok (.aload_n 0, 1)) rfl ?_
      refine as_bipush X (by decide +kernel : decode cX9_saysPiece 50 = .ok (.bipush 43, 2)) rfl ?_
      refine as_cv X h_X9_pushes rfl (by decide +kernel : decode cX9_saysPiece 52 = .ok (.invokevirtual 296, 3)) dn_X9_pushes ml_X9_296 im_X9_pushes se_X9_pushes ini_X9 co_X9_pushes R_X9_pushes ?_
      exact fun _ _ _ h => h
  · unfold B_X9_saysPiece_55
    refine as_aload_n X (by decide +kernel : decode cX9_saysPiece 55 = .ok (.aload_n 0, 1)) rfl ?_
    refine as_iload_n X (by decide +kernel : decode cX9_saysPiece 56 = .ok (.iload_n 1, 1)) rfl ?_
    refine as_iload X (by decide +kernel : decode cX9_saysPiece 57 = .ok (.iload 5, 2)) ?_
    refine as_iload X (by decide +kernel : decode cX9_saysPiece 59 = .ok (.iload 6, 2)) ?_
    refine as_iload X (by decide +kernel : decode cX9_saysPiece 61 = .ok (.iload 4, 2)) ?_
    refine as_iconst X (by decide +kernel : decode cX9_saysPiece 63 = .ok (.iconst 1, 1)) rfl ?_
    refine as_cs X h_X9_state (by decide +kernel : decode cX9_saysPiece 64 = .ok (.invokestatic 299, 3)) dn_X9_state ml_X9_299 st_X9_state ini_X9 co_X9_state R_X9_state ?_
    refine as_cv X h_X9_pushes rfl (by decide +kernel : decode cX9_saysPiece 67 = .ok (.invokevirtual 296, 3)) dn_X9_pushes ml_X9_296 im_X9_pushes se_X9_pushes ini_X9 co_X9_pushes R_X9_pushes ?_
    exact as_rv X hQ hr (by decide +kernel : decode cX9_saysPiece 70 = .ok (.return_, 1))

def B_X9_saysAll_0 (kX9_measures : am_T) (kX9_parsesOf : am_T) (kX9_says : am_T) (kX9_saysRow : am_T) (kX9_state : am_T) (kX9_pushes : am_T) (kX9_saysUnit : am_T) (kX9_saysPiece : am_T) (Q : am_Q) (G : Nat → am_K) : am_K := (ak_al 0 (ak_c (.int 0) (ak_cv 2 7 kX9_measures (ak_al 0 (ak_cv 1 7 kX9_parsesOf (ak_al 0 (ak_c (.int 0) (ak_puti 7 29 (ak_al 0 (ak_c (.int 0) (ak_puti 7 32 (ak_al 0 (ak_get 7 20 (ak_if (fun x => 0 ≤ x) (ak_al 0 (ak_al 0 (ak_get 7 21 (ak_if (fun x => x = 0) (ak_c (.int 60) (G 42)) (ak_c (.int 62) (G 42)))))) (ak_rv Q)))))))))))))))
def B_X9_saysAll_42 (kX9_measures : am_T) (kX9_parsesOf : am_T) (kX9_says : am_T) (kX9_saysRow : am_T) (kX9_state : am_T) (kX9_pushes : am_T) (kX9_saysUnit : am_T) (kX9_saysPiece : am_T) (Q : am_Q) (G : Nat → am_K) : am_K := (ak_cv 2 7 kX9_says (ak_al 0 (ak_al 0 (ak_get 7 11 (ak_al 0 (ak_get 7 21 (ak_if (fun x => x = 0) (ak_c (.int 0) (G 70)) (ak_c (.int 8) (ak_al 0 (ak_get 7 10 (ak_c (.int 1) (ak_ib (fun x y => x - y) (ak_ib (fun x y => x * y) (G 70))))))))))))))
def B_X9_saysAll_70 (kX9_measures : am_T) (kX9_parsesOf : am_T) (kX9_says : am_T) (kX9_saysRow : am_T) (kX9_state : am_T) (kX9_pushes : am_T) (kX9_saysUnit : am_T) (kX9_saysPiece : am_T) (Q : am_Q) (G : Nat → am_K) : am_K := (ak_cv 3 7 kX9_saysRow (ak_al 0 (ak_get 7 22 (ak_c (.int 1) (ak_ic (fun x y => x = y) (ak_al 0 (ak_c (.int 45) (ak_cv 2 7 kX9_says (G 87)))) (G 87))))))
def B_X9_saysAll_87 (kX9_measures : am_T) (kX9_parsesOf : am_T) (kX9_says : am_T) (kX9_saysRow : am_T) (kX9_state : am_T) (kX9_pushes : am_T) (kX9_saysUnit : am_T) (kX9_saysPiece : am_T) (Q : am_Q) (G : Nat → am_K) : am_K := (ak_al 0 (ak_c (.int 61) (ak_cv 2 7 kX9_says (ak_al 0 (ak_al 0 (ak_get 7 23 (ak_al 0 (ak_get 7 24 (ak_c (.int 1) (ak_al 0 (ak_get 7 12 (ak_c (.int 0) (ak_iald (ak_ib (fun x y => x <<< (y &&& 31)) (ak_c (.int 1) (ak_ib (fun x y => x - y) (ak_c (.int 0) (ak_c (.int 0) (ak_cs 5 kX9_state (ak_cv 2 7 kX9_pushes (G 120)))))))))))))))))))))
def B_X9_saysAll_120 (kX9_measures : am_T) (kX9_parsesOf : am_T) (kX9_says : am_T) (kX9_saysRow : am_T) (kX9_state : am_T) (kX9_pushes : am_T) (kX9_saysUnit : am_T) (kX9_saysPiece : am_T) (Q : am_Q) (G : Nat → am_K) : am_K := (ak_al 0 (ak_get 7 32 (ak_if (fun x => x ≤ 0) (ak_rv Q) (ak_al 0 (ak_dup (ak_get 7 32 (ak_c (.int 1) (ak_ib (fun x y => x - y) (ak_puti 7 32 (ak_al 0 (ak_get 7 31 (ak_al 0 (ak_get 7 32 (ak_iald (ak_is 1 (ak_il 1 (ak_c (.int 128) (ak_ic (fun x y => y ≤ x) (ak_il 1 (ak_c (.int 128) (ak_ib (fun x y => x - y) (ak_is 2 (ak_il 2 (ak_c (.int 2) (ak_id (fun x y => x - x / y * y) (ak_is 3 (ak_il 2 (ak_c (.int 2) (ak_id (fun x y => x / y) (ak_c (.int 256) (ak_id (fun x y => x - x / y * y) (ak_is 4 (ak_il 2 (ak_c (.int 512) (ak_id (fun x y => x / y) (ak_c (.int 8) (ak_id (fun x y => x - x / y * y) (ak_is 5 (ak_il 2 (ak_c (.int 4096) (ak_id (fun x y => x / y) (G 196)))))))))))))))))))))))) (ak_al 0 (ak_il 1 (ak_cv 2 7 kX9_says (G 235))))))))))))))))))))))
def B_X9_saysAll_196 (kX9_measures : am_T) (kX9_parsesOf : am_T) (kX9_says : am_T) (kX9_saysRow : am_T) (kX9_state : am_T) (kX9_pushes : am_T) (kX9_saysUnit : am_T) (kX9_saysPiece : am_T) (Q : am_Q) (G : Nat → am_K) : am_K := (ak_c (.int 8) (ak_id (fun x y => x - x / y * y) (ak_is 6 (ak_il 2 (ak_c (.int 32768) (ak_id (fun x y => x / y) (ak_c (.int 1) (ak_ic (fun x y => x = y) (ak_al 0 (ak_il 6 (ak_il 5 (ak_il 4 (ak_il 3 (ak_cv 5 7 kX9_saysUnit (G 235))))))) (ak_al 0 (ak_il 6 (ak_il 5 (ak_il 4 (ak_il 3 (ak_cv 5 7 kX9_saysPiece (G 235)))))))))))))))
def B_X9_saysAll_235 (kX9_measures : am_T) (kX9_parsesOf : am_T) (kX9_says : am_T) (kX9_saysRow : am_T) (kX9_state : am_T) (kX9_pushes : am_T) (kX9_saysUnit : am_T) (kX9_saysPiece : am_T) (Q : am_Q) (G : Nat → am_K) : am_K := (G 120)
def cl_X9_saysAll (kX9_measures : am_T) (kX9_parsesOf : am_T) (kX9_says : am_T) (kX9_saysRow : am_T) (kX9_state : am_T) (kX9_pushes : am_T) (kX9_saysUnit : am_T) (kX9_saysPiece : am_T) (Q : am_Q) (G : Nat → am_K) : Prop := am_N G 0 (B_X9_saysAll_0 kX9_measures kX9_parsesOf kX9_says kX9_saysRow kX9_state kX9_pushes kX9_saysUnit kX9_saysPiece Q G) ∧ am_N G 42 (B_X9_saysAll_42 kX9_measures kX9_parsesOf kX9_says kX9_saysRow kX9_state kX9_pushes kX9_saysUnit kX9_saysPiece Q G) ∧ am_N G 70 (B_X9_saysAll_70 kX9_measures kX9_parsesOf kX9_says kX9_saysRow kX9_state kX9_pushes kX9_saysUnit kX9_saysPiece Q G) ∧ am_N G 87 (B_X9_saysAll_87 kX9_measures kX9_parsesOf kX9_says kX9_saysRow kX9_state kX9_pushes kX9_saysUnit kX9_saysPiece Q G) ∧ am_N G 120 (B_X9_saysAll_120 kX9_measures kX9_parsesOf kX9_says kX9_saysRow kX9_state kX9_pushes kX9_saysUnit kX9_saysPiece Q G) ∧ am_N G 196 (B_X9_saysAll_196 kX9_measures kX9_parsesOf kX9_says kX9_saysRow kX9_state kX9_pushes kX9_saysUnit kX9_saysPiece Q G) ∧ am_N G 235 (B_X9_saysAll_235 kX9_measures kX9_parsesOf kX9_says kX9_saysRow kX9_state kX9_pushes kX9_saysUnit kX9_saysPiece Q G)
def WP_X9_saysAll (kX9_measures : am_T) (kX9_parsesOf : am_T) (kX9_says : am_T) (kX9_saysRow : am_T) (kX9_state : am_T) (kX9_pushes : am_T) (kX9_saysUnit : am_T) (kX9_saysPiece : am_T) : am_T := fun av h Q => (lg_sl av).length ≤ 7 ∧ ∀ G, cl_X9_saysAll kX9_measures kX9_parsesOf kX9_says kX9_saysRow kX9_state kX9_pushes kX9_saysUnit kX9_saysPiece Q G → G 0 (am_ent 7 av) [] h
set_option maxHeartbeats 4000000 in
set_option maxRecDepth 100000 in
theorem s_X9_saysAll {mX9_measures : Room} {kX9_measures : am_T} (h_X9_measures : am_S false yX9_measures (am_ws yX9_measures cX9_measures 11 none) mX9_measures kX9_measures) {mX9_parsesOf : Room} {kX9_parsesOf : am_T} (h_X9_parsesOf : am_S false yX9_parsesOf (am_ws yX9_parsesOf cX9_parsesOf 8 none) mX9_parsesOf kX9_parsesOf) {mX9_says : Room} {kX9_says : am_T} (h_X9_says : am_S false yX9_says (am_ws yX9_says cX9_says 2 none) mX9_says kX9_says) {mX9_saysRow : Room} {kX9_saysRow : am_T} (h_X9_saysRow : am_S false yX9_saysRow (am_ws yX9_saysRow cX9_saysRow 4 none) mX9_saysRow kX9_saysRow) {mX9_state : Room} {kX9_state : am_T} (h_X9_state : am_S false yX9_state (am_ws yX9_state cX9_state 5 (some .int)) mX9_state kX9_state) {mX9_pushes : Room} {kX9_pushes : am_T} (h_X9_pushes : am_S false yX9_pushes (am_ws yX9_pushes cX9_pushes 2 none) mX9_pushes kX9_pushes) {mX9_saysUnit : Room} {kX9_saysUnit : am_T} (h_X9_saysUnit : am_S false yX9_saysUnit (am_ws yX9_saysUnit cX9_saysUnit 7 none) mX9_saysUnit kX9_saysUnit) {mX9_saysPiece : Room} {kX9_saysPiece : am_T} (h_X9_saysPiece : am_S false yX9_saysPiece (am_ws yX9_saysPiece cX9_saysPiece 7 none) mX9_saysPiece kX9_saysPiece) {rm : Room} (hz : rm.cells = 0 ∧ rm.slots = 0) (R_X9_measures : mX9_measures.frames + 1 ≤ rm.frames ∧ 8 + (11 + 11) + mX9_measures.locals ≤ rm.locals) (R_X9_parsesOf : mX9_parsesOf.frames + 1 ≤ rm.frames ∧ 8 + (8 + 11) + mX9_parsesOf.locals ≤ rm.locals) (R_X9_says : mX9_says.frames + 1 ≤ rm.frames ∧ 8 + (2 + 11) + mX9_says.locals ≤ rm.locals) (R_X9_saysRow : mX9_saysRow.frames + 1 ≤ rm.frames ∧ 8 + (4 + 11) + mX9_saysRow.locals ≤ rm.locals) (R_X9_state : mX9_state.frames + 1 ≤ rm.frames ∧ 8 + (5 + 11) + mX9_state.locals ≤ rm.locals) (R_X9_pushes : mX9_pushes.frames + 1 ≤ rm.frames ∧ 8 + (2 + 11) + mX9_pushes.locals ≤ rm.locals) (R_X9_saysUnit : mX9_saysUnit.frames + 1 ≤ rm.frames ∧ 8 + (7 + 11) + mX9_saysUnit.locals ≤ rm.locals) (R_X9_saysPiece : mX9_saysPiece.frames + 1 ≤ rm.frames ∧ 8 + (7 + 11) + mX9_saysPiece.locals ≤ rm.locals) : am_S false yX9_saysAll (am_ws yX9_saysAll cX9_saysAll 7 none) rm (WP_X9_saysAll kX9_measures kX9_parsesOf kX9_says kX9_saysRow kX9_state kX9_pushes kX9_saysUnit kX9_saysPiece) := by
  refine am_S.of (fun _ => hz) (by decide +kernel) (fun h0 Q G => cl_X9_saysAll kX9_measures kX9_parsesOf kX9_says kX9_saysRow kX9_state kX9_pushes kX9_saysUnit kX9_saysPiece Q G) ?_
  intro p l e s m args below meth c D h0 Q X hr hnm hQ
  refine ⟨?_, ?_, ?_, ?_, ?_, ?_, ?_⟩
  · unfold B_X9_saysAll_0
    refine as_aload_n X (by decide +kernel : decode cX9_saysAll 0 = .ok (.aload_n 0, 1)) rfl ?_
    refine as_iconst X (by decide +kernel : decode cX9_saysAll 1 = .ok (.iconst 0, 1)) rfl ?_
    refine as_cv X h_X9_measures rfl (by decide +kernel : decode cX9_saysAll 2 = .ok (.invokevirtual 276, 3)) dn_X9_measures ml_X9_276 im_X9_measures se_X9_measures ini_X9 co_X9_measures R_X9_measures ?_
    refine as_aload_n X (by decide +kernel : decode cX9_saysAll 5 = .ok (.aload_n 0, 1)) rfl ?_
    refine as_cv X h_X9_parsesOf rfl (by decide +kernel : decode cX9_saysAll 6 = .ok (.invokevirtual 280, 3)) dn_X9_parsesOf ml_X9_280 im_X9_parsesOf se_X9_parsesOf ini_X9 co_X9_parsesOf R_X9_parsesOf ?_
    refine as_aload_n X (by decide +kernel : decode cX9_saysAll 9 = .ok (.aload_n 0, 1)) rfl ?_
    refine as_iconst X (by decide +kernel : decode cX9_saysAll 10 = .ok (.iconst 0, 1)) rfl ?_
    refine as_puti X fc_X9 (by decide +kernel : decode cX9_saysAll 11 = .ok (.putfield 283, 3)) (by decide) fl_X9_283 (Or.inl rfl) rfl ?_
    refine as_aload_n X (by decide +kernel : decode cX9_saysAll 14 = .ok (.aload_n 0, 1)) rfl ?_
    refine as_iconst X (by decide +kernel : decode cX9_saysAll 15 = .ok (.iconst 0, 1)) rfl ?_
    refine as_puti X fc_X9 (by decide +kernel : decode cX9_saysAll 16 = .ok (.putfield 289, 3)) (by decide) fl_X9_289 (Or.inl rfl) rfl ?_
    refine as_aload_n X (by decide +kernel : decode cX9_saysAll 19 = .ok (.aload_n 0, 1)) rfl ?_
    refine as_get X fc_X9 (by decide +kernel : decode cX9_saysAll 20 = .ok (.getfield 168, 3)) (by decide) fl_X9_168 ?_
    refine as_if_ge X (tgt := 27) (by decide +kernel : decode cX9_saysAll 23 = .ok (.ifCond .ge 4, 3)) (by decide) ?_ ?_
    · refine as_aload_n X (by decide +kernel : decode cX9_saysAll 27 = .ok (.aload_n 0, 1)) rfl ?_
      refine as_aload_n X (by decide +kernel : decode cX9_saysAll 28 = .ok (.aload_n 0, 1)) rfl ?_
      refine as_get X fc_X9 (by decide +kernel : decode cX9_saysAll 29 = .ok (.getfield 175, 3)) (by decide) fl_X9_175 ?_
      refine as_if_ne X (tgt := 40) (by decide +kernel : decode cX9_saysAll 32 = .ok (.ifCond .ne 8, 3)) (by decide) ?_ ?_
      · refine as_bipush X (by decide +kernel : decode cX9_saysAll 35 = .ok (.bipush 60, 2)) rfl ?_
        refine as_goto X (tgt := 42) (by decide +kernel : decode cX9_saysAll 37 = .ok (.goto 5, 3)) (by decide) ?_
        exact fun _ _ _ h => h
      · refine as_bipush X (by decide +kernel : decode cX9_saysAll 40 = .ok (.bipush 62, 2)) rfl ?_
        exact fun _ _ _ h => h
    · exact as_rv X hQ hr (by decide +kernel : decode cX9_saysAll 26 = .ok (.return_, 1))
  · unfold B_X9_saysAll_42
    refine as_cv X h_X9_says rfl (by decide +kernel : decode cX9_saysAll 42 = .ok (.invokevirtual 286, 3)) dn_X9_says ml_X9_286 im_X9_says se_X9_says ini_X9 co_X9_says R_X9_says ?_
    refine as_aload_n X (by decide +kernel : decode cX9_saysAll 45 = .ok (.aload_n 0, 1)) rfl ?_
    refine as_aload_n X (by decide +kernel : decode cX9_saysAll 46 = .ok (.aload_n 0, 1)) rfl ?_
    refine as_get X fc_X9 (by decide +kernel : decode cX9_saysAll 47 = .ok (.getfield 31, 3)) (by decide) fl_X9_31 ?_
    refine as_aload_n X (by decide +kernel : decode cX9_saysAll 50 = .ok (.aload_n 0, 1)) rfl ?_
    refine as_get X fc_X9 (by decide +kernel : decode cX9_saysAll 51 = .ok (.getfield 175, 3)) (by decide) fl_X9_175 ?_
    refine as_if_ne X (tgt := 61) (by decide +kernel : decode cX9_saysAll 54 = .ok (.ifCond .ne 7, 3)) (by decide) ?_ ?_
    · refine as_iconst X (by decide +kernel : decode cX9_saysAll 57 = .ok (.iconst 0, 1)) rfl ?_
      refine as_goto X (tgt := 70) (by decide +kernel : decode cX9_saysAll 58 = .ok (.goto 12, 3)) (by decide) ?_
      exact fun _ _ _ h => h
    · refine as_bipush X (by decide +kernel : decode cX9_saysAll 61 = .ok (.bipush 8, 2)) rfl ?_
      refine as_aload_n X (by decide +kernel : decode cX9_saysAll 63 = .ok (.aload_n 0, 1)) rfl ?_
      refine as_get X fc_X9 (by decide +kernel : decode cX9_saysAll 64 = .ok (.getfield 142, 3)) (by decide) fl_X9_142 ?_
      refine as_iconst X (by decide +kernel : decode cX9_saysAll 67 = .ok (.iconst 1, 1)) rfl ?_
      refine as_isub X (by decide +kernel : decode cX9_saysAll 68 = .ok (.isub, 1)) ?_
      refine as_imul X (by decide +kernel : decode cX9_saysAll 69 = .ok (.imul, 1)) ?_
      exact fun _ _ _ h => h
  · unfold B_X9_saysAll_70
    refine as_cv X h_X9_saysRow rfl (by decide +kernel : decode cX9_saysAll 70 = .ok (.invokevirtual 292, 3)) dn_X9_saysRow ml_X9_292 im_X9_saysRow se_X9_saysRow ini_X9 co_X9_saysRow R_X9_saysRow ?_
    refine as_aload_n X (by decide +kernel : decode cX9_saysAll 73 = .ok (.aload_n 0, 1)) rfl ?_
    refine as_get X fc_X9 (by decide +kernel : decode cX9_saysAll 74 = .ok (.getfield 178, 3)) (by decide) fl_X9_178 ?_
    refine as_iconst X (by decide +kernel : decode cX9_saysAll 77 = .ok (.iconst 1, 1)) rfl ?_
    refine as_ic_ne X (tgt := 87) (by decide +kernel : decode cX9_saysAll 78 = .ok (.if_icmp .ne 9, 3)) (by decide) ?_ ?_
    · refine as_aload_n X (by decide +kernel : decode cX9_saysAll 81 = .ok (.aload_n 0, 1)) rfl ?_
      refine as_bipush X (by decide +kernel : decode cX9_saysAll 82 = .ok (.bipush 45, 2)) rfl ?_
      refine as_cv X h_X9_says rfl (by decide +kernel : decode cX9_saysAll 84 = .ok (.invokevirtual 286, 3)) dn_X9_says ml_X9_286 im_X9_says se_X9_says ini_X9 co_X9_says R_X9_says ?_
      exact fun _ _ _ h => h
    · exact fun _ _ _ h => h
  · unfold B_X9_saysAll_87
    refine as_aload_n X (by decide +kernel : decode cX9_saysAll 87 = .ok (.aload_n 0, 1)) rfl ?_
    refine as_bipush X (by decide +kernel : decode cX9_saysAll 88 = .ok (.bipush 61, 2)) rfl ?_
    refine as_cv X h_X9_says rfl (by decide +kernel : decode cX9_saysAll 90 = .ok (.invokevirtual 286, 3)) dn_X9_says ml_X9_286 im_X9_says se_X9_says ini_X9 co_X9_says R_X9_says ?_
    refine as_aload_n X (by decide +kernel : decode cX9_saysAll 93 = .ok (.aload_n 0, 1)) rfl ?_
    refine as_aload_n X (by decide +kernel : decode cX9_saysAll 94 = .ok (.aload_n 0, 1)) rfl ?_
    refine as_get X fc_X9 (by decide +kernel : decode cX9_saysAll 95 = .ok (.getfield 181, 3)) (by decide) fl_X9_181 ?_
    refine as_aload_n X (by decide +kernel : decode cX9_saysAll 98 = .ok (.aload_n 0, 1)) rfl ?_
    refine as_get X fc_X9 (by decide +kernel : decode cX9_saysAll 99 = .ok (.getfield 184, 3)) (by decide) fl_X9_184 ?_
    refine as_iconst X (by decide +kernel : decode cX9_saysAll 102 = .ok (.iconst 1, 1)) rfl ?_
    refine as_aload_n X (by decide +kernel : decode cX9_saysAll 103 = .ok (.aload_n 0, 1)) rfl ?_
    refine as_get X fc_X9 (by decide +kernel : decode cX9_saysAll 104 = .ok (.getfield 34, 3)) (by decide) fl_X9_34 ?_
    refine as_iconst X (by decide +kernel : decode cX9_saysAll 107 = .ok (.iconst 0, 1)) rfl ?_
    refine as_iaload X (by decide +kernel : decode cX9_saysAll 108 = .ok (.iaload, 1)) ?_
    refine as_ishl X (by decide +kernel : decode cX9_saysAll 109 = .ok (.ishl, 1)) ?_
    refine as_iconst X (by decide +kernel : decode cX9_saysAll 110 = .ok (.iconst 1, 1)) rfl ?_
    refine as_isub X (by decide +kernel : decode cX9_saysAll 111 = .ok (.isub, 1)) ?_
    refine as_iconst X (by decide +kernel : decode cX9_saysAll 112 = .ok (.iconst 0, 1)) rfl ?_
    refine as_iconst X (by decide +kernel : decode cX9_saysAll 113 = .ok (.iconst 0, 1)) rfl ?_
    refine as_cs X h_X9_state (by decide +kernel : decode cX9_saysAll 114 = .ok (.invokestatic 299, 3)) dn_X9_state ml_X9_299 st_X9_state ini_X9 co_X9_state R_X9_state ?_
    refine as_cv X h_X9_pushes rfl (by decide +kernel : decode cX9_saysAll 117 = .ok (.invokevirtual 296, 3)) dn_X9_pushes ml_X9_296 im_X9_pushes se_X9_pushes ini_X9 co_X9_pushes R_X9_pushes ?_
    exact fun _ _ _ h => h
  · unfold B_X9_saysAll_120
    refine as_aload_n X (by decide +kernel : decode cX9_saysAll 120 = .ok (.aload_n 0, 1)) rfl ?_
    refine as_get X fc_X9 (by decide +kernel : decode cX9_saysAll 121 = .ok (.getfield 289, 3)) (by decide) fl_X9_289 ?_
    refine as_if_le X (tgt := 238) (by decide +kernel : decode cX9_saysAll 124 = .ok (.ifCond .le 114, 3)) (by decide) ?_ ?_
    · exact as_rv X hQ hr (by decide +kernel : decode cX9_saysAll 238 = .ok (.return_, 1))
    · refine as_aload_n X (by decide +kernel : decode cX9_saysAll 127 = .ok (.aload_n 0, 1)) rfl ?_
      refine as_dup X (by decide +kernel : decode cX9_saysAll 128 = .ok (.dup, 1)) ?_
      refine as_get X fc_X9 (by decide +kernel : decode cX9_saysAll 129 = .ok (.getfield 289, 3)) (by decide) fl_X9_289 ?_
      refine as_iconst X (by decide +kernel : decode cX9_saysAll 132 = .ok (.iconst 1, 1)) rfl ?_
      refine as_isub X (by decide +kernel : decode cX9_saysAll 133 = .ok (.isub, 1)) ?_
      refine as_puti X fc_X9 (by decide +kernel : decode cX9_saysAll 134 = .ok (.putfield 289, 3)) (by decide) fl_X9_289 (Or.inl rfl) rfl ?_
      refine as_aload_n X (by decide +kernel : decode cX9_saysAll 137 = .ok (.aload_n 0, 1)) rfl ?_
      refine as_get X fc_X9 (by decide +kernel : decode cX9_saysAll 138 = .ok (.getfield 60, 3)) (by decide) fl_X9_60 ?_
      refine as_aload_n X (by decide +kernel : decode cX9_saysAll 141 = .ok (.aload_n 0, 1)) rfl ?_
      refine as_get X fc_X9 (by decide +kernel : decode cX9_saysAll 142 = .ok (.getfield 289, 3)) (by decide) fl_X9_289 ?_
      refine as_iaload X (by decide +kernel : decode cX9_saysAll 145 = .ok (.iaload, 1)) ?_
      refine as_istore_n X (by decide +kernel : decode cX9_saysAll 146 = .ok (.istore_n 1, 1)) rfl ?_
      refine as_iload_n X (by decide +kernel : decode cX9_saysAll 147 = .ok (.iload_n 1, 1)) rfl ?_
      refine as_sipush X (by decide +kernel : decode cX9_saysAll 148 = .ok (.sipush 128, 3)) rfl ?_
      refine as_ic_ge X (tgt := 162) (by decide +kernel : decode cX9_saysAll 151 = .ok (.if_icmp .ge 11, 3)) (by decide) ?_ ?_
      · refine as_iload_n X (by decide +kernel : decode cX9_saysAll 162 = .ok (.iload_n 1, 1)) rfl ?_
        refine as_sipush X (by decide +kernel : decode cX9_saysAll 163 = .ok (.sipush 128, 3)) rfl ?_
        refine as_isub X (by decide +kernel : decode cX9_saysAll 166 = .ok (.isub, 1)) ?_
        refine as_istore_n X (by decide +kernel : decode cX9_saysAll 167 = .ok (.istore_n 2, 1)) rfl ?_
        refine as_iload_n X (by decide +kernel : decode cX9_saysAll 168 = .ok (.iload_n 2, 1)) rfl ?_
        refine as_iconst X (by decide +kernel : decode cX9_saysAll 169 = .ok (.iconst 2, 1)) rfl ?_
        refine as_irem X (by decide +kernel : decode cX9_saysAll 170 = .ok (.irem, 1)) ?_
        refine as_istore_n X (by decide +kernel : decode cX9_saysAll 171 = .ok (.istore_n 3, 1)) rfl ?_
        refine as_iload_n X (by decide +kernel : decode cX9_saysAll 172 = .ok (.iload_n 2, 1)) rfl ?_
        refine as_iconst X (by decide +kernel : decode cX9_saysAll 173 = .ok (.iconst 2, 1)) rfl ?_
        refine as_idiv X (by decide +kernel : decode cX9_saysAll 174 = .ok (.idiv, 1)) ?_
        refine as_sipush X (by decide +kernel : decode cX9_saysAll 175 = .ok (.sipush 256, 3)) rfl ?_
        refine as_irem X (by decide +kernel : decode cX9_saysAll 178 = .ok (.irem, 1)) ?_
        refine as_istore X (by decide +kernel : decode cX9_saysAll 179 = .ok (.istore 4, 2)) ?_
        refine as_iload_n X (by decide +kernel : decode cX9_saysAll 181 = .ok (.iload_n 2, 1)) rfl ?_
        refine as_sipush X (by decide +kernel : decode cX9_saysAll 182 = .ok (.sipush 512, 3)) rfl ?_
        refine as_idiv X (by decide +kernel : decode cX9_saysAll 185 = .ok (.idiv, 1)) ?_
        refine as_bipush X (by decide +kernel : decode cX9_saysAll 186 = .ok (.bipush 8, 2)) rfl ?_
        refine as_irem X (by decide +kernel : decode cX9_saysAll 188 = .ok (.irem, 1)) ?_
        refine as_istore X (by decide +kernel : decode cX9_saysAll 189 = .ok (.istore 5, 2)) ?_
        refine as_iload_n X (by decide +kernel : decode cX9_saysAll 191 = .ok (.iload_n 2, 1)) rfl ?_
        refine as_sipush X (by decide +kernel : decode cX9_saysAll 192 = .ok (.sipush 4096, 3)) rfl ?_
        refine as_idiv X (by decide +kernel : decode cX9_saysAll 195 = .ok (.idiv, 1)) ?_
        exact fun _ _ _ h => h
      · refine as_aload_n X (by decide +kernel : decode cX9_saysAll 154 = .ok (.aload_n 0, 1)) rfl ?_
        refine as_iload_n X (by decide +kernel : decode cX9_saysAll 155 = .ok (.iload_n 1, 1)) rfl ?_
        refine as_cv X h_X9_says rfl (by decide +kernel : decode cX9_saysAll 156 = .ok (.invokevirtual 286, 3)) dn_X9_says ml_X9_286 im_X9_says se_X9_says ini_X9 co_X9_says R_X9_says ?_
        refine as_goto X (tgt := 235) (by decide +kernel : decode cX9_saysAll 159 = .ok (.goto 76, 3)) (by decide) ?_
        exact fun _ _ _ h => h
  · unfold B_X9_saysAll_196
    refine as_bipush X (by decide +kernel : decode cX9_saysAll 196 = .ok (.bipush 8, 2)) rfl ?_
    refine as_irem X (by decide +kernel : decode cX9_saysAll 198 = .ok (.irem, 1)) ?_
    refine as_istore X (by decide +kernel : decode cX9_saysAll 199 = .ok (.istore 6, 2)) ?_
    refine as_iload_n X (by decide +kernel : decode cX9_saysAll 201 = .ok (.iload_n 2, 1)) rfl ?_
    refine as_ldcw X (by decide +kernel : decode cX9_saysAll 202 = .ok (.ldc_w 306, 3)) kc_X9_306 ?_
    refine as_idiv X (by decide +kernel : decode cX9_saysAll 205 = .ok (.idiv, 1)) ?_
    refine as_iconst X (by decide +kernel : decode cX9_saysAll 206 = .ok (.iconst 1, 1)) rfl ?_
    refine as_ic_ne X (tgt := 224) (by decide +kernel : decode cX9_saysAll 207 = .ok (.if_icmp .ne 17, 3)) (by decide) ?_ ?_
    · refine as_aload_n X (by decide +kernel : decode cX9_saysAll 210 = .ok (.aload_n 0, 1)) rfl ?_
      refine as_iload X (by decide +kernel : decode cX9_saysAll 211 = .ok (.iload 6, 2)) ?_
      refine as_iload X (by decide +kernel : decode cX9_saysAll 213 = .ok (.iload 5, 2)) ?_
      refine as_iload X (by decide +kernel : decode cX9_saysAll 215 = .ok (.iload 4, 2)) ?_
      refine as_iload_n X (by decide +kernel : decode cX9_saysAll 217 = .ok (.iload_n 3, 1)) rfl ?_
      refine as_cv X h_X9_saysUnit rfl (by decide +kernel : decode cX9_saysAll 218 = .ok (.invokevirtual 307, 3)) dn_X9_saysUnit ml_X9_307 im_X9_saysUnit se_X9_saysUnit ini_X9 co_X9_saysUnit R_X9_saysUnit ?_
      refine as_goto X (tgt := 235) (by decide +kernel : decode cX9_saysAll 221 = .ok (.goto 14, 3)) (by decide) ?_
      exact fun _ _ _ h => h
    · refine as_aload_n X (by decide +kernel : decode cX9_saysAll 224 = .ok (.aload_n 0, 1)) rfl ?_
      refine as_iload X (by decide +kernel : decode cX9_saysAll 225 = .ok (.iload 6, 2)) ?_
      refine as_iload X (by decide +kernel : decode cX9_saysAll 227 = .ok (.iload 5, 2)) ?_
      refine as_iload X (by decide +kernel : decode cX9_saysAll 229 = .ok (.iload 4, 2)) ?_
      refine as_iload_n X (by decide +kernel : decode cX9_saysAll 231 = .ok (.iload_n 3, 1)) rfl ?_
      refine as_cv X h_X9_saysPiece rfl (by decide +kernel : decode cX9_saysAll 232 = .ok (.invokevirtual 310, 3)) dn_X9_saysPiece ml_X9_310 im_X9_saysPiece se_X9_saysPiece ini_X9 co_X9_saysPiece R_X9_saysPiece ?_
      exact fun _ _ _ h => h
  · unfold B_X9_saysAll_235
    refine as_goto X (tgt := 120) (by decide +kernel : decode cX9_saysAll 235 = .ok (.goto (-115), 3)) (by decide) ?_
    exact fun _ _ _ h => h

def B_X9_first_0 (kX9_saysAll : am_T) (Q : am_Q) (G : Nat → am_K) : am_K := (ak_il 1 (ak_c (.int (-1)) (ak_ic (fun x y => y ≤ x) (ak_al 0 (ak_cv 1 7 kX9_saysAll (ak_al 0 (ak_get 7 29 (ak_if (fun x => x = 0) (ak_c (.int (-4)) (G 53)) (ak_il 1 (ak_if (fun x => 0 ≤ x) (ak_il 1 (ak_al 0 (ak_get 7 29 (ak_ic (fun x y => y ≤ x) (ak_c (.int (-4)) (G 53)) (ak_al 0 (ak_get 7 30 (ak_il 1 (ak_iald (G 53))))))))) (ak_al 0 (ak_get 7 29 (G 53)))))))))) (ak_c (.int (-1)) (ak_ri Q)))))
def B_X9_first_53 (kX9_saysAll : am_T) (Q : am_Q) (G : Nat → am_K) : am_K := (ak_ri Q)
def cl_X9_first (kX9_saysAll : am_T) (Q : am_Q) (G : Nat → am_K) : Prop := am_N G 0 (B_X9_first_0 kX9_saysAll Q G) ∧ am_N G 53 (B_X9_first_53 kX9_saysAll Q G)
def WP_X9_first (kX9_saysAll : am_T) : am_T := fun av h Q => (lg_sl av).length ≤ 2 ∧ ∀ G, cl_X9_first kX9_saysAll Q G → G 0 (am_ent 2 av) [] h
set_option maxHeartbeats 4000000 in
set_option maxRecDepth 100000 in
theorem s_X9_first {mX9_saysAll : Room} {kX9_saysAll : am_T} (h_X9_saysAll : am_S false yX9_saysAll (am_ws yX9_saysAll cX9_saysAll 7 none) mX9_saysAll kX9_saysAll) {rm : Room} (hz : rm.cells = 0 ∧ rm.slots = 0) (R_X9_saysAll : mX9_saysAll.frames + 1 ≤ rm.frames ∧ 8 + (7 + 11) + mX9_saysAll.locals ≤ rm.locals) : am_S false yX9_first (am_ws yX9_first cX9_first 2 (some .int)) rm (WP_X9_first kX9_saysAll) := by
  refine am_S.of (fun _ => hz) (by decide +kernel) (fun h0 Q G => cl_X9_first kX9_saysAll Q G) ?_
  intro p l e s m args below meth c D h0 Q X hr hnm hQ
  refine ⟨?_, ?_⟩
  · unfold B_X9_first_0
    refine as_iload_n X (by decide +kernel : decode cX9_first 0 = .ok (.iload_n 1, 1)) rfl ?_
    refine as_iconst X (by decide +kernel : decode cX9_first 1 = .ok (.iconst (-1), 1)) rfl ?_
    refine as_ic_ge X (tgt := 7) (by decide +kernel : decode cX9_first 2 = .ok (.if_icmp .ge 5, 3)) (by decide) ?_ ?_
    · refine as_aload_n X (by decide +kernel : decode cX9_first 7 = .ok (.aload_n 0, 1)) rfl ?_
      refine as_cv X h_X9_saysAll rfl (by decide +kernel : decode cX9_first 8 = .ok (.invokevirtual 313, 3)) dn_X9_saysAll ml_X9_313 im_X9_saysAll se_X9_saysAll ini_X9 co_X9_saysAll R_X9_saysAll ?_
      refine as_aload_n X (by decide +kernel : decode cX9_first 11 = .ok (.aload_n 0, 1)) rfl ?_
      refine as_get X fc_X9 (by decide +kernel : decode cX9_first 12 = .ok (.getfield 283, 3)) (by decide) fl_X9_283 ?_
      refine as_if_ne X (tgt := 23) (by decide +kernel : decode cX9_first 15 = .ok (.ifCond .ne 8, 3)) (by decide) ?_ ?_
      · refine as_bipush X (by decide +kernel : decode cX9_first 18 = .ok (.bipush (-4), 2)) rfl ?_
        refine as_goto X (tgt := 53) (by decide +kernel : decode cX9_first 20 = .ok (.goto 33, 3)) (by decide) ?_
        exact fun _ _ _ h => h
      · refine as_iload_n X (by decide +kernel : decode cX9_first 23 = .ok (.iload_n 1, 1)) rfl ?_
        refine as_if_ge X (tgt := 34) (by decide +kernel : decode cX9_first 24 = .ok (.ifCond .ge 10, 3)) (by decide) ?_ ?_
        · refine as_iload_n X (by decide +kernel : decode cX9_first 34 = .ok (.iload_n 1, 1)) rfl ?_
          refine as_aload_n X (by decide +kernel : decode cX9_first 35 = .ok (.aload_n 0, 1)) rfl ?_
          refine as_get X fc_X9 (by decide +kernel : decode cX9_first 36 = .ok (.getfield 283, 3)) (by decide) fl_X9_283 ?_
          refine as_ic_ge X (tgt := 51) (by decide +kernel : decode cX9_first 39 = .ok (.if_icmp .ge 12, 3)) (by decide) ?_ ?_
          · refine as_bipush X (by decide +kernel : decode cX9_first 51 = .ok (.bipush (-4), 2)) rfl ?_
            exact fun _ _ _ h => h
          · refine as_aload_n X (by decide +kernel : decode cX9_first 42 = .ok (.aload_n 0, 1)) rfl ?_
            refine as_get X fc_X9 (by decide +kernel : decode cX9_first 43 = .ok (.getfield 57, 3)) (by decide) fl_X9_57 ?_
            refine as_iload_n X (by decide +kernel : decode cX9_first 46 = .ok (.iload_n 1, 1)) rfl ?_
            refine as_iaload X (by decide +kernel : decode cX9_first 47 = .ok (.iaload, 1)) ?_
            refine as_goto X (tgt := 53) (by decide +kernel : decode cX9_first 48 = .ok (.goto 5, 3)) (by decide) ?_
            exact fun _ _ _ h => h
        · refine as_aload_n X (by decide +kernel : decode cX9_first 27 = .ok (.aload_n 0, 1)) rfl ?_
          refine as_get X fc_X9 (by decide +kernel : decode cX9_first 28 = .ok (.getfield 283, 3)) (by decide) fl_X9_283 ?_
          refine as_goto X (tgt := 53) (by decide +kernel : decode cX9_first 31 = .ok (.goto 22, 3)) (by decide) ?_
          exact fun _ _ _ h => h
    · refine as_iconst X (by decide +kernel : decode cX9_first 5 = .ok (.iconst (-1), 1)) rfl ?_
      exact as_ri X hQ hr (by decide +kernel : decode cX9_first 6 = .ok (.ireturn, 1))
  · unfold B_X9_first_53
    exact as_ri X hQ hr (by decide +kernel : decode cX9_first 53 = .ok (.ireturn, 1))

def B_X9_isPart_0 (kX9_isWord : am_T) (kX9_isIn : am_T) (Q : am_Q) (G : Nat → am_K) : am_K := (ak_al 0 (ak_il 1 (ak_cv 2 7 kX9_isWord (ak_if (fun x => x = 0) (G 59) (ak_il 2 (ak_il 1 (ak_c (.int 1) (ak_ib (fun x y => x + y) (ak_al 0 (ak_get 7 10 (ak_cs 3 kX9_isIn (ak_if (fun x => x = 0) (G 59) (ak_il 3 (ak_c (.int 0) (ak_al 0 (ak_get 7 12 (ak_c (.int 0) (ak_iald (ak_c (.int 1) (ak_ib (fun x y => x - y) (ak_cs 3 kX9_isIn (ak_if (fun x => x = 0) (G 59) (ak_il 4 (ak_il 3 (ak_c (.int 1) (ak_ib (fun x y => x + y) (ak_al 0 (ak_get 7 12 (ak_c (.int 0) (ak_iald (ak_cs 3 kX9_isIn (ak_if (fun x => x = 0) (G 59) (ak_c (.int 1) (G 60))))))))))))))))))))))))))))))))))
def B_X9_isPart_59 (kX9_isWord : am_T) (kX9_isIn : am_T) (Q : am_Q) (G : Nat → am_K) : am_K := (ak_c (.int 0) (G 60))
def B_X9_isPart_60 (kX9_isWord : am_T) (kX9_isIn : am_T) (Q : am_Q) (G : Nat → am_K) : am_K := (ak_rz Q)
def cl_X9_isPart (kX9_isWord : am_T) (kX9_isIn : am_T) (Q : am_Q) (G : Nat → am_K) : Prop := am_N G 0 (B_X9_isPart_0 kX9_isWord kX9_isIn Q G) ∧ am_N G 59 (B_X9_isPart_59 kX9_isWord kX9_isIn Q G) ∧ am_N G 60 (B_X9_isPart_60 kX9_isWord kX9_isIn Q G)
def WP_X9_isPart (kX9_isWord : am_T) (kX9_isIn : am_T) : am_T := fun av h Q => (lg_sl av).length ≤ 5 ∧ ∀ G, cl_X9_isPart kX9_isWord kX9_isIn Q G → G 0 (am_ent 5 av) [] h
set_option maxHeartbeats 4000000 in
set_option maxRecDepth 100000 in
theorem s_X9_isPart {mX9_isWord : Room} {kX9_isWord : am_T} (h_X9_isWord : am_S false yX9_isWord (am_ws yX9_isWord cX9_isWord 2 (some .boolean)) mX9_isWord kX9_isWord) {mX9_isIn : Room} {kX9_isIn : am_T} (h_X9_isIn : am_S false yX9_isIn (am_ws yX9_isIn cX9_isIn 3 (some .boolean)) mX9_isIn kX9_isIn) {rm : Room} (hz : rm.cells = 0 ∧ rm.slots = 0) (R_X9_isWord : mX9_isWord.frames + 1 ≤ rm.frames ∧ 8 + (2 + 11) + mX9_isWord.locals ≤ rm.locals) (R_X9_isIn : mX9_isIn.frames + 1 ≤ rm.frames ∧ 8 + (3 + 11) + mX9_isIn.locals ≤ rm.locals) : am_S false yX9_isPart (am_ws yX9_isPart cX9_isPart 5 (some .boolean)) rm (WP_X9_isPart kX9_isWord kX9_isIn) := by
  refine am_S.of (fun _ => hz) (by decide +kernel) (fun h0 Q G => cl_X9_isPart kX9_isWord kX9_isIn Q G) ?_
  intro p l e s m args below meth c D h0 Q X hr hnm hQ
  refine ⟨?_, ?_, ?_⟩
  · unfold B_X9_isPart_0
    refine as_aload_n X (by decide +kernel : decode cX9_isPart 0 = .ok (.aload_n 0, 1)) rfl ?_
    refine as_iload_n X (by decide +kernel : decode cX9_isPart 1 = .ok (.iload_n 1, 1)) rfl ?_
    refine as_cv X h_X9_isWord rfl (by decide +kernel : decode cX9_isPart 2 = .ok (.invokevirtual 148, 3)) dn_X9_isWord ml_X9_148 im_X9_isWord se_X9_isWord ini_X9 co_X9_isWord R_X9_isWord ?_
    refine as_if_eq X (tgt := 59) (by decide +kernel : decode cX9_isPart 5 = .ok (.ifCond .eq 54, 3)) (by decide) ?_ ?_
    · exact fun _ _ _ h => h
    · refine as_iload_n X (by decide +kernel : decode cX9_isPart 8 = .ok (.iload_n 2, 1)) rfl ?_
      refine as_iload_n X (by decide +kernel : decode cX9_isPart 9 = .ok (.iload_n 1, 1)) rfl ?_
      refine as_iconst X (by decide +kernel : decode cX9_isPart 10 = .ok (.iconst 1, 1)) rfl ?_
      refine as_iadd X (by decide +kernel : decode cX9_isPart 11 = .ok (.iadd, 1)) ?_
      refine as_aload_n X (by decide +kernel : decode cX9_isPart 12 = .ok (.aload_n 0, 1)) rfl ?_
      refine as_get X fc_X9 (by decide +kernel : decode cX9_isPart 13 = .ok (.getfield 142, 3)) (by decide) fl_X9_142 ?_
      refine as_cs X h_X9_isIn (by decide +kernel : decode cX9_isPart 16 = .ok (.invokestatic 135, 3)) dn_X9_isIn ml_X9_135 st_X9_isIn ini_X9 co_X9_isIn R_X9_isIn ?_
      refine as_if_eq X (tgt := 59) (by decide +kernel : decode cX9_isPart 19 = .ok (.ifCond .eq 40, 3)) (by decide) ?_ ?_
      · exact fun _ _ _ h => h
      · refine as_iload_n X (by decide +kernel : decode cX9_isPart 22 = .ok (.iload_n 3, 1)) rfl ?_
        refine as_iconst X (by decide +kernel : decode cX9_isPart 23 = .ok (.iconst 0, 1)) rfl ?_
        refine as_aload_n X (by decide +kernel : decode cX9_isPart 24 = .ok (.aload_n 0, 1)) rfl ?_
        refine as_get X fc_X9 (by decide +kernel : decode cX9_isPart 25 = .ok (.getfield 34, 3)) (by decide) fl_X9_34 ?_
        refine as_iconst X (by decide +kernel : decode cX9_isPart 28 = .ok (.iconst 0, 1)) rfl ?_
        refine as_iaload X (by decide +kernel : decode cX9_isPart 29 = .ok (.iaload, 1)) ?_
        refine as_iconst X (by decide +kernel : decode cX9_isPart 30 = .ok (.iconst 1, 1)) rfl ?_
        refine as_isub X (by decide +kernel : decode cX9_isPart 31 = .ok (.isub, 1)) ?_
        refine as_cs X h_X9_isIn (by decide +kernel : decode cX9_isPart 32 = .ok (.invokestatic 135, 3)) dn_X9_isIn ml_X9_135 st_X9_isIn ini_X9 co_X9_isIn R_X9_isIn ?_
        refine as_if_eq X (tgt := 59) (by decide +kernel : decode cX9_isPart 35 = .ok (.ifCond .eq 24, 3)) (by decide) ?_ ?_
        · exact fun _ _ _ h => h
        · refine as_iload X (by decide +kernel : decode cX9_isPart 38 = .ok (.iload 4, 2)) ?_
          refine as_iload_n X (by decide +kernel : decode cX9_isPart 40 = .ok (.iload_n 3, 1)) rfl ?_
          refine as_iconst X (by decide +kernel : decode cX9_isPart 41 = .ok (.iconst 1, 1)) rfl ?_
          refine as_iadd X (by decide +kernel : decode cX9_isPart 42 = .ok (.iadd, 1)) ?_
          refine as_aload_n X (by decide +kernel : decode cX9_isPart 43 = .ok (.aload_n 0, 1)) rfl ?_
          refine as_get X fc_X9 (by decide +kernel : decode cX9_isPart 44 = .ok (.getfield 34, 3)) (by decide) fl_X9_34 ?_
          refine as_iconst X (by decide +kernel : decode cX9_isPart 47 = .ok (.iconst 0, 1)) rfl ?_
          refine as_iaload X (by decide +kernel : decode cX9_isPart 48 = .ok (.iaload, 1)) ?_
          refine as_cs X h_X9_isIn (by decide +kernel : decode cX9_isPart 49 = .ok (.invokestatic 135, 3)) dn_X9_isIn ml_X9_135 st_X9_isIn ini_X9 co_X9_isIn R_X9_isIn ?_
          refine as_if_eq X (tgt := 59) (by decide +kernel : decode cX9_isPart 52 = .ok (.ifCond .eq 7, 3)) (by decide) ?_ ?_
          · exact fun _ _ _ h => h
          · refine as_iconst X (by decide +kernel : decode cX9_isPart 55 = .ok (.iconst 1, 1)) rfl ?_
            refine as_goto X (tgt := 60) (by decide +kernel : decode cX9_isPart 56 = .ok (.goto 4, 3)) (by decide) ?_
            exact fun _ _ _ h => h
  · unfold B_X9_isPart_59
    refine as_iconst X (by decide +kernel : decode cX9_isPart 59 = .ok (.iconst 0, 1)) rfl ?_
    exact fun _ _ _ h => h
  · unfold B_X9_isPart_60
    exact as_rz X hQ hr (by decide +kernel : decode cX9_isPart 60 = .ok (.ireturn, 1))

def B_X9_pieces_0 (kX9_isPart : am_T) (kX9_measures : am_T) (kX9_piecesAt : am_T) (kX9_manyOf : am_T) (Q : am_Q) (G : Nat → am_K) : am_K := (ak_al 0 (ak_il 1 (ak_il 2 (ak_il 3 (ak_il 4 (ak_cv 5 7 kX9_isPart (ak_if (fun x => x = 0) (ak_c (.int (-1)) (ak_ri Q)) (ak_al 0 (ak_c (.int 0) (ak_cv 2 7 kX9_measures (ak_al 0 (ak_il 1 (ak_il 2 (ak_c (.int 1) (ak_il 4 (ak_ib (fun x y => x <<< (y &&& 31)) (ak_c (.int 1) (ak_il 3 (ak_ib (fun x y => x <<< (y &&& 31)) (ak_ib (fun x y => x - y) (ak_c (.int 0) (ak_cv 5 7 kX9_piecesAt (ak_cs 1 kX9_manyOf (ak_ri Q))))))))))))))))))))))))
def cl_X9_pieces (kX9_isPart : am_T) (kX9_measures : am_T) (kX9_piecesAt : am_T) (kX9_manyOf : am_T) (Q : am_Q) (G : Nat → am_K) : Prop := am_N G 0 (B_X9_pieces_0 kX9_isPart kX9_measures kX9_piecesAt kX9_manyOf Q G)
def WP_X9_pieces (kX9_isPart : am_T) (kX9_measures : am_T) (kX9_piecesAt : am_T) (kX9_manyOf : am_T) : am_T := fun av h Q => (lg_sl av).length ≤ 5 ∧ ∀ G, cl_X9_pieces kX9_isPart kX9_measures kX9_piecesAt kX9_manyOf Q G → G 0 (am_ent 5 av) [] h
set_option maxHeartbeats 4000000 in
set_option maxRecDepth 100000 in
theorem s_X9_pieces {mX9_isPart : Room} {kX9_isPart : am_T} (h_X9_isPart : am_S false yX9_isPart (am_ws yX9_isPart cX9_isPart 5 (some .boolean)) mX9_isPart kX9_isPart) {mX9_measures : Room} {kX9_measures : am_T} (h_X9_measures : am_S false yX9_measures (am_ws yX9_measures cX9_measures 11 none) mX9_measures kX9_measures) {mX9_piecesAt : Room} {kX9_piecesAt : am_T} (h_X9_piecesAt : am_S false yX9_piecesAt (am_ws yX9_piecesAt cX9_piecesAt 5 (some .int)) mX9_piecesAt kX9_piecesAt) {mX9_manyOf : Room} {kX9_manyOf : am_T} (h_X9_manyOf : am_S false yX9_manyOf (am_ws yX9_manyOf cX9_manyOf 1 (some .int)) mX9_manyOf kX9_manyOf) {rm : Room} (hz : rm.cells = 0 ∧ rm.slots = 0) (R_X9_isPart : mX9_isPart.frames + 1 ≤ rm.frames ∧ 8 + (5 + 11) + mX9_isPart.locals ≤ rm.locals) (R_X9_measures : mX9_measures.frames + 1 ≤ rm.frames ∧ 8 + (11 + 11) + mX9_measures.locals ≤ rm.locals) (R_X9_piecesAt : mX9_piecesAt.frames + 1 ≤ rm.frames ∧ 8 + (5 + 11) + mX9_piecesAt.locals ≤ rm.locals) (R_X9_manyOf : mX9_manyOf.frames + 1 ≤ rm.frames ∧ 8 + (1 + 11) + mX9_manyOf.locals ≤ rm.locals) : am_S false yX9_pieces (am_ws yX9_pieces cX9_pieces 5 (some .int)) rm (WP_X9_pieces kX9_isPart kX9_measures kX9_piecesAt kX9_manyOf) := by
  refine am_S.of (fun _ => hz) (by decide +kernel) (fun h0 Q G => cl_X9_pieces kX9_isPart kX9_measures kX9_piecesAt kX9_manyOf Q G) ?_
  intro p l e s m args below meth c D h0 Q X hr hnm hQ
  show am_N _ 0 (B_X9_pieces_0  kX9_isPart kX9_measures kX9_piecesAt kX9_manyOf Q _)
  · unfold B_X9_pieces_0
    refine as_aload_n X (by decide +kernel : decode cX9_pieces 0 = .ok (.aload_n 0, 1)) rfl ?_
    refine as_iload_n X (by decide +kernel : decode cX9_pieces 1 = .ok (.iload_n 1, 1)) rfl ?_
    refine as_iload_n X (by decide +kernel : decode cX9_pieces 2 = .ok (.iload_n 2, 1)) rfl ?_
    refine as_iload_n X (by decide +kernel : decode cX9_pieces 3 = .ok (.iload_n 3, 1)) rfl ?_
    refine as_iload X (by decide +kernel : decode cX9_pieces 4 = .ok (.iload 4, 2)) ?_
    refine as_cv X h_X9_isPart rfl (by decide +kernel : decode cX9_pieces 6 = .ok (.invokevirtual 316, 3)) dn_X9_isPart ml_X9_316 im_X9_isPart se_X9_isPart ini_X9 co_X9_isPart R_X9_isPart ?_
    refine as_if_ne X (tgt := 14) (by decide +kernel : decode cX9_pieces 9 = .ok (.ifCond .ne 5, 3)) (by decide) ?_ ?_
    · refine as_iconst X (by decide +kernel : decode cX9_pieces 12 = .ok (.iconst (-1), 1)) rfl ?_
      exact as_ri X hQ hr (by decide +kernel : decode cX9_pieces 13 = .ok (.ireturn, 1))
    · refine as_aload_n X (by decide +kernel : decode cX9_pieces 14 = .ok (.aload_n 0, 1)) rfl ?_
      refine as_iconst X (by decide +kernel : decode cX9_pieces 15 = .ok (.iconst 0, 1)) rfl ?_
      refine as_cv X h_X9_measures rfl (by decide +kernel : decode cX9_pieces 16 = .ok (.invokevirtual 276, 3)) dn_X9_measures ml_X9_276 im_X9_measures se_X9_measures ini_X9 co_X9_measures R_X9_measures ?_
      refine as_aload_n X (by decide +kernel : decode cX9_pieces 19 = .ok (.aload_n 0, 1)) rfl ?_
      refine as_iload_n X (by decide +kernel : decode cX9_pieces 20 = .ok (.iload_n 1, 1)) rfl ?_
      refine as_iload_n X (by decide +kernel : decode cX9_pieces 21 = .ok (.iload_n 2, 1)) rfl ?_
      refine as_iconst X (by decide +kernel : decode cX9_pieces 22 = .ok (.iconst 1, 1)) rfl ?_
      refine as_iload X (by decide +kernel : decode cX9_pieces 23 = .ok (.iload 4, 2)) ?_
      refine as_ishl X (by decide +kernel : decode cX9_pieces 25 = .ok (.ishl, 1)) ?_
      refine as_iconst X (by decide +kernel : decode cX9_pieces 26 = .ok (.iconst 1, 1)) rfl ?_
      refine as_iload_n X (by decide +kernel : decode cX9_pieces 27 = .ok (.iload_n 3, 1)) rfl ?_
      refine as_ishl X (by decide +kernel : decode cX9_pieces 28 = .ok (.ishl, 1)) ?_
      refine as_isub X (by decide +kernel : decode cX9_pieces 29 = .ok (.isub, 1)) ?_
      refine as_iconst X (by decide +kernel : decode cX9_pieces 30 = .ok (.iconst 0, 1)) rfl ?_
      refine as_cv X h_X9_piecesAt rfl (by decide +kernel : decode cX9_pieces 31 = .ok (.invokevirtual 203, 3)) dn_X9_piecesAt ml_X9_203 im_X9_piecesAt se_X9_piecesAt ini_X9 co_X9_piecesAt R_X9_piecesAt ?_
      refine as_cs X h_X9_manyOf (by decide +kernel : decode cX9_pieces 34 = .ok (.invokestatic 206, 3)) dn_X9_manyOf ml_X9_206 st_X9_manyOf ini_X9 co_X9_manyOf R_X9_manyOf ?_
      exact as_ri X hQ hr (by decide +kernel : decode cX9_pieces 37 = .ok (.ireturn, 1))

def B_X9_pieceCost_0 (kX9_isPart : am_T) (kX9_measures : am_T) (kX9_piecesAt : am_T) (kX9_costOf : am_T) (Q : am_Q) (G : Nat → am_K) : am_K := (ak_al 0 (ak_il 1 (ak_il 2 (ak_il 3 (ak_il 4 (ak_cv 5 7 kX9_isPart (ak_if (fun x => x = 0) (ak_c (.int (-1)) (ak_ri Q)) (ak_al 0 (ak_c (.int 0) (ak_cv 2 7 kX9_measures (ak_al 0 (ak_il 1 (ak_il 2 (ak_c (.int 1) (ak_il 4 (ak_ib (fun x y => x <<< (y &&& 31)) (ak_c (.int 1) (ak_il 3 (ak_ib (fun x y => x <<< (y &&& 31)) (ak_ib (fun x y => x - y) (ak_c (.int 0) (ak_cv 5 7 kX9_piecesAt (ak_is 5 (ak_il 5 (ak_if (fun x => x = 0) (ak_c (.int (-4)) (G 51)) (ak_il 5 (ak_cs 1 kX9_costOf (G 51))))))))))))))))))))))))))))
def B_X9_pieceCost_51 (kX9_isPart : am_T) (kX9_measures : am_T) (kX9_piecesAt : am_T) (kX9_costOf : am_T) (Q : am_Q) (G : Nat → am_K) : am_K := (ak_ri Q)
def cl_X9_pieceCost (kX9_isPart : am_T) (kX9_measures : am_T) (kX9_piecesAt : am_T) (kX9_costOf : am_T) (Q : am_Q) (G : Nat → am_K) : Prop := am_N G 0 (B_X9_pieceCost_0 kX9_isPart kX9_measures kX9_piecesAt kX9_costOf Q G) ∧ am_N G 51 (B_X9_pieceCost_51 kX9_isPart kX9_measures kX9_piecesAt kX9_costOf Q G)
def WP_X9_pieceCost (kX9_isPart : am_T) (kX9_measures : am_T) (kX9_piecesAt : am_T) (kX9_costOf : am_T) : am_T := fun av h Q => (lg_sl av).length ≤ 6 ∧ ∀ G, cl_X9_pieceCost kX9_isPart kX9_measures kX9_piecesAt kX9_costOf Q G → G 0 (am_ent 6 av) [] h
set_option maxHeartbeats 4000000 in
set_option maxRecDepth 100000 in
theorem s_X9_pieceCost {mX9_isPart : Room} {kX9_isPart : am_T} (h_X9_isPart : am_S false yX9_isPart (am_ws yX9_isPart cX9_isPart 5 (some .boolean)) mX9_isPart kX9_isPart) {mX9_measures : Room} {kX9_measures : am_T} (h_X9_measures : am_S false yX9_measures (am_ws yX9_measures cX9_measures 11 none) mX9_measures kX9_measures) {mX9_piecesAt : Room} {kX9_piecesAt : am_T} (h_X9_piecesAt : am_S false yX9_piecesAt (am_ws yX9_piecesAt cX9_piecesAt 5 (some .int)) mX9_piecesAt kX9_piecesAt) {mX9_costOf : Room} {kX9_costOf : am_T} (h_X9_costOf : am_S false yX9_costOf (am_ws yX9_costOf cX9_costOf 1 (some .int)) mX9_costOf kX9_costOf) {rm : Room} (hz : rm.cells = 0 ∧ rm.slots = 0) (R_X9_isPart : mX9_isPart.frames + 1 ≤ rm.frames ∧ 8 + (5 + 11) + mX9_isPart.locals ≤ rm.locals) (R_X9_measures : mX9_measures.frames + 1 ≤ rm.frames ∧ 8 + (11 + 11) + mX9_measures.locals ≤ rm.locals) (R_X9_piecesAt : mX9_piecesAt.frames + 1 ≤ rm.frames ∧ 8 + (5 + 11) + mX9_piecesAt.locals ≤ rm.locals) (R_X9_costOf : mX9_costOf.frames + 1 ≤ rm.frames ∧ 8 + (1 + 11) + mX9_costOf.locals ≤ rm.locals) : am_S false yX9_pieceCost (am_ws yX9_pieceCost cX9_pieceCost 6 (some .int)) rm (WP_X9_pieceCost kX9_isPart kX9_measures kX9_piecesAt kX9_costOf) := by
  refine am_S.of (fun _ => hz) (by decide +kernel) (fun h0 Q G => cl_X9_pieceCost kX9_isPart kX9_measures kX9_piecesAt kX9_costOf Q G) ?_
  intro p l e s m args below meth c D h0 Q X hr hnm hQ
  refine ⟨?_, ?_⟩
  · unfold B_X9_pieceCost_0
    refine as_aload_n X (by decide +kernel : decode cX9_pieceCost 0 = .ok (.aload_n 0, 1)) rfl ?_
    refine as_iload_n X (by decide +kernel : decode cX9_pieceCost 1 = .ok (.iload_n 1, 1)) rfl ?_
    refine as_iload_n X (by decide +kernel : decode cX9_pieceCost 2 = .ok (.iload_n 2, 1)) rfl ?_
    refine as_iload_n X (by decide +kernel : decode cX9_pieceCost 3 = .ok (.iload_n 3, 1)) rfl ?_
    refine as_iload X (by decide +kernel : decode cX9_pieceCost 4 = .ok (.iload 4, 2)) ?_
    refine as_cv X h_X9_isPart rfl (by decide +kernel : decode cX9_pieceCost 6 = .ok (.invokevirtual 316, 3)) dn_X9_isPart ml_X9_316 im_X9_isPart se_X9_isPart ini_X9 co_X9_isPart R_X9_isPart ?_
    refine as_if_ne X (tgt := 14) (by decide +kernel : decode cX9_pieceCost 9 = .ok (.ifCond .ne 5, 3)) (by decide) ?_ ?_
    · refine as_iconst X (by decide +kernel : decode cX9_pieceCost 12 = .ok (.iconst (-1), 1)) rfl ?_
      exact as_ri X hQ hr (by decide +kernel : decode cX9_pieceCost 13 = .ok (.ireturn, 1))
    · refine as_aload_n X (by decide +kernel : decode cX9_pieceCost 14 = .ok (.aload_n 0, 1)) rfl ?_
      refine as_iconst X (by decide +kernel : decode cX9_pieceCost 15 = .ok (.iconst 0, 1)) rfl ?_
      refine as_cv X h_X9_measures rfl (by decide +kernel : decode cX9_pieceCost 16 = .ok (.invokevirtual 276, 3)) dn_X9_measures ml_X9_276 im_X9_measures se_X9_measures ini_X9 co_X9_measures R_X9_measures ?_
      refine as_aload_n X (by decide +kernel : decode cX9_pieceCost 19 = .ok (.aload_n 0, 1)) rfl ?_
      refine as_iload_n X (by decide +kernel : decode cX9_pieceCost 20 = .ok (.iload_n 1, 1)) rfl ?_
      refine as_iload_n X (by decide +kernel : decode cX9_pieceCost 21 = .ok (.iload_n 2, 1)) rfl ?_
      refine as_iconst X (by decide +kernel : decode cX9_pieceCost 22 = .ok (.iconst 1, 1)) rfl ?_
      refine as_iload X (by decide +kernel : decode cX9_pieceCost 23 = .ok (.iload 4, 2)) ?_
      refine as_ishl X (by decide +kernel : decode cX9_pieceCost 25 = .ok (.ishl, 1)) ?_
      refine as_iconst X (by decide +kernel : decode cX9_pieceCost 26 = .ok (.iconst 1, 1)) rfl ?_
      refine as_iload_n X (by decide +kernel : decode cX9_pieceCost 27 = .ok (.iload_n 3, 1)) rfl ?_
      refine as_ishl X (by decide +kernel : decode cX9_pieceCost 28 = .ok (.ishl, 1)) ?_
      refine as_isub X (by decide +kernel : decode cX9_pieceCost 29 = .ok (.isub, 1)) ?_
      refine as_iconst X (by decide +kernel : decode cX9_pieceCost 30 = .ok (.iconst 0, 1)) rfl ?_
      refine as_cv X h_X9_piecesAt rfl (by decide +kernel : decode cX9_pieceCost 31 = .ok (.invokevirtual 203, 3)) dn_X9_piecesAt ml_X9_203 im_X9_piecesAt se_X9_piecesAt ini_X9 co_X9_piecesAt R_X9_piecesAt ?_
      refine as_istore X (by decide +kernel : decode cX9_pieceCost 34 = .ok (.istore 5, 2)) ?_
      refine as_iload X (by decide +kernel : decode cX9_pieceCost 36 = .ok (.iload 5, 2)) ?_
      refine as_if_ne X (tgt := 46) (by decide +kernel : decode cX9_pieceCost 38 = .ok (.ifCond .ne 8, 3)) (by decide) ?_ ?_
      · refine as_bipush X (by decide +kernel : decode cX9_pieceCost 41 = .ok (.bipush (-4), 2)) rfl ?_
        refine as_goto X (tgt := 51) (by decide +kernel : decode cX9_pieceCost 43 = .ok (.goto 8, 3)) (by decide) ?_
        exact fun _ _ _ h => h
      · refine as_iload X (by decide +kernel : decode cX9_pieceCost 46 = .ok (.iload 5, 2)) ?_
        refine as_cs X h_X9_costOf (by decide +kernel : decode cX9_pieceCost 48 = .ok (.invokestatic 209, 3)) dn_X9_costOf ml_X9_209 st_X9_costOf ini_X9 co_X9_costOf R_X9_costOf ?_
        exact fun _ _ _ h => h
  · unfold B_X9_pieceCost_51
    exact as_ri X hQ hr (by decide +kernel : decode cX9_pieceCost 51 = .ok (.ireturn, 1))

def B_X9_units_0 (kX9_isPart : am_T) (kX9_measures : am_T) (kX9_unitsAt : am_T) (kX9_manyOf : am_T) (Q : am_Q) (G : Nat → am_K) : am_K := (ak_al 0 (ak_il 1 (ak_il 2 (ak_il 3 (ak_il 4 (ak_cv 5 7 kX9_isPart (ak_if (fun x => x = 0) (ak_c (.int (-1)) (ak_ri Q)) (ak_al 0 (ak_c (.int 0) (ak_cv 2 7 kX9_measures (ak_al 0 (ak_il 1 (ak_il 2 (ak_c (.int 1) (ak_il 4 (ak_ib (fun x y => x <<< (y &&& 31)) (ak_c (.int 1) (ak_il 3 (ak_ib (fun x y => x <<< (y &&& 31)) (ak_ib (fun x y => x - y) (ak_c (.int 0) (ak_cv 5 7 kX9_unitsAt (ak_cs 1 kX9_manyOf (ak_ri Q))))))))))))))))))))))))
def cl_X9_units (kX9_isPart : am_T) (kX9_measures : am_T) (kX9_unitsAt : am_T) (kX9_manyOf : am_T) (Q : am_Q) (G : Nat → am_K) : Prop := am_N G 0 (B_X9_units_0 kX9_isPart kX9_measures kX9_unitsAt kX9_manyOf Q G)
def WP_X9_units (kX9_isPart : am_T) (kX9_measures : am_T) (kX9_unitsAt : am_T) (kX9_manyOf : am_T) : am_T := fun av h Q => (lg_sl av).length ≤ 5 ∧ ∀ G, cl_X9_units kX9_isPart kX9_measures kX9_unitsAt kX9_manyOf Q G → G 0 (am_ent 5 av) [] h
set_option maxHeartbeats 4000000 in
set_option maxRecDepth 100000 in
theorem s_X9_units {mX9_isPart : Room} {kX9_isPart : am_T} (h_X9_isPart : am_S false yX9_isPart (am_ws yX9_isPart cX9_isPart 5 (some .boolean)) mX9_isPart kX9_isPart) {mX9_measures : Room} {kX9_measures : am_T} (h_X9_measures : am_S false yX9_measures (am_ws yX9_measures cX9_measures 11 none) mX9_measures kX9_measures) {mX9_unitsAt : Room} {kX9_unitsAt : am_T} (h_X9_unitsAt : am_S false yX9_unitsAt (am_ws yX9_unitsAt cX9_unitsAt 5 (some .int)) mX9_unitsAt kX9_unitsAt) {mX9_manyOf : Room} {kX9_manyOf : am_T} (h_X9_manyOf : am_S false yX9_manyOf (am_ws yX9_manyOf cX9_manyOf 1 (some .int)) mX9_manyOf kX9_manyOf) {rm : Room} (hz : rm.cells = 0 ∧ rm.slots = 0) (R_X9_isPart : mX9_isPart.frames + 1 ≤ rm.frames ∧ 8 + (5 + 11) + mX9_isPart.locals ≤ rm.locals) (R_X9_measures : mX9_measures.frames + 1 ≤ rm.frames ∧ 8 + (11 + 11) + mX9_measures.locals ≤ rm.locals) (R_X9_unitsAt : mX9_unitsAt.frames + 1 ≤ rm.frames ∧ 8 + (5 + 11) + mX9_unitsAt.locals ≤ rm.locals) (R_X9_manyOf : mX9_manyOf.frames + 1 ≤ rm.frames ∧ 8 + (1 + 11) + mX9_manyOf.locals ≤ rm.locals) : am_S false yX9_units (am_ws yX9_units cX9_units 5 (some .int)) rm (WP_X9_units kX9_isPart kX9_measures kX9_unitsAt kX9_manyOf) := by
  refine am_S.of (fun _ => hz) (by decide +kernel) (fun h0 Q G => cl_X9_units kX9_isPart kX9_measures kX9_unitsAt kX9_manyOf Q G) ?_
  intro p l e s m args below meth c D h0 Q X hr hnm hQ
  show am_N _ 0 (B_X9_units_0  kX9_isPart kX9_measures kX9_unitsAt kX9_manyOf Q _)
  · unfold B_X9_units_0
    refine as_aload_n X (by decide +kernel : decode cX9_units 0 = .ok (.aload_n 0, 1)) rfl ?_
    refine as_iload_n X (by decide +kernel : decode cX9_units 1 = .ok (.iload_n 1, 1)) rfl ?_
    refine as_iload_n X (by decide +kernel : decode cX9_units 2 = .ok (.iload_n 2, 1)) rfl ?_
    refine as_iload_n X (by decide +kernel : decode cX9_units 3 = .ok (.iload_n 3, 1)) rfl ?_
    refine as_iload X (by decide +kernel : decode cX9_units 4 = .ok (.iload 4, 2)) ?_
    refine as_cv X h_X9_isPart rfl (by decide +kernel : decode cX9_units 6 = .ok (.invokevirtual 316, 3)) dn_X9_isPart ml_X9_316 im_X9_isPart se_X9_isPart ini_X9 co_X9_isPart R_X9_isPart ?_
    refine as_if_ne X (tgt := 14) (by decide +kernel : decode cX9_units 9 = .ok (.ifCond .ne 5, 3)) (by decide) ?_ ?_
    · refine as_iconst X (by decide +kernel : decode cX9_units 12 = .ok (.iconst (-1), 1)) rfl ?_
      exact as_ri X hQ hr (by decide +kernel : decode cX9_units 13 = .ok (.ireturn, 1))
    · refine as_aload_n X (by decide +kernel : decode cX9_units 14 = .ok (.aload_n 0, 1)) rfl ?_
      refine as_iconst X (by decide +kernel : decode cX9_units 15 = .ok (.iconst 0, 1)) rfl ?_
      refine as_cv X h_X9_measures rfl (by decide +kernel : decode cX9_units 16 = .ok (.invokevirtual 276, 3)) dn_X9_measures ml_X9_276 im_X9_measures se_X9_measures ini_X9 co_X9_measures R_X9_measures ?_
      refine as_aload_n X (by decide +kernel : decode cX9_units 19 = .ok (.aload_n 0, 1)) rfl ?_
      refine as_iload_n X (by decide +kernel : decode cX9_units 20 = .ok (.iload_n 1, 1)) rfl ?_
      refine as_iload_n X (by decide +kernel : decode cX9_units 21 = .ok (.iload_n 2, 1)) rfl ?_
      refine as_iconst X (by decide +kernel : decode cX9_units 22 = .ok (.iconst 1, 1)) rfl ?_
      refine as_iload X (by decide +kernel : decode cX9_units 23 = .ok (.iload 4, 2)) ?_
      refine as_ishl X (by decide +kernel : decode cX9_units 25 = .ok (.ishl, 1)) ?_
      refine as_iconst X (by decide +kernel : decode cX9_units 26 = .ok (.iconst 1, 1)) rfl ?_
      refine as_iload_n X (by decide +kernel : decode cX9_units 27 = .ok (.iload_n 3, 1)) rfl ?_
      refine as_ishl X (by decide +kernel : decode cX9_units 28 = .ok (.ishl, 1)) ?_
      refine as_isub X (by decide +kernel : decode cX9_units 29 = .ok (.isub, 1)) ?_
      refine as_iconst X (by decide +kernel : decode cX9_units 30 = .ok (.iconst 0, 1)) rfl ?_
      refine as_cv X h_X9_unitsAt rfl (by decide +kernel : decode cX9_units 31 = .ok (.invokevirtual 255, 3)) dn_X9_unitsAt ml_X9_255 im_X9_unitsAt se_X9_unitsAt ini_X9 co_X9_unitsAt R_X9_unitsAt ?_
      refine as_cs X h_X9_manyOf (by decide +kernel : decode cX9_units 34 = .ok (.invokestatic 206, 3)) dn_X9_manyOf ml_X9_206 st_X9_manyOf ini_X9 co_X9_manyOf R_X9_manyOf ?_
      exact as_ri X hQ hr (by decide +kernel : decode cX9_units 37 = .ok (.ireturn, 1))

def B_X9_isOffer_0 (kX9_isOf : am_T) (kX9_isLike : am_T) (Q : am_Q) (G : Nat → am_K) : am_K := (ak_al 0 (ak_get 7 5 (ak_il 1 (ak_iald (ak_if (fun x => x = 0) (ak_al 0 (ak_get 7 4 (ak_c (.int 9) (ak_il 1 (ak_ib (fun x y => x * y) (ak_iald (ak_c (.int 2) (ak_ic (fun x y => x < y) (G 49) (ak_al 0 (ak_il 1 (ak_c (.int 0) (ak_cv 3 7 kX9_isOf (ak_if (fun x => x = 0) (ak_al 0 (ak_il 1 (ak_al 0 (ak_get 7 10 (ak_c (.int 1) (ak_ib (fun x y => x - y) (ak_cv 3 7 kX9_isOf (ak_if (fun x => x = 0) (G 49) (G 45))))))))) (G 45)))))))))))))) (G 49))))))
def B_X9_isOffer_45 (kX9_isOf : am_T) (kX9_isLike : am_T) (Q : am_Q) (G : Nat → am_K) : am_K := (ak_c (.int 1) (G 50))
def B_X9_isOffer_49 (kX9_isOf : am_T) (kX9_isLike : am_T) (Q : am_Q) (G : Nat → am_K) : am_K := (ak_c (.int 0) (G 50))
def B_X9_isOffer_50 (kX9_isOf : am_T) (kX9_isLike : am_T) (Q : am_Q) (G : Nat → am_K) : am_K := (ak_is 2 (ak_c (.int 0) (ak_is 3 (G 53))))
def B_X9_isOffer_53 (kX9_isOf : am_T) (kX9_isLike : am_T) (Q : am_Q) (G : Nat → am_K) : am_K := (ak_il 3 (ak_il 1 (ak_ic (fun x y => y ≤ x) (G 128) (ak_il 2 (ak_if (fun x => x = 0) (G 128) (ak_al 0 (ak_get 7 5 (ak_il 3 (ak_iald (ak_if (fun x => x = 0) (ak_al 0 (ak_il 3 (ak_c (.int 0) (ak_cv 3 7 kX9_isOf (ak_if (fun x => x = 0) (ak_al 0 (ak_il 3 (ak_al 0 (ak_get 7 10 (ak_c (.int 1) (ak_ib (fun x y => x - y) (ak_cv 3 7 kX9_isOf (ak_if (fun x => x = 0) (G 116) (G 94))))))))) (G 94)))))) (G 116)))))))))))
def B_X9_isOffer_94 (kX9_isOf : am_T) (kX9_isLike : am_T) (Q : am_Q) (G : Nat → am_K) : am_K := (ak_al 0 (ak_get 7 4 (ak_c (.int 9) (ak_il 3 (ak_ib (fun x y => x * y) (ak_al 0 (ak_get 7 4 (ak_c (.int 9) (ak_il 1 (ak_ib (fun x y => x * y) (ak_cs 4 kX9_isLike (ak_if (fun x => x = 0) (G 116) (ak_c (.int 0) (G 121))))))))))))))
def B_X9_isOffer_116 (kX9_isOf : am_T) (kX9_isLike : am_T) (Q : am_Q) (G : Nat → am_K) : am_K := (ak_c (.int 1) (G 121))
def B_X9_isOffer_121 (kX9_isOf : am_T) (kX9_isLike : am_T) (Q : am_Q) (G : Nat → am_K) : am_K := (ak_is 2 (ak_ii 3 1 (G 53)))
def B_X9_isOffer_128 (kX9_isOf : am_T) (kX9_isLike : am_T) (Q : am_Q) (G : Nat → am_K) : am_K := (ak_il 2 (ak_rz Q))
def cl_X9_isOffer (kX9_isOf : am_T) (kX9_isLike : am_T) (Q : am_Q) (G : Nat → am_K) : Prop := am_N G 0 (B_X9_isOffer_0 kX9_isOf kX9_isLike Q G) ∧ am_N G 45 (B_X9_isOffer_45 kX9_isOf kX9_isLike Q G) ∧ am_N G 49 (B_X9_isOffer_49 kX9_isOf kX9_isLike Q G) ∧ am_N G 50 (B_X9_isOffer_50 kX9_isOf kX9_isLike Q G) ∧ am_N G 53 (B_X9_isOffer_53 kX9_isOf kX9_isLike Q G) ∧ am_N G 94 (B_X9_isOffer_94 kX9_isOf kX9_isLike Q G) ∧ am_N G 116 (B_X9_isOffer_116 kX9_isOf kX9_isLike Q G) ∧ am_N G 121 (B_X9_isOffer_121 kX9_isOf kX9_isLike Q G) ∧ am_N G 128 (B_X9_isOffer_128 kX9_isOf kX9_isLike Q G)
def WP_X9_isOffer (kX9_isOf : am_T) (kX9_isLike : am_T) : am_T := fun av h Q => (lg_sl av).length ≤ 4 ∧ ∀ G, cl_X9_isOffer kX9_isOf kX9_isLike Q G → G 0 (am_ent 4 av) [] h
set_option maxHeartbeats 4000000 in
set_option maxRecDepth 100000 in
theorem s_X9_isOffer {mX9_isOf : Room} {kX9_isOf : am_T} (h_X9_isOf : am_S false yX9_isOf (am_ws yX9_isOf cX9_isOf 3 (some .boolean)) mX9_isOf kX9_isOf) {mX9_isLike : Room} {kX9_isLike : am_T} (h_X9_isLike : am_S false yX9_isLike (am_ws yX9_isLike cX9_isLike 6 (some .boolean)) mX9_isLike kX9_isLike) {rm : Room} (hz : rm.cells = 0 ∧ rm.slots = 0) (R_X9_isOf : mX9_isOf.frames + 1 ≤ rm.frames ∧ 8 + (3 + 11) + mX9_isOf.locals ≤ rm.locals) (R_X9_isLike : mX9_isLike.frames + 1 ≤ rm.frames ∧ 8 + (6 + 11) + mX9_isLike.locals ≤ rm.locals) : am_S false yX9_isOffer (am_ws yX9_isOffer cX9_isOffer 4 (some .boolean)) rm (WP_X9_isOffer kX9_isOf kX9_isLike) := by
  refine am_S.of (fun _ => hz) (by decide +kernel) (fun h0 Q G => cl_X9_isOffer kX9_isOf kX9_isLike Q G) ?_
  intro p l e s m args below meth c D h0 Q X hr hnm hQ
  refine ⟨?_, ?_, ?_, ?_, ?_, ?_, ?_, ?_, ?_⟩
  · unfold B_X9_isOffer_0
    refine as_aload_n X (by decide +kernel : decode cX9_isOffer 0 = .ok (.aload_n 0, 1)) rfl ?_
    refine as_get X fc_X9 (by decide +kernel : decode cX9_isOffer 1 = .ok (.getfield 19, 3)) (by decide) fl_X9_19 ?_
    refine as_iload_n X (by decide +kernel : decode cX9_isOffer 4 = .ok (.iload_n 1, 1)) rfl ?_
    refine as_iaload X (by decide +kernel : decode cX9_isOffer 5 = .ok (.iaload, 1)) ?_
    refine as_if_ne X (tgt := 49) (by decide +kernel : decode cX9_isOffer 6 = .ok (.ifCond .ne 43, 3)) (by decide) ?_ ?_
    · refine as_aload_n X (by decide +kernel : decode cX9_isOffer 9 = .ok (.aload_n 0, 1)) rfl ?_
      refine as_get X fc_X9 (by decide +kernel : decode cX9_isOffer 10 = .ok (.getfield 16, 3)) (by decide) fl_X9_16 ?_
      refine as_bipush X (by decide +kernel : decode cX9_isOffer 13 = .ok (.bipush 9, 2)) rfl ?_
      refine as_iload_n X (by decide +kernel : decode cX9_isOffer 15 = .ok (.iload_n 1, 1)) rfl ?_
      refine as_imul X (by decide +kernel : decode cX9_isOffer 16 = .ok (.imul, 1)) ?_
      refine as_iaload X (by decide +kernel : decode cX9_isOffer 17 = .ok (.iaload, 1)) ?_
      refine as_iconst X (by decide +kernel : decode cX9_isOffer 18 = .ok (.iconst 2, 1)) rfl ?_
      refine as_ic_lt X (tgt := 49) (by decide +kernel : decode cX9_isOffer 19 = .ok (.if_icmp .lt 30, 3)) (by decide) ?_ ?_
      · exact fun _ _ _ h => h
      · refine as_aload_n X (by decide +kernel : decode cX9_isOffer 22 = .ok (.aload_n 0, 1)) rfl ?_
        refine as_iload_n X (by decide +kernel : decode cX9_isOffer 23 = .ok (.iload_n 1, 1)) rfl ?_
        refine as_iconst X (by decide +kernel : decode cX9_isOffer 24 = .ok (.iconst 0, 1)) rfl ?_
        refine as_cv X h_X9_isOf rfl (by decide +kernel : decode cX9_isOffer 25 = .ok (.invokevirtual 151, 3)) dn_X9_isOf ml_X9_151 im_X9_isOf se_X9_isOf ini_X9 co_X9_isOf R_X9_isOf ?_
        refine as_if_ne X (tgt := 45) (by decide +kernel : decode cX9_isOffer 28 = .ok (.ifCond .ne 17, 3)) (by decide) ?_ ?_
        · refine as_aload_n X (by decide +kernel : decode cX9_isOffer 31 = .ok (.aload_n 0, 1)) rfl ?_
          refine as_iload_n X (by decide +kernel : decode cX9_isOffer 32 = .ok (.iload_n 1, 1)) rfl ?_
          refine as_aload_n X (by decide +kernel : decode cX9_isOffer 33 = .ok (.aload_n 0, 1)) rfl ?_
          refine as_get X fc_X9 (by decide +kernel : decode cX9_isOffer 34 = .ok (.getfield 142, 3)) (by decide) fl_X9_142 ?_
          refine as_iconst X (by decide +kernel : decode cX9_isOffer 37 = .ok (.iconst 1, 1)) rfl ?_
          refine as_isub X (by decide +kernel : decode cX9_isOffer 38 = .ok (.isub, 1)) ?_
          refine as_cv X h_X9_isOf rfl (by decide +kernel : decode cX9_isOffer 39 = .ok (.invokevirtual 151, 3)) dn_X9_isOf ml_X9_151 im_X9_isOf se_X9_isOf ini_X9 co_X9_isOf R_X9_isOf ?_
          refine as_if_eq X (tgt := 49) (by decide +kernel : decode cX9_isOffer 42 = .ok (.ifCond .eq 7, 3)) (by decide) ?_ ?_
          · exact fun _ _ _ h => h
          · exact fun _ _ _ h => h
        · exact fun _ _ _ h => h
    · exact fun _ _ _ h => h
  · unfold B_X9_isOffer_45
    refine as_iconst X (by decide +kernel : decode cX9_isOffer 45 = .ok (.iconst 1, 1)) rfl ?_
    refine as_goto X (tgt := 50) (by decide +kernel : decode cX9_isOffer 46 = .ok (.goto 4, 3)) (by decide) ?_
    exact fun _ _ _ h => h
  · unfold B_X9_isOffer_49
    refine as_iconst X (by decide +kernel : decode cX9_isOffer 49 = .ok (.iconst 0, 1)) rfl ?_
    exact fun _ _ _ h => h
  · unfold B_X9_isOffer_50
    refine as_istore_n X (by decide +kernel : decode cX9_isOffer 50 = .ok (.istore_n 2, 1)) rfl ?_
    refine as_iconst X (by decide +kernel : decode cX9_isOffer 51 = .ok (.iconst 0, 1)) rfl ?_
    refine as_istore_n X (by decide +kernel : decode cX9_isOffer 52 = .ok (.istore_n 3, 1)) rfl ?_
    exact fun _ _ _ h => h
  · unfold B_X9_isOffer_53
    refine as_iload_n X (by decide +kernel : decode cX9_isOffer 53 = .ok (.iload_n 3, 1)) rfl ?_
    refine as_iload_n X (by decide +kernel : decode cX9_isOffer 54 = .ok (.iload_n 1, 1)) rfl ?_
    refine as_ic_ge X (tgt := 128) (by decide +kernel : decode cX9_isOffer 55 = .ok (.if_icmp .ge 73, 3)) (by decide) ?_ ?_
    · exact fun _ _ _ h => h
    · refine as_iload_n X (by decide +kernel : decode cX9_isOffer 58 = .ok (.iload_n 2, 1)) rfl ?_
      refine as_if_eq X (tgt := 128) (by decide +kernel : decode cX9_isOffer 59 = .ok (.ifCond .eq 69, 3)) (by decide) ?_ ?_
      · exact fun _ _ _ h => h
      · refine as_aload_n X (by decide +kernel : decode cX9_isOffer 62 = .ok (.aload_n 0, 1)) rfl ?_
        refine as_get X fc_X9 (by decide +kernel : decode cX9_isOffer 63 = .ok (.getfield 19, 3)) (by decide) fl_X9_19 ?_
        refine as_iload_n X (by decide +kernel : decode cX9_isOffer 66 = .ok (.iload_n 3, 1)) rfl ?_
        refine as_iaload X (by decide +kernel : decode cX9_isOffer 67 = .ok (.iaload, 1)) ?_
        refine as_if_ne X (tgt := 116) (by decide +kernel : decode cX9_isOffer 68 = .ok (.ifCond .ne 48, 3)) (by decide) ?_ ?_
        · refine as_aload_n X (by decide +kernel : decode cX9_isOffer 71 = .ok (.aload_n 0, 1)) rfl ?_
          refine as_iload_n X (by decide +kernel : decode cX9_isOffer 72 = .ok (.iload_n 3, 1)) rfl ?_
          refine as_iconst X (by decide +kernel : decode cX9_isOffer 73 = .ok (.iconst 0, 1)) rfl ?_
          refine as_cv X h_X9_isOf rfl (by decide +kernel : decode cX9_isOffer 74 = .ok (.invokevirtual 151, 3)) dn_X9_isOf ml_X9_151 im_X9_isOf se_X9_isOf ini_X9 co_X9_isOf R_X9_isOf ?_
          refine as_if_ne X (tgt := 94) (by decide +kernel : decode cX9_isOffer 77 = .ok (.ifCond .ne 17, 3)) (by decide) ?_ ?_
          · refine as_aload_n X (by decide +kernel : decode cX9_isOffer 80 = .ok (.aload_n 0, 1)) rfl ?_
            refine as_iload_n X (by decide +kernel : decode cX9_isOffer 81 = .ok (.iload_n 3, 1)) rfl ?_
            refine as_aload_n X (by decide +kernel : decode cX9_isOffer 82 = .ok (.aload_n 0, 1)) rfl ?_
            refine as_get X fc_X9 (by decide +kernel : decode cX9_isOffer 83 = .ok (.getfield 142, 3)) (by decide) fl_X9_142 ?_
            refine as_iconst X (by decide +kernel : decode cX9_isOffer 86 = .ok (.iconst 1, 1)) rfl ?_
            refine as_isub X (by decide +kernel : decode cX9_isOffer 87 = .ok (.isub, 1)) ?_
            refine as_cv X h_X9_isOf rfl (by decide +kernel : decode cX9_isOffer 88 = .ok (.invokevirtual 151, 3)) dn_X9_isOf ml_X9_151 im_X9_isOf se_X9_isOf ini_X9 co_X9_isOf R_X9_isOf ?_
            refine as_if_eq X (tgt := 116) (by decide +kernel : decode cX9_isOffer 91 = .ok (.ifCond .eq 25, 3)) (by decide) ?_ ?_
            · exact fun _ _ _ h => h
            · exact fun _ _ _ h => h
          · exact fun _ _ _ h => h
        · exact fun _ _ _ h => h
  · unfold B_X9_isOffer_94
    refine as_aload_n X (by decide +kernel : decode cX9_isOffer 94 = .ok (.aload_n 0, 1)) rfl ?_
    refine as_get X fc_X9 (by decide +kernel : decode cX9_isOffer 95 = .ok (.getfield 16, 3)) (by decide) fl_X9_16 ?_
    refine as_bipush X (by decide +kernel : decode cX9_isOffer 98 = .ok (.bipush 9, 2)) rfl ?_
    refine as_iload_n X (by decide +kernel : decode cX9_isOffer 100 = .ok (.iload_n 3, 1)) rfl ?_
    refine as_imul X (by decide +kernel : decode cX9_isOffer 101 = .ok (.imul, 1)) ?_
    refine as_aload_n X (by decide +kernel : decode cX9_isOffer 102 = .ok (.aload_n 0, 1)) rfl ?_
    refine as_get X fc_X9 (by decide +kernel : decode cX9_isOffer 103 = .ok (.getfield 16, 3)) (by decide) fl_X9_16 ?_
    refine as_bipush X (by decide +kernel : decode cX9_isOffer 106 = .ok (.bipush 9, 2)) rfl ?_
    refine as_iload_n X (by decide +kernel : decode cX9_isOffer 108 = .ok (.iload_n 1, 1)) rfl ?_
    refine as_imul X (by decide +kernel : decode cX9_isOffer 109 = .ok (.imul, 1)) ?_
    refine as_cs X h_X9_isLike (by decide +kernel : decode cX9_isOffer 110 = .ok (.invokestatic 119, 3)) dn_X9_isLike ml_X9_119 st_X9_isLike ini_X9 co_X9_isLike R_X9_isLike ?_
    refine as_if_ne X (tgt := 120) (by decide +kernel : decode cX9_isOffer 113 = .ok (.ifCond .ne 7, 3)) (by decide) ?_ ?_
    · exact fun _ _ _ h => h
    · refine as_iconst X (by decide +kernel : decode cX9_isOffer 120 = .ok (.iconst 0, 1)) rfl ?_
      exact fun _ _ _ h => h
  · unfold B_X9_isOffer_116
    refine as_iconst X (by decide +kernel : decode cX9_isOffer 116 = .ok (.iconst 1, 1)) rfl ?_
    refine as_goto X (tgt := 121) (by decide +kernel : decode cX9_isOffer 117 = .ok (.goto 4, 3)) (by decide) ?_
    exact fun _ _ _ h => h
  · unfold B_X9_isOffer_121
    refine as_istore_n X (by decide +kernel : decode cX9_isOffer 121 = .ok (.istore_n 2, 1)) rfl ?_
    refine as_iinc X (by decide +kernel : decode cX9_isOffer 122 = .ok (.iinc 3 1, 3)) rfl ?_
    refine as_goto X (tgt := 53) (by decide +kernel : decode cX9_isOffer 125 = .ok (.goto (-72), 3)) (by decide) ?_
    exact fun _ _ _ h => h
  · unfold B_X9_isOffer_128
    refine as_iload_n X (by decide +kernel : decode cX9_isOffer 128 = .ok (.iload_n 2, 1)) rfl ?_
    exact as_rz X hQ hr (by decide +kernel : decode cX9_isOffer 129 = .ok (.ireturn, 1))

def B_X9_offer_0 (kX9_isOffer : am_T) (Q : am_Q) (G : Nat → am_K) : am_K := (ak_il 1 (ak_c (.int (-1)) (ak_ic (fun x y => y ≤ x) (ak_c (.int 0) (ak_is 2 (ak_c (.int 0) (ak_is 3 (G 11))))) (ak_c (.int (-1)) (ak_ri Q)))))
def B_X9_offer_11 (kX9_isOffer : am_T) (Q : am_Q) (G : Nat → am_K) : am_K := (ak_il 3 (ak_al 0 (ak_get 7 2 (ak_ic (fun x y => y ≤ x) (ak_il 1 (ak_if (fun x => 0 ≤ x) (ak_c (.int (-4)) (G 53)) (ak_il 2 (G 53)))) (ak_al 0 (ak_il 3 (ak_cv 2 7 kX9_isOffer (ak_if (fun x => x = 0) (G 37) (ak_il 2 (ak_il 1 (ak_ic (fun x y => x = y) (ak_il 3 (ak_ri Q)) (ak_ii 2 1 (G 37)))))))))))))
def B_X9_offer_37 (kX9_isOffer : am_T) (Q : am_Q) (G : Nat → am_K) : am_K := (ak_ii 3 1 (G 11))
def B_X9_offer_53 (kX9_isOffer : am_T) (Q : am_Q) (G : Nat → am_K) : am_K := (ak_ri Q)
def cl_X9_offer (kX9_isOffer : am_T) (Q : am_Q) (G : Nat → am_K) : Prop := am_N G 0 (B_X9_offer_0 kX9_isOffer Q G) ∧ am_N G 11 (B_X9_offer_11 kX9_isOffer Q G) ∧ am_N G 37 (B_X9_offer_37 kX9_isOffer Q G) ∧ am_N G 53 (B_X9_offer_53 kX9_isOffer Q G)
def WP_X9_offer (kX9_isOffer : am_T) : am_T := fun av h Q => (lg_sl av).length ≤ 4 ∧ ∀ G, cl_X9_offer kX9_isOffer Q G → G 0 (am_ent 4 av) [] h
set_option maxHeartbeats 4000000 in
set_option maxRecDepth 100000 in
theorem s_X9_offer {mX9_isOffer : Room} {kX9_isOffer : am_T} (h_X9_isOffer : am_S false yX9_isOffer (am_ws yX9_isOffer cX9_isOffer 4 (some .boolean)) mX9_isOffer kX9_isOffer) {rm : Room} (hz : rm.cells = 0 ∧ rm.slots = 0) (R_X9_isOffer : mX9_isOffer.frames + 1 ≤ rm.frames ∧ 8 + (4 + 11) + mX9_isOffer.locals ≤ rm.locals) : am_S false yX9_offer (am_ws yX9_offer cX9_offer 4 (some .int)) rm (WP_X9_offer kX9_isOffer) := by
  refine am_S.of (fun _ => hz) (by decide +kernel) (fun h0 Q G => cl_X9_offer kX9_isOffer Q G) ?_
  intro p l e s m args below meth c D h0 Q X hr hnm hQ
  refine ⟨?_, ?_, ?_, ?_⟩
  · unfold B_X9_offer_0
    refine as_iload_n X (by decide +kernel : decode cX9_offer 0 = .ok (.iload_n 1, 1)) rfl ?_
    refine as_iconst X (by decide +kernel : decode cX9_offer 1 = .ok (.iconst (-1), 1)) rfl ?_
    refine as_ic_ge X (tgt := 7) (by decide +kernel : decode cX9_offer 2 = .ok (.if_icmp .ge 5, 3)) (by decide) ?_ ?_
    · refine as_iconst X (by decide +kernel : decode cX9_offer 7 = .ok (.iconst 0, 1)) rfl ?_
      refine as_istore_n X (by decide +kernel : decode cX9_offer 8 = .ok (.istore_n 2, 1)) rfl ?_
      refine as_iconst X (by decide +kernel : decode cX9_offer 9 = .ok (.iconst 0, 1)) rfl ?_
      refine as_istore_n X (by decide +kernel : decode cX9_offer 10 = .ok (.istore_n 3, 1)) rfl ?_
      exact fun _ _ _ h => h
    · refine as_iconst X (by decide +kernel : decode cX9_offer 5 = .ok (.iconst (-1), 1)) rfl ?_
      exact as_ri X hQ hr (by decide +kernel : decode cX9_offer 6 = .ok (.ireturn, 1))
  · unfold B_X9_offer_11
    refine as_iload_n X (by decide +kernel : decode cX9_offer 11 = .ok (.iload_n 3, 1)) rfl ?_
    refine as_aload_n X (by decide +kernel : decode cX9_offer 12 = .ok (.aload_n 0, 1)) rfl ?_
    refine as_get X fc_X9 (by decide +kernel : decode cX9_offer 13 = .ok (.getfield 116, 3)) (by decide) fl_X9_116 ?_
    refine as_ic_ge X (tgt := 43) (by decide +kernel : decode cX9_offer 16 = .ok (.if_icmp .ge 27, 3)) (by decide) ?_ ?_
    · refine as_iload_n X (by decide +kernel : decode cX9_offer 43 = .ok (.iload_n 1, 1)) rfl ?_
      refine as_if_ge X (tgt := 51) (by decide +kernel : decode cX9_offer 44 = .ok (.ifCond .ge 7, 3)) (by decide) ?_ ?_
      · refine as_bipush X (by decide +kernel : decode cX9_offer 51 = .ok (.bipush (-4), 2)) rfl ?_
        exact fun _ _ _ h => h
      · refine as_iload_n X (by decide +kernel : decode cX9_offer 47 = .ok (.iload_n 2, 1)) rfl ?_
        refine as_goto X (tgt := 53) (by decide +kernel : decode cX9_offer 48 = .ok (.goto 5, 3)) (by decide) ?_
        exact fun _ _ _ h => h
    · refine as_aload_n X (by decide +kernel : decode cX9_offer 19 = .ok (.aload_n 0, 1)) rfl ?_
      refine as_iload_n X (by decide +kernel : decode cX9_offer 20 = .ok (.iload_n 3, 1)) rfl ?_
      refine as_cv X h_X9_isOffer rfl (by decide +kernel : decode cX9_offer 21 = .ok (.invokevirtual 320, 3)) dn_X9_isOffer ml_X9_320 im_X9_isOffer se_X9_isOffer ini_X9 co_X9_isOffer R_X9_isOffer ?_
      refine as_if_eq X (tgt := 37) (by decide +kernel : decode cX9_offer 24 = .ok (.ifCond .eq 13, 3)) (by decide) ?_ ?_
      · exact fun _ _ _ h => h
      · refine as_iload_n X (by decide +kernel : decode cX9_offer 27 = .ok (.iload_n 2, 1)) rfl ?_
        refine as_iload_n X (by decide +kernel : decode cX9_offer 28 = .ok (.iload_n 1, 1)) rfl ?_
        refine as_ic_ne X (tgt := 34) (by decide +kernel : decode cX9_offer 29 = .ok (.if_icmp .ne 5, 3)) (by decide) ?_ ?_
        · refine as_iload_n X (by decide +kernel : decode cX9_offer 32 = .ok (.iload_n 3, 1)) rfl ?_
          exact as_ri X hQ hr (by decide +kernel : decode cX9_offer 33 = .ok (.ireturn, 1))
        · refine as_iinc X (by decide +kernel : decode cX9_offer 34 = .ok (.iinc 2 1, 3)) rfl ?_
          exact fun _ _ _ h => h
  · unfold B_X9_offer_37
    refine as_iinc X (by decide +kernel : decode cX9_offer 37 = .ok (.iinc 3 1, 3)) rfl ?_
    refine as_goto X (tgt := 11) (by decide +kernel : decode cX9_offer 40 = .ok (.goto (-29), 3)) (by decide) ?_
    exact fun _ _ _ h => h
  · unfold B_X9_offer_53
    exact as_ri X hQ hr (by decide +kernel : decode cX9_offer 53 = .ok (.ireturn, 1))

def B_X9_goalIs_0 (Q : am_Q) (G : Nat → am_K) : am_K := (ak_c (.int 0) (ak_is 3 (G 2)))
def B_X9_goalIs_2 (Q : am_Q) (G : Nat → am_K) : am_K := (ak_il 3 (ak_al 1 (ak_il 2 (ak_iald (ak_ic (fun x y => y < x) (ak_al 0 (ak_c (.int 0) (ak_puti 7 16 (ak_rv Q)))) (ak_al 0 (ak_get 7 12 (ak_il 3 (ak_al 1 (ak_il 2 (ak_il 3 (ak_ib (fun x y => x + y) (ak_iald (ak_iast (ak_ii 3 1 (G 2))))))))))))))))
def cl_X9_goalIs (Q : am_Q) (G : Nat → am_K) : Prop := am_N G 0 (B_X9_goalIs_0 Q G) ∧ am_N G 2 (B_X9_goalIs_2 Q G)
def WP_X9_goalIs : am_T := fun av h Q => (lg_sl av).length ≤ 4 ∧ ∀ G, cl_X9_goalIs Q G → G 0 (am_ent 4 av) [] h
set_option maxHeartbeats 4000000 in
set_option maxRecDepth 100000 in
theorem s_X9_goalIs {rm : Room} (hz : rm.cells = 0 ∧ rm.slots = 0) : am_S false yX9_goalIs (am_ws yX9_goalIs cX9_goalIs 4 none) rm (WP_X9_goalIs) := by
  refine am_S.of (fun _ => hz) (by decide +kernel) (fun h0 Q G => cl_X9_goalIs Q G) ?_
  intro p l e s m args below meth c D h0 Q X hr hnm hQ
  refine ⟨?_, ?_⟩
  · unfold B_X9_goalIs_0
    refine as_iconst X (by decide +kernel : decode cX9_goalIs 0 = .ok (.iconst 0, 1)) rfl ?_
    refine as_istore_n X (by decide +kernel : decode cX9_goalIs 1 = .ok (.istore_n 3, 1)) rfl ?_
    exact fun _ _ _ h => h
  · unfold B_X9_goalIs_2
    refine as_iload_n X (by decide +kernel : decode cX9_goalIs 2 = .ok (.iload_n 3, 1)) rfl ?_
    refine as_aload_n X (by decide +kernel : decode cX9_goalIs 3 = .ok (.aload_n 1, 1)) rfl ?_
    refine as_iload_n X (by decide +kernel : decode cX9_goalIs 4 = .ok (.iload_n 2, 1)) rfl ?_
    refine as_iaload X (by decide +kernel : decode cX9_goalIs 5 = .ok (.iaload, 1)) ?_
    refine as_ic_gt X (tgt := 26) (by decide +kernel : decode cX9_goalIs 6 = .ok (.if_icmp .gt 20, 3)) (by decide) ?_ ?_
    · refine as_aload_n X (by decide +kernel : decode cX9_goalIs 26 = .ok (.aload_n 0, 1)) rfl ?_
      refine as_iconst X (by decide +kernel : decode cX9_goalIs 27 = .ok (.iconst 0, 1)) rfl ?_
      refine as_puti X fc_X9 (by decide +kernel : decode cX9_goalIs 28 = .ok (.putfield 132, 3)) (by decide) fl_X9_132 (Or.inl rfl) rfl ?_
      exact as_rv X hQ hr (by decide +kernel : decode cX9_goalIs 31 = .ok (.return_, 1))
    · refine as_aload_n X (by decide +kernel : decode cX9_goalIs 9 = .ok (.aload_n 0, 1)) rfl ?_
      refine as_get X fc_X9 (by decide +kernel : decode cX9_goalIs 10 = .ok (.getfield 34, 3)) (by decide) fl_X9_34 ?_
      refine as_iload_n X (by decide +kernel : decode cX9_goalIs 13 = .ok (.iload_n 3, 1)) rfl ?_
      refine as_aload_n X (by decide +kernel : decode cX9_goalIs 14 = .ok (.aload_n 1, 1)) rfl ?_
      refine as_iload_n X (by decide +kernel : decode cX9_goalIs 15 = .ok (.iload_n 2, 1)) rfl ?_
      refine as_iload_n X (by decide +kernel : decode cX9_goalIs 16 = .ok (.iload_n 3, 1)) rfl ?_
      refine as_iadd X (by decide +kernel : decode cX9_goalIs 17 = .ok (.iadd, 1)) ?_
      refine as_iaload X (by decide +kernel : decode cX9_goalIs 18 = .ok (.iaload, 1)) ?_
      refine as_iastore X (by decide +kernel : decode cX9_goalIs 19 = .ok (.iastore, 1)) ?_
      refine as_iinc X (by decide +kernel : decode cX9_goalIs 20 = .ok (.iinc 3 1, 3)) rfl ?_
      refine as_goto X (tgt := 2) (by decide +kernel : decode cX9_goalIs 23 = .ok (.goto (-21), 3)) (by decide) ?_
      exact fun _ _ _ h => h

def B_X9_ifOffer_0 (kX9_offer : am_T) (kX9_isIn : am_T) (kX9_goalIs : am_T) (kX9_parses : am_T) (kX9_cost : am_T) (Q : am_Q) (G : Nat → am_K) : am_K := (ak_il 1 (ak_if (fun x => 0 ≤ x) (ak_al 0 (ak_il 1 (ak_cv 2 7 kX9_offer (G 14)))) (ak_c (.int (-4)) (G 14))))
def B_X9_ifOffer_14 (kX9_offer : am_T) (kX9_isIn : am_T) (kX9_goalIs : am_T) (kX9_parses : am_T) (kX9_cost : am_T) (Q : am_Q) (G : Nat → am_K) : am_K := (ak_is 3 (ak_il 3 (ak_if (fun x => x < 0) (G 28) (ak_il 2 (ak_c (.int 0) (ak_c (.int 1) (ak_cs 3 kX9_isIn (ak_if (fun x => x = 0) (G 28) (ak_c (.int 0) (ak_is 4 (G 33)))))))))))
def B_X9_ifOffer_28 (kX9_offer : am_T) (kX9_isIn : am_T) (kX9_goalIs : am_T) (kX9_parses : am_T) (kX9_cost : am_T) (Q : am_Q) (G : Nat → am_K) : am_K := (ak_c (.int (-1)) (ak_ri Q))
def B_X9_ifOffer_33 (kX9_offer : am_T) (kX9_isIn : am_T) (kX9_goalIs : am_T) (kX9_parses : am_T) (kX9_cost : am_T) (Q : am_Q) (G : Nat → am_K) : am_K := (ak_il 4 (ak_c (.int 9) (ak_ic (fun x y => y ≤ x) (ak_al 0 (ak_al 0 (ak_get 7 4 (ak_c (.int 9) (ak_il 3 (ak_ib (fun x y => x * y) (ak_cv 3 7 kX9_goalIs (ak_il 2 (ak_if (fun x => x = 0) (ak_al 0 (ak_cv 1 7 kX9_parses (G 87))) (ak_al 0 (ak_cv 1 7 kX9_cost (G 87)))))))))))) (ak_al 0 (ak_get 7 13 (ak_il 4 (ak_al 0 (ak_get 7 12 (ak_il 4 (ak_iald (ak_iast (ak_ii 4 1 (G 33)))))))))))))
def B_X9_ifOffer_87 (kX9_offer : am_T) (kX9_isIn : am_T) (kX9_goalIs : am_T) (kX9_parses : am_T) (kX9_cost : am_T) (Q : am_Q) (G : Nat → am_K) : am_K := (ak_is 4 (ak_al 0 (ak_al 0 (ak_get 7 13 (ak_c (.int 0) (ak_cv 3 7 kX9_goalIs (ak_il 4 (ak_ri Q))))))))
def cl_X9_ifOffer (kX9_offer : am_T) (kX9_isIn : am_T) (kX9_goalIs : am_T) (kX9_parses : am_T) (kX9_cost : am_T) (Q : am_Q) (G : Nat → am_K) : Prop := am_N G 0 (B_X9_ifOffer_0 kX9_offer kX9_isIn kX9_goalIs kX9_parses kX9_cost Q G) ∧ am_N G 14 (B_X9_ifOffer_14 kX9_offer kX9_isIn kX9_goalIs kX9_parses kX9_cost Q G) ∧ am_N G 28 (B_X9_ifOffer_28 kX9_offer kX9_isIn kX9_goalIs kX9_parses kX9_cost Q G) ∧ am_N G 33 (B_X9_ifOffer_33 kX9_offer kX9_isIn kX9_goalIs kX9_parses kX9_cost Q G) ∧ am_N G 87 (B_X9_ifOffer_87 kX9_offer kX9_isIn kX9_goalIs kX9_parses kX9_cost Q G)
def WP_X9_ifOffer (kX9_offer : am_T) (kX9_isIn : am_T) (kX9_goalIs : am_T) (kX9_parses : am_T) (kX9_cost : am_T) : am_T := fun av h Q => (lg_sl av).length ≤ 5 ∧ ∀ G, cl_X9_ifOffer kX9_offer kX9_isIn kX9_goalIs kX9_parses kX9_cost Q G → G 0 (am_ent 5 av) [] h
set_option maxHeartbeats 4000000 in
set_option maxRecDepth 100000 in
theorem s_X9_ifOffer {mX9_offer : Room} {kX9_offer : am_T} (h_X9_offer : am_S false yX9_offer (am_ws yX9_offer cX9_offer 4 (some .int)) mX9_offer kX9_offer) {mX9_isIn : Room} {kX9_isIn : am_T} (h_X9_isIn : am_S false yX9_isIn (am_ws yX9_isIn cX9_isIn 3 (some .boolean)) mX9_isIn kX9_isIn) {mX9_goalIs : Room} {kX9_goalIs : am_T} (h_X9_goalIs : am_S false yX9_goalIs (am_ws yX9_goalIs cX9_goalIs 4 none) mX9_goalIs kX9_goalIs) {mX9_parses : Room} {kX9_parses : am_T} (h_X9_parses : am_S false yX9_parses (am_ws yX9_parses cX9_parses 1 (some .int)) mX9_parses kX9_parses) {mX9_cost : Room} {kX9_cost : am_T} (h_X9_cost : am_S false yX9_cost (am_ws yX9_cost cX9_cost 1 (some .int)) mX9_cost kX9_cost) {rm : Room} (hz : rm.cells = 0 ∧ rm.slots = 0) (R_X9_offer : mX9_offer.frames + 1 ≤ rm.frames ∧ 8 + (4 + 11) + mX9_offer.locals ≤ rm.locals) (R_X9_isIn : mX9_isIn.frames + 1 ≤ rm.frames ∧ 8 + (3 + 11) + mX9_isIn.locals ≤ rm.locals) (R_X9_goalIs : mX9_goalIs.frames + 1 ≤ rm.frames ∧ 8 + (4 + 11) + mX9_goalIs.locals ≤ rm.locals) (R_X9_parses : mX9_parses.frames + 1 ≤ rm.frames ∧ 8 + (1 + 11) + mX9_parses.locals ≤ rm.locals) (R_X9_cost : mX9_cost.frames + 1 ≤ rm.frames ∧ 8 + (1 + 11) + mX9_cost.locals ≤ rm.locals) : am_S false yX9_ifOffer (am_ws yX9_ifOffer cX9_ifOffer 5 (some .int)) rm (WP_X9_ifOffer kX9_offer kX9_isIn kX9_goalIs kX9_parses kX9_cost) := by
  refine am_S.of (fun _ => hz) (by decide +kernel) (fun h0 Q G => cl_X9_ifOffer kX9_offer kX9_isIn kX9_goalIs kX9_parses kX9_cost Q G) ?_
  intro p l e s m args below meth c D h0 Q X hr hnm hQ
  refine ⟨?_, ?_, ?_, ?_, ?_⟩
  · unfold B_X9_ifOffer_0
    refine as_iload_n X (by decide +kernel : decode cX9_ifOffer 0 = .ok (.iload_n 1, 1)) rfl ?_
    refine as_if_ge X (tgt := 9) (by decide +kernel : decode cX9_ifOffer 1 = .ok (.ifCond .ge 8, 3)) (by decide) ?_ ?_
    · refine as_aload_n X (by decide +kernel : decode cX9_ifOffer 9 = .ok (.aload_n 0, 1)) rfl ?_
      refine as_iload_n X (by decide +kernel : decode cX9_ifOffer 10 = .ok (.iload_n 1, 1)) rfl ?_
      refine as_cv X h_X9_offer rfl (by decide +kernel : decode cX9_ifOffer 11 = .ok (.invokevirtual 323, 3)) dn_X9_offer ml_X9_323 im_X9_offer se_X9_offer ini_X9 co_X9_offer R_X9_offer ?_
      exact fun _ _ _ h => h
    · refine as_bipush X (by decide +kernel : decode cX9_ifOffer 4 = .ok (.bipush (-4), 2)) rfl ?_
      refine as_goto X (tgt := 14) (by decide +kernel : decode cX9_ifOffer 6 = .ok (.goto 8, 3)) (by decide) ?_
      exact fun _ _ _ h => h
  · unfold B_X9_ifOffer_14
    refine as_istore_n X (by decide +kernel : decode cX9_ifOffer 14 = .ok (.istore_n 3, 1)) rfl ?_
    refine as_iload_n X (by decide +kernel : decode cX9_ifOffer 15 = .ok (.iload_n 3, 1)) rfl ?_
    refine as_if_lt X (tgt := 28) (by decide +kernel : decode cX9_ifOffer 16 = .ok (.ifCond .lt 12, 3)) (by decide) ?_ ?_
    · exact fun _ _ _ h => h
    · refine as_iload_n X (by decide +kernel : decode cX9_ifOffer 19 = .ok (.iload_n 2, 1)) rfl ?_
      refine as_iconst X (by decide +kernel : decode cX9_ifOffer 20 = .ok (.iconst 0, 1)) rfl ?_
      refine as_iconst X (by decide +kernel : decode cX9_ifOffer 21 = .ok (.iconst 1, 1)) rfl ?_
      refine as_cs X h_X9_isIn (by decide +kernel : decode cX9_ifOffer 22 = .ok (.invokestatic 135, 3)) dn_X9_isIn ml_X9_135 st_X9_isIn ini_X9 co_X9_isIn R_X9_isIn ?_
      refine as_if_ne X (tgt := 30) (by decide +kernel : decode cX9_ifOffer 25 = .ok (.ifCond .ne 5, 3)) (by decide) ?_ ?_
      · exact fun _ _ _ h => h
      · refine as_iconst X (by decide +kernel : decode cX9_ifOffer 30 = .ok (.iconst 0, 1)) rfl ?_
        refine as_istore X (by decide +kernel : decode cX9_ifOffer 31 = .ok (.istore 4, 2)) ?_
        exact fun _ _ _ h => h
  · unfold B_X9_ifOffer_28
    refine as_iconst X (by decide +kernel : decode cX9_ifOffer 28 = .ok (.iconst (-1), 1)) rfl ?_
    exact as_ri X hQ hr (by decide +kernel : decode cX9_ifOffer 29 = .ok (.ireturn, 1))
  · unfold B_X9_ifOffer_33
    refine as_iload X (by decide +kernel : decode cX9_ifOffer 33 = .ok (.iload 4, 2)) ?_
    refine as_bipush X (by decide +kernel : decode cX9_ifOffer 35 = .ok (.bipush 9, 2)) rfl ?_
    refine as_ic_ge X (tgt := 60) (by decide +kernel : decode cX9_ifOffer 37 = .ok (.if_icmp .ge 23, 3)) (by decide) ?_ ?_
    · refine as_aload_n X (by decide +kernel : decode cX9_ifOffer 60 = .ok (.aload_n 0, 1)) rfl ?_
      refine as_aload_n X (by decide +kernel : decode cX9_ifOffer 61 = .ok (.aload_n 0, 1)) rfl ?_
      refine as_get X fc_X9 (by decide +kernel : decode cX9_ifOffer 62 = .ok (.getfield 16, 3)) (by decide) fl_X9_16 ?_
      refine as_bipush X (by decide +kernel : decode cX9_ifOffer 65 = .ok (.bipush 9, 2)) rfl ?_
      refine as_iload_n X (by decide +kernel : decode cX9_ifOffer 67 = .ok (.iload_n 3, 1)) rfl ?_
      refine as_imul X (by decide +kernel : decode cX9_ifOffer 68 = .ok (.imul, 1)) ?_
      refine as_cv X h_X9_goalIs rfl (by decide +kernel : decode cX9_ifOffer 69 = .ok (.invokevirtual 326, 3)) dn_X9_goalIs ml_X9_326 im_X9_goalIs se_X9_goalIs ini_X9 co_X9_goalIs R_X9_goalIs ?_
      refine as_iload_n X (by decide +kernel : decode cX9_ifOffer 72 = .ok (.iload_n 2, 1)) rfl ?_
      refine as_if_ne X (tgt := 83) (by decide +kernel : decode cX9_ifOffer 73 = .ok (.ifCond .ne 10, 3)) (by decide) ?_ ?_
      · refine as_aload_n X (by decide +kernel : decode cX9_ifOffer 76 = .ok (.aload_n 0, 1)) rfl ?_
        refine as_cv X h_X9_parses rfl (by decide +kernel : decode cX9_ifOffer 77 = .ok (.invokevirtual 329, 3)) dn_X9_parses ml_X9_329 im_X9_parses se_X9_parses ini_X9 co_X9_parses R_X9_parses ?_
        refine as_goto X (tgt := 87) (by decide +kernel : decode cX9_ifOffer 80 = .ok (.goto 7, 3)) (by decide) ?_
        exact fun _ _ _ h => h
      · refine as_aload_n X (by decide +kernel : decode cX9_ifOffer 83 = .ok (.aload_n 0, 1)) rfl ?_
        refine as_cv X h_X9_cost rfl (by decide +kernel : decode cX9_ifOffer 84 = .ok (.invokevirtual 332, 3)) dn_X9_cost ml_X9_332 im_X9_cost se_X9_cost ini_X9 co_X9_cost R_X9_cost ?_
        exact fun _ _ _ h => h
    · refine as_aload_n X (by decide +kernel : decode cX9_ifOffer 40 = .ok (.aload_n 0, 1)) rfl ?_
      refine as_get X fc_X9 (by decide +kernel : decode cX9_ifOffer 41 = .ok (.getfield 37, 3)) (by decide) fl_X9_37 ?_
      refine as_iload X (by decide +kernel : decode cX9_ifOffer 44 = .ok (.iload 4, 2)) ?_
      refine as_aload_n X (by decide +kernel : decode cX9_ifOffer 46 = .ok (.aload_n 0, 1)) rfl ?_
      refine as_get X fc_X9 (by decide +kernel : decode cX9_ifOffer 47 = .ok (.getfield 34, 3)) (by decide) fl_X9_34 ?_
      refine as_iload X (by decide +kernel : decode cX9_ifOffer 50 = .ok (.iload 4, 2)) ?_
      refine as_iaload X (by decide +kernel : decode cX9_ifOffer 52 = .ok (.iaload, 1)) ?_
      refine as_iastore X (by decide +kernel : decode cX9_ifOffer 53 = .ok (.iastore, 1)) ?_
      refine as_iinc X (by decide +kernel : decode cX9_ifOffer 54 = .ok (.iinc 4 1, 3)) rfl ?_
      refine as_goto X (tgt := 33) (by decide +kernel : decode cX9_ifOffer 57 = .ok (.goto (-24), 3)) (by decide) ?_
      exact fun _ _ _ h => h
  · unfold B_X9_ifOffer_87
    refine as_istore X (by decide +kernel : decode cX9_ifOffer 87 = .ok (.istore 4, 2)) ?_
    refine as_aload_n X (by decide +kernel : decode cX9_ifOffer 89 = .ok (.aload_n 0, 1)) rfl ?_
    refine as_aload_n X (by decide +kernel : decode cX9_ifOffer 90 = .ok (.aload_n 0, 1)) rfl ?_
    refine as_get X fc_X9 (by decide +kernel : decode cX9_ifOffer 91 = .ok (.getfield 37, 3)) (by decide) fl_X9_37 ?_
    refine as_iconst X (by decide +kernel : decode cX9_ifOffer 94 = .ok (.iconst 0, 1)) rfl ?_
    refine as_cv X h_X9_goalIs rfl (by decide +kernel : decode cX9_ifOffer 95 = .ok (.invokevirtual 326, 3)) dn_X9_goalIs ml_X9_326 im_X9_goalIs se_X9_goalIs ini_X9 co_X9_goalIs R_X9_goalIs ?_
    refine as_iload X (by decide +kernel : decode cX9_ifOffer 98 = .ok (.iload 4, 2)) ?_
    exact as_ri X hQ hr (by decide +kernel : decode cX9_ifOffer 100 = .ok (.ireturn, 1))

def B_X9_take_0 (kX9_offer : am_T) (kX9_isLike : am_T) (kX9_goalIs : am_T) (Q : am_Q) (G : Nat → am_K) : am_K := (ak_il 1 (ak_if (fun x => 0 ≤ x) (ak_al 0 (ak_il 1 (ak_cv 2 7 kX9_offer (G 14)))) (ak_c (.int (-4)) (G 14))))
def B_X9_take_14 (kX9_offer : am_T) (kX9_isLike : am_T) (kX9_goalIs : am_T) (Q : am_Q) (G : Nat → am_K) : am_K := (ak_is 2 (ak_il 2 (ak_if (fun x => 0 ≤ x) (ak_al 0 (ak_get 7 4 (ak_c (.int 9) (ak_il 2 (ak_ib (fun x y => x * y) (ak_al 0 (ak_get 7 12 (ak_c (.int 0) (ak_cs 4 kX9_isLike (ak_if (fun x => x = 0) (ak_al 0 (ak_al 0 (ak_get 7 4 (ak_c (.int 9) (ak_il 2 (ak_ib (fun x y => x * y) (ak_cv 3 7 kX9_goalIs (ak_al 0 (ak_get 7 12 (ak_c (.int 0) (ak_iald (ak_ri Q)))))))))))) (ak_c (.int (-2)) (ak_ri Q)))))))))))) (ak_c (.int (-1)) (ak_ri Q)))))
def cl_X9_take (kX9_offer : am_T) (kX9_isLike : am_T) (kX9_goalIs : am_T) (Q : am_Q) (G : Nat → am_K) : Prop := am_N G 0 (B_X9_take_0 kX9_offer kX9_isLike kX9_goalIs Q G) ∧ am_N G 14 (B_X9_take_14 kX9_offer kX9_isLike kX9_goalIs Q G)
def WP_X9_take (kX9_offer : am_T) (kX9_isLike : am_T) (kX9_goalIs : am_T) : am_T := fun av h Q => (lg_sl av).length ≤ 3 ∧ ∀ G, cl_X9_take kX9_offer kX9_isLike kX9_goalIs Q G → G 0 (am_ent 3 av) [] h
set_option maxHeartbeats 4000000 in
set_option maxRecDepth 100000 in
theorem s_X9_take {mX9_offer : Room} {kX9_offer : am_T} (h_X9_offer : am_S false yX9_offer (am_ws yX9_offer cX9_offer 4 (some .int)) mX9_offer kX9_offer) {mX9_isLike : Room} {kX9_isLike : am_T} (h_X9_isLike : am_S false yX9_isLike (am_ws yX9_isLike cX9_isLike 6 (some .boolean)) mX9_isLike kX9_isLike) {mX9_goalIs : Room} {kX9_goalIs : am_T} (h_X9_goalIs : am_S false yX9_goalIs (am_ws yX9_goalIs cX9_goalIs 4 none) mX9_goalIs kX9_goalIs) {rm : Room} (hz : rm.cells = 0 ∧ rm.slots = 0) (R_X9_offer : mX9_offer.frames + 1 ≤ rm.frames ∧ 8 + (4 + 11) + mX9_offer.locals ≤ rm.locals) (R_X9_isLike : mX9_isLike.frames + 1 ≤ rm.frames ∧ 8 + (6 + 11) + mX9_isLike.locals ≤ rm.locals) (R_X9_goalIs : mX9_goalIs.frames + 1 ≤ rm.frames ∧ 8 + (4 + 11) + mX9_goalIs.locals ≤ rm.locals) : am_S false yX9_take (am_ws yX9_take cX9_take 3 (some .int)) rm (WP_X9_take kX9_offer kX9_isLike kX9_goalIs) := by
  refine am_S.of (fun _ => hz) (by decide +kernel) (fun h0 Q G => cl_X9_take kX9_offer kX9_isLike kX9_goalIs Q G) ?_
  intro p l e s m args below meth c D h0 Q X hr hnm hQ
  refine ⟨?_, ?_⟩
  · unfold B_X9_take_0
    refine as_iload_n X (by decide +kernel : decode cX9_take 0 = .ok (.iload_n 1, 1)) rfl ?_
    refine as_if_ge X (tgt := 9) (by decide +kernel : decode cX9_take 1 = .ok (.ifCond .ge 8, 3)) (by decide) ?_ ?_
    · refine as_aload_n X (by decide +kernel : decode cX9_take 9 = .ok (.aload_n 0, 1)) rfl ?_
      refine as_iload_n X (by decide +kernel : decode cX9_take 10 = .ok (.iload_n 1, 1)) rfl ?_
      refine as_cv X h_X9_offer rfl (by decide +kernel : decode cX9_take 11 = .ok (.invokevirtual 323, 3)) dn_X9_offer ml_X9_323 im_X9_offer se_X9_offer ini_X9 co_X9_offer R_X9_offer ?_
      exact fun _ _ _ h => h
    · refine as_bipush X (by decide +kernel : decode cX9_take 4 = .ok (.bipush (-4), 2)) rfl ?_
      refine as_goto X (tgt := 14) (by decide +kernel : decode cX9_take 6 = .ok (.goto 8, 3)) (by decide) ?_
      exact fun _ _ _ h => h
  · unfold B_X9_take_14
    refine as_istore_n X (by decide +kernel : decode cX9_take 14 = .ok (.istore_n 2, 1)) rfl ?_
    refine as_iload_n X (by decide +kernel : decode cX9_take 15 = .ok (.iload_n 2, 1)) rfl ?_
    refine as_if_ge X (tgt := 21) (by decide +kernel : decode cX9_take 16 = .ok (.ifCond .ge 5, 3)) (by decide) ?_ ?_
    · refine as_aload_n X (by decide +kernel : decode cX9_take 21 = .ok (.aload_n 0, 1)) rfl ?_
      refine as_get X fc_X9 (by decide +kernel : decode cX9_take 22 = .ok (.getfield 16, 3)) (by decide) fl_X9_16 ?_
      refine as_bipush X (by decide +kernel : decode cX9_take 25 = .ok (.bipush 9, 2)) rfl ?_
      refine as_iload_n X (by decide +kernel : decode cX9_take 27 = .ok (.iload_n 2, 1)) rfl ?_
      refine as_imul X (by decide +kernel : decode cX9_take 28 = .ok (.imul, 1)) ?_
      refine as_aload_n X (by decide +kernel : decode cX9_take 29 = .ok (.aload_n 0, 1)) rfl ?_
      refine as_get X fc_X9 (by decide +kernel : decode cX9_take 30 = .ok (.getfield 34, 3)) (by decide) fl_X9_34 ?_
      refine as_iconst X (by decide +kernel : decode cX9_take 33 = .ok (.iconst 0, 1)) rfl ?_
      refine as_cs X h_X9_isLike (by decide +kernel : decode cX9_take 34 = .ok (.invokestatic 119, 3)) dn_X9_isLike ml_X9_119 st_X9_isLike ini_X9 co_X9_isLike R_X9_isLike ?_
      refine as_if_eq X (tgt := 43) (by decide +kernel : decode cX9_take 37 = .ok (.ifCond .eq 6, 3)) (by decide) ?_ ?_
      · refine as_aload_n X (by decide +kernel : decode cX9_take 43 = .ok (.aload_n 0, 1)) rfl ?_
        refine as_aload_n X (by decide +kernel : decode cX9_take 44 = .ok (.aload_n 0, 1)) rfl ?_
        refine as_get X fc_X9 (by decide +kernel : decode cX9_take 45 = .ok (.getfield 16, 3)) (by decide) fl_X9_16 ?_
        refine as_bipush X (by decide +kernel : decode cX9_take 48 = .ok (.bipush 9, 2)) rfl ?_
        refine as_iload_n X (by decide +kernel : decode cX9_take 50 = .ok (.iload_n 2, 1)) rfl ?_
        refine as_imul X (by decide +kernel : decode cX9_take 51 = .ok (.imul, 1)) ?_
        refine as_cv X h_X9_goalIs rfl (by decide +kernel : decode cX9_take 52 = .ok (.invokevirtual 326, 3)) dn_X9_goalIs ml_X9_326 im_X9_goalIs se_X9_goalIs ini_X9 co_X9_goalIs R_X9_goalIs ?_
        refine as_aload_n X (by decide +kernel : decode cX9_take 55 = .ok (.aload_n 0, 1)) rfl ?_
        refine as_get X fc_X9 (by decide +kernel : decode cX9_take 56 = .ok (.getfield 34, 3)) (by decide) fl_X9_34 ?_
        refine as_iconst X (by decide +kernel : decode cX9_take 59 = .ok (.iconst 0, 1)) rfl ?_
        refine as_iaload X (by decide +kernel : decode cX9_take 60 = .ok (.iaload, 1)) ?_
        exact as_ri X hQ hr (by decide +kernel : decode cX9_take 61 = .ok (.ireturn, 1))
      · refine as_bipush X (by decide +kernel : decode cX9_take 40 = .ok (.bipush (-2), 2)) rfl ?_
        exact as_ri X hQ hr (by decide +kernel : decode cX9_take 42 = .ok (.ireturn, 1))
    · refine as_iconst X (by decide +kernel : decode cX9_take 19 = .ok (.iconst (-1), 1)) rfl ?_
      exact as_ri X hQ hr (by decide +kernel : decode cX9_take 20 = .ok (.ireturn, 1))

def B_X9_without1_0 (kX9_parses : am_T) (Q : am_Q) (G : Nat → am_K) : am_K := (ak_al 0 (ak_il 1 (ak_puti 7 18 (ak_al 0 (ak_c (.int 0) (ak_puti 7 16 (ak_al 0 (ak_cv 1 7 kX9_parses (ak_is 2 (ak_al 0 (ak_c (.int (-1)) (ak_puti 7 18 (ak_al 0 (ak_c (.int 0) (ak_puti 7 16 (ak_il 2 (ak_ri Q)))))))))))))))))
def cl_X9_without1 (kX9_parses : am_T) (Q : am_Q) (G : Nat → am_K) : Prop := am_N G 0 (B_X9_without1_0 kX9_parses Q G)
def WP_X9_without1 (kX9_parses : am_T) : am_T := fun av h Q => (lg_sl av).length ≤ 3 ∧ ∀ G, cl_X9_without1 kX9_parses Q G → G 0 (am_ent 3 av) [] h
set_option maxHeartbeats 4000000 in
set_option maxRecDepth 100000 in
theorem s_X9_without1 {mX9_parses : Room} {kX9_parses : am_T} (h_X9_parses : am_S false yX9_parses (am_ws yX9_parses cX9_parses 1 (some .int)) mX9_parses kX9_parses) {rm : Room} (hz : rm.cells = 0 ∧ rm.slots = 0) (R_X9_parses : mX9_parses.frames + 1 ≤ rm.frames ∧ 8 + (1 + 11) + mX9_parses.locals ≤ rm.locals) : am_S false yX9_without1 (am_ws yX9_without1 cX9_without1 3 (some .int)) rm (WP_X9_without1 kX9_parses) := by
  refine am_S.of (fun _ => hz) (by decide +kernel) (fun h0 Q G => cl_X9_without1 kX9_parses Q G) ?_
  intro p l e s m args below meth c D h0 Q X hr hnm hQ
  show am_N _ 0 (B_X9_without1_0  kX9_parses Q _)
  · unfold B_X9_without1_0
    refine as_aload_n X (by decide +kernel : decode cX9_without1 0 = .ok (.aload_n 0, 1)) rfl ?_
    refine as_iload_n X (by decide +kernel : decode cX9_without1 1 = .ok (.iload_n 1, 1)) rfl ?_
    refine as_puti X fc_X9 (by decide +kernel : decode cX9_without1 2 = .ok (.putfield 47, 3)) (by decide) fl_X9_47 (Or.inl rfl) rfl ?_
    refine as_aload_n X (by decide +kernel : decode cX9_without1 5 = .ok (.aload_n 0, 1)) rfl ?_
    refine as_iconst X (by decide +kernel : decode cX9_without1 6 = .ok (.iconst 0, 1)) rfl ?_
    refine as_puti X fc_X9 (by decide +kernel : decode cX9_without1 7 = .ok (.putfield 132, 3)) (by decide) fl_X9_132 (Or.inl rfl) rfl ?_
    refine as_aload_n X (by decide +kernel : decode cX9_without1 10 = .ok (.aload_n 0, 1)) rfl ?_
    refine as_cv X h_X9_parses rfl (by decide +kernel : decode cX9_without1 11 = .ok (.invokevirtual 329, 3)) dn_X9_parses ml_X9_329 im_X9_parses se_X9_parses ini_X9 co_X9_parses R_X9_parses ?_
    refine as_istore_n X (by decide +kernel : decode cX9_without1 14 = .ok (.istore_n 2, 1)) rfl ?_
    refine as_aload_n X (by decide +kernel : decode cX9_without1 15 = .ok (.aload_n 0, 1)) rfl ?_
    refine as_iconst X (by decide +kernel : decode cX9_without1 16 = .ok (.iconst (-1), 1)) rfl ?_
    refine as_puti X fc_X9 (by decide +kernel : decode cX9_without1 17 = .ok (.putfield 47, 3)) (by decide) fl_X9_47 (Or.inl rfl) rfl ?_
    refine as_aload_n X (by decide +kernel : decode cX9_without1 20 = .ok (.aload_n 0, 1)) rfl ?_
    refine as_iconst X (by decide +kernel : decode cX9_without1 21 = .ok (.iconst 0, 1)) rfl ?_
    refine as_puti X fc_X9 (by decide +kernel : decode cX9_without1 22 = .ok (.putfield 132, 3)) (by decide) fl_X9_132 (Or.inl rfl) rfl ?_
    refine as_iload_n X (by decide +kernel : decode cX9_without1 25 = .ok (.iload_n 2, 1)) rfl ?_
    exact as_ri X hQ hr (by decide +kernel : decode cX9_without1 26 = .ok (.ireturn, 1))

def B_X9_without_0 (kX9_isEntry : am_T) (kX9_without1 : am_T) (Q : am_Q) (G : Nat → am_K) : am_K := (ak_al 0 (ak_il 1 (ak_cv 2 7 kX9_isEntry (ak_if (fun x => x = 0) (ak_c (.int (-1)) (G 17)) (ak_al 0 (ak_il 1 (ak_cv 2 7 kX9_without1 (G 17))))))))
def B_X9_without_17 (kX9_isEntry : am_T) (kX9_without1 : am_T) (Q : am_Q) (G : Nat → am_K) : am_K := (ak_ri Q)
def cl_X9_without (kX9_isEntry : am_T) (kX9_without1 : am_T) (Q : am_Q) (G : Nat → am_K) : Prop := am_N G 0 (B_X9_without_0 kX9_isEntry kX9_without1 Q G) ∧ am_N G 17 (B_X9_without_17 kX9_isEntry kX9_without1 Q G)
def WP_X9_without (kX9_isEntry : am_T) (kX9_without1 : am_T) : am_T := fun av h Q => (lg_sl av).length ≤ 2 ∧ ∀ G, cl_X9_without kX9_isEntry kX9_without1 Q G → G 0 (am_ent 2 av) [] h
set_option maxHeartbeats 4000000 in
set_option maxRecDepth 100000 in
theorem s_X9_without {mX9_isEntry : Room} {kX9_isEntry : am_T} (h_X9_isEntry : am_S false yX9_isEntry (am_ws yX9_isEntry cX9_isEntry 2 (some .boolean)) mX9_isEntry kX9_isEntry) {mX9_without1 : Room} {kX9_without1 : am_T} (h_X9_without1 : am_S false yX9_without1 (am_ws yX9_without1 cX9_without1 3 (some .int)) mX9_without1 kX9_without1) {rm : Room} (hz : rm.cells = 0 ∧ rm.slots = 0) (R_X9_isEntry : mX9_isEntry.frames + 1 ≤ rm.frames ∧ 8 + (2 + 11) + mX9_isEntry.locals ≤ rm.locals) (R_X9_without1 : mX9_without1.frames + 1 ≤ rm.frames ∧ 8 + (3 + 11) + mX9_without1.locals ≤ rm.locals) : am_S false yX9_without (am_ws yX9_without cX9_without 2 (some .int)) rm (WP_X9_without kX9_isEntry kX9_without1) := by
  refine am_S.of (fun _ => hz) (by decide +kernel) (fun h0 Q G => cl_X9_without kX9_isEntry kX9_without1 Q G) ?_
  intro p l e s m args below meth c D h0 Q X hr hnm hQ
  refine ⟨?_, ?_⟩
  · unfold B_X9_without_0
    refine as_aload_n X (by decide +kernel : decode cX9_without 0 = .ok (.aload_n 0, 1)) rfl ?_
    refine as_iload_n X (by decide +kernel : decode cX9_without 1 = .ok (.iload_n 1, 1)) rfl ?_
    refine as_cv X h_X9_isEntry rfl (by decide +kernel : decode cX9_without 2 = .ok (.invokevirtual 139, 3)) dn_X9_isEntry ml_X9_139 im_X9_isEntry se_X9_isEntry ini_X9 co_X9_isEntry R_X9_isEntry ?_
    refine as_if_eq X (tgt := 16) (by decide +kernel : decode cX9_without 5 = .ok (.ifCond .eq 11, 3)) (by decide) ?_ ?_
    · refine as_iconst X (by decide +kernel : decode cX9_without 16 = .ok (.iconst (-1), 1)) rfl ?_
      exact fun _ _ _ h => h
    · refine as_aload_n X (by decide +kernel : decode cX9_without 8 = .ok (.aload_n 0, 1)) rfl ?_
      refine as_iload_n X (by decide +kernel : decode cX9_without 9 = .ok (.iload_n 1, 1)) rfl ?_
      refine as_cv X h_X9_without1 rfl (by decide +kernel : decode cX9_without 10 = .ok (.invokevirtual 334, 3)) dn_X9_without1 ml_X9_334 im_X9_without1 se_X9_without1 ini_X9 co_X9_without1 R_X9_without1 ?_
      refine as_goto X (tgt := 17) (by decide +kernel : decode cX9_without 13 = .ok (.goto 4, 3)) (by decide) ?_
      exact fun _ _ _ h => h
  · unfold B_X9_without_17
    exact as_ri X hQ hr (by decide +kernel : decode cX9_without 17 = .ok (.ireturn, 1))

def B_X9_count_0 (kX9_offer : am_T) (kX9_parses : am_T) (kX9_without1 : am_T) (Q : am_Q) (G : Nat → am_K) : am_K := (ak_il 1 (ak_sw (0) (6) [(ak_al 0 (ak_get 7 2 (ak_ri Q))), (ak_al 0 (ak_get 7 10 (ak_ri Q))), (ak_al 0 (ak_get 7 12 (ak_c (.int 0) (ak_iald (ak_ri Q))))), (ak_al 0 (ak_c (.int (-1)) (ak_cv 2 7 kX9_offer (ak_ri Q)))), (ak_al 0 (ak_get 7 0 (ak_ri Q))), (ak_al 0 (ak_cv 1 7 kX9_parses (ak_is 2 (ak_c (.int 0) (ak_is 3 (ak_c (.int 0) (ak_is 4 (G 82)))))))), (ak_c (.int 0) (ak_is 4 (ak_c (.int 0) (ak_is 5 (G 123)))))] (ak_c (.int (-1)) (ak_ri Q))))
def B_X9_count_82 (kX9_offer : am_T) (kX9_parses : am_T) (kX9_without1 : am_T) (Q : am_Q) (G : Nat → am_K) : am_K := (ak_il 4 (ak_al 0 (ak_get 7 2 (ak_ic (fun x y => y ≤ x) (ak_il 3 (ak_ri Q)) (ak_il 3 (ak_al 0 (ak_il 4 (ak_cv 2 7 kX9_without1 (ak_il 2 (ak_ic (fun x y => y ≤ x) (ak_c (.int 0) (G 107)) (ak_c (.int 1) (G 107))))))))))))
def B_X9_count_107 (kX9_offer : am_T) (kX9_parses : am_T) (kX9_without1 : am_T) (Q : am_Q) (G : Nat → am_K) : am_K := (ak_ib (fun x y => x + y) (ak_is 3 (ak_ii 4 1 (G 82))))
def B_X9_count_123 (kX9_offer : am_T) (kX9_parses : am_T) (kX9_without1 : am_T) (Q : am_Q) (G : Nat → am_K) : am_K := (ak_il 5 (ak_al 0 (ak_get 7 2 (ak_ic (fun x y => y ≤ x) (ak_il 4 (ak_ri Q)) (ak_il 4 (ak_al 0 (ak_get 7 5 (ak_il 5 (ak_iald (ak_if (fun x => x = 0) (ak_c (.int 1) (G 149)) (ak_c (.int 0) (G 149))))))))))))
def B_X9_count_149 (kX9_offer : am_T) (kX9_parses : am_T) (kX9_without1 : am_T) (Q : am_Q) (G : Nat → am_K) : am_K := (ak_ib (fun x y => x + y) (ak_is 4 (ak_ii 5 1 (G 123))))
def cl_X9_count (kX9_offer : am_T) (kX9_parses : am_T) (kX9_without1 : am_T) (Q : am_Q) (G : Nat → am_K) : Prop := am_N G 0 (B_X9_count_0 kX9_offer kX9_parses kX9_without1 Q G) ∧ am_N G 82 (B_X9_count_82 kX9_offer kX9_parses kX9_without1 Q G) ∧ am_N G 107 (B_X9_count_107 kX9_offer kX9_parses kX9_without1 Q G) ∧ am_N G 123 (B_X9_count_123 kX9_offer kX9_parses kX9_without1 Q G) ∧ am_N G 149 (B_X9_count_149 kX9_offer kX9_parses kX9_without1 Q G)
def WP_X9_count (kX9_offer : am_T) (kX9_parses : am_T) (kX9_without1 : am_T) : am_T := fun av h Q => (lg_sl av).length ≤ 6 ∧ ∀ G, cl_X9_count kX9_offer kX9_parses kX9_without1 Q G → G 0 (am_ent 6 av) [] h
set_option maxHeartbeats 4000000 in
set_option maxRecDepth 100000 in
theorem s_X9_count {mX9_offer : Room} {kX9_offer : am_T} (h_X9_offer : am_S false yX9_offer (am_ws yX9_offer cX9_offer 4 (some .int)) mX9_offer kX9_offer) {mX9_parses : Room} {kX9_parses : am_T} (h_X9_parses : am_S false yX9_parses (am_ws yX9_parses cX9_parses 1 (some .int)) mX9_parses kX9_parses) {mX9_without1 : Room} {kX9_without1 : am_T} (h_X9_without1 : am_S false yX9_without1 (am_ws yX9_without1 cX9_without1 3 (some .int)) mX9_without1 kX9_without1) {rm : Room} (hz : rm.cells = 0 ∧ rm.slots = 0) (R_X9_offer : mX9_offer.frames + 1 ≤ rm.frames ∧ 8 + (4 + 11) + mX9_offer.locals ≤ rm.locals) (R_X9_parses : mX9_parses.frames + 1 ≤ rm.frames ∧ 8 + (1 + 11) + mX9_parses.locals ≤ rm.locals) (R_X9_without1 : mX9_without1.frames + 1 ≤ rm.frames ∧ 8 + (3 + 11) + mX9_without1.locals ≤ rm.locals) : am_S false yX9_count (am_ws yX9_count cX9_count 6 (some .int)) rm (WP_X9_count kX9_offer kX9_parses kX9_without1) := by
  refine am_S.of (fun _ => hz) (by decide +kernel) (fun h0 Q G => cl_X9_count kX9_offer kX9_parses kX9_without1 Q G) ?_
  intro p l e s m args below meth c D h0 Q X hr hnm hQ
  refine ⟨?_, ?_, ?_, ?_, ?_⟩
  · unfold B_X9_count_0
    refine as_iload_n X (by decide +kernel : decode cX9_count 0 = .ok (.iload_n 1, 1)) rfl ?_
    refine as_sw X (td := 161) (by decide +kernel : decode cX9_count 1 = .ok (.tableswitch 160 0 6 #[43, 48, 53, 60, 66, 71, 116], 43)) (by decide) rfl (by decide) ?_ ?_
    · refine as_iconst X (by decide +kernel : decode cX9_count 161 = .ok (.iconst (-1), 1)) rfl ?_
      exact as_ri X hQ hr (by decide +kernel : decode cX9_count 162 = .ok (.ireturn, 1))
    · intro i off K h1 h2
      match i, h1, h2 with
      | 0, h1, h2 =>
        obtain rfl := Option.some.inj h1
        obtain rfl := Option.some.inj h2
        refine ⟨44, by decide, ?_⟩
        refine as_aload_n X (by decide +kernel : decode cX9_count 44 = .ok (.aload_n 0, 1)) rfl ?_
        refine as_get X fc_X9 (by decide +kernel : decode cX9_count 45 = .ok (.getfield 116, 3)) (by decide) fl_X9_116 ?_
        exact as_ri X hQ hr (by decide +kernel : decode cX9_count 48 = .ok (.ireturn, 1))
      | 1, h1, h2 =>
        obtain rfl := Option.some.inj h1
        obtain rfl := Option.some.inj h2
        refine ⟨49, by decide, ?_⟩
        refine as_aload_n X (by decide +kernel : decode cX9_count 49 = .ok (.aload_n 0, 1)) rfl ?_
        refine as_get X fc_X9 (by decide +kernel : decode cX9_count 50 = .ok (.getfield 142, 3)) (by decide) fl_X9_142 ?_
        exact as_ri X hQ hr (by decide +kernel : decode cX9_count 53 = .ok (.ireturn, 1))
      | 2, h1, h2 =>
        obtain rfl := Option.some.inj h1
        obtain rfl := Option.some.inj h2
        refine ⟨54, by decide, ?_⟩
        refine as_aload_n X (by decide +kernel : decode cX9_count 54 = .ok (.aload_n 0, 1)) rfl ?_
        refine as_get X fc_X9 (by decide +kernel : decode cX9_count 55 = .ok (.getfield 34, 3)) (by decide) fl_X9_34 ?_
        refine as_iconst X (by decide +kernel : decode cX9_count 58 = .ok (.iconst 0, 1)) rfl ?_
        refine as_iaload X (by decide +kernel : decode cX9_count 59 = .ok (.iaload, 1)) ?_
        exact as_ri X hQ hr (by decide +kernel : decode cX9_count 60 = .ok (.ireturn, 1))
      | 3, h1, h2 =>
        obtain rfl := Option.some.inj h1
        obtain rfl := Option.some.inj h2
        refine ⟨61, by decide, ?_⟩
        refine as_aload_n X (by decide +kernel : decode cX9_count 61 = .ok (.aload_n 0, 1)) rfl ?_
        refine as_iconst X (by decide +kernel : decode cX9_count 62 = .ok (.iconst (-1), 1)) rfl ?_
        refine as_cv X h_X9_offer rfl (by decide +kernel : decode cX9_count 63 = .ok (.invokevirtual 323, 3)) dn_X9_offer ml_X9_323 im_X9_offer se_X9_offer ini_X9 co_X9_offer R_X9_offer ?_
        exact as_ri X hQ hr (by decide +kernel : decode cX9_count 66 = .ok (.ireturn, 1))
      | 4, h1, h2 =>
        obtain rfl := Option.some.inj h1
        obtain rfl := Option.some.inj h2
        refine ⟨67, by decide, ?_⟩
        refine as_aload_n X (by decide +kernel : decode cX9_count 67 = .ok (.aload_n 0, 1)) rfl ?_
        refine as_get X fc_X9 (by decide +kernel : decode cX9_count 68 = .ok (.getfield 89, 3)) (by decide) fl_X9_89 ?_
        exact as_ri X hQ hr (by decide +kernel : decode cX9_count 71 = .ok (.ireturn, 1))
      | 5, h1, h2 =>
        obtain rfl := Option.some.inj h1
        obtain rfl := Option.some.inj h2
        refine ⟨72, by decide, ?_⟩
        refine as_aload_n X (by decide +kernel : decode cX9_count 72 = .ok (.aload_n 0, 1)) rfl ?_
        refine as_cv X h_X9_parses rfl (by decide +kernel : decode cX9_count 73 = .ok (.invokevirtual 329, 3)) dn_X9_parses ml_X9_329 im_X9_parses se_X9_parses ini_X9 co_X9_parses R_X9_parses ?_
        refine as_istore_n X (by decide +kernel : decode cX9_count 76 = .ok (.istore_n 2, 1)) rfl ?_
        refine as_iconst X (by decide +kernel : decode cX9_count 77 = .ok (.iconst 0, 1)) rfl ?_
        refine as_istore_n X (by decide +kernel : decode cX9_count 78 = .ok (.istore_n 3, 1)) rfl ?_
        refine as_iconst X (by decide +kernel : decode cX9_count 79 = .ok (.iconst 0, 1)) rfl ?_
        refine as_istore X (by decide +kernel : decode cX9_count 80 = .ok (.istore 4, 2)) ?_
        exact fun _ _ _ h => h
      | 6, h1, h2 =>
        obtain rfl := Option.some.inj h1
        obtain rfl := Option.some.inj h2
        refine ⟨117, by decide, ?_⟩
        refine as_iconst X (by decide +kernel : decode cX9_count 117 = .ok (.iconst 0, 1)) rfl ?_
        refine as_istore X (by decide +kernel : decode cX9_count 118 = .ok (.istore 4, 2)) ?_
        refine as_iconst X (by decide +kernel : decode cX9_count 120 = .ok (.iconst 0, 1)) rfl ?_
        refine as_istore X (by decide +kernel : decode cX9_count 121 = .ok (.istore 5, 2)) ?_
        exact fun _ _ _ h => h
      | i + 7, h1, h2 => exact absurd h2 (by simp)
  · unfold B_X9_count_82
    refine as_iload X (by decide +kernel : decode cX9_count 82 = .ok (.iload 4, 2)) ?_
    refine as_aload_n X (by decide +kernel : decode cX9_count 84 = .ok (.aload_n 0, 1)) rfl ?_
    refine as_get X fc_X9 (by decide +kernel : decode cX9_count 85 = .ok (.getfield 116, 3)) (by decide) fl_X9_116 ?_
    refine as_ic_ge X (tgt := 115) (by decide +kernel : decode cX9_count 88 = .ok (.if_icmp .ge 27, 3)) (by decide) ?_ ?_
    · refine as_iload_n X (by decide +kernel : decode cX9_count 115 = .ok (.iload_n 3, 1)) rfl ?_
      exact as_ri X hQ hr (by decide +kernel : decode cX9_count 116 = .ok (.ireturn, 1))
    · refine as_iload_n X (by decide +kernel : decode cX9_count 91 = .ok (.iload_n 3, 1)) rfl ?_
      refine as_aload_n X (by decide +kernel : decode cX9_count 92 = .ok (.aload_n 0, 1)) rfl ?_
      refine as_iload X (by decide +kernel : decode cX9_count 93 = .ok (.iload 4, 2)) ?_
      refine as_cv X h_X9_without1 rfl (by decide +kernel : decode cX9_count 95 = .ok (.invokevirtual 334, 3)) dn_X9_without1 ml_X9_334 im_X9_without1 se_X9_without1 ini_X9 co_X9_without1 R_X9_without1 ?_
      refine as_iload_n X (by decide +kernel : decode cX9_count 98 = .ok (.iload_n 2, 1)) rfl ?_
      refine as_ic_ge X (tgt := 106) (by decide +kernel : decode cX9_count 99 = .ok (.if_icmp .ge 7, 3)) (by decide) ?_ ?_
      · refine as_iconst X (by decide +kernel : decode cX9_count 106 = .ok (.iconst 0, 1)) rfl ?_
        exact fun _ _ _ h => h
      · refine as_iconst X (by decide +kernel : decode cX9_count 102 = .ok (.iconst 1, 1)) rfl ?_
        refine as_goto X (tgt := 107) (by decide +kernel : decode cX9_count 103 = .ok (.goto 4, 3)) (by decide) ?_
        exact fun _ _ _ h => h
  · unfold B_X9_count_107
    refine as_iadd X (by decide +kernel : decode cX9_count 107 = .ok (.iadd, 1)) ?_
    refine as_istore_n X (by decide +kernel : decode cX9_count 108 = .ok (.istore_n 3, 1)) rfl ?_
    refine as_iinc X (by decide +kernel : decode cX9_count 109 = .ok (.iinc 4 1, 3)) rfl ?_
    refine as_goto X (tgt := 82) (by decide +kernel : decode cX9_count 112 = .ok (.goto (-30), 3)) (by decide) ?_
    exact fun _ _ _ h => h
  · unfold B_X9_count_123
    refine as_iload X (by decide +kernel : decode cX9_count 123 = .ok (.iload 5, 2)) ?_
    refine as_aload_n X (by decide +kernel : decode cX9_count 125 = .ok (.aload_n 0, 1)) rfl ?_
    refine as_get X fc_X9 (by decide +kernel : decode cX9_count 126 = .ok (.getfield 116, 3)) (by decide) fl_X9_116 ?_
    refine as_ic_ge X (tgt := 158) (by decide +kernel : decode cX9_count 129 = .ok (.if_icmp .ge 29, 3)) (by decide) ?_ ?_
    · refine as_iload X (by decide +kernel : decode cX9_count 158 = .ok (.iload 4, 2)) ?_
      exact as_ri X hQ hr (by decide +kernel : decode cX9_count 160 = .ok (.ireturn, 1))
    · refine as_iload X (by decide +kernel : decode cX9_count 132 = .ok (.iload 4, 2)) ?_
      refine as_aload_n X (by decide +kernel : decode cX9_count 134 = .ok (.aload_n 0, 1)) rfl ?_
      refine as_get X fc_X9 (by decide +kernel : decode cX9_count 135 = .ok (.getfield 19, 3)) (by decide) fl_X9_19 ?_
      refine as_iload X (by decide +kernel : decode cX9_count 138 = .ok (.iload 5, 2)) ?_
      refine as_iaload X (by decide +kernel : decode cX9_count 140 = .ok (.iaload, 1)) ?_
      refine as_if_ne X (tgt := 148) (by decide +kernel : decode cX9_count 141 = .ok (.ifCond .ne 7, 3)) (by decide) ?_ ?_
      · refine as_iconst X (by decide +kernel : decode cX9_count 144 = .ok (.iconst 1, 1)) rfl ?_
        refine as_goto X (tgt := 149) (by decide +kernel : decode cX9_count 145 = .ok (.goto 4, 3)) (by decide) ?_
        exact fun _ _ _ h => h
      · refine as_iconst X (by decide +kernel : decode cX9_count 148 = .ok (.iconst 0, 1)) rfl ?_
        exact fun _ _ _ h => h
  · unfold B_X9_count_149
    refine as_iadd X (by decide +kernel : decode cX9_count 149 = .ok (.iadd, 1)) ?_
    refine as_istore X (by decide +kernel : decode cX9_count 150 = .ok (.istore 4, 2)) ?_
    refine as_iinc X (by decide +kernel : decode cX9_count 152 = .ok (.iinc 5 1, 3)) rfl ?_
    refine as_goto X (tgt := 123) (by decide +kernel : decode cX9_count 155 = .ok (.goto (-32), 3)) (by decide) ?_
    exact fun _ _ _ h => h
