/-! points, closures, contracts, soundness; printed by wip/whole/gen.py -/
def B_X9_isSign_0 (kX9_isOf : am_T) (Q : am_Q) (G : Nat → am_K) : am_K := (ak_c (.int 0) (ak_is 3 (G 2)))
def B_X9_isSign_2 (kX9_isOf : am_T) (Q : am_Q) (G : Nat → am_K) : am_K := (ak_il 3 (ak_al 0 (ak_get 7 2 (ak_ic (fun x y => y ≤ x) (ak_c (.int 0) (ak_rz Q)) (ak_al 0 (ak_get 7 5 (ak_il 3 (ak_iald (ak_il 2 (ak_ic (fun x y => x = y) (ak_al 0 (ak_il 3 (ak_il 1 (ak_cv 3 7 kX9_isOf (ak_if (fun x => x = 0) (G 31) (ak_c (.int 1) (ak_rz Q))))))) (G 31)))))))))))
def B_X9_isSign_31 (kX9_isOf : am_T) (Q : am_Q) (G : Nat → am_K) : am_K := (ak_ii 3 1 (G 2))
def cl_X9_isSign (kX9_isOf : am_T) (Q : am_Q) (G : Nat → am_K) : Prop := am_N G 0 (B_X9_isSign_0 kX9_isOf Q G) ∧ am_N G 2 (B_X9_isSign_2 kX9_isOf Q G) ∧ am_N G 31 (B_X9_isSign_31 kX9_isOf Q G)
def WP_X9_isSign (kX9_isOf : am_T) : am_T := fun av h Q => (lg_sl av).length ≤ 4 ∧ ∀ G, cl_X9_isSign kX9_isOf Q G → G 0 (am_ent 4 av) [] h
set_option maxHeartbeats 4000000 in
set_option maxRecDepth 100000 in
theorem s_X9_isSign {mX9_isOf : Room} {kX9_isOf : am_T} (h_X9_isOf : am_S false yX9_isOf (am_ws yX9_isOf cX9_isOf 3 (some .boolean)) mX9_isOf kX9_isOf) {rm : Room} (hz : rm.cells = 0 ∧ rm.slots = 0) (R_X9_isOf : mX9_isOf.frames + 1 ≤ rm.frames ∧ 8 + (3 + 11) + mX9_isOf.locals ≤ rm.locals) : am_S false yX9_isSign (am_ws yX9_isSign cX9_isSign 4 (some .boolean)) rm (WP_X9_isSign kX9_isOf) := by
  refine am_S.of (fun _ => hz) (by decide +kernel) (fun h0 Q G => cl_X9_isSign kX9_isOf Q G) ?_
  intro p l e s m args below meth c D h0 Q X hr hnm hQ
  refine ⟨?_, ?_, ?_⟩
  · unfold B_X9_isSign_0
    refine as_iconst X (by decide +kernel : decode cX9_isSign 0 = .ok (.iconst 0, 1)) rfl ?_
    refine as_istore_n X (by decide +kernel : decode cX9_isSign 1 = .ok (.istore_n 3, 1)) rfl ?_
    exact fun _ _ _ h => h
  · unfold B_X9_isSign_2
    refine as_iload_n X (by decide +kernel : decode cX9_isSign 2 = .ok (.iload_n 3, 1)) rfl ?_
    refine as_aload_n X (by decide +kernel : decode cX9_isSign 3 = .ok (.aload_n 0, 1)) rfl ?_
    refine as_get X fc_X9 (by decide +kernel : decode cX9_isSign 4 = .ok (.getfield 116, 3)) (by decide) fl_X9_116 ?_
    refine as_ic_ge X (tgt := 37) (by decide +kernel : decode cX9_isSign 7 = .ok (.if_icmp .ge 30, 3)) (by decide) ?_ ?_
    · refine as_iconst X (by decide +kernel : decode cX9_isSign 37 = .ok (.iconst 0, 1)) rfl ?_
      exact as_rz X hQ hr (by decide +kernel : decode cX9_isSign 38 = .ok (.ireturn, 1))
    · refine as_aload_n X (by decide +kernel : decode cX9_isSign 10 = .ok (.aload_n 0, 1)) rfl ?_
      refine as_get X fc_X9 (by decide +kernel : decode cX9_isSign 11 = .ok (.getfield 19, 3)) (by decide) fl_X9_19 ?_
      refine as_iload_n X (by decide +kernel : decode cX9_isSign 14 = .ok (.iload_n 3, 1)) rfl ?_
      refine as_iaload X (by decide +kernel : decode cX9_isSign 15 = .ok (.iaload, 1)) ?_
      refine as_iload_n X (by decide +kernel : decode cX9_isSign 16 = .ok (.iload_n 2, 1)) rfl ?_
      refine as_ic_ne X (tgt := 31) (by decide +kernel : decode cX9_isSign 17 = .ok (.if_icmp .ne 14, 3)) (by decide) ?_ ?_
      · refine as_aload_n X (by decide +kernel : decode cX9_isSign 20 = .ok (.aload_n 0, 1)) rfl ?_
        refine as_iload_n X (by decide +kernel : decode cX9_isSign 21 = .ok (.iload_n 3, 1)) rfl ?_
        refine as_iload_n X (by decide +kernel : decode cX9_isSign 22 = .ok (.iload_n 1, 1)) rfl ?_
        refine as_cv X h_X9_isOf rfl (by decide +kernel : decode cX9_isSign 23 = .ok (.invokevirtual 151, 3)) dn_X9_isOf ml_X9_151 im_X9_isOf se_X9_isOf ini_X9 co_X9_isOf R_X9_isOf ?_
        refine as_if_eq X (tgt := 31) (by decide +kernel : decode cX9_isSign 26 = .ok (.ifCond .eq 5, 3)) (by decide) ?_ ?_
        · exact fun _ _ _ h => h
        · refine as_iconst X (by decide +kernel : decode cX9_isSign 29 = .ok (.iconst 1, 1)) rfl ?_
          exact as_rz X hQ hr (by decide +kernel : decode cX9_isSign 30 = .ok (.ireturn, 1))
      · exact fun _ _ _ h => h
  · unfold B_X9_isSign_31
    refine as_iinc X (by decide +kernel : decode cX9_isSign 31 = .ok (.iinc 3 1, 3)) rfl ?_
    refine as_goto X (tgt := 2) (by decide +kernel : decode cX9_isSign 34 = .ok (.goto (-32), 3)) (by decide) ?_
    exact fun _ _ _ h => h

def B_X9_sign_0 (kX9_isWord : am_T) (kX9_isIn : am_T) (kX9_isSign : am_T) (Q : am_Q) (G : Nat → am_K) : am_K := (ak_al 0 (ak_il 1 (ak_cv 2 7 kX9_isWord (ak_if (fun x => x = 0) (G 18) (ak_il 2 (ak_c (.int 2) (ak_c (.int 10) (ak_cs 3 kX9_isIn (ak_if (fun x => x = 0) (G 18) (ak_al 0 (ak_il 1 (ak_il 2 (ak_cv 3 7 kX9_isSign (ak_if (fun x => x = 0) (ak_c (.int 0) (G 34)) (ak_c (.int 1) (G 34))))))))))))))))
def B_X9_sign_18 (kX9_isWord : am_T) (kX9_isIn : am_T) (kX9_isSign : am_T) (Q : am_Q) (G : Nat → am_K) : am_K := (ak_c (.int (-1)) (ak_ri Q))
def B_X9_sign_34 (kX9_isWord : am_T) (kX9_isIn : am_T) (kX9_isSign : am_T) (Q : am_Q) (G : Nat → am_K) : am_K := (ak_ri Q)
def cl_X9_sign (kX9_isWord : am_T) (kX9_isIn : am_T) (kX9_isSign : am_T) (Q : am_Q) (G : Nat → am_K) : Prop := am_N G 0 (B_X9_sign_0 kX9_isWord kX9_isIn kX9_isSign Q G) ∧ am_N G 18 (B_X9_sign_18 kX9_isWord kX9_isIn kX9_isSign Q G) ∧ am_N G 34 (B_X9_sign_34 kX9_isWord kX9_isIn kX9_isSign Q G)
def WP_X9_sign (kX9_isWord : am_T) (kX9_isIn : am_T) (kX9_isSign : am_T) : am_T := fun av h Q => (lg_sl av).length ≤ 3 ∧ ∀ G, cl_X9_sign kX9_isWord kX9_isIn kX9_isSign Q G → G 0 (am_ent 3 av) [] h
set_option maxHeartbeats 4000000 in
set_option maxRecDepth 100000 in
theorem s_X9_sign {mX9_isWord : Room} {kX9_isWord : am_T} (h_X9_isWord : am_S false yX9_isWord (am_ws yX9_isWord cX9_isWord 2 (some .boolean)) mX9_isWord kX9_isWord) {mX9_isIn : Room} {kX9_isIn : am_T} (h_X9_isIn : am_S false yX9_isIn (am_ws yX9_isIn cX9_isIn 3 (some .boolean)) mX9_isIn kX9_isIn) {mX9_isSign : Room} {kX9_isSign : am_T} (h_X9_isSign : am_S false yX9_isSign (am_ws yX9_isSign cX9_isSign 4 (some .boolean)) mX9_isSign kX9_isSign) {rm : Room} (hz : rm.cells = 0 ∧ rm.slots = 0) (R_X9_isWord : mX9_isWord.frames + 1 ≤ rm.frames ∧ 8 + (2 + 11) + mX9_isWord.locals ≤ rm.locals) (R_X9_isIn : mX9_isIn.frames + 1 ≤ rm.frames ∧ 8 + (3 + 11) + mX9_isIn.locals ≤ rm.locals) (R_X9_isSign : mX9_isSign.frames + 1 ≤ rm.frames ∧ 8 + (4 + 11) + mX9_isSign.locals ≤ rm.locals) : am_S false yX9_sign (am_ws yX9_sign cX9_sign 3 (some .int)) rm (WP_X9_sign kX9_isWord kX9_isIn kX9_isSign) := by
  refine am_S.of (fun _ => hz) (by decide +kernel) (fun h0 Q G => cl_X9_sign kX9_isWord kX9_isIn kX9_isSign Q G) ?_
  intro p l e s m args below meth c D h0 Q X hr hnm hQ
  refine ⟨?_, ?_, ?_⟩
  · unfold B_X9_sign_0
    refine as_aload_n X (by decide +kernel : decode cX9_sign 0 = .ok (.aload_n 0, 1)) rfl ?_
    refine as_iload_n X (by decide +kernel : decode cX9_sign 1 = .ok (.iload_n 1, 1)) rfl ?_
    refine as_cv X h_X9_isWord rfl (by decide +kernel : decode cX9_sign 2 = .ok (.invokevirtual 148, 3)) dn_X9_isWord ml_X9_148 im_X9_isWord se_X9_isWord ini_X9 co_X9_isWord R_X9_isWord ?_
    refine as_if_eq X (tgt := 18) (by decide +kernel : decode cX9_sign 5 = .ok (.ifCond .eq 13, 3)) (by decide) ?_ ?_
    · exact fun _ _ _ h => h
    · refine as_iload_n X (by decide +kernel : decode cX9_sign 8 = .ok (.iload_n 2, 1)) rfl ?_
      refine as_iconst X (by decide +kernel : decode cX9_sign 9 = .ok (.iconst 2, 1)) rfl ?_
      refine as_bipush X (by decide +kernel : decode cX9_sign 10 = .ok (.bipush 10, 2)) rfl ?_
      refine as_cs X h_X9_isIn (by decide +kernel : decode cX9_sign 12 = .ok (.invokestatic 135, 3)) dn_X9_isIn ml_X9_135 st_X9_isIn ini_X9 co_X9_isIn R_X9_isIn ?_
      refine as_if_ne X (tgt := 20) (by decide +kernel : decode cX9_sign 15 = .ok (.ifCond .ne 5, 3)) (by decide) ?_ ?_
      · exact fun _ _ _ h => h
      · refine as_aload_n X (by decide +kernel : decode cX9_sign 20 = .ok (.aload_n 0, 1)) rfl ?_
        refine as_iload_n X (by decide +kernel : decode cX9_sign 21 = .ok (.iload_n 1, 1)) rfl ?_
        refine as_iload_n X (by decide +kernel : decode cX9_sign 22 = .ok (.iload_n 2, 1)) rfl ?_
        refine as_cv X h_X9_isSign rfl (by decide +kernel : decode cX9_sign 23 = .ok (.invokevirtual 155, 3)) dn_X9_isSign ml_X9_155 im_X9_isSign se_X9_isSign ini_X9 co_X9_isSign R_X9_isSign ?_
        refine as_if_eq X (tgt := 33) (by decide +kernel : decode cX9_sign 26 = .ok (.ifCond .eq 7, 3)) (by decide) ?_ ?_
        · refine as_iconst X (by decide +kernel : decode cX9_sign 33 = .ok (.iconst 0, 1)) rfl ?_
          exact fun _ _ _ h => h
        · refine as_iconst X (by decide +kernel : decode cX9_sign 29 = .ok (.iconst 1, 1)) rfl ?_
          refine as_goto X (tgt := 34) (by decide +kernel : decode cX9_sign 30 = .ok (.goto 4, 3)) (by decide) ?_
          exact fun _ _ _ h => h
  · unfold B_X9_sign_18
    refine as_iconst X (by decide +kernel : decode cX9_sign 18 = .ok (.iconst (-1), 1)) rfl ?_
    exact as_ri X hQ hr (by decide +kernel : decode cX9_sign 19 = .ok (.ireturn, 1))
  · unfold B_X9_sign_34
    exact as_ri X hQ hr (by decide +kernel : decode cX9_sign 34 = .ok (.ireturn, 1))

def B_X9_spot_0 (Q : am_Q) (G : Nat → am_K) : am_K := (ak_c (.int 512) (ak_il 1 (ak_c (.int 1) (ak_ib (fun x y => x - y) (ak_il 1 (ak_ib (fun x y => x * y) (ak_c (.int 2) (ak_id (fun x y => x / y) (ak_il 0 (ak_ib (fun x y => x + y) (ak_ib (fun x y => x * y) (ak_c (.int 256) (ak_il 3 (ak_ib (fun x y => x * y) (ak_ib (fun x y => x + y) (ak_il 2 (ak_ib (fun x y => x + y) (ak_ri Q))))))))))))))))))
def cl_X9_spot (Q : am_Q) (G : Nat → am_K) : Prop := am_N G 0 (B_X9_spot_0 Q G)
def WP_X9_spot : am_T := fun av h Q => (lg_sl av).length ≤ 4 ∧ ∀ G, cl_X9_spot Q G → G 0 (am_ent 4 av) [] h
set_option maxHeartbeats 4000000 in
set_option maxRecDepth 100000 in
theorem s_X9_spot {rm : Room} (hz : rm.cells = 0 ∧ rm.slots = 0) : am_S false yX9_spot (am_ws yX9_spot cX9_spot 4 (some .int)) rm (WP_X9_spot) := by
  refine am_S.of (fun _ => hz) (by decide +kernel) (fun h0 Q G => cl_X9_spot Q G) ?_
  intro p l e s m args below meth c D h0 Q X hr hnm hQ
  show am_N _ 0 (B_X9_spot_0  Q _)
  · unfold B_X9_spot_0
    refine as_sipush X (by decide +kernel : decode cX9_spot 0 = .ok (.sipush 512, 3)) rfl ?_
    refine as_iload_n X (by decide +kernel : decode cX9_spot 3 = .ok (.iload_n 1, 1)) rfl ?_
    refine as_iconst X (by decide +kernel : decode cX9_spot 4 = .ok (.iconst 1, 1)) rfl ?_
    refine as_isub X (by decide +kernel : decode cX9_spot 5 = .ok (.isub, 1)) ?_
    refine as_iload_n X (by decide +kernel : decode cX9_spot 6 = .ok (.iload_n 1, 1)) rfl ?_
    refine as_imul X (by decide +kernel : decode cX9_spot 7 = .ok (.imul, 1)) ?_
    refine as_iconst X (by decide +kernel : decode cX9_spot 8 = .ok (.iconst 2, 1)) rfl ?_
    refine as_idiv X (by decide +kernel : decode cX9_spot 9 = .ok (.idiv, 1)) ?_
    refine as_iload_n X (by decide +kernel : decode cX9_spot 10 = .ok (.iload_n 0, 1)) rfl ?_
    refine as_iadd X (by decide +kernel : decode cX9_spot 11 = .ok (.iadd, 1)) ?_
    refine as_imul X (by decide +kernel : decode cX9_spot 12 = .ok (.imul, 1)) ?_
    refine as_sipush X (by decide +kernel : decode cX9_spot 13 = .ok (.sipush 256, 3)) rfl ?_
    refine as_iload_n X (by decide +kernel : decode cX9_spot 16 = .ok (.iload_n 3, 1)) rfl ?_
    refine as_imul X (by decide +kernel : decode cX9_spot 17 = .ok (.imul, 1)) ?_
    refine as_iadd X (by decide +kernel : decode cX9_spot 18 = .ok (.iadd, 1)) ?_
    refine as_iload_n X (by decide +kernel : decode cX9_spot 19 = .ok (.iload_n 2, 1)) rfl ?_
    refine as_iadd X (by decide +kernel : decode cX9_spot 20 = .ok (.iadd, 1)) ?_
    exact as_ri X hQ hr (by decide +kernel : decode cX9_spot 21 = .ok (.ireturn, 1))

def B_X9_lays_0 (Q : am_Q) (G : Nat → am_K) : am_K := (ak_al 0 (ak_c (.int 0) (ak_puti 7 25 (ak_c (.int 0) (ak_is 3 (G 7))))))
def B_X9_lays_7 (Q : am_Q) (G : Nat → am_K) : am_K := (ak_il 3 (ak_c (.int 8) (ak_ic (fun x y => y ≤ x) (ak_rv Q) (ak_il 2 (ak_c (.int 1) (ak_ic (fun x y => x = y) (ak_c (.int 7) (ak_il 3 (ak_ib (fun x y => x - y) (G 26)))) (ak_il 3 (G 26))))))))
def B_X9_lays_26 (Q : am_Q) (G : Nat → am_K) : am_K := (ak_is 4 (ak_il 1 (ak_il 4 (ak_ib (fun x y => x >>> (y &&& 31)) (ak_c (.int 1) (ak_ib (fun x y => x &&& y) (ak_c (.int 1) (ak_ic (fun x y => x = y) (ak_al 0 (ak_get 7 26 (ak_al 0 (ak_get 7 25 (ak_il 4 (ak_iast (ak_al 0 (ak_dup (ak_get 7 25 (ak_c (.int 1) (ak_ib (fun x y => x + y) (ak_puti 7 25 (G 59))))))))))))) (G 59)))))))))
def B_X9_lays_59 (Q : am_Q) (G : Nat → am_K) : am_K := (ak_ii 3 1 (G 7))
def cl_X9_lays (Q : am_Q) (G : Nat → am_K) : Prop := am_N G 0 (B_X9_lays_0 Q G) ∧ am_N G 7 (B_X9_lays_7 Q G) ∧ am_N G 26 (B_X9_lays_26 Q G) ∧ am_N G 59 (B_X9_lays_59 Q G)
def WP_X9_lays : am_T := fun av h Q => (lg_sl av).length ≤ 5 ∧ ∀ G, cl_X9_lays Q G → G 0 (am_ent 5 av) [] h
set_option maxHeartbeats 4000000 in
set_option maxRecDepth 100000 in
theorem s_X9_lays {rm : Room} (hz : rm.cells = 0 ∧ rm.slots = 0) : am_S false yX9_lays (am_ws yX9_lays cX9_lays 5 none) rm (WP_X9_lays) := by
  refine am_S.of (fun _ => hz) (by decide +kernel) (fun h0 Q G => cl_X9_lays Q G) ?_
  intro p l e s m args below meth c D h0 Q X hr hnm hQ
  refine ⟨?_, ?_, ?_, ?_⟩
  · unfold B_X9_lays_0
    refine as_aload_n X (by decide +kernel : decode cX9_lays 0 = .ok (.aload_n 0, 1)) rfl ?_
    refine as_iconst X (by decide +kernel : decode cX9_lays 1 = .ok (.iconst 0, 1)) rfl ?_
    refine as_puti X fc_X9 (by decide +kernel : decode cX9_lays 2 = .ok (.putfield 158, 3)) (by decide) fl_X9_158 (Or.inl rfl) rfl ?_
    refine as_iconst X (by decide +kernel : decode cX9_lays 5 = .ok (.iconst 0, 1)) rfl ?_
    refine as_istore_n X (by decide +kernel : decode cX9_lays 6 = .ok (.istore_n 3, 1)) rfl ?_
    exact fun _ _ _ h => h
  · unfold B_X9_lays_7
    refine as_iload_n X (by decide +kernel : decode cX9_lays 7 = .ok (.iload_n 3, 1)) rfl ?_
    refine as_bipush X (by decide +kernel : decode cX9_lays 8 = .ok (.bipush 8, 2)) rfl ?_
    refine as_ic_ge X (tgt := 65) (by decide +kernel : decode cX9_lays 10 = .ok (.if_icmp .ge 55, 3)) (by decide) ?_ ?_
    · exact as_rv X hQ hr (by decide +kernel : decode cX9_lays 65 = .ok (.return_, 1))
    · refine as_iload_n X (by decide +kernel : decode cX9_lays 13 = .ok (.iload_n 2, 1)) rfl ?_
      refine as_iconst X (by decide +kernel : decode cX9_lays 14 = .ok (.iconst 1, 1)) rfl ?_
      refine as_ic_ne X (tgt := 25) (by decide +kernel : decode cX9_lays 15 = .ok (.if_icmp .ne 10, 3)) (by decide) ?_ ?_
      · refine as_bipush X (by decide +kernel : decode cX9_lays 18 = .ok (.bipush 7, 2)) rfl ?_
        refine as_iload_n X (by decide +kernel : decode cX9_lays 20 = .ok (.iload_n 3, 1)) rfl ?_
        refine as_isub X (by decide +kernel : decode cX9_lays 21 = .ok (.isub, 1)) ?_
        refine as_goto X (tgt := 26) (by decide +kernel : decode cX9_lays 22 = .ok (.goto 4, 3)) (by decide) ?_
        exact fun _ _ _ h => h
      · refine as_iload_n X (by decide +kernel : decode cX9_lays 25 = .ok (.iload_n 3, 1)) rfl ?_
        exact fun _ _ _ h => h
  · unfold B_X9_lays_26
    refine as_istore X (by decide +kernel : decode cX9_lays 26 = .ok (.istore 4, 2)) ?_
    refine as_iload_n X (by decide +kernel : decode cX9_lays 28 = .ok (.iload_n 1, 1)) rfl ?_
    refine as_iload X (by decide +kernel : decode cX9_lays 29 = .ok (.iload 4, 2)) ?_
    refine as_ishr X (by decide +kernel : decode cX9_lays 31 = .ok (.ishr, 1)) ?_
    refine as_iconst X (by decide +kernel : decode cX9_lays 32 = .ok (.iconst 1, 1)) rfl ?_
    refine as_iand X (by decide +kernel : decode cX9_lays 33 = .ok (.iand, 1)) ?_
    refine as_iconst X (by decide +kernel : decode cX9_lays 34 = .ok (.iconst 1, 1)) rfl ?_
    refine as_ic_ne X (tgt := 59) (by decide +kernel : decode cX9_lays 35 = .ok (.if_icmp .ne 24, 3)) (by decide) ?_ ?_
    · refine as_aload_n X (by decide +kernel : decode cX9_lays 38 = .ok (.aload_n 0, 1)) rfl ?_
      refine as_get X fc_X9 (by decide +kernel : decode cX9_lays 39 = .ok (.getfield 51, 3)) (by decide) fl_X9_51 ?_
      refine as_aload_n X (by decide +kernel : decode cX9_lays 42 = .ok (.aload_n 0, 1)) rfl ?_
      refine as_get X fc_X9 (by decide +kernel : decode cX9_lays 43 = .ok (.getfield 158, 3)) (by decide) fl_X9_158 ?_
      refine as_iload X (by decide +kernel : decode cX9_lays 46 = .ok (.iload 4, 2)) ?_
      refine as_iastore X (by decide +kernel : decode cX9_lays 48 = .ok (.iastore, 1)) ?_
      refine as_aload_n X (by decide +kernel : decode cX9_lays 49 = .ok (.aload_n 0, 1)) rfl ?_
      refine as_dup X (by decide +kernel : decode cX9_lays 50 = .ok (.dup, 1)) ?_
      refine as_get X fc_X9 (by decide +kernel : decode cX9_lays 51 = .ok (.getfield 158, 3)) (by decide) fl_X9_158 ?_
      refine as_iconst X (by decide +kernel : decode cX9_lays 54 = .ok (.iconst 1, 1)) rfl ?_
      refine as_iadd X (by decide +kernel : decode cX9_lays 55 = .ok (.iadd, 1)) ?_
      refine as_puti X fc_X9 (by decide +kernel : decode cX9_lays 56 = .ok (.putfield 158, 3)) (by decide) fl_X9_158 (Or.inl rfl) rfl ?_
      exact fun _ _ _ h => h
    · exact fun _ _ _ h => h
  · unfold B_X9_lays_59
    refine as_iinc X (by decide +kernel : decode cX9_lays 59 = .ok (.iinc 3 1, 3)) rfl ?_
    refine as_goto X (tgt := 7) (by decide +kernel : decode cX9_lays 62 = .ok (.goto (-55), 3)) (by decide) ?_
    exact fun _ _ _ h => h

def B_X9_part_0 (Q : am_Q) (G : Nat → am_K) : am_K := (ak_c (.int 0) (ak_is 3 (ak_il 1 (ak_is 4 (G 5)))))
def B_X9_part_5 (Q : am_Q) (G : Nat → am_K) : am_K := (ak_il 4 (ak_il 1 (ak_il 2 (ak_ib (fun x y => x + y) (ak_ic (fun x y => y ≤ x) (ak_il 3 (ak_ri Q)) (ak_il 3 (ak_c (.int 1) (ak_al 0 (ak_get 7 26 (ak_il 4 (ak_iald (ak_ib (fun x y => x <<< (y &&& 31)) (ak_ib (fun x y => x ||| y) (ak_is 3 (ak_ii 4 1 (G 5))))))))))))))))
def cl_X9_part (Q : am_Q) (G : Nat → am_K) : Prop := am_N G 0 (B_X9_part_0 Q G) ∧ am_N G 5 (B_X9_part_5 Q G)
def WP_X9_part : am_T := fun av h Q => (lg_sl av).length ≤ 5 ∧ ∀ G, cl_X9_part Q G → G 0 (am_ent 5 av) [] h
set_option maxHeartbeats 4000000 in
set_option maxRecDepth 100000 in
theorem s_X9_part {rm : Room} (hz : rm.cells = 0 ∧ rm.slots = 0) : am_S false yX9_part (am_ws yX9_part cX9_part 5 (some .int)) rm (WP_X9_part) := by
  refine am_S.of (fun _ => hz) (by decide +kernel) (fun h0 Q G => cl_X9_part Q G) ?_
  intro p l e s m args below meth c D h0 Q X hr hnm hQ
  refine ⟨?_, ?_⟩
  · unfold B_X9_part_0
    refine as_iconst X (by decide +kernel : decode cX9_part 0 = .ok (.iconst 0, 1)) rfl ?_
    refine as_istore_n X (by decide +kernel : decode cX9_part 1 = .ok (.istore_n 3, 1)) rfl ?_
    refine as_iload_n X (by decide +kernel : decode cX9_part 2 = .ok (.iload_n 1, 1)) rfl ?_
    refine as_istore X (by decide +kernel : decode cX9_part 3 = .ok (.istore 4, 2)) ?_
    exact fun _ _ _ h => h
  · unfold B_X9_part_5
    refine as_iload X (by decide +kernel : decode cX9_part 5 = .ok (.iload 4, 2)) ?_
    refine as_iload_n X (by decide +kernel : decode cX9_part 7 = .ok (.iload_n 1, 1)) rfl ?_
    refine as_iload_n X (by decide +kernel : decode cX9_part 8 = .ok (.iload_n 2, 1)) rfl ?_
    refine as_iadd X (by decide +kernel : decode cX9_part 9 = .ok (.iadd, 1)) ?_
    refine as_ic_ge X (tgt := 31) (by decide +kernel : decode cX9_part 10 = .ok (.if_icmp .ge 21, 3)) (by decide) ?_ ?_
    · refine as_iload_n X (by decide +kernel : decode cX9_part 31 = .ok (.iload_n 3, 1)) rfl ?_
      exact as_ri X hQ hr (by decide +kernel : decode cX9_part 32 = .ok (.ireturn, 1))
    · refine as_iload_n X (by decide +kernel : decode cX9_part 13 = .ok (.iload_n 3, 1)) rfl ?_
      refine as_iconst X (by decide +kernel : decode cX9_part 14 = .ok (.iconst 1, 1)) rfl ?_
      refine as_aload_n X (by decide +kernel : decode cX9_part 15 = .ok (.aload_n 0, 1)) rfl ?_
      refine as_get X fc_X9 (by decide +kernel : decode cX9_part 16 = .ok (.getfield 51, 3)) (by decide) fl_X9_51 ?_
      refine as_iload X (by decide +kernel : decode cX9_part 19 = .ok (.iload 4, 2)) ?_
      refine as_iaload X (by decide +kernel : decode cX9_part 21 = .ok (.iaload, 1)) ?_
      refine as_ishl X (by decide +kernel : decode cX9_part 22 = .ok (.ishl, 1)) ?_
      refine as_ior X (by decide +kernel : decode cX9_part 23 = .ok (.ior, 1)) ?_
      refine as_istore_n X (by decide +kernel : decode cX9_part 24 = .ok (.istore_n 3, 1)) rfl ?_
      refine as_iinc X (by decide +kernel : decode cX9_part 25 = .ok (.iinc 4 1, 3)) rfl ?_
      refine as_goto X (tgt := 5) (by decide +kernel : decode cX9_part 28 = .ok (.goto (-23), 3)) (by decide) ?_
      exact fun _ _ _ h => h

def B_X9_letter_0 (Q : am_Q) (G : Nat → am_K) : am_K := (ak_al 0 (ak_get 7 12 (ak_c (.int 1) (ak_al 0 (ak_get 7 26 (ak_il 1 (ak_iald (ak_ib (fun x y => x + y) (ak_iald (ak_ri Q))))))))))
def cl_X9_letter (Q : am_Q) (G : Nat → am_K) : Prop := am_N G 0 (B_X9_letter_0 Q G)
def WP_X9_letter : am_T := fun av h Q => (lg_sl av).length ≤ 2 ∧ ∀ G, cl_X9_letter Q G → G 0 (am_ent 2 av) [] h
set_option maxHeartbeats 4000000 in
set_option maxRecDepth 100000 in
theorem s_X9_letter {rm : Room} (hz : rm.cells = 0 ∧ rm.slots = 0) : am_S false yX9_letter (am_ws yX9_letter cX9_letter 2 (some .int)) rm (WP_X9_letter) := by
  refine am_S.of (fun _ => hz) (by decide +kernel) (fun h0 Q G => cl_X9_letter Q G) ?_
  intro p l e s m args below meth c D h0 Q X hr hnm hQ
  show am_N _ 0 (B_X9_letter_0  Q _)
  · unfold B_X9_letter_0
    refine as_aload_n X (by decide +kernel : decode cX9_letter 0 = .ok (.aload_n 0, 1)) rfl ?_
    refine as_get X fc_X9 (by decide +kernel : decode cX9_letter 1 = .ok (.getfield 34, 3)) (by decide) fl_X9_34 ?_
    refine as_iconst X (by decide +kernel : decode cX9_letter 4 = .ok (.iconst 1, 1)) rfl ?_
    refine as_aload_n X (by decide +kernel : decode cX9_letter 5 = .ok (.aload_n 0, 1)) rfl ?_
    refine as_get X fc_X9 (by decide +kernel : decode cX9_letter 6 = .ok (.getfield 51, 3)) (by decide) fl_X9_51 ?_
    refine as_iload_n X (by decide +kernel : decode cX9_letter 9 = .ok (.iload_n 1, 1)) rfl ?_
    refine as_iaload X (by decide +kernel : decode cX9_letter 10 = .ok (.iaload, 1)) ?_
    refine as_iadd X (by decide +kernel : decode cX9_letter 11 = .ok (.iadd, 1)) ?_
    refine as_iaload X (by decide +kernel : decode cX9_letter 12 = .ok (.iaload, 1)) ?_
    exact as_ri X hQ hr (by decide +kernel : decode cX9_letter 13 = .ok (.ireturn, 1))

def B_X9_piecesAt_0 (kX9_spot : am_T) (Q : am_Q) (G : Nat → am_K) : am_K := (ak_al 0 (ak_get 7 15 (ak_il 1 (ak_il 2 (ak_il 3 (ak_il 4 (ak_cs 4 kX9_spot (ak_lald (ak_c (.int 32) (ak_lx (fun x y => x >>> (y.toInt64 &&& 63)) (ak_l2i (ak_ri Q))))))))))))
def cl_X9_piecesAt (kX9_spot : am_T) (Q : am_Q) (G : Nat → am_K) : Prop := am_N G 0 (B_X9_piecesAt_0 kX9_spot Q G)
def WP_X9_piecesAt (kX9_spot : am_T) : am_T := fun av h Q => (lg_sl av).length ≤ 5 ∧ ∀ G, cl_X9_piecesAt kX9_spot Q G → G 0 (am_ent 5 av) [] h
set_option maxHeartbeats 4000000 in
set_option maxRecDepth 100000 in
theorem s_X9_piecesAt {mX9_spot : Room} {kX9_spot : am_T} (h_X9_spot : am_S false yX9_spot (am_ws yX9_spot cX9_spot 4 (some .int)) mX9_spot kX9_spot) {rm : Room} (hz : rm.cells = 0 ∧ rm.slots = 0) (R_X9_spot : mX9_spot.frames + 1 ≤ rm.frames ∧ 8 + (4 + 11) + mX9_spot.locals ≤ rm.locals) : am_S false yX9_piecesAt (am_ws yX9_piecesAt cX9_piecesAt 5 (some .int)) rm (WP_X9_piecesAt kX9_spot) := by
  refine am_S.of (fun _ => hz) (by decide +kernel) (fun h0 Q G => cl_X9_piecesAt kX9_spot Q G) ?_
  intro p l e s m args below meth c D h0 Q X hr hnm hQ
  show am_N _ 0 (B_X9_piecesAt_0  kX9_spot Q _)
  · unfold B_X9_piecesAt_0
    refine as_aload_n X (by decide +kernel : decode cX9_piecesAt 0 = .ok (.aload_n 0, 1)) rfl ?_
    refine as_get X fc_X9 (by decide +kernel : decode cX9_piecesAt 1 = .ok (.getfield 43, 3)) (by decide) fl_X9_43 ?_
    refine as_iload_n X (by decide +kernel : decode cX9_piecesAt 4 = .ok (.iload_n 1, 1)) rfl ?_
    refine as_iload_n X (by decide +kernel : decode cX9_piecesAt 5 = .ok (.iload_n 2, 1)) rfl ?_
    refine as_iload_n X (by decide +kernel : decode cX9_piecesAt 6 = .ok (.iload_n 3, 1)) rfl ?_
    refine as_iload X (by decide +kernel : decode cX9_piecesAt 7 = .ok (.iload 4, 2)) ?_
    refine as_cs X h_X9_spot (by decide +kernel : decode cX9_piecesAt 9 = .ok (.invokestatic 161, 3)) dn_X9_spot ml_X9_161 st_X9_spot ini_X9 co_X9_spot R_X9_spot ?_
    refine as_laload X (by decide +kernel : decode cX9_piecesAt 12 = .ok (.laload, 1)) ?_
    refine as_bipush X (by decide +kernel : decode cX9_piecesAt 13 = .ok (.bipush 32, 2)) rfl ?_
    refine as_lshr X (by decide +kernel : decode cX9_piecesAt 15 = .ok (.lshr, 1)) ?_
    refine as_l2i X (by decide +kernel : decode cX9_piecesAt 16 = .ok (.l2i, 1)) ?_
    exact as_ri X hQ hr (by decide +kernel : decode cX9_piecesAt 17 = .ok (.ireturn, 1))

def B_X9_unitsAt_0 (kX9_spot : am_T) (Q : am_Q) (G : Nat → am_K) : am_K := (ak_al 0 (ak_get 7 15 (ak_il 1 (ak_il 2 (ak_il 3 (ak_il 4 (ak_cs 4 kX9_spot (ak_lald (ak_l2i (ak_ri Q))))))))))
def cl_X9_unitsAt (kX9_spot : am_T) (Q : am_Q) (G : Nat → am_K) : Prop := am_N G 0 (B_X9_unitsAt_0 kX9_spot Q G)
def WP_X9_unitsAt (kX9_spot : am_T) : am_T := fun av h Q => (lg_sl av).length ≤ 5 ∧ ∀ G, cl_X9_unitsAt kX9_spot Q G → G 0 (am_ent 5 av) [] h
set_option maxHeartbeats 4000000 in
set_option maxRecDepth 100000 in
theorem s_X9_unitsAt {mX9_spot : Room} {kX9_spot : am_T} (h_X9_spot : am_S false yX9_spot (am_ws yX9_spot cX9_spot 4 (some .int)) mX9_spot kX9_spot) {rm : Room} (hz : rm.cells = 0 ∧ rm.slots = 0) (R_X9_spot : mX9_spot.frames + 1 ≤ rm.frames ∧ 8 + (4 + 11) + mX9_spot.locals ≤ rm.locals) : am_S false yX9_unitsAt (am_ws yX9_unitsAt cX9_unitsAt 5 (some .int)) rm (WP_X9_unitsAt kX9_spot) := by
  refine am_S.of (fun _ => hz) (by decide +kernel) (fun h0 Q G => cl_X9_unitsAt kX9_spot Q G) ?_
  intro p l e s m args below meth c D h0 Q X hr hnm hQ
  show am_N _ 0 (B_X9_unitsAt_0  kX9_spot Q _)
  · unfold B_X9_unitsAt_0
    refine as_aload_n X (by decide +kernel : decode cX9_unitsAt 0 = .ok (.aload_n 0, 1)) rfl ?_
    refine as_get X fc_X9 (by decide +kernel : decode cX9_unitsAt 1 = .ok (.getfield 43, 3)) (by decide) fl_X9_43 ?_
    refine as_iload_n X (by decide +kernel : decode cX9_unitsAt 4 = .ok (.iload_n 1, 1)) rfl ?_
    refine as_iload_n X (by decide +kernel : decode cX9_unitsAt 5 = .ok (.iload_n 2, 1)) rfl ?_
    refine as_iload_n X (by decide +kernel : decode cX9_unitsAt 6 = .ok (.iload_n 3, 1)) rfl ?_
    refine as_iload X (by decide +kernel : decode cX9_unitsAt 7 = .ok (.iload 4, 2)) ?_
    refine as_cs X h_X9_spot (by decide +kernel : decode cX9_unitsAt 9 = .ok (.invokestatic 161, 3)) dn_X9_spot ml_X9_161 st_X9_spot ini_X9 co_X9_spot R_X9_spot ?_
    refine as_laload X (by decide +kernel : decode cX9_unitsAt 12 = .ok (.laload, 1)) ?_
    refine as_l2i X (by decide +kernel : decode cX9_unitsAt 13 = .ok (.l2i, 1)) ?_
    exact as_ri X hQ hr (by decide +kernel : decode cX9_unitsAt 14 = .ok (.ireturn, 1))

def B_X9_opens_0 (Q : am_Q) (G : Nat → am_K) : am_K := (ak_al 0 (ak_c (.int 0) (ak_puti 7 19 (ak_al 0 (ak_c (.int (-1)) (ak_puti 7 20 (ak_rv Q)))))))
def cl_X9_opens (Q : am_Q) (G : Nat → am_K) : Prop := am_N G 0 (B_X9_opens_0 Q G)
def WP_X9_opens : am_T := fun av h Q => (lg_sl av).length ≤ 1 ∧ ∀ G, cl_X9_opens Q G → G 0 (am_ent 1 av) [] h
set_option maxHeartbeats 4000000 in
set_option maxRecDepth 100000 in
theorem s_X9_opens {rm : Room} (hz : rm.cells = 0 ∧ rm.slots = 0) : am_S false yX9_opens (am_ws yX9_opens cX9_opens 1 none) rm (WP_X9_opens) := by
  refine am_S.of (fun _ => hz) (by decide +kernel) (fun h0 Q G => cl_X9_opens Q G) ?_
  intro p l e s m args below meth c D h0 Q X hr hnm hQ
  show am_N _ 0 (B_X9_opens_0  Q _)
  · unfold B_X9_opens_0
    refine as_aload_n X (by decide +kernel : decode cX9_opens 0 = .ok (.aload_n 0, 1)) rfl ?_
    refine as_iconst X (by decide +kernel : decode cX9_opens 1 = .ok (.iconst 0, 1)) rfl ?_
    refine as_puti X fc_X9 (by decide +kernel : decode cX9_opens 2 = .ok (.putfield 165, 3)) (by decide) fl_X9_165 (Or.inl rfl) rfl ?_
    refine as_aload_n X (by decide +kernel : decode cX9_opens 5 = .ok (.aload_n 0, 1)) rfl ?_
    refine as_iconst X (by decide +kernel : decode cX9_opens 6 = .ok (.iconst (-1), 1)) rfl ?_
    refine as_puti X fc_X9 (by decide +kernel : decode cX9_opens 7 = .ok (.putfield 168, 3)) (by decide) fl_X9_168 (Or.inl rfl) rfl ?_
    exact as_rv X hQ hr (by decide +kernel : decode cX9_opens 10 = .ok (.return_, 1))

def B_X9_meets_0 (Q : am_Q) (G : Nat → am_K) : am_K := (ak_ll 1 (ak_c (.long 0) (ak_lc (ak_if (fun x => x = 0) (ak_rv Q) (ak_al 0 (ak_get 7 20 (ak_if (fun x => x < 0) (G 22) (ak_il 3 (ak_al 0 (ak_get 7 20 (ak_ic (fun x y => y ≤ x) (G 70) (G 22))))))))))))
def B_X9_meets_22 (Q : am_Q) (G : Nat → am_K) : am_K := (ak_al 0 (ak_il 3 (ak_puti 7 20 (ak_al 0 (ak_al 0 (ak_get 7 17 (ak_if (fun x => x = 0) (ak_al 0 (ak_get 7 19 (G 43))) (ak_c (.int 0) (G 43)))))))))
def B_X9_meets_43 (Q : am_Q) (G : Nat → am_K) : am_K := (ak_puti 7 19 (ak_al 0 (ak_il 4 (ak_puti 7 21 (ak_al 0 (ak_il 5 (ak_puti 7 22 (ak_al 0 (ak_il 6 (ak_puti 7 23 (ak_al 0 (ak_il 7 (ak_puti 7 24 (G 70))))))))))))))
def B_X9_meets_70 (Q : am_Q) (G : Nat → am_K) : am_K := (ak_al 0 (ak_get 7 17 (ak_if (fun x => x = 0) (G 85) (ak_il 3 (ak_al 0 (ak_get 7 20 (ak_ic (fun x y => x = y) (G 85) (G 117))))))))
def B_X9_meets_85 (Q : am_Q) (G : Nat → am_K) : am_K := (ak_al 0 (ak_al 0 (ak_get 7 19 (ak_i2l (ak_ll 1 (ak_lb (fun x y => x + y) (ak_c (.long 1000000) (ak_lc (ak_if (fun x => x ≤ 0) (ak_al 0 (ak_get 7 19 (ak_i2l (ak_ll 1 (ak_lb (fun x y => x + y) (G 113)))))) (ak_c (.long 1000000) (G 113)))))))))))
def B_X9_meets_113 (Q : am_Q) (G : Nat → am_K) : am_K := (ak_l2i (ak_puti 7 19 (G 117)))
def B_X9_meets_117 (Q : am_Q) (G : Nat → am_K) : am_K := (ak_rv Q)
def cl_X9_meets (Q : am_Q) (G : Nat → am_K) : Prop := am_N G 0 (B_X9_meets_0 Q G) ∧ am_N G 22 (B_X9_meets_22 Q G) ∧ am_N G 43 (B_X9_meets_43 Q G) ∧ am_N G 70 (B_X9_meets_70 Q G) ∧ am_N G 85 (B_X9_meets_85 Q G) ∧ am_N G 113 (B_X9_meets_113 Q G) ∧ am_N G 117 (B_X9_meets_117 Q G)
def WP_X9_meets : am_T := fun av h Q => (lg_sl av).length ≤ 8 ∧ ∀ G, cl_X9_meets Q G → G 0 (am_ent 8 av) [] h
set_option maxHeartbeats 4000000 in
set_option maxRecDepth 100000 in
theorem s_X9_meets {rm : Room} (hz : rm.cells = 0 ∧ rm.slots = 0) : am_S false yX9_meets (am_ws yX9_meets cX9_meets 8 none) rm (WP_X9_meets) := by
  refine am_S.of (fun _ => hz) (by decide +kernel) (fun h0 Q G => cl_X9_meets Q G) ?_
  intro p l e s m args below meth c D h0 Q X hr hnm hQ
  refine ⟨?_, ?_, ?_, ?_, ?_, ?_, ?_⟩
  · unfold B_X9_meets_0
    refine as_lload_n X (by decide +kernel : decode cX9_meets 0 = .ok (.lload_n 1, 1)) rfl ?_
    refine as_lconst X (by decide +kernel : decode cX9_meets 1 = .ok (.lconst 0, 1)) rfl ?_
    refine as_lcmp X (by decide +kernel : decode cX9_meets 2 = .ok (.lcmp, 1)) ?_
    refine as_if_ne X (tgt := 7) (by decide +kernel : decode cX9_meets 3 = .ok (.ifCond .ne 4, 3)) (by decide) ?_ ?_
    · exact as_rv X hQ hr (by decide +kernel : decode cX9_meets 6 = .ok (.return_, 1))
    · refine as_aload_n X (by decide +kernel : decode cX9_meets 7 = .ok (.aload_n 0, 1)) rfl ?_
      refine as_get X fc_X9 (by decide +kernel : decode cX9_meets 8 = .ok (.getfield 168, 3)) (by decide) fl_X9_168 ?_
      refine as_if_lt X (tgt := 22) (by decide +kernel : decode cX9_meets 11 = .ok (.ifCond .lt 11, 3)) (by decide) ?_ ?_
      · exact fun _ _ _ h => h
      · refine as_iload_n X (by decide +kernel : decode cX9_meets 14 = .ok (.iload_n 3, 1)) rfl ?_
        refine as_aload_n X (by decide +kernel : decode cX9_meets 15 = .ok (.aload_n 0, 1)) rfl ?_
        refine as_get X fc_X9 (by decide +kernel : decode cX9_meets 16 = .ok (.getfield 168, 3)) (by decide) fl_X9_168 ?_
        refine as_ic_ge X (tgt := 70) (by decide +kernel : decode cX9_meets 19 = .ok (.if_icmp .ge 51, 3)) (by decide) ?_ ?_
        · exact fun _ _ _ h => h
        · exact fun _ _ _ h => h
  · unfold B_X9_meets_22
    refine as_aload_n X (by decide +kernel : decode cX9_meets 22 = .ok (.aload_n 0, 1)) rfl ?_
    refine as_iload_n X (by decide +kernel : decode cX9_meets 23 = .ok (.iload_n 3, 1)) rfl ?_
    refine as_puti X fc_X9 (by decide +kernel : decode cX9_meets 24 = .ok (.putfield 168, 3)) (by decide) fl_X9_168 (Or.inl rfl) rfl ?_
    refine as_aload_n X (by decide +kernel : decode cX9_meets 27 = .ok (.aload_n 0, 1)) rfl ?_
    refine as_aload_n X (by decide +kernel : decode cX9_meets 28 = .ok (.aload_n 0, 1)) rfl ?_
    refine as_get X fc_X9 (by decide +kernel : decode cX9_meets 29 = .ok (.getfield 171, 3)) (by decide) fl_X9_171 ?_
    refine as_if_eq X (tgt := 39) (by decide +kernel : decode cX9_meets 32 = .ok (.ifCond .eq 7, 3)) (by decide) ?_ ?_
    · refine as_aload_n X (by decide +kernel : decode cX9_meets 39 = .ok (.aload_n 0, 1)) rfl ?_
      refine as_get X fc_X9 (by decide +kernel : decode cX9_meets 40 = .ok (.getfield 165, 3)) (by decide) fl_X9_165 ?_
      exact fun _ _ _ h => h
    · refine as_iconst X (by decide +kernel : decode cX9_meets 35 = .ok (.iconst 0, 1)) rfl ?_
      refine as_goto X (tgt := 43) (by decide +kernel : decode cX9_meets 36 = .ok (.goto 7, 3)) (by decide) ?_
      exact fun _ _ _ h => h
  · unfold B_X9_meets_43
    refine as_puti X fc_X9 (by decide +kernel : decode cX9_meets 43 = .ok (.putfield 165, 3)) (by decide) fl_X9_165 (Or.inl rfl) rfl ?_
    refine as_aload_n X (by decide +kernel : decode cX9_meets 46 = .ok (.aload_n 0, 1)) rfl ?_
    refine as_iload X (by decide +kernel : decode cX9_meets 47 = .ok (.iload 4, 2)) ?_
    refine as_puti X fc_X9 (by decide +kernel : decode cX9_meets 49 = .ok (.putfield 175, 3)) (by decide) fl_X9_175 (Or.inl rfl) rfl ?_
    refine as_aload_n X (by decide +kernel : decode cX9_meets 52 = .ok (.aload_n 0, 1)) rfl ?_
    refine as_iload X (by decide +kernel : decode cX9_meets 53 = .ok (.iload 5, 2)) ?_
    refine as_puti X fc_X9 (by decide +kernel : decode cX9_meets 55 = .ok (.putfield 178, 3)) (by decide) fl_X9_178 (Or.inl rfl) rfl ?_
    refine as_aload_n X (by decide +kernel : decode cX9_meets 58 = .ok (.aload_n 0, 1)) rfl ?_
    refine as_iload X (by decide +kernel : decode cX9_meets 59 = .ok (.iload 6, 2)) ?_
    refine as_puti X fc_X9 (by decide +kernel : decode cX9_meets 61 = .ok (.putfield 181, 3)) (by decide) fl_X9_181 (Or.inl rfl) rfl ?_
    refine as_aload_n X (by decide +kernel : decode cX9_meets 64 = .ok (.aload_n 0, 1)) rfl ?_
    refine as_iload X (by decide +kernel : decode cX9_meets 65 = .ok (.iload 7, 2)) ?_
    refine as_puti X fc_X9 (by decide +kernel : decode cX9_meets 67 = .ok (.putfield 184, 3)) (by decide) fl_X9_184 (Or.inl rfl) rfl ?_
    exact fun _ _ _ h => h
  · unfold B_X9_meets_70
    refine as_aload_n X (by decide +kernel : decode cX9_meets 70 = .ok (.aload_n 0, 1)) rfl ?_
    refine as_get X fc_X9 (by decide +kernel : decode cX9_meets 71 = .ok (.getfield 171, 3)) (by decide) fl_X9_171 ?_
    refine as_if_eq X (tgt := 85) (by decide +kernel : decode cX9_meets 74 = .ok (.ifCond .eq 11, 3)) (by decide) ?_ ?_
    · exact fun _ _ _ h => h
    · refine as_iload_n X (by decide +kernel : decode cX9_meets 77 = .ok (.iload_n 3, 1)) rfl ?_
      refine as_aload_n X (by decide +kernel : decode cX9_meets 78 = .ok (.aload_n 0, 1)) rfl ?_
      refine as_get X fc_X9 (by decide +kernel : decode cX9_meets 79 = .ok (.getfield 168, 3)) (by decide) fl_X9_168 ?_
      refine as_ic_ne X (tgt := 117) (by decide +kernel : decode cX9_meets 82 = .ok (.if_icmp .ne 35, 3)) (by decide) ?_ ?_
      · exact fun _ _ _ h => h
      · exact fun _ _ _ h => h
  · unfold B_X9_meets_85
    refine as_aload_n X (by decide +kernel : decode cX9_meets 85 = .ok (.aload_n 0, 1)) rfl ?_
    refine as_aload_n X (by decide +kernel : decode cX9_meets 86 = .ok (.aload_n 0, 1)) rfl ?_
    refine as_get X fc_X9 (by decide +kernel : decode cX9_meets 87 = .ok (.getfield 165, 3)) (by decide) fl_X9_165 ?_
    refine as_i2l X (by decide +kernel : decode cX9_meets 90 = .ok (.i2l, 1)) ?_
    refine as_lload_n X (by decide +kernel : decode cX9_meets 91 = .ok (.lload_n 1, 1)) rfl ?_
    refine as_ladd X (by decide +kernel : decode cX9_meets 92 = .ok (.ladd, 1)) ?_
    refine as_ldc2 X (by decide +kernel : decode cX9_meets 93 = .ok (.ldc2_w 187, 3)) kl_X9_187 ?_
    refine as_lcmp X (by decide +kernel : decode cX9_meets 96 = .ok (.lcmp, 1)) ?_
    refine as_if_le X (tgt := 106) (by decide +kernel : decode cX9_meets 97 = .ok (.ifCond .le 9, 3)) (by decide) ?_ ?_
    · refine as_aload_n X (by decide +kernel : decode cX9_meets 106 = .ok (.aload_n 0, 1)) rfl ?_
      refine as_get X fc_X9 (by decide +kernel : decode cX9_meets 107 = .ok (.getfield 165, 3)) (by decide) fl_X9_165 ?_
      refine as_i2l X (by decide +kernel : decode cX9_meets 110 = .ok (.i2l, 1)) ?_
      refine as_lload_n X (by decide +kernel : decode cX9_meets 111 = .ok (.lload_n 1, 1)) rfl ?_
      refine as_ladd X (by decide +kernel : decode cX9_meets 112 = .ok (.ladd, 1)) ?_
      exact fun _ _ _ h => h
    · refine as_ldc2 X (by decide +kernel : decode cX9_meets 100 = .ok (.ldc2_w 187, 3)) kl_X9_187 ?_
      refine as_goto X (tgt := 113) (by decide +kernel : decode cX9_meets 103 = .ok (.goto 10, 3)) (by decide) ?_
      exact fun _ _ _ h => h
  · unfold B_X9_meets_113
    refine as_l2i X (by decide +kernel : decode cX9_meets 113 = .ok (.l2i, 1)) ?_
    refine as_puti X fc_X9 (by decide +kernel : decode cX9_meets 114 = .ok (.putfield 165, 3)) (by decide) fl_X9_165 (Or.inl rfl) rfl ?_
    exact fun _ _ _ h => h
  · unfold B_X9_meets_117
    exact as_rv X hQ hr (by decide +kernel : decode cX9_meets 117 = .ok (.return_, 1))

def B_X9_packed_0 (Q : am_Q) (G : Nat → am_K) : am_K := (ak_al 0 (ak_get 7 20 (ak_if (fun x => 0 ≤ x) (ak_c (.int 256) (ak_al 0 (ak_get 7 19 (ak_ib (fun x y => x * y) (ak_al 0 (ak_get 7 20 (ak_ib (fun x y => x + y) (ak_c (.int 1) (ak_ib (fun x y => x + y) (G 26)))))))))) (ak_c (.int 0) (G 26)))))
def B_X9_packed_26 (Q : am_Q) (G : Nat → am_K) : am_K := (ak_ri Q)
def cl_X9_packed (Q : am_Q) (G : Nat → am_K) : Prop := am_N G 0 (B_X9_packed_0 Q G) ∧ am_N G 26 (B_X9_packed_26 Q G)
def WP_X9_packed : am_T := fun av h Q => (lg_sl av).length ≤ 1 ∧ ∀ G, cl_X9_packed Q G → G 0 (am_ent 1 av) [] h
set_option maxHeartbeats 4000000 in
set_option maxRecDepth 100000 in
theorem s_X9_packed {rm : Room} (hz : rm.cells = 0 ∧ rm.slots = 0) : am_S false yX9_packed (am_ws yX9_packed cX9_packed 1 (some .int)) rm (WP_X9_packed) := by
  refine am_S.of (fun _ => hz) (by decide +kernel) (fun h0 Q G => cl_X9_packed Q G) ?_
  intro p l e s m args below meth c D h0 Q X hr hnm hQ
  refine ⟨?_, ?_⟩
  · unfold B_X9_packed_0
    refine as_aload_n X (by decide +kernel : decode cX9_packed 0 = .ok (.aload_n 0, 1)) rfl ?_
    refine as_get X fc_X9 (by decide +kernel : decode cX9_packed 1 = .ok (.getfield 168, 3)) (by decide) fl_X9_168 ?_
    refine as_if_ge X (tgt := 11) (by decide +kernel : decode cX9_packed 4 = .ok (.ifCond .ge 7, 3)) (by decide) ?_ ?_
    · refine as_sipush X (by decide +kernel : decode cX9_packed 11 = .ok (.sipush 256, 3)) rfl ?_
      refine as_aload_n X (by decide +kernel : decode cX9_packed 14 = .ok (.aload_n 0, 1)) rfl ?_
      refine as_get X fc_X9 (by decide +kernel : decode cX9_packed 15 = .ok (.getfield 165, 3)) (by decide) fl_X9_165 ?_
      refine as_imul X (by decide +kernel : decode cX9_packed 18 = .ok (.imul, 1)) ?_
      refine as_aload_n X (by decide +kernel : decode cX9_packed 19 = .ok (.aload_n 0, 1)) rfl ?_
      refine as_get X fc_X9 (by decide +kernel : decode cX9_packed 20 = .ok (.getfield 168, 3)) (by decide) fl_X9_168 ?_
      refine as_iadd X (by decide +kernel : decode cX9_packed 23 = .ok (.iadd, 1)) ?_
      refine as_iconst X (by decide +kernel : decode cX9_packed 24 = .ok (.iconst 1, 1)) rfl ?_
      refine as_iadd X (by decide +kernel : decode cX9_packed 25 = .ok (.iadd, 1)) ?_
      exact fun _ _ _ h => h
    · refine as_iconst X (by decide +kernel : decode cX9_packed 7 = .ok (.iconst 0, 1)) rfl ?_
      refine as_goto X (tgt := 26) (by decide +kernel : decode cX9_packed 8 = .ok (.goto 18, 3)) (by decide) ?_
      exact fun _ _ _ h => h
  · unfold B_X9_packed_26
    exact as_ri X hQ hr (by decide +kernel : decode cX9_packed 26 = .ok (.ireturn, 1))

def B_X9_manyOf_0 (Q : am_Q) (G : Nat → am_K) : am_K := (ak_il 0 (ak_c (.int 256) (ak_id (fun x y => x / y) (ak_ri Q))))
def cl_X9_manyOf (Q : am_Q) (G : Nat → am_K) : Prop := am_N G 0 (B_X9_manyOf_0 Q G)
def WP_X9_manyOf : am_T := fun av h Q => (lg_sl av).length ≤ 1 ∧ ∀ G, cl_X9_manyOf Q G → G 0 (am_ent 1 av) [] h
set_option maxHeartbeats 4000000 in
set_option maxRecDepth 100000 in
theorem s_X9_manyOf {rm : Room} (hz : rm.cells = 0 ∧ rm.slots = 0) : am_S false yX9_manyOf (am_ws yX9_manyOf cX9_manyOf 1 (some .int)) rm (WP_X9_manyOf) := by
  refine am_S.of (fun _ => hz) (by decide +kernel) (fun h0 Q G => cl_X9_manyOf Q G) ?_
  intro p l e s m args below meth c D h0 Q X hr hnm hQ
  show am_N _ 0 (B_X9_manyOf_0  Q _)
  · unfold B_X9_manyOf_0
    refine as_iload_n X (by decide +kernel : decode cX9_manyOf 0 = .ok (.iload_n 0, 1)) rfl ?_
    refine as_sipush X (by decide +kernel : decode cX9_manyOf 1 = .ok (.sipush 256, 3)) rfl ?_
    refine as_idiv X (by decide +kernel : decode cX9_manyOf 4 = .ok (.idiv, 1)) ?_
    exact as_ri X hQ hr (by decide +kernel : decode cX9_manyOf 5 = .ok (.ireturn, 1))

def B_X9_costOf_0 (Q : am_Q) (G : Nat → am_K) : am_K := (ak_il 0 (ak_c (.int 256) (ak_id (fun x y => x - x / y * y) (ak_c (.int 1) (ak_ib (fun x y => x - y) (ak_ri Q))))))
def cl_X9_costOf (Q : am_Q) (G : Nat → am_K) : Prop := am_N G 0 (B_X9_costOf_0 Q G)
def WP_X9_costOf : am_T := fun av h Q => (lg_sl av).length ≤ 1 ∧ ∀ G, cl_X9_costOf Q G → G 0 (am_ent 1 av) [] h
set_option maxHeartbeats 4000000 in
set_option maxRecDepth 100000 in
theorem s_X9_costOf {rm : Room} (hz : rm.cells = 0 ∧ rm.slots = 0) : am_S false yX9_costOf (am_ws yX9_costOf cX9_costOf 1 (some .int)) rm (WP_X9_costOf) := by
  refine am_S.of (fun _ => hz) (by decide +kernel) (fun h0 Q G => cl_X9_costOf Q G) ?_
  intro p l e s m args below meth c D h0 Q X hr hnm hQ
  show am_N _ 0 (B_X9_costOf_0  Q _)
  · unfold B_X9_costOf_0
    refine as_iload_n X (by decide +kernel : decode cX9_costOf 0 = .ok (.iload_n 0, 1)) rfl ?_
    refine as_sipush X (by decide +kernel : decode cX9_costOf 1 = .ok (.sipush 256, 3)) rfl ?_
    refine as_irem X (by decide +kernel : decode cX9_costOf 4 = .ok (.irem, 1)) ?_
    refine as_iconst X (by decide +kernel : decode cX9_costOf 5 = .ok (.iconst 1, 1)) rfl ?_
    refine as_isub X (by decide +kernel : decode cX9_costOf 6 = .ok (.isub, 1)) ?_
    exact as_ri X hQ hr (by decide +kernel : decode cX9_costOf 7 = .ok (.ireturn, 1))

def B_X9_spells_0 (kX9_letter : am_T) (Q : am_Q) (G : Nat → am_K) : am_K := (ak_il 4 (ak_al 0 (ak_get 7 25 (ak_ic (fun x y => x = y) (ak_c (.int 1) (G 14)) (ak_c (.int 0) (G 14))))))
def B_X9_spells_14 (kX9_letter : am_T) (Q : am_Q) (G : Nat → am_K) : am_K := (ak_is 5 (ak_c (.int 0) (ak_is 6 (G 19))))
def B_X9_spells_19 (kX9_letter : am_T) (Q : am_Q) (G : Nat → am_K) : am_K := (ak_il 6 (ak_al 0 (ak_get 7 25 (ak_ic (fun x y => y ≤ x) (G 65) (ak_il 5 (ak_if (fun x => x = 0) (G 65) (ak_al 1 (ak_il 2 (ak_c (.int 1) (ak_ib (fun x y => x + y) (ak_il 3 (ak_ib (fun x y => x + y) (ak_il 6 (ak_ib (fun x y => x + y) (ak_iald (ak_al 0 (ak_il 6 (ak_cv 2 7 kX9_letter (ak_ic (fun x y => x = y) (ak_c (.int 1) (G 57)) (ak_c (.int 0) (G 57)))))))))))))))))))))
def B_X9_spells_57 (kX9_letter : am_T) (Q : am_Q) (G : Nat → am_K) : am_K := (ak_is 5 (ak_ii 6 1 (G 19)))
def B_X9_spells_65 (kX9_letter : am_T) (Q : am_Q) (G : Nat → am_K) : am_K := (ak_il 5 (ak_rz Q))
def cl_X9_spells (kX9_letter : am_T) (Q : am_Q) (G : Nat → am_K) : Prop := am_N G 0 (B_X9_spells_0 kX9_letter Q G) ∧ am_N G 14 (B_X9_spells_14 kX9_letter Q G) ∧ am_N G 19 (B_X9_spells_19 kX9_letter Q G) ∧ am_N G 57 (B_X9_spells_57 kX9_letter Q G) ∧ am_N G 65 (B_X9_spells_65 kX9_letter Q G)
def WP_X9_spells (kX9_letter : am_T) : am_T := fun av h Q => (lg_sl av).length ≤ 7 ∧ ∀ G, cl_X9_spells kX9_letter Q G → G 0 (am_ent 7 av) [] h
set_option maxHeartbeats 4000000 in
set_option maxRecDepth 100000 in
theorem s_X9_spells {mX9_letter : Room} {kX9_letter : am_T} (h_X9_letter : am_S false yX9_letter (am_ws yX9_letter cX9_letter 2 (some .int)) mX9_letter kX9_letter) {rm : Room} (hz : rm.cells = 0 ∧ rm.slots = 0) (R_X9_letter : mX9_letter.frames + 1 ≤ rm.frames ∧ 8 + (2 + 11) + mX9_letter.locals ≤ rm.locals) : am_S false yX9_spells (am_ws yX9_spells cX9_spells 7 (some .boolean)) rm (WP_X9_spells kX9_letter) := by
  refine am_S.of (fun _ => hz) (by decide +kernel) (fun h0 Q G => cl_X9_spells kX9_letter Q G) ?_
  intro p l e s m args below meth c D h0 Q X hr hnm hQ
  refine ⟨?_, ?_, ?_, ?_, ?_⟩
  · unfold B_X9_spells_0
    refine as_iload X (by decide +kernel : decode cX9_spells 0 = .ok (.iload 4, 2)) ?_
    refine as_aload_n X (by decide +kernel : decode cX9_spells 2 = .ok (.aload_n 0, 1)) rfl ?_
    refine as_get X fc_X9 (by decide +kernel : decode cX9_spells 3 = .ok (.getfield 158, 3)) (by decide) fl_X9_158 ?_
    refine as_ic_ne X (tgt := 13) (by decide +kernel : decode cX9_spells 6 = .ok (.if_icmp .ne 7, 3)) (by decide) ?_ ?_
    · refine as_iconst X (by decide +kernel : decode cX9_spells 9 = .ok (.iconst 1, 1)) rfl ?_
      refine as_goto X (tgt := 14) (by decide +kernel : decode cX9_spells 10 = .ok (.goto 4, 3)) (by decide) ?_
      exact fun _ _ _ h => h
    · refine as_iconst X (by decide +kernel : decode cX9_spells 13 = .ok (.iconst 0, 1)) rfl ?_
      exact fun _ _ _ h => h
  · unfold B_X9_spells_14
    refine as_istore X (by decide +kernel : decode cX9_spells 14 = .ok (.istore 5, 2)) ?_
    refine as_iconst X (by decide +kernel : decode cX9_spells 16 = .ok (.iconst 0, 1)) rfl ?_
    refine as_istore X (by decide +kernel : decode cX9_spells 17 = .ok (.istore 6, 2)) ?_
    exact fun _ _ _ h => h
  · unfold B_X9_spells_19
    refine as_iload X (by decide +kernel : decode cX9_spells 19 = .ok (.iload 6, 2)) ?_
    refine as_aload_n X (by decide +kernel : decode cX9_spells 21 = .ok (.aload_n 0, 1)) rfl ?_
    refine as_get X fc_X9 (by decide +kernel : decode cX9_spells 22 = .ok (.getfield 158, 3)) (by decide) fl_X9_158 ?_
    refine as_ic_ge X (tgt := 65) (by decide +kernel : decode cX9_spells 25 = .ok (.if_icmp .ge 40, 3)) (by decide) ?_ ?_
    · exact fun _ _ _ h => h
    · refine as_iload X (by decide +kernel : decode cX9_spells 28 = .ok (.iload 5, 2)) ?_
      refine as_if_eq X (tgt := 65) (by decide +kernel : decode cX9_spells 30 = .ok (.ifCond .eq 35, 3)) (by decide) ?_ ?_
      · exact fun _ _ _ h => h
      · refine as_aload_n X (by decide +kernel : decode cX9_spells 33 = .ok (.aload_n 1, 1)) rfl ?_
        refine as_iload_n X (by decide +kernel : decode cX9_spells 34 = .ok (.iload_n 2, 1)) rfl ?_
        refine as_iconst X (by decide +kernel : decode cX9_spells 35 = .ok (.iconst 1, 1)) rfl ?_
        refine as_iadd X (by decide +kernel : decode cX9_spells 36 = .ok (.iadd, 1)) ?_
        refine as_iload_n X (by decide +kernel : decode cX9_spells 37 = .ok (.iload_n 3, 1)) rfl ?_
        refine as_iadd X (by decide +kernel : decode cX9_spells 38 = .ok (.iadd, 1)) ?_
        refine as_iload X (by decide +kernel : decode cX9_spells 39 = .ok (.iload 6, 2)) ?_
        refine as_iadd X (by decide +kernel : decode cX9_spells 41 = .ok (.iadd, 1)) ?_
        refine as_iaload X (by decide +kernel : decode cX9_spells 42 = .ok (.iaload, 1)) ?_
        refine as_aload_n X (by decide +kernel : decode cX9_spells 43 = .ok (.aload_n 0, 1)) rfl ?_
        refine as_iload X (by decide +kernel : decode cX9_spells 44 = .ok (.iload 6, 2)) ?_
        refine as_cv X h_X9_letter rfl (by decide +kernel : decode cX9_spells 46 = .ok (.invokevirtual 189, 3)) dn_X9_letter ml_X9_189 im_X9_letter se_X9_letter ini_X9 co_X9_letter R_X9_letter ?_
        refine as_ic_ne X (tgt := 56) (by decide +kernel : decode cX9_spells 49 = .ok (.if_icmp .ne 7, 3)) (by decide) ?_ ?_
        · refine as_iconst X (by decide +kernel : decode cX9_spells 52 = .ok (.iconst 1, 1)) rfl ?_
          refine as_goto X (tgt := 57) (by decide +kernel : decode cX9_spells 53 = .ok (.goto 4, 3)) (by decide) ?_
          exact fun _ _ _ h => h
        · refine as_iconst X (by decide +kernel : decode cX9_spells 56 = .ok (.iconst 0, 1)) rfl ?_
          exact fun _ _ _ h => h
  · unfold B_X9_spells_57
    refine as_istore X (by decide +kernel : decode cX9_spells 57 = .ok (.istore 5, 2)) ?_
    refine as_iinc X (by decide +kernel : decode cX9_spells 59 = .ok (.iinc 6 1, 3)) rfl ?_
    refine as_goto X (tgt := 19) (by decide +kernel : decode cX9_spells 62 = .ok (.goto (-43), 3)) (by decide) ?_
    exact fun _ _ _ h => h
  · unfold B_X9_spells_65
    refine as_iload X (by decide +kernel : decode cX9_spells 65 = .ok (.iload 5, 2)) ?_
    exact as_rz X hQ hr (by decide +kernel : decode cX9_spells 67 = .ok (.ireturn, 1))

def B_X9_oneWord_0 (kX9_spells : am_T) (kX9_meets : am_T) (kX9_isOf : am_T) (Q : am_Q) (G : Nat → am_K) : am_K := (ak_c (.int 0) (ak_is 2 (G 2)))
def B_X9_oneWord_2 (kX9_spells : am_T) (kX9_meets : am_T) (kX9_isOf : am_T) (Q : am_Q) (G : Nat → am_K) : am_K := (ak_il 2 (ak_al 0 (ak_get 7 2 (ak_ic (fun x y => y ≤ x) (ak_al 0 (ak_al 0 (ak_get 7 11 (ak_c (.int 8) (ak_il 1 (ak_ib (fun x y => x * y) (ak_c (.int 0) (ak_al 0 (ak_get 7 11 (ak_c (.int 8) (ak_il 1 (ak_ib (fun x y => x * y) (ak_iald (ak_cv 5 7 kX9_spells (ak_if (fun x => x = 0) (G 114) (ak_al 0 (ak_c (.long 1) (ak_al 0 (ak_get 7 14 (ak_c (.int 1) (ak_iald (ak_c (.int 1) (ak_c (.int 0) (ak_c (.int 0) (ak_c (.int 0) (ak_cv 7 7 kX9_meets (G 114))))))))))))))))))))))))))) (ak_al 0 (ak_get 7 5 (ak_il 2 (ak_iald (ak_if (fun x => x = 0) (ak_al 0 (ak_il 2 (ak_il 1 (ak_cv 3 7 kX9_isOf (ak_if (fun x => x = 0) (G 68) (ak_al 0 (ak_al 0 (ak_get 7 4 (ak_c (.int 9) (ak_il 2 (ak_ib (fun x y => x * y) (ak_c (.int 0) (ak_al 0 (ak_get 7 4 (ak_c (.int 9) (ak_il 2 (ak_ib (fun x y => x * y) (ak_iald (ak_cv 5 7 kX9_spells (ak_if (fun x => x = 0) (G 68) (ak_al 0 (ak_c (.long 1) (ak_al 0 (ak_get 7 14 (ak_c (.int 0) (ak_iald (ak_c (.int 0) (ak_il 2 (ak_c (.int 0) (ak_c (.int 0) (ak_cv 7 7 kX9_meets (G 68)))))))))))))))))))))))))))))))) (G 68))))))))))
def B_X9_oneWord_68 (kX9_spells : am_T) (kX9_meets : am_T) (kX9_isOf : am_T) (Q : am_Q) (G : Nat → am_K) : am_K := (ak_ii 2 1 (G 2))
def B_X9_oneWord_114 (kX9_spells : am_T) (kX9_meets : am_T) (kX9_isOf : am_T) (Q : am_Q) (G : Nat → am_K) : am_K := (ak_rv Q)
def cl_X9_oneWord (kX9_spells : am_T) (kX9_meets : am_T) (kX9_isOf : am_T) (Q : am_Q) (G : Nat → am_K) : Prop := am_N G 0 (B_X9_oneWord_0 kX9_spells kX9_meets kX9_isOf Q G) ∧ am_N G 2 (B_X9_oneWord_2 kX9_spells kX9_meets kX9_isOf Q G) ∧ am_N G 68 (B_X9_oneWord_68 kX9_spells kX9_meets kX9_isOf Q G) ∧ am_N G 114 (B_X9_oneWord_114 kX9_spells kX9_meets kX9_isOf Q G)
def WP_X9_oneWord (kX9_spells : am_T) (kX9_meets : am_T) (kX9_isOf : am_T) : am_T := fun av h Q => (lg_sl av).length ≤ 3 ∧ ∀ G, cl_X9_oneWord kX9_spells kX9_meets kX9_isOf Q G → G 0 (am_ent 3 av) [] h
set_option maxHeartbeats 4000000 in
set_option maxRecDepth 100000 in
theorem s_X9_oneWord {mX9_spells : Room} {kX9_spells : am_T} (h_X9_spells : am_S false yX9_spells (am_ws yX9_spells cX9_spells 7 (some .boolean)) mX9_spells kX9_spells) {mX9_meets : Room} {kX9_meets : am_T} (h_X9_meets : am_S false yX9_meets (am_ws yX9_meets cX9_meets 8 none) mX9_meets kX9_meets) {mX9_isOf : Room} {kX9_isOf : am_T} (h_X9_isOf : am_S false yX9_isOf (am_ws yX9_isOf cX9_isOf 3 (some .boolean)) mX9_isOf kX9_isOf) {rm : Room} (hz : rm.cells = 0 ∧ rm.slots = 0) (R_X9_spells : mX9_spells.frames + 1 ≤ rm.frames ∧ 8 + (7 + 11) + mX9_spells.locals ≤ rm.locals) (R_X9_meets : mX9_meets.frames + 1 ≤ rm.frames ∧ 8 + (8 + 11) + mX9_meets.locals ≤ rm.locals) (R_X9_isOf : mX9_isOf.frames + 1 ≤ rm.frames ∧ 8 + (3 + 11) + mX9_isOf.locals ≤ rm.locals) : am_S false yX9_oneWord (am_ws yX9_oneWord cX9_oneWord 3 none) rm (WP_X9_oneWord kX9_spells kX9_meets kX9_isOf) := by
  refine am_S.of (fun _ => hz) (by decide +kernel) (fun h0 Q G => cl_X9_oneWord kX9_spells kX9_meets kX9_isOf Q G) ?_
  intro p l e s m args below meth c D h0 Q X hr hnm hQ
  refine ⟨?_, ?_, ?_, ?_⟩
  · unfold B_X9_oneWord_0
    refine as_iconst X (by decide +kernel : decode cX9_oneWord 0 = .ok (.iconst 0, 1)) rfl ?_
    refine as_istore_n X (by decide +kernel : decode cX9_oneWord 1 = .ok (.istore_n 2, 1)) rfl ?_
    exact fun _ _ _ h => h
  · unfold B_X9_oneWord_2
    refine as_iload_n X (by decide +kernel : decode cX9_oneWord 2 = .ok (.iload_n 2, 1)) rfl ?_
    refine as_aload_n X (by decide +kernel : decode cX9_oneWord 3 = .ok (.aload_n 0, 1)) rfl ?_
    refine as_get X fc_X9 (by decide +kernel : decode cX9_oneWord 4 = .ok (.getfield 116, 3)) (by decide) fl_X9_116 ?_
    refine as_ic_ge X (tgt := 74) (by decide +kernel : decode cX9_oneWord 7 = .ok (.if_icmp .ge 67, 3)) (by decide) ?_ ?_
    · refine as_aload_n X (by decide +kernel : decode cX9_oneWord 74 = .ok (.aload_n 0, 1)) rfl ?_
      refine as_aload_n X (by decide +kernel : decode cX9_oneWord 75 = .ok (.aload_n 0, 1)) rfl ?_
      refine as_get X fc_X9 (by decide +kernel : decode cX9_oneWord 76 = .ok (.getfield 31, 3)) (by decide) fl_X9_31 ?_
      refine as_bipush X (by decide +kernel : decode cX9_oneWord 79 = .ok (.bipush 8, 2)) rfl ?_
      refine as_iload_n X (by decide +kernel : decode cX9_oneWord 81 = .ok (.iload_n 1, 1)) rfl ?_
      refine as_imul X (by decide +kernel : decode cX9_oneWord 82 = .ok (.imul, 1)) ?_
      refine as_iconst X (by decide +kernel : decode cX9_oneWord 83 = .ok (.iconst 0, 1)) rfl ?_
      refine as_aload_n X (by decide +kernel : decode cX9_oneWord 84 = .ok (.aload_n 0, 1)) rfl ?_
      refine as_get X fc_X9 (by decide +kernel : decode cX9_oneWord 85 = .ok (.getfield 31, 3)) (by decide) fl_X9_31 ?_
      refine as_bipush X (by decide +kernel : decode cX9_oneWord 88 = .ok (.bipush 8, 2)) rfl ?_
      refine as_iload_n X (by decide +kernel : decode cX9_oneWord 90 = .ok (.iload_n 1, 1)) rfl ?_
      refine as_imul X (by decide +kernel : decode cX9_oneWord 91 = .ok (.imul, 1)) ?_
      refine as_iaload X (by decide +kernel : decode cX9_oneWord 92 = .ok (.iaload, 1)) ?_
      refine as_cv X h_X9_spells rfl (by decide +kernel : decode cX9_oneWord 93 = .ok (.invokevirtual 192, 3)) dn_X9_spells ml_X9_192 im_X9_spells se_X9_spells ini_X9 co_X9_spells R_X9_spells ?_
      refine as_if_eq X (tgt := 114) (by decide +kernel : decode cX9_oneWord 96 = .ok (.ifCond .eq 18, 3)) (by decide) ?_ ?_
      · exact fun _ _ _ h => h
      · refine as_aload_n X (by decide +kernel : decode cX9_oneWord 99 = .ok (.aload_n 0, 1)) rfl ?_
        refine as_lconst X (by decide +kernel : decode cX9_oneWord 100 = .ok (.lconst 1, 1)) rfl ?_
        refine as_aload_n X (by decide +kernel : decode cX9_oneWord 101 = .ok (.aload_n 0, 1)) rfl ?_
        refine as_get X fc_X9 (by decide +kernel : decode cX9_oneWord 102 = .ok (.getfield 40, 3)) (by decide) fl_X9_40 ?_
        refine as_iconst X (by decide +kernel : decode cX9_oneWord 105 = .ok (.iconst 1, 1)) rfl ?_
        refine as_iaload X (by decide +kernel : decode cX9_oneWord 106 = .ok (.iaload, 1)) ?_
        refine as_iconst X (by decide +kernel : decode cX9_oneWord 107 = .ok (.iconst 1, 1)) rfl ?_
        refine as_iconst X (by decide +kernel : decode cX9_oneWord 108 = .ok (.iconst 0, 1)) rfl ?_
        refine as_iconst X (by decide +kernel : decode cX9_oneWord 109 = .ok (.iconst 0, 1)) rfl ?_
        refine as_iconst X (by decide +kernel : decode cX9_oneWord 110 = .ok (.iconst 0, 1)) rfl ?_
        refine as_cv X h_X9_meets rfl (by decide +kernel : decode cX9_oneWord 111 = .ok (.invokevirtual 196, 3)) dn_X9_meets ml_X9_196 im_X9_meets se_X9_meets ini_X9 co_X9_meets R_X9_meets ?_
        exact fun _ _ _ h => h
    · refine as_aload_n X (by decide +kernel : decode cX9_oneWord 10 = .ok (.aload_n 0, 1)) rfl ?_
      refine as_get X fc_X9 (by decide +kernel : decode cX9_oneWord 11 = .ok (.getfield 19, 3)) (by decide) fl_X9_19 ?_
      refine as_iload_n X (by decide +kernel : decode cX9_oneWord 14 = .ok (.iload_n 2, 1)) rfl ?_
      refine as_iaload X (by decide +kernel : decode cX9_oneWord 15 = .ok (.iaload, 1)) ?_
      refine as_if_ne X (tgt := 68) (by decide +kernel : decode cX9_oneWord 16 = .ok (.ifCond .ne 52, 3)) (by decide) ?_ ?_
      · refine as_aload_n X (by decide +kernel : decode cX9_oneWord 19 = .ok (.aload_n 0, 1)) rfl ?_
        refine as_iload_n X (by decide +kernel : decode cX9_oneWord 20 = .ok (.iload_n 2, 1)) rfl ?_
        refine as_iload_n X (by decide +kernel : decode cX9_oneWord 21 = .ok (.iload_n 1, 1)) rfl ?_
        refine as_cv X h_X9_isOf rfl (by decide +kernel : decode cX9_oneWord 22 = .ok (.invokevirtual 151, 3)) dn_X9_isOf ml_X9_151 im_X9_isOf se_X9_isOf ini_X9 co_X9_isOf R_X9_isOf ?_
        refine as_if_eq X (tgt := 68) (by decide +kernel : decode cX9_oneWord 25 = .ok (.ifCond .eq 43, 3)) (by decide) ?_ ?_
        · exact fun _ _ _ h => h
        · refine as_aload_n X (by decide +kernel : decode cX9_oneWord 28 = .ok (.aload_n 0, 1)) rfl ?_
          refine as_aload_n X (by decide +kernel : decode cX9_oneWord 29 = .ok (.aload_n 0, 1)) rfl ?_
          refine as_get X fc_X9 (by decide +kernel : decode cX9_oneWord 30 = .ok (.getfield 16, 3)) (by decide) fl_X9_16 ?_
          refine as_bipush X (by decide +kernel : decode cX9_oneWord 33 = .ok (.bipush 9, 2)) rfl ?_
          refine as_iload_n X (by decide +kernel : decode cX9_oneWord 35 = .ok (.iload_n 2, 1)) rfl ?_
          refine as_imul X (by decide +kernel : decode cX9_oneWord 36 = .ok (.imul, 1)) ?_
          refine as_iconst X (by decide +kernel : decode cX9_oneWord 37 = .ok (.iconst 0, 1)) rfl ?_
          refine as_aload_n X (by decide +kernel : decode cX9_oneWord 38 = .ok (.aload_n 0, 1)) rfl ?_
          refine as_get X fc_X9 (by decide +kernel : decode cX9_oneWord 39 = .ok (.getfield 16, 3)) (by decide) fl_X9_16 ?_
          refine as_bipush X (by decide +kernel : decode cX9_oneWord 42 = .ok (.bipush 9, 2)) rfl ?_
          refine as_iload_n X (by decide +kernel : decode cX9_oneWord 44 = .ok (.iload_n 2, 1)) rfl ?_
          refine as_imul X (by decide +kernel : decode cX9_oneWord 45 = .ok (.imul, 1)) ?_
          refine as_iaload X (by decide +kernel : decode cX9_oneWord 46 = .ok (.iaload, 1)) ?_
          refine as_cv X h_X9_spells rfl (by decide +kernel : decode cX9_oneWord 47 = .ok (.invokevirtual 192, 3)) dn_X9_spells ml_X9_192 im_X9_spells se_X9_spells ini_X9 co_X9_spells R_X9_spells ?_
          refine as_if_eq X (tgt := 68) (by decide +kernel : decode cX9_oneWord 50 = .ok (.ifCond .eq 18, 3)) (by decide) ?_ ?_
          · exact fun _ _ _ h => h
          · refine as_aload_n X (by decide +kernel : decode cX9_oneWord 53 = .ok (.aload_n 0, 1)) rfl ?_
            refine as_lconst X (by decide +kernel : decode cX9_oneWord 54 = .ok (.lconst 1, 1)) rfl ?_
            refine as_aload_n X (by decide +kernel : decode cX9_oneWord 55 = .ok (.aload_n 0, 1)) rfl ?_
            refine as_get X fc_X9 (by decide +kernel : decode cX9_oneWord 56 = .ok (.getfield 40, 3)) (by decide) fl_X9_40 ?_
            refine as_iconst X (by decide +kernel : decode cX9_oneWord 59 = .ok (.iconst 0, 1)) rfl ?_
            refine as_iaload X (by decide +kernel : decode cX9_oneWord 60 = .ok (.iaload, 1)) ?_
            refine as_iconst X (by decide +kernel : decode cX9_oneWord 61 = .ok (.iconst 0, 1)) rfl ?_
            refine as_iload_n X (by decide +kernel : decode cX9_oneWord 62 = .ok (.iload_n 2, 1)) rfl ?_
            refine as_iconst X (by decide +kernel : decode cX9_oneWord 63 = .ok (.iconst 0, 1)) rfl ?_
            refine as_iconst X (by decide +kernel : decode cX9_oneWord 64 = .ok (.iconst 0, 1)) rfl ?_
            refine as_cv X h_X9_meets rfl (by decide +kernel : decode cX9_oneWord 65 = .ok (.invokevirtual 196, 3)) dn_X9_meets ml_X9_196 im_X9_meets se_X9_meets ini_X9 co_X9_meets R_X9_meets ?_
            exact fun _ _ _ h => h
      · exact fun _ _ _ h => h
  · unfold B_X9_oneWord_68
    refine as_iinc X (by decide +kernel : decode cX9_oneWord 68 = .ok (.iinc 2 1, 3)) rfl ?_
    refine as_goto X (tgt := 2) (by decide +kernel : decode cX9_oneWord 71 = .ok (.goto (-69), 3)) (by decide) ?_
    exact fun _ _ _ h => h
  · unfold B_X9_oneWord_114
    exact as_rv X hQ hr (by decide +kernel : decode cX9_oneWord 114 = .ok (.return_, 1))

def B_X9_joins_0 (Q : am_Q) (G : Nat → am_K) : am_K := (ak_al 0 (ak_c (.int 0) (ak_puti 7 28 (ak_il 1 (ak_is 3 (G 7))))))
def B_X9_joins_7 (Q : am_Q) (G : Nat → am_K) : am_K := (ak_il 3 (ak_il 2 (ak_ic (fun x y => y ≤ x) (ak_rv Q) (ak_c (.int 0) (ak_is 4 (G 15))))))
def B_X9_joins_15 (Q : am_Q) (G : Nat → am_K) : am_K := (ak_il 4 (ak_al 0 (ak_get 7 11 (ak_c (.int 8) (ak_il 3 (ak_ib (fun x y => x * y) (ak_iald (ak_ic (fun x y => y ≤ x) (ak_ii 3 1 (G 7)) (ak_al 0 (ak_get 7 27 (ak_al 0 (ak_get 7 28 (ak_al 0 (ak_get 7 11 (ak_c (.int 8) (ak_il 3 (ak_ib (fun x y => x * y) (ak_c (.int 1) (ak_ib (fun x y => x + y) (ak_il 4 (ak_ib (fun x y => x + y) (ak_iald (ak_iast (ak_al 0 (ak_dup (ak_get 7 28 (ak_c (.int 1) (ak_ib (fun x y => x + y) (ak_puti 7 28 (ak_ii 4 1 (G 15)))))))))))))))))))))))))))))))
def cl_X9_joins (Q : am_Q) (G : Nat → am_K) : Prop := am_N G 0 (B_X9_joins_0 Q G) ∧ am_N G 7 (B_X9_joins_7 Q G) ∧ am_N G 15 (B_X9_joins_15 Q G)
def WP_X9_joins : am_T := fun av h Q => (lg_sl av).length ≤ 5 ∧ ∀ G, cl_X9_joins Q G → G 0 (am_ent 5 av) [] h
set_option maxHeartbeats 4000000 in
set_option maxRecDepth 100000 in
theorem s_X9_joins {rm : Room} (hz : rm.cells = 0 ∧ rm.slots = 0) : am_S false yX9_joins (am_ws yX9_joins cX9_joins 5 none) rm (WP_X9_joins) := by
  refine am_S.of (fun _ => hz) (by decide +kernel) (fun h0 Q G => cl_X9_joins Q G) ?_
  intro p l e s m args below meth c D h0 Q X hr hnm hQ
  refine ⟨?_, ?_, ?_⟩
  · unfold B_X9_joins_0
    refine as_aload_n X (by decide +kernel : decode cX9_joins 0 = .ok (.aload_n 0, 1)) rfl ?_
    refine as_iconst X (by decide +kernel : decode cX9_joins 1 = .ok (.iconst 0, 1)) rfl ?_
    refine as_puti X fc_X9 (by decide +kernel : decode cX9_joins 2 = .ok (.putfield 200, 3)) (by decide) fl_X9_200 (Or.inl rfl) rfl ?_
    refine as_iload_n X (by decide +kernel : decode cX9_joins 5 = .ok (.iload_n 1, 1)) rfl ?_
    refine as_istore_n X (by decide +kernel : decode cX9_joins 6 = .ok (.istore_n 3, 1)) rfl ?_
    exact fun _ _ _ h => h
  · unfold B_X9_joins_7
    refine as_iload_n X (by decide +kernel : decode cX9_joins 7 = .ok (.iload_n 3, 1)) rfl ?_
    refine as_iload_n X (by decide +kernel : decode cX9_joins 8 = .ok (.iload_n 2, 1)) rfl ?_
    refine as_ic_ge X (tgt := 74) (by decide +kernel : decode cX9_joins 9 = .ok (.if_icmp .ge 65, 3)) (by decide) ?_ ?_
    · exact as_rv X hQ hr (by decide +kernel : decode cX9_joins 74 = .ok (.return_, 1))
    · refine as_iconst X (by decide +kernel : decode cX9_joins 12 = .ok (.iconst 0, 1)) rfl ?_
      refine as_istore X (by decide +kernel : decode cX9_joins 13 = .ok (.istore 4, 2)) ?_
      exact fun _ _ _ h => h
  · unfold B_X9_joins_15
    refine as_iload X (by decide +kernel : decode cX9_joins 15 = .ok (.iload 4, 2)) ?_
    refine as_aload_n X (by decide +kernel : decode cX9_joins 17 = .ok (.aload_n 0, 1)) rfl ?_
    refine as_get X fc_X9 (by decide +kernel : decode cX9_joins 18 = .ok (.getfield 31, 3)) (by decide) fl_X9_31 ?_
    refine as_bipush X (by decide +kernel : decode cX9_joins 21 = .ok (.bipush 8, 2)) rfl ?_
    refine as_iload_n X (by decide +kernel : decode cX9_joins 23 = .ok (.iload_n 3, 1)) rfl ?_
    refine as_imul X (by decide +kernel : decode cX9_joins 24 = .ok (.imul, 1)) ?_
    refine as_iaload X (by decide +kernel : decode cX9_joins 25 = .ok (.iaload, 1)) ?_
    refine as_ic_ge X (tgt := 68) (by decide +kernel : decode cX9_joins 26 = .ok (.if_icmp .ge 42, 3)) (by decide) ?_ ?_
    · refine as_iinc X (by decide +kernel : decode cX9_joins 68 = .ok (.iinc 3 1, 3)) rfl ?_
      refine as_goto X (tgt := 7) (by decide +kernel : decode cX9_joins 71 = .ok (.goto (-64), 3)) (by decide) ?_
      exact fun _ _ _ h => h
    · refine as_aload_n X (by decide +kernel : decode cX9_joins 29 = .ok (.aload_n 0, 1)) rfl ?_
      refine as_get X fc_X9 (by decide +kernel : decode cX9_joins 30 = .ok (.getfield 54, 3)) (by decide) fl_X9_54 ?_
      refine as_aload_n X (by decide +kernel : decode cX9_joins 33 = .ok (.aload_n 0, 1)) rfl ?_
      refine as_get X fc_X9 (by decide +kernel : decode cX9_joins 34 = .ok (.getfield 200, 3)) (by decide) fl_X9_200 ?_
      refine as_aload_n X (by decide +kernel : decode cX9_joins 37 = .ok (.aload_n 0, 1)) rfl ?_
      refine as_get X fc_X9 (by decide +kernel : decode cX9_joins 38 = .ok (.getfield 31, 3)) (by decide) fl_X9_31 ?_
      refine as_bipush X (by decide +kernel : decode cX9_joins 41 = .ok (.bipush 8, 2)) rfl ?_
      refine as_iload_n X (by decide +kernel : decode cX9_joins 43 = .ok (.iload_n 3, 1)) rfl ?_
      refine as_imul X (by decide +kernel : decode cX9_joins 44 = .ok (.imul, 1)) ?_
      refine as_iconst X (by decide +kernel : decode cX9_joins 45 = .ok (.iconst 1, 1)) rfl ?_
      refine as_iadd X (by decide +kernel : decode cX9_joins 46 = .ok (.iadd, 1)) ?_
      refine as_iload X (by decide +kernel : decode cX9_joins 47 = .ok (.iload 4, 2)) ?_
      refine as_iadd X (by decide +kernel : decode cX9_joins 49 = .ok (.iadd, 1)) ?_
      refine as_iaload X (by decide +kernel : decode cX9_joins 50 = .ok (.iaload, 1)) ?_
      refine as_iastore X (by decide +kernel : decode cX9_joins 51 = .ok (.iastore, 1)) ?_
      refine as_aload_n X (by decide +kernel : decode cX9_joins 52 = .ok (.aload_n 0, 1)) rfl ?_
      refine as_dup X (by decide +kernel : decode cX9_joins 53 = .ok (.dup, 1)) ?_
      refine as_get X fc_X9 (by decide +kernel : decode cX9_joins 54 = .ok (.getfield 200, 3)) (by decide) fl_X9_200 ?_
      refine as_iconst X (by decide +kernel : decode cX9_joins 57 = .ok (.iconst 1, 1)) rfl ?_
      refine as_iadd X (by decide +kernel : decode cX9_joins 58 = .ok (.iadd, 1)) ?_
      refine as_puti X fc_X9 (by decide +kernel : decode cX9_joins 59 = .ok (.putfield 200, 3)) (by decide) fl_X9_200 (Or.inl rfl) rfl ?_
      refine as_iinc X (by decide +kernel : decode cX9_joins 62 = .ok (.iinc 4 1, 3)) rfl ?_
      refine as_goto X (tgt := 15) (by decide +kernel : decode cX9_joins 65 = .ok (.goto (-50), 3)) (by decide) ?_
      exact fun _ _ _ h => h

def B_X9_isStirred_0 (kX9_letter : am_T) (Q : am_Q) (G : Nat → am_K) : am_K := (ak_al 0 (ak_get 7 28 (ak_al 0 (ak_get 7 25 (ak_ic (fun x y => x = y) (ak_c (.int 0) (ak_is 1 (ak_c (.int 0) (ak_is 2 (ak_c (.int 0) (ak_is 3 (G 19))))))) (ak_c (.int 0) (ak_rz Q)))))))
def B_X9_isStirred_19 (kX9_letter : am_T) (Q : am_Q) (G : Nat → am_K) : am_K := (ak_il 3 (ak_al 0 (ak_get 7 25 (ak_ic (fun x y => y ≤ x) (ak_il 1 (ak_rz Q)) (ak_il 1 (ak_if (fun x => x = 0) (ak_al 0 (ak_get 7 27 (ak_il 3 (ak_iald (ak_al 0 (ak_il 3 (ak_cv 2 7 kX9_letter (ak_ic (fun x y => x = y) (ak_c (.int 0) (G 50)) (G 45))))))))) (G 45)))))))
def B_X9_isStirred_45 (kX9_letter : am_T) (Q : am_Q) (G : Nat → am_K) : am_K := (ak_c (.int 1) (G 50))
def B_X9_isStirred_50 (kX9_letter : am_T) (Q : am_Q) (G : Nat → am_K) : am_K := (ak_is 1 (ak_c (.int 0) (ak_is 4 (G 54))))
def B_X9_isStirred_54 (kX9_letter : am_T) (Q : am_Q) (G : Nat → am_K) : am_K := (ak_il 4 (ak_al 0 (ak_get 7 25 (ak_ic (fun x y => y ≤ x) (G 94) (ak_il 2 (ak_il 4 (ak_ib (fun x y => x >>> (y &&& 31)) (ak_c (.int 1) (ak_ib (fun x y => x &&& y) (ak_c (.int 1) (ak_ic (fun x y => x = y) (G 88) (ak_al 0 (ak_get 7 27 (ak_il 4 (ak_iald (ak_al 0 (ak_il 3 (ak_cv 2 7 kX9_letter (ak_ic (fun x y => x = y) (G 94) (G 88))))))))))))))))))))
def B_X9_isStirred_88 (kX9_letter : am_T) (Q : am_Q) (G : Nat → am_K) : am_K := (ak_ii 4 1 (G 54))
def B_X9_isStirred_94 (kX9_letter : am_T) (Q : am_Q) (G : Nat → am_K) : am_K := (ak_il 4 (ak_al 0 (ak_get 7 25 (ak_ic (fun x y => x = y) (ak_c (.int 0) (ak_rz Q)) (ak_il 2 (ak_c (.int 1) (ak_il 4 (ak_ib (fun x y => x <<< (y &&& 31)) (ak_ib (fun x y => x ||| y) (ak_is 2 (ak_ii 3 1 (G 19))))))))))))
def cl_X9_isStirred (kX9_letter : am_T) (Q : am_Q) (G : Nat → am_K) : Prop := am_N G 0 (B_X9_isStirred_0 kX9_letter Q G) ∧ am_N G 19 (B_X9_isStirred_19 kX9_letter Q G) ∧ am_N G 45 (B_X9_isStirred_45 kX9_letter Q G) ∧ am_N G 50 (B_X9_isStirred_50 kX9_letter Q G) ∧ am_N G 54 (B_X9_isStirred_54 kX9_letter Q G) ∧ am_N G 88 (B_X9_isStirred_88 kX9_letter Q G) ∧ am_N G 94 (B_X9_isStirred_94 kX9_letter Q G)
def WP_X9_isStirred (kX9_letter : am_T) : am_T := fun av h Q => (lg_sl av).length ≤ 5 ∧ ∀ G, cl_X9_isStirred kX9_letter Q G → G 0 (am_ent 5 av) [] h
set_option maxHeartbeats 4000000 in
set_option maxRecDepth 100000 in
theorem s_X9_isStirred {mX9_letter : Room} {kX9_letter : am_T} (h_X9_letter : am_S false yX9_letter (am_ws yX9_letter cX9_letter 2 (some .int)) mX9_letter kX9_letter) {rm : Room} (hz : rm.cells = 0 ∧ rm.slots = 0) (R_X9_letter : mX9_letter.frames + 1 ≤ rm.frames ∧ 8 + (2 + 11) + mX9_letter.locals ≤ rm.locals) : am_S false yX9_isStirred (am_ws yX9_isStirred cX9_isStirred 5 (some .boolean)) rm (WP_X9_isStirred kX9_letter) := by
  refine am_S.of (fun _ => hz) (by decide +kernel) (fun h0 Q G => cl_X9_isStirred kX9_letter Q G) ?_
  intro p l e s m args below meth c D h0 Q X hr hnm hQ
  refine ⟨?_, ?_, ?_, ?_, ?_, ?_, ?_⟩
  · unfold B_X9_isStirred_0
    refine as_aload_n X (by decide +kernel : decode cX9_isStirred 0 = .ok (.aload_n 0, 1)) rfl ?_
    refine as_get X fc_X9 (by decide +kernel : decode cX9_isStirred 1 = .ok (.getfield 200, 3)) (by decide) fl_X9_200 ?_
    refine as_aload_n X (by decide +kernel : decode cX9_isStirred 4 = .ok (.aload_n 0, 1)) rfl ?_
    refine as_get X fc_X9 (by decide +kernel : decode cX9_isStirred 5 = .ok (.getfield 158, 3)) (by decide) fl_X9_158 ?_
    refine as_ic_eq X (tgt := 13) (by decide +kernel : decode cX9_isStirred 8 = .ok (.if_icmp .eq 5, 3)) (by decide) ?_ ?_
    · refine as_iconst X (by decide +kernel : decode cX9_isStirred 13 = .ok (.iconst 0, 1)) rfl ?_
      refine as_istore_n X (by decide +kernel : decode cX9_isStirred 14 = .ok (.istore_n 1, 1)) rfl ?_
      refine as_iconst X (by decide +kernel : decode cX9_isStirred 15 = .ok (.iconst 0, 1)) rfl ?_
      refine as_istore_n X (by decide +kernel : decode cX9_isStirred 16 = .ok (.istore_n 2, 1)) rfl ?_
      refine as_iconst X (by decide +kernel : decode cX9_isStirred 17 = .ok (.iconst 0, 1)) rfl ?_
      refine as_istore_n X (by decide +kernel : decode cX9_isStirred 18 = .ok (.istore_n 3, 1)) rfl ?_
      exact fun _ _ _ h => h
    · refine as_iconst X (by decide +kernel : decode cX9_isStirred 11 = .ok (.iconst 0, 1)) rfl ?_
      exact as_rz X hQ hr (by decide +kernel : decode cX9_isStirred 12 = .ok (.ireturn, 1))
  · unfold B_X9_isStirred_19
    refine as_iload_n X (by decide +kernel : decode cX9_isStirred 19 = .ok (.iload_n 3, 1)) rfl ?_
    refine as_aload_n X (by decide +kernel : decode cX9_isStirred 20 = .ok (.aload_n 0, 1)) rfl ?_
    refine as_get X fc_X9 (by decide +kernel : decode cX9_isStirred 21 = .ok (.getfield 158, 3)) (by decide) fl_X9_158 ?_
    refine as_ic_ge X (tgt := 118) (by decide +kernel : decode cX9_isStirred 24 = .ok (.if_icmp .ge 94, 3)) (by decide) ?_ ?_
    · refine as_iload_n X (by decide +kernel : decode cX9_isStirred 118 = .ok (.iload_n 1, 1)) rfl ?_
      exact as_rz X hQ hr (by decide +kernel : decode cX9_isStirred 119 = .ok (.ireturn, 1))
    · refine as_iload_n X (by decide +kernel : decode cX9_isStirred 27 = .ok (.iload_n 1, 1)) rfl ?_
      refine as_if_ne X (tgt := 45) (by decide +kernel : decode cX9_isStirred 28 = .ok (.ifCond .ne 17, 3)) (by decide) ?_ ?_
      · refine as_aload_n X (by decide +kernel : decode cX9_isStirred 31 = .ok (.aload_n 0, 1)) rfl ?_
        refine as_get X fc_X9 (by decide +kernel : decode cX9_isStirred 32 = .ok (.getfield 54, 3)) (by decide) fl_X9_54 ?_
        refine as_iload_n X (by decide +kernel : decode cX9_isStirred 35 = .ok (.iload_n 3, 1)) rfl ?_
        refine as_iaload X (by decide +kernel : decode cX9_isStirred 36 = .ok (.iaload, 1)) ?_
        refine as_aload_n X (by decide +kernel : decode cX9_isStirred 37 = .ok (.aload_n 0, 1)) rfl ?_
        refine as_iload_n X (by decide +kernel : decode cX9_isStirred 38 = .ok (.iload_n 3, 1)) rfl ?_
        refine as_cv X h_X9_letter rfl (by decide +kernel : decode cX9_isStirred 39 = .ok (.invokevirtual 189, 3)) dn_X9_letter ml_X9_189 im_X9_letter se_X9_letter ini_X9 co_X9_letter R_X9_letter ?_
        refine as_ic_eq X (tgt := 49) (by decide +kernel : decode cX9_isStirred 42 = .ok (.if_icmp .eq 7, 3)) (by decide) ?_ ?_
        · refine as_iconst X (by decide +kernel : decode cX9_isStirred 49 = .ok (.iconst 0, 1)) rfl ?_
          exact fun _ _ _ h => h
        · exact fun _ _ _ h => h
      · exact fun _ _ _ h => h
  · unfold B_X9_isStirred_45
    refine as_iconst X (by decide +kernel : decode cX9_isStirred 45 = .ok (.iconst 1, 1)) rfl ?_
    refine as_goto X (tgt := 50) (by decide +kernel : decode cX9_isStirred 46 = .ok (.goto 4, 3)) (by decide) ?_
    exact fun _ _ _ h => h
  · unfold B_X9_isStirred_50
    refine as_istore_n X (by decide +kernel : decode cX9_isStirred 50 = .ok (.istore_n 1, 1)) rfl ?_
    refine as_iconst X (by decide +kernel : decode cX9_isStirred 51 = .ok (.iconst 0, 1)) rfl ?_
    refine as_istore X (by decide +kernel : decode cX9_isStirred 52 = .ok (.istore 4, 2)) ?_
    exact fun _ _ _ h => h
  · unfold B_X9_isStirred_54
    refine as_iload X (by decide +kernel : decode cX9_isStirred 54 = .ok (.iload 4, 2)) ?_
    refine as_aload_n X (by decide +kernel : decode cX9_isStirred 56 = .ok (.aload_n 0, 1)) rfl ?_
    refine as_get X fc_X9 (by decide +kernel : decode cX9_isStirred 57 = .ok (.getfield 158, 3)) (by decide) fl_X9_158 ?_
    refine as_ic_ge X (tgt := 94) (by decide +kernel : decode cX9_isStirred 60 = .ok (.if_icmp .ge 34, 3)) (by decide) ?_ ?_
    · exact fun _ _ _ h => h
    · refine as_iload_n X (by decide +kernel : decode cX9_isStirred 63 = .ok (.iload_n 2, 1)) rfl ?_
      refine as_iload X (by decide +kernel : decode cX9_isStirred 64 = .ok (.iload 4, 2)) ?_
      refine as_ishr X (by decide +kernel : decode cX9_isStirred 66 = .ok (.ishr, 1)) ?_
      refine as_iconst X (by decide +kernel : decode cX9_isStirred 67 = .ok (.iconst 1, 1)) rfl ?_
      refine as_iand X (by decide +kernel : decode cX9_isStirred 68 = .ok (.iand, 1)) ?_
      refine as_iconst X (by decide +kernel : decode cX9_isStirred 69 = .ok (.iconst 1, 1)) rfl ?_
      refine as_ic_eq X (tgt := 88) (by decide +kernel : decode cX9_isStirred 70 = .ok (.if_icmp .eq 18, 3)) (by decide) ?_ ?_
      · exact fun _ _ _ h => h
      · refine as_aload_n X (by decide +kernel : decode cX9_isStirred 73 = .ok (.aload_n 0, 1)) rfl ?_
        refine as_get X fc_X9 (by decide +kernel : decode cX9_isStirred 74 = .ok (.getfield 54, 3)) (by decide) fl_X9_54 ?_
        refine as_iload X (by decide +kernel : decode cX9_isStirred 77 = .ok (.iload 4, 2)) ?_
        refine as_iaload X (by decide +kernel : decode cX9_isStirred 79 = .ok (.iaload, 1)) ?_
        refine as_aload_n X (by decide +kernel : decode cX9_isStirred 80 = .ok (.aload_n 0, 1)) rfl ?_
        refine as_iload_n X (by decide +kernel : decode cX9_isStirred 81 = .ok (.iload_n 3, 1)) rfl ?_
        refine as_cv X h_X9_letter rfl (by decide +kernel : decode cX9_isStirred 82 = .ok (.invokevirtual 189, 3)) dn_X9_letter ml_X9_189 im_X9_letter se_X9_letter ini_X9 co_X9_letter R_X9_letter ?_
        refine as_ic_eq X (tgt := 94) (by decide +kernel : decode cX9_isStirred 85 = .ok (.if_icmp .eq 9, 3)) (by decide) ?_ ?_
        · exact fun _ _ _ h => h
        · exact fun _ _ _ h => h
  · unfold B_X9_isStirred_88
    refine as_iinc X (by decide +kernel : decode cX9_isStirred 88 = .ok (.iinc 4 1, 3)) rfl ?_
    refine as_goto X (tgt := 54) (by decide +kernel : decode cX9_isStirred 91 = .ok (.goto (-37), 3)) (by decide) ?_
    exact fun _ _ _ h => h
  · unfold B_X9_isStirred_94
    refine as_iload X (by decide +kernel : decode cX9_isStirred 94 = .ok (.iload 4, 2)) ?_
    refine as_aload_n X (by decide +kernel : decode cX9_isStirred 96 = .ok (.aload_n 0, 1)) rfl ?_
    refine as_get X fc_X9 (by decide +kernel : decode cX9_isStirred 97 = .ok (.getfield 158, 3)) (by decide) fl_X9_158 ?_
    refine as_ic_ne X (tgt := 105) (by decide +kernel : decode cX9_isStirred 100 = .ok (.if_icmp .ne 5, 3)) (by decide) ?_ ?_
    · refine as_iconst X (by decide +kernel : decode cX9_isStirred 103 = .ok (.iconst 0, 1)) rfl ?_
      exact as_rz X hQ hr (by decide +kernel : decode cX9_isStirred 104 = .ok (.ireturn, 1))
    · refine as_iload_n X (by decide +kernel : decode cX9_isStirred 105 = .ok (.iload_n 2, 1)) rfl ?_
      refine as_iconst X (by decide +kernel : decode cX9_isStirred 106 = .ok (.iconst 1, 1)) rfl ?_
      refine as_iload X (by decide +kernel : decode cX9_isStirred 107 = .ok (.iload 4, 2)) ?_
      refine as_ishl X (by decide +kernel : decode cX9_isStirred 109 = .ok (.ishl, 1)) ?_
      refine as_ior X (by decide +kernel : decode cX9_isStirred 110 = .ok (.ior, 1)) ?_
      refine as_istore_n X (by decide +kernel : decode cX9_isStirred 111 = .ok (.istore_n 2, 1)) rfl ?_
      refine as_iinc X (by decide +kernel : decode cX9_isStirred 112 = .ok (.iinc 3 1, 3)) rfl ?_
      refine as_goto X (tgt := 19) (by decide +kernel : decode cX9_isStirred 115 = .ok (.goto (-96), 3)) (by decide) ?_
      exact fun _ _ _ h => h

def B_X9_turned_0 (kX9_isSign : am_T) (kX9_piecesAt : am_T) (kX9_manyOf : am_T) (kX9_costOf : am_T) (kX9_meets : am_T) (Q : am_Q) (G : Nat → am_K) : am_K := (ak_al 0 (ak_get 7 25 (ak_c (.int 2) (ak_ic (fun x y => y ≤ x) (ak_al 0 (ak_il 1 (ak_c (.int 2) (ak_cv 3 7 kX9_isSign (ak_if (fun x => x = 0) (G 59) (ak_al 0 (ak_il 1 (ak_c (.int 1) (ak_ib (fun x y => x + y) (ak_il 2 (ak_il 3 (ak_c (.int 1) (ak_il 4 (ak_ib (fun x y => x - y) (ak_cv 5 7 kX9_piecesAt (ak_is 5 (ak_al 0 (ak_il 5 (ak_cs 1 kX9_manyOf (ak_i2l (ak_al 0 (ak_get 7 14 (ak_c (.int 2) (ak_iald (ak_il 5 (ak_cs 1 kX9_costOf (ak_ib (fun x y => x + y) (ak_c (.int 2) (ak_c (.int 0) (ak_c (.int 0) (ak_c (.int 0) (ak_cv 7 7 kX9_meets (G 59))))))))))))))))))))))))))))))))) (ak_rv Q)))))
def B_X9_turned_59 (kX9_isSign : am_T) (kX9_piecesAt : am_T) (kX9_manyOf : am_T) (kX9_costOf : am_T) (kX9_meets : am_T) (Q : am_Q) (G : Nat → am_K) : am_K := (ak_al 0 (ak_il 2 (ak_c (.int 1) (ak_ib (fun x y => x - y) (ak_c (.int 2) (ak_cv 3 7 kX9_isSign (ak_if (fun x => x = 0) (G 111) (ak_al 0 (ak_il 1 (ak_il 2 (ak_c (.int 1) (ak_ib (fun x y => x - y) (ak_il 3 (ak_c (.int 1) (ak_il 4 (ak_ib (fun x y => x - y) (ak_cv 5 7 kX9_piecesAt (ak_is 5 (ak_al 0 (ak_il 5 (ak_cs 1 kX9_manyOf (ak_i2l (ak_al 0 (ak_get 7 14 (ak_c (.int 2) (ak_iald (ak_il 5 (ak_cs 1 kX9_costOf (ak_ib (fun x y => x + y) (ak_c (.int 2) (ak_c (.int 1) (ak_c (.int 0) (ak_c (.int 0) (ak_cv 7 7 kX9_meets (G 111)))))))))))))))))))))))))))))))))))
def B_X9_turned_111 (kX9_isSign : am_T) (kX9_piecesAt : am_T) (kX9_manyOf : am_T) (kX9_costOf : am_T) (kX9_meets : am_T) (Q : am_Q) (G : Nat → am_K) : am_K := (ak_rv Q)
def cl_X9_turned (kX9_isSign : am_T) (kX9_piecesAt : am_T) (kX9_manyOf : am_T) (kX9_costOf : am_T) (kX9_meets : am_T) (Q : am_Q) (G : Nat → am_K) : Prop := am_N G 0 (B_X9_turned_0 kX9_isSign kX9_piecesAt kX9_manyOf kX9_costOf kX9_meets Q G) ∧ am_N G 59 (B_X9_turned_59 kX9_isSign kX9_piecesAt kX9_manyOf kX9_costOf kX9_meets Q G) ∧ am_N G 111 (B_X9_turned_111 kX9_isSign kX9_piecesAt kX9_manyOf kX9_costOf kX9_meets Q G)
def WP_X9_turned (kX9_isSign : am_T) (kX9_piecesAt : am_T) (kX9_manyOf : am_T) (kX9_costOf : am_T) (kX9_meets : am_T) : am_T := fun av h Q => (lg_sl av).length ≤ 6 ∧ ∀ G, cl_X9_turned kX9_isSign kX9_piecesAt kX9_manyOf kX9_costOf kX9_meets Q G → G 0 (am_ent 6 av) [] h
set_option maxHeartbeats 4000000 in
set_option maxRecDepth 100000 in
theorem s_X9_turned {mX9_isSign : Room} {kX9_isSign : am_T} (h_X9_isSign : am_S false yX9_isSign (am_ws yX9_isSign cX9_isSign 4 (some .boolean)) mX9_isSign kX9_isSign) {mX9_piecesAt : Room} {kX9_piecesAt : am_T} (h_X9_piecesAt : am_S false yX9_piecesAt (am_ws yX9_piecesAt cX9_piecesAt 5 (some .int)) mX9_piecesAt kX9_piecesAt) {mX9_manyOf : Room} {kX9_manyOf : am_T} (h_X9_manyOf : am_S false yX9_manyOf (am_ws yX9_manyOf cX9_manyOf 1 (some .int)) mX9_manyOf kX9_manyOf) {mX9_costOf : Room} {kX9_costOf : am_T} (h_X9_costOf : am_S false yX9_costOf (am_ws yX9_costOf cX9_costOf 1 (some .int)) mX9_costOf kX9_costOf) {mX9_meets : Room} {kX9_meets : am_T} (h_X9_meets : am_S false yX9_meets (am_ws yX9_meets cX9_meets 8 none) mX9_meets kX9_meets) {rm : Room} (hz : rm.cells = 0 ∧ rm.slots = 0) (R_X9_isSign : mX9_isSign.frames + 1 ≤ rm.frames ∧ 8 + (4 + 11) + mX9_isSign.locals ≤ rm.locals) (R_X9_piecesAt : mX9_piecesAt.frames + 1 ≤ rm.frames ∧ 8 + (5 + 11) + mX9_piecesAt.locals ≤ rm.locals) (R_X9_manyOf : mX9_manyOf.frames + 1 ≤ rm.frames ∧ 8 + (1 + 11) + mX9_manyOf.locals ≤ rm.locals) (R_X9_costOf : mX9_costOf.frames + 1 ≤ rm.frames ∧ 8 + (1 + 11) + mX9_costOf.locals ≤ rm.locals) (R_X9_meets : mX9_meets.frames + 1 ≤ rm.frames ∧ 8 + (8 + 11) + mX9_meets.locals ≤ rm.locals) : am_S false yX9_turned (am_ws yX9_turned cX9_turned 6 none) rm (WP_X9_turned kX9_isSign kX9_piecesAt kX9_manyOf kX9_costOf kX9_meets) := by
  refine am_S.of (fun _ => hz) (by decide +kernel) (fun h0 Q G => cl_X9_turned kX9_isSign kX9_piecesAt kX9_manyOf kX9_costOf kX9_meets Q G) ?_
  intro p l e s m args below meth c D h0 Q X hr hnm hQ
  refine ⟨?_, ?_, ?_⟩
  · unfold B_X9_turned_0
    refine as_aload_n X (by decide +kernel : decode cX9_turned 0 = .ok (.aload_n 0, 1)) rfl ?_
    refine as_get X fc_X9 (by decide +kernel : decode cX9_turned 1 = .ok (.getfield 158, 3)) (by decide) fl_X9_158 ?_
    refine as_iconst X (by decide +kernel : decode cX9_turned 4 = .ok (.iconst 2, 1)) rfl ?_
    refine as_ic_ge X (tgt := 9) (by decide +kernel : decode cX9_turned 5 = .ok (.if_icmp .ge 4, 3)) (by decide) ?_ ?_
    · refine as_aload_n X (by decide +kernel : decode cX9_turned 9 = .ok (.aload_n 0, 1)) rfl ?_
      refine as_iload_n X (by decide +kernel : decode cX9_turned 10 = .ok (.iload_n 1, 1)) rfl ?_
      refine as_iconst X (by decide +kernel : decode cX9_turned 11 = .ok (.iconst 2, 1)) rfl ?_
      refine as_cv X h_X9_isSign rfl (by decide +kernel : decode cX9_turned 12 = .ok (.invokevirtual 155, 3)) dn_X9_isSign ml_X9_155 im_X9_isSign se_X9_isSign ini_X9 co_X9_isSign R_X9_isSign ?_
      refine as_if_eq X (tgt := 59) (by decide +kernel : decode cX9_turned 15 = .ok (.ifCond .eq 44, 3)) (by decide) ?_ ?_
      · exact fun _ _ _ h => h
      · refine as_aload_n X (by decide +kernel : decode cX9_turned 18 = .ok (.aload_n 0, 1)) rfl ?_
        refine as_iload_n X (by decide +kernel : decode cX9_turned 19 = .ok (.iload_n 1, 1)) rfl ?_
        refine as_iconst X (by decide +kernel : decode cX9_turned 20 = .ok (.iconst 1, 1)) rfl ?_
        refine as_iadd X (by decide +kernel : decode cX9_turned 21 = .ok (.iadd, 1)) ?_
        refine as_iload_n X (by decide +kernel : decode cX9_turned 22 = .ok (.iload_n 2, 1)) rfl ?_
        refine as_iload_n X (by decide +kernel : decode cX9_turned 23 = .ok (.iload_n 3, 1)) rfl ?_
        refine as_iconst X (by decide +kernel : decode cX9_turned 24 = .ok (.iconst 1, 1)) rfl ?_
        refine as_iload X (by decide +kernel : decode cX9_turned 25 = .ok (.iload 4, 2)) ?_
        refine as_isub X (by decide +kernel : decode cX9_turned 27 = .ok (.isub, 1)) ?_
        refine as_cv X h_X9_piecesAt rfl (by decide +kernel : decode cX9_turned 28 = .ok (.invokevirtual 203, 3)) dn_X9_piecesAt ml_X9_203 im_X9_piecesAt se_X9_piecesAt ini_X9 co_X9_piecesAt R_X9_piecesAt ?_
        refine as_istore X (by decide +kernel : decode cX9_turned 31 = .ok (.istore 5, 2)) ?_
        refine as_aload_n X (by decide +kernel : decode cX9_turned 33 = .ok (.aload_n 0, 1)) rfl ?_
        refine as_iload X (by decide +kernel : decode cX9_turned 34 = .ok (.iload 5, 2)) ?_
        refine as_cs X h_X9_manyOf (by decide +kernel : decode cX9_turned 36 = .ok (.invokestatic 206, 3)) dn_X9_manyOf ml_X9_206 st_X9_manyOf ini_X9 co_X9_manyOf R_X9_manyOf ?_
        refine as_i2l X (by decide +kernel : decode cX9_turned 39 = .ok (.i2l, 1)) ?_
        refine as_aload_n X (by decide +kernel : decode cX9_turned 40 = .ok (.aload_n 0, 1)) rfl ?_
        refine as_get X fc_X9 (by decide +kernel : decode cX9_turned 41 = .ok (.getfield 40, 3)) (by decide) fl_X9_40 ?_
        refine as_iconst X (by decide +kernel : decode cX9_turned 44 = .ok (.iconst 2, 1)) rfl ?_
        refine as_iaload X (by decide +kernel : decode cX9_turned 45 = .ok (.iaload, 1)) ?_
        refine as_iload X (by decide +kernel : decode cX9_turned 46 = .ok (.iload 5, 2)) ?_
        refine as_cs X h_X9_costOf (by decide +kernel : decode cX9_turned 48 = .ok (.invokestatic 209, 3)) dn_X9_costOf ml_X9_209 st_X9_costOf ini_X9 co_X9_costOf R_X9_costOf ?_
        refine as_iadd X (by decide +kernel : decode cX9_turned 51 = .ok (.iadd, 1)) ?_
        refine as_iconst X (by decide +kernel : decode cX9_turned 52 = .ok (.iconst 2, 1)) rfl ?_
        refine as_iconst X (by decide +kernel : decode cX9_turned 53 = .ok (.iconst 0, 1)) rfl ?_
        refine as_iconst X (by decide +kernel : decode cX9_turned 54 = .ok (.iconst 0, 1)) rfl ?_
        refine as_iconst X (by decide +kernel : decode cX9_turned 55 = .ok (.iconst 0, 1)) rfl ?_
        refine as_cv X h_X9_meets rfl (by decide +kernel : decode cX9_turned 56 = .ok (.invokevirtual 196, 3)) dn_X9_meets ml_X9_196 im_X9_meets se_X9_meets ini_X9 co_X9_meets R_X9_meets ?_
        exact fun _ _ _ h => h
    · exact as_rv X hQ hr (by decide +kernel : decode cX9_turned 8 = .ok (.return_, 1))
  · unfold B_X9_turned_59
    refine as_aload_n X (by decide +kernel : decode cX9_turned 59 = .ok (.aload_n 0, 1)) rfl ?_
    refine as_iload_n X (by decide +kernel : decode cX9_turned 60 = .ok (.iload_n 2, 1)) rfl ?_
    refine as_iconst X (by decide +kernel : decode cX9_turned 61 = .ok (.iconst 1, 1)) rfl ?_
    refine as_isub X (by decide +kernel : decode cX9_turned 62 = .ok (.isub, 1)) ?_
    refine as_iconst X (by decide +kernel : decode cX9_turned 63 = .ok (.iconst 2, 1)) rfl ?_
    refine as_cv X h_X9_isSign rfl (by decide +kernel : decode cX9_turned 64 = .ok (.invokevirtual 155, 3)) dn_X9_isSign ml_X9_155 im_X9_isSign se_X9_isSign ini_X9 co_X9_isSign R_X9_isSign ?_
    refine as_if_eq X (tgt := 111) (by decide +kernel : decode cX9_turned 67 = .ok (.ifCond .eq 44, 3)) (by decide) ?_ ?_
    · exact fun _ _ _ h => h
    · refine as_aload_n X (by decide +kernel : decode cX9_turned 70 = .ok (.aload_n 0, 1)) rfl ?_
      refine as_iload_n X (by decide +kernel : decode cX9_turned 71 = .ok (.iload_n 1, 1)) rfl ?_
      refine as_iload_n X (by decide +kernel : decode cX9_turned 72 = .ok (.iload_n 2, 1)) rfl ?_
      refine as_iconst X (by decide +kernel : decode cX9_turned 73 = .ok (.iconst 1, 1)) rfl ?_
      refine as_isub X (by decide +kernel : decode cX9_turned 74 = .ok (.isub, 1)) ?_
      refine as_iload_n X (by decide +kernel : decode cX9_turned 75 = .ok (.iload_n 3, 1)) rfl ?_
      refine as_iconst X (by decide +kernel : decode cX9_turned 76 = .ok (.iconst 1, 1)) rfl ?_
      refine as_iload X (by decide +kernel : decode cX9_turned 77 = .ok (.iload 4, 2)) ?_
      refine as_isub X (by decide +kernel : decode cX9_turned 79 = .ok (.isub, 1)) ?_
      refine as_cv X h_X9_piecesAt rfl (by decide +kernel : decode cX9_turned 80 = .ok (.invokevirtual 203, 3)) dn_X9_piecesAt ml_X9_203 im_X9_piecesAt se_X9_piecesAt ini_X9 co_X9_piecesAt R_X9_piecesAt ?_
      refine as_istore X (by decide +kernel : decode cX9_turned 83 = .ok (.istore 5, 2)) ?_
      refine as_aload_n X (by decide +kernel : decode cX9_turned 85 = .ok (.aload_n 0, 1)) rfl ?_
      refine as_iload X (by decide +kernel : decode cX9_turned 86 = .ok (.iload 5, 2)) ?_
      refine as_cs X h_X9_manyOf (by decide +kernel : decode cX9_turned 88 = .ok (.invokestatic 206, 3)) dn_X9_manyOf ml_X9_206 st_X9_manyOf ini_X9 co_X9_manyOf R_X9_manyOf ?_
      refine as_i2l X (by decide +kernel : decode cX9_turned 91 = .ok (.i2l, 1)) ?_
      refine as_aload_n X (by decide +kernel : decode cX9_turned 92 = .ok (.aload_n 0, 1)) rfl ?_
      refine as_get X fc_X9 (by decide +kernel : decode cX9_turned 93 = .ok (.getfield 40, 3)) (by decide) fl_X9_40 ?_
      refine as_iconst X (by decide +kernel : decode cX9_turned 96 = .ok (.iconst 2, 1)) rfl ?_
      refine as_iaload X (by decide +kernel : decode cX9_turned 97 = .ok (.iaload, 1)) ?_
      refine as_iload X (by decide +kernel : decode cX9_turned 98 = .ok (.iload 5, 2)) ?_
      refine as_cs X h_X9_costOf (by decide +kernel : decode cX9_turned 100 = .ok (.invokestatic 209, 3)) dn_X9_costOf ml_X9_209 st_X9_costOf ini_X9 co_X9_costOf R_X9_costOf ?_
      refine as_iadd X (by decide +kernel : decode cX9_turned 103 = .ok (.iadd, 1)) ?_
      refine as_iconst X (by decide +kernel : decode cX9_turned 104 = .ok (.iconst 2, 1)) rfl ?_
      refine as_iconst X (by decide +kernel : decode cX9_turned 105 = .ok (.iconst 1, 1)) rfl ?_
      refine as_iconst X (by decide +kernel : decode cX9_turned 106 = .ok (.iconst 0, 1)) rfl ?_
      refine as_iconst X (by decide +kernel : decode cX9_turned 107 = .ok (.iconst 0, 1)) rfl ?_
      refine as_cv X h_X9_meets rfl (by decide +kernel : decode cX9_turned 108 = .ok (.invokevirtual 196, 3)) dn_X9_meets ml_X9_196 im_X9_meets se_X9_meets ini_X9 co_X9_meets R_X9_meets ?_
      exact fun _ _ _ h => h
  · unfold B_X9_turned_111
    exact as_rv X hQ hr (by decide +kernel : decode cX9_turned 111 = .ok (.return_, 1))

def B_X9_stirred_0 (kX9_joins : am_T) (kX9_isSign : am_T) (kX9_isStirred : am_T) (kX9_meets : am_T) (Q : am_Q) (G : Nat → am_K) : am_K := (ak_al 0 (ak_il 1 (ak_c (.int 1) (ak_ib (fun x y => x + y) (ak_il 2 (ak_cv 3 7 kX9_joins (ak_al 0 (ak_il 1 (ak_c (.int 3) (ak_cv 3 7 kX9_isSign (ak_if (fun x => x = 0) (G 39) (ak_al 0 (ak_cv 1 7 kX9_isStirred (ak_if (fun x => x = 0) (G 39) (ak_al 0 (ak_c (.long 1) (ak_al 0 (ak_get 7 14 (ak_c (.int 3) (ak_iald (ak_c (.int 3) (ak_c (.int 0) (ak_c (.int 0) (ak_c (.int 0) (ak_cv 7 7 kX9_meets (G 39))))))))))))))))))))))))))
def B_X9_stirred_39 (kX9_joins : am_T) (kX9_isSign : am_T) (kX9_isStirred : am_T) (kX9_meets : am_T) (Q : am_Q) (G : Nat → am_K) : am_K := (ak_al 0 (ak_il 1 (ak_il 2 (ak_c (.int 1) (ak_ib (fun x y => x - y) (ak_cv 3 7 kX9_joins (ak_al 0 (ak_il 2 (ak_c (.int 1) (ak_ib (fun x y => x - y) (ak_c (.int 3) (ak_cv 3 7 kX9_isSign (ak_if (fun x => x = 0) (G 80) (ak_al 0 (ak_cv 1 7 kX9_isStirred (ak_if (fun x => x = 0) (G 80) (ak_al 0 (ak_c (.long 1) (ak_al 0 (ak_get 7 14 (ak_c (.int 3) (ak_iald (ak_c (.int 3) (ak_c (.int 1) (ak_c (.int 0) (ak_c (.int 0) (ak_cv 7 7 kX9_meets (G 80))))))))))))))))))))))))))))
def B_X9_stirred_80 (kX9_joins : am_T) (kX9_isSign : am_T) (kX9_isStirred : am_T) (kX9_meets : am_T) (Q : am_Q) (G : Nat → am_K) : am_K := (ak_rv Q)
def cl_X9_stirred (kX9_joins : am_T) (kX9_isSign : am_T) (kX9_isStirred : am_T) (kX9_meets : am_T) (Q : am_Q) (G : Nat → am_K) : Prop := am_N G 0 (B_X9_stirred_0 kX9_joins kX9_isSign kX9_isStirred kX9_meets Q G) ∧ am_N G 39 (B_X9_stirred_39 kX9_joins kX9_isSign kX9_isStirred kX9_meets Q G) ∧ am_N G 80 (B_X9_stirred_80 kX9_joins kX9_isSign kX9_isStirred kX9_meets Q G)
def WP_X9_stirred (kX9_joins : am_T) (kX9_isSign : am_T) (kX9_isStirred : am_T) (kX9_meets : am_T) : am_T := fun av h Q => (lg_sl av).length ≤ 3 ∧ ∀ G, cl_X9_stirred kX9_joins kX9_isSign kX9_isStirred kX9_meets Q G → G 0 (am_ent 3 av) [] h
set_option maxHeartbeats 4000000 in
set_option maxRecDepth 100000 in
theorem s_X9_stirred {mX9_joins : Room} {kX9_joins : am_T} (h_X9_joins : am_S false yX9_joins (am_ws yX9_joins cX9_joins 5 none) mX9_joins kX9_joins) {mX9_isSign : Room} {kX9_isSign : am_T} (h_X9_isSign : am_S false yX9_isSign (am_ws yX9_isSign cX9_isSign 4 (some .boolean)) mX9_isSign kX9_isSign) {mX9_isStirred : Room} {kX9_isStirred : am_T} (h_X9_isStirred : am_S false yX9_isStirred (am_ws yX9_isStirred cX9_isStirred 5 (some .boolean)) mX9_isStirred kX9_isStirred) {mX9_meets : Room} {kX9_meets : am_T} (h_X9_meets : am_S false yX9_meets (am_ws yX9_meets cX9_meets 8 none) mX9_meets kX9_meets) {rm : Room} (hz : rm.cells = 0 ∧ rm.slots = 0) (R_X9_joins : mX9_joins.frames + 1 ≤ rm.frames ∧ 8 + (5 + 11) + mX9_joins.locals ≤ rm.locals) (R_X9_isSign : mX9_isSign.frames + 1 ≤ rm.frames ∧ 8 + (4 + 11) + mX9_isSign.locals ≤ rm.locals) (R_X9_isStirred : mX9_isStirred.frames + 1 ≤ rm.frames ∧ 8 + (5 + 11) + mX9_isStirred.locals ≤ rm.locals) (R_X9_meets : mX9_meets.frames + 1 ≤ rm.frames ∧ 8 + (8 + 11) + mX9_meets.locals ≤ rm.locals) : am_S false yX9_stirred (am_ws yX9_stirred cX9_stirred 3 none) rm (WP_X9_stirred kX9_joins kX9_isSign kX9_isStirred kX9_meets) := by
  refine am_S.of (fun _ => hz) (by decide +kernel) (fun h0 Q G => cl_X9_stirred kX9_joins kX9_isSign kX9_isStirred kX9_meets Q G) ?_
  intro p l e s m args below meth c D h0 Q X hr hnm hQ
  refine ⟨?_, ?_, ?_⟩
  · unfold B_X9_stirred_0
    refine as_aload_n X (by decide +kernel : decode cX9_stirred 0 = .ok (.aload_n 0, 1)) rfl ?_
    refine as_iload_n X (by decide +kernel : decode cX9_stirred 1 = .ok (.iload_n 1, 1)) rfl ?_
    refine as_iconst X (by decide +kernel : decode cX9_stirred 2 = .ok (.iconst 1, 1)) rfl ?_
    refine as_iadd X (by decide +kernel : decode cX9_stirred 3 = .ok (.iadd, 1)) ?_
    refine as_iload_n X (by decide +kernel : decode cX9_stirred 4 = .ok (.iload_n 2, 1)) rfl ?_
    refine as_cv X h_X9_joins rfl (by decide +kernel : decode cX9_stirred 5 = .ok (.invokevirtual 212, 3)) dn_X9_joins ml_X9_212 im_X9_joins se_X9_joins ini_X9 co_X9_joins R_X9_joins ?_
    refine as_aload_n X (by decide +kernel : decode cX9_stirred 8 = .ok (.aload_n 0, 1)) rfl ?_
    refine as_iload_n X (by decide +kernel : decode cX9_stirred 9 = .ok (.iload_n 1, 1)) rfl ?_
    refine as_iconst X (by decide +kernel : decode cX9_stirred 10 = .ok (.iconst 3, 1)) rfl ?_
    refine as_cv X h_X9_isSign rfl (by decide +kernel : decode cX9_stirred 11 = .ok (.invokevirtual 155, 3)) dn_X9_isSign ml_X9_155 im_X9_isSign se_X9_isSign ini_X9 co_X9_isSign R_X9_isSign ?_
    refine as_if_eq X (tgt := 39) (by decide +kernel : decode cX9_stirred 14 = .ok (.ifCond .eq 25, 3)) (by decide) ?_ ?_
    · exact fun _ _ _ h => h
    · refine as_aload_n X (by decide +kernel : decode cX9_stirred 17 = .ok (.aload_n 0, 1)) rfl ?_
      refine as_cv X h_X9_isStirred rfl (by decide +kernel : decode cX9_stirred 18 = .ok (.invokevirtual 216, 3)) dn_X9_isStirred ml_X9_216 im_X9_isStirred se_X9_isStirred ini_X9 co_X9_isStirred R_X9_isStirred ?_
      refine as_if_eq X (tgt := 39) (by decide +kernel : decode cX9_stirred 21 = .ok (.ifCond .eq 18, 3)) (by decide) ?_ ?_
      · exact fun _ _ _ h => h
      · refine as_aload_n X (by decide +kernel : decode cX9_stirred 24 = .ok (.aload_n 0, 1)) rfl ?_
        refine as_lconst X (by decide +kernel : decode cX9_stirred 25 = .ok (.lconst 1, 1)) rfl ?_
        refine as_aload_n X (by decide +kernel : decode cX9_stirred 26 = .ok (.aload_n 0, 1)) rfl ?_
        refine as_get X fc_X9 (by decide +kernel : decode cX9_stirred 27 = .ok (.getfield 40, 3)) (by decide) fl_X9_40 ?_
        refine as_iconst X (by decide +kernel : decode cX9_stirred 30 = .ok (.iconst 3, 1)) rfl ?_
        refine as_iaload X (by decide +kernel : decode cX9_stirred 31 = .ok (.iaload, 1)) ?_
        refine as_iconst X (by decide +kernel : decode cX9_stirred 32 = .ok (.iconst 3, 1)) rfl ?_
        refine as_iconst X (by decide +kernel : decode cX9_stirred 33 = .ok (.iconst 0, 1)) rfl ?_
        refine as_iconst X (by decide +kernel : decode cX9_stirred 34 = .ok (.iconst 0, 1)) rfl ?_
        refine as_iconst X (by decide +kernel : decode cX9_stirred 35 = .ok (.iconst 0, 1)) rfl ?_
        refine as_cv X h_X9_meets rfl (by decide +kernel : decode cX9_stirred 36 = .ok (.invokevirtual 196, 3)) dn_X9_meets ml_X9_196 im_X9_meets se_X9_meets ini_X9 co_X9_meets R_X9_meets ?_
        exact fun _ _ _ h => h
  · unfold B_X9_stirred_39
    refine as_aload_n X (by decide +kernel : decode cX9_stirred 39 = .ok (.aload_n 0, 1)) rfl ?_
    refine as_iload_n X (by decide +kernel : decode cX9_stirred 40 = .ok (.iload_n 1, 1)) rfl ?_
    refine as_iload_n X (by decide +kernel : decode cX9_stirred 41 = .ok (.iload_n 2, 1)) rfl ?_
    refine as_iconst X (by decide +kernel : decode cX9_stirred 42 = .ok (.iconst 1, 1)) rfl ?_
    refine as_isub X (by decide +kernel : decode cX9_stirred 43 = .ok (.isub, 1)) ?_
    refine as_cv X h_X9_joins rfl (by decide +kernel : decode cX9_stirred 44 = .ok (.invokevirtual 212, 3)) dn_X9_joins ml_X9_212 im_X9_joins se_X9_joins ini_X9 co_X9_joins R_X9_joins ?_
    refine as_aload_n X (by decide +kernel : decode cX9_stirred 47 = .ok (.aload_n 0, 1)) rfl ?_
    refine as_iload_n X (by decide +kernel : decode cX9_stirred 48 = .ok (.iload_n 2, 1)) rfl ?_
    refine as_iconst X (by decide +kernel : decode cX9_stirred 49 = .ok (.iconst 1, 1)) rfl ?_
    refine as_isub X (by decide +kernel : decode cX9_stirred 50 = .ok (.isub, 1)) ?_
    refine as_iconst X (by decide +kernel : decode cX9_stirred 51 = .ok (.iconst 3, 1)) rfl ?_
    refine as_cv X h_X9_isSign rfl (by decide +kernel : decode cX9_stirred 52 = .ok (.invokevirtual 155, 3)) dn_X9_isSign ml_X9_155 im_X9_isSign se_X9_isSign ini_X9 co_X9_isSign R_X9_isSign ?_
    refine as_if_eq X (tgt := 80) (by decide +kernel : decode cX9_stirred 55 = .ok (.ifCond .eq 25, 3)) (by decide) ?_ ?_
    · exact fun _ _ _ h => h
    · refine as_aload_n X (by decide +kernel : decode cX9_stirred 58 = .ok (.aload_n 0, 1)) rfl ?_
      refine as_cv X h_X9_isStirred rfl (by decide +kernel : decode cX9_stirred 59 = .ok (.invokevirtual 216, 3)) dn_X9_isStirred ml_X9_216 im_X9_isStirred se_X9_isStirred ini_X9 co_X9_isStirred R_X9_isStirred ?_
      refine as_if_eq X (tgt := 80) (by decide +kernel : decode cX9_stirred 62 = .ok (.ifCond .eq 18, 3)) (by decide) ?_ ?_
      · exact fun _ _ _ h => h
      · refine as_aload_n X (by decide +kernel : decode cX9_stirred 65 = .ok (.aload_n 0, 1)) rfl ?_
        refine as_lconst X (by decide +kernel : decode cX9_stirred 66 = .ok (.lconst 1, 1)) rfl ?_
        refine as_aload_n X (by decide +kernel : decode cX9_stirred 67 = .ok (.aload_n 0, 1)) rfl ?_
        refine as_get X fc_X9 (by decide +kernel : decode cX9_stirred 68 = .ok (.getfield 40, 3)) (by decide) fl_X9_40 ?_
        refine as_iconst X (by decide +kernel : decode cX9_stirred 71 = .ok (.iconst 3, 1)) rfl ?_
        refine as_iaload X (by decide +kernel : decode cX9_stirred 72 = .ok (.iaload, 1)) ?_
        refine as_iconst X (by decide +kernel : decode cX9_stirred 73 = .ok (.iconst 3, 1)) rfl ?_
        refine as_iconst X (by decide +kernel : decode cX9_stirred 74 = .ok (.iconst 1, 1)) rfl ?_
        refine as_iconst X (by decide +kernel : decode cX9_stirred 75 = .ok (.iconst 0, 1)) rfl ?_
        refine as_iconst X (by decide +kernel : decode cX9_stirred 76 = .ok (.iconst 0, 1)) rfl ?_
        refine as_cv X h_X9_meets rfl (by decide +kernel : decode cX9_stirred 77 = .ok (.invokevirtual 196, 3)) dn_X9_meets ml_X9_196 im_X9_meets se_X9_meets ini_X9 co_X9_meets R_X9_meets ?_
        exact fun _ _ _ h => h
  · unfold B_X9_stirred_80
    exact as_rv X hQ hr (by decide +kernel : decode cX9_stirred 80 = .ok (.return_, 1))

def B_X9_put_0 (kX9_isSign : am_T) (kX9_part : am_T) (kX9_piecesAt : am_T) (kX9_manyOf : am_T) (kX9_costOf : am_T) (kX9_meets : am_T) (Q : am_Q) (G : Nat → am_K) : am_K := (ak_il 1 (ak_c (.int 1) (ak_ib (fun x y => x + y) (ak_is 6 (G 5)))))
def B_X9_put_5 (kX9_isSign : am_T) (kX9_part : am_T) (kX9_piecesAt : am_T) (kX9_manyOf : am_T) (kX9_costOf : am_T) (kX9_meets : am_T) (Q : am_Q) (G : Nat → am_K) : am_K := (ak_il 6 (ak_il 2 (ak_c (.int 1) (ak_ib (fun x y => x - y) (ak_ic (fun x y => y ≤ x) (ak_rv Q) (ak_al 0 (ak_il 6 (ak_il 5 (ak_cv 3 7 kX9_isSign (ak_if (fun x => x = 0) (G 176) (ak_c (.int 1) (ak_is 7 (G 30)))))))))))))
def B_X9_put_30 (kX9_isSign : am_T) (kX9_part : am_T) (kX9_piecesAt : am_T) (kX9_manyOf : am_T) (kX9_costOf : am_T) (kX9_meets : am_T) (Q : am_Q) (G : Nat → am_K) : am_K := (ak_il 7 (ak_al 0 (ak_get 7 25 (ak_c (.int 1) (ak_ib (fun x y => x - y) (ak_ic (fun x y => y ≤ x) (G 176) (ak_c (.int 1) (ak_is 8 (G 44)))))))))
def B_X9_put_44 (kX9_isSign : am_T) (kX9_part : am_T) (kX9_piecesAt : am_T) (kX9_manyOf : am_T) (kX9_costOf : am_T) (kX9_meets : am_T) (Q : am_Q) (G : Nat → am_K) : am_K := (ak_il 7 (ak_il 8 (ak_ib (fun x y => x + y) (ak_al 0 (ak_get 7 25 (ak_ic (fun x y => y ≤ x) (ak_ii 7 1 (G 30)) (ak_al 0 (ak_il 7 (ak_il 8 (ak_cv 3 7 kX9_part (ak_is 9 (ak_al 0 (ak_il 1 (ak_il 6 (ak_il 5 (ak_c (.int 4) (ak_ic (fun x y => x = y) (ak_il 3 (ak_il 9 (ak_ib (fun x y => x - y) (G 85)))) (ak_il 9 (G 85)))))))))))))))))))
def B_X9_put_85 (kX9_isSign : am_T) (kX9_part : am_T) (kX9_piecesAt : am_T) (kX9_manyOf : am_T) (kX9_costOf : am_T) (kX9_meets : am_T) (Q : am_Q) (G : Nat → am_K) : am_K := (ak_il 4 (ak_cv 5 7 kX9_piecesAt (ak_is 10 (ak_al 0 (ak_il 6 (ak_c (.int 1) (ak_ib (fun x y => x + y) (ak_il 2 (ak_il 5 (ak_c (.int 4) (ak_ic (fun x y => x = y) (ak_il 9 (G 113)) (ak_il 3 (ak_il 9 (ak_ib (fun x y => x - y) (G 113)))))))))))))))
def B_X9_put_113 (kX9_isSign : am_T) (kX9_part : am_T) (kX9_piecesAt : am_T) (kX9_manyOf : am_T) (kX9_costOf : am_T) (kX9_meets : am_T) (Q : am_Q) (G : Nat → am_K) : am_K := (ak_il 4 (ak_cv 5 7 kX9_piecesAt (ak_is 11 (ak_al 0 (ak_il 10 (ak_cs 1 kX9_manyOf (ak_i2l (ak_il 11 (ak_cs 1 kX9_manyOf (ak_i2l (ak_lb (fun x y => x * y) (ak_al 0 (ak_get 7 14 (ak_il 5 (ak_iald (ak_il 10 (ak_cs 1 kX9_costOf (ak_ib (fun x y => x + y) (ak_il 11 (ak_cs 1 kX9_costOf (ak_ib (fun x y => x + y) (ak_il 5 (ak_il 6 (ak_il 7 (ak_il 8 (ak_cv 7 7 kX9_meets (ak_ii 8 1 (G 44))))))))))))))))))))))))))))
def B_X9_put_176 (kX9_isSign : am_T) (kX9_part : am_T) (kX9_piecesAt : am_T) (kX9_manyOf : am_T) (kX9_costOf : am_T) (kX9_meets : am_T) (Q : am_Q) (G : Nat → am_K) : am_K := (ak_ii 6 1 (G 5))
def cl_X9_put (kX9_isSign : am_T) (kX9_part : am_T) (kX9_piecesAt : am_T) (kX9_manyOf : am_T) (kX9_costOf : am_T) (kX9_meets : am_T) (Q : am_Q) (G : Nat → am_K) : Prop := am_N G 0 (B_X9_put_0 kX9_isSign kX9_part kX9_piecesAt kX9_manyOf kX9_costOf kX9_meets Q G) ∧ am_N G 5 (B_X9_put_5 kX9_isSign kX9_part kX9_piecesAt kX9_manyOf kX9_costOf kX9_meets Q G) ∧ am_N G 30 (B_X9_put_30 kX9_isSign kX9_part kX9_piecesAt kX9_manyOf kX9_costOf kX9_meets Q G) ∧ am_N G 44 (B_X9_put_44 kX9_isSign kX9_part kX9_piecesAt kX9_manyOf kX9_costOf kX9_meets Q G) ∧ am_N G 85 (B_X9_put_85 kX9_isSign kX9_part kX9_piecesAt kX9_manyOf kX9_costOf kX9_meets Q G) ∧ am_N G 113 (B_X9_put_113 kX9_isSign kX9_part kX9_piecesAt kX9_manyOf kX9_costOf kX9_meets Q G) ∧ am_N G 176 (B_X9_put_176 kX9_isSign kX9_part kX9_piecesAt kX9_manyOf kX9_costOf kX9_meets Q G)
def WP_X9_put (kX9_isSign : am_T) (kX9_part : am_T) (kX9_piecesAt : am_T) (kX9_manyOf : am_T) (kX9_costOf : am_T) (kX9_meets : am_T) : am_T := fun av h Q => (lg_sl av).length ≤ 12 ∧ ∀ G, cl_X9_put kX9_isSign kX9_part kX9_piecesAt kX9_manyOf kX9_costOf kX9_meets Q G → G 0 (am_ent 12 av) [] h
set_option maxHeartbeats 4000000 in
set_option maxRecDepth 100000 in
theorem s_X9_put {mX9_isSign : Room} {kX9_isSign : am_T} (h_X9_isSign : am_S false yX9_isSign (am_ws yX9_isSign cX9_isSign 4 (some .boolean)) mX9_isSign kX9_isSign) {mX9_part : Room} {kX9_part : am_T} (h_X9_part : am_S false yX9_part (am_ws yX9_part cX9_part 5 (some .int)) mX9_part kX9_part) {mX9_piecesAt : Room} {kX9_piecesAt : am_T} (h_X9_piecesAt : am_S false yX9_piecesAt (am_ws yX9_piecesAt cX9_piecesAt 5 (some .int)) mX9_piecesAt kX9_piecesAt) {mX9_manyOf : Room} {kX9_manyOf : am_T} (h_X9_manyOf : am_S false yX9_manyOf (am_ws yX9_manyOf cX9_manyOf 1 (some .int)) mX9_manyOf kX9_manyOf) {mX9_costOf : Room} {kX9_costOf : am_T} (h_X9_costOf : am_S false yX9_costOf (am_ws yX9_costOf cX9_costOf 1 (some .int)) mX9_costOf kX9_costOf) {mX9_meets : Room} {kX9_meets : am_T} (h_X9_meets : am_S false yX9_meets (am_ws yX9_meets cX9_meets 8 none) mX9_meets kX9_meets) {rm : Room} (hz : rm.cells = 0 ∧ rm.slots = 0) (R_X9_isSign : mX9_isSign.frames + 1 ≤ rm.frames ∧ 8 + (4 + 11) + mX9_isSign.locals ≤ rm.locals) (R_X9_part : mX9_part.frames + 1 ≤ rm.frames ∧ 8 + (5 + 11) + mX9_part.locals ≤ rm.locals) (R_X9_piecesAt : mX9_piecesAt.frames + 1 ≤ rm.frames ∧ 8 + (5 + 11) + mX9_piecesAt.locals ≤ rm.locals) (R_X9_manyOf : mX9_manyOf.frames + 1 ≤ rm.frames ∧ 8 + (1 + 11) + mX9_manyOf.locals ≤ rm.locals) (R_X9_costOf : mX9_costOf.frames + 1 ≤ rm.frames ∧ 8 + (1 + 11) + mX9_costOf.locals ≤ rm.locals) (R_X9_meets : mX9_meets.frames + 1 ≤ rm.frames ∧ 8 + (8 + 11) + mX9_meets.locals ≤ rm.locals) : am_S false yX9_put (am_ws yX9_put cX9_put 12 none) rm (WP_X9_put kX9_isSign kX9_part kX9_piecesAt kX9_manyOf kX9_costOf kX9_meets) := by
  refine am_S.of (fun _ => hz) (by decide +kernel) (fun h0 Q G => cl_X9_put kX9_isSign kX9_part kX9_piecesAt kX9_manyOf kX9_costOf kX9_meets Q G) ?_
  intro p l e s m args below meth c D h0 Q X hr hnm hQ
  refine ⟨?_, ?_, ?_, ?_, ?_, ?_, ?_⟩
  · unfold B_X9_put_0
    refine as_iload_n X (by decide +kernel : decode cX9_put 0 = .ok (.iload_n 1, 1)) rfl ?_
    refine as_iconst X (by decide +kernel : decode cX9_put 1 = .ok (.iconst 1, 1)) rfl ?_
    refine as_iadd X (by decide +kernel : decode cX9_put 2 = .ok (.iadd, 1)) ?_
    refine as_istore X (by decide +kernel : decode cX9_put 3 = .ok (.istore 6, 2)) ?_
    exact fun _ _ _ h => h
  · unfold B_X9_put_5
    refine as_iload X (by decide +kernel : decode cX9_put 5 = .ok (.iload 6, 2)) ?_
    refine as_iload_n X (by decide +kernel : decode cX9_put 7 = .ok (.iload_n 2, 1)) rfl ?_
    refine as_iconst X (by decide +kernel : decode cX9_put 8 = .ok (.iconst 1, 1)) rfl ?_
    refine as_isub X (by decide +kernel : decode cX9_put 9 = .ok (.isub, 1)) ?_
    refine as_ic_ge X (tgt := 182) (by decide +kernel : decode cX9_put 10 = .ok (.if_icmp .ge 172, 3)) (by decide) ?_ ?_
    · exact as_rv X hQ hr (by decide +kernel : decode cX9_put 182 = .ok (.return_, 1))
    · refine as_aload_n X (by decide +kernel : decode cX9_put 13 = .ok (.aload_n 0, 1)) rfl ?_
      refine as_iload X (by decide +kernel : decode cX9_put 14 = .ok (.iload 6, 2)) ?_
      refine as_iload X (by decide +kernel : decode cX9_put 16 = .ok (.iload 5, 2)) ?_
      refine as_cv X h_X9_isSign rfl (by decide +kernel : decode cX9_put 18 = .ok (.invokevirtual 155, 3)) dn_X9_isSign ml_X9_155 im_X9_isSign se_X9_isSign ini_X9 co_X9_isSign R_X9_isSign ?_
      refine as_if_ne X (tgt := 27) (by decide +kernel : decode cX9_put 21 = .ok (.ifCond .ne 6, 3)) (by decide) ?_ ?_
      · refine as_goto X (tgt := 176) (by decide +kernel : decode cX9_put 24 = .ok (.goto 152, 3)) (by decide) ?_
        exact fun _ _ _ h => h
      · refine as_iconst X (by decide +kernel : decode cX9_put 27 = .ok (.iconst 1, 1)) rfl ?_
        refine as_istore X (by decide +kernel : decode cX9_put 28 = .ok (.istore 7, 2)) ?_
        exact fun _ _ _ h => h
  · unfold B_X9_put_30
    refine as_iload X (by decide +kernel : decode cX9_put 30 = .ok (.iload 7, 2)) ?_
    refine as_aload_n X (by decide +kernel : decode cX9_put 32 = .ok (.aload_n 0, 1)) rfl ?_
    refine as_get X fc_X9 (by decide +kernel : decode cX9_put 33 = .ok (.getfield 158, 3)) (by decide) fl_X9_158 ?_
    refine as_iconst X (by decide +kernel : decode cX9_put 36 = .ok (.iconst 1, 1)) rfl ?_
    refine as_isub X (by decide +kernel : decode cX9_put 37 = .ok (.isub, 1)) ?_
    refine as_ic_ge X (tgt := 176) (by decide +kernel : decode cX9_put 38 = .ok (.if_icmp .ge 138, 3)) (by decide) ?_ ?_
    · exact fun _ _ _ h => h
    · refine as_iconst X (by decide +kernel : decode cX9_put 41 = .ok (.iconst 1, 1)) rfl ?_
      refine as_istore X (by decide +kernel : decode cX9_put 42 = .ok (.istore 8, 2)) ?_
      exact fun _ _ _ h => h
  · unfold B_X9_put_44
    refine as_iload X (by decide +kernel : decode cX9_put 44 = .ok (.iload 7, 2)) ?_
    refine as_iload X (by decide +kernel : decode cX9_put 46 = .ok (.iload 8, 2)) ?_
    refine as_iadd X (by decide +kernel : decode cX9_put 48 = .ok (.iadd, 1)) ?_
    refine as_aload_n X (by decide +kernel : decode cX9_put 49 = .ok (.aload_n 0, 1)) rfl ?_
    refine as_get X fc_X9 (by decide +kernel : decode cX9_put 50 = .ok (.getfield 158, 3)) (by decide) fl_X9_158 ?_
    refine as_ic_ge X (tgt := 170) (by decide +kernel : decode cX9_put 53 = .ok (.if_icmp .ge 117, 3)) (by decide) ?_ ?_
    · refine as_iinc X (by decide +kernel : decode cX9_put 170 = .ok (.iinc 7 1, 3)) rfl ?_
      refine as_goto X (tgt := 30) (by decide +kernel : decode cX9_put 173 = .ok (.goto (-143), 3)) (by decide) ?_
      exact fun _ _ _ h => h
    · refine as_aload_n X (by decide +kernel : decode cX9_put 56 = .ok (.aload_n 0, 1)) rfl ?_
      refine as_iload X (by decide +kernel : decode cX9_put 57 = .ok (.iload 7, 2)) ?_
      refine as_iload X (by decide +kernel : decode cX9_put 59 = .ok (.iload 8, 2)) ?_
      refine as_cv X h_X9_part rfl (by decide +kernel : decode cX9_put 61 = .ok (.invokevirtual 220, 3)) dn_X9_part ml_X9_220 im_X9_part se_X9_part ini_X9 co_X9_part R_X9_part ?_
      refine as_istore X (by decide +kernel : decode cX9_put 64 = .ok (.istore 9, 2)) ?_
      refine as_aload_n X (by decide +kernel : decode cX9_put 66 = .ok (.aload_n 0, 1)) rfl ?_
      refine as_iload_n X (by decide +kernel : decode cX9_put 67 = .ok (.iload_n 1, 1)) rfl ?_
      refine as_iload X (by decide +kernel : decode cX9_put 68 = .ok (.iload 6, 2)) ?_
      refine as_iload X (by decide +kernel : decode cX9_put 70 = .ok (.iload 5, 2)) ?_
      refine as_iconst X (by decide +kernel : decode cX9_put 72 = .ok (.iconst 4, 1)) rfl ?_
      refine as_ic_ne X (tgt := 83) (by decide +kernel : decode cX9_put 73 = .ok (.if_icmp .ne 10, 3)) (by decide) ?_ ?_
      · refine as_iload_n X (by decide +kernel : decode cX9_put 76 = .ok (.iload_n 3, 1)) rfl ?_
        refine as_iload X (by decide +kernel : decode cX9_put 77 = .ok (.iload 9, 2)) ?_
        refine as_isub X (by decide +kernel : decode cX9_put 79 = .ok (.isub, 1)) ?_
        refine as_goto X (tgt := 85) (by decide +kernel : decode cX9_put 80 = .ok (.goto 5, 3)) (by decide) ?_
        exact fun _ _ _ h => h
      · refine as_iload X (by decide +kernel : decode cX9_put 83 = .ok (.iload 9, 2)) ?_
        exact fun _ _ _ h => h
  · unfold B_X9_put_85
    refine as_iload X (by decide +kernel : decode cX9_put 85 = .ok (.iload 4, 2)) ?_
    refine as_cv X h_X9_piecesAt rfl (by decide +kernel : decode cX9_put 87 = .ok (.invokevirtual 203, 3)) dn_X9_piecesAt ml_X9_203 im_X9_piecesAt se_X9_piecesAt ini_X9 co_X9_piecesAt R_X9_piecesAt ?_
    refine as_istore X (by decide +kernel : decode cX9_put 90 = .ok (.istore 10, 2)) ?_
    refine as_aload_n X (by decide +kernel : decode cX9_put 92 = .ok (.aload_n 0, 1)) rfl ?_
    refine as_iload X (by decide +kernel : decode cX9_put 93 = .ok (.iload 6, 2)) ?_
    refine as_iconst X (by decide +kernel : decode cX9_put 95 = .ok (.iconst 1, 1)) rfl ?_
    refine as_iadd X (by decide +kernel : decode cX9_put 96 = .ok (.iadd, 1)) ?_
    refine as_iload_n X (by decide +kernel : decode cX9_put 97 = .ok (.iload_n 2, 1)) rfl ?_
    refine as_iload X (by decide +kernel : decode cX9_put 98 = .ok (.iload 5, 2)) ?_
    refine as_iconst X (by decide +kernel : decode cX9_put 100 = .ok (.iconst 4, 1)) rfl ?_
    refine as_ic_ne X (tgt := 109) (by decide +kernel : decode cX9_put 101 = .ok (.if_icmp .ne 8, 3)) (by decide) ?_ ?_
    · refine as_iload X (by decide +kernel : decode cX9_put 104 = .ok (.iload 9, 2)) ?_
      refine as_goto X (tgt := 113) (by decide +kernel : decode cX9_put 106 = .ok (.goto 7, 3)) (by decide) ?_
      exact fun _ _ _ h => h
    · refine as_iload_n X (by decide +kernel : decode cX9_put 109 = .ok (.iload_n 3, 1)) rfl ?_
      refine as_iload X (by decide +kernel : decode cX9_put 110 = .ok (.iload 9, 2)) ?_
      refine as_isub X (by decide +kernel : decode cX9_put 112 = .ok (.isub, 1)) ?_
      exact fun _ _ _ h => h
  · unfold B_X9_put_113
    refine as_iload X (by decide +kernel : decode cX9_put 113 = .ok (.iload 4, 2)) ?_
    refine as_cv X h_X9_piecesAt rfl (by decide +kernel : decode cX9_put 115 = .ok (.invokevirtual 203, 3)) dn_X9_piecesAt ml_X9_203 im_X9_piecesAt se_X9_piecesAt ini_X9 co_X9_piecesAt R_X9_piecesAt ?_
    refine as_istore X (by decide +kernel : decode cX9_put 118 = .ok (.istore 11, 2)) ?_
    refine as_aload_n X (by decide +kernel : decode cX9_put 120 = .ok (.aload_n 0, 1)) rfl ?_
    refine as_iload X (by decide +kernel : decode cX9_put 121 = .ok (.iload 10, 2)) ?_
    refine as_cs X h_X9_manyOf (by decide +kernel : decode cX9_put 123 = .ok (.invokestatic 206, 3)) dn_X9_manyOf ml_X9_206 st_X9_manyOf ini_X9 co_X9_manyOf R_X9_manyOf ?_
    refine as_i2l X (by decide +kernel : decode cX9_put 126 = .ok (.i2l, 1)) ?_
    refine as_iload X (by decide +kernel : decode cX9_put 127 = .ok (.iload 11, 2)) ?_
    refine as_cs X h_X9_manyOf (by decide +kernel : decode cX9_put 129 = .ok (.invokestatic 206, 3)) dn_X9_manyOf ml_X9_206 st_X9_manyOf ini_X9 co_X9_manyOf R_X9_manyOf ?_
    refine as_i2l X (by decide +kernel : decode cX9_put 132 = .ok (.i2l, 1)) ?_
    refine as_lmul X (by decide +kernel : decode cX9_put 133 = .ok (.lmul, 1)) ?_
    refine as_aload_n X (by decide +kernel : decode cX9_put 134 = .ok (.aload_n 0, 1)) rfl ?_
    refine as_get X fc_X9 (by decide +kernel : decode cX9_put 135 = .ok (.getfield 40, 3)) (by decide) fl_X9_40 ?_
    refine as_iload X (by decide +kernel : decode cX9_put 138 = .ok (.iload 5, 2)) ?_
    refine as_iaload X (by decide +kernel : decode cX9_put 140 = .ok (.iaload, 1)) ?_
    refine as_iload X (by decide +kernel : decode cX9_put 141 = .ok (.iload 10, 2)) ?_
    refine as_cs X h_X9_costOf (by decide +kernel : decode cX9_put 143 = .ok (.invokestatic 209, 3)) dn_X9_costOf ml_X9_209 st_X9_costOf ini_X9 co_X9_costOf R_X9_costOf ?_
    refine as_iadd X (by decide +kernel : decode cX9_put 146 = .ok (.iadd, 1)) ?_
    refine as_iload X (by decide +kernel : decode cX9_put 147 = .ok (.iload 11, 2)) ?_
    refine as_cs X h_X9_costOf (by decide +kernel : decode cX9_put 149 = .ok (.invokestatic 209, 3)) dn_X9_costOf ml_X9_209 st_X9_costOf ini_X9 co_X9_costOf R_X9_costOf ?_
    refine as_iadd X (by decide +kernel : decode cX9_put 152 = .ok (.iadd, 1)) ?_
    refine as_iload X (by decide +kernel : decode cX9_put 153 = .ok (.iload 5, 2)) ?_
    refine as_iload X (by decide +kernel : decode cX9_put 155 = .ok (.iload 6, 2)) ?_
    refine as_iload X (by decide +kernel : decode cX9_put 157 = .ok (.iload 7, 2)) ?_
    refine as_iload X (by decide +kernel : decode cX9_put 159 = .ok (.iload 8, 2)) ?_
    refine as_cv X h_X9_meets rfl (by decide +kernel : decode cX9_put 161 = .ok (.invokevirtual 196, 3)) dn_X9_meets ml_X9_196 im_X9_meets se_X9_meets ini_X9 co_X9_meets R_X9_meets ?_
    refine as_iinc X (by decide +kernel : decode cX9_put 164 = .ok (.iinc 8 1, 3)) rfl ?_
    refine as_goto X (tgt := 44) (by decide +kernel : decode cX9_put 167 = .ok (.goto (-123), 3)) (by decide) ?_
    exact fun _ _ _ h => h
  · unfold B_X9_put_176
    refine as_iinc X (by decide +kernel : decode cX9_put 176 = .ok (.iinc 6 1, 3)) rfl ?_
    refine as_goto X (tgt := 5) (by decide +kernel : decode cX9_put 179 = .ok (.goto (-174), 3)) (by decide) ?_
    exact fun _ _ _ h => h

def B_X9_hidden_0 (kX9_isSign : am_T) (kX9_joins : am_T) (kX9_letter : am_T) (kX9_meets : am_T) (Q : am_Q) (G : Nat → am_K) : am_K := (ak_il 2 (ak_il 1 (ak_ib (fun x y => x - y) (ak_c (.int 3) (ak_ic (fun x y => x < y) (G 17) (ak_al 0 (ak_il 1 (ak_c (.int 6) (ak_cv 3 7 kX9_isSign (ak_if (fun x => x = 0) (G 17) (ak_al 0 (ak_il 1 (ak_c (.int 1) (ak_ib (fun x y => x + y) (ak_il 2 (ak_cv 3 7 kX9_joins (ak_al 0 (ak_get 7 11 (ak_c (.int 8) (ak_il 2 (ak_c (.int 1) (ak_ib (fun x y => x - y) (ak_ib (fun x y => x * y) (ak_iald (ak_is 3 (ak_c (.int 1) (ak_is 4 (G 41))))))))))))))))))))))))))))
def B_X9_hidden_17 (kX9_isSign : am_T) (kX9_joins : am_T) (kX9_letter : am_T) (kX9_meets : am_T) (Q : am_Q) (G : Nat → am_K) : am_K := (ak_rv Q)
def B_X9_hidden_41 (kX9_isSign : am_T) (kX9_joins : am_T) (kX9_letter : am_T) (kX9_meets : am_T) (Q : am_Q) (G : Nat → am_K) : am_K := (ak_il 4 (ak_al 0 (ak_get 7 11 (ak_c (.int 8) (ak_il 1 (ak_c (.int 1) (ak_ib (fun x y => x + y) (ak_ib (fun x y => x * y) (ak_iald (ak_ic (fun x y => y ≤ x) (ak_rv Q) (ak_il 4 (ak_al 0 (ak_get 7 25 (ak_ib (fun x y => x + y) (ak_c (.int 1) (ak_ib (fun x y => x - y) (ak_is 5 (ak_il 5 (ak_al 0 (ak_get 7 28 (ak_il 3 (ak_ib (fun x y => x - y) (ak_ic (fun x y => x < y) (G 94) (ak_il 5 (ak_al 0 (ak_get 7 28 (ak_c (.int 1) (ak_ib (fun x y => x - y) (ak_ic (fun x y => y ≤ x) (G 94) (ak_c (.int 1) (G 95)))))))))))))))))))))))))))))))
def B_X9_hidden_94 (kX9_isSign : am_T) (kX9_joins : am_T) (kX9_letter : am_T) (kX9_meets : am_T) (Q : am_Q) (G : Nat → am_K) : am_K := (ak_c (.int 0) (G 95))
def B_X9_hidden_95 (kX9_isSign : am_T) (kX9_joins : am_T) (kX9_letter : am_T) (kX9_meets : am_T) (Q : am_Q) (G : Nat → am_K) : am_K := (ak_is 6 (ak_c (.int 0) (ak_is 7 (G 100))))
def B_X9_hidden_100 (kX9_isSign : am_T) (kX9_joins : am_T) (kX9_letter : am_T) (kX9_meets : am_T) (Q : am_Q) (G : Nat → am_K) : am_K := (ak_il 7 (ak_al 0 (ak_get 7 25 (ak_ic (fun x y => y ≤ x) (G 146) (ak_il 6 (ak_if (fun x => x = 0) (G 146) (ak_al 0 (ak_get 7 27 (ak_il 4 (ak_il 7 (ak_ib (fun x y => x + y) (ak_iald (ak_al 0 (ak_il 7 (ak_cv 2 7 kX9_letter (ak_ic (fun x y => x = y) (ak_c (.int 1) (G 138)) (ak_c (.int 0) (G 138))))))))))))))))))
def B_X9_hidden_138 (kX9_isSign : am_T) (kX9_joins : am_T) (kX9_letter : am_T) (kX9_meets : am_T) (Q : am_Q) (G : Nat → am_K) : am_K := (ak_is 6 (ak_ii 7 1 (G 100)))
def B_X9_hidden_146 (kX9_isSign : am_T) (kX9_joins : am_T) (kX9_letter : am_T) (kX9_meets : am_T) (Q : am_Q) (G : Nat → am_K) : am_K := (ak_il 6 (ak_if (fun x => x = 0) (G 169) (ak_al 0 (ak_c (.long 1) (ak_al 0 (ak_get 7 14 (ak_c (.int 6) (ak_iald (ak_c (.int 6) (ak_il 4 (ak_c (.int 0) (ak_c (.int 0) (ak_cv 7 7 kX9_meets (G 169))))))))))))))
def B_X9_hidden_169 (kX9_isSign : am_T) (kX9_joins : am_T) (kX9_letter : am_T) (kX9_meets : am_T) (Q : am_Q) (G : Nat → am_K) : am_K := (ak_ii 4 1 (G 41))
def cl_X9_hidden (kX9_isSign : am_T) (kX9_joins : am_T) (kX9_letter : am_T) (kX9_meets : am_T) (Q : am_Q) (G : Nat → am_K) : Prop := am_N G 0 (B_X9_hidden_0 kX9_isSign kX9_joins kX9_letter kX9_meets Q G) ∧ am_N G 17 (B_X9_hidden_17 kX9_isSign kX9_joins kX9_letter kX9_meets Q G) ∧ am_N G 41 (B_X9_hidden_41 kX9_isSign kX9_joins kX9_letter kX9_meets Q G) ∧ am_N G 94 (B_X9_hidden_94 kX9_isSign kX9_joins kX9_letter kX9_meets Q G) ∧ am_N G 95 (B_X9_hidden_95 kX9_isSign kX9_joins kX9_letter kX9_meets Q G) ∧ am_N G 100 (B_X9_hidden_100 kX9_isSign kX9_joins kX9_letter kX9_meets Q G) ∧ am_N G 138 (B_X9_hidden_138 kX9_isSign kX9_joins kX9_letter kX9_meets Q G) ∧ am_N G 146 (B_X9_hidden_146 kX9_isSign kX9_joins kX9_letter kX9_meets Q G) ∧ am_N G 169 (B_X9_hidden_169 kX9_isSign kX9_joins kX9_letter kX9_meets Q G)
def WP_X9_hidden (kX9_isSign : am_T) (kX9_joins : am_T) (kX9_letter : am_T) (kX9_meets : am_T) : am_T := fun av h Q => (lg_sl av).length ≤ 8 ∧ ∀ G, cl_X9_hidden kX9_isSign kX9_joins kX9_letter kX9_meets Q G → G 0 (am_ent 8 av) [] h
set_option maxHeartbeats 4000000 in
set_option maxRecDepth 100000 in
theorem s_X9_hidden {mX9_isSign : Room} {kX9_isSign : am_T} (h_X9_isSign : am_S false yX9_isSign (am_ws yX9_isSign cX9_isSign 4 (some .boolean)) mX9_isSign kX9_isSign) {mX9_joins : Room} {kX9_joins : am_T} (h_X9_joins : am_S false yX9_joins (am_ws yX9_joins cX9_joins 5 none) mX9_joins kX9_joins) {mX9_letter : Room} {kX9_letter : am_T} (h_X9_letter : am_S false yX9_letter (am_ws yX9_letter cX9_letter 2 (some .int)) mX9_letter kX9_letter) {mX9_meets : Room} {kX9_meets : am_T} (h_X9_meets : am_S false yX9_meets (am_ws yX9_meets cX9_meets 8 none) mX9_meets kX9_meets) {rm : Room} (hz : rm.cells = 0 ∧ rm.slots = 0) (R_X9_isSign : mX9_isSign.frames + 1 ≤ rm.frames ∧ 8 + (4 + 11) + mX9_isSign.locals ≤ rm.locals) (R_X9_joins : mX9_joins.frames + 1 ≤ rm.frames ∧ 8 + (5 + 11) + mX9_joins.locals ≤ rm.locals) (R_X9_letter : mX9_letter.frames + 1 ≤ rm.frames ∧ 8 + (2 + 11) + mX9_letter.locals ≤ rm.locals) (R_X9_meets : mX9_meets.frames + 1 ≤ rm.frames ∧ 8 + (8 + 11) + mX9_meets.locals ≤ rm.locals) : am_S false yX9_hidden (am_ws yX9_hidden cX9_hidden 8 none) rm (WP_X9_hidden kX9_isSign kX9_joins kX9_letter kX9_meets) := by
  refine am_S.of (fun _ => hz) (by decide +kernel) (fun h0 Q G => cl_X9_hidden kX9_isSign kX9_joins kX9_letter kX9_meets Q G) ?_
  intro p l e s m args below meth c D h0 Q X hr hnm hQ
  refine ⟨?_, ?_, ?_, ?_, ?_, ?_, ?_, ?_, ?_⟩
  · unfold B_X9_hidden_0
    refine as_iload_n X (by decide +kernel : decode cX9_hidden 0 = .ok (.iload_n 2, 1)) rfl ?_
    refine as_iload_n X (by decide +kernel : decode cX9_hidden 1 = .ok (.iload_n 1, 1)) rfl ?_
    refine as_isub X (by decide +kernel : decode cX9_hidden 2 = .ok (.isub, 1)) ?_
    refine as_iconst X (by decide +kernel : decode cX9_hidden 3 = .ok (.iconst 3, 1)) rfl ?_
    refine as_ic_lt X (tgt := 17) (by decide +kernel : decode cX9_hidden 4 = .ok (.if_icmp .lt 13, 3)) (by decide) ?_ ?_
    · exact fun _ _ _ h => h
    · refine as_aload_n X (by decide +kernel : decode cX9_hidden 7 = .ok (.aload_n 0, 1)) rfl ?_
      refine as_iload_n X (by decide +kernel : decode cX9_hidden 8 = .ok (.iload_n 1, 1)) rfl ?_
      refine as_bipush X (by decide +kernel : decode cX9_hidden 9 = .ok (.bipush 6, 2)) rfl ?_
      refine as_cv X h_X9_isSign rfl (by decide +kernel : decode cX9_hidden 11 = .ok (.invokevirtual 155, 3)) dn_X9_isSign ml_X9_155 im_X9_isSign se_X9_isSign ini_X9 co_X9_isSign R_X9_isSign ?_
      refine as_if_ne X (tgt := 18) (by decide +kernel : decode cX9_hidden 14 = .ok (.ifCond .ne 4, 3)) (by decide) ?_ ?_
      · exact fun _ _ _ h => h
      · refine as_aload_n X (by decide +kernel : decode cX9_hidden 18 = .ok (.aload_n 0, 1)) rfl ?_
        refine as_iload_n X (by decide +kernel : decode cX9_hidden 19 = .ok (.iload_n 1, 1)) rfl ?_
        refine as_iconst X (by decide +kernel : decode cX9_hidden 20 = .ok (.iconst 1, 1)) rfl ?_
        refine as_iadd X (by decide +kernel : decode cX9_hidden 21 = .ok (.iadd, 1)) ?_
        refine as_iload_n X (by decide +kernel : decode cX9_hidden 22 = .ok (.iload_n 2, 1)) rfl ?_
        refine as_cv X h_X9_joins rfl (by decide +kernel : decode cX9_hidden 23 = .ok (.invokevirtual 212, 3)) dn_X9_joins ml_X9_212 im_X9_joins se_X9_joins ini_X9 co_X9_joins R_X9_joins ?_
        refine as_aload_n X (by decide +kernel : decode cX9_hidden 26 = .ok (.aload_n 0, 1)) rfl ?_
        refine as_get X fc_X9 (by decide +kernel : decode cX9_hidden 27 = .ok (.getfield 31, 3)) (by decide) fl_X9_31 ?_
        refine as_bipush X (by decide +kernel : decode cX9_hidden 30 = .ok (.bipush 8, 2)) rfl ?_
        refine as_iload_n X (by decide +kernel : decode cX9_hidden 32 = .ok (.iload_n 2, 1)) rfl ?_
        refine as_iconst X (by decide +kernel : decode cX9_hidden 33 = .ok (.iconst 1, 1)) rfl ?_
        refine as_isub X (by decide +kernel : decode cX9_hidden 34 = .ok (.isub, 1)) ?_
        refine as_imul X (by decide +kernel : decode cX9_hidden 35 = .ok (.imul, 1)) ?_
        refine as_iaload X (by decide +kernel : decode cX9_hidden 36 = .ok (.iaload, 1)) ?_
        refine as_istore_n X (by decide +kernel : decode cX9_hidden 37 = .ok (.istore_n 3, 1)) rfl ?_
        refine as_iconst X (by decide +kernel : decode cX9_hidden 38 = .ok (.iconst 1, 1)) rfl ?_
        refine as_istore X (by decide +kernel : decode cX9_hidden 39 = .ok (.istore 4, 2)) ?_
        exact fun _ _ _ h => h
  · unfold B_X9_hidden_17
    exact as_rv X hQ hr (by decide +kernel : decode cX9_hidden 17 = .ok (.return_, 1))
  · unfold B_X9_hidden_41
    refine as_iload X (by decide +kernel : decode cX9_hidden 41 = .ok (.iload 4, 2)) ?_
    refine as_aload_n X (by decide +kernel : decode cX9_hidden 43 = .ok (.aload_n 0, 1)) rfl ?_
    refine as_get X fc_X9 (by decide +kernel : decode cX9_hidden 44 = .ok (.getfield 31, 3)) (by decide) fl_X9_31 ?_
    refine as_bipush X (by decide +kernel : decode cX9_hidden 47 = .ok (.bipush 8, 2)) rfl ?_
    refine as_iload_n X (by decide +kernel : decode cX9_hidden 49 = .ok (.iload_n 1, 1)) rfl ?_
    refine as_iconst X (by decide +kernel : decode cX9_hidden 50 = .ok (.iconst 1, 1)) rfl ?_
    refine as_iadd X (by decide +kernel : decode cX9_hidden 51 = .ok (.iadd, 1)) ?_
    refine as_imul X (by decide +kernel : decode cX9_hidden 52 = .ok (.imul, 1)) ?_
    refine as_iaload X (by decide +kernel : decode cX9_hidden 53 = .ok (.iaload, 1)) ?_
    refine as_ic_ge X (tgt := 175) (by decide +kernel : decode cX9_hidden 54 = .ok (.if_icmp .ge 121, 3)) (by decide) ?_ ?_
    · exact as_rv X hQ hr (by decide +kernel : decode cX9_hidden 175 = .ok (.return_, 1))
    · refine as_iload X (by decide +kernel : decode cX9_hidden 57 = .ok (.iload 4, 2)) ?_
      refine as_aload_n X (by decide +kernel : decode cX9_hidden 59 = .ok (.aload_n 0, 1)) rfl ?_
      refine as_get X fc_X9 (by decide +kernel : decode cX9_hidden 60 = .ok (.getfield 158, 3)) (by decide) fl_X9_158 ?_
      refine as_iadd X (by decide +kernel : decode cX9_hidden 63 = .ok (.iadd, 1)) ?_
      refine as_iconst X (by decide +kernel : decode cX9_hidden 64 = .ok (.iconst 1, 1)) rfl ?_
      refine as_isub X (by decide +kernel : decode cX9_hidden 65 = .ok (.isub, 1)) ?_
      refine as_istore X (by decide +kernel : decode cX9_hidden 66 = .ok (.istore 5, 2)) ?_
      refine as_iload X (by decide +kernel : decode cX9_hidden 68 = .ok (.iload 5, 2)) ?_
      refine as_aload_n X (by decide +kernel : decode cX9_hidden 70 = .ok (.aload_n 0, 1)) rfl ?_
      refine as_get X fc_X9 (by decide +kernel : decode cX9_hidden 71 = .ok (.getfield 200, 3)) (by decide) fl_X9_200 ?_
      refine as_iload_n X (by decide +kernel : decode cX9_hidden 74 = .ok (.iload_n 3, 1)) rfl ?_
      refine as_isub X (by decide +kernel : decode cX9_hidden 75 = .ok (.isub, 1)) ?_
      refine as_ic_lt X (tgt := 94) (by decide +kernel : decode cX9_hidden 76 = .ok (.if_icmp .lt 18, 3)) (by decide) ?_ ?_
      · exact fun _ _ _ h => h
      · refine as_iload X (by decide +kernel : decode cX9_hidden 79 = .ok (.iload 5, 2)) ?_
        refine as_aload_n X (by decide +kernel : decode cX9_hidden 81 = .ok (.aload_n 0, 1)) rfl ?_
        refine as_get X fc_X9 (by decide +kernel : decode cX9_hidden 82 = .ok (.getfield 200, 3)) (by decide) fl_X9_200 ?_
        refine as_iconst X (by decide +kernel : decode cX9_hidden 85 = .ok (.iconst 1, 1)) rfl ?_
        refine as_isub X (by decide +kernel : decode cX9_hidden 86 = .ok (.isub, 1)) ?_
        refine as_ic_ge X (tgt := 94) (by decide +kernel : decode cX9_hidden 87 = .ok (.if_icmp .ge 7, 3)) (by decide) ?_ ?_
        · exact fun _ _ _ h => h
        · refine as_iconst X (by decide +kernel : decode cX9_hidden 90 = .ok (.iconst 1, 1)) rfl ?_
          refine as_goto X (tgt := 95) (by decide +kernel : decode cX9_hidden 91 = .ok (.goto 4, 3)) (by decide) ?_
          exact fun _ _ _ h => h
  · unfold B_X9_hidden_94
    refine as_iconst X (by decide +kernel : decode cX9_hidden 94 = .ok (.iconst 0, 1)) rfl ?_
    exact fun _ _ _ h => h
  · unfold B_X9_hidden_95
    refine as_istore X (by decide +kernel : decode cX9_hidden 95 = .ok (.istore 6, 2)) ?_
    refine as_iconst X (by decide +kernel : decode cX9_hidden 97 = .ok (.iconst 0, 1)) rfl ?_
    refine as_istore X (by decide +kernel : decode cX9_hidden 98 = .ok (.istore 7, 2)) ?_
    exact fun _ _ _ h => h
  · unfold B_X9_hidden_100
    refine as_iload X (by decide +kernel : decode cX9_hidden 100 = .ok (.iload 7, 2)) ?_
    refine as_aload_n X (by decide +kernel : decode cX9_hidden 102 = .ok (.aload_n 0, 1)) rfl ?_
    refine as_get X fc_X9 (by decide +kernel : decode cX9_hidden 103 = .ok (.getfield 158, 3)) (by decide) fl_X9_158 ?_
    refine as_ic_ge X (tgt := 146) (by decide +kernel : decode cX9_hidden 106 = .ok (.if_icmp .ge 40, 3)) (by decide) ?_ ?_
    · exact fun _ _ _ h => h
    · refine as_iload X (by decide +kernel : decode cX9_hidden 109 = .ok (.iload 6, 2)) ?_
      refine as_if_eq X (tgt := 146) (by decide +kernel : decode cX9_hidden 111 = .ok (.ifCond .eq 35, 3)) (by decide) ?_ ?_
      · exact fun _ _ _ h => h
      · refine as_aload_n X (by decide +kernel : decode cX9_hidden 114 = .ok (.aload_n 0, 1)) rfl ?_
        refine as_get X fc_X9 (by decide +kernel : decode cX9_hidden 115 = .ok (.getfield 54, 3)) (by decide) fl_X9_54 ?_
        refine as_iload X (by decide +kernel : decode cX9_hidden 118 = .ok (.iload 4, 2)) ?_
        refine as_iload X (by decide +kernel : decode cX9_hidden 120 = .ok (.iload 7, 2)) ?_
        refine as_iadd X (by decide +kernel : decode cX9_hidden 122 = .ok (.iadd, 1)) ?_
        refine as_iaload X (by decide +kernel : decode cX9_hidden 123 = .ok (.iaload, 1)) ?_
        refine as_aload_n X (by decide +kernel : decode cX9_hidden 124 = .ok (.aload_n 0, 1)) rfl ?_
        refine as_iload X (by decide +kernel : decode cX9_hidden 125 = .ok (.iload 7, 2)) ?_
        refine as_cv X h_X9_letter rfl (by decide +kernel : decode cX9_hidden 127 = .ok (.invokevirtual 189, 3)) dn_X9_letter ml_X9_189 im_X9_letter se_X9_letter ini_X9 co_X9_letter R_X9_letter ?_
        refine as_ic_ne X (tgt := 137) (by decide +kernel : decode cX9_hidden 130 = .ok (.if_icmp .ne 7, 3)) (by decide) ?_ ?_
        · refine as_iconst X (by decide +kernel : decode cX9_hidden 133 = .ok (.iconst 1, 1)) rfl ?_
          refine as_goto X (tgt := 138) (by decide +kernel : decode cX9_hidden 134 = .ok (.goto 4, 3)) (by decide) ?_
          exact fun _ _ _ h => h
        · refine as_iconst X (by decide +kernel : decode cX9_hidden 137 = .ok (.iconst 0, 1)) rfl ?_
          exact fun _ _ _ h => h
  · unfold B_X9_hidden_138
    refine as_istore X (by decide +kernel : decode cX9_hidden 138 = .ok (.istore 6, 2)) ?_
    refine as_iinc X (by decide +kernel : decode cX9_hidden 140 = .ok (.iinc 7 1, 3)) rfl ?_
    refine as_goto X (tgt := 100) (by decide +kernel : decode cX9_hidden 143 = .ok (.goto (-43), 3)) (by decide) ?_
    exact fun _ _ _ h => h
  · unfold B_X9_hidden_146
    refine as_iload X (by decide +kernel : decode cX9_hidden 146 = .ok (.iload 6, 2)) ?_
    refine as_if_eq X (tgt := 169) (by decide +kernel : decode cX9_hidden 148 = .ok (.ifCond .eq 21, 3)) (by decide) ?_ ?_
    · exact fun _ _ _ h => h
    · refine as_aload_n X (by decide +kernel : decode cX9_hidden 151 = .ok (.aload_n 0, 1)) rfl ?_
      refine as_lconst X (by decide +kernel : decode cX9_hidden 152 = .ok (.lconst 1, 1)) rfl ?_
      refine as_aload_n X (by decide +kernel : decode cX9_hidden 153 = .ok (.aload_n 0, 1)) rfl ?_
      refine as_get X fc_X9 (by decide +kernel : decode cX9_hidden 154 = .ok (.getfield 40, 3)) (by decide) fl_X9_40 ?_
      refine as_bipush X (by decide +kernel : decode cX9_hidden 157 = .ok (.bipush 6, 2)) rfl ?_
      refine as_iaload X (by decide +kernel : decode cX9_hidden 159 = .ok (.iaload, 1)) ?_
      refine as_bipush X (by decide +kernel : decode cX9_hidden 160 = .ok (.bipush 6, 2)) rfl ?_
      refine as_iload X (by decide +kernel : decode cX9_hidden 162 = .ok (.iload 4, 2)) ?_
      refine as_iconst X (by decide +kernel : decode cX9_hidden 164 = .ok (.iconst 0, 1)) rfl ?_
      refine as_iconst X (by decide +kernel : decode cX9_hidden 165 = .ok (.iconst 0, 1)) rfl ?_
      refine as_cv X h_X9_meets rfl (by decide +kernel : decode cX9_hidden 166 = .ok (.invokevirtual 196, 3)) dn_X9_meets ml_X9_196 im_X9_meets se_X9_meets ini_X9 co_X9_meets R_X9_meets ?_
      exact fun _ _ _ h => h
  · unfold B_X9_hidden_169
    refine as_iinc X (by decide +kernel : decode cX9_hidden 169 = .ok (.iinc 4 1, 3)) rfl ?_
    refine as_goto X (tgt := 41) (by decide +kernel : decode cX9_hidden 172 = .ok (.goto (-131), 3)) (by decide) ?_
    exact fun _ _ _ h => h

def B_X9_cuts_0 (kX9_isSign : am_T) (kX9_spells : am_T) (kX9_meets : am_T) (kX9_isOf : am_T) (Q : am_Q) (G : Nat → am_K) : am_K := (ak_il 2 (ak_il 1 (ak_ib (fun x y => x - y) (ak_c (.int 2) (ak_ic (fun x y => x = y) (ak_al 0 (ak_il 1 (ak_il 3 (ak_cv 3 7 kX9_isSign (ak_if (fun x => x = 0) (G 16) (ak_il 3 (ak_c (.int 7) (ak_ic (fun x y => x = y) (ak_c (.int 1) (G 28)) (ak_c (.int 0) (G 28)))))))))) (G 16))))))
def B_X9_cuts_16 (kX9_isSign : am_T) (kX9_spells : am_T) (kX9_meets : am_T) (kX9_isOf : am_T) (Q : am_Q) (G : Nat → am_K) : am_K := (ak_rv Q)
def B_X9_cuts_28 (kX9_isSign : am_T) (kX9_spells : am_T) (kX9_meets : am_T) (kX9_isOf : am_T) (Q : am_Q) (G : Nat → am_K) : am_K := (ak_is 4 (ak_al 0 (ak_al 0 (ak_get 7 11 (ak_c (.int 8) (ak_il 1 (ak_c (.int 1) (ak_ib (fun x y => x + y) (ak_ib (fun x y => x * y) (ak_il 4 (ak_al 0 (ak_get 7 11 (ak_c (.int 8) (ak_il 1 (ak_c (.int 1) (ak_ib (fun x y => x + y) (ak_ib (fun x y => x * y) (ak_iald (ak_c (.int 1) (ak_ib (fun x y => x - y) (ak_cv 5 7 kX9_spells (ak_if (fun x => x = 0) (G 84) (ak_al 0 (ak_c (.long 1) (ak_al 0 (ak_get 7 14 (ak_il 3 (ak_iald (ak_al 0 (ak_get 7 14 (ak_c (.int 1) (ak_iald (ak_ib (fun x y => x + y) (ak_il 3 (ak_c (.int (-1)) (ak_c (.int 0) (ak_c (.int 0) (ak_cv 7 7 kX9_meets (G 84)))))))))))))))))))))))))))))))))))))))
def B_X9_cuts_84 (kX9_isSign : am_T) (kX9_spells : am_T) (kX9_meets : am_T) (kX9_isOf : am_T) (Q : am_Q) (G : Nat → am_K) : am_K := (ak_c (.int 0) (ak_is 5 (G 87)))
def B_X9_cuts_87 (kX9_isSign : am_T) (kX9_spells : am_T) (kX9_meets : am_T) (kX9_isOf : am_T) (Q : am_Q) (G : Nat → am_K) : am_K := (ak_il 5 (ak_al 0 (ak_get 7 2 (ak_ic (fun x y => y ≤ x) (ak_rv Q) (ak_al 0 (ak_get 7 5 (ak_il 5 (ak_iald (ak_if (fun x => x = 0) (ak_al 0 (ak_il 5 (ak_il 1 (ak_c (.int 1) (ak_ib (fun x y => x + y) (ak_cv 3 7 kX9_isOf (ak_if (fun x => x = 0) (G 171) (ak_al 0 (ak_al 0 (ak_get 7 4 (ak_c (.int 9) (ak_il 5 (ak_ib (fun x y => x * y) (ak_il 4 (ak_al 0 (ak_get 7 4 (ak_c (.int 9) (ak_il 5 (ak_ib (fun x y => x * y) (ak_iald (ak_c (.int 1) (ak_ib (fun x y => x - y) (ak_cv 5 7 kX9_spells (ak_if (fun x => x = 0) (G 171) (ak_al 0 (ak_c (.long 1) (ak_al 0 (ak_get 7 14 (ak_il 3 (ak_iald (ak_al 0 (ak_get 7 14 (ak_c (.int 0) (ak_iald (ak_ib (fun x y => x + y) (ak_il 3 (G 164))))))))))))))))))))))))))))))))))))) (G 171))))))))))
def B_X9_cuts_164 (kX9_isSign : am_T) (kX9_spells : am_T) (kX9_meets : am_T) (kX9_isOf : am_T) (Q : am_Q) (G : Nat → am_K) : am_K := (ak_il 5 (ak_c (.int 0) (ak_c (.int 0) (ak_cv 7 7 kX9_meets (G 171)))))
def B_X9_cuts_171 (kX9_isSign : am_T) (kX9_spells : am_T) (kX9_meets : am_T) (kX9_isOf : am_T) (Q : am_Q) (G : Nat → am_K) : am_K := (ak_ii 5 1 (G 87))
def cl_X9_cuts (kX9_isSign : am_T) (kX9_spells : am_T) (kX9_meets : am_T) (kX9_isOf : am_T) (Q : am_Q) (G : Nat → am_K) : Prop := am_N G 0 (B_X9_cuts_0 kX9_isSign kX9_spells kX9_meets kX9_isOf Q G) ∧ am_N G 16 (B_X9_cuts_16 kX9_isSign kX9_spells kX9_meets kX9_isOf Q G) ∧ am_N G 28 (B_X9_cuts_28 kX9_isSign kX9_spells kX9_meets kX9_isOf Q G) ∧ am_N G 84 (B_X9_cuts_84 kX9_isSign kX9_spells kX9_meets kX9_isOf Q G) ∧ am_N G 87 (B_X9_cuts_87 kX9_isSign kX9_spells kX9_meets kX9_isOf Q G) ∧ am_N G 164 (B_X9_cuts_164 kX9_isSign kX9_spells kX9_meets kX9_isOf Q G) ∧ am_N G 171 (B_X9_cuts_171 kX9_isSign kX9_spells kX9_meets kX9_isOf Q G)
def WP_X9_cuts (kX9_isSign : am_T) (kX9_spells : am_T) (kX9_meets : am_T) (kX9_isOf : am_T) : am_T := fun av h Q => (lg_sl av).length ≤ 6 ∧ ∀ G, cl_X9_cuts kX9_isSign kX9_spells kX9_meets kX9_isOf Q G → G 0 (am_ent 6 av) [] h
set_option maxHeartbeats 4000000 in
set_option maxRecDepth 100000 in
theorem s_X9_cuts {mX9_isSign : Room} {kX9_isSign : am_T} (h_X9_isSign : am_S false yX9_isSign (am_ws yX9_isSign cX9_isSign 4 (some .boolean)) mX9_isSign kX9_isSign) {mX9_spells : Room} {kX9_spells : am_T} (h_X9_spells : am_S false yX9_spells (am_ws yX9_spells cX9_spells 7 (some .boolean)) mX9_spells kX9_spells) {mX9_meets : Room} {kX9_meets : am_T} (h_X9_meets : am_S false yX9_meets (am_ws yX9_meets cX9_meets 8 none) mX9_meets kX9_meets) {mX9_isOf : Room} {kX9_isOf : am_T} (h_X9_isOf : am_S false yX9_isOf (am_ws yX9_isOf cX9_isOf 3 (some .boolean)) mX9_isOf kX9_isOf) {rm : Room} (hz : rm.cells = 0 ∧ rm.slots = 0) (R_X9_isSign : mX9_isSign.frames + 1 ≤ rm.frames ∧ 8 + (4 + 11) + mX9_isSign.locals ≤ rm.locals) (R_X9_spells : mX9_spells.frames + 1 ≤ rm.frames ∧ 8 + (7 + 11) + mX9_spells.locals ≤ rm.locals) (R_X9_meets : mX9_meets.frames + 1 ≤ rm.frames ∧ 8 + (8 + 11) + mX9_meets.locals ≤ rm.locals) (R_X9_isOf : mX9_isOf.frames + 1 ≤ rm.frames ∧ 8 + (3 + 11) + mX9_isOf.locals ≤ rm.locals) : am_S false yX9_cuts (am_ws yX9_cuts cX9_cuts 6 none) rm (WP_X9_cuts kX9_isSign kX9_spells kX9_meets kX9_isOf) := by
  refine am_S.of (fun _ => hz) (by decide +kernel) (fun h0 Q G => cl_X9_cuts kX9_isSign kX9_spells kX9_meets kX9_isOf Q G) ?_
  intro p l e s m args below meth c D h0 Q X hr hnm hQ
  refine ⟨?_, ?_, ?_, ?_, ?_, ?_, ?_⟩
  · unfold B_X9_cuts_0
    refine as_iload_n X (by decide +kernel : decode cX9_cuts 0 = .ok (.iload_n 2, 1)) rfl ?_
    refine as_iload_n X (by decide +kernel : decode cX9_cuts 1 = .ok (.iload_n 1, 1)) rfl ?_
    refine as_isub X (by decide +kernel : decode cX9_cuts 2 = .ok (.isub, 1)) ?_
    refine as_iconst X (by decide +kernel : decode cX9_cuts 3 = .ok (.iconst 2, 1)) rfl ?_
    refine as_ic_ne X (tgt := 16) (by decide +kernel : decode cX9_cuts 4 = .ok (.if_icmp .ne 12, 3)) (by decide) ?_ ?_
    · refine as_aload_n X (by decide +kernel : decode cX9_cuts 7 = .ok (.aload_n 0, 1)) rfl ?_
      refine as_iload_n X (by decide +kernel : decode cX9_cuts 8 = .ok (.iload_n 1, 1)) rfl ?_
      refine as_iload_n X (by decide +kernel : decode cX9_cuts 9 = .ok (.iload_n 3, 1)) rfl ?_
      refine as_cv X h_X9_isSign rfl (by decide +kernel : decode cX9_cuts 10 = .ok (.invokevirtual 155, 3)) dn_X9_isSign ml_X9_155 im_X9_isSign se_X9_isSign ini_X9 co_X9_isSign R_X9_isSign ?_
      refine as_if_ne X (tgt := 17) (by decide +kernel : decode cX9_cuts 13 = .ok (.ifCond .ne 4, 3)) (by decide) ?_ ?_
      · exact fun _ _ _ h => h
      · refine as_iload_n X (by decide +kernel : decode cX9_cuts 17 = .ok (.iload_n 3, 1)) rfl ?_
        refine as_bipush X (by decide +kernel : decode cX9_cuts 18 = .ok (.bipush 7, 2)) rfl ?_
        refine as_ic_ne X (tgt := 27) (by decide +kernel : decode cX9_cuts 20 = .ok (.if_icmp .ne 7, 3)) (by decide) ?_ ?_
        · refine as_iconst X (by decide +kernel : decode cX9_cuts 23 = .ok (.iconst 1, 1)) rfl ?_
          refine as_goto X (tgt := 28) (by decide +kernel : decode cX9_cuts 24 = .ok (.goto 4, 3)) (by decide) ?_
          exact fun _ _ _ h => h
        · refine as_iconst X (by decide +kernel : decode cX9_cuts 27 = .ok (.iconst 0, 1)) rfl ?_
          exact fun _ _ _ h => h
    · exact fun _ _ _ h => h
  · unfold B_X9_cuts_16
    exact as_rv X hQ hr (by decide +kernel : decode cX9_cuts 16 = .ok (.return_, 1))
  · unfold B_X9_cuts_28
    refine as_istore X (by decide +kernel : decode cX9_cuts 28 = .ok (.istore 4, 2)) ?_
    refine as_aload_n X (by decide +kernel : decode cX9_cuts 30 = .ok (.aload_n 0, 1)) rfl ?_
    refine as_aload_n X (by decide +kernel : decode cX9_cuts 31 = .ok (.aload_n 0, 1)) rfl ?_
    refine as_get X fc_X9 (by decide +kernel : decode cX9_cuts 32 = .ok (.getfield 31, 3)) (by decide) fl_X9_31 ?_
    refine as_bipush X (by decide +kernel : decode cX9_cuts 35 = .ok (.bipush 8, 2)) rfl ?_
    refine as_iload_n X (by decide +kernel : decode cX9_cuts 37 = .ok (.iload_n 1, 1)) rfl ?_
    refine as_iconst X (by decide +kernel : decode cX9_cuts 38 = .ok (.iconst 1, 1)) rfl ?_
    refine as_iadd X (by decide +kernel : decode cX9_cuts 39 = .ok (.iadd, 1)) ?_
    refine as_imul X (by decide +kernel : decode cX9_cuts 40 = .ok (.imul, 1)) ?_
    refine as_iload X (by decide +kernel : decode cX9_cuts 41 = .ok (.iload 4, 2)) ?_
    refine as_aload_n X (by decide +kernel : decode cX9_cuts 43 = .ok (.aload_n 0, 1)) rfl ?_
    refine as_get X fc_X9 (by decide +kernel : decode cX9_cuts 44 = .ok (.getfield 31, 3)) (by decide) fl_X9_31 ?_
    refine as_bipush X (by decide +kernel : decode cX9_cuts 47 = .ok (.bipush 8, 2)) rfl ?_
    refine as_iload_n X (by decide +kernel : decode cX9_cuts 49 = .ok (.iload_n 1, 1)) rfl ?_
    refine as_iconst X (by decide +kernel : decode cX9_cuts 50 = .ok (.iconst 1, 1)) rfl ?_
    refine as_iadd X (by decide +kernel : decode cX9_cuts 51 = .ok (.iadd, 1)) ?_
    refine as_imul X (by decide +kernel : decode cX9_cuts 52 = .ok (.imul, 1)) ?_
    refine as_iaload X (by decide +kernel : decode cX9_cuts 53 = .ok (.iaload, 1)) ?_
    refine as_iconst X (by decide +kernel : decode cX9_cuts 54 = .ok (.iconst 1, 1)) rfl ?_
    refine as_isub X (by decide +kernel : decode cX9_cuts 55 = .ok (.isub, 1)) ?_
    refine as_cv X h_X9_spells rfl (by decide +kernel : decode cX9_cuts 56 = .ok (.invokevirtual 192, 3)) dn_X9_spells ml_X9_192 im_X9_spells se_X9_spells ini_X9 co_X9_spells R_X9_spells ?_
    refine as_if_eq X (tgt := 84) (by decide +kernel : decode cX9_cuts 59 = .ok (.ifCond .eq 25, 3)) (by decide) ?_ ?_
    · exact fun _ _ _ h => h
    · refine as_aload_n X (by decide +kernel : decode cX9_cuts 62 = .ok (.aload_n 0, 1)) rfl ?_
      refine as_lconst X (by decide +kernel : decode cX9_cuts 63 = .ok (.lconst 1, 1)) rfl ?_
      refine as_aload_n X (by decide +kernel : decode cX9_cuts 64 = .ok (.aload_n 0, 1)) rfl ?_
      refine as_get X fc_X9 (by decide +kernel : decode cX9_cuts 65 = .ok (.getfield 40, 3)) (by decide) fl_X9_40 ?_
      refine as_iload_n X (by decide +kernel : decode cX9_cuts 68 = .ok (.iload_n 3, 1)) rfl ?_
      refine as_iaload X (by decide +kernel : decode cX9_cuts 69 = .ok (.iaload, 1)) ?_
      refine as_aload_n X (by decide +kernel : decode cX9_cuts 70 = .ok (.aload_n 0, 1)) rfl ?_
      refine as_get X fc_X9 (by decide +kernel : decode cX9_cuts 71 = .ok (.getfield 40, 3)) (by decide) fl_X9_40 ?_
      refine as_iconst X (by decide +kernel : decode cX9_cuts 74 = .ok (.iconst 1, 1)) rfl ?_
      refine as_iaload X (by decide +kernel : decode cX9_cuts 75 = .ok (.iaload, 1)) ?_
      refine as_iadd X (by decide +kernel : decode cX9_cuts 76 = .ok (.iadd, 1)) ?_
      refine as_iload_n X (by decide +kernel : decode cX9_cuts 77 = .ok (.iload_n 3, 1)) rfl ?_
      refine as_iconst X (by decide +kernel : decode cX9_cuts 78 = .ok (.iconst (-1), 1)) rfl ?_
      refine as_iconst X (by decide +kernel : decode cX9_cuts 79 = .ok (.iconst 0, 1)) rfl ?_
      refine as_iconst X (by decide +kernel : decode cX9_cuts 80 = .ok (.iconst 0, 1)) rfl ?_
      refine as_cv X h_X9_meets rfl (by decide +kernel : decode cX9_cuts 81 = .ok (.invokevirtual 196, 3)) dn_X9_meets ml_X9_196 im_X9_meets se_X9_meets ini_X9 co_X9_meets R_X9_meets ?_
      exact fun _ _ _ h => h
  · unfold B_X9_cuts_84
    refine as_iconst X (by decide +kernel : decode cX9_cuts 84 = .ok (.iconst 0, 1)) rfl ?_
    refine as_istore X (by decide +kernel : decode cX9_cuts 85 = .ok (.istore 5, 2)) ?_
    exact fun _ _ _ h => h
  · unfold B_X9_cuts_87
    refine as_iload X (by decide +kernel : decode cX9_cuts 87 = .ok (.iload 5, 2)) ?_
    refine as_aload_n X (by decide +kernel : decode cX9_cuts 89 = .ok (.aload_n 0, 1)) rfl ?_
    refine as_get X fc_X9 (by decide +kernel : decode cX9_cuts 90 = .ok (.getfield 116, 3)) (by decide) fl_X9_116 ?_
    refine as_ic_ge X (tgt := 177) (by decide +kernel : decode cX9_cuts 93 = .ok (.if_icmp .ge 84, 3)) (by decide) ?_ ?_
    · exact as_rv X hQ hr (by decide +kernel : decode cX9_cuts 177 = .ok (.return_, 1))
    · refine as_aload_n X (by decide +kernel : decode cX9_cuts 96 = .ok (.aload_n 0, 1)) rfl ?_
      refine as_get X fc_X9 (by decide +kernel : decode cX9_cuts 97 = .ok (.getfield 19, 3)) (by decide) fl_X9_19 ?_
      refine as_iload X (by decide +kernel : decode cX9_cuts 100 = .ok (.iload 5, 2)) ?_
      refine as_iaload X (by decide +kernel : decode cX9_cuts 102 = .ok (.iaload, 1)) ?_
      refine as_if_ne X (tgt := 171) (by decide +kernel : decode cX9_cuts 103 = .ok (.ifCond .ne 68, 3)) (by decide) ?_ ?_
      · refine as_aload_n X (by decide +kernel : decode cX9_cuts 106 = .ok (.aload_n 0, 1)) rfl ?_
        refine as_iload X (by decide +kernel : decode cX9_cuts 107 = .ok (.iload 5, 2)) ?_
        refine as_iload_n X (by decide +kernel : decode cX9_cuts 109 = .ok (.iload_n 1, 1)) rfl ?_
        refine as_iconst X (by decide +kernel : decode cX9_cuts 110 = .ok (.iconst 1, 1)) rfl ?_
        refine as_iadd X (by decide +kernel : decode cX9_cuts 111 = .ok (.iadd, 1)) ?_
        refine as_cv X h_X9_isOf rfl (by decide +kernel : decode cX9_cuts 112 = .ok (.invokevirtual 151, 3)) dn_X9_isOf ml_X9_151 im_X9_isOf se_X9_isOf ini_X9 co_X9_isOf R_X9_isOf ?_
        refine as_if_eq X (tgt := 171) (by decide +kernel : decode cX9_cuts 115 = .ok (.ifCond .eq 56, 3)) (by decide) ?_ ?_
        · exact fun _ _ _ h => h
        · refine as_aload_n X (by decide +kernel : decode cX9_cuts 118 = .ok (.aload_n 0, 1)) rfl ?_
          refine as_aload_n X (by decide +kernel : decode cX9_cuts 119 = .ok (.aload_n 0, 1)) rfl ?_
          refine as_get X fc_X9 (by decide +kernel : decode cX9_cuts 120 = .ok (.getfield 16, 3)) (by decide) fl_X9_16 ?_
          refine as_bipush X (by decide +kernel : decode cX9_cuts 123 = .ok (.bipush 9, 2)) rfl ?_
          refine as_iload X (by decide +kernel : decode cX9_cuts 125 = .ok (.iload 5, 2)) ?_
          refine as_imul X (by decide +kernel : decode cX9_cuts 127 = .ok (.imul, 1)) ?_
          refine as_iload X (by decide +kernel : decode cX9_cuts 128 = .ok (.iload 4, 2)) ?_
          refine as_aload_n X (by decide +kernel : decode cX9_cuts 130 = .ok (.aload_n 0, 1)) rfl ?_
          refine as_get X fc_X9 (by decide +kernel : decode cX9_cuts 131 = .ok (.getfield 16, 3)) (by decide) fl_X9_16 ?_
          refine as_bipush X (by decide +kernel : decode cX9_cuts 134 = .ok (.bipush 9, 2)) rfl ?_
          refine as_iload X (by decide +kernel : decode cX9_cuts 136 = .ok (.iload 5, 2)) ?_
          refine as_imul X (by decide +kernel : decode cX9_cuts 138 = .ok (.imul, 1)) ?_
          refine as_iaload X (by decide +kernel : decode cX9_cuts 139 = .ok (.iaload, 1)) ?_
          refine as_iconst X (by decide +kernel : decode cX9_cuts 140 = .ok (.iconst 1, 1)) rfl ?_
          refine as_isub X (by decide +kernel : decode cX9_cuts 141 = .ok (.isub, 1)) ?_
          refine as_cv X h_X9_spells rfl (by decide +kernel : decode cX9_cuts 142 = .ok (.invokevirtual 192, 3)) dn_X9_spells ml_X9_192 im_X9_spells se_X9_spells ini_X9 co_X9_spells R_X9_spells ?_
          refine as_if_eq X (tgt := 171) (by decide +kernel : decode cX9_cuts 145 = .ok (.ifCond .eq 26, 3)) (by decide) ?_ ?_
          · exact fun _ _ _ h => h
          · refine as_aload_n X (by decide +kernel : decode cX9_cuts 148 = .ok (.aload_n 0, 1)) rfl ?_
            refine as_lconst X (by decide +kernel : decode cX9_cuts 149 = .ok (.lconst 1, 1)) rfl ?_
            refine as_aload_n X (by decide +kernel : decode cX9_cuts 150 = .ok (.aload_n 0, 1)) rfl ?_
            refine as_get X fc_X9 (by decide +kernel : decode cX9_cuts 151 = .ok (.getfield 40, 3)) (by decide) fl_X9_40 ?_
            refine as_iload_n X (by decide +kernel : decode cX9_cuts 154 = .ok (.iload_n 3, 1)) rfl ?_
            refine as_iaload X (by decide +kernel : decode cX9_cuts 155 = .ok (.iaload, 1)) ?_
            refine as_aload_n X (by decide +kernel : decode cX9_cuts 156 = .ok (.aload_n 0, 1)) rfl ?_
            refine as_get X fc_X9 (by decide +kernel : decode cX9_cuts 157 = .ok (.getfield 40, 3)) (by decide) fl_X9_40 ?_
            refine as_iconst X (by decide +kernel : decode cX9_cuts 160 = .ok (.iconst 0, 1)) rfl ?_
            refine as_iaload X (by decide +kernel : decode cX9_cuts 161 = .ok (.iaload, 1)) ?_
            refine as_iadd X (by decide +kernel : decode cX9_cuts 162 = .ok (.iadd, 1)) ?_
            refine as_iload_n X (by decide +kernel : decode cX9_cuts 163 = .ok (.iload_n 3, 1)) rfl ?_
            exact fun _ _ _ h => h
      · exact fun _ _ _ h => h
  · unfold B_X9_cuts_164
    refine as_iload X (by decide +kernel : decode cX9_cuts 164 = .ok (.iload 5, 2)) ?_
    refine as_iconst X (by decide +kernel : decode cX9_cuts 166 = .ok (.iconst 0, 1)) rfl ?_
    refine as_iconst X (by decide +kernel : decode cX9_cuts 167 = .ok (.iconst 0, 1)) rfl ?_
    refine as_cv X h_X9_meets rfl (by decide +kernel : decode cX9_cuts 168 = .ok (.invokevirtual 196, 3)) dn_X9_meets ml_X9_196 im_X9_meets se_X9_meets ini_X9 co_X9_meets R_X9_meets ?_
    exact fun _ _ _ h => h
  · unfold B_X9_cuts_171
    refine as_iinc X (by decide +kernel : decode cX9_cuts 171 = .ok (.iinc 5 1, 3)) rfl ?_
    refine as_goto X (tgt := 87) (by decide +kernel : decode cX9_cuts 174 = .ok (.goto (-87), 3)) (by decide) ?_
    exact fun _ _ _ h => h

def B_X9_firsts_0 (kX9_isSign : am_T) (kX9_letter : am_T) (kX9_meets : am_T) (Q : am_Q) (G : Nat → am_K) : am_K := (ak_al 0 (ak_il 1 (ak_c (.int 9) (ak_cv 3 7 kX9_isSign (ak_if (fun x => x = 0) (G 26) (ak_il 2 (ak_il 1 (ak_ib (fun x y => x - y) (ak_c (.int 1) (ak_ib (fun x y => x - y) (ak_al 0 (ak_get 7 25 (ak_ic (fun x y => x = y) (ak_c (.int 1) (G 27)) (G 26))))))))))))))
def B_X9_firsts_26 (kX9_isSign : am_T) (kX9_letter : am_T) (kX9_meets : am_T) (Q : am_Q) (G : Nat → am_K) : am_K := (ak_c (.int 0) (G 27))
def B_X9_firsts_27 (kX9_isSign : am_T) (kX9_letter : am_T) (kX9_meets : am_T) (Q : am_Q) (G : Nat → am_K) : am_K := (ak_is 3 (ak_c (.int 0) (ak_is 4 (G 31))))
def B_X9_firsts_31 (kX9_isSign : am_T) (kX9_letter : am_T) (kX9_meets : am_T) (Q : am_Q) (G : Nat → am_K) : am_K := (ak_il 4 (ak_al 0 (ak_get 7 25 (ak_ic (fun x y => y ≤ x) (G 81) (ak_il 3 (ak_if (fun x => x = 0) (G 81) (ak_al 0 (ak_get 7 11 (ak_c (.int 8) (ak_il 1 (ak_c (.int 1) (ak_ib (fun x y => x + y) (ak_il 4 (ak_ib (fun x y => x + y) (ak_ib (fun x y => x * y) (ak_c (.int 1) (ak_ib (fun x y => x + y) (ak_iald (ak_al 0 (ak_il 4 (ak_cv 2 7 kX9_letter (ak_ic (fun x y => x = y) (ak_c (.int 1) (G 74)) (ak_c (.int 0) (G 74))))))))))))))))))))))))
def B_X9_firsts_74 (kX9_isSign : am_T) (kX9_letter : am_T) (kX9_meets : am_T) (Q : am_Q) (G : Nat → am_K) : am_K := (ak_is 3 (ak_ii 4 1 (G 31)))
def B_X9_firsts_81 (kX9_isSign : am_T) (kX9_letter : am_T) (kX9_meets : am_T) (Q : am_Q) (G : Nat → am_K) : am_K := (ak_il 3 (ak_if (fun x => x = 0) (G 102) (ak_al 0 (ak_c (.long 1) (ak_al 0 (ak_get 7 14 (ak_c (.int 9) (ak_iald (ak_c (.int 9) (ak_c (.int 0) (ak_c (.int 0) (ak_c (.int 0) (ak_cv 7 7 kX9_meets (G 102))))))))))))))
def B_X9_firsts_102 (kX9_isSign : am_T) (kX9_letter : am_T) (kX9_meets : am_T) (Q : am_Q) (G : Nat → am_K) : am_K := (ak_rv Q)
def cl_X9_firsts (kX9_isSign : am_T) (kX9_letter : am_T) (kX9_meets : am_T) (Q : am_Q) (G : Nat → am_K) : Prop := am_N G 0 (B_X9_firsts_0 kX9_isSign kX9_letter kX9_meets Q G) ∧ am_N G 26 (B_X9_firsts_26 kX9_isSign kX9_letter kX9_meets Q G) ∧ am_N G 27 (B_X9_firsts_27 kX9_isSign kX9_letter kX9_meets Q G) ∧ am_N G 31 (B_X9_firsts_31 kX9_isSign kX9_letter kX9_meets Q G) ∧ am_N G 74 (B_X9_firsts_74 kX9_isSign kX9_letter kX9_meets Q G) ∧ am_N G 81 (B_X9_firsts_81 kX9_isSign kX9_letter kX9_meets Q G) ∧ am_N G 102 (B_X9_firsts_102 kX9_isSign kX9_letter kX9_meets Q G)
def WP_X9_firsts (kX9_isSign : am_T) (kX9_letter : am_T) (kX9_meets : am_T) : am_T := fun av h Q => (lg_sl av).length ≤ 5 ∧ ∀ G, cl_X9_firsts kX9_isSign kX9_letter kX9_meets Q G → G 0 (am_ent 5 av) [] h
set_option maxHeartbeats 4000000 in
set_option maxRecDepth 100000 in
theorem s_X9_firsts {mX9_isSign : Room} {kX9_isSign : am_T} (h_X9_isSign : am_S false yX9_isSign (am_ws yX9_isSign cX9_isSign 4 (some .boolean)) mX9_isSign kX9_isSign) {mX9_letter : Room} {kX9_letter : am_T} (h_X9_letter : am_S false yX9_letter (am_ws yX9_letter cX9_letter 2 (some .int)) mX9_letter kX9_letter) {mX9_meets : Room} {kX9_meets : am_T} (h_X9_meets : am_S false yX9_meets (am_ws yX9_meets cX9_meets 8 none) mX9_meets kX9_meets) {rm : Room} (hz : rm.cells = 0 ∧ rm.slots = 0) (R_X9_isSign : mX9_isSign.frames + 1 ≤ rm.frames ∧ 8 + (4 + 11) + mX9_isSign.locals ≤ rm.locals) (R_X9_letter : mX9_letter.frames + 1 ≤ rm.frames ∧ 8 + (2 + 11) + mX9_letter.locals ≤ rm.locals) (R_X9_meets : mX9_meets.frames + 1 ≤ rm.frames ∧ 8 + (8 + 11) + mX9_meets.locals ≤ rm.locals) : am_S false yX9_firsts (am_ws yX9_firsts cX9_firsts 5 none) rm (WP_X9_firsts kX9_isSign kX9_letter kX9_meets) := by
  refine am_S.of (fun _ => hz) (by decide +kernel) (fun h0 Q G => cl_X9_firsts kX9_isSign kX9_letter kX9_meets Q G) ?_
  intro p l e s m args below meth c D h0 Q X hr hnm hQ
  refine ⟨?_, ?_, ?_, ?_, ?_, ?_, ?_⟩
  · unfold B_X9_firsts_0
    refine as_aload_n X (by decide +kernel : decode cX9_firsts 0 = .ok (.aload_n 0, 1)) rfl ?_
    refine as_iload_n X (by decide +kernel : decode cX9_firsts 1 = .ok (.iload_n 1, 1)) rfl ?_
    refine as_bipush X (by decide +kernel : decode cX9_firsts 2 = .ok (.bipush 9, 2)) rfl ?_
    refine as_cv X h_X9_isSign rfl (by decide +kernel : decode cX9_firsts 4 = .ok (.invokevirtual 155, 3)) dn_X9_isSign ml_X9_155 im_X9_isSign se_X9_isSign ini_X9 co_X9_isSign R_X9_isSign ?_
    refine as_if_eq X (tgt := 26) (by decide +kernel : decode cX9_firsts 7 = .ok (.ifCond .eq 19, 3)) (by decide) ?_ ?_
    · exact fun _ _ _ h => h
    · refine as_iload_n X (by decide +kernel : decode cX9_firsts 10 = .ok (.iload_n 2, 1)) rfl ?_
      refine as_iload_n X (by decide +kernel : decode cX9_firsts 11 = .ok (.iload_n 1, 1)) rfl ?_
      refine as_isub X (by decide +kernel : decode cX9_firsts 12 = .ok (.isub, 1)) ?_
      refine as_iconst X (by decide +kernel : decode cX9_firsts 13 = .ok (.iconst 1, 1)) rfl ?_
      refine as_isub X (by decide +kernel : decode cX9_firsts 14 = .ok (.isub, 1)) ?_
      refine as_aload_n X (by decide +kernel : decode cX9_firsts 15 = .ok (.aload_n 0, 1)) rfl ?_
      refine as_get X fc_X9 (by decide +kernel : decode cX9_firsts 16 = .ok (.getfield 158, 3)) (by decide) fl_X9_158 ?_
      refine as_ic_ne X (tgt := 26) (by decide +kernel : decode cX9_firsts 19 = .ok (.if_icmp .ne 7, 3)) (by decide) ?_ ?_
      · refine as_iconst X (by decide +kernel : decode cX9_firsts 22 = .ok (.iconst 1, 1)) rfl ?_
        refine as_goto X (tgt := 27) (by decide +kernel : decode cX9_firsts 23 = .ok (.goto 4, 3)) (by decide) ?_
        exact fun _ _ _ h => h
      · exact fun _ _ _ h => h
  · unfold B_X9_firsts_26
    refine as_iconst X (by decide +kernel : decode cX9_firsts 26 = .ok (.iconst 0, 1)) rfl ?_
    exact fun _ _ _ h => h
  · unfold B_X9_firsts_27
    refine as_istore_n X (by decide +kernel : decode cX9_firsts 27 = .ok (.istore_n 3, 1)) rfl ?_
    refine as_iconst X (by decide +kernel : decode cX9_firsts 28 = .ok (.iconst 0, 1)) rfl ?_
    refine as_istore X (by decide +kernel : decode cX9_firsts 29 = .ok (.istore 4, 2)) ?_
    exact fun _ _ _ h => h
  · unfold B_X9_firsts_31
    refine as_iload X (by decide +kernel : decode cX9_firsts 31 = .ok (.iload 4, 2)) ?_
    refine as_aload_n X (by decide +kernel : decode cX9_firsts 33 = .ok (.aload_n 0, 1)) rfl ?_
    refine as_get X fc_X9 (by decide +kernel : decode cX9_firsts 34 = .ok (.getfield 158, 3)) (by decide) fl_X9_158 ?_
    refine as_ic_ge X (tgt := 81) (by decide +kernel : decode cX9_firsts 37 = .ok (.if_icmp .ge 44, 3)) (by decide) ?_ ?_
    · exact fun _ _ _ h => h
    · refine as_iload_n X (by decide +kernel : decode cX9_firsts 40 = .ok (.iload_n 3, 1)) rfl ?_
      refine as_if_eq X (tgt := 81) (by decide +kernel : decode cX9_firsts 41 = .ok (.ifCond .eq 40, 3)) (by decide) ?_ ?_
      · exact fun _ _ _ h => h
      · refine as_aload_n X (by decide +kernel : decode cX9_firsts 44 = .ok (.aload_n 0, 1)) rfl ?_
        refine as_get X fc_X9 (by decide +kernel : decode cX9_firsts 45 = .ok (.getfield 31, 3)) (by decide) fl_X9_31 ?_
        refine as_bipush X (by decide +kernel : decode cX9_firsts 48 = .ok (.bipush 8, 2)) rfl ?_
        refine as_iload_n X (by decide +kernel : decode cX9_firsts 50 = .ok (.iload_n 1, 1)) rfl ?_
        refine as_iconst X (by decide +kernel : decode cX9_firsts 51 = .ok (.iconst 1, 1)) rfl ?_
        refine as_iadd X (by decide +kernel : decode cX9_firsts 52 = .ok (.iadd, 1)) ?_
        refine as_iload X (by decide +kernel : decode cX9_firsts 53 = .ok (.iload 4, 2)) ?_
        refine as_iadd X (by decide +kernel : decode cX9_firsts 55 = .ok (.iadd, 1)) ?_
        refine as_imul X (by decide +kernel : decode cX9_firsts 56 = .ok (.imul, 1)) ?_
        refine as_iconst X (by decide +kernel : decode cX9_firsts 57 = .ok (.iconst 1, 1)) rfl ?_
        refine as_iadd X (by decide +kernel : decode cX9_firsts 58 = .ok (.iadd, 1)) ?_
        refine as_iaload X (by decide +kernel : decode cX9_firsts 59 = .ok (.iaload, 1)) ?_
        refine as_aload_n X (by decide +kernel : decode cX9_firsts 60 = .ok (.aload_n 0, 1)) rfl ?_
        refine as_iload X (by decide +kernel : decode cX9_firsts 61 = .ok (.iload 4, 2)) ?_
        refine as_cv X h_X9_letter rfl (by decide +kernel : decode cX9_firsts 63 = .ok (.invokevirtual 189, 3)) dn_X9_letter ml_X9_189 im_X9_letter se_X9_letter ini_X9 co_X9_letter R_X9_letter ?_
        refine as_ic_ne X (tgt := 73) (by decide +kernel : decode cX9_firsts 66 = .ok (.if_icmp .ne 7, 3)) (by decide) ?_ ?_
        · refine as_iconst X (by decide +kernel : decode cX9_firsts 69 = .ok (.iconst 1, 1)) rfl ?_
          refine as_goto X (tgt := 74) (by decide +kernel : decode cX9_firsts 70 = .ok (.goto 4, 3)) (by decide) ?_
          exact fun _ _ _ h => h
        · refine as_iconst X (by decide +kernel : decode cX9_firsts 73 = .ok (.iconst 0, 1)) rfl ?_
          exact fun _ _ _ h => h
  · unfold B_X9_firsts_74
    refine as_istore_n X (by decide +kernel : decode cX9_firsts 74 = .ok (.istore_n 3, 1)) rfl ?_
    refine as_iinc X (by decide +kernel : decode cX9_firsts 75 = .ok (.iinc 4 1, 3)) rfl ?_
    refine as_goto X (tgt := 31) (by decide +kernel : decode cX9_firsts 78 = .ok (.goto (-47), 3)) (by decide) ?_
    exact fun _ _ _ h => h
  · unfold B_X9_firsts_81
    refine as_iload_n X (by decide +kernel : decode cX9_firsts 81 = .ok (.iload_n 3, 1)) rfl ?_
    refine as_if_eq X (tgt := 102) (by decide +kernel : decode cX9_firsts 82 = .ok (.ifCond .eq 20, 3)) (by decide) ?_ ?_
    · exact fun _ _ _ h => h
    · refine as_aload_n X (by decide +kernel : decode cX9_firsts 85 = .ok (.aload_n 0, 1)) rfl ?_
      refine as_lconst X (by decide +kernel : decode cX9_firsts 86 = .ok (.lconst 1, 1)) rfl ?_
      refine as_aload_n X (by decide +kernel : decode cX9_firsts 87 = .ok (.aload_n 0, 1)) rfl ?_
      refine as_get X fc_X9 (by decide +kernel : decode cX9_firsts 88 = .ok (.getfield 40, 3)) (by decide) fl_X9_40 ?_
      refine as_bipush X (by decide +kernel : decode cX9_firsts 91 = .ok (.bipush 9, 2)) rfl ?_
      refine as_iaload X (by decide +kernel : decode cX9_firsts 93 = .ok (.iaload, 1)) ?_
      refine as_bipush X (by decide +kernel : decode cX9_firsts 94 = .ok (.bipush 9, 2)) rfl ?_
      refine as_iconst X (by decide +kernel : decode cX9_firsts 96 = .ok (.iconst 0, 1)) rfl ?_
      refine as_iconst X (by decide +kernel : decode cX9_firsts 97 = .ok (.iconst 0, 1)) rfl ?_
      refine as_iconst X (by decide +kernel : decode cX9_firsts 98 = .ok (.iconst 0, 1)) rfl ?_
      refine as_cv X h_X9_meets rfl (by decide +kernel : decode cX9_firsts 99 = .ok (.invokevirtual 196, 3)) dn_X9_meets ml_X9_196 im_X9_meets se_X9_meets ini_X9 co_X9_meets R_X9_meets ?_
      exact fun _ _ _ h => h
  · unfold B_X9_firsts_102
    exact as_rv X hQ hr (by decide +kernel : decode cX9_firsts 102 = .ok (.return_, 1))

def B_X9_unitsOf_0 (kX9_lays : am_T) (kX9_opens : am_T) (kX9_oneWord : am_T) (kX9_turned : am_T) (kX9_stirred : am_T) (kX9_put : am_T) (kX9_hidden : am_T) (kX9_cuts : am_T) (kX9_firsts : am_T) (Q : am_Q) (G : Nat → am_K) : am_K := (ak_al 0 (ak_il 3 (ak_il 4 (ak_cv 3 7 kX9_lays (ak_al 0 (ak_cv 1 7 kX9_opens (ak_il 2 (ak_il 1 (ak_ib (fun x y => x - y) (ak_c (.int 1) (ak_ic (fun x y => x = y) (ak_al 0 (ak_il 1 (ak_cv 2 7 kX9_oneWord (ak_rv Q)))) (ak_al 0 (ak_il 1 (ak_il 2 (ak_il 3 (ak_il 4 (ak_cv 5 7 kX9_turned (ak_al 0 (ak_il 1 (ak_il 2 (ak_cv 3 7 kX9_stirred (ak_al 0 (ak_il 1 (ak_il 2 (ak_il 3 (ak_il 4 (ak_c (.int 4) (ak_cv 6 7 kX9_put (ak_al 0 (ak_il 1 (ak_il 2 (ak_il 3 (ak_il 4 (ak_c (.int 5) (ak_cv 6 7 kX9_put (ak_al 0 (ak_il 1 (ak_il 2 (ak_cv 3 7 kX9_hidden (ak_al 0 (ak_il 1 (G 67))))))))))))))))))))))))))))))))))))))))))
def B_X9_unitsOf_67 (kX9_lays : am_T) (kX9_opens : am_T) (kX9_oneWord : am_T) (kX9_turned : am_T) (kX9_stirred : am_T) (kX9_put : am_T) (kX9_hidden : am_T) (kX9_cuts : am_T) (kX9_firsts : am_T) (Q : am_Q) (G : Nat → am_K) : am_K := (ak_il 2 (ak_c (.int 7) (ak_cv 4 7 kX9_cuts (ak_al 0 (ak_il 1 (ak_il 2 (ak_c (.int 8) (ak_cv 4 7 kX9_cuts (ak_al 0 (ak_il 1 (ak_il 2 (ak_cv 3 7 kX9_firsts (ak_rv Q)))))))))))))
def cl_X9_unitsOf (kX9_lays : am_T) (kX9_opens : am_T) (kX9_oneWord : am_T) (kX9_turned : am_T) (kX9_stirred : am_T) (kX9_put : am_T) (kX9_hidden : am_T) (kX9_cuts : am_T) (kX9_firsts : am_T) (Q : am_Q) (G : Nat → am_K) : Prop := am_N G 0 (B_X9_unitsOf_0 kX9_lays kX9_opens kX9_oneWord kX9_turned kX9_stirred kX9_put kX9_hidden kX9_cuts kX9_firsts Q G) ∧ am_N G 67 (B_X9_unitsOf_67 kX9_lays kX9_opens kX9_oneWord kX9_turned kX9_stirred kX9_put kX9_hidden kX9_cuts kX9_firsts Q G)
def WP_X9_unitsOf (kX9_lays : am_T) (kX9_opens : am_T) (kX9_oneWord : am_T) (kX9_turned : am_T) (kX9_stirred : am_T) (kX9_put : am_T) (kX9_hidden : am_T) (kX9_cuts : am_T) (kX9_firsts : am_T) : am_T := fun av h Q => (lg_sl av).length ≤ 5 ∧ ∀ G, cl_X9_unitsOf kX9_lays kX9_opens kX9_oneWord kX9_turned kX9_stirred kX9_put kX9_hidden kX9_cuts kX9_firsts Q G → G 0 (am_ent 5 av) [] h
set_option maxHeartbeats 4000000 in
set_option maxRecDepth 100000 in
theorem s_X9_unitsOf {mX9_lays : Room} {kX9_lays : am_T} (h_X9_lays : am_S false yX9_lays (am_ws yX9_lays cX9_lays 5 none) mX9_lays kX9_lays) {mX9_opens : Room} {kX9_opens : am_T} (h_X9_opens : am_S false yX9_opens (am_ws yX9_opens cX9_opens 1 none) mX9_opens kX9_opens) {mX9_oneWord : Room} {kX9_oneWord : am_T} (h_X9_oneWord : am_S false yX9_oneWord (am_ws yX9_oneWord cX9_oneWord 3 none) mX9_oneWord kX9_oneWord) {mX9_turned : Room} {kX9_turned : am_T} (h_X9_turned : am_S false yX9_turned (am_ws yX9_turned cX9_turned 6 none) mX9_turned kX9_turned) {mX9_stirred : Room} {kX9_stirred : am_T} (h_X9_stirred : am_S false yX9_stirred (am_ws yX9_stirred cX9_stirred 3 none) mX9_stirred kX9_stirred) {mX9_put : Room} {kX9_put : am_T} (h_X9_put : am_S false yX9_put (am_ws yX9_put cX9_put 12 none) mX9_put kX9_put) {mX9_hidden : Room} {kX9_hidden : am_T} (h_X9_hidden : am_S false yX9_hidden (am_ws yX9_hidden cX9_hidden 8 none) mX9_hidden kX9_hidden) {mX9_cuts : Room} {kX9_cuts : am_T} (h_X9_cuts : am_S false yX9_cuts (am_ws yX9_cuts cX9_cuts 6 none) mX9_cuts kX9_cuts) {mX9_firsts : Room} {kX9_firsts : am_T} (h_X9_firsts : am_S false yX9_firsts (am_ws yX9_firsts cX9_firsts 5 none) mX9_firsts kX9_firsts) {rm : Room} (hz : rm.cells = 0 ∧ rm.slots = 0) (R_X9_lays : mX9_lays.frames + 1 ≤ rm.frames ∧ 8 + (5 + 11) + mX9_lays.locals ≤ rm.locals) (R_X9_opens : mX9_opens.frames + 1 ≤ rm.frames ∧ 8 + (1 + 11) + mX9_opens.locals ≤ rm.locals) (R_X9_oneWord : mX9_oneWord.frames + 1 ≤ rm.frames ∧ 8 + (3 + 11) + mX9_oneWord.locals ≤ rm.locals) (R_X9_turned : mX9_turned.frames + 1 ≤ rm.frames ∧ 8 + (6 + 11) + mX9_turned.locals ≤ rm.locals) (R_X9_stirred : mX9_stirred.frames + 1 ≤ rm.frames ∧ 8 + (3 + 11) + mX9_stirred.locals ≤ rm.locals) (R_X9_put : mX9_put.frames + 1 ≤ rm.frames ∧ 8 + (12 + 11) + mX9_put.locals ≤ rm.locals) (R_X9_hidden : mX9_hidden.frames + 1 ≤ rm.frames ∧ 8 + (8 + 11) + mX9_hidden.locals ≤ rm.locals) (R_X9_cuts : mX9_cuts.frames + 1 ≤ rm.frames ∧ 8 + (6 + 11) + mX9_cuts.locals ≤ rm.locals) (R_X9_firsts : mX9_firsts.frames + 1 ≤ rm.frames ∧ 8 + (5 + 11) + mX9_firsts.locals ≤ rm.locals) : am_S false yX9_unitsOf (am_ws yX9_unitsOf cX9_unitsOf 5 none) rm (WP_X9_unitsOf kX9_lays kX9_opens kX9_oneWord kX9_turned kX9_stirred kX9_put kX9_hidden kX9_cuts kX9_firsts) := by
  refine am_S.of (fun _ => hz) (by decide +kernel) (fun h0 Q G => cl_X9_unitsOf kX9_lays kX9_opens kX9_oneWord kX9_turned kX9_stirred kX9_put kX9_hidden kX9_cuts kX9_firsts Q G) ?_
  intro p l e s m args below meth c D h0 Q X hr hnm hQ
  refine ⟨?_, ?_⟩
  · unfold B_X9_unitsOf_0
    refine as_aload_n X (by decide +kernel : decode cX9_unitsOf 0 = .ok (.aload_n 0, 1)) rfl ?_
    refine as_iload_n X (by decide +kernel : decode cX9_unitsOf 1 = .ok (.iload_n 3, 1)) rfl ?_
    refine as_iload X (by decide +kernel : decode cX9_unitsOf 2 = .ok (.iload 4, 2)) ?_
    refine as_cv X h_X9_lays rfl (by decide +kernel : decode cX9_unitsOf 4 = .ok (.invokevirtual 224, 3)) dn_X9_lays ml_X9_224 im_X9_lays se_X9_lays ini_X9 co_X9_lays R_X9_lays ?_
    refine as_aload_n X (by decide +kernel : decode cX9_unitsOf 7 = .ok (.aload_n 0, 1)) rfl ?_
    refine as_cv X h_X9_opens rfl (by decide +kernel : decode cX9_unitsOf 8 = .ok (.invokevirtual 227, 3)) dn_X9_opens ml_X9_227 im_X9_opens se_X9_opens ini_X9 co_X9_opens R_X9_opens ?_
    refine as_iload_n X (by decide +kernel : decode cX9_unitsOf 11 = .ok (.iload_n 2, 1)) rfl ?_
    refine as_iload_n X (by decide +kernel : decode cX9_unitsOf 12 = .ok (.iload_n 1, 1)) rfl ?_
    refine as_isub X (by decide +kernel : decode cX9_unitsOf 13 = .ok (.isub, 1)) ?_
    refine as_iconst X (by decide +kernel : decode cX9_unitsOf 14 = .ok (.iconst 1, 1)) rfl ?_
    refine as_ic_ne X (tgt := 24) (by decide +kernel : decode cX9_unitsOf 15 = .ok (.if_icmp .ne 9, 3)) (by decide) ?_ ?_
    · refine as_aload_n X (by decide +kernel : decode cX9_unitsOf 18 = .ok (.aload_n 0, 1)) rfl ?_
      refine as_iload_n X (by decide +kernel : decode cX9_unitsOf 19 = .ok (.iload_n 1, 1)) rfl ?_
      refine as_cv X h_X9_oneWord rfl (by decide +kernel : decode cX9_unitsOf 20 = .ok (.invokevirtual 230, 3)) dn_X9_oneWord ml_X9_230 im_X9_oneWord se_X9_oneWord ini_X9 co_X9_oneWord R_X9_oneWord ?_
      exact as_rv X hQ hr (by decide +kernel : decode cX9_unitsOf 23 = .ok (.return_, 1))
    · refine as_aload_n X (by decide +kernel : decode cX9_unitsOf 24 = .ok (.aload_n 0, 1)) rfl ?_
      refine as_iload_n X (by decide +kernel : decode cX9_unitsOf 25 = .ok (.iload_n 1, 1)) rfl ?_
      refine as_iload_n X (by decide +kernel : decode cX9_unitsOf 26 = .ok (.iload_n 2, 1)) rfl ?_
      refine as_iload_n X (by decide +kernel : decode cX9_unitsOf 27 = .ok (.iload_n 3, 1)) rfl ?_
      refine as_iload X (by decide +kernel : decode cX9_unitsOf 28 = .ok (.iload 4, 2)) ?_
      refine as_cv X h_X9_turned rfl (by decide +kernel : decode cX9_unitsOf 30 = .ok (.invokevirtual 234, 3)) dn_X9_turned ml_X9_234 im_X9_turned se_X9_turned ini_X9 co_X9_turned R_X9_turned ?_
      refine as_aload_n X (by decide +kernel : decode cX9_unitsOf 33 = .ok (.aload_n 0, 1)) rfl ?_
      refine as_iload_n X (by decide +kernel : decode cX9_unitsOf 34 = .ok (.iload_n 1, 1)) rfl ?_
      refine as_iload_n X (by decide +kernel : decode cX9_unitsOf 35 = .ok (.iload_n 2, 1)) rfl ?_
      refine as_cv X h_X9_stirred rfl (by decide +kernel : decode cX9_unitsOf 36 = .ok (.invokevirtual 238, 3)) dn_X9_stirred ml_X9_238 im_X9_stirred se_X9_stirred ini_X9 co_X9_stirred R_X9_stirred ?_
      refine as_aload_n X (by decide +kernel : decode cX9_unitsOf 39 = .ok (.aload_n 0, 1)) rfl ?_
      refine as_iload_n X (by decide +kernel : decode cX9_unitsOf 40 = .ok (.iload_n 1, 1)) rfl ?_
      refine as_iload_n X (by decide +kernel : decode cX9_unitsOf 41 = .ok (.iload_n 2, 1)) rfl ?_
      refine as_iload_n X (by decide +kernel : decode cX9_unitsOf 42 = .ok (.iload_n 3, 1)) rfl ?_
      refine as_iload X (by decide +kernel : decode cX9_unitsOf 43 = .ok (.iload 4, 2)) ?_
      refine as_iconst X (by decide +kernel : decode cX9_unitsOf 45 = .ok (.iconst 4, 1)) rfl ?_
      refine as_cv X h_X9_put rfl (by decide +kernel : decode cX9_unitsOf 46 = .ok (.invokevirtual 241, 3)) dn_X9_put ml_X9_241 im_X9_put se_X9_put ini_X9 co_X9_put R_X9_put ?_
      refine as_aload_n X (by decide +kernel : decode cX9_unitsOf 49 = .ok (.aload_n 0, 1)) rfl ?_
      refine as_iload_n X (by decide +kernel : decode cX9_unitsOf 50 = .ok (.iload_n 1, 1)) rfl ?_
      refine as_iload_n X (by decide +kernel : decode cX9_unitsOf 51 = .ok (.iload_n 2, 1)) rfl ?_
      refine as_iload_n X (by decide +kernel : decode cX9_unitsOf 52 = .ok (.iload_n 3, 1)) rfl ?_
      refine as_iload X (by decide +kernel : decode cX9_unitsOf 53 = .ok (.iload 4, 2)) ?_
      refine as_iconst X (by decide +kernel : decode cX9_unitsOf 55 = .ok (.iconst 5, 1)) rfl ?_
      refine as_cv X h_X9_put rfl (by decide +kernel : decode cX9_unitsOf 56 = .ok (.invokevirtual 241, 3)) dn_X9_put ml_X9_241 im_X9_put se_X9_put ini_X9 co_X9_put R_X9_put ?_
      refine as_aload_n X (by decide +kernel : decode cX9_unitsOf 59 = .ok (.aload_n 0, 1)) rfl ?_
      refine as_iload_n X (by decide +kernel : decode cX9_unitsOf 60 = .ok (.iload_n 1, 1)) rfl ?_
      refine as_iload_n X (by decide +kernel : decode cX9_unitsOf 61 = .ok (.iload_n 2, 1)) rfl ?_
      refine as_cv X h_X9_hidden rfl (by decide +kernel : decode cX9_unitsOf 62 = .ok (.invokevirtual 245, 3)) dn_X9_hidden ml_X9_245 im_X9_hidden se_X9_hidden ini_X9 co_X9_hidden R_X9_hidden ?_
      refine as_aload_n X (by decide +kernel : decode cX9_unitsOf 65 = .ok (.aload_n 0, 1)) rfl ?_
      refine as_iload_n X (by decide +kernel : decode cX9_unitsOf 66 = .ok (.iload_n 1, 1)) rfl ?_
      exact fun _ _ _ h => h
  · unfold B_X9_unitsOf_67
    refine as_iload_n X (by decide +kernel : decode cX9_unitsOf 67 = .ok (.iload_n 2, 1)) rfl ?_
    refine as_bipush X (by decide +kernel : decode cX9_unitsOf 68 = .ok (.bipush 7, 2)) rfl ?_
    refine as_cv X h_X9_cuts rfl (by decide +kernel : decode cX9_unitsOf 70 = .ok (.invokevirtual 248, 3)) dn_X9_cuts ml_X9_248 im_X9_cuts se_X9_cuts ini_X9 co_X9_cuts R_X9_cuts ?_
    refine as_aload_n X (by decide +kernel : decode cX9_unitsOf 73 = .ok (.aload_n 0, 1)) rfl ?_
    refine as_iload_n X (by decide +kernel : decode cX9_unitsOf 74 = .ok (.iload_n 1, 1)) rfl ?_
    refine as_iload_n X (by decide +kernel : decode cX9_unitsOf 75 = .ok (.iload_n 2, 1)) rfl ?_
    refine as_bipush X (by decide +kernel : decode cX9_unitsOf 76 = .ok (.bipush 8, 2)) rfl ?_
    refine as_cv X h_X9_cuts rfl (by decide +kernel : decode cX9_unitsOf 78 = .ok (.invokevirtual 248, 3)) dn_X9_cuts ml_X9_248 im_X9_cuts se_X9_cuts ini_X9 co_X9_cuts R_X9_cuts ?_
    refine as_aload_n X (by decide +kernel : decode cX9_unitsOf 81 = .ok (.aload_n 0, 1)) rfl ?_
    refine as_iload_n X (by decide +kernel : decode cX9_unitsOf 82 = .ok (.iload_n 1, 1)) rfl ?_
    refine as_iload_n X (by decide +kernel : decode cX9_unitsOf 83 = .ok (.iload_n 2, 1)) rfl ?_
    refine as_cv X h_X9_firsts rfl (by decide +kernel : decode cX9_unitsOf 84 = .ok (.invokevirtual 252, 3)) dn_X9_firsts ml_X9_252 im_X9_firsts se_X9_firsts ini_X9 co_X9_firsts R_X9_firsts ?_
    exact as_rv X hQ hr (by decide +kernel : decode cX9_unitsOf 87 = .ok (.return_, 1))

def B_X9_piecesOf_0 (kX9_lays : am_T) (kX9_opens : am_T) (kX9_unitsAt : am_T) (kX9_manyOf : am_T) (kX9_costOf : am_T) (kX9_meets : am_T) (kX9_part : am_T) (kX9_piecesAt : am_T) (Q : am_Q) (G : Nat → am_K) : am_K := (ak_al 0 (ak_il 3 (ak_il 4 (ak_cv 3 7 kX9_lays (ak_al 0 (ak_cv 1 7 kX9_opens (ak_il 1 (ak_c (.int 1) (ak_ib (fun x y => x + y) (ak_is 5 (G 16)))))))))))
def B_X9_piecesOf_16 (kX9_lays : am_T) (kX9_opens : am_T) (kX9_unitsAt : am_T) (kX9_manyOf : am_T) (kX9_costOf : am_T) (kX9_meets : am_T) (kX9_part : am_T) (kX9_piecesAt : am_T) (Q : am_Q) (G : Nat → am_K) : am_K := (ak_il 5 (ak_il 2 (ak_ic (fun x y => y ≤ x) (ak_al 0 (ak_il 1 (ak_il 2 (ak_il 3 (ak_il 4 (ak_cv 5 7 kX9_unitsAt (ak_is 5 (ak_al 0 (ak_il 5 (ak_cs 1 kX9_manyOf (ak_i2l (ak_il 5 (ak_cs 1 kX9_costOf (ak_c (.int 0) (ak_il 2 (ak_al 0 (ak_get 7 25 (ak_c (.int 0) (ak_cv 7 7 kX9_meets (ak_rv Q)))))))))))))))))))) (ak_c (.int 1) (ak_is 6 (G 25))))))
def B_X9_piecesOf_25 (kX9_lays : am_T) (kX9_opens : am_T) (kX9_unitsAt : am_T) (kX9_manyOf : am_T) (kX9_costOf : am_T) (kX9_meets : am_T) (kX9_part : am_T) (kX9_piecesAt : am_T) (Q : am_Q) (G : Nat → am_K) : am_K := (ak_il 6 (ak_al 0 (ak_get 7 25 (ak_ic (fun x y => y ≤ x) (G 111) (ak_al 0 (ak_c (.int 0) (ak_il 6 (ak_cv 3 7 kX9_part (ak_is 7 (ak_al 0 (ak_il 1 (ak_il 5 (ak_il 7 (ak_il 4 (ak_cv 5 7 kX9_unitsAt (ak_is 8 (ak_al 0 (ak_il 5 (ak_il 2 (ak_il 3 (ak_il 7 (ak_ib (fun x y => x - y) (ak_il 4 (ak_cv 5 7 kX9_piecesAt (ak_is 9 (ak_al 0 (ak_il 8 (ak_cs 1 kX9_manyOf (ak_i2l (ak_il 9 (ak_cs 1 kX9_manyOf (ak_i2l (ak_lb (fun x y => x * y) (ak_il 8 (ak_cs 1 kX9_costOf (ak_il 9 (ak_cs 1 kX9_costOf (ak_ib (fun x y => x + y) (ak_c (.int 0) (ak_il 5 (ak_il 6 (ak_c (.int 0) (ak_cv 7 7 kX9_meets (ak_ii 6 1 (G 25)))))))))))))))))))))))))))))))))))))))))))))
def B_X9_piecesOf_111 (kX9_lays : am_T) (kX9_opens : am_T) (kX9_unitsAt : am_T) (kX9_manyOf : am_T) (kX9_costOf : am_T) (kX9_meets : am_T) (kX9_part : am_T) (kX9_piecesAt : am_T) (Q : am_Q) (G : Nat → am_K) : am_K := (ak_ii 5 1 (G 16))
def cl_X9_piecesOf (kX9_lays : am_T) (kX9_opens : am_T) (kX9_unitsAt : am_T) (kX9_manyOf : am_T) (kX9_costOf : am_T) (kX9_meets : am_T) (kX9_part : am_T) (kX9_piecesAt : am_T) (Q : am_Q) (G : Nat → am_K) : Prop := am_N G 0 (B_X9_piecesOf_0 kX9_lays kX9_opens kX9_unitsAt kX9_manyOf kX9_costOf kX9_meets kX9_part kX9_piecesAt Q G) ∧ am_N G 16 (B_X9_piecesOf_16 kX9_lays kX9_opens kX9_unitsAt kX9_manyOf kX9_costOf kX9_meets kX9_part kX9_piecesAt Q G) ∧ am_N G 25 (B_X9_piecesOf_25 kX9_lays kX9_opens kX9_unitsAt kX9_manyOf kX9_costOf kX9_meets kX9_part kX9_piecesAt Q G) ∧ am_N G 111 (B_X9_piecesOf_111 kX9_lays kX9_opens kX9_unitsAt kX9_manyOf kX9_costOf kX9_meets kX9_part kX9_piecesAt Q G)
def WP_X9_piecesOf (kX9_lays : am_T) (kX9_opens : am_T) (kX9_unitsAt : am_T) (kX9_manyOf : am_T) (kX9_costOf : am_T) (kX9_meets : am_T) (kX9_part : am_T) (kX9_piecesAt : am_T) : am_T := fun av h Q => (lg_sl av).length ≤ 10 ∧ ∀ G, cl_X9_piecesOf kX9_lays kX9_opens kX9_unitsAt kX9_manyOf kX9_costOf kX9_meets kX9_part kX9_piecesAt Q G → G 0 (am_ent 10 av) [] h
set_option maxHeartbeats 4000000 in
set_option maxRecDepth 100000 in
theorem s_X9_piecesOf {mX9_lays : Room} {kX9_lays : am_T} (h_X9_lays : am_S false yX9_lays (am_ws yX9_lays cX9_lays 5 none) mX9_lays kX9_lays) {mX9_opens : Room} {kX9_opens : am_T} (h_X9_opens : am_S false yX9_opens (am_ws yX9_opens cX9_opens 1 none) mX9_opens kX9_opens) {mX9_unitsAt : Room} {kX9_unitsAt : am_T} (h_X9_unitsAt : am_S false yX9_unitsAt (am_ws yX9_unitsAt cX9_unitsAt 5 (some .int)) mX9_unitsAt kX9_unitsAt) {mX9_manyOf : Room} {kX9_manyOf : am_T} (h_X9_manyOf : am_S false yX9_manyOf (am_ws yX9_manyOf cX9_manyOf 1 (some .int)) mX9_manyOf kX9_manyOf) {mX9_costOf : Room} {kX9_costOf : am_T} (h_X9_costOf : am_S false yX9_costOf (am_ws yX9_costOf cX9_costOf 1 (some .int)) mX9_costOf kX9_costOf) {mX9_meets : Room} {kX9_meets : am_T} (h_X9_meets : am_S false yX9_meets (am_ws yX9_meets cX9_meets 8 none) mX9_meets kX9_meets) {mX9_part : Room} {kX9_part : am_T} (h_X9_part : am_S false yX9_part (am_ws yX9_part cX9_part 5 (some .int)) mX9_part kX9_part) {mX9_piecesAt : Room} {kX9_piecesAt : am_T} (h_X9_piecesAt : am_S false yX9_piecesAt (am_ws yX9_piecesAt cX9_piecesAt 5 (some .int)) mX9_piecesAt kX9_piecesAt) {rm : Room} (hz : rm.cells = 0 ∧ rm.slots = 0) (R_X9_lays : mX9_lays.frames + 1 ≤ rm.frames ∧ 8 + (5 + 11) + mX9_lays.locals ≤ rm.locals) (R_X9_opens : mX9_opens.frames + 1 ≤ rm.frames ∧ 8 + (1 + 11) + mX9_opens.locals ≤ rm.locals) (R_X9_unitsAt : mX9_unitsAt.frames + 1 ≤ rm.frames ∧ 8 + (5 + 11) + mX9_unitsAt.locals ≤ rm.locals) (R_X9_manyOf : mX9_manyOf.frames + 1 ≤ rm.frames ∧ 8 + (1 + 11) + mX9_manyOf.locals ≤ rm.locals) (R_X9_costOf : mX9_costOf.frames + 1 ≤ rm.frames ∧ 8 + (1 + 11) + mX9_costOf.locals ≤ rm.locals) (R_X9_meets : mX9_meets.frames + 1 ≤ rm.frames ∧ 8 + (8 + 11) + mX9_meets.locals ≤ rm.locals) (R_X9_part : mX9_part.frames + 1 ≤ rm.frames ∧ 8 + (5 + 11) + mX9_part.locals ≤ rm.locals) (R_X9_piecesAt : mX9_piecesAt.frames + 1 ≤ rm.frames ∧ 8 + (5 + 11) + mX9_piecesAt.locals ≤ rm.locals) : am_S false yX9_piecesOf (am_ws yX9_piecesOf cX9_piecesOf 10 none) rm (WP_X9_piecesOf kX9_lays kX9_opens kX9_unitsAt kX9_manyOf kX9_costOf kX9_meets kX9_part kX9_piecesAt) := by
  refine am_S.of (fun _ => hz) (by decide +kernel) (fun h0 Q G => cl_X9_piecesOf kX9_lays kX9_opens kX9_unitsAt kX9_manyOf kX9_costOf kX9_meets kX9_part kX9_piecesAt Q G) ?_
  intro p l e s m args below meth c D h0 Q X hr hnm hQ
  refine ⟨?_, ?_, ?_, ?_⟩
  · unfold B_X9_piecesOf_0
    refine as_aload_n X (by decide +kernel : decode cX9_piecesOf 0 = .ok (.aload_n 0, 1)) rfl ?_
    refine as_iload_n X (by decide +kernel : decode cX9_piecesOf 1 = .ok (.iload_n 3, 1)) rfl ?_
    refine as_iload X (by decide +kernel : decode cX9_piecesOf 2 = .ok (.iload 4, 2)) ?_
    refine as_cv X h_X9_lays rfl (by decide +kernel : decode cX9_piecesOf 4 = .ok (.invokevirtual 224, 3)) dn_X9_lays ml_X9_224 im_X9_lays se_X9_lays ini_X9 co_X9_lays R_X9_lays ?_
    refine as_aload_n X (by decide +kernel : decode cX9_piecesOf 7 = .ok (.aload_n 0, 1)) rfl ?_
    refine as_cv X h_X9_opens rfl (by decide +kernel : decode cX9_piecesOf 8 = .ok (.invokevirtual 227, 3)) dn_X9_opens ml_X9_227 im_X9_opens se_X9_opens ini_X9 co_X9_opens R_X9_opens ?_
    refine as_iload_n X (by decide +kernel : decode cX9_piecesOf 11 = .ok (.iload_n 1, 1)) rfl ?_
    refine as_iconst X (by decide +kernel : decode cX9_piecesOf 12 = .ok (.iconst 1, 1)) rfl ?_
    refine as_iadd X (by decide +kernel : decode cX9_piecesOf 13 = .ok (.iadd, 1)) ?_
    refine as_istore X (by decide +kernel : decode cX9_piecesOf 14 = .ok (.istore 5, 2)) ?_
    exact fun _ _ _ h => h
  · unfold B_X9_piecesOf_16
    refine as_iload X (by decide +kernel : decode cX9_piecesOf 16 = .ok (.iload 5, 2)) ?_
    refine as_iload_n X (by decide +kernel : decode cX9_piecesOf 18 = .ok (.iload_n 2, 1)) rfl ?_
    refine as_ic_ge X (tgt := 117) (by decide +kernel : decode cX9_piecesOf 19 = .ok (.if_icmp .ge 98, 3)) (by decide) ?_ ?_
    · refine as_aload_n X (by decide +kernel : decode cX9_piecesOf 117 = .ok (.aload_n 0, 1)) rfl ?_
      refine as_iload_n X (by decide +kernel : decode cX9_piecesOf 118 = .ok (.iload_n 1, 1)) rfl ?_
      refine as_iload_n X (by decide +kernel : decode cX9_piecesOf 119 = .ok (.iload_n 2, 1)) rfl ?_
      refine as_iload_n X (by decide +kernel : decode cX9_piecesOf 120 = .ok (.iload_n 3, 1)) rfl ?_
      refine as_iload X (by decide +kernel : decode cX9_piecesOf 121 = .ok (.iload 4, 2)) ?_
      refine as_cv X h_X9_unitsAt rfl (by decide +kernel : decode cX9_piecesOf 123 = .ok (.invokevirtual 255, 3)) dn_X9_unitsAt ml_X9_255 im_X9_unitsAt se_X9_unitsAt ini_X9 co_X9_unitsAt R_X9_unitsAt ?_
      refine as_istore X (by decide +kernel : decode cX9_piecesOf 126 = .ok (.istore 5, 2)) ?_
      refine as_aload_n X (by decide +kernel : decode cX9_piecesOf 128 = .ok (.aload_n 0, 1)) rfl ?_
      refine as_iload X (by decide +kernel : decode cX9_piecesOf 129 = .ok (.iload 5, 2)) ?_
      refine as_cs X h_X9_manyOf (by decide +kernel : decode cX9_piecesOf 131 = .ok (.invokestatic 206, 3)) dn_X9_manyOf ml_X9_206 st_X9_manyOf ini_X9 co_X9_manyOf R_X9_manyOf ?_
      refine as_i2l X (by decide +kernel : decode cX9_piecesOf 134 = .ok (.i2l, 1)) ?_
      refine as_iload X (by decide +kernel : decode cX9_piecesOf 135 = .ok (.iload 5, 2)) ?_
      refine as_cs X h_X9_costOf (by decide +kernel : decode cX9_piecesOf 137 = .ok (.invokestatic 209, 3)) dn_X9_costOf ml_X9_209 st_X9_costOf ini_X9 co_X9_costOf R_X9_costOf ?_
      refine as_iconst X (by decide +kernel : decode cX9_piecesOf 140 = .ok (.iconst 0, 1)) rfl ?_
      refine as_iload_n X (by decide +kernel : decode cX9_piecesOf 141 = .ok (.iload_n 2, 1)) rfl ?_
      refine as_aload_n X (by decide +kernel : decode cX9_piecesOf 142 = .ok (.aload_n 0, 1)) rfl ?_
      refine as_get X fc_X9 (by decide +kernel : decode cX9_piecesOf 143 = .ok (.getfield 158, 3)) (by decide) fl_X9_158 ?_
      refine as_iconst X (by decide +kernel : decode cX9_piecesOf 146 = .ok (.iconst 0, 1)) rfl ?_
      refine as_cv X h_X9_meets rfl (by decide +kernel : decode cX9_piecesOf 147 = .ok (.invokevirtual 196, 3)) dn_X9_meets ml_X9_196 im_X9_meets se_X9_meets ini_X9 co_X9_meets R_X9_meets ?_
      exact as_rv X hQ hr (by decide +kernel : decode cX9_piecesOf 150 = .ok (.return_, 1))
    · refine as_iconst X (by decide +kernel : decode cX9_piecesOf 22 = .ok (.iconst 1, 1)) rfl ?_
      refine as_istore X (by decide +kernel : decode cX9_piecesOf 23 = .ok (.istore 6, 2)) ?_
      exact fun _ _ _ h => h
  · unfold B_X9_piecesOf_25
    refine as_iload X (by decide +kernel : decode cX9_piecesOf 25 = .ok (.iload 6, 2)) ?_
    refine as_aload_n X (by decide +kernel : decode cX9_piecesOf 27 = .ok (.aload_n 0, 1)) rfl ?_
    refine as_get X fc_X9 (by decide +kernel : decode cX9_piecesOf 28 = .ok (.getfield 158, 3)) (by decide) fl_X9_158 ?_
    refine as_ic_ge X (tgt := 111) (by decide +kernel : decode cX9_piecesOf 31 = .ok (.if_icmp .ge 80, 3)) (by decide) ?_ ?_
    · exact fun _ _ _ h => h
    · refine as_aload_n X (by decide +kernel : decode cX9_piecesOf 34 = .ok (.aload_n 0, 1)) rfl ?_
      refine as_iconst X (by decide +kernel : decode cX9_piecesOf 35 = .ok (.iconst 0, 1)) rfl ?_
      refine as_iload X (by decide +kernel : decode cX9_piecesOf 36 = .ok (.iload 6, 2)) ?_
      refine as_cv X h_X9_part rfl (by decide +kernel : decode cX9_piecesOf 38 = .ok (.invokevirtual 220, 3)) dn_X9_part ml_X9_220 im_X9_part se_X9_part ini_X9 co_X9_part R_X9_part ?_
      refine as_istore X (by decide +kernel : decode cX9_piecesOf 41 = .ok (.istore 7, 2)) ?_
      refine as_aload_n X (by decide +kernel : decode cX9_piecesOf 43 = .ok (.aload_n 0, 1)) rfl ?_
      refine as_iload_n X (by decide +kernel : decode cX9_piecesOf 44 = .ok (.iload_n 1, 1)) rfl ?_
      refine as_iload X (by decide +kernel : decode cX9_piecesOf 45 = .ok (.iload 5, 2)) ?_
      refine as_iload X (by decide +kernel : decode cX9_piecesOf 47 = .ok (.iload 7, 2)) ?_
      refine as_iload X (by decide +kernel : decode cX9_piecesOf 49 = .ok (.iload 4, 2)) ?_
      refine as_cv X h_X9_unitsAt rfl (by decide +kernel : decode cX9_piecesOf 51 = .ok (.invokevirtual 255, 3)) dn_X9_unitsAt ml_X9_255 im_X9_unitsAt se_X9_unitsAt ini_X9 co_X9_unitsAt R_X9_unitsAt ?_
      refine as_istore X (by decide +kernel : decode cX9_piecesOf 54 = .ok (.istore 8, 2)) ?_
      refine as_aload_n X (by decide +kernel : decode cX9_piecesOf 56 = .ok (.aload_n 0, 1)) rfl ?_
      refine as_iload X (by decide +kernel : decode cX9_piecesOf 57 = .ok (.iload 5, 2)) ?_
      refine as_iload_n X (by decide +kernel : decode cX9_piecesOf 59 = .ok (.iload_n 2, 1)) rfl ?_
      refine as_iload_n X (by decide +kernel : decode cX9_piecesOf 60 = .ok (.iload_n 3, 1)) rfl ?_
      refine as_iload X (by decide +kernel : decode cX9_piecesOf 61 = .ok (.iload 7, 2)) ?_
      refine as_isub X (by decide +kernel : decode cX9_piecesOf 63 = .ok (.isub, 1)) ?_
      refine as_iload X (by decide +kernel : decode cX9_piecesOf 64 = .ok (.iload 4, 2)) ?_
      refine as_cv X h_X9_piecesAt rfl (by decide +kernel : decode cX9_piecesOf 66 = .ok (.invokevirtual 203, 3)) dn_X9_piecesAt ml_X9_203 im_X9_piecesAt se_X9_piecesAt ini_X9 co_X9_piecesAt R_X9_piecesAt ?_
      refine as_istore X (by decide +kernel : decode cX9_piecesOf 69 = .ok (.istore 9, 2)) ?_
      refine as_aload_n X (by decide +kernel : decode cX9_piecesOf 71 = .ok (.aload_n 0, 1)) rfl ?_
      refine as_iload X (by decide +kernel : decode cX9_piecesOf 72 = .ok (.iload 8, 2)) ?_
      refine as_cs X h_X9_manyOf (by decide +kernel : decode cX9_piecesOf 74 = .ok (.invokestatic 206, 3)) dn_X9_manyOf ml_X9_206 st_X9_manyOf ini_X9 co_X9_manyOf R_X9_manyOf ?_
      refine as_i2l X (by decide +kernel : decode cX9_piecesOf 77 = .ok (.i2l, 1)) ?_
      refine as_iload X (by decide +kernel : decode cX9_piecesOf 78 = .ok (.iload 9, 2)) ?_
      refine as_cs X h_X9_manyOf (by decide +kernel : decode cX9_piecesOf 80 = .ok (.invokestatic 206, 3)) dn_X9_manyOf ml_X9_206 st_X9_manyOf ini_X9 co_X9_manyOf R_X9_manyOf ?_
      refine as_i2l X (by decide +kernel : decode cX9_piecesOf 83 = .ok (.i2l, 1)) ?_
      refine as_lmul X (by decide +kernel : decode cX9_piecesOf 84 = .ok (.lmul, 1)) ?_
      refine as_iload X (by decide +kernel : decode cX9_piecesOf 85 = .ok (.iload 8, 2)) ?_
      refine as_cs X h_X9_costOf (by decide +kernel : decode cX9_piecesOf 87 = .ok (.invokestatic 209, 3)) dn_X9_costOf ml_X9_209 st_X9_costOf ini_X9 co_X9_costOf R_X9_costOf ?_
      refine as_iload X (by decide +kernel : decode cX9_piecesOf 90 = .ok (.iload 9, 2)) ?_
      refine as_cs X h_X9_costOf (by decide +kernel : decode cX9_piecesOf 92 = .ok (.invokestatic 209, 3)) dn_X9_costOf ml_X9_209 st_X9_costOf ini_X9 co_X9_costOf R_X9_costOf ?_
      refine as_iadd X (by decide +kernel : decode cX9_piecesOf 95 = .ok (.iadd, 1)) ?_
      refine as_iconst X (by decide +kernel : decode cX9_piecesOf 96 = .ok (.iconst 0, 1)) rfl ?_
      refine as_iload X (by decide +kernel : decode cX9_piecesOf 97 = .ok (.iload 5, 2)) ?_
      refine as_iload X (by decide +kernel : decode cX9_piecesOf 99 = .ok (.iload 6, 2)) ?_
      refine as_iconst X (by decide +kernel : decode cX9_piecesOf 101 = .ok (.iconst 0, 1)) rfl ?_
      refine as_cv X h_X9_meets rfl (by decide +kernel : decode cX9_piecesOf 102 = .ok (.invokevirtual 196, 3)) dn_X9_meets ml_X9_196 im_X9_meets se_X9_meets ini_X9 co_X9_meets R_X9_meets ?_
      refine as_iinc X (by decide +kernel : decode cX9_piecesOf 105 = .ok (.iinc 6 1, 3)) rfl ?_
      refine as_goto X (tgt := 25) (by decide +kernel : decode cX9_piecesOf 108 = .ok (.goto (-83), 3)) (by decide) ?_
      exact fun _ _ _ h => h
  · unfold B_X9_piecesOf_111
    refine as_iinc X (by decide +kernel : decode cX9_piecesOf 111 = .ok (.iinc 5 1, 3)) rfl ?_
    refine as_goto X (tgt := 16) (by decide +kernel : decode cX9_piecesOf 114 = .ok (.goto (-98), 3)) (by decide) ?_
    exact fun _ _ _ h => h

def B_X9_anySign_0 (kX9_isSign : am_T) (Q : am_Q) (G : Nat → am_K) : am_K := (ak_c (.int 0) (ak_is 2 (ak_c (.int 0) (ak_is 3 (G 4)))))
def B_X9_anySign_4 (kX9_isSign : am_T) (Q : am_Q) (G : Nat → am_K) : am_K := (ak_il 3 (ak_al 0 (ak_get 7 10 (ak_ic (fun x y => y ≤ x) (ak_il 2 (ak_rz Q)) (ak_il 2 (ak_if (fun x => x = 0) (ak_al 0 (ak_il 3 (ak_il 1 (ak_cv 3 7 kX9_isSign (ak_if (fun x => x = 0) (ak_c (.int 0) (G 30)) (G 25)))))) (G 25)))))))
def B_X9_anySign_25 (kX9_isSign : am_T) (Q : am_Q) (G : Nat → am_K) : am_K := (ak_c (.int 1) (G 30))
def B_X9_anySign_30 (kX9_isSign : am_T) (Q : am_Q) (G : Nat → am_K) : am_K := (ak_is 2 (ak_ii 3 1 (G 4)))
def cl_X9_anySign (kX9_isSign : am_T) (Q : am_Q) (G : Nat → am_K) : Prop := am_N G 0 (B_X9_anySign_0 kX9_isSign Q G) ∧ am_N G 4 (B_X9_anySign_4 kX9_isSign Q G) ∧ am_N G 25 (B_X9_anySign_25 kX9_isSign Q G) ∧ am_N G 30 (B_X9_anySign_30 kX9_isSign Q G)
def WP_X9_anySign (kX9_isSign : am_T) : am_T := fun av h Q => (lg_sl av).length ≤ 4 ∧ ∀ G, cl_X9_anySign kX9_isSign Q G → G 0 (am_ent 4 av) [] h
set_option maxHeartbeats 4000000 in
set_option maxRecDepth 100000 in
theorem s_X9_anySign {mX9_isSign : Room} {kX9_isSign : am_T} (h_X9_isSign : am_S false yX9_isSign (am_ws yX9_isSign cX9_isSign 4 (some .boolean)) mX9_isSign kX9_isSign) {rm : Room} (hz : rm.cells = 0 ∧ rm.slots = 0) (R_X9_isSign : mX9_isSign.frames + 1 ≤ rm.frames ∧ 8 + (4 + 11) + mX9_isSign.locals ≤ rm.locals) : am_S false yX9_anySign (am_ws yX9_anySign cX9_anySign 4 (some .boolean)) rm (WP_X9_anySign kX9_isSign) := by
  refine am_S.of (fun _ => hz) (by decide +kernel) (fun h0 Q G => cl_X9_anySign kX9_isSign Q G) ?_
  intro p l e s m args below meth c D h0 Q X hr hnm hQ
  refine ⟨?_, ?_, ?_, ?_⟩
  · unfold B_X9_anySign_0
    refine as_iconst X (by decide +kernel : decode cX9_anySign 0 = .ok (.iconst 0, 1)) rfl ?_
    refine as_istore_n X (by decide +kernel : decode cX9_anySign 1 = .ok (.istore_n 2, 1)) rfl ?_
    refine as_iconst X (by decide +kernel : decode cX9_anySign 2 = .ok (.iconst 0, 1)) rfl ?_
    refine as_istore_n X (by decide +kernel : decode cX9_anySign 3 = .ok (.istore_n 3, 1)) rfl ?_
    exact fun _ _ _ h => h
  · unfold B_X9_anySign_4
    refine as_iload_n X (by decide +kernel : decode cX9_anySign 4 = .ok (.iload_n 3, 1)) rfl ?_
    refine as_aload_n X (by decide +kernel : decode cX9_anySign 5 = .ok (.aload_n 0, 1)) rfl ?_
    refine as_get X fc_X9 (by decide +kernel : decode cX9_anySign 6 = .ok (.getfield 142, 3)) (by decide) fl_X9_142 ?_
    refine as_ic_ge X (tgt := 37) (by decide +kernel : decode cX9_anySign 9 = .ok (.if_icmp .ge 28, 3)) (by decide) ?_ ?_
    · refine as_iload_n X (by decide +kernel : decode cX9_anySign 37 = .ok (.iload_n 2, 1)) rfl ?_
      exact as_rz X hQ hr (by decide +kernel : decode cX9_anySign 38 = .ok (.ireturn, 1))
    · refine as_iload_n X (by decide +kernel : decode cX9_anySign 12 = .ok (.iload_n 2, 1)) rfl ?_
      refine as_if_ne X (tgt := 25) (by decide +kernel : decode cX9_anySign 13 = .ok (.ifCond .ne 12, 3)) (by decide) ?_ ?_
      · refine as_aload_n X (by decide +kernel : decode cX9_anySign 16 = .ok (.aload_n 0, 1)) rfl ?_
        refine as_iload_n X (by decide +kernel : decode cX9_anySign 17 = .ok (.iload_n 3, 1)) rfl ?_
        refine as_iload_n X (by decide +kernel : decode cX9_anySign 18 = .ok (.iload_n 1, 1)) rfl ?_
        refine as_cv X h_X9_isSign rfl (by decide +kernel : decode cX9_anySign 19 = .ok (.invokevirtual 155, 3)) dn_X9_isSign ml_X9_155 im_X9_isSign se_X9_isSign ini_X9 co_X9_isSign R_X9_isSign ?_
        refine as_if_eq X (tgt := 29) (by decide +kernel : decode cX9_anySign 22 = .ok (.ifCond .eq 7, 3)) (by decide) ?_ ?_
        · refine as_iconst X (by decide +kernel : decode cX9_anySign 29 = .ok (.iconst 0, 1)) rfl ?_
          exact fun _ _ _ h => h
        · exact fun _ _ _ h => h
      · exact fun _ _ _ h => h
  · unfold B_X9_anySign_25
    refine as_iconst X (by decide +kernel : decode cX9_anySign 25 = .ok (.iconst 1, 1)) rfl ?_
    refine as_goto X (tgt := 30) (by decide +kernel : decode cX9_anySign 26 = .ok (.goto 4, 3)) (by decide) ?_
    exact fun _ _ _ h => h
  · unfold B_X9_anySign_30
    refine as_istore_n X (by decide +kernel : decode cX9_anySign 30 = .ok (.istore_n 2, 1)) rfl ?_
    refine as_iinc X (by decide +kernel : decode cX9_anySign 31 = .ok (.iinc 3 1, 3)) rfl ?_
    refine as_goto X (tgt := 4) (by decide +kernel : decode cX9_anySign 34 = .ok (.goto (-30), 3)) (by decide) ?_
    exact fun _ _ _ h => h

def B_X9_runsOf_0 (Q : am_Q) (G : Nat → am_K) : am_K := (ak_c (.int 0) (ak_is 1 (ak_c (.int 0) (ak_is 2 (G 4)))))
def B_X9_runsOf_4 (Q : am_Q) (G : Nat → am_K) : am_K := (ak_il 2 (ak_c (.int 8) (ak_ic (fun x y => y ≤ x) (ak_il 1 (ak_ri Q)) (ak_il 1 (ak_il 0 (ak_il 2 (ak_ib (fun x y => x >>> (y &&& 31)) (ak_c (.int 1) (ak_ib (fun x y => x &&& y) (ak_c (.int 1) (ak_ic (fun x y => x = y) (ak_il 0 (ak_il 2 (ak_c (.int 1) (ak_ib (fun x y => x + y) (ak_ib (fun x y => x >>> (y &&& 31)) (ak_c (.int 1) (ak_ib (fun x y => x &&& y) (ak_if (fun x => x = 0) (ak_c (.int 1) (G 35)) (G 34))))))))) (G 34))))))))))))
def B_X9_runsOf_34 (Q : am_Q) (G : Nat → am_K) : am_K := (ak_c (.int 0) (G 35))
def B_X9_runsOf_35 (Q : am_Q) (G : Nat → am_K) : am_K := (ak_ib (fun x y => x + y) (ak_is 1 (ak_ii 2 1 (G 4))))
def cl_X9_runsOf (Q : am_Q) (G : Nat → am_K) : Prop := am_N G 0 (B_X9_runsOf_0 Q G) ∧ am_N G 4 (B_X9_runsOf_4 Q G) ∧ am_N G 34 (B_X9_runsOf_34 Q G) ∧ am_N G 35 (B_X9_runsOf_35 Q G)
def WP_X9_runsOf : am_T := fun av h Q => (lg_sl av).length ≤ 3 ∧ ∀ G, cl_X9_runsOf Q G → G 0 (am_ent 3 av) [] h
set_option maxHeartbeats 4000000 in
set_option maxRecDepth 100000 in
theorem s_X9_runsOf {rm : Room} (hz : rm.cells = 0 ∧ rm.slots = 0) : am_S false yX9_runsOf (am_ws yX9_runsOf cX9_runsOf 3 (some .int)) rm (WP_X9_runsOf) := by
  refine am_S.of (fun _ => hz) (by decide +kernel) (fun h0 Q G => cl_X9_runsOf Q G) ?_
  intro p l e s m args below meth c D h0 Q X hr hnm hQ
  refine ⟨?_, ?_, ?_, ?_⟩
  · unfold B_X9_runsOf_0
    refine as_iconst X (by decide +kernel : decode cX9_runsOf 0 = .ok (.iconst 0, 1)) rfl ?_
    refine as_istore_n X (by decide +kernel : decode cX9_runsOf 1 = .ok (.istore_n 1, 1)) rfl ?_
    refine as_iconst X (by decide +kernel : decode cX9_runsOf 2 = .ok (.iconst 0, 1)) rfl ?_
    refine as_istore_n X (by decide +kernel : decode cX9_runsOf 3 = .ok (.istore_n 2, 1)) rfl ?_
    exact fun _ _ _ h => h
  · unfold B_X9_runsOf_4
    refine as_iload_n X (by decide +kernel : decode cX9_runsOf 4 = .ok (.iload_n 2, 1)) rfl ?_
    refine as_bipush X (by decide +kernel : decode cX9_runsOf 5 = .ok (.bipush 8, 2)) rfl ?_
    refine as_ic_ge X (tgt := 43) (by decide +kernel : decode cX9_runsOf 7 = .ok (.if_icmp .ge 36, 3)) (by decide) ?_ ?_
    · refine as_iload_n X (by decide +kernel : decode cX9_runsOf 43 = .ok (.iload_n 1, 1)) rfl ?_
      exact as_ri X hQ hr (by decide +kernel : decode cX9_runsOf 44 = .ok (.ireturn, 1))
    · refine as_iload_n X (by decide +kernel : decode cX9_runsOf 10 = .ok (.iload_n 1, 1)) rfl ?_
      refine as_iload_n X (by decide +kernel : decode cX9_runsOf 11 = .ok (.iload_n 0, 1)) rfl ?_
      refine as_iload_n X (by decide +kernel : decode cX9_runsOf 12 = .ok (.iload_n 2, 1)) rfl ?_
      refine as_ishr X (by decide +kernel : decode cX9_runsOf 13 = .ok (.ishr, 1)) ?_
      refine as_iconst X (by decide +kernel : decode cX9_runsOf 14 = .ok (.iconst 1, 1)) rfl ?_
      refine as_iand X (by decide +kernel : decode cX9_runsOf 15 = .ok (.iand, 1)) ?_
      refine as_iconst X (by decide +kernel : decode cX9_runsOf 16 = .ok (.iconst 1, 1)) rfl ?_
      refine as_ic_ne X (tgt := 34) (by decide +kernel : decode cX9_runsOf 17 = .ok (.if_icmp .ne 17, 3)) (by decide) ?_ ?_
      · refine as_iload_n X (by decide +kernel : decode cX9_runsOf 20 = .ok (.iload_n 0, 1)) rfl ?_
        refine as_iload_n X (by decide +kernel : decode cX9_runsOf 21 = .ok (.iload_n 2, 1)) rfl ?_
        refine as_iconst X (by decide +kernel : decode cX9_runsOf 22 = .ok (.iconst 1, 1)) rfl ?_
        refine as_iadd X (by decide +kernel : decode cX9_runsOf 23 = .ok (.iadd, 1)) ?_
        refine as_ishr X (by decide +kernel : decode cX9_runsOf 24 = .ok (.ishr, 1)) ?_
        refine as_iconst X (by decide +kernel : decode cX9_runsOf 25 = .ok (.iconst 1, 1)) rfl ?_
        refine as_iand X (by decide +kernel : decode cX9_runsOf 26 = .ok (.iand, 1)) ?_
        refine as_if_ne X (tgt := 34) (by decide +kernel : decode cX9_runsOf 27 = .ok (.ifCond .ne 7, 3)) (by decide) ?_ ?_
        · refine as_iconst X (by decide +kernel : decode cX9_runsOf 30 = .ok (.iconst 1, 1)) rfl ?_
          refine as_goto X (tgt := 35) (by decide +kernel : decode cX9_runsOf 31 = .ok (.goto 4, 3)) (by decide) ?_
          exact fun _ _ _ h => h
        · exact fun _ _ _ h => h
      · exact fun _ _ _ h => h
  · unfold B_X9_runsOf_34
    refine as_iconst X (by decide +kernel : decode cX9_runsOf 34 = .ok (.iconst 0, 1)) rfl ?_
    exact fun _ _ _ h => h
  · unfold B_X9_runsOf_35
    refine as_iadd X (by decide +kernel : decode cX9_runsOf 35 = .ok (.iadd, 1)) ?_
    refine as_istore_n X (by decide +kernel : decode cX9_runsOf 36 = .ok (.istore_n 1, 1)) rfl ?_
    refine as_iinc X (by decide +kernel : decode cX9_runsOf 37 = .ok (.iinc 2 1, 3)) rfl ?_
    refine as_goto X (tgt := 4) (by decide +kernel : decode cX9_runsOf 40 = .ok (.goto (-36), 3)) (by decide) ?_
    exact fun _ _ _ h => h

def B_X9_measures_0 (kX9_anySign : am_T) (kX9_runsOf : am_T) (kX9_unitsOf : am_T) (kX9_spot : am_T) (kX9_packed : am_T) (kX9_piecesOf : am_T) (Q : am_Q) (G : Nat → am_K) : am_K := (ak_il 1 (ak_if (fun x => x = 0) (ak_c (.int 1) (G 9)) (ak_c (.int 2) (G 9))))
def B_X9_measures_9 (kX9_anySign : am_T) (kX9_runsOf : am_T) (kX9_unitsOf : am_T) (kX9_spot : am_T) (kX9_packed : am_T) (kX9_piecesOf : am_T) (Q : am_Q) (G : Nat → am_K) : am_K := (ak_is 2 (ak_al 0 (ak_get 7 16 (ak_il 2 (ak_ic (fun x y => x = y) (ak_rv Q) (ak_al 0 (ak_il 1 (ak_putz 7 17 (ak_c (.int 1) (ak_al 0 (ak_get 7 12 (ak_c (.int 0) (ak_iald (ak_ib (fun x y => x <<< (y &&& 31)) (ak_is 3 (ak_al 0 (ak_c (.int 2) (ak_cv 2 7 kX9_anySign (ak_if (fun x => x = 0) (ak_c (.int 1) (G 46)) (ak_c (.int 2) (G 46)))))))))))))))))))))
def B_X9_measures_46 (kX9_anySign : am_T) (kX9_runsOf : am_T) (kX9_unitsOf : am_T) (kX9_spot : am_T) (kX9_packed : am_T) (kX9_piecesOf : am_T) (Q : am_Q) (G : Nat → am_K) : am_K := (ak_is 4 (ak_al 0 (ak_c (.int 4) (ak_cv 2 7 kX9_anySign (ak_if (fun x => x = 0) (ak_al 0 (ak_c (.int 5) (ak_cv 2 7 kX9_anySign (ak_if (fun x => x = 0) (ak_c (.int 0) (G 69)) (G 64))))) (G 64))))))
def B_X9_measures_64 (kX9_anySign : am_T) (kX9_runsOf : am_T) (kX9_unitsOf : am_T) (kX9_spot : am_T) (kX9_packed : am_T) (kX9_piecesOf : am_T) (Q : am_Q) (G : Nat → am_K) : am_K := (ak_c (.int 1) (G 69))
def B_X9_measures_69 (kX9_anySign : am_T) (kX9_runsOf : am_T) (kX9_unitsOf : am_T) (kX9_spot : am_T) (kX9_packed : am_T) (kX9_piecesOf : am_T) (Q : am_Q) (G : Nat → am_K) : am_K := (ak_is 5 (ak_c (.int 1) (ak_is 6 (G 74))))
def B_X9_measures_74 (kX9_anySign : am_T) (kX9_runsOf : am_T) (kX9_unitsOf : am_T) (kX9_spot : am_T) (kX9_packed : am_T) (kX9_piecesOf : am_T) (Q : am_Q) (G : Nat → am_K) : am_K := (ak_il 6 (ak_al 0 (ak_get 7 10 (ak_ic (fun x y => y < x) (ak_al 0 (ak_il 2 (ak_puti 7 16 (ak_rv Q)))) (ak_il 5 (ak_if (fun x => x = 0) (ak_c (.int 1) (G 103)) (ak_c (.int 1) (ak_al 0 (ak_get 7 10 (ak_il 6 (ak_ib (fun x y => x - y) (ak_c (.int 2) (ak_id (fun x y => x / y) (ak_ib (fun x y => x + y) (G 103)))))))))))))))
def B_X9_measures_103 (kX9_anySign : am_T) (kX9_runsOf : am_T) (kX9_unitsOf : am_T) (kX9_spot : am_T) (kX9_packed : am_T) (kX9_piecesOf : am_T) (Q : am_Q) (G : Nat → am_K) : am_K := (ak_is 7 (ak_c (.int 0) (ak_is 8 (G 108))))
def B_X9_measures_108 (kX9_anySign : am_T) (kX9_runsOf : am_T) (kX9_unitsOf : am_T) (kX9_spot : am_T) (kX9_packed : am_T) (kX9_piecesOf : am_T) (Q : am_Q) (G : Nat → am_K) : am_K := (ak_il 8 (ak_il 6 (ak_ib (fun x y => x + y) (ak_al 0 (ak_get 7 10 (ak_ic (fun x y => y < x) (ak_ii 6 1 (G 74)) (ak_c (.int 1) (ak_is 9 (G 123)))))))))
def B_X9_measures_123 (kX9_anySign : am_T) (kX9_runsOf : am_T) (kX9_unitsOf : am_T) (kX9_spot : am_T) (kX9_packed : am_T) (kX9_piecesOf : am_T) (Q : am_Q) (G : Nat → am_K) : am_K := (ak_il 9 (ak_il 3 (ak_ic (fun x y => y ≤ x) (ak_ii 8 1 (G 108)) (ak_c (.int 0) (ak_is 10 (G 132))))))
def B_X9_measures_132 (kX9_anySign : am_T) (kX9_runsOf : am_T) (kX9_unitsOf : am_T) (kX9_spot : am_T) (kX9_packed : am_T) (kX9_piecesOf : am_T) (Q : am_Q) (G : Nat → am_K) : am_K := (ak_il 10 (ak_il 4 (ak_ic (fun x y => y ≤ x) (G 239) (ak_il 9 (ak_cs 1 kX9_runsOf (ak_il 7 (ak_ic (fun x y => y < x) (G 239) (ak_al 0 (ak_il 8 (ak_il 8 (ak_il 6 (ak_ib (fun x y => x + y) (ak_il 9 (ak_il 10 (ak_cv 5 7 kX9_unitsOf (ak_al 0 (ak_get 7 15 (ak_il 8 (ak_il 8 (ak_il 6 (ak_ib (fun x y => x + y) (ak_il 9 (ak_il 10 (ak_cs 4 kX9_spot (ak_al 0 (ak_cv 1 7 kX9_packed (ak_i2l (ak_last (ak_al 0 (ak_il 8 (ak_il 8 (ak_il 6 (ak_ib (fun x y => x + y) (ak_il 9 (ak_il 10 (ak_cv 5 7 kX9_piecesOf (ak_al 0 (ak_get 7 15 (ak_il 8 (ak_il 8 (ak_il 6 (ak_ib (fun x y => x + y) (ak_il 9 (ak_il 10 (ak_cs 4 kX9_spot (G 221))))))))))))))))))))))))))))))))))))))))))))))
def B_X9_measures_221 (kX9_anySign : am_T) (kX9_runsOf : am_T) (kX9_unitsOf : am_T) (kX9_spot : am_T) (kX9_packed : am_T) (kX9_piecesOf : am_T) (Q : am_Q) (G : Nat → am_K) : am_K := (ak_dup2 (ak_lald (ak_al 0 (ak_cv 1 7 kX9_packed (ak_i2l (ak_c (.int 32) (ak_lx (fun x y => x <<< (y.toInt64 &&& 63)) (ak_lb (fun x y => x + y) (ak_last (ak_ii 10 1 (G 132)))))))))))
def B_X9_measures_239 (kX9_anySign : am_T) (kX9_runsOf : am_T) (kX9_unitsOf : am_T) (kX9_spot : am_T) (kX9_packed : am_T) (kX9_piecesOf : am_T) (Q : am_Q) (G : Nat → am_K) : am_K := (ak_ii 9 1 (G 123))
def cl_X9_measures (kX9_anySign : am_T) (kX9_runsOf : am_T) (kX9_unitsOf : am_T) (kX9_spot : am_T) (kX9_packed : am_T) (kX9_piecesOf : am_T) (Q : am_Q) (G : Nat → am_K) : Prop := am_N G 0 (B_X9_measures_0 kX9_anySign kX9_runsOf kX9_unitsOf kX9_spot kX9_packed kX9_piecesOf Q G) ∧ am_N G 9 (B_X9_measures_9 kX9_anySign kX9_runsOf kX9_unitsOf kX9_spot kX9_packed kX9_piecesOf Q G) ∧ am_N G 46 (B_X9_measures_46 kX9_anySign kX9_runsOf kX9_unitsOf kX9_spot kX9_packed kX9_piecesOf Q G) ∧ am_N G 64 (B_X9_measures_64 kX9_anySign kX9_runsOf kX9_unitsOf kX9_spot kX9_packed kX9_piecesOf Q G) ∧ am_N G 69 (B_X9_measures_69 kX9_anySign kX9_runsOf kX9_unitsOf kX9_spot kX9_packed kX9_piecesOf Q G) ∧ am_N G 74 (B_X9_measures_74 kX9_anySign kX9_runsOf kX9_unitsOf kX9_spot kX9_packed kX9_piecesOf Q G) ∧ am_N G 103 (B_X9_measures_103 kX9_anySign kX9_runsOf kX9_unitsOf kX9_spot kX9_packed kX9_piecesOf Q G) ∧ am_N G 108 (B_X9_measures_108 kX9_anySign kX9_runsOf kX9_unitsOf kX9_spot kX9_packed kX9_piecesOf Q G) ∧ am_N G 123 (B_X9_measures_123 kX9_anySign kX9_runsOf kX9_unitsOf kX9_spot kX9_packed kX9_piecesOf Q G) ∧ am_N G 132 (B_X9_measures_132 kX9_anySign kX9_runsOf kX9_unitsOf kX9_spot kX9_packed kX9_piecesOf Q G) ∧ am_N G 221 (B_X9_measures_221 kX9_anySign kX9_runsOf kX9_unitsOf kX9_spot kX9_packed kX9_piecesOf Q G) ∧ am_N G 239 (B_X9_measures_239 kX9_anySign kX9_runsOf kX9_unitsOf kX9_spot kX9_packed kX9_piecesOf Q G)
def WP_X9_measures (kX9_anySign : am_T) (kX9_runsOf : am_T) (kX9_unitsOf : am_T) (kX9_spot : am_T) (kX9_packed : am_T) (kX9_piecesOf : am_T) : am_T := fun av h Q => (lg_sl av).length ≤ 11 ∧ ∀ G, cl_X9_measures kX9_anySign kX9_runsOf kX9_unitsOf kX9_spot kX9_packed kX9_piecesOf Q G → G 0 (am_ent 11 av) [] h
set_option maxHeartbeats 4000000 in
set_option maxRecDepth 100000 in
theorem s_X9_measures {mX9_anySign : Room} {kX9_anySign : am_T} (h_X9_anySign : am_S false yX9_anySign (am_ws yX9_anySign cX9_anySign 4 (some .boolean)) mX9_anySign kX9_anySign) {mX9_runsOf : Room} {kX9_runsOf : am_T} (h_X9_runsOf : am_S false yX9_runsOf (am_ws yX9_runsOf cX9_runsOf 3 (some .int)) mX9_runsOf kX9_runsOf) {mX9_unitsOf : Room} {kX9_unitsOf : am_T} (h_X9_unitsOf : am_S false yX9_unitsOf (am_ws yX9_unitsOf cX9_unitsOf 5 none) mX9_unitsOf kX9_unitsOf) {mX9_spot : Room} {kX9_spot : am_T} (h_X9_spot : am_S false yX9_spot (am_ws yX9_spot cX9_spot 4 (some .int)) mX9_spot kX9_spot) {mX9_packed : Room} {kX9_packed : am_T} (h_X9_packed : am_S false yX9_packed (am_ws yX9_packed cX9_packed 1 (some .int)) mX9_packed kX9_packed) {mX9_piecesOf : Room} {kX9_piecesOf : am_T} (h_X9_piecesOf : am_S false yX9_piecesOf (am_ws yX9_piecesOf cX9_piecesOf 10 none) mX9_piecesOf kX9_piecesOf) {rm : Room} (hz : rm.cells = 0 ∧ rm.slots = 0) (R_X9_anySign : mX9_anySign.frames + 1 ≤ rm.frames ∧ 8 + (4 + 11) + mX9_anySign.locals ≤ rm.locals) (R_X9_runsOf : mX9_runsOf.frames + 1 ≤ rm.frames ∧ 8 + (3 + 11) + mX9_runsOf.locals ≤ rm.locals) (R_X9_unitsOf : mX9_unitsOf.frames + 1 ≤ rm.frames ∧ 8 + (5 + 11) + mX9_unitsOf.locals ≤ rm.locals) (R_X9_spot : mX9_spot.frames + 1 ≤ rm.frames ∧ 8 + (4 + 11) + mX9_spot.locals ≤ rm.locals) (R_X9_packed : mX9_packed.frames + 1 ≤ rm.frames ∧ 8 + (1 + 11) + mX9_packed.locals ≤ rm.locals) (R_X9_piecesOf : mX9_piecesOf.frames + 1 ≤ rm.frames ∧ 8 + (10 + 11) + mX9_piecesOf.locals ≤ rm.locals) : am_S false yX9_measures (am_ws yX9_measures cX9_measures 11 none) rm (WP_X9_measures kX9_anySign kX9_runsOf kX9_unitsOf kX9_spot kX9_packed kX9_piecesOf) := by
  refine am_S.of (fun _ => hz) (by decide +kernel) (fun h0 Q G => cl_X9_measures kX9_anySign kX9_runsOf kX9_unitsOf kX9_spot kX9_packed kX9_piecesOf Q G) ?_
  intro p l e s m args below meth c D h0 Q X hr hnm hQ
  refine ⟨?_, ?_, ?_, ?_, ?_, ?_, ?_, ?_, ?_, ?_, ?_, ?_⟩
  · unfold B_X9_measures_0
    refine as_iload_n X (by decide +kernel : decode cX9_measures 0 = .ok (.iload_n 1, 1)) rfl ?_
    refine as_if_eq X (tgt := 8) (by decide +kernel : decode cX9_measures 1 = .ok (.ifCond .eq 7, 3)) (by decide) ?_ ?_
    · refine as_iconst X (by decide +kernel : decode cX9_measures 8 = .ok (.iconst 1, 1)) rfl ?_
      exact fun _ _ _ h => h
    · refine as_iconst X (by decide +kernel : decode cX9_measures 4 = .ok (.iconst 2, 1)) rfl ?_
      refine as_goto X (tgt := 9) (by decide +kernel : decode cX9_measures 5 = .ok (.goto 4, 3)) (by decide) ?_
      exact fun _ _ _ h => h
  · unfold B_X9_measures_9
    refine as_istore_n X (by decide +kernel : decode cX9_measures 9 = .ok (.istore_n 2, 1)) rfl ?_
    refine as_aload_n X (by decide +kernel : decode cX9_measures 10 = .ok (.aload_n 0, 1)) rfl ?_
    refine as_get X fc_X9 (by decide +kernel : decode cX9_measures 11 = .ok (.getfield 132, 3)) (by decide) fl_X9_132 ?_
    refine as_iload_n X (by decide +kernel : decode cX9_measures 14 = .ok (.iload_n 2, 1)) rfl ?_
    refine as_ic_ne X (tgt := 19) (by decide +kernel : decode cX9_measures 15 = .ok (.if_icmp .ne 4, 3)) (by decide) ?_ ?_
    · exact as_rv X hQ hr (by decide +kernel : decode cX9_measures 18 = .ok (.return_, 1))
    · refine as_aload_n X (by decide +kernel : decode cX9_measures 19 = .ok (.aload_n 0, 1)) rfl ?_
      refine as_iload_n X (by decide +kernel : decode cX9_measures 20 = .ok (.iload_n 1, 1)) rfl ?_
      refine as_putz X fc_X9 (by decide +kernel : decode cX9_measures 21 = .ok (.putfield 171, 3)) (by decide) fl_X9_171 (Or.inl rfl) rfl ?_
      refine as_iconst X (by decide +kernel : decode cX9_measures 24 = .ok (.iconst 1, 1)) rfl ?_
      refine as_aload_n X (by decide +kernel : decode cX9_measures 25 = .ok (.aload_n 0, 1)) rfl ?_
      refine as_get X fc_X9 (by decide +kernel : decode cX9_measures 26 = .ok (.getfield 34, 3)) (by decide) fl_X9_34 ?_
      refine as_iconst X (by decide +kernel : decode cX9_measures 29 = .ok (.iconst 0, 1)) rfl ?_
      refine as_iaload X (by decide +kernel : decode cX9_measures 30 = .ok (.iaload, 1)) ?_
      refine as_ishl X (by decide +kernel : decode cX9_measures 31 = .ok (.ishl, 1)) ?_
      refine as_istore_n X (by decide +kernel : decode cX9_measures 32 = .ok (.istore_n 3, 1)) rfl ?_
      refine as_aload_n X (by decide +kernel : decode cX9_measures 33 = .ok (.aload_n 0, 1)) rfl ?_
      refine as_iconst X (by decide +kernel : decode cX9_measures 34 = .ok (.iconst 2, 1)) rfl ?_
      refine as_cv X h_X9_anySign rfl (by decide +kernel : decode cX9_measures 35 = .ok (.invokevirtual 258, 3)) dn_X9_anySign ml_X9_258 im_X9_anySign se_X9_anySign ini_X9 co_X9_anySign R_X9_anySign ?_
      refine as_if_eq X (tgt := 45) (by decide +kernel : decode cX9_measures 38 = .ok (.ifCond .eq 7, 3)) (by decide) ?_ ?_
      · refine as_iconst X (by decide +kernel : decode cX9_measures 45 = .ok (.iconst 1, 1)) rfl ?_
        exact fun _ _ _ h => h
      · refine as_iconst X (by decide +kernel : decode cX9_measures 41 = .ok (.iconst 2, 1)) rfl ?_
        refine as_goto X (tgt := 46) (by decide +kernel : decode cX9_measures 42 = .ok (.goto 4, 3)) (by decide) ?_
        exact fun _ _ _ h => h
  · unfold B_X9_measures_46
    refine as_istore X (by decide +kernel : decode cX9_measures 46 = .ok (.istore 4, 2)) ?_
    refine as_aload_n X (by decide +kernel : decode cX9_measures 48 = .ok (.aload_n 0, 1)) rfl ?_
    refine as_iconst X (by decide +kernel : decode cX9_measures 49 = .ok (.iconst 4, 1)) rfl ?_
    refine as_cv X h_X9_anySign rfl (by decide +kernel : decode cX9_measures 50 = .ok (.invokevirtual 258, 3)) dn_X9_anySign ml_X9_258 im_X9_anySign se_X9_anySign ini_X9 co_X9_anySign R_X9_anySign ?_
    refine as_if_ne X (tgt := 64) (by decide +kernel : decode cX9_measures 53 = .ok (.ifCond .ne 11, 3)) (by decide) ?_ ?_
    · refine as_aload_n X (by decide +kernel : decode cX9_measures 56 = .ok (.aload_n 0, 1)) rfl ?_
      refine as_iconst X (by decide +kernel : decode cX9_measures 57 = .ok (.iconst 5, 1)) rfl ?_
      refine as_cv X h_X9_anySign rfl (by decide +kernel : decode cX9_measures 58 = .ok (.invokevirtual 258, 3)) dn_X9_anySign ml_X9_258 im_X9_anySign se_X9_anySign ini_X9 co_X9_anySign R_X9_anySign ?_
      refine as_if_eq X (tgt := 68) (by decide +kernel : decode cX9_measures 61 = .ok (.ifCond .eq 7, 3)) (by decide) ?_ ?_
      · refine as_iconst X (by decide +kernel : decode cX9_measures 68 = .ok (.iconst 0, 1)) rfl ?_
        exact fun _ _ _ h => h
      · exact fun _ _ _ h => h
    · exact fun _ _ _ h => h
  · unfold B_X9_measures_64
    refine as_iconst X (by decide +kernel : decode cX9_measures 64 = .ok (.iconst 1, 1)) rfl ?_
    refine as_goto X (tgt := 69) (by decide +kernel : decode cX9_measures 65 = .ok (.goto 4, 3)) (by decide) ?_
    exact fun _ _ _ h => h
  · unfold B_X9_measures_69
    refine as_istore X (by decide +kernel : decode cX9_measures 69 = .ok (.istore 5, 2)) ?_
    refine as_iconst X (by decide +kernel : decode cX9_measures 71 = .ok (.iconst 1, 1)) rfl ?_
    refine as_istore X (by decide +kernel : decode cX9_measures 72 = .ok (.istore 6, 2)) ?_
    exact fun _ _ _ h => h
  · unfold B_X9_measures_74
    refine as_iload X (by decide +kernel : decode cX9_measures 74 = .ok (.iload 6, 2)) ?_
    refine as_aload_n X (by decide +kernel : decode cX9_measures 76 = .ok (.aload_n 0, 1)) rfl ?_
    refine as_get X fc_X9 (by decide +kernel : decode cX9_measures 77 = .ok (.getfield 142, 3)) (by decide) fl_X9_142 ?_
    refine as_ic_gt X (tgt := 257) (by decide +kernel : decode cX9_measures 80 = .ok (.if_icmp .gt 177, 3)) (by decide) ?_ ?_
    · refine as_aload_n X (by decide +kernel : decode cX9_measures 257 = .ok (.aload_n 0, 1)) rfl ?_
      refine as_iload_n X (by decide +kernel : decode cX9_measures 258 = .ok (.iload_n 2, 1)) rfl ?_
      refine as_puti X fc_X9 (by decide +kernel : decode cX9_measures 259 = .ok (.putfield 132, 3)) (by decide) fl_X9_132 (Or.inl rfl) rfl ?_
      exact as_rv X hQ hr (by decide +kernel : decode cX9_measures 262 = .ok (.return_, 1))
    · refine as_iload X (by decide +kernel : decode cX9_measures 83 = .ok (.iload 5, 2)) ?_
      refine as_if_eq X (tgt := 102) (by decide +kernel : decode cX9_measures 85 = .ok (.ifCond .eq 17, 3)) (by decide) ?_ ?_
      · refine as_iconst X (by decide +kernel : decode cX9_measures 102 = .ok (.iconst 1, 1)) rfl ?_
        exact fun _ _ _ h => h
      · refine as_iconst X (by decide +kernel : decode cX9_measures 88 = .ok (.iconst 1, 1)) rfl ?_
        refine as_aload_n X (by decide +kernel : decode cX9_measures 89 = .ok (.aload_n 0, 1)) rfl ?_
        refine as_get X fc_X9 (by decide +kernel : decode cX9_measures 90 = .ok (.getfield 142, 3)) (by decide) fl_X9_142 ?_
        refine as_iload X (by decide +kernel : decode cX9_measures 93 = .ok (.iload 6, 2)) ?_
        refine as_isub X (by decide +kernel : decode cX9_measures 95 = .ok (.isub, 1)) ?_
        refine as_iconst X (by decide +kernel : decode cX9_measures 96 = .ok (.iconst 2, 1)) rfl ?_
        refine as_idiv X (by decide +kernel : decode cX9_measures 97 = .ok (.idiv, 1)) ?_
        refine as_iadd X (by decide +kernel : decode cX9_measures 98 = .ok (.iadd, 1)) ?_
        refine as_goto X (tgt := 103) (by decide +kernel : decode cX9_measures 99 = .ok (.goto 4, 3)) (by decide) ?_
        exact fun _ _ _ h => h
  · unfold B_X9_measures_103
    refine as_istore X (by decide +kernel : decode cX9_measures 103 = .ok (.istore 7, 2)) ?_
    refine as_iconst X (by decide +kernel : decode cX9_measures 105 = .ok (.iconst 0, 1)) rfl ?_
    refine as_istore X (by decide +kernel : decode cX9_measures 106 = .ok (.istore 8, 2)) ?_
    exact fun _ _ _ h => h
  · unfold B_X9_measures_108
    refine as_iload X (by decide +kernel : decode cX9_measures 108 = .ok (.iload 8, 2)) ?_
    refine as_iload X (by decide +kernel : decode cX9_measures 110 = .ok (.iload 6, 2)) ?_
    refine as_iadd X (by decide +kernel : decode cX9_measures 112 = .ok (.iadd, 1)) ?_
    refine as_aload_n X (by decide +kernel : decode cX9_measures 113 = .ok (.aload_n 0, 1)) rfl ?_
    refine as_get X fc_X9 (by decide +kernel : decode cX9_measures 114 = .ok (.getfield 142, 3)) (by decide) fl_X9_142 ?_
    refine as_ic_gt X (tgt := 251) (by decide +kernel : decode cX9_measures 117 = .ok (.if_icmp .gt 134, 3)) (by decide) ?_ ?_
    · refine as_iinc X (by decide +kernel : decode cX9_measures 251 = .ok (.iinc 6 1, 3)) rfl ?_
      refine as_goto X (tgt := 74) (by decide +kernel : decode cX9_measures 254 = .ok (.goto (-180), 3)) (by decide) ?_
      exact fun _ _ _ h => h
    · refine as_iconst X (by decide +kernel : decode cX9_measures 120 = .ok (.iconst 1, 1)) rfl ?_
      refine as_istore X (by decide +kernel : decode cX9_measures 121 = .ok (.istore 9, 2)) ?_
      exact fun _ _ _ h => h
  · unfold B_X9_measures_123
    refine as_iload X (by decide +kernel : decode cX9_measures 123 = .ok (.iload 9, 2)) ?_
    refine as_iload_n X (by decide +kernel : decode cX9_measures 125 = .ok (.iload_n 3, 1)) rfl ?_
    refine as_ic_ge X (tgt := 245) (by decide +kernel : decode cX9_measures 126 = .ok (.if_icmp .ge 119, 3)) (by decide) ?_ ?_
    · refine as_iinc X (by decide +kernel : decode cX9_measures 245 = .ok (.iinc 8 1, 3)) rfl ?_
      refine as_goto X (tgt := 108) (by decide +kernel : decode cX9_measures 248 = .ok (.goto (-140), 3)) (by decide) ?_
      exact fun _ _ _ h => h
    · refine as_iconst X (by decide +kernel : decode cX9_measures 129 = .ok (.iconst 0, 1)) rfl ?_
      refine as_istore X (by decide +kernel : decode cX9_measures 130 = .ok (.istore 10, 2)) ?_
      exact fun _ _ _ h => h
  · unfold B_X9_measures_132
    refine as_iload X (by decide +kernel : decode cX9_measures 132 = .ok (.iload 10, 2)) ?_
    refine as_iload X (by decide +kernel : decode cX9_measures 134 = .ok (.iload 4, 2)) ?_
    refine as_ic_ge X (tgt := 239) (by decide +kernel : decode cX9_measures 136 = .ok (.if_icmp .ge 103, 3)) (by decide) ?_ ?_
    · exact fun _ _ _ h => h
    · refine as_iload X (by decide +kernel : decode cX9_measures 139 = .ok (.iload 9, 2)) ?_
      refine as_cs X h_X9_runsOf (by decide +kernel : decode cX9_measures 141 = .ok (.invokestatic 261, 3)) dn_X9_runsOf ml_X9_261 st_X9_runsOf ini_X9 co_X9_runsOf R_X9_runsOf ?_
      refine as_iload X (by decide +kernel : decode cX9_measures 144 = .ok (.iload 7, 2)) ?_
      refine as_ic_gt X (tgt := 239) (by decide +kernel : decode cX9_measures 146 = .ok (.if_icmp .gt 93, 3)) (by decide) ?_ ?_
      · exact fun _ _ _ h => h
      · refine as_aload_n X (by decide +kernel : decode cX9_measures 149 = .ok (.aload_n 0, 1)) rfl ?_
        refine as_iload X (by decide +kernel : decode cX9_measures 150 = .ok (.iload 8, 2)) ?_
        refine as_iload X (by decide +kernel : decode cX9_measures 152 = .ok (.iload 8, 2)) ?_
        refine as_iload X (by decide +kernel : decode cX9_measures 154 = .ok (.iload 6, 2)) ?_
        refine as_iadd X (by decide +kernel : decode cX9_measures 156 = .ok (.iadd, 1)) ?_
        refine as_iload X (by decide +kernel : decode cX9_measures 157 = .ok (.iload 9, 2)) ?_
        refine as_iload X (by decide +kernel : decode cX9_measures 159 = .ok (.iload 10, 2)) ?_
        refine as_cv X h_X9_unitsOf rfl (by decide +kernel : decode cX9_measures 161 = .ok (.invokevirtual 264, 3)) dn_X9_unitsOf ml_X9_264 im_X9_unitsOf se_X9_unitsOf ini_X9 co_X9_unitsOf R_X9_unitsOf ?_
        refine as_aload_n X (by decide +kernel : decode cX9_measures 164 = .ok (.aload_n 0, 1)) rfl ?_
        refine as_get X fc_X9 (by decide +kernel : decode cX9_measures 165 = .ok (.getfield 43, 3)) (by decide) fl_X9_43 ?_
        refine as_iload X (by decide +kernel : decode cX9_measures 168 = .ok (.iload 8, 2)) ?_
        refine as_iload X (by decide +kernel : decode cX9_measures 170 = .ok (.iload 8, 2)) ?_
        refine as_iload X (by decide +kernel : decode cX9_measures 172 = .ok (.iload 6, 2)) ?_
        refine as_iadd X (by decide +kernel : decode cX9_measures 174 = .ok (.iadd, 1)) ?_
        refine as_iload X (by decide +kernel : decode cX9_measures 175 = .ok (.iload 9, 2)) ?_
        refine as_iload X (by decide +kernel : decode cX9_measures 177 = .ok (.iload 10, 2)) ?_
        refine as_cs X h_X9_spot (by decide +kernel : decode cX9_measures 179 = .ok (.invokestatic 161, 3)) dn_X9_spot ml_X9_161 st_X9_spot ini_X9 co_X9_spot R_X9_spot ?_
        refine as_aload_n X (by decide +kernel : decode cX9_measures 182 = .ok (.aload_n 0, 1)) rfl ?_
        refine as_cv X h_X9_packed rfl (by decide +kernel : decode cX9_measures 183 = .ok (.invokevirtual 267, 3)) dn_X9_packed ml_X9_267 im_X9_packed se_X9_packed ini_X9 co_X9_packed R_X9_packed ?_
        refine as_i2l X (by decide +kernel : decode cX9_measures 186 = .ok (.i2l, 1)) ?_
        refine as_lastore X (by decide +kernel : decode cX9_measures 187 = .ok (.lastore, 1)) ?_
        refine as_aload_n X (by decide +kernel : decode cX9_measures 188 = .ok (.aload_n 0, 1)) rfl ?_
        refine as_iload X (by decide +kernel : decode cX9_measures 189 = .ok (.iload 8, 2)) ?_
        refine as_iload X (by decide +kernel : decode cX9_measures 191 = .ok (.iload 8, 2)) ?_
        refine as_iload X (by decide +kernel : decode cX9_measures 193 = .ok (.iload 6, 2)) ?_
        refine as_iadd X (by decide +kernel : decode cX9_measures 195 = .ok (.iadd, 1)) ?_
        refine as_iload X (by decide +kernel : decode cX9_measures 196 = .ok (.iload 9, 2)) ?_
        refine as_iload X (by decide +kernel : decode cX9_measures 198 = .ok (.iload 10, 2)) ?_
        refine as_cv X h_X9_piecesOf rfl (by decide +kernel : decode cX9_measures 200 = .ok (.invokevirtual 270, 3)) dn_X9_piecesOf ml_X9_270 im_X9_piecesOf se_X9_piecesOf ini_X9 co_X9_piecesOf R_X9_piecesOf ?_
        refine as_aload_n X (by decide +kernel : decode cX9_measures 203 = .ok (.aload_n 0, 1)) rfl ?_
        refine as_get X fc_X9 (by decide +kernel : decode cX9_measures 204 = .ok (.getfield 43, 3)) (by decide) fl_X9_43 ?_
        refine as_iload X (by decide +kernel : decode cX9_measures 207 = .ok (.iload 8, 2)) ?_
        refine as_iload X (by decide +kernel : decode cX9_measures 209 = .ok (.iload 8, 2)) ?_
        refine as_iload X (by decide +kernel : decode cX9_measures 211 = .ok (.iload 6, 2)) ?_
        refine as_iadd X (by decide +kernel : decode cX9_measures 213 = .ok (.iadd, 1)) ?_
        refine as_iload X (by decide +kernel : decode cX9_measures 214 = .ok (.iload 9, 2)) ?_
        refine as_iload X (by decide +kernel : decode cX9_measures 216 = .ok (.iload 10, 2)) ?_
        refine as_cs X h_X9_spot (by decide +kernel : decode cX9_measures 218 = .ok (.invokestatic 161, 3)) dn_X9_spot ml_X9_161 st_X9_spot ini_X9 co_X9_spot R_X9_spot ?_
        exact fun _ _ _ h => h
  · unfold B_X9_measures_221
    refine as_dup2 X (by decide +kernel : decode cX9_measures 221 = .ok (.dup2, 1)) ?_
    refine as_laload X (by decide +kernel : decode cX9_measures 222 = .ok (.laload, 1)) ?_
    refine as_aload_n X (by decide +kernel : decode cX9_measures 223 = .ok (.aload_n 0, 1)) rfl ?_
    refine as_cv X h_X9_packed rfl (by decide +kernel : decode cX9_measures 224 = .ok (.invokevirtual 267, 3)) dn_X9_packed ml_X9_267 im_X9_packed se_X9_packed ini_X9 co_X9_packed R_X9_packed ?_
    refine as_i2l X (by decide +kernel : decode cX9_measures 227 = .ok (.i2l, 1)) ?_
    refine as_bipush X (by decide +kernel : decode cX9_measures 228 = .ok (.bipush 32, 2)) rfl ?_
    refine as_lshl X (by decide +kernel : decode cX9_measures 230 = .ok (.lshl, 1)) ?_
    refine as_ladd X (by decide +kernel : decode cX9_measures 231 = .ok (.ladd, 1)) ?_
    refine as_lastore X (by decide +kernel : decode cX9_measures 232 = .ok (.lastore, 1)) ?_
    refine as_iinc X (by decide +kernel : decode cX9_measures 233 = .ok (.iinc 10 1, 3)) rfl ?_
    refine as_goto X (tgt := 132) (by decide +kernel : decode cX9_measures 236 = .ok (.goto (-104), 3)) (by decide) ?_
    exact fun _ _ _ h => h
  · unfold B_X9_measures_239
    refine as_iinc X (by decide +kernel : decode cX9_measures 239 = .ok (.iinc 9 1, 3)) rfl ?_
    refine as_goto X (tgt := 123) (by decide +kernel : decode cX9_measures 242 = .ok (.goto (-119), 3)) (by decide) ?_
    exact fun _ _ _ h => h
