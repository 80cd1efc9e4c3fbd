/-! points, closures, contracts, soundness; printed by wip/whole/gen.py -/
def B_X2_with_0 (Q : am_Q) (G : Nat → am_K) : am_K := (ak_ll 0 (ak_il 3 (ak_c (.int 31) (ak_ib (fun x y => x &&& y) (ak_i2l (ak_c (.int 5) (ak_il 2 (ak_ib (fun x y => x * y) (ak_lx (fun x y => x <<< (y.toInt64 &&& 63)) (ak_lb (fun x y => x ||| y) (ak_rl Q)))))))))))
def cl_X2_with (Q : am_Q) (G : Nat → am_K) : Prop := am_N G 0 (B_X2_with_0 Q G)
def WP_X2_with : am_T := fun av h Q => (lg_sl av).length ≤ 4 ∧ ∀ G, cl_X2_with Q G → G 0 (am_ent 4 av) [] h
set_option maxHeartbeats 4000000 in
set_option maxRecDepth 100000 in
theorem s_X2_with {rm : Room} (hz : rm.cells = 0 ∧ rm.slots = 0) : am_S false yX2_with (am_ws yX2_with cX2_with 4 (some .long)) rm (WP_X2_with) := by
  refine am_S.of (fun _ => hz) (by decide +kernel) (fun h0 Q G => cl_X2_with Q G) ?_
  intro p l e s m args below meth c D h0 Q X hr hnm hQ
  show am_N _ 0 (B_X2_with_0  Q _)
  · unfold B_X2_with_0
    refine as_lload_n X (by decide +kernel : decode cX2_with 0 = .ok (.lload_n 0, 1)) rfl ?_
    refine as_iload_n X (by decide +kernel : decode cX2_with 1 = .ok (.iload_n 3, 1)) rfl ?_
    refine as_bipush X (by decide +kernel : decode cX2_with 2 = .ok (.bipush 31, 2)) rfl ?_
    refine as_iand X (by decide +kernel : decode cX2_with 4 = .ok (.iand, 1)) ?_
    refine as_i2l X (by decide +kernel : decode cX2_with 5 = .ok (.i2l, 1)) ?_
    refine as_iconst X (by decide +kernel : decode cX2_with 6 = .ok (.iconst 5, 1)) rfl ?_
    refine as_iload_n X (by decide +kernel : decode cX2_with 7 = .ok (.iload_n 2, 1)) rfl ?_
    refine as_imul X (by decide +kernel : decode cX2_with 8 = .ok (.imul, 1)) ?_
    refine as_lshl X (by decide +kernel : decode cX2_with 9 = .ok (.lshl, 1)) ?_
    refine as_lor X (by decide +kernel : decode cX2_with 10 = .ok (.lor, 1)) ?_
    exact as_rl X hQ hr (by decide +kernel : decode cX2_with 11 = .ok (.lreturn, 1))

def B_X2_size_0 (Q : am_Q) (G : Nat → am_K) : am_K := (ak_c (.int 0) (ak_is 2 (G 2)))
def B_X2_size_2 (Q : am_Q) (G : Nat → am_K) : am_K := (ak_il 2 (ak_c (.int 12) (ak_ic (fun x y => y ≤ x) (G 24) (ak_ll 0 (ak_c (.int 5) (ak_il 2 (ak_ib (fun x y => x * y) (ak_lx (fun x y => (x.toUInt64 >>> (y.toInt64.toUInt64 &&& Int64.toUInt64 63)).toInt64) (ak_c (.long 0) (ak_lc (ak_if (fun x => x = 0) (G 24) (ak_ii 2 1 (G 2)))))))))))))
def B_X2_size_24 (Q : am_Q) (G : Nat → am_K) : am_K := (ak_il 2 (ak_ri Q))
def cl_X2_size (Q : am_Q) (G : Nat → am_K) : Prop := am_N G 0 (B_X2_size_0 Q G) ∧ am_N G 2 (B_X2_size_2 Q G) ∧ am_N G 24 (B_X2_size_24 Q G)
def WP_X2_size : am_T := fun av h Q => (lg_sl av).length ≤ 3 ∧ ∀ G, cl_X2_size Q G → G 0 (am_ent 3 av) [] h
set_option maxHeartbeats 4000000 in
set_option maxRecDepth 100000 in
theorem s_X2_size {rm : Room} (hz : rm.cells = 0 ∧ rm.slots = 0) : am_S false yX2_size (am_ws yX2_size cX2_size 3 (some .int)) rm (WP_X2_size) := by
  refine am_S.of (fun _ => hz) (by decide +kernel) (fun h0 Q G => cl_X2_size Q G) ?_
  intro p l e s m args below meth c D h0 Q X hr hnm hQ
  refine ⟨?_, ?_, ?_⟩
  · unfold B_X2_size_0
    refine as_iconst X (by decide +kernel : decode cX2_size 0 = .ok (.iconst 0, 1)) rfl ?_
    refine as_istore_n X (by decide +kernel : decode cX2_size 1 = .ok (.istore_n 2, 1)) rfl ?_
    exact fun _ _ _ h => h
  · unfold B_X2_size_2
    refine as_iload_n X (by decide +kernel : decode cX2_size 2 = .ok (.iload_n 2, 1)) rfl ?_
    refine as_bipush X (by decide +kernel : decode cX2_size 3 = .ok (.bipush 12, 2)) rfl ?_
    refine as_ic_ge X (tgt := 24) (by decide +kernel : decode cX2_size 5 = .ok (.if_icmp .ge 19, 3)) (by decide) ?_ ?_
    · exact fun _ _ _ h => h
    · refine as_lload_n X (by decide +kernel : decode cX2_size 8 = .ok (.lload_n 0, 1)) rfl ?_
      refine as_iconst X (by decide +kernel : decode cX2_size 9 = .ok (.iconst 5, 1)) rfl ?_
      refine as_iload_n X (by decide +kernel : decode cX2_size 10 = .ok (.iload_n 2, 1)) rfl ?_
      refine as_imul X (by decide +kernel : decode cX2_size 11 = .ok (.imul, 1)) ?_
      refine as_lushr X (by decide +kernel : decode cX2_size 12 = .ok (.lushr, 1)) ?_
      refine as_lconst X (by decide +kernel : decode cX2_size 13 = .ok (.lconst 0, 1)) rfl ?_
      refine as_lcmp X (by decide +kernel : decode cX2_size 14 = .ok (.lcmp, 1)) ?_
      refine as_if_eq X (tgt := 24) (by decide +kernel : decode cX2_size 15 = .ok (.ifCond .eq 9, 3)) (by decide) ?_ ?_
      · exact fun _ _ _ h => h
      · refine as_iinc X (by decide +kernel : decode cX2_size 18 = .ok (.iinc 2 1, 3)) rfl ?_
        refine as_goto X (tgt := 2) (by decide +kernel : decode cX2_size 21 = .ok (.goto (-19), 3)) (by decide) ?_
        exact fun _ _ _ h => h
  · unfold B_X2_size_24
    refine as_iload_n X (by decide +kernel : decode cX2_size 24 = .ok (.iload_n 2, 1)) rfl ?_
    exact as_ri X hQ hr (by decide +kernel : decode cX2_size 25 = .ok (.ireturn, 1))

def B_X2_at_0 (Q : am_Q) (G : Nat → am_K) : am_K := (ak_il 2 (ak_if (fun x => x < 0) (G 10) (ak_il 2 (ak_c (.int 12) (ak_ic (fun x y => x < y) (ak_c (.int 96) (ak_ll 0 (ak_c (.int 5) (ak_il 2 (ak_ib (fun x y => x * y) (ak_lx (fun x y => (x.toUInt64 >>> (y.toInt64.toUInt64 &&& Int64.toUInt64 63)).toInt64) (ak_c (.long 31) (ak_lb (fun x y => x &&& y) (ak_l2i (ak_ib (fun x y => x + y) (G 27))))))))))) (G 10))))))
def B_X2_at_10 (Q : am_Q) (G : Nat → am_K) : am_K := (ak_c (.int 0) (G 27))
def B_X2_at_27 (Q : am_Q) (G : Nat → am_K) : am_K := (ak_ri Q)
def cl_X2_at (Q : am_Q) (G : Nat → am_K) : Prop := am_N G 0 (B_X2_at_0 Q G) ∧ am_N G 10 (B_X2_at_10 Q G) ∧ am_N G 27 (B_X2_at_27 Q G)
def WP_X2_at : am_T := fun av h Q => (lg_sl av).length ≤ 3 ∧ ∀ G, cl_X2_at Q G → G 0 (am_ent 3 av) [] h
set_option maxHeartbeats 4000000 in
set_option maxRecDepth 100000 in
theorem s_X2_at {rm : Room} (hz : rm.cells = 0 ∧ rm.slots = 0) : am_S false yX2_at (am_ws yX2_at cX2_at 3 (some .int)) rm (WP_X2_at) := by
  refine am_S.of (fun _ => hz) (by decide +kernel) (fun h0 Q G => cl_X2_at Q G) ?_
  intro p l e s m args below meth c D h0 Q X hr hnm hQ
  refine ⟨?_, ?_, ?_⟩
  · unfold B_X2_at_0
    refine as_iload_n X (by decide +kernel : decode cX2_at 0 = .ok (.iload_n 2, 1)) rfl ?_
    refine as_if_lt X (tgt := 10) (by decide +kernel : decode cX2_at 1 = .ok (.ifCond .lt 9, 3)) (by decide) ?_ ?_
    · exact fun _ _ _ h => h
    · refine as_iload_n X (by decide +kernel : decode cX2_at 4 = .ok (.iload_n 2, 1)) rfl ?_
      refine as_bipush X (by decide +kernel : decode cX2_at 5 = .ok (.bipush 12, 2)) rfl ?_
      refine as_ic_lt X (tgt := 14) (by decide +kernel : decode cX2_at 7 = .ok (.if_icmp .lt 7, 3)) (by decide) ?_ ?_
      · refine as_bipush X (by decide +kernel : decode cX2_at 14 = .ok (.bipush 96, 2)) rfl ?_
        refine as_lload_n X (by decide +kernel : decode cX2_at 16 = .ok (.lload_n 0, 1)) rfl ?_
        refine as_iconst X (by decide +kernel : decode cX2_at 17 = .ok (.iconst 5, 1)) rfl ?_
        refine as_iload_n X (by decide +kernel : decode cX2_at 18 = .ok (.iload_n 2, 1)) rfl ?_
        refine as_imul X (by decide +kernel : decode cX2_at 19 = .ok (.imul, 1)) ?_
        refine as_lushr X (by decide +kernel : decode cX2_at 20 = .ok (.lushr, 1)) ?_
        refine as_ldc2 X (by decide +kernel : decode cX2_at 21 = .ok (.ldc2_w 11, 3)) kl_X2_11 ?_
        refine as_land X (by decide +kernel : decode cX2_at 24 = .ok (.land, 1)) ?_
        refine as_l2i X (by decide +kernel : decode cX2_at 25 = .ok (.l2i, 1)) ?_
        refine as_iadd X (by decide +kernel : decode cX2_at 26 = .ok (.iadd, 1)) ?_
        exact fun _ _ _ h => h
      · exact fun _ _ _ h => h
  · unfold B_X2_at_10
    refine as_iconst X (by decide +kernel : decode cX2_at 10 = .ok (.iconst 0, 1)) rfl ?_
    refine as_goto X (tgt := 27) (by decide +kernel : decode cX2_at 11 = .ok (.goto 16, 3)) (by decide) ?_
    exact fun _ _ _ h => h
  · unfold B_X2_at_27
    exact as_ri X hQ hr (by decide +kernel : decode cX2_at 27 = .ok (.ireturn, 1))

def B_X2_shortened_0 (kX2_size : am_T) (Q : am_Q) (G : Nat → am_K) : am_K := (ak_il 2 (ak_c (.int 7) (ak_ic (fun x y => x = y) (ak_ll 0 (ak_c (.int 5) (ak_lx (fun x y => (x.toUInt64 >>> (y.toInt64.toUInt64 &&& Int64.toUInt64 63)).toInt64) (ak_rl Q)))) (ak_ll 0 (ak_cs 1 kX2_size (ak_is 3 (ak_il 3 (ak_if (fun x => x = 0) (ak_c (.long 0) (G 34)) (ak_ll 0 (ak_c (.long 1) (ak_c (.int 5) (ak_il 3 (ak_c (.int 1) (ak_ib (fun x y => x - y) (ak_ib (fun x y => x * y) (ak_lx (fun x y => x <<< (y.toInt64 &&& 63)) (ak_c (.long 1) (ak_lb (fun x y => x - y) (ak_lb (fun x y => x &&& y) (G 34))))))))))))))))))))
def B_X2_shortened_34 (kX2_size : am_T) (Q : am_Q) (G : Nat → am_K) : am_K := (ak_rl Q)
def cl_X2_shortened (kX2_size : am_T) (Q : am_Q) (G : Nat → am_K) : Prop := am_N G 0 (B_X2_shortened_0 kX2_size Q G) ∧ am_N G 34 (B_X2_shortened_34 kX2_size Q G)
def WP_X2_shortened (kX2_size : am_T) : am_T := fun av h Q => (lg_sl av).length ≤ 4 ∧ ∀ G, cl_X2_shortened kX2_size Q G → G 0 (am_ent 4 av) [] h
set_option maxHeartbeats 4000000 in
set_option maxRecDepth 100000 in
theorem s_X2_shortened {mX2_size : Room} {kX2_size : am_T} (h_X2_size : am_S false yX2_size (am_ws yX2_size cX2_size 3 (some .int)) mX2_size kX2_size) {rm : Room} (hz : rm.cells = 0 ∧ rm.slots = 0) (R_X2_size : mX2_size.frames + 1 ≤ rm.frames ∧ 8 + (3 + 11) + mX2_size.locals ≤ rm.locals) : am_S false yX2_shortened (am_ws yX2_shortened cX2_shortened 4 (some .long)) rm (WP_X2_shortened kX2_size) := by
  refine am_S.of (fun _ => hz) (by decide +kernel) (fun h0 Q G => cl_X2_shortened kX2_size Q G) ?_
  intro p l e s m args below meth c D h0 Q X hr hnm hQ
  refine ⟨?_, ?_⟩
  · unfold B_X2_shortened_0
    refine as_iload_n X (by decide +kernel : decode cX2_shortened 0 = .ok (.iload_n 2, 1)) rfl ?_
    refine as_bipush X (by decide +kernel : decode cX2_shortened 1 = .ok (.bipush 7, 2)) rfl ?_
    refine as_ic_ne X (tgt := 10) (by decide +kernel : decode cX2_shortened 3 = .ok (.if_icmp .ne 7, 3)) (by decide) ?_ ?_
    · refine as_lload_n X (by decide +kernel : decode cX2_shortened 6 = .ok (.lload_n 0, 1)) rfl ?_
      refine as_iconst X (by decide +kernel : decode cX2_shortened 7 = .ok (.iconst 5, 1)) rfl ?_
      refine as_lushr X (by decide +kernel : decode cX2_shortened 8 = .ok (.lushr, 1)) ?_
      exact as_rl X hQ hr (by decide +kernel : decode cX2_shortened 9 = .ok (.lreturn, 1))
    · refine as_lload_n X (by decide +kernel : decode cX2_shortened 10 = .ok (.lload_n 0, 1)) rfl ?_
      refine as_cs X h_X2_size (by decide +kernel : decode cX2_shortened 11 = .ok (.invokestatic 13, 3)) dn_X2_size ml_X2_13 st_X2_size ini_X2 co_X2_size R_X2_size ?_
      refine as_istore_n X (by decide +kernel : decode cX2_shortened 14 = .ok (.istore_n 3, 1)) rfl ?_
      refine as_iload_n X (by decide +kernel : decode cX2_shortened 15 = .ok (.iload_n 3, 1)) rfl ?_
      refine as_if_ne X (tgt := 23) (by decide +kernel : decode cX2_shortened 16 = .ok (.ifCond .ne 7, 3)) (by decide) ?_ ?_
      · refine as_lconst X (by decide +kernel : decode cX2_shortened 19 = .ok (.lconst 0, 1)) rfl ?_
        refine as_goto X (tgt := 34) (by decide +kernel : decode cX2_shortened 20 = .ok (.goto 14, 3)) (by decide) ?_
        exact fun _ _ _ h => h
      · refine as_lload_n X (by decide +kernel : decode cX2_shortened 23 = .ok (.lload_n 0, 1)) rfl ?_
        refine as_lconst X (by decide +kernel : decode cX2_shortened 24 = .ok (.lconst 1, 1)) rfl ?_
        refine as_iconst X (by decide +kernel : decode cX2_shortened 25 = .ok (.iconst 5, 1)) rfl ?_
        refine as_iload_n X (by decide +kernel : decode cX2_shortened 26 = .ok (.iload_n 3, 1)) rfl ?_
        refine as_iconst X (by decide +kernel : decode cX2_shortened 27 = .ok (.iconst 1, 1)) rfl ?_
        refine as_isub X (by decide +kernel : decode cX2_shortened 28 = .ok (.isub, 1)) ?_
        refine as_imul X (by decide +kernel : decode cX2_shortened 29 = .ok (.imul, 1)) ?_
        refine as_lshl X (by decide +kernel : decode cX2_shortened 30 = .ok (.lshl, 1)) ?_
        refine as_lconst X (by decide +kernel : decode cX2_shortened 31 = .ok (.lconst 1, 1)) rfl ?_
        refine as_lsub X (by decide +kernel : decode cX2_shortened 32 = .ok (.lsub, 1)) ?_
        refine as_land X (by decide +kernel : decode cX2_shortened 33 = .ok (.land, 1)) ?_
        exact fun _ _ _ h => h
  · unfold B_X2_shortened_34
    exact as_rl X hQ hr (by decide +kernel : decode cX2_shortened 34 = .ok (.lreturn, 1))

def B_X2_areSame_0 (kX2_times : am_T) (Q : am_Q) (G : Nat → am_K) : am_K := (ak_c (.int 0) (ak_is 4 (G 3)))
def B_X2_areSame_3 (kX2_times : am_T) (Q : am_Q) (G : Nat → am_K) : am_K := (ak_il 4 (ak_c (.int 12) (ak_ic (fun x y => y ≤ x) (ak_c (.int 1) (ak_rz Q)) (ak_ll 0 (ak_c (.int 5) (ak_il 4 (ak_ib (fun x y => x * y) (ak_lx (fun x y => (x.toUInt64 >>> (y.toInt64.toUInt64 &&& Int64.toUInt64 63)).toInt64) (ak_c (.long 31) (ak_lb (fun x y => x &&& y) (ak_l2i (ak_is 5 (ak_il 5 (ak_ll 0 (ak_cs 2 kX2_times (ak_il 5 (ak_ll 2 (ak_cs 2 kX2_times (ak_ic (fun x y => x = y) (ak_ii 4 1 (G 3)) (ak_c (.int 0) (ak_rz Q)))))))))))))))))))))
def cl_X2_areSame (kX2_times : am_T) (Q : am_Q) (G : Nat → am_K) : Prop := am_N G 0 (B_X2_areSame_0 kX2_times Q G) ∧ am_N G 3 (B_X2_areSame_3 kX2_times Q G)
def WP_X2_areSame (kX2_times : am_T) : am_T := fun av h Q => (lg_sl av).length ≤ 6 ∧ ∀ G, cl_X2_areSame kX2_times Q G → G 0 (am_ent 6 av) [] h
set_option maxHeartbeats 4000000 in
set_option maxRecDepth 100000 in
theorem s_X2_areSame {mX2_times : Room} {kX2_times : am_T} (h_X2_times : am_S false yX2_times (am_ws yX2_times cX2_times 5 (some .int)) mX2_times kX2_times) {rm : Room} (hz : rm.cells = 0 ∧ rm.slots = 0) (R_X2_times : mX2_times.frames + 1 ≤ rm.frames ∧ 8 + (5 + 11) + mX2_times.locals ≤ rm.locals) : am_S false yX2_areSame (am_ws yX2_areSame cX2_areSame 6 (some .boolean)) rm (WP_X2_areSame kX2_times) := by
  refine am_S.of (fun _ => hz) (by decide +kernel) (fun h0 Q G => cl_X2_areSame kX2_times Q G) ?_
  intro p l e s m args below meth c D h0 Q X hr hnm hQ
  refine ⟨?_, ?_⟩
  · unfold B_X2_areSame_0
    refine as_iconst X (by decide +kernel : decode cX2_areSame 0 = .ok (.iconst 0, 1)) rfl ?_
    refine as_istore X (by decide +kernel : decode cX2_areSame 1 = .ok (.istore 4, 2)) ?_
    exact fun _ _ _ h => h
  · unfold B_X2_areSame_3
    refine as_iload X (by decide +kernel : decode cX2_areSame 3 = .ok (.iload 4, 2)) ?_
    refine as_bipush X (by decide +kernel : decode cX2_areSame 5 = .ok (.bipush 12, 2)) rfl ?_
    refine as_ic_ge X (tgt := 46) (by decide +kernel : decode cX2_areSame 7 = .ok (.if_icmp .ge 39, 3)) (by decide) ?_ ?_
    · refine as_iconst X (by decide +kernel : decode cX2_areSame 46 = .ok (.iconst 1, 1)) rfl ?_
      exact as_rz X hQ hr (by decide +kernel : decode cX2_areSame 47 = .ok (.ireturn, 1))
    · refine as_lload_n X (by decide +kernel : decode cX2_areSame 10 = .ok (.lload_n 0, 1)) rfl ?_
      refine as_iconst X (by decide +kernel : decode cX2_areSame 11 = .ok (.iconst 5, 1)) rfl ?_
      refine as_iload X (by decide +kernel : decode cX2_areSame 12 = .ok (.iload 4, 2)) ?_
      refine as_imul X (by decide +kernel : decode cX2_areSame 14 = .ok (.imul, 1)) ?_
      refine as_lushr X (by decide +kernel : decode cX2_areSame 15 = .ok (.lushr, 1)) ?_
      refine as_ldc2 X (by decide +kernel : decode cX2_areSame 16 = .ok (.ldc2_w 11, 3)) kl_X2_11 ?_
      refine as_land X (by decide +kernel : decode cX2_areSame 19 = .ok (.land, 1)) ?_
      refine as_l2i X (by decide +kernel : decode cX2_areSame 20 = .ok (.l2i, 1)) ?_
      refine as_istore X (by decide +kernel : decode cX2_areSame 21 = .ok (.istore 5, 2)) ?_
      refine as_iload X (by decide +kernel : decode cX2_areSame 23 = .ok (.iload 5, 2)) ?_
      refine as_lload_n X (by decide +kernel : decode cX2_areSame 25 = .ok (.lload_n 0, 1)) rfl ?_
      refine as_cs X h_X2_times (by decide +kernel : decode cX2_areSame 26 = .ok (.invokestatic 17, 3)) dn_X2_times ml_X2_17 st_X2_times ini_X2 co_X2_times R_X2_times ?_
      refine as_iload X (by decide +kernel : decode cX2_areSame 29 = .ok (.iload 5, 2)) ?_
      refine as_lload_n X (by decide +kernel : decode cX2_areSame 31 = .ok (.lload_n 2, 1)) rfl ?_
      refine as_cs X h_X2_times (by decide +kernel : decode cX2_areSame 32 = .ok (.invokestatic 17, 3)) dn_X2_times ml_X2_17 st_X2_times ini_X2 co_X2_times R_X2_times ?_
      refine as_ic_eq X (tgt := 40) (by decide +kernel : decode cX2_areSame 35 = .ok (.if_icmp .eq 5, 3)) (by decide) ?_ ?_
      · refine as_iinc X (by decide +kernel : decode cX2_areSame 40 = .ok (.iinc 4 1, 3)) rfl ?_
        refine as_goto X (tgt := 3) (by decide +kernel : decode cX2_areSame 43 = .ok (.goto (-40), 3)) (by decide) ?_
        exact fun _ _ _ h => h
      · refine as_iconst X (by decide +kernel : decode cX2_areSame 38 = .ok (.iconst 0, 1)) rfl ?_
        exact as_rz X hQ hr (by decide +kernel : decode cX2_areSame 39 = .ok (.ireturn, 1))

def B_X2_times_0 (Q : am_Q) (G : Nat → am_K) : am_K := (ak_c (.int 0) (ak_is 3 (ak_c (.int 0) (ak_is 4 (G 5)))))
def B_X2_times_5 (Q : am_Q) (G : Nat → am_K) : am_K := (ak_il 4 (ak_c (.int 12) (ak_ic (fun x y => y ≤ x) (ak_il 3 (ak_ri Q)) (ak_ll 1 (ak_c (.int 5) (ak_il 4 (ak_ib (fun x y => x * y) (ak_lx (fun x y => (x.toUInt64 >>> (y.toInt64.toUInt64 &&& Int64.toUInt64 63)).toInt64) (ak_c (.long 31) (ak_lb (fun x y => x &&& y) (ak_il 0 (ak_i2l (ak_lc (ak_if (fun x => x = 0) (ak_ii 3 1 (G 31)) (G 31)))))))))))))))
def B_X2_times_31 (Q : am_Q) (G : Nat → am_K) : am_K := (ak_ii 4 1 (G 5))
def cl_X2_times (Q : am_Q) (G : Nat → am_K) : Prop := am_N G 0 (B_X2_times_0 Q G) ∧ am_N G 5 (B_X2_times_5 Q G) ∧ am_N G 31 (B_X2_times_31 Q G)
def WP_X2_times : am_T := fun av h Q => (lg_sl av).length ≤ 5 ∧ ∀ G, cl_X2_times Q G → G 0 (am_ent 5 av) [] h
set_option maxHeartbeats 4000000 in
set_option maxRecDepth 100000 in
theorem s_X2_times {rm : Room} (hz : rm.cells = 0 ∧ rm.slots = 0) : am_S false yX2_times (am_ws yX2_times cX2_times 5 (some .int)) rm (WP_X2_times) := by
  refine am_S.of (fun _ => hz) (by decide +kernel) (fun h0 Q G => cl_X2_times Q G) ?_
  intro p l e s m args below meth c D h0 Q X hr hnm hQ
  refine ⟨?_, ?_, ?_⟩
  · unfold B_X2_times_0
    refine as_iconst X (by decide +kernel : decode cX2_times 0 = .ok (.iconst 0, 1)) rfl ?_
    refine as_istore_n X (by decide +kernel : decode cX2_times 1 = .ok (.istore_n 3, 1)) rfl ?_
    refine as_iconst X (by decide +kernel : decode cX2_times 2 = .ok (.iconst 0, 1)) rfl ?_
    refine as_istore X (by decide +kernel : decode cX2_times 3 = .ok (.istore 4, 2)) ?_
    exact fun _ _ _ h => h
  · unfold B_X2_times_5
    refine as_iload X (by decide +kernel : decode cX2_times 5 = .ok (.iload 4, 2)) ?_
    refine as_bipush X (by decide +kernel : decode cX2_times 7 = .ok (.bipush 12, 2)) rfl ?_
    refine as_ic_ge X (tgt := 37) (by decide +kernel : decode cX2_times 9 = .ok (.if_icmp .ge 28, 3)) (by decide) ?_ ?_
    · refine as_iload_n X (by decide +kernel : decode cX2_times 37 = .ok (.iload_n 3, 1)) rfl ?_
      exact as_ri X hQ hr (by decide +kernel : decode cX2_times 38 = .ok (.ireturn, 1))
    · refine as_lload_n X (by decide +kernel : decode cX2_times 12 = .ok (.lload_n 1, 1)) rfl ?_
      refine as_iconst X (by decide +kernel : decode cX2_times 13 = .ok (.iconst 5, 1)) rfl ?_
      refine as_iload X (by decide +kernel : decode cX2_times 14 = .ok (.iload 4, 2)) ?_
      refine as_imul X (by decide +kernel : decode cX2_times 16 = .ok (.imul, 1)) ?_
      refine as_lushr X (by decide +kernel : decode cX2_times 17 = .ok (.lushr, 1)) ?_
      refine as_ldc2 X (by decide +kernel : decode cX2_times 18 = .ok (.ldc2_w 11, 3)) kl_X2_11 ?_
      refine as_land X (by decide +kernel : decode cX2_times 21 = .ok (.land, 1)) ?_
      refine as_iload_n X (by decide +kernel : decode cX2_times 22 = .ok (.iload_n 0, 1)) rfl ?_
      refine as_i2l X (by decide +kernel : decode cX2_times 23 = .ok (.i2l, 1)) ?_
      refine as_lcmp X (by decide +kernel : decode cX2_times 24 = .ok (.lcmp, 1)) ?_
      refine as_if_ne X (tgt := 31) (by decide +kernel : decode cX2_times 25 = .ok (.ifCond .ne 6, 3)) (by decide) ?_ ?_
      · refine as_iinc X (by decide +kernel : decode cX2_times 28 = .ok (.iinc 3 1, 3)) rfl ?_
        exact fun _ _ _ h => h
      · exact fun _ _ _ h => h
  · unfold B_X2_times_31
    refine as_iinc X (by decide +kernel : decode cX2_times 31 = .ok (.iinc 4 1, 3)) rfl ?_
    refine as_goto X (tgt := 5) (by decide +kernel : decode cX2_times 34 = .ok (.goto (-29), 3)) (by decide) ?_
    exact fun _ _ _ h => h

def B_X4_size_0 (kJ6_bitCount_0f7a4 : am_T) (Q : am_Q) (G : Nat → am_K) : am_K := (ak_il 0 (ak_c (.int 255) (ak_ib (fun x y => x &&& y) (ak_cs 1 kJ6_bitCount_0f7a4 (ak_ri Q)))))
def cl_X4_size (kJ6_bitCount_0f7a4 : am_T) (Q : am_Q) (G : Nat → am_K) : Prop := am_N G 0 (B_X4_size_0 kJ6_bitCount_0f7a4 Q G)
def WP_X4_size (kJ6_bitCount_0f7a4 : am_T) : am_T := fun av h Q => (lg_sl av).length ≤ 1 ∧ ∀ G, cl_X4_size kJ6_bitCount_0f7a4 Q G → G 0 (am_ent 1 av) [] h
set_option maxHeartbeats 4000000 in
set_option maxRecDepth 100000 in
theorem s_X4_size {mJ6_bitCount_0f7a4 : Room} {kJ6_bitCount_0f7a4 : am_T} (h_J6_bitCount_0f7a4 : am_S false yJ6_bitCount_0f7a4 (am_ws yJ6_bitCount_0f7a4 cJ6_bitCount_0f7a4 1 (some .int)) mJ6_bitCount_0f7a4 kJ6_bitCount_0f7a4) {rm : Room} (hz : rm.cells = 0 ∧ rm.slots = 0) (R_J6_bitCount_0f7a4 : mJ6_bitCount_0f7a4.frames + 1 ≤ rm.frames ∧ 8 + (1 + 11) + mJ6_bitCount_0f7a4.locals ≤ rm.locals) : am_S false yX4_size (am_ws yX4_size cX4_size 1 (some .int)) rm (WP_X4_size kJ6_bitCount_0f7a4) := by
  refine am_S.of (fun _ => hz) (by decide +kernel) (fun h0 Q G => cl_X4_size kJ6_bitCount_0f7a4 Q G) ?_
  intro p l e s m args below meth c D h0 Q X hr hnm hQ
  show am_N _ 0 (B_X4_size_0  kJ6_bitCount_0f7a4 Q _)
  · unfold B_X4_size_0
    refine as_iload_n X (by decide +kernel : decode cX4_size 0 = .ok (.iload_n 0, 1)) rfl ?_
    refine as_sipush X (by decide +kernel : decode cX4_size 1 = .ok (.sipush 255, 3)) rfl ?_
    refine as_iand X (by decide +kernel : decode cX4_size 4 = .ok (.iand, 1)) ?_
    refine as_cs X h_J6_bitCount_0f7a4 (by decide +kernel : decode cX4_size 5 = .ok (.invokestatic 11, 3)) dn_J6_bitCount_0f7a4 ml_X4_11 st_J6_bitCount_0f7a4 ini_J6 co_J6_bitCount_0f7a4 R_J6_bitCount_0f7a4 ?_
    exact as_ri X hQ hr (by decide +kernel : decode cX4_size 8 = .ok (.ireturn, 1))

def B_X4_firstLetter_0 (Q : am_Q) (G : Nat → am_K) : am_K := (ak_il 0 (ak_c (.int 255) (ak_ib (fun x y => x &&& y) (ak_is 1 (ak_il 0 (ak_c (.int 256) (ak_ib (fun x y => x &&& y) (ak_if (fun x => x = 0) (ak_il 1 (ak_il 1 (ak_iu (fun x => -x) (ak_ib (fun x y => x &&& y) (ak_ri Q))))) (ak_c (.int 128) (ak_is 2 (G 23)))))))))))
def B_X4_firstLetter_23 (Q : am_Q) (G : Nat → am_K) : am_K := (ak_il 2 (ak_if (fun x => x ≤ 0) (ak_c (.int 0) (ak_ri Q)) (ak_il 1 (ak_il 2 (ak_ib (fun x y => x &&& y) (ak_if (fun x => x = 0) (ak_il 2 (ak_c (.int 1) (ak_ib (fun x y => x >>> (y &&& 31)) (ak_is 2 (G 23))))) (ak_il 2 (ak_ri Q))))))))
def cl_X4_firstLetter (Q : am_Q) (G : Nat → am_K) : Prop := am_N G 0 (B_X4_firstLetter_0 Q G) ∧ am_N G 23 (B_X4_firstLetter_23 Q G)
def WP_X4_firstLetter : am_T := fun av h Q => (lg_sl av).length ≤ 3 ∧ ∀ G, cl_X4_firstLetter Q G → G 0 (am_ent 3 av) [] h
set_option maxHeartbeats 4000000 in
set_option maxRecDepth 100000 in
theorem s_X4_firstLetter {rm : Room} (hz : rm.cells = 0 ∧ rm.slots = 0) : am_S false yX4_firstLetter (am_ws yX4_firstLetter cX4_firstLetter 3 (some .int)) rm (WP_X4_firstLetter) := by
  refine am_S.of (fun _ => hz) (by decide +kernel) (fun h0 Q G => cl_X4_firstLetter Q G) ?_
  intro p l e s m args below meth c D h0 Q X hr hnm hQ
  refine ⟨?_, ?_⟩
  · unfold B_X4_firstLetter_0
    refine as_iload_n X (by decide +kernel : decode cX4_firstLetter 0 = .ok (.iload_n 0, 1)) rfl ?_
    refine as_sipush X (by decide +kernel : decode cX4_firstLetter 1 = .ok (.sipush 255, 3)) rfl ?_
    refine as_iand X (by decide +kernel : decode cX4_firstLetter 4 = .ok (.iand, 1)) ?_
    refine as_istore_n X (by decide +kernel : decode cX4_firstLetter 5 = .ok (.istore_n 1, 1)) rfl ?_
    refine as_iload_n X (by decide +kernel : decode cX4_firstLetter 6 = .ok (.iload_n 0, 1)) rfl ?_
    refine as_sipush X (by decide +kernel : decode cX4_firstLetter 7 = .ok (.sipush 256, 3)) rfl ?_
    refine as_iand X (by decide +kernel : decode cX4_firstLetter 10 = .ok (.iand, 1)) ?_
    refine as_if_ne X (tgt := 19) (by decide +kernel : decode cX4_firstLetter 11 = .ok (.ifCond .ne 8, 3)) (by decide) ?_ ?_
    · refine as_iload_n X (by decide +kernel : decode cX4_firstLetter 14 = .ok (.iload_n 1, 1)) rfl ?_
      refine as_iload_n X (by decide +kernel : decode cX4_firstLetter 15 = .ok (.iload_n 1, 1)) rfl ?_
      refine as_ineg X (by decide +kernel : decode cX4_firstLetter 16 = .ok (.ineg, 1)) ?_
      refine as_iand X (by decide +kernel : decode cX4_firstLetter 17 = .ok (.iand, 1)) ?_
      exact as_ri X hQ hr (by decide +kernel : decode cX4_firstLetter 18 = .ok (.ireturn, 1))
    · refine as_sipush X (by decide +kernel : decode cX4_firstLetter 19 = .ok (.sipush 128, 3)) rfl ?_
      refine as_istore_n X (by decide +kernel : decode cX4_firstLetter 22 = .ok (.istore_n 2, 1)) rfl ?_
      exact fun _ _ _ h => h
  · unfold B_X4_firstLetter_23
    refine as_iload_n X (by decide +kernel : decode cX4_firstLetter 23 = .ok (.iload_n 2, 1)) rfl ?_
    refine as_if_le X (tgt := 42) (by decide +kernel : decode cX4_firstLetter 24 = .ok (.ifCond .le 18, 3)) (by decide) ?_ ?_
    · refine as_iconst X (by decide +kernel : decode cX4_firstLetter 42 = .ok (.iconst 0, 1)) rfl ?_
      exact as_ri X hQ hr (by decide +kernel : decode cX4_firstLetter 43 = .ok (.ireturn, 1))
    · refine as_iload_n X (by decide +kernel : decode cX4_firstLetter 27 = .ok (.iload_n 1, 1)) rfl ?_
      refine as_iload_n X (by decide +kernel : decode cX4_firstLetter 28 = .ok (.iload_n 2, 1)) rfl ?_
      refine as_iand X (by decide +kernel : decode cX4_firstLetter 29 = .ok (.iand, 1)) ?_
      refine as_if_eq X (tgt := 35) (by decide +kernel : decode cX4_firstLetter 30 = .ok (.ifCond .eq 5, 3)) (by decide) ?_ ?_
      · refine as_iload_n X (by decide +kernel : decode cX4_firstLetter 35 = .ok (.iload_n 2, 1)) rfl ?_
        refine as_iconst X (by decide +kernel : decode cX4_firstLetter 36 = .ok (.iconst 1, 1)) rfl ?_
        refine as_ishr X (by decide +kernel : decode cX4_firstLetter 37 = .ok (.ishr, 1)) ?_
        refine as_istore_n X (by decide +kernel : decode cX4_firstLetter 38 = .ok (.istore_n 2, 1)) rfl ?_
        refine as_goto X (tgt := 23) (by decide +kernel : decode cX4_firstLetter 39 = .ok (.goto (-16), 3)) (by decide) ?_
        exact fun _ _ _ h => h
      · refine as_iload_n X (by decide +kernel : decode cX4_firstLetter 33 = .ok (.iload_n 2, 1)) rfl ?_
        exact as_ri X hQ hr (by decide +kernel : decode cX4_firstLetter 34 = .ok (.ireturn, 1))

def B_X4_direction_0 (Q : am_Q) (G : Nat → am_K) : am_K := (ak_il 0 (ak_c (.int 256) (ak_ib (fun x y => x &&& y) (ak_ri Q))))
def cl_X4_direction (Q : am_Q) (G : Nat → am_K) : Prop := am_N G 0 (B_X4_direction_0 Q G)
def WP_X4_direction : am_T := fun av h Q => (lg_sl av).length ≤ 1 ∧ ∀ G, cl_X4_direction Q G → G 0 (am_ent 1 av) [] h
set_option maxHeartbeats 4000000 in
set_option maxRecDepth 100000 in
theorem s_X4_direction {rm : Room} (hz : rm.cells = 0 ∧ rm.slots = 0) : am_S false yX4_direction (am_ws yX4_direction cX4_direction 1 (some .int)) rm (WP_X4_direction) := by
  refine am_S.of (fun _ => hz) (by decide +kernel) (fun h0 Q G => cl_X4_direction Q G) ?_
  intro p l e s m args below meth c D h0 Q X hr hnm hQ
  show am_N _ 0 (B_X4_direction_0  Q _)
  · unfold B_X4_direction_0
    refine as_iload_n X (by decide +kernel : decode cX4_direction 0 = .ok (.iload_n 0, 1)) rfl ?_
    refine as_sipush X (by decide +kernel : decode cX4_direction 1 = .ok (.sipush 256, 3)) rfl ?_
    refine as_iand X (by decide +kernel : decode cX4_direction 4 = .ok (.iand, 1)) ?_
    exact as_ri X hQ hr (by decide +kernel : decode cX4_direction 5 = .ok (.ireturn, 1))

def B_X4_reversed_0 (Q : am_Q) (G : Nat → am_K) : am_K := (ak_il 0 (ak_c (.int 256) (ak_ib (fun x y => x ^^^ y) (ak_ri Q))))
def cl_X4_reversed (Q : am_Q) (G : Nat → am_K) : Prop := am_N G 0 (B_X4_reversed_0 Q G)
def WP_X4_reversed : am_T := fun av h Q => (lg_sl av).length ≤ 1 ∧ ∀ G, cl_X4_reversed Q G → G 0 (am_ent 1 av) [] h
set_option maxHeartbeats 4000000 in
set_option maxRecDepth 100000 in
theorem s_X4_reversed {rm : Room} (hz : rm.cells = 0 ∧ rm.slots = 0) : am_S false yX4_reversed (am_ws yX4_reversed cX4_reversed 1 (some .int)) rm (WP_X4_reversed) := by
  refine am_S.of (fun _ => hz) (by decide +kernel) (fun h0 Q G => cl_X4_reversed Q G) ?_
  intro p l e s m args below meth c D h0 Q X hr hnm hQ
  show am_N _ 0 (B_X4_reversed_0  Q _)
  · unfold B_X4_reversed_0
    refine as_iload_n X (by decide +kernel : decode cX4_reversed 0 = .ok (.iload_n 0, 1)) rfl ?_
    refine as_sipush X (by decide +kernel : decode cX4_reversed 1 = .ok (.sipush 256, 3)) rfl ?_
    refine as_ixor X (by decide +kernel : decode cX4_reversed 4 = .ok (.ixor, 1)) ?_
    exact as_ri X hQ hr (by decide +kernel : decode cX4_reversed 5 = .ok (.ireturn, 1))

def B_X4_minus_0 (Q : am_Q) (G : Nat → am_K) : am_K := (ak_il 0 (ak_il 1 (ak_c (.int 255) (ak_ib (fun x y => x &&& y) (ak_c (.int (-1)) (ak_ib (fun x y => x ^^^ y) (ak_ib (fun x y => x &&& y) (ak_ri Q))))))))
def cl_X4_minus (Q : am_Q) (G : Nat → am_K) : Prop := am_N G 0 (B_X4_minus_0 Q G)
def WP_X4_minus : am_T := fun av h Q => (lg_sl av).length ≤ 2 ∧ ∀ G, cl_X4_minus Q G → G 0 (am_ent 2 av) [] h
set_option maxHeartbeats 4000000 in
set_option maxRecDepth 100000 in
theorem s_X4_minus {rm : Room} (hz : rm.cells = 0 ∧ rm.slots = 0) : am_S false yX4_minus (am_ws yX4_minus cX4_minus 2 (some .int)) rm (WP_X4_minus) := by
  refine am_S.of (fun _ => hz) (by decide +kernel) (fun h0 Q G => cl_X4_minus Q G) ?_
  intro p l e s m args below meth c D h0 Q X hr hnm hQ
  show am_N _ 0 (B_X4_minus_0  Q _)
  · unfold B_X4_minus_0
    refine as_iload_n X (by decide +kernel : decode cX4_minus 0 = .ok (.iload_n 0, 1)) rfl ?_
    refine as_iload_n X (by decide +kernel : decode cX4_minus 1 = .ok (.iload_n 1, 1)) rfl ?_
    refine as_sipush X (by decide +kernel : decode cX4_minus 2 = .ok (.sipush 255, 3)) rfl ?_
    refine as_iand X (by decide +kernel : decode cX4_minus 5 = .ok (.iand, 1)) ?_
    refine as_iconst X (by decide +kernel : decode cX4_minus 6 = .ok (.iconst (-1), 1)) rfl ?_
    refine as_ixor X (by decide +kernel : decode cX4_minus 7 = .ok (.ixor, 1)) ?_
    refine as_iand X (by decide +kernel : decode cX4_minus 8 = .ok (.iand, 1)) ?_
    exact as_ri X hQ hr (by decide +kernel : decode cX4_minus 9 = .ok (.ireturn, 1))

def B_X6_init_0 (h0 : am_H) (rc rs : Nat) (Q : am_Q) (G : Nat → am_K) : am_K := (ak_al 0 (ak_oi (ak_al 0 (ak_il 1 (ak_newi h0 rc rs (ak_puta 4 0 (ak_al 0 (ak_il 1 (ak_newl h0 rc rs (ak_puta 4 1 (ak_al 0 (ak_il 1 (ak_newi h0 rc rs (ak_puta 4 2 (ak_al 0 (ak_il 1 (ak_newl h0 rc rs (ak_puta 4 3 (ak_al 0 (ak_il 1 (ak_newi h0 rc rs (ak_puta 4 4 (ak_rv Q)))))))))))))))))))))))
def cl_X6_init (h0 : am_H) (rc rs : Nat) (Q : am_Q) (G : Nat → am_K) : Prop := am_N G 0 (B_X6_init_0 h0 rc rs Q G)
def WP_X6_init (rc rs : Nat) : am_T := fun av h Q => (lg_sl av).length ≤ 2 ∧ ∀ G, cl_X6_init h rc rs Q G → G 0 (am_ent 2 av) [] h
set_option maxHeartbeats 4000000 in
set_option maxRecDepth 100000 in
theorem s_X6_init {rm : Room} (hO : 1 ≤ rm.frames ∧ 20 ≤ rm.locals) : am_S true yX6_init (am_ws yX6_init cX6_init 2 none) rm (WP_X6_init rm.cells rm.slots) := by
  refine am_S.of (fun q => by cases q) (by decide +kernel) (fun h0 Q G => cl_X6_init h0 rm.cells rm.slots Q G) ?_
  intro p l e s m args below meth c D h0 Q X hr hnm hQ
  show am_N _ 0 (B_X6_init_0  h0 rm.cells rm.slots Q _)
  · unfold B_X6_init_0
    refine as_aload_n X (by decide +kernel : decode cX6_init 0 = .ok (.aload_n 0, 1)) rfl ?_
    refine as_oi X (by decide +kernel : decode cX6_init 1 = .ok (.invokespecial 3, 3)) ml_X6_3 im_objectInit co_objectInit hO.1 hO.2 ?_
    refine as_aload_n X (by decide +kernel : decode cX6_init 4 = .ok (.aload_n 0, 1)) rfl ?_
    refine as_iload_n X (by decide +kernel : decode cX6_init 5 = .ok (.iload_n 1, 1)) rfl ?_
    refine as_newi X (by decide +kernel : decode cX6_init 6 = .ok (.newarray .int, 2)) ac_int ?_
    refine as_puta X fc_X6 (by decide +kernel : decode cX6_init 8 = .ok (.putfield 9, 3)) (by decide) fl_X6_9 (Or.inr ⟨rfl, hnm, rfl⟩) (Or.inl ⟨_, rfl⟩) ?_
    refine as_aload_n X (by decide +kernel : decode cX6_init 11 = .ok (.aload_n 0, 1)) rfl ?_
    refine as_iload_n X (by decide +kernel : decode cX6_init 12 = .ok (.iload_n 1, 1)) rfl ?_
    refine as_newl X (by decide +kernel : decode cX6_init 13 = .ok (.newarray .long, 2)) ac_long ?_
    refine as_puta X fc_X6 (by decide +kernel : decode cX6_init 15 = .ok (.putfield 15, 3)) (by decide) fl_X6_15 (Or.inr ⟨rfl, hnm, rfl⟩) (Or.inl ⟨_, rfl⟩) ?_
    refine as_aload_n X (by decide +kernel : decode cX6_init 18 = .ok (.aload_n 0, 1)) rfl ?_
    refine as_iload_n X (by decide +kernel : decode cX6_init 19 = .ok (.iload_n 1, 1)) rfl ?_
    refine as_newi X (by decide +kernel : decode cX6_init 20 = .ok (.newarray .int, 2)) ac_int ?_
    refine as_puta X fc_X6 (by decide +kernel : decode cX6_init 22 = .ok (.putfield 19, 3)) (by decide) fl_X6_19 (Or.inr ⟨rfl, hnm, rfl⟩) (Or.inl ⟨_, rfl⟩) ?_
    refine as_aload_n X (by decide +kernel : decode cX6_init 25 = .ok (.aload_n 0, 1)) rfl ?_
    refine as_iload_n X (by decide +kernel : decode cX6_init 26 = .ok (.iload_n 1, 1)) rfl ?_
    refine as_newl X (by decide +kernel : decode cX6_init 27 = .ok (.newarray .long, 2)) ac_long ?_
    refine as_puta X fc_X6 (by decide +kernel : decode cX6_init 29 = .ok (.putfield 22, 3)) (by decide) fl_X6_22 (Or.inr ⟨rfl, hnm, rfl⟩) (Or.inl ⟨_, rfl⟩) ?_
    refine as_aload_n X (by decide +kernel : decode cX6_init 32 = .ok (.aload_n 0, 1)) rfl ?_
    refine as_iload_n X (by decide +kernel : decode cX6_init 33 = .ok (.iload_n 1, 1)) rfl ?_
    refine as_newi X (by decide +kernel : decode cX6_init 34 = .ok (.newarray .int, 2)) ac_int ?_
    refine as_puta X fc_X6 (by decide +kernel : decode cX6_init 36 = .ok (.putfield 25, 3)) (by decide) fl_X6_25 (Or.inr ⟨rfl, hnm, rfl⟩) (Or.inl ⟨_, rfl⟩) ?_
    exact as_rv X hQ hr (by decide +kernel : decode cX6_init 39 = .ok (.return_, 1))

def B_X6_has_0 (Q : am_Q) (G : Nat → am_K) : am_K := (ak_il 1 (ak_if (fun x => x < 0) (G 17) (ak_il 1 (ak_al 0 (ak_get 4 0 (ak_alen (ak_ic (fun x y => y ≤ x) (G 17) (ak_c (.int 1) (G 18)))))))))
def B_X6_has_17 (Q : am_Q) (G : Nat → am_K) : am_K := (ak_c (.int 0) (G 18))
def B_X6_has_18 (Q : am_Q) (G : Nat → am_K) : am_K := (ak_rz Q)
def cl_X6_has (Q : am_Q) (G : Nat → am_K) : Prop := am_N G 0 (B_X6_has_0 Q G) ∧ am_N G 17 (B_X6_has_17 Q G) ∧ am_N G 18 (B_X6_has_18 Q G)
def WP_X6_has : am_T := fun av h Q => (lg_sl av).length ≤ 2 ∧ ∀ G, cl_X6_has Q G → G 0 (am_ent 2 av) [] h
set_option maxHeartbeats 4000000 in
set_option maxRecDepth 100000 in
theorem s_X6_has {rm : Room} (hz : rm.cells = 0 ∧ rm.slots = 0) : am_S false yX6_has (am_ws yX6_has cX6_has 2 (some .boolean)) rm (WP_X6_has) := by
  refine am_S.of (fun _ => hz) (by decide +kernel) (fun h0 Q G => cl_X6_has Q G) ?_
  intro p l e s m args below meth c D h0 Q X hr hnm hQ
  refine ⟨?_, ?_, ?_⟩
  · unfold B_X6_has_0
    refine as_iload_n X (by decide +kernel : decode cX6_has 0 = .ok (.iload_n 1, 1)) rfl ?_
    refine as_if_lt X (tgt := 17) (by decide +kernel : decode cX6_has 1 = .ok (.ifCond .lt 16, 3)) (by decide) ?_ ?_
    · exact fun _ _ _ h => h
    · refine as_iload_n X (by decide +kernel : decode cX6_has 4 = .ok (.iload_n 1, 1)) rfl ?_
      refine as_aload_n X (by decide +kernel : decode cX6_has 5 = .ok (.aload_n 0, 1)) rfl ?_
      refine as_get X fc_X6 (by decide +kernel : decode cX6_has 6 = .ok (.getfield 9, 3)) (by decide) fl_X6_9 ?_
      refine as_arraylength X (by decide +kernel : decode cX6_has 9 = .ok (.arraylength, 1)) ?_
      refine as_ic_ge X (tgt := 17) (by decide +kernel : decode cX6_has 10 = .ok (.if_icmp .ge 7, 3)) (by decide) ?_ ?_
      · exact fun _ _ _ h => h
      · refine as_iconst X (by decide +kernel : decode cX6_has 13 = .ok (.iconst 1, 1)) rfl ?_
        refine as_goto X (tgt := 18) (by decide +kernel : decode cX6_has 14 = .ok (.goto 4, 3)) (by decide) ?_
        exact fun _ _ _ h => h
  · unfold B_X6_has_17
    refine as_iconst X (by decide +kernel : decode cX6_has 17 = .ok (.iconst 0, 1)) rfl ?_
    exact fun _ _ _ h => h
  · unfold B_X6_has_18
    exact as_rz X hQ hr (by decide +kernel : decode cX6_has 18 = .ok (.ireturn, 1))

def B_X6_opens_0 (kX6_has : am_T) (Q : am_Q) (G : Nat → am_K) : am_K := (ak_al 0 (ak_il 1 (ak_cv 2 4 kX6_has (ak_if (fun x => x = 0) (G 18) (ak_al 0 (ak_get 4 0 (ak_il 1 (ak_iald (ak_il 2 (ak_ic (fun x y => x = y) (G 18) (ak_al 0 (ak_get 4 0 (ak_il 1 (ak_il 2 (ak_iast (ak_al 0 (ak_get 4 1 (ak_il 1 (ak_c (.long 0) (ak_last (ak_al 0 (ak_get 4 2 (ak_il 1 (ak_c (.int 1000000) (ak_iast (ak_al 0 (ak_get 4 3 (ak_il 1 (ak_c (.long 0) (ak_last (ak_al 0 (ak_get 4 4 (ak_il 1 (ak_c (.int 0) (ak_iast (ak_c (.int 1) (ak_rz Q)))))))))))))))))))))))))))))))))))))
def B_X6_opens_18 (kX6_has : am_T) (Q : am_Q) (G : Nat → am_K) : am_K := (ak_c (.int 0) (ak_rz Q))
def cl_X6_opens (kX6_has : am_T) (Q : am_Q) (G : Nat → am_K) : Prop := am_N G 0 (B_X6_opens_0 kX6_has Q G) ∧ am_N G 18 (B_X6_opens_18 kX6_has Q G)
def WP_X6_opens (kX6_has : am_T) : am_T := fun av h Q => (lg_sl av).length ≤ 3 ∧ ∀ G, cl_X6_opens kX6_has Q G → G 0 (am_ent 3 av) [] h
set_option maxHeartbeats 4000000 in
set_option maxRecDepth 100000 in
theorem s_X6_opens {mX6_has : Room} {kX6_has : am_T} (h_X6_has : am_S false yX6_has (am_ws yX6_has cX6_has 2 (some .boolean)) mX6_has kX6_has) {rm : Room} (hz : rm.cells = 0 ∧ rm.slots = 0) (R_X6_has : mX6_has.frames + 1 ≤ rm.frames ∧ 8 + (2 + 11) + mX6_has.locals ≤ rm.locals) : am_S false yX6_opens (am_ws yX6_opens cX6_opens 3 (some .boolean)) rm (WP_X6_opens kX6_has) := by
  refine am_S.of (fun _ => hz) (by decide +kernel) (fun h0 Q G => cl_X6_opens kX6_has Q G) ?_
  intro p l e s m args below meth c D h0 Q X hr hnm hQ
  refine ⟨?_, ?_⟩
  · unfold B_X6_opens_0
    refine as_aload_n X (by decide +kernel : decode cX6_opens 0 = .ok (.aload_n 0, 1)) rfl ?_
    refine as_iload_n X (by decide +kernel : decode cX6_opens 1 = .ok (.iload_n 1, 1)) rfl ?_
    refine as_cv X h_X6_has rfl (by decide +kernel : decode cX6_opens 2 = .ok (.invokevirtual 28, 3)) dn_X6_has ml_X6_28 im_X6_has se_X6_has ini_X6 co_X6_has R_X6_has ?_
    refine as_if_eq X (tgt := 18) (by decide +kernel : decode cX6_opens 5 = .ok (.ifCond .eq 13, 3)) (by decide) ?_ ?_
    · exact fun _ _ _ h => h
    · refine as_aload_n X (by decide +kernel : decode cX6_opens 8 = .ok (.aload_n 0, 1)) rfl ?_
      refine as_get X fc_X6 (by decide +kernel : decode cX6_opens 9 = .ok (.getfield 9, 3)) (by decide) fl_X6_9 ?_
      refine as_iload_n X (by decide +kernel : decode cX6_opens 12 = .ok (.iload_n 1, 1)) rfl ?_
      refine as_iaload X (by decide +kernel : decode cX6_opens 13 = .ok (.iaload, 1)) ?_
      refine as_iload_n X (by decide +kernel : decode cX6_opens 14 = .ok (.iload_n 2, 1)) rfl ?_
      refine as_ic_ne X (tgt := 20) (by decide +kernel : decode cX6_opens 15 = .ok (.if_icmp .ne 5, 3)) (by decide) ?_ ?_
      · exact fun _ _ _ h => h
      · refine as_aload_n X (by decide +kernel : decode cX6_opens 20 = .ok (.aload_n 0, 1)) rfl ?_
        refine as_get X fc_X6 (by decide +kernel : decode cX6_opens 21 = .ok (.getfield 9, 3)) (by decide) fl_X6_9 ?_
        refine as_iload_n X (by decide +kernel : decode cX6_opens 24 = .ok (.iload_n 1, 1)) rfl ?_
        refine as_iload_n X (by decide +kernel : decode cX6_opens 25 = .ok (.iload_n 2, 1)) rfl ?_
        refine as_iastore X (by decide +kernel : decode cX6_opens 26 = .ok (.iastore, 1)) ?_
        refine as_aload_n X (by decide +kernel : decode cX6_opens 27 = .ok (.aload_n 0, 1)) rfl ?_
        refine as_get X fc_X6 (by decide +kernel : decode cX6_opens 28 = .ok (.getfield 15, 3)) (by decide) fl_X6_15 ?_
        refine as_iload_n X (by decide +kernel : decode cX6_opens 31 = .ok (.iload_n 1, 1)) rfl ?_
        refine as_lconst X (by decide +kernel : decode cX6_opens 32 = .ok (.lconst 0, 1)) rfl ?_
        refine as_lastore X (by decide +kernel : decode cX6_opens 33 = .ok (.lastore, 1)) ?_
        refine as_aload_n X (by decide +kernel : decode cX6_opens 34 = .ok (.aload_n 0, 1)) rfl ?_
        refine as_get X fc_X6 (by decide +kernel : decode cX6_opens 35 = .ok (.getfield 19, 3)) (by decide) fl_X6_19 ?_
        refine as_iload_n X (by decide +kernel : decode cX6_opens 38 = .ok (.iload_n 1, 1)) rfl ?_
        refine as_ldc X (by decide +kernel : decode cX6_opens 39 = .ok (.ldc 32, 2)) kc_X6_32 ?_
        refine as_iastore X (by decide +kernel : decode cX6_opens 41 = .ok (.iastore, 1)) ?_
        refine as_aload_n X (by decide +kernel : decode cX6_opens 42 = .ok (.aload_n 0, 1)) rfl ?_
        refine as_get X fc_X6 (by decide +kernel : decode cX6_opens 43 = .ok (.getfield 22, 3)) (by decide) fl_X6_22 ?_
        refine as_iload_n X (by decide +kernel : decode cX6_opens 46 = .ok (.iload_n 1, 1)) rfl ?_
        refine as_lconst X (by decide +kernel : decode cX6_opens 47 = .ok (.lconst 0, 1)) rfl ?_
        refine as_lastore X (by decide +kernel : decode cX6_opens 48 = .ok (.lastore, 1)) ?_
        refine as_aload_n X (by decide +kernel : decode cX6_opens 49 = .ok (.aload_n 0, 1)) rfl ?_
        refine as_get X fc_X6 (by decide +kernel : decode cX6_opens 50 = .ok (.getfield 25, 3)) (by decide) fl_X6_25 ?_
        refine as_iload_n X (by decide +kernel : decode cX6_opens 53 = .ok (.iload_n 1, 1)) rfl ?_
        refine as_iconst X (by decide +kernel : decode cX6_opens 54 = .ok (.iconst 0, 1)) rfl ?_
        refine as_iastore X (by decide +kernel : decode cX6_opens 55 = .ok (.iastore, 1)) ?_
        refine as_iconst X (by decide +kernel : decode cX6_opens 56 = .ok (.iconst 1, 1)) rfl ?_
        exact as_rz X hQ hr (by decide +kernel : decode cX6_opens 57 = .ok (.ireturn, 1))
  · unfold B_X6_opens_18
    refine as_iconst X (by decide +kernel : decode cX6_opens 18 = .ok (.iconst 0, 1)) rfl ?_
    exact as_rz X hQ hr (by decide +kernel : decode cX6_opens 19 = .ok (.ireturn, 1))

def B_X6_add_0 (kX6_has : am_T) (Q : am_Q) (G : Nat → am_K) : am_K := (ak_al 0 (ak_il 1 (ak_cv 2 4 kX6_has (ak_if (fun x => x = 0) (G 14) (ak_ll 2 (ak_c (.long 0) (ak_lc (ak_if (fun x => x = 0) (G 14) (ak_al 0 (ak_get 4 1 (ak_il 1 (ak_dup2 (ak_lald (ak_ll 2 (ak_lb (fun x y => x + y) (ak_last (ak_il 4 (ak_al 0 (ak_get 4 2 (ak_il 1 (ak_iald (ak_ic (fun x y => y ≤ x) (ak_il 4 (ak_al 0 (ak_get 4 2 (ak_il 1 (ak_iald (ak_ic (fun x y => x = y) (ak_al 0 (ak_get 4 3 (ak_il 1 (ak_dup2 (ak_lald (ak_ll 5 (ak_lb (fun x y => x + y) (ak_last (G 85))))))))) (G 85))))))) (ak_al 0 (ak_get 4 2 (ak_il 1 (ak_il 4 (ak_iast (ak_al 0 (ak_get 4 3 (ak_il 1 (ak_ll 5 (ak_last (ak_al 0 (ak_get 4 4 (ak_il 1 (ak_il 7 (ak_iast (G 85))))))))))))))))))))))))))))))))))))))
def B_X6_add_14 (kX6_has : am_T) (Q : am_Q) (G : Nat → am_K) : am_K := (ak_rv Q)
def B_X6_add_85 (kX6_has : am_T) (Q : am_Q) (G : Nat → am_K) : am_K := (ak_rv Q)
def cl_X6_add (kX6_has : am_T) (Q : am_Q) (G : Nat → am_K) : Prop := am_N G 0 (B_X6_add_0 kX6_has Q G) ∧ am_N G 14 (B_X6_add_14 kX6_has Q G) ∧ am_N G 85 (B_X6_add_85 kX6_has Q G)
def WP_X6_add (kX6_has : am_T) : am_T := fun av h Q => (lg_sl av).length ≤ 8 ∧ ∀ G, cl_X6_add kX6_has Q G → G 0 (am_ent 8 av) [] h
set_option maxHeartbeats 4000000 in
set_option maxRecDepth 100000 in
theorem s_X6_add {mX6_has : Room} {kX6_has : am_T} (h_X6_has : am_S false yX6_has (am_ws yX6_has cX6_has 2 (some .boolean)) mX6_has kX6_has) {rm : Room} (hz : rm.cells = 0 ∧ rm.slots = 0) (R_X6_has : mX6_has.frames + 1 ≤ rm.frames ∧ 8 + (2 + 11) + mX6_has.locals ≤ rm.locals) : am_S false yX6_add (am_ws yX6_add cX6_add 8 none) rm (WP_X6_add kX6_has) := by
  refine am_S.of (fun _ => hz) (by decide +kernel) (fun h0 Q G => cl_X6_add kX6_has Q G) ?_
  intro p l e s m args below meth c D h0 Q X hr hnm hQ
  refine ⟨?_, ?_, ?_⟩
  · unfold B_X6_add_0
    refine as_aload_n X (by decide +kernel : decode cX6_add 0 = .ok (.aload_n 0, 1)) rfl ?_
    refine as_iload_n X (by decide +kernel : decode cX6_add 1 = .ok (.iload_n 1, 1)) rfl ?_
    refine as_cv X h_X6_has rfl (by decide +kernel : decode cX6_add 2 = .ok (.invokevirtual 28, 3)) dn_X6_has ml_X6_28 im_X6_has se_X6_has ini_X6 co_X6_has R_X6_has ?_
    refine as_if_eq X (tgt := 14) (by decide +kernel : decode cX6_add 5 = .ok (.ifCond .eq 9, 3)) (by decide) ?_ ?_
    · exact fun _ _ _ h => h
    · refine as_lload_n X (by decide +kernel : decode cX6_add 8 = .ok (.lload_n 2, 1)) rfl ?_
      refine as_lconst X (by decide +kernel : decode cX6_add 9 = .ok (.lconst 0, 1)) rfl ?_
      refine as_lcmp X (by decide +kernel : decode cX6_add 10 = .ok (.lcmp, 1)) ?_
      refine as_if_ne X (tgt := 15) (by decide +kernel : decode cX6_add 11 = .ok (.ifCond .ne 4, 3)) (by decide) ?_ ?_
      · exact fun _ _ _ h => h
      · refine as_aload_n X (by decide +kernel : decode cX6_add 15 = .ok (.aload_n 0, 1)) rfl ?_
        refine as_get X fc_X6 (by decide +kernel : decode cX6_add 16 = .ok (.getfield 15, 3)) (by decide) fl_X6_15 ?_
        refine as_iload_n X (by decide +kernel : decode cX6_add 19 = .ok (.iload_n 1, 1)) rfl ?_
        refine as_dup2 X (by decide +kernel : decode cX6_add 20 = .ok (.dup2, 1)) ?_
        refine as_laload X (by decide +kernel : decode cX6_add 21 = .ok (.laload, 1)) ?_
        refine as_lload_n X (by decide +kernel : decode cX6_add 22 = .ok (.lload_n 2, 1)) rfl ?_
        refine as_ladd X (by decide +kernel : decode cX6_add 23 = .ok (.ladd, 1)) ?_
        refine as_lastore X (by decide +kernel : decode cX6_add 24 = .ok (.lastore, 1)) ?_
        refine as_iload X (by decide +kernel : decode cX6_add 25 = .ok (.iload 4, 2)) ?_
        refine as_aload_n X (by decide +kernel : decode cX6_add 27 = .ok (.aload_n 0, 1)) rfl ?_
        refine as_get X fc_X6 (by decide +kernel : decode cX6_add 28 = .ok (.getfield 19, 3)) (by decide) fl_X6_19 ?_
        refine as_iload_n X (by decide +kernel : decode cX6_add 31 = .ok (.iload_n 1, 1)) rfl ?_
        refine as_iaload X (by decide +kernel : decode cX6_add 32 = .ok (.iaload, 1)) ?_
        refine as_ic_ge X (tgt := 63) (by decide +kernel : decode cX6_add 33 = .ok (.if_icmp .ge 30, 3)) (by decide) ?_ ?_
        · refine as_iload X (by decide +kernel : decode cX6_add 63 = .ok (.iload 4, 2)) ?_
          refine as_aload_n X (by decide +kernel : decode cX6_add 65 = .ok (.aload_n 0, 1)) rfl ?_
          refine as_get X fc_X6 (by decide +kernel : decode cX6_add 66 = .ok (.getfield 19, 3)) (by decide) fl_X6_19 ?_
          refine as_iload_n X (by decide +kernel : decode cX6_add 69 = .ok (.iload_n 1, 1)) rfl ?_
          refine as_iaload X (by decide +kernel : decode cX6_add 70 = .ok (.iaload, 1)) ?_
          refine as_ic_ne X (tgt := 85) (by decide +kernel : decode cX6_add 71 = .ok (.if_icmp .ne 14, 3)) (by decide) ?_ ?_
          · refine as_aload_n X (by decide +kernel : decode cX6_add 74 = .ok (.aload_n 0, 1)) rfl ?_
            refine as_get X fc_X6 (by decide +kernel : decode cX6_add 75 = .ok (.getfield 22, 3)) (by decide) fl_X6_22 ?_
            refine as_iload_n X (by decide +kernel : decode cX6_add 78 = .ok (.iload_n 1, 1)) rfl ?_
            refine as_dup2 X (by decide +kernel : decode cX6_add 79 = .ok (.dup2, 1)) ?_
            refine as_laload X (by decide +kernel : decode cX6_add 80 = .ok (.laload, 1)) ?_
            refine as_lload X (by decide +kernel : decode cX6_add 81 = .ok (.lload 5, 2)) ?_
            refine as_ladd X (by decide +kernel : decode cX6_add 83 = .ok (.ladd, 1)) ?_
            refine as_lastore X (by decide +kernel : decode cX6_add 84 = .ok (.lastore, 1)) ?_
            exact fun _ _ _ h => h
          · exact fun _ _ _ h => h
        · refine as_aload_n X (by decide +kernel : decode cX6_add 36 = .ok (.aload_n 0, 1)) rfl ?_
          refine as_get X fc_X6 (by decide +kernel : decode cX6_add 37 = .ok (.getfield 19, 3)) (by decide) fl_X6_19 ?_
          refine as_iload_n X (by decide +kernel : decode cX6_add 40 = .ok (.iload_n 1, 1)) rfl ?_
          refine as_iload X (by decide +kernel : decode cX6_add 41 = .ok (.iload 4, 2)) ?_
          refine as_iastore X (by decide +kernel : decode cX6_add 43 = .ok (.iastore, 1)) ?_
          refine as_aload_n X (by decide +kernel : decode cX6_add 44 = .ok (.aload_n 0, 1)) rfl ?_
          refine as_get X fc_X6 (by decide +kernel : decode cX6_add 45 = .ok (.getfield 22, 3)) (by decide) fl_X6_22 ?_
          refine as_iload_n X (by decide +kernel : decode cX6_add 48 = .ok (.iload_n 1, 1)) rfl ?_
          refine as_lload X (by decide +kernel : decode cX6_add 49 = .ok (.lload 5, 2)) ?_
          refine as_lastore X (by decide +kernel : decode cX6_add 51 = .ok (.lastore, 1)) ?_
          refine as_aload_n X (by decide +kernel : decode cX6_add 52 = .ok (.aload_n 0, 1)) rfl ?_
          refine as_get X fc_X6 (by decide +kernel : decode cX6_add 53 = .ok (.getfield 25, 3)) (by decide) fl_X6_25 ?_
          refine as_iload_n X (by decide +kernel : decode cX6_add 56 = .ok (.iload_n 1, 1)) rfl ?_
          refine as_iload X (by decide +kernel : decode cX6_add 57 = .ok (.iload 7, 2)) ?_
          refine as_iastore X (by decide +kernel : decode cX6_add 59 = .ok (.iastore, 1)) ?_
          refine as_goto X (tgt := 85) (by decide +kernel : decode cX6_add 60 = .ok (.goto 25, 3)) (by decide) ?_
          exact fun _ _ _ h => h
  · unfold B_X6_add_14
    exact as_rv X hQ hr (by decide +kernel : decode cX6_add 14 = .ok (.return_, 1))
  · unfold B_X6_add_85
    exact as_rv X hQ hr (by decide +kernel : decode cX6_add 85 = .ok (.return_, 1))

def B_X6_totalAt_0 (kX6_has : am_T) (Q : am_Q) (G : Nat → am_K) : am_K := (ak_al 0 (ak_il 1 (ak_cv 2 4 kX6_has (ak_if (fun x => x = 0) (ak_c (.long 0) (G 18)) (ak_al 0 (ak_get 4 1 (ak_il 1 (ak_lald (G 18)))))))))
def B_X6_totalAt_18 (kX6_has : am_T) (Q : am_Q) (G : Nat → am_K) : am_K := (ak_rl Q)
def cl_X6_totalAt (kX6_has : am_T) (Q : am_Q) (G : Nat → am_K) : Prop := am_N G 0 (B_X6_totalAt_0 kX6_has Q G) ∧ am_N G 18 (B_X6_totalAt_18 kX6_has Q G)
def WP_X6_totalAt (kX6_has : am_T) : am_T := fun av h Q => (lg_sl av).length ≤ 2 ∧ ∀ G, cl_X6_totalAt kX6_has Q G → G 0 (am_ent 2 av) [] h
set_option maxHeartbeats 4000000 in
set_option maxRecDepth 100000 in
theorem s_X6_totalAt {mX6_has : Room} {kX6_has : am_T} (h_X6_has : am_S false yX6_has (am_ws yX6_has cX6_has 2 (some .boolean)) mX6_has kX6_has) {rm : Room} (hz : rm.cells = 0 ∧ rm.slots = 0) (R_X6_has : mX6_has.frames + 1 ≤ rm.frames ∧ 8 + (2 + 11) + mX6_has.locals ≤ rm.locals) : am_S false yX6_totalAt (am_ws yX6_totalAt cX6_totalAt 2 (some .long)) rm (WP_X6_totalAt kX6_has) := by
  refine am_S.of (fun _ => hz) (by decide +kernel) (fun h0 Q G => cl_X6_totalAt kX6_has Q G) ?_
  intro p l e s m args below meth c D h0 Q X hr hnm hQ
  refine ⟨?_, ?_⟩
  · unfold B_X6_totalAt_0
    refine as_aload_n X (by decide +kernel : decode cX6_totalAt 0 = .ok (.aload_n 0, 1)) rfl ?_
    refine as_iload_n X (by decide +kernel : decode cX6_totalAt 1 = .ok (.iload_n 1, 1)) rfl ?_
    refine as_cv X h_X6_has rfl (by decide +kernel : decode cX6_totalAt 2 = .ok (.invokevirtual 28, 3)) dn_X6_has ml_X6_28 im_X6_has se_X6_has ini_X6 co_X6_has R_X6_has ?_
    refine as_if_eq X (tgt := 17) (by decide +kernel : decode cX6_totalAt 5 = .ok (.ifCond .eq 12, 3)) (by decide) ?_ ?_
    · refine as_lconst X (by decide +kernel : decode cX6_totalAt 17 = .ok (.lconst 0, 1)) rfl ?_
      exact fun _ _ _ h => h
    · refine as_aload_n X (by decide +kernel : decode cX6_totalAt 8 = .ok (.aload_n 0, 1)) rfl ?_
      refine as_get X fc_X6 (by decide +kernel : decode cX6_totalAt 9 = .ok (.getfield 15, 3)) (by decide) fl_X6_15 ?_
      refine as_iload_n X (by decide +kernel : decode cX6_totalAt 12 = .ok (.iload_n 1, 1)) rfl ?_
      refine as_laload X (by decide +kernel : decode cX6_totalAt 13 = .ok (.laload, 1)) ?_
      refine as_goto X (tgt := 18) (by decide +kernel : decode cX6_totalAt 14 = .ok (.goto 4, 3)) (by decide) ?_
      exact fun _ _ _ h => h
  · unfold B_X6_totalAt_18
    exact as_rl X hQ hr (by decide +kernel : decode cX6_totalAt 18 = .ok (.lreturn, 1))

def B_X6_costAt_0 (kX6_has : am_T) (Q : am_Q) (G : Nat → am_K) : am_K := (ak_al 0 (ak_il 1 (ak_cv 2 4 kX6_has (ak_if (fun x => x = 0) (ak_c (.int 1000000) (G 19)) (ak_al 0 (ak_get 4 2 (ak_il 1 (ak_iald (G 19)))))))))
def B_X6_costAt_19 (kX6_has : am_T) (Q : am_Q) (G : Nat → am_K) : am_K := (ak_ri Q)
def cl_X6_costAt (kX6_has : am_T) (Q : am_Q) (G : Nat → am_K) : Prop := am_N G 0 (B_X6_costAt_0 kX6_has Q G) ∧ am_N G 19 (B_X6_costAt_19 kX6_has Q G)
def WP_X6_costAt (kX6_has : am_T) : am_T := fun av h Q => (lg_sl av).length ≤ 2 ∧ ∀ G, cl_X6_costAt kX6_has Q G → G 0 (am_ent 2 av) [] h
set_option maxHeartbeats 4000000 in
set_option maxRecDepth 100000 in
theorem s_X6_costAt {mX6_has : Room} {kX6_has : am_T} (h_X6_has : am_S false yX6_has (am_ws yX6_has cX6_has 2 (some .boolean)) mX6_has kX6_has) {rm : Room} (hz : rm.cells = 0 ∧ rm.slots = 0) (R_X6_has : mX6_has.frames + 1 ≤ rm.frames ∧ 8 + (2 + 11) + mX6_has.locals ≤ rm.locals) : am_S false yX6_costAt (am_ws yX6_costAt cX6_costAt 2 (some .int)) rm (WP_X6_costAt kX6_has) := by
  refine am_S.of (fun _ => hz) (by decide +kernel) (fun h0 Q G => cl_X6_costAt kX6_has Q G) ?_
  intro p l e s m args below meth c D h0 Q X hr hnm hQ
  refine ⟨?_, ?_⟩
  · unfold B_X6_costAt_0
    refine as_aload_n X (by decide +kernel : decode cX6_costAt 0 = .ok (.aload_n 0, 1)) rfl ?_
    refine as_iload_n X (by decide +kernel : decode cX6_costAt 1 = .ok (.iload_n 1, 1)) rfl ?_
    refine as_cv X h_X6_has rfl (by decide +kernel : decode cX6_costAt 2 = .ok (.invokevirtual 28, 3)) dn_X6_has ml_X6_28 im_X6_has se_X6_has ini_X6 co_X6_has R_X6_has ?_
    refine as_if_eq X (tgt := 17) (by decide +kernel : decode cX6_costAt 5 = .ok (.ifCond .eq 12, 3)) (by decide) ?_ ?_
    · refine as_ldc X (by decide +kernel : decode cX6_costAt 17 = .ok (.ldc 32, 2)) kc_X6_32 ?_
      exact fun _ _ _ h => h
    · refine as_aload_n X (by decide +kernel : decode cX6_costAt 8 = .ok (.aload_n 0, 1)) rfl ?_
      refine as_get X fc_X6 (by decide +kernel : decode cX6_costAt 9 = .ok (.getfield 19, 3)) (by decide) fl_X6_19 ?_
      refine as_iload_n X (by decide +kernel : decode cX6_costAt 12 = .ok (.iload_n 1, 1)) rfl ?_
      refine as_iaload X (by decide +kernel : decode cX6_costAt 13 = .ok (.iaload, 1)) ?_
      refine as_goto X (tgt := 19) (by decide +kernel : decode cX6_costAt 14 = .ok (.goto 5, 3)) (by decide) ?_
      exact fun _ _ _ h => h
  · unfold B_X6_costAt_19
    exact as_ri X hQ hr (by decide +kernel : decode cX6_costAt 19 = .ok (.ireturn, 1))

def B_X6_costOrNone_0 (kX6_totalAt : am_T) (kX6_costAt : am_T) (Q : am_Q) (G : Nat → am_K) : am_K := (ak_al 0 (ak_il 1 (ak_cv 2 4 kX6_totalAt (ak_c (.long 0) (ak_lc (ak_if (fun x => x ≤ 0) (ak_c (.int (-4)) (G 20)) (ak_al 0 (ak_il 1 (ak_cv 2 4 kX6_costAt (G 20))))))))))
def B_X6_costOrNone_20 (kX6_totalAt : am_T) (kX6_costAt : am_T) (Q : am_Q) (G : Nat → am_K) : am_K := (ak_ri Q)
def cl_X6_costOrNone (kX6_totalAt : am_T) (kX6_costAt : am_T) (Q : am_Q) (G : Nat → am_K) : Prop := am_N G 0 (B_X6_costOrNone_0 kX6_totalAt kX6_costAt Q G) ∧ am_N G 20 (B_X6_costOrNone_20 kX6_totalAt kX6_costAt Q G)
def WP_X6_costOrNone (kX6_totalAt : am_T) (kX6_costAt : am_T) : am_T := fun av h Q => (lg_sl av).length ≤ 2 ∧ ∀ G, cl_X6_costOrNone kX6_totalAt kX6_costAt Q G → G 0 (am_ent 2 av) [] h
set_option maxHeartbeats 4000000 in
set_option maxRecDepth 100000 in
theorem s_X6_costOrNone {mX6_totalAt : Room} {kX6_totalAt : am_T} (h_X6_totalAt : am_S false yX6_totalAt (am_ws yX6_totalAt cX6_totalAt 2 (some .long)) mX6_totalAt kX6_totalAt) {mX6_costAt : Room} {kX6_costAt : am_T} (h_X6_costAt : am_S false yX6_costAt (am_ws yX6_costAt cX6_costAt 2 (some .int)) mX6_costAt kX6_costAt) {rm : Room} (hz : rm.cells = 0 ∧ rm.slots = 0) (R_X6_totalAt : mX6_totalAt.frames + 1 ≤ rm.frames ∧ 8 + (2 + 11) + mX6_totalAt.locals ≤ rm.locals) (R_X6_costAt : mX6_costAt.frames + 1 ≤ rm.frames ∧ 8 + (2 + 11) + mX6_costAt.locals ≤ rm.locals) : am_S false yX6_costOrNone (am_ws yX6_costOrNone cX6_costOrNone 2 (some .int)) rm (WP_X6_costOrNone kX6_totalAt kX6_costAt) := by
  refine am_S.of (fun _ => hz) (by decide +kernel) (fun h0 Q G => cl_X6_costOrNone kX6_totalAt kX6_costAt Q G) ?_
  intro p l e s m args below meth c D h0 Q X hr hnm hQ
  refine ⟨?_, ?_⟩
  · unfold B_X6_costOrNone_0
    refine as_aload_n X (by decide +kernel : decode cX6_costOrNone 0 = .ok (.aload_n 0, 1)) rfl ?_
    refine as_iload_n X (by decide +kernel : decode cX6_costOrNone 1 = .ok (.iload_n 1, 1)) rfl ?_
    refine as_cv X h_X6_totalAt rfl (by decide +kernel : decode cX6_costOrNone 2 = .ok (.invokevirtual 33, 3)) dn_X6_totalAt ml_X6_33 im_X6_totalAt se_X6_totalAt ini_X6 co_X6_totalAt R_X6_totalAt ?_
    refine as_lconst X (by decide +kernel : decode cX6_costOrNone 5 = .ok (.lconst 0, 1)) rfl ?_
    refine as_lcmp X (by decide +kernel : decode cX6_costOrNone 6 = .ok (.lcmp, 1)) ?_
    refine as_if_le X (tgt := 18) (by decide +kernel : decode cX6_costOrNone 7 = .ok (.ifCond .le 11, 3)) (by decide) ?_ ?_
    · refine as_bipush X (by decide +kernel : decode cX6_costOrNone 18 = .ok (.bipush (-4), 2)) rfl ?_
      exact fun _ _ _ h => h
    · refine as_aload_n X (by decide +kernel : decode cX6_costOrNone 10 = .ok (.aload_n 0, 1)) rfl ?_
      refine as_iload_n X (by decide +kernel : decode cX6_costOrNone 11 = .ok (.iload_n 1, 1)) rfl ?_
      refine as_cv X h_X6_costAt rfl (by decide +kernel : decode cX6_costOrNone 12 = .ok (.invokevirtual 37, 3)) dn_X6_costAt ml_X6_37 im_X6_costAt se_X6_costAt ini_X6 co_X6_costAt R_X6_costAt ?_
      refine as_goto X (tgt := 20) (by decide +kernel : decode cX6_costOrNone 15 = .ok (.goto 5, 3)) (by decide) ?_
      exact fun _ _ _ h => h
  · unfold B_X6_costOrNone_20
    exact as_ri X hQ hr (by decide +kernel : decode cX6_costOrNone 20 = .ok (.ireturn, 1))

def B_X6_tiesAt_0 (kX6_has : am_T) (Q : am_Q) (G : Nat → am_K) : am_K := (ak_al 0 (ak_il 1 (ak_cv 2 4 kX6_has (ak_if (fun x => x = 0) (ak_c (.long 0) (G 18)) (ak_al 0 (ak_get 4 3 (ak_il 1 (ak_lald (G 18)))))))))
def B_X6_tiesAt_18 (kX6_has : am_T) (Q : am_Q) (G : Nat → am_K) : am_K := (ak_rl Q)
def cl_X6_tiesAt (kX6_has : am_T) (Q : am_Q) (G : Nat → am_K) : Prop := am_N G 0 (B_X6_tiesAt_0 kX6_has Q G) ∧ am_N G 18 (B_X6_tiesAt_18 kX6_has Q G)
def WP_X6_tiesAt (kX6_has : am_T) : am_T := fun av h Q => (lg_sl av).length ≤ 2 ∧ ∀ G, cl_X6_tiesAt kX6_has Q G → G 0 (am_ent 2 av) [] h
set_option maxHeartbeats 4000000 in
set_option maxRecDepth 100000 in
theorem s_X6_tiesAt {mX6_has : Room} {kX6_has : am_T} (h_X6_has : am_S false yX6_has (am_ws yX6_has cX6_has 2 (some .boolean)) mX6_has kX6_has) {rm : Room} (hz : rm.cells = 0 ∧ rm.slots = 0) (R_X6_has : mX6_has.frames + 1 ≤ rm.frames ∧ 8 + (2 + 11) + mX6_has.locals ≤ rm.locals) : am_S false yX6_tiesAt (am_ws yX6_tiesAt cX6_tiesAt 2 (some .long)) rm (WP_X6_tiesAt kX6_has) := by
  refine am_S.of (fun _ => hz) (by decide +kernel) (fun h0 Q G => cl_X6_tiesAt kX6_has Q G) ?_
  intro p l e s m args below meth c D h0 Q X hr hnm hQ
  refine ⟨?_, ?_⟩
  · unfold B_X6_tiesAt_0
    refine as_aload_n X (by decide +kernel : decode cX6_tiesAt 0 = .ok (.aload_n 0, 1)) rfl ?_
    refine as_iload_n X (by decide +kernel : decode cX6_tiesAt 1 = .ok (.iload_n 1, 1)) rfl ?_
    refine as_cv X h_X6_has rfl (by decide +kernel : decode cX6_tiesAt 2 = .ok (.invokevirtual 28, 3)) dn_X6_has ml_X6_28 im_X6_has se_X6_has ini_X6 co_X6_has R_X6_has ?_
    refine as_if_eq X (tgt := 17) (by decide +kernel : decode cX6_tiesAt 5 = .ok (.ifCond .eq 12, 3)) (by decide) ?_ ?_
    · refine as_lconst X (by decide +kernel : decode cX6_tiesAt 17 = .ok (.lconst 0, 1)) rfl ?_
      exact fun _ _ _ h => h
    · refine as_aload_n X (by decide +kernel : decode cX6_tiesAt 8 = .ok (.aload_n 0, 1)) rfl ?_
      refine as_get X fc_X6 (by decide +kernel : decode cX6_tiesAt 9 = .ok (.getfield 22, 3)) (by decide) fl_X6_22 ?_
      refine as_iload_n X (by decide +kernel : decode cX6_tiesAt 12 = .ok (.iload_n 1, 1)) rfl ?_
      refine as_laload X (by decide +kernel : decode cX6_tiesAt 13 = .ok (.laload, 1)) ?_
      refine as_goto X (tgt := 18) (by decide +kernel : decode cX6_tiesAt 14 = .ok (.goto 4, 3)) (by decide) ?_
      exact fun _ _ _ h => h
  · unfold B_X6_tiesAt_18
    exact as_rl X hQ hr (by decide +kernel : decode cX6_tiesAt 18 = .ok (.lreturn, 1))

def B_X6_choiceAt_0 (kX6_has : am_T) (Q : am_Q) (G : Nat → am_K) : am_K := (ak_al 0 (ak_il 1 (ak_cv 2 4 kX6_has (ak_if (fun x => x = 0) (ak_c (.int 0) (G 18)) (ak_al 0 (ak_get 4 4 (ak_il 1 (ak_iald (G 18)))))))))
def B_X6_choiceAt_18 (kX6_has : am_T) (Q : am_Q) (G : Nat → am_K) : am_K := (ak_ri Q)
def cl_X6_choiceAt (kX6_has : am_T) (Q : am_Q) (G : Nat → am_K) : Prop := am_N G 0 (B_X6_choiceAt_0 kX6_has Q G) ∧ am_N G 18 (B_X6_choiceAt_18 kX6_has Q G)
def WP_X6_choiceAt (kX6_has : am_T) : am_T := fun av h Q => (lg_sl av).length ≤ 2 ∧ ∀ G, cl_X6_choiceAt kX6_has Q G → G 0 (am_ent 2 av) [] h
set_option maxHeartbeats 4000000 in
set_option maxRecDepth 100000 in
theorem s_X6_choiceAt {mX6_has : Room} {kX6_has : am_T} (h_X6_has : am_S false yX6_has (am_ws yX6_has cX6_has 2 (some .boolean)) mX6_has kX6_has) {rm : Room} (hz : rm.cells = 0 ∧ rm.slots = 0) (R_X6_has : mX6_has.frames + 1 ≤ rm.frames ∧ 8 + (2 + 11) + mX6_has.locals ≤ rm.locals) : am_S false yX6_choiceAt (am_ws yX6_choiceAt cX6_choiceAt 2 (some .int)) rm (WP_X6_choiceAt kX6_has) := by
  refine am_S.of (fun _ => hz) (by decide +kernel) (fun h0 Q G => cl_X6_choiceAt kX6_has Q G) ?_
  intro p l e s m args below meth c D h0 Q X hr hnm hQ
  refine ⟨?_, ?_⟩
  · unfold B_X6_choiceAt_0
    refine as_aload_n X (by decide +kernel : decode cX6_choiceAt 0 = .ok (.aload_n 0, 1)) rfl ?_
    refine as_iload_n X (by decide +kernel : decode cX6_choiceAt 1 = .ok (.iload_n 1, 1)) rfl ?_
    refine as_cv X h_X6_has rfl (by decide +kernel : decode cX6_choiceAt 2 = .ok (.invokevirtual 28, 3)) dn_X6_has ml_X6_28 im_X6_has se_X6_has ini_X6 co_X6_has R_X6_has ?_
    refine as_if_eq X (tgt := 17) (by decide +kernel : decode cX6_choiceAt 5 = .ok (.ifCond .eq 12, 3)) (by decide) ?_ ?_
    · refine as_iconst X (by decide +kernel : decode cX6_choiceAt 17 = .ok (.iconst 0, 1)) rfl ?_
      exact fun _ _ _ h => h
    · refine as_aload_n X (by decide +kernel : decode cX6_choiceAt 8 = .ok (.aload_n 0, 1)) rfl ?_
      refine as_get X fc_X6 (by decide +kernel : decode cX6_choiceAt 9 = .ok (.getfield 25, 3)) (by decide) fl_X6_25 ?_
      refine as_iload_n X (by decide +kernel : decode cX6_choiceAt 12 = .ok (.iload_n 1, 1)) rfl ?_
      refine as_iaload X (by decide +kernel : decode cX6_choiceAt 13 = .ok (.iaload, 1)) ?_
      refine as_goto X (tgt := 18) (by decide +kernel : decode cX6_choiceAt 14 = .ok (.goto 4, 3)) (by decide) ?_
      exact fun _ _ _ h => h
  · unfold B_X6_choiceAt_18
    exact as_ri X hQ hr (by decide +kernel : decode cX6_choiceAt 18 = .ok (.ireturn, 1))

def B_J6_bitCount_0f7a4_0 (Q : am_Q) (G : Nat → am_K) : am_K := (ak_il 0 (ak_il 0 (ak_c (.int 1) (ak_ib (fun x y => (x.toUInt32 >>> (y.toUInt32 &&& Int32.toUInt32 31)).toInt32) (ak_c (.int 1431655765) (ak_ib (fun x y => x &&& y) (ak_ib (fun x y => x - y) (ak_is 0 (ak_il 0 (ak_c (.int 858993459) (ak_ib (fun x y => x &&& y) (ak_il 0 (ak_c (.int 2) (ak_ib (fun x y => (x.toUInt32 >>> (y.toUInt32 &&& Int32.toUInt32 31)).toInt32) (ak_c (.int 858993459) (ak_ib (fun x y => x &&& y) (ak_ib (fun x y => x + y) (ak_is 0 (ak_il 0 (ak_il 0 (ak_c (.int 4) (ak_ib (fun x y => (x.toUInt32 >>> (y.toUInt32 &&& Int32.toUInt32 31)).toInt32) (ak_ib (fun x y => x + y) (ak_c (.int 252645135) (ak_ib (fun x y => x &&& y) (ak_is 0 (ak_il 0 (ak_il 0 (ak_c (.int 8) (ak_ib (fun x y => (x.toUInt32 >>> (y.toUInt32 &&& Int32.toUInt32 31)).toInt32) (ak_ib (fun x y => x + y) (ak_is 0 (ak_il 0 (ak_il 0 (ak_c (.int 16) (ak_ib (fun x y => (x.toUInt32 >>> (y.toUInt32 &&& Int32.toUInt32 31)).toInt32) (ak_ib (fun x y => x + y) (ak_is 0 (ak_il 0 (ak_c (.int 63) (ak_ib (fun x y => x &&& y) (ak_ri Q))))))))))))))))))))))))))))))))))))))))))
def cl_J6_bitCount_0f7a4 (Q : am_Q) (G : Nat → am_K) : Prop := am_N G 0 (B_J6_bitCount_0f7a4_0 Q G)
def WP_J6_bitCount_0f7a4 : am_T := fun av h Q => (lg_sl av).length ≤ 1 ∧ ∀ G, cl_J6_bitCount_0f7a4 Q G → G 0 (am_ent 1 av) [] h
set_option maxHeartbeats 4000000 in
set_option maxRecDepth 100000 in
theorem s_J6_bitCount_0f7a4 {rm : Room} (hz : rm.cells = 0 ∧ rm.slots = 0) : am_S false yJ6_bitCount_0f7a4 (am_ws yJ6_bitCount_0f7a4 cJ6_bitCount_0f7a4 1 (some .int)) rm (WP_J6_bitCount_0f7a4) := by
  refine am_S.of (fun _ => hz) (by decide +kernel) (fun h0 Q G => cl_J6_bitCount_0f7a4 Q G) ?_
  intro p l e s m args below meth c D h0 Q X hr hnm hQ
  show am_N _ 0 (B_J6_bitCount_0f7a4_0  Q _)
  · unfold B_J6_bitCount_0f7a4_0
    refine as_iload_n X (by decide +kernel : decode cJ6_bitCount_0f7a4 0 = .ok (.iload_n 0, 1)) rfl ?_
    refine as_iload_n X (by decide +kernel : decode cJ6_bitCount_0f7a4 1 = .ok (.iload_n 0, 1)) rfl ?_
    refine as_iconst X (by decide +kernel : decode cJ6_bitCount_0f7a4 2 = .ok (.iconst 1, 1)) rfl ?_
    refine as_iushr X (by decide +kernel : decode cJ6_bitCount_0f7a4 3 = .ok (.iushr, 1)) ?_
    refine as_ldcw X (by decide +kernel : decode cJ6_bitCount_0f7a4 4 = .ok (.ldc_w 265, 3)) kc_J6_265 ?_
    refine as_iand X (by decide +kernel : decode cJ6_bitCount_0f7a4 7 = .ok (.iand, 1)) ?_
    refine as_isub X (by decide +kernel : decode cJ6_bitCount_0f7a4 8 = .ok (.isub, 1)) ?_
    refine as_istore_n X (by decide +kernel : decode cJ6_bitCount_0f7a4 9 = .ok (.istore_n 0, 1)) rfl ?_
    refine as_iload_n X (by decide +kernel : decode cJ6_bitCount_0f7a4 10 = .ok (.iload_n 0, 1)) rfl ?_
    refine as_ldcw X (by decide +kernel : decode cJ6_bitCount_0f7a4 11 = .ok (.ldc_w 266, 3)) kc_J6_266 ?_
    refine as_iand X (by decide +kernel : decode cJ6_bitCount_0f7a4 14 = .ok (.iand, 1)) ?_
    refine as_iload_n X (by decide +kernel : decode cJ6_bitCount_0f7a4 15 = .ok (.iload_n 0, 1)) rfl ?_
    refine as_iconst X (by decide +kernel : decode cJ6_bitCount_0f7a4 16 = .ok (.iconst 2, 1)) rfl ?_
    refine as_iushr X (by decide +kernel : decode cJ6_bitCount_0f7a4 17 = .ok (.iushr, 1)) ?_
    refine as_ldcw X (by decide +kernel : decode cJ6_bitCount_0f7a4 18 = .ok (.ldc_w 266, 3)) kc_J6_266 ?_
    refine as_iand X (by decide +kernel : decode cJ6_bitCount_0f7a4 21 = .ok (.iand, 1)) ?_
    refine as_iadd X (by decide +kernel : decode cJ6_bitCount_0f7a4 22 = .ok (.iadd, 1)) ?_
    refine as_istore_n X (by decide +kernel : decode cJ6_bitCount_0f7a4 23 = .ok (.istore_n 0, 1)) rfl ?_
    refine as_iload_n X (by decide +kernel : decode cJ6_bitCount_0f7a4 24 = .ok (.iload_n 0, 1)) rfl ?_
    refine as_iload_n X (by decide +kernel : decode cJ6_bitCount_0f7a4 25 = .ok (.iload_n 0, 1)) rfl ?_
    refine as_iconst X (by decide +kernel : decode cJ6_bitCount_0f7a4 26 = .ok (.iconst 4, 1)) rfl ?_
    refine as_iushr X (by decide +kernel : decode cJ6_bitCount_0f7a4 27 = .ok (.iushr, 1)) ?_
    refine as_iadd X (by decide +kernel : decode cJ6_bitCount_0f7a4 28 = .ok (.iadd, 1)) ?_
    refine as_ldcw X (by decide +kernel : decode cJ6_bitCount_0f7a4 29 = .ok (.ldc_w 267, 3)) kc_J6_267 ?_
    refine as_iand X (by decide +kernel : decode cJ6_bitCount_0f7a4 32 = .ok (.iand, 1)) ?_
    refine as_istore_n X (by decide +kernel : decode cJ6_bitCount_0f7a4 33 = .ok (.istore_n 0, 1)) rfl ?_
    refine as_iload_n X (by decide +kernel : decode cJ6_bitCount_0f7a4 34 = .ok (.iload_n 0, 1)) rfl ?_
    refine as_iload_n X (by decide +kernel : decode cJ6_bitCount_0f7a4 35 = .ok (.iload_n 0, 1)) rfl ?_
    refine as_bipush X (by decide +kernel : decode cJ6_bitCount_0f7a4 36 = .ok (.bipush 8, 2)) rfl ?_
    refine as_iushr X (by decide +kernel : decode cJ6_bitCount_0f7a4 38 = .ok (.iushr, 1)) ?_
    refine as_iadd X (by decide +kernel : decode cJ6_bitCount_0f7a4 39 = .ok (.iadd, 1)) ?_
    refine as_istore_n X (by decide +kernel : decode cJ6_bitCount_0f7a4 40 = .ok (.istore_n 0, 1)) rfl ?_
    refine as_iload_n X (by decide +kernel : decode cJ6_bitCount_0f7a4 41 = .ok (.iload_n 0, 1)) rfl ?_
    refine as_iload_n X (by decide +kernel : decode cJ6_bitCount_0f7a4 42 = .ok (.iload_n 0, 1)) rfl ?_
    refine as_bipush X (by decide +kernel : decode cJ6_bitCount_0f7a4 43 = .ok (.bipush 16, 2)) rfl ?_
    refine as_iushr X (by decide +kernel : decode cJ6_bitCount_0f7a4 45 = .ok (.iushr, 1)) ?_
    refine as_iadd X (by decide +kernel : decode cJ6_bitCount_0f7a4 46 = .ok (.iadd, 1)) ?_
    refine as_istore_n X (by decide +kernel : decode cJ6_bitCount_0f7a4 47 = .ok (.istore_n 0, 1)) rfl ?_
    refine as_iload_n X (by decide +kernel : decode cJ6_bitCount_0f7a4 48 = .ok (.iload_n 0, 1)) rfl ?_
    refine as_bipush X (by decide +kernel : decode cJ6_bitCount_0f7a4 49 = .ok (.bipush 63, 2)) rfl ?_
    refine as_iand X (by decide +kernel : decode cJ6_bitCount_0f7a4 51 = .ok (.iand, 1)) ?_
    exact as_ri X hQ hr (by decide +kernel : decode cJ6_bitCount_0f7a4 52 = .ok (.ireturn, 1))

def B_J0_length_8abf5_0 (kJ0_coder_7d493 : am_T) (Q : am_Q) (G : Nat → am_K) : am_K := (ak_al 0 (ak_sv (ak_bl (ak_al 0 (ak_ct 1 kJ0_coder_7d493 (ak_ib (fun x y => x >>> (y &&& 31)) (ak_ri Q)))))))
def cl_J0_length_8abf5 (kJ0_coder_7d493 : am_T) (Q : am_Q) (G : Nat → am_K) : Prop := am_N G 0 (B_J0_length_8abf5_0 kJ0_coder_7d493 Q G)
def WP_J0_length_8abf5 (kJ0_coder_7d493 : am_T) : am_T := fun av h Q => (lg_sl av).length ≤ 1 ∧ ∀ G, cl_J0_length_8abf5 kJ0_coder_7d493 Q G → G 0 (am_ent 1 av) [] h
set_option maxHeartbeats 4000000 in
set_option maxRecDepth 100000 in
theorem s_J0_length_8abf5 {mJ0_coder_7d493 : Room} {kJ0_coder_7d493 : am_T} (h_J0_coder_7d493 : am_S false yJ0_coder_7d493 (am_ws yJ0_coder_7d493 cJ0_coder_7d493 1 (some .byte)) mJ0_coder_7d493 kJ0_coder_7d493) {rm : Room} (hz : rm.cells = 0 ∧ rm.slots = 0) (R_J0_coder_7d493 : mJ0_coder_7d493.frames + 1 ≤ rm.frames ∧ 8 + (1 + 11) + mJ0_coder_7d493.locals ≤ rm.locals) : am_S false yJ0_length_8abf5 (am_ws yJ0_length_8abf5 cJ0_length_8abf5 1 (some .int)) rm (WP_J0_length_8abf5 kJ0_coder_7d493) := by
  refine am_S.of (fun _ => hz) (by decide +kernel) (fun h0 Q G => cl_J0_length_8abf5 kJ0_coder_7d493 Q G) ?_
  intro p l e s m args below meth c D h0 Q X hr hnm hQ
  show am_N _ 0 (B_J0_length_8abf5_0  kJ0_coder_7d493 Q _)
  · unfold B_J0_length_8abf5_0
    refine as_aload_n X (by decide +kernel : decode cJ0_length_8abf5 0 = .ok (.aload_n 0, 1)) rfl ?_
    refine as_sv X (by decide +kernel : decode cJ0_length_8abf5 1 = .ok (.getfield 9, 3)) fl_J0_9 ?_
    refine as_bl X (by decide +kernel : decode cJ0_length_8abf5 4 = .ok (.arraylength, 1)) ?_
    refine as_aload_n X (by decide +kernel : decode cJ0_length_8abf5 5 = .ok (.aload_n 0, 1)) rfl ?_
    refine as_ct X h_J0_coder_7d493 rfl (by decide +kernel : decode cJ0_length_8abf5 6 = .ok (.invokevirtual 335, 3)) dn_J0_coder_7d493 ml_J0_335 im_J0_coder_7d493 se_J0_coder_7d493 ini_J0 co_J0_coder_7d493 R_J0_coder_7d493 ?_
    refine as_ishr X (by decide +kernel : decode cJ0_length_8abf5 9 = .ok (.ishr, 1)) ?_
    exact as_ri X hQ hr (by decide +kernel : decode cJ0_length_8abf5 10 = .ok (.ireturn, 1))

def B_J0_charAt_5068e_0 (kJ0_isLatin1_aae02 : am_T) (kJ1_charAt_3b067 : am_T) (Q : am_Q) (G : Nat → am_K) : am_K := (ak_al 0 (ak_ct 1 kJ0_isLatin1_aae02 (ak_if (fun x => x = 0) (fun _ _ _ => False) (ak_al 0 (ak_sv (ak_il 1 (ak_cs 2 kJ1_charAt_3b067 (ak_rn .char Q))))))))
def cl_J0_charAt_5068e (kJ0_isLatin1_aae02 : am_T) (kJ1_charAt_3b067 : am_T) (Q : am_Q) (G : Nat → am_K) : Prop := am_N G 0 (B_J0_charAt_5068e_0 kJ0_isLatin1_aae02 kJ1_charAt_3b067 Q G)
def WP_J0_charAt_5068e (kJ0_isLatin1_aae02 : am_T) (kJ1_charAt_3b067 : am_T) : am_T := fun av h Q => (lg_sl av).length ≤ 2 ∧ ∀ G, cl_J0_charAt_5068e kJ0_isLatin1_aae02 kJ1_charAt_3b067 Q G → G 0 (am_ent 2 av) [] h
set_option maxHeartbeats 4000000 in
set_option maxRecDepth 100000 in
theorem s_J0_charAt_5068e {mJ0_isLatin1_aae02 : Room} {kJ0_isLatin1_aae02 : am_T} (h_J0_isLatin1_aae02 : am_S false yJ0_isLatin1_aae02 (am_ws yJ0_isLatin1_aae02 cJ0_isLatin1_aae02 1 (some .boolean)) mJ0_isLatin1_aae02 kJ0_isLatin1_aae02) {mJ1_charAt_3b067 : Room} {kJ1_charAt_3b067 : am_T} (h_J1_charAt_3b067 : am_S false yJ1_charAt_3b067 (am_ws yJ1_charAt_3b067 cJ1_charAt_3b067 2 (some .char)) mJ1_charAt_3b067 kJ1_charAt_3b067) {rm : Room} (hz : rm.cells = 0 ∧ rm.slots = 0) (R_J0_isLatin1_aae02 : mJ0_isLatin1_aae02.frames + 1 ≤ rm.frames ∧ 8 + (1 + 11) + mJ0_isLatin1_aae02.locals ≤ rm.locals) (R_J1_charAt_3b067 : mJ1_charAt_3b067.frames + 1 ≤ rm.frames ∧ 8 + (2 + 11) + mJ1_charAt_3b067.locals ≤ rm.locals) : am_S false yJ0_charAt_5068e (am_ws yJ0_charAt_5068e cJ0_charAt_5068e 2 (some .char)) rm (WP_J0_charAt_5068e kJ0_isLatin1_aae02 kJ1_charAt_3b067) := by
  refine am_S.of (fun _ => hz) (by decide +kernel) (fun h0 Q G => cl_J0_charAt_5068e kJ0_isLatin1_aae02 kJ1_charAt_3b067 Q G) ?_
  intro p l e s m args below meth c D h0 Q X hr hnm hQ
  show am_N _ 0 (B_J0_charAt_5068e_0  kJ0_isLatin1_aae02 kJ1_charAt_3b067 Q _)
  · unfold B_J0_charAt_5068e_0
    refine as_aload_n X (by decide +kernel : decode cJ0_charAt_5068e 0 = .ok (.aload_n 0, 1)) rfl ?_
    refine as_ct X h_J0_isLatin1_aae02 rfl (by decide +kernel : decode cJ0_charAt_5068e 1 = .ok (.invokevirtual 492, 3)) dn_J0_isLatin1_aae02 ml_J0_492 im_J0_isLatin1_aae02 se_J0_isLatin1_aae02 ini_J0 co_J0_isLatin1_aae02 R_J0_isLatin1_aae02 ?_
    refine as_if_eq X (tgt := 16) (by decide +kernel : decode cJ0_charAt_5068e 4 = .ok (.ifCond .eq 12, 3)) (by decide) ?_ ?_
    · exact fun _ _ _ h => h.elim
    · refine as_aload_n X (by decide +kernel : decode cJ0_charAt_5068e 7 = .ok (.aload_n 0, 1)) rfl ?_
      refine as_sv X (by decide +kernel : decode cJ0_charAt_5068e 8 = .ok (.getfield 9, 3)) fl_J0_9 ?_
      refine as_iload_n X (by decide +kernel : decode cJ0_charAt_5068e 11 = .ok (.iload_n 1, 1)) rfl ?_
      refine as_cs X h_J1_charAt_3b067 (by decide +kernel : decode cJ0_charAt_5068e 12 = .ok (.invokestatic 495, 3)) dn_J1_charAt_3b067 ml_J0_495 st_J1_charAt_3b067 ini_J1 co_J1_charAt_3b067 R_J1_charAt_3b067 ?_
      exact as_rn X hQ hr (by decide +kernel : decode cJ0_charAt_5068e 15 = .ok (.ireturn, 1))

def B_J0_coder_7d493_0 (Q : am_Q) (G : Nat → am_K) : am_K := (ak_c (.int 1) (ak_if (fun x => x = 0) (ak_c (.int 1) (G 14)) (ak_al 0 (ak_sc (G 14)))))
def B_J0_coder_7d493_14 (Q : am_Q) (G : Nat → am_K) : am_K := (ak_rn .byte Q)
def cl_J0_coder_7d493 (Q : am_Q) (G : Nat → am_K) : Prop := am_N G 0 (B_J0_coder_7d493_0 Q G) ∧ am_N G 14 (B_J0_coder_7d493_14 Q G)
def WP_J0_coder_7d493 : am_T := fun av h Q => (lg_sl av).length ≤ 1 ∧ ∀ G, cl_J0_coder_7d493 Q G → G 0 (am_ent 1 av) [] h
set_option maxHeartbeats 4000000 in
set_option maxRecDepth 100000 in
theorem s_J0_coder_7d493 {rm : Room} (hz : rm.cells = 0 ∧ rm.slots = 0) : am_S false yJ0_coder_7d493 (am_ws yJ0_coder_7d493 cJ0_coder_7d493 1 (some .byte)) rm (WP_J0_coder_7d493) := by
  refine am_S.of (fun _ => hz) (by decide +kernel) (fun h0 Q G => cl_J0_coder_7d493 Q G) ?_
  intro p l e s m args below meth c D h0 Q X hr hnm hQ
  refine ⟨?_, ?_⟩
  · unfold B_J0_coder_7d493_0
    refine as_gs_CS X (by decide +kernel : decode cJ0_coder_7d493 0 = .ok (.getstatic 38, 3)) fl_J0_38 ?_
    refine as_if_eq X (tgt := 13) (by decide +kernel : decode cJ0_coder_7d493 3 = .ok (.ifCond .eq 10, 3)) (by decide) ?_ ?_
    · refine as_iconst X (by decide +kernel : decode cJ0_coder_7d493 13 = .ok (.iconst 1, 1)) rfl ?_
      exact fun _ _ _ h => h
    · refine as_aload_n X (by decide +kernel : decode cJ0_coder_7d493 6 = .ok (.aload_n 0, 1)) rfl ?_
      refine as_sc X (by decide +kernel : decode cJ0_coder_7d493 7 = .ok (.getfield 15, 3)) fl_J0_15 ?_
      refine as_goto X (tgt := 14) (by decide +kernel : decode cJ0_coder_7d493 10 = .ok (.goto 4, 3)) (by decide) ?_
      exact fun _ _ _ h => h
  · unfold B_J0_coder_7d493_14
    exact as_rn X hQ hr (by decide +kernel : decode cJ0_coder_7d493 14 = .ok (.ireturn, 1))

def B_J0_isLatin1_aae02_0 (Q : am_Q) (G : Nat → am_K) : am_K := (ak_c (.int 1) (ak_if (fun x => x = 0) (G 17) (ak_al 0 (ak_sc (ak_if (fun x => x = 0) (ak_c (.int 1) (G 18)) (G 17))))))
def B_J0_isLatin1_aae02_17 (Q : am_Q) (G : Nat → am_K) : am_K := (ak_c (.int 0) (G 18))
def B_J0_isLatin1_aae02_18 (Q : am_Q) (G : Nat → am_K) : am_K := (ak_rz Q)
def cl_J0_isLatin1_aae02 (Q : am_Q) (G : Nat → am_K) : Prop := am_N G 0 (B_J0_isLatin1_aae02_0 Q G) ∧ am_N G 17 (B_J0_isLatin1_aae02_17 Q G) ∧ am_N G 18 (B_J0_isLatin1_aae02_18 Q G)
def WP_J0_isLatin1_aae02 : am_T := fun av h Q => (lg_sl av).length ≤ 1 ∧ ∀ G, cl_J0_isLatin1_aae02 Q G → G 0 (am_ent 1 av) [] h
set_option maxHeartbeats 4000000 in
set_option maxRecDepth 100000 in
theorem s_J0_isLatin1_aae02 {rm : Room} (hz : rm.cells = 0 ∧ rm.slots = 0) : am_S false yJ0_isLatin1_aae02 (am_ws yJ0_isLatin1_aae02 cJ0_isLatin1_aae02 1 (some .boolean)) rm (WP_J0_isLatin1_aae02) := by
  refine am_S.of (fun _ => hz) (by decide +kernel) (fun h0 Q G => cl_J0_isLatin1_aae02 Q G) ?_
  intro p l e s m args below meth c D h0 Q X hr hnm hQ
  refine ⟨?_, ?_, ?_⟩
  · unfold B_J0_isLatin1_aae02_0
    refine as_gs_CS X (by decide +kernel : decode cJ0_isLatin1_aae02 0 = .ok (.getstatic 38, 3)) fl_J0_38 ?_
    refine as_if_eq X (tgt := 17) (by decide +kernel : decode cJ0_isLatin1_aae02 3 = .ok (.ifCond .eq 14, 3)) (by decide) ?_ ?_
    · exact fun _ _ _ h => h
    · refine as_aload_n X (by decide +kernel : decode cJ0_isLatin1_aae02 6 = .ok (.aload_n 0, 1)) rfl ?_
      refine as_sc X (by decide +kernel : decode cJ0_isLatin1_aae02 7 = .ok (.getfield 15, 3)) fl_J0_15 ?_
      refine as_if_ne X (tgt := 17) (by decide +kernel : decode cJ0_isLatin1_aae02 10 = .ok (.ifCond .ne 7, 3)) (by decide) ?_ ?_
      · refine as_iconst X (by decide +kernel : decode cJ0_isLatin1_aae02 13 = .ok (.iconst 1, 1)) rfl ?_
        refine as_goto X (tgt := 18) (by decide +kernel : decode cJ0_isLatin1_aae02 14 = .ok (.goto 4, 3)) (by decide) ?_
        exact fun _ _ _ h => h
      · exact fun _ _ _ h => h
  · unfold B_J0_isLatin1_aae02_17
    refine as_iconst X (by decide +kernel : decode cJ0_isLatin1_aae02 17 = .ok (.iconst 0, 1)) rfl ?_
    exact fun _ _ _ h => h
  · unfold B_J0_isLatin1_aae02_18
    exact as_rz X hQ hr (by decide +kernel : decode cJ0_isLatin1_aae02 18 = .ok (.ireturn, 1))

def B_J0_checkIndex_df160_0 (kJ3_checkIndex_8e157 : am_T) (Q : am_Q) (G : Nat → am_K) : am_K := (ak_il 0 (ak_il 1 (ak_sf (ak_cs 3 kJ3_checkIndex_8e157 (ak_pop (ak_rv Q))))))
def cl_J0_checkIndex_df160 (kJ3_checkIndex_8e157 : am_T) (Q : am_Q) (G : Nat → am_K) : Prop := am_N G 0 (B_J0_checkIndex_df160_0 kJ3_checkIndex_8e157 Q G)
def WP_J0_checkIndex_df160 (kJ3_checkIndex_8e157 : am_T) : am_T := fun av h Q => (lg_sl av).length ≤ 2 ∧ ∀ G, cl_J0_checkIndex_df160 kJ3_checkIndex_8e157 Q G → G 0 (am_ent 2 av) [] h
set_option maxHeartbeats 4000000 in
set_option maxRecDepth 100000 in
theorem s_J0_checkIndex_df160 {mJ3_checkIndex_8e157 : Room} {kJ3_checkIndex_8e157 : am_T} (h_J3_checkIndex_8e157 : am_S false yJ3_checkIndex_8e157 (am_ws yJ3_checkIndex_8e157 cJ3_checkIndex_8e157 3 (some .int)) mJ3_checkIndex_8e157 kJ3_checkIndex_8e157) {rm : Room} (hz : rm.cells = 0 ∧ rm.slots = 0) (R_J3_checkIndex_8e157 : mJ3_checkIndex_8e157.frames + 1 ≤ rm.frames ∧ 8 + (3 + 11) + mJ3_checkIndex_8e157.locals ≤ rm.locals) : am_S false yJ0_checkIndex_df160 (am_ws yJ0_checkIndex_df160 cJ0_checkIndex_df160 2 none) rm (WP_J0_checkIndex_df160 kJ3_checkIndex_8e157) := by
  refine am_S.of (fun _ => hz) (by decide +kernel) (fun h0 Q G => cl_J0_checkIndex_df160 kJ3_checkIndex_8e157 Q G) ?_
  intro p l e s m args below meth c D h0 Q X hr hnm hQ
  show am_N _ 0 (B_J0_checkIndex_df160_0  kJ3_checkIndex_8e157 Q _)
  · unfold B_J0_checkIndex_df160_0
    refine as_iload_n X (by decide +kernel : decode cJ0_checkIndex_df160 0 = .ok (.iload_n 0, 1)) rfl ?_
    refine as_iload_n X (by decide +kernel : decode cJ0_checkIndex_df160 1 = .ok (.iload_n 1, 1)) rfl ?_
    refine as_sf X (by decide +kernel : decode cJ0_checkIndex_df160 2 = .ok (.getstatic 1053, 3)) fl_J0_1053 ?_
    refine as_cs X h_J3_checkIndex_8e157 (by decide +kernel : decode cJ0_checkIndex_df160 5 = .ok (.invokestatic 1059, 3)) dn_J3_checkIndex_8e157 ml_J0_1059 st_J3_checkIndex_8e157 ini_J3 co_J3_checkIndex_8e157 R_J3_checkIndex_8e157 ?_
    refine as_pop X (by decide +kernel : decode cJ0_checkIndex_df160 8 = .ok (.pop, 1)) ?_
    exact as_rv X hQ hr (by decide +kernel : decode cJ0_checkIndex_df160 9 = .ok (.return_, 1))

def B_J1_charAt_3b067_0 (kJ0_checkIndex_df160 : am_T) (Q : am_Q) (G : Nat → am_K) : am_K := (ak_il 1 (ak_al 0 (ak_bl (ak_cs 2 kJ0_checkIndex_df160 (ak_al 0 (ak_il 1 (ak_bld (ak_c (.int 255) (ak_ib (fun x y => x &&& y) (ak_iu (fun x => (x.toUInt32 % 65536).toInt32) (ak_rn .char Q)))))))))))
def cl_J1_charAt_3b067 (kJ0_checkIndex_df160 : am_T) (Q : am_Q) (G : Nat → am_K) : Prop := am_N G 0 (B_J1_charAt_3b067_0 kJ0_checkIndex_df160 Q G)
def WP_J1_charAt_3b067 (kJ0_checkIndex_df160 : am_T) : am_T := fun av h Q => (lg_sl av).length ≤ 2 ∧ ∀ G, cl_J1_charAt_3b067 kJ0_checkIndex_df160 Q G → G 0 (am_ent 2 av) [] h
set_option maxHeartbeats 4000000 in
set_option maxRecDepth 100000 in
theorem s_J1_charAt_3b067 {mJ0_checkIndex_df160 : Room} {kJ0_checkIndex_df160 : am_T} (h_J0_checkIndex_df160 : am_S false yJ0_checkIndex_df160 (am_ws yJ0_checkIndex_df160 cJ0_checkIndex_df160 2 none) mJ0_checkIndex_df160 kJ0_checkIndex_df160) {rm : Room} (hz : rm.cells = 0 ∧ rm.slots = 0) (R_J0_checkIndex_df160 : mJ0_checkIndex_df160.frames + 1 ≤ rm.frames ∧ 8 + (2 + 11) + mJ0_checkIndex_df160.locals ≤ rm.locals) : am_S false yJ1_charAt_3b067 (am_ws yJ1_charAt_3b067 cJ1_charAt_3b067 2 (some .char)) rm (WP_J1_charAt_3b067 kJ0_checkIndex_df160) := by
  refine am_S.of (fun _ => hz) (by decide +kernel) (fun h0 Q G => cl_J1_charAt_3b067 kJ0_checkIndex_df160 Q G) ?_
  intro p l e s m args below meth c D h0 Q X hr hnm hQ
  show am_N _ 0 (B_J1_charAt_3b067_0  kJ0_checkIndex_df160 Q _)
  · unfold B_J1_charAt_3b067_0
    refine as_iload_n X (by decide +kernel : decode cJ1_charAt_3b067 0 = .ok (.iload_n 1, 1)) rfl ?_
    refine as_aload_n X (by decide +kernel : decode cJ1_charAt_3b067 1 = .ok (.aload_n 0, 1)) rfl ?_
    refine as_bl X (by decide +kernel : decode cJ1_charAt_3b067 2 = .ok (.arraylength, 1)) ?_
    refine as_cs X h_J0_checkIndex_df160 (by decide +kernel : decode cJ1_charAt_3b067 3 = .ok (.invokestatic 9, 3)) dn_J0_checkIndex_df160 ml_J1_9 st_J0_checkIndex_df160 ini_J0 co_J0_checkIndex_df160 R_J0_checkIndex_df160 ?_
    refine as_aload_n X (by decide +kernel : decode cJ1_charAt_3b067 6 = .ok (.aload_n 0, 1)) rfl ?_
    refine as_iload_n X (by decide +kernel : decode cJ1_charAt_3b067 7 = .ok (.iload_n 1, 1)) rfl ?_
    refine as_bld X (by decide +kernel : decode cJ1_charAt_3b067 8 = .ok (.baload, 1)) ?_
    refine as_sipush X (by decide +kernel : decode cJ1_charAt_3b067 9 = .ok (.sipush 255, 3)) rfl ?_
    refine as_iand X (by decide +kernel : decode cJ1_charAt_3b067 12 = .ok (.iand, 1)) ?_
    refine as_i2c X (by decide +kernel : decode cJ1_charAt_3b067 13 = .ok (.i2c, 1)) ?_
    exact as_rn X hQ hr (by decide +kernel : decode cJ1_charAt_3b067 14 = .ok (.ireturn, 1))

def B_J3_checkIndex_8e157_0 (Q : am_Q) (G : Nat → am_K) : am_K := (ak_il 0 (ak_if (fun x => x < 0) (fun _ _ _ => False) (ak_il 0 (ak_il 1 (ak_ic (fun x y => x < y) (ak_il 0 (ak_ri Q)) (fun _ _ _ => False))))))
def cl_J3_checkIndex_8e157 (Q : am_Q) (G : Nat → am_K) : Prop := am_N G 0 (B_J3_checkIndex_8e157_0 Q G)
def WP_J3_checkIndex_8e157 : am_T := fun av h Q => (lg_sl av).length ≤ 3 ∧ ∀ G, cl_J3_checkIndex_8e157 Q G → G 0 (am_ent 3 av) [] h
set_option maxHeartbeats 4000000 in
set_option maxRecDepth 100000 in
theorem s_J3_checkIndex_8e157 {rm : Room} (hz : rm.cells = 0 ∧ rm.slots = 0) : am_S false yJ3_checkIndex_8e157 (am_ws yJ3_checkIndex_8e157 cJ3_checkIndex_8e157 3 (some .int)) rm (WP_J3_checkIndex_8e157) := by
  refine am_S.of (fun _ => hz) (by decide +kernel) (fun h0 Q G => cl_J3_checkIndex_8e157 Q G) ?_
  intro p l e s m args below meth c D h0 Q X hr hnm hQ
  show am_N _ 0 (B_J3_checkIndex_8e157_0  Q _)
  · unfold B_J3_checkIndex_8e157_0
    refine as_iload_n X (by decide +kernel : decode cJ3_checkIndex_8e157 0 = .ok (.iload_n 0, 1)) rfl ?_
    refine as_if_lt X (tgt := 9) (by decide +kernel : decode cJ3_checkIndex_8e157 1 = .ok (.ifCond .lt 8, 3)) (by decide) ?_ ?_
    · exact fun _ _ _ h => h.elim
    · refine as_iload_n X (by decide +kernel : decode cJ3_checkIndex_8e157 4 = .ok (.iload_n 0, 1)) rfl ?_
      refine as_iload_n X (by decide +kernel : decode cJ3_checkIndex_8e157 5 = .ok (.iload_n 1, 1)) rfl ?_
      refine as_ic_lt X (tgt := 16) (by decide +kernel : decode cJ3_checkIndex_8e157 6 = .ok (.if_icmp .lt 10, 3)) (by decide) ?_ ?_
      · refine as_iload_n X (by decide +kernel : decode cJ3_checkIndex_8e157 16 = .ok (.iload_n 0, 1)) rfl ?_
        exact as_ri X hQ hr (by decide +kernel : decode cJ3_checkIndex_8e157 17 = .ok (.ireturn, 1))
      · exact fun _ _ _ h => h.elim
