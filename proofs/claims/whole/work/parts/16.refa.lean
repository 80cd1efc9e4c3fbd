/-! points, closures, contracts, soundness; printed by wip/whole/gen.py -/
def B_X9_init_0 (kX9_writes : am_T) (kX9_learn : am_T) (kX9_clue : am_T) (h0 : am_H) (rc rs : Nat) (Q : am_Q) (G : Nat → am_K) : am_K := (ak_al 0 (ak_oi (ak_al 0 (ak_c (.int 200) (ak_newi h0 rc rs (ak_puta 7 1 (ak_al 0 (ak_c (.int 192) (ak_newi h0 rc rs (ak_puta 7 3 (ak_al 0 (ak_c (.int 216) (ak_newi h0 rc rs (ak_puta 7 4 (ak_al 0 (ak_c (.int 24) (ak_newi h0 rc rs (ak_puta 7 5 (ak_al 0 (ak_c (.int 200) (ak_newi h0 rc rs (ak_puta 7 7 (ak_al 0 (ak_c (.int 225) (ak_newi h0 rc rs (ak_puta 7 8 (ak_al 0 (ak_c (.int 25) (ak_newi h0 rc rs (ak_puta 7 9 (ak_al 0 (ak_c (.int 48) (ak_newi h0 rc rs (ak_puta 7 11 (ak_al 0 (ak_c (.int 9) (ak_newi h0 rc rs (ak_puta 7 12 (ak_al 0 (ak_c (.int 9) (ak_newi h0 rc rs (ak_puta 7 13 (ak_al 0 (ak_c (.int 11) (ak_newi h0 rc rs (G 94))))))))))))))))))))))))))))))))))))))))))))))
def B_X9_init_94 (kX9_writes : am_T) (kX9_learn : am_T) (kX9_clue : am_T) (h0 : am_H) (rc rs : Nat) (Q : am_Q) (G : Nat → am_K) : am_K := (ak_dup (ak_c (.int 0) (ak_c (.int 1) (ak_iast (ak_dup (ak_c (.int 1) (ak_c (.int 3) (ak_iast (ak_dup (ak_c (.int 2) (ak_c (.int 1) (ak_iast (ak_dup (ak_c (.int 3) (ak_c (.int 2) (ak_iast (ak_dup (ak_c (.int 4) (ak_c (.int 1) (ak_iast (ak_dup (ak_c (.int 5) (ak_c (.int 1) (ak_iast (ak_dup (ak_c (.int 6) (ak_c (.int 2) (ak_iast (ak_dup (ak_c (.int 7) (ak_c (.int 2) (ak_iast (ak_dup (ak_c (.int 8) (ak_c (.int 2) (ak_iast (ak_dup (ak_c (.int 9) (ak_c (.int 2) (ak_iast (ak_dup (ak_c (.int 10) (ak_c (.int 0) (ak_iast (ak_puta 7 14 (G 146))))))))))))))))))))))))))))))))))))))))))))))
def B_X9_init_146 (kX9_writes : am_T) (kX9_learn : am_T) (kX9_clue : am_T) (h0 : am_H) (rc rs : Nat) (Q : am_Q) (G : Nat → am_K) : am_K := (ak_al 0 (ak_c (.int 10752) (ak_newl h0 rc rs (ak_puta 7 15 (ak_al 0 (ak_c (.int (-1)) (ak_puti 7 18 (ak_al 0 (ak_c (.int 8) (ak_newi h0 rc rs (ak_puta 7 26 (ak_al 0 (ak_c (.int 42) (ak_newi h0 rc rs (ak_puta 7 27 (ak_al 0 (ak_c (.int 400) (ak_newi h0 rc rs (ak_puta 7 30 (ak_al 0 (ak_c (.int 60) (ak_newi h0 rc rs (ak_puta 7 31 (ak_al 0 (ak_c (.int 28) (ak_newi h0 rc rs (ak_dup (ak_c (.int 0) (ak_c (.int 115) (ak_iast (ak_dup (ak_c (.int 1) (ak_c (.int 97) (ak_iast (ak_dup (ak_c (.int 2) (ak_c (.int 105) (ak_iast (ak_dup (ak_c (.int 3) (ak_c (.int 108) (ak_iast (ak_dup (ak_c (.int 4) (ak_c (.int 111) (G 222))))))))))))))))))))))))))))))))))))))))))))))
def B_X9_init_222 (kX9_writes : am_T) (kX9_learn : am_T) (kX9_clue : am_T) (h0 : am_H) (rc rs : Nat) (Q : am_Q) (G : Nat → am_K) : am_K := (ak_iast (ak_dup (ak_c (.int 5) (ak_c (.int 114) (ak_iast (ak_dup (ak_c (.int 6) (ak_c (.int 61) (ak_iast (ak_dup (ak_c (.int 7) (ak_c (.int 116) (ak_iast (ak_dup (ak_c (.int 8) (ak_c (.int 97) (ak_iast (ak_dup (ak_c (.int 9) (ak_c (.int 114) (ak_iast (ak_dup (ak_c (.int 10) (ak_c (.int 59) (ak_iast (ak_dup (ak_c (.int 11) (ak_c (.int 112) (ak_iast (ak_dup (ak_c (.int 12) (ak_c (.int 101) (ak_iast (ak_dup (ak_c (.int 13) (ak_c (.int 115) (ak_iast (ak_dup (ak_c (.int 14) (ak_c (.int 116) (ak_iast (ak_dup (ak_c (.int 15) (ak_c (.int 61) (ak_iast (G 288))))))))))))))))))))))))))))))))))))))))))))))
def B_X9_init_288 (kX9_writes : am_T) (kX9_learn : am_T) (kX9_clue : am_T) (h0 : am_H) (rc rs : Nat) (Q : am_Q) (G : Nat → am_K) : am_K := (ak_dup (ak_c (.int 16) (ak_c (.int 114) (ak_iast (ak_dup (ak_c (.int 17) (ak_c (.int 97) (ak_iast (ak_dup (ak_c (.int 18) (ak_c (.int 116) (ak_iast (ak_dup (ak_c (.int 19) (ak_c (.int 59) (ak_iast (ak_dup (ak_c (.int 20) (ak_c (.int 115) (ak_iast (ak_dup (ak_c (.int 21) (ak_c (.int 104) (ak_iast (ak_dup (ak_c (.int 22) (ak_c (.int 105) (ak_iast (ak_dup (ak_c (.int 23) (ak_c (.int 112) (ak_iast (ak_dup (ak_c (.int 24) (ak_c (.int 61) (ak_iast (ak_dup (ak_c (.int 25) (ak_c (.int 115) (ak_iast (ak_dup (ak_c (.int 26) (ak_c (.int 115) (ak_iast (ak_dup (G 355))))))))))))))))))))))))))))))))))))))))))))))
def B_X9_init_355 (kX9_writes : am_T) (kX9_learn : am_T) (kX9_clue : am_T) (h0 : am_H) (rc rs : Nat) (Q : am_Q) (G : Nat → am_K) : am_K := (ak_c (.int 27) (ak_c (.int 59) (ak_iast (ak_puta 7 33 (ak_al 0 (ak_c (.int 29) (ak_newi h0 rc rs (ak_dup (ak_c (.int 0) (ak_c (.int 102) (ak_iast (ak_dup (ak_c (.int 1) (ak_c (.int 108) (ak_iast (ak_dup (ak_c (.int 2) (ak_c (.int 111) (ak_iast (ak_dup (ak_c (.int 3) (ak_c (.int 119) (ak_iast (ak_dup (ak_c (.int 4) (ak_c (.int 101) (ak_iast (ak_dup (ak_c (.int 5) (ak_c (.int 114) (ak_iast (ak_dup (ak_c (.int 6) (ak_c (.int 61) (ak_iast (ak_dup (ak_c (.int 7) (ak_c (.int 97) (ak_iast (ak_dup (ak_c (.int 8) (ak_c (.int 115) (ak_iast (ak_dup (ak_c (.int 9) (G 419))))))))))))))))))))))))))))))))))))))))))))))
def B_X9_init_419 (kX9_writes : am_T) (kX9_learn : am_T) (kX9_clue : am_T) (h0 : am_H) (rc rs : Nat) (Q : am_Q) (G : Nat → am_K) : am_K := (ak_c (.int 116) (ak_iast (ak_dup (ak_c (.int 10) (ak_c (.int 101) (ak_iast (ak_dup (ak_c (.int 11) (ak_c (.int 114) (ak_iast (ak_dup (ak_c (.int 12) (ak_c (.int 59) (ak_iast (ak_dup (ak_c (.int 13) (ak_c (.int 115) (ak_iast (ak_dup (ak_c (.int 14) (ak_c (.int 116) (ak_iast (ak_dup (ak_c (.int 15) (ak_c (.int 97) (ak_iast (ak_dup (ak_c (.int 16) (ak_c (.int 114) (ak_iast (ak_dup (ak_c (.int 17) (ak_c (.int 61) (ak_iast (ak_dup (ak_c (.int 18) (ak_c (.int 115) (ak_iast (ak_dup (ak_c (.int 19) (ak_c (.int 117) (ak_iast (ak_dup (ak_c (.int 20) (ak_c (.int 110) (G 487))))))))))))))))))))))))))))))))))))))))))))))
def B_X9_init_487 (kX9_writes : am_T) (kX9_learn : am_T) (kX9_clue : am_T) (h0 : am_H) (rc rs : Nat) (Q : am_Q) (G : Nat → am_K) : am_K := (ak_iast (ak_dup (ak_c (.int 21) (ak_c (.int 59) (ak_iast (ak_dup (ak_c (.int 22) (ak_c (.int 98) (ak_iast (ak_dup (ak_c (.int 23) (ak_c (.int 97) (ak_iast (ak_dup (ak_c (.int 24) (ak_c (.int 99) (ak_iast (ak_dup (ak_c (.int 25) (ak_c (.int 107) (ak_iast (ak_dup (ak_c (.int 26) (ak_c (.int 47) (ak_iast (ak_dup (ak_c (.int 27) (ak_c (.int 82) (ak_iast (ak_dup (ak_c (.int 28) (ak_c (.int 59) (ak_iast (ak_puta 7 34 (ak_al 0 (ak_c (.int 30) (ak_newi h0 rc rs (ak_dup (ak_c (.int 0) (ak_c (.int 98) (ak_iast (ak_dup (ak_c (.int 1) (ak_c (.int 114) (ak_iast (G 554))))))))))))))))))))))))))))))))))))))))))))))
def B_X9_init_554 (kX9_writes : am_T) (kX9_learn : am_T) (kX9_clue : am_T) (h0 : am_H) (rc rs : Nat) (Q : am_Q) (G : Nat → am_K) : am_K := (ak_dup (ak_c (.int 2) (ak_c (.int 111) (ak_iast (ak_dup (ak_c (.int 3) (ak_c (.int 107) (ak_iast (ak_dup (ak_c (.int 4) (ak_c (.int 101) (ak_iast (ak_dup (ak_c (.int 5) (ak_c (.int 110) (ak_iast (ak_dup (ak_c (.int 6) (ak_c (.int 47) (ak_iast (ak_dup (ak_c (.int 7) (ak_c (.int 65) (ak_iast (ak_dup (ak_c (.int 8) (ak_c (.int 59) (ak_iast (ak_dup (ak_c (.int 9) (ak_c (.int 105) (ak_iast (ak_dup (ak_c (.int 10) (ak_c (.int 110) (ak_iast (ak_dup (ak_c (.int 11) (ak_c (.int 47) (ak_iast (ak_dup (ak_c (.int 12) (ak_c (.int 78) (ak_iast (ak_dup (G 617))))))))))))))))))))))))))))))))))))))))))))))
def B_X9_init_617 (kX9_writes : am_T) (kX9_learn : am_T) (kX9_clue : am_T) (h0 : am_H) (rc rs : Nat) (Q : am_Q) (G : Nat → am_K) : am_K := (ak_c (.int 13) (ak_c (.int 59) (ak_iast (ak_dup (ak_c (.int 14) (ak_c (.int 97) (ak_iast (ak_dup (ak_c (.int 15) (ak_c (.int 114) (ak_iast (ak_dup (ak_c (.int 16) (ak_c (.int 111) (ak_iast (ak_dup (ak_c (.int 17) (ak_c (.int 117) (ak_iast (ak_dup (ak_c (.int 18) (ak_c (.int 110) (ak_iast (ak_dup (ak_c (.int 19) (ak_c (.int 100) (ak_iast (ak_dup (ak_c (.int 20) (ak_c (.int 47) (ak_iast (ak_dup (ak_c (.int 21) (ak_c (.int 67) (ak_iast (ak_dup (ak_c (.int 22) (ak_c (.int 59) (ak_iast (ak_dup (ak_c (.int 23) (ak_c (.int 115) (ak_iast (ak_dup (ak_c (.int 24) (G 685))))))))))))))))))))))))))))))))))))))))))))))
def B_X9_init_685 (kX9_writes : am_T) (kX9_learn : am_T) (kX9_clue : am_T) (h0 : am_H) (rc rs : Nat) (Q : am_Q) (G : Nat → am_K) : am_K := (ak_c (.int 111) (ak_iast (ak_dup (ak_c (.int 25) (ak_c (.int 109) (ak_iast (ak_dup (ak_c (.int 26) (ak_c (.int 101) (ak_iast (ak_dup (ak_c (.int 27) (ak_c (.int 47) (ak_iast (ak_dup (ak_c (.int 28) (ak_c (.int 72) (ak_iast (ak_dup (ak_c (.int 29) (ak_c (.int 59) (ak_iast (ak_puta 7 35 (ak_al 0 (ak_c (.int 30) (ak_newi h0 rc rs (ak_dup (ak_c (.int 0) (ak_c (.int 108) (ak_iast (ak_dup (ak_c (.int 1) (ak_c (.int 97) (ak_iast (ak_dup (ak_c (.int 2) (ak_c (.int 116) (ak_iast (ak_dup (ak_c (.int 3) (ak_c (.int 101) (ak_iast (ak_dup (ak_c (.int 4) (ak_c (.int 114) (G 750))))))))))))))))))))))))))))))))))))))))))))))
def B_X9_init_750 (kX9_writes : am_T) (kX9_learn : am_T) (kX9_clue : am_T) (h0 : am_H) (rc rs : Nat) (Q : am_Q) (G : Nat → am_K) : am_K := (ak_iast (ak_dup (ak_c (.int 5) (ak_c (.int 47) (ak_iast (ak_dup (ak_c (.int 6) (ak_c (.int 66) (ak_iast (ak_dup (ak_c (.int 7) (ak_c (.int 59) (ak_iast (ak_dup (ak_c (.int 8) (ak_c (.int 115) (ak_iast (ak_dup (ak_c (.int 9) (ak_c (.int 104) (ak_iast (ak_dup (ak_c (.int 10) (ak_c (.int 111) (ak_iast (ak_dup (ak_c (.int 11) (ak_c (.int 114) (ak_iast (ak_dup (ak_c (.int 12) (ak_c (.int 116) (ak_iast (ak_dup (ak_c (.int 13) (ak_c (.int 47) (ak_iast (ak_dup (ak_c (.int 14) (ak_c (.int 84) (ak_iast (ak_dup (ak_c (.int 15) (ak_c (.int 59) (ak_iast (G 816))))))))))))))))))))))))))))))))))))))))))))))
def B_X9_init_816 (kX9_writes : am_T) (kX9_learn : am_T) (kX9_clue : am_T) (h0 : am_H) (rc rs : Nat) (Q : am_Q) (G : Nat → am_K) : am_K := (ak_dup (ak_c (.int 16) (ak_c (.int 102) (ak_iast (ak_dup (ak_c (.int 17) (ak_c (.int 105) (ak_iast (ak_dup (ak_c (.int 18) (ak_c (.int 114) (ak_iast (ak_dup (ak_c (.int 19) (ak_c (.int 115) (ak_iast (ak_dup (ak_c (.int 20) (ak_c (.int 116) (ak_iast (ak_dup (ak_c (.int 21) (ak_c (.int 47) (ak_iast (ak_dup (ak_c (.int 22) (ak_c (.int 73) (ak_iast (ak_dup (ak_c (.int 23) (ak_c (.int 59) (ak_iast (ak_dup (ak_c (.int 24) (ak_c (.int 102) (ak_iast (ak_dup (ak_c (.int 25) (ak_c (.int 111) (ak_iast (ak_dup (ak_c (.int 26) (ak_c (.int 114) (ak_iast (ak_dup (G 883))))))))))))))))))))))))))))))))))))))))))))))
def B_X9_init_883 (kX9_writes : am_T) (kX9_learn : am_T) (kX9_clue : am_T) (h0 : am_H) (rc rs : Nat) (Q : am_Q) (G : Nat → am_K) : am_K := (ak_c (.int 27) (ak_c (.int 47) (ak_iast (ak_dup (ak_c (.int 28) (ak_c (.int 76) (ak_iast (ak_dup (ak_c (.int 29) (ak_c (.int 59) (ak_iast (ak_puta 7 36 (ak_al 0 (ak_c (.int 16) (ak_newi h0 rc rs (ak_dup (ak_c (.int 0) (ak_c (.int 112) (ak_iast (ak_dup (ak_c (.int 1) (ak_c (.int 101) (ak_iast (ak_dup (ak_c (.int 2) (ak_c (.int 115) (ak_iast (ak_dup (ak_c (.int 3) (ak_c (.int 116) (ak_iast (ak_dup (ak_c (.int 4) (ak_c (.int 32) (ak_iast (ak_dup (ak_c (.int 5) (ak_c (.int 98) (ak_iast (ak_dup (ak_c (.int 6) (ak_c (.int 97) (ak_iast (ak_dup (ak_c (.int 7) (G 947))))))))))))))))))))))))))))))))))))))))))))))
def B_X9_init_947 (kX9_writes : am_T) (kX9_learn : am_T) (kX9_clue : am_T) (h0 : am_H) (rc rs : Nat) (Q : am_Q) (G : Nat → am_K) : am_K := (ak_c (.int 99) (ak_iast (ak_dup (ak_c (.int 8) (ak_c (.int 107) (ak_iast (ak_dup (ak_c (.int 9) (ak_c (.int 32) (ak_iast (ak_dup (ak_c (.int 10) (ak_c (.int 115) (ak_iast (ak_dup (ak_c (.int 11) (ak_c (.int 97) (ak_iast (ak_dup (ak_c (.int 12) (ak_c (.int 105) (ak_iast (ak_dup (ak_c (.int 13) (ak_c (.int 108) (ak_iast (ak_dup (ak_c (.int 14) (ak_c (.int 111) (ak_iast (ak_dup (ak_c (.int 15) (ak_c (.int 114) (ak_iast (ak_puta 7 37 (ak_al 0 (ak_c (.int 48) (ak_newi h0 rc rs (ak_puta 7 38 (ak_al 0 (ak_al 0 (ak_get 7 33 (ak_cv 2 7 kX9_writes (ak_al 0 (ak_al 0 (G 1019))))))))))))))))))))))))))))))))))))))))))))))
def B_X9_init_1019 (kX9_writes : am_T) (kX9_learn : am_T) (kX9_clue : am_T) (h0 : am_H) (rc rs : Nat) (Q : am_Q) (G : Nat → am_K) : am_K := (ak_get 7 34 (ak_cv 2 7 kX9_writes (ak_al 0 (ak_al 0 (ak_get 7 35 (ak_cv 2 7 kX9_writes (ak_al 0 (ak_al 0 (ak_get 7 36 (ak_cv 2 7 kX9_writes (ak_al 0 (ak_cv 1 7 kX9_learn (ak_pop (ak_al 0 (ak_c (.int 0) (ak_puti 7 0 (ak_al 0 (ak_al 0 (ak_get 7 37 (ak_cv 2 7 kX9_writes (ak_al 0 (ak_cv 1 7 kX9_clue (ak_pop (ak_al 0 (ak_c (.int 0) (ak_puti 7 0 (ak_al 0 (ak_get 7 12 (ak_c (.int 0) (ak_c (.int 3) (ak_iast (ak_al 0 (ak_get 7 12 (ak_c (.int 1) (ak_c (.int 116) (ak_iast (ak_al 0 (ak_get 7 12 (ak_c (.int 2) (ak_c (.int 97) (ak_iast (ak_al 0 (ak_get 7 12 (ak_c (.int 3) (ak_c (.int 114) (G 1099))))))))))))))))))))))))))))))))))))))))))))))
def B_X9_init_1099 (kX9_writes : am_T) (kX9_learn : am_T) (kX9_clue : am_T) (h0 : am_H) (rc rs : Nat) (Q : am_Q) (G : Nat → am_K) : am_K := (ak_iast (ak_rv Q))
def cl_X9_init (kX9_writes : am_T) (kX9_learn : am_T) (kX9_clue : am_T) (h0 : am_H) (rc rs : Nat) (Q : am_Q) (G : Nat → am_K) : Prop := am_N G 0 (B_X9_init_0 kX9_writes kX9_learn kX9_clue h0 rc rs Q G) ∧ am_N G 94 (B_X9_init_94 kX9_writes kX9_learn kX9_clue h0 rc rs Q G) ∧ am_N G 146 (B_X9_init_146 kX9_writes kX9_learn kX9_clue h0 rc rs Q G) ∧ am_N G 222 (B_X9_init_222 kX9_writes kX9_learn kX9_clue h0 rc rs Q G) ∧ am_N G 288 (B_X9_init_288 kX9_writes kX9_learn kX9_clue h0 rc rs Q G) ∧ am_N G 355 (B_X9_init_355 kX9_writes kX9_learn kX9_clue h0 rc rs Q G) ∧ am_N G 419 (B_X9_init_419 kX9_writes kX9_learn kX9_clue h0 rc rs Q G) ∧ am_N G 487 (B_X9_init_487 kX9_writes kX9_learn kX9_clue h0 rc rs Q G) ∧ am_N G 554 (B_X9_init_554 kX9_writes kX9_learn kX9_clue h0 rc rs Q G) ∧ am_N G 617 (B_X9_init_617 kX9_writes kX9_learn kX9_clue h0 rc rs Q G) ∧ am_N G 685 (B_X9_init_685 kX9_writes kX9_learn kX9_clue h0 rc rs Q G) ∧ am_N G 750 (B_X9_init_750 kX9_writes kX9_learn kX9_clue h0 rc rs Q G) ∧ am_N G 816 (B_X9_init_816 kX9_writes kX9_learn kX9_clue h0 rc rs Q G) ∧ am_N G 883 (B_X9_init_883 kX9_writes kX9_learn kX9_clue h0 rc rs Q G) ∧ am_N G 947 (B_X9_init_947 kX9_writes kX9_learn kX9_clue h0 rc rs Q G) ∧ am_N G 1019 (B_X9_init_1019 kX9_writes kX9_learn kX9_clue h0 rc rs Q G) ∧ am_N G 1099 (B_X9_init_1099 kX9_writes kX9_learn kX9_clue h0 rc rs Q G)
def WP_X9_init (kX9_writes : am_T) (kX9_learn : am_T) (kX9_clue : am_T) (rc rs : Nat) : am_T := fun av h Q => (lg_sl av).length ≤ 1 ∧ ∀ G, cl_X9_init kX9_writes kX9_learn kX9_clue h rc rs Q G → G 0 (am_ent 1 av) [] h
set_option maxHeartbeats 4000000 in
set_option maxRecDepth 100000 in
theorem s_X9_init {mX9_writes : Room} {kX9_writes : am_T} (h_X9_writes : am_S false yX9_writes (am_ws yX9_writes cX9_writes 3 none) mX9_writes kX9_writes) {mX9_learn : Room} {kX9_learn : am_T} (h_X9_learn : am_S false yX9_learn (am_ws yX9_learn cX9_learn 3 (some .int)) mX9_learn kX9_learn) {mX9_clue : Room} {kX9_clue : am_T} (h_X9_clue : am_S false yX9_clue (am_ws yX9_clue cX9_clue 5 (some .int)) mX9_clue kX9_clue) {rm : Room} (R_X9_writes : mX9_writes.frames + 1 ≤ rm.frames ∧ 8 + (3 + 11) + mX9_writes.locals ≤ rm.locals) (R_X9_learn : mX9_learn.frames + 1 ≤ rm.frames ∧ 8 + (3 + 11) + mX9_learn.locals ≤ rm.locals) (R_X9_clue : mX9_clue.frames + 1 ≤ rm.frames ∧ 8 + (5 + 11) + mX9_clue.locals ≤ rm.locals) (hO : 1 ≤ rm.frames ∧ 20 ≤ rm.locals) : am_S true yX9_init (am_ws yX9_init cX9_init 1 none) rm (WP_X9_init kX9_writes kX9_learn kX9_clue rm.cells rm.slots) := by
  refine am_S.of (fun q => by cases q) (by decide +kernel) (fun h0 Q G => cl_X9_init kX9_writes kX9_learn kX9_clue h0 rm.cells rm.slots Q G) ?_
  intro p l e s m args below meth c D h0 Q X hr hnm hQ
  refine ⟨?_, ?_, ?_, ?_, ?_, ?_, ?_, ?_, ?_, ?_, ?_, ?_, ?_, ?_, ?_, ?_, ?_⟩
  · unfold B_X9_init_0
    refine as_aload_n X (by decide +kernel : decode cX9_init 0 = .ok (.aload_n 0, 1)) rfl ?_
    refine as_oi X (by decide +kernel : decode cX9_init 1 = .ok (.invokespecial 1, 3)) ml_X9_1 im_objectInit co_objectInit hO.1 hO.2 ?_
    refine as_aload_n X (by decide +kernel : decode cX9_init 4 = .ok (.aload_n 0, 1)) rfl ?_
    refine as_sipush X (by decide +kernel : decode cX9_init 5 = .ok (.sipush 200, 3)) rfl ?_
    refine as_newi X (by decide +kernel : decode cX9_init 8 = .ok (.newarray .int, 2)) ac_int ?_
    refine as_puta X fc_X9 (by decide +kernel : decode cX9_init 10 = .ok (.putfield 7, 3)) (by decide) fl_X9_7 (Or.inr ⟨rfl, hnm, rfl⟩) (Or.inl ⟨_, rfl⟩) ?_
    refine as_aload_n X (by decide +kernel : decode cX9_init 13 = .ok (.aload_n 0, 1)) rfl ?_
    refine as_sipush X (by decide +kernel : decode cX9_init 14 = .ok (.sipush 192, 3)) rfl ?_
    refine as_newi X (by decide +kernel : decode cX9_init 17 = .ok (.newarray .int, 2)) ac_int ?_
    refine as_puta X fc_X9 (by decide +kernel : decode cX9_init 19 = .ok (.putfield 13, 3)) (by decide) fl_X9_13 (Or.inr ⟨rfl, hnm, rfl⟩) (Or.inl ⟨_, rfl⟩) ?_
    refine as_aload_n X (by decide +kernel : decode cX9_init 22 = .ok (.aload_n 0, 1)) rfl ?_
    refine as_sipush X (by decide +kernel : decode cX9_init 23 = .ok (.sipush 216, 3)) rfl ?_
    refine as_newi X (by decide +kernel : decode cX9_init 26 = .ok (.newarray .int, 2)) ac_int ?_
    refine as_puta X fc_X9 (by decide +kernel : decode cX9_init 28 = .ok (.putfield 16, 3)) (by decide) fl_X9_16 (Or.inr ⟨rfl, hnm, rfl⟩) (Or.inl ⟨_, rfl⟩) ?_
    refine as_aload_n X (by decide +kernel : decode cX9_init 31 = .ok (.aload_n 0, 1)) rfl ?_
    refine as_bipush X (by decide +kernel : decode cX9_init 32 = .ok (.bipush 24, 2)) rfl ?_
    refine as_newi X (by decide +kernel : decode cX9_init 34 = .ok (.newarray .int, 2)) ac_int ?_
    refine as_puta X fc_X9 (by decide +kernel : decode cX9_init 36 = .ok (.putfield 19, 3)) (by decide) fl_X9_19 (Or.inr ⟨rfl, hnm, rfl⟩) (Or.inl ⟨_, rfl⟩) ?_
    refine as_aload_n X (by decide +kernel : decode cX9_init 39 = .ok (.aload_n 0, 1)) rfl ?_
    refine as_sipush X (by decide +kernel : decode cX9_init 40 = .ok (.sipush 200, 3)) rfl ?_
    refine as_newi X (by decide +kernel : decode cX9_init 43 = .ok (.newarray .int, 2)) ac_int ?_
    refine as_puta X fc_X9 (by decide +kernel : decode cX9_init 45 = .ok (.putfield 22, 3)) (by decide) fl_X9_22 (Or.inr ⟨rfl, hnm, rfl⟩) (Or.inl ⟨_, rfl⟩) ?_
    refine as_aload_n X (by decide +kernel : decode cX9_init 48 = .ok (.aload_n 0, 1)) rfl ?_
    refine as_sipush X (by decide +kernel : decode cX9_init 49 = .ok (.sipush 225, 3)) rfl ?_
    refine as_newi X (by decide +kernel : decode cX9_init 52 = .ok (.newarray .int, 2)) ac_int ?_
    refine as_puta X fc_X9 (by decide +kernel : decode cX9_init 54 = .ok (.putfield 25, 3)) (by decide) fl_X9_25 (Or.inr ⟨rfl, hnm, rfl⟩) (Or.inl ⟨_, rfl⟩) ?_
    refine as_aload_n X (by decide +kernel : decode cX9_init 57 = .ok (.aload_n 0, 1)) rfl ?_
    refine as_bipush X (by decide +kernel : decode cX9_init 58 = .ok (.bipush 25, 2)) rfl ?_
    refine as_newi X (by decide +kernel : decode cX9_init 60 = .ok (.newarray .int, 2)) ac_int ?_
    refine as_puta X fc_X9 (by decide +kernel : decode cX9_init 62 = .ok (.putfield 28, 3)) (by decide) fl_X9_28 (Or.inr ⟨rfl, hnm, rfl⟩) (Or.inl ⟨_, rfl⟩) ?_
    refine as_aload_n X (by decide +kernel : decode cX9_init 65 = .ok (.aload_n 0, 1)) rfl ?_
    refine as_bipush X (by decide +kernel : decode cX9_init 66 = .ok (.bipush 48, 2)) rfl ?_
    refine as_newi X (by decide +kernel : decode cX9_init 68 = .ok (.newarray .int, 2)) ac_int ?_
    refine as_puta X fc_X9 (by decide +kernel : decode cX9_init 70 = .ok (.putfield 31, 3)) (by decide) fl_X9_31 (Or.inr ⟨rfl, hnm, rfl⟩) (Or.inl ⟨_, rfl⟩) ?_
    refine as_aload_n X (by decide +kernel : decode cX9_init 73 = .ok (.aload_n 0, 1)) rfl ?_
    refine as_bipush X (by decide +kernel : decode cX9_init 74 = .ok (.bipush 9, 2)) rfl ?_
    refine as_newi X (by decide +kernel : decode cX9_init 76 = .ok (.newarray .int, 2)) ac_int ?_
    refine as_puta X fc_X9 (by decide +kernel : decode cX9_init 78 = .ok (.putfield 34, 3)) (by decide) fl_X9_34 (Or.inr ⟨rfl, hnm, rfl⟩) (Or.inl ⟨_, rfl⟩) ?_
    refine as_aload_n X (by decide +kernel : decode cX9_init 81 = .ok (.aload_n 0, 1)) rfl ?_
    refine as_bipush X (by decide +kernel : decode cX9_init 82 = .ok (.bipush 9, 2)) rfl ?_
    refine as_newi X (by decide +kernel : decode cX9_init 84 = .ok (.newarray .int, 2)) ac_int ?_
    refine as_puta X fc_X9 (by decide +kernel : decode cX9_init 86 = .ok (.putfield 37, 3)) (by decide) fl_X9_37 (Or.inr ⟨rfl, hnm, rfl⟩) (Or.inl ⟨_, rfl⟩) ?_
    refine as_aload_n X (by decide +kernel : decode cX9_init 89 = .ok (.aload_n 0, 1)) rfl ?_
    refine as_bipush X (by decide +kernel : decode cX9_init 90 = .ok (.bipush 11, 2)) rfl ?_
    refine as_newi X (by decide +kernel : decode cX9_init 92 = .ok (.newarray .int, 2)) ac_int ?_
    exact fun _ _ _ h => h
  · unfold B_X9_init_94
    refine as_dup X (by decide +kernel : decode cX9_init 94 = .ok (.dup, 1)) ?_
    refine as_iconst X (by decide +kernel : decode cX9_init 95 = .ok (.iconst 0, 1)) rfl ?_
    refine as_iconst X (by decide +kernel : decode cX9_init 96 = .ok (.iconst 1, 1)) rfl ?_
    refine as_iastore X (by decide +kernel : decode cX9_init 97 = .ok (.iastore, 1)) ?_
    refine as_dup X (by decide +kernel : decode cX9_init 98 = .ok (.dup, 1)) ?_
    refine as_iconst X (by decide +kernel : decode cX9_init 99 = .ok (.iconst 1, 1)) rfl ?_
    refine as_iconst X (by decide +kernel : decode cX9_init 100 = .ok (.iconst 3, 1)) rfl ?_
    refine as_iastore X (by decide +kernel : decode cX9_init 101 = .ok (.iastore, 1)) ?_
    refine as_dup X (by decide +kernel : decode cX9_init 102 = .ok (.dup, 1)) ?_
    refine as_iconst X (by decide +kernel : decode cX9_init 103 = .ok (.iconst 2, 1)) rfl ?_
    refine as_iconst X (by decide +kernel : decode cX9_init 104 = .ok (.iconst 1, 1)) rfl ?_
    refine as_iastore X (by decide +kernel : decode cX9_init 105 = .ok (.iastore, 1)) ?_
    refine as_dup X (by decide +kernel : decode cX9_init 106 = .ok (.dup, 1)) ?_
    refine as_iconst X (by decide +kernel : decode cX9_init 107 = .ok (.iconst 3, 1)) rfl ?_
    refine as_iconst X (by decide +kernel : decode cX9_init 108 = .ok (.iconst 2, 1)) rfl ?_
    refine as_iastore X (by decide +kernel : decode cX9_init 109 = .ok (.iastore, 1)) ?_
    refine as_dup X (by decide +kernel : decode cX9_init 110 = .ok (.dup, 1)) ?_
    refine as_iconst X (by decide +kernel : decode cX9_init 111 = .ok (.iconst 4, 1)) rfl ?_
    refine as_iconst X (by decide +kernel : decode cX9_init 112 = .ok (.iconst 1, 1)) rfl ?_
    refine as_iastore X (by decide +kernel : decode cX9_init 113 = .ok (.iastore, 1)) ?_
    refine as_dup X (by decide +kernel : decode cX9_init 114 = .ok (.dup, 1)) ?_
    refine as_iconst X (by decide +kernel : decode cX9_init 115 = .ok (.iconst 5, 1)) rfl ?_
    refine as_iconst X (by decide +kernel : decode cX9_init 116 = .ok (.iconst 1, 1)) rfl ?_
    refine as_iastore X (by decide +kernel : decode cX9_init 117 = .ok (.iastore, 1)) ?_
    refine as_dup X (by decide +kernel : decode cX9_init 118 = .ok (.dup, 1)) ?_
    refine as_bipush X (by decide +kernel : decode cX9_init 119 = .ok (.bipush 6, 2)) rfl ?_
    refine as_iconst X (by decide +kernel : decode cX9_init 121 = .ok (.iconst 2, 1)) rfl ?_
    refine as_iastore X (by decide +kernel : decode cX9_init 122 = .ok (.iastore, 1)) ?_
    refine as_dup X (by decide +kernel : decode cX9_init 123 = .ok (.dup, 1)) ?_
    refine as_bipush X (by decide +kernel : decode cX9_init 124 = .ok (.bipush 7, 2)) rfl ?_
    refine as_iconst X (by decide +kernel : decode cX9_init 126 = .ok (.iconst 2, 1)) rfl ?_
    refine as_iastore X (by decide +kernel : decode cX9_init 127 = .ok (.iastore, 1)) ?_
    refine as_dup X (by decide +kernel : decode cX9_init 128 = .ok (.dup, 1)) ?_
    refine as_bipush X (by decide +kernel : decode cX9_init 129 = .ok (.bipush 8, 2)) rfl ?_
    refine as_iconst X (by decide +kernel : decode cX9_init 131 = .ok (.iconst 2, 1)) rfl ?_
    refine as_iastore X (by decide +kernel : decode cX9_init 132 = .ok (.iastore, 1)) ?_
    refine as_dup X (by decide +kernel : decode cX9_init 133 = .ok (.dup, 1)) ?_
    refine as_bipush X (by decide +kernel : decode cX9_init 134 = .ok (.bipush 9, 2)) rfl ?_
    refine as_iconst X (by decide +kernel : decode cX9_init 136 = .ok (.iconst 2, 1)) rfl ?_
    refine as_iastore X (by decide +kernel : decode cX9_init 137 = .ok (.iastore, 1)) ?_
    refine as_dup X (by decide +kernel : decode cX9_init 138 = .ok (.dup, 1)) ?_
    refine as_bipush X (by decide +kernel : decode cX9_init 139 = .ok (.bipush 10, 2)) rfl ?_
    refine as_iconst X (by decide +kernel : decode cX9_init 141 = .ok (.iconst 0, 1)) rfl ?_
    refine as_iastore X (by decide +kernel : decode cX9_init 142 = .ok (.iastore, 1)) ?_
    refine as_puta X fc_X9 (by decide +kernel : decode cX9_init 143 = .ok (.putfield 40, 3)) (by decide) fl_X9_40 (Or.inr ⟨rfl, hnm, rfl⟩) (Or.inl ⟨_, rfl⟩) ?_
    exact fun _ _ _ h => h
  · unfold B_X9_init_146
    refine as_aload_n X (by decide +kernel : decode cX9_init 146 = .ok (.aload_n 0, 1)) rfl ?_
    refine as_sipush X (by decide +kernel : decode cX9_init 147 = .ok (.sipush 10752, 3)) rfl ?_
    refine as_newl X (by decide +kernel : decode cX9_init 150 = .ok (.newarray .long, 2)) ac_long ?_
    refine as_puta X fc_X9 (by decide +kernel : decode cX9_init 152 = .ok (.putfield 43, 3)) (by decide) fl_X9_43 (Or.inr ⟨rfl, hnm, rfl⟩) (Or.inl ⟨_, rfl⟩) ?_
    refine as_aload_n X (by decide +kernel : decode cX9_init 155 = .ok (.aload_n 0, 1)) rfl ?_
    refine as_iconst X (by decide +kernel : decode cX9_init 156 = .ok (.iconst (-1), 1)) rfl ?_
    refine as_puti X fc_X9 (by decide +kernel : decode cX9_init 157 = .ok (.putfield 47, 3)) (by decide) fl_X9_47 (Or.inl rfl) rfl ?_
    refine as_aload_n X (by decide +kernel : decode cX9_init 160 = .ok (.aload_n 0, 1)) rfl ?_
    refine as_bipush X (by decide +kernel : decode cX9_init 161 = .ok (.bipush 8, 2)) rfl ?_
    refine as_newi X (by decide +kernel : decode cX9_init 163 = .ok (.newarray .int, 2)) ac_int ?_
    refine as_puta X fc_X9 (by decide +kernel : decode cX9_init 165 = .ok (.putfield 51, 3)) (by decide) fl_X9_51 (Or.inr ⟨rfl, hnm, rfl⟩) (Or.inl ⟨_, rfl⟩) ?_
    refine as_aload_n X (by decide +kernel : decode cX9_init 168 = .ok (.aload_n 0, 1)) rfl ?_
    refine as_bipush X (by decide +kernel : decode cX9_init 169 = .ok (.bipush 42, 2)) rfl ?_
    refine as_newi X (by decide +kernel : decode cX9_init 171 = .ok (.newarray .int, 2)) ac_int ?_
    refine as_puta X fc_X9 (by decide +kernel : decode cX9_init 173 = .ok (.putfield 54, 3)) (by decide) fl_X9_54 (Or.inr ⟨rfl, hnm, rfl⟩) (Or.inl ⟨_, rfl⟩) ?_
    refine as_aload_n X (by decide +kernel : decode cX9_init 176 = .ok (.aload_n 0, 1)) rfl ?_
    refine as_sipush X (by decide +kernel : decode cX9_init 177 = .ok (.sipush 400, 3)) rfl ?_
    refine as_newi X (by decide +kernel : decode cX9_init 180 = .ok (.newarray .int, 2)) ac_int ?_
    refine as_puta X fc_X9 (by decide +kernel : decode cX9_init 182 = .ok (.putfield 57, 3)) (by decide) fl_X9_57 (Or.inr ⟨rfl, hnm, rfl⟩) (Or.inl ⟨_, rfl⟩) ?_
    refine as_aload_n X (by decide +kernel : decode cX9_init 185 = .ok (.aload_n 0, 1)) rfl ?_
    refine as_bipush X (by decide +kernel : decode cX9_init 186 = .ok (.bipush 60, 2)) rfl ?_
    refine as_newi X (by decide +kernel : decode cX9_init 188 = .ok (.newarray .int, 2)) ac_int ?_
    refine as_puta X fc_X9 (by decide +kernel : decode cX9_init 190 = .ok (.putfield 60, 3)) (by decide) fl_X9_60 (Or.inr ⟨rfl, hnm, rfl⟩) (Or.inl ⟨_, rfl⟩) ?_
    refine as_aload_n X (by decide +kernel : decode cX9_init 193 = .ok (.aload_n 0, 1)) rfl ?_
    refine as_bipush X (by decide +kernel : decode cX9_init 194 = .ok (.bipush 28, 2)) rfl ?_
    refine as_newi X (by decide +kernel : decode cX9_init 196 = .ok (.newarray .int, 2)) ac_int ?_
    refine as_dup X (by decide +kernel : decode cX9_init 198 = .ok (.dup, 1)) ?_
    refine as_iconst X (by decide +kernel : decode cX9_init 199 = .ok (.iconst 0, 1)) rfl ?_
    refine as_bipush X (by decide +kernel : decode cX9_init 200 = .ok (.bipush 115, 2)) rfl ?_
    refine as_iastore X (by decide +kernel : decode cX9_init 202 = .ok (.iastore, 1)) ?_
    refine as_dup X (by decide +kernel : decode cX9_init 203 = .ok (.dup, 1)) ?_
    refine as_iconst X (by decide +kernel : decode cX9_init 204 = .ok (.iconst 1, 1)) rfl ?_
    refine as_bipush X (by decide +kernel : decode cX9_init 205 = .ok (.bipush 97, 2)) rfl ?_
    refine as_iastore X (by decide +kernel : decode cX9_init 207 = .ok (.iastore, 1)) ?_
    refine as_dup X (by decide +kernel : decode cX9_init 208 = .ok (.dup, 1)) ?_
    refine as_iconst X (by decide +kernel : decode cX9_init 209 = .ok (.iconst 2, 1)) rfl ?_
    refine as_bipush X (by decide +kernel : decode cX9_init 210 = .ok (.bipush 105, 2)) rfl ?_
    refine as_iastore X (by decide +kernel : decode cX9_init 212 = .ok (.iastore, 1)) ?_
    refine as_dup X (by decide +kernel : decode cX9_init 213 = .ok (.dup, 1)) ?_
    refine as_iconst X (by decide +kernel : decode cX9_init 214 = .ok (.iconst 3, 1)) rfl ?_
    refine as_bipush X (by decide +kernel : decode cX9_init 215 = .ok (.bipush 108, 2)) rfl ?_
    refine as_iastore X (by decide +kernel : decode cX9_init 217 = .ok (.iastore, 1)) ?_
    refine as_dup X (by decide +kernel : decode cX9_init 218 = .ok (.dup, 1)) ?_
    refine as_iconst X (by decide +kernel : decode cX9_init 219 = .ok (.iconst 4, 1)) rfl ?_
    refine as_bipush X (by decide +kernel : decode cX9_init 220 = .ok (.bipush 111, 2)) rfl ?_
    exact fun _ _ _ h => h
  · unfold B_X9_init_222
    refine as_iastore X (by decide +kernel : decode cX9_init 222 = .ok (.iastore, 1)) ?_
    refine as_dup X (by decide +kernel : decode cX9_init 223 = .ok (.dup, 1)) ?_
    refine as_iconst X (by decide +kernel : decode cX9_init 224 = .ok (.iconst 5, 1)) rfl ?_
    refine as_bipush X (by decide +kernel : decode cX9_init 225 = .ok (.bipush 114, 2)) rfl ?_
    refine as_iastore X (by decide +kernel : decode cX9_init 227 = .ok (.iastore, 1)) ?_
    refine as_dup X (by decide +kernel : decode cX9_init 228 = .ok (.dup, 1)) ?_
    refine as_bipush X (by decide +kernel : decode cX9_init 229 = .ok (.bipush 6, 2)) rfl ?_
    refine as_bipush X (by decide +kernel : decode cX9_init 231 = .ok (.bipush 61, 2)) rfl ?_
    refine as_iastore X (by decide +kernel : decode cX9_init 233 = .ok (.iastore, 1)) ?_
    refine as_dup X (by decide +kernel : decode cX9_init 234 = .ok (.dup, 1)) ?_
    refine as_bipush X (by decide +kernel : decode cX9_init 235 = .ok (.bipush 7, 2)) rfl ?_
    refine as_bipush X (by decide +kernel : decode cX9_init 237 = .ok (.bipush 116, 2)) rfl ?_
    refine as_iastore X (by decide +kernel : decode cX9_init 239 = .ok (.iastore, 1)) ?_
    refine as_dup X (by decide +kernel : decode cX9_init 240 = .ok (.dup, 1)) ?_
    refine as_bipush X (by decide +kernel : decode cX9_init 241 = .ok (.bipush 8, 2)) rfl ?_
    refine as_bipush X (by decide +kernel : decode cX9_init 243 = .ok (.bipush 97, 2)) rfl ?_
    refine as_iastore X (by decide +kernel : decode cX9_init 245 = .ok (.iastore, 1)) ?_
    refine as_dup X (by decide +kernel : decode cX9_init 246 = .ok (.dup, 1)) ?_
    refine as_bipush X (by decide +kernel : decode cX9_init 247 = .ok (.bipush 9, 2)) rfl ?_
    refine as_bipush X (by decide +kernel : decode cX9_init 249 = .ok (.bipush 114, 2)) rfl ?_
    refine as_iastore X (by decide +kernel : decode cX9_init 251 = .ok (.iastore, 1)) ?_
    refine as_dup X (by decide +kernel : decode cX9_init 252 = .ok (.dup, 1)) ?_
    refine as_bipush X (by decide +kernel : decode cX9_init 253 = .ok (.bipush 10, 2)) rfl ?_
    refine as_bipush X (by decide +kernel : decode cX9_init 255 = .ok (.bipush 59, 2)) rfl ?_
    refine as_iastore X (by decide +kernel : decode cX9_init 257 = .ok (.iastore, 1)) ?_
    refine as_dup X (by decide +kernel : decode cX9_init 258 = .ok (.dup, 1)) ?_
    refine as_bipush X (by decide +kernel : decode cX9_init 259 = .ok (.bipush 11, 2)) rfl ?_
    refine as_bipush X (by decide +kernel : decode cX9_init 261 = .ok (.bipush 112, 2)) rfl ?_
    refine as_iastore X (by decide +kernel : decode cX9_init 263 = .ok (.iastore, 1)) ?_
    refine as_dup X (by decide +kernel : decode cX9_init 264 = .ok (.dup, 1)) ?_
    refine as_bipush X (by decide +kernel : decode cX9_init 265 = .ok (.bipush 12, 2)) rfl ?_
    refine as_bipush X (by decide +kernel : decode cX9_init 267 = .ok (.bipush 101, 2)) rfl ?_
    refine as_iastore X (by decide +kernel : decode cX9_init 269 = .ok (.iastore, 1)) ?_
    refine as_dup X (by decide +kernel : decode cX9_init 270 = .ok (.dup, 1)) ?_
    refine as_bipush X (by decide +kernel : decode cX9_init 271 = .ok (.bipush 13, 2)) rfl ?_
    refine as_bipush X (by decide +kernel : decode cX9_init 273 = .ok (.bipush 115, 2)) rfl ?_
    refine as_iastore X (by decide +kernel : decode cX9_init 275 = .ok (.iastore, 1)) ?_
    refine as_dup X (by decide +kernel : decode cX9_init 276 = .ok (.dup, 1)) ?_
    refine as_bipush X (by decide +kernel : decode cX9_init 277 = .ok (.bipush 14, 2)) rfl ?_
    refine as_bipush X (by decide +kernel : decode cX9_init 279 = .ok (.bipush 116, 2)) rfl ?_
    refine as_iastore X (by decide +kernel : decode cX9_init 281 = .ok (.iastore, 1)) ?_
    refine as_dup X (by decide +kernel : decode cX9_init 282 = .ok (.dup, 1)) ?_
    refine as_bipush X (by decide +kernel : decode cX9_init 283 = .ok (.bipush 15, 2)) rfl ?_
    refine as_bipush X (by decide +kernel : decode cX9_init 285 = .ok (.bipush 61, 2)) rfl ?_
    refine as_iastore X (by decide +kernel : decode cX9_init 287 = .ok (.iastore, 1)) ?_
    exact fun _ _ _ h => h
  · unfold B_X9_init_288
    refine as_dup X (by decide +kernel : decode cX9_init 288 = .ok (.dup, 1)) ?_
    refine as_bipush X (by decide +kernel : decode cX9_init 289 = .ok (.bipush 16, 2)) rfl ?_
    refine as_bipush X (by decide +kernel : decode cX9_init 291 = .ok (.bipush 114, 2)) rfl ?_
    refine as_iastore X (by decide +kernel : decode cX9_init 293 = .ok (.iastore, 1)) ?_
    refine as_dup X (by decide +kernel : decode cX9_init 294 = .ok (.dup, 1)) ?_
    refine as_bipush X (by decide +kernel : decode cX9_init 295 = .ok (.bipush 17, 2)) rfl ?_
    refine as_bipush X (by decide +kernel : decode cX9_init 297 = .ok (.bipush 97, 2)) rfl ?_
    refine as_iastore X (by decide +kernel : decode cX9_init 299 = .ok (.iastore, 1)) ?_
    refine as_dup X (by decide +kernel : decode cX9_init 300 = .ok (.dup, 1)) ?_
    refine as_bipush X (by decide +kernel : decode cX9_init 301 = .ok (.bipush 18, 2)) rfl ?_
    refine as_bipush X (by decide +kernel : decode cX9_init 303 = .ok (.bipush 116, 2)) rfl ?_
    refine as_iastore X (by decide +kernel : decode cX9_init 305 = .ok (.iastore, 1)) ?_
    refine as_dup X (by decide +kernel : decode cX9_init 306 = .ok (.dup, 1)) ?_
    refine as_bipush X (by decide +kernel : decode cX9_init 307 = .ok (.bipush 19, 2)) rfl ?_
    refine as_bipush X (by decide +kernel : decode cX9_init 309 = .ok (.bipush 59, 2)) rfl ?_
    refine as_iastore X (by decide +kernel : decode cX9_init 311 = .ok (.iastore, 1)) ?_
    refine as_dup X (by decide +kernel : decode cX9_init 312 = .ok (.dup, 1)) ?_
    refine as_bipush X (by decide +kernel : decode cX9_init 313 = .ok (.bipush 20, 2)) rfl ?_
    refine as_bipush X (by decide +kernel : decode cX9_init 315 = .ok (.bipush 115, 2)) rfl ?_
    refine as_iastore X (by decide +kernel : decode cX9_init 317 = .ok (.iastore, 1)) ?_
    refine as_dup X (by decide +kernel : decode cX9_init 318 = .ok (.dup, 1)) ?_
    refine as_bipush X (by decide +kernel : decode cX9_init 319 = .ok (.bipush 21, 2)) rfl ?_
    refine as_bipush X (by decide +kernel : decode cX9_init 321 = .ok (.bipush 104, 2)) rfl ?_
    refine as_iastore X (by decide +kernel : decode cX9_init 323 = .ok (.iastore, 1)) ?_
    refine as_dup X (by decide +kernel : decode cX9_init 324 = .ok (.dup, 1)) ?_
    refine as_bipush X (by decide +kernel : decode cX9_init 325 = .ok (.bipush 22, 2)) rfl ?_
    refine as_bipush X (by decide +kernel : decode cX9_init 327 = .ok (.bipush 105, 2)) rfl ?_
    refine as_iastore X (by decide +kernel : decode cX9_init 329 = .ok (.iastore, 1)) ?_
    refine as_dup X (by decide +kernel : decode cX9_init 330 = .ok (.dup, 1)) ?_
    refine as_bipush X (by decide +kernel : decode cX9_init 331 = .ok (.bipush 23, 2)) rfl ?_
    refine as_bipush X (by decide +kernel : decode cX9_init 333 = .ok (.bipush 112, 2)) rfl ?_
    refine as_iastore X (by decide +kernel : decode cX9_init 335 = .ok (.iastore, 1)) ?_
    refine as_dup X (by decide +kernel : decode cX9_init 336 = .ok (.dup, 1)) ?_
    refine as_bipush X (by decide +kernel : decode cX9_init 337 = .ok (.bipush 24, 2)) rfl ?_
    refine as_bipush X (by decide +kernel : decode cX9_init 339 = .ok (.bipush 61, 2)) rfl ?_
    refine as_iastore X (by decide +kernel : decode cX9_init 341 = .ok (.iastore, 1)) ?_
    refine as_dup X (by decide +kernel : decode cX9_init 342 = .ok (.dup, 1)) ?_
    refine as_bipush X (by decide +kernel : decode cX9_init 343 = .ok (.bipush 25, 2)) rfl ?_
    refine as_bipush X (by decide +kernel : decode cX9_init 345 = .ok (.bipush 115, 2)) rfl ?_
    refine as_iastore X (by decide +kernel : decode cX9_init 347 = .ok (.iastore, 1)) ?_
    refine as_dup X (by decide +kernel : decode cX9_init 348 = .ok (.dup, 1)) ?_
    refine as_bipush X (by decide +kernel : decode cX9_init 349 = .ok (.bipush 26, 2)) rfl ?_
    refine as_bipush X (by decide +kernel : decode cX9_init 351 = .ok (.bipush 115, 2)) rfl ?_
    refine as_iastore X (by decide +kernel : decode cX9_init 353 = .ok (.iastore, 1)) ?_
    refine as_dup X (by decide +kernel : decode cX9_init 354 = .ok (.dup, 1)) ?_
    exact fun _ _ _ h => h
  · unfold B_X9_init_355
    refine as_bipush X (by decide +kernel : decode cX9_init 355 = .ok (.bipush 27, 2)) rfl ?_
    refine as_bipush X (by decide +kernel : decode cX9_init 357 = .ok (.bipush 59, 2)) rfl ?_
    refine as_iastore X (by decide +kernel : decode cX9_init 359 = .ok (.iastore, 1)) ?_
    refine as_puta X fc_X9 (by decide +kernel : decode cX9_init 360 = .ok (.putfield 63, 3)) (by decide) fl_X9_63 (Or.inr ⟨rfl, hnm, rfl⟩) (Or.inl ⟨_, rfl⟩) ?_
    refine as_aload_n X (by decide +kernel : decode cX9_init 363 = .ok (.aload_n 0, 1)) rfl ?_
    refine as_bipush X (by decide +kernel : decode cX9_init 364 = .ok (.bipush 29, 2)) rfl ?_
    refine as_newi X (by decide +kernel : decode cX9_init 366 = .ok (.newarray .int, 2)) ac_int ?_
    refine as_dup X (by decide +kernel : decode cX9_init 368 = .ok (.dup, 1)) ?_
    refine as_iconst X (by decide +kernel : decode cX9_init 369 = .ok (.iconst 0, 1)) rfl ?_
    refine as_bipush X (by decide +kernel : decode cX9_init 370 = .ok (.bipush 102, 2)) rfl ?_
    refine as_iastore X (by decide +kernel : decode cX9_init 372 = .ok (.iastore, 1)) ?_
    refine as_dup X (by decide +kernel : decode cX9_init 373 = .ok (.dup, 1)) ?_
    refine as_iconst X (by decide +kernel : decode cX9_init 374 = .ok (.iconst 1, 1)) rfl ?_
    refine as_bipush X (by decide +kernel : decode cX9_init 375 = .ok (.bipush 108, 2)) rfl ?_
    refine as_iastore X (by decide +kernel : decode cX9_init 377 = .ok (.iastore, 1)) ?_
    refine as_dup X (by decide +kernel : decode cX9_init 378 = .ok (.dup, 1)) ?_
    refine as_iconst X (by decide +kernel : decode cX9_init 379 = .ok (.iconst 2, 1)) rfl ?_
    refine as_bipush X (by decide +kernel : decode cX9_init 380 = .ok (.bipush 111, 2)) rfl ?_
    refine as_iastore X (by decide +kernel : decode cX9_init 382 = .ok (.iastore, 1)) ?_
    refine as_dup X (by decide +kernel : decode cX9_init 383 = .ok (.dup, 1)) ?_
    refine as_iconst X (by decide +kernel : decode cX9_init 384 = .ok (.iconst 3, 1)) rfl ?_
    refine as_bipush X (by decide +kernel : decode cX9_init 385 = .ok (.bipush 119, 2)) rfl ?_
    refine as_iastore X (by decide +kernel : decode cX9_init 387 = .ok (.iastore, 1)) ?_
    refine as_dup X (by decide +kernel : decode cX9_init 388 = .ok (.dup, 1)) ?_
    refine as_iconst X (by decide +kernel : decode cX9_init 389 = .ok (.iconst 4, 1)) rfl ?_
    refine as_bipush X (by decide +kernel : decode cX9_init 390 = .ok (.bipush 101, 2)) rfl ?_
    refine as_iastore X (by decide +kernel : decode cX9_init 392 = .ok (.iastore, 1)) ?_
    refine as_dup X (by decide +kernel : decode cX9_init 393 = .ok (.dup, 1)) ?_
    refine as_iconst X (by decide +kernel : decode cX9_init 394 = .ok (.iconst 5, 1)) rfl ?_
    refine as_bipush X (by decide +kernel : decode cX9_init 395 = .ok (.bipush 114, 2)) rfl ?_
    refine as_iastore X (by decide +kernel : decode cX9_init 397 = .ok (.iastore, 1)) ?_
    refine as_dup X (by decide +kernel : decode cX9_init 398 = .ok (.dup, 1)) ?_
    refine as_bipush X (by decide +kernel : decode cX9_init 399 = .ok (.bipush 6, 2)) rfl ?_
    refine as_bipush X (by decide +kernel : decode cX9_init 401 = .ok (.bipush 61, 2)) rfl ?_
    refine as_iastore X (by decide +kernel : decode cX9_init 403 = .ok (.iastore, 1)) ?_
    refine as_dup X (by decide +kernel : decode cX9_init 404 = .ok (.dup, 1)) ?_
    refine as_bipush X (by decide +kernel : decode cX9_init 405 = .ok (.bipush 7, 2)) rfl ?_
    refine as_bipush X (by decide +kernel : decode cX9_init 407 = .ok (.bipush 97, 2)) rfl ?_
    refine as_iastore X (by decide +kernel : decode cX9_init 409 = .ok (.iastore, 1)) ?_
    refine as_dup X (by decide +kernel : decode cX9_init 410 = .ok (.dup, 1)) ?_
    refine as_bipush X (by decide +kernel : decode cX9_init 411 = .ok (.bipush 8, 2)) rfl ?_
    refine as_bipush X (by decide +kernel : decode cX9_init 413 = .ok (.bipush 115, 2)) rfl ?_
    refine as_iastore X (by decide +kernel : decode cX9_init 415 = .ok (.iastore, 1)) ?_
    refine as_dup X (by decide +kernel : decode cX9_init 416 = .ok (.dup, 1)) ?_
    refine as_bipush X (by decide +kernel : decode cX9_init 417 = .ok (.bipush 9, 2)) rfl ?_
    exact fun _ _ _ h => h
  · unfold B_X9_init_419
    refine as_bipush X (by decide +kernel : decode cX9_init 419 = .ok (.bipush 116, 2)) rfl ?_
    refine as_iastore X (by decide +kernel : decode cX9_init 421 = .ok (.iastore, 1)) ?_
    refine as_dup X (by decide +kernel : decode cX9_init 422 = .ok (.dup, 1)) ?_
    refine as_bipush X (by decide +kernel : decode cX9_init 423 = .ok (.bipush 10, 2)) rfl ?_
    refine as_bipush X (by decide +kernel : decode cX9_init 425 = .ok (.bipush 101, 2)) rfl ?_
    refine as_iastore X (by decide +kernel : decode cX9_init 427 = .ok (.iastore, 1)) ?_
    refine as_dup X (by decide +kernel : decode cX9_init 428 = .ok (.dup, 1)) ?_
    refine as_bipush X (by decide +kernel : decode cX9_init 429 = .ok (.bipush 11, 2)) rfl ?_
    refine as_bipush X (by decide +kernel : decode cX9_init 431 = .ok (.bipush 114, 2)) rfl ?_
    refine as_iastore X (by decide +kernel : decode cX9_init 433 = .ok (.iastore, 1)) ?_
    refine as_dup X (by decide +kernel : decode cX9_init 434 = .ok (.dup, 1)) ?_
    refine as_bipush X (by decide +kernel : decode cX9_init 435 = .ok (.bipush 12, 2)) rfl ?_
    refine as_bipush X (by decide +kernel : decode cX9_init 437 = .ok (.bipush 59, 2)) rfl ?_
    refine as_iastore X (by decide +kernel : decode cX9_init 439 = .ok (.iastore, 1)) ?_
    refine as_dup X (by decide +kernel : decode cX9_init 440 = .ok (.dup, 1)) ?_
    refine as_bipush X (by decide +kernel : decode cX9_init 441 = .ok (.bipush 13, 2)) rfl ?_
    refine as_bipush X (by decide +kernel : decode cX9_init 443 = .ok (.bipush 115, 2)) rfl ?_
    refine as_iastore X (by decide +kernel : decode cX9_init 445 = .ok (.iastore, 1)) ?_
    refine as_dup X (by decide +kernel : decode cX9_init 446 = .ok (.dup, 1)) ?_
    refine as_bipush X (by decide +kernel : decode cX9_init 447 = .ok (.bipush 14, 2)) rfl ?_
    refine as_bipush X (by decide +kernel : decode cX9_init 449 = .ok (.bipush 116, 2)) rfl ?_
    refine as_iastore X (by decide +kernel : decode cX9_init 451 = .ok (.iastore, 1)) ?_
    refine as_dup X (by decide +kernel : decode cX9_init 452 = .ok (.dup, 1)) ?_
    refine as_bipush X (by decide +kernel : decode cX9_init 453 = .ok (.bipush 15, 2)) rfl ?_
    refine as_bipush X (by decide +kernel : decode cX9_init 455 = .ok (.bipush 97, 2)) rfl ?_
    refine as_iastore X (by decide +kernel : decode cX9_init 457 = .ok (.iastore, 1)) ?_
    refine as_dup X (by decide +kernel : decode cX9_init 458 = .ok (.dup, 1)) ?_
    refine as_bipush X (by decide +kernel : decode cX9_init 459 = .ok (.bipush 16, 2)) rfl ?_
    refine as_bipush X (by decide +kernel : decode cX9_init 461 = .ok (.bipush 114, 2)) rfl ?_
    refine as_iastore X (by decide +kernel : decode cX9_init 463 = .ok (.iastore, 1)) ?_
    refine as_dup X (by decide +kernel : decode cX9_init 464 = .ok (.dup, 1)) ?_
    refine as_bipush X (by decide +kernel : decode cX9_init 465 = .ok (.bipush 17, 2)) rfl ?_
    refine as_bipush X (by decide +kernel : decode cX9_init 467 = .ok (.bipush 61, 2)) rfl ?_
    refine as_iastore X (by decide +kernel : decode cX9_init 469 = .ok (.iastore, 1)) ?_
    refine as_dup X (by decide +kernel : decode cX9_init 470 = .ok (.dup, 1)) ?_
    refine as_bipush X (by decide +kernel : decode cX9_init 471 = .ok (.bipush 18, 2)) rfl ?_
    refine as_bipush X (by decide +kernel : decode cX9_init 473 = .ok (.bipush 115, 2)) rfl ?_
    refine as_iastore X (by decide +kernel : decode cX9_init 475 = .ok (.iastore, 1)) ?_
    refine as_dup X (by decide +kernel : decode cX9_init 476 = .ok (.dup, 1)) ?_
    refine as_bipush X (by decide +kernel : decode cX9_init 477 = .ok (.bipush 19, 2)) rfl ?_
    refine as_bipush X (by decide +kernel : decode cX9_init 479 = .ok (.bipush 117, 2)) rfl ?_
    refine as_iastore X (by decide +kernel : decode cX9_init 481 = .ok (.iastore, 1)) ?_
    refine as_dup X (by decide +kernel : decode cX9_init 482 = .ok (.dup, 1)) ?_
    refine as_bipush X (by decide +kernel : decode cX9_init 483 = .ok (.bipush 20, 2)) rfl ?_
    refine as_bipush X (by decide +kernel : decode cX9_init 485 = .ok (.bipush 110, 2)) rfl ?_
    exact fun _ _ _ h => h
  · unfold B_X9_init_487
    refine as_iastore X (by decide +kernel : decode cX9_init 487 = .ok (.iastore, 1)) ?_
    refine as_dup X (by decide +kernel : decode cX9_init 488 = .ok (.dup, 1)) ?_
    refine as_bipush X (by decide +kernel : decode cX9_init 489 = .ok (.bipush 21, 2)) rfl ?_
    refine as_bipush X (by decide +kernel : decode cX9_init 491 = .ok (.bipush 59, 2)) rfl ?_
    refine as_iastore X (by decide +kernel : decode cX9_init 493 = .ok (.iastore, 1)) ?_
    refine as_dup X (by decide +kernel : decode cX9_init 494 = .ok (.dup, 1)) ?_
    refine as_bipush X (by decide +kernel : decode cX9_init 495 = .ok (.bipush 22, 2)) rfl ?_
    refine as_bipush X (by decide +kernel : decode cX9_init 497 = .ok (.bipush 98, 2)) rfl ?_
    refine as_iastore X (by decide +kernel : decode cX9_init 499 = .ok (.iastore, 1)) ?_
    refine as_dup X (by decide +kernel : decode cX9_init 500 = .ok (.dup, 1)) ?_
    refine as_bipush X (by decide +kernel : decode cX9_init 501 = .ok (.bipush 23, 2)) rfl ?_
    refine as_bipush X (by decide +kernel : decode cX9_init 503 = .ok (.bipush 97, 2)) rfl ?_
    refine as_iastore X (by decide +kernel : decode cX9_init 505 = .ok (.iastore, 1)) ?_
    refine as_dup X (by decide +kernel : decode cX9_init 506 = .ok (.dup, 1)) ?_
    refine as_bipush X (by decide +kernel : decode cX9_init 507 = .ok (.bipush 24, 2)) rfl ?_
    refine as_bipush X (by decide +kernel : decode cX9_init 509 = .ok (.bipush 99, 2)) rfl ?_
    refine as_iastore X (by decide +kernel : decode cX9_init 511 = .ok (.iastore, 1)) ?_
    refine as_dup X (by decide +kernel : decode cX9_init 512 = .ok (.dup, 1)) ?_
    refine as_bipush X (by decide +kernel : decode cX9_init 513 = .ok (.bipush 25, 2)) rfl ?_
    refine as_bipush X (by decide +kernel : decode cX9_init 515 = .ok (.bipush 107, 2)) rfl ?_
    refine as_iastore X (by decide +kernel : decode cX9_init 517 = .ok (.iastore, 1)) ?_
    refine as_dup X (by decide +kernel : decode cX9_init 518 = .ok (.dup, 1)) ?_
    refine as_bipush X (by decide +kernel : decode cX9_init 519 = .ok (.bipush 26, 2)) rfl ?_
    refine as_bipush X (by decide +kernel : decode cX9_init 521 = .ok (.bipush 47, 2)) rfl ?_
    refine as_iastore X (by decide +kernel : decode cX9_init 523 = .ok (.iastore, 1)) ?_
    refine as_dup X (by decide +kernel : decode cX9_init 524 = .ok (.dup, 1)) ?_
    refine as_bipush X (by decide +kernel : decode cX9_init 525 = .ok (.bipush 27, 2)) rfl ?_
    refine as_bipush X (by decide +kernel : decode cX9_init 527 = .ok (.bipush 82, 2)) rfl ?_
    refine as_iastore X (by decide +kernel : decode cX9_init 529 = .ok (.iastore, 1)) ?_
    refine as_dup X (by decide +kernel : decode cX9_init 530 = .ok (.dup, 1)) ?_
    refine as_bipush X (by decide +kernel : decode cX9_init 531 = .ok (.bipush 28, 2)) rfl ?_
    refine as_bipush X (by decide +kernel : decode cX9_init 533 = .ok (.bipush 59, 2)) rfl ?_
    refine as_iastore X (by decide +kernel : decode cX9_init 535 = .ok (.iastore, 1)) ?_
    refine as_puta X fc_X9 (by decide +kernel : decode cX9_init 536 = .ok (.putfield 66, 3)) (by decide) fl_X9_66 (Or.inr ⟨rfl, hnm, rfl⟩) (Or.inl ⟨_, rfl⟩) ?_
    refine as_aload_n X (by decide +kernel : decode cX9_init 539 = .ok (.aload_n 0, 1)) rfl ?_
    refine as_bipush X (by decide +kernel : decode cX9_init 540 = .ok (.bipush 30, 2)) rfl ?_
    refine as_newi X (by decide +kernel : decode cX9_init 542 = .ok (.newarray .int, 2)) ac_int ?_
    refine as_dup X (by decide +kernel : decode cX9_init 544 = .ok (.dup, 1)) ?_
    refine as_iconst X (by decide +kernel : decode cX9_init 545 = .ok (.iconst 0, 1)) rfl ?_
    refine as_bipush X (by decide +kernel : decode cX9_init 546 = .ok (.bipush 98, 2)) rfl ?_
    refine as_iastore X (by decide +kernel : decode cX9_init 548 = .ok (.iastore, 1)) ?_
    refine as_dup X (by decide +kernel : decode cX9_init 549 = .ok (.dup, 1)) ?_
    refine as_iconst X (by decide +kernel : decode cX9_init 550 = .ok (.iconst 1, 1)) rfl ?_
    refine as_bipush X (by decide +kernel : decode cX9_init 551 = .ok (.bipush 114, 2)) rfl ?_
    refine as_iastore X (by decide +kernel : decode cX9_init 553 = .ok (.iastore, 1)) ?_
    exact fun _ _ _ h => h
  · unfold B_X9_init_554
    refine as_dup X (by decide +kernel : decode cX9_init 554 = .ok (.dup, 1)) ?_
    refine as_iconst X (by decide +kernel : decode cX9_init 555 = .ok (.iconst 2, 1)) rfl ?_
    refine as_bipush X (by decide +kernel : decode cX9_init 556 = .ok (.bipush 111, 2)) rfl ?_
    refine as_iastore X (by decide +kernel : decode cX9_init 558 = .ok (.iastore, 1)) ?_
    refine as_dup X (by decide +kernel : decode cX9_init 559 = .ok (.dup, 1)) ?_
    refine as_iconst X (by decide +kernel : decode cX9_init 560 = .ok (.iconst 3, 1)) rfl ?_
    refine as_bipush X (by decide +kernel : decode cX9_init 561 = .ok (.bipush 107, 2)) rfl ?_
    refine as_iastore X (by decide +kernel : decode cX9_init 563 = .ok (.iastore, 1)) ?_
    refine as_dup X (by decide +kernel : decode cX9_init 564 = .ok (.dup, 1)) ?_
    refine as_iconst X (by decide +kernel : decode cX9_init 565 = .ok (.iconst 4, 1)) rfl ?_
    refine as_bipush X (by decide +kernel : decode cX9_init 566 = .ok (.bipush 101, 2)) rfl ?_
    refine as_iastore X (by decide +kernel : decode cX9_init 568 = .ok (.iastore, 1)) ?_
    refine as_dup X (by decide +kernel : decode cX9_init 569 = .ok (.dup, 1)) ?_
    refine as_iconst X (by decide +kernel : decode cX9_init 570 = .ok (.iconst 5, 1)) rfl ?_
    refine as_bipush X (by decide +kernel : decode cX9_init 571 = .ok (.bipush 110, 2)) rfl ?_
    refine as_iastore X (by decide +kernel : decode cX9_init 573 = .ok (.iastore, 1)) ?_
    refine as_dup X (by decide +kernel : decode cX9_init 574 = .ok (.dup, 1)) ?_
    refine as_bipush X (by decide +kernel : decode cX9_init 575 = .ok (.bipush 6, 2)) rfl ?_
    refine as_bipush X (by decide +kernel : decode cX9_init 577 = .ok (.bipush 47, 2)) rfl ?_
    refine as_iastore X (by decide +kernel : decode cX9_init 579 = .ok (.iastore, 1)) ?_
    refine as_dup X (by decide +kernel : decode cX9_init 580 = .ok (.dup, 1)) ?_
    refine as_bipush X (by decide +kernel : decode cX9_init 581 = .ok (.bipush 7, 2)) rfl ?_
    refine as_bipush X (by decide +kernel : decode cX9_init 583 = .ok (.bipush 65, 2)) rfl ?_
    refine as_iastore X (by decide +kernel : decode cX9_init 585 = .ok (.iastore, 1)) ?_
    refine as_dup X (by decide +kernel : decode cX9_init 586 = .ok (.dup, 1)) ?_
    refine as_bipush X (by decide +kernel : decode cX9_init 587 = .ok (.bipush 8, 2)) rfl ?_
    refine as_bipush X (by decide +kernel : decode cX9_init 589 = .ok (.bipush 59, 2)) rfl ?_
    refine as_iastore X (by decide +kernel : decode cX9_init 591 = .ok (.iastore, 1)) ?_
    refine as_dup X (by decide +kernel : decode cX9_init 592 = .ok (.dup, 1)) ?_
    refine as_bipush X (by decide +kernel : decode cX9_init 593 = .ok (.bipush 9, 2)) rfl ?_
    refine as_bipush X (by decide +kernel : decode cX9_init 595 = .ok (.bipush 105, 2)) rfl ?_
    refine as_iastore X (by decide +kernel : decode cX9_init 597 = .ok (.iastore, 1)) ?_
    refine as_dup X (by decide +kernel : decode cX9_init 598 = .ok (.dup, 1)) ?_
    refine as_bipush X (by decide +kernel : decode cX9_init 599 = .ok (.bipush 10, 2)) rfl ?_
    refine as_bipush X (by decide +kernel : decode cX9_init 601 = .ok (.bipush 110, 2)) rfl ?_
    refine as_iastore X (by decide +kernel : decode cX9_init 603 = .ok (.iastore, 1)) ?_
    refine as_dup X (by decide +kernel : decode cX9_init 604 = .ok (.dup, 1)) ?_
    refine as_bipush X (by decide +kernel : decode cX9_init 605 = .ok (.bipush 11, 2)) rfl ?_
    refine as_bipush X (by decide +kernel : decode cX9_init 607 = .ok (.bipush 47, 2)) rfl ?_
    refine as_iastore X (by decide +kernel : decode cX9_init 609 = .ok (.iastore, 1)) ?_
    refine as_dup X (by decide +kernel : decode cX9_init 610 = .ok (.dup, 1)) ?_
    refine as_bipush X (by decide +kernel : decode cX9_init 611 = .ok (.bipush 12, 2)) rfl ?_
    refine as_bipush X (by decide +kernel : decode cX9_init 613 = .ok (.bipush 78, 2)) rfl ?_
    refine as_iastore X (by decide +kernel : decode cX9_init 615 = .ok (.iastore, 1)) ?_
    refine as_dup X (by decide +kernel : decode cX9_init 616 = .ok (.dup, 1)) ?_
    exact fun _ _ _ h => h
  · unfold B_X9_init_617
    refine as_bipush X (by decide +kernel : decode cX9_init 617 = .ok (.bipush 13, 2)) rfl ?_
    refine as_bipush X (by decide +kernel : decode cX9_init 619 = .ok (.bipush 59, 2)) rfl ?_
    refine as_iastore X (by decide +kernel : decode cX9_init 621 = .ok (.iastore, 1)) ?_
    refine as_dup X (by decide +kernel : decode cX9_init 622 = .ok (.dup, 1)) ?_
    refine as_bipush X (by decide +kernel : decode cX9_init 623 = .ok (.bipush 14, 2)) rfl ?_
    refine as_bipush X (by decide +kernel : decode cX9_init 625 = .ok (.bipush 97, 2)) rfl ?_
    refine as_iastore X (by decide +kernel : decode cX9_init 627 = .ok (.iastore, 1)) ?_
    refine as_dup X (by decide +kernel : decode cX9_init 628 = .ok (.dup, 1)) ?_
    refine as_bipush X (by decide +kernel : decode cX9_init 629 = .ok (.bipush 15, 2)) rfl ?_
    refine as_bipush X (by decide +kernel : decode cX9_init 631 = .ok (.bipush 114, 2)) rfl ?_
    refine as_iastore X (by decide +kernel : decode cX9_init 633 = .ok (.iastore, 1)) ?_
    refine as_dup X (by decide +kernel : decode cX9_init 634 = .ok (.dup, 1)) ?_
    refine as_bipush X (by decide +kernel : decode cX9_init 635 = .ok (.bipush 16, 2)) rfl ?_
    refine as_bipush X (by decide +kernel : decode cX9_init 637 = .ok (.bipush 111, 2)) rfl ?_
    refine as_iastore X (by decide +kernel : decode cX9_init 639 = .ok (.iastore, 1)) ?_
    refine as_dup X (by decide +kernel : decode cX9_init 640 = .ok (.dup, 1)) ?_
    refine as_bipush X (by decide +kernel : decode cX9_init 641 = .ok (.bipush 17, 2)) rfl ?_
    refine as_bipush X (by decide +kernel : decode cX9_init 643 = .ok (.bipush 117, 2)) rfl ?_
    refine as_iastore X (by decide +kernel : decode cX9_init 645 = .ok (.iastore, 1)) ?_
    refine as_dup X (by decide +kernel : decode cX9_init 646 = .ok (.dup, 1)) ?_
    refine as_bipush X (by decide +kernel : decode cX9_init 647 = .ok (.bipush 18, 2)) rfl ?_
    refine as_bipush X (by decide +kernel : decode cX9_init 649 = .ok (.bipush 110, 2)) rfl ?_
    refine as_iastore X (by decide +kernel : decode cX9_init 651 = .ok (.iastore, 1)) ?_
    refine as_dup X (by decide +kernel : decode cX9_init 652 = .ok (.dup, 1)) ?_
    refine as_bipush X (by decide +kernel : decode cX9_init 653 = .ok (.bipush 19, 2)) rfl ?_
    refine as_bipush X (by decide +kernel : decode cX9_init 655 = .ok (.bipush 100, 2)) rfl ?_
    refine as_iastore X (by decide +kernel : decode cX9_init 657 = .ok (.iastore, 1)) ?_
    refine as_dup X (by decide +kernel : decode cX9_init 658 = .ok (.dup, 1)) ?_
    refine as_bipush X (by decide +kernel : decode cX9_init 659 = .ok (.bipush 20, 2)) rfl ?_
    refine as_bipush X (by decide +kernel : decode cX9_init 661 = .ok (.bipush 47, 2)) rfl ?_
    refine as_iastore X (by decide +kernel : decode cX9_init 663 = .ok (.iastore, 1)) ?_
    refine as_dup X (by decide +kernel : decode cX9_init 664 = .ok (.dup, 1)) ?_
    refine as_bipush X (by decide +kernel : decode cX9_init 665 = .ok (.bipush 21, 2)) rfl ?_
    refine as_bipush X (by decide +kernel : decode cX9_init 667 = .ok (.bipush 67, 2)) rfl ?_
    refine as_iastore X (by decide +kernel : decode cX9_init 669 = .ok (.iastore, 1)) ?_
    refine as_dup X (by decide +kernel : decode cX9_init 670 = .ok (.dup, 1)) ?_
    refine as_bipush X (by decide +kernel : decode cX9_init 671 = .ok (.bipush 22, 2)) rfl ?_
    refine as_bipush X (by decide +kernel : decode cX9_init 673 = .ok (.bipush 59, 2)) rfl ?_
    refine as_iastore X (by decide +kernel : decode cX9_init 675 = .ok (.iastore, 1)) ?_
    refine as_dup X (by decide +kernel : decode cX9_init 676 = .ok (.dup, 1)) ?_
    refine as_bipush X (by decide +kernel : decode cX9_init 677 = .ok (.bipush 23, 2)) rfl ?_
    refine as_bipush X (by decide +kernel : decode cX9_init 679 = .ok (.bipush 115, 2)) rfl ?_
    refine as_iastore X (by decide +kernel : decode cX9_init 681 = .ok (.iastore, 1)) ?_
    refine as_dup X (by decide +kernel : decode cX9_init 682 = .ok (.dup, 1)) ?_
    refine as_bipush X (by decide +kernel : decode cX9_init 683 = .ok (.bipush 24, 2)) rfl ?_
    exact fun _ _ _ h => h
  · unfold B_X9_init_685
    refine as_bipush X (by decide +kernel : decode cX9_init 685 = .ok (.bipush 111, 2)) rfl ?_
    refine as_iastore X (by decide +kernel : decode cX9_init 687 = .ok (.iastore, 1)) ?_
    refine as_dup X (by decide +kernel : decode cX9_init 688 = .ok (.dup, 1)) ?_
    refine as_bipush X (by decide +kernel : decode cX9_init 689 = .ok (.bipush 25, 2)) rfl ?_
    refine as_bipush X (by decide +kernel : decode cX9_init 691 = .ok (.bipush 109, 2)) rfl ?_
    refine as_iastore X (by decide +kernel : decode cX9_init 693 = .ok (.iastore, 1)) ?_
    refine as_dup X (by decide +kernel : decode cX9_init 694 = .ok (.dup, 1)) ?_
    refine as_bipush X (by decide +kernel : decode cX9_init 695 = .ok (.bipush 26, 2)) rfl ?_
    refine as_bipush X (by decide +kernel : decode cX9_init 697 = .ok (.bipush 101, 2)) rfl ?_
    refine as_iastore X (by decide +kernel : decode cX9_init 699 = .ok (.iastore, 1)) ?_
    refine as_dup X (by decide +kernel : decode cX9_init 700 = .ok (.dup, 1)) ?_
    refine as_bipush X (by decide +kernel : decode cX9_init 701 = .ok (.bipush 27, 2)) rfl ?_
    refine as_bipush X (by decide +kernel : decode cX9_init 703 = .ok (.bipush 47, 2)) rfl ?_
    refine as_iastore X (by decide +kernel : decode cX9_init 705 = .ok (.iastore, 1)) ?_
    refine as_dup X (by decide +kernel : decode cX9_init 706 = .ok (.dup, 1)) ?_
    refine as_bipush X (by decide +kernel : decode cX9_init 707 = .ok (.bipush 28, 2)) rfl ?_
    refine as_bipush X (by decide +kernel : decode cX9_init 709 = .ok (.bipush 72, 2)) rfl ?_
    refine as_iastore X (by decide +kernel : decode cX9_init 711 = .ok (.iastore, 1)) ?_
    refine as_dup X (by decide +kernel : decode cX9_init 712 = .ok (.dup, 1)) ?_
    refine as_bipush X (by decide +kernel : decode cX9_init 713 = .ok (.bipush 29, 2)) rfl ?_
    refine as_bipush X (by decide +kernel : decode cX9_init 715 = .ok (.bipush 59, 2)) rfl ?_
    refine as_iastore X (by decide +kernel : decode cX9_init 717 = .ok (.iastore, 1)) ?_
    refine as_puta X fc_X9 (by decide +kernel : decode cX9_init 718 = .ok (.putfield 69, 3)) (by decide) fl_X9_69 (Or.inr ⟨rfl, hnm, rfl⟩) (Or.inl ⟨_, rfl⟩) ?_
    refine as_aload_n X (by decide +kernel : decode cX9_init 721 = .ok (.aload_n 0, 1)) rfl ?_
    refine as_bipush X (by decide +kernel : decode cX9_init 722 = .ok (.bipush 30, 2)) rfl ?_
    refine as_newi X (by decide +kernel : decode cX9_init 724 = .ok (.newarray .int, 2)) ac_int ?_
    refine as_dup X (by decide +kernel : decode cX9_init 726 = .ok (.dup, 1)) ?_
    refine as_iconst X (by decide +kernel : decode cX9_init 727 = .ok (.iconst 0, 1)) rfl ?_
    refine as_bipush X (by decide +kernel : decode cX9_init 728 = .ok (.bipush 108, 2)) rfl ?_
    refine as_iastore X (by decide +kernel : decode cX9_init 730 = .ok (.iastore, 1)) ?_
    refine as_dup X (by decide +kernel : decode cX9_init 731 = .ok (.dup, 1)) ?_
    refine as_iconst X (by decide +kernel : decode cX9_init 732 = .ok (.iconst 1, 1)) rfl ?_
    refine as_bipush X (by decide +kernel : decode cX9_init 733 = .ok (.bipush 97, 2)) rfl ?_
    refine as_iastore X (by decide +kernel : decode cX9_init 735 = .ok (.iastore, 1)) ?_
    refine as_dup X (by decide +kernel : decode cX9_init 736 = .ok (.dup, 1)) ?_
    refine as_iconst X (by decide +kernel : decode cX9_init 737 = .ok (.iconst 2, 1)) rfl ?_
    refine as_bipush X (by decide +kernel : decode cX9_init 738 = .ok (.bipush 116, 2)) rfl ?_
    refine as_iastore X (by decide +kernel : decode cX9_init 740 = .ok (.iastore, 1)) ?_
    refine as_dup X (by decide +kernel : decode cX9_init 741 = .ok (.dup, 1)) ?_
    refine as_iconst X (by decide +kernel : decode cX9_init 742 = .ok (.iconst 3, 1)) rfl ?_
    refine as_bipush X (by decide +kernel : decode cX9_init 743 = .ok (.bipush 101, 2)) rfl ?_
    refine as_iastore X (by decide +kernel : decode cX9_init 745 = .ok (.iastore, 1)) ?_
    refine as_dup X (by decide +kernel : decode cX9_init 746 = .ok (.dup, 1)) ?_
    refine as_iconst X (by decide +kernel : decode cX9_init 747 = .ok (.iconst 4, 1)) rfl ?_
    refine as_bipush X (by decide +kernel : decode cX9_init 748 = .ok (.bipush 114, 2)) rfl ?_
    exact fun _ _ _ h => h
  · unfold B_X9_init_750
    refine as_iastore X (by decide +kernel : decode cX9_init 750 = .ok (.iastore, 1)) ?_
    refine as_dup X (by decide +kernel : decode cX9_init 751 = .ok (.dup, 1)) ?_
    refine as_iconst X (by decide +kernel : decode cX9_init 752 = .ok (.iconst 5, 1)) rfl ?_
    refine as_bipush X (by decide +kernel : decode cX9_init 753 = .ok (.bipush 47, 2)) rfl ?_
    refine as_iastore X (by decide +kernel : decode cX9_init 755 = .ok (.iastore, 1)) ?_
    refine as_dup X (by decide +kernel : decode cX9_init 756 = .ok (.dup, 1)) ?_
    refine as_bipush X (by decide +kernel : decode cX9_init 757 = .ok (.bipush 6, 2)) rfl ?_
    refine as_bipush X (by decide +kernel : decode cX9_init 759 = .ok (.bipush 66, 2)) rfl ?_
    refine as_iastore X (by decide +kernel : decode cX9_init 761 = .ok (.iastore, 1)) ?_
    refine as_dup X (by decide +kernel : decode cX9_init 762 = .ok (.dup, 1)) ?_
    refine as_bipush X (by decide +kernel : decode cX9_init 763 = .ok (.bipush 7, 2)) rfl ?_
    refine as_bipush X (by decide +kernel : decode cX9_init 765 = .ok (.bipush 59, 2)) rfl ?_
    refine as_iastore X (by decide +kernel : decode cX9_init 767 = .ok (.iastore, 1)) ?_
    refine as_dup X (by decide +kernel : decode cX9_init 768 = .ok (.dup, 1)) ?_
    refine as_bipush X (by decide +kernel : decode cX9_init 769 = .ok (.bipush 8, 2)) rfl ?_
    refine as_bipush X (by decide +kernel : decode cX9_init 771 = .ok (.bipush 115, 2)) rfl ?_
    refine as_iastore X (by decide +kernel : decode cX9_init 773 = .ok (.iastore, 1)) ?_
    refine as_dup X (by decide +kernel : decode cX9_init 774 = .ok (.dup, 1)) ?_
    refine as_bipush X (by decide +kernel : decode cX9_init 775 = .ok (.bipush 9, 2)) rfl ?_
    refine as_bipush X (by decide +kernel : decode cX9_init 777 = .ok (.bipush 104, 2)) rfl ?_
    refine as_iastore X (by decide +kernel : decode cX9_init 779 = .ok (.iastore, 1)) ?_
    refine as_dup X (by decide +kernel : decode cX9_init 780 = .ok (.dup, 1)) ?_
    refine as_bipush X (by decide +kernel : decode cX9_init 781 = .ok (.bipush 10, 2)) rfl ?_
    refine as_bipush X (by decide +kernel : decode cX9_init 783 = .ok (.bipush 111, 2)) rfl ?_
    refine as_iastore X (by decide +kernel : decode cX9_init 785 = .ok (.iastore, 1)) ?_
    refine as_dup X (by decide +kernel : decode cX9_init 786 = .ok (.dup, 1)) ?_
    refine as_bipush X (by decide +kernel : decode cX9_init 787 = .ok (.bipush 11, 2)) rfl ?_
    refine as_bipush X (by decide +kernel : decode cX9_init 789 = .ok (.bipush 114, 2)) rfl ?_
    refine as_iastore X (by decide +kernel : decode cX9_init 791 = .ok (.iastore, 1)) ?_
    refine as_dup X (by decide +kernel : decode cX9_init 792 = .ok (.dup, 1)) ?_
    refine as_bipush X (by decide +kernel : decode cX9_init 793 = .ok (.bipush 12, 2)) rfl ?_
    refine as_bipush X (by decide +kernel : decode cX9_init 795 = .ok (.bipush 116, 2)) rfl ?_
    refine as_iastore X (by decide +kernel : decode cX9_init 797 = .ok (.iastore, 1)) ?_
    refine as_dup X (by decide +kernel : decode cX9_init 798 = .ok (.dup, 1)) ?_
    refine as_bipush X (by decide +kernel : decode cX9_init 799 = .ok (.bipush 13, 2)) rfl ?_
    refine as_bipush X (by decide +kernel : decode cX9_init 801 = .ok (.bipush 47, 2)) rfl ?_
    refine as_iastore X (by decide +kernel : decode cX9_init 803 = .ok (.iastore, 1)) ?_
    refine as_dup X (by decide +kernel : decode cX9_init 804 = .ok (.dup, 1)) ?_
    refine as_bipush X (by decide +kernel : decode cX9_init 805 = .ok (.bipush 14, 2)) rfl ?_
    refine as_bipush X (by decide +kernel : decode cX9_init 807 = .ok (.bipush 84, 2)) rfl ?_
    refine as_iastore X (by decide +kernel : decode cX9_init 809 = .ok (.iastore, 1)) ?_
    refine as_dup X (by decide +kernel : decode cX9_init 810 = .ok (.dup, 1)) ?_
    refine as_bipush X (by decide +kernel : decode cX9_init 811 = .ok (.bipush 15, 2)) rfl ?_
    refine as_bipush X (by decide +kernel : decode cX9_init 813 = .ok (.bipush 59, 2)) rfl ?_
    refine as_iastore X (by decide +kernel : decode cX9_init 815 = .ok (.iastore, 1)) ?_
    exact fun _ _ _ h => h
  · unfold B_X9_init_816
    refine as_dup X (by decide +kernel : decode cX9_init 816 = .ok (.dup, 1)) ?_
    refine as_bipush X (by decide +kernel : decode cX9_init 817 = .ok (.bipush 16, 2)) rfl ?_
    refine as_bipush X (by decide +kernel : decode cX9_init 819 = .ok (.bipush 102, 2)) rfl ?_
    refine as_iastore X (by decide +kernel : decode cX9_init 821 = .ok (.iastore, 1)) ?_
    refine as_dup X (by decide +kernel : decode cX9_init 822 = .ok (.dup, 1)) ?_
    refine as_bipush X (by decide +kernel : decode cX9_init 823 = .ok (.bipush 17, 2)) rfl ?_
    refine as_bipush X (by decide +kernel : decode cX9_init 825 = .ok (.bipush 105, 2)) rfl ?_
    refine as_iastore X (by decide +kernel : decode cX9_init 827 = .ok (.iastore, 1)) ?_
    refine as_dup X (by decide +kernel : decode cX9_init 828 = .ok (.dup, 1)) ?_
    refine as_bipush X (by decide +kernel : decode cX9_init 829 = .ok (.bipush 18, 2)) rfl ?_
    refine as_bipush X (by decide +kernel : decode cX9_init 831 = .ok (.bipush 114, 2)) rfl ?_
    refine as_iastore X (by decide +kernel : decode cX9_init 833 = .ok (.iastore, 1)) ?_
    refine as_dup X (by decide +kernel : decode cX9_init 834 = .ok (.dup, 1)) ?_
    refine as_bipush X (by decide +kernel : decode cX9_init 835 = .ok (.bipush 19, 2)) rfl ?_
    refine as_bipush X (by decide +kernel : decode cX9_init 837 = .ok (.bipush 115, 2)) rfl ?_
    refine as_iastore X (by decide +kernel : decode cX9_init 839 = .ok (.iastore, 1)) ?_
    refine as_dup X (by decide +kernel : decode cX9_init 840 = .ok (.dup, 1)) ?_
    refine as_bipush X (by decide +kernel : decode cX9_init 841 = .ok (.bipush 20, 2)) rfl ?_
    refine as_bipush X (by decide +kernel : decode cX9_init 843 = .ok (.bipush 116, 2)) rfl ?_
    refine as_iastore X (by decide +kernel : decode cX9_init 845 = .ok (.iastore, 1)) ?_
    refine as_dup X (by decide +kernel : decode cX9_init 846 = .ok (.dup, 1)) ?_
    refine as_bipush X (by decide +kernel : decode cX9_init 847 = .ok (.bipush 21, 2)) rfl ?_
    refine as_bipush X (by decide +kernel : decode cX9_init 849 = .ok (.bipush 47, 2)) rfl ?_
    refine as_iastore X (by decide +kernel : decode cX9_init 851 = .ok (.iastore, 1)) ?_
    refine as_dup X (by decide +kernel : decode cX9_init 852 = .ok (.dup, 1)) ?_
    refine as_bipush X (by decide +kernel : decode cX9_init 853 = .ok (.bipush 22, 2)) rfl ?_
    refine as_bipush X (by decide +kernel : decode cX9_init 855 = .ok (.bipush 73, 2)) rfl ?_
    refine as_iastore X (by decide +kernel : decode cX9_init 857 = .ok (.iastore, 1)) ?_
    refine as_dup X (by decide +kernel : decode cX9_init 858 = .ok (.dup, 1)) ?_
    refine as_bipush X (by decide +kernel : decode cX9_init 859 = .ok (.bipush 23, 2)) rfl ?_
    refine as_bipush X (by decide +kernel : decode cX9_init 861 = .ok (.bipush 59, 2)) rfl ?_
    refine as_iastore X (by decide +kernel : decode cX9_init 863 = .ok (.iastore, 1)) ?_
    refine as_dup X (by decide +kernel : decode cX9_init 864 = .ok (.dup, 1)) ?_
    refine as_bipush X (by decide +kernel : decode cX9_init 865 = .ok (.bipush 24, 2)) rfl ?_
    refine as_bipush X (by decide +kernel : decode cX9_init 867 = .ok (.bipush 102, 2)) rfl ?_
    refine as_iastore X (by decide +kernel : decode cX9_init 869 = .ok (.iastore, 1)) ?_
    refine as_dup X (by decide +kernel : decode cX9_init 870 = .ok (.dup, 1)) ?_
    refine as_bipush X (by decide +kernel : decode cX9_init 871 = .ok (.bipush 25, 2)) rfl ?_
    refine as_bipush X (by decide +kernel : decode cX9_init 873 = .ok (.bipush 111, 2)) rfl ?_
    refine as_iastore X (by decide +kernel : decode cX9_init 875 = .ok (.iastore, 1)) ?_
    refine as_dup X (by decide +kernel : decode cX9_init 876 = .ok (.dup, 1)) ?_
    refine as_bipush X (by decide +kernel : decode cX9_init 877 = .ok (.bipush 26, 2)) rfl ?_
    refine as_bipush X (by decide +kernel : decode cX9_init 879 = .ok (.bipush 114, 2)) rfl ?_
    refine as_iastore X (by decide +kernel : decode cX9_init 881 = .ok (.iastore, 1)) ?_
    refine as_dup X (by decide +kernel : decode cX9_init 882 = .ok (.dup, 1)) ?_
    exact fun _ _ _ h => h
  · unfold B_X9_init_883
    refine as_bipush X (by decide +kernel : decode cX9_init 883 = .ok (.bipush 27, 2)) rfl ?_
    refine as_bipush X (by decide +kernel : decode cX9_init 885 = .ok (.bipush 47, 2)) rfl ?_
    refine as_iastore X (by decide +kernel : decode cX9_init 887 = .ok (.iastore, 1)) ?_
    refine as_dup X (by decide +kernel : decode cX9_init 888 = .ok (.dup, 1)) ?_
    refine as_bipush X (by decide +kernel : decode cX9_init 889 = .ok (.bipush 28, 2)) rfl ?_
    refine as_bipush X (by decide +kernel : decode cX9_init 891 = .ok (.bipush 76, 2)) rfl ?_
    refine as_iastore X (by decide +kernel : decode cX9_init 893 = .ok (.iastore, 1)) ?_
    refine as_dup X (by decide +kernel : decode cX9_init 894 = .ok (.dup, 1)) ?_
    refine as_bipush X (by decide +kernel : decode cX9_init 895 = .ok (.bipush 29, 2)) rfl ?_
    refine as_bipush X (by decide +kernel : decode cX9_init 897 = .ok (.bipush 59, 2)) rfl ?_
    refine as_iastore X (by decide +kernel : decode cX9_init 899 = .ok (.iastore, 1)) ?_
    refine as_puta X fc_X9 (by decide +kernel : decode cX9_init 900 = .ok (.putfield 72, 3)) (by decide) fl_X9_72 (Or.inr ⟨rfl, hnm, rfl⟩) (Or.inl ⟨_, rfl⟩) ?_
    refine as_aload_n X (by decide +kernel : decode cX9_init 903 = .ok (.aload_n 0, 1)) rfl ?_
    refine as_bipush X (by decide +kernel : decode cX9_init 904 = .ok (.bipush 16, 2)) rfl ?_
    refine as_newi X (by decide +kernel : decode cX9_init 906 = .ok (.newarray .int, 2)) ac_int ?_
    refine as_dup X (by decide +kernel : decode cX9_init 908 = .ok (.dup, 1)) ?_
    refine as_iconst X (by decide +kernel : decode cX9_init 909 = .ok (.iconst 0, 1)) rfl ?_
    refine as_bipush X (by decide +kernel : decode cX9_init 910 = .ok (.bipush 112, 2)) rfl ?_
    refine as_iastore X (by decide +kernel : decode cX9_init 912 = .ok (.iastore, 1)) ?_
    refine as_dup X (by decide +kernel : decode cX9_init 913 = .ok (.dup, 1)) ?_
    refine as_iconst X (by decide +kernel : decode cX9_init 914 = .ok (.iconst 1, 1)) rfl ?_
    refine as_bipush X (by decide +kernel : decode cX9_init 915 = .ok (.bipush 101, 2)) rfl ?_
    refine as_iastore X (by decide +kernel : decode cX9_init 917 = .ok (.iastore, 1)) ?_
    refine as_dup X (by decide +kernel : decode cX9_init 918 = .ok (.dup, 1)) ?_
    refine as_iconst X (by decide +kernel : decode cX9_init 919 = .ok (.iconst 2, 1)) rfl ?_
    refine as_bipush X (by decide +kernel : decode cX9_init 920 = .ok (.bipush 115, 2)) rfl ?_
    refine as_iastore X (by decide +kernel : decode cX9_init 922 = .ok (.iastore, 1)) ?_
    refine as_dup X (by decide +kernel : decode cX9_init 923 = .ok (.dup, 1)) ?_
    refine as_iconst X (by decide +kernel : decode cX9_init 924 = .ok (.iconst 3, 1)) rfl ?_
    refine as_bipush X (by decide +kernel : decode cX9_init 925 = .ok (.bipush 116, 2)) rfl ?_
    refine as_iastore X (by decide +kernel : decode cX9_init 927 = .ok (.iastore, 1)) ?_
    refine as_dup X (by decide +kernel : decode cX9_init 928 = .ok (.dup, 1)) ?_
    refine as_iconst X (by decide +kernel : decode cX9_init 929 = .ok (.iconst 4, 1)) rfl ?_
    refine as_bipush X (by decide +kernel : decode cX9_init 930 = .ok (.bipush 32, 2)) rfl ?_
    refine as_iastore X (by decide +kernel : decode cX9_init 932 = .ok (.iastore, 1)) ?_
    refine as_dup X (by decide +kernel : decode cX9_init 933 = .ok (.dup, 1)) ?_
    refine as_iconst X (by decide +kernel : decode cX9_init 934 = .ok (.iconst 5, 1)) rfl ?_
    refine as_bipush X (by decide +kernel : decode cX9_init 935 = .ok (.bipush 98, 2)) rfl ?_
    refine as_iastore X (by decide +kernel : decode cX9_init 937 = .ok (.iastore, 1)) ?_
    refine as_dup X (by decide +kernel : decode cX9_init 938 = .ok (.dup, 1)) ?_
    refine as_bipush X (by decide +kernel : decode cX9_init 939 = .ok (.bipush 6, 2)) rfl ?_
    refine as_bipush X (by decide +kernel : decode cX9_init 941 = .ok (.bipush 97, 2)) rfl ?_
    refine as_iastore X (by decide +kernel : decode cX9_init 943 = .ok (.iastore, 1)) ?_
    refine as_dup X (by decide +kernel : decode cX9_init 944 = .ok (.dup, 1)) ?_
    refine as_bipush X (by decide +kernel : decode cX9_init 945 = .ok (.bipush 7, 2)) rfl ?_
    exact fun _ _ _ h => h
  · unfold B_X9_init_947
    refine as_bipush X (by decide +kernel : decode cX9_init 947 = .ok (.bipush 99, 2)) rfl ?_
    refine as_iastore X (by decide +kernel : decode cX9_init 949 = .ok (.iastore, 1)) ?_
    refine as_dup X (by decide +kernel : decode cX9_init 950 = .ok (.dup, 1)) ?_
    refine as_bipush X (by decide +kernel : decode cX9_init 951 = .ok (.bipush 8, 2)) rfl ?_
    refine as_bipush X (by decide +kernel : decode cX9_init 953 = .ok (.bipush 107, 2)) rfl ?_
    refine as_iastore X (by decide +kernel : decode cX9_init 955 = .ok (.iastore, 1)) ?_
    refine as_dup X (by decide +kernel : decode cX9_init 956 = .ok (.dup, 1)) ?_
    refine as_bipush X (by decide +kernel : decode cX9_init 957 = .ok (.bipush 9, 2)) rfl ?_
    refine as_bipush X (by decide +kernel : decode cX9_init 959 = .ok (.bipush 32, 2)) rfl ?_
    refine as_iastore X (by decide +kernel : decode cX9_init 961 = .ok (.iastore, 1)) ?_
    refine as_dup X (by decide +kernel : decode cX9_init 962 = .ok (.dup, 1)) ?_
    refine as_bipush X (by decide +kernel : decode cX9_init 963 = .ok (.bipush 10, 2)) rfl ?_
    refine as_bipush X (by decide +kernel : decode cX9_init 965 = .ok (.bipush 115, 2)) rfl ?_
    refine as_iastore X (by decide +kernel : decode cX9_init 967 = .ok (.iastore, 1)) ?_
    refine as_dup X (by decide +kernel : decode cX9_init 968 = .ok (.dup, 1)) ?_
    refine as_bipush X (by decide +kernel : decode cX9_init 969 = .ok (.bipush 11, 2)) rfl ?_
    refine as_bipush X (by decide +kernel : decode cX9_init 971 = .ok (.bipush 97, 2)) rfl ?_
    refine as_iastore X (by decide +kernel : decode cX9_init 973 = .ok (.iastore, 1)) ?_
    refine as_dup X (by decide +kernel : decode cX9_init 974 = .ok (.dup, 1)) ?_
    refine as_bipush X (by decide +kernel : decode cX9_init 975 = .ok (.bipush 12, 2)) rfl ?_
    refine as_bipush X (by decide +kernel : decode cX9_init 977 = .ok (.bipush 105, 2)) rfl ?_
    refine as_iastore X (by decide +kernel : decode cX9_init 979 = .ok (.iastore, 1)) ?_
    refine as_dup X (by decide +kernel : decode cX9_init 980 = .ok (.dup, 1)) ?_
    refine as_bipush X (by decide +kernel : decode cX9_init 981 = .ok (.bipush 13, 2)) rfl ?_
    refine as_bipush X (by decide +kernel : decode cX9_init 983 = .ok (.bipush 108, 2)) rfl ?_
    refine as_iastore X (by decide +kernel : decode cX9_init 985 = .ok (.iastore, 1)) ?_
    refine as_dup X (by decide +kernel : decode cX9_init 986 = .ok (.dup, 1)) ?_
    refine as_bipush X (by decide +kernel : decode cX9_init 987 = .ok (.bipush 14, 2)) rfl ?_
    refine as_bipush X (by decide +kernel : decode cX9_init 989 = .ok (.bipush 111, 2)) rfl ?_
    refine as_iastore X (by decide +kernel : decode cX9_init 991 = .ok (.iastore, 1)) ?_
    refine as_dup X (by decide +kernel : decode cX9_init 992 = .ok (.dup, 1)) ?_
    refine as_bipush X (by decide +kernel : decode cX9_init 993 = .ok (.bipush 15, 2)) rfl ?_
    refine as_bipush X (by decide +kernel : decode cX9_init 995 = .ok (.bipush 114, 2)) rfl ?_
    refine as_iastore X (by decide +kernel : decode cX9_init 997 = .ok (.iastore, 1)) ?_
    refine as_puta X fc_X9 (by decide +kernel : decode cX9_init 998 = .ok (.putfield 75, 3)) (by decide) fl_X9_75 (Or.inr ⟨rfl, hnm, rfl⟩) (Or.inl ⟨_, rfl⟩) ?_
    refine as_aload_n X (by decide +kernel : decode cX9_init 1001 = .ok (.aload_n 0, 1)) rfl ?_
    refine as_bipush X (by decide +kernel : decode cX9_init 1002 = .ok (.bipush 48, 2)) rfl ?_
    refine as_newi X (by decide +kernel : decode cX9_init 1004 = .ok (.newarray .int, 2)) ac_int ?_
    refine as_puta X fc_X9 (by decide +kernel : decode cX9_init 1006 = .ok (.putfield 78, 3)) (by decide) fl_X9_78 (Or.inr ⟨rfl, hnm, rfl⟩) (Or.inl ⟨_, rfl⟩) ?_
    refine as_aload_n X (by decide +kernel : decode cX9_init 1009 = .ok (.aload_n 0, 1)) rfl ?_
    refine as_aload_n X (by decide +kernel : decode cX9_init 1010 = .ok (.aload_n 0, 1)) rfl ?_
    refine as_get X fc_X9 (by decide +kernel : decode cX9_init 1011 = .ok (.getfield 63, 3)) (by decide) fl_X9_63 ?_
    refine as_cv X h_X9_writes rfl (by decide +kernel : decode cX9_init 1014 = .ok (.invokevirtual 81, 3)) dn_X9_writes ml_X9_81 im_X9_writes se_X9_writes ini_X9 co_X9_writes R_X9_writes ?_
    refine as_aload_n X (by decide +kernel : decode cX9_init 1017 = .ok (.aload_n 0, 1)) rfl ?_
    refine as_aload_n X (by decide +kernel : decode cX9_init 1018 = .ok (.aload_n 0, 1)) rfl ?_
    exact fun _ _ _ h => h
  · unfold B_X9_init_1019
    refine as_get X fc_X9 (by decide +kernel : decode cX9_init 1019 = .ok (.getfield 66, 3)) (by decide) fl_X9_66 ?_
    refine as_cv X h_X9_writes rfl (by decide +kernel : decode cX9_init 1022 = .ok (.invokevirtual 81, 3)) dn_X9_writes ml_X9_81 im_X9_writes se_X9_writes ini_X9 co_X9_writes R_X9_writes ?_
    refine as_aload_n X (by decide +kernel : decode cX9_init 1025 = .ok (.aload_n 0, 1)) rfl ?_
    refine as_aload_n X (by decide +kernel : decode cX9_init 1026 = .ok (.aload_n 0, 1)) rfl ?_
    refine as_get X fc_X9 (by decide +kernel : decode cX9_init 1027 = .ok (.getfield 69, 3)) (by decide) fl_X9_69 ?_
    refine as_cv X h_X9_writes rfl (by decide +kernel : decode cX9_init 1030 = .ok (.invokevirtual 81, 3)) dn_X9_writes ml_X9_81 im_X9_writes se_X9_writes ini_X9 co_X9_writes R_X9_writes ?_
    refine as_aload_n X (by decide +kernel : decode cX9_init 1033 = .ok (.aload_n 0, 1)) rfl ?_
    refine as_aload_n X (by decide +kernel : decode cX9_init 1034 = .ok (.aload_n 0, 1)) rfl ?_
    refine as_get X fc_X9 (by decide +kernel : decode cX9_init 1035 = .ok (.getfield 72, 3)) (by decide) fl_X9_72 ?_
    refine as_cv X h_X9_writes rfl (by decide +kernel : decode cX9_init 1038 = .ok (.invokevirtual 81, 3)) dn_X9_writes ml_X9_81 im_X9_writes se_X9_writes ini_X9 co_X9_writes R_X9_writes ?_
    refine as_aload_n X (by decide +kernel : decode cX9_init 1041 = .ok (.aload_n 0, 1)) rfl ?_
    refine as_cv X h_X9_learn rfl (by decide +kernel : decode cX9_init 1042 = .ok (.invokevirtual 85, 3)) dn_X9_learn ml_X9_85 im_X9_learn se_X9_learn ini_X9 co_X9_learn R_X9_learn ?_
    refine as_pop X (by decide +kernel : decode cX9_init 1045 = .ok (.pop, 1)) ?_
    refine as_aload_n X (by decide +kernel : decode cX9_init 1046 = .ok (.aload_n 0, 1)) rfl ?_
    refine as_iconst X (by decide +kernel : decode cX9_init 1047 = .ok (.iconst 0, 1)) rfl ?_
    refine as_puti X fc_X9 (by decide +kernel : decode cX9_init 1048 = .ok (.putfield 89, 3)) (by decide) fl_X9_89 (Or.inl rfl) rfl ?_
    refine as_aload_n X (by decide +kernel : decode cX9_init 1051 = .ok (.aload_n 0, 1)) rfl ?_
    refine as_aload_n X (by decide +kernel : decode cX9_init 1052 = .ok (.aload_n 0, 1)) rfl ?_
    refine as_get X fc_X9 (by decide +kernel : decode cX9_init 1053 = .ok (.getfield 75, 3)) (by decide) fl_X9_75 ?_
    refine as_cv X h_X9_writes rfl (by decide +kernel : decode cX9_init 1056 = .ok (.invokevirtual 81, 3)) dn_X9_writes ml_X9_81 im_X9_writes se_X9_writes ini_X9 co_X9_writes R_X9_writes ?_
    refine as_aload_n X (by decide +kernel : decode cX9_init 1059 = .ok (.aload_n 0, 1)) rfl ?_
    refine as_cv X h_X9_clue rfl (by decide +kernel : decode cX9_init 1060 = .ok (.invokevirtual 92, 3)) dn_X9_clue ml_X9_92 im_X9_clue se_X9_clue ini_X9 co_X9_clue R_X9_clue ?_
    refine as_pop X (by decide +kernel : decode cX9_init 1063 = .ok (.pop, 1)) ?_
    refine as_aload_n X (by decide +kernel : decode cX9_init 1064 = .ok (.aload_n 0, 1)) rfl ?_
    refine as_iconst X (by decide +kernel : decode cX9_init 1065 = .ok (.iconst 0, 1)) rfl ?_
    refine as_puti X fc_X9 (by decide +kernel : decode cX9_init 1066 = .ok (.putfield 89, 3)) (by decide) fl_X9_89 (Or.inl rfl) rfl ?_
    refine as_aload_n X (by decide +kernel : decode cX9_init 1069 = .ok (.aload_n 0, 1)) rfl ?_
    refine as_get X fc_X9 (by decide +kernel : decode cX9_init 1070 = .ok (.getfield 34, 3)) (by decide) fl_X9_34 ?_
    refine as_iconst X (by decide +kernel : decode cX9_init 1073 = .ok (.iconst 0, 1)) rfl ?_
    refine as_iconst X (by decide +kernel : decode cX9_init 1074 = .ok (.iconst 3, 1)) rfl ?_
    refine as_iastore X (by decide +kernel : decode cX9_init 1075 = .ok (.iastore, 1)) ?_
    refine as_aload_n X (by decide +kernel : decode cX9_init 1076 = .ok (.aload_n 0, 1)) rfl ?_
    refine as_get X fc_X9 (by decide +kernel : decode cX9_init 1077 = .ok (.getfield 34, 3)) (by decide) fl_X9_34 ?_
    refine as_iconst X (by decide +kernel : decode cX9_init 1080 = .ok (.iconst 1, 1)) rfl ?_
    refine as_bipush X (by decide +kernel : decode cX9_init 1081 = .ok (.bipush 116, 2)) rfl ?_
    refine as_iastore X (by decide +kernel : decode cX9_init 1083 = .ok (.iastore, 1)) ?_
    refine as_aload_n X (by decide +kernel : decode cX9_init 1084 = .ok (.aload_n 0, 1)) rfl ?_
    refine as_get X fc_X9 (by decide +kernel : decode cX9_init 1085 = .ok (.getfield 34, 3)) (by decide) fl_X9_34 ?_
    refine as_iconst X (by decide +kernel : decode cX9_init 1088 = .ok (.iconst 2, 1)) rfl ?_
    refine as_bipush X (by decide +kernel : decode cX9_init 1089 = .ok (.bipush 97, 2)) rfl ?_
    refine as_iastore X (by decide +kernel : decode cX9_init 1091 = .ok (.iastore, 1)) ?_
    refine as_aload_n X (by decide +kernel : decode cX9_init 1092 = .ok (.aload_n 0, 1)) rfl ?_
    refine as_get X fc_X9 (by decide +kernel : decode cX9_init 1093 = .ok (.getfield 34, 3)) (by decide) fl_X9_34 ?_
    refine as_iconst X (by decide +kernel : decode cX9_init 1096 = .ok (.iconst 3, 1)) rfl ?_
    refine as_bipush X (by decide +kernel : decode cX9_init 1097 = .ok (.bipush 114, 2)) rfl ?_
    exact fun _ _ _ h => h
  · unfold B_X9_init_1099
    refine as_iastore X (by decide +kernel : decode cX9_init 1099 = .ok (.iastore, 1)) ?_
    exact as_rv X hQ hr (by decide +kernel : decode cX9_init 1100 = .ok (.return_, 1))

def B_X9_writes_0 (kX9_write : am_T) (Q : am_Q) (G : Nat → am_K) : am_K := (ak_c (.int 0) (ak_is 2 (G 2)))
def B_X9_writes_2 (kX9_write : am_T) (Q : am_Q) (G : Nat → am_K) : am_K := (ak_il 2 (ak_al 1 (ak_alen (ak_ic (fun x y => y ≤ x) (ak_rv Q) (ak_al 0 (ak_al 1 (ak_il 2 (ak_iald (ak_cv 2 7 kX9_write (ak_pop (ak_ii 2 1 (G 2))))))))))))
def cl_X9_writes (kX9_write : am_T) (Q : am_Q) (G : Nat → am_K) : Prop := am_N G 0 (B_X9_writes_0 kX9_write Q G) ∧ am_N G 2 (B_X9_writes_2 kX9_write Q G)
def WP_X9_writes (kX9_write : am_T) : am_T := fun av h Q => (lg_sl av).length ≤ 3 ∧ ∀ G, cl_X9_writes kX9_write Q G → G 0 (am_ent 3 av) [] h
set_option maxHeartbeats 4000000 in
set_option maxRecDepth 100000 in
theorem s_X9_writes {mX9_write : Room} {kX9_write : am_T} (h_X9_write : am_S false yX9_write (am_ws yX9_write cX9_write 2 (some .int)) mX9_write kX9_write) {rm : Room} (hz : rm.cells = 0 ∧ rm.slots = 0) (R_X9_write : mX9_write.frames + 1 ≤ rm.frames ∧ 8 + (2 + 11) + mX9_write.locals ≤ rm.locals) : am_S false yX9_writes (am_ws yX9_writes cX9_writes 3 none) rm (WP_X9_writes kX9_write) := by
  refine am_S.of (fun _ => hz) (by decide +kernel) (fun h0 Q G => cl_X9_writes kX9_write Q G) ?_
  intro p l e s m args below meth c D h0 Q X hr hnm hQ
  refine ⟨?_, ?_⟩
  · unfold B_X9_writes_0
    refine as_iconst X (by decide +kernel : decode cX9_writes 0 = .ok (.iconst 0, 1)) rfl ?_
    refine as_istore_n X (by decide +kernel : decode cX9_writes 1 = .ok (.istore_n 2, 1)) rfl ?_
    exact fun _ _ _ h => h
  · unfold B_X9_writes_2
    refine as_iload_n X (by decide +kernel : decode cX9_writes 2 = .ok (.iload_n 2, 1)) rfl ?_
    refine as_aload_n X (by decide +kernel : decode cX9_writes 3 = .ok (.aload_n 1, 1)) rfl ?_
    refine as_arraylength X (by decide +kernel : decode cX9_writes 4 = .ok (.arraylength, 1)) ?_
    refine as_ic_ge X (tgt := 22) (by decide +kernel : decode cX9_writes 5 = .ok (.if_icmp .ge 17, 3)) (by decide) ?_ ?_
    · exact as_rv X hQ hr (by decide +kernel : decode cX9_writes 22 = .ok (.return_, 1))
    · refine as_aload_n X (by decide +kernel : decode cX9_writes 8 = .ok (.aload_n 0, 1)) rfl ?_
      refine as_aload_n X (by decide +kernel : decode cX9_writes 9 = .ok (.aload_n 1, 1)) rfl ?_
      refine as_iload_n X (by decide +kernel : decode cX9_writes 10 = .ok (.iload_n 2, 1)) rfl ?_
      refine as_iaload X (by decide +kernel : decode cX9_writes 11 = .ok (.iaload, 1)) ?_
      refine as_cv X h_X9_write rfl (by decide +kernel : decode cX9_writes 12 = .ok (.invokevirtual 95, 3)) dn_X9_write ml_X9_95 im_X9_write se_X9_write ini_X9 co_X9_write R_X9_write ?_
      refine as_pop X (by decide +kernel : decode cX9_writes 15 = .ok (.pop, 1)) ?_
      refine as_iinc X (by decide +kernel : decode cX9_writes 16 = .ok (.iinc 2 1, 3)) rfl ?_
      refine as_goto X (tgt := 2) (by decide +kernel : decode cX9_writes 19 = .ok (.goto (-17), 3)) (by decide) ?_
      exact fun _ _ _ h => h

def B_X9_isIn_0 (Q : am_Q) (G : Nat → am_K) : am_K := (ak_il 0 (ak_il 1 (ak_ic (fun x y => x < y) (G 14) (ak_il 0 (ak_il 2 (ak_ic (fun x y => y < x) (G 14) (ak_c (.int 1) (G 15))))))))
def B_X9_isIn_14 (Q : am_Q) (G : Nat → am_K) : am_K := (ak_c (.int 0) (G 15))
def B_X9_isIn_15 (Q : am_Q) (G : Nat → am_K) : am_K := (ak_rz Q)
def cl_X9_isIn (Q : am_Q) (G : Nat → am_K) : Prop := am_N G 0 (B_X9_isIn_0 Q G) ∧ am_N G 14 (B_X9_isIn_14 Q G) ∧ am_N G 15 (B_X9_isIn_15 Q G)
def WP_X9_isIn : am_T := fun av h Q => (lg_sl av).length ≤ 3 ∧ ∀ G, cl_X9_isIn Q G → G 0 (am_ent 3 av) [] h
set_option maxHeartbeats 4000000 in
set_option maxRecDepth 100000 in
theorem s_X9_isIn {rm : Room} (hz : rm.cells = 0 ∧ rm.slots = 0) : am_S false yX9_isIn (am_ws yX9_isIn cX9_isIn 3 (some .boolean)) rm (WP_X9_isIn) := by
  refine am_S.of (fun _ => hz) (by decide +kernel) (fun h0 Q G => cl_X9_isIn Q G) ?_
  intro p l e s m args below meth c D h0 Q X hr hnm hQ
  refine ⟨?_, ?_, ?_⟩
  · unfold B_X9_isIn_0
    refine as_iload_n X (by decide +kernel : decode cX9_isIn 0 = .ok (.iload_n 0, 1)) rfl ?_
    refine as_iload_n X (by decide +kernel : decode cX9_isIn 1 = .ok (.iload_n 1, 1)) rfl ?_
    refine as_ic_lt X (tgt := 14) (by decide +kernel : decode cX9_isIn 2 = .ok (.if_icmp .lt 12, 3)) (by decide) ?_ ?_
    · exact fun _ _ _ h => h
    · refine as_iload_n X (by decide +kernel : decode cX9_isIn 5 = .ok (.iload_n 0, 1)) rfl ?_
      refine as_iload_n X (by decide +kernel : decode cX9_isIn 6 = .ok (.iload_n 2, 1)) rfl ?_
      refine as_ic_gt X (tgt := 14) (by decide +kernel : decode cX9_isIn 7 = .ok (.if_icmp .gt 7, 3)) (by decide) ?_ ?_
      · exact fun _ _ _ h => h
      · refine as_iconst X (by decide +kernel : decode cX9_isIn 10 = .ok (.iconst 1, 1)) rfl ?_
        refine as_goto X (tgt := 15) (by decide +kernel : decode cX9_isIn 11 = .ok (.goto 4, 3)) (by decide) ?_
        exact fun _ _ _ h => h
  · unfold B_X9_isIn_14
    refine as_iconst X (by decide +kernel : decode cX9_isIn 14 = .ok (.iconst 0, 1)) rfl ?_
    exact fun _ _ _ h => h
  · unfold B_X9_isIn_15
    exact as_rz X hQ hr (by decide +kernel : decode cX9_isIn 15 = .ok (.ireturn, 1))

def B_X9_letterAt_0 (Q : am_Q) (G : Nat → am_K) : am_K := (ak_il 1 (ak_al 0 (ak_get 7 0 (ak_ic (fun x y => y ≤ x) (ak_c (.int 0) (G 18)) (ak_al 0 (ak_get 7 1 (ak_il 1 (ak_iald (G 18)))))))))
def B_X9_letterAt_18 (Q : am_Q) (G : Nat → am_K) : am_K := (ak_ri Q)
def cl_X9_letterAt (Q : am_Q) (G : Nat → am_K) : Prop := am_N G 0 (B_X9_letterAt_0 Q G) ∧ am_N G 18 (B_X9_letterAt_18 Q G)
def WP_X9_letterAt : am_T := fun av h Q => (lg_sl av).length ≤ 2 ∧ ∀ G, cl_X9_letterAt Q G → G 0 (am_ent 2 av) [] h
set_option maxHeartbeats 4000000 in
set_option maxRecDepth 100000 in
theorem s_X9_letterAt {rm : Room} (hz : rm.cells = 0 ∧ rm.slots = 0) : am_S false yX9_letterAt (am_ws yX9_letterAt cX9_letterAt 2 (some .int)) rm (WP_X9_letterAt) := by
  refine am_S.of (fun _ => hz) (by decide +kernel) (fun h0 Q G => cl_X9_letterAt Q G) ?_
  intro p l e s m args below meth c D h0 Q X hr hnm hQ
  refine ⟨?_, ?_⟩
  · unfold B_X9_letterAt_0
    refine as_iload_n X (by decide +kernel : decode cX9_letterAt 0 = .ok (.iload_n 1, 1)) rfl ?_
    refine as_aload_n X (by decide +kernel : decode cX9_letterAt 1 = .ok (.aload_n 0, 1)) rfl ?_
    refine as_get X fc_X9 (by decide +kernel : decode cX9_letterAt 2 = .ok (.getfield 89, 3)) (by decide) fl_X9_89 ?_
    refine as_ic_ge X (tgt := 17) (by decide +kernel : decode cX9_letterAt 5 = .ok (.if_icmp .ge 12, 3)) (by decide) ?_ ?_
    · refine as_iconst X (by decide +kernel : decode cX9_letterAt 17 = .ok (.iconst 0, 1)) rfl ?_
      exact fun _ _ _ h => h
    · refine as_aload_n X (by decide +kernel : decode cX9_letterAt 8 = .ok (.aload_n 0, 1)) rfl ?_
      refine as_get X fc_X9 (by decide +kernel : decode cX9_letterAt 9 = .ok (.getfield 7, 3)) (by decide) fl_X9_7 ?_
      refine as_iload_n X (by decide +kernel : decode cX9_letterAt 12 = .ok (.iload_n 1, 1)) rfl ?_
      refine as_iaload X (by decide +kernel : decode cX9_letterAt 13 = .ok (.iaload, 1)) ?_
      refine as_goto X (tgt := 18) (by decide +kernel : decode cX9_letterAt 14 = .ok (.goto 4, 3)) (by decide) ?_
      exact fun _ _ _ h => h
  · unfold B_X9_letterAt_18
    exact as_ri X hQ hr (by decide +kernel : decode cX9_letterAt 18 = .ok (.ireturn, 1))

def B_X9_isSmall_0 (kX9_letterAt : am_T) (Q : am_Q) (G : Nat → am_K) : am_K := (ak_al 0 (ak_il 1 (ak_cv 2 7 kX9_letterAt (ak_c (.int 97) (ak_ic (fun x y => x < y) (G 24) (ak_al 0 (ak_il 1 (ak_cv 2 7 kX9_letterAt (ak_c (.int 122) (ak_ic (fun x y => y < x) (G 24) (ak_c (.int 1) (G 25))))))))))))
def B_X9_isSmall_24 (kX9_letterAt : am_T) (Q : am_Q) (G : Nat → am_K) : am_K := (ak_c (.int 0) (G 25))
def B_X9_isSmall_25 (kX9_letterAt : am_T) (Q : am_Q) (G : Nat → am_K) : am_K := (ak_rz Q)
def cl_X9_isSmall (kX9_letterAt : am_T) (Q : am_Q) (G : Nat → am_K) : Prop := am_N G 0 (B_X9_isSmall_0 kX9_letterAt Q G) ∧ am_N G 24 (B_X9_isSmall_24 kX9_letterAt Q G) ∧ am_N G 25 (B_X9_isSmall_25 kX9_letterAt Q G)
def WP_X9_isSmall (kX9_letterAt : am_T) : am_T := fun av h Q => (lg_sl av).length ≤ 2 ∧ ∀ G, cl_X9_isSmall kX9_letterAt Q G → G 0 (am_ent 2 av) [] h
set_option maxHeartbeats 4000000 in
set_option maxRecDepth 100000 in
theorem s_X9_isSmall {mX9_letterAt : Room} {kX9_letterAt : am_T} (h_X9_letterAt : am_S false yX9_letterAt (am_ws yX9_letterAt cX9_letterAt 2 (some .int)) mX9_letterAt kX9_letterAt) {rm : Room} (hz : rm.cells = 0 ∧ rm.slots = 0) (R_X9_letterAt : mX9_letterAt.frames + 1 ≤ rm.frames ∧ 8 + (2 + 11) + mX9_letterAt.locals ≤ rm.locals) : am_S false yX9_isSmall (am_ws yX9_isSmall cX9_isSmall 2 (some .boolean)) rm (WP_X9_isSmall kX9_letterAt) := by
  refine am_S.of (fun _ => hz) (by decide +kernel) (fun h0 Q G => cl_X9_isSmall kX9_letterAt Q G) ?_
  intro p l e s m args below meth c D h0 Q X hr hnm hQ
  refine ⟨?_, ?_, ?_⟩
  · unfold B_X9_isSmall_0
    refine as_aload_n X (by decide +kernel : decode cX9_isSmall 0 = .ok (.aload_n 0, 1)) rfl ?_
    refine as_iload_n X (by decide +kernel : decode cX9_isSmall 1 = .ok (.iload_n 1, 1)) rfl ?_
    refine as_cv X h_X9_letterAt rfl (by decide +kernel : decode cX9_isSmall 2 = .ok (.invokevirtual 99, 3)) dn_X9_letterAt ml_X9_99 im_X9_letterAt se_X9_letterAt ini_X9 co_X9_letterAt R_X9_letterAt ?_
    refine as_bipush X (by decide +kernel : decode cX9_isSmall 5 = .ok (.bipush 97, 2)) rfl ?_
    refine as_ic_lt X (tgt := 24) (by decide +kernel : decode cX9_isSmall 7 = .ok (.if_icmp .lt 17, 3)) (by decide) ?_ ?_
    · exact fun _ _ _ h => h
    · refine as_aload_n X (by decide +kernel : decode cX9_isSmall 10 = .ok (.aload_n 0, 1)) rfl ?_
      refine as_iload_n X (by decide +kernel : decode cX9_isSmall 11 = .ok (.iload_n 1, 1)) rfl ?_
      refine as_cv X h_X9_letterAt rfl (by decide +kernel : decode cX9_isSmall 12 = .ok (.invokevirtual 99, 3)) dn_X9_letterAt ml_X9_99 im_X9_letterAt se_X9_letterAt ini_X9 co_X9_letterAt R_X9_letterAt ?_
      refine as_bipush X (by decide +kernel : decode cX9_isSmall 15 = .ok (.bipush 122, 2)) rfl ?_
      refine as_ic_gt X (tgt := 24) (by decide +kernel : decode cX9_isSmall 17 = .ok (.if_icmp .gt 7, 3)) (by decide) ?_ ?_
      · exact fun _ _ _ h => h
      · refine as_iconst X (by decide +kernel : decode cX9_isSmall 20 = .ok (.iconst 1, 1)) rfl ?_
        refine as_goto X (tgt := 25) (by decide +kernel : decode cX9_isSmall 21 = .ok (.goto 4, 3)) (by decide) ?_
        exact fun _ _ _ h => h
  · unfold B_X9_isSmall_24
    refine as_iconst X (by decide +kernel : decode cX9_isSmall 24 = .ok (.iconst 0, 1)) rfl ?_
    exact fun _ _ _ h => h
  · unfold B_X9_isSmall_25
    exact as_rz X hQ hr (by decide +kernel : decode cX9_isSmall 25 = .ok (.ireturn, 1))

def B_X9_small_0 (kX9_isSmall : am_T) (kX9_letterAt : am_T) (Q : am_Q) (G : Nat → am_K) : am_K := (ak_c (.int 0) (ak_is 5 (G 3)))
def B_X9_small_3 (kX9_isSmall : am_T) (kX9_letterAt : am_T) (Q : am_Q) (G : Nat → am_K) : am_K := (ak_il 5 (ak_il 2 (ak_ic (fun x y => y ≤ x) (G 43) (ak_al 0 (ak_il 1 (ak_il 5 (ak_ib (fun x y => x + y) (ak_cv 2 7 kX9_isSmall (ak_if (fun x => x = 0) (G 43) (ak_al 3 (ak_il 4 (ak_c (.int 1) (ak_ib (fun x y => x + y) (ak_il 5 (ak_ib (fun x y => x + y) (ak_al 0 (ak_il 1 (ak_il 5 (ak_ib (fun x y => x + y) (ak_cv 2 7 kX9_letterAt (ak_iast (ak_ii 5 1 (G 3)))))))))))))))))))))))
def B_X9_small_43 (kX9_isSmall : am_T) (kX9_letterAt : am_T) (Q : am_Q) (G : Nat → am_K) : am_K := (ak_al 3 (ak_il 4 (ak_il 5 (ak_iast (ak_il 1 (ak_il 5 (ak_ib (fun x y => x + y) (ak_ri Q))))))))
def cl_X9_small (kX9_isSmall : am_T) (kX9_letterAt : am_T) (Q : am_Q) (G : Nat → am_K) : Prop := am_N G 0 (B_X9_small_0 kX9_isSmall kX9_letterAt Q G) ∧ am_N G 3 (B_X9_small_3 kX9_isSmall kX9_letterAt Q G) ∧ am_N G 43 (B_X9_small_43 kX9_isSmall kX9_letterAt Q G)
def WP_X9_small (kX9_isSmall : am_T) (kX9_letterAt : am_T) : am_T := fun av h Q => (lg_sl av).length ≤ 6 ∧ ∀ G, cl_X9_small kX9_isSmall kX9_letterAt Q G → G 0 (am_ent 6 av) [] h
set_option maxHeartbeats 4000000 in
set_option maxRecDepth 100000 in
theorem s_X9_small {mX9_isSmall : Room} {kX9_isSmall : am_T} (h_X9_isSmall : am_S false yX9_isSmall (am_ws yX9_isSmall cX9_isSmall 2 (some .boolean)) mX9_isSmall kX9_isSmall) {mX9_letterAt : Room} {kX9_letterAt : am_T} (h_X9_letterAt : am_S false yX9_letterAt (am_ws yX9_letterAt cX9_letterAt 2 (some .int)) mX9_letterAt kX9_letterAt) {rm : Room} (hz : rm.cells = 0 ∧ rm.slots = 0) (R_X9_isSmall : mX9_isSmall.frames + 1 ≤ rm.frames ∧ 8 + (2 + 11) + mX9_isSmall.locals ≤ rm.locals) (R_X9_letterAt : mX9_letterAt.frames + 1 ≤ rm.frames ∧ 8 + (2 + 11) + mX9_letterAt.locals ≤ rm.locals) : am_S false yX9_small (am_ws yX9_small cX9_small 6 (some .int)) rm (WP_X9_small kX9_isSmall kX9_letterAt) := by
  refine am_S.of (fun _ => hz) (by decide +kernel) (fun h0 Q G => cl_X9_small kX9_isSmall kX9_letterAt Q G) ?_
  intro p l e s m args below meth c D h0 Q X hr hnm hQ
  refine ⟨?_, ?_, ?_⟩
  · unfold B_X9_small_0
    refine as_iconst X (by decide +kernel : decode cX9_small 0 = .ok (.iconst 0, 1)) rfl ?_
    refine as_istore X (by decide +kernel : decode cX9_small 1 = .ok (.istore 5, 2)) ?_
    exact fun _ _ _ h => h
  · unfold B_X9_small_3
    refine as_iload X (by decide +kernel : decode cX9_small 3 = .ok (.iload 5, 2)) ?_
    refine as_iload_n X (by decide +kernel : decode cX9_small 5 = .ok (.iload_n 2, 1)) rfl ?_
    refine as_ic_ge X (tgt := 43) (by decide +kernel : decode cX9_small 6 = .ok (.if_icmp .ge 37, 3)) (by decide) ?_ ?_
    · exact fun _ _ _ h => h
    · refine as_aload_n X (by decide +kernel : decode cX9_small 9 = .ok (.aload_n 0, 1)) rfl ?_
      refine as_iload_n X (by decide +kernel : decode cX9_small 10 = .ok (.iload_n 1, 1)) rfl ?_
      refine as_iload X (by decide +kernel : decode cX9_small 11 = .ok (.iload 5, 2)) ?_
      refine as_iadd X (by decide +kernel : decode cX9_small 13 = .ok (.iadd, 1)) ?_
      refine as_cv X h_X9_isSmall rfl (by decide +kernel : decode cX9_small 14 = .ok (.invokevirtual 102, 3)) dn_X9_isSmall ml_X9_102 im_X9_isSmall se_X9_isSmall ini_X9 co_X9_isSmall R_X9_isSmall ?_
      refine as_if_eq X (tgt := 43) (by decide +kernel : decode cX9_small 17 = .ok (.ifCond .eq 26, 3)) (by decide) ?_ ?_
      · exact fun _ _ _ h => h
      · refine as_aload_n X (by decide +kernel : decode cX9_small 20 = .ok (.aload_n 3, 1)) rfl ?_
        refine as_iload X (by decide +kernel : decode cX9_small 21 = .ok (.iload 4, 2)) ?_
        refine as_iconst X (by decide +kernel : decode cX9_small 23 = .ok (.iconst 1, 1)) rfl ?_
        refine as_iadd X (by decide +kernel : decode cX9_small 24 = .ok (.iadd, 1)) ?_
        refine as_iload X (by decide +kernel : decode cX9_small 25 = .ok (.iload 5, 2)) ?_
        refine as_iadd X (by decide +kernel : decode cX9_small 27 = .ok (.iadd, 1)) ?_
        refine as_aload_n X (by decide +kernel : decode cX9_small 28 = .ok (.aload_n 0, 1)) rfl ?_
        refine as_iload_n X (by decide +kernel : decode cX9_small 29 = .ok (.iload_n 1, 1)) rfl ?_
        refine as_iload X (by decide +kernel : decode cX9_small 30 = .ok (.iload 5, 2)) ?_
        refine as_iadd X (by decide +kernel : decode cX9_small 32 = .ok (.iadd, 1)) ?_
        refine as_cv X h_X9_letterAt rfl (by decide +kernel : decode cX9_small 33 = .ok (.invokevirtual 99, 3)) dn_X9_letterAt ml_X9_99 im_X9_letterAt se_X9_letterAt ini_X9 co_X9_letterAt R_X9_letterAt ?_
        refine as_iastore X (by decide +kernel : decode cX9_small 36 = .ok (.iastore, 1)) ?_
        refine as_iinc X (by decide +kernel : decode cX9_small 37 = .ok (.iinc 5 1, 3)) rfl ?_
        refine as_goto X (tgt := 3) (by decide +kernel : decode cX9_small 40 = .ok (.goto (-37), 3)) (by decide) ?_
        exact fun _ _ _ h => h
  · unfold B_X9_small_43
    refine as_aload_n X (by decide +kernel : decode cX9_small 43 = .ok (.aload_n 3, 1)) rfl ?_
    refine as_iload X (by decide +kernel : decode cX9_small 44 = .ok (.iload 4, 2)) ?_
    refine as_iload X (by decide +kernel : decode cX9_small 46 = .ok (.iload 5, 2)) ?_
    refine as_iastore X (by decide +kernel : decode cX9_small 48 = .ok (.iastore, 1)) ?_
    refine as_iload_n X (by decide +kernel : decode cX9_small 49 = .ok (.iload_n 1, 1)) rfl ?_
    refine as_iload X (by decide +kernel : decode cX9_small 50 = .ok (.iload 5, 2)) ?_
    refine as_iadd X (by decide +kernel : decode cX9_small 52 = .ok (.iadd, 1)) ?_
    exact as_ri X hQ hr (by decide +kernel : decode cX9_small 53 = .ok (.ireturn, 1))

def B_X9_sortOf_0 (Q : am_Q) (G : Nat → am_K) : am_K := (ak_il 1 (ak_sw (65) (84) [(ak_c (.int 3) (ak_ri Q)), (ak_c (.int 7) (ak_ri Q)), (ak_c (.int 4) (ak_ri Q)), (G 119), (G 119), (G 119), (G 119), (ak_c (.int 6) (ak_ri Q)), (ak_c (.int 9) (ak_ri Q)), (G 119), (G 119), (ak_c (.int 10) (ak_ri Q)), (G 119), (ak_c (.int 5) (ak_ri Q)), (G 119), (G 119), (G 119), (ak_c (.int 2) (ak_ri Q)), (G 119), (ak_c (.int 8) (ak_ri Q))] (G 119)))
def B_X9_sortOf_119 (Q : am_Q) (G : Nat → am_K) : am_K := (ak_c (.int 0) (ak_ri Q))
def cl_X9_sortOf (Q : am_Q) (G : Nat → am_K) : Prop := am_N G 0 (B_X9_sortOf_0 Q G) ∧ am_N G 119 (B_X9_sortOf_119 Q G)
def WP_X9_sortOf : am_T := fun av h Q => (lg_sl av).length ≤ 2 ∧ ∀ G, cl_X9_sortOf Q G → G 0 (am_ent 2 av) [] h
set_option maxHeartbeats 4000000 in
set_option maxRecDepth 100000 in
theorem s_X9_sortOf {rm : Room} (hz : rm.cells = 0 ∧ rm.slots = 0) : am_S false yX9_sortOf (am_ws yX9_sortOf cX9_sortOf 2 (some .int)) rm (WP_X9_sortOf) := by
  refine am_S.of (fun _ => hz) (by decide +kernel) (fun h0 Q G => cl_X9_sortOf Q G) ?_
  intro p l e s m args below meth c D h0 Q X hr hnm hQ
  refine ⟨?_, ?_⟩
  · unfold B_X9_sortOf_0
    refine as_iload_n X (by decide +kernel : decode cX9_sortOf 0 = .ok (.iload_n 1, 1)) rfl ?_
    refine as_sw X (td := 119) (by decide +kernel : decode cX9_sortOf 1 = .ok (.tableswitch 118 65 84 #[97, 106, 99, 118, 118, 118, 118, 103, 112, 118, 118, 115, 118, 101, 118, 118, 118, 95, 118, 109], 95)) (by decide) rfl (by decide) ?_ ?_
    · exact fun _ _ _ h => h
    · intro i off K h1 h2
      match i, h1, h2 with
      | 0, h1, h2 =>
        obtain rfl := Option.some.inj h1
        obtain rfl := Option.some.inj h2
        refine ⟨98, by decide, ?_⟩
        refine as_iconst X (by decide +kernel : decode cX9_sortOf 98 = .ok (.iconst 3, 1)) rfl ?_
        exact as_ri X hQ hr (by decide +kernel : decode cX9_sortOf 99 = .ok (.ireturn, 1))
      | 1, h1, h2 =>
        obtain rfl := Option.some.inj h1
        obtain rfl := Option.some.inj h2
        refine ⟨107, by decide, ?_⟩
        refine as_bipush X (by decide +kernel : decode cX9_sortOf 107 = .ok (.bipush 7, 2)) rfl ?_
        exact as_ri X hQ hr (by decide +kernel : decode cX9_sortOf 109 = .ok (.ireturn, 1))
      | 2, h1, h2 =>
        obtain rfl := Option.some.inj h1
        obtain rfl := Option.some.inj h2
        refine ⟨100, by decide, ?_⟩
        refine as_iconst X (by decide +kernel : decode cX9_sortOf 100 = .ok (.iconst 4, 1)) rfl ?_
        exact as_ri X hQ hr (by decide +kernel : decode cX9_sortOf 101 = .ok (.ireturn, 1))
      | 3, h1, h2 =>
        obtain rfl := Option.some.inj h1
        obtain rfl := Option.some.inj h2
        refine ⟨119, by decide, ?_⟩
        exact fun _ _ _ h => h
      | 4, h1, h2 =>
        obtain rfl := Option.some.inj h1
        obtain rfl := Option.some.inj h2
        refine ⟨119, by decide, ?_⟩
        exact fun _ _ _ h => h
      | 5, h1, h2 =>
        obtain rfl := Option.some.inj h1
        obtain rfl := Option.some.inj h2
        refine ⟨119, by decide, ?_⟩
        exact fun _ _ _ h => h
      | 6, h1, h2 =>
        obtain rfl := Option.some.inj h1
        obtain rfl := Option.some.inj h2
        refine ⟨119, by decide, ?_⟩
        exact fun _ _ _ h => h
      | 7, h1, h2 =>
        obtain rfl := Option.some.inj h1
        obtain rfl := Option.some.inj h2
        refine ⟨104, by decide, ?_⟩
        refine as_bipush X (by decide +kernel : decode cX9_sortOf 104 = .ok (.bipush 6, 2)) rfl ?_
        exact as_ri X hQ hr (by decide +kernel : decode cX9_sortOf 106 = .ok (.ireturn, 1))
      | 8, h1, h2 =>
        obtain rfl := Option.some.inj h1
        obtain rfl := Option.some.inj h2
        refine ⟨113, by decide, ?_⟩
        refine as_bipush X (by decide +kernel : decode cX9_sortOf 113 = .ok (.bipush 9, 2)) rfl ?_
        exact as_ri X hQ hr (by decide +kernel : decode cX9_sortOf 115 = .ok (.ireturn, 1))
      | 9, h1, h2 =>
        obtain rfl := Option.some.inj h1
        obtain rfl := Option.some.inj h2
        refine ⟨119, by decide, ?_⟩
        exact fun _ _ _ h => h
      | 10, h1, h2 =>
        obtain rfl := Option.some.inj h1
        obtain rfl := Option.some.inj h2
        refine ⟨119, by decide, ?_⟩
        exact fun _ _ _ h => h
      | 11, h1, h2 =>
        obtain rfl := Option.some.inj h1
        obtain rfl := Option.some.inj h2
        refine ⟨116, by decide, ?_⟩
        refine as_bipush X (by decide +kernel : decode cX9_sortOf 116 = .ok (.bipush 10, 2)) rfl ?_
        exact as_ri X hQ hr (by decide +kernel : decode cX9_sortOf 118 = .ok (.ireturn, 1))
      | 12, h1, h2 =>
        obtain rfl := Option.some.inj h1
        obtain rfl := Option.some.inj h2
        refine ⟨119, by decide, ?_⟩
        exact fun _ _ _ h => h
      | 13, h1, h2 =>
        obtain rfl := Option.some.inj h1
        obtain rfl := Option.some.inj h2
        refine ⟨102, by decide, ?_⟩
        refine as_iconst X (by decide +kernel : decode cX9_sortOf 102 = .ok (.iconst 5, 1)) rfl ?_
        exact as_ri X hQ hr (by decide +kernel : decode cX9_sortOf 103 = .ok (.ireturn, 1))
      | 14, h1, h2 =>
        obtain rfl := Option.some.inj h1
        obtain rfl := Option.some.inj h2
        refine ⟨119, by decide, ?_⟩
        exact fun _ _ _ h => h
      | 15, h1, h2 =>
        obtain rfl := Option.some.inj h1
        obtain rfl := Option.some.inj h2
        refine ⟨119, by decide, ?_⟩
        exact fun _ _ _ h => h
      | 16, h1, h2 =>
        obtain rfl := Option.some.inj h1
        obtain rfl := Option.some.inj h2
        refine ⟨119, by decide, ?_⟩
        exact fun _ _ _ h => h
      | 17, h1, h2 =>
        obtain rfl := Option.some.inj h1
        obtain rfl := Option.some.inj h2
        refine ⟨96, by decide, ?_⟩
        refine as_iconst X (by decide +kernel : decode cX9_sortOf 96 = .ok (.iconst 2, 1)) rfl ?_
        exact as_ri X hQ hr (by decide +kernel : decode cX9_sortOf 97 = .ok (.ireturn, 1))
      | 18, h1, h2 =>
        obtain rfl := Option.some.inj h1
        obtain rfl := Option.some.inj h2
        refine ⟨119, by decide, ?_⟩
        exact fun _ _ _ h => h
      | 19, h1, h2 =>
        obtain rfl := Option.some.inj h1
        obtain rfl := Option.some.inj h2
        refine ⟨110, by decide, ?_⟩
        refine as_bipush X (by decide +kernel : decode cX9_sortOf 110 = .ok (.bipush 8, 2)) rfl ?_
        exact as_ri X hQ hr (by decide +kernel : decode cX9_sortOf 112 = .ok (.ireturn, 1))
      | i + 20, h1, h2 => exact absurd h2 (by simp)
  · unfold B_X9_sortOf_119
    refine as_iconst X (by decide +kernel : decode cX9_sortOf 119 = .ok (.iconst 0, 1)) rfl ?_
    exact as_ri X hQ hr (by decide +kernel : decode cX9_sortOf 120 = .ok (.ireturn, 1))

def B_X9_readsEntry_0 (kX9_small : am_T) (kX9_letterAt : am_T) (kX9_sortOf : am_T) (Q : am_Q) (G : Nat → am_K) : am_K := (ak_al 0 (ak_get 7 6 (ak_c (.int 24) (ak_ic (fun x y => y ≤ x) (ak_c (.int 24) (G 18)) (ak_al 0 (ak_get 7 6 (G 18)))))))
def B_X9_readsEntry_18 (kX9_small : am_T) (kX9_letterAt : am_T) (kX9_sortOf : am_T) (Q : am_Q) (G : Nat → am_K) : am_K := (ak_is 2 (ak_al 0 (ak_il 1 (ak_c (.int 7) (ak_al 0 (ak_get 7 7 (ak_c (.int 8) (ak_il 2 (ak_ib (fun x y => x * y) (ak_cv 5 7 kX9_small (ak_is 3 (ak_il 3 (ak_il 1 (ak_ic (fun x y => x = y) (ak_c (.int (-1)) (ak_ri Q)) (ak_al 0 (ak_get 7 9 (ak_il 2 (ak_c (.int 0) (ak_iast (ak_al 0 (ak_get 7 8 (ak_c (.int 9) (ak_il 2 (ak_ib (fun x y => x * y) (ak_c (.int 0) (ak_iast (ak_al 0 (ak_il 3 (ak_cv 2 7 kX9_letterAt (ak_c (.int 61) (ak_ic (fun x y => x = y) (ak_al 0 (ak_il 3 (ak_c (.int 1) (ak_ib (fun x y => x + y) (ak_c (.int 8) (ak_al 0 (ak_get 7 8 (ak_c (.int 9) (ak_il 2 (ak_ib (fun x y => x * y) (ak_cv 5 7 kX9_small (ak_is 4 (G 88))))))))))))) (ak_al 0 (ak_il 3 (ak_cv 2 7 kX9_letterAt (ak_c (.int 47) (ak_ic (fun x y => x = y) (ak_al 0 (ak_get 7 9 (ak_il 2 (ak_al 0 (ak_al 0 (ak_il 3 (ak_c (.int 1) (ak_ib (fun x y => x + y) (ak_cv 2 7 kX9_letterAt (ak_cv 2 7 kX9_sortOf (ak_iast (ak_al 0 (ak_get 7 9 (ak_il 2 (ak_iald (ak_if (fun x => x = 0) (ak_c (.int (-1)) (ak_ri Q)) (ak_ii 3 2 (G 150)))))))))))))))))) (ak_c (.int (-1)) (ak_ri Q))))))))))))))))))))))))))))))))))))))
def B_X9_readsEntry_88 (kX9_small : am_T) (kX9_letterAt : am_T) (kX9_sortOf : am_T) (Q : am_Q) (G : Nat → am_K) : am_K := (ak_il 4 (ak_il 3 (ak_c (.int 1) (ak_ib (fun x y => x + y) (ak_ic (fun x y => x = y) (ak_c (.int (-1)) (ak_ri Q)) (ak_il 4 (ak_is 3 (G 150))))))))
def B_X9_readsEntry_150 (kX9_small : am_T) (kX9_letterAt : am_T) (kX9_sortOf : am_T) (Q : am_Q) (G : Nat → am_K) : am_K := (ak_al 0 (ak_il 3 (ak_cv 2 7 kX9_letterAt (ak_c (.int 59) (ak_ic (fun x y => x = y) (ak_il 3 (ak_c (.int 1) (ak_ib (fun x y => x + y) (G 167)))) (ak_c (.int (-1)) (G 167)))))))
def B_X9_readsEntry_167 (kX9_small : am_T) (kX9_letterAt : am_T) (kX9_sortOf : am_T) (Q : am_Q) (G : Nat → am_K) : am_K := (ak_ri Q)
def cl_X9_readsEntry (kX9_small : am_T) (kX9_letterAt : am_T) (kX9_sortOf : am_T) (Q : am_Q) (G : Nat → am_K) : Prop := am_N G 0 (B_X9_readsEntry_0 kX9_small kX9_letterAt kX9_sortOf Q G) ∧ am_N G 18 (B_X9_readsEntry_18 kX9_small kX9_letterAt kX9_sortOf Q G) ∧ am_N G 88 (B_X9_readsEntry_88 kX9_small kX9_letterAt kX9_sortOf Q G) ∧ am_N G 150 (B_X9_readsEntry_150 kX9_small kX9_letterAt kX9_sortOf Q G) ∧ am_N G 167 (B_X9_readsEntry_167 kX9_small kX9_letterAt kX9_sortOf Q G)
def WP_X9_readsEntry (kX9_small : am_T) (kX9_letterAt : am_T) (kX9_sortOf : am_T) : am_T := fun av h Q => (lg_sl av).length ≤ 5 ∧ ∀ G, cl_X9_readsEntry kX9_small kX9_letterAt kX9_sortOf Q G → G 0 (am_ent 5 av) [] h
set_option maxHeartbeats 4000000 in
set_option maxRecDepth 100000 in
theorem s_X9_readsEntry {mX9_small : Room} {kX9_small : am_T} (h_X9_small : am_S false yX9_small (am_ws yX9_small cX9_small 6 (some .int)) mX9_small kX9_small) {mX9_letterAt : Room} {kX9_letterAt : am_T} (h_X9_letterAt : am_S false yX9_letterAt (am_ws yX9_letterAt cX9_letterAt 2 (some .int)) mX9_letterAt kX9_letterAt) {mX9_sortOf : Room} {kX9_sortOf : am_T} (h_X9_sortOf : am_S false yX9_sortOf (am_ws yX9_sortOf cX9_sortOf 2 (some .int)) mX9_sortOf kX9_sortOf) {rm : Room} (hz : rm.cells = 0 ∧ rm.slots = 0) (R_X9_small : mX9_small.frames + 1 ≤ rm.frames ∧ 8 + (6 + 11) + mX9_small.locals ≤ rm.locals) (R_X9_letterAt : mX9_letterAt.frames + 1 ≤ rm.frames ∧ 8 + (2 + 11) + mX9_letterAt.locals ≤ rm.locals) (R_X9_sortOf : mX9_sortOf.frames + 1 ≤ rm.frames ∧ 8 + (2 + 11) + mX9_sortOf.locals ≤ rm.locals) : am_S false yX9_readsEntry (am_ws yX9_readsEntry cX9_readsEntry 5 (some .int)) rm (WP_X9_readsEntry kX9_small kX9_letterAt kX9_sortOf) := by
  refine am_S.of (fun _ => hz) (by decide +kernel) (fun h0 Q G => cl_X9_readsEntry kX9_small kX9_letterAt kX9_sortOf Q G) ?_
  intro p l e s m args below meth c D h0 Q X hr hnm hQ
  refine ⟨?_, ?_, ?_, ?_, ?_⟩
  · unfold B_X9_readsEntry_0
    refine as_aload_n X (by decide +kernel : decode cX9_readsEntry 0 = .ok (.aload_n 0, 1)) rfl ?_
    refine as_get X fc_X9 (by decide +kernel : decode cX9_readsEntry 1 = .ok (.getfield 106, 3)) (by decide) fl_X9_106 ?_
    refine as_bipush X (by decide +kernel : decode cX9_readsEntry 4 = .ok (.bipush 24, 2)) rfl ?_
    refine as_ic_ge X (tgt := 16) (by decide +kernel : decode cX9_readsEntry 6 = .ok (.if_icmp .ge 10, 3)) (by decide) ?_ ?_
    · refine as_bipush X (by decide +kernel : decode cX9_readsEntry 16 = .ok (.bipush 24, 2)) rfl ?_
      exact fun _ _ _ h => h
    · refine as_aload_n X (by decide +kernel : decode cX9_readsEntry 9 = .ok (.aload_n 0, 1)) rfl ?_
      refine as_get X fc_X9 (by decide +kernel : decode cX9_readsEntry 10 = .ok (.getfield 106, 3)) (by decide) fl_X9_106 ?_
      refine as_goto X (tgt := 18) (by decide +kernel : decode cX9_readsEntry 13 = .ok (.goto 5, 3)) (by decide) ?_
      exact fun _ _ _ h => h
  · unfold B_X9_readsEntry_18
    refine as_istore_n X (by decide +kernel : decode cX9_readsEntry 18 = .ok (.istore_n 2, 1)) rfl ?_
    refine as_aload_n X (by decide +kernel : decode cX9_readsEntry 19 = .ok (.aload_n 0, 1)) rfl ?_
    refine as_iload_n X (by decide +kernel : decode cX9_readsEntry 20 = .ok (.iload_n 1, 1)) rfl ?_
    refine as_bipush X (by decide +kernel : decode cX9_readsEntry 21 = .ok (.bipush 7, 2)) rfl ?_
    refine as_aload_n X (by decide +kernel : decode cX9_readsEntry 23 = .ok (.aload_n 0, 1)) rfl ?_
    refine as_get X fc_X9 (by decide +kernel : decode cX9_readsEntry 24 = .ok (.getfield 22, 3)) (by decide) fl_X9_22 ?_
    refine as_bipush X (by decide +kernel : decode cX9_readsEntry 27 = .ok (.bipush 8, 2)) rfl ?_
    refine as_iload_n X (by decide +kernel : decode cX9_readsEntry 29 = .ok (.iload_n 2, 1)) rfl ?_
    refine as_imul X (by decide +kernel : decode cX9_readsEntry 30 = .ok (.imul, 1)) ?_
    refine as_cv X h_X9_small rfl (by decide +kernel : decode cX9_readsEntry 31 = .ok (.invokevirtual 109, 3)) dn_X9_small ml_X9_109 im_X9_small se_X9_small ini_X9 co_X9_small R_X9_small ?_
    refine as_istore_n X (by decide +kernel : decode cX9_readsEntry 34 = .ok (.istore_n 3, 1)) rfl ?_
    refine as_iload_n X (by decide +kernel : decode cX9_readsEntry 35 = .ok (.iload_n 3, 1)) rfl ?_
    refine as_iload_n X (by decide +kernel : decode cX9_readsEntry 36 = .ok (.iload_n 1, 1)) rfl ?_
    refine as_ic_ne X (tgt := 42) (by decide +kernel : decode cX9_readsEntry 37 = .ok (.if_icmp .ne 5, 3)) (by decide) ?_ ?_
    · refine as_iconst X (by decide +kernel : decode cX9_readsEntry 40 = .ok (.iconst (-1), 1)) rfl ?_
      exact as_ri X hQ hr (by decide +kernel : decode cX9_readsEntry 41 = .ok (.ireturn, 1))
    · refine as_aload_n X (by decide +kernel : decode cX9_readsEntry 42 = .ok (.aload_n 0, 1)) rfl ?_
      refine as_get X fc_X9 (by decide +kernel : decode cX9_readsEntry 43 = .ok (.getfield 28, 3)) (by decide) fl_X9_28 ?_
      refine as_iload_n X (by decide +kernel : decode cX9_readsEntry 46 = .ok (.iload_n 2, 1)) rfl ?_
      refine as_iconst X (by decide +kernel : decode cX9_readsEntry 47 = .ok (.iconst 0, 1)) rfl ?_
      refine as_iastore X (by decide +kernel : decode cX9_readsEntry 48 = .ok (.iastore, 1)) ?_
      refine as_aload_n X (by decide +kernel : decode cX9_readsEntry 49 = .ok (.aload_n 0, 1)) rfl ?_
      refine as_get X fc_X9 (by decide +kernel : decode cX9_readsEntry 50 = .ok (.getfield 25, 3)) (by decide) fl_X9_25 ?_
      refine as_bipush X (by decide +kernel : decode cX9_readsEntry 53 = .ok (.bipush 9, 2)) rfl ?_
      refine as_iload_n X (by decide +kernel : decode cX9_readsEntry 55 = .ok (.iload_n 2, 1)) rfl ?_
      refine as_imul X (by decide +kernel : decode cX9_readsEntry 56 = .ok (.imul, 1)) ?_
      refine as_iconst X (by decide +kernel : decode cX9_readsEntry 57 = .ok (.iconst 0, 1)) rfl ?_
      refine as_iastore X (by decide +kernel : decode cX9_readsEntry 58 = .ok (.iastore, 1)) ?_
      refine as_aload_n X (by decide +kernel : decode cX9_readsEntry 59 = .ok (.aload_n 0, 1)) rfl ?_
      refine as_iload_n X (by decide +kernel : decode cX9_readsEntry 60 = .ok (.iload_n 3, 1)) rfl ?_
      refine as_cv X h_X9_letterAt rfl (by decide +kernel : decode cX9_readsEntry 61 = .ok (.invokevirtual 99, 3)) dn_X9_letterAt ml_X9_99 im_X9_letterAt se_X9_letterAt ini_X9 co_X9_letterAt R_X9_letterAt ?_
      refine as_bipush X (by decide +kernel : decode cX9_readsEntry 64 = .ok (.bipush 61, 2)) rfl ?_
      refine as_ic_ne X (tgt := 104) (by decide +kernel : decode cX9_readsEntry 66 = .ok (.if_icmp .ne 38, 3)) (by decide) ?_ ?_
      · refine as_aload_n X (by decide +kernel : decode cX9_readsEntry 69 = .ok (.aload_n 0, 1)) rfl ?_
        refine as_iload_n X (by decide +kernel : decode cX9_readsEntry 70 = .ok (.iload_n 3, 1)) rfl ?_
        refine as_iconst X (by decide +kernel : decode cX9_readsEntry 71 = .ok (.iconst 1, 1)) rfl ?_
        refine as_iadd X (by decide +kernel : decode cX9_readsEntry 72 = .ok (.iadd, 1)) ?_
        refine as_bipush X (by decide +kernel : decode cX9_readsEntry 73 = .ok (.bipush 8, 2)) rfl ?_
        refine as_aload_n X (by decide +kernel : decode cX9_readsEntry 75 = .ok (.aload_n 0, 1)) rfl ?_
        refine as_get X fc_X9 (by decide +kernel : decode cX9_readsEntry 76 = .ok (.getfield 25, 3)) (by decide) fl_X9_25 ?_
        refine as_bipush X (by decide +kernel : decode cX9_readsEntry 79 = .ok (.bipush 9, 2)) rfl ?_
        refine as_iload_n X (by decide +kernel : decode cX9_readsEntry 81 = .ok (.iload_n 2, 1)) rfl ?_
        refine as_imul X (by decide +kernel : decode cX9_readsEntry 82 = .ok (.imul, 1)) ?_
        refine as_cv X h_X9_small rfl (by decide +kernel : decode cX9_readsEntry 83 = .ok (.invokevirtual 109, 3)) dn_X9_small ml_X9_109 im_X9_small se_X9_small ini_X9 co_X9_small R_X9_small ?_
        refine as_istore X (by decide +kernel : decode cX9_readsEntry 86 = .ok (.istore 4, 2)) ?_
        exact fun _ _ _ h => h
      · refine as_aload_n X (by decide +kernel : decode cX9_readsEntry 104 = .ok (.aload_n 0, 1)) rfl ?_
        refine as_iload_n X (by decide +kernel : decode cX9_readsEntry 105 = .ok (.iload_n 3, 1)) rfl ?_
        refine as_cv X h_X9_letterAt rfl (by decide +kernel : decode cX9_readsEntry 106 = .ok (.invokevirtual 99, 3)) dn_X9_letterAt ml_X9_99 im_X9_letterAt se_X9_letterAt ini_X9 co_X9_letterAt R_X9_letterAt ?_
        refine as_bipush X (by decide +kernel : decode cX9_readsEntry 109 = .ok (.bipush 47, 2)) rfl ?_
        refine as_ic_ne X (tgt := 148) (by decide +kernel : decode cX9_readsEntry 111 = .ok (.if_icmp .ne 37, 3)) (by decide) ?_ ?_
        · refine as_aload_n X (by decide +kernel : decode cX9_readsEntry 114 = .ok (.aload_n 0, 1)) rfl ?_
          refine as_get X fc_X9 (by decide +kernel : decode cX9_readsEntry 115 = .ok (.getfield 28, 3)) (by decide) fl_X9_28 ?_
          refine as_iload_n X (by decide +kernel : decode cX9_readsEntry 118 = .ok (.iload_n 2, 1)) rfl ?_
          refine as_aload_n X (by decide +kernel : decode cX9_readsEntry 119 = .ok (.aload_n 0, 1)) rfl ?_
          refine as_aload_n X (by decide +kernel : decode cX9_readsEntry 120 = .ok (.aload_n 0, 1)) rfl ?_
          refine as_iload_n X (by decide +kernel : decode cX9_readsEntry 121 = .ok (.iload_n 3, 1)) rfl ?_
          refine as_iconst X (by decide +kernel : decode cX9_readsEntry 122 = .ok (.iconst 1, 1)) rfl ?_
          refine as_iadd X (by decide +kernel : decode cX9_readsEntry 123 = .ok (.iadd, 1)) ?_
          refine as_cv X h_X9_letterAt rfl (by decide +kernel : decode cX9_readsEntry 124 = .ok (.invokevirtual 99, 3)) dn_X9_letterAt ml_X9_99 im_X9_letterAt se_X9_letterAt ini_X9 co_X9_letterAt R_X9_letterAt ?_
          refine as_cv X h_X9_sortOf rfl (by decide +kernel : decode cX9_readsEntry 127 = .ok (.invokevirtual 113, 3)) dn_X9_sortOf ml_X9_113 im_X9_sortOf se_X9_sortOf ini_X9 co_X9_sortOf R_X9_sortOf ?_
          refine as_iastore X (by decide +kernel : decode cX9_readsEntry 130 = .ok (.iastore, 1)) ?_
          refine as_aload_n X (by decide +kernel : decode cX9_readsEntry 131 = .ok (.aload_n 0, 1)) rfl ?_
          refine as_get X fc_X9 (by decide +kernel : decode cX9_readsEntry 132 = .ok (.getfield 28, 3)) (by decide) fl_X9_28 ?_
          refine as_iload_n X (by decide +kernel : decode cX9_readsEntry 135 = .ok (.iload_n 2, 1)) rfl ?_
          refine as_iaload X (by decide +kernel : decode cX9_readsEntry 136 = .ok (.iaload, 1)) ?_
          refine as_if_ne X (tgt := 142) (by decide +kernel : decode cX9_readsEntry 137 = .ok (.ifCond .ne 5, 3)) (by decide) ?_ ?_
          · refine as_iconst X (by decide +kernel : decode cX9_readsEntry 140 = .ok (.iconst (-1), 1)) rfl ?_
            exact as_ri X hQ hr (by decide +kernel : decode cX9_readsEntry 141 = .ok (.ireturn, 1))
          · refine as_iinc X (by decide +kernel : decode cX9_readsEntry 142 = .ok (.iinc 3 2, 3)) rfl ?_
            refine as_goto X (tgt := 150) (by decide +kernel : decode cX9_readsEntry 145 = .ok (.goto 5, 3)) (by decide) ?_
            exact fun _ _ _ h => h
        · refine as_iconst X (by decide +kernel : decode cX9_readsEntry 148 = .ok (.iconst (-1), 1)) rfl ?_
          exact as_ri X hQ hr (by decide +kernel : decode cX9_readsEntry 149 = .ok (.ireturn, 1))
  · unfold B_X9_readsEntry_88
    refine as_iload X (by decide +kernel : decode cX9_readsEntry 88 = .ok (.iload 4, 2)) ?_
    refine as_iload_n X (by decide +kernel : decode cX9_readsEntry 90 = .ok (.iload_n 3, 1)) rfl ?_
    refine as_iconst X (by decide +kernel : decode cX9_readsEntry 91 = .ok (.iconst 1, 1)) rfl ?_
    refine as_iadd X (by decide +kernel : decode cX9_readsEntry 92 = .ok (.iadd, 1)) ?_
    refine as_ic_ne X (tgt := 98) (by decide +kernel : decode cX9_readsEntry 93 = .ok (.if_icmp .ne 5, 3)) (by decide) ?_ ?_
    · refine as_iconst X (by decide +kernel : decode cX9_readsEntry 96 = .ok (.iconst (-1), 1)) rfl ?_
      exact as_ri X hQ hr (by decide +kernel : decode cX9_readsEntry 97 = .ok (.ireturn, 1))
    · refine as_iload X (by decide +kernel : decode cX9_readsEntry 98 = .ok (.iload 4, 2)) ?_
      refine as_istore_n X (by decide +kernel : decode cX9_readsEntry 100 = .ok (.istore_n 3, 1)) rfl ?_
      refine as_goto X (tgt := 150) (by decide +kernel : decode cX9_readsEntry 101 = .ok (.goto 49, 3)) (by decide) ?_
      exact fun _ _ _ h => h
  · unfold B_X9_readsEntry_150
    refine as_aload_n X (by decide +kernel : decode cX9_readsEntry 150 = .ok (.aload_n 0, 1)) rfl ?_
    refine as_iload_n X (by decide +kernel : decode cX9_readsEntry 151 = .ok (.iload_n 3, 1)) rfl ?_
    refine as_cv X h_X9_letterAt rfl (by decide +kernel : decode cX9_readsEntry 152 = .ok (.invokevirtual 99, 3)) dn_X9_letterAt ml_X9_99 im_X9_letterAt se_X9_letterAt ini_X9 co_X9_letterAt R_X9_letterAt ?_
    refine as_bipush X (by decide +kernel : decode cX9_readsEntry 155 = .ok (.bipush 59, 2)) rfl ?_
    refine as_ic_ne X (tgt := 166) (by decide +kernel : decode cX9_readsEntry 157 = .ok (.if_icmp .ne 9, 3)) (by decide) ?_ ?_
    · refine as_iload_n X (by decide +kernel : decode cX9_readsEntry 160 = .ok (.iload_n 3, 1)) rfl ?_
      refine as_iconst X (by decide +kernel : decode cX9_readsEntry 161 = .ok (.iconst 1, 1)) rfl ?_
      refine as_iadd X (by decide +kernel : decode cX9_readsEntry 162 = .ok (.iadd, 1)) ?_
      refine as_goto X (tgt := 167) (by decide +kernel : decode cX9_readsEntry 163 = .ok (.goto 4, 3)) (by decide) ?_
      exact fun _ _ _ h => h
    · refine as_iconst X (by decide +kernel : decode cX9_readsEntry 166 = .ok (.iconst (-1), 1)) rfl ?_
      exact fun _ _ _ h => h
  · unfold B_X9_readsEntry_167
    exact as_ri X hQ hr (by decide +kernel : decode cX9_readsEntry 167 = .ok (.ireturn, 1))

def B_X9_isThere_0 (kX9_isLike : am_T) (Q : am_Q) (G : Nat → am_K) : am_K := (ak_c (.int 0) (ak_is 2 (G 2)))
def B_X9_isThere_2 (kX9_isLike : am_T) (Q : am_Q) (G : Nat → am_K) : am_K := (ak_il 2 (ak_al 0 (ak_get 7 2 (ak_ic (fun x y => y ≤ x) (ak_c (.int 0) (ak_is 2 (G 79))) (ak_al 0 (ak_get 7 3 (ak_c (.int 8) (ak_il 2 (ak_ib (fun x y => x * y) (ak_al 0 (ak_get 7 7 (ak_c (.int 8) (ak_il 1 (ak_ib (fun x y => x * y) (ak_cs 4 kX9_isLike (ak_if (fun x => x = 0) (G 71) (ak_al 0 (ak_get 7 4 (ak_c (.int 9) (ak_il 2 (ak_ib (fun x y => x * y) (ak_al 0 (ak_get 7 8 (ak_c (.int 9) (ak_il 1 (ak_ib (fun x y => x * y) (ak_cs 4 kX9_isLike (ak_if (fun x => x = 0) (G 71) (ak_al 0 (ak_get 7 5 (ak_il 2 (ak_iald (ak_al 0 (ak_get 7 9 (ak_il 1 (ak_iald (ak_ic (fun x y => x = y) (ak_c (.int 1) (ak_rz Q)) (G 71))))))))))))))))))))))))))))))))))))))
def B_X9_isThere_71 (kX9_isLike : am_T) (Q : am_Q) (G : Nat → am_K) : am_K := (ak_ii 2 1 (G 2))
def B_X9_isThere_79 (kX9_isLike : am_T) (Q : am_Q) (G : Nat → am_K) : am_K := (ak_il 2 (ak_al 0 (ak_get 7 6 (ak_ic (fun x y => y ≤ x) (G 159) (ak_il 2 (ak_il 1 (ak_ic (fun x y => y ≤ x) (G 159) (ak_al 0 (ak_get 7 7 (ak_c (.int 8) (ak_il 2 (ak_ib (fun x y => x * y) (ak_al 0 (ak_get 7 7 (ak_c (.int 8) (ak_il 1 (ak_ib (fun x y => x * y) (ak_cs 4 kX9_isLike (ak_if (fun x => x = 0) (G 153) (ak_al 0 (ak_get 7 8 (ak_c (.int 9) (ak_il 2 (ak_ib (fun x y => x * y) (ak_al 0 (ak_get 7 8 (ak_c (.int 9) (ak_il 1 (ak_ib (fun x y => x * y) (ak_cs 4 kX9_isLike (ak_if (fun x => x = 0) (G 153) (ak_al 0 (ak_get 7 9 (ak_il 2 (ak_iald (ak_al 0 (ak_get 7 9 (ak_il 1 (ak_iald (ak_ic (fun x y => x = y) (ak_c (.int 1) (ak_rz Q)) (G 153)))))))))))))))))))))))))))))))))))))))))
def B_X9_isThere_153 (kX9_isLike : am_T) (Q : am_Q) (G : Nat → am_K) : am_K := (ak_ii 2 1 (G 79))
def B_X9_isThere_159 (kX9_isLike : am_T) (Q : am_Q) (G : Nat → am_K) : am_K := (ak_c (.int 0) (ak_rz Q))
def cl_X9_isThere (kX9_isLike : am_T) (Q : am_Q) (G : Nat → am_K) : Prop := am_N G 0 (B_X9_isThere_0 kX9_isLike Q G) ∧ am_N G 2 (B_X9_isThere_2 kX9_isLike Q G) ∧ am_N G 71 (B_X9_isThere_71 kX9_isLike Q G) ∧ am_N G 79 (B_X9_isThere_79 kX9_isLike Q G) ∧ am_N G 153 (B_X9_isThere_153 kX9_isLike Q G) ∧ am_N G 159 (B_X9_isThere_159 kX9_isLike Q G)
def WP_X9_isThere (kX9_isLike : am_T) : am_T := fun av h Q => (lg_sl av).length ≤ 3 ∧ ∀ G, cl_X9_isThere kX9_isLike Q G → G 0 (am_ent 3 av) [] h
set_option maxHeartbeats 4000000 in
set_option maxRecDepth 100000 in
theorem s_X9_isThere {mX9_isLike : Room} {kX9_isLike : am_T} (h_X9_isLike : am_S false yX9_isLike (am_ws yX9_isLike cX9_isLike 6 (some .boolean)) mX9_isLike kX9_isLike) {rm : Room} (hz : rm.cells = 0 ∧ rm.slots = 0) (R_X9_isLike : mX9_isLike.frames + 1 ≤ rm.frames ∧ 8 + (6 + 11) + mX9_isLike.locals ≤ rm.locals) : am_S false yX9_isThere (am_ws yX9_isThere cX9_isThere 3 (some .boolean)) rm (WP_X9_isThere kX9_isLike) := by
  refine am_S.of (fun _ => hz) (by decide +kernel) (fun h0 Q G => cl_X9_isThere kX9_isLike Q G) ?_
  intro p l e s m args below meth c D h0 Q X hr hnm hQ
  refine ⟨?_, ?_, ?_, ?_, ?_, ?_⟩
  · unfold B_X9_isThere_0
    refine as_iconst X (by decide +kernel : decode cX9_isThere 0 = .ok (.iconst 0, 1)) rfl ?_
    refine as_istore_n X (by decide +kernel : decode cX9_isThere 1 = .ok (.istore_n 2, 1)) rfl ?_
    exact fun _ _ _ h => h
  · unfold B_X9_isThere_2
    refine as_iload_n X (by decide +kernel : decode cX9_isThere 2 = .ok (.iload_n 2, 1)) rfl ?_
    refine as_aload_n X (by decide +kernel : decode cX9_isThere 3 = .ok (.aload_n 0, 1)) rfl ?_
    refine as_get X fc_X9 (by decide +kernel : decode cX9_isThere 4 = .ok (.getfield 116, 3)) (by decide) fl_X9_116 ?_
    refine as_ic_ge X (tgt := 77) (by decide +kernel : decode cX9_isThere 7 = .ok (.if_icmp .ge 70, 3)) (by decide) ?_ ?_
    · refine as_iconst X (by decide +kernel : decode cX9_isThere 77 = .ok (.iconst 0, 1)) rfl ?_
      refine as_istore_n X (by decide +kernel : decode cX9_isThere 78 = .ok (.istore_n 2, 1)) rfl ?_
      exact fun _ _ _ h => h
    · refine as_aload_n X (by decide +kernel : decode cX9_isThere 10 = .ok (.aload_n 0, 1)) rfl ?_
      refine as_get X fc_X9 (by decide +kernel : decode cX9_isThere 11 = .ok (.getfield 13, 3)) (by decide) fl_X9_13 ?_
      refine as_bipush X (by decide +kernel : decode cX9_isThere 14 = .ok (.bipush 8, 2)) rfl ?_
      refine as_iload_n X (by decide +kernel : decode cX9_isThere 16 = .ok (.iload_n 2, 1)) rfl ?_
      refine as_imul X (by decide +kernel : decode cX9_isThere 17 = .ok (.imul, 1)) ?_
      refine as_aload_n X (by decide +kernel : decode cX9_isThere 18 = .ok (.aload_n 0, 1)) rfl ?_
      refine as_get X fc_X9 (by decide +kernel : decode cX9_isThere 19 = .ok (.getfield 22, 3)) (by decide) fl_X9_22 ?_
      refine as_bipush X (by decide +kernel : decode cX9_isThere 22 = .ok (.bipush 8, 2)) rfl ?_
      refine as_iload_n X (by decide +kernel : decode cX9_isThere 24 = .ok (.iload_n 1, 1)) rfl ?_
      refine as_imul X (by decide +kernel : decode cX9_isThere 25 = .ok (.imul, 1)) ?_
      refine as_cs X h_X9_isLike (by decide +kernel : decode cX9_isThere 26 = .ok (.invokestatic 119, 3)) dn_X9_isLike ml_X9_119 st_X9_isLike ini_X9 co_X9_isLike R_X9_isLike ?_
      refine as_if_eq X (tgt := 71) (by decide +kernel : decode cX9_isThere 29 = .ok (.ifCond .eq 42, 3)) (by decide) ?_ ?_
      · exact fun _ _ _ h => h
      · refine as_aload_n X (by decide +kernel : decode cX9_isThere 32 = .ok (.aload_n 0, 1)) rfl ?_
        refine as_get X fc_X9 (by decide +kernel : decode cX9_isThere 33 = .ok (.getfield 16, 3)) (by decide) fl_X9_16 ?_
        refine as_bipush X (by decide +kernel : decode cX9_isThere 36 = .ok (.bipush 9, 2)) rfl ?_
        refine as_iload_n X (by decide +kernel : decode cX9_isThere 38 = .ok (.iload_n 2, 1)) rfl ?_
        refine as_imul X (by decide +kernel : decode cX9_isThere 39 = .ok (.imul, 1)) ?_
        refine as_aload_n X (by decide +kernel : decode cX9_isThere 40 = .ok (.aload_n 0, 1)) rfl ?_
        refine as_get X fc_X9 (by decide +kernel : decode cX9_isThere 41 = .ok (.getfield 25, 3)) (by decide) fl_X9_25 ?_
        refine as_bipush X (by decide +kernel : decode cX9_isThere 44 = .ok (.bipush 9, 2)) rfl ?_
        refine as_iload_n X (by decide +kernel : decode cX9_isThere 46 = .ok (.iload_n 1, 1)) rfl ?_
        refine as_imul X (by decide +kernel : decode cX9_isThere 47 = .ok (.imul, 1)) ?_
        refine as_cs X h_X9_isLike (by decide +kernel : decode cX9_isThere 48 = .ok (.invokestatic 119, 3)) dn_X9_isLike ml_X9_119 st_X9_isLike ini_X9 co_X9_isLike R_X9_isLike ?_
        refine as_if_eq X (tgt := 71) (by decide +kernel : decode cX9_isThere 51 = .ok (.ifCond .eq 20, 3)) (by decide) ?_ ?_
        · exact fun _ _ _ h => h
        · refine as_aload_n X (by decide +kernel : decode cX9_isThere 54 = .ok (.aload_n 0, 1)) rfl ?_
          refine as_get X fc_X9 (by decide +kernel : decode cX9_isThere 55 = .ok (.getfield 19, 3)) (by decide) fl_X9_19 ?_
          refine as_iload_n X (by decide +kernel : decode cX9_isThere 58 = .ok (.iload_n 2, 1)) rfl ?_
          refine as_iaload X (by decide +kernel : decode cX9_isThere 59 = .ok (.iaload, 1)) ?_
          refine as_aload_n X (by decide +kernel : decode cX9_isThere 60 = .ok (.aload_n 0, 1)) rfl ?_
          refine as_get X fc_X9 (by decide +kernel : decode cX9_isThere 61 = .ok (.getfield 28, 3)) (by decide) fl_X9_28 ?_
          refine as_iload_n X (by decide +kernel : decode cX9_isThere 64 = .ok (.iload_n 1, 1)) rfl ?_
          refine as_iaload X (by decide +kernel : decode cX9_isThere 65 = .ok (.iaload, 1)) ?_
          refine as_ic_ne X (tgt := 71) (by decide +kernel : decode cX9_isThere 66 = .ok (.if_icmp .ne 5, 3)) (by decide) ?_ ?_
          · refine as_iconst X (by decide +kernel : decode cX9_isThere 69 = .ok (.iconst 1, 1)) rfl ?_
            exact as_rz X hQ hr (by decide +kernel : decode cX9_isThere 70 = .ok (.ireturn, 1))
          · exact fun _ _ _ h => h
  · unfold B_X9_isThere_71
    refine as_iinc X (by decide +kernel : decode cX9_isThere 71 = .ok (.iinc 2 1, 3)) rfl ?_
    refine as_goto X (tgt := 2) (by decide +kernel : decode cX9_isThere 74 = .ok (.goto (-72), 3)) (by decide) ?_
    exact fun _ _ _ h => h
  · unfold B_X9_isThere_79
    refine as_iload_n X (by decide +kernel : decode cX9_isThere 79 = .ok (.iload_n 2, 1)) rfl ?_
    refine as_aload_n X (by decide +kernel : decode cX9_isThere 80 = .ok (.aload_n 0, 1)) rfl ?_
    refine as_get X fc_X9 (by decide +kernel : decode cX9_isThere 81 = .ok (.getfield 106, 3)) (by decide) fl_X9_106 ?_
    refine as_ic_ge X (tgt := 159) (by decide +kernel : decode cX9_isThere 84 = .ok (.if_icmp .ge 75, 3)) (by decide) ?_ ?_
    · exact fun _ _ _ h => h
    · refine as_iload_n X (by decide +kernel : decode cX9_isThere 87 = .ok (.iload_n 2, 1)) rfl ?_
      refine as_iload_n X (by decide +kernel : decode cX9_isThere 88 = .ok (.iload_n 1, 1)) rfl ?_
      refine as_ic_ge X (tgt := 159) (by decide +kernel : decode cX9_isThere 89 = .ok (.if_icmp .ge 70, 3)) (by decide) ?_ ?_
      · exact fun _ _ _ h => h
      · refine as_aload_n X (by decide +kernel : decode cX9_isThere 92 = .ok (.aload_n 0, 1)) rfl ?_
        refine as_get X fc_X9 (by decide +kernel : decode cX9_isThere 93 = .ok (.getfield 22, 3)) (by decide) fl_X9_22 ?_
        refine as_bipush X (by decide +kernel : decode cX9_isThere 96 = .ok (.bipush 8, 2)) rfl ?_
        refine as_iload_n X (by decide +kernel : decode cX9_isThere 98 = .ok (.iload_n 2, 1)) rfl ?_
        refine as_imul X (by decide +kernel : decode cX9_isThere 99 = .ok (.imul, 1)) ?_
        refine as_aload_n X (by decide +kernel : decode cX9_isThere 100 = .ok (.aload_n 0, 1)) rfl ?_
        refine as_get X fc_X9 (by decide +kernel : decode cX9_isThere 101 = .ok (.getfield 22, 3)) (by decide) fl_X9_22 ?_
        refine as_bipush X (by decide +kernel : decode cX9_isThere 104 = .ok (.bipush 8, 2)) rfl ?_
        refine as_iload_n X (by decide +kernel : decode cX9_isThere 106 = .ok (.iload_n 1, 1)) rfl ?_
        refine as_imul X (by decide +kernel : decode cX9_isThere 107 = .ok (.imul, 1)) ?_
        refine as_cs X h_X9_isLike (by decide +kernel : decode cX9_isThere 108 = .ok (.invokestatic 119, 3)) dn_X9_isLike ml_X9_119 st_X9_isLike ini_X9 co_X9_isLike R_X9_isLike ?_
        refine as_if_eq X (tgt := 153) (by decide +kernel : decode cX9_isThere 111 = .ok (.ifCond .eq 42, 3)) (by decide) ?_ ?_
        · exact fun _ _ _ h => h
        · refine as_aload_n X (by decide +kernel : decode cX9_isThere 114 = .ok (.aload_n 0, 1)) rfl ?_
          refine as_get X fc_X9 (by decide +kernel : decode cX9_isThere 115 = .ok (.getfield 25, 3)) (by decide) fl_X9_25 ?_
          refine as_bipush X (by decide +kernel : decode cX9_isThere 118 = .ok (.bipush 9, 2)) rfl ?_
          refine as_iload_n X (by decide +kernel : decode cX9_isThere 120 = .ok (.iload_n 2, 1)) rfl ?_
          refine as_imul X (by decide +kernel : decode cX9_isThere 121 = .ok (.imul, 1)) ?_
          refine as_aload_n X (by decide +kernel : decode cX9_isThere 122 = .ok (.aload_n 0, 1)) rfl ?_
          refine as_get X fc_X9 (by decide +kernel : decode cX9_isThere 123 = .ok (.getfield 25, 3)) (by decide) fl_X9_25 ?_
          refine as_bipush X (by decide +kernel : decode cX9_isThere 126 = .ok (.bipush 9, 2)) rfl ?_
          refine as_iload_n X (by decide +kernel : decode cX9_isThere 128 = .ok (.iload_n 1, 1)) rfl ?_
          refine as_imul X (by decide +kernel : decode cX9_isThere 129 = .ok (.imul, 1)) ?_
          refine as_cs X h_X9_isLike (by decide +kernel : decode cX9_isThere 130 = .ok (.invokestatic 119, 3)) dn_X9_isLike ml_X9_119 st_X9_isLike ini_X9 co_X9_isLike R_X9_isLike ?_
          refine as_if_eq X (tgt := 153) (by decide +kernel : decode cX9_isThere 133 = .ok (.ifCond .eq 20, 3)) (by decide) ?_ ?_
          · exact fun _ _ _ h => h
          · refine as_aload_n X (by decide +kernel : decode cX9_isThere 136 = .ok (.aload_n 0, 1)) rfl ?_
            refine as_get X fc_X9 (by decide +kernel : decode cX9_isThere 137 = .ok (.getfield 28, 3)) (by decide) fl_X9_28 ?_
            refine as_iload_n X (by decide +kernel : decode cX9_isThere 140 = .ok (.iload_n 2, 1)) rfl ?_
            refine as_iaload X (by decide +kernel : decode cX9_isThere 141 = .ok (.iaload, 1)) ?_
            refine as_aload_n X (by decide +kernel : decode cX9_isThere 142 = .ok (.aload_n 0, 1)) rfl ?_
            refine as_get X fc_X9 (by decide +kernel : decode cX9_isThere 143 = .ok (.getfield 28, 3)) (by decide) fl_X9_28 ?_
            refine as_iload_n X (by decide +kernel : decode cX9_isThere 146 = .ok (.iload_n 1, 1)) rfl ?_
            refine as_iaload X (by decide +kernel : decode cX9_isThere 147 = .ok (.iaload, 1)) ?_
            refine as_ic_ne X (tgt := 153) (by decide +kernel : decode cX9_isThere 148 = .ok (.if_icmp .ne 5, 3)) (by decide) ?_ ?_
            · refine as_iconst X (by decide +kernel : decode cX9_isThere 151 = .ok (.iconst 1, 1)) rfl ?_
              exact as_rz X hQ hr (by decide +kernel : decode cX9_isThere 152 = .ok (.ireturn, 1))
            · exact fun _ _ _ h => h
  · unfold B_X9_isThere_153
    refine as_iinc X (by decide +kernel : decode cX9_isThere 153 = .ok (.iinc 2 1, 3)) rfl ?_
    refine as_goto X (tgt := 79) (by decide +kernel : decode cX9_isThere 156 = .ok (.goto (-77), 3)) (by decide) ?_
    exact fun _ _ _ h => h
  · unfold B_X9_isThere_159
    refine as_iconst X (by decide +kernel : decode cX9_isThere 159 = .ok (.iconst 0, 1)) rfl ?_
    exact as_rz X hQ hr (by decide +kernel : decode cX9_isThere 160 = .ok (.ireturn, 1))

def B_X9_isLike_0 (Q : am_Q) (G : Nat → am_K) : am_K := (ak_al 0 (ak_il 1 (ak_iald (ak_al 2 (ak_il 3 (ak_iald (ak_ic (fun x y => x = y) (ak_c (.int 1) (G 14)) (ak_c (.int 0) (G 14)))))))))
def B_X9_isLike_14 (Q : am_Q) (G : Nat → am_K) : am_K := (ak_is 4 (ak_c (.int 1) (ak_is 5 (G 19))))
def B_X9_isLike_19 (Q : am_Q) (G : Nat → am_K) : am_K := (ak_il 5 (ak_al 0 (ak_il 1 (ak_iald (ak_ic (fun x y => y < x) (G 60) (ak_il 4 (ak_if (fun x => x = 0) (G 60) (ak_al 0 (ak_il 1 (ak_il 5 (ak_ib (fun x y => x + y) (ak_iald (ak_al 2 (ak_il 3 (ak_il 5 (ak_ib (fun x y => x + y) (ak_iald (ak_ic (fun x y => x = y) (ak_c (.int 1) (G 52)) (ak_c (.int 0) (G 52))))))))))))))))))))
def B_X9_isLike_52 (Q : am_Q) (G : Nat → am_K) : am_K := (ak_is 4 (ak_ii 5 1 (G 19)))
def B_X9_isLike_60 (Q : am_Q) (G : Nat → am_K) : am_K := (ak_il 4 (ak_rz Q))
def cl_X9_isLike (Q : am_Q) (G : Nat → am_K) : Prop := am_N G 0 (B_X9_isLike_0 Q G) ∧ am_N G 14 (B_X9_isLike_14 Q G) ∧ am_N G 19 (B_X9_isLike_19 Q G) ∧ am_N G 52 (B_X9_isLike_52 Q G) ∧ am_N G 60 (B_X9_isLike_60 Q G)
def WP_X9_isLike : am_T := fun av h Q => (lg_sl av).length ≤ 6 ∧ ∀ G, cl_X9_isLike Q G → G 0 (am_ent 6 av) [] h
set_option maxHeartbeats 4000000 in
set_option maxRecDepth 100000 in
theorem s_X9_isLike {rm : Room} (hz : rm.cells = 0 ∧ rm.slots = 0) : am_S false yX9_isLike (am_ws yX9_isLike cX9_isLike 6 (some .boolean)) rm (WP_X9_isLike) := by
  refine am_S.of (fun _ => hz) (by decide +kernel) (fun h0 Q G => cl_X9_isLike Q G) ?_
  intro p l e s m args below meth c D h0 Q X hr hnm hQ
  refine ⟨?_, ?_, ?_, ?_, ?_⟩
  · unfold B_X9_isLike_0
    refine as_aload_n X (by decide +kernel : decode cX9_isLike 0 = .ok (.aload_n 0, 1)) rfl ?_
    refine as_iload_n X (by decide +kernel : decode cX9_isLike 1 = .ok (.iload_n 1, 1)) rfl ?_
    refine as_iaload X (by decide +kernel : decode cX9_isLike 2 = .ok (.iaload, 1)) ?_
    refine as_aload_n X (by decide +kernel : decode cX9_isLike 3 = .ok (.aload_n 2, 1)) rfl ?_
    refine as_iload_n X (by decide +kernel : decode cX9_isLike 4 = .ok (.iload_n 3, 1)) rfl ?_
    refine as_iaload X (by decide +kernel : decode cX9_isLike 5 = .ok (.iaload, 1)) ?_
    refine as_ic_ne X (tgt := 13) (by decide +kernel : decode cX9_isLike 6 = .ok (.if_icmp .ne 7, 3)) (by decide) ?_ ?_
    · refine as_iconst X (by decide +kernel : decode cX9_isLike 9 = .ok (.iconst 1, 1)) rfl ?_
      refine as_goto X (tgt := 14) (by decide +kernel : decode cX9_isLike 10 = .ok (.goto 4, 3)) (by decide) ?_
      exact fun _ _ _ h => h
    · refine as_iconst X (by decide +kernel : decode cX9_isLike 13 = .ok (.iconst 0, 1)) rfl ?_
      exact fun _ _ _ h => h
  · unfold B_X9_isLike_14
    refine as_istore X (by decide +kernel : decode cX9_isLike 14 = .ok (.istore 4, 2)) ?_
    refine as_iconst X (by decide +kernel : decode cX9_isLike 16 = .ok (.iconst 1, 1)) rfl ?_
    refine as_istore X (by decide +kernel : decode cX9_isLike 17 = .ok (.istore 5, 2)) ?_
    exact fun _ _ _ h => h
  · unfold B_X9_isLike_19
    refine as_iload X (by decide +kernel : decode cX9_isLike 19 = .ok (.iload 5, 2)) ?_
    refine as_aload_n X (by decide +kernel : decode cX9_isLike 21 = .ok (.aload_n 0, 1)) rfl ?_
    refine as_iload_n X (by decide +kernel : decode cX9_isLike 22 = .ok (.iload_n 1, 1)) rfl ?_
    refine as_iaload X (by decide +kernel : decode cX9_isLike 23 = .ok (.iaload, 1)) ?_
    refine as_ic_gt X (tgt := 60) (by decide +kernel : decode cX9_isLike 24 = .ok (.if_icmp .gt 36, 3)) (by decide) ?_ ?_
    · exact fun _ _ _ h => h
    · refine as_iload X (by decide +kernel : decode cX9_isLike 27 = .ok (.iload 4, 2)) ?_
      refine as_if_eq X (tgt := 60) (by decide +kernel : decode cX9_isLike 29 = .ok (.ifCond .eq 31, 3)) (by decide) ?_ ?_
      · exact fun _ _ _ h => h
      · refine as_aload_n X (by decide +kernel : decode cX9_isLike 32 = .ok (.aload_n 0, 1)) rfl ?_
        refine as_iload_n X (by decide +kernel : decode cX9_isLike 33 = .ok (.iload_n 1, 1)) rfl ?_
        refine as_iload X (by decide +kernel : decode cX9_isLike 34 = .ok (.iload 5, 2)) ?_
        refine as_iadd X (by decide +kernel : decode cX9_isLike 36 = .ok (.iadd, 1)) ?_
        refine as_iaload X (by decide +kernel : decode cX9_isLike 37 = .ok (.iaload, 1)) ?_
        refine as_aload_n X (by decide +kernel : decode cX9_isLike 38 = .ok (.aload_n 2, 1)) rfl ?_
        refine as_iload_n X (by decide +kernel : decode cX9_isLike 39 = .ok (.iload_n 3, 1)) rfl ?_
        refine as_iload X (by decide +kernel : decode cX9_isLike 40 = .ok (.iload 5, 2)) ?_
        refine as_iadd X (by decide +kernel : decode cX9_isLike 42 = .ok (.iadd, 1)) ?_
        refine as_iaload X (by decide +kernel : decode cX9_isLike 43 = .ok (.iaload, 1)) ?_
        refine as_ic_ne X (tgt := 51) (by decide +kernel : decode cX9_isLike 44 = .ok (.if_icmp .ne 7, 3)) (by decide) ?_ ?_
        · refine as_iconst X (by decide +kernel : decode cX9_isLike 47 = .ok (.iconst 1, 1)) rfl ?_
          refine as_goto X (tgt := 52) (by decide +kernel : decode cX9_isLike 48 = .ok (.goto 4, 3)) (by decide) ?_
          exact fun _ _ _ h => h
        · refine as_iconst X (by decide +kernel : decode cX9_isLike 51 = .ok (.iconst 0, 1)) rfl ?_
          exact fun _ _ _ h => h
  · unfold B_X9_isLike_52
    refine as_istore X (by decide +kernel : decode cX9_isLike 52 = .ok (.istore 4, 2)) ?_
    refine as_iinc X (by decide +kernel : decode cX9_isLike 54 = .ok (.iinc 5 1, 3)) rfl ?_
    refine as_goto X (tgt := 19) (by decide +kernel : decode cX9_isLike 57 = .ok (.goto (-38), 3)) (by decide) ?_
    exact fun _ _ _ h => h
  · unfold B_X9_isLike_60
    refine as_iload X (by decide +kernel : decode cX9_isLike 60 = .ok (.iload 4, 2)) ?_
    exact as_rz X hQ hr (by decide +kernel : decode cX9_isLike 62 = .ok (.ireturn, 1))

def B_X9_reads_0 (kX9_readsEntry : am_T) (kX9_isThere : am_T) (Q : am_Q) (G : Nat → am_K) : am_K := (ak_al 0 (ak_c (.int 0) (ak_puti 7 6 (ak_c (.int 0) (ak_is 1 (G 7))))))
def B_X9_reads_7 (kX9_readsEntry : am_T) (kX9_isThere : am_T) (Q : am_Q) (G : Nat → am_K) : am_K := (ak_il 1 (ak_al 0 (ak_get 7 0 (ak_ic (fun x y => y ≤ x) (ak_c (.int (-4)) (ak_ri Q)) (ak_al 0 (ak_il 1 (ak_cv 2 7 kX9_readsEntry (ak_is 2 (ak_il 2 (ak_if (fun x => 0 ≤ x) (ak_al 0 (ak_get 7 6 (ak_c (.int 24) (ak_ic (fun x y => y ≤ x) (ak_c (.int 24) (G 45)) (ak_al 0 (ak_get 7 6 (G 45))))))) (ak_il 1 (ak_ri Q))))))))))))
def B_X9_reads_45 (kX9_readsEntry : am_T) (kX9_isThere : am_T) (Q : am_Q) (G : Nat → am_K) : am_K := (ak_is 3 (ak_al 0 (ak_dup (ak_get 7 6 (ak_al 0 (ak_il 3 (ak_cv 2 7 kX9_isThere (ak_if (fun x => x = 0) (ak_al 0 (ak_get 7 6 (ak_c (.int 24) (ak_ic (fun x y => x ≤ y) (ak_c (.int 1) (G 73)) (G 68))))) (G 68)))))))))
def B_X9_reads_68 (kX9_readsEntry : am_T) (kX9_isThere : am_T) (Q : am_Q) (G : Nat → am_K) : am_K := (ak_c (.int 0) (G 73))
def B_X9_reads_73 (kX9_readsEntry : am_T) (kX9_isThere : am_T) (Q : am_Q) (G : Nat → am_K) : am_K := (ak_ib (fun x y => x + y) (ak_puti 7 6 (ak_il 2 (ak_is 1 (G 7)))))
def cl_X9_reads (kX9_readsEntry : am_T) (kX9_isThere : am_T) (Q : am_Q) (G : Nat → am_K) : Prop := am_N G 0 (B_X9_reads_0 kX9_readsEntry kX9_isThere Q G) ∧ am_N G 7 (B_X9_reads_7 kX9_readsEntry kX9_isThere Q G) ∧ am_N G 45 (B_X9_reads_45 kX9_readsEntry kX9_isThere Q G) ∧ am_N G 68 (B_X9_reads_68 kX9_readsEntry kX9_isThere Q G) ∧ am_N G 73 (B_X9_reads_73 kX9_readsEntry kX9_isThere Q G)
def WP_X9_reads (kX9_readsEntry : am_T) (kX9_isThere : am_T) : am_T := fun av h Q => (lg_sl av).length ≤ 4 ∧ ∀ G, cl_X9_reads kX9_readsEntry kX9_isThere Q G → G 0 (am_ent 4 av) [] h
set_option maxHeartbeats 4000000 in
set_option maxRecDepth 100000 in
theorem s_X9_reads {mX9_readsEntry : Room} {kX9_readsEntry : am_T} (h_X9_readsEntry : am_S false yX9_readsEntry (am_ws yX9_readsEntry cX9_readsEntry 5 (some .int)) mX9_readsEntry kX9_readsEntry) {mX9_isThere : Room} {kX9_isThere : am_T} (h_X9_isThere : am_S false yX9_isThere (am_ws yX9_isThere cX9_isThere 3 (some .boolean)) mX9_isThere kX9_isThere) {rm : Room} (hz : rm.cells = 0 ∧ rm.slots = 0) (R_X9_readsEntry : mX9_readsEntry.frames + 1 ≤ rm.frames ∧ 8 + (5 + 11) + mX9_readsEntry.locals ≤ rm.locals) (R_X9_isThere : mX9_isThere.frames + 1 ≤ rm.frames ∧ 8 + (3 + 11) + mX9_isThere.locals ≤ rm.locals) : am_S false yX9_reads (am_ws yX9_reads cX9_reads 4 (some .int)) rm (WP_X9_reads kX9_readsEntry kX9_isThere) := by
  refine am_S.of (fun _ => hz) (by decide +kernel) (fun h0 Q G => cl_X9_reads kX9_readsEntry kX9_isThere Q G) ?_
  intro p l e s m args below meth c D h0 Q X hr hnm hQ
  refine ⟨?_, ?_, ?_, ?_, ?_⟩
  · unfold B_X9_reads_0
    refine as_aload_n X (by decide +kernel : decode cX9_reads 0 = .ok (.aload_n 0, 1)) rfl ?_
    refine as_iconst X (by decide +kernel : decode cX9_reads 1 = .ok (.iconst 0, 1)) rfl ?_
    refine as_puti X fc_X9 (by decide +kernel : decode cX9_reads 2 = .ok (.putfield 106, 3)) (by decide) fl_X9_106 (Or.inl rfl) rfl ?_
    refine as_iconst X (by decide +kernel : decode cX9_reads 5 = .ok (.iconst 0, 1)) rfl ?_
    refine as_istore_n X (by decide +kernel : decode cX9_reads 6 = .ok (.istore_n 1, 1)) rfl ?_
    exact fun _ _ _ h => h
  · unfold B_X9_reads_7
    refine as_iload_n X (by decide +kernel : decode cX9_reads 7 = .ok (.iload_n 1, 1)) rfl ?_
    refine as_aload_n X (by decide +kernel : decode cX9_reads 8 = .ok (.aload_n 0, 1)) rfl ?_
    refine as_get X fc_X9 (by decide +kernel : decode cX9_reads 9 = .ok (.getfield 89, 3)) (by decide) fl_X9_89 ?_
    refine as_ic_ge X (tgt := 82) (by decide +kernel : decode cX9_reads 12 = .ok (.if_icmp .ge 70, 3)) (by decide) ?_ ?_
    · refine as_bipush X (by decide +kernel : decode cX9_reads 82 = .ok (.bipush (-4), 2)) rfl ?_
      exact as_ri X hQ hr (by decide +kernel : decode cX9_reads 84 = .ok (.ireturn, 1))
    · refine as_aload_n X (by decide +kernel : decode cX9_reads 15 = .ok (.aload_n 0, 1)) rfl ?_
      refine as_iload_n X (by decide +kernel : decode cX9_reads 16 = .ok (.iload_n 1, 1)) rfl ?_
      refine as_cv X h_X9_readsEntry rfl (by decide +kernel : decode cX9_reads 17 = .ok (.invokevirtual 123, 3)) dn_X9_readsEntry ml_X9_123 im_X9_readsEntry se_X9_readsEntry ini_X9 co_X9_readsEntry R_X9_readsEntry ?_
      refine as_istore_n X (by decide +kernel : decode cX9_reads 20 = .ok (.istore_n 2, 1)) rfl ?_
      refine as_iload_n X (by decide +kernel : decode cX9_reads 21 = .ok (.iload_n 2, 1)) rfl ?_
      refine as_if_ge X (tgt := 27) (by decide +kernel : decode cX9_reads 22 = .ok (.ifCond .ge 5, 3)) (by decide) ?_ ?_
      · refine as_aload_n X (by decide +kernel : decode cX9_reads 27 = .ok (.aload_n 0, 1)) rfl ?_
        refine as_get X fc_X9 (by decide +kernel : decode cX9_reads 28 = .ok (.getfield 106, 3)) (by decide) fl_X9_106 ?_
        refine as_bipush X (by decide +kernel : decode cX9_reads 31 = .ok (.bipush 24, 2)) rfl ?_
        refine as_ic_ge X (tgt := 43) (by decide +kernel : decode cX9_reads 33 = .ok (.if_icmp .ge 10, 3)) (by decide) ?_ ?_
        · refine as_bipush X (by decide +kernel : decode cX9_reads 43 = .ok (.bipush 24, 2)) rfl ?_
          exact fun _ _ _ h => h
        · refine as_aload_n X (by decide +kernel : decode cX9_reads 36 = .ok (.aload_n 0, 1)) rfl ?_
          refine as_get X fc_X9 (by decide +kernel : decode cX9_reads 37 = .ok (.getfield 106, 3)) (by decide) fl_X9_106 ?_
          refine as_goto X (tgt := 45) (by decide +kernel : decode cX9_reads 40 = .ok (.goto 5, 3)) (by decide) ?_
          exact fun _ _ _ h => h
      · refine as_iload_n X (by decide +kernel : decode cX9_reads 25 = .ok (.iload_n 1, 1)) rfl ?_
        exact as_ri X hQ hr (by decide +kernel : decode cX9_reads 26 = .ok (.ireturn, 1))
  · unfold B_X9_reads_45
    refine as_istore_n X (by decide +kernel : decode cX9_reads 45 = .ok (.istore_n 3, 1)) rfl ?_
    refine as_aload_n X (by decide +kernel : decode cX9_reads 46 = .ok (.aload_n 0, 1)) rfl ?_
    refine as_dup X (by decide +kernel : decode cX9_reads 47 = .ok (.dup, 1)) ?_
    refine as_get X fc_X9 (by decide +kernel : decode cX9_reads 48 = .ok (.getfield 106, 3)) (by decide) fl_X9_106 ?_
    refine as_aload_n X (by decide +kernel : decode cX9_reads 51 = .ok (.aload_n 0, 1)) rfl ?_
    refine as_iload_n X (by decide +kernel : decode cX9_reads 52 = .ok (.iload_n 3, 1)) rfl ?_
    refine as_cv X h_X9_isThere rfl (by decide +kernel : decode cX9_reads 53 = .ok (.invokevirtual 126, 3)) dn_X9_isThere ml_X9_126 im_X9_isThere se_X9_isThere ini_X9 co_X9_isThere R_X9_isThere ?_
    refine as_if_ne X (tgt := 68) (by decide +kernel : decode cX9_reads 56 = .ok (.ifCond .ne 12, 3)) (by decide) ?_ ?_
    · refine as_aload_n X (by decide +kernel : decode cX9_reads 59 = .ok (.aload_n 0, 1)) rfl ?_
      refine as_get X fc_X9 (by decide +kernel : decode cX9_reads 60 = .ok (.getfield 106, 3)) (by decide) fl_X9_106 ?_
      refine as_bipush X (by decide +kernel : decode cX9_reads 63 = .ok (.bipush 24, 2)) rfl ?_
      refine as_ic_le X (tgt := 72) (by decide +kernel : decode cX9_reads 65 = .ok (.if_icmp .le 7, 3)) (by decide) ?_ ?_
      · refine as_iconst X (by decide +kernel : decode cX9_reads 72 = .ok (.iconst 1, 1)) rfl ?_
        exact fun _ _ _ h => h
      · exact fun _ _ _ h => h
    · exact fun _ _ _ h => h
  · unfold B_X9_reads_68
    refine as_iconst X (by decide +kernel : decode cX9_reads 68 = .ok (.iconst 0, 1)) rfl ?_
    refine as_goto X (tgt := 73) (by decide +kernel : decode cX9_reads 69 = .ok (.goto 4, 3)) (by decide) ?_
    exact fun _ _ _ h => h
  · unfold B_X9_reads_73
    refine as_iadd X (by decide +kernel : decode cX9_reads 73 = .ok (.iadd, 1)) ?_
    refine as_puti X fc_X9 (by decide +kernel : decode cX9_reads 74 = .ok (.putfield 106, 3)) (by decide) fl_X9_106 (Or.inl rfl) rfl ?_
    refine as_iload_n X (by decide +kernel : decode cX9_reads 77 = .ok (.iload_n 2, 1)) rfl ?_
    refine as_istore_n X (by decide +kernel : decode cX9_reads 78 = .ok (.istore_n 1, 1)) rfl ?_
    refine as_goto X (tgt := 7) (by decide +kernel : decode cX9_reads 79 = .ok (.goto (-72), 3)) (by decide) ?_
    exact fun _ _ _ h => h

def B_X9_write_0 (Q : am_Q) (G : Nat → am_K) : am_K := (ak_il 1 (ak_c (.int 32) (ak_ic (fun x y => x < y) (G 12) (ak_il 1 (ak_c (.int 126) (ak_ic (fun x y => x ≤ y) (ak_al 0 (ak_get 7 0 (ak_c (.int 200) (ak_ic (fun x y => x = y) (ak_c (.int (-3)) (ak_ri Q)) (ak_al 0 (ak_get 7 1 (ak_al 0 (ak_get 7 0 (ak_il 1 (ak_iast (ak_al 0 (ak_dup (ak_get 7 0 (ak_c (.int 1) (ak_ib (fun x y => x + y) (ak_puti 7 0 (ak_al 0 (ak_get 7 0 (ak_ri Q))))))))))))))))))) (G 12)))))))
def B_X9_write_12 (Q : am_Q) (G : Nat → am_K) : am_K := (ak_c (.int (-1)) (ak_ri Q))
def cl_X9_write (Q : am_Q) (G : Nat → am_K) : Prop := am_N G 0 (B_X9_write_0 Q G) ∧ am_N G 12 (B_X9_write_12 Q G)
def WP_X9_write : am_T := fun av h Q => (lg_sl av).length ≤ 2 ∧ ∀ G, cl_X9_write Q G → G 0 (am_ent 2 av) [] h
set_option maxHeartbeats 4000000 in
set_option maxRecDepth 100000 in
theorem s_X9_write {rm : Room} (hz : rm.cells = 0 ∧ rm.slots = 0) : am_S false yX9_write (am_ws yX9_write cX9_write 2 (some .int)) rm (WP_X9_write) := by
  refine am_S.of (fun _ => hz) (by decide +kernel) (fun h0 Q G => cl_X9_write Q G) ?_
  intro p l e s m args below meth c D h0 Q X hr hnm hQ
  refine ⟨?_, ?_⟩
  · unfold B_X9_write_0
    refine as_iload_n X (by decide +kernel : decode cX9_write 0 = .ok (.iload_n 1, 1)) rfl ?_
    refine as_bipush X (by decide +kernel : decode cX9_write 1 = .ok (.bipush 32, 2)) rfl ?_
    refine as_ic_lt X (tgt := 12) (by decide +kernel : decode cX9_write 3 = .ok (.if_icmp .lt 9, 3)) (by decide) ?_ ?_
    · exact fun _ _ _ h => h
    · refine as_iload_n X (by decide +kernel : decode cX9_write 6 = .ok (.iload_n 1, 1)) rfl ?_
      refine as_bipush X (by decide +kernel : decode cX9_write 7 = .ok (.bipush 126, 2)) rfl ?_
      refine as_ic_le X (tgt := 14) (by decide +kernel : decode cX9_write 9 = .ok (.if_icmp .le 5, 3)) (by decide) ?_ ?_
      · refine as_aload_n X (by decide +kernel : decode cX9_write 14 = .ok (.aload_n 0, 1)) rfl ?_
        refine as_get X fc_X9 (by decide +kernel : decode cX9_write 15 = .ok (.getfield 89, 3)) (by decide) fl_X9_89 ?_
        refine as_sipush X (by decide +kernel : decode cX9_write 18 = .ok (.sipush 200, 3)) rfl ?_
        refine as_ic_ne X (tgt := 27) (by decide +kernel : decode cX9_write 21 = .ok (.if_icmp .ne 6, 3)) (by decide) ?_ ?_
        · refine as_bipush X (by decide +kernel : decode cX9_write 24 = .ok (.bipush (-3), 2)) rfl ?_
          exact as_ri X hQ hr (by decide +kernel : decode cX9_write 26 = .ok (.ireturn, 1))
        · refine as_aload_n X (by decide +kernel : decode cX9_write 27 = .ok (.aload_n 0, 1)) rfl ?_
          refine as_get X fc_X9 (by decide +kernel : decode cX9_write 28 = .ok (.getfield 7, 3)) (by decide) fl_X9_7 ?_
          refine as_aload_n X (by decide +kernel : decode cX9_write 31 = .ok (.aload_n 0, 1)) rfl ?_
          refine as_get X fc_X9 (by decide +kernel : decode cX9_write 32 = .ok (.getfield 89, 3)) (by decide) fl_X9_89 ?_
          refine as_iload_n X (by decide +kernel : decode cX9_write 35 = .ok (.iload_n 1, 1)) rfl ?_
          refine as_iastore X (by decide +kernel : decode cX9_write 36 = .ok (.iastore, 1)) ?_
          refine as_aload_n X (by decide +kernel : decode cX9_write 37 = .ok (.aload_n 0, 1)) rfl ?_
          refine as_dup X (by decide +kernel : decode cX9_write 38 = .ok (.dup, 1)) ?_
          refine as_get X fc_X9 (by decide +kernel : decode cX9_write 39 = .ok (.getfield 89, 3)) (by decide) fl_X9_89 ?_
          refine as_iconst X (by decide +kernel : decode cX9_write 42 = .ok (.iconst 1, 1)) rfl ?_
          refine as_iadd X (by decide +kernel : decode cX9_write 43 = .ok (.iadd, 1)) ?_
          refine as_puti X fc_X9 (by decide +kernel : decode cX9_write 44 = .ok (.putfield 89, 3)) (by decide) fl_X9_89 (Or.inl rfl) rfl ?_
          refine as_aload_n X (by decide +kernel : decode cX9_write 47 = .ok (.aload_n 0, 1)) rfl ?_
          refine as_get X fc_X9 (by decide +kernel : decode cX9_write 48 = .ok (.getfield 89, 3)) (by decide) fl_X9_89 ?_
          exact as_ri X hQ hr (by decide +kernel : decode cX9_write 51 = .ok (.ireturn, 1))
      · exact fun _ _ _ h => h
  · unfold B_X9_write_12
    refine as_iconst X (by decide +kernel : decode cX9_write 12 = .ok (.iconst (-1), 1)) rfl ?_
    exact as_ri X hQ hr (by decide +kernel : decode cX9_write 13 = .ok (.ireturn, 1))

def B_X9_wipe_0 (Q : am_Q) (G : Nat → am_K) : am_K := (ak_al 0 (ak_get 7 0 (ak_is 1 (ak_al 0 (ak_c (.int 0) (ak_puti 7 0 (ak_il 1 (ak_ri Q))))))))
def cl_X9_wipe (Q : am_Q) (G : Nat → am_K) : Prop := am_N G 0 (B_X9_wipe_0 Q G)
def WP_X9_wipe : am_T := fun av h Q => (lg_sl av).length ≤ 2 ∧ ∀ G, cl_X9_wipe Q G → G 0 (am_ent 2 av) [] h
set_option maxHeartbeats 4000000 in
set_option maxRecDepth 100000 in
theorem s_X9_wipe {rm : Room} (hz : rm.cells = 0 ∧ rm.slots = 0) : am_S false yX9_wipe (am_ws yX9_wipe cX9_wipe 2 (some .int)) rm (WP_X9_wipe) := by
  refine am_S.of (fun _ => hz) (by decide +kernel) (fun h0 Q G => cl_X9_wipe Q G) ?_
  intro p l e s m args below meth c D h0 Q X hr hnm hQ
  show am_N _ 0 (B_X9_wipe_0  Q _)
  · unfold B_X9_wipe_0
    refine as_aload_n X (by decide +kernel : decode cX9_wipe 0 = .ok (.aload_n 0, 1)) rfl ?_
    refine as_get X fc_X9 (by decide +kernel : decode cX9_wipe 1 = .ok (.getfield 89, 3)) (by decide) fl_X9_89 ?_
    refine as_istore_n X (by decide +kernel : decode cX9_wipe 4 = .ok (.istore_n 1, 1)) rfl ?_
    refine as_aload_n X (by decide +kernel : decode cX9_wipe 5 = .ok (.aload_n 0, 1)) rfl ?_
    refine as_iconst X (by decide +kernel : decode cX9_wipe 6 = .ok (.iconst 0, 1)) rfl ?_
    refine as_puti X fc_X9 (by decide +kernel : decode cX9_wipe 7 = .ok (.putfield 89, 3)) (by decide) fl_X9_89 (Or.inl rfl) rfl ?_
    refine as_iload_n X (by decide +kernel : decode cX9_wipe 10 = .ok (.iload_n 1, 1)) rfl ?_
    exact as_ri X hQ hr (by decide +kernel : decode cX9_wipe 11 = .ok (.ireturn, 1))

def B_X9_fault_0 (kX9_reads : am_T) (Q : am_Q) (G : Nat → am_K) : am_K := (ak_al 0 (ak_cv 1 7 kX9_reads (ak_ri Q)))
def cl_X9_fault (kX9_reads : am_T) (Q : am_Q) (G : Nat → am_K) : Prop := am_N G 0 (B_X9_fault_0 kX9_reads Q G)
def WP_X9_fault (kX9_reads : am_T) : am_T := fun av h Q => (lg_sl av).length ≤ 1 ∧ ∀ G, cl_X9_fault kX9_reads Q G → G 0 (am_ent 1 av) [] h
set_option maxHeartbeats 4000000 in
set_option maxRecDepth 100000 in
theorem s_X9_fault {mX9_reads : Room} {kX9_reads : am_T} (h_X9_reads : am_S false yX9_reads (am_ws yX9_reads cX9_reads 4 (some .int)) mX9_reads kX9_reads) {rm : Room} (hz : rm.cells = 0 ∧ rm.slots = 0) (R_X9_reads : mX9_reads.frames + 1 ≤ rm.frames ∧ 8 + (4 + 11) + mX9_reads.locals ≤ rm.locals) : am_S false yX9_fault (am_ws yX9_fault cX9_fault 1 (some .int)) rm (WP_X9_fault kX9_reads) := by
  refine am_S.of (fun _ => hz) (by decide +kernel) (fun h0 Q G => cl_X9_fault kX9_reads Q G) ?_
  intro p l e s m args below meth c D h0 Q X hr hnm hQ
  show am_N _ 0 (B_X9_fault_0  kX9_reads Q _)
  · unfold B_X9_fault_0
    refine as_aload_n X (by decide +kernel : decode cX9_fault 0 = .ok (.aload_n 0, 1)) rfl ?_
    refine as_cv X h_X9_reads rfl (by decide +kernel : decode cX9_fault 1 = .ok (.invokevirtual 129, 3)) dn_X9_reads ml_X9_129 im_X9_reads se_X9_reads ini_X9 co_X9_reads R_X9_reads ?_
    exact as_ri X hQ hr (by decide +kernel : decode cX9_fault 4 = .ok (.ireturn, 1))

def B_X9_learn_0 (kX9_reads : am_T) (Q : am_Q) (G : Nat → am_K) : am_K := (ak_al 0 (ak_cv 1 7 kX9_reads (ak_c (.int (-4)) (ak_ic (fun x y => x = y) (ak_al 0 (ak_get 7 2 (ak_al 0 (ak_get 7 6 (ak_ib (fun x y => x + y) (ak_c (.int 24) (ak_ic (fun x y => x ≤ y) (ak_c (.int 0) (ak_is 1 (G 31))) (ak_c (.int (-3)) (ak_ri Q))))))))) (ak_c (.int (-2)) (ak_ri Q))))))
def B_X9_learn_31 (kX9_reads : am_T) (Q : am_Q) (G : Nat → am_K) : am_K := (ak_il 1 (ak_al 0 (ak_get 7 6 (ak_ic (fun x y => y ≤ x) (ak_al 0 (ak_c (.int 0) (ak_puti 7 16 (ak_al 0 (ak_get 7 6 (ak_ri Q)))))) (ak_c (.int 0) (ak_is 2 (G 41)))))))
def B_X9_learn_41 (kX9_reads : am_T) (Q : am_Q) (G : Nat → am_K) : am_K := (ak_il 2 (ak_c (.int 8) (ak_ic (fun x y => y ≤ x) (ak_c (.int 0) (ak_is 2 (G 80))) (ak_al 0 (ak_get 7 3 (ak_c (.int 8) (ak_al 0 (ak_get 7 2 (ak_ib (fun x y => x * y) (ak_il 2 (ak_ib (fun x y => x + y) (ak_al 0 (ak_get 7 7 (ak_c (.int 8) (ak_il 1 (ak_ib (fun x y => x * y) (ak_il 2 (ak_ib (fun x y => x + y) (ak_iald (ak_iast (ak_ii 2 1 (G 41))))))))))))))))))))))
def B_X9_learn_80 (kX9_reads : am_T) (Q : am_Q) (G : Nat → am_K) : am_K := (ak_il 2 (ak_c (.int 9) (ak_ic (fun x y => y ≤ x) (ak_al 0 (ak_get 7 5 (ak_al 0 (ak_get 7 2 (ak_al 0 (ak_get 7 9 (ak_il 1 (ak_iald (ak_iast (ak_al 0 (ak_dup (ak_get 7 2 (ak_c (.int 1) (ak_ib (fun x y => x + y) (ak_puti 7 2 (ak_ii 1 1 (G 31))))))))))))))))) (ak_al 0 (ak_get 7 4 (ak_c (.int 9) (ak_al 0 (ak_get 7 2 (ak_ib (fun x y => x * y) (ak_il 2 (ak_ib (fun x y => x + y) (ak_al 0 (ak_get 7 8 (ak_c (.int 9) (ak_il 1 (ak_ib (fun x y => x * y) (ak_il 2 (ak_ib (fun x y => x + y) (ak_iald (ak_iast (ak_ii 2 1 (G 80))))))))))))))))))))))
def cl_X9_learn (kX9_reads : am_T) (Q : am_Q) (G : Nat → am_K) : Prop := am_N G 0 (B_X9_learn_0 kX9_reads Q G) ∧ am_N G 31 (B_X9_learn_31 kX9_reads Q G) ∧ am_N G 41 (B_X9_learn_41 kX9_reads Q G) ∧ am_N G 80 (B_X9_learn_80 kX9_reads Q G)
def WP_X9_learn (kX9_reads : am_T) : am_T := fun av h Q => (lg_sl av).length ≤ 3 ∧ ∀ G, cl_X9_learn kX9_reads Q G → G 0 (am_ent 3 av) [] h
set_option maxHeartbeats 4000000 in
set_option maxRecDepth 100000 in
theorem s_X9_learn {mX9_reads : Room} {kX9_reads : am_T} (h_X9_reads : am_S false yX9_reads (am_ws yX9_reads cX9_reads 4 (some .int)) mX9_reads kX9_reads) {rm : Room} (hz : rm.cells = 0 ∧ rm.slots = 0) (R_X9_reads : mX9_reads.frames + 1 ≤ rm.frames ∧ 8 + (4 + 11) + mX9_reads.locals ≤ rm.locals) : am_S false yX9_learn (am_ws yX9_learn cX9_learn 3 (some .int)) rm (WP_X9_learn kX9_reads) := by
  refine am_S.of (fun _ => hz) (by decide +kernel) (fun h0 Q G => cl_X9_learn kX9_reads Q G) ?_
  intro p l e s m args below meth c D h0 Q X hr hnm hQ
  refine ⟨?_, ?_, ?_, ?_⟩
  · unfold B_X9_learn_0
    refine as_aload_n X (by decide +kernel : decode cX9_learn 0 = .ok (.aload_n 0, 1)) rfl ?_
    refine as_cv X h_X9_reads rfl (by decide +kernel : decode cX9_learn 1 = .ok (.invokevirtual 129, 3)) dn_X9_reads ml_X9_129 im_X9_reads se_X9_reads ini_X9 co_X9_reads R_X9_reads ?_
    refine as_bipush X (by decide +kernel : decode cX9_learn 4 = .ok (.bipush (-4), 2)) rfl ?_
    refine as_ic_eq X (tgt := 12) (by decide +kernel : decode cX9_learn 6 = .ok (.if_icmp .eq 6, 3)) (by decide) ?_ ?_
    · refine as_aload_n X (by decide +kernel : decode cX9_learn 12 = .ok (.aload_n 0, 1)) rfl ?_
      refine as_get X fc_X9 (by decide +kernel : decode cX9_learn 13 = .ok (.getfield 116, 3)) (by decide) fl_X9_116 ?_
      refine as_aload_n X (by decide +kernel : decode cX9_learn 16 = .ok (.aload_n 0, 1)) rfl ?_
      refine as_get X fc_X9 (by decide +kernel : decode cX9_learn 17 = .ok (.getfield 106, 3)) (by decide) fl_X9_106 ?_
      refine as_iadd X (by decide +kernel : decode cX9_learn 20 = .ok (.iadd, 1)) ?_
      refine as_bipush X (by decide +kernel : decode cX9_learn 21 = .ok (.bipush 24, 2)) rfl ?_
      refine as_ic_le X (tgt := 29) (by decide +kernel : decode cX9_learn 23 = .ok (.if_icmp .le 6, 3)) (by decide) ?_ ?_
      · refine as_iconst X (by decide +kernel : decode cX9_learn 29 = .ok (.iconst 0, 1)) rfl ?_
        refine as_istore_n X (by decide +kernel : decode cX9_learn 30 = .ok (.istore_n 1, 1)) rfl ?_
        exact fun _ _ _ h => h
      · refine as_bipush X (by decide +kernel : decode cX9_learn 26 = .ok (.bipush (-3), 2)) rfl ?_
        exact as_ri X hQ hr (by decide +kernel : decode cX9_learn 28 = .ok (.ireturn, 1))
    · refine as_bipush X (by decide +kernel : decode cX9_learn 9 = .ok (.bipush (-2), 2)) rfl ?_
      exact as_ri X hQ hr (by decide +kernel : decode cX9_learn 11 = .ok (.ireturn, 1))
  · unfold B_X9_learn_31
    refine as_iload_n X (by decide +kernel : decode cX9_learn 31 = .ok (.iload_n 1, 1)) rfl ?_
    refine as_aload_n X (by decide +kernel : decode cX9_learn 32 = .ok (.aload_n 0, 1)) rfl ?_
    refine as_get X fc_X9 (by decide +kernel : decode cX9_learn 33 = .ok (.getfield 106, 3)) (by decide) fl_X9_106 ?_
    refine as_ic_ge X (tgt := 148) (by decide +kernel : decode cX9_learn 36 = .ok (.if_icmp .ge 112, 3)) (by decide) ?_ ?_
    · refine as_aload_n X (by decide +kernel : decode cX9_learn 148 = .ok (.aload_n 0, 1)) rfl ?_
      refine as_iconst X (by decide +kernel : decode cX9_learn 149 = .ok (.iconst 0, 1)) rfl ?_
      refine as_puti X fc_X9 (by decide +kernel : decode cX9_learn 150 = .ok (.putfield 132, 3)) (by decide) fl_X9_132 (Or.inl rfl) rfl ?_
      refine as_aload_n X (by decide +kernel : decode cX9_learn 153 = .ok (.aload_n 0, 1)) rfl ?_
      refine as_get X fc_X9 (by decide +kernel : decode cX9_learn 154 = .ok (.getfield 106, 3)) (by decide) fl_X9_106 ?_
      exact as_ri X hQ hr (by decide +kernel : decode cX9_learn 157 = .ok (.ireturn, 1))
    · refine as_iconst X (by decide +kernel : decode cX9_learn 39 = .ok (.iconst 0, 1)) rfl ?_
      refine as_istore_n X (by decide +kernel : decode cX9_learn 40 = .ok (.istore_n 2, 1)) rfl ?_
      exact fun _ _ _ h => h
  · unfold B_X9_learn_41
    refine as_iload_n X (by decide +kernel : decode cX9_learn 41 = .ok (.iload_n 2, 1)) rfl ?_
    refine as_bipush X (by decide +kernel : decode cX9_learn 42 = .ok (.bipush 8, 2)) rfl ?_
    refine as_ic_ge X (tgt := 78) (by decide +kernel : decode cX9_learn 44 = .ok (.if_icmp .ge 34, 3)) (by decide) ?_ ?_
    · refine as_iconst X (by decide +kernel : decode cX9_learn 78 = .ok (.iconst 0, 1)) rfl ?_
      refine as_istore_n X (by decide +kernel : decode cX9_learn 79 = .ok (.istore_n 2, 1)) rfl ?_
      exact fun _ _ _ h => h
    · refine as_aload_n X (by decide +kernel : decode cX9_learn 47 = .ok (.aload_n 0, 1)) rfl ?_
      refine as_get X fc_X9 (by decide +kernel : decode cX9_learn 48 = .ok (.getfield 13, 3)) (by decide) fl_X9_13 ?_
      refine as_bipush X (by decide +kernel : decode cX9_learn 51 = .ok (.bipush 8, 2)) rfl ?_
      refine as_aload_n X (by decide +kernel : decode cX9_learn 53 = .ok (.aload_n 0, 1)) rfl ?_
      refine as_get X fc_X9 (by decide +kernel : decode cX9_learn 54 = .ok (.getfield 116, 3)) (by decide) fl_X9_116 ?_
      refine as_imul X (by decide +kernel : decode cX9_learn 57 = .ok (.imul, 1)) ?_
      refine as_iload_n X (by decide +kernel : decode cX9_learn 58 = .ok (.iload_n 2, 1)) rfl ?_
      refine as_iadd X (by decide +kernel : decode cX9_learn 59 = .ok (.iadd, 1)) ?_
      refine as_aload_n X (by decide +kernel : decode cX9_learn 60 = .ok (.aload_n 0, 1)) rfl ?_
      refine as_get X fc_X9 (by decide +kernel : decode cX9_learn 61 = .ok (.getfield 22, 3)) (by decide) fl_X9_22 ?_
      refine as_bipush X (by decide +kernel : decode cX9_learn 64 = .ok (.bipush 8, 2)) rfl ?_
      refine as_iload_n X (by decide +kernel : decode cX9_learn 66 = .ok (.iload_n 1, 1)) rfl ?_
      refine as_imul X (by decide +kernel : decode cX9_learn 67 = .ok (.imul, 1)) ?_
      refine as_iload_n X (by decide +kernel : decode cX9_learn 68 = .ok (.iload_n 2, 1)) rfl ?_
      refine as_iadd X (by decide +kernel : decode cX9_learn 69 = .ok (.iadd, 1)) ?_
      refine as_iaload X (by decide +kernel : decode cX9_learn 70 = .ok (.iaload, 1)) ?_
      refine as_iastore X (by decide +kernel : decode cX9_learn 71 = .ok (.iastore, 1)) ?_
      refine as_iinc X (by decide +kernel : decode cX9_learn 72 = .ok (.iinc 2 1, 3)) rfl ?_
      refine as_goto X (tgt := 41) (by decide +kernel : decode cX9_learn 75 = .ok (.goto (-34), 3)) (by decide) ?_
      exact fun _ _ _ h => h
  · unfold B_X9_learn_80
    refine as_iload_n X (by decide +kernel : decode cX9_learn 80 = .ok (.iload_n 2, 1)) rfl ?_
    refine as_bipush X (by decide +kernel : decode cX9_learn 81 = .ok (.bipush 9, 2)) rfl ?_
    refine as_ic_ge X (tgt := 117) (by decide +kernel : decode cX9_learn 83 = .ok (.if_icmp .ge 34, 3)) (by decide) ?_ ?_
    · refine as_aload_n X (by decide +kernel : decode cX9_learn 117 = .ok (.aload_n 0, 1)) rfl ?_
      refine as_get X fc_X9 (by decide +kernel : decode cX9_learn 118 = .ok (.getfield 19, 3)) (by decide) fl_X9_19 ?_
      refine as_aload_n X (by decide +kernel : decode cX9_learn 121 = .ok (.aload_n 0, 1)) rfl ?_
      refine as_get X fc_X9 (by decide +kernel : decode cX9_learn 122 = .ok (.getfield 116, 3)) (by decide) fl_X9_116 ?_
      refine as_aload_n X (by decide +kernel : decode cX9_learn 125 = .ok (.aload_n 0, 1)) rfl ?_
      refine as_get X fc_X9 (by decide +kernel : decode cX9_learn 126 = .ok (.getfield 28, 3)) (by decide) fl_X9_28 ?_
      refine as_iload_n X (by decide +kernel : decode cX9_learn 129 = .ok (.iload_n 1, 1)) rfl ?_
      refine as_iaload X (by decide +kernel : decode cX9_learn 130 = .ok (.iaload, 1)) ?_
      refine as_iastore X (by decide +kernel : decode cX9_learn 131 = .ok (.iastore, 1)) ?_
      refine as_aload_n X (by decide +kernel : decode cX9_learn 132 = .ok (.aload_n 0, 1)) rfl ?_
      refine as_dup X (by decide +kernel : decode cX9_learn 133 = .ok (.dup, 1)) ?_
      refine as_get X fc_X9 (by decide +kernel : decode cX9_learn 134 = .ok (.getfield 116, 3)) (by decide) fl_X9_116 ?_
      refine as_iconst X (by decide +kernel : decode cX9_learn 137 = .ok (.iconst 1, 1)) rfl ?_
      refine as_iadd X (by decide +kernel : decode cX9_learn 138 = .ok (.iadd, 1)) ?_
      refine as_puti X fc_X9 (by decide +kernel : decode cX9_learn 139 = .ok (.putfield 116, 3)) (by decide) fl_X9_116 (Or.inl rfl) rfl ?_
      refine as_iinc X (by decide +kernel : decode cX9_learn 142 = .ok (.iinc 1 1, 3)) rfl ?_
      refine as_goto X (tgt := 31) (by decide +kernel : decode cX9_learn 145 = .ok (.goto (-114), 3)) (by decide) ?_
      exact fun _ _ _ h => h
    · refine as_aload_n X (by decide +kernel : decode cX9_learn 86 = .ok (.aload_n 0, 1)) rfl ?_
      refine as_get X fc_X9 (by decide +kernel : decode cX9_learn 87 = .ok (.getfield 16, 3)) (by decide) fl_X9_16 ?_
      refine as_bipush X (by decide +kernel : decode cX9_learn 90 = .ok (.bipush 9, 2)) rfl ?_
      refine as_aload_n X (by decide +kernel : decode cX9_learn 92 = .ok (.aload_n 0, 1)) rfl ?_
      refine as_get X fc_X9 (by decide +kernel : decode cX9_learn 93 = .ok (.getfield 116, 3)) (by decide) fl_X9_116 ?_
      refine as_imul X (by decide +kernel : decode cX9_learn 96 = .ok (.imul, 1)) ?_
      refine as_iload_n X (by decide +kernel : decode cX9_learn 97 = .ok (.iload_n 2, 1)) rfl ?_
      refine as_iadd X (by decide +kernel : decode cX9_learn 98 = .ok (.iadd, 1)) ?_
      refine as_aload_n X (by decide +kernel : decode cX9_learn 99 = .ok (.aload_n 0, 1)) rfl ?_
      refine as_get X fc_X9 (by decide +kernel : decode cX9_learn 100 = .ok (.getfield 25, 3)) (by decide) fl_X9_25 ?_
      refine as_bipush X (by decide +kernel : decode cX9_learn 103 = .ok (.bipush 9, 2)) rfl ?_
      refine as_iload_n X (by decide +kernel : decode cX9_learn 105 = .ok (.iload_n 1, 1)) rfl ?_
      refine as_imul X (by decide +kernel : decode cX9_learn 106 = .ok (.imul, 1)) ?_
      refine as_iload_n X (by decide +kernel : decode cX9_learn 107 = .ok (.iload_n 2, 1)) rfl ?_
      refine as_iadd X (by decide +kernel : decode cX9_learn 108 = .ok (.iadd, 1)) ?_
      refine as_iaload X (by decide +kernel : decode cX9_learn 109 = .ok (.iaload, 1)) ?_
      refine as_iastore X (by decide +kernel : decode cX9_learn 110 = .ok (.iastore, 1)) ?_
      refine as_iinc X (by decide +kernel : decode cX9_learn 111 = .ok (.iinc 2 1, 3)) rfl ?_
      refine as_goto X (tgt := 80) (by decide +kernel : decode cX9_learn 114 = .ok (.goto (-34), 3)) (by decide) ?_
      exact fun _ _ _ h => h

def B_X9_isEntry_0 (kX9_isIn : am_T) (Q : am_Q) (G : Nat → am_K) : am_K := (ak_il 1 (ak_c (.int 0) (ak_al 0 (ak_get 7 2 (ak_c (.int 1) (ak_ib (fun x y => x - y) (ak_cs 3 kX9_isIn (ak_rz Q))))))))
def cl_X9_isEntry (kX9_isIn : am_T) (Q : am_Q) (G : Nat → am_K) : Prop := am_N G 0 (B_X9_isEntry_0 kX9_isIn Q G)
def WP_X9_isEntry (kX9_isIn : am_T) : am_T := fun av h Q => (lg_sl av).length ≤ 2 ∧ ∀ G, cl_X9_isEntry kX9_isIn Q G → G 0 (am_ent 2 av) [] h
set_option maxHeartbeats 4000000 in
set_option maxRecDepth 100000 in
theorem s_X9_isEntry {mX9_isIn : Room} {kX9_isIn : am_T} (h_X9_isIn : am_S false yX9_isIn (am_ws yX9_isIn cX9_isIn 3 (some .boolean)) mX9_isIn kX9_isIn) {rm : Room} (hz : rm.cells = 0 ∧ rm.slots = 0) (R_X9_isIn : mX9_isIn.frames + 1 ≤ rm.frames ∧ 8 + (3 + 11) + mX9_isIn.locals ≤ rm.locals) : am_S false yX9_isEntry (am_ws yX9_isEntry cX9_isEntry 2 (some .boolean)) rm (WP_X9_isEntry kX9_isIn) := by
  refine am_S.of (fun _ => hz) (by decide +kernel) (fun h0 Q G => cl_X9_isEntry kX9_isIn Q G) ?_
  intro p l e s m args below meth c D h0 Q X hr hnm hQ
  show am_N _ 0 (B_X9_isEntry_0  kX9_isIn Q _)
  · unfold B_X9_isEntry_0
    refine as_iload_n X (by decide +kernel : decode cX9_isEntry 0 = .ok (.iload_n 1, 1)) rfl ?_
    refine as_iconst X (by decide +kernel : decode cX9_isEntry 1 = .ok (.iconst 0, 1)) rfl ?_
    refine as_aload_n X (by decide +kernel : decode cX9_isEntry 2 = .ok (.aload_n 0, 1)) rfl ?_
    refine as_get X fc_X9 (by decide +kernel : decode cX9_isEntry 3 = .ok (.getfield 116, 3)) (by decide) fl_X9_116 ?_
    refine as_iconst X (by decide +kernel : decode cX9_isEntry 6 = .ok (.iconst 1, 1)) rfl ?_
    refine as_isub X (by decide +kernel : decode cX9_isEntry 7 = .ok (.isub, 1)) ?_
    refine as_cs X h_X9_isIn (by decide +kernel : decode cX9_isEntry 8 = .ok (.invokestatic 135, 3)) dn_X9_isIn ml_X9_135 st_X9_isIn ini_X9 co_X9_isIn R_X9_isIn ?_
    exact as_rz X hQ hr (by decide +kernel : decode cX9_isEntry 11 = .ok (.ireturn, 1))

def B_X9_forget_0 (kX9_isEntry : am_T) (Q : am_Q) (G : Nat → am_K) : am_K := (ak_al 0 (ak_il 1 (ak_cv 2 7 kX9_isEntry (ak_if (fun x => x = 0) (ak_c (.int (-1)) (ak_ri Q)) (ak_al 0 (ak_dup (ak_get 7 2 (ak_c (.int 1) (ak_ib (fun x y => x - y) (ak_puti 7 2 (ak_c (.int 8) (ak_il 1 (ak_ib (fun x y => x * y) (ak_is 2 (G 25)))))))))))))))
def B_X9_forget_25 (kX9_isEntry : am_T) (Q : am_Q) (G : Nat → am_K) : am_K := (ak_il 2 (ak_c (.int 8) (ak_al 0 (ak_get 7 2 (ak_ib (fun x y => x * y) (ak_ic (fun x y => y ≤ x) (ak_c (.int 9) (ak_il 1 (ak_ib (fun x y => x * y) (ak_is 2 (G 62))))) (ak_al 0 (ak_get 7 3 (ak_il 2 (ak_al 0 (ak_get 7 3 (ak_il 2 (ak_c (.int 8) (ak_ib (fun x y => x + y) (ak_iald (ak_iast (ak_ii 2 1 (G 25))))))))))))))))))
def B_X9_forget_62 (kX9_isEntry : am_T) (Q : am_Q) (G : Nat → am_K) : am_K := (ak_il 2 (ak_c (.int 9) (ak_al 0 (ak_get 7 2 (ak_ib (fun x y => x * y) (ak_ic (fun x y => y ≤ x) (ak_il 1 (ak_is 2 (G 96))) (ak_al 0 (ak_get 7 4 (ak_il 2 (ak_al 0 (ak_get 7 4 (ak_il 2 (ak_c (.int 9) (ak_ib (fun x y => x + y) (ak_iald (ak_iast (ak_ii 2 1 (G 62))))))))))))))))))
def B_X9_forget_96 (kX9_isEntry : am_T) (Q : am_Q) (G : Nat → am_K) : am_K := (ak_il 2 (ak_al 0 (ak_get 7 2 (ak_ic (fun x y => y ≤ x) (ak_al 0 (ak_c (.int 0) (ak_puti 7 16 (ak_al 0 (ak_get 7 2 (ak_ri Q)))))) (ak_al 0 (ak_get 7 5 (ak_il 2 (ak_al 0 (ak_get 7 5 (ak_il 2 (ak_c (.int 1) (ak_ib (fun x y => x + y) (ak_iald (ak_iast (ak_ii 2 1 (G 96))))))))))))))))
def cl_X9_forget (kX9_isEntry : am_T) (Q : am_Q) (G : Nat → am_K) : Prop := am_N G 0 (B_X9_forget_0 kX9_isEntry Q G) ∧ am_N G 25 (B_X9_forget_25 kX9_isEntry Q G) ∧ am_N G 62 (B_X9_forget_62 kX9_isEntry Q G) ∧ am_N G 96 (B_X9_forget_96 kX9_isEntry Q G)
def WP_X9_forget (kX9_isEntry : am_T) : am_T := fun av h Q => (lg_sl av).length ≤ 3 ∧ ∀ G, cl_X9_forget kX9_isEntry Q G → G 0 (am_ent 3 av) [] h
set_option maxHeartbeats 4000000 in
set_option maxRecDepth 100000 in
theorem s_X9_forget {mX9_isEntry : Room} {kX9_isEntry : am_T} (h_X9_isEntry : am_S false yX9_isEntry (am_ws yX9_isEntry cX9_isEntry 2 (some .boolean)) mX9_isEntry kX9_isEntry) {rm : Room} (hz : rm.cells = 0 ∧ rm.slots = 0) (R_X9_isEntry : mX9_isEntry.frames + 1 ≤ rm.frames ∧ 8 + (2 + 11) + mX9_isEntry.locals ≤ rm.locals) : am_S false yX9_forget (am_ws yX9_forget cX9_forget 3 (some .int)) rm (WP_X9_forget kX9_isEntry) := by
  refine am_S.of (fun _ => hz) (by decide +kernel) (fun h0 Q G => cl_X9_forget kX9_isEntry Q G) ?_
  intro p l e s m args below meth c D h0 Q X hr hnm hQ
  refine ⟨?_, ?_, ?_, ?_⟩
  · unfold B_X9_forget_0
    refine as_aload_n X (by decide +kernel : decode cX9_forget 0 = .ok (.aload_n 0, 1)) rfl ?_
    refine as_iload_n X (by decide +kernel : decode cX9_forget 1 = .ok (.iload_n 1, 1)) rfl ?_
    refine as_cv X h_X9_isEntry rfl (by decide +kernel : decode cX9_forget 2 = .ok (.invokevirtual 139, 3)) dn_X9_isEntry ml_X9_139 im_X9_isEntry se_X9_isEntry ini_X9 co_X9_isEntry R_X9_isEntry ?_
    refine as_if_ne X (tgt := 10) (by decide +kernel : decode cX9_forget 5 = .ok (.ifCond .ne 5, 3)) (by decide) ?_ ?_
    · refine as_iconst X (by decide +kernel : decode cX9_forget 8 = .ok (.iconst (-1), 1)) rfl ?_
      exact as_ri X hQ hr (by decide +kernel : decode cX9_forget 9 = .ok (.ireturn, 1))
    · refine as_aload_n X (by decide +kernel : decode cX9_forget 10 = .ok (.aload_n 0, 1)) rfl ?_
      refine as_dup X (by decide +kernel : decode cX9_forget 11 = .ok (.dup, 1)) ?_
      refine as_get X fc_X9 (by decide +kernel : decode cX9_forget 12 = .ok (.getfield 116, 3)) (by decide) fl_X9_116 ?_
      refine as_iconst X (by decide +kernel : decode cX9_forget 15 = .ok (.iconst 1, 1)) rfl ?_
      refine as_isub X (by decide +kernel : decode cX9_forget 16 = .ok (.isub, 1)) ?_
      refine as_puti X fc_X9 (by decide +kernel : decode cX9_forget 17 = .ok (.putfield 116, 3)) (by decide) fl_X9_116 (Or.inl rfl) rfl ?_
      refine as_bipush X (by decide +kernel : decode cX9_forget 20 = .ok (.bipush 8, 2)) rfl ?_
      refine as_iload_n X (by decide +kernel : decode cX9_forget 22 = .ok (.iload_n 1, 1)) rfl ?_
      refine as_imul X (by decide +kernel : decode cX9_forget 23 = .ok (.imul, 1)) ?_
      refine as_istore_n X (by decide +kernel : decode cX9_forget 24 = .ok (.istore_n 2, 1)) rfl ?_
      exact fun _ _ _ h => h
  · unfold B_X9_forget_25
    refine as_iload_n X (by decide +kernel : decode cX9_forget 25 = .ok (.iload_n 2, 1)) rfl ?_
    refine as_bipush X (by decide +kernel : decode cX9_forget 26 = .ok (.bipush 8, 2)) rfl ?_
    refine as_aload_n X (by decide +kernel : decode cX9_forget 28 = .ok (.aload_n 0, 1)) rfl ?_
    refine as_get X fc_X9 (by decide +kernel : decode cX9_forget 29 = .ok (.getfield 116, 3)) (by decide) fl_X9_116 ?_
    refine as_imul X (by decide +kernel : decode cX9_forget 32 = .ok (.imul, 1)) ?_
    refine as_ic_ge X (tgt := 57) (by decide +kernel : decode cX9_forget 33 = .ok (.if_icmp .ge 24, 3)) (by decide) ?_ ?_
    · refine as_bipush X (by decide +kernel : decode cX9_forget 57 = .ok (.bipush 9, 2)) rfl ?_
      refine as_iload_n X (by decide +kernel : decode cX9_forget 59 = .ok (.iload_n 1, 1)) rfl ?_
      refine as_imul X (by decide +kernel : decode cX9_forget 60 = .ok (.imul, 1)) ?_
      refine as_istore_n X (by decide +kernel : decode cX9_forget 61 = .ok (.istore_n 2, 1)) rfl ?_
      exact fun _ _ _ h => h
    · refine as_aload_n X (by decide +kernel : decode cX9_forget 36 = .ok (.aload_n 0, 1)) rfl ?_
      refine as_get X fc_X9 (by decide +kernel : decode cX9_forget 37 = .ok (.getfield 13, 3)) (by decide) fl_X9_13 ?_
      refine as_iload_n X (by decide +kernel : decode cX9_forget 40 = .ok (.iload_n 2, 1)) rfl ?_
      refine as_aload_n X (by decide +kernel : decode cX9_forget 41 = .ok (.aload_n 0, 1)) rfl ?_
      refine as_get X fc_X9 (by decide +kernel : decode cX9_forget 42 = .ok (.getfield 13, 3)) (by decide) fl_X9_13 ?_
      refine as_iload_n X (by decide +kernel : decode cX9_forget 45 = .ok (.iload_n 2, 1)) rfl ?_
      refine as_bipush X (by decide +kernel : decode cX9_forget 46 = .ok (.bipush 8, 2)) rfl ?_
      refine as_iadd X (by decide +kernel : decode cX9_forget 48 = .ok (.iadd, 1)) ?_
      refine as_iaload X (by decide +kernel : decode cX9_forget 49 = .ok (.iaload, 1)) ?_
      refine as_iastore X (by decide +kernel : decode cX9_forget 50 = .ok (.iastore, 1)) ?_
      refine as_iinc X (by decide +kernel : decode cX9_forget 51 = .ok (.iinc 2 1, 3)) rfl ?_
      refine as_goto X (tgt := 25) (by decide +kernel : decode cX9_forget 54 = .ok (.goto (-29), 3)) (by decide) ?_
      exact fun _ _ _ h => h
  · unfold B_X9_forget_62
    refine as_iload_n X (by decide +kernel : decode cX9_forget 62 = .ok (.iload_n 2, 1)) rfl ?_
    refine as_bipush X (by decide +kernel : decode cX9_forget 63 = .ok (.bipush 9, 2)) rfl ?_
    refine as_aload_n X (by decide +kernel : decode cX9_forget 65 = .ok (.aload_n 0, 1)) rfl ?_
    refine as_get X fc_X9 (by decide +kernel : decode cX9_forget 66 = .ok (.getfield 116, 3)) (by decide) fl_X9_116 ?_
    refine as_imul X (by decide +kernel : decode cX9_forget 69 = .ok (.imul, 1)) ?_
    refine as_ic_ge X (tgt := 94) (by decide +kernel : decode cX9_forget 70 = .ok (.if_icmp .ge 24, 3)) (by decide) ?_ ?_
    · refine as_iload_n X (by decide +kernel : decode cX9_forget 94 = .ok (.iload_n 1, 1)) rfl ?_
      refine as_istore_n X (by decide +kernel : decode cX9_forget 95 = .ok (.istore_n 2, 1)) rfl ?_
      exact fun _ _ _ h => h
    · refine as_aload_n X (by decide +kernel : decode cX9_forget 73 = .ok (.aload_n 0, 1)) rfl ?_
      refine as_get X fc_X9 (by decide +kernel : decode cX9_forget 74 = .ok (.getfield 16, 3)) (by decide) fl_X9_16 ?_
      refine as_iload_n X (by decide +kernel : decode cX9_forget 77 = .ok (.iload_n 2, 1)) rfl ?_
      refine as_aload_n X (by decide +kernel : decode cX9_forget 78 = .ok (.aload_n 0, 1)) rfl ?_
      refine as_get X fc_X9 (by decide +kernel : decode cX9_forget 79 = .ok (.getfield 16, 3)) (by decide) fl_X9_16 ?_
      refine as_iload_n X (by decide +kernel : decode cX9_forget 82 = .ok (.iload_n 2, 1)) rfl ?_
      refine as_bipush X (by decide +kernel : decode cX9_forget 83 = .ok (.bipush 9, 2)) rfl ?_
      refine as_iadd X (by decide +kernel : decode cX9_forget 85 = .ok (.iadd, 1)) ?_
      refine as_iaload X (by decide +kernel : decode cX9_forget 86 = .ok (.iaload, 1)) ?_
      refine as_iastore X (by decide +kernel : decode cX9_forget 87 = .ok (.iastore, 1)) ?_
      refine as_iinc X (by decide +kernel : decode cX9_forget 88 = .ok (.iinc 2 1, 3)) rfl ?_
      refine as_goto X (tgt := 62) (by decide +kernel : decode cX9_forget 91 = .ok (.goto (-29), 3)) (by decide) ?_
      exact fun _ _ _ h => h
  · unfold B_X9_forget_96
    refine as_iload_n X (by decide +kernel : decode cX9_forget 96 = .ok (.iload_n 2, 1)) rfl ?_
    refine as_aload_n X (by decide +kernel : decode cX9_forget 97 = .ok (.aload_n 0, 1)) rfl ?_
    refine as_get X fc_X9 (by decide +kernel : decode cX9_forget 98 = .ok (.getfield 116, 3)) (by decide) fl_X9_116 ?_
    refine as_ic_ge X (tgt := 124) (by decide +kernel : decode cX9_forget 101 = .ok (.if_icmp .ge 23, 3)) (by decide) ?_ ?_
    · refine as_aload_n X (by decide +kernel : decode cX9_forget 124 = .ok (.aload_n 0, 1)) rfl ?_
      refine as_iconst X (by decide +kernel : decode cX9_forget 125 = .ok (.iconst 0, 1)) rfl ?_
      refine as_puti X fc_X9 (by decide +kernel : decode cX9_forget 126 = .ok (.putfield 132, 3)) (by decide) fl_X9_132 (Or.inl rfl) rfl ?_
      refine as_aload_n X (by decide +kernel : decode cX9_forget 129 = .ok (.aload_n 0, 1)) rfl ?_
      refine as_get X fc_X9 (by decide +kernel : decode cX9_forget 130 = .ok (.getfield 116, 3)) (by decide) fl_X9_116 ?_
      exact as_ri X hQ hr (by decide +kernel : decode cX9_forget 133 = .ok (.ireturn, 1))
    · refine as_aload_n X (by decide +kernel : decode cX9_forget 104 = .ok (.aload_n 0, 1)) rfl ?_
      refine as_get X fc_X9 (by decide +kernel : decode cX9_forget 105 = .ok (.getfield 19, 3)) (by decide) fl_X9_19 ?_
      refine as_iload_n X (by decide +kernel : decode cX9_forget 108 = .ok (.iload_n 2, 1)) rfl ?_
      refine as_aload_n X (by decide +kernel : decode cX9_forget 109 = .ok (.aload_n 0, 1)) rfl ?_
      refine as_get X fc_X9 (by decide +kernel : decode cX9_forget 110 = .ok (.getfield 19, 3)) (by decide) fl_X9_19 ?_
      refine as_iload_n X (by decide +kernel : decode cX9_forget 113 = .ok (.iload_n 2, 1)) rfl ?_
      refine as_iconst X (by decide +kernel : decode cX9_forget 114 = .ok (.iconst 1, 1)) rfl ?_
      refine as_iadd X (by decide +kernel : decode cX9_forget 115 = .ok (.iadd, 1)) ?_
      refine as_iaload X (by decide +kernel : decode cX9_forget 116 = .ok (.iaload, 1)) ?_
      refine as_iastore X (by decide +kernel : decode cX9_forget 117 = .ok (.iastore, 1)) ?_
      refine as_iinc X (by decide +kernel : decode cX9_forget 118 = .ok (.iinc 2 1, 3)) rfl ?_
      refine as_goto X (tgt := 96) (by decide +kernel : decode cX9_forget 121 = .ok (.goto (-25), 3)) (by decide) ?_
      exact fun _ _ _ h => h

def B_X9_clue_0 (kX9_small : am_T) (kX9_letterAt : am_T) (Q : am_Q) (G : Nat → am_K) : am_K := (ak_c (.int 0) (ak_is 1 (ak_c (.int 0) (ak_is 2 (ak_c (.int 1) (ak_is 3 (G 6)))))))
def B_X9_clue_6 (kX9_small : am_T) (kX9_letterAt : am_T) (Q : am_Q) (G : Nat → am_K) : am_K := (ak_il 3 (ak_if (fun x => x = 0) (ak_il 2 (ak_al 0 (ak_get 7 0 (ak_ic (fun x y => x < y) (G 96) (ak_il 1 (ak_c (.int 2) (ak_ic (fun x y => y ≤ x) (ak_c (.int 0) (ak_is 4 (G 102))) (G 96)))))))) (ak_il 1 (ak_c (.int 6) (ak_ic (fun x y => y ≤ x) (ak_il 2 (G 35)) (ak_al 0 (ak_il 2 (ak_c (.int 7) (ak_al 0 (ak_get 7 38 (ak_c (.int 8) (ak_il 1 (ak_ib (fun x y => x * y) (ak_cv 5 7 kX9_small (G 35)))))))))))))))
def B_X9_clue_35 (kX9_small : am_T) (kX9_letterAt : am_T) (Q : am_Q) (G : Nat → am_K) : am_K := (ak_is 4 (ak_il 4 (ak_il 2 (ak_ic (fun x y => x = y) (ak_c (.int (-2)) (ak_ri Q)) (ak_ii 1 1 (ak_al 0 (ak_il 4 (ak_cv 2 7 kX9_letterAt (ak_c (.int 32) (ak_ic (fun x y => x = y) (ak_c (.int 1) (G 65)) (ak_c (.int 0) (G 65))))))))))))
def B_X9_clue_65 (kX9_small : am_T) (kX9_letterAt : am_T) (Q : am_Q) (G : Nat → am_K) : am_K := (ak_is 3 (ak_il 3 (ak_if (fun x => x = 0) (ak_il 4 (G 79)) (ak_il 4 (ak_c (.int 1) (ak_ib (fun x y => x + y) (G 79)))))))
def B_X9_clue_79 (kX9_small : am_T) (kX9_letterAt : am_T) (Q : am_Q) (G : Nat → am_K) : am_K := (ak_is 2 (G 6))
def B_X9_clue_96 (kX9_small : am_T) (kX9_letterAt : am_T) (Q : am_Q) (G : Nat → am_K) : am_K := (ak_c (.int (-2)) (ak_ri Q))
def B_X9_clue_102 (kX9_small : am_T) (kX9_letterAt : am_T) (Q : am_Q) (G : Nat → am_K) : am_K := (ak_il 4 (ak_c (.int 48) (ak_ic (fun x y => y ≤ x) (ak_al 0 (ak_il 1 (ak_puti 7 10 (ak_al 0 (ak_c (.int 0) (ak_puti 7 16 (ak_il 1 (ak_ri Q)))))))) (ak_al 0 (ak_get 7 11 (ak_il 4 (ak_al 0 (ak_get 7 38 (ak_il 4 (ak_iald (ak_iast (ak_ii 4 1 (G 102)))))))))))))
def cl_X9_clue (kX9_small : am_T) (kX9_letterAt : am_T) (Q : am_Q) (G : Nat → am_K) : Prop := am_N G 0 (B_X9_clue_0 kX9_small kX9_letterAt Q G) ∧ am_N G 6 (B_X9_clue_6 kX9_small kX9_letterAt Q G) ∧ am_N G 35 (B_X9_clue_35 kX9_small kX9_letterAt Q G) ∧ am_N G 65 (B_X9_clue_65 kX9_small kX9_letterAt Q G) ∧ am_N G 79 (B_X9_clue_79 kX9_small kX9_letterAt Q G) ∧ am_N G 96 (B_X9_clue_96 kX9_small kX9_letterAt Q G) ∧ am_N G 102 (B_X9_clue_102 kX9_small kX9_letterAt Q G)
def WP_X9_clue (kX9_small : am_T) (kX9_letterAt : am_T) : am_T := fun av h Q => (lg_sl av).length ≤ 5 ∧ ∀ G, cl_X9_clue kX9_small kX9_letterAt Q G → G 0 (am_ent 5 av) [] h
set_option maxHeartbeats 4000000 in
set_option maxRecDepth 100000 in
theorem s_X9_clue {mX9_small : Room} {kX9_small : am_T} (h_X9_small : am_S false yX9_small (am_ws yX9_small cX9_small 6 (some .int)) mX9_small kX9_small) {mX9_letterAt : Room} {kX9_letterAt : am_T} (h_X9_letterAt : am_S false yX9_letterAt (am_ws yX9_letterAt cX9_letterAt 2 (some .int)) mX9_letterAt kX9_letterAt) {rm : Room} (hz : rm.cells = 0 ∧ rm.slots = 0) (R_X9_small : mX9_small.frames + 1 ≤ rm.frames ∧ 8 + (6 + 11) + mX9_small.locals ≤ rm.locals) (R_X9_letterAt : mX9_letterAt.frames + 1 ≤ rm.frames ∧ 8 + (2 + 11) + mX9_letterAt.locals ≤ rm.locals) : am_S false yX9_clue (am_ws yX9_clue cX9_clue 5 (some .int)) rm (WP_X9_clue kX9_small kX9_letterAt) := by
  refine am_S.of (fun _ => hz) (by decide +kernel) (fun h0 Q G => cl_X9_clue kX9_small kX9_letterAt Q G) ?_
  intro p l e s m args below meth c D h0 Q X hr hnm hQ
  refine ⟨?_, ?_, ?_, ?_, ?_, ?_, ?_⟩
  · unfold B_X9_clue_0
    refine as_iconst X (by decide +kernel : decode cX9_clue 0 = .ok (.iconst 0, 1)) rfl ?_
    refine as_istore_n X (by decide +kernel : decode cX9_clue 1 = .ok (.istore_n 1, 1)) rfl ?_
    refine as_iconst X (by decide +kernel : decode cX9_clue 2 = .ok (.iconst 0, 1)) rfl ?_
    refine as_istore_n X (by decide +kernel : decode cX9_clue 3 = .ok (.istore_n 2, 1)) rfl ?_
    refine as_iconst X (by decide +kernel : decode cX9_clue 4 = .ok (.iconst 1, 1)) rfl ?_
    refine as_istore_n X (by decide +kernel : decode cX9_clue 5 = .ok (.istore_n 3, 1)) rfl ?_
    exact fun _ _ _ h => h
  · unfold B_X9_clue_6
    refine as_iload_n X (by decide +kernel : decode cX9_clue 6 = .ok (.iload_n 3, 1)) rfl ?_
    refine as_if_eq X (tgt := 83) (by decide +kernel : decode cX9_clue 7 = .ok (.ifCond .eq 76, 3)) (by decide) ?_ ?_
    · refine as_iload_n X (by decide +kernel : decode cX9_clue 83 = .ok (.iload_n 2, 1)) rfl ?_
      refine as_aload_n X (by decide +kernel : decode cX9_clue 84 = .ok (.aload_n 0, 1)) rfl ?_
      refine as_get X fc_X9 (by decide +kernel : decode cX9_clue 85 = .ok (.getfield 89, 3)) (by decide) fl_X9_89 ?_
      refine as_ic_lt X (tgt := 96) (by decide +kernel : decode cX9_clue 88 = .ok (.if_icmp .lt 8, 3)) (by decide) ?_ ?_
      · exact fun _ _ _ h => h
      · refine as_iload_n X (by decide +kernel : decode cX9_clue 91 = .ok (.iload_n 1, 1)) rfl ?_
        refine as_iconst X (by decide +kernel : decode cX9_clue 92 = .ok (.iconst 2, 1)) rfl ?_
        refine as_ic_ge X (tgt := 99) (by decide +kernel : decode cX9_clue 93 = .ok (.if_icmp .ge 6, 3)) (by decide) ?_ ?_
        · refine as_iconst X (by decide +kernel : decode cX9_clue 99 = .ok (.iconst 0, 1)) rfl ?_
          refine as_istore X (by decide +kernel : decode cX9_clue 100 = .ok (.istore 4, 2)) ?_
          exact fun _ _ _ h => h
        · exact fun _ _ _ h => h
    · refine as_iload_n X (by decide +kernel : decode cX9_clue 10 = .ok (.iload_n 1, 1)) rfl ?_
      refine as_bipush X (by decide +kernel : decode cX9_clue 11 = .ok (.bipush 6, 2)) rfl ?_
      refine as_ic_ge X (tgt := 34) (by decide +kernel : decode cX9_clue 13 = .ok (.if_icmp .ge 21, 3)) (by decide) ?_ ?_
      · refine as_iload_n X (by decide +kernel : decode cX9_clue 34 = .ok (.iload_n 2, 1)) rfl ?_
        exact fun _ _ _ h => h
      · refine as_aload_n X (by decide +kernel : decode cX9_clue 16 = .ok (.aload_n 0, 1)) rfl ?_
        refine as_iload_n X (by decide +kernel : decode cX9_clue 17 = .ok (.iload_n 2, 1)) rfl ?_
        refine as_bipush X (by decide +kernel : decode cX9_clue 18 = .ok (.bipush 7, 2)) rfl ?_
        refine as_aload_n X (by decide +kernel : decode cX9_clue 20 = .ok (.aload_n 0, 1)) rfl ?_
        refine as_get X fc_X9 (by decide +kernel : decode cX9_clue 21 = .ok (.getfield 78, 3)) (by decide) fl_X9_78 ?_
        refine as_bipush X (by decide +kernel : decode cX9_clue 24 = .ok (.bipush 8, 2)) rfl ?_
        refine as_iload_n X (by decide +kernel : decode cX9_clue 26 = .ok (.iload_n 1, 1)) rfl ?_
        refine as_imul X (by decide +kernel : decode cX9_clue 27 = .ok (.imul, 1)) ?_
        refine as_cv X h_X9_small rfl (by decide +kernel : decode cX9_clue 28 = .ok (.invokevirtual 109, 3)) dn_X9_small ml_X9_109 im_X9_small se_X9_small ini_X9 co_X9_small R_X9_small ?_
        refine as_goto X (tgt := 35) (by decide +kernel : decode cX9_clue 31 = .ok (.goto 4, 3)) (by decide) ?_
        exact fun _ _ _ h => h
  · unfold B_X9_clue_35
    refine as_istore X (by decide +kernel : decode cX9_clue 35 = .ok (.istore 4, 2)) ?_
    refine as_iload X (by decide +kernel : decode cX9_clue 37 = .ok (.iload 4, 2)) ?_
    refine as_iload_n X (by decide +kernel : decode cX9_clue 39 = .ok (.iload_n 2, 1)) rfl ?_
    refine as_ic_ne X (tgt := 46) (by decide +kernel : decode cX9_clue 40 = .ok (.if_icmp .ne 6, 3)) (by decide) ?_ ?_
    · refine as_bipush X (by decide +kernel : decode cX9_clue 43 = .ok (.bipush (-2), 2)) rfl ?_
      exact as_ri X hQ hr (by decide +kernel : decode cX9_clue 45 = .ok (.ireturn, 1))
    · refine as_iinc X (by decide +kernel : decode cX9_clue 46 = .ok (.iinc 1 1, 3)) rfl ?_
      refine as_aload_n X (by decide +kernel : decode cX9_clue 49 = .ok (.aload_n 0, 1)) rfl ?_
      refine as_iload X (by decide +kernel : decode cX9_clue 50 = .ok (.iload 4, 2)) ?_
      refine as_cv X h_X9_letterAt rfl (by decide +kernel : decode cX9_clue 52 = .ok (.invokevirtual 99, 3)) dn_X9_letterAt ml_X9_99 im_X9_letterAt se_X9_letterAt ini_X9 co_X9_letterAt R_X9_letterAt ?_
      refine as_bipush X (by decide +kernel : decode cX9_clue 55 = .ok (.bipush 32, 2)) rfl ?_
      refine as_ic_ne X (tgt := 64) (by decide +kernel : decode cX9_clue 57 = .ok (.if_icmp .ne 7, 3)) (by decide) ?_ ?_
      · refine as_iconst X (by decide +kernel : decode cX9_clue 60 = .ok (.iconst 1, 1)) rfl ?_
        refine as_goto X (tgt := 65) (by decide +kernel : decode cX9_clue 61 = .ok (.goto 4, 3)) (by decide) ?_
        exact fun _ _ _ h => h
      · refine as_iconst X (by decide +kernel : decode cX9_clue 64 = .ok (.iconst 0, 1)) rfl ?_
        exact fun _ _ _ h => h
  · unfold B_X9_clue_65
    refine as_istore_n X (by decide +kernel : decode cX9_clue 65 = .ok (.istore_n 3, 1)) rfl ?_
    refine as_iload_n X (by decide +kernel : decode cX9_clue 66 = .ok (.iload_n 3, 1)) rfl ?_
    refine as_if_eq X (tgt := 77) (by decide +kernel : decode cX9_clue 67 = .ok (.ifCond .eq 10, 3)) (by decide) ?_ ?_
    · refine as_iload X (by decide +kernel : decode cX9_clue 77 = .ok (.iload 4, 2)) ?_
      exact fun _ _ _ h => h
    · refine as_iload X (by decide +kernel : decode cX9_clue 70 = .ok (.iload 4, 2)) ?_
      refine as_iconst X (by decide +kernel : decode cX9_clue 72 = .ok (.iconst 1, 1)) rfl ?_
      refine as_iadd X (by decide +kernel : decode cX9_clue 73 = .ok (.iadd, 1)) ?_
      refine as_goto X (tgt := 79) (by decide +kernel : decode cX9_clue 74 = .ok (.goto 5, 3)) (by decide) ?_
      exact fun _ _ _ h => h
  · unfold B_X9_clue_79
    refine as_istore_n X (by decide +kernel : decode cX9_clue 79 = .ok (.istore_n 2, 1)) rfl ?_
    refine as_goto X (tgt := 6) (by decide +kernel : decode cX9_clue 80 = .ok (.goto (-74), 3)) (by decide) ?_
    exact fun _ _ _ h => h
  · unfold B_X9_clue_96
    refine as_bipush X (by decide +kernel : decode cX9_clue 96 = .ok (.bipush (-2), 2)) rfl ?_
    exact as_ri X hQ hr (by decide +kernel : decode cX9_clue 98 = .ok (.ireturn, 1))
  · unfold B_X9_clue_102
    refine as_iload X (by decide +kernel : decode cX9_clue 102 = .ok (.iload 4, 2)) ?_
    refine as_bipush X (by decide +kernel : decode cX9_clue 104 = .ok (.bipush 48, 2)) rfl ?_
    refine as_ic_ge X (tgt := 129) (by decide +kernel : decode cX9_clue 106 = .ok (.if_icmp .ge 23, 3)) (by decide) ?_ ?_
    · refine as_aload_n X (by decide +kernel : decode cX9_clue 129 = .ok (.aload_n 0, 1)) rfl ?_
      refine as_iload_n X (by decide +kernel : decode cX9_clue 130 = .ok (.iload_n 1, 1)) rfl ?_
      refine as_puti X fc_X9 (by decide +kernel : decode cX9_clue 131 = .ok (.putfield 142, 3)) (by decide) fl_X9_142 (Or.inl rfl) rfl ?_
      refine as_aload_n X (by decide +kernel : decode cX9_clue 134 = .ok (.aload_n 0, 1)) rfl ?_
      refine as_iconst X (by decide +kernel : decode cX9_clue 135 = .ok (.iconst 0, 1)) rfl ?_
      refine as_puti X fc_X9 (by decide +kernel : decode cX9_clue 136 = .ok (.putfield 132, 3)) (by decide) fl_X9_132 (Or.inl rfl) rfl ?_
      refine as_iload_n X (by decide +kernel : decode cX9_clue 139 = .ok (.iload_n 1, 1)) rfl ?_
      exact as_ri X hQ hr (by decide +kernel : decode cX9_clue 140 = .ok (.ireturn, 1))
    · refine as_aload_n X (by decide +kernel : decode cX9_clue 109 = .ok (.aload_n 0, 1)) rfl ?_
      refine as_get X fc_X9 (by decide +kernel : decode cX9_clue 110 = .ok (.getfield 31, 3)) (by decide) fl_X9_31 ?_
      refine as_iload X (by decide +kernel : decode cX9_clue 113 = .ok (.iload 4, 2)) ?_
      refine as_aload_n X (by decide +kernel : decode cX9_clue 115 = .ok (.aload_n 0, 1)) rfl ?_
      refine as_get X fc_X9 (by decide +kernel : decode cX9_clue 116 = .ok (.getfield 78, 3)) (by decide) fl_X9_78 ?_
      refine as_iload X (by decide +kernel : decode cX9_clue 119 = .ok (.iload 4, 2)) ?_
      refine as_iaload X (by decide +kernel : decode cX9_clue 121 = .ok (.iaload, 1)) ?_
      refine as_iastore X (by decide +kernel : decode cX9_clue 122 = .ok (.iastore, 1)) ?_
      refine as_iinc X (by decide +kernel : decode cX9_clue 123 = .ok (.iinc 4 1, 3)) rfl ?_
      refine as_goto X (tgt := 102) (by decide +kernel : decode cX9_clue 126 = .ok (.goto (-24), 3)) (by decide) ?_
      exact fun _ _ _ h => h

def B_X9_answer_0 (kX9_isIn : am_T) (kX9_small : am_T) (kX9_isSmall : am_T) (Q : am_Q) (G : Nat → am_K) : am_K := (ak_c (.int 0) (ak_is 1 (G 2)))
def B_X9_answer_2 (kX9_isIn : am_T) (kX9_small : am_T) (kX9_isSmall : am_T) (Q : am_Q) (G : Nat → am_K) : am_K := (ak_il 1 (ak_al 0 (ak_get 7 0 (ak_ic (fun x y => y ≤ x) (ak_al 0 (ak_get 7 0 (ak_c (.int 2) (ak_c (.int 8) (ak_cs 3 kX9_isIn (ak_if (fun x => x = 0) (ak_c (.int (-2)) (ak_ri Q)) (ak_al 0 (ak_c (.int 0) (ak_c (.int 8) (ak_al 0 (ak_get 7 12 (ak_c (.int 0) (ak_cv 5 7 kX9_small (ak_pop (ak_al 0 (ak_c (.int 0) (ak_puti 7 16 (ak_al 0 (ak_get 7 0 (ak_ri Q)))))))))))))))))))) (ak_al 0 (ak_il 1 (ak_cv 2 7 kX9_isSmall (ak_if (fun x => x = 0) (ak_c (.int (-2)) (ak_ri Q)) (ak_ii 1 1 (G 2))))))))))
def cl_X9_answer (kX9_isIn : am_T) (kX9_small : am_T) (kX9_isSmall : am_T) (Q : am_Q) (G : Nat → am_K) : Prop := am_N G 0 (B_X9_answer_0 kX9_isIn kX9_small kX9_isSmall Q G) ∧ am_N G 2 (B_X9_answer_2 kX9_isIn kX9_small kX9_isSmall Q G)
def WP_X9_answer (kX9_isIn : am_T) (kX9_small : am_T) (kX9_isSmall : am_T) : am_T := fun av h Q => (lg_sl av).length ≤ 2 ∧ ∀ G, cl_X9_answer kX9_isIn kX9_small kX9_isSmall Q G → G 0 (am_ent 2 av) [] h
set_option maxHeartbeats 4000000 in
set_option maxRecDepth 100000 in
theorem s_X9_answer {mX9_isIn : Room} {kX9_isIn : am_T} (h_X9_isIn : am_S false yX9_isIn (am_ws yX9_isIn cX9_isIn 3 (some .boolean)) mX9_isIn kX9_isIn) {mX9_small : Room} {kX9_small : am_T} (h_X9_small : am_S false yX9_small (am_ws yX9_small cX9_small 6 (some .int)) mX9_small kX9_small) {mX9_isSmall : Room} {kX9_isSmall : am_T} (h_X9_isSmall : am_S false yX9_isSmall (am_ws yX9_isSmall cX9_isSmall 2 (some .boolean)) mX9_isSmall kX9_isSmall) {rm : Room} (hz : rm.cells = 0 ∧ rm.slots = 0) (R_X9_isIn : mX9_isIn.frames + 1 ≤ rm.frames ∧ 8 + (3 + 11) + mX9_isIn.locals ≤ rm.locals) (R_X9_small : mX9_small.frames + 1 ≤ rm.frames ∧ 8 + (6 + 11) + mX9_small.locals ≤ rm.locals) (R_X9_isSmall : mX9_isSmall.frames + 1 ≤ rm.frames ∧ 8 + (2 + 11) + mX9_isSmall.locals ≤ rm.locals) : am_S false yX9_answer (am_ws yX9_answer cX9_answer 2 (some .int)) rm (WP_X9_answer kX9_isIn kX9_small kX9_isSmall) := by
  refine am_S.of (fun _ => hz) (by decide +kernel) (fun h0 Q G => cl_X9_answer kX9_isIn kX9_small kX9_isSmall Q G) ?_
  intro p l e s m args below meth c D h0 Q X hr hnm hQ
  refine ⟨?_, ?_⟩
  · unfold B_X9_answer_0
    refine as_iconst X (by decide +kernel : decode cX9_answer 0 = .ok (.iconst 0, 1)) rfl ?_
    refine as_istore_n X (by decide +kernel : decode cX9_answer 1 = .ok (.istore_n 1, 1)) rfl ?_
    exact fun _ _ _ h => h
  · unfold B_X9_answer_2
    refine as_iload_n X (by decide +kernel : decode cX9_answer 2 = .ok (.iload_n 1, 1)) rfl ?_
    refine as_aload_n X (by decide +kernel : decode cX9_answer 3 = .ok (.aload_n 0, 1)) rfl ?_
    refine as_get X fc_X9 (by decide +kernel : decode cX9_answer 4 = .ok (.getfield 89, 3)) (by decide) fl_X9_89 ?_
    refine as_ic_ge X (tgt := 27) (by decide +kernel : decode cX9_answer 7 = .ok (.if_icmp .ge 20, 3)) (by decide) ?_ ?_
    · refine as_aload_n X (by decide +kernel : decode cX9_answer 27 = .ok (.aload_n 0, 1)) rfl ?_
      refine as_get X fc_X9 (by decide +kernel : decode cX9_answer 28 = .ok (.getfield 89, 3)) (by decide) fl_X9_89 ?_
      refine as_iconst X (by decide +kernel : decode cX9_answer 31 = .ok (.iconst 2, 1)) rfl ?_
      refine as_bipush X (by decide +kernel : decode cX9_answer 32 = .ok (.bipush 8, 2)) rfl ?_
      refine as_cs X h_X9_isIn (by decide +kernel : decode cX9_answer 34 = .ok (.invokestatic 135, 3)) dn_X9_isIn ml_X9_135 st_X9_isIn ini_X9 co_X9_isIn R_X9_isIn ?_
      refine as_if_ne X (tgt := 43) (by decide +kernel : decode cX9_answer 37 = .ok (.ifCond .ne 6, 3)) (by decide) ?_ ?_
      · refine as_bipush X (by decide +kernel : decode cX9_answer 40 = .ok (.bipush (-2), 2)) rfl ?_
        exact as_ri X hQ hr (by decide +kernel : decode cX9_answer 42 = .ok (.ireturn, 1))
      · refine as_aload_n X (by decide +kernel : decode cX9_answer 43 = .ok (.aload_n 0, 1)) rfl ?_
        refine as_iconst X (by decide +kernel : decode cX9_answer 44 = .ok (.iconst 0, 1)) rfl ?_
        refine as_bipush X (by decide +kernel : decode cX9_answer 45 = .ok (.bipush 8, 2)) rfl ?_
        refine as_aload_n X (by decide +kernel : decode cX9_answer 47 = .ok (.aload_n 0, 1)) rfl ?_
        refine as_get X fc_X9 (by decide +kernel : decode cX9_answer 48 = .ok (.getfield 34, 3)) (by decide) fl_X9_34 ?_
        refine as_iconst X (by decide +kernel : decode cX9_answer 51 = .ok (.iconst 0, 1)) rfl ?_
        refine as_cv X h_X9_small rfl (by decide +kernel : decode cX9_answer 52 = .ok (.invokevirtual 109, 3)) dn_X9_small ml_X9_109 im_X9_small se_X9_small ini_X9 co_X9_small R_X9_small ?_
        refine as_pop X (by decide +kernel : decode cX9_answer 55 = .ok (.pop, 1)) ?_
        refine as_aload_n X (by decide +kernel : decode cX9_answer 56 = .ok (.aload_n 0, 1)) rfl ?_
        refine as_iconst X (by decide +kernel : decode cX9_answer 57 = .ok (.iconst 0, 1)) rfl ?_
        refine as_puti X fc_X9 (by decide +kernel : decode cX9_answer 58 = .ok (.putfield 132, 3)) (by decide) fl_X9_132 (Or.inl rfl) rfl ?_
        refine as_aload_n X (by decide +kernel : decode cX9_answer 61 = .ok (.aload_n 0, 1)) rfl ?_
        refine as_get X fc_X9 (by decide +kernel : decode cX9_answer 62 = .ok (.getfield 89, 3)) (by decide) fl_X9_89 ?_
        exact as_ri X hQ hr (by decide +kernel : decode cX9_answer 65 = .ok (.ireturn, 1))
    · refine as_aload_n X (by decide +kernel : decode cX9_answer 10 = .ok (.aload_n 0, 1)) rfl ?_
      refine as_iload_n X (by decide +kernel : decode cX9_answer 11 = .ok (.iload_n 1, 1)) rfl ?_
      refine as_cv X h_X9_isSmall rfl (by decide +kernel : decode cX9_answer 12 = .ok (.invokevirtual 102, 3)) dn_X9_isSmall ml_X9_102 im_X9_isSmall se_X9_isSmall ini_X9 co_X9_isSmall R_X9_isSmall ?_
      refine as_if_ne X (tgt := 21) (by decide +kernel : decode cX9_answer 15 = .ok (.ifCond .ne 6, 3)) (by decide) ?_ ?_
      · refine as_bipush X (by decide +kernel : decode cX9_answer 18 = .ok (.bipush (-2), 2)) rfl ?_
        exact as_ri X hQ hr (by decide +kernel : decode cX9_answer 20 = .ok (.ireturn, 1))
      · refine as_iinc X (by decide +kernel : decode cX9_answer 21 = .ok (.iinc 1 1, 3)) rfl ?_
        refine as_goto X (tgt := 2) (by decide +kernel : decode cX9_answer 24 = .ok (.goto (-22), 3)) (by decide) ?_
        exact fun _ _ _ h => h

def B_X9_weigh_0 (kX9_isIn : am_T) (Q : am_Q) (G : Nat → am_K) : am_K := (ak_il 1 (ak_c (.int 0) (ak_c (.int 10) (ak_cs 3 kX9_isIn (ak_if (fun x => x = 0) (G 20) (ak_il 2 (ak_c (.int 0) (ak_c (.int 9) (ak_cs 3 kX9_isIn (ak_if (fun x => x = 0) (G 20) (ak_al 0 (ak_get 7 14 (ak_il 1 (ak_iald (ak_is 3 (ak_il 3 (ak_il 2 (ak_ic (fun x y => x = y) (ak_c (.int (-2)) (ak_ri Q)) (ak_al 0 (ak_get 7 14 (ak_il 1 (ak_il 2 (ak_iast (ak_al 0 (ak_c (.int 0) (ak_puti 7 16 (ak_il 3 (ak_ri Q))))))))))))))))))))))))))))
def B_X9_weigh_20 (kX9_isIn : am_T) (Q : am_Q) (G : Nat → am_K) : am_K := (ak_c (.int (-1)) (ak_ri Q))
def cl_X9_weigh (kX9_isIn : am_T) (Q : am_Q) (G : Nat → am_K) : Prop := am_N G 0 (B_X9_weigh_0 kX9_isIn Q G) ∧ am_N G 20 (B_X9_weigh_20 kX9_isIn Q G)
def WP_X9_weigh (kX9_isIn : am_T) : am_T := fun av h Q => (lg_sl av).length ≤ 4 ∧ ∀ G, cl_X9_weigh kX9_isIn Q G → G 0 (am_ent 4 av) [] h
set_option maxHeartbeats 4000000 in
set_option maxRecDepth 100000 in
theorem s_X9_weigh {mX9_isIn : Room} {kX9_isIn : am_T} (h_X9_isIn : am_S false yX9_isIn (am_ws yX9_isIn cX9_isIn 3 (some .boolean)) mX9_isIn kX9_isIn) {rm : Room} (hz : rm.cells = 0 ∧ rm.slots = 0) (R_X9_isIn : mX9_isIn.frames + 1 ≤ rm.frames ∧ 8 + (3 + 11) + mX9_isIn.locals ≤ rm.locals) : am_S false yX9_weigh (am_ws yX9_weigh cX9_weigh 4 (some .int)) rm (WP_X9_weigh kX9_isIn) := by
  refine am_S.of (fun _ => hz) (by decide +kernel) (fun h0 Q G => cl_X9_weigh kX9_isIn Q G) ?_
  intro p l e s m args below meth c D h0 Q X hr hnm hQ
  refine ⟨?_, ?_⟩
  · unfold B_X9_weigh_0
    refine as_iload_n X (by decide +kernel : decode cX9_weigh 0 = .ok (.iload_n 1, 1)) rfl ?_
    refine as_iconst X (by decide +kernel : decode cX9_weigh 1 = .ok (.iconst 0, 1)) rfl ?_
    refine as_bipush X (by decide +kernel : decode cX9_weigh 2 = .ok (.bipush 10, 2)) rfl ?_
    refine as_cs X h_X9_isIn (by decide +kernel : decode cX9_weigh 4 = .ok (.invokestatic 135, 3)) dn_X9_isIn ml_X9_135 st_X9_isIn ini_X9 co_X9_isIn R_X9_isIn ?_
    refine as_if_eq X (tgt := 20) (by decide +kernel : decode cX9_weigh 7 = .ok (.ifCond .eq 13, 3)) (by decide) ?_ ?_
    · exact fun _ _ _ h => h
    · refine as_iload_n X (by decide +kernel : decode cX9_weigh 10 = .ok (.iload_n 2, 1)) rfl ?_
      refine as_iconst X (by decide +kernel : decode cX9_weigh 11 = .ok (.iconst 0, 1)) rfl ?_
      refine as_bipush X (by decide +kernel : decode cX9_weigh 12 = .ok (.bipush 9, 2)) rfl ?_
      refine as_cs X h_X9_isIn (by decide +kernel : decode cX9_weigh 14 = .ok (.invokestatic 135, 3)) dn_X9_isIn ml_X9_135 st_X9_isIn ini_X9 co_X9_isIn R_X9_isIn ?_
      refine as_if_ne X (tgt := 22) (by decide +kernel : decode cX9_weigh 17 = .ok (.ifCond .ne 5, 3)) (by decide) ?_ ?_
      · exact fun _ _ _ h => h
      · refine as_aload_n X (by decide +kernel : decode cX9_weigh 22 = .ok (.aload_n 0, 1)) rfl ?_
        refine as_get X fc_X9 (by decide +kernel : decode cX9_weigh 23 = .ok (.getfield 40, 3)) (by decide) fl_X9_40 ?_
        refine as_iload_n X (by decide +kernel : decode cX9_weigh 26 = .ok (.iload_n 1, 1)) rfl ?_
        refine as_iaload X (by decide +kernel : decode cX9_weigh 27 = .ok (.iaload, 1)) ?_
        refine as_istore_n X (by decide +kernel : decode cX9_weigh 28 = .ok (.istore_n 3, 1)) rfl ?_
        refine as_iload_n X (by decide +kernel : decode cX9_weigh 29 = .ok (.iload_n 3, 1)) rfl ?_
        refine as_iload_n X (by decide +kernel : decode cX9_weigh 30 = .ok (.iload_n 2, 1)) rfl ?_
        refine as_ic_ne X (tgt := 37) (by decide +kernel : decode cX9_weigh 31 = .ok (.if_icmp .ne 6, 3)) (by decide) ?_ ?_
        · refine as_bipush X (by decide +kernel : decode cX9_weigh 34 = .ok (.bipush (-2), 2)) rfl ?_
          exact as_ri X hQ hr (by decide +kernel : decode cX9_weigh 36 = .ok (.ireturn, 1))
        · refine as_aload_n X (by decide +kernel : decode cX9_weigh 37 = .ok (.aload_n 0, 1)) rfl ?_
          refine as_get X fc_X9 (by decide +kernel : decode cX9_weigh 38 = .ok (.getfield 40, 3)) (by decide) fl_X9_40 ?_
          refine as_iload_n X (by decide +kernel : decode cX9_weigh 41 = .ok (.iload_n 1, 1)) rfl ?_
          refine as_iload_n X (by decide +kernel : decode cX9_weigh 42 = .ok (.iload_n 2, 1)) rfl ?_
          refine as_iastore X (by decide +kernel : decode cX9_weigh 43 = .ok (.iastore, 1)) ?_
          refine as_aload_n X (by decide +kernel : decode cX9_weigh 44 = .ok (.aload_n 0, 1)) rfl ?_
          refine as_iconst X (by decide +kernel : decode cX9_weigh 45 = .ok (.iconst 0, 1)) rfl ?_
          refine as_puti X fc_X9 (by decide +kernel : decode cX9_weigh 46 = .ok (.putfield 132, 3)) (by decide) fl_X9_132 (Or.inl rfl) rfl ?_
          refine as_iload_n X (by decide +kernel : decode cX9_weigh 49 = .ok (.iload_n 3, 1)) rfl ?_
          exact as_ri X hQ hr (by decide +kernel : decode cX9_weigh 50 = .ok (.ireturn, 1))
  · unfold B_X9_weigh_20
    refine as_iconst X (by decide +kernel : decode cX9_weigh 20 = .ok (.iconst (-1), 1)) rfl ?_
    exact as_ri X hQ hr (by decide +kernel : decode cX9_weigh 21 = .ok (.ireturn, 1))

def B_X9_letterOf_0 (Q : am_Q) (G : Nat → am_K) : am_K := (ak_il 1 (ak_sw (2) (10) [(ak_c (.int 82) (ak_ri Q)), (ak_c (.int 65) (ak_ri Q)), (ak_c (.int 67) (ak_ri Q)), (ak_c (.int 78) (ak_ri Q)), (ak_c (.int 72) (ak_ri Q)), (ak_c (.int 66) (ak_ri Q)), (ak_c (.int 84) (ak_ri Q)), (ak_c (.int 73) (ak_ri Q)), (ak_c (.int 76) (ak_ri Q))] (ak_c (.int (-4)) (ak_ri Q))))
def cl_X9_letterOf (Q : am_Q) (G : Nat → am_K) : Prop := am_N G 0 (B_X9_letterOf_0 Q G)
def WP_X9_letterOf : am_T := fun av h Q => (lg_sl av).length ≤ 2 ∧ ∀ G, cl_X9_letterOf Q G → G 0 (am_ent 2 av) [] h
set_option maxHeartbeats 4000000 in
set_option maxRecDepth 100000 in
theorem s_X9_letterOf {rm : Room} (hz : rm.cells = 0 ∧ rm.slots = 0) : am_S false yX9_letterOf (am_ws yX9_letterOf cX9_letterOf 2 (some .int)) rm (WP_X9_letterOf) := by
  refine am_S.of (fun _ => hz) (by decide +kernel) (fun h0 Q G => cl_X9_letterOf Q G) ?_
  intro p l e s m args below meth c D h0 Q X hr hnm hQ
  show am_N _ 0 (B_X9_letterOf_0  Q _)
  · unfold B_X9_letterOf_0
    refine as_iload_n X (by decide +kernel : decode cX9_letterOf 0 = .ok (.iload_n 1, 1)) rfl ?_
    refine as_sw X (td := 79) (by decide +kernel : decode cX9_letterOf 1 = .ok (.tableswitch 78 2 10 #[51, 54, 57, 60, 63, 66, 69, 72, 75], 51)) (by decide) rfl (by decide) ?_ ?_
    · refine as_bipush X (by decide +kernel : decode cX9_letterOf 79 = .ok (.bipush (-4), 2)) rfl ?_
      exact as_ri X hQ hr (by decide +kernel : decode cX9_letterOf 81 = .ok (.ireturn, 1))
    · intro i off K h1 h2
      match i, h1, h2 with
      | 0, h1, h2 =>
        obtain rfl := Option.some.inj h1
        obtain rfl := Option.some.inj h2
        refine ⟨52, by decide, ?_⟩
        refine as_bipush X (by decide +kernel : decode cX9_letterOf 52 = .ok (.bipush 82, 2)) rfl ?_
        exact as_ri X hQ hr (by decide +kernel : decode cX9_letterOf 54 = .ok (.ireturn, 1))
      | 1, h1, h2 =>
        obtain rfl := Option.some.inj h1
        obtain rfl := Option.some.inj h2
        refine ⟨55, by decide, ?_⟩
        refine as_bipush X (by decide +kernel : decode cX9_letterOf 55 = .ok (.bipush 65, 2)) rfl ?_
        exact as_ri X hQ hr (by decide +kernel : decode cX9_letterOf 57 = .ok (.ireturn, 1))
      | 2, h1, h2 =>
        obtain rfl := Option.some.inj h1
        obtain rfl := Option.some.inj h2
        refine ⟨58, by decide, ?_⟩
        refine as_bipush X (by decide +kernel : decode cX9_letterOf 58 = .ok (.bipush 67, 2)) rfl ?_
        exact as_ri X hQ hr (by decide +kernel : decode cX9_letterOf 60 = .ok (.ireturn, 1))
      | 3, h1, h2 =>
        obtain rfl := Option.some.inj h1
        obtain rfl := Option.some.inj h2
        refine ⟨61, by decide, ?_⟩
        refine as_bipush X (by decide +kernel : decode cX9_letterOf 61 = .ok (.bipush 78, 2)) rfl ?_
        exact as_ri X hQ hr (by decide +kernel : decode cX9_letterOf 63 = .ok (.ireturn, 1))
      | 4, h1, h2 =>
        obtain rfl := Option.some.inj h1
        obtain rfl := Option.some.inj h2
        refine ⟨64, by decide, ?_⟩
        refine as_bipush X (by decide +kernel : decode cX9_letterOf 64 = .ok (.bipush 72, 2)) rfl ?_
        exact as_ri X hQ hr (by decide +kernel : decode cX9_letterOf 66 = .ok (.ireturn, 1))
      | 5, h1, h2 =>
        obtain rfl := Option.some.inj h1
        obtain rfl := Option.some.inj h2
        refine ⟨67, by decide, ?_⟩
        refine as_bipush X (by decide +kernel : decode cX9_letterOf 67 = .ok (.bipush 66, 2)) rfl ?_
        exact as_ri X hQ hr (by decide +kernel : decode cX9_letterOf 69 = .ok (.ireturn, 1))
      | 6, h1, h2 =>
        obtain rfl := Option.some.inj h1
        obtain rfl := Option.some.inj h2
        refine ⟨70, by decide, ?_⟩
        refine as_bipush X (by decide +kernel : decode cX9_letterOf 70 = .ok (.bipush 84, 2)) rfl ?_
        exact as_ri X hQ hr (by decide +kernel : decode cX9_letterOf 72 = .ok (.ireturn, 1))
      | 7, h1, h2 =>
        obtain rfl := Option.some.inj h1
        obtain rfl := Option.some.inj h2
        refine ⟨73, by decide, ?_⟩
        refine as_bipush X (by decide +kernel : decode cX9_letterOf 73 = .ok (.bipush 73, 2)) rfl ?_
        exact as_ri X hQ hr (by decide +kernel : decode cX9_letterOf 75 = .ok (.ireturn, 1))
      | 8, h1, h2 =>
        obtain rfl := Option.some.inj h1
        obtain rfl := Option.some.inj h2
        refine ⟨76, by decide, ?_⟩
        refine as_bipush X (by decide +kernel : decode cX9_letterOf 76 = .ok (.bipush 76, 2)) rfl ?_
        exact as_ri X hQ hr (by decide +kernel : decode cX9_letterOf 78 = .ok (.ireturn, 1))
      | i + 9, h1, h2 => exact absurd h2 (by simp)

def B_X9_entry_0 (kX9_isEntry : am_T) (kX9_isIn : am_T) (kX9_letterOf : am_T) (Q : am_Q) (G : Nat → am_K) : am_K := (ak_al 0 (ak_il 1 (ak_cv 2 7 kX9_isEntry (ak_if (fun x => x = 0) (G 17) (ak_il 2 (ak_c (.int 0) (ak_c (.int 3) (ak_cs 3 kX9_isIn (ak_if (fun x => x = 0) (G 17) (ak_il 2 (ak_sw (0) (2) [(ak_al 0 (ak_get 7 3 (ak_c (.int 8) (ak_il 1 (ak_ib (fun x y => x * y) (ak_iald (ak_ri Q))))))), (ak_al 0 (ak_get 7 5 (ak_il 1 (ak_iald (ak_if (fun x => x = 0) (ak_c (.int 0) (G 72)) (ak_c (.int 1) (G 72))))))), (ak_al 0 (ak_get 7 4 (ak_c (.int 9) (ak_il 1 (ak_ib (fun x y => x * y) (ak_iald (ak_ri Q)))))))] (ak_al 0 (ak_al 0 (ak_get 7 5 (ak_il 1 (ak_iald (ak_cv 2 7 kX9_letterOf (ak_ri Q))))))))))))))))))
def B_X9_entry_17 (kX9_isEntry : am_T) (kX9_isIn : am_T) (kX9_letterOf : am_T) (Q : am_Q) (G : Nat → am_K) : am_K := (ak_c (.int (-1)) (ak_ri Q))
def B_X9_entry_72 (kX9_isEntry : am_T) (kX9_isIn : am_T) (kX9_letterOf : am_T) (Q : am_Q) (G : Nat → am_K) : am_K := (ak_ri Q)
def cl_X9_entry (kX9_isEntry : am_T) (kX9_isIn : am_T) (kX9_letterOf : am_T) (Q : am_Q) (G : Nat → am_K) : Prop := am_N G 0 (B_X9_entry_0 kX9_isEntry kX9_isIn kX9_letterOf Q G) ∧ am_N G 17 (B_X9_entry_17 kX9_isEntry kX9_isIn kX9_letterOf Q G) ∧ am_N G 72 (B_X9_entry_72 kX9_isEntry kX9_isIn kX9_letterOf Q G)
def WP_X9_entry (kX9_isEntry : am_T) (kX9_isIn : am_T) (kX9_letterOf : am_T) : am_T := fun av h Q => (lg_sl av).length ≤ 3 ∧ ∀ G, cl_X9_entry kX9_isEntry kX9_isIn kX9_letterOf Q G → G 0 (am_ent 3 av) [] h
set_option maxHeartbeats 4000000 in
set_option maxRecDepth 100000 in
theorem s_X9_entry {mX9_isEntry : Room} {kX9_isEntry : am_T} (h_X9_isEntry : am_S false yX9_isEntry (am_ws yX9_isEntry cX9_isEntry 2 (some .boolean)) mX9_isEntry kX9_isEntry) {mX9_isIn : Room} {kX9_isIn : am_T} (h_X9_isIn : am_S false yX9_isIn (am_ws yX9_isIn cX9_isIn 3 (some .boolean)) mX9_isIn kX9_isIn) {mX9_letterOf : Room} {kX9_letterOf : am_T} (h_X9_letterOf : am_S false yX9_letterOf (am_ws yX9_letterOf cX9_letterOf 2 (some .int)) mX9_letterOf kX9_letterOf) {rm : Room} (hz : rm.cells = 0 ∧ rm.slots = 0) (R_X9_isEntry : mX9_isEntry.frames + 1 ≤ rm.frames ∧ 8 + (2 + 11) + mX9_isEntry.locals ≤ rm.locals) (R_X9_isIn : mX9_isIn.frames + 1 ≤ rm.frames ∧ 8 + (3 + 11) + mX9_isIn.locals ≤ rm.locals) (R_X9_letterOf : mX9_letterOf.frames + 1 ≤ rm.frames ∧ 8 + (2 + 11) + mX9_letterOf.locals ≤ rm.locals) : am_S false yX9_entry (am_ws yX9_entry cX9_entry 3 (some .int)) rm (WP_X9_entry kX9_isEntry kX9_isIn kX9_letterOf) := by
  refine am_S.of (fun _ => hz) (by decide +kernel) (fun h0 Q G => cl_X9_entry kX9_isEntry kX9_isIn kX9_letterOf Q G) ?_
  intro p l e s m args below meth c D h0 Q X hr hnm hQ
  refine ⟨?_, ?_, ?_⟩
  · unfold B_X9_entry_0
    refine as_aload_n X (by decide +kernel : decode cX9_entry 0 = .ok (.aload_n 0, 1)) rfl ?_
    refine as_iload_n X (by decide +kernel : decode cX9_entry 1 = .ok (.iload_n 1, 1)) rfl ?_
    refine as_cv X h_X9_isEntry rfl (by decide +kernel : decode cX9_entry 2 = .ok (.invokevirtual 139, 3)) dn_X9_isEntry ml_X9_139 im_X9_isEntry se_X9_isEntry ini_X9 co_X9_isEntry R_X9_isEntry ?_
    refine as_if_eq X (tgt := 17) (by decide +kernel : decode cX9_entry 5 = .ok (.ifCond .eq 12, 3)) (by decide) ?_ ?_
    · exact fun _ _ _ h => h
    · refine as_iload_n X (by decide +kernel : decode cX9_entry 8 = .ok (.iload_n 2, 1)) rfl ?_
      refine as_iconst X (by decide +kernel : decode cX9_entry 9 = .ok (.iconst 0, 1)) rfl ?_
      refine as_iconst X (by decide +kernel : decode cX9_entry 10 = .ok (.iconst 3, 1)) rfl ?_
      refine as_cs X h_X9_isIn (by decide +kernel : decode cX9_entry 11 = .ok (.invokestatic 135, 3)) dn_X9_isIn ml_X9_135 st_X9_isIn ini_X9 co_X9_isIn R_X9_isIn ?_
      refine as_if_ne X (tgt := 19) (by decide +kernel : decode cX9_entry 14 = .ok (.ifCond .ne 5, 3)) (by decide) ?_ ?_
      · exact fun _ _ _ h => h
      · refine as_iload_n X (by decide +kernel : decode cX9_entry 19 = .ok (.iload_n 2, 1)) rfl ?_
        refine as_sw X (td := 83) (by decide +kernel : decode cX9_entry 20 = .ok (.tableswitch 63 0 2 #[28, 38, 53], 28)) (by decide) rfl (by decide) ?_ ?_
        · refine as_aload_n X (by decide +kernel : decode cX9_entry 83 = .ok (.aload_n 0, 1)) rfl ?_
          refine as_aload_n X (by decide +kernel : decode cX9_entry 84 = .ok (.aload_n 0, 1)) rfl ?_
          refine as_get X fc_X9 (by decide +kernel : decode cX9_entry 85 = .ok (.getfield 19, 3)) (by decide) fl_X9_19 ?_
          refine as_iload_n X (by decide +kernel : decode cX9_entry 88 = .ok (.iload_n 1, 1)) rfl ?_
          refine as_iaload X (by decide +kernel : decode cX9_entry 89 = .ok (.iaload, 1)) ?_
          refine as_cv X h_X9_letterOf rfl (by decide +kernel : decode cX9_entry 90 = .ok (.invokevirtual 145, 3)) dn_X9_letterOf ml_X9_145 im_X9_letterOf se_X9_letterOf ini_X9 co_X9_letterOf R_X9_letterOf ?_
          exact as_ri X hQ hr (by decide +kernel : decode cX9_entry 93 = .ok (.ireturn, 1))
        · intro i off K h1 h2
          match i, h1, h2 with
          | 0, h1, h2 =>
            obtain rfl := Option.some.inj h1
            obtain rfl := Option.some.inj h2
            refine ⟨48, by decide, ?_⟩
            refine as_aload_n X (by decide +kernel : decode cX9_entry 48 = .ok (.aload_n 0, 1)) rfl ?_
            refine as_get X fc_X9 (by decide +kernel : decode cX9_entry 49 = .ok (.getfield 13, 3)) (by decide) fl_X9_13 ?_
            refine as_bipush X (by decide +kernel : decode cX9_entry 52 = .ok (.bipush 8, 2)) rfl ?_
            refine as_iload_n X (by decide +kernel : decode cX9_entry 54 = .ok (.iload_n 1, 1)) rfl ?_
            refine as_imul X (by decide +kernel : decode cX9_entry 55 = .ok (.imul, 1)) ?_
            refine as_iaload X (by decide +kernel : decode cX9_entry 56 = .ok (.iaload, 1)) ?_
            exact as_ri X hQ hr (by decide +kernel : decode cX9_entry 57 = .ok (.ireturn, 1))
          | 1, h1, h2 =>
            obtain rfl := Option.some.inj h1
            obtain rfl := Option.some.inj h2
            refine ⟨58, by decide, ?_⟩
            refine as_aload_n X (by decide +kernel : decode cX9_entry 58 = .ok (.aload_n 0, 1)) rfl ?_
            refine as_get X fc_X9 (by decide +kernel : decode cX9_entry 59 = .ok (.getfield 19, 3)) (by decide) fl_X9_19 ?_
            refine as_iload_n X (by decide +kernel : decode cX9_entry 62 = .ok (.iload_n 1, 1)) rfl ?_
            refine as_iaload X (by decide +kernel : decode cX9_entry 63 = .ok (.iaload, 1)) ?_
            refine as_if_ne X (tgt := 71) (by decide +kernel : decode cX9_entry 64 = .ok (.ifCond .ne 7, 3)) (by decide) ?_ ?_
            · refine as_iconst X (by decide +kernel : decode cX9_entry 67 = .ok (.iconst 0, 1)) rfl ?_
              refine as_goto X (tgt := 72) (by decide +kernel : decode cX9_entry 68 = .ok (.goto 4, 3)) (by decide) ?_
              exact fun _ _ _ h => h
            · refine as_iconst X (by decide +kernel : decode cX9_entry 71 = .ok (.iconst 1, 1)) rfl ?_
              exact fun _ _ _ h => h
          | 2, h1, h2 =>
            obtain rfl := Option.some.inj h1
            obtain rfl := Option.some.inj h2
            refine ⟨73, by decide, ?_⟩
            refine as_aload_n X (by decide +kernel : decode cX9_entry 73 = .ok (.aload_n 0, 1)) rfl ?_
            refine as_get X fc_X9 (by decide +kernel : decode cX9_entry 74 = .ok (.getfield 16, 3)) (by decide) fl_X9_16 ?_
            refine as_bipush X (by decide +kernel : decode cX9_entry 77 = .ok (.bipush 9, 2)) rfl ?_
            refine as_iload_n X (by decide +kernel : decode cX9_entry 79 = .ok (.iload_n 1, 1)) rfl ?_
            refine as_imul X (by decide +kernel : decode cX9_entry 80 = .ok (.imul, 1)) ?_
            refine as_iaload X (by decide +kernel : decode cX9_entry 81 = .ok (.iaload, 1)) ?_
            exact as_ri X hQ hr (by decide +kernel : decode cX9_entry 82 = .ok (.ireturn, 1))
          | i + 3, h1, h2 => exact absurd h2 (by simp)
  · unfold B_X9_entry_17
    refine as_iconst X (by decide +kernel : decode cX9_entry 17 = .ok (.iconst (-1), 1)) rfl ?_
    exact as_ri X hQ hr (by decide +kernel : decode cX9_entry 18 = .ok (.ireturn, 1))
  · unfold B_X9_entry_72
    exact as_ri X hQ hr (by decide +kernel : decode cX9_entry 72 = .ok (.ireturn, 1))

def B_X9_entryLetter_0 (kX9_isEntry : am_T) (kX9_isIn : am_T) (Q : am_Q) (G : Nat → am_K) : am_K := (ak_al 0 (ak_il 1 (ak_cv 2 7 kX9_isEntry (ak_if (fun x => x = 0) (G 21) (ak_il 2 (ak_c (.int 0) (ak_c (.int 1) (ak_cs 3 kX9_isIn (ak_if (fun x => x = 0) (G 21) (ak_il 3 (ak_if (fun x => 0 ≤ x) (ak_il 2 (ak_if (fun x => x = 0) (ak_il 3 (ak_al 0 (ak_get 7 3 (ak_c (.int 8) (ak_il 1 (ak_ib (fun x y => x * y) (ak_iald (ak_ic (fun x y => y ≤ x) (ak_c (.int (-4)) (G 58)) (ak_al 0 (ak_get 7 3 (ak_c (.int 8) (ak_il 1 (ak_ib (fun x y => x * y) (ak_c (.int 1) (ak_ib (fun x y => x + y) (ak_il 3 (ak_ib (fun x y => x + y) (ak_iald (G 58))))))))))))))))))) (ak_il 3 (ak_al 0 (ak_get 7 4 (ak_c (.int 9) (ak_il 1 (ak_ib (fun x y => x * y) (ak_iald (ak_ic (fun x y => y ≤ x) (ak_c (.int (-4)) (G 90)) (ak_al 0 (ak_get 7 4 (ak_c (.int 9) (ak_il 1 (ak_ib (fun x y => x * y) (ak_c (.int 1) (ak_ib (fun x y => x + y) (ak_il 3 (ak_ib (fun x y => x + y) (ak_iald (G 90))))))))))))))))))))) (G 21))))))))))))
def B_X9_entryLetter_21 (kX9_isEntry : am_T) (kX9_isIn : am_T) (Q : am_Q) (G : Nat → am_K) : am_K := (ak_c (.int (-1)) (ak_ri Q))
def B_X9_entryLetter_58 (kX9_isEntry : am_T) (kX9_isIn : am_T) (Q : am_Q) (G : Nat → am_K) : am_K := (ak_ri Q)
def B_X9_entryLetter_90 (kX9_isEntry : am_T) (kX9_isIn : am_T) (Q : am_Q) (G : Nat → am_K) : am_K := (ak_ri Q)
def cl_X9_entryLetter (kX9_isEntry : am_T) (kX9_isIn : am_T) (Q : am_Q) (G : Nat → am_K) : Prop := am_N G 0 (B_X9_entryLetter_0 kX9_isEntry kX9_isIn Q G) ∧ am_N G 21 (B_X9_entryLetter_21 kX9_isEntry kX9_isIn Q G) ∧ am_N G 58 (B_X9_entryLetter_58 kX9_isEntry kX9_isIn Q G) ∧ am_N G 90 (B_X9_entryLetter_90 kX9_isEntry kX9_isIn Q G)
def WP_X9_entryLetter (kX9_isEntry : am_T) (kX9_isIn : am_T) : am_T := fun av h Q => (lg_sl av).length ≤ 4 ∧ ∀ G, cl_X9_entryLetter kX9_isEntry kX9_isIn Q G → G 0 (am_ent 4 av) [] h
set_option maxHeartbeats 4000000 in
set_option maxRecDepth 100000 in
theorem s_X9_entryLetter {mX9_isEntry : Room} {kX9_isEntry : am_T} (h_X9_isEntry : am_S false yX9_isEntry (am_ws yX9_isEntry cX9_isEntry 2 (some .boolean)) mX9_isEntry kX9_isEntry) {mX9_isIn : Room} {kX9_isIn : am_T} (h_X9_isIn : am_S false yX9_isIn (am_ws yX9_isIn cX9_isIn 3 (some .boolean)) mX9_isIn kX9_isIn) {rm : Room} (hz : rm.cells = 0 ∧ rm.slots = 0) (R_X9_isEntry : mX9_isEntry.frames + 1 ≤ rm.frames ∧ 8 + (2 + 11) + mX9_isEntry.locals ≤ rm.locals) (R_X9_isIn : mX9_isIn.frames + 1 ≤ rm.frames ∧ 8 + (3 + 11) + mX9_isIn.locals ≤ rm.locals) : am_S false yX9_entryLetter (am_ws yX9_entryLetter cX9_entryLetter 4 (some .int)) rm (WP_X9_entryLetter kX9_isEntry kX9_isIn) := by
  refine am_S.of (fun _ => hz) (by decide +kernel) (fun h0 Q G => cl_X9_entryLetter kX9_isEntry kX9_isIn Q G) ?_
  intro p l e s m args below meth c D h0 Q X hr hnm hQ
  refine ⟨?_, ?_, ?_, ?_⟩
  · unfold B_X9_entryLetter_0
    refine as_aload_n X (by decide +kernel : decode cX9_entryLetter 0 = .ok (.aload_n 0, 1)) rfl ?_
    refine as_iload_n X (by decide +kernel : decode cX9_entryLetter 1 = .ok (.iload_n 1, 1)) rfl ?_
    refine as_cv X h_X9_isEntry rfl (by decide +kernel : decode cX9_entryLetter 2 = .ok (.invokevirtual 139, 3)) dn_X9_isEntry ml_X9_139 im_X9_isEntry se_X9_isEntry ini_X9 co_X9_isEntry R_X9_isEntry ?_
    refine as_if_eq X (tgt := 21) (by decide +kernel : decode cX9_entryLetter 5 = .ok (.ifCond .eq 16, 3)) (by decide) ?_ ?_
    · exact fun _ _ _ h => h
    · refine as_iload_n X (by decide +kernel : decode cX9_entryLetter 8 = .ok (.iload_n 2, 1)) rfl ?_
      refine as_iconst X (by decide +kernel : decode cX9_entryLetter 9 = .ok (.iconst 0, 1)) rfl ?_
      refine as_iconst X (by decide +kernel : decode cX9_entryLetter 10 = .ok (.iconst 1, 1)) rfl ?_
      refine as_cs X h_X9_isIn (by decide +kernel : decode cX9_entryLetter 11 = .ok (.invokestatic 135, 3)) dn_X9_isIn ml_X9_135 st_X9_isIn ini_X9 co_X9_isIn R_X9_isIn ?_
      refine as_if_eq X (tgt := 21) (by decide +kernel : decode cX9_entryLetter 14 = .ok (.ifCond .eq 7, 3)) (by decide) ?_ ?_
      · exact fun _ _ _ h => h
      · refine as_iload_n X (by decide +kernel : decode cX9_entryLetter 17 = .ok (.iload_n 3, 1)) rfl ?_
        refine as_if_ge X (tgt := 23) (by decide +kernel : decode cX9_entryLetter 18 = .ok (.ifCond .ge 5, 3)) (by decide) ?_ ?_
        · refine as_iload_n X (by decide +kernel : decode cX9_entryLetter 23 = .ok (.iload_n 2, 1)) rfl ?_
          refine as_if_ne X (tgt := 59) (by decide +kernel : decode cX9_entryLetter 24 = .ok (.ifCond .ne 35, 3)) (by decide) ?_ ?_
          · refine as_iload_n X (by decide +kernel : decode cX9_entryLetter 27 = .ok (.iload_n 3, 1)) rfl ?_
            refine as_aload_n X (by decide +kernel : decode cX9_entryLetter 28 = .ok (.aload_n 0, 1)) rfl ?_
            refine as_get X fc_X9 (by decide +kernel : decode cX9_entryLetter 29 = .ok (.getfield 13, 3)) (by decide) fl_X9_13 ?_
            refine as_bipush X (by decide +kernel : decode cX9_entryLetter 32 = .ok (.bipush 8, 2)) rfl ?_
            refine as_iload_n X (by decide +kernel : decode cX9_entryLetter 34 = .ok (.iload_n 1, 1)) rfl ?_
            refine as_imul X (by decide +kernel : decode cX9_entryLetter 35 = .ok (.imul, 1)) ?_
            refine as_iaload X (by decide +kernel : decode cX9_entryLetter 36 = .ok (.iaload, 1)) ?_
            refine as_ic_ge X (tgt := 56) (by decide +kernel : decode cX9_entryLetter 37 = .ok (.if_icmp .ge 19, 3)) (by decide) ?_ ?_
            · refine as_bipush X (by decide +kernel : decode cX9_entryLetter 56 = .ok (.bipush (-4), 2)) rfl ?_
              exact fun _ _ _ h => h
            · refine as_aload_n X (by decide +kernel : decode cX9_entryLetter 40 = .ok (.aload_n 0, 1)) rfl ?_
              refine as_get X fc_X9 (by decide +kernel : decode cX9_entryLetter 41 = .ok (.getfield 13, 3)) (by decide) fl_X9_13 ?_
              refine as_bipush X (by decide +kernel : decode cX9_entryLetter 44 = .ok (.bipush 8, 2)) rfl ?_
              refine as_iload_n X (by decide +kernel : decode cX9_entryLetter 46 = .ok (.iload_n 1, 1)) rfl ?_
              refine as_imul X (by decide +kernel : decode cX9_entryLetter 47 = .ok (.imul, 1)) ?_
              refine as_iconst X (by decide +kernel : decode cX9_entryLetter 48 = .ok (.iconst 1, 1)) rfl ?_
              refine as_iadd X (by decide +kernel : decode cX9_entryLetter 49 = .ok (.iadd, 1)) ?_
              refine as_iload_n X (by decide +kernel : decode cX9_entryLetter 50 = .ok (.iload_n 3, 1)) rfl ?_
              refine as_iadd X (by decide +kernel : decode cX9_entryLetter 51 = .ok (.iadd, 1)) ?_
              refine as_iaload X (by decide +kernel : decode cX9_entryLetter 52 = .ok (.iaload, 1)) ?_
              refine as_goto X (tgt := 58) (by decide +kernel : decode cX9_entryLetter 53 = .ok (.goto 5, 3)) (by decide) ?_
              exact fun _ _ _ h => h
          · refine as_iload_n X (by decide +kernel : decode cX9_entryLetter 59 = .ok (.iload_n 3, 1)) rfl ?_
            refine as_aload_n X (by decide +kernel : decode cX9_entryLetter 60 = .ok (.aload_n 0, 1)) rfl ?_
            refine as_get X fc_X9 (by decide +kernel : decode cX9_entryLetter 61 = .ok (.getfield 16, 3)) (by decide) fl_X9_16 ?_
            refine as_bipush X (by decide +kernel : decode cX9_entryLetter 64 = .ok (.bipush 9, 2)) rfl ?_
            refine as_iload_n X (by decide +kernel : decode cX9_entryLetter 66 = .ok (.iload_n 1, 1)) rfl ?_
            refine as_imul X (by decide +kernel : decode cX9_entryLetter 67 = .ok (.imul, 1)) ?_
            refine as_iaload X (by decide +kernel : decode cX9_entryLetter 68 = .ok (.iaload, 1)) ?_
            refine as_ic_ge X (tgt := 88) (by decide +kernel : decode cX9_entryLetter 69 = .ok (.if_icmp .ge 19, 3)) (by decide) ?_ ?_
            · refine as_bipush X (by decide +kernel : decode cX9_entryLetter 88 = .ok (.bipush (-4), 2)) rfl ?_
              exact fun _ _ _ h => h
            · refine as_aload_n X (by decide +kernel : decode cX9_entryLetter 72 = .ok (.aload_n 0, 1)) rfl ?_
              refine as_get X fc_X9 (by decide +kernel : decode cX9_entryLetter 73 = .ok (.getfield 16, 3)) (by decide) fl_X9_16 ?_
              refine as_bipush X (by decide +kernel : decode cX9_entryLetter 76 = .ok (.bipush 9, 2)) rfl ?_
              refine as_iload_n X (by decide +kernel : decode cX9_entryLetter 78 = .ok (.iload_n 1, 1)) rfl ?_
              refine as_imul X (by decide +kernel : decode cX9_entryLetter 79 = .ok (.imul, 1)) ?_
              refine as_iconst X (by decide +kernel : decode cX9_entryLetter 80 = .ok (.iconst 1, 1)) rfl ?_
              refine as_iadd X (by decide +kernel : decode cX9_entryLetter 81 = .ok (.iadd, 1)) ?_
              refine as_iload_n X (by decide +kernel : decode cX9_entryLetter 82 = .ok (.iload_n 3, 1)) rfl ?_
              refine as_iadd X (by decide +kernel : decode cX9_entryLetter 83 = .ok (.iadd, 1)) ?_
              refine as_iaload X (by decide +kernel : decode cX9_entryLetter 84 = .ok (.iaload, 1)) ?_
              refine as_goto X (tgt := 90) (by decide +kernel : decode cX9_entryLetter 85 = .ok (.goto 5, 3)) (by decide) ?_
              exact fun _ _ _ h => h
        · exact fun _ _ _ h => h
  · unfold B_X9_entryLetter_21
    refine as_iconst X (by decide +kernel : decode cX9_entryLetter 21 = .ok (.iconst (-1), 1)) rfl ?_
    exact as_ri X hQ hr (by decide +kernel : decode cX9_entryLetter 22 = .ok (.ireturn, 1))
  · unfold B_X9_entryLetter_58
    exact as_ri X hQ hr (by decide +kernel : decode cX9_entryLetter 58 = .ok (.ireturn, 1))
  · unfold B_X9_entryLetter_90
    exact as_ri X hQ hr (by decide +kernel : decode cX9_entryLetter 90 = .ok (.ireturn, 1))

def B_X9_isWord_0 (kX9_isIn : am_T) (Q : am_Q) (G : Nat → am_K) : am_K := (ak_il 1 (ak_c (.int 0) (ak_al 0 (ak_get 7 10 (ak_c (.int 1) (ak_ib (fun x y => x - y) (ak_cs 3 kX9_isIn (ak_rz Q))))))))
def cl_X9_isWord (kX9_isIn : am_T) (Q : am_Q) (G : Nat → am_K) : Prop := am_N G 0 (B_X9_isWord_0 kX9_isIn Q G)
def WP_X9_isWord (kX9_isIn : am_T) : am_T := fun av h Q => (lg_sl av).length ≤ 2 ∧ ∀ G, cl_X9_isWord kX9_isIn Q G → G 0 (am_ent 2 av) [] h
set_option maxHeartbeats 4000000 in
set_option maxRecDepth 100000 in
theorem s_X9_isWord {mX9_isIn : Room} {kX9_isIn : am_T} (h_X9_isIn : am_S false yX9_isIn (am_ws yX9_isIn cX9_isIn 3 (some .boolean)) mX9_isIn kX9_isIn) {rm : Room} (hz : rm.cells = 0 ∧ rm.slots = 0) (R_X9_isIn : mX9_isIn.frames + 1 ≤ rm.frames ∧ 8 + (3 + 11) + mX9_isIn.locals ≤ rm.locals) : am_S false yX9_isWord (am_ws yX9_isWord cX9_isWord 2 (some .boolean)) rm (WP_X9_isWord kX9_isIn) := by
  refine am_S.of (fun _ => hz) (by decide +kernel) (fun h0 Q G => cl_X9_isWord kX9_isIn Q G) ?_
  intro p l e s m args below meth c D h0 Q X hr hnm hQ
  show am_N _ 0 (B_X9_isWord_0  kX9_isIn Q _)
  · unfold B_X9_isWord_0
    refine as_iload_n X (by decide +kernel : decode cX9_isWord 0 = .ok (.iload_n 1, 1)) rfl ?_
    refine as_iconst X (by decide +kernel : decode cX9_isWord 1 = .ok (.iconst 0, 1)) rfl ?_
    refine as_aload_n X (by decide +kernel : decode cX9_isWord 2 = .ok (.aload_n 0, 1)) rfl ?_
    refine as_get X fc_X9 (by decide +kernel : decode cX9_isWord 3 = .ok (.getfield 142, 3)) (by decide) fl_X9_142 ?_
    refine as_iconst X (by decide +kernel : decode cX9_isWord 6 = .ok (.iconst 1, 1)) rfl ?_
    refine as_isub X (by decide +kernel : decode cX9_isWord 7 = .ok (.isub, 1)) ?_
    refine as_cs X h_X9_isIn (by decide +kernel : decode cX9_isWord 8 = .ok (.invokestatic 135, 3)) dn_X9_isIn ml_X9_135 st_X9_isIn ini_X9 co_X9_isIn R_X9_isIn ?_
    exact as_rz X hQ hr (by decide +kernel : decode cX9_isWord 11 = .ok (.ireturn, 1))

def B_X9_clueLetter_0 (kX9_isWord : am_T) (Q : am_Q) (G : Nat → am_K) : am_K := (ak_al 0 (ak_il 1 (ak_cv 2 7 kX9_isWord (ak_if (fun x => x = 0) (G 13) (ak_il 2 (ak_c (.int (-1)) (ak_ic (fun x y => y ≤ x) (ak_il 2 (ak_if (fun x => 0 ≤ x) (ak_il 2 (ak_al 0 (ak_get 7 11 (ak_c (.int 8) (ak_il 1 (ak_ib (fun x y => x * y) (ak_iald (ak_ic (fun x y => y ≤ x) (ak_c (.int (-4)) (G 62)) (ak_al 0 (ak_get 7 11 (ak_c (.int 8) (ak_il 1 (ak_ib (fun x y => x * y) (ak_c (.int 1) (ak_ib (fun x y => x + y) (ak_il 2 (ak_ib (fun x y => x + y) (ak_iald (G 62))))))))))))))))))) (ak_al 0 (ak_get 7 11 (ak_c (.int 8) (ak_il 1 (ak_ib (fun x y => x * y) (ak_iald (G 62))))))))) (G 13))))))))
def B_X9_clueLetter_13 (kX9_isWord : am_T) (Q : am_Q) (G : Nat → am_K) : am_K := (ak_c (.int (-1)) (ak_ri Q))
def B_X9_clueLetter_62 (kX9_isWord : am_T) (Q : am_Q) (G : Nat → am_K) : am_K := (ak_ri Q)
def cl_X9_clueLetter (kX9_isWord : am_T) (Q : am_Q) (G : Nat → am_K) : Prop := am_N G 0 (B_X9_clueLetter_0 kX9_isWord Q G) ∧ am_N G 13 (B_X9_clueLetter_13 kX9_isWord Q G) ∧ am_N G 62 (B_X9_clueLetter_62 kX9_isWord Q G)
def WP_X9_clueLetter (kX9_isWord : am_T) : am_T := fun av h Q => (lg_sl av).length ≤ 3 ∧ ∀ G, cl_X9_clueLetter kX9_isWord Q G → G 0 (am_ent 3 av) [] h
set_option maxHeartbeats 4000000 in
set_option maxRecDepth 100000 in
theorem s_X9_clueLetter {mX9_isWord : Room} {kX9_isWord : am_T} (h_X9_isWord : am_S false yX9_isWord (am_ws yX9_isWord cX9_isWord 2 (some .boolean)) mX9_isWord kX9_isWord) {rm : Room} (hz : rm.cells = 0 ∧ rm.slots = 0) (R_X9_isWord : mX9_isWord.frames + 1 ≤ rm.frames ∧ 8 + (2 + 11) + mX9_isWord.locals ≤ rm.locals) : am_S false yX9_clueLetter (am_ws yX9_clueLetter cX9_clueLetter 3 (some .int)) rm (WP_X9_clueLetter kX9_isWord) := by
  refine am_S.of (fun _ => hz) (by decide +kernel) (fun h0 Q G => cl_X9_clueLetter kX9_isWord Q G) ?_
  intro p l e s m args below meth c D h0 Q X hr hnm hQ
  refine ⟨?_, ?_, ?_⟩
  · unfold B_X9_clueLetter_0
    refine as_aload_n X (by decide +kernel : decode cX9_clueLetter 0 = .ok (.aload_n 0, 1)) rfl ?_
    refine as_iload_n X (by decide +kernel : decode cX9_clueLetter 1 = .ok (.iload_n 1, 1)) rfl ?_
    refine as_cv X h_X9_isWord rfl (by decide +kernel : decode cX9_clueLetter 2 = .ok (.invokevirtual 148, 3)) dn_X9_isWord ml_X9_148 im_X9_isWord se_X9_isWord ini_X9 co_X9_isWord R_X9_isWord ?_
    refine as_if_eq X (tgt := 13) (by decide +kernel : decode cX9_clueLetter 5 = .ok (.ifCond .eq 8, 3)) (by decide) ?_ ?_
    · exact fun _ _ _ h => h
    · refine as_iload_n X (by decide +kernel : decode cX9_clueLetter 8 = .ok (.iload_n 2, 1)) rfl ?_
      refine as_iconst X (by decide +kernel : decode cX9_clueLetter 9 = .ok (.iconst (-1), 1)) rfl ?_
      refine as_ic_ge X (tgt := 15) (by decide +kernel : decode cX9_clueLetter 10 = .ok (.if_icmp .ge 5, 3)) (by decide) ?_ ?_
      · refine as_iload_n X (by decide +kernel : decode cX9_clueLetter 15 = .ok (.iload_n 2, 1)) rfl ?_
        refine as_if_ge X (tgt := 31) (by decide +kernel : decode cX9_clueLetter 16 = .ok (.ifCond .ge 15, 3)) (by decide) ?_ ?_
        · refine as_iload_n X (by decide +kernel : decode cX9_clueLetter 31 = .ok (.iload_n 2, 1)) rfl ?_
          refine as_aload_n X (by decide +kernel : decode cX9_clueLetter 32 = .ok (.aload_n 0, 1)) rfl ?_
          refine as_get X fc_X9 (by decide +kernel : decode cX9_clueLetter 33 = .ok (.getfield 31, 3)) (by decide) fl_X9_31 ?_
          refine as_bipush X (by decide +kernel : decode cX9_clueLetter 36 = .ok (.bipush 8, 2)) rfl ?_
          refine as_iload_n X (by decide +kernel : decode cX9_clueLetter 38 = .ok (.iload_n 1, 1)) rfl ?_
          refine as_imul X (by decide +kernel : decode cX9_clueLetter 39 = .ok (.imul, 1)) ?_
          refine as_iaload X (by decide +kernel : decode cX9_clueLetter 40 = .ok (.iaload, 1)) ?_
          refine as_ic_ge X (tgt := 60) (by decide +kernel : decode cX9_clueLetter 41 = .ok (.if_icmp .ge 19, 3)) (by decide) ?_ ?_
          · refine as_bipush X (by decide +kernel : decode cX9_clueLetter 60 = .ok (.bipush (-4), 2)) rfl ?_
            exact fun _ _ _ h => h
          · refine as_aload_n X (by decide +kernel : decode cX9_clueLetter 44 = .ok (.aload_n 0, 1)) rfl ?_
            refine as_get X fc_X9 (by decide +kernel : decode cX9_clueLetter 45 = .ok (.getfield 31, 3)) (by decide) fl_X9_31 ?_
            refine as_bipush X (by decide +kernel : decode cX9_clueLetter 48 = .ok (.bipush 8, 2)) rfl ?_
            refine as_iload_n X (by decide +kernel : decode cX9_clueLetter 50 = .ok (.iload_n 1, 1)) rfl ?_
            refine as_imul X (by decide +kernel : decode cX9_clueLetter 51 = .ok (.imul, 1)) ?_
            refine as_iconst X (by decide +kernel : decode cX9_clueLetter 52 = .ok (.iconst 1, 1)) rfl ?_
            refine as_iadd X (by decide +kernel : decode cX9_clueLetter 53 = .ok (.iadd, 1)) ?_
            refine as_iload_n X (by decide +kernel : decode cX9_clueLetter 54 = .ok (.iload_n 2, 1)) rfl ?_
            refine as_iadd X (by decide +kernel : decode cX9_clueLetter 55 = .ok (.iadd, 1)) ?_
            refine as_iaload X (by decide +kernel : decode cX9_clueLetter 56 = .ok (.iaload, 1)) ?_
            refine as_goto X (tgt := 62) (by decide +kernel : decode cX9_clueLetter 57 = .ok (.goto 5, 3)) (by decide) ?_
            exact fun _ _ _ h => h
        · refine as_aload_n X (by decide +kernel : decode cX9_clueLetter 19 = .ok (.aload_n 0, 1)) rfl ?_
          refine as_get X fc_X9 (by decide +kernel : decode cX9_clueLetter 20 = .ok (.getfield 31, 3)) (by decide) fl_X9_31 ?_
          refine as_bipush X (by decide +kernel : decode cX9_clueLetter 23 = .ok (.bipush 8, 2)) rfl ?_
          refine as_iload_n X (by decide +kernel : decode cX9_clueLetter 25 = .ok (.iload_n 1, 1)) rfl ?_
          refine as_imul X (by decide +kernel : decode cX9_clueLetter 26 = .ok (.imul, 1)) ?_
          refine as_iaload X (by decide +kernel : decode cX9_clueLetter 27 = .ok (.iaload, 1)) ?_
          refine as_goto X (tgt := 62) (by decide +kernel : decode cX9_clueLetter 28 = .ok (.goto 34, 3)) (by decide) ?_
          exact fun _ _ _ h => h
      · exact fun _ _ _ h => h
  · unfold B_X9_clueLetter_13
    refine as_iconst X (by decide +kernel : decode cX9_clueLetter 13 = .ok (.iconst (-1), 1)) rfl ?_
    exact as_ri X hQ hr (by decide +kernel : decode cX9_clueLetter 14 = .ok (.ireturn, 1))
  · unfold B_X9_clueLetter_62
    exact as_ri X hQ hr (by decide +kernel : decode cX9_clueLetter 62 = .ok (.ireturn, 1))

def B_X9_answerLetter_0 (Q : am_Q) (G : Nat → am_K) : am_K := (ak_il 1 (ak_if (fun x => 0 ≤ x) (ak_il 1 (ak_al 0 (ak_get 7 12 (ak_c (.int 0) (ak_iald (ak_ic (fun x y => y ≤ x) (ak_c (.int (-4)) (G 31)) (ak_al 0 (ak_get 7 12 (ak_c (.int 1) (ak_il 1 (ak_ib (fun x y => x + y) (ak_iald (G 31))))))))))))) (ak_c (.int (-1)) (G 31))))
def B_X9_answerLetter_31 (Q : am_Q) (G : Nat → am_K) : am_K := (ak_ri Q)
def cl_X9_answerLetter (Q : am_Q) (G : Nat → am_K) : Prop := am_N G 0 (B_X9_answerLetter_0 Q G) ∧ am_N G 31 (B_X9_answerLetter_31 Q G)
def WP_X9_answerLetter : am_T := fun av h Q => (lg_sl av).length ≤ 2 ∧ ∀ G, cl_X9_answerLetter Q G → G 0 (am_ent 2 av) [] h
set_option maxHeartbeats 4000000 in
set_option maxRecDepth 100000 in
theorem s_X9_answerLetter {rm : Room} (hz : rm.cells = 0 ∧ rm.slots = 0) : am_S false yX9_answerLetter (am_ws yX9_answerLetter cX9_answerLetter 2 (some .int)) rm (WP_X9_answerLetter) := by
  refine am_S.of (fun _ => hz) (by decide +kernel) (fun h0 Q G => cl_X9_answerLetter Q G) ?_
  intro p l e s m args below meth c D h0 Q X hr hnm hQ
  refine ⟨?_, ?_⟩
  · unfold B_X9_answerLetter_0
    refine as_iload_n X (by decide +kernel : decode cX9_answerLetter 0 = .ok (.iload_n 1, 1)) rfl ?_
    refine as_if_ge X (tgt := 8) (by decide +kernel : decode cX9_answerLetter 1 = .ok (.ifCond .ge 7, 3)) (by decide) ?_ ?_
    · refine as_iload_n X (by decide +kernel : decode cX9_answerLetter 8 = .ok (.iload_n 1, 1)) rfl ?_
      refine as_aload_n X (by decide +kernel : decode cX9_answerLetter 9 = .ok (.aload_n 0, 1)) rfl ?_
      refine as_get X fc_X9 (by decide +kernel : decode cX9_answerLetter 10 = .ok (.getfield 34, 3)) (by decide) fl_X9_34 ?_
      refine as_iconst X (by decide +kernel : decode cX9_answerLetter 13 = .ok (.iconst 0, 1)) rfl ?_
      refine as_iaload X (by decide +kernel : decode cX9_answerLetter 14 = .ok (.iaload, 1)) ?_
      refine as_ic_ge X (tgt := 29) (by decide +kernel : decode cX9_answerLetter 15 = .ok (.if_icmp .ge 14, 3)) (by decide) ?_ ?_
      · refine as_bipush X (by decide +kernel : decode cX9_answerLetter 29 = .ok (.bipush (-4), 2)) rfl ?_
        exact fun _ _ _ h => h
      · refine as_aload_n X (by decide +kernel : decode cX9_answerLetter 18 = .ok (.aload_n 0, 1)) rfl ?_
        refine as_get X fc_X9 (by decide +kernel : decode cX9_answerLetter 19 = .ok (.getfield 34, 3)) (by decide) fl_X9_34 ?_
        refine as_iconst X (by decide +kernel : decode cX9_answerLetter 22 = .ok (.iconst 1, 1)) rfl ?_
        refine as_iload_n X (by decide +kernel : decode cX9_answerLetter 23 = .ok (.iload_n 1, 1)) rfl ?_
        refine as_iadd X (by decide +kernel : decode cX9_answerLetter 24 = .ok (.iadd, 1)) ?_
        refine as_iaload X (by decide +kernel : decode cX9_answerLetter 25 = .ok (.iaload, 1)) ?_
        refine as_goto X (tgt := 31) (by decide +kernel : decode cX9_answerLetter 26 = .ok (.goto 5, 3)) (by decide) ?_
        exact fun _ _ _ h => h
    · refine as_iconst X (by decide +kernel : decode cX9_answerLetter 4 = .ok (.iconst (-1), 1)) rfl ?_
      refine as_goto X (tgt := 31) (by decide +kernel : decode cX9_answerLetter 5 = .ok (.goto 26, 3)) (by decide) ?_
      exact fun _ _ _ h => h
  · unfold B_X9_answerLetter_31
    exact as_ri X hQ hr (by decide +kernel : decode cX9_answerLetter 31 = .ok (.ireturn, 1))

def B_X9_isOf_0 (kX9_isLike : am_T) (Q : am_Q) (G : Nat → am_K) : am_K := (ak_il 1 (ak_al 0 (ak_get 7 18 (ak_ic (fun x y => x = y) (G 34) (ak_al 0 (ak_get 7 3 (ak_c (.int 8) (ak_il 1 (ak_ib (fun x y => x * y) (ak_al 0 (ak_get 7 11 (ak_c (.int 8) (ak_il 2 (ak_ib (fun x y => x * y) (ak_cs 4 kX9_isLike (ak_if (fun x => x = 0) (G 34) (ak_c (.int 1) (G 35))))))))))))))))))
def B_X9_isOf_34 (kX9_isLike : am_T) (Q : am_Q) (G : Nat → am_K) : am_K := (ak_c (.int 0) (G 35))
def B_X9_isOf_35 (kX9_isLike : am_T) (Q : am_Q) (G : Nat → am_K) : am_K := (ak_rz Q)
def cl_X9_isOf (kX9_isLike : am_T) (Q : am_Q) (G : Nat → am_K) : Prop := am_N G 0 (B_X9_isOf_0 kX9_isLike Q G) ∧ am_N G 34 (B_X9_isOf_34 kX9_isLike Q G) ∧ am_N G 35 (B_X9_isOf_35 kX9_isLike Q G)
def WP_X9_isOf (kX9_isLike : am_T) : am_T := fun av h Q => (lg_sl av).length ≤ 3 ∧ ∀ G, cl_X9_isOf kX9_isLike Q G → G 0 (am_ent 3 av) [] h
set_option maxHeartbeats 4000000 in
set_option maxRecDepth 100000 in
theorem s_X9_isOf {mX9_isLike : Room} {kX9_isLike : am_T} (h_X9_isLike : am_S false yX9_isLike (am_ws yX9_isLike cX9_isLike 6 (some .boolean)) mX9_isLike kX9_isLike) {rm : Room} (hz : rm.cells = 0 ∧ rm.slots = 0) (R_X9_isLike : mX9_isLike.frames + 1 ≤ rm.frames ∧ 8 + (6 + 11) + mX9_isLike.locals ≤ rm.locals) : am_S false yX9_isOf (am_ws yX9_isOf cX9_isOf 3 (some .boolean)) rm (WP_X9_isOf kX9_isLike) := by
  refine am_S.of (fun _ => hz) (by decide +kernel) (fun h0 Q G => cl_X9_isOf kX9_isLike Q G) ?_
  intro p l e s m args below meth c D h0 Q X hr hnm hQ
  refine ⟨?_, ?_, ?_⟩
  · unfold B_X9_isOf_0
    refine as_iload_n X (by decide +kernel : decode cX9_isOf 0 = .ok (.iload_n 1, 1)) rfl ?_
    refine as_aload_n X (by decide +kernel : decode cX9_isOf 1 = .ok (.aload_n 0, 1)) rfl ?_
    refine as_get X fc_X9 (by decide +kernel : decode cX9_isOf 2 = .ok (.getfield 47, 3)) (by decide) fl_X9_47 ?_
    refine as_ic_eq X (tgt := 34) (by decide +kernel : decode cX9_isOf 5 = .ok (.if_icmp .eq 29, 3)) (by decide) ?_ ?_
    · exact fun _ _ _ h => h
    · refine as_aload_n X (by decide +kernel : decode cX9_isOf 8 = .ok (.aload_n 0, 1)) rfl ?_
      refine as_get X fc_X9 (by decide +kernel : decode cX9_isOf 9 = .ok (.getfield 13, 3)) (by decide) fl_X9_13 ?_
      refine as_bipush X (by decide +kernel : decode cX9_isOf 12 = .ok (.bipush 8, 2)) rfl ?_
      refine as_iload_n X (by decide +kernel : decode cX9_isOf 14 = .ok (.iload_n 1, 1)) rfl ?_
      refine as_imul X (by decide +kernel : decode cX9_isOf 15 = .ok (.imul, 1)) ?_
      refine as_aload_n X (by decide +kernel : decode cX9_isOf 16 = .ok (.aload_n 0, 1)) rfl ?_
      refine as_get X fc_X9 (by decide +kernel : decode cX9_isOf 17 = .ok (.getfield 31, 3)) (by decide) fl_X9_31 ?_
      refine as_bipush X (by decide +kernel : decode cX9_isOf 20 = .ok (.bipush 8, 2)) rfl ?_
      refine as_iload_n X (by decide +kernel : decode cX9_isOf 22 = .ok (.iload_n 2, 1)) rfl ?_
      refine as_imul X (by decide +kernel : decode cX9_isOf 23 = .ok (.imul, 1)) ?_
      refine as_cs X h_X9_isLike (by decide +kernel : decode cX9_isOf 24 = .ok (.invokestatic 119, 3)) dn_X9_isLike ml_X9_119 st_X9_isLike ini_X9 co_X9_isLike R_X9_isLike ?_
      refine as_if_eq X (tgt := 34) (by decide +kernel : decode cX9_isOf 27 = .ok (.ifCond .eq 7, 3)) (by decide) ?_ ?_
      · exact fun _ _ _ h => h
      · refine as_iconst X (by decide +kernel : decode cX9_isOf 30 = .ok (.iconst 1, 1)) rfl ?_
        refine as_goto X (tgt := 35) (by decide +kernel : decode cX9_isOf 31 = .ok (.goto 4, 3)) (by decide) ?_
        exact fun _ _ _ h => h
  · unfold B_X9_isOf_34
    refine as_iconst X (by decide +kernel : decode cX9_isOf 34 = .ok (.iconst 0, 1)) rfl ?_
    exact fun _ _ _ h => h
  · unfold B_X9_isOf_35
    exact as_rz X hQ hr (by decide +kernel : decode cX9_isOf 35 = .ok (.ireturn, 1))
