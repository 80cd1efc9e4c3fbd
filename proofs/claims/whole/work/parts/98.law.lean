/-! the law: its points; printed by wip/whole/gen5.py -/
theorem ml_L_12 : Cond.methodLink RL 12 yX9_init ∈ am_gw := am_g4 74 rfl rfl
theorem im_X9_init : Cond.instanceMethod yX9_init ∈ am_gw := am_g4 75 rfl rfl
theorem co_X9_init : Cond.code yX9_init cX9_init 1 none ∈ am_gw := am_g4 76 rfl rfl
theorem cl_L_10 : Cond.classLink RL 10 RX9 ∈ am_gw := am_g4 72 rfl rfl
theorem is_X9 : Cond.instantiable RX9 39 ∈ am_gw := am_g4 73 rfl rfl
theorem ml_L_9 : Cond.methodLink RL 9 yX8_init ∈ am_gw := am_g1 19 rfl rfl
theorem im_X8_init : Cond.instanceMethod yX8_init ∈ am_gw := am_g1 20 rfl rfl
theorem co_X8_init : Cond.code yX8_init cX8_init 1 none ∈ am_gw := am_g1 21 rfl rfl
theorem cl_L_7 : Cond.classLink RL 7 RX8 ∈ am_gw := am_g1 17 rfl rfl
theorem is_X8 : Cond.instantiable RX8 7 ∈ am_gw := am_g1 18 rfl rfl
theorem ml_L_17 : Cond.methodLink RL 17 yX9_write ∈ am_gw := am_g5 3 rfl rfl
theorem ml_L_13 : Cond.methodLink RL 13 yX8_write ∈ am_gw := am_g2 108 rfl rfl
theorem im_X8_write : Cond.instanceMethod yX8_write ∈ am_gw := am_g2 109 rfl rfl
theorem se_X8_write : Cond.selects RX8 yX8_write yX8_write ∈ am_gw := am_g2 110 rfl rfl
theorem co_X8_write : Cond.code yX8_write cX8_write 2 (some .int) ∈ am_gw := am_g2 111 rfl rfl
theorem ml_L_22 : Cond.methodLink RL 22 yX9_wipe ∈ am_gw := am_g5 4 rfl rfl
theorem im_X9_wipe : Cond.instanceMethod yX9_wipe ∈ am_gw := am_g5 5 rfl rfl
theorem se_X9_wipe : Cond.selects RX9 yX9_wipe yX9_wipe ∈ am_gw := am_g5 6 rfl rfl
theorem co_X9_wipe : Cond.code yX9_wipe cX9_wipe 2 (some .int) ∈ am_gw := am_g5 7 rfl rfl
theorem ml_L_18 : Cond.methodLink RL 18 yX8_wipe ∈ am_gw := am_g2 113 rfl rfl
theorem im_X8_wipe : Cond.instanceMethod yX8_wipe ∈ am_gw := am_g2 114 rfl rfl
theorem se_X8_wipe : Cond.selects RX8 yX8_wipe yX8_wipe ∈ am_gw := am_g2 115 rfl rfl
theorem co_X8_wipe : Cond.code yX8_wipe cX8_wipe 2 (some .int) ∈ am_gw := am_g2 116 rfl rfl
theorem ml_L_26 : Cond.methodLink RL 26 yX9_fault ∈ am_gw := am_g5 8 rfl rfl
theorem im_X9_fault : Cond.instanceMethod yX9_fault ∈ am_gw := am_g5 9 rfl rfl
theorem se_X9_fault : Cond.selects RX9 yX9_fault yX9_fault ∈ am_gw := am_g5 10 rfl rfl
theorem co_X9_fault : Cond.code yX9_fault cX9_fault 1 (some .int) ∈ am_gw := am_g5 11 rfl rfl
theorem ml_L_23 : Cond.methodLink RL 23 yX8_fault ∈ am_gw := am_g2 117 rfl rfl
theorem im_X8_fault : Cond.instanceMethod yX8_fault ∈ am_gw := am_g2 118 rfl rfl
theorem se_X8_fault : Cond.selects RX8 yX8_fault yX8_fault ∈ am_gw := am_g2 119 rfl rfl
theorem co_X8_fault : Cond.code yX8_fault cX8_fault 1 (some .int) ∈ am_gw := am_g2 120 rfl rfl
theorem ml_L_30 : Cond.methodLink RL 30 yX9_learn ∈ am_gw := am_g5 12 rfl rfl
theorem ml_L_27 : Cond.methodLink RL 27 yX8_learn ∈ am_gw := am_g2 126 rfl rfl
theorem im_X8_learn : Cond.instanceMethod yX8_learn ∈ am_gw := am_g2 127 rfl rfl
theorem se_X8_learn : Cond.selects RX8 yX8_learn yX8_learn ∈ am_gw := am_g2 128 rfl rfl
theorem co_X8_learn : Cond.code yX8_learn cX8_learn 2 (some .int) ∈ am_gw := am_g2 129 rfl rfl
theorem ml_L_34 : Cond.methodLink RL 34 yX9_forget ∈ am_gw := am_g5 13 rfl rfl
theorem im_X9_forget : Cond.instanceMethod yX9_forget ∈ am_gw := am_g5 14 rfl rfl
theorem se_X9_forget : Cond.selects RX9 yX9_forget yX9_forget ∈ am_gw := am_g5 15 rfl rfl
theorem co_X9_forget : Cond.code yX9_forget cX9_forget 3 (some .int) ∈ am_gw := am_g5 16 rfl rfl
theorem ml_L_31 : Cond.methodLink RL 31 yX8_forget ∈ am_gw := am_g2 130 rfl rfl
theorem im_X8_forget : Cond.instanceMethod yX8_forget ∈ am_gw := am_g2 131 rfl rfl
theorem se_X8_forget : Cond.selects RX8 yX8_forget yX8_forget ∈ am_gw := am_g2 132 rfl rfl
theorem co_X8_forget : Cond.code yX8_forget cX8_forget 2 (some .int) ∈ am_gw := am_g2 133 rfl rfl
theorem ml_L_38 : Cond.methodLink RL 38 yX9_clue ∈ am_gw := am_g5 24 rfl rfl
theorem ml_L_35 : Cond.methodLink RL 35 yX8_clue ∈ am_gw := am_g2 143 rfl rfl
theorem im_X8_clue : Cond.instanceMethod yX8_clue ∈ am_gw := am_g2 144 rfl rfl
theorem se_X8_clue : Cond.selects RX8 yX8_clue yX8_clue ∈ am_gw := am_g2 145 rfl rfl
theorem co_X8_clue : Cond.code yX8_clue cX8_clue 1 (some .int) ∈ am_gw := am_g2 146 rfl rfl
theorem ml_L_42 : Cond.methodLink RL 42 yX9_answer ∈ am_gw := am_g5 25 rfl rfl
theorem im_X9_answer : Cond.instanceMethod yX9_answer ∈ am_gw := am_g5 26 rfl rfl
theorem se_X9_answer : Cond.selects RX9 yX9_answer yX9_answer ∈ am_gw := am_g5 27 rfl rfl
theorem co_X9_answer : Cond.code yX9_answer cX9_answer 2 (some .int) ∈ am_gw := am_g5 28 rfl rfl
theorem ml_L_39 : Cond.methodLink RL 39 yX8_answer ∈ am_gw := am_g2 147 rfl rfl
theorem im_X8_answer : Cond.instanceMethod yX8_answer ∈ am_gw := am_g2 148 rfl rfl
theorem se_X8_answer : Cond.selects RX8 yX8_answer yX8_answer ∈ am_gw := am_g2 149 rfl rfl
theorem co_X8_answer : Cond.code yX8_answer cX8_answer 2 (some .int) ∈ am_gw := am_g2 150 rfl rfl
theorem ml_L_47 : Cond.methodLink RL 47 yX9_weigh ∈ am_gw := am_g5 29 rfl rfl
theorem im_X9_weigh : Cond.instanceMethod yX9_weigh ∈ am_gw := am_g5 30 rfl rfl
theorem se_X9_weigh : Cond.selects RX9 yX9_weigh yX9_weigh ∈ am_gw := am_g5 31 rfl rfl
theorem co_X9_weigh : Cond.code yX9_weigh cX9_weigh 4 (some .int) ∈ am_gw := am_g5 32 rfl rfl
theorem ml_L_43 : Cond.methodLink RL 43 yX8_weigh ∈ am_gw := am_g2 156 rfl rfl
theorem im_X8_weigh : Cond.instanceMethod yX8_weigh ∈ am_gw := am_g2 157 rfl rfl
theorem se_X8_weigh : Cond.selects RX8 yX8_weigh yX8_weigh ∈ am_gw := am_g2 158 rfl rfl
theorem co_X8_weigh : Cond.code yX8_weigh cX8_weigh 4 (some .int) ∈ am_gw := am_g2 159 rfl rfl
theorem ml_L_51 : Cond.methodLink RL 51 yX9_entry ∈ am_gw := am_g5 33 rfl rfl
theorem im_X9_entry : Cond.instanceMethod yX9_entry ∈ am_gw := am_g5 34 rfl rfl
theorem se_X9_entry : Cond.selects RX9 yX9_entry yX9_entry ∈ am_gw := am_g5 35 rfl rfl
theorem co_X9_entry : Cond.code yX9_entry cX9_entry 3 (some .int) ∈ am_gw := am_g5 36 rfl rfl
theorem ml_L_48 : Cond.methodLink RL 48 yX8_entry ∈ am_gw := am_g2 160 rfl rfl
theorem im_X8_entry : Cond.instanceMethod yX8_entry ∈ am_gw := am_g2 161 rfl rfl
theorem se_X8_entry : Cond.selects RX8 yX8_entry yX8_entry ∈ am_gw := am_g2 162 rfl rfl
theorem co_X8_entry : Cond.code yX8_entry cX8_entry 4 (some .int) ∈ am_gw := am_g2 163 rfl rfl
theorem ml_L_56 : Cond.methodLink RL 56 yX9_entryLetter ∈ am_gw := am_g5 41 rfl rfl
theorem im_X9_entryLetter : Cond.instanceMethod yX9_entryLetter ∈ am_gw := am_g5 42 rfl rfl
theorem se_X9_entryLetter : Cond.selects RX9 yX9_entryLetter yX9_entryLetter ∈ am_gw := am_g5 43 rfl rfl
theorem co_X9_entryLetter : Cond.code yX9_entryLetter cX9_entryLetter 4 (some .int) ∈ am_gw := am_g5 44 rfl rfl
theorem ml_L_52 : Cond.methodLink RL 52 yX8_entryLetter ∈ am_gw := am_g2 170 rfl rfl
theorem im_X8_entryLetter : Cond.instanceMethod yX8_entryLetter ∈ am_gw := am_g2 171 rfl rfl
theorem se_X8_entryLetter : Cond.selects RX8 yX8_entryLetter yX8_entryLetter ∈ am_gw := am_g2 172 rfl rfl
theorem co_X8_entryLetter : Cond.code yX8_entryLetter cX8_entryLetter 4 (some .int) ∈ am_gw := am_g2 173 rfl rfl
theorem ml_L_60 : Cond.methodLink RL 60 yX9_clueLetter ∈ am_gw := am_g5 45 rfl rfl
theorem im_X9_clueLetter : Cond.instanceMethod yX9_clueLetter ∈ am_gw := am_g5 46 rfl rfl
theorem se_X9_clueLetter : Cond.selects RX9 yX9_clueLetter yX9_clueLetter ∈ am_gw := am_g5 47 rfl rfl
theorem co_X9_clueLetter : Cond.code yX9_clueLetter cX9_clueLetter 3 (some .int) ∈ am_gw := am_g5 48 rfl rfl
theorem ml_L_57 : Cond.methodLink RL 57 yX8_clueLetter ∈ am_gw := am_g2 181 rfl rfl
theorem im_X8_clueLetter : Cond.instanceMethod yX8_clueLetter ∈ am_gw := am_g2 182 rfl rfl
theorem se_X8_clueLetter : Cond.selects RX8 yX8_clueLetter yX8_clueLetter ∈ am_gw := am_g2 183 rfl rfl
theorem co_X8_clueLetter : Cond.code yX8_clueLetter cX8_clueLetter 3 (some .int) ∈ am_gw := am_g2 184 rfl rfl
theorem ml_L_64 : Cond.methodLink RL 64 yX9_answerLetter ∈ am_gw := am_g5 53 rfl rfl
theorem im_X9_answerLetter : Cond.instanceMethod yX9_answerLetter ∈ am_gw := am_g5 54 rfl rfl
theorem se_X9_answerLetter : Cond.selects RX9 yX9_answerLetter yX9_answerLetter ∈ am_gw := am_g5 55 rfl rfl
theorem co_X9_answerLetter : Cond.code yX9_answerLetter cX9_answerLetter 2 (some .int) ∈ am_gw := am_g5 56 rfl rfl
theorem ml_L_61 : Cond.methodLink RL 61 yX8_answerLetter ∈ am_gw := am_g2 189 rfl rfl
theorem im_X8_answerLetter : Cond.instanceMethod yX8_answerLetter ∈ am_gw := am_g2 190 rfl rfl
theorem se_X8_answerLetter : Cond.selects RX8 yX8_answerLetter yX8_answerLetter ∈ am_gw := am_g2 191 rfl rfl
theorem co_X8_answerLetter : Cond.code yX8_answerLetter cX8_answerLetter 2 (some .int) ∈ am_gw := am_g2 192 rfl rfl
theorem ml_L_68 : Cond.methodLink RL 68 yX9_sign ∈ am_gw := am_g5 57 rfl rfl
theorem im_X9_sign : Cond.instanceMethod yX9_sign ∈ am_gw := am_g5 58 rfl rfl
theorem se_X9_sign : Cond.selects RX9 yX9_sign yX9_sign ∈ am_gw := am_g5 59 rfl rfl
theorem co_X9_sign : Cond.code yX9_sign cX9_sign 3 (some .int) ∈ am_gw := am_g5 60 rfl rfl
theorem ml_L_65 : Cond.methodLink RL 65 yX8_sign ∈ am_gw := am_g2 193 rfl rfl
theorem im_X8_sign : Cond.instanceMethod yX8_sign ∈ am_gw := am_g2 194 rfl rfl
theorem se_X8_sign : Cond.selects RX8 yX8_sign yX8_sign ∈ am_gw := am_g2 195 rfl rfl
theorem co_X8_sign : Cond.code yX8_sign cX8_sign 3 (some .int) ∈ am_gw := am_g2 196 rfl rfl
theorem ml_L_72 : Cond.methodLink RL 72 yX9_parses ∈ am_gw := am_g5 69 rfl rfl
theorem ml_L_69 : Cond.methodLink RL 69 yX8_parses ∈ am_gw := am_g2 202 rfl rfl
theorem ml_L_76 : Cond.methodLink RL 76 yX9_cost ∈ am_gw := am_g5 182 rfl rfl
theorem ml_L_73 : Cond.methodLink RL 73 yX8_cost ∈ am_gw := am_g3 158 rfl rfl
theorem ml_L_80 : Cond.methodLink RL 80 yX9_first ∈ am_gw := am_g5 190 rfl rfl
theorem im_X9_first : Cond.instanceMethod yX9_first ∈ am_gw := am_g5 191 rfl rfl
theorem se_X9_first : Cond.selects RX9 yX9_first yX9_first ∈ am_gw := am_g5 192 rfl rfl
theorem co_X9_first : Cond.code yX9_first cX9_first 2 (some .int) ∈ am_gw := am_g5 193 rfl rfl
theorem ml_L_77 : Cond.methodLink RL 77 yX8_first ∈ am_gw := am_g3 168 rfl rfl
theorem im_X8_first : Cond.instanceMethod yX8_first ∈ am_gw := am_g3 169 rfl rfl
theorem se_X8_first : Cond.selects RX8 yX8_first yX8_first ∈ am_gw := am_g3 170 rfl rfl
theorem co_X8_first : Cond.code yX8_first cX8_first 2 (some .int) ∈ am_gw := am_g3 171 rfl rfl
theorem ml_L_85 : Cond.methodLink RL 85 yX9_pieces ∈ am_gw := am_g5 226 rfl rfl
theorem im_X9_pieces : Cond.instanceMethod yX9_pieces ∈ am_gw := am_g5 227 rfl rfl
theorem se_X9_pieces : Cond.selects RX9 yX9_pieces yX9_pieces ∈ am_gw := am_g5 228 rfl rfl
theorem co_X9_pieces : Cond.code yX9_pieces cX9_pieces 5 (some .int) ∈ am_gw := am_g5 229 rfl rfl
theorem ml_L_81 : Cond.methodLink RL 81 yX8_pieces ∈ am_gw := am_g3 232 rfl rfl
theorem im_X8_pieces : Cond.instanceMethod yX8_pieces ∈ am_gw := am_g3 233 rfl rfl
theorem se_X8_pieces : Cond.selects RX8 yX8_pieces yX8_pieces ∈ am_gw := am_g3 234 rfl rfl
theorem co_X8_pieces : Cond.code yX8_pieces cX8_pieces 5 (some .int) ∈ am_gw := am_g3 235 rfl rfl
theorem ml_L_89 : Cond.methodLink RL 89 yX9_pieceCost ∈ am_gw := am_g5 234 rfl rfl
theorem im_X9_pieceCost : Cond.instanceMethod yX9_pieceCost ∈ am_gw := am_g5 235 rfl rfl
theorem se_X9_pieceCost : Cond.selects RX9 yX9_pieceCost yX9_pieceCost ∈ am_gw := am_g5 236 rfl rfl
theorem co_X9_pieceCost : Cond.code yX9_pieceCost cX9_pieceCost 6 (some .int) ∈ am_gw := am_g5 237 rfl rfl
theorem ml_L_86 : Cond.methodLink RL 86 yX8_pieceCost ∈ am_gw := am_g4 2 rfl rfl
theorem im_X8_pieceCost : Cond.instanceMethod yX8_pieceCost ∈ am_gw := am_g4 3 rfl rfl
theorem se_X8_pieceCost : Cond.selects RX8 yX8_pieceCost yX8_pieceCost ∈ am_gw := am_g4 4 rfl rfl
theorem co_X8_pieceCost : Cond.code yX8_pieceCost cX8_pieceCost 5 (some .int) ∈ am_gw := am_g4 5 rfl rfl
theorem ml_L_93 : Cond.methodLink RL 93 yX9_units ∈ am_gw := am_g5 238 rfl rfl
theorem im_X9_units : Cond.instanceMethod yX9_units ∈ am_gw := am_g5 239 rfl rfl
theorem se_X9_units : Cond.selects RX9 yX9_units yX9_units ∈ am_gw := am_g6 0 rfl rfl
theorem co_X9_units : Cond.code yX9_units cX9_units 5 (some .int) ∈ am_gw := am_g6 1 rfl rfl
theorem ml_L_90 : Cond.methodLink RL 90 yX8_units ∈ am_gw := am_g4 6 rfl rfl
theorem im_X8_units : Cond.instanceMethod yX8_units ∈ am_gw := am_g4 7 rfl rfl
theorem se_X8_units : Cond.selects RX8 yX8_units yX8_units ∈ am_gw := am_g4 8 rfl rfl
theorem co_X8_units : Cond.code yX8_units cX8_units 5 (some .int) ∈ am_gw := am_g4 9 rfl rfl
theorem ml_L_97 : Cond.methodLink RL 97 yX9_cheapest ∈ am_gw := am_g5 186 rfl rfl
theorem im_X9_cheapest : Cond.instanceMethod yX9_cheapest ∈ am_gw := am_g5 187 rfl rfl
theorem se_X9_cheapest : Cond.selects RX9 yX9_cheapest yX9_cheapest ∈ am_gw := am_g5 188 rfl rfl
theorem co_X9_cheapest : Cond.code yX9_cheapest cX9_cheapest 1 (some .int) ∈ am_gw := am_g5 189 rfl rfl
theorem ml_L_94 : Cond.methodLink RL 94 yX8_cheapest ∈ am_gw := am_g4 11 rfl rfl
theorem im_X8_cheapest : Cond.instanceMethod yX8_cheapest ∈ am_gw := am_g4 12 rfl rfl
theorem se_X8_cheapest : Cond.selects RX8 yX8_cheapest yX8_cheapest ∈ am_gw := am_g4 13 rfl rfl
theorem co_X8_cheapest : Cond.code yX8_cheapest cX8_cheapest 1 (some .int) ∈ am_gw := am_g4 14 rfl rfl
theorem ml_L_101 : Cond.methodLink RL 101 yX9_offer ∈ am_gw := am_g6 2 rfl rfl
theorem ml_L_98 : Cond.methodLink RL 98 yX8_offer ∈ am_gw := am_g4 16 rfl rfl
theorem im_X8_offer : Cond.instanceMethod yX8_offer ∈ am_gw := am_g4 17 rfl rfl
theorem se_X8_offer : Cond.selects RX8 yX8_offer yX8_offer ∈ am_gw := am_g4 18 rfl rfl
theorem co_X8_offer : Cond.code yX8_offer cX8_offer 2 (some .int) ∈ am_gw := am_g4 19 rfl rfl
theorem ml_L_105 : Cond.methodLink RL 105 yX9_ifOffer ∈ am_gw := am_g6 10 rfl rfl
theorem im_X9_ifOffer : Cond.instanceMethod yX9_ifOffer ∈ am_gw := am_g6 11 rfl rfl
theorem se_X9_ifOffer : Cond.selects RX9 yX9_ifOffer yX9_ifOffer ∈ am_gw := am_g6 12 rfl rfl
theorem co_X9_ifOffer : Cond.code yX9_ifOffer cX9_ifOffer 5 (some .int) ∈ am_gw := am_g6 13 rfl rfl
theorem ml_L_102 : Cond.methodLink RL 102 yX8_ifOffer ∈ am_gw := am_g4 37 rfl rfl
theorem im_X8_ifOffer : Cond.instanceMethod yX8_ifOffer ∈ am_gw := am_g4 38 rfl rfl
theorem se_X8_ifOffer : Cond.selects RX8 yX8_ifOffer yX8_ifOffer ∈ am_gw := am_g4 39 rfl rfl
theorem co_X8_ifOffer : Cond.code yX8_ifOffer cX8_ifOffer 5 (some .int) ∈ am_gw := am_g4 40 rfl rfl
theorem ml_L_109 : Cond.methodLink RL 109 yX9_take ∈ am_gw := am_g6 21 rfl rfl
theorem im_X9_take : Cond.instanceMethod yX9_take ∈ am_gw := am_g6 22 rfl rfl
theorem se_X9_take : Cond.selects RX9 yX9_take yX9_take ∈ am_gw := am_g6 23 rfl rfl
theorem co_X9_take : Cond.code yX9_take cX9_take 3 (some .int) ∈ am_gw := am_g6 24 rfl rfl
theorem ml_L_106 : Cond.methodLink RL 106 yX8_take ∈ am_gw := am_g4 48 rfl rfl
theorem im_X8_take : Cond.instanceMethod yX8_take ∈ am_gw := am_g4 49 rfl rfl
theorem se_X8_take : Cond.selects RX8 yX8_take yX8_take ∈ am_gw := am_g4 50 rfl rfl
theorem co_X8_take : Cond.code yX8_take cX8_take 3 (some .int) ∈ am_gw := am_g4 51 rfl rfl
theorem ml_L_113 : Cond.methodLink RL 113 yX9_without ∈ am_gw := am_g6 25 rfl rfl
theorem im_X9_without : Cond.instanceMethod yX9_without ∈ am_gw := am_g6 26 rfl rfl
theorem se_X9_without : Cond.selects RX9 yX9_without yX9_without ∈ am_gw := am_g6 27 rfl rfl
theorem co_X9_without : Cond.code yX9_without cX9_without 2 (some .int) ∈ am_gw := am_g6 28 rfl rfl
theorem ml_L_110 : Cond.methodLink RL 110 yX8_without ∈ am_gw := am_g4 52 rfl rfl
theorem im_X8_without : Cond.instanceMethod yX8_without ∈ am_gw := am_g4 53 rfl rfl
theorem se_X8_without : Cond.selects RX8 yX8_without yX8_without ∈ am_gw := am_g4 54 rfl rfl
theorem co_X8_without : Cond.code yX8_without cX8_without 3 (some .int) ∈ am_gw := am_g4 55 rfl rfl
theorem ml_L_117 : Cond.methodLink RL 117 yX9_count ∈ am_gw := am_g6 33 rfl rfl
theorem im_X9_count : Cond.instanceMethod yX9_count ∈ am_gw := am_g6 34 rfl rfl
theorem se_X9_count : Cond.selects RX9 yX9_count yX9_count ∈ am_gw := am_g6 35 rfl rfl
theorem co_X9_count : Cond.code yX9_count cX9_count 6 (some .int) ∈ am_gw := am_g6 36 rfl rfl
theorem ml_L_114 : Cond.methodLink RL 114 yX8_count ∈ am_gw := am_g4 56 rfl rfl
theorem im_X8_count : Cond.instanceMethod yX8_count ∈ am_gw := am_g4 57 rfl rfl
theorem se_X8_count : Cond.selects RX8 yX8_count yX8_count ∈ am_gw := am_g4 58 rfl rfl
theorem co_X8_count : Cond.code yX8_count cX8_count 2 (some .int) ∈ am_gw := am_g4 59 rfl rfl
theorem dn_X8_answer : am_dn yX8_answer 0 := ⟨by decide +kernel, by decide +kernel, by decide +kernel⟩
theorem dn_X8_answerLetter : am_dn yX8_answerLetter 1 := ⟨by decide +kernel, by decide +kernel, by decide +kernel⟩
theorem dn_X8_cheapest : am_dn yX8_cheapest 0 := ⟨by decide +kernel, by decide +kernel, by decide +kernel⟩
theorem dn_X8_clue : am_dn yX8_clue 0 := ⟨by decide +kernel, by decide +kernel, by decide +kernel⟩
theorem dn_X8_clueLetter : am_dn yX8_clueLetter 2 := ⟨by decide +kernel, by decide +kernel, by decide +kernel⟩
theorem dn_X8_count : am_dn yX8_count 1 := ⟨by decide +kernel, by decide +kernel, by decide +kernel⟩
theorem dn_X8_entry : am_dn yX8_entry 2 := ⟨by decide +kernel, by decide +kernel, by decide +kernel⟩
theorem dn_X8_entryLetter : am_dn yX8_entryLetter 3 := ⟨by decide +kernel, by decide +kernel, by decide +kernel⟩
theorem dn_X8_fault : am_dn yX8_fault 0 := ⟨by decide +kernel, by decide +kernel, by decide +kernel⟩
theorem dn_X8_first : am_dn yX8_first 1 := ⟨by decide +kernel, by decide +kernel, by decide +kernel⟩
theorem dn_X8_forget : am_dn yX8_forget 1 := ⟨by decide +kernel, by decide +kernel, by decide +kernel⟩
theorem dn_X8_ifOffer : am_dn yX8_ifOffer 2 := ⟨by decide +kernel, by decide +kernel, by decide +kernel⟩
theorem dn_X8_init : am_dn yX8_init 0 := ⟨by decide +kernel, by decide +kernel, by decide +kernel⟩
theorem dn_X8_learn : am_dn yX8_learn 0 := ⟨by decide +kernel, by decide +kernel, by decide +kernel⟩
theorem dn_X8_offer : am_dn yX8_offer 1 := ⟨by decide +kernel, by decide +kernel, by decide +kernel⟩
theorem dn_X8_pieceCost : am_dn yX8_pieceCost 4 := ⟨by decide +kernel, by decide +kernel, by decide +kernel⟩
theorem dn_X8_pieces : am_dn yX8_pieces 4 := ⟨by decide +kernel, by decide +kernel, by decide +kernel⟩
theorem dn_X8_sign : am_dn yX8_sign 2 := ⟨by decide +kernel, by decide +kernel, by decide +kernel⟩
theorem dn_X8_take : am_dn yX8_take 1 := ⟨by decide +kernel, by decide +kernel, by decide +kernel⟩
theorem dn_X8_units : am_dn yX8_units 4 := ⟨by decide +kernel, by decide +kernel, by decide +kernel⟩
theorem dn_X8_weigh : am_dn yX8_weigh 2 := ⟨by decide +kernel, by decide +kernel, by decide +kernel⟩
theorem dn_X8_wipe : am_dn yX8_wipe 0 := ⟨by decide +kernel, by decide +kernel, by decide +kernel⟩
theorem dn_X8_without : am_dn yX8_without 1 := ⟨by decide +kernel, by decide +kernel, by decide +kernel⟩
theorem dn_X8_write : am_dn yX8_write 1 := ⟨by decide +kernel, by decide +kernel, by decide +kernel⟩
theorem dn_X9_answer : am_dn yX9_answer 0 := ⟨by decide +kernel, by decide +kernel, by decide +kernel⟩
theorem dn_X9_answerLetter : am_dn yX9_answerLetter 1 := ⟨by decide +kernel, by decide +kernel, by decide +kernel⟩
theorem dn_X9_cheapest : am_dn yX9_cheapest 0 := ⟨by decide +kernel, by decide +kernel, by decide +kernel⟩
theorem dn_X9_clueLetter : am_dn yX9_clueLetter 2 := ⟨by decide +kernel, by decide +kernel, by decide +kernel⟩
theorem dn_X9_count : am_dn yX9_count 1 := ⟨by decide +kernel, by decide +kernel, by decide +kernel⟩
theorem dn_X9_entry : am_dn yX9_entry 2 := ⟨by decide +kernel, by decide +kernel, by decide +kernel⟩
theorem dn_X9_entryLetter : am_dn yX9_entryLetter 3 := ⟨by decide +kernel, by decide +kernel, by decide +kernel⟩
theorem dn_X9_fault : am_dn yX9_fault 0 := ⟨by decide +kernel, by decide +kernel, by decide +kernel⟩
theorem dn_X9_first : am_dn yX9_first 1 := ⟨by decide +kernel, by decide +kernel, by decide +kernel⟩
theorem dn_X9_forget : am_dn yX9_forget 1 := ⟨by decide +kernel, by decide +kernel, by decide +kernel⟩
theorem dn_X9_ifOffer : am_dn yX9_ifOffer 2 := ⟨by decide +kernel, by decide +kernel, by decide +kernel⟩
theorem dn_X9_init : am_dn yX9_init 0 := ⟨by decide +kernel, by decide +kernel, by decide +kernel⟩
theorem dn_X9_pieceCost : am_dn yX9_pieceCost 4 := ⟨by decide +kernel, by decide +kernel, by decide +kernel⟩
theorem dn_X9_pieces : am_dn yX9_pieces 4 := ⟨by decide +kernel, by decide +kernel, by decide +kernel⟩
theorem dn_X9_sign : am_dn yX9_sign 2 := ⟨by decide +kernel, by decide +kernel, by decide +kernel⟩
theorem dn_X9_take : am_dn yX9_take 1 := ⟨by decide +kernel, by decide +kernel, by decide +kernel⟩
theorem dn_X9_units : am_dn yX9_units 4 := ⟨by decide +kernel, by decide +kernel, by decide +kernel⟩
theorem dn_X9_weigh : am_dn yX9_weigh 2 := ⟨by decide +kernel, by decide +kernel, by decide +kernel⟩
theorem dn_X9_wipe : am_dn yX9_wipe 0 := ⟨by decide +kernel, by decide +kernel, by decide +kernel⟩
theorem dn_X9_without : am_dn yX9_without 1 := ⟨by decide +kernel, by decide +kernel, by decide +kernel⟩
/-! THE CLAIM OUT OF ONE WALK OF THE LAW'S BODY. Your part is whole_start (and what it stands on); all else here is the same for every law, but numbers. -/
def R_law : String := "CluePartsLaw"
def lw_P (b : Addr) (xs : List Int32) (args : Array Value) (s : State) : Prop := args = #[.ref b] ∧ s.IntsAt b xs ∧ xs.length ≤ 2560 ∧ (Jvm.Cond.and given_1 narrow_1).before args s = true
def lw_Q (_ : Array Value) (s : State) (o : Outcome) (t : State) : Prop := o = .returned (some (.int 1)) ∧ Framed s o t [] 600000 7302249
def lw_Z (below : List Frame) (a : Array Value) (s : State) : State → Prop := fun t => ∃ o, t.status = .running ∧ Ended t below o ∧ lw_Q a s o t
/-- the law's own end, with 1 on the stack, nothing written that was there before, its room as the claim has it -/
theorem lw_ret {p : Program} {l : Launch} {e : Env} {s : State} {m : MethodId} {below : List Frame} {meth : Method} {c : Code} {b : Nat} (hx : p.tables.exec = Jvm.exec) (hb : c.code = code) (hr : meth.sig.returnType = ret) (hlocks : meth.locks = false) {pc : Nat} {H : Heap} {ls : Array Slot} (hdg : decode code pc = .ok (.ireturn, 1)) : W p l e room_1 s m #[Value.ref b] below meth c H [] 600000 7302249 (lw_Z below #[Value.ref b] s) (F0 m pc ls [.int 1]) := by
  intro T hT X
  obtain ⟨fs, hret, hrun, hended, hW, hframe⟩ := X.leave (v := some (.int 1)) (hlocks := hlocks) (fun h => by rw [hr] at h; cases h)
  have hmeth' : T.vm.method? m = some meth := X.method'
  refine ⟨T.setFrames fs, ?_, .returned (some (.int 1)), hrun, hended, rfl, ⟨_, rfl⟩, hW, hframe⟩
  jvm_step X.here [X.here.top, hx, hb, hdg, hmeth', hr, ret, narrow_b1]
  (try refine ⟨rfl, ?_⟩); (try refine ⟨rfl, ?_⟩)
  first | (intro acts; rw [hret _ acts rfl rfl rfl]) | rw [hret _ _ rfl rfl rfl]
  exact Steps.refl _
/-- what holds at the law's entry: the machine, the code, the tables' words (any of lw_tbl by 'hts w (by decide +kernel)'), the script of L ints xs at the cell b, what the Statement gives of the start (any of its parts by flat_of_before) -/
def lw_At (p : Program) (s : State) (m : MethodId) (meth : Method) (c : Code) (b L : Nat) (xs : Nat → Int32) : Prop :=
  p.tables.exec = Jvm.exec ∧ c.code = code ∧ meth.sig.returnType = ret ∧ c.maxLocals = 4 ∧ s.vm.findClass R_law = some m.cls ∧ (∀ w ∈ lw_tbl, w.before #[Value.ref b] s = true) ∧ va_X b L xs s s.heap ∧ b < s.heap.size ∧ meth.locks = false ∧ (Jvm.Cond.and given_1 narrow_1).before #[Value.ref b] s = true
/-! rooms: the law runs in a small one, and ends in the claim's -/
def lR : Room := { frames := 2048, cells := 57, slots := 120758, locals := 84000 }
theorem hasRoom_less {s : State} {pl : Platform} {r r2 : Room} (h1 : r2.frames ≤ r.frames) (h2 : r2.cells ≤ r.cells) (h3 : r2.slots ≤ r.slots) (h4 : r2.locals ≤ r.locals) (h : s.hasRoom pl r = true) : s.hasRoom pl r2 = true := by
  simp only [State.hasRoom, Bool.and_eq_true, decide_eq_true_eq] at h ⊢
  obtain ⟨⟨⟨⟨a1, a2, a3, a4, a5, a6⟩, a7⟩, a8⟩, a9⟩ := h
  exact ⟨⟨⟨⟨by omega, by omega, by omega, by omega, by omega, a6⟩, by omega⟩, by omega⟩, a9⟩
theorem stand_room {p : Program} {l : Launch} {e : Env} {R R2 : Room} {s : State} {m : MethodId} {args : Array Value} {below : List Frame} {meth : Method} {c : Code} {T : State} {locs : List Loc} {cells slots : Nat} (h : s.hasRoom e.platform R2 = true) (X : Stand p l e R s m args below meth c T locs cells slots) : Stand p l e R2 s m args below meth c T locs cells slots :=
  { admits := X.admits, cas := X.cas, clock := X.clock, frames := X.frames, room := h, hears := X.hears, method := X.method, code := X.code, here := X.here, tail := X.tail, warmed := X.warmed, limits := X.limits, bytes := X.bytes, same := X.same }
/-! the law's own rows: its script -/
def ak_xl (L : Nat) (K : am_K) : am_K := fun lo stk h => match stk with
  | .ref k :: r => k = 1013 ∧ K lo (.int (Int32.ofNat L) :: r) h
  | _ => False
def ak_xv (L : Nat) (xs : Nat → Int32) (K : am_K) : am_K := fun lo stk h => match stk with
  | .int i :: .ref k :: r => k = 1013 ∧ vp_in i L ∧ K lo (.int (xs i.toNatClampNeg) :: r) h
  | _ => False
def ak_yes : am_K := fun _ stk _ => stk = [.int 1]
def lX (p : Program) (l : Launch) (e : Env) (s : State) (m : MethodId) (below : List Frame) (meth : Method) (c : Code) (D : am_D) (b L : Nat) (xs : Nat → Int32) : Prop :=
  am_X p lR s m #[Value.ref b] meth c code D true 4 RL [] ∧ meth.sig.returnType = ret ∧ s.hasRoom e.platform room_1 = true ∧ va_X b L xs s s.heap ∧ b < s.heap.size ∧ D.2.2.1 1013 = b ∧ D.2.2.2.2 = s.heap.size
abbrev lG (p : Program) (l : Launch) (e : Env) (s : State) (m : MethodId) (below : List Frame) (meth : Method) (c : Code) (D : am_D) (b : Nat) : Nat → am_K := am_G p l e lR s m #[Value.ref b] below meth c D true 4 [] (lw_Z below #[Value.ref b] s)
section LAW
variable {p : Program} {l : Launch} {e : Env} {s : State} {m : MethodId} {below : List Frame} {meth : Method} {c : Code} {D : am_D} {b L pc : Nat} {xs : Nat → Int32} {K : am_K}
theorem lX.nA (Z : lX p l e s m below meth c D b L xs) : ¬ am_A true D.2.2.2.2 ([] : am_H).length b := by
  intro h
  have h1 := h.1
  have h2 := Z.2.2.2.2.1
  have h3 := Z.2.2.2.2.2.2
  omega
theorem as_xl (Z : lX p l e s m below meth c D b L xs) (hd : decode code pc = .ok (.arraylength, 1)) (hk : am_N (lG p l e s m below meth c D b) (pc + 1) K) : am_N (lG p l e s m below meth c D b) pc (ak_xl L K) := by
  intro lo stk h hK H locs cells slots ls hl hw
  unfold ak_xl at hK
  split at hK
  · next k r =>
    obtain ⟨rfl, h2⟩ := hK
    have hb := Z.2.2.2.2.2.1
    have g := hk _ _ _ h2 H locs cells slots ls hl hw
    show W p l e lR s m #[Value.ref b] below meth c H locs cells slots _ (F0 m pc ls (.ref (D.2.2.1 1013) :: r.map (am_tr D)))
    rw [hb]
    exact va_slen Z.1.1.1 Z.1.1.2.1 Z.2.2.2.1 Z.2.2.2.2.1 Z.nA hw.2.1 hd g
  · exact hK.elim
theorem as_xv (Z : lX p l e s m below meth c D b L xs) (hd : decode code pc = .ok (.iaload, 1)) (hk : am_N (lG p l e s m below meth c D b) (pc + 1) K) : am_N (lG p l e s m below meth c D b) pc (ak_xv L xs K) := by
  intro lo stk h hK H locs cells slots ls hl hw
  unfold ak_xv at hK
  split at hK
  · next i k r =>
    obtain ⟨rfl, h1, h2⟩ := hK
    have hb := Z.2.2.2.2.2.1
    have g := hk _ _ _ h2 H locs cells slots ls hl hw
    show W p l e lR s m #[Value.ref b] below meth c H locs cells slots _ (F0 m pc ls (.int i :: .ref (D.2.2.1 1013) :: r.map (am_tr D)))
    rw [hb]
    exact va_sld Z.1.1.1 Z.1.1.2.1 Z.2.2.2.1 Z.2.2.2.2.1 Z.nA hw.2.1 h1 hd g
  · exact hK.elim
theorem as_yes (Z : lX p l e s m below meth c D b L xs) (hd : decode code pc = .ok (.ireturn, 1)) : am_N (lG p l e s m below meth c D b) pc ak_yes := by
  intro lo stk h hK H locs cells slots ls hl hw
  cases hK
  intro T hT X
  have h7 := hw.2.2.2.2.2.2
  have g : W p l e room_1 s m #[Value.ref b] below meth c H locs cells slots (lw_Z below #[Value.ref b] s) (F0 m pc ls [.int 1]) := by
    refine va_forget (fun q hq => ?_) (W.widen (k := 600000) (n := 7302249) (Nat.le_trans h7.1 (Nat.le_of_ble_eq_true rfl)) (Nat.le_trans h7.2 (Nat.le_of_ble_eq_true rfl)) (lw_ret Z.1.1.1 Z.1.1.2.1 Z.2.1 Z.1.2.2.2.2.2.2 hd))
    have h1 := (hw.2.1.2.2 q hq).1
    rw [Z.2.2.2.2.2.2] at h1
    exact h1
  exact g T hT (stand_room Z.2.2.1 X)
def B_L_0 (L : Nat) (xs : Nat → Int32) (G : Nat → am_K) : am_K := (ak_new [] lR.cells lR.slots 6 [.null, .null, .null, .null, .null, .null, .long 0] (ak_dup (ak_ci [] lR.cells lR.slots 1 r_X8_init.cells r_X8_init.slots K_X8_init (ak_as 1 (ak_new [] lR.cells lR.slots 7 [.int 0, .null, .int 0, .null, .null, .null, .int 0, .null, .null, .null, .int 0, .null, .null, .null, .null, .null, .int 0, .int 0, .int 0, .int 0, .int 0, .int 0, .int 0, .int 0, .int 0, .int 0, .null, .null, .int 0, .int 0, .null, .null, .int 0, .null, .null, .null, .null, .null, .null] (ak_dup (ak_ci [] lR.cells lR.slots 1 r_X9_init.cells r_X9_init.slots K_X9_init (ak_as 2 (ak_c (.int 0) (ak_is 3 (G 18)))))))))))
set_option maxHeartbeats 4000000 in
set_option maxRecDepth 100000 in
theorem n_L_0 (Z : lX p l e s m below meth c D b L xs) : am_N (lG p l e s m below meth c D b) 0 (B_L_0 L xs (lG p l e s m below meth c D b)) := by
  have X := Z.1
  unfold B_L_0
  refine as_new X fc_X8 (by decide +kernel : decode code 0 = .ok (.new 7, 3)) cl_L_7 is_X8 ini_X8 rfl (fun j hj => df_X8 D j hj) ?_
  refine as_dup X (by decide +kernel : decode code 3 = .ok (.dup, 1)) ?_
  refine as_ci X k_X8_init (by decide +kernel : decode code 4 = .ok (.invokespecial 9, 3)) dn_X8_init rfl ml_L_9 im_X8_init ini_X8 co_X8_init ⟨Nat.le_of_ble_eq_true rfl, Nat.le_of_ble_eq_true rfl⟩ ?_
  refine as_astore_n X (by decide +kernel : decode code 7 = .ok (.astore_n 1, 1)) rfl ?_
  refine as_new X fc_X9 (by decide +kernel : decode code 8 = .ok (.new 10, 3)) cl_L_10 is_X9 ini_X9 rfl (fun j hj => df_X9 D j hj) ?_
  refine as_dup X (by decide +kernel : decode code 11 = .ok (.dup, 1)) ?_
  refine as_ci X k_X9_init (by decide +kernel : decode code 12 = .ok (.invokespecial 12, 3)) dn_X9_init rfl ml_L_12 im_X9_init ini_X9 co_X9_init ⟨Nat.le_of_ble_eq_true rfl, Nat.le_of_ble_eq_true rfl⟩ ?_
  refine as_astore_n X (by decide +kernel : decode code 15 = .ok (.astore_n 2, 1)) rfl ?_
  refine as_iconst X (by decide +kernel : decode code 16 = .ok (.iconst 0, 1)) rfl ?_
  refine as_istore_n X (by decide +kernel : decode code 17 = .ok (.istore_n 3, 1)) rfl ?_
  exact fun _ _ _ h => h
def B_L_18 (L : Nat) (xs : Nat → Int32) (G : Nat → am_K) : am_K := (ak_il 3 (ak_al 0 (ak_xl L (ak_c (.int 5) (ak_ib (fun x y => x - y) (ak_ic (fun x y => y < x) (G 809) (G 26)))))))
set_option maxHeartbeats 4000000 in
set_option maxRecDepth 100000 in
theorem n_L_18 (Z : lX p l e s m below meth c D b L xs) : am_N (lG p l e s m below meth c D b) 18 (B_L_18 L xs (lG p l e s m below meth c D b)) := by
  have X := Z.1
  unfold B_L_18
  refine as_iload_n X (by decide +kernel : decode code 18 = .ok (.iload_n 3, 1)) rfl ?_
  refine as_aload_n X (by decide +kernel : decode code 19 = .ok (.aload_n 0, 1)) rfl ?_
  refine as_xl Z (by decide +kernel : decode code 20 = .ok (.arraylength, 1)) ?_
  refine as_iconst X (by decide +kernel : decode code 21 = .ok (.iconst 5, 1)) rfl ?_
  refine as_isub X (by decide +kernel : decode code 22 = .ok (.isub, 1)) ?_
  refine as_ic_gt X (tgt := 809) (by decide +kernel : decode code 23 = .ok (.if_icmp .gt 786, 3)) (by decide) ?_ ?_
  · exact fun _ _ _ h => h
  · exact fun _ _ _ h => h
def B_L_26 (L : Nat) (xs : Nat → Int32) (G : Nat → am_K) : am_K := (ak_al 0 (ak_il 3 (ak_xv L xs (ak_c (.int 31) (ak_ib (fun x y => x &&& y) (ak_sw (0) (24) [(G 148), (G 171), (G 184), (G 197), (G 210), (G 233), (G 246), (G 259), (G 292), (G 325), (G 368), (G 401), (G 424), (G 457), (G 470), (G 483), (G 506), (G 559), (G 612), (G 665), (G 678), (G 701), (G 734), (G 757), (G 780)] (G 803)))))))
set_option maxHeartbeats 4000000 in
set_option maxRecDepth 100000 in
theorem n_L_26 (Z : lX p l e s m below meth c D b L xs) : am_N (lG p l e s m below meth c D b) 26 (B_L_26 L xs (lG p l e s m below meth c D b)) := by
  have X := Z.1
  unfold B_L_26
  refine as_aload_n X (by decide +kernel : decode code 26 = .ok (.aload_n 0, 1)) rfl ?_
  refine as_iload_n X (by decide +kernel : decode code 27 = .ok (.iload_n 3, 1)) rfl ?_
  refine as_xv Z (by decide +kernel : decode code 28 = .ok (.iaload, 1)) ?_
  refine as_bipush X (by decide +kernel : decode code 29 = .ok (.bipush 31, 2)) rfl ?_
  refine as_iand X (by decide +kernel : decode code 31 = .ok (.iand, 1)) ?_
  refine as_sw X (td := 803) (by decide +kernel : decode code 32 = .ok (.tableswitch 771 0 24 #[116, 139, 152, 165, 178, 201, 214, 227, 260, 293, 336, 369, 392, 425, 438, 451, 474, 527, 580, 633, 646, 669, 702, 725, 748], 116)) (by decide) rfl (by decide) ?_ ?_
  · exact fun _ _ _ h => h
  · intro i off K h1 h2
    match i, h1, h2 with
    | 0, h1, h2 =>
      obtain rfl := Option.some.inj h1
      obtain rfl := Option.some.inj h2
      refine ⟨148, by decide, ?_⟩
      exact fun _ _ _ h => h
    | 1, h1, h2 =>
      obtain rfl := Option.some.inj h1
      obtain rfl := Option.some.inj h2
      refine ⟨171, by decide, ?_⟩
      exact fun _ _ _ h => h
    | 2, h1, h2 =>
      obtain rfl := Option.some.inj h1
      obtain rfl := Option.some.inj h2
      refine ⟨184, by decide, ?_⟩
      exact fun _ _ _ h => h
    | 3, h1, h2 =>
      obtain rfl := Option.some.inj h1
      obtain rfl := Option.some.inj h2
      refine ⟨197, by decide, ?_⟩
      exact fun _ _ _ h => h
    | 4, h1, h2 =>
      obtain rfl := Option.some.inj h1
      obtain rfl := Option.some.inj h2
      refine ⟨210, by decide, ?_⟩
      exact fun _ _ _ h => h
    | 5, h1, h2 =>
      obtain rfl := Option.some.inj h1
      obtain rfl := Option.some.inj h2
      refine ⟨233, by decide, ?_⟩
      exact fun _ _ _ h => h
    | 6, h1, h2 =>
      obtain rfl := Option.some.inj h1
      obtain rfl := Option.some.inj h2
      refine ⟨246, by decide, ?_⟩
      exact fun _ _ _ h => h
    | 7, h1, h2 =>
      obtain rfl := Option.some.inj h1
      obtain rfl := Option.some.inj h2
      refine ⟨259, by decide, ?_⟩
      exact fun _ _ _ h => h
    | 8, h1, h2 =>
      obtain rfl := Option.some.inj h1
      obtain rfl := Option.some.inj h2
      refine ⟨292, by decide, ?_⟩
      exact fun _ _ _ h => h
    | 9, h1, h2 =>
      obtain rfl := Option.some.inj h1
      obtain rfl := Option.some.inj h2
      refine ⟨325, by decide, ?_⟩
      exact fun _ _ _ h => h
    | 10, h1, h2 =>
      obtain rfl := Option.some.inj h1
      obtain rfl := Option.some.inj h2
      refine ⟨368, by decide, ?_⟩
      exact fun _ _ _ h => h
    | 11, h1, h2 =>
      obtain rfl := Option.some.inj h1
      obtain rfl := Option.some.inj h2
      refine ⟨401, by decide, ?_⟩
      exact fun _ _ _ h => h
    | 12, h1, h2 =>
      obtain rfl := Option.some.inj h1
      obtain rfl := Option.some.inj h2
      refine ⟨424, by decide, ?_⟩
      exact fun _ _ _ h => h
    | 13, h1, h2 =>
      obtain rfl := Option.some.inj h1
      obtain rfl := Option.some.inj h2
      refine ⟨457, by decide, ?_⟩
      exact fun _ _ _ h => h
    | 14, h1, h2 =>
      obtain rfl := Option.some.inj h1
      obtain rfl := Option.some.inj h2
      refine ⟨470, by decide, ?_⟩
      exact fun _ _ _ h => h
    | 15, h1, h2 =>
      obtain rfl := Option.some.inj h1
      obtain rfl := Option.some.inj h2
      refine ⟨483, by decide, ?_⟩
      exact fun _ _ _ h => h
    | 16, h1, h2 =>
      obtain rfl := Option.some.inj h1
      obtain rfl := Option.some.inj h2
      refine ⟨506, by decide, ?_⟩
      exact fun _ _ _ h => h
    | 17, h1, h2 =>
      obtain rfl := Option.some.inj h1
      obtain rfl := Option.some.inj h2
      refine ⟨559, by decide, ?_⟩
      exact fun _ _ _ h => h
    | 18, h1, h2 =>
      obtain rfl := Option.some.inj h1
      obtain rfl := Option.some.inj h2
      refine ⟨612, by decide, ?_⟩
      exact fun _ _ _ h => h
    | 19, h1, h2 =>
      obtain rfl := Option.some.inj h1
      obtain rfl := Option.some.inj h2
      refine ⟨665, by decide, ?_⟩
      exact fun _ _ _ h => h
    | 20, h1, h2 =>
      obtain rfl := Option.some.inj h1
      obtain rfl := Option.some.inj h2
      refine ⟨678, by decide, ?_⟩
      exact fun _ _ _ h => h
    | 21, h1, h2 =>
      obtain rfl := Option.some.inj h1
      obtain rfl := Option.some.inj h2
      refine ⟨701, by decide, ?_⟩
      exact fun _ _ _ h => h
    | 22, h1, h2 =>
      obtain rfl := Option.some.inj h1
      obtain rfl := Option.some.inj h2
      refine ⟨734, by decide, ?_⟩
      exact fun _ _ _ h => h
    | 23, h1, h2 =>
      obtain rfl := Option.some.inj h1
      obtain rfl := Option.some.inj h2
      refine ⟨757, by decide, ?_⟩
      exact fun _ _ _ h => h
    | 24, h1, h2 =>
      obtain rfl := Option.some.inj h1
      obtain rfl := Option.some.inj h2
      refine ⟨780, by decide, ?_⟩
      exact fun _ _ _ h => h
    | i + 25, h1, h2 => exact absurd h2 (by simp)
def B_L_148 (L : Nat) (xs : Nat → Int32) (G : Nat → am_K) : am_K := (ak_al 1 (ak_al 0 (ak_il 3 (ak_c (.int 1) (ak_ib (fun x y => x + y) (ak_xv L xs (ak_cv 2 6 K_X8_write (ak_al 2 (ak_al 0 (ak_il 3 (ak_c (.int 1) (ak_ib (fun x y => x + y) (ak_xv L xs (ak_cv 2 7 K_X9_write (ak_ic (fun x y => x = y) (G 803) (ak_c (.int 0) (fun _ _ _ => False)))))))))))))))))
set_option maxHeartbeats 4000000 in
set_option maxRecDepth 100000 in
theorem n_L_148 (Z : lX p l e s m below meth c D b L xs) : am_N (lG p l e s m below meth c D b) 148 (B_L_148 L xs (lG p l e s m below meth c D b)) := by
  have X := Z.1
  unfold B_L_148
  refine as_aload_n X (by decide +kernel : decode code 148 = .ok (.aload_n 1, 1)) rfl ?_
  refine as_aload_n X (by decide +kernel : decode code 149 = .ok (.aload_n 0, 1)) rfl ?_
  refine as_iload_n X (by decide +kernel : decode code 150 = .ok (.iload_n 3, 1)) rfl ?_
  refine as_iconst X (by decide +kernel : decode code 151 = .ok (.iconst 1, 1)) rfl ?_
  refine as_iadd X (by decide +kernel : decode code 152 = .ok (.iadd, 1)) ?_
  refine as_xv Z (by decide +kernel : decode code 153 = .ok (.iaload, 1)) ?_
  refine as_cv X k_X8_write rfl (by decide +kernel : decode code 154 = .ok (.invokevirtual 13, 3)) dn_X8_write ml_L_13 im_X8_write se_X8_write ini_X8 co_X8_write ⟨Nat.le_of_ble_eq_true rfl, Nat.le_of_ble_eq_true rfl⟩ ?_
  refine as_aload_n X (by decide +kernel : decode code 157 = .ok (.aload_n 2, 1)) rfl ?_
  refine as_aload_n X (by decide +kernel : decode code 158 = .ok (.aload_n 0, 1)) rfl ?_
  refine as_iload_n X (by decide +kernel : decode code 159 = .ok (.iload_n 3, 1)) rfl ?_
  refine as_iconst X (by decide +kernel : decode code 160 = .ok (.iconst 1, 1)) rfl ?_
  refine as_iadd X (by decide +kernel : decode code 161 = .ok (.iadd, 1)) ?_
  refine as_xv Z (by decide +kernel : decode code 162 = .ok (.iaload, 1)) ?_
  refine as_cv X k_X9_write rfl (by decide +kernel : decode code 163 = .ok (.invokevirtual 17, 3)) dn_X9_write ml_L_17 im_X9_write se_X9_write ini_X9 co_X9_write ⟨Nat.le_of_ble_eq_true rfl, Nat.le_of_ble_eq_true rfl⟩ ?_
  refine as_ic_eq X (tgt := 803) (by decide +kernel : decode code 166 = .ok (.if_icmp .eq 637, 3)) (by decide) ?_ ?_
  · exact fun _ _ _ h => h
  · refine as_iconst X (by decide +kernel : decode code 169 = .ok (.iconst 0, 1)) rfl ?_
    exact fun _ _ _ h => h.elim
def B_L_171 (L : Nat) (xs : Nat → Int32) (G : Nat → am_K) : am_K := (ak_al 1 (ak_cv 1 6 K_X8_wipe (ak_al 2 (ak_cv 1 7 K_X9_wipe (ak_ic (fun x y => x = y) (G 803) (ak_c (.int 0) (fun _ _ _ => False)))))))
set_option maxHeartbeats 4000000 in
set_option maxRecDepth 100000 in
theorem n_L_171 (Z : lX p l e s m below meth c D b L xs) : am_N (lG p l e s m below meth c D b) 171 (B_L_171 L xs (lG p l e s m below meth c D b)) := by
  have X := Z.1
  unfold B_L_171
  refine as_aload_n X (by decide +kernel : decode code 171 = .ok (.aload_n 1, 1)) rfl ?_
  refine as_cv X k_X8_wipe rfl (by decide +kernel : decode code 172 = .ok (.invokevirtual 18, 3)) dn_X8_wipe ml_L_18 im_X8_wipe se_X8_wipe ini_X8 co_X8_wipe ⟨Nat.le_of_ble_eq_true rfl, Nat.le_of_ble_eq_true rfl⟩ ?_
  refine as_aload_n X (by decide +kernel : decode code 175 = .ok (.aload_n 2, 1)) rfl ?_
  refine as_cv X k_X9_wipe rfl (by decide +kernel : decode code 176 = .ok (.invokevirtual 22, 3)) dn_X9_wipe ml_L_22 im_X9_wipe se_X9_wipe ini_X9 co_X9_wipe ⟨Nat.le_of_ble_eq_true rfl, Nat.le_of_ble_eq_true rfl⟩ ?_
  refine as_ic_eq X (tgt := 803) (by decide +kernel : decode code 179 = .ok (.if_icmp .eq 624, 3)) (by decide) ?_ ?_
  · exact fun _ _ _ h => h
  · refine as_iconst X (by decide +kernel : decode code 182 = .ok (.iconst 0, 1)) rfl ?_
    exact fun _ _ _ h => h.elim
def B_L_184 (L : Nat) (xs : Nat → Int32) (G : Nat → am_K) : am_K := (ak_al 1 (ak_cv 1 6 K_X8_fault (ak_al 2 (ak_cv 1 7 K_X9_fault (ak_ic (fun x y => x = y) (G 803) (ak_c (.int 0) (fun _ _ _ => False)))))))
set_option maxHeartbeats 4000000 in
set_option maxRecDepth 100000 in
theorem n_L_184 (Z : lX p l e s m below meth c D b L xs) : am_N (lG p l e s m below meth c D b) 184 (B_L_184 L xs (lG p l e s m below meth c D b)) := by
  have X := Z.1
  unfold B_L_184
  refine as_aload_n X (by decide +kernel : decode code 184 = .ok (.aload_n 1, 1)) rfl ?_
  refine as_cv X k_X8_fault rfl (by decide +kernel : decode code 185 = .ok (.invokevirtual 23, 3)) dn_X8_fault ml_L_23 im_X8_fault se_X8_fault ini_X8 co_X8_fault ⟨Nat.le_of_ble_eq_true rfl, Nat.le_of_ble_eq_true rfl⟩ ?_
  refine as_aload_n X (by decide +kernel : decode code 188 = .ok (.aload_n 2, 1)) rfl ?_
  refine as_cv X k_X9_fault rfl (by decide +kernel : decode code 189 = .ok (.invokevirtual 26, 3)) dn_X9_fault ml_L_26 im_X9_fault se_X9_fault ini_X9 co_X9_fault ⟨Nat.le_of_ble_eq_true rfl, Nat.le_of_ble_eq_true rfl⟩ ?_
  refine as_ic_eq X (tgt := 803) (by decide +kernel : decode code 192 = .ok (.if_icmp .eq 611, 3)) (by decide) ?_ ?_
  · exact fun _ _ _ h => h
  · refine as_iconst X (by decide +kernel : decode code 195 = .ok (.iconst 0, 1)) rfl ?_
    exact fun _ _ _ h => h.elim
def B_L_197 (L : Nat) (xs : Nat → Int32) (G : Nat → am_K) : am_K := (ak_al 1 (ak_cv 1 6 K_X8_learn (ak_al 2 (ak_cv 1 7 K_X9_learn (ak_ic (fun x y => x = y) (G 803) (ak_c (.int 0) (fun _ _ _ => False)))))))
set_option maxHeartbeats 4000000 in
set_option maxRecDepth 100000 in
theorem n_L_197 (Z : lX p l e s m below meth c D b L xs) : am_N (lG p l e s m below meth c D b) 197 (B_L_197 L xs (lG p l e s m below meth c D b)) := by
  have X := Z.1
  unfold B_L_197
  refine as_aload_n X (by decide +kernel : decode code 197 = .ok (.aload_n 1, 1)) rfl ?_
  refine as_cv X k_X8_learn rfl (by decide +kernel : decode code 198 = .ok (.invokevirtual 27, 3)) dn_X8_learn ml_L_27 im_X8_learn se_X8_learn ini_X8 co_X8_learn ⟨Nat.le_of_ble_eq_true rfl, Nat.le_of_ble_eq_true rfl⟩ ?_
  refine as_aload_n X (by decide +kernel : decode code 201 = .ok (.aload_n 2, 1)) rfl ?_
  refine as_cv X k_X9_learn rfl (by decide +kernel : decode code 202 = .ok (.invokevirtual 30, 3)) dn_X9_learn ml_L_30 im_X9_learn se_X9_learn ini_X9 co_X9_learn ⟨Nat.le_of_ble_eq_true rfl, Nat.le_of_ble_eq_true rfl⟩ ?_
  refine as_ic_eq X (tgt := 803) (by decide +kernel : decode code 205 = .ok (.if_icmp .eq 598, 3)) (by decide) ?_ ?_
  · exact fun _ _ _ h => h
  · refine as_iconst X (by decide +kernel : decode code 208 = .ok (.iconst 0, 1)) rfl ?_
    exact fun _ _ _ h => h.elim
def B_L_210 (L : Nat) (xs : Nat → Int32) (G : Nat → am_K) : am_K := (ak_al 1 (ak_al 0 (ak_il 3 (ak_c (.int 1) (ak_ib (fun x y => x + y) (ak_xv L xs (ak_cv 2 6 K_X8_forget (ak_al 2 (ak_al 0 (ak_il 3 (ak_c (.int 1) (ak_ib (fun x y => x + y) (ak_xv L xs (ak_cv 2 7 K_X9_forget (ak_ic (fun x y => x = y) (G 803) (ak_c (.int 0) (fun _ _ _ => False)))))))))))))))))
set_option maxHeartbeats 4000000 in
set_option maxRecDepth 100000 in
theorem n_L_210 (Z : lX p l e s m below meth c D b L xs) : am_N (lG p l e s m below meth c D b) 210 (B_L_210 L xs (lG p l e s m below meth c D b)) := by
  have X := Z.1
  unfold B_L_210
  refine as_aload_n X (by decide +kernel : decode code 210 = .ok (.aload_n 1, 1)) rfl ?_
  refine as_aload_n X (by decide +kernel : decode code 211 = .ok (.aload_n 0, 1)) rfl ?_
  refine as_iload_n X (by decide +kernel : decode code 212 = .ok (.iload_n 3, 1)) rfl ?_
  refine as_iconst X (by decide +kernel : decode code 213 = .ok (.iconst 1, 1)) rfl ?_
  refine as_iadd X (by decide +kernel : decode code 214 = .ok (.iadd, 1)) ?_
  refine as_xv Z (by decide +kernel : decode code 215 = .ok (.iaload, 1)) ?_
  refine as_cv X k_X8_forget rfl (by decide +kernel : decode code 216 = .ok (.invokevirtual 31, 3)) dn_X8_forget ml_L_31 im_X8_forget se_X8_forget ini_X8 co_X8_forget ⟨Nat.le_of_ble_eq_true rfl, Nat.le_of_ble_eq_true rfl⟩ ?_
  refine as_aload_n X (by decide +kernel : decode code 219 = .ok (.aload_n 2, 1)) rfl ?_
  refine as_aload_n X (by decide +kernel : decode code 220 = .ok (.aload_n 0, 1)) rfl ?_
  refine as_iload_n X (by decide +kernel : decode code 221 = .ok (.iload_n 3, 1)) rfl ?_
  refine as_iconst X (by decide +kernel : decode code 222 = .ok (.iconst 1, 1)) rfl ?_
  refine as_iadd X (by decide +kernel : decode code 223 = .ok (.iadd, 1)) ?_
  refine as_xv Z (by decide +kernel : decode code 224 = .ok (.iaload, 1)) ?_
  refine as_cv X k_X9_forget rfl (by decide +kernel : decode code 225 = .ok (.invokevirtual 34, 3)) dn_X9_forget ml_L_34 im_X9_forget se_X9_forget ini_X9 co_X9_forget ⟨Nat.le_of_ble_eq_true rfl, Nat.le_of_ble_eq_true rfl⟩ ?_
  refine as_ic_eq X (tgt := 803) (by decide +kernel : decode code 228 = .ok (.if_icmp .eq 575, 3)) (by decide) ?_ ?_
  · exact fun _ _ _ h => h
  · refine as_iconst X (by decide +kernel : decode code 231 = .ok (.iconst 0, 1)) rfl ?_
    exact fun _ _ _ h => h.elim
def B_L_233 (L : Nat) (xs : Nat → Int32) (G : Nat → am_K) : am_K := (ak_al 1 (ak_cv 1 6 K_X8_clue (ak_al 2 (ak_cv 1 7 K_X9_clue (ak_ic (fun x y => x = y) (G 803) (ak_c (.int 0) (fun _ _ _ => False)))))))
set_option maxHeartbeats 4000000 in
set_option maxRecDepth 100000 in
theorem n_L_233 (Z : lX p l e s m below meth c D b L xs) : am_N (lG p l e s m below meth c D b) 233 (B_L_233 L xs (lG p l e s m below meth c D b)) := by
  have X := Z.1
  unfold B_L_233
  refine as_aload_n X (by decide +kernel : decode code 233 = .ok (.aload_n 1, 1)) rfl ?_
  refine as_cv X k_X8_clue rfl (by decide +kernel : decode code 234 = .ok (.invokevirtual 35, 3)) dn_X8_clue ml_L_35 im_X8_clue se_X8_clue ini_X8 co_X8_clue ⟨Nat.le_of_ble_eq_true rfl, Nat.le_of_ble_eq_true rfl⟩ ?_
  refine as_aload_n X (by decide +kernel : decode code 237 = .ok (.aload_n 2, 1)) rfl ?_
  refine as_cv X k_X9_clue rfl (by decide +kernel : decode code 238 = .ok (.invokevirtual 38, 3)) dn_X9_clue ml_L_38 im_X9_clue se_X9_clue ini_X9 co_X9_clue ⟨Nat.le_of_ble_eq_true rfl, Nat.le_of_ble_eq_true rfl⟩ ?_
  refine as_ic_eq X (tgt := 803) (by decide +kernel : decode code 241 = .ok (.if_icmp .eq 562, 3)) (by decide) ?_ ?_
  · exact fun _ _ _ h => h
  · refine as_iconst X (by decide +kernel : decode code 244 = .ok (.iconst 0, 1)) rfl ?_
    exact fun _ _ _ h => h.elim
def B_L_246 (L : Nat) (xs : Nat → Int32) (G : Nat → am_K) : am_K := (ak_al 1 (ak_cv 1 6 K_X8_answer (ak_al 2 (ak_cv 1 7 K_X9_answer (ak_ic (fun x y => x = y) (G 803) (ak_c (.int 0) (fun _ _ _ => False)))))))
set_option maxHeartbeats 4000000 in
set_option maxRecDepth 100000 in
theorem n_L_246 (Z : lX p l e s m below meth c D b L xs) : am_N (lG p l e s m below meth c D b) 246 (B_L_246 L xs (lG p l e s m below meth c D b)) := by
  have X := Z.1
  unfold B_L_246
  refine as_aload_n X (by decide +kernel : decode code 246 = .ok (.aload_n 1, 1)) rfl ?_
  refine as_cv X k_X8_answer rfl (by decide +kernel : decode code 247 = .ok (.invokevirtual 39, 3)) dn_X8_answer ml_L_39 im_X8_answer se_X8_answer ini_X8 co_X8_answer ⟨Nat.le_of_ble_eq_true rfl, Nat.le_of_ble_eq_true rfl⟩ ?_
  refine as_aload_n X (by decide +kernel : decode code 250 = .ok (.aload_n 2, 1)) rfl ?_
  refine as_cv X k_X9_answer rfl (by decide +kernel : decode code 251 = .ok (.invokevirtual 42, 3)) dn_X9_answer ml_L_42 im_X9_answer se_X9_answer ini_X9 co_X9_answer ⟨Nat.le_of_ble_eq_true rfl, Nat.le_of_ble_eq_true rfl⟩ ?_
  refine as_ic_eq X (tgt := 803) (by decide +kernel : decode code 254 = .ok (.if_icmp .eq 549, 3)) (by decide) ?_ ?_
  · exact fun _ _ _ h => h
  · refine as_iconst X (by decide +kernel : decode code 257 = .ok (.iconst 0, 1)) rfl ?_
    exact fun _ _ _ h => h.elim
def B_L_259 (L : Nat) (xs : Nat → Int32) (G : Nat → am_K) : am_K := (ak_al 1 (ak_al 0 (ak_il 3 (ak_c (.int 1) (ak_ib (fun x y => x + y) (ak_xv L xs (ak_al 0 (ak_il 3 (ak_c (.int 2) (ak_ib (fun x y => x + y) (ak_xv L xs (ak_cv 3 6 K_X8_weigh (ak_al 2 (ak_al 0 (ak_il 3 (ak_c (.int 1) (ak_ib (fun x y => x + y) (ak_xv L xs (ak_al 0 (ak_il 3 (ak_c (.int 2) (ak_ib (fun x y => x + y) (ak_xv L xs (ak_cv 3 7 K_X9_weigh (ak_ic (fun x y => x = y) (G 803) (ak_c (.int 0) (fun _ _ _ => False)))))))))))))))))))))))))))
set_option maxHeartbeats 4000000 in
set_option maxRecDepth 100000 in
theorem n_L_259 (Z : lX p l e s m below meth c D b L xs) : am_N (lG p l e s m below meth c D b) 259 (B_L_259 L xs (lG p l e s m below meth c D b)) := by
  have X := Z.1
  unfold B_L_259
  refine as_aload_n X (by decide +kernel : decode code 259 = .ok (.aload_n 1, 1)) rfl ?_
  refine as_aload_n X (by decide +kernel : decode code 260 = .ok (.aload_n 0, 1)) rfl ?_
  refine as_iload_n X (by decide +kernel : decode code 261 = .ok (.iload_n 3, 1)) rfl ?_
  refine as_iconst X (by decide +kernel : decode code 262 = .ok (.iconst 1, 1)) rfl ?_
  refine as_iadd X (by decide +kernel : decode code 263 = .ok (.iadd, 1)) ?_
  refine as_xv Z (by decide +kernel : decode code 264 = .ok (.iaload, 1)) ?_
  refine as_aload_n X (by decide +kernel : decode code 265 = .ok (.aload_n 0, 1)) rfl ?_
  refine as_iload_n X (by decide +kernel : decode code 266 = .ok (.iload_n 3, 1)) rfl ?_
  refine as_iconst X (by decide +kernel : decode code 267 = .ok (.iconst 2, 1)) rfl ?_
  refine as_iadd X (by decide +kernel : decode code 268 = .ok (.iadd, 1)) ?_
  refine as_xv Z (by decide +kernel : decode code 269 = .ok (.iaload, 1)) ?_
  refine as_cv X k_X8_weigh rfl (by decide +kernel : decode code 270 = .ok (.invokevirtual 43, 3)) dn_X8_weigh ml_L_43 im_X8_weigh se_X8_weigh ini_X8 co_X8_weigh ⟨Nat.le_of_ble_eq_true rfl, Nat.le_of_ble_eq_true rfl⟩ ?_
  refine as_aload_n X (by decide +kernel : decode code 273 = .ok (.aload_n 2, 1)) rfl ?_
  refine as_aload_n X (by decide +kernel : decode code 274 = .ok (.aload_n 0, 1)) rfl ?_
  refine as_iload_n X (by decide +kernel : decode code 275 = .ok (.iload_n 3, 1)) rfl ?_
  refine as_iconst X (by decide +kernel : decode code 276 = .ok (.iconst 1, 1)) rfl ?_
  refine as_iadd X (by decide +kernel : decode code 277 = .ok (.iadd, 1)) ?_
  refine as_xv Z (by decide +kernel : decode code 278 = .ok (.iaload, 1)) ?_
  refine as_aload_n X (by decide +kernel : decode code 279 = .ok (.aload_n 0, 1)) rfl ?_
  refine as_iload_n X (by decide +kernel : decode code 280 = .ok (.iload_n 3, 1)) rfl ?_
  refine as_iconst X (by decide +kernel : decode code 281 = .ok (.iconst 2, 1)) rfl ?_
  refine as_iadd X (by decide +kernel : decode code 282 = .ok (.iadd, 1)) ?_
  refine as_xv Z (by decide +kernel : decode code 283 = .ok (.iaload, 1)) ?_
  refine as_cv X k_X9_weigh rfl (by decide +kernel : decode code 284 = .ok (.invokevirtual 47, 3)) dn_X9_weigh ml_L_47 im_X9_weigh se_X9_weigh ini_X9 co_X9_weigh ⟨Nat.le_of_ble_eq_true rfl, Nat.le_of_ble_eq_true rfl⟩ ?_
  refine as_ic_eq X (tgt := 803) (by decide +kernel : decode code 287 = .ok (.if_icmp .eq 516, 3)) (by decide) ?_ ?_
  · exact fun _ _ _ h => h
  · refine as_iconst X (by decide +kernel : decode code 290 = .ok (.iconst 0, 1)) rfl ?_
    exact fun _ _ _ h => h.elim
def B_L_292 (L : Nat) (xs : Nat → Int32) (G : Nat → am_K) : am_K := (ak_al 1 (ak_al 0 (ak_il 3 (ak_c (.int 1) (ak_ib (fun x y => x + y) (ak_xv L xs (ak_al 0 (ak_il 3 (ak_c (.int 2) (ak_ib (fun x y => x + y) (ak_xv L xs (ak_cv 3 6 K_X8_entry (ak_al 2 (ak_al 0 (ak_il 3 (ak_c (.int 1) (ak_ib (fun x y => x + y) (ak_xv L xs (ak_al 0 (ak_il 3 (ak_c (.int 2) (ak_ib (fun x y => x + y) (ak_xv L xs (ak_cv 3 7 K_X9_entry (ak_ic (fun x y => x = y) (G 803) (ak_c (.int 0) (fun _ _ _ => False)))))))))))))))))))))))))))
set_option maxHeartbeats 4000000 in
set_option maxRecDepth 100000 in
theorem n_L_292 (Z : lX p l e s m below meth c D b L xs) : am_N (lG p l e s m below meth c D b) 292 (B_L_292 L xs (lG p l e s m below meth c D b)) := by
  have X := Z.1
  unfold B_L_292
  refine as_aload_n X (by decide +kernel : decode code 292 = .ok (.aload_n 1, 1)) rfl ?_
  refine as_aload_n X (by decide +kernel : decode code 293 = .ok (.aload_n 0, 1)) rfl ?_
  refine as_iload_n X (by decide +kernel : decode code 294 = .ok (.iload_n 3, 1)) rfl ?_
  refine as_iconst X (by decide +kernel : decode code 295 = .ok (.iconst 1, 1)) rfl ?_
  refine as_iadd X (by decide +kernel : decode code 296 = .ok (.iadd, 1)) ?_
  refine as_xv Z (by decide +kernel : decode code 297 = .ok (.iaload, 1)) ?_
  refine as_aload_n X (by decide +kernel : decode code 298 = .ok (.aload_n 0, 1)) rfl ?_
  refine as_iload_n X (by decide +kernel : decode code 299 = .ok (.iload_n 3, 1)) rfl ?_
  refine as_iconst X (by decide +kernel : decode code 300 = .ok (.iconst 2, 1)) rfl ?_
  refine as_iadd X (by decide +kernel : decode code 301 = .ok (.iadd, 1)) ?_
  refine as_xv Z (by decide +kernel : decode code 302 = .ok (.iaload, 1)) ?_
  refine as_cv X k_X8_entry rfl (by decide +kernel : decode code 303 = .ok (.invokevirtual 48, 3)) dn_X8_entry ml_L_48 im_X8_entry se_X8_entry ini_X8 co_X8_entry ⟨Nat.le_of_ble_eq_true rfl, Nat.le_of_ble_eq_true rfl⟩ ?_
  refine as_aload_n X (by decide +kernel : decode code 306 = .ok (.aload_n 2, 1)) rfl ?_
  refine as_aload_n X (by decide +kernel : decode code 307 = .ok (.aload_n 0, 1)) rfl ?_
  refine as_iload_n X (by decide +kernel : decode code 308 = .ok (.iload_n 3, 1)) rfl ?_
  refine as_iconst X (by decide +kernel : decode code 309 = .ok (.iconst 1, 1)) rfl ?_
  refine as_iadd X (by decide +kernel : decode code 310 = .ok (.iadd, 1)) ?_
  refine as_xv Z (by decide +kernel : decode code 311 = .ok (.iaload, 1)) ?_
  refine as_aload_n X (by decide +kernel : decode code 312 = .ok (.aload_n 0, 1)) rfl ?_
  refine as_iload_n X (by decide +kernel : decode code 313 = .ok (.iload_n 3, 1)) rfl ?_
  refine as_iconst X (by decide +kernel : decode code 314 = .ok (.iconst 2, 1)) rfl ?_
  refine as_iadd X (by decide +kernel : decode code 315 = .ok (.iadd, 1)) ?_
  refine as_xv Z (by decide +kernel : decode code 316 = .ok (.iaload, 1)) ?_
  refine as_cv X k_X9_entry rfl (by decide +kernel : decode code 317 = .ok (.invokevirtual 51, 3)) dn_X9_entry ml_L_51 im_X9_entry se_X9_entry ini_X9 co_X9_entry ⟨Nat.le_of_ble_eq_true rfl, Nat.le_of_ble_eq_true rfl⟩ ?_
  refine as_ic_eq X (tgt := 803) (by decide +kernel : decode code 320 = .ok (.if_icmp .eq 483, 3)) (by decide) ?_ ?_
  · exact fun _ _ _ h => h
  · refine as_iconst X (by decide +kernel : decode code 323 = .ok (.iconst 0, 1)) rfl ?_
    exact fun _ _ _ h => h.elim
def B_L_325 (L : Nat) (xs : Nat → Int32) (G : Nat → am_K) : am_K := (ak_al 1 (ak_al 0 (ak_il 3 (ak_c (.int 1) (ak_ib (fun x y => x + y) (ak_xv L xs (ak_al 0 (ak_il 3 (ak_c (.int 2) (ak_ib (fun x y => x + y) (ak_xv L xs (ak_al 0 (ak_il 3 (ak_c (.int 3) (ak_ib (fun x y => x + y) (ak_xv L xs (ak_cv 4 6 K_X8_entryLetter (ak_al 2 (ak_al 0 (ak_il 3 (ak_c (.int 1) (ak_ib (fun x y => x + y) (ak_xv L xs (ak_al 0 (ak_il 3 (ak_c (.int 2) (ak_ib (fun x y => x + y) (ak_xv L xs (ak_al 0 (ak_il 3 (ak_c (.int 3) (ak_ib (fun x y => x + y) (ak_xv L xs (ak_cv 4 7 K_X9_entryLetter (ak_ic (fun x y => x = y) (G 803) (ak_c (.int 0) (fun _ _ _ => False)))))))))))))))))))))))))))))))))))))
set_option maxHeartbeats 4000000 in
set_option maxRecDepth 100000 in
theorem n_L_325 (Z : lX p l e s m below meth c D b L xs) : am_N (lG p l e s m below meth c D b) 325 (B_L_325 L xs (lG p l e s m below meth c D b)) := by
  have X := Z.1
  unfold B_L_325
  refine as_aload_n X (by decide +kernel : decode code 325 = .ok (.aload_n 1, 1)) rfl ?_
  refine as_aload_n X (by decide +kernel : decode code 326 = .ok (.aload_n 0, 1)) rfl ?_
  refine as_iload_n X (by decide +kernel : decode code 327 = .ok (.iload_n 3, 1)) rfl ?_
  refine as_iconst X (by decide +kernel : decode code 328 = .ok (.iconst 1, 1)) rfl ?_
  refine as_iadd X (by decide +kernel : decode code 329 = .ok (.iadd, 1)) ?_
  refine as_xv Z (by decide +kernel : decode code 330 = .ok (.iaload, 1)) ?_
  refine as_aload_n X (by decide +kernel : decode code 331 = .ok (.aload_n 0, 1)) rfl ?_
  refine as_iload_n X (by decide +kernel : decode code 332 = .ok (.iload_n 3, 1)) rfl ?_
  refine as_iconst X (by decide +kernel : decode code 333 = .ok (.iconst 2, 1)) rfl ?_
  refine as_iadd X (by decide +kernel : decode code 334 = .ok (.iadd, 1)) ?_
  refine as_xv Z (by decide +kernel : decode code 335 = .ok (.iaload, 1)) ?_
  refine as_aload_n X (by decide +kernel : decode code 336 = .ok (.aload_n 0, 1)) rfl ?_
  refine as_iload_n X (by decide +kernel : decode code 337 = .ok (.iload_n 3, 1)) rfl ?_
  refine as_iconst X (by decide +kernel : decode code 338 = .ok (.iconst 3, 1)) rfl ?_
  refine as_iadd X (by decide +kernel : decode code 339 = .ok (.iadd, 1)) ?_
  refine as_xv Z (by decide +kernel : decode code 340 = .ok (.iaload, 1)) ?_
  refine as_cv X k_X8_entryLetter rfl (by decide +kernel : decode code 341 = .ok (.invokevirtual 52, 3)) dn_X8_entryLetter ml_L_52 im_X8_entryLetter se_X8_entryLetter ini_X8 co_X8_entryLetter ⟨Nat.le_of_ble_eq_true rfl, Nat.le_of_ble_eq_true rfl⟩ ?_
  refine as_aload_n X (by decide +kernel : decode code 344 = .ok (.aload_n 2, 1)) rfl ?_
  refine as_aload_n X (by decide +kernel : decode code 345 = .ok (.aload_n 0, 1)) rfl ?_
  refine as_iload_n X (by decide +kernel : decode code 346 = .ok (.iload_n 3, 1)) rfl ?_
  refine as_iconst X (by decide +kernel : decode code 347 = .ok (.iconst 1, 1)) rfl ?_
  refine as_iadd X (by decide +kernel : decode code 348 = .ok (.iadd, 1)) ?_
  refine as_xv Z (by decide +kernel : decode code 349 = .ok (.iaload, 1)) ?_
  refine as_aload_n X (by decide +kernel : decode code 350 = .ok (.aload_n 0, 1)) rfl ?_
  refine as_iload_n X (by decide +kernel : decode code 351 = .ok (.iload_n 3, 1)) rfl ?_
  refine as_iconst X (by decide +kernel : decode code 352 = .ok (.iconst 2, 1)) rfl ?_
  refine as_iadd X (by decide +kernel : decode code 353 = .ok (.iadd, 1)) ?_
  refine as_xv Z (by decide +kernel : decode code 354 = .ok (.iaload, 1)) ?_
  refine as_aload_n X (by decide +kernel : decode code 355 = .ok (.aload_n 0, 1)) rfl ?_
  refine as_iload_n X (by decide +kernel : decode code 356 = .ok (.iload_n 3, 1)) rfl ?_
  refine as_iconst X (by decide +kernel : decode code 357 = .ok (.iconst 3, 1)) rfl ?_
  refine as_iadd X (by decide +kernel : decode code 358 = .ok (.iadd, 1)) ?_
  refine as_xv Z (by decide +kernel : decode code 359 = .ok (.iaload, 1)) ?_
  refine as_cv X k_X9_entryLetter rfl (by decide +kernel : decode code 360 = .ok (.invokevirtual 56, 3)) dn_X9_entryLetter ml_L_56 im_X9_entryLetter se_X9_entryLetter ini_X9 co_X9_entryLetter ⟨Nat.le_of_ble_eq_true rfl, Nat.le_of_ble_eq_true rfl⟩ ?_
  refine as_ic_eq X (tgt := 803) (by decide +kernel : decode code 363 = .ok (.if_icmp .eq 440, 3)) (by decide) ?_ ?_
  · exact fun _ _ _ h => h
  · refine as_iconst X (by decide +kernel : decode code 366 = .ok (.iconst 0, 1)) rfl ?_
    exact fun _ _ _ h => h.elim
def B_L_368 (L : Nat) (xs : Nat → Int32) (G : Nat → am_K) : am_K := (ak_al 1 (ak_al 0 (ak_il 3 (ak_c (.int 1) (ak_ib (fun x y => x + y) (ak_xv L xs (ak_al 0 (ak_il 3 (ak_c (.int 2) (ak_ib (fun x y => x + y) (ak_xv L xs (ak_cv 3 6 K_X8_clueLetter (ak_al 2 (ak_al 0 (ak_il 3 (ak_c (.int 1) (ak_ib (fun x y => x + y) (ak_xv L xs (ak_al 0 (ak_il 3 (ak_c (.int 2) (ak_ib (fun x y => x + y) (ak_xv L xs (ak_cv 3 7 K_X9_clueLetter (ak_ic (fun x y => x = y) (G 803) (ak_c (.int 0) (fun _ _ _ => False)))))))))))))))))))))))))))
set_option maxHeartbeats 4000000 in
set_option maxRecDepth 100000 in
theorem n_L_368 (Z : lX p l e s m below meth c D b L xs) : am_N (lG p l e s m below meth c D b) 368 (B_L_368 L xs (lG p l e s m below meth c D b)) := by
  have X := Z.1
  unfold B_L_368
  refine as_aload_n X (by decide +kernel : decode code 368 = .ok (.aload_n 1, 1)) rfl ?_
  refine as_aload_n X (by decide +kernel : decode code 369 = .ok (.aload_n 0, 1)) rfl ?_
  refine as_iload_n X (by decide +kernel : decode code 370 = .ok (.iload_n 3, 1)) rfl ?_
  refine as_iconst X (by decide +kernel : decode code 371 = .ok (.iconst 1, 1)) rfl ?_
  refine as_iadd X (by decide +kernel : decode code 372 = .ok (.iadd, 1)) ?_
  refine as_xv Z (by decide +kernel : decode code 373 = .ok (.iaload, 1)) ?_
  refine as_aload_n X (by decide +kernel : decode code 374 = .ok (.aload_n 0, 1)) rfl ?_
  refine as_iload_n X (by decide +kernel : decode code 375 = .ok (.iload_n 3, 1)) rfl ?_
  refine as_iconst X (by decide +kernel : decode code 376 = .ok (.iconst 2, 1)) rfl ?_
  refine as_iadd X (by decide +kernel : decode code 377 = .ok (.iadd, 1)) ?_
  refine as_xv Z (by decide +kernel : decode code 378 = .ok (.iaload, 1)) ?_
  refine as_cv X k_X8_clueLetter rfl (by decide +kernel : decode code 379 = .ok (.invokevirtual 57, 3)) dn_X8_clueLetter ml_L_57 im_X8_clueLetter se_X8_clueLetter ini_X8 co_X8_clueLetter ⟨Nat.le_of_ble_eq_true rfl, Nat.le_of_ble_eq_true rfl⟩ ?_
  refine as_aload_n X (by decide +kernel : decode code 382 = .ok (.aload_n 2, 1)) rfl ?_
  refine as_aload_n X (by decide +kernel : decode code 383 = .ok (.aload_n 0, 1)) rfl ?_
  refine as_iload_n X (by decide +kernel : decode code 384 = .ok (.iload_n 3, 1)) rfl ?_
  refine as_iconst X (by decide +kernel : decode code 385 = .ok (.iconst 1, 1)) rfl ?_
  refine as_iadd X (by decide +kernel : decode code 386 = .ok (.iadd, 1)) ?_
  refine as_xv Z (by decide +kernel : decode code 387 = .ok (.iaload, 1)) ?_
  refine as_aload_n X (by decide +kernel : decode code 388 = .ok (.aload_n 0, 1)) rfl ?_
  refine as_iload_n X (by decide +kernel : decode code 389 = .ok (.iload_n 3, 1)) rfl ?_
  refine as_iconst X (by decide +kernel : decode code 390 = .ok (.iconst 2, 1)) rfl ?_
  refine as_iadd X (by decide +kernel : decode code 391 = .ok (.iadd, 1)) ?_
  refine as_xv Z (by decide +kernel : decode code 392 = .ok (.iaload, 1)) ?_
  refine as_cv X k_X9_clueLetter rfl (by decide +kernel : decode code 393 = .ok (.invokevirtual 60, 3)) dn_X9_clueLetter ml_L_60 im_X9_clueLetter se_X9_clueLetter ini_X9 co_X9_clueLetter ⟨Nat.le_of_ble_eq_true rfl, Nat.le_of_ble_eq_true rfl⟩ ?_
  refine as_ic_eq X (tgt := 803) (by decide +kernel : decode code 396 = .ok (.if_icmp .eq 407, 3)) (by decide) ?_ ?_
  · exact fun _ _ _ h => h
  · refine as_iconst X (by decide +kernel : decode code 399 = .ok (.iconst 0, 1)) rfl ?_
    exact fun _ _ _ h => h.elim
def B_L_401 (L : Nat) (xs : Nat → Int32) (G : Nat → am_K) : am_K := (ak_al 1 (ak_al 0 (ak_il 3 (ak_c (.int 1) (ak_ib (fun x y => x + y) (ak_xv L xs (ak_cv 2 6 K_X8_answerLetter (ak_al 2 (ak_al 0 (ak_il 3 (ak_c (.int 1) (ak_ib (fun x y => x + y) (ak_xv L xs (ak_cv 2 7 K_X9_answerLetter (ak_ic (fun x y => x = y) (G 803) (ak_c (.int 0) (fun _ _ _ => False)))))))))))))))))
set_option maxHeartbeats 4000000 in
set_option maxRecDepth 100000 in
theorem n_L_401 (Z : lX p l e s m below meth c D b L xs) : am_N (lG p l e s m below meth c D b) 401 (B_L_401 L xs (lG p l e s m below meth c D b)) := by
  have X := Z.1
  unfold B_L_401
  refine as_aload_n X (by decide +kernel : decode code 401 = .ok (.aload_n 1, 1)) rfl ?_
  refine as_aload_n X (by decide +kernel : decode code 402 = .ok (.aload_n 0, 1)) rfl ?_
  refine as_iload_n X (by decide +kernel : decode code 403 = .ok (.iload_n 3, 1)) rfl ?_
  refine as_iconst X (by decide +kernel : decode code 404 = .ok (.iconst 1, 1)) rfl ?_
  refine as_iadd X (by decide +kernel : decode code 405 = .ok (.iadd, 1)) ?_
  refine as_xv Z (by decide +kernel : decode code 406 = .ok (.iaload, 1)) ?_
  refine as_cv X k_X8_answerLetter rfl (by decide +kernel : decode code 407 = .ok (.invokevirtual 61, 3)) dn_X8_answerLetter ml_L_61 im_X8_answerLetter se_X8_answerLetter ini_X8 co_X8_answerLetter ⟨Nat.le_of_ble_eq_true rfl, Nat.le_of_ble_eq_true rfl⟩ ?_
  refine as_aload_n X (by decide +kernel : decode code 410 = .ok (.aload_n 2, 1)) rfl ?_
  refine as_aload_n X (by decide +kernel : decode code 411 = .ok (.aload_n 0, 1)) rfl ?_
  refine as_iload_n X (by decide +kernel : decode code 412 = .ok (.iload_n 3, 1)) rfl ?_
  refine as_iconst X (by decide +kernel : decode code 413 = .ok (.iconst 1, 1)) rfl ?_
  refine as_iadd X (by decide +kernel : decode code 414 = .ok (.iadd, 1)) ?_
  refine as_xv Z (by decide +kernel : decode code 415 = .ok (.iaload, 1)) ?_
  refine as_cv X k_X9_answerLetter rfl (by decide +kernel : decode code 416 = .ok (.invokevirtual 64, 3)) dn_X9_answerLetter ml_L_64 im_X9_answerLetter se_X9_answerLetter ini_X9 co_X9_answerLetter ⟨Nat.le_of_ble_eq_true rfl, Nat.le_of_ble_eq_true rfl⟩ ?_
  refine as_ic_eq X (tgt := 803) (by decide +kernel : decode code 419 = .ok (.if_icmp .eq 384, 3)) (by decide) ?_ ?_
  · exact fun _ _ _ h => h
  · refine as_iconst X (by decide +kernel : decode code 422 = .ok (.iconst 0, 1)) rfl ?_
    exact fun _ _ _ h => h.elim
def B_L_424 (L : Nat) (xs : Nat → Int32) (G : Nat → am_K) : am_K := (ak_al 1 (ak_al 0 (ak_il 3 (ak_c (.int 1) (ak_ib (fun x y => x + y) (ak_xv L xs (ak_al 0 (ak_il 3 (ak_c (.int 2) (ak_ib (fun x y => x + y) (ak_xv L xs (ak_cv 3 6 K_X8_sign (ak_al 2 (ak_al 0 (ak_il 3 (ak_c (.int 1) (ak_ib (fun x y => x + y) (ak_xv L xs (ak_al 0 (ak_il 3 (ak_c (.int 2) (ak_ib (fun x y => x + y) (ak_xv L xs (ak_cv 3 7 K_X9_sign (ak_ic (fun x y => x = y) (G 803) (ak_c (.int 0) (fun _ _ _ => False)))))))))))))))))))))))))))
set_option maxHeartbeats 4000000 in
set_option maxRecDepth 100000 in
theorem n_L_424 (Z : lX p l e s m below meth c D b L xs) : am_N (lG p l e s m below meth c D b) 424 (B_L_424 L xs (lG p l e s m below meth c D b)) := by
  have X := Z.1
  unfold B_L_424
  refine as_aload_n X (by decide +kernel : decode code 424 = .ok (.aload_n 1, 1)) rfl ?_
  refine as_aload_n X (by decide +kernel : decode code 425 = .ok (.aload_n 0, 1)) rfl ?_
  refine as_iload_n X (by decide +kernel : decode code 426 = .ok (.iload_n 3, 1)) rfl ?_
  refine as_iconst X (by decide +kernel : decode code 427 = .ok (.iconst 1, 1)) rfl ?_
  refine as_iadd X (by decide +kernel : decode code 428 = .ok (.iadd, 1)) ?_
  refine as_xv Z (by decide +kernel : decode code 429 = .ok (.iaload, 1)) ?_
  refine as_aload_n X (by decide +kernel : decode code 430 = .ok (.aload_n 0, 1)) rfl ?_
  refine as_iload_n X (by decide +kernel : decode code 431 = .ok (.iload_n 3, 1)) rfl ?_
  refine as_iconst X (by decide +kernel : decode code 432 = .ok (.iconst 2, 1)) rfl ?_
  refine as_iadd X (by decide +kernel : decode code 433 = .ok (.iadd, 1)) ?_
  refine as_xv Z (by decide +kernel : decode code 434 = .ok (.iaload, 1)) ?_
  refine as_cv X k_X8_sign rfl (by decide +kernel : decode code 435 = .ok (.invokevirtual 65, 3)) dn_X8_sign ml_L_65 im_X8_sign se_X8_sign ini_X8 co_X8_sign ⟨Nat.le_of_ble_eq_true rfl, Nat.le_of_ble_eq_true rfl⟩ ?_
  refine as_aload_n X (by decide +kernel : decode code 438 = .ok (.aload_n 2, 1)) rfl ?_
  refine as_aload_n X (by decide +kernel : decode code 439 = .ok (.aload_n 0, 1)) rfl ?_
  refine as_iload_n X (by decide +kernel : decode code 440 = .ok (.iload_n 3, 1)) rfl ?_
  refine as_iconst X (by decide +kernel : decode code 441 = .ok (.iconst 1, 1)) rfl ?_
  refine as_iadd X (by decide +kernel : decode code 442 = .ok (.iadd, 1)) ?_
  refine as_xv Z (by decide +kernel : decode code 443 = .ok (.iaload, 1)) ?_
  refine as_aload_n X (by decide +kernel : decode code 444 = .ok (.aload_n 0, 1)) rfl ?_
  refine as_iload_n X (by decide +kernel : decode code 445 = .ok (.iload_n 3, 1)) rfl ?_
  refine as_iconst X (by decide +kernel : decode code 446 = .ok (.iconst 2, 1)) rfl ?_
  refine as_iadd X (by decide +kernel : decode code 447 = .ok (.iadd, 1)) ?_
  refine as_xv Z (by decide +kernel : decode code 448 = .ok (.iaload, 1)) ?_
  refine as_cv X k_X9_sign rfl (by decide +kernel : decode code 449 = .ok (.invokevirtual 68, 3)) dn_X9_sign ml_L_68 im_X9_sign se_X9_sign ini_X9 co_X9_sign ⟨Nat.le_of_ble_eq_true rfl, Nat.le_of_ble_eq_true rfl⟩ ?_
  refine as_ic_eq X (tgt := 803) (by decide +kernel : decode code 452 = .ok (.if_icmp .eq 351, 3)) (by decide) ?_ ?_
  · exact fun _ _ _ h => h
  · refine as_iconst X (by decide +kernel : decode code 455 = .ok (.iconst 0, 1)) rfl ?_
    exact fun _ _ _ h => h.elim
def B_L_457 (L : Nat) (xs : Nat → Int32) (G : Nat → am_K) : am_K := (ak_al 1 (ak_cv 1 6 K_X8_parses (ak_al 2 (ak_cv 1 7 K_X9_parses (ak_ic (fun x y => x = y) (G 803) (ak_c (.int 0) (fun _ _ _ => False)))))))
set_option maxHeartbeats 4000000 in
set_option maxRecDepth 100000 in
theorem n_L_457 (Z : lX p l e s m below meth c D b L xs) : am_N (lG p l e s m below meth c D b) 457 (B_L_457 L xs (lG p l e s m below meth c D b)) := by
  have X := Z.1
  unfold B_L_457
  refine as_aload_n X (by decide +kernel : decode code 457 = .ok (.aload_n 1, 1)) rfl ?_
  refine as_cv X k_X8_parses rfl (by decide +kernel : decode code 458 = .ok (.invokevirtual 69, 3)) dn_X8_parses ml_L_69 im_X8_parses se_X8_parses ini_X8 co_X8_parses ⟨Nat.le_of_ble_eq_true rfl, Nat.le_of_ble_eq_true rfl⟩ ?_
  refine as_aload_n X (by decide +kernel : decode code 461 = .ok (.aload_n 2, 1)) rfl ?_
  refine as_cv X k_X9_parses rfl (by decide +kernel : decode code 462 = .ok (.invokevirtual 72, 3)) dn_X9_parses ml_L_72 im_X9_parses se_X9_parses ini_X9 co_X9_parses ⟨Nat.le_of_ble_eq_true rfl, Nat.le_of_ble_eq_true rfl⟩ ?_
  refine as_ic_eq X (tgt := 803) (by decide +kernel : decode code 465 = .ok (.if_icmp .eq 338, 3)) (by decide) ?_ ?_
  · exact fun _ _ _ h => h
  · refine as_iconst X (by decide +kernel : decode code 468 = .ok (.iconst 0, 1)) rfl ?_
    exact fun _ _ _ h => h.elim
def B_L_470 (L : Nat) (xs : Nat → Int32) (G : Nat → am_K) : am_K := (ak_al 1 (ak_cv 1 6 K_X8_cost (ak_al 2 (ak_cv 1 7 K_X9_cost (ak_ic (fun x y => x = y) (G 803) (ak_c (.int 0) (fun _ _ _ => False)))))))
set_option maxHeartbeats 4000000 in
set_option maxRecDepth 100000 in
theorem n_L_470 (Z : lX p l e s m below meth c D b L xs) : am_N (lG p l e s m below meth c D b) 470 (B_L_470 L xs (lG p l e s m below meth c D b)) := by
  have X := Z.1
  unfold B_L_470
  refine as_aload_n X (by decide +kernel : decode code 470 = .ok (.aload_n 1, 1)) rfl ?_
  refine as_cv X k_X8_cost rfl (by decide +kernel : decode code 471 = .ok (.invokevirtual 73, 3)) dn_X8_cost ml_L_73 im_X8_cost se_X8_cost ini_X8 co_X8_cost ⟨Nat.le_of_ble_eq_true rfl, Nat.le_of_ble_eq_true rfl⟩ ?_
  refine as_aload_n X (by decide +kernel : decode code 474 = .ok (.aload_n 2, 1)) rfl ?_
  refine as_cv X k_X9_cost rfl (by decide +kernel : decode code 475 = .ok (.invokevirtual 76, 3)) dn_X9_cost ml_L_76 im_X9_cost se_X9_cost ini_X9 co_X9_cost ⟨Nat.le_of_ble_eq_true rfl, Nat.le_of_ble_eq_true rfl⟩ ?_
  refine as_ic_eq X (tgt := 803) (by decide +kernel : decode code 478 = .ok (.if_icmp .eq 325, 3)) (by decide) ?_ ?_
  · exact fun _ _ _ h => h
  · refine as_iconst X (by decide +kernel : decode code 481 = .ok (.iconst 0, 1)) rfl ?_
    exact fun _ _ _ h => h.elim
def B_L_483 (L : Nat) (xs : Nat → Int32) (G : Nat → am_K) : am_K := (ak_al 1 (ak_al 0 (ak_il 3 (ak_c (.int 1) (ak_ib (fun x y => x + y) (ak_xv L xs (ak_cv 2 6 K_X8_first (ak_al 2 (ak_al 0 (ak_il 3 (ak_c (.int 1) (ak_ib (fun x y => x + y) (ak_xv L xs (ak_cv 2 7 K_X9_first (ak_ic (fun x y => x = y) (G 803) (ak_c (.int 0) (fun _ _ _ => False)))))))))))))))))
set_option maxHeartbeats 4000000 in
set_option maxRecDepth 100000 in
theorem n_L_483 (Z : lX p l e s m below meth c D b L xs) : am_N (lG p l e s m below meth c D b) 483 (B_L_483 L xs (lG p l e s m below meth c D b)) := by
  have X := Z.1
  unfold B_L_483
  refine as_aload_n X (by decide +kernel : decode code 483 = .ok (.aload_n 1, 1)) rfl ?_
  refine as_aload_n X (by decide +kernel : decode code 484 = .ok (.aload_n 0, 1)) rfl ?_
  refine as_iload_n X (by decide +kernel : decode code 485 = .ok (.iload_n 3, 1)) rfl ?_
  refine as_iconst X (by decide +kernel : decode code 486 = .ok (.iconst 1, 1)) rfl ?_
  refine as_iadd X (by decide +kernel : decode code 487 = .ok (.iadd, 1)) ?_
  refine as_xv Z (by decide +kernel : decode code 488 = .ok (.iaload, 1)) ?_
  refine as_cv X k_X8_first rfl (by decide +kernel : decode code 489 = .ok (.invokevirtual 77, 3)) dn_X8_first ml_L_77 im_X8_first se_X8_first ini_X8 co_X8_first ⟨Nat.le_of_ble_eq_true rfl, Nat.le_of_ble_eq_true rfl⟩ ?_
  refine as_aload_n X (by decide +kernel : decode code 492 = .ok (.aload_n 2, 1)) rfl ?_
  refine as_aload_n X (by decide +kernel : decode code 493 = .ok (.aload_n 0, 1)) rfl ?_
  refine as_iload_n X (by decide +kernel : decode code 494 = .ok (.iload_n 3, 1)) rfl ?_
  refine as_iconst X (by decide +kernel : decode code 495 = .ok (.iconst 1, 1)) rfl ?_
  refine as_iadd X (by decide +kernel : decode code 496 = .ok (.iadd, 1)) ?_
  refine as_xv Z (by decide +kernel : decode code 497 = .ok (.iaload, 1)) ?_
  refine as_cv X k_X9_first rfl (by decide +kernel : decode code 498 = .ok (.invokevirtual 80, 3)) dn_X9_first ml_L_80 im_X9_first se_X9_first ini_X9 co_X9_first ⟨Nat.le_of_ble_eq_true rfl, Nat.le_of_ble_eq_true rfl⟩ ?_
  refine as_ic_eq X (tgt := 803) (by decide +kernel : decode code 501 = .ok (.if_icmp .eq 302, 3)) (by decide) ?_ ?_
  · exact fun _ _ _ h => h
  · refine as_iconst X (by decide +kernel : decode code 504 = .ok (.iconst 0, 1)) rfl ?_
    exact fun _ _ _ h => h.elim
def B_L_506 (L : Nat) (xs : Nat → Int32) (G : Nat → am_K) : am_K := (ak_al 1 (ak_al 0 (ak_il 3 (ak_c (.int 1) (ak_ib (fun x y => x + y) (ak_xv L xs (ak_al 0 (ak_il 3 (ak_c (.int 2) (ak_ib (fun x y => x + y) (ak_xv L xs (ak_al 0 (ak_il 3 (ak_c (.int 3) (ak_ib (fun x y => x + y) (ak_xv L xs (ak_al 0 (ak_il 3 (ak_c (.int 4) (ak_ib (fun x y => x + y) (ak_xv L xs (ak_cv 5 6 K_X8_pieces (ak_al 2 (ak_al 0 (ak_il 3 (ak_c (.int 1) (ak_ib (fun x y => x + y) (ak_xv L xs (ak_al 0 (ak_il 3 (ak_c (.int 2) (ak_ib (fun x y => x + y) (ak_xv L xs (ak_al 0 (ak_il 3 (ak_c (.int 3) (ak_ib (fun x y => x + y) (ak_xv L xs (ak_al 0 (ak_il 3 (ak_c (.int 4) (ak_ib (fun x y => x + y) (ak_xv L xs (ak_cv 5 7 K_X9_pieces (ak_ic (fun x y => x = y) (G 803) (ak_c (.int 0) (fun _ _ _ => False)))))))))))))))))))))))))))))))))))))))))))))))
set_option maxHeartbeats 4000000 in
set_option maxRecDepth 100000 in
theorem n_L_506 (Z : lX p l e s m below meth c D b L xs) : am_N (lG p l e s m below meth c D b) 506 (B_L_506 L xs (lG p l e s m below meth c D b)) := by
  have X := Z.1
  unfold B_L_506
  refine as_aload_n X (by decide +kernel : decode code 506 = .ok (.aload_n 1, 1)) rfl ?_
  refine as_aload_n X (by decide +kernel : decode code 507 = .ok (.aload_n 0, 1)) rfl ?_
  refine as_iload_n X (by decide +kernel : decode code 508 = .ok (.iload_n 3, 1)) rfl ?_
  refine as_iconst X (by decide +kernel : decode code 509 = .ok (.iconst 1, 1)) rfl ?_
  refine as_iadd X (by decide +kernel : decode code 510 = .ok (.iadd, 1)) ?_
  refine as_xv Z (by decide +kernel : decode code 511 = .ok (.iaload, 1)) ?_
  refine as_aload_n X (by decide +kernel : decode code 512 = .ok (.aload_n 0, 1)) rfl ?_
  refine as_iload_n X (by decide +kernel : decode code 513 = .ok (.iload_n 3, 1)) rfl ?_
  refine as_iconst X (by decide +kernel : decode code 514 = .ok (.iconst 2, 1)) rfl ?_
  refine as_iadd X (by decide +kernel : decode code 515 = .ok (.iadd, 1)) ?_
  refine as_xv Z (by decide +kernel : decode code 516 = .ok (.iaload, 1)) ?_
  refine as_aload_n X (by decide +kernel : decode code 517 = .ok (.aload_n 0, 1)) rfl ?_
  refine as_iload_n X (by decide +kernel : decode code 518 = .ok (.iload_n 3, 1)) rfl ?_
  refine as_iconst X (by decide +kernel : decode code 519 = .ok (.iconst 3, 1)) rfl ?_
  refine as_iadd X (by decide +kernel : decode code 520 = .ok (.iadd, 1)) ?_
  refine as_xv Z (by decide +kernel : decode code 521 = .ok (.iaload, 1)) ?_
  refine as_aload_n X (by decide +kernel : decode code 522 = .ok (.aload_n 0, 1)) rfl ?_
  refine as_iload_n X (by decide +kernel : decode code 523 = .ok (.iload_n 3, 1)) rfl ?_
  refine as_iconst X (by decide +kernel : decode code 524 = .ok (.iconst 4, 1)) rfl ?_
  refine as_iadd X (by decide +kernel : decode code 525 = .ok (.iadd, 1)) ?_
  refine as_xv Z (by decide +kernel : decode code 526 = .ok (.iaload, 1)) ?_
  refine as_cv X k_X8_pieces rfl (by decide +kernel : decode code 527 = .ok (.invokevirtual 81, 3)) dn_X8_pieces ml_L_81 im_X8_pieces se_X8_pieces ini_X8 co_X8_pieces ⟨Nat.le_of_ble_eq_true rfl, Nat.le_of_ble_eq_true rfl⟩ ?_
  refine as_aload_n X (by decide +kernel : decode code 530 = .ok (.aload_n 2, 1)) rfl ?_
  refine as_aload_n X (by decide +kernel : decode code 531 = .ok (.aload_n 0, 1)) rfl ?_
  refine as_iload_n X (by decide +kernel : decode code 532 = .ok (.iload_n 3, 1)) rfl ?_
  refine as_iconst X (by decide +kernel : decode code 533 = .ok (.iconst 1, 1)) rfl ?_
  refine as_iadd X (by decide +kernel : decode code 534 = .ok (.iadd, 1)) ?_
  refine as_xv Z (by decide +kernel : decode code 535 = .ok (.iaload, 1)) ?_
  refine as_aload_n X (by decide +kernel : decode code 536 = .ok (.aload_n 0, 1)) rfl ?_
  refine as_iload_n X (by decide +kernel : decode code 537 = .ok (.iload_n 3, 1)) rfl ?_
  refine as_iconst X (by decide +kernel : decode code 538 = .ok (.iconst 2, 1)) rfl ?_
  refine as_iadd X (by decide +kernel : decode code 539 = .ok (.iadd, 1)) ?_
  refine as_xv Z (by decide +kernel : decode code 540 = .ok (.iaload, 1)) ?_
  refine as_aload_n X (by decide +kernel : decode code 541 = .ok (.aload_n 0, 1)) rfl ?_
  refine as_iload_n X (by decide +kernel : decode code 542 = .ok (.iload_n 3, 1)) rfl ?_
  refine as_iconst X (by decide +kernel : decode code 543 = .ok (.iconst 3, 1)) rfl ?_
  refine as_iadd X (by decide +kernel : decode code 544 = .ok (.iadd, 1)) ?_
  refine as_xv Z (by decide +kernel : decode code 545 = .ok (.iaload, 1)) ?_
  refine as_aload_n X (by decide +kernel : decode code 546 = .ok (.aload_n 0, 1)) rfl ?_
  refine as_iload_n X (by decide +kernel : decode code 547 = .ok (.iload_n 3, 1)) rfl ?_
  refine as_iconst X (by decide +kernel : decode code 548 = .ok (.iconst 4, 1)) rfl ?_
  refine as_iadd X (by decide +kernel : decode code 549 = .ok (.iadd, 1)) ?_
  refine as_xv Z (by decide +kernel : decode code 550 = .ok (.iaload, 1)) ?_
  refine as_cv X k_X9_pieces rfl (by decide +kernel : decode code 551 = .ok (.invokevirtual 85, 3)) dn_X9_pieces ml_L_85 im_X9_pieces se_X9_pieces ini_X9 co_X9_pieces ⟨Nat.le_of_ble_eq_true rfl, Nat.le_of_ble_eq_true rfl⟩ ?_
  refine as_ic_eq X (tgt := 803) (by decide +kernel : decode code 554 = .ok (.if_icmp .eq 249, 3)) (by decide) ?_ ?_
  · exact fun _ _ _ h => h
  · refine as_iconst X (by decide +kernel : decode code 557 = .ok (.iconst 0, 1)) rfl ?_
    exact fun _ _ _ h => h.elim
def B_L_559 (L : Nat) (xs : Nat → Int32) (G : Nat → am_K) : am_K := (ak_al 1 (ak_al 0 (ak_il 3 (ak_c (.int 1) (ak_ib (fun x y => x + y) (ak_xv L xs (ak_al 0 (ak_il 3 (ak_c (.int 2) (ak_ib (fun x y => x + y) (ak_xv L xs (ak_al 0 (ak_il 3 (ak_c (.int 3) (ak_ib (fun x y => x + y) (ak_xv L xs (ak_al 0 (ak_il 3 (ak_c (.int 4) (ak_ib (fun x y => x + y) (ak_xv L xs (ak_cv 5 6 K_X8_pieceCost (ak_al 2 (ak_al 0 (ak_il 3 (ak_c (.int 1) (ak_ib (fun x y => x + y) (ak_xv L xs (ak_al 0 (ak_il 3 (ak_c (.int 2) (ak_ib (fun x y => x + y) (ak_xv L xs (ak_al 0 (ak_il 3 (ak_c (.int 3) (ak_ib (fun x y => x + y) (ak_xv L xs (ak_al 0 (ak_il 3 (ak_c (.int 4) (ak_ib (fun x y => x + y) (ak_xv L xs (ak_cv 5 7 K_X9_pieceCost (ak_ic (fun x y => x = y) (G 803) (ak_c (.int 0) (fun _ _ _ => False)))))))))))))))))))))))))))))))))))))))))))))))
set_option maxHeartbeats 4000000 in
set_option maxRecDepth 100000 in
theorem n_L_559 (Z : lX p l e s m below meth c D b L xs) : am_N (lG p l e s m below meth c D b) 559 (B_L_559 L xs (lG p l e s m below meth c D b)) := by
  have X := Z.1
  unfold B_L_559
  refine as_aload_n X (by decide +kernel : decode code 559 = .ok (.aload_n 1, 1)) rfl ?_
  refine as_aload_n X (by decide +kernel : decode code 560 = .ok (.aload_n 0, 1)) rfl ?_
  refine as_iload_n X (by decide +kernel : decode code 561 = .ok (.iload_n 3, 1)) rfl ?_
  refine as_iconst X (by decide +kernel : decode code 562 = .ok (.iconst 1, 1)) rfl ?_
  refine as_iadd X (by decide +kernel : decode code 563 = .ok (.iadd, 1)) ?_
  refine as_xv Z (by decide +kernel : decode code 564 = .ok (.iaload, 1)) ?_
  refine as_aload_n X (by decide +kernel : decode code 565 = .ok (.aload_n 0, 1)) rfl ?_
  refine as_iload_n X (by decide +kernel : decode code 566 = .ok (.iload_n 3, 1)) rfl ?_
  refine as_iconst X (by decide +kernel : decode code 567 = .ok (.iconst 2, 1)) rfl ?_
  refine as_iadd X (by decide +kernel : decode code 568 = .ok (.iadd, 1)) ?_
  refine as_xv Z (by decide +kernel : decode code 569 = .ok (.iaload, 1)) ?_
  refine as_aload_n X (by decide +kernel : decode code 570 = .ok (.aload_n 0, 1)) rfl ?_
  refine as_iload_n X (by decide +kernel : decode code 571 = .ok (.iload_n 3, 1)) rfl ?_
  refine as_iconst X (by decide +kernel : decode code 572 = .ok (.iconst 3, 1)) rfl ?_
  refine as_iadd X (by decide +kernel : decode code 573 = .ok (.iadd, 1)) ?_
  refine as_xv Z (by decide +kernel : decode code 574 = .ok (.iaload, 1)) ?_
  refine as_aload_n X (by decide +kernel : decode code 575 = .ok (.aload_n 0, 1)) rfl ?_
  refine as_iload_n X (by decide +kernel : decode code 576 = .ok (.iload_n 3, 1)) rfl ?_
  refine as_iconst X (by decide +kernel : decode code 577 = .ok (.iconst 4, 1)) rfl ?_
  refine as_iadd X (by decide +kernel : decode code 578 = .ok (.iadd, 1)) ?_
  refine as_xv Z (by decide +kernel : decode code 579 = .ok (.iaload, 1)) ?_
  refine as_cv X k_X8_pieceCost rfl (by decide +kernel : decode code 580 = .ok (.invokevirtual 86, 3)) dn_X8_pieceCost ml_L_86 im_X8_pieceCost se_X8_pieceCost ini_X8 co_X8_pieceCost ⟨Nat.le_of_ble_eq_true rfl, Nat.le_of_ble_eq_true rfl⟩ ?_
  refine as_aload_n X (by decide +kernel : decode code 583 = .ok (.aload_n 2, 1)) rfl ?_
  refine as_aload_n X (by decide +kernel : decode code 584 = .ok (.aload_n 0, 1)) rfl ?_
  refine as_iload_n X (by decide +kernel : decode code 585 = .ok (.iload_n 3, 1)) rfl ?_
  refine as_iconst X (by decide +kernel : decode code 586 = .ok (.iconst 1, 1)) rfl ?_
  refine as_iadd X (by decide +kernel : decode code 587 = .ok (.iadd, 1)) ?_
  refine as_xv Z (by decide +kernel : decode code 588 = .ok (.iaload, 1)) ?_
  refine as_aload_n X (by decide +kernel : decode code 589 = .ok (.aload_n 0, 1)) rfl ?_
  refine as_iload_n X (by decide +kernel : decode code 590 = .ok (.iload_n 3, 1)) rfl ?_
  refine as_iconst X (by decide +kernel : decode code 591 = .ok (.iconst 2, 1)) rfl ?_
  refine as_iadd X (by decide +kernel : decode code 592 = .ok (.iadd, 1)) ?_
  refine as_xv Z (by decide +kernel : decode code 593 = .ok (.iaload, 1)) ?_
  refine as_aload_n X (by decide +kernel : decode code 594 = .ok (.aload_n 0, 1)) rfl ?_
  refine as_iload_n X (by decide +kernel : decode code 595 = .ok (.iload_n 3, 1)) rfl ?_
  refine as_iconst X (by decide +kernel : decode code 596 = .ok (.iconst 3, 1)) rfl ?_
  refine as_iadd X (by decide +kernel : decode code 597 = .ok (.iadd, 1)) ?_
  refine as_xv Z (by decide +kernel : decode code 598 = .ok (.iaload, 1)) ?_
  refine as_aload_n X (by decide +kernel : decode code 599 = .ok (.aload_n 0, 1)) rfl ?_
  refine as_iload_n X (by decide +kernel : decode code 600 = .ok (.iload_n 3, 1)) rfl ?_
  refine as_iconst X (by decide +kernel : decode code 601 = .ok (.iconst 4, 1)) rfl ?_
  refine as_iadd X (by decide +kernel : decode code 602 = .ok (.iadd, 1)) ?_
  refine as_xv Z (by decide +kernel : decode code 603 = .ok (.iaload, 1)) ?_
  refine as_cv X k_X9_pieceCost rfl (by decide +kernel : decode code 604 = .ok (.invokevirtual 89, 3)) dn_X9_pieceCost ml_L_89 im_X9_pieceCost se_X9_pieceCost ini_X9 co_X9_pieceCost ⟨Nat.le_of_ble_eq_true rfl, Nat.le_of_ble_eq_true rfl⟩ ?_
  refine as_ic_eq X (tgt := 803) (by decide +kernel : decode code 607 = .ok (.if_icmp .eq 196, 3)) (by decide) ?_ ?_
  · exact fun _ _ _ h => h
  · refine as_iconst X (by decide +kernel : decode code 610 = .ok (.iconst 0, 1)) rfl ?_
    exact fun _ _ _ h => h.elim
def B_L_612 (L : Nat) (xs : Nat → Int32) (G : Nat → am_K) : am_K := (ak_al 1 (ak_al 0 (ak_il 3 (ak_c (.int 1) (ak_ib (fun x y => x + y) (ak_xv L xs (ak_al 0 (ak_il 3 (ak_c (.int 2) (ak_ib (fun x y => x + y) (ak_xv L xs (ak_al 0 (ak_il 3 (ak_c (.int 3) (ak_ib (fun x y => x + y) (ak_xv L xs (ak_al 0 (ak_il 3 (ak_c (.int 4) (ak_ib (fun x y => x + y) (ak_xv L xs (ak_cv 5 6 K_X8_units (ak_al 2 (ak_al 0 (ak_il 3 (ak_c (.int 1) (ak_ib (fun x y => x + y) (ak_xv L xs (ak_al 0 (ak_il 3 (ak_c (.int 2) (ak_ib (fun x y => x + y) (ak_xv L xs (ak_al 0 (ak_il 3 (ak_c (.int 3) (ak_ib (fun x y => x + y) (ak_xv L xs (ak_al 0 (ak_il 3 (ak_c (.int 4) (ak_ib (fun x y => x + y) (ak_xv L xs (ak_cv 5 7 K_X9_units (ak_ic (fun x y => x = y) (G 803) (ak_c (.int 0) (fun _ _ _ => False)))))))))))))))))))))))))))))))))))))))))))))))
set_option maxHeartbeats 4000000 in
set_option maxRecDepth 100000 in
theorem n_L_612 (Z : lX p l e s m below meth c D b L xs) : am_N (lG p l e s m below meth c D b) 612 (B_L_612 L xs (lG p l e s m below meth c D b)) := by
  have X := Z.1
  unfold B_L_612
  refine as_aload_n X (by decide +kernel : decode code 612 = .ok (.aload_n 1, 1)) rfl ?_
  refine as_aload_n X (by decide +kernel : decode code 613 = .ok (.aload_n 0, 1)) rfl ?_
  refine as_iload_n X (by decide +kernel : decode code 614 = .ok (.iload_n 3, 1)) rfl ?_
  refine as_iconst X (by decide +kernel : decode code 615 = .ok (.iconst 1, 1)) rfl ?_
  refine as_iadd X (by decide +kernel : decode code 616 = .ok (.iadd, 1)) ?_
  refine as_xv Z (by decide +kernel : decode code 617 = .ok (.iaload, 1)) ?_
  refine as_aload_n X (by decide +kernel : decode code 618 = .ok (.aload_n 0, 1)) rfl ?_
  refine as_iload_n X (by decide +kernel : decode code 619 = .ok (.iload_n 3, 1)) rfl ?_
  refine as_iconst X (by decide +kernel : decode code 620 = .ok (.iconst 2, 1)) rfl ?_
  refine as_iadd X (by decide +kernel : decode code 621 = .ok (.iadd, 1)) ?_
  refine as_xv Z (by decide +kernel : decode code 622 = .ok (.iaload, 1)) ?_
  refine as_aload_n X (by decide +kernel : decode code 623 = .ok (.aload_n 0, 1)) rfl ?_
  refine as_iload_n X (by decide +kernel : decode code 624 = .ok (.iload_n 3, 1)) rfl ?_
  refine as_iconst X (by decide +kernel : decode code 625 = .ok (.iconst 3, 1)) rfl ?_
  refine as_iadd X (by decide +kernel : decode code 626 = .ok (.iadd, 1)) ?_
  refine as_xv Z (by decide +kernel : decode code 627 = .ok (.iaload, 1)) ?_
  refine as_aload_n X (by decide +kernel : decode code 628 = .ok (.aload_n 0, 1)) rfl ?_
  refine as_iload_n X (by decide +kernel : decode code 629 = .ok (.iload_n 3, 1)) rfl ?_
  refine as_iconst X (by decide +kernel : decode code 630 = .ok (.iconst 4, 1)) rfl ?_
  refine as_iadd X (by decide +kernel : decode code 631 = .ok (.iadd, 1)) ?_
  refine as_xv Z (by decide +kernel : decode code 632 = .ok (.iaload, 1)) ?_
  refine as_cv X k_X8_units rfl (by decide +kernel : decode code 633 = .ok (.invokevirtual 90, 3)) dn_X8_units ml_L_90 im_X8_units se_X8_units ini_X8 co_X8_units ⟨Nat.le_of_ble_eq_true rfl, Nat.le_of_ble_eq_true rfl⟩ ?_
  refine as_aload_n X (by decide +kernel : decode code 636 = .ok (.aload_n 2, 1)) rfl ?_
  refine as_aload_n X (by decide +kernel : decode code 637 = .ok (.aload_n 0, 1)) rfl ?_
  refine as_iload_n X (by decide +kernel : decode code 638 = .ok (.iload_n 3, 1)) rfl ?_
  refine as_iconst X (by decide +kernel : decode code 639 = .ok (.iconst 1, 1)) rfl ?_
  refine as_iadd X (by decide +kernel : decode code 640 = .ok (.iadd, 1)) ?_
  refine as_xv Z (by decide +kernel : decode code 641 = .ok (.iaload, 1)) ?_
  refine as_aload_n X (by decide +kernel : decode code 642 = .ok (.aload_n 0, 1)) rfl ?_
  refine as_iload_n X (by decide +kernel : decode code 643 = .ok (.iload_n 3, 1)) rfl ?_
  refine as_iconst X (by decide +kernel : decode code 644 = .ok (.iconst 2, 1)) rfl ?_
  refine as_iadd X (by decide +kernel : decode code 645 = .ok (.iadd, 1)) ?_
  refine as_xv Z (by decide +kernel : decode code 646 = .ok (.iaload, 1)) ?_
  refine as_aload_n X (by decide +kernel : decode code 647 = .ok (.aload_n 0, 1)) rfl ?_
  refine as_iload_n X (by decide +kernel : decode code 648 = .ok (.iload_n 3, 1)) rfl ?_
  refine as_iconst X (by decide +kernel : decode code 649 = .ok (.iconst 3, 1)) rfl ?_
  refine as_iadd X (by decide +kernel : decode code 650 = .ok (.iadd, 1)) ?_
  refine as_xv Z (by decide +kernel : decode code 651 = .ok (.iaload, 1)) ?_
  refine as_aload_n X (by decide +kernel : decode code 652 = .ok (.aload_n 0, 1)) rfl ?_
  refine as_iload_n X (by decide +kernel : decode code 653 = .ok (.iload_n 3, 1)) rfl ?_
  refine as_iconst X (by decide +kernel : decode code 654 = .ok (.iconst 4, 1)) rfl ?_
  refine as_iadd X (by decide +kernel : decode code 655 = .ok (.iadd, 1)) ?_
  refine as_xv Z (by decide +kernel : decode code 656 = .ok (.iaload, 1)) ?_
  refine as_cv X k_X9_units rfl (by decide +kernel : decode code 657 = .ok (.invokevirtual 93, 3)) dn_X9_units ml_L_93 im_X9_units se_X9_units ini_X9 co_X9_units ⟨Nat.le_of_ble_eq_true rfl, Nat.le_of_ble_eq_true rfl⟩ ?_
  refine as_ic_eq X (tgt := 803) (by decide +kernel : decode code 660 = .ok (.if_icmp .eq 143, 3)) (by decide) ?_ ?_
  · exact fun _ _ _ h => h
  · refine as_iconst X (by decide +kernel : decode code 663 = .ok (.iconst 0, 1)) rfl ?_
    exact fun _ _ _ h => h.elim
def B_L_665 (L : Nat) (xs : Nat → Int32) (G : Nat → am_K) : am_K := (ak_al 1 (ak_cv 1 6 K_X8_cheapest (ak_al 2 (ak_cv 1 7 K_X9_cheapest (ak_ic (fun x y => x = y) (G 803) (ak_c (.int 0) (fun _ _ _ => False)))))))
set_option maxHeartbeats 4000000 in
set_option maxRecDepth 100000 in
theorem n_L_665 (Z : lX p l e s m below meth c D b L xs) : am_N (lG p l e s m below meth c D b) 665 (B_L_665 L xs (lG p l e s m below meth c D b)) := by
  have X := Z.1
  unfold B_L_665
  refine as_aload_n X (by decide +kernel : decode code 665 = .ok (.aload_n 1, 1)) rfl ?_
  refine as_cv X k_X8_cheapest rfl (by decide +kernel : decode code 666 = .ok (.invokevirtual 94, 3)) dn_X8_cheapest ml_L_94 im_X8_cheapest se_X8_cheapest ini_X8 co_X8_cheapest ⟨Nat.le_of_ble_eq_true rfl, Nat.le_of_ble_eq_true rfl⟩ ?_
  refine as_aload_n X (by decide +kernel : decode code 669 = .ok (.aload_n 2, 1)) rfl ?_
  refine as_cv X k_X9_cheapest rfl (by decide +kernel : decode code 670 = .ok (.invokevirtual 97, 3)) dn_X9_cheapest ml_L_97 im_X9_cheapest se_X9_cheapest ini_X9 co_X9_cheapest ⟨Nat.le_of_ble_eq_true rfl, Nat.le_of_ble_eq_true rfl⟩ ?_
  refine as_ic_eq X (tgt := 803) (by decide +kernel : decode code 673 = .ok (.if_icmp .eq 130, 3)) (by decide) ?_ ?_
  · exact fun _ _ _ h => h
  · refine as_iconst X (by decide +kernel : decode code 676 = .ok (.iconst 0, 1)) rfl ?_
    exact fun _ _ _ h => h.elim
def B_L_678 (L : Nat) (xs : Nat → Int32) (G : Nat → am_K) : am_K := (ak_al 1 (ak_al 0 (ak_il 3 (ak_c (.int 1) (ak_ib (fun x y => x + y) (ak_xv L xs (ak_cv 2 6 K_X8_offer (ak_al 2 (ak_al 0 (ak_il 3 (ak_c (.int 1) (ak_ib (fun x y => x + y) (ak_xv L xs (ak_cv 2 7 K_X9_offer (ak_ic (fun x y => x = y) (G 803) (ak_c (.int 0) (fun _ _ _ => False)))))))))))))))))
set_option maxHeartbeats 4000000 in
set_option maxRecDepth 100000 in
theorem n_L_678 (Z : lX p l e s m below meth c D b L xs) : am_N (lG p l e s m below meth c D b) 678 (B_L_678 L xs (lG p l e s m below meth c D b)) := by
  have X := Z.1
  unfold B_L_678
  refine as_aload_n X (by decide +kernel : decode code 678 = .ok (.aload_n 1, 1)) rfl ?_
  refine as_aload_n X (by decide +kernel : decode code 679 = .ok (.aload_n 0, 1)) rfl ?_
  refine as_iload_n X (by decide +kernel : decode code 680 = .ok (.iload_n 3, 1)) rfl ?_
  refine as_iconst X (by decide +kernel : decode code 681 = .ok (.iconst 1, 1)) rfl ?_
  refine as_iadd X (by decide +kernel : decode code 682 = .ok (.iadd, 1)) ?_
  refine as_xv Z (by decide +kernel : decode code 683 = .ok (.iaload, 1)) ?_
  refine as_cv X k_X8_offer rfl (by decide +kernel : decode code 684 = .ok (.invokevirtual 98, 3)) dn_X8_offer ml_L_98 im_X8_offer se_X8_offer ini_X8 co_X8_offer ⟨Nat.le_of_ble_eq_true rfl, Nat.le_of_ble_eq_true rfl⟩ ?_
  refine as_aload_n X (by decide +kernel : decode code 687 = .ok (.aload_n 2, 1)) rfl ?_
  refine as_aload_n X (by decide +kernel : decode code 688 = .ok (.aload_n 0, 1)) rfl ?_
  refine as_iload_n X (by decide +kernel : decode code 689 = .ok (.iload_n 3, 1)) rfl ?_
  refine as_iconst X (by decide +kernel : decode code 690 = .ok (.iconst 1, 1)) rfl ?_
  refine as_iadd X (by decide +kernel : decode code 691 = .ok (.iadd, 1)) ?_
  refine as_xv Z (by decide +kernel : decode code 692 = .ok (.iaload, 1)) ?_
  refine as_cv X k_X9_offer rfl (by decide +kernel : decode code 693 = .ok (.invokevirtual 101, 3)) dn_X9_offer ml_L_101 im_X9_offer se_X9_offer ini_X9 co_X9_offer ⟨Nat.le_of_ble_eq_true rfl, Nat.le_of_ble_eq_true rfl⟩ ?_
  refine as_ic_eq X (tgt := 803) (by decide +kernel : decode code 696 = .ok (.if_icmp .eq 107, 3)) (by decide) ?_ ?_
  · exact fun _ _ _ h => h
  · refine as_iconst X (by decide +kernel : decode code 699 = .ok (.iconst 0, 1)) rfl ?_
    exact fun _ _ _ h => h.elim
def B_L_701 (L : Nat) (xs : Nat → Int32) (G : Nat → am_K) : am_K := (ak_al 1 (ak_al 0 (ak_il 3 (ak_c (.int 1) (ak_ib (fun x y => x + y) (ak_xv L xs (ak_al 0 (ak_il 3 (ak_c (.int 2) (ak_ib (fun x y => x + y) (ak_xv L xs (ak_cv 3 6 K_X8_ifOffer (ak_al 2 (ak_al 0 (ak_il 3 (ak_c (.int 1) (ak_ib (fun x y => x + y) (ak_xv L xs (ak_al 0 (ak_il 3 (ak_c (.int 2) (ak_ib (fun x y => x + y) (ak_xv L xs (ak_cv 3 7 K_X9_ifOffer (ak_ic (fun x y => x = y) (G 803) (ak_c (.int 0) (fun _ _ _ => False)))))))))))))))))))))))))))
set_option maxHeartbeats 4000000 in
set_option maxRecDepth 100000 in
theorem n_L_701 (Z : lX p l e s m below meth c D b L xs) : am_N (lG p l e s m below meth c D b) 701 (B_L_701 L xs (lG p l e s m below meth c D b)) := by
  have X := Z.1
  unfold B_L_701
  refine as_aload_n X (by decide +kernel : decode code 701 = .ok (.aload_n 1, 1)) rfl ?_
  refine as_aload_n X (by decide +kernel : decode code 702 = .ok (.aload_n 0, 1)) rfl ?_
  refine as_iload_n X (by decide +kernel : decode code 703 = .ok (.iload_n 3, 1)) rfl ?_
  refine as_iconst X (by decide +kernel : decode code 704 = .ok (.iconst 1, 1)) rfl ?_
  refine as_iadd X (by decide +kernel : decode code 705 = .ok (.iadd, 1)) ?_
  refine as_xv Z (by decide +kernel : decode code 706 = .ok (.iaload, 1)) ?_
  refine as_aload_n X (by decide +kernel : decode code 707 = .ok (.aload_n 0, 1)) rfl ?_
  refine as_iload_n X (by decide +kernel : decode code 708 = .ok (.iload_n 3, 1)) rfl ?_
  refine as_iconst X (by decide +kernel : decode code 709 = .ok (.iconst 2, 1)) rfl ?_
  refine as_iadd X (by decide +kernel : decode code 710 = .ok (.iadd, 1)) ?_
  refine as_xv Z (by decide +kernel : decode code 711 = .ok (.iaload, 1)) ?_
  refine as_cv X k_X8_ifOffer rfl (by decide +kernel : decode code 712 = .ok (.invokevirtual 102, 3)) dn_X8_ifOffer ml_L_102 im_X8_ifOffer se_X8_ifOffer ini_X8 co_X8_ifOffer ⟨Nat.le_of_ble_eq_true rfl, Nat.le_of_ble_eq_true rfl⟩ ?_
  refine as_aload_n X (by decide +kernel : decode code 715 = .ok (.aload_n 2, 1)) rfl ?_
  refine as_aload_n X (by decide +kernel : decode code 716 = .ok (.aload_n 0, 1)) rfl ?_
  refine as_iload_n X (by decide +kernel : decode code 717 = .ok (.iload_n 3, 1)) rfl ?_
  refine as_iconst X (by decide +kernel : decode code 718 = .ok (.iconst 1, 1)) rfl ?_
  refine as_iadd X (by decide +kernel : decode code 719 = .ok (.iadd, 1)) ?_
  refine as_xv Z (by decide +kernel : decode code 720 = .ok (.iaload, 1)) ?_
  refine as_aload_n X (by decide +kernel : decode code 721 = .ok (.aload_n 0, 1)) rfl ?_
  refine as_iload_n X (by decide +kernel : decode code 722 = .ok (.iload_n 3, 1)) rfl ?_
  refine as_iconst X (by decide +kernel : decode code 723 = .ok (.iconst 2, 1)) rfl ?_
  refine as_iadd X (by decide +kernel : decode code 724 = .ok (.iadd, 1)) ?_
  refine as_xv Z (by decide +kernel : decode code 725 = .ok (.iaload, 1)) ?_
  refine as_cv X k_X9_ifOffer rfl (by decide +kernel : decode code 726 = .ok (.invokevirtual 105, 3)) dn_X9_ifOffer ml_L_105 im_X9_ifOffer se_X9_ifOffer ini_X9 co_X9_ifOffer ⟨Nat.le_of_ble_eq_true rfl, Nat.le_of_ble_eq_true rfl⟩ ?_
  refine as_ic_eq X (tgt := 803) (by decide +kernel : decode code 729 = .ok (.if_icmp .eq 74, 3)) (by decide) ?_ ?_
  · exact fun _ _ _ h => h
  · refine as_iconst X (by decide +kernel : decode code 732 = .ok (.iconst 0, 1)) rfl ?_
    exact fun _ _ _ h => h.elim
def B_L_734 (L : Nat) (xs : Nat → Int32) (G : Nat → am_K) : am_K := (ak_al 1 (ak_al 0 (ak_il 3 (ak_c (.int 1) (ak_ib (fun x y => x + y) (ak_xv L xs (ak_cv 2 6 K_X8_take (ak_al 2 (ak_al 0 (ak_il 3 (ak_c (.int 1) (ak_ib (fun x y => x + y) (ak_xv L xs (ak_cv 2 7 K_X9_take (ak_ic (fun x y => x = y) (G 803) (ak_c (.int 0) (fun _ _ _ => False)))))))))))))))))
set_option maxHeartbeats 4000000 in
set_option maxRecDepth 100000 in
theorem n_L_734 (Z : lX p l e s m below meth c D b L xs) : am_N (lG p l e s m below meth c D b) 734 (B_L_734 L xs (lG p l e s m below meth c D b)) := by
  have X := Z.1
  unfold B_L_734
  refine as_aload_n X (by decide +kernel : decode code 734 = .ok (.aload_n 1, 1)) rfl ?_
  refine as_aload_n X (by decide +kernel : decode code 735 = .ok (.aload_n 0, 1)) rfl ?_
  refine as_iload_n X (by decide +kernel : decode code 736 = .ok (.iload_n 3, 1)) rfl ?_
  refine as_iconst X (by decide +kernel : decode code 737 = .ok (.iconst 1, 1)) rfl ?_
  refine as_iadd X (by decide +kernel : decode code 738 = .ok (.iadd, 1)) ?_
  refine as_xv Z (by decide +kernel : decode code 739 = .ok (.iaload, 1)) ?_
  refine as_cv X k_X8_take rfl (by decide +kernel : decode code 740 = .ok (.invokevirtual 106, 3)) dn_X8_take ml_L_106 im_X8_take se_X8_take ini_X8 co_X8_take ⟨Nat.le_of_ble_eq_true rfl, Nat.le_of_ble_eq_true rfl⟩ ?_
  refine as_aload_n X (by decide +kernel : decode code 743 = .ok (.aload_n 2, 1)) rfl ?_
  refine as_aload_n X (by decide +kernel : decode code 744 = .ok (.aload_n 0, 1)) rfl ?_
  refine as_iload_n X (by decide +kernel : decode code 745 = .ok (.iload_n 3, 1)) rfl ?_
  refine as_iconst X (by decide +kernel : decode code 746 = .ok (.iconst 1, 1)) rfl ?_
  refine as_iadd X (by decide +kernel : decode code 747 = .ok (.iadd, 1)) ?_
  refine as_xv Z (by decide +kernel : decode code 748 = .ok (.iaload, 1)) ?_
  refine as_cv X k_X9_take rfl (by decide +kernel : decode code 749 = .ok (.invokevirtual 109, 3)) dn_X9_take ml_L_109 im_X9_take se_X9_take ini_X9 co_X9_take ⟨Nat.le_of_ble_eq_true rfl, Nat.le_of_ble_eq_true rfl⟩ ?_
  refine as_ic_eq X (tgt := 803) (by decide +kernel : decode code 752 = .ok (.if_icmp .eq 51, 3)) (by decide) ?_ ?_
  · exact fun _ _ _ h => h
  · refine as_iconst X (by decide +kernel : decode code 755 = .ok (.iconst 0, 1)) rfl ?_
    exact fun _ _ _ h => h.elim
def B_L_757 (L : Nat) (xs : Nat → Int32) (G : Nat → am_K) : am_K := (ak_al 1 (ak_al 0 (ak_il 3 (ak_c (.int 1) (ak_ib (fun x y => x + y) (ak_xv L xs (ak_cv 2 6 K_X8_without (ak_al 2 (ak_al 0 (ak_il 3 (ak_c (.int 1) (ak_ib (fun x y => x + y) (ak_xv L xs (ak_cv 2 7 K_X9_without (ak_ic (fun x y => x = y) (G 803) (ak_c (.int 0) (fun _ _ _ => False)))))))))))))))))
set_option maxHeartbeats 4000000 in
set_option maxRecDepth 100000 in
theorem n_L_757 (Z : lX p l e s m below meth c D b L xs) : am_N (lG p l e s m below meth c D b) 757 (B_L_757 L xs (lG p l e s m below meth c D b)) := by
  have X := Z.1
  unfold B_L_757
  refine as_aload_n X (by decide +kernel : decode code 757 = .ok (.aload_n 1, 1)) rfl ?_
  refine as_aload_n X (by decide +kernel : decode code 758 = .ok (.aload_n 0, 1)) rfl ?_
  refine as_iload_n X (by decide +kernel : decode code 759 = .ok (.iload_n 3, 1)) rfl ?_
  refine as_iconst X (by decide +kernel : decode code 760 = .ok (.iconst 1, 1)) rfl ?_
  refine as_iadd X (by decide +kernel : decode code 761 = .ok (.iadd, 1)) ?_
  refine as_xv Z (by decide +kernel : decode code 762 = .ok (.iaload, 1)) ?_
  refine as_cv X k_X8_without rfl (by decide +kernel : decode code 763 = .ok (.invokevirtual 110, 3)) dn_X8_without ml_L_110 im_X8_without se_X8_without ini_X8 co_X8_without ⟨Nat.le_of_ble_eq_true rfl, Nat.le_of_ble_eq_true rfl⟩ ?_
  refine as_aload_n X (by decide +kernel : decode code 766 = .ok (.aload_n 2, 1)) rfl ?_
  refine as_aload_n X (by decide +kernel : decode code 767 = .ok (.aload_n 0, 1)) rfl ?_
  refine as_iload_n X (by decide +kernel : decode code 768 = .ok (.iload_n 3, 1)) rfl ?_
  refine as_iconst X (by decide +kernel : decode code 769 = .ok (.iconst 1, 1)) rfl ?_
  refine as_iadd X (by decide +kernel : decode code 770 = .ok (.iadd, 1)) ?_
  refine as_xv Z (by decide +kernel : decode code 771 = .ok (.iaload, 1)) ?_
  refine as_cv X k_X9_without rfl (by decide +kernel : decode code 772 = .ok (.invokevirtual 113, 3)) dn_X9_without ml_L_113 im_X9_without se_X9_without ini_X9 co_X9_without ⟨Nat.le_of_ble_eq_true rfl, Nat.le_of_ble_eq_true rfl⟩ ?_
  refine as_ic_eq X (tgt := 803) (by decide +kernel : decode code 775 = .ok (.if_icmp .eq 28, 3)) (by decide) ?_ ?_
  · exact fun _ _ _ h => h
  · refine as_iconst X (by decide +kernel : decode code 778 = .ok (.iconst 0, 1)) rfl ?_
    exact fun _ _ _ h => h.elim
def B_L_780 (L : Nat) (xs : Nat → Int32) (G : Nat → am_K) : am_K := (ak_al 1 (ak_al 0 (ak_il 3 (ak_c (.int 1) (ak_ib (fun x y => x + y) (ak_xv L xs (ak_cv 2 6 K_X8_count (ak_al 2 (ak_al 0 (ak_il 3 (ak_c (.int 1) (ak_ib (fun x y => x + y) (ak_xv L xs (ak_cv 2 7 K_X9_count (ak_ic (fun x y => x = y) (G 803) (ak_c (.int 0) (fun _ _ _ => False)))))))))))))))))
set_option maxHeartbeats 4000000 in
set_option maxRecDepth 100000 in
theorem n_L_780 (Z : lX p l e s m below meth c D b L xs) : am_N (lG p l e s m below meth c D b) 780 (B_L_780 L xs (lG p l e s m below meth c D b)) := by
  have X := Z.1
  unfold B_L_780
  refine as_aload_n X (by decide +kernel : decode code 780 = .ok (.aload_n 1, 1)) rfl ?_
  refine as_aload_n X (by decide +kernel : decode code 781 = .ok (.aload_n 0, 1)) rfl ?_
  refine as_iload_n X (by decide +kernel : decode code 782 = .ok (.iload_n 3, 1)) rfl ?_
  refine as_iconst X (by decide +kernel : decode code 783 = .ok (.iconst 1, 1)) rfl ?_
  refine as_iadd X (by decide +kernel : decode code 784 = .ok (.iadd, 1)) ?_
  refine as_xv Z (by decide +kernel : decode code 785 = .ok (.iaload, 1)) ?_
  refine as_cv X k_X8_count rfl (by decide +kernel : decode code 786 = .ok (.invokevirtual 114, 3)) dn_X8_count ml_L_114 im_X8_count se_X8_count ini_X8 co_X8_count ⟨Nat.le_of_ble_eq_true rfl, Nat.le_of_ble_eq_true rfl⟩ ?_
  refine as_aload_n X (by decide +kernel : decode code 789 = .ok (.aload_n 2, 1)) rfl ?_
  refine as_aload_n X (by decide +kernel : decode code 790 = .ok (.aload_n 0, 1)) rfl ?_
  refine as_iload_n X (by decide +kernel : decode code 791 = .ok (.iload_n 3, 1)) rfl ?_
  refine as_iconst X (by decide +kernel : decode code 792 = .ok (.iconst 1, 1)) rfl ?_
  refine as_iadd X (by decide +kernel : decode code 793 = .ok (.iadd, 1)) ?_
  refine as_xv Z (by decide +kernel : decode code 794 = .ok (.iaload, 1)) ?_
  refine as_cv X k_X9_count rfl (by decide +kernel : decode code 795 = .ok (.invokevirtual 117, 3)) dn_X9_count ml_L_117 im_X9_count se_X9_count ini_X9 co_X9_count ⟨Nat.le_of_ble_eq_true rfl, Nat.le_of_ble_eq_true rfl⟩ ?_
  refine as_ic_eq X (tgt := 803) (by decide +kernel : decode code 798 = .ok (.if_icmp .eq 5, 3)) (by decide) ?_ ?_
  · exact fun _ _ _ h => h
  · refine as_iconst X (by decide +kernel : decode code 801 = .ok (.iconst 0, 1)) rfl ?_
    exact fun _ _ _ h => h.elim
def B_L_803 (L : Nat) (xs : Nat → Int32) (G : Nat → am_K) : am_K := (ak_ii 3 5 (G 18))
set_option maxHeartbeats 4000000 in
set_option maxRecDepth 100000 in
theorem n_L_803 (Z : lX p l e s m below meth c D b L xs) : am_N (lG p l e s m below meth c D b) 803 (B_L_803 L xs (lG p l e s m below meth c D b)) := by
  have X := Z.1
  unfold B_L_803
  refine as_iinc X (by decide +kernel : decode code 803 = .ok (.iinc 3 5, 3)) rfl ?_
  refine as_goto X (tgt := 18) (by decide +kernel : decode code 806 = .ok (.goto (-788), 3)) (by decide) ?_
  exact fun _ _ _ h => h
def B_L_809 (L : Nat) (xs : Nat → Int32) (G : Nat → am_K) : am_K := (ak_c (.int 1) ak_yes)
set_option maxHeartbeats 4000000 in
set_option maxRecDepth 100000 in
theorem n_L_809 (Z : lX p l e s m below meth c D b L xs) : am_N (lG p l e s m below meth c D b) 809 (B_L_809 L xs (lG p l e s m below meth c D b)) := by
  have X := Z.1
  unfold B_L_809
  refine as_iconst X (by decide +kernel : decode code 809 = .ok (.iconst 1, 1)) rfl ?_
  exact as_yes Z (by decide +kernel : decode code 810 = .ok (.ireturn, 1))
def cl_L (L : Nat) (xs : Nat → Int32) (G : Nat → am_K) : Prop := am_N G 0 (B_L_0 L xs G) ∧ am_N G 18 (B_L_18 L xs G) ∧ am_N G 26 (B_L_26 L xs G) ∧ am_N G 148 (B_L_148 L xs G) ∧ am_N G 171 (B_L_171 L xs G) ∧ am_N G 184 (B_L_184 L xs G) ∧ am_N G 197 (B_L_197 L xs G) ∧ am_N G 210 (B_L_210 L xs G) ∧ am_N G 233 (B_L_233 L xs G) ∧ am_N G 246 (B_L_246 L xs G) ∧ am_N G 259 (B_L_259 L xs G) ∧ am_N G 292 (B_L_292 L xs G) ∧ am_N G 325 (B_L_325 L xs G) ∧ am_N G 368 (B_L_368 L xs G) ∧ am_N G 401 (B_L_401 L xs G) ∧ am_N G 424 (B_L_424 L xs G) ∧ am_N G 457 (B_L_457 L xs G) ∧ am_N G 470 (B_L_470 L xs G) ∧ am_N G 483 (B_L_483 L xs G) ∧ am_N G 506 (B_L_506 L xs G) ∧ am_N G 559 (B_L_559 L xs G) ∧ am_N G 612 (B_L_612 L xs G) ∧ am_N G 665 (B_L_665 L xs G) ∧ am_N G 678 (B_L_678 L xs G) ∧ am_N G 701 (B_L_701 L xs G) ∧ am_N G 734 (B_L_734 L xs G) ∧ am_N G 757 (B_L_757 L xs G) ∧ am_N G 780 (B_L_780 L xs G) ∧ am_N G 803 (B_L_803 L xs G) ∧ am_N G 809 (B_L_809 L xs G)
theorem n_L (Z : lX p l e s m below meth c D b L xs) : cl_L L xs (lG p l e s m below meth c D b) := ⟨n_L_0 Z, n_L_18 Z, n_L_26 Z, n_L_148 Z, n_L_171 Z, n_L_184 Z, n_L_197 Z, n_L_210 Z, n_L_233 Z, n_L_246 Z, n_L_259 Z, n_L_292 Z, n_L_325 Z, n_L_368 Z, n_L_401 Z, n_L_424 Z, n_L_457 Z, n_L_470 Z, n_L_483 Z, n_L_506 Z, n_L_559 Z, n_L_612 Z, n_L_665 Z, n_L_678 Z, n_L_701 Z, n_L_734 Z, n_L_757 Z, n_L_780 Z, n_L_803 Z, n_L_809 Z⟩
end LAW
