theorem ini_L : Cond.initialized "CustodyRoomLaw" ∈ lw_G := lw_G_t1 (List.mem_of_getElem? (i := 0) rfl) rfl
theorem ini_X5 : Cond.initialized "CustodyRoom" ∈ lw_G := lw_G_t1 (List.mem_of_getElem? (i := 1) rfl) rfl
theorem ini_X4 : Cond.initialized "CustodyRoom$Stock" ∈ lw_G := lw_G_t1 (List.mem_of_getElem? (i := 2) rfl) rfl
theorem ini_J7 : Cond.initialized "java/util/Arrays" ∈ lw_G := lw_G_t1 (List.mem_of_getElem? (i := 3) rfl) rfl
theorem ini_X2 : Cond.initialized "CustodyRoom$Slips" ∈ lw_G := lw_G_t1 (List.mem_of_getElem? (i := 4) rfl) rfl
theorem ini_X3 : Cond.initialized "CustodyRoom$Standing" ∈ lw_G := lw_G_t1 (List.mem_of_getElem? (i := 5) rfl) rfl
theorem ini_X1 : Cond.initialized "CustodyRoom$Links" ∈ lw_G := lw_G_t1 (List.mem_of_getElem? (i := 6) rfl) rfl
theorem ini_X6 : Cond.initialized "CustodyRoomModel" ∈ lw_G := lw_G_t1 (List.mem_of_getElem? (i := 7) rfl) rfl
theorem ini_J10 : Cond.initialized "java/lang/System" ∈ lw_G := lw_G_t1 (List.mem_of_getElem? (i := 8) rfl) rfl
theorem ini_J9 : Cond.initialized "java/lang/Math" ∈ lw_G := lw_G_t1 (List.mem_of_getElem? (i := 9) rfl) rfl
theorem ini_X0 : Cond.initialized "CustodyRoom$Handing" ∈ lw_G := lw_G_t1 (List.mem_of_getElem? (i := 10) rfl) rfl
theorem ini_J6 : Cond.initialized "java/lang/Integer" ∈ lw_G := lw_G_t1 (List.mem_of_getElem? (i := 11) rfl) rfl
theorem ml_L_9 : Cond.methodLink RL 9 yX5_init ∈ lw_G := lw_G_t1 (List.mem_of_getElem? (i := 14) rfl) rfl
theorem ml_X5_1 : Cond.methodLink RX5 1 objectInit ∈ lw_G := lw_G_t1 (List.mem_of_getElem? (i := 17) rfl) rfl
theorem ml_X5_9 : Cond.methodLinkNest RX5 9 yX4_init "CustodyRoom" ∈ lw_N := lw_N_t1 (List.mem_of_getElem? (i := 22) rfl) rfl
theorem ml_X4_3 : Cond.methodLink RX4 3 objectInit ∈ lw_G := lw_G_t1 (List.mem_of_getElem? (i := 25) rfl) rfl
theorem ml_X4_28 : Cond.methodLink RX4 28 yJ7_fill_53178 ∈ lw_G := lw_G_t1 (List.mem_of_getElem? (i := 26) rfl) rfl
theorem fl_X4_9 : Cond.fieldLink RX4 9 "CustodyRoom$Stock" "keeper" "[Z" ∈ lw_G := lw_G_t1 (List.mem_of_getElem? (i := 29) rfl) rfl
theorem fl_X4_15 : Cond.fieldLink RX4 15 "CustodyRoom$Stock" "cold" "[Z" ∈ lw_G := lw_G_t1 (List.mem_of_getElem? (i := 30) rfl) rfl
theorem fl_X4_18 : Cond.fieldLink RX4 18 "CustodyRoom$Stock" "sealsGiven" "[I" ∈ lw_G := lw_G_t1 (List.mem_of_getElem? (i := 31) rfl) rfl
theorem fl_X4_22 : Cond.fieldLink RX4 22 "CustodyRoom$Stock" "kinds" "[I" ∈ lw_G := lw_G_t1 (List.mem_of_getElem? (i := 32) rfl) rfl
theorem fl_X4_25 : Cond.fieldLink RX4 25 "CustodyRoom$Stock" "weights" "[I" ∈ lw_G := lw_G_t1 (List.mem_of_getElem? (i := 33) rfl) rfl
theorem fl_X3_99 : Cond.fieldLinkNest RX3 99 "CustodyRoom$Stock" "weights" "[I" "CustodyRoom" ∈ lw_N := lw_N_t1 (List.mem_of_getElem? (i := 34) rfl) rfl
theorem fl_X4_34 : Cond.fieldLink RX4 34 "CustodyRoom$Stock" "hands" "I" ∈ lw_G := lw_G_t1 (List.mem_of_getElem? (i := 35) rfl) rfl
theorem fl_X5_143 : Cond.fieldLinkNest RX5 143 "CustodyRoom$Stock" "hands" "I" "CustodyRoom" ∈ lw_N := lw_N_t1 (List.mem_of_getElem? (i := 36) rfl) rfl
theorem fl_X4_38 : Cond.fieldLink RX4 38 "CustodyRoom$Stock" "shelves" "I" ∈ lw_G := lw_G_t1 (List.mem_of_getElem? (i := 37) rfl) rfl
theorem fl_X5_146 : Cond.fieldLinkNest RX5 146 "CustodyRoom$Stock" "shelves" "I" "CustodyRoom" ∈ lw_N := lw_N_t1 (List.mem_of_getElem? (i := 38) rfl) rfl
theorem fl_X4_41 : Cond.fieldLink RX4 41 "CustodyRoom$Stock" "things" "I" ∈ lw_G := lw_G_t1 (List.mem_of_getElem? (i := 39) rfl) rfl
theorem fl_X3_87 : Cond.fieldLinkNest RX3 87 "CustodyRoom$Stock" "things" "I" "CustodyRoom" ∈ lw_N := lw_N_t1 (List.mem_of_getElem? (i := 40) rfl) rfl
theorem fl_X5_149 : Cond.fieldLinkNest RX5 149 "CustodyRoom$Stock" "things" "I" "CustodyRoom" ∈ lw_N := lw_N_t1 (List.mem_of_getElem? (i := 41) rfl) rfl
theorem ml_X5_18 : Cond.methodLinkNest RX5 18 yX2_init "CustodyRoom" ∈ lw_N := lw_N_t1 (List.mem_of_getElem? (i := 63) rfl) rfl
theorem ml_X2_3 : Cond.methodLink RX2 3 objectInit ∈ lw_G := lw_G_t1 (List.mem_of_getElem? (i := 66) rfl) rfl
theorem fl_X2_9 : Cond.fieldLink RX2 9 "CustodyRoom$Slips" "cells" "[I" ∈ lw_G := lw_G_t1 (List.mem_of_getElem? (i := 67) rfl) rfl
theorem fl_X2_15 : Cond.fieldLink RX2 15 "CustodyRoom$Slips" "order" "[I" ∈ lw_G := lw_G_t1 (List.mem_of_getElem? (i := 68) rfl) rfl
theorem fl_X2_18 : Cond.fieldLink RX2 18 "CustodyRoom$Slips" "count" "I" ∈ lw_G := lw_G_t1 (List.mem_of_getElem? (i := 69) rfl) rfl
theorem fl_X3_55 : Cond.fieldLinkNest RX3 55 "CustodyRoom$Slips" "count" "I" "CustodyRoom" ∈ lw_N := lw_N_t1 (List.mem_of_getElem? (i := 70) rfl) rfl
theorem fl_X1_23 : Cond.fieldLinkNest RX1 23 "CustodyRoom$Slips" "count" "I" "CustodyRoom" ∈ lw_N := lw_N_t1 (List.mem_of_getElem? (i := 71) rfl) rfl
theorem fl_X5_152 : Cond.fieldLinkNest RX5 152 "CustodyRoom$Slips" "count" "I" "CustodyRoom" ∈ lw_N := lw_N_t1 (List.mem_of_getElem? (i := 72) rfl) rfl
theorem ml_X5_28 : Cond.methodLinkNest RX5 28 yX3_init "CustodyRoom" ∈ lw_N := lw_N_t1 (List.mem_of_getElem? (i := 82) rfl) rfl
theorem ml_X3_3 : Cond.methodLink RX3 3 objectInit ∈ lw_G := lw_G_t1 (List.mem_of_getElem? (i := 85) rfl) rfl
theorem fl_X3_48 : Cond.fieldLink RX3 48 "CustodyRoom$Standing" "stock" "LCustodyRoom$Stock;" ∈ lw_G := lw_G_t1 (List.mem_of_getElem? (i := 86) rfl) rfl
theorem fl_X3_9 : Cond.fieldLink RX3 9 "CustodyRoom$Standing" "how" "[I" ∈ lw_G := lw_G_t1 (List.mem_of_getElem? (i := 87) rfl) rfl
theorem fl_X3_15 : Cond.fieldLink RX3 15 "CustodyRoom$Standing" "holder" "[I" ∈ lw_G := lw_G_t1 (List.mem_of_getElem? (i := 88) rfl) rfl
theorem fl_X3_18 : Cond.fieldLink RX3 18 "CustodyRoom$Standing" "weight" "[I" ∈ lw_G := lw_G_t1 (List.mem_of_getElem? (i := 89) rfl) rfl
theorem fl_X3_21 : Cond.fieldLink RX3 21 "CustodyRoom$Standing" "seal" "[I" ∈ lw_G := lw_G_t1 (List.mem_of_getElem? (i := 90) rfl) rfl
theorem fl_X3_24 : Cond.fieldLink RX3 24 "CustodyRoom$Standing" "dueDay" "[I" ∈ lw_G := lw_G_t1 (List.mem_of_getElem? (i := 91) rfl) rfl
theorem fl_X3_27 : Cond.fieldLink RX3 27 "CustodyRoom$Standing" "keepDay" "[I" ∈ lw_G := lw_G_t1 (List.mem_of_getElem? (i := 92) rfl) rfl
theorem fl_X3_30 : Cond.fieldLink RX3 30 "CustodyRoom$Standing" "doomed" "[I" ∈ lw_G := lw_G_t1 (List.mem_of_getElem? (i := 93) rfl) rfl
theorem fl_X3_33 : Cond.fieldLink RX3 33 "CustodyRoom$Standing" "trials" "[I" ∈ lw_G := lw_G_t1 (List.mem_of_getElem? (i := 94) rfl) rfl
theorem fl_X3_36 : Cond.fieldLink RX3 36 "CustodyRoom$Standing" "inside" "[I" ∈ lw_G := lw_G_t1 (List.mem_of_getElem? (i := 95) rfl) rfl
theorem fl_X3_39 : Cond.fieldLink RX3 39 "CustodyRoom$Standing" "origin" "[I" ∈ lw_G := lw_G_t1 (List.mem_of_getElem? (i := 96) rfl) rfl
theorem fl_X3_42 : Cond.fieldLink RX3 42 "CustodyRoom$Standing" "lying" "[I" ∈ lw_G := lw_G_t1 (List.mem_of_getElem? (i := 97) rfl) rfl
theorem fl_X3_45 : Cond.fieldLink RX3 45 "CustodyRoom$Standing" "sealUsed" "[I" ∈ lw_G := lw_G_t1 (List.mem_of_getElem? (i := 98) rfl) rfl
theorem fl_X3_108 : Cond.fieldLink RX3 108 "CustodyRoom$Standing" "t" "I" ∈ lw_G := lw_G_t1 (List.mem_of_getElem? (i := 99) rfl) rfl
theorem fl_X3_111 : Cond.fieldLink RX3 111 "CustodyRoom$Standing" "a" "I" ∈ lw_G := lw_G_t1 (List.mem_of_getElem? (i := 100) rfl) rfl
theorem fl_X3_114 : Cond.fieldLink RX3 114 "CustodyRoom$Standing" "b" "I" ∈ lw_G := lw_G_t1 (List.mem_of_getElem? (i := 101) rfl) rfl
theorem fl_X3_117 : Cond.fieldLink RX3 117 "CustodyRoom$Standing" "c" "I" ∈ lw_G := lw_G_t1 (List.mem_of_getElem? (i := 102) rfl) rfl
theorem fl_X3_120 : Cond.fieldLink RX3 120 "CustodyRoom$Standing" "d" "I" ∈ lw_G := lw_G_t1 (List.mem_of_getElem? (i := 103) rfl) rfl
theorem fl_X3_123 : Cond.fieldLink RX3 123 "CustodyRoom$Standing" "day" "I" ∈ lw_G := lw_G_t1 (List.mem_of_getElem? (i := 104) rfl) rfl
theorem ml_X5_37 : Cond.methodLinkNest RX5 37 yX1_init "CustodyRoom" ∈ lw_N := lw_N_t1 (List.mem_of_getElem? (i := 146) rfl) rfl
theorem ml_X1_3 : Cond.methodLink RX1 3 objectInit ∈ lw_G := lw_G_t1 (List.mem_of_getElem? (i := 149) rfl) rfl
theorem fl_X1_15 : Cond.fieldLink RX1 15 "CustodyRoom$Links" "slips" "LCustodyRoom$Slips;" ∈ lw_G := lw_G_t1 (List.mem_of_getElem? (i := 150) rfl) rfl
theorem fl_X1_9 : Cond.fieldLink RX1 9 "CustodyRoom$Links" "backward" "[I" ∈ lw_G := lw_G_t1 (List.mem_of_getElem? (i := 151) rfl) rfl
theorem fl_X1_19 : Cond.fieldLink RX1 19 "CustodyRoom$Links" "length" "I" ∈ lw_G := lw_G_t1 (List.mem_of_getElem? (i := 152) rfl) rfl
theorem fl_X5_10 : Cond.fieldLink RX5 10 "CustodyRoom" "stock" "LCustodyRoom$Stock;" ∈ lw_G := lw_G_t1 (List.mem_of_getElem? (i := 162) rfl) rfl
theorem fl_X5_19 : Cond.fieldLink RX5 19 "CustodyRoom" "slips" "LCustodyRoom$Slips;" ∈ lw_G := lw_G_t1 (List.mem_of_getElem? (i := 163) rfl) rfl
theorem fl_X5_23 : Cond.fieldLink RX5 23 "CustodyRoom" "image" "LCustodyRoom$Slips;" ∈ lw_G := lw_G_t1 (List.mem_of_getElem? (i := 164) rfl) rfl
theorem fl_X5_31 : Cond.fieldLink RX5 31 "CustodyRoom" "standing" "LCustodyRoom$Standing;" ∈ lw_G := lw_G_t1 (List.mem_of_getElem? (i := 165) rfl) rfl
theorem fl_X5_40 : Cond.fieldLink RX5 40 "CustodyRoom" "links" "LCustodyRoom$Links;" ∈ lw_G := lw_G_t1 (List.mem_of_getElem? (i := 166) rfl) rfl
theorem fl_X5_46 : Cond.fieldLink RX5 46 "CustodyRoom" "handings" "[LCustodyRoom$Handing;" ∈ lw_G := lw_G_t1 (List.mem_of_getElem? (i := 167) rfl) rfl
theorem fl_X5_50 : Cond.fieldLink RX5 50 "CustodyRoom" "draft" "[I" ∈ lw_G := lw_G_t1 (List.mem_of_getElem? (i := 168) rfl) rfl
theorem fl_X5_97 : Cond.fieldLink RX5 97 "CustodyRoom" "handingCount" "I" ∈ lw_G := lw_G_t1 (List.mem_of_getElem? (i := 169) rfl) rfl
theorem fl_X5_155 : Cond.fieldLink RX5 155 "CustodyRoom" "frozen" "Z" ∈ lw_G := lw_G_t1 (List.mem_of_getElem? (i := 170) rfl) rfl
theorem fl_X5_83 : Cond.fieldLink RX5 83 "CustodyRoom" "now" "I" ∈ lw_G := lw_G_t1 (List.mem_of_getElem? (i := 171) rfl) rfl
theorem fl_X5_54 : Cond.fieldLink RX5 54 "CustodyRoom" "faultTold" "I" ∈ lw_G := lw_G_t1 (List.mem_of_getElem? (i := 172) rfl) rfl
theorem fl_X5_58 : Cond.fieldLink RX5 58 "CustodyRoom" "slipBlamed" "I" ∈ lw_G := lw_G_t1 (List.mem_of_getElem? (i := 173) rfl) rfl
theorem ml_L_13 : Cond.methodLink RL 13 yX5_hand ∈ lw_G := lw_G_t1 (List.mem_of_getElem? (i := 199) rfl) rfl
theorem ml_X5_61 : Cond.methodLinkNest RX5 61 yX4_addHand "CustodyRoom" ∈ lw_N := lw_N_t1 (List.mem_of_getElem? (i := 203) rfl) rfl
theorem ml_L_18 : Cond.methodLink RL 18 yX5_shelf ∈ lw_G := lw_G_t1 (List.mem_of_getElem? (i := 207) rfl) rfl
theorem ml_X5_65 : Cond.methodLinkNest RX5 65 yX4_addShelf "CustodyRoom" ∈ lw_N := lw_N_t1 (List.mem_of_getElem? (i := 211) rfl) rfl
theorem ml_L_22 : Cond.methodLink RL 22 yX5_seals ∈ lw_G := lw_G_t1 (List.mem_of_getElem? (i := 215) rfl) rfl
theorem ml_X5_68 : Cond.methodLinkNest RX5 68 yX2_useSealBeyond "CustodyRoom" ∈ lw_N := lw_N_t1 (List.mem_of_getElem? (i := 219) rfl) rfl
theorem ml_X2_36 : Cond.methodLink RX2 36 yX2_cell ∈ lw_G := lw_G_t1 (List.mem_of_getElem? (i := 223) rfl) rfl
theorem ml_X2_22 : Cond.methodLink RX2 22 yX2_has ∈ lw_G := lw_G_t1 (List.mem_of_getElem? (i := 227) rfl) rfl
theorem ml_X5_72 : Cond.methodLinkNest RX5 72 yX4_giveOut "CustodyRoom" ∈ lw_N := lw_N_t1 (List.mem_of_getElem? (i := 231) rfl) rfl
theorem ml_L_27 : Cond.methodLink RL 27 yX5_thing ∈ lw_G := lw_G_t1 (List.mem_of_getElem? (i := 235) rfl) rfl
theorem cn_X5_76 : Cond.constant RX5 76 1000000 ∈ lw_G := lw_G_t1 (List.mem_of_getElem? (i := 239) rfl) rfl
theorem ml_X5_77 : Cond.methodLinkNest RX5 77 yX4_addThing "CustodyRoom" ∈ lw_N := lw_N_t2 (List.mem_of_getElem? (i := 0) rfl) rfl
theorem ml_L_32 : Cond.methodLink RL 32 yX5_pass ∈ lw_G := lw_G_t2 (List.mem_of_getElem? (i := 4) rfl) rfl
theorem cn_X5_81 : Cond.constant RX5 81 100000 ∈ lw_G := lw_G_t2 (List.mem_of_getElem? (i := 8) rfl) rfl
theorem cn_X5_82 : Cond.constant RX5 82 100000000 ∈ lw_G := lw_G_t2 (List.mem_of_getElem? (i := 9) rfl) rfl
theorem ml_L_37 : Cond.methodLink RL 37 yX5_slip ∈ lw_G := lw_G_t2 (List.mem_of_getElem? (i := 10) rfl) rfl
theorem ml_X5_86 : Cond.methodLink RX5 86 yX5_write ∈ lw_G := lw_G_t2 (List.mem_of_getElem? (i := 14) rfl) rfl
theorem ml_X5_204 : Cond.methodLink RX5 204 yX5_faultAhead ∈ lw_G := lw_G_t2 (List.mem_of_getElem? (i := 18) rfl) rfl
theorem ml_X5_90 : Cond.methodLinkNest RX5 90 yX4_isThing "CustodyRoom" ∈ lw_N := lw_N_t2 (List.mem_of_getElem? (i := 22) rfl) rfl
theorem ml_X5_208 : Cond.methodLinkNest RX5 208 yX2_add "CustodyRoom" ∈ lw_N := lw_N_t2 (List.mem_of_getElem? (i := 26) rfl) rfl
theorem ml_X2_26 : Cond.methodLink RX2 26 arraycopyName ∈ lw_G := lw_G_t2 (List.mem_of_getElem? (i := 30) rfl) rfl
theorem ml_X2_32 : Cond.methodLink RX2 32 yX2_putInOrder ∈ lw_G := lw_G_t2 (List.mem_of_getElem? (i := 33) rfl) rfl
theorem ml_X5_190 : Cond.methodLinkNest RX5 190 yX3_firstUndone "CustodyRoom" ∈ lw_N := lw_N_t2 (List.mem_of_getElem? (i := 37) rfl) rfl
theorem ml_X3_52 : Cond.methodLink RX3 52 yX3_clear ∈ lw_G := lw_G_t2 (List.mem_of_getElem? (i := 41) rfl) rfl
theorem ml_X3_93 : Cond.methodLink RX3 93 yJ7_fill_53178 ∈ lw_G := lw_G_t2 (List.mem_of_getElem? (i := 45) rfl) rfl
theorem ml_X3_102 : Cond.methodLink RX3 102 arraycopyName ∈ lw_G := lw_G_t2 (List.mem_of_getElem? (i := 46) rfl) rfl
theorem ml_X3_61 : Cond.methodLinkNest RX3 61 yX2_inOrder "CustodyRoom" ∈ lw_N := lw_N_t2 (List.mem_of_getElem? (i := 47) rfl) rfl
theorem ml_X3_65 : Cond.methodLink RX3 65 yX3_tell ∈ lw_G := lw_G_t2 (List.mem_of_getElem? (i := 51) rfl) rfl
theorem ml_X3_69 : Cond.methodLinkNest RX3 69 yX2_cell "CustodyRoom" ∈ lw_N := lw_N_t2 (List.mem_of_getElem? (i := 55) rfl) rfl
theorem ml_X3_73 : Cond.methodLinkNest RX3 73 yX4_isThing "CustodyRoom" ∈ lw_N := lw_N_t2 (List.mem_of_getElem? (i := 56) rfl) rfl
theorem ml_X3_90 : Cond.methodLink RX3 90 yX3_isKept ∈ lw_G := lw_G_t2 (List.mem_of_getElem? (i := 57) rfl) rfl
theorem ml_X3_126 : Cond.methodLink RX3 126 yX3_comeIn ∈ lw_G := lw_G_t2 (List.mem_of_getElem? (i := 61) rfl) rfl
theorem ml_X3_184 : Cond.methodLinkNest RX3 184 yX4_isOfKind "CustodyRoom" ∈ lw_N := lw_N_t2 (List.mem_of_getElem? (i := 65) rfl) rfl
theorem ml_X3_188 : Cond.methodLink RX3 188 yX3_isMoneyBag ∈ lw_G := lw_G_t2 (List.mem_of_getElem? (i := 69) rfl) rfl
theorem ml_X3_191 : Cond.methodLink RX3 191 yX3_keepersServe ∈ lw_G := lw_G_t2 (List.mem_of_getElem? (i := 73) rfl) rfl
theorem ml_X3_239 : Cond.methodLinkNest RX3 239 yX4_isKeeper "CustodyRoom" ∈ lw_N := lw_N_t2 (List.mem_of_getElem? (i := 77) rfl) rfl
theorem ml_X3_195 : Cond.methodLinkNest RX3 195 yX4_isHand "CustodyRoom" ∈ lw_N := lw_N_t2 (List.mem_of_getElem? (i := 81) rfl) rfl
theorem ml_X3_198 : Cond.methodLink RX3 198 yX3_mayLieAt ∈ lw_G := lw_G_t2 (List.mem_of_getElem? (i := 85) rfl) rfl
theorem ml_X3_243 : Cond.methodLinkNest RX3 243 yX4_isPlace "CustodyRoom" ∈ lw_N := lw_N_t2 (List.mem_of_getElem? (i := 89) rfl) rfl
theorem ml_X3_246 : Cond.methodLinkNest RX3 246 yX4_isColdPlace "CustodyRoom" ∈ lw_N := lw_N_t2 (List.mem_of_getElem? (i := 93) rfl) rfl
theorem ml_X3_201 : Cond.methodLink RX3 201 yX3_move ∈ lw_G := lw_G_t2 (List.mem_of_getElem? (i := 97) rfl) rfl
theorem ml_X3_249 : Cond.methodLink RX3 249 yX3_register ∈ lw_G := lw_G_t2 (List.mem_of_getElem? (i := 101) rfl) rfl
theorem ml_X3_130 : Cond.methodLink RX3 130 yX3_goOut ∈ lw_G := lw_G_t2 (List.mem_of_getElem? (i := 105) rfl) rfl
theorem ml_X3_205 : Cond.methodLink RX3 205 yX3_isDay ∈ lw_G := lw_G_t2 (List.mem_of_getElem? (i := 109) rfl) rfl
theorem cn_X3_242 : Cond.constant RX3 242 100000 ∈ lw_G := lw_G_t2 (List.mem_of_getElem? (i := 113) rfl) rfl
theorem ml_X3_133 : Cond.methodLink RX3 133 yX3_goOn ∈ lw_G := lw_G_t2 (List.mem_of_getElem? (i := 114) rfl) rfl
theorem ml_X3_208 : Cond.methodLink RX3 208 yX3_isAt ∈ lw_G := lw_G_t2 (List.mem_of_getElem? (i := 118) rfl) rfl
theorem ml_X3_136 : Cond.methodLink RX3 136 yX3_comeBack ∈ lw_G := lw_G_t2 (List.mem_of_getElem? (i := 122) rfl) rfl
theorem ml_X3_139 : Cond.methodLink RX3 139 yX3_putElsewhere ∈ lw_G := lw_G_t2 (List.mem_of_getElem? (i := 126) rfl) rfl
theorem ml_X3_142 : Cond.methodLink RX3 142 yX3_goInto ∈ lw_G := lw_G_t2 (List.mem_of_getElem? (i := 130) rfl) rfl
theorem ml_X3_212 : Cond.methodLinkNest RX3 212 yX4_isBag "CustodyRoom" ∈ lw_N := lw_N_t2 (List.mem_of_getElem? (i := 134) rfl) rfl
theorem ml_X4_44 : Cond.methodLink RX4 44 yX4_isOfKind ∈ lw_G := lw_G_t2 (List.mem_of_getElem? (i := 138) rfl) rfl
theorem ml_X3_215 : Cond.methodLink RX3 215 yX3_deepestIn ∈ lw_G := lw_G_t2 (List.mem_of_getElem? (i := 139) rfl) rfl
theorem ml_X3_252 : Cond.methodLink RX3 252 yX3_stepsUpTo ∈ lw_G := lw_G_t2 (List.mem_of_getElem? (i := 143) rfl) rfl
theorem ml_X3_218 : Cond.methodLink RX3 218 yX3_bagAround ∈ lw_G := lw_G_t2 (List.mem_of_getElem? (i := 147) rfl) rfl
theorem ml_X3_255 : Cond.methodLink RX3 255 yJ9_max_7cf53 ∈ lw_G := lw_G_t2 (List.mem_of_getElem? (i := 151) rfl) rfl
theorem ml_X3_145 : Cond.methodLink RX3 145 yX3_comeFrom ∈ lw_G := lw_G_t2 (List.mem_of_getElem? (i := 154) rfl) rfl
theorem ml_X3_148 : Cond.methodLink RX3 148 yX3_close ∈ lw_G := lw_G_t2 (List.mem_of_getElem? (i := 158) rfl) rfl
theorem ml_X3_221 : Cond.methodLinkNest RX3 221 yX4_isGivenOut "CustodyRoom" ∈ lw_N := lw_N_t2 (List.mem_of_getElem? (i := 162) rfl) rfl
theorem ml_X3_151 : Cond.methodLink RX3 151 yX3_unseal ∈ lw_G := lw_G_t2 (List.mem_of_getElem? (i := 166) rfl) rfl
theorem ml_X3_154 : Cond.methodLink RX3 154 yX3_look ∈ lw_G := lw_G_t2 (List.mem_of_getElem? (i := 170) rfl) rfl
theorem ml_X3_157 : Cond.methodLink RX3 157 yX3_takePart ∈ lw_G := lw_G_t2 (List.mem_of_getElem? (i := 174) rfl) rfl
theorem ml_X3_224 : Cond.methodLink RX3 224 yX3_mayBeTaken ∈ lw_G := lw_G_t2 (List.mem_of_getElem? (i := 178) rfl) rfl
theorem ml_X3_230 : Cond.methodLink RX3 230 yX3_isFree ∈ lw_G := lw_G_t2 (List.mem_of_getElem? (i := 182) rfl) rfl
theorem ml_X3_227 : Cond.methodLink RX3 227 yX3_bringToHand ∈ lw_G := lw_G_t2 (List.mem_of_getElem? (i := 186) rfl) rfl
theorem ml_X3_160 : Cond.methodLink RX3 160 yX3_takeCopy ∈ lw_G := lw_G_t2 (List.mem_of_getElem? (i := 190) rfl) rfl
theorem ml_X3_163 : Cond.methodLink RX3 163 yX3_weigh ∈ lw_G := lw_G_t2 (List.mem_of_getElem? (i := 194) rfl) rfl
theorem ml_X3_166 : Cond.methodLink RX3 166 yX3_keep ∈ lw_G := lw_G_t2 (List.mem_of_getElem? (i := 198) rfl) rfl
theorem ml_X3_169 : Cond.methodLink RX3 169 yX3_doom ∈ lw_G := lw_G_t2 (List.mem_of_getElem? (i := 202) rfl) rfl
theorem ml_X3_172 : Cond.methodLink RX3 172 yX3_beginTrial ∈ lw_G := lw_G_t2 (List.mem_of_getElem? (i := 206) rfl) rfl
theorem ml_X3_233 : Cond.methodLink RX3 233 yX3_goesOn ∈ lw_G := lw_G_t2 (List.mem_of_getElem? (i := 210) rfl) rfl
theorem ml_X3_175 : Cond.methodLink RX3 175 yX3_endTrial ∈ lw_G := lw_G_t2 (List.mem_of_getElem? (i := 214) rfl) rfl
theorem ml_X3_178 : Cond.methodLink RX3 178 yX3_destroy ∈ lw_G := lw_G_t2 (List.mem_of_getElem? (i := 218) rfl) rfl
theorem ml_X3_236 : Cond.methodLink RX3 236 yX3_isAnyOfItInHand ∈ lw_G := lw_G_t2 (List.mem_of_getElem? (i := 222) rfl) rfl
theorem ml_X3_260 : Cond.methodLink RX3 260 yX3_isOf ∈ lw_G := lw_G_t2 (List.mem_of_getElem? (i := 226) rfl) rfl
theorem ml_X3_181 : Cond.methodLink RX3 181 yX3_find ∈ lw_G := lw_G_t2 (List.mem_of_getElem? (i := 230) rfl) rfl
theorem ml_X5_212 : Cond.methodLinkNest RX5 212 yX2_dropLast "CustodyRoom" ∈ lw_N := lw_N_t2 (List.mem_of_getElem? (i := 234) rfl) rfl
theorem ml_L_42 : Cond.methodLink RL 42 yX5_fault ∈ lw_G := lw_G_t2 (List.mem_of_getElem? (i := 238) rfl) rfl
theorem ml_L_46 : Cond.methodLink RL 46 yX5_handing ∈ lw_G := lw_G_t3 (List.mem_of_getElem? (i := 2) rfl) rfl
theorem ml_X5_94 : Cond.methodLinkNest RX5 94 yX4_isHand "CustodyRoom" ∈ lw_N := lw_N_t3 (List.mem_of_getElem? (i := 6) rfl) rfl
theorem ml_X5_100 : Cond.methodLinkNest RX5 100 yX0_init "CustodyRoom" ∈ lw_N := lw_N_t3 (List.mem_of_getElem? (i := 8) rfl) rfl
theorem ml_X0_3 : Cond.methodLink RX0 3 objectInit ∈ lw_G := lw_G_t3 (List.mem_of_getElem? (i := 11) rfl) rfl
theorem fl_X0_18 : Cond.fieldLink RX0 18 "CustodyRoom$Handing" "thing" "I" ∈ lw_G := lw_G_t3 (List.mem_of_getElem? (i := 12) rfl) rfl
theorem fl_X5_127 : Cond.fieldLinkNest RX5 127 "CustodyRoom$Handing" "thing" "I" "CustodyRoom" ∈ lw_N := lw_N_t3 (List.mem_of_getElem? (i := 13) rfl) rfl
theorem fl_X0_21 : Cond.fieldLink RX0 21 "CustodyRoom$Handing" "giver" "I" ∈ lw_G := lw_G_t3 (List.mem_of_getElem? (i := 14) rfl) rfl
theorem fl_X5_130 : Cond.fieldLinkNest RX5 130 "CustodyRoom$Handing" "giver" "I" "CustodyRoom" ∈ lw_N := lw_N_t3 (List.mem_of_getElem? (i := 15) rfl) rfl
theorem fl_X0_24 : Cond.fieldLink RX0 24 "CustodyRoom$Handing" "taker" "I" ∈ lw_G := lw_G_t3 (List.mem_of_getElem? (i := 16) rfl) rfl
theorem fl_X5_133 : Cond.fieldLinkNest RX5 133 "CustodyRoom$Handing" "taker" "I" "CustodyRoom" ∈ lw_N := lw_N_t3 (List.mem_of_getElem? (i := 17) rfl) rfl
theorem fl_X0_27 : Cond.fieldLink RX0 27 "CustodyRoom$Handing" "minute" "I" ∈ lw_G := lw_G_t3 (List.mem_of_getElem? (i := 18) rfl) rfl
theorem fl_X5_110 : Cond.fieldLinkNest RX5 110 "CustodyRoom$Handing" "minute" "I" "CustodyRoom" ∈ lw_N := lw_N_t3 (List.mem_of_getElem? (i := 19) rfl) rfl
theorem fl_X0_9 : Cond.fieldLink RX0 9 "CustodyRoom$Handing" "giverYes" "I" ∈ lw_G := lw_G_t3 (List.mem_of_getElem? (i := 20) rfl) rfl
theorem fl_X0_15 : Cond.fieldLink RX0 15 "CustodyRoom$Handing" "takerYes" "I" ∈ lw_G := lw_G_t3 (List.mem_of_getElem? (i := 21) rfl) rfl
theorem fl_X0_30 : Cond.fieldLink RX0 30 "CustodyRoom$Handing" "ended" "Z" ∈ lw_G := lw_G_t3 (List.mem_of_getElem? (i := 22) rfl) rfl
theorem fl_X5_136 : Cond.fieldLinkNest RX5 136 "CustodyRoom$Handing" "ended" "Z" "CustodyRoom" ∈ lw_N := lw_N_t3 (List.mem_of_getElem? (i := 23) rfl) rfl
theorem ml_L_51 : Cond.methodLink RL 51 yX5_yes ∈ lw_G := lw_G_t3 (List.mem_of_getElem? (i := 39) rfl) rfl
theorem ml_X5_103 : Cond.methodLink RX5 103 yX5_findHanding ∈ lw_G := lw_G_t3 (List.mem_of_getElem? (i := 43) rfl) rfl
theorem ml_X5_107 : Cond.methodLinkNest RX5 107 yX0_awaits "CustodyRoom" ∈ lw_N := lw_N_t3 (List.mem_of_getElem? (i := 47) rfl) rfl
theorem ml_X5_113 : Cond.methodLinkNest RX5 113 yX0_setYes "CustodyRoom" ∈ lw_N := lw_N_t3 (List.mem_of_getElem? (i := 51) rfl) rfl
theorem ml_X5_116 : Cond.methodLinkNest RX5 116 yX0_isAgreed "CustodyRoom" ∈ lw_N := lw_N_t3 (List.mem_of_getElem? (i := 55) rfl) rfl
theorem ml_X5_120 : Cond.methodLinkNest RX5 120 yX0_isLate "CustodyRoom" ∈ lw_N := lw_N_t3 (List.mem_of_getElem? (i := 59) rfl) rfl
theorem ml_X0_40 : Cond.methodLink RX0 40 yX0_laterYes ∈ lw_G := lw_G_t3 (List.mem_of_getElem? (i := 63) rfl) rfl
theorem ml_X0_34 : Cond.methodLink RX0 34 yJ9_max_7cf53 ∈ lw_G := lw_G_t3 (List.mem_of_getElem? (i := 67) rfl) rfl
theorem ml_X5_123 : Cond.methodLinkNest RX5 123 yX0_laterYes "CustodyRoom" ∈ lw_N := lw_N_t3 (List.mem_of_getElem? (i := 68) rfl) rfl
theorem ml_L_56 : Cond.methodLink RL 56 yX5_no ∈ lw_G := lw_G_t3 (List.mem_of_getElem? (i := 69) rfl) rfl
theorem ml_X5_140 : Cond.methodLinkNest RX5 140 yX0_isBetween "CustodyRoom" ∈ lw_N := lw_N_t3 (List.mem_of_getElem? (i := 73) rfl) rfl
theorem ml_L_60 : Cond.methodLink RL 60 yX5_about ∈ lw_G := lw_G_t3 (List.mem_of_getElem? (i := 77) rfl) rfl
theorem ml_L_64 : Cond.methodLink RL 64 yX5_slipOf ∈ lw_G := lw_G_t3 (List.mem_of_getElem? (i := 81) rfl) rfl
theorem ml_X5_158 : Cond.methodLinkNest RX5 158 yX2_has "CustodyRoom" ∈ lw_N := lw_N_t3 (List.mem_of_getElem? (i := 85) rfl) rfl
theorem ml_X5_161 : Cond.methodLinkNest RX5 161 yX2_isLate "CustodyRoom" ∈ lw_N := lw_N_t3 (List.mem_of_getElem? (i := 86) rfl) rfl
theorem ml_X5_163 : Cond.methodLinkNest RX5 163 yX2_cell "CustodyRoom" ∈ lw_N := lw_N_t3 (List.mem_of_getElem? (i := 90) rfl) rfl
theorem ml_L_68 : Cond.methodLink RL 68 yX5_where ∈ lw_G := lw_G_t3 (List.mem_of_getElem? (i := 91) rfl) rfl
theorem ml_X5_166 : Cond.methodLinkNest RX5 166 yX3_tellKnown "CustodyRoom" ∈ lw_N := lw_N_t3 (List.mem_of_getElem? (i := 95) rfl) rfl
theorem ml_X5_170 : Cond.methodLinkNest RX5 170 yX3_answer "CustodyRoom" ∈ lw_N := lw_N_t3 (List.mem_of_getElem? (i := 99) rfl) rfl
theorem ml_X3_79 : Cond.methodLink RX3 79 yX3_outermost ∈ lw_G := lw_G_t3 (List.mem_of_getElem? (i := 103) rfl) rfl
theorem ml_X3_82 : Cond.methodLink RX3 82 yJ6_bitCount_0f7a4 ∈ lw_G := lw_G_t3 (List.mem_of_getElem? (i := 107) rfl) rfl
theorem cn_J6_265 : Cond.constant RJ6 265 1431655765 ∈ lw_G := lw_G_t3 (List.mem_of_getElem? (i := 110) rfl) rfl
theorem cn_J6_266 : Cond.constant RJ6 266 858993459 ∈ lw_G := lw_G_t3 (List.mem_of_getElem? (i := 111) rfl) rfl
theorem cn_J6_267 : Cond.constant RJ6 267 252645135 ∈ lw_G := lw_G_t3 (List.mem_of_getElem? (i := 112) rfl) rfl
theorem ml_L_72 : Cond.methodLink RL 72 yX5_chain ∈ lw_G := lw_G_t3 (List.mem_of_getElem? (i := 113) rfl) rfl
theorem ml_X5_173 : Cond.methodLinkNest RX5 173 yX1_follow "CustodyRoom" ∈ lw_N := lw_N_t3 (List.mem_of_getElem? (i := 117) rfl) rfl
theorem ml_X1_28 : Cond.methodLinkNest RX1 28 yX2_inOrder "CustodyRoom" ∈ lw_N := lw_N_t3 (List.mem_of_getElem? (i := 121) rfl) rfl
theorem ml_X1_32 : Cond.methodLinkNest RX1 32 yX2_isBirth "CustodyRoom" ∈ lw_N := lw_N_t3 (List.mem_of_getElem? (i := 122) rfl) rfl
theorem ml_X1_36 : Cond.methodLink RX1 36 yX1_append ∈ lw_G := lw_G_t3 (List.mem_of_getElem? (i := 126) rfl) rfl
theorem ml_X1_40 : Cond.methodLinkNest RX1 40 yX2_cell "CustodyRoom" ∈ lw_N := lw_N_t3 (List.mem_of_getElem? (i := 130) rfl) rfl
theorem ml_X1_44 : Cond.methodLinkNest RX1 44 yX2_isMoveOf "CustodyRoom" ∈ lw_N := lw_N_t3 (List.mem_of_getElem? (i := 131) rfl) rfl
theorem ml_X5_177 : Cond.methodLinkNest RX5 177 yX1_link "CustodyRoom" ∈ lw_N := lw_N_t3 (List.mem_of_getElem? (i := 135) rfl) rfl
theorem ml_L_76 : Cond.methodLink RL 76 yX5_gap ∈ lw_G := lw_G_t3 (List.mem_of_getElem? (i := 139) rfl) rfl
theorem ml_X5_181 : Cond.methodLinkNest RX5 181 yX1_endOfGap "CustodyRoom" ∈ lw_N := lw_N_t3 (List.mem_of_getElem? (i := 143) rfl) rfl
theorem ml_X1_47 : Cond.methodLink RX1 47 yX1_link ∈ lw_G := lw_G_t3 (List.mem_of_getElem? (i := 147) rfl) rfl
theorem ml_L_80 : Cond.methodLink RL 80 yX5_breaks ∈ lw_G := lw_G_t3 (List.mem_of_getElem? (i := 148) rfl) rfl
theorem ml_X5_184 : Cond.methodLinkNest RX5 184 yX4_isBag "CustodyRoom" ∈ lw_N := lw_N_t3 (List.mem_of_getElem? (i := 152) rfl) rfl
theorem ml_X5_187 : Cond.methodLinkNest RX5 187 yX2_firstBreak "CustodyRoom" ∈ lw_N := lw_N_t3 (List.mem_of_getElem? (i := 153) rfl) rfl
theorem ml_L_84 : Cond.methodLink RL 84 yX5_due ∈ lw_G := lw_G_t3 (List.mem_of_getElem? (i := 157) rfl) rfl
theorem ml_X5_194 : Cond.methodLinkNest RX5 194 yX3_thingOfDay "CustodyRoom" ∈ lw_N := lw_N_t3 (List.mem_of_getElem? (i := 161) rfl) rfl
theorem ml_L_88 : Cond.methodLink RL 88 yX5_freeze ∈ lw_G := lw_G_t3 (List.mem_of_getElem? (i := 165) rfl) rfl
theorem ml_X5_197 : Cond.methodLinkNest RX5 197 yX2_copyFrom "CustodyRoom" ∈ lw_N := lw_N_t3 (List.mem_of_getElem? (i := 169) rfl) rfl
theorem ml_L_93 : Cond.methodLink RL 93 yX5_alter ∈ lw_G := lw_G_t3 (List.mem_of_getElem? (i := 173) rfl) rfl
theorem ml_X5_200 : Cond.methodLinkNest RX5 200 yX2_alterCell "CustodyRoom" ∈ lw_N := lw_N_t3 (List.mem_of_getElem? (i := 177) rfl) rfl
theorem ml_L_98 : Cond.methodLink RL 98 yX5_check ∈ lw_G := lw_G_t3 (List.mem_of_getElem? (i := 181) rfl) rfl
theorem ml_L_102 : Cond.methodLink RL 102 yX5_thaw ∈ lw_G := lw_G_t3 (List.mem_of_getElem? (i := 185) rfl) rfl
theorem ml_L_12 : Cond.methodLink RL 12 yX6_init ∈ lw_G := lw_G_t3 (List.mem_of_getElem? (i := 191) rfl) rfl
theorem ml_X6_1 : Cond.methodLink RX6 1 objectInit ∈ lw_G := lw_G_t3 (List.mem_of_getElem? (i := 194) rfl) rfl
theorem ml_X6_90 : Cond.methodLink RX6 90 yX6_begin ∈ lw_G := lw_G_t3 (List.mem_of_getElem? (i := 195) rfl) rfl
theorem fl_X6_100 : Cond.fieldLink RX6 100 "CustodyRoomModel" "hands" "I" ∈ lw_G := lw_G_t3 (List.mem_of_getElem? (i := 199) rfl) rfl
theorem fl_X6_103 : Cond.fieldLink RX6 103 "CustodyRoomModel" "shelves" "I" ∈ lw_G := lw_G_t3 (List.mem_of_getElem? (i := 200) rfl) rfl
theorem fl_X6_93 : Cond.fieldLink RX6 93 "CustodyRoomModel" "things" "I" ∈ lw_G := lw_G_t3 (List.mem_of_getElem? (i := 201) rfl) rfl
theorem fl_X6_195 : Cond.fieldLink RX6 195 "CustodyRoomModel" "slips" "I" ∈ lw_G := lw_G_t3 (List.mem_of_getElem? (i := 202) rfl) rfl
theorem fl_X6_204 : Cond.fieldLink RX6 204 "CustodyRoomModel" "now" "I" ∈ lw_G := lw_G_t3 (List.mem_of_getElem? (i := 203) rfl) rfl
theorem fl_X6_216 : Cond.fieldLink RX6 216 "CustodyRoomModel" "handings" "I" ∈ lw_G := lw_G_t3 (List.mem_of_getElem? (i := 204) rfl) rfl
theorem fl_X6_9 : Cond.fieldLink RX6 9 "CustodyRoomModel" "image" "I" ∈ lw_G := lw_G_t3 (List.mem_of_getElem? (i := 205) rfl) rfl
theorem fl_X6_13 : Cond.fieldLink RX6 13 "CustodyRoomModel" "keeper" "[Z" ∈ lw_G := lw_G_t3 (List.mem_of_getElem? (i := 206) rfl) rfl
theorem fl_X6_17 : Cond.fieldLink RX6 17 "CustodyRoomModel" "cold" "[Z" ∈ lw_G := lw_G_t3 (List.mem_of_getElem? (i := 207) rfl) rfl
theorem fl_X6_20 : Cond.fieldLink RX6 20 "CustodyRoomModel" "sealRow" "[I" ∈ lw_G := lw_G_t3 (List.mem_of_getElem? (i := 208) rfl) rfl
theorem fl_X6_24 : Cond.fieldLink RX6 24 "CustodyRoomModel" "kind" "[I" ∈ lw_G := lw_G_t3 (List.mem_of_getElem? (i := 209) rfl) rfl
theorem fl_X6_27 : Cond.fieldLink RX6 27 "CustodyRoomModel" "weight" "[I" ∈ lw_G := lw_G_t3 (List.mem_of_getElem? (i := 210) rfl) rfl
theorem fl_X6_30 : Cond.fieldLink RX6 30 "CustodyRoomModel" "slip" "[I" ∈ lw_G := lw_G_t3 (List.mem_of_getElem? (i := 211) rfl) rfl
theorem fl_X6_33 : Cond.fieldLink RX6 33 "CustodyRoomModel" "kept" "[I" ∈ lw_G := lw_G_t3 (List.mem_of_getElem? (i := 212) rfl) rfl
theorem fl_X6_36 : Cond.fieldLink RX6 36 "CustodyRoomModel" "handing" "[I" ∈ lw_G := lw_G_t3 (List.mem_of_getElem? (i := 213) rfl) rfl
theorem fl_X6_39 : Cond.fieldLink RX6 39 "CustodyRoomModel" "fault" "I" ∈ lw_G := lw_G_t3 (List.mem_of_getElem? (i := 214) rfl) rfl
theorem fl_X6_42 : Cond.fieldLink RX6 42 "CustodyRoomModel" "culprit" "I" ∈ lw_G := lw_G_t3 (List.mem_of_getElem? (i := 215) rfl) rfl
theorem fl_X6_45 : Cond.fieldLink RX6 45 "CustodyRoomModel" "how" "[I" ∈ lw_G := lw_G_t3 (List.mem_of_getElem? (i := 216) rfl) rfl
theorem fl_X6_48 : Cond.fieldLink RX6 48 "CustodyRoomModel" "where" "[I" ∈ lw_G := lw_G_t3 (List.mem_of_getElem? (i := 217) rfl) rfl
theorem fl_X6_51 : Cond.fieldLink RX6 51 "CustodyRoomModel" "heavy" "[I" ∈ lw_G := lw_G_t3 (List.mem_of_getElem? (i := 218) rfl) rfl
theorem fl_X6_54 : Cond.fieldLink RX6 54 "CustodyRoomModel" "seal" "[I" ∈ lw_G := lw_G_t3 (List.mem_of_getElem? (i := 219) rfl) rfl
theorem fl_X6_57 : Cond.fieldLink RX6 57 "CustodyRoomModel" "dueOn" "[I" ∈ lw_G := lw_G_t3 (List.mem_of_getElem? (i := 220) rfl) rfl
theorem fl_X6_60 : Cond.fieldLink RX6 60 "CustodyRoomModel" "keepTill" "[I" ∈ lw_G := lw_G_t3 (List.mem_of_getElem? (i := 221) rfl) rfl
theorem fl_X6_63 : Cond.fieldLink RX6 63 "CustodyRoomModel" "toGo" "[Z" ∈ lw_G := lw_G_t3 (List.mem_of_getElem? (i := 222) rfl) rfl
theorem fl_X6_66 : Cond.fieldLink RX6 66 "CustodyRoomModel" "trials" "[I" ∈ lw_G := lw_G_t3 (List.mem_of_getElem? (i := 223) rfl) rfl
theorem fl_X6_69 : Cond.fieldLink RX6 69 "CustodyRoomModel" "of" "[I" ∈ lw_G := lw_G_t3 (List.mem_of_getElem? (i := 224) rfl) rfl
theorem fl_X6_72 : Cond.fieldLink RX6 72 "CustodyRoomModel" "was" "[Z" ∈ lw_G := lw_G_t3 (List.mem_of_getElem? (i := 225) rfl) rfl
theorem fl_X6_75 : Cond.fieldLink RX6 75 "CustodyRoomModel" "sealed" "[Z" ∈ lw_G := lw_G_t3 (List.mem_of_getElem? (i := 226) rfl) rfl
theorem fl_X6_78 : Cond.fieldLink RX6 78 "CustodyRoomModel" "order" "[I" ∈ lw_G := lw_G_t3 (List.mem_of_getElem? (i := 227) rfl) rfl
theorem fl_X6_81 : Cond.fieldLink RX6 81 "CustodyRoomModel" "chain" "[I" ∈ lw_G := lw_G_t3 (List.mem_of_getElem? (i := 228) rfl) rfl
theorem fl_X6_229 : Cond.fieldLink RX6 229 "CustodyRoomModel" "chains" "I" ∈ lw_G := lw_G_t3 (List.mem_of_getElem? (i := 229) rfl) rfl
theorem fl_X6_84 : Cond.fieldLink RX6 84 "CustodyRoomModel" "line" "[I" ∈ lw_G := lw_G_t3 (List.mem_of_getElem? (i := 230) rfl) rfl
theorem fl_X6_87 : Cond.fieldLink RX6 87 "CustodyRoomModel" "came" "[I" ∈ lw_G := lw_G_t3 (List.mem_of_getElem? (i := 231) rfl) rfl
theorem ml_L_17 : Cond.methodLink RL 17 yX6_hand ∈ lw_G := lw_G_t4 (List.mem_of_getElem? (i := 59) rfl) rfl
theorem ml_L_21 : Cond.methodLink RL 21 yX6_shelf ∈ lw_G := lw_G_t4 (List.mem_of_getElem? (i := 63) rfl) rfl
theorem ml_L_26 : Cond.methodLink RL 26 yX6_seals ∈ lw_G := lw_G_t4 (List.mem_of_getElem? (i := 67) rfl) rfl
theorem ml_X6_96 : Cond.methodLink RX6 96 yX6_isIn ∈ lw_G := lw_G_t4 (List.mem_of_getElem? (i := 71) rfl) rfl
theorem ml_L_31 : Cond.methodLink RL 31 yX6_thing ∈ lw_G := lw_G_t4 (List.mem_of_getElem? (i := 74) rfl) rfl
theorem cn_X6_203 : Cond.constant RX6 203 1000000 ∈ lw_G := lw_G_t4 (List.mem_of_getElem? (i := 78) rfl) rfl
theorem ml_L_36 : Cond.methodLink RL 36 yX6_pass ∈ lw_G := lw_G_t4 (List.mem_of_getElem? (i := 79) rfl) rfl
theorem cn_X6_154 : Cond.constant RX6 154 100000 ∈ lw_G := lw_G_t4 (List.mem_of_getElem? (i := 83) rfl) rfl
theorem cn_X6_207 : Cond.constant RX6 207 100000000 ∈ lw_G := lw_G_t4 (List.mem_of_getElem? (i := 84) rfl) rfl
theorem ml_L_41 : Cond.methodLink RL 41 yX6_slip ∈ lw_G := lw_G_t4 (List.mem_of_getElem? (i := 85) rfl) rfl
theorem ml_X6_212 : Cond.methodLink RX6 212 yX6_written ∈ lw_G := lw_G_t4 (List.mem_of_getElem? (i := 89) rfl) rfl
theorem ml_X6_208 : Cond.methodLink RX6 208 yX6_firstWrong ∈ lw_G := lw_G_t4 (List.mem_of_getElem? (i := 93) rfl) rfl
theorem ml_X6_184 : Cond.methodLink RX6 184 yX6_sort ∈ lw_G := lw_G_t4 (List.mem_of_getElem? (i := 97) rfl) rfl
theorem ml_X6_188 : Cond.methodLink RX6 188 yX6_isSlip ∈ lw_G := lw_G_t4 (List.mem_of_getElem? (i := 101) rfl) rfl
theorem ml_X6_192 : Cond.methodLink RX6 192 yX6_isDone ∈ lw_G := lw_G_t4 (List.mem_of_getElem? (i := 105) rfl) rfl
theorem ml_X6_116 : Cond.methodLink RX6 116 yX6_comesIn ∈ lw_G := lw_G_t4 (List.mem_of_getElem? (i := 109) rfl) rfl
theorem ml_X6_139 : Cond.methodLink RX6 139 yX6_hasKeepers ∈ lw_G := lw_G_t4 (List.mem_of_getElem? (i := 113) rfl) rfl
theorem ml_X6_110 : Cond.methodLink RX6 110 yX6_isKeeper ∈ lw_G := lw_G_t4 (List.mem_of_getElem? (i := 117) rfl) rfl
theorem ml_X6_143 : Cond.methodLink RX6 143 yX6_isHand ∈ lw_G := lw_G_t4 (List.mem_of_getElem? (i := 121) rfl) rfl
theorem ml_X6_146 : Cond.methodLink RX6 146 yX6_fits ∈ lw_G := lw_G_t4 (List.mem_of_getElem? (i := 125) rfl) rfl
theorem ml_X6_106 : Cond.methodLink RX6 106 yX6_isEmpty ∈ lw_G := lw_G_t4 (List.mem_of_getElem? (i := 129) rfl) rfl
theorem ml_X6_150 : Cond.methodLink RX6 150 yX6_go ∈ lw_G := lw_G_t4 (List.mem_of_getElem? (i := 133) rfl) rfl
theorem ml_X6_113 : Cond.methodLink RX6 113 yX6_isKept ∈ lw_G := lw_G_t4 (List.mem_of_getElem? (i := 137) rfl) rfl
theorem ml_X6_120 : Cond.methodLink RX6 120 yX6_moves ∈ lw_G := lw_G_t4 (List.mem_of_getElem? (i := 141) rfl) rfl
theorem ml_X6_155 : Cond.methodLink RX6 155 yX6_goesInto ∈ lw_G := lw_G_t4 (List.mem_of_getElem? (i := 145) rfl) rfl
theorem ml_X6_162 : Cond.methodLink RX6 162 yX6_isBag ∈ lw_G := lw_G_t4 (List.mem_of_getElem? (i := 149) rfl) rfl
theorem ml_X6_165 : Cond.methodLink RX6 165 yX6_isWithin ∈ lw_G := lw_G_t4 (List.mem_of_getElem? (i := 153) rfl) rfl
theorem ml_X6_168 : Cond.methodLink RX6 168 yX6_inside ∈ lw_G := lw_G_t4 (List.mem_of_getElem? (i := 157) rfl) rfl
theorem ml_X6_172 : Cond.methodLink RX6 172 yX6_depth ∈ lw_G := lw_G_t4 (List.mem_of_getElem? (i := 161) rfl) rfl
theorem ml_X6_159 : Cond.methodLink RX6 159 yX6_goesFrom ∈ lw_G := lw_G_t4 (List.mem_of_getElem? (i := 165) rfl) rfl
theorem ml_X6_124 : Cond.methodLink RX6 124 yX6_isSealing ∈ lw_G := lw_G_t4 (List.mem_of_getElem? (i := 169) rfl) rfl
theorem ml_X6_175 : Cond.methodLink RX6 175 yX6_isSeal ∈ lw_G := lw_G_t4 (List.mem_of_getElem? (i := 173) rfl) rfl
theorem ml_X6_127 : Cond.methodLink RX6 127 yX6_takes ∈ lw_G := lw_G_t4 (List.mem_of_getElem? (i := 177) rfl) rfl
theorem ml_X6_178 : Cond.methodLink RX6 178 yX6_isFree ∈ lw_G := lw_G_t4 (List.mem_of_getElem? (i := 181) rfl) rfl
theorem ml_X6_130 : Cond.methodLink RX6 130 yX6_orders ∈ lw_G := lw_G_t4 (List.mem_of_getElem? (i := 185) rfl) rfl
theorem ml_X6_133 : Cond.methodLink RX6 133 yX6_isDestroyed ∈ lw_G := lw_G_t4 (List.mem_of_getElem? (i := 189) rfl) rfl
theorem ml_X6_181 : Cond.methodLink RX6 181 yX6_isOf ∈ lw_G := lw_G_t4 (List.mem_of_getElem? (i := 193) rfl) rfl
theorem ml_X6_136 : Cond.methodLink RX6 136 yX6_isFound ∈ lw_G := lw_G_t4 (List.mem_of_getElem? (i := 197) rfl) rfl
theorem ml_L_45 : Cond.methodLink RL 45 yX6_fault ∈ lw_G := lw_G_t4 (List.mem_of_getElem? (i := 201) rfl) rfl
theorem ml_L_50 : Cond.methodLink RL 50 yX6_handing ∈ lw_G := lw_G_t4 (List.mem_of_getElem? (i := 205) rfl) rfl
theorem ml_L_55 : Cond.methodLink RL 55 yX6_yes ∈ lw_G := lw_G_t4 (List.mem_of_getElem? (i := 209) rfl) rfl
theorem ml_X6_219 : Cond.methodLink RX6 219 yX6_sayer ∈ lw_G := lw_G_t4 (List.mem_of_getElem? (i := 213) rfl) rfl
theorem ml_L_59 : Cond.methodLink RL 59 yX6_no ∈ lw_G := lw_G_t4 (List.mem_of_getElem? (i := 217) rfl) rfl
theorem ml_L_63 : Cond.methodLink RL 63 yX6_about ∈ lw_G := lw_G_t4 (List.mem_of_getElem? (i := 221) rfl) rfl
theorem ml_L_67 : Cond.methodLink RL 67 yX6_slipOf ∈ lw_G := lw_G_t4 (List.mem_of_getElem? (i := 225) rfl) rfl
theorem ml_L_71 : Cond.methodLink RL 71 yX6_where ∈ lw_G := lw_G_t4 (List.mem_of_getElem? (i := 229) rfl) rfl
theorem ml_X6_199 : Cond.methodLink RX6 199 yX6_goOver ∈ lw_G := lw_G_t4 (List.mem_of_getElem? (i := 233) rfl) rfl
theorem ml_X6_223 : Cond.methodLink RX6 223 yX6_outermost ∈ lw_G := lw_G_t4 (List.mem_of_getElem? (i := 237) rfl) rfl
theorem ml_X6_226 : Cond.methodLink RX6 226 yX6_bits ∈ lw_G := lw_G_t5 (List.mem_of_getElem? (i := 1) rfl) rfl
theorem ml_L_75 : Cond.methodLink RL 75 yX6_chain ∈ lw_G := lw_G_t5 (List.mem_of_getElem? (i := 5) rfl) rfl
theorem ml_X6_242 : Cond.methodLink RX6 242 yX6_makeChain ∈ lw_G := lw_G_t5 (List.mem_of_getElem? (i := 9) rfl) rfl
theorem ml_X6_232 : Cond.methodLink RX6 232 yX6_cameAt ∈ lw_G := lw_G_t5 (List.mem_of_getElem? (i := 13) rfl) rfl
theorem ml_X6_235 : Cond.methodLink RX6 235 yX6_put ∈ lw_G := lw_G_t5 (List.mem_of_getElem? (i := 17) rfl) rfl
theorem ml_X6_239 : Cond.methodLink RX6 239 yX6_isMove ∈ lw_G := lw_G_t5 (List.mem_of_getElem? (i := 21) rfl) rfl
theorem ml_L_79 : Cond.methodLink RL 79 yX6_gap ∈ lw_G := lw_G_t5 (List.mem_of_getElem? (i := 24) rfl) rfl
theorem ml_L_83 : Cond.methodLink RL 83 yX6_breaks ∈ lw_G := lw_G_t5 (List.mem_of_getElem? (i := 28) rfl) rfl
theorem ml_L_87 : Cond.methodLink RL 87 yX6_due ∈ lw_G := lw_G_t5 (List.mem_of_getElem? (i := 32) rfl) rfl
theorem ml_X6_245 : Cond.methodLink RX6 245 yX6_goOverAll ∈ lw_G := lw_G_t5 (List.mem_of_getElem? (i := 36) rfl) rfl
theorem cn_X6_198 : Cond.constant RX6 198 2147483647 ∈ lw_G := lw_G_t5 (List.mem_of_getElem? (i := 40) rfl) rfl
theorem ml_L_92 : Cond.methodLink RL 92 yX6_freeze ∈ lw_G := lw_G_t5 (List.mem_of_getElem? (i := 41) rfl) rfl
theorem ml_L_97 : Cond.methodLink RL 97 yX6_alter ∈ lw_G := lw_G_t5 (List.mem_of_getElem? (i := 45) rfl) rfl
theorem ml_L_101 : Cond.methodLink RL 101 yX6_check ∈ lw_G := lw_G_t5 (List.mem_of_getElem? (i := 49) rfl) rfl
theorem ml_L_106 : Cond.methodLink RL 106 yX6_thaw ∈ lw_G := lw_G_t5 (List.mem_of_getElem? (i := 53) rfl) rfl
theorem lk_X5_init : lkG yX5_init cX5_init 1 none 0 := ⟨lw_G_t1 (List.mem_of_getElem? (i := 16) rfl) rfl, ini_X5, by decide +kernel, by decide +kernel, by decide +kernel⟩
theorem im_X5_init : Cond.instanceMethod yX5_init ∈ lw_G := lw_G_t1 (List.mem_of_getElem? (i := 15) rfl) rfl
theorem lk_X4_init : lkG yX4_init cX4_init 1 none 0 := ⟨lw_G_t1 (List.mem_of_getElem? (i := 24) rfl) rfl, ini_X4, by decide +kernel, by decide +kernel, by decide +kernel⟩
theorem im_X4_init : Cond.instanceMethod yX4_init ∈ lw_G := lw_G_t1 (List.mem_of_getElem? (i := 23) rfl) rfl
theorem lk_J7_fill_53178 : lkG yJ7_fill_53178 cJ7_fill_53178 4 none 2 := ⟨lw_G_t1 (List.mem_of_getElem? (i := 28) rfl) rfl, ini_J7, by decide +kernel, by decide +kernel, by decide +kernel⟩
theorem sy_J7_fill_53178 : Cond.static yJ7_fill_53178 ∈ lw_G := lw_G_t1 (List.mem_of_getElem? (i := 27) rfl) rfl
theorem lk_X2_init : lkG yX2_init cX2_init 1 none 0 := ⟨lw_G_t1 (List.mem_of_getElem? (i := 65) rfl) rfl, ini_X2, by decide +kernel, by decide +kernel, by decide +kernel⟩
theorem im_X2_init : Cond.instanceMethod yX2_init ∈ lw_G := lw_G_t1 (List.mem_of_getElem? (i := 64) rfl) rfl
theorem lk_X3_init : lkG yX3_init cX3_init 2 none 1 := ⟨lw_G_t1 (List.mem_of_getElem? (i := 84) rfl) rfl, ini_X3, by decide +kernel, by decide +kernel, by decide +kernel⟩
theorem im_X3_init : Cond.instanceMethod yX3_init ∈ lw_G := lw_G_t1 (List.mem_of_getElem? (i := 83) rfl) rfl
theorem lk_X1_init : lkG yX1_init cX1_init 2 none 1 := ⟨lw_G_t1 (List.mem_of_getElem? (i := 148) rfl) rfl, ini_X1, by decide +kernel, by decide +kernel, by decide +kernel⟩
theorem im_X1_init : Cond.instanceMethod yX1_init ∈ lw_G := lw_G_t1 (List.mem_of_getElem? (i := 147) rfl) rfl
theorem lk_X5_hand : lkI yX5_hand cX5_hand 2 (some .int) 1 := ⟨⟨lw_G_t1 (List.mem_of_getElem? (i := 202) rfl) rfl, ini_X5, by decide +kernel, by decide +kernel, by decide +kernel⟩, lw_G_t1 (List.mem_of_getElem? (i := 200) rfl) rfl, lw_G_t1 (List.mem_of_getElem? (i := 201) rfl) rfl⟩
theorem lk_X4_addHand : lkI yX4_addHand cX4_addHand 2 (some .int) 1 := ⟨⟨lw_G_t1 (List.mem_of_getElem? (i := 206) rfl) rfl, ini_X4, by decide +kernel, by decide +kernel, by decide +kernel⟩, lw_G_t1 (List.mem_of_getElem? (i := 205) rfl) rfl, lw_G_sel (n := 8) (List.mem_of_getElem? (i := 0) rfl) rfl⟩
theorem lk_X5_shelf : lkI yX5_shelf cX5_shelf 2 (some .int) 1 := ⟨⟨lw_G_t1 (List.mem_of_getElem? (i := 210) rfl) rfl, ini_X5, by decide +kernel, by decide +kernel, by decide +kernel⟩, lw_G_t1 (List.mem_of_getElem? (i := 208) rfl) rfl, lw_G_t1 (List.mem_of_getElem? (i := 209) rfl) rfl⟩
theorem lk_X4_addShelf : lkI yX4_addShelf cX4_addShelf 2 (some .int) 1 := ⟨⟨lw_G_t1 (List.mem_of_getElem? (i := 214) rfl) rfl, ini_X4, by decide +kernel, by decide +kernel, by decide +kernel⟩, lw_G_t1 (List.mem_of_getElem? (i := 213) rfl) rfl, lw_G_sel (n := 8) (List.mem_of_getElem? (i := 1) rfl) rfl⟩
theorem lk_X5_seals : lkI yX5_seals cX5_seals 3 (some .boolean) 2 := ⟨⟨lw_G_t1 (List.mem_of_getElem? (i := 218) rfl) rfl, ini_X5, by decide +kernel, by decide +kernel, by decide +kernel⟩, lw_G_t1 (List.mem_of_getElem? (i := 216) rfl) rfl, lw_G_t1 (List.mem_of_getElem? (i := 217) rfl) rfl⟩
theorem lk_X2_useSealBeyond : lkI yX2_useSealBeyond cX2_useSealBeyond 6 (some .boolean) 2 := ⟨⟨lw_G_t1 (List.mem_of_getElem? (i := 222) rfl) rfl, ini_X2, by decide +kernel, by decide +kernel, by decide +kernel⟩, lw_G_t1 (List.mem_of_getElem? (i := 221) rfl) rfl, lw_G_sel (n := 3) (List.mem_of_getElem? (i := 2) rfl) rfl⟩
theorem lk_X2_cell : lkI yX2_cell cX2_cell 3 (some .int) 2 := ⟨⟨lw_G_t1 (List.mem_of_getElem? (i := 226) rfl) rfl, ini_X2, by decide +kernel, by decide +kernel, by decide +kernel⟩, lw_G_t1 (List.mem_of_getElem? (i := 225) rfl) rfl, lw_G_sel (n := 3) (List.mem_of_getElem? (i := 3) rfl) rfl⟩
theorem lk_X2_has : lkI yX2_has cX2_has 2 (some .boolean) 1 := ⟨⟨lw_G_t1 (List.mem_of_getElem? (i := 230) rfl) rfl, ini_X2, by decide +kernel, by decide +kernel, by decide +kernel⟩, lw_G_t1 (List.mem_of_getElem? (i := 229) rfl) rfl, lw_G_sel (n := 3) (List.mem_of_getElem? (i := 4) rfl) rfl⟩
theorem lk_X4_giveOut : lkI yX4_giveOut cX4_giveOut 3 none 2 := ⟨⟨lw_G_t1 (List.mem_of_getElem? (i := 234) rfl) rfl, ini_X4, by decide +kernel, by decide +kernel, by decide +kernel⟩, lw_G_t1 (List.mem_of_getElem? (i := 233) rfl) rfl, lw_G_sel (n := 8) (List.mem_of_getElem? (i := 5) rfl) rfl⟩
theorem lk_X5_thing : lkI yX5_thing cX5_thing 4 (some .int) 2 := ⟨⟨lw_G_t1 (List.mem_of_getElem? (i := 238) rfl) rfl, ini_X5, by decide +kernel, by decide +kernel, by decide +kernel⟩, lw_G_t1 (List.mem_of_getElem? (i := 236) rfl) rfl, lw_G_t1 (List.mem_of_getElem? (i := 237) rfl) rfl⟩
theorem lk_X4_addThing : lkI yX4_addThing cX4_addThing 3 (some .int) 2 := ⟨⟨lw_G_t2 (List.mem_of_getElem? (i := 3) rfl) rfl, ini_X4, by decide +kernel, by decide +kernel, by decide +kernel⟩, lw_G_t2 (List.mem_of_getElem? (i := 2) rfl) rfl, lw_G_sel (n := 8) (List.mem_of_getElem? (i := 6) rfl) rfl⟩
theorem lk_X5_pass : lkI yX5_pass cX5_pass 2 (some .int) 1 := ⟨⟨lw_G_t2 (List.mem_of_getElem? (i := 7) rfl) rfl, ini_X5, by decide +kernel, by decide +kernel, by decide +kernel⟩, lw_G_t2 (List.mem_of_getElem? (i := 5) rfl) rfl, lw_G_t2 (List.mem_of_getElem? (i := 6) rfl) rfl⟩
theorem lk_X5_slip : lkI yX5_slip cX5_slip 8 (some .int) 7 := ⟨⟨lw_G_t2 (List.mem_of_getElem? (i := 13) rfl) rfl, ini_X5, by decide +kernel, by decide +kernel, by decide +kernel⟩, lw_G_t2 (List.mem_of_getElem? (i := 11) rfl) rfl, lw_G_t2 (List.mem_of_getElem? (i := 12) rfl) rfl⟩
theorem lk_X5_write : lkI yX5_write cX5_write 9 (some .int) 7 := ⟨⟨lw_G_t2 (List.mem_of_getElem? (i := 17) rfl) rfl, ini_X5, by decide +kernel, by decide +kernel, by decide +kernel⟩, lw_G_t2 (List.mem_of_getElem? (i := 16) rfl) rfl, lw_G_sel (n := 12) (List.mem_of_getElem? (i := 7) rfl) rfl⟩
theorem lk_X5_faultAhead : lkI yX5_faultAhead cX5_faultAhead 4 (some .int) 3 := ⟨⟨lw_G_t2 (List.mem_of_getElem? (i := 21) rfl) rfl, ini_X5, by decide +kernel, by decide +kernel, by decide +kernel⟩, lw_G_t2 (List.mem_of_getElem? (i := 20) rfl) rfl, lw_G_sel (n := 12) (List.mem_of_getElem? (i := 8) rfl) rfl⟩
theorem lk_X4_isThing : lkI yX4_isThing cX4_isThing 2 (some .boolean) 1 := ⟨⟨lw_G_t2 (List.mem_of_getElem? (i := 25) rfl) rfl, ini_X4, by decide +kernel, by decide +kernel, by decide +kernel⟩, lw_G_t2 (List.mem_of_getElem? (i := 24) rfl) rfl, lw_G_sel (n := 8) (List.mem_of_getElem? (i := 9) rfl) rfl⟩
theorem lk_X2_add : lkI yX2_add cX2_add 2 none 1 := ⟨⟨lw_G_t2 (List.mem_of_getElem? (i := 29) rfl) rfl, ini_X2, by decide +kernel, by decide +kernel, by decide +kernel⟩, lw_G_t2 (List.mem_of_getElem? (i := 28) rfl) rfl, lw_G_sel (n := 3) (List.mem_of_getElem? (i := 10) rfl) rfl⟩
theorem lk_X2_putInOrder : lkI yX2_putInOrder cX2_putInOrder 4 none 1 := ⟨⟨lw_G_t2 (List.mem_of_getElem? (i := 36) rfl) rfl, ini_X2, by decide +kernel, by decide +kernel, by decide +kernel⟩, lw_G_t2 (List.mem_of_getElem? (i := 35) rfl) rfl, lw_G_sel (n := 3) (List.mem_of_getElem? (i := 11) rfl) rfl⟩
theorem lk_X3_firstUndone : lkI yX3_firstUndone cX3_firstUndone 4 (some .int) 1 := ⟨⟨lw_G_t2 (List.mem_of_getElem? (i := 40) rfl) rfl, ini_X3, by decide +kernel, by decide +kernel, by decide +kernel⟩, lw_G_t2 (List.mem_of_getElem? (i := 39) rfl) rfl, lw_G_sel (n := 19) (List.mem_of_getElem? (i := 12) rfl) rfl⟩
theorem lk_X3_clear : lkI yX3_clear cX3_clear 1 none 0 := ⟨⟨lw_G_t2 (List.mem_of_getElem? (i := 44) rfl) rfl, ini_X3, by decide +kernel, by decide +kernel, by decide +kernel⟩, lw_G_t2 (List.mem_of_getElem? (i := 43) rfl) rfl, lw_G_sel (n := 19) (List.mem_of_getElem? (i := 13) rfl) rfl⟩
theorem lk_X2_inOrder : lkI yX2_inOrder cX2_inOrder 2 (some .int) 1 := ⟨⟨lw_G_t2 (List.mem_of_getElem? (i := 50) rfl) rfl, ini_X2, by decide +kernel, by decide +kernel, by decide +kernel⟩, lw_G_t2 (List.mem_of_getElem? (i := 49) rfl) rfl, lw_G_sel (n := 3) (List.mem_of_getElem? (i := 14) rfl) rfl⟩
theorem lk_X3_tell : lkI yX3_tell cX3_tell 5 (some .boolean) 2 := ⟨⟨lw_G_t2 (List.mem_of_getElem? (i := 54) rfl) rfl, ini_X3, by decide +kernel, by decide +kernel, by decide +kernel⟩, lw_G_t2 (List.mem_of_getElem? (i := 53) rfl) rfl, lw_G_sel (n := 19) (List.mem_of_getElem? (i := 15) rfl) rfl⟩
theorem lk_X3_isKept : lkI yX3_isKept cX3_isKept 2 (some .boolean) 1 := ⟨⟨lw_G_t2 (List.mem_of_getElem? (i := 60) rfl) rfl, ini_X3, by decide +kernel, by decide +kernel, by decide +kernel⟩, lw_G_t2 (List.mem_of_getElem? (i := 59) rfl) rfl, lw_G_sel (n := 19) (List.mem_of_getElem? (i := 16) rfl) rfl⟩
theorem lk_X3_comeIn : lkI yX3_comeIn cX3_comeIn 1 (some .boolean) 0 := ⟨⟨lw_G_t2 (List.mem_of_getElem? (i := 64) rfl) rfl, ini_X3, by decide +kernel, by decide +kernel, by decide +kernel⟩, lw_G_t2 (List.mem_of_getElem? (i := 63) rfl) rfl, lw_G_sel (n := 19) (List.mem_of_getElem? (i := 17) rfl) rfl⟩
theorem lk_X4_isOfKind : lkI yX4_isOfKind cX4_isOfKind 3 (some .boolean) 2 := ⟨⟨lw_G_t2 (List.mem_of_getElem? (i := 68) rfl) rfl, ini_X4, by decide +kernel, by decide +kernel, by decide +kernel⟩, lw_G_t2 (List.mem_of_getElem? (i := 67) rfl) rfl, lw_G_sel (n := 8) (List.mem_of_getElem? (i := 18) rfl) rfl⟩
theorem lk_X3_isMoneyBag : lkI yX3_isMoneyBag cX3_isMoneyBag 2 (some .boolean) 1 := ⟨⟨lw_G_t2 (List.mem_of_getElem? (i := 72) rfl) rfl, ini_X3, by decide +kernel, by decide +kernel, by decide +kernel⟩, lw_G_t2 (List.mem_of_getElem? (i := 71) rfl) rfl, lw_G_sel (n := 19) (List.mem_of_getElem? (i := 19) rfl) rfl⟩
theorem lk_X3_keepersServe : lkI yX3_keepersServe cX3_keepersServe 2 (some .boolean) 1 := ⟨⟨lw_G_t2 (List.mem_of_getElem? (i := 76) rfl) rfl, ini_X3, by decide +kernel, by decide +kernel, by decide +kernel⟩, lw_G_t2 (List.mem_of_getElem? (i := 75) rfl) rfl, lw_G_sel (n := 19) (List.mem_of_getElem? (i := 20) rfl) rfl⟩
theorem lk_X4_isKeeper : lkI yX4_isKeeper cX4_isKeeper 2 (some .boolean) 1 := ⟨⟨lw_G_t2 (List.mem_of_getElem? (i := 80) rfl) rfl, ini_X4, by decide +kernel, by decide +kernel, by decide +kernel⟩, lw_G_t2 (List.mem_of_getElem? (i := 79) rfl) rfl, lw_G_sel (n := 8) (List.mem_of_getElem? (i := 21) rfl) rfl⟩
theorem lk_X4_isHand : lkI yX4_isHand cX4_isHand 2 (some .boolean) 1 := ⟨⟨lw_G_t2 (List.mem_of_getElem? (i := 84) rfl) rfl, ini_X4, by decide +kernel, by decide +kernel, by decide +kernel⟩, lw_G_t2 (List.mem_of_getElem? (i := 83) rfl) rfl, lw_G_sel (n := 8) (List.mem_of_getElem? (i := 22) rfl) rfl⟩
theorem lk_X3_mayLieAt : lkI yX3_mayLieAt cX3_mayLieAt 2 (some .boolean) 1 := ⟨⟨lw_G_t2 (List.mem_of_getElem? (i := 88) rfl) rfl, ini_X3, by decide +kernel, by decide +kernel, by decide +kernel⟩, lw_G_t2 (List.mem_of_getElem? (i := 87) rfl) rfl, lw_G_sel (n := 19) (List.mem_of_getElem? (i := 23) rfl) rfl⟩
theorem lk_X4_isPlace : lkI yX4_isPlace cX4_isPlace 2 (some .boolean) 1 := ⟨⟨lw_G_t2 (List.mem_of_getElem? (i := 92) rfl) rfl, ini_X4, by decide +kernel, by decide +kernel, by decide +kernel⟩, lw_G_t2 (List.mem_of_getElem? (i := 91) rfl) rfl, lw_G_sel (n := 8) (List.mem_of_getElem? (i := 24) rfl) rfl⟩
theorem lk_X4_isColdPlace : lkI yX4_isColdPlace cX4_isColdPlace 2 (some .boolean) 1 := ⟨⟨lw_G_t2 (List.mem_of_getElem? (i := 96) rfl) rfl, ini_X4, by decide +kernel, by decide +kernel, by decide +kernel⟩, lw_G_t2 (List.mem_of_getElem? (i := 95) rfl) rfl, lw_G_sel (n := 8) (List.mem_of_getElem? (i := 25) rfl) rfl⟩
theorem lk_X3_move : lkI yX3_move cX3_move 4 none 3 := ⟨⟨lw_G_t2 (List.mem_of_getElem? (i := 100) rfl) rfl, ini_X3, by decide +kernel, by decide +kernel, by decide +kernel⟩, lw_G_t2 (List.mem_of_getElem? (i := 99) rfl) rfl, lw_G_sel (n := 19) (List.mem_of_getElem? (i := 26) rfl) rfl⟩
theorem lk_X3_register : lkI yX3_register cX3_register 4 none 3 := ⟨⟨lw_G_t2 (List.mem_of_getElem? (i := 104) rfl) rfl, ini_X3, by decide +kernel, by decide +kernel, by decide +kernel⟩, lw_G_t2 (List.mem_of_getElem? (i := 103) rfl) rfl, lw_G_sel (n := 19) (List.mem_of_getElem? (i := 27) rfl) rfl⟩
theorem lk_X3_goOut : lkI yX3_goOut cX3_goOut 1 (some .boolean) 0 := ⟨⟨lw_G_t2 (List.mem_of_getElem? (i := 108) rfl) rfl, ini_X3, by decide +kernel, by decide +kernel, by decide +kernel⟩, lw_G_t2 (List.mem_of_getElem? (i := 107) rfl) rfl, lw_G_sel (n := 19) (List.mem_of_getElem? (i := 28) rfl) rfl⟩
theorem lk_X3_isDay : lkI yX3_isDay cX3_isDay 2 (some .boolean) 1 := ⟨⟨lw_G_t2 (List.mem_of_getElem? (i := 112) rfl) rfl, ini_X3, by decide +kernel, by decide +kernel, by decide +kernel⟩, lw_G_t2 (List.mem_of_getElem? (i := 111) rfl) rfl, lw_G_sel (n := 19) (List.mem_of_getElem? (i := 29) rfl) rfl⟩
theorem lk_X3_goOn : lkI yX3_goOn cX3_goOn 1 (some .boolean) 0 := ⟨⟨lw_G_t2 (List.mem_of_getElem? (i := 117) rfl) rfl, ini_X3, by decide +kernel, by decide +kernel, by decide +kernel⟩, lw_G_t2 (List.mem_of_getElem? (i := 116) rfl) rfl, lw_G_sel (n := 19) (List.mem_of_getElem? (i := 30) rfl) rfl⟩
theorem lk_X3_isAt : lkI yX3_isAt cX3_isAt 4 (some .boolean) 3 := ⟨⟨lw_G_t2 (List.mem_of_getElem? (i := 121) rfl) rfl, ini_X3, by decide +kernel, by decide +kernel, by decide +kernel⟩, lw_G_t2 (List.mem_of_getElem? (i := 120) rfl) rfl, lw_G_sel (n := 19) (List.mem_of_getElem? (i := 31) rfl) rfl⟩
theorem lk_X3_comeBack : lkI yX3_comeBack cX3_comeBack 1 (some .boolean) 0 := ⟨⟨lw_G_t2 (List.mem_of_getElem? (i := 125) rfl) rfl, ini_X3, by decide +kernel, by decide +kernel, by decide +kernel⟩, lw_G_t2 (List.mem_of_getElem? (i := 124) rfl) rfl, lw_G_sel (n := 19) (List.mem_of_getElem? (i := 32) rfl) rfl⟩
theorem lk_X3_putElsewhere : lkI yX3_putElsewhere cX3_putElsewhere 1 (some .boolean) 0 := ⟨⟨lw_G_t2 (List.mem_of_getElem? (i := 129) rfl) rfl, ini_X3, by decide +kernel, by decide +kernel, by decide +kernel⟩, lw_G_t2 (List.mem_of_getElem? (i := 128) rfl) rfl, lw_G_sel (n := 19) (List.mem_of_getElem? (i := 33) rfl) rfl⟩
theorem lk_X3_goInto : lkI yX3_goInto cX3_goInto 2 (some .boolean) 0 := ⟨⟨lw_G_t2 (List.mem_of_getElem? (i := 133) rfl) rfl, ini_X3, by decide +kernel, by decide +kernel, by decide +kernel⟩, lw_G_t2 (List.mem_of_getElem? (i := 132) rfl) rfl, lw_G_sel (n := 19) (List.mem_of_getElem? (i := 34) rfl) rfl⟩
theorem lk_X4_isBag : lkI yX4_isBag cX4_isBag 2 (some .boolean) 1 := ⟨⟨lw_G_t2 (List.mem_of_getElem? (i := 137) rfl) rfl, ini_X4, by decide +kernel, by decide +kernel, by decide +kernel⟩, lw_G_t2 (List.mem_of_getElem? (i := 136) rfl) rfl, lw_G_sel (n := 8) (List.mem_of_getElem? (i := 35) rfl) rfl⟩
theorem lk_X3_deepestIn : lkI yX3_deepestIn cX3_deepestIn 4 (some .int) 1 := ⟨⟨lw_G_t2 (List.mem_of_getElem? (i := 142) rfl) rfl, ini_X3, by decide +kernel, by decide +kernel, by decide +kernel⟩, lw_G_t2 (List.mem_of_getElem? (i := 141) rfl) rfl, lw_G_sel (n := 19) (List.mem_of_getElem? (i := 36) rfl) rfl⟩
theorem lk_X3_stepsUpTo : lkI yX3_stepsUpTo cX3_stepsUpTo 5 (some .int) 2 := ⟨⟨lw_G_t2 (List.mem_of_getElem? (i := 146) rfl) rfl, ini_X3, by decide +kernel, by decide +kernel, by decide +kernel⟩, lw_G_t2 (List.mem_of_getElem? (i := 145) rfl) rfl, lw_G_sel (n := 19) (List.mem_of_getElem? (i := 37) rfl) rfl⟩
theorem lk_X3_bagAround : lkI yX3_bagAround cX3_bagAround 2 (some .int) 1 := ⟨⟨lw_G_t2 (List.mem_of_getElem? (i := 150) rfl) rfl, ini_X3, by decide +kernel, by decide +kernel, by decide +kernel⟩, lw_G_t2 (List.mem_of_getElem? (i := 149) rfl) rfl, lw_G_sel (n := 19) (List.mem_of_getElem? (i := 38) rfl) rfl⟩
theorem lk_J9_max_7cf53 : lkG yJ9_max_7cf53 cJ9_max_7cf53 2 (some .int) 2 := ⟨lw_G_t2 (List.mem_of_getElem? (i := 153) rfl) rfl, ini_J9, by decide +kernel, by decide +kernel, by decide +kernel⟩
theorem sy_J9_max_7cf53 : Cond.static yJ9_max_7cf53 ∈ lw_G := lw_G_t2 (List.mem_of_getElem? (i := 152) rfl) rfl
theorem lk_X3_comeFrom : lkI yX3_comeFrom cX3_comeFrom 2 (some .boolean) 0 := ⟨⟨lw_G_t2 (List.mem_of_getElem? (i := 157) rfl) rfl, ini_X3, by decide +kernel, by decide +kernel, by decide +kernel⟩, lw_G_t2 (List.mem_of_getElem? (i := 156) rfl) rfl, lw_G_sel (n := 19) (List.mem_of_getElem? (i := 39) rfl) rfl⟩
theorem lk_X3_close : lkI yX3_close cX3_close 1 (some .boolean) 0 := ⟨⟨lw_G_t2 (List.mem_of_getElem? (i := 161) rfl) rfl, ini_X3, by decide +kernel, by decide +kernel, by decide +kernel⟩, lw_G_t2 (List.mem_of_getElem? (i := 160) rfl) rfl, lw_G_sel (n := 19) (List.mem_of_getElem? (i := 40) rfl) rfl⟩
theorem lk_X4_isGivenOut : lkI yX4_isGivenOut cX4_isGivenOut 2 (some .boolean) 1 := ⟨⟨lw_G_t2 (List.mem_of_getElem? (i := 165) rfl) rfl, ini_X4, by decide +kernel, by decide +kernel, by decide +kernel⟩, lw_G_t2 (List.mem_of_getElem? (i := 164) rfl) rfl, lw_G_sel (n := 8) (List.mem_of_getElem? (i := 41) rfl) rfl⟩
theorem lk_X3_unseal : lkI yX3_unseal cX3_unseal 1 (some .boolean) 0 := ⟨⟨lw_G_t2 (List.mem_of_getElem? (i := 169) rfl) rfl, ini_X3, by decide +kernel, by decide +kernel, by decide +kernel⟩, lw_G_t2 (List.mem_of_getElem? (i := 168) rfl) rfl, lw_G_sel (n := 19) (List.mem_of_getElem? (i := 42) rfl) rfl⟩
theorem lk_X3_look : lkI yX3_look cX3_look 1 (some .boolean) 0 := ⟨⟨lw_G_t2 (List.mem_of_getElem? (i := 173) rfl) rfl, ini_X3, by decide +kernel, by decide +kernel, by decide +kernel⟩, lw_G_t2 (List.mem_of_getElem? (i := 172) rfl) rfl, lw_G_sel (n := 19) (List.mem_of_getElem? (i := 43) rfl) rfl⟩
theorem lk_X3_takePart : lkI yX3_takePart cX3_takePart 1 (some .boolean) 0 := ⟨⟨lw_G_t2 (List.mem_of_getElem? (i := 177) rfl) rfl, ini_X3, by decide +kernel, by decide +kernel, by decide +kernel⟩, lw_G_t2 (List.mem_of_getElem? (i := 176) rfl) rfl, lw_G_sel (n := 19) (List.mem_of_getElem? (i := 44) rfl) rfl⟩
theorem lk_X3_mayBeTaken : lkI yX3_mayBeTaken cX3_mayBeTaken 2 (some .boolean) 1 := ⟨⟨lw_G_t2 (List.mem_of_getElem? (i := 181) rfl) rfl, ini_X3, by decide +kernel, by decide +kernel, by decide +kernel⟩, lw_G_t2 (List.mem_of_getElem? (i := 180) rfl) rfl, lw_G_sel (n := 19) (List.mem_of_getElem? (i := 45) rfl) rfl⟩
theorem lk_X3_isFree : lkI yX3_isFree cX3_isFree 4 (some .boolean) 1 := ⟨⟨lw_G_t2 (List.mem_of_getElem? (i := 185) rfl) rfl, ini_X3, by decide +kernel, by decide +kernel, by decide +kernel⟩, lw_G_t2 (List.mem_of_getElem? (i := 184) rfl) rfl, lw_G_sel (n := 19) (List.mem_of_getElem? (i := 46) rfl) rfl⟩
theorem lk_X3_bringToHand : lkI yX3_bringToHand cX3_bringToHand 1 none 0 := ⟨⟨lw_G_t2 (List.mem_of_getElem? (i := 189) rfl) rfl, ini_X3, by decide +kernel, by decide +kernel, by decide +kernel⟩, lw_G_t2 (List.mem_of_getElem? (i := 188) rfl) rfl, lw_G_sel (n := 19) (List.mem_of_getElem? (i := 47) rfl) rfl⟩
theorem lk_X3_takeCopy : lkI yX3_takeCopy cX3_takeCopy 1 (some .boolean) 0 := ⟨⟨lw_G_t2 (List.mem_of_getElem? (i := 193) rfl) rfl, ini_X3, by decide +kernel, by decide +kernel, by decide +kernel⟩, lw_G_t2 (List.mem_of_getElem? (i := 192) rfl) rfl, lw_G_sel (n := 19) (List.mem_of_getElem? (i := 48) rfl) rfl⟩
theorem lk_X3_weigh : lkI yX3_weigh cX3_weigh 1 (some .boolean) 0 := ⟨⟨lw_G_t2 (List.mem_of_getElem? (i := 197) rfl) rfl, ini_X3, by decide +kernel, by decide +kernel, by decide +kernel⟩, lw_G_t2 (List.mem_of_getElem? (i := 196) rfl) rfl, lw_G_sel (n := 19) (List.mem_of_getElem? (i := 49) rfl) rfl⟩
theorem lk_X3_keep : lkI yX3_keep cX3_keep 1 (some .boolean) 0 := ⟨⟨lw_G_t2 (List.mem_of_getElem? (i := 201) rfl) rfl, ini_X3, by decide +kernel, by decide +kernel, by decide +kernel⟩, lw_G_t2 (List.mem_of_getElem? (i := 200) rfl) rfl, lw_G_sel (n := 19) (List.mem_of_getElem? (i := 50) rfl) rfl⟩
theorem lk_X3_doom : lkI yX3_doom cX3_doom 1 (some .boolean) 0 := ⟨⟨lw_G_t2 (List.mem_of_getElem? (i := 205) rfl) rfl, ini_X3, by decide +kernel, by decide +kernel, by decide +kernel⟩, lw_G_t2 (List.mem_of_getElem? (i := 204) rfl) rfl, lw_G_sel (n := 19) (List.mem_of_getElem? (i := 51) rfl) rfl⟩
theorem lk_X3_beginTrial : lkI yX3_beginTrial cX3_beginTrial 1 (some .boolean) 0 := ⟨⟨lw_G_t2 (List.mem_of_getElem? (i := 209) rfl) rfl, ini_X3, by decide +kernel, by decide +kernel, by decide +kernel⟩, lw_G_t2 (List.mem_of_getElem? (i := 208) rfl) rfl, lw_G_sel (n := 19) (List.mem_of_getElem? (i := 52) rfl) rfl⟩
theorem lk_X3_goesOn : lkI yX3_goesOn cX3_goesOn 1 (some .boolean) 0 := ⟨⟨lw_G_t2 (List.mem_of_getElem? (i := 213) rfl) rfl, ini_X3, by decide +kernel, by decide +kernel, by decide +kernel⟩, lw_G_t2 (List.mem_of_getElem? (i := 212) rfl) rfl, lw_G_sel (n := 19) (List.mem_of_getElem? (i := 53) rfl) rfl⟩
theorem lk_X3_endTrial : lkI yX3_endTrial cX3_endTrial 1 (some .boolean) 0 := ⟨⟨lw_G_t2 (List.mem_of_getElem? (i := 217) rfl) rfl, ini_X3, by decide +kernel, by decide +kernel, by decide +kernel⟩, lw_G_t2 (List.mem_of_getElem? (i := 216) rfl) rfl, lw_G_sel (n := 19) (List.mem_of_getElem? (i := 54) rfl) rfl⟩
theorem lk_X3_destroy : lkI yX3_destroy cX3_destroy 1 (some .boolean) 0 := ⟨⟨lw_G_t2 (List.mem_of_getElem? (i := 221) rfl) rfl, ini_X3, by decide +kernel, by decide +kernel, by decide +kernel⟩, lw_G_t2 (List.mem_of_getElem? (i := 220) rfl) rfl, lw_G_sel (n := 19) (List.mem_of_getElem? (i := 55) rfl) rfl⟩
theorem lk_X3_isAnyOfItInHand : lkI yX3_isAnyOfItInHand cX3_isAnyOfItInHand 2 (some .boolean) 0 := ⟨⟨lw_G_t2 (List.mem_of_getElem? (i := 225) rfl) rfl, ini_X3, by decide +kernel, by decide +kernel, by decide +kernel⟩, lw_G_t2 (List.mem_of_getElem? (i := 224) rfl) rfl, lw_G_sel (n := 19) (List.mem_of_getElem? (i := 56) rfl) rfl⟩
theorem lk_X3_isOf : lkI yX3_isOf cX3_isOf 5 (some .boolean) 2 := ⟨⟨lw_G_t2 (List.mem_of_getElem? (i := 229) rfl) rfl, ini_X3, by decide +kernel, by decide +kernel, by decide +kernel⟩, lw_G_t2 (List.mem_of_getElem? (i := 228) rfl) rfl, lw_G_sel (n := 19) (List.mem_of_getElem? (i := 57) rfl) rfl⟩
theorem lk_X3_find : lkI yX3_find cX3_find 1 (some .boolean) 0 := ⟨⟨lw_G_t2 (List.mem_of_getElem? (i := 233) rfl) rfl, ini_X3, by decide +kernel, by decide +kernel, by decide +kernel⟩, lw_G_t2 (List.mem_of_getElem? (i := 232) rfl) rfl, lw_G_sel (n := 19) (List.mem_of_getElem? (i := 58) rfl) rfl⟩
theorem lk_X2_dropLast : lkI yX2_dropLast cX2_dropLast 3 none 0 := ⟨⟨lw_G_t2 (List.mem_of_getElem? (i := 237) rfl) rfl, ini_X2, by decide +kernel, by decide +kernel, by decide +kernel⟩, lw_G_t2 (List.mem_of_getElem? (i := 236) rfl) rfl, lw_G_sel (n := 3) (List.mem_of_getElem? (i := 59) rfl) rfl⟩
theorem lk_X5_fault : lkI yX5_fault cX5_fault 2 (some .int) 1 := ⟨⟨lw_G_t3 (List.mem_of_getElem? (i := 1) rfl) rfl, ini_X5, by decide +kernel, by decide +kernel, by decide +kernel⟩, lw_G_t2 (List.mem_of_getElem? (i := 239) rfl) rfl, lw_G_t3 (List.mem_of_getElem? (i := 0) rfl) rfl⟩
theorem lk_X5_handing : lkI yX5_handing cX5_handing 5 (some .int) 4 := ⟨⟨lw_G_t3 (List.mem_of_getElem? (i := 5) rfl) rfl, ini_X5, by decide +kernel, by decide +kernel, by decide +kernel⟩, lw_G_t3 (List.mem_of_getElem? (i := 3) rfl) rfl, lw_G_t3 (List.mem_of_getElem? (i := 4) rfl) rfl⟩
theorem lk_X0_init : lkG yX0_init cX0_init 5 none 4 := ⟨lw_G_t3 (List.mem_of_getElem? (i := 10) rfl) rfl, ini_X0, by decide +kernel, by decide +kernel, by decide +kernel⟩
theorem im_X0_init : Cond.instanceMethod yX0_init ∈ lw_G := lw_G_t3 (List.mem_of_getElem? (i := 9) rfl) rfl
theorem lk_X5_yes : lkI yX5_yes cX5_yes 7 (some .int) 3 := ⟨⟨lw_G_t3 (List.mem_of_getElem? (i := 42) rfl) rfl, ini_X5, by decide +kernel, by decide +kernel, by decide +kernel⟩, lw_G_t3 (List.mem_of_getElem? (i := 40) rfl) rfl, lw_G_t3 (List.mem_of_getElem? (i := 41) rfl) rfl⟩
theorem lk_X5_findHanding : lkI yX5_findHanding cX5_findHanding 2 (some (.object "CustodyRoom$Handing")) 1 := ⟨⟨lw_G_t3 (List.mem_of_getElem? (i := 46) rfl) rfl, ini_X5, by decide +kernel, by decide +kernel, by decide +kernel⟩, lw_G_t3 (List.mem_of_getElem? (i := 45) rfl) rfl, lw_G_sel (n := 12) (List.mem_of_getElem? (i := 60) rfl) rfl⟩
theorem lk_X0_awaits : lkI yX0_awaits cX0_awaits 2 (some .boolean) 1 := ⟨⟨lw_G_t3 (List.mem_of_getElem? (i := 50) rfl) rfl, ini_X0, by decide +kernel, by decide +kernel, by decide +kernel⟩, lw_G_t3 (List.mem_of_getElem? (i := 49) rfl) rfl, lw_G_sel (n := 7) (List.mem_of_getElem? (i := 61) rfl) rfl⟩
theorem lk_X0_setYes : lkI yX0_setYes cX0_setYes 3 none 2 := ⟨⟨lw_G_t3 (List.mem_of_getElem? (i := 54) rfl) rfl, ini_X0, by decide +kernel, by decide +kernel, by decide +kernel⟩, lw_G_t3 (List.mem_of_getElem? (i := 53) rfl) rfl, lw_G_sel (n := 7) (List.mem_of_getElem? (i := 62) rfl) rfl⟩
theorem lk_X0_isAgreed : lkI yX0_isAgreed cX0_isAgreed 1 (some .boolean) 0 := ⟨⟨lw_G_t3 (List.mem_of_getElem? (i := 58) rfl) rfl, ini_X0, by decide +kernel, by decide +kernel, by decide +kernel⟩, lw_G_t3 (List.mem_of_getElem? (i := 57) rfl) rfl, lw_G_sel (n := 7) (List.mem_of_getElem? (i := 63) rfl) rfl⟩
theorem lk_X0_isLate : lkI yX0_isLate cX0_isLate 1 (some .boolean) 0 := ⟨⟨lw_G_t3 (List.mem_of_getElem? (i := 62) rfl) rfl, ini_X0, by decide +kernel, by decide +kernel, by decide +kernel⟩, lw_G_t3 (List.mem_of_getElem? (i := 61) rfl) rfl, lw_G_sel (n := 7) (List.mem_of_getElem? (i := 64) rfl) rfl⟩
theorem lk_X0_laterYes : lkI yX0_laterYes cX0_laterYes 1 (some .int) 0 := ⟨⟨lw_G_t3 (List.mem_of_getElem? (i := 66) rfl) rfl, ini_X0, by decide +kernel, by decide +kernel, by decide +kernel⟩, lw_G_t3 (List.mem_of_getElem? (i := 65) rfl) rfl, lw_G_sel (n := 7) (List.mem_of_getElem? (i := 65) rfl) rfl⟩
theorem lk_X5_no : lkI yX5_no cX5_no 4 (some .boolean) 2 := ⟨⟨lw_G_t3 (List.mem_of_getElem? (i := 72) rfl) rfl, ini_X5, by decide +kernel, by decide +kernel, by decide +kernel⟩, lw_G_t3 (List.mem_of_getElem? (i := 70) rfl) rfl, lw_G_t3 (List.mem_of_getElem? (i := 71) rfl) rfl⟩
theorem lk_X0_isBetween : lkI yX0_isBetween cX0_isBetween 2 (some .boolean) 1 := ⟨⟨lw_G_t3 (List.mem_of_getElem? (i := 76) rfl) rfl, ini_X0, by decide +kernel, by decide +kernel, by decide +kernel⟩, lw_G_t3 (List.mem_of_getElem? (i := 75) rfl) rfl, lw_G_sel (n := 7) (List.mem_of_getElem? (i := 66) rfl) rfl⟩
theorem lk_X5_about : lkI yX5_about cX5_about 2 (some .int) 1 := ⟨⟨lw_G_t3 (List.mem_of_getElem? (i := 80) rfl) rfl, ini_X5, by decide +kernel, by decide +kernel, by decide +kernel⟩, lw_G_t3 (List.mem_of_getElem? (i := 78) rfl) rfl, lw_G_t3 (List.mem_of_getElem? (i := 79) rfl) rfl⟩
theorem lk_X5_slipOf : lkI yX5_slipOf cX5_slipOf 3 (some .int) 2 := ⟨⟨lw_G_t3 (List.mem_of_getElem? (i := 84) rfl) rfl, ini_X5, by decide +kernel, by decide +kernel, by decide +kernel⟩, lw_G_t3 (List.mem_of_getElem? (i := 82) rfl) rfl, lw_G_t3 (List.mem_of_getElem? (i := 83) rfl) rfl⟩
theorem lk_X2_isLate : lkI yX2_isLate cX2_isLate 3 (some .boolean) 1 := ⟨⟨lw_G_t3 (List.mem_of_getElem? (i := 89) rfl) rfl, ini_X2, by decide +kernel, by decide +kernel, by decide +kernel⟩, lw_G_t3 (List.mem_of_getElem? (i := 88) rfl) rfl, lw_G_sel (n := 3) (List.mem_of_getElem? (i := 67) rfl) rfl⟩
theorem lk_X5_where : lkI yX5_where cX5_where 5 (some .int) 4 := ⟨⟨lw_G_t3 (List.mem_of_getElem? (i := 94) rfl) rfl, ini_X5, by decide +kernel, by decide +kernel, by decide +kernel⟩, lw_G_t3 (List.mem_of_getElem? (i := 92) rfl) rfl, lw_G_t3 (List.mem_of_getElem? (i := 93) rfl) rfl⟩
theorem lk_X3_tellKnown : lkI yX3_tellKnown cX3_tellKnown 6 none 3 := ⟨⟨lw_G_t3 (List.mem_of_getElem? (i := 98) rfl) rfl, ini_X3, by decide +kernel, by decide +kernel, by decide +kernel⟩, lw_G_t3 (List.mem_of_getElem? (i := 97) rfl) rfl, lw_G_sel (n := 19) (List.mem_of_getElem? (i := 68) rfl) rfl⟩
theorem lk_X3_answer : lkI yX3_answer cX3_answer 3 (some .int) 2 := ⟨⟨lw_G_t3 (List.mem_of_getElem? (i := 102) rfl) rfl, ini_X3, by decide +kernel, by decide +kernel, by decide +kernel⟩, lw_G_t3 (List.mem_of_getElem? (i := 101) rfl) rfl, lw_G_sel (n := 19) (List.mem_of_getElem? (i := 69) rfl) rfl⟩
theorem lk_X3_outermost : lkI yX3_outermost cX3_outermost 5 (some .int) 1 := ⟨⟨lw_G_t3 (List.mem_of_getElem? (i := 106) rfl) rfl, ini_X3, by decide +kernel, by decide +kernel, by decide +kernel⟩, lw_G_t3 (List.mem_of_getElem? (i := 105) rfl) rfl, lw_G_sel (n := 19) (List.mem_of_getElem? (i := 70) rfl) rfl⟩
theorem lk_J6_bitCount_0f7a4 : lkG yJ6_bitCount_0f7a4 cJ6_bitCount_0f7a4 1 (some .int) 1 := ⟨lw_G_t3 (List.mem_of_getElem? (i := 109) rfl) rfl, ini_J6, by decide +kernel, by decide +kernel, by decide +kernel⟩
theorem sy_J6_bitCount_0f7a4 : Cond.static yJ6_bitCount_0f7a4 ∈ lw_G := lw_G_t3 (List.mem_of_getElem? (i := 108) rfl) rfl
theorem lk_X5_chain : lkI yX5_chain cX5_chain 3 (some .int) 2 := ⟨⟨lw_G_t3 (List.mem_of_getElem? (i := 116) rfl) rfl, ini_X5, by decide +kernel, by decide +kernel, by decide +kernel⟩, lw_G_t3 (List.mem_of_getElem? (i := 114) rfl) rfl, lw_G_t3 (List.mem_of_getElem? (i := 115) rfl) rfl⟩
theorem lk_X1_follow : lkI yX1_follow cX1_follow 5 none 1 := ⟨⟨lw_G_t3 (List.mem_of_getElem? (i := 120) rfl) rfl, ini_X1, by decide +kernel, by decide +kernel, by decide +kernel⟩, lw_G_t3 (List.mem_of_getElem? (i := 119) rfl) rfl, lw_G_sel (n := 3) (List.mem_of_getElem? (i := 71) rfl) rfl⟩
theorem lk_X2_isBirth : lkI yX2_isBirth cX2_isBirth 4 (some .boolean) 2 := ⟨⟨lw_G_t3 (List.mem_of_getElem? (i := 125) rfl) rfl, ini_X2, by decide +kernel, by decide +kernel, by decide +kernel⟩, lw_G_t3 (List.mem_of_getElem? (i := 124) rfl) rfl, lw_G_sel (n := 3) (List.mem_of_getElem? (i := 72) rfl) rfl⟩
theorem lk_X1_append : lkI yX1_append cX1_append 2 none 1 := ⟨⟨lw_G_t3 (List.mem_of_getElem? (i := 129) rfl) rfl, ini_X1, by decide +kernel, by decide +kernel, by decide +kernel⟩, lw_G_t3 (List.mem_of_getElem? (i := 128) rfl) rfl, lw_G_sel (n := 3) (List.mem_of_getElem? (i := 73) rfl) rfl⟩
theorem lk_X2_isMoveOf : lkI yX2_isMoveOf cX2_isMoveOf 5 (some .boolean) 2 := ⟨⟨lw_G_t3 (List.mem_of_getElem? (i := 134) rfl) rfl, ini_X2, by decide +kernel, by decide +kernel, by decide +kernel⟩, lw_G_t3 (List.mem_of_getElem? (i := 133) rfl) rfl, lw_G_sel (n := 3) (List.mem_of_getElem? (i := 74) rfl) rfl⟩
theorem lk_X1_link : lkI yX1_link cX1_link 2 (some .int) 1 := ⟨⟨lw_G_t3 (List.mem_of_getElem? (i := 138) rfl) rfl, ini_X1, by decide +kernel, by decide +kernel, by decide +kernel⟩, lw_G_t3 (List.mem_of_getElem? (i := 137) rfl) rfl, lw_G_sel (n := 3) (List.mem_of_getElem? (i := 75) rfl) rfl⟩
theorem lk_X5_gap : lkI yX5_gap cX5_gap 7 (some .int) 3 := ⟨⟨lw_G_t3 (List.mem_of_getElem? (i := 142) rfl) rfl, ini_X5, by decide +kernel, by decide +kernel, by decide +kernel⟩, lw_G_t3 (List.mem_of_getElem? (i := 140) rfl) rfl, lw_G_t3 (List.mem_of_getElem? (i := 141) rfl) rfl⟩
theorem lk_X1_endOfGap : lkI yX1_endOfGap cX1_endOfGap 4 (some .int) 1 := ⟨⟨lw_G_t3 (List.mem_of_getElem? (i := 146) rfl) rfl, ini_X1, by decide +kernel, by decide +kernel, by decide +kernel⟩, lw_G_t3 (List.mem_of_getElem? (i := 145) rfl) rfl, lw_G_sel (n := 3) (List.mem_of_getElem? (i := 76) rfl) rfl⟩
theorem lk_X5_breaks : lkI yX5_breaks cX5_breaks 2 (some .int) 1 := ⟨⟨lw_G_t3 (List.mem_of_getElem? (i := 151) rfl) rfl, ini_X5, by decide +kernel, by decide +kernel, by decide +kernel⟩, lw_G_t3 (List.mem_of_getElem? (i := 149) rfl) rfl, lw_G_t3 (List.mem_of_getElem? (i := 150) rfl) rfl⟩
theorem lk_X2_firstBreak : lkI yX2_firstBreak cX2_firstBreak 7 (some .int) 1 := ⟨⟨lw_G_t3 (List.mem_of_getElem? (i := 156) rfl) rfl, ini_X2, by decide +kernel, by decide +kernel, by decide +kernel⟩, lw_G_t3 (List.mem_of_getElem? (i := 155) rfl) rfl, lw_G_sel (n := 3) (List.mem_of_getElem? (i := 77) rfl) rfl⟩
theorem lk_X5_due : lkI yX5_due cX5_due 3 (some .int) 2 := ⟨⟨lw_G_t3 (List.mem_of_getElem? (i := 160) rfl) rfl, ini_X5, by decide +kernel, by decide +kernel, by decide +kernel⟩, lw_G_t3 (List.mem_of_getElem? (i := 158) rfl) rfl, lw_G_t3 (List.mem_of_getElem? (i := 159) rfl) rfl⟩
theorem lk_X3_thingOfDay : lkI yX3_thingOfDay cX3_thingOfDay 5 (some .int) 2 := ⟨⟨lw_G_t3 (List.mem_of_getElem? (i := 164) rfl) rfl, ini_X3, by decide +kernel, by decide +kernel, by decide +kernel⟩, lw_G_t3 (List.mem_of_getElem? (i := 163) rfl) rfl, lw_G_sel (n := 19) (List.mem_of_getElem? (i := 78) rfl) rfl⟩
theorem lk_X5_freeze : lkI yX5_freeze cX5_freeze 1 (some .int) 0 := ⟨⟨lw_G_t3 (List.mem_of_getElem? (i := 168) rfl) rfl, ini_X5, by decide +kernel, by decide +kernel, by decide +kernel⟩, lw_G_t3 (List.mem_of_getElem? (i := 166) rfl) rfl, lw_G_t3 (List.mem_of_getElem? (i := 167) rfl) rfl⟩
theorem lk_X2_copyFrom : lkI yX2_copyFrom cX2_copyFrom 2 none 1 := ⟨⟨lw_G_t3 (List.mem_of_getElem? (i := 172) rfl) rfl, ini_X2, by decide +kernel, by decide +kernel, by decide +kernel⟩, lw_G_t3 (List.mem_of_getElem? (i := 171) rfl) rfl, lw_G_sel (n := 3) (List.mem_of_getElem? (i := 79) rfl) rfl⟩
theorem lk_X5_alter : lkI yX5_alter cX5_alter 4 (some .boolean) 3 := ⟨⟨lw_G_t3 (List.mem_of_getElem? (i := 176) rfl) rfl, ini_X5, by decide +kernel, by decide +kernel, by decide +kernel⟩, lw_G_t3 (List.mem_of_getElem? (i := 174) rfl) rfl, lw_G_t3 (List.mem_of_getElem? (i := 175) rfl) rfl⟩
theorem lk_X2_alterCell : lkI yX2_alterCell cX2_alterCell 5 none 3 := ⟨⟨lw_G_t3 (List.mem_of_getElem? (i := 180) rfl) rfl, ini_X2, by decide +kernel, by decide +kernel, by decide +kernel⟩, lw_G_t3 (List.mem_of_getElem? (i := 179) rfl) rfl, lw_G_sel (n := 3) (List.mem_of_getElem? (i := 80) rfl) rfl⟩
theorem lk_X5_check : lkI yX5_check cX5_check 1 (some .int) 0 := ⟨⟨lw_G_t3 (List.mem_of_getElem? (i := 184) rfl) rfl, ini_X5, by decide +kernel, by decide +kernel, by decide +kernel⟩, lw_G_t3 (List.mem_of_getElem? (i := 182) rfl) rfl, lw_G_t3 (List.mem_of_getElem? (i := 183) rfl) rfl⟩
theorem lk_X5_thaw : lkI yX5_thaw cX5_thaw 1 (some .boolean) 0 := ⟨⟨lw_G_t3 (List.mem_of_getElem? (i := 188) rfl) rfl, ini_X5, by decide +kernel, by decide +kernel, by decide +kernel⟩, lw_G_t3 (List.mem_of_getElem? (i := 186) rfl) rfl, lw_G_t3 (List.mem_of_getElem? (i := 187) rfl) rfl⟩
theorem lk_X6_init : lkG yX6_init cX6_init 2 none 0 := ⟨lw_G_t3 (List.mem_of_getElem? (i := 193) rfl) rfl, ini_X6, by decide +kernel, by decide +kernel, by decide +kernel⟩
theorem im_X6_init : Cond.instanceMethod yX6_init ∈ lw_G := lw_G_t3 (List.mem_of_getElem? (i := 192) rfl) rfl
theorem lk_X6_begin : lkI yX6_begin cX6_begin 2 none 0 := ⟨⟨lw_G_t3 (List.mem_of_getElem? (i := 198) rfl) rfl, ini_X6, by decide +kernel, by decide +kernel, by decide +kernel⟩, lw_G_t3 (List.mem_of_getElem? (i := 197) rfl) rfl, lw_G_sel (n := 33) (List.mem_of_getElem? (i := 81) rfl) rfl⟩
theorem lk_X6_hand : lkI yX6_hand cX6_hand 2 (some .int) 1 := ⟨⟨lw_G_t4 (List.mem_of_getElem? (i := 62) rfl) rfl, ini_X6, by decide +kernel, by decide +kernel, by decide +kernel⟩, lw_G_t4 (List.mem_of_getElem? (i := 60) rfl) rfl, lw_G_t4 (List.mem_of_getElem? (i := 61) rfl) rfl⟩
theorem lk_X6_shelf : lkI yX6_shelf cX6_shelf 2 (some .int) 1 := ⟨⟨lw_G_t4 (List.mem_of_getElem? (i := 66) rfl) rfl, ini_X6, by decide +kernel, by decide +kernel, by decide +kernel⟩, lw_G_t4 (List.mem_of_getElem? (i := 64) rfl) rfl, lw_G_t4 (List.mem_of_getElem? (i := 65) rfl) rfl⟩
theorem lk_X6_seals : lkI yX6_seals cX6_seals 4 (some .boolean) 2 := ⟨⟨lw_G_t4 (List.mem_of_getElem? (i := 70) rfl) rfl, ini_X6, by decide +kernel, by decide +kernel, by decide +kernel⟩, lw_G_t4 (List.mem_of_getElem? (i := 68) rfl) rfl, lw_G_t4 (List.mem_of_getElem? (i := 69) rfl) rfl⟩
theorem lk_X6_isIn : lkG yX6_isIn cX6_isIn 3 (some .boolean) 3 := ⟨lw_G_t4 (List.mem_of_getElem? (i := 73) rfl) rfl, ini_X6, by decide +kernel, by decide +kernel, by decide +kernel⟩
theorem sy_X6_isIn : Cond.static yX6_isIn ∈ lw_G := lw_G_t4 (List.mem_of_getElem? (i := 72) rfl) rfl
theorem lk_X6_thing : lkI yX6_thing cX6_thing 3 (some .int) 2 := ⟨⟨lw_G_t4 (List.mem_of_getElem? (i := 77) rfl) rfl, ini_X6, by decide +kernel, by decide +kernel, by decide +kernel⟩, lw_G_t4 (List.mem_of_getElem? (i := 75) rfl) rfl, lw_G_t4 (List.mem_of_getElem? (i := 76) rfl) rfl⟩
theorem lk_X6_pass : lkI yX6_pass cX6_pass 2 (some .int) 1 := ⟨⟨lw_G_t4 (List.mem_of_getElem? (i := 82) rfl) rfl, ini_X6, by decide +kernel, by decide +kernel, by decide +kernel⟩, lw_G_t4 (List.mem_of_getElem? (i := 80) rfl) rfl, lw_G_t4 (List.mem_of_getElem? (i := 81) rfl) rfl⟩
theorem lk_X6_slip : lkI yX6_slip cX6_slip 8 (some .int) 7 := ⟨⟨lw_G_t4 (List.mem_of_getElem? (i := 88) rfl) rfl, ini_X6, by decide +kernel, by decide +kernel, by decide +kernel⟩, lw_G_t4 (List.mem_of_getElem? (i := 86) rfl) rfl, lw_G_t4 (List.mem_of_getElem? (i := 87) rfl) rfl⟩
theorem lk_X6_written : lkI yX6_written cX6_written 9 (some .int) 7 := ⟨⟨lw_G_t4 (List.mem_of_getElem? (i := 92) rfl) rfl, ini_X6, by decide +kernel, by decide +kernel, by decide +kernel⟩, lw_G_t4 (List.mem_of_getElem? (i := 91) rfl) rfl, lw_G_sel (n := 33) (List.mem_of_getElem? (i := 82) rfl) rfl⟩
theorem lk_X6_firstWrong : lkI yX6_firstWrong cX6_firstWrong 4 (some .int) 2 := ⟨⟨lw_G_t4 (List.mem_of_getElem? (i := 96) rfl) rfl, ini_X6, by decide +kernel, by decide +kernel, by decide +kernel⟩, lw_G_t4 (List.mem_of_getElem? (i := 95) rfl) rfl, lw_G_sel (n := 33) (List.mem_of_getElem? (i := 83) rfl) rfl⟩
theorem lk_X6_sort : lkI yX6_sort cX6_sort 5 none 2 := ⟨⟨lw_G_t4 (List.mem_of_getElem? (i := 100) rfl) rfl, ini_X6, by decide +kernel, by decide +kernel, by decide +kernel⟩, lw_G_t4 (List.mem_of_getElem? (i := 99) rfl) rfl, lw_G_sel (n := 33) (List.mem_of_getElem? (i := 84) rfl) rfl⟩
theorem lk_X6_isSlip : lkI yX6_isSlip cX6_isSlip 3 (some .boolean) 2 := ⟨⟨lw_G_t4 (List.mem_of_getElem? (i := 104) rfl) rfl, ini_X6, by decide +kernel, by decide +kernel, by decide +kernel⟩, lw_G_t4 (List.mem_of_getElem? (i := 103) rfl) rfl, lw_G_sel (n := 33) (List.mem_of_getElem? (i := 85) rfl) rfl⟩
theorem lk_X6_isDone : lkI yX6_isDone cX6_isDone 9 (some .boolean) 2 := ⟨⟨lw_G_t4 (List.mem_of_getElem? (i := 108) rfl) rfl, ini_X6, by decide +kernel, by decide +kernel, by decide +kernel⟩, lw_G_t4 (List.mem_of_getElem? (i := 107) rfl) rfl, lw_G_sel (n := 33) (List.mem_of_getElem? (i := 86) rfl) rfl⟩
theorem lk_X6_comesIn : lkI yX6_comesIn cX6_comesIn 6 (some .boolean) 5 := ⟨⟨lw_G_t4 (List.mem_of_getElem? (i := 112) rfl) rfl, ini_X6, by decide +kernel, by decide +kernel, by decide +kernel⟩, lw_G_t4 (List.mem_of_getElem? (i := 111) rfl) rfl, lw_G_sel (n := 33) (List.mem_of_getElem? (i := 87) rfl) rfl⟩
theorem lk_X6_hasKeepers : lkI yX6_hasKeepers cX6_hasKeepers 4 (some .boolean) 3 := ⟨⟨lw_G_t4 (List.mem_of_getElem? (i := 116) rfl) rfl, ini_X6, by decide +kernel, by decide +kernel, by decide +kernel⟩, lw_G_t4 (List.mem_of_getElem? (i := 115) rfl) rfl, lw_G_sel (n := 33) (List.mem_of_getElem? (i := 88) rfl) rfl⟩
theorem lk_X6_isKeeper : lkI yX6_isKeeper cX6_isKeeper 2 (some .boolean) 1 := ⟨⟨lw_G_t4 (List.mem_of_getElem? (i := 120) rfl) rfl, ini_X6, by decide +kernel, by decide +kernel, by decide +kernel⟩, lw_G_t4 (List.mem_of_getElem? (i := 119) rfl) rfl, lw_G_sel (n := 33) (List.mem_of_getElem? (i := 89) rfl) rfl⟩
theorem lk_X6_isHand : lkI yX6_isHand cX6_isHand 2 (some .boolean) 1 := ⟨⟨lw_G_t4 (List.mem_of_getElem? (i := 124) rfl) rfl, ini_X6, by decide +kernel, by decide +kernel, by decide +kernel⟩, lw_G_t4 (List.mem_of_getElem? (i := 123) rfl) rfl, lw_G_sel (n := 33) (List.mem_of_getElem? (i := 90) rfl) rfl⟩
theorem lk_X6_fits : lkI yX6_fits cX6_fits 3 (some .boolean) 2 := ⟨⟨lw_G_t4 (List.mem_of_getElem? (i := 128) rfl) rfl, ini_X6, by decide +kernel, by decide +kernel, by decide +kernel⟩, lw_G_t4 (List.mem_of_getElem? (i := 127) rfl) rfl, lw_G_sel (n := 33) (List.mem_of_getElem? (i := 91) rfl) rfl⟩
theorem lk_X6_isEmpty : lkI yX6_isEmpty cX6_isEmpty 3 (some .boolean) 1 := ⟨⟨lw_G_t4 (List.mem_of_getElem? (i := 132) rfl) rfl, ini_X6, by decide +kernel, by decide +kernel, by decide +kernel⟩, lw_G_t4 (List.mem_of_getElem? (i := 131) rfl) rfl, lw_G_sel (n := 33) (List.mem_of_getElem? (i := 92) rfl) rfl⟩
theorem lk_X6_go : lkI yX6_go cX6_go 4 none 3 := ⟨⟨lw_G_t4 (List.mem_of_getElem? (i := 136) rfl) rfl, ini_X6, by decide +kernel, by decide +kernel, by decide +kernel⟩, lw_G_t4 (List.mem_of_getElem? (i := 135) rfl) rfl, lw_G_sel (n := 33) (List.mem_of_getElem? (i := 93) rfl) rfl⟩
theorem lk_X6_isKept : lkI yX6_isKept cX6_isKept 2 (some .boolean) 1 := ⟨⟨lw_G_t4 (List.mem_of_getElem? (i := 140) rfl) rfl, ini_X6, by decide +kernel, by decide +kernel, by decide +kernel⟩, lw_G_t4 (List.mem_of_getElem? (i := 139) rfl) rfl, lw_G_sel (n := 33) (List.mem_of_getElem? (i := 94) rfl) rfl⟩
theorem lk_X6_moves : lkI yX6_moves cX6_moves 9 (some .boolean) 6 := ⟨⟨lw_G_t4 (List.mem_of_getElem? (i := 144) rfl) rfl, ini_X6, by decide +kernel, by decide +kernel, by decide +kernel⟩, lw_G_t4 (List.mem_of_getElem? (i := 143) rfl) rfl, lw_G_sel (n := 33) (List.mem_of_getElem? (i := 95) rfl) rfl⟩
theorem lk_X6_goesInto : lkI yX6_goesInto cX6_goesInto 8 (some .boolean) 4 := ⟨⟨lw_G_t4 (List.mem_of_getElem? (i := 148) rfl) rfl, ini_X6, by decide +kernel, by decide +kernel, by decide +kernel⟩, lw_G_t4 (List.mem_of_getElem? (i := 147) rfl) rfl, lw_G_sel (n := 33) (List.mem_of_getElem? (i := 96) rfl) rfl⟩
theorem lk_X6_isBag : lkI yX6_isBag cX6_isBag 2 (some .boolean) 1 := ⟨⟨lw_G_t4 (List.mem_of_getElem? (i := 152) rfl) rfl, ini_X6, by decide +kernel, by decide +kernel, by decide +kernel⟩, lw_G_t4 (List.mem_of_getElem? (i := 151) rfl) rfl, lw_G_sel (n := 33) (List.mem_of_getElem? (i := 97) rfl) rfl⟩
theorem lk_X6_isWithin : lkI yX6_isWithin cX6_isWithin 4 (some .boolean) 2 := ⟨⟨lw_G_t4 (List.mem_of_getElem? (i := 156) rfl) rfl, ini_X6, by decide +kernel, by decide +kernel, by decide +kernel⟩, lw_G_t4 (List.mem_of_getElem? (i := 155) rfl) rfl, lw_G_sel (n := 33) (List.mem_of_getElem? (i := 98) rfl) rfl⟩
theorem lk_X6_inside : lkI yX6_inside cX6_inside 4 (some .int) 1 := ⟨⟨lw_G_t4 (List.mem_of_getElem? (i := 160) rfl) rfl, ini_X6, by decide +kernel, by decide +kernel, by decide +kernel⟩, lw_G_t4 (List.mem_of_getElem? (i := 159) rfl) rfl, lw_G_sel (n := 33) (List.mem_of_getElem? (i := 99) rfl) rfl⟩
theorem lk_X6_depth : lkI yX6_depth cX6_depth 4 (some .int) 1 := ⟨⟨lw_G_t4 (List.mem_of_getElem? (i := 164) rfl) rfl, ini_X6, by decide +kernel, by decide +kernel, by decide +kernel⟩, lw_G_t4 (List.mem_of_getElem? (i := 163) rfl) rfl, lw_G_sel (n := 33) (List.mem_of_getElem? (i := 100) rfl) rfl⟩
theorem lk_X6_goesFrom : lkI yX6_goesFrom cX6_goesFrom 6 (some .boolean) 4 := ⟨⟨lw_G_t4 (List.mem_of_getElem? (i := 168) rfl) rfl, ini_X6, by decide +kernel, by decide +kernel, by decide +kernel⟩, lw_G_t4 (List.mem_of_getElem? (i := 167) rfl) rfl, lw_G_sel (n := 33) (List.mem_of_getElem? (i := 101) rfl) rfl⟩
theorem lk_X6_isSealing : lkI yX6_isSealing cX6_isSealing 6 (some .boolean) 5 := ⟨⟨lw_G_t4 (List.mem_of_getElem? (i := 172) rfl) rfl, ini_X6, by decide +kernel, by decide +kernel, by decide +kernel⟩, lw_G_t4 (List.mem_of_getElem? (i := 171) rfl) rfl, lw_G_sel (n := 33) (List.mem_of_getElem? (i := 102) rfl) rfl⟩
theorem lk_X6_isSeal : lkI yX6_isSeal cX6_isSeal 2 (some .boolean) 1 := ⟨⟨lw_G_t4 (List.mem_of_getElem? (i := 176) rfl) rfl, ini_X6, by decide +kernel, by decide +kernel, by decide +kernel⟩, lw_G_t4 (List.mem_of_getElem? (i := 175) rfl) rfl, lw_G_sel (n := 33) (List.mem_of_getElem? (i := 103) rfl) rfl⟩
theorem lk_X6_takes : lkI yX6_takes cX6_takes 7 (some .boolean) 6 := ⟨⟨lw_G_t4 (List.mem_of_getElem? (i := 180) rfl) rfl, ini_X6, by decide +kernel, by decide +kernel, by decide +kernel⟩, lw_G_t4 (List.mem_of_getElem? (i := 179) rfl) rfl, lw_G_sel (n := 33) (List.mem_of_getElem? (i := 104) rfl) rfl⟩
theorem lk_X6_isFree : lkI yX6_isFree cX6_isFree 3 (some .boolean) 1 := ⟨⟨lw_G_t4 (List.mem_of_getElem? (i := 184) rfl) rfl, ini_X6, by decide +kernel, by decide +kernel, by decide +kernel⟩, lw_G_t4 (List.mem_of_getElem? (i := 183) rfl) rfl, lw_G_sel (n := 33) (List.mem_of_getElem? (i := 105) rfl) rfl⟩
theorem lk_X6_orders : lkI yX6_orders cX6_orders 4 (some .boolean) 3 := ⟨⟨lw_G_t4 (List.mem_of_getElem? (i := 188) rfl) rfl, ini_X6, by decide +kernel, by decide +kernel, by decide +kernel⟩, lw_G_t4 (List.mem_of_getElem? (i := 187) rfl) rfl, lw_G_sel (n := 33) (List.mem_of_getElem? (i := 106) rfl) rfl⟩
theorem lk_X6_isDestroyed : lkI yX6_isDestroyed cX6_isDestroyed 7 (some .boolean) 5 := ⟨⟨lw_G_t4 (List.mem_of_getElem? (i := 192) rfl) rfl, ini_X6, by decide +kernel, by decide +kernel, by decide +kernel⟩, lw_G_t4 (List.mem_of_getElem? (i := 191) rfl) rfl, lw_G_sel (n := 33) (List.mem_of_getElem? (i := 107) rfl) rfl⟩
theorem lk_X6_isOf : lkI yX6_isOf cX6_isOf 4 (some .boolean) 2 := ⟨⟨lw_G_t4 (List.mem_of_getElem? (i := 196) rfl) rfl, ini_X6, by decide +kernel, by decide +kernel, by decide +kernel⟩, lw_G_t4 (List.mem_of_getElem? (i := 195) rfl) rfl, lw_G_sel (n := 33) (List.mem_of_getElem? (i := 108) rfl) rfl⟩
theorem lk_X6_isFound : lkI yX6_isFound cX6_isFound 4 (some .boolean) 3 := ⟨⟨lw_G_t4 (List.mem_of_getElem? (i := 200) rfl) rfl, ini_X6, by decide +kernel, by decide +kernel, by decide +kernel⟩, lw_G_t4 (List.mem_of_getElem? (i := 199) rfl) rfl, lw_G_sel (n := 33) (List.mem_of_getElem? (i := 109) rfl) rfl⟩
theorem lk_X6_fault : lkI yX6_fault cX6_fault 2 (some .int) 1 := ⟨⟨lw_G_t4 (List.mem_of_getElem? (i := 204) rfl) rfl, ini_X6, by decide +kernel, by decide +kernel, by decide +kernel⟩, lw_G_t4 (List.mem_of_getElem? (i := 202) rfl) rfl, lw_G_t4 (List.mem_of_getElem? (i := 203) rfl) rfl⟩
theorem lk_X6_handing : lkI yX6_handing cX6_handing 6 (some .int) 4 := ⟨⟨lw_G_t4 (List.mem_of_getElem? (i := 208) rfl) rfl, ini_X6, by decide +kernel, by decide +kernel, by decide +kernel⟩, lw_G_t4 (List.mem_of_getElem? (i := 206) rfl) rfl, lw_G_t4 (List.mem_of_getElem? (i := 207) rfl) rfl⟩
theorem lk_X6_yes : lkI yX6_yes cX6_yes 9 (some .int) 3 := ⟨⟨lw_G_t4 (List.mem_of_getElem? (i := 212) rfl) rfl, ini_X6, by decide +kernel, by decide +kernel, by decide +kernel⟩, lw_G_t4 (List.mem_of_getElem? (i := 210) rfl) rfl, lw_G_t4 (List.mem_of_getElem? (i := 211) rfl) rfl⟩
theorem lk_X6_sayer : lkI yX6_sayer cX6_sayer 3 (some .int) 2 := ⟨⟨lw_G_t4 (List.mem_of_getElem? (i := 216) rfl) rfl, ini_X6, by decide +kernel, by decide +kernel, by decide +kernel⟩, lw_G_t4 (List.mem_of_getElem? (i := 215) rfl) rfl, lw_G_sel (n := 33) (List.mem_of_getElem? (i := 110) rfl) rfl⟩
theorem lk_X6_no : lkI yX6_no cX6_no 3 (some .boolean) 2 := ⟨⟨lw_G_t4 (List.mem_of_getElem? (i := 220) rfl) rfl, ini_X6, by decide +kernel, by decide +kernel, by decide +kernel⟩, lw_G_t4 (List.mem_of_getElem? (i := 218) rfl) rfl, lw_G_t4 (List.mem_of_getElem? (i := 219) rfl) rfl⟩
theorem lk_X6_about : lkI yX6_about cX6_about 2 (some .int) 1 := ⟨⟨lw_G_t4 (List.mem_of_getElem? (i := 224) rfl) rfl, ini_X6, by decide +kernel, by decide +kernel, by decide +kernel⟩, lw_G_t4 (List.mem_of_getElem? (i := 222) rfl) rfl, lw_G_t4 (List.mem_of_getElem? (i := 223) rfl) rfl⟩
theorem lk_X6_slipOf : lkI yX6_slipOf cX6_slipOf 4 (some .int) 2 := ⟨⟨lw_G_t4 (List.mem_of_getElem? (i := 228) rfl) rfl, ini_X6, by decide +kernel, by decide +kernel, by decide +kernel⟩, lw_G_t4 (List.mem_of_getElem? (i := 226) rfl) rfl, lw_G_t4 (List.mem_of_getElem? (i := 227) rfl) rfl⟩
theorem lk_X6_where : lkI yX6_where cX6_where 5 (some .int) 4 := ⟨⟨lw_G_t4 (List.mem_of_getElem? (i := 232) rfl) rfl, ini_X6, by decide +kernel, by decide +kernel, by decide +kernel⟩, lw_G_t4 (List.mem_of_getElem? (i := 230) rfl) rfl, lw_G_t4 (List.mem_of_getElem? (i := 231) rfl) rfl⟩
theorem lk_X6_goOver : lkI yX6_goOver cX6_goOver 4 none 2 := ⟨⟨lw_G_t4 (List.mem_of_getElem? (i := 236) rfl) rfl, ini_X6, by decide +kernel, by decide +kernel, by decide +kernel⟩, lw_G_t4 (List.mem_of_getElem? (i := 235) rfl) rfl, lw_G_sel (n := 33) (List.mem_of_getElem? (i := 111) rfl) rfl⟩
theorem lk_X6_outermost : lkI yX6_outermost cX6_outermost 3 (some .int) 1 := ⟨⟨lw_G_t5 (List.mem_of_getElem? (i := 0) rfl) rfl, ini_X6, by decide +kernel, by decide +kernel, by decide +kernel⟩, lw_G_t4 (List.mem_of_getElem? (i := 239) rfl) rfl, lw_G_sel (n := 33) (List.mem_of_getElem? (i := 112) rfl) rfl⟩
theorem lk_X6_bits : lkI yX6_bits cX6_bits 4 (some .int) 1 := ⟨⟨lw_G_t5 (List.mem_of_getElem? (i := 4) rfl) rfl, ini_X6, by decide +kernel, by decide +kernel, by decide +kernel⟩, lw_G_t5 (List.mem_of_getElem? (i := 3) rfl) rfl, lw_G_sel (n := 33) (List.mem_of_getElem? (i := 113) rfl) rfl⟩
theorem lk_X6_chain : lkI yX6_chain cX6_chain 3 (some .int) 2 := ⟨⟨lw_G_t5 (List.mem_of_getElem? (i := 8) rfl) rfl, ini_X6, by decide +kernel, by decide +kernel, by decide +kernel⟩, lw_G_t5 (List.mem_of_getElem? (i := 6) rfl) rfl, lw_G_t5 (List.mem_of_getElem? (i := 7) rfl) rfl⟩
theorem lk_X6_makeChain : lkI yX6_makeChain cX6_makeChain 8 none 1 := ⟨⟨lw_G_t5 (List.mem_of_getElem? (i := 12) rfl) rfl, ini_X6, by decide +kernel, by decide +kernel, by decide +kernel⟩, lw_G_t5 (List.mem_of_getElem? (i := 11) rfl) rfl, lw_G_sel (n := 33) (List.mem_of_getElem? (i := 114) rfl) rfl⟩
theorem lk_X6_cameAt : lkI yX6_cameAt cX6_cameAt 4 (some .int) 1 := ⟨⟨lw_G_t5 (List.mem_of_getElem? (i := 16) rfl) rfl, ini_X6, by decide +kernel, by decide +kernel, by decide +kernel⟩, lw_G_t5 (List.mem_of_getElem? (i := 15) rfl) rfl, lw_G_sel (n := 33) (List.mem_of_getElem? (i := 115) rfl) rfl⟩
theorem lk_X6_put : lkI yX6_put cX6_put 2 none 1 := ⟨⟨lw_G_t5 (List.mem_of_getElem? (i := 20) rfl) rfl, ini_X6, by decide +kernel, by decide +kernel, by decide +kernel⟩, lw_G_t5 (List.mem_of_getElem? (i := 19) rfl) rfl, lw_G_sel (n := 33) (List.mem_of_getElem? (i := 116) rfl) rfl⟩
theorem lk_X6_isMove : lkG yX6_isMove cX6_isMove 1 (some .boolean) 1 := ⟨lw_G_t5 (List.mem_of_getElem? (i := 23) rfl) rfl, ini_X6, by decide +kernel, by decide +kernel, by decide +kernel⟩
theorem sy_X6_isMove : Cond.static yX6_isMove ∈ lw_G := lw_G_t5 (List.mem_of_getElem? (i := 22) rfl) rfl
theorem lk_X6_gap : lkI yX6_gap cX6_gap 6 (some .int) 3 := ⟨⟨lw_G_t5 (List.mem_of_getElem? (i := 27) rfl) rfl, ini_X6, by decide +kernel, by decide +kernel, by decide +kernel⟩, lw_G_t5 (List.mem_of_getElem? (i := 25) rfl) rfl, lw_G_t5 (List.mem_of_getElem? (i := 26) rfl) rfl⟩
theorem lk_X6_breaks : lkI yX6_breaks cX6_breaks 4 (some .int) 1 := ⟨⟨lw_G_t5 (List.mem_of_getElem? (i := 31) rfl) rfl, ini_X6, by decide +kernel, by decide +kernel, by decide +kernel⟩, lw_G_t5 (List.mem_of_getElem? (i := 29) rfl) rfl, lw_G_t5 (List.mem_of_getElem? (i := 30) rfl) rfl⟩
theorem lk_X6_due : lkI yX6_due cX6_due 5 (some .int) 2 := ⟨⟨lw_G_t5 (List.mem_of_getElem? (i := 35) rfl) rfl, ini_X6, by decide +kernel, by decide +kernel, by decide +kernel⟩, lw_G_t5 (List.mem_of_getElem? (i := 33) rfl) rfl, lw_G_t5 (List.mem_of_getElem? (i := 34) rfl) rfl⟩
theorem lk_X6_goOverAll : lkI yX6_goOverAll cX6_goOverAll 1 none 0 := ⟨⟨lw_G_t5 (List.mem_of_getElem? (i := 39) rfl) rfl, ini_X6, by decide +kernel, by decide +kernel, by decide +kernel⟩, lw_G_t5 (List.mem_of_getElem? (i := 38) rfl) rfl, lw_G_sel (n := 33) (List.mem_of_getElem? (i := 117) rfl) rfl⟩
theorem lk_X6_freeze : lkI yX6_freeze cX6_freeze 2 (some .int) 0 := ⟨⟨lw_G_t5 (List.mem_of_getElem? (i := 44) rfl) rfl, ini_X6, by decide +kernel, by decide +kernel, by decide +kernel⟩, lw_G_t5 (List.mem_of_getElem? (i := 42) rfl) rfl, lw_G_t5 (List.mem_of_getElem? (i := 43) rfl) rfl⟩
theorem lk_X6_alter : lkI yX6_alter cX6_alter 4 (some .boolean) 3 := ⟨⟨lw_G_t5 (List.mem_of_getElem? (i := 48) rfl) rfl, ini_X6, by decide +kernel, by decide +kernel, by decide +kernel⟩, lw_G_t5 (List.mem_of_getElem? (i := 46) rfl) rfl, lw_G_t5 (List.mem_of_getElem? (i := 47) rfl) rfl⟩
theorem lk_X6_check : lkI yX6_check cX6_check 1 (some .int) 0 := ⟨⟨lw_G_t5 (List.mem_of_getElem? (i := 52) rfl) rfl, ini_X6, by decide +kernel, by decide +kernel, by decide +kernel⟩, lw_G_t5 (List.mem_of_getElem? (i := 50) rfl) rfl, lw_G_t5 (List.mem_of_getElem? (i := 51) rfl) rfl⟩
theorem lk_X6_thaw : lkI yX6_thaw cX6_thaw 2 (some .boolean) 0 := ⟨⟨lw_G_t5 (List.mem_of_getElem? (i := 56) rfl) rfl, ini_X6, by decide +kernel, by decide +kernel, by decide +kernel⟩, lw_G_t5 (List.mem_of_getElem? (i := 54) rfl) rfl, lw_G_t5 (List.mem_of_getElem? (i := 55) rfl) rfl⟩
theorem ac_nat : Cond.native arraycopyName ∈ lw_G := lw_G_t2 (List.mem_of_getElem? (i := 32) rfl) rfl
theorem ac_st : Cond.static arraycopyName ∈ lw_G := lw_G_t2 (List.mem_of_getElem? (i := 31) rfl) rfl
