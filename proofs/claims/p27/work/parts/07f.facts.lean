theorem mw_10_0 : Cond.code yX6_wipe cX6_wipe 2 (some .int) ∈ wsL_law := mw_in10 (List.mem_of_getElem? (i := 0) rfl)
theorem mw_10_1 : Cond.methodLink RL 21 yX6_write ∈ wsL_law := mw_in10 (List.mem_of_getElem? (i := 1) rfl)
theorem mw_10_10 : Cond.methodLink RL 31 yX6_list ∈ wsL_law := mw_in10 (List.mem_of_getElem? (i := 10) rfl)
theorem mw_10_11 : Cond.instanceMethod yX6_list ∈ wsL_law := mw_in10 (List.mem_of_getElem? (i := 11) rfl)
theorem mw_10_12 : Cond.selects RX6 yX6_list yX6_list ∈ wsL_law := mw_in10 (List.mem_of_getElem? (i := 12) rfl)
theorem mw_10_13 : Cond.code yX6_list cX6_list 1 (some .int) ∈ wsL_law := mw_in10 (List.mem_of_getElem? (i := 13) rfl)
theorem mw_10_14 : Cond.methodLink RX6 100 yX4_readTrains ∈ wsL_law := mw_in10 (List.mem_of_getElem? (i := 14) rfl)
theorem mw_10_15 : Cond.instanceMethod yX4_readTrains ∈ wsL_law := mw_in10 (List.mem_of_getElem? (i := 15) rfl)
theorem mw_10_16 : Cond.selects RX4 yX4_readTrains yX4_readTrains ∈ wsL_law := mw_in10 (List.mem_of_getElem? (i := 16) rfl)
theorem mw_10_17 : Cond.code yX4_readTrains cX4_readTrains 3 (some .boolean) ∈ wsL_law := mw_in10 (List.mem_of_getElem? (i := 17) rfl)
theorem mw_10_18 : Cond.fieldLink RX4 28 "ShuntYard$Text" "found" "I" ∈ wsL_law := mw_in10 (List.mem_of_getElem? (i := 18) rfl)
theorem mw_10_19 : Cond.methodLink RX4 35 yX4_foundFault ∈ wsL_law := mw_in10 (List.mem_of_getElem? (i := 19) rfl)
theorem mw_10_2 : Cond.instanceMethod yX6_write ∈ wsL_law := mw_in10 (List.mem_of_getElem? (i := 2) rfl)
theorem mw_10_20 : Cond.instanceMethod yX4_foundFault ∈ wsL_law := mw_in10 (List.mem_of_getElem? (i := 20) rfl)
theorem mw_10_21 : Cond.selects RX4 yX4_foundFault yX4_foundFault ∈ wsL_law := mw_in10 (List.mem_of_getElem? (i := 21) rfl)
theorem mw_10_22 : Cond.code yX4_foundFault cX4_foundFault 3 (some .boolean) ∈ wsL_law := mw_in10 (List.mem_of_getElem? (i := 22) rfl)
theorem mw_10_23 : Cond.methodLink RX6 103 yX5_takeTrains ∈ wsL_law := mw_in10 (List.mem_of_getElem? (i := 23) rfl)
theorem mw_10_3 : Cond.selects RX6 yX6_write yX6_write ∈ wsL_law := mw_in10 (List.mem_of_getElem? (i := 3) rfl)
theorem mw_10_4 : Cond.code yX6_write cX6_write 2 (some .int) ∈ wsL_law := mw_in10 (List.mem_of_getElem? (i := 4) rfl)
theorem mw_10_5 : Cond.methodLink RX6 160 yX4_append ∈ wsL_law := mw_in10 (List.mem_of_getElem? (i := 5) rfl)
theorem mw_10_6 : Cond.instanceMethod yX4_append ∈ wsL_law := mw_in10 (List.mem_of_getElem? (i := 6) rfl)
theorem mw_10_7 : Cond.selects RX4 yX4_append yX4_append ∈ wsL_law := mw_in10 (List.mem_of_getElem? (i := 7) rfl)
theorem mw_10_8 : Cond.code yX4_append cX4_append 2 none ∈ wsL_law := mw_in10 (List.mem_of_getElem? (i := 8) rfl)
theorem mw_10_9 : Cond.fieldLink RX4 25 "ShuntYard$Text" "length" "I" ∈ wsL_law := mw_in10 (List.mem_of_getElem? (i := 9) rfl)
theorem mw_11_0 : Cond.instanceMethod yX5_takeTrains ∈ wsL_law := mw_in11 (List.mem_of_getElem? (i := 0) rfl)
theorem mw_11_1 : Cond.selects RX5 yX5_takeTrains yX5_takeTrains ∈ wsL_law := mw_in11 (List.mem_of_getElem? (i := 1) rfl)
theorem mw_11_10 : Cond.selects RX6 yX6_arrive yX6_arrive ∈ wsL_law := mw_in11 (List.mem_of_getElem? (i := 10) rfl)
theorem mw_11_11 : Cond.code yX6_arrive cX6_arrive 2 (some .int) ∈ wsL_law := mw_in11 (List.mem_of_getElem? (i := 11) rfl)
theorem mw_11_12 : Cond.fieldLink RX6 87 "ShuntYard$Yard" "length" "[I" ∈ wsL_law := mw_in11 (List.mem_of_getElem? (i := 12) rfl)
theorem mw_11_13 : Cond.fieldLink RX6 90 "ShuntYard$Text" "found" "I" ∈ wsL_law := mw_in11 (List.mem_of_getElem? (i := 13) rfl)
theorem mw_11_14 : Cond.methodLink RX6 76 yX5_hasTrack ∈ wsL_law := mw_in11 (List.mem_of_getElem? (i := 14) rfl)
theorem mw_11_15 : Cond.instanceMethod yX5_hasTrack ∈ wsL_law := mw_in11 (List.mem_of_getElem? (i := 15) rfl)
theorem mw_11_16 : Cond.selects RX5 yX5_hasTrack yX5_hasTrack ∈ wsL_law := mw_in11 (List.mem_of_getElem? (i := 16) rfl)
theorem mw_11_17 : Cond.code yX5_hasTrack cX5_hasTrack 2 (some .boolean) ∈ wsL_law := mw_in11 (List.mem_of_getElem? (i := 17) rfl)
theorem mw_11_18 : Cond.methodLink RX6 79 yX4_readWagons ∈ wsL_law := mw_in11 (List.mem_of_getElem? (i := 18) rfl)
theorem mw_11_19 : Cond.instanceMethod yX4_readWagons ∈ wsL_law := mw_in11 (List.mem_of_getElem? (i := 19) rfl)
theorem mw_11_2 : Cond.code yX5_takeTrains cX5_takeTrains 2 none ∈ wsL_law := mw_in11 (List.mem_of_getElem? (i := 2) rfl)
theorem mw_11_20 : Cond.selects RX4 yX4_readWagons yX4_readWagons ∈ wsL_law := mw_in11 (List.mem_of_getElem? (i := 20) rfl)
theorem mw_11_21 : Cond.code yX4_readWagons cX4_readWagons 6 (some .boolean) ∈ wsL_law := mw_in11 (List.mem_of_getElem? (i := 21) rfl)
theorem mw_11_22 : Cond.static yX6_wagonOf ∈ wsL_law := mw_in11 (List.mem_of_getElem? (i := 22) rfl)
theorem mw_11_23 : Cond.code yX6_wagonOf cX6_wagonOf 3 (some .int) ∈ wsL_law := mw_in11 (List.mem_of_getElem? (i := 23) rfl)
theorem mw_11_3 : Cond.fieldLink RX5 86 "ShuntYard$Text" "found" "I" ∈ wsL_law := mw_in11 (List.mem_of_getElem? (i := 3) rfl)
theorem mw_11_4 : Cond.fieldLink RX5 91 "ShuntYard$Text" "read" "[I" ∈ wsL_law := mw_in11 (List.mem_of_getElem? (i := 4) rfl)
theorem mw_11_5 : Cond.methodLink RL 43 yL_arrive ∈ wsL_law := mw_in11 (List.mem_of_getElem? (i := 5) rfl)
theorem mw_11_6 : Cond.static yL_arrive ∈ wsL_law := mw_in11 (List.mem_of_getElem? (i := 6) rfl)
theorem mw_11_7 : Cond.code yL_arrive cL_arrive 6 (some .int) ∈ wsL_law := mw_in11 (List.mem_of_getElem? (i := 7) rfl)
theorem mw_11_8 : Cond.methodLink RL 28 yX6_arrive ∈ wsL_law := mw_in11 (List.mem_of_getElem? (i := 8) rfl)
theorem mw_11_9 : Cond.instanceMethod yX6_arrive ∈ wsL_law := mw_in11 (List.mem_of_getElem? (i := 9) rfl)
theorem mw_12_0 : Cond.methodLink RX4 43 yX4_fillLatest ∈ wsL_law := mw_in12 (List.mem_of_getElem? (i := 0) rfl)
theorem mw_12_1 : Cond.instanceMethod yX4_fillLatest ∈ wsL_law := mw_in12 (List.mem_of_getElem? (i := 1) rfl)
theorem mw_12_10 : Cond.selects RX5 yX5_takeIn yX5_takeIn ∈ wsL_law := mw_in12 (List.mem_of_getElem? (i := 10) rfl)
theorem mw_12_11 : Cond.code yX5_takeIn cX5_takeIn 5 none ∈ wsL_law := mw_in12 (List.mem_of_getElem? (i := 11) rfl)
theorem mw_12_12 : Cond.methodLink RL 46 yX6_test ∈ wsL_law := mw_in12 (List.mem_of_getElem? (i := 12) rfl)
theorem mw_12_13 : Cond.instanceMethod yX6_test ∈ wsL_law := mw_in12 (List.mem_of_getElem? (i := 13) rfl)
theorem mw_12_14 : Cond.selects RX6 yX6_test yX6_test ∈ wsL_law := mw_in12 (List.mem_of_getElem? (i := 14) rfl)
theorem mw_12_15 : Cond.code yX6_test cX6_test 2 (some .int) ∈ wsL_law := mw_in12 (List.mem_of_getElem? (i := 15) rfl)
theorem mw_12_16 : Cond.methodLink RX6 117 yX5_testBrakes ∈ wsL_law := mw_in12 (List.mem_of_getElem? (i := 16) rfl)
theorem mw_12_17 : Cond.instanceMethod yX5_testBrakes ∈ wsL_law := mw_in12 (List.mem_of_getElem? (i := 17) rfl)
theorem mw_12_18 : Cond.selects RX5 yX5_testBrakes yX5_testBrakes ∈ wsL_law := mw_in12 (List.mem_of_getElem? (i := 18) rfl)
theorem mw_12_19 : Cond.code yX5_testBrakes cX5_testBrakes 3 (some .int) ∈ wsL_law := mw_in12 (List.mem_of_getElem? (i := 19) rfl)
theorem mw_12_2 : Cond.selects RX4 yX4_fillLatest yX4_fillLatest ∈ wsL_law := mw_in12 (List.mem_of_getElem? (i := 2) rfl)
theorem mw_12_20 : Cond.methodLink RL 49 yX6_pause ∈ wsL_law := mw_in12 (List.mem_of_getElem? (i := 20) rfl)
theorem mw_12_21 : Cond.instanceMethod yX6_pause ∈ wsL_law := mw_in12 (List.mem_of_getElem? (i := 21) rfl)
theorem mw_12_22 : Cond.selects RX6 yX6_pause yX6_pause ∈ wsL_law := mw_in12 (List.mem_of_getElem? (i := 22) rfl)
theorem mw_12_23 : Cond.code yX6_pause cX6_pause 2 (some .int) ∈ wsL_law := mw_in12 (List.mem_of_getElem? (i := 23) rfl)
theorem mw_12_3 : Cond.code yX4_fillLatest cX4_fillLatest 4 none ∈ wsL_law := mw_in12 (List.mem_of_getElem? (i := 3) rfl)
theorem mw_12_4 : Cond.methodLink RX6 83 yX5_isSafeWith ∈ wsL_law := mw_in12 (List.mem_of_getElem? (i := 4) rfl)
theorem mw_12_5 : Cond.instanceMethod yX5_isSafeWith ∈ wsL_law := mw_in12 (List.mem_of_getElem? (i := 5) rfl)
theorem mw_12_6 : Cond.selects RX5 yX5_isSafeWith yX5_isSafeWith ∈ wsL_law := mw_in12 (List.mem_of_getElem? (i := 6) rfl)
theorem mw_12_7 : Cond.code yX5_isSafeWith cX5_isSafeWith 4 (some .boolean) ∈ wsL_law := mw_in12 (List.mem_of_getElem? (i := 7) rfl)
theorem mw_12_8 : Cond.methodLink RX6 96 yX5_takeIn ∈ wsL_law := mw_in12 (List.mem_of_getElem? (i := 8) rfl)
theorem mw_12_9 : Cond.instanceMethod yX5_takeIn ∈ wsL_law := mw_in12 (List.mem_of_getElem? (i := 9) rfl)
theorem mw_13_0 : Cond.methodLink RL 52 yX6_depart ∈ wsL_law := mw_in13 (List.mem_of_getElem? (i := 0) rfl)
theorem mw_13_1 : Cond.instanceMethod yX6_depart ∈ wsL_law := mw_in13 (List.mem_of_getElem? (i := 1) rfl)
theorem mw_13_10 : Cond.selects RX5 yX5_testHoldsFor yX5_testHoldsFor ∈ wsL_law := mw_in13 (List.mem_of_getElem? (i := 10) rfl)
theorem mw_13_11 : Cond.code yX5_testHoldsFor cX5_testHoldsFor 2 (some .int) ∈ wsL_law := mw_in13 (List.mem_of_getElem? (i := 11) rfl)
theorem mw_13_12 : Cond.methodLink RX5 139 Lib.Math.max.name ∈ wsL_law := mw_in13 (List.mem_of_getElem? (i := 12) rfl)
theorem mw_13_13 : Cond.static Lib.Math.max.name ∈ wsL_law := mw_in13 (List.mem_of_getElem? (i := 13) rfl)
theorem mw_13_14 : Cond.code Lib.Math.max.name Lib.Math.max.code 2 (some .int) ∈ wsL_law := mw_in13 (List.mem_of_getElem? (i := 14) rfl)
theorem mw_13_15 : Cond.methodLink RX6 126 yX5_sendOff ∈ wsL_law := mw_in13 (List.mem_of_getElem? (i := 15) rfl)
theorem mw_13_16 : Cond.instanceMethod yX5_sendOff ∈ wsL_law := mw_in13 (List.mem_of_getElem? (i := 16) rfl)
theorem mw_13_17 : Cond.selects RX5 yX5_sendOff yX5_sendOff ∈ wsL_law := mw_in13 (List.mem_of_getElem? (i := 17) rfl)
theorem mw_13_18 : Cond.code yX5_sendOff cX5_sendOff 3 (some .int) ∈ wsL_law := mw_in13 (List.mem_of_getElem? (i := 18) rfl)
theorem mw_13_19 : Cond.methodLink RL 55 yX6_makeUp ∈ wsL_law := mw_in13 (List.mem_of_getElem? (i := 19) rfl)
theorem mw_13_2 : Cond.selects RX6 yX6_depart yX6_depart ∈ wsL_law := mw_in13 (List.mem_of_getElem? (i := 2) rfl)
theorem mw_13_20 : Cond.instanceMethod yX6_makeUp ∈ wsL_law := mw_in13 (List.mem_of_getElem? (i := 20) rfl)
theorem mw_13_21 : Cond.selects RX6 yX6_makeUp yX6_makeUp ∈ wsL_law := mw_in13 (List.mem_of_getElem? (i := 21) rfl)
theorem mw_13_22 : Cond.code yX6_makeUp cX6_makeUp 5 (some .int) ∈ wsL_law := mw_in13 (List.mem_of_getElem? (i := 22) rfl)
theorem mw_13_23 : Cond.fieldLink RX6 133 "ShuntYard$Search" "best" "LShuntYard$Row;" ∈ wsL_law := mw_in13 (List.mem_of_getElem? (i := 23) rfl)
theorem mw_13_3 : Cond.code yX6_depart cX6_depart 3 (some .int) ∈ wsL_law := mw_in13 (List.mem_of_getElem? (i := 3) rfl)
theorem mw_13_4 : Cond.methodLink RX6 123 yX5_refusal ∈ wsL_law := mw_in13 (List.mem_of_getElem? (i := 4) rfl)
theorem mw_13_5 : Cond.instanceMethod yX5_refusal ∈ wsL_law := mw_in13 (List.mem_of_getElem? (i := 5) rfl)
theorem mw_13_6 : Cond.selects RX5 yX5_refusal yX5_refusal ∈ wsL_law := mw_in13 (List.mem_of_getElem? (i := 6) rfl)
theorem mw_13_7 : Cond.code yX5_refusal cX5_refusal 2 (some .int) ∈ wsL_law := mw_in13 (List.mem_of_getElem? (i := 7) rfl)
theorem mw_13_8 : Cond.methodLink RX5 153 yX5_testHoldsFor ∈ wsL_law := mw_in13 (List.mem_of_getElem? (i := 8) rfl)
theorem mw_13_9 : Cond.instanceMethod yX5_testHoldsFor ∈ wsL_law := mw_in13 (List.mem_of_getElem? (i := 9) rfl)
theorem mw_14_0 : Cond.fieldLink RX6 137 "ShuntYard$Row" "moves" "I" ∈ wsL_law := mw_in14 (List.mem_of_getElem? (i := 0) rfl)
theorem mw_14_1 : Cond.fieldLink RX6 142 "ShuntYard$Row" "from" "[I" ∈ wsL_law := mw_in14 (List.mem_of_getElem? (i := 1) rfl)
theorem mw_14_10 : Cond.fieldLink RX3 53 "ShuntYard$Yard" "capacity" "I" ∈ wsL_law := mw_in14 (List.mem_of_getElem? (i := 10) rfl)
theorem mw_14_11 : Cond.methodLink RX3 60 Lib.Math.min.name ∈ wsL_law := mw_in14 (List.mem_of_getElem? (i := 11) rfl)
theorem mw_14_12 : Cond.methodLink RX3 42 yX2_clear ∈ wsL_law := mw_in14 (List.mem_of_getElem? (i := 12) rfl)
theorem mw_14_13 : Cond.instanceMethod yX2_clear ∈ wsL_law := mw_in14 (List.mem_of_getElem? (i := 13) rfl)
theorem mw_14_14 : Cond.selects RX2 yX2_clear yX2_clear ∈ wsL_law := mw_in14 (List.mem_of_getElem? (i := 14) rfl)
theorem mw_14_15 : Cond.code yX2_clear cX2_clear 1 none ∈ wsL_law := mw_in14 (List.mem_of_getElem? (i := 15) rfl)
theorem mw_14_16 : Cond.fieldLink RX2 21 "ShuntYard$Row" "moves" "I" ∈ wsL_law := mw_in14 (List.mem_of_getElem? (i := 16) rfl)
theorem mw_14_17 : Cond.fieldLink RX2 25 "ShuntYard$Row" "minutes" "I" ∈ wsL_law := mw_in14 (List.mem_of_getElem? (i := 17) rfl)
theorem mw_14_18 : Cond.methodLink RX3 49 yX5_forFirstInYard ∈ wsL_law := mw_in14 (List.mem_of_getElem? (i := 18) rfl)
theorem mw_14_19 : Cond.methodLink RX3 56 yX5_copyFrom ∈ wsL_law := mw_in14 (List.mem_of_getElem? (i := 19) rfl)
theorem mw_14_2 : Cond.fieldLink RX6 145 "ShuntYard$Row" "to" "[I" ∈ wsL_law := mw_in14 (List.mem_of_getElem? (i := 2) rfl)
theorem mw_14_20 : Cond.methodLink RX3 66 yX3_seek ∈ wsL_law := mw_in14 (List.mem_of_getElem? (i := 20) rfl)
theorem mw_14_21 : Cond.instanceMethod yX3_seek ∈ wsL_law := mw_in14 (List.mem_of_getElem? (i := 21) rfl)
theorem mw_14_22 : Cond.selects RX3 yX3_seek yX3_seek ∈ wsL_law := mw_in14 (List.mem_of_getElem? (i := 22) rfl)
theorem mw_14_23 : Cond.code yX3_seek cX3_seek 8 none ∈ wsL_law := mw_in14 (List.mem_of_getElem? (i := 23) rfl)
theorem mw_14_3 : Cond.fieldLink RX6 148 "ShuntYard$Row" "n" "[I" ∈ wsL_law := mw_in14 (List.mem_of_getElem? (i := 3) rfl)
theorem mw_14_4 : Cond.methodLink RX6 129 yX3_succeeds ∈ wsL_law := mw_in14 (List.mem_of_getElem? (i := 4) rfl)
theorem mw_14_5 : Cond.instanceMethod yX3_succeeds ∈ wsL_law := mw_in14 (List.mem_of_getElem? (i := 5) rfl)
theorem mw_14_6 : Cond.selects RX3 yX3_succeeds yX3_succeeds ∈ wsL_law := mw_in14 (List.mem_of_getElem? (i := 6) rfl)
theorem mw_14_7 : Cond.code yX3_succeeds cX3_succeeds 4 (some .boolean) ∈ wsL_law := mw_in14 (List.mem_of_getElem? (i := 7) rfl)
theorem mw_14_8 : Cond.fieldLink RX3 38 "ShuntYard$Search" "hasBest" "Z" ∈ wsL_law := mw_in14 (List.mem_of_getElem? (i := 8) rfl)
theorem mw_14_9 : Cond.fieldLink RX3 45 "ShuntYard$Yard" "trains" "I" ∈ wsL_law := mw_in14 (List.mem_of_getElem? (i := 9) rfl)
theorem mw_15_0 : Cond.fieldLink RX3 83 "ShuntYard$Yard" "tracks" "I" ∈ wsL_law := mw_in15 (List.mem_of_getElem? (i := 0) rfl)
theorem mw_15_1 : Cond.fieldLink RX3 86 "ShuntYard$Yard" "length" "[I" ∈ wsL_law := mw_in15 (List.mem_of_getElem? (i := 1) rfl)
theorem mw_15_10 : Cond.code yX2_isCheaperThan cX2_isCheaperThan 2 (some .boolean) ∈ wsL_law := mw_in15 (List.mem_of_getElem? (i := 10) rfl)
theorem mw_15_11 : Cond.methodLink RX3 112 yX2_copyFrom ∈ wsL_law := mw_in15 (List.mem_of_getElem? (i := 11) rfl)
theorem mw_15_12 : Cond.instanceMethod yX2_copyFrom ∈ wsL_law := mw_in15 (List.mem_of_getElem? (i := 12) rfl)
theorem mw_15_13 : Cond.selects RX2 yX2_copyFrom yX2_copyFrom ∈ wsL_law := mw_in15 (List.mem_of_getElem? (i := 13) rfl)
theorem mw_15_14 : Cond.code yX2_copyFrom cX2_copyFrom 2 none ∈ wsL_law := mw_in15 (List.mem_of_getElem? (i := 14) rfl)
theorem mw_15_15 : Cond.methodLink RX2 28 arraycopyName ∈ wsL_law := mw_in15 (List.mem_of_getElem? (i := 15) rfl)
theorem mw_15_16 : Cond.methodLink RX3 76 yX3_movesNeeded ∈ wsL_law := mw_in15 (List.mem_of_getElem? (i := 16) rfl)
theorem mw_15_17 : Cond.instanceMethod yX3_movesNeeded ∈ wsL_law := mw_in15 (List.mem_of_getElem? (i := 17) rfl)
theorem mw_15_18 : Cond.selects RX3 yX3_movesNeeded yX3_movesNeeded ∈ wsL_law := mw_in15 (List.mem_of_getElem? (i := 18) rfl)
theorem mw_15_19 : Cond.code yX3_movesNeeded cX3_movesNeeded 3 (some .int) ∈ wsL_law := mw_in15 (List.mem_of_getElem? (i := 19) rfl)
theorem mw_15_2 : Cond.methodLink RX3 70 yX5_madeUpTrack ∈ wsL_law := mw_in15 (List.mem_of_getElem? (i := 2) rfl)
theorem mw_15_20 : Cond.methodLink RX3 121 yX3_countWanted ∈ wsL_law := mw_in15 (List.mem_of_getElem? (i := 20) rfl)
theorem mw_15_21 : Cond.instanceMethod yX3_countWanted ∈ wsL_law := mw_in15 (List.mem_of_getElem? (i := 21) rfl)
theorem mw_15_22 : Cond.selects RX3 yX3_countWanted yX3_countWanted ∈ wsL_law := mw_in15 (List.mem_of_getElem? (i := 22) rfl)
theorem mw_15_23 : Cond.code yX3_countWanted cX3_countWanted 6 none ∈ wsL_law := mw_in15 (List.mem_of_getElem? (i := 23) rfl)
theorem mw_15_3 : Cond.methodLink RX3 73 yX3_keepIfCheaper ∈ wsL_law := mw_in15 (List.mem_of_getElem? (i := 3) rfl)
theorem mw_15_4 : Cond.instanceMethod yX3_keepIfCheaper ∈ wsL_law := mw_in15 (List.mem_of_getElem? (i := 4) rfl)
theorem mw_15_5 : Cond.selects RX3 yX3_keepIfCheaper yX3_keepIfCheaper ∈ wsL_law := mw_in15 (List.mem_of_getElem? (i := 5) rfl)
theorem mw_15_6 : Cond.code yX3_keepIfCheaper cX3_keepIfCheaper 1 none ∈ wsL_law := mw_in15 (List.mem_of_getElem? (i := 6) rfl)
theorem mw_15_7 : Cond.methodLink RX3 108 yX2_isCheaperThan ∈ wsL_law := mw_in15 (List.mem_of_getElem? (i := 7) rfl)
theorem mw_15_8 : Cond.instanceMethod yX2_isCheaperThan ∈ wsL_law := mw_in15 (List.mem_of_getElem? (i := 8) rfl)
theorem mw_15_9 : Cond.selects RX2 yX2_isCheaperThan yX2_isCheaperThan ∈ wsL_law := mw_in15 (List.mem_of_getElem? (i := 9) rfl)
theorem mw_16_0 : Cond.methodLink RX3 128 yX5_isForFirst ∈ wsL_law := mw_in16 (List.mem_of_getElem? (i := 0) rfl)
theorem mw_16_1 : Cond.methodLink RX3 124 yX3_movesNeededFor ∈ wsL_law := mw_in16 (List.mem_of_getElem? (i := 1) rfl)
theorem mw_16_10 : Cond.fieldLink RX3 118 "ShuntYard$Row" "minutes" "I" ∈ wsL_law := mw_in16 (List.mem_of_getElem? (i := 10) rfl)
theorem mw_16_11 : Cond.methodLink RX3 89 yX5_costOrCode ∈ wsL_law := mw_in16 (List.mem_of_getElem? (i := 11) rfl)
theorem mw_16_12 : Cond.instanceMethod yX5_costOrCode ∈ wsL_law := mw_in16 (List.mem_of_getElem? (i := 12) rfl)
theorem mw_16_13 : Cond.selects RX5 yX5_costOrCode yX5_costOrCode ∈ wsL_law := mw_in16 (List.mem_of_getElem? (i := 13) rfl)
theorem mw_16_14 : Cond.code yX5_costOrCode cX5_costOrCode 4 (some .int) ∈ wsL_law := mw_in16 (List.mem_of_getElem? (i := 14) rfl)
theorem mw_16_15 : Cond.methodLink RX5 122 yX5_hasTrack ∈ wsL_law := mw_in16 (List.mem_of_getElem? (i := 15) rfl)
theorem mw_16_16 : Cond.methodLink RX5 125 yX5_isSafeBehindMove ∈ wsL_law := mw_in16 (List.mem_of_getElem? (i := 16) rfl)
theorem mw_16_17 : Cond.instanceMethod yX5_isSafeBehindMove ∈ wsL_law := mw_in16 (List.mem_of_getElem? (i := 17) rfl)
theorem mw_16_18 : Cond.selects RX5 yX5_isSafeBehindMove yX5_isSafeBehindMove ∈ wsL_law := mw_in16 (List.mem_of_getElem? (i := 18) rfl)
theorem mw_16_19 : Cond.code yX5_isSafeBehindMove cX5_isSafeBehindMove 5 (some .boolean) ∈ wsL_law := mw_in16 (List.mem_of_getElem? (i := 19) rfl)
theorem mw_16_2 : Cond.instanceMethod yX3_movesNeededFor ∈ wsL_law := mw_in16 (List.mem_of_getElem? (i := 2) rfl)
theorem mw_16_20 : Cond.methodLink RX5 128 yX5_minutesOf ∈ wsL_law := mw_in16 (List.mem_of_getElem? (i := 20) rfl)
theorem mw_16_21 : Cond.instanceMethod yX5_minutesOf ∈ wsL_law := mw_in16 (List.mem_of_getElem? (i := 21) rfl)
theorem mw_16_22 : Cond.selects RX5 yX5_minutesOf yX5_minutesOf ∈ wsL_law := mw_in16 (List.mem_of_getElem? (i := 22) rfl)
theorem mw_16_23 : Cond.code yX5_minutesOf cX5_minutesOf 6 (some .int) ∈ wsL_law := mw_in16 (List.mem_of_getElem? (i := 23) rfl)
theorem mw_16_3 : Cond.selects RX3 yX3_movesNeededFor yX3_movesNeededFor ∈ wsL_law := mw_in16 (List.mem_of_getElem? (i := 3) rfl)
theorem mw_16_4 : Cond.code yX3_movesNeededFor cX3_movesNeededFor 5 (some .int) ∈ wsL_law := mw_in16 (List.mem_of_getElem? (i := 4) rfl)
theorem mw_16_5 : Cond.methodLink RX3 79 yX3_isTooDear ∈ wsL_law := mw_in16 (List.mem_of_getElem? (i := 5) rfl)
theorem mw_16_6 : Cond.instanceMethod yX3_isTooDear ∈ wsL_law := mw_in16 (List.mem_of_getElem? (i := 6) rfl)
theorem mw_16_7 : Cond.selects RX3 yX3_isTooDear yX3_isTooDear ∈ wsL_law := mw_in16 (List.mem_of_getElem? (i := 7) rfl)
theorem mw_16_8 : Cond.code yX3_isTooDear cX3_isTooDear 3 (some .boolean) ∈ wsL_law := mw_in16 (List.mem_of_getElem? (i := 8) rfl)
theorem mw_16_9 : Cond.fieldLink RX3 115 "ShuntYard$Yard" "settings" "[I" ∈ wsL_law := mw_in16 (List.mem_of_getElem? (i := 9) rfl)
theorem mw_17_0 : Cond.methodLink RX5 131 Lib.Math.abs.name ∈ wsL_law := mw_in17 (List.mem_of_getElem? (i := 0) rfl)
theorem mw_17_1 : Cond.static Lib.Math.abs.name ∈ wsL_law := mw_in17 (List.mem_of_getElem? (i := 1) rfl)
theorem mw_17_10 : Cond.code yX5_shift cX5_shift 5 none ∈ wsL_law := mw_in17 (List.mem_of_getElem? (i := 10) rfl)
theorem mw_17_11 : Cond.methodLink RX3 101 yX2_addLast ∈ wsL_law := mw_in17 (List.mem_of_getElem? (i := 11) rfl)
theorem mw_17_12 : Cond.instanceMethod yX2_addLast ∈ wsL_law := mw_in17 (List.mem_of_getElem? (i := 12) rfl)
theorem mw_17_13 : Cond.selects RX2 yX2_addLast yX2_addLast ∈ wsL_law := mw_in17 (List.mem_of_getElem? (i := 13) rfl)
theorem mw_17_14 : Cond.code yX2_addLast cX2_addLast 5 none ∈ wsL_law := mw_in17 (List.mem_of_getElem? (i := 14) rfl)
theorem mw_17_15 : Cond.methodLink RX3 105 yX2_dropLast ∈ wsL_law := mw_in17 (List.mem_of_getElem? (i := 15) rfl)
theorem mw_17_16 : Cond.instanceMethod yX2_dropLast ∈ wsL_law := mw_in17 (List.mem_of_getElem? (i := 16) rfl)
theorem mw_17_17 : Cond.selects RX2 yX2_dropLast yX2_dropLast ∈ wsL_law := mw_in17 (List.mem_of_getElem? (i := 17) rfl)
theorem mw_17_18 : Cond.code yX2_dropLast cX2_dropLast 2 none ∈ wsL_law := mw_in17 (List.mem_of_getElem? (i := 18) rfl)
theorem mw_17_19 : Cond.methodLink RX6 114 yX5_drive ∈ wsL_law := mw_in17 (List.mem_of_getElem? (i := 19) rfl)
theorem mw_17_2 : Cond.code Lib.Math.abs.name Lib.Math.abs.code 1 (some .int) ∈ wsL_law := mw_in17 (List.mem_of_getElem? (i := 2) rfl)
theorem mw_17_20 : Cond.instanceMethod yX5_drive ∈ wsL_law := mw_in17 (List.mem_of_getElem? (i := 20) rfl)
theorem mw_17_21 : Cond.selects RX5 yX5_drive yX5_drive ∈ wsL_law := mw_in17 (List.mem_of_getElem? (i := 21) rfl)
theorem mw_17_22 : Cond.code yX5_drive cX5_drive 5 (some .int) ∈ wsL_law := mw_in17 (List.mem_of_getElem? (i := 22) rfl)
theorem mw_17_23 : Cond.methodLink RX5 136 yX5_shift ∈ wsL_law := mw_in17 (List.mem_of_getElem? (i := 23) rfl)
theorem mw_17_3 : Cond.methodLink RX3 93 yX3_seekBehindMove ∈ wsL_law := mw_in17 (List.mem_of_getElem? (i := 3) rfl)
theorem mw_17_4 : Cond.instanceMethod yX3_seekBehindMove ∈ wsL_law := mw_in17 (List.mem_of_getElem? (i := 4) rfl)
theorem mw_17_5 : Cond.selects RX3 yX3_seekBehindMove yX3_seekBehindMove ∈ wsL_law := mw_in17 (List.mem_of_getElem? (i := 5) rfl)
theorem mw_17_6 : Cond.code yX3_seekBehindMove cX3_seekBehindMove 6 none ∈ wsL_law := mw_in17 (List.mem_of_getElem? (i := 6) rfl)
theorem mw_17_7 : Cond.methodLink RX3 97 yX5_shift ∈ wsL_law := mw_in17 (List.mem_of_getElem? (i := 7) rfl)
theorem mw_17_8 : Cond.instanceMethod yX5_shift ∈ wsL_law := mw_in17 (List.mem_of_getElem? (i := 8) rfl)
theorem mw_17_9 : Cond.selects RX5 yX5_shift yX5_shift ∈ wsL_law := mw_in17 (List.mem_of_getElem? (i := 9) rfl)
theorem mw_18_0 : Cond.methodLink RL 58 yX6_undo ∈ wsL_law := mw_in18 (List.mem_of_getElem? (i := 0) rfl)
theorem mw_18_1 : Cond.instanceMethod yX6_undo ∈ wsL_law := mw_in18 (List.mem_of_getElem? (i := 1) rfl)
theorem mw_18_10 : Cond.selects RX6 yX6_keep yX6_keep ∈ wsL_law := mw_in18 (List.mem_of_getElem? (i := 10) rfl)
theorem mw_18_11 : Cond.code yX6_keep cX6_keep 2 (some .int) ∈ wsL_law := mw_in18 (List.mem_of_getElem? (i := 11) rfl)
theorem mw_18_12 : Cond.methodLink RX6 223 yX5_copyFrom ∈ wsL_law := mw_in18 (List.mem_of_getElem? (i := 12) rfl)
theorem mw_18_13 : Cond.methodLink RL 64 yX6_back ∈ wsL_law := mw_in18 (List.mem_of_getElem? (i := 13) rfl)
theorem mw_18_14 : Cond.instanceMethod yX6_back ∈ wsL_law := mw_in18 (List.mem_of_getElem? (i := 14) rfl)
theorem mw_18_15 : Cond.selects RX6 yX6_back yX6_back ∈ wsL_law := mw_in18 (List.mem_of_getElem? (i := 15) rfl)
theorem mw_18_16 : Cond.code yX6_back cX6_back 2 (some .int) ∈ wsL_law := mw_in18 (List.mem_of_getElem? (i := 16) rfl)
theorem mw_18_17 : Cond.methodLink RL 67 yX6_move ∈ wsL_law := mw_in18 (List.mem_of_getElem? (i := 17) rfl)
theorem mw_18_18 : Cond.instanceMethod yX6_move ∈ wsL_law := mw_in18 (List.mem_of_getElem? (i := 18) rfl)
theorem mw_18_19 : Cond.selects RX6 yX6_move yX6_move ∈ wsL_law := mw_in18 (List.mem_of_getElem? (i := 19) rfl)
theorem mw_18_2 : Cond.selects RX6 yX6_undo yX6_undo ∈ wsL_law := mw_in18 (List.mem_of_getElem? (i := 2) rfl)
theorem mw_18_20 : Cond.code yX6_move cX6_move 5 (some .int) ∈ wsL_law := mw_in18 (List.mem_of_getElem? (i := 20) rfl)
theorem mw_18_21 : Cond.methodLink RX6 110 yX5_costOrCode ∈ wsL_law := mw_in18 (List.mem_of_getElem? (i := 21) rfl)
theorem mw_18_22 : Cond.methodLink RL 104 yL_areTracks ∈ wsL_law := mw_in18 (List.mem_of_getElem? (i := 22) rfl)
theorem mw_18_23 : Cond.static yL_areTracks ∈ wsL_law := mw_in18 (List.mem_of_getElem? (i := 23) rfl)
theorem mw_18_3 : Cond.code yX6_undo cX6_undo 1 (some .int) ∈ wsL_law := mw_in18 (List.mem_of_getElem? (i := 3) rfl)
theorem mw_18_4 : Cond.methodLink RX6 151 yX1_restore ∈ wsL_law := mw_in18 (List.mem_of_getElem? (i := 4) rfl)
theorem mw_18_5 : Cond.instanceMethod yX1_restore ∈ wsL_law := mw_in18 (List.mem_of_getElem? (i := 5) rfl)
theorem mw_18_6 : Cond.selects RX1 yX1_restore yX1_restore ∈ wsL_law := mw_in18 (List.mem_of_getElem? (i := 6) rfl)
theorem mw_18_7 : Cond.code yX1_restore cX1_restore 3 (some .boolean) ∈ wsL_law := mw_in18 (List.mem_of_getElem? (i := 7) rfl)
theorem mw_18_8 : Cond.methodLink RL 61 yX6_keep ∈ wsL_law := mw_in18 (List.mem_of_getElem? (i := 8) rfl)
theorem mw_18_9 : Cond.instanceMethod yX6_keep ∈ wsL_law := mw_in18 (List.mem_of_getElem? (i := 9) rfl)
theorem mw_19_0 : Cond.code yL_areTracks cL_areTracks 11 (some .boolean) ∈ wsL_law := mw_in19 (List.mem_of_getElem? (i := 0) rfl)
theorem mw_19_1 : Cond.methodLink RL 71 yX6_track ∈ wsL_law := mw_in19 (List.mem_of_getElem? (i := 1) rfl)
theorem mw_19_10 : Cond.code yX5_leastGap cX5_leastGap 2 (some .int) ∈ wsL_law := mw_in19 (List.mem_of_getElem? (i := 10) rfl)
theorem mw_19_11 : Cond.methodLink RL 74 yX6_wagon ∈ wsL_law := mw_in19 (List.mem_of_getElem? (i := 11) rfl)
theorem mw_19_12 : Cond.instanceMethod yX6_wagon ∈ wsL_law := mw_in19 (List.mem_of_getElem? (i := 12) rfl)
theorem mw_19_13 : Cond.selects RX6 yX6_wagon yX6_wagon ∈ wsL_law := mw_in19 (List.mem_of_getElem? (i := 13) rfl)
theorem mw_19_14 : Cond.code yX6_wagon cX6_wagon 5 (some .int) ∈ wsL_law := mw_in19 (List.mem_of_getElem? (i := 14) rfl)
theorem mw_19_15 : Cond.methodLink RX6 201 yX5_wagonAt ∈ wsL_law := mw_in19 (List.mem_of_getElem? (i := 15) rfl)
theorem mw_19_16 : Cond.methodLink RX6 205 yX6_numberOf ∈ wsL_law := mw_in19 (List.mem_of_getElem? (i := 16) rfl)
theorem mw_19_17 : Cond.static yX6_numberOf ∈ wsL_law := mw_in19 (List.mem_of_getElem? (i := 17) rfl)
theorem mw_19_18 : Cond.code yX6_numberOf cX6_numberOf 1 (some .int) ∈ wsL_law := mw_in19 (List.mem_of_getElem? (i := 18) rfl)
theorem mw_19_19 : Cond.methodLink RX6 208 yX6_destinationOf ∈ wsL_law := mw_in19 (List.mem_of_getElem? (i := 19) rfl)
theorem mw_19_2 : Cond.instanceMethod yX6_track ∈ wsL_law := mw_in19 (List.mem_of_getElem? (i := 2) rfl)
theorem mw_19_20 : Cond.methodLink RX6 211 yX6_kindOf ∈ wsL_law := mw_in19 (List.mem_of_getElem? (i := 20) rfl)
theorem mw_19_21 : Cond.methodLink RL 77 yX6_find ∈ wsL_law := mw_in19 (List.mem_of_getElem? (i := 21) rfl)
theorem mw_19_22 : Cond.instanceMethod yX6_find ∈ wsL_law := mw_in19 (List.mem_of_getElem? (i := 22) rfl)
theorem mw_19_23 : Cond.selects RX6 yX6_find yX6_find ∈ wsL_law := mw_in19 (List.mem_of_getElem? (i := 23) rfl)
theorem mw_19_3 : Cond.selects RX6 yX6_track yX6_track ∈ wsL_law := mw_in19 (List.mem_of_getElem? (i := 3) rfl)
theorem mw_19_4 : Cond.code yX6_track cX6_track 3 (some .int) ∈ wsL_law := mw_in19 (List.mem_of_getElem? (i := 4) rfl)
theorem mw_19_5 : Cond.methodLink RX6 192 yX5_isSafe ∈ wsL_law := mw_in19 (List.mem_of_getElem? (i := 5) rfl)
theorem mw_19_6 : Cond.methodLink RX6 195 yX5_testHoldsFor ∈ wsL_law := mw_in19 (List.mem_of_getElem? (i := 6) rfl)
theorem mw_19_7 : Cond.methodLink RX6 198 yX5_leastGap ∈ wsL_law := mw_in19 (List.mem_of_getElem? (i := 7) rfl)
theorem mw_19_8 : Cond.instanceMethod yX5_leastGap ∈ wsL_law := mw_in19 (List.mem_of_getElem? (i := 8) rfl)
theorem mw_19_9 : Cond.selects RX5 yX5_leastGap yX5_leastGap ∈ wsL_law := mw_in19 (List.mem_of_getElem? (i := 9) rfl)
theorem mw_1_0 : Cond.classLink RL 10 RX6 ∈ wsL_law := mw_in1 (List.mem_of_getElem? (i := 0) rfl)
theorem mw_1_1 : Cond.instantiable RX6 6 ∈ wsL_law := mw_in1 (List.mem_of_getElem? (i := 1) rfl)
theorem mw_1_10 : Cond.instantiable RX5 15 ∈ wsL_law := mw_in1 (List.mem_of_getElem? (i := 10) rfl)
theorem mw_1_11 : Cond.initialized RX5 ∈ wsL_law := mw_in1 (List.mem_of_getElem? (i := 11) rfl)
theorem mw_1_12 : Cond.fieldLink RX6 10 "ShuntYard" "yard" "LShuntYard$Yard;" ∈ wsL_law := mw_in1 (List.mem_of_getElem? (i := 12) rfl)
theorem mw_1_13 : Cond.classLink RX6 16 RX1 ∈ wsL_law := mw_in1 (List.mem_of_getElem? (i := 13) rfl)
theorem mw_1_14 : Cond.instantiable RX1 3 ∈ wsL_law := mw_in1 (List.mem_of_getElem? (i := 14) rfl)
theorem mw_1_15 : Cond.initialized RX1 ∈ wsL_law := mw_in1 (List.mem_of_getElem? (i := 15) rfl)
theorem mw_1_16 : Cond.fieldLink RX6 19 "ShuntYard" "history" "LShuntYard$History;" ∈ wsL_law := mw_in1 (List.mem_of_getElem? (i := 16) rfl)
theorem mw_1_17 : Cond.fieldLink RX6 23 "ShuntYard" "images" "[LShuntYard$Yard;" ∈ wsL_law := mw_in1 (List.mem_of_getElem? (i := 17) rfl)
theorem mw_1_18 : Cond.classLink RX6 27 RX4 ∈ wsL_law := mw_in1 (List.mem_of_getElem? (i := 18) rfl)
theorem mw_1_19 : Cond.instantiable RX4 6 ∈ wsL_law := mw_in1 (List.mem_of_getElem? (i := 19) rfl)
theorem mw_1_2 : Cond.initialized RX6 ∈ wsL_law := mw_in1 (List.mem_of_getElem? (i := 2) rfl)
theorem mw_1_20 : Cond.initialized RX4 ∈ wsL_law := mw_in1 (List.mem_of_getElem? (i := 20) rfl)
theorem mw_1_21 : Cond.fieldLink RX6 30 "ShuntYard" "text" "LShuntYard$Text;" ∈ wsL_law := mw_in1 (List.mem_of_getElem? (i := 21) rfl)
theorem mw_1_22 : Cond.classLink RX6 34 RX3 ∈ wsL_law := mw_in1 (List.mem_of_getElem? (i := 22) rfl)
theorem mw_1_23 : Cond.instantiable RX3 7 ∈ wsL_law := mw_in1 (List.mem_of_getElem? (i := 23) rfl)
theorem mw_1_3 : Cond.methodLink RL 96 yX6_init ∈ wsL_law := mw_in1 (List.mem_of_getElem? (i := 3) rfl)
theorem mw_1_4 : Cond.instanceMethod yX6_init ∈ wsL_law := mw_in1 (List.mem_of_getElem? (i := 4) rfl)
theorem mw_1_5 : Cond.code yX6_init cX6_init 1 none ∈ wsL_law := mw_in1 (List.mem_of_getElem? (i := 5) rfl)
theorem mw_1_6 : Cond.methodLink RX6 1 objectInit ∈ wsL_law := mw_in1 (List.mem_of_getElem? (i := 6) rfl)
theorem mw_1_7 : Cond.instanceMethod objectInit ∈ wsL_law := mw_in1 (List.mem_of_getElem? (i := 7) rfl)
theorem mw_1_8 : Cond.code objectInit ⟨#[0xb1]⟩ 1 none ∈ wsL_law := mw_in1 (List.mem_of_getElem? (i := 8) rfl)
theorem mw_1_9 : Cond.classLink RX6 7 RX5 ∈ wsL_law := mw_in1 (List.mem_of_getElem? (i := 9) rfl)
theorem mw_20_0 : Cond.code yX6_find cX6_find 4 (some .int) ∈ wsL_law := mw_in20 (List.mem_of_getElem? (i := 0) rfl)
theorem mw_20_1 : Cond.methodLink RX6 217 yX5_spotOf ∈ wsL_law := mw_in20 (List.mem_of_getElem? (i := 1) rfl)
theorem mw_20_10 : Cond.instanceMethod yX6_train ∈ wsL_law := mw_in20 (List.mem_of_getElem? (i := 10) rfl)
theorem mw_20_11 : Cond.selects RX6 yX6_train yX6_train ∈ wsL_law := mw_in20 (List.mem_of_getElem? (i := 11) rfl)
theorem mw_20_12 : Cond.code yX6_train cX6_train 2 (some .int) ∈ wsL_law := mw_in20 (List.mem_of_getElem? (i := 12) rfl)
theorem mw_20_13 : Cond.fieldLink RX6 214 "ShuntYard$Yard" "destinations" "[I" ∈ wsL_law := mw_in20 (List.mem_of_getElem? (i := 13) rfl)
theorem mw_20_14 : Cond.methodLink RL 108 yL_isMove ∈ wsL_law := mw_in20 (List.mem_of_getElem? (i := 14) rfl)
theorem mw_20_15 : Cond.static yL_isMove ∈ wsL_law := mw_in20 (List.mem_of_getElem? (i := 15) rfl)
theorem mw_20_16 : Cond.code yL_isMove cL_isMove 13 (some .boolean) ∈ wsL_law := mw_in20 (List.mem_of_getElem? (i := 16) rfl)
theorem mw_20_17 : Cond.methodLink RL 86 yX6_cost ∈ wsL_law := mw_in20 (List.mem_of_getElem? (i := 17) rfl)
theorem mw_20_18 : Cond.instanceMethod yX6_cost ∈ wsL_law := mw_in20 (List.mem_of_getElem? (i := 18) rfl)
theorem mw_20_19 : Cond.selects RX6 yX6_cost yX6_cost ∈ wsL_law := mw_in20 (List.mem_of_getElem? (i := 19) rfl)
theorem mw_20_2 : Cond.instanceMethod yX5_spotOf ∈ wsL_law := mw_in20 (List.mem_of_getElem? (i := 2) rfl)
theorem mw_20_20 : Cond.code yX6_cost cX6_cost 4 (some .int) ∈ wsL_law := mw_in20 (List.mem_of_getElem? (i := 20) rfl)
theorem mw_20_21 : Cond.methodLink RL 112 yL_isDeparture ∈ wsL_law := mw_in20 (List.mem_of_getElem? (i := 21) rfl)
theorem mw_20_22 : Cond.static yL_isDeparture ∈ wsL_law := mw_in20 (List.mem_of_getElem? (i := 22) rfl)
theorem mw_20_23 : Cond.code yL_isDeparture cL_isDeparture 10 (some .boolean) ∈ wsL_law := mw_in20 (List.mem_of_getElem? (i := 23) rfl)
theorem mw_20_3 : Cond.selects RX5 yX5_spotOf yX5_spotOf ∈ wsL_law := mw_in20 (List.mem_of_getElem? (i := 3) rfl)
theorem mw_20_4 : Cond.code yX5_spotOf cX5_spotOf 4 (some .int) ∈ wsL_law := mw_in20 (List.mem_of_getElem? (i := 4) rfl)
theorem mw_20_5 : Cond.methodLink RL 80 yX6_setting ∈ wsL_law := mw_in20 (List.mem_of_getElem? (i := 5) rfl)
theorem mw_20_6 : Cond.instanceMethod yX6_setting ∈ wsL_law := mw_in20 (List.mem_of_getElem? (i := 6) rfl)
theorem mw_20_7 : Cond.selects RX6 yX6_setting yX6_setting ∈ wsL_law := mw_in20 (List.mem_of_getElem? (i := 7) rfl)
theorem mw_20_8 : Cond.code yX6_setting cX6_setting 2 (some .int) ∈ wsL_law := mw_in20 (List.mem_of_getElem? (i := 8) rfl)
theorem mw_20_9 : Cond.methodLink RL 83 yX6_train ∈ wsL_law := mw_in20 (List.mem_of_getElem? (i := 9) rfl)
theorem mw_21_0 : Cond.methodLink RL 116 yL_isCheapest ∈ wsL_law := mw_in21 (List.mem_of_getElem? (i := 0) rfl)
theorem mw_21_1 : Cond.static yL_isCheapest ∈ wsL_law := mw_in21 (List.mem_of_getElem? (i := 1) rfl)
theorem mw_21_10 : Cond.code yL_areAlike cL_areAlike 5 (some .boolean) ∈ wsL_law := mw_in21 (List.mem_of_getElem? (i := 10) rfl)
theorem mw_21_11 : Cond.methodLink RL 92 yX6_mean ∈ wsL_law := mw_in21 (List.mem_of_getElem? (i := 11) rfl)
theorem mw_21_12 : Cond.instanceMethod yX6_mean ∈ wsL_law := mw_in21 (List.mem_of_getElem? (i := 12) rfl)
theorem mw_21_13 : Cond.selects RX6 yX6_mean yX6_mean ∈ wsL_law := mw_in21 (List.mem_of_getElem? (i := 13) rfl)
theorem mw_21_14 : Cond.code yX6_mean cX6_mean 1 (some .float) ∈ wsL_law := mw_in21 (List.mem_of_getElem? (i := 14) rfl)
theorem mw_21_2 : Cond.code yL_isCheapest cL_isCheapest 8 (some .boolean) ∈ wsL_law := mw_in21 (List.mem_of_getElem? (i := 2) rfl)
theorem mw_21_3 : Cond.methodLink RL 89 yX6_cheapest ∈ wsL_law := mw_in21 (List.mem_of_getElem? (i := 3) rfl)
theorem mw_21_4 : Cond.instanceMethod yX6_cheapest ∈ wsL_law := mw_in21 (List.mem_of_getElem? (i := 4) rfl)
theorem mw_21_5 : Cond.selects RX6 yX6_cheapest yX6_cheapest ∈ wsL_law := mw_in21 (List.mem_of_getElem? (i := 5) rfl)
theorem mw_21_6 : Cond.code yX6_cheapest cX6_cheapest 4 (some .int) ∈ wsL_law := mw_in21 (List.mem_of_getElem? (i := 6) rfl)
theorem mw_21_7 : Cond.fieldLink RX6 220 "ShuntYard$Row" "minutes" "I" ∈ wsL_law := mw_in21 (List.mem_of_getElem? (i := 7) rfl)
theorem mw_21_8 : Cond.methodLink RL 119 yL_areAlike ∈ wsL_law := mw_in21 (List.mem_of_getElem? (i := 8) rfl)
theorem mw_21_9 : Cond.static yL_areAlike ∈ wsL_law := mw_in21 (List.mem_of_getElem? (i := 9) rfl)
theorem mw_2_0 : Cond.initialized RX3 ∈ wsL_law := mw_in2 (List.mem_of_getElem? (i := 0) rfl)
theorem mw_2_1 : Cond.fieldLink RX6 37 "ShuntYard" "search" "LShuntYard$Search;" ∈ wsL_law := mw_in2 (List.mem_of_getElem? (i := 1) rfl)
theorem mw_2_10 : Cond.fieldLink RX5 22 "ShuntYard$Yard" "destinations" "[I" ∈ wsL_law := mw_in2 (List.mem_of_getElem? (i := 10) rfl)
theorem mw_2_11 : Cond.fieldLink RX5 25 "ShuntYard$Yard" "length" "[I" ∈ wsL_law := mw_in2 (List.mem_of_getElem? (i := 11) rfl)
theorem mw_2_12 : Cond.fieldLink RX5 28 "ShuntYard$Yard" "testEnd" "[I" ∈ wsL_law := mw_in2 (List.mem_of_getElem? (i := 12) rfl)
theorem mw_2_13 : Cond.fieldLink RX5 31 "ShuntYard$Yard" "wagons" "[I" ∈ wsL_law := mw_in2 (List.mem_of_getElem? (i := 13) rfl)
theorem mw_2_14 : Cond.classLink RX5 34 RX0 ∈ wsL_law := mw_in2 (List.mem_of_getElem? (i := 14) rfl)
theorem mw_2_15 : Cond.instantiable RX0 3 ∈ wsL_law := mw_in2 (List.mem_of_getElem? (i := 15) rfl)
theorem mw_2_16 : Cond.initialized RX0 ∈ wsL_law := mw_in2 (List.mem_of_getElem? (i := 16) rfl)
theorem mw_2_17 : Cond.fieldLink RX5 37 "ShuntYard$Yard" "gaps" "LShuntYard$Gaps;" ∈ wsL_law := mw_in2 (List.mem_of_getElem? (i := 17) rfl)
theorem mw_2_18 : Cond.instanceMethod yX0_init ∈ wsL_law := mw_in2 (List.mem_of_getElem? (i := 18) rfl)
theorem mw_2_19 : Cond.code yX0_init cX0_init 1 none ∈ wsL_law := mw_in2 (List.mem_of_getElem? (i := 19) rfl)
theorem mw_2_2 : Cond.fieldLink RX6 41 "ShuntYard" "reason" "I" ∈ wsL_law := mw_in2 (List.mem_of_getElem? (i := 2) rfl)
theorem mw_2_20 : Cond.methodLink RX0 3 objectInit ∈ wsL_law := mw_in2 (List.mem_of_getElem? (i := 20) rfl)
theorem mw_2_21 : Cond.instanceMethod yX1_init ∈ wsL_law := mw_in2 (List.mem_of_getElem? (i := 21) rfl)
theorem mw_2_22 : Cond.code yX1_init cX1_init 1 none ∈ wsL_law := mw_in2 (List.mem_of_getElem? (i := 22) rfl)
theorem mw_2_23 : Cond.methodLink RX1 3 objectInit ∈ wsL_law := mw_in2 (List.mem_of_getElem? (i := 23) rfl)
theorem mw_2_3 : Cond.instanceMethod yX5_init ∈ wsL_law := mw_in2 (List.mem_of_getElem? (i := 3) rfl)
theorem mw_2_4 : Cond.code yX5_init cX5_init 1 none ∈ wsL_law := mw_in2 (List.mem_of_getElem? (i := 4) rfl)
theorem mw_2_5 : Cond.methodLink RX5 3 objectInit ∈ wsL_law := mw_in2 (List.mem_of_getElem? (i := 5) rfl)
theorem mw_2_6 : Cond.fieldLink RX5 9 "ShuntYard$Yard" "tracks" "I" ∈ wsL_law := mw_in2 (List.mem_of_getElem? (i := 6) rfl)
theorem mw_2_7 : Cond.fieldLink RX5 15 "ShuntYard$Yard" "capacity" "I" ∈ wsL_law := mw_in2 (List.mem_of_getElem? (i := 7) rfl)
theorem mw_2_8 : Cond.arrayClass .int ∈ wsL_law := mw_in2 (List.mem_of_getElem? (i := 8) rfl)
theorem mw_2_9 : Cond.fieldLink RX5 18 "ShuntYard$Yard" "settings" "[I" ∈ wsL_law := mw_in2 (List.mem_of_getElem? (i := 9) rfl)
theorem mw_3_0 : Cond.classLink RX1 9 RX5 ∈ wsL_law := mw_in3 (List.mem_of_getElem? (i := 0) rfl)
theorem mw_3_1 : Cond.fieldLink RX1 11 "ShuntYard$History" "states" "[LShuntYard$Yard;" ∈ wsL_law := mw_in3 (List.mem_of_getElem? (i := 1) rfl)
theorem mw_3_10 : Cond.code yX3_init cX3_init 1 none ∈ wsL_law := mw_in3 (List.mem_of_getElem? (i := 10) rfl)
theorem mw_3_11 : Cond.methodLink RX3 3 objectInit ∈ wsL_law := mw_in3 (List.mem_of_getElem? (i := 11) rfl)
theorem mw_3_12 : Cond.classLink RX3 9 RX2 ∈ wsL_law := mw_in3 (List.mem_of_getElem? (i := 12) rfl)
theorem mw_3_13 : Cond.instantiable RX2 5 ∈ wsL_law := mw_in3 (List.mem_of_getElem? (i := 13) rfl)
theorem mw_3_14 : Cond.initialized RX2 ∈ wsL_law := mw_in3 (List.mem_of_getElem? (i := 14) rfl)
theorem mw_3_15 : Cond.fieldLink RX3 12 "ShuntYard$Search" "best" "LShuntYard$Row;" ∈ wsL_law := mw_in3 (List.mem_of_getElem? (i := 15) rfl)
theorem mw_3_16 : Cond.classLink RX3 18 RX5 ∈ wsL_law := mw_in3 (List.mem_of_getElem? (i := 16) rfl)
theorem mw_3_17 : Cond.fieldLink RX3 21 "ShuntYard$Search" "trial" "LShuntYard$Yard;" ∈ wsL_law := mw_in3 (List.mem_of_getElem? (i := 17) rfl)
theorem mw_3_18 : Cond.fieldLink RX3 25 "ShuntYard$Search" "row" "LShuntYard$Row;" ∈ wsL_law := mw_in3 (List.mem_of_getElem? (i := 18) rfl)
theorem mw_3_19 : Cond.fieldLink RX3 28 "ShuntYard$Search" "wanted" "[I" ∈ wsL_law := mw_in3 (List.mem_of_getElem? (i := 19) rfl)
theorem mw_3_2 : Cond.instanceMethod yX4_init ∈ wsL_law := mw_in3 (List.mem_of_getElem? (i := 2) rfl)
theorem mw_3_20 : Cond.fieldLink RX3 32 "ShuntYard$Search" "wantedInnermost" "[I" ∈ wsL_law := mw_in3 (List.mem_of_getElem? (i := 20) rfl)
theorem mw_3_21 : Cond.fieldLink RX3 35 "ShuntYard$Search" "wantedOutermost" "[I" ∈ wsL_law := mw_in3 (List.mem_of_getElem? (i := 21) rfl)
theorem mw_3_22 : Cond.instanceMethod yX2_init ∈ wsL_law := mw_in3 (List.mem_of_getElem? (i := 22) rfl)
theorem mw_3_23 : Cond.code yX2_init cX2_init 1 none ∈ wsL_law := mw_in3 (List.mem_of_getElem? (i := 23) rfl)
theorem mw_3_3 : Cond.code yX4_init cX4_init 1 none ∈ wsL_law := mw_in3 (List.mem_of_getElem? (i := 3) rfl)
theorem mw_3_4 : Cond.methodLink RX4 3 objectInit ∈ wsL_law := mw_in3 (List.mem_of_getElem? (i := 4) rfl)
theorem mw_3_5 : Cond.fieldLink RX4 9 "ShuntYard$Text" "bytes" "[I" ∈ wsL_law := mw_in3 (List.mem_of_getElem? (i := 5) rfl)
theorem mw_3_6 : Cond.fieldLink RX4 15 "ShuntYard$Text" "read" "[I" ∈ wsL_law := mw_in3 (List.mem_of_getElem? (i := 6) rfl)
theorem mw_3_7 : Cond.fieldLink RX4 18 "ShuntYard$Text" "faultKind" "I" ∈ wsL_law := mw_in3 (List.mem_of_getElem? (i := 7) rfl)
theorem mw_3_8 : Cond.fieldLink RX4 22 "ShuntYard$Text" "faultPlace" "I" ∈ wsL_law := mw_in3 (List.mem_of_getElem? (i := 8) rfl)
theorem mw_3_9 : Cond.instanceMethod yX3_init ∈ wsL_law := mw_in3 (List.mem_of_getElem? (i := 9) rfl)
theorem mw_4_0 : Cond.methodLink RX2 3 objectInit ∈ wsL_law := mw_in4 (List.mem_of_getElem? (i := 0) rfl)
theorem mw_4_1 : Cond.fieldLink RX2 9 "ShuntYard$Row" "from" "[I" ∈ wsL_law := mw_in4 (List.mem_of_getElem? (i := 1) rfl)
theorem mw_4_10 : Cond.static yL_low ∈ wsL_law := mw_in4 (List.mem_of_getElem? (i := 10) rfl)
theorem mw_4_11 : Cond.code yL_low cL_low 2 (some .int) ∈ wsL_law := mw_in4 (List.mem_of_getElem? (i := 11) rfl)
theorem mw_4_12 : Cond.constant RL 8 (2147483647) ∈ wsL_law := mw_in4 (List.mem_of_getElem? (i := 12) rfl)
theorem mw_4_13 : Cond.methodLink RL 101 yL_change ∈ wsL_law := mw_in4 (List.mem_of_getElem? (i := 13) rfl)
theorem mw_4_14 : Cond.static yL_change ∈ wsL_law := mw_in4 (List.mem_of_getElem? (i := 14) rfl)
theorem mw_4_15 : Cond.code yL_change cL_change 5 (some .int) ∈ wsL_law := mw_in4 (List.mem_of_getElem? (i := 15) rfl)
theorem mw_4_16 : Cond.methodLink RL 25 yX6_told ∈ wsL_law := mw_in4 (List.mem_of_getElem? (i := 16) rfl)
theorem mw_4_17 : Cond.instanceMethod yX6_told ∈ wsL_law := mw_in4 (List.mem_of_getElem? (i := 17) rfl)
theorem mw_4_18 : Cond.selects RX6 yX6_told yX6_told ∈ wsL_law := mw_in4 (List.mem_of_getElem? (i := 18) rfl)
theorem mw_4_19 : Cond.code yX6_told cX6_told 2 (some .int) ∈ wsL_law := mw_in4 (List.mem_of_getElem? (i := 19) rfl)
theorem mw_4_2 : Cond.fieldLink RX2 15 "ShuntYard$Row" "to" "[I" ∈ wsL_law := mw_in4 (List.mem_of_getElem? (i := 2) rfl)
theorem mw_4_20 : Cond.fieldLink RX6 170 "ShuntYard$Yard" "tracks" "I" ∈ wsL_law := mw_in4 (List.mem_of_getElem? (i := 20) rfl)
theorem mw_4_21 : Cond.fieldLink RX6 93 "ShuntYard$Yard" "capacity" "I" ∈ wsL_law := mw_in4 (List.mem_of_getElem? (i := 21) rfl)
theorem mw_4_22 : Cond.fieldLink RX6 120 "ShuntYard$Yard" "clock" "I" ∈ wsL_law := mw_in4 (List.mem_of_getElem? (i := 22) rfl)
theorem mw_4_23 : Cond.fieldLink RX6 107 "ShuntYard$Yard" "trains" "I" ∈ wsL_law := mw_in4 (List.mem_of_getElem? (i := 23) rfl)
theorem mw_4_3 : Cond.fieldLink RX2 18 "ShuntYard$Row" "n" "[I" ∈ wsL_law := mw_in4 (List.mem_of_getElem? (i := 3) rfl)
theorem mw_4_4 : Cond.methodLink RL 97 yL_cell ∈ wsL_law := mw_in4 (List.mem_of_getElem? (i := 4) rfl)
theorem mw_4_5 : Cond.static yL_cell ∈ wsL_law := mw_in4 (List.mem_of_getElem? (i := 5) rfl)
theorem mw_4_6 : Cond.initialized RL ∈ wsL_law := mw_in4 (List.mem_of_getElem? (i := 6) rfl)
theorem mw_4_7 : Cond.code yL_cell cL_cell 2 (some .int) ∈ wsL_law := mw_in4 (List.mem_of_getElem? (i := 7) rfl)
theorem mw_4_8 : Cond.constant RL 7 (747796405) ∈ wsL_law := mw_in4 (List.mem_of_getElem? (i := 8) rfl)
theorem mw_4_9 : Cond.methodLink RL 15 yL_low ∈ wsL_law := mw_in4 (List.mem_of_getElem? (i := 9) rfl)
theorem mw_5_0 : Cond.fieldLink RX6 176 "ShuntYard$Yard" "moves" "I" ∈ wsL_law := mw_in5 (List.mem_of_getElem? (i := 0) rfl)
theorem mw_5_1 : Cond.fieldLink RX6 177 "ShuntYard$Yard" "moveMinutes" "I" ∈ wsL_law := mw_in5 (List.mem_of_getElem? (i := 1) rfl)
theorem mw_5_10 : Cond.code yX5_wagonsInYard cX5_wagonsInYard 3 (some .int) ∈ wsL_law := mw_in5 (List.mem_of_getElem? (i := 10) rfl)
theorem mw_5_11 : Cond.methodLink RX6 173 yX5_unsafeTracks ∈ wsL_law := mw_in5 (List.mem_of_getElem? (i := 11) rfl)
theorem mw_5_12 : Cond.instanceMethod yX5_unsafeTracks ∈ wsL_law := mw_in5 (List.mem_of_getElem? (i := 12) rfl)
theorem mw_5_13 : Cond.selects RX5 yX5_unsafeTracks yX5_unsafeTracks ∈ wsL_law := mw_in5 (List.mem_of_getElem? (i := 13) rfl)
theorem mw_5_14 : Cond.code yX5_unsafeTracks cX5_unsafeTracks 3 (some .int) ∈ wsL_law := mw_in5 (List.mem_of_getElem? (i := 14) rfl)
theorem mw_5_15 : Cond.methodLink RX5 118 yX5_isSafe ∈ wsL_law := mw_in5 (List.mem_of_getElem? (i := 15) rfl)
theorem mw_5_16 : Cond.instanceMethod yX5_isSafe ∈ wsL_law := mw_in5 (List.mem_of_getElem? (i := 16) rfl)
theorem mw_5_17 : Cond.selects RX5 yX5_isSafe yX5_isSafe ∈ wsL_law := mw_in5 (List.mem_of_getElem? (i := 17) rfl)
theorem mw_5_18 : Cond.code yX5_isSafe cX5_isSafe 2 (some .boolean) ∈ wsL_law := mw_in5 (List.mem_of_getElem? (i := 18) rfl)
theorem mw_5_19 : Cond.fieldLink RX5 111 "ShuntYard$Gaps" "least" "I" ∈ wsL_law := mw_in5 (List.mem_of_getElem? (i := 19) rfl)
theorem mw_5_2 : Cond.fieldLink RX6 180 "ShuntYard$Yard" "trainsGone" "I" ∈ wsL_law := mw_in5 (List.mem_of_getElem? (i := 2) rfl)
theorem mw_5_20 : Cond.methodLink RX5 104 yX0_start ∈ wsL_law := mw_in5 (List.mem_of_getElem? (i := 20) rfl)
theorem mw_5_21 : Cond.instanceMethod yX0_start ∈ wsL_law := mw_in5 (List.mem_of_getElem? (i := 21) rfl)
theorem mw_5_22 : Cond.selects RX0 yX0_start yX0_start ∈ wsL_law := mw_in5 (List.mem_of_getElem? (i := 22) rfl)
theorem mw_5_23 : Cond.code yX0_start cX0_start 1 none ∈ wsL_law := mw_in5 (List.mem_of_getElem? (i := 23) rfl)
theorem mw_5_3 : Cond.fieldLink RX6 183 "ShuntYard$Yard" "wagonsGone" "I" ∈ wsL_law := mw_in5 (List.mem_of_getElem? (i := 3) rfl)
theorem mw_5_4 : Cond.fieldLink RX6 186 "ShuntYard$Yard" "wagonsCome" "I" ∈ wsL_law := mw_in5 (List.mem_of_getElem? (i := 4) rfl)
theorem mw_5_5 : Cond.fieldLink RX6 158 "ShuntYard$Text" "length" "I" ∈ wsL_law := mw_in5 (List.mem_of_getElem? (i := 5) rfl)
theorem mw_5_6 : Cond.fieldLink RX6 155 "ShuntYard$History" "count" "I" ∈ wsL_law := mw_in5 (List.mem_of_getElem? (i := 6) rfl)
theorem mw_5_7 : Cond.methodLink RX6 49 yX5_wagonsInYard ∈ wsL_law := mw_in5 (List.mem_of_getElem? (i := 7) rfl)
theorem mw_5_8 : Cond.instanceMethod yX5_wagonsInYard ∈ wsL_law := mw_in5 (List.mem_of_getElem? (i := 8) rfl)
theorem mw_5_9 : Cond.selects RX5 yX5_wagonsInYard yX5_wagonsInYard ∈ wsL_law := mw_in5 (List.mem_of_getElem? (i := 9) rfl)
theorem mw_6_0 : Cond.fieldLink RX0 11 "ShuntYard$Gaps" "least" "I" ∈ wsL_law := mw_in6 (List.mem_of_getElem? (i := 0) rfl)
theorem mw_6_1 : Cond.fieldLink RX0 15 "ShuntYard$Gaps" "latestDanger" "I" ∈ wsL_law := mw_in6 (List.mem_of_getElem? (i := 1) rfl)
theorem mw_6_10 : Cond.code yX5_wagonAt cX5_wagonAt 3 (some .int) ∈ wsL_law := mw_in6 (List.mem_of_getElem? (i := 10) rfl)
theorem mw_6_11 : Cond.static yX6_kindOf ∈ wsL_law := mw_in6 (List.mem_of_getElem? (i := 11) rfl)
theorem mw_6_12 : Cond.code yX6_kindOf cX6_kindOf 1 (some .int) ∈ wsL_law := mw_in6 (List.mem_of_getElem? (i := 12) rfl)
theorem mw_6_13 : Cond.methodLink RX5 114 yX0_pass ∈ wsL_law := mw_in6 (List.mem_of_getElem? (i := 13) rfl)
theorem mw_6_14 : Cond.instanceMethod yX0_pass ∈ wsL_law := mw_in6 (List.mem_of_getElem? (i := 14) rfl)
theorem mw_6_15 : Cond.selects RX0 yX0_pass yX0_pass ∈ wsL_law := mw_in6 (List.mem_of_getElem? (i := 15) rfl)
theorem mw_6_16 : Cond.code yX0_pass cX0_pass 2 none ∈ wsL_law := mw_in6 (List.mem_of_getElem? (i := 16) rfl)
theorem mw_6_17 : Cond.methodLink RX0 21 Lib.Math.min.name ∈ wsL_law := mw_in6 (List.mem_of_getElem? (i := 17) rfl)
theorem mw_6_18 : Cond.static Lib.Math.min.name ∈ wsL_law := mw_in6 (List.mem_of_getElem? (i := 18) rfl)
theorem mw_6_19 : Cond.initialized "java/lang/Math" ∈ wsL_law := mw_in6 (List.mem_of_getElem? (i := 19) rfl)
theorem mw_6_2 : Cond.fieldLink RX0 18 "ShuntYard$Gaps" "between" "I" ∈ wsL_law := mw_in6 (List.mem_of_getElem? (i := 2) rfl)
theorem mw_6_20 : Cond.code Lib.Math.min.name Lib.Math.min.code 2 (some .int) ∈ wsL_law := mw_in6 (List.mem_of_getElem? (i := 20) rfl)
theorem mw_6_21 : Cond.methodLink RX6 189 yX5_madeUpTrack ∈ wsL_law := mw_in6 (List.mem_of_getElem? (i := 21) rfl)
theorem mw_6_22 : Cond.instanceMethod yX5_madeUpTrack ∈ wsL_law := mw_in6 (List.mem_of_getElem? (i := 22) rfl)
theorem mw_6_23 : Cond.selects RX5 yX5_madeUpTrack yX5_madeUpTrack ∈ wsL_law := mw_in6 (List.mem_of_getElem? (i := 23) rfl)
theorem mw_6_3 : Cond.methodLink RX5 107 yX5_passPart ∈ wsL_law := mw_in6 (List.mem_of_getElem? (i := 3) rfl)
theorem mw_6_4 : Cond.instanceMethod yX5_passPart ∈ wsL_law := mw_in6 (List.mem_of_getElem? (i := 4) rfl)
theorem mw_6_5 : Cond.selects RX5 yX5_passPart yX5_passPart ∈ wsL_law := mw_in6 (List.mem_of_getElem? (i := 5) rfl)
theorem mw_6_6 : Cond.code yX5_passPart cX5_passPart 5 none ∈ wsL_law := mw_in6 (List.mem_of_getElem? (i := 6) rfl)
theorem mw_6_7 : Cond.methodLink RX5 78 yX5_wagonAt ∈ wsL_law := mw_in6 (List.mem_of_getElem? (i := 7) rfl)
theorem mw_6_8 : Cond.instanceMethod yX5_wagonAt ∈ wsL_law := mw_in6 (List.mem_of_getElem? (i := 8) rfl)
theorem mw_6_9 : Cond.selects RX5 yX5_wagonAt yX5_wagonAt ∈ wsL_law := mw_in6 (List.mem_of_getElem? (i := 9) rfl)
theorem mw_7_0 : Cond.code yX5_madeUpTrack cX5_madeUpTrack 2 (some .int) ∈ wsL_law := mw_in7 (List.mem_of_getElem? (i := 0) rfl)
theorem mw_7_1 : Cond.fieldLink RX5 59 "ShuntYard$Yard" "trains" "I" ∈ wsL_law := mw_in7 (List.mem_of_getElem? (i := 1) rfl)
theorem mw_7_10 : Cond.static yX6_destinationOf ∈ wsL_law := mw_in7 (List.mem_of_getElem? (i := 10) rfl)
theorem mw_7_11 : Cond.code yX6_destinationOf cX6_destinationOf 1 (some .int) ∈ wsL_law := mw_in7 (List.mem_of_getElem? (i := 11) rfl)
theorem mw_7_12 : Cond.methodLink RX5 149 yX5_forFirstInYard ∈ wsL_law := mw_in7 (List.mem_of_getElem? (i := 12) rfl)
theorem mw_7_13 : Cond.instanceMethod yX5_forFirstInYard ∈ wsL_law := mw_in7 (List.mem_of_getElem? (i := 13) rfl)
theorem mw_7_14 : Cond.selects RX5 yX5_forFirstInYard yX5_forFirstInYard ∈ wsL_law := mw_in7 (List.mem_of_getElem? (i := 14) rfl)
theorem mw_7_15 : Cond.code yX5_forFirstInYard cX5_forFirstInYard 3 (some .int) ∈ wsL_law := mw_in7 (List.mem_of_getElem? (i := 15) rfl)
theorem mw_7_16 : Cond.methodLink RL 34 yX6_begin ∈ wsL_law := mw_in7 (List.mem_of_getElem? (i := 16) rfl)
theorem mw_7_17 : Cond.instanceMethod yX6_begin ∈ wsL_law := mw_in7 (List.mem_of_getElem? (i := 17) rfl)
theorem mw_7_18 : Cond.selects RX6 yX6_begin yX6_begin ∈ wsL_law := mw_in7 (List.mem_of_getElem? (i := 18) rfl)
theorem mw_7_19 : Cond.code yX6_begin cX6_begin 4 (some .int) ∈ wsL_law := mw_in7 (List.mem_of_getElem? (i := 19) rfl)
theorem mw_7_2 : Cond.methodLink RX5 146 yX5_forFirstOn ∈ wsL_law := mw_in7 (List.mem_of_getElem? (i := 2) rfl)
theorem mw_7_20 : Cond.methodLink RX6 45 yX6_within ∈ wsL_law := mw_in7 (List.mem_of_getElem? (i := 20) rfl)
theorem mw_7_21 : Cond.static yX6_within ∈ wsL_law := mw_in7 (List.mem_of_getElem? (i := 21) rfl)
theorem mw_7_22 : Cond.code yX6_within cX6_within 3 (some .boolean) ∈ wsL_law := mw_in7 (List.mem_of_getElem? (i := 22) rfl)
theorem mw_7_23 : Cond.methodLink RX6 53 yX1_add ∈ wsL_law := mw_in7 (List.mem_of_getElem? (i := 23) rfl)
theorem mw_7_3 : Cond.instanceMethod yX5_forFirstOn ∈ wsL_law := mw_in7 (List.mem_of_getElem? (i := 3) rfl)
theorem mw_7_4 : Cond.selects RX5 yX5_forFirstOn yX5_forFirstOn ∈ wsL_law := mw_in7 (List.mem_of_getElem? (i := 4) rfl)
theorem mw_7_5 : Cond.code yX5_forFirstOn cX5_forFirstOn 4 (some .int) ∈ wsL_law := mw_in7 (List.mem_of_getElem? (i := 5) rfl)
theorem mw_7_6 : Cond.methodLink RX5 142 yX5_isForFirst ∈ wsL_law := mw_in7 (List.mem_of_getElem? (i := 6) rfl)
theorem mw_7_7 : Cond.instanceMethod yX5_isForFirst ∈ wsL_law := mw_in7 (List.mem_of_getElem? (i := 7) rfl)
theorem mw_7_8 : Cond.selects RX5 yX5_isForFirst yX5_isForFirst ∈ wsL_law := mw_in7 (List.mem_of_getElem? (i := 8) rfl)
theorem mw_7_9 : Cond.code yX5_isForFirst cX5_isForFirst 3 (some .boolean) ∈ wsL_law := mw_in7 (List.mem_of_getElem? (i := 9) rfl)
theorem mw_8_0 : Cond.instanceMethod yX1_add ∈ wsL_law := mw_in8 (List.mem_of_getElem? (i := 0) rfl)
theorem mw_8_1 : Cond.selects RX1 yX1_add yX1_add ∈ wsL_law := mw_in8 (List.mem_of_getElem? (i := 1) rfl)
theorem mw_8_10 : Cond.fieldLink RX5 41 "ShuntYard$Yard" "clock" "I" ∈ wsL_law := mw_in8 (List.mem_of_getElem? (i := 10) rfl)
theorem mw_8_11 : Cond.fieldLink RX5 44 "ShuntYard$Yard" "moves" "I" ∈ wsL_law := mw_in8 (List.mem_of_getElem? (i := 11) rfl)
theorem mw_8_12 : Cond.fieldLink RX5 47 "ShuntYard$Yard" "moveMinutes" "I" ∈ wsL_law := mw_in8 (List.mem_of_getElem? (i := 12) rfl)
theorem mw_8_13 : Cond.fieldLink RX5 50 "ShuntYard$Yard" "trainsGone" "I" ∈ wsL_law := mw_in8 (List.mem_of_getElem? (i := 13) rfl)
theorem mw_8_14 : Cond.fieldLink RX5 53 "ShuntYard$Yard" "wagonsGone" "I" ∈ wsL_law := mw_in8 (List.mem_of_getElem? (i := 14) rfl)
theorem mw_8_15 : Cond.fieldLink RX5 56 "ShuntYard$Yard" "wagonsCome" "I" ∈ wsL_law := mw_in8 (List.mem_of_getElem? (i := 15) rfl)
theorem mw_8_16 : Cond.methodLink RX5 62 arraycopyName ∈ wsL_law := mw_in8 (List.mem_of_getElem? (i := 16) rfl)
theorem mw_8_17 : Cond.native arraycopyName ∈ wsL_law := mw_in8 (List.mem_of_getElem? (i := 17) rfl)
theorem mw_8_18 : Cond.static arraycopyName ∈ wsL_law := mw_in8 (List.mem_of_getElem? (i := 18) rfl)
theorem mw_8_19 : Cond.initialized "java/lang/System" ∈ wsL_law := mw_in8 (List.mem_of_getElem? (i := 19) rfl)
theorem mw_8_2 : Cond.code yX1_add cX1_add 2 none ∈ wsL_law := mw_in8 (List.mem_of_getElem? (i := 2) rfl)
theorem mw_8_20 : Cond.methodLink RX6 57 yX5_restart ∈ wsL_law := mw_in8 (List.mem_of_getElem? (i := 20) rfl)
theorem mw_8_21 : Cond.instanceMethod yX5_restart ∈ wsL_law := mw_in8 (List.mem_of_getElem? (i := 21) rfl)
theorem mw_8_22 : Cond.selects RX5 yX5_restart yX5_restart ∈ wsL_law := mw_in8 (List.mem_of_getElem? (i := 22) rfl)
theorem mw_8_23 : Cond.code yX5_restart cX5_restart 3 none ∈ wsL_law := mw_in8 (List.mem_of_getElem? (i := 23) rfl)
theorem mw_8_3 : Cond.fieldLink RX1 17 "ShuntYard$History" "next" "I" ∈ wsL_law := mw_in8 (List.mem_of_getElem? (i := 3) rfl)
theorem mw_8_4 : Cond.fieldLink RX1 26 "ShuntYard$History" "count" "I" ∈ wsL_law := mw_in8 (List.mem_of_getElem? (i := 4) rfl)
theorem mw_8_5 : Cond.methodLink RX1 29 Lib.Math.min.name ∈ wsL_law := mw_in8 (List.mem_of_getElem? (i := 5) rfl)
theorem mw_8_6 : Cond.methodLink RX1 22 yX5_copyFrom ∈ wsL_law := mw_in8 (List.mem_of_getElem? (i := 6) rfl)
theorem mw_8_7 : Cond.instanceMethod yX5_copyFrom ∈ wsL_law := mw_in8 (List.mem_of_getElem? (i := 7) rfl)
theorem mw_8_8 : Cond.selects RX5 yX5_copyFrom yX5_copyFrom ∈ wsL_law := mw_in8 (List.mem_of_getElem? (i := 8) rfl)
theorem mw_8_9 : Cond.code yX5_copyFrom cX5_copyFrom 2 none ∈ wsL_law := mw_in8 (List.mem_of_getElem? (i := 9) rfl)
theorem mw_9_0 : Cond.methodLink RX5 68 yJ7_fill_53178 ∈ wsL_law := mw_in9 (List.mem_of_getElem? (i := 0) rfl)
theorem mw_9_1 : Cond.static yJ7_fill_53178 ∈ wsL_law := mw_in9 (List.mem_of_getElem? (i := 1) rfl)
theorem mw_9_10 : Cond.static yX6_isSetting ∈ wsL_law := mw_in9 (List.mem_of_getElem? (i := 10) rfl)
theorem mw_9_11 : Cond.code yX6_isSetting cX6_isSetting 1 (some .boolean) ∈ wsL_law := mw_in9 (List.mem_of_getElem? (i := 11) rfl)
theorem mw_9_12 : Cond.methodLink RX6 65 yX6_leastOf ∈ wsL_law := mw_in9 (List.mem_of_getElem? (i := 12) rfl)
theorem mw_9_13 : Cond.static yX6_leastOf ∈ wsL_law := mw_in9 (List.mem_of_getElem? (i := 13) rfl)
theorem mw_9_14 : Cond.code yX6_leastOf cX6_leastOf 1 (some .int) ∈ wsL_law := mw_in9 (List.mem_of_getElem? (i := 14) rfl)
theorem mw_9_15 : Cond.methodLink RX6 69 yX6_greatestOf ∈ wsL_law := mw_in9 (List.mem_of_getElem? (i := 15) rfl)
theorem mw_9_16 : Cond.static yX6_greatestOf ∈ wsL_law := mw_in9 (List.mem_of_getElem? (i := 16) rfl)
theorem mw_9_17 : Cond.code yX6_greatestOf cX6_greatestOf 1 (some .int) ∈ wsL_law := mw_in9 (List.mem_of_getElem? (i := 17) rfl)
theorem mw_9_18 : Cond.methodLink RL 40 yL_list ∈ wsL_law := mw_in9 (List.mem_of_getElem? (i := 18) rfl)
theorem mw_9_19 : Cond.static yL_list ∈ wsL_law := mw_in9 (List.mem_of_getElem? (i := 19) rfl)
theorem mw_9_2 : Cond.initialized RJ7 ∈ wsL_law := mw_in9 (List.mem_of_getElem? (i := 2) rfl)
theorem mw_9_20 : Cond.code yL_list cL_list 4 (some .int) ∈ wsL_law := mw_in9 (List.mem_of_getElem? (i := 20) rfl)
theorem mw_9_21 : Cond.methodLink RL 9 yX6_wipe ∈ wsL_law := mw_in9 (List.mem_of_getElem? (i := 21) rfl)
theorem mw_9_22 : Cond.instanceMethod yX6_wipe ∈ wsL_law := mw_in9 (List.mem_of_getElem? (i := 22) rfl)
theorem mw_9_23 : Cond.selects RX6 yX6_wipe yX6_wipe ∈ wsL_law := mw_in9 (List.mem_of_getElem? (i := 23) rfl)
theorem mw_9_3 : Cond.code yJ7_fill_53178 cJ7_fill_53178 4 none ∈ wsL_law := mw_in9 (List.mem_of_getElem? (i := 3) rfl)
theorem mw_9_4 : Cond.methodLink RL 37 yX6_set ∈ wsL_law := mw_in9 (List.mem_of_getElem? (i := 4) rfl)
theorem mw_9_5 : Cond.instanceMethod yX6_set ∈ wsL_law := mw_in9 (List.mem_of_getElem? (i := 5) rfl)
theorem mw_9_6 : Cond.selects RX6 yX6_set yX6_set ∈ wsL_law := mw_in9 (List.mem_of_getElem? (i := 6) rfl)
theorem mw_9_7 : Cond.code yX6_set cX6_set 4 (some .int) ∈ wsL_law := mw_in9 (List.mem_of_getElem? (i := 7) rfl)
theorem mw_9_8 : Cond.fieldLink RX6 72 "ShuntYard$Yard" "settings" "[I" ∈ wsL_law := mw_in9 (List.mem_of_getElem? (i := 8) rfl)
theorem mw_9_9 : Cond.methodLink RX6 61 yX6_isSetting ∈ wsL_law := mw_in9 (List.mem_of_getElem? (i := 9) rfl)
theorem cd_J7_fill_53178 : yJ7_fill_53178.cls ≠ "java/lang/invoke/MethodHandle" ∧ yJ7_fill_53178.cls ≠ "java/lang/invoke/VarHandle" ∧ (parseMethodDescriptor yJ7_fill_53178.desc).map (fun d => d.parameters.length) = some 2 := by decide +kernel
theorem cd_L_areAlike : yL_areAlike.cls ≠ "java/lang/invoke/MethodHandle" ∧ yL_areAlike.cls ≠ "java/lang/invoke/VarHandle" ∧ (parseMethodDescriptor yL_areAlike.desc).map (fun d => d.parameters.length) = some 2 := by decide +kernel
theorem cd_L_areTracks : yL_areTracks.cls ≠ "java/lang/invoke/MethodHandle" ∧ yL_areTracks.cls ≠ "java/lang/invoke/VarHandle" ∧ (parseMethodDescriptor yL_areTracks.desc).map (fun d => d.parameters.length) = some 1 := by decide +kernel
theorem cd_L_arrive : yL_arrive.cls ≠ "java/lang/invoke/MethodHandle" ∧ yL_arrive.cls ≠ "java/lang/invoke/VarHandle" ∧ (parseMethodDescriptor yL_arrive.desc).map (fun d => d.parameters.length) = some 3 := by decide +kernel
theorem cd_L_cell : yL_cell.cls ≠ "java/lang/invoke/MethodHandle" ∧ yL_cell.cls ≠ "java/lang/invoke/VarHandle" ∧ (parseMethodDescriptor yL_cell.desc).map (fun d => d.parameters.length) = some 2 := by decide +kernel
theorem cd_L_change : yL_change.cls ≠ "java/lang/invoke/MethodHandle" ∧ yL_change.cls ≠ "java/lang/invoke/VarHandle" ∧ (parseMethodDescriptor yL_change.desc).map (fun d => d.parameters.length) = some 3 := by decide +kernel
theorem cd_L_isCheapest : yL_isCheapest.cls ≠ "java/lang/invoke/MethodHandle" ∧ yL_isCheapest.cls ≠ "java/lang/invoke/VarHandle" ∧ (parseMethodDescriptor yL_isCheapest.desc).map (fun d => d.parameters.length) = some 1 := by decide +kernel
theorem cd_L_isDeparture : yL_isDeparture.cls ≠ "java/lang/invoke/MethodHandle" ∧ yL_isDeparture.cls ≠ "java/lang/invoke/VarHandle" ∧ (parseMethodDescriptor yL_isDeparture.desc).map (fun d => d.parameters.length) = some 2 := by decide +kernel
theorem cd_L_isMove : yL_isMove.cls ≠ "java/lang/invoke/MethodHandle" ∧ yL_isMove.cls ≠ "java/lang/invoke/VarHandle" ∧ (parseMethodDescriptor yL_isMove.desc).map (fun d => d.parameters.length) = some 4 := by decide +kernel
theorem cd_L_list : yL_list.cls ≠ "java/lang/invoke/MethodHandle" ∧ yL_list.cls ≠ "java/lang/invoke/VarHandle" ∧ (parseMethodDescriptor yL_list.desc).map (fun d => d.parameters.length) = some 2 := by decide +kernel
theorem cd_L_low : yL_low.cls ≠ "java/lang/invoke/MethodHandle" ∧ yL_low.cls ≠ "java/lang/invoke/VarHandle" ∧ (parseMethodDescriptor yL_low.desc).map (fun d => d.parameters.length) = some 2 := by decide +kernel
theorem cd_X0_init : yX0_init.cls ≠ "java/lang/invoke/MethodHandle" ∧ yX0_init.cls ≠ "java/lang/invoke/VarHandle" ∧ (parseMethodDescriptor yX0_init.desc).map (fun d => d.parameters.length) = some 0 := by decide +kernel
theorem cd_X0_pass : yX0_pass.cls = RX0 ∧ yX0_pass.cls ≠ "java/lang/invoke/MethodHandle" ∧ yX0_pass.cls ≠ "java/lang/invoke/VarHandle" ∧ (parseMethodDescriptor yX0_pass.desc).map (fun d => d.parameters.length) = some 1 := by decide +kernel
theorem cd_X0_start : yX0_start.cls = RX0 ∧ yX0_start.cls ≠ "java/lang/invoke/MethodHandle" ∧ yX0_start.cls ≠ "java/lang/invoke/VarHandle" ∧ (parseMethodDescriptor yX0_start.desc).map (fun d => d.parameters.length) = some 0 := by decide +kernel
theorem cd_X1_add : yX1_add.cls = RX1 ∧ yX1_add.cls ≠ "java/lang/invoke/MethodHandle" ∧ yX1_add.cls ≠ "java/lang/invoke/VarHandle" ∧ (parseMethodDescriptor yX1_add.desc).map (fun d => d.parameters.length) = some 1 := by decide +kernel
theorem cd_X1_init : yX1_init.cls ≠ "java/lang/invoke/MethodHandle" ∧ yX1_init.cls ≠ "java/lang/invoke/VarHandle" ∧ (parseMethodDescriptor yX1_init.desc).map (fun d => d.parameters.length) = some 0 := by decide +kernel
theorem cd_X1_restore : yX1_restore.cls = RX1 ∧ yX1_restore.cls ≠ "java/lang/invoke/MethodHandle" ∧ yX1_restore.cls ≠ "java/lang/invoke/VarHandle" ∧ (parseMethodDescriptor yX1_restore.desc).map (fun d => d.parameters.length) = some 1 := by decide +kernel
theorem cd_X2_addLast : yX2_addLast.cls = RX2 ∧ yX2_addLast.cls ≠ "java/lang/invoke/MethodHandle" ∧ yX2_addLast.cls ≠ "java/lang/invoke/VarHandle" ∧ (parseMethodDescriptor yX2_addLast.desc).map (fun d => d.parameters.length) = some 4 := by decide +kernel
theorem cd_X2_clear : yX2_clear.cls = RX2 ∧ yX2_clear.cls ≠ "java/lang/invoke/MethodHandle" ∧ yX2_clear.cls ≠ "java/lang/invoke/VarHandle" ∧ (parseMethodDescriptor yX2_clear.desc).map (fun d => d.parameters.length) = some 0 := by decide +kernel
theorem cd_X2_copyFrom : yX2_copyFrom.cls = RX2 ∧ yX2_copyFrom.cls ≠ "java/lang/invoke/MethodHandle" ∧ yX2_copyFrom.cls ≠ "java/lang/invoke/VarHandle" ∧ (parseMethodDescriptor yX2_copyFrom.desc).map (fun d => d.parameters.length) = some 1 := by decide +kernel
theorem cd_X2_dropLast : yX2_dropLast.cls = RX2 ∧ yX2_dropLast.cls ≠ "java/lang/invoke/MethodHandle" ∧ yX2_dropLast.cls ≠ "java/lang/invoke/VarHandle" ∧ (parseMethodDescriptor yX2_dropLast.desc).map (fun d => d.parameters.length) = some 1 := by decide +kernel
theorem cd_X2_init : yX2_init.cls ≠ "java/lang/invoke/MethodHandle" ∧ yX2_init.cls ≠ "java/lang/invoke/VarHandle" ∧ (parseMethodDescriptor yX2_init.desc).map (fun d => d.parameters.length) = some 0 := by decide +kernel
theorem cd_X2_isCheaperThan : yX2_isCheaperThan.cls = RX2 ∧ yX2_isCheaperThan.cls ≠ "java/lang/invoke/MethodHandle" ∧ yX2_isCheaperThan.cls ≠ "java/lang/invoke/VarHandle" ∧ (parseMethodDescriptor yX2_isCheaperThan.desc).map (fun d => d.parameters.length) = some 1 := by decide +kernel
theorem cd_X3_countWanted : yX3_countWanted.cls = RX3 ∧ yX3_countWanted.cls ≠ "java/lang/invoke/MethodHandle" ∧ yX3_countWanted.cls ≠ "java/lang/invoke/VarHandle" ∧ (parseMethodDescriptor yX3_countWanted.desc).map (fun d => d.parameters.length) = some 1 := by decide +kernel
theorem cd_X3_init : yX3_init.cls ≠ "java/lang/invoke/MethodHandle" ∧ yX3_init.cls ≠ "java/lang/invoke/VarHandle" ∧ (parseMethodDescriptor yX3_init.desc).map (fun d => d.parameters.length) = some 0 := by decide +kernel
theorem cd_X3_isTooDear : yX3_isTooDear.cls = RX3 ∧ yX3_isTooDear.cls ≠ "java/lang/invoke/MethodHandle" ∧ yX3_isTooDear.cls ≠ "java/lang/invoke/VarHandle" ∧ (parseMethodDescriptor yX3_isTooDear.desc).map (fun d => d.parameters.length) = some 1 := by decide +kernel
theorem cd_X3_keepIfCheaper : yX3_keepIfCheaper.cls = RX3 ∧ yX3_keepIfCheaper.cls ≠ "java/lang/invoke/MethodHandle" ∧ yX3_keepIfCheaper.cls ≠ "java/lang/invoke/VarHandle" ∧ (parseMethodDescriptor yX3_keepIfCheaper.desc).map (fun d => d.parameters.length) = some 0 := by decide +kernel
theorem cd_X3_movesNeeded : yX3_movesNeeded.cls = RX3 ∧ yX3_movesNeeded.cls ≠ "java/lang/invoke/MethodHandle" ∧ yX3_movesNeeded.cls ≠ "java/lang/invoke/VarHandle" ∧ (parseMethodDescriptor yX3_movesNeeded.desc).map (fun d => d.parameters.length) = some 0 := by decide +kernel
theorem cd_X3_movesNeededFor : yX3_movesNeededFor.cls = RX3 ∧ yX3_movesNeededFor.cls ≠ "java/lang/invoke/MethodHandle" ∧ yX3_movesNeededFor.cls ≠ "java/lang/invoke/VarHandle" ∧ (parseMethodDescriptor yX3_movesNeededFor.desc).map (fun d => d.parameters.length) = some 1 := by decide +kernel
theorem cd_X3_seek : yX3_seek.cls = RX3 ∧ yX3_seek.cls ≠ "java/lang/invoke/MethodHandle" ∧ yX3_seek.cls ≠ "java/lang/invoke/VarHandle" ∧ (parseMethodDescriptor yX3_seek.desc).map (fun d => d.parameters.length) = some 1 := by decide +kernel
theorem cd_X3_seekBehindMove : yX3_seekBehindMove.cls = RX3 ∧ yX3_seekBehindMove.cls ≠ "java/lang/invoke/MethodHandle" ∧ yX3_seekBehindMove.cls ≠ "java/lang/invoke/VarHandle" ∧ (parseMethodDescriptor yX3_seekBehindMove.desc).map (fun d => d.parameters.length) = some 5 := by decide +kernel
theorem cd_X3_succeeds : yX3_succeeds.cls = RX3 ∧ yX3_succeeds.cls ≠ "java/lang/invoke/MethodHandle" ∧ yX3_succeeds.cls ≠ "java/lang/invoke/VarHandle" ∧ (parseMethodDescriptor yX3_succeeds.desc).map (fun d => d.parameters.length) = some 2 := by decide +kernel
theorem cd_X4_append : yX4_append.cls = RX4 ∧ yX4_append.cls ≠ "java/lang/invoke/MethodHandle" ∧ yX4_append.cls ≠ "java/lang/invoke/VarHandle" ∧ (parseMethodDescriptor yX4_append.desc).map (fun d => d.parameters.length) = some 1 := by decide +kernel
theorem cd_X4_fillLatest : yX4_fillLatest.cls = RX4 ∧ yX4_fillLatest.cls ≠ "java/lang/invoke/MethodHandle" ∧ yX4_fillLatest.cls ≠ "java/lang/invoke/VarHandle" ∧ (parseMethodDescriptor yX4_fillLatest.desc).map (fun d => d.parameters.length) = some 2 := by decide +kernel
theorem cd_X4_foundFault : yX4_foundFault.cls = RX4 ∧ yX4_foundFault.cls ≠ "java/lang/invoke/MethodHandle" ∧ yX4_foundFault.cls ≠ "java/lang/invoke/VarHandle" ∧ (parseMethodDescriptor yX4_foundFault.desc).map (fun d => d.parameters.length) = some 2 := by decide +kernel
theorem cd_X4_init : yX4_init.cls ≠ "java/lang/invoke/MethodHandle" ∧ yX4_init.cls ≠ "java/lang/invoke/VarHandle" ∧ (parseMethodDescriptor yX4_init.desc).map (fun d => d.parameters.length) = some 0 := by decide +kernel
theorem cd_X4_readTrains : yX4_readTrains.cls = RX4 ∧ yX4_readTrains.cls ≠ "java/lang/invoke/MethodHandle" ∧ yX4_readTrains.cls ≠ "java/lang/invoke/VarHandle" ∧ (parseMethodDescriptor yX4_readTrains.desc).map (fun d => d.parameters.length) = some 0 := by decide +kernel
theorem cd_X4_readWagons : yX4_readWagons.cls = RX4 ∧ yX4_readWagons.cls ≠ "java/lang/invoke/MethodHandle" ∧ yX4_readWagons.cls ≠ "java/lang/invoke/VarHandle" ∧ (parseMethodDescriptor yX4_readWagons.desc).map (fun d => d.parameters.length) = some 0 := by decide +kernel
theorem cd_X5_copyFrom : yX5_copyFrom.cls = RX5 ∧ yX5_copyFrom.cls ≠ "java/lang/invoke/MethodHandle" ∧ yX5_copyFrom.cls ≠ "java/lang/invoke/VarHandle" ∧ (parseMethodDescriptor yX5_copyFrom.desc).map (fun d => d.parameters.length) = some 1 := by decide +kernel
theorem cd_X5_costOrCode : yX5_costOrCode.cls = RX5 ∧ yX5_costOrCode.cls ≠ "java/lang/invoke/MethodHandle" ∧ yX5_costOrCode.cls ≠ "java/lang/invoke/VarHandle" ∧ (parseMethodDescriptor yX5_costOrCode.desc).map (fun d => d.parameters.length) = some 3 := by decide +kernel
theorem cd_X5_drive : yX5_drive.cls = RX5 ∧ yX5_drive.cls ≠ "java/lang/invoke/MethodHandle" ∧ yX5_drive.cls ≠ "java/lang/invoke/VarHandle" ∧ (parseMethodDescriptor yX5_drive.desc).map (fun d => d.parameters.length) = some 3 := by decide +kernel
theorem cd_X5_forFirstInYard : yX5_forFirstInYard.cls = RX5 ∧ yX5_forFirstInYard.cls ≠ "java/lang/invoke/MethodHandle" ∧ yX5_forFirstInYard.cls ≠ "java/lang/invoke/VarHandle" ∧ (parseMethodDescriptor yX5_forFirstInYard.desc).map (fun d => d.parameters.length) = some 0 := by decide +kernel
theorem cd_X5_forFirstOn : yX5_forFirstOn.cls = RX5 ∧ yX5_forFirstOn.cls ≠ "java/lang/invoke/MethodHandle" ∧ yX5_forFirstOn.cls ≠ "java/lang/invoke/VarHandle" ∧ (parseMethodDescriptor yX5_forFirstOn.desc).map (fun d => d.parameters.length) = some 1 := by decide +kernel
theorem cd_X5_hasTrack : yX5_hasTrack.cls = RX5 ∧ yX5_hasTrack.cls ≠ "java/lang/invoke/MethodHandle" ∧ yX5_hasTrack.cls ≠ "java/lang/invoke/VarHandle" ∧ (parseMethodDescriptor yX5_hasTrack.desc).map (fun d => d.parameters.length) = some 1 := by decide +kernel
theorem cd_X5_init : yX5_init.cls ≠ "java/lang/invoke/MethodHandle" ∧ yX5_init.cls ≠ "java/lang/invoke/VarHandle" ∧ (parseMethodDescriptor yX5_init.desc).map (fun d => d.parameters.length) = some 0 := by decide +kernel
theorem cd_X5_isForFirst : yX5_isForFirst.cls = RX5 ∧ yX5_isForFirst.cls ≠ "java/lang/invoke/MethodHandle" ∧ yX5_isForFirst.cls ≠ "java/lang/invoke/VarHandle" ∧ (parseMethodDescriptor yX5_isForFirst.desc).map (fun d => d.parameters.length) = some 2 := by decide +kernel
theorem cd_X5_isSafe : yX5_isSafe.cls = RX5 ∧ yX5_isSafe.cls ≠ "java/lang/invoke/MethodHandle" ∧ yX5_isSafe.cls ≠ "java/lang/invoke/VarHandle" ∧ (parseMethodDescriptor yX5_isSafe.desc).map (fun d => d.parameters.length) = some 1 := by decide +kernel
theorem cd_X5_isSafeBehindMove : yX5_isSafeBehindMove.cls = RX5 ∧ yX5_isSafeBehindMove.cls ≠ "java/lang/invoke/MethodHandle" ∧ yX5_isSafeBehindMove.cls ≠ "java/lang/invoke/VarHandle" ∧ (parseMethodDescriptor yX5_isSafeBehindMove.desc).map (fun d => d.parameters.length) = some 3 := by decide +kernel
theorem cd_X5_isSafeWith : yX5_isSafeWith.cls = RX5 ∧ yX5_isSafeWith.cls ≠ "java/lang/invoke/MethodHandle" ∧ yX5_isSafeWith.cls ≠ "java/lang/invoke/VarHandle" ∧ (parseMethodDescriptor yX5_isSafeWith.desc).map (fun d => d.parameters.length) = some 2 := by decide +kernel
theorem cd_X5_leastGap : yX5_leastGap.cls = RX5 ∧ yX5_leastGap.cls ≠ "java/lang/invoke/MethodHandle" ∧ yX5_leastGap.cls ≠ "java/lang/invoke/VarHandle" ∧ (parseMethodDescriptor yX5_leastGap.desc).map (fun d => d.parameters.length) = some 1 := by decide +kernel
theorem cd_X5_madeUpTrack : yX5_madeUpTrack.cls = RX5 ∧ yX5_madeUpTrack.cls ≠ "java/lang/invoke/MethodHandle" ∧ yX5_madeUpTrack.cls ≠ "java/lang/invoke/VarHandle" ∧ (parseMethodDescriptor yX5_madeUpTrack.desc).map (fun d => d.parameters.length) = some 0 := by decide +kernel
theorem cd_X5_minutesOf : yX5_minutesOf.cls = RX5 ∧ yX5_minutesOf.cls ≠ "java/lang/invoke/MethodHandle" ∧ yX5_minutesOf.cls ≠ "java/lang/invoke/VarHandle" ∧ (parseMethodDescriptor yX5_minutesOf.desc).map (fun d => d.parameters.length) = some 3 := by decide +kernel
theorem cd_X5_passPart : yX5_passPart.cls = RX5 ∧ yX5_passPart.cls ≠ "java/lang/invoke/MethodHandle" ∧ yX5_passPart.cls ≠ "java/lang/invoke/VarHandle" ∧ (parseMethodDescriptor yX5_passPart.desc).map (fun d => d.parameters.length) = some 3 := by decide +kernel
theorem cd_X5_refusal : yX5_refusal.cls = RX5 ∧ yX5_refusal.cls ≠ "java/lang/invoke/MethodHandle" ∧ yX5_refusal.cls ≠ "java/lang/invoke/VarHandle" ∧ (parseMethodDescriptor yX5_refusal.desc).map (fun d => d.parameters.length) = some 1 := by decide +kernel
theorem cd_X5_restart : yX5_restart.cls = RX5 ∧ yX5_restart.cls ≠ "java/lang/invoke/MethodHandle" ∧ yX5_restart.cls ≠ "java/lang/invoke/VarHandle" ∧ (parseMethodDescriptor yX5_restart.desc).map (fun d => d.parameters.length) = some 2 := by decide +kernel
theorem cd_X5_sendOff : yX5_sendOff.cls = RX5 ∧ yX5_sendOff.cls ≠ "java/lang/invoke/MethodHandle" ∧ yX5_sendOff.cls ≠ "java/lang/invoke/VarHandle" ∧ (parseMethodDescriptor yX5_sendOff.desc).map (fun d => d.parameters.length) = some 1 := by decide +kernel
theorem cd_X5_shift : yX5_shift.cls = RX5 ∧ yX5_shift.cls ≠ "java/lang/invoke/MethodHandle" ∧ yX5_shift.cls ≠ "java/lang/invoke/VarHandle" ∧ (parseMethodDescriptor yX5_shift.desc).map (fun d => d.parameters.length) = some 3 := by decide +kernel
theorem cd_X5_spotOf : yX5_spotOf.cls = RX5 ∧ yX5_spotOf.cls ≠ "java/lang/invoke/MethodHandle" ∧ yX5_spotOf.cls ≠ "java/lang/invoke/VarHandle" ∧ (parseMethodDescriptor yX5_spotOf.desc).map (fun d => d.parameters.length) = some 1 := by decide +kernel
theorem cd_X5_takeIn : yX5_takeIn.cls = RX5 ∧ yX5_takeIn.cls ≠ "java/lang/invoke/MethodHandle" ∧ yX5_takeIn.cls ≠ "java/lang/invoke/VarHandle" ∧ (parseMethodDescriptor yX5_takeIn.desc).map (fun d => d.parameters.length) = some 2 := by decide +kernel
theorem cd_X5_takeTrains : yX5_takeTrains.cls = RX5 ∧ yX5_takeTrains.cls ≠ "java/lang/invoke/MethodHandle" ∧ yX5_takeTrains.cls ≠ "java/lang/invoke/VarHandle" ∧ (parseMethodDescriptor yX5_takeTrains.desc).map (fun d => d.parameters.length) = some 1 := by decide +kernel
theorem cd_X5_testBrakes : yX5_testBrakes.cls = RX5 ∧ yX5_testBrakes.cls ≠ "java/lang/invoke/MethodHandle" ∧ yX5_testBrakes.cls ≠ "java/lang/invoke/VarHandle" ∧ (parseMethodDescriptor yX5_testBrakes.desc).map (fun d => d.parameters.length) = some 1 := by decide +kernel
theorem cd_X5_testHoldsFor : yX5_testHoldsFor.cls = RX5 ∧ yX5_testHoldsFor.cls ≠ "java/lang/invoke/MethodHandle" ∧ yX5_testHoldsFor.cls ≠ "java/lang/invoke/VarHandle" ∧ (parseMethodDescriptor yX5_testHoldsFor.desc).map (fun d => d.parameters.length) = some 1 := by decide +kernel
theorem cd_X5_unsafeTracks : yX5_unsafeTracks.cls = RX5 ∧ yX5_unsafeTracks.cls ≠ "java/lang/invoke/MethodHandle" ∧ yX5_unsafeTracks.cls ≠ "java/lang/invoke/VarHandle" ∧ (parseMethodDescriptor yX5_unsafeTracks.desc).map (fun d => d.parameters.length) = some 0 := by decide +kernel
theorem cd_X5_wagonAt : yX5_wagonAt.cls = RX5 ∧ yX5_wagonAt.cls ≠ "java/lang/invoke/MethodHandle" ∧ yX5_wagonAt.cls ≠ "java/lang/invoke/VarHandle" ∧ (parseMethodDescriptor yX5_wagonAt.desc).map (fun d => d.parameters.length) = some 2 := by decide +kernel
theorem cd_X5_wagonsInYard : yX5_wagonsInYard.cls = RX5 ∧ yX5_wagonsInYard.cls ≠ "java/lang/invoke/MethodHandle" ∧ yX5_wagonsInYard.cls ≠ "java/lang/invoke/VarHandle" ∧ (parseMethodDescriptor yX5_wagonsInYard.desc).map (fun d => d.parameters.length) = some 0 := by decide +kernel
theorem cd_X6_arrive : yX6_arrive.cls = RX6 ∧ yX6_arrive.cls ≠ "java/lang/invoke/MethodHandle" ∧ yX6_arrive.cls ≠ "java/lang/invoke/VarHandle" ∧ (parseMethodDescriptor yX6_arrive.desc).map (fun d => d.parameters.length) = some 1 := by decide +kernel
theorem cd_X6_back : yX6_back.cls = RX6 ∧ yX6_back.cls ≠ "java/lang/invoke/MethodHandle" ∧ yX6_back.cls ≠ "java/lang/invoke/VarHandle" ∧ (parseMethodDescriptor yX6_back.desc).map (fun d => d.parameters.length) = some 1 := by decide +kernel
theorem cd_X6_begin : yX6_begin.cls = RX6 ∧ yX6_begin.cls ≠ "java/lang/invoke/MethodHandle" ∧ yX6_begin.cls ≠ "java/lang/invoke/VarHandle" ∧ (parseMethodDescriptor yX6_begin.desc).map (fun d => d.parameters.length) = some 2 := by decide +kernel
theorem cd_X6_cheapest : yX6_cheapest.cls = RX6 ∧ yX6_cheapest.cls ≠ "java/lang/invoke/MethodHandle" ∧ yX6_cheapest.cls ≠ "java/lang/invoke/VarHandle" ∧ (parseMethodDescriptor yX6_cheapest.desc).map (fun d => d.parameters.length) = some 2 := by decide +kernel
theorem cd_X6_cost : yX6_cost.cls = RX6 ∧ yX6_cost.cls ≠ "java/lang/invoke/MethodHandle" ∧ yX6_cost.cls ≠ "java/lang/invoke/VarHandle" ∧ (parseMethodDescriptor yX6_cost.desc).map (fun d => d.parameters.length) = some 3 := by decide +kernel
theorem cd_X6_depart : yX6_depart.cls = RX6 ∧ yX6_depart.cls ≠ "java/lang/invoke/MethodHandle" ∧ yX6_depart.cls ≠ "java/lang/invoke/VarHandle" ∧ (parseMethodDescriptor yX6_depart.desc).map (fun d => d.parameters.length) = some 1 := by decide +kernel
theorem cd_X6_destinationOf : yX6_destinationOf.cls ≠ "java/lang/invoke/MethodHandle" ∧ yX6_destinationOf.cls ≠ "java/lang/invoke/VarHandle" ∧ (parseMethodDescriptor yX6_destinationOf.desc).map (fun d => d.parameters.length) = some 1 := by decide +kernel
theorem cd_X6_find : yX6_find.cls = RX6 ∧ yX6_find.cls ≠ "java/lang/invoke/MethodHandle" ∧ yX6_find.cls ≠ "java/lang/invoke/VarHandle" ∧ (parseMethodDescriptor yX6_find.desc).map (fun d => d.parameters.length) = some 2 := by decide +kernel
theorem cd_X6_greatestOf : yX6_greatestOf.cls ≠ "java/lang/invoke/MethodHandle" ∧ yX6_greatestOf.cls ≠ "java/lang/invoke/VarHandle" ∧ (parseMethodDescriptor yX6_greatestOf.desc).map (fun d => d.parameters.length) = some 1 := by decide +kernel
theorem cd_X6_init : yX6_init.cls ≠ "java/lang/invoke/MethodHandle" ∧ yX6_init.cls ≠ "java/lang/invoke/VarHandle" ∧ (parseMethodDescriptor yX6_init.desc).map (fun d => d.parameters.length) = some 0 := by decide +kernel
theorem cd_X6_isSetting : yX6_isSetting.cls ≠ "java/lang/invoke/MethodHandle" ∧ yX6_isSetting.cls ≠ "java/lang/invoke/VarHandle" ∧ (parseMethodDescriptor yX6_isSetting.desc).map (fun d => d.parameters.length) = some 1 := by decide +kernel
theorem cd_X6_keep : yX6_keep.cls = RX6 ∧ yX6_keep.cls ≠ "java/lang/invoke/MethodHandle" ∧ yX6_keep.cls ≠ "java/lang/invoke/VarHandle" ∧ (parseMethodDescriptor yX6_keep.desc).map (fun d => d.parameters.length) = some 1 := by decide +kernel
theorem cd_X6_kindOf : yX6_kindOf.cls ≠ "java/lang/invoke/MethodHandle" ∧ yX6_kindOf.cls ≠ "java/lang/invoke/VarHandle" ∧ (parseMethodDescriptor yX6_kindOf.desc).map (fun d => d.parameters.length) = some 1 := by decide +kernel
theorem cd_X6_leastOf : yX6_leastOf.cls ≠ "java/lang/invoke/MethodHandle" ∧ yX6_leastOf.cls ≠ "java/lang/invoke/VarHandle" ∧ (parseMethodDescriptor yX6_leastOf.desc).map (fun d => d.parameters.length) = some 1 := by decide +kernel
theorem cd_X6_list : yX6_list.cls = RX6 ∧ yX6_list.cls ≠ "java/lang/invoke/MethodHandle" ∧ yX6_list.cls ≠ "java/lang/invoke/VarHandle" ∧ (parseMethodDescriptor yX6_list.desc).map (fun d => d.parameters.length) = some 0 := by decide +kernel
theorem cd_X6_makeUp : yX6_makeUp.cls = RX6 ∧ yX6_makeUp.cls ≠ "java/lang/invoke/MethodHandle" ∧ yX6_makeUp.cls ≠ "java/lang/invoke/VarHandle" ∧ (parseMethodDescriptor yX6_makeUp.desc).map (fun d => d.parameters.length) = some 1 := by decide +kernel
theorem cd_X6_mean : yX6_mean.cls = RX6 ∧ yX6_mean.cls ≠ "java/lang/invoke/MethodHandle" ∧ yX6_mean.cls ≠ "java/lang/invoke/VarHandle" ∧ (parseMethodDescriptor yX6_mean.desc).map (fun d => d.parameters.length) = some 0 := by decide +kernel
theorem cd_X6_move : yX6_move.cls = RX6 ∧ yX6_move.cls ≠ "java/lang/invoke/MethodHandle" ∧ yX6_move.cls ≠ "java/lang/invoke/VarHandle" ∧ (parseMethodDescriptor yX6_move.desc).map (fun d => d.parameters.length) = some 3 := by decide +kernel
theorem cd_X6_numberOf : yX6_numberOf.cls ≠ "java/lang/invoke/MethodHandle" ∧ yX6_numberOf.cls ≠ "java/lang/invoke/VarHandle" ∧ (parseMethodDescriptor yX6_numberOf.desc).map (fun d => d.parameters.length) = some 1 := by decide +kernel
theorem cd_X6_pause : yX6_pause.cls = RX6 ∧ yX6_pause.cls ≠ "java/lang/invoke/MethodHandle" ∧ yX6_pause.cls ≠ "java/lang/invoke/VarHandle" ∧ (parseMethodDescriptor yX6_pause.desc).map (fun d => d.parameters.length) = some 1 := by decide +kernel
theorem cd_X6_set : yX6_set.cls = RX6 ∧ yX6_set.cls ≠ "java/lang/invoke/MethodHandle" ∧ yX6_set.cls ≠ "java/lang/invoke/VarHandle" ∧ (parseMethodDescriptor yX6_set.desc).map (fun d => d.parameters.length) = some 2 := by decide +kernel
theorem cd_X6_setting : yX6_setting.cls = RX6 ∧ yX6_setting.cls ≠ "java/lang/invoke/MethodHandle" ∧ yX6_setting.cls ≠ "java/lang/invoke/VarHandle" ∧ (parseMethodDescriptor yX6_setting.desc).map (fun d => d.parameters.length) = some 1 := by decide +kernel
theorem cd_X6_test : yX6_test.cls = RX6 ∧ yX6_test.cls ≠ "java/lang/invoke/MethodHandle" ∧ yX6_test.cls ≠ "java/lang/invoke/VarHandle" ∧ (parseMethodDescriptor yX6_test.desc).map (fun d => d.parameters.length) = some 1 := by decide +kernel
theorem cd_X6_told : yX6_told.cls = RX6 ∧ yX6_told.cls ≠ "java/lang/invoke/MethodHandle" ∧ yX6_told.cls ≠ "java/lang/invoke/VarHandle" ∧ (parseMethodDescriptor yX6_told.desc).map (fun d => d.parameters.length) = some 1 := by decide +kernel
theorem cd_X6_track : yX6_track.cls = RX6 ∧ yX6_track.cls ≠ "java/lang/invoke/MethodHandle" ∧ yX6_track.cls ≠ "java/lang/invoke/VarHandle" ∧ (parseMethodDescriptor yX6_track.desc).map (fun d => d.parameters.length) = some 2 := by decide +kernel
theorem cd_X6_train : yX6_train.cls = RX6 ∧ yX6_train.cls ≠ "java/lang/invoke/MethodHandle" ∧ yX6_train.cls ≠ "java/lang/invoke/VarHandle" ∧ (parseMethodDescriptor yX6_train.desc).map (fun d => d.parameters.length) = some 1 := by decide +kernel
theorem cd_X6_undo : yX6_undo.cls = RX6 ∧ yX6_undo.cls ≠ "java/lang/invoke/MethodHandle" ∧ yX6_undo.cls ≠ "java/lang/invoke/VarHandle" ∧ (parseMethodDescriptor yX6_undo.desc).map (fun d => d.parameters.length) = some 0 := by decide +kernel
theorem cd_X6_wagon : yX6_wagon.cls = RX6 ∧ yX6_wagon.cls ≠ "java/lang/invoke/MethodHandle" ∧ yX6_wagon.cls ≠ "java/lang/invoke/VarHandle" ∧ (parseMethodDescriptor yX6_wagon.desc).map (fun d => d.parameters.length) = some 3 := by decide +kernel
theorem cd_X6_wagonOf : yX6_wagonOf.cls ≠ "java/lang/invoke/MethodHandle" ∧ yX6_wagonOf.cls ≠ "java/lang/invoke/VarHandle" ∧ (parseMethodDescriptor yX6_wagonOf.desc).map (fun d => d.parameters.length) = some 3 := by decide +kernel
theorem cd_X6_wipe : yX6_wipe.cls = RX6 ∧ yX6_wipe.cls ≠ "java/lang/invoke/MethodHandle" ∧ yX6_wipe.cls ≠ "java/lang/invoke/VarHandle" ∧ (parseMethodDescriptor yX6_wipe.desc).map (fun d => d.parameters.length) = some 0 := by decide +kernel
theorem cd_X6_within : yX6_within.cls ≠ "java/lang/invoke/MethodHandle" ∧ yX6_within.cls ≠ "java/lang/invoke/VarHandle" ∧ (parseMethodDescriptor yX6_within.desc).map (fun d => d.parameters.length) = some 3 := by decide +kernel
theorem cd_X6_write : yX6_write.cls = RX6 ∧ yX6_write.cls ≠ "java/lang/invoke/MethodHandle" ∧ yX6_write.cls ≠ "java/lang/invoke/VarHandle" ∧ (parseMethodDescriptor yX6_write.desc).map (fun d => d.parameters.length) = some 1 := by decide +kernel
theorem gg_L_101 : GoodIn wsL_law (va_wsS RL 101 yL_change (.code yL_change cL_change 5 (some .int) :: wsL_law)) := zk_gS mw_4_13 mw_4_14 mw_4_6 mw_4_15
theorem gg_L_104 : GoodIn wsL_law (va_wsS RL 104 yL_areTracks (.code yL_areTracks cL_areTracks 11 (some .boolean) :: wsL_law)) := zk_gS mw_18_22 mw_18_23 mw_4_6 mw_19_0
theorem gg_L_108 : GoodIn wsL_law (va_wsS RL 108 yL_isMove (.code yL_isMove cL_isMove 13 (some .boolean) :: wsL_law)) := zk_gS mw_20_14 mw_20_15 mw_4_6 mw_20_16
theorem gg_L_112 : GoodIn wsL_law (va_wsS RL 112 yL_isDeparture (.code yL_isDeparture cL_isDeparture 10 (some .boolean) :: wsL_law)) := zk_gS mw_20_21 mw_20_22 mw_4_6 mw_20_23
theorem gg_L_116 : GoodIn wsL_law (va_wsS RL 116 yL_isCheapest (.code yL_isCheapest cL_isCheapest 8 (some .boolean) :: wsL_law)) := zk_gS mw_21_0 mw_21_1 mw_4_6 mw_21_2
theorem gg_L_119 : GoodIn wsL_law (va_wsS RL 119 yL_areAlike (.code yL_areAlike cL_areAlike 5 (some .boolean) :: wsL_law)) := zk_gS mw_21_8 mw_21_9 mw_4_6 mw_21_10
theorem gg_L_15 : GoodIn wsL_law (va_wsS RL 15 yL_low (.code yL_low cL_low 2 (some .int) :: wsL_law)) := zk_gS mw_4_9 mw_4_10 mw_4_6 mw_4_11
theorem gg_L_21 : GoodIn wsL_law (wsV RL 21 RX6 yX6_write (.code yX6_write cX6_write 2 (some .int) :: wsL_law)) := zk_gV mw_10_1 mw_10_2 mw_10_3 mw_1_2 mw_10_4
theorem gg_L_25 : GoodIn wsL_law (wsV RL 25 RX6 yX6_told (.code yX6_told cX6_told 2 (some .int) :: wsL_law)) := zk_gV mw_4_16 mw_4_17 mw_4_18 mw_1_2 mw_4_19
theorem gg_L_28 : GoodIn wsL_law (wsV RL 28 RX6 yX6_arrive (.code yX6_arrive cX6_arrive 2 (some .int) :: wsL_law)) := zk_gV mw_11_8 mw_11_9 mw_11_10 mw_1_2 mw_11_11
theorem gg_L_31 : GoodIn wsL_law (wsV RL 31 RX6 yX6_list (.code yX6_list cX6_list 1 (some .int) :: wsL_law)) := zk_gV mw_10_10 mw_10_11 mw_10_12 mw_1_2 mw_10_13
theorem gg_L_34 : GoodIn wsL_law (wsV RL 34 RX6 yX6_begin (.code yX6_begin cX6_begin 4 (some .int) :: wsL_law)) := zk_gV mw_7_16 mw_7_17 mw_7_18 mw_1_2 mw_7_19
theorem gg_L_37 : GoodIn wsL_law (wsV RL 37 RX6 yX6_set (.code yX6_set cX6_set 4 (some .int) :: wsL_law)) := zk_gV mw_9_4 mw_9_5 mw_9_6 mw_1_2 mw_9_7
theorem gg_L_40 : GoodIn wsL_law (va_wsS RL 40 yL_list (.code yL_list cL_list 4 (some .int) :: wsL_law)) := zk_gS mw_9_18 mw_9_19 mw_4_6 mw_9_20
theorem gg_L_43 : GoodIn wsL_law (va_wsS RL 43 yL_arrive (.code yL_arrive cL_arrive 6 (some .int) :: wsL_law)) := zk_gS mw_11_5 mw_11_6 mw_4_6 mw_11_7
theorem gg_L_46 : GoodIn wsL_law (wsV RL 46 RX6 yX6_test (.code yX6_test cX6_test 2 (some .int) :: wsL_law)) := zk_gV mw_12_12 mw_12_13 mw_12_14 mw_1_2 mw_12_15
theorem gg_L_49 : GoodIn wsL_law (wsV RL 49 RX6 yX6_pause (.code yX6_pause cX6_pause 2 (some .int) :: wsL_law)) := zk_gV mw_12_20 mw_12_21 mw_12_22 mw_1_2 mw_12_23
theorem gg_L_52 : GoodIn wsL_law (wsV RL 52 RX6 yX6_depart (.code yX6_depart cX6_depart 3 (some .int) :: wsL_law)) := zk_gV mw_13_0 mw_13_1 mw_13_2 mw_1_2 mw_13_3
theorem gg_L_55 : GoodIn wsL_law (wsV RL 55 RX6 yX6_makeUp (.code yX6_makeUp cX6_makeUp 5 (some .int) :: wsL_law)) := zk_gV mw_13_19 mw_13_20 mw_13_21 mw_1_2 mw_13_22
theorem gg_L_58 : GoodIn wsL_law (wsV RL 58 RX6 yX6_undo (.code yX6_undo cX6_undo 1 (some .int) :: wsL_law)) := zk_gV mw_18_0 mw_18_1 mw_18_2 mw_1_2 mw_18_3
theorem gg_L_61 : GoodIn wsL_law (wsV RL 61 RX6 yX6_keep (.code yX6_keep cX6_keep 2 (some .int) :: wsL_law)) := zk_gV mw_18_8 mw_18_9 mw_18_10 mw_1_2 mw_18_11
theorem gg_L_64 : GoodIn wsL_law (wsV RL 64 RX6 yX6_back (.code yX6_back cX6_back 2 (some .int) :: wsL_law)) := zk_gV mw_18_13 mw_18_14 mw_18_15 mw_1_2 mw_18_16
theorem gg_L_67 : GoodIn wsL_law (wsV RL 67 RX6 yX6_move (.code yX6_move cX6_move 5 (some .int) :: wsL_law)) := zk_gV mw_18_17 mw_18_18 mw_18_19 mw_1_2 mw_18_20
theorem gg_L_71 : GoodIn wsL_law (wsV RL 71 RX6 yX6_track (.code yX6_track cX6_track 3 (some .int) :: wsL_law)) := zk_gV mw_19_1 mw_19_2 mw_19_3 mw_1_2 mw_19_4
theorem gg_L_74 : GoodIn wsL_law (wsV RL 74 RX6 yX6_wagon (.code yX6_wagon cX6_wagon 5 (some .int) :: wsL_law)) := zk_gV mw_19_11 mw_19_12 mw_19_13 mw_1_2 mw_19_14
theorem gg_L_77 : GoodIn wsL_law (wsV RL 77 RX6 yX6_find (.code yX6_find cX6_find 4 (some .int) :: wsL_law)) := zk_gV mw_19_21 mw_19_22 mw_19_23 mw_1_2 mw_20_0
theorem gg_L_80 : GoodIn wsL_law (wsV RL 80 RX6 yX6_setting (.code yX6_setting cX6_setting 2 (some .int) :: wsL_law)) := zk_gV mw_20_5 mw_20_6 mw_20_7 mw_1_2 mw_20_8
theorem gg_L_83 : GoodIn wsL_law (wsV RL 83 RX6 yX6_train (.code yX6_train cX6_train 2 (some .int) :: wsL_law)) := zk_gV mw_20_9 mw_20_10 mw_20_11 mw_1_2 mw_20_12
theorem gg_L_86 : GoodIn wsL_law (wsV RL 86 RX6 yX6_cost (.code yX6_cost cX6_cost 4 (some .int) :: wsL_law)) := zk_gV mw_20_17 mw_20_18 mw_20_19 mw_1_2 mw_20_20
theorem gg_L_89 : GoodIn wsL_law (wsV RL 89 RX6 yX6_cheapest (.code yX6_cheapest cX6_cheapest 4 (some .int) :: wsL_law)) := zk_gV mw_21_3 mw_21_4 mw_21_5 mw_1_2 mw_21_6
theorem gg_L_9 : GoodIn wsL_law (wsV RL 9 RX6 yX6_wipe (.code yX6_wipe cX6_wipe 2 (some .int) :: wsL_law)) := zk_gV mw_9_21 mw_9_22 mw_9_23 mw_1_2 mw_10_0
theorem gg_L_92 : GoodIn wsL_law (wsV RL 92 RX6 yX6_mean (.code yX6_mean cX6_mean 1 (some .float) :: wsL_law)) := zk_gV mw_21_11 mw_21_12 mw_21_13 mw_1_2 mw_21_14
theorem gg_L_97 : GoodIn wsL_law (va_wsS RL 97 yL_cell (.code yL_cell cL_cell 2 (some .int) :: wsL_law)) := zk_gS mw_4_4 mw_4_5 mw_4_6 mw_4_7
theorem gg_X1_22 : GoodIn wsL_law (wsV RX1 22 RX5 yX5_copyFrom (.code yX5_copyFrom cX5_copyFrom 2 none :: wsL_law)) := zk_gV mw_8_6 mw_8_7 mw_8_8 mw_1_11 mw_8_9
theorem gg_X3_101 : GoodIn wsL_law (wsV RX3 101 RX2 yX2_addLast (.code yX2_addLast cX2_addLast 5 none :: wsL_law)) := zk_gV mw_17_11 mw_17_12 mw_17_13 mw_3_14 mw_17_14
theorem gg_X3_105 : GoodIn wsL_law (wsV RX3 105 RX2 yX2_dropLast (.code yX2_dropLast cX2_dropLast 2 none :: wsL_law)) := zk_gV mw_17_15 mw_17_16 mw_17_17 mw_3_14 mw_17_18
theorem gg_X3_108 : GoodIn wsL_law (wsV RX3 108 RX2 yX2_isCheaperThan (.code yX2_isCheaperThan cX2_isCheaperThan 2 (some .boolean) :: wsL_law)) := zk_gV mw_15_7 mw_15_8 mw_15_9 mw_3_14 mw_15_10
theorem gg_X3_112 : GoodIn wsL_law (wsV RX3 112 RX2 yX2_copyFrom (.code yX2_copyFrom cX2_copyFrom 2 none :: wsL_law)) := zk_gV mw_15_11 mw_15_12 mw_15_13 mw_3_14 mw_15_14
theorem gg_X3_121 : GoodIn wsL_law (wsV RX3 121 RX3 yX3_countWanted (.code yX3_countWanted cX3_countWanted 6 none :: wsL_law)) := zk_gV mw_15_20 mw_15_21 mw_15_22 mw_2_0 mw_15_23
theorem gg_X3_124 : GoodIn wsL_law (wsV RX3 124 RX3 yX3_movesNeededFor (.code yX3_movesNeededFor cX3_movesNeededFor 5 (some .int) :: wsL_law)) := zk_gV mw_16_1 mw_16_2 mw_16_3 mw_2_0 mw_16_4
theorem gg_X3_128 : GoodIn wsL_law (wsV RX3 128 RX5 yX5_isForFirst (.code yX5_isForFirst cX5_isForFirst 3 (some .boolean) :: wsL_law)) := zk_gV mw_16_0 mw_7_7 mw_7_8 mw_1_11 mw_7_9
theorem gg_X3_42 : GoodIn wsL_law (wsV RX3 42 RX2 yX2_clear (.code yX2_clear cX2_clear 1 none :: wsL_law)) := zk_gV mw_14_12 mw_14_13 mw_14_14 mw_3_14 mw_14_15
theorem gg_X3_49 : GoodIn wsL_law (wsV RX3 49 RX5 yX5_forFirstInYard (.code yX5_forFirstInYard cX5_forFirstInYard 3 (some .int) :: wsL_law)) := zk_gV mw_14_18 mw_7_13 mw_7_14 mw_1_11 mw_7_15
theorem gg_X3_56 : GoodIn wsL_law (wsV RX3 56 RX5 yX5_copyFrom (.code yX5_copyFrom cX5_copyFrom 2 none :: wsL_law)) := zk_gV mw_14_19 mw_8_7 mw_8_8 mw_1_11 mw_8_9
theorem gg_X3_66 : GoodIn wsL_law (wsV RX3 66 RX3 yX3_seek (.code yX3_seek cX3_seek 8 none :: wsL_law)) := zk_gV mw_14_20 mw_14_21 mw_14_22 mw_2_0 mw_14_23
theorem gg_X3_70 : GoodIn wsL_law (wsV RX3 70 RX5 yX5_madeUpTrack (.code yX5_madeUpTrack cX5_madeUpTrack 2 (some .int) :: wsL_law)) := zk_gV mw_15_2 mw_6_22 mw_6_23 mw_1_11 mw_7_0
theorem gg_X3_73 : GoodIn wsL_law (wsV RX3 73 RX3 yX3_keepIfCheaper (.code yX3_keepIfCheaper cX3_keepIfCheaper 1 none :: wsL_law)) := zk_gV mw_15_3 mw_15_4 mw_15_5 mw_2_0 mw_15_6
theorem gg_X3_76 : GoodIn wsL_law (wsV RX3 76 RX3 yX3_movesNeeded (.code yX3_movesNeeded cX3_movesNeeded 3 (some .int) :: wsL_law)) := zk_gV mw_15_16 mw_15_17 mw_15_18 mw_2_0 mw_15_19
theorem gg_X3_79 : GoodIn wsL_law (wsV RX3 79 RX3 yX3_isTooDear (.code yX3_isTooDear cX3_isTooDear 3 (some .boolean) :: wsL_law)) := zk_gV mw_16_5 mw_16_6 mw_16_7 mw_2_0 mw_16_8
theorem gg_X3_89 : GoodIn wsL_law (wsV RX3 89 RX5 yX5_costOrCode (.code yX5_costOrCode cX5_costOrCode 4 (some .int) :: wsL_law)) := zk_gV mw_16_11 mw_16_12 mw_16_13 mw_1_11 mw_16_14
theorem gg_X3_93 : GoodIn wsL_law (wsV RX3 93 RX3 yX3_seekBehindMove (.code yX3_seekBehindMove cX3_seekBehindMove 6 none :: wsL_law)) := zk_gV mw_17_3 mw_17_4 mw_17_5 mw_2_0 mw_17_6
theorem gg_X3_97 : GoodIn wsL_law (wsV RX3 97 RX5 yX5_shift (.code yX5_shift cX5_shift 5 none :: wsL_law)) := zk_gV mw_17_7 mw_17_8 mw_17_9 mw_1_11 mw_17_10
theorem gg_X4_35 : GoodIn wsL_law (wsV RX4 35 RX4 yX4_foundFault (.code yX4_foundFault cX4_foundFault 3 (some .boolean) :: wsL_law)) := zk_gV mw_10_19 mw_10_20 mw_10_21 mw_1_20 mw_10_22
theorem gg_X4_43 : GoodIn wsL_law (wsV RX4 43 RX4 yX4_fillLatest (.code yX4_fillLatest cX4_fillLatest 4 none :: wsL_law)) := zk_gV mw_12_0 mw_12_1 mw_12_2 mw_1_20 mw_12_3
theorem gg_X5_104 : GoodIn wsL_law (wsV RX5 104 RX0 yX0_start (.code yX0_start cX0_start 1 none :: wsL_law)) := zk_gV mw_5_20 mw_5_21 mw_5_22 mw_2_16 mw_5_23
theorem gg_X5_107 : GoodIn wsL_law (wsV RX5 107 RX5 yX5_passPart (.code yX5_passPart cX5_passPart 5 none :: wsL_law)) := zk_gV mw_6_3 mw_6_4 mw_6_5 mw_1_11 mw_6_6
theorem gg_X5_114 : GoodIn wsL_law (wsV RX5 114 RX0 yX0_pass (.code yX0_pass cX0_pass 2 none :: wsL_law)) := zk_gV mw_6_13 mw_6_14 mw_6_15 mw_2_16 mw_6_16
theorem gg_X5_118 : GoodIn wsL_law (wsV RX5 118 RX5 yX5_isSafe (.code yX5_isSafe cX5_isSafe 2 (some .boolean) :: wsL_law)) := zk_gV mw_5_15 mw_5_16 mw_5_17 mw_1_11 mw_5_18
theorem gg_X5_122 : GoodIn wsL_law (wsV RX5 122 RX5 yX5_hasTrack (.code yX5_hasTrack cX5_hasTrack 2 (some .boolean) :: wsL_law)) := zk_gV mw_16_15 mw_11_15 mw_11_16 mw_1_11 mw_11_17
theorem gg_X5_125 : GoodIn wsL_law (wsV RX5 125 RX5 yX5_isSafeBehindMove (.code yX5_isSafeBehindMove cX5_isSafeBehindMove 5 (some .boolean) :: wsL_law)) := zk_gV mw_16_16 mw_16_17 mw_16_18 mw_1_11 mw_16_19
theorem gg_X5_128 : GoodIn wsL_law (wsV RX5 128 RX5 yX5_minutesOf (.code yX5_minutesOf cX5_minutesOf 6 (some .int) :: wsL_law)) := zk_gV mw_16_20 mw_16_21 mw_16_22 mw_1_11 mw_16_23
theorem gg_X5_136 : GoodIn wsL_law (wsV RX5 136 RX5 yX5_shift (.code yX5_shift cX5_shift 5 none :: wsL_law)) := zk_gV mw_17_23 mw_17_8 mw_17_9 mw_1_11 mw_17_10
theorem gg_X5_142 : GoodIn wsL_law (wsV RX5 142 RX5 yX5_isForFirst (.code yX5_isForFirst cX5_isForFirst 3 (some .boolean) :: wsL_law)) := zk_gV mw_7_6 mw_7_7 mw_7_8 mw_1_11 mw_7_9
theorem gg_X5_146 : GoodIn wsL_law (wsV RX5 146 RX5 yX5_forFirstOn (.code yX5_forFirstOn cX5_forFirstOn 4 (some .int) :: wsL_law)) := zk_gV mw_7_2 mw_7_3 mw_7_4 mw_1_11 mw_7_5
theorem gg_X5_149 : GoodIn wsL_law (wsV RX5 149 RX5 yX5_forFirstInYard (.code yX5_forFirstInYard cX5_forFirstInYard 3 (some .int) :: wsL_law)) := zk_gV mw_7_12 mw_7_13 mw_7_14 mw_1_11 mw_7_15
theorem gg_X5_153 : GoodIn wsL_law (wsV RX5 153 RX5 yX5_testHoldsFor (.code yX5_testHoldsFor cX5_testHoldsFor 2 (some .int) :: wsL_law)) := zk_gV mw_13_8 mw_13_9 mw_13_10 mw_1_11 mw_13_11
theorem gg_X5_68 : GoodIn wsL_law (va_wsS RX5 68 yJ7_fill_53178 (.code yJ7_fill_53178 cJ7_fill_53178 4 none :: wsL_law)) := zk_gS mw_9_0 mw_9_1 mw_9_2 mw_9_3
theorem gg_X5_78 : GoodIn wsL_law (wsV RX5 78 RX5 yX5_wagonAt (.code yX5_wagonAt cX5_wagonAt 3 (some .int) :: wsL_law)) := zk_gV mw_6_7 mw_6_8 mw_6_9 mw_1_11 mw_6_10
theorem gg_X6_100 : GoodIn wsL_law (wsV RX6 100 RX4 yX4_readTrains (.code yX4_readTrains cX4_readTrains 3 (some .boolean) :: wsL_law)) := zk_gV mw_10_14 mw_10_15 mw_10_16 mw_1_20 mw_10_17
theorem gg_X6_103 : GoodIn wsL_law (wsV RX6 103 RX5 yX5_takeTrains (.code yX5_takeTrains cX5_takeTrains 2 none :: wsL_law)) := zk_gV mw_10_23 mw_11_0 mw_11_1 mw_1_11 mw_11_2
theorem gg_X6_110 : GoodIn wsL_law (wsV RX6 110 RX5 yX5_costOrCode (.code yX5_costOrCode cX5_costOrCode 4 (some .int) :: wsL_law)) := zk_gV mw_18_21 mw_16_12 mw_16_13 mw_1_11 mw_16_14
theorem gg_X6_114 : GoodIn wsL_law (wsV RX6 114 RX5 yX5_drive (.code yX5_drive cX5_drive 5 (some .int) :: wsL_law)) := zk_gV mw_17_19 mw_17_20 mw_17_21 mw_1_11 mw_17_22
theorem gg_X6_117 : GoodIn wsL_law (wsV RX6 117 RX5 yX5_testBrakes (.code yX5_testBrakes cX5_testBrakes 3 (some .int) :: wsL_law)) := zk_gV mw_12_16 mw_12_17 mw_12_18 mw_1_11 mw_12_19
theorem gg_X6_123 : GoodIn wsL_law (wsV RX6 123 RX5 yX5_refusal (.code yX5_refusal cX5_refusal 2 (some .int) :: wsL_law)) := zk_gV mw_13_4 mw_13_5 mw_13_6 mw_1_11 mw_13_7
theorem gg_X6_126 : GoodIn wsL_law (wsV RX6 126 RX5 yX5_sendOff (.code yX5_sendOff cX5_sendOff 3 (some .int) :: wsL_law)) := zk_gV mw_13_15 mw_13_16 mw_13_17 mw_1_11 mw_13_18
theorem gg_X6_129 : GoodIn wsL_law (wsV RX6 129 RX3 yX3_succeeds (.code yX3_succeeds cX3_succeeds 4 (some .boolean) :: wsL_law)) := zk_gV mw_14_4 mw_14_5 mw_14_6 mw_2_0 mw_14_7
theorem gg_X6_151 : GoodIn wsL_law (wsV RX6 151 RX1 yX1_restore (.code yX1_restore cX1_restore 3 (some .boolean) :: wsL_law)) := zk_gV mw_18_4 mw_18_5 mw_18_6 mw_1_15 mw_18_7
theorem gg_X6_160 : GoodIn wsL_law (wsV RX6 160 RX4 yX4_append (.code yX4_append cX4_append 2 none :: wsL_law)) := zk_gV mw_10_5 mw_10_6 mw_10_7 mw_1_20 mw_10_8
theorem gg_X6_173 : GoodIn wsL_law (wsV RX6 173 RX5 yX5_unsafeTracks (.code yX5_unsafeTracks cX5_unsafeTracks 3 (some .int) :: wsL_law)) := zk_gV mw_5_11 mw_5_12 mw_5_13 mw_1_11 mw_5_14
theorem gg_X6_189 : GoodIn wsL_law (wsV RX6 189 RX5 yX5_madeUpTrack (.code yX5_madeUpTrack cX5_madeUpTrack 2 (some .int) :: wsL_law)) := zk_gV mw_6_21 mw_6_22 mw_6_23 mw_1_11 mw_7_0
theorem gg_X6_192 : GoodIn wsL_law (wsV RX6 192 RX5 yX5_isSafe (.code yX5_isSafe cX5_isSafe 2 (some .boolean) :: wsL_law)) := zk_gV mw_19_5 mw_5_16 mw_5_17 mw_1_11 mw_5_18
theorem gg_X6_195 : GoodIn wsL_law (wsV RX6 195 RX5 yX5_testHoldsFor (.code yX5_testHoldsFor cX5_testHoldsFor 2 (some .int) :: wsL_law)) := zk_gV mw_19_6 mw_13_9 mw_13_10 mw_1_11 mw_13_11
theorem gg_X6_198 : GoodIn wsL_law (wsV RX6 198 RX5 yX5_leastGap (.code yX5_leastGap cX5_leastGap 2 (some .int) :: wsL_law)) := zk_gV mw_19_7 mw_19_8 mw_19_9 mw_1_11 mw_19_10
theorem gg_X6_201 : GoodIn wsL_law (wsV RX6 201 RX5 yX5_wagonAt (.code yX5_wagonAt cX5_wagonAt 3 (some .int) :: wsL_law)) := zk_gV mw_19_15 mw_6_8 mw_6_9 mw_1_11 mw_6_10
theorem gg_X6_205 : GoodIn wsL_law (va_wsS RX6 205 yX6_numberOf (.code yX6_numberOf cX6_numberOf 1 (some .int) :: wsL_law)) := zk_gS mw_19_16 mw_19_17 mw_1_2 mw_19_18
theorem gg_X6_208 : GoodIn wsL_law (va_wsS RX6 208 yX6_destinationOf (.code yX6_destinationOf cX6_destinationOf 1 (some .int) :: wsL_law)) := zk_gS mw_19_19 mw_7_10 mw_1_2 mw_7_11
theorem gg_X6_211 : GoodIn wsL_law (va_wsS RX6 211 yX6_kindOf (.code yX6_kindOf cX6_kindOf 1 (some .int) :: wsL_law)) := zk_gS mw_19_20 mw_6_11 mw_1_2 mw_6_12
theorem gg_X6_217 : GoodIn wsL_law (wsV RX6 217 RX5 yX5_spotOf (.code yX5_spotOf cX5_spotOf 4 (some .int) :: wsL_law)) := zk_gV mw_20_1 mw_20_2 mw_20_3 mw_1_11 mw_20_4
theorem gg_X6_223 : GoodIn wsL_law (wsV RX6 223 RX5 yX5_copyFrom (.code yX5_copyFrom cX5_copyFrom 2 none :: wsL_law)) := zk_gV mw_18_12 mw_8_7 mw_8_8 mw_1_11 mw_8_9
theorem gg_X6_45 : GoodIn wsL_law (va_wsS RX6 45 yX6_within (.code yX6_within cX6_within 3 (some .boolean) :: wsL_law)) := zk_gS mw_7_20 mw_7_21 mw_1_2 mw_7_22
theorem gg_X6_49 : GoodIn wsL_law (wsV RX6 49 RX5 yX5_wagonsInYard (.code yX5_wagonsInYard cX5_wagonsInYard 3 (some .int) :: wsL_law)) := zk_gV mw_5_7 mw_5_8 mw_5_9 mw_1_11 mw_5_10
theorem gg_X6_53 : GoodIn wsL_law (wsV RX6 53 RX1 yX1_add (.code yX1_add cX1_add 2 none :: wsL_law)) := zk_gV mw_7_23 mw_8_0 mw_8_1 mw_1_15 mw_8_2
theorem gg_X6_57 : GoodIn wsL_law (wsV RX6 57 RX5 yX5_restart (.code yX5_restart cX5_restart 3 none :: wsL_law)) := zk_gV mw_8_20 mw_8_21 mw_8_22 mw_1_11 mw_8_23
theorem gg_X6_61 : GoodIn wsL_law (va_wsS RX6 61 yX6_isSetting (.code yX6_isSetting cX6_isSetting 1 (some .boolean) :: wsL_law)) := zk_gS mw_9_9 mw_9_10 mw_1_2 mw_9_11
theorem gg_X6_65 : GoodIn wsL_law (va_wsS RX6 65 yX6_leastOf (.code yX6_leastOf cX6_leastOf 1 (some .int) :: wsL_law)) := zk_gS mw_9_12 mw_9_13 mw_1_2 mw_9_14
theorem gg_X6_69 : GoodIn wsL_law (va_wsS RX6 69 yX6_greatestOf (.code yX6_greatestOf cX6_greatestOf 1 (some .int) :: wsL_law)) := zk_gS mw_9_15 mw_9_16 mw_1_2 mw_9_17
theorem gg_X6_76 : GoodIn wsL_law (wsV RX6 76 RX5 yX5_hasTrack (.code yX5_hasTrack cX5_hasTrack 2 (some .boolean) :: wsL_law)) := zk_gV mw_11_14 mw_11_15 mw_11_16 mw_1_11 mw_11_17
theorem gg_X6_79 : GoodIn wsL_law (wsV RX6 79 RX4 yX4_readWagons (.code yX4_readWagons cX4_readWagons 6 (some .boolean) :: wsL_law)) := zk_gV mw_11_18 mw_11_19 mw_11_20 mw_1_20 mw_11_21
theorem gg_X6_83 : GoodIn wsL_law (wsV RX6 83 RX5 yX5_isSafeWith (.code yX5_isSafeWith cX5_isSafeWith 4 (some .boolean) :: wsL_law)) := zk_gV mw_12_4 mw_12_5 mw_12_6 mw_1_11 mw_12_7
theorem gg_X6_96 : GoodIn wsL_law (wsV RX6 96 RX5 yX5_takeIn (.code yX5_takeIn cX5_takeIn 5 none :: wsL_law)) := zk_gV mw_12_8 mw_12_9 mw_12_10 mw_1_11 mw_12_11
theorem nl_X1_21 : ("ShuntYard$History", 21, yX5_init, "ShuntYard") ∈ NLs := List.mem_of_getElem? (i := 4) rfl
theorem nl_X3_11 : ("ShuntYard$Search", 11, yX2_init, "ShuntYard") ∈ NLs := List.mem_of_getElem? (i := 5) rfl
theorem nl_X3_20 : ("ShuntYard$Search", 20, yX5_init, "ShuntYard") ∈ NLs := List.mem_of_getElem? (i := 6) rfl
theorem nl_X4_31 : ("ShuntYard$Text", 31, yX6_within, "ShuntYard") ∈ NLs := List.mem_of_getElem? (i := 7) rfl
theorem nl_X4_39 : ("ShuntYard$Text", 39, yX6_wagonOf, "ShuntYard") ∈ NLs := List.mem_of_getElem? (i := 8) rfl
theorem nl_X5_100 : ("ShuntYard$Yard", 100, yX6_wagonOf, "ShuntYard") ∈ NLs := List.mem_of_getElem? (i := 9) rfl
theorem nl_X5_36 : ("ShuntYard$Yard", 36, yX0_init, "ShuntYard") ∈ NLs := List.mem_of_getElem? (i := 10) rfl
theorem nl_X5_74 : ("ShuntYard$Yard", 74, yX6_within, "ShuntYard") ∈ NLs := List.mem_of_getElem? (i := 11) rfl
theorem nl_X5_82 : ("ShuntYard$Yard", 82, yX6_numberOf, "ShuntYard") ∈ NLs := List.mem_of_getElem? (i := 12) rfl
theorem nl_X5_94 : ("ShuntYard$Yard", 94, yX6_destinationOf, "ShuntYard") ∈ NLs := List.mem_of_getElem? (i := 13) rfl
theorem nl_X5_97 : ("ShuntYard$Yard", 97, yX6_kindOf, "ShuntYard") ∈ NLs := List.mem_of_getElem? (i := 14) rfl
theorem nl_X6_18 : ("ShuntYard", 18, yX1_init, "ShuntYard") ∈ NLs := List.mem_of_getElem? (i := 0) rfl
theorem nl_X6_29 : ("ShuntYard", 29, yX4_init, "ShuntYard") ∈ NLs := List.mem_of_getElem? (i := 1) rfl
theorem nl_X6_36 : ("ShuntYard", 36, yX3_init, "ShuntYard") ∈ NLs := List.mem_of_getElem? (i := 2) rfl
theorem nl_X6_9 : ("ShuntYard", 9, yX5_init, "ShuntYard") ∈ NLs := List.mem_of_getElem? (i := 3) rfl
