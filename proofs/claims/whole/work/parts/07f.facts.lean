theorem mw_10_0 : Cond.fieldLink RX5 111 "ShuntYard$Gaps" "least" "I" ∈ wsL_law := mw_in10 (List.mem_of_getElem? (i := 0) rfl)
theorem mw_10_1 : Cond.methodLink RX5 104 yX0_start ∈ wsL_law := mw_in10 (List.mem_of_getElem? (i := 1) rfl)
theorem mw_10_10 : Cond.selects RX5 yX5_passPart yX5_passPart ∈ wsL_law := mw_in10 (List.mem_of_getElem? (i := 10) rfl)
theorem mw_10_11 : Cond.code yX5_passPart cX5_passPart 5 none ∈ wsL_law := mw_in10 (List.mem_of_getElem? (i := 11) rfl)
theorem mw_10_12 : Cond.methodLink RX5 78 yX5_wagonAt ∈ wsL_law := mw_in10 (List.mem_of_getElem? (i := 12) rfl)
theorem mw_10_13 : Cond.instanceMethod yX5_wagonAt ∈ wsL_law := mw_in10 (List.mem_of_getElem? (i := 13) rfl)
theorem mw_10_14 : Cond.selects RX5 yX5_wagonAt yX5_wagonAt ∈ wsL_law := mw_in10 (List.mem_of_getElem? (i := 14) rfl)
theorem mw_10_15 : Cond.code yX5_wagonAt cX5_wagonAt 3 (some .int) ∈ wsL_law := mw_in10 (List.mem_of_getElem? (i := 15) rfl)
theorem mw_10_16 : Cond.static yX6_kindOf ∈ wsL_law := mw_in10 (List.mem_of_getElem? (i := 16) rfl)
theorem mw_10_17 : Cond.code yX6_kindOf cX6_kindOf 1 (some .int) ∈ wsL_law := mw_in10 (List.mem_of_getElem? (i := 17) rfl)
theorem mw_10_18 : Cond.methodLink RX5 114 yX0_pass ∈ wsL_law := mw_in10 (List.mem_of_getElem? (i := 18) rfl)
theorem mw_10_19 : Cond.instanceMethod yX0_pass ∈ wsL_law := mw_in10 (List.mem_of_getElem? (i := 19) rfl)
theorem mw_10_2 : Cond.instanceMethod yX0_start ∈ wsL_law := mw_in10 (List.mem_of_getElem? (i := 2) rfl)
theorem mw_10_20 : Cond.selects RX0 yX0_pass yX0_pass ∈ wsL_law := mw_in10 (List.mem_of_getElem? (i := 20) rfl)
theorem mw_10_21 : Cond.code yX0_pass cX0_pass 2 none ∈ wsL_law := mw_in10 (List.mem_of_getElem? (i := 21) rfl)
theorem mw_10_22 : Cond.methodLink RX0 21 Lib.Math.min.name ∈ wsL_law := mw_in10 (List.mem_of_getElem? (i := 22) rfl)
theorem mw_10_23 : Cond.methodLink RX6 96 yX5_takeIn ∈ wsL_law := mw_in10 (List.mem_of_getElem? (i := 23) rfl)
theorem mw_10_3 : Cond.selects RX0 yX0_start yX0_start ∈ wsL_law := mw_in10 (List.mem_of_getElem? (i := 3) rfl)
theorem mw_10_4 : Cond.code yX0_start cX0_start 1 none ∈ wsL_law := mw_in10 (List.mem_of_getElem? (i := 4) rfl)
theorem mw_10_5 : Cond.fieldLink RX0 11 "ShuntYard$Gaps" "least" "I" ∈ wsL_law := mw_in10 (List.mem_of_getElem? (i := 5) rfl)
theorem mw_10_6 : Cond.fieldLink RX0 15 "ShuntYard$Gaps" "latestDanger" "I" ∈ wsL_law := mw_in10 (List.mem_of_getElem? (i := 6) rfl)
theorem mw_10_7 : Cond.fieldLink RX0 18 "ShuntYard$Gaps" "between" "I" ∈ wsL_law := mw_in10 (List.mem_of_getElem? (i := 7) rfl)
theorem mw_10_8 : Cond.methodLink RX5 107 yX5_passPart ∈ wsL_law := mw_in10 (List.mem_of_getElem? (i := 8) rfl)
theorem mw_10_9 : Cond.instanceMethod yX5_passPart ∈ wsL_law := mw_in10 (List.mem_of_getElem? (i := 9) rfl)
theorem mw_11_0 : Cond.instanceMethod yX5_takeIn ∈ wsL_law := mw_in11 (List.mem_of_getElem? (i := 0) rfl)
theorem mw_11_1 : Cond.selects RX5 yX5_takeIn yX5_takeIn ∈ wsL_law := mw_in11 (List.mem_of_getElem? (i := 1) rfl)
theorem mw_11_10 : Cond.methodLink RX7 89 yX7_isTrack ∈ wsL_law := mw_in11 (List.mem_of_getElem? (i := 10) rfl)
theorem mw_11_11 : Cond.instanceMethod yX7_isTrack ∈ wsL_law := mw_in11 (List.mem_of_getElem? (i := 11) rfl)
theorem mw_11_12 : Cond.selects RX7 yX7_isTrack yX7_isTrack ∈ wsL_law := mw_in11 (List.mem_of_getElem? (i := 12) rfl)
theorem mw_11_13 : Cond.code yX7_isTrack cX7_isTrack 2 (some .boolean) ∈ wsL_law := mw_in11 (List.mem_of_getElem? (i := 13) rfl)
theorem mw_11_14 : Cond.methodLink RX7 148 yX7_readWagons ∈ wsL_law := mw_in11 (List.mem_of_getElem? (i := 14) rfl)
theorem mw_11_15 : Cond.instanceMethod yX7_readWagons ∈ wsL_law := mw_in11 (List.mem_of_getElem? (i := 15) rfl)
theorem mw_11_16 : Cond.selects RX7 yX7_readWagons yX7_readWagons ∈ wsL_law := mw_in11 (List.mem_of_getElem? (i := 16) rfl)
theorem mw_11_17 : Cond.code yX7_readWagons cX7_readWagons 7 none ∈ wsL_law := mw_in11 (List.mem_of_getElem? (i := 17) rfl)
theorem mw_11_18 : Cond.fieldLink RX7 142 "ShuntYardModel" "length" "I" ∈ wsL_law := mw_in11 (List.mem_of_getElem? (i := 18) rfl)
theorem mw_11_19 : Cond.fieldLink RX7 130 "ShuntYardModel" "wrongKind" "I" ∈ wsL_law := mw_in11 (List.mem_of_getElem? (i := 19) rfl)
theorem mw_11_2 : Cond.code yX5_takeIn cX5_takeIn 5 none ∈ wsL_law := mw_in11 (List.mem_of_getElem? (i := 2) rfl)
theorem mw_11_20 : Cond.methodLink RX7 136 yX7_fails ∈ wsL_law := mw_in11 (List.mem_of_getElem? (i := 20) rfl)
theorem mw_11_21 : Cond.instanceMethod yX7_fails ∈ wsL_law := mw_in11 (List.mem_of_getElem? (i := 21) rfl)
theorem mw_11_22 : Cond.selects RX7 yX7_fails yX7_fails ∈ wsL_law := mw_in11 (List.mem_of_getElem? (i := 22) rfl)
theorem mw_11_23 : Cond.code yX7_fails cX7_fails 3 none ∈ wsL_law := mw_in11 (List.mem_of_getElem? (i := 23) rfl)
theorem mw_11_3 : Cond.static yX6_destinationOf ∈ wsL_law := mw_in11 (List.mem_of_getElem? (i := 3) rfl)
theorem mw_11_4 : Cond.code yX6_destinationOf cX6_destinationOf 1 (some .int) ∈ wsL_law := mw_in11 (List.mem_of_getElem? (i := 4) rfl)
theorem mw_11_5 : Cond.methodLink RL 26 yX7_arrive ∈ wsL_law := mw_in11 (List.mem_of_getElem? (i := 5) rfl)
theorem mw_11_6 : Cond.instanceMethod yX7_arrive ∈ wsL_law := mw_in11 (List.mem_of_getElem? (i := 6) rfl)
theorem mw_11_7 : Cond.selects RX7 yX7_arrive yX7_arrive ∈ wsL_law := mw_in11 (List.mem_of_getElem? (i := 7) rfl)
theorem mw_11_8 : Cond.code yX7_arrive cX7_arrive 4 (some .int) ∈ wsL_law := mw_in11 (List.mem_of_getElem? (i := 8) rfl)
theorem mw_11_9 : Cond.fieldLink RX7 139 "ShuntYardModel" "readMany" "I" ∈ wsL_law := mw_in11 (List.mem_of_getElem? (i := 9) rfl)
theorem mw_12_0 : Cond.fieldLink RX7 133 "ShuntYardModel" "wrongPlace" "I" ∈ wsL_law := mw_in12 (List.mem_of_getElem? (i := 0) rfl)
theorem mw_12_1 : Cond.methodLink RX7 145 yX7_isLetter ∈ wsL_law := mw_in12 (List.mem_of_getElem? (i := 1) rfl)
theorem mw_12_10 : Cond.selects RX7 yX7_beginRow yX7_beginRow ∈ wsL_law := mw_in12 (List.mem_of_getElem? (i := 10) rfl)
theorem mw_12_11 : Cond.code yX7_beginRow cX7_beginRow 4 none ∈ wsL_law := mw_in12 (List.mem_of_getElem? (i := 11) rfl)
theorem mw_12_12 : Cond.fieldLink RX7 67 "ShuntYardModel" "rowMany" "I" ∈ wsL_law := mw_in12 (List.mem_of_getElem? (i := 12) rfl)
theorem mw_12_13 : Cond.methodLink RX7 70 yX7_kindAt ∈ wsL_law := mw_in12 (List.mem_of_getElem? (i := 13) rfl)
theorem mw_12_14 : Cond.instanceMethod yX7_kindAt ∈ wsL_law := mw_in12 (List.mem_of_getElem? (i := 14) rfl)
theorem mw_12_15 : Cond.selects RX7 yX7_kindAt yX7_kindAt ∈ wsL_law := mw_in12 (List.mem_of_getElem? (i := 15) rfl)
theorem mw_12_16 : Cond.code yX7_kindAt cX7_kindAt 3 (some .int) ∈ wsL_law := mw_in12 (List.mem_of_getElem? (i := 16) rfl)
theorem mw_12_17 : Cond.methodLink RX7 73 yX7_appendKind ∈ wsL_law := mw_in12 (List.mem_of_getElem? (i := 17) rfl)
theorem mw_12_18 : Cond.instanceMethod yX7_appendKind ∈ wsL_law := mw_in12 (List.mem_of_getElem? (i := 18) rfl)
theorem mw_12_19 : Cond.selects RX7 yX7_appendKind yX7_appendKind ∈ wsL_law := mw_in12 (List.mem_of_getElem? (i := 19) rfl)
theorem mw_12_2 : Cond.static yX7_isLetter ∈ wsL_law := mw_in12 (List.mem_of_getElem? (i := 2) rfl)
theorem mw_12_20 : Cond.code yX7_appendKind cX7_appendKind 2 none ∈ wsL_law := mw_in12 (List.mem_of_getElem? (i := 20) rfl)
theorem mw_12_21 : Cond.methodLink RX7 85 yX7_isSafeRow ∈ wsL_law := mw_in12 (List.mem_of_getElem? (i := 21) rfl)
theorem mw_12_22 : Cond.instanceMethod yX7_isSafeRow ∈ wsL_law := mw_in12 (List.mem_of_getElem? (i := 22) rfl)
theorem mw_12_23 : Cond.selects RX7 yX7_isSafeRow yX7_isSafeRow ∈ wsL_law := mw_in12 (List.mem_of_getElem? (i := 23) rfl)
theorem mw_12_3 : Cond.code yX7_isLetter cX7_isLetter 1 (some .boolean) ∈ wsL_law := mw_in12 (List.mem_of_getElem? (i := 3) rfl)
theorem mw_12_4 : Cond.methodLink RX7 151 yX7_hasFault ∈ wsL_law := mw_in12 (List.mem_of_getElem? (i := 4) rfl)
theorem mw_12_5 : Cond.instanceMethod yX7_hasFault ∈ wsL_law := mw_in12 (List.mem_of_getElem? (i := 5) rfl)
theorem mw_12_6 : Cond.selects RX7 yX7_hasFault yX7_hasFault ∈ wsL_law := mw_in12 (List.mem_of_getElem? (i := 6) rfl)
theorem mw_12_7 : Cond.code yX7_hasFault cX7_hasFault 1 (some .boolean) ∈ wsL_law := mw_in12 (List.mem_of_getElem? (i := 7) rfl)
theorem mw_12_8 : Cond.methodLink RX7 81 yX7_beginRow ∈ wsL_law := mw_in12 (List.mem_of_getElem? (i := 8) rfl)
theorem mw_12_9 : Cond.instanceMethod yX7_beginRow ∈ wsL_law := mw_in12 (List.mem_of_getElem? (i := 9) rfl)
theorem mw_13_0 : Cond.code yX7_isSafeRow cX7_isSafeRow 2 (some .boolean) ∈ wsL_law := mw_in13 (List.mem_of_getElem? (i := 0) rfl)
theorem mw_13_1 : Cond.methodLink RX7 77 yX7_leastGap ∈ wsL_law := mw_in13 (List.mem_of_getElem? (i := 1) rfl)
theorem mw_13_10 : Cond.instanceMethod yX6_list ∈ wsL_law := mw_in13 (List.mem_of_getElem? (i := 10) rfl)
theorem mw_13_11 : Cond.selects RX6 yX6_list yX6_list ∈ wsL_law := mw_in13 (List.mem_of_getElem? (i := 11) rfl)
theorem mw_13_12 : Cond.code yX6_list cX6_list 1 (some .int) ∈ wsL_law := mw_in13 (List.mem_of_getElem? (i := 12) rfl)
theorem mw_13_13 : Cond.fieldLink RX6 107 "ShuntYard$Yard" "trains" "I" ∈ wsL_law := mw_in13 (List.mem_of_getElem? (i := 13) rfl)
theorem mw_13_14 : Cond.methodLink RX6 100 yX4_readTrains ∈ wsL_law := mw_in13 (List.mem_of_getElem? (i := 14) rfl)
theorem mw_13_15 : Cond.instanceMethod yX4_readTrains ∈ wsL_law := mw_in13 (List.mem_of_getElem? (i := 15) rfl)
theorem mw_13_16 : Cond.selects RX4 yX4_readTrains yX4_readTrains ∈ wsL_law := mw_in13 (List.mem_of_getElem? (i := 16) rfl)
theorem mw_13_17 : Cond.code yX4_readTrains cX4_readTrains 3 (some .boolean) ∈ wsL_law := mw_in13 (List.mem_of_getElem? (i := 17) rfl)
theorem mw_13_18 : Cond.methodLink RX6 103 yX5_takeTrains ∈ wsL_law := mw_in13 (List.mem_of_getElem? (i := 18) rfl)
theorem mw_13_19 : Cond.instanceMethod yX5_takeTrains ∈ wsL_law := mw_in13 (List.mem_of_getElem? (i := 19) rfl)
theorem mw_13_2 : Cond.instanceMethod yX7_leastGap ∈ wsL_law := mw_in13 (List.mem_of_getElem? (i := 2) rfl)
theorem mw_13_20 : Cond.selects RX5 yX5_takeTrains yX5_takeTrains ∈ wsL_law := mw_in13 (List.mem_of_getElem? (i := 20) rfl)
theorem mw_13_21 : Cond.code yX5_takeTrains cX5_takeTrains 2 none ∈ wsL_law := mw_in13 (List.mem_of_getElem? (i := 21) rfl)
theorem mw_13_22 : Cond.methodLink RL 31 yX7_list ∈ wsL_law := mw_in13 (List.mem_of_getElem? (i := 22) rfl)
theorem mw_13_23 : Cond.instanceMethod yX7_list ∈ wsL_law := mw_in13 (List.mem_of_getElem? (i := 23) rfl)
theorem mw_13_3 : Cond.selects RX7 yX7_leastGap yX7_leastGap ∈ wsL_law := mw_in13 (List.mem_of_getElem? (i := 3) rfl)
theorem mw_13_4 : Cond.code yX7_leastGap cX7_leastGap 5 (some .int) ∈ wsL_law := mw_in13 (List.mem_of_getElem? (i := 4) rfl)
theorem mw_13_5 : Cond.methodLink RX7 93 yX7_put ∈ wsL_law := mw_in13 (List.mem_of_getElem? (i := 5) rfl)
theorem mw_13_6 : Cond.instanceMethod yX7_put ∈ wsL_law := mw_in13 (List.mem_of_getElem? (i := 6) rfl)
theorem mw_13_7 : Cond.selects RX7 yX7_put yX7_put ∈ wsL_law := mw_in13 (List.mem_of_getElem? (i := 7) rfl)
theorem mw_13_8 : Cond.code yX7_put cX7_put 4 none ∈ wsL_law := mw_in13 (List.mem_of_getElem? (i := 8) rfl)
theorem mw_13_9 : Cond.methodLink RL 27 yX6_list ∈ wsL_law := mw_in13 (List.mem_of_getElem? (i := 9) rfl)
theorem mw_14_0 : Cond.selects RX7 yX7_list yX7_list ∈ wsL_law := mw_in14 (List.mem_of_getElem? (i := 0) rfl)
theorem mw_14_1 : Cond.code yX7_list cX7_list 2 (some .int) ∈ wsL_law := mw_in14 (List.mem_of_getElem? (i := 1) rfl)
theorem mw_14_10 : Cond.methodLink RX6 110 yX5_costOrCode ∈ wsL_law := mw_in14 (List.mem_of_getElem? (i := 10) rfl)
theorem mw_14_11 : Cond.instanceMethod yX5_costOrCode ∈ wsL_law := mw_in14 (List.mem_of_getElem? (i := 11) rfl)
theorem mw_14_12 : Cond.selects RX5 yX5_costOrCode yX5_costOrCode ∈ wsL_law := mw_in14 (List.mem_of_getElem? (i := 12) rfl)
theorem mw_14_13 : Cond.code yX5_costOrCode cX5_costOrCode 4 (some .int) ∈ wsL_law := mw_in14 (List.mem_of_getElem? (i := 13) rfl)
theorem mw_14_14 : Cond.methodLink RX5 122 yX5_hasTrack ∈ wsL_law := mw_in14 (List.mem_of_getElem? (i := 14) rfl)
theorem mw_14_15 : Cond.methodLink RX5 125 yX5_isSafeBehindMove ∈ wsL_law := mw_in14 (List.mem_of_getElem? (i := 15) rfl)
theorem mw_14_16 : Cond.instanceMethod yX5_isSafeBehindMove ∈ wsL_law := mw_in14 (List.mem_of_getElem? (i := 16) rfl)
theorem mw_14_17 : Cond.selects RX5 yX5_isSafeBehindMove yX5_isSafeBehindMove ∈ wsL_law := mw_in14 (List.mem_of_getElem? (i := 17) rfl)
theorem mw_14_18 : Cond.code yX5_isSafeBehindMove cX5_isSafeBehindMove 5 (some .boolean) ∈ wsL_law := mw_in14 (List.mem_of_getElem? (i := 18) rfl)
theorem mw_14_19 : Cond.methodLink RX5 128 yX5_minutesOf ∈ wsL_law := mw_in14 (List.mem_of_getElem? (i := 19) rfl)
theorem mw_14_2 : Cond.methodLink RX7 154 yX7_readList ∈ wsL_law := mw_in14 (List.mem_of_getElem? (i := 2) rfl)
theorem mw_14_20 : Cond.instanceMethod yX5_minutesOf ∈ wsL_law := mw_in14 (List.mem_of_getElem? (i := 20) rfl)
theorem mw_14_21 : Cond.selects RX5 yX5_minutesOf yX5_minutesOf ∈ wsL_law := mw_in14 (List.mem_of_getElem? (i := 21) rfl)
theorem mw_14_22 : Cond.code yX5_minutesOf cX5_minutesOf 6 (some .int) ∈ wsL_law := mw_in14 (List.mem_of_getElem? (i := 22) rfl)
theorem mw_14_23 : Cond.methodLink RX5 131 Lib.Math.abs.name ∈ wsL_law := mw_in14 (List.mem_of_getElem? (i := 23) rfl)
theorem mw_14_3 : Cond.instanceMethod yX7_readList ∈ wsL_law := mw_in14 (List.mem_of_getElem? (i := 3) rfl)
theorem mw_14_4 : Cond.selects RX7 yX7_readList yX7_readList ∈ wsL_law := mw_in14 (List.mem_of_getElem? (i := 4) rfl)
theorem mw_14_5 : Cond.code yX7_readList cX7_readList 3 none ∈ wsL_law := mw_in14 (List.mem_of_getElem? (i := 5) rfl)
theorem mw_14_6 : Cond.methodLink RL 32 yX6_move ∈ wsL_law := mw_in14 (List.mem_of_getElem? (i := 6) rfl)
theorem mw_14_7 : Cond.instanceMethod yX6_move ∈ wsL_law := mw_in14 (List.mem_of_getElem? (i := 7) rfl)
theorem mw_14_8 : Cond.selects RX6 yX6_move yX6_move ∈ wsL_law := mw_in14 (List.mem_of_getElem? (i := 8) rfl)
theorem mw_14_9 : Cond.code yX6_move cX6_move 5 (some .int) ∈ wsL_law := mw_in14 (List.mem_of_getElem? (i := 9) rfl)
theorem mw_15_0 : Cond.static Lib.Math.abs.name ∈ wsL_law := mw_in15 (List.mem_of_getElem? (i := 0) rfl)
theorem mw_15_1 : Cond.code Lib.Math.abs.name Lib.Math.abs.code 1 (some .int) ∈ wsL_law := mw_in15 (List.mem_of_getElem? (i := 1) rfl)
theorem mw_15_10 : Cond.methodLink RL 36 yX7_move ∈ wsL_law := mw_in15 (List.mem_of_getElem? (i := 10) rfl)
theorem mw_15_11 : Cond.instanceMethod yX7_move ∈ wsL_law := mw_in15 (List.mem_of_getElem? (i := 11) rfl)
theorem mw_15_12 : Cond.selects RX7 yX7_move yX7_move ∈ wsL_law := mw_in15 (List.mem_of_getElem? (i := 12) rfl)
theorem mw_15_13 : Cond.code yX7_move cX7_move 5 (some .int) ∈ wsL_law := mw_in15 (List.mem_of_getElem? (i := 13) rfl)
theorem mw_15_14 : Cond.methodLink RX7 104 yX7_cost ∈ wsL_law := mw_in15 (List.mem_of_getElem? (i := 14) rfl)
theorem mw_15_15 : Cond.instanceMethod yX7_cost ∈ wsL_law := mw_in15 (List.mem_of_getElem? (i := 15) rfl)
theorem mw_15_16 : Cond.selects RX7 yX7_cost yX7_cost ∈ wsL_law := mw_in15 (List.mem_of_getElem? (i := 16) rfl)
theorem mw_15_17 : Cond.code yX7_cost cX7_cost 4 (some .int) ∈ wsL_law := mw_in15 (List.mem_of_getElem? (i := 17) rfl)
theorem mw_15_18 : Cond.methodLink RX7 97 yX7_areTracks ∈ wsL_law := mw_in15 (List.mem_of_getElem? (i := 18) rfl)
theorem mw_15_19 : Cond.instanceMethod yX7_areTracks ∈ wsL_law := mw_in15 (List.mem_of_getElem? (i := 19) rfl)
theorem mw_15_2 : Cond.methodLink RX6 114 yX5_drive ∈ wsL_law := mw_in15 (List.mem_of_getElem? (i := 2) rfl)
theorem mw_15_20 : Cond.selects RX7 yX7_areTracks yX7_areTracks ∈ wsL_law := mw_in15 (List.mem_of_getElem? (i := 20) rfl)
theorem mw_15_21 : Cond.code yX7_areTracks cX7_areTracks 4 (some .boolean) ∈ wsL_law := mw_in15 (List.mem_of_getElem? (i := 21) rfl)
theorem mw_15_22 : Cond.methodLink RX7 100 yX7_costOf ∈ wsL_law := mw_in15 (List.mem_of_getElem? (i := 22) rfl)
theorem mw_15_23 : Cond.instanceMethod yX7_costOf ∈ wsL_law := mw_in15 (List.mem_of_getElem? (i := 23) rfl)
theorem mw_15_3 : Cond.instanceMethod yX5_drive ∈ wsL_law := mw_in15 (List.mem_of_getElem? (i := 3) rfl)
theorem mw_15_4 : Cond.selects RX5 yX5_drive yX5_drive ∈ wsL_law := mw_in15 (List.mem_of_getElem? (i := 4) rfl)
theorem mw_15_5 : Cond.code yX5_drive cX5_drive 5 (some .int) ∈ wsL_law := mw_in15 (List.mem_of_getElem? (i := 5) rfl)
theorem mw_15_6 : Cond.methodLink RX5 136 yX5_shift ∈ wsL_law := mw_in15 (List.mem_of_getElem? (i := 6) rfl)
theorem mw_15_7 : Cond.instanceMethod yX5_shift ∈ wsL_law := mw_in15 (List.mem_of_getElem? (i := 7) rfl)
theorem mw_15_8 : Cond.selects RX5 yX5_shift yX5_shift ∈ wsL_law := mw_in15 (List.mem_of_getElem? (i := 8) rfl)
theorem mw_15_9 : Cond.code yX5_shift cX5_shift 5 none ∈ wsL_law := mw_in15 (List.mem_of_getElem? (i := 9) rfl)
theorem mw_16_0 : Cond.selects RX7 yX7_costOf yX7_costOf ∈ wsL_law := mw_in16 (List.mem_of_getElem? (i := 0) rfl)
theorem mw_16_1 : Cond.code yX7_costOf cX7_costOf 7 (some .int) ∈ wsL_law := mw_in16 (List.mem_of_getElem? (i := 1) rfl)
theorem mw_16_10 : Cond.methodLink RX6 117 yX5_testBrakes ∈ wsL_law := mw_in16 (List.mem_of_getElem? (i := 10) rfl)
theorem mw_16_11 : Cond.instanceMethod yX5_testBrakes ∈ wsL_law := mw_in16 (List.mem_of_getElem? (i := 11) rfl)
theorem mw_16_12 : Cond.selects RX5 yX5_testBrakes yX5_testBrakes ∈ wsL_law := mw_in16 (List.mem_of_getElem? (i := 12) rfl)
theorem mw_16_13 : Cond.code yX5_testBrakes cX5_testBrakes 3 (some .int) ∈ wsL_law := mw_in16 (List.mem_of_getElem? (i := 13) rfl)
theorem mw_16_14 : Cond.methodLink RL 40 yX7_test ∈ wsL_law := mw_in16 (List.mem_of_getElem? (i := 14) rfl)
theorem mw_16_15 : Cond.instanceMethod yX7_test ∈ wsL_law := mw_in16 (List.mem_of_getElem? (i := 15) rfl)
theorem mw_16_16 : Cond.selects RX7 yX7_test yX7_test ∈ wsL_law := mw_in16 (List.mem_of_getElem? (i := 16) rfl)
theorem mw_16_17 : Cond.code yX7_test cX7_test 3 (some .int) ∈ wsL_law := mw_in16 (List.mem_of_getElem? (i := 17) rfl)
theorem mw_16_18 : Cond.methodLink RL 41 yX6_pause ∈ wsL_law := mw_in16 (List.mem_of_getElem? (i := 18) rfl)
theorem mw_16_19 : Cond.instanceMethod yX6_pause ∈ wsL_law := mw_in16 (List.mem_of_getElem? (i := 19) rfl)
theorem mw_16_2 : Cond.methodLink RX7 110 yX7_carry ∈ wsL_law := mw_in16 (List.mem_of_getElem? (i := 2) rfl)
theorem mw_16_20 : Cond.selects RX6 yX6_pause yX6_pause ∈ wsL_law := mw_in16 (List.mem_of_getElem? (i := 20) rfl)
theorem mw_16_21 : Cond.code yX6_pause cX6_pause 2 (some .int) ∈ wsL_law := mw_in16 (List.mem_of_getElem? (i := 21) rfl)
theorem mw_16_22 : Cond.fieldLink RX6 120 "ShuntYard$Yard" "clock" "I" ∈ wsL_law := mw_in16 (List.mem_of_getElem? (i := 22) rfl)
theorem mw_16_23 : Cond.methodLink RL 44 yX7_pause ∈ wsL_law := mw_in16 (List.mem_of_getElem? (i := 23) rfl)
theorem mw_16_3 : Cond.instanceMethod yX7_carry ∈ wsL_law := mw_in16 (List.mem_of_getElem? (i := 3) rfl)
theorem mw_16_4 : Cond.selects RX7 yX7_carry yX7_carry ∈ wsL_law := mw_in16 (List.mem_of_getElem? (i := 4) rfl)
theorem mw_16_5 : Cond.code yX7_carry cX7_carry 8 none ∈ wsL_law := mw_in16 (List.mem_of_getElem? (i := 5) rfl)
theorem mw_16_6 : Cond.methodLink RL 37 yX6_test ∈ wsL_law := mw_in16 (List.mem_of_getElem? (i := 6) rfl)
theorem mw_16_7 : Cond.instanceMethod yX6_test ∈ wsL_law := mw_in16 (List.mem_of_getElem? (i := 7) rfl)
theorem mw_16_8 : Cond.selects RX6 yX6_test yX6_test ∈ wsL_law := mw_in16 (List.mem_of_getElem? (i := 8) rfl)
theorem mw_16_9 : Cond.code yX6_test cX6_test 2 (some .int) ∈ wsL_law := mw_in16 (List.mem_of_getElem? (i := 9) rfl)
theorem mw_17_0 : Cond.instanceMethod yX7_pause ∈ wsL_law := mw_in17 (List.mem_of_getElem? (i := 0) rfl)
theorem mw_17_1 : Cond.selects RX7 yX7_pause yX7_pause ∈ wsL_law := mw_in17 (List.mem_of_getElem? (i := 1) rfl)
theorem mw_17_10 : Cond.code yX5_refusal cX5_refusal 2 (some .int) ∈ wsL_law := mw_in17 (List.mem_of_getElem? (i := 10) rfl)
theorem mw_17_11 : Cond.methodLink RX5 146 yX5_forFirstOn ∈ wsL_law := mw_in17 (List.mem_of_getElem? (i := 11) rfl)
theorem mw_17_12 : Cond.instanceMethod yX5_forFirstOn ∈ wsL_law := mw_in17 (List.mem_of_getElem? (i := 12) rfl)
theorem mw_17_13 : Cond.selects RX5 yX5_forFirstOn yX5_forFirstOn ∈ wsL_law := mw_in17 (List.mem_of_getElem? (i := 13) rfl)
theorem mw_17_14 : Cond.code yX5_forFirstOn cX5_forFirstOn 4 (some .int) ∈ wsL_law := mw_in17 (List.mem_of_getElem? (i := 14) rfl)
theorem mw_17_15 : Cond.methodLink RX5 142 yX5_isForFirst ∈ wsL_law := mw_in17 (List.mem_of_getElem? (i := 15) rfl)
theorem mw_17_16 : Cond.instanceMethod yX5_isForFirst ∈ wsL_law := mw_in17 (List.mem_of_getElem? (i := 16) rfl)
theorem mw_17_17 : Cond.selects RX5 yX5_isForFirst yX5_isForFirst ∈ wsL_law := mw_in17 (List.mem_of_getElem? (i := 17) rfl)
theorem mw_17_18 : Cond.code yX5_isForFirst cX5_isForFirst 3 (some .boolean) ∈ wsL_law := mw_in17 (List.mem_of_getElem? (i := 18) rfl)
theorem mw_17_19 : Cond.methodLink RX5 149 yX5_forFirstInYard ∈ wsL_law := mw_in17 (List.mem_of_getElem? (i := 19) rfl)
theorem mw_17_2 : Cond.code yX7_pause cX7_pause 2 (some .int) ∈ wsL_law := mw_in17 (List.mem_of_getElem? (i := 2) rfl)
theorem mw_17_20 : Cond.instanceMethod yX5_forFirstInYard ∈ wsL_law := mw_in17 (List.mem_of_getElem? (i := 20) rfl)
theorem mw_17_21 : Cond.selects RX5 yX5_forFirstInYard yX5_forFirstInYard ∈ wsL_law := mw_in17 (List.mem_of_getElem? (i := 21) rfl)
theorem mw_17_22 : Cond.code yX5_forFirstInYard cX5_forFirstInYard 3 (some .int) ∈ wsL_law := mw_in17 (List.mem_of_getElem? (i := 22) rfl)
theorem mw_17_23 : Cond.methodLink RX5 118 yX5_isSafe ∈ wsL_law := mw_in17 (List.mem_of_getElem? (i := 23) rfl)
theorem mw_17_3 : Cond.methodLink RL 45 yX6_depart ∈ wsL_law := mw_in17 (List.mem_of_getElem? (i := 3) rfl)
theorem mw_17_4 : Cond.instanceMethod yX6_depart ∈ wsL_law := mw_in17 (List.mem_of_getElem? (i := 4) rfl)
theorem mw_17_5 : Cond.selects RX6 yX6_depart yX6_depart ∈ wsL_law := mw_in17 (List.mem_of_getElem? (i := 5) rfl)
theorem mw_17_6 : Cond.code yX6_depart cX6_depart 3 (some .int) ∈ wsL_law := mw_in17 (List.mem_of_getElem? (i := 6) rfl)
theorem mw_17_7 : Cond.methodLink RX6 123 yX5_refusal ∈ wsL_law := mw_in17 (List.mem_of_getElem? (i := 7) rfl)
theorem mw_17_8 : Cond.instanceMethod yX5_refusal ∈ wsL_law := mw_in17 (List.mem_of_getElem? (i := 8) rfl)
theorem mw_17_9 : Cond.selects RX5 yX5_refusal yX5_refusal ∈ wsL_law := mw_in17 (List.mem_of_getElem? (i := 9) rfl)
theorem mw_18_0 : Cond.instanceMethod yX5_isSafe ∈ wsL_law := mw_in18 (List.mem_of_getElem? (i := 0) rfl)
theorem mw_18_1 : Cond.selects RX5 yX5_isSafe yX5_isSafe ∈ wsL_law := mw_in18 (List.mem_of_getElem? (i := 1) rfl)
theorem mw_18_10 : Cond.methodLink RX6 126 yX5_sendOff ∈ wsL_law := mw_in18 (List.mem_of_getElem? (i := 10) rfl)
theorem mw_18_11 : Cond.instanceMethod yX5_sendOff ∈ wsL_law := mw_in18 (List.mem_of_getElem? (i := 11) rfl)
theorem mw_18_12 : Cond.selects RX5 yX5_sendOff yX5_sendOff ∈ wsL_law := mw_in18 (List.mem_of_getElem? (i := 12) rfl)
theorem mw_18_13 : Cond.code yX5_sendOff cX5_sendOff 3 (some .int) ∈ wsL_law := mw_in18 (List.mem_of_getElem? (i := 13) rfl)
theorem mw_18_14 : Cond.methodLink RL 48 yX7_depart ∈ wsL_law := mw_in18 (List.mem_of_getElem? (i := 14) rfl)
theorem mw_18_15 : Cond.instanceMethod yX7_depart ∈ wsL_law := mw_in18 (List.mem_of_getElem? (i := 15) rfl)
theorem mw_18_16 : Cond.selects RX7 yX7_depart yX7_depart ∈ wsL_law := mw_in18 (List.mem_of_getElem? (i := 16) rfl)
theorem mw_18_17 : Cond.code yX7_depart cX7_depart 5 (some .int) ∈ wsL_law := mw_in18 (List.mem_of_getElem? (i := 17) rfl)
theorem mw_18_18 : Cond.methodLink RX7 127 yX7_reasonAgainst ∈ wsL_law := mw_in18 (List.mem_of_getElem? (i := 18) rfl)
theorem mw_18_19 : Cond.instanceMethod yX7_reasonAgainst ∈ wsL_law := mw_in18 (List.mem_of_getElem? (i := 19) rfl)
theorem mw_18_2 : Cond.code yX5_isSafe cX5_isSafe 2 (some .boolean) ∈ wsL_law := mw_in18 (List.mem_of_getElem? (i := 2) rfl)
theorem mw_18_20 : Cond.selects RX7 yX7_reasonAgainst yX7_reasonAgainst ∈ wsL_law := mw_in18 (List.mem_of_getElem? (i := 20) rfl)
theorem mw_18_21 : Cond.code yX7_reasonAgainst cX7_reasonAgainst 3 (some .int) ∈ wsL_law := mw_in18 (List.mem_of_getElem? (i := 21) rfl)
theorem mw_18_22 : Cond.methodLink RX7 117 yX7_bound ∈ wsL_law := mw_in18 (List.mem_of_getElem? (i := 22) rfl)
theorem mw_18_23 : Cond.instanceMethod yX7_bound ∈ wsL_law := mw_in18 (List.mem_of_getElem? (i := 23) rfl)
theorem mw_18_3 : Cond.methodLink RX5 153 yX5_testHoldsFor ∈ wsL_law := mw_in18 (List.mem_of_getElem? (i := 3) rfl)
theorem mw_18_4 : Cond.instanceMethod yX5_testHoldsFor ∈ wsL_law := mw_in18 (List.mem_of_getElem? (i := 4) rfl)
theorem mw_18_5 : Cond.selects RX5 yX5_testHoldsFor yX5_testHoldsFor ∈ wsL_law := mw_in18 (List.mem_of_getElem? (i := 5) rfl)
theorem mw_18_6 : Cond.code yX5_testHoldsFor cX5_testHoldsFor 2 (some .int) ∈ wsL_law := mw_in18 (List.mem_of_getElem? (i := 6) rfl)
theorem mw_18_7 : Cond.methodLink RX5 139 Lib.Math.max.name ∈ wsL_law := mw_in18 (List.mem_of_getElem? (i := 7) rfl)
theorem mw_18_8 : Cond.static Lib.Math.max.name ∈ wsL_law := mw_in18 (List.mem_of_getElem? (i := 8) rfl)
theorem mw_18_9 : Cond.code Lib.Math.max.name Lib.Math.max.code 2 (some .int) ∈ wsL_law := mw_in18 (List.mem_of_getElem? (i := 9) rfl)
theorem mw_19_0 : Cond.selects RX7 yX7_bound yX7_bound ∈ wsL_law := mw_in19 (List.mem_of_getElem? (i := 0) rfl)
theorem mw_19_1 : Cond.code yX7_bound cX7_bound 5 (some .int) ∈ wsL_law := mw_in19 (List.mem_of_getElem? (i := 1) rfl)
theorem mw_19_10 : Cond.methodLink RX7 123 yX7_stillHolds ∈ wsL_law := mw_in19 (List.mem_of_getElem? (i := 10) rfl)
theorem mw_19_11 : Cond.instanceMethod yX7_stillHolds ∈ wsL_law := mw_in19 (List.mem_of_getElem? (i := 11) rfl)
theorem mw_19_12 : Cond.selects RX7 yX7_stillHolds yX7_stillHolds ∈ wsL_law := mw_in19 (List.mem_of_getElem? (i := 12) rfl)
theorem mw_19_13 : Cond.code yX7_stillHolds cX7_stillHolds 3 (some .int) ∈ wsL_law := mw_in19 (List.mem_of_getElem? (i := 13) rfl)
theorem mw_19_14 : Cond.methodLink RL 49 yX6_makeUp ∈ wsL_law := mw_in19 (List.mem_of_getElem? (i := 14) rfl)
theorem mw_19_15 : Cond.instanceMethod yX6_makeUp ∈ wsL_law := mw_in19 (List.mem_of_getElem? (i := 15) rfl)
theorem mw_19_16 : Cond.selects RX6 yX6_makeUp yX6_makeUp ∈ wsL_law := mw_in19 (List.mem_of_getElem? (i := 16) rfl)
theorem mw_19_17 : Cond.code yX6_makeUp cX6_makeUp 5 (some .int) ∈ wsL_law := mw_in19 (List.mem_of_getElem? (i := 17) rfl)
theorem mw_19_18 : Cond.fieldLink RX6 133 "ShuntYard$Search" "best" "LShuntYard$Row;" ∈ wsL_law := mw_in19 (List.mem_of_getElem? (i := 18) rfl)
theorem mw_19_19 : Cond.fieldLink RX6 137 "ShuntYard$Row" "moves" "I" ∈ wsL_law := mw_in19 (List.mem_of_getElem? (i := 19) rfl)
theorem mw_19_2 : Cond.methodLink RX7 114 yX7_destination ∈ wsL_law := mw_in19 (List.mem_of_getElem? (i := 2) rfl)
theorem mw_19_20 : Cond.fieldLink RX6 142 "ShuntYard$Row" "from" "[I" ∈ wsL_law := mw_in19 (List.mem_of_getElem? (i := 20) rfl)
theorem mw_19_21 : Cond.fieldLink RX6 145 "ShuntYard$Row" "to" "[I" ∈ wsL_law := mw_in19 (List.mem_of_getElem? (i := 21) rfl)
theorem mw_19_22 : Cond.fieldLink RX6 148 "ShuntYard$Row" "n" "[I" ∈ wsL_law := mw_in19 (List.mem_of_getElem? (i := 22) rfl)
theorem mw_19_23 : Cond.methodLink RX6 129 yX3_succeeds ∈ wsL_law := mw_in19 (List.mem_of_getElem? (i := 23) rfl)
theorem mw_19_3 : Cond.instanceMethod yX7_destination ∈ wsL_law := mw_in19 (List.mem_of_getElem? (i := 3) rfl)
theorem mw_19_4 : Cond.selects RX7 yX7_destination yX7_destination ∈ wsL_law := mw_in19 (List.mem_of_getElem? (i := 4) rfl)
theorem mw_19_5 : Cond.code yX7_destination cX7_destination 3 (some .int) ∈ wsL_law := mw_in19 (List.mem_of_getElem? (i := 5) rfl)
theorem mw_19_6 : Cond.methodLink RX7 120 yX7_isSafe ∈ wsL_law := mw_in19 (List.mem_of_getElem? (i := 6) rfl)
theorem mw_19_7 : Cond.instanceMethod yX7_isSafe ∈ wsL_law := mw_in19 (List.mem_of_getElem? (i := 7) rfl)
theorem mw_19_8 : Cond.selects RX7 yX7_isSafe yX7_isSafe ∈ wsL_law := mw_in19 (List.mem_of_getElem? (i := 8) rfl)
theorem mw_19_9 : Cond.code yX7_isSafe cX7_isSafe 2 (some .boolean) ∈ wsL_law := mw_in19 (List.mem_of_getElem? (i := 9) rfl)
theorem mw_1_0 : Cond.classLink RL 7 RX6 ∈ wsL_law := mw_in1 (List.mem_of_getElem? (i := 0) rfl)
theorem mw_1_1 : Cond.instantiable RX6 6 ∈ wsL_law := mw_in1 (List.mem_of_getElem? (i := 1) rfl)
theorem mw_1_10 : Cond.instanceMethod objectInit ∈ wsL_law := mw_in1 (List.mem_of_getElem? (i := 10) rfl)
theorem mw_1_11 : Cond.code objectInit ⟨#[0xb1]⟩ 1 none ∈ wsL_law := mw_in1 (List.mem_of_getElem? (i := 11) rfl)
theorem mw_1_12 : Cond.classLink RX6 7 RX5 ∈ wsL_law := mw_in1 (List.mem_of_getElem? (i := 12) rfl)
theorem mw_1_13 : Cond.instantiable RX5 15 ∈ wsL_law := mw_in1 (List.mem_of_getElem? (i := 13) rfl)
theorem mw_1_14 : Cond.initialized RX5 ∈ wsL_law := mw_in1 (List.mem_of_getElem? (i := 14) rfl)
theorem mw_1_15 : Cond.fieldLink RX6 10 "ShuntYard" "yard" "LShuntYard$Yard;" ∈ wsL_law := mw_in1 (List.mem_of_getElem? (i := 15) rfl)
theorem mw_1_16 : Cond.classLink RX6 16 RX1 ∈ wsL_law := mw_in1 (List.mem_of_getElem? (i := 16) rfl)
theorem mw_1_17 : Cond.instantiable RX1 3 ∈ wsL_law := mw_in1 (List.mem_of_getElem? (i := 17) rfl)
theorem mw_1_18 : Cond.initialized RX1 ∈ wsL_law := mw_in1 (List.mem_of_getElem? (i := 18) rfl)
theorem mw_1_19 : Cond.fieldLink RX6 19 "ShuntYard" "history" "LShuntYard$History;" ∈ wsL_law := mw_in1 (List.mem_of_getElem? (i := 19) rfl)
theorem mw_1_2 : Cond.initialized RX6 ∈ wsL_law := mw_in1 (List.mem_of_getElem? (i := 2) rfl)
theorem mw_1_20 : Cond.fieldLink RX6 23 "ShuntYard" "images" "[LShuntYard$Yard;" ∈ wsL_law := mw_in1 (List.mem_of_getElem? (i := 20) rfl)
theorem mw_1_21 : Cond.classLink RX6 27 RX4 ∈ wsL_law := mw_in1 (List.mem_of_getElem? (i := 21) rfl)
theorem mw_1_22 : Cond.instantiable RX4 6 ∈ wsL_law := mw_in1 (List.mem_of_getElem? (i := 22) rfl)
theorem mw_1_23 : Cond.initialized RX4 ∈ wsL_law := mw_in1 (List.mem_of_getElem? (i := 23) rfl)
theorem mw_1_3 : Cond.classLink RL 10 RX7 ∈ wsL_law := mw_in1 (List.mem_of_getElem? (i := 3) rfl)
theorem mw_1_4 : Cond.instantiable RX7 24 ∈ wsL_law := mw_in1 (List.mem_of_getElem? (i := 4) rfl)
theorem mw_1_5 : Cond.initialized RX7 ∈ wsL_law := mw_in1 (List.mem_of_getElem? (i := 5) rfl)
theorem mw_1_6 : Cond.methodLink RL 9 yX6_init ∈ wsL_law := mw_in1 (List.mem_of_getElem? (i := 6) rfl)
theorem mw_1_7 : Cond.instanceMethod yX6_init ∈ wsL_law := mw_in1 (List.mem_of_getElem? (i := 7) rfl)
theorem mw_1_8 : Cond.code yX6_init cX6_init 1 none ∈ wsL_law := mw_in1 (List.mem_of_getElem? (i := 8) rfl)
theorem mw_1_9 : Cond.methodLink RX6 1 objectInit ∈ wsL_law := mw_in1 (List.mem_of_getElem? (i := 9) rfl)
theorem mw_20_0 : Cond.instanceMethod yX3_succeeds ∈ wsL_law := mw_in20 (List.mem_of_getElem? (i := 0) rfl)
theorem mw_20_1 : Cond.selects RX3 yX3_succeeds yX3_succeeds ∈ wsL_law := mw_in20 (List.mem_of_getElem? (i := 1) rfl)
theorem mw_20_10 : Cond.code yX2_clear cX2_clear 1 none ∈ wsL_law := mw_in20 (List.mem_of_getElem? (i := 10) rfl)
theorem mw_20_11 : Cond.fieldLink RX2 21 "ShuntYard$Row" "moves" "I" ∈ wsL_law := mw_in20 (List.mem_of_getElem? (i := 11) rfl)
theorem mw_20_12 : Cond.fieldLink RX2 25 "ShuntYard$Row" "minutes" "I" ∈ wsL_law := mw_in20 (List.mem_of_getElem? (i := 12) rfl)
theorem mw_20_13 : Cond.methodLink RX3 49 yX5_forFirstInYard ∈ wsL_law := mw_in20 (List.mem_of_getElem? (i := 13) rfl)
theorem mw_20_14 : Cond.methodLink RX3 56 yX5_copyFrom ∈ wsL_law := mw_in20 (List.mem_of_getElem? (i := 14) rfl)
theorem mw_20_15 : Cond.methodLink RX3 66 yX3_seek ∈ wsL_law := mw_in20 (List.mem_of_getElem? (i := 15) rfl)
theorem mw_20_16 : Cond.instanceMethod yX3_seek ∈ wsL_law := mw_in20 (List.mem_of_getElem? (i := 16) rfl)
theorem mw_20_17 : Cond.selects RX3 yX3_seek yX3_seek ∈ wsL_law := mw_in20 (List.mem_of_getElem? (i := 17) rfl)
theorem mw_20_18 : Cond.code yX3_seek cX3_seek 8 none ∈ wsL_law := mw_in20 (List.mem_of_getElem? (i := 18) rfl)
theorem mw_20_19 : Cond.fieldLink RX3 83 "ShuntYard$Yard" "tracks" "I" ∈ wsL_law := mw_in20 (List.mem_of_getElem? (i := 19) rfl)
theorem mw_20_2 : Cond.code yX3_succeeds cX3_succeeds 4 (some .boolean) ∈ wsL_law := mw_in20 (List.mem_of_getElem? (i := 2) rfl)
theorem mw_20_20 : Cond.fieldLink RX3 86 "ShuntYard$Yard" "length" "[I" ∈ wsL_law := mw_in20 (List.mem_of_getElem? (i := 20) rfl)
theorem mw_20_21 : Cond.methodLink RX3 70 yX5_madeUpTrack ∈ wsL_law := mw_in20 (List.mem_of_getElem? (i := 21) rfl)
theorem mw_20_22 : Cond.instanceMethod yX5_madeUpTrack ∈ wsL_law := mw_in20 (List.mem_of_getElem? (i := 22) rfl)
theorem mw_20_23 : Cond.selects RX5 yX5_madeUpTrack yX5_madeUpTrack ∈ wsL_law := mw_in20 (List.mem_of_getElem? (i := 23) rfl)
theorem mw_20_3 : Cond.fieldLink RX3 38 "ShuntYard$Search" "hasBest" "Z" ∈ wsL_law := mw_in20 (List.mem_of_getElem? (i := 3) rfl)
theorem mw_20_4 : Cond.fieldLink RX3 45 "ShuntYard$Yard" "trains" "I" ∈ wsL_law := mw_in20 (List.mem_of_getElem? (i := 4) rfl)
theorem mw_20_5 : Cond.fieldLink RX3 53 "ShuntYard$Yard" "capacity" "I" ∈ wsL_law := mw_in20 (List.mem_of_getElem? (i := 5) rfl)
theorem mw_20_6 : Cond.methodLink RX3 60 Lib.Math.min.name ∈ wsL_law := mw_in20 (List.mem_of_getElem? (i := 6) rfl)
theorem mw_20_7 : Cond.methodLink RX3 42 yX2_clear ∈ wsL_law := mw_in20 (List.mem_of_getElem? (i := 7) rfl)
theorem mw_20_8 : Cond.instanceMethod yX2_clear ∈ wsL_law := mw_in20 (List.mem_of_getElem? (i := 8) rfl)
theorem mw_20_9 : Cond.selects RX2 yX2_clear yX2_clear ∈ wsL_law := mw_in20 (List.mem_of_getElem? (i := 9) rfl)
theorem mw_21_0 : Cond.code yX5_madeUpTrack cX5_madeUpTrack 2 (some .int) ∈ wsL_law := mw_in21 (List.mem_of_getElem? (i := 0) rfl)
theorem mw_21_1 : Cond.methodLink RX3 73 yX3_keepIfCheaper ∈ wsL_law := mw_in21 (List.mem_of_getElem? (i := 1) rfl)
theorem mw_21_10 : Cond.instanceMethod yX2_copyFrom ∈ wsL_law := mw_in21 (List.mem_of_getElem? (i := 10) rfl)
theorem mw_21_11 : Cond.selects RX2 yX2_copyFrom yX2_copyFrom ∈ wsL_law := mw_in21 (List.mem_of_getElem? (i := 11) rfl)
theorem mw_21_12 : Cond.code yX2_copyFrom cX2_copyFrom 2 none ∈ wsL_law := mw_in21 (List.mem_of_getElem? (i := 12) rfl)
theorem mw_21_13 : Cond.methodLink RX2 28 arraycopyName ∈ wsL_law := mw_in21 (List.mem_of_getElem? (i := 13) rfl)
theorem mw_21_14 : Cond.methodLink RX3 76 yX3_movesNeeded ∈ wsL_law := mw_in21 (List.mem_of_getElem? (i := 14) rfl)
theorem mw_21_15 : Cond.instanceMethod yX3_movesNeeded ∈ wsL_law := mw_in21 (List.mem_of_getElem? (i := 15) rfl)
theorem mw_21_16 : Cond.selects RX3 yX3_movesNeeded yX3_movesNeeded ∈ wsL_law := mw_in21 (List.mem_of_getElem? (i := 16) rfl)
theorem mw_21_17 : Cond.code yX3_movesNeeded cX3_movesNeeded 3 (some .int) ∈ wsL_law := mw_in21 (List.mem_of_getElem? (i := 17) rfl)
theorem mw_21_18 : Cond.methodLink RX3 121 yX3_countWanted ∈ wsL_law := mw_in21 (List.mem_of_getElem? (i := 18) rfl)
theorem mw_21_19 : Cond.instanceMethod yX3_countWanted ∈ wsL_law := mw_in21 (List.mem_of_getElem? (i := 19) rfl)
theorem mw_21_2 : Cond.instanceMethod yX3_keepIfCheaper ∈ wsL_law := mw_in21 (List.mem_of_getElem? (i := 2) rfl)
theorem mw_21_20 : Cond.selects RX3 yX3_countWanted yX3_countWanted ∈ wsL_law := mw_in21 (List.mem_of_getElem? (i := 20) rfl)
theorem mw_21_21 : Cond.code yX3_countWanted cX3_countWanted 6 none ∈ wsL_law := mw_in21 (List.mem_of_getElem? (i := 21) rfl)
theorem mw_21_22 : Cond.methodLink RX3 128 yX5_isForFirst ∈ wsL_law := mw_in21 (List.mem_of_getElem? (i := 22) rfl)
theorem mw_21_23 : Cond.methodLink RX3 124 yX3_movesNeededFor ∈ wsL_law := mw_in21 (List.mem_of_getElem? (i := 23) rfl)
theorem mw_21_3 : Cond.selects RX3 yX3_keepIfCheaper yX3_keepIfCheaper ∈ wsL_law := mw_in21 (List.mem_of_getElem? (i := 3) rfl)
theorem mw_21_4 : Cond.code yX3_keepIfCheaper cX3_keepIfCheaper 1 none ∈ wsL_law := mw_in21 (List.mem_of_getElem? (i := 4) rfl)
theorem mw_21_5 : Cond.methodLink RX3 108 yX2_isCheaperThan ∈ wsL_law := mw_in21 (List.mem_of_getElem? (i := 5) rfl)
theorem mw_21_6 : Cond.instanceMethod yX2_isCheaperThan ∈ wsL_law := mw_in21 (List.mem_of_getElem? (i := 6) rfl)
theorem mw_21_7 : Cond.selects RX2 yX2_isCheaperThan yX2_isCheaperThan ∈ wsL_law := mw_in21 (List.mem_of_getElem? (i := 7) rfl)
theorem mw_21_8 : Cond.code yX2_isCheaperThan cX2_isCheaperThan 2 (some .boolean) ∈ wsL_law := mw_in21 (List.mem_of_getElem? (i := 8) rfl)
theorem mw_21_9 : Cond.methodLink RX3 112 yX2_copyFrom ∈ wsL_law := mw_in21 (List.mem_of_getElem? (i := 9) rfl)
theorem mw_22_0 : Cond.instanceMethod yX3_movesNeededFor ∈ wsL_law := mw_in22 (List.mem_of_getElem? (i := 0) rfl)
theorem mw_22_1 : Cond.selects RX3 yX3_movesNeededFor yX3_movesNeededFor ∈ wsL_law := mw_in22 (List.mem_of_getElem? (i := 1) rfl)
theorem mw_22_10 : Cond.methodLink RX3 93 yX3_seekBehindMove ∈ wsL_law := mw_in22 (List.mem_of_getElem? (i := 10) rfl)
theorem mw_22_11 : Cond.instanceMethod yX3_seekBehindMove ∈ wsL_law := mw_in22 (List.mem_of_getElem? (i := 11) rfl)
theorem mw_22_12 : Cond.selects RX3 yX3_seekBehindMove yX3_seekBehindMove ∈ wsL_law := mw_in22 (List.mem_of_getElem? (i := 12) rfl)
theorem mw_22_13 : Cond.code yX3_seekBehindMove cX3_seekBehindMove 6 none ∈ wsL_law := mw_in22 (List.mem_of_getElem? (i := 13) rfl)
theorem mw_22_14 : Cond.methodLink RX3 97 yX5_shift ∈ wsL_law := mw_in22 (List.mem_of_getElem? (i := 14) rfl)
theorem mw_22_15 : Cond.methodLink RX3 101 yX2_addLast ∈ wsL_law := mw_in22 (List.mem_of_getElem? (i := 15) rfl)
theorem mw_22_16 : Cond.instanceMethod yX2_addLast ∈ wsL_law := mw_in22 (List.mem_of_getElem? (i := 16) rfl)
theorem mw_22_17 : Cond.selects RX2 yX2_addLast yX2_addLast ∈ wsL_law := mw_in22 (List.mem_of_getElem? (i := 17) rfl)
theorem mw_22_18 : Cond.code yX2_addLast cX2_addLast 5 none ∈ wsL_law := mw_in22 (List.mem_of_getElem? (i := 18) rfl)
theorem mw_22_19 : Cond.methodLink RX3 105 yX2_dropLast ∈ wsL_law := mw_in22 (List.mem_of_getElem? (i := 19) rfl)
theorem mw_22_2 : Cond.code yX3_movesNeededFor cX3_movesNeededFor 5 (some .int) ∈ wsL_law := mw_in22 (List.mem_of_getElem? (i := 2) rfl)
theorem mw_22_20 : Cond.instanceMethod yX2_dropLast ∈ wsL_law := mw_in22 (List.mem_of_getElem? (i := 20) rfl)
theorem mw_22_21 : Cond.selects RX2 yX2_dropLast yX2_dropLast ∈ wsL_law := mw_in22 (List.mem_of_getElem? (i := 21) rfl)
theorem mw_22_22 : Cond.code yX2_dropLast cX2_dropLast 2 none ∈ wsL_law := mw_in22 (List.mem_of_getElem? (i := 22) rfl)
theorem mw_22_23 : Cond.methodLink RL 52 yX7_makeUp ∈ wsL_law := mw_in22 (List.mem_of_getElem? (i := 23) rfl)
theorem mw_22_3 : Cond.methodLink RX3 79 yX3_isTooDear ∈ wsL_law := mw_in22 (List.mem_of_getElem? (i := 3) rfl)
theorem mw_22_4 : Cond.instanceMethod yX3_isTooDear ∈ wsL_law := mw_in22 (List.mem_of_getElem? (i := 4) rfl)
theorem mw_22_5 : Cond.selects RX3 yX3_isTooDear yX3_isTooDear ∈ wsL_law := mw_in22 (List.mem_of_getElem? (i := 5) rfl)
theorem mw_22_6 : Cond.code yX3_isTooDear cX3_isTooDear 3 (some .boolean) ∈ wsL_law := mw_in22 (List.mem_of_getElem? (i := 6) rfl)
theorem mw_22_7 : Cond.fieldLink RX3 115 "ShuntYard$Yard" "settings" "[I" ∈ wsL_law := mw_in22 (List.mem_of_getElem? (i := 7) rfl)
theorem mw_22_8 : Cond.fieldLink RX3 118 "ShuntYard$Row" "minutes" "I" ∈ wsL_law := mw_in22 (List.mem_of_getElem? (i := 8) rfl)
theorem mw_22_9 : Cond.methodLink RX3 89 yX5_costOrCode ∈ wsL_law := mw_in22 (List.mem_of_getElem? (i := 9) rfl)
theorem mw_23_0 : Cond.instanceMethod yX7_makeUp ∈ wsL_law := mw_in23 (List.mem_of_getElem? (i := 0) rfl)
theorem mw_23_1 : Cond.selects RX7 yX7_makeUp yX7_makeUp ∈ wsL_law := mw_in23 (List.mem_of_getElem? (i := 1) rfl)
theorem mw_23_10 : Cond.instanceMethod yX7_note ∈ wsL_law := mw_in23 (List.mem_of_getElem? (i := 10) rfl)
theorem mw_23_11 : Cond.selects RX7 yX7_note yX7_note ∈ wsL_law := mw_in23 (List.mem_of_getElem? (i := 11) rfl)
theorem mw_23_12 : Cond.code yX7_note cX7_note 5 none ∈ wsL_law := mw_in23 (List.mem_of_getElem? (i := 12) rfl)
theorem mw_23_13 : Cond.methodLink RX7 163 yX7_madeUp ∈ wsL_law := mw_in23 (List.mem_of_getElem? (i := 13) rfl)
theorem mw_23_14 : Cond.instanceMethod yX7_madeUp ∈ wsL_law := mw_in23 (List.mem_of_getElem? (i := 14) rfl)
theorem mw_23_15 : Cond.selects RX7 yX7_madeUp yX7_madeUp ∈ wsL_law := mw_in23 (List.mem_of_getElem? (i := 15) rfl)
theorem mw_23_16 : Cond.code yX7_madeUp cX7_madeUp 4 (some .int) ∈ wsL_law := mw_in23 (List.mem_of_getElem? (i := 16) rfl)
theorem mw_23_17 : Cond.methodLink RX7 169 yX7_spread ∈ wsL_law := mw_in23 (List.mem_of_getElem? (i := 17) rfl)
theorem mw_23_18 : Cond.instanceMethod yX7_spread ∈ wsL_law := mw_in23 (List.mem_of_getElem? (i := 18) rfl)
theorem mw_23_19 : Cond.selects RX7 yX7_spread yX7_spread ∈ wsL_law := mw_in23 (List.mem_of_getElem? (i := 19) rfl)
theorem mw_23_2 : Cond.code yX7_makeUp cX7_makeUp 4 (some .int) ∈ wsL_law := mw_in23 (List.mem_of_getElem? (i := 2) rfl)
theorem mw_23_20 : Cond.code yX7_spread cX7_spread 3 (some .int) ∈ wsL_law := mw_in23 (List.mem_of_getElem? (i := 20) rfl)
theorem mw_23_21 : Cond.methodLink RX7 175 yX7_isWorthIt ∈ wsL_law := mw_in23 (List.mem_of_getElem? (i := 21) rfl)
theorem mw_23_22 : Cond.instanceMethod yX7_isWorthIt ∈ wsL_law := mw_in23 (List.mem_of_getElem? (i := 22) rfl)
theorem mw_23_23 : Cond.selects RX7 yX7_isWorthIt yX7_isWorthIt ∈ wsL_law := mw_in23 (List.mem_of_getElem? (i := 23) rfl)
theorem mw_23_3 : Cond.fieldLink RX7 157 "ShuntYardModel" "bestMoves" "I" ∈ wsL_law := mw_in23 (List.mem_of_getElem? (i := 3) rfl)
theorem mw_23_4 : Cond.fieldLink RX7 160 "ShuntYardModel" "bestMinutes" "I" ∈ wsL_law := mw_in23 (List.mem_of_getElem? (i := 4) rfl)
theorem mw_23_5 : Cond.methodLink RX7 190 yX7_search ∈ wsL_law := mw_in23 (List.mem_of_getElem? (i := 5) rfl)
theorem mw_23_6 : Cond.instanceMethod yX7_search ∈ wsL_law := mw_in23 (List.mem_of_getElem? (i := 6) rfl)
theorem mw_23_7 : Cond.selects RX7 yX7_search yX7_search ∈ wsL_law := mw_in23 (List.mem_of_getElem? (i := 7) rfl)
theorem mw_23_8 : Cond.code yX7_search cX7_search 4 none ∈ wsL_law := mw_in23 (List.mem_of_getElem? (i := 8) rfl)
theorem mw_23_9 : Cond.methodLink RX7 172 yX7_note ∈ wsL_law := mw_in23 (List.mem_of_getElem? (i := 9) rfl)
theorem mw_24_0 : Cond.code yX7_isWorthIt cX7_isWorthIt 2 (some .boolean) ∈ wsL_law := mw_in24 (List.mem_of_getElem? (i := 0) rfl)
theorem mw_24_1 : Cond.methodLink RX7 178 yX7_enter ∈ wsL_law := mw_in24 (List.mem_of_getElem? (i := 1) rfl)
theorem mw_24_10 : Cond.instanceMethod yX7_release ∈ wsL_law := mw_in24 (List.mem_of_getElem? (i := 10) rfl)
theorem mw_24_11 : Cond.selects RX7 yX7_release yX7_release ∈ wsL_law := mw_in24 (List.mem_of_getElem? (i := 11) rfl)
theorem mw_24_12 : Cond.code yX7_release cX7_release 3 none ∈ wsL_law := mw_in24 (List.mem_of_getElem? (i := 12) rfl)
theorem mw_24_13 : Cond.methodLink RX7 184 yX7_next ∈ wsL_law := mw_in24 (List.mem_of_getElem? (i := 13) rfl)
theorem mw_24_14 : Cond.instanceMethod yX7_next ∈ wsL_law := mw_in24 (List.mem_of_getElem? (i := 14) rfl)
theorem mw_24_15 : Cond.selects RX7 yX7_next yX7_next ∈ wsL_law := mw_in24 (List.mem_of_getElem? (i := 15) rfl)
theorem mw_24_16 : Cond.code yX7_next cX7_next 3 (some .boolean) ∈ wsL_law := mw_in24 (List.mem_of_getElem? (i := 16) rfl)
theorem mw_24_17 : Cond.methodLink RX7 187 yX7_tryMove ∈ wsL_law := mw_in24 (List.mem_of_getElem? (i := 17) rfl)
theorem mw_24_18 : Cond.instanceMethod yX7_tryMove ∈ wsL_law := mw_in24 (List.mem_of_getElem? (i := 18) rfl)
theorem mw_24_19 : Cond.selects RX7 yX7_tryMove yX7_tryMove ∈ wsL_law := mw_in24 (List.mem_of_getElem? (i := 19) rfl)
theorem mw_24_2 : Cond.instanceMethod yX7_enter ∈ wsL_law := mw_in24 (List.mem_of_getElem? (i := 2) rfl)
theorem mw_24_20 : Cond.code yX7_tryMove cX7_tryMove 4 (some .int) ∈ wsL_law := mw_in24 (List.mem_of_getElem? (i := 20) rfl)
theorem mw_24_21 : Cond.methodLink RL 53 yX6_undo ∈ wsL_law := mw_in24 (List.mem_of_getElem? (i := 21) rfl)
theorem mw_24_22 : Cond.instanceMethod yX6_undo ∈ wsL_law := mw_in24 (List.mem_of_getElem? (i := 22) rfl)
theorem mw_24_23 : Cond.selects RX6 yX6_undo yX6_undo ∈ wsL_law := mw_in24 (List.mem_of_getElem? (i := 23) rfl)
theorem mw_24_3 : Cond.selects RX7 yX7_enter yX7_enter ∈ wsL_law := mw_in24 (List.mem_of_getElem? (i := 3) rfl)
theorem mw_24_4 : Cond.code yX7_enter cX7_enter 2 none ∈ wsL_law := mw_in24 (List.mem_of_getElem? (i := 4) rfl)
theorem mw_24_5 : Cond.methodLink RX7 166 yX7_hold ∈ wsL_law := mw_in24 (List.mem_of_getElem? (i := 5) rfl)
theorem mw_24_6 : Cond.instanceMethod yX7_hold ∈ wsL_law := mw_in24 (List.mem_of_getElem? (i := 6) rfl)
theorem mw_24_7 : Cond.selects RX7 yX7_hold yX7_hold ∈ wsL_law := mw_in24 (List.mem_of_getElem? (i := 7) rfl)
theorem mw_24_8 : Cond.code yX7_hold cX7_hold 3 none ∈ wsL_law := mw_in24 (List.mem_of_getElem? (i := 8) rfl)
theorem mw_24_9 : Cond.methodLink RX7 181 yX7_release ∈ wsL_law := mw_in24 (List.mem_of_getElem? (i := 9) rfl)
theorem mw_25_0 : Cond.code yX6_undo cX6_undo 1 (some .int) ∈ wsL_law := mw_in25 (List.mem_of_getElem? (i := 0) rfl)
theorem mw_25_1 : Cond.fieldLink RX6 155 "ShuntYard$History" "count" "I" ∈ wsL_law := mw_in25 (List.mem_of_getElem? (i := 1) rfl)
theorem mw_25_10 : Cond.methodLink RL 57 yX6_write ∈ wsL_law := mw_in25 (List.mem_of_getElem? (i := 10) rfl)
theorem mw_25_11 : Cond.instanceMethod yX6_write ∈ wsL_law := mw_in25 (List.mem_of_getElem? (i := 11) rfl)
theorem mw_25_12 : Cond.selects RX6 yX6_write yX6_write ∈ wsL_law := mw_in25 (List.mem_of_getElem? (i := 12) rfl)
theorem mw_25_13 : Cond.code yX6_write cX6_write 2 (some .int) ∈ wsL_law := mw_in25 (List.mem_of_getElem? (i := 13) rfl)
theorem mw_25_14 : Cond.fieldLink RX6 158 "ShuntYard$Text" "length" "I" ∈ wsL_law := mw_in25 (List.mem_of_getElem? (i := 14) rfl)
theorem mw_25_15 : Cond.methodLink RX6 160 yX4_append ∈ wsL_law := mw_in25 (List.mem_of_getElem? (i := 15) rfl)
theorem mw_25_16 : Cond.instanceMethod yX4_append ∈ wsL_law := mw_in25 (List.mem_of_getElem? (i := 16) rfl)
theorem mw_25_17 : Cond.selects RX4 yX4_append yX4_append ∈ wsL_law := mw_in25 (List.mem_of_getElem? (i := 17) rfl)
theorem mw_25_18 : Cond.code yX4_append cX4_append 2 none ∈ wsL_law := mw_in25 (List.mem_of_getElem? (i := 18) rfl)
theorem mw_25_19 : Cond.methodLink RL 60 yX7_write ∈ wsL_law := mw_in25 (List.mem_of_getElem? (i := 19) rfl)
theorem mw_25_2 : Cond.methodLink RX6 151 yX1_restore ∈ wsL_law := mw_in25 (List.mem_of_getElem? (i := 2) rfl)
theorem mw_25_20 : Cond.instanceMethod yX7_write ∈ wsL_law := mw_in25 (List.mem_of_getElem? (i := 20) rfl)
theorem mw_25_21 : Cond.selects RX7 yX7_write yX7_write ∈ wsL_law := mw_in25 (List.mem_of_getElem? (i := 21) rfl)
theorem mw_25_22 : Cond.code yX7_write cX7_write 2 (some .int) ∈ wsL_law := mw_in25 (List.mem_of_getElem? (i := 22) rfl)
theorem mw_25_23 : Cond.methodLink RL 61 yX6_wipe ∈ wsL_law := mw_in25 (List.mem_of_getElem? (i := 23) rfl)
theorem mw_25_3 : Cond.instanceMethod yX1_restore ∈ wsL_law := mw_in25 (List.mem_of_getElem? (i := 3) rfl)
theorem mw_25_4 : Cond.selects RX1 yX1_restore yX1_restore ∈ wsL_law := mw_in25 (List.mem_of_getElem? (i := 4) rfl)
theorem mw_25_5 : Cond.code yX1_restore cX1_restore 3 (some .boolean) ∈ wsL_law := mw_in25 (List.mem_of_getElem? (i := 5) rfl)
theorem mw_25_6 : Cond.methodLink RL 56 yX7_undo ∈ wsL_law := mw_in25 (List.mem_of_getElem? (i := 6) rfl)
theorem mw_25_7 : Cond.instanceMethod yX7_undo ∈ wsL_law := mw_in25 (List.mem_of_getElem? (i := 7) rfl)
theorem mw_25_8 : Cond.selects RX7 yX7_undo yX7_undo ∈ wsL_law := mw_in25 (List.mem_of_getElem? (i := 8) rfl)
theorem mw_25_9 : Cond.code yX7_undo cX7_undo 2 (some .int) ∈ wsL_law := mw_in25 (List.mem_of_getElem? (i := 9) rfl)
theorem mw_26_0 : Cond.instanceMethod yX6_wipe ∈ wsL_law := mw_in26 (List.mem_of_getElem? (i := 0) rfl)
theorem mw_26_1 : Cond.selects RX6 yX6_wipe yX6_wipe ∈ wsL_law := mw_in26 (List.mem_of_getElem? (i := 1) rfl)
theorem mw_26_10 : Cond.code yX6_fault cX6_fault 2 (some .int) ∈ wsL_law := mw_in26 (List.mem_of_getElem? (i := 10) rfl)
theorem mw_26_11 : Cond.fieldLink RX6 164 "ShuntYard$Text" "faultKind" "I" ∈ wsL_law := mw_in26 (List.mem_of_getElem? (i := 11) rfl)
theorem mw_26_12 : Cond.fieldLink RX6 167 "ShuntYard$Text" "faultPlace" "I" ∈ wsL_law := mw_in26 (List.mem_of_getElem? (i := 12) rfl)
theorem mw_26_13 : Cond.methodLink RL 68 yX7_fault ∈ wsL_law := mw_in26 (List.mem_of_getElem? (i := 13) rfl)
theorem mw_26_14 : Cond.instanceMethod yX7_fault ∈ wsL_law := mw_in26 (List.mem_of_getElem? (i := 14) rfl)
theorem mw_26_15 : Cond.selects RX7 yX7_fault yX7_fault ∈ wsL_law := mw_in26 (List.mem_of_getElem? (i := 15) rfl)
theorem mw_26_16 : Cond.code yX7_fault cX7_fault 2 (some .int) ∈ wsL_law := mw_in26 (List.mem_of_getElem? (i := 16) rfl)
theorem mw_26_17 : Cond.methodLink RL 69 yX6_told ∈ wsL_law := mw_in26 (List.mem_of_getElem? (i := 17) rfl)
theorem mw_26_18 : Cond.instanceMethod yX6_told ∈ wsL_law := mw_in26 (List.mem_of_getElem? (i := 18) rfl)
theorem mw_26_19 : Cond.selects RX6 yX6_told yX6_told ∈ wsL_law := mw_in26 (List.mem_of_getElem? (i := 19) rfl)
theorem mw_26_2 : Cond.code yX6_wipe cX6_wipe 2 (some .int) ∈ wsL_law := mw_in26 (List.mem_of_getElem? (i := 2) rfl)
theorem mw_26_20 : Cond.code yX6_told cX6_told 2 (some .int) ∈ wsL_law := mw_in26 (List.mem_of_getElem? (i := 20) rfl)
theorem mw_26_21 : Cond.fieldLink RX6 170 "ShuntYard$Yard" "tracks" "I" ∈ wsL_law := mw_in26 (List.mem_of_getElem? (i := 21) rfl)
theorem mw_26_22 : Cond.fieldLink RX6 176 "ShuntYard$Yard" "moves" "I" ∈ wsL_law := mw_in26 (List.mem_of_getElem? (i := 22) rfl)
theorem mw_26_23 : Cond.fieldLink RX6 177 "ShuntYard$Yard" "moveMinutes" "I" ∈ wsL_law := mw_in26 (List.mem_of_getElem? (i := 23) rfl)
theorem mw_26_3 : Cond.methodLink RL 64 yX7_wipe ∈ wsL_law := mw_in26 (List.mem_of_getElem? (i := 3) rfl)
theorem mw_26_4 : Cond.instanceMethod yX7_wipe ∈ wsL_law := mw_in26 (List.mem_of_getElem? (i := 4) rfl)
theorem mw_26_5 : Cond.selects RX7 yX7_wipe yX7_wipe ∈ wsL_law := mw_in26 (List.mem_of_getElem? (i := 5) rfl)
theorem mw_26_6 : Cond.code yX7_wipe cX7_wipe 2 (some .int) ∈ wsL_law := mw_in26 (List.mem_of_getElem? (i := 6) rfl)
theorem mw_26_7 : Cond.methodLink RL 65 yX6_fault ∈ wsL_law := mw_in26 (List.mem_of_getElem? (i := 7) rfl)
theorem mw_26_8 : Cond.instanceMethod yX6_fault ∈ wsL_law := mw_in26 (List.mem_of_getElem? (i := 8) rfl)
theorem mw_26_9 : Cond.selects RX6 yX6_fault yX6_fault ∈ wsL_law := mw_in26 (List.mem_of_getElem? (i := 9) rfl)
theorem mw_27_0 : Cond.fieldLink RX6 180 "ShuntYard$Yard" "trainsGone" "I" ∈ wsL_law := mw_in27 (List.mem_of_getElem? (i := 0) rfl)
theorem mw_27_1 : Cond.fieldLink RX6 183 "ShuntYard$Yard" "wagonsGone" "I" ∈ wsL_law := mw_in27 (List.mem_of_getElem? (i := 1) rfl)
theorem mw_27_10 : Cond.selects RX7 yX7_told yX7_told ∈ wsL_law := mw_in27 (List.mem_of_getElem? (i := 10) rfl)
theorem mw_27_11 : Cond.code yX7_told cX7_told 2 (some .int) ∈ wsL_law := mw_in27 (List.mem_of_getElem? (i := 11) rfl)
theorem mw_27_12 : Cond.methodLink RX7 200 yX7_unsafeTracks ∈ wsL_law := mw_in27 (List.mem_of_getElem? (i := 12) rfl)
theorem mw_27_13 : Cond.instanceMethod yX7_unsafeTracks ∈ wsL_law := mw_in27 (List.mem_of_getElem? (i := 13) rfl)
theorem mw_27_14 : Cond.selects RX7 yX7_unsafeTracks yX7_unsafeTracks ∈ wsL_law := mw_in27 (List.mem_of_getElem? (i := 14) rfl)
theorem mw_27_15 : Cond.code yX7_unsafeTracks cX7_unsafeTracks 3 (some .int) ∈ wsL_law := mw_in27 (List.mem_of_getElem? (i := 15) rfl)
theorem mw_27_16 : Cond.methodLink RL 73 yX6_setting ∈ wsL_law := mw_in27 (List.mem_of_getElem? (i := 16) rfl)
theorem mw_27_17 : Cond.instanceMethod yX6_setting ∈ wsL_law := mw_in27 (List.mem_of_getElem? (i := 17) rfl)
theorem mw_27_18 : Cond.selects RX6 yX6_setting yX6_setting ∈ wsL_law := mw_in27 (List.mem_of_getElem? (i := 18) rfl)
theorem mw_27_19 : Cond.code yX6_setting cX6_setting 2 (some .int) ∈ wsL_law := mw_in27 (List.mem_of_getElem? (i := 19) rfl)
theorem mw_27_2 : Cond.fieldLink RX6 186 "ShuntYard$Yard" "wagonsCome" "I" ∈ wsL_law := mw_in27 (List.mem_of_getElem? (i := 2) rfl)
theorem mw_27_20 : Cond.methodLink RL 76 yX7_setting ∈ wsL_law := mw_in27 (List.mem_of_getElem? (i := 20) rfl)
theorem mw_27_21 : Cond.instanceMethod yX7_setting ∈ wsL_law := mw_in27 (List.mem_of_getElem? (i := 21) rfl)
theorem mw_27_22 : Cond.selects RX7 yX7_setting yX7_setting ∈ wsL_law := mw_in27 (List.mem_of_getElem? (i := 22) rfl)
theorem mw_27_23 : Cond.code yX7_setting cX7_setting 2 (some .int) ∈ wsL_law := mw_in27 (List.mem_of_getElem? (i := 23) rfl)
theorem mw_27_3 : Cond.methodLink RX6 173 yX5_unsafeTracks ∈ wsL_law := mw_in27 (List.mem_of_getElem? (i := 3) rfl)
theorem mw_27_4 : Cond.instanceMethod yX5_unsafeTracks ∈ wsL_law := mw_in27 (List.mem_of_getElem? (i := 4) rfl)
theorem mw_27_5 : Cond.selects RX5 yX5_unsafeTracks yX5_unsafeTracks ∈ wsL_law := mw_in27 (List.mem_of_getElem? (i := 5) rfl)
theorem mw_27_6 : Cond.code yX5_unsafeTracks cX5_unsafeTracks 3 (some .int) ∈ wsL_law := mw_in27 (List.mem_of_getElem? (i := 6) rfl)
theorem mw_27_7 : Cond.methodLink RX6 189 yX5_madeUpTrack ∈ wsL_law := mw_in27 (List.mem_of_getElem? (i := 7) rfl)
theorem mw_27_8 : Cond.methodLink RL 72 yX7_told ∈ wsL_law := mw_in27 (List.mem_of_getElem? (i := 8) rfl)
theorem mw_27_9 : Cond.instanceMethod yX7_told ∈ wsL_law := mw_in27 (List.mem_of_getElem? (i := 9) rfl)
theorem mw_28_0 : Cond.methodLink RL 77 yX6_track ∈ wsL_law := mw_in28 (List.mem_of_getElem? (i := 0) rfl)
theorem mw_28_1 : Cond.instanceMethod yX6_track ∈ wsL_law := mw_in28 (List.mem_of_getElem? (i := 1) rfl)
theorem mw_28_10 : Cond.methodLink RL 80 yX7_track ∈ wsL_law := mw_in28 (List.mem_of_getElem? (i := 10) rfl)
theorem mw_28_11 : Cond.instanceMethod yX7_track ∈ wsL_law := mw_in28 (List.mem_of_getElem? (i := 11) rfl)
theorem mw_28_12 : Cond.selects RX7 yX7_track yX7_track ∈ wsL_law := mw_in28 (List.mem_of_getElem? (i := 12) rfl)
theorem mw_28_13 : Cond.code yX7_track cX7_track 3 (some .int) ∈ wsL_law := mw_in28 (List.mem_of_getElem? (i := 13) rfl)
theorem mw_28_14 : Cond.methodLink RL 81 yX6_wagon ∈ wsL_law := mw_in28 (List.mem_of_getElem? (i := 14) rfl)
theorem mw_28_15 : Cond.instanceMethod yX6_wagon ∈ wsL_law := mw_in28 (List.mem_of_getElem? (i := 15) rfl)
theorem mw_28_16 : Cond.selects RX6 yX6_wagon yX6_wagon ∈ wsL_law := mw_in28 (List.mem_of_getElem? (i := 16) rfl)
theorem mw_28_17 : Cond.code yX6_wagon cX6_wagon 5 (some .int) ∈ wsL_law := mw_in28 (List.mem_of_getElem? (i := 17) rfl)
theorem mw_28_18 : Cond.methodLink RX6 201 yX5_wagonAt ∈ wsL_law := mw_in28 (List.mem_of_getElem? (i := 18) rfl)
theorem mw_28_19 : Cond.methodLink RX6 205 yX6_numberOf ∈ wsL_law := mw_in28 (List.mem_of_getElem? (i := 19) rfl)
theorem mw_28_2 : Cond.selects RX6 yX6_track yX6_track ∈ wsL_law := mw_in28 (List.mem_of_getElem? (i := 2) rfl)
theorem mw_28_20 : Cond.static yX6_numberOf ∈ wsL_law := mw_in28 (List.mem_of_getElem? (i := 20) rfl)
theorem mw_28_21 : Cond.code yX6_numberOf cX6_numberOf 1 (some .int) ∈ wsL_law := mw_in28 (List.mem_of_getElem? (i := 21) rfl)
theorem mw_28_22 : Cond.methodLink RX6 208 yX6_destinationOf ∈ wsL_law := mw_in28 (List.mem_of_getElem? (i := 22) rfl)
theorem mw_28_23 : Cond.methodLink RX6 211 yX6_kindOf ∈ wsL_law := mw_in28 (List.mem_of_getElem? (i := 23) rfl)
theorem mw_28_3 : Cond.code yX6_track cX6_track 3 (some .int) ∈ wsL_law := mw_in28 (List.mem_of_getElem? (i := 3) rfl)
theorem mw_28_4 : Cond.methodLink RX6 192 yX5_isSafe ∈ wsL_law := mw_in28 (List.mem_of_getElem? (i := 4) rfl)
theorem mw_28_5 : Cond.methodLink RX6 195 yX5_testHoldsFor ∈ wsL_law := mw_in28 (List.mem_of_getElem? (i := 5) rfl)
theorem mw_28_6 : Cond.methodLink RX6 198 yX5_leastGap ∈ wsL_law := mw_in28 (List.mem_of_getElem? (i := 6) rfl)
theorem mw_28_7 : Cond.instanceMethod yX5_leastGap ∈ wsL_law := mw_in28 (List.mem_of_getElem? (i := 7) rfl)
theorem mw_28_8 : Cond.selects RX5 yX5_leastGap yX5_leastGap ∈ wsL_law := mw_in28 (List.mem_of_getElem? (i := 8) rfl)
theorem mw_28_9 : Cond.code yX5_leastGap cX5_leastGap 2 (some .int) ∈ wsL_law := mw_in28 (List.mem_of_getElem? (i := 9) rfl)
theorem mw_29_0 : Cond.methodLink RL 84 yX7_wagon ∈ wsL_law := mw_in29 (List.mem_of_getElem? (i := 0) rfl)
theorem mw_29_1 : Cond.instanceMethod yX7_wagon ∈ wsL_law := mw_in29 (List.mem_of_getElem? (i := 1) rfl)
theorem mw_29_10 : Cond.instanceMethod yX7_train ∈ wsL_law := mw_in29 (List.mem_of_getElem? (i := 10) rfl)
theorem mw_29_11 : Cond.selects RX7 yX7_train yX7_train ∈ wsL_law := mw_in29 (List.mem_of_getElem? (i := 11) rfl)
theorem mw_29_12 : Cond.code yX7_train cX7_train 2 (some .int) ∈ wsL_law := mw_in29 (List.mem_of_getElem? (i := 12) rfl)
theorem mw_29_13 : Cond.methodLink RL 89 yX6_find ∈ wsL_law := mw_in29 (List.mem_of_getElem? (i := 13) rfl)
theorem mw_29_14 : Cond.instanceMethod yX6_find ∈ wsL_law := mw_in29 (List.mem_of_getElem? (i := 14) rfl)
theorem mw_29_15 : Cond.selects RX6 yX6_find yX6_find ∈ wsL_law := mw_in29 (List.mem_of_getElem? (i := 15) rfl)
theorem mw_29_16 : Cond.code yX6_find cX6_find 4 (some .int) ∈ wsL_law := mw_in29 (List.mem_of_getElem? (i := 16) rfl)
theorem mw_29_17 : Cond.methodLink RX6 217 yX5_spotOf ∈ wsL_law := mw_in29 (List.mem_of_getElem? (i := 17) rfl)
theorem mw_29_18 : Cond.instanceMethod yX5_spotOf ∈ wsL_law := mw_in29 (List.mem_of_getElem? (i := 18) rfl)
theorem mw_29_19 : Cond.selects RX5 yX5_spotOf yX5_spotOf ∈ wsL_law := mw_in29 (List.mem_of_getElem? (i := 19) rfl)
theorem mw_29_2 : Cond.selects RX7 yX7_wagon yX7_wagon ∈ wsL_law := mw_in29 (List.mem_of_getElem? (i := 2) rfl)
theorem mw_29_20 : Cond.code yX5_spotOf cX5_spotOf 4 (some .int) ∈ wsL_law := mw_in29 (List.mem_of_getElem? (i := 20) rfl)
theorem mw_29_21 : Cond.methodLink RL 92 yX7_find ∈ wsL_law := mw_in29 (List.mem_of_getElem? (i := 21) rfl)
theorem mw_29_22 : Cond.instanceMethod yX7_find ∈ wsL_law := mw_in29 (List.mem_of_getElem? (i := 22) rfl)
theorem mw_29_23 : Cond.selects RX7 yX7_find yX7_find ∈ wsL_law := mw_in29 (List.mem_of_getElem? (i := 23) rfl)
theorem mw_29_3 : Cond.code yX7_wagon cX7_wagon 4 (some .int) ∈ wsL_law := mw_in29 (List.mem_of_getElem? (i := 3) rfl)
theorem mw_29_4 : Cond.methodLink RL 85 yX6_train ∈ wsL_law := mw_in29 (List.mem_of_getElem? (i := 4) rfl)
theorem mw_29_5 : Cond.instanceMethod yX6_train ∈ wsL_law := mw_in29 (List.mem_of_getElem? (i := 5) rfl)
theorem mw_29_6 : Cond.selects RX6 yX6_train yX6_train ∈ wsL_law := mw_in29 (List.mem_of_getElem? (i := 6) rfl)
theorem mw_29_7 : Cond.code yX6_train cX6_train 2 (some .int) ∈ wsL_law := mw_in29 (List.mem_of_getElem? (i := 7) rfl)
theorem mw_29_8 : Cond.fieldLink RX6 214 "ShuntYard$Yard" "destinations" "[I" ∈ wsL_law := mw_in29 (List.mem_of_getElem? (i := 8) rfl)
theorem mw_29_9 : Cond.methodLink RL 88 yX7_train ∈ wsL_law := mw_in29 (List.mem_of_getElem? (i := 9) rfl)
theorem mw_2_0 : Cond.fieldLink RX6 30 "ShuntYard" "text" "LShuntYard$Text;" ∈ wsL_law := mw_in2 (List.mem_of_getElem? (i := 0) rfl)
theorem mw_2_1 : Cond.classLink RX6 34 RX3 ∈ wsL_law := mw_in2 (List.mem_of_getElem? (i := 1) rfl)
theorem mw_2_10 : Cond.fieldLink RX5 15 "ShuntYard$Yard" "capacity" "I" ∈ wsL_law := mw_in2 (List.mem_of_getElem? (i := 10) rfl)
theorem mw_2_11 : Cond.arrayClass .int ∈ wsL_law := mw_in2 (List.mem_of_getElem? (i := 11) rfl)
theorem mw_2_12 : Cond.fieldLink RX5 18 "ShuntYard$Yard" "settings" "[I" ∈ wsL_law := mw_in2 (List.mem_of_getElem? (i := 12) rfl)
theorem mw_2_13 : Cond.fieldLink RX5 22 "ShuntYard$Yard" "destinations" "[I" ∈ wsL_law := mw_in2 (List.mem_of_getElem? (i := 13) rfl)
theorem mw_2_14 : Cond.fieldLink RX5 25 "ShuntYard$Yard" "length" "[I" ∈ wsL_law := mw_in2 (List.mem_of_getElem? (i := 14) rfl)
theorem mw_2_15 : Cond.fieldLink RX5 28 "ShuntYard$Yard" "testEnd" "[I" ∈ wsL_law := mw_in2 (List.mem_of_getElem? (i := 15) rfl)
theorem mw_2_16 : Cond.fieldLink RX5 31 "ShuntYard$Yard" "wagons" "[I" ∈ wsL_law := mw_in2 (List.mem_of_getElem? (i := 16) rfl)
theorem mw_2_17 : Cond.classLink RX5 34 RX0 ∈ wsL_law := mw_in2 (List.mem_of_getElem? (i := 17) rfl)
theorem mw_2_18 : Cond.instantiable RX0 3 ∈ wsL_law := mw_in2 (List.mem_of_getElem? (i := 18) rfl)
theorem mw_2_19 : Cond.initialized RX0 ∈ wsL_law := mw_in2 (List.mem_of_getElem? (i := 19) rfl)
theorem mw_2_2 : Cond.instantiable RX3 7 ∈ wsL_law := mw_in2 (List.mem_of_getElem? (i := 2) rfl)
theorem mw_2_20 : Cond.fieldLink RX5 37 "ShuntYard$Yard" "gaps" "LShuntYard$Gaps;" ∈ wsL_law := mw_in2 (List.mem_of_getElem? (i := 20) rfl)
theorem mw_2_21 : Cond.instanceMethod yX0_init ∈ wsL_law := mw_in2 (List.mem_of_getElem? (i := 21) rfl)
theorem mw_2_22 : Cond.code yX0_init cX0_init 1 none ∈ wsL_law := mw_in2 (List.mem_of_getElem? (i := 22) rfl)
theorem mw_2_23 : Cond.methodLink RX0 3 objectInit ∈ wsL_law := mw_in2 (List.mem_of_getElem? (i := 23) rfl)
theorem mw_2_3 : Cond.initialized RX3 ∈ wsL_law := mw_in2 (List.mem_of_getElem? (i := 3) rfl)
theorem mw_2_4 : Cond.fieldLink RX6 37 "ShuntYard" "search" "LShuntYard$Search;" ∈ wsL_law := mw_in2 (List.mem_of_getElem? (i := 4) rfl)
theorem mw_2_5 : Cond.fieldLink RX6 41 "ShuntYard" "reason" "I" ∈ wsL_law := mw_in2 (List.mem_of_getElem? (i := 5) rfl)
theorem mw_2_6 : Cond.instanceMethod yX5_init ∈ wsL_law := mw_in2 (List.mem_of_getElem? (i := 6) rfl)
theorem mw_2_7 : Cond.code yX5_init cX5_init 1 none ∈ wsL_law := mw_in2 (List.mem_of_getElem? (i := 7) rfl)
theorem mw_2_8 : Cond.methodLink RX5 3 objectInit ∈ wsL_law := mw_in2 (List.mem_of_getElem? (i := 8) rfl)
theorem mw_2_9 : Cond.fieldLink RX5 9 "ShuntYard$Yard" "tracks" "I" ∈ wsL_law := mw_in2 (List.mem_of_getElem? (i := 9) rfl)
theorem mw_30_0 : Cond.code yX7_find cX7_find 5 (some .int) ∈ wsL_law := mw_in30 (List.mem_of_getElem? (i := 0) rfl)
theorem mw_30_1 : Cond.methodLink RL 93 yX6_mean ∈ wsL_law := mw_in30 (List.mem_of_getElem? (i := 1) rfl)
theorem mw_30_10 : Cond.instanceMethod yX6_cost ∈ wsL_law := mw_in30 (List.mem_of_getElem? (i := 10) rfl)
theorem mw_30_11 : Cond.selects RX6 yX6_cost yX6_cost ∈ wsL_law := mw_in30 (List.mem_of_getElem? (i := 11) rfl)
theorem mw_30_12 : Cond.code yX6_cost cX6_cost 4 (some .int) ∈ wsL_law := mw_in30 (List.mem_of_getElem? (i := 12) rfl)
theorem mw_30_13 : Cond.methodLink RL 101 yX7_cost ∈ wsL_law := mw_in30 (List.mem_of_getElem? (i := 13) rfl)
theorem mw_30_14 : Cond.methodLink RL 102 yX6_cheapest ∈ wsL_law := mw_in30 (List.mem_of_getElem? (i := 14) rfl)
theorem mw_30_15 : Cond.instanceMethod yX6_cheapest ∈ wsL_law := mw_in30 (List.mem_of_getElem? (i := 15) rfl)
theorem mw_30_16 : Cond.selects RX6 yX6_cheapest yX6_cheapest ∈ wsL_law := mw_in30 (List.mem_of_getElem? (i := 16) rfl)
theorem mw_30_17 : Cond.code yX6_cheapest cX6_cheapest 4 (some .int) ∈ wsL_law := mw_in30 (List.mem_of_getElem? (i := 17) rfl)
theorem mw_30_18 : Cond.fieldLink RX6 220 "ShuntYard$Row" "minutes" "I" ∈ wsL_law := mw_in30 (List.mem_of_getElem? (i := 18) rfl)
theorem mw_30_19 : Cond.methodLink RL 105 yX7_cheapest ∈ wsL_law := mw_in30 (List.mem_of_getElem? (i := 19) rfl)
theorem mw_30_2 : Cond.instanceMethod yX6_mean ∈ wsL_law := mw_in30 (List.mem_of_getElem? (i := 2) rfl)
theorem mw_30_20 : Cond.instanceMethod yX7_cheapest ∈ wsL_law := mw_in30 (List.mem_of_getElem? (i := 20) rfl)
theorem mw_30_21 : Cond.selects RX7 yX7_cheapest yX7_cheapest ∈ wsL_law := mw_in30 (List.mem_of_getElem? (i := 21) rfl)
theorem mw_30_22 : Cond.code yX7_cheapest cX7_cheapest 3 (some .int) ∈ wsL_law := mw_in30 (List.mem_of_getElem? (i := 22) rfl)
theorem mw_30_23 : Cond.methodLink RL 106 yX6_keep ∈ wsL_law := mw_in30 (List.mem_of_getElem? (i := 23) rfl)
theorem mw_30_3 : Cond.selects RX6 yX6_mean yX6_mean ∈ wsL_law := mw_in30 (List.mem_of_getElem? (i := 3) rfl)
theorem mw_30_4 : Cond.code yX6_mean cX6_mean 1 (some .float) ∈ wsL_law := mw_in30 (List.mem_of_getElem? (i := 4) rfl)
theorem mw_30_5 : Cond.methodLink RL 97 yX7_mean ∈ wsL_law := mw_in30 (List.mem_of_getElem? (i := 5) rfl)
theorem mw_30_6 : Cond.instanceMethod yX7_mean ∈ wsL_law := mw_in30 (List.mem_of_getElem? (i := 6) rfl)
theorem mw_30_7 : Cond.selects RX7 yX7_mean yX7_mean ∈ wsL_law := mw_in30 (List.mem_of_getElem? (i := 7) rfl)
theorem mw_30_8 : Cond.code yX7_mean cX7_mean 1 (some .float) ∈ wsL_law := mw_in30 (List.mem_of_getElem? (i := 8) rfl)
theorem mw_30_9 : Cond.methodLink RL 98 yX6_cost ∈ wsL_law := mw_in30 (List.mem_of_getElem? (i := 9) rfl)
theorem mw_31_0 : Cond.instanceMethod yX6_keep ∈ wsL_law := mw_in31 (List.mem_of_getElem? (i := 0) rfl)
theorem mw_31_1 : Cond.selects RX6 yX6_keep yX6_keep ∈ wsL_law := mw_in31 (List.mem_of_getElem? (i := 1) rfl)
theorem mw_31_10 : Cond.static yX7_isImage ∈ wsL_law := mw_in31 (List.mem_of_getElem? (i := 10) rfl)
theorem mw_31_11 : Cond.code yX7_isImage cX7_isImage 1 (some .boolean) ∈ wsL_law := mw_in31 (List.mem_of_getElem? (i := 11) rfl)
theorem mw_31_12 : Cond.methodLink RL 110 yX6_back ∈ wsL_law := mw_in31 (List.mem_of_getElem? (i := 12) rfl)
theorem mw_31_13 : Cond.instanceMethod yX6_back ∈ wsL_law := mw_in31 (List.mem_of_getElem? (i := 13) rfl)
theorem mw_31_14 : Cond.selects RX6 yX6_back yX6_back ∈ wsL_law := mw_in31 (List.mem_of_getElem? (i := 14) rfl)
theorem mw_31_15 : Cond.code yX6_back cX6_back 2 (some .int) ∈ wsL_law := mw_in31 (List.mem_of_getElem? (i := 15) rfl)
theorem mw_31_16 : Cond.methodLink RL 113 yX7_back ∈ wsL_law := mw_in31 (List.mem_of_getElem? (i := 16) rfl)
theorem mw_31_17 : Cond.instanceMethod yX7_back ∈ wsL_law := mw_in31 (List.mem_of_getElem? (i := 17) rfl)
theorem mw_31_18 : Cond.selects RX7 yX7_back yX7_back ∈ wsL_law := mw_in31 (List.mem_of_getElem? (i := 18) rfl)
theorem mw_31_19 : Cond.code yX7_back cX7_back 3 (some .int) ∈ wsL_law := mw_in31 (List.mem_of_getElem? (i := 19) rfl)
theorem mw_31_2 : Cond.code yX6_keep cX6_keep 2 (some .int) ∈ wsL_law := mw_in31 (List.mem_of_getElem? (i := 2) rfl)
theorem mw_31_3 : Cond.methodLink RX6 223 yX5_copyFrom ∈ wsL_law := mw_in31 (List.mem_of_getElem? (i := 3) rfl)
theorem mw_31_4 : Cond.methodLink RL 109 yX7_keep ∈ wsL_law := mw_in31 (List.mem_of_getElem? (i := 4) rfl)
theorem mw_31_5 : Cond.instanceMethod yX7_keep ∈ wsL_law := mw_in31 (List.mem_of_getElem? (i := 5) rfl)
theorem mw_31_6 : Cond.selects RX7 yX7_keep yX7_keep ∈ wsL_law := mw_in31 (List.mem_of_getElem? (i := 6) rfl)
theorem mw_31_7 : Cond.code yX7_keep cX7_keep 3 (some .int) ∈ wsL_law := mw_in31 (List.mem_of_getElem? (i := 7) rfl)
theorem mw_31_8 : Cond.fieldLink RX7 206 "ShuntYardModel" "filled" "I" ∈ wsL_law := mw_in31 (List.mem_of_getElem? (i := 8) rfl)
theorem mw_31_9 : Cond.methodLink RX7 203 yX7_isImage ∈ wsL_law := mw_in31 (List.mem_of_getElem? (i := 9) rfl)
theorem mw_3_0 : Cond.instanceMethod yX1_init ∈ wsL_law := mw_in3 (List.mem_of_getElem? (i := 0) rfl)
theorem mw_3_1 : Cond.code yX1_init cX1_init 1 none ∈ wsL_law := mw_in3 (List.mem_of_getElem? (i := 1) rfl)
theorem mw_3_10 : Cond.fieldLink RX4 18 "ShuntYard$Text" "faultKind" "I" ∈ wsL_law := mw_in3 (List.mem_of_getElem? (i := 10) rfl)
theorem mw_3_11 : Cond.fieldLink RX4 22 "ShuntYard$Text" "faultPlace" "I" ∈ wsL_law := mw_in3 (List.mem_of_getElem? (i := 11) rfl)
theorem mw_3_12 : Cond.instanceMethod yX3_init ∈ wsL_law := mw_in3 (List.mem_of_getElem? (i := 12) rfl)
theorem mw_3_13 : Cond.code yX3_init cX3_init 1 none ∈ wsL_law := mw_in3 (List.mem_of_getElem? (i := 13) rfl)
theorem mw_3_14 : Cond.methodLink RX3 3 objectInit ∈ wsL_law := mw_in3 (List.mem_of_getElem? (i := 14) rfl)
theorem mw_3_15 : Cond.classLink RX3 9 RX2 ∈ wsL_law := mw_in3 (List.mem_of_getElem? (i := 15) rfl)
theorem mw_3_16 : Cond.instantiable RX2 5 ∈ wsL_law := mw_in3 (List.mem_of_getElem? (i := 16) rfl)
theorem mw_3_17 : Cond.initialized RX2 ∈ wsL_law := mw_in3 (List.mem_of_getElem? (i := 17) rfl)
theorem mw_3_18 : Cond.fieldLink RX3 12 "ShuntYard$Search" "best" "LShuntYard$Row;" ∈ wsL_law := mw_in3 (List.mem_of_getElem? (i := 18) rfl)
theorem mw_3_19 : Cond.classLink RX3 18 RX5 ∈ wsL_law := mw_in3 (List.mem_of_getElem? (i := 19) rfl)
theorem mw_3_2 : Cond.methodLink RX1 3 objectInit ∈ wsL_law := mw_in3 (List.mem_of_getElem? (i := 2) rfl)
theorem mw_3_20 : Cond.fieldLink RX3 21 "ShuntYard$Search" "trial" "LShuntYard$Yard;" ∈ wsL_law := mw_in3 (List.mem_of_getElem? (i := 20) rfl)
theorem mw_3_21 : Cond.fieldLink RX3 25 "ShuntYard$Search" "row" "LShuntYard$Row;" ∈ wsL_law := mw_in3 (List.mem_of_getElem? (i := 21) rfl)
theorem mw_3_22 : Cond.fieldLink RX3 28 "ShuntYard$Search" "wanted" "[I" ∈ wsL_law := mw_in3 (List.mem_of_getElem? (i := 22) rfl)
theorem mw_3_23 : Cond.fieldLink RX3 32 "ShuntYard$Search" "wantedInnermost" "[I" ∈ wsL_law := mw_in3 (List.mem_of_getElem? (i := 23) rfl)
theorem mw_3_3 : Cond.classLink RX1 9 RX5 ∈ wsL_law := mw_in3 (List.mem_of_getElem? (i := 3) rfl)
theorem mw_3_4 : Cond.fieldLink RX1 11 "ShuntYard$History" "states" "[LShuntYard$Yard;" ∈ wsL_law := mw_in3 (List.mem_of_getElem? (i := 4) rfl)
theorem mw_3_5 : Cond.instanceMethod yX4_init ∈ wsL_law := mw_in3 (List.mem_of_getElem? (i := 5) rfl)
theorem mw_3_6 : Cond.code yX4_init cX4_init 1 none ∈ wsL_law := mw_in3 (List.mem_of_getElem? (i := 6) rfl)
theorem mw_3_7 : Cond.methodLink RX4 3 objectInit ∈ wsL_law := mw_in3 (List.mem_of_getElem? (i := 7) rfl)
theorem mw_3_8 : Cond.fieldLink RX4 9 "ShuntYard$Text" "bytes" "[I" ∈ wsL_law := mw_in3 (List.mem_of_getElem? (i := 8) rfl)
theorem mw_3_9 : Cond.fieldLink RX4 15 "ShuntYard$Text" "read" "[I" ∈ wsL_law := mw_in3 (List.mem_of_getElem? (i := 9) rfl)
theorem mw_4_0 : Cond.fieldLink RX3 35 "ShuntYard$Search" "wantedOutermost" "[I" ∈ wsL_law := mw_in4 (List.mem_of_getElem? (i := 0) rfl)
theorem mw_4_1 : Cond.instanceMethod yX2_init ∈ wsL_law := mw_in4 (List.mem_of_getElem? (i := 1) rfl)
theorem mw_4_10 : Cond.methodLink RX7 1 objectInit ∈ wsL_law := mw_in4 (List.mem_of_getElem? (i := 10) rfl)
theorem mw_4_11 : Cond.fieldLink RX7 7 "ShuntYardModel" "w" "[I" ∈ wsL_law := mw_in4 (List.mem_of_getElem? (i := 11) rfl)
theorem mw_4_12 : Cond.fieldLink RX7 13 "ShuntYardModel" "past" "[I" ∈ wsL_law := mw_in4 (List.mem_of_getElem? (i := 12) rfl)
theorem mw_4_13 : Cond.fieldLink RX7 16 "ShuntYardModel" "images" "[I" ∈ wsL_law := mw_in4 (List.mem_of_getElem? (i := 13) rfl)
theorem mw_4_14 : Cond.fieldLink RX7 19 "ShuntYardModel" "text" "[I" ∈ wsL_law := mw_in4 (List.mem_of_getElem? (i := 14) rfl)
theorem mw_4_15 : Cond.fieldLink RX7 22 "ShuntYardModel" "faultKind" "I" ∈ wsL_law := mw_in4 (List.mem_of_getElem? (i := 15) rfl)
theorem mw_4_16 : Cond.fieldLink RX7 26 "ShuntYardModel" "faultPlace" "I" ∈ wsL_law := mw_in4 (List.mem_of_getElem? (i := 16) rfl)
theorem mw_4_17 : Cond.fieldLink RX7 29 "ShuntYardModel" "reason" "I" ∈ wsL_law := mw_in4 (List.mem_of_getElem? (i := 17) rfl)
theorem mw_4_18 : Cond.fieldLink RX7 32 "ShuntYardModel" "row" "[I" ∈ wsL_law := mw_in4 (List.mem_of_getElem? (i := 18) rfl)
theorem mw_4_19 : Cond.fieldLink RX7 35 "ShuntYardModel" "readBound" "[I" ∈ wsL_law := mw_in4 (List.mem_of_getElem? (i := 19) rfl)
theorem mw_4_2 : Cond.code yX2_init cX2_init 1 none ∈ wsL_law := mw_in4 (List.mem_of_getElem? (i := 2) rfl)
theorem mw_4_20 : Cond.fieldLink RX7 38 "ShuntYardModel" "readKind" "[I" ∈ wsL_law := mw_in4 (List.mem_of_getElem? (i := 20) rfl)
theorem mw_4_21 : Cond.fieldLink RX7 41 "ShuntYardModel" "readTrains" "[I" ∈ wsL_law := mw_in4 (List.mem_of_getElem? (i := 21) rfl)
theorem mw_4_22 : Cond.fieldLink RX7 44 "ShuntYardModel" "held" "[I" ∈ wsL_law := mw_in4 (List.mem_of_getElem? (i := 22) rfl)
theorem mw_4_23 : Cond.fieldLink RX7 47 "ShuntYardModel" "tried" "[I" ∈ wsL_law := mw_in4 (List.mem_of_getElem? (i := 23) rfl)
theorem mw_4_3 : Cond.methodLink RX2 3 objectInit ∈ wsL_law := mw_in4 (List.mem_of_getElem? (i := 3) rfl)
theorem mw_4_4 : Cond.fieldLink RX2 9 "ShuntYard$Row" "from" "[I" ∈ wsL_law := mw_in4 (List.mem_of_getElem? (i := 4) rfl)
theorem mw_4_5 : Cond.fieldLink RX2 15 "ShuntYard$Row" "to" "[I" ∈ wsL_law := mw_in4 (List.mem_of_getElem? (i := 5) rfl)
theorem mw_4_6 : Cond.fieldLink RX2 18 "ShuntYard$Row" "n" "[I" ∈ wsL_law := mw_in4 (List.mem_of_getElem? (i := 6) rfl)
theorem mw_4_7 : Cond.methodLink RL 12 yX7_init ∈ wsL_law := mw_in4 (List.mem_of_getElem? (i := 7) rfl)
theorem mw_4_8 : Cond.instanceMethod yX7_init ∈ wsL_law := mw_in4 (List.mem_of_getElem? (i := 8) rfl)
theorem mw_4_9 : Cond.code yX7_init cX7_init 1 none ∈ wsL_law := mw_in4 (List.mem_of_getElem? (i := 9) rfl)
theorem mw_5_0 : Cond.fieldLink RX7 50 "ShuntYardModel" "best" "[I" ∈ wsL_law := mw_in5 (List.mem_of_getElem? (i := 0) rfl)
theorem mw_5_1 : Cond.fieldLink RX7 53 "ShuntYardModel" "spent" "[I" ∈ wsL_law := mw_in5 (List.mem_of_getElem? (i := 1) rfl)
theorem mw_5_10 : Cond.instanceMethod yX5_wagonsInYard ∈ wsL_law := mw_in5 (List.mem_of_getElem? (i := 10) rfl)
theorem mw_5_11 : Cond.selects RX5 yX5_wagonsInYard yX5_wagonsInYard ∈ wsL_law := mw_in5 (List.mem_of_getElem? (i := 11) rfl)
theorem mw_5_12 : Cond.code yX5_wagonsInYard cX5_wagonsInYard 3 (some .int) ∈ wsL_law := mw_in5 (List.mem_of_getElem? (i := 12) rfl)
theorem mw_5_13 : Cond.methodLink RX6 53 yX1_add ∈ wsL_law := mw_in5 (List.mem_of_getElem? (i := 13) rfl)
theorem mw_5_14 : Cond.instanceMethod yX1_add ∈ wsL_law := mw_in5 (List.mem_of_getElem? (i := 14) rfl)
theorem mw_5_15 : Cond.selects RX1 yX1_add yX1_add ∈ wsL_law := mw_in5 (List.mem_of_getElem? (i := 15) rfl)
theorem mw_5_16 : Cond.code yX1_add cX1_add 2 none ∈ wsL_law := mw_in5 (List.mem_of_getElem? (i := 16) rfl)
theorem mw_5_17 : Cond.fieldLink RX1 17 "ShuntYard$History" "next" "I" ∈ wsL_law := mw_in5 (List.mem_of_getElem? (i := 17) rfl)
theorem mw_5_18 : Cond.fieldLink RX1 26 "ShuntYard$History" "count" "I" ∈ wsL_law := mw_in5 (List.mem_of_getElem? (i := 18) rfl)
theorem mw_5_19 : Cond.methodLink RX1 29 Lib.Math.min.name ∈ wsL_law := mw_in5 (List.mem_of_getElem? (i := 19) rfl)
theorem mw_5_2 : Cond.methodLink RL 13 yX6_begin ∈ wsL_law := mw_in5 (List.mem_of_getElem? (i := 2) rfl)
theorem mw_5_20 : Cond.static Lib.Math.min.name ∈ wsL_law := mw_in5 (List.mem_of_getElem? (i := 20) rfl)
theorem mw_5_21 : Cond.initialized "java/lang/Math" ∈ wsL_law := mw_in5 (List.mem_of_getElem? (i := 21) rfl)
theorem mw_5_22 : Cond.code Lib.Math.min.name Lib.Math.min.code 2 (some .int) ∈ wsL_law := mw_in5 (List.mem_of_getElem? (i := 22) rfl)
theorem mw_5_23 : Cond.methodLink RX1 22 yX5_copyFrom ∈ wsL_law := mw_in5 (List.mem_of_getElem? (i := 23) rfl)
theorem mw_5_3 : Cond.instanceMethod yX6_begin ∈ wsL_law := mw_in5 (List.mem_of_getElem? (i := 3) rfl)
theorem mw_5_4 : Cond.selects RX6 yX6_begin yX6_begin ∈ wsL_law := mw_in5 (List.mem_of_getElem? (i := 4) rfl)
theorem mw_5_5 : Cond.code yX6_begin cX6_begin 4 (some .int) ∈ wsL_law := mw_in5 (List.mem_of_getElem? (i := 5) rfl)
theorem mw_5_6 : Cond.methodLink RX6 45 yX6_within ∈ wsL_law := mw_in5 (List.mem_of_getElem? (i := 6) rfl)
theorem mw_5_7 : Cond.static yX6_within ∈ wsL_law := mw_in5 (List.mem_of_getElem? (i := 7) rfl)
theorem mw_5_8 : Cond.code yX6_within cX6_within 3 (some .boolean) ∈ wsL_law := mw_in5 (List.mem_of_getElem? (i := 8) rfl)
theorem mw_5_9 : Cond.methodLink RX6 49 yX5_wagonsInYard ∈ wsL_law := mw_in5 (List.mem_of_getElem? (i := 9) rfl)
theorem mw_6_0 : Cond.instanceMethod yX5_copyFrom ∈ wsL_law := mw_in6 (List.mem_of_getElem? (i := 0) rfl)
theorem mw_6_1 : Cond.selects RX5 yX5_copyFrom yX5_copyFrom ∈ wsL_law := mw_in6 (List.mem_of_getElem? (i := 1) rfl)
theorem mw_6_10 : Cond.methodLink RX5 62 arraycopyName ∈ wsL_law := mw_in6 (List.mem_of_getElem? (i := 10) rfl)
theorem mw_6_11 : Cond.native arraycopyName ∈ wsL_law := mw_in6 (List.mem_of_getElem? (i := 11) rfl)
theorem mw_6_12 : Cond.static arraycopyName ∈ wsL_law := mw_in6 (List.mem_of_getElem? (i := 12) rfl)
theorem mw_6_13 : Cond.initialized "java/lang/System" ∈ wsL_law := mw_in6 (List.mem_of_getElem? (i := 13) rfl)
theorem mw_6_14 : Cond.methodLink RX6 57 yX5_restart ∈ wsL_law := mw_in6 (List.mem_of_getElem? (i := 14) rfl)
theorem mw_6_15 : Cond.instanceMethod yX5_restart ∈ wsL_law := mw_in6 (List.mem_of_getElem? (i := 15) rfl)
theorem mw_6_16 : Cond.selects RX5 yX5_restart yX5_restart ∈ wsL_law := mw_in6 (List.mem_of_getElem? (i := 16) rfl)
theorem mw_6_17 : Cond.code yX5_restart cX5_restart 3 none ∈ wsL_law := mw_in6 (List.mem_of_getElem? (i := 17) rfl)
theorem mw_6_18 : Cond.methodLink RX5 68 yJ7_fill_53178 ∈ wsL_law := mw_in6 (List.mem_of_getElem? (i := 18) rfl)
theorem mw_6_19 : Cond.static yJ7_fill_53178 ∈ wsL_law := mw_in6 (List.mem_of_getElem? (i := 19) rfl)
theorem mw_6_2 : Cond.code yX5_copyFrom cX5_copyFrom 2 none ∈ wsL_law := mw_in6 (List.mem_of_getElem? (i := 2) rfl)
theorem mw_6_20 : Cond.initialized RJ7 ∈ wsL_law := mw_in6 (List.mem_of_getElem? (i := 20) rfl)
theorem mw_6_21 : Cond.code yJ7_fill_53178 cJ7_fill_53178 4 none ∈ wsL_law := mw_in6 (List.mem_of_getElem? (i := 21) rfl)
theorem mw_6_22 : Cond.methodLink RL 17 yX7_begin ∈ wsL_law := mw_in6 (List.mem_of_getElem? (i := 22) rfl)
theorem mw_6_23 : Cond.instanceMethod yX7_begin ∈ wsL_law := mw_in6 (List.mem_of_getElem? (i := 23) rfl)
theorem mw_6_3 : Cond.fieldLink RX5 41 "ShuntYard$Yard" "clock" "I" ∈ wsL_law := mw_in6 (List.mem_of_getElem? (i := 3) rfl)
theorem mw_6_4 : Cond.fieldLink RX5 44 "ShuntYard$Yard" "moves" "I" ∈ wsL_law := mw_in6 (List.mem_of_getElem? (i := 4) rfl)
theorem mw_6_5 : Cond.fieldLink RX5 47 "ShuntYard$Yard" "moveMinutes" "I" ∈ wsL_law := mw_in6 (List.mem_of_getElem? (i := 5) rfl)
theorem mw_6_6 : Cond.fieldLink RX5 50 "ShuntYard$Yard" "trainsGone" "I" ∈ wsL_law := mw_in6 (List.mem_of_getElem? (i := 6) rfl)
theorem mw_6_7 : Cond.fieldLink RX5 53 "ShuntYard$Yard" "wagonsGone" "I" ∈ wsL_law := mw_in6 (List.mem_of_getElem? (i := 7) rfl)
theorem mw_6_8 : Cond.fieldLink RX5 56 "ShuntYard$Yard" "wagonsCome" "I" ∈ wsL_law := mw_in6 (List.mem_of_getElem? (i := 8) rfl)
theorem mw_6_9 : Cond.fieldLink RX5 59 "ShuntYard$Yard" "trains" "I" ∈ wsL_law := mw_in6 (List.mem_of_getElem? (i := 9) rfl)
theorem mw_7_0 : Cond.selects RX7 yX7_begin yX7_begin ∈ wsL_law := mw_in7 (List.mem_of_getElem? (i := 0) rfl)
theorem mw_7_1 : Cond.code yX7_begin cX7_begin 5 (some .int) ∈ wsL_law := mw_in7 (List.mem_of_getElem? (i := 1) rfl)
theorem mw_7_10 : Cond.methodLink RX7 193 yX7_wagons ∈ wsL_law := mw_in7 (List.mem_of_getElem? (i := 10) rfl)
theorem mw_7_11 : Cond.instanceMethod yX7_wagons ∈ wsL_law := mw_in7 (List.mem_of_getElem? (i := 11) rfl)
theorem mw_7_12 : Cond.selects RX7 yX7_wagons yX7_wagons ∈ wsL_law := mw_in7 (List.mem_of_getElem? (i := 12) rfl)
theorem mw_7_13 : Cond.code yX7_wagons cX7_wagons 3 (some .int) ∈ wsL_law := mw_in7 (List.mem_of_getElem? (i := 13) rfl)
theorem mw_7_14 : Cond.methodLink RX7 63 yX7_of ∈ wsL_law := mw_in7 (List.mem_of_getElem? (i := 14) rfl)
theorem mw_7_15 : Cond.instanceMethod yX7_of ∈ wsL_law := mw_in7 (List.mem_of_getElem? (i := 15) rfl)
theorem mw_7_16 : Cond.selects RX7 yX7_of yX7_of ∈ wsL_law := mw_in7 (List.mem_of_getElem? (i := 16) rfl)
theorem mw_7_17 : Cond.code yX7_of cX7_of 3 (some .int) ∈ wsL_law := mw_in7 (List.mem_of_getElem? (i := 17) rfl)
theorem mw_7_18 : Cond.methodLink RL 18 yX6_set ∈ wsL_law := mw_in7 (List.mem_of_getElem? (i := 18) rfl)
theorem mw_7_19 : Cond.instanceMethod yX6_set ∈ wsL_law := mw_in7 (List.mem_of_getElem? (i := 19) rfl)
theorem mw_7_2 : Cond.methodLink RX7 59 yX7_isIn ∈ wsL_law := mw_in7 (List.mem_of_getElem? (i := 2) rfl)
theorem mw_7_20 : Cond.selects RX6 yX6_set yX6_set ∈ wsL_law := mw_in7 (List.mem_of_getElem? (i := 20) rfl)
theorem mw_7_21 : Cond.code yX6_set cX6_set 4 (some .int) ∈ wsL_law := mw_in7 (List.mem_of_getElem? (i := 21) rfl)
theorem mw_7_22 : Cond.fieldLink RX6 72 "ShuntYard$Yard" "settings" "[I" ∈ wsL_law := mw_in7 (List.mem_of_getElem? (i := 22) rfl)
theorem mw_7_23 : Cond.methodLink RX6 61 yX6_isSetting ∈ wsL_law := mw_in7 (List.mem_of_getElem? (i := 23) rfl)
theorem mw_7_3 : Cond.static yX7_isIn ∈ wsL_law := mw_in7 (List.mem_of_getElem? (i := 3) rfl)
theorem mw_7_4 : Cond.code yX7_isIn cX7_isIn 3 (some .boolean) ∈ wsL_law := mw_in7 (List.mem_of_getElem? (i := 4) rfl)
theorem mw_7_5 : Cond.methodLink RX7 107 yX7_remember ∈ wsL_law := mw_in7 (List.mem_of_getElem? (i := 5) rfl)
theorem mw_7_6 : Cond.instanceMethod yX7_remember ∈ wsL_law := mw_in7 (List.mem_of_getElem? (i := 6) rfl)
theorem mw_7_7 : Cond.selects RX7 yX7_remember yX7_remember ∈ wsL_law := mw_in7 (List.mem_of_getElem? (i := 7) rfl)
theorem mw_7_8 : Cond.code yX7_remember cX7_remember 2 none ∈ wsL_law := mw_in7 (List.mem_of_getElem? (i := 8) rfl)
theorem mw_7_9 : Cond.fieldLink RX7 56 "ShuntYardModel" "pastMany" "I" ∈ wsL_law := mw_in7 (List.mem_of_getElem? (i := 9) rfl)
theorem mw_8_0 : Cond.static yX6_isSetting ∈ wsL_law := mw_in8 (List.mem_of_getElem? (i := 0) rfl)
theorem mw_8_1 : Cond.code yX6_isSetting cX6_isSetting 1 (some .boolean) ∈ wsL_law := mw_in8 (List.mem_of_getElem? (i := 1) rfl)
theorem mw_8_10 : Cond.selects RX7 yX7_set yX7_set ∈ wsL_law := mw_in8 (List.mem_of_getElem? (i := 10) rfl)
theorem mw_8_11 : Cond.code yX7_set cX7_set 4 (some .int) ∈ wsL_law := mw_in8 (List.mem_of_getElem? (i := 11) rfl)
theorem mw_8_12 : Cond.methodLink RX7 196 yX7_isOf ∈ wsL_law := mw_in8 (List.mem_of_getElem? (i := 12) rfl)
theorem mw_8_13 : Cond.static yX7_isOf ∈ wsL_law := mw_in8 (List.mem_of_getElem? (i := 13) rfl)
theorem mw_8_14 : Cond.code yX7_isOf cX7_isOf 2 (some .boolean) ∈ wsL_law := mw_in8 (List.mem_of_getElem? (i := 14) rfl)
theorem mw_8_15 : Cond.methodLink RL 22 yX6_arrive ∈ wsL_law := mw_in8 (List.mem_of_getElem? (i := 15) rfl)
theorem mw_8_16 : Cond.instanceMethod yX6_arrive ∈ wsL_law := mw_in8 (List.mem_of_getElem? (i := 16) rfl)
theorem mw_8_17 : Cond.selects RX6 yX6_arrive yX6_arrive ∈ wsL_law := mw_in8 (List.mem_of_getElem? (i := 17) rfl)
theorem mw_8_18 : Cond.code yX6_arrive cX6_arrive 2 (some .int) ∈ wsL_law := mw_in8 (List.mem_of_getElem? (i := 18) rfl)
theorem mw_8_19 : Cond.fieldLink RX6 87 "ShuntYard$Yard" "length" "[I" ∈ wsL_law := mw_in8 (List.mem_of_getElem? (i := 19) rfl)
theorem mw_8_2 : Cond.methodLink RX6 65 yX6_leastOf ∈ wsL_law := mw_in8 (List.mem_of_getElem? (i := 2) rfl)
theorem mw_8_20 : Cond.fieldLink RX6 90 "ShuntYard$Text" "found" "I" ∈ wsL_law := mw_in8 (List.mem_of_getElem? (i := 20) rfl)
theorem mw_8_21 : Cond.fieldLink RX6 93 "ShuntYard$Yard" "capacity" "I" ∈ wsL_law := mw_in8 (List.mem_of_getElem? (i := 21) rfl)
theorem mw_8_22 : Cond.methodLink RX6 76 yX5_hasTrack ∈ wsL_law := mw_in8 (List.mem_of_getElem? (i := 22) rfl)
theorem mw_8_23 : Cond.instanceMethod yX5_hasTrack ∈ wsL_law := mw_in8 (List.mem_of_getElem? (i := 23) rfl)
theorem mw_8_3 : Cond.static yX6_leastOf ∈ wsL_law := mw_in8 (List.mem_of_getElem? (i := 3) rfl)
theorem mw_8_4 : Cond.code yX6_leastOf cX6_leastOf 1 (some .int) ∈ wsL_law := mw_in8 (List.mem_of_getElem? (i := 4) rfl)
theorem mw_8_5 : Cond.methodLink RX6 69 yX6_greatestOf ∈ wsL_law := mw_in8 (List.mem_of_getElem? (i := 5) rfl)
theorem mw_8_6 : Cond.static yX6_greatestOf ∈ wsL_law := mw_in8 (List.mem_of_getElem? (i := 6) rfl)
theorem mw_8_7 : Cond.code yX6_greatestOf cX6_greatestOf 1 (some .int) ∈ wsL_law := mw_in8 (List.mem_of_getElem? (i := 7) rfl)
theorem mw_8_8 : Cond.methodLink RL 21 yX7_set ∈ wsL_law := mw_in8 (List.mem_of_getElem? (i := 8) rfl)
theorem mw_8_9 : Cond.instanceMethod yX7_set ∈ wsL_law := mw_in8 (List.mem_of_getElem? (i := 9) rfl)
theorem mw_9_0 : Cond.selects RX5 yX5_hasTrack yX5_hasTrack ∈ wsL_law := mw_in9 (List.mem_of_getElem? (i := 0) rfl)
theorem mw_9_1 : Cond.code yX5_hasTrack cX5_hasTrack 2 (some .boolean) ∈ wsL_law := mw_in9 (List.mem_of_getElem? (i := 1) rfl)
theorem mw_9_10 : Cond.selects RX4 yX4_foundFault yX4_foundFault ∈ wsL_law := mw_in9 (List.mem_of_getElem? (i := 10) rfl)
theorem mw_9_11 : Cond.code yX4_foundFault cX4_foundFault 3 (some .boolean) ∈ wsL_law := mw_in9 (List.mem_of_getElem? (i := 11) rfl)
theorem mw_9_12 : Cond.static yX6_wagonOf ∈ wsL_law := mw_in9 (List.mem_of_getElem? (i := 12) rfl)
theorem mw_9_13 : Cond.code yX6_wagonOf cX6_wagonOf 3 (some .int) ∈ wsL_law := mw_in9 (List.mem_of_getElem? (i := 13) rfl)
theorem mw_9_14 : Cond.methodLink RX4 43 yX4_fillLatest ∈ wsL_law := mw_in9 (List.mem_of_getElem? (i := 14) rfl)
theorem mw_9_15 : Cond.instanceMethod yX4_fillLatest ∈ wsL_law := mw_in9 (List.mem_of_getElem? (i := 15) rfl)
theorem mw_9_16 : Cond.selects RX4 yX4_fillLatest yX4_fillLatest ∈ wsL_law := mw_in9 (List.mem_of_getElem? (i := 16) rfl)
theorem mw_9_17 : Cond.code yX4_fillLatest cX4_fillLatest 4 none ∈ wsL_law := mw_in9 (List.mem_of_getElem? (i := 17) rfl)
theorem mw_9_18 : Cond.methodLink RX6 83 yX5_isSafeWith ∈ wsL_law := mw_in9 (List.mem_of_getElem? (i := 18) rfl)
theorem mw_9_19 : Cond.instanceMethod yX5_isSafeWith ∈ wsL_law := mw_in9 (List.mem_of_getElem? (i := 19) rfl)
theorem mw_9_2 : Cond.methodLink RX6 79 yX4_readWagons ∈ wsL_law := mw_in9 (List.mem_of_getElem? (i := 2) rfl)
theorem mw_9_20 : Cond.selects RX5 yX5_isSafeWith yX5_isSafeWith ∈ wsL_law := mw_in9 (List.mem_of_getElem? (i := 20) rfl)
theorem mw_9_21 : Cond.code yX5_isSafeWith cX5_isSafeWith 4 (some .boolean) ∈ wsL_law := mw_in9 (List.mem_of_getElem? (i := 21) rfl)
theorem mw_9_22 : Cond.fieldLink RX5 86 "ShuntYard$Text" "found" "I" ∈ wsL_law := mw_in9 (List.mem_of_getElem? (i := 22) rfl)
theorem mw_9_23 : Cond.fieldLink RX5 91 "ShuntYard$Text" "read" "[I" ∈ wsL_law := mw_in9 (List.mem_of_getElem? (i := 23) rfl)
theorem mw_9_3 : Cond.instanceMethod yX4_readWagons ∈ wsL_law := mw_in9 (List.mem_of_getElem? (i := 3) rfl)
theorem mw_9_4 : Cond.selects RX4 yX4_readWagons yX4_readWagons ∈ wsL_law := mw_in9 (List.mem_of_getElem? (i := 4) rfl)
theorem mw_9_5 : Cond.code yX4_readWagons cX4_readWagons 6 (some .boolean) ∈ wsL_law := mw_in9 (List.mem_of_getElem? (i := 5) rfl)
theorem mw_9_6 : Cond.fieldLink RX4 28 "ShuntYard$Text" "found" "I" ∈ wsL_law := mw_in9 (List.mem_of_getElem? (i := 6) rfl)
theorem mw_9_7 : Cond.fieldLink RX4 25 "ShuntYard$Text" "length" "I" ∈ wsL_law := mw_in9 (List.mem_of_getElem? (i := 7) rfl)
theorem mw_9_8 : Cond.methodLink RX4 35 yX4_foundFault ∈ wsL_law := mw_in9 (List.mem_of_getElem? (i := 8) rfl)
theorem mw_9_9 : Cond.instanceMethod yX4_foundFault ∈ wsL_law := mw_in9 (List.mem_of_getElem? (i := 9) rfl)
theorem cd_J7_fill_53178 : yJ7_fill_53178.cls ≠ "java/lang/invoke/MethodHandle" ∧ yJ7_fill_53178.cls ≠ "java/lang/invoke/VarHandle" ∧ (parseMethodDescriptor yJ7_fill_53178.desc).map (fun d => d.parameters.length) = some 2 := by decide +kernel
theorem cd_X0_init : yX0_init.cls ≠ "java/lang/invoke/MethodHandle" ∧ yX0_init.cls ≠ "java/lang/invoke/VarHandle" ∧ (parseMethodDescriptor yX0_init.desc).map (fun d => d.parameters.length) = some 0 := by decide +kernel
theorem cd_X0_pass : yX0_pass.cls = RX0 ∧ yX0_pass.cls ≠ "java/lang/invoke/MethodHandle" ∧ yX0_pass.cls ≠ "java/lang/invoke/VarHandle" ∧ (parseMethodDescriptor yX0_pass.desc).map (fun d => d.parameters.length) = some 1 := by decide +kernel
theorem cd_X0_start : yX0_start.cls = RX0 ∧ yX0_start.cls ≠ "java/lang/invoke/MethodHandle" ∧ yX0_start.cls ≠ "java/lang/invoke/VarHandle" ∧ (parseMethodDescriptor yX0_start.desc).map (fun d => d.parameters.length) = some 0 := by decide +kernel
theorem cd_X1_add : yX1_add.cls = RX1 ∧ yX1_add.cls ≠ "java/lang/invoke/MethodHandle" ∧ yX1_add.cls ≠ "java/lang/invoke/VarHandle" ∧ (parseMethodDescriptor yX1_add.desc).map (fun d => d.parameters.length) = some 1 := by decide +kernel
theorem cd_X1_init : yX1_init.cls ≠ "java/lang/invoke/MethodHandle" ∧ yX1_init.cls ≠ "java/lang/invoke/VarHandle" ∧ (parseMethodDescriptor yX1_init.desc).map (fun d => d.parameters.length) = some 0 := by decide +kernel
theorem cd_X1_restore : yX1_restore.cls = RX1 ∧ yX1_restore.cls ≠ "java/lang/invoke/MethodHandle" ∧ yX1_restore.cls ≠ "java/lang/invoke/VarHandle" ∧ (parseMethodDescriptor yX1_restore.desc).map (fun d => d.parameters.length) = some 1 := by decide +kernel
theorem cd_X2_addLast : yX2_addLast.cls = RX2 ∧ yX2_addLast.cls ≠ "java/lang/invoke/MethodHandle" ∧ yX2_addLast.cls ≠ "java/lang/invoke/VarHandle" ∧ (parseMethodDescriptor yX2_addLast.desc).map (fun d => d.parameters.length) = some 4 := by decide +kernel
theorem cd_X2_clear : yX2_clear.cls = RX2 ∧ yX2_clear.cls ≠ "java/lang/invoke/MethodHandle" ∧ yX2_clear.cls ≠ "java/lang/invoke/VarHandle" ∧ (parseMethodDescriptor yX2_clear.desc).map (fun d => d.parameters.length) = some 0 := by decide +kernel
theorem cd_X2_copyFrom : yX2_copyFrom.cls = RX2 ∧ yX2_copyFrom.cls ≠ "java/lang/invoke/MethodHandle" ∧ yX2_copyFrom.cls ≠ "java/lang/invoke/VarHandle" ∧ (parseMethodDescriptor yX2_copyFrom.desc).map (fun d => d.parameters.length) = some 1 := by decide +kernel
theorem cd_X2_dropLast : yX2_dropLast.cls = RX2 ∧ yX2_dropLast.cls ≠ "java/lang/invoke/MethodHandle" ∧ yX2_dropLast.cls ≠ "java/lang/invoke/VarHandle" ∧ (parseMethodDescriptor yX2_dropLast.desc).map (fun d => d.parameters.length) = some 1 := by decide +kernel
theorem cd_X2_init : yX2_init.cls ≠ "java/lang/invoke/MethodHandle" ∧ yX2_init.cls ≠ "java/lang/invoke/VarHandle" ∧ (parseMethodDescriptor yX2_init.desc).map (fun d => d.parameters.length) = some 0 := by decide +kernel
theorem cd_X2_isCheaperThan : yX2_isCheaperThan.cls = RX2 ∧ yX2_isCheaperThan.cls ≠ "java/lang/invoke/MethodHandle" ∧ yX2_isCheaperThan.cls ≠ "java/lang/invoke/VarHandle" ∧ (parseMethodDescriptor yX2_isCheaperThan.desc).map (fun d => d.parameters.length) = some 1 := by decide +kernel
theorem cd_X3_countWanted : yX3_countWanted.cls = RX3 ∧ yX3_countWanted.cls ≠ "java/lang/invoke/MethodHandle" ∧ yX3_countWanted.cls ≠ "java/lang/invoke/VarHandle" ∧ (parseMethodDescriptor yX3_countWanted.desc).map (fun d => d.parameters.length) = some 1 := by decide +kernel
theorem cd_X3_init : yX3_init.cls ≠ "java/lang/invoke/MethodHandle" ∧ yX3_init.cls ≠ "java/lang/invoke/VarHandle" ∧ (parseMethodDescriptor yX3_init.desc).map (fun d => d.parameters.length) = some 0 := by decide +kernel
theorem cd_X3_isTooDear : yX3_isTooDear.cls = RX3 ∧ yX3_isTooDear.cls ≠ "java/lang/invoke/MethodHandle" ∧ yX3_isTooDear.cls ≠ "java/lang/invoke/VarHandle" ∧ (parseMethodDescriptor yX3_isTooDear.desc).map (fun d => d.parameters.length) = some 1 := by decide +kernel
theorem cd_X3_keepIfCheaper : yX3_keepIfCheaper.cls = RX3 ∧ yX3_keepIfCheaper.cls ≠ "java/lang/invoke/MethodHandle" ∧ yX3_keepIfCheaper.cls ≠ "java/lang/invoke/VarHandle" ∧ (parseMethodDescriptor yX3_keepIfCheaper.desc).map (fun d => d.parameters.length) = some 0 := by decide +kernel
theorem cd_X3_movesNeeded : yX3_movesNeeded.cls = RX3 ∧ yX3_movesNeeded.cls ≠ "java/lang/invoke/MethodHandle" ∧ yX3_movesNeeded.cls ≠ "java/lang/invoke/VarHandle" ∧ (parseMethodDescriptor yX3_movesNeeded.desc).map (fun d => d.parameters.length) = some 0 := by decide +kernel
theorem cd_X3_movesNeededFor : yX3_movesNeededFor.cls = RX3 ∧ yX3_movesNeededFor.cls ≠ "java/lang/invoke/MethodHandle" ∧ yX3_movesNeededFor.cls ≠ "java/lang/invoke/VarHandle" ∧ (parseMethodDescriptor yX3_movesNeededFor.desc).map (fun d => d.parameters.length) = some 1 := by decide +kernel
theorem cd_X3_seek : yX3_seek.cls = RX3 ∧ yX3_seek.cls ≠ "java/lang/invoke/MethodHandle" ∧ yX3_seek.cls ≠ "java/lang/invoke/VarHandle" ∧ (parseMethodDescriptor yX3_seek.desc).map (fun d => d.parameters.length) = some 1 := by decide +kernel
theorem cd_X3_seekBehindMove : yX3_seekBehindMove.cls = RX3 ∧ yX3_seekBehindMove.cls ≠ "java/lang/invoke/MethodHandle" ∧ yX3_seekBehindMove.cls ≠ "java/lang/invoke/VarHandle" ∧ (parseMethodDescriptor yX3_seekBehindMove.desc).map (fun d => d.parameters.length) = some 5 := by decide +kernel
theorem cd_X3_succeeds : yX3_succeeds.cls = RX3 ∧ yX3_succeeds.cls ≠ "java/lang/invoke/MethodHandle" ∧ yX3_succeeds.cls ≠ "java/lang/invoke/VarHandle" ∧ (parseMethodDescriptor yX3_succeeds.desc).map (fun d => d.parameters.length) = some 2 := by decide +kernel
theorem cd_X4_append : yX4_append.cls = RX4 ∧ yX4_append.cls ≠ "java/lang/invoke/MethodHandle" ∧ yX4_append.cls ≠ "java/lang/invoke/VarHandle" ∧ (parseMethodDescriptor yX4_append.desc).map (fun d => d.parameters.length) = some 1 := by decide +kernel
theorem cd_X4_fillLatest : yX4_fillLatest.cls = RX4 ∧ yX4_fillLatest.cls ≠ "java/lang/invoke/MethodHandle" ∧ yX4_fillLatest.cls ≠ "java/lang/invoke/VarHandle" ∧ (parseMethodDescriptor yX4_fillLatest.desc).map (fun d => d.parameters.length) = some 2 := by decide +kernel
theorem cd_X4_foundFault : yX4_foundFault.cls = RX4 ∧ yX4_foundFault.cls ≠ "java/lang/invoke/MethodHandle" ∧ yX4_foundFault.cls ≠ "java/lang/invoke/VarHandle" ∧ (parseMethodDescriptor yX4_foundFault.desc).map (fun d => d.parameters.length) = some 2 := by decide +kernel
theorem cd_X4_init : yX4_init.cls ≠ "java/lang/invoke/MethodHandle" ∧ yX4_init.cls ≠ "java/lang/invoke/VarHandle" ∧ (parseMethodDescriptor yX4_init.desc).map (fun d => d.parameters.length) = some 0 := by decide +kernel
theorem cd_X4_readTrains : yX4_readTrains.cls = RX4 ∧ yX4_readTrains.cls ≠ "java/lang/invoke/MethodHandle" ∧ yX4_readTrains.cls ≠ "java/lang/invoke/VarHandle" ∧ (parseMethodDescriptor yX4_readTrains.desc).map (fun d => d.parameters.length) = some 0 := by decide +kernel
theorem cd_X4_readWagons : yX4_readWagons.cls = RX4 ∧ yX4_readWagons.cls ≠ "java/lang/invoke/MethodHandle" ∧ yX4_readWagons.cls ≠ "java/lang/invoke/VarHandle" ∧ (parseMethodDescriptor yX4_readWagons.desc).map (fun d => d.parameters.length) = some 0 := by decide +kernel
theorem cd_X5_copyFrom : yX5_copyFrom.cls = RX5 ∧ yX5_copyFrom.cls ≠ "java/lang/invoke/MethodHandle" ∧ yX5_copyFrom.cls ≠ "java/lang/invoke/VarHandle" ∧ (parseMethodDescriptor yX5_copyFrom.desc).map (fun d => d.parameters.length) = some 1 := by decide +kernel
theorem cd_X5_costOrCode : yX5_costOrCode.cls = RX5 ∧ yX5_costOrCode.cls ≠ "java/lang/invoke/MethodHandle" ∧ yX5_costOrCode.cls ≠ "java/lang/invoke/VarHandle" ∧ (parseMethodDescriptor yX5_costOrCode.desc).map (fun d => d.parameters.length) = some 3 := by decide +kernel
theorem cd_X5_drive : yX5_drive.cls = RX5 ∧ yX5_drive.cls ≠ "java/lang/invoke/MethodHandle" ∧ yX5_drive.cls ≠ "java/lang/invoke/VarHandle" ∧ (parseMethodDescriptor yX5_drive.desc).map (fun d => d.parameters.length) = some 3 := by decide +kernel
theorem cd_X5_forFirstInYard : yX5_forFirstInYard.cls = RX5 ∧ yX5_forFirstInYard.cls ≠ "java/lang/invoke/MethodHandle" ∧ yX5_forFirstInYard.cls ≠ "java/lang/invoke/VarHandle" ∧ (parseMethodDescriptor yX5_forFirstInYard.desc).map (fun d => d.parameters.length) = some 0 := by decide +kernel
theorem cd_X5_forFirstOn : yX5_forFirstOn.cls = RX5 ∧ yX5_forFirstOn.cls ≠ "java/lang/invoke/MethodHandle" ∧ yX5_forFirstOn.cls ≠ "java/lang/invoke/VarHandle" ∧ (parseMethodDescriptor yX5_forFirstOn.desc).map (fun d => d.parameters.length) = some 1 := by decide +kernel
theorem cd_X5_hasTrack : yX5_hasTrack.cls = RX5 ∧ yX5_hasTrack.cls ≠ "java/lang/invoke/MethodHandle" ∧ yX5_hasTrack.cls ≠ "java/lang/invoke/VarHandle" ∧ (parseMethodDescriptor yX5_hasTrack.desc).map (fun d => d.parameters.length) = some 1 := by decide +kernel
theorem cd_X5_init : yX5_init.cls ≠ "java/lang/invoke/MethodHandle" ∧ yX5_init.cls ≠ "java/lang/invoke/VarHandle" ∧ (parseMethodDescriptor yX5_init.desc).map (fun d => d.parameters.length) = some 0 := by decide +kernel
theorem cd_X5_isForFirst : yX5_isForFirst.cls = RX5 ∧ yX5_isForFirst.cls ≠ "java/lang/invoke/MethodHandle" ∧ yX5_isForFirst.cls ≠ "java/lang/invoke/VarHandle" ∧ (parseMethodDescriptor yX5_isForFirst.desc).map (fun d => d.parameters.length) = some 2 := by decide +kernel
theorem cd_X5_isSafe : yX5_isSafe.cls = RX5 ∧ yX5_isSafe.cls ≠ "java/lang/invoke/MethodHandle" ∧ yX5_isSafe.cls ≠ "java/lang/invoke/VarHandle" ∧ (parseMethodDescriptor yX5_isSafe.desc).map (fun d => d.parameters.length) = some 1 := by decide +kernel
theorem cd_X5_isSafeBehindMove : yX5_isSafeBehindMove.cls = RX5 ∧ yX5_isSafeBehindMove.cls ≠ "java/lang/invoke/MethodHandle" ∧ yX5_isSafeBehindMove.cls ≠ "java/lang/invoke/VarHandle" ∧ (parseMethodDescriptor yX5_isSafeBehindMove.desc).map (fun d => d.parameters.length) = some 3 := by decide +kernel
theorem cd_X5_isSafeWith : yX5_isSafeWith.cls = RX5 ∧ yX5_isSafeWith.cls ≠ "java/lang/invoke/MethodHandle" ∧ yX5_isSafeWith.cls ≠ "java/lang/invoke/VarHandle" ∧ (parseMethodDescriptor yX5_isSafeWith.desc).map (fun d => d.parameters.length) = some 2 := by decide +kernel
theorem cd_X5_leastGap : yX5_leastGap.cls = RX5 ∧ yX5_leastGap.cls ≠ "java/lang/invoke/MethodHandle" ∧ yX5_leastGap.cls ≠ "java/lang/invoke/VarHandle" ∧ (parseMethodDescriptor yX5_leastGap.desc).map (fun d => d.parameters.length) = some 1 := by decide +kernel
theorem cd_X5_madeUpTrack : yX5_madeUpTrack.cls = RX5 ∧ yX5_madeUpTrack.cls ≠ "java/lang/invoke/MethodHandle" ∧ yX5_madeUpTrack.cls ≠ "java/lang/invoke/VarHandle" ∧ (parseMethodDescriptor yX5_madeUpTrack.desc).map (fun d => d.parameters.length) = some 0 := by decide +kernel
theorem cd_X5_minutesOf : yX5_minutesOf.cls = RX5 ∧ yX5_minutesOf.cls ≠ "java/lang/invoke/MethodHandle" ∧ yX5_minutesOf.cls ≠ "java/lang/invoke/VarHandle" ∧ (parseMethodDescriptor yX5_minutesOf.desc).map (fun d => d.parameters.length) = some 3 := by decide +kernel
theorem cd_X5_passPart : yX5_passPart.cls = RX5 ∧ yX5_passPart.cls ≠ "java/lang/invoke/MethodHandle" ∧ yX5_passPart.cls ≠ "java/lang/invoke/VarHandle" ∧ (parseMethodDescriptor yX5_passPart.desc).map (fun d => d.parameters.length) = some 3 := by decide +kernel
theorem cd_X5_refusal : yX5_refusal.cls = RX5 ∧ yX5_refusal.cls ≠ "java/lang/invoke/MethodHandle" ∧ yX5_refusal.cls ≠ "java/lang/invoke/VarHandle" ∧ (parseMethodDescriptor yX5_refusal.desc).map (fun d => d.parameters.length) = some 1 := by decide +kernel
theorem cd_X5_restart : yX5_restart.cls = RX5 ∧ yX5_restart.cls ≠ "java/lang/invoke/MethodHandle" ∧ yX5_restart.cls ≠ "java/lang/invoke/VarHandle" ∧ (parseMethodDescriptor yX5_restart.desc).map (fun d => d.parameters.length) = some 2 := by decide +kernel
theorem cd_X5_sendOff : yX5_sendOff.cls = RX5 ∧ yX5_sendOff.cls ≠ "java/lang/invoke/MethodHandle" ∧ yX5_sendOff.cls ≠ "java/lang/invoke/VarHandle" ∧ (parseMethodDescriptor yX5_sendOff.desc).map (fun d => d.parameters.length) = some 1 := by decide +kernel
theorem cd_X5_shift : yX5_shift.cls = RX5 ∧ yX5_shift.cls ≠ "java/lang/invoke/MethodHandle" ∧ yX5_shift.cls ≠ "java/lang/invoke/VarHandle" ∧ (parseMethodDescriptor yX5_shift.desc).map (fun d => d.parameters.length) = some 3 := by decide +kernel
theorem cd_X5_spotOf : yX5_spotOf.cls = RX5 ∧ yX5_spotOf.cls ≠ "java/lang/invoke/MethodHandle" ∧ yX5_spotOf.cls ≠ "java/lang/invoke/VarHandle" ∧ (parseMethodDescriptor yX5_spotOf.desc).map (fun d => d.parameters.length) = some 1 := by decide +kernel
theorem cd_X5_takeIn : yX5_takeIn.cls = RX5 ∧ yX5_takeIn.cls ≠ "java/lang/invoke/MethodHandle" ∧ yX5_takeIn.cls ≠ "java/lang/invoke/VarHandle" ∧ (parseMethodDescriptor yX5_takeIn.desc).map (fun d => d.parameters.length) = some 2 := by decide +kernel
theorem cd_X5_takeTrains : yX5_takeTrains.cls = RX5 ∧ yX5_takeTrains.cls ≠ "java/lang/invoke/MethodHandle" ∧ yX5_takeTrains.cls ≠ "java/lang/invoke/VarHandle" ∧ (parseMethodDescriptor yX5_takeTrains.desc).map (fun d => d.parameters.length) = some 1 := by decide +kernel
theorem cd_X5_testBrakes : yX5_testBrakes.cls = RX5 ∧ yX5_testBrakes.cls ≠ "java/lang/invoke/MethodHandle" ∧ yX5_testBrakes.cls ≠ "java/lang/invoke/VarHandle" ∧ (parseMethodDescriptor yX5_testBrakes.desc).map (fun d => d.parameters.length) = some 1 := by decide +kernel
theorem cd_X5_testHoldsFor : yX5_testHoldsFor.cls = RX5 ∧ yX5_testHoldsFor.cls ≠ "java/lang/invoke/MethodHandle" ∧ yX5_testHoldsFor.cls ≠ "java/lang/invoke/VarHandle" ∧ (parseMethodDescriptor yX5_testHoldsFor.desc).map (fun d => d.parameters.length) = some 1 := by decide +kernel
theorem cd_X5_unsafeTracks : yX5_unsafeTracks.cls = RX5 ∧ yX5_unsafeTracks.cls ≠ "java/lang/invoke/MethodHandle" ∧ yX5_unsafeTracks.cls ≠ "java/lang/invoke/VarHandle" ∧ (parseMethodDescriptor yX5_unsafeTracks.desc).map (fun d => d.parameters.length) = some 0 := by decide +kernel
theorem cd_X5_wagonAt : yX5_wagonAt.cls = RX5 ∧ yX5_wagonAt.cls ≠ "java/lang/invoke/MethodHandle" ∧ yX5_wagonAt.cls ≠ "java/lang/invoke/VarHandle" ∧ (parseMethodDescriptor yX5_wagonAt.desc).map (fun d => d.parameters.length) = some 2 := by decide +kernel
theorem cd_X5_wagonsInYard : yX5_wagonsInYard.cls = RX5 ∧ yX5_wagonsInYard.cls ≠ "java/lang/invoke/MethodHandle" ∧ yX5_wagonsInYard.cls ≠ "java/lang/invoke/VarHandle" ∧ (parseMethodDescriptor yX5_wagonsInYard.desc).map (fun d => d.parameters.length) = some 0 := by decide +kernel
theorem cd_X6_arrive : yX6_arrive.cls = RX6 ∧ yX6_arrive.cls ≠ "java/lang/invoke/MethodHandle" ∧ yX6_arrive.cls ≠ "java/lang/invoke/VarHandle" ∧ (parseMethodDescriptor yX6_arrive.desc).map (fun d => d.parameters.length) = some 1 := by decide +kernel
theorem cd_X6_back : yX6_back.cls = RX6 ∧ yX6_back.cls ≠ "java/lang/invoke/MethodHandle" ∧ yX6_back.cls ≠ "java/lang/invoke/VarHandle" ∧ (parseMethodDescriptor yX6_back.desc).map (fun d => d.parameters.length) = some 1 := by decide +kernel
theorem cd_X6_begin : yX6_begin.cls = RX6 ∧ yX6_begin.cls ≠ "java/lang/invoke/MethodHandle" ∧ yX6_begin.cls ≠ "java/lang/invoke/VarHandle" ∧ (parseMethodDescriptor yX6_begin.desc).map (fun d => d.parameters.length) = some 2 := by decide +kernel
theorem cd_X6_cheapest : yX6_cheapest.cls = RX6 ∧ yX6_cheapest.cls ≠ "java/lang/invoke/MethodHandle" ∧ yX6_cheapest.cls ≠ "java/lang/invoke/VarHandle" ∧ (parseMethodDescriptor yX6_cheapest.desc).map (fun d => d.parameters.length) = some 2 := by decide +kernel
theorem cd_X6_cost : yX6_cost.cls = RX6 ∧ yX6_cost.cls ≠ "java/lang/invoke/MethodHandle" ∧ yX6_cost.cls ≠ "java/lang/invoke/VarHandle" ∧ (parseMethodDescriptor yX6_cost.desc).map (fun d => d.parameters.length) = some 3 := by decide +kernel
theorem cd_X6_depart : yX6_depart.cls = RX6 ∧ yX6_depart.cls ≠ "java/lang/invoke/MethodHandle" ∧ yX6_depart.cls ≠ "java/lang/invoke/VarHandle" ∧ (parseMethodDescriptor yX6_depart.desc).map (fun d => d.parameters.length) = some 1 := by decide +kernel
theorem cd_X6_destinationOf : yX6_destinationOf.cls ≠ "java/lang/invoke/MethodHandle" ∧ yX6_destinationOf.cls ≠ "java/lang/invoke/VarHandle" ∧ (parseMethodDescriptor yX6_destinationOf.desc).map (fun d => d.parameters.length) = some 1 := by decide +kernel
theorem cd_X6_fault : yX6_fault.cls = RX6 ∧ yX6_fault.cls ≠ "java/lang/invoke/MethodHandle" ∧ yX6_fault.cls ≠ "java/lang/invoke/VarHandle" ∧ (parseMethodDescriptor yX6_fault.desc).map (fun d => d.parameters.length) = some 1 := by decide +kernel
theorem cd_X6_find : yX6_find.cls = RX6 ∧ yX6_find.cls ≠ "java/lang/invoke/MethodHandle" ∧ yX6_find.cls ≠ "java/lang/invoke/VarHandle" ∧ (parseMethodDescriptor yX6_find.desc).map (fun d => d.parameters.length) = some 2 := by decide +kernel
theorem cd_X6_greatestOf : yX6_greatestOf.cls ≠ "java/lang/invoke/MethodHandle" ∧ yX6_greatestOf.cls ≠ "java/lang/invoke/VarHandle" ∧ (parseMethodDescriptor yX6_greatestOf.desc).map (fun d => d.parameters.length) = some 1 := by decide +kernel
theorem cd_X6_init : yX6_init.cls ≠ "java/lang/invoke/MethodHandle" ∧ yX6_init.cls ≠ "java/lang/invoke/VarHandle" ∧ (parseMethodDescriptor yX6_init.desc).map (fun d => d.parameters.length) = some 0 := by decide +kernel
theorem cd_X6_isSetting : yX6_isSetting.cls ≠ "java/lang/invoke/MethodHandle" ∧ yX6_isSetting.cls ≠ "java/lang/invoke/VarHandle" ∧ (parseMethodDescriptor yX6_isSetting.desc).map (fun d => d.parameters.length) = some 1 := by decide +kernel
theorem cd_X6_keep : yX6_keep.cls = RX6 ∧ yX6_keep.cls ≠ "java/lang/invoke/MethodHandle" ∧ yX6_keep.cls ≠ "java/lang/invoke/VarHandle" ∧ (parseMethodDescriptor yX6_keep.desc).map (fun d => d.parameters.length) = some 1 := by decide +kernel
theorem cd_X6_kindOf : yX6_kindOf.cls ≠ "java/lang/invoke/MethodHandle" ∧ yX6_kindOf.cls ≠ "java/lang/invoke/VarHandle" ∧ (parseMethodDescriptor yX6_kindOf.desc).map (fun d => d.parameters.length) = some 1 := by decide +kernel
theorem cd_X6_leastOf : yX6_leastOf.cls ≠ "java/lang/invoke/MethodHandle" ∧ yX6_leastOf.cls ≠ "java/lang/invoke/VarHandle" ∧ (parseMethodDescriptor yX6_leastOf.desc).map (fun d => d.parameters.length) = some 1 := by decide +kernel
theorem cd_X6_list : yX6_list.cls = RX6 ∧ yX6_list.cls ≠ "java/lang/invoke/MethodHandle" ∧ yX6_list.cls ≠ "java/lang/invoke/VarHandle" ∧ (parseMethodDescriptor yX6_list.desc).map (fun d => d.parameters.length) = some 0 := by decide +kernel
theorem cd_X6_makeUp : yX6_makeUp.cls = RX6 ∧ yX6_makeUp.cls ≠ "java/lang/invoke/MethodHandle" ∧ yX6_makeUp.cls ≠ "java/lang/invoke/VarHandle" ∧ (parseMethodDescriptor yX6_makeUp.desc).map (fun d => d.parameters.length) = some 1 := by decide +kernel
theorem cd_X6_mean : yX6_mean.cls = RX6 ∧ yX6_mean.cls ≠ "java/lang/invoke/MethodHandle" ∧ yX6_mean.cls ≠ "java/lang/invoke/VarHandle" ∧ (parseMethodDescriptor yX6_mean.desc).map (fun d => d.parameters.length) = some 0 := by decide +kernel
theorem cd_X6_move : yX6_move.cls = RX6 ∧ yX6_move.cls ≠ "java/lang/invoke/MethodHandle" ∧ yX6_move.cls ≠ "java/lang/invoke/VarHandle" ∧ (parseMethodDescriptor yX6_move.desc).map (fun d => d.parameters.length) = some 3 := by decide +kernel
theorem cd_X6_numberOf : yX6_numberOf.cls ≠ "java/lang/invoke/MethodHandle" ∧ yX6_numberOf.cls ≠ "java/lang/invoke/VarHandle" ∧ (parseMethodDescriptor yX6_numberOf.desc).map (fun d => d.parameters.length) = some 1 := by decide +kernel
theorem cd_X6_pause : yX6_pause.cls = RX6 ∧ yX6_pause.cls ≠ "java/lang/invoke/MethodHandle" ∧ yX6_pause.cls ≠ "java/lang/invoke/VarHandle" ∧ (parseMethodDescriptor yX6_pause.desc).map (fun d => d.parameters.length) = some 1 := by decide +kernel
theorem cd_X6_set : yX6_set.cls = RX6 ∧ yX6_set.cls ≠ "java/lang/invoke/MethodHandle" ∧ yX6_set.cls ≠ "java/lang/invoke/VarHandle" ∧ (parseMethodDescriptor yX6_set.desc).map (fun d => d.parameters.length) = some 2 := by decide +kernel
theorem cd_X6_setting : yX6_setting.cls = RX6 ∧ yX6_setting.cls ≠ "java/lang/invoke/MethodHandle" ∧ yX6_setting.cls ≠ "java/lang/invoke/VarHandle" ∧ (parseMethodDescriptor yX6_setting.desc).map (fun d => d.parameters.length) = some 1 := by decide +kernel
theorem cd_X6_test : yX6_test.cls = RX6 ∧ yX6_test.cls ≠ "java/lang/invoke/MethodHandle" ∧ yX6_test.cls ≠ "java/lang/invoke/VarHandle" ∧ (parseMethodDescriptor yX6_test.desc).map (fun d => d.parameters.length) = some 1 := by decide +kernel
theorem cd_X6_told : yX6_told.cls = RX6 ∧ yX6_told.cls ≠ "java/lang/invoke/MethodHandle" ∧ yX6_told.cls ≠ "java/lang/invoke/VarHandle" ∧ (parseMethodDescriptor yX6_told.desc).map (fun d => d.parameters.length) = some 1 := by decide +kernel
theorem cd_X6_track : yX6_track.cls = RX6 ∧ yX6_track.cls ≠ "java/lang/invoke/MethodHandle" ∧ yX6_track.cls ≠ "java/lang/invoke/VarHandle" ∧ (parseMethodDescriptor yX6_track.desc).map (fun d => d.parameters.length) = some 2 := by decide +kernel
theorem cd_X6_train : yX6_train.cls = RX6 ∧ yX6_train.cls ≠ "java/lang/invoke/MethodHandle" ∧ yX6_train.cls ≠ "java/lang/invoke/VarHandle" ∧ (parseMethodDescriptor yX6_train.desc).map (fun d => d.parameters.length) = some 1 := by decide +kernel
theorem cd_X6_undo : yX6_undo.cls = RX6 ∧ yX6_undo.cls ≠ "java/lang/invoke/MethodHandle" ∧ yX6_undo.cls ≠ "java/lang/invoke/VarHandle" ∧ (parseMethodDescriptor yX6_undo.desc).map (fun d => d.parameters.length) = some 0 := by decide +kernel
theorem cd_X6_wagon : yX6_wagon.cls = RX6 ∧ yX6_wagon.cls ≠ "java/lang/invoke/MethodHandle" ∧ yX6_wagon.cls ≠ "java/lang/invoke/VarHandle" ∧ (parseMethodDescriptor yX6_wagon.desc).map (fun d => d.parameters.length) = some 3 := by decide +kernel
theorem cd_X6_wagonOf : yX6_wagonOf.cls ≠ "java/lang/invoke/MethodHandle" ∧ yX6_wagonOf.cls ≠ "java/lang/invoke/VarHandle" ∧ (parseMethodDescriptor yX6_wagonOf.desc).map (fun d => d.parameters.length) = some 3 := by decide +kernel
theorem cd_X6_wipe : yX6_wipe.cls = RX6 ∧ yX6_wipe.cls ≠ "java/lang/invoke/MethodHandle" ∧ yX6_wipe.cls ≠ "java/lang/invoke/VarHandle" ∧ (parseMethodDescriptor yX6_wipe.desc).map (fun d => d.parameters.length) = some 0 := by decide +kernel
theorem cd_X6_within : yX6_within.cls ≠ "java/lang/invoke/MethodHandle" ∧ yX6_within.cls ≠ "java/lang/invoke/VarHandle" ∧ (parseMethodDescriptor yX6_within.desc).map (fun d => d.parameters.length) = some 3 := by decide +kernel
theorem cd_X6_write : yX6_write.cls = RX6 ∧ yX6_write.cls ≠ "java/lang/invoke/MethodHandle" ∧ yX6_write.cls ≠ "java/lang/invoke/VarHandle" ∧ (parseMethodDescriptor yX6_write.desc).map (fun d => d.parameters.length) = some 1 := by decide +kernel
theorem cd_X7_appendKind : yX7_appendKind.cls = RX7 ∧ yX7_appendKind.cls ≠ "java/lang/invoke/MethodHandle" ∧ yX7_appendKind.cls ≠ "java/lang/invoke/VarHandle" ∧ (parseMethodDescriptor yX7_appendKind.desc).map (fun d => d.parameters.length) = some 1 := by decide +kernel
theorem cd_X7_areTracks : yX7_areTracks.cls = RX7 ∧ yX7_areTracks.cls ≠ "java/lang/invoke/MethodHandle" ∧ yX7_areTracks.cls ≠ "java/lang/invoke/VarHandle" ∧ (parseMethodDescriptor yX7_areTracks.desc).map (fun d => d.parameters.length) = some 3 := by decide +kernel
theorem cd_X7_arrive : yX7_arrive.cls = RX7 ∧ yX7_arrive.cls ≠ "java/lang/invoke/MethodHandle" ∧ yX7_arrive.cls ≠ "java/lang/invoke/VarHandle" ∧ (parseMethodDescriptor yX7_arrive.desc).map (fun d => d.parameters.length) = some 1 := by decide +kernel
theorem cd_X7_back : yX7_back.cls = RX7 ∧ yX7_back.cls ≠ "java/lang/invoke/MethodHandle" ∧ yX7_back.cls ≠ "java/lang/invoke/VarHandle" ∧ (parseMethodDescriptor yX7_back.desc).map (fun d => d.parameters.length) = some 1 := by decide +kernel
theorem cd_X7_begin : yX7_begin.cls = RX7 ∧ yX7_begin.cls ≠ "java/lang/invoke/MethodHandle" ∧ yX7_begin.cls ≠ "java/lang/invoke/VarHandle" ∧ (parseMethodDescriptor yX7_begin.desc).map (fun d => d.parameters.length) = some 2 := by decide +kernel
theorem cd_X7_beginRow : yX7_beginRow.cls = RX7 ∧ yX7_beginRow.cls ≠ "java/lang/invoke/MethodHandle" ∧ yX7_beginRow.cls ≠ "java/lang/invoke/VarHandle" ∧ (parseMethodDescriptor yX7_beginRow.desc).map (fun d => d.parameters.length) = some 2 := by decide +kernel
theorem cd_X7_bound : yX7_bound.cls = RX7 ∧ yX7_bound.cls ≠ "java/lang/invoke/MethodHandle" ∧ yX7_bound.cls ≠ "java/lang/invoke/VarHandle" ∧ (parseMethodDescriptor yX7_bound.desc).map (fun d => d.parameters.length) = some 2 := by decide +kernel
theorem cd_X7_carry : yX7_carry.cls = RX7 ∧ yX7_carry.cls ≠ "java/lang/invoke/MethodHandle" ∧ yX7_carry.cls ≠ "java/lang/invoke/VarHandle" ∧ (parseMethodDescriptor yX7_carry.desc).map (fun d => d.parameters.length) = some 4 := by decide +kernel
theorem cd_X7_cheapest : yX7_cheapest.cls = RX7 ∧ yX7_cheapest.cls ≠ "java/lang/invoke/MethodHandle" ∧ yX7_cheapest.cls ≠ "java/lang/invoke/VarHandle" ∧ (parseMethodDescriptor yX7_cheapest.desc).map (fun d => d.parameters.length) = some 2 := by decide +kernel
theorem cd_X7_cost : yX7_cost.cls = RX7 ∧ yX7_cost.cls ≠ "java/lang/invoke/MethodHandle" ∧ yX7_cost.cls ≠ "java/lang/invoke/VarHandle" ∧ (parseMethodDescriptor yX7_cost.desc).map (fun d => d.parameters.length) = some 3 := by decide +kernel
theorem cd_X7_costOf : yX7_costOf.cls = RX7 ∧ yX7_costOf.cls ≠ "java/lang/invoke/MethodHandle" ∧ yX7_costOf.cls ≠ "java/lang/invoke/VarHandle" ∧ (parseMethodDescriptor yX7_costOf.desc).map (fun d => d.parameters.length) = some 3 := by decide +kernel
theorem cd_X7_depart : yX7_depart.cls = RX7 ∧ yX7_depart.cls ≠ "java/lang/invoke/MethodHandle" ∧ yX7_depart.cls ≠ "java/lang/invoke/VarHandle" ∧ (parseMethodDescriptor yX7_depart.desc).map (fun d => d.parameters.length) = some 1 := by decide +kernel
theorem cd_X7_destination : yX7_destination.cls = RX7 ∧ yX7_destination.cls ≠ "java/lang/invoke/MethodHandle" ∧ yX7_destination.cls ≠ "java/lang/invoke/VarHandle" ∧ (parseMethodDescriptor yX7_destination.desc).map (fun d => d.parameters.length) = some 2 := by decide +kernel
theorem cd_X7_enter : yX7_enter.cls = RX7 ∧ yX7_enter.cls ≠ "java/lang/invoke/MethodHandle" ∧ yX7_enter.cls ≠ "java/lang/invoke/VarHandle" ∧ (parseMethodDescriptor yX7_enter.desc).map (fun d => d.parameters.length) = some 1 := by decide +kernel
theorem cd_X7_fails : yX7_fails.cls = RX7 ∧ yX7_fails.cls ≠ "java/lang/invoke/MethodHandle" ∧ yX7_fails.cls ≠ "java/lang/invoke/VarHandle" ∧ (parseMethodDescriptor yX7_fails.desc).map (fun d => d.parameters.length) = some 2 := by decide +kernel
theorem cd_X7_fault : yX7_fault.cls = RX7 ∧ yX7_fault.cls ≠ "java/lang/invoke/MethodHandle" ∧ yX7_fault.cls ≠ "java/lang/invoke/VarHandle" ∧ (parseMethodDescriptor yX7_fault.desc).map (fun d => d.parameters.length) = some 1 := by decide +kernel
theorem cd_X7_find : yX7_find.cls = RX7 ∧ yX7_find.cls ≠ "java/lang/invoke/MethodHandle" ∧ yX7_find.cls ≠ "java/lang/invoke/VarHandle" ∧ (parseMethodDescriptor yX7_find.desc).map (fun d => d.parameters.length) = some 2 := by decide +kernel
theorem cd_X7_hasFault : yX7_hasFault.cls = RX7 ∧ yX7_hasFault.cls ≠ "java/lang/invoke/MethodHandle" ∧ yX7_hasFault.cls ≠ "java/lang/invoke/VarHandle" ∧ (parseMethodDescriptor yX7_hasFault.desc).map (fun d => d.parameters.length) = some 0 := by decide +kernel
theorem cd_X7_hold : yX7_hold.cls = RX7 ∧ yX7_hold.cls ≠ "java/lang/invoke/MethodHandle" ∧ yX7_hold.cls ≠ "java/lang/invoke/VarHandle" ∧ (parseMethodDescriptor yX7_hold.desc).map (fun d => d.parameters.length) = some 1 := by decide +kernel
theorem cd_X7_init : yX7_init.cls ≠ "java/lang/invoke/MethodHandle" ∧ yX7_init.cls ≠ "java/lang/invoke/VarHandle" ∧ (parseMethodDescriptor yX7_init.desc).map (fun d => d.parameters.length) = some 0 := by decide +kernel
theorem cd_X7_isImage : yX7_isImage.cls ≠ "java/lang/invoke/MethodHandle" ∧ yX7_isImage.cls ≠ "java/lang/invoke/VarHandle" ∧ (parseMethodDescriptor yX7_isImage.desc).map (fun d => d.parameters.length) = some 1 := by decide +kernel
theorem cd_X7_isIn : yX7_isIn.cls ≠ "java/lang/invoke/MethodHandle" ∧ yX7_isIn.cls ≠ "java/lang/invoke/VarHandle" ∧ (parseMethodDescriptor yX7_isIn.desc).map (fun d => d.parameters.length) = some 3 := by decide +kernel
theorem cd_X7_isLetter : yX7_isLetter.cls ≠ "java/lang/invoke/MethodHandle" ∧ yX7_isLetter.cls ≠ "java/lang/invoke/VarHandle" ∧ (parseMethodDescriptor yX7_isLetter.desc).map (fun d => d.parameters.length) = some 1 := by decide +kernel
theorem cd_X7_isOf : yX7_isOf.cls ≠ "java/lang/invoke/MethodHandle" ∧ yX7_isOf.cls ≠ "java/lang/invoke/VarHandle" ∧ (parseMethodDescriptor yX7_isOf.desc).map (fun d => d.parameters.length) = some 2 := by decide +kernel
theorem cd_X7_isSafe : yX7_isSafe.cls = RX7 ∧ yX7_isSafe.cls ≠ "java/lang/invoke/MethodHandle" ∧ yX7_isSafe.cls ≠ "java/lang/invoke/VarHandle" ∧ (parseMethodDescriptor yX7_isSafe.desc).map (fun d => d.parameters.length) = some 1 := by decide +kernel
theorem cd_X7_isSafeRow : yX7_isSafeRow.cls = RX7 ∧ yX7_isSafeRow.cls ≠ "java/lang/invoke/MethodHandle" ∧ yX7_isSafeRow.cls ≠ "java/lang/invoke/VarHandle" ∧ (parseMethodDescriptor yX7_isSafeRow.desc).map (fun d => d.parameters.length) = some 0 := by decide +kernel
theorem cd_X7_isTrack : yX7_isTrack.cls = RX7 ∧ yX7_isTrack.cls ≠ "java/lang/invoke/MethodHandle" ∧ yX7_isTrack.cls ≠ "java/lang/invoke/VarHandle" ∧ (parseMethodDescriptor yX7_isTrack.desc).map (fun d => d.parameters.length) = some 1 := by decide +kernel
theorem cd_X7_isWorthIt : yX7_isWorthIt.cls = RX7 ∧ yX7_isWorthIt.cls ≠ "java/lang/invoke/MethodHandle" ∧ yX7_isWorthIt.cls ≠ "java/lang/invoke/VarHandle" ∧ (parseMethodDescriptor yX7_isWorthIt.desc).map (fun d => d.parameters.length) = some 1 := by decide +kernel
theorem cd_X7_keep : yX7_keep.cls = RX7 ∧ yX7_keep.cls ≠ "java/lang/invoke/MethodHandle" ∧ yX7_keep.cls ≠ "java/lang/invoke/VarHandle" ∧ (parseMethodDescriptor yX7_keep.desc).map (fun d => d.parameters.length) = some 1 := by decide +kernel
theorem cd_X7_kindAt : yX7_kindAt.cls = RX7 ∧ yX7_kindAt.cls ≠ "java/lang/invoke/MethodHandle" ∧ yX7_kindAt.cls ≠ "java/lang/invoke/VarHandle" ∧ (parseMethodDescriptor yX7_kindAt.desc).map (fun d => d.parameters.length) = some 2 := by decide +kernel
theorem cd_X7_leastGap : yX7_leastGap.cls = RX7 ∧ yX7_leastGap.cls ≠ "java/lang/invoke/MethodHandle" ∧ yX7_leastGap.cls ≠ "java/lang/invoke/VarHandle" ∧ (parseMethodDescriptor yX7_leastGap.desc).map (fun d => d.parameters.length) = some 0 := by decide +kernel
theorem cd_X7_list : yX7_list.cls = RX7 ∧ yX7_list.cls ≠ "java/lang/invoke/MethodHandle" ∧ yX7_list.cls ≠ "java/lang/invoke/VarHandle" ∧ (parseMethodDescriptor yX7_list.desc).map (fun d => d.parameters.length) = some 0 := by decide +kernel
theorem cd_X7_madeUp : yX7_madeUp.cls = RX7 ∧ yX7_madeUp.cls ≠ "java/lang/invoke/MethodHandle" ∧ yX7_madeUp.cls ≠ "java/lang/invoke/VarHandle" ∧ (parseMethodDescriptor yX7_madeUp.desc).map (fun d => d.parameters.length) = some 0 := by decide +kernel
theorem cd_X7_makeUp : yX7_makeUp.cls = RX7 ∧ yX7_makeUp.cls ≠ "java/lang/invoke/MethodHandle" ∧ yX7_makeUp.cls ≠ "java/lang/invoke/VarHandle" ∧ (parseMethodDescriptor yX7_makeUp.desc).map (fun d => d.parameters.length) = some 1 := by decide +kernel
theorem cd_X7_mean : yX7_mean.cls = RX7 ∧ yX7_mean.cls ≠ "java/lang/invoke/MethodHandle" ∧ yX7_mean.cls ≠ "java/lang/invoke/VarHandle" ∧ (parseMethodDescriptor yX7_mean.desc).map (fun d => d.parameters.length) = some 0 := by decide +kernel
theorem cd_X7_move : yX7_move.cls = RX7 ∧ yX7_move.cls ≠ "java/lang/invoke/MethodHandle" ∧ yX7_move.cls ≠ "java/lang/invoke/VarHandle" ∧ (parseMethodDescriptor yX7_move.desc).map (fun d => d.parameters.length) = some 3 := by decide +kernel
theorem cd_X7_next : yX7_next.cls = RX7 ∧ yX7_next.cls ≠ "java/lang/invoke/MethodHandle" ∧ yX7_next.cls ≠ "java/lang/invoke/VarHandle" ∧ (parseMethodDescriptor yX7_next.desc).map (fun d => d.parameters.length) = some 1 := by decide +kernel
theorem cd_X7_note : yX7_note.cls = RX7 ∧ yX7_note.cls ≠ "java/lang/invoke/MethodHandle" ∧ yX7_note.cls ≠ "java/lang/invoke/VarHandle" ∧ (parseMethodDescriptor yX7_note.desc).map (fun d => d.parameters.length) = some 2 := by decide +kernel
theorem cd_X7_of : yX7_of.cls = RX7 ∧ yX7_of.cls ≠ "java/lang/invoke/MethodHandle" ∧ yX7_of.cls ≠ "java/lang/invoke/VarHandle" ∧ (parseMethodDescriptor yX7_of.desc).map (fun d => d.parameters.length) = some 2 := by decide +kernel
theorem cd_X7_pause : yX7_pause.cls = RX7 ∧ yX7_pause.cls ≠ "java/lang/invoke/MethodHandle" ∧ yX7_pause.cls ≠ "java/lang/invoke/VarHandle" ∧ (parseMethodDescriptor yX7_pause.desc).map (fun d => d.parameters.length) = some 1 := by decide +kernel
theorem cd_X7_put : yX7_put.cls = RX7 ∧ yX7_put.cls ≠ "java/lang/invoke/MethodHandle" ∧ yX7_put.cls ≠ "java/lang/invoke/VarHandle" ∧ (parseMethodDescriptor yX7_put.desc).map (fun d => d.parameters.length) = some 3 := by decide +kernel
theorem cd_X7_readList : yX7_readList.cls = RX7 ∧ yX7_readList.cls ≠ "java/lang/invoke/MethodHandle" ∧ yX7_readList.cls ≠ "java/lang/invoke/VarHandle" ∧ (parseMethodDescriptor yX7_readList.desc).map (fun d => d.parameters.length) = some 0 := by decide +kernel
theorem cd_X7_readWagons : yX7_readWagons.cls = RX7 ∧ yX7_readWagons.cls ≠ "java/lang/invoke/MethodHandle" ∧ yX7_readWagons.cls ≠ "java/lang/invoke/VarHandle" ∧ (parseMethodDescriptor yX7_readWagons.desc).map (fun d => d.parameters.length) = some 0 := by decide +kernel
theorem cd_X7_reasonAgainst : yX7_reasonAgainst.cls = RX7 ∧ yX7_reasonAgainst.cls ≠ "java/lang/invoke/MethodHandle" ∧ yX7_reasonAgainst.cls ≠ "java/lang/invoke/VarHandle" ∧ (parseMethodDescriptor yX7_reasonAgainst.desc).map (fun d => d.parameters.length) = some 1 := by decide +kernel
theorem cd_X7_release : yX7_release.cls = RX7 ∧ yX7_release.cls ≠ "java/lang/invoke/MethodHandle" ∧ yX7_release.cls ≠ "java/lang/invoke/VarHandle" ∧ (parseMethodDescriptor yX7_release.desc).map (fun d => d.parameters.length) = some 1 := by decide +kernel
theorem cd_X7_remember : yX7_remember.cls = RX7 ∧ yX7_remember.cls ≠ "java/lang/invoke/MethodHandle" ∧ yX7_remember.cls ≠ "java/lang/invoke/VarHandle" ∧ (parseMethodDescriptor yX7_remember.desc).map (fun d => d.parameters.length) = some 0 := by decide +kernel
theorem cd_X7_search : yX7_search.cls = RX7 ∧ yX7_search.cls ≠ "java/lang/invoke/MethodHandle" ∧ yX7_search.cls ≠ "java/lang/invoke/VarHandle" ∧ (parseMethodDescriptor yX7_search.desc).map (fun d => d.parameters.length) = some 1 := by decide +kernel
theorem cd_X7_set : yX7_set.cls = RX7 ∧ yX7_set.cls ≠ "java/lang/invoke/MethodHandle" ∧ yX7_set.cls ≠ "java/lang/invoke/VarHandle" ∧ (parseMethodDescriptor yX7_set.desc).map (fun d => d.parameters.length) = some 2 := by decide +kernel
theorem cd_X7_setting : yX7_setting.cls = RX7 ∧ yX7_setting.cls ≠ "java/lang/invoke/MethodHandle" ∧ yX7_setting.cls ≠ "java/lang/invoke/VarHandle" ∧ (parseMethodDescriptor yX7_setting.desc).map (fun d => d.parameters.length) = some 1 := by decide +kernel
theorem cd_X7_spread : yX7_spread.cls = RX7 ∧ yX7_spread.cls ≠ "java/lang/invoke/MethodHandle" ∧ yX7_spread.cls ≠ "java/lang/invoke/VarHandle" ∧ (parseMethodDescriptor yX7_spread.desc).map (fun d => d.parameters.length) = some 0 := by decide +kernel
theorem cd_X7_stillHolds : yX7_stillHolds.cls = RX7 ∧ yX7_stillHolds.cls ≠ "java/lang/invoke/MethodHandle" ∧ yX7_stillHolds.cls ≠ "java/lang/invoke/VarHandle" ∧ (parseMethodDescriptor yX7_stillHolds.desc).map (fun d => d.parameters.length) = some 1 := by decide +kernel
theorem cd_X7_test : yX7_test.cls = RX7 ∧ yX7_test.cls ≠ "java/lang/invoke/MethodHandle" ∧ yX7_test.cls ≠ "java/lang/invoke/VarHandle" ∧ (parseMethodDescriptor yX7_test.desc).map (fun d => d.parameters.length) = some 1 := by decide +kernel
theorem cd_X7_told : yX7_told.cls = RX7 ∧ yX7_told.cls ≠ "java/lang/invoke/MethodHandle" ∧ yX7_told.cls ≠ "java/lang/invoke/VarHandle" ∧ (parseMethodDescriptor yX7_told.desc).map (fun d => d.parameters.length) = some 1 := by decide +kernel
theorem cd_X7_track : yX7_track.cls = RX7 ∧ yX7_track.cls ≠ "java/lang/invoke/MethodHandle" ∧ yX7_track.cls ≠ "java/lang/invoke/VarHandle" ∧ (parseMethodDescriptor yX7_track.desc).map (fun d => d.parameters.length) = some 2 := by decide +kernel
theorem cd_X7_train : yX7_train.cls = RX7 ∧ yX7_train.cls ≠ "java/lang/invoke/MethodHandle" ∧ yX7_train.cls ≠ "java/lang/invoke/VarHandle" ∧ (parseMethodDescriptor yX7_train.desc).map (fun d => d.parameters.length) = some 1 := by decide +kernel
theorem cd_X7_tryMove : yX7_tryMove.cls = RX7 ∧ yX7_tryMove.cls ≠ "java/lang/invoke/MethodHandle" ∧ yX7_tryMove.cls ≠ "java/lang/invoke/VarHandle" ∧ (parseMethodDescriptor yX7_tryMove.desc).map (fun d => d.parameters.length) = some 2 := by decide +kernel
theorem cd_X7_undo : yX7_undo.cls = RX7 ∧ yX7_undo.cls ≠ "java/lang/invoke/MethodHandle" ∧ yX7_undo.cls ≠ "java/lang/invoke/VarHandle" ∧ (parseMethodDescriptor yX7_undo.desc).map (fun d => d.parameters.length) = some 0 := by decide +kernel
theorem cd_X7_unsafeTracks : yX7_unsafeTracks.cls = RX7 ∧ yX7_unsafeTracks.cls ≠ "java/lang/invoke/MethodHandle" ∧ yX7_unsafeTracks.cls ≠ "java/lang/invoke/VarHandle" ∧ (parseMethodDescriptor yX7_unsafeTracks.desc).map (fun d => d.parameters.length) = some 0 := by decide +kernel
theorem cd_X7_wagon : yX7_wagon.cls = RX7 ∧ yX7_wagon.cls ≠ "java/lang/invoke/MethodHandle" ∧ yX7_wagon.cls ≠ "java/lang/invoke/VarHandle" ∧ (parseMethodDescriptor yX7_wagon.desc).map (fun d => d.parameters.length) = some 3 := by decide +kernel
theorem cd_X7_wagons : yX7_wagons.cls = RX7 ∧ yX7_wagons.cls ≠ "java/lang/invoke/MethodHandle" ∧ yX7_wagons.cls ≠ "java/lang/invoke/VarHandle" ∧ (parseMethodDescriptor yX7_wagons.desc).map (fun d => d.parameters.length) = some 0 := by decide +kernel
theorem cd_X7_wipe : yX7_wipe.cls = RX7 ∧ yX7_wipe.cls ≠ "java/lang/invoke/MethodHandle" ∧ yX7_wipe.cls ≠ "java/lang/invoke/VarHandle" ∧ (parseMethodDescriptor yX7_wipe.desc).map (fun d => d.parameters.length) = some 0 := by decide +kernel
theorem cd_X7_write : yX7_write.cls = RX7 ∧ yX7_write.cls ≠ "java/lang/invoke/MethodHandle" ∧ yX7_write.cls ≠ "java/lang/invoke/VarHandle" ∧ (parseMethodDescriptor yX7_write.desc).map (fun d => d.parameters.length) = some 1 := by decide +kernel
theorem gg_L_101 : GoodIn wsL_law (wsV RL 101 RX7 yX7_cost (.code yX7_cost cX7_cost 4 (some .int) :: wsL_law)) := zk_gV mw_30_13 mw_15_15 mw_15_16 mw_1_5 mw_15_17
theorem gg_L_102 : GoodIn wsL_law (wsV RL 102 RX6 yX6_cheapest (.code yX6_cheapest cX6_cheapest 4 (some .int) :: wsL_law)) := zk_gV mw_30_14 mw_30_15 mw_30_16 mw_1_2 mw_30_17
theorem gg_L_105 : GoodIn wsL_law (wsV RL 105 RX7 yX7_cheapest (.code yX7_cheapest cX7_cheapest 3 (some .int) :: wsL_law)) := zk_gV mw_30_19 mw_30_20 mw_30_21 mw_1_5 mw_30_22
theorem gg_L_106 : GoodIn wsL_law (wsV RL 106 RX6 yX6_keep (.code yX6_keep cX6_keep 2 (some .int) :: wsL_law)) := zk_gV mw_30_23 mw_31_0 mw_31_1 mw_1_2 mw_31_2
theorem gg_L_109 : GoodIn wsL_law (wsV RL 109 RX7 yX7_keep (.code yX7_keep cX7_keep 3 (some .int) :: wsL_law)) := zk_gV mw_31_4 mw_31_5 mw_31_6 mw_1_5 mw_31_7
theorem gg_L_110 : GoodIn wsL_law (wsV RL 110 RX6 yX6_back (.code yX6_back cX6_back 2 (some .int) :: wsL_law)) := zk_gV mw_31_12 mw_31_13 mw_31_14 mw_1_2 mw_31_15
theorem gg_L_113 : GoodIn wsL_law (wsV RL 113 RX7 yX7_back (.code yX7_back cX7_back 3 (some .int) :: wsL_law)) := zk_gV mw_31_16 mw_31_17 mw_31_18 mw_1_5 mw_31_19
theorem gg_L_13 : GoodIn wsL_law (wsV RL 13 RX6 yX6_begin (.code yX6_begin cX6_begin 4 (some .int) :: wsL_law)) := zk_gV mw_5_2 mw_5_3 mw_5_4 mw_1_2 mw_5_5
theorem gg_L_17 : GoodIn wsL_law (wsV RL 17 RX7 yX7_begin (.code yX7_begin cX7_begin 5 (some .int) :: wsL_law)) := zk_gV mw_6_22 mw_6_23 mw_7_0 mw_1_5 mw_7_1
theorem gg_L_18 : GoodIn wsL_law (wsV RL 18 RX6 yX6_set (.code yX6_set cX6_set 4 (some .int) :: wsL_law)) := zk_gV mw_7_18 mw_7_19 mw_7_20 mw_1_2 mw_7_21
theorem gg_L_21 : GoodIn wsL_law (wsV RL 21 RX7 yX7_set (.code yX7_set cX7_set 4 (some .int) :: wsL_law)) := zk_gV mw_8_8 mw_8_9 mw_8_10 mw_1_5 mw_8_11
theorem gg_L_22 : GoodIn wsL_law (wsV RL 22 RX6 yX6_arrive (.code yX6_arrive cX6_arrive 2 (some .int) :: wsL_law)) := zk_gV mw_8_15 mw_8_16 mw_8_17 mw_1_2 mw_8_18
theorem gg_L_26 : GoodIn wsL_law (wsV RL 26 RX7 yX7_arrive (.code yX7_arrive cX7_arrive 4 (some .int) :: wsL_law)) := zk_gV mw_11_5 mw_11_6 mw_11_7 mw_1_5 mw_11_8
theorem gg_L_27 : GoodIn wsL_law (wsV RL 27 RX6 yX6_list (.code yX6_list cX6_list 1 (some .int) :: wsL_law)) := zk_gV mw_13_9 mw_13_10 mw_13_11 mw_1_2 mw_13_12
theorem gg_L_31 : GoodIn wsL_law (wsV RL 31 RX7 yX7_list (.code yX7_list cX7_list 2 (some .int) :: wsL_law)) := zk_gV mw_13_22 mw_13_23 mw_14_0 mw_1_5 mw_14_1
theorem gg_L_32 : GoodIn wsL_law (wsV RL 32 RX6 yX6_move (.code yX6_move cX6_move 5 (some .int) :: wsL_law)) := zk_gV mw_14_6 mw_14_7 mw_14_8 mw_1_2 mw_14_9
theorem gg_L_36 : GoodIn wsL_law (wsV RL 36 RX7 yX7_move (.code yX7_move cX7_move 5 (some .int) :: wsL_law)) := zk_gV mw_15_10 mw_15_11 mw_15_12 mw_1_5 mw_15_13
theorem gg_L_37 : GoodIn wsL_law (wsV RL 37 RX6 yX6_test (.code yX6_test cX6_test 2 (some .int) :: wsL_law)) := zk_gV mw_16_6 mw_16_7 mw_16_8 mw_1_2 mw_16_9
theorem gg_L_40 : GoodIn wsL_law (wsV RL 40 RX7 yX7_test (.code yX7_test cX7_test 3 (some .int) :: wsL_law)) := zk_gV mw_16_14 mw_16_15 mw_16_16 mw_1_5 mw_16_17
theorem gg_L_41 : GoodIn wsL_law (wsV RL 41 RX6 yX6_pause (.code yX6_pause cX6_pause 2 (some .int) :: wsL_law)) := zk_gV mw_16_18 mw_16_19 mw_16_20 mw_1_2 mw_16_21
theorem gg_L_44 : GoodIn wsL_law (wsV RL 44 RX7 yX7_pause (.code yX7_pause cX7_pause 2 (some .int) :: wsL_law)) := zk_gV mw_16_23 mw_17_0 mw_17_1 mw_1_5 mw_17_2
theorem gg_L_45 : GoodIn wsL_law (wsV RL 45 RX6 yX6_depart (.code yX6_depart cX6_depart 3 (some .int) :: wsL_law)) := zk_gV mw_17_3 mw_17_4 mw_17_5 mw_1_2 mw_17_6
theorem gg_L_48 : GoodIn wsL_law (wsV RL 48 RX7 yX7_depart (.code yX7_depart cX7_depart 5 (some .int) :: wsL_law)) := zk_gV mw_18_14 mw_18_15 mw_18_16 mw_1_5 mw_18_17
theorem gg_L_49 : GoodIn wsL_law (wsV RL 49 RX6 yX6_makeUp (.code yX6_makeUp cX6_makeUp 5 (some .int) :: wsL_law)) := zk_gV mw_19_14 mw_19_15 mw_19_16 mw_1_2 mw_19_17
theorem gg_L_52 : GoodIn wsL_law (wsV RL 52 RX7 yX7_makeUp (.code yX7_makeUp cX7_makeUp 4 (some .int) :: wsL_law)) := zk_gV mw_22_23 mw_23_0 mw_23_1 mw_1_5 mw_23_2
theorem gg_L_53 : GoodIn wsL_law (wsV RL 53 RX6 yX6_undo (.code yX6_undo cX6_undo 1 (some .int) :: wsL_law)) := zk_gV mw_24_21 mw_24_22 mw_24_23 mw_1_2 mw_25_0
theorem gg_L_56 : GoodIn wsL_law (wsV RL 56 RX7 yX7_undo (.code yX7_undo cX7_undo 2 (some .int) :: wsL_law)) := zk_gV mw_25_6 mw_25_7 mw_25_8 mw_1_5 mw_25_9
theorem gg_L_57 : GoodIn wsL_law (wsV RL 57 RX6 yX6_write (.code yX6_write cX6_write 2 (some .int) :: wsL_law)) := zk_gV mw_25_10 mw_25_11 mw_25_12 mw_1_2 mw_25_13
theorem gg_L_60 : GoodIn wsL_law (wsV RL 60 RX7 yX7_write (.code yX7_write cX7_write 2 (some .int) :: wsL_law)) := zk_gV mw_25_19 mw_25_20 mw_25_21 mw_1_5 mw_25_22
theorem gg_L_61 : GoodIn wsL_law (wsV RL 61 RX6 yX6_wipe (.code yX6_wipe cX6_wipe 2 (some .int) :: wsL_law)) := zk_gV mw_25_23 mw_26_0 mw_26_1 mw_1_2 mw_26_2
theorem gg_L_64 : GoodIn wsL_law (wsV RL 64 RX7 yX7_wipe (.code yX7_wipe cX7_wipe 2 (some .int) :: wsL_law)) := zk_gV mw_26_3 mw_26_4 mw_26_5 mw_1_5 mw_26_6
theorem gg_L_65 : GoodIn wsL_law (wsV RL 65 RX6 yX6_fault (.code yX6_fault cX6_fault 2 (some .int) :: wsL_law)) := zk_gV mw_26_7 mw_26_8 mw_26_9 mw_1_2 mw_26_10
theorem gg_L_68 : GoodIn wsL_law (wsV RL 68 RX7 yX7_fault (.code yX7_fault cX7_fault 2 (some .int) :: wsL_law)) := zk_gV mw_26_13 mw_26_14 mw_26_15 mw_1_5 mw_26_16
theorem gg_L_69 : GoodIn wsL_law (wsV RL 69 RX6 yX6_told (.code yX6_told cX6_told 2 (some .int) :: wsL_law)) := zk_gV mw_26_17 mw_26_18 mw_26_19 mw_1_2 mw_26_20
theorem gg_L_72 : GoodIn wsL_law (wsV RL 72 RX7 yX7_told (.code yX7_told cX7_told 2 (some .int) :: wsL_law)) := zk_gV mw_27_8 mw_27_9 mw_27_10 mw_1_5 mw_27_11
theorem gg_L_73 : GoodIn wsL_law (wsV RL 73 RX6 yX6_setting (.code yX6_setting cX6_setting 2 (some .int) :: wsL_law)) := zk_gV mw_27_16 mw_27_17 mw_27_18 mw_1_2 mw_27_19
theorem gg_L_76 : GoodIn wsL_law (wsV RL 76 RX7 yX7_setting (.code yX7_setting cX7_setting 2 (some .int) :: wsL_law)) := zk_gV mw_27_20 mw_27_21 mw_27_22 mw_1_5 mw_27_23
theorem gg_L_77 : GoodIn wsL_law (wsV RL 77 RX6 yX6_track (.code yX6_track cX6_track 3 (some .int) :: wsL_law)) := zk_gV mw_28_0 mw_28_1 mw_28_2 mw_1_2 mw_28_3
theorem gg_L_80 : GoodIn wsL_law (wsV RL 80 RX7 yX7_track (.code yX7_track cX7_track 3 (some .int) :: wsL_law)) := zk_gV mw_28_10 mw_28_11 mw_28_12 mw_1_5 mw_28_13
theorem gg_L_81 : GoodIn wsL_law (wsV RL 81 RX6 yX6_wagon (.code yX6_wagon cX6_wagon 5 (some .int) :: wsL_law)) := zk_gV mw_28_14 mw_28_15 mw_28_16 mw_1_2 mw_28_17
theorem gg_L_84 : GoodIn wsL_law (wsV RL 84 RX7 yX7_wagon (.code yX7_wagon cX7_wagon 4 (some .int) :: wsL_law)) := zk_gV mw_29_0 mw_29_1 mw_29_2 mw_1_5 mw_29_3
theorem gg_L_85 : GoodIn wsL_law (wsV RL 85 RX6 yX6_train (.code yX6_train cX6_train 2 (some .int) :: wsL_law)) := zk_gV mw_29_4 mw_29_5 mw_29_6 mw_1_2 mw_29_7
theorem gg_L_88 : GoodIn wsL_law (wsV RL 88 RX7 yX7_train (.code yX7_train cX7_train 2 (some .int) :: wsL_law)) := zk_gV mw_29_9 mw_29_10 mw_29_11 mw_1_5 mw_29_12
theorem gg_L_89 : GoodIn wsL_law (wsV RL 89 RX6 yX6_find (.code yX6_find cX6_find 4 (some .int) :: wsL_law)) := zk_gV mw_29_13 mw_29_14 mw_29_15 mw_1_2 mw_29_16
theorem gg_L_92 : GoodIn wsL_law (wsV RL 92 RX7 yX7_find (.code yX7_find cX7_find 5 (some .int) :: wsL_law)) := zk_gV mw_29_21 mw_29_22 mw_29_23 mw_1_5 mw_30_0
theorem gg_L_93 : GoodIn wsL_law (wsV RL 93 RX6 yX6_mean (.code yX6_mean cX6_mean 1 (some .float) :: wsL_law)) := zk_gV mw_30_1 mw_30_2 mw_30_3 mw_1_2 mw_30_4
theorem gg_L_97 : GoodIn wsL_law (wsV RL 97 RX7 yX7_mean (.code yX7_mean cX7_mean 1 (some .float) :: wsL_law)) := zk_gV mw_30_5 mw_30_6 mw_30_7 mw_1_5 mw_30_8
theorem gg_L_98 : GoodIn wsL_law (wsV RL 98 RX6 yX6_cost (.code yX6_cost cX6_cost 4 (some .int) :: wsL_law)) := zk_gV mw_30_9 mw_30_10 mw_30_11 mw_1_2 mw_30_12
theorem gg_X1_22 : GoodIn wsL_law (wsV RX1 22 RX5 yX5_copyFrom (.code yX5_copyFrom cX5_copyFrom 2 none :: wsL_law)) := zk_gV mw_5_23 mw_6_0 mw_6_1 mw_1_14 mw_6_2
theorem gg_X3_101 : GoodIn wsL_law (wsV RX3 101 RX2 yX2_addLast (.code yX2_addLast cX2_addLast 5 none :: wsL_law)) := zk_gV mw_22_15 mw_22_16 mw_22_17 mw_3_17 mw_22_18
theorem gg_X3_105 : GoodIn wsL_law (wsV RX3 105 RX2 yX2_dropLast (.code yX2_dropLast cX2_dropLast 2 none :: wsL_law)) := zk_gV mw_22_19 mw_22_20 mw_22_21 mw_3_17 mw_22_22
theorem gg_X3_108 : GoodIn wsL_law (wsV RX3 108 RX2 yX2_isCheaperThan (.code yX2_isCheaperThan cX2_isCheaperThan 2 (some .boolean) :: wsL_law)) := zk_gV mw_21_5 mw_21_6 mw_21_7 mw_3_17 mw_21_8
theorem gg_X3_112 : GoodIn wsL_law (wsV RX3 112 RX2 yX2_copyFrom (.code yX2_copyFrom cX2_copyFrom 2 none :: wsL_law)) := zk_gV mw_21_9 mw_21_10 mw_21_11 mw_3_17 mw_21_12
theorem gg_X3_121 : GoodIn wsL_law (wsV RX3 121 RX3 yX3_countWanted (.code yX3_countWanted cX3_countWanted 6 none :: wsL_law)) := zk_gV mw_21_18 mw_21_19 mw_21_20 mw_2_3 mw_21_21
theorem gg_X3_124 : GoodIn wsL_law (wsV RX3 124 RX3 yX3_movesNeededFor (.code yX3_movesNeededFor cX3_movesNeededFor 5 (some .int) :: wsL_law)) := zk_gV mw_21_23 mw_22_0 mw_22_1 mw_2_3 mw_22_2
theorem gg_X3_128 : GoodIn wsL_law (wsV RX3 128 RX5 yX5_isForFirst (.code yX5_isForFirst cX5_isForFirst 3 (some .boolean) :: wsL_law)) := zk_gV mw_21_22 mw_17_16 mw_17_17 mw_1_14 mw_17_18
theorem gg_X3_42 : GoodIn wsL_law (wsV RX3 42 RX2 yX2_clear (.code yX2_clear cX2_clear 1 none :: wsL_law)) := zk_gV mw_20_7 mw_20_8 mw_20_9 mw_3_17 mw_20_10
theorem gg_X3_49 : GoodIn wsL_law (wsV RX3 49 RX5 yX5_forFirstInYard (.code yX5_forFirstInYard cX5_forFirstInYard 3 (some .int) :: wsL_law)) := zk_gV mw_20_13 mw_17_20 mw_17_21 mw_1_14 mw_17_22
theorem gg_X3_56 : GoodIn wsL_law (wsV RX3 56 RX5 yX5_copyFrom (.code yX5_copyFrom cX5_copyFrom 2 none :: wsL_law)) := zk_gV mw_20_14 mw_6_0 mw_6_1 mw_1_14 mw_6_2
theorem gg_X3_66 : GoodIn wsL_law (wsV RX3 66 RX3 yX3_seek (.code yX3_seek cX3_seek 8 none :: wsL_law)) := zk_gV mw_20_15 mw_20_16 mw_20_17 mw_2_3 mw_20_18
theorem gg_X3_70 : GoodIn wsL_law (wsV RX3 70 RX5 yX5_madeUpTrack (.code yX5_madeUpTrack cX5_madeUpTrack 2 (some .int) :: wsL_law)) := zk_gV mw_20_21 mw_20_22 mw_20_23 mw_1_14 mw_21_0
theorem gg_X3_73 : GoodIn wsL_law (wsV RX3 73 RX3 yX3_keepIfCheaper (.code yX3_keepIfCheaper cX3_keepIfCheaper 1 none :: wsL_law)) := zk_gV mw_21_1 mw_21_2 mw_21_3 mw_2_3 mw_21_4
theorem gg_X3_76 : GoodIn wsL_law (wsV RX3 76 RX3 yX3_movesNeeded (.code yX3_movesNeeded cX3_movesNeeded 3 (some .int) :: wsL_law)) := zk_gV mw_21_14 mw_21_15 mw_21_16 mw_2_3 mw_21_17
theorem gg_X3_79 : GoodIn wsL_law (wsV RX3 79 RX3 yX3_isTooDear (.code yX3_isTooDear cX3_isTooDear 3 (some .boolean) :: wsL_law)) := zk_gV mw_22_3 mw_22_4 mw_22_5 mw_2_3 mw_22_6
theorem gg_X3_89 : GoodIn wsL_law (wsV RX3 89 RX5 yX5_costOrCode (.code yX5_costOrCode cX5_costOrCode 4 (some .int) :: wsL_law)) := zk_gV mw_22_9 mw_14_11 mw_14_12 mw_1_14 mw_14_13
theorem gg_X3_93 : GoodIn wsL_law (wsV RX3 93 RX3 yX3_seekBehindMove (.code yX3_seekBehindMove cX3_seekBehindMove 6 none :: wsL_law)) := zk_gV mw_22_10 mw_22_11 mw_22_12 mw_2_3 mw_22_13
theorem gg_X3_97 : GoodIn wsL_law (wsV RX3 97 RX5 yX5_shift (.code yX5_shift cX5_shift 5 none :: wsL_law)) := zk_gV mw_22_14 mw_15_7 mw_15_8 mw_1_14 mw_15_9
theorem gg_X4_35 : GoodIn wsL_law (wsV RX4 35 RX4 yX4_foundFault (.code yX4_foundFault cX4_foundFault 3 (some .boolean) :: wsL_law)) := zk_gV mw_9_8 mw_9_9 mw_9_10 mw_1_23 mw_9_11
theorem gg_X4_43 : GoodIn wsL_law (wsV RX4 43 RX4 yX4_fillLatest (.code yX4_fillLatest cX4_fillLatest 4 none :: wsL_law)) := zk_gV mw_9_14 mw_9_15 mw_9_16 mw_1_23 mw_9_17
theorem gg_X5_104 : GoodIn wsL_law (wsV RX5 104 RX0 yX0_start (.code yX0_start cX0_start 1 none :: wsL_law)) := zk_gV mw_10_1 mw_10_2 mw_10_3 mw_2_19 mw_10_4
theorem gg_X5_107 : GoodIn wsL_law (wsV RX5 107 RX5 yX5_passPart (.code yX5_passPart cX5_passPart 5 none :: wsL_law)) := zk_gV mw_10_8 mw_10_9 mw_10_10 mw_1_14 mw_10_11
theorem gg_X5_114 : GoodIn wsL_law (wsV RX5 114 RX0 yX0_pass (.code yX0_pass cX0_pass 2 none :: wsL_law)) := zk_gV mw_10_18 mw_10_19 mw_10_20 mw_2_19 mw_10_21
theorem gg_X5_118 : GoodIn wsL_law (wsV RX5 118 RX5 yX5_isSafe (.code yX5_isSafe cX5_isSafe 2 (some .boolean) :: wsL_law)) := zk_gV mw_17_23 mw_18_0 mw_18_1 mw_1_14 mw_18_2
theorem gg_X5_122 : GoodIn wsL_law (wsV RX5 122 RX5 yX5_hasTrack (.code yX5_hasTrack cX5_hasTrack 2 (some .boolean) :: wsL_law)) := zk_gV mw_14_14 mw_8_23 mw_9_0 mw_1_14 mw_9_1
theorem gg_X5_125 : GoodIn wsL_law (wsV RX5 125 RX5 yX5_isSafeBehindMove (.code yX5_isSafeBehindMove cX5_isSafeBehindMove 5 (some .boolean) :: wsL_law)) := zk_gV mw_14_15 mw_14_16 mw_14_17 mw_1_14 mw_14_18
theorem gg_X5_128 : GoodIn wsL_law (wsV RX5 128 RX5 yX5_minutesOf (.code yX5_minutesOf cX5_minutesOf 6 (some .int) :: wsL_law)) := zk_gV mw_14_19 mw_14_20 mw_14_21 mw_1_14 mw_14_22
theorem gg_X5_136 : GoodIn wsL_law (wsV RX5 136 RX5 yX5_shift (.code yX5_shift cX5_shift 5 none :: wsL_law)) := zk_gV mw_15_6 mw_15_7 mw_15_8 mw_1_14 mw_15_9
theorem gg_X5_142 : GoodIn wsL_law (wsV RX5 142 RX5 yX5_isForFirst (.code yX5_isForFirst cX5_isForFirst 3 (some .boolean) :: wsL_law)) := zk_gV mw_17_15 mw_17_16 mw_17_17 mw_1_14 mw_17_18
theorem gg_X5_146 : GoodIn wsL_law (wsV RX5 146 RX5 yX5_forFirstOn (.code yX5_forFirstOn cX5_forFirstOn 4 (some .int) :: wsL_law)) := zk_gV mw_17_11 mw_17_12 mw_17_13 mw_1_14 mw_17_14
theorem gg_X5_149 : GoodIn wsL_law (wsV RX5 149 RX5 yX5_forFirstInYard (.code yX5_forFirstInYard cX5_forFirstInYard 3 (some .int) :: wsL_law)) := zk_gV mw_17_19 mw_17_20 mw_17_21 mw_1_14 mw_17_22
theorem gg_X5_153 : GoodIn wsL_law (wsV RX5 153 RX5 yX5_testHoldsFor (.code yX5_testHoldsFor cX5_testHoldsFor 2 (some .int) :: wsL_law)) := zk_gV mw_18_3 mw_18_4 mw_18_5 mw_1_14 mw_18_6
theorem gg_X5_68 : GoodIn wsL_law (va_wsS RX5 68 yJ7_fill_53178 (.code yJ7_fill_53178 cJ7_fill_53178 4 none :: wsL_law)) := zk_gS mw_6_18 mw_6_19 mw_6_20 mw_6_21
theorem gg_X5_78 : GoodIn wsL_law (wsV RX5 78 RX5 yX5_wagonAt (.code yX5_wagonAt cX5_wagonAt 3 (some .int) :: wsL_law)) := zk_gV mw_10_12 mw_10_13 mw_10_14 mw_1_14 mw_10_15
theorem gg_X6_100 : GoodIn wsL_law (wsV RX6 100 RX4 yX4_readTrains (.code yX4_readTrains cX4_readTrains 3 (some .boolean) :: wsL_law)) := zk_gV mw_13_14 mw_13_15 mw_13_16 mw_1_23 mw_13_17
theorem gg_X6_103 : GoodIn wsL_law (wsV RX6 103 RX5 yX5_takeTrains (.code yX5_takeTrains cX5_takeTrains 2 none :: wsL_law)) := zk_gV mw_13_18 mw_13_19 mw_13_20 mw_1_14 mw_13_21
theorem gg_X6_110 : GoodIn wsL_law (wsV RX6 110 RX5 yX5_costOrCode (.code yX5_costOrCode cX5_costOrCode 4 (some .int) :: wsL_law)) := zk_gV mw_14_10 mw_14_11 mw_14_12 mw_1_14 mw_14_13
theorem gg_X6_114 : GoodIn wsL_law (wsV RX6 114 RX5 yX5_drive (.code yX5_drive cX5_drive 5 (some .int) :: wsL_law)) := zk_gV mw_15_2 mw_15_3 mw_15_4 mw_1_14 mw_15_5
theorem gg_X6_117 : GoodIn wsL_law (wsV RX6 117 RX5 yX5_testBrakes (.code yX5_testBrakes cX5_testBrakes 3 (some .int) :: wsL_law)) := zk_gV mw_16_10 mw_16_11 mw_16_12 mw_1_14 mw_16_13
theorem gg_X6_123 : GoodIn wsL_law (wsV RX6 123 RX5 yX5_refusal (.code yX5_refusal cX5_refusal 2 (some .int) :: wsL_law)) := zk_gV mw_17_7 mw_17_8 mw_17_9 mw_1_14 mw_17_10
theorem gg_X6_126 : GoodIn wsL_law (wsV RX6 126 RX5 yX5_sendOff (.code yX5_sendOff cX5_sendOff 3 (some .int) :: wsL_law)) := zk_gV mw_18_10 mw_18_11 mw_18_12 mw_1_14 mw_18_13
theorem gg_X6_129 : GoodIn wsL_law (wsV RX6 129 RX3 yX3_succeeds (.code yX3_succeeds cX3_succeeds 4 (some .boolean) :: wsL_law)) := zk_gV mw_19_23 mw_20_0 mw_20_1 mw_2_3 mw_20_2
theorem gg_X6_151 : GoodIn wsL_law (wsV RX6 151 RX1 yX1_restore (.code yX1_restore cX1_restore 3 (some .boolean) :: wsL_law)) := zk_gV mw_25_2 mw_25_3 mw_25_4 mw_1_18 mw_25_5
theorem gg_X6_160 : GoodIn wsL_law (wsV RX6 160 RX4 yX4_append (.code yX4_append cX4_append 2 none :: wsL_law)) := zk_gV mw_25_15 mw_25_16 mw_25_17 mw_1_23 mw_25_18
theorem gg_X6_173 : GoodIn wsL_law (wsV RX6 173 RX5 yX5_unsafeTracks (.code yX5_unsafeTracks cX5_unsafeTracks 3 (some .int) :: wsL_law)) := zk_gV mw_27_3 mw_27_4 mw_27_5 mw_1_14 mw_27_6
theorem gg_X6_189 : GoodIn wsL_law (wsV RX6 189 RX5 yX5_madeUpTrack (.code yX5_madeUpTrack cX5_madeUpTrack 2 (some .int) :: wsL_law)) := zk_gV mw_27_7 mw_20_22 mw_20_23 mw_1_14 mw_21_0
theorem gg_X6_192 : GoodIn wsL_law (wsV RX6 192 RX5 yX5_isSafe (.code yX5_isSafe cX5_isSafe 2 (some .boolean) :: wsL_law)) := zk_gV mw_28_4 mw_18_0 mw_18_1 mw_1_14 mw_18_2
theorem gg_X6_195 : GoodIn wsL_law (wsV RX6 195 RX5 yX5_testHoldsFor (.code yX5_testHoldsFor cX5_testHoldsFor 2 (some .int) :: wsL_law)) := zk_gV mw_28_5 mw_18_4 mw_18_5 mw_1_14 mw_18_6
theorem gg_X6_198 : GoodIn wsL_law (wsV RX6 198 RX5 yX5_leastGap (.code yX5_leastGap cX5_leastGap 2 (some .int) :: wsL_law)) := zk_gV mw_28_6 mw_28_7 mw_28_8 mw_1_14 mw_28_9
theorem gg_X6_201 : GoodIn wsL_law (wsV RX6 201 RX5 yX5_wagonAt (.code yX5_wagonAt cX5_wagonAt 3 (some .int) :: wsL_law)) := zk_gV mw_28_18 mw_10_13 mw_10_14 mw_1_14 mw_10_15
theorem gg_X6_205 : GoodIn wsL_law (va_wsS RX6 205 yX6_numberOf (.code yX6_numberOf cX6_numberOf 1 (some .int) :: wsL_law)) := zk_gS mw_28_19 mw_28_20 mw_1_2 mw_28_21
theorem gg_X6_208 : GoodIn wsL_law (va_wsS RX6 208 yX6_destinationOf (.code yX6_destinationOf cX6_destinationOf 1 (some .int) :: wsL_law)) := zk_gS mw_28_22 mw_11_3 mw_1_2 mw_11_4
theorem gg_X6_211 : GoodIn wsL_law (va_wsS RX6 211 yX6_kindOf (.code yX6_kindOf cX6_kindOf 1 (some .int) :: wsL_law)) := zk_gS mw_28_23 mw_10_16 mw_1_2 mw_10_17
theorem gg_X6_217 : GoodIn wsL_law (wsV RX6 217 RX5 yX5_spotOf (.code yX5_spotOf cX5_spotOf 4 (some .int) :: wsL_law)) := zk_gV mw_29_17 mw_29_18 mw_29_19 mw_1_14 mw_29_20
theorem gg_X6_223 : GoodIn wsL_law (wsV RX6 223 RX5 yX5_copyFrom (.code yX5_copyFrom cX5_copyFrom 2 none :: wsL_law)) := zk_gV mw_31_3 mw_6_0 mw_6_1 mw_1_14 mw_6_2
theorem gg_X6_45 : GoodIn wsL_law (va_wsS RX6 45 yX6_within (.code yX6_within cX6_within 3 (some .boolean) :: wsL_law)) := zk_gS mw_5_6 mw_5_7 mw_1_2 mw_5_8
theorem gg_X6_49 : GoodIn wsL_law (wsV RX6 49 RX5 yX5_wagonsInYard (.code yX5_wagonsInYard cX5_wagonsInYard 3 (some .int) :: wsL_law)) := zk_gV mw_5_9 mw_5_10 mw_5_11 mw_1_14 mw_5_12
theorem gg_X6_53 : GoodIn wsL_law (wsV RX6 53 RX1 yX1_add (.code yX1_add cX1_add 2 none :: wsL_law)) := zk_gV mw_5_13 mw_5_14 mw_5_15 mw_1_18 mw_5_16
theorem gg_X6_57 : GoodIn wsL_law (wsV RX6 57 RX5 yX5_restart (.code yX5_restart cX5_restart 3 none :: wsL_law)) := zk_gV mw_6_14 mw_6_15 mw_6_16 mw_1_14 mw_6_17
theorem gg_X6_61 : GoodIn wsL_law (va_wsS RX6 61 yX6_isSetting (.code yX6_isSetting cX6_isSetting 1 (some .boolean) :: wsL_law)) := zk_gS mw_7_23 mw_8_0 mw_1_2 mw_8_1
theorem gg_X6_65 : GoodIn wsL_law (va_wsS RX6 65 yX6_leastOf (.code yX6_leastOf cX6_leastOf 1 (some .int) :: wsL_law)) := zk_gS mw_8_2 mw_8_3 mw_1_2 mw_8_4
theorem gg_X6_69 : GoodIn wsL_law (va_wsS RX6 69 yX6_greatestOf (.code yX6_greatestOf cX6_greatestOf 1 (some .int) :: wsL_law)) := zk_gS mw_8_5 mw_8_6 mw_1_2 mw_8_7
theorem gg_X6_76 : GoodIn wsL_law (wsV RX6 76 RX5 yX5_hasTrack (.code yX5_hasTrack cX5_hasTrack 2 (some .boolean) :: wsL_law)) := zk_gV mw_8_22 mw_8_23 mw_9_0 mw_1_14 mw_9_1
theorem gg_X6_79 : GoodIn wsL_law (wsV RX6 79 RX4 yX4_readWagons (.code yX4_readWagons cX4_readWagons 6 (some .boolean) :: wsL_law)) := zk_gV mw_9_2 mw_9_3 mw_9_4 mw_1_23 mw_9_5
theorem gg_X6_83 : GoodIn wsL_law (wsV RX6 83 RX5 yX5_isSafeWith (.code yX5_isSafeWith cX5_isSafeWith 4 (some .boolean) :: wsL_law)) := zk_gV mw_9_18 mw_9_19 mw_9_20 mw_1_14 mw_9_21
theorem gg_X6_96 : GoodIn wsL_law (wsV RX6 96 RX5 yX5_takeIn (.code yX5_takeIn cX5_takeIn 5 none :: wsL_law)) := zk_gV mw_10_23 mw_11_0 mw_11_1 mw_1_14 mw_11_2
theorem gg_X7_100 : GoodIn wsL_law (wsV RX7 100 RX7 yX7_costOf (.code yX7_costOf cX7_costOf 7 (some .int) :: wsL_law)) := zk_gV mw_15_22 mw_15_23 mw_16_0 mw_1_5 mw_16_1
theorem gg_X7_104 : GoodIn wsL_law (wsV RX7 104 RX7 yX7_cost (.code yX7_cost cX7_cost 4 (some .int) :: wsL_law)) := zk_gV mw_15_14 mw_15_15 mw_15_16 mw_1_5 mw_15_17
theorem gg_X7_107 : GoodIn wsL_law (wsV RX7 107 RX7 yX7_remember (.code yX7_remember cX7_remember 2 none :: wsL_law)) := zk_gV mw_7_5 mw_7_6 mw_7_7 mw_1_5 mw_7_8
theorem gg_X7_110 : GoodIn wsL_law (wsV RX7 110 RX7 yX7_carry (.code yX7_carry cX7_carry 8 none :: wsL_law)) := zk_gV mw_16_2 mw_16_3 mw_16_4 mw_1_5 mw_16_5
theorem gg_X7_114 : GoodIn wsL_law (wsV RX7 114 RX7 yX7_destination (.code yX7_destination cX7_destination 3 (some .int) :: wsL_law)) := zk_gV mw_19_2 mw_19_3 mw_19_4 mw_1_5 mw_19_5
theorem gg_X7_117 : GoodIn wsL_law (wsV RX7 117 RX7 yX7_bound (.code yX7_bound cX7_bound 5 (some .int) :: wsL_law)) := zk_gV mw_18_22 mw_18_23 mw_19_0 mw_1_5 mw_19_1
theorem gg_X7_120 : GoodIn wsL_law (wsV RX7 120 RX7 yX7_isSafe (.code yX7_isSafe cX7_isSafe 2 (some .boolean) :: wsL_law)) := zk_gV mw_19_6 mw_19_7 mw_19_8 mw_1_5 mw_19_9
theorem gg_X7_123 : GoodIn wsL_law (wsV RX7 123 RX7 yX7_stillHolds (.code yX7_stillHolds cX7_stillHolds 3 (some .int) :: wsL_law)) := zk_gV mw_19_10 mw_19_11 mw_19_12 mw_1_5 mw_19_13
theorem gg_X7_127 : GoodIn wsL_law (wsV RX7 127 RX7 yX7_reasonAgainst (.code yX7_reasonAgainst cX7_reasonAgainst 3 (some .int) :: wsL_law)) := zk_gV mw_18_18 mw_18_19 mw_18_20 mw_1_5 mw_18_21
theorem gg_X7_136 : GoodIn wsL_law (wsV RX7 136 RX7 yX7_fails (.code yX7_fails cX7_fails 3 none :: wsL_law)) := zk_gV mw_11_20 mw_11_21 mw_11_22 mw_1_5 mw_11_23
theorem gg_X7_145 : GoodIn wsL_law (va_wsS RX7 145 yX7_isLetter (.code yX7_isLetter cX7_isLetter 1 (some .boolean) :: wsL_law)) := zk_gS mw_12_1 mw_12_2 mw_1_5 mw_12_3
theorem gg_X7_148 : GoodIn wsL_law (wsV RX7 148 RX7 yX7_readWagons (.code yX7_readWagons cX7_readWagons 7 none :: wsL_law)) := zk_gV mw_11_14 mw_11_15 mw_11_16 mw_1_5 mw_11_17
theorem gg_X7_151 : GoodIn wsL_law (wsV RX7 151 RX7 yX7_hasFault (.code yX7_hasFault cX7_hasFault 1 (some .boolean) :: wsL_law)) := zk_gV mw_12_4 mw_12_5 mw_12_6 mw_1_5 mw_12_7
theorem gg_X7_154 : GoodIn wsL_law (wsV RX7 154 RX7 yX7_readList (.code yX7_readList cX7_readList 3 none :: wsL_law)) := zk_gV mw_14_2 mw_14_3 mw_14_4 mw_1_5 mw_14_5
theorem gg_X7_163 : GoodIn wsL_law (wsV RX7 163 RX7 yX7_madeUp (.code yX7_madeUp cX7_madeUp 4 (some .int) :: wsL_law)) := zk_gV mw_23_13 mw_23_14 mw_23_15 mw_1_5 mw_23_16
theorem gg_X7_166 : GoodIn wsL_law (wsV RX7 166 RX7 yX7_hold (.code yX7_hold cX7_hold 3 none :: wsL_law)) := zk_gV mw_24_5 mw_24_6 mw_24_7 mw_1_5 mw_24_8
theorem gg_X7_169 : GoodIn wsL_law (wsV RX7 169 RX7 yX7_spread (.code yX7_spread cX7_spread 3 (some .int) :: wsL_law)) := zk_gV mw_23_17 mw_23_18 mw_23_19 mw_1_5 mw_23_20
theorem gg_X7_172 : GoodIn wsL_law (wsV RX7 172 RX7 yX7_note (.code yX7_note cX7_note 5 none :: wsL_law)) := zk_gV mw_23_9 mw_23_10 mw_23_11 mw_1_5 mw_23_12
theorem gg_X7_175 : GoodIn wsL_law (wsV RX7 175 RX7 yX7_isWorthIt (.code yX7_isWorthIt cX7_isWorthIt 2 (some .boolean) :: wsL_law)) := zk_gV mw_23_21 mw_23_22 mw_23_23 mw_1_5 mw_24_0
theorem gg_X7_178 : GoodIn wsL_law (wsV RX7 178 RX7 yX7_enter (.code yX7_enter cX7_enter 2 none :: wsL_law)) := zk_gV mw_24_1 mw_24_2 mw_24_3 mw_1_5 mw_24_4
theorem gg_X7_181 : GoodIn wsL_law (wsV RX7 181 RX7 yX7_release (.code yX7_release cX7_release 3 none :: wsL_law)) := zk_gV mw_24_9 mw_24_10 mw_24_11 mw_1_5 mw_24_12
theorem gg_X7_184 : GoodIn wsL_law (wsV RX7 184 RX7 yX7_next (.code yX7_next cX7_next 3 (some .boolean) :: wsL_law)) := zk_gV mw_24_13 mw_24_14 mw_24_15 mw_1_5 mw_24_16
theorem gg_X7_187 : GoodIn wsL_law (wsV RX7 187 RX7 yX7_tryMove (.code yX7_tryMove cX7_tryMove 4 (some .int) :: wsL_law)) := zk_gV mw_24_17 mw_24_18 mw_24_19 mw_1_5 mw_24_20
theorem gg_X7_190 : GoodIn wsL_law (wsV RX7 190 RX7 yX7_search (.code yX7_search cX7_search 4 none :: wsL_law)) := zk_gV mw_23_5 mw_23_6 mw_23_7 mw_1_5 mw_23_8
theorem gg_X7_193 : GoodIn wsL_law (wsV RX7 193 RX7 yX7_wagons (.code yX7_wagons cX7_wagons 3 (some .int) :: wsL_law)) := zk_gV mw_7_10 mw_7_11 mw_7_12 mw_1_5 mw_7_13
theorem gg_X7_196 : GoodIn wsL_law (va_wsS RX7 196 yX7_isOf (.code yX7_isOf cX7_isOf 2 (some .boolean) :: wsL_law)) := zk_gS mw_8_12 mw_8_13 mw_1_5 mw_8_14
theorem gg_X7_200 : GoodIn wsL_law (wsV RX7 200 RX7 yX7_unsafeTracks (.code yX7_unsafeTracks cX7_unsafeTracks 3 (some .int) :: wsL_law)) := zk_gV mw_27_12 mw_27_13 mw_27_14 mw_1_5 mw_27_15
theorem gg_X7_203 : GoodIn wsL_law (va_wsS RX7 203 yX7_isImage (.code yX7_isImage cX7_isImage 1 (some .boolean) :: wsL_law)) := zk_gS mw_31_9 mw_31_10 mw_1_5 mw_31_11
theorem gg_X7_59 : GoodIn wsL_law (va_wsS RX7 59 yX7_isIn (.code yX7_isIn cX7_isIn 3 (some .boolean) :: wsL_law)) := zk_gS mw_7_2 mw_7_3 mw_1_5 mw_7_4
theorem gg_X7_63 : GoodIn wsL_law (wsV RX7 63 RX7 yX7_of (.code yX7_of cX7_of 3 (some .int) :: wsL_law)) := zk_gV mw_7_14 mw_7_15 mw_7_16 mw_1_5 mw_7_17
theorem gg_X7_70 : GoodIn wsL_law (wsV RX7 70 RX7 yX7_kindAt (.code yX7_kindAt cX7_kindAt 3 (some .int) :: wsL_law)) := zk_gV mw_12_13 mw_12_14 mw_12_15 mw_1_5 mw_12_16
theorem gg_X7_73 : GoodIn wsL_law (wsV RX7 73 RX7 yX7_appendKind (.code yX7_appendKind cX7_appendKind 2 none :: wsL_law)) := zk_gV mw_12_17 mw_12_18 mw_12_19 mw_1_5 mw_12_20
theorem gg_X7_77 : GoodIn wsL_law (wsV RX7 77 RX7 yX7_leastGap (.code yX7_leastGap cX7_leastGap 5 (some .int) :: wsL_law)) := zk_gV mw_13_1 mw_13_2 mw_13_3 mw_1_5 mw_13_4
theorem gg_X7_81 : GoodIn wsL_law (wsV RX7 81 RX7 yX7_beginRow (.code yX7_beginRow cX7_beginRow 4 none :: wsL_law)) := zk_gV mw_12_8 mw_12_9 mw_12_10 mw_1_5 mw_12_11
theorem gg_X7_85 : GoodIn wsL_law (wsV RX7 85 RX7 yX7_isSafeRow (.code yX7_isSafeRow cX7_isSafeRow 2 (some .boolean) :: wsL_law)) := zk_gV mw_12_21 mw_12_22 mw_12_23 mw_1_5 mw_13_0
theorem gg_X7_89 : GoodIn wsL_law (wsV RX7 89 RX7 yX7_isTrack (.code yX7_isTrack cX7_isTrack 2 (some .boolean) :: wsL_law)) := zk_gV mw_11_10 mw_11_11 mw_11_12 mw_1_5 mw_11_13
theorem gg_X7_93 : GoodIn wsL_law (wsV RX7 93 RX7 yX7_put (.code yX7_put cX7_put 4 none :: wsL_law)) := zk_gV mw_13_5 mw_13_6 mw_13_7 mw_1_5 mw_13_8
theorem gg_X7_97 : GoodIn wsL_law (wsV RX7 97 RX7 yX7_areTracks (.code yX7_areTracks cX7_areTracks 4 (some .boolean) :: wsL_law)) := zk_gV mw_15_18 mw_15_19 mw_15_20 mw_1_5 mw_15_21
theorem nl_X1_21 : ("ShuntYard$History", 21, yX5_init, "ShuntYard") ∈ NLs := List.mem_of_getElem? (i := 4) rfl
theorem nl_X3_11 : ("ShuntYard$Search", 11, yX2_init, "ShuntYard") ∈ NLs := List.mem_of_getElem? (i := 5) rfl
theorem nl_X3_20 : ("ShuntYard$Search", 20, yX5_init, "ShuntYard") ∈ NLs := List.mem_of_getElem? (i := 6) rfl
theorem nl_X4_31 : ("ShuntYard$Text", 31, yX6_within, "ShuntYard") ∈ NLs := List.mem_of_getElem? (i := 7) rfl
theorem nl_X4_39 : ("ShuntYard$Text", 39, yX6_wagonOf, "ShuntYard") ∈ NLs := List.mem_of_getElem? (i := 8) rfl
theorem nl_X5_100 : ("ShuntYard$Yard", 100, yX6_wagonOf, "ShuntYard") ∈ NLs := List.mem_of_getElem? (i := 9) rfl
theorem nl_X5_36 : ("ShuntYard$Yard", 36, yX0_init, "ShuntYard") ∈ NLs := List.mem_of_getElem? (i := 10) rfl
theorem nl_X5_74 : ("ShuntYard$Yard", 74, yX6_within, "ShuntYard") ∈ NLs := List.mem_of_getElem? (i := 11) rfl
theorem nl_X5_82 : ("ShuntYard$Yard", 82, yX6_numberOf, "ShuntYard") ∈ NLs := List.mem_of_getElem? (i := 12) rfl
theorem nl_X5_94 : ("ShuntYard$Yard", 94, yX6_destinationOf, "ShuntYard") ∈ NLs := List.mem_of_getElem? (i := 13) rfl
theorem nl_X5_97 : ("ShuntYard$Yard", 97, yX6_kindOf, "ShuntYard") ∈ NLs := List.mem_of_getElem? (i := 14) rfl
theorem nl_X6_18 : ("ShuntYard", 18, yX1_init, "ShuntYard") ∈ NLs := List.mem_of_getElem? (i := 0) rfl
theorem nl_X6_29 : ("ShuntYard", 29, yX4_init, "ShuntYard") ∈ NLs := List.mem_of_getElem? (i := 1) rfl
theorem nl_X6_36 : ("ShuntYard", 36, yX3_init, "ShuntYard") ∈ NLs := List.mem_of_getElem? (i := 2) rfl
theorem nl_X6_9 : ("ShuntYard", 9, yX5_init, "ShuntYard") ∈ NLs := List.mem_of_getElem? (i := 3) rfl
