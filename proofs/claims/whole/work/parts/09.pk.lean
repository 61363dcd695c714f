/-! ===== rooms of the methods, what the tables say of them (by program) ===== -/
abbrev rm_Xx_init : Room := { frames := 4, cells := 36, slots := 400, locals := 81 }
theorem p_Xx_init : zPk y_Xx_init c_Xx_init 1 0 := ⟨wc_Xx_init, ws_Xx_init, rfl, wn_Xx_init, by decide +kernel, by decide +kernel⟩
abbrev rm_Gm_init : Room := { frames := 2, cells := 4, slots := 41, locals := 40 }
theorem p_Gm_init : zPk y_Gm_init c_Gm_init 1 0 := ⟨wc_Gm_init, ws_Gm_init, rfl, wn_Gm_init, by decide +kernel, by decide +kernel⟩
abbrev rm_Bd_init : Room := { frames := 1, cells := 1, slots := 36, locals := 20 }
theorem p_Bd_init : zPk y_Bd_init c_Bd_init 1 0 := ⟨wc_Bd_init, ws_Bd_init, rfl, wn_Bd_init, by decide +kernel, by decide +kernel⟩
abbrev rm_Hs_init : Room := { frames := 3, cells := 26, slots := 250, locals := 60 }
theorem p_Hs_init : zPk y_Hs_init c_Hs_init 2 0 := ⟨wc_Hs_init, ws_Hs_init, rfl, wn_Hs_init, by decide +kernel, by decide +kernel⟩
abbrev rm_Tx_init : Room := { frames := 1, cells := 1, slots := 60, locals := 20 }
theorem p_Tx_init : zPk y_Tx_init c_Tx_init 1 0 := ⟨wc_Tx_init, ws_Tx_init, rfl, wn_Tx_init, by decide +kernel, by decide +kernel⟩
abbrev rm_Xx_clearText : Room := { frames := 1, cells := 0, slots := 0, locals := 21 }
theorem p_Xx_clearText : zPv y_Xx_clearText c_Xx_clearText 1 (some .int) 0 := ⟨wc_Xx_clearText, ws_Xx_clearText, wv_Xx_clearText, wn_Xx_clearText, by decide +kernel, by decide +kernel⟩
abbrev rm_Tx_empty : Room := { frames := 0, cells := 0, slots := 0, locals := 0 }
theorem p_Tx_empty : zPv y_Tx_empty c_Tx_empty 2 (some .int) 0 := ⟨wc_Tx_empty, ws_Tx_empty, wv_Tx_empty, wn_Tx_empty, by decide +kernel, by decide +kernel⟩
abbrev rm_Xx_isValid : Room := { frames := 4, cells := 0, slots := 0, locals := 84 }
theorem p_Xx_isValid : zPv y_Xx_isValid c_Xx_isValid 1 (some .boolean) 0 := ⟨wc_Xx_isValid, ws_Xx_isValid, wv_Xx_isValid, wn_Xx_isValid, by decide +kernel, by decide +kernel⟩
abbrev rm_Tx_isList : Room := { frames := 3, cells := 0, slots := 0, locals := 64 }
theorem p_Tx_isList : zPv y_Tx_isList c_Tx_isList 1 (some .boolean) 0 := ⟨wc_Tx_isList, ws_Tx_isList, wv_Tx_isList, wn_Tx_isList, by decide +kernel, by decide +kernel⟩
abbrev rm_Tx_firstMisfit : Room := { frames := 2, cells := 0, slots := 0, locals := 43 }
theorem p_Tx_firstMisfit : zPv y_Tx_firstMisfit c_Tx_firstMisfit 2 (some .int) 0 := ⟨wc_Tx_firstMisfit, ws_Tx_firstMisfit, wv_Tx_firstMisfit, wn_Tx_firstMisfit, by decide +kernel, by decide +kernel⟩
abbrev rm_Tx_fits : Room := { frames := 1, cells := 0, slots := 0, locals := 21 }
theorem p_Tx_fits : zPv y_Tx_fits c_Tx_fits 3 (some .boolean) 1 := ⟨wc_Tx_fits, ws_Tx_fits, wv_Tx_fits, wn_Tx_fits, by decide +kernel, by decide +kernel⟩
abbrev rm_Tx_isDigit : Room := { frames := 0, cells := 0, slots := 0, locals := 0 }
theorem p_Tx_isDigit : zPs y_Tx_isDigit c_Tx_isDigit 1 (some .boolean) 1 := ⟨wc_Tx_isDigit, ws_Tx_isDigit, wn_Tx_isDigit, by decide +kernel, by decide +kernel⟩
abbrev rm_Tx_endsElsewhere : Room := { frames := 0, cells := 0, slots := 0, locals := 0 }
theorem p_Tx_endsElsewhere : zPv y_Tx_endsElsewhere c_Tx_endsElsewhere 2 (some .boolean) 1 := ⟨wc_Tx_endsElsewhere, ws_Tx_endsElsewhere, wv_Tx_endsElsewhere, wn_Tx_endsElsewhere, by decide +kernel, by decide +kernel⟩
abbrev rm_Xx_toMove : Room := { frames := 0, cells := 0, slots := 0, locals := 0 }
theorem p_Xx_toMove : zPv y_Xx_toMove c_Xx_toMove 1 (some .int) 0 := ⟨wc_Xx_toMove, ws_Xx_toMove, wv_Xx_toMove, wn_Xx_toMove, by decide +kernel, by decide +kernel⟩
abbrev rm_Xx_isOver : Room := { frames := 0, cells := 0, slots := 0, locals := 0 }
theorem p_Xx_isOver : zPv y_Xx_isOver c_Xx_isOver 1 (some .boolean) 0 := ⟨wc_Xx_isOver, ws_Xx_isOver, wv_Xx_isOver, wn_Xx_isOver, by decide +kernel, by decide +kernel⟩
abbrev rm_Xx_repetitions : Room := { frames := 1, cells := 0, slots := 0, locals := 20 }
theorem p_Xx_repetitions : zPv y_Xx_repetitions c_Xx_repetitions 1 (some .int) 0 := ⟨wc_Xx_repetitions, ws_Xx_repetitions, wv_Xx_repetitions, wn_Xx_repetitions, by decide +kernel, by decide +kernel⟩
abbrev rm_Gm_timesOfBoard : Room := { frames := 0, cells := 0, slots := 0, locals := 0 }
theorem p_Gm_timesOfBoard : zPv y_Gm_timesOfBoard c_Gm_timesOfBoard 1 (some .int) 0 := ⟨wc_Gm_timesOfBoard, ws_Gm_timesOfBoard, wv_Gm_timesOfBoard, wn_Gm_timesOfBoard, by decide +kernel, by decide +kernel⟩
abbrev rm_Xx_movesMade : Room := { frames := 0, cells := 0, slots := 0, locals := 0 }
theorem p_Xx_movesMade : zPv y_Xx_movesMade c_Xx_movesMade 1 (some .int) 0 := ⟨wc_Xx_movesMade, ws_Xx_movesMade, wv_Xx_movesMade, wn_Xx_movesMade, by decide +kernel, by decide +kernel⟩
abbrev rm_Xx_historySize : Room := { frames := 0, cells := 0, slots := 0, locals := 0 }
theorem p_Xx_historySize : zPv y_Xx_historySize c_Xx_historySize 1 (some .int) 0 := ⟨wc_Xx_historySize, ws_Xx_historySize, wv_Xx_historySize, wn_Xx_historySize, by decide +kernel, by decide +kernel⟩
abbrev rm_Lw_putPiece : Room := { frames := 9, cells := 3, slots := 18, locals := 157 }
theorem p_Lw_putPiece : zPsX y_Lw_putPiece c_Lw_putPiece 6 (some .int) hh_Lw_putPiece 5 := ⟨wc_Lw_putPiece, ws_Lw_putPiece, wn_Lw_putPiece, by decide +kernel, by decide +kernel⟩
abbrev rm_Xx_putPiece : Room := { frames := 8, cells := 3, slots := 18, locals := 134 }
theorem p_Xx_putPiece : zPv y_Xx_putPiece c_Xx_putPiece 4 (some .int) 3 := ⟨wc_Xx_putPiece, ws_Xx_putPiece, wv_Xx_putPiece, wn_Xx_putPiece, by decide +kernel, by decide +kernel⟩
abbrev rm_Xx_put : Room := { frames := 7, cells := 3, slots := 18, locals := 110 }
theorem p_Xx_put : zPv y_Xx_put c_Xx_put 5 (some .int) 4 := ⟨wc_Xx_put, ws_Xx_put, wv_Xx_put, wn_Xx_put, by decide +kernel, by decide +kernel⟩
abbrev rm_Xx_needSide : Room := { frames := 6, cells := 1, slots := 6, locals := 90 }
theorem p_Xx_needSide : zPs y_Xx_needSide c_Xx_needSide 1 none 1 := ⟨wc_Xx_needSide, ws_Xx_needSide, wn_Xx_needSide, by decide +kernel, by decide +kernel⟩
abbrev rm_Xx_needSquare : Room := { frames := 6, cells := 1, slots := 6, locals := 90 }
theorem p_Xx_needSquare : zPs y_Xx_needSquare c_Xx_needSquare 1 none 1 := ⟨wc_Xx_needSquare, ws_Xx_needSquare, wn_Xx_needSquare, by decide +kernel, by decide +kernel⟩
abbrev rm_Gm_accepts : Room := { frames := 4, cells := 0, slots := 0, locals := 87 }
theorem p_Gm_accepts : zPv y_Gm_accepts c_Gm_accepts 4 (some .boolean) 3 := ⟨wc_Gm_accepts, ws_Gm_accepts, wv_Gm_accepts, wn_Gm_accepts, by decide +kernel, by decide +kernel⟩
abbrev rm_Gm_hasStarted : Room := { frames := 0, cells := 0, slots := 0, locals := 0 }
theorem p_Gm_hasStarted : zPv y_Gm_hasStarted c_Gm_hasStarted 1 (some .boolean) 0 := ⟨wc_Gm_hasStarted, ws_Gm_hasStarted, wv_Gm_hasStarted, wn_Gm_hasStarted, by decide +kernel, by decide +kernel⟩
abbrev rm_Bd_isEmpty : Room := { frames := 0, cells := 0, slots := 0, locals := 0 }
theorem p_Bd_isEmpty : zPv y_Bd_isEmpty c_Bd_isEmpty 2 (some .boolean) 1 := ⟨wc_Bd_isEmpty, ws_Bd_isEmpty, wv_Bd_isEmpty, wn_Bd_isEmpty, by decide +kernel, by decide +kernel⟩
abbrev rm_Bd_countOf : Room := { frames := 3, cells := 0, slots := 0, locals := 66 }
theorem p_Bd_countOf : zPv y_Bd_countOf c_Bd_countOf 2 (some .int) 1 := ⟨wc_Bd_countOf, ws_Bd_countOf, wv_Bd_countOf, wn_Bd_countOf, by decide +kernel, by decide +kernel⟩
abbrev rm_Bd_squaresOf : Room := { frames := 2, cells := 0, slots := 0, locals := 42 }
theorem p_Bd_squaresOf : zPv y_Bd_squaresOf c_Bd_squaresOf 5 (some .long) 1 := ⟨wc_Bd_squaresOf, ws_Bd_squaresOf, wv_Bd_squaresOf, wn_Bd_squaresOf, by decide +kernel, by decide +kernel⟩
abbrev rm_Bd_holds : Room := { frames := 1, cells := 0, slots := 0, locals := 20 }
theorem p_Bd_holds : zPv y_Bd_holds c_Bd_holds 3 (some .boolean) 2 := ⟨wc_Bd_holds, ws_Bd_holds, wv_Bd_holds, wn_Bd_holds, by decide +kernel, by decide +kernel⟩
abbrev rm_Pc_sideOf : Room := { frames := 0, cells := 0, slots := 0, locals := 0 }
theorem p_Pc_sideOf : zPs y_Pc_sideOf c_Pc_sideOf 1 (some .int) 1 := ⟨wc_Pc_sideOf, ws_Pc_sideOf, wn_Pc_sideOf, by decide +kernel, by decide +kernel⟩
abbrev rm_Jl_bitCount : Room := { frames := 0, cells := 0, slots := 0, locals := 0 }
theorem p_Jl_bitCount : zPs y_Jl_bitCount c_Jl_bitCount 2 (some .int) 1 := ⟨wc_Jl_bitCount, ws_Jl_bitCount, wn_Jl_bitCount, by decide +kernel, by decide +kernel⟩
abbrev rm_Bd_leaderSquare : Room := { frames := 2, cells := 0, slots := 0, locals := 42 }
theorem p_Bd_leaderSquare : zPv y_Bd_leaderSquare c_Bd_leaderSquare 3 (some .int) 1 := ⟨wc_Bd_leaderSquare, ws_Bd_leaderSquare, wv_Bd_leaderSquare, wn_Bd_leaderSquare, by decide +kernel, by decide +kernel⟩
abbrev rm_Pc_leads : Room := { frames := 0, cells := 0, slots := 0, locals := 0 }
theorem p_Pc_leads : zPs y_Pc_leads c_Pc_leads 1 (some .boolean) 1 := ⟨wc_Pc_leads, ws_Pc_leads, wn_Pc_leads, by decide +kernel, by decide +kernel⟩
abbrev rm_Hs_remember : Room := { frames := 3, cells := 0, slots := 0, locals := 83 }
theorem p_Hs_remember : zPv y_Hs_remember c_Hs_remember 2 none 1 := ⟨wc_Hs_remember, ws_Hs_remember, wv_Hs_remember, wn_Hs_remember, by decide +kernel, by decide +kernel⟩
abbrev rm_Hs_dropOldest : Room := { frames := 0, cells := 0, slots := 0, locals := 0 }
theorem p_Hs_dropOldest : zPv y_Hs_dropOldest c_Hs_dropOldest 3 none 0 := ⟨wc_Hs_dropOldest, ws_Hs_dropOldest, wv_Hs_dropOldest, wn_Hs_dropOldest, by decide +kernel, by decide +kernel⟩
abbrev rm_Gm_copy : Room := { frames := 2, cells := 0, slots := 0, locals := 61 }
theorem p_Gm_copy : zPv y_Gm_copy c_Gm_copy 3 none 1 := ⟨wc_Gm_copy, ws_Gm_copy, wv_Gm_copy, wn_Gm_copy, by decide +kernel, by decide +kernel⟩
abbrev rm_Bd_copy : Room := { frames := 1, cells := 0, slots := 0, locals := 40 }
theorem p_Bd_copy : zPv y_Bd_copy c_Bd_copy 2 none 1 := ⟨wc_Bd_copy, ws_Bd_copy, wv_Bd_copy, wn_Bd_copy, by decide +kernel, by decide +kernel⟩
abbrev rm_Pc_of : Room := { frames := 0, cells := 0, slots := 0, locals := 0 }
theorem p_Pc_of : zPs y_Pc_of c_Pc_of 3 (some .int) 3 := ⟨wc_Pc_of, ws_Pc_of, wn_Pc_of, by decide +kernel, by decide +kernel⟩
abbrev rm_Gm_addPiece : Room := { frames := 3, cells := 0, slots := 0, locals := 63 }
theorem p_Gm_addPiece : zPv y_Gm_addPiece c_Gm_addPiece 3 none 2 := ⟨wc_Gm_addPiece, ws_Gm_addPiece, wv_Gm_addPiece, wn_Gm_addPiece, by decide +kernel, by decide +kernel⟩
abbrev rm_Bd_set : Room := { frames := 0, cells := 0, slots := 0, locals := 0 }
theorem p_Bd_set : zPv y_Bd_set c_Bd_set 3 none 2 := ⟨wc_Bd_set, ws_Bd_set, wv_Bd_set, wn_Bd_set, by decide +kernel, by decide +kernel⟩
abbrev rm_Pc_worthOf : Room := { frames := 2, cells := 0, slots := 0, locals := 43 }
theorem p_Pc_worthOf : zPs y_Pc_worthOf c_Pc_worthOf 1 (some .int) 1 := ⟨wc_Pc_worthOf, ws_Pc_worthOf, wn_Pc_worthOf, by decide +kernel, by decide +kernel⟩
abbrev rm_Pc_stepsOf : Room := { frames := 0, cells := 0, slots := 0, locals := 0 }
theorem p_Pc_stepsOf : zPs y_Pc_stepsOf c_Pc_stepsOf 1 (some .int) 1 := ⟨wc_Pc_stepsOf, ws_Pc_stepsOf, wn_Pc_stepsOf, by decide +kernel, by decide +kernel⟩
abbrev rm_Pc_worthOfSteps : Room := { frames := 1, cells := 0, slots := 0, locals := 21 }
theorem p_Pc_worthOfSteps : zPs y_Pc_worthOfSteps c_Pc_worthOfSteps 3 (some .int) 1 := ⟨wc_Pc_worthOfSteps, ws_Pc_worthOfSteps, wn_Pc_worthOfSteps, by decide +kernel, by decide +kernel⟩
abbrev rm_Pc_knows : Room := { frames := 0, cells := 0, slots := 0, locals := 0 }
theorem p_Pc_knows : zPs y_Pc_knows c_Pc_knows 2 (some .boolean) 2 := ⟨wc_Pc_knows, ws_Pc_knows, wn_Pc_knows, by decide +kernel, by decide +kernel⟩
abbrev rm_Lw_putLeader : Room := { frames := 9, cells := 3, slots := 18, locals := 157 }
theorem p_Lw_putLeader : zPsX y_Lw_putLeader c_Lw_putLeader 6 (some .int) hh_Lw_putLeader 5 := ⟨wc_Lw_putLeader, ws_Lw_putLeader, wn_Lw_putLeader, by decide +kernel, by decide +kernel⟩
abbrev rm_Xx_putLeader : Room := { frames := 8, cells := 3, slots := 18, locals := 134 }
theorem p_Xx_putLeader : zPv y_Xx_putLeader c_Xx_putLeader 4 (some .int) 3 := ⟨wc_Xx_putLeader, ws_Xx_putLeader, wv_Xx_putLeader, wn_Xx_putLeader, by decide +kernel, by decide +kernel⟩
abbrev rm_Lw_takeAway : Room := { frames := 8, cells := 2, slots := 12, locals := 131 }
theorem p_Lw_takeAway : zPsX y_Lw_takeAway c_Lw_takeAway 4 (some .int) hh_Lw_takeAway 3 := ⟨wc_Lw_takeAway, ws_Lw_takeAway, wn_Lw_takeAway, by decide +kernel, by decide +kernel⟩
abbrev rm_Xx_takeAway : Room := { frames := 7, cells := 2, slots := 12, locals := 110 }
theorem p_Xx_takeAway : zPv y_Xx_takeAway c_Xx_takeAway 2 (some .int) 1 := ⟨wc_Xx_takeAway, ws_Xx_takeAway, wv_Xx_takeAway, wn_Xx_takeAway, by decide +kernel, by decide +kernel⟩
abbrev rm_Gm_removePiece : Room := { frames := 3, cells := 0, slots := 0, locals := 63 }
theorem p_Gm_removePiece : zPv y_Gm_removePiece c_Gm_removePiece 4 (some .int) 1 := ⟨wc_Gm_removePiece, ws_Gm_removePiece, wv_Gm_removePiece, wn_Gm_removePiece, by decide +kernel, by decide +kernel⟩
abbrev rm_Bd_pieceOn : Room := { frames := 0, cells := 0, slots := 0, locals := 0 }
theorem p_Bd_pieceOn : zPv y_Bd_pieceOn c_Bd_pieceOn 2 (some .int) 1 := ⟨wc_Bd_pieceOn, ws_Bd_pieceOn, wv_Bd_pieceOn, wn_Bd_pieceOn, by decide +kernel, by decide +kernel⟩
abbrev rm_Lw_start : Room := { frames := 7, cells := 2, slots := 13, locals := 144 }
theorem p_Lw_start : zPsX y_Lw_start c_Lw_start 3 (some .int) hh_Lw_start 2 := ⟨wc_Lw_start, ws_Lw_start, wn_Lw_start, by decide +kernel, by decide +kernel⟩
abbrev rm_Xx_start : Room := { frames := 6, cells := 2, slots := 13, locals := 124 }
theorem p_Xx_start : zPv y_Xx_start c_Xx_start 1 (some .int) 0 := ⟨wc_Xx_start, ws_Xx_start, wv_Xx_start, wn_Xx_start, by decide +kernel, by decide +kernel⟩
abbrev rm_Gm_canBegin : Room := { frames := 3, cells := 0, slots := 0, locals := 64 }
theorem p_Gm_canBegin : zPv y_Gm_canBegin c_Gm_canBegin 1 (some .boolean) 0 := ⟨wc_Gm_canBegin, ws_Gm_canBegin, wv_Gm_canBegin, wn_Gm_canBegin, by decide +kernel, by decide +kernel⟩
abbrev rm_Gm_begin : Room := { frames := 4, cells := 1, slots := 7, locals := 103 }
theorem p_Gm_begin : zPv y_Gm_begin c_Gm_begin 2 (some .int) 0 := ⟨wc_Gm_begin, ws_Gm_begin, wv_Gm_begin, wn_Gm_begin, by decide +kernel, by decide +kernel⟩
abbrev rm_Bd_movesOf : Room := { frames := 3, cells := 0, slots := 0, locals := 78 }
theorem p_Bd_movesOf : zPv y_Bd_movesOf c_Bd_movesOf 6 (some .int) 1 := ⟨wc_Bd_movesOf, ws_Bd_movesOf, wv_Bd_movesOf, wn_Bd_movesOf, by decide +kernel, by decide +kernel⟩
abbrev rm_Bd_guardedFrom : Room := { frames := 2, cells := 0, slots := 0, locals := 54 }
theorem p_Bd_guardedFrom : zPv y_Bd_guardedFrom c_Bd_guardedFrom 5 (some .long) 1 := ⟨wc_Bd_guardedFrom, ws_Bd_guardedFrom, wv_Bd_guardedFrom, wn_Bd_guardedFrom, by decide +kernel, by decide +kernel⟩
abbrev rm_Bd_linesOfKind : Room := { frames := 1, cells := 0, slots := 0, locals := 29 }
theorem p_Bd_linesOfKind : zPv y_Bd_linesOfKind c_Bd_linesOfKind 6 (some .long) 2 := ⟨wc_Bd_linesOfKind, ws_Bd_linesOfKind, wv_Bd_linesOfKind, wn_Bd_linesOfKind, by decide +kernel, by decide +kernel⟩
abbrev rm_Bd_line : Room := { frames := 0, cells := 0, slots := 0, locals := 0 }
theorem p_Bd_line : zPv y_Bd_line c_Bd_line 10 (some .long) 3 := ⟨wc_Bd_line, ws_Bd_line, wv_Bd_line, wn_Bd_line, by decide +kernel, by decide +kernel⟩
abbrev rm_Ps_init : Room := { frames := 2, cells := 0, slots := 0, locals := 42 }
theorem p_Ps_init : zPk y_Ps_init c_Ps_init 4 3 := ⟨wc_Ps_init, ws_Ps_init, rfl, wn_Ps_init, by decide +kernel, by decide +kernel⟩
abbrev rm_Bd_quarter : Room := { frames := 0, cells := 0, slots := 0, locals := 0 }
theorem p_Bd_quarter : zPv y_Bd_quarter c_Bd_quarter 7 (some .long) 1 := ⟨wc_Bd_quarter, ws_Bd_quarter, wv_Bd_quarter, wn_Bd_quarter, by decide +kernel, by decide +kernel⟩
abbrev rm_Ps_timesBefore : Room := { frames := 1, cells := 0, slots := 0, locals := 21 }
theorem p_Ps_timesBefore : zPv y_Ps_timesBefore c_Ps_timesBefore 2 (some .int) 0 := ⟨wc_Ps_timesBefore, ws_Ps_timesBefore, wv_Ps_timesBefore, wn_Ps_timesBefore, by decide +kernel, by decide +kernel⟩
abbrev rm_Ps_looksLike : Room := { frames := 0, cells := 0, slots := 0, locals := 0 }
theorem p_Ps_looksLike : zPv y_Ps_looksLike c_Ps_looksLike 2 (some .boolean) 1 := ⟨wc_Ps_looksLike, ws_Ps_looksLike, wv_Ps_looksLike, wn_Ps_looksLike, by decide +kernel, by decide +kernel⟩
abbrev rm_Lw_move : Room := { frames := 8, cells := 4, slots := 25, locals := 150 }
theorem p_Lw_move : zPsX y_Lw_move c_Lw_move 5 (some .int) hh_Lw_move 4 := ⟨wc_Lw_move, ws_Lw_move, wn_Lw_move, by decide +kernel, by decide +kernel⟩
abbrev rm_Xx_move : Room := { frames := 7, cells := 4, slots := 25, locals := 128 }
theorem p_Xx_move : zPv y_Xx_move c_Xx_move 3 (some .int) 2 := ⟨wc_Xx_move, ws_Xx_move, wv_Xx_move, wn_Xx_move, by decide +kernel, by decide +kernel⟩
abbrev rm_Gm_reasonAgainst : Room := { frames := 4, cells := 0, slots := 0, locals := 99 }
theorem p_Gm_reasonAgainst : zPv y_Gm_reasonAgainst c_Gm_reasonAgainst 4 (some .int) 2 := ⟨wc_Gm_reasonAgainst, ws_Gm_reasonAgainst, wv_Gm_reasonAgainst, wn_Gm_reasonAgainst, by decide +kernel, by decide +kernel⟩
abbrev rm_Bd_reachFrom : Room := { frames := 3, cells := 0, slots := 0, locals := 78 }
theorem p_Bd_reachFrom : zPv y_Bd_reachFrom c_Bd_reachFrom 2 (some .long) 1 := ⟨wc_Bd_reachFrom, ws_Bd_reachFrom, wv_Bd_reachFrom, wn_Bd_reachFrom, by decide +kernel, by decide +kernel⟩
abbrev rm_Gm_makeMove : Room := { frames := 4, cells := 1, slots := 7, locals := 103 }
theorem p_Gm_makeMove : zPv y_Gm_makeMove c_Gm_makeMove 6 (some .int) 2 := ⟨wc_Gm_makeMove, ws_Gm_makeMove, wv_Gm_makeMove, wn_Gm_makeMove, by decide +kernel, by decide +kernel⟩
abbrev rm_Pc_learnt : Room := { frames := 1, cells := 0, slots := 0, locals := 20 }
theorem p_Pc_learnt : zPs y_Pc_learnt c_Pc_learnt 2 (some .int) 2 := ⟨wc_Pc_learnt, ws_Pc_learnt, wn_Pc_learnt, by decide +kernel, by decide +kernel⟩
abbrev rm_Bd_carry : Room := { frames := 2, cells := 0, slots := 0, locals := 41 }
theorem p_Bd_carry : zPv y_Bd_carry c_Bd_carry 3 none 2 := ⟨wc_Bd_carry, ws_Bd_carry, wv_Bd_carry, wn_Bd_carry, by decide +kernel, by decide +kernel⟩
abbrev rm_Lw_play : Room := { frames := 7, cells := 13, slots := 90, locals := 152 }
theorem p_Lw_play : zPsX y_Lw_play c_Lw_play 3 (some .int) hh_Lw_play 2 := ⟨wc_Lw_play, ws_Lw_play, wn_Lw_play, by decide +kernel, by decide +kernel⟩
abbrev rm_Xx_play : Room := { frames := 6, cells := 13, slots := 90, locals := 128 }
theorem p_Xx_play : zPv y_Xx_play c_Xx_play 5 (some .int) 0 := ⟨wc_Xx_play, ws_Xx_play, wv_Xx_play, wn_Xx_play, by decide +kernel, by decide +kernel⟩
abbrev rm_Tx_movesListed : Room := { frames := 0, cells := 0, slots := 0, locals := 0 }
theorem p_Tx_movesListed : zPv y_Tx_movesListed c_Tx_movesListed 1 (some .int) 0 := ⟨wc_Tx_movesListed, ws_Tx_movesListed, wv_Tx_movesListed, wn_Tx_movesListed, by decide +kernel, by decide +kernel⟩
abbrev rm_Tx_firstSquareOf : Room := { frames := 1, cells := 0, slots := 0, locals := 21 }
theorem p_Tx_firstSquareOf : zPv y_Tx_firstSquareOf c_Tx_firstSquareOf 2 (some .int) 1 := ⟨wc_Tx_firstSquareOf, ws_Tx_firstSquareOf, wv_Tx_firstSquareOf, wn_Tx_firstSquareOf, by decide +kernel, by decide +kernel⟩
abbrev rm_Tx_squareAt : Room := { frames := 0, cells := 0, slots := 0, locals := 0 }
theorem p_Tx_squareAt : zPv y_Tx_squareAt c_Tx_squareAt 2 (some .int) 1 := ⟨wc_Tx_squareAt, ws_Tx_squareAt, wv_Tx_squareAt, wn_Tx_squareAt, by decide +kernel, by decide +kernel⟩
abbrev rm_Tx_secondSquareOf : Room := { frames := 1, cells := 0, slots := 0, locals := 21 }
theorem p_Tx_secondSquareOf : zPv y_Tx_secondSquareOf c_Tx_secondSquareOf 2 (some .int) 1 := ⟨wc_Tx_secondSquareOf, ws_Tx_secondSquareOf, wv_Tx_secondSquareOf, wn_Tx_secondSquareOf, by decide +kernel, by decide +kernel⟩
abbrev rm_Lw_whyNot : Room := { frames := 8, cells := 2, slots := 12, locals := 144 }
theorem p_Lw_whyNot : zPsX y_Lw_whyNot c_Lw_whyNot 5 (some .int) hh_Lw_whyNot 4 := ⟨wc_Lw_whyNot, ws_Lw_whyNot, wn_Lw_whyNot, by decide +kernel, by decide +kernel⟩
abbrev rm_Xx_whyNot : Room := { frames := 7, cells := 2, slots := 12, locals := 122 }
theorem p_Xx_whyNot : zPv y_Xx_whyNot c_Xx_whyNot 3 (some .int) 2 := ⟨wc_Xx_whyNot, ws_Xx_whyNot, wv_Xx_whyNot, wn_Xx_whyNot, by decide +kernel, by decide +kernel⟩
abbrev rm_Lw_append : Room := { frames := 7, cells := 1, slots := 6, locals := 111 }
theorem p_Lw_append : zPsX y_Lw_append c_Lw_append 4 (some .int) hh_Lw_append 3 := ⟨wc_Lw_append, ws_Lw_append, wn_Lw_append, by decide +kernel, by decide +kernel⟩
abbrev rm_Xx_append : Room := { frames := 6, cells := 1, slots := 6, locals := 90 }
theorem p_Xx_append : zPv y_Xx_append c_Xx_append 2 (some .int) 1 := ⟨wc_Xx_append, ws_Xx_append, wv_Xx_append, wn_Xx_append, by decide +kernel, by decide +kernel⟩
abbrev rm_Tx_isFull : Room := { frames := 0, cells := 0, slots := 0, locals := 0 }
theorem p_Tx_isFull : zPv y_Tx_isFull c_Tx_isFull 1 (some .boolean) 0 := ⟨wc_Tx_isFull, ws_Tx_isFull, wv_Tx_isFull, wn_Tx_isFull, by decide +kernel, by decide +kernel⟩
abbrev rm_Tx_add : Room := { frames := 0, cells := 0, slots := 0, locals := 0 }
theorem p_Tx_add : zPv y_Tx_add c_Tx_add 2 (some .int) 1 := ⟨wc_Tx_add, ws_Tx_add, wv_Tx_add, wn_Tx_add, by decide +kernel, by decide +kernel⟩
abbrev rm_Lw_firstError : Room := { frames := 7, cells := 1, slots := 6, locals := 110 }
theorem p_Lw_firstError : zPsX y_Lw_firstError c_Lw_firstError 3 (some .int) hh_Lw_firstError 2 := ⟨wc_Lw_firstError, ws_Lw_firstError, wn_Lw_firstError, by decide +kernel, by decide +kernel⟩
abbrev rm_Xx_firstError : Room := { frames := 6, cells := 1, slots := 6, locals := 90 }
theorem p_Xx_firstError : zPv y_Xx_firstError c_Xx_firstError 1 (some .int) 0 := ⟨wc_Xx_firstError, ws_Xx_firstError, wv_Xx_firstError, wn_Xx_firstError, by decide +kernel, by decide +kernel⟩
abbrev rm_Lw_undo : Room := { frames := 7, cells := 1, slots := 6, locals := 124 }
theorem p_Lw_undo : zPsX y_Lw_undo c_Lw_undo 3 (some .int) hh_Lw_undo 2 := ⟨wc_Lw_undo, ws_Lw_undo, wn_Lw_undo, by decide +kernel, by decide +kernel⟩
abbrev rm_Xx_undo : Room := { frames := 6, cells := 1, slots := 6, locals := 104 }
theorem p_Xx_undo : zPv y_Xx_undo c_Xx_undo 1 (some .int) 0 := ⟨wc_Xx_undo, ws_Xx_undo, wv_Xx_undo, wn_Xx_undo, by decide +kernel, by decide +kernel⟩
abbrev rm_Hs_restore : Room := { frames := 3, cells := 0, slots := 0, locals := 83 }
theorem p_Hs_restore : zPv y_Hs_restore c_Hs_restore 2 none 1 := ⟨wc_Hs_restore, ws_Hs_restore, wv_Hs_restore, wn_Hs_restore, by decide +kernel, by decide +kernel⟩
abbrev rm_Lw_pieces : Room := { frames := 8, cells := 1, slots := 6, locals := 131 }
theorem p_Lw_pieces : zPsX y_Lw_pieces c_Lw_pieces 4 (some .int) hh_Lw_pieces 3 := ⟨wc_Lw_pieces, ws_Lw_pieces, wn_Lw_pieces, by decide +kernel, by decide +kernel⟩
abbrev rm_Xx_pieces : Room := { frames := 7, cells := 1, slots := 6, locals := 110 }
theorem p_Xx_pieces : zPv y_Xx_pieces c_Xx_pieces 2 (some .int) 1 := ⟨wc_Xx_pieces, ws_Xx_pieces, wv_Xx_pieces, wn_Xx_pieces, by decide +kernel, by decide +kernel⟩
abbrev rm_Lw_sideAt : Room := { frames := 9, cells := 2, slots := 12, locals := 152 }
theorem p_Lw_sideAt : zPsX y_Lw_sideAt c_Lw_sideAt 4 (some .int) hh_Lw_sideAt 3 := ⟨wc_Lw_sideAt, ws_Lw_sideAt, wn_Lw_sideAt, by decide +kernel, by decide +kernel⟩
abbrev rm_Xx_sideAt : Room := { frames := 8, cells := 2, slots := 12, locals := 131 }
theorem p_Xx_sideAt : zPv y_Xx_sideAt c_Xx_sideAt 2 (some .int) 1 := ⟨wc_Xx_sideAt, ws_Xx_sideAt, wv_Xx_sideAt, wn_Xx_sideAt, by decide +kernel, by decide +kernel⟩
abbrev rm_Xx_neededPiece : Room := { frames := 7, cells := 2, slots := 12, locals := 110 }
theorem p_Xx_neededPiece : zPv y_Xx_neededPiece c_Xx_neededPiece 2 (some .int) 1 := ⟨wc_Xx_neededPiece, ws_Xx_neededPiece, wv_Xx_neededPiece, wn_Xx_neededPiece, by decide +kernel, by decide +kernel⟩
abbrev rm_Lw_stepsAt : Room := { frames := 9, cells := 2, slots := 12, locals := 152 }
theorem p_Lw_stepsAt : zPsX y_Lw_stepsAt c_Lw_stepsAt 4 (some .int) hh_Lw_stepsAt 3 := ⟨wc_Lw_stepsAt, ws_Lw_stepsAt, wn_Lw_stepsAt, by decide +kernel, by decide +kernel⟩
abbrev rm_Xx_stepsAt : Room := { frames := 8, cells := 2, slots := 12, locals := 131 }
theorem p_Xx_stepsAt : zPv y_Xx_stepsAt c_Xx_stepsAt 2 (some .int) 1 := ⟨wc_Xx_stepsAt, ws_Xx_stepsAt, wv_Xx_stepsAt, wn_Xx_stepsAt, by decide +kernel, by decide +kernel⟩
abbrev rm_Lw_worthAt : Room := { frames := 9, cells := 2, slots := 12, locals := 152 }
theorem p_Lw_worthAt : zPsX y_Lw_worthAt c_Lw_worthAt 4 (some .int) hh_Lw_worthAt 3 := ⟨wc_Lw_worthAt, ws_Lw_worthAt, wn_Lw_worthAt, by decide +kernel, by decide +kernel⟩
abbrev rm_Xx_worthAt : Room := { frames := 8, cells := 2, slots := 12, locals := 131 }
theorem p_Xx_worthAt : zPv y_Xx_worthAt c_Xx_worthAt 2 (some .int) 1 := ⟨wc_Xx_worthAt, ws_Xx_worthAt, wv_Xx_worthAt, wn_Xx_worthAt, by decide +kernel, by decide +kernel⟩
abbrev rm_Lw_leaderOf : Room := { frames := 8, cells := 2, slots := 12, locals := 132 }
theorem p_Lw_leaderOf : zPsX y_Lw_leaderOf c_Lw_leaderOf 4 (some .int) hh_Lw_leaderOf 3 := ⟨wc_Lw_leaderOf, ws_Lw_leaderOf, wn_Lw_leaderOf, by decide +kernel, by decide +kernel⟩
abbrev rm_Xx_leaderOf : Room := { frames := 7, cells := 2, slots := 12, locals := 110 }
theorem p_Xx_leaderOf : zPv y_Xx_leaderOf c_Xx_leaderOf 3 (some .int) 1 := ⟨wc_Xx_leaderOf, ws_Xx_leaderOf, wv_Xx_leaderOf, wn_Xx_leaderOf, by decide +kernel, by decide +kernel⟩
abbrev rm_Lw_knowing : Room := { frames := 8, cells := 2, slots := 12, locals := 132 }
theorem p_Lw_knowing : zPsX y_Lw_knowing c_Lw_knowing 5 (some .int) hh_Lw_knowing 4 := ⟨wc_Lw_knowing, ws_Lw_knowing, wn_Lw_knowing, by decide +kernel, by decide +kernel⟩
abbrev rm_Xx_knowing : Room := { frames := 7, cells := 2, slots := 12, locals := 110 }
theorem p_Xx_knowing : zPv y_Xx_knowing c_Xx_knowing 3 (some .int) 2 := ⟨wc_Xx_knowing, ws_Xx_knowing, wv_Xx_knowing, wn_Xx_knowing, by decide +kernel, by decide +kernel⟩
abbrev rm_Xx_needKind : Room := { frames := 6, cells := 1, slots := 6, locals := 90 }
theorem p_Xx_needKind : zPs y_Xx_needKind c_Xx_needKind 1 none 1 := ⟨wc_Xx_needKind, ws_Xx_needKind, wn_Xx_needKind, by decide +kernel, by decide +kernel⟩
abbrev rm_Bd_knowers : Room := { frames := 2, cells := 0, slots := 0, locals := 42 }
theorem p_Bd_knowers : zPv y_Bd_knowers c_Bd_knowers 6 (some .long) 2 := ⟨wc_Bd_knowers, ws_Bd_knowers, wv_Bd_knowers, wn_Bd_knowers, by decide +kernel, by decide +kernel⟩
abbrev rm_Lw_reach : Room := { frames := 9, cells := 2, slots := 12, locals := 152 }
theorem p_Lw_reach : zPsX y_Lw_reach c_Lw_reach 4 (some .int) hh_Lw_reach 3 := ⟨wc_Lw_reach, ws_Lw_reach, wn_Lw_reach, by decide +kernel, by decide +kernel⟩
abbrev rm_Xx_reach : Room := { frames := 8, cells := 2, slots := 12, locals := 131 }
theorem p_Xx_reach : zPv y_Xx_reach c_Xx_reach 2 (some .long) 1 := ⟨wc_Xx_reach, ws_Xx_reach, wv_Xx_reach, wn_Xx_reach, by decide +kernel, by decide +kernel⟩
abbrev rm_Lw_moveCount : Room := { frames := 8, cells := 1, slots := 6, locals := 131 }
theorem p_Lw_moveCount : zPsX y_Lw_moveCount c_Lw_moveCount 4 (some .int) hh_Lw_moveCount 3 := ⟨wc_Lw_moveCount, ws_Lw_moveCount, wn_Lw_moveCount, by decide +kernel, by decide +kernel⟩
abbrev rm_Xx_moveCount : Room := { frames := 7, cells := 1, slots := 6, locals := 110 }
theorem p_Xx_moveCount : zPv y_Xx_moveCount c_Xx_moveCount 2 (some .int) 1 := ⟨wc_Xx_moveCount, ws_Xx_moveCount, wv_Xx_moveCount, wn_Xx_moveCount, by decide +kernel, by decide +kernel⟩
abbrev rm_Lw_guards : Room := { frames := 8, cells := 2, slots := 12, locals := 132 }
theorem p_Lw_guards : zPsX y_Lw_guards c_Lw_guards 5 (some .int) hh_Lw_guards 4 := ⟨wc_Lw_guards, ws_Lw_guards, wn_Lw_guards, by decide +kernel, by decide +kernel⟩
abbrev rm_Xx_guards : Room := { frames := 7, cells := 2, slots := 12, locals := 110 }
theorem p_Xx_guards : zPv y_Xx_guards c_Xx_guards 3 (some .int) 2 := ⟨wc_Xx_guards, ws_Xx_guards, wv_Xx_guards, wn_Xx_guards, by decide +kernel, by decide +kernel⟩
abbrev rm_Bd_countGuardsAlong : Room := { frames := 3, cells := 0, slots := 0, locals := 78 }
theorem p_Bd_countGuardsAlong : zPv y_Bd_countGuardsAlong c_Bd_countGuardsAlong 5 (some .int) 2 := ⟨wc_Bd_countGuardsAlong, ws_Bd_countGuardsAlong, wv_Bd_countGuardsAlong, wn_Bd_countGuardsAlong, by decide +kernel, by decide +kernel⟩
abbrev rm_Lw_guardsByLooking : Room := { frames := 8, cells := 2, slots := 12, locals := 132 }
theorem p_Lw_guardsByLooking : zPsX y_Lw_guardsByLooking c_Lw_guardsByLooking 5 (some .int) hh_Lw_guardsByLooking 4 := ⟨wc_Lw_guardsByLooking, ws_Lw_guardsByLooking, wn_Lw_guardsByLooking, by decide +kernel, by decide +kernel⟩
abbrev rm_Xx_guardsByLooking : Room := { frames := 7, cells := 2, slots := 12, locals := 110 }
theorem p_Xx_guardsByLooking : zPv y_Xx_guardsByLooking c_Xx_guardsByLooking 3 (some .int) 2 := ⟨wc_Xx_guardsByLooking, ws_Xx_guardsByLooking, wv_Xx_guardsByLooking, wn_Xx_guardsByLooking, by decide +kernel, by decide +kernel⟩
abbrev rm_Bd_guardsSeenFrom : Room := { frames := 3, cells := 0, slots := 0, locals := 67 }
theorem p_Bd_guardsSeenFrom : zPv y_Bd_guardsSeenFrom c_Bd_guardsSeenFrom 6 (some .long) 2 := ⟨wc_Bd_guardsSeenFrom, ws_Bd_guardsSeenFrom, wv_Bd_guardsSeenFrom, wn_Bd_guardsSeenFrom, by decide +kernel, by decide +kernel⟩
abbrev rm_Lw_guarded : Room := { frames := 8, cells := 1, slots := 6, locals := 131 }
theorem p_Lw_guarded : zPsX y_Lw_guarded c_Lw_guarded 4 (some .int) hh_Lw_guarded 3 := ⟨wc_Lw_guarded, ws_Lw_guarded, wn_Lw_guarded, by decide +kernel, by decide +kernel⟩
abbrev rm_Xx_guarded : Room := { frames := 7, cells := 1, slots := 6, locals := 110 }
theorem p_Xx_guarded : zPv y_Xx_guarded c_Xx_guarded 2 (some .long) 1 := ⟨wc_Xx_guarded, ws_Xx_guarded, wv_Xx_guarded, wn_Xx_guarded, by decide +kernel, by decide +kernel⟩
abbrev rm_Bd_guardedBy : Room := { frames := 3, cells := 0, slots := 0, locals := 78 }
theorem p_Bd_guardedBy : zPv y_Bd_guardedBy c_Bd_guardedBy 5 (some .long) 1 := ⟨wc_Bd_guardedBy, ws_Bd_guardedBy, wv_Bd_guardedBy, wn_Bd_guardedBy, by decide +kernel, by decide +kernel⟩
abbrev rm_Lw_exchange : Room := { frames := 27, cells := 2, slots := 12, locals := 638 }
theorem p_Lw_exchange : zPsX y_Lw_exchange c_Lw_exchange 4 (some .int) hh_Lw_exchange 3 := ⟨wc_Lw_exchange, ws_Lw_exchange, wn_Lw_exchange, by decide +kernel, by decide +kernel⟩
abbrev rm_Xx_exchange : Room := { frames := 26, cells := 2, slots := 12, locals := 617 }
theorem p_Xx_exchange : zPv y_Xx_exchange c_Xx_exchange 2 (some .int) 1 := ⟨wc_Xx_exchange, ws_Xx_exchange, wv_Xx_exchange, wn_Xx_exchange, by decide +kernel, by decide +kernel⟩
abbrev rm_Xx_exchangeTried : Room := { frames := 25, cells := 0, slots := 0, locals := 596 }
theorem p_Xx_exchangeTried : zPv y_Xx_exchangeTried c_Xx_exchangeTried 2 (some .int) 1 := ⟨wc_Xx_exchangeTried, ws_Xx_exchangeTried, wv_Xx_exchangeTried, wn_Xx_exchangeTried, by decide +kernel, by decide +kernel⟩
abbrev rm_Xx_exchangeOn : Room := { frames := 24, cells := 0, slots := 0, locals := 572 }
theorem p_Xx_exchangeOn : zPs y_Xx_exchangeOn c_Xx_exchangeOn 5 (some .int) 3 := ⟨wc_Xx_exchangeOn, ws_Xx_exchangeOn, wn_Xx_exchangeOn, by decide +kernel, by decide +kernel⟩
abbrev rm_Bd_cheapestOn : Room := { frames := 3, cells := 0, slots := 0, locals := 63 }
theorem p_Bd_cheapestOn : zPv y_Bd_cheapestOn c_Bd_cheapestOn 7 (some .int) 1 := ⟨wc_Bd_cheapestOn, ws_Bd_cheapestOn, wv_Bd_cheapestOn, wn_Bd_cheapestOn, by decide +kernel, by decide +kernel⟩
abbrev rm_Jm_max : Room := { frames := 0, cells := 0, slots := 0, locals := 0 }
theorem p_Jm_max : zPs y_Jm_max c_Jm_max 2 (some .int) 2 := ⟨wc_Jm_max, ws_Jm_max, wn_Jm_max, by decide +kernel, by decide +kernel⟩
abbrev rm_Lw_weakest : Room := { frames := 27, cells := 2, slots := 12, locals := 642 }
theorem p_Lw_weakest : zPsX y_Lw_weakest c_Lw_weakest 4 (some .int) hh_Lw_weakest 3 := ⟨wc_Lw_weakest, ws_Lw_weakest, wn_Lw_weakest, by decide +kernel, by decide +kernel⟩
abbrev rm_Xx_weakest : Room := { frames := 26, cells := 2, slots := 12, locals := 617 }
theorem p_Xx_weakest : zPv y_Xx_weakest c_Xx_weakest 6 (some .int) 1 := ⟨wc_Xx_weakest, ws_Xx_weakest, wv_Xx_weakest, wn_Xx_weakest, by decide +kernel, by decide +kernel⟩
abbrev rm_Lw_winner : Room := { frames := 7, cells := 1, slots := 6, locals := 110 }
theorem p_Lw_winner : zPsX y_Lw_winner c_Lw_winner 3 (some .int) hh_Lw_winner 2 := ⟨wc_Lw_winner, ws_Lw_winner, wn_Lw_winner, by decide +kernel, by decide +kernel⟩
abbrev rm_Xx_winner : Room := { frames := 6, cells := 1, slots := 6, locals := 90 }
theorem p_Xx_winner : zPv y_Xx_winner c_Xx_winner 1 (some .int) 0 := ⟨wc_Xx_winner, ws_Xx_winner, wv_Xx_winner, wn_Xx_winner, by decide +kernel, by decide +kernel⟩
abbrev rm_Lw_worth : Room := { frames := 8, cells := 1, slots := 6, locals := 131 }
theorem p_Lw_worth : zPsX y_Lw_worth c_Lw_worth 4 (some .int) hh_Lw_worth 3 := ⟨wc_Lw_worth, ws_Lw_worth, wn_Lw_worth, by decide +kernel, by decide +kernel⟩
abbrev rm_Xx_worth : Room := { frames := 7, cells := 1, slots := 6, locals := 110 }
theorem p_Xx_worth : zPv y_Xx_worth c_Xx_worth 2 (some .int) 1 := ⟨wc_Xx_worth, ws_Xx_worth, wv_Xx_worth, wn_Xx_worth, by decide +kernel, by decide +kernel⟩
abbrev rm_Bd_worthOfSide : Room := { frames := 3, cells := 0, slots := 0, locals := 63 }
theorem p_Bd_worthOfSide : zPv y_Bd_worthOfSide c_Bd_worthOfSide 4 (some .int) 1 := ⟨wc_Bd_worthOfSide, ws_Bd_worthOfSide, wv_Bd_worthOfSide, wn_Bd_worthOfSide, by decide +kernel, by decide +kernel⟩
abbrev rm_Lw_worthByAccount : Room := { frames := 8, cells := 1, slots := 6, locals := 131 }
theorem p_Lw_worthByAccount : zPsX y_Lw_worthByAccount c_Lw_worthByAccount 4 (some .int) hh_Lw_worthByAccount 3 := ⟨wc_Lw_worthByAccount, ws_Lw_worthByAccount, wn_Lw_worthByAccount, by decide +kernel, by decide +kernel⟩
abbrev rm_Xx_worthByAccount : Room := { frames := 7, cells := 1, slots := 6, locals := 110 }
theorem p_Xx_worthByAccount : zPv y_Xx_worthByAccount c_Xx_worthByAccount 2 (some .int) 1 := ⟨wc_Xx_worthByAccount, ws_Xx_worthByAccount, wv_Xx_worthByAccount, wn_Xx_worthByAccount, by decide +kernel, by decide +kernel⟩
abbrev rm_Lw_captured : Room := { frames := 8, cells := 1, slots := 6, locals := 131 }
theorem p_Lw_captured : zPsX y_Lw_captured c_Lw_captured 4 (some .int) hh_Lw_captured 3 := ⟨wc_Lw_captured, ws_Lw_captured, wn_Lw_captured, by decide +kernel, by decide +kernel⟩
abbrev rm_Xx_captured : Room := { frames := 7, cells := 1, slots := 6, locals := 110 }
theorem p_Xx_captured : zPv y_Xx_captured c_Xx_captured 2 (some .int) 1 := ⟨wc_Xx_captured, ws_Xx_captured, wv_Xx_captured, wn_Xx_captured, by decide +kernel, by decide +kernel⟩
abbrev rm_Lw_worthShare : Room := { frames := 8, cells := 1, slots := 6, locals := 132 }
theorem p_Lw_worthShare : zPsX y_Lw_worthShare c_Lw_worthShare 4 (some .int) hh_Lw_worthShare 3 := ⟨wc_Lw_worthShare, ws_Lw_worthShare, wn_Lw_worthShare, by decide +kernel, by decide +kernel⟩
abbrev rm_Xx_worthShare : Room := { frames := 7, cells := 1, slots := 6, locals := 110 }
theorem p_Xx_worthShare : zPv y_Xx_worthShare c_Xx_worthShare 3 (some .double) 1 := ⟨wc_Xx_worthShare, ws_Xx_worthShare, wv_Xx_worthShare, wn_Xx_worthShare, by decide +kernel, by decide +kernel⟩
abbrev rm_Mm_init : Room := { frames := 1, cells := 6, slots := 6796, locals := 20 }
theorem p_Mm_init : zPk y_Mm_init c_Mm_init 1 0 := ⟨wc_Mm_init, ws_Mm_init, rfl, wn_Mm_init, by decide +kernel, by decide +kernel⟩
abbrev rm_Mm_thrown : Room := { frames := 0, cells := 0, slots := 0, locals := 0 }
theorem p_Mm_thrown : zPv y_Mm_thrown c_Mm_thrown 1 (some .int) 0 := ⟨wc_Mm_thrown, ws_Mm_thrown, wv_Mm_thrown, wn_Mm_thrown, by decide +kernel, by decide +kernel⟩
abbrev rm_Mm_undo : Room := { frames := 1, cells := 0, slots := 0, locals := 21 }
theorem p_Mm_undo : zPv y_Mm_undo c_Mm_undo 2 (some .int) 0 := ⟨wc_Mm_undo, ws_Mm_undo, wv_Mm_undo, wn_Mm_undo, by decide +kernel, by decide +kernel⟩
abbrev rm_Mm_asks : Room := { frames := 0, cells := 0, slots := 0, locals := 0 }
theorem p_Mm_asks : zPv y_Mm_asks c_Mm_asks 2 (some .boolean) 1 := ⟨wc_Mm_asks, ws_Mm_asks, wv_Mm_asks, wn_Mm_asks, by decide +kernel, by decide +kernel⟩
abbrev rm_Mm_historySize : Room := { frames := 1, cells := 0, slots := 0, locals := 21 }
theorem p_Mm_historySize : zPv y_Mm_historySize c_Mm_historySize 1 (some .int) 0 := ⟨wc_Mm_historySize, ws_Mm_historySize, wv_Mm_historySize, wn_Mm_historySize, by decide +kernel, by decide +kernel⟩
abbrev rm_Mm_says : Room := { frames := 0, cells := 0, slots := 0, locals := 0 }
theorem p_Mm_says : zPv y_Mm_says c_Mm_says 2 (some .int) 1 := ⟨wc_Mm_says, ws_Mm_says, wv_Mm_says, wn_Mm_says, by decide +kernel, by decide +kernel⟩
abbrev rm_Mm_putPiece : Room := { frames := 3, cells := 0, slots := 0, locals := 67 }
theorem p_Mm_putPiece : zPv y_Mm_putPiece c_Mm_putPiece 4 (some .int) 3 := ⟨wc_Mm_putPiece, ws_Mm_putPiece, wv_Mm_putPiece, wn_Mm_putPiece, by decide +kernel, by decide +kernel⟩
abbrev rm_Mm_isSide : Room := { frames := 1, cells := 0, slots := 0, locals := 22 }
theorem p_Mm_isSide : zPs y_Mm_isSide c_Mm_isSide 1 (some .boolean) 1 := ⟨wc_Mm_isSide, ws_Mm_isSide, wn_Mm_isSide, by decide +kernel, by decide +kernel⟩
abbrev rm_Mm_in : Room := { frames := 0, cells := 0, slots := 0, locals := 0 }
theorem p_Mm_in : zPs y_Mm_in c_Mm_in 3 (some .boolean) 3 := ⟨wc_Mm_in, ws_Mm_in, wn_Mm_in, by decide +kernel, by decide +kernel⟩
abbrev rm_Mm_isSquare : Room := { frames := 1, cells := 0, slots := 0, locals := 22 }
theorem p_Mm_isSquare : zPs y_Mm_isSquare c_Mm_isSquare 1 (some .boolean) 1 := ⟨wc_Mm_isSquare, ws_Mm_isSquare, wn_Mm_isSquare, by decide +kernel, by decide +kernel⟩
abbrev rm_Mm_asksThen : Room := { frames := 0, cells := 0, slots := 0, locals := 0 }
theorem p_Mm_asksThen : zPv y_Mm_asksThen c_Mm_asksThen 3 (some .boolean) 2 := ⟨wc_Mm_asksThen, ws_Mm_asksThen, wv_Mm_asksThen, wn_Mm_asksThen, by decide +kernel, by decide +kernel⟩
abbrev rm_Mm_canPut : Room := { frames := 2, cells := 0, slots := 0, locals := 43 }
theorem p_Mm_canPut : zPv y_Mm_canPut c_Mm_canPut 3 (some .boolean) 2 := ⟨wc_Mm_canPut, ws_Mm_canPut, wv_Mm_canPut, wn_Mm_canPut, by decide +kernel, by decide +kernel⟩
abbrev rm_Mm_count : Room := { frames := 1, cells := 0, slots := 0, locals := 20 }
theorem p_Mm_count : zPv y_Mm_count c_Mm_count 4 (some .int) 1 := ⟨wc_Mm_count, ws_Mm_count, wv_Mm_count, wn_Mm_count, by decide +kernel, by decide +kernel⟩
abbrev rm_Mm_sideOf : Room := { frames := 0, cells := 0, slots := 0, locals := 0 }
theorem p_Mm_sideOf : zPs y_Mm_sideOf c_Mm_sideOf 1 (some .int) 1 := ⟨wc_Mm_sideOf, ws_Mm_sideOf, wn_Mm_sideOf, by decide +kernel, by decide +kernel⟩
abbrev rm_Mm_puts : Room := { frames := 2, cells := 0, slots := 0, locals := 43 }
theorem p_Mm_puts : zPv y_Mm_puts c_Mm_puts 5 (some .int) 4 := ⟨wc_Mm_puts, ws_Mm_puts, wv_Mm_puts, wn_Mm_puts, by decide +kernel, by decide +kernel⟩
abbrev rm_Mm_record : Room := { frames := 0, cells := 0, slots := 0, locals := 0 }
theorem p_Mm_record : zPv y_Mm_record c_Mm_record 2 none 0 := ⟨wc_Mm_record, ws_Mm_record, wv_Mm_record, wn_Mm_record, by decide +kernel, by decide +kernel⟩
abbrev rm_Mm_worthOf : Room := { frames := 1, cells := 0, slots := 0, locals := 20 }
theorem p_Mm_worthOf : zPs y_Mm_worthOf c_Mm_worthOf 1 (some .int) 1 := ⟨wc_Mm_worthOf, ws_Mm_worthOf, wn_Mm_worthOf, by decide +kernel, by decide +kernel⟩
abbrev rm_Mm_stepsOf : Room := { frames := 0, cells := 0, slots := 0, locals := 0 }
theorem p_Mm_stepsOf : zPs y_Mm_stepsOf c_Mm_stepsOf 1 (some .int) 1 := ⟨wc_Mm_stepsOf, ws_Mm_stepsOf, wn_Mm_stepsOf, by decide +kernel, by decide +kernel⟩
abbrev rm_Mm_stepsWorth : Room := { frames := 0, cells := 0, slots := 0, locals := 0 }
theorem p_Mm_stepsWorth : zPs y_Mm_stepsWorth c_Mm_stepsWorth 1 (some .int) 1 := ⟨wc_Mm_stepsWorth, ws_Mm_stepsWorth, wn_Mm_stepsWorth, by decide +kernel, by decide +kernel⟩
abbrev rm_Mm_leads : Room := { frames := 0, cells := 0, slots := 0, locals := 0 }
theorem p_Mm_leads : zPs y_Mm_leads c_Mm_leads 1 (some .boolean) 1 := ⟨wc_Mm_leads, ws_Mm_leads, wn_Mm_leads, by decide +kernel, by decide +kernel⟩
abbrev rm_Mm_putLeader : Room := { frames := 3, cells := 0, slots := 0, locals := 67 }
theorem p_Mm_putLeader : zPv y_Mm_putLeader c_Mm_putLeader 4 (some .int) 3 := ⟨wc_Mm_putLeader, ws_Mm_putLeader, wv_Mm_putLeader, wn_Mm_putLeader, by decide +kernel, by decide +kernel⟩
abbrev rm_Mm_leader : Room := { frames := 1, cells := 0, slots := 0, locals := 20 }
theorem p_Mm_leader : zPv y_Mm_leader c_Mm_leader 4 (some .int) 1 := ⟨wc_Mm_leader, ws_Mm_leader, wv_Mm_leader, wn_Mm_leader, by decide +kernel, by decide +kernel⟩
abbrev rm_Mm_takeAway : Room := { frames := 2, cells := 0, slots := 0, locals := 42 }
theorem p_Mm_takeAway : zPv y_Mm_takeAway c_Mm_takeAway 3 (some .int) 1 := ⟨wc_Mm_takeAway, ws_Mm_takeAway, wv_Mm_takeAway, wn_Mm_takeAway, by decide +kernel, by decide +kernel⟩
abbrev rm_Mm_start : Room := { frames := 6, cells := 0, slots := 0, locals := 146 }
theorem p_Mm_start : zPv y_Mm_start c_Mm_start 2 (some .int) 0 := ⟨wc_Mm_start, ws_Mm_start, wv_Mm_start, wn_Mm_start, by decide +kernel, by decide +kernel⟩
abbrev rm_Mm_movesOf : Room := { frames := 5, cells := 0, slots := 0, locals := 122 }
theorem p_Mm_movesOf : zPv y_Mm_movesOf c_Mm_movesOf 5 (some .int) 1 := ⟨wc_Mm_movesOf, ws_Mm_movesOf, wv_Mm_movesOf, wn_Mm_movesOf, by decide +kernel, by decide +kernel⟩
abbrev rm_Mm_canMove : Room := { frames := 4, cells := 0, slots := 0, locals := 100 }
theorem p_Mm_canMove : zPv y_Mm_canMove c_Mm_canMove 3 (some .boolean) 2 := ⟨wc_Mm_canMove, ws_Mm_canMove, wv_Mm_canMove, wn_Mm_canMove, by decide +kernel, by decide +kernel⟩
abbrev rm_Mm_goes : Room := { frames := 3, cells := 0, slots := 0, locals := 74 }
theorem p_Mm_goes : zPv y_Mm_goes c_Mm_goes 7 (some .boolean) 4 := ⟨wc_Mm_goes, ws_Mm_goes, wv_Mm_goes, wn_Mm_goes, by decide +kernel, by decide +kernel⟩
abbrev rm_Mm_leadsBy : Room := { frames := 2, cells := 0, slots := 0, locals := 47 }
theorem p_Mm_leadsBy : zPv y_Mm_leadsBy c_Mm_leadsBy 8 (some .boolean) 4 := ⟨wc_Mm_leadsBy, ws_Mm_leadsBy, wv_Mm_leadsBy, wn_Mm_leadsBy, by decide +kernel, by decide +kernel⟩
abbrev rm_Mm_size : Room := { frames := 0, cells := 0, slots := 0, locals := 0 }
theorem p_Mm_size : zPs y_Mm_size c_Mm_size 1 (some .int) 1 := ⟨wc_Mm_size, ws_Mm_size, wn_Mm_size, by decide +kernel, by decide +kernel⟩
abbrev rm_Mm_isClear : Room := { frames := 1, cells := 0, slots := 0, locals := 20 }
theorem p_Mm_isClear : zPv y_Mm_isClear c_Mm_isClear 8 (some .boolean) 3 := ⟨wc_Mm_isClear, ws_Mm_isClear, wv_Mm_isClear, wn_Mm_isClear, by decide +kernel, by decide +kernel⟩
abbrev rm_Mm_sign : Room := { frames := 0, cells := 0, slots := 0, locals := 0 }
theorem p_Mm_sign : zPs y_Mm_sign c_Mm_sign 1 (some .int) 1 := ⟨wc_Mm_sign, ws_Mm_sign, wn_Mm_sign, by decide +kernel, by decide +kernel⟩
abbrev rm_Mm_move : Room := { frames := 7, cells := 0, slots := 0, locals := 172 }
theorem p_Mm_move : zPv y_Mm_move c_Mm_move 3 (some .int) 2 := ⟨wc_Mm_move, ws_Mm_move, wv_Mm_move, wn_Mm_move, by decide +kernel, by decide +kernel⟩
abbrev rm_Mm_why : Room := { frames := 5, cells := 0, slots := 0, locals := 122 }
theorem p_Mm_why : zPv y_Mm_why c_Mm_why 3 (some .int) 2 := ⟨wc_Mm_why, ws_Mm_why, wv_Mm_why, wn_Mm_why, by decide +kernel, by decide +kernel⟩
abbrev rm_Mm_moves : Room := { frames := 6, cells := 0, slots := 0, locals := 146 }
theorem p_Mm_moves : zPv y_Mm_moves c_Mm_moves 7 (some .int) 2 := ⟨wc_Mm_moves, ws_Mm_moves, wv_Mm_moves, wn_Mm_moves, by decide +kernel, by decide +kernel⟩
abbrev rm_Mm_learns : Room := { frames := 1, cells := 0, slots := 0, locals := 20 }
theorem p_Mm_learns : zPs y_Mm_learns c_Mm_learns 2 (some .int) 2 := ⟨wc_Mm_learns, ws_Mm_learns, wn_Mm_learns, by decide +kernel, by decide +kernel⟩
abbrev rm_Mm_times : Room := { frames := 0, cells := 0, slots := 0, locals := 0 }
theorem p_Mm_times : zPv y_Mm_times c_Mm_times 7 (some .int) 0 := ⟨wc_Mm_times, ws_Mm_times, wv_Mm_times, wn_Mm_times, by decide +kernel, by decide +kernel⟩
abbrev rm_Mm_whyNot : Room := { frames := 6, cells := 0, slots := 0, locals := 144 }
theorem p_Mm_whyNot : zPv y_Mm_whyNot c_Mm_whyNot 3 (some .int) 2 := ⟨wc_Mm_whyNot, ws_Mm_whyNot, wv_Mm_whyNot, wn_Mm_whyNot, by decide +kernel, by decide +kernel⟩
abbrev rm_Mm_append : Room := { frames := 1, cells := 0, slots := 0, locals := 21 }
theorem p_Mm_append : zPv y_Mm_append c_Mm_append 2 (some .int) 1 := ⟨wc_Mm_append, ws_Mm_append, wv_Mm_append, wn_Mm_append, by decide +kernel, by decide +kernel⟩
abbrev rm_Mm_clearText : Room := { frames := 1, cells := 0, slots := 0, locals := 21 }
theorem p_Mm_clearText : zPv y_Mm_clearText c_Mm_clearText 2 (some .int) 0 := ⟨wc_Mm_clearText, ws_Mm_clearText, wv_Mm_clearText, wn_Mm_clearText, by decide +kernel, by decide +kernel⟩
abbrev rm_Mm_isValid : Room := { frames := 2, cells := 0, slots := 0, locals := 46 }
theorem p_Mm_isValid : zPv y_Mm_isValid c_Mm_isValid 1 (some .boolean) 0 := ⟨wc_Mm_isValid, ws_Mm_isValid, wv_Mm_isValid, wn_Mm_isValid, by decide +kernel, by decide +kernel⟩
abbrev rm_Mm_fault : Room := { frames := 1, cells := 0, slots := 0, locals := 22 }
theorem p_Mm_fault : zPv y_Mm_fault c_Mm_fault 5 (some .int) 0 := ⟨wc_Mm_fault, ws_Mm_fault, wv_Mm_fault, wn_Mm_fault, by decide +kernel, by decide +kernel⟩
abbrev rm_Mm_firstError : Room := { frames := 2, cells := 0, slots := 0, locals := 46 }
theorem p_Mm_firstError : zPv y_Mm_firstError c_Mm_firstError 1 (some .int) 0 := ⟨wc_Mm_firstError, ws_Mm_firstError, wv_Mm_firstError, wn_Mm_firstError, by decide +kernel, by decide +kernel⟩
abbrev rm_Mm_play : Room := { frames := 7, cells := 0, slots := 0, locals := 172 }
theorem p_Mm_play : zPv y_Mm_play c_Mm_play 4 (some .int) 0 := ⟨wc_Mm_play, ws_Mm_play, wv_Mm_play, wn_Mm_play, by decide +kernel, by decide +kernel⟩
abbrev rm_Mm_written : Room := { frames := 0, cells := 0, slots := 0, locals := 0 }
theorem p_Mm_written : zPv y_Mm_written c_Mm_written 2 (some .int) 1 := ⟨wc_Mm_written, ws_Mm_written, wv_Mm_written, wn_Mm_written, by decide +kernel, by decide +kernel⟩
abbrev rm_Mm_pieces : Room := { frames := 2, cells := 0, slots := 0, locals := 43 }
theorem p_Mm_pieces : zPv y_Mm_pieces c_Mm_pieces 2 (some .int) 1 := ⟨wc_Mm_pieces, ws_Mm_pieces, wv_Mm_pieces, wn_Mm_pieces, by decide +kernel, by decide +kernel⟩
abbrev rm_Mm_sideAt : Room := { frames := 3, cells := 0, slots := 0, locals := 63 }
theorem p_Mm_sideAt : zPv y_Mm_sideAt c_Mm_sideAt 2 (some .int) 1 := ⟨wc_Mm_sideAt, ws_Mm_sideAt, wv_Mm_sideAt, wn_Mm_sideAt, by decide +kernel, by decide +kernel⟩
abbrev rm_Mm_asksPiece : Room := { frames := 2, cells := 0, slots := 0, locals := 42 }
theorem p_Mm_asksPiece : zPv y_Mm_asksPiece c_Mm_asksPiece 2 (some .boolean) 1 := ⟨wc_Mm_asksPiece, ws_Mm_asksPiece, wv_Mm_asksPiece, wn_Mm_asksPiece, by decide +kernel, by decide +kernel⟩
abbrev rm_Mm_stepsAt : Room := { frames := 3, cells := 0, slots := 0, locals := 63 }
theorem p_Mm_stepsAt : zPv y_Mm_stepsAt c_Mm_stepsAt 2 (some .int) 1 := ⟨wc_Mm_stepsAt, ws_Mm_stepsAt, wv_Mm_stepsAt, wn_Mm_stepsAt, by decide +kernel, by decide +kernel⟩
abbrev rm_Mm_worthAt : Room := { frames := 3, cells := 0, slots := 0, locals := 63 }
theorem p_Mm_worthAt : zPv y_Mm_worthAt c_Mm_worthAt 2 (some .int) 1 := ⟨wc_Mm_worthAt, ws_Mm_worthAt, wv_Mm_worthAt, wn_Mm_worthAt, by decide +kernel, by decide +kernel⟩
abbrev rm_Mm_leaderOf : Room := { frames := 2, cells := 0, slots := 0, locals := 43 }
theorem p_Mm_leaderOf : zPv y_Mm_leaderOf c_Mm_leaderOf 2 (some .int) 1 := ⟨wc_Mm_leaderOf, ws_Mm_leaderOf, wv_Mm_leaderOf, wn_Mm_leaderOf, by decide +kernel, by decide +kernel⟩
abbrev rm_Mm_knowing : Room := { frames := 2, cells := 0, slots := 0, locals := 42 }
theorem p_Mm_knowing : zPv y_Mm_knowing c_Mm_knowing 5 (some .int) 2 := ⟨wc_Mm_knowing, ws_Mm_knowing, wv_Mm_knowing, wn_Mm_knowing, by decide +kernel, by decide +kernel⟩
abbrev rm_Mm_reach : Room := { frames := 6, cells := 0, slots := 0, locals := 146 }
theorem p_Mm_reach : zPv y_Mm_reach c_Mm_reach 2 (some .long) 1 := ⟨wc_Mm_reach, ws_Mm_reach, wv_Mm_reach, wn_Mm_reach, by decide +kernel, by decide +kernel⟩
abbrev rm_Mm_reached : Room := { frames := 5, cells := 0, slots := 0, locals := 122 }
theorem p_Mm_reached : zPv y_Mm_reached c_Mm_reached 5 (some .long) 1 := ⟨wc_Mm_reached, ws_Mm_reached, wv_Mm_reached, wn_Mm_reached, by decide +kernel, by decide +kernel⟩
abbrev rm_Mm_moveCount : Room := { frames := 6, cells := 0, slots := 0, locals := 146 }
theorem p_Mm_moveCount : zPv y_Mm_moveCount c_Mm_moveCount 2 (some .int) 1 := ⟨wc_Mm_moveCount, ws_Mm_moveCount, wv_Mm_moveCount, wn_Mm_moveCount, by decide +kernel, by decide +kernel⟩
abbrev rm_Mm_guards : Room := { frames := 5, cells := 0, slots := 0, locals := 124 }
theorem p_Mm_guards : zPv y_Mm_guards c_Mm_guards 3 (some .int) 2 := ⟨wc_Mm_guards, ws_Mm_guards, wv_Mm_guards, wn_Mm_guards, by decide +kernel, by decide +kernel⟩
abbrev rm_Mm_guarding : Room := { frames := 4, cells := 0, slots := 0, locals := 100 }
theorem p_Mm_guarding : zPv y_Mm_guarding c_Mm_guarding 5 (some .int) 2 := ⟨wc_Mm_guarding, ws_Mm_guarding, wv_Mm_guarding, wn_Mm_guarding, by decide +kernel, by decide +kernel⟩
abbrev rm_Mm_guardsByLooking : Room := { frames := 5, cells := 0, slots := 0, locals := 124 }
theorem p_Mm_guardsByLooking : zPv y_Mm_guardsByLooking c_Mm_guardsByLooking 3 (some .int) 2 := ⟨wc_Mm_guardsByLooking, ws_Mm_guardsByLooking, wv_Mm_guardsByLooking, wn_Mm_guardsByLooking, by decide +kernel, by decide +kernel⟩
abbrev rm_Mm_guarded : Room := { frames := 5, cells := 0, slots := 0, locals := 124 }
theorem p_Mm_guarded : zPv y_Mm_guarded c_Mm_guarded 5 (some .long) 1 := ⟨wc_Mm_guarded, ws_Mm_guarded, wv_Mm_guarded, wn_Mm_guarded, by decide +kernel, by decide +kernel⟩
abbrev rm_Mm_exchange : Room := { frames := 6, cells := 0, slots := 0, locals := 150 }
theorem p_Mm_exchange : zPv y_Mm_exchange c_Mm_exchange 2 (some .int) 1 := ⟨wc_Mm_exchange, ws_Mm_exchange, wv_Mm_exchange, wn_Mm_exchange, by decide +kernel, by decide +kernel⟩
abbrev rm_Mm_exchanged : Room := { frames := 5, cells := 0, slots := 0, locals := 125 }
theorem p_Mm_exchanged : zPv y_Mm_exchanged c_Mm_exchanged 6 (some .int) 1 := ⟨wc_Mm_exchanged, ws_Mm_exchanged, wv_Mm_exchanged, wn_Mm_exchanged, by decide +kernel, by decide +kernel⟩
abbrev rm_Mm_capturer : Room := { frames := 4, cells := 0, slots := 0, locals := 100 }
theorem p_Mm_capturer : zPv y_Mm_capturer c_Mm_capturer 6 (some .int) 2 := ⟨wc_Mm_capturer, ws_Mm_capturer, wv_Mm_capturer, wn_Mm_capturer, by decide +kernel, by decide +kernel⟩
abbrev rm_Mm_weakest : Room := { frames := 7, cells := 0, slots := 0, locals := 175 }
theorem p_Mm_weakest : zPv y_Mm_weakest c_Mm_weakest 3 (some .int) 1 := ⟨wc_Mm_weakest, ws_Mm_weakest, wv_Mm_weakest, wn_Mm_weakest, by decide +kernel, by decide +kernel⟩
abbrev rm_Mm_weak : Room := { frames := 6, cells := 0, slots := 0, locals := 150 }
theorem p_Mm_weak : zPv y_Mm_weak c_Mm_weak 6 (some .int) 1 := ⟨wc_Mm_weak, ws_Mm_weak, wv_Mm_weak, wn_Mm_weak, by decide +kernel, by decide +kernel⟩
abbrev rm_Mm_toMove : Room := { frames := 1, cells := 0, slots := 0, locals := 21 }
theorem p_Mm_toMove : zPv y_Mm_toMove c_Mm_toMove 1 (some .int) 0 := ⟨wc_Mm_toMove, ws_Mm_toMove, wv_Mm_toMove, wn_Mm_toMove, by decide +kernel, by decide +kernel⟩
abbrev rm_Mm_isOver : Room := { frames := 0, cells := 0, slots := 0, locals := 0 }
theorem p_Mm_isOver : zPv y_Mm_isOver c_Mm_isOver 1 (some .boolean) 0 := ⟨wc_Mm_isOver, ws_Mm_isOver, wv_Mm_isOver, wn_Mm_isOver, by decide +kernel, by decide +kernel⟩
abbrev rm_Mm_winner : Room := { frames := 1, cells := 0, slots := 0, locals := 21 }
theorem p_Mm_winner : zPv y_Mm_winner c_Mm_winner 1 (some .int) 0 := ⟨wc_Mm_winner, ws_Mm_winner, wv_Mm_winner, wn_Mm_winner, by decide +kernel, by decide +kernel⟩
abbrev rm_Mm_repetitions : Room := { frames := 1, cells := 0, slots := 0, locals := 26 }
theorem p_Mm_repetitions : zPv y_Mm_repetitions c_Mm_repetitions 1 (some .int) 0 := ⟨wc_Mm_repetitions, ws_Mm_repetitions, wv_Mm_repetitions, wn_Mm_repetitions, by decide +kernel, by decide +kernel⟩
abbrev rm_Mm_movesMade : Room := { frames := 1, cells := 0, slots := 0, locals := 21 }
theorem p_Mm_movesMade : zPv y_Mm_movesMade c_Mm_movesMade 1 (some .int) 0 := ⟨wc_Mm_movesMade, ws_Mm_movesMade, wv_Mm_movesMade, wn_Mm_movesMade, by decide +kernel, by decide +kernel⟩
abbrev rm_Mm_worth : Room := { frames := 3, cells := 0, slots := 0, locals := 63 }
theorem p_Mm_worth : zPv y_Mm_worth c_Mm_worth 2 (some .int) 1 := ⟨wc_Mm_worth, ws_Mm_worth, wv_Mm_worth, wn_Mm_worth, by decide +kernel, by decide +kernel⟩
abbrev rm_Mm_all : Room := { frames := 2, cells := 0, slots := 0, locals := 40 }
theorem p_Mm_all : zPv y_Mm_all c_Mm_all 4 (some .int) 1 := ⟨wc_Mm_all, ws_Mm_all, wv_Mm_all, wn_Mm_all, by decide +kernel, by decide +kernel⟩
abbrev rm_Mm_worthByAccount : Room := { frames := 2, cells := 0, slots := 0, locals := 42 }
theorem p_Mm_worthByAccount : zPv y_Mm_worthByAccount c_Mm_worthByAccount 2 (some .int) 1 := ⟨wc_Mm_worthByAccount, ws_Mm_worthByAccount, wv_Mm_worthByAccount, wn_Mm_worthByAccount, by decide +kernel, by decide +kernel⟩
abbrev rm_Mm_captured : Room := { frames := 2, cells := 0, slots := 0, locals := 42 }
theorem p_Mm_captured : zPv y_Mm_captured c_Mm_captured 2 (some .int) 1 := ⟨wc_Mm_captured, ws_Mm_captured, wv_Mm_captured, wn_Mm_captured, by decide +kernel, by decide +kernel⟩
abbrev rm_Mm_worthShare : Room := { frames := 3, cells := 0, slots := 0, locals := 63 }
theorem p_Mm_worthShare : zPv y_Mm_worthShare c_Mm_worthShare 3 (some .double) 1 := ⟨wc_Mm_worthShare, ws_Mm_worthShare, wv_Mm_worthShare, wn_Mm_worthShare, by decide +kernel, by decide +kernel⟩
theorem cl_Jl_314 : Cond.constantLong R_Jl 314 (6148914691236517205) ∈ zWs := zmem 351 (by decide +kernel) rfl
theorem cl_Jl_316 : Cond.constantLong R_Jl 316 (3689348814741910323) ∈ zWs := zmem 352 (by decide +kernel) rfl
theorem cl_Jl_318 : Cond.constantLong R_Jl 318 (1085102592571150095) ∈ zWs := zmem 353 (by decide +kernel) rfl
theorem cl_Bd_81 : Cond.constantLong R_Bd 81 (-1) ∈ zWs := zmem 492 (by decide +kernel) rfl
/-- a board among the cells: its row of squares lies behind it -/
def isB (b : Nat) : Prop := (∀ (D : zD) (v : Nat → Int32) (r : Nat → Value), mk D b v r = (0, 0, fun _ => .ref (D.1 (b + 1)))) ∧ (∀ (D : zD) (v : Nat → Int32) (r : Nat → Value), mk D (b + 1) v r = (10, 36, fun k => .int (v k))) ∧ b < 45 ∧ ∀ k, mkW (b + 1) k = true
theorem isB_i {b : Nat} (h : isB b) : b < 53 := by have := h.2.2.1; omega
theorem isB_j {b : Nat} (h : isB b) : b + 1 < 53 := by have := h.2.2.1; omega
theorem isB_k {b : Nat} (h : isB b) : b + 1 < 46 := by have := h.2.2.1; omega
theorem isB_2 : isB 2 := ⟨fun _ _ _ => rfl, fun _ _ _ => rfl, by decide, fun _ => rfl⟩
theorem isB_9 : isB 9 := ⟨fun _ _ _ => rfl, fun _ _ _ => rfl, by decide, fun _ => rfl⟩
theorem isB_14 : isB 14 := ⟨fun _ _ _ => rfl, fun _ _ _ => rfl, by decide, fun _ => rfl⟩
theorem isB_19 : isB 19 := ⟨fun _ _ _ => rfl, fun _ _ _ => rfl, by decide, fun _ => rfl⟩
theorem isB_24 : isB 24 := ⟨fun _ _ _ => rfl, fun _ _ _ => rfl, by decide, fun _ => rfl⟩
theorem isB_29 : isB 29 := ⟨fun _ _ _ => rfl, fun _ _ _ => rfl, by decide, fun _ => rfl⟩
theorem isB_35 : isB 35 := ⟨fun _ _ _ => rfl, fun _ _ _ => rfl, by decide, fun _ => rfl⟩
