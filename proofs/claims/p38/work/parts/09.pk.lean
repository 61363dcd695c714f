/-! ===== rooms of the methods, what the tables say of them (by program) ===== -/
abbrev rm_Xx_init : Room := { frames := 4, cells := 36, slots := 400, locals := 81 }
theorem p_Xx_init : zPk y_Xx_init c_Xx_init 1 0 := ⟨wc_Xx_init, ws_Xx_init, rfl, wn_Xx_init, by decide +kernel, by decide +kernel⟩
abbrev rm_Gm_init : Room := { frames := 2, cells := 4, slots := 41, locals := 40 }
theorem p_Gm_init : zPk y_Gm_init c_Gm_init 1 0 := ⟨wc_Gm_init, ws_Gm_init, rfl, wn_Gm_init, by decide +kernel, by decide +kernel⟩
abbrev rm_Bd_init : Room := { frames := 1, cells := 1, slots := 36, locals := 20 }
theorem p_Bd_init : zPk y_Bd_init c_Bd_init 1 0 := ⟨wc_Bd_init, ws_Bd_init, rfl, wn_Bd_init, by decide +kernel, by decide +kernel⟩
abbrev rm_Hs_init : Room := { frames := 3, cells := 26, slots := 250, locals := 60 }
theorem p_Hs_init : zPk y_Hs_init c_Hs_init 2 0 := ⟨wc_Hs_init, ws_Hs_init, rfl, wn_Hs_init, by decide +kernel, by decide +kernel⟩
abbrev rm_Tx_init : Room := { frames := 1, cells := 1, slots := 60, locals := 20 }
theorem p_Tx_init : zPk y_Tx_init c_Tx_init 1 0 := ⟨wc_Tx_init, ws_Tx_init, rfl, wn_Tx_init, by decide +kernel, by decide +kernel⟩
abbrev rm_Xx_whyNot : Room := { frames := 7, cells := 2, slots := 12, locals := 122 }
theorem p_Xx_whyNot : zPv y_Xx_whyNot c_Xx_whyNot 3 (some .int) 2 := ⟨wc_Xx_whyNot, ws_Xx_whyNot, wv_Xx_whyNot, wn_Xx_whyNot, by decide +kernel, by decide +kernel⟩
abbrev rm_Xx_needSquare : Room := { frames := 6, cells := 1, slots := 6, locals := 90 }
theorem p_Xx_needSquare : zPs y_Xx_needSquare c_Xx_needSquare 1 none 1 := ⟨wc_Xx_needSquare, ws_Xx_needSquare, wn_Xx_needSquare, by decide +kernel, by decide +kernel⟩
abbrev rm_Gm_reasonAgainst : Room := { frames := 4, cells := 0, slots := 0, locals := 99 }
theorem p_Gm_reasonAgainst : zPv y_Gm_reasonAgainst c_Gm_reasonAgainst 4 (some .int) 2 := ⟨wc_Gm_reasonAgainst, ws_Gm_reasonAgainst, wv_Gm_reasonAgainst, wn_Gm_reasonAgainst, by decide +kernel, by decide +kernel⟩
abbrev rm_Gm_hasStarted : Room := { frames := 0, cells := 0, slots := 0, locals := 0 }
theorem p_Gm_hasStarted : zPv y_Gm_hasStarted c_Gm_hasStarted 1 (some .boolean) 0 := ⟨wc_Gm_hasStarted, ws_Gm_hasStarted, wv_Gm_hasStarted, wn_Gm_hasStarted, by decide +kernel, by decide +kernel⟩
abbrev rm_Bd_holds : Room := { frames := 1, cells := 0, slots := 0, locals := 20 }
theorem p_Bd_holds : zPv y_Bd_holds c_Bd_holds 3 (some .boolean) 2 := ⟨wc_Bd_holds, ws_Bd_holds, wv_Bd_holds, wn_Bd_holds, by decide +kernel, by decide +kernel⟩
abbrev rm_Pc_sideOf : Room := { frames := 0, cells := 0, slots := 0, locals := 0 }
theorem p_Pc_sideOf : zPs y_Pc_sideOf c_Pc_sideOf 1 (some .int) 1 := ⟨wc_Pc_sideOf, ws_Pc_sideOf, wn_Pc_sideOf, by decide +kernel, by decide +kernel⟩
abbrev rm_Bd_reachFrom : Room := { frames := 3, cells := 0, slots := 0, locals := 78 }
theorem p_Bd_reachFrom : zPv y_Bd_reachFrom c_Bd_reachFrom 2 (some .long) 1 := ⟨wc_Bd_reachFrom, ws_Bd_reachFrom, wv_Bd_reachFrom, wn_Bd_reachFrom, by decide +kernel, by decide +kernel⟩
abbrev rm_Bd_guardedFrom : Room := { frames := 2, cells := 0, slots := 0, locals := 54 }
theorem p_Bd_guardedFrom : zPv y_Bd_guardedFrom c_Bd_guardedFrom 5 (some .long) 1 := ⟨wc_Bd_guardedFrom, ws_Bd_guardedFrom, wv_Bd_guardedFrom, wn_Bd_guardedFrom, by decide +kernel, by decide +kernel⟩
abbrev rm_Pc_knows : Room := { frames := 0, cells := 0, slots := 0, locals := 0 }
theorem p_Pc_knows : zPs y_Pc_knows c_Pc_knows 2 (some .boolean) 2 := ⟨wc_Pc_knows, ws_Pc_knows, wn_Pc_knows, by decide +kernel, by decide +kernel⟩
abbrev rm_Bd_linesOfKind : Room := { frames := 1, cells := 0, slots := 0, locals := 29 }
theorem p_Bd_linesOfKind : zPv y_Bd_linesOfKind c_Bd_linesOfKind 6 (some .long) 2 := ⟨wc_Bd_linesOfKind, ws_Bd_linesOfKind, wv_Bd_linesOfKind, wn_Bd_linesOfKind, by decide +kernel, by decide +kernel⟩
abbrev rm_Bd_line : Room := { frames := 0, cells := 0, slots := 0, locals := 0 }
theorem p_Bd_line : zPv y_Bd_line c_Bd_line 10 (some .long) 3 := ⟨wc_Bd_line, ws_Bd_line, wv_Bd_line, wn_Bd_line, by decide +kernel, by decide +kernel⟩
abbrev rm_Bd_squaresOf : Room := { frames := 2, cells := 0, slots := 0, locals := 42 }
theorem p_Bd_squaresOf : zPv y_Bd_squaresOf c_Bd_squaresOf 5 (some .long) 1 := ⟨wc_Bd_squaresOf, ws_Bd_squaresOf, wv_Bd_squaresOf, wn_Bd_squaresOf, by decide +kernel, by decide +kernel⟩
abbrev rm_Xx_toMove : Room := { frames := 0, cells := 0, slots := 0, locals := 0 }
theorem p_Xx_toMove : zPv y_Xx_toMove c_Xx_toMove 1 (some .int) 0 := ⟨wc_Xx_toMove, ws_Xx_toMove, wv_Xx_toMove, wn_Xx_toMove, by decide +kernel, by decide +kernel⟩
abbrev rm_Xx_isOver : Room := { frames := 0, cells := 0, slots := 0, locals := 0 }
theorem p_Xx_isOver : zPv y_Xx_isOver c_Xx_isOver 1 (some .boolean) 0 := ⟨wc_Xx_isOver, ws_Xx_isOver, wv_Xx_isOver, wn_Xx_isOver, by decide +kernel, by decide +kernel⟩
abbrev rm_Xx_repetitions : Room := { frames := 1, cells := 0, slots := 0, locals := 20 }
theorem p_Xx_repetitions : zPv y_Xx_repetitions c_Xx_repetitions 1 (some .int) 0 := ⟨wc_Xx_repetitions, ws_Xx_repetitions, wv_Xx_repetitions, wn_Xx_repetitions, by decide +kernel, by decide +kernel⟩
abbrev rm_Gm_timesOfBoard : Room := { frames := 0, cells := 0, slots := 0, locals := 0 }
theorem p_Gm_timesOfBoard : zPv y_Gm_timesOfBoard c_Gm_timesOfBoard 1 (some .int) 0 := ⟨wc_Gm_timesOfBoard, ws_Gm_timesOfBoard, wv_Gm_timesOfBoard, wn_Gm_timesOfBoard, by decide +kernel, by decide +kernel⟩
abbrev rm_Xx_movesMade : Room := { frames := 0, cells := 0, slots := 0, locals := 0 }
theorem p_Xx_movesMade : zPv y_Xx_movesMade c_Xx_movesMade 1 (some .int) 0 := ⟨wc_Xx_movesMade, ws_Xx_movesMade, wv_Xx_movesMade, wn_Xx_movesMade, by decide +kernel, by decide +kernel⟩
abbrev rm_Xx_worth : Room := { frames := 7, cells := 1, slots := 6, locals := 110 }
theorem p_Xx_worth : zPv y_Xx_worth c_Xx_worth 2 (some .int) 1 := ⟨wc_Xx_worth, ws_Xx_worth, wv_Xx_worth, wn_Xx_worth, by decide +kernel, by decide +kernel⟩
abbrev rm_Xx_needSide : Room := { frames := 6, cells := 1, slots := 6, locals := 90 }
theorem p_Xx_needSide : zPs y_Xx_needSide c_Xx_needSide 1 none 1 := ⟨wc_Xx_needSide, ws_Xx_needSide, wn_Xx_needSide, by decide +kernel, by decide +kernel⟩
abbrev rm_Bd_worthOfSide : Room := { frames := 3, cells := 0, slots := 0, locals := 63 }
theorem p_Bd_worthOfSide : zPv y_Bd_worthOfSide c_Bd_worthOfSide 4 (some .int) 1 := ⟨wc_Bd_worthOfSide, ws_Bd_worthOfSide, wv_Bd_worthOfSide, wn_Bd_worthOfSide, by decide +kernel, by decide +kernel⟩
abbrev rm_Pc_worthOf : Room := { frames := 2, cells := 0, slots := 0, locals := 43 }
theorem p_Pc_worthOf : zPs y_Pc_worthOf c_Pc_worthOf 1 (some .int) 1 := ⟨wc_Pc_worthOf, ws_Pc_worthOf, wn_Pc_worthOf, by decide +kernel, by decide +kernel⟩
abbrev rm_Pc_stepsOf : Room := { frames := 0, cells := 0, slots := 0, locals := 0 }
theorem p_Pc_stepsOf : zPs y_Pc_stepsOf c_Pc_stepsOf 1 (some .int) 1 := ⟨wc_Pc_stepsOf, ws_Pc_stepsOf, wn_Pc_stepsOf, by decide +kernel, by decide +kernel⟩
abbrev rm_Pc_worthOfSteps : Room := { frames := 1, cells := 0, slots := 0, locals := 21 }
theorem p_Pc_worthOfSteps : zPs y_Pc_worthOfSteps c_Pc_worthOfSteps 3 (some .int) 1 := ⟨wc_Pc_worthOfSteps, ws_Pc_worthOfSteps, wn_Pc_worthOfSteps, by decide +kernel, by decide +kernel⟩
abbrev rm_Pc_leads : Room := { frames := 0, cells := 0, slots := 0, locals := 0 }
theorem p_Pc_leads : zPs y_Pc_leads c_Pc_leads 1 (some .boolean) 1 := ⟨wc_Pc_leads, ws_Pc_leads, wn_Pc_leads, by decide +kernel, by decide +kernel⟩
abbrev rm_Xx_worthByAccount : Room := { frames := 7, cells := 1, slots := 6, locals := 110 }
theorem p_Xx_worthByAccount : zPv y_Xx_worthByAccount c_Xx_worthByAccount 2 (some .int) 1 := ⟨wc_Xx_worthByAccount, ws_Xx_worthByAccount, wv_Xx_worthByAccount, wn_Xx_worthByAccount, by decide +kernel, by decide +kernel⟩
abbrev rm_Xx_captured : Room := { frames := 7, cells := 1, slots := 6, locals := 110 }
theorem p_Xx_captured : zPv y_Xx_captured c_Xx_captured 2 (some .int) 1 := ⟨wc_Xx_captured, ws_Xx_captured, wv_Xx_captured, wn_Xx_captured, by decide +kernel, by decide +kernel⟩
abbrev rm_Xx_worthShare : Room := { frames := 7, cells := 1, slots := 6, locals := 110 }
theorem p_Xx_worthShare : zPv y_Xx_worthShare c_Xx_worthShare 3 (some .double) 1 := ⟨wc_Xx_worthShare, ws_Xx_worthShare, wv_Xx_worthShare, wn_Xx_worthShare, by decide +kernel, by decide +kernel⟩
abbrev rm_Lw_cell : Room := { frames := 0, cells := 0, slots := 0, locals := 0 }
theorem p_Lw_cell : zPs y_Lw_cell c_Lw_cell 2 (some .int) 2 := ⟨wc_Lw_cell, ws_Lw_cell, wn_Lw_cell, by decide +kernel, by decide +kernel⟩
abbrev rm_Lw_low : Room := { frames := 0, cells := 0, slots := 0, locals := 0 }
theorem p_Lw_low : zPs y_Lw_low c_Lw_low 2 (some .int) 2 := ⟨wc_Lw_low, ws_Lw_low, wn_Lw_low, by decide +kernel, by decide +kernel⟩
abbrev rm_Lw_worth : Room := { frames := 0, cells := 0, slots := 0, locals := 0 }
theorem p_Lw_worth : zPs y_Lw_worth c_Lw_worth 4 (some .int) 2 := ⟨wc_Lw_worth, ws_Lw_worth, wn_Lw_worth, by decide +kernel, by decide +kernel⟩
abbrev rm_Lw_side : Room := { frames := 0, cells := 0, slots := 0, locals := 0 }
theorem p_Lw_side : zPs y_Lw_side c_Lw_side 3 (some .int) 3 := ⟨wc_Lw_side, ws_Lw_side, wn_Lw_side, by decide +kernel, by decide +kernel⟩
abbrev rm_Lw_reach : Room := { frames := 2, cells := 0, slots := 0, locals := 54 }
theorem p_Lw_reach : zPs y_Lw_reach c_Lw_reach 6 (some .long) 3 := ⟨wc_Lw_reach, ws_Lw_reach, wn_Lw_reach, by decide +kernel, by decide +kernel⟩
abbrev rm_Lw_covers : Room := { frames := 1, cells := 0, slots := 0, locals := 24 }
theorem p_Lw_covers : zPs y_Lw_covers c_Lw_covers 11 (some .long) 3 := ⟨wc_Lw_covers, ws_Lw_covers, wn_Lw_covers, by decide +kernel, by decide +kernel⟩
abbrev rm_Lw_beside : Room := { frames := 0, cells := 0, slots := 0, locals := 0 }
theorem p_Lw_beside : zPs y_Lw_beside c_Lw_beside 5 (some .int) 3 := ⟨wc_Lw_beside, ws_Lw_beside, wn_Lw_beside, by decide +kernel, by decide +kernel⟩
abbrev rm_Lw_moves : Room := { frames := 3, cells := 0, slots := 0, locals := 79 }
theorem p_Lw_moves : zPs y_Lw_moves c_Lw_moves 5 (some .int) 3 := ⟨wc_Lw_moves, ws_Lw_moves, wn_Lw_moves, by decide +kernel, by decide +kernel⟩
abbrev rm_Lw_bits : Room := { frames := 0, cells := 0, slots := 0, locals := 0 }
theorem p_Lw_bits : zPs y_Lw_bits c_Lw_bits 4 (some .int) 1 := ⟨wc_Lw_bits, ws_Lw_bits, wn_Lw_bits, by decide +kernel, by decide +kernel⟩
abbrev rm_Lw_board : Room := { frames := 0, cells := 0, slots := 0, locals := 0 }
theorem p_Lw_board : zPs y_Lw_board c_Lw_board 6 (some .long) 3 := ⟨wc_Lw_board, ws_Lw_board, wn_Lw_board, by decide +kernel, by decide +kernel⟩
abbrev rm_Lw_squares : Room := { frames := 27, cells := 468, slots := 5472, locals := 638 }
theorem p_Lw_squares : zPs y_Lw_squares c_Lw_squares 4 (some .boolean) 3 := ⟨wc_Lw_squares, ws_Lw_squares, wn_Lw_squares, by decide +kernel, by decide +kernel⟩
abbrev rm_Xx_sideAt : Room := { frames := 8, cells := 2, slots := 12, locals := 131 }
theorem p_Xx_sideAt : zPv y_Xx_sideAt c_Xx_sideAt 2 (some .int) 1 := ⟨wc_Xx_sideAt, ws_Xx_sideAt, wv_Xx_sideAt, wn_Xx_sideAt, by decide +kernel, by decide +kernel⟩
abbrev rm_Xx_neededPiece : Room := { frames := 7, cells := 2, slots := 12, locals := 110 }
theorem p_Xx_neededPiece : zPv y_Xx_neededPiece c_Xx_neededPiece 2 (some .int) 1 := ⟨wc_Xx_neededPiece, ws_Xx_neededPiece, wv_Xx_neededPiece, wn_Xx_neededPiece, by decide +kernel, by decide +kernel⟩
abbrev rm_Bd_isEmpty : Room := { frames := 0, cells := 0, slots := 0, locals := 0 }
theorem p_Bd_isEmpty : zPv y_Bd_isEmpty c_Bd_isEmpty 2 (some .boolean) 1 := ⟨wc_Bd_isEmpty, ws_Bd_isEmpty, wv_Bd_isEmpty, wn_Bd_isEmpty, by decide +kernel, by decide +kernel⟩
abbrev rm_Bd_pieceOn : Room := { frames := 0, cells := 0, slots := 0, locals := 0 }
theorem p_Bd_pieceOn : zPv y_Bd_pieceOn c_Bd_pieceOn 2 (some .int) 1 := ⟨wc_Bd_pieceOn, ws_Bd_pieceOn, wv_Bd_pieceOn, wn_Bd_pieceOn, by decide +kernel, by decide +kernel⟩
abbrev rm_Xx_stepsAt : Room := { frames := 8, cells := 2, slots := 12, locals := 131 }
theorem p_Xx_stepsAt : zPv y_Xx_stepsAt c_Xx_stepsAt 2 (some .int) 1 := ⟨wc_Xx_stepsAt, ws_Xx_stepsAt, wv_Xx_stepsAt, wn_Xx_stepsAt, by decide +kernel, by decide +kernel⟩
abbrev rm_Xx_worthAt : Room := { frames := 8, cells := 2, slots := 12, locals := 131 }
theorem p_Xx_worthAt : zPv y_Xx_worthAt c_Xx_worthAt 2 (some .int) 1 := ⟨wc_Xx_worthAt, ws_Xx_worthAt, wv_Xx_worthAt, wn_Xx_worthAt, by decide +kernel, by decide +kernel⟩
abbrev rm_Xx_reach : Room := { frames := 8, cells := 2, slots := 12, locals := 131 }
theorem p_Xx_reach : zPv y_Xx_reach c_Xx_reach 2 (some .long) 1 := ⟨wc_Xx_reach, ws_Xx_reach, wv_Xx_reach, wn_Xx_reach, by decide +kernel, by decide +kernel⟩
abbrev rm_Xx_exchange : Room := { frames := 26, cells := 2, slots := 12, locals := 617 }
theorem p_Xx_exchange : zPv y_Xx_exchange c_Xx_exchange 2 (some .int) 1 := ⟨wc_Xx_exchange, ws_Xx_exchange, wv_Xx_exchange, wn_Xx_exchange, by decide +kernel, by decide +kernel⟩
abbrev rm_Xx_exchangeTried : Room := { frames := 25, cells := 0, slots := 0, locals := 596 }
theorem p_Xx_exchangeTried : zPv y_Xx_exchangeTried c_Xx_exchangeTried 2 (some .int) 1 := ⟨wc_Xx_exchangeTried, ws_Xx_exchangeTried, wv_Xx_exchangeTried, wn_Xx_exchangeTried, by decide +kernel, by decide +kernel⟩
abbrev rm_Bd_copy : Room := { frames := 1, cells := 0, slots := 0, locals := 40 }
theorem p_Bd_copy : zPv y_Bd_copy c_Bd_copy 2 none 1 := ⟨wc_Bd_copy, ws_Bd_copy, wv_Bd_copy, wn_Bd_copy, by decide +kernel, by decide +kernel⟩
abbrev rm_Xx_exchangeOn : Room := { frames := 24, cells := 0, slots := 0, locals := 572 }
theorem p_Xx_exchangeOn : zPs y_Xx_exchangeOn c_Xx_exchangeOn 5 (some .int) 3 := ⟨wc_Xx_exchangeOn, ws_Xx_exchangeOn, wn_Xx_exchangeOn, by decide +kernel, by decide +kernel⟩
abbrev rm_Bd_guardsSeenFrom : Room := { frames := 3, cells := 0, slots := 0, locals := 67 }
theorem p_Bd_guardsSeenFrom : zPv y_Bd_guardsSeenFrom c_Bd_guardsSeenFrom 6 (some .long) 2 := ⟨wc_Bd_guardsSeenFrom, ws_Bd_guardsSeenFrom, wv_Bd_guardsSeenFrom, wn_Bd_guardsSeenFrom, by decide +kernel, by decide +kernel⟩
abbrev rm_Bd_knowers : Room := { frames := 2, cells := 0, slots := 0, locals := 42 }
theorem p_Bd_knowers : zPv y_Bd_knowers c_Bd_knowers 6 (some .long) 2 := ⟨wc_Bd_knowers, ws_Bd_knowers, wv_Bd_knowers, wn_Bd_knowers, by decide +kernel, by decide +kernel⟩
abbrev rm_Bd_cheapestOn : Room := { frames := 3, cells := 0, slots := 0, locals := 63 }
theorem p_Bd_cheapestOn : zPv y_Bd_cheapestOn c_Bd_cheapestOn 7 (some .int) 1 := ⟨wc_Bd_cheapestOn, ws_Bd_cheapestOn, wv_Bd_cheapestOn, wn_Bd_cheapestOn, by decide +kernel, by decide +kernel⟩
abbrev rm_Bd_carry : Room := { frames := 2, cells := 0, slots := 0, locals := 41 }
theorem p_Bd_carry : zPv y_Bd_carry c_Bd_carry 3 none 2 := ⟨wc_Bd_carry, ws_Bd_carry, wv_Bd_carry, wn_Bd_carry, by decide +kernel, by decide +kernel⟩
abbrev rm_Pc_learnt : Room := { frames := 1, cells := 0, slots := 0, locals := 20 }
theorem p_Pc_learnt : zPs y_Pc_learnt c_Pc_learnt 2 (some .int) 2 := ⟨wc_Pc_learnt, ws_Pc_learnt, wn_Pc_learnt, by decide +kernel, by decide +kernel⟩
abbrev rm_Jm_max : Room := { frames := 0, cells := 0, slots := 0, locals := 0 }
theorem p_Jm_max : zPs y_Jm_max c_Jm_max 2 (some .int) 2 := ⟨wc_Jm_max, ws_Jm_max, wn_Jm_max, by decide +kernel, by decide +kernel⟩
abbrev rm_Lw_exchange : Room := { frames := 2, cells := 3, slots := 92, locals := 54 }
theorem p_Lw_exchange : zPs y_Lw_exchange c_Lw_exchange 12 (some .int) 3 := ⟨wc_Lw_exchange, ws_Lw_exchange, wn_Lw_exchange, by decide +kernel, by decide +kernel⟩
abbrev rm_Lw_sides : Room := { frames := 28, cells := 760, slots := 15300, locals := 664 }
theorem p_Lw_sides : zPs y_Lw_sides c_Lw_sides 13 (some .boolean) 3 := ⟨wc_Lw_sides, ws_Lw_sides, wn_Lw_sides, by decide +kernel, by decide +kernel⟩
abbrev rm_Xx_guards : Room := { frames := 7, cells := 2, slots := 12, locals := 110 }
theorem p_Xx_guards : zPv y_Xx_guards c_Xx_guards 3 (some .int) 2 := ⟨wc_Xx_guards, ws_Xx_guards, wv_Xx_guards, wn_Xx_guards, by decide +kernel, by decide +kernel⟩
abbrev rm_Bd_countGuardsAlong : Room := { frames := 3, cells := 0, slots := 0, locals := 78 }
theorem p_Bd_countGuardsAlong : zPv y_Bd_countGuardsAlong c_Bd_countGuardsAlong 5 (some .int) 2 := ⟨wc_Bd_countGuardsAlong, ws_Bd_countGuardsAlong, wv_Bd_countGuardsAlong, wn_Bd_countGuardsAlong, by decide +kernel, by decide +kernel⟩
abbrev rm_Xx_guardsByLooking : Room := { frames := 7, cells := 2, slots := 12, locals := 110 }
theorem p_Xx_guardsByLooking : zPv y_Xx_guardsByLooking c_Xx_guardsByLooking 3 (some .int) 2 := ⟨wc_Xx_guardsByLooking, ws_Xx_guardsByLooking, wv_Xx_guardsByLooking, wn_Xx_guardsByLooking, by decide +kernel, by decide +kernel⟩
abbrev rm_Jl_bitCount : Room := { frames := 0, cells := 0, slots := 0, locals := 0 }
theorem p_Jl_bitCount : zPs y_Jl_bitCount c_Jl_bitCount 2 (some .int) 1 := ⟨wc_Jl_bitCount, ws_Jl_bitCount, wn_Jl_bitCount, by decide +kernel, by decide +kernel⟩
abbrev rm_Xx_knowing : Room := { frames := 7, cells := 2, slots := 12, locals := 110 }
theorem p_Xx_knowing : zPv y_Xx_knowing c_Xx_knowing 3 (some .int) 2 := ⟨wc_Xx_knowing, ws_Xx_knowing, wv_Xx_knowing, wn_Xx_knowing, by decide +kernel, by decide +kernel⟩
abbrev rm_Xx_needKind : Room := { frames := 6, cells := 1, slots := 6, locals := 90 }
theorem p_Xx_needKind : zPs y_Xx_needKind c_Xx_needKind 1 none 1 := ⟨wc_Xx_needKind, ws_Xx_needKind, wn_Xx_needKind, by decide +kernel, by decide +kernel⟩
abbrev rm_Xx_pieces : Room := { frames := 7, cells := 1, slots := 6, locals := 110 }
theorem p_Xx_pieces : zPv y_Xx_pieces c_Xx_pieces 2 (some .int) 1 := ⟨wc_Xx_pieces, ws_Xx_pieces, wv_Xx_pieces, wn_Xx_pieces, by decide +kernel, by decide +kernel⟩
abbrev rm_Bd_countOf : Room := { frames := 3, cells := 0, slots := 0, locals := 66 }
theorem p_Bd_countOf : zPv y_Bd_countOf c_Bd_countOf 2 (some .int) 1 := ⟨wc_Bd_countOf, ws_Bd_countOf, wv_Bd_countOf, wn_Bd_countOf, by decide +kernel, by decide +kernel⟩
abbrev rm_Xx_guarded : Room := { frames := 7, cells := 1, slots := 6, locals := 110 }
theorem p_Xx_guarded : zPv y_Xx_guarded c_Xx_guarded 2 (some .long) 1 := ⟨wc_Xx_guarded, ws_Xx_guarded, wv_Xx_guarded, wn_Xx_guarded, by decide +kernel, by decide +kernel⟩
abbrev rm_Bd_guardedBy : Room := { frames := 3, cells := 0, slots := 0, locals := 78 }
theorem p_Bd_guardedBy : zPv y_Bd_guardedBy c_Bd_guardedBy 5 (some .long) 1 := ⟨wc_Bd_guardedBy, ws_Bd_guardedBy, wv_Bd_guardedBy, wn_Bd_guardedBy, by decide +kernel, by decide +kernel⟩
abbrev rm_Lw_weakest : Room := { frames := 27, cells := 2, slots := 12, locals := 642 }
theorem p_Lw_weakest : zPsX y_Lw_weakest c_Lw_weakest 3 (some .int) hh_Lw_weakest 2 := ⟨wc_Lw_weakest, ws_Lw_weakest, wn_Lw_weakest, by decide +kernel, by decide +kernel⟩
abbrev rm_Xx_weakest : Room := { frames := 26, cells := 2, slots := 12, locals := 617 }
theorem p_Xx_weakest : zPv y_Xx_weakest c_Xx_weakest 6 (some .int) 1 := ⟨wc_Xx_weakest, ws_Xx_weakest, wv_Xx_weakest, wn_Xx_weakest, by decide +kernel, by decide +kernel⟩
abbrev rm_Xx_moveCount : Room := { frames := 7, cells := 1, slots := 6, locals := 110 }
theorem p_Xx_moveCount : zPv y_Xx_moveCount c_Xx_moveCount 2 (some .int) 1 := ⟨wc_Xx_moveCount, ws_Xx_moveCount, wv_Xx_moveCount, wn_Xx_moveCount, by decide +kernel, by decide +kernel⟩
abbrev rm_Bd_movesOf : Room := { frames := 3, cells := 0, slots := 0, locals := 78 }
theorem p_Bd_movesOf : zPv y_Bd_movesOf c_Bd_movesOf 6 (some .int) 1 := ⟨wc_Bd_movesOf, ws_Bd_movesOf, wv_Bd_movesOf, wn_Bd_movesOf, by decide +kernel, by decide +kernel⟩
abbrev rm_Lw_winner : Room := { frames := 7, cells := 1, slots := 6, locals := 110 }
theorem p_Lw_winner : zPsX y_Lw_winner c_Lw_winner 2 (some .int) hh_Lw_winner 1 := ⟨wc_Lw_winner, ws_Lw_winner, wn_Lw_winner, by decide +kernel, by decide +kernel⟩
abbrev rm_Xx_winner : Room := { frames := 6, cells := 1, slots := 6, locals := 90 }
theorem p_Xx_winner : zPv y_Xx_winner c_Xx_winner 1 (some .int) 0 := ⟨wc_Xx_winner, ws_Xx_winner, wv_Xx_winner, wn_Xx_winner, by decide +kernel, by decide +kernel⟩
abbrev rm_Lw_move : Room := { frames := 8, cells := 4, slots := 25, locals := 150 }
theorem p_Lw_move : zPsX y_Lw_move c_Lw_move 4 (some .int) hh_Lw_move 3 := ⟨wc_Lw_move, ws_Lw_move, wn_Lw_move, by decide +kernel, by decide +kernel⟩
abbrev rm_Xx_move : Room := { frames := 7, cells := 4, slots := 25, locals := 128 }
theorem p_Xx_move : zPv y_Xx_move c_Xx_move 3 (some .int) 2 := ⟨wc_Xx_move, ws_Xx_move, wv_Xx_move, wn_Xx_move, by decide +kernel, by decide +kernel⟩
abbrev rm_Hs_remember : Room := { frames := 3, cells := 0, slots := 0, locals := 83 }
theorem p_Hs_remember : zPv y_Hs_remember c_Hs_remember 2 none 1 := ⟨wc_Hs_remember, ws_Hs_remember, wv_Hs_remember, wn_Hs_remember, by decide +kernel, by decide +kernel⟩
abbrev rm_Hs_dropOldest : Room := { frames := 0, cells := 0, slots := 0, locals := 0 }
theorem p_Hs_dropOldest : zPv y_Hs_dropOldest c_Hs_dropOldest 3 none 0 := ⟨wc_Hs_dropOldest, ws_Hs_dropOldest, wv_Hs_dropOldest, wn_Hs_dropOldest, by decide +kernel, by decide +kernel⟩
abbrev rm_Gm_copy : Room := { frames := 2, cells := 0, slots := 0, locals := 61 }
theorem p_Gm_copy : zPv y_Gm_copy c_Gm_copy 3 none 1 := ⟨wc_Gm_copy, ws_Gm_copy, wv_Gm_copy, wn_Gm_copy, by decide +kernel, by decide +kernel⟩
abbrev rm_Gm_makeMove : Room := { frames := 4, cells := 1, slots := 7, locals := 103 }
theorem p_Gm_makeMove : zPv y_Gm_makeMove c_Gm_makeMove 6 (some .int) 2 := ⟨wc_Gm_makeMove, ws_Gm_makeMove, wv_Gm_makeMove, wn_Gm_makeMove, by decide +kernel, by decide +kernel⟩
abbrev rm_Ps_init : Room := { frames := 2, cells := 0, slots := 0, locals := 42 }
theorem p_Ps_init : zPk y_Ps_init c_Ps_init 4 3 := ⟨wc_Ps_init, ws_Ps_init, rfl, wn_Ps_init, by decide +kernel, by decide +kernel⟩
abbrev rm_Bd_quarter : Room := { frames := 0, cells := 0, slots := 0, locals := 0 }
theorem p_Bd_quarter : zPv y_Bd_quarter c_Bd_quarter 7 (some .long) 1 := ⟨wc_Bd_quarter, ws_Bd_quarter, wv_Bd_quarter, wn_Bd_quarter, by decide +kernel, by decide +kernel⟩
abbrev rm_Ps_timesBefore : Room := { frames := 1, cells := 0, slots := 0, locals := 21 }
theorem p_Ps_timesBefore : zPv y_Ps_timesBefore c_Ps_timesBefore 2 (some .int) 0 := ⟨wc_Ps_timesBefore, ws_Ps_timesBefore, wv_Ps_timesBefore, wn_Ps_timesBefore, by decide +kernel, by decide +kernel⟩
abbrev rm_Ps_looksLike : Room := { frames := 0, cells := 0, slots := 0, locals := 0 }
theorem p_Ps_looksLike : zPv y_Ps_looksLike c_Ps_looksLike 2 (some .boolean) 1 := ⟨wc_Ps_looksLike, ws_Ps_looksLike, wv_Ps_looksLike, wn_Ps_looksLike, by decide +kernel, by decide +kernel⟩
abbrev rm_Lw_starts : Room := { frames := 7, cells := 2, slots := 13, locals := 144 }
theorem p_Lw_starts : zPsX y_Lw_starts c_Lw_starts 2 (some .int) hh_Lw_starts 1 := ⟨wc_Lw_starts, ws_Lw_starts, wn_Lw_starts, by decide +kernel, by decide +kernel⟩
abbrev rm_Xx_start : Room := { frames := 6, cells := 2, slots := 13, locals := 124 }
theorem p_Xx_start : zPv y_Xx_start c_Xx_start 1 (some .int) 0 := ⟨wc_Xx_start, ws_Xx_start, wv_Xx_start, wn_Xx_start, by decide +kernel, by decide +kernel⟩
abbrev rm_Gm_canBegin : Room := { frames := 3, cells := 0, slots := 0, locals := 64 }
theorem p_Gm_canBegin : zPv y_Gm_canBegin c_Gm_canBegin 1 (some .boolean) 0 := ⟨wc_Gm_canBegin, ws_Gm_canBegin, wv_Gm_canBegin, wn_Gm_canBegin, by decide +kernel, by decide +kernel⟩
abbrev rm_Bd_leaderSquare : Room := { frames := 2, cells := 0, slots := 0, locals := 42 }
theorem p_Bd_leaderSquare : zPv y_Bd_leaderSquare c_Bd_leaderSquare 3 (some .int) 1 := ⟨wc_Bd_leaderSquare, ws_Bd_leaderSquare, wv_Bd_leaderSquare, wn_Bd_leaderSquare, by decide +kernel, by decide +kernel⟩
abbrev rm_Gm_begin : Room := { frames := 4, cells := 1, slots := 7, locals := 103 }
theorem p_Gm_begin : zPv y_Gm_begin c_Gm_begin 2 (some .int) 0 := ⟨wc_Gm_begin, ws_Gm_begin, wv_Gm_begin, wn_Gm_begin, by decide +kernel, by decide +kernel⟩
abbrev rm_Lw_setUp : Room := { frames := 10, cells := 120, slots := 720, locals := 182 }
theorem p_Lw_setUp : zPs y_Lw_setUp c_Lw_setUp 13 (some .boolean) 5 := ⟨wc_Lw_setUp, ws_Lw_setUp, wn_Lw_setUp, by decide +kernel, by decide +kernel⟩
abbrev rm_Lw_pieces : Room := { frames := 1, cells := 0, slots := 0, locals := 22 }
theorem p_Lw_pieces : zPs y_Lw_pieces c_Lw_pieces 5 (some .int) 3 := ⟨wc_Lw_pieces, ws_Lw_pieces, wn_Lw_pieces, by decide +kernel, by decide +kernel⟩
abbrev rm_Lw_puts : Room := { frames := 9, cells := 6, slots := 36, locals := 157 }
theorem p_Lw_puts : zPsX y_Lw_puts c_Lw_puts 6 (some .int) hh_Lw_puts 5 := ⟨wc_Lw_puts, ws_Lw_puts, wn_Lw_puts, by decide +kernel, by decide +kernel⟩
abbrev rm_Xx_putLeader : Room := { frames := 8, cells := 3, slots := 18, locals := 134 }
theorem p_Xx_putLeader : zPv y_Xx_putLeader c_Xx_putLeader 4 (some .int) 3 := ⟨wc_Xx_putLeader, ws_Xx_putLeader, wv_Xx_putLeader, wn_Xx_putLeader, by decide +kernel, by decide +kernel⟩
abbrev rm_Xx_put : Room := { frames := 7, cells := 3, slots := 18, locals := 110 }
theorem p_Xx_put : zPv y_Xx_put c_Xx_put 5 (some .int) 4 := ⟨wc_Xx_put, ws_Xx_put, wv_Xx_put, wn_Xx_put, by decide +kernel, by decide +kernel⟩
abbrev rm_Gm_accepts : Room := { frames := 4, cells := 0, slots := 0, locals := 87 }
theorem p_Gm_accepts : zPv y_Gm_accepts c_Gm_accepts 4 (some .boolean) 3 := ⟨wc_Gm_accepts, ws_Gm_accepts, wv_Gm_accepts, wn_Gm_accepts, by decide +kernel, by decide +kernel⟩
abbrev rm_Pc_of : Room := { frames := 0, cells := 0, slots := 0, locals := 0 }
theorem p_Pc_of : zPs y_Pc_of c_Pc_of 3 (some .int) 3 := ⟨wc_Pc_of, ws_Pc_of, wn_Pc_of, by decide +kernel, by decide +kernel⟩
abbrev rm_Gm_addPiece : Room := { frames := 3, cells := 0, slots := 0, locals := 63 }
theorem p_Gm_addPiece : zPv y_Gm_addPiece c_Gm_addPiece 3 none 2 := ⟨wc_Gm_addPiece, ws_Gm_addPiece, wv_Gm_addPiece, wn_Gm_addPiece, by decide +kernel, by decide +kernel⟩
abbrev rm_Bd_set : Room := { frames := 0, cells := 0, slots := 0, locals := 0 }
theorem p_Bd_set : zPv y_Bd_set c_Bd_set 3 none 2 := ⟨wc_Bd_set, ws_Bd_set, wv_Bd_set, wn_Bd_set, by decide +kernel, by decide +kernel⟩
abbrev rm_Xx_putPiece : Room := { frames := 8, cells := 3, slots := 18, locals := 134 }
theorem p_Xx_putPiece : zPv y_Xx_putPiece c_Xx_putPiece 4 (some .int) 3 := ⟨wc_Xx_putPiece, ws_Xx_putPiece, wv_Xx_putPiece, wn_Xx_putPiece, by decide +kernel, by decide +kernel⟩
theorem cl_Bd_81 : Cond.constantLong R_Bd 81 (-1) ∈ zWs := zmem 255 (by decide +kernel) rfl
theorem cl_Lw_24 : Cond.constantLong R_Lw 24 (-1) ∈ zWs := zmem 339 (by decide +kernel) rfl
theorem cl_Lw_38 : Cond.constantLong R_Lw 38 (128) ∈ zWs := zmem 349 (by decide +kernel) rfl
theorem cl_Jl_314 : Cond.constantLong R_Jl 314 (6148914691236517205) ∈ zWs := zmem 462 (by decide +kernel) rfl
theorem cl_Jl_316 : Cond.constantLong R_Jl 316 (3689348814741910323) ∈ zWs := zmem 463 (by decide +kernel) rfl
theorem cl_Jl_318 : Cond.constantLong R_Jl 318 (1085102592571150095) ∈ zWs := zmem 464 (by decide +kernel) rfl
/-- a board among the cells: its row of squares lies behind it -/
def isB (b : Nat) : Prop := (∀ (D : zD) (v : Nat → Int32) (r : Nat → Value), mk D b v r = (0, 0, fun _ => .ref (D.1 (b + 1)))) ∧ (∀ (D : zD) (v : Nat → Int32) (r : Nat → Value), mk D (b + 1) v r = (10, 36, fun k => .int (v k))) ∧ b < 43 ∧ ∀ k, mkW (b + 1) k = true
theorem isB_i {b : Nat} (h : isB b) : zin b := by have := h.2.2.1; omega
theorem isB_j {b : Nat} (h : isB b) : zin (b + 1) := by have := h.2.2.1; omega
theorem isB_k {b : Nat} (h : isB b) : b + 1 < 44 := by have := h.2.2.1; omega
theorem isB_2 : isB 2 := ⟨fun _ _ _ => rfl, fun _ _ _ => rfl, by decide, fun _ => rfl⟩
theorem isB_9 : isB 9 := ⟨fun _ _ _ => rfl, fun _ _ _ => rfl, by decide, fun _ => rfl⟩
theorem isB_14 : isB 14 := ⟨fun _ _ _ => rfl, fun _ _ _ => rfl, by decide, fun _ => rfl⟩
theorem isB_19 : isB 19 := ⟨fun _ _ _ => rfl, fun _ _ _ => rfl, by decide, fun _ => rfl⟩
theorem isB_24 : isB 24 := ⟨fun _ _ _ => rfl, fun _ _ _ => rfl, by decide, fun _ => rfl⟩
theorem isB_29 : isB 29 := ⟨fun _ _ _ => rfl, fun _ _ _ => rfl, by decide, fun _ => rfl⟩
theorem isB_35 : isB 35 := ⟨fun _ _ _ => rfl, fun _ _ _ => rfl, by decide, fun _ => rfl⟩
