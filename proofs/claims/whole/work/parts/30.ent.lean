/-! THE ENTRY OF EACH METHOD (written by gen_ent.py) -/
theorem runM_of {d id : Nat} {pe : MethodName × MI × Nat} {vs : List Value} {m : AM} {V : List (Option Value)} (h : PG[id]? = some pe) (hl : (slA vs).length ≤ pe.2.2) (hV : entL vs pe.2.2 = V) : runM (d + 1) id vs m = runI (runM d) pe.2.1 (0, V, [], m) := by
  show (match PG[id]? with
    | some pe => if (slA vs).length ≤ pe.2.2 then runI (runM d) pe.2.1 (0, entL vs pe.2.2, [], m) else none
    | none => none) = _
  rw [h]
  subst hV
  exact if_pos hl
def PGhi : List (MethodName × MI × Nat) := [pe_X12_isSmall, pe_X12_six, pe_X12_wrong, pe_X12_mostOf, pe_X12_skipWord, pe_X12_number, pe_X12_isDigit, pe_X12_readThread, pe_X12_sign, pe_X12_ends, pe_X12_law, pe_X12_sum, pe_X12_product, pe_X12_one, pe_X12_opensOne, pe_X12_notes, pe_X12_knownHere, pe_X12_takes, pe_X12_takesSign, pe_X12_book, pe_X12_fault, pe_X12_work, pe_X12_readsStep, pe_X12_stepHere, pe_X12_copies, pe_X12_goes, pe_X12_does, pe_X12_turns, pe_X12_placeOf, pe_X12_laysOne, pe_X12_canLay, pe_X12_manyIn, pe_X12_footOf, pe_X12_headOf, pe_X12_isJoined, pe_X12_lifts, pe_X12_becomes, pe_X12_bursts, pe_X12_hourEnds, pe_X12_isReached, pe_X12_longOf, pe_X12_arrives, pe_X12_runs, pe_X12_leftOf, pe_X12_leftBy, pe_X12_byLaw, pe_X12_by, pe_X12_less, pe_X12_more, pe_X12_undo, pe_X12_told, pe_X12_liesIn, pe_X12_outIn, pe_X12_piece, pe_X12_isPiece, pe_X12_collar, pe_X12_fire, pe_X12_isFire, pe_X12_row, pe_X12_behind, pe_X12_would, pe_X12_fits, pe_X12_isThread, pe_X12_can, pe_X12_ahead, pe_X12_chain, pe_X12_chains, pe_X12_laysLongest, pe_X12_has, pe_X12_isNext, pe_X12_chained, pe_X12_joiner, pe_X12_brief, pe_X12_briefs, pe_X12_isBrief, pe_X12_briefly, pe_X12_leaks, pe_X12_isLeak, pe_X12_look, pe_X12_isTold, pe_X12_wed, pe_X12_weds, pe_X12_sure, pe_X12_partOf, pe_X12_street, pe_X12_isChoice, pe_X12_isRest, pe_X12_streetHas, pe_X12_comes, pe_X12_houseHas, pe_X12_share, pe_X12_givenBy, pe_X12_next, pe_X12_worst, pe_X12_needed, pe_X12_kin, pe_X12_year, pe_X12_isYear, pe_X12_yearBy, pe_X12_draw, pe_X12_acts, pe_X12_span, pe_X12_image, pe_X12_putsAll, pe_X12_puts, pe_X12_restore, pe_X12_status, pe_X12_count, pe_L_house, pe_L_law, pe_L_work, pe_L_book, pe_L_told, pe_L_piece, pe_L_collar, pe_L_fire, pe_L_row, pe_L_behind, pe_L_would, pe_L_fits, pe_L_can, pe_L_ahead, pe_L_chain, pe_L_chained, pe_L_brief, pe_L_briefly, pe_L_joiner, pe_L_leaks, pe_L_look, pe_L_sure, pe_L_street, pe_L_share, pe_L_next, pe_L_worst, pe_L_needed, pe_L_kin, pe_L_year, pe_L_span, pe_J0_length_8abf5, pe_J0_coder_7d493, pe_J0_charAt_5068e, pe_J0_isLatin1_aae02, pe_J0_checkIndex_df160, pe_J1_charAt_3b067, pe_J7_fill_53178, pe_J7_fill_d0a16, pe_J3_checkIndex_8e157]
def PGlo : List (MethodName × MI × Nat) := [pe_X0_init, pe_X0_clear, pe_X0_readFrom, pe_X0_readLine, pe_X0_become, pe_X0_findLeaks, pe_X0_isRight, pe_X0_tallyUp, pe_X0_findLook, pe_X0_worstAt, pe_X1_init, pe_X1_clear, pe_X1_follows, pe_X1_footOf, pe_X1_headOf, pe_X1_joins, pe_X1_readFrom, pe_X1_isFull, pe_X1_readClause, pe_X1_readPiece, pe_X1_readTo, pe_X1_readCollar, pe_X1_join, pe_X1_readFire, pe_X1_readHope, pe_X1_become, pe_X1_reaches, pe_X1_part, pe_X1_level, pe_X2_init, pe_X2_beUntold, pe_X2_readFrom, pe_X2_readSum, pe_X2_readProduct, pe_X2_readUnit, pe_X2_add, pe_X2_become, pe_X2_tellPiece, pe_X2_tellNow, pe_X2_left, pe_X2_reckon, pe_X3_init, pe_X3_begin, pe_X3_readFrom, pe_X3_writeTo, pe_X3_turnRound, pe_X3_placeOf, pe_X3_layDown, pe_X3_wayOf, pe_X3_canLay, pe_X3_liftLast, pe_X3_bendTo, pe_X3_burstOnce, pe_X3_patchOnce, pe_X3_hopeFor, pe_X3_longNow, pe_X3_passHour, pe_X3_rowBits, pe_X3_outBits, pe_X3_become, pe_X3_allBursts, pe_X4_init, pe_X4_pop, pe_X4_canKeep, pe_X4_keep, pe_X4_bringBack, pe_X4_forget, pe_X4_isFull, pe_X4_push, pe_X5_init, pe_X5_forgetShort, pe_X5_mostPairs, pe_X5_leastOf, pe_X5_areFit, pe_X5_forgetHouse, pe_X5_findChain, pe_X5_longestNow, pe_X5_fillFollowers, pe_X5_longestBehind, pe_X5_canFollow, pe_X5_longWith, pe_X5_firstLeaving, pe_X5_findShort, pe_X5_searchShort, pe_X5_isNew, pe_X5_findCollar, pe_X5_tryCollar, pe_X6_init, pe_X6_findRests, pe_X6_fillArrives, pe_X6_canTake, pe_X6_bendMore, pe_X6_isRest, pe_X6_streetHas, pe_X6_paid, pe_X6_houseHas, pe_X6_noteRest, pe_X6_asTold, pe_X7_init, pe_X7_hasRoom, pe_X7_append, pe_X7_begin, pe_X7_peek, pe_X7_byteAt, pe_X7_named, pe_X7_placeAmong, pe_X7_blame, pe_X7_tooMany, pe_X7_numeral, pe_X7_isDigit, pe_X7_noneSuch, pe_X7_sign, pe_X7_ended, pe_X8_init, pe_X8_reachedBits, pe_X8_arriving, pe_X8_behindPiece, pe_X8_chanceOf, pe_X8_worstPlace, pe_X8_lostAt, pe_X9_init, pe_X9_readFrom, pe_X9_readClose, pe_X9_add, pe_X9_readStep, pe_X9_readAgain, pe_X9_doneOn, pe_X9_behindClose, pe_X9_behindAgain, pe_X9_isDone, pe_X10_init, pe_X10_outAfter, pe_X10_live, pe_X10_doDrawn, pe_X10_drawn, pe_X11_init, pe_X11_feed, pe_X11_fault, pe_X11_undo, pe_X11_wed, pe_X11_bit, pe_X11_pick, pe_X11_image, pe_X11_restore, pe_X11_status, pe_X11_count, pe_X11_house, pe_X11_open, pe_X11_expect, pe_X11_within, pe_X11_put, pe_X11_law, pe_X11_work, pe_X11_book, pe_X11_told, pe_X11_piece, pe_X11_expectPiece, pe_X11_expectThere, pe_X11_collar, pe_X11_fire, pe_X11_expectFire, pe_X11_row, pe_X11_behind, pe_X11_would, pe_X11_fits, pe_X11_expectThread, pe_X11_can, pe_X11_ahead, pe_X11_chain, pe_X11_chained, pe_X11_brief, pe_X11_briefly, pe_X11_joiner, pe_X11_leaks, pe_X11_look, pe_X11_sure, pe_X11_street, pe_X11_share, pe_X11_next, pe_X11_worst, pe_X11_needed, pe_X11_kin, pe_X11_year, pe_X11_span, pe_X12_init, pe_X12_tellsNothing, pe_X12_beginsAnew, pe_X12_lays, pe_X12_thrown, pe_X12_feed, pe_X12_house, pe_X12_in, pe_X12_bad, pe_X12_starts, pe_X12_blanks, pe_X12_byteAt, pe_X12_clause, pe_X12_kindHere, pe_X12_isWord, pe_X12_wordHere]
set_option maxRecDepth 100000 in
theorem PG_cut : PG = PGlo ++ PGhi := rfl
theorem pg_hi {id j : Nat} {pe : MethodName × MI × Nat} (hi : id = 200 + j) (h : PGhi[j]? = some pe) : PG[id]? = some pe := by
  have hl : PGlo.length = 200 := rfl
  rw [PG_cut, List.getElem?_append_right (by omega), hl, hi, Nat.add_sub_cancel_left, h]
theorem pg_X0_clear : PG[nX0_clear]? = some pe_X0_clear := rfl
theorem e_X0_clear {d : Nat} {m : AM} {a0 : Nat} : runM (d + 1) nX0_clear [.ref a0] m = runI (runM d) iX0_clear (0, [some (.ref a0)], [], m) := runM_of pg_X0_clear (Nat.le_of_ble_eq_true rfl) rfl
theorem pg_X0_readFrom : PG[nX0_readFrom]? = some pe_X0_readFrom := rfl
theorem e_X0_readFrom {d : Nat} {m : AM} {a0 : Nat} : runM (d + 1) nX0_readFrom [.ref a0, .ref 1] m = runI (runM d) iX0_readFrom (0, [some (.ref a0), some (.ref 1), none], [], m) := runM_of pg_X0_readFrom (Nat.le_of_ble_eq_true rfl) rfl
theorem pg_X0_readLine : PG[nX0_readLine]? = some pe_X0_readLine := rfl
theorem e_X0_readLine {d : Nat} {m : AM} {a0 : Nat} : runM (d + 1) nX0_readLine [.ref a0, .ref 1] m = runI (runM d) iX0_readLine (0, [some (.ref a0), some (.ref 1), none], [], m) := runM_of pg_X0_readLine (Nat.le_of_ble_eq_true rfl) rfl
theorem pg_X0_become : PG[nX0_become]? = some pe_X0_become := rfl
theorem e_X0_become {d : Nat} {m : AM} {a0 : Nat} {a1 : Nat} : runM (d + 1) nX0_become [.ref a0, .ref a1] m = runI (runM d) iX0_become (0, [some (.ref a0), some (.ref a1)], [], m) := runM_of pg_X0_become (Nat.le_of_ble_eq_true rfl) rfl
theorem pg_X0_findLeaks : PG[nX0_findLeaks]? = some pe_X0_findLeaks := rfl
theorem e_X0_findLeaks {d : Nat} {m : AM} {a0 : Nat} {a1 : Nat} : runM (d + 1) nX0_findLeaks [.ref a0, .ref a1, .ref 52] m = runI (runM d) iX0_findLeaks (0, [some (.ref a0), some (.ref a1), some (.ref 52), none, none], [], m) := runM_of pg_X0_findLeaks (Nat.le_of_ble_eq_true rfl) rfl
theorem pg_X0_isRight : PG[nX0_isRight]? = some pe_X0_isRight := rfl
theorem e_X0_isRight {d : Nat} {m : AM} {a0 : Nat} {a1 : Nat} : runM (d + 1) nX0_isRight [.ref a0, .ref a1, .ref 52] m = runI (runM d) iX0_isRight (0, [some (.ref a0), some (.ref a1), some (.ref 52), none], [], m) := runM_of pg_X0_isRight (Nat.le_of_ble_eq_true rfl) rfl
theorem pg_X0_tallyUp : PG[nX0_tallyUp]? = some pe_X0_tallyUp := rfl
theorem e_X0_tallyUp {d : Nat} {m : AM} {a0 : Nat} {a1 : Nat} : runM (d + 1) nX0_tallyUp [.ref a0, .ref a1, .ref 52] m = runI (runM d) iX0_tallyUp (0, [some (.ref a0), some (.ref a1), some (.ref 52), none, none], [], m) := runM_of pg_X0_tallyUp (Nat.le_of_ble_eq_true rfl) rfl
theorem pg_X0_findLook : PG[nX0_findLook]? = some pe_X0_findLook := rfl
theorem e_X0_findLook {d : Nat} {m : AM} {a0 : Nat} {a1 : Nat} : runM (d + 1) nX0_findLook [.ref a0, .ref a1, .ref 52] m = runI (runM d) iX0_findLook (0, [some (.ref a0), some (.ref a1), some (.ref 52), none], [], m) := runM_of pg_X0_findLook (Nat.le_of_ble_eq_true rfl) rfl
theorem pg_X0_worstAt : PG[nX0_worstAt]? = some pe_X0_worstAt := rfl
theorem e_X0_worstAt {d : Nat} {m : AM} {a0 : Nat} {x1 : Int32} : runM (d + 1) nX0_worstAt [.ref a0, .int x1] m = runI (runM d) iX0_worstAt (0, [some (.ref a0), some (.int x1), none, none], [], m) := runM_of pg_X0_worstAt (Nat.le_of_ble_eq_true rfl) rfl
theorem pg_X1_clear : PG[nX1_clear]? = some pe_X1_clear := rfl
theorem e_X1_clear {d : Nat} {m : AM} {a0 : Nat} : runM (d + 1) nX1_clear [.ref a0] m = runI (runM d) iX1_clear (0, [some (.ref a0), none], [], m) := runM_of pg_X1_clear (Nat.le_of_ble_eq_true rfl) rfl
theorem pg_X1_follows : PG[nX1_follows]? = some pe_X1_follows := rfl
theorem e_X1_follows {d : Nat} {m : AM} {a0 : Nat} {x1 : Int32} {x2 : Int32} : runM (d + 1) nX1_follows [.ref a0, .int x1, .int x2] m = runI (runM d) iX1_follows (0, [some (.ref a0), some (.int x1), some (.int x2)], [], m) := runM_of pg_X1_follows (Nat.le_of_ble_eq_true rfl) rfl
theorem pg_X1_footOf : PG[nX1_footOf]? = some pe_X1_footOf := rfl
theorem e_X1_footOf {d : Nat} {m : AM} {a0 : Nat} {x1 : Int32} : runM (d + 1) nX1_footOf [.ref a0, .int x1] m = runI (runM d) iX1_footOf (0, [some (.ref a0), some (.int x1)], [], m) := runM_of pg_X1_footOf (Nat.le_of_ble_eq_true rfl) rfl
theorem pg_X1_headOf : PG[nX1_headOf]? = some pe_X1_headOf := rfl
theorem e_X1_headOf {d : Nat} {m : AM} {a0 : Nat} {x1 : Int32} : runM (d + 1) nX1_headOf [.ref a0, .int x1] m = runI (runM d) iX1_headOf (0, [some (.ref a0), some (.int x1)], [], m) := runM_of pg_X1_headOf (Nat.le_of_ble_eq_true rfl) rfl
theorem pg_X1_joins : PG[nX1_joins]? = some pe_X1_joins := rfl
theorem e_X1_joins {d : Nat} {m : AM} {a0 : Nat} {x1 : Int32} {x2 : Int32} : runM (d + 1) nX1_joins [.ref a0, .int x1, .int x2] m = runI (runM d) iX1_joins (0, [some (.ref a0), some (.int x1), some (.int x2)], [], m) := runM_of pg_X1_joins (Nat.le_of_ble_eq_true rfl) rfl
theorem pg_X1_readFrom : PG[nX1_readFrom]? = some pe_X1_readFrom := rfl
theorem e_X1_readFrom {d : Nat} {m : AM} {a0 : Nat} : runM (d + 1) nX1_readFrom [.ref a0, .ref 1] m = runI (runM d) iX1_readFrom (0, [some (.ref a0), some (.ref 1), none, none], [], m) := runM_of pg_X1_readFrom (Nat.le_of_ble_eq_true rfl) rfl
theorem pg_X1_isFull : PG[nX1_isFull]? = some pe_X1_isFull := rfl
theorem e_X1_isFull {d : Nat} {m : AM} {a0 : Nat} {x1 : Int32} : runM (d + 1) nX1_isFull [.ref a0, .int x1] m = runI (runM d) iX1_isFull (0, [some (.ref a0), some (.int x1)], [], m) := runM_of pg_X1_isFull (Nat.le_of_ble_eq_true rfl) rfl
theorem pg_X1_readClause : PG[nX1_readClause]? = some pe_X1_readClause := rfl
theorem e_X1_readClause {d : Nat} {m : AM} {a0 : Nat} {x2 : Int32} : runM (d + 1) nX1_readClause [.ref a0, .ref 1, .int x2] m = runI (runM d) iX1_readClause (0, [some (.ref a0), some (.ref 1), some (.int x2)], [], m) := runM_of pg_X1_readClause (Nat.le_of_ble_eq_true rfl) rfl
theorem pg_X1_readPiece : PG[nX1_readPiece]? = some pe_X1_readPiece := rfl
theorem e_X1_readPiece {d : Nat} {m : AM} {a0 : Nat} : runM (d + 1) nX1_readPiece [.ref a0, .ref 1] m = runI (runM d) iX1_readPiece (0, [some (.ref a0), some (.ref 1), none], [], m) := runM_of pg_X1_readPiece (Nat.le_of_ble_eq_true rfl) rfl
theorem pg_X1_readTo : PG[nX1_readTo]? = some pe_X1_readTo := rfl
theorem e_X1_readTo {d : Nat} {m : AM} {r0 : Nat} {x1 : Int32} {x3 : Int32} {x4 : Int32} : runM (d + 1) nX1_readTo [.ref r0, .int x1, .ref 1, .int x3, .int x4] m = runI (runM d) iX1_readTo (0, [some (.ref r0), some (.int x1), some (.ref 1), some (.int x3), some (.int x4), none], [], m) := runM_of pg_X1_readTo (Nat.le_of_ble_eq_true rfl) rfl
theorem pg_X1_readCollar : PG[nX1_readCollar]? = some pe_X1_readCollar := rfl
theorem e_X1_readCollar {d : Nat} {m : AM} {a0 : Nat} : runM (d + 1) nX1_readCollar [.ref a0, .ref 1] m = runI (runM d) iX1_readCollar (0, [some (.ref a0), some (.ref 1), none, none], [], m) := runM_of pg_X1_readCollar (Nat.le_of_ble_eq_true rfl) rfl
theorem pg_X1_join : PG[nX1_join]? = some pe_X1_join := rfl
theorem e_X1_join {d : Nat} {m : AM} {a0 : Nat} {x1 : Int32} {x2 : Int32} : runM (d + 1) nX1_join [.ref a0, .int x1, .int x2] m = runI (runM d) iX1_join (0, [some (.ref a0), some (.int x1), some (.int x2)], [], m) := runM_of pg_X1_join (Nat.le_of_ble_eq_true rfl) rfl
theorem pg_X1_readFire : PG[nX1_readFire]? = some pe_X1_readFire := rfl
theorem e_X1_readFire {d : Nat} {m : AM} {a0 : Nat} : runM (d + 1) nX1_readFire [.ref a0, .ref 1] m = runI (runM d) iX1_readFire (0, [some (.ref a0), some (.ref 1), none], [], m) := runM_of pg_X1_readFire (Nat.le_of_ble_eq_true rfl) rfl
theorem pg_X1_readHope : PG[nX1_readHope]? = some pe_X1_readHope := rfl
theorem e_X1_readHope {d : Nat} {m : AM} {a0 : Nat} : runM (d + 1) nX1_readHope [.ref a0, .ref 1] m = runI (runM d) iX1_readHope (0, [some (.ref a0), some (.ref 1), none], [], m) := runM_of pg_X1_readHope (Nat.le_of_ble_eq_true rfl) rfl
theorem pg_X1_become : PG[nX1_become]? = some pe_X1_become := rfl
theorem e_X1_become {d : Nat} {m : AM} {a0 : Nat} {a1 : Nat} : runM (d + 1) nX1_become [.ref a0, .ref a1] m = runI (runM d) iX1_become (0, [some (.ref a0), some (.ref a1)], [], m) := runM_of pg_X1_become (Nat.le_of_ble_eq_true rfl) rfl
theorem pg_X1_reaches : PG[nX1_reaches]? = some pe_X1_reaches := rfl
theorem e_X1_reaches {d : Nat} {m : AM} {a0 : Nat} {x1 : Int32} {x2 : Int32} {x3 : Int32} : runM (d + 1) nX1_reaches [.ref a0, .int x1, .int x2, .int x3] m = runI (runM d) iX1_reaches (0, [some (.ref a0), some (.int x1), some (.int x2), some (.int x3)], [], m) := runM_of pg_X1_reaches (Nat.le_of_ble_eq_true rfl) rfl
theorem pg_X1_part : PG[nX1_part]? = some pe_X1_part := rfl
theorem e_X1_part {d : Nat} {m : AM} {a0 : Nat} {x1 : Int32} {x2 : Int32} : runM (d + 1) nX1_part [.ref a0, .int x1, .int x2] m = runI (runM d) iX1_part (0, [some (.ref a0), some (.int x1), some (.int x2)], [], m) := runM_of pg_X1_part (Nat.le_of_ble_eq_true rfl) rfl
theorem pg_X1_level : PG[nX1_level]? = some pe_X1_level := rfl
theorem e_X1_level {d : Nat} {m : AM} {a0 : Nat} {x1 : Int32} {x2 : Int32} : runM (d + 1) nX1_level [.ref a0, .int x1, .int x2] m = runI (runM d) iX1_level (0, [some (.ref a0), some (.int x1), some (.int x2), none, none, none], [], m) := runM_of pg_X1_level (Nat.le_of_ble_eq_true rfl) rfl
theorem pg_X2_beUntold : PG[nX2_beUntold]? = some pe_X2_beUntold := rfl
theorem e_X2_beUntold {d : Nat} {m : AM} {a0 : Nat} : runM (d + 1) nX2_beUntold [.ref a0] m = runI (runM d) iX2_beUntold (0, [some (.ref a0), none], [], m) := runM_of pg_X2_beUntold (Nat.le_of_ble_eq_true rfl) rfl
theorem pg_X2_readFrom : PG[nX2_readFrom]? = some pe_X2_readFrom := rfl
theorem e_X2_readFrom {d : Nat} {m : AM} {a0 : Nat} : runM (d + 1) nX2_readFrom [.ref a0, .ref 1] m = runI (runM d) iX2_readFrom (0, [some (.ref a0), some (.ref 1)], [], m) := runM_of pg_X2_readFrom (Nat.le_of_ble_eq_true rfl) rfl
theorem pg_X2_readSum : PG[nX2_readSum]? = some pe_X2_readSum := rfl
theorem e_X2_readSum {d : Nat} {m : AM} {a0 : Nat} {x2 : Int32} : runM (d + 1) nX2_readSum [.ref a0, .ref 1, .int x2] m = runI (runM d) iX2_readSum (0, [some (.ref a0), some (.ref 1), some (.int x2), none, none], [], m) := runM_of pg_X2_readSum (Nat.le_of_ble_eq_true rfl) rfl
theorem pg_X2_readProduct : PG[nX2_readProduct]? = some pe_X2_readProduct := rfl
theorem e_X2_readProduct {d : Nat} {m : AM} {a0 : Nat} {x2 : Int32} : runM (d + 1) nX2_readProduct [.ref a0, .ref 1, .int x2] m = runI (runM d) iX2_readProduct (0, [some (.ref a0), some (.ref 1), some (.int x2), none, none], [], m) := runM_of pg_X2_readProduct (Nat.le_of_ble_eq_true rfl) rfl
theorem pg_X2_readUnit : PG[nX2_readUnit]? = some pe_X2_readUnit := rfl
theorem e_X2_readUnit {d : Nat} {m : AM} {a0 : Nat} {x2 : Int32} : runM (d + 1) nX2_readUnit [.ref a0, .ref 1, .int x2] m = runI (runM d) iX2_readUnit (0, [some (.ref a0), some (.ref 1), some (.int x2), none, none], [], m) := runM_of pg_X2_readUnit (Nat.le_of_ble_eq_true rfl) rfl
theorem pg_X2_add : PG[nX2_add]? = some pe_X2_add := rfl
theorem e_X2_add {d : Nat} {m : AM} {a0 : Nat} {x1 : Int32} : runM (d + 1) nX2_add [.ref a0, .int x1] m = runI (runM d) iX2_add (0, [some (.ref a0), some (.int x1)], [], m) := runM_of pg_X2_add (Nat.le_of_ble_eq_true rfl) rfl
theorem pg_X2_become : PG[nX2_become]? = some pe_X2_become := rfl
theorem e_X2_become {d : Nat} {m : AM} {a0 : Nat} {a1 : Nat} : runM (d + 1) nX2_become [.ref a0, .ref a1] m = runI (runM d) iX2_become (0, [some (.ref a0), some (.ref a1)], [], m) := runM_of pg_X2_become (Nat.le_of_ble_eq_true rfl) rfl
theorem pg_X2_tellPiece : PG[nX2_tellPiece]? = some pe_X2_tellPiece := rfl
theorem e_X2_tellPiece {d : Nat} {m : AM} {a0 : Nat} {x1 : Int32} {x2 : Int32} {x3 : Int32} {x4 : Int32} : runM (d + 1) nX2_tellPiece [.ref a0, .int x1, .int x2, .int x3, .int x4] m = runI (runM d) iX2_tellPiece (0, [some (.ref a0), some (.int x1), some (.int x2), some (.int x3), some (.int x4)], [], m) := runM_of pg_X2_tellPiece (Nat.le_of_ble_eq_true rfl) rfl
theorem pg_X2_tellNow : PG[nX2_tellNow]? = some pe_X2_tellNow := rfl
theorem e_X2_tellNow {d : Nat} {m : AM} {a0 : Nat} {x1 : Int32} {x2 : Int32} {x3 : Int32} {x4 : Int32} {x5 : Int32} : runM (d + 1) nX2_tellNow [.ref a0, .int x1, .int x2, .int x3, .int x4, .int x5] m = runI (runM d) iX2_tellNow (0, [some (.ref a0), some (.int x1), some (.int x2), some (.int x3), some (.int x4), some (.int x5)], [], m) := runM_of pg_X2_tellNow (Nat.le_of_ble_eq_true rfl) rfl
theorem pg_X2_left : PG[nX2_left]? = some pe_X2_left := rfl
theorem e_X2_left {d : Nat} {m : AM} {a0 : Nat} : runM (d + 1) nX2_left [.ref a0] m = runI (runM d) iX2_left (0, [some (.ref a0), none, none, none], [], m) := runM_of pg_X2_left (Nat.le_of_ble_eq_true rfl) rfl
theorem pg_X2_reckon : PG[nX2_reckon]? = some pe_X2_reckon := rfl
theorem e_X2_reckon {d : Nat} {m : AM} {x0 : Int32} {x1 : Int32} {x2 : Int32} : runM (d + 1) nX2_reckon [.int x0, .int x1, .int x2] m = runI (runM d) iX2_reckon (0, [some (.int x0), some (.int x1), some (.int x2)], [], m) := runM_of pg_X2_reckon (Nat.le_of_ble_eq_true rfl) rfl
theorem pg_X3_begin : PG[nX3_begin]? = some pe_X3_begin := rfl
theorem e_X3_begin {d : Nat} {m : AM} {a0 : Nat} {x1 : Int32} : runM (d + 1) nX3_begin [.ref a0, .int x1] m = runI (runM d) iX3_begin (0, [some (.ref a0), some (.int x1)], [], m) := runM_of pg_X3_begin (Nat.le_of_ble_eq_true rfl) rfl
theorem pg_X3_readFrom : PG[nX3_readFrom]? = some pe_X3_readFrom := rfl
theorem e_X3_readFrom {d : Nat} {m : AM} {a0 : Nat} {r1 : Nat} {x2 : Int32} : runM (d + 1) nX3_readFrom [.ref a0, .ref r1, .int x2] m = runI (runM d) iX3_readFrom (0, [some (.ref a0), some (.ref r1), some (.int x2), none], [], m) := runM_of pg_X3_readFrom (Nat.le_of_ble_eq_true rfl) rfl
theorem pg_X3_writeTo : PG[nX3_writeTo]? = some pe_X3_writeTo := rfl
theorem e_X3_writeTo {d : Nat} {m : AM} {a0 : Nat} {r1 : Nat} {x2 : Int32} : runM (d + 1) nX3_writeTo [.ref a0, .ref r1, .int x2] m = runI (runM d) iX3_writeTo (0, [some (.ref a0), some (.ref r1), some (.int x2), none], [], m) := runM_of pg_X3_writeTo (Nat.le_of_ble_eq_true rfl) rfl
theorem pg_X3_turnRound : PG[nX3_turnRound]? = some pe_X3_turnRound := rfl
theorem e_X3_turnRound {d : Nat} {m : AM} {a0 : Nat} {x1 : Int32} : runM (d + 1) nX3_turnRound [.ref a0, .int x1] m = runI (runM d) iX3_turnRound (0, [some (.ref a0), some (.int x1)], [], m) := runM_of pg_X3_turnRound (Nat.le_of_ble_eq_true rfl) rfl
theorem pg_X3_placeOf : PG[nX3_placeOf]? = some pe_X3_placeOf := rfl
theorem e_X3_placeOf {d : Nat} {m : AM} {a0 : Nat} {x1 : Int32} : runM (d + 1) nX3_placeOf [.ref a0, .int x1] m = runI (runM d) iX3_placeOf (0, [some (.ref a0), some (.int x1), none], [], m) := runM_of pg_X3_placeOf (Nat.le_of_ble_eq_true rfl) rfl
theorem pg_X3_layDown : PG[nX3_layDown]? = some pe_X3_layDown := rfl
theorem e_X3_layDown {d : Nat} {m : AM} {a0 : Nat} {a1 : Nat} {x2 : Int32} : runM (d + 1) nX3_layDown [.ref a0, .ref a1, .int x2] m = runI (runM d) iX3_layDown (0, [some (.ref a0), some (.ref a1), some (.int x2)], [], m) := runM_of pg_X3_layDown (Nat.le_of_ble_eq_true rfl) rfl
theorem pg_X3_wayOf : PG[nX3_wayOf]? = some pe_X3_wayOf := rfl
theorem e_X3_wayOf {d : Nat} {m : AM} {a0 : Nat} {x1 : Int32} : runM (d + 1) nX3_wayOf [.ref a0, .int x1] m = runI (runM d) iX3_wayOf (0, [some (.ref a0), some (.int x1)], [], m) := runM_of pg_X3_wayOf (Nat.le_of_ble_eq_true rfl) rfl
theorem pg_X3_canLay : PG[nX3_canLay]? = some pe_X3_canLay := rfl
theorem e_X3_canLay {d : Nat} {m : AM} {a0 : Nat} {a1 : Nat} {x2 : Int32} : runM (d + 1) nX3_canLay [.ref a0, .ref a1, .int x2] m = runI (runM d) iX3_canLay (0, [some (.ref a0), some (.ref a1), some (.int x2)], [], m) := runM_of pg_X3_canLay (Nat.le_of_ble_eq_true rfl) rfl
theorem pg_X3_liftLast : PG[nX3_liftLast]? = some pe_X3_liftLast := rfl
theorem e_X3_liftLast {d : Nat} {m : AM} {a0 : Nat} : runM (d + 1) nX3_liftLast [.ref a0] m = runI (runM d) iX3_liftLast (0, [some (.ref a0)], [], m) := runM_of pg_X3_liftLast (Nat.le_of_ble_eq_true rfl) rfl
theorem pg_X3_bendTo : PG[nX3_bendTo]? = some pe_X3_bendTo := rfl
theorem e_X3_bendTo {d : Nat} {m : AM} {a0 : Nat} {x1 : Int32} {x2 : Int32} : runM (d + 1) nX3_bendTo [.ref a0, .int x1, .int x2] m = runI (runM d) iX3_bendTo (0, [some (.ref a0), some (.int x1), some (.int x2)], [], m) := runM_of pg_X3_bendTo (Nat.le_of_ble_eq_true rfl) rfl
theorem pg_X3_burstOnce : PG[nX3_burstOnce]? = some pe_X3_burstOnce := rfl
theorem e_X3_burstOnce {d : Nat} {m : AM} {a0 : Nat} {x1 : Int32} : runM (d + 1) nX3_burstOnce [.ref a0, .int x1] m = runI (runM d) iX3_burstOnce (0, [some (.ref a0), some (.int x1)], [], m) := runM_of pg_X3_burstOnce (Nat.le_of_ble_eq_true rfl) rfl
theorem pg_X3_patchOnce : PG[nX3_patchOnce]? = some pe_X3_patchOnce := rfl
theorem e_X3_patchOnce {d : Nat} {m : AM} {a0 : Nat} {x1 : Int32} : runM (d + 1) nX3_patchOnce [.ref a0, .int x1] m = runI (runM d) iX3_patchOnce (0, [some (.ref a0), some (.int x1)], [], m) := runM_of pg_X3_patchOnce (Nat.le_of_ble_eq_true rfl) rfl
theorem pg_X3_hopeFor : PG[nX3_hopeFor]? = some pe_X3_hopeFor := rfl
theorem e_X3_hopeFor {d : Nat} {m : AM} {a0 : Nat} {x1 : Int32} : runM (d + 1) nX3_hopeFor [.ref a0, .int x1] m = runI (runM d) iX3_hopeFor (0, [some (.ref a0), some (.int x1)], [], m) := runM_of pg_X3_hopeFor (Nat.le_of_ble_eq_true rfl) rfl
theorem pg_X3_longNow : PG[nX3_longNow]? = some pe_X3_longNow := rfl
theorem e_X3_longNow {d : Nat} {m : AM} {a0 : Nat} {a1 : Nat} : runM (d + 1) nX3_longNow [.ref a0, .ref a1] m = runI (runM d) iX3_longNow (0, [some (.ref a0), some (.ref a1), none, none], [], m) := runM_of pg_X3_longNow (Nat.le_of_ble_eq_true rfl) rfl
theorem pg_X3_passHour : PG[nX3_passHour]? = some pe_X3_passHour := rfl
theorem e_X3_passHour {d : Nat} {m : AM} {a0 : Nat} {x1 : Int32} : runM (d + 1) nX3_passHour [.ref a0, .int x1] m = runI (runM d) iX3_passHour (0, [some (.ref a0), some (.int x1), none, none], [], m) := runM_of pg_X3_passHour (Nat.le_of_ble_eq_true rfl) rfl
theorem pg_X3_rowBits : PG[nX3_rowBits]? = some pe_X3_rowBits := rfl
theorem e_X3_rowBits {d : Nat} {m : AM} {a0 : Nat} : runM (d + 1) nX3_rowBits [.ref a0] m = runI (runM d) iX3_rowBits (0, [some (.ref a0), none, none], [], m) := runM_of pg_X3_rowBits (Nat.le_of_ble_eq_true rfl) rfl
theorem pg_X3_outBits : PG[nX3_outBits]? = some pe_X3_outBits := rfl
theorem e_X3_outBits {d : Nat} {m : AM} {a0 : Nat} : runM (d + 1) nX3_outBits [.ref a0] m = runI (runM d) iX3_outBits (0, [some (.ref a0), none, none], [], m) := runM_of pg_X3_outBits (Nat.le_of_ble_eq_true rfl) rfl
theorem pg_X3_become : PG[nX3_become]? = some pe_X3_become := rfl
theorem e_X3_become {d : Nat} {m : AM} {a0 : Nat} {a1 : Nat} : runM (d + 1) nX3_become [.ref a0, .ref a1] m = runI (runM d) iX3_become (0, [some (.ref a0), some (.ref a1)], [], m) := runM_of pg_X3_become (Nat.le_of_ble_eq_true rfl) rfl
theorem pg_X3_allBursts : PG[nX3_allBursts]? = some pe_X3_allBursts := rfl
theorem e_X3_allBursts {d : Nat} {m : AM} {a0 : Nat} : runM (d + 1) nX3_allBursts [.ref a0] m = runI (runM d) iX3_allBursts (0, [some (.ref a0), none, none], [], m) := runM_of pg_X3_allBursts (Nat.le_of_ble_eq_true rfl) rfl
theorem pg_X4_pop : PG[nX4_pop]? = some pe_X4_pop := rfl
theorem e_X4_pop {d : Nat} {m : AM} {a1 : Nat} : runM (d + 1) nX4_pop [.ref 48, .ref a1] m = runI (runM d) iX4_pop (0, [some (.ref 48), some (.ref a1)], [], m) := runM_of pg_X4_pop (Nat.le_of_ble_eq_true rfl) rfl
theorem pg_X4_canKeep : PG[nX4_canKeep]? = some pe_X4_canKeep := rfl
theorem e_X4_canKeep {d : Nat} {m : AM}  : runM (d + 1) nX4_canKeep [.ref 48] m = runI (runM d) iX4_canKeep (0, [some (.ref 48)], [], m) := runM_of pg_X4_canKeep (Nat.le_of_ble_eq_true rfl) rfl
theorem pg_X4_keep : PG[nX4_keep]? = some pe_X4_keep := rfl
theorem e_X4_keep {d : Nat} {m : AM} {a1 : Nat} : runM (d + 1) nX4_keep [.ref 48, .ref a1] m = runI (runM d) iX4_keep (0, [some (.ref 48), some (.ref a1)], [], m) := runM_of pg_X4_keep (Nat.le_of_ble_eq_true rfl) rfl
theorem pg_X4_bringBack : PG[nX4_bringBack]? = some pe_X4_bringBack := rfl
theorem e_X4_bringBack {d : Nat} {m : AM} {a1 : Nat} : runM (d + 1) nX4_bringBack [.ref 48, .ref a1] m = runI (runM d) iX4_bringBack (0, [some (.ref 48), some (.ref a1)], [], m) := runM_of pg_X4_bringBack (Nat.le_of_ble_eq_true rfl) rfl
theorem pg_X4_forget : PG[nX4_forget]? = some pe_X4_forget := rfl
theorem e_X4_forget {d : Nat} {m : AM}  : runM (d + 1) nX4_forget [.ref 48] m = runI (runM d) iX4_forget (0, [some (.ref 48)], [], m) := runM_of pg_X4_forget (Nat.le_of_ble_eq_true rfl) rfl
theorem pg_X4_isFull : PG[nX4_isFull]? = some pe_X4_isFull := rfl
theorem e_X4_isFull {d : Nat} {m : AM}  : runM (d + 1) nX4_isFull [.ref 48] m = runI (runM d) iX4_isFull (0, [some (.ref 48)], [], m) := runM_of pg_X4_isFull (Nat.le_of_ble_eq_true rfl) rfl
theorem pg_X4_push : PG[nX4_push]? = some pe_X4_push := rfl
theorem e_X4_push {d : Nat} {m : AM} {a1 : Nat} : runM (d + 1) nX4_push [.ref 48, .ref a1] m = runI (runM d) iX4_push (0, [some (.ref 48), some (.ref a1)], [], m) := runM_of pg_X4_push (Nat.le_of_ble_eq_true rfl) rfl
theorem pg_X5_forgetShort : PG[nX5_forgetShort]? = some pe_X5_forgetShort := rfl
theorem e_X5_forgetShort {d : Nat} {m : AM}  : runM (d + 1) nX5_forgetShort [.ref 56] m = runI (runM d) iX5_forgetShort (0, [some (.ref 56)], [], m) := runM_of pg_X5_forgetShort (Nat.le_of_ble_eq_true rfl) rfl
theorem pg_X5_mostPairs : PG[nX5_mostPairs]? = some pe_X5_mostPairs := rfl
theorem e_X5_mostPairs {d : Nat} {m : AM}  : runM (d + 1) nX5_mostPairs [.ref 56] m = runI (runM d) iX5_mostPairs (0, [some (.ref 56), none, none, none, none, none, none], [], m) := runM_of pg_X5_mostPairs (Nat.le_of_ble_eq_true rfl) rfl
theorem pg_X5_leastOf : PG[nX5_leastOf]? = some pe_X5_leastOf := rfl
theorem e_X5_leastOf {d : Nat} {m : AM} {x0 : Int32} : runM (d + 1) nX5_leastOf [.int x0] m = runI (runM d) iX5_leastOf (0, [some (.int x0), none], [], m) := runM_of pg_X5_leastOf (Nat.le_of_ble_eq_true rfl) rfl
theorem pg_X5_areFit : PG[nX5_areFit]? = some pe_X5_areFit := rfl
theorem e_X5_areFit {d : Nat} {m : AM} {x1 : Int32} {x2 : Int32} : runM (d + 1) nX5_areFit [.ref 56, .int x1, .int x2] m = runI (runM d) iX5_areFit (0, [some (.ref 56), some (.int x1), some (.int x2)], [], m) := runM_of pg_X5_areFit (Nat.le_of_ble_eq_true rfl) rfl
theorem pg_X5_forgetHouse : PG[nX5_forgetHouse]? = some pe_X5_forgetHouse := rfl
theorem e_X5_forgetHouse {d : Nat} {m : AM}  : runM (d + 1) nX5_forgetHouse [.ref 56] m = runI (runM d) iX5_forgetHouse (0, [some (.ref 56)], [], m) := runM_of pg_X5_forgetHouse (Nat.le_of_ble_eq_true rfl) rfl
theorem pg_X5_findChain : PG[nX5_findChain]? = some pe_X5_findChain := rfl
theorem e_X5_findChain {d : Nat} {m : AM}  : runM (d + 1) nX5_findChain [.ref 56] m = runI (runM d) iX5_findChain (0, [some (.ref 56), none, none, none, none], [], m) := runM_of pg_X5_findChain (Nat.le_of_ble_eq_true rfl) rfl
theorem pg_X5_longestNow : PG[nX5_longestNow]? = some pe_X5_longestNow := rfl
theorem e_X5_longestNow {d : Nat} {m : AM}  : runM (d + 1) nX5_longestNow [.ref 56] m = runI (runM d) iX5_longestNow (0, [some (.ref 56), none, none], [], m) := runM_of pg_X5_longestNow (Nat.le_of_ble_eq_true rfl) rfl
theorem pg_X5_fillFollowers : PG[nX5_fillFollowers]? = some pe_X5_fillFollowers := rfl
theorem e_X5_fillFollowers {d : Nat} {m : AM}  : runM (d + 1) nX5_fillFollowers [.ref 56] m = runI (runM d) iX5_fillFollowers (0, [some (.ref 56), none, none, none], [], m) := runM_of pg_X5_fillFollowers (Nat.le_of_ble_eq_true rfl) rfl
theorem pg_X5_longestBehind : PG[nX5_longestBehind]? = some pe_X5_longestBehind := rfl
theorem e_X5_longestBehind {d : Nat} {m : AM} {x1 : Int32} {x2 : Int32} : runM (d + 1) nX5_longestBehind [.ref 56, .int x1, .int x2] m = runI (runM d) iX5_longestBehind (0, [some (.ref 56), some (.int x1), some (.int x2), none, none], [], m) := runM_of pg_X5_longestBehind (Nat.le_of_ble_eq_true rfl) rfl
theorem pg_X5_canFollow : PG[nX5_canFollow]? = some pe_X5_canFollow := rfl
theorem e_X5_canFollow {d : Nat} {m : AM} {x1 : Int32} {x2 : Int32} {x3 : Int32} : runM (d + 1) nX5_canFollow [.ref 56, .int x1, .int x2, .int x3] m = runI (runM d) iX5_canFollow (0, [some (.ref 56), some (.int x1), some (.int x2), some (.int x3)], [], m) := runM_of pg_X5_canFollow (Nat.le_of_ble_eq_true rfl) rfl
theorem pg_X5_longWith : PG[nX5_longWith]? = some pe_X5_longWith := rfl
theorem e_X5_longWith {d : Nat} {m : AM} {x1 : Int32} {x2 : Int32} : runM (d + 1) nX5_longWith [.ref 56, .int x1, .int x2] m = runI (runM d) iX5_longWith (0, [some (.ref 56), some (.int x1), some (.int x2), none], [], m) := runM_of pg_X5_longWith (Nat.le_of_ble_eq_true rfl) rfl
theorem pg_X5_firstLeaving : PG[nX5_firstLeaving]? = some pe_X5_firstLeaving := rfl
theorem e_X5_firstLeaving {d : Nat} {m : AM} {x1 : Int32} {x2 : Int32} {x3 : Int32} : runM (d + 1) nX5_firstLeaving [.ref 56, .int x1, .int x2, .int x3] m = runI (runM d) iX5_firstLeaving (0, [some (.ref 56), some (.int x1), some (.int x2), some (.int x3), none], [], m) := runM_of pg_X5_firstLeaving (Nat.le_of_ble_eq_true rfl) rfl
theorem pg_X5_findShort : PG[nX5_findShort]? = some pe_X5_findShort := rfl
theorem e_X5_findShort {d : Nat} {m : AM} {a1 : Nat} {x2 : Int32} : runM (d + 1) nX5_findShort [.ref 56, .ref a1, .int x2] m = runI (runM d) iX5_findShort (0, [some (.ref 56), some (.ref a1), some (.int x2)], [], m) := runM_of pg_X5_findShort (Nat.le_of_ble_eq_true rfl) rfl
theorem pg_X5_searchShort : PG[nX5_searchShort]? = some pe_X5_searchShort := rfl
theorem e_X5_searchShort {d : Nat} {m : AM} {a1 : Nat} {x2 : Int32} {x3 : Int32} {x4 : Int32} {x5 : Int32} {x6 : Int32} : runM (d + 1) nX5_searchShort [.ref 56, .ref a1, .int x2, .int x3, .int x4, .int x5, .int x6] m = runI (runM d) iX5_searchShort (0, [some (.ref 56), some (.ref a1), some (.int x2), some (.int x3), some (.int x4), some (.int x5), some (.int x6), none, none, none, none], [], m) := runM_of pg_X5_searchShort (Nat.le_of_ble_eq_true rfl) rfl
theorem pg_X5_isNew : PG[nX5_isNew]? = some pe_X5_isNew := rfl
theorem e_X5_isNew {d : Nat} {m : AM} {x1 : Int32} : runM (d + 1) nX5_isNew [.ref 56, .int x1] m = runI (runM d) iX5_isNew (0, [some (.ref 56), some (.int x1), none, none, none], [], m) := runM_of pg_X5_isNew (Nat.le_of_ble_eq_true rfl) rfl
theorem pg_X5_findCollar : PG[nX5_findCollar]? = some pe_X5_findCollar := rfl
theorem e_X5_findCollar {d : Nat} {m : AM}  : runM (d + 1) nX5_findCollar [.ref 56] m = runI (runM d) iX5_findCollar (0, [some (.ref 56), none, none], [], m) := runM_of pg_X5_findCollar (Nat.le_of_ble_eq_true rfl) rfl
theorem pg_X5_tryCollar : PG[nX5_tryCollar]? = some pe_X5_tryCollar := rfl
theorem e_X5_tryCollar {d : Nat} {m : AM} {x1 : Int32} {x2 : Int32} : runM (d + 1) nX5_tryCollar [.ref 56, .int x1, .int x2] m = runI (runM d) iX5_tryCollar (0, [some (.ref 56), some (.int x1), some (.int x2), none], [], m) := runM_of pg_X5_tryCollar (Nat.le_of_ble_eq_true rfl) rfl
theorem pg_X6_findRests : PG[nX6_findRests]? = some pe_X6_findRests := rfl
theorem e_X6_findRests {d : Nat} {m : AM} {a1 : Nat} {x2 : Int32} : runM (d + 1) nX6_findRests [.ref 64, .ref a1, .int x2] m = runI (runM d) iX6_findRests (0, [some (.ref 64), some (.ref a1), some (.int x2), none, none], [], m) := runM_of pg_X6_findRests (Nat.le_of_ble_eq_true rfl) rfl
theorem pg_X6_fillArrives : PG[nX6_fillArrives]? = some pe_X6_fillArrives := rfl
theorem e_X6_fillArrives {d : Nat} {m : AM} {a1 : Nat} : runM (d + 1) nX6_fillArrives [.ref 64, .ref a1] m = runI (runM d) iX6_fillArrives (0, [some (.ref 64), some (.ref a1), none, none], [], m) := runM_of pg_X6_fillArrives (Nat.le_of_ble_eq_true rfl) rfl
theorem pg_X6_canTake : PG[nX6_canTake]? = some pe_X6_canTake := rfl
theorem e_X6_canTake {d : Nat} {m : AM} {a1 : Nat} {x2 : Int32} : runM (d + 1) nX6_canTake [.ref 64, .ref a1, .int x2] m = runI (runM d) iX6_canTake (0, [some (.ref 64), some (.ref a1), some (.int x2)], [], m) := runM_of pg_X6_canTake (Nat.le_of_ble_eq_true rfl) rfl
theorem pg_X6_bendMore : PG[nX6_bendMore]? = some pe_X6_bendMore := rfl
theorem e_X6_bendMore {d : Nat} {m : AM} {x1 : Int32} {x2 : Int32} : runM (d + 1) nX6_bendMore [.ref 64, .int x1, .int x2] m = runI (runM d) iX6_bendMore (0, [some (.ref 64), some (.int x1), some (.int x2)], [], m) := runM_of pg_X6_bendMore (Nat.le_of_ble_eq_true rfl) rfl
theorem pg_X6_isRest : PG[nX6_isRest]? = some pe_X6_isRest := rfl
theorem e_X6_isRest {d : Nat} {m : AM} {a1 : Nat} {x2 : Int32} {x3 : Int32} : runM (d + 1) nX6_isRest [.ref 64, .ref a1, .int x2, .int x3] m = runI (runM d) iX6_isRest (0, [some (.ref 64), some (.ref a1), some (.int x2), some (.int x3), none], [], m) := runM_of pg_X6_isRest (Nat.le_of_ble_eq_true rfl) rfl
theorem pg_X6_streetHas : PG[nX6_streetHas]? = some pe_X6_streetHas := rfl
theorem e_X6_streetHas {d : Nat} {m : AM} {x1 : Int32} {x2 : Int32} : runM (d + 1) nX6_streetHas [.ref 64, .int x1, .int x2] m = runI (runM d) iX6_streetHas (0, [some (.ref 64), some (.int x1), some (.int x2)], [], m) := runM_of pg_X6_streetHas (Nat.le_of_ble_eq_true rfl) rfl
theorem pg_X6_paid : PG[nX6_paid]? = some pe_X6_paid := rfl
theorem e_X6_paid {d : Nat} {m : AM} {x1 : Int32} : runM (d + 1) nX6_paid [.ref 64, .int x1] m = runI (runM d) iX6_paid (0, [some (.ref 64), some (.int x1)], [], m) := runM_of pg_X6_paid (Nat.le_of_ble_eq_true rfl) rfl
theorem pg_X6_houseHas : PG[nX6_houseHas]? = some pe_X6_houseHas := rfl
theorem e_X6_houseHas {d : Nat} {m : AM} {x1 : Int32} {x2 : Int32} : runM (d + 1) nX6_houseHas [.ref 64, .int x1, .int x2] m = runI (runM d) iX6_houseHas (0, [some (.ref 64), some (.int x1), some (.int x2)], [], m) := runM_of pg_X6_houseHas (Nat.le_of_ble_eq_true rfl) rfl
theorem pg_X6_noteRest : PG[nX6_noteRest]? = some pe_X6_noteRest := rfl
theorem e_X6_noteRest {d : Nat} {m : AM} {x1 : Int32} {x2 : Int32} : runM (d + 1) nX6_noteRest [.ref 64, .int x1, .int x2] m = runI (runM d) iX6_noteRest (0, [some (.ref 64), some (.int x1), some (.int x2)], [], m) := runM_of pg_X6_noteRest (Nat.le_of_ble_eq_true rfl) rfl
theorem pg_X6_asTold : PG[nX6_asTold]? = some pe_X6_asTold := rfl
theorem e_X6_asTold {d : Nat} {m : AM} {x1 : Int32} : runM (d + 1) nX6_asTold [.ref 64, .int x1] m = runI (runM d) iX6_asTold (0, [some (.ref 64), some (.int x1)], [], m) := runM_of pg_X6_asTold (Nat.le_of_ble_eq_true rfl) rfl
theorem pg_X7_hasRoom : PG[nX7_hasRoom]? = some pe_X7_hasRoom := rfl
theorem e_X7_hasRoom {d : Nat} {m : AM}  : runM (d + 1) nX7_hasRoom [.ref 1] m = runI (runM d) iX7_hasRoom (0, [some (.ref 1)], [], m) := runM_of pg_X7_hasRoom (Nat.le_of_ble_eq_true rfl) rfl
theorem pg_X7_append : PG[nX7_append]? = some pe_X7_append := rfl
theorem e_X7_append {d : Nat} {m : AM} {x1 : Int32} : runM (d + 1) nX7_append [.ref 1, .int x1] m = runI (runM d) iX7_append (0, [some (.ref 1), some (.int x1), none], [], m) := runM_of pg_X7_append (Nat.le_of_ble_eq_true rfl) rfl
theorem pg_X7_begin : PG[nX7_begin]? = some pe_X7_begin := rfl
theorem e_X7_begin {d : Nat} {m : AM} {x1 : Int32} : runM (d + 1) nX7_begin [.ref 1, .int x1] m = runI (runM d) iX7_begin (0, [some (.ref 1), some (.int x1)], [], m) := runM_of pg_X7_begin (Nat.le_of_ble_eq_true rfl) rfl
theorem pg_X7_peek : PG[nX7_peek]? = some pe_X7_peek := rfl
theorem e_X7_peek {d : Nat} {m : AM}  : runM (d + 1) nX7_peek [.ref 1] m = runI (runM d) iX7_peek (0, [some (.ref 1)], [], m) := runM_of pg_X7_peek (Nat.le_of_ble_eq_true rfl) rfl
theorem pg_X7_byteAt : PG[nX7_byteAt]? = some pe_X7_byteAt := rfl
theorem e_X7_byteAt {d : Nat} {m : AM} {x1 : Int32} : runM (d + 1) nX7_byteAt [.ref 1, .int x1] m = runI (runM d) iX7_byteAt (0, [some (.ref 1), some (.int x1)], [], m) := runM_of pg_X7_byteAt (Nat.le_of_ble_eq_true rfl) rfl
theorem pg_X7_blame : PG[nX7_blame]? = some pe_X7_blame := rfl
theorem e_X7_blame {d : Nat} {m : AM} {x1 : Int32} : runM (d + 1) nX7_blame [.ref 1, .int x1] m = runI (runM d) iX7_blame (0, [some (.ref 1), some (.int x1)], [], m) := runM_of pg_X7_blame (Nat.le_of_ble_eq_true rfl) rfl
theorem pg_X7_tooMany : PG[nX7_tooMany]? = some pe_X7_tooMany := rfl
theorem e_X7_tooMany {d : Nat} {m : AM}  : runM (d + 1) nX7_tooMany [.ref 1] m = runI (runM d) iX7_tooMany (0, [some (.ref 1)], [], m) := runM_of pg_X7_tooMany (Nat.le_of_ble_eq_true rfl) rfl
theorem pg_X7_numeral : PG[nX7_numeral]? = some pe_X7_numeral := rfl
theorem e_X7_numeral {d : Nat} {m : AM} {x1 : Int32} {x2 : Int32} : runM (d + 1) nX7_numeral [.ref 1, .int x1, .int x2] m = runI (runM d) iX7_numeral (0, [some (.ref 1), some (.int x1), some (.int x2), none], [], m) := runM_of pg_X7_numeral (Nat.le_of_ble_eq_true rfl) rfl
theorem pg_X7_isDigit : PG[nX7_isDigit]? = some pe_X7_isDigit := rfl
theorem e_X7_isDigit {d : Nat} {m : AM} {x0 : Int32} : runM (d + 1) nX7_isDigit [.int x0] m = runI (runM d) iX7_isDigit (0, [some (.int x0)], [], m) := runM_of pg_X7_isDigit (Nat.le_of_ble_eq_true rfl) rfl
theorem pg_X7_noneSuch : PG[nX7_noneSuch]? = some pe_X7_noneSuch := rfl
theorem e_X7_noneSuch {d : Nat} {m : AM}  : runM (d + 1) nX7_noneSuch [.ref 1] m = runI (runM d) iX7_noneSuch (0, [some (.ref 1)], [], m) := runM_of pg_X7_noneSuch (Nat.le_of_ble_eq_true rfl) rfl
theorem pg_X7_sign : PG[nX7_sign]? = some pe_X7_sign := rfl
theorem e_X7_sign {d : Nat} {m : AM} {x1 : Int32} : runM (d + 1) nX7_sign [.ref 1, .int x1] m = runI (runM d) iX7_sign (0, [some (.ref 1), some (.int x1)], [], m) := runM_of pg_X7_sign (Nat.le_of_ble_eq_true rfl) rfl
theorem pg_X7_ended : PG[nX7_ended]? = some pe_X7_ended := rfl
theorem e_X7_ended {d : Nat} {m : AM}  : runM (d + 1) nX7_ended [.ref 1] m = runI (runM d) iX7_ended (0, [some (.ref 1)], [], m) := runM_of pg_X7_ended (Nat.le_of_ble_eq_true rfl) rfl
theorem pg_X8_reachedBits : PG[nX8_reachedBits]? = some pe_X8_reachedBits := rfl
theorem e_X8_reachedBits {d : Nat} {m : AM} {a1 : Nat} : runM (d + 1) nX8_reachedBits [.ref 52, .ref a1] m = runI (runM d) iX8_reachedBits (0, [some (.ref 52), some (.ref a1), none, none, none, none], [], m) := runM_of pg_X8_reachedBits (Nat.le_of_ble_eq_true rfl) rfl
theorem pg_X8_arriving : PG[nX8_arriving]? = some pe_X8_arriving := rfl
theorem e_X8_arriving {d : Nat} {m : AM} {a1 : Nat} {x2 : Int32} : runM (d + 1) nX8_arriving [.ref 52, .ref a1, .int x2] m = runI (runM d) iX8_arriving (0, [some (.ref 52), some (.ref a1), some (.int x2), none, none], [], m) := runM_of pg_X8_arriving (Nat.le_of_ble_eq_true rfl) rfl
theorem pg_X8_behindPiece : PG[nX8_behindPiece]? = some pe_X8_behindPiece := rfl
theorem e_X8_behindPiece {d : Nat} {m : AM} {a1 : Nat} {x2 : Int32} {x3 : Int32} {x4 : Int32} {x5 : Int32} : runM (d + 1) nX8_behindPiece [.ref 52, .ref a1, .int x2, .int x3, .int x4, .int x5] m = runI (runM d) iX8_behindPiece (0, [some (.ref 52), some (.ref a1), some (.int x2), some (.int x3), some (.int x4), some (.int x5), none, none, none], [], m) := runM_of pg_X8_behindPiece (Nat.le_of_ble_eq_true rfl) rfl
theorem pg_X8_chanceOf : PG[nX8_chanceOf]? = some pe_X8_chanceOf := rfl
theorem e_X8_chanceOf {d : Nat} {m : AM} {a1 : Nat} {x2 : Int32} {x3 : Int32} : runM (d + 1) nX8_chanceOf [.ref 52, .ref a1, .int x2, .int x3] m = runI (runM d) iX8_chanceOf (0, [some (.ref 52), some (.ref a1), some (.int x2), some (.int x3), none, none, none, none, none, none, none], [], m) := runM_of pg_X8_chanceOf (Nat.le_of_ble_eq_true rfl) rfl
theorem pg_X8_worstPlace : PG[nX8_worstPlace]? = some pe_X8_worstPlace := rfl
theorem e_X8_worstPlace {d : Nat} {m : AM} {a1 : Nat} : runM (d + 1) nX8_worstPlace [.ref 52, .ref a1] m = runI (runM d) iX8_worstPlace (0, [some (.ref 52), some (.ref a1), none, none], [], m) := runM_of pg_X8_worstPlace (Nat.le_of_ble_eq_true rfl) rfl
theorem pg_X8_lostAt : PG[nX8_lostAt]? = some pe_X8_lostAt := rfl
theorem e_X8_lostAt {d : Nat} {m : AM} {a1 : Nat} {x2 : Int32} : runM (d + 1) nX8_lostAt [.ref 52, .ref a1, .int x2] m = runI (runM d) iX8_lostAt (0, [some (.ref 52), some (.ref a1), some (.int x2), none], [], m) := runM_of pg_X8_lostAt (Nat.le_of_ble_eq_true rfl) rfl
theorem pg_X9_readFrom : PG[nX9_readFrom]? = some pe_X9_readFrom := rfl
theorem e_X9_readFrom {d : Nat} {m : AM} {x2 : Int32} : runM (d + 1) nX9_readFrom [.ref 37, .ref 1, .int x2] m = runI (runM d) iX9_readFrom (0, [some (.ref 37), some (.ref 1), some (.int x2), none, none, none], [], m) := runM_of pg_X9_readFrom (Nat.le_of_ble_eq_true rfl) rfl
theorem pg_X9_readClose : PG[nX9_readClose]? = some pe_X9_readClose := rfl
theorem e_X9_readClose {d : Nat} {m : AM}  : runM (d + 1) nX9_readClose [.ref 37, .ref 1] m = runI (runM d) iX9_readClose (0, [some (.ref 37), some (.ref 1), none], [], m) := runM_of pg_X9_readClose (Nat.le_of_ble_eq_true rfl) rfl
theorem pg_X9_add : PG[nX9_add]? = some pe_X9_add := rfl
theorem e_X9_add {d : Nat} {m : AM} {x1 : Int32} {x2 : Int32} {x3 : Int32} : runM (d + 1) nX9_add [.ref 37, .int x1, .int x2, .int x3] m = runI (runM d) iX9_add (0, [some (.ref 37), some (.int x1), some (.int x2), some (.int x3)], [], m) := runM_of pg_X9_add (Nat.le_of_ble_eq_true rfl) rfl
theorem pg_X9_readStep : PG[nX9_readStep]? = some pe_X9_readStep := rfl
theorem e_X9_readStep {d : Nat} {m : AM} {x2 : Int32} : runM (d + 1) nX9_readStep [.ref 37, .ref 1, .int x2] m = runI (runM d) iX9_readStep (0, [some (.ref 37), some (.ref 1), some (.int x2), none, none, none], [], m) := runM_of pg_X9_readStep (Nat.le_of_ble_eq_true rfl) rfl
theorem pg_X9_readAgain : PG[nX9_readAgain]? = some pe_X9_readAgain := rfl
theorem e_X9_readAgain {d : Nat} {m : AM}  : runM (d + 1) nX9_readAgain [.ref 37, .ref 1] m = runI (runM d) iX9_readAgain (0, [some (.ref 37), some (.ref 1)], [], m) := runM_of pg_X9_readAgain (Nat.le_of_ble_eq_true rfl) rfl
theorem pg_X9_doneOn : PG[nX9_doneOn]? = some pe_X9_doneOn := rfl
theorem e_X9_doneOn {d : Nat} {m : AM} {a1 : Nat} {a2 : Nat} : runM (d + 1) nX9_doneOn [.ref 37, .ref a1, .ref a2, .ref 52] m = runI (runM d) iX9_doneOn (0, [some (.ref 37), some (.ref a1), some (.ref a2), some (.ref 52), none, none, none, none, none], [], m) := runM_of pg_X9_doneOn (Nat.le_of_ble_eq_true rfl) rfl
theorem pg_X9_behindClose : PG[nX9_behindClose]? = some pe_X9_behindClose := rfl
theorem e_X9_behindClose {d : Nat} {m : AM} {x1 : Int32} : runM (d + 1) nX9_behindClose [.ref 37, .int x1] m = runI (runM d) iX9_behindClose (0, [some (.ref 37), some (.int x1), none], [], m) := runM_of pg_X9_behindClose (Nat.le_of_ble_eq_true rfl) rfl
theorem pg_X9_behindAgain : PG[nX9_behindAgain]? = some pe_X9_behindAgain := rfl
theorem e_X9_behindAgain {d : Nat} {m : AM} {x1 : Int32} : runM (d + 1) nX9_behindAgain [.ref 37, .int x1] m = runI (runM d) iX9_behindAgain (0, [some (.ref 37), some (.int x1)], [], m) := runM_of pg_X9_behindAgain (Nat.le_of_ble_eq_true rfl) rfl
theorem pg_X9_isDone : PG[nX9_isDone]? = some pe_X9_isDone := rfl
theorem e_X9_isDone {d : Nat} {m : AM} {x1 : Int32} {a2 : Nat} {a3 : Nat} : runM (d + 1) nX9_isDone [.ref 37, .int x1, .ref a2, .ref a3, .ref 52] m = runI (runM d) iX9_isDone (0, [some (.ref 37), some (.int x1), some (.ref a2), some (.ref a3), some (.ref 52), none], [], m) := runM_of pg_X9_isDone (Nat.le_of_ble_eq_true rfl) rfl
theorem pg_X10_outAfter : PG[nX10_outAfter]? = some pe_X10_outAfter := rfl
theorem e_X10_outAfter {d : Nat} {m : AM} {a1 : Nat} {x2 : Int32} : runM (d + 1) nX10_outAfter [.ref 66, .ref a1, .int x2] m = runI (runM d) iX10_outAfter (0, [some (.ref 66), some (.ref a1), some (.int x2), none, none], [], m) := runM_of pg_X10_outAfter (Nat.le_of_ble_eq_true rfl) rfl
theorem pg_X10_live : PG[nX10_live]? = some pe_X10_live := rfl
theorem e_X10_live {d : Nat} {m : AM} {a1 : Nat} {x2 : Int32} {x3 : Int32} {x4 : Int32} : runM (d + 1) nX10_live [.ref 66, .ref a1, .int x2, .int x3, .int x4] m = runI (runM d) iX10_live (0, [some (.ref 66), some (.ref a1), some (.int x2), some (.int x3), some (.int x4), none], [], m) := runM_of pg_X10_live (Nat.le_of_ble_eq_true rfl) rfl
theorem pg_X10_doDrawn : PG[nX10_doDrawn]? = some pe_X10_doDrawn := rfl
theorem e_X10_doDrawn {d : Nat} {m : AM} {x1 : Int32} : runM (d + 1) nX10_doDrawn [.ref 66, .int x1] m = runI (runM d) iX10_doDrawn (0, [some (.ref 66), some (.int x1), none], [], m) := runM_of pg_X10_doDrawn (Nat.le_of_ble_eq_true rfl) rfl
theorem pg_X10_drawn : PG[nX10_drawn]? = some pe_X10_drawn := rfl
theorem e_X10_drawn {d : Nat} {m : AM} {x1 : Int32} : runM (d + 1) nX10_drawn [.ref 66, .int x1] m = runI (runM d) iX10_drawn (0, [some (.ref 66), some (.int x1)], [], m) := runM_of pg_X10_drawn (Nat.le_of_ble_eq_true rfl) rfl
theorem pg_X11_feed : PG[nX11_feed]? = some pe_X11_feed := rfl
theorem e_X11_feed {d : Nat} {m : AM} {x1 : Int32} {x2 : Int32} {x3 : Int32} {x4 : Int32} {x5 : Int32} : runM (d + 1) nX11_feed [.ref 0, .int x1, .int x2, .int x3, .int x4, .int x5] m = runI (runM d) iX11_feed (0, [some (.ref 0), some (.int x1), some (.int x2), some (.int x3), some (.int x4), some (.int x5)], [], m) := runM_of pg_X11_feed (Nat.le_of_ble_eq_true rfl) rfl
theorem pg_X11_fault : PG[nX11_fault]? = some pe_X11_fault := rfl
theorem e_X11_fault {d : Nat} {m : AM}  : runM (d + 1) nX11_fault [.ref 0] m = runI (runM d) iX11_fault (0, [some (.ref 0)], [], m) := runM_of pg_X11_fault (Nat.le_of_ble_eq_true rfl) rfl
theorem pg_X11_undo : PG[nX11_undo]? = some pe_X11_undo := rfl
theorem e_X11_undo {d : Nat} {m : AM}  : runM (d + 1) nX11_undo [.ref 0] m = runI (runM d) iX11_undo (0, [some (.ref 0)], [], m) := runM_of pg_X11_undo (Nat.le_of_ble_eq_true rfl) rfl
theorem pg_X11_wed : PG[nX11_wed]? = some pe_X11_wed := rfl
theorem e_X11_wed {d : Nat} {m : AM}  : runM (d + 1) nX11_wed [.ref 0] m = runI (runM d) iX11_wed (0, [some (.ref 0)], [], m) := runM_of pg_X11_wed (Nat.le_of_ble_eq_true rfl) rfl
theorem pg_X11_bit : PG[nX11_bit]? = some pe_X11_bit := rfl
theorem e_X11_bit {d : Nat} {m : AM} {x0 : Int32} {x1 : Int32} : runM (d + 1) nX11_bit [.int x0, .int x1] m = runI (runM d) iX11_bit (0, [some (.int x0), some (.int x1)], [], m) := runM_of pg_X11_bit (Nat.le_of_ble_eq_true rfl) rfl
theorem pg_X11_pick : PG[nX11_pick]? = some pe_X11_pick := rfl
theorem e_X11_pick {d : Nat} {m : AM} {r0 : Nat} {x1 : Int32} : runM (d + 1) nX11_pick [.ref r0, .int x1] m = runI (runM d) iX11_pick (0, [some (.ref r0), some (.int x1)], [], m) := runM_of pg_X11_pick (Nat.le_of_ble_eq_true rfl) rfl
theorem pg_X11_image : PG[nX11_image]? = some pe_X11_image := rfl
theorem e_X11_image {d : Nat} {m : AM}  : runM (d + 1) nX11_image [.ref 0] m = runI (runM d) iX11_image (0, [some (.ref 0)], [], m) := runM_of pg_X11_image (Nat.le_of_ble_eq_true rfl) rfl
theorem pg_X11_restore : PG[nX11_restore]? = some pe_X11_restore := rfl
theorem e_X11_restore {d : Nat} {m : AM}  : runM (d + 1) nX11_restore [.ref 0] m = runI (runM d) iX11_restore (0, [some (.ref 0)], [], m) := runM_of pg_X11_restore (Nat.le_of_ble_eq_true rfl) rfl
theorem pg_X11_status : PG[nX11_status]? = some pe_X11_status := rfl
theorem e_X11_status {d : Nat} {m : AM} {x1 : Int32} : runM (d + 1) nX11_status [.ref 0, .int x1] m = runI (runM d) iX11_status (0, [some (.ref 0), some (.int x1)], [], m) := runM_of pg_X11_status (Nat.le_of_ble_eq_true rfl) rfl
theorem pg_X11_count : PG[nX11_count]? = some pe_X11_count := rfl
theorem e_X11_count {d : Nat} {m : AM} {x1 : Int32} : runM (d + 1) nX11_count [.ref 0, .int x1] m = runI (runM d) iX11_count (0, [some (.ref 0), some (.int x1)], [], m) := runM_of pg_X11_count (Nat.le_of_ble_eq_true rfl) rfl
theorem pg_X11_house : PG[nX11_house]? = some pe_X11_house := rfl
theorem e_X11_house {d : Nat} {m : AM} {x1 : Int32} : runM (d + 1) nX11_house [.ref 0, .int x1] m = runI (runM d) iX11_house (0, [some (.ref 0), some (.int x1)], [], m) := runM_of pg_X11_house (Nat.le_of_ble_eq_true rfl) rfl
theorem pg_X11_open : PG[nX11_open]? = some pe_X11_open := rfl
theorem e_X11_open {d : Nat} {m : AM} {x1 : Int32} {x2 : Int32} : runM (d + 1) nX11_open [.ref 0, .int x1, .int x2] m = runI (runM d) iX11_open (0, [some (.ref 0), some (.int x1), some (.int x2)], [], m) := runM_of pg_X11_open (Nat.le_of_ble_eq_true rfl) rfl
theorem pg_X11_expect : PG[nX11_expect]? = some pe_X11_expect := rfl
theorem e_X11_expect {d : Nat} {m : AM} {x1 : Int32} : runM (d + 1) nX11_expect [.ref 0, .int x1] m = runI (runM d) iX11_expect (0, [some (.ref 0), some (.int x1)], [], m) := runM_of pg_X11_expect (Nat.le_of_ble_eq_true rfl) rfl
theorem pg_X11_within : PG[nX11_within]? = some pe_X11_within := rfl
theorem e_X11_within {d : Nat} {m : AM} {x0 : Int32} {x1 : Int32} {x2 : Int32} : runM (d + 1) nX11_within [.int x0, .int x1, .int x2] m = runI (runM d) iX11_within (0, [some (.int x0), some (.int x1), some (.int x2)], [], m) := runM_of pg_X11_within (Nat.le_of_ble_eq_true rfl) rfl
theorem pg_X11_put : PG[nX11_put]? = some pe_X11_put := rfl
theorem e_X11_put {d : Nat} {m : AM} {r0 : Nat} {x1 : Int32} {x2 : Int32} : runM (d + 1) nX11_put [.ref r0, .int x1, .int x2] m = runI (runM d) iX11_put (0, [some (.ref r0), some (.int x1), some (.int x2)], [], m) := runM_of pg_X11_put (Nat.le_of_ble_eq_true rfl) rfl
theorem pg_X11_law : PG[nX11_law]? = some pe_X11_law := rfl
theorem e_X11_law {d : Nat} {m : AM} {x1 : Int32} : runM (d + 1) nX11_law [.ref 0, .int x1] m = runI (runM d) iX11_law (0, [some (.ref 0), some (.int x1)], [], m) := runM_of pg_X11_law (Nat.le_of_ble_eq_true rfl) rfl
theorem pg_X11_work : PG[nX11_work]? = some pe_X11_work := rfl
theorem e_X11_work {d : Nat} {m : AM} {x1 : Int32} : runM (d + 1) nX11_work [.ref 0, .int x1] m = runI (runM d) iX11_work (0, [some (.ref 0), some (.int x1)], [], m) := runM_of pg_X11_work (Nat.le_of_ble_eq_true rfl) rfl
theorem pg_X11_book : PG[nX11_book]? = some pe_X11_book := rfl
theorem e_X11_book {d : Nat} {m : AM} {x1 : Int32} : runM (d + 1) nX11_book [.ref 0, .int x1] m = runI (runM d) iX11_book (0, [some (.ref 0), some (.int x1)], [], m) := runM_of pg_X11_book (Nat.le_of_ble_eq_true rfl) rfl
theorem pg_X11_told : PG[nX11_told]? = some pe_X11_told := rfl
theorem e_X11_told {d : Nat} {m : AM} {x1 : Int32} : runM (d + 1) nX11_told [.ref 0, .int x1] m = runI (runM d) iX11_told (0, [some (.ref 0), some (.int x1)], [], m) := runM_of pg_X11_told (Nat.le_of_ble_eq_true rfl) rfl
theorem pg_X11_piece : PG[nX11_piece]? = some pe_X11_piece := rfl
theorem e_X11_piece {d : Nat} {m : AM} {x1 : Int32} {x2 : Int32} : runM (d + 1) nX11_piece [.ref 0, .int x1, .int x2] m = runI (runM d) iX11_piece (0, [some (.ref 0), some (.int x1), some (.int x2)], [], m) := runM_of pg_X11_piece (Nat.le_of_ble_eq_true rfl) rfl
theorem pg_X11_expectPiece : PG[nX11_expectPiece]? = some pe_X11_expectPiece := rfl
theorem e_X11_expectPiece {d : Nat} {m : AM} {x1 : Int32} : runM (d + 1) nX11_expectPiece [.ref 0, .int x1] m = runI (runM d) iX11_expectPiece (0, [some (.ref 0), some (.int x1)], [], m) := runM_of pg_X11_expectPiece (Nat.le_of_ble_eq_true rfl) rfl
theorem pg_X11_expectThere : PG[nX11_expectThere]? = some pe_X11_expectThere := rfl
theorem e_X11_expectThere {d : Nat} {m : AM} {x1 : Int32} : runM (d + 1) nX11_expectThere [.ref 0, .int x1] m = runI (runM d) iX11_expectThere (0, [some (.ref 0), some (.int x1)], [], m) := runM_of pg_X11_expectThere (Nat.le_of_ble_eq_true rfl) rfl
theorem pg_X11_collar : PG[nX11_collar]? = some pe_X11_collar := rfl
theorem e_X11_collar {d : Nat} {m : AM} {x1 : Int32} {x2 : Int32} : runM (d + 1) nX11_collar [.ref 0, .int x1, .int x2] m = runI (runM d) iX11_collar (0, [some (.ref 0), some (.int x1), some (.int x2)], [], m) := runM_of pg_X11_collar (Nat.le_of_ble_eq_true rfl) rfl
theorem pg_X11_fire : PG[nX11_fire]? = some pe_X11_fire := rfl
theorem e_X11_fire {d : Nat} {m : AM} {x1 : Int32} {x2 : Int32} : runM (d + 1) nX11_fire [.ref 0, .int x1, .int x2] m = runI (runM d) iX11_fire (0, [some (.ref 0), some (.int x1), some (.int x2)], [], m) := runM_of pg_X11_fire (Nat.le_of_ble_eq_true rfl) rfl
theorem pg_X11_expectFire : PG[nX11_expectFire]? = some pe_X11_expectFire := rfl
theorem e_X11_expectFire {d : Nat} {m : AM} {x1 : Int32} : runM (d + 1) nX11_expectFire [.ref 0, .int x1] m = runI (runM d) iX11_expectFire (0, [some (.ref 0), some (.int x1)], [], m) := runM_of pg_X11_expectFire (Nat.le_of_ble_eq_true rfl) rfl
theorem pg_X11_row : PG[nX11_row]? = some pe_X11_row := rfl
theorem e_X11_row {d : Nat} {m : AM} {x1 : Int32} : runM (d + 1) nX11_row [.ref 0, .int x1] m = runI (runM d) iX11_row (0, [some (.ref 0), some (.int x1)], [], m) := runM_of pg_X11_row (Nat.le_of_ble_eq_true rfl) rfl
theorem pg_X11_behind : PG[nX11_behind]? = some pe_X11_behind := rfl
theorem e_X11_behind {d : Nat} {m : AM} {x1 : Int32} : runM (d + 1) nX11_behind [.ref 0, .int x1] m = runI (runM d) iX11_behind (0, [some (.ref 0), some (.int x1)], [], m) := runM_of pg_X11_behind (Nat.le_of_ble_eq_true rfl) rfl
theorem pg_X11_would : PG[nX11_would]? = some pe_X11_would := rfl
theorem e_X11_would {d : Nat} {m : AM} {x1 : Int32} {x2 : Int32} {x3 : Int32} {x4 : Int32} {x5 : Int32} {x6 : Int32} {x7 : Int32} {x8 : Int32} {x9 : Int32} : runM (d + 1) nX11_would [.ref 0, .int x1, .int x2, .int x3, .int x4, .int x5, .int x6, .int x7, .int x8, .int x9] m = runI (runM d) iX11_would (0, [some (.ref 0), some (.int x1), some (.int x2), some (.int x3), some (.int x4), some (.int x5), some (.int x6), some (.int x7), some (.int x8), some (.int x9)], [], m) := runM_of pg_X11_would (Nat.le_of_ble_eq_true rfl) rfl
theorem pg_X11_fits : PG[nX11_fits]? = some pe_X11_fits := rfl
theorem e_X11_fits {d : Nat} {m : AM} {x1 : Int32} {x2 : Int32} : runM (d + 1) nX11_fits [.ref 0, .int x1, .int x2] m = runI (runM d) iX11_fits (0, [some (.ref 0), some (.int x1), some (.int x2)], [], m) := runM_of pg_X11_fits (Nat.le_of_ble_eq_true rfl) rfl
theorem pg_X11_expectThread : PG[nX11_expectThread]? = some pe_X11_expectThread := rfl
theorem e_X11_expectThread {d : Nat} {m : AM} {x1 : Int32} : runM (d + 1) nX11_expectThread [.ref 0, .int x1] m = runI (runM d) iX11_expectThread (0, [some (.ref 0), some (.int x1)], [], m) := runM_of pg_X11_expectThread (Nat.le_of_ble_eq_true rfl) rfl
theorem pg_X11_can : PG[nX11_can]? = some pe_X11_can := rfl
theorem e_X11_can {d : Nat} {m : AM} {x1 : Int32} : runM (d + 1) nX11_can [.ref 0, .int x1] m = runI (runM d) iX11_can (0, [some (.ref 0), some (.int x1)], [], m) := runM_of pg_X11_can (Nat.le_of_ble_eq_true rfl) rfl
theorem pg_X11_ahead : PG[nX11_ahead]? = some pe_X11_ahead := rfl
theorem e_X11_ahead {d : Nat} {m : AM} {x1 : Int32} : runM (d + 1) nX11_ahead [.ref 0, .int x1] m = runI (runM d) iX11_ahead (0, [some (.ref 0), some (.int x1)], [], m) := runM_of pg_X11_ahead (Nat.le_of_ble_eq_true rfl) rfl
theorem pg_X11_chain : PG[nX11_chain]? = some pe_X11_chain := rfl
theorem e_X11_chain {d : Nat} {m : AM} {x1 : Int32} : runM (d + 1) nX11_chain [.ref 0, .int x1] m = runI (runM d) iX11_chain (0, [some (.ref 0), some (.int x1)], [], m) := runM_of pg_X11_chain (Nat.le_of_ble_eq_true rfl) rfl
theorem pg_X11_chained : PG[nX11_chained]? = some pe_X11_chained := rfl
theorem e_X11_chained {d : Nat} {m : AM} {x1 : Int32} : runM (d + 1) nX11_chained [.ref 0, .int x1] m = runI (runM d) iX11_chained (0, [some (.ref 0), some (.int x1)], [], m) := runM_of pg_X11_chained (Nat.le_of_ble_eq_true rfl) rfl
theorem pg_X11_brief : PG[nX11_brief]? = some pe_X11_brief := rfl
theorem e_X11_brief {d : Nat} {m : AM} {x1 : Int32} : runM (d + 1) nX11_brief [.ref 0, .int x1] m = runI (runM d) iX11_brief (0, [some (.ref 0), some (.int x1)], [], m) := runM_of pg_X11_brief (Nat.le_of_ble_eq_true rfl) rfl
theorem pg_X11_briefly : PG[nX11_briefly]? = some pe_X11_briefly := rfl
theorem e_X11_briefly {d : Nat} {m : AM} {x1 : Int32} {x2 : Int32} : runM (d + 1) nX11_briefly [.ref 0, .int x1, .int x2] m = runI (runM d) iX11_briefly (0, [some (.ref 0), some (.int x1), some (.int x2)], [], m) := runM_of pg_X11_briefly (Nat.le_of_ble_eq_true rfl) rfl
theorem pg_X11_joiner : PG[nX11_joiner]? = some pe_X11_joiner := rfl
theorem e_X11_joiner {d : Nat} {m : AM} {x1 : Int32} : runM (d + 1) nX11_joiner [.ref 0, .int x1] m = runI (runM d) iX11_joiner (0, [some (.ref 0), some (.int x1)], [], m) := runM_of pg_X11_joiner (Nat.le_of_ble_eq_true rfl) rfl
theorem pg_X11_leaks : PG[nX11_leaks]? = some pe_X11_leaks := rfl
theorem e_X11_leaks {d : Nat} {m : AM} {x1 : Int32} : runM (d + 1) nX11_leaks [.ref 0, .int x1] m = runI (runM d) iX11_leaks (0, [some (.ref 0), some (.int x1)], [], m) := runM_of pg_X11_leaks (Nat.le_of_ble_eq_true rfl) rfl
theorem pg_X11_look : PG[nX11_look]? = some pe_X11_look := rfl
theorem e_X11_look {d : Nat} {m : AM} {x1 : Int32} : runM (d + 1) nX11_look [.ref 0, .int x1] m = runI (runM d) iX11_look (0, [some (.ref 0), some (.int x1)], [], m) := runM_of pg_X11_look (Nat.le_of_ble_eq_true rfl) rfl
theorem pg_X11_sure : PG[nX11_sure]? = some pe_X11_sure := rfl
theorem e_X11_sure {d : Nat} {m : AM} {x1 : Int32} {x2 : Int32} {x3 : Int32} : runM (d + 1) nX11_sure [.ref 0, .int x1, .int x2, .int x3] m = runI (runM d) iX11_sure (0, [some (.ref 0), some (.int x1), some (.int x2), some (.int x3), none, none, none, none, none], [], m) := runM_of pg_X11_sure (Nat.le_of_ble_eq_true rfl) rfl
theorem pg_X11_street : PG[nX11_street]? = some pe_X11_street := rfl
theorem e_X11_street {d : Nat} {m : AM} {x1 : Int32} {x2 : Int32} {x3 : Int32} : runM (d + 1) nX11_street [.ref 0, .int x1, .int x2, .int x3] m = runI (runM d) iX11_street (0, [some (.ref 0), some (.int x1), some (.int x2), some (.int x3)], [], m) := runM_of pg_X11_street (Nat.le_of_ble_eq_true rfl) rfl
theorem pg_X11_share : PG[nX11_share]? = some pe_X11_share := rfl
theorem e_X11_share {d : Nat} {m : AM} {x1 : Int32} {x2 : Int32} {x3 : Int32} : runM (d + 1) nX11_share [.ref 0, .int x1, .int x2, .int x3] m = runI (runM d) iX11_share (0, [some (.ref 0), some (.int x1), some (.int x2), some (.int x3)], [], m) := runM_of pg_X11_share (Nat.le_of_ble_eq_true rfl) rfl
theorem pg_X11_next : PG[nX11_next]? = some pe_X11_next := rfl
theorem e_X11_next {d : Nat} {m : AM} {x1 : Int32} : runM (d + 1) nX11_next [.ref 0, .int x1] m = runI (runM d) iX11_next (0, [some (.ref 0), some (.int x1), none, none], [], m) := runM_of pg_X11_next (Nat.le_of_ble_eq_true rfl) rfl
theorem pg_X11_worst : PG[nX11_worst]? = some pe_X11_worst := rfl
theorem e_X11_worst {d : Nat} {m : AM} {x1 : Int32} : runM (d + 1) nX11_worst [.ref 0, .int x1] m = runI (runM d) iX11_worst (0, [some (.ref 0), some (.int x1), none], [], m) := runM_of pg_X11_worst (Nat.le_of_ble_eq_true rfl) rfl
theorem pg_X11_needed : PG[nX11_needed]? = some pe_X11_needed := rfl
theorem e_X11_needed {d : Nat} {m : AM} {x1 : Int32} : runM (d + 1) nX11_needed [.ref 0, .int x1] m = runI (runM d) iX11_needed (0, [some (.ref 0), some (.int x1), none], [], m) := runM_of pg_X11_needed (Nat.le_of_ble_eq_true rfl) rfl
theorem pg_X11_kin : PG[nX11_kin]? = some pe_X11_kin := rfl
theorem e_X11_kin {d : Nat} {m : AM} {x1 : Int32} : runM (d + 1) nX11_kin [.ref 0, .int x1] m = runI (runM d) iX11_kin (0, [some (.ref 0), some (.int x1)], [], m) := runM_of pg_X11_kin (Nat.le_of_ble_eq_true rfl) rfl
theorem pg_X11_year : PG[nX11_year]? = some pe_X11_year := rfl
theorem e_X11_year {d : Nat} {m : AM} {x1 : Int32} {x2 : Int32} {x3 : Int32} {x4 : Int32} : runM (d + 1) nX11_year [.ref 0, .int x1, .int x2, .int x3, .int x4] m = runI (runM d) iX11_year (0, [some (.ref 0), some (.int x1), some (.int x2), some (.int x3), some (.int x4)], [], m) := runM_of pg_X11_year (Nat.le_of_ble_eq_true rfl) rfl
theorem pg_X11_span : PG[nX11_span]? = some pe_X11_span := rfl
theorem e_X11_span {d : Nat} {m : AM} {x1 : Int32} {x2 : Int32} {x3 : Int32} {x4 : Int32} {x5 : Int32} {x6 : Int32} : runM (d + 1) nX11_span [.ref 0, .int x1, .int x2, .int x3, .int x4, .int x5, .int x6] m = runI (runM d) iX11_span (0, [some (.ref 0), some (.int x1), some (.int x2), some (.int x3), some (.int x4), some (.int x5), some (.int x6), none, none, none, none], [], m) := runM_of pg_X11_span (Nat.le_of_ble_eq_true rfl) rfl
theorem pg_X12_tellsNothing : PG[nX12_tellsNothing]? = some pe_X12_tellsNothing := rfl
theorem e_X12_tellsNothing {d : Nat} {m : AM}  : runM (d + 1) nX12_tellsNothing [.ref 72] m = runI (runM d) iX12_tellsNothing (0, [some (.ref 72), none], [], m) := runM_of pg_X12_tellsNothing (Nat.le_of_ble_eq_true rfl) rfl
theorem pg_X12_beginsAnew : PG[nX12_beginsAnew]? = some pe_X12_beginsAnew := rfl
theorem e_X12_beginsAnew {d : Nat} {m : AM}  : runM (d + 1) nX12_beginsAnew [.ref 72] m = runI (runM d) iX12_beginsAnew (0, [some (.ref 72), none], [], m) := runM_of pg_X12_beginsAnew (Nat.le_of_ble_eq_true rfl) rfl
theorem pg_X12_lays : PG[nX12_lays]? = some pe_X12_lays := rfl
theorem e_X12_lays {d : Nat} {m : AM} {g0 : Nat} {g1 : Nat} {x2 : Int32} : runM (d + 1) nX12_lays [.ref g0, .ref g1, .int x2] m = runI (runM d) iX12_lays (0, [some (.ref g0), some (.ref g1), some (.int x2), none, none], [], m) := runM_of pg_X12_lays (Nat.le_of_ble_eq_true rfl) rfl
theorem pg_X12_thrown : PG[nX12_thrown]? = some pe_X12_thrown := rfl
theorem e_X12_thrown {d : Nat} {m : AM}  : runM (d + 1) nX12_thrown [.ref 72] m = runI (runM d) iX12_thrown (0, [some (.ref 72)], [], m) := runM_of pg_X12_thrown (Nat.le_of_ble_eq_true rfl) rfl
theorem pg_X12_feed : PG[nX12_feed]? = some pe_X12_feed := rfl
theorem e_X12_feed {d : Nat} {m : AM} {x1 : Int32} {x2 : Int32} {x3 : Int32} {x4 : Int32} {x5 : Int32} : runM (d + 1) nX12_feed [.ref 72, .int x1, .int x2, .int x3, .int x4, .int x5] m = runI (runM d) iX12_feed (0, [some (.ref 72), some (.int x1), some (.int x2), some (.int x3), some (.int x4), some (.int x5), none, none], [], m) := runM_of pg_X12_feed (Nat.le_of_ble_eq_true rfl) rfl
theorem pg_X12_house : PG[nX12_house]? = some pe_X12_house := rfl
theorem e_X12_house {d : Nat} {m : AM} {x1 : Int32} : runM (d + 1) nX12_house [.ref 72, .int x1] m = runI (runM d) iX12_house (0, [some (.ref 72), some (.int x1)], [], m) := runM_of pg_X12_house (Nat.le_of_ble_eq_true rfl) rfl
theorem pg_X12_in : PG[nX12_in]? = some pe_X12_in := rfl
theorem e_X12_in {d : Nat} {m : AM} {x0 : Int32} {x1 : Int32} {x2 : Int32} : runM (d + 1) nX12_in [.int x0, .int x1, .int x2] m = runI (runM d) iX12_in (0, [some (.int x0), some (.int x1), some (.int x2)], [], m) := runM_of pg_X12_in (Nat.le_of_ble_eq_true rfl) rfl
theorem pg_X12_bad : PG[nX12_bad]? = some pe_X12_bad := rfl
theorem e_X12_bad {d : Nat} {m : AM} {x1 : Int32} {x2 : Int32} {x3 : Int32} : runM (d + 1) nX12_bad [.ref 72, .int x1, .int x2, .int x3] m = runI (runM d) iX12_bad (0, [some (.ref 72), some (.int x1), some (.int x2), some (.int x3)], [], m) := runM_of pg_X12_bad (Nat.le_of_ble_eq_true rfl) rfl
theorem pg_X12_starts : PG[nX12_starts]? = some pe_X12_starts := rfl
theorem e_X12_starts {d : Nat} {m : AM} {x1 : Int32} : runM (d + 1) nX12_starts [.ref 72, .int x1] m = runI (runM d) iX12_starts (0, [some (.ref 72), some (.int x1)], [], m) := runM_of pg_X12_starts (Nat.le_of_ble_eq_true rfl) rfl
theorem pg_X12_blanks : PG[nX12_blanks]? = some pe_X12_blanks := rfl
theorem e_X12_blanks {d : Nat} {m : AM}  : runM (d + 1) nX12_blanks [.ref 72] m = runI (runM d) iX12_blanks (0, [some (.ref 72)], [], m) := runM_of pg_X12_blanks (Nat.le_of_ble_eq_true rfl) rfl
theorem pg_X12_byteAt : PG[nX12_byteAt]? = some pe_X12_byteAt := rfl
theorem e_X12_byteAt {d : Nat} {m : AM} {x1 : Int32} : runM (d + 1) nX12_byteAt [.ref 72, .int x1] m = runI (runM d) iX12_byteAt (0, [some (.ref 72), some (.int x1)], [], m) := runM_of pg_X12_byteAt (Nat.le_of_ble_eq_true rfl) rfl
theorem pg_X12_clause : PG[nX12_clause]? = some pe_X12_clause := rfl
theorem e_X12_clause {d : Nat} {m : AM}  : runM (d + 1) nX12_clause [.ref 72] m = runI (runM d) iX12_clause (0, [some (.ref 72), none, none, none, none, none], [], m) := runM_of pg_X12_clause (Nat.le_of_ble_eq_true rfl) rfl
theorem pg_X12_kindHere : PG[nX12_kindHere]? = some pe_X12_kindHere := rfl
theorem e_X12_kindHere {d : Nat} {m : AM}  : runM (d + 1) nX12_kindHere [.ref 72] m = runI (runM d) iX12_kindHere (0, [some (.ref 72)], [], m) := runM_of pg_X12_kindHere (Nat.le_of_ble_eq_true rfl) rfl
theorem pg_X12_isWord : PG[nX12_isWord]? = some pe_X12_isWord := rfl
theorem e_X12_isWord {d : Nat} {m : AM} {x1 : Int32} {x2 : Int32} {x3 : Int32} {x4 : Int32} {x5 : Int32} {x6 : Int32} : runM (d + 1) nX12_isWord [.ref 72, .int x1, .int x2, .int x3, .int x4, .int x5, .int x6] m = runI (runM d) iX12_isWord (0, [some (.ref 72), some (.int x1), some (.int x2), some (.int x3), some (.int x4), some (.int x5), some (.int x6)], [], m) := runM_of pg_X12_isWord (Nat.le_of_ble_eq_true rfl) rfl
theorem pg_X12_wordHere : PG[nX12_wordHere]? = some pe_X12_wordHere := rfl
theorem e_X12_wordHere {d : Nat} {m : AM}  : runM (d + 1) nX12_wordHere [.ref 72] m = runI (runM d) iX12_wordHere (0, [some (.ref 72), none, none], [], m) := runM_of pg_X12_wordHere (Nat.le_of_ble_eq_true rfl) rfl
theorem pg_X12_isSmall : PG[nX12_isSmall]? = some pe_X12_isSmall := (pg_hi (j := 0) rfl rfl)
theorem e_X12_isSmall {d : Nat} {m : AM} {x0 : Int32} : runM (d + 1) nX12_isSmall [.int x0] m = runI (runM d) iX12_isSmall (0, [some (.int x0)], [], m) := runM_of pg_X12_isSmall (Nat.le_of_ble_eq_true rfl) rfl
theorem pg_X12_six : PG[nX12_six]? = some pe_X12_six := (pg_hi (j := 1) rfl rfl)
theorem e_X12_six {d : Nat} {m : AM} {x0 : Int32} {x1 : Int32} {x2 : Int32} {x3 : Int32} {x4 : Int32} {x5 : Int32} : runM (d + 1) nX12_six [.int x0, .int x1, .int x2, .int x3, .int x4, .int x5] m = runI (runM d) iX12_six (0, [some (.int x0), some (.int x1), some (.int x2), some (.int x3), some (.int x4), some (.int x5), none], [], m) := runM_of pg_X12_six (Nat.le_of_ble_eq_true rfl) rfl
theorem pg_X12_wrong : PG[nX12_wrong]? = some pe_X12_wrong := (pg_hi (j := 2) rfl rfl)
theorem e_X12_wrong {d : Nat} {m : AM} {x1 : Int32} {x2 : Int32} : runM (d + 1) nX12_wrong [.ref 72, .int x1, .int x2] m = runI (runM d) iX12_wrong (0, [some (.ref 72), some (.int x1), some (.int x2)], [], m) := runM_of pg_X12_wrong (Nat.le_of_ble_eq_true rfl) rfl
theorem pg_X12_mostOf : PG[nX12_mostOf]? = some pe_X12_mostOf := (pg_hi (j := 3) rfl rfl)
theorem e_X12_mostOf {d : Nat} {m : AM} {x0 : Int32} : runM (d + 1) nX12_mostOf [.int x0] m = runI (runM d) iX12_mostOf (0, [some (.int x0)], [], m) := runM_of pg_X12_mostOf (Nat.le_of_ble_eq_true rfl) rfl
theorem pg_X12_skipWord : PG[nX12_skipWord]? = some pe_X12_skipWord := (pg_hi (j := 4) rfl rfl)
theorem e_X12_skipWord {d : Nat} {m : AM}  : runM (d + 1) nX12_skipWord [.ref 72] m = runI (runM d) iX12_skipWord (0, [some (.ref 72)], [], m) := runM_of pg_X12_skipWord (Nat.le_of_ble_eq_true rfl) rfl
theorem pg_X12_number : PG[nX12_number]? = some pe_X12_number := (pg_hi (j := 5) rfl rfl)
theorem e_X12_number {d : Nat} {m : AM} {x1 : Int32} {x2 : Int32} : runM (d + 1) nX12_number [.ref 72, .int x1, .int x2] m = runI (runM d) iX12_number (0, [some (.ref 72), some (.int x1), some (.int x2), none, none], [], m) := runM_of pg_X12_number (Nat.le_of_ble_eq_true rfl) rfl
theorem pg_X12_isDigit : PG[nX12_isDigit]? = some pe_X12_isDigit := (pg_hi (j := 6) rfl rfl)
theorem e_X12_isDigit {d : Nat} {m : AM} {x0 : Int32} : runM (d + 1) nX12_isDigit [.int x0] m = runI (runM d) iX12_isDigit (0, [some (.int x0)], [], m) := runM_of pg_X12_isDigit (Nat.le_of_ble_eq_true rfl) rfl
theorem pg_X12_readThread : PG[nX12_readThread]? = some pe_X12_readThread := (pg_hi (j := 7) rfl rfl)
theorem e_X12_readThread {d : Nat} {m : AM}  : runM (d + 1) nX12_readThread [.ref 72] m = runI (runM d) iX12_readThread (0, [some (.ref 72)], [], m) := runM_of pg_X12_readThread (Nat.le_of_ble_eq_true rfl) rfl
theorem pg_X12_sign : PG[nX12_sign]? = some pe_X12_sign := (pg_hi (j := 8) rfl rfl)
theorem e_X12_sign {d : Nat} {m : AM} {x1 : Int32} : runM (d + 1) nX12_sign [.ref 72, .int x1] m = runI (runM d) iX12_sign (0, [some (.ref 72), some (.int x1)], [], m) := runM_of pg_X12_sign (Nat.le_of_ble_eq_true rfl) rfl
theorem pg_X12_ends : PG[nX12_ends]? = some pe_X12_ends := (pg_hi (j := 9) rfl rfl)
theorem e_X12_ends {d : Nat} {m : AM}  : runM (d + 1) nX12_ends [.ref 72] m = runI (runM d) iX12_ends (0, [some (.ref 72)], [], m) := runM_of pg_X12_ends (Nat.le_of_ble_eq_true rfl) rfl
theorem pg_X12_law : PG[nX12_law]? = some pe_X12_law := (pg_hi (j := 10) rfl rfl)
theorem e_X12_law {d : Nat} {m : AM} {x1 : Int32} : runM (d + 1) nX12_law [.ref 72, .int x1] m = runI (runM d) iX12_law (0, [some (.ref 72), some (.int x1)], [], m) := runM_of pg_X12_law (Nat.le_of_ble_eq_true rfl) rfl
theorem pg_X12_sum : PG[nX12_sum]? = some pe_X12_sum := (pg_hi (j := 11) rfl rfl)
theorem e_X12_sum {d : Nat} {m : AM}  : runM (d + 1) nX12_sum [.ref 72] m = runI (runM d) iX12_sum (0, [some (.ref 72), none], [], m) := runM_of pg_X12_sum (Nat.le_of_ble_eq_true rfl) rfl
theorem pg_X12_product : PG[nX12_product]? = some pe_X12_product := (pg_hi (j := 12) rfl rfl)
theorem e_X12_product {d : Nat} {m : AM}  : runM (d + 1) nX12_product [.ref 72] m = runI (runM d) iX12_product (0, [some (.ref 72), none], [], m) := runM_of pg_X12_product (Nat.le_of_ble_eq_true rfl) rfl
theorem pg_X12_one : PG[nX12_one]? = some pe_X12_one := (pg_hi (j := 13) rfl rfl)
theorem e_X12_one {d : Nat} {m : AM}  : runM (d + 1) nX12_one [.ref 72] m = runI (runM d) iX12_one (0, [some (.ref 72), none, none], [], m) := runM_of pg_X12_one (Nat.le_of_ble_eq_true rfl) rfl
theorem pg_X12_opensOne : PG[nX12_opensOne]? = some pe_X12_opensOne := (pg_hi (j := 14) rfl rfl)
theorem e_X12_opensOne {d : Nat} {m : AM}  : runM (d + 1) nX12_opensOne [.ref 72] m = runI (runM d) iX12_opensOne (0, [some (.ref 72)], [], m) := runM_of pg_X12_opensOne (Nat.le_of_ble_eq_true rfl) rfl
theorem pg_X12_notes : PG[nX12_notes]? = some pe_X12_notes := (pg_hi (j := 15) rfl rfl)
theorem e_X12_notes {d : Nat} {m : AM} {x1 : Int32} {x2 : Int32} : runM (d + 1) nX12_notes [.ref 72, .int x1, .int x2] m = runI (runM d) iX12_notes (0, [some (.ref 72), some (.int x1), some (.int x2)], [], m) := runM_of pg_X12_notes (Nat.le_of_ble_eq_true rfl) rfl
theorem pg_X12_knownHere : PG[nX12_knownHere]? = some pe_X12_knownHere := (pg_hi (j := 16) rfl rfl)
theorem e_X12_knownHere {d : Nat} {m : AM}  : runM (d + 1) nX12_knownHere [.ref 72] m = runI (runM d) iX12_knownHere (0, [some (.ref 72)], [], m) := runM_of pg_X12_knownHere (Nat.le_of_ble_eq_true rfl) rfl
theorem pg_X12_takes : PG[nX12_takes]? = some pe_X12_takes := (pg_hi (j := 17) rfl rfl)
theorem e_X12_takes {d : Nat} {m : AM} {x1 : Int32} {x2 : Int32} {x3 : Int32} {x4 : Int32} {x5 : Int32} {x6 : Int32} : runM (d + 1) nX12_takes [.ref 72, .int x1, .int x2, .int x3, .int x4, .int x5, .int x6] m = runI (runM d) iX12_takes (0, [some (.ref 72), some (.int x1), some (.int x2), some (.int x3), some (.int x4), some (.int x5), some (.int x6), none], [], m) := runM_of pg_X12_takes (Nat.le_of_ble_eq_true rfl) rfl
theorem pg_X12_takesSign : PG[nX12_takesSign]? = some pe_X12_takesSign := (pg_hi (j := 18) rfl rfl)
theorem e_X12_takesSign {d : Nat} {m : AM} {x1 : Int32} : runM (d + 1) nX12_takesSign [.ref 72, .int x1] m = runI (runM d) iX12_takesSign (0, [some (.ref 72), some (.int x1), none], [], m) := runM_of pg_X12_takesSign (Nat.le_of_ble_eq_true rfl) rfl
theorem pg_X12_book : PG[nX12_book]? = some pe_X12_book := (pg_hi (j := 19) rfl rfl)
theorem e_X12_book {d : Nat} {m : AM} {x1 : Int32} : runM (d + 1) nX12_book [.ref 72, .int x1] m = runI (runM d) iX12_book (0, [some (.ref 72), some (.int x1), none, none, none, none], [], m) := runM_of pg_X12_book (Nat.le_of_ble_eq_true rfl) rfl
theorem pg_X12_fault : PG[nX12_fault]? = some pe_X12_fault := (pg_hi (j := 20) rfl rfl)
theorem e_X12_fault {d : Nat} {m : AM}  : runM (d + 1) nX12_fault [.ref 72] m = runI (runM d) iX12_fault (0, [some (.ref 72)], [], m) := runM_of pg_X12_fault (Nat.le_of_ble_eq_true rfl) rfl
theorem pg_X12_work : PG[nX12_work]? = some pe_X12_work := (pg_hi (j := 21) rfl rfl)
theorem e_X12_work {d : Nat} {m : AM} {x1 : Int32} : runM (d + 1) nX12_work [.ref 72, .int x1] m = runI (runM d) iX12_work (0, [some (.ref 72), some (.int x1)], [], m) := runM_of pg_X12_work (Nat.le_of_ble_eq_true rfl) rfl
theorem pg_X12_readsStep : PG[nX12_readsStep]? = some pe_X12_readsStep := (pg_hi (j := 22) rfl rfl)
theorem e_X12_readsStep {d : Nat} {m : AM}  : runM (d + 1) nX12_readsStep [.ref 72] m = runI (runM d) iX12_readsStep (0, [some (.ref 72), none, none], [], m) := runM_of pg_X12_readsStep (Nat.le_of_ble_eq_true rfl) rfl
theorem pg_X12_stepHere : PG[nX12_stepHere]? = some pe_X12_stepHere := (pg_hi (j := 23) rfl rfl)
theorem e_X12_stepHere {d : Nat} {m : AM}  : runM (d + 1) nX12_stepHere [.ref 72] m = runI (runM d) iX12_stepHere (0, [some (.ref 72)], [], m) := runM_of pg_X12_stepHere (Nat.le_of_ble_eq_true rfl) rfl
theorem pg_X12_copies : PG[nX12_copies]? = some pe_X12_copies := (pg_hi (j := 24) rfl rfl)
theorem e_X12_copies {d : Nat} {m : AM} {r0 : Nat} {r1 : Nat} : runM (d + 1) nX12_copies [.ref r0, .ref r1] m = runI (runM d) iX12_copies (0, [some (.ref r0), some (.ref r1), none], [], m) := runM_of pg_X12_copies (Nat.le_of_ble_eq_true rfl) rfl
theorem pg_X12_goes : PG[nX12_goes]? = some pe_X12_goes := (pg_hi (j := 25) rfl rfl)
theorem e_X12_goes {d : Nat} {m : AM} {x1 : Int32} {x2 : Int32} : runM (d + 1) nX12_goes [.ref 72, .int x1, .int x2] m = runI (runM d) iX12_goes (0, [some (.ref 72), some (.int x1), some (.int x2), none, none], [], m) := runM_of pg_X12_goes (Nat.le_of_ble_eq_true rfl) rfl
theorem pg_X12_does : PG[nX12_does]? = some pe_X12_does := (pg_hi (j := 26) rfl rfl)
theorem e_X12_does {d : Nat} {m : AM} {r1 : Nat} {r2 : Nat} : runM (d + 1) nX12_does [.ref 72, .ref r1, .ref r2] m = runI (runM d) iX12_does (0, [some (.ref 72), some (.ref r1), some (.ref r2), none], [], m) := runM_of pg_X12_does (Nat.le_of_ble_eq_true rfl) rfl
theorem pg_X12_turns : PG[nX12_turns]? = some pe_X12_turns := (pg_hi (j := 27) rfl rfl)
theorem e_X12_turns {d : Nat} {m : AM} {r1 : Nat} {x2 : Int32} : runM (d + 1) nX12_turns [.ref 72, .ref r1, .int x2] m = runI (runM d) iX12_turns (0, [some (.ref 72), some (.ref r1), some (.int x2)], [], m) := runM_of pg_X12_turns (Nat.le_of_ble_eq_true rfl) rfl
theorem pg_X12_placeOf : PG[nX12_placeOf]? = some pe_X12_placeOf := (pg_hi (j := 28) rfl rfl)
theorem e_X12_placeOf {d : Nat} {m : AM} {r0 : Nat} {x1 : Int32} : runM (d + 1) nX12_placeOf [.ref r0, .int x1] m = runI (runM d) iX12_placeOf (0, [some (.ref r0), some (.int x1), none], [], m) := runM_of pg_X12_placeOf (Nat.le_of_ble_eq_true rfl) rfl
theorem pg_X12_laysOne : PG[nX12_laysOne]? = some pe_X12_laysOne := (pg_hi (j := 29) rfl rfl)
theorem e_X12_laysOne {d : Nat} {m : AM} {r1 : Nat} {x2 : Int32} : runM (d + 1) nX12_laysOne [.ref 72, .ref r1, .int x2] m = runI (runM d) iX12_laysOne (0, [some (.ref 72), some (.ref r1), some (.int x2)], [], m) := runM_of pg_X12_laysOne (Nat.le_of_ble_eq_true rfl) rfl
theorem pg_X12_canLay : PG[nX12_canLay]? = some pe_X12_canLay := (pg_hi (j := 30) rfl rfl)
theorem e_X12_canLay {d : Nat} {m : AM} {r1 : Nat} {x2 : Int32} {x3 : Int32} : runM (d + 1) nX12_canLay [.ref 72, .ref r1, .int x2, .int x3] m = runI (runM d) iX12_canLay (0, [some (.ref 72), some (.ref r1), some (.int x2), some (.int x3), none, none], [], m) := runM_of pg_X12_canLay (Nat.le_of_ble_eq_true rfl) rfl
theorem pg_X12_manyIn : PG[nX12_manyIn]? = some pe_X12_manyIn := (pg_hi (j := 31) rfl rfl)
theorem e_X12_manyIn {d : Nat} {m : AM} {r0 : Nat} : runM (d + 1) nX12_manyIn [.ref r0] m = runI (runM d) iX12_manyIn (0, [some (.ref r0), none], [], m) := runM_of pg_X12_manyIn (Nat.le_of_ble_eq_true rfl) rfl
theorem pg_X12_footOf : PG[nX12_footOf]? = some pe_X12_footOf := (pg_hi (j := 32) rfl rfl)
theorem e_X12_footOf {d : Nat} {m : AM} {x1 : Int32} {x2 : Int32} : runM (d + 1) nX12_footOf [.ref 72, .int x1, .int x2] m = runI (runM d) iX12_footOf (0, [some (.ref 72), some (.int x1), some (.int x2)], [], m) := runM_of pg_X12_footOf (Nat.le_of_ble_eq_true rfl) rfl
theorem pg_X12_headOf : PG[nX12_headOf]? = some pe_X12_headOf := (pg_hi (j := 33) rfl rfl)
theorem e_X12_headOf {d : Nat} {m : AM} {x1 : Int32} {x2 : Int32} : runM (d + 1) nX12_headOf [.ref 72, .int x1, .int x2] m = runI (runM d) iX12_headOf (0, [some (.ref 72), some (.int x1), some (.int x2)], [], m) := runM_of pg_X12_headOf (Nat.le_of_ble_eq_true rfl) rfl
theorem pg_X12_isJoined : PG[nX12_isJoined]? = some pe_X12_isJoined := (pg_hi (j := 34) rfl rfl)
theorem e_X12_isJoined {d : Nat} {m : AM} {x1 : Int32} {x2 : Int32} : runM (d + 1) nX12_isJoined [.ref 72, .int x1, .int x2] m = runI (runM d) iX12_isJoined (0, [some (.ref 72), some (.int x1), some (.int x2), none], [], m) := runM_of pg_X12_isJoined (Nat.le_of_ble_eq_true rfl) rfl
theorem pg_X12_lifts : PG[nX12_lifts]? = some pe_X12_lifts := (pg_hi (j := 35) rfl rfl)
theorem e_X12_lifts {d : Nat} {m : AM} {r0 : Nat} : runM (d + 1) nX12_lifts [.ref r0] m = runI (runM d) iX12_lifts (0, [some (.ref r0), none], [], m) := runM_of pg_X12_lifts (Nat.le_of_ble_eq_true rfl) rfl
theorem pg_X12_becomes : PG[nX12_becomes]? = some pe_X12_becomes := (pg_hi (j := 36) rfl rfl)
theorem e_X12_becomes {d : Nat} {m : AM} {r0 : Nat} {x1 : Int32} {x2 : Int32} : runM (d + 1) nX12_becomes [.ref r0, .int x1, .int x2] m = runI (runM d) iX12_becomes (0, [some (.ref r0), some (.int x1), some (.int x2)], [], m) := runM_of pg_X12_becomes (Nat.le_of_ble_eq_true rfl) rfl
theorem pg_X12_bursts : PG[nX12_bursts]? = some pe_X12_bursts := (pg_hi (j := 37) rfl rfl)
theorem e_X12_bursts {d : Nat} {m : AM} {r0 : Nat} {x1 : Int32} {x2 : Int32} : runM (d + 1) nX12_bursts [.ref r0, .int x1, .int x2] m = runI (runM d) iX12_bursts (0, [some (.ref r0), some (.int x1), some (.int x2)], [], m) := runM_of pg_X12_bursts (Nat.le_of_ble_eq_true rfl) rfl
theorem pg_X12_hourEnds : PG[nX12_hourEnds]? = some pe_X12_hourEnds := (pg_hi (j := 38) rfl rfl)
theorem e_X12_hourEnds {d : Nat} {m : AM} {r1 : Nat} : runM (d + 1) nX12_hourEnds [.ref 72, .ref r1] m = runI (runM d) iX12_hourEnds (0, [some (.ref 72), some (.ref r1), none, none], [], m) := runM_of pg_X12_hourEnds (Nat.le_of_ble_eq_true rfl) rfl
theorem pg_X12_isReached : PG[nX12_isReached]? = some pe_X12_isReached := (pg_hi (j := 39) rfl rfl)
theorem e_X12_isReached {d : Nat} {m : AM} {r1 : Nat} {x2 : Int32} : runM (d + 1) nX12_isReached [.ref 72, .ref r1, .int x2] m = runI (runM d) iX12_isReached (0, [some (.ref 72), some (.ref r1), some (.int x2)], [], m) := runM_of pg_X12_isReached (Nat.le_of_ble_eq_true rfl) rfl
theorem pg_X12_longOf : PG[nX12_longOf]? = some pe_X12_longOf := (pg_hi (j := 40) rfl rfl)
theorem e_X12_longOf {d : Nat} {m : AM} {r1 : Nat} : runM (d + 1) nX12_longOf [.ref 72, .ref r1] m = runI (runM d) iX12_longOf (0, [some (.ref 72), some (.ref r1), none, none], [], m) := runM_of pg_X12_longOf (Nat.le_of_ble_eq_true rfl) rfl
theorem pg_X12_arrives : PG[nX12_arrives]? = some pe_X12_arrives := (pg_hi (j := 41) rfl rfl)
theorem e_X12_arrives {d : Nat} {m : AM} {r1 : Nat} : runM (d + 1) nX12_arrives [.ref 72, .ref r1] m = runI (runM d) iX12_arrives (0, [some (.ref 72), some (.ref r1)], [], m) := runM_of pg_X12_arrives (Nat.le_of_ble_eq_true rfl) rfl
theorem pg_X12_runs : PG[nX12_runs]? = some pe_X12_runs := (pg_hi (j := 42) rfl rfl)
theorem e_X12_runs {d : Nat} {m : AM} {r1 : Nat} {x2 : Int32} {x3 : Int32} : runM (d + 1) nX12_runs [.ref 72, .ref r1, .int x2, .int x3] m = runI (runM d) iX12_runs (0, [some (.ref 72), some (.ref r1), some (.int x2), some (.int x3), none, none, none, none], [], m) := runM_of pg_X12_runs (Nat.le_of_ble_eq_true rfl) rfl
theorem pg_X12_leftOf : PG[nX12_leftOf]? = some pe_X12_leftOf := (pg_hi (j := 43) rfl rfl)
theorem e_X12_leftOf {d : Nat} {m : AM} {r1 : Nat} {x2 : Int32} {x3 : Int32} {x4 : Int32} {x5 : Int32} : runM (d + 1) nX12_leftOf [.ref 72, .ref r1, .int x2, .int x3, .int x4, .int x5] m = runI (runM d) iX12_leftOf (0, [some (.ref 72), some (.ref r1), some (.int x2), some (.int x3), some (.int x4), some (.int x5)], [], m) := runM_of pg_X12_leftOf (Nat.le_of_ble_eq_true rfl) rfl
theorem pg_X12_leftBy : PG[nX12_leftBy]? = some pe_X12_leftBy := (pg_hi (j := 44) rfl rfl)
theorem e_X12_leftBy {d : Nat} {m : AM} {x1 : Int32} {x2 : Int32} {x3 : Int32} {x4 : Int32} {x5 : Int32} {x6 : Int32} {x7 : Int32} {x8 : Int32} {x9 : Int32} : runM (d + 1) nX12_leftBy [.ref 72, .int x1, .int x2, .int x3, .int x4, .int x5, .int x6, .int x7, .int x8, .int x9] m = runI (runM d) iX12_leftBy (0, [some (.ref 72), some (.int x1), some (.int x2), some (.int x3), some (.int x4), some (.int x5), some (.int x6), some (.int x7), some (.int x8), some (.int x9)], [], m) := runM_of pg_X12_leftBy (Nat.le_of_ble_eq_true rfl) rfl
theorem pg_X12_byLaw : PG[nX12_byLaw]? = some pe_X12_byLaw := (pg_hi (j := 45) rfl rfl)
theorem e_X12_byLaw {d : Nat} {m : AM}  : runM (d + 1) nX12_byLaw [.ref 72] m = runI (runM d) iX12_byLaw (0, [some (.ref 72), none, none], [], m) := runM_of pg_X12_byLaw (Nat.le_of_ble_eq_true rfl) rfl
theorem pg_X12_by : PG[nX12_by]? = some pe_X12_by := (pg_hi (j := 46) rfl rfl)
theorem e_X12_by {d : Nat} {m : AM} {x0 : Int32} {x1 : Int32} {x2 : Int32} : runM (d + 1) nX12_by [.int x0, .int x1, .int x2] m = runI (runM d) iX12_by (0, [some (.int x0), some (.int x1), some (.int x2)], [], m) := runM_of pg_X12_by (Nat.le_of_ble_eq_true rfl) rfl
theorem pg_X12_less : PG[nX12_less]? = some pe_X12_less := (pg_hi (j := 47) rfl rfl)
theorem e_X12_less {d : Nat} {m : AM} {x0 : Int32} {x1 : Int32} : runM (d + 1) nX12_less [.int x0, .int x1] m = runI (runM d) iX12_less (0, [some (.int x0), some (.int x1)], [], m) := runM_of pg_X12_less (Nat.le_of_ble_eq_true rfl) rfl
theorem pg_X12_more : PG[nX12_more]? = some pe_X12_more := (pg_hi (j := 48) rfl rfl)
theorem e_X12_more {d : Nat} {m : AM} {x0 : Int32} {x1 : Int32} : runM (d + 1) nX12_more [.int x0, .int x1] m = runI (runM d) iX12_more (0, [some (.int x0), some (.int x1)], [], m) := runM_of pg_X12_more (Nat.le_of_ble_eq_true rfl) rfl
theorem pg_X12_undo : PG[nX12_undo]? = some pe_X12_undo := (pg_hi (j := 49) rfl rfl)
theorem e_X12_undo {d : Nat} {m : AM}  : runM (d + 1) nX12_undo [.ref 72] m = runI (runM d) iX12_undo (0, [some (.ref 72)], [], m) := runM_of pg_X12_undo (Nat.le_of_ble_eq_true rfl) rfl
theorem pg_X12_told : PG[nX12_told]? = some pe_X12_told := (pg_hi (j := 50) rfl rfl)
theorem e_X12_told {d : Nat} {m : AM} {x1 : Int32} : runM (d + 1) nX12_told [.ref 72, .int x1] m = runI (runM d) iX12_told (0, [some (.ref 72), some (.int x1)], [], m) := runM_of pg_X12_told (Nat.le_of_ble_eq_true rfl) rfl
theorem pg_X12_liesIn : PG[nX12_liesIn]? = some pe_X12_liesIn := (pg_hi (j := 51) rfl rfl)
theorem e_X12_liesIn {d : Nat} {m : AM} {r1 : Nat} : runM (d + 1) nX12_liesIn [.ref 72, .ref r1] m = runI (runM d) iX12_liesIn (0, [some (.ref 72), some (.ref r1), none, none], [], m) := runM_of pg_X12_liesIn (Nat.le_of_ble_eq_true rfl) rfl
theorem pg_X12_outIn : PG[nX12_outIn]? = some pe_X12_outIn := (pg_hi (j := 52) rfl rfl)
theorem e_X12_outIn {d : Nat} {m : AM} {r1 : Nat} : runM (d + 1) nX12_outIn [.ref 72, .ref r1] m = runI (runM d) iX12_outIn (0, [some (.ref 72), some (.ref r1), none, none], [], m) := runM_of pg_X12_outIn (Nat.le_of_ble_eq_true rfl) rfl
theorem pg_X12_piece : PG[nX12_piece]? = some pe_X12_piece := (pg_hi (j := 53) rfl rfl)
theorem e_X12_piece {d : Nat} {m : AM} {x1 : Int32} {x2 : Int32} : runM (d + 1) nX12_piece [.ref 72, .int x1, .int x2] m = runI (runM d) iX12_piece (0, [some (.ref 72), some (.int x1), some (.int x2)], [], m) := runM_of pg_X12_piece (Nat.le_of_ble_eq_true rfl) rfl
theorem pg_X12_isPiece : PG[nX12_isPiece]? = some pe_X12_isPiece := (pg_hi (j := 54) rfl rfl)
theorem e_X12_isPiece {d : Nat} {m : AM} {x1 : Int32} : runM (d + 1) nX12_isPiece [.ref 72, .int x1] m = runI (runM d) iX12_isPiece (0, [some (.ref 72), some (.int x1)], [], m) := runM_of pg_X12_isPiece (Nat.le_of_ble_eq_true rfl) rfl
theorem pg_X12_collar : PG[nX12_collar]? = some pe_X12_collar := (pg_hi (j := 55) rfl rfl)
theorem e_X12_collar {d : Nat} {m : AM} {x1 : Int32} {x2 : Int32} : runM (d + 1) nX12_collar [.ref 72, .int x1, .int x2] m = runI (runM d) iX12_collar (0, [some (.ref 72), some (.int x1), some (.int x2)], [], m) := runM_of pg_X12_collar (Nat.le_of_ble_eq_true rfl) rfl
theorem pg_X12_fire : PG[nX12_fire]? = some pe_X12_fire := (pg_hi (j := 56) rfl rfl)
theorem e_X12_fire {d : Nat} {m : AM} {x1 : Int32} {x2 : Int32} : runM (d + 1) nX12_fire [.ref 72, .int x1, .int x2] m = runI (runM d) iX12_fire (0, [some (.ref 72), some (.int x1), some (.int x2)], [], m) := runM_of pg_X12_fire (Nat.le_of_ble_eq_true rfl) rfl
theorem pg_X12_isFire : PG[nX12_isFire]? = some pe_X12_isFire := (pg_hi (j := 57) rfl rfl)
theorem e_X12_isFire {d : Nat} {m : AM} {x1 : Int32} : runM (d + 1) nX12_isFire [.ref 72, .int x1] m = runI (runM d) iX12_isFire (0, [some (.ref 72), some (.int x1)], [], m) := runM_of pg_X12_isFire (Nat.le_of_ble_eq_true rfl) rfl
theorem pg_X12_row : PG[nX12_row]? = some pe_X12_row := (pg_hi (j := 58) rfl rfl)
theorem e_X12_row {d : Nat} {m : AM} {x1 : Int32} : runM (d + 1) nX12_row [.ref 72, .int x1] m = runI (runM d) iX12_row (0, [some (.ref 72), some (.int x1)], [], m) := runM_of pg_X12_row (Nat.le_of_ble_eq_true rfl) rfl
theorem pg_X12_behind : PG[nX12_behind]? = some pe_X12_behind := (pg_hi (j := 59) rfl rfl)
theorem e_X12_behind {d : Nat} {m : AM} {x1 : Int32} : runM (d + 1) nX12_behind [.ref 72, .int x1] m = runI (runM d) iX12_behind (0, [some (.ref 72), some (.int x1)], [], m) := runM_of pg_X12_behind (Nat.le_of_ble_eq_true rfl) rfl
theorem pg_X12_would : PG[nX12_would]? = some pe_X12_would := (pg_hi (j := 60) rfl rfl)
theorem e_X12_would {d : Nat} {m : AM} {x1 : Int32} {x2 : Int32} {x3 : Int32} {x4 : Int32} {x5 : Int32} {x6 : Int32} {x7 : Int32} {x8 : Int32} {x9 : Int32} : runM (d + 1) nX12_would [.ref 72, .int x1, .int x2, .int x3, .int x4, .int x5, .int x6, .int x7, .int x8, .int x9] m = runI (runM d) iX12_would (0, [some (.ref 72), some (.int x1), some (.int x2), some (.int x3), some (.int x4), some (.int x5), some (.int x6), some (.int x7), some (.int x8), some (.int x9)], [], m) := runM_of pg_X12_would (Nat.le_of_ble_eq_true rfl) rfl
theorem pg_X12_fits : PG[nX12_fits]? = some pe_X12_fits := (pg_hi (j := 61) rfl rfl)
theorem e_X12_fits {d : Nat} {m : AM} {x1 : Int32} {x2 : Int32} : runM (d + 1) nX12_fits [.ref 72, .int x1, .int x2] m = runI (runM d) iX12_fits (0, [some (.ref 72), some (.int x1), some (.int x2)], [], m) := runM_of pg_X12_fits (Nat.le_of_ble_eq_true rfl) rfl
theorem pg_X12_isThread : PG[nX12_isThread]? = some pe_X12_isThread := (pg_hi (j := 62) rfl rfl)
theorem e_X12_isThread {d : Nat} {m : AM} {x0 : Int32} : runM (d + 1) nX12_isThread [.int x0] m = runI (runM d) iX12_isThread (0, [some (.int x0)], [], m) := runM_of pg_X12_isThread (Nat.le_of_ble_eq_true rfl) rfl
theorem pg_X12_can : PG[nX12_can]? = some pe_X12_can := (pg_hi (j := 63) rfl rfl)
theorem e_X12_can {d : Nat} {m : AM} {x1 : Int32} : runM (d + 1) nX12_can [.ref 72, .int x1] m = runI (runM d) iX12_can (0, [some (.ref 72), some (.int x1)], [], m) := runM_of pg_X12_can (Nat.le_of_ble_eq_true rfl) rfl
theorem pg_X12_ahead : PG[nX12_ahead]? = some pe_X12_ahead := (pg_hi (j := 64) rfl rfl)
theorem e_X12_ahead {d : Nat} {m : AM} {x1 : Int32} : runM (d + 1) nX12_ahead [.ref 72, .int x1] m = runI (runM d) iX12_ahead (0, [some (.ref 72), some (.int x1), none], [], m) := runM_of pg_X12_ahead (Nat.le_of_ble_eq_true rfl) rfl
theorem pg_X12_chain : PG[nX12_chain]? = some pe_X12_chain := (pg_hi (j := 65) rfl rfl)
theorem e_X12_chain {d : Nat} {m : AM} {x1 : Int32} : runM (d + 1) nX12_chain [.ref 72, .int x1] m = runI (runM d) iX12_chain (0, [some (.ref 72), some (.int x1)], [], m) := runM_of pg_X12_chain (Nat.le_of_ble_eq_true rfl) rfl
theorem pg_X12_chains : PG[nX12_chains]? = some pe_X12_chains := (pg_hi (j := 66) rfl rfl)
theorem e_X12_chains {d : Nat} {m : AM}  : runM (d + 1) nX12_chains [.ref 72] m = runI (runM d) iX12_chains (0, [some (.ref 72), none, none, none, none], [], m) := runM_of pg_X12_chains (Nat.le_of_ble_eq_true rfl) rfl
theorem pg_X12_laysLongest : PG[nX12_laysLongest]? = some pe_X12_laysLongest := (pg_hi (j := 67) rfl rfl)
theorem e_X12_laysLongest {d : Nat} {m : AM}  : runM (d + 1) nX12_laysLongest [.ref 72] m = runI (runM d) iX12_laysLongest (0, [some (.ref 72), none, none, none], [], m) := runM_of pg_X12_laysLongest (Nat.le_of_ble_eq_true rfl) rfl
theorem pg_X12_has : PG[nX12_has]? = some pe_X12_has := (pg_hi (j := 68) rfl rfl)
theorem e_X12_has {d : Nat} {m : AM} {x0 : Int32} {x1 : Int32} : runM (d + 1) nX12_has [.int x0, .int x1] m = runI (runM d) iX12_has (0, [some (.int x0), some (.int x1)], [], m) := runM_of pg_X12_has (Nat.le_of_ble_eq_true rfl) rfl
theorem pg_X12_isNext : PG[nX12_isNext]? = some pe_X12_isNext := (pg_hi (j := 69) rfl rfl)
theorem e_X12_isNext {d : Nat} {m : AM} {x1 : Int32} {x2 : Int32} : runM (d + 1) nX12_isNext [.ref 72, .int x1, .int x2] m = runI (runM d) iX12_isNext (0, [some (.ref 72), some (.int x1), some (.int x2)], [], m) := runM_of pg_X12_isNext (Nat.le_of_ble_eq_true rfl) rfl
theorem pg_X12_chained : PG[nX12_chained]? = some pe_X12_chained := (pg_hi (j := 70) rfl rfl)
theorem e_X12_chained {d : Nat} {m : AM} {x1 : Int32} : runM (d + 1) nX12_chained [.ref 72, .int x1] m = runI (runM d) iX12_chained (0, [some (.ref 72), some (.int x1)], [], m) := runM_of pg_X12_chained (Nat.le_of_ble_eq_true rfl) rfl
theorem pg_X12_joiner : PG[nX12_joiner]? = some pe_X12_joiner := (pg_hi (j := 71) rfl rfl)
theorem e_X12_joiner {d : Nat} {m : AM} {x1 : Int32} : runM (d + 1) nX12_joiner [.ref 72, .int x1] m = runI (runM d) iX12_joiner (0, [some (.ref 72), some (.int x1), none, none, none, none], [], m) := runM_of pg_X12_joiner (Nat.le_of_ble_eq_true rfl) rfl
theorem pg_X12_brief : PG[nX12_brief]? = some pe_X12_brief := (pg_hi (j := 72) rfl rfl)
theorem e_X12_brief {d : Nat} {m : AM} {x1 : Int32} : runM (d + 1) nX12_brief [.ref 72, .int x1] m = runI (runM d) iX12_brief (0, [some (.ref 72), some (.int x1)], [], m) := runM_of pg_X12_brief (Nat.le_of_ble_eq_true rfl) rfl
theorem pg_X12_briefs : PG[nX12_briefs]? = some pe_X12_briefs := (pg_hi (j := 73) rfl rfl)
theorem e_X12_briefs {d : Nat} {m : AM} {x1 : Int32} : runM (d + 1) nX12_briefs [.ref 72, .int x1] m = runI (runM d) iX12_briefs (0, [some (.ref 72), some (.int x1), none, none], [], m) := runM_of pg_X12_briefs (Nat.le_of_ble_eq_true rfl) rfl
theorem pg_X12_isBrief : PG[nX12_isBrief]? = some pe_X12_isBrief := (pg_hi (j := 74) rfl rfl)
theorem e_X12_isBrief {d : Nat} {m : AM} {x1 : Int32} {x2 : Int32} {x3 : Int32} {x4 : Int32} {x5 : Int32} {x6 : Int32} {x7 : Int32} : runM (d + 1) nX12_isBrief [.ref 72, .int x1, .int x2, .int x3, .int x4, .int x5, .int x6, .int x7] m = runI (runM d) iX12_isBrief (0, [some (.ref 72), some (.int x1), some (.int x2), some (.int x3), some (.int x4), some (.int x5), some (.int x6), some (.int x7), none, none, none, none], [], m) := runM_of pg_X12_isBrief (Nat.le_of_ble_eq_true rfl) rfl
theorem pg_X12_briefly : PG[nX12_briefly]? = some pe_X12_briefly := (pg_hi (j := 75) rfl rfl)
theorem e_X12_briefly {d : Nat} {m : AM} {x1 : Int32} {x2 : Int32} : runM (d + 1) nX12_briefly [.ref 72, .int x1, .int x2] m = runI (runM d) iX12_briefly (0, [some (.ref 72), some (.int x1), some (.int x2)], [], m) := runM_of pg_X12_briefly (Nat.le_of_ble_eq_true rfl) rfl
theorem pg_X12_leaks : PG[nX12_leaks]? = some pe_X12_leaks := (pg_hi (j := 76) rfl rfl)
theorem e_X12_leaks {d : Nat} {m : AM} {x1 : Int32} : runM (d + 1) nX12_leaks [.ref 72, .int x1] m = runI (runM d) iX12_leaks (0, [some (.ref 72), some (.int x1), none, none, none, none], [], m) := runM_of pg_X12_leaks (Nat.le_of_ble_eq_true rfl) rfl
theorem pg_X12_isLeak : PG[nX12_isLeak]? = some pe_X12_isLeak := (pg_hi (j := 77) rfl rfl)
theorem e_X12_isLeak {d : Nat} {m : AM} {x1 : Int32} {x2 : Int32} : runM (d + 1) nX12_isLeak [.ref 72, .int x1, .int x2] m = runI (runM d) iX12_isLeak (0, [some (.ref 72), some (.int x1), some (.int x2), none], [], m) := runM_of pg_X12_isLeak (Nat.le_of_ble_eq_true rfl) rfl
theorem pg_X12_look : PG[nX12_look]? = some pe_X12_look := (pg_hi (j := 78) rfl rfl)
theorem e_X12_look {d : Nat} {m : AM} {x1 : Int32} : runM (d + 1) nX12_look [.ref 72, .int x1] m = runI (runM d) iX12_look (0, [some (.ref 72), some (.int x1), none, none, none, none, none, none], [], m) := runM_of pg_X12_look (Nat.le_of_ble_eq_true rfl) rfl
theorem pg_X12_isTold : PG[nX12_isTold]? = some pe_X12_isTold := (pg_hi (j := 79) rfl rfl)
theorem e_X12_isTold {d : Nat} {m : AM} {x1 : Int32} : runM (d + 1) nX12_isTold [.ref 72, .int x1] m = runI (runM d) iX12_isTold (0, [some (.ref 72), some (.int x1), none], [], m) := runM_of pg_X12_isTold (Nat.le_of_ble_eq_true rfl) rfl
theorem pg_X12_wed : PG[nX12_wed]? = some pe_X12_wed := (pg_hi (j := 80) rfl rfl)
theorem e_X12_wed {d : Nat} {m : AM}  : runM (d + 1) nX12_wed [.ref 72] m = runI (runM d) iX12_wed (0, [some (.ref 72)], [], m) := runM_of pg_X12_wed (Nat.le_of_ble_eq_true rfl) rfl
theorem pg_X12_weds : PG[nX12_weds]? = some pe_X12_weds := (pg_hi (j := 81) rfl rfl)
theorem e_X12_weds {d : Nat} {m : AM} {x1 : Int32} : runM (d + 1) nX12_weds [.ref 72, .int x1] m = runI (runM d) iX12_weds (0, [some (.ref 72), some (.int x1), none, none, none, none], [], m) := runM_of pg_X12_weds (Nat.le_of_ble_eq_true rfl) rfl
theorem pg_X12_sure : PG[nX12_sure]? = some pe_X12_sure := (pg_hi (j := 82) rfl rfl)
theorem e_X12_sure {d : Nat} {m : AM} {x1 : Int32} {x2 : Int32} {x3 : Int32} : runM (d + 1) nX12_sure [.ref 72, .int x1, .int x2, .int x3] m = runI (runM d) iX12_sure (0, [some (.ref 72), some (.int x1), some (.int x2), some (.int x3), none, none, none, none, none, none, none], [], m) := runM_of pg_X12_sure (Nat.le_of_ble_eq_true rfl) rfl
theorem pg_X12_partOf : PG[nX12_partOf]? = some pe_X12_partOf := (pg_hi (j := 83) rfl rfl)
theorem e_X12_partOf {d : Nat} {m : AM} {y0 : Int64} {y2 : Int64} {x4 : Int32} : runM (d + 1) nX12_partOf [.long y0, .long y2, .int x4] m = runI (runM d) iX12_partOf (0, [some (.long y0), none, some (.long y2), none, some (.int x4), none, none, none, none, none, none], [], m) := runM_of pg_X12_partOf (Nat.le_of_ble_eq_true rfl) rfl
theorem pg_X12_street : PG[nX12_street]? = some pe_X12_street := (pg_hi (j := 84) rfl rfl)
theorem e_X12_street {d : Nat} {m : AM} {x1 : Int32} {x2 : Int32} {x3 : Int32} : runM (d + 1) nX12_street [.ref 72, .int x1, .int x2, .int x3] m = runI (runM d) iX12_street (0, [some (.ref 72), some (.int x1), some (.int x2), some (.int x3), none, none, none, none, none], [], m) := runM_of pg_X12_street (Nat.le_of_ble_eq_true rfl) rfl
theorem pg_X12_isChoice : PG[nX12_isChoice]? = some pe_X12_isChoice := (pg_hi (j := 85) rfl rfl)
theorem e_X12_isChoice {d : Nat} {m : AM} {x1 : Int32} {x2 : Int32} : runM (d + 1) nX12_isChoice [.ref 72, .int x1, .int x2] m = runI (runM d) iX12_isChoice (0, [some (.ref 72), some (.int x1), some (.int x2)], [], m) := runM_of pg_X12_isChoice (Nat.le_of_ble_eq_true rfl) rfl
theorem pg_X12_isRest : PG[nX12_isRest]? = some pe_X12_isRest := (pg_hi (j := 86) rfl rfl)
theorem e_X12_isRest {d : Nat} {m : AM} {x1 : Int32} {x2 : Int32} {x3 : Int32} {x4 : Int32} : runM (d + 1) nX12_isRest [.ref 72, .int x1, .int x2, .int x3, .int x4] m = runI (runM d) iX12_isRest (0, [some (.ref 72), some (.int x1), some (.int x2), some (.int x3), some (.int x4), none], [], m) := runM_of pg_X12_isRest (Nat.le_of_ble_eq_true rfl) rfl
theorem pg_X12_streetHas : PG[nX12_streetHas]? = some pe_X12_streetHas := (pg_hi (j := 87) rfl rfl)
theorem e_X12_streetHas {d : Nat} {m : AM} {x1 : Int32} {x2 : Int32} {x3 : Int32} {x4 : Int32} : runM (d + 1) nX12_streetHas [.ref 72, .int x1, .int x2, .int x3, .int x4] m = runI (runM d) iX12_streetHas (0, [some (.ref 72), some (.int x1), some (.int x2), some (.int x3), some (.int x4)], [], m) := runM_of pg_X12_streetHas (Nat.le_of_ble_eq_true rfl) rfl
theorem pg_X12_comes : PG[nX12_comes]? = some pe_X12_comes := (pg_hi (j := 88) rfl rfl)
theorem e_X12_comes {d : Nat} {m : AM} {x1 : Int32} {x2 : Int32} : runM (d + 1) nX12_comes [.ref 72, .int x1, .int x2] m = runI (runM d) iX12_comes (0, [some (.ref 72), some (.int x1), some (.int x2)], [], m) := runM_of pg_X12_comes (Nat.le_of_ble_eq_true rfl) rfl
theorem pg_X12_houseHas : PG[nX12_houseHas]? = some pe_X12_houseHas := (pg_hi (j := 89) rfl rfl)
theorem e_X12_houseHas {d : Nat} {m : AM} {x1 : Int32} {x2 : Int32} {x3 : Int32} : runM (d + 1) nX12_houseHas [.ref 72, .int x1, .int x2, .int x3] m = runI (runM d) iX12_houseHas (0, [some (.ref 72), some (.int x1), some (.int x2), some (.int x3)], [], m) := runM_of pg_X12_houseHas (Nat.le_of_ble_eq_true rfl) rfl
theorem pg_X12_share : PG[nX12_share]? = some pe_X12_share := (pg_hi (j := 90) rfl rfl)
theorem e_X12_share {d : Nat} {m : AM} {x1 : Int32} {x2 : Int32} {x3 : Int32} : runM (d + 1) nX12_share [.ref 72, .int x1, .int x2, .int x3] m = runI (runM d) iX12_share (0, [some (.ref 72), some (.int x1), some (.int x2), some (.int x3), none], [], m) := runM_of pg_X12_share (Nat.le_of_ble_eq_true rfl) rfl
theorem pg_X12_givenBy : PG[nX12_givenBy]? = some pe_X12_givenBy := (pg_hi (j := 91) rfl rfl)
theorem e_X12_givenBy {d : Nat} {m : AM} {x1 : Int32} {x2 : Int32} : runM (d + 1) nX12_givenBy [.ref 72, .int x1, .int x2] m = runI (runM d) iX12_givenBy (0, [some (.ref 72), some (.int x1), some (.int x2), none, none], [], m) := runM_of pg_X12_givenBy (Nat.le_of_ble_eq_true rfl) rfl
theorem pg_X12_next : PG[nX12_next]? = some pe_X12_next := (pg_hi (j := 92) rfl rfl)
theorem e_X12_next {d : Nat} {m : AM} {x1 : Int32} : runM (d + 1) nX12_next [.ref 72, .int x1] m = runI (runM d) iX12_next (0, [some (.ref 72), some (.int x1), none, none], [], m) := runM_of pg_X12_next (Nat.le_of_ble_eq_true rfl) rfl
theorem pg_X12_worst : PG[nX12_worst]? = some pe_X12_worst := (pg_hi (j := 93) rfl rfl)
theorem e_X12_worst {d : Nat} {m : AM} {x1 : Int32} : runM (d + 1) nX12_worst [.ref 72, .int x1] m = runI (runM d) iX12_worst (0, [some (.ref 72), some (.int x1), none, none, none, none], [], m) := runM_of pg_X12_worst (Nat.le_of_ble_eq_true rfl) rfl
theorem pg_X12_needed : PG[nX12_needed]? = some pe_X12_needed := (pg_hi (j := 94) rfl rfl)
theorem e_X12_needed {d : Nat} {m : AM} {x1 : Int32} : runM (d + 1) nX12_needed [.ref 72, .int x1] m = runI (runM d) iX12_needed (0, [some (.ref 72), some (.int x1), none], [], m) := runM_of pg_X12_needed (Nat.le_of_ble_eq_true rfl) rfl
theorem pg_X12_kin : PG[nX12_kin]? = some pe_X12_kin := (pg_hi (j := 95) rfl rfl)
theorem e_X12_kin {d : Nat} {m : AM} {x1 : Int32} : runM (d + 1) nX12_kin [.ref 72, .int x1] m = runI (runM d) iX12_kin (0, [some (.ref 72), some (.int x1), none, none], [], m) := runM_of pg_X12_kin (Nat.le_of_ble_eq_true rfl) rfl
theorem pg_X12_year : PG[nX12_year]? = some pe_X12_year := (pg_hi (j := 96) rfl rfl)
theorem e_X12_year {d : Nat} {m : AM} {x1 : Int32} {x2 : Int32} {x3 : Int32} {x4 : Int32} : runM (d + 1) nX12_year [.ref 72, .int x1, .int x2, .int x3, .int x4] m = runI (runM d) iX12_year (0, [some (.ref 72), some (.int x1), some (.int x2), some (.int x3), some (.int x4), none, none], [], m) := runM_of pg_X12_year (Nat.le_of_ble_eq_true rfl) rfl
theorem pg_X12_isYear : PG[nX12_isYear]? = some pe_X12_isYear := (pg_hi (j := 97) rfl rfl)
theorem e_X12_isYear {d : Nat} {m : AM} {x0 : Int32} {x1 : Int32} : runM (d + 1) nX12_isYear [.int x0, .int x1] m = runI (runM d) iX12_isYear (0, [some (.int x0), some (.int x1)], [], m) := runM_of pg_X12_isYear (Nat.le_of_ble_eq_true rfl) rfl
theorem pg_X12_yearBy : PG[nX12_yearBy]? = some pe_X12_yearBy := (pg_hi (j := 98) rfl rfl)
theorem e_X12_yearBy {d : Nat} {m : AM} {x1 : Int32} {x2 : Int32} {x3 : Int32} : runM (d + 1) nX12_yearBy [.ref 72, .int x1, .int x2, .int x3] m = runI (runM d) iX12_yearBy (0, [some (.ref 72), some (.int x1), some (.int x2), some (.int x3), none, none], [], m) := runM_of pg_X12_yearBy (Nat.le_of_ble_eq_true rfl) rfl
theorem pg_X12_draw : PG[nX12_draw]? = some pe_X12_draw := (pg_hi (j := 99) rfl rfl)
theorem e_X12_draw {d : Nat} {m : AM} {x1 : Int32} : runM (d + 1) nX12_draw [.ref 72, .int x1] m = runI (runM d) iX12_draw (0, [some (.ref 72), some (.int x1)], [], m) := runM_of pg_X12_draw (Nat.le_of_ble_eq_true rfl) rfl
theorem pg_X12_acts : PG[nX12_acts]? = some pe_X12_acts := (pg_hi (j := 100) rfl rfl)
theorem e_X12_acts {d : Nat} {m : AM} {r1 : Nat} {x2 : Int32} {x3 : Int32} : runM (d + 1) nX12_acts [.ref 72, .ref r1, .int x2, .int x3] m = runI (runM d) iX12_acts (0, [some (.ref 72), some (.ref r1), some (.int x2), some (.int x3)], [], m) := runM_of pg_X12_acts (Nat.le_of_ble_eq_true rfl) rfl
theorem pg_X12_span : PG[nX12_span]? = some pe_X12_span := (pg_hi (j := 101) rfl rfl)
theorem e_X12_span {d : Nat} {m : AM} {x1 : Int32} {x2 : Int32} {x3 : Int32} {x4 : Int32} {x5 : Int32} {x6 : Int32} : runM (d + 1) nX12_span [.ref 72, .int x1, .int x2, .int x3, .int x4, .int x5, .int x6] m = runI (runM d) iX12_span (0, [some (.ref 72), some (.int x1), some (.int x2), some (.int x3), some (.int x4), some (.int x5), some (.int x6), none, none, none, none, none], [], m) := runM_of pg_X12_span (Nat.le_of_ble_eq_true rfl) rfl
theorem pg_X12_image : PG[nX12_image]? = some pe_X12_image := (pg_hi (j := 102) rfl rfl)
theorem e_X12_image {d : Nat} {m : AM}  : runM (d + 1) nX12_image [.ref 72] m = runI (runM d) iX12_image (0, [some (.ref 72)], [], m) := runM_of pg_X12_image (Nat.le_of_ble_eq_true rfl) rfl
theorem pg_X12_putsAll : PG[nX12_putsAll]? = some pe_X12_putsAll := (pg_hi (j := 103) rfl rfl)
theorem e_X12_putsAll {d : Nat} {m : AM} {r1 : Nat} {x2 : Int32} : runM (d + 1) nX12_putsAll [.ref 72, .ref r1, .int x2] m = runI (runM d) iX12_putsAll (0, [some (.ref 72), some (.ref r1), some (.int x2), none, none], [], m) := runM_of pg_X12_putsAll (Nat.le_of_ble_eq_true rfl) rfl
theorem pg_X12_puts : PG[nX12_puts]? = some pe_X12_puts := (pg_hi (j := 104) rfl rfl)
theorem e_X12_puts {d : Nat} {m : AM} {r1 : Nat} {x2 : Int32} {x3 : Int32} : runM (d + 1) nX12_puts [.ref 72, .ref r1, .int x2, .int x3] m = runI (runM d) iX12_puts (0, [some (.ref 72), some (.ref r1), some (.int x2), some (.int x3)], [], m) := runM_of pg_X12_puts (Nat.le_of_ble_eq_true rfl) rfl
theorem pg_X12_restore : PG[nX12_restore]? = some pe_X12_restore := (pg_hi (j := 105) rfl rfl)
theorem e_X12_restore {d : Nat} {m : AM}  : runM (d + 1) nX12_restore [.ref 72] m = runI (runM d) iX12_restore (0, [some (.ref 72)], [], m) := runM_of pg_X12_restore (Nat.le_of_ble_eq_true rfl) rfl
theorem pg_X12_status : PG[nX12_status]? = some pe_X12_status := (pg_hi (j := 106) rfl rfl)
theorem e_X12_status {d : Nat} {m : AM} {x1 : Int32} : runM (d + 1) nX12_status [.ref 72, .int x1] m = runI (runM d) iX12_status (0, [some (.ref 72), some (.int x1)], [], m) := runM_of pg_X12_status (Nat.le_of_ble_eq_true rfl) rfl
theorem pg_X12_count : PG[nX12_count]? = some pe_X12_count := (pg_hi (j := 107) rfl rfl)
theorem e_X12_count {d : Nat} {m : AM} {x1 : Int32} : runM (d + 1) nX12_count [.ref 72, .int x1] m = runI (runM d) iX12_count (0, [some (.ref 72), some (.int x1)], [], m) := runM_of pg_X12_count (Nat.le_of_ble_eq_true rfl) rfl
theorem pg_L_house : PG[nL_house]? = some pe_L_house := (pg_hi (j := 108) rfl rfl)
theorem e_L_house {d : Nat} {m : AM} {x1 : Int32} : runM (d + 1) nL_house [.ref 0, .int x1, .ref 632] m = runI (runM d) iL_house (0, [some (.ref 0), some (.int x1), some (.ref 632), none], [], m) := runM_of pg_L_house (Nat.le_of_ble_eq_true rfl) rfl
theorem pg_L_law : PG[nL_law]? = some pe_L_law := (pg_hi (j := 109) rfl rfl)
theorem e_L_law {d : Nat} {m : AM} {x1 : Int32} : runM (d + 1) nL_law [.ref 0, .int x1, .ref 632] m = runI (runM d) iL_law (0, [some (.ref 0), some (.int x1), some (.ref 632), none], [], m) := runM_of pg_L_law (Nat.le_of_ble_eq_true rfl) rfl
theorem pg_L_work : PG[nL_work]? = some pe_L_work := (pg_hi (j := 110) rfl rfl)
theorem e_L_work {d : Nat} {m : AM} {x1 : Int32} : runM (d + 1) nL_work [.ref 0, .int x1, .ref 632] m = runI (runM d) iL_work (0, [some (.ref 0), some (.int x1), some (.ref 632), none], [], m) := runM_of pg_L_work (Nat.le_of_ble_eq_true rfl) rfl
theorem pg_L_book : PG[nL_book]? = some pe_L_book := (pg_hi (j := 111) rfl rfl)
theorem e_L_book {d : Nat} {m : AM} {x1 : Int32} : runM (d + 1) nL_book [.ref 0, .int x1, .ref 632] m = runI (runM d) iL_book (0, [some (.ref 0), some (.int x1), some (.ref 632), none], [], m) := runM_of pg_L_book (Nat.le_of_ble_eq_true rfl) rfl
theorem pg_L_told : PG[nL_told]? = some pe_L_told := (pg_hi (j := 112) rfl rfl)
theorem e_L_told {d : Nat} {m : AM} {x1 : Int32} : runM (d + 1) nL_told [.ref 0, .int x1, .ref 632] m = runI (runM d) iL_told (0, [some (.ref 0), some (.int x1), some (.ref 632), none], [], m) := runM_of pg_L_told (Nat.le_of_ble_eq_true rfl) rfl
theorem pg_L_piece : PG[nL_piece]? = some pe_L_piece := (pg_hi (j := 113) rfl rfl)
theorem e_L_piece {d : Nat} {m : AM} {x1 : Int32} {x2 : Int32} : runM (d + 1) nL_piece [.ref 0, .int x1, .int x2, .ref 632] m = runI (runM d) iL_piece (0, [some (.ref 0), some (.int x1), some (.int x2), some (.ref 632), none], [], m) := runM_of pg_L_piece (Nat.le_of_ble_eq_true rfl) rfl
theorem pg_L_collar : PG[nL_collar]? = some pe_L_collar := (pg_hi (j := 114) rfl rfl)
theorem e_L_collar {d : Nat} {m : AM} {x1 : Int32} {x2 : Int32} : runM (d + 1) nL_collar [.ref 0, .int x1, .int x2, .ref 632] m = runI (runM d) iL_collar (0, [some (.ref 0), some (.int x1), some (.int x2), some (.ref 632), none], [], m) := runM_of pg_L_collar (Nat.le_of_ble_eq_true rfl) rfl
theorem pg_L_fire : PG[nL_fire]? = some pe_L_fire := (pg_hi (j := 115) rfl rfl)
theorem e_L_fire {d : Nat} {m : AM} {x1 : Int32} {x2 : Int32} : runM (d + 1) nL_fire [.ref 0, .int x1, .int x2, .ref 632] m = runI (runM d) iL_fire (0, [some (.ref 0), some (.int x1), some (.int x2), some (.ref 632), none], [], m) := runM_of pg_L_fire (Nat.le_of_ble_eq_true rfl) rfl
theorem pg_L_row : PG[nL_row]? = some pe_L_row := (pg_hi (j := 116) rfl rfl)
theorem e_L_row {d : Nat} {m : AM} {x1 : Int32} : runM (d + 1) nL_row [.ref 0, .int x1, .ref 632] m = runI (runM d) iL_row (0, [some (.ref 0), some (.int x1), some (.ref 632), none], [], m) := runM_of pg_L_row (Nat.le_of_ble_eq_true rfl) rfl
theorem pg_L_behind : PG[nL_behind]? = some pe_L_behind := (pg_hi (j := 117) rfl rfl)
theorem e_L_behind {d : Nat} {m : AM} {x1 : Int32} : runM (d + 1) nL_behind [.ref 0, .int x1, .ref 632] m = runI (runM d) iL_behind (0, [some (.ref 0), some (.int x1), some (.ref 632), none], [], m) := runM_of pg_L_behind (Nat.le_of_ble_eq_true rfl) rfl
theorem pg_L_would : PG[nL_would]? = some pe_L_would := (pg_hi (j := 118) rfl rfl)
theorem e_L_would {d : Nat} {m : AM} {x1 : Int32} {x2 : Int32} {x3 : Int32} {x4 : Int32} {x5 : Int32} {x6 : Int32} {x7 : Int32} {x8 : Int32} {x9 : Int32} : runM (d + 1) nL_would [.ref 0, .int x1, .int x2, .int x3, .int x4, .int x5, .int x6, .int x7, .int x8, .int x9, .ref 632] m = runI (runM d) iL_would (0, [some (.ref 0), some (.int x1), some (.int x2), some (.int x3), some (.int x4), some (.int x5), some (.int x6), some (.int x7), some (.int x8), some (.int x9), some (.ref 632), none], [], m) := runM_of pg_L_would (Nat.le_of_ble_eq_true rfl) rfl
theorem pg_L_fits : PG[nL_fits]? = some pe_L_fits := (pg_hi (j := 119) rfl rfl)
theorem e_L_fits {d : Nat} {m : AM} {x1 : Int32} {x2 : Int32} : runM (d + 1) nL_fits [.ref 0, .int x1, .int x2, .ref 632] m = runI (runM d) iL_fits (0, [some (.ref 0), some (.int x1), some (.int x2), some (.ref 632), none], [], m) := runM_of pg_L_fits (Nat.le_of_ble_eq_true rfl) rfl
theorem pg_L_can : PG[nL_can]? = some pe_L_can := (pg_hi (j := 120) rfl rfl)
theorem e_L_can {d : Nat} {m : AM} {x1 : Int32} : runM (d + 1) nL_can [.ref 0, .int x1, .ref 632] m = runI (runM d) iL_can (0, [some (.ref 0), some (.int x1), some (.ref 632), none], [], m) := runM_of pg_L_can (Nat.le_of_ble_eq_true rfl) rfl
theorem pg_L_ahead : PG[nL_ahead]? = some pe_L_ahead := (pg_hi (j := 121) rfl rfl)
theorem e_L_ahead {d : Nat} {m : AM} {x1 : Int32} : runM (d + 1) nL_ahead [.ref 0, .int x1, .ref 632] m = runI (runM d) iL_ahead (0, [some (.ref 0), some (.int x1), some (.ref 632), none], [], m) := runM_of pg_L_ahead (Nat.le_of_ble_eq_true rfl) rfl
theorem pg_L_chain : PG[nL_chain]? = some pe_L_chain := (pg_hi (j := 122) rfl rfl)
theorem e_L_chain {d : Nat} {m : AM} {x1 : Int32} : runM (d + 1) nL_chain [.ref 0, .int x1, .ref 632] m = runI (runM d) iL_chain (0, [some (.ref 0), some (.int x1), some (.ref 632), none], [], m) := runM_of pg_L_chain (Nat.le_of_ble_eq_true rfl) rfl
theorem pg_L_chained : PG[nL_chained]? = some pe_L_chained := (pg_hi (j := 123) rfl rfl)
theorem e_L_chained {d : Nat} {m : AM} {x1 : Int32} : runM (d + 1) nL_chained [.ref 0, .int x1, .ref 632] m = runI (runM d) iL_chained (0, [some (.ref 0), some (.int x1), some (.ref 632), none], [], m) := runM_of pg_L_chained (Nat.le_of_ble_eq_true rfl) rfl
theorem pg_L_brief : PG[nL_brief]? = some pe_L_brief := (pg_hi (j := 124) rfl rfl)
theorem e_L_brief {d : Nat} {m : AM} {x1 : Int32} : runM (d + 1) nL_brief [.ref 0, .int x1, .ref 632] m = runI (runM d) iL_brief (0, [some (.ref 0), some (.int x1), some (.ref 632), none], [], m) := runM_of pg_L_brief (Nat.le_of_ble_eq_true rfl) rfl
theorem pg_L_briefly : PG[nL_briefly]? = some pe_L_briefly := (pg_hi (j := 125) rfl rfl)
theorem e_L_briefly {d : Nat} {m : AM} {x1 : Int32} {x2 : Int32} : runM (d + 1) nL_briefly [.ref 0, .int x1, .int x2, .ref 632] m = runI (runM d) iL_briefly (0, [some (.ref 0), some (.int x1), some (.int x2), some (.ref 632), none], [], m) := runM_of pg_L_briefly (Nat.le_of_ble_eq_true rfl) rfl
theorem pg_L_joiner : PG[nL_joiner]? = some pe_L_joiner := (pg_hi (j := 126) rfl rfl)
theorem e_L_joiner {d : Nat} {m : AM} {x1 : Int32} : runM (d + 1) nL_joiner [.ref 0, .int x1, .ref 632] m = runI (runM d) iL_joiner (0, [some (.ref 0), some (.int x1), some (.ref 632), none], [], m) := runM_of pg_L_joiner (Nat.le_of_ble_eq_true rfl) rfl
theorem pg_L_leaks : PG[nL_leaks]? = some pe_L_leaks := (pg_hi (j := 127) rfl rfl)
theorem e_L_leaks {d : Nat} {m : AM} {x1 : Int32} : runM (d + 1) nL_leaks [.ref 0, .int x1, .ref 632] m = runI (runM d) iL_leaks (0, [some (.ref 0), some (.int x1), some (.ref 632), none], [], m) := runM_of pg_L_leaks (Nat.le_of_ble_eq_true rfl) rfl
theorem pg_L_look : PG[nL_look]? = some pe_L_look := (pg_hi (j := 128) rfl rfl)
theorem e_L_look {d : Nat} {m : AM} {x1 : Int32} : runM (d + 1) nL_look [.ref 0, .int x1, .ref 632] m = runI (runM d) iL_look (0, [some (.ref 0), some (.int x1), some (.ref 632), none], [], m) := runM_of pg_L_look (Nat.le_of_ble_eq_true rfl) rfl
theorem pg_L_sure : PG[nL_sure]? = some pe_L_sure := (pg_hi (j := 129) rfl rfl)
theorem e_L_sure {d : Nat} {m : AM} {x1 : Int32} {x2 : Int32} {x3 : Int32} : runM (d + 1) nL_sure [.ref 0, .int x1, .int x2, .int x3, .ref 632] m = runI (runM d) iL_sure (0, [some (.ref 0), some (.int x1), some (.int x2), some (.int x3), some (.ref 632), none], [], m) := runM_of pg_L_sure (Nat.le_of_ble_eq_true rfl) rfl
theorem pg_L_street : PG[nL_street]? = some pe_L_street := (pg_hi (j := 130) rfl rfl)
theorem e_L_street {d : Nat} {m : AM} {x1 : Int32} {x2 : Int32} {x3 : Int32} : runM (d + 1) nL_street [.ref 0, .int x1, .int x2, .int x3, .ref 632] m = runI (runM d) iL_street (0, [some (.ref 0), some (.int x1), some (.int x2), some (.int x3), some (.ref 632), none], [], m) := runM_of pg_L_street (Nat.le_of_ble_eq_true rfl) rfl
theorem pg_L_share : PG[nL_share]? = some pe_L_share := (pg_hi (j := 131) rfl rfl)
theorem e_L_share {d : Nat} {m : AM} {x1 : Int32} {x2 : Int32} {x3 : Int32} : runM (d + 1) nL_share [.ref 0, .int x1, .int x2, .int x3, .ref 632] m = runI (runM d) iL_share (0, [some (.ref 0), some (.int x1), some (.int x2), some (.int x3), some (.ref 632), none], [], m) := runM_of pg_L_share (Nat.le_of_ble_eq_true rfl) rfl
theorem pg_L_next : PG[nL_next]? = some pe_L_next := (pg_hi (j := 132) rfl rfl)
theorem e_L_next {d : Nat} {m : AM} {x1 : Int32} : runM (d + 1) nL_next [.ref 0, .int x1, .ref 632] m = runI (runM d) iL_next (0, [some (.ref 0), some (.int x1), some (.ref 632), none], [], m) := runM_of pg_L_next (Nat.le_of_ble_eq_true rfl) rfl
theorem pg_L_worst : PG[nL_worst]? = some pe_L_worst := (pg_hi (j := 133) rfl rfl)
theorem e_L_worst {d : Nat} {m : AM} {x1 : Int32} : runM (d + 1) nL_worst [.ref 0, .int x1, .ref 632] m = runI (runM d) iL_worst (0, [some (.ref 0), some (.int x1), some (.ref 632), none], [], m) := runM_of pg_L_worst (Nat.le_of_ble_eq_true rfl) rfl
theorem pg_L_needed : PG[nL_needed]? = some pe_L_needed := (pg_hi (j := 134) rfl rfl)
theorem e_L_needed {d : Nat} {m : AM} {x1 : Int32} : runM (d + 1) nL_needed [.ref 0, .int x1, .ref 632] m = runI (runM d) iL_needed (0, [some (.ref 0), some (.int x1), some (.ref 632), none], [], m) := runM_of pg_L_needed (Nat.le_of_ble_eq_true rfl) rfl
theorem pg_L_kin : PG[nL_kin]? = some pe_L_kin := (pg_hi (j := 135) rfl rfl)
theorem e_L_kin {d : Nat} {m : AM} {x1 : Int32} : runM (d + 1) nL_kin [.ref 0, .int x1, .ref 632] m = runI (runM d) iL_kin (0, [some (.ref 0), some (.int x1), some (.ref 632), none], [], m) := runM_of pg_L_kin (Nat.le_of_ble_eq_true rfl) rfl
theorem pg_L_year : PG[nL_year]? = some pe_L_year := (pg_hi (j := 136) rfl rfl)
theorem e_L_year {d : Nat} {m : AM} {x1 : Int32} {x2 : Int32} {x3 : Int32} {x4 : Int32} : runM (d + 1) nL_year [.ref 0, .int x1, .int x2, .int x3, .int x4, .ref 632] m = runI (runM d) iL_year (0, [some (.ref 0), some (.int x1), some (.int x2), some (.int x3), some (.int x4), some (.ref 632), none], [], m) := runM_of pg_L_year (Nat.le_of_ble_eq_true rfl) rfl
theorem pg_L_span : PG[nL_span]? = some pe_L_span := (pg_hi (j := 137) rfl rfl)
theorem e_L_span {d : Nat} {m : AM} {x1 : Int32} {x2 : Int32} {x3 : Int32} {x4 : Int32} {x5 : Int32} {x6 : Int32} : runM (d + 1) nL_span [.ref 0, .int x1, .int x2, .int x3, .int x4, .int x5, .int x6, .ref 632] m = runI (runM d) iL_span (0, [some (.ref 0), some (.int x1), some (.int x2), some (.int x3), some (.int x4), some (.int x5), some (.int x6), some (.ref 632), none], [], m) := runM_of pg_L_span (Nat.le_of_ble_eq_true rfl) rfl
