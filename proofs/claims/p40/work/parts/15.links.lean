/-! methods, links, call sites: laid by wip/gen/lay.py -/
theorem ww_i (i : Nat) {w : Cond} (h : lw_tbl[i]? = some w) (g : goodWord w = true) : w ∈ ww := List.mem_filter.mpr ⟨List.mem_of_getElem? h, g⟩
theorem ww_1 (i : Nat) {w : Cond} (h : tables_1_1[i]? = some w) (g : goodWord w = true) : w ∈ ww := List.mem_filter.mpr ⟨List.mem_append_right _ (List.mem_append_left _ (List.mem_of_getElem? h)), g⟩
theorem ww_2 (i : Nat) {w : Cond} (h : tables_1_2[i]? = some w) (g : goodWord w = true) : w ∈ ww := List.mem_filter.mpr ⟨List.mem_append_right _ (List.mem_append_right _ (List.mem_append_left _ (List.mem_of_getElem? h))), g⟩
theorem ww_3 (i : Nat) {w : Cond} (h : tables_1_3[i]? = some w) (g : goodWord w = true) : w ∈ ww := List.mem_filter.mpr ⟨List.mem_append_right _ (List.mem_append_right _ (List.mem_append_right _ (List.mem_append_left _ (List.mem_of_getElem? h)))), g⟩
theorem ww_4 (i : Nat) {w : Cond} (h : tables_1_4[i]? = some w) (g : goodWord w = true) : w ∈ ww := List.mem_filter.mpr ⟨List.mem_append_right _ (List.mem_append_right _ (List.mem_append_right _ (List.mem_append_right _ (List.mem_append_left _ (List.mem_of_getElem? h))))), g⟩
theorem ww_5 (i : Nat) {w : Cond} (h : tables_1_5[i]? = some w) (g : goodWord w = true) : w ∈ ww := List.mem_filter.mpr ⟨List.mem_append_right _ (List.mem_append_right _ (List.mem_append_right _ (List.mem_append_right _ (List.mem_append_right _ (List.mem_of_getElem? h))))), g⟩
def mX0_init : zM := (yX0_init, cX0_init, 1, none)
def mX0_put : zM := (yX0_put, cX0_put, 3, none)
def mX0_refusal : zM := (yX0_refusal, cX0_refusal, 3, (some .int))
def mX0_refusalOfPair : zM := (yX0_refusalOfPair, cX0_refusalOfPair, 4, (some .int))
def mX0_renew : zM := (yX0_renew, cX0_renew, 4, none)
def mX1_add : zM := (yX1_add, cX1_add, 2, (some .boolean))
def mX1_behindBlanks : zM := (yX1_behindBlanks, cX1_behindBlanks, 3, (some .int))
def mX1_behindFigures : zM := (yX1_behindFigures, cX1_behindFigures, 3, (some .int))
def mX1_behindLetters : zM := (yX1_behindLetters, cX1_behindLetters, 3, (some .int))
def mX1_fail : zM := (yX1_fail, cX1_fail, 3, none)
def mX1_init : zM := (yX1_init, cX1_init, 1, none)
def mX1_isFigure : zM := (yX1_isFigure, cX1_isFigure, 1, (some .boolean))
def mX1_isGood : zM := (yX1_isGood, cX1_isGood, 1, (some .boolean))
def mX1_isLetter : zM := (yX1_isLetter, cX1_isLetter, 1, (some .boolean))
def mX1_judgeNumber : zM := (yX1_judgeNumber, cX1_judgeNumber, 3, none)
def mX1_lineOfName : zM := (yX1_lineOfName, cX1_lineOfName, 2, (some .int))
def mX1_nameOfLine : zM := (yX1_nameOfLine, cX1_nameOfLine, 1, (some (.object "java/lang/String")))
def mX1_next : zM := (yX1_next, cX1_next, 3, none)
def mX1_numberOfToken : zM := (yX1_numberOfToken, cX1_numberOfToken, 3, (some .int))
def mX1_takeCloud : zM := (yX1_takeCloud, cX1_takeCloud, 3, none)
def mX1_takeDeed : zM := (yX1_takeDeed, cX1_takeDeed, 4, none)
def mX1_takeLine : zM := (yX1_takeLine, cX1_takeLine, 3, none)
def mX1_takeMan : zM := (yX1_takeMan, cX1_takeMan, 4, none)
def mX1_takeNumber : zM := (yX1_takeNumber, cX1_takeNumber, 3, (some .int))
def mX1_takePaint : zM := (yX1_takePaint, cX1_takePaint, 3, none)
def mX1_takeRota : zM := (yX1_takeRota, cX1_takeRota, 3, none)
def mX1_takeStop : zM := (yX1_takeStop, cX1_takeStop, 1, none)
def mX1_tell : zM := (yX1_tell, cX1_tell, 4, (some .int))
def mX1_tokenSpells : zM := (yX1_tokenSpells, cX1_tokenSpells, 3, (some .boolean))
def mX2_addDeed : zM := (yX2_addDeed, cX2_addDeed, 3, (some .boolean))
def mX2_addMan : zM := (yX2_addMan, cX2_addMan, 3, (some .boolean))
def mX2_allWhoStandAreThere : zM := (yX2_allWhoStandAreThere, cX2_allWhoStandAreThere, 2, (some .boolean))
def mX2_allWorth : zM := (yX2_allWorth, cX2_allWorth, 3, (some .int))
def mX2_clear : zM := (yX2_clear, cX2_clear, 1, none)
def mX2_copyOf : zM := (yX2_copyOf, cX2_copyOf, 2, none)
def mX2_doneAt : zM := (yX2_doneAt, cX2_doneAt, 4, (some .int))
def mX2_exchange : zM := (yX2_exchange, cX2_exchange, 4, none)
def mX2_firstIn : zM := (yX2_firstIn, cX2_firstIn, 5, (some .int))
def mX2_harm : zM := (yX2_harm, cX2_harm, 3, (some .int))
def mX2_harmAt : zM := (yX2_harmAt, cX2_harmAt, 3, (some .int))
def mX2_hasDeed : zM := (yX2_hasDeed, cX2_hasDeed, 2, (some .boolean))
def mX2_hasMan : zM := (yX2_hasMan, cX2_hasMan, 2, (some .boolean))
def mX2_hoursOf : zM := (yX2_hoursOf, cX2_hoursOf, 4, (some .int))
def mX2_hoursStood : zM := (yX2_hoursStood, cX2_hoursStood, 3, (some .int))
def mX2_init : zM := (yX2_init, cX2_init, 1, none)
def mX2_isCloudy : zM := (yX2_isCloudy, cX2_isCloudy, 2, (some .boolean))
def mX2_longestStood : zM := (yX2_longestStood, cX2_longestStood, 5, (some .int))
def mX2_quartersRead : zM := (yX2_quartersRead, cX2_quartersRead, 3, (some .int))
def mX2_reading : zM := (yX2_reading, cX2_reading, 3, (some .int))
def mX2_readsIn : zM := (yX2_readsIn, cX2_readsIn, 2, (some .boolean))
def mX2_reckonBends : zM := (yX2_reckonBends, cX2_reckonBends, 5, none)
def mX2_setAllStand : zM := (yX2_setAllStand, cX2_setAllStand, 3, none)
def mX2_setCloudy : zM := (yX2_setCloudy, cX2_setCloudy, 3, none)
def mX2_setKind : zM := (yX2_setKind, cX2_setKind, 3, none)
def mX2_setLean : zM := (yX2_setLean, cX2_setLean, 3, none)
def mX2_setPainted : zM := (yX2_setPainted, cX2_setPainted, 2, none)
def mX2_setStands : zM := (yX2_setStands, cX2_setStands, 3, none)
def mX2_slip : zM := (yX2_slip, cX2_slip, 3, (some .int))
def mX3_alter : zM := (yX3_alter, cX3_alter, 5, (some .int))
def mX3_ask : zM := (yX3_ask, cX3_ask, 8, (some .int))
def mX3_back : zM := (yX3_back, cX3_back, 2, (some .int))
def mX3_cloud : zM := (yX3_cloud, cX3_cloud, 4, (some .int))
def mX3_count : zM := (yX3_count, cX3_count, 2, (some .int))
def mX3_deed : zM := (yX3_deed, cX3_deed, 3, (some .int))
def mX3_done : zM := (yX3_done, cX3_done, 4, (some .int))
def mX3_drawn : zM := (yX3_drawn, cX3_drawn, 2, (some .int))
def mX3_drift : zM := (yX3_drift, cX3_drift, 9, (some .int))
def mX3_drop : zM := (yX3_drop, cX3_drop, 3, (some .int))
def mX3_end : zM := (yX3_end, cX3_end, 3, (some .int))
def mX3_fault : zM := (yX3_fault, cX3_fault, 1, (some .int))
def mX3_feed : zM := (yX3_feed, cX3_feed, 2, (some .int))
def mX3_forget : zM := (yX3_forget, cX3_forget, 3, (some .int))
def mX3_give : zM := (yX3_give, cX3_give, 7, (some .int))
def mX3_harmOfSwapped : zM := (yX3_harmOfSwapped, cX3_harmOfSwapped, 4, (some .int))
def mX3_imagesKept : zM := (yX3_imagesKept, cX3_imagesKept, 3, (some .int))
def mX3_init : zM := (yX3_init, cX3_init, 2, none)
def mX3_isFirstOrSecond : zM := (yX3_isFirstOrSecond, cX3_isFirstOrSecond, 1, (some .boolean))
def mX3_isHour : zM := (yX3_isHour, cX3_isHour, 1, (some .boolean))
def mX3_isLane : zM := (yX3_isLane, cX3_isLane, 1, (some .boolean))
def mX3_isQuarter : zM := (yX3_isQuarter, cX3_isQuarter, 1, (some .boolean))
def mX3_isSheet : zM := (yX3_isSheet, cX3_isSheet, 1, (some .boolean))
def mX3_isWorth : zM := (yX3_isWorth, cX3_isWorth, 1, (some .boolean))
def mX3_keep : zM := (yX3_keep, cX3_keep, 3, (some .int))
def mX3_kinds : zM := (yX3_kinds, cX3_kinds, 4, (some .int))
def mX3_lay : zM := (yX3_lay, cX3_lay, 6, (some .int))
def mX3_lean : zM := (yX3_lean, cX3_lean, 9, (some .int))
def mX3_leans : zM := (yX3_leans, cX3_leans, 2, (some .int))
def mX3_leansAsSeen : zM := (yX3_leansAsSeen, cX3_leansAsSeen, 4, (some .int))
def mX3_lost : zM := (yX3_lost, cX3_lost, 7, (some .int))
def mX3_luck : zM := (yX3_luck, cX3_luck, 4, (some .long))
def mX3_man : zM := (yX3_man, cX3_man, 3, (some .int))
def mX3_mark : zM := (yX3_mark, cX3_mark, 6, (some .int))
def mX3_mayStand : zM := (yX3_mayStand, cX3_mayStand, 3, (some .boolean))
def mX3_mean : zM := (yX3_mean, cX3_mean, 6, (some .long))
def mX3_mostLeft : zM := (yX3_mostLeft, cX3_mostLeft, 8, (some .int))
def mX3_move : zM := (yX3_move, cX3_move, 5, (some .int))
def mX3_nextSeed : zM := (yX3_nextSeed, cX3_nextSeed, 1, (some .int))
def mX3_oddsOfNever : zM := (yX3_oddsOfNever, cX3_oddsOfNever, 6, (some .long))
def mX3_paint : zM := (yX3_paint, cX3_paint, 3, (some .int))
def mX3_partOfFraction : zM := (yX3_partOfFraction, cX3_partOfFraction, 10, (some .long))
def mX3_read : zM := (yX3_read, cX3_read, 10, (some .int))
def mX3_rota : zM := (yX3_rota, cX3_rota, 2, (some .int))
def mX3_rule : zM := (yX3_rule, cX3_rule, 2, (some .int))
def mX3_see : zM := (yX3_see, cX3_see, 3, (some .int))
def mX3_sheet : zM := (yX3_sheet, cX3_sheet, 4, (some .int))
def mX3_shift : zM := (yX3_shift, cX3_shift, 4, (some .int))
def mX3_shows : zM := (yX3_shows, cX3_shows, 2, (some .int))
def mX3_sole : zM := (yX3_sole, cX3_sole, 6, (some .int))
def mX3_swap : zM := (yX3_swap, cX3_swap, 7, (some .int))
def mX3_text : zM := (yX3_text, cX3_text, 3, (some .int))
def mX3_timelinessOf : zM := (yX3_timelinessOf, cX3_timelinessOf, 3, (some .int))
def mX3_torn : zM := (yX3_torn, cX3_torn, 1, (some .int))
def mX3_trialIsAsSeen : zM := (yX3_trialIsAsSeen, cX3_trialIsAsSeen, 3, (some .boolean))
def mX3_want : zM := (yX3_want, cX3_want, 3, (some .int))
def mX3_weighedHarm : zM := (yX3_weighedHarm, cX3_weighedHarm, 9, (some .long))
def mX3_worst : zM := (yX3_worst, cX3_worst, 6, (some .int))
def mX4_alter : zM := (yX4_alter, cX4_alter, 4, (some .int))
def mX4_ask : zM := (yX4_ask, cX4_ask, 10, (some .int))
def mX4_back : zM := (yX4_back, cX4_back, 2, (some .int))
def mX4_bitsOf : zM := (yX4_bitsOf, cX4_bitsOf, 3, (some .int))
def mX4_byClouds : zM := (yX4_byClouds, cX4_byClouds, 14, (some .long))
def mX4_byteAt : zM := (yX4_byteAt, cX4_byteAt, 2, (some .int))
def mX4_cloud : zM := (yX4_cloud, cX4_cloud, 4, (some .int))
def mX4_copies : zM := (yX4_copies, cX4_copies, 4, none)
def mX4_count : zM := (yX4_count, cX4_count, 5, (some .int))
def mX4_deed : zM := (yX4_deed, cX4_deed, 3, (some .int))
def mX4_done : zM := (yX4_done, cX4_done, 7, (some .int))
def mX4_doneIn : zM := (yX4_doneIn, cX4_doneIn, 3, (some .int))
def mX4_draws : zM := (yX4_draws, cX4_draws, 2, (some .int))
def mX4_drift : zM := (yX4_drift, cX4_drift, 8, (some .int))
def mX4_drop : zM := (yX4_drop, cX4_drop, 2, (some .int))
def mX4_end : zM := (yX4_end, cX4_end, 3, (some .int))
def mX4_fails : zM := (yX4_fails, cX4_fails, 2, none)
def mX4_fault : zM := (yX4_fault, cX4_fault, 1, (some .int))
def mX4_feed : zM := (yX4_feed, cX4_feed, 2, (some .int))
def mX4_forget : zM := (yX4_forget, cX4_forget, 3, (some .int))
def mX4_give : zM := (yX4_give, cX4_give, 6, (some .int))
def mX4_harm : zM := (yX4_harm, cX4_harm, 3, (some .int))
def mX4_harmOf : zM := (yX4_harmOf, cX4_harmOf, 4, (some .int))
def mX4_hoursOf : zM := (yX4_hoursOf, cX4_hoursOf, 4, (some .int))
def mX4_in : zM := (yX4_in, cX4_in, 6, (some .boolean))
def mX4_init : zM := (yX4_init, cX4_init, 1, none)
def mX4_isAsSeen : zM := (yX4_isAsSeen, cX4_isAsSeen, 3, (some .boolean))
def mX4_isDeed : zM := (yX4_isDeed, cX4_isDeed, 2, (some .boolean))
def mX4_isHour : zM := (yX4_isHour, cX4_isHour, 1, (some .boolean))
def mX4_isLess : zM := (yX4_isLess, cX4_isLess, 3, (some .boolean))
def mX4_isMan : zM := (yX4_isMan, cX4_isMan, 2, (some .boolean))
def mX4_keep : zM := (yX4_keep, cX4_keep, 3, (some .int))
def mX4_kinds : zM := (yX4_kinds, cX4_kinds, 5, (some .int))
def mX4_lay : zM := (yX4_lay, cX4_lay, 4, (some .int))
def mX4_laysReads : zM := (yX4_laysReads, cX4_laysReads, 5, none)
def mX4_lean : zM := (yX4_lean, cX4_lean, 10, (some .int))
def mX4_leans : zM := (yX4_leans, cX4_leans, 2, (some .int))
def mX4_leansOf : zM := (yX4_leansOf, cX4_leansOf, 6, (some .int))
def mX4_lost : zM := (yX4_lost, cX4_lost, 7, (some .int))
def mX4_lowest : zM := (yX4_lowest, cX4_lowest, 11, (some .long))
def mX4_luck : zM := (yX4_luck, cX4_luck, 4, (some .long))
def mX4_man : zM := (yX4_man, cX4_man, 5, (some .int))
def mX4_mark : zM := (yX4_mark, cX4_mark, 5, (some .int))
def mX4_mean : zM := (yX4_mean, cX4_mean, 3, (some .long))
def mX4_move : zM := (yX4_move, cX4_move, 4, (some .int))
def mX4_nameHere : zM := (yX4_nameHere, cX4_nameHere, 4, (some .int))
def mX4_orNone : zM := (yX4_orNone, cX4_orNone, 1, (some .int))
def mX4_other : zM := (yX4_other, cX4_other, 5, (some .int))
def mX4_paint : zM := (yX4_paint, cX4_paint, 2, (some .int))
def mX4_puts : zM := (yX4_puts, cX4_puts, 6, (some .int))
def mX4_read : zM := (yX4_read, cX4_read, 9, (some .int))
def mX4_readLine : zM := (yX4_readLine, cX4_readLine, 2, none)
def mX4_readMore : zM := (yX4_readMore, cX4_readMore, 2, none)
def mX4_readRota : zM := (yX4_readRota, cX4_readRota, 2, none)
def mX4_rota : zM := (yX4_rota, cX4_rota, 2, (some .int))
def mX4_rule : zM := (yX4_rule, cX4_rule, 2, (some .int))
def mX4_see : zM := (yX4_see, cX4_see, 3, (some .int))
def mX4_sheet : zM := (yX4_sheet, cX4_sheet, 5, (some .int))
def mX4_shift : zM := (yX4_shift, cX4_shift, 3, (some .int))
def mX4_shifts : zM := (yX4_shifts, cX4_shifts, 4, (some .int))
def mX4_shows : zM := (yX4_shows, cX4_shows, 2, (some .int))
def mX4_slipIn : zM := (yX4_slipIn, cX4_slipIn, 3, (some .int))
def mX4_sole : zM := (yX4_sole, cX4_sole, 5, (some .int))
def mX4_standsIn : zM := (yX4_standsIn, cX4_standsIn, 2, (some .int))
def mX4_step : zM := (yX4_step, cX4_step, 2, none)
def mX4_stoodIn : zM := (yX4_stoodIn, cX4_stoodIn, 4, (some .int))
def mX4_swap : zM := (yX4_swap, cX4_swap, 7, (some .int))
def mX4_text : zM := (yX4_text, cX4_text, 3, (some .int))
def mX4_torn : zM := (yX4_torn, cX4_torn, 1, (some .int))
def mX4_want : zM := (yX4_want, cX4_want, 3, (some .int))
def mX4_worst : zM := (yX4_worst, cX4_worst, 6, (some .int))
theorem kf_0_9 : LKF RX0 9 0 0 := ⟨by decide, by decide, (ww_1 139 rfl rfl)⟩
theorem kf_0_15 : LKF RX0 15 0 1 := ⟨by decide, by decide, (ww_1 141 rfl rfl)⟩
theorem kf_0_19 : LKF RX0 19 0 2 := ⟨by decide, by decide, (ww_1 143 rfl rfl)⟩
theorem cm_X0_refusal : cOKm mX0_refusal := (ww_3 184 rfl rfl)
theorem cn_X0_refusal : cOK mX0_refusal 2 = true := by decide +kernel
theorem ci_X0_refusal : Cond.initialized mX0_refusal.1.cls ∈ ww := (ww_1 4 rfl rfl)
theorem kv_0_22 : CV RX0 22 mX0_refusal 2 0 := ⟨⟨(ww_3 197 rfl rfl), (ww_3 182 rfl rfl), (ww_3 183 rfl rfl), ci_X0_refusal⟩, cm_X0_refusal, cn_X0_refusal, by decide, rfl⟩
theorem kf_1_11 : LKF RX1 11 1 0 := ⟨by decide, by decide, (ww_1 96 rfl rfl)⟩
theorem kf_1_15 : LKF RX1 15 1 1 := ⟨by decide, by decide, (ww_1 97 rfl rfl)⟩
theorem cm_X2_clear : cOKm mX2_clear := (ww_1 30 rfl rfl)
theorem cn_X2_clear : cOK mX2_clear 0 = true := by decide +kernel
theorem ci_X2_clear : Cond.initialized mX2_clear.1.cls ∈ ww := (ww_1 2 rfl rfl)
theorem kv_1_19 : CV RX1 19 mX2_clear 0 2 := ⟨⟨(ww_1 206 rfl rfl), (ww_1 28 rfl rfl), (ww_1 29 rfl rfl), ci_X2_clear⟩, cm_X2_clear, cn_X2_clear, by decide, rfl⟩
theorem kf_1_24 : LKF RX1 24 1 2 := ⟨by decide, by decide, (ww_1 99 rfl rfl)⟩
theorem kf_1_27 : LKF RX1 27 1 3 := ⟨by decide, by decide, (ww_1 101 rfl rfl)⟩
theorem kf_1_30 : LKF RX1 30 1 6 := ⟨by decide, by decide, (ww_1 105 rfl rfl)⟩
theorem kf_1_33 : LKF RX1 33 1 8 := ⟨by decide, by decide, (ww_1 107 rfl rfl)⟩
theorem kf_1_37 : LKF RX1 37 1 9 := ⟨by decide, by decide, (ww_1 108 rfl rfl)⟩
theorem cm_X1_next : cOKm mX1_next := (ww_1 210 rfl rfl)
theorem cn_X1_next : cOK mX1_next 0 = true := by decide +kernel
theorem ci_X1_next : Cond.initialized mX1_next.1.cls ∈ ww := (ww_1 3 rfl rfl)
theorem kv_1_40 : CV RX1 40 mX1_next 0 1 := ⟨⟨(ww_1 207 rfl rfl), (ww_1 208 rfl rfl), (ww_1 209 rfl rfl), ci_X1_next⟩, cm_X1_next, cn_X1_next, by decide, rfl⟩
theorem cm_X1_isGood : cOKm mX1_isGood := (ww_2 0 rfl rfl)
theorem cn_X1_isGood : cOK mX1_isGood 0 = true := by decide +kernel
theorem ci_X1_isGood : Cond.initialized mX1_isGood.1.cls ∈ ww := (ww_1 3 rfl rfl)
theorem kv_1_43 : CV RX1 43 mX1_isGood 0 1 := ⟨⟨(ww_1 237 rfl rfl), (ww_1 238 rfl rfl), (ww_1 239 rfl rfl), ci_X1_isGood⟩, cm_X1_isGood, cn_X1_isGood, by decide, rfl⟩
theorem kf_1_47 : LKF RX1 47 1 4 := ⟨by decide, by decide, (ww_1 103 rfl rfl)⟩
theorem cm_X1_takeLine : cOKm mX1_takeLine := (ww_2 4 rfl rfl)
theorem cn_X1_takeLine : cOK mX1_takeLine 1 = true := by decide +kernel
theorem ci_X1_takeLine : Cond.initialized mX1_takeLine.1.cls ∈ ww := (ww_1 3 rfl rfl)
theorem kv_1_50 : CV RX1 50 mX1_takeLine 1 1 := ⟨⟨(ww_2 1 rfl rfl), (ww_2 2 rfl rfl), (ww_2 3 rfl rfl), ci_X1_takeLine⟩, cm_X1_takeLine, cn_X1_takeLine, by decide, rfl⟩
theorem cm_X2_allWhoStandAreThere : cOKm mX2_allWhoStandAreThere := (ww_2 131 rfl rfl)
theorem cn_X2_allWhoStandAreThere : cOK mX2_allWhoStandAreThere 0 = true := by decide +kernel
theorem ci_X2_allWhoStandAreThere : Cond.initialized mX2_allWhoStandAreThere.1.cls ∈ ww := (ww_1 2 rfl rfl)
theorem kv_1_54 : CV RX1 54 mX2_allWhoStandAreThere 0 2 := ⟨⟨(ww_2 128 rfl rfl), (ww_2 129 rfl rfl), (ww_2 130 rfl rfl), ci_X2_allWhoStandAreThere⟩, cm_X2_allWhoStandAreThere, cn_X2_allWhoStandAreThere, by decide, rfl⟩
theorem cm_X1_fail : cOKm mX1_fail := (ww_1 236 rfl rfl)
theorem cn_X1_fail : cOK mX1_fail 2 = true := by decide +kernel
theorem ci_X1_fail : Cond.initialized mX1_fail.1.cls ∈ ww := (ww_1 3 rfl rfl)
theorem kv_1_57 : CV RX1 57 mX1_fail 2 1 := ⟨⟨(ww_1 233 rfl rfl), (ww_1 234 rfl rfl), (ww_1 235 rfl rfl), ci_X1_fail⟩, cm_X1_fail, cn_X1_fail, by decide, rfl⟩
theorem cm_X1_lineOfName : cOKm mX1_lineOfName := (ww_2 8 rfl rfl)
theorem cn_X1_lineOfName : cOK mX1_lineOfName 0 = true := by decide +kernel
theorem ci_X1_lineOfName : Cond.initialized mX1_lineOfName.1.cls ∈ ww := (ww_1 3 rfl rfl)
theorem kv_1_61 : CV RX1 61 mX1_lineOfName 0 1 := ⟨⟨(ww_2 5 rfl rfl), (ww_2 6 rfl rfl), (ww_2 7 rfl rfl), ci_X1_lineOfName⟩, cm_X1_lineOfName, cn_X1_lineOfName, by decide, rfl⟩
theorem kf_1_65 : LKF RX1 65 1 5 := ⟨by decide, by decide, (ww_1 104 rfl rfl)⟩
theorem cm_X1_takeRota : cOKm mX1_takeRota := (ww_2 75 rfl rfl)
theorem cn_X1_takeRota : cOK mX1_takeRota 1 = true := by decide +kernel
theorem ci_X1_takeRota : Cond.initialized mX1_takeRota.1.cls ∈ ww := (ww_1 3 rfl rfl)
theorem kv_1_68 : CV RX1 68 mX1_takeRota 1 1 := ⟨⟨(ww_2 72 rfl rfl), (ww_2 73 rfl rfl), (ww_2 74 rfl rfl), ci_X1_takeRota⟩, cm_X1_takeRota, cn_X1_takeRota, by decide, rfl⟩
theorem cm_X1_takeCloud : cOKm mX1_takeCloud := (ww_2 87 rfl rfl)
theorem cn_X1_takeCloud : cOK mX1_takeCloud 1 = true := by decide +kernel
theorem ci_X1_takeCloud : Cond.initialized mX1_takeCloud.1.cls ∈ ww := (ww_1 3 rfl rfl)
theorem kv_1_71 : CV RX1 71 mX1_takeCloud 1 1 := ⟨⟨(ww_2 84 rfl rfl), (ww_2 85 rfl rfl), (ww_2 86 rfl rfl), ci_X1_takeCloud⟩, cm_X1_takeCloud, cn_X1_takeCloud, by decide, rfl⟩
theorem cm_X1_takePaint : cOKm mX1_takePaint := (ww_2 107 rfl rfl)
theorem cn_X1_takePaint : cOK mX1_takePaint 1 = true := by decide +kernel
theorem ci_X1_takePaint : Cond.initialized mX1_takePaint.1.cls ∈ ww := (ww_1 3 rfl rfl)
theorem kv_1_74 : CV RX1 74 mX1_takePaint 1 1 := ⟨⟨(ww_2 104 rfl rfl), (ww_2 105 rfl rfl), (ww_2 106 rfl rfl), ci_X1_takePaint⟩, cm_X1_takePaint, cn_X1_takePaint, by decide, rfl⟩
theorem cm_X1_takeDeed : cOKm mX1_takeDeed := (ww_2 115 rfl rfl)
theorem cn_X1_takeDeed : cOK mX1_takeDeed 1 = true := by decide +kernel
theorem ci_X1_takeDeed : Cond.initialized mX1_takeDeed.1.cls ∈ ww := (ww_1 3 rfl rfl)
theorem kv_1_77 : CV RX1 77 mX1_takeDeed 1 1 := ⟨⟨(ww_2 112 rfl rfl), (ww_2 113 rfl rfl), (ww_2 114 rfl rfl), ci_X1_takeDeed⟩, cm_X1_takeDeed, cn_X1_takeDeed, by decide, rfl⟩
theorem cm_X1_takeMan : cOKm mX1_takeMan := (ww_2 123 rfl rfl)
theorem cn_X1_takeMan : cOK mX1_takeMan 2 = true := by decide +kernel
theorem ci_X1_takeMan : Cond.initialized mX1_takeMan.1.cls ∈ ww := (ww_1 3 rfl rfl)
theorem kv_1_80 : CV RX1 80 mX1_takeMan 2 1 := ⟨⟨(ww_2 120 rfl rfl), (ww_2 121 rfl rfl), (ww_2 122 rfl rfl), ci_X1_takeMan⟩, cm_X1_takeMan, cn_X1_takeMan, by decide, rfl⟩
theorem kf_1_84 : LKF RX1 84 2 6 := ⟨by decide, by decide, (ww_1 59 rfl rfl)⟩
theorem cm_X1_takeNumber : cOKm mX1_takeNumber := (ww_2 91 rfl rfl)
theorem cn_X1_takeNumber : cOK mX1_takeNumber 2 = true := by decide +kernel
theorem ci_X1_takeNumber : Cond.initialized mX1_takeNumber.1.cls ∈ ww := (ww_1 3 rfl rfl)
theorem kv_1_87 : CV RX1 87 mX1_takeNumber 2 1 := ⟨⟨(ww_2 88 rfl rfl), (ww_2 89 rfl rfl), (ww_2 90 rfl rfl), ci_X1_takeNumber⟩, cm_X1_takeNumber, cn_X1_takeNumber, by decide, rfl⟩
theorem cm_X2_addMan : cOKm mX2_addMan := (ww_2 127 rfl rfl)
theorem cn_X2_addMan : cOK mX2_addMan 2 = true := by decide +kernel
theorem ci_X2_addMan : Cond.initialized mX2_addMan.1.cls ∈ ww := (ww_1 2 rfl rfl)
theorem kv_1_91 : CV RX1 91 mX2_addMan 2 2 := ⟨⟨(ww_2 124 rfl rfl), (ww_2 125 rfl rfl), (ww_2 126 rfl rfl), ci_X2_addMan⟩, cm_X2_addMan, cn_X2_addMan, by decide, rfl⟩
theorem cm_X1_takeStop : cOKm mX1_takeStop := (ww_2 103 rfl rfl)
theorem cn_X1_takeStop : cOK mX1_takeStop 0 = true := by decide +kernel
theorem ci_X1_takeStop : Cond.initialized mX1_takeStop.1.cls ∈ ww := (ww_1 3 rfl rfl)
theorem kv_1_95 : CV RX1 95 mX1_takeStop 0 1 := ⟨⟨(ww_2 100 rfl rfl), (ww_2 101 rfl rfl), (ww_2 102 rfl rfl), ci_X1_takeStop⟩, cm_X1_takeStop, cn_X1_takeStop, by decide, rfl⟩
theorem cm_X1_judgeNumber : cOKm mX1_judgeNumber := (ww_2 79 rfl rfl)
theorem cn_X1_judgeNumber : cOK mX1_judgeNumber 2 = true := by decide +kernel
theorem ci_X1_judgeNumber : Cond.initialized mX1_judgeNumber.1.cls ∈ ww := (ww_1 3 rfl rfl)
theorem kv_1_98 : CV RX1 98 mX1_judgeNumber 2 1 := ⟨⟨(ww_2 76 rfl rfl), (ww_2 77 rfl rfl), (ww_2 78 rfl rfl), ci_X1_judgeNumber⟩, cm_X1_judgeNumber, cn_X1_judgeNumber, by decide, rfl⟩
theorem kf_1_101 : LKF RX1 101 1 7 := ⟨by decide, by decide, (ww_1 106 rfl rfl)⟩
theorem cm_X2_setStands : cOKm mX2_setStands := (ww_2 83 rfl rfl)
theorem cn_X2_setStands : cOK mX2_setStands 2 = true := by decide +kernel
theorem ci_X2_setStands : Cond.initialized mX2_setStands.1.cls ∈ ww := (ww_1 2 rfl rfl)
theorem kv_1_104 : CV RX1 104 mX2_setStands 2 2 := ⟨⟨(ww_2 80 rfl rfl), (ww_2 81 rfl rfl), (ww_2 82 rfl rfl), ci_X2_setStands⟩, cm_X2_setStands, cn_X2_setStands, by decide, rfl⟩
theorem cm_X2_isCloudy : cOKm mX2_isCloudy := (ww_2 95 rfl rfl)
theorem cn_X2_isCloudy : cOK mX2_isCloudy 1 = true := by decide +kernel
theorem ci_X2_isCloudy : Cond.initialized mX2_isCloudy.1.cls ∈ ww := (ww_1 2 rfl rfl)
theorem kv_1_107 : CV RX1 107 mX2_isCloudy 1 2 := ⟨⟨(ww_2 92 rfl rfl), (ww_2 93 rfl rfl), (ww_2 94 rfl rfl), ci_X2_isCloudy⟩, cm_X2_isCloudy, cn_X2_isCloudy, by decide, rfl⟩
theorem cm_X2_setCloudy : cOKm mX2_setCloudy := (ww_2 99 rfl rfl)
theorem cn_X2_setCloudy : cOK mX2_setCloudy 2 = true := by decide +kernel
theorem ci_X2_setCloudy : Cond.initialized mX2_setCloudy.1.cls ∈ ww := (ww_1 2 rfl rfl)
theorem kv_1_111 : CV RX1 111 mX2_setCloudy 2 2 := ⟨⟨(ww_2 96 rfl rfl), (ww_2 97 rfl rfl), (ww_2 98 rfl rfl), ci_X2_setCloudy⟩, cm_X2_setCloudy, cn_X2_setCloudy, by decide, rfl⟩
theorem cm_X2_setPainted : cOKm mX2_setPainted := (ww_2 111 rfl rfl)
theorem cn_X2_setPainted : cOK mX2_setPainted 1 = true := by decide +kernel
theorem ci_X2_setPainted : Cond.initialized mX2_setPainted.1.cls ∈ ww := (ww_1 2 rfl rfl)
theorem kv_1_115 : CV RX1 115 mX2_setPainted 1 2 := ⟨⟨(ww_2 108 rfl rfl), (ww_2 109 rfl rfl), (ww_2 110 rfl rfl), ci_X2_setPainted⟩, cm_X2_setPainted, cn_X2_setPainted, by decide, rfl⟩
theorem kf_1_119 : LKF RX1 119 2 7 := ⟨by decide, by decide, (ww_1 62 rfl rfl)⟩
theorem cm_X2_addDeed : cOKm mX2_addDeed := (ww_2 119 rfl rfl)
theorem cn_X2_addDeed : cOK mX2_addDeed 2 = true := by decide +kernel
theorem ci_X2_addDeed : Cond.initialized mX2_addDeed.1.cls ∈ ww := (ww_1 2 rfl rfl)
theorem kv_1_122 : CV RX1 122 mX2_addDeed 2 2 := ⟨⟨(ww_2 116 rfl rfl), (ww_2 117 rfl rfl), (ww_2 118 rfl rfl), ci_X2_addDeed⟩, cm_X2_addDeed, cn_X2_addDeed, by decide, rfl⟩
theorem cm_X1_behindBlanks : cOKm mX1_behindBlanks := (ww_1 214 rfl rfl)
theorem cn_X1_behindBlanks : cOK mX1_behindBlanks 1 = true := by decide +kernel
theorem ci_X1_behindBlanks : Cond.initialized mX1_behindBlanks.1.cls ∈ ww := (ww_1 3 rfl rfl)
theorem kv_1_125 : CV RX1 125 mX1_behindBlanks 1 1 := ⟨⟨(ww_1 211 rfl rfl), (ww_1 212 rfl rfl), (ww_1 213 rfl rfl), ci_X1_behindBlanks⟩, cm_X1_behindBlanks, cn_X1_behindBlanks, by decide, rfl⟩
theorem cm_X1_isLetter : cOKm mX1_isLetter := (ww_1 217 rfl rfl)
theorem cn_X1_isLetter : cOK mX1_isLetter 1 = true := by decide +kernel
theorem ci_X1_isLetter : Cond.initialized mX1_isLetter.1.cls ∈ ww := (ww_1 3 rfl rfl)
theorem ks_1_129 : CS RX1 129 mX1_isLetter 1 := ⟨⟨(ww_1 215 rfl rfl), (ww_1 216 rfl rfl), ci_X1_isLetter⟩, cm_X1_isLetter, cn_X1_isLetter⟩
theorem cm_X1_behindLetters : cOKm mX1_behindLetters := (ww_1 221 rfl rfl)
theorem cn_X1_behindLetters : cOK mX1_behindLetters 1 = true := by decide +kernel
theorem ci_X1_behindLetters : Cond.initialized mX1_behindLetters.1.cls ∈ ww := (ww_1 3 rfl rfl)
theorem kv_1_132 : CV RX1 132 mX1_behindLetters 1 1 := ⟨⟨(ww_1 218 rfl rfl), (ww_1 219 rfl rfl), (ww_1 220 rfl rfl), ci_X1_behindLetters⟩, cm_X1_behindLetters, cn_X1_behindLetters, by decide, rfl⟩
theorem cm_X1_isFigure : cOKm mX1_isFigure := (ww_1 224 rfl rfl)
theorem cn_X1_isFigure : cOK mX1_isFigure 1 = true := by decide +kernel
theorem ci_X1_isFigure : Cond.initialized mX1_isFigure.1.cls ∈ ww := (ww_1 3 rfl rfl)
theorem ks_1_135 : CS RX1 135 mX1_isFigure 1 := ⟨⟨(ww_1 222 rfl rfl), (ww_1 223 rfl rfl), ci_X1_isFigure⟩, cm_X1_isFigure, cn_X1_isFigure⟩
theorem cm_X1_behindFigures : cOKm mX1_behindFigures := (ww_1 228 rfl rfl)
theorem cn_X1_behindFigures : cOK mX1_behindFigures 1 = true := by decide +kernel
theorem ci_X1_behindFigures : Cond.initialized mX1_behindFigures.1.cls ∈ ww := (ww_1 3 rfl rfl)
theorem kv_1_138 : CV RX1 138 mX1_behindFigures 1 1 := ⟨⟨(ww_1 225 rfl rfl), (ww_1 226 rfl rfl), (ww_1 227 rfl rfl), ci_X1_behindFigures⟩, cm_X1_behindFigures, cn_X1_behindFigures, by decide, rfl⟩
theorem cm_X1_numberOfToken : cOKm mX1_numberOfToken := (ww_1 232 rfl rfl)
theorem cn_X1_numberOfToken : cOK mX1_numberOfToken 0 = true := by decide +kernel
theorem ci_X1_numberOfToken : Cond.initialized mX1_numberOfToken.1.cls ∈ ww := (ww_1 3 rfl rfl)
theorem kv_1_141 : CV RX1 141 mX1_numberOfToken 0 1 := ⟨⟨(ww_1 229 rfl rfl), (ww_1 230 rfl rfl), (ww_1 231 rfl rfl), ci_X1_numberOfToken⟩, cm_X1_numberOfToken, cn_X1_numberOfToken, by decide, rfl⟩
theorem cm_X1_nameOfLine : cOKm mX1_nameOfLine := (ww_2 11 rfl rfl)
theorem cn_X1_nameOfLine : cOK mX1_nameOfLine 1 = true := by decide +kernel
theorem ci_X1_nameOfLine : Cond.initialized mX1_nameOfLine.1.cls ∈ ww := (ww_1 3 rfl rfl)
theorem ks_1_144 : CS RX1 144 mX1_nameOfLine 1 := ⟨⟨(ww_2 9 rfl rfl), (ww_2 10 rfl rfl), ci_X1_nameOfLine⟩, cm_X1_nameOfLine, cn_X1_nameOfLine⟩
theorem cm_X1_tokenSpells : cOKm mX1_tokenSpells := (ww_2 23 rfl rfl)
theorem cn_X1_tokenSpells : cOK mX1_tokenSpells 1 = true := by decide +kernel
theorem ci_X1_tokenSpells : Cond.initialized mX1_tokenSpells.1.cls ∈ ww := (ww_1 3 rfl rfl)
theorem kv_1_148 : CV RX1 148 mX1_tokenSpells 1 1 := ⟨⟨(ww_2 20 rfl rfl), (ww_2 21 rfl rfl), (ww_2 22 rfl rfl), ci_X1_tokenSpells⟩, cm_X1_tokenSpells, cn_X1_tokenSpells, by decide, rfl⟩
theorem kf_2_9 : LKF RX2 9 2 0 := ⟨by decide, by decide, (ww_1 46 rfl rfl)⟩
theorem kf_2_15 : LKF RX2 15 2 1 := ⟨by decide, by decide, (ww_1 48 rfl rfl)⟩
theorem kf_2_18 : LKF RX2 18 2 2 := ⟨by decide, by decide, (ww_1 50 rfl rfl)⟩
theorem kf_2_21 : LKF RX2 21 2 3 := ⟨by decide, by decide, (ww_1 52 rfl rfl)⟩
theorem kf_2_24 : LKF RX2 24 2 4 := ⟨by decide, by decide, (ww_1 54 rfl rfl)⟩
theorem kf_2_27 : LKF RX2 27 2 5 := ⟨by decide, by decide, (ww_1 56 rfl rfl)⟩
theorem kv_2_30 : CV RX2 30 mX2_clear 0 2 := ⟨⟨(ww_1 27 rfl rfl), (ww_1 28 rfl rfl), (ww_1 29 rfl rfl), ci_X2_clear⟩, cm_X2_clear, cn_X2_clear, by decide, rfl⟩
theorem kf_2_33 : LKF RX2 33 2 6 := ⟨by decide, by decide, (ww_1 57 rfl rfl)⟩
theorem kf_2_37 : LKF RX2 37 2 7 := ⟨by decide, by decide, (ww_1 60 rfl rfl)⟩
theorem kf_2_40 : LKF RX2 40 2 8 := ⟨by decide, by decide, (ww_1 63 rfl rfl)⟩
theorem kf_2_43 : LKF RX2 43 2 9 := ⟨by decide, by decide, (ww_1 65 rfl rfl)⟩
theorem cm_X2_setAllStand : cOKm mX2_setAllStand := (ww_1 34 rfl rfl)
theorem cn_X2_setAllStand : cOK mX2_setAllStand 1 = true := by decide +kernel
theorem ci_X2_setAllStand : Cond.initialized mX2_setAllStand.1.cls ∈ ww := (ww_1 2 rfl rfl)
theorem kv_2_46 : CV RX2 46 mX2_setAllStand 1 2 := ⟨⟨(ww_1 31 rfl rfl), (ww_1 32 rfl rfl), (ww_1 33 rfl rfl), ci_X2_setAllStand⟩, cm_X2_setAllStand, cn_X2_setAllStand, by decide, rfl⟩
theorem kc_2_50 : LKC RX2 50 := (ww_2 136 rfl rfl)
theorem cm_X2_reckonBends : cOKm mX2_reckonBends := (ww_1 38 rfl rfl)
theorem cn_X2_reckonBends : cOK mX2_reckonBends 0 = true := by decide +kernel
theorem ci_X2_reckonBends : Cond.initialized mX2_reckonBends.1.cls ∈ ww := (ww_1 2 rfl rfl)
theorem kv_2_56 : CV RX2 56 mX2_reckonBends 0 2 := ⟨⟨(ww_1 35 rfl rfl), (ww_1 36 rfl rfl), (ww_1 37 rfl rfl), ci_X2_reckonBends⟩, cm_X2_reckonBends, cn_X2_reckonBends, by decide, rfl⟩
theorem cm_X2_hasMan : cOKm mX2_hasMan := (ww_1 42 rfl rfl)
theorem cn_X2_hasMan : cOK mX2_hasMan 1 = true := by decide +kernel
theorem ci_X2_hasMan : Cond.initialized mX2_hasMan.1.cls ∈ ww := (ww_1 2 rfl rfl)
theorem kv_2_59 : CV RX2 59 mX2_hasMan 1 2 := ⟨⟨(ww_1 39 rfl rfl), (ww_1 40 rfl rfl), (ww_1 41 rfl rfl), ci_X2_hasMan⟩, cm_X2_hasMan, cn_X2_hasMan, by decide, rfl⟩
theorem cm_X2_slip : cOKm mX2_slip := (ww_1 45 rfl rfl)
theorem cn_X2_slip : cOK mX2_slip 3 = true := by decide +kernel
theorem ci_X2_slip : Cond.initialized mX2_slip.1.cls ∈ ww := (ww_1 2 rfl rfl)
theorem ks_2_63 : CS RX2 63 mX2_slip 3 := ⟨⟨(ww_1 43 rfl rfl), (ww_1 44 rfl rfl), ci_X2_slip⟩, cm_X2_slip, cn_X2_slip⟩
theorem kv_2_67 : CV RX2 67 mX2_isCloudy 1 2 := ⟨⟨(ww_2 167 rfl rfl), (ww_2 93 rfl rfl), (ww_2 94 rfl rfl), ci_X2_isCloudy⟩, cm_X2_isCloudy, cn_X2_isCloudy, by decide, rfl⟩
theorem cm_X2_readsIn : cOKm mX2_readsIn := (ww_2 166 rfl rfl)
theorem cn_X2_readsIn : cOK mX2_readsIn 1 = true := by decide +kernel
theorem ci_X2_readsIn : Cond.initialized mX2_readsIn.1.cls ∈ ww := (ww_1 2 rfl rfl)
theorem kv_2_70 : CV RX2 70 mX2_readsIn 1 2 := ⟨⟨(ww_2 163 rfl rfl), (ww_2 164 rfl rfl), (ww_2 165 rfl rfl), ci_X2_readsIn⟩, cm_X2_readsIn, cn_X2_readsIn, by decide, rfl⟩
theorem kn_2_73 : LKN RX2 73 := (ww_3 30 rfl rfl)
theorem kx_2_79 : LKX RX2 79 := (ww_2 168 rfl rfl)
theorem cm_X2_firstIn : cOKm mX2_firstIn := (ww_2 162 rfl rfl)
theorem cn_X2_firstIn : cOK mX2_firstIn 2 = true := by decide +kernel
theorem ci_X2_firstIn : Cond.initialized mX2_firstIn.1.cls ∈ ww := (ww_1 2 rfl rfl)
theorem kv_2_82 : CV RX2 82 mX2_firstIn 2 2 := ⟨⟨(ww_2 159 rfl rfl), (ww_2 160 rfl rfl), (ww_2 161 rfl rfl), ci_X2_firstIn⟩, cm_X2_firstIn, cn_X2_firstIn, by decide, rfl⟩
theorem ka_2_85 : LKA RX2 85 := (ww_2 175 rfl rfl)
theorem cm_X2_doneAt : cOKm mX2_doneAt := (ww_2 158 rfl rfl)
theorem cn_X2_doneAt : cOK mX2_doneAt 1 = true := by decide +kernel
theorem ci_X2_doneAt : Cond.initialized mX2_doneAt.1.cls ∈ ww := (ww_1 2 rfl rfl)
theorem kv_2_89 : CV RX2 89 mX2_doneAt 1 2 := ⟨⟨(ww_2 155 rfl rfl), (ww_2 156 rfl rfl), (ww_2 157 rfl rfl), ci_X2_doneAt⟩, cm_X2_doneAt, cn_X2_doneAt, by decide, rfl⟩
theorem cm_X2_harmAt : cOKm mX2_harmAt := (ww_2 174 rfl rfl)
theorem cn_X2_harmAt : cOK mX2_harmAt 2 = true := by decide +kernel
theorem ci_X2_harmAt : Cond.initialized mX2_harmAt.1.cls ∈ ww := (ww_1 2 rfl rfl)
theorem kv_2_92 : CV RX2 92 mX2_harmAt 2 2 := ⟨⟨(ww_2 171 rfl rfl), (ww_2 172 rfl rfl), (ww_2 173 rfl rfl), ci_X2_harmAt⟩, cm_X2_harmAt, cn_X2_harmAt, by decide, rfl⟩
theorem kf_3_10 : LKF RX3 10 3 0 := ⟨by decide, by decide, (ww_1 152 rfl rfl)⟩
theorem kf_3_16 : LKF RX3 16 3 1 := ⟨by decide, by decide, (ww_1 153 rfl rfl)⟩
theorem kf_3_19 : LKF RX3 19 3 2 := ⟨by decide, by decide, (ww_1 154 rfl rfl)⟩
theorem kf_3_23 : LKF RX3 23 3 3 := ⟨by decide, by decide, (ww_1 155 rfl rfl)⟩
theorem kf_3_30 : LKF RX3 30 3 4 := ⟨by decide, by decide, (ww_1 156 rfl rfl)⟩
theorem kf_3_36 : LKF RX3 36 3 5 := ⟨by decide, by decide, (ww_1 157 rfl rfl)⟩
theorem kf_3_40 : LKF RX3 40 3 6 := ⟨by decide, by decide, (ww_1 158 rfl rfl)⟩
theorem kf_3_44 : LKF RX3 44 3 7 := ⟨by decide, by decide, (ww_1 159 rfl rfl)⟩
theorem kf_3_47 : LKF RX3 47 3 8 := ⟨by decide, by decide, (ww_1 160 rfl rfl)⟩
theorem cm_X1_add : cOKm mX1_add := (ww_1 193 rfl rfl)
theorem cn_X1_add : cOK mX1_add 1 = true := by decide +kernel
theorem ci_X1_add : Cond.initialized mX1_add.1.cls ∈ ww := (ww_1 3 rfl rfl)
theorem kv_3_51 : CV RX3 51 mX1_add 1 1 := ⟨⟨(ww_1 190 rfl rfl), (ww_1 191 rfl rfl), (ww_1 192 rfl rfl), ci_X1_add⟩, cm_X1_add, cn_X1_add, by decide, rfl⟩
theorem kf_3_55 : LKF RX3 55 1 1 := ⟨by decide, by decide, (ww_1 98 rfl rfl)⟩
theorem cm_X1_tell : cOKm mX1_tell := (ww_1 205 rfl rfl)
theorem cn_X1_tell : cOK mX1_tell 1 = true := by decide +kernel
theorem ci_X1_tell : Cond.initialized mX1_tell.1.cls ∈ ww := (ww_1 3 rfl rfl)
theorem kv_3_59 : CV RX3 59 mX1_tell 1 1 := ⟨⟨(ww_1 202 rfl rfl), (ww_1 203 rfl rfl), (ww_1 204 rfl rfl), ci_X1_tell⟩, cm_X1_tell, cn_X1_tell, by decide, rfl⟩
theorem kf_3_63 : LKF RX3 63 1 2 := ⟨by decide, by decide, (ww_1 100 rfl rfl)⟩
theorem kf_3_66 : LKF RX3 66 1 3 := ⟨by decide, by decide, (ww_1 102 rfl rfl)⟩
theorem cm_X2_copyOf : cOKm mX2_copyOf := (ww_2 135 rfl rfl)
theorem cn_X2_copyOf : cOK mX2_copyOf 1 = true := by decide +kernel
theorem ci_X2_copyOf : Cond.initialized mX2_copyOf.1.cls ∈ ww := (ww_1 2 rfl rfl)
theorem kv_3_69 : CV RX3 69 mX2_copyOf 1 2 := ⟨⟨(ww_2 132 rfl rfl), (ww_2 133 rfl rfl), (ww_2 134 rfl rfl), ci_X2_copyOf⟩, cm_X2_copyOf, cn_X2_copyOf, by decide, rfl⟩
theorem kf_3_73 : LKF RX3 73 3 9 := ⟨by decide, by decide, (ww_1 161 rfl rfl)⟩
theorem kf_3_76 : LKF RX3 76 2 6 := ⟨by decide, by decide, (ww_1 58 rfl rfl)⟩
theorem kf_3_79 : LKF RX3 79 2 7 := ⟨by decide, by decide, (ww_1 61 rfl rfl)⟩
theorem kf_3_82 : LKF RX3 82 2 9 := ⟨by decide, by decide, (ww_1 66 rfl rfl)⟩
theorem kf_3_85 : LKF RX3 85 2 8 := ⟨by decide, by decide, (ww_1 64 rfl rfl)⟩
theorem cm_X2_hoursStood : cOKm mX2_hoursStood := (ww_2 150 rfl rfl)
theorem cn_X2_hoursStood : cOK mX2_hoursStood 0 = true := by decide +kernel
theorem ci_X2_hoursStood : Cond.initialized mX2_hoursStood.1.cls ∈ ww := (ww_1 2 rfl rfl)
theorem kv_3_88 : CV RX3 88 mX2_hoursStood 0 2 := ⟨⟨(ww_2 147 rfl rfl), (ww_2 148 rfl rfl), (ww_2 149 rfl rfl), ci_X2_hoursStood⟩, cm_X2_hoursStood, cn_X2_hoursStood, by decide, rfl⟩
theorem cm_X2_harm : cOKm mX2_harm := (ww_2 154 rfl rfl)
theorem cn_X2_harm : cOK mX2_harm 0 = true := by decide +kernel
theorem ci_X2_harm : Cond.initialized mX2_harm.1.cls ∈ ww := (ww_1 2 rfl rfl)
theorem kv_3_92 : CV RX3 92 mX2_harm 0 2 := ⟨⟨(ww_2 151 rfl rfl), (ww_2 152 rfl rfl), (ww_2 153 rfl rfl), ci_X2_harm⟩, cm_X2_harm, cn_X2_harm, by decide, rfl⟩
theorem kv_3_95 : CV RX3 95 mX2_hasMan 1 2 := ⟨⟨(ww_2 182 rfl rfl), (ww_1 40 rfl rfl), (ww_1 41 rfl rfl), ci_X2_hasMan⟩, cm_X2_hasMan, cn_X2_hasMan, by decide, rfl⟩
theorem kf_3_98 : LKF RX3 98 2 0 := ⟨by decide, by decide, (ww_1 47 rfl rfl)⟩
theorem kf_3_101 : LKF RX3 101 2 1 := ⟨by decide, by decide, (ww_1 49 rfl rfl)⟩
theorem cm_X2_hoursOf : cOKm mX2_hoursOf := (ww_2 186 rfl rfl)
theorem cn_X2_hoursOf : cOK mX2_hoursOf 1 = true := by decide +kernel
theorem ci_X2_hoursOf : Cond.initialized mX2_hoursOf.1.cls ∈ ww := (ww_1 2 rfl rfl)
theorem kv_3_104 : CV RX3 104 mX2_hoursOf 1 2 := ⟨⟨(ww_2 183 rfl rfl), (ww_2 184 rfl rfl), (ww_2 185 rfl rfl), ci_X2_hoursOf⟩, cm_X2_hoursOf, cn_X2_hoursOf, by decide, rfl⟩
theorem cm_X2_longestStood : cOKm mX2_longestStood := (ww_2 190 rfl rfl)
theorem cn_X2_longestStood : cOK mX2_longestStood 1 = true := by decide +kernel
theorem ci_X2_longestStood : Cond.initialized mX2_longestStood.1.cls ∈ ww := (ww_1 2 rfl rfl)
theorem kv_3_108 : CV RX3 108 mX2_longestStood 1 2 := ⟨⟨(ww_2 187 rfl rfl), (ww_2 188 rfl rfl), (ww_2 189 rfl rfl), ci_X2_longestStood⟩, cm_X2_longestStood, cn_X2_longestStood, by decide, rfl⟩
theorem cm_X3_isHour : cOKm mX3_isHour := (ww_2 197 rfl rfl)
theorem cn_X3_isHour : cOK mX3_isHour 1 = true := by decide +kernel
theorem ci_X3_isHour : Cond.initialized mX3_isHour.1.cls ∈ ww := (ww_1 1 rfl rfl)
theorem ks_3_111 : CS RX3 111 mX3_isHour 1 := ⟨⟨(ww_2 195 rfl rfl), (ww_2 196 rfl rfl), ci_X3_isHour⟩, cm_X3_isHour, cn_X3_isHour⟩
theorem kf_3_114 : LKF RX3 114 2 2 := ⟨by decide, by decide, (ww_1 51 rfl rfl)⟩
theorem cm_X2_hasDeed : cOKm mX2_hasDeed := (ww_2 205 rfl rfl)
theorem cn_X2_hasDeed : cOK mX2_hasDeed 1 = true := by decide +kernel
theorem ci_X2_hasDeed : Cond.initialized mX2_hasDeed.1.cls ∈ ww := (ww_1 2 rfl rfl)
theorem kv_3_117 : CV RX3 117 mX2_hasDeed 1 2 := ⟨⟨(ww_2 202 rfl rfl), (ww_2 203 rfl rfl), (ww_2 204 rfl rfl), ci_X2_hasDeed⟩, cm_X2_hasDeed, cn_X2_hasDeed, by decide, rfl⟩
theorem kf_3_120 : LKF RX3 120 2 3 := ⟨by decide, by decide, (ww_1 53 rfl rfl)⟩
theorem kf_3_123 : LKF RX3 123 2 4 := ⟨by decide, by decide, (ww_1 55 rfl rfl)⟩
theorem kv_3_126 : CV RX3 126 mX2_doneAt 1 2 := ⟨⟨(ww_2 206 rfl rfl), (ww_2 156 rfl rfl), (ww_2 157 rfl rfl), ci_X2_doneAt⟩, cm_X2_doneAt, cn_X2_doneAt, by decide, rfl⟩
theorem kv_3_129 : CV RX3 129 mX2_harmAt 2 2 := ⟨⟨(ww_2 207 rfl rfl), (ww_2 172 rfl rfl), (ww_2 173 rfl rfl), ci_X2_harmAt⟩, cm_X2_harmAt, cn_X2_harmAt, by decide, rfl⟩
theorem cm_X3_isFirstOrSecond : cOKm mX3_isFirstOrSecond := (ww_2 214 rfl rfl)
theorem cn_X3_isFirstOrSecond : cOK mX3_isFirstOrSecond 1 = true := by decide +kernel
theorem ci_X3_isFirstOrSecond : Cond.initialized mX3_isFirstOrSecond.1.cls ∈ ww := (ww_1 1 rfl rfl)
theorem ks_3_133 : CS RX3 133 mX3_isFirstOrSecond 1 := ⟨⟨(ww_2 212 rfl rfl), (ww_2 213 rfl rfl), ci_X3_isFirstOrSecond⟩, cm_X3_isFirstOrSecond, cn_X3_isFirstOrSecond⟩
theorem cm_X2_setKind : cOKm mX2_setKind := (ww_2 218 rfl rfl)
theorem cn_X2_setKind : cOK mX2_setKind 2 = true := by decide +kernel
theorem ci_X2_setKind : Cond.initialized mX2_setKind.1.cls ∈ ww := (ww_1 2 rfl rfl)
theorem kv_3_136 : CV RX3 136 mX2_setKind 2 2 := ⟨⟨(ww_2 215 rfl rfl), (ww_2 216 rfl rfl), (ww_2 217 rfl rfl), ci_X2_setKind⟩, cm_X2_setKind, cn_X2_setKind, by decide, rfl⟩
theorem cm_X2_setLean : cOKm mX2_setLean := (ww_2 222 rfl rfl)
theorem cn_X2_setLean : cOK mX2_setLean 2 = true := by decide +kernel
theorem ci_X2_setLean : Cond.initialized mX2_setLean.1.cls ∈ ww := (ww_1 2 rfl rfl)
theorem kv_3_140 : CV RX3 140 mX2_setLean 2 2 := ⟨⟨(ww_2 219 rfl rfl), (ww_2 220 rfl rfl), (ww_2 221 rfl rfl), ci_X2_setLean⟩, cm_X2_setLean, cn_X2_setLean, by decide, rfl⟩
theorem cm_X3_isQuarter : cOKm mX3_isQuarter := (ww_2 229 rfl rfl)
theorem cn_X3_isQuarter : cOK mX3_isQuarter 1 = true := by decide +kernel
theorem ci_X3_isQuarter : Cond.initialized mX3_isQuarter.1.cls ∈ ww := (ww_1 1 rfl rfl)
theorem ks_3_143 : CS RX3 143 mX3_isQuarter 1 := ⟨⟨(ww_2 227 rfl rfl), (ww_2 228 rfl rfl), ci_X3_isQuarter⟩, cm_X3_isQuarter, cn_X3_isQuarter⟩
theorem cm_X3_isWorth : cOKm mX3_isWorth := (ww_2 232 rfl rfl)
theorem cn_X3_isWorth : cOK mX3_isWorth 1 = true := by decide +kernel
theorem ci_X3_isWorth : Cond.initialized mX3_isWorth.1.cls ∈ ww := (ww_1 1 rfl rfl)
theorem ks_3_146 : CS RX3 146 mX3_isWorth 1 := ⟨⟨(ww_2 230 rfl rfl), (ww_2 231 rfl rfl), ci_X3_isWorth⟩, cm_X3_isWorth, cn_X3_isWorth⟩
theorem cm_X3_mayStand : cOKm mX3_mayStand := (ww_3 0 rfl rfl)
theorem cn_X3_mayStand : cOK mX3_mayStand 2 = true := by decide +kernel
theorem ci_X3_mayStand : Cond.initialized mX3_mayStand.1.cls ∈ ww := (ww_1 1 rfl rfl)
theorem kv_3_149 : CV RX3 149 mX3_mayStand 2 3 := ⟨⟨(ww_2 237 rfl rfl), (ww_2 239 rfl rfl), (ww_i 0 rfl rfl), ci_X3_mayStand⟩, cm_X3_mayStand, cn_X3_mayStand, by decide, rfl⟩
theorem kv_3_153 : CV RX3 153 mX2_setStands 2 2 := ⟨⟨(ww_3 1 rfl rfl), (ww_2 81 rfl rfl), (ww_2 82 rfl rfl), ci_X2_setStands⟩, cm_X2_setStands, cn_X2_setStands, by decide, rfl⟩
theorem kv_3_156 : CV RX3 156 mX2_isCloudy 1 2 := ⟨⟨(ww_3 6 rfl rfl), (ww_2 93 rfl rfl), (ww_2 94 rfl rfl), ci_X2_isCloudy⟩, cm_X2_isCloudy, cn_X2_isCloudy, by decide, rfl⟩
theorem kv_3_159 : CV RX3 159 mX2_setCloudy 2 2 := ⟨⟨(ww_3 7 rfl rfl), (ww_2 97 rfl rfl), (ww_2 98 rfl rfl), ci_X2_setCloudy⟩, cm_X2_setCloudy, cn_X2_setCloudy, by decide, rfl⟩
theorem kv_3_163 : CV RX3 163 mX2_setPainted 1 2 := ⟨⟨(ww_3 12 rfl rfl), (ww_2 109 rfl rfl), (ww_2 110 rfl rfl), ci_X2_setPainted⟩, cm_X2_setPainted, cn_X2_setPainted, by decide, rfl⟩
theorem kv_3_167 : CV RX3 167 mX2_addDeed 2 2 := ⟨⟨(ww_3 17 rfl rfl), (ww_2 117 rfl rfl), (ww_2 118 rfl rfl), ci_X2_addDeed⟩, cm_X2_addDeed, cn_X2_addDeed, by decide, rfl⟩
theorem cm_X2_reading : cOKm mX2_reading := (ww_3 29 rfl rfl)
theorem cn_X2_reading : cOK mX2_reading 1 = true := by decide +kernel
theorem ci_X2_reading : Cond.initialized mX2_reading.1.cls ∈ ww := (ww_1 2 rfl rfl)
theorem kv_3_170 : CV RX3 170 mX2_reading 1 2 := ⟨⟨(ww_3 26 rfl rfl), (ww_3 27 rfl rfl), (ww_3 28 rfl rfl), ci_X2_reading⟩, cm_X2_reading, cn_X2_reading, by decide, rfl⟩
theorem ka_3_173 : LKA RX3 173 := (ww_3 41 rfl rfl)
theorem cm_X3_timelinessOf : cOKm mX3_timelinessOf := (ww_3 49 rfl rfl)
theorem cn_X3_timelinessOf : cOK mX3_timelinessOf 1 = true := by decide +kernel
theorem ci_X3_timelinessOf : Cond.initialized mX3_timelinessOf.1.cls ∈ ww := (ww_1 1 rfl rfl)
theorem kv_3_178 : CV RX3 178 mX3_timelinessOf 1 3 := ⟨⟨(ww_3 46 rfl rfl), (ww_3 48 rfl rfl), (ww_i 1 rfl rfl), ci_X3_timelinessOf⟩, cm_X3_timelinessOf, cn_X3_timelinessOf, by decide, rfl⟩
theorem kg_181 : Cond.fieldLink RX3 181 RX3 "NEAREST_LEANS" "[I" ∈ ww := (ww_3 54 rfl rfl)
theorem kq_3_186 : Cond.constant RX3 186 (Int32.ofInt (2147483647)) ∈ ww := (ww_3 60 rfl rfl)
theorem cm_X3_harmOfSwapped : cOKm mX3_harmOfSwapped := (ww_3 72 rfl rfl)
theorem cn_X3_harmOfSwapped : cOK mX3_harmOfSwapped 2 = true := by decide +kernel
theorem ci_X3_harmOfSwapped : Cond.initialized mX3_harmOfSwapped.1.cls ∈ ww := (ww_1 1 rfl rfl)
theorem kv_3_187 : CV RX3 187 mX3_harmOfSwapped 2 3 := ⟨⟨(ww_3 69 rfl rfl), (ww_3 71 rfl rfl), (ww_i 2 rfl rfl), ci_X3_harmOfSwapped⟩, cm_X3_harmOfSwapped, cn_X3_harmOfSwapped, by decide, rfl⟩
theorem cm_X2_exchange : cOKm mX2_exchange := (ww_3 76 rfl rfl)
theorem cn_X2_exchange : cOK mX2_exchange 2 = true := by decide +kernel
theorem ci_X2_exchange : Cond.initialized mX2_exchange.1.cls ∈ ww := (ww_1 2 rfl rfl)
theorem kv_3_190 : CV RX3 190 mX2_exchange 2 2 := ⟨⟨(ww_3 73 rfl rfl), (ww_3 74 rfl rfl), (ww_3 75 rfl rfl), ci_X2_exchange⟩, cm_X2_exchange, cn_X2_exchange, by decide, rfl⟩
theorem kv_3_193 : CV RX3 193 mX2_setAllStand 1 2 := ⟨⟨(ww_3 81 rfl rfl), (ww_1 32 rfl rfl), (ww_1 33 rfl rfl), ci_X2_setAllStand⟩, cm_X2_setAllStand, cn_X2_setAllStand, by decide, rfl⟩
theorem kq_3_196 : Cond.constantLong RX3 196 (Int64.ofInt (-1)) ∈ ww := (ww_3 86 rfl rfl)
theorem cm_X3_weighedHarm : cOKm mX3_weighedHarm := (ww_3 90 rfl rfl)
theorem cn_X3_weighedHarm : cOK mX3_weighedHarm 2 = true := by decide +kernel
theorem ci_X3_weighedHarm : Cond.initialized mX3_weighedHarm.1.cls ∈ ww := (ww_1 1 rfl rfl)
theorem kv_3_198 : CV RX3 198 mX3_weighedHarm 2 3 := ⟨⟨(ww_3 87 rfl rfl), (ww_3 89 rfl rfl), (ww_i 3 rfl rfl), ci_X3_weighedHarm⟩, cm_X3_weighedHarm, cn_X3_weighedHarm, by decide, rfl⟩
theorem cm_X3_partOfFraction : cOKm mX3_partOfFraction := (ww_3 96 rfl rfl)
theorem cn_X3_partOfFraction : cOK mX3_partOfFraction 2 = true := by decide +kernel
theorem ci_X3_partOfFraction : Cond.initialized mX3_partOfFraction.1.cls ∈ ww := (ww_1 1 rfl rfl)
theorem ks_3_202 : CS RX3 202 mX3_partOfFraction 2 := ⟨⟨(ww_3 94 rfl rfl), (ww_3 95 rfl rfl), ci_X3_partOfFraction⟩, cm_X3_partOfFraction, cn_X3_partOfFraction⟩
theorem kq_3_206 : Cond.constantLong RX3 206 (Int64.ofInt (1000000000000)) ∈ ww := (ww_3 91 rfl rfl)
theorem cm_X3_oddsOfNever : cOKm mX3_oddsOfNever := (ww_3 104 rfl rfl)
theorem cn_X3_oddsOfNever : cOK mX3_oddsOfNever 2 = true := by decide +kernel
theorem ci_X3_oddsOfNever : Cond.initialized mX3_oddsOfNever.1.cls ∈ ww := (ww_1 1 rfl rfl)
theorem kv_3_208 : CV RX3 208 mX3_oddsOfNever 2 3 := ⟨⟨(ww_3 101 rfl rfl), (ww_3 103 rfl rfl), (ww_i 4 rfl rfl), ci_X3_oddsOfNever⟩, cm_X3_oddsOfNever, cn_X3_oddsOfNever, by decide, rfl⟩
theorem kv_3_211 : CV RX3 211 mX2_firstIn 2 2 := ⟨⟨(ww_3 92 rfl rfl), (ww_2 160 rfl rfl), (ww_2 161 rfl rfl), ci_X2_firstIn⟩, cm_X2_firstIn, cn_X2_firstIn, by decide, rfl⟩
theorem kq_3_214 : Cond.constantLong RX3 214 (Int64.ofInt (10)) ∈ ww := (ww_3 93 rfl rfl)
theorem cm_X3_leansAsSeen : cOKm mX3_leansAsSeen := (ww_3 120 rfl rfl)
theorem cn_X3_leansAsSeen : cOK mX3_leansAsSeen 1 = true := by decide +kernel
theorem ci_X3_leansAsSeen : Cond.initialized mX3_leansAsSeen.1.cls ∈ ww := (ww_1 1 rfl rfl)
theorem kv_3_216 : CV RX3 216 mX3_leansAsSeen 1 3 := ⟨⟨(ww_3 117 rfl rfl), (ww_3 119 rfl rfl), (ww_i 5 rfl rfl), ci_X3_leansAsSeen⟩, cm_X3_leansAsSeen, cn_X3_leansAsSeen, by decide, rfl⟩
theorem cm_X3_trialIsAsSeen : cOKm mX3_trialIsAsSeen := (ww_3 124 rfl rfl)
theorem cn_X3_trialIsAsSeen : cOK mX3_trialIsAsSeen 0 = true := by decide +kernel
theorem ci_X3_trialIsAsSeen : Cond.initialized mX3_trialIsAsSeen.1.cls ∈ ww := (ww_1 1 rfl rfl)
theorem kv_3_219 : CV RX3 219 mX3_trialIsAsSeen 0 3 := ⟨⟨(ww_3 121 rfl rfl), (ww_3 123 rfl rfl), (ww_i 6 rfl rfl), ci_X3_trialIsAsSeen⟩, cm_X3_trialIsAsSeen, cn_X3_trialIsAsSeen, by decide, rfl⟩
theorem cm_X3_mostLeft : cOKm mX3_mostLeft := (ww_3 142 rfl rfl)
theorem cn_X3_mostLeft : cOK mX3_mostLeft 3 = true := by decide +kernel
theorem ci_X3_mostLeft : Cond.initialized mX3_mostLeft.1.cls ∈ ww := (ww_1 1 rfl rfl)
theorem kv_3_226 : CV RX3 226 mX3_mostLeft 3 3 := ⟨⟨(ww_3 139 rfl rfl), (ww_3 141 rfl rfl), (ww_i 7 rfl rfl), ci_X3_mostLeft⟩, cm_X3_mostLeft, cn_X3_mostLeft, by decide, rfl⟩
theorem kx_3_230 : LKX RX3 230 := (ww_3 143 rfl rfl)
theorem cm_X3_nextSeed : cOKm mX3_nextSeed := (ww_3 150 rfl rfl)
theorem cn_X3_nextSeed : cOK mX3_nextSeed 1 = true := by decide +kernel
theorem ci_X3_nextSeed : Cond.initialized mX3_nextSeed.1.cls ∈ ww := (ww_1 1 rfl rfl)
theorem ks_3_233 : CS RX3 233 mX3_nextSeed 1 := ⟨⟨(ww_3 148 rfl rfl), (ww_3 149 rfl rfl), ci_X3_nextSeed⟩, cm_X3_nextSeed, cn_X3_nextSeed⟩
theorem cm_X3_drawn : cOKm mX3_drawn := (ww_3 154 rfl rfl)
theorem cn_X3_drawn : cOK mX3_drawn 2 = true := by decide +kernel
theorem ci_X3_drawn : Cond.initialized mX3_drawn.1.cls ∈ ww := (ww_1 1 rfl rfl)
theorem ks_3_236 : CS RX3 236 mX3_drawn 2 := ⟨⟨(ww_3 152 rfl rfl), (ww_3 153 rfl rfl), ci_X3_drawn⟩, cm_X3_drawn, cn_X3_drawn⟩
theorem kq_3_239 : Cond.constant RX3 239 (Int32.ofInt (1103515245)) ∈ ww := (ww_3 151 rfl rfl)
theorem cm_X3_isSheet : cOKm mX3_isSheet := (ww_3 169 rfl rfl)
theorem cn_X3_isSheet : cOK mX3_isSheet 1 = true := by decide +kernel
theorem ci_X3_isSheet : Cond.initialized mX3_isSheet.1.cls ∈ ww := (ww_1 1 rfl rfl)
theorem ks_3_240 : CS RX3 240 mX3_isSheet 1 := ⟨⟨(ww_3 167 rfl rfl), (ww_3 168 rfl rfl), ci_X3_isSheet⟩, cm_X3_isSheet, cn_X3_isSheet⟩
theorem cm_X3_isLane : cOKm mX3_isLane := (ww_3 172 rfl rfl)
theorem cn_X3_isLane : cOK mX3_isLane 1 = true := by decide +kernel
theorem ci_X3_isLane : Cond.initialized mX3_isLane.1.cls ∈ ww := (ww_1 1 rfl rfl)
theorem ks_3_243 : CS RX3 243 mX3_isLane 1 := ⟨⟨(ww_3 170 rfl rfl), (ww_3 171 rfl rfl), ci_X3_isLane⟩, cm_X3_isLane, cn_X3_isLane⟩
theorem cm_X0_renew : cOKm mX0_renew := (ww_3 176 rfl rfl)
theorem cn_X0_renew : cOK mX0_renew 2 = true := by decide +kernel
theorem ci_X0_renew : Cond.initialized mX0_renew.1.cls ∈ ww := (ww_1 4 rfl rfl)
theorem kv_3_246 : CV RX3 246 mX0_renew 2 0 := ⟨⟨(ww_3 173 rfl rfl), (ww_3 174 rfl rfl), (ww_3 175 rfl rfl), ci_X0_renew⟩, cm_X0_renew, cn_X0_renew, by decide, rfl⟩
theorem kf_3_249 : LKF RX3 249 0 1 := ⟨by decide, by decide, (ww_1 142 rfl rfl)⟩
theorem kv_3_252 : CV RX3 252 mX0_refusal 2 0 := ⟨⟨(ww_3 181 rfl rfl), (ww_3 182 rfl rfl), (ww_3 183 rfl rfl), ci_X0_refusal⟩, cm_X0_refusal, cn_X0_refusal, by decide, rfl⟩
theorem cm_X0_put : cOKm mX0_put := (ww_3 188 rfl rfl)
theorem cn_X0_put : cOK mX0_put 2 = true := by decide +kernel
theorem ci_X0_put : Cond.initialized mX0_put.1.cls ∈ ww := (ww_1 4 rfl rfl)
theorem kv_3_255 : CV RX3 255 mX0_put 2 0 := ⟨⟨(ww_3 185 rfl rfl), (ww_3 186 rfl rfl), (ww_3 187 rfl rfl), ci_X0_put⟩, cm_X0_put, cn_X0_put, by decide, rfl⟩
theorem cm_X0_refusalOfPair : cOKm mX0_refusalOfPair := (ww_3 196 rfl rfl)
theorem cn_X0_refusalOfPair : cOK mX0_refusalOfPair 2 = true := by decide +kernel
theorem ci_X0_refusalOfPair : Cond.initialized mX0_refusalOfPair.1.cls ∈ ww := (ww_1 4 rfl rfl)
theorem kv_3_258 : CV RX3 258 mX0_refusalOfPair 2 0 := ⟨⟨(ww_3 193 rfl rfl), (ww_3 194 rfl rfl), (ww_3 195 rfl rfl), ci_X0_refusalOfPair⟩, cm_X0_refusalOfPair, cn_X0_refusalOfPair, by decide, rfl⟩
theorem kf_3_261 : LKF RX3 261 0 0 := ⟨by decide, by decide, (ww_1 140 rfl rfl)⟩
theorem kf_3_264 : LKF RX3 264 3 10 := ⟨by decide, by decide, (ww_1 162 rfl rfl)⟩
theorem cm_X3_imagesKept : cOKm mX3_imagesKept := (ww_3 209 rfl rfl)
theorem cn_X3_imagesKept : cOK mX3_imagesKept 0 = true := by decide +kernel
theorem ci_X3_imagesKept : Cond.initialized mX3_imagesKept.1.cls ∈ ww := (ww_1 1 rfl rfl)
theorem kv_3_267 : CV RX3 267 mX3_imagesKept 0 3 := ⟨⟨(ww_3 206 rfl rfl), (ww_3 208 rfl rfl), (ww_i 8 rfl rfl), ci_X3_imagesKept⟩, cm_X3_imagesKept, cn_X3_imagesKept, by decide, rfl⟩
theorem kf_3_270 : LKF RX3 270 0 2 := ⟨by decide, by decide, (ww_1 144 rfl rfl)⟩
theorem cm_X2_allWorth : cOKm mX2_allWorth := (ww_3 213 rfl rfl)
theorem cn_X2_allWorth : cOK mX2_allWorth 0 = true := by decide +kernel
theorem ci_X2_allWorth : Cond.initialized mX2_allWorth.1.cls ∈ ww := (ww_1 2 rfl rfl)
theorem kv_3_273 : CV RX3 273 mX2_allWorth 0 2 := ⟨⟨(ww_3 210 rfl rfl), (ww_3 211 rfl rfl), (ww_3 212 rfl rfl), ci_X2_allWorth⟩, cm_X2_allWorth, cn_X2_allWorth, by decide, rfl⟩
theorem cm_X2_quartersRead : cOKm mX2_quartersRead := (ww_3 217 rfl rfl)
theorem cn_X2_quartersRead : cOK mX2_quartersRead 0 = true := by decide +kernel
theorem ci_X2_quartersRead : Cond.initialized mX2_quartersRead.1.cls ∈ ww := (ww_1 2 rfl rfl)
theorem kv_3_276 : CV RX3 276 mX2_quartersRead 0 2 := ⟨⟨(ww_3 214 rfl rfl), (ww_3 215 rfl rfl), (ww_3 216 rfl rfl), ci_X2_quartersRead⟩, cm_X2_quartersRead, cn_X2_quartersRead, by decide, rfl⟩
theorem kf_4_7 : LKF RX4 7 4 0 := ⟨by decide, by decide, (ww_3 224 rfl rfl)⟩
theorem kf_4_13 : LKF RX4 13 4 2 := ⟨by decide, by decide, (ww_3 226 rfl rfl)⟩
theorem kf_4_16 : LKF RX4 16 4 7 := ⟨by decide, by decide, (ww_3 231 rfl rfl)⟩
theorem kf_4_19 : LKF RX4 19 4 16 := ⟨by decide, by decide, (ww_4 0 rfl rfl)⟩
theorem kf_4_22 : LKF RX4 22 4 17 := ⟨by decide, by decide, (ww_4 1 rfl rfl)⟩
theorem kf_4_25 : LKF RX4 25 4 18 := ⟨by decide, by decide, (ww_4 2 rfl rfl)⟩
theorem kf_4_28 : LKF RX4 28 4 20 := ⟨by decide, by decide, (ww_4 4 rfl rfl)⟩
theorem kf_4_31 : LKF RX4 31 4 22 := ⟨by decide, by decide, (ww_4 6 rfl rfl)⟩
theorem kf_4_34 : LKF RX4 34 4 24 := ⟨by decide, by decide, (ww_4 8 rfl rfl)⟩
theorem kf_4_38 : LKF RX4 38 4 25 := ⟨by decide, by decide, (ww_4 9 rfl rfl)⟩
theorem kf_4_41 : LKF RX4 41 4 26 := ⟨by decide, by decide, (ww_4 10 rfl rfl)⟩
theorem kf_4_44 : LKF RX4 44 4 27 := ⟨by decide, by decide, (ww_4 11 rfl rfl)⟩
theorem kq_4_47 : Cond.constantLong RX4 47 (Int64.ofInt (127)) ∈ ww := (ww_4 76 rfl rfl)
theorem cm_X4_in : cOKm mX4_in := (ww_4 79 rfl rfl)
theorem cn_X4_in : cOK mX4_in 3 = true := by decide +kernel
theorem ci_X4_in : Cond.initialized mX4_in.1.cls ∈ ww := (ww_1 5 rfl rfl)
theorem ks_4_49 : CS RX4 49 mX4_in 3 := ⟨⟨(ww_4 77 rfl rfl), (ww_4 78 rfl rfl), ci_X4_in⟩, cm_X4_in, cn_X4_in⟩
theorem kf_4_53 : LKF RX4 53 4 8 := ⟨by decide, by decide, (ww_3 232 rfl rfl)⟩
theorem kf_4_57 : LKF RX4 57 4 10 := ⟨by decide, by decide, (ww_3 234 rfl rfl)⟩
theorem kf_4_60 : LKF RX4 60 4 13 := ⟨by decide, by decide, (ww_3 237 rfl rfl)⟩
theorem kf_4_63 : LKF RX4 63 4 11 := ⟨by decide, by decide, (ww_3 235 rfl rfl)⟩
theorem kf_4_66 : LKF RX4 66 4 14 := ⟨by decide, by decide, (ww_3 238 rfl rfl)⟩
theorem kf_4_69 : LKF RX4 69 4 12 := ⟨by decide, by decide, (ww_3 236 rfl rfl)⟩
theorem cm_X4_byteAt : cOKm mX4_byteAt := (ww_4 95 rfl rfl)
theorem cn_X4_byteAt : cOK mX4_byteAt 1 = true := by decide +kernel
theorem ci_X4_byteAt : Cond.initialized mX4_byteAt.1.cls ∈ ww := (ww_1 5 rfl rfl)
theorem kv_4_72 : CV RX4 72 mX4_byteAt 1 4 := ⟨⟨(ww_4 92 rfl rfl), (ww_4 94 rfl rfl), (ww_i 10 rfl rfl), ci_X4_byteAt⟩, cm_X4_byteAt, cn_X4_byteAt, by decide, rfl⟩
theorem kf_4_76 : LKF RX4 76 4 15 := ⟨by decide, by decide, (ww_3 239 rfl rfl)⟩
theorem kq_4_79 : Cond.constantLong RX4 79 (Int64.ofInt (97)) ∈ ww := (ww_4 96 rfl rfl)
theorem kq_4_81 : Cond.constantLong RX4 81 (Int64.ofInt (122)) ∈ ww := (ww_4 97 rfl rfl)
theorem kq_4_83 : Cond.constantLong RX4 83 (Int64.ofInt (48)) ∈ ww := (ww_4 98 rfl rfl)
theorem kq_4_85 : Cond.constantLong RX4 85 (Int64.ofInt (57)) ∈ ww := (ww_4 99 rfl rfl)
theorem cm_X4_fails : cOKm mX4_fails := (ww_4 103 rfl rfl)
theorem cn_X4_fails : cOK mX4_fails 1 = true := by decide +kernel
theorem ci_X4_fails : Cond.initialized mX4_fails.1.cls ∈ ww := (ww_1 5 rfl rfl)
theorem kv_4_87 : CV RX4 87 mX4_fails 1 4 := ⟨⟨(ww_4 100 rfl rfl), (ww_4 102 rfl rfl), (ww_i 11 rfl rfl), ci_X4_fails⟩, cm_X4_fails, cn_X4_fails, by decide, rfl⟩
theorem cm_X4_step : cOKm mX4_step := (ww_4 91 rfl rfl)
theorem cn_X4_step : cOK mX4_step 0 = true := by decide +kernel
theorem ci_X4_step : Cond.initialized mX4_step.1.cls ∈ ww := (ww_1 5 rfl rfl)
theorem kv_4_91 : CV RX4 91 mX4_step 0 4 := ⟨⟨(ww_4 88 rfl rfl), (ww_4 90 rfl rfl), (ww_i 9 rfl rfl), ci_X4_step⟩, cm_X4_step, cn_X4_step, by decide, rfl⟩
theorem kf_4_94 : LKF RX4 94 4 4 := ⟨by decide, by decide, (ww_3 228 rfl rfl)⟩
theorem cm_X4_other : cOKm mX4_other := (ww_4 120 rfl rfl)
theorem cn_X4_other : cOK mX4_other 3 = true := by decide +kernel
theorem ci_X4_other : Cond.initialized mX4_other.1.cls ∈ ww := (ww_1 5 rfl rfl)
theorem kv_4_97 : CV RX4 97 mX4_other 3 4 := ⟨⟨(ww_4 117 rfl rfl), (ww_4 119 rfl rfl), (ww_i 15 rfl rfl), ci_X4_other⟩, cm_X4_other, cn_X4_other, by decide, rfl⟩
theorem kf_4_101 : LKF RX4 101 4 6 := ⟨by decide, by decide, (ww_3 230 rfl rfl)⟩
theorem kf_4_104 : LKF RX4 104 4 3 := ⟨by decide, by decide, (ww_3 227 rfl rfl)⟩
theorem cm_X4_readRota : cOKm mX4_readRota := (ww_4 124 rfl rfl)
theorem cn_X4_readRota : cOK mX4_readRota 0 = true := by decide +kernel
theorem ci_X4_readRota : Cond.initialized mX4_readRota.1.cls ∈ ww := (ww_1 5 rfl rfl)
theorem kv_4_107 : CV RX4 107 mX4_readRota 0 4 := ⟨⟨(ww_4 121 rfl rfl), (ww_4 123 rfl rfl), (ww_i 16 rfl rfl), ci_X4_readRota⟩, cm_X4_readRota, cn_X4_readRota, by decide, rfl⟩
theorem cm_X4_nameHere : cOKm mX4_nameHere := (ww_4 111 rfl rfl)
theorem cn_X4_nameHere : cOK mX4_nameHere 0 = true := by decide +kernel
theorem ci_X4_nameHere : Cond.initialized mX4_nameHere.1.cls ∈ ww := (ww_1 5 rfl rfl)
theorem kv_4_110 : CV RX4 110 mX4_nameHere 0 4 := ⟨⟨(ww_4 108 rfl rfl), (ww_4 110 rfl rfl), (ww_i 13 rfl rfl), ci_X4_nameHere⟩, cm_X4_nameHere, cn_X4_nameHere, by decide, rfl⟩
theorem kq_4_114 : Cond.constantLong RX4 114 (Int64.ofInt (7)) ∈ ww := (ww_4 112 rfl rfl)
theorem kf_4_116 : LKF RX4 116 4 5 := ⟨by decide, by decide, (ww_3 229 rfl rfl)⟩
theorem cm_X4_readMore : cOKm mX4_readMore := (ww_4 116 rfl rfl)
theorem cn_X4_readMore : cOK mX4_readMore 1 = true := by decide +kernel
theorem ci_X4_readMore : Cond.initialized mX4_readMore.1.cls ∈ ww := (ww_1 5 rfl rfl)
theorem kv_4_119 : CV RX4 119 mX4_readMore 1 4 := ⟨⟨(ww_4 113 rfl rfl), (ww_4 115 rfl rfl), (ww_i 14 rfl rfl), ci_X4_readMore⟩, cm_X4_readMore, cn_X4_readMore, by decide, rfl⟩
theorem cm_X4_readLine : cOKm mX4_readLine := (ww_4 107 rfl rfl)
theorem cn_X4_readLine : cOK mX4_readLine 0 = true := by decide +kernel
theorem ci_X4_readLine : Cond.initialized mX4_readLine.1.cls ∈ ww := (ww_1 5 rfl rfl)
theorem kv_4_122 : CV RX4 122 mX4_readLine 0 4 := ⟨⟨(ww_4 104 rfl rfl), (ww_4 106 rfl rfl), (ww_i 12 rfl rfl), ci_X4_readLine⟩, cm_X4_readLine, cn_X4_readLine, by decide, rfl⟩
theorem kf_4_125 : LKF RX4 125 4 9 := ⟨by decide, by decide, (ww_3 233 rfl rfl)⟩
theorem kf_4_128 : LKF RX4 128 4 1 := ⟨by decide, by decide, (ww_3 225 rfl rfl)⟩
theorem kf_4_131 : LKF RX4 131 4 21 := ⟨by decide, by decide, (ww_4 5 rfl rfl)⟩
theorem kq_4_134 : Cond.constantLong RX4 134 (Int64.ofInt (11)) ∈ ww := (ww_4 181 rfl rfl)
theorem cm_X4_standsIn : cOKm mX4_standsIn := (ww_4 140 rfl rfl)
theorem cn_X4_standsIn : cOK mX4_standsIn 1 = true := by decide +kernel
theorem ci_X4_standsIn : Cond.initialized mX4_standsIn.1.cls ∈ ww := (ww_1 5 rfl rfl)
theorem kv_4_136 : CV RX4 136 mX4_standsIn 1 4 := ⟨⟨(ww_4 137 rfl rfl), (ww_4 139 rfl rfl), (ww_i 18 rfl rfl), ci_X4_standsIn⟩, cm_X4_standsIn, cn_X4_standsIn, by decide, rfl⟩
theorem cm_X4_stoodIn : cOKm mX4_stoodIn := (ww_4 156 rfl rfl)
theorem cn_X4_stoodIn : cOK mX4_stoodIn 1 = true := by decide +kernel
theorem ci_X4_stoodIn : Cond.initialized mX4_stoodIn.1.cls ∈ ww := (ww_1 5 rfl rfl)
theorem kv_4_139 : CV RX4 139 mX4_stoodIn 1 4 := ⟨⟨(ww_4 153 rfl rfl), (ww_4 155 rfl rfl), (ww_i 22 rfl rfl), ci_X4_stoodIn⟩, cm_X4_stoodIn, cn_X4_stoodIn, by decide, rfl⟩
theorem cm_X4_slipIn : cOKm mX4_slipIn := (ww_4 152 rfl rfl)
theorem cn_X4_slipIn : cOK mX4_slipIn 2 = true := by decide +kernel
theorem ci_X4_slipIn : Cond.initialized mX4_slipIn.1.cls ∈ ww := (ww_1 5 rfl rfl)
theorem kv_4_142 : CV RX4 142 mX4_slipIn 2 4 := ⟨⟨(ww_4 149 rfl rfl), (ww_4 151 rfl rfl), (ww_i 21 rfl rfl), ci_X4_slipIn⟩, cm_X4_slipIn, cn_X4_slipIn, by decide, rfl⟩
theorem cm_X4_doneIn : cOKm mX4_doneIn := (ww_4 164 rfl rfl)
theorem cn_X4_doneIn : cOK mX4_doneIn 1 = true := by decide +kernel
theorem ci_X4_doneIn : Cond.initialized mX4_doneIn.1.cls ∈ ww := (ww_1 5 rfl rfl)
theorem kv_4_146 : CV RX4 146 mX4_doneIn 1 4 := ⟨⟨(ww_4 161 rfl rfl), (ww_4 163 rfl rfl), (ww_i 24 rfl rfl), ci_X4_doneIn⟩, cm_X4_doneIn, cn_X4_doneIn, by decide, rfl⟩
theorem cm_X4_laysReads : cOKm mX4_laysReads := (ww_4 148 rfl rfl)
theorem cn_X4_laysReads : cOK mX4_laysReads 0 = true := by decide +kernel
theorem ci_X4_laysReads : Cond.initialized mX4_laysReads.1.cls ∈ ww := (ww_1 5 rfl rfl)
theorem kv_4_149 : CV RX4 149 mX4_laysReads 0 4 := ⟨⟨(ww_4 145 rfl rfl), (ww_4 147 rfl rfl), (ww_i 20 rfl rfl), ci_X4_laysReads⟩, cm_X4_laysReads, cn_X4_laysReads, by decide, rfl⟩
theorem cm_X4_harmOf : cOKm mX4_harmOf := (ww_4 160 rfl rfl)
theorem cn_X4_harmOf : cOK mX4_harmOf 1 = true := by decide +kernel
theorem ci_X4_harmOf : Cond.initialized mX4_harmOf.1.cls ∈ ww := (ww_1 5 rfl rfl)
theorem kv_4_152 : CV RX4 152 mX4_harmOf 1 4 := ⟨⟨(ww_4 157 rfl rfl), (ww_4 159 rfl rfl), (ww_i 23 rfl rfl), ci_X4_harmOf⟩, cm_X4_harmOf, cn_X4_harmOf, by decide, rfl⟩
theorem cm_X4_hoursOf : cOKm mX4_hoursOf := (ww_4 136 rfl rfl)
theorem cn_X4_hoursOf : cOK mX4_hoursOf 1 = true := by decide +kernel
theorem ci_X4_hoursOf : Cond.initialized mX4_hoursOf.1.cls ∈ ww := (ww_1 5 rfl rfl)
theorem kv_4_155 : CV RX4 155 mX4_hoursOf 1 4 := ⟨⟨(ww_4 133 rfl rfl), (ww_4 135 rfl rfl), (ww_i 17 rfl rfl), ci_X4_hoursOf⟩, cm_X4_hoursOf, cn_X4_hoursOf, by decide, rfl⟩
theorem cm_X4_harm : cOKm mX4_harm := (ww_4 144 rfl rfl)
theorem cn_X4_harm : cOK mX4_harm 0 = true := by decide +kernel
theorem ci_X4_harm : Cond.initialized mX4_harm.1.cls ∈ ww := (ww_1 5 rfl rfl)
theorem kv_4_158 : CV RX4 158 mX4_harm 0 4 := ⟨⟨(ww_4 141 rfl rfl), (ww_4 143 rfl rfl), (ww_i 19 rfl rfl), ci_X4_harm⟩, cm_X4_harm, cn_X4_harm, by decide, rfl⟩
theorem cm_X4_isMan : cOKm mX4_isMan := (ww_4 172 rfl rfl)
theorem cn_X4_isMan : cOK mX4_isMan 1 = true := by decide +kernel
theorem ci_X4_isMan : Cond.initialized mX4_isMan.1.cls ∈ ww := (ww_1 5 rfl rfl)
theorem kv_4_161 : CV RX4 161 mX4_isMan 1 4 := ⟨⟨(ww_4 169 rfl rfl), (ww_4 171 rfl rfl), (ww_i 25 rfl rfl), ci_X4_isMan⟩, cm_X4_isMan, cn_X4_isMan, by decide, rfl⟩
theorem kq_4_165 : Cond.constantLong RX4 165 (Int64.ofInt (3)) ∈ ww := (ww_4 173 rfl rfl)
theorem cm_X4_isHour : cOKm mX4_isHour := (ww_4 180 rfl rfl)
theorem cn_X4_isHour : cOK mX4_isHour 1 = true := by decide +kernel
theorem ci_X4_isHour : Cond.initialized mX4_isHour.1.cls ∈ ww := (ww_1 5 rfl rfl)
theorem ks_4_167 : CS RX4 167 mX4_isHour 1 := ⟨⟨(ww_4 178 rfl rfl), (ww_4 179 rfl rfl), ci_X4_isHour⟩, cm_X4_isHour, cn_X4_isHour⟩
theorem cm_X4_orNone : cOKm mX4_orNone := (ww_4 184 rfl rfl)
theorem cn_X4_orNone : cOK mX4_orNone 1 = true := by decide +kernel
theorem ci_X4_orNone : Cond.initialized mX4_orNone.1.cls ∈ ww := (ww_1 5 rfl rfl)
theorem ks_4_170 : CS RX4 170 mX4_orNone 1 := ⟨⟨(ww_4 182 rfl rfl), (ww_4 183 rfl rfl), ci_X4_orNone⟩, cm_X4_orNone, cn_X4_orNone⟩
theorem cm_X4_isDeed : cOKm mX4_isDeed := (ww_4 192 rfl rfl)
theorem cn_X4_isDeed : cOK mX4_isDeed 1 = true := by decide +kernel
theorem ci_X4_isDeed : Cond.initialized mX4_isDeed.1.cls ∈ ww := (ww_1 5 rfl rfl)
theorem kv_4_173 : CV RX4 173 mX4_isDeed 1 4 := ⟨⟨(ww_4 189 rfl rfl), (ww_4 191 rfl rfl), (ww_i 26 rfl rfl), ci_X4_isDeed⟩, cm_X4_isDeed, cn_X4_isDeed, by decide, rfl⟩
theorem kq_4_176 : Cond.constantLong RX4 176 (Int64.ofInt (6)) ∈ ww := (ww_4 197 rfl rfl)
theorem cm_X4_puts : cOKm mX4_puts := (ww_4 201 rfl rfl)
theorem cn_X4_puts : cOK mX4_puts 4 = true := by decide +kernel
theorem ci_X4_puts : Cond.initialized mX4_puts.1.cls ∈ ww := (ww_1 5 rfl rfl)
theorem kv_4_178 : CV RX4 178 mX4_puts 4 4 := ⟨⟨(ww_4 198 rfl rfl), (ww_4 200 rfl rfl), (ww_i 27 rfl rfl), ci_X4_puts⟩, cm_X4_puts, cn_X4_puts, by decide, rfl⟩
theorem kq_4_182 : Cond.constantLong RX4 182 (Int64.ofInt (47)) ∈ ww := (ww_4 206 rfl rfl)
theorem kq_4_184 : Cond.constantLong RX4 184 (Int64.ofInt (9)) ∈ ww := (ww_4 207 rfl rfl)
theorem cm_X4_shifts : cOKm mX4_shifts := (ww_4 215 rfl rfl)
theorem cn_X4_shifts : cOK mX4_shifts 2 = true := by decide +kernel
theorem ci_X4_shifts : Cond.initialized mX4_shifts.1.cls ∈ ww := (ww_1 5 rfl rfl)
theorem kv_4_186 : CV RX4 186 mX4_shifts 2 4 := ⟨⟨(ww_4 212 rfl rfl), (ww_4 214 rfl rfl), (ww_i 28 rfl rfl), ci_X4_shifts⟩, cm_X4_shifts, cn_X4_shifts, by decide, rfl⟩
theorem kf_4_189 : LKF RX4 189 4 19 := ⟨by decide, by decide, (ww_4 3 rfl rfl)⟩
theorem kq_4_192 : Cond.constant RX4 192 (Int32.ofInt (1000000)) ∈ ww := (ww_5 16 rfl rfl)
theorem cm_X4_isLess : cOKm mX4_isLess := (ww_5 20 rfl rfl)
theorem cn_X4_isLess : cOK mX4_isLess 1 = true := by decide +kernel
theorem ci_X4_isLess : Cond.initialized mX4_isLess.1.cls ∈ ww := (ww_1 5 rfl rfl)
theorem kv_4_193 : CV RX4 193 mX4_isLess 1 4 := ⟨⟨(ww_5 17 rfl rfl), (ww_5 19 rfl rfl), (ww_i 29 rfl rfl), ci_X4_isLess⟩, cm_X4_isLess, cn_X4_isLess, by decide, rfl⟩
theorem cm_X4_copies : cOKm mX4_copies := (ww_5 36 rfl rfl)
theorem cn_X4_copies : cOK mX4_copies 2 = true := by decide +kernel
theorem ci_X4_copies : Cond.initialized mX4_copies.1.cls ∈ ww := (ww_1 5 rfl rfl)
theorem kv_4_196 : CV RX4 196 mX4_copies 2 4 := ⟨⟨(ww_5 33 rfl rfl), (ww_5 35 rfl rfl), (ww_i 30 rfl rfl), ci_X4_copies⟩, cm_X4_copies, cn_X4_copies, by decide, rfl⟩
theorem kq_4_200 : Cond.constantLong RX4 200 (Int64.ofInt (10)) ∈ ww := (ww_5 41 rfl rfl)
theorem cm_X4_lowest : cOKm mX4_lowest := (ww_5 48 rfl rfl)
theorem cn_X4_lowest : cOK mX4_lowest 3 = true := by decide +kernel
theorem ci_X4_lowest : Cond.initialized mX4_lowest.1.cls ∈ ww := (ww_1 5 rfl rfl)
theorem ks_4_202 : CS RX4 202 mX4_lowest 3 := ⟨⟨(ww_5 46 rfl rfl), (ww_5 47 rfl rfl), ci_X4_lowest⟩, cm_X4_lowest, cn_X4_lowest⟩
theorem cm_X4_byClouds : cOKm mX4_byClouds := (ww_5 45 rfl rfl)
theorem cn_X4_byClouds : cOK mX4_byClouds 3 = true := by decide +kernel
theorem ci_X4_byClouds : Cond.initialized mX4_byClouds.1.cls ∈ ww := (ww_1 5 rfl rfl)
theorem kv_4_206 : CV RX4 206 mX4_byClouds 3 4 := ⟨⟨(ww_5 42 rfl rfl), (ww_5 44 rfl rfl), (ww_i 31 rfl rfl), ci_X4_byClouds⟩, cm_X4_byClouds, cn_X4_byClouds, by decide, rfl⟩
theorem kq_4_210 : Cond.constantLong RX4 210 (Int64.ofInt (-1)) ∈ ww := (ww_5 49 rfl rfl)
theorem cm_X4_isAsSeen : cOKm mX4_isAsSeen := (ww_5 73 rfl rfl)
theorem cn_X4_isAsSeen : cOK mX4_isAsSeen 0 = true := by decide +kernel
theorem ci_X4_isAsSeen : Cond.initialized mX4_isAsSeen.1.cls ∈ ww := (ww_1 5 rfl rfl)
theorem kv_4_212 : CV RX4 212 mX4_isAsSeen 0 4 := ⟨⟨(ww_5 70 rfl rfl), (ww_5 72 rfl rfl), (ww_i 33 rfl rfl), ci_X4_isAsSeen⟩, cm_X4_isAsSeen, cn_X4_isAsSeen, by decide, rfl⟩
theorem cm_X4_leansOf : cOKm mX4_leansOf := (ww_5 69 rfl rfl)
theorem cn_X4_leansOf : cOK mX4_leansOf 1 = true := by decide +kernel
theorem ci_X4_leansOf : Cond.initialized mX4_leansOf.1.cls ∈ ww := (ww_1 5 rfl rfl)
theorem kv_4_216 : CV RX4 216 mX4_leansOf 1 4 := ⟨⟨(ww_5 66 rfl rfl), (ww_5 68 rfl rfl), (ww_i 32 rfl rfl), ci_X4_leansOf⟩, cm_X4_leansOf, cn_X4_leansOf, by decide, rfl⟩
theorem cm_X4_bitsOf : cOKm mX4_bitsOf := (ww_5 84 rfl rfl)
theorem cn_X4_bitsOf : cOK mX4_bitsOf 1 = true := by decide +kernel
theorem ci_X4_bitsOf : Cond.initialized mX4_bitsOf.1.cls ∈ ww := (ww_1 5 rfl rfl)
theorem ks_4_219 : CS RX4 219 mX4_bitsOf 1 := ⟨⟨(ww_5 82 rfl rfl), (ww_5 83 rfl rfl), ci_X4_bitsOf⟩, cm_X4_bitsOf, cn_X4_bitsOf⟩
theorem kf_4_222 : LKF RX4 222 4 23 := ⟨by decide, by decide, (ww_4 7 rfl rfl)⟩
theorem kq_4_225 : Cond.constant RX4 225 (Int32.ofInt (1103515245)) ∈ ww := (ww_5 94 rfl rfl)
theorem kq_4_226 : Cond.constantLong RX4 226 (Int64.ofInt (40)) ∈ ww := (ww_5 89 rfl rfl)
theorem cm_X4_draws : cOKm mX4_draws := (ww_5 93 rfl rfl)
theorem cn_X4_draws : cOK mX4_draws 1 = true := by decide +kernel
theorem ci_X4_draws : Cond.initialized mX4_draws.1.cls ∈ ww := (ww_1 5 rfl rfl)
theorem kv_4_228 : CV RX4 228 mX4_draws 1 4 := ⟨⟨(ww_5 90 rfl rfl), (ww_5 92 rfl rfl), (ww_i 34 rfl rfl), ci_X4_draws⟩, cm_X4_draws, cn_X4_draws, by decide, rfl⟩
theorem kq_4_231 : Cond.constantLong RX4 231 (Int64.ofInt (2)) ∈ ww := (ww_5 107 rfl rfl)
theorem kq_4_233 : Cond.constantLong RX4 233 (Int64.ofInt (20)) ∈ ww := (ww_5 116 rfl rfl)
theorem kf_4_235 : LKF RX4 235 4 28 := ⟨by decide, by decide, (ww_4 12 rfl rfl)⟩
