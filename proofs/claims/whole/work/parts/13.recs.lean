abbrev mX0_init : aw_MR := (yX0_init, cX0_init, 1, none, 0, 1, 20, 2, 16, true)
abbrev mX0_push : aw_MR := (yX0_push, cX0_push, 3, none, 0, 0, 0, 0, 0, false)
abbrev mX1_init : aw_MR := (yX1_init, cX1_init, 4, none, 1, 1, 20, 1, 8, true)
abbrev mX1_weigh : aw_MR := (yX1_weigh, cX1_weigh, 6, none, 1, 3, 77, 0, 0, false)
abbrev mX1_weightOf : aw_MR := (yX1_weightOf, cX1_weightOf, 6, some .long, 1, 0, 0, 0, 0, false)
abbrev mX1_addWeight : aw_MR := (yX1_addWeight, cX1_addWeight, 4, none, 1, 0, 0, 0, 0, false)
abbrev mX1_reduce : aw_MR := (yX1_reduce, cX1_reduce, 3, none, 1, 0, 0, 0, 0, false)
abbrev mX1_drawn : aw_MR := (yX1_drawn, cX1_drawn, 5, some .int, 1, 3, 77, 0, 0, false)
abbrev mX2_init : aw_MR := (yX2_init, cX2_init, 1, none, 2, 1, 20, 3, 192, true)
abbrev mX2_fill : aw_MR := (yX2_fill, cX2_fill, 8, none, 2, 2, 43, 0, 0, false)
abbrev mX2_shorten : aw_MR := (yX2_shorten, cX2_shorten, 3, none, 2, 1, 21, 0, 0, false)
abbrev mX2_addUp : aw_MR := (yX2_addUp, cX2_addUp, 6, none, 2, 0, 0, 0, 0, false)
abbrev mX2_firstTurn : aw_MR := (yX2_firstTurn, cX2_firstTurn, 5, some .int, 2, 0, 0, 0, 0, false)
abbrev mX2_step : aw_MR := (yX2_step, cX2_step, 3, some .int, 2, 0, 0, 0, 0, false)
abbrev mX2_distance : aw_MR := (yX2_distance, cX2_distance, 4, some .int, 2, 0, 0, 0, 0, false)
abbrev mX2_turn : aw_MR := (yX2_turn, cX2_turn, 3, some .int, 2, 0, 0, 0, 0, false)
abbrev mX3_init : aw_MR := (yX3_init, cX3_init, 4, none, 3, 1, 20, 5, 30, true)
abbrev mX3_push : aw_MR := (yX3_push, cX3_push, 4, none, 3, 0, 0, 0, 0, false)
abbrev mX3_trialFits : aw_MR := (yX3_trialFits, cX3_trialFits, 2, some .boolean, 3, 3, 77, 0, 0, false)
abbrev mX3_answersThatNeverWere : aw_MR := (yX3_answersThatNeverWere, cX3_answersThatNeverWere, 3, some .int, 3, 4, 98, 0, 0, false)
abbrev mX3_sortsOf : aw_MR := (yX3_sortsOf, cX3_sortsOf, 4, some .int, 3, 4, 98, 0, 0, false)
abbrev mX3_strengthsOf : aw_MR := (yX3_strengthsOf, cX3_strengthsOf, 6, none, 3, 4, 98, 0, 0, false)
abbrev mX3_hourToLook : aw_MR := (yX3_hourToLook, cX3_hourToLook, 5, some .int, 3, 2, 47, 0, 0, false)
abbrev mX3_mostAlike : aw_MR := (yX3_mostAlike, cX3_mostAlike, 6, some .int, 3, 1, 22, 0, 0, false)
abbrev mX3_placeOfFitting : aw_MR := (yX3_placeOfFitting, cX3_placeOfFitting, 3, some .int, 3, 0, 0, 0, 0, false)
abbrev mX4_init : aw_MR := (yX4_init, cX4_init, 1, none, 4, 1, 20, 5, 264, true)
abbrev mX4_clear : aw_MR := (yX4_clear, cX4_clear, 2, none, 4, 0, 0, 0, 0, false)
abbrev mX4_note : aw_MR := (yX4_note, cX4_note, 7, none, 4, 0, 0, 0, 0, false)
abbrev mX4_lastStep : aw_MR := (yX4_lastStep, cX4_lastStep, 5, some .int, 4, 0, 0, 0, 0, false)
abbrev mX5_init : aw_MR := (yX5_init, cX5_init, 4, none, 5, 2, 40, 4, 195, true)
abbrev mX5_leastStrength : aw_MR := (yX5_leastStrength, cX5_leastStrength, 4, some .int, 5, 3, 77, 0, 0, false)
abbrev mX5_swapQuestions : aw_MR := (yX5_swapQuestions, cX5_swapQuestions, 3, none, 5, 4, 100, 0, 0, false)
abbrev mX5_postpone : aw_MR := (yX5_postpone, cX5_postpone, 3, none, 5, 4, 100, 0, 0, false)
abbrev mX5_flatten : aw_MR := (yX5_flatten, cX5_flatten, 3, none, 5, 4, 100, 0, 0, false)
abbrev mX5_begin : aw_MR := (yX5_begin, cX5_begin, 1, none, 5, 1, 22, 0, 0, false)
abbrev mX5_weigh : aw_MR := (yX5_weigh, cX5_weigh, 4, none, 5, 3, 77, 0, 0, false)
abbrev mX6_init : aw_MR := (yX6_init, cX6_init, 1, none, 6, 2, 40, 14, 333, true)
abbrev mX6_play : aw_MR := (yX6_play, cX6_play, 5, none, 6, 2, 53, 0, 0, false)
abbrev mX6_begin : aw_MR := (yX6_begin, cX6_begin, 3, none, 6, 1, 21, 0, 0, false)
abbrev mX6_soonest : aw_MR := (yX6_soonest, cX6_soonest, 3, some .int, 6, 1, 21, 0, 0, false)
abbrev mX6_gather : aw_MR := (yX6_gather, cX6_gather, 3, none, 6, 0, 0, 0, 0, false)
abbrev mX6_settle : aw_MR := (yX6_settle, cX6_settle, 8, none, 6, 1, 26, 0, 0, false)
abbrev mX6_isTold : aw_MR := (yX6_isTold, cX6_isTold, 4, some .boolean, 6, 0, 0, 0, 0, false)
abbrev mX6_stayBehind : aw_MR := (yX6_stayBehind, cX6_stayBehind, 3, some .int, 6, 0, 0, 0, 0, false)
abbrev mX6_whoIs : aw_MR := (yX6_whoIs, cX6_whoIs, 4, some .int, 6, 0, 0, 0, 0, false)
abbrev mX6_howMany : aw_MR := (yX6_howMany, cX6_howMany, 2, some .int, 6, 1, 23, 0, 0, false)
abbrev mX6_allArrivals : aw_MR := (yX6_allArrivals, cX6_allArrivals, 3, some .int, 6, 0, 0, 0, 0, false)
abbrev mX6_mostArrivals : aw_MR := (yX6_mostArrivals, cX6_mostArrivals, 4, some .int, 6, 0, 0, 0, 0, false)
abbrev mX7_init : aw_MR := (yX7_init, cX7_init, 3, none, 7, 1, 20, 6, 48, true)
abbrev mX7_take : aw_MR := (yX7_take, cX7_take, 3, none, 7, 1, 23, 0, 0, false)
abbrev mX7_part : aw_MR := (yX7_part, cX7_part, 3, some .int, 7, 0, 0, 0, 0, false)
abbrev mX7_become : aw_MR := (yX7_become, cX7_become, 3, none, 7, 0, 0, 0, 0, false)
abbrev mX7_tells : aw_MR := (yX7_tells, cX7_tells, 5, some .boolean, 7, 0, 0, 0, 0, false)
abbrev mX7_swapQuestions : aw_MR := (yX7_swapQuestions, cX7_swapQuestions, 5, none, 7, 0, 0, 0, 0, false)
abbrev mX8_init : aw_MR := (yX8_init, cX8_init, 1, none, 8, 1, 20, 1, 60, true)
abbrev mX8_renew : aw_MR := (yX8_renew, cX8_renew, 4, none, 8, 0, 0, 0, 0, false)
abbrev mX8_put : aw_MR := (yX8_put, cX8_put, 3, none, 8, 0, 0, 0, 0, false)
abbrev mX8_has : aw_MR := (yX8_has, cX8_has, 3, some .boolean, 8, 0, 0, 0, 0, false)
abbrev mX9_init : aw_MR := (yX9_init, cX9_init, 3, none, 9, 1, 21, 1, 60, true)
abbrev mX9_isFull : aw_MR := (yX9_isFull, cX9_isFull, 1, some .boolean, 9, 0, 0, 0, 0, false)
abbrev mX9_push : aw_MR := (yX9_push, cX9_push, 2, none, 9, 2, 48, 0, 0, false)
abbrev mX9_cutTo : aw_MR := (yX9_cutTo, cX9_cutTo, 2, none, 9, 2, 48, 0, 0, false)
abbrev mX9_judge : aw_MR := (yX9_judge, cX9_judge, 4, none, 9, 1, 25, 0, 0, false)
abbrev mX9_fits : aw_MR := (yX9_fits, cX9_fits, 6, some .boolean, 9, 0, 0, 0, 0, false)
abbrev mX9_number : aw_MR := (yX9_number, cX9_number, 4, some .int, 9, 0, 0, 0, 0, false)
abbrev mX10_init : aw_MR := (yX10_init, cX10_init, 4, none, 10, 3, 77, 77, 1672, true)
abbrev mX10_type : aw_MR := (yX10_type, cX10_type, 4, some .int, 10, 4, 98, 0, 0, false)
abbrev mX10_wipe : aw_MR := (yX10_wipe, cX10_wipe, 4, some .int, 10, 4, 98, 0, 0, false)
abbrev mX10_undo : aw_MR := (yX10_undo, cX10_undo, 3, some .int, 10, 4, 98, 0, 0, false)
abbrev mX10_fault : aw_MR := (yX10_fault, cX10_fault, 2, some .int, 10, 1, 21, 0, 0, false)
abbrev mX10_way : aw_MR := (yX10_way, cX10_way, 3, some .int, 10, 1, 23, 0, 0, false)
abbrev mX10_carter : aw_MR := (yX10_carter, cX10_carter, 3, some .int, 10, 2, 42, 0, 0, false)
abbrev mX10_late : aw_MR := (yX10_late, cX10_late, 4, some .int, 10, 3, 77, 0, 0, false)
abbrev mX10_answer : aw_MR := (yX10_answer, cX10_answer, 3, some .int, 10, 3, 77, 0, 0, false)
abbrev mX10_back : aw_MR := (yX10_back, cX10_back, 1, some .int, 10, 3, 77, 0, 0, false)
abbrev mX10_read : aw_MR := (yX10_read, cX10_read, 7, some .int, 10, 3, 77, 0, 0, false)
abbrev mX10_at : aw_MR := (yX10_at, cX10_at, 4, some .int, 10, 2, 49, 0, 0, false)
abbrev mX10_ends : aw_MR := (yX10_ends, cX10_ends, 2, some .int, 10, 2, 42, 0, 0, false)
abbrev mX10_far : aw_MR := (yX10_far, cX10_far, 3, some .int, 10, 1, 23, 0, 0, false)
abbrev mX10_who : aw_MR := (yX10_who, cX10_who, 2, some .int, 10, 1, 23, 0, 0, false)
abbrev mX10_met : aw_MR := (yX10_met, cX10_met, 2, some .int, 10, 1, 21, 0, 0, false)
abbrev mX10_busiest : aw_MR := (yX10_busiest, cX10_busiest, 1, some .int, 10, 1, 23, 0, 0, false)
abbrev mX10_needs : aw_MR := (yX10_needs, cX10_needs, 2, some .int, 10, 4, 100, 0, 0, false)
abbrev mX10_lend : aw_MR := (yX10_lend, cX10_lend, 2, some .int, 10, 5, 122, 0, 0, false)
abbrev mX10_delay : aw_MR := (yX10_delay, cX10_delay, 3, some .int, 10, 5, 122, 0, 0, false)
abbrev mX10_level : aw_MR := (yX10_level, cX10_level, 2, some .int, 10, 5, 122, 0, 0, false)
abbrev mX10_seen : aw_MR := (yX10_seen, cX10_seen, 4, some .int, 10, 1, 23, 0, 0, false)
abbrev mX10_forget : aw_MR := (yX10_forget, cX10_forget, 2, some .int, 10, 0, 0, 0, 0, false)
abbrev mX10_never : aw_MR := (yX10_never, cX10_never, 1, some .int, 10, 5, 120, 0, 0, false)
abbrev mX10_sort : aw_MR := (yX10_sort, cX10_sort, 2, some .int, 10, 5, 121, 0, 0, false)
abbrev mX10_force : aw_MR := (yX10_force, cX10_force, 3, some .int, 10, 5, 123, 0, 0, false)
abbrev mX10_ask : aw_MR := (yX10_ask, cX10_ask, 2, some .int, 10, 5, 121, 0, 0, false)
abbrev mX10_rumour : aw_MR := (yX10_rumour, cX10_rumour, 4, some .long, 10, 4, 102, 0, 0, false)
abbrev mX10_market : aw_MR := (yX10_market, cX10_market, 3, some .int, 10, 4, 101, 0, 0, false)
abbrev mX10_sheet : aw_MR := (yX10_sheet, cX10_sheet, 4, some .int, 10, 1, 23, 0, 0, false)
abbrev mX10_lose : aw_MR := (yX10_lose, cX10_lose, 2, some .int, 10, 1, 21, 0, 0, false)
abbrev mX10_lay : aw_MR := (yX10_lay, cX10_lay, 6, some .int, 10, 2, 44, 0, 0, false)
abbrev mX10_get : aw_MR := (yX10_get, cX10_get, 4, some .int, 10, 2, 44, 0, 0, false)
abbrev mX10_copy : aw_MR := (yX10_copy, cX10_copy, 8, some .int, 10, 1, 26, 0, 0, false)
abbrev mX10_write : aw_MR := (yX10_write, cX10_write, 6, some .int, 10, 2, 42, 0, 0, false)
abbrev mX10_count : aw_MR := (yX10_count, cX10_count, 2, some .int, 10, 2, 44, 0, 0, false)
abbrev mX10_digest : aw_MR := (yX10_digest, cX10_digest, 4, some .long, 10, 6, 149, 0, 0, false)
abbrev mX10_digestOfTexts : aw_MR := (yX10_digestOfTexts, cX10_digestOfTexts, 7, some .long, 10, 3, 65, 0, 0, false)
abbrev mX10_digestOfHours : aw_MR := (yX10_digestOfHours, cX10_digestOfHours, 7, some .long, 10, 3, 76, 0, 0, false)
abbrev mX10_digestOfHour : aw_MR := (yX10_digestOfHour, cX10_digestOfHour, 8, some .long, 10, 2, 49, 0, 0, false)
abbrev mX10_digestOfTrials : aw_MR := (yX10_digestOfTrials, cX10_digestOfTrials, 7, some .long, 10, 5, 123, 0, 0, false)
abbrev mX10_digestOfAll : aw_MR := (yX10_digestOfAll, cX10_digestOfAll, 6, some .long, 10, 5, 122, 0, 0, false)
abbrev mX10_mix : aw_MR := (yX10_mix, cX10_mix, 4, some .long, 10, 0, 0, 0, 0, false)
abbrev mX10_within : aw_MR := (yX10_within, cX10_within, 2, some .boolean, 10, 0, 0, 0, 0, false)
abbrev mX10_isCarter : aw_MR := (yX10_isCarter, cX10_isCarter, 2, some .boolean, 10, 1, 21, 0, 0, false)
abbrev mX10_textOf : aw_MR := (yX10_textOf, cX10_textOf, 2, some (.object "QuestionRoad$Text"), 10, 0, 0, 0, 0, false)
abbrev mX10_textChanged : aw_MR := (yX10_textChanged, cX10_textChanged, 2, none, 10, 3, 77, 0, 0, false)
abbrev mX10_found : aw_MR := (yX10_found, cX10_found, 2, some .int, 10, 0, 0, 0, 0, false)
abbrev mX10_itemRefusal : aw_MR := (yX10_itemRefusal, cX10_itemRefusal, 4, some .int, 10, 1, 21, 0, 0, false)
abbrev mX10_behind : aw_MR := (yX10_behind, cX10_behind, 6, some .int, 10, 1, 24, 0, 0, false)
abbrev mX11_init : aw_MR := (yX11_init, cX11_init, 2, none, 11, 1, 20, 23, 2142, true)
abbrev mX11_in : aw_MR := (yX11_in, cX11_in, 6, some .boolean, 11, 0, 0, 0, 0, false)
abbrev mX11_no : aw_MR := (yX11_no, cX11_no, 1, some .long, 11, 0, 0, 0, 0, false)
abbrev mX11_isTwo : aw_MR := (yX11_isTwo, cX11_isTwo, 1, some .boolean, 11, 1, 25, 0, 0, false)
abbrev mX11_isIn : aw_MR := (yX11_isIn, cX11_isIn, 2, some .boolean, 11, 0, 0, 0, 0, false)
abbrev mX11_ones : aw_MR := (yX11_ones, cX11_ones, 3, some .int, 11, 0, 0, 0, 0, false)
abbrev mX11_lesser : aw_MR := (yX11_lesser, cX11_lesser, 2, some .int, 11, 0, 0, 0, 0, false)
abbrev mX11_greater : aw_MR := (yX11_greater, cX11_greater, 2, some .int, 11, 0, 0, 0, 0, false)
abbrev mX11_part : aw_MR := (yX11_part, cX11_part, 11, some .long, 11, 0, 0, 0, 0, false)
abbrev mX11_finds : aw_MR := (yX11_finds, cX11_finds, 2, some .int, 11, 0, 0, 0, 0, false)
abbrev mX11_isSheet : aw_MR := (yX11_isSheet, cX11_isSheet, 1, some .boolean, 11, 1, 25, 0, 0, false)
abbrev mX11_sheet : aw_MR := (yX11_sheet, cX11_sheet, 5, some .int, 11, 2, 45, 0, 0, false)
abbrev mX11_lose : aw_MR := (yX11_lose, cX11_lose, 2, some .int, 11, 2, 45, 0, 0, false)
abbrev mX11_lacks : aw_MR := (yX11_lacks, cX11_lacks, 4, some .int, 11, 1, 25, 0, 0, false)
abbrev mX11_cut : aw_MR := (yX11_cut, cX11_cut, 2, some .int, 11, 0, 0, 0, 0, false)
abbrev mX11_lay : aw_MR := (yX11_lay, cX11_lay, 6, some .int, 11, 2, 48, 0, 0, false)
abbrev mX11_get : aw_MR := (yX11_get, cX11_get, 4, some .int, 11, 2, 48, 0, 0, false)
abbrev mX11_copy : aw_MR := (yX11_copy, cX11_copy, 7, some .int, 11, 2, 45, 0, 0, false)
abbrev mX11_type : aw_MR := (yX11_type, cX11_type, 3, some .int, 11, 2, 45, 0, 0, false)
abbrev mX11_wipe : aw_MR := (yX11_wipe, cX11_wipe, 3, some .int, 11, 2, 45, 0, 0, false)
abbrev mX11_undo : aw_MR := (yX11_undo, cX11_undo, 2, some .int, 11, 2, 45, 0, 0, false)
abbrev mX11_placeOf : aw_MR := (yX11_placeOf, cX11_placeOf, 1, some .int, 11, 1, 25, 0, 0, false)
abbrev mX11_figureOf : aw_MR := (yX11_figureOf, cX11_figureOf, 2, some .int, 11, 1, 25, 0, 0, false)
abbrev mX11_wayOf : aw_MR := (yX11_wayOf, cX11_wayOf, 3, some .int, 11, 2, 46, 0, 0, false)
abbrev mX11_readsWays : aw_MR := (yX11_readsWays, cX11_readsWays, 6, some .int, 11, 3, 68, 0, 0, false)
abbrev mX11_carterOf : aw_MR := (yX11_carterOf, cX11_carterOf, 2, some .int, 11, 2, 46, 0, 0, false)
abbrev mX11_readsCarters : aw_MR := (yX11_readsCarters, cX11_readsCarters, 6, some .int, 11, 3, 67, 0, 0, false)
abbrev mX11_readsText : aw_MR := (yX11_readsText, cX11_readsText, 2, some .int, 11, 4, 93, 0, 0, false)
abbrev mX11_fault : aw_MR := (yX11_fault, cX11_fault, 2, some .int, 11, 5, 114, 0, 0, false)
abbrev mX11_isCarter : aw_MR := (yX11_isCarter, cX11_isCarter, 2, some .boolean, 11, 1, 25, 0, 0, false)
abbrev mX11_isHour : aw_MR := (yX11_isHour, cX11_isHour, 1, some .boolean, 11, 1, 25, 0, 0, false)
abbrev mX11_isPlace : aw_MR := (yX11_isPlace, cX11_isPlace, 1, some .boolean, 11, 1, 25, 0, 0, false)
abbrev mX11_way : aw_MR := (yX11_way, cX11_way, 3, some .int, 11, 4, 93, 0, 0, false)
abbrev mX11_carter : aw_MR := (yX11_carter, cX11_carter, 3, some .int, 11, 4, 92, 0, 0, false)
abbrev mX11_late : aw_MR := (yX11_late, cX11_late, 4, some .int, 11, 1, 25, 0, 0, false)
abbrev mX11_answer : aw_MR := (yX11_answer, cX11_answer, 3, some .int, 11, 2, 45, 0, 0, false)
abbrev mX11_back : aw_MR := (yX11_back, cX11_back, 1, some .int, 11, 0, 0, 0, 0, false)
abbrev mX11_read : aw_MR := (yX11_read, cX11_read, 4, some .int, 11, 3, 67, 0, 0, false)
abbrev mX11_maps : aw_MR := (yX11_maps, cX11_maps, 6, none, 11, 1, 21, 0, 0, false)
abbrev mX11_next : aw_MR := (yX11_next, cX11_next, 4, some .int, 11, 0, 0, 0, 0, false)
abbrev mX11_isAnswer : aw_MR := (yX11_isAnswer, cX11_isAnswer, 5, some .boolean, 11, 1, 21, 0, 0, false)
abbrev mX11_isTold : aw_MR := (yX11_isTold, cX11_isTold, 5, some .boolean, 11, 2, 45, 0, 0, false)
abbrev mX11_stays : aw_MR := (yX11_stays, cX11_stays, 4, none, 11, 0, 0, 0, 0, false)
abbrev mX11_goesOn : aw_MR := (yX11_goesOn, cX11_goesOn, 7, none, 11, 3, 69, 0, 0, false)
abbrev mX11_gathers : aw_MR := (yX11_gathers, cX11_gathers, 4, none, 11, 0, 0, 0, 0, false)
abbrev mX11_keeps : aw_MR := (yX11_keeps, cX11_keeps, 3, none, 11, 0, 0, 0, 0, false)
abbrev mX11_lives : aw_MR := (yX11_lives, cX11_lives, 3, none, 11, 4, 95, 0, 0, false)
abbrev mX11_find : aw_MR := (yX11_find, cX11_find, 1, none, 11, 5, 117, 0, 0, false)
abbrev mX11_at : aw_MR := (yX11_at, cX11_at, 4, some .int, 11, 6, 137, 0, 0, false)
abbrev mX11_ends : aw_MR := (yX11_ends, cX11_ends, 2, some .int, 11, 6, 137, 0, 0, false)
abbrev mX11_farBy : aw_MR := (yX11_farBy, cX11_farBy, 3, some .int, 11, 0, 0, 0, 0, false)
abbrev mX11_far : aw_MR := (yX11_far, cX11_far, 3, some .int, 11, 6, 137, 0, 0, false)
abbrev mX11_whoBy : aw_MR := (yX11_whoBy, cX11_whoBy, 4, some .int, 11, 0, 0, 0, 0, false)
abbrev mX11_who : aw_MR := (yX11_who, cX11_who, 2, some .int, 11, 6, 137, 0, 0, false)
abbrev mX11_met : aw_MR := (yX11_met, cX11_met, 2, some .int, 11, 6, 137, 0, 0, false)
abbrev mX11_busiestNow : aw_MR := (yX11_busiestNow, cX11_busiestNow, 4, some .int, 11, 1, 21, 0, 0, false)
abbrev mX11_busiest : aw_MR := (yX11_busiest, cX11_busiest, 1, some .int, 11, 6, 137, 0, 0, false)
abbrev mX11_comers : aw_MR := (yX11_comers, cX11_comers, 1, some .int, 11, 1, 23, 0, 0, false)
abbrev mX11_needsOf : aw_MR := (yX11_needsOf, cX11_needsOf, 5, some .int, 11, 5, 117, 0, 0, false)
abbrev mX11_needs : aw_MR := (yX11_needs, cX11_needs, 2, some .int, 11, 6, 141, 0, 0, false)
abbrev mX11_lends : aw_MR := (yX11_lends, cX11_lends, 5, none, 11, 0, 0, 0, 0, false)
abbrev mX11_lendBy : aw_MR := (yX11_lendBy, cX11_lendBy, 8, some .int, 11, 5, 117, 0, 0, false)
abbrev mX11_lend : aw_MR := (yX11_lend, cX11_lend, 2, some .int, 11, 6, 144, 0, 0, false)
abbrev mX11_delayOf : aw_MR := (yX11_delayOf, cX11_delayOf, 8, some .int, 11, 5, 117, 0, 0, false)
abbrev mX11_delay : aw_MR := (yX11_delay, cX11_delay, 3, some .int, 11, 6, 144, 0, 0, false)
abbrev mX11_levelBy : aw_MR := (yX11_levelBy, cX11_levelBy, 7, some .int, 11, 5, 117, 0, 0, false)
abbrev mX11_level : aw_MR := (yX11_level, cX11_level, 2, some .int, 11, 6, 143, 0, 0, false)
abbrev mX11_seen : aw_MR := (yX11_seen, cX11_seen, 4, some .int, 11, 2, 45, 0, 0, false)
abbrev mX11_forget : aw_MR := (yX11_forget, cX11_forget, 2, some .int, 11, 0, 0, 0, 0, false)
abbrev mX11_isSeen : aw_MR := (yX11_isSeen, cX11_isSeen, 4, some .boolean, 11, 5, 117, 0, 0, false)
abbrev mX11_neverNow : aw_MR := (yX11_neverNow, cX11_neverNow, 3, some .int, 11, 6, 140, 0, 0, false)
abbrev mX11_never : aw_MR := (yX11_never, cX11_never, 1, some .int, 11, 7, 162, 0, 0, false)
abbrev mX11_sortOf : aw_MR := (yX11_sortOf, cX11_sortOf, 6, some .int, 11, 6, 140, 0, 0, false)
abbrev mX11_sort : aw_MR := (yX11_sort, cX11_sort, 2, some .int, 11, 7, 165, 0, 0, false)
abbrev mX11_forceOf : aw_MR := (yX11_forceOf, cX11_forceOf, 9, some .int, 11, 6, 140, 0, 0, false)
abbrev mX11_force : aw_MR := (yX11_force, cX11_force, 3, some .int, 11, 7, 168, 0, 0, false)
abbrev mX11_alike : aw_MR := (yX11_alike, cX11_alike, 7, some .int, 11, 1, 21, 0, 0, false)
abbrev mX11_askOf : aw_MR := (yX11_askOf, cX11_askOf, 5, some .int, 11, 7, 165, 0, 0, false)
abbrev mX11_ask : aw_MR := (yX11_ask, cX11_ask, 2, some .int, 11, 8, 189, 0, 0, false)
abbrev mX11_rumourOf : aw_MR := (yX11_rumourOf, cX11_rumourOf, 10, some .long, 11, 5, 117, 0, 0, false)
abbrev mX11_rumour : aw_MR := (yX11_rumour, cX11_rumour, 4, some .long, 11, 6, 146, 0, 0, false)
abbrev mX11_lot : aw_MR := (yX11_lot, cX11_lot, 2, some .int, 11, 0, 0, 0, 0, false)
abbrev mX11_marketOf : aw_MR := (yX11_marketOf, cX11_marketOf, 4, some .int, 11, 5, 117, 0, 0, false)
abbrev mX11_market : aw_MR := (yX11_market, cX11_market, 3, some .int, 11, 6, 140, 0, 0, false)
abbrev mX11_write : aw_MR := (yX11_write, cX11_write, 5, some .int, 11, 6, 137, 0, 0, false)
abbrev mX11_allArrivals : aw_MR := (yX11_allArrivals, cX11_allArrivals, 3, some .int, 11, 0, 0, 0, 0, false)
abbrev mX11_count : aw_MR := (yX11_count, cX11_count, 2, some .int, 11, 6, 137, 0, 0, false)
abbrev mX11_tellsHour : aw_MR := (yX11_tellsHour, cX11_tellsHour, 8, some .long, 11, 0, 0, 0, 0, false)
abbrev mX11_tellsCarter : aw_MR := (yX11_tellsCarter, cX11_tellsCarter, 7, some .long, 11, 8, 189, 0, 0, false)
abbrev mX11_digest : aw_MR := (yX11_digest, cX11_digest, 4, some .long, 11, 9, 215, 0, 0, false)
abbrev mJ6_bitCount_0f7a4 : aw_MR := (yJ6_bitCount_0f7a4, cJ6_bitCount_0f7a4, 1, some .int, 14, 0, 0, 0, 0, false)
set_option maxRecDepth 100000 in
theorem okX0_init : aw_ok mX0_init := ⟨by decide +kernel, rfl, fun _ => rfl, aw_at 132 (by rfl) rfl, aw_init (c := 0) (by decide), ⟨by decide +kernel, by decide +kernel⟩⟩
set_option maxRecDepth 100000 in
theorem okX0_push : aw_ok mX0_push := ⟨by decide +kernel, rfl, (fun z => by cases z), aw_at 623 (by rfl) rfl, aw_init (c := 0) (by decide), ⟨by decide +kernel, by decide +kernel⟩⟩
set_option maxRecDepth 100000 in
theorem okX1_init : aw_ok mX1_init := ⟨by decide +kernel, rfl, fun _ => rfl, aw_at 461 (by rfl) rfl, aw_init (c := 1) (by decide), ⟨by decide +kernel, by decide +kernel⟩⟩
set_option maxRecDepth 100000 in
theorem okX1_weigh : aw_ok mX1_weigh := ⟨by decide +kernel, rfl, (fun z => by cases z), aw_at 813 (by rfl) rfl, aw_init (c := 1) (by decide), ⟨by decide +kernel, by decide +kernel⟩⟩
set_option maxRecDepth 100000 in
theorem okX1_weightOf : aw_ok mX1_weightOf := ⟨by decide +kernel, rfl, (fun z => by cases z), aw_at 818 (by rfl) rfl, aw_init (c := 1) (by decide), ⟨by decide +kernel, by decide +kernel⟩⟩
set_option maxRecDepth 100000 in
theorem okX1_addWeight : aw_ok mX1_addWeight := ⟨by decide +kernel, rfl, (fun z => by cases z), aw_at 823 (by rfl) rfl, aw_init (c := 1) (by decide), ⟨by decide +kernel, by decide +kernel⟩⟩
set_option maxRecDepth 100000 in
theorem okX1_reduce : aw_ok mX1_reduce := ⟨by decide +kernel, rfl, (fun z => by cases z), aw_at 827 (by rfl) rfl, aw_init (c := 1) (by decide), ⟨by decide +kernel, by decide +kernel⟩⟩
set_option maxRecDepth 100000 in
theorem okX1_drawn : aw_ok mX1_drawn := ⟨by decide +kernel, rfl, (fun z => by cases z), aw_at 836 (by rfl) rfl, aw_init (c := 1) (by decide), ⟨by decide +kernel, by decide +kernel⟩⟩
set_option maxRecDepth 100000 in
theorem okX2_init : aw_ok mX2_init := ⟨by decide +kernel, rfl, fun _ => rfl, aw_at 156 (by rfl) rfl, aw_init (c := 2) (by decide), ⟨by decide +kernel, by decide +kernel⟩⟩
set_option maxRecDepth 100000 in
theorem okX2_fill : aw_ok mX2_fill := ⟨by decide +kernel, rfl, (fun z => by cases z), aw_at 230 (by rfl) rfl, aw_init (c := 2) (by decide), ⟨by decide +kernel, by decide +kernel⟩⟩
set_option maxRecDepth 100000 in
theorem okX2_shorten : aw_ok mX2_shorten := ⟨by decide +kernel, rfl, (fun z => by cases z), aw_at 238 (by rfl) rfl, aw_init (c := 2) (by decide), ⟨by decide +kernel, by decide +kernel⟩⟩
set_option maxRecDepth 100000 in
theorem okX2_addUp : aw_ok mX2_addUp := ⟨by decide +kernel, rfl, (fun z => by cases z), aw_at 245 (by rfl) rfl, aw_init (c := 2) (by decide), ⟨by decide +kernel, by decide +kernel⟩⟩
set_option maxRecDepth 100000 in
theorem okX2_firstTurn : aw_ok mX2_firstTurn := ⟨by decide +kernel, rfl, (fun z => by cases z), aw_at 249 (by rfl) rfl, aw_init (c := 2) (by decide), ⟨by decide +kernel, by decide +kernel⟩⟩
set_option maxRecDepth 100000 in
theorem okX2_step : aw_ok mX2_step := ⟨by decide +kernel, rfl, (fun z => by cases z), aw_at 361 (by rfl) rfl, aw_init (c := 2) (by decide), ⟨by decide +kernel, by decide +kernel⟩⟩
set_option maxRecDepth 100000 in
theorem okX2_distance : aw_ok mX2_distance := ⟨by decide +kernel, rfl, (fun z => by cases z), aw_at 659 (by rfl) rfl, aw_init (c := 2) (by decide), ⟨by decide +kernel, by decide +kernel⟩⟩
set_option maxRecDepth 100000 in
theorem okX2_turn : aw_ok mX2_turn := ⟨by decide +kernel, rfl, (fun z => by cases z), aw_at 357 (by rfl) rfl, aw_init (c := 2) (by decide), ⟨by decide +kernel, by decide +kernel⟩⟩
set_option maxRecDepth 100000 in
theorem okX3_init : aw_ok mX3_init := ⟨by decide +kernel, rfl, fun _ => rfl, aw_at 411 (by rfl) rfl, aw_init (c := 3) (by decide), ⟨by decide +kernel, by decide +kernel⟩⟩
set_option maxRecDepth 100000 in
theorem okX3_push : aw_ok mX3_push := ⟨by decide +kernel, rfl, (fun z => by cases z), aw_at 748 (by rfl) rfl, aw_init (c := 3) (by decide), ⟨by decide +kernel, by decide +kernel⟩⟩
set_option maxRecDepth 100000 in
theorem okX3_trialFits : aw_ok mX3_trialFits := ⟨by decide +kernel, rfl, (fun z => by cases z), aw_at 765 (by rfl) rfl, aw_init (c := 3) (by decide), ⟨by decide +kernel, by decide +kernel⟩⟩
set_option maxRecDepth 100000 in
theorem okX3_answersThatNeverWere : aw_ok mX3_answersThatNeverWere := ⟨by decide +kernel, rfl, (fun z => by cases z), aw_at 760 (by rfl) rfl, aw_init (c := 3) (by decide), ⟨by decide +kernel, by decide +kernel⟩⟩
set_option maxRecDepth 100000 in
theorem okX3_sortsOf : aw_ok mX3_sortsOf := ⟨by decide +kernel, rfl, (fun z => by cases z), aw_at 778 (by rfl) rfl, aw_init (c := 3) (by decide), ⟨by decide +kernel, by decide +kernel⟩⟩
set_option maxRecDepth 100000 in
theorem okX3_strengthsOf : aw_ok mX3_strengthsOf := ⟨by decide +kernel, rfl, (fun z => by cases z), aw_at 786 (by rfl) rfl, aw_init (c := 3) (by decide), ⟨by decide +kernel, by decide +kernel⟩⟩
set_option maxRecDepth 100000 in
theorem okX3_hourToLook : aw_ok mX3_hourToLook := ⟨by decide +kernel, rfl, (fun z => by cases z), aw_at 795 (by rfl) rfl, aw_init (c := 3) (by decide), ⟨by decide +kernel, by decide +kernel⟩⟩
set_option maxRecDepth 100000 in
theorem okX3_mostAlike : aw_ok mX3_mostAlike := ⟨by decide +kernel, rfl, (fun z => by cases z), aw_at 799 (by rfl) rfl, aw_init (c := 3) (by decide), ⟨by decide +kernel, by decide +kernel⟩⟩
set_option maxRecDepth 100000 in
theorem okX3_placeOfFitting : aw_ok mX3_placeOfFitting := ⟨by decide +kernel, rfl, (fun z => by cases z), aw_at 803 (by rfl) rfl, aw_init (c := 3) (by decide), ⟨by decide +kernel, by decide +kernel⟩⟩
set_option maxRecDepth 100000 in
theorem okX4_init : aw_ok mX4_init := ⟨by decide +kernel, rfl, fun _ => rfl, aw_at 260 (by rfl) rfl, aw_init (c := 4) (by decide), ⟨by decide +kernel, by decide +kernel⟩⟩
set_option maxRecDepth 100000 in
theorem okX4_clear : aw_ok mX4_clear := ⟨by decide +kernel, rfl, (fun z => by cases z), aw_at 340 (by rfl) rfl, aw_init (c := 4) (by decide), ⟨by decide +kernel, by decide +kernel⟩⟩
set_option maxRecDepth 100000 in
theorem okX4_note : aw_ok mX4_note := ⟨by decide +kernel, rfl, (fun z => by cases z), aw_at 373 (by rfl) rfl, aw_init (c := 4) (by decide), ⟨by decide +kernel, by decide +kernel⟩⟩
set_option maxRecDepth 100000 in
theorem okX4_lastStep : aw_ok mX4_lastStep := ⟨by decide +kernel, rfl, (fun z => by cases z), aw_at 647 (by rfl) rfl, aw_init (c := 4) (by decide), ⟨by decide +kernel, by decide +kernel⟩⟩
set_option maxRecDepth 100000 in
theorem okX5_init : aw_ok mX5_init := ⟨by decide +kernel, rfl, fun _ => rfl, aw_at 378 (by rfl) rfl, aw_init (c := 5) (by decide), ⟨by decide +kernel, by decide +kernel⟩⟩
set_option maxRecDepth 100000 in
theorem okX5_leastStrength : aw_ok mX5_leastStrength := ⟨by decide +kernel, rfl, (fun z => by cases z), aw_at 687 (by rfl) rfl, aw_init (c := 5) (by decide), ⟨by decide +kernel, by decide +kernel⟩⟩
set_option maxRecDepth 100000 in
theorem okX5_swapQuestions : aw_ok mX5_swapQuestions := ⟨by decide +kernel, rfl, (fun z => by cases z), aw_at 700 (by rfl) rfl, aw_init (c := 5) (by decide), ⟨by decide +kernel, by decide +kernel⟩⟩
set_option maxRecDepth 100000 in
theorem okX5_postpone : aw_ok mX5_postpone := ⟨by decide +kernel, rfl, (fun z => by cases z), aw_at 731 (by rfl) rfl, aw_init (c := 5) (by decide), ⟨by decide +kernel, by decide +kernel⟩⟩
set_option maxRecDepth 100000 in
theorem okX5_flatten : aw_ok mX5_flatten := ⟨by decide +kernel, rfl, (fun z => by cases z), aw_at 739 (by rfl) rfl, aw_init (c := 5) (by decide), ⟨by decide +kernel, by decide +kernel⟩⟩
set_option maxRecDepth 100000 in
theorem okX5_begin : aw_ok mX5_begin := ⟨by decide +kernel, rfl, (fun z => by cases z), aw_at 704 (by rfl) rfl, aw_init (c := 5) (by decide), ⟨by decide +kernel, by decide +kernel⟩⟩
set_option maxRecDepth 100000 in
theorem okX5_weigh : aw_ok mX5_weigh := ⟨by decide +kernel, rfl, (fun z => by cases z), aw_at 712 (by rfl) rfl, aw_init (c := 5) (by decide), ⟨by decide +kernel, by decide +kernel⟩⟩
set_option maxRecDepth 100000 in
theorem okX6_init : aw_ok mX6_init := ⟨by decide +kernel, rfl, fun _ => rfl, aw_at 254 (by rfl) rfl, aw_init (c := 6) (by decide), ⟨by decide +kernel, by decide +kernel⟩⟩
set_option maxRecDepth 100000 in
theorem okX6_play : aw_ok mX6_play := ⟨by decide +kernel, rfl, (fun z => by cases z), aw_at 332 (by rfl) rfl, aw_init (c := 6) (by decide), ⟨by decide +kernel, by decide +kernel⟩⟩
set_option maxRecDepth 100000 in
theorem okX6_begin : aw_ok mX6_begin := ⟨by decide +kernel, rfl, (fun z => by cases z), aw_at 336 (by rfl) rfl, aw_init (c := 6) (by decide), ⟨by decide +kernel, by decide +kernel⟩⟩
set_option maxRecDepth 100000 in
theorem okX6_soonest : aw_ok mX6_soonest := ⟨by decide +kernel, rfl, (fun z => by cases z), aw_at 344 (by rfl) rfl, aw_init (c := 6) (by decide), ⟨by decide +kernel, by decide +kernel⟩⟩
set_option maxRecDepth 100000 in
theorem okX6_gather : aw_ok mX6_gather := ⟨by decide +kernel, rfl, (fun z => by cases z), aw_at 349 (by rfl) rfl, aw_init (c := 6) (by decide), ⟨by decide +kernel, by decide +kernel⟩⟩
set_option maxRecDepth 100000 in
theorem okX6_settle : aw_ok mX6_settle := ⟨by decide +kernel, rfl, (fun z => by cases z), aw_at 353 (by rfl) rfl, aw_init (c := 6) (by decide), ⟨by decide +kernel, by decide +kernel⟩⟩
set_option maxRecDepth 100000 in
theorem okX6_isTold : aw_ok mX6_isTold := ⟨by decide +kernel, rfl, (fun z => by cases z), aw_at 369 (by rfl) rfl, aw_init (c := 6) (by decide), ⟨by decide +kernel, by decide +kernel⟩⟩
set_option maxRecDepth 100000 in
theorem okX6_stayBehind : aw_ok mX6_stayBehind := ⟨by decide +kernel, rfl, (fun z => by cases z), aw_at 770 (by rfl) rfl, aw_init (c := 6) (by decide), ⟨by decide +kernel, by decide +kernel⟩⟩
set_option maxRecDepth 100000 in
theorem okX6_whoIs : aw_ok mX6_whoIs := ⟨by decide +kernel, rfl, (fun z => by cases z), aw_at 667 (by rfl) rfl, aw_init (c := 6) (by decide), ⟨by decide +kernel, by decide +kernel⟩⟩
set_option maxRecDepth 100000 in
theorem okX6_howMany : aw_ok mX6_howMany := ⟨by decide +kernel, rfl, (fun z => by cases z), aw_at 716 (by rfl) rfl, aw_init (c := 6) (by decide), ⟨by decide +kernel, by decide +kernel⟩⟩
set_option maxRecDepth 100000 in
theorem okX6_allArrivals : aw_ok mX6_allArrivals := ⟨by decide +kernel, rfl, (fun z => by cases z), aw_at 893 (by rfl) rfl, aw_init (c := 6) (by decide), ⟨by decide +kernel, by decide +kernel⟩⟩
set_option maxRecDepth 100000 in
theorem okX6_mostArrivals : aw_ok mX6_mostArrivals := ⟨by decide +kernel, rfl, (fun z => by cases z), aw_at 679 (by rfl) rfl, aw_init (c := 6) (by decide), ⟨by decide +kernel, by decide +kernel⟩⟩
set_option maxRecDepth 100000 in
theorem okX7_init : aw_ok mX7_init := ⟨by decide +kernel, rfl, fun _ => rfl, aw_at 170 (by rfl) rfl, aw_init (c := 7) (by decide), ⟨by decide +kernel, by decide +kernel⟩⟩
set_option maxRecDepth 100000 in
theorem okX7_take : aw_ok mX7_take := ⟨by decide +kernel, rfl, (fun z => by cases z), aw_at 577 (by rfl) rfl, aw_init (c := 7) (by decide), ⟨by decide +kernel, by decide +kernel⟩⟩
set_option maxRecDepth 100000 in
theorem okX7_part : aw_ok mX7_part := ⟨by decide +kernel, rfl, (fun z => by cases z), aw_at 611 (by rfl) rfl, aw_init (c := 7) (by decide), ⟨by decide +kernel, by decide +kernel⟩⟩
set_option maxRecDepth 100000 in
theorem okX7_become : aw_ok mX7_become := ⟨by decide +kernel, rfl, (fun z => by cases z), aw_at 691 (by rfl) rfl, aw_init (c := 7) (by decide), ⟨by decide +kernel, by decide +kernel⟩⟩
set_option maxRecDepth 100000 in
theorem okX7_tells : aw_ok mX7_tells := ⟨by decide +kernel, rfl, (fun z => by cases z), aw_at 365 (by rfl) rfl, aw_init (c := 7) (by decide), ⟨by decide +kernel, by decide +kernel⟩⟩
set_option maxRecDepth 100000 in
theorem okX7_swapQuestions : aw_ok mX7_swapQuestions := ⟨by decide +kernel, rfl, (fun z => by cases z), aw_at 708 (by rfl) rfl, aw_init (c := 7) (by decide), ⟨by decide +kernel, by decide +kernel⟩⟩
set_option maxRecDepth 100000 in
theorem okX8_init : aw_ok mX8_init := ⟨by decide +kernel, rfl, fun _ => rfl, aw_at 493 (by rfl) rfl, aw_init (c := 8) (by decide), ⟨by decide +kernel, by decide +kernel⟩⟩
set_option maxRecDepth 100000 in
theorem okX8_renew : aw_ok mX8_renew := ⟨by decide +kernel, rfl, (fun z => by cases z), aw_at 846 (by rfl) rfl, aw_init (c := 8) (by decide), ⟨by decide +kernel, by decide +kernel⟩⟩
set_option maxRecDepth 100000 in
theorem okX8_put : aw_ok mX8_put := ⟨by decide +kernel, rfl, (fun z => by cases z), aw_at 862 (by rfl) rfl, aw_init (c := 8) (by decide), ⟨by decide +kernel, by decide +kernel⟩⟩
set_option maxRecDepth 100000 in
theorem okX8_has : aw_ok mX8_has := ⟨by decide +kernel, rfl, (fun z => by cases z), aw_at 875 (by rfl) rfl, aw_init (c := 8) (by decide), ⟨by decide +kernel, by decide +kernel⟩⟩
set_option maxRecDepth 100000 in
theorem okX9_init : aw_ok mX9_init := ⟨by decide +kernel, rfl, fun _ => rfl, aw_at 95 (by rfl) rfl, aw_init (c := 9) (by decide), ⟨by decide +kernel, by decide +kernel⟩⟩
set_option maxRecDepth 100000 in
theorem okX9_isFull : aw_ok mX9_isFull := ⟨by decide +kernel, rfl, (fun z => by cases z), aw_at 557 (by rfl) rfl, aw_init (c := 9) (by decide), ⟨by decide +kernel, by decide +kernel⟩⟩
set_option maxRecDepth 100000 in
theorem okX9_push : aw_ok mX9_push := ⟨by decide +kernel, rfl, (fun z => by cases z), aw_at 561 (by rfl) rfl, aw_init (c := 9) (by decide), ⟨by decide +kernel, by decide +kernel⟩⟩
set_option maxRecDepth 100000 in
theorem okX9_cutTo : aw_ok mX9_cutTo := ⟨by decide +kernel, rfl, (fun z => by cases z), aw_at 586 (by rfl) rfl, aw_init (c := 9) (by decide), ⟨by decide +kernel, by decide +kernel⟩⟩
set_option maxRecDepth 100000 in
theorem okX9_judge : aw_ok mX9_judge := ⟨by decide +kernel, rfl, (fun z => by cases z), aw_at 565 (by rfl) rfl, aw_init (c := 9) (by decide), ⟨by decide +kernel, by decide +kernel⟩⟩
set_option maxRecDepth 100000 in
theorem okX9_fits : aw_ok mX9_fits := ⟨by decide +kernel, rfl, (fun z => by cases z), aw_at 569 (by rfl) rfl, aw_init (c := 9) (by decide), ⟨by decide +kernel, by decide +kernel⟩⟩
set_option maxRecDepth 100000 in
theorem okX9_number : aw_ok mX9_number := ⟨by decide +kernel, rfl, (fun z => by cases z), aw_at 234 (by rfl) rfl, aw_init (c := 9) (by decide), ⟨by decide +kernel, by decide +kernel⟩⟩
set_option maxRecDepth 100000 in
theorem okX10_init : aw_ok mX10_init := ⟨by decide +kernel, rfl, fun _ => rfl, aw_at 85 (by rfl) rfl, aw_init (c := 10) (by decide), ⟨by decide +kernel, by decide +kernel⟩⟩
set_option maxRecDepth 100000 in
theorem okX10_type : aw_ok mX10_type := ⟨by decide +kernel, rfl, (fun z => by cases z), aw_at 546 (by rfl) rfl, aw_init (c := 10) (by decide), ⟨by decide +kernel, by decide +kernel⟩⟩
set_option maxRecDepth 100000 in
theorem okX10_wipe : aw_ok mX10_wipe := ⟨by decide +kernel, rfl, (fun z => by cases z), aw_at 582 (by rfl) rfl, aw_init (c := 10) (by decide), ⟨by decide +kernel, by decide +kernel⟩⟩
set_option maxRecDepth 100000 in
theorem okX10_undo : aw_ok mX10_undo := ⟨by decide +kernel, rfl, (fun z => by cases z), aw_at 590 (by rfl) rfl, aw_init (c := 10) (by decide), ⟨by decide +kernel, by decide +kernel⟩⟩
set_option maxRecDepth 100000 in
theorem okX10_fault : aw_ok mX10_fault := ⟨by decide +kernel, rfl, (fun z => by cases z), aw_at 594 (by rfl) rfl, aw_init (c := 10) (by decide), ⟨by decide +kernel, by decide +kernel⟩⟩
set_option maxRecDepth 100000 in
theorem okX10_way : aw_ok mX10_way := ⟨by decide +kernel, rfl, (fun z => by cases z), aw_at 598 (by rfl) rfl, aw_init (c := 10) (by decide), ⟨by decide +kernel, by decide +kernel⟩⟩
set_option maxRecDepth 100000 in
theorem okX10_carter : aw_ok mX10_carter := ⟨by decide +kernel, rfl, (fun z => by cases z), aw_at 603 (by rfl) rfl, aw_init (c := 10) (by decide), ⟨by decide +kernel, by decide +kernel⟩⟩
set_option maxRecDepth 100000 in
theorem okX10_late : aw_ok mX10_late := ⟨by decide +kernel, rfl, (fun z => by cases z), aw_at 615 (by rfl) rfl, aw_init (c := 10) (by decide), ⟨by decide +kernel, by decide +kernel⟩⟩
set_option maxRecDepth 100000 in
theorem okX10_answer : aw_ok mX10_answer := ⟨by decide +kernel, rfl, (fun z => by cases z), aw_at 619 (by rfl) rfl, aw_init (c := 10) (by decide), ⟨by decide +kernel, by decide +kernel⟩⟩
set_option maxRecDepth 100000 in
theorem okX10_back : aw_ok mX10_back := ⟨by decide +kernel, rfl, (fun z => by cases z), aw_at 627 (by rfl) rfl, aw_init (c := 10) (by decide), ⟨by decide +kernel, by decide +kernel⟩⟩
set_option maxRecDepth 100000 in
theorem okX10_read : aw_ok mX10_read := ⟨by decide +kernel, rfl, (fun z => by cases z), aw_at 631 (by rfl) rfl, aw_init (c := 10) (by decide), ⟨by decide +kernel, by decide +kernel⟩⟩
set_option maxRecDepth 100000 in
theorem okX10_at : aw_ok mX10_at := ⟨by decide +kernel, rfl, (fun z => by cases z), aw_at 639 (by rfl) rfl, aw_init (c := 10) (by decide), ⟨by decide +kernel, by decide +kernel⟩⟩
set_option maxRecDepth 100000 in
theorem okX10_ends : aw_ok mX10_ends := ⟨by decide +kernel, rfl, (fun z => by cases z), aw_at 651 (by rfl) rfl, aw_init (c := 10) (by decide), ⟨by decide +kernel, by decide +kernel⟩⟩
set_option maxRecDepth 100000 in
theorem okX10_far : aw_ok mX10_far := ⟨by decide +kernel, rfl, (fun z => by cases z), aw_at 655 (by rfl) rfl, aw_init (c := 10) (by decide), ⟨by decide +kernel, by decide +kernel⟩⟩
set_option maxRecDepth 100000 in
theorem okX10_who : aw_ok mX10_who := ⟨by decide +kernel, rfl, (fun z => by cases z), aw_at 663 (by rfl) rfl, aw_init (c := 10) (by decide), ⟨by decide +kernel, by decide +kernel⟩⟩
set_option maxRecDepth 100000 in
theorem okX10_met : aw_ok mX10_met := ⟨by decide +kernel, rfl, (fun z => by cases z), aw_at 671 (by rfl) rfl, aw_init (c := 10) (by decide), ⟨by decide +kernel, by decide +kernel⟩⟩
set_option maxRecDepth 100000 in
theorem okX10_busiest : aw_ok mX10_busiest := ⟨by decide +kernel, rfl, (fun z => by cases z), aw_at 675 (by rfl) rfl, aw_init (c := 10) (by decide), ⟨by decide +kernel, by decide +kernel⟩⟩
set_option maxRecDepth 100000 in
theorem okX10_needs : aw_ok mX10_needs := ⟨by decide +kernel, rfl, (fun z => by cases z), aw_at 683 (by rfl) rfl, aw_init (c := 10) (by decide), ⟨by decide +kernel, by decide +kernel⟩⟩
set_option maxRecDepth 100000 in
theorem okX10_lend : aw_ok mX10_lend := ⟨by decide +kernel, rfl, (fun z => by cases z), aw_at 696 (by rfl) rfl, aw_init (c := 10) (by decide), ⟨by decide +kernel, by decide +kernel⟩⟩
set_option maxRecDepth 100000 in
theorem okX10_delay : aw_ok mX10_delay := ⟨by decide +kernel, rfl, (fun z => by cases z), aw_at 727 (by rfl) rfl, aw_init (c := 10) (by decide), ⟨by decide +kernel, by decide +kernel⟩⟩
set_option maxRecDepth 100000 in
theorem okX10_level : aw_ok mX10_level := ⟨by decide +kernel, rfl, (fun z => by cases z), aw_at 735 (by rfl) rfl, aw_init (c := 10) (by decide), ⟨by decide +kernel, by decide +kernel⟩⟩
set_option maxRecDepth 100000 in
theorem okX10_seen : aw_ok mX10_seen := ⟨by decide +kernel, rfl, (fun z => by cases z), aw_at 744 (by rfl) rfl, aw_init (c := 10) (by decide), ⟨by decide +kernel, by decide +kernel⟩⟩
set_option maxRecDepth 100000 in
theorem okX10_forget : aw_ok mX10_forget := ⟨by decide +kernel, rfl, (fun z => by cases z), aw_at 752 (by rfl) rfl, aw_init (c := 10) (by decide), ⟨by decide +kernel, by decide +kernel⟩⟩
set_option maxRecDepth 100000 in
theorem okX10_never : aw_ok mX10_never := ⟨by decide +kernel, rfl, (fun z => by cases z), aw_at 756 (by rfl) rfl, aw_init (c := 10) (by decide), ⟨by decide +kernel, by decide +kernel⟩⟩
set_option maxRecDepth 100000 in
theorem okX10_sort : aw_ok mX10_sort := ⟨by decide +kernel, rfl, (fun z => by cases z), aw_at 774 (by rfl) rfl, aw_init (c := 10) (by decide), ⟨by decide +kernel, by decide +kernel⟩⟩
set_option maxRecDepth 100000 in
theorem okX10_force : aw_ok mX10_force := ⟨by decide +kernel, rfl, (fun z => by cases z), aw_at 782 (by rfl) rfl, aw_init (c := 10) (by decide), ⟨by decide +kernel, by decide +kernel⟩⟩
set_option maxRecDepth 100000 in
theorem okX10_ask : aw_ok mX10_ask := ⟨by decide +kernel, rfl, (fun z => by cases z), aw_at 791 (by rfl) rfl, aw_init (c := 10) (by decide), ⟨by decide +kernel, by decide +kernel⟩⟩
set_option maxRecDepth 100000 in
theorem okX10_rumour : aw_ok mX10_rumour := ⟨by decide +kernel, rfl, (fun z => by cases z), aw_at 808 (by rfl) rfl, aw_init (c := 10) (by decide), ⟨by decide +kernel, by decide +kernel⟩⟩
set_option maxRecDepth 100000 in
theorem okX10_market : aw_ok mX10_market := ⟨by decide +kernel, rfl, (fun z => by cases z), aw_at 832 (by rfl) rfl, aw_init (c := 10) (by decide), ⟨by decide +kernel, by decide +kernel⟩⟩
set_option maxRecDepth 100000 in
theorem okX10_sheet : aw_ok mX10_sheet := ⟨by decide +kernel, rfl, (fun z => by cases z), aw_at 842 (by rfl) rfl, aw_init (c := 10) (by decide), ⟨by decide +kernel, by decide +kernel⟩⟩
set_option maxRecDepth 100000 in
theorem okX10_lose : aw_ok mX10_lose := ⟨by decide +kernel, rfl, (fun z => by cases z), aw_at 850 (by rfl) rfl, aw_init (c := 10) (by decide), ⟨by decide +kernel, by decide +kernel⟩⟩
set_option maxRecDepth 100000 in
theorem okX10_lay : aw_ok mX10_lay := ⟨by decide +kernel, rfl, (fun z => by cases z), aw_at 854 (by rfl) rfl, aw_init (c := 10) (by decide), ⟨by decide +kernel, by decide +kernel⟩⟩
set_option maxRecDepth 100000 in
theorem okX10_get : aw_ok mX10_get := ⟨by decide +kernel, rfl, (fun z => by cases z), aw_at 866 (by rfl) rfl, aw_init (c := 10) (by decide), ⟨by decide +kernel, by decide +kernel⟩⟩
set_option maxRecDepth 100000 in
theorem okX10_copy : aw_ok mX10_copy := ⟨by decide +kernel, rfl, (fun z => by cases z), aw_at 871 (by rfl) rfl, aw_init (c := 10) (by decide), ⟨by decide +kernel, by decide +kernel⟩⟩
set_option maxRecDepth 100000 in
theorem okX10_write : aw_ok mX10_write := ⟨by decide +kernel, rfl, (fun z => by cases z), aw_at 882 (by rfl) rfl, aw_init (c := 10) (by decide), ⟨by decide +kernel, by decide +kernel⟩⟩
set_option maxRecDepth 100000 in
theorem okX10_count : aw_ok mX10_count := ⟨by decide +kernel, rfl, (fun z => by cases z), aw_at 888 (by rfl) rfl, aw_init (c := 10) (by decide), ⟨by decide +kernel, by decide +kernel⟩⟩
set_option maxRecDepth 100000 in
theorem okX10_digest : aw_ok mX10_digest := ⟨by decide +kernel, rfl, (fun z => by cases z), aw_at 897 (by rfl) rfl, aw_init (c := 10) (by decide), ⟨by decide +kernel, by decide +kernel⟩⟩
set_option maxRecDepth 100000 in
theorem okX10_digestOfTexts : aw_ok mX10_digestOfTexts := ⟨by decide +kernel, rfl, (fun z => by cases z), aw_at 902 (by rfl) rfl, aw_init (c := 10) (by decide), ⟨by decide +kernel, by decide +kernel⟩⟩
set_option maxRecDepth 100000 in
theorem okX10_digestOfHours : aw_ok mX10_digestOfHours := ⟨by decide +kernel, rfl, (fun z => by cases z), aw_at 911 (by rfl) rfl, aw_init (c := 10) (by decide), ⟨by decide +kernel, by decide +kernel⟩⟩
set_option maxRecDepth 100000 in
theorem okX10_digestOfHour : aw_ok mX10_digestOfHour := ⟨by decide +kernel, rfl, (fun z => by cases z), aw_at 915 (by rfl) rfl, aw_init (c := 10) (by decide), ⟨by decide +kernel, by decide +kernel⟩⟩
set_option maxRecDepth 100000 in
theorem okX10_digestOfTrials : aw_ok mX10_digestOfTrials := ⟨by decide +kernel, rfl, (fun z => by cases z), aw_at 919 (by rfl) rfl, aw_init (c := 10) (by decide), ⟨by decide +kernel, by decide +kernel⟩⟩
set_option maxRecDepth 100000 in
theorem okX10_digestOfAll : aw_ok mX10_digestOfAll := ⟨by decide +kernel, rfl, (fun z => by cases z), aw_at 923 (by rfl) rfl, aw_init (c := 10) (by decide), ⟨by decide +kernel, by decide +kernel⟩⟩
set_option maxRecDepth 100000 in
theorem okX10_mix : aw_ok mX10_mix := ⟨by decide +kernel, rfl, (fun z => by cases z), aw_at 906 (by rfl) rfl, aw_init (c := 10) (by decide), ⟨by decide +kernel, by decide +kernel⟩⟩
set_option maxRecDepth 100000 in
theorem okX10_within : aw_ok mX10_within := ⟨by decide +kernel, rfl, (fun z => by cases z), aw_at 549 (by rfl) rfl, aw_init (c := 10) (by decide), ⟨by decide +kernel, by decide +kernel⟩⟩
set_option maxRecDepth 100000 in
theorem okX10_isCarter : aw_ok mX10_isCarter := ⟨by decide +kernel, rfl, (fun z => by cases z), aw_at 607 (by rfl) rfl, aw_init (c := 10) (by decide), ⟨by decide +kernel, by decide +kernel⟩⟩
set_option maxRecDepth 100000 in
theorem okX10_textOf : aw_ok mX10_textOf := ⟨by decide +kernel, rfl, (fun z => by cases z), aw_at 553 (by rfl) rfl, aw_init (c := 10) (by decide), ⟨by decide +kernel, by decide +kernel⟩⟩
set_option maxRecDepth 100000 in
theorem okX10_textChanged : aw_ok mX10_textChanged := ⟨by decide +kernel, rfl, (fun z => by cases z), aw_at 573 (by rfl) rfl, aw_init (c := 10) (by decide), ⟨by decide +kernel, by decide +kernel⟩⟩
set_option maxRecDepth 100000 in
theorem okX10_found : aw_ok mX10_found := ⟨by decide +kernel, rfl, (fun z => by cases z), aw_at 635 (by rfl) rfl, aw_init (c := 10) (by decide), ⟨by decide +kernel, by decide +kernel⟩⟩
set_option maxRecDepth 100000 in
theorem okX10_itemRefusal : aw_ok mX10_itemRefusal := ⟨by decide +kernel, rfl, (fun z => by cases z), aw_at 858 (by rfl) rfl, aw_init (c := 10) (by decide), ⟨by decide +kernel, by decide +kernel⟩⟩
set_option maxRecDepth 100000 in
theorem okX10_behind : aw_ok mX10_behind := ⟨by decide +kernel, rfl, (fun z => by cases z), aw_at 643 (by rfl) rfl, aw_init (c := 10) (by decide), ⟨by decide +kernel, by decide +kernel⟩⟩
set_option maxRecDepth 100000 in
theorem okX11_init : aw_ok mX11_init := ⟨by decide +kernel, rfl, fun _ => rfl, aw_at 928 (by rfl) rfl, aw_init (c := 11) (by decide), ⟨by decide +kernel, by decide +kernel⟩⟩
set_option maxRecDepth 100000 in
theorem okX11_in : aw_ok mX11_in := ⟨by decide +kernel, rfl, (fun z => by cases z), aw_at 1037 (by rfl) rfl, aw_init (c := 11) (by decide), ⟨by decide +kernel, by decide +kernel⟩⟩
set_option maxRecDepth 100000 in
theorem okX11_no : aw_ok mX11_no := ⟨by decide +kernel, rfl, (fun z => by cases z), aw_at 1345 (by rfl) rfl, aw_init (c := 11) (by decide), ⟨by decide +kernel, by decide +kernel⟩⟩
set_option maxRecDepth 100000 in
theorem okX11_isTwo : aw_ok mX11_isTwo := ⟨by decide +kernel, rfl, (fun z => by cases z), aw_at 1073 (by rfl) rfl, aw_init (c := 11) (by decide), ⟨by decide +kernel, by decide +kernel⟩⟩
set_option maxRecDepth 100000 in
theorem okX11_isIn : aw_ok mX11_isIn := ⟨by decide +kernel, rfl, (fun z => by cases z), aw_at 1194 (by rfl) rfl, aw_init (c := 11) (by decide), ⟨by decide +kernel, by decide +kernel⟩⟩
set_option maxRecDepth 100000 in
theorem okX11_ones : aw_ok mX11_ones := ⟨by decide +kernel, rfl, (fun z => by cases z), aw_at 1265 (by rfl) rfl, aw_init (c := 11) (by decide), ⟨by decide +kernel, by decide +kernel⟩⟩
set_option maxRecDepth 100000 in
theorem okX11_lesser : aw_ok mX11_lesser := ⟨by decide +kernel, rfl, (fun z => by cases z), aw_at 1167 (by rfl) rfl, aw_init (c := 11) (by decide), ⟨by decide +kernel, by decide +kernel⟩⟩
set_option maxRecDepth 100000 in
theorem okX11_greater : aw_ok mX11_greater := ⟨by decide +kernel, rfl, (fun z => by cases z), aw_at 1238 (by rfl) rfl, aw_init (c := 11) (by decide), ⟨by decide +kernel, by decide +kernel⟩⟩
set_option maxRecDepth 100000 in
theorem okX11_part : aw_ok mX11_part := ⟨by decide +kernel, rfl, (fun z => by cases z), aw_at 1342 (by rfl) rfl, aw_init (c := 11) (by decide), ⟨by decide +kernel, by decide +kernel⟩⟩
set_option maxRecDepth 100000 in
theorem okX11_finds : aw_ok mX11_finds := ⟨by decide +kernel, rfl, (fun z => by cases z), aw_at 1042 (by rfl) rfl, aw_init (c := 11) (by decide), ⟨by decide +kernel, by decide +kernel⟩⟩
set_option maxRecDepth 100000 in
theorem okX11_isSheet : aw_ok mX11_isSheet := ⟨by decide +kernel, rfl, (fun z => by cases z), aw_at 1033 (by rfl) rfl, aw_init (c := 11) (by decide), ⟨by decide +kernel, by decide +kernel⟩⟩
set_option maxRecDepth 100000 in
theorem okX11_sheet : aw_ok mX11_sheet := ⟨by decide +kernel, rfl, (fun z => by cases z), aw_at 1030 (by rfl) rfl, aw_init (c := 11) (by decide), ⟨by decide +kernel, by decide +kernel⟩⟩
set_option maxRecDepth 100000 in
theorem okX11_lose : aw_ok mX11_lose := ⟨by decide +kernel, rfl, (fun z => by cases z), aw_at 1046 (by rfl) rfl, aw_init (c := 11) (by decide), ⟨by decide +kernel, by decide +kernel⟩⟩
set_option maxRecDepth 100000 in
theorem okX11_lacks : aw_ok mX11_lacks := ⟨by decide +kernel, rfl, (fun z => by cases z), aw_at 1054 (by rfl) rfl, aw_init (c := 11) (by decide), ⟨by decide +kernel, by decide +kernel⟩⟩
set_option maxRecDepth 100000 in
theorem okX11_cut : aw_ok mX11_cut := ⟨by decide +kernel, rfl, (fun z => by cases z), aw_at 1057 (by rfl) rfl, aw_init (c := 11) (by decide), ⟨by decide +kernel, by decide +kernel⟩⟩
set_option maxRecDepth 100000 in
theorem okX11_lay : aw_ok mX11_lay := ⟨by decide +kernel, rfl, (fun z => by cases z), aw_at 1050 (by rfl) rfl, aw_init (c := 11) (by decide), ⟨by decide +kernel, by decide +kernel⟩⟩
set_option maxRecDepth 100000 in
theorem okX11_get : aw_ok mX11_get := ⟨by decide +kernel, rfl, (fun z => by cases z), aw_at 1061 (by rfl) rfl, aw_init (c := 11) (by decide), ⟨by decide +kernel, by decide +kernel⟩⟩
set_option maxRecDepth 100000 in
theorem okX11_copy : aw_ok mX11_copy := ⟨by decide +kernel, rfl, (fun z => by cases z), aw_at 1066 (by rfl) rfl, aw_init (c := 11) (by decide), ⟨by decide +kernel, by decide +kernel⟩⟩
set_option maxRecDepth 100000 in
theorem okX11_type : aw_ok mX11_type := ⟨by decide +kernel, rfl, (fun z => by cases z), aw_at 1070 (by rfl) rfl, aw_init (c := 11) (by decide), ⟨by decide +kernel, by decide +kernel⟩⟩
set_option maxRecDepth 100000 in
theorem okX11_wipe : aw_ok mX11_wipe := ⟨by decide +kernel, rfl, (fun z => by cases z), aw_at 1078 (by rfl) rfl, aw_init (c := 11) (by decide), ⟨by decide +kernel, by decide +kernel⟩⟩
set_option maxRecDepth 100000 in
theorem okX11_undo : aw_ok mX11_undo := ⟨by decide +kernel, rfl, (fun z => by cases z), aw_at 1082 (by rfl) rfl, aw_init (c := 11) (by decide), ⟨by decide +kernel, by decide +kernel⟩⟩
set_option maxRecDepth 100000 in
theorem okX11_placeOf : aw_ok mX11_placeOf := ⟨by decide +kernel, rfl, (fun z => by cases z), aw_at 1100 (by rfl) rfl, aw_init (c := 11) (by decide), ⟨by decide +kernel, by decide +kernel⟩⟩
set_option maxRecDepth 100000 in
theorem okX11_figureOf : aw_ok mX11_figureOf := ⟨by decide +kernel, rfl, (fun z => by cases z), aw_at 1105 (by rfl) rfl, aw_init (c := 11) (by decide), ⟨by decide +kernel, by decide +kernel⟩⟩
set_option maxRecDepth 100000 in
theorem okX11_wayOf : aw_ok mX11_wayOf := ⟨by decide +kernel, rfl, (fun z => by cases z), aw_at 1097 (by rfl) rfl, aw_init (c := 11) (by decide), ⟨by decide +kernel, by decide +kernel⟩⟩
set_option maxRecDepth 100000 in
theorem okX11_readsWays : aw_ok mX11_readsWays := ⟨by decide +kernel, rfl, (fun z => by cases z), aw_at 1094 (by rfl) rfl, aw_init (c := 11) (by decide), ⟨by decide +kernel, by decide +kernel⟩⟩
set_option maxRecDepth 100000 in
theorem okX11_carterOf : aw_ok mX11_carterOf := ⟨by decide +kernel, rfl, (fun z => by cases z), aw_at 1113 (by rfl) rfl, aw_init (c := 11) (by decide), ⟨by decide +kernel, by decide +kernel⟩⟩
set_option maxRecDepth 100000 in
theorem okX11_readsCarters : aw_ok mX11_readsCarters := ⟨by decide +kernel, rfl, (fun z => by cases z), aw_at 1110 (by rfl) rfl, aw_init (c := 11) (by decide), ⟨by decide +kernel, by decide +kernel⟩⟩
set_option maxRecDepth 100000 in
theorem okX11_readsText : aw_ok mX11_readsText := ⟨by decide +kernel, rfl, (fun z => by cases z), aw_at 1090 (by rfl) rfl, aw_init (c := 11) (by decide), ⟨by decide +kernel, by decide +kernel⟩⟩
set_option maxRecDepth 100000 in
theorem okX11_fault : aw_ok mX11_fault := ⟨by decide +kernel, rfl, (fun z => by cases z), aw_at 1086 (by rfl) rfl, aw_init (c := 11) (by decide), ⟨by decide +kernel, by decide +kernel⟩⟩
set_option maxRecDepth 100000 in
theorem okX11_isCarter : aw_ok mX11_isCarter := ⟨by decide +kernel, rfl, (fun z => by cases z), aw_at 1125 (by rfl) rfl, aw_init (c := 11) (by decide), ⟨by decide +kernel, by decide +kernel⟩⟩
set_option maxRecDepth 100000 in
theorem okX11_isHour : aw_ok mX11_isHour := ⟨by decide +kernel, rfl, (fun z => by cases z), aw_at 1139 (by rfl) rfl, aw_init (c := 11) (by decide), ⟨by decide +kernel, by decide +kernel⟩⟩
set_option maxRecDepth 100000 in
theorem okX11_isPlace : aw_ok mX11_isPlace := ⟨by decide +kernel, rfl, (fun z => by cases z), aw_at 1143 (by rfl) rfl, aw_init (c := 11) (by decide), ⟨by decide +kernel, by decide +kernel⟩⟩
set_option maxRecDepth 100000 in
theorem okX11_way : aw_ok mX11_way := ⟨by decide +kernel, rfl, (fun z => by cases z), aw_at 1117 (by rfl) rfl, aw_init (c := 11) (by decide), ⟨by decide +kernel, by decide +kernel⟩⟩
set_option maxRecDepth 100000 in
theorem okX11_carter : aw_ok mX11_carter := ⟨by decide +kernel, rfl, (fun z => by cases z), aw_at 1121 (by rfl) rfl, aw_init (c := 11) (by decide), ⟨by decide +kernel, by decide +kernel⟩⟩
set_option maxRecDepth 100000 in
theorem okX11_late : aw_ok mX11_late := ⟨by decide +kernel, rfl, (fun z => by cases z), aw_at 1130 (by rfl) rfl, aw_init (c := 11) (by decide), ⟨by decide +kernel, by decide +kernel⟩⟩
set_option maxRecDepth 100000 in
theorem okX11_answer : aw_ok mX11_answer := ⟨by decide +kernel, rfl, (fun z => by cases z), aw_at 1136 (by rfl) rfl, aw_init (c := 11) (by decide), ⟨by decide +kernel, by decide +kernel⟩⟩
set_option maxRecDepth 100000 in
theorem okX11_back : aw_ok mX11_back := ⟨by decide +kernel, rfl, (fun z => by cases z), aw_at 1147 (by rfl) rfl, aw_init (c := 11) (by decide), ⟨by decide +kernel, by decide +kernel⟩⟩
set_option maxRecDepth 100000 in
theorem okX11_read : aw_ok mX11_read := ⟨by decide +kernel, rfl, (fun z => by cases z), aw_at 1151 (by rfl) rfl, aw_init (c := 11) (by decide), ⟨by decide +kernel, by decide +kernel⟩⟩
set_option maxRecDepth 100000 in
theorem okX11_maps : aw_ok mX11_maps := ⟨by decide +kernel, rfl, (fun z => by cases z), aw_at 1164 (by rfl) rfl, aw_init (c := 11) (by decide), ⟨by decide +kernel, by decide +kernel⟩⟩
set_option maxRecDepth 100000 in
theorem okX11_next : aw_ok mX11_next := ⟨by decide +kernel, rfl, (fun z => by cases z), aw_at 1198 (by rfl) rfl, aw_init (c := 11) (by decide), ⟨by decide +kernel, by decide +kernel⟩⟩
set_option maxRecDepth 100000 in
theorem okX11_isAnswer : aw_ok mX11_isAnswer := ⟨by decide +kernel, rfl, (fun z => by cases z), aw_at 1191 (by rfl) rfl, aw_init (c := 11) (by decide), ⟨by decide +kernel, by decide +kernel⟩⟩
set_option maxRecDepth 100000 in
theorem okX11_isTold : aw_ok mX11_isTold := ⟨by decide +kernel, rfl, (fun z => by cases z), aw_at 1187 (by rfl) rfl, aw_init (c := 11) (by decide), ⟨by decide +kernel, by decide +kernel⟩⟩
set_option maxRecDepth 100000 in
theorem okX11_stays : aw_ok mX11_stays := ⟨by decide +kernel, rfl, (fun z => by cases z), aw_at 1183 (by rfl) rfl, aw_init (c := 11) (by decide), ⟨by decide +kernel, by decide +kernel⟩⟩
set_option maxRecDepth 100000 in
theorem okX11_goesOn : aw_ok mX11_goesOn := ⟨by decide +kernel, rfl, (fun z => by cases z), aw_at 1179 (by rfl) rfl, aw_init (c := 11) (by decide), ⟨by decide +kernel, by decide +kernel⟩⟩
set_option maxRecDepth 100000 in
theorem okX11_gathers : aw_ok mX11_gathers := ⟨by decide +kernel, rfl, (fun z => by cases z), aw_at 1175 (by rfl) rfl, aw_init (c := 11) (by decide), ⟨by decide +kernel, by decide +kernel⟩⟩
set_option maxRecDepth 100000 in
theorem okX11_keeps : aw_ok mX11_keeps := ⟨by decide +kernel, rfl, (fun z => by cases z), aw_at 1202 (by rfl) rfl, aw_init (c := 11) (by decide), ⟨by decide +kernel, by decide +kernel⟩⟩
set_option maxRecDepth 100000 in
theorem okX11_lives : aw_ok mX11_lives := ⟨by decide +kernel, rfl, (fun z => by cases z), aw_at 1171 (by rfl) rfl, aw_init (c := 11) (by decide), ⟨by decide +kernel, by decide +kernel⟩⟩
set_option maxRecDepth 100000 in
theorem okX11_find : aw_ok mX11_find := ⟨by decide +kernel, rfl, (fun z => by cases z), aw_at 1160 (by rfl) rfl, aw_init (c := 11) (by decide), ⟨by decide +kernel, by decide +kernel⟩⟩
set_option maxRecDepth 100000 in
theorem okX11_at : aw_ok mX11_at := ⟨by decide +kernel, rfl, (fun z => by cases z), aw_at 1156 (by rfl) rfl, aw_init (c := 11) (by decide), ⟨by decide +kernel, by decide +kernel⟩⟩
set_option maxRecDepth 100000 in
theorem okX11_ends : aw_ok mX11_ends := ⟨by decide +kernel, rfl, (fun z => by cases z), aw_at 1206 (by rfl) rfl, aw_init (c := 11) (by decide), ⟨by decide +kernel, by decide +kernel⟩⟩
set_option maxRecDepth 100000 in
theorem okX11_farBy : aw_ok mX11_farBy := ⟨by decide +kernel, rfl, (fun z => by cases z), aw_at 1214 (by rfl) rfl, aw_init (c := 11) (by decide), ⟨by decide +kernel, by decide +kernel⟩⟩
set_option maxRecDepth 100000 in
theorem okX11_far : aw_ok mX11_far := ⟨by decide +kernel, rfl, (fun z => by cases z), aw_at 1210 (by rfl) rfl, aw_init (c := 11) (by decide), ⟨by decide +kernel, by decide +kernel⟩⟩
set_option maxRecDepth 100000 in
theorem okX11_whoBy : aw_ok mX11_whoBy := ⟨by decide +kernel, rfl, (fun z => by cases z), aw_at 1223 (by rfl) rfl, aw_init (c := 11) (by decide), ⟨by decide +kernel, by decide +kernel⟩⟩
set_option maxRecDepth 100000 in
theorem okX11_who : aw_ok mX11_who := ⟨by decide +kernel, rfl, (fun z => by cases z), aw_at 1218 (by rfl) rfl, aw_init (c := 11) (by decide), ⟨by decide +kernel, by decide +kernel⟩⟩
set_option maxRecDepth 100000 in
theorem okX11_met : aw_ok mX11_met := ⟨by decide +kernel, rfl, (fun z => by cases z), aw_at 1227 (by rfl) rfl, aw_init (c := 11) (by decide), ⟨by decide +kernel, by decide +kernel⟩⟩
set_option maxRecDepth 100000 in
theorem okX11_busiestNow : aw_ok mX11_busiestNow := ⟨by decide +kernel, rfl, (fun z => by cases z), aw_at 1235 (by rfl) rfl, aw_init (c := 11) (by decide), ⟨by decide +kernel, by decide +kernel⟩⟩
set_option maxRecDepth 100000 in
theorem okX11_busiest : aw_ok mX11_busiest := ⟨by decide +kernel, rfl, (fun z => by cases z), aw_at 1231 (by rfl) rfl, aw_init (c := 11) (by decide), ⟨by decide +kernel, by decide +kernel⟩⟩
set_option maxRecDepth 100000 in
theorem okX11_comers : aw_ok mX11_comers := ⟨by decide +kernel, rfl, (fun z => by cases z), aw_at 1262 (by rfl) rfl, aw_init (c := 11) (by decide), ⟨by decide +kernel, by decide +kernel⟩⟩
set_option maxRecDepth 100000 in
theorem okX11_needsOf : aw_ok mX11_needsOf := ⟨by decide +kernel, rfl, (fun z => by cases z), aw_at 1246 (by rfl) rfl, aw_init (c := 11) (by decide), ⟨by decide +kernel, by decide +kernel⟩⟩
set_option maxRecDepth 100000 in
theorem okX11_needs : aw_ok mX11_needs := ⟨by decide +kernel, rfl, (fun z => by cases z), aw_at 1242 (by rfl) rfl, aw_init (c := 11) (by decide), ⟨by decide +kernel, by decide +kernel⟩⟩
set_option maxRecDepth 100000 in
theorem okX11_lends : aw_ok mX11_lends := ⟨by decide +kernel, rfl, (fun z => by cases z), aw_at 1258 (by rfl) rfl, aw_init (c := 11) (by decide), ⟨by decide +kernel, by decide +kernel⟩⟩
set_option maxRecDepth 100000 in
theorem okX11_lendBy : aw_ok mX11_lendBy := ⟨by decide +kernel, rfl, (fun z => by cases z), aw_at 1254 (by rfl) rfl, aw_init (c := 11) (by decide), ⟨by decide +kernel, by decide +kernel⟩⟩
set_option maxRecDepth 100000 in
theorem okX11_lend : aw_ok mX11_lend := ⟨by decide +kernel, rfl, (fun z => by cases z), aw_at 1250 (by rfl) rfl, aw_init (c := 11) (by decide), ⟨by decide +kernel, by decide +kernel⟩⟩
set_option maxRecDepth 100000 in
theorem okX11_delayOf : aw_ok mX11_delayOf := ⟨by decide +kernel, rfl, (fun z => by cases z), aw_at 1273 (by rfl) rfl, aw_init (c := 11) (by decide), ⟨by decide +kernel, by decide +kernel⟩⟩
set_option maxRecDepth 100000 in
theorem okX11_delay : aw_ok mX11_delay := ⟨by decide +kernel, rfl, (fun z => by cases z), aw_at 1269 (by rfl) rfl, aw_init (c := 11) (by decide), ⟨by decide +kernel, by decide +kernel⟩⟩
set_option maxRecDepth 100000 in
theorem okX11_levelBy : aw_ok mX11_levelBy := ⟨by decide +kernel, rfl, (fun z => by cases z), aw_at 1281 (by rfl) rfl, aw_init (c := 11) (by decide), ⟨by decide +kernel, by decide +kernel⟩⟩
set_option maxRecDepth 100000 in
theorem okX11_level : aw_ok mX11_level := ⟨by decide +kernel, rfl, (fun z => by cases z), aw_at 1277 (by rfl) rfl, aw_init (c := 11) (by decide), ⟨by decide +kernel, by decide +kernel⟩⟩
set_option maxRecDepth 100000 in
theorem okX11_seen : aw_ok mX11_seen := ⟨by decide +kernel, rfl, (fun z => by cases z), aw_at 1285 (by rfl) rfl, aw_init (c := 11) (by decide), ⟨by decide +kernel, by decide +kernel⟩⟩
set_option maxRecDepth 100000 in
theorem okX11_forget : aw_ok mX11_forget := ⟨by decide +kernel, rfl, (fun z => by cases z), aw_at 1290 (by rfl) rfl, aw_init (c := 11) (by decide), ⟨by decide +kernel, by decide +kernel⟩⟩
set_option maxRecDepth 100000 in
theorem okX11_isSeen : aw_ok mX11_isSeen := ⟨by decide +kernel, rfl, (fun z => by cases z), aw_at 1302 (by rfl) rfl, aw_init (c := 11) (by decide), ⟨by decide +kernel, by decide +kernel⟩⟩
set_option maxRecDepth 100000 in
theorem okX11_neverNow : aw_ok mX11_neverNow := ⟨by decide +kernel, rfl, (fun z => by cases z), aw_at 1298 (by rfl) rfl, aw_init (c := 11) (by decide), ⟨by decide +kernel, by decide +kernel⟩⟩
set_option maxRecDepth 100000 in
theorem okX11_never : aw_ok mX11_never := ⟨by decide +kernel, rfl, (fun z => by cases z), aw_at 1294 (by rfl) rfl, aw_init (c := 11) (by decide), ⟨by decide +kernel, by decide +kernel⟩⟩
set_option maxRecDepth 100000 in
theorem okX11_sortOf : aw_ok mX11_sortOf := ⟨by decide +kernel, rfl, (fun z => by cases z), aw_at 1310 (by rfl) rfl, aw_init (c := 11) (by decide), ⟨by decide +kernel, by decide +kernel⟩⟩
set_option maxRecDepth 100000 in
theorem okX11_sort : aw_ok mX11_sort := ⟨by decide +kernel, rfl, (fun z => by cases z), aw_at 1306 (by rfl) rfl, aw_init (c := 11) (by decide), ⟨by decide +kernel, by decide +kernel⟩⟩
set_option maxRecDepth 100000 in
theorem okX11_forceOf : aw_ok mX11_forceOf := ⟨by decide +kernel, rfl, (fun z => by cases z), aw_at 1318 (by rfl) rfl, aw_init (c := 11) (by decide), ⟨by decide +kernel, by decide +kernel⟩⟩
set_option maxRecDepth 100000 in
theorem okX11_force : aw_ok mX11_force := ⟨by decide +kernel, rfl, (fun z => by cases z), aw_at 1314 (by rfl) rfl, aw_init (c := 11) (by decide), ⟨by decide +kernel, by decide +kernel⟩⟩
set_option maxRecDepth 100000 in
theorem okX11_alike : aw_ok mX11_alike := ⟨by decide +kernel, rfl, (fun z => by cases z), aw_at 1330 (by rfl) rfl, aw_init (c := 11) (by decide), ⟨by decide +kernel, by decide +kernel⟩⟩
set_option maxRecDepth 100000 in
theorem okX11_askOf : aw_ok mX11_askOf := ⟨by decide +kernel, rfl, (fun z => by cases z), aw_at 1326 (by rfl) rfl, aw_init (c := 11) (by decide), ⟨by decide +kernel, by decide +kernel⟩⟩
set_option maxRecDepth 100000 in
theorem okX11_ask : aw_ok mX11_ask := ⟨by decide +kernel, rfl, (fun z => by cases z), aw_at 1322 (by rfl) rfl, aw_init (c := 11) (by decide), ⟨by decide +kernel, by decide +kernel⟩⟩
set_option maxRecDepth 100000 in
theorem okX11_rumourOf : aw_ok mX11_rumourOf := ⟨by decide +kernel, rfl, (fun z => by cases z), aw_at 1339 (by rfl) rfl, aw_init (c := 11) (by decide), ⟨by decide +kernel, by decide +kernel⟩⟩
set_option maxRecDepth 100000 in
theorem okX11_rumour : aw_ok mX11_rumour := ⟨by decide +kernel, rfl, (fun z => by cases z), aw_at 1334 (by rfl) rfl, aw_init (c := 11) (by decide), ⟨by decide +kernel, by decide +kernel⟩⟩
set_option maxRecDepth 100000 in
theorem okX11_lot : aw_ok mX11_lot := ⟨by decide +kernel, rfl, (fun z => by cases z), aw_at 1358 (by rfl) rfl, aw_init (c := 11) (by decide), ⟨by decide +kernel, by decide +kernel⟩⟩
set_option maxRecDepth 100000 in
theorem okX11_marketOf : aw_ok mX11_marketOf := ⟨by decide +kernel, rfl, (fun z => by cases z), aw_at 1354 (by rfl) rfl, aw_init (c := 11) (by decide), ⟨by decide +kernel, by decide +kernel⟩⟩
set_option maxRecDepth 100000 in
theorem okX11_market : aw_ok mX11_market := ⟨by decide +kernel, rfl, (fun z => by cases z), aw_at 1350 (by rfl) rfl, aw_init (c := 11) (by decide), ⟨by decide +kernel, by decide +kernel⟩⟩
set_option maxRecDepth 100000 in
theorem okX11_write : aw_ok mX11_write := ⟨by decide +kernel, rfl, (fun z => by cases z), aw_at 1363 (by rfl) rfl, aw_init (c := 11) (by decide), ⟨by decide +kernel, by decide +kernel⟩⟩
set_option maxRecDepth 100000 in
theorem okX11_allArrivals : aw_ok mX11_allArrivals := ⟨by decide +kernel, rfl, (fun z => by cases z), aw_at 1371 (by rfl) rfl, aw_init (c := 11) (by decide), ⟨by decide +kernel, by decide +kernel⟩⟩
set_option maxRecDepth 100000 in
theorem okX11_count : aw_ok mX11_count := ⟨by decide +kernel, rfl, (fun z => by cases z), aw_at 1367 (by rfl) rfl, aw_init (c := 11) (by decide), ⟨by decide +kernel, by decide +kernel⟩⟩
set_option maxRecDepth 100000 in
theorem okX11_tellsHour : aw_ok mX11_tellsHour := ⟨by decide +kernel, rfl, (fun z => by cases z), aw_at 1386 (by rfl) rfl, aw_init (c := 11) (by decide), ⟨by decide +kernel, by decide +kernel⟩⟩
set_option maxRecDepth 100000 in
theorem okX11_tellsCarter : aw_ok mX11_tellsCarter := ⟨by decide +kernel, rfl, (fun z => by cases z), aw_at 1382 (by rfl) rfl, aw_init (c := 11) (by decide), ⟨by decide +kernel, by decide +kernel⟩⟩
set_option maxRecDepth 100000 in
theorem okX11_digest : aw_ok mX11_digest := ⟨by decide +kernel, rfl, (fun z => by cases z), aw_at 1375 (by rfl) rfl, aw_init (c := 11) (by decide), ⟨by decide +kernel, by decide +kernel⟩⟩
set_option maxRecDepth 100000 in
theorem okJ6_bitCount_0f7a4 : aw_ok mJ6_bitCount_0f7a4 := ⟨by decide +kernel, rfl, (fun z => by cases z), aw_at 720 (by rfl) rfl, aw_init (c := 14) (by decide), ⟨by decide +kernel, by decide +kernel⟩⟩
