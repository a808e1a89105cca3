-- the methods: name, code, locals, answer, room, handlers; the links of their pools
def mX0_init : MD := (yX0_init, cX0_init, 1, none, { frames := 1, cells := 4, slots := 240, locals := 20 }, [])
def mX0_copyFrom : MD := (yX0_copyFrom, cX0_copyFrom, 2, none, { frames := 1, cells := 0, slots := 0, locals := 48 }, [])
def mX0_add : MD := (yX0_add, cX0_add, 6, none, { frames := 1, cells := 0, slots := 0, locals := 22 }, [])
def mX0_kept : MD := (yX0_kept, cX0_kept, 1, (some .int), { frames := 1, cells := 0, slots := 0, locals := 21 }, [])
def mX0_part : MD := (yX0_part, cX0_part, 4, (some .int), { frames := 1, cells := 0, slots := 0, locals := 22 }, [])
def mX1_init : MD := (yX1_init, cX1_init, 1, none, { frames := 1, cells := 4, slots := 80, locals := 20 }, [])
def mX1_copyFrom : MD := (yX1_copyFrom, cX1_copyFrom, 3, none, { frames := 1, cells := 0, slots := 0, locals := 23 }, [])
def mX1_add : MD := (yX1_add, cX1_add, 4, none, { frames := 0, cells := 0, slots := 0, locals := 0 }, [])
def mX1_has : MD := (yX1_has, cX1_has, 2, (some .boolean), { frames := 0, cells := 0, slots := 0, locals := 0 }, [])
def mX1_removeAt : MD := (yX1_removeAt, cX1_removeAt, 3, none, { frames := 1, cells := 0, slots := 0, locals := 21 }, [])
def mX1_placeOf : MD := (yX1_placeOf, cX1_placeOf, 3, (some .int), { frames := 0, cells := 0, slots := 0, locals := 0 }, [])
def mX1_isReady : MD := (yX1_isReady, cX1_isReady, 3, (some .boolean), { frames := 0, cells := 0, slots := 0, locals := 0 }, [])
def mX1_countReady : MD := (yX1_countReady, cX1_countReady, 4, (some .int), { frames := 1, cells := 0, slots := 0, locals := 22 }, [])
def mX1_countProtected : MD := (yX1_countProtected, cX1_countProtected, 3, (some .int), { frames := 0, cells := 0, slots := 0, locals := 0 }, [])
def mX1_sumOfAges : MD := (yX1_sumOfAges, cX1_sumOfAges, 5, (some .long), { frames := 0, cells := 0, slots := 0, locals := 0 }, [])
def mX1_nextToGo : MD := (yX1_nextToGo, cX1_nextToGo, 4, (some .int), { frames := 1, cells := 0, slots := 0, locals := 23 }, [])
def mX1_goesBefore : MD := (yX1_goesBefore, cX1_goesBefore, 4, (some .boolean), { frames := 0, cells := 0, slots := 0, locals := 0 }, [])
def mX2_init : MD := (yX2_init, cX2_init, 1, none, { frames := 1, cells := 1, slots := 300, locals := 20 }, [])
def mX2_addByte : MD := (yX2_addByte, cX2_addByte, 2, none, { frames := 0, cells := 0, slots := 0, locals := 0 }, [])
def mX2_addNumber : MD := (yX2_addNumber, cX2_addNumber, 4, none, { frames := 1, cells := 0, slots := 0, locals := 21 }, [])
def mX3_init : MD := (yX3_init, cX3_init, 1, none, { frames := 2, cells := 11, slots := 175, locals := 40 }, [])
def mX3_begin : MD := (yX3_begin, cX3_begin, 4, none, { frames := 2, cells := 0, slots := 0, locals := 43 }, [])
def mX3_copyFrom : MD := (yX3_copyFrom, cX3_copyFrom, 2, none, { frames := 2, cells := 0, slots := 0, locals := 69 }, [])
def mX3_powerAt : MD := (yX3_powerAt, cX3_powerAt, 2, (some .int), { frames := 2, cells := 0, slots := 0, locals := 45 }, [])
def mX3_demandAhead : MD := (yX3_demandAhead, cX3_demandAhead, 3, (some .int), { frames := 2, cells := 0, slots := 0, locals := 43 }, [])
def mX3_keptDemands : MD := (yX3_keptDemands, cX3_keptDemands, 1, (some .int), { frames := 1, cells := 0, slots := 0, locals := 21 }, [])
def mX3_demandBack : MD := (yX3_demandBack, cX3_demandBack, 2, (some .int), { frames := 0, cells := 0, slots := 0, locals := 0 }, [])
def mX3_windowLength : MD := (yX3_windowLength, cX3_windowLength, 1, (some .int), { frames := 1, cells := 0, slots := 0, locals := 21 }, [])
def mX3_windowSum : MD := (yX3_windowSum, cX3_windowSum, 4, (some .int), { frames := 2, cells := 0, slots := 0, locals := 41 }, [])
def mX3_canSpare : MD := (yX3_canSpare, cX3_canSpare, 2, (some .boolean), { frames := 1, cells := 0, slots := 0, locals := 21 }, [])
def mX3_meetDemand : MD := (yX3_meetDemand, cX3_meetDemand, 3, none, { frames := 3, cells := 0, slots := 0, locals := 66 }, [])
def mX3_lookAhead : MD := (yX3_lookAhead, cX3_lookAhead, 3, none, { frames := 3, cells := 0, slots := 0, locals := 64 }, [])
def mX3_forecastByTrend : MD := (yX3_forecastByTrend, cX3_forecastByTrend, 4, (some .int), { frames := 2, cells := 0, slots := 0, locals := 41 }, [])
def mX3_forecastBySeason : MD := (yX3_forecastBySeason, cX3_forecastBySeason, 3, (some .int), { frames := 1, cells := 0, slots := 0, locals := 21 }, [])
def mX3_decide : MD := (yX3_decide, cX3_decide, 2, none, { frames := 3, cells := 0, slots := 0, locals := 67 }, [])
def mX3_decisionAt : MD := (yX3_decisionAt, cX3_decisionAt, 2, (some .int), { frames := 2, cells := 0, slots := 0, locals := 46 }, [])
def mX3_percentUsed : MD := (yX3_percentUsed, cX3_percentUsed, 4, (some .int), { frames := 3, cells := 0, slots := 0, locals := 66 }, [])
def mX3_periodThatRepeatsBest : MD := (yX3_periodThatRepeatsBest, cX3_periodThatRepeatsBest, 8, (some .int), { frames := 3, cells := 0, slots := 0, locals := 64 }, [])
def mX3_sumOfDifferences : MD := (yX3_sumOfDifferences, cX3_sumOfDifferences, 4, (some .int), { frames := 2, cells := 0, slots := 0, locals := 41 }, [])
def mX3_countDemands : MD := (yX3_countDemands, cX3_countDemands, 6, (some .int), { frames := 2, cells := 0, slots := 0, locals := 41 }, [])
def mX3_middleDemand : MD := (yX3_middleDemand, cX3_middleDemand, 4, (some .int), { frames := 3, cells := 0, slots := 0, locals := 66 }, [])
def mX4_init : MD := (yX4_init, cX4_init, 1, none, { frames := 1, cells := 1, slots := 24, locals := 20 }, [])
def mX4_begin : MD := (yX4_begin, cX4_begin, 4, none, { frames := 0, cells := 0, slots := 0, locals := 0 }, [])
def mX4_copyFrom : MD := (yX4_copyFrom, cX4_copyFrom, 2, none, { frames := 1, cells := 0, slots := 0, locals := 48 }, [])
def mX4_numbered : MD := (yX4_numbered, cX4_numbered, 2, (some .int), { frames := 0, cells := 0, slots := 0, locals := 0 }, [])
def mX4_tryPolicy : MD := (yX4_tryPolicy, cX4_tryPolicy, 2, none, { frames := 0, cells := 0, slots := 0, locals := 0 }, [])
def mX4_loadAt : MD := (yX4_loadAt, cX4_loadAt, 2, (some .int), { frames := 1, cells := 0, slots := 0, locals := 22 }, [])
def mX4_sizeFor : MD := (yX4_sizeFor, cX4_sizeFor, 3, (some .int), { frames := 1, cells := 0, slots := 0, locals := 21 }, [])
def mX5_init : MD := (yX5_init, cX5_init, 1, none, { frames := 1, cells := 1, slots := 0, locals := 20 }, [])
def mX5_readSetup : MD := (yX5_readSetup, cX5_readSetup, 5, none, { frames := 8, cells := 0, slots := 0, locals := 172 }, [])
def mX5_fail : MD := (yX5_fail, cX5_fail, 2, none, { frames := 0, cells := 0, slots := 0, locals := 0 }, [])
def mX5_readStatement : MD := (yX5_readStatement, cX5_readStatement, 4, none, { frames := 7, cells := 0, slots := 0, locals := 149 }, [])
def mX5_readPool : MD := (yX5_readPool, cX5_readPool, 5, none, { frames := 4, cells := 0, slots := 0, locals := 91 }, [])
def mX5_readSettings : MD := (yX5_readSettings, cX5_readSettings, 3, none, { frames := 3, cells := 0, slots := 0, locals := 65 }, [])
def mX5_readPolicy : MD := (yX5_readPolicy, cX5_readPolicy, 2, none, { frames := 6, cells := 0, slots := 0, locals := 128 }, [])
def mX5_readRule : MD := (yX5_readRule, cX5_readRule, 2, none, { frames := 6, cells := 0, slots := 0, locals := 128 }, [])
def mX5_readLoads : MD := (yX5_readLoads, cX5_readLoads, 3, none, { frames := 3, cells := 0, slots := 0, locals := 65 }, [])
def mX5_readProtect : MD := (yX5_readProtect, cX5_readProtect, 3, none, { frames := 3, cells := 0, slots := 0, locals := 65 }, [])
def mX5_readNumber : MD := (yX5_readNumber, cX5_readNumber, 3, (some .int), { frames := 2, cells := 0, slots := 0, locals := 43 }, [])
def mX5_numberOfToken : MD := (yX5_numberOfToken, cX5_numberOfToken, 3, (some .int), { frames := 1, cells := 0, slots := 0, locals := 21 }, [])
def mX5_readSemicolon : MD := (yX5_readSemicolon, cX5_readSemicolon, 1, none, { frames := 2, cells := 0, slots := 0, locals := 42 }, [])
def mX5_statementOfWord : MD := (yX5_statementOfWord, cX5_statementOfWord, 1, (some .int), { frames := 6, cells := 0, slots := 0, locals := 128 }, [])
def mX5_isWord : MD := (yX5_isWord, cX5_isWord, 3, (some .boolean), { frames := 5, cells := 0, slots := 0, locals := 106 }, [])
def mX5_readToken : MD := (yX5_readToken, cX5_readToken, 1, none, { frames := 1, cells := 0, slots := 0, locals := 22 }, [])
def mX5_readValue : MD := (yX5_readValue, cX5_readValue, 2, none, { frames := 0, cells := 0, slots := 0, locals := 0 }, [])
def mX5_kindAt : MD := (yX5_kindAt, cX5_kindAt, 3, (some .int), { frames := 0, cells := 0, slots := 0, locals := 0 }, [])
def mX6_init : MD := (yX6_init, cX6_init, 2, none, { frames := 3, cells := 54, slots := 1001, locals := 60 }, [])
def mX6_clear : MD := (yX6_clear, cX6_clear, 1, none, { frames := 0, cells := 0, slots := 0, locals := 0 }, [])
def mX6_copyFrom : MD := (yX6_copyFrom, cX6_copyFrom, 3, none, { frames := 3, cells := 0, slots := 0, locals := 90 }, [])
def mX6_addPool : MD := (yX6_addPool, cX6_addPool, 6, none, { frames := 3, cells := 0, slots := 0, locals := 66 }, [])
def mX6_countMembers : MD := (yX6_countMembers, cX6_countMembers, 3, (some .int), { frames := 0, cells := 0, slots := 0, locals := 0 }, [])
def mX6_homeOf : MD := (yX6_homeOf, cX6_homeOf, 3, (some .int), { frames := 1, cells := 0, slots := 0, locals := 22 }, [])
def mX6_placeIn : MD := (yX6_placeIn, cX6_placeIn, 3, (some .int), { frames := 1, cells := 0, slots := 0, locals := 22 }, [])
def mX6_addMember : MD := (yX6_addMember, cX6_addMember, 4, (some .int), { frames := 2, cells := 0, slots := 0, locals := 47 }, [])
def mX6_removeMember : MD := (yX6_removeMember, cX6_removeMember, 4, none, { frames := 2, cells := 0, slots := 0, locals := 47 }, [])
def mX6_tickAll : MD := (yX6_tickAll, cX6_tickAll, 2, none, { frames := 5, cells := 0, slots := 0, locals := 117 }, [])
def mX6_passPhases : MD := (yX6_passPhases, cX6_passPhases, 3, none, { frames := 4, cells := 0, slots := 0, locals := 95 }, [])
def mX6_addLacking : MD := (yX6_addLacking, cX6_addLacking, 5, none, { frames := 3, cells := 0, slots := 0, locals := 70 }, [])
def mX6_removeTooMany : MD := (yX6_removeTooMany, cX6_removeTooMany, 6, none, { frames := 3, cells := 0, slots := 0, locals := 70 }, [])
def mX7_init : MD := (yX7_init, cX7_init, 1, none, { frames := 1, cells := 1, slots := 6, locals := 20 }, [])
def mX7_begin : MD := (yX7_begin, cX7_begin, 1, none, { frames := 1, cells := 0, slots := 0, locals := 23 }, [])
def mX7_copyFrom : MD := (yX7_copyFrom, cX7_copyFrom, 2, none, { frames := 1, cells := 0, slots := 0, locals := 48 }, [])
def mX7_addTick : MD := (yX7_addTick, cX7_addTick, 6, none, { frames := 1, cells := 0, slots := 0, locals := 21 }, [])
def mX7_addError : MD := (yX7_addError, cX7_addError, 2, none, { frames := 0, cells := 0, slots := 0, locals := 0 }, [])
def mX7_addDecision : MD := (yX7_addDecision, cX7_addDecision, 2, none, { frames := 0, cells := 0, slots := 0, locals := 0 }, [])
def mX8_init : MD := (yX8_init, cX8_init, 2, none, { frames := 4, cells := 721, slots := 14099, locals := 91 }, [])
def mX8_appendInput : MD := (yX8_appendInput, cX8_appendInput, 6, (some .int), { frames := 1, cells := 0, slots := 0, locals := 22 }, [])
def mX8_appendWord : MD := (yX8_appendWord, cX8_appendWord, 3, none, { frames := 0, cells := 0, slots := 0, locals := 0 }, [])
def mX8_truncateInput : MD := (yX8_truncateInput, cX8_truncateInput, 2, (some .boolean), { frames := 0, cells := 0, slots := 0, locals := 0 }, [])
def mX8_loadPools : MD := (yX8_loadPools, cX8_loadPools, 1, (some .int), { frames := 9, cells := 0, slots := 0, locals := 196 }, [])
def mX8_errorCode : MD := (yX8_errorCode, cX8_errorCode, 1, (some .int), { frames := 0, cells := 0, slots := 0, locals := 0 }, [])
def mX8_errorOffset : MD := (yX8_errorOffset, cX8_errorOffset, 1, (some .int), { frames := 0, cells := 0, slots := 0, locals := 0 }, [])
def mX8_count : MD := (yX8_count, cX8_count, 2, (some .int), { frames := 6, cells := 1, slots := 6, locals := 95 }, [])
def mX8_pool : MD := (yX8_pool, cX8_pool, 4, (some .int), { frames := 7, cells := 2, slots := 12, locals := 117 }, [])
def mX8_member : MD := (yX8_member, cX8_member, 6, (some .int), { frames := 7, cells := 2, slots := 12, locals := 117 }, [])
def mX8_memberAt : MD := (yX8_memberAt, cX8_memberAt, 4, (some .int), { frames := 7, cells := 2, slots := 12, locals := 116 }, [])
def mX8_demand : MD := (yX8_demand, cX8_demand, 4, (some .int), { frames := 7, cells := 2, slots := 12, locals := 116 }, [])
def mX8_planned : MD := (yX8_planned, cX8_planned, 4, (some .int), { frames := 7, cells := 2, slots := 12, locals := 117 }, [])
def mX8_measure : MD := (yX8_measure, cX8_measure, 2, (some .int), { frames := 7, cells := 1, slots := 6, locals := 116 }, [])
def mX8_forecast : MD := (yX8_forecast, cX8_forecast, 2, (some .int), { frames := 7, cells := 1, slots := 6, locals := 116 }, [])
def mX8_wanted : MD := (yX8_wanted, cX8_wanted, 2, (some .int), { frames := 7, cells := 1, slots := 6, locals := 116 }, [])
def mX8_meanError : MD := (yX8_meanError, cX8_meanError, 3, (some .double), { frames := 7, cells := 1, slots := 6, locals := 116 }, [])
def mX8_nextDropped : MD := (yX8_nextDropped, cX8_nextDropped, 4, (some .int), { frames := 7, cells := 1, slots := 6, locals := 116 }, [])
def mX8_coolLeft : MD := (yX8_coolLeft, cX8_coolLeft, 5, (some .int), { frames := 7, cells := 1, slots := 6, locals := 116 }, [])
def mX8_served : MD := (yX8_served, cX8_served, 2, (some .long), { frames := 7, cells := 1, slots := 6, locals := 116 }, [])
def mX8_missed : MD := (yX8_missed, cX8_missed, 2, (some .long), { frames := 7, cells := 1, slots := 6, locals := 116 }, [])
def mX8_cost : MD := (yX8_cost, cX8_cost, 2, (some .long), { frames := 7, cells := 1, slots := 6, locals := 116 }, [])
def mX8_missedShare : MD := (yX8_missedShare, cX8_missedShare, 5, (some .float), { frames := 7, cells := 1, slots := 6, locals := 116 }, [])
def mX8_used : MD := (yX8_used, cX8_used, 3, (some .double), { frames := 7, cells := 1, slots := 6, locals := 116 }, [])
def mX8_peak : MD := (yX8_peak, cX8_peak, 2, (some .int), { frames := 7, cells := 1, slots := 6, locals := 116 }, [])
def mX8_decisions : MD := (yX8_decisions, cX8_decisions, 4, (some .int), { frames := 7, cells := 2, slots := 12, locals := 117 }, [])
def mX8_event : MD := (yX8_event, cX8_event, 3, (some .int), { frames := 7, cells := 2, slots := 12, locals := 117 }, [])
def mX8_longestMiss : MD := (yX8_longestMiss, cX8_longestMiss, 2, (some .int), { frames := 7, cells := 1, slots := 6, locals := 116 }, [])
def mX8_headroom : MD := (yX8_headroom, cX8_headroom, 3, (some .int), { frames := 7, cells := 1, slots := 6, locals := 116 }, [])
def mX8_busiest : MD := (yX8_busiest, cX8_busiest, 3, (some .int), { frames := 4, cells := 0, slots := 0, locals := 89 }, [])
def mX8_bestPeriod : MD := (yX8_bestPeriod, cX8_bestPeriod, 2, (some .int), { frames := 7, cells := 1, slots := 6, locals := 116 }, [])
def mX8_meanAge : MD := (yX8_meanAge, cX8_meanAge, 3, (some .double), { frames := 7, cells := 1, slots := 6, locals := 116 }, [])
def mX8_median : MD := (yX8_median, cX8_median, 2, (some .int), { frames := 7, cells := 1, slots := 6, locals := 116 }, [])
def mX8_demandsWithin : MD := (yX8_demandsWithin, cX8_demandsWithin, 4, (some .int), { frames := 7, cells := 1, slots := 6, locals := 116 }, [])
def mX8_eldest : MD := (yX8_eldest, cX8_eldest, 8, (some .int), { frames := 0, cells := 0, slots := 0, locals := 0 }, [])
def mX8_run : MD := (yX8_run, cX8_run, 4, (some .int), { frames := 7, cells := 1, slots := 6, locals := 138 }, [])
def mX8_push : MD := (yX8_push, cX8_push, 4, (some .int), { frames := 7, cells := 2, slots := 12, locals := 134 }, [])
def mX8_protect : MD := (yX8_protect, cX8_protect, 7, (some .boolean), { frames := 6, cells := 1, slots := 6, locals := 134 }, [])
def mX8_grow : MD := (yX8_grow, cX8_grow, 5, (some .int), { frames := 7, cells := 3, slots := 18, locals := 134 }, [])
def mX8_drop : MD := (yX8_drop, cX8_drop, 5, (some .int), { frames := 6, cells := 2, slots := 12, locals := 134 }, [])
def mX8_dropCold : MD := (yX8_dropCold, cX8_dropCold, 5, (some .int), { frames := 7, cells := 1, slots := 6, locals := 134 }, [])
def mX8_transfer : MD := (yX8_transfer, cX8_transfer, 6, (some .int), { frames := 7, cells := 5, slots := 30, locals := 134 }, [])
def mX8_pause : MD := (yX8_pause, cX8_pause, 5, (some .boolean), { frames := 7, cells := 1, slots := 6, locals := 134 }, [])
def mX8_setPolicy : MD := (yX8_setPolicy, cX8_setPolicy, 6, (some .int), { frames := 7, cells := 3, slots := 18, locals := 134 }, [])
def mX8_setTarget : MD := (yX8_setTarget, cX8_setTarget, 5, (some .int), { frames := 7, cells := 2, slots := 12, locals := 134 }, [])
def mX8_setCool : MD := (yX8_setCool, cX8_setCool, 6, (some .int), { frames := 7, cells := 3, slots := 18, locals := 134 }, [])
def mX8_setBounds : MD := (yX8_setBounds, cX8_setBounds, 6, (some .int), { frames := 7, cells := 3, slots := 18, locals := 134 }, [])
def mX8_setLoad : MD := (yX8_setLoad, cX8_setLoad, 6, (some .int), { frames := 7, cells := 3, slots := 18, locals := 134 }, [])
def mX8_hurry : MD := (yX8_hurry, cX8_hurry, 5, (some .int), { frames := 7, cells := 1, slots := 6, locals := 138 }, [])
def mX8_sizeIn : MD := (yX8_sizeIn, cX8_sizeIn, 4, (some .int), { frames := 8, cells := 2, slots := 12, locals := 161 }, [])
def mX8_missedIn : MD := (yX8_missedIn, cX8_missedIn, 6, (some .long), { frames := 8, cells := 2, slots := 12, locals := 161 }, [])
def mX8_costIn : MD := (yX8_costIn, cX8_costIn, 3, (some .long), { frames := 8, cells := 2, slots := 12, locals := 164 }, [])
def mX8_missesIn : MD := (yX8_missesIn, cX8_missesIn, 7, (some .int), { frames := 8, cells := 2, slots := 12, locals := 139 }, [])
def mX8_changesIn : MD := (yX8_changesIn, cX8_changesIn, 4, (some .int), { frames := 8, cells := 2, slots := 12, locals := 161 }, [])
def mX8_settlesIn : MD := (yX8_settlesIn, cX8_settlesIn, 5, (some .int), { frames := 8, cells := 2, slots := 12, locals := 139 }, [])
def mX8_greatestIn : MD := (yX8_greatestIn, cX8_greatestIn, 6, (some .int), { frames := 8, cells := 2, slots := 12, locals := 139 }, [])
def mX8_needed : MD := (yX8_needed, cX8_needed, 7, (some .int), { frames := 7, cells := 2, slots := 12, locals := 117 }, [])
def mX8_errorsWith : MD := (yX8_errorsWith, cX8_errorsWith, 7, (some .long), { frames := 8, cells := 4, slots := 24, locals := 161 }, [])
def mX8_bestPolicy : MD := (yX8_bestPolicy, cX8_bestPolicy, 10, (some .int), { frames := 8, cells := 6, slots := 36, locals := 164 }, [])
def mX8_bestTarget : MD := (yX8_bestTarget, cX8_bestTarget, 10, (some .int), { frames := 8, cells := 20, slots := 120, locals := 164 }, [])
def mX8_bestCool : MD := (yX8_bestCool, cX8_bestCool, 10, (some .int), { frames := 8, cells := 14, slots := 84, locals := 164 }, [])
def mX8_startTrial : MD := (yX8_startTrial, cX8_startTrial, 3, (some (.object "PoolScaler$Pool")), { frames := 7, cells := 2, slots := 12, locals := 117 }, [])
def mX8_tryTick : MD := (yX8_tryTick, cX8_tryTick, 2, none, { frames := 5, cells := 0, slots := 0, locals := 117 }, [])
def mX8_tryTicks : MD := (yX8_tryTicks, cX8_tryTicks, 4, none, { frames := 6, cells := 0, slots := 0, locals := 138 }, [])
def mX8_tryCost : MD := (yX8_tryCost, cX8_tryCost, 7, (some .long), { frames := 6, cells := 0, slots := 0, locals := 138 }, [])
def mX8_printPool : MD := (yX8_printPool, cX8_printPool, 5, (some .int), { frames := 7, cells := 1, slots := 6, locals := 116 }, [])
def mX8_outputByte : MD := (yX8_outputByte, cX8_outputByte, 2, (some .int), { frames := 0, cells := 0, slots := 0, locals := 0 }, [])
def mX8_undo : MD := (yX8_undo, cX8_undo, 1, (some .int), { frames := 4, cells := 0, slots := 0, locals := 112 }, [])
def mX8_saveState : MD := (yX8_saveState, cX8_saveState, 1, (some .int), { frames := 4, cells := 0, slots := 0, locals := 112 }, [])
def mX8_restoreState : MD := (yX8_restoreState, cX8_restoreState, 1, (some .int), { frames := 6, cells := 1, slots := 6, locals := 112 }, [])
def mX8_remember : MD := (yX8_remember, cX8_remember, 3, none, { frames := 4, cells := 0, slots := 0, locals := 112 }, [])
def mX8_existingPool : MD := (yX8_existingPool, cX8_existingPool, 2, (some (.object "PoolScaler$Pool")), { frames := 6, cells := 1, slots := 6, locals := 95 }, [])
def mX8_requireRange : MD := (yX8_requireRange, cX8_requireRange, 3, none, { frames := 6, cells := 1, slots := 6, locals := 95 }, [])
def mX8_dividedUp : MD := (yX8_dividedUp, cX8_dividedUp, 2, (some .int), { frames := 0, cells := 0, slots := 0, locals := 0 }, [])
def mX9_init : MD := (yX9_init, cX9_init, 1, none, { frames := 3, cells := 13, slots := 14835, locals := 73 }, [])
def mX9_thrown : MD := (yX9_thrown, cX9_thrown, 1, (some .int), { frames := 0, cells := 0, slots := 0, locals := 0 }, [])
def mX9_inRange : MD := (yX9_inRange, cX9_inRange, 3, (some .boolean), { frames := 0, cells := 0, slots := 0, locals := 0 }, [])
def mX9_fails : MD := (yX9_fails, cX9_fails, 3, (some .boolean), { frames := 0, cells := 0, slots := 0, locals := 0 }, [])
def mX9_copies : MD := (yX9_copies, cX9_copies, 5, none, { frames := 0, cells := 0, slots := 0, locals := 0 }, [])
def mX9_copies_ : MD := (yX9_copies_, cX9_copies_, 5, none, { frames := 0, cells := 0, slots := 0, locals := 0 }, [])
def mX9_clear : MD := (yX9_clear, cX9_clear, 2, none, { frames := 0, cells := 0, slots := 0, locals := 0 }, [])
def mX9_up : MD := (yX9_up, cX9_up, 2, (some .int), { frames := 0, cells := 0, slots := 0, locals := 0 }, [])
def mX9_of : MD := (yX9_of, cX9_of, 3, (some .int), { frames := 0, cells := 0, slots := 0, locals := 0 }, [])
def mX9_put : MD := (yX9_put, cX9_put, 4, none, { frames := 0, cells := 0, slots := 0, locals := 0 }, [])
def mX9_adds : MD := (yX9_adds, cX9_adds, 4, none, { frames := 0, cells := 0, slots := 0, locals := 0 }, [])
def mX9_sumOf : MD := (yX9_sumOf, cX9_sumOf, 3, (some .long), { frames := 0, cells := 0, slots := 0, locals := 0 }, [])
def mX9_comesPool : MD := (yX9_comesPool, cX9_comesPool, 6, none, { frames := 2, cells := 0, slots := 0, locals := 48 }, [])
def mX9_remembers : MD := (yX9_remembers, cX9_remembers, 2, none, { frames := 1, cells := 0, slots := 0, locals := 24 }, [])
def mX9_begins : MD := (yX9_begins, cX9_begins, 1, none, { frames := 1, cells := 0, slots := 0, locals := 24 }, [])
def mX9_ends : MD := (yX9_ends, cX9_ends, 1, none, { frames := 1, cells := 0, slots := 0, locals := 24 }, [])
def mX9_joins : MD := (yX9_joins, cX9_joins, 6, (some .int), { frames := 1, cells := 0, slots := 0, locals := 23 }, [])
def mX9_tells : MD := (yX9_tells, cX9_tells, 5, none, { frames := 0, cells := 0, slots := 0, locals := 0 }, [])
def mX9_comes : MD := (yX9_comes, cX9_comes, 4, (some .int), { frames := 2, cells := 0, slots := 0, locals := 48 }, [])
def mX9_goes : MD := (yX9_goes, cX9_goes, 4, none, { frames := 1, cells := 0, slots := 0, locals := 24 }, [])
def mX9_isReady : MD := (yX9_isReady, cX9_isReady, 3, (some .boolean), { frames := 1, cells := 0, slots := 0, locals := 22 }, [])
def mX9_isGuarded : MD := (yX9_isGuarded, cX9_isGuarded, 3, (some .boolean), { frames := 1, cells := 0, slots := 0, locals := 22 }, [])
def mX9_readyMany : MD := (yX9_readyMany, cX9_readyMany, 4, (some .int), { frames := 2, cells := 0, slots := 0, locals := 44 }, [])
def mX9_guardedMany : MD := (yX9_guardedMany, cX9_guardedMany, 4, (some .int), { frames := 2, cells := 0, slots := 0, locals := 44 }, [])
def mX9_power : MD := (yX9_power, cX9_power, 2, (some .int), { frames := 3, cells := 0, slots := 0, locals := 67 }, [])
def mX9_isAhead : MD := (yX9_isAhead, cX9_isAhead, 5, (some .boolean), { frames := 1, cells := 0, slots := 0, locals := 22 }, [])
def mX9_dropped : MD := (yX9_dropped, cX9_dropped, 4, (some .int), { frames := 2, cells := 0, slots := 0, locals := 46 }, [])
def mX9_told : MD := (yX9_told, cX9_told, 3, (some .int), { frames := 1, cells := 0, slots := 0, locals := 22 }, [])
def mX9_back : MD := (yX9_back, cX9_back, 3, (some .int), { frames := 1, cells := 0, slots := 0, locals := 22 }, [])
def mX9_windowOf : MD := (yX9_windowOf, cX9_windowOf, 2, (some .int), { frames := 1, cells := 0, slots := 0, locals := 22 }, [])
def mX9_windowSum : MD := (yX9_windowSum, cX9_windowSum, 4, (some .int), { frames := 2, cells := 0, slots := 0, locals := 44 }, [])
def mX9_foresees : MD := (yX9_foresees, cX9_foresees, 5, (some .int), { frames := 3, cells := 0, slots := 0, locals := 67 }, [])
def mX9_meets : MD := (yX9_meets, cX9_meets, 7, none, { frames := 4, cells := 0, slots := 0, locals := 88 }, [])
def mX9_looksAhead : MD := (yX9_looksAhead, cX9_looksAhead, 4, none, { frames := 4, cells := 0, slots := 0, locals := 91 }, [])
def mX9_decides : MD := (yX9_decides, cX9_decides, 4, (some .int), { frames := 3, cells := 0, slots := 0, locals := 69 }, [])
def mX9_acts : MD := (yX9_acts, cX9_acts, 6, none, { frames := 4, cells := 0, slots := 0, locals := 92 }, [])
def mX9_tick : MD := (yX9_tick, cX9_tick, 2, none, { frames := 5, cells := 0, slots := 0, locals := 117 }, [])
def mX9_runs : MD := (yX9_runs, cX9_runs, 4, (some .int), { frames := 6, cells := 0, slots := 0, locals := 138 }, [])
def mX9_appendWord : MD := (yX9_appendWord, cX9_appendWord, 3, none, { frames := 0, cells := 0, slots := 0, locals := 0 }, [])
def mX9_appendInput : MD := (yX9_appendInput, cX9_appendInput, 6, (some .int), { frames := 1, cells := 0, slots := 0, locals := 22 }, [])
def mX9_truncateInput : MD := (yX9_truncateInput, cX9_truncateInput, 2, (some .boolean), { frames := 1, cells := 0, slots := 0, locals := 22 }, [])
def mX9_byteAt : MD := (yX9_byteAt, cX9_byteAt, 2, (some .int), { frames := 0, cells := 0, slots := 0, locals := 0 }, [])
def mX9_advanceToken : MD := (yX9_advanceToken, cX9_advanceToken, 2, none, { frames := 1, cells := 0, slots := 0, locals := 22 }, [])
def mX9_tokenLength : MD := (yX9_tokenLength, cX9_tokenLength, 1, (some .int), { frames := 0, cells := 0, slots := 0, locals := 0 }, [])
def mX9_failsAt : MD := (yX9_failsAt, cX9_failsAt, 2, (some .boolean), { frames := 0, cells := 0, slots := 0, locals := 0 }, [])
def mX9_isWord : MD := (yX9_isWord, cX9_isWord, 3, (some .boolean), { frames := 5, cells := 0, slots := 0, locals := 106 }, [])
def mX9_takes : MD := (yX9_takes, cX9_takes, 4, (some .boolean), { frames := 2, cells := 0, slots := 0, locals := 43 }, [])
def mX9_readPool : MD := (yX9_readPool, cX9_readPool, 1, (some .boolean), { frames := 3, cells := 0, slots := 0, locals := 73 }, [])
def mX9_startsOnce : MD := (yX9_startsOnce, cX9_startsOnce, 2, (some .boolean), { frames := 2, cells := 0, slots := 0, locals := 43 }, [])
def mX9_sets : MD := (yX9_sets, cX9_sets, 3, none, { frames := 1, cells := 0, slots := 0, locals := 23 }, [])
def mX9_readOne : MD := (yX9_readOne, cX9_readOne, 5, (some .boolean), { frames := 3, cells := 0, slots := 0, locals := 66 }, [])
def mX9_readTwo : MD := (yX9_readTwo, cX9_readTwo, 5, (some .boolean), { frames := 3, cells := 0, slots := 0, locals := 66 }, [])
def mX9_readPolicy : MD := (yX9_readPolicy, cX9_readPolicy, 2, (some .boolean), { frames := 6, cells := 0, slots := 0, locals := 128 }, [])
def mX9_readRule : MD := (yX9_readRule, cX9_readRule, 2, (some .boolean), { frames := 6, cells := 0, slots := 0, locals := 128 }, [])
def mX9_readLoad : MD := (yX9_readLoad, cX9_readLoad, 2, (some .boolean), { frames := 3, cells := 0, slots := 0, locals := 66 }, [])
def mX9_readGuard : MD := (yX9_readGuard, cX9_readGuard, 2, (some .boolean), { frames := 3, cells := 0, slots := 0, locals := 66 }, [])
def mX9_readSetting : MD := (yX9_readSetting, cX9_readSetting, 1, (some .boolean), { frames := 7, cells := 0, slots := 0, locals := 149 }, [])
def mX9_readStatement : MD := (yX9_readStatement, cX9_readStatement, 1, (some .boolean), { frames := 8, cells := 0, slots := 0, locals := 169 }, [])
def mX9_readText : MD := (yX9_readText, cX9_readText, 1, (some .boolean), { frames := 9, cells := 0, slots := 0, locals := 189 }, [])
def mX9_loadPools : MD := (yX9_loadPools, cX9_loadPools, 2, (some .int), { frames := 10, cells := 0, slots := 0, locals := 209 }, [])
def mX9_errorCode : MD := (yX9_errorCode, cX9_errorCode, 1, (some .int), { frames := 0, cells := 0, slots := 0, locals := 0 }, [])
def mX9_errorOffset : MD := (yX9_errorOffset, cX9_errorOffset, 1, (some .int), { frames := 0, cells := 0, slots := 0, locals := 0 }, [])
def mX9_sizes : MD := (yX9_sizes, cX9_sizes, 3, (some .int), { frames := 1, cells := 0, slots := 0, locals := 22 }, [])
def mX9_count : MD := (yX9_count, cX9_count, 2, (some .int), { frames := 2, cells := 0, slots := 0, locals := 44 }, [])
def mX9_noPool : MD := (yX9_noPool, cX9_noPool, 2, (some .boolean), { frames := 1, cells := 0, slots := 0, locals := 22 }, [])
def mX9_pool : MD := (yX9_pool, cX9_pool, 3, (some .int), { frames := 3, cells := 0, slots := 0, locals := 67 }, [])
def mX9_finds : MD := (yX9_finds, cX9_finds, 4, (some .boolean), { frames := 1, cells := 0, slots := 0, locals := 22 }, [])
def mX9_member : MD := (yX9_member, cX9_member, 3, (some .int), { frames := 2, cells := 0, slots := 0, locals := 45 }, [])
def mX9_memberAt : MD := (yX9_memberAt, cX9_memberAt, 3, (some .int), { frames := 2, cells := 0, slots := 0, locals := 43 }, [])
def mX9_knownDemands : MD := (yX9_knownDemands, cX9_knownDemands, 2, (some .int), { frames := 1, cells := 0, slots := 0, locals := 22 }, [])
def mX9_demand : MD := (yX9_demand, cX9_demand, 3, (some .int), { frames := 2, cells := 0, slots := 0, locals := 44 }, [])
def mX9_plannedAt : MD := (yX9_plannedAt, cX9_plannedAt, 3, (some .int), { frames := 2, cells := 0, slots := 0, locals := 44 }, [])
def mX9_planned : MD := (yX9_planned, cX9_planned, 3, (some .int), { frames := 3, cells := 0, slots := 0, locals := 66 }, [])
def mX9_measured : MD := (yX9_measured, cX9_measured, 4, (some .int), { frames := 4, cells := 0, slots := 0, locals := 88 }, [])
def mX9_measure : MD := (yX9_measure, cX9_measure, 2, (some .int), { frames := 5, cells := 0, slots := 0, locals := 111 }, [])
def mX9_busiest : MD := (yX9_busiest, cX9_busiest, 3, (some .int), { frames := 5, cells := 0, slots := 0, locals := 111 }, [])
def mX9_forecast : MD := (yX9_forecast, cX9_forecast, 2, (some .int), { frames := 2, cells := 0, slots := 0, locals := 43 }, [])
def mX9_wanted : MD := (yX9_wanted, cX9_wanted, 2, (some .int), { frames := 2, cells := 0, slots := 0, locals := 43 }, [])
def mX9_meanError : MD := (yX9_meanError, cX9_meanError, 2, (some .double), { frames := 2, cells := 0, slots := 0, locals := 43 }, [])
def mX9_nextDropped : MD := (yX9_nextDropped, cX9_nextDropped, 3, (some .int), { frames := 3, cells := 0, slots := 0, locals := 69 }, [])
def mX9_coolLeft : MD := (yX9_coolLeft, cX9_coolLeft, 5, (some .int), { frames := 2, cells := 0, slots := 0, locals := 43 }, [])
def mX9_served : MD := (yX9_served, cX9_served, 2, (some .long), { frames := 2, cells := 0, slots := 0, locals := 43 }, [])
def mX9_missed : MD := (yX9_missed, cX9_missed, 2, (some .long), { frames := 2, cells := 0, slots := 0, locals := 43 }, [])
def mX9_cost : MD := (yX9_cost, cX9_cost, 2, (some .long), { frames := 2, cells := 0, slots := 0, locals := 43 }, [])
def mX9_missedShare : MD := (yX9_missedShare, cX9_missedShare, 2, (some .float), { frames := 2, cells := 0, slots := 0, locals := 43 }, [])
def mX9_used : MD := (yX9_used, cX9_used, 2, (some .double), { frames := 2, cells := 0, slots := 0, locals := 43 }, [])
def mX9_peak : MD := (yX9_peak, cX9_peak, 2, (some .int), { frames := 2, cells := 0, slots := 0, locals := 43 }, [])
def mX9_longestMiss : MD := (yX9_longestMiss, cX9_longestMiss, 2, (some .int), { frames := 2, cells := 0, slots := 0, locals := 43 }, [])
def mX9_headroom : MD := (yX9_headroom, cX9_headroom, 2, (some .int), { frames := 4, cells := 0, slots := 0, locals := 88 }, [])
def mX9_meanAge : MD := (yX9_meanAge, cX9_meanAge, 4, (some .double), { frames := 2, cells := 0, slots := 0, locals := 43 }, [])
def mX9_decisions : MD := (yX9_decisions, cX9_decisions, 3, (some .int), { frames := 2, cells := 0, slots := 0, locals := 43 }, [])
def mX9_event : MD := (yX9_event, cX9_event, 3, (some .int), { frames := 1, cells := 0, slots := 0, locals := 22 }, [])
def mX9_run : MD := (yX9_run, cX9_run, 2, (some .int), { frames := 7, cells := 0, slots := 0, locals := 161 }, [])
def mX9_push : MD := (yX9_push, cX9_push, 3, (some .int), { frames := 2, cells := 0, slots := 0, locals := 45 }, [])
def mX9_protect : MD := (yX9_protect, cX9_protect, 4, (some .boolean), { frames := 2, cells := 0, slots := 0, locals := 45 }, [])
def mX9_grow : MD := (yX9_grow, cX9_grow, 5, (some .int), { frames := 3, cells := 0, slots := 0, locals := 71 }, [])
def mX9_mustStay : MD := (yX9_mustStay, cX9_mustStay, 1, (some .boolean), { frames := 2, cells := 0, slots := 0, locals := 44 }, [])
def mX9_drop : MD := (yX9_drop, cX9_drop, 2, (some .int), { frames := 3, cells := 0, slots := 0, locals := 64 }, [])
def mX9_transfer : MD := (yX9_transfer, cX9_transfer, 4, (some .int), { frames := 3, cells := 0, slots := 0, locals := 71 }, [])
def mX9_lastCold : MD := (yX9_lastCold, cX9_lastCold, 3, (some .int), { frames := 2, cells := 0, slots := 0, locals := 44 }, [])
def mX9_dropCold : MD := (yX9_dropCold, cX9_dropCold, 3, (some .int), { frames := 3, cells := 0, slots := 0, locals := 66 }, [])
def mX9_hurry : MD := (yX9_hurry, cX9_hurry, 4, (some .int), { frames := 6, cells := 0, slots := 0, locals := 138 }, [])
def mX9_pause : MD := (yX9_pause, cX9_pause, 4, (some .boolean), { frames := 2, cells := 0, slots := 0, locals := 45 }, [])
def mX9_setPolicy : MD := (yX9_setPolicy, cX9_setPolicy, 5, (some .int), { frames := 2, cells := 0, slots := 0, locals := 45 }, [])
def mX9_setTarget : MD := (yX9_setTarget, cX9_setTarget, 4, (some .int), { frames := 2, cells := 0, slots := 0, locals := 45 }, [])
def mX9_setCool : MD := (yX9_setCool, cX9_setCool, 5, (some .int), { frames := 2, cells := 0, slots := 0, locals := 45 }, [])
def mX9_setBounds : MD := (yX9_setBounds, cX9_setBounds, 5, (some .int), { frames := 2, cells := 0, slots := 0, locals := 45 }, [])
def mX9_setLoad : MD := (yX9_setLoad, cX9_setLoad, 5, (some .int), { frames := 2, cells := 0, slots := 0, locals := 45 }, [])
def mX9_noSpan : MD := (yX9_noSpan, cX9_noSpan, 3, (some .boolean), { frames := 2, cells := 0, slots := 0, locals := 43 }, [])
def mX9_sizeIn : MD := (yX9_sizeIn, cX9_sizeIn, 4, (some .int), { frames := 7, cells := 0, slots := 0, locals := 161 }, [])
def mX9_greatestIn : MD := (yX9_greatestIn, cX9_greatestIn, 5, (some .int), { frames := 6, cells := 0, slots := 0, locals := 138 }, [])
def mX9_growsIn : MD := (yX9_growsIn, cX9_growsIn, 8, (some .long), { frames := 7, cells := 0, slots := 0, locals := 161 }, [])
def mX9_missedIn : MD := (yX9_missedIn, cX9_missedIn, 3, (some .long), { frames := 8, cells := 0, slots := 0, locals := 188 }, [])
def mX9_costIn : MD := (yX9_costIn, cX9_costIn, 3, (some .long), { frames := 8, cells := 0, slots := 0, locals := 188 }, [])
def mX9_missesIn : MD := (yX9_missesIn, cX9_missesIn, 7, (some .int), { frames := 6, cells := 0, slots := 0, locals := 138 }, [])
def mX9_settlesIn : MD := (yX9_settlesIn, cX9_settlesIn, 5, (some .int), { frames := 6, cells := 0, slots := 0, locals := 138 }, [])
def mX9_changesIn : MD := (yX9_changesIn, cX9_changesIn, 7, (some .int), { frames := 6, cells := 0, slots := 0, locals := 138 }, [])
def mX9_tries : MD := (yX9_tries, cX9_tries, 4, none, { frames := 1, cells := 0, slots := 0, locals := 23 }, [])
def mX9_errorsWith : MD := (yX9_errorsWith, cX9_errorsWith, 4, (some .long), { frames := 8, cells := 0, slots := 0, locals := 188 }, [])
def mX9_bestPolicy : MD := (yX9_bestPolicy, cX9_bestPolicy, 9, (some .int), { frames := 8, cells := 0, slots := 0, locals := 188 }, [])
def mX9_bestOf : MD := (yX9_bestOf, cX9_bestOf, 13, (some .int), { frames := 8, cells := 0, slots := 0, locals := 188 }, [])
def mX9_bestTarget : MD := (yX9_bestTarget, cX9_bestTarget, 3, (some .int), { frames := 9, cells := 0, slots := 0, locals := 220 }, [])
def mX9_bestCool : MD := (yX9_bestCool, cX9_bestCool, 3, (some .int), { frames := 9, cells := 0, slots := 0, locals := 220 }, [])
def mX9_apart : MD := (yX9_apart, cX9_apart, 7, (some .double), { frames := 2, cells := 0, slots := 0, locals := 44 }, [])
def mX9_bestPeriod : MD := (yX9_bestPeriod, cX9_bestPeriod, 4, (some .int), { frames := 3, cells := 0, slots := 0, locals := 70 }, [])
def mX9_within : MD := (yX9_within, cX9_within, 6, (some .int), { frames := 2, cells := 0, slots := 0, locals := 44 }, [])
def mX9_demandsWithin : MD := (yX9_demandsWithin, cX9_demandsWithin, 4, (some .int), { frames := 3, cells := 0, slots := 0, locals := 69 }, [])
def mX9_median : MD := (yX9_median, cX9_median, 4, (some .int), { frames := 3, cells := 0, slots := 0, locals := 69 }, [])
def mX9_eldest : MD := (yX9_eldest, cX9_eldest, 7, (some .int), { frames := 1, cells := 0, slots := 0, locals := 22 }, [])
def mX9_needed : MD := (yX9_needed, cX9_needed, 5, (some .int), { frames := 3, cells := 0, slots := 0, locals := 66 }, [])
def mX9_write : MD := (yX9_write, cX9_write, 2, none, { frames := 0, cells := 0, slots := 0, locals := 0 }, [])
def mX9_writeNumber : MD := (yX9_writeNumber, cX9_writeNumber, 3, none, { frames := 1, cells := 0, slots := 0, locals := 21 }, [])
def mX9_printPool : MD := (yX9_printPool, cX9_printPool, 3, (some .int), { frames := 4, cells := 0, slots := 0, locals := 88 }, [])
def mX9_outputByte : MD := (yX9_outputByte, cX9_outputByte, 2, (some .int), { frames := 1, cells := 0, slots := 0, locals := 22 }, [])
def mX9_undo : MD := (yX9_undo, cX9_undo, 1, (some .int), { frames := 1, cells := 0, slots := 0, locals := 24 }, [])
def mX9_saveState : MD := (yX9_saveState, cX9_saveState, 1, (some .int), { frames := 1, cells := 0, slots := 0, locals := 24 }, [])
def mX9_restoreState : MD := (yX9_restoreState, cX9_restoreState, 1, (some .int), { frames := 1, cells := 0, slots := 0, locals := 24 }, [])
def mJ9_floorMod_7cf53 : MD := (yJ9_floorMod_7cf53, cJ9_floorMod_7cf53, 3, (some .int), { frames := 0, cells := 0, slots := 0, locals := 0 }, [])
def mJ9_abs_0f7a4 : MD := (yJ9_abs_0f7a4, cJ9_abs_0f7a4, 1, (some .int), { frames := 0, cells := 0, slots := 0, locals := 0 }, [])
def mJ9_max_7cf53 : MD := (yJ9_max_7cf53, cJ9_max_7cf53, 2, (some .int), { frames := 0, cells := 0, slots := 0, locals := 0 }, [])
def mJ9_min_7cf53 : MD := (yJ9_min_7cf53, cJ9_min_7cf53, 2, (some .int), { frames := 0, cells := 0, slots := 0, locals := 0 }, [])
def mJ0_length_8abf5 : MD := (yJ0_length_8abf5, cJ0_length_8abf5, 1, (some .int), { frames := 1, cells := 0, slots := 0, locals := 20 }, [])
def mJ0_charAt_5068e : MD := (yJ0_charAt_5068e, cJ0_charAt_5068e, 2, (some .char), { frames := 4, cells := 0, slots := 0, locals := 85 }, [])
def mJ0_coder_7d493 : MD := (yJ0_coder_7d493, cJ0_coder_7d493, 1, (some .byte), { frames := 0, cells := 0, slots := 0, locals := 0 }, [])
def mJ0_isLatin1_aae02 : MD := (yJ0_isLatin1_aae02, cJ0_isLatin1_aae02, 1, (some .boolean), { frames := 0, cells := 0, slots := 0, locals := 0 }, [])
def mJ0_checkIndex_df160 : MD := (yJ0_checkIndex_df160, cJ0_checkIndex_df160, 2, none, { frames := 1, cells := 0, slots := 0, locals := 22 }, [])
def mJ1_charAt_3b067 : MD := (yJ1_charAt_3b067, cJ1_charAt_3b067, 2, (some .char), { frames := 2, cells := 0, slots := 0, locals := 43 }, [])
def mJ2_getChar_3b067 : MD := (yJ2_getChar_3b067, cJ2_getChar_3b067, 2, (some .char), { frames := 1, cells := 0, slots := 0, locals := 20 }, [])
def mJ2_length_9d52b : MD := (yJ2_length_9d52b, cJ2_length_9d52b, 1, (some .int), { frames := 0, cells := 0, slots := 0, locals := 0 }, [])
def mJ2_charAt_3b067 : MD := (yJ2_charAt_3b067, cJ2_charAt_3b067, 2, (some .char), { frames := 3, cells := 0, slots := 0, locals := 64 }, [])
def mJ2_checkIndex_2214a : MD := (yJ2_checkIndex_2214a, cJ2_checkIndex_2214a, 2, none, { frames := 2, cells := 0, slots := 0, locals := 43 }, [])
def mJ7_fill_53178 : MD := (yJ7_fill_53178, cJ7_fill_53178, 4, none, { frames := 0, cells := 0, slots := 0, locals := 0 }, [])
def mJ3_checkIndex_8e157 : MD := (yJ3_checkIndex_8e157, cJ3_checkIndex_8e157, 3, (some .int), { frames := 0, cells := 0, slots := 0, locals := 0 }, [])
def mL_count : MD := (yL_count, cL_count, 4, (some .int), { frames := 7, cells := 1, slots := 6, locals := 116 }, [(0, 9, 12, 13)])
def mL_pool : MD := (yL_pool, cL_pool, 5, (some .int), { frames := 8, cells := 2, slots := 12, locals := 140 }, [(0, 10, 13, 19), (0, 10, 17, 13)])
def mL_member : MD := (yL_member, cL_member, 5, (some .int), { frames := 8, cells := 2, slots := 12, locals := 142 }, [(0, 10, 13, 13), (0, 10, 17, 24)])
def mL_memberAt : MD := (yL_memberAt, cL_memberAt, 5, (some .int), { frames := 8, cells := 2, slots := 12, locals := 139 }, [(0, 10, 13, 19), (0, 10, 17, 24)])
def mL_demand : MD := (yL_demand, cL_demand, 5, (some .int), { frames := 8, cells := 2, slots := 12, locals := 139 }, [(0, 10, 13, 19), (0, 10, 17, 24)])
def mL_planned : MD := (yL_planned, cL_planned, 5, (some .int), { frames := 8, cells := 2, slots := 12, locals := 140 }, [(0, 10, 13, 19), (0, 10, 17, 13)])
def mL_measure : MD := (yL_measure, cL_measure, 4, (some .int), { frames := 8, cells := 1, slots := 6, locals := 137 }, [(0, 9, 12, 19)])
def mL_forecast : MD := (yL_forecast, cL_forecast, 4, (some .int), { frames := 8, cells := 1, slots := 6, locals := 137 }, [(0, 9, 12, 19)])
def mL_wanted : MD := (yL_wanted, cL_wanted, 4, (some .int), { frames := 8, cells := 1, slots := 6, locals := 137 }, [(0, 9, 12, 19)])
def mL_meanError : MD := (yL_meanError, cL_meanError, 4, (some .int), { frames := 8, cells := 1, slots := 6, locals := 138 }, [(0, 8, 11, 19)])
def mL_nextDropped : MD := (yL_nextDropped, cL_nextDropped, 4, (some .int), { frames := 8, cells := 1, slots := 6, locals := 139 }, [(0, 9, 12, 19)])
def mL_coolLeft : MD := (yL_coolLeft, cL_coolLeft, 5, (some .int), { frames := 8, cells := 1, slots := 6, locals := 140 }, [(0, 10, 13, 19)])
def mL_served : MD := (yL_served, cL_served, 4, (some .int), { frames := 8, cells := 1, slots := 6, locals := 137 }, [(0, 8, 11, 19)])
def mL_missed : MD := (yL_missed, cL_missed, 4, (some .int), { frames := 8, cells := 1, slots := 6, locals := 137 }, [(0, 8, 11, 19)])
def mL_cost : MD := (yL_cost, cL_cost, 4, (some .int), { frames := 8, cells := 1, slots := 6, locals := 137 }, [(0, 8, 11, 19)])
def mL_missedShare : MD := (yL_missedShare, cL_missedShare, 4, (some .int), { frames := 8, cells := 1, slots := 6, locals := 140 }, [(0, 9, 12, 19)])
def mL_used : MD := (yL_used, cL_used, 4, (some .int), { frames := 8, cells := 1, slots := 6, locals := 138 }, [(0, 8, 11, 19)])
def mL_peak : MD := (yL_peak, cL_peak, 4, (some .int), { frames := 8, cells := 1, slots := 6, locals := 137 }, [(0, 9, 12, 19)])
def mL_decisions : MD := (yL_decisions, cL_decisions, 5, (some .int), { frames := 8, cells := 2, slots := 12, locals := 140 }, [(0, 10, 13, 19), (0, 10, 17, 13)])
def mL_event : MD := (yL_event, cL_event, 5, (some .int), { frames := 8, cells := 2, slots := 12, locals := 139 }, [(0, 10, 13, 13), (0, 10, 17, 24)])
def mL_run : MD := (yL_run, cL_run, 4, (some .int), { frames := 8, cells := 1, slots := 6, locals := 161 }, [(0, 9, 12, 13)])
def mL_push : MD := (yL_push, cL_push, 5, (some .int), { frames := 8, cells := 2, slots := 12, locals := 157 }, [(0, 10, 13, 19), (0, 10, 17, 13)])
def mL_protect : MD := (yL_protect, cL_protect, 5, (some .int), { frames := 7, cells := 1, slots := 6, locals := 160 }, [(0, 17, 20, 24)])
def mL_grow : MD := (yL_grow, cL_grow, 5, (some .int), { frames := 8, cells := 3, slots := 18, locals := 158 }, [(0, 10, 13, 19), (0, 10, 17, 13), (0, 10, 21, 94)])
def mL_drop : MD := (yL_drop, cL_drop, 4, (some .int), { frames := 7, cells := 2, slots := 12, locals := 158 }, [(0, 9, 12, 94), (0, 9, 15, 24)])
def mL_pause : MD := (yL_pause, cL_pause, 5, (some .int), { frames := 8, cells := 1, slots := 6, locals := 158 }, [(0, 17, 20, 19)])
def mL_setPolicy : MD := (yL_setPolicy, cL_setPolicy, 6, (some .int), { frames := 8, cells := 3, slots := 18, locals := 159 }, [(0, 12, 15, 19), (0, 12, 19, 13)])
def mL_setTarget : MD := (yL_setTarget, cL_setTarget, 5, (some .int), { frames := 8, cells := 2, slots := 12, locals := 158 }, [(0, 10, 13, 19), (0, 10, 17, 13)])
def mL_setCool : MD := (yL_setCool, cL_setCool, 6, (some .int), { frames := 8, cells := 3, slots := 18, locals := 159 }, [(0, 12, 15, 19), (0, 12, 19, 13)])
def mL_setBounds : MD := (yL_setBounds, cL_setBounds, 6, (some .int), { frames := 8, cells := 3, slots := 18, locals := 159 }, [(0, 12, 15, 19), (0, 12, 19, 13)])
def mL_sizeIn : MD := (yL_sizeIn, cL_sizeIn, 5, (some .int), { frames := 9, cells := 2, slots := 12, locals := 184 }, [(0, 10, 13, 19), (0, 10, 17, 13)])
def mL_missedIn : MD := (yL_missedIn, cL_missedIn, 5, (some .int), { frames := 9, cells := 2, slots := 12, locals := 186 }, [(0, 9, 12, 19), (0, 9, 16, 13)])
def mL_costIn : MD := (yL_costIn, cL_costIn, 5, (some .int), { frames := 9, cells := 2, slots := 12, locals := 186 }, [(0, 9, 12, 19), (0, 9, 16, 13)])
def mL_missesIn : MD := (yL_missesIn, cL_missesIn, 5, (some .int), { frames := 9, cells := 2, slots := 12, locals := 165 }, [(0, 10, 13, 19), (0, 10, 17, 13)])
def mL_bestPolicy : MD := (yL_bestPolicy, cL_bestPolicy, 5, (some .int), { frames := 9, cells := 6, slots := 36, locals := 193 }, [(0, 10, 13, 19), (0, 10, 17, 13)])
def mL_bestTarget : MD := (yL_bestTarget, cL_bestTarget, 5, (some .int), { frames := 9, cells := 20, slots := 120, locals := 193 }, [(0, 10, 13, 19), (0, 10, 17, 13)])
def mL_bestPeriod : MD := (yL_bestPeriod, cL_bestPeriod, 4, (some .int), { frames := 8, cells := 1, slots := 6, locals := 137 }, [(0, 9, 12, 19)])
def mL_needed : MD := (yL_needed, cL_needed, 5, (some .int), { frames := 8, cells := 2, slots := 12, locals := 143 }, [(0, 10, 13, 19), (0, 10, 17, 13)])
def mL_transfer : MD := (yL_transfer, cL_transfer, 5, (some .int), { frames := 8, cells := 5, slots := 30, locals := 159 }, [(0, 10, 13, 19), (0, 10, 17, 13), (0, 10, 21, 94), (0, 10, 25, 24)])
def mL_setLoad : MD := (yL_setLoad, cL_setLoad, 6, (some .int), { frames := 8, cells := 3, slots := 18, locals := 159 }, [(0, 12, 15, 19), (0, 12, 19, 13), (0, 12, 23, 24)])
def mL_longestMiss : MD := (yL_longestMiss, cL_longestMiss, 4, (some .int), { frames := 8, cells := 1, slots := 6, locals := 137 }, [(0, 9, 12, 19)])
def mL_headroom : MD := (yL_headroom, cL_headroom, 4, (some .int), { frames := 8, cells := 1, slots := 6, locals := 138 }, [(0, 9, 12, 19)])
def mL_changesIn : MD := (yL_changesIn, cL_changesIn, 5, (some .int), { frames := 9, cells := 2, slots := 12, locals := 184 }, [(0, 10, 13, 19), (0, 10, 17, 13)])
def mL_settlesIn : MD := (yL_settlesIn, cL_settlesIn, 5, (some .int), { frames := 9, cells := 2, slots := 12, locals := 163 }, [(0, 10, 13, 19), (0, 10, 17, 13)])
def mL_bestCool : MD := (yL_bestCool, cL_bestCool, 5, (some .int), { frames := 9, cells := 14, slots := 84, locals := 193 }, [(0, 10, 13, 19), (0, 10, 17, 13)])
def mL_meanAge : MD := (yL_meanAge, cL_meanAge, 4, (some .int), { frames := 8, cells := 1, slots := 6, locals := 138 }, [(0, 8, 11, 19)])
def mL_dropCold : MD := (yL_dropCold, cL_dropCold, 4, (some .int), { frames := 8, cells := 1, slots := 6, locals := 158 }, [(0, 9, 12, 19)])
def mL_hurry : MD := (yL_hurry, cL_hurry, 4, (some .int), { frames := 8, cells := 1, slots := 6, locals := 162 }, [(0, 9, 12, 19)])
def mL_greatestIn : MD := (yL_greatestIn, cL_greatestIn, 5, (some .int), { frames := 9, cells := 2, slots := 12, locals := 164 }, [(0, 10, 13, 19), (0, 10, 17, 13)])
def mL_errorsWith : MD := (yL_errorsWith, cL_errorsWith, 6, (some .int), { frames := 9, cells := 4, slots := 24, locals := 187 }, [(0, 11, 14, 19), (0, 11, 18, 13)])
def mL_median : MD := (yL_median, cL_median, 4, (some .int), { frames := 8, cells := 1, slots := 6, locals := 137 }, [(0, 9, 12, 19)])
def mL_demandsWithin : MD := (yL_demandsWithin, cL_demandsWithin, 6, (some .int), { frames := 8, cells := 1, slots := 6, locals := 139 }, [(0, 12, 15, 19)])
def mL_printPool : MD := (yL_printPool, cL_printPool, 4, (some .int), { frames := 8, cells := 1, slots := 6, locals := 140 }, [(0, 9, 12, 19)])
def mL_restoreState : MD := (yL_restoreState, cL_restoreState, 3, (some .int), { frames := 7, cells := 1, slots := 6, locals := 132 }, [(0, 8, 11, 94)])
theorem fl_X5_9 : FL RX5 9 5 0 := ⟨by decide, by decide, wq_137⟩
theorem fl_X5_21 : FL RX5 21 5 1 := ⟨by decide, by decide, wq_138⟩
theorem fl_X5_42 : FL RX5 42 5 2 := ⟨by decide, by decide, wq_139⟩
theorem fl_X5_56 : FL RX5 56 5 3 := ⟨by decide, by decide, wq_140⟩
theorem fl_X5_25 : FL RX5 25 5 4 := ⟨by decide, by decide, wq_141⟩
theorem fl_X5_192 : FL RX5 192 5 5 := ⟨by decide, by decide, wq_142⟩
theorem fl_X5_66 : FL RX5 66 5 6 := ⟨by decide, by decide, wq_143⟩
theorem fl_X5_28 : FL RX5 28 5 7 := ⟨by decide, by decide, wq_144⟩
theorem fl_X8_66 : FL RX8 66 5 7 := ⟨by decide, by decide, wq_145⟩
theorem fl_X5_31 : FL RX5 31 5 8 := ⟨by decide, by decide, wq_146⟩
theorem fl_X8_69 : FL RX8 69 5 8 := ⟨by decide, by decide, wq_147⟩
theorem fl_X2_9 : FL RX2 9 2 0 := ⟨by decide, by decide, wq_174⟩
theorem fl_X8_380 : FL RX8 380 2 0 := ⟨by decide, by decide, wq_175⟩
theorem fl_X2_15 : FL RX2 15 2 1 := ⟨by decide, by decide, wq_176⟩
theorem fl_X8_371 : FL RX8 371 2 1 := ⟨by decide, by decide, wq_177⟩
theorem fl_X0_9 : FL RX0 9 0 0 := ⟨by decide, by decide, wq_197⟩
theorem fl_X0_15 : FL RX0 15 0 1 := ⟨by decide, by decide, wq_198⟩
theorem fl_X0_18 : FL RX0 18 0 2 := ⟨by decide, by decide, wq_199⟩
theorem fl_X0_21 : FL RX0 21 0 3 := ⟨by decide, by decide, wq_200⟩
theorem fl_X6_35 : FL RX6 35 0 4 := ⟨by decide, by decide, wq_201⟩
theorem fl_X0_30 : FL RX0 30 0 4 := ⟨by decide, by decide, wq_202⟩
theorem fl_X8_100 : FL RX8 100 0 4 := ⟨by decide, by decide, wq_203⟩
theorem fl_X4_15 : FL RX4 15 4 0 := ⟨by decide, by decide, wq_227⟩
theorem fl_X5_177 : FL RX5 177 4 0 := ⟨by decide, by decide, wq_228⟩
theorem fl_X3_122 : FL RX3 122 4 0 := ⟨by decide, by decide, wq_229⟩
theorem fl_X8_337 : FL RX8 337 4 0 := ⟨by decide, by decide, wq_230⟩
theorem fl_X4_19 : FL RX4 19 4 1 := ⟨by decide, by decide, wq_231⟩
theorem fl_X8_301 : FL RX8 301 4 1 := ⟨by decide, by decide, wq_232⟩
theorem fl_X4_22 : FL RX4 22 4 2 := ⟨by decide, by decide, wq_233⟩
theorem fl_X3_96 : FL RX3 96 4 2 := ⟨by decide, by decide, wq_234⟩
theorem fl_X8_359 : FL RX8 359 4 2 := ⟨by decide, by decide, wq_235⟩
theorem fl_X4_25 : FL RX4 25 4 3 := ⟨by decide, by decide, wq_236⟩
theorem fl_X5_124 : FL RX5 124 4 3 := ⟨by decide, by decide, wq_237⟩
theorem fl_X8_334 : FL RX8 334 4 3 := ⟨by decide, by decide, wq_238⟩
theorem fl_X4_28 : FL RX4 28 4 4 := ⟨by decide, by decide, wq_239⟩
theorem fl_X5_127 : FL RX5 127 4 4 := ⟨by decide, by decide, wq_240⟩
theorem fl_X6_119 : FL RX6 119 4 4 := ⟨by decide, by decide, wq_241⟩
theorem fl_X8_308 : FL RX8 308 4 4 := ⟨by decide, by decide, wq_242⟩
theorem fl_X4_31 : FL RX4 31 4 5 := ⟨by decide, by decide, wq_243⟩
theorem fl_X5_130 : FL RX5 130 4 5 := ⟨by decide, by decide, wq_244⟩
theorem fl_X3_112 : FL RX3 112 4 5 := ⟨by decide, by decide, wq_245⟩
theorem fl_X4_34 : FL RX4 34 4 6 := ⟨by decide, by decide, wq_246⟩
theorem fl_X5_133 : FL RX5 133 4 6 := ⟨by decide, by decide, wq_247⟩
theorem fl_X3_176 : FL RX3 176 4 6 := ⟨by decide, by decide, wq_248⟩
theorem fl_X4_37 : FL RX4 37 4 7 := ⟨by decide, by decide, wq_249⟩
theorem fl_X5_148 : FL RX5 148 4 7 := ⟨by decide, by decide, wq_250⟩
theorem fl_X3_158 : FL RX3 158 4 7 := ⟨by decide, by decide, wq_251⟩
theorem fl_X8_328 : FL RX8 328 4 7 := ⟨by decide, by decide, wq_252⟩
theorem fl_X4_40 : FL RX4 40 4 8 := ⟨by decide, by decide, wq_253⟩
theorem fl_X5_155 : FL RX5 155 4 8 := ⟨by decide, by decide, wq_254⟩
theorem fl_X3_182 : FL RX3 182 4 8 := ⟨by decide, by decide, wq_255⟩
theorem fl_X8_331 : FL RX8 331 4 8 := ⟨by decide, by decide, wq_256⟩
theorem fl_X4_43 : FL RX4 43 4 9 := ⟨by decide, by decide, wq_257⟩
theorem fl_X5_160 : FL RX5 160 4 9 := ⟨by decide, by decide, wq_258⟩
theorem fl_X6_128 : FL RX6 128 4 9 := ⟨by decide, by decide, wq_259⟩
theorem fl_X3_197 : FL RX3 197 4 9 := ⟨by decide, by decide, wq_260⟩
theorem fl_X8_221 : FL RX8 221 4 9 := ⟨by decide, by decide, wq_261⟩
theorem fl_X4_46 : FL RX4 46 4 10 := ⟨by decide, by decide, wq_262⟩
theorem fl_X5_110 : FL RX5 110 4 10 := ⟨by decide, by decide, wq_263⟩
theorem fl_X6_105 : FL RX6 105 4 10 := ⟨by decide, by decide, wq_264⟩
theorem fl_X4_49 : FL RX4 49 4 11 := ⟨by decide, by decide, wq_265⟩
theorem fl_X5_115 : FL RX5 115 4 11 := ⟨by decide, by decide, wq_266⟩
theorem fl_X6_125 : FL RX6 125 4 11 := ⟨by decide, by decide, wq_267⟩
theorem fl_X4_52 : FL RX4 52 4 12 := ⟨by decide, by decide, wq_268⟩
theorem fl_X5_118 : FL RX5 118 4 12 := ⟨by decide, by decide, wq_269⟩
theorem fl_X3_191 : FL RX3 191 4 12 := ⟨by decide, by decide, wq_270⟩
theorem fl_X8_230 : FL RX8 230 4 12 := ⟨by decide, by decide, wq_271⟩
theorem fl_X4_55 : FL RX4 55 4 13 := ⟨by decide, by decide, wq_272⟩
theorem fl_X5_121 : FL RX5 121 4 13 := ⟨by decide, by decide, wq_273⟩
theorem fl_X3_194 : FL RX3 194 4 13 := ⟨by decide, by decide, wq_274⟩
theorem fl_X8_236 : FL RX8 236 4 13 := ⟨by decide, by decide, wq_275⟩
theorem fl_X4_58 : FL RX4 58 4 14 := ⟨by decide, by decide, wq_276⟩
theorem fl_X5_136 : FL RX5 136 4 14 := ⟨by decide, by decide, wq_277⟩
theorem fl_X3_141 : FL RX3 141 4 14 := ⟨by decide, by decide, wq_278⟩
theorem fl_X4_61 : FL RX4 61 4 15 := ⟨by decide, by decide, wq_279⟩
theorem fl_X5_139 : FL RX5 139 4 15 := ⟨by decide, by decide, wq_280⟩
theorem fl_X3_144 : FL RX3 144 4 15 := ⟨by decide, by decide, wq_281⟩
theorem fl_X4_9 : FL RX4 9 4 16 := ⟨by decide, by decide, wq_282⟩
theorem fl_X5_167 : FL RX5 167 4 16 := ⟨by decide, by decide, wq_283⟩
theorem fl_X8_342 : FL RX8 342 4 16 := ⟨by decide, by decide, wq_284⟩
theorem fl_X4_64 : FL RX4 64 4 17 := ⟨by decide, by decide, wq_285⟩
theorem fl_X5_171 : FL RX5 171 4 17 := ⟨by decide, by decide, wq_286⟩
theorem fl_X8_339 : FL RX8 339 4 17 := ⟨by decide, by decide, wq_287⟩
theorem fl_X1_9 : FL RX1 9 1 0 := ⟨by decide, by decide, wq_331⟩
theorem fl_X6_72 : FL RX6 72 1 0 := ⟨by decide, by decide, wq_332⟩
theorem fl_X8_185 : FL RX8 185 1 0 := ⟨by decide, by decide, wq_333⟩
theorem fl_X1_15 : FL RX1 15 1 1 := ⟨by decide, by decide, wq_334⟩
theorem fl_X8_168 : FL RX8 168 1 1 := ⟨by decide, by decide, wq_335⟩
theorem fl_X1_18 : FL RX1 18 1 2 := ⟨by decide, by decide, wq_336⟩
theorem fl_X8_172 : FL RX8 172 1 2 := ⟨by decide, by decide, wq_337⟩
theorem fl_X1_21 : FL RX1 21 1 3 := ⟨by decide, by decide, wq_338⟩
theorem fl_X3_128 : FL RX3 128 1 3 := ⟨by decide, by decide, wq_339⟩
theorem fl_X5_188 : FL RX5 188 1 3 := ⟨by decide, by decide, wq_340⟩
theorem fl_X8_179 : FL RX8 179 1 3 := ⟨by decide, by decide, wq_341⟩
theorem fl_X1_25 : FL RX1 25 1 4 := ⟨by decide, by decide, wq_342⟩
theorem fl_X3_43 : FL RX3 43 1 4 := ⟨by decide, by decide, wq_343⟩
theorem fl_X6_58 : FL RX6 58 1 4 := ⟨by decide, by decide, wq_344⟩
theorem fl_X8_125 : FL RX8 125 1 4 := ⟨by decide, by decide, wq_345⟩
theorem fl_X5_183 : FL RX5 183 1 4 := ⟨by decide, by decide, wq_346⟩
theorem fl_X7_15 : FL RX7 15 7 0 := ⟨by decide, by decide, wq_365⟩
theorem fl_X8_244 : FL RX8 244 7 0 := ⟨by decide, by decide, wq_366⟩
theorem fl_X7_19 : FL RX7 19 7 1 := ⟨by decide, by decide, wq_367⟩
theorem fl_X8_247 : FL RX8 247 7 1 := ⟨by decide, by decide, wq_368⟩
theorem fl_X7_22 : FL RX7 22 7 2 := ⟨by decide, by decide, wq_369⟩
theorem fl_X8_250 : FL RX8 250 7 2 := ⟨by decide, by decide, wq_370⟩
theorem fl_X7_25 : FL RX7 25 7 3 := ⟨by decide, by decide, wq_371⟩
theorem fl_X8_253 : FL RX8 253 7 3 := ⟨by decide, by decide, wq_372⟩
theorem fl_X7_28 : FL RX7 28 7 4 := ⟨by decide, by decide, wq_373⟩
theorem fl_X8_217 : FL RX8 217 7 4 := ⟨by decide, by decide, wq_374⟩
theorem fl_X7_31 : FL RX7 31 7 5 := ⟨by decide, by decide, wq_375⟩
theorem fl_X8_212 : FL RX8 212 7 5 := ⟨by decide, by decide, wq_376⟩
theorem fl_X7_35 : FL RX7 35 7 6 := ⟨by decide, by decide, wq_377⟩
theorem fl_X8_256 : FL RX8 256 7 6 := ⟨by decide, by decide, wq_378⟩
theorem fl_X7_38 : FL RX7 38 7 7 := ⟨by decide, by decide, wq_379⟩
theorem fl_X7_41 : FL RX7 41 7 8 := ⟨by decide, by decide, wq_380⟩
theorem fl_X8_270 : FL RX8 270 7 8 := ⟨by decide, by decide, wq_381⟩
theorem fl_X7_9 : FL RX7 9 7 9 := ⟨by decide, by decide, wq_382⟩
theorem fl_X8_259 : FL RX8 259 7 9 := ⟨by decide, by decide, wq_383⟩
theorem fl_X3_12 : FL RX3 12 3 0 := ⟨by decide, by decide, wq_405⟩
theorem fl_X5_73 : FL RX5 73 3 0 := ⟨by decide, by decide, wq_406⟩
theorem fl_X8_143 : FL RX8 143 3 0 := ⟨by decide, by decide, wq_407⟩
theorem fl_X6_101 : FL RX6 101 3 0 := ⟨by decide, by decide, wq_408⟩
theorem fl_X3_21 : FL RX3 21 3 1 := ⟨by decide, by decide, wq_409⟩
theorem fl_X6_49 : FL RX6 49 3 1 := ⟨by decide, by decide, wq_410⟩
theorem fl_X8_119 : FL RX8 119 3 1 := ⟨by decide, by decide, wq_411⟩
theorem fl_X5_179 : FL RX5 179 3 1 := ⟨by decide, by decide, wq_412⟩
theorem fl_X3_28 : FL RX3 28 3 2 := ⟨by decide, by decide, wq_413⟩
theorem fl_X8_208 : FL RX8 208 3 2 := ⟨by decide, by decide, wq_414⟩
theorem fl_X3_32 : FL RX3 32 3 3 := ⟨by decide, by decide, wq_415⟩
theorem fl_X3_49 : FL RX3 49 3 4 := ⟨by decide, by decide, wq_416⟩
theorem fl_X3_36 : FL RX3 36 3 5 := ⟨by decide, by decide, wq_417⟩
theorem fl_X3_58 : FL RX3 58 3 6 := ⟨by decide, by decide, wq_418⟩
theorem fl_X8_295 : FL RX8 295 3 6 := ⟨by decide, by decide, wq_419⟩
theorem fl_X3_61 : FL RX3 61 3 7 := ⟨by decide, by decide, wq_420⟩
theorem fl_X8_202 : FL RX8 202 3 7 := ⟨by decide, by decide, wq_421⟩
theorem fl_X3_64 : FL RX3 64 3 8 := ⟨by decide, by decide, wq_422⟩
theorem fl_X6_110 : FL RX6 110 3 8 := ⟨by decide, by decide, wq_423⟩
theorem fl_X8_205 : FL RX8 205 3 8 := ⟨by decide, by decide, wq_424⟩
theorem fl_X3_67 : FL RX3 67 3 9 := ⟨by decide, by decide, wq_425⟩
theorem fl_X8_140 : FL RX8 140 3 9 := ⟨by decide, by decide, wq_426⟩
theorem fl_X6_92 : FL RX6 92 3 9 := ⟨by decide, by decide, wq_427⟩
theorem fl_X3_70 : FL RX3 70 3 10 := ⟨by decide, by decide, wq_428⟩
theorem fl_X8_227 : FL RX8 227 3 10 := ⟨by decide, by decide, wq_429⟩
theorem fl_X3_73 : FL RX3 73 3 11 := ⟨by decide, by decide, wq_430⟩
theorem fl_X8_233 : FL RX8 233 3 11 := ⟨by decide, by decide, wq_431⟩
theorem fl_X3_76 : FL RX3 76 3 12 := ⟨by decide, by decide, wq_432⟩
theorem fl_X8_137 : FL RX8 137 3 12 := ⟨by decide, by decide, wq_433⟩
theorem fl_X6_11 : FL RX6 11 6 0 := ⟨by decide, by decide, wq_461⟩
theorem fl_X5_69 : FL RX5 69 6 0 := ⟨by decide, by decide, wq_462⟩
theorem fl_X8_164 : FL RX8 164 6 0 := ⟨by decide, by decide, wq_463⟩
theorem fl_X6_25 : FL RX6 25 6 1 := ⟨by decide, by decide, wq_464⟩
theorem fl_X5_49 : FL RX5 49 6 1 := ⟨by decide, by decide, wq_465⟩
theorem fl_X8_83 : FL RX8 83 6 1 := ⟨by decide, by decide, wq_466⟩
theorem fl_X6_29 : FL RX6 29 6 2 := ⟨by decide, by decide, wq_467⟩
theorem fl_X8_86 : FL RX8 86 6 2 := ⟨by decide, by decide, wq_468⟩
theorem fl_X6_32 : FL RX6 32 6 3 := ⟨by decide, by decide, wq_469⟩
theorem fl_X8_93 : FL RX8 93 6 3 := ⟨by decide, by decide, wq_470⟩
theorem fl_X6_20 : FL RX6 20 6 4 := ⟨by decide, by decide, wq_471⟩
theorem fl_X8_96 : FL RX8 96 6 4 := ⟨by decide, by decide, wq_472⟩
theorem fl_X8_9 : FL RX8 9 8 0 := ⟨by decide, by decide, wq_509⟩
theorem fl_X8_55 : FL RX8 55 8 1 := ⟨by decide, by decide, wq_510⟩
theorem fl_X8_13 : FL RX8 13 8 2 := ⟨by decide, by decide, wq_511⟩
theorem fl_X8_17 : FL RX8 17 8 3 := ⟨by decide, by decide, wq_512⟩
theorem fl_X8_23 : FL RX8 23 8 4 := ⟨by decide, by decide, wq_513⟩
theorem fl_X8_30 : FL RX8 30 8 5 := ⟨by decide, by decide, wq_514⟩
theorem fl_X8_37 : FL RX8 37 8 6 := ⟨by decide, by decide, wq_515⟩
theorem fl_X8_41 : FL RX8 41 8 7 := ⟨by decide, by decide, wq_516⟩
theorem fl_X8_44 : FL RX8 44 8 8 := ⟨by decide, by decide, wq_517⟩
theorem fl_X8_79 : FL RX8 79 8 9 := ⟨by decide, by decide, wq_518⟩
theorem fl_X8_47 : FL RX8 47 8 10 := ⟨by decide, by decide, wq_519⟩
theorem fl_X8_76 : FL RX8 76 8 11 := ⟨by decide, by decide, wq_520⟩
theorem fl_X9_7 : FL RX9 7 9 0 := ⟨by decide, by decide, wq_1558⟩
theorem fl_X9_13 : FL RX9 13 9 1 := ⟨by decide, by decide, wq_1559⟩
theorem fl_X9_16 : FL RX9 16 9 2 := ⟨by decide, by decide, wq_1560⟩
theorem fl_X9_19 : FL RX9 19 9 3 := ⟨by decide, by decide, wq_1561⟩
theorem fl_X9_22 : FL RX9 22 9 4 := ⟨by decide, by decide, wq_1562⟩
theorem fl_X9_25 : FL RX9 25 9 5 := ⟨by decide, by decide, wq_1563⟩
theorem fl_X9_29 : FL RX9 29 9 6 := ⟨by decide, by decide, wq_1564⟩
theorem fl_X9_32 : FL RX9 32 9 7 := ⟨by decide, by decide, wq_1565⟩
theorem fl_X9_35 : FL RX9 35 9 8 := ⟨by decide, by decide, wq_1566⟩
theorem fl_X9_38 : FL RX9 38 9 9 := ⟨by decide, by decide, wq_1567⟩
theorem fl_X9_71 : FL RX9 71 9 10 := ⟨by decide, by decide, wq_1568⟩
theorem fl_X9_298 : FL RX9 298 9 11 := ⟨by decide, by decide, wq_1569⟩
theorem fl_X9_61 : FL RX9 61 9 12 := ⟨by decide, by decide, wq_1570⟩
theorem fl_X9_41 : FL RX9 41 9 13 := ⟨by decide, by decide, wq_1571⟩
theorem fl_X9_161 : FL RX9 161 9 14 := ⟨by decide, by decide, wq_1572⟩
theorem fl_X9_295 : FL RX9 295 9 15 := ⟨by decide, by decide, wq_1573⟩
theorem fl_X9_44 : FL RX9 44 9 16 := ⟨by decide, by decide, wq_1574⟩
theorem fl_X9_185 : FL RX9 185 9 17 := ⟨by decide, by decide, wq_1575⟩
theorem fl_X9_188 : FL RX9 188 9 18 := ⟨by decide, by decide, wq_1576⟩
theorem fl_X9_170 : FL RX9 170 9 19 := ⟨by decide, by decide, wq_1577⟩
theorem fl_X9_176 : FL RX9 176 9 20 := ⟨by decide, by decide, wq_1578⟩
theorem fl_X9_179 : FL RX9 179 9 21 := ⟨by decide, by decide, wq_1579⟩
theorem fl_X9_182 : FL RX9 182 9 22 := ⟨by decide, by decide, wq_1580⟩
theorem fl_X9_214 : FL RX9 214 9 23 := ⟨by decide, by decide, wq_1581⟩
theorem fl_X9_48 : FL RX9 48 9 24 := ⟨by decide, by decide, wq_1582⟩
theorem fl_X9_315 : FL RX9 315 9 25 := ⟨by decide, by decide, wq_1583⟩
theorem fl_X9_318 : FL RX9 318 9 26 := ⟨by decide, by decide, wq_1584⟩
theorem fl_X9_355 : FL RX9 355 9 27 := ⟨by decide, by decide, wq_1585⟩
theorem fl_X9_51 : FL RX9 51 9 28 := ⟨by decide, by decide, wq_1586⟩
theorem fl_X9_379 : FL RX9 379 9 29 := ⟨by decide, by decide, wq_1587⟩
theorem ok_J0_charAt_5068e : okN yJ0_charAt_5068e 1 := ⟨by decide +kernel, by decide +kernel, by decide +kernel⟩
theorem cv_J0_charAt_5068e {own : String} {ix : Nat} (h : Cond.methodLink own ix yJ0_charAt_5068e ∈ tblG) : CV own ix mJ0_charAt_5068e 1 := ⟨h, wq_609, wq_610, wq_111, wq_611, ok_J0_charAt_5068e⟩
theorem ok_J0_checkIndex_df160 : okN yJ0_checkIndex_df160 2 := ⟨by decide +kernel, by decide +kernel, by decide +kernel⟩
theorem cs_J0_checkIndex_df160 {own : String} {ix : Nat} (h : Cond.methodLink own ix yJ0_checkIndex_df160 ∈ tblG) : CSt own ix mJ0_checkIndex_df160 2 := ⟨h, wq_620, wq_111, wq_621, ok_J0_checkIndex_df160⟩
theorem ok_J0_coder_7d493 : okN yJ0_coder_7d493 0 := ⟨by decide +kernel, by decide +kernel, by decide +kernel⟩
theorem cv_J0_coder_7d493 {own : String} {ix : Nat} (h : Cond.methodLink own ix yJ0_coder_7d493 ∈ tblG) : CV own ix mJ0_coder_7d493 0 := ⟨h, wq_603, wq_604, wq_111, wq_605, ok_J0_coder_7d493⟩
theorem ok_J0_isLatin1_aae02 : okN yJ0_isLatin1_aae02 0 := ⟨by decide +kernel, by decide +kernel, by decide +kernel⟩
theorem cv_J0_isLatin1_aae02 {own : String} {ix : Nat} (h : Cond.methodLink own ix yJ0_isLatin1_aae02 ∈ tblG) : CV own ix mJ0_isLatin1_aae02 0 := ⟨h, wq_613, wq_614, wq_111, wq_615, ok_J0_isLatin1_aae02⟩
theorem ok_J0_length_8abf5 : okN yJ0_length_8abf5 0 := ⟨by decide +kernel, by decide +kernel, by decide +kernel⟩
theorem cv_J0_length_8abf5 {own : String} {ix : Nat} (h : Cond.methodLink own ix yJ0_length_8abf5 ∈ tblG) : CV own ix mJ0_length_8abf5 0 := ⟨h, wq_599, wq_600, wq_111, wq_601, ok_J0_length_8abf5⟩
theorem ok_J1_charAt_3b067 : okN yJ1_charAt_3b067 2 := ⟨by decide +kernel, by decide +kernel, by decide +kernel⟩
theorem cs_J1_charAt_3b067 {own : String} {ix : Nat} (h : Cond.methodLink own ix yJ1_charAt_3b067 ∈ tblG) : CSt own ix mJ1_charAt_3b067 2 := ⟨h, wq_617, wq_112, wq_618, ok_J1_charAt_3b067⟩
theorem ok_J2_charAt_3b067 : okN yJ2_charAt_3b067 2 := ⟨by decide +kernel, by decide +kernel, by decide +kernel⟩
theorem cs_J2_charAt_3b067 {own : String} {ix : Nat} (h : Cond.methodLink own ix yJ2_charAt_3b067 ∈ tblG) : CSt own ix mJ2_charAt_3b067 2 := ⟨h, wq_628, wq_114, wq_629, ok_J2_charAt_3b067⟩
theorem ok_J2_checkIndex_2214a : okN yJ2_checkIndex_2214a 2 := ⟨by decide +kernel, by decide +kernel, by decide +kernel⟩
theorem cs_J2_checkIndex_2214a {own : String} {ix : Nat} (h : Cond.methodLink own ix yJ2_checkIndex_2214a ∈ tblG) : CSt own ix mJ2_checkIndex_2214a 2 := ⟨h, wq_631, wq_114, wq_632, ok_J2_checkIndex_2214a⟩
theorem ok_J2_getChar_3b067 : okN yJ2_getChar_3b067 2 := ⟨by decide +kernel, by decide +kernel, by decide +kernel⟩
theorem cs_J2_getChar_3b067 {own : String} {ix : Nat} (h : Cond.methodLink own ix yJ2_getChar_3b067 ∈ tblG) : CSt own ix mJ2_getChar_3b067 2 := ⟨h, wq_638, wq_114, wq_639, ok_J2_getChar_3b067⟩
theorem ok_J2_length_9d52b : okN yJ2_length_9d52b 1 := ⟨by decide +kernel, by decide +kernel, by decide +kernel⟩
theorem cs_J2_length_9d52b {own : String} {ix : Nat} (h : Cond.methodLink own ix yJ2_length_9d52b ∈ tblG) : CSt own ix mJ2_length_9d52b 1 := ⟨h, wq_634, wq_114, wq_635, ok_J2_length_9d52b⟩
theorem ok_J3_checkIndex_8e157 : okN yJ3_checkIndex_8e157 3 := ⟨by decide +kernel, by decide +kernel, by decide +kernel⟩
theorem cs_J3_checkIndex_8e157 {own : String} {ix : Nat} (h : Cond.methodLink own ix yJ3_checkIndex_8e157 ∈ tblG) : CSt own ix mJ3_checkIndex_8e157 3 := ⟨h, wq_625, wq_113, wq_626, ok_J3_checkIndex_8e157⟩
theorem ok_J7_fill_53178 : okN yJ7_fill_53178 2 := ⟨by decide +kernel, by decide +kernel, by decide +kernel⟩
theorem cs_J7_fill_53178 {own : String} {ix : Nat} (h : Cond.methodLink own ix yJ7_fill_53178 ∈ tblG) : CSt own ix mJ7_fill_53178 2 := ⟨h, wq_502, wq_108, wq_503, ok_J7_fill_53178⟩
theorem ok_J9_abs_0f7a4 : okN yJ9_abs_0f7a4 1 := ⟨by decide +kernel, by decide +kernel, by decide +kernel⟩
theorem cs_J9_abs_0f7a4 {own : String} {ix : Nat} (h : Cond.methodLink own ix yJ9_abs_0f7a4 ∈ tblG) : CSt own ix mJ9_abs_0f7a4 1 := ⟨h, wq_1145, wq_110, wq_1146, ok_J9_abs_0f7a4⟩
theorem ok_J9_floorMod_7cf53 : okN yJ9_floorMod_7cf53 2 := ⟨by decide +kernel, by decide +kernel, by decide +kernel⟩
theorem cs_J9_floorMod_7cf53 {own : String} {ix : Nat} (h : Cond.methodLink own ix yJ9_floorMod_7cf53 ∈ tblG) : CSt own ix mJ9_floorMod_7cf53 2 := ⟨h, wq_990, wq_110, wq_991, ok_J9_floorMod_7cf53⟩
theorem ok_J9_max_7cf53 : okN yJ9_max_7cf53 2 := ⟨by decide +kernel, by decide +kernel, by decide +kernel⟩
theorem cs_J9_max_7cf53 {own : String} {ix : Nat} (h : Cond.methodLink own ix yJ9_max_7cf53 ∈ tblG) : CSt own ix mJ9_max_7cf53 2 := ⟨h, wq_674, wq_110, wq_675, ok_J9_max_7cf53⟩
theorem ok_J9_min_7cf53 : okN yJ9_min_7cf53 2 := ⟨by decide +kernel, by decide +kernel, by decide +kernel⟩
theorem cs_J9_min_7cf53 {own : String} {ix : Nat} (h : Cond.methodLink own ix yJ9_min_7cf53 ∈ tblG) : CSt own ix mJ9_min_7cf53 2 := ⟨h, wq_567, wq_110, wq_568, ok_J9_min_7cf53⟩
theorem ok_L_bestCool : okN yL_bestCool 4 := ⟨by decide +kernel, by decide +kernel, by decide +kernel⟩
theorem ok_L_bestPeriod : okN yL_bestPeriod 3 := ⟨by decide +kernel, by decide +kernel, by decide +kernel⟩
theorem ok_L_bestPolicy : okN yL_bestPolicy 4 := ⟨by decide +kernel, by decide +kernel, by decide +kernel⟩
theorem ok_L_bestTarget : okN yL_bestTarget 4 := ⟨by decide +kernel, by decide +kernel, by decide +kernel⟩
theorem ok_L_changesIn : okN yL_changesIn 4 := ⟨by decide +kernel, by decide +kernel, by decide +kernel⟩
theorem ok_L_coolLeft : okN yL_coolLeft 4 := ⟨by decide +kernel, by decide +kernel, by decide +kernel⟩
theorem ok_L_cost : okN yL_cost 3 := ⟨by decide +kernel, by decide +kernel, by decide +kernel⟩
theorem ok_L_costIn : okN yL_costIn 4 := ⟨by decide +kernel, by decide +kernel, by decide +kernel⟩
theorem ok_L_count : okN yL_count 3 := ⟨by decide +kernel, by decide +kernel, by decide +kernel⟩
theorem ok_L_decisions : okN yL_decisions 4 := ⟨by decide +kernel, by decide +kernel, by decide +kernel⟩
theorem ok_L_demand : okN yL_demand 4 := ⟨by decide +kernel, by decide +kernel, by decide +kernel⟩
theorem ok_L_demandsWithin : okN yL_demandsWithin 5 := ⟨by decide +kernel, by decide +kernel, by decide +kernel⟩
theorem ok_L_drop : okN yL_drop 3 := ⟨by decide +kernel, by decide +kernel, by decide +kernel⟩
theorem ok_L_dropCold : okN yL_dropCold 3 := ⟨by decide +kernel, by decide +kernel, by decide +kernel⟩
theorem ok_L_errorsWith : okN yL_errorsWith 5 := ⟨by decide +kernel, by decide +kernel, by decide +kernel⟩
theorem ok_L_event : okN yL_event 4 := ⟨by decide +kernel, by decide +kernel, by decide +kernel⟩
theorem ok_L_forecast : okN yL_forecast 3 := ⟨by decide +kernel, by decide +kernel, by decide +kernel⟩
theorem ok_L_greatestIn : okN yL_greatestIn 4 := ⟨by decide +kernel, by decide +kernel, by decide +kernel⟩
theorem ok_L_grow : okN yL_grow 4 := ⟨by decide +kernel, by decide +kernel, by decide +kernel⟩
theorem ok_L_headroom : okN yL_headroom 3 := ⟨by decide +kernel, by decide +kernel, by decide +kernel⟩
theorem ok_L_hurry : okN yL_hurry 3 := ⟨by decide +kernel, by decide +kernel, by decide +kernel⟩
theorem ok_L_longestMiss : okN yL_longestMiss 3 := ⟨by decide +kernel, by decide +kernel, by decide +kernel⟩
theorem ok_L_meanAge : okN yL_meanAge 3 := ⟨by decide +kernel, by decide +kernel, by decide +kernel⟩
theorem ok_L_meanError : okN yL_meanError 3 := ⟨by decide +kernel, by decide +kernel, by decide +kernel⟩
theorem ok_L_measure : okN yL_measure 3 := ⟨by decide +kernel, by decide +kernel, by decide +kernel⟩
theorem ok_L_median : okN yL_median 3 := ⟨by decide +kernel, by decide +kernel, by decide +kernel⟩
theorem ok_L_member : okN yL_member 4 := ⟨by decide +kernel, by decide +kernel, by decide +kernel⟩
theorem ok_L_memberAt : okN yL_memberAt 4 := ⟨by decide +kernel, by decide +kernel, by decide +kernel⟩
theorem ok_L_missed : okN yL_missed 3 := ⟨by decide +kernel, by decide +kernel, by decide +kernel⟩
theorem ok_L_missedIn : okN yL_missedIn 4 := ⟨by decide +kernel, by decide +kernel, by decide +kernel⟩
theorem ok_L_missedShare : okN yL_missedShare 3 := ⟨by decide +kernel, by decide +kernel, by decide +kernel⟩
theorem ok_L_missesIn : okN yL_missesIn 4 := ⟨by decide +kernel, by decide +kernel, by decide +kernel⟩
theorem ok_L_needed : okN yL_needed 4 := ⟨by decide +kernel, by decide +kernel, by decide +kernel⟩
theorem ok_L_nextDropped : okN yL_nextDropped 3 := ⟨by decide +kernel, by decide +kernel, by decide +kernel⟩
theorem ok_L_pause : okN yL_pause 4 := ⟨by decide +kernel, by decide +kernel, by decide +kernel⟩
theorem ok_L_peak : okN yL_peak 3 := ⟨by decide +kernel, by decide +kernel, by decide +kernel⟩
theorem ok_L_planned : okN yL_planned 4 := ⟨by decide +kernel, by decide +kernel, by decide +kernel⟩
theorem ok_L_pool : okN yL_pool 4 := ⟨by decide +kernel, by decide +kernel, by decide +kernel⟩
theorem ok_L_printPool : okN yL_printPool 3 := ⟨by decide +kernel, by decide +kernel, by decide +kernel⟩
theorem ok_L_protect : okN yL_protect 4 := ⟨by decide +kernel, by decide +kernel, by decide +kernel⟩
theorem ok_L_push : okN yL_push 4 := ⟨by decide +kernel, by decide +kernel, by decide +kernel⟩
theorem ok_L_restoreState : okN yL_restoreState 2 := ⟨by decide +kernel, by decide +kernel, by decide +kernel⟩
theorem ok_L_run : okN yL_run 3 := ⟨by decide +kernel, by decide +kernel, by decide +kernel⟩
theorem ok_L_served : okN yL_served 3 := ⟨by decide +kernel, by decide +kernel, by decide +kernel⟩
theorem ok_L_setBounds : okN yL_setBounds 5 := ⟨by decide +kernel, by decide +kernel, by decide +kernel⟩
theorem ok_L_setCool : okN yL_setCool 5 := ⟨by decide +kernel, by decide +kernel, by decide +kernel⟩
theorem ok_L_setLoad : okN yL_setLoad 5 := ⟨by decide +kernel, by decide +kernel, by decide +kernel⟩
theorem ok_L_setPolicy : okN yL_setPolicy 5 := ⟨by decide +kernel, by decide +kernel, by decide +kernel⟩
theorem ok_L_setTarget : okN yL_setTarget 4 := ⟨by decide +kernel, by decide +kernel, by decide +kernel⟩
theorem ok_L_settlesIn : okN yL_settlesIn 4 := ⟨by decide +kernel, by decide +kernel, by decide +kernel⟩
theorem ok_L_sizeIn : okN yL_sizeIn 4 := ⟨by decide +kernel, by decide +kernel, by decide +kernel⟩
theorem ok_L_transfer : okN yL_transfer 4 := ⟨by decide +kernel, by decide +kernel, by decide +kernel⟩
theorem ok_L_used : okN yL_used 3 := ⟨by decide +kernel, by decide +kernel, by decide +kernel⟩
theorem ok_L_wanted : okN yL_wanted 3 := ⟨by decide +kernel, by decide +kernel, by decide +kernel⟩
theorem ok_X0_add : okN yX0_add 4 := ⟨by decide +kernel, by decide +kernel, by decide +kernel⟩
theorem cv_X0_add {own : String} {ix : Nat} (h : Cond.methodLink own ix yX0_add ∈ tblG) : CV own ix mX0_add 4 := ⟨h, wq_1193, wq_1194, wq_103, wq_1195, ok_X0_add⟩
theorem ok_X0_copyFrom : okN yX0_copyFrom 1 := ⟨by decide +kernel, by decide +kernel, by decide +kernel⟩
theorem cv_X0_copyFrom {own : String} {ix : Nat} (h : Cond.methodLink own ix yX0_copyFrom ∈ tblG) : CV own ix mX0_copyFrom 1 := ⟨h, wq_734, wq_735, wq_103, wq_736, ok_X0_copyFrom⟩
theorem ok_X0_init : okN yX0_init 0 := ⟨by decide +kernel, by decide +kernel, by decide +kernel⟩
theorem ci_X0_init {own : String} {ix : Nat} (h : Cond.methodLink own ix yX0_init ∈ tblG) : CI own ix mX0_init 0 := ⟨h, wq_194, wq_103, wq_195, ok_X0_init, rfl, rfl⟩
theorem ok_X0_kept : okN yX0_kept 0 := ⟨by decide +kernel, by decide +kernel, by decide +kernel⟩
theorem cv_X0_kept {own : String} {ix : Nat} (h : Cond.methodLink own ix yX0_kept ∈ tblG) : CV own ix mX0_kept 0 := ⟨h, wq_1100, wq_1101, wq_103, wq_1102, ok_X0_kept⟩
theorem ok_X0_part : okN yX0_part 2 := ⟨by decide +kernel, by decide +kernel, by decide +kernel⟩
theorem cv_X0_part {own : String} {ix : Nat} (h : Cond.methodLink own ix yX0_part ∈ tblG) : CV own ix mX0_part 2 := ⟨h, wq_1106, wq_1107, wq_103, wq_1108, ok_X0_part⟩
theorem ok_X1_add : okN yX1_add 3 := ⟨by decide +kernel, by decide +kernel, by decide +kernel⟩
theorem cv_X1_add {own : String} {ix : Nat} (h : Cond.methodLink own ix yX1_add ∈ tblG) : CV own ix mX1_add 3 := ⟨h, wq_506, wq_507, wq_106, wq_508, ok_X1_add⟩
theorem ok_X1_copyFrom : okN yX1_copyFrom 1 := ⟨by decide +kernel, by decide +kernel, by decide +kernel⟩
theorem cv_X1_copyFrom {own : String} {ix : Nat} (h : Cond.methodLink own ix yX1_copyFrom ∈ tblG) : CV own ix mX1_copyFrom 1 := ⟨h, wq_723, wq_724, wq_106, wq_725, ok_X1_copyFrom⟩
theorem ok_X1_countProtected : okN yX1_countProtected 0 := ⟨by decide +kernel, by decide +kernel, by decide +kernel⟩
theorem cv_X1_countProtected {own : String} {ix : Nat} (h : Cond.methodLink own ix yX1_countProtected ∈ tblG) : CV own ix mX1_countProtected 0 := ⟨h, wq_909, wq_910, wq_106, wq_911, ok_X1_countProtected⟩
theorem ok_X1_countReady : okN yX1_countReady 1 := ⟨by decide +kernel, by decide +kernel, by decide +kernel⟩
theorem cv_X1_countReady {own : String} {ix : Nat} (h : Cond.methodLink own ix yX1_countReady ∈ tblG) : CV own ix mX1_countReady 1 := ⟨h, wq_759, wq_760, wq_106, wq_761, ok_X1_countReady⟩
theorem ok_X1_goesBefore : okN yX1_goesBefore 3 := ⟨by decide +kernel, by decide +kernel, by decide +kernel⟩
theorem cv_X1_goesBefore {own : String} {ix : Nat} (h : Cond.methodLink own ix yX1_goesBefore ∈ tblG) : CV own ix mX1_goesBefore 3 := ⟨h, wq_1033, wq_19, wq_106, wq_1034, ok_X1_goesBefore⟩
theorem ok_X1_has : okN yX1_has 1 := ⟨by decide +kernel, by decide +kernel, by decide +kernel⟩
theorem cv_X1_has {own : String} {ix : Nat} (h : Cond.methodLink own ix yX1_has ∈ tblG) : CV own ix mX1_has 1 := ⟨h, wq_1206, wq_1207, wq_106, wq_1208, ok_X1_has⟩
theorem ok_X1_init : okN yX1_init 0 := ⟨by decide +kernel, by decide +kernel, by decide +kernel⟩
theorem ci_X1_init {own : String} {ix : Nat} (h : Cond.methodLink own ix yX1_init ∈ tblG) : CI own ix mX1_init 0 := ⟨h, wq_328, wq_106, wq_329, ok_X1_init, rfl, rfl⟩
theorem ok_X1_isReady : okN yX1_isReady 2 := ⟨by decide +kernel, by decide +kernel, by decide +kernel⟩
theorem cv_X1_isReady {own : String} {ix : Nat} (h : Cond.methodLink own ix yX1_isReady ∈ tblG) : CV own ix mX1_isReady 2 := ⟨h, wq_763, wq_764, wq_106, wq_765, ok_X1_isReady⟩
theorem ok_X1_nextToGo : okN yX1_nextToGo 1 := ⟨by decide +kernel, by decide +kernel, by decide +kernel⟩
theorem cv_X1_nextToGo {own : String} {ix : Nat} (h : Cond.methodLink own ix yX1_nextToGo ∈ tblG) : CV own ix mX1_nextToGo 1 := ⟨h, wq_1028, wq_1029, wq_106, wq_1030, ok_X1_nextToGo⟩
theorem ok_X1_placeOf : okN yX1_placeOf 1 := ⟨by decide +kernel, by decide +kernel, by decide +kernel⟩
theorem cv_X1_placeOf {own : String} {ix : Nat} (h : Cond.methodLink own ix yX1_placeOf ∈ tblG) : CV own ix mX1_placeOf 1 := ⟨h, wq_929, wq_930, wq_106, wq_931, ok_X1_placeOf⟩
theorem ok_X1_removeAt : okN yX1_removeAt 1 := ⟨by decide +kernel, by decide +kernel, by decide +kernel⟩
theorem cv_X1_removeAt {own : String} {ix : Nat} (h : Cond.methodLink own ix yX1_removeAt ∈ tblG) : CV own ix mX1_removeAt 1 := ⟨h, wq_1210, wq_1211, wq_106, wq_1212, ok_X1_removeAt⟩
theorem ok_X1_sumOfAges : okN yX1_sumOfAges 1 := ⟨by decide +kernel, by decide +kernel, by decide +kernel⟩
theorem cv_X1_sumOfAges {own : String} {ix : Nat} (h : Cond.methodLink own ix yX1_sumOfAges ∈ tblG) : CV own ix mX1_sumOfAges 1 := ⟨h, wq_1450, wq_1451, wq_106, wq_1452, ok_X1_sumOfAges⟩
theorem ok_X2_addByte : okN yX2_addByte 1 := ⟨by decide +kernel, by decide +kernel, by decide +kernel⟩
theorem cv_X2_addByte {own : String} {ix : Nat} (h : Cond.methodLink own ix yX2_addByte ∈ tblG) : CV own ix mX2_addByte 1 := ⟨h, wq_1516, wq_1517, wq_101, wq_1518, ok_X2_addByte⟩
theorem ok_X2_addNumber : okN yX2_addNumber 1 := ⟨by decide +kernel, by decide +kernel, by decide +kernel⟩
theorem cv_X2_addNumber {own : String} {ix : Nat} (h : Cond.methodLink own ix yX2_addNumber ∈ tblG) : CV own ix mX2_addNumber 1 := ⟨h, wq_1512, wq_1513, wq_101, wq_1514, ok_X2_addNumber⟩
theorem ok_X2_init : okN yX2_init 0 := ⟨by decide +kernel, by decide +kernel, by decide +kernel⟩
theorem ci_X2_init {own : String} {ix : Nat} (h : Cond.methodLink own ix yX2_init ∈ tblG) : CI own ix mX2_init 0 := ⟨h, wq_171, wq_101, wq_172, ok_X2_init, rfl, rfl⟩
theorem ok_X3_begin : okN yX3_begin 3 := ⟨by decide +kernel, by decide +kernel, by decide +kernel⟩
theorem cv_X3_begin {own : String} {ix : Nat} (h : Cond.methodLink own ix yX3_begin ∈ tblG) : CV own ix mX3_begin 3 := ⟨h, wq_490, wq_491, wq_104, wq_492, ok_X3_begin⟩
theorem ok_X3_canSpare : okN yX3_canSpare 1 := ⟨by decide +kernel, by decide +kernel, by decide +kernel⟩
theorem cv_X3_canSpare {own : String} {ix : Nat} (h : Cond.methodLink own ix yX3_canSpare ∈ tblG) : CV own ix mX3_canSpare 1 := ⟨h, wq_1262, wq_1263, wq_104, wq_1264, ok_X3_canSpare⟩
theorem ok_X3_copyFrom : okN yX3_copyFrom 1 := ⟨by decide +kernel, by decide +kernel, by decide +kernel⟩
theorem cv_X3_copyFrom {own : String} {ix : Nat} (h : Cond.methodLink own ix yX3_copyFrom ∈ tblG) : CV own ix mX3_copyFrom 1 := ⟨h, wq_712, wq_713, wq_104, wq_714, ok_X3_copyFrom⟩
theorem ok_X3_countDemands : okN yX3_countDemands 2 := ⟨by decide +kernel, by decide +kernel, by decide +kernel⟩
theorem cv_X3_countDemands {own : String} {ix : Nat} (h : Cond.methodLink own ix yX3_countDemands ∈ tblG) : CV own ix mX3_countDemands 2 := ⟨h, wq_1493, wq_1494, wq_104, wq_1495, ok_X3_countDemands⟩
theorem ok_X3_decide : okN yX3_decide 1 := ⟨by decide +kernel, by decide +kernel, by decide +kernel⟩
theorem cv_X3_decide {own : String} {ix : Nat} (h : Cond.methodLink own ix yX3_decide ∈ tblG) : CV own ix mX3_decide 1 := ⟨h, wq_1171, wq_1172, wq_104, wq_1173, ok_X3_decide⟩
theorem ok_X3_decisionAt : okN yX3_decisionAt 1 := ⟨by decide +kernel, by decide +kernel, by decide +kernel⟩
theorem cv_X3_decisionAt {own : String} {ix : Nat} (h : Cond.methodLink own ix yX3_decisionAt ∈ tblG) : CV own ix mX3_decisionAt 1 := ⟨h, wq_1176, wq_23, wq_104, wq_1177, ok_X3_decisionAt⟩
theorem ok_X3_demandAhead : okN yX3_demandAhead 2 := ⟨by decide +kernel, by decide +kernel, by decide +kernel⟩
theorem cv_X3_demandAhead {own : String} {ix : Nat} (h : Cond.methodLink own ix yX3_demandAhead ∈ tblG) : CV own ix mX3_demandAhead 2 := ⟨h, wq_982, wq_983, wq_104, wq_984, ok_X3_demandAhead⟩
theorem ok_X3_demandBack : okN yX3_demandBack 1 := ⟨by decide +kernel, by decide +kernel, by decide +kernel⟩
theorem cv_X3_demandBack {own : String} {ix : Nat} (h : Cond.methodLink own ix yX3_demandBack ∈ tblG) : CV own ix mX3_demandBack 1 := ⟨h, wq_776, wq_777, wq_104, wq_778, ok_X3_demandBack⟩
theorem ok_X3_forecastBySeason : okN yX3_forecastBySeason 0 := ⟨by decide +kernel, by decide +kernel, by decide +kernel⟩
theorem cv_X3_forecastBySeason {own : String} {ix : Nat} (h : Cond.methodLink own ix yX3_forecastBySeason ∈ tblG) : CV own ix mX3_forecastBySeason 0 := ⟨h, wq_1158, wq_22, wq_104, wq_1159, ok_X3_forecastBySeason⟩
theorem ok_X3_forecastByTrend : okN yX3_forecastByTrend 0 := ⟨by decide +kernel, by decide +kernel, by decide +kernel⟩
theorem cv_X3_forecastByTrend {own : String} {ix : Nat} (h : Cond.methodLink own ix yX3_forecastByTrend ∈ tblG) : CV own ix mX3_forecastByTrend 0 := ⟨h, wq_1153, wq_21, wq_104, wq_1154, ok_X3_forecastByTrend⟩
theorem ok_X3_init : okN yX3_init 0 := ⟨by decide +kernel, by decide +kernel, by decide +kernel⟩
theorem ci_X3_init {own : String} {ix : Nat} (h : Cond.methodLink own ix yX3_init ∈ tblG) : CI own ix mX3_init 0 := ⟨h, wq_218, wq_104, wq_219, ok_X3_init, rfl, rfl⟩
theorem ok_X3_keptDemands : okN yX3_keptDemands 0 := ⟨by decide +kernel, by decide +kernel, by decide +kernel⟩
theorem cv_X3_keptDemands {own : String} {ix : Nat} (h : Cond.methodLink own ix yX3_keptDemands ∈ tblG) : CV own ix mX3_keptDemands 0 := ⟨h, wq_969, wq_970, wq_104, wq_971, ok_X3_keptDemands⟩
theorem ok_X3_lookAhead : okN yX3_lookAhead 1 := ⟨by decide +kernel, by decide +kernel, by decide +kernel⟩
theorem cv_X3_lookAhead {own : String} {ix : Nat} (h : Cond.methodLink own ix yX3_lookAhead ∈ tblG) : CV own ix mX3_lookAhead 1 := ⟨h, wq_1141, wq_1142, wq_104, wq_1143, ok_X3_lookAhead⟩
theorem ok_X3_meetDemand : okN yX3_meetDemand 1 := ⟨by decide +kernel, by decide +kernel, by decide +kernel⟩
theorem cv_X3_meetDemand {own : String} {ix : Nat} (h : Cond.methodLink own ix yX3_meetDemand ∈ tblG) : CV own ix mX3_meetDemand 1 := ⟨h, wq_1130, wq_1131, wq_104, wq_1132, ok_X3_meetDemand⟩
theorem ok_X3_middleDemand : okN yX3_middleDemand 0 := ⟨by decide +kernel, by decide +kernel, by decide +kernel⟩
theorem cv_X3_middleDemand {own : String} {ix : Nat} (h : Cond.methodLink own ix yX3_middleDemand ∈ tblG) : CV own ix mX3_middleDemand 0 := ⟨h, wq_1489, wq_1490, wq_104, wq_1491, ok_X3_middleDemand⟩
theorem ok_X3_percentUsed : okN yX3_percentUsed 1 := ⟨by decide +kernel, by decide +kernel, by decide +kernel⟩
theorem cv_X3_percentUsed {own : String} {ix : Nat} (h : Cond.methodLink own ix yX3_percentUsed ∈ tblG) : CV own ix mX3_percentUsed 1 := ⟨h, wq_751, wq_752, wq_104, wq_753, ok_X3_percentUsed⟩
theorem ok_X3_periodThatRepeatsBest : okN yX3_periodThatRepeatsBest 0 := ⟨by decide +kernel, by decide +kernel, by decide +kernel⟩
theorem cv_X3_periodThatRepeatsBest {own : String} {ix : Nat} (h : Cond.methodLink own ix yX3_periodThatRepeatsBest ∈ tblG) : CV own ix mX3_periodThatRepeatsBest 0 := ⟨h, wq_1374, wq_1375, wq_104, wq_1376, ok_X3_periodThatRepeatsBest⟩
theorem ok_X3_powerAt : okN yX3_powerAt 1 := ⟨by decide +kernel, by decide +kernel, by decide +kernel⟩
theorem cv_X3_powerAt {own : String} {ix : Nat} (h : Cond.methodLink own ix yX3_powerAt ∈ tblG) : CV own ix mX3_powerAt 1 := ⟨h, wq_755, wq_756, wq_104, wq_757, ok_X3_powerAt⟩
theorem ok_X3_sumOfDifferences : okN yX3_sumOfDifferences 1 := ⟨by decide +kernel, by decide +kernel, by decide +kernel⟩
theorem cv_X3_sumOfDifferences {own : String} {ix : Nat} (h : Cond.methodLink own ix yX3_sumOfDifferences ∈ tblG) : CV own ix mX3_sumOfDifferences 1 := ⟨h, wq_1380, wq_30, wq_104, wq_1381, ok_X3_sumOfDifferences⟩
theorem ok_X3_windowLength : okN yX3_windowLength 0 := ⟨by decide +kernel, by decide +kernel, by decide +kernel⟩
theorem cv_X3_windowLength {own : String} {ix : Nat} (h : Cond.methodLink own ix yX3_windowLength ∈ tblG) : CV own ix mX3_windowLength 0 := ⟨h, wq_767, wq_768, wq_104, wq_769, ok_X3_windowLength⟩
theorem ok_X3_windowSum : okN yX3_windowSum 0 := ⟨by decide +kernel, by decide +kernel, by decide +kernel⟩
theorem cv_X3_windowSum {own : String} {ix : Nat} (h : Cond.methodLink own ix yX3_windowSum ∈ tblG) : CV own ix mX3_windowSum 0 := ⟨h, wq_772, wq_773, wq_104, wq_774, ok_X3_windowSum⟩
theorem ok_X4_begin : okN yX4_begin 3 := ⟨by decide +kernel, by decide +kernel, by decide +kernel⟩
theorem cv_X4_begin {own : String} {ix : Nat} (h : Cond.methodLink own ix yX4_begin ∈ tblG) : CV own ix mX4_begin 3 := ⟨h, wq_494, wq_495, wq_105, wq_496, ok_X4_begin⟩
theorem ok_X4_copyFrom : okN yX4_copyFrom 1 := ⟨by decide +kernel, by decide +kernel, by decide +kernel⟩
theorem cv_X4_copyFrom {own : String} {ix : Nat} (h : Cond.methodLink own ix yX4_copyFrom ∈ tblG) : CV own ix mX4_copyFrom 1 := ⟨h, wq_716, wq_717, wq_105, wq_718, ok_X4_copyFrom⟩
theorem ok_X4_init : okN yX4_init 0 := ⟨by decide +kernel, by decide +kernel, by decide +kernel⟩
theorem ci_X4_init {own : String} {ix : Nat} (h : Cond.methodLink own ix yX4_init ∈ tblG) : CI own ix mX4_init 0 := ⟨h, wq_224, wq_105, wq_225, ok_X4_init, rfl, rfl⟩
theorem ok_X4_loadAt : okN yX4_loadAt 1 := ⟨by decide +kernel, by decide +kernel, by decide +kernel⟩
theorem cv_X4_loadAt {own : String} {ix : Nat} (h : Cond.methodLink own ix yX4_loadAt ∈ tblG) : CV own ix mX4_loadAt 1 := ⟨h, wq_986, wq_987, wq_105, wq_988, ok_X4_loadAt⟩
theorem ok_X4_numbered : okN yX4_numbered 1 := ⟨by decide +kernel, by decide +kernel, by decide +kernel⟩
theorem cv_X4_numbered {own : String} {ix : Nat} (h : Cond.methodLink own ix yX4_numbered ∈ tblG) : CV own ix mX4_numbered 1 := ⟨h, wq_913, wq_914, wq_105, wq_915, ok_X4_numbered⟩
theorem ok_X4_sizeFor : okN yX4_sizeFor 1 := ⟨by decide +kernel, by decide +kernel, by decide +kernel⟩
theorem cv_X4_sizeFor {own : String} {ix : Nat} (h : Cond.methodLink own ix yX4_sizeFor ∈ tblG) : CV own ix mX4_sizeFor 1 := ⟨h, wq_1164, wq_1165, wq_105, wq_1166, ok_X4_sizeFor⟩
theorem ok_X4_tryPolicy : okN yX4_tryPolicy 1 := ⟨by decide +kernel, by decide +kernel, by decide +kernel⟩
theorem cv_X4_tryPolicy {own : String} {ix : Nat} (h : Cond.methodLink own ix yX4_tryPolicy ∈ tblG) : CV own ix mX4_tryPolicy 1 := ⟨h, wq_1356, wq_1357, wq_105, wq_1358, ok_X4_tryPolicy⟩
theorem ok_X5_fail : okN yX5_fail 1 := ⟨by decide +kernel, by decide +kernel, by decide +kernel⟩
theorem cv_X5_fail {own : String} {ix : Nat} (h : Cond.methodLink own ix yX5_fail ∈ tblG) : CV own ix mX5_fail 1 := ⟨h, wq_663, wq_8, wq_100, wq_664, ok_X5_fail⟩
theorem ok_X5_init : okN yX5_init 0 := ⟨by decide +kernel, by decide +kernel, by decide +kernel⟩
theorem ci_X5_init {own : String} {ix : Nat} (h : Cond.methodLink own ix yX5_init ∈ tblG) : CI own ix mX5_init 0 := ⟨h, wq_134, wq_100, wq_135, ok_X5_init, rfl, rfl⟩
theorem ok_X5_isWord : okN yX5_isWord 1 := ⟨by decide +kernel, by decide +kernel, by decide +kernel⟩
theorem cv_X5_isWord {own : String} {ix : Nat} (h : Cond.methodLink own ix yX5_isWord ∈ tblG) : CV own ix mX5_isWord 1 := ⟨h, wq_596, wq_6, wq_100, wq_597, ok_X5_isWord⟩
theorem ok_X5_kindAt : okN yX5_kindAt 1 := ⟨by decide +kernel, by decide +kernel, by decide +kernel⟩
theorem cv_X5_kindAt {own : String} {ix : Nat} (h : Cond.methodLink own ix yX5_kindAt ∈ tblG) : CV own ix mX5_kindAt 1 := ⟨h, wq_579, wq_2, wq_100, wq_580, ok_X5_kindAt⟩
theorem ok_X5_numberOfToken : okN yX5_numberOfToken 2 := ⟨by decide +kernel, by decide +kernel, by decide +kernel⟩
theorem cv_X5_numberOfToken {own : String} {ix : Nat} (h : Cond.methodLink own ix yX5_numberOfToken ∈ tblG) : CV own ix mX5_numberOfToken 2 := ⟨h, wq_671, wq_10, wq_100, wq_672, ok_X5_numberOfToken⟩
theorem ok_X5_readLoads : okN yX5_readLoads 1 := ⟨by decide +kernel, by decide +kernel, by decide +kernel⟩
theorem cv_X5_readLoads {own : String} {ix : Nat} (h : Cond.methodLink own ix yX5_readLoads ∈ tblG) : CV own ix mX5_readLoads 1 := ⟨h, wq_683, wq_12, wq_100, wq_684, ok_X5_readLoads⟩
theorem ok_X5_readNumber : okN yX5_readNumber 2 := ⟨by decide +kernel, by decide +kernel, by decide +kernel⟩
theorem cv_X5_readNumber {own : String} {ix : Nat} (h : Cond.methodLink own ix yX5_readNumber ∈ tblG) : CV own ix mX5_readNumber 2 := ⟨h, wq_667, wq_9, wq_100, wq_668, ok_X5_readNumber⟩
theorem ok_X5_readPolicy : okN yX5_readPolicy 1 := ⟨by decide +kernel, by decide +kernel, by decide +kernel⟩
theorem cv_X5_readPolicy {own : String} {ix : Nat} (h : Cond.methodLink own ix yX5_readPolicy ∈ tblG) : CV own ix mX5_readPolicy 1 := ⟨h, wq_691, wq_14, wq_100, wq_692, ok_X5_readPolicy⟩
theorem ok_X5_readPool : okN yX5_readPool 1 := ⟨by decide +kernel, by decide +kernel, by decide +kernel⟩
theorem cv_X5_readPool {own : String} {ix : Nat} (h : Cond.methodLink own ix yX5_readPool ∈ tblG) : CV own ix mX5_readPool 1 := ⟨h, wq_659, wq_7, wq_100, wq_660, ok_X5_readPool⟩
theorem ok_X5_readProtect : okN yX5_readProtect 1 := ⟨by decide +kernel, by decide +kernel, by decide +kernel⟩
theorem cv_X5_readProtect {own : String} {ix : Nat} (h : Cond.methodLink own ix yX5_readProtect ∈ tblG) : CV own ix mX5_readProtect 1 := ⟨h, wq_687, wq_13, wq_100, wq_688, ok_X5_readProtect⟩
theorem ok_X5_readRule : okN yX5_readRule 1 := ⟨by decide +kernel, by decide +kernel, by decide +kernel⟩
theorem cv_X5_readRule {own : String} {ix : Nat} (h : Cond.methodLink own ix yX5_readRule ∈ tblG) : CV own ix mX5_readRule 1 := ⟨h, wq_698, wq_15, wq_100, wq_699, ok_X5_readRule⟩
theorem ok_X5_readSemicolon : okN yX5_readSemicolon 0 := ⟨by decide +kernel, by decide +kernel, by decide +kernel⟩
theorem cv_X5_readSemicolon {own : String} {ix : Nat} (h : Cond.methodLink own ix yX5_readSemicolon ∈ tblG) : CV own ix mX5_readSemicolon 0 := ⟨h, wq_678, wq_11, wq_100, wq_679, ok_X5_readSemicolon⟩
theorem ok_X5_readSettings : okN yX5_readSettings 2 := ⟨by decide +kernel, by decide +kernel, by decide +kernel⟩
theorem cv_X5_readSettings {own : String} {ix : Nat} (h : Cond.methodLink own ix yX5_readSettings ∈ tblG) : CV own ix mX5_readSettings 2 := ⟨h, wq_705, wq_16, wq_100, wq_706, ok_X5_readSettings⟩
theorem ok_X5_readSetup : okN yX5_readSetup 3 := ⟨by decide +kernel, by decide +kernel, by decide +kernel⟩
theorem cv_X5_readSetup {own : String} {ix : Nat} (h : Cond.methodLink own ix yX5_readSetup ∈ tblG) : CV own ix mX5_readSetup 3 := ⟨h, wq_563, wq_564, wq_100, wq_565, ok_X5_readSetup⟩
theorem ok_X5_readStatement : okN yX5_readStatement 1 := ⟨by decide +kernel, by decide +kernel, by decide +kernel⟩
theorem cv_X5_readStatement {own : String} {ix : Nat} (h : Cond.methodLink own ix yX5_readStatement ∈ tblG) : CV own ix mX5_readStatement 1 := ⟨h, wq_587, wq_4, wq_100, wq_588, ok_X5_readStatement⟩
theorem ok_X5_readToken : okN yX5_readToken 0 := ⟨by decide +kernel, by decide +kernel, by decide +kernel⟩
theorem cv_X5_readToken {own : String} {ix : Nat} (h : Cond.methodLink own ix yX5_readToken ∈ tblG) : CV own ix mX5_readToken 0 := ⟨h, wq_575, wq_1, wq_100, wq_576, ok_X5_readToken⟩
theorem ok_X5_readValue : okN yX5_readValue 0 := ⟨by decide +kernel, by decide +kernel, by decide +kernel⟩
theorem cv_X5_readValue {own : String} {ix : Nat} (h : Cond.methodLink own ix yX5_readValue ∈ tblG) : CV own ix mX5_readValue 0 := ⟨h, wq_583, wq_3, wq_100, wq_584, ok_X5_readValue⟩
theorem ok_X5_statementOfWord : okN yX5_statementOfWord 0 := ⟨by decide +kernel, by decide +kernel, by decide +kernel⟩
theorem cv_X5_statementOfWord {own : String} {ix : Nat} (h : Cond.methodLink own ix yX5_statementOfWord ∈ tblG) : CV own ix mX5_statementOfWord 0 := ⟨h, wq_591, wq_5, wq_100, wq_592, ok_X5_statementOfWord⟩
theorem ok_X6_addLacking : okN yX6_addLacking 1 := ⟨by decide +kernel, by decide +kernel, by decide +kernel⟩
theorem cv_X6_addLacking {own : String} {ix : Nat} (h : Cond.methodLink own ix yX6_addLacking ∈ tblG) : CV own ix mX6_addLacking 1 := ⟨h, wq_1185, wq_24, wq_102, wq_1186, ok_X6_addLacking⟩
theorem ok_X6_addMember : okN yX6_addMember 2 := ⟨by decide +kernel, by decide +kernel, by decide +kernel⟩
theorem cv_X6_addMember {own : String} {ix : Nat} (h : Cond.methodLink own ix yX6_addMember ∈ tblG) : CV own ix mX6_addMember 2 := ⟨h, wq_1189, wq_1190, wq_102, wq_1191, ok_X6_addMember⟩
theorem ok_X6_addPool : okN yX6_addPool 3 := ⟨by decide +kernel, by decide +kernel, by decide +kernel⟩
theorem cv_X6_addPool {own : String} {ix : Nat} (h : Cond.methodLink own ix yX6_addPool ∈ tblG) : CV own ix mX6_addPool 3 := ⟨h, wq_486, wq_487, wq_102, wq_488, ok_X6_addPool⟩
theorem ok_X6_clear : okN yX6_clear 0 := ⟨by decide +kernel, by decide +kernel, by decide +kernel⟩
theorem cv_X6_clear {own : String} {ix : Nat} (h : Cond.methodLink own ix yX6_clear ∈ tblG) : CV own ix mX6_clear 0 := ⟨h, wq_570, wq_571, wq_102, wq_572, ok_X6_clear⟩
theorem ok_X6_copyFrom : okN yX6_copyFrom 1 := ⟨by decide +kernel, by decide +kernel, by decide +kernel⟩
theorem cv_X6_copyFrom {own : String} {ix : Nat} (h : Cond.methodLink own ix yX6_copyFrom ∈ tblG) : CV own ix mX6_copyFrom 1 := ⟨h, wq_708, wq_709, wq_102, wq_710, ok_X6_copyFrom⟩
theorem ok_X6_countMembers : okN yX6_countMembers 0 := ⟨by decide +kernel, by decide +kernel, by decide +kernel⟩
theorem cv_X6_countMembers {own : String} {ix : Nat} (h : Cond.methodLink own ix yX6_countMembers ∈ tblG) : CV own ix mX6_countMembers 0 := ⟨h, wq_804, wq_805, wq_102, wq_806, ok_X6_countMembers⟩
theorem ok_X6_homeOf : okN yX6_homeOf 1 := ⟨by decide +kernel, by decide +kernel, by decide +kernel⟩
theorem cv_X6_homeOf {own : String} {ix : Nat} (h : Cond.methodLink own ix yX6_homeOf ∈ tblG) : CV own ix mX6_homeOf 1 := ⟨h, wq_925, wq_926, wq_102, wq_927, ok_X6_homeOf⟩
theorem ok_X6_init : okN yX6_init 0 := ⟨by decide +kernel, by decide +kernel, by decide +kernel⟩
theorem ci_X6_init {own : String} {ix : Nat} (h : Cond.methodLink own ix yX6_init ∈ tblG) : CI own ix mX6_init 0 := ⟨h, wq_186, wq_102, wq_187, ok_X6_init, rfl, rfl⟩
theorem ok_X6_passPhases : okN yX6_passPhases 1 := ⟨by decide +kernel, by decide +kernel, by decide +kernel⟩
theorem cv_X6_passPhases {own : String} {ix : Nat} (h : Cond.methodLink own ix yX6_passPhases ∈ tblG) : CV own ix mX6_passPhases 1 := ⟨h, wq_1126, wq_1127, wq_102, wq_1128, ok_X6_passPhases⟩
theorem ok_X6_placeIn : okN yX6_placeIn 2 := ⟨by decide +kernel, by decide +kernel, by decide +kernel⟩
theorem cv_X6_placeIn {own : String} {ix : Nat} (h : Cond.methodLink own ix yX6_placeIn ∈ tblG) : CV own ix mX6_placeIn 2 := ⟨h, wq_933, wq_934, wq_102, wq_935, ok_X6_placeIn⟩
theorem ok_X6_removeMember : okN yX6_removeMember 2 := ⟨by decide +kernel, by decide +kernel, by decide +kernel⟩
theorem cv_X6_removeMember {own : String} {ix : Nat} (h : Cond.methodLink own ix yX6_removeMember ∈ tblG) : CV own ix mX6_removeMember 2 := ⟨h, wq_1202, wq_1203, wq_102, wq_1204, ok_X6_removeMember⟩
theorem ok_X6_removeTooMany : okN yX6_removeTooMany 1 := ⟨by decide +kernel, by decide +kernel, by decide +kernel⟩
theorem cv_X6_removeTooMany {own : String} {ix : Nat} (h : Cond.methodLink own ix yX6_removeTooMany ∈ tblG) : CV own ix mX6_removeTooMany 1 := ⟨h, wq_1198, wq_25, wq_102, wq_1199, ok_X6_removeTooMany⟩
theorem ok_X6_tickAll : okN yX6_tickAll 0 := ⟨by decide +kernel, by decide +kernel, by decide +kernel⟩
theorem cv_X6_tickAll {own : String} {ix : Nat} (h : Cond.methodLink own ix yX6_tickAll ∈ tblG) : CV own ix mX6_tickAll 0 := ⟨h, wq_1122, wq_1123, wq_102, wq_1124, ok_X6_tickAll⟩
theorem ok_X7_addDecision : okN yX7_addDecision 1 := ⟨by decide +kernel, by decide +kernel, by decide +kernel⟩
theorem cv_X7_addDecision {own : String} {ix : Nat} (h : Cond.methodLink own ix yX7_addDecision ∈ tblG) : CV own ix mX7_addDecision 1 := ⟨h, wq_1180, wq_1181, wq_107, wq_1182, ok_X7_addDecision⟩
theorem ok_X7_addError : okN yX7_addError 1 := ⟨by decide +kernel, by decide +kernel, by decide +kernel⟩
theorem cv_X7_addError {own : String} {ix : Nat} (h : Cond.methodLink own ix yX7_addError ∈ tblG) : CV own ix mX7_addError 1 := ⟨h, wq_1148, wq_1149, wq_107, wq_1150, ok_X7_addError⟩
theorem ok_X7_addTick : okN yX7_addTick 4 := ⟨by decide +kernel, by decide +kernel, by decide +kernel⟩
theorem cv_X7_addTick {own : String} {ix : Nat} (h : Cond.methodLink own ix yX7_addTick ∈ tblG) : CV own ix mX7_addTick 4 := ⟨h, wq_1136, wq_1137, wq_107, wq_1138, ok_X7_addTick⟩
theorem ok_X7_begin : okN yX7_begin 0 := ⟨by decide +kernel, by decide +kernel, by decide +kernel⟩
theorem cv_X7_begin {own : String} {ix : Nat} (h : Cond.methodLink own ix yX7_begin ∈ tblG) : CV own ix mX7_begin 0 := ⟨h, wq_498, wq_499, wq_107, wq_500, ok_X7_begin⟩
theorem ok_X7_copyFrom : okN yX7_copyFrom 1 := ⟨by decide +kernel, by decide +kernel, by decide +kernel⟩
theorem cv_X7_copyFrom {own : String} {ix : Nat} (h : Cond.methodLink own ix yX7_copyFrom ∈ tblG) : CV own ix mX7_copyFrom 1 := ⟨h, wq_728, wq_729, wq_107, wq_730, ok_X7_copyFrom⟩
theorem ok_X7_init : okN yX7_init 0 := ⟨by decide +kernel, by decide +kernel, by decide +kernel⟩
theorem ci_X7_init {own : String} {ix : Nat} (h : Cond.methodLink own ix yX7_init ∈ tblG) : CI own ix mX7_init 0 := ⟨h, wq_362, wq_107, wq_363, ok_X7_init, rfl, rfl⟩
theorem ok_X8_appendInput : okN yX8_appendInput 5 := ⟨by decide +kernel, by decide +kernel, by decide +kernel⟩
theorem cv_X8_appendInput {own : String} {ix : Nat} (h : Cond.methodLink own ix yX8_appendInput ∈ tblG) : CV own ix mX8_appendInput 5 := ⟨h, wq_547, wq_548, wq_99, wq_549, ok_X8_appendInput⟩
theorem ok_X8_appendWord : okN yX8_appendWord 1 := ⟨by decide +kernel, by decide +kernel, by decide +kernel⟩
theorem cv_X8_appendWord {own : String} {ix : Nat} (h : Cond.methodLink own ix yX8_appendWord ∈ tblG) : CV own ix mX8_appendWord 1 := ⟨h, wq_552, wq_0, wq_99, wq_553, ok_X8_appendWord⟩
theorem ok_X8_bestCool : okN yX8_bestCool 2 := ⟨by decide +kernel, by decide +kernel, by decide +kernel⟩
theorem cv_X8_bestCool {own : String} {ix : Nat} (h : Cond.methodLink own ix yX8_bestCool ∈ tblG) : CV own ix mX8_bestCool 2 := ⟨h, wq_1439, wq_1440, wq_99, wq_1441, ok_X8_bestCool⟩
theorem ok_X8_bestPeriod : okN yX8_bestPeriod 1 := ⟨by decide +kernel, by decide +kernel, by decide +kernel⟩
theorem cv_X8_bestPeriod {own : String} {ix : Nat} (h : Cond.methodLink own ix yX8_bestPeriod ∈ tblG) : CV own ix mX8_bestPeriod 1 := ⟨h, wq_1370, wq_1371, wq_99, wq_1372, ok_X8_bestPeriod⟩
theorem ok_X8_bestPolicy : okN yX8_bestPolicy 2 := ⟨by decide +kernel, by decide +kernel, by decide +kernel⟩
theorem cv_X8_bestPolicy {own : String} {ix : Nat} (h : Cond.methodLink own ix yX8_bestPolicy ∈ tblG) : CV own ix mX8_bestPolicy 2 := ⟨h, wq_1352, wq_1353, wq_99, wq_1354, ok_X8_bestPolicy⟩
theorem ok_X8_bestTarget : okN yX8_bestTarget 2 := ⟨by decide +kernel, by decide +kernel, by decide +kernel⟩
theorem cv_X8_bestTarget {own : String} {ix : Nat} (h : Cond.methodLink own ix yX8_bestTarget ∈ tblG) : CV own ix mX8_bestTarget 2 := ⟨h, wq_1363, wq_1364, wq_99, wq_1365, ok_X8_bestTarget⟩
theorem ok_X8_busiest : okN yX8_busiest 0 := ⟨by decide +kernel, by decide +kernel, by decide +kernel⟩
theorem cv_X8_busiest {own : String} {ix : Nat} (h : Cond.methodLink own ix yX8_busiest ∈ tblG) : CV own ix mX8_busiest 0 := ⟨h, wq_747, wq_748, wq_99, wq_749, ok_X8_busiest⟩
theorem ok_X8_changesIn : okN yX8_changesIn 2 := ⟨by decide +kernel, by decide +kernel, by decide +kernel⟩
theorem cv_X8_changesIn {own : String} {ix : Nat} (h : Cond.methodLink own ix yX8_changesIn ∈ tblG) : CV own ix mX8_changesIn 2 := ⟨h, wq_1425, wq_1426, wq_99, wq_1427, ok_X8_changesIn⟩
theorem ok_X8_coolLeft : okN yX8_coolLeft 2 := ⟨by decide +kernel, by decide +kernel, by decide +kernel⟩
theorem cv_X8_coolLeft {own : String} {ix : Nat} (h : Cond.methodLink own ix yX8_coolLeft ∈ tblG) : CV own ix mX8_coolLeft 2 := ⟨h, wq_1039, wq_1040, wq_99, wq_1041, ok_X8_coolLeft⟩
theorem ok_X8_cost : okN yX8_cost 1 := ⟨by decide +kernel, by decide +kernel, by decide +kernel⟩
theorem cv_X8_cost {own : String} {ix : Nat} (h : Cond.methodLink own ix yX8_cost ∈ tblG) : CV own ix mX8_cost 1 := ⟨h, wq_1061, wq_1062, wq_99, wq_1063, ok_X8_cost⟩
theorem ok_X8_costIn : okN yX8_costIn 2 := ⟨by decide +kernel, by decide +kernel, by decide +kernel⟩
theorem cv_X8_costIn {own : String} {ix : Nat} (h : Cond.methodLink own ix yX8_costIn ∈ tblG) : CV own ix mX8_costIn 2 := ⟨h, wq_1334, wq_1335, wq_99, wq_1336, ok_X8_costIn⟩
theorem ok_X8_count : okN yX8_count 1 := ⟨by decide +kernel, by decide +kernel, by decide +kernel⟩
theorem cv_X8_count {own : String} {ix : Nat} (h : Cond.methodLink own ix yX8_count ∈ tblG) : CV own ix mX8_count 1 := ⟨h, wq_800, wq_801, wq_99, wq_802, ok_X8_count⟩
theorem ok_X8_decisions : okN yX8_decisions 2 := ⟨by decide +kernel, by decide +kernel, by decide +kernel⟩
theorem cv_X8_decisions {own : String} {ix : Nat} (h : Cond.methodLink own ix yX8_decisions ∈ tblG) : CV own ix mX8_decisions 2 := ⟨h, wq_1089, wq_1090, wq_99, wq_1091, ok_X8_decisions⟩
theorem ok_X8_demand : okN yX8_demand 2 := ⟨by decide +kernel, by decide +kernel, by decide +kernel⟩
theorem cv_X8_demand {own : String} {ix : Nat} (h : Cond.methodLink own ix yX8_demand ∈ tblG) : CV own ix mX8_demand 2 := ⟨h, wq_965, wq_966, wq_99, wq_967, ok_X8_demand⟩
theorem ok_X8_demandsWithin : okN yX8_demandsWithin 3 := ⟨by decide +kernel, by decide +kernel, by decide +kernel⟩
theorem cv_X8_demandsWithin {own : String} {ix : Nat} (h : Cond.methodLink own ix yX8_demandsWithin ∈ tblG) : CV own ix mX8_demandsWithin 3 := ⟨h, wq_1500, wq_1501, wq_99, wq_1502, ok_X8_demandsWithin⟩
theorem ok_X8_dividedUp : okN yX8_dividedUp 2 := ⟨by decide +kernel, by decide +kernel, by decide +kernel⟩
theorem cs_X8_dividedUp {own : String} {ix : Nat} (h : Cond.methodLink own ix yX8_dividedUp ∈ tblG) : CSt own ix mX8_dividedUp 2 := ⟨h, wq_1161, wq_99, wq_1162, ok_X8_dividedUp⟩
theorem ok_X8_drop : okN yX8_drop 1 := ⟨by decide +kernel, by decide +kernel, by decide +kernel⟩
theorem cv_X8_drop {own : String} {ix : Nat} (h : Cond.methodLink own ix yX8_drop ∈ tblG) : CV own ix mX8_drop 1 := ⟨h, wq_1258, wq_1259, wq_99, wq_1260, ok_X8_drop⟩
theorem ok_X8_dropCold : okN yX8_dropCold 1 := ⟨by decide +kernel, by decide +kernel, by decide +kernel⟩
theorem cv_X8_dropCold {own : String} {ix : Nat} (h : Cond.methodLink own ix yX8_dropCold ∈ tblG) : CV own ix mX8_dropCold 1 := ⟨h, wq_1457, wq_1458, wq_99, wq_1459, ok_X8_dropCold⟩
theorem ok_X8_eldest : okN yX8_eldest 0 := ⟨by decide +kernel, by decide +kernel, by decide +kernel⟩
theorem cv_X8_eldest {own : String} {ix : Nat} (h : Cond.methodLink own ix yX8_eldest ∈ tblG) : CV own ix mX8_eldest 0 := ⟨h, wq_780, wq_781, wq_99, wq_782, ok_X8_eldest⟩
theorem ok_X8_errorCode : okN yX8_errorCode 0 := ⟨by decide +kernel, by decide +kernel, by decide +kernel⟩
theorem cv_X8_errorCode {own : String} {ix : Nat} (h : Cond.methodLink own ix yX8_errorCode ∈ tblG) : CV own ix mX8_errorCode 0 := ⟨h, wq_739, wq_740, wq_99, wq_741, ok_X8_errorCode⟩
theorem ok_X8_errorOffset : okN yX8_errorOffset 0 := ⟨by decide +kernel, by decide +kernel, by decide +kernel⟩
theorem cv_X8_errorOffset {own : String} {ix : Nat} (h : Cond.methodLink own ix yX8_errorOffset ∈ tblG) : CV own ix mX8_errorOffset 0 := ⟨h, wq_743, wq_744, wq_99, wq_745, ok_X8_errorOffset⟩
theorem ok_X8_errorsWith : okN yX8_errorsWith 3 := ⟨by decide +kernel, by decide +kernel, by decide +kernel⟩
theorem cv_X8_errorsWith {own : String} {ix : Nat} (h : Cond.methodLink own ix yX8_errorsWith ∈ tblG) : CV own ix mX8_errorsWith 3 := ⟨h, wq_1478, wq_1479, wq_99, wq_1480, ok_X8_errorsWith⟩
theorem ok_X8_event : okN yX8_event 2 := ⟨by decide +kernel, by decide +kernel, by decide +kernel⟩
theorem cv_X8_event {own : String} {ix : Nat} (h : Cond.methodLink own ix yX8_event ∈ tblG) : CV own ix mX8_event 2 := ⟨h, wq_1096, wq_1097, wq_99, wq_1098, ok_X8_event⟩
theorem ok_X8_existingPool : okN yX8_existingPool 1 := ⟨by decide +kernel, by decide +kernel, by decide +kernel⟩
theorem cv_X8_existingPool {own : String} {ix : Nat} (h : Cond.methodLink own ix yX8_existingPool ∈ tblG) : CV own ix mX8_existingPool 1 := ⟨h, wq_885, wq_18, wq_99, wq_886, ok_X8_existingPool⟩
theorem ok_X8_forecast : okN yX8_forecast 1 := ⟨by decide +kernel, by decide +kernel, by decide +kernel⟩
theorem cv_X8_forecast {own : String} {ix : Nat} (h : Cond.methodLink own ix yX8_forecast ∈ tblG) : CV own ix mX8_forecast 1 := ⟨h, wq_1003, wq_1004, wq_99, wq_1005, ok_X8_forecast⟩
theorem ok_X8_greatestIn : okN yX8_greatestIn 2 := ⟨by decide +kernel, by decide +kernel, by decide +kernel⟩
theorem cv_X8_greatestIn {own : String} {ix : Nat} (h : Cond.methodLink own ix yX8_greatestIn ∈ tblG) : CV own ix mX8_greatestIn 2 := ⟨h, wq_1471, wq_1472, wq_99, wq_1473, ok_X8_greatestIn⟩
theorem ok_X8_grow : okN yX8_grow 2 := ⟨by decide +kernel, by decide +kernel, by decide +kernel⟩
theorem cv_X8_grow {own : String} {ix : Nat} (h : Cond.methodLink own ix yX8_grow ∈ tblG) : CV own ix mX8_grow 2 := ⟨h, wq_1234, wq_1235, wq_99, wq_1236, ok_X8_grow⟩
theorem ok_X8_headroom : okN yX8_headroom 1 := ⟨by decide +kernel, by decide +kernel, by decide +kernel⟩
theorem cv_X8_headroom {own : String} {ix : Nat} (h : Cond.methodLink own ix yX8_headroom ∈ tblG) : CV own ix mX8_headroom 1 := ⟨h, wq_1417, wq_1418, wq_99, wq_1419, ok_X8_headroom⟩
theorem ok_X8_hurry : okN yX8_hurry 1 := ⟨by decide +kernel, by decide +kernel, by decide +kernel⟩
theorem cv_X8_hurry {own : String} {ix : Nat} (h : Cond.methodLink own ix yX8_hurry ∈ tblG) : CV own ix mX8_hurry 1 := ⟨h, wq_1464, wq_1465, wq_99, wq_1466, ok_X8_hurry⟩
theorem ok_X8_init : okN yX8_init 0 := ⟨by decide +kernel, by decide +kernel, by decide +kernel⟩
theorem ci_X8_init {own : String} {ix : Nat} (h : Cond.methodLink own ix yX8_init ∈ tblG) : CI own ix mX8_init 0 := ⟨h, wq_126, wq_99, wq_127, ok_X8_init, rfl, rfl⟩
theorem ok_X8_loadPools : okN yX8_loadPools 0 := ⟨by decide +kernel, by decide +kernel, by decide +kernel⟩
theorem cv_X8_loadPools {own : String} {ix : Nat} (h : Cond.methodLink own ix yX8_loadPools ∈ tblG) : CV own ix mX8_loadPools 0 := ⟨h, wq_559, wq_560, wq_99, wq_561, ok_X8_loadPools⟩
theorem ok_X8_longestMiss : okN yX8_longestMiss 1 := ⟨by decide +kernel, by decide +kernel, by decide +kernel⟩
theorem cv_X8_longestMiss {own : String} {ix : Nat} (h : Cond.methodLink own ix yX8_longestMiss ∈ tblG) : CV own ix mX8_longestMiss 1 := ⟨h, wq_1410, wq_1411, wq_99, wq_1412, ok_X8_longestMiss⟩
theorem ok_X8_meanAge : okN yX8_meanAge 1 := ⟨by decide +kernel, by decide +kernel, by decide +kernel⟩
theorem cv_X8_meanAge {own : String} {ix : Nat} (h : Cond.methodLink own ix yX8_meanAge ∈ tblG) : CV own ix mX8_meanAge 1 := ⟨h, wq_1446, wq_1447, wq_99, wq_1448, ok_X8_meanAge⟩
theorem ok_X8_meanError : okN yX8_meanError 1 := ⟨by decide +kernel, by decide +kernel, by decide +kernel⟩
theorem cv_X8_meanError {own : String} {ix : Nat} (h : Cond.methodLink own ix yX8_meanError ∈ tblG) : CV own ix mX8_meanError 1 := ⟨h, wq_1017, wq_1018, wq_99, wq_1019, ok_X8_meanError⟩
theorem ok_X8_measure : okN yX8_measure 1 := ⟨by decide +kernel, by decide +kernel, by decide +kernel⟩
theorem cv_X8_measure {own : String} {ix : Nat} (h : Cond.methodLink own ix yX8_measure ∈ tblG) : CV own ix mX8_measure 1 := ⟨h, wq_996, wq_997, wq_99, wq_998, ok_X8_measure⟩
theorem ok_X8_median : okN yX8_median 1 := ⟨by decide +kernel, by decide +kernel, by decide +kernel⟩
theorem cv_X8_median {own : String} {ix : Nat} (h : Cond.methodLink own ix yX8_median ∈ tblG) : CV own ix mX8_median 1 := ⟨h, wq_1485, wq_1486, wq_99, wq_1487, ok_X8_median⟩
theorem ok_X8_member : okN yX8_member 2 := ⟨by decide +kernel, by decide +kernel, by decide +kernel⟩
theorem cv_X8_member {own : String} {ix : Nat} (h : Cond.methodLink own ix yX8_member ∈ tblG) : CV own ix mX8_member 2 := ⟨h, wq_921, wq_922, wq_99, wq_923, ok_X8_member⟩
theorem ok_X8_memberAt : okN yX8_memberAt 2 := ⟨by decide +kernel, by decide +kernel, by decide +kernel⟩
theorem cv_X8_memberAt {own : String} {ix : Nat} (h : Cond.methodLink own ix yX8_memberAt ∈ tblG) : CV own ix mX8_memberAt 2 := ⟨h, wq_957, wq_958, wq_99, wq_959, ok_X8_memberAt⟩
theorem ok_X8_missed : okN yX8_missed 1 := ⟨by decide +kernel, by decide +kernel, by decide +kernel⟩
theorem cv_X8_missed {own : String} {ix : Nat} (h : Cond.methodLink own ix yX8_missed ∈ tblG) : CV own ix mX8_missed 1 := ⟨h, wq_1054, wq_1055, wq_99, wq_1056, ok_X8_missed⟩
theorem ok_X8_missedIn : okN yX8_missedIn 2 := ⟨by decide +kernel, by decide +kernel, by decide +kernel⟩
theorem cv_X8_missedIn {own : String} {ix : Nat} (h : Cond.methodLink own ix yX8_missedIn ∈ tblG) : CV own ix mX8_missedIn 2 := ⟨h, wq_1327, wq_1328, wq_99, wq_1329, ok_X8_missedIn⟩
theorem ok_X8_missedShare : okN yX8_missedShare 1 := ⟨by decide +kernel, by decide +kernel, by decide +kernel⟩
theorem cv_X8_missedShare {own : String} {ix : Nat} (h : Cond.methodLink own ix yX8_missedShare ∈ tblG) : CV own ix mX8_missedShare 1 := ⟨h, wq_1068, wq_1069, wq_99, wq_1070, ok_X8_missedShare⟩
theorem ok_X8_missesIn : okN yX8_missesIn 2 := ⟨by decide +kernel, by decide +kernel, by decide +kernel⟩
theorem cv_X8_missesIn {own : String} {ix : Nat} (h : Cond.methodLink own ix yX8_missesIn ∈ tblG) : CV own ix mX8_missesIn 2 := ⟨h, wq_1345, wq_1346, wq_99, wq_1347, ok_X8_missesIn⟩
theorem ok_X8_needed : okN yX8_needed 2 := ⟨by decide +kernel, by decide +kernel, by decide +kernel⟩
theorem cv_X8_needed {own : String} {ix : Nat} (h : Cond.methodLink own ix yX8_needed ∈ tblG) : CV own ix mX8_needed 2 := ⟨h, wq_1386, wq_1387, wq_99, wq_1388, ok_X8_needed⟩
theorem ok_X8_nextDropped : okN yX8_nextDropped 1 := ⟨by decide +kernel, by decide +kernel, by decide +kernel⟩
theorem cv_X8_nextDropped {own : String} {ix : Nat} (h : Cond.methodLink own ix yX8_nextDropped ∈ tblG) : CV own ix mX8_nextDropped 1 := ⟨h, wq_1024, wq_1025, wq_99, wq_1026, ok_X8_nextDropped⟩
theorem ok_X8_outputByte : okN yX8_outputByte 1 := ⟨by decide +kernel, by decide +kernel, by decide +kernel⟩
theorem cv_X8_outputByte {own : String} {ix : Nat} (h : Cond.methodLink own ix yX8_outputByte ∈ tblG) : CV own ix mX8_outputByte 1 := ⟨h, wq_784, wq_785, wq_99, wq_786, ok_X8_outputByte⟩
theorem ok_X8_pause : okN yX8_pause 2 := ⟨by decide +kernel, by decide +kernel, by decide +kernel⟩
theorem cv_X8_pause {own : String} {ix : Nat} (h : Cond.methodLink own ix yX8_pause ∈ tblG) : CV own ix mX8_pause 2 := ⟨h, wq_1272, wq_1273, wq_99, wq_1274, ok_X8_pause⟩
theorem ok_X8_peak : okN yX8_peak 1 := ⟨by decide +kernel, by decide +kernel, by decide +kernel⟩
theorem cv_X8_peak {own : String} {ix : Nat} (h : Cond.methodLink own ix yX8_peak ∈ tblG) : CV own ix mX8_peak 1 := ⟨h, wq_1082, wq_1083, wq_99, wq_1084, ok_X8_peak⟩
theorem ok_X8_planned : okN yX8_planned 2 := ⟨by decide +kernel, by decide +kernel, by decide +kernel⟩
theorem cv_X8_planned {own : String} {ix : Nat} (h : Cond.methodLink own ix yX8_planned ∈ tblG) : CV own ix mX8_planned 2 := ⟨h, wq_978, wq_979, wq_99, wq_980, ok_X8_planned⟩
theorem ok_X8_pool : okN yX8_pool 2 := ⟨by decide +kernel, by decide +kernel, by decide +kernel⟩
theorem cv_X8_pool {own : String} {ix : Nat} (h : Cond.methodLink own ix yX8_pool ∈ tblG) : CV own ix mX8_pool 2 := ⟨h, wq_880, wq_881, wq_99, wq_882, ok_X8_pool⟩
theorem ok_X8_printPool : okN yX8_printPool 1 := ⟨by decide +kernel, by decide +kernel, by decide +kernel⟩
theorem cv_X8_printPool {own : String} {ix : Nat} (h : Cond.methodLink own ix yX8_printPool ∈ tblG) : CV own ix mX8_printPool 1 := ⟨h, wq_1508, wq_1509, wq_99, wq_1510, ok_X8_printPool⟩
theorem ok_X8_protect : okN yX8_protect 2 := ⟨by decide +kernel, by decide +kernel, by decide +kernel⟩
theorem cv_X8_protect {own : String} {ix : Nat} (h : Cond.methodLink own ix yX8_protect ∈ tblG) : CV own ix mX8_protect 2 := ⟨h, wq_1226, wq_1227, wq_99, wq_1228, ok_X8_protect⟩
theorem ok_X8_push : okN yX8_push 2 := ⟨by decide +kernel, by decide +kernel, by decide +kernel⟩
theorem cv_X8_push {own : String} {ix : Nat} (h : Cond.methodLink own ix yX8_push ∈ tblG) : CV own ix mX8_push 2 := ⟨h, wq_1218, wq_1219, wq_99, wq_1220, ok_X8_push⟩
theorem ok_X8_remember : okN yX8_remember 0 := ⟨by decide +kernel, by decide +kernel, by decide +kernel⟩
theorem cv_X8_remember {own : String} {ix : Nat} (h : Cond.methodLink own ix yX8_remember ∈ tblG) : CV own ix mX8_remember 0 := ⟨h, wq_1119, wq_20, wq_99, wq_1120, ok_X8_remember⟩
theorem ok_X8_requireRange : okN yX8_requireRange 3 := ⟨by decide +kernel, by decide +kernel, by decide +kernel⟩
theorem cs_X8_requireRange {own : String} {ix : Nat} (h : Cond.methodLink own ix yX8_requireRange ∈ tblG) : CSt own ix mX8_requireRange 3 := ⟨h, wq_904, wq_99, wq_905, ok_X8_requireRange⟩
theorem ok_X8_restoreState : okN yX8_restoreState 0 := ⟨by decide +kernel, by decide +kernel, by decide +kernel⟩
theorem cv_X8_restoreState {own : String} {ix : Nat} (h : Cond.methodLink own ix yX8_restoreState ∈ tblG) : CV own ix mX8_restoreState 0 := ⟨h, wq_1524, wq_1525, wq_99, wq_1526, ok_X8_restoreState⟩
theorem ok_X8_run : okN yX8_run 1 := ⟨by decide +kernel, by decide +kernel, by decide +kernel⟩
theorem cv_X8_run {own : String} {ix : Nat} (h : Cond.methodLink own ix yX8_run ∈ tblG) : CV own ix mX8_run 1 := ⟨h, wq_1114, wq_1115, wq_99, wq_1116, ok_X8_run⟩
theorem ok_X8_saveState : okN yX8_saveState 0 := ⟨by decide +kernel, by decide +kernel, by decide +kernel⟩
theorem cv_X8_saveState {own : String} {ix : Nat} (h : Cond.methodLink own ix yX8_saveState ∈ tblG) : CV own ix mX8_saveState 0 := ⟨h, wq_792, wq_793, wq_99, wq_794, ok_X8_saveState⟩
theorem ok_X8_served : okN yX8_served 1 := ⟨by decide +kernel, by decide +kernel, by decide +kernel⟩
theorem cv_X8_served {own : String} {ix : Nat} (h : Cond.methodLink own ix yX8_served ∈ tblG) : CV own ix mX8_served 1 := ⟨h, wq_1047, wq_1048, wq_99, wq_1049, ok_X8_served⟩
theorem ok_X8_setBounds : okN yX8_setBounds 3 := ⟨by decide +kernel, by decide +kernel, by decide +kernel⟩
theorem cv_X8_setBounds {own : String} {ix : Nat} (h : Cond.methodLink own ix yX8_setBounds ∈ tblG) : CV own ix mX8_setBounds 3 := ⟨h, wq_1300, wq_1301, wq_99, wq_1302, ok_X8_setBounds⟩
theorem ok_X8_setCool : okN yX8_setCool 3 := ⟨by decide +kernel, by decide +kernel, by decide +kernel⟩
theorem cv_X8_setCool {own : String} {ix : Nat} (h : Cond.methodLink own ix yX8_setCool ∈ tblG) : CV own ix mX8_setCool 3 := ⟨h, wq_1293, wq_1294, wq_99, wq_1295, ok_X8_setCool⟩
theorem ok_X8_setLoad : okN yX8_setLoad 3 := ⟨by decide +kernel, by decide +kernel, by decide +kernel⟩
theorem cv_X8_setLoad {own : String} {ix : Nat} (h : Cond.methodLink own ix yX8_setLoad ∈ tblG) : CV own ix mX8_setLoad 3 := ⟨h, wq_1403, wq_1404, wq_99, wq_1405, ok_X8_setLoad⟩
theorem ok_X8_setPolicy : okN yX8_setPolicy 3 := ⟨by decide +kernel, by decide +kernel, by decide +kernel⟩
theorem cv_X8_setPolicy {own : String} {ix : Nat} (h : Cond.methodLink own ix yX8_setPolicy ∈ tblG) : CV own ix mX8_setPolicy 3 := ⟨h, wq_1279, wq_1280, wq_99, wq_1281, ok_X8_setPolicy⟩
theorem ok_X8_setTarget : okN yX8_setTarget 2 := ⟨by decide +kernel, by decide +kernel, by decide +kernel⟩
theorem cv_X8_setTarget {own : String} {ix : Nat} (h : Cond.methodLink own ix yX8_setTarget ∈ tblG) : CV own ix mX8_setTarget 2 := ⟨h, wq_1286, wq_1287, wq_99, wq_1288, ok_X8_setTarget⟩
theorem ok_X8_settlesIn : okN yX8_settlesIn 2 := ⟨by decide +kernel, by decide +kernel, by decide +kernel⟩
theorem cv_X8_settlesIn {own : String} {ix : Nat} (h : Cond.methodLink own ix yX8_settlesIn ∈ tblG) : CV own ix mX8_settlesIn 2 := ⟨h, wq_1432, wq_1433, wq_99, wq_1434, ok_X8_settlesIn⟩
theorem ok_X8_sizeIn : okN yX8_sizeIn 2 := ⟨by decide +kernel, by decide +kernel, by decide +kernel⟩
theorem cv_X8_sizeIn {own : String} {ix : Nat} (h : Cond.methodLink own ix yX8_sizeIn ∈ tblG) : CV own ix mX8_sizeIn 2 := ⟨h, wq_1307, wq_1308, wq_99, wq_1309, ok_X8_sizeIn⟩
theorem ok_X8_startTrial : okN yX8_startTrial 2 := ⟨by decide +kernel, by decide +kernel, by decide +kernel⟩
theorem cv_X8_startTrial {own : String} {ix : Nat} (h : Cond.methodLink own ix yX8_startTrial ∈ tblG) : CV own ix mX8_startTrial 2 := ⟨h, wq_1312, wq_26, wq_99, wq_1313, ok_X8_startTrial⟩
theorem ok_X8_transfer : okN yX8_transfer 2 := ⟨by decide +kernel, by decide +kernel, by decide +kernel⟩
theorem cv_X8_transfer {own : String} {ix : Nat} (h : Cond.methodLink own ix yX8_transfer ∈ tblG) : CV own ix mX8_transfer 2 := ⟨h, wq_1394, wq_1395, wq_99, wq_1396, ok_X8_transfer⟩
theorem ok_X8_truncateInput : okN yX8_truncateInput 1 := ⟨by decide +kernel, by decide +kernel, by decide +kernel⟩
theorem cv_X8_truncateInput {own : String} {ix : Nat} (h : Cond.methodLink own ix yX8_truncateInput ∈ tblG) : CV own ix mX8_truncateInput 1 := ⟨h, wq_555, wq_556, wq_99, wq_557, ok_X8_truncateInput⟩
theorem ok_X8_tryCost : okN yX8_tryCost 3 := ⟨by decide +kernel, by decide +kernel, by decide +kernel⟩
theorem cv_X8_tryCost {own : String} {ix : Nat} (h : Cond.methodLink own ix yX8_tryCost ∈ tblG) : CV own ix mX8_tryCost 3 := ⟨h, wq_1339, wq_29, wq_99, wq_1340, ok_X8_tryCost⟩
theorem ok_X8_tryTick : okN yX8_tryTick 1 := ⟨by decide +kernel, by decide +kernel, by decide +kernel⟩
theorem cv_X8_tryTick {own : String} {ix : Nat} (h : Cond.methodLink own ix yX8_tryTick ∈ tblG) : CV own ix mX8_tryTick 1 := ⟨h, wq_1320, wq_28, wq_99, wq_1321, ok_X8_tryTick⟩
theorem ok_X8_tryTicks : okN yX8_tryTicks 2 := ⟨by decide +kernel, by decide +kernel, by decide +kernel⟩
theorem cv_X8_tryTicks {own : String} {ix : Nat} (h : Cond.methodLink own ix yX8_tryTicks ∈ tblG) : CV own ix mX8_tryTicks 2 := ⟨h, wq_1316, wq_27, wq_99, wq_1317, ok_X8_tryTicks⟩
theorem ok_X8_undo : okN yX8_undo 0 := ⟨by decide +kernel, by decide +kernel, by decide +kernel⟩
theorem cv_X8_undo {own : String} {ix : Nat} (h : Cond.methodLink own ix yX8_undo ∈ tblG) : CV own ix mX8_undo 0 := ⟨h, wq_788, wq_789, wq_99, wq_790, ok_X8_undo⟩
theorem ok_X8_used : okN yX8_used 1 := ⟨by decide +kernel, by decide +kernel, by decide +kernel⟩
theorem cv_X8_used {own : String} {ix : Nat} (h : Cond.methodLink own ix yX8_used ∈ tblG) : CV own ix mX8_used 1 := ⟨h, wq_1075, wq_1076, wq_99, wq_1077, ok_X8_used⟩
theorem ok_X8_wanted : okN yX8_wanted 1 := ⟨by decide +kernel, by decide +kernel, by decide +kernel⟩
theorem cv_X8_wanted {own : String} {ix : Nat} (h : Cond.methodLink own ix yX8_wanted ∈ tblG) : CV own ix mX8_wanted 1 := ⟨h, wq_1010, wq_1011, wq_99, wq_1012, ok_X8_wanted⟩
theorem ok_X9_acts : okN yX9_acts 1 := ⟨by decide +kernel, by decide +kernel, by decide +kernel⟩
theorem cv_X9_acts {own : String} {ix : Nat} (h : Cond.methodLink own ix yX9_acts ∈ tblG) : CV own ix mX9_acts 1 := ⟨h, wq_1986, wq_81, wq_109, wq_1987, ok_X9_acts⟩
theorem ok_X9_adds : okN yX9_adds 3 := ⟨by decide +kernel, by decide +kernel, by decide +kernel⟩
theorem cv_X9_adds {own : String} {ix : Nat} (h : Cond.methodLink own ix yX9_adds ∈ tblG) : CV own ix mX9_adds 3 := ⟨h, wq_1556, wq_36, wq_109, wq_1557, ok_X9_adds⟩
theorem ok_X9_advanceToken : okN yX9_advanceToken 0 := ⟨by decide +kernel, by decide +kernel, by decide +kernel⟩
theorem cv_X9_advanceToken {own : String} {ix : Nat} (h : Cond.methodLink own ix yX9_advanceToken ∈ tblG) : CV own ix mX9_advanceToken 0 := ⟨h, wq_1681, wq_38, wq_109, wq_1682, ok_X9_advanceToken⟩
theorem ok_X9_apart : okN yX9_apart 2 := ⟨by decide +kernel, by decide +kernel, by decide +kernel⟩
theorem cv_X9_apart {own : String} {ix : Nat} (h : Cond.methodLink own ix yX9_apart ∈ tblG) : CV own ix mX9_apart 2 := ⟨h, wq_2138, wq_94, wq_109, wq_2139, ok_X9_apart⟩
theorem ok_X9_appendInput : okN yX9_appendInput 5 := ⟨by decide +kernel, by decide +kernel, by decide +kernel⟩
theorem cv_X9_appendInput {own : String} {ix : Nat} (h : Cond.methodLink own ix yX9_appendInput ∈ tblG) : CV own ix mX9_appendInput 5 := ⟨h, wq_1655, wq_1656, wq_109, wq_1657, ok_X9_appendInput⟩
theorem ok_X9_appendWord : okN yX9_appendWord 1 := ⟨by decide +kernel, by decide +kernel, by decide +kernel⟩
theorem cv_X9_appendWord {own : String} {ix : Nat} (h : Cond.methodLink own ix yX9_appendWord ∈ tblG) : CV own ix mX9_appendWord 1 := ⟨h, wq_1660, wq_37, wq_109, wq_1661, ok_X9_appendWord⟩
theorem ok_X9_back : okN yX9_back 2 := ⟨by decide +kernel, by decide +kernel, by decide +kernel⟩
theorem cv_X9_back {own : String} {ix : Nat} (h : Cond.methodLink own ix yX9_back ∈ tblG) : CV own ix mX9_back 2 := ⟨h, wq_1839, wq_65, wq_109, wq_1840, ok_X9_back⟩
theorem ok_X9_begins : okN yX9_begins 0 := ⟨by decide +kernel, by decide +kernel, by decide +kernel⟩
theorem cv_X9_begins {own : String} {ix : Nat} (h : Cond.methodLink own ix yX9_begins ∈ tblG) : CV own ix mX9_begins 0 := ⟨h, wq_2074, wq_89, wq_109, wq_2075, ok_X9_begins⟩
theorem ok_X9_bestCool : okN yX9_bestCool 2 := ⟨by decide +kernel, by decide +kernel, by decide +kernel⟩
theorem cv_X9_bestCool {own : String} {ix : Nat} (h : Cond.methodLink own ix yX9_bestCool ∈ tblG) : CV own ix mX9_bestCool 2 := ⟨h, wq_2129, wq_2130, wq_109, wq_2131, ok_X9_bestCool⟩
theorem ok_X9_bestOf : okN yX9_bestOf 6 := ⟨by decide +kernel, by decide +kernel, by decide +kernel⟩
theorem cv_X9_bestOf {own : String} {ix : Nat} (h : Cond.methodLink own ix yX9_bestOf ∈ tblG) : CV own ix mX9_bestOf 6 := ⟨h, wq_2126, wq_93, wq_109, wq_2127, ok_X9_bestOf⟩
theorem ok_X9_bestPeriod : okN yX9_bestPeriod 1 := ⟨by decide +kernel, by decide +kernel, by decide +kernel⟩
theorem cv_X9_bestPeriod {own : String} {ix : Nat} (h : Cond.methodLink own ix yX9_bestPeriod ∈ tblG) : CV own ix mX9_bestPeriod 1 := ⟨h, wq_2133, wq_2134, wq_109, wq_2135, ok_X9_bestPeriod⟩
theorem ok_X9_bestPolicy : okN yX9_bestPolicy 2 := ⟨by decide +kernel, by decide +kernel, by decide +kernel⟩
theorem cv_X9_bestPolicy {own : String} {ix : Nat} (h : Cond.methodLink own ix yX9_bestPolicy ∈ tblG) : CV own ix mX9_bestPolicy 2 := ⟨h, wq_2117, wq_2118, wq_109, wq_2119, ok_X9_bestPolicy⟩
theorem ok_X9_bestTarget : okN yX9_bestTarget 2 := ⟨by decide +kernel, by decide +kernel, by decide +kernel⟩
theorem cv_X9_bestTarget {own : String} {ix : Nat} (h : Cond.methodLink own ix yX9_bestTarget ∈ tblG) : CV own ix mX9_bestTarget 2 := ⟨h, wq_2121, wq_2122, wq_109, wq_2123, ok_X9_bestTarget⟩
theorem ok_X9_busiest : okN yX9_busiest 0 := ⟨by decide +kernel, by decide +kernel, by decide +kernel⟩
theorem cv_X9_busiest {own : String} {ix : Nat} (h : Cond.methodLink own ix yX9_busiest ∈ tblG) : CV own ix mX9_busiest 0 := ⟨h, wq_1874, wq_1875, wq_109, wq_1876, ok_X9_busiest⟩
theorem ok_X9_byteAt : okN yX9_byteAt 1 := ⟨by decide +kernel, by decide +kernel, by decide +kernel⟩
theorem cv_X9_byteAt {own : String} {ix : Nat} (h : Cond.methodLink own ix yX9_byteAt ∈ tblG) : CV own ix mX9_byteAt 1 := ⟨h, wq_1685, wq_39, wq_109, wq_1686, ok_X9_byteAt⟩
theorem ok_X9_changesIn : okN yX9_changesIn 2 := ⟨by decide +kernel, by decide +kernel, by decide +kernel⟩
theorem cv_X9_changesIn {own : String} {ix : Nat} (h : Cond.methodLink own ix yX9_changesIn ∈ tblG) : CV own ix mX9_changesIn 2 := ⟨h, wq_2105, wq_2106, wq_109, wq_2107, ok_X9_changesIn⟩
theorem ok_X9_clear : okN yX9_clear 0 := ⟨by decide +kernel, by decide +kernel, by decide +kernel⟩
theorem cv_X9_clear {own : String} {ix : Nat} (h : Cond.methodLink own ix yX9_clear ∈ tblG) : CV own ix mX9_clear 0 := ⟨h, wq_1536, wq_31, wq_109, wq_1537, ok_X9_clear⟩
theorem ok_X9_comes : okN yX9_comes 2 := ⟨by decide +kernel, by decide +kernel, by decide +kernel⟩
theorem cv_X9_comes {own : String} {ix : Nat} (h : Cond.methodLink own ix yX9_comes ∈ tblG) : CV own ix mX9_comes 2 := ⟨h, wq_1994, wq_83, wq_109, wq_1995, ok_X9_comes⟩
theorem ok_X9_comesPool : okN yX9_comesPool 3 := ⟨by decide +kernel, by decide +kernel, by decide +kernel⟩
theorem cv_X9_comesPool {own : String} {ix : Nat} (h : Cond.methodLink own ix yX9_comesPool ∈ tblG) : CV own ix mX9_comesPool 3 := ⟨h, wq_1540, wq_32, wq_109, wq_1541, ok_X9_comesPool⟩
theorem ok_X9_coolLeft : okN yX9_coolLeft 2 := ⟨by decide +kernel, by decide +kernel, by decide +kernel⟩
theorem cv_X9_coolLeft {own : String} {ix : Nat} (h : Cond.methodLink own ix yX9_coolLeft ∈ tblG) : CV own ix mX9_coolLeft 2 := ⟨h, wq_1906, wq_1907, wq_109, wq_1908, ok_X9_coolLeft⟩
theorem ok_X9_copies : okN yX9_copies 4 := ⟨by decide +kernel, by decide +kernel, by decide +kernel⟩
theorem cs_X9_copies {own : String} {ix : Nat} (h : Cond.methodLink own ix yX9_copies ∈ tblG) : CSt own ix mX9_copies 4 := ⟨h, wq_1674, wq_109, wq_1675, ok_X9_copies⟩
theorem ok_X9_copies_ : okN yX9_copies_ 4 := ⟨by decide +kernel, by decide +kernel, by decide +kernel⟩
theorem cs_X9_copies_ {own : String} {ix : Nat} (h : Cond.methodLink own ix yX9_copies_ ∈ tblG) : CSt own ix mX9_copies_ 4 := ⟨h, wq_1677, wq_109, wq_1678, ok_X9_copies_⟩
theorem ok_X9_cost : okN yX9_cost 1 := ⟨by decide +kernel, by decide +kernel, by decide +kernel⟩
theorem cv_X9_cost {own : String} {ix : Nat} (h : Cond.methodLink own ix yX9_cost ∈ tblG) : CV own ix mX9_cost 1 := ⟨h, wq_1918, wq_1919, wq_109, wq_1920, ok_X9_cost⟩
theorem ok_X9_costIn : okN yX9_costIn 2 := ⟨by decide +kernel, by decide +kernel, by decide +kernel⟩
theorem cv_X9_costIn {own : String} {ix : Nat} (h : Cond.methodLink own ix yX9_costIn ∈ tblG) : CV own ix mX9_costIn 2 := ⟨h, wq_2093, wq_2094, wq_109, wq_2095, ok_X9_costIn⟩
theorem ok_X9_count : okN yX9_count 1 := ⟨by decide +kernel, by decide +kernel, by decide +kernel⟩
theorem cv_X9_count {own : String} {ix : Nat} (h : Cond.methodLink own ix yX9_count ∈ tblG) : CV own ix mX9_count 1 := ⟨h, wq_1785, wq_1786, wq_109, wq_1787, ok_X9_count⟩
theorem ok_X9_decides : okN yX9_decides 1 := ⟨by decide +kernel, by decide +kernel, by decide +kernel⟩
theorem cv_X9_decides {own : String} {ix : Nat} (h : Cond.methodLink own ix yX9_decides ∈ tblG) : CV own ix mX9_decides 1 := ⟨h, wq_1990, wq_82, wq_109, wq_1991, ok_X9_decides⟩
theorem ok_X9_decisions : okN yX9_decisions 2 := ⟨by decide +kernel, by decide +kernel, by decide +kernel⟩
theorem cv_X9_decisions {own : String} {ix : Nat} (h : Cond.methodLink own ix yX9_decisions ∈ tblG) : CV own ix mX9_decisions 2 := ⟨h, wq_1946, wq_1947, wq_109, wq_1948, ok_X9_decisions⟩
theorem ok_X9_demand : okN yX9_demand 2 := ⟨by decide +kernel, by decide +kernel, by decide +kernel⟩
theorem cv_X9_demand {own : String} {ix : Nat} (h : Cond.methodLink own ix yX9_demand ∈ tblG) : CV own ix mX9_demand 2 := ⟨h, wq_1829, wq_1830, wq_109, wq_1831, ok_X9_demand⟩
theorem ok_X9_demandsWithin : okN yX9_demandsWithin 3 := ⟨by decide +kernel, by decide +kernel, by decide +kernel⟩
theorem cv_X9_demandsWithin {own : String} {ix : Nat} (h : Cond.methodLink own ix yX9_demandsWithin ∈ tblG) : CV own ix mX9_demandsWithin 3 := ⟨h, wq_2141, wq_2142, wq_109, wq_2143, ok_X9_demandsWithin⟩
theorem ok_X9_drop : okN yX9_drop 1 := ⟨by decide +kernel, by decide +kernel, by decide +kernel⟩
theorem cv_X9_drop {own : String} {ix : Nat} (h : Cond.methodLink own ix yX9_drop ∈ tblG) : CV own ix mX9_drop 1 := ⟨h, wq_2017, wq_2018, wq_109, wq_2019, ok_X9_drop⟩
theorem ok_X9_dropCold : okN yX9_dropCold 1 := ⟨by decide +kernel, by decide +kernel, by decide +kernel⟩
theorem cv_X9_dropCold {own : String} {ix : Nat} (h : Cond.methodLink own ix yX9_dropCold ∈ tblG) : CV own ix mX9_dropCold 1 := ⟨h, wq_2029, wq_2030, wq_109, wq_2031, ok_X9_dropCold⟩
theorem ok_X9_dropped : okN yX9_dropped 1 := ⟨by decide +kernel, by decide +kernel, by decide +kernel⟩
theorem cv_X9_dropped {own : String} {ix : Nat} (h : Cond.methodLink own ix yX9_dropped ∈ tblG) : CV own ix mX9_dropped 1 := ⟨h, wq_1899, wq_73, wq_109, wq_1900, ok_X9_dropped⟩
theorem ok_X9_eldest : okN yX9_eldest 0 := ⟨by decide +kernel, by decide +kernel, by decide +kernel⟩
theorem cv_X9_eldest {own : String} {ix : Nat} (h : Cond.methodLink own ix yX9_eldest ∈ tblG) : CV own ix mX9_eldest 0 := ⟨h, wq_2153, wq_2154, wq_109, wq_2155, ok_X9_eldest⟩
theorem ok_X9_ends : okN yX9_ends 0 := ⟨by decide +kernel, by decide +kernel, by decide +kernel⟩
theorem cv_X9_ends {own : String} {ix : Nat} (h : Cond.methodLink own ix yX9_ends ∈ tblG) : CV own ix mX9_ends 0 := ⟨h, wq_2078, wq_90, wq_109, wq_2079, ok_X9_ends⟩
theorem ok_X9_errorCode : okN yX9_errorCode 0 := ⟨by decide +kernel, by decide +kernel, by decide +kernel⟩
theorem cv_X9_errorCode {own : String} {ix : Nat} (h : Cond.methodLink own ix yX9_errorCode ∈ tblG) : CV own ix mX9_errorCode 0 := ⟨h, wq_1777, wq_1778, wq_109, wq_1779, ok_X9_errorCode⟩
theorem ok_X9_errorOffset : okN yX9_errorOffset 0 := ⟨by decide +kernel, by decide +kernel, by decide +kernel⟩
theorem cv_X9_errorOffset {own : String} {ix : Nat} (h : Cond.methodLink own ix yX9_errorOffset ∈ tblG) : CV own ix mX9_errorOffset 0 := ⟨h, wq_1781, wq_1782, wq_109, wq_1783, ok_X9_errorOffset⟩
theorem ok_X9_errorsWith : okN yX9_errorsWith 3 := ⟨by decide +kernel, by decide +kernel, by decide +kernel⟩
theorem cv_X9_errorsWith {own : String} {ix : Nat} (h : Cond.methodLink own ix yX9_errorsWith ∈ tblG) : CV own ix mX9_errorsWith 3 := ⟨h, wq_2109, wq_2110, wq_109, wq_2111, ok_X9_errorsWith⟩
theorem ok_X9_event : okN yX9_event 2 := ⟨by decide +kernel, by decide +kernel, by decide +kernel⟩
theorem cv_X9_event {own : String} {ix : Nat} (h : Cond.methodLink own ix yX9_event ∈ tblG) : CV own ix mX9_event 2 := ⟨h, wq_1950, wq_1951, wq_109, wq_1952, ok_X9_event⟩
theorem ok_X9_fails : okN yX9_fails 2 := ⟨by decide +kernel, by decide +kernel, by decide +kernel⟩
theorem cv_X9_fails {own : String} {ix : Nat} (h : Cond.methodLink own ix yX9_fails ∈ tblG) : CV own ix mX9_fails 2 := ⟨h, wq_1790, wq_57, wq_109, wq_1791, ok_X9_fails⟩
theorem ok_X9_failsAt : okN yX9_failsAt 1 := ⟨by decide +kernel, by decide +kernel, by decide +kernel⟩
theorem cv_X9_failsAt {own : String} {ix : Nat} (h : Cond.methodLink own ix yX9_failsAt ∈ tblG) : CV own ix mX9_failsAt 1 := ⟨h, wq_1712, wq_45, wq_109, wq_1713, ok_X9_failsAt⟩
theorem ok_X9_finds : okN yX9_finds 1 := ⟨by decide +kernel, by decide +kernel, by decide +kernel⟩
theorem cv_X9_finds {own : String} {ix : Nat} (h : Cond.methodLink own ix yX9_finds ∈ tblG) : CV own ix mX9_finds 1 := ⟨h, wq_1822, wq_63, wq_109, wq_1823, ok_X9_finds⟩
theorem ok_X9_forecast : okN yX9_forecast 1 := ⟨by decide +kernel, by decide +kernel, by decide +kernel⟩
theorem cv_X9_forecast {own : String} {ix : Nat} (h : Cond.methodLink own ix yX9_forecast ∈ tblG) : CV own ix mX9_forecast 1 := ⟨h, wq_1878, wq_1879, wq_109, wq_1880, ok_X9_forecast⟩
theorem ok_X9_foresees : okN yX9_foresees 1 := ⟨by decide +kernel, by decide +kernel, by decide +kernel⟩
theorem cv_X9_foresees {own : String} {ix : Nat} (h : Cond.methodLink own ix yX9_foresees ∈ tblG) : CV own ix mX9_foresees 1 := ⟨h, wq_1979, wq_80, wq_109, wq_1980, ok_X9_foresees⟩
theorem ok_X9_goes : okN yX9_goes 2 := ⟨by decide +kernel, by decide +kernel, by decide +kernel⟩
theorem cv_X9_goes {own : String} {ix : Nat} (h : Cond.methodLink own ix yX9_goes ∈ tblG) : CV own ix mX9_goes 2 := ⟨h, wq_2002, wq_85, wq_109, wq_2003, ok_X9_goes⟩
theorem ok_X9_greatestIn : okN yX9_greatestIn 2 := ⟨by decide +kernel, by decide +kernel, by decide +kernel⟩
theorem cv_X9_greatestIn {own : String} {ix : Nat} (h : Cond.methodLink own ix yX9_greatestIn ∈ tblG) : CV own ix mX9_greatestIn 2 := ⟨h, wq_2081, wq_2082, wq_109, wq_2083, ok_X9_greatestIn⟩
theorem ok_X9_grow : okN yX9_grow 2 := ⟨by decide +kernel, by decide +kernel, by decide +kernel⟩
theorem cv_X9_grow {own : String} {ix : Nat} (h : Cond.methodLink own ix yX9_grow ∈ tblG) : CV own ix mX9_grow 2 := ⟨h, wq_2013, wq_2014, wq_109, wq_2015, ok_X9_grow⟩
theorem ok_X9_growsIn : okN yX9_growsIn 3 := ⟨by decide +kernel, by decide +kernel, by decide +kernel⟩
theorem cv_X9_growsIn {own : String} {ix : Nat} (h : Cond.methodLink own ix yX9_growsIn ∈ tblG) : CV own ix mX9_growsIn 3 := ⟨h, wq_2090, wq_91, wq_109, wq_2091, ok_X9_growsIn⟩
theorem ok_X9_guardedMany : okN yX9_guardedMany 1 := ⟨by decide +kernel, by decide +kernel, by decide +kernel⟩
theorem cv_X9_guardedMany {own : String} {ix : Nat} (h : Cond.methodLink own ix yX9_guardedMany ∈ tblG) : CV own ix mX9_guardedMany 1 := ⟨h, wq_1814, wq_62, wq_109, wq_1815, ok_X9_guardedMany⟩
theorem ok_X9_headroom : okN yX9_headroom 1 := ⟨by decide +kernel, by decide +kernel, by decide +kernel⟩
theorem cv_X9_headroom {own : String} {ix : Nat} (h : Cond.methodLink own ix yX9_headroom ∈ tblG) : CV own ix mX9_headroom 1 := ⟨h, wq_1938, wq_1939, wq_109, wq_1940, ok_X9_headroom⟩
theorem ok_X9_hurry : okN yX9_hurry 1 := ⟨by decide +kernel, by decide +kernel, by decide +kernel⟩
theorem cv_X9_hurry {own : String} {ix : Nat} (h : Cond.methodLink own ix yX9_hurry ∈ tblG) : CV own ix mX9_hurry 1 := ⟨h, wq_2037, wq_2038, wq_109, wq_2039, ok_X9_hurry⟩
theorem ok_X9_inRange : okN yX9_inRange 3 := ⟨by decide +kernel, by decide +kernel, by decide +kernel⟩
theorem cs_X9_inRange {own : String} {ix : Nat} (h : Cond.methodLink own ix yX9_inRange ∈ tblG) : CSt own ix mX9_inRange 3 := ⟨h, wq_1667, wq_109, wq_1668, ok_X9_inRange⟩
theorem ok_X9_init : okN yX9_init 0 := ⟨by decide +kernel, by decide +kernel, by decide +kernel⟩
theorem ci_X9_init {own : String} {ix : Nat} (h : Cond.methodLink own ix yX9_init ∈ tblG) : CI own ix mX9_init 0 := ⟨h, wq_1531, wq_109, wq_1532, ok_X9_init, rfl, rfl⟩
theorem ok_X9_isAhead : okN yX9_isAhead 3 := ⟨by decide +kernel, by decide +kernel, by decide +kernel⟩
theorem cv_X9_isAhead {own : String} {ix : Nat} (h : Cond.methodLink own ix yX9_isAhead ∈ tblG) : CV own ix mX9_isAhead 3 := ⟨h, wq_1903, wq_74, wq_109, wq_1904, ok_X9_isAhead⟩
theorem ok_X9_isGuarded : okN yX9_isGuarded 2 := ⟨by decide +kernel, by decide +kernel, by decide +kernel⟩
theorem cv_X9_isGuarded {own : String} {ix : Nat} (h : Cond.methodLink own ix yX9_isGuarded ∈ tblG) : CV own ix mX9_isGuarded 2 := ⟨h, wq_1774, wq_56, wq_109, wq_1775, ok_X9_isGuarded⟩
theorem ok_X9_isReady : okN yX9_isReady 2 := ⟨by decide +kernel, by decide +kernel, by decide +kernel⟩
theorem cv_X9_isReady {own : String} {ix : Nat} (h : Cond.methodLink own ix yX9_isReady ∈ tblG) : CV own ix mX9_isReady 2 := ⟨h, wq_1810, wq_61, wq_109, wq_1811, ok_X9_isReady⟩
theorem ok_X9_isWord : okN yX9_isWord 1 := ⟨by decide +kernel, by decide +kernel, by decide +kernel⟩
theorem cv_X9_isWord {own : String} {ix : Nat} (h : Cond.methodLink own ix yX9_isWord ∈ tblG) : CV own ix mX9_isWord 1 := ⟨h, wq_1698, wq_42, wq_109, wq_1699, ok_X9_isWord⟩
theorem ok_X9_joins : okN yX9_joins 3 := ⟨by decide +kernel, by decide +kernel, by decide +kernel⟩
theorem cv_X9_joins {own : String} {ix : Nat} (h : Cond.methodLink own ix yX9_joins ∈ tblG) : CV own ix mX9_joins 3 := ⟨h, wq_1548, wq_34, wq_109, wq_1549, ok_X9_joins⟩
theorem ok_X9_knownDemands : okN yX9_knownDemands 1 := ⟨by decide +kernel, by decide +kernel, by decide +kernel⟩
theorem cv_X9_knownDemands {own : String} {ix : Nat} (h : Cond.methodLink own ix yX9_knownDemands ∈ tblG) : CV own ix mX9_knownDemands 1 := ⟨h, wq_1834, wq_64, wq_109, wq_1835, ok_X9_knownDemands⟩
theorem ok_X9_lastCold : okN yX9_lastCold 1 := ⟨by decide +kernel, by decide +kernel, by decide +kernel⟩
theorem cv_X9_lastCold {own : String} {ix : Nat} (h : Cond.methodLink own ix yX9_lastCold ∈ tblG) : CV own ix mX9_lastCold 1 := ⟨h, wq_2034, wq_87, wq_109, wq_2035, ok_X9_lastCold⟩
theorem ok_X9_loadPools : okN yX9_loadPools 0 := ⟨by decide +kernel, by decide +kernel, by decide +kernel⟩
theorem cv_X9_loadPools {own : String} {ix : Nat} (h : Cond.methodLink own ix yX9_loadPools ∈ tblG) : CV own ix mX9_loadPools 0 := ⟨h, wq_1670, wq_1671, wq_109, wq_1672, ok_X9_loadPools⟩
theorem ok_X9_longestMiss : okN yX9_longestMiss 1 := ⟨by decide +kernel, by decide +kernel, by decide +kernel⟩
theorem cv_X9_longestMiss {own : String} {ix : Nat} (h : Cond.methodLink own ix yX9_longestMiss ∈ tblG) : CV own ix mX9_longestMiss 1 := ⟨h, wq_1934, wq_1935, wq_109, wq_1936, ok_X9_longestMiss⟩
theorem ok_X9_looksAhead : okN yX9_looksAhead 1 := ⟨by decide +kernel, by decide +kernel, by decide +kernel⟩
theorem cv_X9_looksAhead {own : String} {ix : Nat} (h : Cond.methodLink own ix yX9_looksAhead ∈ tblG) : CV own ix mX9_looksAhead 1 := ⟨h, wq_1975, wq_79, wq_109, wq_1976, ok_X9_looksAhead⟩
theorem ok_X9_meanAge : okN yX9_meanAge 1 := ⟨by decide +kernel, by decide +kernel, by decide +kernel⟩
theorem cv_X9_meanAge {own : String} {ix : Nat} (h : Cond.methodLink own ix yX9_meanAge ∈ tblG) : CV own ix mX9_meanAge 1 := ⟨h, wq_1942, wq_1943, wq_109, wq_1944, ok_X9_meanAge⟩
theorem ok_X9_meanError : okN yX9_meanError 1 := ⟨by decide +kernel, by decide +kernel, by decide +kernel⟩
theorem cv_X9_meanError {own : String} {ix : Nat} (h : Cond.methodLink own ix yX9_meanError ∈ tblG) : CV own ix mX9_meanError 1 := ⟨h, wq_1886, wq_1887, wq_109, wq_1888, ok_X9_meanError⟩
theorem ok_X9_measure : okN yX9_measure 1 := ⟨by decide +kernel, by decide +kernel, by decide +kernel⟩
theorem cv_X9_measure {own : String} {ix : Nat} (h : Cond.methodLink own ix yX9_measure ∈ tblG) : CV own ix mX9_measure 1 := ⟨h, wq_1854, wq_1855, wq_109, wq_1856, ok_X9_measure⟩
theorem ok_X9_measured : okN yX9_measured 1 := ⟨by decide +kernel, by decide +kernel, by decide +kernel⟩
theorem cv_X9_measured {own : String} {ix : Nat} (h : Cond.methodLink own ix yX9_measured ∈ tblG) : CV own ix mX9_measured 1 := ⟨h, wq_1859, wq_68, wq_109, wq_1860, ok_X9_measured⟩
theorem ok_X9_median : okN yX9_median 1 := ⟨by decide +kernel, by decide +kernel, by decide +kernel⟩
theorem cv_X9_median {own : String} {ix : Nat} (h : Cond.methodLink own ix yX9_median ∈ tblG) : CV own ix mX9_median 1 := ⟨h, wq_2149, wq_2150, wq_109, wq_2151, ok_X9_median⟩
theorem ok_X9_meets : okN yX9_meets 1 := ⟨by decide +kernel, by decide +kernel, by decide +kernel⟩
theorem cv_X9_meets {own : String} {ix : Nat} (h : Cond.methodLink own ix yX9_meets ∈ tblG) : CV own ix mX9_meets 1 := ⟨h, wq_1971, wq_78, wq_109, wq_1972, ok_X9_meets⟩
theorem ok_X9_member : okN yX9_member 2 := ⟨by decide +kernel, by decide +kernel, by decide +kernel⟩
theorem cv_X9_member {own : String} {ix : Nat} (h : Cond.methodLink own ix yX9_member ∈ tblG) : CV own ix mX9_member 2 := ⟨h, wq_1817, wq_1818, wq_109, wq_1819, ok_X9_member⟩
theorem ok_X9_memberAt : okN yX9_memberAt 2 := ⟨by decide +kernel, by decide +kernel, by decide +kernel⟩
theorem cv_X9_memberAt {own : String} {ix : Nat} (h : Cond.methodLink own ix yX9_memberAt ∈ tblG) : CV own ix mX9_memberAt 2 := ⟨h, wq_1825, wq_1826, wq_109, wq_1827, ok_X9_memberAt⟩
theorem ok_X9_missed : okN yX9_missed 1 := ⟨by decide +kernel, by decide +kernel, by decide +kernel⟩
theorem cv_X9_missed {own : String} {ix : Nat} (h : Cond.methodLink own ix yX9_missed ∈ tblG) : CV own ix mX9_missed 1 := ⟨h, wq_1914, wq_1915, wq_109, wq_1916, ok_X9_missed⟩
theorem ok_X9_missedIn : okN yX9_missedIn 2 := ⟨by decide +kernel, by decide +kernel, by decide +kernel⟩
theorem cv_X9_missedIn {own : String} {ix : Nat} (h : Cond.methodLink own ix yX9_missedIn ∈ tblG) : CV own ix mX9_missedIn 2 := ⟨h, wq_2085, wq_2086, wq_109, wq_2087, ok_X9_missedIn⟩
theorem ok_X9_missedShare : okN yX9_missedShare 1 := ⟨by decide +kernel, by decide +kernel, by decide +kernel⟩
theorem cv_X9_missedShare {own : String} {ix : Nat} (h : Cond.methodLink own ix yX9_missedShare ∈ tblG) : CV own ix mX9_missedShare 1 := ⟨h, wq_1922, wq_1923, wq_109, wq_1924, ok_X9_missedShare⟩
theorem ok_X9_missesIn : okN yX9_missesIn 2 := ⟨by decide +kernel, by decide +kernel, by decide +kernel⟩
theorem cv_X9_missesIn {own : String} {ix : Nat} (h : Cond.methodLink own ix yX9_missesIn ∈ tblG) : CV own ix mX9_missesIn 2 := ⟨h, wq_2097, wq_2098, wq_109, wq_2099, ok_X9_missesIn⟩
theorem ok_X9_mustStay : okN yX9_mustStay 0 := ⟨by decide +kernel, by decide +kernel, by decide +kernel⟩
theorem cv_X9_mustStay {own : String} {ix : Nat} (h : Cond.methodLink own ix yX9_mustStay ∈ tblG) : CV own ix mX9_mustStay 0 := ⟨h, wq_2022, wq_86, wq_109, wq_2023, ok_X9_mustStay⟩
theorem ok_X9_needed : okN yX9_needed 2 := ⟨by decide +kernel, by decide +kernel, by decide +kernel⟩
theorem cv_X9_needed {own : String} {ix : Nat} (h : Cond.methodLink own ix yX9_needed ∈ tblG) : CV own ix mX9_needed 2 := ⟨h, wq_2157, wq_2158, wq_109, wq_2159, ok_X9_needed⟩
theorem ok_X9_nextDropped : okN yX9_nextDropped 1 := ⟨by decide +kernel, by decide +kernel, by decide +kernel⟩
theorem cv_X9_nextDropped {own : String} {ix : Nat} (h : Cond.methodLink own ix yX9_nextDropped ∈ tblG) : CV own ix mX9_nextDropped 1 := ⟨h, wq_1894, wq_1895, wq_109, wq_1896, ok_X9_nextDropped⟩
theorem ok_X9_noPool : okN yX9_noPool 1 := ⟨by decide +kernel, by decide +kernel, by decide +kernel⟩
theorem cv_X9_noPool {own : String} {ix : Nat} (h : Cond.methodLink own ix yX9_noPool ∈ tblG) : CV own ix mX9_noPool 1 := ⟨h, wq_1802, wq_59, wq_109, wq_1803, ok_X9_noPool⟩
theorem ok_X9_noSpan : okN yX9_noSpan 2 := ⟨by decide +kernel, by decide +kernel, by decide +kernel⟩
theorem cv_X9_noSpan {own : String} {ix : Nat} (h : Cond.methodLink own ix yX9_noSpan ∈ tblG) : CV own ix mX9_noSpan 2 := ⟨h, wq_2070, wq_88, wq_109, wq_2071, ok_X9_noSpan⟩
theorem ok_X9_of : okN yX9_of 2 := ⟨by decide +kernel, by decide +kernel, by decide +kernel⟩
theorem cv_X9_of {own : String} {ix : Nat} (h : Cond.methodLink own ix yX9_of ∈ tblG) : CV own ix mX9_of 2 := ⟨h, wq_1552, wq_35, wq_109, wq_1553, ok_X9_of⟩
theorem ok_X9_outputByte : okN yX9_outputByte 1 := ⟨by decide +kernel, by decide +kernel, by decide +kernel⟩
theorem cv_X9_outputByte {own : String} {ix : Nat} (h : Cond.methodLink own ix yX9_outputByte ∈ tblG) : CV own ix mX9_outputByte 1 := ⟨h, wq_2173, wq_2174, wq_109, wq_2175, ok_X9_outputByte⟩
theorem ok_X9_pause : okN yX9_pause 2 := ⟨by decide +kernel, by decide +kernel, by decide +kernel⟩
theorem cv_X9_pause {own : String} {ix : Nat} (h : Cond.methodLink own ix yX9_pause ∈ tblG) : CV own ix mX9_pause 2 := ⟨h, wq_2041, wq_2042, wq_109, wq_2043, ok_X9_pause⟩
theorem ok_X9_peak : okN yX9_peak 1 := ⟨by decide +kernel, by decide +kernel, by decide +kernel⟩
theorem cv_X9_peak {own : String} {ix : Nat} (h : Cond.methodLink own ix yX9_peak ∈ tblG) : CV own ix mX9_peak 1 := ⟨h, wq_1930, wq_1931, wq_109, wq_1932, ok_X9_peak⟩
theorem ok_X9_planned : okN yX9_planned 2 := ⟨by decide +kernel, by decide +kernel, by decide +kernel⟩
theorem cv_X9_planned {own : String} {ix : Nat} (h : Cond.methodLink own ix yX9_planned ∈ tblG) : CV own ix mX9_planned 2 := ⟨h, wq_1842, wq_1843, wq_109, wq_1844, ok_X9_planned⟩
theorem ok_X9_plannedAt : okN yX9_plannedAt 2 := ⟨by decide +kernel, by decide +kernel, by decide +kernel⟩
theorem cv_X9_plannedAt {own : String} {ix : Nat} (h : Cond.methodLink own ix yX9_plannedAt ∈ tblG) : CV own ix mX9_plannedAt 2 := ⟨h, wq_1847, wq_66, wq_109, wq_1848, ok_X9_plannedAt⟩
theorem ok_X9_pool : okN yX9_pool 2 := ⟨by decide +kernel, by decide +kernel, by decide +kernel⟩
theorem cv_X9_pool {own : String} {ix : Nat} (h : Cond.methodLink own ix yX9_pool ∈ tblG) : CV own ix mX9_pool 2 := ⟨h, wq_1797, wq_1798, wq_109, wq_1799, ok_X9_pool⟩
theorem ok_X9_power : okN yX9_power 1 := ⟨by decide +kernel, by decide +kernel, by decide +kernel⟩
theorem cv_X9_power {own : String} {ix : Nat} (h : Cond.methodLink own ix yX9_power ∈ tblG) : CV own ix mX9_power 1 := ⟨h, wq_1867, wq_70, wq_109, wq_1868, ok_X9_power⟩
theorem ok_X9_printPool : okN yX9_printPool 1 := ⟨by decide +kernel, by decide +kernel, by decide +kernel⟩
theorem cv_X9_printPool {own : String} {ix : Nat} (h : Cond.methodLink own ix yX9_printPool ∈ tblG) : CV own ix mX9_printPool 1 := ⟨h, wq_2161, wq_2162, wq_109, wq_2163, ok_X9_printPool⟩
theorem ok_X9_protect : okN yX9_protect 2 := ⟨by decide +kernel, by decide +kernel, by decide +kernel⟩
theorem cv_X9_protect {own : String} {ix : Nat} (h : Cond.methodLink own ix yX9_protect ∈ tblG) : CV own ix mX9_protect 2 := ⟨h, wq_2009, wq_2010, wq_109, wq_2011, ok_X9_protect⟩
theorem ok_X9_push : okN yX9_push 2 := ⟨by decide +kernel, by decide +kernel, by decide +kernel⟩
theorem cv_X9_push {own : String} {ix : Nat} (h : Cond.methodLink own ix yX9_push ∈ tblG) : CV own ix mX9_push 2 := ⟨h, wq_2005, wq_2006, wq_109, wq_2007, ok_X9_push⟩
theorem ok_X9_put : okN yX9_put 3 := ⟨by decide +kernel, by decide +kernel, by decide +kernel⟩
theorem cv_X9_put {own : String} {ix : Nat} (h : Cond.methodLink own ix yX9_put ∈ tblG) : CV own ix mX9_put 3 := ⟨h, wq_1544, wq_33, wq_109, wq_1545, ok_X9_put⟩
theorem ok_X9_readGuard : okN yX9_readGuard 0 := ⟨by decide +kernel, by decide +kernel, by decide +kernel⟩
theorem cv_X9_readGuard {own : String} {ix : Nat} (h : Cond.methodLink own ix yX9_readGuard ∈ tblG) : CV own ix mX9_readGuard 0 := ⟨h, wq_1770, wq_55, wq_109, wq_1771, ok_X9_readGuard⟩
theorem ok_X9_readLoad : okN yX9_readLoad 0 := ⟨by decide +kernel, by decide +kernel, by decide +kernel⟩
theorem cv_X9_readLoad {own : String} {ix : Nat} (h : Cond.methodLink own ix yX9_readLoad ∈ tblG) : CV own ix mX9_readLoad 0 := ⟨h, wq_1765, wq_54, wq_109, wq_1766, ok_X9_readLoad⟩
theorem ok_X9_readOne : okN yX9_readOne 4 := ⟨by decide +kernel, by decide +kernel, by decide +kernel⟩
theorem cv_X9_readOne {own : String} {ix : Nat} (h : Cond.methodLink own ix yX9_readOne ∈ tblG) : CV own ix mX9_readOne 4 := ⟨h, wq_1740, wq_51, wq_109, wq_1741, ok_X9_readOne⟩
theorem ok_X9_readPolicy : okN yX9_readPolicy 0 := ⟨by decide +kernel, by decide +kernel, by decide +kernel⟩
theorem cv_X9_readPolicy {own : String} {ix : Nat} (h : Cond.methodLink own ix yX9_readPolicy ∈ tblG) : CV own ix mX9_readPolicy 0 := ⟨h, wq_1748, wq_52, wq_109, wq_1749, ok_X9_readPolicy⟩
theorem ok_X9_readPool : okN yX9_readPool 0 := ⟨by decide +kernel, by decide +kernel, by decide +kernel⟩
theorem cv_X9_readPool {own : String} {ix : Nat} (h : Cond.methodLink own ix yX9_readPool ∈ tblG) : CV own ix mX9_readPool 0 := ⟨h, wq_1708, wq_44, wq_109, wq_1709, ok_X9_readPool⟩
theorem ok_X9_readRule : okN yX9_readRule 0 := ⟨by decide +kernel, by decide +kernel, by decide +kernel⟩
theorem cv_X9_readRule {own : String} {ix : Nat} (h : Cond.methodLink own ix yX9_readRule ∈ tblG) : CV own ix mX9_readRule 0 := ⟨h, wq_1756, wq_53, wq_109, wq_1757, ok_X9_readRule⟩
theorem ok_X9_readSetting : okN yX9_readSetting 0 := ⟨by decide +kernel, by decide +kernel, by decide +kernel⟩
theorem cv_X9_readSetting {own : String} {ix : Nat} (h : Cond.methodLink own ix yX9_readSetting ∈ tblG) : CV own ix mX9_readSetting 0 := ⟨h, wq_1735, wq_50, wq_109, wq_1736, ok_X9_readSetting⟩
theorem ok_X9_readStatement : okN yX9_readStatement 0 := ⟨by decide +kernel, by decide +kernel, by decide +kernel⟩
theorem cv_X9_readStatement {own : String} {ix : Nat} (h : Cond.methodLink own ix yX9_readStatement ∈ tblG) : CV own ix mX9_readStatement 0 := ⟨h, wq_1693, wq_41, wq_109, wq_1694, ok_X9_readStatement⟩
theorem ok_X9_readText : okN yX9_readText 0 := ⟨by decide +kernel, by decide +kernel, by decide +kernel⟩
theorem cv_X9_readText {own : String} {ix : Nat} (h : Cond.methodLink own ix yX9_readText ∈ tblG) : CV own ix mX9_readText 0 := ⟨h, wq_1689, wq_40, wq_109, wq_1690, ok_X9_readText⟩
theorem ok_X9_readTwo : okN yX9_readTwo 4 := ⟨by decide +kernel, by decide +kernel, by decide +kernel⟩
theorem cv_X9_readTwo {own : String} {ix : Nat} (h : Cond.methodLink own ix yX9_readTwo ∈ tblG) : CV own ix mX9_readTwo 4 := ⟨h, wq_1722, wq_47, wq_109, wq_1723, ok_X9_readTwo⟩
theorem ok_X9_readyMany : okN yX9_readyMany 1 := ⟨by decide +kernel, by decide +kernel, by decide +kernel⟩
theorem cv_X9_readyMany {own : String} {ix : Nat} (h : Cond.methodLink own ix yX9_readyMany ∈ tblG) : CV own ix mX9_readyMany 1 := ⟨h, wq_1806, wq_60, wq_109, wq_1807, ok_X9_readyMany⟩
theorem ok_X9_remembers : okN yX9_remembers 0 := ⟨by decide +kernel, by decide +kernel, by decide +kernel⟩
theorem cv_X9_remembers {own : String} {ix : Nat} (h : Cond.methodLink own ix yX9_remembers ∈ tblG) : CV own ix mX9_remembers 0 := ⟨h, wq_1959, wq_75, wq_109, wq_1960, ok_X9_remembers⟩
theorem ok_X9_restoreState : okN yX9_restoreState 0 := ⟨by decide +kernel, by decide +kernel, by decide +kernel⟩
theorem cv_X9_restoreState {own : String} {ix : Nat} (h : Cond.methodLink own ix yX9_restoreState ∈ tblG) : CV own ix mX9_restoreState 0 := ⟨h, wq_2185, wq_2186, wq_109, wq_2187, ok_X9_restoreState⟩
theorem ok_X9_run : okN yX9_run 1 := ⟨by decide +kernel, by decide +kernel, by decide +kernel⟩
theorem cv_X9_run {own : String} {ix : Nat} (h : Cond.methodLink own ix yX9_run ∈ tblG) : CV own ix mX9_run 1 := ⟨h, wq_1954, wq_1955, wq_109, wq_1956, ok_X9_run⟩
theorem ok_X9_runs : okN yX9_runs 1 := ⟨by decide +kernel, by decide +kernel, by decide +kernel⟩
theorem cv_X9_runs {own : String} {ix : Nat} (h : Cond.methodLink own ix yX9_runs ∈ tblG) : CV own ix mX9_runs 1 := ⟨h, wq_1963, wq_76, wq_109, wq_1964, ok_X9_runs⟩
theorem ok_X9_saveState : okN yX9_saveState 0 := ⟨by decide +kernel, by decide +kernel, by decide +kernel⟩
theorem cv_X9_saveState {own : String} {ix : Nat} (h : Cond.methodLink own ix yX9_saveState ∈ tblG) : CV own ix mX9_saveState 0 := ⟨h, wq_2181, wq_2182, wq_109, wq_2183, ok_X9_saveState⟩
theorem ok_X9_served : okN yX9_served 1 := ⟨by decide +kernel, by decide +kernel, by decide +kernel⟩
theorem cv_X9_served {own : String} {ix : Nat} (h : Cond.methodLink own ix yX9_served ∈ tblG) : CV own ix mX9_served 1 := ⟨h, wq_1910, wq_1911, wq_109, wq_1912, ok_X9_served⟩
theorem ok_X9_setBounds : okN yX9_setBounds 3 := ⟨by decide +kernel, by decide +kernel, by decide +kernel⟩
theorem cv_X9_setBounds {own : String} {ix : Nat} (h : Cond.methodLink own ix yX9_setBounds ∈ tblG) : CV own ix mX9_setBounds 3 := ⟨h, wq_2057, wq_2058, wq_109, wq_2059, ok_X9_setBounds⟩
theorem ok_X9_setCool : okN yX9_setCool 3 := ⟨by decide +kernel, by decide +kernel, by decide +kernel⟩
theorem cv_X9_setCool {own : String} {ix : Nat} (h : Cond.methodLink own ix yX9_setCool ∈ tblG) : CV own ix mX9_setCool 3 := ⟨h, wq_2053, wq_2054, wq_109, wq_2055, ok_X9_setCool⟩
theorem ok_X9_setLoad : okN yX9_setLoad 3 := ⟨by decide +kernel, by decide +kernel, by decide +kernel⟩
theorem cv_X9_setLoad {own : String} {ix : Nat} (h : Cond.methodLink own ix yX9_setLoad ∈ tblG) : CV own ix mX9_setLoad 3 := ⟨h, wq_2061, wq_2062, wq_109, wq_2063, ok_X9_setLoad⟩
theorem ok_X9_setPolicy : okN yX9_setPolicy 3 := ⟨by decide +kernel, by decide +kernel, by decide +kernel⟩
theorem cv_X9_setPolicy {own : String} {ix : Nat} (h : Cond.methodLink own ix yX9_setPolicy ∈ tblG) : CV own ix mX9_setPolicy 3 := ⟨h, wq_2045, wq_2046, wq_109, wq_2047, ok_X9_setPolicy⟩
theorem ok_X9_setTarget : okN yX9_setTarget 2 := ⟨by decide +kernel, by decide +kernel, by decide +kernel⟩
theorem cv_X9_setTarget {own : String} {ix : Nat} (h : Cond.methodLink own ix yX9_setTarget ∈ tblG) : CV own ix mX9_setTarget 2 := ⟨h, wq_2049, wq_2050, wq_109, wq_2051, ok_X9_setTarget⟩
theorem ok_X9_sets : okN yX9_sets 2 := ⟨by decide +kernel, by decide +kernel, by decide +kernel⟩
theorem cv_X9_sets {own : String} {ix : Nat} (h : Cond.methodLink own ix yX9_sets ∈ tblG) : CV own ix mX9_sets 2 := ⟨h, wq_1730, wq_49, wq_109, wq_1731, ok_X9_sets⟩
theorem ok_X9_settlesIn : okN yX9_settlesIn 2 := ⟨by decide +kernel, by decide +kernel, by decide +kernel⟩
theorem cv_X9_settlesIn {own : String} {ix : Nat} (h : Cond.methodLink own ix yX9_settlesIn ∈ tblG) : CV own ix mX9_settlesIn 2 := ⟨h, wq_2101, wq_2102, wq_109, wq_2103, ok_X9_settlesIn⟩
theorem ok_X9_sizeIn : okN yX9_sizeIn 2 := ⟨by decide +kernel, by decide +kernel, by decide +kernel⟩
theorem cv_X9_sizeIn {own : String} {ix : Nat} (h : Cond.methodLink own ix yX9_sizeIn ∈ tblG) : CV own ix mX9_sizeIn 2 := ⟨h, wq_2065, wq_2066, wq_109, wq_2067, ok_X9_sizeIn⟩
theorem ok_X9_sizes : okN yX9_sizes 0 := ⟨by decide +kernel, by decide +kernel, by decide +kernel⟩
theorem cv_X9_sizes {own : String} {ix : Nat} (h : Cond.methodLink own ix yX9_sizes ∈ tblG) : CV own ix mX9_sizes 0 := ⟨h, wq_1794, wq_58, wq_109, wq_1795, ok_X9_sizes⟩
theorem ok_X9_startsOnce : okN yX9_startsOnce 1 := ⟨by decide +kernel, by decide +kernel, by decide +kernel⟩
theorem cv_X9_startsOnce {own : String} {ix : Nat} (h : Cond.methodLink own ix yX9_startsOnce ∈ tblG) : CV own ix mX9_startsOnce 1 := ⟨h, wq_1726, wq_48, wq_109, wq_1727, ok_X9_startsOnce⟩
theorem ok_X9_sumOf : okN yX9_sumOf 2 := ⟨by decide +kernel, by decide +kernel, by decide +kernel⟩
theorem cv_X9_sumOf {own : String} {ix : Nat} (h : Cond.methodLink own ix yX9_sumOf ∈ tblG) : CV own ix mX9_sumOf 2 := ⟨h, wq_1891, wq_72, wq_109, wq_1892, ok_X9_sumOf⟩
theorem ok_X9_takes : okN yX9_takes 3 := ⟨by decide +kernel, by decide +kernel, by decide +kernel⟩
theorem cv_X9_takes {own : String} {ix : Nat} (h : Cond.methodLink own ix yX9_takes ∈ tblG) : CV own ix mX9_takes 3 := ⟨h, wq_1716, wq_46, wq_109, wq_1717, ok_X9_takes⟩
theorem ok_X9_tells : okN yX9_tells 3 := ⟨by decide +kernel, by decide +kernel, by decide +kernel⟩
theorem cv_X9_tells {own : String} {ix : Nat} (h : Cond.methodLink own ix yX9_tells ∈ tblG) : CV own ix mX9_tells 3 := ⟨h, wq_1998, wq_84, wq_109, wq_1999, ok_X9_tells⟩
theorem ok_X9_thrown : okN yX9_thrown 0 := ⟨by decide +kernel, by decide +kernel, by decide +kernel⟩
theorem cv_X9_thrown {own : String} {ix : Nat} (h : Cond.methodLink own ix yX9_thrown ∈ tblG) : CV own ix mX9_thrown 0 := ⟨h, wq_1651, wq_1652, wq_109, wq_1653, ok_X9_thrown⟩
theorem ok_X9_tick : okN yX9_tick 0 := ⟨by decide +kernel, by decide +kernel, by decide +kernel⟩
theorem cv_X9_tick {own : String} {ix : Nat} (h : Cond.methodLink own ix yX9_tick ∈ tblG) : CV own ix mX9_tick 0 := ⟨h, wq_1967, wq_77, wq_109, wq_1968, ok_X9_tick⟩
theorem ok_X9_tokenLength : okN yX9_tokenLength 0 := ⟨by decide +kernel, by decide +kernel, by decide +kernel⟩
theorem cv_X9_tokenLength {own : String} {ix : Nat} (h : Cond.methodLink own ix yX9_tokenLength ∈ tblG) : CV own ix mX9_tokenLength 0 := ⟨h, wq_1702, wq_43, wq_109, wq_1703, ok_X9_tokenLength⟩
theorem ok_X9_told : okN yX9_told 2 := ⟨by decide +kernel, by decide +kernel, by decide +kernel⟩
theorem cv_X9_told {own : String} {ix : Nat} (h : Cond.methodLink own ix yX9_told ∈ tblG) : CV own ix mX9_told 2 := ⟨h, wq_1851, wq_67, wq_109, wq_1852, ok_X9_told⟩
theorem ok_X9_transfer : okN yX9_transfer 2 := ⟨by decide +kernel, by decide +kernel, by decide +kernel⟩
theorem cv_X9_transfer {own : String} {ix : Nat} (h : Cond.methodLink own ix yX9_transfer ∈ tblG) : CV own ix mX9_transfer 2 := ⟨h, wq_2025, wq_2026, wq_109, wq_2027, ok_X9_transfer⟩
theorem ok_X9_tries : okN yX9_tries 2 := ⟨by decide +kernel, by decide +kernel, by decide +kernel⟩
theorem cv_X9_tries {own : String} {ix : Nat} (h : Cond.methodLink own ix yX9_tries ∈ tblG) : CV own ix mX9_tries 2 := ⟨h, wq_2114, wq_92, wq_109, wq_2115, ok_X9_tries⟩
theorem ok_X9_truncateInput : okN yX9_truncateInput 1 := ⟨by decide +kernel, by decide +kernel, by decide +kernel⟩
theorem cv_X9_truncateInput {own : String} {ix : Nat} (h : Cond.methodLink own ix yX9_truncateInput ∈ tblG) : CV own ix mX9_truncateInput 1 := ⟨h, wq_1663, wq_1664, wq_109, wq_1665, ok_X9_truncateInput⟩
theorem ok_X9_undo : okN yX9_undo 0 := ⟨by decide +kernel, by decide +kernel, by decide +kernel⟩
theorem cv_X9_undo {own : String} {ix : Nat} (h : Cond.methodLink own ix yX9_undo ∈ tblG) : CV own ix mX9_undo 0 := ⟨h, wq_2177, wq_2178, wq_109, wq_2179, ok_X9_undo⟩
theorem ok_X9_up : okN yX9_up 2 := ⟨by decide +kernel, by decide +kernel, by decide +kernel⟩
theorem cs_X9_up {own : String} {ix : Nat} (h : Cond.methodLink own ix yX9_up ∈ tblG) : CSt own ix mX9_up 2 := ⟨h, wq_1982, wq_109, wq_1983, ok_X9_up⟩
theorem ok_X9_used : okN yX9_used 1 := ⟨by decide +kernel, by decide +kernel, by decide +kernel⟩
theorem cv_X9_used {own : String} {ix : Nat} (h : Cond.methodLink own ix yX9_used ∈ tblG) : CV own ix mX9_used 1 := ⟨h, wq_1926, wq_1927, wq_109, wq_1928, ok_X9_used⟩
theorem ok_X9_wanted : okN yX9_wanted 1 := ⟨by decide +kernel, by decide +kernel, by decide +kernel⟩
theorem cv_X9_wanted {own : String} {ix : Nat} (h : Cond.methodLink own ix yX9_wanted ∈ tblG) : CV own ix mX9_wanted 1 := ⟨h, wq_1882, wq_1883, wq_109, wq_1884, ok_X9_wanted⟩
theorem ok_X9_windowOf : okN yX9_windowOf 1 := ⟨by decide +kernel, by decide +kernel, by decide +kernel⟩
theorem cv_X9_windowOf {own : String} {ix : Nat} (h : Cond.methodLink own ix yX9_windowOf ∈ tblG) : CV own ix mX9_windowOf 1 := ⟨h, wq_1863, wq_69, wq_109, wq_1864, ok_X9_windowOf⟩
theorem ok_X9_windowSum : okN yX9_windowSum 1 := ⟨by decide +kernel, by decide +kernel, by decide +kernel⟩
theorem cv_X9_windowSum {own : String} {ix : Nat} (h : Cond.methodLink own ix yX9_windowSum ∈ tblG) : CV own ix mX9_windowSum 1 := ⟨h, wq_1871, wq_71, wq_109, wq_1872, ok_X9_windowSum⟩
theorem ok_X9_within : okN yX9_within 3 := ⟨by decide +kernel, by decide +kernel, by decide +kernel⟩
theorem cv_X9_within {own : String} {ix : Nat} (h : Cond.methodLink own ix yX9_within ∈ tblG) : CV own ix mX9_within 3 := ⟨h, wq_2146, wq_95, wq_109, wq_2147, ok_X9_within⟩
theorem ok_X9_write : okN yX9_write 1 := ⟨by decide +kernel, by decide +kernel, by decide +kernel⟩
theorem cv_X9_write {own : String} {ix : Nat} (h : Cond.methodLink own ix yX9_write ∈ tblG) : CV own ix mX9_write 1 := ⟨h, wq_2170, wq_97, wq_109, wq_2171, ok_X9_write⟩
theorem ok_X9_writeNumber : okN yX9_writeNumber 1 := ⟨by decide +kernel, by decide +kernel, by decide +kernel⟩
theorem cv_X9_writeNumber {own : String} {ix : Nat} (h : Cond.methodLink own ix yX9_writeNumber ∈ tblG) : CV own ix mX9_writeNumber 1 := ⟨h, wq_2166, wq_96, wq_109, wq_2167, ok_X9_writeNumber⟩
theorem ml_L_190 : Cond.methodLink RL 190 yX8_init ∈ tblG := wq_125
theorem ml_X8_36 : Cond.methodLink RX8 36 yX6_init ∈ tblG := wq_185
theorem ml_X8_51 : Cond.methodLink RX8 51 yX6_addPool ∈ tblG := wq_485
theorem ml_X6_45 : Cond.methodLink RX6 45 yX3_begin ∈ tblG := wq_489
theorem ml_X3_39 : Cond.methodLink RX3 39 yX4_begin ∈ tblG := wq_493
theorem ml_X3_47 : Cond.methodLink RX3 47 yX7_begin ∈ tblG := wq_497
theorem ml_X7_44 : Cond.methodLink RX7 44 yJ7_fill_53178 ∈ tblG := wq_501
theorem ml_X3_52 : Cond.methodLink RX3 52 yJ7_fill_53178 ∈ tblG := wq_504
theorem ml_X6_53 : Cond.methodLink RX6 53 yX1_add ∈ tblG := wq_505
theorem ml_L_194 : Cond.methodLink RL 194 yX8_appendInput ∈ tblG := wq_546
theorem ml_X8_58 : Cond.methodLink RX8 58 yX8_appendWord ∈ tblG := wq_550
theorem ml_L_199 : Cond.methodLink RL 199 yX8_truncateInput ∈ tblG := wq_554
theorem ml_L_204 : Cond.methodLink RL 204 yX8_loadPools ∈ tblG := wq_558
theorem ml_X8_62 : Cond.methodLink RX8 62 yX5_readSetup ∈ tblG := wq_562
theorem mm_X5_15 : MM RX5 15 Lib.Math.min.name Lib.Math.min.code 2 := ⟨wq_566, wq_567, wq_110, wq_568⟩
theorem ml_X5_34 : Cond.methodLink RX5 34 yX6_clear ∈ tblG := wq_569
theorem ml_X5_39 : Cond.methodLink RX5 39 yX5_readToken ∈ tblG := wq_573
theorem ml_X5_222 : Cond.methodLink RX5 222 yX5_kindAt ∈ tblG := wq_577
theorem ml_X5_226 : Cond.methodLink RX5 226 yX5_readValue ∈ tblG := wq_581
theorem ml_X5_45 : Cond.methodLink RX5 45 yX5_readStatement ∈ tblG := wq_585
theorem ml_X5_59 : Cond.methodLink RX5 59 yX5_statementOfWord ∈ tblG := wq_589
theorem ml_X5_144 : Cond.methodLink RX5 144 yX5_isWord ∈ tblG := wq_594
theorem ml_X5_214 : Cond.methodLink RX5 214 yJ0_length_8abf5 ∈ tblG := wq_598
theorem ml_J0_335 : Cond.methodLink RJ0 335 yJ0_coder_7d493 ∈ tblG := wq_602
theorem ml_X5_218 : Cond.methodLink RX5 218 yJ0_charAt_5068e ∈ tblG := wq_608
theorem ml_J0_492 : Cond.methodLink RJ0 492 yJ0_isLatin1_aae02 ∈ tblG := wq_612
theorem ml_J0_495 : Cond.methodLink RJ0 495 yJ1_charAt_3b067 ∈ tblG := wq_616
theorem ml_J1_9 : Cond.methodLink RJ1 9 yJ0_checkIndex_df160 ∈ tblG := wq_619
theorem ml_J0_1059 : Cond.methodLink RJ0 1059 yJ3_checkIndex_8e157 ∈ tblG := wq_624
theorem ml_J0_498 : Cond.methodLink RJ0 498 yJ2_charAt_3b067 ∈ tblG := wq_627
theorem ml_J2_67 : Cond.methodLink RJ2 67 yJ2_checkIndex_2214a ∈ tblG := wq_630
theorem ml_J2_48 : Cond.methodLink RJ2 48 yJ2_length_9d52b ∈ tblG := wq_633
theorem ml_J2_414 : Cond.methodLink RJ2 414 yJ0_checkIndex_df160 ∈ tblG := wq_636
theorem ml_J2_71 : Cond.methodLink RJ2 71 yJ2_getChar_3b067 ∈ tblG := wq_637
theorem ml_X5_63 : Cond.methodLink RX5 63 yX5_readPool ∈ tblG := wq_657
theorem ml_X5_52 : Cond.methodLink RX5 52 yX5_fail ∈ tblG := wq_661
theorem ml_X5_97 : Cond.methodLink RX5 97 yX5_readNumber ∈ tblG := wq_665
theorem ml_X5_174 : Cond.methodLink RX5 174 yX5_numberOfToken ∈ tblG := wq_669
theorem mm_X5_100 : MM RX5 100 Lib.Math.max.name Lib.Math.max.code 2 := ⟨wq_673, wq_674, wq_110, wq_675⟩
theorem ml_X5_103 : Cond.methodLink RX5 103 yX5_readSemicolon ∈ tblG := wq_676
theorem ml_X5_106 : Cond.methodLink RX5 106 yX6_addPool ∈ tblG := wq_680
theorem ml_X5_79 : Cond.methodLink RX5 79 yX5_readLoads ∈ tblG := wq_681
theorem ml_X5_83 : Cond.methodLink RX5 83 yX5_readProtect ∈ tblG := wq_685
theorem ml_X5_87 : Cond.methodLink RX5 87 yX5_readPolicy ∈ tblG := wq_689
theorem ml_X5_90 : Cond.methodLink RX5 90 yX5_readRule ∈ tblG := wq_696
theorem ml_X5_93 : Cond.methodLink RX5 93 yX5_readSettings ∈ tblG := wq_703
theorem ml_X8_72 : Cond.methodLink RX8 72 yX6_copyFrom ∈ tblG := wq_707
theorem ml_X6_38 : Cond.methodLink RX6 38 yX3_copyFrom ∈ tblG := wq_711
theorem ml_X3_80 : Cond.methodLink RX3 80 yX4_copyFrom ∈ tblG := wq_715
theorem ac_X4_67 : ACl RX4 67 := ⟨wq_719, wq_721, wq_720, wq_115⟩
theorem ml_X3_84 : Cond.methodLink RX3 84 yX1_copyFrom ∈ tblG := wq_722
theorem ml_X1_29 : Cond.methodLink RX1 29 yX1_add ∈ tblG := wq_726
theorem ml_X3_87 : Cond.methodLink RX3 87 yX7_copyFrom ∈ tblG := wq_727
theorem ac_X7_50 : ACl RX7 50 := ⟨wq_731, wq_721, wq_720, wq_115⟩
theorem ac_X3_90 : ACl RX3 90 := ⟨wq_732, wq_721, wq_720, wq_115⟩
theorem ml_X6_42 : Cond.methodLink RX6 42 yX0_copyFrom ∈ tblG := wq_733
theorem ac_X0_24 : ACl RX0 24 := ⟨wq_737, wq_721, wq_720, wq_115⟩
theorem ml_L_208 : Cond.methodLink RL 208 yX8_errorCode ∈ tblG := wq_738
theorem ml_L_212 : Cond.methodLink RL 212 yX8_errorOffset ∈ tblG := wq_742
theorem ml_L_352 : Cond.methodLink RL 352 yX8_busiest ∈ tblG := wq_746
theorem ml_X8_199 : Cond.methodLink RX8 199 yX3_percentUsed ∈ tblG := wq_750
theorem ml_X3_138 : Cond.methodLink RX3 138 yX3_powerAt ∈ tblG := wq_754
theorem ml_X3_99 : Cond.methodLink RX3 99 yX1_countReady ∈ tblG := wq_758
theorem ml_X1_37 : Cond.methodLink RX1 37 yX1_isReady ∈ tblG := wq_762
theorem ml_X3_115 : Cond.methodLink RX3 115 yX3_windowLength ∈ tblG := wq_766
theorem mm_X3_106 : MM RX3 106 Lib.Math.min.name Lib.Math.min.code 2 := ⟨wq_770, wq_567, wq_110, wq_568⟩
theorem ml_X3_167 : Cond.methodLink RX3 167 yX3_windowSum ∈ tblG := wq_771
theorem ml_X3_119 : Cond.methodLink RX3 119 yX3_demandBack ∈ tblG := wq_775
theorem ml_L_386 : Cond.methodLink RL 386 yX8_eldest ∈ tblG := wq_779
theorem ml_L_393 : Cond.methodLink RL 393 yX8_outputByte ∈ tblG := wq_783
theorem ml_L_397 : Cond.methodLink RL 397 yX8_undo ∈ tblG := wq_787
theorem ml_L_401 : Cond.methodLink RL 401 yX8_saveState ∈ tblG := wq_791
theorem ml_L_216 : Cond.methodLink RL 216 yL_count ∈ tblG := wq_795
theorem ml_L_7 : Cond.methodLink RL 7 yX8_count ∈ tblG := wq_799
theorem ml_X8_89 : Cond.methodLink RX8 89 yX6_countMembers ∈ tblG := wq_803
theorem ml_L_225 : Cond.methodLink RL 225 yL_pool ∈ tblG := wq_875
theorem ml_L_15 : Cond.methodLink RL 15 yX8_pool ∈ tblG := wq_879
theorem ml_X8_112 : Cond.methodLink RX8 112 yX8_existingPool ∈ tblG := wq_883
theorem ml_X8_116 : Cond.methodLink RX8 116 yX8_requireRange ∈ tblG := wq_903
theorem ml_X8_130 : Cond.methodLink RX8 130 yX1_countReady ∈ tblG := wq_907
theorem ml_X8_134 : Cond.methodLink RX8 134 yX1_countProtected ∈ tblG := wq_908
theorem ml_X8_147 : Cond.methodLink RX8 147 yX4_numbered ∈ tblG := wq_912
theorem ml_L_229 : Cond.methodLink RL 229 yL_member ∈ tblG := wq_916
theorem ml_L_21 : Cond.methodLink RL 21 yX8_member ∈ tblG := wq_920
theorem ml_X8_152 : Cond.methodLink RX8 152 yX6_homeOf ∈ tblG := wq_924
theorem ml_X6_61 : Cond.methodLink RX6 61 yX1_placeOf ∈ tblG := wq_928
theorem ml_X8_155 : Cond.methodLink RX8 155 yX6_placeIn ∈ tblG := wq_932
theorem ml_X8_175 : Cond.methodLink RX8 175 yX1_isReady ∈ tblG := wq_952
theorem ml_L_232 : Cond.methodLink RL 232 yL_memberAt ∈ tblG := wq_953
theorem ml_L_26 : Cond.methodLink RL 26 yX8_memberAt ∈ tblG := wq_956
theorem ml_L_235 : Cond.methodLink RL 235 yL_demand ∈ tblG := wq_961
theorem ml_L_29 : Cond.methodLink RL 29 yX8_demand ∈ tblG := wq_964
theorem ml_X8_188 : Cond.methodLink RX8 188 yX3_keptDemands ∈ tblG := wq_968
theorem ml_X8_193 : Cond.methodLink RX8 193 yX3_demandBack ∈ tblG := wq_973
theorem ml_L_238 : Cond.methodLink RL 238 yL_planned ∈ tblG := wq_974
theorem ml_L_32 : Cond.methodLink RL 32 yX8_planned ∈ tblG := wq_977
theorem ml_X8_196 : Cond.methodLink RX8 196 yX3_demandAhead ∈ tblG := wq_981
theorem ml_X3_103 : Cond.methodLink RX3 103 yX4_loadAt ∈ tblG := wq_985
theorem ml_X4_73 : Cond.methodLink RX4 73 yJ9_floorMod_7cf53 ∈ tblG := wq_989
theorem ml_L_241 : Cond.methodLink RL 241 yL_measure ∈ tblG := wq_992
theorem ml_L_35 : Cond.methodLink RL 35 yX8_measure ∈ tblG := wq_995
theorem ml_L_244 : Cond.methodLink RL 244 yL_forecast ∈ tblG := wq_999
theorem ml_L_38 : Cond.methodLink RL 38 yX8_forecast ∈ tblG := wq_1002
theorem ml_L_247 : Cond.methodLink RL 247 yL_wanted ∈ tblG := wq_1006
theorem ml_L_41 : Cond.methodLink RL 41 yX8_wanted ∈ tblG := wq_1009
theorem ml_L_250 : Cond.methodLink RL 250 yL_meanError ∈ tblG := wq_1013
theorem ml_L_44 : Cond.methodLink RL 44 yX8_meanError ∈ tblG := wq_1016
theorem ml_L_254 : Cond.methodLink RL 254 yL_nextDropped ∈ tblG := wq_1020
theorem ml_L_48 : Cond.methodLink RL 48 yX8_nextDropped ∈ tblG := wq_1023
theorem ml_X8_224 : Cond.methodLink RX8 224 yX1_nextToGo ∈ tblG := wq_1027
theorem ml_X1_41 : Cond.methodLink RX1 41 yX1_goesBefore ∈ tblG := wq_1031
theorem ml_L_257 : Cond.methodLink RL 257 yL_coolLeft ∈ tblG := wq_1035
theorem ml_L_51 : Cond.methodLink RL 51 yX8_coolLeft ∈ tblG := wq_1038
theorem mm_X8_239 : MM RX8 239 Lib.Math.max.name Lib.Math.max.code 2 := ⟨wq_1042, wq_674, wq_110, wq_675⟩
theorem ml_L_261 : Cond.methodLink RL 261 yL_served ∈ tblG := wq_1043
theorem ml_L_55 : Cond.methodLink RL 55 yX8_served ∈ tblG := wq_1046
theorem ml_L_264 : Cond.methodLink RL 264 yL_missed ∈ tblG := wq_1050
theorem ml_L_59 : Cond.methodLink RL 59 yX8_missed ∈ tblG := wq_1053
theorem ml_L_267 : Cond.methodLink RL 267 yL_cost ∈ tblG := wq_1057
theorem ml_L_62 : Cond.methodLink RL 62 yX8_cost ∈ tblG := wq_1060
theorem ml_L_270 : Cond.methodLink RL 270 yL_missedShare ∈ tblG := wq_1064
theorem ml_L_65 : Cond.methodLink RL 65 yX8_missedShare ∈ tblG := wq_1067
theorem ml_L_273 : Cond.methodLink RL 273 yL_used ∈ tblG := wq_1071
theorem ml_L_69 : Cond.methodLink RL 69 yX8_used ∈ tblG := wq_1074
theorem ml_L_276 : Cond.methodLink RL 276 yL_peak ∈ tblG := wq_1078
theorem ml_L_72 : Cond.methodLink RL 72 yX8_peak ∈ tblG := wq_1081
theorem ml_L_279 : Cond.methodLink RL 279 yL_decisions ∈ tblG := wq_1085
theorem ml_L_75 : Cond.methodLink RL 75 yX8_decisions ∈ tblG := wq_1088
theorem ml_L_282 : Cond.methodLink RL 282 yL_event ∈ tblG := wq_1092
theorem ml_L_78 : Cond.methodLink RL 78 yX8_event ∈ tblG := wq_1095
theorem ml_X8_262 : Cond.methodLink RX8 262 yX0_kept ∈ tblG := wq_1099
theorem mm_X0_40 : MM RX0 40 Lib.Math.min.name Lib.Math.min.code 2 := ⟨wq_1103, wq_567, wq_110, wq_568⟩
theorem ml_X8_267 : Cond.methodLink RX8 267 yX0_part ∈ tblG := wq_1105
theorem ml_X0_34 : Cond.methodLink RX0 34 yJ9_floorMod_7cf53 ∈ tblG := wq_1109
theorem ml_L_285 : Cond.methodLink RL 285 yL_run ∈ tblG := wq_1110
theorem ml_L_81 : Cond.methodLink RL 81 yX8_run ∈ tblG := wq_1113
theorem ml_X8_289 : Cond.methodLink RX8 289 yX8_remember ∈ tblG := wq_1117
theorem ml_X8_292 : Cond.methodLink RX8 292 yX6_tickAll ∈ tblG := wq_1121
theorem ml_X6_80 : Cond.methodLink RX6 80 yX6_passPhases ∈ tblG := wq_1125
theorem ml_X6_83 : Cond.methodLink RX6 83 yX3_meetDemand ∈ tblG := wq_1129
theorem ml_X3_132 : Cond.methodLink RX3 132 yX3_demandAhead ∈ tblG := wq_1133
theorem ml_X3_135 : Cond.methodLink RX3 135 yJ9_floorMod_7cf53 ∈ tblG := wq_1134
theorem ml_X3_147 : Cond.methodLink RX3 147 yX7_addTick ∈ tblG := wq_1135
theorem mm_X7_56 : MM RX7 56 Lib.Math.max.name Lib.Math.max.code 2 := ⟨wq_1139, wq_674, wq_110, wq_675⟩
theorem ml_X6_86 : Cond.methodLink RX6 86 yX3_lookAhead ∈ tblG := wq_1140
theorem mm_X3_151 : MM RX3 151 Lib.Math.abs.name Lib.Math.abs.code 1 := ⟨wq_1144, wq_1145, wq_110, wq_1146⟩
theorem ml_X3_154 : Cond.methodLink RX3 154 yX7_addError ∈ tblG := wq_1147
theorem ml_X3_161 : Cond.methodLink RX3 161 yX3_forecastByTrend ∈ tblG := wq_1151
theorem mm_X3_179 : MM RX3 179 Lib.Math.max.name Lib.Math.max.code 2 := ⟨wq_1155, wq_674, wq_110, wq_675⟩
theorem ml_X3_164 : Cond.methodLink RX3 164 yX3_forecastBySeason ∈ tblG := wq_1156
theorem ml_X3_173 : Cond.methodLink RX3 173 yX4_sizeFor ∈ tblG := wq_1163
theorem mm_X4_82 : MM RX4 82 Lib.Math.max.name Lib.Math.max.code 2 := ⟨wq_1168, wq_674, wq_110, wq_675⟩
theorem mm_X4_84 : MM RX4 84 Lib.Math.min.name Lib.Math.min.code 2 := ⟨wq_1169, wq_567, wq_110, wq_568⟩
theorem ml_X6_89 : Cond.methodLink RX6 89 yX3_decide ∈ tblG := wq_1170
theorem ml_X3_185 : Cond.methodLink RX3 185 yX3_decisionAt ∈ tblG := wq_1174
theorem ml_X3_200 : Cond.methodLink RX3 200 yX1_nextToGo ∈ tblG := wq_1178
theorem ml_X3_188 : Cond.methodLink RX3 188 yX7_addDecision ∈ tblG := wq_1179
theorem ml_X6_95 : Cond.methodLink RX6 95 yX6_addLacking ∈ tblG := wq_1183
theorem mm_X6_113 : MM RX6 113 Lib.Math.min.name Lib.Math.min.code 2 := ⟨wq_1187, wq_567, wq_110, wq_568⟩
theorem ml_X6_122 : Cond.methodLink RX6 122 yX6_addMember ∈ tblG := wq_1188
theorem ml_X6_65 : Cond.methodLink RX6 65 yX0_add ∈ tblG := wq_1192
theorem ml_X6_98 : Cond.methodLink RX6 98 yX6_removeTooMany ∈ tblG := wq_1196
theorem ml_X6_131 : Cond.methodLink RX6 131 yX1_nextToGo ∈ tblG := wq_1200
theorem ml_X6_134 : Cond.methodLink RX6 134 yX6_removeMember ∈ tblG := wq_1201
theorem ml_X6_68 : Cond.methodLink RX6 68 yX1_has ∈ tblG := wq_1205
theorem ml_X6_76 : Cond.methodLink RX6 76 yX1_removeAt ∈ tblG := wq_1209
theorem ml_X1_33 : Cond.methodLink RX1 33 yX1_has ∈ tblG := wq_1213
theorem ml_L_288 : Cond.methodLink RL 288 yL_push ∈ tblG := wq_1214
theorem ml_L_84 : Cond.methodLink RL 84 yX8_push ∈ tblG := wq_1217
theorem mm_X8_298 : MM RX8 298 Lib.Math.min.name Lib.Math.min.code 2 := ⟨wq_1221, wq_567, wq_110, wq_568⟩
theorem ml_L_291 : Cond.methodLink RL 291 yL_protect ∈ tblG := wq_1222
theorem ml_L_87 : Cond.methodLink RL 87 yX8_protect ∈ tblG := wq_1225
theorem ml_L_294 : Cond.methodLink RL 294 yL_grow ∈ tblG := wq_1229
theorem ml_L_91 : Cond.methodLink RL 91 yX8_grow ∈ tblG := wq_1233
theorem ml_X8_311 : Cond.methodLink RX8 311 yX6_addMember ∈ tblG := wq_1253
theorem ml_L_297 : Cond.methodLink RL 297 yL_drop ∈ tblG := wq_1254
theorem ml_L_96 : Cond.methodLink RL 96 yX8_drop ∈ tblG := wq_1257
theorem ml_X8_314 : Cond.methodLink RX8 314 yX3_canSpare ∈ tblG := wq_1261
theorem ml_X3_124 : Cond.methodLink RX3 124 yX1_has ∈ tblG := wq_1265
theorem ml_X8_320 : Cond.methodLink RX8 320 yX6_removeMember ∈ tblG := wq_1267
theorem ml_L_300 : Cond.methodLink RL 300 yL_pause ∈ tblG := wq_1268
theorem ml_L_99 : Cond.methodLink RL 99 yX8_pause ∈ tblG := wq_1271
theorem ml_L_303 : Cond.methodLink RL 303 yL_setPolicy ∈ tblG := wq_1275
theorem ml_L_102 : Cond.methodLink RL 102 yX8_setPolicy ∈ tblG := wq_1278
theorem ml_L_307 : Cond.methodLink RL 307 yL_setTarget ∈ tblG := wq_1282
theorem ml_L_106 : Cond.methodLink RL 106 yX8_setTarget ∈ tblG := wq_1285
theorem ml_L_310 : Cond.methodLink RL 310 yL_setCool ∈ tblG := wq_1289
theorem ml_L_109 : Cond.methodLink RL 109 yX8_setCool ∈ tblG := wq_1292
theorem ml_L_313 : Cond.methodLink RL 313 yL_setBounds ∈ tblG := wq_1296
theorem ml_L_112 : Cond.methodLink RL 112 yX8_setBounds ∈ tblG := wq_1299
theorem ml_L_316 : Cond.methodLink RL 316 yL_sizeIn ∈ tblG := wq_1303
theorem ml_L_115 : Cond.methodLink RL 115 yX8_sizeIn ∈ tblG := wq_1306
theorem ml_X8_345 : Cond.methodLink RX8 345 yX8_startTrial ∈ tblG := wq_1310
theorem ml_X8_349 : Cond.methodLink RX8 349 yX8_tryTicks ∈ tblG := wq_1314
theorem ml_X8_356 : Cond.methodLink RX8 356 yX8_tryTick ∈ tblG := wq_1318
theorem ml_X8_368 : Cond.methodLink RX8 368 yX6_passPhases ∈ tblG := wq_1322
theorem ml_L_319 : Cond.methodLink RL 319 yL_missedIn ∈ tblG := wq_1323
theorem ml_L_118 : Cond.methodLink RL 118 yX8_missedIn ∈ tblG := wq_1326
theorem ml_L_322 : Cond.methodLink RL 322 yL_costIn ∈ tblG := wq_1330
theorem ml_L_122 : Cond.methodLink RL 122 yX8_costIn ∈ tblG := wq_1333
theorem ml_X8_352 : Cond.methodLink RX8 352 yX8_tryCost ∈ tblG := wq_1337
theorem ml_L_325 : Cond.methodLink RL 325 yL_missesIn ∈ tblG := wq_1341
theorem ml_L_125 : Cond.methodLink RL 125 yX8_missesIn ∈ tblG := wq_1344
theorem ml_L_328 : Cond.methodLink RL 328 yL_bestPolicy ∈ tblG := wq_1348
theorem ml_L_128 : Cond.methodLink RL 128 yX8_bestPolicy ∈ tblG := wq_1351
theorem ml_X8_365 : Cond.methodLink RX8 365 yX4_tryPolicy ∈ tblG := wq_1355
theorem ml_L_331 : Cond.methodLink RL 331 yL_bestTarget ∈ tblG := wq_1359
theorem ml_L_131 : Cond.methodLink RL 131 yX8_bestTarget ∈ tblG := wq_1362
theorem ml_L_334 : Cond.methodLink RL 334 yL_bestPeriod ∈ tblG := wq_1366
theorem ml_L_134 : Cond.methodLink RL 134 yX8_bestPeriod ∈ tblG := wq_1369
theorem ml_X8_276 : Cond.methodLink RX8 276 yX3_periodThatRepeatsBest ∈ tblG := wq_1373
theorem ml_X3_203 : Cond.methodLink RX3 203 yX3_keptDemands ∈ tblG := wq_1377
theorem ml_X3_206 : Cond.methodLink RX3 206 yX3_sumOfDifferences ∈ tblG := wq_1378
theorem ml_L_337 : Cond.methodLink RL 337 yL_needed ∈ tblG := wq_1382
theorem ml_L_137 : Cond.methodLink RL 137 yX8_needed ∈ tblG := wq_1385
theorem ml_X8_362 : Cond.methodLink RX8 362 yX8_dividedUp ∈ tblG := wq_1389
theorem ml_L_340 : Cond.methodLink RL 340 yL_transfer ∈ tblG := wq_1390
theorem ml_L_140 : Cond.methodLink RL 140 yX8_transfer ∈ tblG := wq_1393
theorem ml_L_343 : Cond.methodLink RL 343 yL_setLoad ∈ tblG := wq_1399
theorem ml_L_143 : Cond.methodLink RL 143 yX8_setLoad ∈ tblG := wq_1402
theorem ml_L_346 : Cond.methodLink RL 346 yL_longestMiss ∈ tblG := wq_1406
theorem ml_L_146 : Cond.methodLink RL 146 yX8_longestMiss ∈ tblG := wq_1409
theorem ml_L_349 : Cond.methodLink RL 349 yL_headroom ∈ tblG := wq_1413
theorem ml_L_149 : Cond.methodLink RL 149 yX8_headroom ∈ tblG := wq_1416
theorem ml_X8_273 : Cond.methodLink RX8 273 yX3_powerAt ∈ tblG := wq_1420
theorem ml_L_356 : Cond.methodLink RL 356 yL_changesIn ∈ tblG := wq_1421
theorem ml_L_152 : Cond.methodLink RL 152 yX8_changesIn ∈ tblG := wq_1424
theorem ml_L_359 : Cond.methodLink RL 359 yL_settlesIn ∈ tblG := wq_1428
theorem ml_L_155 : Cond.methodLink RL 155 yX8_settlesIn ∈ tblG := wq_1431
theorem ml_L_362 : Cond.methodLink RL 362 yL_bestCool ∈ tblG := wq_1435
theorem ml_L_158 : Cond.methodLink RL 158 yX8_bestCool ∈ tblG := wq_1438
theorem ml_L_365 : Cond.methodLink RL 365 yL_meanAge ∈ tblG := wq_1442
theorem ml_L_161 : Cond.methodLink RL 161 yX8_meanAge ∈ tblG := wq_1445
theorem ml_X8_279 : Cond.methodLink RX8 279 yX1_sumOfAges ∈ tblG := wq_1449
theorem ml_L_368 : Cond.methodLink RL 368 yL_dropCold ∈ tblG := wq_1453
theorem ml_L_164 : Cond.methodLink RL 164 yX8_dropCold ∈ tblG := wq_1456
theorem ml_L_371 : Cond.methodLink RL 371 yL_hurry ∈ tblG := wq_1460
theorem ml_L_167 : Cond.methodLink RL 167 yX8_hurry ∈ tblG := wq_1463
theorem ml_L_374 : Cond.methodLink RL 374 yL_greatestIn ∈ tblG := wq_1467
theorem ml_L_170 : Cond.methodLink RL 170 yX8_greatestIn ∈ tblG := wq_1470
theorem ml_L_377 : Cond.methodLink RL 377 yL_errorsWith ∈ tblG := wq_1474
theorem ml_L_173 : Cond.methodLink RL 173 yX8_errorsWith ∈ tblG := wq_1477
theorem ml_L_380 : Cond.methodLink RL 380 yL_median ∈ tblG := wq_1481
theorem ml_L_177 : Cond.methodLink RL 177 yX8_median ∈ tblG := wq_1484
theorem ml_X8_283 : Cond.methodLink RX8 283 yX3_middleDemand ∈ tblG := wq_1488
theorem ml_X3_209 : Cond.methodLink RX3 209 yX3_countDemands ∈ tblG := wq_1492
theorem ml_L_383 : Cond.methodLink RL 383 yL_demandsWithin ∈ tblG := wq_1496
theorem ml_L_180 : Cond.methodLink RL 180 yX8_demandsWithin ∈ tblG := wq_1499
theorem ml_X8_286 : Cond.methodLink RX8 286 yX3_countDemands ∈ tblG := wq_1503
theorem ml_L_390 : Cond.methodLink RL 390 yL_printPool ∈ tblG := wq_1504
theorem ml_L_183 : Cond.methodLink RL 183 yX8_printPool ∈ tblG := wq_1507
theorem ml_X8_374 : Cond.methodLink RX8 374 yX2_addNumber ∈ tblG := wq_1511
theorem ml_X2_19 : Cond.methodLink RX2 19 yX2_addByte ∈ tblG := wq_1515
theorem ml_X8_377 : Cond.methodLink RX8 377 yX2_addByte ∈ tblG := wq_1519
theorem ml_L_405 : Cond.methodLink RL 405 yL_restoreState ∈ tblG := wq_1520
theorem ml_L_186 : Cond.methodLink RL 186 yX8_restoreState ∈ tblG := wq_1523
theorem ml_L_193 : Cond.methodLink RL 193 yX9_init ∈ tblG := wq_1530
theorem ml_X9_54 : Cond.methodLink RX9 54 yX9_clear ∈ tblG := wq_1534
theorem ml_X9_57 : Cond.methodLink RX9 57 yX9_comesPool ∈ tblG := wq_1538
theorem ml_X9_64 : Cond.methodLink RX9 64 yX9_put ∈ tblG := wq_1542
theorem ml_X9_67 : Cond.methodLink RX9 67 yX9_joins ∈ tblG := wq_1546
theorem ml_X9_81 : Cond.methodLink RX9 81 yX9_of ∈ tblG := wq_1550
theorem ml_X9_85 : Cond.methodLink RX9 85 yX9_adds ∈ tblG := wq_1554
theorem ml_L_222 : Cond.methodLink RL 222 yX9_thrown ∈ tblG := wq_1650
theorem ml_L_198 : Cond.methodLink RL 198 yX9_appendInput ∈ tblG := wq_1654
theorem ml_X9_164 : Cond.methodLink RX9 164 yX9_appendWord ∈ tblG := wq_1658
theorem ml_L_203 : Cond.methodLink RL 203 yX9_truncateInput ∈ tblG := wq_1662
theorem ml_X9_167 : Cond.methodLink RX9 167 yX9_inRange ∈ tblG := wq_1666
theorem ml_L_207 : Cond.methodLink RL 207 yX9_loadPools ∈ tblG := wq_1669
theorem ml_X9_74 : Cond.methodLink RX9 74 yX9_copies ∈ tblG := wq_1673
theorem ml_X9_78 : Cond.methodLink RX9 78 yX9_copies_ ∈ tblG := wq_1676
theorem ml_X9_208 : Cond.methodLink RX9 208 yX9_advanceToken ∈ tblG := wq_1679
theorem ml_X9_173 : Cond.methodLink RX9 173 yX9_byteAt ∈ tblG := wq_1683
theorem ml_X9_292 : Cond.methodLink RX9 292 yX9_readText ∈ tblG := wq_1687
theorem ml_X9_289 : Cond.methodLink RX9 289 yX9_readStatement ∈ tblG := wq_1691
theorem ml_X9_225 : Cond.methodLink RX9 225 yX9_isWord ∈ tblG := wq_1696
theorem ml_X9_191 : Cond.methodLink RX9 191 yX9_tokenLength ∈ tblG := wq_1700
theorem ml_X9_195 : Cond.methodLink RX9 195 yJ0_length_8abf5 ∈ tblG := wq_1704
theorem ml_X9_200 : Cond.methodLink RX9 200 yJ0_charAt_5068e ∈ tblG := wq_1705
theorem ml_X9_279 : Cond.methodLink RX9 279 yX9_readPool ∈ tblG := wq_1706
theorem ml_X9_204 : Cond.methodLink RX9 204 yX9_failsAt ∈ tblG := wq_1710
theorem ml_X9_211 : Cond.methodLink RX9 211 yX9_takes ∈ tblG := wq_1714
theorem mm_X9_123 : MM RX9 123 Lib.Math.max.name Lib.Math.max.code 2 := ⟨wq_1718, wq_674, wq_110, wq_675⟩
theorem ml_X9_264 : Cond.methodLink RX9 264 yX9_readTwo ∈ tblG := wq_1720
theorem ml_X9_217 : Cond.methodLink RX9 217 yX9_startsOnce ∈ tblG := wq_1724
theorem ml_X9_220 : Cond.methodLink RX9 220 yX9_sets ∈ tblG := wq_1728
theorem ml_X9_286 : Cond.methodLink RX9 286 yX9_readSetting ∈ tblG := wq_1733
theorem ml_X9_241 : Cond.methodLink RX9 241 yX9_readOne ∈ tblG := wq_1738
theorem ml_X9_253 : Cond.methodLink RX9 253 yX9_readPolicy ∈ tblG := wq_1746
theorem ml_X9_259 : Cond.methodLink RX9 259 yX9_readRule ∈ tblG := wq_1754
theorem ml_X9_269 : Cond.methodLink RX9 269 yX9_readLoad ∈ tblG := wq_1763
theorem ml_X9_274 : Cond.methodLink RX9 274 yX9_readGuard ∈ tblG := wq_1768
theorem ml_X9_95 : Cond.methodLink RX9 95 yX9_isGuarded ∈ tblG := wq_1772
theorem ml_L_211 : Cond.methodLink RL 211 yX9_errorCode ∈ tblG := wq_1776
theorem ml_L_215 : Cond.methodLink RL 215 yX9_errorOffset ∈ tblG := wq_1780
theorem ml_L_221 : Cond.methodLink RL 221 yX9_count ∈ tblG := wq_1784
theorem ml_X9_302 : Cond.methodLink RX9 302 yX9_fails ∈ tblG := wq_1788
theorem ml_X9_306 : Cond.methodLink RX9 306 yX9_sizes ∈ tblG := wq_1792
theorem ml_L_228 : Cond.methodLink RL 228 yX9_pool ∈ tblG := wq_1796
theorem ml_X9_309 : Cond.methodLink RX9 309 yX9_noPool ∈ tblG := wq_1800
theorem ml_X9_98 : Cond.methodLink RX9 98 yX9_readyMany ∈ tblG := wq_1804
theorem ml_X9_91 : Cond.methodLink RX9 91 yX9_isReady ∈ tblG := wq_1808
theorem ml_X9_312 : Cond.methodLink RX9 312 yX9_guardedMany ∈ tblG := wq_1812
theorem ml_L_231 : Cond.methodLink RL 231 yX9_member ∈ tblG := wq_1816
theorem ml_X9_321 : Cond.methodLink RX9 321 yX9_finds ∈ tblG := wq_1820
theorem ml_L_234 : Cond.methodLink RL 234 yX9_memberAt ∈ tblG := wq_1824
theorem ml_L_237 : Cond.methodLink RL 237 yX9_demand ∈ tblG := wq_1828
theorem ml_X9_324 : Cond.methodLink RX9 324 yX9_knownDemands ∈ tblG := wq_1832
theorem mm_X9_106 : MM RX9 106 Lib.Math.min.name Lib.Math.min.code 2 := ⟨wq_1836, wq_567, wq_110, wq_568⟩
theorem ml_X9_114 : Cond.methodLink RX9 114 yX9_back ∈ tblG := wq_1837
theorem ml_L_240 : Cond.methodLink RL 240 yX9_planned ∈ tblG := wq_1841
theorem ml_X9_327 : Cond.methodLink RX9 327 yX9_plannedAt ∈ tblG := wq_1845
theorem ml_X9_126 : Cond.methodLink RX9 126 yX9_told ∈ tblG := wq_1849
theorem ml_L_243 : Cond.methodLink RL 243 yX9_measure ∈ tblG := wq_1853
theorem ml_X9_330 : Cond.methodLink RX9 330 yX9_measured ∈ tblG := wq_1857
theorem ml_X9_111 : Cond.methodLink RX9 111 yX9_windowOf ∈ tblG := wq_1861
theorem ml_X9_129 : Cond.methodLink RX9 129 yX9_power ∈ tblG := wq_1865
theorem ml_X9_117 : Cond.methodLink RX9 117 yX9_windowSum ∈ tblG := wq_1869
theorem ml_L_355 : Cond.methodLink RL 355 yX9_busiest ∈ tblG := wq_1873
theorem ml_L_246 : Cond.methodLink RL 246 yX9_forecast ∈ tblG := wq_1877
theorem ml_L_249 : Cond.methodLink RL 249 yX9_wanted ∈ tblG := wq_1881
theorem ml_L_253 : Cond.methodLink RL 253 yX9_meanError ∈ tblG := wq_1885
theorem ml_X9_333 : Cond.methodLink RX9 333 yX9_sumOf ∈ tblG := wq_1889
theorem ml_L_256 : Cond.methodLink RL 256 yX9_nextDropped ∈ tblG := wq_1893
theorem ml_X9_135 : Cond.methodLink RX9 135 yX9_dropped ∈ tblG := wq_1897
theorem ml_X9_102 : Cond.methodLink RX9 102 yX9_isAhead ∈ tblG := wq_1901
theorem ml_L_260 : Cond.methodLink RL 260 yX9_coolLeft ∈ tblG := wq_1905
theorem ml_L_263 : Cond.methodLink RL 263 yX9_served ∈ tblG := wq_1909
theorem ml_L_266 : Cond.methodLink RL 266 yX9_missed ∈ tblG := wq_1913
theorem ml_L_269 : Cond.methodLink RL 269 yX9_cost ∈ tblG := wq_1917
theorem ml_L_272 : Cond.methodLink RL 272 yX9_missedShare ∈ tblG := wq_1921
theorem ml_L_275 : Cond.methodLink RL 275 yX9_used ∈ tblG := wq_1925
theorem ml_L_278 : Cond.methodLink RL 278 yX9_peak ∈ tblG := wq_1929
theorem ml_L_348 : Cond.methodLink RL 348 yX9_longestMiss ∈ tblG := wq_1933
theorem ml_L_351 : Cond.methodLink RL 351 yX9_headroom ∈ tblG := wq_1937
theorem ml_L_367 : Cond.methodLink RL 367 yX9_meanAge ∈ tblG := wq_1941
theorem ml_L_281 : Cond.methodLink RL 281 yX9_decisions ∈ tblG := wq_1945
theorem ml_L_284 : Cond.methodLink RL 284 yX9_event ∈ tblG := wq_1949
theorem ml_L_287 : Cond.methodLink RL 287 yX9_run ∈ tblG := wq_1953
theorem ml_X9_337 : Cond.methodLink RX9 337 yX9_remembers ∈ tblG := wq_1957
theorem ml_X9_340 : Cond.methodLink RX9 340 yX9_runs ∈ tblG := wq_1961
theorem ml_X9_158 : Cond.methodLink RX9 158 yX9_tick ∈ tblG := wq_1965
theorem ml_X9_148 : Cond.methodLink RX9 148 yX9_meets ∈ tblG := wq_1969
theorem ml_X9_152 : Cond.methodLink RX9 152 yX9_looksAhead ∈ tblG := wq_1973
theorem ml_X9_132 : Cond.methodLink RX9 132 yX9_foresees ∈ tblG := wq_1977
theorem ml_X9_120 : Cond.methodLink RX9 120 yX9_up ∈ tblG := wq_1981
theorem ml_X9_155 : Cond.methodLink RX9 155 yX9_acts ∈ tblG := wq_1984
theorem ml_X9_138 : Cond.methodLink RX9 138 yX9_decides ∈ tblG := wq_1988
theorem ml_X9_141 : Cond.methodLink RX9 141 yX9_comes ∈ tblG := wq_1992
theorem ml_X9_88 : Cond.methodLink RX9 88 yX9_tells ∈ tblG := wq_1996
theorem ml_X9_144 : Cond.methodLink RX9 144 yX9_goes ∈ tblG := wq_2000
theorem ml_L_290 : Cond.methodLink RL 290 yX9_push ∈ tblG := wq_2004
theorem ml_L_293 : Cond.methodLink RL 293 yX9_protect ∈ tblG := wq_2008
theorem ml_L_296 : Cond.methodLink RL 296 yX9_grow ∈ tblG := wq_2012
theorem ml_L_299 : Cond.methodLink RL 299 yX9_drop ∈ tblG := wq_2016
theorem ml_X9_343 : Cond.methodLink RX9 343 yX9_mustStay ∈ tblG := wq_2020
theorem ml_L_342 : Cond.methodLink RL 342 yX9_transfer ∈ tblG := wq_2024
theorem ml_L_370 : Cond.methodLink RL 370 yX9_dropCold ∈ tblG := wq_2028
theorem ml_X9_346 : Cond.methodLink RX9 346 yX9_lastCold ∈ tblG := wq_2032
theorem ml_L_373 : Cond.methodLink RL 373 yX9_hurry ∈ tblG := wq_2036
theorem ml_L_302 : Cond.methodLink RL 302 yX9_pause ∈ tblG := wq_2040
theorem ml_L_306 : Cond.methodLink RL 306 yX9_setPolicy ∈ tblG := wq_2044
theorem ml_L_309 : Cond.methodLink RL 309 yX9_setTarget ∈ tblG := wq_2048
theorem ml_L_312 : Cond.methodLink RL 312 yX9_setCool ∈ tblG := wq_2052
theorem ml_L_315 : Cond.methodLink RL 315 yX9_setBounds ∈ tblG := wq_2056
theorem ml_L_345 : Cond.methodLink RL 345 yX9_setLoad ∈ tblG := wq_2060
theorem ml_L_318 : Cond.methodLink RL 318 yX9_sizeIn ∈ tblG := wq_2064
theorem ml_X9_349 : Cond.methodLink RX9 349 yX9_noSpan ∈ tblG := wq_2068
theorem ml_X9_352 : Cond.methodLink RX9 352 yX9_begins ∈ tblG := wq_2072
theorem ml_X9_358 : Cond.methodLink RX9 358 yX9_ends ∈ tblG := wq_2076
theorem ml_L_376 : Cond.methodLink RL 376 yX9_greatestIn ∈ tblG := wq_2080
theorem ml_L_321 : Cond.methodLink RL 321 yX9_missedIn ∈ tblG := wq_2084
theorem ml_X9_361 : Cond.methodLink RX9 361 yX9_growsIn ∈ tblG := wq_2088
theorem ml_L_324 : Cond.methodLink RL 324 yX9_costIn ∈ tblG := wq_2092
theorem ml_L_327 : Cond.methodLink RL 327 yX9_missesIn ∈ tblG := wq_2096
theorem ml_L_361 : Cond.methodLink RL 361 yX9_settlesIn ∈ tblG := wq_2100
theorem ml_L_358 : Cond.methodLink RL 358 yX9_changesIn ∈ tblG := wq_2104
theorem ml_L_379 : Cond.methodLink RL 379 yX9_errorsWith ∈ tblG := wq_2108
theorem ml_X9_365 : Cond.methodLink RX9 365 yX9_tries ∈ tblG := wq_2112
theorem ml_L_330 : Cond.methodLink RL 330 yX9_bestPolicy ∈ tblG := wq_2116
theorem ml_L_333 : Cond.methodLink RL 333 yX9_bestTarget ∈ tblG := wq_2120
theorem ml_X9_368 : Cond.methodLink RX9 368 yX9_bestOf ∈ tblG := wq_2124
theorem ml_L_364 : Cond.methodLink RL 364 yX9_bestCool ∈ tblG := wq_2128
theorem ml_L_336 : Cond.methodLink RL 336 yX9_bestPeriod ∈ tblG := wq_2132
theorem ml_X9_372 : Cond.methodLink RX9 372 yX9_apart ∈ tblG := wq_2136
theorem ml_L_385 : Cond.methodLink RL 385 yX9_demandsWithin ∈ tblG := wq_2140
theorem ml_X9_376 : Cond.methodLink RX9 376 yX9_within ∈ tblG := wq_2144
theorem ml_L_382 : Cond.methodLink RL 382 yX9_median ∈ tblG := wq_2148
theorem ml_L_389 : Cond.methodLink RL 389 yX9_eldest ∈ tblG := wq_2152
theorem ml_L_339 : Cond.methodLink RL 339 yX9_needed ∈ tblG := wq_2156
theorem ml_L_392 : Cond.methodLink RL 392 yX9_printPool ∈ tblG := wq_2160
theorem ml_X9_385 : Cond.methodLink RX9 385 yX9_writeNumber ∈ tblG := wq_2164
theorem ml_X9_382 : Cond.methodLink RX9 382 yX9_write ∈ tblG := wq_2168
theorem ml_L_396 : Cond.methodLink RL 396 yX9_outputByte ∈ tblG := wq_2172
theorem ml_L_400 : Cond.methodLink RL 400 yX9_undo ∈ tblG := wq_2176
theorem ml_L_404 : Cond.methodLink RL 404 yX9_saveState ∈ tblG := wq_2180
theorem ml_L_408 : Cond.methodLink RL 408 yX9_restoreState ∈ tblG := wq_2184
theorem cn_X8_22 : CNI RX8 22 mX5_init "PoolScaler" 0 := ⟨by decide +kernel, wq_134, wq_100, wq_135, ok_X5_init, rfl, rfl⟩
theorem cn_X8_29 : CNI RX8 29 mX2_init "PoolScaler" 0 := ⟨by decide +kernel, wq_171, wq_101, wq_172, ok_X2_init, rfl, rfl⟩
theorem cn_X6_19 : CNI RX6 19 mX0_init "PoolScaler" 0 := ⟨by decide +kernel, wq_194, wq_103, wq_195, ok_X0_init, rfl, rfl⟩
theorem cn_X6_24 : CNI RX6 24 mX3_init "PoolScaler" 0 := ⟨by decide +kernel, wq_218, wq_104, wq_219, ok_X3_init, rfl, rfl⟩
theorem cn_X3_11 : CNI RX3 11 mX4_init "PoolScaler" 0 := ⟨by decide +kernel, wq_224, wq_105, wq_225, ok_X4_init, rfl, rfl⟩
theorem cn_X3_20 : CNI RX3 20 mX1_init "PoolScaler" 0 := ⟨by decide +kernel, wq_328, wq_106, wq_329, ok_X1_init, rfl, rfl⟩
theorem cn_X3_27 : CNI RX3 27 mX7_init "PoolScaler" 0 := ⟨by decide +kernel, wq_362, wq_107, wq_363, ok_X7_init, rfl, rfl⟩
theorem cn_X3_170 : CNS RX3 170 mX8_dividedUp "PoolScaler" 2 := ⟨by decide +kernel, wq_1161, wq_99, wq_1162, ok_X8_dividedUp⟩
theorem cn_X4_79 : CNS RX4 79 mX8_dividedUp "PoolScaler" 2 := ⟨by decide +kernel, wq_1161, wq_99, wq_1162, ok_X8_dividedUp⟩
