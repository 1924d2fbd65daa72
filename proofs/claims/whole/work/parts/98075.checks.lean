/-! ===== each method checked ===== -/
theorem ck_X0_init : am_ck 0 cX0_init none true pq_X0_init = true := by decide +kernel
theorem ck_X0_most : am_ck 0 cX0_most (some .int) false pq_X0_most = true := by decide +kernel
theorem ck_X0_weigh : am_ck 0 cX0_weigh none false pq_X0_weigh = true := by decide +kernel
theorem ck_X0_mostWith : am_ck 0 cX0_mostWith (some .int) false pq_X0_mostWith = true := by decide +kernel
theorem ck_X0_listenerOf : am_ck 0 cX0_listenerOf (some .int) false pq_X0_listenerOf = true := by decide +kernel
theorem ck_X0_said : am_ck 0 cX0_said (some .int) false pq_X0_said = true := by decide +kernel
theorem ck_X0_candidates : am_ck 0 cX0_candidates (some .int) false pq_X0_candidates = true := by decide +kernel
theorem ck_X0_toAsk : am_ck 0 cX0_toAsk (some .int) false pq_X0_toAsk = true := by decide +kernel
theorem ck_X0_mostAlike : am_ck 0 cX0_mostAlike (some .int) false pq_X0_mostAlike = true := by decide +kernel
theorem ck_X0_fairShare : am_ck 0 cX0_fairShare (some .int) false pq_X0_fairShare = true := by decide +kernel
theorem ck_X1_init : am_ck 1 cX1_init none true pq_X1_init = true := by decide +kernel
theorem ck_X1_copyFrom : am_ck 1 cX1_copyFrom none false pq_X1_copyFrom = true := by decide +kernel
theorem ck_X1_addCloud : am_ck 1 cX1_addCloud (some .int) false pq_X1_addCloud = true := by decide +kernel
theorem ck_X1_addFolk : am_ck 1 cX1_addFolk (some .int) false pq_X1_addFolk = true := by decide +kernel
theorem ck_X1_addHeard : am_ck 1 cX1_addHeard none false pq_X1_addHeard = true := by decide +kernel
theorem ck_X1_hasCloud : am_ck 1 cX1_hasCloud (some .boolean) false pq_X1_hasCloud = true := by decide +kernel
theorem ck_X1_hasFolk : am_ck 1 cX1_hasFolk (some .boolean) false pq_X1_hasFolk = true := by decide +kernel
theorem ck_X1_hasLaw : am_ck 1 cX1_hasLaw (some .boolean) false pq_X1_hasLaw = true := by decide +kernel
theorem ck_X1_hears : am_ck 1 cX1_hears (some .boolean) false pq_X1_hears = true := by decide +kernel
theorem ck_X1_homes : am_ck 1 cX1_homes (some .int) false pq_X1_homes = true := by decide +kernel
theorem ck_X1_sumOf : am_ck 1 cX1_sumOf (some .int) false pq_X1_sumOf = true := by decide +kernel
theorem ck_X2_init : am_ck 2 cX2_init none true pq_X2_init = true := by decide +kernel
theorem ck_X2_ringUp : am_ck 2 cX2_ringUp (some .int) false pq_X2_ringUp = true := by decide +kernel
theorem ck_X2_turnEngaged : am_ck 2 cX2_turnEngaged (some .int) false pq_X2_turnEngaged = true := by decide +kernel
theorem ck_X2_turnSmashed : am_ck 2 cX2_turnSmashed (some .int) false pq_X2_turnSmashed = true := by decide +kernel
theorem ck_X2_nextNight : am_ck 2 cX2_nextNight (some .int) false pq_X2_nextNight = true := by decide +kernel
theorem ck_X2_packedPlaces : am_ck 2 cX2_packedPlaces (some .int) false pq_X2_packedPlaces = true := by decide +kernel
theorem ck_X2_takeBack : am_ck 2 cX2_takeBack (some .int) false pq_X2_takeBack = true := by decide +kernel
theorem ck_X2_unpackPlaces : am_ck 2 cX2_unpackPlaces none false pq_X2_unpackPlaces = true := by decide +kernel
theorem ck_X3_init : am_ck 3 cX3_init none true pq_X3_init = true := by decide +kernel
theorem ck_X3_told : am_ck 3 cX3_told (some .int) false pq_X3_told = true := by decide +kernel
theorem ck_X3_soaking : am_ck 3 cX3_soaking (some .int) false pq_X3_soaking = true := by decide +kernel
theorem ck_X3_nearestTold : am_ck 3 cX3_nearestTold (some .int) false pq_X3_nearestTold = true := by decide +kernel
theorem ck_X3_goal : am_ck 3 cX3_goal (some .int) false pq_X3_goal = true := by decide +kernel
theorem ck_X3_goalAsSaid : am_ck 3 cX3_goalAsSaid (some .int) false pq_X3_goalAsSaid = true := by decide +kernel
theorem ck_X3_letAllGo : am_ck 3 cX3_letAllGo none false pq_X3_letAllGo = true := by decide +kernel
theorem ck_X3_isBarred : am_ck 3 cX3_isBarred (some .boolean) false pq_X3_isBarred = true := by decide +kernel
theorem ck_X3_canReach : am_ck 3 cX3_canReach (some .boolean) false pq_X3_canReach = true := by decide +kernel
theorem ck_X3_lastSaid : am_ck 3 cX3_lastSaid (some .int) false pq_X3_lastSaid = true := by decide +kernel
theorem ck_X3_setWords : am_ck 3 cX3_setWords none false pq_X3_setWords = true := by decide +kernel
theorem ck_X4_init : am_ck 4 cX4_init none true pq_X4_init = true := by decide +kernel
theorem ck_X4_keep : am_ck 4 cX4_keep none false pq_X4_keep = true := by decide +kernel
theorem ck_X4_drop : am_ck 4 cX4_drop none false pq_X4_drop = true := by decide +kernel
theorem ck_X4_clear : am_ck 4 cX4_clear none false pq_X4_clear = true := by decide +kernel
theorem ck_X4_latest : am_ck 4 cX4_latest (some .int) false pq_X4_latest = true := by decide +kernel
theorem ck_X4_latestDeed : am_ck 4 cX4_latestDeed (some .int) false pq_X4_latestDeed = true := by decide +kernel
theorem ck_X4_latestWhom : am_ck 4 cX4_latestWhom (some .int) false pq_X4_latestWhom = true := by decide +kernel
theorem ck_X4_latestBefore : am_ck 4 cX4_latestBefore (some .int) false pq_X4_latestBefore = true := by decide +kernel
theorem ck_X4_copyFrom : am_ck 4 cX4_copyFrom none false pq_X4_copyFrom = true := by decide +kernel
theorem ck_X5_init : am_ck 5 cX5_init none true pq_X5_init = true := by decide +kernel
theorem ck_X5_runWhole : am_ck 5 cX5_runWhole (some .boolean) false pq_X5_runWhole = true := by decide +kernel
theorem ck_X5_runOnce : am_ck 5 cX5_runOnce (some .boolean) false pq_X5_runOnce = true := by decide +kernel
theorem ck_X5_setWords : am_ck 5 cX5_setWords none false pq_X5_setWords = true := by decide +kernel
theorem ck_X6_init : am_ck 6 cX6_init none true pq_X6_init = true := by decide +kernel
theorem ck_X6_placeBehind : am_ck 6 cX6_placeBehind (some .int) false pq_X6_placeBehind = true := by decide +kernel
theorem ck_X6_firstIn : am_ck 6 cX6_firstIn (some .int) false pq_X6_firstIn = true := by decide +kernel
theorem ck_X6_nightsToMeet : am_ck 6 cX6_nightsToMeet (some .int) false pq_X6_nightsToMeet = true := by decide +kernel
theorem ck_X6_nightsToReturn : am_ck 6 cX6_nightsToReturn (some .int) false pq_X6_nightsToReturn = true := by decide +kernel
theorem ck_X6_underLaw : am_ck 6 cX6_underLaw (some (.object "CloudCalls$Circuit")) false pq_X6_underLaw = true := by decide +kernel
theorem ck_X6_runSeasons : am_ck 6 cX6_runSeasons (some .int) false pq_X6_runSeasons = true := by decide +kernel
theorem ck_X6_draw : am_ck 6 cX6_draw (some .int) false pq_X6_draw = true := by decide +kernel
theorem ck_X7_init : am_ck 7 cX7_init none true pq_X7_init = true := by decide +kernel
theorem ck_X7_faultOf : am_ck 7 cX7_faultOf (some .int) false pq_X7_faultOf = true := by decide +kernel
theorem ck_X7_fail : am_ck 7 cX7_fail (some .boolean) false pq_X7_fail = true := by decide +kernel
theorem ck_X7_expect : am_ck 7 cX7_expect (some .boolean) false pq_X7_expect = true := by decide +kernel
theorem ck_X7_readClause : am_ck 7 cX7_readClause (some .boolean) false pq_X7_readClause = true := by decide +kernel
theorem ck_X7_readRestOfOrder : am_ck 7 cX7_readRestOfOrder (some .boolean) false pq_X7_readRestOfOrder = true := by decide +kernel
theorem ck_X7_readTest : am_ck 7 cX7_readTest (some .boolean) false pq_X7_readTest = true := by decide +kernel
theorem ck_X7_readBoth : am_ck 7 cX7_readBoth (some .boolean) false pq_X7_readBoth = true := by decide +kernel
theorem ck_X7_readPlain : am_ck 7 cX7_readPlain (some .boolean) false pq_X7_readPlain = true := by decide +kernel
theorem ck_X7_readSum : am_ck 7 cX7_readSum (some .boolean) false pq_X7_readSum = true := by decide +kernel
theorem ck_X7_readTerm : am_ck 7 cX7_readTerm (some .boolean) false pq_X7_readTerm = true := by decide +kernel
theorem ck_X7_readPart : am_ck 7 cX7_readPart (some .boolean) false pq_X7_readPart = true := by decide +kernel
theorem ck_X7_readWhich : am_ck 7 cX7_readWhich (some .boolean) false pq_X7_readWhich = true := by decide +kernel
theorem ck_X8_init : am_ck 8 cX8_init none true pq_X8_init = true := by decide +kernel
theorem ck_X8_longFrom : am_ck 8 cX8_longFrom (some .int) false pq_X8_longFrom = true := by decide +kernel
theorem ck_X8_lay : am_ck 8 cX8_lay none false pq_X8_lay = true := by decide +kernel
theorem ck_X8_copyFrom : am_ck 8 cX8_copyFrom none false pq_X8_copyFrom = true := by decide +kernel
theorem ck_X8_standing : am_ck 8 cX8_standing (some .int) false pq_X8_standing = true := by decide +kernel
theorem ck_X8_reach : am_ck 8 cX8_reach (some .int) false pq_X8_reach = true := by decide +kernel
theorem ck_X8_areJoined : am_ck 8 cX8_areJoined (some .boolean) false pq_X8_areJoined = true := by decide +kernel
theorem ck_X8_fewestToPart : am_ck 8 cX8_fewestToPart (some .int) false pq_X8_fewestToPart = true := by decide +kernel
theorem ck_X8_fewestToLeave : am_ck 8 cX8_fewestToLeave (some .int) false pq_X8_fewestToLeave = true := by decide +kernel
theorem ck_X8_isWhole : am_ck 8 cX8_isWhole (some .boolean) false pq_X8_isWhole = true := by decide +kernel
theorem ck_X8_neededBits : am_ck 8 cX8_neededBits (some .int) false pq_X8_neededBits = true := by decide +kernel
theorem ck_X8_measureTo : am_ck 8 cX8_measureTo none false pq_X8_measureTo = true := by decide +kernel
theorem ck_X8_shorten : am_ck 8 cX8_shorten none false pq_X8_shorten = true := by decide +kernel
theorem ck_X8_stepOfWay : am_ck 8 cX8_stepOfWay (some .int) false pq_X8_stepOfWay = true := by decide +kernel
theorem ck_X8_nextOfWay : am_ck 8 cX8_nextOfWay (some .int) false pq_X8_nextOfWay = true := by decide +kernel
theorem ck_X9_init : am_ck 9 cX9_init none true pq_X9_init = true := by decide +kernel
theorem ck_X9_copy : am_ck 9 cX9_copy (some (.object "CloudCalls$Text")) false pq_X9_copy = true := by decide +kernel
theorem ck_X9_clear : am_ck 9 cX9_clear none false pq_X9_clear = true := by decide +kernel
theorem ck_X9_addClause : am_ck 9 cX9_addClause none false pq_X9_addClause = true := by decide +kernel
theorem ck_X9_next : am_ck 9 cX9_next (some .int) false pq_X9_next = true := by decide +kernel
theorem ck_X9_add : am_ck 9 cX9_add none false pq_X9_add = true := by decide +kernel
theorem ck_X9_leadHere : am_ck 9 cX9_leadHere none false pq_X9_leadHere = true := by decide +kernel
theorem ck_X9_value : am_ck 9 cX9_value (some .int) false pq_X9_value = true := by decide +kernel
theorem ck_X9_joined : am_ck 9 cX9_joined (some .int) false pq_X9_joined = true := by decide +kernel
theorem ck_X10_init : am_ck 10 cX10_init none true pq_X10_init = true := by decide +kernel
theorem ck_X10_open : am_ck 10 cX10_open none false pq_X10_open = true := by decide +kernel
theorem ck_X10_step : am_ck 10 cX10_step none false pq_X10_step = true := by decide +kernel
theorem ck_X10_sortAt : am_ck 10 cX10_sortAt (some .int) false pq_X10_sortAt = true := by decide +kernel
theorem ck_X10_isEnd : am_ck 10 cX10_isEnd (some .boolean) false pq_X10_isEnd = true := by decide +kernel
theorem ck_X10_is : am_ck 10 cX10_is (some .boolean) false pq_X10_is = true := by decide +kernel
theorem ck_X10_oneOf : am_ck 10 cX10_oneOf (some .int) false pq_X10_oneOf = true := by decide +kernel
theorem ck_X10_number : am_ck 10 cX10_number (some .int) false pq_X10_number = true := by decide +kernel
theorem ck_X11_init : am_ck 11 cX11_init none true pq_X11_init = true := by decide +kernel
theorem ck_X11_cloud : am_ck 11 cX11_cloud (some .int) false pq_X11_cloud = true := by decide +kernel
theorem ck_X11_of : am_ck 11 cX11_of (some .int) false pq_X11_of = true := by decide +kernel
theorem ck_X11_folk : am_ck 11 cX11_folk (some .int) false pq_X11_folk = true := by decide +kernel
theorem ck_X11_at : am_ck 11 cX11_at (some .int) false pq_X11_at = true := by decide +kernel
theorem ck_X11_asks : am_ck 11 cX11_asks (some .int) false pq_X11_asks = true := by decide +kernel
theorem ck_X11_road : am_ck 11 cX11_road (some .int) false pq_X11_road = true := by decide +kernel
theorem ck_X11_box : am_ck 11 cX11_box (some .int) false pq_X11_box = true := by decide +kernel
theorem ck_X11_terms : am_ck 11 cX11_terms (some .int) false pq_X11_terms = true := by decide +kernel
theorem ck_X11_feed : am_ck 11 cX11_feed (some .int) false pq_X11_feed = true := by decide +kernel
theorem ck_X11_end : am_ck 11 cX11_end (some .int) false pq_X11_end = true := by decide +kernel
theorem ck_X11_row : am_ck 11 cX11_row (some .int) false pq_X11_row = true := by decide +kernel
theorem ck_X11_wrong : am_ck 11 cX11_wrong (some .int) false pq_X11_wrong = true := by decide +kernel
theorem ck_X11_law : am_ck 11 cX11_law (some .int) false pq_X11_law = true := by decide +kernel
theorem ck_X11_orders : am_ck 11 cX11_orders (some .int) false pq_X11_orders = true := by decide +kernel
theorem ck_X11_fault : am_ck 11 cX11_fault (some .int) false pq_X11_fault = true := by decide +kernel
theorem ck_X11_stopped : am_ck 11 cX11_stopped (some .int) false pq_X11_stopped = true := by decide +kernel
theorem ck_X11_force : am_ck 11 cX11_force (some .int) false pq_X11_force = true := by decide +kernel
theorem ck_X11_ring : am_ck 11 cX11_ring (some .int) false pq_X11_ring = true := by decide +kernel
theorem ck_X11_engage : am_ck 11 cX11_engage (some .int) false pq_X11_engage = true := by decide +kernel
theorem ck_X11_smash : am_ck 11 cX11_smash (some .int) false pq_X11_smash = true := by decide +kernel
theorem ck_X11_pass : am_ck 11 cX11_pass (some .int) false pq_X11_pass = true := by decide +kernel
theorem ck_X11_undo : am_ck 11 cX11_undo (some .int) false pq_X11_undo = true := by decide +kernel
theorem ck_X11_where : am_ck 11 cX11_where (some .int) false pq_X11_where = true := by decide +kernel
theorem ck_X11_first : am_ck 11 cX11_first (some .int) false pq_X11_first = true := by decide +kernel
theorem ck_X11_meeting : am_ck 11 cX11_meeting (some .int) false pq_X11_meeting = true := by decide +kernel
theorem ck_X11_again : am_ck 11 cX11_again (some .int) false pq_X11_again = true := by decide +kernel
theorem ck_X11_answered : am_ck 11 cX11_answered (some .int) false pq_X11_answered = true := by decide +kernel
theorem ck_X11_heard : am_ck 11 cX11_heard (some .int) false pq_X11_heard = true := by decide +kernel
theorem ck_X11_forget : am_ck 11 cX11_forget (some .int) false pq_X11_forget = true := by decide +kernel
theorem ck_X11_canBe : am_ck 11 cX11_canBe (some .int) false pq_X11_canBe = true := by decide +kernel
theorem ck_X11_ask : am_ck 11 cX11_ask (some .int) false pq_X11_ask = true := by decide +kernel
theorem ck_X11_way : am_ck 11 cX11_way (some .int) false pq_X11_way = true := by decide +kernel
theorem ck_X11_part : am_ck 11 cX11_part (some .int) false pq_X11_part = true := by decide +kernel
theorem ck_X11_leave : am_ck 11 cX11_leave (some .int) false pq_X11_leave = true := by decide +kernel
theorem ck_X11_needed : am_ck 11 cX11_needed (some .int) false pq_X11_needed = true := by decide +kernel
theorem ck_X11_fair : am_ck 11 cX11_fair (some .int) false pq_X11_fair = true := by decide +kernel
