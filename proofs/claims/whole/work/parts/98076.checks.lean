theorem ck_X11_few : am_ck 11 cX11_few (some .long) false pq_X11_few = true := by decide +kernel
theorem ck_X11_compare : am_ck 11 cX11_compare (some .int) false pq_X11_compare = true := by decide +kernel
theorem ck_X11_seasons : am_ck 11 cX11_seasons (some .int) false pq_X11_seasons = true := by decide +kernel
theorem ck_X11_drawn : am_ck 11 cX11_drawn (some .int) false pq_X11_drawn = true := by decide +kernel
theorem ck_X11_image : am_ck 11 cX11_image (some .int) false pq_X11_image = true := by decide +kernel
theorem ck_X11_back : am_ck 11 cX11_back (some .int) false pq_X11_back = true := by decide +kernel
theorem ck_X11_count : am_ck 11 cX11_count (some .int) false pq_X11_count = true := by decide +kernel
theorem ck_X11_status : am_ck 11 cX11_status (some .int) false pq_X11_status = true := by decide +kernel
theorem ck_X11_countOfRow : am_ck 11 cX11_countOfRow (some .int) false pq_X11_countOfRow = true := by decide +kernel
theorem ck_X11_refuse : am_ck 11 cX11_refuse (some .int) false pq_X11_refuse = true := by decide +kernel
theorem ck_X11_grant : am_ck 11 cX11_grant (some .int) false pq_X11_grant = true := by decide +kernel
theorem ck_X11_settle : am_ck 11 cX11_settle (some .int) false pq_X11_settle = true := by decide +kernel
theorem ck_X11_countOrBits : am_ck 11 cX11_countOrBits (some .int) false pq_X11_countOrBits = true := by decide +kernel
theorem ck_X11_addBytes : am_ck 11 cX11_addBytes none false pq_X11_addBytes = true := by decide +kernel
theorem ck_X11_isWithin : am_ck 11 cX11_isWithin (some .boolean) false pq_X11_isWithin = true := by decide +kernel
theorem ck_X11_isBox : am_ck 11 cX11_isBox (some .boolean) false pq_X11_isBox = true := by decide +kernel
theorem ck_X11_isRoad : am_ck 11 cX11_isRoad (some .boolean) false pq_X11_isRoad = true := by decide +kernel
theorem ck_X12_init : am_ck 12 cX12_init none true pq_X12_init = true := by decide +kernel
theorem ck_X12_in : am_ck 12 cX12_in (some .boolean) false pq_X12_in = true := by decide +kernel
theorem ck_X12_is : am_ck 12 cX12_is (some .boolean) false pq_X12_is = true := by decide +kernel
theorem ck_X12_ones : am_ck 12 cX12_ones (some .int) false pq_X12_ones = true := by decide +kernel
theorem ck_X12_within : am_ck 12 cX12_within (some .int) false pq_X12_within = true := by decide +kernel
theorem ck_X12_tell : am_ck 12 cX12_tell (some .int) false pq_X12_tell = true := by decide +kernel
theorem ck_X12_change : am_ck 12 cX12_change (some .int) false pq_X12_change = true := by decide +kernel
theorem ck_X12_settled : am_ck 12 cX12_settled (some .int) false pq_X12_settled = true := by decide +kernel
theorem ck_X12_keepAll : am_ck 12 cX12_keepAll none false pq_X12_keepAll = true := by decide +kernel
theorem ck_X12_putBack : am_ck 12 cX12_putBack none false pq_X12_putBack = true := by decide +kernel
theorem ck_X12_remember : am_ck 12 cX12_remember none false pq_X12_remember = true := by decide +kernel
theorem ck_X12_undo : am_ck 12 cX12_undo (some .int) false pq_X12_undo = true := by decide +kernel
theorem ck_X12_image : am_ck 12 cX12_image (some .int) false pq_X12_image = true := by decide +kernel
theorem ck_X12_back : am_ck 12 cX12_back (some .int) false pq_X12_back = true := by decide +kernel
theorem ck_X12_isCloud : am_ck 12 cX12_isCloud (some .boolean) false pq_X12_isCloud = true := by decide +kernel
theorem ck_X12_isFolk : am_ck 12 cX12_isFolk (some .boolean) false pq_X12_isFolk = true := by decide +kernel
theorem ck_X12_isBox : am_ck 12 cX12_isBox (some .boolean) false pq_X12_isBox = true := by decide +kernel
theorem ck_X12_roadOf : am_ck 12 cX12_roadOf (some .int) false pq_X12_roadOf = true := by decide +kernel
theorem ck_X12_comesTo : am_ck 12 cX12_comesTo (some .int) false pq_X12_comesTo = true := by decide +kernel
theorem ck_X12_whole : am_ck 12 cX12_whole (some .int) false pq_X12_whole = true := by decide +kernel
theorem ck_X12_areJoined : am_ck 12 cX12_areJoined (some .boolean) false pq_X12_areJoined = true := by decide +kernel
theorem ck_X12_sumOfFolk : am_ck 12 cX12_sumOfFolk (some .int) false pq_X12_sumOfFolk = true := by decide +kernel
theorem ck_X12_cloud : am_ck 12 cX12_cloud (some .int) false pq_X12_cloud = true := by decide +kernel
theorem ck_X12_of : am_ck 12 cX12_of (some .int) false pq_X12_of = true := by decide +kernel
theorem ck_X12_folk : am_ck 12 cX12_folk (some .int) false pq_X12_folk = true := by decide +kernel
theorem ck_X12_at : am_ck 12 cX12_at (some .int) false pq_X12_at = true := by decide +kernel
theorem ck_X12_asks : am_ck 12 cX12_asks (some .int) false pq_X12_asks = true := by decide +kernel
theorem ck_X12_isRoad : am_ck 12 cX12_isRoad (some .boolean) false pq_X12_isRoad = true := by decide +kernel
theorem ck_X12_setRoad : am_ck 12 cX12_setRoad none false pq_X12_setRoad = true := by decide +kernel
theorem ck_X12_road : am_ck 12 cX12_road (some .int) false pq_X12_road = true := by decide +kernel
theorem ck_X12_box : am_ck 12 cX12_box (some .int) false pq_X12_box = true := by decide +kernel
theorem ck_X12_terms : am_ck 12 cX12_terms (some .int) false pq_X12_terms = true := by decide +kernel
theorem ck_X12_row : am_ck 12 cX12_row (some .int) false pq_X12_row = true := by decide +kernel
theorem ck_X12_wrong : am_ck 12 cX12_wrong (some .int) false pq_X12_wrong = true := by decide +kernel
theorem ck_X12_four : am_ck 12 cX12_four none false pq_X12_four = true := by decide +kernel
theorem ck_X12_feed : am_ck 12 cX12_feed (some .int) false pq_X12_feed = true := by decide +kernel
theorem ck_X12_end : am_ck 12 cX12_end (some .int) false pq_X12_end = true := by decide +kernel
theorem ck_X12_isSmall : am_ck 12 cX12_isSmall (some .boolean) false pq_X12_isSmall = true := by decide +kernel
theorem ck_X12_isDigit : am_ck 12 cX12_isDigit (some .boolean) false pq_X12_isDigit = true := by decide +kernel
theorem ck_X12_begin : am_ck 12 cX12_begin none false pq_X12_begin = true := by decide +kernel
theorem ck_X12_next : am_ck 12 cX12_next none false pq_X12_next = true := by decide +kernel
theorem ck_X12_isWord : am_ck 12 cX12_isWord (some .boolean) false pq_X12_isWord = true := by decide +kernel
theorem ck_X12_isSign : am_ck 12 cX12_isSign (some .boolean) false pq_X12_isSign = true := by decide +kernel
theorem ck_X12_must : am_ck 12 cX12_must none false pq_X12_must = true := by decide +kernel
theorem ck_X12_number : am_ck 12 cX12_number (some .int) false pq_X12_number = true := by decide +kernel
theorem ck_X12_fault : am_ck 12 cX12_fault (some .int) false pq_X12_fault = true := by decide +kernel
theorem ck_X12_emit : am_ck 12 cX12_emit none false pq_X12_emit = true := by decide +kernel
theorem ck_X12_push : am_ck 12 cX12_push none false pq_X12_push = true := by decide +kernel
theorem ck_X12_binds : am_ck 12 cX12_binds (some .int) false pq_X12_binds = true := by decide +kernel
theorem ck_X12_settle : am_ck 12 cX12_settle none false pq_X12_settle = true := by decide +kernel
theorem ck_X12_inner : am_ck 12 cX12_inner (some .int) false pq_X12_inner = true := by decide +kernel
theorem ck_X12_isCompared : am_ck 12 cX12_isCompared (some .boolean) false pq_X12_isCompared = true := by decide +kernel
theorem ck_X12_partAt : am_ck 12 cX12_partAt (some .int) false pq_X12_partAt = true := by decide +kernel
theorem ck_X12_orderPartAt : am_ck 12 cX12_orderPartAt (some .int) false pq_X12_orderPartAt = true := by decide +kernel
theorem ck_X12_openBracket : am_ck 12 cX12_openBracket none false pq_X12_openBracket = true := by decide +kernel
theorem ck_X12_leaf : am_ck 12 cX12_leaf none false pq_X12_leaf = true := by decide +kernel
theorem ck_X12_readPart : am_ck 12 cX12_readPart (some .int) false pq_X12_readPart = true := by decide +kernel
theorem ck_X12_readPlain : am_ck 12 cX12_readPlain (some .int) false pq_X12_readPlain = true := by decide +kernel
theorem ck_X12_behindSum : am_ck 12 cX12_behindSum (some .int) false pq_X12_behindSum = true := by decide +kernel
theorem ck_X12_behindTest : am_ck 12 cX12_behindTest (some .int) false pq_X12_behindTest = true := by decide +kernel
theorem ck_X12_readExpression : am_ck 12 cX12_readExpression none false pq_X12_readExpression = true := by decide +kernel
theorem ck_X12_beginText : am_ck 12 cX12_beginText none false pq_X12_beginText = true := by decide +kernel
theorem ck_X12_endText : am_ck 12 cX12_endText none false pq_X12_endText = true := by decide +kernel
theorem ck_X12_readLaw : am_ck 12 cX12_readLaw none false pq_X12_readLaw = true := by decide +kernel
theorem ck_X12_law : am_ck 12 cX12_law (some .int) false pq_X12_law = true := by decide +kernel
theorem ck_X12_isLaw : am_ck 12 cX12_isLaw (some .boolean) false pq_X12_isLaw = true := by decide +kernel
theorem ck_X12_force : am_ck 12 cX12_force (some .int) false pq_X12_force = true := by decide +kernel
theorem ck_X12_reckon : am_ck 12 cX12_reckon (some .long) false pq_X12_reckon = true := by decide +kernel
theorem ck_X12_reckonAll : am_ck 12 cX12_reckonAll none false pq_X12_reckonAll = true := by decide +kernel
theorem ck_X12_isSo : am_ck 12 cX12_isSo (some .boolean) false pq_X12_isSo = true := by decide +kernel
theorem ck_X12_knows : am_ck 12 cX12_knows (some .int) false pq_X12_knows = true := by decide +kernel
theorem ck_X12_tells : am_ck 12 cX12_tells (some .long) false pq_X12_tells = true := by decide +kernel
theorem ck_X12_toldBy : am_ck 12 cX12_toldBy (some .int) false pq_X12_toldBy = true := by decide +kernel
theorem ck_X12_soakedBy : am_ck 12 cX12_soakedBy (some .int) false pq_X12_soakedBy = true := by decide +kernel
theorem ck_X12_isBarred : am_ck 12 cX12_isBarred (some .boolean) false pq_X12_isBarred = true := by decide +kernel
theorem ck_X12_goesTo : am_ck 12 cX12_goesTo (some .int) false pq_X12_goesTo = true := by decide +kernel
theorem ck_X12_canRing : am_ck 12 cX12_canRing (some .boolean) false pq_X12_canRing = true := by decide +kernel
theorem ck_X12_ringIt : am_ck 12 cX12_ringIt (some .int) false pq_X12_ringIt = true := by decide +kernel
theorem ck_X12_ringNow : am_ck 12 cX12_ringNow (some .int) false pq_X12_ringNow = true := by decide +kernel
theorem ck_X12_ring : am_ck 12 cX12_ring (some .int) false pq_X12_ring = true := by decide +kernel
theorem ck_X12_engageNow : am_ck 12 cX12_engageNow (some .int) false pq_X12_engageNow = true := by decide +kernel
theorem ck_X12_engage : am_ck 12 cX12_engage (some .int) false pq_X12_engage = true := by decide +kernel
theorem ck_X12_smashNow : am_ck 12 cX12_smashNow (some .int) false pq_X12_smashNow = true := by decide +kernel
theorem ck_X12_smash : am_ck 12 cX12_smash (some .int) false pq_X12_smash = true := by decide +kernel
theorem ck_X12_passIt : am_ck 12 cX12_passIt none false pq_X12_passIt = true := by decide +kernel
theorem ck_X12_passNow : am_ck 12 cX12_passNow (some .int) false pq_X12_passNow = true := by decide +kernel
theorem ck_X12_pass : am_ck 12 cX12_pass (some .int) false pq_X12_pass = true := by decide +kernel
theorem ck_X12_where : am_ck 12 cX12_where (some .int) false pq_X12_where = true := by decide +kernel
theorem ck_X12_cloudIn : am_ck 12 cX12_cloudIn (some .int) false pq_X12_cloudIn = true := by decide +kernel
theorem ck_X12_first : am_ck 12 cX12_first (some .int) false pq_X12_first = true := by decide +kernel
theorem ck_X12_meeting : am_ck 12 cX12_meeting (some .int) false pq_X12_meeting = true := by decide +kernel
theorem ck_X12_areThere : am_ck 12 cX12_areThere (some .boolean) false pq_X12_areThere = true := by decide +kernel
theorem ck_X12_again : am_ck 12 cX12_again (some .int) false pq_X12_again = true := by decide +kernel
theorem ck_X12_adds : am_ck 12 cX12_adds (some .int) false pq_X12_adds = true := by decide +kernel
theorem ck_X12_layTold : am_ck 12 cX12_layTold none false pq_X12_layTold = true := by decide +kernel
theorem ck_X12_behindOf : am_ck 12 cX12_behindOf (some .int) false pq_X12_behindOf = true := by decide +kernel
theorem ck_X12_layAnswered : am_ck 12 cX12_layAnswered none false pq_X12_layAnswered = true := by decide +kernel
theorem ck_X12_answered : am_ck 12 cX12_answered (some .int) false pq_X12_answered = true := by decide +kernel
theorem ck_X12_compare : am_ck 12 cX12_compare (some .int) false pq_X12_compare = true := by decide +kernel
theorem ck_X12_heard : am_ck 12 cX12_heard (some .int) false pq_X12_heard = true := by decide +kernel
theorem ck_X12_forget : am_ck 12 cX12_forget (some .int) false pq_X12_forget = true := by decide +kernel
theorem ck_X12_thatCanBe : am_ck 12 cX12_thatCanBe (some .int) false pq_X12_thatCanBe = true := by decide +kernel
theorem ck_X12_canBe : am_ck 12 cX12_canBe (some .int) false pq_X12_canBe = true := by decide +kernel
theorem ck_X12_ask : am_ck 12 cX12_ask (some .int) false pq_X12_ask = true := by decide +kernel
theorem ck_X12_costTo : am_ck 12 cX12_costTo (some .int) false pq_X12_costTo = true := by decide +kernel
theorem ck_X12_layLeft : am_ck 12 cX12_layLeft none false pq_X12_layLeft = true := by decide +kernel
theorem ck_X12_way : am_ck 12 cX12_way (some .int) false pq_X12_way = true := by decide +kernel
theorem ck_X12_part : am_ck 12 cX12_part (some .int) false pq_X12_part = true := by decide +kernel
theorem ck_X12_homes : am_ck 12 cX12_homes (some .int) false pq_X12_homes = true := by decide +kernel
theorem ck_X12_lowest : am_ck 12 cX12_lowest (some .int) false pq_X12_lowest = true := by decide +kernel
theorem ck_X12_leave : am_ck 12 cX12_leave (some .int) false pq_X12_leave = true := by decide +kernel
theorem ck_X12_needed : am_ck 12 cX12_needed (some .int) false pq_X12_needed = true := by decide +kernel
theorem ck_X12_fair : am_ck 12 cX12_fair (some .int) false pq_X12_fair = true := by decide +kernel
theorem ck_X12_few : am_ck 12 cX12_few (some .long) false pq_X12_few = true := by decide +kernel
theorem ck_X12_readSum : am_ck 12 cX12_readSum none false pq_X12_readSum = true := by decide +kernel
theorem ck_X12_readOrder : am_ck 12 cX12_readOrder none false pq_X12_readOrder = true := by decide +kernel
theorem ck_X12_sumOf : am_ck 12 cX12_sumOf (some .int) false pq_X12_sumOf = true := by decide +kernel
theorem ck_X12_act : am_ck 12 cX12_act (some .int) false pq_X12_act = true := by decide +kernel
theorem ck_X12_run : am_ck 12 cX12_run (some .int) false pq_X12_run = true := by decide +kernel
theorem ck_X12_orders : am_ck 12 cX12_orders (some .int) false pq_X12_orders = true := by decide +kernel
theorem ck_X12_giveBack : am_ck 12 cX12_giveBack none false pq_X12_giveBack = true := by decide +kernel
theorem ck_X12_stopped : am_ck 12 cX12_stopped (some .int) false pq_X12_stopped = true := by decide +kernel
theorem ck_X12_draw : am_ck 12 cX12_draw (some .int) false pq_X12_draw = true := by decide +kernel
theorem ck_X12_seasons : am_ck 12 cX12_seasons (some .int) false pq_X12_seasons = true := by decide +kernel
theorem ck_X12_drawn : am_ck 12 cX12_drawn (some .int) false pq_X12_drawn = true := by decide +kernel
theorem ck_X12_count : am_ck 12 cX12_count (some .int) false pq_X12_count = true := by decide +kernel
theorem ck_X12_status : am_ck 12 cX12_status (some .int) false pq_X12_status = true := by decide +kernel
theorem ck_J6_bitCount_0f7a4 : am_ck 14 cJ6_bitCount_0f7a4 (some .int) false pq_J6_bitCount_0f7a4 = true := by decide +kernel
