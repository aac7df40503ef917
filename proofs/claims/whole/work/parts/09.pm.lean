/-! ===== the pure machine: what the bytecode does to a list of cells; reference k of it is cell k (0: the script, 1 and 2: the two static tables) ===== -/
/-- a method: its name, its own number, its code, its locals, what it returns, its rank (calls go down in rank) -/
abbrev pmM : Type := MethodName × Nat × ByteArray × Nat × Option FieldType × Nat
abbrev pmL : Type := List (Option Value)
abbrev pmH : Type := List va_E
abbrev pmR : Type := (Nat × pmL × List Value × pmH) ⊕ (pmM × List Value × Nat × pmL × List Value) ⊕ Option Value
def mX0_init : pmM := (yX0_init, 0, cX0_init, 3, none, 3)
def mX0_forget : pmM := (yX0_forget, 0, cX0_forget, 1, none, 1)
def mX0_remember : pmM := (yX0_remember, 0, cX0_remember, 2, none, 3)
def mX0_takeBack : pmM := (yX0_takeBack, 0, cX0_takeBack, 2, none, 3)
def mX1_init : pmM := (yX1_init, 1, cX1_init, 1, none, 1)
def mX1_holdAt : pmM := (yX1_holdAt, 1, cX1_holdAt, 4, none, 1)
def mX1_takeFrom : pmM := (yX1_takeFrom, 1, cX1_takeFrom, 2, none, 1)
def mX1_goBy : pmM := (yX1_goBy, 1, cX1_goBy, 4, none, 2)
def mX1_goOneCell : pmM := (yX1_goOneCell, 1, cX1_goOneCell, 3, none, 1)
def mX1_catchIn : pmM := (yX1_catchIn, 1, cX1_catchIn, 3, none, 1)
def mX1_leaveHedge : pmM := (yX1_leaveHedge, 1, cX1_leaveHedge, 2, none, 1)
def mX2_init : pmM := (yX2_init, 2, cX2_init, 3, none, 1)
def mX2_tryAllPairs : pmM := (yX2_tryAllPairs, 2, cX2_tryAllPairs, 5, none, 6)
def mX2_caughtTogether : pmM := (yX2_caughtTogether, 2, cX2_caughtTogether, 3, (some .boolean), 3)
def mX2_ownJoy : pmM := (yX2_ownJoy, 2, cX2_ownJoy, 2, (some .int), 5)
def mX2_isAtRest : pmM := (yX2_isAtRest, 2, cX2_isAtRest, 2, (some .boolean), 1)
def mX2_howManyRest : pmM := (yX2_howManyRest, 2, cX2_howManyRest, 3, (some .int), 2)
def mX2_firstAtRest : pmM := (yX2_firstAtRest, 2, cX2_firstAtRest, 2, (some .int), 2)
def mX3_init : pmM := (yX3_init, 3, cX3_init, 3, none, 1)
def mX3_waysCaught : pmM := (yX3_waysCaught, 3, cX3_waysCaught, 9, (some .int), 6)
def mX3_isCaughtIf : pmM := (yX3_isCaughtIf, 3, cX3_isCaughtIf, 6, (some .boolean), 5)
def mX3_gladOverYears : pmM := (yX3_gladOverYears, 3, cX3_gladOverYears, 4, (some .int), 6)
def mX3_doIfItCanBe : pmM := (yX3_doIfItCanBe, 3, cX3_doIfItCanBe, 2, none, 5)
def mX4_init : pmM := (yX4_init, 4, cX4_init, 1, none, 1)
def mX4_clear : pmM := (yX4_clear, 4, cX4_clear, 1, none, 1)
def mX4_windOf : pmM := (yX4_windOf, 4, cX4_windOf, 2, (some .int), 2)
def mX4_hasHedge : pmM := (yX4_hasHedge, 4, cX4_hasHedge, 2, (some .boolean), 1)
def mX4_hedgeAt : pmM := (yX4_hedgeAt, 4, cX4_hedgeAt, 3, (some .int), 1)
def mX5_init : pmM := (yX5_init, 5, cX5_init, 2, none, 2)
def mX5_add : pmM := (yX5_add, 5, cX5_add, 3, none, 1)
def mX5_cellsOfLetting : pmM := (yX5_cellsOfLetting, 5, cX5_cellsOfLetting, 4, (some .int), 4)
def mX5_agreesFrom : pmM := (yX5_agreesFrom, 5, cX5_agreesFrom, 4, (some .boolean), 3)
def mX5_agreesBehind : pmM := (yX5_agreesBehind, 5, cX5_agreesBehind, 3, (some .boolean), 1)
def mX6_init : pmM := (yX6_init, 6, cX6_init, 3, none, 1)
def mX6_lookAhead : pmM := (yX6_lookAhead, 6, cX6_lookAhead, 2, none, 5)
def mX6_hoursToAnswer : pmM := (yX6_hoursToAnswer, 6, cX6_hoursToAnswer, 3, (some .int), 5)
def mX6_hoursToLetting : pmM := (yX6_hoursToLetting, 6, cX6_hoursToLetting, 3, (some .int), 6)
def mX6_endsWellIfLetIn : pmM := (yX6_endsWellIfLetIn, 6, cX6_endsWellIfLetIn, 4, (some .boolean), 5)
def mX6_firstThatCannotBe : pmM := (yX6_firstThatCannotBe, 6, cX6_firstThatCannotBe, 6, (some .int), 6)
def mX6_canBe : pmM := (yX6_canBe, 6, cX6_canBe, 4, (some .boolean), 5)
def mX7_init : pmM := (yX7_init, 7, cX7_init, 2, none, 1)
def mX7_read : pmM := (yX7_read, 7, cX7_read, 4, (some .int), 4)
def mX7_takes : pmM := (yX7_takes, 7, cX7_takes, 2, (some .boolean), 3)
def mX7_opensPart : pmM := (yX7_opensPart, 7, cX7_opensPart, 2, (some .boolean), 1)
def mX7_takesWind : pmM := (yX7_takesWind, 7, cX7_takesWind, 2, (some .boolean), 1)
def mX7_takesStart : pmM := (yX7_takesStart, 7, cX7_takesStart, 2, (some .boolean), 1)
def mX7_takesOfBalloon : pmM := (yX7_takesOfBalloon, 7, cX7_takesOfBalloon, 2, (some .boolean), 1)
def mX7_takesHedgeCell : pmM := (yX7_takesHedgeCell, 7, cX7_takesHedgeCell, 2, (some .boolean), 2)
def mX7_takesOfHedge : pmM := (yX7_takesOfHedge, 7, cX7_takesOfHedge, 2, (some .boolean), 1)
def mX8_init : pmM := (yX8_init, 8, cX8_init, 3, none, 1)
def mX8_sumOverOrders : pmM := (yX8_sumOverOrders, 8, cX8_sumOverOrders, 7, (some .int), 6)
def mX8_weighAllSets : pmM := (yX8_weighAllSets, 8, cX8_weighAllSets, 3, none, 5)
def mX9_init : pmM := (yX9_init, 9, cX9_init, 2, none, 1)
def mX9_tryAllOrders : pmM := (yX9_tryAllOrders, 9, cX9_tryAllOrders, 5, none, 4)
def mX9_layOut : pmM := (yX9_layOut, 9, cX9_layOut, 8, (some .int), 1)
def mX9_gladByOrder : pmM := (yX9_gladByOrder, 9, cX9_gladByOrder, 3, (some .int), 3)
def mX10_init : pmM := (yX10_init, 10, cX10_init, 3, none, 2)
def mX10_begin : pmM := (yX10_begin, 10, cX10_begin, 2, none, 2)
def mX10_takeFrom : pmM := (yX10_takeFrom, 10, cX10_takeFrom, 3, none, 2)
def mX10_hasBalloon : pmM := (yX10_hasBalloon, 10, cX10_hasBalloon, 2, (some .boolean), 1)
def mX10_is : pmM := (yX10_is, 10, cX10_is, 3, (some .boolean), 2)
def mX10_letGo : pmM := (yX10_letGo, 10, cX10_letGo, 2, (some .boolean), 3)
def mX10_setFree : pmM := (yX10_setFree, 10, cX10_setFree, 2, (some .boolean), 3)
def mX10_putRight : pmM := (yX10_putRight, 10, cX10_putRight, 4, (some .boolean), 2)
def mX10_passHour : pmM := (yX10_passHour, 10, cX10_passHour, 1, (some .int), 4)
def mX10_passHours : pmM := (yX10_passHours, 10, cX10_passHours, 3, none, 4)
def mX10_passHourBy : pmM := (yX10_passHourBy, 10, cX10_passHourBy, 4, (some .int), 3)
def mX10_catches : pmM := (yX10_catches, 10, cX10_catches, 3, (some .boolean), 2)
def mX10_stands : pmM := (yX10_stands, 10, cX10_stands, 2, (some .boolean), 1)
def mX10_leaveStanding : pmM := (yX10_leaveStanding, 10, cX10_leaveStanding, 3, none, 2)
def mX10_whatCame : pmM := (yX10_whatCame, 10, cX10_whatCame, 3, (some .int), 1)
def mX10_isAnswered : pmM := (yX10_isAnswered, 10, cX10_isAnswered, 2, (some .boolean), 2)
def mX10_gladdens : pmM := (yX10_gladdens, 10, cX10_gladdens, 3, (some .boolean), 2)
def mX10_isGlad : pmM := (yX10_isGlad, 10, cX10_isGlad, 2, (some .boolean), 4)
def mX10_gladChildren : pmM := (yX10_gladChildren, 10, cX10_gladChildren, 3, (some .int), 3)
def mX10_answeredBalloons : pmM := (yX10_answeredBalloons, 10, cX10_answeredBalloons, 3, (some .int), 3)
def mX10_allThatAre : pmM := (yX10_allThatAre, 10, cX10_allThatAre, 4, (some .int), 1)
def mX10_caughtIn : pmM := (yX10_caughtIn, 10, cX10_caughtIn, 4, (some .int), 1)
def mX11_init : pmM := (yX11_init, 11, cX11_init, 2, none, 4)
def mX11_write : pmM := (yX11_write, 11, cX11_write, 2, (some .int), 1)
def mX11_wipe : pmM := (yX11_wipe, 11, cX11_wipe, 2, (some .int), 1)
def mX11_fault : pmM := (yX11_fault, 11, cX11_fault, 1, (some .int), 5)
def mX11_city : pmM := (yX11_city, 11, cX11_city, 2, (some .int), 5)
def mX11_balloon : pmM := (yX11_balloon, 11, cX11_balloon, 4, (some .int), 5)
def mX11_hedge : pmM := (yX11_hedge, 11, cX11_hedge, 3, (some .int), 2)
def mX11_let : pmM := (yX11_let, 11, cX11_let, 2, (some .int), 4)
def mX11_hour : pmM := (yX11_hour, 11, cX11_hour, 1, (some .int), 5)
def mX11_free : pmM := (yX11_free, 11, cX11_free, 3, (some .int), 4)
def mX11_right : pmM := (yX11_right, 11, cX11_right, 3, (some .int), 4)
def mX11_undo : pmM := (yX11_undo, 11, cX11_undo, 1, (some .int), 4)
def mX11_later : pmM := (yX11_later, 11, cX11_later, 5, (some .int), 6)
def mX11_comes : pmM := (yX11_comes, 11, cX11_comes, 2, (some .int), 6)
def mX11_best : pmM := (yX11_best, 11, cX11_best, 2, (some .int), 7)
def mX11_most : pmM := (yX11_most, 11, cX11_most, 2, (some .int), 6)
def mX11_judge : pmM := (yX11_judge, 11, cX11_judge, 4, (some .int), 7)
def mX11_find : pmM := (yX11_find, 11, cX11_find, 3, (some .int), 2)
def mX11_lose : pmM := (yX11_lose, 11, cX11_lose, 2, (some .int), 1)
def mX11_began : pmM := (yX11_began, 11, cX11_began, 2, (some .int), 5)
def mX11_share : pmM := (yX11_share, 11, cX11_share, 4, (some .int), 7)
def mX11_rests : pmM := (yX11_rests, 11, cX11_rests, 4, (some .int), 7)
def mX11_fails : pmM := (yX11_fails, 11, cX11_fails, 7, (some .int), 7)
def mX11_seed : pmM := (yX11_seed, 11, cX11_seed, 5, (some .long), 1)
def mX11_years : pmM := (yX11_years, 11, cX11_years, 2, (some .int), 7)
def mX11_keep : pmM := (yX11_keep, 11, cX11_keep, 2, (some .int), 3)
def mX11_again : pmM := (yX11_again, 11, cX11_again, 2, (some .int), 3)
def mX11_count : pmM := (yX11_count, 11, cX11_count, 2, (some .int), 4)
def mX11_power : pmM := (yX11_power, 11, cX11_power, 4, (some .int), 1)
def mX11_inLeastTerms : pmM := (yX11_inLeastTerms, 11, cX11_inLeastTerms, 4, (some .int), 2)
def mX11_greatestCommon : pmM := (yX11_greatestCommon, 11, cX11_greatestCommon, 6, (some .int), 1)
def mX12_init : pmM := (yX12_init, 12, cX12_init, 1, none, 1)
def mX12_in : pmM := (yX12_in, 12, cX12_in, 6, (some .boolean), 1)
def mX12_has : pmM := (yX12_has, 12, cX12_has, 2, (some .boolean), 1)
def mX12_ones : pmM := (yX12_ones, 12, cX12_ones, 3, (some .int), 1)
def mX12_write : pmM := (yX12_write, 12, cX12_write, 2, (some .int), 2)
def mX12_wipe : pmM := (yX12_wipe, 12, cX12_wipe, 2, (some .int), 1)
def mX12_cellOf : pmM := (yX12_cellOf, 12, cX12_cellOf, 4, (some .int), 2)
def mX12_figureOf : pmM := (yX12_figureOf, 12, cX12_figureOf, 4, (some .int), 2)
def mX12_readText : pmM := (yX12_readText, 12, cX12_readText, 1, (some .int), 4)
def mX12_readPart : pmM := (yX12_readPart, 12, cX12_readPart, 2, none, 3)
def mX12_fault : pmM := (yX12_fault, 12, cX12_fault, 1, (some .int), 5)
def mX12_city : pmM := (yX12_city, 12, cX12_city, 2, (some .int), 5)
def mX12_isBalloon : pmM := (yX12_isBalloon, 12, cX12_isBalloon, 2, (some .boolean), 2)
def mX12_isHedge : pmM := (yX12_isHedge, 12, cX12_isHedge, 2, (some .boolean), 2)
def mX12_isCell : pmM := (yX12_isCell, 12, cX12_isCell, 1, (some .boolean), 2)
def mX12_windOf : pmM := (yX12_windOf, 12, cX12_windOf, 2, (some .int), 1)
def mX12_blown : pmM := (yX12_blown, 12, cX12_blown, 2, (some .int), 1)
def mX12_hedgeAt : pmM := (yX12_hedgeAt, 12, cX12_hedgeAt, 3, (some .int), 2)
def mX12_goOne : pmM := (yX12_goOne, 12, cX12_goOne, 6, none, 2)
def mX12_go : pmM := (yX12_go, 12, cX12_go, 6, none, 3)
def mX12_passOn : pmM := (yX12_passOn, 12, cX12_passOn, 8, (some .int), 4)
def mX12_whoIs : pmM := (yX12_whoIs, 12, cX12_whoIs, 5, (some .int), 1)
def mX12_isAnswered : pmM := (yX12_isAnswered, 12, cX12_isAnswered, 4, (some .boolean), 1)
def mX12_answered : pmM := (yX12_answered, 12, cX12_answered, 4, (some .int), 2)
def mX12_brings : pmM := (yX12_brings, 12, cX12_brings, 3, (some .int), 2)
def mX12_glad : pmM := (yX12_glad, 12, cX12_glad, 5, (some .int), 3)
def mX12_balloon : pmM := (yX12_balloon, 12, cX12_balloon, 3, (some .int), 4)
def mX12_caughtIn : pmM := (yX12_caughtIn, 12, cX12_caughtIn, 4, (some .int), 1)
def mX12_hedge : pmM := (yX12_hedge, 12, cX12_hedge, 3, (some .int), 3)
def mX12_keepAct : pmM := (yX12_keepAct, 12, cX12_keepAct, 2, none, 1)
def mX12_let : pmM := (yX12_let, 12, cX12_let, 2, (some .int), 3)
def mX12_hour : pmM := (yX12_hour, 12, cX12_hour, 1, (some .int), 5)
def mX12_free : pmM := (yX12_free, 12, cX12_free, 2, (some .int), 3)
def mX12_exchange : pmM := (yX12_exchange, 12, cX12_exchange, 6, none, 1)
def mX12_right : pmM := (yX12_right, 12, cX12_right, 3, (some .int), 4)
def mX12_undo : pmM := (yX12_undo, 12, cX12_undo, 2, (some .int), 1)
def mX12_layTrial : pmM := (yX12_layTrial, 12, cX12_layTrial, 2, none, 1)
def mX12_goOn : pmM := (yX12_goOn, 12, cX12_goOn, 3, none, 5)
def mX12_later : pmM := (yX12_later, 12, cX12_later, 4, (some .int), 6)
def mX12_comes : pmM := (yX12_comes, 12, cX12_comes, 3, (some .int), 5)
def mX12_isWellLet : pmM := (yX12_isWellLet, 12, cX12_isWellLet, 3, (some .boolean), 6)
def mX12_best : pmM := (yX12_best, 12, cX12_best, 3, (some .int), 7)
def mX12_isOrder : pmM := (yX12_isOrder, 12, cX12_isOrder, 5, (some .boolean), 1)
def mX12_gladBy : pmM := (yX12_gladBy, 12, cX12_gladBy, 3, (some .int), 1)
def mX12_exchanges : pmM := (yX12_exchanges, 12, cX12_exchanges, 6, (some .int), 2)
def mX12_balloonTo : pmM := (yX12_balloonTo, 12, cX12_balloonTo, 4, (some .int), 1)
def mX12_most : pmM := (yX12_most, 12, cX12_most, 7, (some .int), 6)
def mX12_tryThing : pmM := (yX12_tryThing, 12, cX12_tryThing, 7, (some .boolean), 5)
def mX12_thousandTo : pmM := (yX12_thousandTo, 12, cX12_thousandTo, 4, (some .long), 1)
def mX12_judge : pmM := (yX12_judge, 12, cX12_judge, 6, (some .int), 6)
def mX12_find : pmM := (yX12_find, 12, cX12_find, 3, (some .int), 3)
def mX12_lose : pmM := (yX12_lose, 12, cX12_lose, 2, (some .int), 1)
def mX12_behind : pmM := (yX12_behind, 12, cX12_behind, 8, (some .int), 2)
def mX12_began : pmM := (yX12_began, 12, cX12_began, 6, (some .int), 3)
def mX12_factorial : pmM := (yX12_factorial, 12, cX12_factorial, 3, (some .int), 1)
def mX12_common : pmM := (yX12_common, 12, cX12_common, 5, (some .int), 1)
def mX12_gladOf : pmM := (yX12_gladOf, 12, cX12_gladOf, 4, (some .int), 6)
def mX12_share : pmM := (yX12_share, 12, cX12_share, 6, (some .int), 7)
def mX12_gain : pmM := (yX12_gain, 12, cX12_gain, 7, (some .int), 6)
def mX12_isRest : pmM := (yX12_isRest, 12, cX12_isRest, 5, (some .boolean), 7)
def mX12_rests : pmM := (yX12_rests, 12, cX12_rests, 7, (some .int), 8)
def mX12_power : pmM := (yX12_power, 12, cX12_power, 4, (some .int), 1)
def mX12_fails : pmM := (yX12_fails, 12, cX12_fails, 11, (some .int), 5)
def mX12_seed : pmM := (yX12_seed, 12, cX12_seed, 5, (some .long), 1)
def mX12_years : pmM := (yX12_years, 12, cX12_years, 5, (some .int), 6)
def mX12_keep : pmM := (yX12_keep, 12, cX12_keep, 3, (some .int), 2)
def mX12_again : pmM := (yX12_again, 12, cX12_again, 3, (some .int), 2)
def mX12_count : pmM := (yX12_count, 12, cX12_count, 2, (some .int), 4)
def mJ6_bitCount_0f7a4 : pmM := (yJ6_bitCount_0f7a4, 13, cJ6_bitCount_0f7a4, 1, (some .int), 1)
def mJ9_floorMod_7cf53 : pmM := (yJ9_floorMod_7cf53, 14, cJ9_floorMod_7cf53, 3, (some .int), 1)
def mJ9_abs_0f7a4 : pmM := (yJ9_abs_0f7a4, 14, cJ9_abs_0f7a4, 1, (some .int), 1)
def mL_law : pmM := (yL_law, 15, cL_law, 4, (some .boolean), 9)
def pmFT_0 : List (Nat × Nat × Nat × Nat × Nat) := [(4, 9, 4, 0, 83), (7, 58, 4, 0, 84), (4, 15, 4, 1, 85), (10, 33, 4, 1, 86), (7, 62, 4, 1, 87), (4, 18, 4, 2, 88), (10, 37, 4, 2, 89), (7, 65, 4, 2, 90), (4, 21, 4, 3, 91), (6, 63, 4, 3, 92), (11, 141, 4, 3, 93), (7, 68, 4, 3, 94), (10, 108, 4, 3, 95), (4, 24, 4, 4, 96), (11, 162, 4, 4, 97), (7, 75, 4, 4, 98), (4, 27, 4, 5, 99), (11, 165, 4, 5, 100), (7, 78, 4, 5, 101), (10, 99, 4, 5, 102), (4, 30, 4, 6, 103), (6, 57, 4, 6, 104), (11, 168, 4, 6, 105), (7, 81, 4, 6, 106), (10, 102, 4, 6, 107), (4, 33, 4, 7, 108), (7, 49, 4, 7, 109), (11, 117, 4, 7, 110), (4, 37, 4, 8, 111), (10, 29, 4, 8, 112), (9, 35, 4, 8, 113), (7, 52, 4, 8, 114), (11, 120, 4, 8, 115), (8, 28, 4, 9, 116), (4, 40, 4, 9, 117), (7, 55, 4, 9, 118), (11, 123, 4, 9, 119), (7, 9, 7, 0, 148), (7, 20, 7, 1, 149), (7, 34, 7, 2, 150)]
def pmFT_1 : List (Nat × Nat × Nat × Nat × Nat) := [(1, 15, 1, 0, 171), (11, 138, 1, 0, 172), (1, 18, 1, 1, 173), (5, 58, 1, 1, 174), (11, 133, 1, 1, 175), (10, 81, 1, 1, 176), (1, 21, 1, 2, 177), (5, 41, 1, 2, 178), (10, 52, 1, 2, 179), (11, 144, 1, 2, 180), (1, 9, 1, 3, 181), (2, 54, 1, 3, 182), (3, 49, 1, 3, 183), (6, 47, 1, 3, 184), (11, 147, 1, 3, 185), (10, 93, 1, 3, 186), (1, 24, 1, 4, 187), (10, 96, 1, 4, 188), (1, 27, 1, 5, 189), (1, 30, 1, 6, 190), (9, 51, 1, 6, 191), (11, 150, 1, 6, 192), (10, 63, 1, 6, 193), (10, 21, 10, 0, 209), (8, 22, 10, 0, 210), (9, 29, 10, 0, 211), (6, 53, 10, 0, 212), (10, 11, 10, 1, 213), (2, 50, 10, 1, 214), (9, 48, 10, 1, 215), (3, 45, 10, 1, 216), (6, 43, 10, 1, 217), (11, 130, 10, 1, 218), (10, 26, 10, 2, 219), (11, 284, 10, 2, 220), (10, 17, 10, 3, 221), (0, 11, 0, 0, 240), (0, 20, 0, 1, 241), (0, 24, 0, 2, 242), (11, 206, 0, 2, 243)]
def pmFT_2 : List (Nat × Nat × Nat × Nat × Nat) := [(6, 9, 6, 0, 257), (6, 15, 6, 1, 258), (9, 15, 9, 0, 271), (9, 9, 9, 1, 272), (9, 19, 9, 2, 273), (11, 225, 9, 2, 274), (9, 23, 9, 3, 275), (11, 228, 9, 3, 276), (5, 25, 5, 0, 294), (5, 9, 5, 1, 295), (5, 15, 5, 2, 296), (5, 21, 5, 3, 297), (5, 29, 5, 4, 298), (11, 239, 5, 4, 299), (8, 15, 8, 0, 317), (8, 19, 8, 1, 318), (8, 9, 8, 2, 319), (2, 18, 2, 0, 333), (2, 22, 2, 1, 334), (2, 11, 2, 2, 335), (2, 15, 2, 3, 336), (3, 9, 3, 0, 352), (3, 15, 3, 1, 353), (3, 55, 3, 2, 354), (11, 274, 3, 2, 355), (11, 9, 11, 0, 363), (11, 103, 11, 1, 364), (11, 16, 11, 2, 365), (11, 25, 11, 3, 366), (11, 29, 11, 4, 367), (11, 35, 11, 5, 368), (11, 39, 11, 6, 369), (11, 45, 11, 7, 370), (11, 49, 11, 8, 371), (11, 53, 11, 9, 372), (11, 62, 11, 10, 373), (11, 71, 11, 11, 374), (11, 78, 11, 12, 375), (11, 85, 11, 13, 376), (11, 92, 11, 14, 377)]
def pmFT_3 : List (Nat × Nat × Nat × Nat × Nat) := [(11, 99, 11, 15, 378), (12, 117, 12, 0, 863), (12, 120, 12, 1, 864), (12, 123, 12, 2, 865), (12, 7, 12, 3, 866), (12, 13, 12, 4, 867), (12, 16, 12, 5, 868), (12, 19, 12, 6, 869), (12, 22, 12, 7, 870), (12, 25, 12, 8, 871), (12, 28, 12, 9, 872), (12, 31, 12, 10, 873), (12, 34, 12, 11, 874), (12, 37, 12, 12, 875), (12, 90, 12, 13, 876), (12, 93, 12, 14, 877), (12, 96, 12, 15, 878), (12, 99, 12, 16, 879), (12, 40, 12, 17, 880), (12, 75, 12, 18, 881), (12, 81, 12, 19, 882), (12, 78, 12, 20, 883), (12, 43, 12, 21, 884), (12, 126, 12, 22, 885), (12, 165, 12, 23, 886), (12, 47, 12, 24, 887), (12, 50, 12, 25, 888), (12, 53, 12, 26, 889), (12, 224, 12, 27, 890), (12, 56, 12, 28, 891), (12, 59, 12, 29, 892), (12, 257, 12, 30, 893), (12, 62, 12, 31, 894), (12, 66, 12, 32, 895)]
def pmFT : List (Nat × Nat × Nat × Nat × Nat) := pmFT_0 ++ (pmFT_1 ++ (pmFT_2 ++ (pmFT_3)))
def pmST_0 : List (Nat × Nat × Nat × Nat × Nat) := [(9, 26, 1, 1, 669), (11, 231, 2, 0, 684), (6, 66, 2, 1, 690), (8, 48, 1, 1, 751), (11, 250, 1, 0, 752)]
def pmST : List (Nat × Nat × Nat × Nat × Nat) := pmST_0
def pmMT_0 : List (Nat × Nat × Nat × Nat × pmM × Nat × Nat × Nat × Nat × Nat) := [(15, 9, 2, 0, mX11_init, 71, 72, 0, 54, 73), (11, 15, 4, 0, mX4_init, 79, 80, 0, 55, 81), (11, 22, 2, 1, mX7_init, 144, 145, 0, 56, 146), (11, 34, 2, 1, mX10_init, 160, 161, 0, 57, 162), (10, 25, 4, 0, mX1_init, 167, 168, 0, 58, 169), (11, 44, 2, 1, mX0_init, 233, 234, 0, 59, 235), (0, 17, 2, 1, mX10_init, 239, 161, 0, 57, 162), (11, 59, 2, 2, mX6_init, 253, 254, 0, 60, 255), (11, 68, 2, 1, mX9_init, 267, 268, 0, 61, 269), (11, 77, 2, 1, mX5_init, 288, 289, 0, 62, 290), (5, 20, 4, 0, mX1_init, 293, 168, 0, 58, 169), (11, 84, 2, 2, mX8_init, 313, 314, 0, 63, 315), (11, 91, 2, 2, mX2_init, 329, 330, 0, 64, 331), (11, 98, 2, 2, mX3_init, 348, 349, 0, 65, 350), (15, 13, 0, 1, mX11_write, 412, 413, 414, 54, 415), (15, 18, 0, 0, mX11_wipe, 416, 417, 418, 54, 419), (15, 23, 0, 0, mX11_fault, 420, 421, 422, 54, 423), (11, 107, 0, 2, mX7_read, 424, 425, 426, 56, 427), (7, 15, 0, 0, mX4_clear, 428, 429, 430, 55, 431), (7, 24, 0, 1, mX7_takes, 432, 434, 0, 56, 435), (7, 28, 0, 1, mX7_opensPart, 436, 438, 1, 56, 439), (7, 31, 0, 1, mX7_takesWind, 440, 442, 2, 56, 443), (7, 37, 0, 1, mX7_takesStart, 444, 446, 3, 56, 447), (7, 40, 0, 1, mX7_takesOfBalloon, 448, 450, 4, 56, 451), (7, 43, 0, 1, mX7_takesHedgeCell, 452, 454, 5, 56, 455)]
def pmMT_1 : List (Nat × Nat × Nat × Nat × pmM × Nat × Nat × Nat × Nat × Nat) := [(7, 71, 0, 1, mX4_hedgeAt, 456, 457, 458, 55, 459), (7, 46, 0, 1, mX7_takesOfHedge, 460, 462, 6, 56, 463), (15, 27, 0, 0, mX11_city, 464, 465, 466, 54, 467), (11, 111, 0, 0, mX10_begin, 468, 469, 470, 57, 471), (10, 40, 0, 3, mX1_holdAt, 472, 473, 474, 58, 475), (11, 114, 0, 0, mX0_forget, 476, 477, 478, 59, 479), (15, 31, 0, 2, mX11_balloon, 480, 481, 482, 54, 483), (11, 126, 0, 1, mX10_hasBalloon, 484, 485, 486, 57, 487), (11, 153, 0, 1, mX10_isAnswered, 488, 489, 490, 57, 491), (10, 105, 0, 1, mX10_whatCame, 492, 493, 494, 57, 495), (11, 156, 0, 1, mX10_isGlad, 496, 497, 498, 57, 499), (10, 111, 0, 0, mX10_gladChildren, 500, 501, 502, 57, 503), (10, 115, 0, 2, mX10_gladdens, 504, 505, 506, 57, 507), (15, 36, 0, 2, mX11_hedge, 508, 509, 510, 54, 511), (11, 159, 0, 1, mX4_hasHedge, 512, 513, 514, 55, 515), (11, 171, 0, 1, mX10_caughtIn, 516, 517, 518, 57, 519), (15, 40, 0, 1, mX11_let, 520, 521, 522, 54, 523), (11, 175, 0, 2, mX10_is, 524, 525, 526, 57, 527), (10, 48, 0, 1, mX10_hasBalloon, 528, 485, 486, 57, 487), (11, 179, 0, 1, mX0_remember, 529, 530, 531, 59, 532), (0, 27, 0, 1, mX10_takeFrom, 533, 534, 535, 57, 536), (10, 44, 0, 1, mX1_takeFrom, 537, 538, 539, 58, 540), (11, 182, 0, 1, mX10_letGo, 541, 542, 543, 57, 544), (10, 55, 0, 2, mX10_is, 545, 525, 526, 57, 527), (11, 185, 0, 1, mX10_allThatAre, 546, 547, 548, 57, 549)]
def pmMT_2 : List (Nat × Nat × Nat × Nat × pmM × Nat × Nat × Nat × Nat × Nat) := [(11, 188, 1, 1, mJ6_bitCount_0f7a4, 550, 551, 0, 67, 552), (15, 44, 0, 0, mX11_hour, 556, 557, 558, 54, 559), (11, 193, 0, 0, mX10_passHour, 560, 561, 562, 57, 563), (10, 66, 0, 1, mX4_windOf, 564, 565, 566, 55, 567), (4, 43, 1, 2, mJ9_floorMod_7cf53, 568, 569, 0, 68, 570), (10, 70, 0, 1, mX10_passHourBy, 571, 572, 573, 57, 574), (10, 73, 0, 2, mX1_goBy, 575, 576, 577, 58, 578), (1, 33, 0, 1, mX1_goOneCell, 579, 581, 7, 58, 582), (10, 77, 0, 1, mX10_catches, 583, 585, 8, 57, 586), (10, 84, 0, 1, mX4_hedgeAt, 587, 457, 458, 55, 459), (10, 87, 0, 1, mX10_stands, 588, 590, 9, 57, 591), (10, 90, 0, 2, mX1_catchIn, 592, 593, 594, 58, 595), (15, 48, 0, 1, mX11_free, 596, 597, 598, 54, 599), (11, 197, 0, 1, mX10_setFree, 600, 601, 602, 57, 603), (10, 59, 0, 1, mX1_leaveHedge, 604, 605, 606, 58, 607), (15, 52, 0, 2, mX11_right, 608, 609, 610, 54, 611), (11, 200, 0, 2, mX10_putRight, 612, 613, 614, 57, 615), (11, 203, 0, 0, mX10_gladChildren, 616, 501, 502, 57, 503), (15, 56, 0, 0, mX11_undo, 617, 618, 619, 54, 620), (11, 209, 0, 1, mX0_takeBack, 621, 622, 623, 59, 624), (15, 60, 0, 3, mX11_later, 625, 626, 627, 54, 628), (11, 212, 0, 1, mX6_lookAhead, 629, 630, 631, 60, 632), (6, 18, 0, 1, mX10_takeFrom, 633, 534, 535, 57, 536), (6, 24, 0, 1, mX10_passHours, 634, 635, 636, 57, 637), (15, 65, 0, 1, mX11_comes, 638, 639, 640, 54, 641)]
def pmMT_3 : List (Nat × Nat × Nat × Nat × pmM × Nat × Nat × Nat × Nat × Nat) := [(11, 216, 0, 1, mX6_hoursToAnswer, 642, 643, 644, 60, 645), (6, 28, 0, 1, mX10_isAnswered, 646, 489, 490, 57, 491), (6, 32, 0, 0, mX10_passHour, 647, 561, 562, 57, 563), (15, 69, 0, 1, mX11_best, 648, 649, 650, 54, 651), (11, 219, 0, 1, mX6_hoursToLetting, 652, 653, 654, 60, 655), (6, 36, 0, 2, mX6_endsWellIfLetIn, 656, 658, 10, 60, 659), (6, 40, 0, 1, mX10_letGo, 660, 542, 543, 57, 544), (15, 73, 0, 1, mX11_most, 661, 662, 663, 54, 664), (11, 222, 0, 0, mX9_tryAllOrders, 665, 666, 667, 61, 668), (9, 40, 0, 1, mX9_layOut, 671, 673, 11, 61, 674), (9, 44, 0, 0, mX9_gladByOrder, 675, 677, 12, 61, 678), (9, 56, 0, 2, mX10_gladdens, 679, 505, 506, 57, 507), (15, 79, 0, 2, mX11_judge, 680, 681, 682, 54, 683), (11, 235, 0, 2, mX6_firstThatCannotBe, 686, 687, 688, 60, 689), (6, 72, 0, 3, mX6_canBe, 692, 694, 13, 60, 695), (6, 76, 0, 1, mX10_setFree, 696, 601, 602, 57, 603), (6, 79, 0, 2, mX10_putRight, 697, 613, 614, 57, 615), (6, 82, 0, 1, mX10_isGlad, 698, 497, 498, 57, 499), (15, 84, 0, 2, mX11_find, 699, 700, 701, 54, 702), (11, 240, 0, 2, mX5_add, 703, 704, 705, 62, 706), (15, 88, 0, 0, mX11_lose, 707, 708, 709, 54, 710), (15, 92, 0, 1, mX11_began, 711, 712, 713, 54, 714), (11, 244, 0, 1, mX5_cellsOfLetting, 715, 716, 717, 62, 718), (5, 33, 0, 2, mX5_agreesFrom, 719, 721, 14, 62, 722), (5, 37, 0, 3, mX1_holdAt, 723, 473, 474, 58, 475)]
def pmMT_4 : List (Nat × Nat × Nat × Nat × pmM × Nat × Nat × Nat × Nat × Nat) := [(5, 44, 0, 1, mX5_agreesBehind, 724, 726, 15, 62, 727), (5, 48, 0, 1, mX4_windOf, 728, 565, 566, 55, 567), (5, 54, 0, 2, mX1_goBy, 729, 576, 577, 58, 578), (15, 96, 0, 2, mX11_share, 730, 731, 732, 54, 733), (11, 247, 0, 1, mX8_sumOverOrders, 734, 735, 736, 63, 737), (8, 34, 0, 1, mX4_hasHedge, 738, 513, 514, 55, 515), (8, 38, 0, 1, mX8_weighAllSets, 739, 741, 16, 63, 742), (8, 51, 0, 1, mX10_takeFrom, 743, 534, 535, 57, 536), (8, 55, 0, 1, mX10_leaveStanding, 744, 745, 746, 57, 747), (8, 58, 0, 1, mX10_passHours, 748, 635, 636, 57, 637), (8, 61, 0, 0, mX10_gladChildren, 749, 501, 502, 57, 503), (8, 42, 1, 1, mJ6_bitCount_0f7a4, 750, 551, 0, 67, 552), (11, 253, 1, 3, mX11_inLeastTerms, 753, 754, 0, 54, 755), (11, 293, 1, 1, mJ9_abs_0f7a4, 756, 757, 0, 68, 758), (11, 298, 1, 2, mX11_greatestCommon, 759, 760, 0, 54, 761), (15, 101, 0, 3, mX11_rests, 762, 763, 764, 54, 765), (11, 257, 0, 2, mX2_tryAllPairs, 766, 767, 768, 64, 769), (2, 25, 0, 1, mX10_takeFrom, 770, 534, 535, 57, 536), (2, 31, 0, 1, mX10_letGo, 771, 542, 543, 57, 544), (2, 35, 0, 1, mX10_passHours, 772, 635, 636, 57, 637), (2, 39, 0, 2, mX2_caughtTogether, 773, 775, 17, 64, 776), (2, 47, 0, 2, mX10_is, 777, 525, 526, 57, 527), (2, 43, 0, 1, mX2_ownJoy, 778, 780, 18, 64, 781), (2, 60, 0, 1, mX10_isGlad, 782, 497, 498, 57, 499), (11, 260, 0, 0, mX2_howManyRest, 783, 784, 785, 64, 786)]
def pmMT_5 : List (Nat × Nat × Nat × Nat × pmM × Nat × Nat × Nat × Nat × Nat) := [(2, 63, 0, 1, mX2_isAtRest, 787, 789, 19, 64, 790), (11, 263, 0, 0, mX2_firstAtRest, 791, 792, 793, 64, 794), (15, 105, 0, 5, mX11_fails, 795, 796, 797, 54, 798), (11, 266, 0, 4, mX3_waysCaught, 799, 800, 801, 65, 802), (3, 18, 1, 1, mJ6_bitCount_0f7a4, 803, 551, 0, 67, 552), (3, 24, 5, 2, mX11_power, 804, 805, 0, 54, 806), (3, 28, 0, 4, mX3_isCaughtIf, 807, 809, 20, 65, 810), (3, 32, 0, 1, mX10_takeFrom, 811, 534, 535, 57, 536), (3, 38, 0, 1, mX10_passHourBy, 812, 572, 573, 57, 574), (3, 41, 0, 0, mX10_passHour, 813, 561, 562, 57, 563), (11, 270, 1, 2, mX11_power, 814, 805, 0, 54, 806), (15, 110, 0, 1, mX11_seed, 815, 816, 817, 54, 818), (15, 115, 0, 1, mX11_years, 819, 820, 821, 54, 822), (11, 278, 0, 1, mX3_gladOverYears, 823, 824, 825, 65, 826), (3, 65, 0, 1, mX3_doIfItCanBe, 830, 832, 21, 65, 833), (3, 72, 0, 1, mX10_letGo, 834, 542, 543, 57, 544), (3, 76, 0, 1, mX10_setFree, 835, 601, 602, 57, 603), (3, 79, 0, 2, mX10_putRight, 836, 613, 614, 57, 615), (3, 69, 0, 0, mX10_gladChildren, 837, 501, 502, 57, 503), (15, 119, 0, 1, mX11_keep, 838, 839, 840, 54, 841), (11, 281, 0, 1, mX10_takeFrom, 842, 534, 535, 57, 536), (15, 123, 0, 1, mX11_again, 843, 844, 845, 54, 846), (15, 127, 0, 1, mX11_count, 847, 848, 849, 54, 850), (11, 287, 0, 1, mX4_windOf, 851, 565, 566, 55, 567), (11, 290, 0, 0, mX10_answeredBalloons, 852, 853, 854, 57, 855)]
def pmMT_6 : List (Nat × Nat × Nat × Nat × pmM × Nat × Nat × Nat × Nat × Nat) := [(10, 118, 0, 1, mX10_isAnswered, 856, 489, 490, 57, 491), (15, 12, 2, 0, mX12_init, 859, 860, 0, 66, 861), (15, 17, 0, 1, mX12_write, 963, 964, 965, 66, 966), (12, 71, 1, 3, mX12_in, 968, 969, 0, 66, 970), (15, 22, 0, 0, mX12_wipe, 971, 972, 973, 66, 974), (15, 26, 0, 0, mX12_fault, 975, 976, 977, 66, 978), (12, 113, 0, 0, mX12_readText, 979, 981, 22, 66, 982), (12, 102, 0, 1, mX12_readPart, 983, 985, 23, 66, 986), (12, 106, 0, 1, mX12_figureOf, 987, 989, 24, 66, 990), (12, 110, 0, 1, mX12_cellOf, 991, 993, 25, 66, 994), (12, 86, 1, 2, mX12_has, 996, 997, 0, 66, 998), (15, 30, 0, 0, mX12_city, 999, 1000, 1001, 66, 1002), (15, 35, 0, 2, mX12_balloon, 1003, 1004, 1005, 66, 1006), (12, 152, 0, 1, mX12_isBalloon, 1007, 1009, 26, 66, 1010), (12, 146, 0, 2, mX12_isAnswered, 1011, 1013, 27, 66, 1014), (12, 156, 0, 1, mX12_glad, 1015, 1017, 28, 66, 1018), (12, 149, 0, 2, mX12_brings, 1019, 1021, 29, 66, 1022), (15, 39, 0, 2, mX12_hedge, 1023, 1024, 1025, 66, 1026), (12, 159, 0, 1, mX12_isHedge, 1027, 1029, 30, 66, 1030), (12, 162, 0, 1, mX12_caughtIn, 1031, 1033, 31, 66, 1034), (15, 43, 0, 1, mX12_let, 1035, 1036, 1037, 66, 1038), (12, 168, 0, 0, mX12_keepAct, 1039, 1041, 32, 66, 1042), (12, 171, 0, 2, mX12_whoIs, 1043, 1045, 33, 66, 1046), (12, 174, 1, 1, mX12_ones, 1047, 1048, 0, 66, 1049), (15, 47, 0, 0, mX12_hour, 1050, 1051, 1052, 66, 1053)]
def pmMT_7 : List (Nat × Nat × Nat × Nat × pmM × Nat × Nat × Nat × Nat × Nat) := [(12, 177, 0, 2, mX12_passOn, 1054, 1056, 34, 66, 1057), (12, 137, 0, 1, mX12_windOf, 1058, 1060, 35, 66, 1061), (12, 140, 0, 3, mX12_go, 1062, 1064, 36, 66, 1065), (12, 133, 0, 3, mX12_goOne, 1066, 1068, 37, 66, 1069), (12, 129, 1, 2, mX12_blown, 1070, 1071, 0, 66, 1072), (12, 143, 0, 1, mX12_hedgeAt, 1073, 1075, 38, 66, 1076), (15, 51, 0, 1, mX12_free, 1077, 1078, 1079, 66, 1080), (15, 55, 0, 2, mX12_right, 1081, 1082, 1083, 66, 1084), (12, 181, 0, 3, mX12_exchange, 1085, 1087, 39, 66, 1088), (15, 59, 0, 0, mX12_undo, 1089, 1090, 1091, 66, 1092), (15, 64, 0, 3, mX12_later, 1093, 1094, 1095, 66, 1096), (12, 186, 0, 0, mX12_layTrial, 1098, 1100, 40, 66, 1101), (12, 189, 0, 1, mX12_goOn, 1102, 1104, 41, 66, 1105), (15, 68, 0, 1, mX12_comes, 1106, 1107, 1108, 66, 1109), (15, 72, 0, 1, mX12_best, 1110, 1111, 1112, 66, 1113), (12, 192, 0, 2, mX12_isWellLet, 1114, 1116, 42, 66, 1117), (15, 76, 0, 1, mX12_most, 1118, 1119, 1120, 66, 1121), (12, 198, 0, 1, mX12_isOrder, 1122, 1124, 43, 66, 1125), (12, 201, 0, 0, mX12_gladBy, 1126, 1128, 44, 66, 1129), (12, 204, 0, 0, mX12_exchanges, 1130, 1132, 45, 66, 1133), (12, 195, 0, 1, mX12_balloonTo, 1134, 1136, 46, 66, 1137), (15, 83, 0, 2, mX12_judge, 1138, 1139, 1140, 66, 1141), (12, 211, 1, 1, mX12_thousandTo, 1143, 1144, 0, 66, 1145), (12, 215, 0, 3, mX12_tryThing, 1147, 1149, 47, 66, 1150), (15, 87, 0, 2, mX12_find, 1151, 1152, 1153, 66, 1154)]
def pmMT_8 : List (Nat × Nat × Nat × Nat × pmM × Nat × Nat × Nat × Nat × Nat) := [(12, 219, 1, 1, mX12_isCell, 1155, 1156, 0, 66, 1157), (15, 91, 0, 0, mX12_lose, 1159, 1160, 1161, 66, 1162), (15, 95, 0, 1, mX12_began, 1163, 1164, 1165, 66, 1166), (12, 229, 0, 3, mX12_behind, 1168, 1170, 48, 66, 1171), (15, 100, 0, 2, mX12_share, 1172, 1173, 1174, 66, 1175), (12, 233, 1, 1, mX12_factorial, 1176, 1177, 0, 66, 1178), (12, 236, 0, 1, mX12_gladOf, 1179, 1181, 49, 66, 1182), (12, 239, 1, 2, mX12_common, 1183, 1184, 0, 66, 1185), (15, 104, 0, 3, mX12_rests, 1186, 1187, 1188, 66, 1189), (12, 246, 0, 4, mX12_isRest, 1190, 1192, 50, 66, 1193), (12, 242, 0, 4, mX12_gain, 1194, 1196, 51, 66, 1197), (15, 109, 0, 5, mX12_fails, 1198, 1199, 1200, 66, 1201), (12, 254, 1, 2, mX12_power, 1204, 1205, 0, 66, 1206), (15, 114, 0, 1, mX12_seed, 1207, 1208, 1209, 66, 1210), (15, 118, 0, 1, mX12_years, 1211, 1212, 1213, 66, 1214), (15, 122, 0, 1, mX12_keep, 1219, 1220, 1221, 66, 1222), (15, 126, 0, 1, mX12_again, 1223, 1224, 1225, 66, 1226), (15, 130, 0, 1, mX12_count, 1227, 1228, 1229, 66, 1230), (12, 269, 0, 1, mX12_answered, 1231, 1233, 52, 66, 1234)]
def pmMT : List (Nat × Nat × Nat × Nat × pmM × Nat × Nat × Nat × Nat × Nat) := pmMT_0 ++ (pmMT_1 ++ (pmMT_2 ++ (pmMT_3 ++ (pmMT_4 ++ (pmMT_5 ++ (pmMT_6 ++ (pmMT_7 ++ (pmMT_8))))))))
def pmOT_0 : List (Nat × Nat × Nat) := [(11, 1, 74), (4, 3, 82), (7, 3, 147), (10, 3, 163), (1, 3, 170), (0, 3, 236), (6, 3, 256), (9, 3, 270), (5, 3, 291), (8, 3, 316), (2, 3, 332), (3, 3, 351), (12, 1, 862)]
def pmOT : List (Nat × Nat × Nat) := pmOT_0
def pmCT_0 : List (Nat × Nat × Nat × Nat) := [(15, 7, 11, 69), (11, 13, 4, 77), (11, 20, 7, 142), (11, 32, 10, 158), (10, 9, 1, 164), (11, 42, 0, 231), (0, 9, 10, 237), (11, 57, 6, 251), (11, 66, 9, 265), (11, 75, 5, 286), (5, 18, 1, 292), (11, 82, 8, 311), (11, 89, 2, 327), (11, 96, 3, 346), (15, 10, 12, 857)]
def pmCT : List (Nat × Nat × Nat × Nat) := pmCT_0
def pmCI_0 : List (Nat × Nat × Int32 × Nat) := [(13, 265, 1431655765, 553), (13, 266, 858993459, 554), (13, 267, 252645135, 555)]
def pmCI : List (Nat × Nat × Int32 × Nat) := pmCI_0
def pmCJ_0 : List (Nat × Nat × Int64 × Nat) := [(6, 70, 1000, 691), (3, 59, 6364136223846793005, 827), (3, 61, 1442695040888963407, 828), (3, 63, 24, 829), (12, 69, 255, 967), (12, 84, 19, 995), (12, 184, 20, 1097), (12, 209, 4, 1142), (12, 207, 1000, 1146), (12, 222, 9, 1158), (12, 227, 3, 1167), (12, 250, 6, 1202), (12, 252, 10, 1203), (12, 261, 30, 1215), (12, 263, 6364136223846793005, 1216), (12, 265, 1442695040888963407, 1217), (12, 267, 24, 1218), (15, 77, 4294967295, 1235)]
def pmCJ : List (Nat × Nat × Int64 × Nat) := pmCJ_0
def pmCN (n : Nat) : String := ([RX0, RX1, RX2, RX3, RX4, RX5, RX6, RX7, RX8, RX9, RX10, RX11, RX12, RJ6, RJ9, RL]).getD n ""
def pmTX (n : Nat) : u_T := ([TX0, TX1, TX2, TX3, TX4, TX5, TX6, TX7, TX8, TX9, TX10, TX11, TX12]).getD n TX0
def pmTy (n : Nat) : Nat → FieldType := ([tyX0, tyX1, tyX2, tyX3, tyX4, tyX5, tyX6, tyX7, tyX8, tyX9, tyX10, tyX11, tyX12]).getD n tyX0
def pmNF (n : Nat) : Nat := ([3, 7, 4, 3, 10, 5, 2, 3, 3, 4, 4, 16, 33]).getD n 0
def pmFld (o i : Nat) : Option (Nat × Nat × Nat) := (pmFT.find? (fun e => e.1 == o && e.2.1 == i)).map (fun e => e.2.2)
def pmSta (o i : Nat) : Option (Nat × Nat × Nat) := (pmST.find? (fun e => e.1 == o && e.2.1 == i)).map (fun e => e.2.2)
def pmMth (o i : Nat) : Option (Nat × Nat × pmM × Nat × Nat × Nat × Nat × Nat) := (pmMT.find? (fun e => e.1 == o && e.2.1 == i)).map (fun e => e.2.2)
def pmObj (o i : Nat) : Option Nat := (pmOT.find? (fun e => e.1 == o && e.2.1 == i)).map (fun e => e.2.2)
def pmCls (o i : Nat) : Option (Nat × Nat) := (pmCT.find? (fun e => e.1 == o && e.2.1 == i)).map (fun e => e.2.2)
def pmKI (o i : Nat) : Option (Int32 × Nat) := (pmCI.find? (fun e => e.1 == o && e.2.1 == i)).map (fun e => e.2.2)
def pmKJ (o i : Nat) : Option (Int64 × Nat) := (pmCJ.find? (fun e => e.1 == o && e.2.1 == i)).map (fun e => e.2.2)
def pmLd (L : pmL) (i : Nat) : Option Value := (L[i]?).getD none
def pmNL (L : pmL) (i : Nat) : Bool := match i with
  | 0 => true
  | j + 1 => match (L[j]?).getD none with
    | some v => v.category == 1
    | none => true
def pmS1 (L : pmL) (i : Nat) (v : Value) : Option pmL := if i < L.length ∧ pmNL L i = true then some (L.set i (some v)) else none
def pmS2 (L : pmL) (i : Nat) (v : Value) : Option pmL := if i + 1 < L.length ∧ pmNL L i = true then some ((L.set i (some v)).set (i + 1) none) else none
def pmIn (i : Int32) (n : Nat) : Bool := decide (¬ (i < 0 ∨ n ≤ i.toNatClampNeg))
def pmT (pc : Nat) (off : Int) : Option Nat := if 0 ≤ (pc : Int) + off then some ((pc : Int) + off).toNat else none
def pmSl (as : List Value) : pmL := as.flatMap (fun v => if v.category = 2 then [some v, none] else [some v])
def pmEnt (n : Nat) (as : List Value) : pmL := pmSl as ++ List.replicate (n - (pmSl as).length) none
def pmFit (ty : FieldType) (v : Value) : Bool := match ty, v with
  | .int, .int _ => true
  | .long, .long _ => true
  | .object _, .ref _ => true
  | .array _, .ref _ => true
  | _, _ => false
def pmDef (ci : Nat) : List Value := (List.range (pmNF ci)).map (fun k => defaultValue (pmTy ci k))
def pmCmp (c : Jvm.ClassFile.Cond) (x y : Int32) : Bool := match c with
  | .eq => decide (x = y)
  | .ne => decide (¬ x = y)
  | .lt => decide (x < y)
  | .ge => decide (y ≤ x)
  | .gt => decide (y < x)
  | .le => decide (x ≤ y)
def pmNx (pc : Nat) (L : pmL) (S : List Value) (g : pmH) : Option pmR := some (.inl (pc, L, S, g))
def pmII (pc : Nat) (L : pmL) (S : List Value) (g : pmH) (f : Int32 → Int32 → Int32) : Option pmR := match S with
  | .int y :: .int x :: R => pmNx (pc + 1) L (.int (f x y) :: R) g
  | _ => none
def pmIIz (pc : Nat) (L : pmL) (S : List Value) (g : pmH) (f : Int32 → Int32 → Int32) : Option pmR := match S with
  | .int y :: .int x :: R => if y = 0 then none else pmNx (pc + 1) L (.int (f x y) :: R) g
  | _ => none
def pmJJ (pc : Nat) (L : pmL) (S : List Value) (g : pmH) (f : Int64 → Int64 → Int64) : Option pmR := match S with
  | .long y :: .long x :: R => pmNx (pc + 1) L (.long (f x y) :: R) g
  | _ => none
def pmJJz (pc : Nat) (L : pmL) (S : List Value) (g : pmH) (f : Int64 → Int64 → Int64) : Option pmR := match S with
  | .long y :: .long x :: R => if y = 0 then none else pmNx (pc + 1) L (.long (f x y) :: R) g
  | _ => none
def pmJI (pc : Nat) (L : pmL) (S : List Value) (g : pmH) (f : Int64 → Int32 → Int64) : Option pmR := match S with
  | .int y :: .long x :: R => pmNx (pc + 1) L (.long (f x y) :: R) g
  | _ => none
def pmLdI (pc i : Nat) (L : pmL) (S : List Value) (g : pmH) : Option pmR := match pmLd L i with
  | some (.int x) => pmNx pc L (.int x :: S) g
  | _ => none
def pmLdJ (pc i : Nat) (L : pmL) (S : List Value) (g : pmH) : Option pmR := match pmLd L i with
  | some (.long x) => pmNx pc L (.long x :: S) g
  | _ => none
def pmLdA (pc i : Nat) (L : pmL) (S : List Value) (g : pmH) : Option pmR := match pmLd L i with
  | some (.ref x) => pmNx pc L (.ref x :: S) g
  | _ => none
def pmStI (pc i : Nat) (L : pmL) (S : List Value) (g : pmH) : Option pmR := match S with
  | .int x :: R => (pmS1 L i (.int x)).bind (fun L' => pmNx pc L' R g)
  | _ => none
def pmStA (pc i : Nat) (L : pmL) (S : List Value) (g : pmH) : Option pmR := match S with
  | .ref x :: R => (pmS1 L i (.ref x)).bind (fun L' => pmNx pc L' R g)
  | _ => none
def pmStJ (pc i : Nat) (L : pmL) (S : List Value) (g : pmH) : Option pmR := match S with
  | .long x :: R => (pmS2 L i (.long x)).bind (fun L' => pmNx pc L' R g)
  | _ => none
def pmInc (pc i : Nat) (n : Int) (L : pmL) (S : List Value) (g : pmH) : Option pmR := match pmLd L i with
  | some (.int x) => (pmS1 L i (.int (x + Int32.ofInt n))).bind (fun L' => pmNx pc L' S g)
  | _ => none
def pmGo (pc : Nat) (off : Int) (L : pmL) (S : List Value) (g : pmH) : Option pmR := (pmT pc off).bind (fun t => pmNx t L S g)
def pmBr2 (pc : Nat) (c : Jvm.ClassFile.Cond) (off : Int) (L : pmL) (S : List Value) (g : pmH) : Option pmR := match S with
  | .int y :: .int x :: R => (pmT pc off).bind (fun t => pmNx (if pmCmp c x y then t else pc + 3) L R g)
  | _ => none
def pmBr1 (pc : Nat) (c : Jvm.ClassFile.Cond) (off : Int) (L : pmL) (S : List Value) (g : pmH) : Option pmR := match S with
  | .int x :: R => (pmT pc off).bind (fun t => pmNx (if pmCmp c x 0 then t else pc + 3) L R g)
  | _ => none
def pmTab (pc : Nat) (d lo hi : Int) (os : Array Int) (L : pmL) (S : List Value) (g : pmH) : Option pmR := match S with
  | .int x :: R => if x.toInt < lo ∨ hi < x.toInt then (pmT pc d).bind (fun t => pmNx t L R g) else (os[(x.toInt - lo).toNat]?).bind (fun o => (pmT pc o).bind (fun t => pmNx t L R g))
  | _ => none
def pmLook (pc : Nat) (d : Int) (ps : Array (Int × Int)) (L : pmL) (S : List Value) (g : pmH) : Option pmR := match S with
  | .int x :: R => if (ps.toList.zip (ps.toList.drop 1)).all (fun (a, next) => a.1 < next.1) = true then (pmT pc (Op.lookupswitch.offset ps.toList d x.toInt)).bind (fun t => pmNx t L R g) else none
  | _ => none
def pmGet (pc ci k : Nat) (L : pmL) (S : List Value) (g : pmH) : Option pmR := match S with
  | .ref a :: R => match g[a]? with
    | some (.inr (c, fs)) => if c = ci ∧ 3 ≤ a ∧ k < pmNF ci then (fs[k]?).bind (fun v => pmNx (pc + 3) L (v :: R) g) else none
    | _ => none
  | _ => none
def pmPut (M : pmM) (pc ci k : Nat) (L : pmL) (S : List Value) (g : pmH) : Option pmR := match S with
  | v :: .ref a :: R => match g[a]? with
    | some (.inr (c, fs)) => if c = ci ∧ 3 ≤ a ∧ k < pmNF ci ∧ k < fs.length ∧ pmFit (pmTy ci k) v = true ∧ ((pmTX ci k).2.2.2 = false ∨ (M.1.name = "<init>" ∧ M.2.1 = ci)) then pmNx (pc + 3) L R (g.set a (.inr (ci, fs.set k v))) else none
    | _ => none
  | _ => none
def pmIald (pc : Nat) (L : pmL) (S : List Value) (g : pmH) : Option pmR := match S with
  | .int i :: .ref a :: R => match g[a]? with
    | some (.inl (t, n, .inl f)) => if t = 0 ∧ pmIn i n = true then pmNx (pc + 1) L (.int (f i.toNatClampNeg) :: R) g else none
    | _ => none
  | _ => none
def pmBald (pc : Nat) (L : pmL) (S : List Value) (g : pmH) : Option pmR := match S with
  | .int i :: .ref a :: R => match g[a]? with
    | some (.inl (t, n, .inl f)) => if t = 1 ∧ 3 ≤ a ∧ pmIn i n = true then pmNx (pc + 1) L (.int (f i.toNatClampNeg) :: R) g else none
    | _ => none
  | _ => none
def pmLald (pc : Nat) (L : pmL) (S : List Value) (g : pmH) : Option pmR := match S with
  | .int i :: .ref a :: R => match g[a]? with
    | some (.inl (t, n, .inr (.inl f))) => if t = 4 ∧ a = 2 ∧ pmIn i n = true then pmNx (pc + 1) L (.long (f i.toNatClampNeg) :: R) g else none
    | _ => none
  | _ => none
def pmAald (pc : Nat) (L : pmL) (S : List Value) (g : pmH) : Option pmR := match S with
  | .int i :: .ref a :: R => match g[a]? with
    | some (.inl (t, n, .inr (.inr (.inr (.inr f))))) => if (t = 2 ∨ t = 3) ∧ 3 ≤ a ∧ pmIn i n = true then pmNx (pc + 1) L (va_rf (f i.toNatClampNeg) :: R) g else none
    | _ => none
  | _ => none
def pmIast (pc : Nat) (L : pmL) (S : List Value) (g : pmH) : Option pmR := match S with
  | .int x :: .int i :: .ref a :: R => match g[a]? with
    | some (.inl (t, n, .inl f)) => if t = 0 ∧ 3 ≤ a ∧ pmIn i n = true then pmNx (pc + 1) L R (g.set a (.inl (0, n, .inl (upd f i.toNatClampNeg x)))) else none
    | _ => none
  | _ => none
def pmBast (pc : Nat) (L : pmL) (S : List Value) (g : pmH) : Option pmR := match S with
  | .int x :: .int i :: .ref a :: R => match g[a]? with
    | some (.inl (t, n, .inl f)) => if t = 1 ∧ 3 ≤ a ∧ pmIn i n = true then pmNx (pc + 1) L R (g.set a (.inl (1, n, .inl (upd f i.toNatClampNeg (vp_nar .boolean x))))) else none
    | _ => none
  | _ => none
def pmAast (pc : Nat) (L : pmL) (S : List Value) (g : pmH) : Option pmR := match S with
  | .ref v :: .int i :: .ref a :: R => match g[a]?, g[v]? with
    | some (.inl (t, n, .inr (.inr (.inr (.inr f))))), some (.inr (c, _)) => if ((t = 2 ∧ c = 10) ∨ (t = 3 ∧ c = 1)) ∧ 3 ≤ a ∧ 3 ≤ v ∧ pmIn i n = true then pmNx (pc + 1) L R (g.set a (.inl (t, n, .inr (.inr (.inr (.inr (va_up f i.toNatClampNeg (some v)))))))) else none
    | _, _ => none
  | _ => none
def pmLen (pc : Nat) (L : pmL) (S : List Value) (g : pmH) : Option pmR := match S with
  | .ref a :: R => match g[a]? with
    | some (.inl (t, n, .inl _)) => if t = 0 ∧ (a = 0 ∨ 3 ≤ a) then pmNx (pc + 1) L (.int (Int32.ofNat n) :: R) g else none
    | _ => none
  | _ => none
def pmNewA (pc t : Nat) (L : pmL) (S : List Value) (g : pmH) : Option pmR := match S with
  | .int n :: R => if ¬ n < 0 ∧ n.toNatClampNeg ≤ 1000 then pmNx (pc + 2) L (.ref g.length :: R) (g ++ [.inl (t, n.toNatClampNeg, .inl (fun _ => 0))]) else none
  | _ => none
def pmNewQ (pc t : Nat) (L : pmL) (S : List Value) (g : pmH) : Option pmR := match S with
  | .int n :: R => if ¬ n < 0 ∧ n.toNatClampNeg ≤ 1000 then pmNx (pc + 3) L (.ref g.length :: R) (g ++ [.inl (t, n.toNatClampNeg, .inr (.inr (.inr (.inr (fun _ => none)))))]) else none
  | _ => none
def pmCall (M : pmM) (pc n : Nat) (N : pmM) (L : pmL) (S : List Value) : Option pmR :=
  if n ≤ S.length ∧ (S.drop n).length ≤ 4 ∧ N.2.2.2.2.2 < M.2.2.2.2.2 ∧ (pmSl (S.take n).reverse).length ≤ N.2.2.2.1 then some (.inr (.inl (N, (S.take n).reverse, pc + 3, L, S.drop n))) else none
def pmIsObj (g : pmH) (c : Nat) (v : Option Value) : Bool := match v with
  | some (.ref a) => match g[a]? with
    | some (.inr (d, _)) => d == c && decide (3 ≤ a)
    | _ => false
  | _ => false
def pmInvV (M : pmM) (pc i : Nat) (L : pmL) (S : List Value) (g : pmH) : Option pmR := match pmMth M.2.1 i with
  | some (k, n, N, _) => if k = 0 ∧ pmIsObj g N.2.1 (S[n]?) = true then pmCall M pc (n + 1) N L S else none
  | none => none
def pmInvS (M : pmM) (pc i : Nat) (L : pmL) (S : List Value) : Option pmR := match pmMth M.2.1 i with
  | some (k, n, N, _) => if k = 1 ∨ k = 5 then pmCall M pc n N L S else none
  | none => none
def pmInvI (M : pmM) (pc i : Nat) (L : pmL) (S : List Value) (g : pmH) : Option pmR := match pmObj M.2.1 i with
  | some _ => match S with
    | .ref _ :: R => if R.length ≤ 4 then pmNx (pc + 3) L R g else none
    | _ => none
  | none => match pmMth M.2.1 i with
    | some (k, n, N, _) => if (k = 2 ∨ k = 4) ∧ pmIsObj g N.2.1 (S[n]?) = true then pmCall M pc (n + 1) N L S else none
    | none => none
def pmI (M : pmM) (pc : Nat) (L : pmL) (S : List Value) (g : pmH) (ins : Instr) : Option pmR := match ins with
  | .iload_n k => pmLdI (pc + 1) k L S g
  | .iload i => pmLdI (pc + 2) i L S g
  | .lload_n k => pmLdJ (pc + 1) k L S g
  | .lload i => pmLdJ (pc + 2) i L S g
  | .aload_n k => pmLdA (pc + 1) k L S g
  | .aload i => pmLdA (pc + 2) i L S g
  | .iconst n => pmNx (pc + 1) L (.int (Int32.ofInt n) :: S) g
  | .bipush n => pmNx (pc + 2) L (.int (Int8.ofInt n).toInt32 :: S) g
  | .sipush n => pmNx (pc + 3) L (.int (Int16.ofInt n).toInt32 :: S) g
  | .lconst n => pmNx (pc + 1) L (.long (Int64.ofNat (n : Nat)) :: S) g
  | .ldc_w i => match pmKI M.2.1 i with
    | some (v, _) => pmNx (pc + 3) L (.int v :: S) g
    | none => none
  | .ldc2_w i => match pmKJ M.2.1 i with
    | some (v, _) => pmNx (pc + 3) L (.long v :: S) g
    | none => none
  | .istore_n k => pmStI (pc + 1) k L S g
  | .istore i => pmStI (pc + 2) i L S g
  | .lstore_n k => pmStJ (pc + 1) k L S g
  | .astore_n k => pmStA (pc + 1) k L S g
  | .astore i => pmStA (pc + 2) i L S g
  | .iinc i n => pmInc (pc + 3) i n L S g
  | .iadd => pmII pc L S g (fun x y => x + y)
  | .isub => pmII pc L S g (fun x y => x - y)
  | .imul => pmII pc L S g (fun x y => x * y)
  | .iand => pmII pc L S g (fun x y => x &&& y)
  | .ior => pmII pc L S g (fun x y => x ||| y)
  | .ixor => pmII pc L S g (fun x y => x ^^^ y)
  | .ishl => pmII pc L S g (fun x y => x <<< (y &&& 31))
  | .ishr => pmII pc L S g (fun x y => x >>> (y &&& 31))
  | .iushr => pmII pc L S g (fun x y => (x.toUInt32 >>> (y.toUInt32 &&& Int32.toUInt32 31)).toInt32)
  | .idiv => pmIIz pc L S g (fun x y => x / y)
  | .irem => pmIIz pc L S g (fun x y => x - x / y * y)
  | .ladd => pmJJ pc L S g (fun x y => x + y)
  | .lsub => pmJJ pc L S g (fun x y => x - y)
  | .lmul => pmJJ pc L S g (fun x y => x * y)
  | .land => pmJJ pc L S g (fun x y => x &&& y)
  | .lor => pmJJ pc L S g (fun x y => x ||| y)
  | .ldiv => pmJJz pc L S g (fun x y => x / y)
  | .lrem => pmJJz pc L S g (fun x y => x - x / y * y)
  | .lshl => pmJI pc L S g (fun x y => x <<< (y.toInt64 &&& 63))
  | .lushr => pmJI pc L S g (fun x y => (x.toUInt64 >>> (y.toInt64.toUInt64 &&& Int64.toUInt64 63)).toInt64)
  | .ineg => match S with
    | .int x :: R => pmNx (pc + 1) L (.int (-x) :: R) g
    | _ => none
  | .i2l => match S with
    | .int x :: R => pmNx (pc + 1) L (.long x.toInt64 :: R) g
    | _ => none
  | .l2i => match S with
    | .long x :: R => pmNx (pc + 1) L (.int x.toInt32 :: R) g
    | _ => none
  | .lcmp => match S with
    | .long y :: .long x :: R => pmNx (pc + 1) L (.int (lg_cmp x y) :: R) g
    | _ => none
  | .dup => match S with
    | v :: R => if v.category = 1 then pmNx (pc + 1) L (v :: v :: R) g else none
    | _ => none
  | .dup2 => match S with
    | v :: w :: R => if v.category = 1 ∧ w.category = 1 then pmNx (pc + 1) L (v :: w :: v :: w :: R) g else none
    | _ => none
  | .pop => match S with
    | v :: R => if v.category = 1 then pmNx (pc + 1) L R g else none
    | _ => none
  | .goto off => pmGo pc off L S g
  | .if_icmp c off => pmBr2 pc c off L S g
  | .ifCond c off => pmBr1 pc c off L S g
  | .tableswitch d lo hi os => pmTab pc d lo hi os L S g
  | .lookupswitch d ps => pmLook pc d ps L S g
  | .getfield i => match pmFld M.2.1 i with
    | some (ci, k, _) => pmGet pc ci k L S g
    | none => none
  | .putfield i => match pmFld M.2.1 i with
    | some (ci, k, _) => pmPut M pc ci k L S g
    | none => none
  | .getstatic i => match pmSta M.2.1 i with
    | some (r, _, _) => pmNx (pc + 3) L (.ref r :: S) g
    | none => none
  | .iaload => pmIald pc L S g
  | .baload => pmBald pc L S g
  | .laload => pmLald pc L S g
  | .aaload => pmAald pc L S g
  | .iastore => pmIast pc L S g
  | .bastore => pmBast pc L S g
  | .aastore => pmAast pc L S g
  | .arraylength => pmLen pc L S g
  | .newarray .int => pmNewA pc 0 L S g
  | .newarray .boolean => pmNewA pc 1 L S g
  | .anewarray i => match pmCls M.2.1 i with
    | some (ci, _) => if ci = 10 then pmNewQ pc 2 L S g else if ci = 1 then pmNewQ pc 3 L S g else none
    | none => none
  | .new i => match pmCls M.2.1 i with
    | some (ci, _) => if ci < 13 then pmNx (pc + 3) L (.ref g.length :: S) (g ++ [.inr (ci, pmDef ci)]) else none
    | none => none
  | .invokevirtual i => pmInvV M pc i L S g
  | .invokestatic i => pmInvS M pc i L S
  | .invokespecial i => pmInvI M pc i L S g
  | .ireturn => match S, M.2.2.2.2.1 with
    | [.int v], some t => if narrow t (.int v) = .int v then some (.inr (.inr (some (.int v)))) else none
    | _, _ => none
  | .lreturn => match S, M.2.2.2.2.1 with
    | [.long v], some .long => some (.inr (.inr (some (.long v))))
    | _, _ => none
  | .return_ => match S, M.2.2.2.2.1 with
    | [], none => some (.inr (.inr none))
    | _, _ => none
  | _ => none
def pmIL (i : Instr) : Nat := match i with
  | .iload _ | .lload _ | .aload _ | .istore _ | .astore _ | .bipush _ | .newarray _ => 2
  | .sipush _ | .ldc_w _ | .ldc2_w _ | .iinc _ _ | .goto _ | .if_icmp _ _ | .ifCond _ _ | .getfield _ | .putfield _ | .getstatic _ | .anewarray _ | .new _ | .invokevirtual _ | .invokestatic _ | .invokespecial _ => 3
  | .tableswitch _ _ _ _ | .lookupswitch _ _ => 0
  | _ => 1
def pmS (M : pmM) (pc : Nat) (L : pmL) (S : List Value) (g : pmH) : Option pmR := match decode M.2.2.1 pc with
  | .ok (i, n) => if n = pmIL i ∨ pmIL i = 0 then pmI M pc L S g i else none
  | .error _ => none
def pmX : Nat → pmM → Nat → pmL → List Value → pmH → Option (Option Value × pmH)
  | 0, _, _, _, _, _ => none
  | n + 1, M, pc, L, S, g => match pmS M pc L S g with
    | none => none
    | some (.inl (pc', L', S', g')) => pmX n M pc' L' S' g'
    | some (.inr (.inl (N, as, pc', L', R))) => match pmX n N 0 (pmEnt N.2.2.2.1 as) [] g with
      | none => none
      | some (v, g') => pmX n M pc' L' (v.toList ++ R) g'
    | some (.inr (.inr v)) => some (v, g)
theorem pmX_mono : ∀ (n : Nat) (M : pmM) (pc : Nat) (L : pmL) (S : List Value) (g : pmH) (r : Option Value × pmH), pmX n M pc L S g = some r → pmX (n + 1) M pc L S g = some r
  | 0, M, pc, L, S, g, r, h => by simp [pmX] at h
  | n + 1, M, pc, L, S, g, r, h => by
    unfold pmX at h ⊢
    split at h
    · cases h
    · exact pmX_mono n _ _ _ _ _ _ h
    · split at h
      · cases h
      · rename_i hv
        rw [pmX_mono n _ _ _ _ _ _ hv]
        exact pmX_mono n _ _ _ _ _ _ h
    · exact h
theorem pmX_le {n k : Nat} {M : pmM} {pc : Nat} {L : pmL} {S : List Value} {g : pmH} {r : Option Value × pmH} (h : pmX n M pc L S g = some r) (hk : n ≤ k) : pmX k M pc L S g = some r := by
  induction hk with
  | refl => exact h
  | step _ ih => exact pmX_mono _ _ _ _ _ _ _ ih
theorem pmX_uniq {n k : Nat} {M : pmM} {pc : Nat} {L : pmL} {S : List Value} {g : pmH} {r q : Option Value × pmH} (h : pmX n M pc L S g = some r) (h2 : pmX k M pc L S g = some q) : r = q := by
  have a := pmX_le h (Nat.le_max_left n k)
  have b := pmX_le h2 (Nat.le_max_right n k)
  exact Option.some.inj (a.symm.trans b)
/-- what the pure machine comes to -/
noncomputable def pmV (M : pmM) (pc : Nat) (L : pmL) (S : List Value) (g : pmH) : Option (Option Value × pmH) :=
  by classical exact if h : ∃ r : Option Value × pmH, ∃ n : Nat, pmX n M pc L S g = some r then some (Classical.choose h) else none
theorem pmV_iff {M : pmM} {pc : Nat} {L : pmL} {S : List Value} {g : pmH} {r : Option Value × pmH} : pmV M pc L S g = some r ↔ ∃ n : Nat, pmX n M pc L S g = some r := by
  unfold pmV
  constructor
  · intro h
    split at h
    · rename_i hx
      obtain ⟨n, hn⟩ := Classical.choose_spec hx
      rw [Option.some.inj h] at hn
      exact ⟨n, hn⟩
    · cases h
  · rintro ⟨n, hn⟩
    have hx : ∃ r : Option Value × pmH, ∃ n : Nat, pmX n M pc L S g = some r := ⟨r, n, hn⟩
    rw [dif_pos hx]
    obtain ⟨k, hk⟩ := Classical.choose_spec hx
    rw [pmX_uniq hk hn]
/-- one step of it -/
noncomputable def pmU (M : pmM) (g : pmH) (o : Option pmR) : Option (Option Value × pmH) := match o with
  | none => none
  | some (.inl (pc', L', S', g')) => pmV M pc' L' S' g'
  | some (.inr (.inl (N, as, pc', L', R))) => (pmV N 0 (pmEnt N.2.2.2.1 as) [] g).bind (fun q => pmV M pc' L' (q.1.toList ++ R) q.2)
  | some (.inr (.inr v)) => some (v, g)
theorem pmV_step (M : pmM) (pc : Nat) (L : pmL) (S : List Value) (g : pmH) : pmV M pc L S g = pmU M g (pmS M pc L S g) := by
  refine Option.ext fun r => ?_
  rw [pmV_iff]
  constructor
  · rintro ⟨n, h⟩
    cases n with
    | zero => simp [pmX] at h
    | succ n =>
      unfold pmX at h
      unfold pmU
      split at h
      · cases h
      · rename_i hs
        exact pmV_iff.mpr ⟨n, h⟩
      · rename_i hs
        split at h
        · cases h
        · rename_i hv
          rw [pmV_iff.mpr ⟨n, hv⟩]
          exact pmV_iff.mpr ⟨n, h⟩
      · rename_i hs
        exact h
  · intro h
    unfold pmU at h
    split at h
    · cases h
    · rename_i hs
      obtain ⟨n, hn⟩ := pmV_iff.mp h
      exact ⟨n + 1, by unfold pmX; rw [hs]; exact hn⟩
    · rename_i hs
      obtain ⟨q, hq, hr⟩ := Option.bind_eq_some_iff.mp h
      obtain ⟨n, hn⟩ := pmV_iff.mp hq
      obtain ⟨k, hk⟩ := pmV_iff.mp hr
      refine ⟨max n k + 1, ?_⟩
      unfold pmX
      rw [hs]
      simp only
      rw [pmX_le hn (Nat.le_max_left n k)]
      exact pmX_le hk (Nat.le_max_right n k)
    · rename_i hs
      exact ⟨1, by unfold pmX; rw [hs]; exact h⟩
