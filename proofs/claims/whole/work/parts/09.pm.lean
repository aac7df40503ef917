/-! ===== the pure machine: what the bytecode does to a list of cells; reference k of it is cell k (0: the script, 1 and 2: the two static tables) ===== -/
/-- a method: its name, its own number, its code, its locals, what it returns, its rank (calls go down in rank) -/
abbrev pmM : Type := MethodName × Nat × ByteArray × Nat × Option FieldType × Nat
abbrev pmL : Type := List (Option Value)
abbrev pmH : Type := List va_E
abbrev pmR : Type := (Nat × pmL × List Value × pmH) ⊕ (pmM × List Value × Nat × pmL × List Value) ⊕ Option Value
def mX0_init : pmM := (yX0_init, 0, cX0_init, 3, none, 3)
def mX0_forget : pmM := (yX0_forget, 0, cX0_forget, 1, none, 1)
def mX0_remember : pmM := (yX0_remember, 0, cX0_remember, 2, none, 3)
def mX0_takeBack : pmM := (yX0_takeBack, 0, cX0_takeBack, 2, none, 3)
def mX1_init : pmM := (yX1_init, 1, cX1_init, 1, none, 1)
def mX1_holdAt : pmM := (yX1_holdAt, 1, cX1_holdAt, 4, none, 1)
def mX1_takeFrom : pmM := (yX1_takeFrom, 1, cX1_takeFrom, 2, none, 1)
def mX1_goBy : pmM := (yX1_goBy, 1, cX1_goBy, 4, none, 2)
def mX1_goOneCell : pmM := (yX1_goOneCell, 1, cX1_goOneCell, 3, none, 1)
def mX1_catchIn : pmM := (yX1_catchIn, 1, cX1_catchIn, 3, none, 1)
def mX1_leaveHedge : pmM := (yX1_leaveHedge, 1, cX1_leaveHedge, 2, none, 1)
def mX2_init : pmM := (yX2_init, 2, cX2_init, 3, none, 1)
def mX2_tryAllPairs : pmM := (yX2_tryAllPairs, 2, cX2_tryAllPairs, 5, none, 6)
def mX2_caughtTogether : pmM := (yX2_caughtTogether, 2, cX2_caughtTogether, 3, (some .boolean), 3)
def mX2_ownJoy : pmM := (yX2_ownJoy, 2, cX2_ownJoy, 2, (some .int), 5)
def mX2_isAtRest : pmM := (yX2_isAtRest, 2, cX2_isAtRest, 2, (some .boolean), 1)
def mX2_howManyRest : pmM := (yX2_howManyRest, 2, cX2_howManyRest, 3, (some .int), 2)
def mX2_firstAtRest : pmM := (yX2_firstAtRest, 2, cX2_firstAtRest, 2, (some .int), 2)
def mX3_init : pmM := (yX3_init, 3, cX3_init, 3, none, 1)
def mX3_waysCaught : pmM := (yX3_waysCaught, 3, cX3_waysCaught, 9, (some .int), 6)
def mX3_isCaughtIf : pmM := (yX3_isCaughtIf, 3, cX3_isCaughtIf, 6, (some .boolean), 5)
def mX3_gladOverYears : pmM := (yX3_gladOverYears, 3, cX3_gladOverYears, 4, (some .int), 6)
def mX3_doIfItCanBe : pmM := (yX3_doIfItCanBe, 3, cX3_doIfItCanBe, 2, none, 5)
def mX4_init : pmM := (yX4_init, 4, cX4_init, 1, none, 1)
def mX4_clear : pmM := (yX4_clear, 4, cX4_clear, 1, none, 1)
def mX4_windOf : pmM := (yX4_windOf, 4, cX4_windOf, 2, (some .int), 2)
def mX4_hasHedge : pmM := (yX4_hasHedge, 4, cX4_hasHedge, 2, (some .boolean), 1)
def mX4_hedgeAt : pmM := (yX4_hedgeAt, 4, cX4_hedgeAt, 3, (some .int), 1)
def mX5_init : pmM := (yX5_init, 5, cX5_init, 2, none, 2)
def mX5_add : pmM := (yX5_add, 5, cX5_add, 3, none, 1)
def mX5_cellsOfLetting : pmM := (yX5_cellsOfLetting, 5, cX5_cellsOfLetting, 4, (some .int), 4)
def mX5_agreesFrom : pmM := (yX5_agreesFrom, 5, cX5_agreesFrom, 4, (some .boolean), 3)
def mX5_agreesBehind : pmM := (yX5_agreesBehind, 5, cX5_agreesBehind, 3, (some .boolean), 1)
def mX6_init : pmM := (yX6_init, 6, cX6_init, 3, none, 1)
def mX6_lookAhead : pmM := (yX6_lookAhead, 6, cX6_lookAhead, 2, none, 5)
def mX6_hoursToAnswer : pmM := (yX6_hoursToAnswer, 6, cX6_hoursToAnswer, 3, (some .int), 5)
def mX6_hoursToLetting : pmM := (yX6_hoursToLetting, 6, cX6_hoursToLetting, 3, (some .int), 6)
def mX6_endsWellIfLetIn : pmM := (yX6_endsWellIfLetIn, 6, cX6_endsWellIfLetIn, 4, (some .boolean), 5)
def mX6_firstThatCannotBe : pmM := (yX6_firstThatCannotBe, 6, cX6_firstThatCannotBe, 6, (some .int), 6)
def mX6_canBe : pmM := (yX6_canBe, 6, cX6_canBe, 4, (some .boolean), 5)
def mX7_init : pmM := (yX7_init, 7, cX7_init, 2, none, 1)
def mX7_read : pmM := (yX7_read, 7, cX7_read, 4, (some .int), 4)
def mX7_takes : pmM := (yX7_takes, 7, cX7_takes, 2, (some .boolean), 3)
def mX7_opensPart : pmM := (yX7_opensPart, 7, cX7_opensPart, 2, (some .boolean), 1)
def mX7_takesWind : pmM := (yX7_takesWind, 7, cX7_takesWind, 2, (some .boolean), 1)
def mX7_takesStart : pmM := (yX7_takesStart, 7, cX7_takesStart, 2, (some .boolean), 1)
def mX7_takesOfBalloon : pmM := (yX7_takesOfBalloon, 7, cX7_takesOfBalloon, 2, (some .boolean), 1)
def mX7_takesHedgeCell : pmM := (yX7_takesHedgeCell, 7, cX7_takesHedgeCell, 2, (some .boolean), 2)
def mX7_takesOfHedge : pmM := (yX7_takesOfHedge, 7, cX7_takesOfHedge, 2, (some .boolean), 1)
def mX8_init : pmM := (yX8_init, 8, cX8_init, 3, none, 1)
def mX8_sumOverOrders : pmM := (yX8_sumOverOrders, 8, cX8_sumOverOrders, 7, (some .int), 6)
def mX8_weighAllSets : pmM := (yX8_weighAllSets, 8, cX8_weighAllSets, 3, none, 5)
def mX9_init : pmM := (yX9_init, 9, cX9_init, 2, none, 1)
def mX9_tryAllOrders : pmM := (yX9_tryAllOrders, 9, cX9_tryAllOrders, 5, none, 4)
def mX9_layOut : pmM := (yX9_layOut, 9, cX9_layOut, 8, (some .int), 1)
def mX9_gladByOrder : pmM := (yX9_gladByOrder, 9, cX9_gladByOrder, 3, (some .int), 3)
def mX10_init : pmM := (yX10_init, 10, cX10_init, 3, none, 2)
def mX10_begin : pmM := (yX10_begin, 10, cX10_begin, 2, none, 2)
def mX10_takeFrom : pmM := (yX10_takeFrom, 10, cX10_takeFrom, 3, none, 2)
def mX10_hasBalloon : pmM := (yX10_hasBalloon, 10, cX10_hasBalloon, 2, (some .boolean), 1)
def mX10_is : pmM := (yX10_is, 10, cX10_is, 3, (some .boolean), 2)
def mX10_letGo : pmM := (yX10_letGo, 10, cX10_letGo, 2, (some .boolean), 3)
def mX10_setFree : pmM := (yX10_setFree, 10, cX10_setFree, 2, (some .boolean), 3)
def mX10_putRight : pmM := (yX10_putRight, 10, cX10_putRight, 4, (some .boolean), 2)
def mX10_passHour : pmM := (yX10_passHour, 10, cX10_passHour, 1, (some .int), 4)
def mX10_passHours : pmM := (yX10_passHours, 10, cX10_passHours, 3, none, 4)
def mX10_passHourBy : pmM := (yX10_passHourBy, 10, cX10_passHourBy, 4, (some .int), 3)
def mX10_catches : pmM := (yX10_catches, 10, cX10_catches, 3, (some .boolean), 2)
def mX10_stands : pmM := (yX10_stands, 10, cX10_stands, 2, (some .boolean), 1)
def mX10_leaveStanding : pmM := (yX10_leaveStanding, 10, cX10_leaveStanding, 3, none, 2)
def mX10_whatCame : pmM := (yX10_whatCame, 10, cX10_whatCame, 3, (some .int), 1)
def mX10_isAnswered : pmM := (yX10_isAnswered, 10, cX10_isAnswered, 2, (some .boolean), 2)
def mX10_gladdens : pmM := (yX10_gladdens, 10, cX10_gladdens, 3, (some .boolean), 2)
def mX10_isGlad : pmM := (yX10_isGlad, 10, cX10_isGlad, 2, (some .boolean), 4)
def mX10_gladChildren : pmM := (yX10_gladChildren, 10, cX10_gladChildren, 3, (some .int), 3)
def mX10_answeredBalloons : pmM := (yX10_answeredBalloons, 10, cX10_answeredBalloons, 3, (some .int), 3)
def mX10_allThatAre : pmM := (yX10_allThatAre, 10, cX10_allThatAre, 4, (some .int), 1)
def mX10_caughtIn : pmM := (yX10_caughtIn, 10, cX10_caughtIn, 4, (some .int), 1)
def mX11_init : pmM := (yX11_init, 11, cX11_init, 2, none, 4)
def mX11_write : pmM := (yX11_write, 11, cX11_write, 2, (some .int), 1)
def mX11_wipe : pmM := (yX11_wipe, 11, cX11_wipe, 2, (some .int), 1)
def mX11_fault : pmM := (yX11_fault, 11, cX11_fault, 1, (some .int), 5)
def mX11_city : pmM := (yX11_city, 11, cX11_city, 2, (some .int), 5)
def mX11_balloon : pmM := (yX11_balloon, 11, cX11_balloon, 4, (some .int), 5)
def mX11_hedge : pmM := (yX11_hedge, 11, cX11_hedge, 3, (some .int), 2)
def mX11_let : pmM := (yX11_let, 11, cX11_let, 2, (some .int), 4)
def mX11_hour : pmM := (yX11_hour, 11, cX11_hour, 1, (some .int), 5)
def mX11_free : pmM := (yX11_free, 11, cX11_free, 3, (some .int), 4)
def mX11_right : pmM := (yX11_right, 11, cX11_right, 3, (some .int), 4)
def mX11_undo : pmM := (yX11_undo, 11, cX11_undo, 1, (some .int), 4)
def mX11_later : pmM := (yX11_later, 11, cX11_later, 5, (some .int), 6)
def mX11_comes : pmM := (yX11_comes, 11, cX11_comes, 2, (some .int), 6)
def mX11_best : pmM := (yX11_best, 11, cX11_best, 2, (some .int), 7)
def mX11_most : pmM := (yX11_most, 11, cX11_most, 2, (some .int), 6)
def mX11_judge : pmM := (yX11_judge, 11, cX11_judge, 4, (some .int), 7)
def mX11_find : pmM := (yX11_find, 11, cX11_find, 3, (some .int), 2)
def mX11_lose : pmM := (yX11_lose, 11, cX11_lose, 2, (some .int), 1)
def mX11_began : pmM := (yX11_began, 11, cX11_began, 2, (some .int), 5)
def mX11_share : pmM := (yX11_share, 11, cX11_share, 4, (some .int), 7)
def mX11_rests : pmM := (yX11_rests, 11, cX11_rests, 4, (some .int), 7)
def mX11_fails : pmM := (yX11_fails, 11, cX11_fails, 7, (some .int), 7)
def mX11_seed : pmM := (yX11_seed, 11, cX11_seed, 5, (some .long), 1)
def mX11_years : pmM := (yX11_years, 11, cX11_years, 2, (some .int), 7)
def mX11_keep : pmM := (yX11_keep, 11, cX11_keep, 2, (some .int), 3)
def mX11_again : pmM := (yX11_again, 11, cX11_again, 2, (some .int), 3)
def mX11_count : pmM := (yX11_count, 11, cX11_count, 2, (some .int), 4)
def mX11_power : pmM := (yX11_power, 11, cX11_power, 4, (some .int), 1)
def mX11_inLeastTerms : pmM := (yX11_inLeastTerms, 11, cX11_inLeastTerms, 4, (some .int), 2)
def mX11_greatestCommon : pmM := (yX11_greatestCommon, 11, cX11_greatestCommon, 6, (some .int), 1)
def mX12_init : pmM := (yX12_init, 12, cX12_init, 1, none, 1)
def mX12_in : pmM := (yX12_in, 12, cX12_in, 6, (some .boolean), 1)
def mX12_has : pmM := (yX12_has, 12, cX12_has, 2, (some .boolean), 1)
def mX12_ones : pmM := (yX12_ones, 12, cX12_ones, 3, (some .int), 1)
def mX12_write : pmM := (yX12_write, 12, cX12_write, 2, (some .int), 2)
def mX12_wipe : pmM := (yX12_wipe, 12, cX12_wipe, 2, (some .int), 1)
def mX12_cellOf : pmM := (yX12_cellOf, 12, cX12_cellOf, 4, (some .int), 2)
def mX12_figureOf : pmM := (yX12_figureOf, 12, cX12_figureOf, 4, (some .int), 2)
def mX12_readText : pmM := (yX12_readText, 12, cX12_readText, 1, (some .int), 4)
def mX12_readPart : pmM := (yX12_readPart, 12, cX12_readPart, 2, none, 3)
def mX12_fault : pmM := (yX12_fault, 12, cX12_fault, 1, (some .int), 5)
def mX12_city : pmM := (yX12_city, 12, cX12_city, 2, (some .int), 5)
def mX12_isBalloon : pmM := (yX12_isBalloon, 12, cX12_isBalloon, 2, (some .boolean), 2)
def mX12_isHedge : pmM := (yX12_isHedge, 12, cX12_isHedge, 2, (some .boolean), 2)
def mX12_isCell : pmM := (yX12_isCell, 12, cX12_isCell, 1, (some .boolean), 2)
def mX12_windOf : pmM := (yX12_windOf, 12, cX12_windOf, 2, (some .int), 1)
def mX12_blown : pmM := (yX12_blown, 12, cX12_blown, 2, (some .int), 1)
def mX12_hedgeAt : pmM := (yX12_hedgeAt, 12, cX12_hedgeAt, 3, (some .int), 2)
def mX12_goOne : pmM := (yX12_goOne, 12, cX12_goOne, 6, none, 2)
def mX12_go : pmM := (yX12_go, 12, cX12_go, 6, none, 3)
def mX12_passOn : pmM := (yX12_passOn, 12, cX12_passOn, 8, (some .int), 4)
def mX12_whoIs : pmM := (yX12_whoIs, 12, cX12_whoIs, 5, (some .int), 1)
def mX12_isAnswered : pmM := (yX12_isAnswered, 12, cX12_isAnswered, 4, (some .boolean), 1)
def mX12_answered : pmM := (yX12_answered, 12, cX12_answered, 4, (some .int), 2)
def mX12_brings : pmM := (yX12_brings, 12, cX12_brings, 3, (some .int), 2)
def mX12_glad : pmM := (yX12_glad, 12, cX12_glad, 5, (some .int), 3)
def mX12_balloon : pmM := (yX12_balloon, 12, cX12_balloon, 3, (some .int), 4)
def mX12_caughtIn : pmM := (yX12_caughtIn, 12, cX12_caughtIn, 4, (some .int), 1)
def mX12_hedge : pmM := (yX12_hedge, 12, cX12_hedge, 3, (some .int), 3)
def mX12_keepAct : pmM := (yX12_keepAct, 12, cX12_keepAct, 2, none, 1)
def mX12_let : pmM := (yX12_let, 12, cX12_let, 2, (some .int), 3)
def mX12_hour : pmM := (yX12_hour, 12, cX12_hour, 1, (some .int), 5)
def mX12_free : pmM := (yX12_free, 12, cX12_free, 2, (some .int), 3)
def mX12_exchange : pmM := (yX12_exchange, 12, cX12_exchange, 6, none, 1)
def mX12_right : pmM := (yX12_right, 12, cX12_right, 3, (some .int), 4)
def mX12_undo : pmM := (yX12_undo, 12, cX12_undo, 2, (some .int), 1)
def mX12_layTrial : pmM := (yX12_layTrial, 12, cX12_layTrial, 2, none, 1)
def mX12_goOn : pmM := (yX12_goOn, 12, cX12_goOn, 3, none, 5)
def mX12_later : pmM := (yX12_later, 12, cX12_later, 4, (some .int), 6)
def mX12_comes : pmM := (yX12_comes, 12, cX12_comes, 3, (some .int), 5)
def mX12_isWellLet : pmM := (yX12_isWellLet, 12, cX12_isWellLet, 3, (some .boolean), 6)
def mX12_best : pmM := (yX12_best, 12, cX12_best, 3, (some .int), 7)
def mX12_isOrder : pmM := (yX12_isOrder, 12, cX12_isOrder, 5, (some .boolean), 1)
def mX12_gladBy : pmM := (yX12_gladBy, 12, cX12_gladBy, 3, (some .int), 1)
def mX12_exchanges : pmM := (yX12_exchanges, 12, cX12_exchanges, 6, (some .int), 2)
def mX12_balloonTo : pmM := (yX12_balloonTo, 12, cX12_balloonTo, 4, (some .int), 1)
def mX12_most : pmM := (yX12_most, 12, cX12_most, 7, (some .int), 6)
def mX12_tryThing : pmM := (yX12_tryThing, 12, cX12_tryThing, 7, (some .boolean), 5)
def mX12_thousandTo : pmM := (yX12_thousandTo, 12, cX12_thousandTo, 4, (some .long), 1)
def mX12_judge : pmM := (yX12_judge, 12, cX12_judge, 6, (some .int), 6)
def mX12_find : pmM := (yX12_find, 12, cX12_find, 3, (some .int), 3)
def mX12_lose : pmM := (yX12_lose, 12, cX12_lose, 2, (some .int), 1)
def mX12_behind : pmM := (yX12_behind, 12, cX12_behind, 8, (some .int), 2)
def mX12_began : pmM := (yX12_began, 12, cX12_began, 6, (some .int), 3)
def mX12_factorial : pmM := (yX12_factorial, 12, cX12_factorial, 3, (some .int), 1)
def mX12_common : pmM := (yX12_common, 12, cX12_common, 5, (some .int), 1)
def mX12_gladOf : pmM := (yX12_gladOf, 12, cX12_gladOf, 4, (some .int), 6)
def mX12_share : pmM := (yX12_share, 12, cX12_share, 6, (some .int), 7)
def mX12_gain : pmM := (yX12_gain, 12, cX12_gain, 7, (some .int), 6)
def mX12_isRest : pmM := (yX12_isRest, 12, cX12_isRest, 5, (some .boolean), 7)
def mX12_rests : pmM := (yX12_rests, 12, cX12_rests, 7, (some .int), 8)
def mX12_power : pmM := (yX12_power, 12, cX12_power, 4, (some .int), 1)
def mX12_fails : pmM := (yX12_fails, 12, cX12_fails, 11, (some .int), 5)
def mX12_seed : pmM := (yX12_seed, 12, cX12_seed, 5, (some .long), 1)
def mX12_years : pmM := (yX12_years, 12, cX12_years, 5, (some .int), 6)
def mX12_keep : pmM := (yX12_keep, 12, cX12_keep, 3, (some .int), 2)
def mX12_again : pmM := (yX12_again, 12, cX12_again, 3, (some .int), 2)
def mX12_count : pmM := (yX12_count, 12, cX12_count, 2, (some .int), 4)
def mJ6_bitCount_0f7a4 : pmM := (yJ6_bitCount_0f7a4, 13, cJ6_bitCount_0f7a4, 1, (some .int), 1)
def mJ9_floorMod_7cf53 : pmM := (yJ9_floorMod_7cf53, 14, cJ9_floorMod_7cf53, 3, (some .int), 1)
def mJ9_abs_0f7a4 : pmM := (yJ9_abs_0f7a4, 14, cJ9_abs_0f7a4, 1, (some .int), 1)
def mL_law : pmM := (yL_law, 15, cL_law, 4, (some .boolean), 9)
def pmFT_0 : List (Nat × Nat × Nat × Nat × Nat) := [(4, 9, 4, 0, 83), (7, 58, 4, 0, 84), (4, 15, 4, 1, 85), (10, 33, 4, 1, 86), (7, 62, 4, 1, 87), (4, 18, 4, 2, 88), (10, 37, 4, 2, 89), (7, 65, 4, 2, 90), (4, 21, 4, 3, 91), (6, 66, 4, 3, 92), (11, 141, 4, 3, 93), (7, 68, 4, 3, 94), (10, 111, 4, 3, 95), (4, 24, 4, 4, 96), (11, 162, 4, 4, 97), (7, 75, 4, 4, 98), (4, 27, 4, 5, 99), (11, 165, 4, 5, 100), (7, 78, 4, 5, 101), (10, 102, 4, 5, 102), (4, 30, 4, 6, 103), (6, 62, 4, 6, 104), (11, 168, 4, 6, 105), (7, 81, 4, 6, 106), (10, 105, 4, 6, 107), (4, 33, 4, 7, 108), (7, 49, 4, 7, 109), (11, 117, 4, 7, 110), (4, 37, 4, 8, 111), (10, 29, 4, 8, 112), (9, 35, 4, 8, 113), (7, 52, 4, 8, 114), (11, 120, 4, 8, 115), (8, 28, 4, 9, 116), (4, 40, 4, 9, 117), (7, 55, 4, 9, 118), (11, 123, 4, 9, 119), (10, 96, 4, 9, 120), (7, 9, 7, 0, 149), (7, 20, 7, 1, 150)]
def pmFT_1 : List (Nat × Nat × Nat × Nat × Nat) := [(7, 34, 7, 2, 151), (1, 15, 1, 0, 172), (11, 138, 1, 0, 173), (1, 18, 1, 1, 174), (5, 58, 1, 1, 175), (11, 133, 1, 1, 176), (10, 81, 1, 1, 177), (1, 21, 1, 2, 178), (5, 41, 1, 2, 179), (10, 52, 1, 2, 180), (11, 144, 1, 2, 181), (1, 9, 1, 3, 182), (2, 54, 1, 3, 183), (3, 49, 1, 3, 184), (6, 47, 1, 3, 185), (11, 147, 1, 3, 186), (10, 93, 1, 3, 187), (1, 24, 1, 4, 188), (10, 99, 1, 4, 189), (1, 27, 1, 5, 190), (1, 30, 1, 6, 191), (9, 51, 1, 6, 192), (11, 150, 1, 6, 193), (10, 63, 1, 6, 194), (10, 21, 10, 0, 210), (8, 22, 10, 0, 211), (9, 29, 10, 0, 212), (6, 53, 10, 0, 213), (10, 11, 10, 1, 214), (2, 50, 10, 1, 215), (9, 48, 10, 1, 216), (3, 45, 10, 1, 217), (6, 43, 10, 1, 218), (11, 130, 10, 1, 219), (10, 26, 10, 2, 220), (11, 284, 10, 2, 221), (10, 17, 10, 3, 222), (0, 11, 0, 0, 241), (0, 20, 0, 1, 242), (0, 24, 0, 2, 243)]
def pmFT_2 : List (Nat × Nat × Nat × Nat × Nat) := [(11, 206, 0, 2, 244), (6, 9, 6, 0, 258), (6, 15, 6, 1, 259), (9, 15, 9, 0, 272), (9, 9, 9, 1, 273), (9, 19, 9, 2, 274), (11, 225, 9, 2, 275), (9, 23, 9, 3, 276), (11, 228, 9, 3, 277), (5, 25, 5, 0, 295), (5, 9, 5, 1, 296), (5, 15, 5, 2, 297), (5, 21, 5, 3, 298), (5, 29, 5, 4, 299), (11, 239, 5, 4, 300), (8, 15, 8, 0, 318), (8, 19, 8, 1, 319), (8, 9, 8, 2, 320), (2, 18, 2, 0, 334), (2, 22, 2, 1, 335), (2, 11, 2, 2, 336), (2, 15, 2, 3, 337), (3, 9, 3, 0, 353), (3, 15, 3, 1, 354), (3, 55, 3, 2, 355), (11, 274, 3, 2, 356), (11, 9, 11, 0, 364), (11, 103, 11, 1, 365), (11, 16, 11, 2, 366), (11, 25, 11, 3, 367), (11, 29, 11, 4, 368), (11, 35, 11, 5, 369), (11, 39, 11, 6, 370), (11, 45, 11, 7, 371), (11, 49, 11, 8, 372), (11, 53, 11, 9, 373), (11, 62, 11, 10, 374), (11, 71, 11, 11, 375), (11, 78, 11, 12, 376), (11, 85, 11, 13, 377)]
def pmFT_3 : List (Nat × Nat × Nat × Nat × Nat) := [(11, 92, 11, 14, 378), (11, 99, 11, 15, 379), (12, 117, 12, 0, 865), (12, 120, 12, 1, 866), (12, 123, 12, 2, 867), (12, 7, 12, 3, 868), (12, 13, 12, 4, 869), (12, 16, 12, 5, 870), (12, 19, 12, 6, 871), (12, 22, 12, 7, 872), (12, 25, 12, 8, 873), (12, 28, 12, 9, 874), (12, 31, 12, 10, 875), (12, 34, 12, 11, 876), (12, 37, 12, 12, 877), (12, 90, 12, 13, 878), (12, 93, 12, 14, 879), (12, 96, 12, 15, 880), (12, 99, 12, 16, 881), (12, 40, 12, 17, 882), (12, 75, 12, 18, 883), (12, 81, 12, 19, 884), (12, 78, 12, 20, 885), (12, 43, 12, 21, 886), (12, 126, 12, 22, 887), (12, 165, 12, 23, 888), (12, 47, 12, 24, 889), (12, 50, 12, 25, 890), (12, 53, 12, 26, 891), (12, 224, 12, 27, 892), (12, 56, 12, 28, 893), (12, 59, 12, 29, 894), (12, 257, 12, 30, 895), (12, 62, 12, 31, 896), (12, 66, 12, 32, 897)]
def pmFT : List (Nat × Nat × Nat × Nat × Nat) := pmFT_0 ++ (pmFT_1 ++ (pmFT_2 ++ (pmFT_3)))
def pmST_0 : List (Nat × Nat × Nat × Nat × Nat) := [(9, 26, 1, 1, 671), (11, 231, 2, 0, 686), (6, 69, 2, 1, 692), (8, 48, 1, 1, 753), (11, 250, 1, 0, 754)]
def pmST : List (Nat × Nat × Nat × Nat × Nat) := pmST_0
def pmMT_0 : List (Nat × Nat × Nat × Nat × pmM × Nat × Nat × Nat × Nat × Nat) := [(15, 9, 2, 0, mX11_init, 71, 72, 0, 54, 73), (11, 15, 4, 0, mX4_init, 79, 80, 0, 55, 81), (11, 22, 2, 1, mX7_init, 145, 146, 0, 56, 147), (11, 34, 2, 1, mX10_init, 161, 162, 0, 57, 163), (10, 25, 4, 0, mX1_init, 168, 169, 0, 58, 170), (11, 44, 2, 1, mX0_init, 234, 235, 0, 59, 236), (0, 17, 2, 1, mX10_init, 240, 162, 0, 57, 163), (11, 59, 2, 2, mX6_init, 254, 255, 0, 60, 256), (11, 68, 2, 1, mX9_init, 268, 269, 0, 61, 270), (11, 77, 2, 1, mX5_init, 289, 290, 0, 62, 291), (5, 20, 4, 0, mX1_init, 294, 169, 0, 58, 170), (11, 84, 2, 2, mX8_init, 314, 315, 0, 63, 316), (11, 91, 2, 2, mX2_init, 330, 331, 0, 64, 332), (11, 98, 2, 2, mX3_init, 349, 350, 0, 65, 351), (15, 13, 0, 1, mX11_write, 413, 414, 415, 54, 416), (15, 18, 0, 0, mX11_wipe, 417, 418, 419, 54, 420), (15, 23, 0, 0, mX11_fault, 421, 422, 423, 54, 424), (11, 107, 0, 2, mX7_read, 425, 426, 427, 56, 428), (7, 15, 0, 0, mX4_clear, 429, 430, 431, 55, 432), (7, 24, 0, 1, mX7_takes, 433, 435, 0, 56, 436), (7, 28, 0, 1, mX7_opensPart, 437, 439, 1, 56, 440), (7, 31, 0, 1, mX7_takesWind, 441, 443, 2, 56, 444), (7, 37, 0, 1, mX7_takesStart, 445, 447, 3, 56, 448), (7, 40, 0, 1, mX7_takesOfBalloon, 449, 451, 4, 56, 452), (7, 43, 0, 1, mX7_takesHedgeCell, 453, 455, 5, 56, 456)]
def pmMT_1 : List (Nat × Nat × Nat × Nat × pmM × Nat × Nat × Nat × Nat × Nat) := [(7, 71, 0, 1, mX4_hedgeAt, 457, 458, 459, 55, 460), (7, 46, 0, 1, mX7_takesOfHedge, 461, 463, 6, 56, 464), (15, 27, 0, 0, mX11_city, 465, 466, 467, 54, 468), (11, 111, 0, 0, mX10_begin, 469, 470, 471, 57, 472), (10, 40, 0, 3, mX1_holdAt, 473, 474, 475, 58, 476), (11, 114, 0, 0, mX0_forget, 477, 478, 479, 59, 480), (15, 31, 0, 2, mX11_balloon, 481, 482, 483, 54, 484), (11, 126, 0, 1, mX10_hasBalloon, 485, 486, 487, 57, 488), (11, 153, 0, 1, mX10_isAnswered, 489, 490, 491, 57, 492), (10, 108, 0, 1, mX10_whatCame, 493, 494, 495, 57, 496), (11, 156, 0, 1, mX10_isGlad, 497, 498, 499, 57, 500), (10, 114, 0, 0, mX10_gladChildren, 501, 502, 503, 57, 504), (10, 118, 0, 2, mX10_gladdens, 505, 506, 507, 57, 508), (15, 36, 0, 2, mX11_hedge, 509, 510, 511, 54, 512), (11, 159, 0, 1, mX4_hasHedge, 513, 514, 515, 55, 516), (11, 171, 0, 1, mX10_caughtIn, 517, 518, 519, 57, 520), (15, 40, 0, 1, mX11_let, 521, 522, 523, 54, 524), (11, 175, 0, 2, mX10_is, 525, 526, 527, 57, 528), (10, 48, 0, 1, mX10_hasBalloon, 529, 486, 487, 57, 488), (11, 179, 0, 1, mX0_remember, 530, 531, 532, 59, 533), (0, 27, 0, 1, mX10_takeFrom, 534, 535, 536, 57, 537), (10, 44, 0, 1, mX1_takeFrom, 538, 539, 540, 58, 541), (11, 182, 0, 1, mX10_letGo, 542, 543, 544, 57, 545), (10, 55, 0, 2, mX10_is, 546, 526, 527, 57, 528), (11, 185, 0, 1, mX10_allThatAre, 547, 548, 549, 57, 550)]
def pmMT_2 : List (Nat × Nat × Nat × Nat × pmM × Nat × Nat × Nat × Nat × Nat) := [(11, 188, 1, 1, mJ6_bitCount_0f7a4, 551, 552, 0, 67, 553), (15, 44, 0, 0, mX11_hour, 557, 558, 559, 54, 560), (11, 193, 0, 0, mX10_passHour, 561, 562, 563, 57, 564), (10, 66, 0, 1, mX4_windOf, 565, 566, 567, 55, 568), (4, 43, 1, 2, mJ9_floorMod_7cf53, 569, 570, 0, 68, 571), (10, 70, 0, 1, mX10_passHourBy, 572, 573, 574, 57, 575), (10, 73, 0, 2, mX1_goBy, 576, 577, 578, 58, 579), (1, 33, 0, 1, mX1_goOneCell, 580, 582, 7, 58, 583), (10, 77, 0, 1, mX10_catches, 584, 586, 8, 57, 587), (10, 84, 0, 1, mX4_hedgeAt, 588, 458, 459, 55, 460), (10, 87, 0, 1, mX10_stands, 589, 591, 9, 57, 592), (10, 90, 0, 2, mX1_catchIn, 593, 594, 595, 58, 596), (15, 48, 0, 1, mX11_free, 597, 598, 599, 54, 600), (11, 197, 0, 1, mX10_setFree, 601, 602, 603, 57, 604), (10, 59, 0, 1, mX1_leaveHedge, 605, 606, 607, 58, 608), (15, 52, 0, 2, mX11_right, 609, 610, 611, 54, 612), (11, 200, 0, 2, mX10_putRight, 613, 614, 615, 57, 616), (11, 203, 0, 0, mX10_gladChildren, 617, 502, 503, 57, 504), (15, 56, 0, 0, mX11_undo, 618, 619, 620, 54, 621), (11, 209, 0, 1, mX0_takeBack, 622, 623, 624, 59, 625), (15, 60, 0, 3, mX11_later, 626, 627, 628, 54, 629), (11, 212, 0, 1, mX6_lookAhead, 630, 631, 632, 60, 633), (6, 18, 0, 1, mX10_takeFrom, 634, 535, 536, 57, 537), (6, 24, 0, 1, mX10_passHours, 635, 636, 637, 57, 638), (15, 65, 0, 1, mX11_comes, 639, 640, 641, 54, 642)]
def pmMT_3 : List (Nat × Nat × Nat × Nat × pmM × Nat × Nat × Nat × Nat × Nat) := [(11, 216, 0, 1, mX6_hoursToAnswer, 643, 644, 645, 60, 646), (6, 28, 0, 1, mX10_isAnswered, 647, 490, 491, 57, 492), (6, 32, 0, 0, mX10_passHour, 648, 562, 563, 57, 564), (15, 69, 0, 1, mX11_best, 649, 650, 651, 54, 652), (11, 219, 0, 1, mX6_hoursToLetting, 653, 654, 655, 60, 656), (6, 36, 0, 2, mX6_endsWellIfLetIn, 657, 659, 10, 60, 660), (6, 40, 0, 1, mX10_letGo, 661, 543, 544, 57, 545), (6, 57, 0, 1, mX4_hasHedge, 662, 514, 515, 55, 516), (15, 73, 0, 1, mX11_most, 663, 664, 665, 54, 666), (11, 222, 0, 0, mX9_tryAllOrders, 667, 668, 669, 61, 670), (9, 40, 0, 1, mX9_layOut, 673, 675, 11, 61, 676), (9, 44, 0, 0, mX9_gladByOrder, 677, 679, 12, 61, 680), (9, 56, 0, 2, mX10_gladdens, 681, 506, 507, 57, 508), (15, 79, 0, 2, mX11_judge, 682, 683, 684, 54, 685), (11, 235, 0, 2, mX6_firstThatCannotBe, 688, 689, 690, 60, 691), (6, 75, 0, 3, mX6_canBe, 694, 696, 13, 60, 697), (6, 79, 0, 1, mX10_setFree, 698, 602, 603, 57, 604), (6, 82, 0, 2, mX10_putRight, 699, 614, 615, 57, 616), (6, 85, 0, 1, mX10_isGlad, 700, 498, 499, 57, 500), (15, 84, 0, 2, mX11_find, 701, 702, 703, 54, 704), (11, 240, 0, 2, mX5_add, 705, 706, 707, 62, 708), (15, 88, 0, 0, mX11_lose, 709, 710, 711, 54, 712), (15, 92, 0, 1, mX11_began, 713, 714, 715, 54, 716), (11, 244, 0, 1, mX5_cellsOfLetting, 717, 718, 719, 62, 720), (5, 33, 0, 2, mX5_agreesFrom, 721, 723, 14, 62, 724)]
def pmMT_4 : List (Nat × Nat × Nat × Nat × pmM × Nat × Nat × Nat × Nat × Nat) := [(5, 37, 0, 3, mX1_holdAt, 725, 474, 475, 58, 476), (5, 44, 0, 1, mX5_agreesBehind, 726, 728, 15, 62, 729), (5, 48, 0, 1, mX4_windOf, 730, 566, 567, 55, 568), (5, 54, 0, 2, mX1_goBy, 731, 577, 578, 58, 579), (15, 96, 0, 2, mX11_share, 732, 733, 734, 54, 735), (11, 247, 0, 1, mX8_sumOverOrders, 736, 737, 738, 63, 739), (8, 34, 0, 1, mX4_hasHedge, 740, 514, 515, 55, 516), (8, 38, 0, 1, mX8_weighAllSets, 741, 743, 16, 63, 744), (8, 51, 0, 1, mX10_takeFrom, 745, 535, 536, 57, 537), (8, 55, 0, 1, mX10_leaveStanding, 746, 747, 748, 57, 749), (8, 58, 0, 1, mX10_passHours, 750, 636, 637, 57, 638), (8, 61, 0, 0, mX10_gladChildren, 751, 502, 503, 57, 504), (8, 42, 1, 1, mJ6_bitCount_0f7a4, 752, 552, 0, 67, 553), (11, 253, 1, 3, mX11_inLeastTerms, 755, 756, 0, 54, 757), (11, 293, 1, 1, mJ9_abs_0f7a4, 758, 759, 0, 68, 760), (11, 298, 1, 2, mX11_greatestCommon, 761, 762, 0, 54, 763), (15, 101, 0, 3, mX11_rests, 764, 765, 766, 54, 767), (11, 257, 0, 2, mX2_tryAllPairs, 768, 769, 770, 64, 771), (2, 25, 0, 1, mX10_takeFrom, 772, 535, 536, 57, 537), (2, 31, 0, 1, mX10_letGo, 773, 543, 544, 57, 545), (2, 35, 0, 1, mX10_passHours, 774, 636, 637, 57, 638), (2, 39, 0, 2, mX2_caughtTogether, 775, 777, 17, 64, 778), (2, 47, 0, 2, mX10_is, 779, 526, 527, 57, 528), (2, 43, 0, 1, mX2_ownJoy, 780, 782, 18, 64, 783), (2, 60, 0, 1, mX10_isGlad, 784, 498, 499, 57, 500)]
def pmMT_5 : List (Nat × Nat × Nat × Nat × pmM × Nat × Nat × Nat × Nat × Nat) := [(11, 260, 0, 0, mX2_howManyRest, 785, 786, 787, 64, 788), (2, 63, 0, 1, mX2_isAtRest, 789, 791, 19, 64, 792), (11, 263, 0, 0, mX2_firstAtRest, 793, 794, 795, 64, 796), (15, 105, 0, 5, mX11_fails, 797, 798, 799, 54, 800), (11, 266, 0, 4, mX3_waysCaught, 801, 802, 803, 65, 804), (3, 18, 1, 1, mJ6_bitCount_0f7a4, 805, 552, 0, 67, 553), (3, 24, 5, 2, mX11_power, 806, 807, 0, 54, 808), (3, 28, 0, 4, mX3_isCaughtIf, 809, 811, 20, 65, 812), (3, 32, 0, 1, mX10_takeFrom, 813, 535, 536, 57, 537), (3, 38, 0, 1, mX10_passHourBy, 814, 573, 574, 57, 575), (3, 41, 0, 0, mX10_passHour, 815, 562, 563, 57, 564), (11, 270, 1, 2, mX11_power, 816, 807, 0, 54, 808), (15, 110, 0, 1, mX11_seed, 817, 818, 819, 54, 820), (15, 115, 0, 1, mX11_years, 821, 822, 823, 54, 824), (11, 278, 0, 1, mX3_gladOverYears, 825, 826, 827, 65, 828), (3, 65, 0, 1, mX3_doIfItCanBe, 832, 834, 21, 65, 835), (3, 72, 0, 1, mX10_letGo, 836, 543, 544, 57, 545), (3, 76, 0, 1, mX10_setFree, 837, 602, 603, 57, 604), (3, 79, 0, 2, mX10_putRight, 838, 614, 615, 57, 616), (3, 69, 0, 0, mX10_gladChildren, 839, 502, 503, 57, 504), (15, 119, 0, 1, mX11_keep, 840, 841, 842, 54, 843), (11, 281, 0, 1, mX10_takeFrom, 844, 535, 536, 57, 537), (15, 123, 0, 1, mX11_again, 845, 846, 847, 54, 848), (15, 127, 0, 1, mX11_count, 849, 850, 851, 54, 852), (11, 287, 0, 1, mX4_windOf, 853, 566, 567, 55, 568)]
def pmMT_6 : List (Nat × Nat × Nat × Nat × pmM × Nat × Nat × Nat × Nat × Nat) := [(11, 290, 0, 0, mX10_answeredBalloons, 854, 855, 856, 57, 857), (10, 121, 0, 1, mX10_isAnswered, 858, 490, 491, 57, 492), (15, 12, 2, 0, mX12_init, 861, 862, 0, 66, 863), (15, 17, 0, 1, mX12_write, 965, 966, 967, 66, 968), (12, 71, 1, 3, mX12_in, 970, 971, 0, 66, 972), (15, 22, 0, 0, mX12_wipe, 973, 974, 975, 66, 976), (15, 26, 0, 0, mX12_fault, 977, 978, 979, 66, 980), (12, 113, 0, 0, mX12_readText, 981, 983, 22, 66, 984), (12, 102, 0, 1, mX12_readPart, 985, 987, 23, 66, 988), (12, 106, 0, 1, mX12_figureOf, 989, 991, 24, 66, 992), (12, 110, 0, 1, mX12_cellOf, 993, 995, 25, 66, 996), (12, 86, 1, 2, mX12_has, 998, 999, 0, 66, 1000), (15, 30, 0, 0, mX12_city, 1001, 1002, 1003, 66, 1004), (15, 35, 0, 2, mX12_balloon, 1005, 1006, 1007, 66, 1008), (12, 152, 0, 1, mX12_isBalloon, 1009, 1011, 26, 66, 1012), (12, 146, 0, 2, mX12_isAnswered, 1013, 1015, 27, 66, 1016), (12, 156, 0, 1, mX12_glad, 1017, 1019, 28, 66, 1020), (12, 149, 0, 2, mX12_brings, 1021, 1023, 29, 66, 1024), (15, 39, 0, 2, mX12_hedge, 1025, 1026, 1027, 66, 1028), (12, 159, 0, 1, mX12_isHedge, 1029, 1031, 30, 66, 1032), (12, 162, 0, 1, mX12_caughtIn, 1033, 1035, 31, 66, 1036), (15, 43, 0, 1, mX12_let, 1037, 1038, 1039, 66, 1040), (12, 168, 0, 0, mX12_keepAct, 1041, 1043, 32, 66, 1044), (12, 171, 0, 2, mX12_whoIs, 1045, 1047, 33, 66, 1048), (12, 174, 1, 1, mX12_ones, 1049, 1050, 0, 66, 1051)]
def pmMT_7 : List (Nat × Nat × Nat × Nat × pmM × Nat × Nat × Nat × Nat × Nat) := [(15, 47, 0, 0, mX12_hour, 1052, 1053, 1054, 66, 1055), (12, 177, 0, 2, mX12_passOn, 1056, 1058, 34, 66, 1059), (12, 137, 0, 1, mX12_windOf, 1060, 1062, 35, 66, 1063), (12, 140, 0, 3, mX12_go, 1064, 1066, 36, 66, 1067), (12, 133, 0, 3, mX12_goOne, 1068, 1070, 37, 66, 1071), (12, 129, 1, 2, mX12_blown, 1072, 1073, 0, 66, 1074), (12, 143, 0, 1, mX12_hedgeAt, 1075, 1077, 38, 66, 1078), (15, 51, 0, 1, mX12_free, 1079, 1080, 1081, 66, 1082), (15, 55, 0, 2, mX12_right, 1083, 1084, 1085, 66, 1086), (12, 181, 0, 3, mX12_exchange, 1087, 1089, 39, 66, 1090), (15, 59, 0, 0, mX12_undo, 1091, 1092, 1093, 66, 1094), (15, 64, 0, 3, mX12_later, 1095, 1096, 1097, 66, 1098), (12, 186, 0, 0, mX12_layTrial, 1100, 1102, 40, 66, 1103), (12, 189, 0, 1, mX12_goOn, 1104, 1106, 41, 66, 1107), (15, 68, 0, 1, mX12_comes, 1108, 1109, 1110, 66, 1111), (15, 72, 0, 1, mX12_best, 1112, 1113, 1114, 66, 1115), (12, 192, 0, 2, mX12_isWellLet, 1116, 1118, 42, 66, 1119), (15, 76, 0, 1, mX12_most, 1120, 1121, 1122, 66, 1123), (12, 198, 0, 1, mX12_isOrder, 1124, 1126, 43, 66, 1127), (12, 201, 0, 0, mX12_gladBy, 1128, 1130, 44, 66, 1131), (12, 204, 0, 0, mX12_exchanges, 1132, 1134, 45, 66, 1135), (12, 195, 0, 1, mX12_balloonTo, 1136, 1138, 46, 66, 1139), (15, 83, 0, 2, mX12_judge, 1140, 1141, 1142, 66, 1143), (12, 211, 1, 1, mX12_thousandTo, 1145, 1146, 0, 66, 1147), (12, 215, 0, 3, mX12_tryThing, 1149, 1151, 47, 66, 1152)]
def pmMT_8 : List (Nat × Nat × Nat × Nat × pmM × Nat × Nat × Nat × Nat × Nat) := [(15, 87, 0, 2, mX12_find, 1153, 1154, 1155, 66, 1156), (12, 219, 1, 1, mX12_isCell, 1157, 1158, 0, 66, 1159), (15, 91, 0, 0, mX12_lose, 1161, 1162, 1163, 66, 1164), (15, 95, 0, 1, mX12_began, 1165, 1166, 1167, 66, 1168), (12, 229, 0, 3, mX12_behind, 1170, 1172, 48, 66, 1173), (15, 100, 0, 2, mX12_share, 1174, 1175, 1176, 66, 1177), (12, 233, 1, 1, mX12_factorial, 1178, 1179, 0, 66, 1180), (12, 236, 0, 1, mX12_gladOf, 1181, 1183, 49, 66, 1184), (12, 239, 1, 2, mX12_common, 1185, 1186, 0, 66, 1187), (15, 104, 0, 3, mX12_rests, 1188, 1189, 1190, 66, 1191), (12, 246, 0, 4, mX12_isRest, 1192, 1194, 50, 66, 1195), (12, 242, 0, 4, mX12_gain, 1196, 1198, 51, 66, 1199), (15, 109, 0, 5, mX12_fails, 1200, 1201, 1202, 66, 1203), (12, 254, 1, 2, mX12_power, 1206, 1207, 0, 66, 1208), (15, 114, 0, 1, mX12_seed, 1209, 1210, 1211, 66, 1212), (15, 118, 0, 1, mX12_years, 1213, 1214, 1215, 66, 1216), (15, 122, 0, 1, mX12_keep, 1221, 1222, 1223, 66, 1224), (15, 126, 0, 1, mX12_again, 1225, 1226, 1227, 66, 1228), (15, 130, 0, 1, mX12_count, 1229, 1230, 1231, 66, 1232), (12, 269, 0, 1, mX12_answered, 1233, 1235, 52, 66, 1236)]
def pmMT : List (Nat × Nat × Nat × Nat × pmM × Nat × Nat × Nat × Nat × Nat) := pmMT_0 ++ (pmMT_1 ++ (pmMT_2 ++ (pmMT_3 ++ (pmMT_4 ++ (pmMT_5 ++ (pmMT_6 ++ (pmMT_7 ++ (pmMT_8))))))))
def pmOT_0 : List (Nat × Nat × Nat) := [(11, 1, 74), (4, 3, 82), (7, 3, 148), (10, 3, 164), (1, 3, 171), (0, 3, 237), (6, 3, 257), (9, 3, 271), (5, 3, 292), (8, 3, 317), (2, 3, 333), (3, 3, 352), (12, 1, 864)]
def pmOT : List (Nat × Nat × Nat) := pmOT_0
def pmCT_0 : List (Nat × Nat × Nat × Nat) := [(15, 7, 11, 69), (11, 13, 4, 77), (11, 20, 7, 143), (11, 32, 10, 159), (10, 9, 1, 165), (11, 42, 0, 232), (0, 9, 10, 238), (11, 57, 6, 252), (11, 66, 9, 266), (11, 75, 5, 287), (5, 18, 1, 293), (11, 82, 8, 312), (11, 89, 2, 328), (11, 96, 3, 347), (15, 10, 12, 859)]
def pmCT : List (Nat × Nat × Nat × Nat) := pmCT_0
def pmCI_0 : List (Nat × Nat × Int32 × Nat) := [(13, 265, 1431655765, 554), (13, 266, 858993459, 555), (13, 267, 252645135, 556)]
def pmCI : List (Nat × Nat × Int32 × Nat) := pmCI_0
def pmCJ_0 : List (Nat × Nat × Int64 × Nat) := [(6, 73, 1000, 693), (3, 59, 6364136223846793005, 829), (3, 61, 1442695040888963407, 830), (3, 63, 24, 831), (12, 69, 255, 969), (12, 84, 19, 997), (12, 184, 20, 1099), (12, 209, 4, 1144), (12, 207, 1000, 1148), (12, 222, 9, 1160), (12, 227, 3, 1169), (12, 250, 6, 1204), (12, 252, 10, 1205), (12, 261, 30, 1217), (12, 263, 6364136223846793005, 1218), (12, 265, 1442695040888963407, 1219), (12, 267, 24, 1220), (15, 77, 4294967295, 1237)]
def pmCJ : List (Nat × Nat × Int64 × Nat) := pmCJ_0
def pmCN (n : Nat) : String := ([RX0, RX1, RX2, RX3, RX4, RX5, RX6, RX7, RX8, RX9, RX10, RX11, RX12, RJ6, RJ9, RL]).getD n ""
def pmTX (n : Nat) : u_T := ([TX0, TX1, TX2, TX3, TX4, TX5, TX6, TX7, TX8, TX9, TX10, TX11, TX12]).getD n TX0
def pmTy (n : Nat) : Nat → FieldType := ([tyX0, tyX1, tyX2, tyX3, tyX4, tyX5, tyX6, tyX7, tyX8, tyX9, tyX10, tyX11, tyX12]).getD n tyX0
def pmNF (n : Nat) : Nat := ([3, 7, 4, 3, 10, 5, 2, 3, 3, 4, 4, 16, 33]).getD n 0
def pmFld (o i : Nat) : Option (Nat × Nat × Nat) := (pmFT.find? (fun e => e.1 == o && e.2.1 == i)).map (fun e => e.2.2)
def pmSta (o i : Nat) : Option (Nat × Nat × Nat) := (pmST.find? (fun e => e.1 == o && e.2.1 == i)).map (fun e => e.2.2)
def pmMth (o i : Nat) : Option (Nat × Nat × pmM × Nat × Nat × Nat × Nat × Nat) := (pmMT.find? (fun e => e.1 == o && e.2.1 == i)).map (fun e => e.2.2)
def pmObj (o i : Nat) : Option Nat := (pmOT.find? (fun e => e.1 == o && e.2.1 == i)).map (fun e => e.2.2)
def pmCls (o i : Nat) : Option (Nat × Nat) := (pmCT.find? (fun e => e.1 == o && e.2.1 == i)).map (fun e => e.2.2)
def pmKI (o i : Nat) : Option (Int32 × Nat) := (pmCI.find? (fun e => e.1 == o && e.2.1 == i)).map (fun e => e.2.2)
def pmKJ (o i : Nat) : Option (Int64 × Nat) := (pmCJ.find? (fun e => e.1 == o && e.2.1 == i)).map (fun e => e.2.2)
def pmLd (L : pmL) (i : Nat) : Option Value := (L[i]?).getD none
def pmNL (L : pmL) (i : Nat) : Bool := match i with
  | 0 => true
  | j + 1 => match (L[j]?).getD none with
    | some v => v.category == 1
    | none => true
def pmS1 (L : pmL) (i : Nat) (v : Value) : Option pmL := if i < L.length ∧ pmNL L i = true then some (L.set i (some v)) else none
def pmS2 (L : pmL) (i : Nat) (v : Value) : Option pmL := if i + 1 < L.length ∧ pmNL L i = true then some ((L.set i (some v)).set (i + 1) none) else none
def pmIn (i : Int32) (n : Nat) : Bool := decide (¬ (i < 0 ∨ n ≤ i.toNatClampNeg))
def pmT (pc : Nat) (off : Int) : Option Nat := if 0 ≤ (pc : Int) + off then some ((pc : Int) + off).toNat else none
def pmSl (as : List Value) : pmL := as.flatMap (fun v => if v.category = 2 then [some v, none] else [some v])
def pmEnt (n : Nat) (as : List Value) : pmL := pmSl as ++ List.replicate (n - (pmSl as).length) none
def pmFit (ty : FieldType) (v : Value) : Bool := match ty, v with
  | .int, .int _ => true
  | .long, .long _ => true
  | .object _, .ref _ => true
  | .array _, .ref _ => true
  | _, _ => false
def pmDef (ci : Nat) : List Value := (List.range (pmNF ci)).map (fun k => defaultValue (pmTy ci k))
def pmCmp (c : Jvm.ClassFile.Cond) (x y : Int32) : Bool := match c with
  | .eq => decide (x = y)
  | .ne => decide (¬ x = y)
  | .lt => decide (x < y)
  | .ge => decide (y ≤ x)
  | .gt => decide (y < x)
  | .le => decide (x ≤ y)
def pmNx (pc : Nat) (L : pmL) (S : List Value) (g : pmH) : Option pmR := some (.inl (pc, L, S, g))
def pmII (pc : Nat) (L : pmL) (S : List Value) (g : pmH) (f : Int32 → Int32 → Int32) : Option pmR := match S with
  | .int y :: .int x :: R => pmNx (pc + 1) L (.int (f x y) :: R) g
  | _ => none
def pmIIz (pc : Nat) (L : pmL) (S : List Value) (g : pmH) (f : Int32 → Int32 → Int32) : Option pmR := match S with
  | .int y :: .int x :: R => if y = 0 then none else pmNx (pc + 1) L (.int (f x y) :: R) g
  | _ => none
def pmJJ (pc : Nat) (L : pmL) (S : List Value) (g : pmH) (f : Int64 → Int64 → Int64) : Option pmR := match S with
  | .long y :: .long x :: R => pmNx (pc + 1) L (.long (f x y) :: R) g
  | _ => none
def pmJJz (pc : Nat) (L : pmL) (S : List Value) (g : pmH) (f : Int64 → Int64 → Int64) : Option pmR := match S with
  | .long y :: .long x :: R => if y = 0 then none else pmNx (pc + 1) L (.long (f x y) :: R) g
  | _ => none
def pmJI (pc : Nat) (L : pmL) (S : List Value) (g : pmH) (f : Int64 → Int32 → Int64) : Option pmR := match S with
  | .int y :: .long x :: R => pmNx (pc + 1) L (.long (f x y) :: R) g
  | _ => none
def pmLdI (pc i : Nat) (L : pmL) (S : List Value) (g : pmH) : Option pmR := match pmLd L i with
  | some (.int x) => pmNx pc L (.int x :: S) g
  | _ => none
def pmLdJ (pc i : Nat) (L : pmL) (S : List Value) (g : pmH) : Option pmR := match pmLd L i with
  | some (.long x) => pmNx pc L (.long x :: S) g
  | _ => none
def pmLdA (pc i : Nat) (L : pmL) (S : List Value) (g : pmH) : Option pmR := match pmLd L i with
  | some (.ref x) => pmNx pc L (.ref x :: S) g
  | _ => none
def pmStI (pc i : Nat) (L : pmL) (S : List Value) (g : pmH) : Option pmR := match S with
  | .int x :: R => (pmS1 L i (.int x)).bind (fun L' => pmNx pc L' R g)
  | _ => none
def pmStA (pc i : Nat) (L : pmL) (S : List Value) (g : pmH) : Option pmR := match S with
  | .ref x :: R => (pmS1 L i (.ref x)).bind (fun L' => pmNx pc L' R g)
  | _ => none
def pmStJ (pc i : Nat) (L : pmL) (S : List Value) (g : pmH) : Option pmR := match S with
  | .long x :: R => (pmS2 L i (.long x)).bind (fun L' => pmNx pc L' R g)
  | _ => none
def pmInc (pc i : Nat) (n : Int) (L : pmL) (S : List Value) (g : pmH) : Option pmR := match pmLd L i with
  | some (.int x) => (pmS1 L i (.int (x + Int32.ofInt n))).bind (fun L' => pmNx pc L' S g)
  | _ => none
def pmGo (pc : Nat) (off : Int) (L : pmL) (S : List Value) (g : pmH) : Option pmR := (pmT pc off).bind (fun t => pmNx t L S g)
def pmBr2 (pc : Nat) (c : Jvm.ClassFile.Cond) (off : Int) (L : pmL) (S : List Value) (g : pmH) : Option pmR := match S with
  | .int y :: .int x :: R => (pmT pc off).bind (fun t => pmNx (if pmCmp c x y then t else pc + 3) L R g)
  | _ => none
def pmBr1 (pc : Nat) (c : Jvm.ClassFile.Cond) (off : Int) (L : pmL) (S : List Value) (g : pmH) : Option pmR := match S with
  | .int x :: R => (pmT pc off).bind (fun t => pmNx (if pmCmp c x 0 then t else pc + 3) L R g)
  | _ => none
def pmTab (pc : Nat) (d lo hi : Int) (os : Array Int) (L : pmL) (S : List Value) (g : pmH) : Option pmR := match S with
  | .int x :: R => if x.toInt < lo ∨ hi < x.toInt then (pmT pc d).bind (fun t => pmNx t L R g) else (os[(x.toInt - lo).toNat]?).bind (fun o => (pmT pc o).bind (fun t => pmNx t L R g))
  | _ => none
def pmLook (pc : Nat) (d : Int) (ps : Array (Int × Int)) (L : pmL) (S : List Value) (g : pmH) : Option pmR := match S with
  | .int x :: R => if (ps.toList.zip (ps.toList.drop 1)).all (fun (a, next) => a.1 < next.1) = true then (pmT pc (Op.lookupswitch.offset ps.toList d x.toInt)).bind (fun t => pmNx t L R g) else none
  | _ => none
def pmGet (pc ci k : Nat) (L : pmL) (S : List Value) (g : pmH) : Option pmR := match S with
  | .ref a :: R => match g[a]? with
    | some (.inr (c, fs)) => if c = ci ∧ 3 ≤ a ∧ k < pmNF ci then (fs[k]?).bind (fun v => pmNx (pc + 3) L (v :: R) g) else none
    | _ => none
  | _ => none
def pmPut (M : pmM) (pc ci k : Nat) (L : pmL) (S : List Value) (g : pmH) : Option pmR := match S with
  | v :: .ref a :: R => match g[a]? with
    | some (.inr (c, fs)) => if c = ci ∧ 3 ≤ a ∧ k < pmNF ci ∧ k < fs.length ∧ pmFit (pmTy ci k) v = true ∧ ((pmTX ci k).2.2.2 = false ∨ (M.1.name = "<init>" ∧ M.2.1 = ci)) then pmNx (pc + 3) L R (g.set a (.inr (ci, fs.set k v))) else none
    | _ => none
  | _ => none
def pmIald (pc : Nat) (L : pmL) (S : List Value) (g : pmH) : Option pmR := match S with
  | .int i :: .ref a :: R => match g[a]? with
    | some (.inl (t, n, .inl f)) => if t = 0 ∧ pmIn i n = true then pmNx (pc + 1) L (.int (f i.toNatClampNeg) :: R) g else none
    | _ => none
  | _ => none
def pmBald (pc : Nat) (L : pmL) (S : List Value) (g : pmH) : Option pmR := match S with
  | .int i :: .ref a :: R => match g[a]? with
    | some (.inl (t, n, .inl f)) => if t = 1 ∧ 3 ≤ a ∧ pmIn i n = true then pmNx (pc + 1) L (.int (f i.toNatClampNeg) :: R) g else none
    | _ => none
  | _ => none
def pmLald (pc : Nat) (L : pmL) (S : List Value) (g : pmH) : Option pmR := match S with
  | .int i :: .ref a :: R => match g[a]? with
    | some (.inl (t, n, .inr (.inl f))) => if t = 4 ∧ a = 2 ∧ pmIn i n = true then pmNx (pc + 1) L (.long (f i.toNatClampNeg) :: R) g else none
    | _ => none
  | _ => none
def pmAald (pc : Nat) (L : pmL) (S : List Value) (g : pmH) : Option pmR := match S with
  | .int i :: .ref a :: R => match g[a]? with
    | some (.inl (t, n, .inr (.inr (.inr (.inr f))))) => if (t = 2 ∨ t = 3) ∧ 3 ≤ a ∧ pmIn i n = true then pmNx (pc + 1) L (va_rf (f i.toNatClampNeg) :: R) g else none
    | _ => none
  | _ => none
def pmIast (pc : Nat) (L : pmL) (S : List Value) (g : pmH) : Option pmR := match S with
  | .int x :: .int i :: .ref a :: R => match g[a]? with
    | some (.inl (t, n, .inl f)) => if t = 0 ∧ 3 ≤ a ∧ pmIn i n = true then pmNx (pc + 1) L R (g.set a (.inl (0, n, .inl (upd f i.toNatClampNeg x)))) else none
    | _ => none
  | _ => none
def pmBast (pc : Nat) (L : pmL) (S : List Value) (g : pmH) : Option pmR := match S with
  | .int x :: .int i :: .ref a :: R => match g[a]? with
    | some (.inl (t, n, .inl f)) => if t = 1 ∧ 3 ≤ a ∧ pmIn i n = true then pmNx (pc + 1) L R (g.set a (.inl (1, n, .inl (upd f i.toNatClampNeg (vp_nar .boolean x))))) else none
    | _ => none
  | _ => none
def pmAast (pc : Nat) (L : pmL) (S : List Value) (g : pmH) : Option pmR := match S with
  | .ref v :: .int i :: .ref a :: R => match g[a]?, g[v]? with
    | some (.inl (t, n, .inr (.inr (.inr (.inr f))))), some (.inr (c, _)) => if ((t = 2 ∧ c = 10) ∨ (t = 3 ∧ c = 1)) ∧ 3 ≤ a ∧ 3 ≤ v ∧ pmIn i n = true then pmNx (pc + 1) L R (g.set a (.inl (t, n, .inr (.inr (.inr (.inr (va_up f i.toNatClampNeg (some v)))))))) else none
    | _, _ => none
  | _ => none
def pmLen (pc : Nat) (L : pmL) (S : List Value) (g : pmH) : Option pmR := match S with
  | .ref a :: R => match g[a]? with
    | some (.inl (t, n, .inl _)) => if t = 0 ∧ (a = 0 ∨ 3 ≤ a) then pmNx (pc + 1) L (.int (Int32.ofNat n) :: R) g else none
    | _ => none
  | _ => none
def pmNewA (pc t : Nat) (L : pmL) (S : List Value) (g : pmH) : Option pmR := match S with
  | .int n :: R => if ¬ n < 0 ∧ n.toNatClampNeg ≤ 1000 then pmNx (pc + 2) L (.ref g.length :: R) (g ++ [.inl (t, n.toNatClampNeg, .inl (fun _ => 0))]) else none
  | _ => none
def pmNewQ (pc t : Nat) (L : pmL) (S : List Value) (g : pmH) : Option pmR := match S with
  | .int n :: R => if ¬ n < 0 ∧ n.toNatClampNeg ≤ 1000 then pmNx (pc + 3) L (.ref g.length :: R) (g ++ [.inl (t, n.toNatClampNeg, .inr (.inr (.inr (.inr (fun _ => none)))))]) else none
  | _ => none
def pmCall (M : pmM) (pc n : Nat) (N : pmM) (L : pmL) (S : List Value) : Option pmR :=
  if n ≤ S.length ∧ (S.drop n).length ≤ 4 ∧ N.2.2.2.2.2 < M.2.2.2.2.2 ∧ (pmSl (S.take n).reverse).length ≤ N.2.2.2.1 then some (.inr (.inl (N, (S.take n).reverse, pc + 3, L, S.drop n))) else none
def pmIsObj (g : pmH) (c : Nat) (v : Option Value) : Bool := match v with
  | some (.ref a) => match g[a]? with
    | some (.inr (d, _)) => d == c && decide (3 ≤ a)
    | _ => false
  | _ => false
def pmInvV (M : pmM) (pc i : Nat) (L : pmL) (S : List Value) (g : pmH) : Option pmR := match pmMth M.2.1 i with
  | some (k, n, N, _) => if k = 0 ∧ pmIsObj g N.2.1 (S[n]?) = true then pmCall M pc (n + 1) N L S else none
  | none => none
def pmInvS (M : pmM) (pc i : Nat) (L : pmL) (S : List Value) : Option pmR := match pmMth M.2.1 i with
  | some (k, n, N, _) => if k = 1 ∨ k = 5 then pmCall M pc n N L S else none
  | none => none
def pmInvI (M : pmM) (pc i : Nat) (L : pmL) (S : List Value) (g : pmH) : Option pmR := match pmObj M.2.1 i with
  | some _ => match S with
    | .ref _ :: R => if R.length ≤ 4 then pmNx (pc + 3) L R g else none
    | _ => none
  | none => match pmMth M.2.1 i with
    | some (k, n, N, _) => if (k = 2 ∨ k = 4) ∧ pmIsObj g N.2.1 (S[n]?) = true then pmCall M pc (n + 1) N L S else none
    | none => none
def pmI (M : pmM) (pc : Nat) (L : pmL) (S : List Value) (g : pmH) (ins : Instr) : Option pmR := match ins with
  | .iload_n k => pmLdI (pc + 1) k L S g
  | .iload i => pmLdI (pc + 2) i L S g
  | .lload_n k => pmLdJ (pc + 1) k L S g
  | .lload i => pmLdJ (pc + 2) i L S g
  | .aload_n k => pmLdA (pc + 1) k L S g
  | .aload i => pmLdA (pc + 2) i L S g
  | .iconst n => pmNx (pc + 1) L (.int (Int32.ofInt n) :: S) g
  | .bipush n => pmNx (pc + 2) L (.int (Int8.ofInt n).toInt32 :: S) g
  | .sipush n => pmNx (pc + 3) L (.int (Int16.ofInt n).toInt32 :: S) g
  | .lconst n => pmNx (pc + 1) L (.long (Int64.ofNat (n : Nat)) :: S) g
  | .ldc_w i => match pmKI M.2.1 i with
    | some (v, _) => pmNx (pc + 3) L (.int v :: S) g
    | none => none
  | .ldc2_w i => match pmKJ M.2.1 i with
    | some (v, _) => pmNx (pc + 3) L (.long v :: S) g
    | none => none
  | .istore_n k => pmStI (pc + 1) k L S g
  | .istore i => pmStI (pc + 2) i L S g
  | .lstore_n k => pmStJ (pc + 1) k L S g
  | .astore_n k => pmStA (pc + 1) k L S g
  | .astore i => pmStA (pc + 2) i L S g
  | .iinc i n => pmInc (pc + 3) i n L S g
  | .iadd => pmII pc L S g (fun x y => x + y)
  | .isub => pmII pc L S g (fun x y => x - y)
  | .imul => pmII pc L S g (fun x y => x * y)
  | .iand => pmII pc L S g (fun x y => x &&& y)
  | .ior => pmII pc L S g (fun x y => x ||| y)
  | .ixor => pmII pc L S g (fun x y => x ^^^ y)
  | .ishl => pmII pc L S g (fun x y => x <<< (y &&& 31))
  | .ishr => pmII pc L S g (fun x y => x >>> (y &&& 31))
  | .iushr => pmII pc L S g (fun x y => (x.toUInt32 >>> (y.toUInt32 &&& Int32.toUInt32 31)).toInt32)
  | .idiv => pmIIz pc L S g (fun x y => x / y)
  | .irem => pmIIz pc L S g (fun x y => x - x / y * y)
  | .ladd => pmJJ pc L S g (fun x y => x + y)
  | .lsub => pmJJ pc L S g (fun x y => x - y)
  | .lmul => pmJJ pc L S g (fun x y => x * y)
  | .land => pmJJ pc L S g (fun x y => x &&& y)
  | .lor => pmJJ pc L S g (fun x y => x ||| y)
  | .ldiv => pmJJz pc L S g (fun x y => x / y)
  | .lrem => pmJJz pc L S g (fun x y => x - x / y * y)
  | .lshl => pmJI pc L S g (fun x y => x <<< (y.toInt64 &&& 63))
  | .lushr => pmJI pc L S g (fun x y => (x.toUInt64 >>> (y.toInt64.toUInt64 &&& Int64.toUInt64 63)).toInt64)
  | .ineg => match S with
    | .int x :: R => pmNx (pc + 1) L (.int (-x) :: R) g
    | _ => none
  | .i2l => match S with
    | .int x :: R => pmNx (pc + 1) L (.long x.toInt64 :: R) g
    | _ => none
  | .l2i => match S with
    | .long x :: R => pmNx (pc + 1) L (.int x.toInt32 :: R) g
    | _ => none
  | .lcmp => match S with
    | .long y :: .long x :: R => pmNx (pc + 1) L (.int (lg_cmp x y) :: R) g
    | _ => none
  | .dup => match S with
    | v :: R => if v.category = 1 then pmNx (pc + 1) L (v :: v :: R) g else none
    | _ => none
  | .dup2 => match S with
    | v :: w :: R => if v.category = 1 ∧ w.category = 1 then pmNx (pc + 1) L (v :: w :: v :: w :: R) g else none
    | _ => none
  | .pop => match S with
    | v :: R => if v.category = 1 then pmNx (pc + 1) L R g else none
    | _ => none
  | .goto off => pmGo pc off L S g
  | .if_icmp c off => pmBr2 pc c off L S g
  | .ifCond c off => pmBr1 pc c off L S g
  | .tableswitch d lo hi os => pmTab pc d lo hi os L S g
  | .lookupswitch d ps => pmLook pc d ps L S g
  | .getfield i => match pmFld M.2.1 i with
    | some (ci, k, _) => pmGet pc ci k L S g
    | none => none
  | .putfield i => match pmFld M.2.1 i with
    | some (ci, k, _) => pmPut M pc ci k L S g
    | none => none
  | .getstatic i => match pmSta M.2.1 i with
    | some (r, _, _) => pmNx (pc + 3) L (.ref r :: S) g
    | none => none
  | .iaload => pmIald pc L S g
  | .baload => pmBald pc L S g
  | .laload => pmLald pc L S g
  | .aaload => pmAald pc L S g
  | .iastore => pmIast pc L S g
  | .bastore => pmBast pc L S g
  | .aastore => pmAast pc L S g
  | .arraylength => pmLen pc L S g
  | .newarray .int => pmNewA pc 0 L S g
  | .newarray .boolean => pmNewA pc 1 L S g
  | .anewarray i => match pmCls M.2.1 i with
    | some (ci, _) => if ci = 10 then pmNewQ pc 2 L S g else if ci = 1 then pmNewQ pc 3 L S g else none
    | none => none
  | .new i => match pmCls M.2.1 i with
    | some (ci, _) => if ci < 13 then pmNx (pc + 3) L (.ref g.length :: S) (g ++ [.inr (ci, pmDef ci)]) else none
    | none => none
  | .invokevirtual i => pmInvV M pc i L S g
  | .invokestatic i => pmInvS M pc i L S
  | .invokespecial i => pmInvI M pc i L S g
  | .ireturn => match S, M.2.2.2.2.1 with
    | [.int v], some t => if narrow t (.int v) = .int v then some (.inr (.inr (some (.int v)))) else none
    | _, _ => none
  | .lreturn => match S, M.2.2.2.2.1 with
    | [.long v], some .long => some (.inr (.inr (some (.long v))))
    | _, _ => none
  | .return_ => match S, M.2.2.2.2.1 with
    | [], none => some (.inr (.inr none))
    | _, _ => none
  | _ => none
def pmIL (i : Instr) : Nat := match i with
  | .iload _ | .lload _ | .aload _ | .istore _ | .astore _ | .bipush _ | .newarray _ => 2
  | .sipush _ | .ldc_w _ | .ldc2_w _ | .iinc _ _ | .goto _ | .if_icmp _ _ | .ifCond _ _ | .getfield _ | .putfield _ | .getstatic _ | .anewarray _ | .new _ | .invokevirtual _ | .invokestatic _ | .invokespecial _ => 3
  | .tableswitch _ _ _ _ | .lookupswitch _ _ => 0
  | _ => 1
def pmS (M : pmM) (pc : Nat) (L : pmL) (S : List Value) (g : pmH) : Option pmR := match decode M.2.2.1 pc with
  | .ok (i, n) => if n = pmIL i ∨ pmIL i = 0 then pmI M pc L S g i else none
  | .error _ => none
def pmX : Nat → pmM → Nat → pmL → List Value → pmH → Option (Option Value × pmH)
  | 0, _, _, _, _, _ => none
  | n + 1, M, pc, L, S, g => match pmS M pc L S g with
    | none => none
    | some (.inl (pc', L', S', g')) => pmX n M pc' L' S' g'
    | some (.inr (.inl (N, as, pc', L', R))) => match pmX n N 0 (pmEnt N.2.2.2.1 as) [] g with
      | none => none
      | some (v, g') => pmX n M pc' L' (v.toList ++ R) g'
    | some (.inr (.inr v)) => some (v, g)
theorem pmX_mono : ∀ (n : Nat) (M : pmM) (pc : Nat) (L : pmL) (S : List Value) (g : pmH) (r : Option Value × pmH), pmX n M pc L S g = some r → pmX (n + 1) M pc L S g = some r
  | 0, M, pc, L, S, g, r, h => by simp [pmX] at h
  | n + 1, M, pc, L, S, g, r, h => by
    unfold pmX at h ⊢
    split at h
    · cases h
    · exact pmX_mono n _ _ _ _ _ _ h
    · split at h
      · cases h
      · rename_i hv
        rw [pmX_mono n _ _ _ _ _ _ hv]
        exact pmX_mono n _ _ _ _ _ _ h
    · exact h
theorem pmX_le {n k : Nat} {M : pmM} {pc : Nat} {L : pmL} {S : List Value} {g : pmH} {r : Option Value × pmH} (h : pmX n M pc L S g = some r) (hk : n ≤ k) : pmX k M pc L S g = some r := by
  induction hk with
  | refl => exact h
  | step _ ih => exact pmX_mono _ _ _ _ _ _ _ ih
theorem pmX_uniq {n k : Nat} {M : pmM} {pc : Nat} {L : pmL} {S : List Value} {g : pmH} {r q : Option Value × pmH} (h : pmX n M pc L S g = some r) (h2 : pmX k M pc L S g = some q) : r = q := by
  have a := pmX_le h (Nat.le_max_left n k)
  have b := pmX_le h2 (Nat.le_max_right n k)
  exact Option.some.inj (a.symm.trans b)
/-- what the pure machine comes to -/
noncomputable def pmV (M : pmM) (pc : Nat) (L : pmL) (S : List Value) (g : pmH) : Option (Option Value × pmH) :=
  by classical exact if h : ∃ r : Option Value × pmH, ∃ n : Nat, pmX n M pc L S g = some r then some (Classical.choose h) else none
theorem pmV_iff {M : pmM} {pc : Nat} {L : pmL} {S : List Value} {g : pmH} {r : Option Value × pmH} : pmV M pc L S g = some r ↔ ∃ n : Nat, pmX n M pc L S g = some r := by
  unfold pmV
  constructor
  · intro h
    split at h
    · rename_i hx
      obtain ⟨n, hn⟩ := Classical.choose_spec hx
      rw [Option.some.inj h] at hn
      exact ⟨n, hn⟩
    · cases h
  · rintro ⟨n, hn⟩
    have hx : ∃ r : Option Value × pmH, ∃ n : Nat, pmX n M pc L S g = some r := ⟨r, n, hn⟩
    rw [dif_pos hx]
    obtain ⟨k, hk⟩ := Classical.choose_spec hx
    rw [pmX_uniq hk hn]
/-- one step of it -/
noncomputable def pmU (M : pmM) (g : pmH) (o : Option pmR) : Option (Option Value × pmH) := match o with
  | none => none
  | some (.inl (pc', L', S', g')) => pmV M pc' L' S' g'
  | some (.inr (.inl (N, as, pc', L', R))) => (pmV N 0 (pmEnt N.2.2.2.1 as) [] g).bind (fun q => pmV M pc' L' (q.1.toList ++ R) q.2)
  | some (.inr (.inr v)) => some (v, g)
theorem pmV_step (M : pmM) (pc : Nat) (L : pmL) (S : List Value) (g : pmH) : pmV M pc L S g = pmU M g (pmS M pc L S g) := by
  refine Option.ext fun r => ?_
  rw [pmV_iff]
  constructor
  · rintro ⟨n, h⟩
    cases n with
    | zero => simp [pmX] at h
    | succ n =>
      unfold pmX at h
      unfold pmU
      split at h
      · cases h
      · rename_i hs
        exact pmV_iff.mpr ⟨n, h⟩
      · rename_i hs
        split at h
        · cases h
        · rename_i hv
          rw [pmV_iff.mpr ⟨n, hv⟩]
          exact pmV_iff.mpr ⟨n, h⟩
      · rename_i hs
        exact h
  · intro h
    unfold pmU at h
    split at h
    · cases h
    · rename_i hs
      obtain ⟨n, hn⟩ := pmV_iff.mp h
      exact ⟨n + 1, by unfold pmX; rw [hs]; exact hn⟩
    · rename_i hs
      obtain ⟨q, hq, hr⟩ := Option.bind_eq_some_iff.mp h
      obtain ⟨n, hn⟩ := pmV_iff.mp hq
      obtain ⟨k, hk⟩ := pmV_iff.mp hr
      refine ⟨max n k + 1, ?_⟩
      unfold pmX
      rw [hs]
      simp only
      rw [pmX_le hn (Nat.le_max_left n k)]
      exact pmX_le hk (Nat.le_max_right n k)
    · rename_i hs
      exact ⟨1, by unfold pmX; rw [hs]; exact h⟩
