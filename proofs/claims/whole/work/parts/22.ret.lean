def bI (b : Bool) : Int32 := if b then nI 1 else nI 0
theorem r0X2_caughtTogether {g : pmH} : zIret mX2_caughtTogether [.int (nI 0)] g = some (some (.int (bI false)), g) := zIret_b tX2_caughtTogether (Or.inl rfl)
theorem r1X2_caughtTogether {g : pmH} : zIret mX2_caughtTogether [.int (nI 1)] g = some (some (.int (bI true)), g) := zIret_b tX2_caughtTogether (Or.inr rfl)
theorem r2X2_caughtTogether {b : Bool} {g : pmH} : zIret mX2_caughtTogether [.int (bI b)] g = some (some (.int (bI b)), g) := by cases b <;> first | exact r0X2_caughtTogether | exact r1X2_caughtTogether
theorem rX2_ownJoy {b : Int32} {g : pmH} : zIret mX2_ownJoy [.int b] g = some (some (.int b), g) := zIret_i tX2_ownJoy
theorem r0X2_isAtRest {g : pmH} : zIret mX2_isAtRest [.int (nI 0)] g = some (some (.int (bI false)), g) := zIret_b tX2_isAtRest (Or.inl rfl)
theorem r1X2_isAtRest {g : pmH} : zIret mX2_isAtRest [.int (nI 1)] g = some (some (.int (bI true)), g) := zIret_b tX2_isAtRest (Or.inr rfl)
theorem r2X2_isAtRest {b : Bool} {g : pmH} : zIret mX2_isAtRest [.int (bI b)] g = some (some (.int (bI b)), g) := by cases b <;> first | exact r0X2_isAtRest | exact r1X2_isAtRest
theorem rX2_howManyRest {b : Int32} {g : pmH} : zIret mX2_howManyRest [.int b] g = some (some (.int b), g) := zIret_i tX2_howManyRest
theorem rX2_firstAtRest {b : Int32} {g : pmH} : zIret mX2_firstAtRest [.int b] g = some (some (.int b), g) := zIret_i tX2_firstAtRest
theorem rX3_waysCaught {b : Int32} {g : pmH} : zIret mX3_waysCaught [.int b] g = some (some (.int b), g) := zIret_i tX3_waysCaught
theorem r0X3_isCaughtIf {g : pmH} : zIret mX3_isCaughtIf [.int (nI 0)] g = some (some (.int (bI false)), g) := zIret_b tX3_isCaughtIf (Or.inl rfl)
theorem r1X3_isCaughtIf {g : pmH} : zIret mX3_isCaughtIf [.int (nI 1)] g = some (some (.int (bI true)), g) := zIret_b tX3_isCaughtIf (Or.inr rfl)
theorem r2X3_isCaughtIf {b : Bool} {g : pmH} : zIret mX3_isCaughtIf [.int (bI b)] g = some (some (.int (bI b)), g) := by cases b <;> first | exact r0X3_isCaughtIf | exact r1X3_isCaughtIf
theorem rX3_gladOverYears {b : Int32} {g : pmH} : zIret mX3_gladOverYears [.int b] g = some (some (.int b), g) := zIret_i tX3_gladOverYears
theorem rX4_windOf {b : Int32} {g : pmH} : zIret mX4_windOf [.int b] g = some (some (.int b), g) := zIret_i tX4_windOf
theorem r0X4_hasHedge {g : pmH} : zIret mX4_hasHedge [.int (nI 0)] g = some (some (.int (bI false)), g) := zIret_b tX4_hasHedge (Or.inl rfl)
theorem r1X4_hasHedge {g : pmH} : zIret mX4_hasHedge [.int (nI 1)] g = some (some (.int (bI true)), g) := zIret_b tX4_hasHedge (Or.inr rfl)
theorem r2X4_hasHedge {b : Bool} {g : pmH} : zIret mX4_hasHedge [.int (bI b)] g = some (some (.int (bI b)), g) := by cases b <;> first | exact r0X4_hasHedge | exact r1X4_hasHedge
theorem rX4_hedgeAt {b : Int32} {g : pmH} : zIret mX4_hedgeAt [.int b] g = some (some (.int b), g) := zIret_i tX4_hedgeAt
theorem rX5_cellsOfLetting {b : Int32} {g : pmH} : zIret mX5_cellsOfLetting [.int b] g = some (some (.int b), g) := zIret_i tX5_cellsOfLetting
theorem r0X5_agreesFrom {g : pmH} : zIret mX5_agreesFrom [.int (nI 0)] g = some (some (.int (bI false)), g) := zIret_b tX5_agreesFrom (Or.inl rfl)
theorem r1X5_agreesFrom {g : pmH} : zIret mX5_agreesFrom [.int (nI 1)] g = some (some (.int (bI true)), g) := zIret_b tX5_agreesFrom (Or.inr rfl)
theorem r2X5_agreesFrom {b : Bool} {g : pmH} : zIret mX5_agreesFrom [.int (bI b)] g = some (some (.int (bI b)), g) := by cases b <;> first | exact r0X5_agreesFrom | exact r1X5_agreesFrom
theorem r0X5_agreesBehind {g : pmH} : zIret mX5_agreesBehind [.int (nI 0)] g = some (some (.int (bI false)), g) := zIret_b tX5_agreesBehind (Or.inl rfl)
theorem r1X5_agreesBehind {g : pmH} : zIret mX5_agreesBehind [.int (nI 1)] g = some (some (.int (bI true)), g) := zIret_b tX5_agreesBehind (Or.inr rfl)
theorem r2X5_agreesBehind {b : Bool} {g : pmH} : zIret mX5_agreesBehind [.int (bI b)] g = some (some (.int (bI b)), g) := by cases b <;> first | exact r0X5_agreesBehind | exact r1X5_agreesBehind
theorem rX6_hoursToAnswer {b : Int32} {g : pmH} : zIret mX6_hoursToAnswer [.int b] g = some (some (.int b), g) := zIret_i tX6_hoursToAnswer
theorem rX6_hoursToLetting {b : Int32} {g : pmH} : zIret mX6_hoursToLetting [.int b] g = some (some (.int b), g) := zIret_i tX6_hoursToLetting
theorem r0X6_endsWellIfLetIn {g : pmH} : zIret mX6_endsWellIfLetIn [.int (nI 0)] g = some (some (.int (bI false)), g) := zIret_b tX6_endsWellIfLetIn (Or.inl rfl)
theorem r1X6_endsWellIfLetIn {g : pmH} : zIret mX6_endsWellIfLetIn [.int (nI 1)] g = some (some (.int (bI true)), g) := zIret_b tX6_endsWellIfLetIn (Or.inr rfl)
theorem r2X6_endsWellIfLetIn {b : Bool} {g : pmH} : zIret mX6_endsWellIfLetIn [.int (bI b)] g = some (some (.int (bI b)), g) := by cases b <;> first | exact r0X6_endsWellIfLetIn | exact r1X6_endsWellIfLetIn
theorem rX6_firstThatCannotBe {b : Int32} {g : pmH} : zIret mX6_firstThatCannotBe [.int b] g = some (some (.int b), g) := zIret_i tX6_firstThatCannotBe
theorem r0X6_canBe {g : pmH} : zIret mX6_canBe [.int (nI 0)] g = some (some (.int (bI false)), g) := zIret_b tX6_canBe (Or.inl rfl)
theorem r1X6_canBe {g : pmH} : zIret mX6_canBe [.int (nI 1)] g = some (some (.int (bI true)), g) := zIret_b tX6_canBe (Or.inr rfl)
theorem r2X6_canBe {b : Bool} {g : pmH} : zIret mX6_canBe [.int (bI b)] g = some (some (.int (bI b)), g) := by cases b <;> first | exact r0X6_canBe | exact r1X6_canBe
theorem rX7_read {b : Int32} {g : pmH} : zIret mX7_read [.int b] g = some (some (.int b), g) := zIret_i tX7_read
theorem r0X7_takes {g : pmH} : zIret mX7_takes [.int (nI 0)] g = some (some (.int (bI false)), g) := zIret_b tX7_takes (Or.inl rfl)
theorem r1X7_takes {g : pmH} : zIret mX7_takes [.int (nI 1)] g = some (some (.int (bI true)), g) := zIret_b tX7_takes (Or.inr rfl)
theorem r2X7_takes {b : Bool} {g : pmH} : zIret mX7_takes [.int (bI b)] g = some (some (.int (bI b)), g) := by cases b <;> first | exact r0X7_takes | exact r1X7_takes
theorem r0X7_opensPart {g : pmH} : zIret mX7_opensPart [.int (nI 0)] g = some (some (.int (bI false)), g) := zIret_b tX7_opensPart (Or.inl rfl)
theorem r1X7_opensPart {g : pmH} : zIret mX7_opensPart [.int (nI 1)] g = some (some (.int (bI true)), g) := zIret_b tX7_opensPart (Or.inr rfl)
theorem r2X7_opensPart {b : Bool} {g : pmH} : zIret mX7_opensPart [.int (bI b)] g = some (some (.int (bI b)), g) := by cases b <;> first | exact r0X7_opensPart | exact r1X7_opensPart
theorem r0X7_takesWind {g : pmH} : zIret mX7_takesWind [.int (nI 0)] g = some (some (.int (bI false)), g) := zIret_b tX7_takesWind (Or.inl rfl)
theorem r1X7_takesWind {g : pmH} : zIret mX7_takesWind [.int (nI 1)] g = some (some (.int (bI true)), g) := zIret_b tX7_takesWind (Or.inr rfl)
theorem r2X7_takesWind {b : Bool} {g : pmH} : zIret mX7_takesWind [.int (bI b)] g = some (some (.int (bI b)), g) := by cases b <;> first | exact r0X7_takesWind | exact r1X7_takesWind
theorem r0X7_takesStart {g : pmH} : zIret mX7_takesStart [.int (nI 0)] g = some (some (.int (bI false)), g) := zIret_b tX7_takesStart (Or.inl rfl)
theorem r1X7_takesStart {g : pmH} : zIret mX7_takesStart [.int (nI 1)] g = some (some (.int (bI true)), g) := zIret_b tX7_takesStart (Or.inr rfl)
theorem r2X7_takesStart {b : Bool} {g : pmH} : zIret mX7_takesStart [.int (bI b)] g = some (some (.int (bI b)), g) := by cases b <;> first | exact r0X7_takesStart | exact r1X7_takesStart
theorem r0X7_takesOfBalloon {g : pmH} : zIret mX7_takesOfBalloon [.int (nI 0)] g = some (some (.int (bI false)), g) := zIret_b tX7_takesOfBalloon (Or.inl rfl)
theorem r1X7_takesOfBalloon {g : pmH} : zIret mX7_takesOfBalloon [.int (nI 1)] g = some (some (.int (bI true)), g) := zIret_b tX7_takesOfBalloon (Or.inr rfl)
theorem r2X7_takesOfBalloon {b : Bool} {g : pmH} : zIret mX7_takesOfBalloon [.int (bI b)] g = some (some (.int (bI b)), g) := by cases b <;> first | exact r0X7_takesOfBalloon | exact r1X7_takesOfBalloon
theorem r0X7_takesHedgeCell {g : pmH} : zIret mX7_takesHedgeCell [.int (nI 0)] g = some (some (.int (bI false)), g) := zIret_b tX7_takesHedgeCell (Or.inl rfl)
theorem r1X7_takesHedgeCell {g : pmH} : zIret mX7_takesHedgeCell [.int (nI 1)] g = some (some (.int (bI true)), g) := zIret_b tX7_takesHedgeCell (Or.inr rfl)
theorem r2X7_takesHedgeCell {b : Bool} {g : pmH} : zIret mX7_takesHedgeCell [.int (bI b)] g = some (some (.int (bI b)), g) := by cases b <;> first | exact r0X7_takesHedgeCell | exact r1X7_takesHedgeCell
theorem r0X7_takesOfHedge {g : pmH} : zIret mX7_takesOfHedge [.int (nI 0)] g = some (some (.int (bI false)), g) := zIret_b tX7_takesOfHedge (Or.inl rfl)
theorem r1X7_takesOfHedge {g : pmH} : zIret mX7_takesOfHedge [.int (nI 1)] g = some (some (.int (bI true)), g) := zIret_b tX7_takesOfHedge (Or.inr rfl)
theorem r2X7_takesOfHedge {b : Bool} {g : pmH} : zIret mX7_takesOfHedge [.int (bI b)] g = some (some (.int (bI b)), g) := by cases b <;> first | exact r0X7_takesOfHedge | exact r1X7_takesOfHedge
theorem rX8_sumOverOrders {b : Int32} {g : pmH} : zIret mX8_sumOverOrders [.int b] g = some (some (.int b), g) := zIret_i tX8_sumOverOrders
theorem rX9_layOut {b : Int32} {g : pmH} : zIret mX9_layOut [.int b] g = some (some (.int b), g) := zIret_i tX9_layOut
theorem rX9_gladByOrder {b : Int32} {g : pmH} : zIret mX9_gladByOrder [.int b] g = some (some (.int b), g) := zIret_i tX9_gladByOrder
theorem r0X10_hasBalloon {g : pmH} : zIret mX10_hasBalloon [.int (nI 0)] g = some (some (.int (bI false)), g) := zIret_b tX10_hasBalloon (Or.inl rfl)
theorem r1X10_hasBalloon {g : pmH} : zIret mX10_hasBalloon [.int (nI 1)] g = some (some (.int (bI true)), g) := zIret_b tX10_hasBalloon (Or.inr rfl)
theorem r2X10_hasBalloon {b : Bool} {g : pmH} : zIret mX10_hasBalloon [.int (bI b)] g = some (some (.int (bI b)), g) := by cases b <;> first | exact r0X10_hasBalloon | exact r1X10_hasBalloon
theorem r0X10_is {g : pmH} : zIret mX10_is [.int (nI 0)] g = some (some (.int (bI false)), g) := zIret_b tX10_is (Or.inl rfl)
theorem r1X10_is {g : pmH} : zIret mX10_is [.int (nI 1)] g = some (some (.int (bI true)), g) := zIret_b tX10_is (Or.inr rfl)
theorem r2X10_is {b : Bool} {g : pmH} : zIret mX10_is [.int (bI b)] g = some (some (.int (bI b)), g) := by cases b <;> first | exact r0X10_is | exact r1X10_is
theorem r0X10_letGo {g : pmH} : zIret mX10_letGo [.int (nI 0)] g = some (some (.int (bI false)), g) := zIret_b tX10_letGo (Or.inl rfl)
theorem r1X10_letGo {g : pmH} : zIret mX10_letGo [.int (nI 1)] g = some (some (.int (bI true)), g) := zIret_b tX10_letGo (Or.inr rfl)
theorem r2X10_letGo {b : Bool} {g : pmH} : zIret mX10_letGo [.int (bI b)] g = some (some (.int (bI b)), g) := by cases b <;> first | exact r0X10_letGo | exact r1X10_letGo
theorem r0X10_setFree {g : pmH} : zIret mX10_setFree [.int (nI 0)] g = some (some (.int (bI false)), g) := zIret_b tX10_setFree (Or.inl rfl)
theorem r1X10_setFree {g : pmH} : zIret mX10_setFree [.int (nI 1)] g = some (some (.int (bI true)), g) := zIret_b tX10_setFree (Or.inr rfl)
theorem r2X10_setFree {b : Bool} {g : pmH} : zIret mX10_setFree [.int (bI b)] g = some (some (.int (bI b)), g) := by cases b <;> first | exact r0X10_setFree | exact r1X10_setFree
theorem r0X10_putRight {g : pmH} : zIret mX10_putRight [.int (nI 0)] g = some (some (.int (bI false)), g) := zIret_b tX10_putRight (Or.inl rfl)
theorem r1X10_putRight {g : pmH} : zIret mX10_putRight [.int (nI 1)] g = some (some (.int (bI true)), g) := zIret_b tX10_putRight (Or.inr rfl)
theorem r2X10_putRight {b : Bool} {g : pmH} : zIret mX10_putRight [.int (bI b)] g = some (some (.int (bI b)), g) := by cases b <;> first | exact r0X10_putRight | exact r1X10_putRight
theorem rX10_passHour {b : Int32} {g : pmH} : zIret mX10_passHour [.int b] g = some (some (.int b), g) := zIret_i tX10_passHour
theorem rX10_passHourBy {b : Int32} {g : pmH} : zIret mX10_passHourBy [.int b] g = some (some (.int b), g) := zIret_i tX10_passHourBy
theorem r0X10_catches {g : pmH} : zIret mX10_catches [.int (nI 0)] g = some (some (.int (bI false)), g) := zIret_b tX10_catches (Or.inl rfl)
theorem r1X10_catches {g : pmH} : zIret mX10_catches [.int (nI 1)] g = some (some (.int (bI true)), g) := zIret_b tX10_catches (Or.inr rfl)
theorem r2X10_catches {b : Bool} {g : pmH} : zIret mX10_catches [.int (bI b)] g = some (some (.int (bI b)), g) := by cases b <;> first | exact r0X10_catches | exact r1X10_catches
theorem r0X10_stands {g : pmH} : zIret mX10_stands [.int (nI 0)] g = some (some (.int (bI false)), g) := zIret_b tX10_stands (Or.inl rfl)
theorem r1X10_stands {g : pmH} : zIret mX10_stands [.int (nI 1)] g = some (some (.int (bI true)), g) := zIret_b tX10_stands (Or.inr rfl)
theorem r2X10_stands {b : Bool} {g : pmH} : zIret mX10_stands [.int (bI b)] g = some (some (.int (bI b)), g) := by cases b <;> first | exact r0X10_stands | exact r1X10_stands
theorem rX10_whatCame {b : Int32} {g : pmH} : zIret mX10_whatCame [.int b] g = some (some (.int b), g) := zIret_i tX10_whatCame
theorem r0X10_isAnswered {g : pmH} : zIret mX10_isAnswered [.int (nI 0)] g = some (some (.int (bI false)), g) := zIret_b tX10_isAnswered (Or.inl rfl)
theorem r1X10_isAnswered {g : pmH} : zIret mX10_isAnswered [.int (nI 1)] g = some (some (.int (bI true)), g) := zIret_b tX10_isAnswered (Or.inr rfl)
theorem r2X10_isAnswered {b : Bool} {g : pmH} : zIret mX10_isAnswered [.int (bI b)] g = some (some (.int (bI b)), g) := by cases b <;> first | exact r0X10_isAnswered | exact r1X10_isAnswered
theorem r0X10_gladdens {g : pmH} : zIret mX10_gladdens [.int (nI 0)] g = some (some (.int (bI false)), g) := zIret_b tX10_gladdens (Or.inl rfl)
theorem r1X10_gladdens {g : pmH} : zIret mX10_gladdens [.int (nI 1)] g = some (some (.int (bI true)), g) := zIret_b tX10_gladdens (Or.inr rfl)
theorem r2X10_gladdens {b : Bool} {g : pmH} : zIret mX10_gladdens [.int (bI b)] g = some (some (.int (bI b)), g) := by cases b <;> first | exact r0X10_gladdens | exact r1X10_gladdens
theorem r0X10_isGlad {g : pmH} : zIret mX10_isGlad [.int (nI 0)] g = some (some (.int (bI false)), g) := zIret_b tX10_isGlad (Or.inl rfl)
theorem r1X10_isGlad {g : pmH} : zIret mX10_isGlad [.int (nI 1)] g = some (some (.int (bI true)), g) := zIret_b tX10_isGlad (Or.inr rfl)
theorem r2X10_isGlad {b : Bool} {g : pmH} : zIret mX10_isGlad [.int (bI b)] g = some (some (.int (bI b)), g) := by cases b <;> first | exact r0X10_isGlad | exact r1X10_isGlad
theorem rX10_gladChildren {b : Int32} {g : pmH} : zIret mX10_gladChildren [.int b] g = some (some (.int b), g) := zIret_i tX10_gladChildren
theorem rX10_answeredBalloons {b : Int32} {g : pmH} : zIret mX10_answeredBalloons [.int b] g = some (some (.int b), g) := zIret_i tX10_answeredBalloons
theorem rX10_allThatAre {b : Int32} {g : pmH} : zIret mX10_allThatAre [.int b] g = some (some (.int b), g) := zIret_i tX10_allThatAre
theorem rX10_caughtIn {b : Int32} {g : pmH} : zIret mX10_caughtIn [.int b] g = some (some (.int b), g) := zIret_i tX10_caughtIn
theorem rX11_write {b : Int32} {g : pmH} : zIret mX11_write [.int b] g = some (some (.int b), g) := zIret_i tX11_write
theorem rX11_wipe {b : Int32} {g : pmH} : zIret mX11_wipe [.int b] g = some (some (.int b), g) := zIret_i tX11_wipe
theorem rX11_fault {b : Int32} {g : pmH} : zIret mX11_fault [.int b] g = some (some (.int b), g) := zIret_i tX11_fault
theorem rX11_city {b : Int32} {g : pmH} : zIret mX11_city [.int b] g = some (some (.int b), g) := zIret_i tX11_city
theorem rX11_balloon {b : Int32} {g : pmH} : zIret mX11_balloon [.int b] g = some (some (.int b), g) := zIret_i tX11_balloon
theorem rX11_hedge {b : Int32} {g : pmH} : zIret mX11_hedge [.int b] g = some (some (.int b), g) := zIret_i tX11_hedge
theorem rX11_let {b : Int32} {g : pmH} : zIret mX11_let [.int b] g = some (some (.int b), g) := zIret_i tX11_let
theorem rX11_hour {b : Int32} {g : pmH} : zIret mX11_hour [.int b] g = some (some (.int b), g) := zIret_i tX11_hour
theorem rX11_free {b : Int32} {g : pmH} : zIret mX11_free [.int b] g = some (some (.int b), g) := zIret_i tX11_free
theorem rX11_right {b : Int32} {g : pmH} : zIret mX11_right [.int b] g = some (some (.int b), g) := zIret_i tX11_right
theorem rX11_undo {b : Int32} {g : pmH} : zIret mX11_undo [.int b] g = some (some (.int b), g) := zIret_i tX11_undo
theorem rX11_later {b : Int32} {g : pmH} : zIret mX11_later [.int b] g = some (some (.int b), g) := zIret_i tX11_later
theorem rX11_comes {b : Int32} {g : pmH} : zIret mX11_comes [.int b] g = some (some (.int b), g) := zIret_i tX11_comes
theorem rX11_best {b : Int32} {g : pmH} : zIret mX11_best [.int b] g = some (some (.int b), g) := zIret_i tX11_best
theorem rX11_most {b : Int32} {g : pmH} : zIret mX11_most [.int b] g = some (some (.int b), g) := zIret_i tX11_most
theorem rX11_judge {b : Int32} {g : pmH} : zIret mX11_judge [.int b] g = some (some (.int b), g) := zIret_i tX11_judge
theorem rX11_find {b : Int32} {g : pmH} : zIret mX11_find [.int b] g = some (some (.int b), g) := zIret_i tX11_find
theorem rX11_lose {b : Int32} {g : pmH} : zIret mX11_lose [.int b] g = some (some (.int b), g) := zIret_i tX11_lose
theorem rX11_began {b : Int32} {g : pmH} : zIret mX11_began [.int b] g = some (some (.int b), g) := zIret_i tX11_began
theorem rX11_share {b : Int32} {g : pmH} : zIret mX11_share [.int b] g = some (some (.int b), g) := zIret_i tX11_share
theorem rX11_rests {b : Int32} {g : pmH} : zIret mX11_rests [.int b] g = some (some (.int b), g) := zIret_i tX11_rests
theorem rX11_fails {b : Int32} {g : pmH} : zIret mX11_fails [.int b] g = some (some (.int b), g) := zIret_i tX11_fails
theorem rX11_years {b : Int32} {g : pmH} : zIret mX11_years [.int b] g = some (some (.int b), g) := zIret_i tX11_years
theorem rX11_keep {b : Int32} {g : pmH} : zIret mX11_keep [.int b] g = some (some (.int b), g) := zIret_i tX11_keep
theorem rX11_again {b : Int32} {g : pmH} : zIret mX11_again [.int b] g = some (some (.int b), g) := zIret_i tX11_again
theorem rX11_count {b : Int32} {g : pmH} : zIret mX11_count [.int b] g = some (some (.int b), g) := zIret_i tX11_count
theorem rX11_power {b : Int32} {g : pmH} : zIret mX11_power [.int b] g = some (some (.int b), g) := zIret_i tX11_power
theorem rX11_inLeastTerms {b : Int32} {g : pmH} : zIret mX11_inLeastTerms [.int b] g = some (some (.int b), g) := zIret_i tX11_inLeastTerms
theorem rX11_greatestCommon {b : Int32} {g : pmH} : zIret mX11_greatestCommon [.int b] g = some (some (.int b), g) := zIret_i tX11_greatestCommon
theorem r0X12_in {g : pmH} : zIret mX12_in [.int (nI 0)] g = some (some (.int (bI false)), g) := zIret_b tX12_in (Or.inl rfl)
theorem r1X12_in {g : pmH} : zIret mX12_in [.int (nI 1)] g = some (some (.int (bI true)), g) := zIret_b tX12_in (Or.inr rfl)
theorem r2X12_in {b : Bool} {g : pmH} : zIret mX12_in [.int (bI b)] g = some (some (.int (bI b)), g) := by cases b <;> first | exact r0X12_in | exact r1X12_in
theorem r0X12_has {g : pmH} : zIret mX12_has [.int (nI 0)] g = some (some (.int (bI false)), g) := zIret_b tX12_has (Or.inl rfl)
theorem r1X12_has {g : pmH} : zIret mX12_has [.int (nI 1)] g = some (some (.int (bI true)), g) := zIret_b tX12_has (Or.inr rfl)
theorem r2X12_has {b : Bool} {g : pmH} : zIret mX12_has [.int (bI b)] g = some (some (.int (bI b)), g) := by cases b <;> first | exact r0X12_has | exact r1X12_has
theorem rX12_ones {b : Int32} {g : pmH} : zIret mX12_ones [.int b] g = some (some (.int b), g) := zIret_i tX12_ones
theorem rX12_write {b : Int32} {g : pmH} : zIret mX12_write [.int b] g = some (some (.int b), g) := zIret_i tX12_write
theorem rX12_wipe {b : Int32} {g : pmH} : zIret mX12_wipe [.int b] g = some (some (.int b), g) := zIret_i tX12_wipe
theorem rX12_cellOf {b : Int32} {g : pmH} : zIret mX12_cellOf [.int b] g = some (some (.int b), g) := zIret_i tX12_cellOf
theorem rX12_figureOf {b : Int32} {g : pmH} : zIret mX12_figureOf [.int b] g = some (some (.int b), g) := zIret_i tX12_figureOf
theorem rX12_readText {b : Int32} {g : pmH} : zIret mX12_readText [.int b] g = some (some (.int b), g) := zIret_i tX12_readText
theorem rX12_fault {b : Int32} {g : pmH} : zIret mX12_fault [.int b] g = some (some (.int b), g) := zIret_i tX12_fault
theorem rX12_city {b : Int32} {g : pmH} : zIret mX12_city [.int b] g = some (some (.int b), g) := zIret_i tX12_city
theorem r0X12_isBalloon {g : pmH} : zIret mX12_isBalloon [.int (nI 0)] g = some (some (.int (bI false)), g) := zIret_b tX12_isBalloon (Or.inl rfl)
theorem r1X12_isBalloon {g : pmH} : zIret mX12_isBalloon [.int (nI 1)] g = some (some (.int (bI true)), g) := zIret_b tX12_isBalloon (Or.inr rfl)
theorem r2X12_isBalloon {b : Bool} {g : pmH} : zIret mX12_isBalloon [.int (bI b)] g = some (some (.int (bI b)), g) := by cases b <;> first | exact r0X12_isBalloon | exact r1X12_isBalloon
theorem r0X12_isHedge {g : pmH} : zIret mX12_isHedge [.int (nI 0)] g = some (some (.int (bI false)), g) := zIret_b tX12_isHedge (Or.inl rfl)
theorem r1X12_isHedge {g : pmH} : zIret mX12_isHedge [.int (nI 1)] g = some (some (.int (bI true)), g) := zIret_b tX12_isHedge (Or.inr rfl)
theorem r2X12_isHedge {b : Bool} {g : pmH} : zIret mX12_isHedge [.int (bI b)] g = some (some (.int (bI b)), g) := by cases b <;> first | exact r0X12_isHedge | exact r1X12_isHedge
theorem r0X12_isCell {g : pmH} : zIret mX12_isCell [.int (nI 0)] g = some (some (.int (bI false)), g) := zIret_b tX12_isCell (Or.inl rfl)
theorem r1X12_isCell {g : pmH} : zIret mX12_isCell [.int (nI 1)] g = some (some (.int (bI true)), g) := zIret_b tX12_isCell (Or.inr rfl)
theorem r2X12_isCell {b : Bool} {g : pmH} : zIret mX12_isCell [.int (bI b)] g = some (some (.int (bI b)), g) := by cases b <;> first | exact r0X12_isCell | exact r1X12_isCell
theorem rX12_windOf {b : Int32} {g : pmH} : zIret mX12_windOf [.int b] g = some (some (.int b), g) := zIret_i tX12_windOf
theorem rX12_blown {b : Int32} {g : pmH} : zIret mX12_blown [.int b] g = some (some (.int b), g) := zIret_i tX12_blown
theorem rX12_hedgeAt {b : Int32} {g : pmH} : zIret mX12_hedgeAt [.int b] g = some (some (.int b), g) := zIret_i tX12_hedgeAt
theorem rX12_passOn {b : Int32} {g : pmH} : zIret mX12_passOn [.int b] g = some (some (.int b), g) := zIret_i tX12_passOn
theorem rX12_whoIs {b : Int32} {g : pmH} : zIret mX12_whoIs [.int b] g = some (some (.int b), g) := zIret_i tX12_whoIs
theorem r0X12_isAnswered {g : pmH} : zIret mX12_isAnswered [.int (nI 0)] g = some (some (.int (bI false)), g) := zIret_b tX12_isAnswered (Or.inl rfl)
theorem r1X12_isAnswered {g : pmH} : zIret mX12_isAnswered [.int (nI 1)] g = some (some (.int (bI true)), g) := zIret_b tX12_isAnswered (Or.inr rfl)
theorem r2X12_isAnswered {b : Bool} {g : pmH} : zIret mX12_isAnswered [.int (bI b)] g = some (some (.int (bI b)), g) := by cases b <;> first | exact r0X12_isAnswered | exact r1X12_isAnswered
theorem rX12_answered {b : Int32} {g : pmH} : zIret mX12_answered [.int b] g = some (some (.int b), g) := zIret_i tX12_answered
theorem rX12_brings {b : Int32} {g : pmH} : zIret mX12_brings [.int b] g = some (some (.int b), g) := zIret_i tX12_brings
theorem rX12_glad {b : Int32} {g : pmH} : zIret mX12_glad [.int b] g = some (some (.int b), g) := zIret_i tX12_glad
theorem rX12_balloon {b : Int32} {g : pmH} : zIret mX12_balloon [.int b] g = some (some (.int b), g) := zIret_i tX12_balloon
theorem rX12_caughtIn {b : Int32} {g : pmH} : zIret mX12_caughtIn [.int b] g = some (some (.int b), g) := zIret_i tX12_caughtIn
theorem rX12_hedge {b : Int32} {g : pmH} : zIret mX12_hedge [.int b] g = some (some (.int b), g) := zIret_i tX12_hedge
theorem rX12_let {b : Int32} {g : pmH} : zIret mX12_let [.int b] g = some (some (.int b), g) := zIret_i tX12_let
theorem rX12_hour {b : Int32} {g : pmH} : zIret mX12_hour [.int b] g = some (some (.int b), g) := zIret_i tX12_hour
theorem rX12_free {b : Int32} {g : pmH} : zIret mX12_free [.int b] g = some (some (.int b), g) := zIret_i tX12_free
theorem rX12_right {b : Int32} {g : pmH} : zIret mX12_right [.int b] g = some (some (.int b), g) := zIret_i tX12_right
theorem rX12_undo {b : Int32} {g : pmH} : zIret mX12_undo [.int b] g = some (some (.int b), g) := zIret_i tX12_undo
theorem rX12_later {b : Int32} {g : pmH} : zIret mX12_later [.int b] g = some (some (.int b), g) := zIret_i tX12_later
theorem rX12_comes {b : Int32} {g : pmH} : zIret mX12_comes [.int b] g = some (some (.int b), g) := zIret_i tX12_comes
theorem r0X12_isWellLet {g : pmH} : zIret mX12_isWellLet [.int (nI 0)] g = some (some (.int (bI false)), g) := zIret_b tX12_isWellLet (Or.inl rfl)
theorem r1X12_isWellLet {g : pmH} : zIret mX12_isWellLet [.int (nI 1)] g = some (some (.int (bI true)), g) := zIret_b tX12_isWellLet (Or.inr rfl)
theorem r2X12_isWellLet {b : Bool} {g : pmH} : zIret mX12_isWellLet [.int (bI b)] g = some (some (.int (bI b)), g) := by cases b <;> first | exact r0X12_isWellLet | exact r1X12_isWellLet
theorem rX12_best {b : Int32} {g : pmH} : zIret mX12_best [.int b] g = some (some (.int b), g) := zIret_i tX12_best
theorem r0X12_isOrder {g : pmH} : zIret mX12_isOrder [.int (nI 0)] g = some (some (.int (bI false)), g) := zIret_b tX12_isOrder (Or.inl rfl)
theorem r1X12_isOrder {g : pmH} : zIret mX12_isOrder [.int (nI 1)] g = some (some (.int (bI true)), g) := zIret_b tX12_isOrder (Or.inr rfl)
theorem r2X12_isOrder {b : Bool} {g : pmH} : zIret mX12_isOrder [.int (bI b)] g = some (some (.int (bI b)), g) := by cases b <;> first | exact r0X12_isOrder | exact r1X12_isOrder
theorem rX12_gladBy {b : Int32} {g : pmH} : zIret mX12_gladBy [.int b] g = some (some (.int b), g) := zIret_i tX12_gladBy
theorem rX12_exchanges {b : Int32} {g : pmH} : zIret mX12_exchanges [.int b] g = some (some (.int b), g) := zIret_i tX12_exchanges
theorem rX12_balloonTo {b : Int32} {g : pmH} : zIret mX12_balloonTo [.int b] g = some (some (.int b), g) := zIret_i tX12_balloonTo
theorem rX12_most {b : Int32} {g : pmH} : zIret mX12_most [.int b] g = some (some (.int b), g) := zIret_i tX12_most
theorem r0X12_tryThing {g : pmH} : zIret mX12_tryThing [.int (nI 0)] g = some (some (.int (bI false)), g) := zIret_b tX12_tryThing (Or.inl rfl)
theorem r1X12_tryThing {g : pmH} : zIret mX12_tryThing [.int (nI 1)] g = some (some (.int (bI true)), g) := zIret_b tX12_tryThing (Or.inr rfl)
theorem r2X12_tryThing {b : Bool} {g : pmH} : zIret mX12_tryThing [.int (bI b)] g = some (some (.int (bI b)), g) := by cases b <;> first | exact r0X12_tryThing | exact r1X12_tryThing
theorem rX12_judge {b : Int32} {g : pmH} : zIret mX12_judge [.int b] g = some (some (.int b), g) := zIret_i tX12_judge
theorem rX12_find {b : Int32} {g : pmH} : zIret mX12_find [.int b] g = some (some (.int b), g) := zIret_i tX12_find
theorem rX12_lose {b : Int32} {g : pmH} : zIret mX12_lose [.int b] g = some (some (.int b), g) := zIret_i tX12_lose
theorem rX12_behind {b : Int32} {g : pmH} : zIret mX12_behind [.int b] g = some (some (.int b), g) := zIret_i tX12_behind
theorem rX12_began {b : Int32} {g : pmH} : zIret mX12_began [.int b] g = some (some (.int b), g) := zIret_i tX12_began
theorem rX12_factorial {b : Int32} {g : pmH} : zIret mX12_factorial [.int b] g = some (some (.int b), g) := zIret_i tX12_factorial
theorem rX12_common {b : Int32} {g : pmH} : zIret mX12_common [.int b] g = some (some (.int b), g) := zIret_i tX12_common
theorem rX12_gladOf {b : Int32} {g : pmH} : zIret mX12_gladOf [.int b] g = some (some (.int b), g) := zIret_i tX12_gladOf
theorem rX12_share {b : Int32} {g : pmH} : zIret mX12_share [.int b] g = some (some (.int b), g) := zIret_i tX12_share
theorem rX12_gain {b : Int32} {g : pmH} : zIret mX12_gain [.int b] g = some (some (.int b), g) := zIret_i tX12_gain
theorem r0X12_isRest {g : pmH} : zIret mX12_isRest [.int (nI 0)] g = some (some (.int (bI false)), g) := zIret_b tX12_isRest (Or.inl rfl)
theorem r1X12_isRest {g : pmH} : zIret mX12_isRest [.int (nI 1)] g = some (some (.int (bI true)), g) := zIret_b tX12_isRest (Or.inr rfl)
theorem r2X12_isRest {b : Bool} {g : pmH} : zIret mX12_isRest [.int (bI b)] g = some (some (.int (bI b)), g) := by cases b <;> first | exact r0X12_isRest | exact r1X12_isRest
theorem rX12_rests {b : Int32} {g : pmH} : zIret mX12_rests [.int b] g = some (some (.int b), g) := zIret_i tX12_rests
theorem rX12_power {b : Int32} {g : pmH} : zIret mX12_power [.int b] g = some (some (.int b), g) := zIret_i tX12_power
theorem rX12_fails {b : Int32} {g : pmH} : zIret mX12_fails [.int b] g = some (some (.int b), g) := zIret_i tX12_fails
theorem rX12_years {b : Int32} {g : pmH} : zIret mX12_years [.int b] g = some (some (.int b), g) := zIret_i tX12_years
theorem rX12_keep {b : Int32} {g : pmH} : zIret mX12_keep [.int b] g = some (some (.int b), g) := zIret_i tX12_keep
theorem rX12_again {b : Int32} {g : pmH} : zIret mX12_again [.int b] g = some (some (.int b), g) := zIret_i tX12_again
theorem rX12_count {b : Int32} {g : pmH} : zIret mX12_count [.int b] g = some (some (.int b), g) := zIret_i tX12_count
theorem rJ6_bitCount_0f7a4 {b : Int32} {g : pmH} : zIret mJ6_bitCount_0f7a4 [.int b] g = some (some (.int b), g) := zIret_i tJ6_bitCount_0f7a4
theorem rJ9_floorMod_7cf53 {b : Int32} {g : pmH} : zIret mJ9_floorMod_7cf53 [.int b] g = some (some (.int b), g) := zIret_i tJ9_floorMod_7cf53
theorem rJ9_abs_0f7a4 {b : Int32} {g : pmH} : zIret mJ9_abs_0f7a4 [.int b] g = some (some (.int b), g) := zIret_i tJ9_abs_0f7a4
theorem r0L_law {g : pmH} : zIret mL_law [.int (nI 0)] g = some (some (.int (bI false)), g) := zIret_b tL_law (Or.inl rfl)
theorem r1L_law {g : pmH} : zIret mL_law [.int (nI 1)] g = some (some (.int (bI true)), g) := zIret_b tL_law (Or.inr rfl)
theorem r2L_law {b : Bool} {g : pmH} : zIret mL_law [.int (bI b)] g = some (some (.int (bI b)), g) := by cases b <;> first | exact r0L_law | exact r1L_law
