def mX0_init : MI := (yX0_init, cX0_init, 1, none)
theorem eX0_init : plainName mX0_init.1.cls = true ∧ mX0_init.2.2.1 = 1 := by decide +kernel
def mX0_bakeRow : MI := (yX0_bakeRow, cX0_bakeRow, 5, some .int)
theorem eX0_bakeRow : plainName mX0_bakeRow.1.cls = true ∧ mX0_bakeRow.2.2.1 = 5 := by decide +kernel
def mX0_bakeWishes : MI := (yX0_bakeWishes, cX0_bakeWishes, 5, some .int)
theorem eX0_bakeWishes : plainName mX0_bakeWishes.1.cls = true ∧ mX0_bakeWishes.2.2.1 = 5 := by decide +kernel
def mX0_bakeAll : MI := (yX0_bakeAll, cX0_bakeAll, 4, none)
theorem eX0_bakeAll : plainName mX0_bakeAll.1.cls = true ∧ mX0_bakeAll.2.2.1 = 4 := by decide +kernel
def mX0_bakeTold : MI := (yX0_bakeTold, cX0_bakeTold, 8, some .int)
theorem eX0_bakeTold : plainName mX0_bakeTold.1.cls = true ∧ mX0_bakeTold.2.2.1 = 8 := by decide +kernel
def mX1_init : MI := (yX1_init, cX1_init, 1, none)
theorem eX1_init : plainName mX1_init.1.cls = true ∧ mX1_init.2.2.1 = 1 := by decide +kernel
def mX1_findRing : MI := (yX1_findRing, cX1_findRing, 3, none)
theorem eX1_findRing : plainName mX1_findRing.1.cls = true ∧ mX1_findRing.2.2.1 = 3 := by decide +kernel
def mX1_gatherCreditors : MI := (yX1_gatherCreditors, cX1_gatherCreditors, 4, none)
theorem eX1_gatherCreditors : plainName mX1_gatherCreditors.1.cls = true ∧ mX1_gatherCreditors.2.2.1 = 4 := by decide +kernel
def mX1_measure : MI := (yX1_measure, cX1_measure, 8, none)
theorem eX1_measure : plainName mX1_measure.1.cls = true ∧ mX1_measure.2.2.1 = 8 := by decide +kernel
def mX1_traceFrom : MI := (yX1_traceFrom, cX1_traceFrom, 5, none)
theorem eX1_traceFrom : plainName mX1_traceFrom.1.cls = true ∧ mX1_traceFrom.2.2.1 = 5 := by decide +kernel
def mX1_nextOn : MI := (yX1_nextOn, cX1_nextOn, 5, some .int)
theorem eX1_nextOn : plainName mX1_nextOn.1.cls = true ∧ mX1_nextOn.2.2.1 = 5 := by decide +kernel
def mX1_clearRings : MI := (yX1_clearRings, cX1_clearRings, 4, some .int)
theorem eX1_clearRings : plainName mX1_clearRings.1.cls = true ∧ mX1_clearRings.2.2.1 = 4 := by decide +kernel
def mX1_nextInChain : MI := (yX1_nextInChain, cX1_nextInChain, 2, some .int)
theorem eX1_nextInChain : plainName mX1_nextInChain.1.cls = true ∧ mX1_nextInChain.2.2.1 = 2 := by decide +kernel
def mX1_leastDebt : MI := (yX1_leastDebt, cX1_leastDebt, 4, some .int)
theorem eX1_leastDebt : plainName mX1_leastDebt.1.cls = true ∧ mX1_leastDebt.2.2.1 = 4 := by decide +kernel
def mX1_takeOff : MI := (yX1_takeOff, cX1_takeOff, 4, none)
theorem eX1_takeOff : plainName mX1_takeOff.1.cls = true ∧ mX1_takeOff.2.2.1 = 4 := by decide +kernel
def mX1_fewestPayments : MI := (yX1_fewestPayments, cX1_fewestPayments, 7, some .int)
theorem eX1_fewestPayments : plainName mX1_fewestPayments.1.cls = true ∧ mX1_fewestPayments.2.2.1 = 7 := by decide +kernel
def mX1_mostParts : MI := (yX1_mostParts, cX1_mostParts, 5, some .int)
theorem eX1_mostParts : plainName mX1_mostParts.1.cls = true ∧ mX1_mostParts.2.2.1 = 5 := by decide +kernel
def mX2_init : MI := (yX2_init, cX2_init, 1, none)
theorem eX2_init : plainName mX2_init.1.cls = true ∧ mX2_init.2.2.1 = 1 := by decide +kernel
def mX2_reset : MI := (yX2_reset, cX2_reset, 1, none)
theorem eX2_reset : plainName mX2_reset.1.cls = true ∧ mX2_reset.2.2.1 = 1 := by decide +kernel
def mX2_become : MI := (yX2_become, cX2_become, 2, none)
theorem eX2_become : plainName mX2_become.1.cls = true ∧ mX2_become.2.2.1 = 2 := by decide +kernel
def mX2_allBread : MI := (yX2_allBread, cX2_allBread, 3, some .int)
theorem eX2_allBread : plainName mX2_allBread.1.cls = true ∧ mX2_allBread.2.2.1 = 3 := by decide +kernel
def mX2_allOwed : MI := (yX2_allOwed, cX2_allOwed, 3, some .int)
theorem eX2_allOwed : plainName mX2_allOwed.1.cls = true ∧ mX2_allOwed.2.2.1 = 3 := by decide +kernel
def mX2_changeEats : MI := (yX2_changeEats, cX2_changeEats, 2, none)
theorem eX2_changeEats : plainName mX2_changeEats.1.cls = true ∧ mX2_changeEats.2.2.1 = 2 := by decide +kernel
def mX2_eat : MI := (yX2_eat, cX2_eat, 4, some .int)
theorem eX2_eat : plainName mX2_eat.1.cls = true ∧ mX2_eat.2.2.1 = 4 := by decide +kernel
def mX2_ageBread : MI := (yX2_ageBread, cX2_ageBread, 5, some .int)
theorem eX2_ageBread : plainName mX2_ageBread.1.cls = true ∧ mX2_ageBread.2.2.1 = 5 := by decide +kernel
def mX2_absorb : MI := (yX2_absorb, cX2_absorb, 3, none)
theorem eX2_absorb : plainName mX2_absorb.1.cls = true ∧ mX2_absorb.2.2.1 = 3 := by decide +kernel
def mX2_turnTo : MI := (yX2_turnTo, cX2_turnTo, 5, none)
theorem eX2_turnTo : plainName mX2_turnTo.1.cls = true ∧ mX2_turnTo.2.2.1 = 5 := by decide +kernel
def mX3_init : MI := (yX3_init, cX3_init, 1, none)
theorem eX3_init : plainName mX3_init.1.cls = true ∧ mX3_init.2.2.1 = 1 := by decide +kernel
def mX3_survey : MI := (yX3_survey, cX3_survey, 6, none)
theorem eX3_survey : plainName mX3_survey.1.cls = true ∧ mX3_survey.2.2.1 = 6 := by decide +kernel
def mX3_totalWith : MI := (yX3_totalWith, cX3_totalWith, 4, some .int)
theorem eX3_totalWith : plainName mX3_totalWith.1.cls = true ∧ mX3_totalWith.2.2.1 = 4 := by decide +kernel
def mX3_ovensFilled : MI := (yX3_ovensFilled, cX3_ovensFilled, 5, some .int)
theorem eX3_ovensFilled : plainName mX3_ovensFilled.1.cls = true ∧ mX3_ovensFilled.2.2.1 = 5 := by decide +kernel
def mX3_pick : MI := (yX3_pick, cX3_pick, 9, some .int)
theorem eX3_pick : plainName mX3_pick.1.cls = true ∧ mX3_pick.2.2.1 = 9 := by decide +kernel
def mX3_leavers : MI := (yX3_leavers, cX3_leavers, 6, some .int)
theorem eX3_leavers : plainName mX3_leavers.1.cls = true ∧ mX3_leavers.2.2.1 = 6 := by decide +kernel
def mX3_leaversTo : MI := (yX3_leaversTo, cX3_leaversTo, 11, some .int)
theorem eX3_leaversTo : plainName mX3_leaversTo.1.cls = true ∧ mX3_leaversTo.2.2.1 = 11 := by decide +kernel
def mX3_cheaperThanIn : MI := (yX3_cheaperThanIn, cX3_cheaperThanIn, 6, some .int)
theorem eX3_cheaperThanIn : plainName mX3_cheaperThanIn.1.cls = true ∧ mX3_cheaperThanIn.2.2.1 = 6 := by decide +kernel
def mX3_cheaperThanAlone : MI := (yX3_cheaperThanAlone, cX3_cheaperThanAlone, 4, some .int)
theorem eX3_cheaperThanAlone : plainName mX3_cheaperThanAlone.1.cls = true ∧ mX3_cheaperThanAlone.2.2.1 = 4 := by decide +kernel
def mX3_findServed : MI := (yX3_findServed, cX3_findServed, 2, none)
theorem eX3_findServed : plainName mX3_findServed.1.cls = true ∧ mX3_findServed.2.2.1 = 2 := by decide +kernel
def mX3_servesBetter : MI := (yX3_servesBetter, cX3_servesBetter, 3, some .boolean)
theorem eX3_servesBetter : plainName mX3_servesBetter.1.cls = true ∧ mX3_servesBetter.2.2.1 = 3 := by decide +kernel
def mX3_countPartings : MI := (yX3_countPartings, cX3_countPartings, 1, some .int)
theorem eX3_countPartings : plainName mX3_countPartings.1.cls = true ∧ mX3_countPartings.2.2.1 = 1 := by decide +kernel
def mX3_alwaysWith : MI := (yX3_alwaysWith, cX3_alwaysWith, 6, some .int)
theorem eX3_alwaysWith : plainName mX3_alwaysWith.1.cls = true ∧ mX3_alwaysWith.2.2.1 = 6 := by decide +kernel
def mX3_fewestFires : MI := (yX3_fewestFires, cX3_fewestFires, 3, some .int)
theorem eX3_fewestFires : plainName mX3_fewestFires.1.cls = true ∧ mX3_fewestFires.2.2.1 = 3 := by decide +kernel
def mX3_findBetter : MI := (yX3_findBetter, cX3_findBetter, 5, none)
theorem eX3_findBetter : plainName mX3_findBetter.1.cls = true ∧ mX3_findBetter.2.2.1 = 5 := by decide +kernel
def mX3_tryWishes : MI := (yX3_tryWishes, cX3_tryWishes, 9, none)
theorem eX3_tryWishes : plainName mX3_tryWishes.1.cls = true ∧ mX3_tryWishes.2.2.1 = 9 := by decide +kernel
def mX3_fitGroups : MI := (yX3_fitGroups, cX3_fitGroups, 2, none)
theorem eX3_fitGroups : plainName mX3_fitGroups.1.cls = true ∧ mX3_fitGroups.2.2.1 = 2 := by decide +kernel
def mX3_isOfWishers : MI := (yX3_isOfWishers, cX3_isOfWishers, 2, some .boolean)
theorem eX3_isOfWishers : plainName mX3_isOfWishers.1.cls = true ∧ mX3_isOfWishers.2.2.1 = 2 := by decide +kernel
def mX3_fillTable : MI := (yX3_fillTable, cX3_fillTable, 3, none)
theorem eX3_fillTable : plainName mX3_fillTable.1.cls = true ∧ mX3_fillTable.2.2.1 = 3 := by decide +kernel
def mX3_cell : MI := (yX3_cell, cX3_cell, 8, some .int)
theorem eX3_cell : plainName mX3_cell.1.cls = true ∧ mX3_cell.2.2.1 = 8 := by decide +kernel
def mX3_startOf : MI := (yX3_startOf, cX3_startOf, 3, some .int)
theorem eX3_startOf : plainName mX3_startOf.1.cls = true ∧ mX3_startOf.2.2.1 = 3 := by decide +kernel
def mX3_joined : MI := (yX3_joined, cX3_joined, 4, some .int)
theorem eX3_joined : plainName mX3_joined.1.cls = true ∧ mX3_joined.2.2.1 = 4 := by decide +kernel
def mX4_init : MI := (yX4_init, cX4_init, 2, none)
theorem eX4_init : plainName mX4_init.1.cls = true ∧ mX4_init.2.2.1 = 2 := by decide +kernel
def mX4_look : MI := (yX4_look, cX4_look, 4, none)
theorem eX4_look : plainName mX4_look.1.cls = true ∧ mX4_look.2.2.1 = 4 := by decide +kernel
def mX4_leastHunger : MI := (yX4_leastHunger, cX4_leastHunger, 1, some .int)
theorem eX4_leastHunger : plainName mX4_leastHunger.1.cls = true ∧ mX4_leastHunger.2.2.1 = 1 := by decide +kernel
def mX4_leastStale : MI := (yX4_leastStale, cX4_leastStale, 3, some .int)
theorem eX4_leastStale : plainName mX4_leastStale.1.cls = true ∧ mX4_leastStale.2.2.1 = 3 := by decide +kernel
def mX4_fewestFires : MI := (yX4_fewestFires, cX4_fewestFires, 1, some .int)
theorem eX4_fewestFires : plainName mX4_fewestFires.1.cls = true ∧ mX4_fewestFires.2.2.1 = 1 := by decide +kernel
def mX4_gather : MI := (yX4_gather, cX4_gather, 5, none)
theorem eX4_gather : plainName mX4_gather.1.cls = true ∧ mX4_gather.2.2.1 = 5 := by decide +kernel
def mX4_search : MI := (yX4_search, cX4_search, 5, none)
theorem eX4_search : plainName mX4_search.1.cls = true ∧ mX4_search.2.2.1 = 5 := by decide +kernel
def mX4_scoreOfDay : MI := (yX4_scoreOfDay, cX4_scoreOfDay, 8, some .long)
theorem eX4_scoreOfDay : plainName mX4_scoreOfDay.1.cls = true ∧ mX4_scoreOfDay.2.2.1 = 8 := by decide +kernel
def mX5_init : MI := (yX5_init, cX5_init, 1, none)
theorem eX5_init : plainName mX5_init.1.cls = true ∧ mX5_init.2.2.1 = 1 := by decide +kernel
def mX5_putBytes : MI := (yX5_putBytes, cX5_putBytes, 3, none)
theorem eX5_putBytes : plainName mX5_putBytes.1.cls = true ∧ mX5_putBytes.2.2.1 = 3 := by decide +kernel
def mX5_read : MI := (yX5_read, cX5_read, 4, none)
theorem eX5_read : plainName mX5_read.1.cls = true ∧ mX5_read.2.2.1 = 4 := by decide +kernel
def mX5_readLine : MI := (yX5_readLine, cX5_readLine, 2, none)
theorem eX5_readLine : plainName mX5_readLine.1.cls = true ∧ mX5_readLine.2.2.1 = 2 := by decide +kernel
def mX5_readFamily : MI := (yX5_readFamily, cX5_readFamily, 3, none)
theorem eX5_readFamily : plainName mX5_readFamily.1.cls = true ∧ mX5_readFamily.2.2.1 = 3 := by decide +kernel
def mX5_readBread : MI := (yX5_readBread, cX5_readBread, 6, none)
theorem eX5_readBread : plainName mX5_readBread.1.cls = true ∧ mX5_readBread.2.2.1 = 6 := by decide +kernel
def mX5_readOven : MI := (yX5_readOven, cX5_readOven, 2, none)
theorem eX5_readOven : plainName mX5_readOven.1.cls = true ∧ mX5_readOven.2.2.1 = 2 := by decide +kernel
def mX5_readQuarrel : MI := (yX5_readQuarrel, cX5_readQuarrel, 4, none)
theorem eX5_readQuarrel : plainName mX5_readQuarrel.1.cls = true ∧ mX5_readQuarrel.2.2.1 = 4 := by decide +kernel
def mX5_readKeep : MI := (yX5_readKeep, cX5_readKeep, 2, none)
theorem eX5_readKeep : plainName mX5_readKeep.1.cls = true ∧ mX5_readKeep.2.2.1 = 2 := by decide +kernel
def mX5_readNumber : MI := (yX5_readNumber, cX5_readNumber, 4, some .int)
theorem eX5_readNumber : plainName mX5_readNumber.1.cls = true ∧ mX5_readNumber.2.2.1 = 4 := by decide +kernel
def mX5_blame : MI := (yX5_blame, cX5_blame, 2, none)
theorem eX5_blame : plainName mX5_blame.1.cls = true ∧ mX5_blame.2.2.1 = 2 := by decide +kernel
def mX5_advance : MI := (yX5_advance, cX5_advance, 1, none)
theorem eX5_advance : plainName mX5_advance.1.cls = true ∧ mX5_advance.2.2.1 = 1 := by decide +kernel
def mX5_takeValue : MI := (yX5_takeValue, cX5_takeValue, 2, none)
theorem eX5_takeValue : plainName mX5_takeValue.1.cls = true ∧ mX5_takeValue.2.2.1 = 2 := by decide +kernel
def mX5_isWord : MI := (yX5_isWord, cX5_isWord, 3, some .boolean)
theorem eX5_isWord : plainName mX5_isWord.1.cls = true ∧ mX5_isWord.2.2.1 = 3 := by decide +kernel
def mX5_kindOf : MI := (yX5_kindOf, cX5_kindOf, 1, some .int)
theorem eX5_kindOf : plainName mX5_kindOf.1.cls = true ∧ mX5_kindOf.2.2.1 = 1 := by decide +kernel
def mX6_init : MI := (yX6_init, cX6_init, 1, none)
theorem eX6_init : plainName mX6_init.1.cls = true ∧ mX6_init.2.2.1 = 1 := by decide +kernel
def mX6_make : MI := (yX6_make, cX6_make, 3, none)
theorem eX6_make : plainName mX6_make.1.cls = true ∧ mX6_make.2.2.1 = 3 := by decide +kernel
def mX6_put : MI := (yX6_put, cX6_put, 4, some .long)
theorem eX6_put : plainName mX6_put.1.cls = true ∧ mX6_put.2.2.1 = 4 := by decide +kernel
def mX6_cut : MI := (yX6_cut, cX6_cut, 3, some .long)
theorem eX6_cut : plainName mX6_cut.1.cls = true ∧ mX6_cut.2.2.1 = 3 := by decide +kernel
def mX7_init : MI := (yX7_init, cX7_init, 1, none)
theorem eX7_init : plainName mX7_init.1.cls = true ∧ mX7_init.2.2.1 = 1 := by decide +kernel
def mX7_survey : MI := (yX7_survey, cX7_survey, 3, none)
theorem eX7_survey : plainName mX7_survey.1.cls = true ∧ mX7_survey.2.2.1 = 3 := by decide +kernel
def mX7_admit : MI := (yX7_admit, cX7_admit, 4, none)
theorem eX7_admit : plainName mX7_admit.1.cls = true ∧ mX7_admit.2.2.1 = 4 := by decide +kernel
def mX7_walk : MI := (yX7_walk, cX7_walk, 7, none)
theorem eX7_walk : plainName mX7_walk.1.cls = true ∧ mX7_walk.2.2.1 = 7 := by decide +kernel
def mX7_commonDivisor : MI := (yX7_commonDivisor, cX7_commonDivisor, 6, some .int)
theorem eX7_commonDivisor : plainName mX7_commonDivisor.1.cls = true ∧ mX7_commonDivisor.2.2.1 = 6 := by decide +kernel
def mX7_isBaked : MI := (yX7_isBaked, cX7_isBaked, 2, some .boolean)
theorem eX7_isBaked : plainName mX7_isBaked.1.cls = true ∧ mX7_isBaked.2.2.1 = 2 := by decide +kernel
def mX7_greatestGap : MI := (yX7_greatestGap, cX7_greatestGap, 3, some .int)
theorem eX7_greatestGap : plainName mX7_greatestGap.1.cls = true ∧ mX7_greatestGap.2.2.1 = 3 := by decide +kernel
def mX7_leastFrom : MI := (yX7_leastFrom, cX7_leastFrom, 3, some .int)
theorem eX7_leastFrom : plainName mX7_leastFrom.1.cls = true ∧ mX7_leastFrom.2.2.1 = 3 := by decide +kernel
def mX7_fewestFires : MI := (yX7_fewestFires, cX7_fewestFires, 5, some .int)
theorem eX7_fewestFires : plainName mX7_fewestFires.1.cls = true ∧ mX7_fewestFires.2.2.1 = 5 := by decide +kernel
def mX7_countWays : MI := (yX7_countWays, cX7_countWays, 6, some .int)
theorem eX7_countWays : plainName mX7_countWays.1.cls = true ∧ mX7_countWays.2.2.1 = 6 := by decide +kernel
def mX8_init : MI := (yX8_init, cX8_init, 2, none)
theorem eX8_init : plainName mX8_init.1.cls = true ∧ mX8_init.2.2.1 = 2 := by decide +kernel
def mX8_reset : MI := (yX8_reset, cX8_reset, 1, none)
theorem eX8_reset : plainName mX8_reset.1.cls = true ∧ mX8_reset.2.2.1 = 1 := by decide +kernel
def mX8_become : MI := (yX8_become, cX8_become, 3, none)
theorem eX8_become : plainName mX8_become.1.cls = true ∧ mX8_become.2.2.1 = 3 := by decide +kernel
def mX8_hasFamily : MI := (yX8_hasFamily, cX8_hasFamily, 2, some .boolean)
theorem eX8_hasFamily : plainName mX8_hasFamily.1.cls = true ∧ mX8_hasFamily.2.2.1 = 2 := by decide +kernel
def mX8_hasPair : MI := (yX8_hasPair, cX8_hasPair, 3, some .boolean)
theorem eX8_hasPair : plainName mX8_hasPair.1.cls = true ∧ mX8_hasPair.2.2.1 = 3 := by decide +kernel
def mX8_hasOven : MI := (yX8_hasOven, cX8_hasOven, 2, some .boolean)
theorem eX8_hasOven : plainName mX8_hasOven.1.cls = true ∧ mX8_hasOven.2.2.1 = 2 := by decide +kernel
def mX8_hasSet : MI := (yX8_hasSet, cX8_hasSet, 2, some .boolean)
theorem eX8_hasSet : plainName mX8_hasSet.1.cls = true ∧ mX8_hasSet.2.2.1 = 2 := by decide +kernel
def mX8_balance : MI := (yX8_balance, cX8_balance, 4, some .int)
theorem eX8_balance : plainName mX8_balance.1.cls = true ∧ mX8_balance.2.2.1 = 4 := by decide +kernel
def mX8_allWishes : MI := (yX8_allWishes, cX8_allWishes, 3, some .int)
theorem eX8_allWishes : plainName mX8_allWishes.1.cls = true ∧ mX8_allWishes.2.2.1 = 3 := by decide +kernel
def mX8_greatestWish : MI := (yX8_greatestWish, cX8_greatestWish, 3, some .int)
theorem eX8_greatestWish : plainName mX8_greatestWish.1.cls = true ∧ mX8_greatestWish.2.2.1 = 3 := by decide +kernel
def mX8_fuelFor : MI := (yX8_fuelFor, cX8_fuelFor, 4, some .int)
theorem eX8_fuelFor : plainName mX8_fuelFor.1.cls = true ∧ mX8_fuelFor.2.2.1 = 4 := by decide +kernel
def mX8_hindrance : MI := (yX8_hindrance, cX8_hindrance, 7, some .int)
theorem eX8_hindrance : plainName mX8_hindrance.1.cls = true ∧ mX8_hindrance.2.2.1 = 7 := by decide +kernel
def mX8_bake : MI := (yX8_bake, cX8_bake, 7, some .int)
theorem eX8_bake : plainName mX8_bake.1.cls = true ∧ mX8_bake.2.2.1 = 7 := by decide +kernel
def mX8_dropWishes : MI := (yX8_dropWishes, cX8_dropWishes, 3, none)
theorem eX8_dropWishes : plainName mX8_dropWishes.1.cls = true ∧ mX8_dropWishes.2.2.1 = 3 := by decide +kernel
def mX8_endDay : MI := (yX8_endDay, cX8_endDay, 4, some .int)
theorem eX8_endDay : plainName mX8_endDay.1.cls = true ∧ mX8_endDay.2.2.1 = 4 := by decide +kernel
def mX8_giveFlour : MI := (yX8_giveFlour, cX8_giveFlour, 7, some .int)
theorem eX8_giveFlour : plainName mX8_giveFlour.1.cls = true ∧ mX8_giveFlour.2.2.1 = 7 := by decide +kernel
def mX8_unite : MI := (yX8_unite, cX8_unite, 5, none)
theorem eX8_unite : plainName mX8_unite.1.cls = true ∧ mX8_unite.2.2.1 = 5 := by decide +kernel
def mX9_init : MI := (yX9_init, cX9_init, 2, none)
theorem eX9_init : plainName mX9_init.1.cls = true ∧ mX9_init.2.2.1 = 2 := by decide +kernel
def mX9_feed : MI := (yX9_feed, cX9_feed, 6, some .int)
theorem eX9_feed : plainName mX9_feed.1.cls = true ∧ mX9_feed.2.2.1 = 6 := by decide +kernel
def mX9_village : MI := (yX9_village, cX9_village, 2, some .int)
theorem eX9_village : plainName mX9_village.1.cls = true ∧ mX9_village.2.2.1 = 2 := by decide +kernel
def mX9_fault : MI := (yX9_fault, cX9_fault, 2, some .int)
theorem eX9_fault : plainName mX9_fault.1.cls = true ∧ mX9_fault.2.2.1 = 2 := by decide +kernel
def mX9_family : MI := (yX9_family, cX9_family, 4, some .int)
theorem eX9_family : plainName mX9_family.1.cls = true ∧ mX9_family.2.2.1 = 4 := by decide +kernel
def mX9_breadOfAge : MI := (yX9_breadOfAge, cX9_breadOfAge, 3, some .int)
theorem eX9_breadOfAge : plainName mX9_breadOfAge.1.cls = true ∧ mX9_breadOfAge.2.2.1 = 3 := by decide +kernel
def mX9_oven : MI := (yX9_oven, cX9_oven, 2, some .int)
theorem eX9_oven : plainName mX9_oven.1.cls = true ∧ mX9_oven.2.2.1 = 2 := by decide +kernel
def mX9_quarrel : MI := (yX9_quarrel, cX9_quarrel, 3, some .int)
theorem eX9_quarrel : plainName mX9_quarrel.1.cls = true ∧ mX9_quarrel.2.2.1 = 3 := by decide +kernel
def mX9_fallOut : MI := (yX9_fallOut, cX9_fallOut, 3, some .int)
theorem eX9_fallOut : plainName mX9_fallOut.1.cls = true ∧ mX9_fallOut.2.2.1 = 3 := by decide +kernel
def mX9_wish : MI := (yX9_wish, cX9_wish, 4, some .int)
theorem eX9_wish : plainName mX9_wish.1.cls = true ∧ mX9_wish.2.2.1 = 4 := by decide +kernel
def mX9_mill : MI := (yX9_mill, cX9_mill, 4, some .int)
theorem eX9_mill : plainName mX9_mill.1.cls = true ∧ mX9_mill.2.2.1 = 4 := by decide +kernel
def mX9_fire : MI := (yX9_fire, cX9_fire, 3, some .int)
theorem eX9_fire : plainName mX9_fire.1.cls = true ∧ mX9_fire.2.2.1 = 3 := by decide +kernel
def mX9_fireWishes : MI := (yX9_fireWishes, cX9_fireWishes, 3, some .int)
theorem eX9_fireWishes : plainName mX9_fireWishes.1.cls = true ∧ mX9_fireWishes.2.2.1 = 3 := by decide +kernel
def mX9_judge : MI := (yX9_judge, cX9_judge, 3, some .int)
theorem eX9_judge : plainName mX9_judge.1.cls = true ∧ mX9_judge.2.2.1 = 3 := by decide +kernel
def mX9_perform : MI := (yX9_perform, cX9_perform, 2, some .int)
theorem eX9_perform : plainName mX9_perform.1.cls = true ∧ mX9_perform.2.2.1 = 2 := by decide +kernel
def mX9_day : MI := (yX9_day, cX9_day, 1, some .int)
theorem eX9_day : plainName mX9_day.1.cls = true ∧ mX9_day.2.2.1 = 1 := by decide +kernel
def mX9_drawn : MI := (yX9_drawn, cX9_drawn, 7, some .int)
theorem eX9_drawn : plainName mX9_drawn.1.cls = true ∧ mX9_drawn.2.2.1 = 7 := by decide +kernel
def mX9_nextDraw : MI := (yX9_nextDraw, cX9_nextDraw, 1, some .int)
theorem eX9_nextDraw : plainName mX9_nextDraw.1.cls = true ∧ mX9_nextDraw.2.2.1 = 1 := by decide +kernel
def mX9_lasts : MI := (yX9_lasts, cX9_lasts, 4, some .int)
theorem eX9_lasts : plainName mX9_lasts.1.cls = true ∧ mX9_lasts.2.2.1 = 4 := by decide +kernel
def mX9_isSum : MI := (yX9_isSum, cX9_isSum, 1, some .boolean)
theorem eX9_isSum : plainName mX9_isSum.1.cls = true ∧ mX9_isSum.2.2.1 = 1 := by decide +kernel
def mX9_canBake : MI := (yX9_canBake, cX9_canBake, 2, some .int)
theorem eX9_canBake : plainName mX9_canBake.1.cls = true ∧ mX9_canBake.2.2.1 = 2 := by decide +kernel
def mX9_fires : MI := (yX9_fires, cX9_fires, 2, some .int)
theorem eX9_fires : plainName mX9_fires.1.cls = true ∧ mX9_fires.2.2.1 = 2 := by decide +kernel
def mX9_ways : MI := (yX9_ways, cX9_ways, 2, some .int)
theorem eX9_ways : plainName mX9_ways.1.cls = true ∧ mX9_ways.2.2.1 = 2 := by decide +kernel
def mX9_gap : MI := (yX9_gap, cX9_gap, 1, some .int)
theorem eX9_gap : plainName mX9_gap.1.cls = true ∧ mX9_gap.2.2.1 = 1 := by decide +kernel
def mX9_upTo : MI := (yX9_upTo, cX9_upTo, 2, some .int)
theorem eX9_upTo : plainName mX9_upTo.1.cls = true ∧ mX9_upTo.2.2.1 = 2 := by decide +kernel
def mX9_group : MI := (yX9_group, cX9_group, 3, some .int)
theorem eX9_group : plainName mX9_group.1.cls = true ∧ mX9_group.2.2.1 = 3 := by decide +kernel
def mX9_fills : MI := (yX9_fills, cX9_fills, 2, some .int)
theorem eX9_fills : plainName mX9_fills.1.cls = true ∧ mX9_fills.2.2.1 = 2 := by decide +kernel
def mX9_served : MI := (yX9_served, cX9_served, 2, some .int)
theorem eX9_served : plainName mX9_served.1.cls = true ∧ mX9_served.2.2.1 = 2 := by decide +kernel
def mX9_parted : MI := (yX9_parted, cX9_parted, 1, some .int)
theorem eX9_parted : plainName mX9_parted.1.cls = true ∧ mX9_parted.2.2.1 = 1 := by decide +kernel
def mX9_together : MI := (yX9_together, cX9_together, 2, some .int)
theorem eX9_together : plainName mX9_together.1.cls = true ∧ mX9_together.2.2.1 = 2 := by decide +kernel
def mX9_stones : MI := (yX9_stones, cX9_stones, 5, some .int)
theorem eX9_stones : plainName mX9_stones.1.cls = true ∧ mX9_stones.2.2.1 = 5 := by decide +kernel
def mX9_leaves : MI := (yX9_leaves, cX9_leaves, 3, some .int)
theorem eX9_leaves : plainName mX9_leaves.1.cls = true ∧ mX9_leaves.2.2.1 = 3 := by decide +kernel
def mX9_stable : MI := (yX9_stable, cX9_stable, 3, some .int)
theorem eX9_stable : plainName mX9_stable.1.cls = true ∧ mX9_stable.2.2.1 = 3 := by decide +kernel
def mX9_better : MI := (yX9_better, cX9_better, 2, some .int)
theorem eX9_better : plainName mX9_better.1.cls = true ∧ mX9_better.2.2.1 = 2 := by decide +kernel
def mX9_lend : MI := (yX9_lend, cX9_lend, 4, some .int)
theorem eX9_lend : plainName mX9_lend.1.cls = true ∧ mX9_lend.2.2.1 = 4 := by decide +kernel
def mX9_owed : MI := (yX9_owed, cX9_owed, 3, some .int)
theorem eX9_owed : plainName mX9_owed.1.cls = true ∧ mX9_owed.2.2.1 = 3 := by decide +kernel
def mX9_ring : MI := (yX9_ring, cX9_ring, 2, some .int)
theorem eX9_ring : plainName mX9_ring.1.cls = true ∧ mX9_ring.2.2.1 = 2 := by decide +kernel
def mX9_clear : MI := (yX9_clear, cX9_clear, 1, some .int)
theorem eX9_clear : plainName mX9_clear.1.cls = true ∧ mX9_clear.2.2.1 = 1 := by decide +kernel
def mX9_payments : MI := (yX9_payments, cX9_payments, 1, some .int)
theorem eX9_payments : plainName mX9_payments.1.cls = true ∧ mX9_payments.2.2.1 = 1 := by decide +kernel
def mX9_ahead : MI := (yX9_ahead, cX9_ahead, 4, some .int)
theorem eX9_ahead : plainName mX9_ahead.1.cls = true ∧ mX9_ahead.2.2.1 = 4 := by decide +kernel
def mX9_enough : MI := (yX9_enough, cX9_enough, 2, some .int)
theorem eX9_enough : plainName mX9_enough.1.cls = true ∧ mX9_enough.2.2.1 = 2 := by decide +kernel
def mX9_marry : MI := (yX9_marry, cX9_marry, 3, some .int)
theorem eX9_marry : plainName mX9_marry.1.cls = true ∧ mX9_marry.2.2.1 = 3 := by decide +kernel
def mX9_isRow : MI := (yX9_isRow, cX9_isRow, 1, some .boolean)
theorem eX9_isRow : plainName mX9_isRow.1.cls = true ∧ mX9_isRow.2.2.1 = 1 := by decide +kernel
def mX9_isImage : MI := (yX9_isImage, cX9_isImage, 1, some .boolean)
theorem eX9_isImage : plainName mX9_isImage.1.cls = true ∧ mX9_isImage.2.2.1 = 1 := by decide +kernel
def mX9_numbers : MI := (yX9_numbers, cX9_numbers, 4, some .int)
theorem eX9_numbers : plainName mX9_numbers.1.cls = true ∧ mX9_numbers.2.2.1 = 4 := by decide +kernel
def mX9_write : MI := (yX9_write, cX9_write, 5, some .long)
theorem eX9_write : plainName mX9_write.1.cls = true ∧ mX9_write.2.2.1 = 5 := by decide +kernel
def mX9_copy : MI := (yX9_copy, cX9_copy, 3, some .int)
theorem eX9_copy : plainName mX9_copy.1.cls = true ∧ mX9_copy.2.2.1 = 3 := by decide +kernel
def mX9_image : MI := (yX9_image, cX9_image, 2, some .int)
theorem eX9_image : plainName mX9_image.1.cls = true ∧ mX9_image.2.2.1 = 2 := by decide +kernel
def mX9_restore : MI := (yX9_restore, cX9_restore, 2, some .int)
theorem eX9_restore : plainName mX9_restore.1.cls = true ∧ mX9_restore.2.2.1 = 2 := by decide +kernel
def mX9_count : MI := (yX9_count, cX9_count, 2, some .int)
theorem eX9_count : plainName mX9_count.1.cls = true ∧ mX9_count.2.2.1 = 2 := by decide +kernel
def mX9_countOfAll : MI := (yX9_countOfAll, cX9_countOfAll, 4, some .int)
theorem eX9_countOfAll : plainName mX9_countOfAll.1.cls = true ∧ mX9_countOfAll.2.2.1 = 4 := by decide +kernel
def mX9_countOfOne : MI := (yX9_countOfOne, cX9_countOfOne, 2, some .int)
theorem eX9_countOfOne : plainName mX9_countOfOne.1.cls = true ∧ mX9_countOfOne.2.2.1 = 2 := by decide +kernel
def mX10_within : MI := (yX10_within, cX10_within, 6, some .boolean)
theorem eX10_within : plainName mX10_within.1.cls = true ∧ mX10_within.2.2.1 = 6 := by decide +kernel
def mX10_init : MI := (yX10_init, cX10_init, 1, none)
theorem eX10_init : plainName mX10_init.1.cls = true ∧ mX10_init.2.2.1 = 1 := by decide +kernel
def mX10_plain : MI := (yX10_plain, cX10_plain, 2, none)
theorem eX10_plain : plainName mX10_plain.1.cls = true ∧ mX10_plain.2.2.1 = 2 := by decide +kernel
def mX10_feed : MI := (yX10_feed, cX10_feed, 8, some .int)
theorem eX10_feed : plainName mX10_feed.1.cls = true ∧ mX10_feed.2.2.1 = 8 := by decide +kernel
def mX10_see : MI := (yX10_see, cX10_see, 2, some .int)
theorem eX10_see : plainName mX10_see.1.cls = true ∧ mX10_see.2.2.1 = 2 := by decide +kernel
def mX10_isSmall : MI := (yX10_isSmall, cX10_isSmall, 1, some .boolean)
theorem eX10_isSmall : plainName mX10_isSmall.1.cls = true ∧ mX10_isSmall.2.2.1 = 1 := by decide +kernel
def mX10_isDigit : MI := (yX10_isDigit, cX10_isDigit, 1, some .boolean)
theorem eX10_isDigit : plainName mX10_isDigit.1.cls = true ∧ mX10_isDigit.2.2.1 = 1 := by decide +kernel
def mX10_keyAt : MI := (yX10_keyAt, cX10_keyAt, 4, some .int)
theorem eX10_keyAt : plainName mX10_keyAt.1.cls = true ∧ mX10_keyAt.2.2.1 = 4 := by decide +kernel
def mX10_next : MI := (yX10_next, cX10_next, 1, none)
theorem eX10_next : plainName mX10_next.1.cls = true ∧ mX10_next.2.2.1 = 1 := by decide +kernel
def mX10_fails : MI := (yX10_fails, cX10_fails, 2, none)
theorem eX10_fails : plainName mX10_fails.1.cls = true ∧ mX10_fails.2.2.1 = 2 := by decide +kernel
def mX10_is : MI := (yX10_is, cX10_is, 2, some .boolean)
theorem eX10_is : plainName mX10_is.1.cls = true ∧ mX10_is.2.2.1 = 2 := by decide +kernel
def mX10_eats : MI := (yX10_eats, cX10_eats, 2, some .boolean)
theorem eX10_eats : plainName mX10_eats.1.cls = true ∧ mX10_eats.2.2.1 = 2 := by decide +kernel
def mX10_takes : MI := (yX10_takes, cX10_takes, 4, some .int)
theorem eX10_takes : plainName mX10_takes.1.cls = true ∧ mX10_takes.2.2.1 = 4 := by decide +kernel
def mX10_readBread : MI := (yX10_readBread, cX10_readBread, 4, none)
theorem eX10_readBread : plainName mX10_readBread.1.cls = true ∧ mX10_readBread.2.2.1 = 4 := by decide +kernel
def mX10_readFamily : MI := (yX10_readFamily, cX10_readFamily, 2, none)
theorem eX10_readFamily : plainName mX10_readFamily.1.cls = true ∧ mX10_readFamily.2.2.1 = 2 := by decide +kernel
def mX10_readOven : MI := (yX10_readOven, cX10_readOven, 2, none)
theorem eX10_readOven : plainName mX10_readOven.1.cls = true ∧ mX10_readOven.2.2.1 = 2 := by decide +kernel
def mX10_readQuarrel : MI := (yX10_readQuarrel, cX10_readQuarrel, 3, none)
theorem eX10_readQuarrel : plainName mX10_readQuarrel.1.cls = true ∧ mX10_readQuarrel.2.2.1 = 3 := by decide +kernel
def mX10_readLine : MI := (yX10_readLine, cX10_readLine, 1, none)
theorem eX10_readLine : plainName mX10_readLine.1.cls = true ∧ mX10_readLine.2.2.1 = 1 := by decide +kernel
def mX10_village : MI := (yX10_village, cX10_village, 3, some .int)
theorem eX10_village : plainName mX10_village.1.cls = true ∧ mX10_village.2.2.1 = 3 := by decide +kernel
def mX10_fault : MI := (yX10_fault, cX10_fault, 2, some .int)
theorem eX10_fault : plainName mX10_fault.1.cls = true ∧ mX10_fault.2.2.1 = 2 := by decide +kernel
def mX10_sets : MI := (yX10_sets, cX10_sets, 5, none)
theorem eX10_sets : plainName mX10_sets.1.cls = true ∧ mX10_sets.2.2.1 = 5 := by decide +kernel
def mX10_isFamily : MI := (yX10_isFamily, cX10_isFamily, 2, some .boolean)
theorem eX10_isFamily : plainName mX10_isFamily.1.cls = true ∧ mX10_isFamily.2.2.1 = 2 := by decide +kernel
def mX10_areTwo : MI := (yX10_areTwo, cX10_areTwo, 3, some .boolean)
theorem eX10_areTwo : plainName mX10_areTwo.1.cls = true ∧ mX10_areTwo.2.2.1 = 3 := by decide +kernel
def mX10_isOven : MI := (yX10_isOven, cX10_isOven, 2, some .boolean)
theorem eX10_isOven : plainName mX10_isOven.1.cls = true ∧ mX10_isOven.2.2.1 = 2 := by decide +kernel
def mX10_isIn : MI := (yX10_isIn, cX10_isIn, 3, some .boolean)
theorem eX10_isIn : plainName mX10_isIn.1.cls = true ∧ mX10_isIn.2.2.1 = 3 := by decide +kernel
def mX10_bitsOf : MI := (yX10_bitsOf, cX10_bitsOf, 3, some .int)
theorem eX10_bitsOf : plainName mX10_bitsOf.1.cls = true ∧ mX10_bitsOf.2.2.1 = 3 := by decide +kernel
def mX10_quarrels : MI := (yX10_quarrels, cX10_quarrels, 3, some .boolean)
theorem eX10_quarrels : plainName mX10_quarrels.1.cls = true ∧ mX10_quarrels.2.2.1 = 3 := by decide +kernel
def mX10_debt : MI := (yX10_debt, cX10_debt, 3, some .int)
theorem eX10_debt : plainName mX10_debt.1.cls = true ∧ mX10_debt.2.2.1 = 3 := by decide +kernel
def mX10_balance : MI := (yX10_balance, cX10_balance, 4, some .int)
theorem eX10_balance : plainName mX10_balance.1.cls = true ∧ mX10_balance.2.2.1 = 4 := by decide +kernel
def mX10_breadOf : MI := (yX10_breadOf, cX10_breadOf, 4, some .int)
theorem eX10_breadOf : plainName mX10_breadOf.1.cls = true ∧ mX10_breadOf.2.2.1 = 4 := by decide +kernel
def mX10_family : MI := (yX10_family, cX10_family, 3, some .int)
theorem eX10_family : plainName mX10_family.1.cls = true ∧ mX10_family.2.2.1 = 3 := by decide +kernel
def mX10_oven : MI := (yX10_oven, cX10_oven, 2, some .int)
theorem eX10_oven : plainName mX10_oven.1.cls = true ∧ mX10_oven.2.2.1 = 2 := by decide +kernel
def mX10_quarrel : MI := (yX10_quarrel, cX10_quarrel, 3, some .int)
theorem eX10_quarrel : plainName mX10_quarrel.1.cls = true ∧ mX10_quarrel.2.2.1 = 3 := by decide +kernel
def mX10_fallOut : MI := (yX10_fallOut, cX10_fallOut, 3, some .int)
theorem eX10_fallOut : plainName mX10_fallOut.1.cls = true ∧ mX10_fallOut.2.2.1 = 3 := by decide +kernel
def mX10_wish : MI := (yX10_wish, cX10_wish, 4, some .int)
theorem eX10_wish : plainName mX10_wish.1.cls = true ∧ mX10_wish.2.2.1 = 4 := by decide +kernel
def mX10_mill : MI := (yX10_mill, cX10_mill, 3, some .int)
theorem eX10_mill : plainName mX10_mill.1.cls = true ∧ mX10_mill.2.2.1 = 3 := by decide +kernel
def mX10_refuses : MI := (yX10_refuses, cX10_refuses, 7, some .int)
theorem eX10_refuses : plainName mX10_refuses.1.cls = true ∧ mX10_refuses.2.2.1 = 7 := by decide +kernel
def mX10_bakes : MI := (yX10_bakes, cX10_bakes, 6, some .int)
theorem eX10_bakes : plainName mX10_bakes.1.cls = true ∧ mX10_bakes.2.2.1 = 6 := by decide +kernel
def mX10_fire : MI := (yX10_fire, cX10_fire, 4, some .int)
theorem eX10_fire : plainName mX10_fire.1.cls = true ∧ mX10_fire.2.2.1 = 4 := by decide +kernel
def mX10_isSet : MI := (yX10_isSet, cX10_isSet, 3, some .boolean)
theorem eX10_isSet : plainName mX10_isSet.1.cls = true ∧ mX10_isSet.2.2.1 = 3 := by decide +kernel
def mX10_refusesWishes : MI := (yX10_refusesWishes, cX10_refusesWishes, 4, some .int)
theorem eX10_refusesWishes : plainName mX10_refusesWishes.1.cls = true ∧ mX10_refusesWishes.2.2.1 = 4 := by decide +kernel
def mX10_bakesWishes : MI := (yX10_bakesWishes, cX10_bakesWishes, 4, some .int)
theorem eX10_bakesWishes : plainName mX10_bakesWishes.1.cls = true ∧ mX10_bakesWishes.2.2.1 = 4 := by decide +kernel
def mX10_fireWishes : MI := (yX10_fireWishes, cX10_fireWishes, 4, some .int)
theorem eX10_fireWishes : plainName mX10_fireWishes.1.cls = true ∧ mX10_fireWishes.2.2.1 = 4 := by decide +kernel
def mX10_keeps : MI := (yX10_keeps, cX10_keeps, 2, none)
theorem eX10_keeps : plainName mX10_keeps.1.cls = true ∧ mX10_keeps.2.2.1 = 2 := by decide +kernel
def mX10_isAgain : MI := (yX10_isAgain, cX10_isAgain, 2, none)
theorem eX10_isAgain : plainName mX10_isAgain.1.cls = true ∧ mX10_isAgain.2.2.1 = 2 := by decide +kernel
def mX10_firesOf : MI := (yX10_firesOf, cX10_firesOf, 7, some .int)
theorem eX10_firesOf : plainName mX10_firesOf.1.cls = true ∧ mX10_firesOf.2.2.1 = 7 := by decide +kernel
def mX10_judge : MI := (yX10_judge, cX10_judge, 4, some .int)
theorem eX10_judge : plainName mX10_judge.1.cls = true ∧ mX10_judge.2.2.1 = 4 := by decide +kernel
def mX10_perform : MI := (yX10_perform, cX10_perform, 2, some .int)
theorem eX10_perform : plainName mX10_perform.1.cls = true ∧ mX10_perform.2.2.1 = 2 := by decide +kernel
def mX10_lacks : MI := (yX10_lacks, cX10_lacks, 7, some .int)
theorem eX10_lacks : plainName mX10_lacks.1.cls = true ∧ mX10_lacks.2.2.1 = 7 := by decide +kernel
def mX10_ages : MI := (yX10_ages, cX10_ages, 5, some .int)
theorem eX10_ages : plainName mX10_ages.1.cls = true ∧ mX10_ages.2.2.1 = 5 := by decide +kernel
def mX10_ends : MI := (yX10_ends, cX10_ends, 4, some .int)
theorem eX10_ends : plainName mX10_ends.1.cls = true ∧ mX10_ends.2.2.1 = 4 := by decide +kernel
def mX10_day : MI := (yX10_day, cX10_day, 1, some .int)
theorem eX10_day : plainName mX10_day.1.cls = true ∧ mX10_day.2.2.1 = 1 := by decide +kernel
def mX10_drawn : MI := (yX10_drawn, cX10_drawn, 8, some .int)
theorem eX10_drawn : plainName mX10_drawn.1.cls = true ∧ mX10_drawn.2.2.1 = 8 := by decide +kernel
def mX10_lasts : MI := (yX10_lasts, cX10_lasts, 3, some .int)
theorem eX10_lasts : plainName mX10_lasts.1.cls = true ∧ mX10_lasts.2.2.1 = 3 := by decide +kernel
def mX10_laysSums : MI := (yX10_laysSums, cX10_laysSums, 4, none)
theorem eX10_laysSums : plainName mX10_laysSums.1.cls = true ∧ mX10_laysSums.2.2.1 = 4 := by decide +kernel
def mX10_canBake : MI := (yX10_canBake, cX10_canBake, 2, some .int)
theorem eX10_canBake : plainName mX10_canBake.1.cls = true ∧ mX10_canBake.2.2.1 = 2 := by decide +kernel
def mX10_fires : MI := (yX10_fires, cX10_fires, 2, some .int)
theorem eX10_fires : plainName mX10_fires.1.cls = true ∧ mX10_fires.2.2.1 = 2 := by decide +kernel
def mX10_ways : MI := (yX10_ways, cX10_ways, 2, some .int)
theorem eX10_ways : plainName mX10_ways.1.cls = true ∧ mX10_ways.2.2.1 = 2 := by decide +kernel
def mX10_common : MI := (yX10_common, cX10_common, 2, some .int)
theorem eX10_common : plainName mX10_common.1.cls = true ∧ mX10_common.2.2.1 = 2 := by decide +kernel
def mX10_gap : MI := (yX10_gap, cX10_gap, 3, some .int)
theorem eX10_gap : plainName mX10_gap.1.cls = true ∧ mX10_gap.2.2.1 = 3 := by decide +kernel
def mX10_upTo : MI := (yX10_upTo, cX10_upTo, 3, some .int)
theorem eX10_upTo : plainName mX10_upTo.1.cls = true ∧ mX10_upTo.2.2.1 = 3 := by decide +kernel
def mX10_laysGroups : MI := (yX10_laysGroups, cX10_laysGroups, 7, none)
theorem eX10_laysGroups : plainName mX10_laysGroups.1.cls = true ∧ mX10_laysGroups.2.2.1 = 7 := by decide +kernel
def mX10_group : MI := (yX10_group, cX10_group, 5, some .int)
theorem eX10_group : plainName mX10_group.1.cls = true ∧ mX10_group.2.2.1 = 5 := by decide +kernel
def mX10_fills : MI := (yX10_fills, cX10_fills, 2, some .int)
theorem eX10_fills : plainName mX10_fills.1.cls = true ∧ mX10_fills.2.2.1 = 2 := by decide +kernel
def mX10_serves : MI := (yX10_serves, cX10_serves, 5, some .int)
theorem eX10_serves : plainName mX10_serves.1.cls = true ∧ mX10_serves.2.2.1 = 5 := by decide +kernel
def mX10_served : MI := (yX10_served, cX10_served, 3, some .int)
theorem eX10_served : plainName mX10_served.1.cls = true ∧ mX10_served.2.2.1 = 3 := by decide +kernel
def mX10_wishers : MI := (yX10_wishers, cX10_wishers, 3, some .int)
theorem eX10_wishers : plainName mX10_wishers.1.cls = true ∧ mX10_wishers.2.2.1 = 3 := by decide +kernel
def mX10_parts : MI := (yX10_parts, cX10_parts, 5, none)
theorem eX10_parts : plainName mX10_parts.1.cls = true ∧ mX10_parts.2.2.1 = 5 := by decide +kernel
def mX10_laysParted : MI := (yX10_laysParted, cX10_laysParted, 3, some .boolean)
theorem eX10_laysParted : plainName mX10_laysParted.1.cls = true ∧ mX10_laysParted.2.2.1 = 3 := by decide +kernel
def mX10_parted : MI := (yX10_parted, cX10_parted, 1, some .int)
theorem eX10_parted : plainName mX10_parted.1.cls = true ∧ mX10_parted.2.2.1 = 1 := by decide +kernel
def mX10_together : MI := (yX10_together, cX10_together, 2, some .int)
theorem eX10_together : plainName mX10_together.1.cls = true ∧ mX10_together.2.2.1 = 2 := by decide +kernel
def mX10_stones : MI := (yX10_stones, cX10_stones, 8, some .int)
theorem eX10_stones : plainName mX10_stones.1.cls = true ∧ mX10_stones.2.2.1 = 8 := by decide +kernel
def mX10_share : MI := (yX10_share, cX10_share, 3, some .int)
theorem eX10_share : plainName mX10_share.1.cls = true ∧ mX10_share.2.2.1 = 3 := by decide +kernel
def mX10_lures : MI := (yX10_lures, cX10_lures, 7, some .boolean)
theorem eX10_lures : plainName mX10_lures.1.cls = true ∧ mX10_lures.2.2.1 = 7 := by decide +kernel
def mX10_leaving : MI := (yX10_leaving, cX10_leaving, 6, some .int)
theorem eX10_leaving : plainName mX10_leaving.1.cls = true ∧ mX10_leaving.2.2.1 = 6 := by decide +kernel
def mX10_leaves : MI := (yX10_leaves, cX10_leaves, 3, some .int)
theorem eX10_leaves : plainName mX10_leaves.1.cls = true ∧ mX10_leaves.2.2.1 = 3 := by decide +kernel
def mX10_stable : MI := (yX10_stable, cX10_stable, 5, some .int)
theorem eX10_stable : plainName mX10_stable.1.cls = true ∧ mX10_stable.2.2.1 = 5 := by decide +kernel
def mX10_better : MI := (yX10_better, cX10_better, 9, some .int)
theorem eX10_better : plainName mX10_better.1.cls = true ∧ mX10_better.2.2.1 = 9 := by decide +kernel
def mX10_lend : MI := (yX10_lend, cX10_lend, 5, some .int)
theorem eX10_lend : plainName mX10_lend.1.cls = true ∧ mX10_lend.2.2.1 = 5 := by decide +kernel
def mX10_owed : MI := (yX10_owed, cX10_owed, 3, some .int)
theorem eX10_owed : plainName mX10_owed.1.cls = true ∧ mX10_owed.2.2.1 = 3 := by decide +kernel
def mX10_laysFar : MI := (yX10_laysFar, cX10_laysFar, 5, none)
theorem eX10_laysFar : plainName mX10_laysFar.1.cls = true ∧ mX10_laysFar.2.2.1 = 5 := by decide +kernel
def mX10_laysRing : MI := (yX10_laysRing, cX10_laysRing, 5, some .boolean)
theorem eX10_laysRing : plainName mX10_laysRing.1.cls = true ∧ mX10_laysRing.2.2.1 = 5 := by decide +kernel
def mX10_ring : MI := (yX10_ring, cX10_ring, 2, some .int)
theorem eX10_ring : plainName mX10_ring.1.cls = true ∧ mX10_ring.2.2.1 = 2 := by decide +kernel
def mX10_clear : MI := (yX10_clear, cX10_clear, 4, some .int)
theorem eX10_clear : plainName mX10_clear.1.cls = true ∧ mX10_clear.2.2.1 = 4 := by decide +kernel
def mX10_payments : MI := (yX10_payments, cX10_payments, 6, some .int)
theorem eX10_payments : plainName mX10_payments.1.cls = true ∧ mX10_payments.2.2.1 = 6 := by decide +kernel
def mX10_laysCrumbs : MI := (yX10_laysCrumbs, cX10_laysCrumbs, 3, none)
theorem eX10_laysCrumbs : plainName mX10_laysCrumbs.1.cls = true ∧ mX10_laysCrumbs.2.2.1 = 3 := by decide +kernel
def mX10_sumOf : MI := (yX10_sumOf, cX10_sumOf, 4, some .int)
theorem eX10_sumOf : plainName mX10_sumOf.1.cls = true ∧ mX10_sumOf.2.2.1 = 4 := by decide +kernel
def mX10_goesDays : MI := (yX10_goesDays, cX10_goesDays, 5, some .int)
theorem eX10_goesDays : plainName mX10_goesDays.1.cls = true ∧ mX10_goesDays.2.2.1 = 5 := by decide +kernel
def mX10_laysFires : MI := (yX10_laysFires, cX10_laysFires, 5, none)
theorem eX10_laysFires : plainName mX10_laysFires.1.cls = true ∧ mX10_laysFires.2.2.1 = 5 := by decide +kernel
def mX10_rowsOf : MI := (yX10_rowsOf, cX10_rowsOf, 4, some .int)
theorem eX10_rowsOf : plainName mX10_rowsOf.1.cls = true ∧ mX10_rowsOf.2.2.1 = 4 := by decide +kernel
def mX10_ahead : MI := (yX10_ahead, cX10_ahead, 6, some .int)
theorem eX10_ahead : plainName mX10_ahead.1.cls = true ∧ mX10_ahead.2.2.1 = 6 := by decide +kernel
def mX10_enough : MI := (yX10_enough, cX10_enough, 5, some .int)
theorem eX10_enough : plainName mX10_enough.1.cls = true ∧ mX10_enough.2.2.1 = 5 := by decide +kernel
def mX10_joins : MI := (yX10_joins, cX10_joins, 6, none)
theorem eX10_joins : plainName mX10_joins.1.cls = true ∧ mX10_joins.2.2.1 = 6 := by decide +kernel
def mX10_closes : MI := (yX10_closes, cX10_closes, 4, none)
theorem eX10_closes : plainName mX10_closes.1.cls = true ∧ mX10_closes.2.2.1 = 4 := by decide +kernel
def mX10_closesTwice : MI := (yX10_closesTwice, cX10_closesTwice, 5, none)
theorem eX10_closesTwice : plainName mX10_closesTwice.1.cls = true ∧ mX10_closesTwice.2.2.1 = 5 := by decide +kernel
def mX10_weds : MI := (yX10_weds, cX10_weds, 4, none)
theorem eX10_weds : plainName mX10_weds.1.cls = true ∧ mX10_weds.2.2.1 = 4 := by decide +kernel
def mX10_marry : MI := (yX10_marry, cX10_marry, 3, some .int)
theorem eX10_marry : plainName mX10_marry.1.cls = true ∧ mX10_marry.2.2.1 = 3 := by decide +kernel
def mX10_cut : MI := (yX10_cut, cX10_cut, 3, some .long)
theorem eX10_cut : plainName mX10_cut.1.cls = true ∧ mX10_cut.2.2.1 = 3 := by decide +kernel
def mX10_numbers : MI := (yX10_numbers, cX10_numbers, 5, some .int)
theorem eX10_numbers : plainName mX10_numbers.1.cls = true ∧ mX10_numbers.2.2.1 = 5 := by decide +kernel
def mX10_write : MI := (yX10_write, cX10_write, 5, some .long)
theorem eX10_write : plainName mX10_write.1.cls = true ∧ mX10_write.2.2.1 = 5 := by decide +kernel
def mX10_copy : MI := (yX10_copy, cX10_copy, 3, some .int)
theorem eX10_copy : plainName mX10_copy.1.cls = true ∧ mX10_copy.2.2.1 = 3 := by decide +kernel
def mX10_image : MI := (yX10_image, cX10_image, 3, some .int)
theorem eX10_image : plainName mX10_image.1.cls = true ∧ mX10_image.2.2.1 = 3 := by decide +kernel
def mX10_restore : MI := (yX10_restore, cX10_restore, 3, some .int)
theorem eX10_restore : plainName mX10_restore.1.cls = true ∧ mX10_restore.2.2.1 = 3 := by decide +kernel
def mX10_breadAll : MI := (yX10_breadAll, cX10_breadAll, 3, some .int)
theorem eX10_breadAll : plainName mX10_breadAll.1.cls = true ∧ mX10_breadAll.2.2.1 = 3 := by decide +kernel
def mX10_debtAll : MI := (yX10_debtAll, cX10_debtAll, 3, some .int)
theorem eX10_debtAll : plainName mX10_debtAll.1.cls = true ∧ mX10_debtAll.2.2.1 = 3 := by decide +kernel
def mX10_count : MI := (yX10_count, cX10_count, 2, some .int)
theorem eX10_count : plainName mX10_count.1.cls = true ∧ mX10_count.2.2.1 = 2 := by decide +kernel
def mJ6_bitCount_0f7a4 : MI := (yJ6_bitCount_0f7a4, cJ6_bitCount_0f7a4, 1, some .int)
theorem eJ6_bitCount_0f7a4 : plainName mJ6_bitCount_0f7a4.1.cls = true ∧ mJ6_bitCount_0f7a4.2.2.1 = 1 := by decide +kernel
def mJ0_length_8abf5 : MI := (yJ0_length_8abf5, cJ0_length_8abf5, 1, some .int)
theorem eJ0_length_8abf5 : plainName mJ0_length_8abf5.1.cls = true ∧ mJ0_length_8abf5.2.2.1 = 1 := by decide +kernel
def mJ0_charAt_5068e : MI := (yJ0_charAt_5068e, cJ0_charAt_5068e, 2, some .char)
theorem eJ0_charAt_5068e : plainName mJ0_charAt_5068e.1.cls = true ∧ mJ0_charAt_5068e.2.2.1 = 2 := by decide +kernel
def mJ0_coder_7d493 : MI := (yJ0_coder_7d493, cJ0_coder_7d493, 1, some .byte)
theorem eJ0_coder_7d493 : plainName mJ0_coder_7d493.1.cls = true ∧ mJ0_coder_7d493.2.2.1 = 1 := by decide +kernel
def mJ0_isLatin1_aae02 : MI := (yJ0_isLatin1_aae02, cJ0_isLatin1_aae02, 1, some .boolean)
theorem eJ0_isLatin1_aae02 : plainName mJ0_isLatin1_aae02.1.cls = true ∧ mJ0_isLatin1_aae02.2.2.1 = 1 := by decide +kernel
def mJ0_checkIndex_df160 : MI := (yJ0_checkIndex_df160, cJ0_checkIndex_df160, 2, none)
theorem eJ0_checkIndex_df160 : plainName mJ0_checkIndex_df160.1.cls = true ∧ mJ0_checkIndex_df160.2.2.1 = 2 := by decide +kernel
def mJ1_charAt_3b067 : MI := (yJ1_charAt_3b067, cJ1_charAt_3b067, 2, some .char)
theorem eJ1_charAt_3b067 : plainName mJ1_charAt_3b067.1.cls = true ∧ mJ1_charAt_3b067.2.2.1 = 2 := by decide +kernel
def mJ2_getChar_3b067 : MI := (yJ2_getChar_3b067, cJ2_getChar_3b067, 2, some .char)
theorem eJ2_getChar_3b067 : plainName mJ2_getChar_3b067.1.cls = true ∧ mJ2_getChar_3b067.2.2.1 = 2 := by decide +kernel
def mJ2_length_9d52b : MI := (yJ2_length_9d52b, cJ2_length_9d52b, 1, some .int)
theorem eJ2_length_9d52b : plainName mJ2_length_9d52b.1.cls = true ∧ mJ2_length_9d52b.2.2.1 = 1 := by decide +kernel
def mJ2_charAt_3b067 : MI := (yJ2_charAt_3b067, cJ2_charAt_3b067, 2, some .char)
theorem eJ2_charAt_3b067 : plainName mJ2_charAt_3b067.1.cls = true ∧ mJ2_charAt_3b067.2.2.1 = 2 := by decide +kernel
def mJ2_checkIndex_2214a : MI := (yJ2_checkIndex_2214a, cJ2_checkIndex_2214a, 2, none)
theorem eJ2_checkIndex_2214a : plainName mJ2_checkIndex_2214a.1.cls = true ∧ mJ2_checkIndex_2214a.2.2.1 = 2 := by decide +kernel
def mJ7_fill_d0a16 : MI := (yJ7_fill_d0a16, cJ7_fill_d0a16, 5, none)
theorem eJ7_fill_d0a16 : plainName mJ7_fill_d0a16.1.cls = true ∧ mJ7_fill_d0a16.2.2.1 = 5 := by decide +kernel
def mJ7_fill_53178 : MI := (yJ7_fill_53178, cJ7_fill_53178, 4, none)
theorem eJ7_fill_53178 : plainName mJ7_fill_53178.1.cls = true ∧ mJ7_fill_53178.2.2.1 = 4 := by decide +kernel
def mJ3_checkIndex_8e157 : MI := (yJ3_checkIndex_8e157, cJ3_checkIndex_8e157, 3, some .int)
theorem eJ3_checkIndex_8e157 : plainName mJ3_checkIndex_8e157.1.cls = true ∧ mJ3_checkIndex_8e157.2.2.1 = 3 := by decide +kernel
def mL_law : MI := (yL_law, cL_law, 4, some .boolean)
theorem eL_law : plainName mL_law.1.cls = true ∧ mL_law.2.2.1 = 4 := by decide +kernel
