def wsL_startOf_r6 : List Cond := [Cond.code yX1_adjustedAt cX1_adjustedAt 2 (some .int), Cond.methodLink RX2 110 yX4_insert, Cond.methodLink RX2 66 yX4_spreadAroundMedian, Cond.instanceMethod yX4_spreadAroundMedian, Cond.selects RX4 yX4_spreadAroundMedian yX4_spreadAroundMedian, Cond.code yX4_spreadAroundMedian cX4_spreadAroundMedian 1 (some .int), Cond.methodLink RX2 58 yX0_at, Cond.methodLink RX2 98 yX2_consider, Cond.instanceMethod yX2_consider, Cond.selects RX2 yX2_consider yX2_consider, Cond.code yX2_consider cX2_consider 6 none, Cond.methodLink RX6 206 yX2_followCuts, Cond.instanceMethod yX2_followCuts, Cond.selects RX2 yX2_followCuts yX2_followCuts, Cond.code yX2_followCuts cX2_followCuts 6 none, Cond.fieldLink RX2 47 "SeriesWatcher$Segments" "found" "I", Cond.fieldLink RX2 38 "SeriesWatcher$Segments" "starts" "LSeriesWatcher$Row;", Cond.fieldLink RX2 41 "SeriesWatcher$Segments" "levels" "LSeriesWatcher$Row;", Cond.fieldLink RX2 44 "SeriesWatcher$Segments" "levelsOfValues" "LSeriesWatcher$Row;", Cond.methodLink RX2 62 yX2_sortBetween, Cond.instanceMethod yX2_sortBetween, Cond.selects RX2 yX2_sortBetween yX2_sortBetween, Cond.code yX2_sortBetween cX2_sortBetween 4 none, Cond.methodLink RX2 78 yX4_median]
def wsL_startOf_r7 : List Cond := [Cond.methodLink RX6 135 yX2_howMany, Cond.instanceMethod yX2_howMany, Cond.selects RX2 yX2_howMany yX2_howMany, Cond.code yX2_howMany cX2_howMany 1 (some .int), Cond.methodLink RX6 123 yX6_requireIndex, Cond.static yX6_requireIndex, Cond.code yX6_requireIndex cX6_requireIndex 3 none, Cond.classLink RX6 193 "java/lang/IndexOutOfBoundsException", Cond.initialized "java/lang/IndexOutOfBoundsException", Cond.methodLink RX6 138 yX2_startAt, Cond.instanceMethod yX2_startAt, Cond.selects RX2 yX2_startAt yX2_startAt, Cond.code yX2_startAt cX2_startAt 2 (some .int)]
def wsL_startOf : List Cond := .codeWith yL_startOf cL_startOf 4 (some .int) [(0, 9, 12, 24)] :: ((wsL_startOf_r1 ++ (wsL_startOf_r2 ++ (wsL_startOf_r3 ++ (wsL_startOf_r4 ++ (wsL_startOf_r5 ++ (wsL_startOf_r6 ++ wsL_startOf_r7)))))) ++ wsX60 ++ wsX10 ++ wsX40 ++ wsX30 ++ wsX00 ++ wsX20 ++ (vx_atS RX6 197 "java/lang/IndexOutOfBoundsException" ["java/lang/RuntimeException", "java/lang/Exception"]).filter goodWord)
def wsL_levelOf_r1 : List Cond := [Cond.classLink RL 24 "java/lang/IndexOutOfBoundsException", Cond.methodLink RL 55 yX6_levelOf, Cond.instanceMethod yX6_levelOf, Cond.selects RX6 yX6_levelOf yX6_levelOf, Cond.initialized RX6, Cond.code yX6_levelOf cX6_levelOf 2 (some .int), Cond.fieldLink RX6 30 "SeriesWatcher" "division" "LSeriesWatcher$Segments;", Cond.methodLink RX6 132 yX6_findSegments, Cond.instanceMethod yX6_findSegments, Cond.selects RX6 yX6_findSegments yX6_findSegments, Cond.code yX6_findSegments cX6_findSegments 1 none, Cond.fieldLink RX6 61 "SeriesWatcher" "segmentsFound" "Z", Cond.methodLink RX6 117 yX6_findSeasons, Cond.instanceMethod yX6_findSeasons, Cond.selects RX6 yX6_findSeasons yX6_findSeasons, Cond.code yX6_findSeasons cX6_findSeasons 1 none, Cond.fieldLink RX6 57 "SeriesWatcher" "seasonsFound" "Z", Cond.fieldLink RX6 21 "SeriesWatcher" "seasons" "LSeriesWatcher$Seasons;", Cond.methodLink RX6 200 yX1_find, Cond.instanceMethod yX1_find, Cond.selects RX1 yX1_find yX1_find, Cond.initialized RX1, Cond.code yX1_find cX1_find 2 none, Cond.fieldLink RX1 26 "SeriesWatcher$Seasons" "length" "I"]
def wsL_levelOf_r2 : List Cond := [Cond.fieldLink RX1 33 "SeriesWatcher$Seasons" "series" "LSeriesWatcher$Series;", Cond.fieldLink RX1 16 "SeriesWatcher$Seasons" "adjustedValues" "LSeriesWatcher$Row;", Cond.fieldLink RX1 10 "SeriesWatcher$Seasons" "ofPhases" "LSeriesWatcher$Row;", Cond.methodLink RX1 37 yX1_findMiddleOfAll, Cond.instanceMethod yX1_findMiddleOfAll, Cond.selects RX1 yX1_findMiddleOfAll yX1_findMiddleOfAll, Cond.code yX1_findMiddleOfAll cX1_findMiddleOfAll 2 none, Cond.fieldLink RX1 22 "SeriesWatcher$Seasons" "sorted" "LSeriesWatcher$SortedRow;", Cond.fieldLink RX1 30 "SeriesWatcher$Seasons" "middleOfAll" "I", Cond.methodLink RX1 64 yX4_clear, Cond.instanceMethod yX4_clear, Cond.selects RX4 yX4_clear yX4_clear, Cond.initialized RX4, Cond.code yX4_clear cX4_clear 1 none, Cond.fieldLink RX4 15 "SeriesWatcher$SortedRow" "held" "I", Cond.fieldLink RX4 19 "SeriesWatcher$SortedRow" "spread" "I", Cond.methodLink RX1 44 yX3_count, Cond.instanceMethod yX3_count, Cond.selects RX3 yX3_count yX3_count, Cond.initialized RX3, Cond.code yX3_count cX3_count 1 (some .int), Cond.fieldLink RX3 19 "SeriesWatcher$Series" "count" "I", Cond.methodLink RX1 67 yX3_isHoliday, Cond.instanceMethod yX3_isHoliday]
def wsL_levelOf_r3 : List Cond := [Cond.selects RX3 yX3_isHoliday yX3_isHoliday, Cond.code yX3_isHoliday cX3_isHoliday 2 (some .boolean), Cond.fieldLink RX3 15 "SeriesWatcher$Series" "holidays" "[Z", Cond.methodLink RX3 23 yX3_has, Cond.instanceMethod yX3_has, Cond.selects RX3 yX3_has yX3_has, Cond.code yX3_has cX3_has 2 (some .boolean), Cond.methodLink RX1 50 yX3_numberAt, Cond.instanceMethod yX3_numberAt, Cond.selects RX3 yX3_numberAt yX3_numberAt, Cond.code yX3_numberAt cX3_numberAt 2 (some .int), Cond.fieldLink RX3 9 "SeriesWatcher$Series" "numbers" "[I", Cond.methodLink RX1 71 yX4_insert, Cond.instanceMethod yX4_insert, Cond.selects RX4 yX4_insert yX4_insert, Cond.code yX4_insert cX4_insert 4 none, Cond.fieldLink RX4 9 "SeriesWatcher$SortedRow" "numbers" "[I", Cond.methodLink RX1 74 yX4_median, Cond.instanceMethod yX4_median, Cond.selects RX4 yX4_median yX4_median, Cond.code yX4_median cX4_median 1 (some .int), Cond.methodLink RX1 40 yX1_findSeason, Cond.instanceMethod yX1_findSeason, Cond.selects RX1 yX1_findSeason yX1_findSeason]
def wsL_levelOf_r4 : List Cond := [Cond.code yX1_findSeason cX1_findSeason 3 none, Cond.methodLink RX1 54 yX1_phaseOf, Cond.instanceMethod yX1_phaseOf, Cond.selects RX1 yX1_phaseOf yX1_phaseOf, Cond.code yX1_phaseOf cX1_phaseOf 2 (some .int), Cond.methodLink RX1 60 yX0_put, Cond.instanceMethod yX0_put, Cond.selects RX0 yX0_put yX0_put, Cond.initialized RX0, Cond.code yX0_put cX0_put 3 none, Cond.fieldLink RX0 9 "SeriesWatcher$Row" "numbers" "[I", Cond.methodLink RX1 57 yX0_at, Cond.instanceMethod yX0_at, Cond.selects RX0 yX0_at yX0_at, Cond.code yX0_at cX0_at 2 (some .int), Cond.methodLink RX6 203 yX2_findCuts, Cond.instanceMethod yX2_findCuts, Cond.selects RX2 yX2_findCuts yX2_findCuts, Cond.initialized RX2, Cond.code yX2_findCuts cX2_findCuts 3 none, Cond.fieldLink RX2 50 "SeriesWatcher$Segments" "series" "LSeriesWatcher$Series;", Cond.methodLink RX2 70 yX3_count, Cond.methodLink RX2 75 yX2_findBestFrom, Cond.instanceMethod yX2_findBestFrom]
def wsL_levelOf_r5 : List Cond := [Cond.selects RX2 yX2_findBestFrom yX2_findBestFrom, Cond.code yX2_findBestFrom cX2_findBestFrom 4 none, Cond.fieldLink RX2 12 "SeriesWatcher$Segments" "sorted" "LSeriesWatcher$SortedRow;", Cond.constant RX2 89 (2147483647), Cond.fieldLink RX2 18 "SeriesWatcher$Segments" "leastLength" "I", Cond.fieldLink RX2 22 "SeriesWatcher$Segments" "penalty" "I", Cond.fieldLink RX2 28 "SeriesWatcher$Segments" "restCosts" "LSeriesWatcher$Row;", Cond.fieldLink RX2 32 "SeriesWatcher$Segments" "restCuts" "LSeriesWatcher$Row;", Cond.methodLink RX2 84 yX4_clear, Cond.methodLink RX2 90 yX2_takeAsBest, Cond.instanceMethod yX2_takeAsBest, Cond.selects RX2 yX2_takeAsBest yX2_takeAsBest, Cond.code yX2_takeAsBest cX2_takeAsBest 5 none, Cond.fieldLink RX2 35 "SeriesWatcher$Segments" "firstEnds" "LSeriesWatcher$Row;", Cond.methodLink RX2 81 yX0_put, Cond.methodLink RX2 94 yX2_sortIn, Cond.instanceMethod yX2_sortIn, Cond.selects RX2 yX2_sortIn yX2_sortIn, Cond.code yX2_sortIn cX2_sortIn 2 none, Cond.fieldLink RX2 54 "SeriesWatcher$Segments" "seasons" "LSeriesWatcher$Seasons;", Cond.methodLink RX2 101 yX3_isHoliday, Cond.methodLink RX2 105 yX1_adjustedAt, Cond.instanceMethod yX1_adjustedAt, Cond.selects RX1 yX1_adjustedAt yX1_adjustedAt]
def wsL_levelOf_r6 : List Cond := [Cond.code yX1_adjustedAt cX1_adjustedAt 2 (some .int), Cond.methodLink RX2 110 yX4_insert, Cond.methodLink RX2 66 yX4_spreadAroundMedian, Cond.instanceMethod yX4_spreadAroundMedian, Cond.selects RX4 yX4_spreadAroundMedian yX4_spreadAroundMedian, Cond.code yX4_spreadAroundMedian cX4_spreadAroundMedian 1 (some .int), Cond.methodLink RX2 58 yX0_at, Cond.methodLink RX2 98 yX2_consider, Cond.instanceMethod yX2_consider, Cond.selects RX2 yX2_consider yX2_consider, Cond.code yX2_consider cX2_consider 6 none, Cond.methodLink RX6 206 yX2_followCuts, Cond.instanceMethod yX2_followCuts, Cond.selects RX2 yX2_followCuts yX2_followCuts, Cond.code yX2_followCuts cX2_followCuts 6 none, Cond.fieldLink RX2 47 "SeriesWatcher$Segments" "found" "I", Cond.fieldLink RX2 38 "SeriesWatcher$Segments" "starts" "LSeriesWatcher$Row;", Cond.fieldLink RX2 41 "SeriesWatcher$Segments" "levels" "LSeriesWatcher$Row;", Cond.fieldLink RX2 44 "SeriesWatcher$Segments" "levelsOfValues" "LSeriesWatcher$Row;", Cond.methodLink RX2 62 yX2_sortBetween, Cond.instanceMethod yX2_sortBetween, Cond.selects RX2 yX2_sortBetween yX2_sortBetween, Cond.code yX2_sortBetween cX2_sortBetween 4 none, Cond.methodLink RX2 78 yX4_median]
def wsL_levelOf_r7 : List Cond := [Cond.methodLink RX6 135 yX2_howMany, Cond.instanceMethod yX2_howMany, Cond.selects RX2 yX2_howMany yX2_howMany, Cond.code yX2_howMany cX2_howMany 1 (some .int), Cond.methodLink RX6 123 yX6_requireIndex, Cond.static yX6_requireIndex, Cond.code yX6_requireIndex cX6_requireIndex 3 none, Cond.classLink RX6 193 "java/lang/IndexOutOfBoundsException", Cond.initialized "java/lang/IndexOutOfBoundsException", Cond.methodLink RX6 141 yX2_levelAt, Cond.instanceMethod yX2_levelAt, Cond.selects RX2 yX2_levelAt yX2_levelAt, Cond.code yX2_levelAt cX2_levelAt 2 (some .int)]
def wsL_levelOf : List Cond := .codeWith yL_levelOf cL_levelOf 4 (some .int) [(0, 9, 12, 24)] :: ((wsL_levelOf_r1 ++ (wsL_levelOf_r2 ++ (wsL_levelOf_r3 ++ (wsL_levelOf_r4 ++ (wsL_levelOf_r5 ++ (wsL_levelOf_r6 ++ wsL_levelOf_r7)))))) ++ wsX60 ++ wsX10 ++ wsX40 ++ wsX30 ++ wsX00 ++ wsX20 ++ (vx_atS RX6 197 "java/lang/IndexOutOfBoundsException" ["java/lang/RuntimeException", "java/lang/Exception"]).filter goodWord)
def wsL_costCutAt_r1 : List Cond := [Cond.classLink RL 24 "java/lang/IndexOutOfBoundsException", Cond.classLink RL 13 "java/lang/IllegalArgumentException", Cond.methodLink RL 58 yX6_costCutAt, Cond.instanceMethod yX6_costCutAt, Cond.selects RX6 yX6_costCutAt yX6_costCutAt, Cond.initialized RX6, Cond.code yX6_costCutAt cX6_costCutAt 3 (some .int), Cond.classLink RX6 154 "java/lang/IllegalArgumentException", Cond.initialized "java/lang/IllegalArgumentException", Cond.fieldLink RX6 10 "SeriesWatcher" "series" "LSeriesWatcher$Series;", Cond.fieldLink RX6 30 "SeriesWatcher" "division" "LSeriesWatcher$Segments;", Cond.methodLink RX6 71 yX3_count, Cond.instanceMethod yX3_count, Cond.selects RX3 yX3_count yX3_count, Cond.initialized RX3, Cond.code yX3_count cX3_count 1 (some .int), Cond.fieldLink RX3 19 "SeriesWatcher$Series" "count" "I", Cond.methodLink RX6 123 yX6_requireIndex, Cond.static yX6_requireIndex, Cond.code yX6_requireIndex cX6_requireIndex 3 none, Cond.classLink RX6 193 "java/lang/IndexOutOfBoundsException", Cond.initialized "java/lang/IndexOutOfBoundsException", Cond.methodLink RX6 151 yX2_leastLength, Cond.instanceMethod yX2_leastLength]
def wsL_costCutAt_r2 : List Cond := [Cond.selects RX2 yX2_leastLength yX2_leastLength, Cond.initialized RX2, Cond.code yX2_leastLength cX2_leastLength 1 (some .int), Cond.fieldLink RX2 18 "SeriesWatcher$Segments" "leastLength" "I", Cond.methodLink RX6 117 yX6_findSeasons, Cond.instanceMethod yX6_findSeasons, Cond.selects RX6 yX6_findSeasons yX6_findSeasons, Cond.code yX6_findSeasons cX6_findSeasons 1 none, Cond.fieldLink RX6 57 "SeriesWatcher" "seasonsFound" "Z", Cond.fieldLink RX6 21 "SeriesWatcher" "seasons" "LSeriesWatcher$Seasons;", Cond.methodLink RX6 200 yX1_find, Cond.instanceMethod yX1_find, Cond.selects RX1 yX1_find yX1_find, Cond.initialized RX1, Cond.code yX1_find cX1_find 2 none, Cond.fieldLink RX1 26 "SeriesWatcher$Seasons" "length" "I", Cond.fieldLink RX1 33 "SeriesWatcher$Seasons" "series" "LSeriesWatcher$Series;", Cond.fieldLink RX1 16 "SeriesWatcher$Seasons" "adjustedValues" "LSeriesWatcher$Row;", Cond.fieldLink RX1 10 "SeriesWatcher$Seasons" "ofPhases" "LSeriesWatcher$Row;", Cond.methodLink RX1 37 yX1_findMiddleOfAll, Cond.instanceMethod yX1_findMiddleOfAll, Cond.selects RX1 yX1_findMiddleOfAll yX1_findMiddleOfAll, Cond.code yX1_findMiddleOfAll cX1_findMiddleOfAll 2 none, Cond.fieldLink RX1 22 "SeriesWatcher$Seasons" "sorted" "LSeriesWatcher$SortedRow;"]
def wsL_costCutAt_r3 : List Cond := [Cond.fieldLink RX1 30 "SeriesWatcher$Seasons" "middleOfAll" "I", Cond.methodLink RX1 64 yX4_clear, Cond.instanceMethod yX4_clear, Cond.selects RX4 yX4_clear yX4_clear, Cond.initialized RX4, Cond.code yX4_clear cX4_clear 1 none, Cond.fieldLink RX4 15 "SeriesWatcher$SortedRow" "held" "I", Cond.fieldLink RX4 19 "SeriesWatcher$SortedRow" "spread" "I", Cond.methodLink RX1 44 yX3_count, Cond.methodLink RX1 67 yX3_isHoliday, Cond.instanceMethod yX3_isHoliday, Cond.selects RX3 yX3_isHoliday yX3_isHoliday, Cond.code yX3_isHoliday cX3_isHoliday 2 (some .boolean), Cond.fieldLink RX3 15 "SeriesWatcher$Series" "holidays" "[Z", Cond.methodLink RX3 23 yX3_has, Cond.instanceMethod yX3_has, Cond.selects RX3 yX3_has yX3_has, Cond.code yX3_has cX3_has 2 (some .boolean), Cond.methodLink RX1 50 yX3_numberAt, Cond.instanceMethod yX3_numberAt, Cond.selects RX3 yX3_numberAt yX3_numberAt, Cond.code yX3_numberAt cX3_numberAt 2 (some .int), Cond.fieldLink RX3 9 "SeriesWatcher$Series" "numbers" "[I", Cond.methodLink RX1 71 yX4_insert]
def wsL_costCutAt_r4 : List Cond := [Cond.instanceMethod yX4_insert, Cond.selects RX4 yX4_insert yX4_insert, Cond.code yX4_insert cX4_insert 4 none, Cond.fieldLink RX4 9 "SeriesWatcher$SortedRow" "numbers" "[I", Cond.methodLink RX1 74 yX4_median, Cond.instanceMethod yX4_median, Cond.selects RX4 yX4_median yX4_median, Cond.code yX4_median cX4_median 1 (some .int), Cond.methodLink RX1 40 yX1_findSeason, Cond.instanceMethod yX1_findSeason, Cond.selects RX1 yX1_findSeason yX1_findSeason, Cond.code yX1_findSeason cX1_findSeason 3 none, Cond.methodLink RX1 54 yX1_phaseOf, Cond.instanceMethod yX1_phaseOf, Cond.selects RX1 yX1_phaseOf yX1_phaseOf, Cond.code yX1_phaseOf cX1_phaseOf 2 (some .int), Cond.methodLink RX1 60 yX0_put, Cond.instanceMethod yX0_put, Cond.selects RX0 yX0_put yX0_put, Cond.initialized RX0, Cond.code yX0_put cX0_put 3 none, Cond.fieldLink RX0 9 "SeriesWatcher$Row" "numbers" "[I", Cond.methodLink RX1 57 yX0_at, Cond.instanceMethod yX0_at]
def wsL_costCutAt_r5 : List Cond := [Cond.selects RX0 yX0_at yX0_at, Cond.code yX0_at cX0_at 2 (some .int), Cond.methodLink RX6 147 yX2_costBetween, Cond.instanceMethod yX2_costBetween, Cond.selects RX2 yX2_costBetween yX2_costBetween, Cond.code yX2_costBetween cX2_costBetween 3 (some .int), Cond.fieldLink RX2 12 "SeriesWatcher$Segments" "sorted" "LSeriesWatcher$SortedRow;", Cond.methodLink RX2 62 yX2_sortBetween, Cond.instanceMethod yX2_sortBetween, Cond.selects RX2 yX2_sortBetween yX2_sortBetween, Cond.code yX2_sortBetween cX2_sortBetween 4 none, Cond.methodLink RX2 84 yX4_clear, Cond.methodLink RX2 94 yX2_sortIn, Cond.instanceMethod yX2_sortIn, Cond.selects RX2 yX2_sortIn yX2_sortIn, Cond.code yX2_sortIn cX2_sortIn 2 none, Cond.fieldLink RX2 50 "SeriesWatcher$Segments" "series" "LSeriesWatcher$Series;", Cond.fieldLink RX2 54 "SeriesWatcher$Segments" "seasons" "LSeriesWatcher$Seasons;", Cond.methodLink RX2 101 yX3_isHoliday, Cond.methodLink RX2 105 yX1_adjustedAt, Cond.instanceMethod yX1_adjustedAt, Cond.selects RX1 yX1_adjustedAt yX1_adjustedAt, Cond.code yX1_adjustedAt cX1_adjustedAt 2 (some .int), Cond.methodLink RX2 110 yX4_insert]
def wsL_costCutAt_r6 : List Cond := [Cond.methodLink RX2 66 yX4_spreadAroundMedian, Cond.instanceMethod yX4_spreadAroundMedian, Cond.selects RX4 yX4_spreadAroundMedian yX4_spreadAroundMedian, Cond.code yX4_spreadAroundMedian cX4_spreadAroundMedian 1 (some .int), Cond.methodLink RX6 161 yX2_penaltyOfCut, Cond.instanceMethod yX2_penaltyOfCut, Cond.selects RX2 yX2_penaltyOfCut yX2_penaltyOfCut, Cond.code yX2_penaltyOfCut cX2_penaltyOfCut 1 (some .int), Cond.fieldLink RX2 22 "SeriesWatcher$Segments" "penalty" "I"]
def wsL_costCutAt : List Cond := .codeWith yL_costCutAt cL_costCutAt 4 (some .int) [(0, 9, 12, 24), (0, 9, 15, 13)] :: ((wsL_costCutAt_r1 ++ (wsL_costCutAt_r2 ++ (wsL_costCutAt_r3 ++ (wsL_costCutAt_r4 ++ (wsL_costCutAt_r5 ++ wsL_costCutAt_r6))))) ++ wsX60 ++ wsX30 ++ wsX20 ++ wsX10 ++ wsX40 ++ wsX00 ++ (vx_atS RX6 158 "java/lang/IllegalArgumentException" ["java/lang/RuntimeException", "java/lang/Exception"]).filter goodWord ++ (vx_atS RX6 197 "java/lang/IndexOutOfBoundsException" ["java/lang/RuntimeException", "java/lang/Exception"]).filter goodWord)
def wsL_leastCost_r1 : List Cond := [Cond.classLink RL 15 "java/lang/IllegalStateException", Cond.methodLink RL 61 yX6_leastCost, Cond.instanceMethod yX6_leastCost, Cond.selects RX6 yX6_leastCost yX6_leastCost, Cond.initialized RX6, Cond.code yX6_leastCost cX6_leastCost 1 (some .int), Cond.classLink RX6 164 "java/lang/IllegalStateException", Cond.initialized "java/lang/IllegalStateException", Cond.fieldLink RX6 10 "SeriesWatcher" "series" "LSeriesWatcher$Series;", Cond.fieldLink RX6 39 "SeriesWatcher" "trial" "LSeriesWatcher$Trial;", Cond.methodLink RX6 71 yX3_count, Cond.instanceMethod yX3_count, Cond.selects RX3 yX3_count yX3_count, Cond.initialized RX3, Cond.code yX3_count cX3_count 1 (some .int), Cond.fieldLink RX3 19 "SeriesWatcher$Series" "count" "I", Cond.methodLink RX6 117 yX6_findSeasons, Cond.instanceMethod yX6_findSeasons, Cond.selects RX6 yX6_findSeasons yX6_findSeasons, Cond.code yX6_findSeasons cX6_findSeasons 1 none, Cond.fieldLink RX6 57 "SeriesWatcher" "seasonsFound" "Z", Cond.fieldLink RX6 21 "SeriesWatcher" "seasons" "LSeriesWatcher$Seasons;", Cond.methodLink RX6 200 yX1_find, Cond.instanceMethod yX1_find]
def wsL_leastCost_r2 : List Cond := [Cond.selects RX1 yX1_find yX1_find, Cond.initialized RX1, Cond.code yX1_find cX1_find 2 none, Cond.fieldLink RX1 26 "SeriesWatcher$Seasons" "length" "I", Cond.fieldLink RX1 33 "SeriesWatcher$Seasons" "series" "LSeriesWatcher$Series;", Cond.fieldLink RX1 16 "SeriesWatcher$Seasons" "adjustedValues" "LSeriesWatcher$Row;", Cond.fieldLink RX1 10 "SeriesWatcher$Seasons" "ofPhases" "LSeriesWatcher$Row;", Cond.methodLink RX1 37 yX1_findMiddleOfAll, Cond.instanceMethod yX1_findMiddleOfAll, Cond.selects RX1 yX1_findMiddleOfAll yX1_findMiddleOfAll, Cond.code yX1_findMiddleOfAll cX1_findMiddleOfAll 2 none, Cond.fieldLink RX1 22 "SeriesWatcher$Seasons" "sorted" "LSeriesWatcher$SortedRow;", Cond.fieldLink RX1 30 "SeriesWatcher$Seasons" "middleOfAll" "I", Cond.methodLink RX1 64 yX4_clear, Cond.instanceMethod yX4_clear, Cond.selects RX4 yX4_clear yX4_clear, Cond.initialized RX4, Cond.code yX4_clear cX4_clear 1 none, Cond.fieldLink RX4 15 "SeriesWatcher$SortedRow" "held" "I", Cond.fieldLink RX4 19 "SeriesWatcher$SortedRow" "spread" "I", Cond.methodLink RX1 44 yX3_count, Cond.methodLink RX1 67 yX3_isHoliday, Cond.instanceMethod yX3_isHoliday, Cond.selects RX3 yX3_isHoliday yX3_isHoliday]
def wsL_leastCost_r3 : List Cond := [Cond.code yX3_isHoliday cX3_isHoliday 2 (some .boolean), Cond.fieldLink RX3 15 "SeriesWatcher$Series" "holidays" "[Z", Cond.methodLink RX3 23 yX3_has, Cond.instanceMethod yX3_has, Cond.selects RX3 yX3_has yX3_has, Cond.code yX3_has cX3_has 2 (some .boolean), Cond.methodLink RX1 50 yX3_numberAt, Cond.instanceMethod yX3_numberAt, Cond.selects RX3 yX3_numberAt yX3_numberAt, Cond.code yX3_numberAt cX3_numberAt 2 (some .int), Cond.fieldLink RX3 9 "SeriesWatcher$Series" "numbers" "[I", Cond.methodLink RX1 71 yX4_insert, Cond.instanceMethod yX4_insert, Cond.selects RX4 yX4_insert yX4_insert, Cond.code yX4_insert cX4_insert 4 none, Cond.fieldLink RX4 9 "SeriesWatcher$SortedRow" "numbers" "[I", Cond.methodLink RX1 74 yX4_median, Cond.instanceMethod yX4_median, Cond.selects RX4 yX4_median yX4_median, Cond.code yX4_median cX4_median 1 (some .int), Cond.methodLink RX1 40 yX1_findSeason, Cond.instanceMethod yX1_findSeason, Cond.selects RX1 yX1_findSeason yX1_findSeason, Cond.code yX1_findSeason cX1_findSeason 3 none]
def wsL_leastCost_r4 : List Cond := [Cond.methodLink RX1 54 yX1_phaseOf, Cond.instanceMethod yX1_phaseOf, Cond.selects RX1 yX1_phaseOf yX1_phaseOf, Cond.code yX1_phaseOf cX1_phaseOf 2 (some .int), Cond.methodLink RX1 60 yX0_put, Cond.instanceMethod yX0_put, Cond.selects RX0 yX0_put yX0_put, Cond.initialized RX0, Cond.code yX0_put cX0_put 3 none, Cond.fieldLink RX0 9 "SeriesWatcher$Row" "numbers" "[I", Cond.methodLink RX1 57 yX0_at, Cond.instanceMethod yX0_at, Cond.selects RX0 yX0_at yX0_at, Cond.code yX0_at cX0_at 2 (some .int), Cond.methodLink RX6 169 yX5_leastOfAll, Cond.instanceMethod yX5_leastOfAll, Cond.selects RX5 yX5_leastOfAll yX5_leastOfAll, Cond.initialized RX5, Cond.code yX5_leastOfAll cX5_leastOfAll 4 (some .int), Cond.fieldLink RX5 11 "SeriesWatcher$Trial" "costs" "[I", Cond.fieldLink RX5 15 "SeriesWatcher$Trial" "division" "LSeriesWatcher$Segments;", Cond.methodLink RX5 19 yX2_costBetween, Cond.instanceMethod yX2_costBetween, Cond.selects RX2 yX2_costBetween yX2_costBetween]
def wsL_leastCost_r5 : List Cond := [Cond.initialized RX2, Cond.code yX2_costBetween cX2_costBetween 3 (some .int), Cond.fieldLink RX2 12 "SeriesWatcher$Segments" "sorted" "LSeriesWatcher$SortedRow;", Cond.methodLink RX2 62 yX2_sortBetween, Cond.instanceMethod yX2_sortBetween, Cond.selects RX2 yX2_sortBetween yX2_sortBetween, Cond.code yX2_sortBetween cX2_sortBetween 4 none, Cond.methodLink RX2 84 yX4_clear, Cond.methodLink RX2 94 yX2_sortIn, Cond.instanceMethod yX2_sortIn, Cond.selects RX2 yX2_sortIn yX2_sortIn, Cond.code yX2_sortIn cX2_sortIn 2 none, Cond.fieldLink RX2 50 "SeriesWatcher$Segments" "series" "LSeriesWatcher$Series;", Cond.fieldLink RX2 54 "SeriesWatcher$Segments" "seasons" "LSeriesWatcher$Seasons;", Cond.methodLink RX2 101 yX3_isHoliday, Cond.methodLink RX2 105 yX1_adjustedAt, Cond.instanceMethod yX1_adjustedAt, Cond.selects RX1 yX1_adjustedAt yX1_adjustedAt, Cond.code yX1_adjustedAt cX1_adjustedAt 2 (some .int), Cond.methodLink RX2 110 yX4_insert, Cond.methodLink RX2 66 yX4_spreadAroundMedian, Cond.instanceMethod yX4_spreadAroundMedian, Cond.selects RX4 yX4_spreadAroundMedian yX4_spreadAroundMedian, Cond.code yX4_spreadAroundMedian cX4_spreadAroundMedian 1 (some .int)]
def wsL_leastCost_r6 : List Cond := [Cond.methodLink RX5 25 yX2_leastLength, Cond.instanceMethod yX2_leastLength, Cond.selects RX2 yX2_leastLength yX2_leastLength, Cond.code yX2_leastLength cX2_leastLength 1 (some .int), Cond.fieldLink RX2 18 "SeriesWatcher$Segments" "leastLength" "I", Cond.methodLink RX5 29 yX2_penaltyOfCut, Cond.instanceMethod yX2_penaltyOfCut, Cond.selects RX2 yX2_penaltyOfCut yX2_penaltyOfCut, Cond.code yX2_penaltyOfCut cX2_penaltyOfCut 1 (some .int), Cond.fieldLink RX2 22 "SeriesWatcher$Segments" "penalty" "I", Cond.methodLink RX5 32 yX5_leastFrom, Cond.static yX5_leastFrom, Cond.code yX5_leastFrom cX5_leastFrom 10 (some .int), Cond.methodLink RX5 36 Lib.Math.min.name, Cond.static Lib.Math.min.name, Cond.initialized "java/lang/Math", Cond.code Lib.Math.min.name Lib.Math.min.code 2 (some .int)]
def wsL_leastCost : List Cond := .codeWith yL_leastCost cL_leastCost 3 (some .int) [(0, 8, 11, 15)] :: ((wsL_leastCost_r1 ++ (wsL_leastCost_r2 ++ (wsL_leastCost_r3 ++ (wsL_leastCost_r4 ++ (wsL_leastCost_r5 ++ wsL_leastCost_r6))))) ++ wsX60 ++ wsX30 ++ wsX10 ++ wsX40 ++ wsX00 ++ wsX50 ++ wsX20 ++ (vx_atS RX6 168 "java/lang/IllegalStateException" ["java/lang/RuntimeException", "java/lang/Exception"]).filter goodWord)
def wsL_residual_r1 : List Cond := [Cond.classLink RL 24 "java/lang/IndexOutOfBoundsException", Cond.methodLink RL 65 yX6_residual, Cond.instanceMethod yX6_residual, Cond.selects RX6 yX6_residual yX6_residual, Cond.initialized RX6, Cond.code yX6_residual cX6_residual 2 (some .int), Cond.methodLink RX6 85 yX6_requireNumber, Cond.instanceMethod yX6_requireNumber, Cond.selects RX6 yX6_requireNumber yX6_requireNumber, Cond.code yX6_requireNumber cX6_requireNumber 2 none, Cond.fieldLink RX6 10 "SeriesWatcher" "series" "LSeriesWatcher$Series;", Cond.methodLink RX6 71 yX3_count, Cond.instanceMethod yX3_count, Cond.selects RX3 yX3_count yX3_count, Cond.initialized RX3, Cond.code yX3_count cX3_count 1 (some .int), Cond.fieldLink RX3 19 "SeriesWatcher$Series" "count" "I", Cond.methodLink RX6 123 yX6_requireIndex, Cond.static yX6_requireIndex, Cond.code yX6_requireIndex cX6_requireIndex 3 none, Cond.classLink RX6 193 "java/lang/IndexOutOfBoundsException", Cond.initialized "java/lang/IndexOutOfBoundsException", Cond.methodLink RX6 132 yX6_findSegments, Cond.instanceMethod yX6_findSegments]
def wsL_residual_r2 : List Cond := [Cond.selects RX6 yX6_findSegments yX6_findSegments, Cond.code yX6_findSegments cX6_findSegments 1 none, Cond.fieldLink RX6 61 "SeriesWatcher" "segmentsFound" "Z", Cond.fieldLink RX6 30 "SeriesWatcher" "division" "LSeriesWatcher$Segments;", Cond.methodLink RX6 117 yX6_findSeasons, Cond.instanceMethod yX6_findSeasons, Cond.selects RX6 yX6_findSeasons yX6_findSeasons, Cond.code yX6_findSeasons cX6_findSeasons 1 none, Cond.fieldLink RX6 57 "SeriesWatcher" "seasonsFound" "Z", Cond.fieldLink RX6 21 "SeriesWatcher" "seasons" "LSeriesWatcher$Seasons;", Cond.methodLink RX6 200 yX1_find, Cond.instanceMethod yX1_find, Cond.selects RX1 yX1_find yX1_find, Cond.initialized RX1, Cond.code yX1_find cX1_find 2 none, Cond.fieldLink RX1 26 "SeriesWatcher$Seasons" "length" "I", Cond.fieldLink RX1 33 "SeriesWatcher$Seasons" "series" "LSeriesWatcher$Series;", Cond.fieldLink RX1 16 "SeriesWatcher$Seasons" "adjustedValues" "LSeriesWatcher$Row;", Cond.fieldLink RX1 10 "SeriesWatcher$Seasons" "ofPhases" "LSeriesWatcher$Row;", Cond.methodLink RX1 37 yX1_findMiddleOfAll, Cond.instanceMethod yX1_findMiddleOfAll, Cond.selects RX1 yX1_findMiddleOfAll yX1_findMiddleOfAll, Cond.code yX1_findMiddleOfAll cX1_findMiddleOfAll 2 none, Cond.fieldLink RX1 22 "SeriesWatcher$Seasons" "sorted" "LSeriesWatcher$SortedRow;"]
def wsL_residual_r3 : List Cond := [Cond.fieldLink RX1 30 "SeriesWatcher$Seasons" "middleOfAll" "I", Cond.methodLink RX1 64 yX4_clear, Cond.instanceMethod yX4_clear, Cond.selects RX4 yX4_clear yX4_clear, Cond.initialized RX4, Cond.code yX4_clear cX4_clear 1 none, Cond.fieldLink RX4 15 "SeriesWatcher$SortedRow" "held" "I", Cond.fieldLink RX4 19 "SeriesWatcher$SortedRow" "spread" "I", Cond.methodLink RX1 44 yX3_count, Cond.methodLink RX1 67 yX3_isHoliday, Cond.instanceMethod yX3_isHoliday, Cond.selects RX3 yX3_isHoliday yX3_isHoliday, Cond.code yX3_isHoliday cX3_isHoliday 2 (some .boolean), Cond.fieldLink RX3 15 "SeriesWatcher$Series" "holidays" "[Z", Cond.methodLink RX3 23 yX3_has, Cond.instanceMethod yX3_has, Cond.selects RX3 yX3_has yX3_has, Cond.code yX3_has cX3_has 2 (some .boolean), Cond.methodLink RX1 50 yX3_numberAt, Cond.instanceMethod yX3_numberAt, Cond.selects RX3 yX3_numberAt yX3_numberAt, Cond.code yX3_numberAt cX3_numberAt 2 (some .int), Cond.fieldLink RX3 9 "SeriesWatcher$Series" "numbers" "[I", Cond.methodLink RX1 71 yX4_insert]
def wsL_residual_r4 : List Cond := [Cond.instanceMethod yX4_insert, Cond.selects RX4 yX4_insert yX4_insert, Cond.code yX4_insert cX4_insert 4 none, Cond.fieldLink RX4 9 "SeriesWatcher$SortedRow" "numbers" "[I", Cond.methodLink RX1 74 yX4_median, Cond.instanceMethod yX4_median, Cond.selects RX4 yX4_median yX4_median, Cond.code yX4_median cX4_median 1 (some .int), Cond.methodLink RX1 40 yX1_findSeason, Cond.instanceMethod yX1_findSeason, Cond.selects RX1 yX1_findSeason yX1_findSeason, Cond.code yX1_findSeason cX1_findSeason 3 none, Cond.methodLink RX1 54 yX1_phaseOf, Cond.instanceMethod yX1_phaseOf, Cond.selects RX1 yX1_phaseOf yX1_phaseOf, Cond.code yX1_phaseOf cX1_phaseOf 2 (some .int), Cond.methodLink RX1 60 yX0_put, Cond.instanceMethod yX0_put, Cond.selects RX0 yX0_put yX0_put, Cond.initialized RX0, Cond.code yX0_put cX0_put 3 none, Cond.fieldLink RX0 9 "SeriesWatcher$Row" "numbers" "[I", Cond.methodLink RX1 57 yX0_at, Cond.instanceMethod yX0_at]
def wsL_residual_r5 : List Cond := [Cond.selects RX0 yX0_at yX0_at, Cond.code yX0_at cX0_at 2 (some .int), Cond.methodLink RX6 203 yX2_findCuts, Cond.instanceMethod yX2_findCuts, Cond.selects RX2 yX2_findCuts yX2_findCuts, Cond.initialized RX2, Cond.code yX2_findCuts cX2_findCuts 3 none, Cond.fieldLink RX2 50 "SeriesWatcher$Segments" "series" "LSeriesWatcher$Series;", Cond.methodLink RX2 70 yX3_count, Cond.methodLink RX2 75 yX2_findBestFrom, Cond.instanceMethod yX2_findBestFrom, Cond.selects RX2 yX2_findBestFrom yX2_findBestFrom, Cond.code yX2_findBestFrom cX2_findBestFrom 4 none, Cond.fieldLink RX2 12 "SeriesWatcher$Segments" "sorted" "LSeriesWatcher$SortedRow;", Cond.constant RX2 89 (2147483647), Cond.fieldLink RX2 18 "SeriesWatcher$Segments" "leastLength" "I", Cond.fieldLink RX2 22 "SeriesWatcher$Segments" "penalty" "I", Cond.fieldLink RX2 28 "SeriesWatcher$Segments" "restCosts" "LSeriesWatcher$Row;", Cond.fieldLink RX2 32 "SeriesWatcher$Segments" "restCuts" "LSeriesWatcher$Row;", Cond.methodLink RX2 84 yX4_clear, Cond.methodLink RX2 90 yX2_takeAsBest, Cond.instanceMethod yX2_takeAsBest, Cond.selects RX2 yX2_takeAsBest yX2_takeAsBest, Cond.code yX2_takeAsBest cX2_takeAsBest 5 none]
def wsL_residual_r6 : List Cond := [Cond.fieldLink RX2 35 "SeriesWatcher$Segments" "firstEnds" "LSeriesWatcher$Row;", Cond.methodLink RX2 81 yX0_put, Cond.methodLink RX2 94 yX2_sortIn, Cond.instanceMethod yX2_sortIn, Cond.selects RX2 yX2_sortIn yX2_sortIn, Cond.code yX2_sortIn cX2_sortIn 2 none, Cond.fieldLink RX2 54 "SeriesWatcher$Segments" "seasons" "LSeriesWatcher$Seasons;", Cond.methodLink RX2 101 yX3_isHoliday, Cond.methodLink RX2 105 yX1_adjustedAt, Cond.instanceMethod yX1_adjustedAt, Cond.selects RX1 yX1_adjustedAt yX1_adjustedAt, Cond.code yX1_adjustedAt cX1_adjustedAt 2 (some .int), Cond.methodLink RX2 110 yX4_insert, Cond.methodLink RX2 66 yX4_spreadAroundMedian, Cond.instanceMethod yX4_spreadAroundMedian, Cond.selects RX4 yX4_spreadAroundMedian yX4_spreadAroundMedian, Cond.code yX4_spreadAroundMedian cX4_spreadAroundMedian 1 (some .int), Cond.methodLink RX2 58 yX0_at, Cond.methodLink RX2 98 yX2_consider, Cond.instanceMethod yX2_consider, Cond.selects RX2 yX2_consider yX2_consider, Cond.code yX2_consider cX2_consider 6 none, Cond.methodLink RX6 206 yX2_followCuts, Cond.instanceMethod yX2_followCuts]
def wsL_residual_r7 : List Cond := [Cond.selects RX2 yX2_followCuts yX2_followCuts, Cond.code yX2_followCuts cX2_followCuts 6 none, Cond.fieldLink RX2 47 "SeriesWatcher$Segments" "found" "I", Cond.fieldLink RX2 38 "SeriesWatcher$Segments" "starts" "LSeriesWatcher$Row;", Cond.fieldLink RX2 41 "SeriesWatcher$Segments" "levels" "LSeriesWatcher$Row;", Cond.fieldLink RX2 44 "SeriesWatcher$Segments" "levelsOfValues" "LSeriesWatcher$Row;", Cond.methodLink RX2 62 yX2_sortBetween, Cond.instanceMethod yX2_sortBetween, Cond.selects RX2 yX2_sortBetween yX2_sortBetween, Cond.code yX2_sortBetween cX2_sortBetween 4 none, Cond.methodLink RX2 78 yX4_median, Cond.methodLink RX6 172 yX6_residualAt, Cond.instanceMethod yX6_residualAt, Cond.selects RX6 yX6_residualAt yX6_residualAt, Cond.code yX6_residualAt cX6_residualAt 2 (some .int), Cond.methodLink RX6 129 yX1_adjustedAt, Cond.methodLink RX6 209 yX2_levelAtValue, Cond.instanceMethod yX2_levelAtValue, Cond.selects RX2 yX2_levelAtValue yX2_levelAtValue, Cond.code yX2_levelAtValue cX2_levelAtValue 2 (some .int)]
def wsL_residual : List Cond := .codeWith yL_residual cL_residual 4 (some .int) [(0, 9, 12, 24)] :: ((wsL_residual_r1 ++ (wsL_residual_r2 ++ (wsL_residual_r3 ++ (wsL_residual_r4 ++ (wsL_residual_r5 ++ (wsL_residual_r6 ++ wsL_residual_r7)))))) ++ wsX60 ++ wsX30 ++ wsX10 ++ wsX40 ++ wsX00 ++ wsX20 ++ (vx_atS RX6 197 "java/lang/IndexOutOfBoundsException" ["java/lang/RuntimeException", "java/lang/Exception"]).filter goodWord)
def wsL_verdict_r1 : List Cond := [Cond.classLink RL 24 "java/lang/IndexOutOfBoundsException", Cond.methodLink RL 68 yX6_verdict, Cond.instanceMethod yX6_verdict, Cond.selects RX6 yX6_verdict yX6_verdict, Cond.initialized RX6, Cond.code yX6_verdict cX6_verdict 2 (some .int), Cond.methodLink RX6 85 yX6_requireNumber, Cond.instanceMethod yX6_requireNumber, Cond.selects RX6 yX6_requireNumber yX6_requireNumber, Cond.code yX6_requireNumber cX6_requireNumber 2 none, Cond.fieldLink RX6 10 "SeriesWatcher" "series" "LSeriesWatcher$Series;", Cond.methodLink RX6 71 yX3_count, Cond.instanceMethod yX3_count, Cond.selects RX3 yX3_count yX3_count, Cond.initialized RX3, Cond.code yX3_count cX3_count 1 (some .int), Cond.fieldLink RX3 19 "SeriesWatcher$Series" "count" "I", Cond.methodLink RX6 123 yX6_requireIndex, Cond.static yX6_requireIndex, Cond.code yX6_requireIndex cX6_requireIndex 3 none, Cond.classLink RX6 193 "java/lang/IndexOutOfBoundsException", Cond.initialized "java/lang/IndexOutOfBoundsException", Cond.methodLink RX6 132 yX6_findSegments, Cond.instanceMethod yX6_findSegments]
def wsL_verdict_r2 : List Cond := [Cond.selects RX6 yX6_findSegments yX6_findSegments, Cond.code yX6_findSegments cX6_findSegments 1 none, Cond.fieldLink RX6 61 "SeriesWatcher" "segmentsFound" "Z", Cond.fieldLink RX6 30 "SeriesWatcher" "division" "LSeriesWatcher$Segments;", Cond.methodLink RX6 117 yX6_findSeasons, Cond.instanceMethod yX6_findSeasons, Cond.selects RX6 yX6_findSeasons yX6_findSeasons, Cond.code yX6_findSeasons cX6_findSeasons 1 none, Cond.fieldLink RX6 57 "SeriesWatcher" "seasonsFound" "Z", Cond.fieldLink RX6 21 "SeriesWatcher" "seasons" "LSeriesWatcher$Seasons;", Cond.methodLink RX6 200 yX1_find, Cond.instanceMethod yX1_find, Cond.selects RX1 yX1_find yX1_find, Cond.initialized RX1, Cond.code yX1_find cX1_find 2 none, Cond.fieldLink RX1 26 "SeriesWatcher$Seasons" "length" "I", Cond.fieldLink RX1 33 "SeriesWatcher$Seasons" "series" "LSeriesWatcher$Series;", Cond.fieldLink RX1 16 "SeriesWatcher$Seasons" "adjustedValues" "LSeriesWatcher$Row;", Cond.fieldLink RX1 10 "SeriesWatcher$Seasons" "ofPhases" "LSeriesWatcher$Row;", Cond.methodLink RX1 37 yX1_findMiddleOfAll, Cond.instanceMethod yX1_findMiddleOfAll, Cond.selects RX1 yX1_findMiddleOfAll yX1_findMiddleOfAll, Cond.code yX1_findMiddleOfAll cX1_findMiddleOfAll 2 none, Cond.fieldLink RX1 22 "SeriesWatcher$Seasons" "sorted" "LSeriesWatcher$SortedRow;"]
def wsL_verdict_r3 : List Cond := [Cond.fieldLink RX1 30 "SeriesWatcher$Seasons" "middleOfAll" "I", Cond.methodLink RX1 64 yX4_clear, Cond.instanceMethod yX4_clear, Cond.selects RX4 yX4_clear yX4_clear, Cond.initialized RX4, Cond.code yX4_clear cX4_clear 1 none, Cond.fieldLink RX4 15 "SeriesWatcher$SortedRow" "held" "I", Cond.fieldLink RX4 19 "SeriesWatcher$SortedRow" "spread" "I", Cond.methodLink RX1 44 yX3_count, Cond.methodLink RX1 67 yX3_isHoliday, Cond.instanceMethod yX3_isHoliday, Cond.selects RX3 yX3_isHoliday yX3_isHoliday, Cond.code yX3_isHoliday cX3_isHoliday 2 (some .boolean), Cond.fieldLink RX3 15 "SeriesWatcher$Series" "holidays" "[Z", Cond.methodLink RX3 23 yX3_has, Cond.instanceMethod yX3_has, Cond.selects RX3 yX3_has yX3_has, Cond.code yX3_has cX3_has 2 (some .boolean), Cond.methodLink RX1 50 yX3_numberAt, Cond.instanceMethod yX3_numberAt, Cond.selects RX3 yX3_numberAt yX3_numberAt, Cond.code yX3_numberAt cX3_numberAt 2 (some .int), Cond.fieldLink RX3 9 "SeriesWatcher$Series" "numbers" "[I", Cond.methodLink RX1 71 yX4_insert]
def wsL_verdict_r4 : List Cond := [Cond.instanceMethod yX4_insert, Cond.selects RX4 yX4_insert yX4_insert, Cond.code yX4_insert cX4_insert 4 none, Cond.fieldLink RX4 9 "SeriesWatcher$SortedRow" "numbers" "[I", Cond.methodLink RX1 74 yX4_median, Cond.instanceMethod yX4_median, Cond.selects RX4 yX4_median yX4_median, Cond.code yX4_median cX4_median 1 (some .int), Cond.methodLink RX1 40 yX1_findSeason, Cond.instanceMethod yX1_findSeason, Cond.selects RX1 yX1_findSeason yX1_findSeason, Cond.code yX1_findSeason cX1_findSeason 3 none, Cond.methodLink RX1 54 yX1_phaseOf, Cond.instanceMethod yX1_phaseOf, Cond.selects RX1 yX1_phaseOf yX1_phaseOf, Cond.code yX1_phaseOf cX1_phaseOf 2 (some .int), Cond.methodLink RX1 60 yX0_put, Cond.instanceMethod yX0_put, Cond.selects RX0 yX0_put yX0_put, Cond.initialized RX0, Cond.code yX0_put cX0_put 3 none, Cond.fieldLink RX0 9 "SeriesWatcher$Row" "numbers" "[I", Cond.methodLink RX1 57 yX0_at, Cond.instanceMethod yX0_at]
def wsL_verdict_r5 : List Cond := [Cond.selects RX0 yX0_at yX0_at, Cond.code yX0_at cX0_at 2 (some .int), Cond.methodLink RX6 203 yX2_findCuts, Cond.instanceMethod yX2_findCuts, Cond.selects RX2 yX2_findCuts yX2_findCuts, Cond.initialized RX2, Cond.code yX2_findCuts cX2_findCuts 3 none, Cond.fieldLink RX2 50 "SeriesWatcher$Segments" "series" "LSeriesWatcher$Series;", Cond.methodLink RX2 70 yX3_count, Cond.methodLink RX2 75 yX2_findBestFrom, Cond.instanceMethod yX2_findBestFrom, Cond.selects RX2 yX2_findBestFrom yX2_findBestFrom, Cond.code yX2_findBestFrom cX2_findBestFrom 4 none, Cond.fieldLink RX2 12 "SeriesWatcher$Segments" "sorted" "LSeriesWatcher$SortedRow;", Cond.constant RX2 89 (2147483647), Cond.fieldLink RX2 18 "SeriesWatcher$Segments" "leastLength" "I", Cond.fieldLink RX2 22 "SeriesWatcher$Segments" "penalty" "I", Cond.fieldLink RX2 28 "SeriesWatcher$Segments" "restCosts" "LSeriesWatcher$Row;", Cond.fieldLink RX2 32 "SeriesWatcher$Segments" "restCuts" "LSeriesWatcher$Row;", Cond.methodLink RX2 84 yX4_clear, Cond.methodLink RX2 90 yX2_takeAsBest, Cond.instanceMethod yX2_takeAsBest, Cond.selects RX2 yX2_takeAsBest yX2_takeAsBest, Cond.code yX2_takeAsBest cX2_takeAsBest 5 none]
def wsL_verdict_r6 : List Cond := [Cond.fieldLink RX2 35 "SeriesWatcher$Segments" "firstEnds" "LSeriesWatcher$Row;", Cond.methodLink RX2 81 yX0_put, Cond.methodLink RX2 94 yX2_sortIn, Cond.instanceMethod yX2_sortIn, Cond.selects RX2 yX2_sortIn yX2_sortIn, Cond.code yX2_sortIn cX2_sortIn 2 none, Cond.fieldLink RX2 54 "SeriesWatcher$Segments" "seasons" "LSeriesWatcher$Seasons;", Cond.methodLink RX2 101 yX3_isHoliday, Cond.methodLink RX2 105 yX1_adjustedAt, Cond.instanceMethod yX1_adjustedAt, Cond.selects RX1 yX1_adjustedAt yX1_adjustedAt, Cond.code yX1_adjustedAt cX1_adjustedAt 2 (some .int), Cond.methodLink RX2 110 yX4_insert, Cond.methodLink RX2 66 yX4_spreadAroundMedian, Cond.instanceMethod yX4_spreadAroundMedian, Cond.selects RX4 yX4_spreadAroundMedian yX4_spreadAroundMedian, Cond.code yX4_spreadAroundMedian cX4_spreadAroundMedian 1 (some .int), Cond.methodLink RX2 58 yX0_at, Cond.methodLink RX2 98 yX2_consider, Cond.instanceMethod yX2_consider, Cond.selects RX2 yX2_consider yX2_consider, Cond.code yX2_consider cX2_consider 6 none, Cond.methodLink RX6 206 yX2_followCuts, Cond.instanceMethod yX2_followCuts]
def wsL_verdict_r7 : List Cond := [Cond.selects RX2 yX2_followCuts yX2_followCuts, Cond.code yX2_followCuts cX2_followCuts 6 none, Cond.fieldLink RX2 47 "SeriesWatcher$Segments" "found" "I", Cond.fieldLink RX2 38 "SeriesWatcher$Segments" "starts" "LSeriesWatcher$Row;", Cond.fieldLink RX2 41 "SeriesWatcher$Segments" "levels" "LSeriesWatcher$Row;", Cond.fieldLink RX2 44 "SeriesWatcher$Segments" "levelsOfValues" "LSeriesWatcher$Row;", Cond.methodLink RX2 62 yX2_sortBetween, Cond.instanceMethod yX2_sortBetween, Cond.selects RX2 yX2_sortBetween yX2_sortBetween, Cond.code yX2_sortBetween cX2_sortBetween 4 none, Cond.methodLink RX2 78 yX4_median, Cond.methodLink RX6 178 yX6_boundOfNow, Cond.instanceMethod yX6_boundOfNow, Cond.selects RX6 yX6_boundOfNow yX6_boundOfNow, Cond.code yX6_boundOfNow cX6_boundOfNow 1 (some .int), Cond.fieldLink RX6 50 "SeriesWatcher" "boundFactor" "I", Cond.fieldLink RX6 54 "SeriesWatcher" "boundFloor" "I", Cond.methodLink RX6 226 Lib.Math.max.name, Cond.static Lib.Math.max.name, Cond.initialized "java/lang/Math", Cond.code Lib.Math.max.name Lib.Math.max.code 2 (some .int), Cond.methodLink RX6 175 yX6_medianDeviation, Cond.instanceMethod yX6_medianDeviation, Cond.selects RX6 yX6_medianDeviation yX6_medianDeviation]
def wsL_verdict_r8 : List Cond := [Cond.code yX6_medianDeviation cX6_medianDeviation 2 (some .int), Cond.fieldLink RX6 46 "SeriesWatcher" "deviations" "LSeriesWatcher$SortedRow;", Cond.methodLink RX6 215 Lib.Math.abs.name, Cond.static Lib.Math.abs.name, Cond.code Lib.Math.abs.name Lib.Math.abs.code 1 (some .int), Cond.methodLink RX6 212 yX4_clear, Cond.methodLink RX6 96 yX3_isHoliday, Cond.methodLink RX6 172 yX6_residualAt, Cond.instanceMethod yX6_residualAt, Cond.selects RX6 yX6_residualAt yX6_residualAt, Cond.code yX6_residualAt cX6_residualAt 2 (some .int), Cond.methodLink RX6 129 yX1_adjustedAt, Cond.methodLink RX6 209 yX2_levelAtValue, Cond.instanceMethod yX2_levelAtValue, Cond.selects RX2 yX2_levelAtValue yX2_levelAtValue, Cond.code yX2_levelAtValue cX2_levelAtValue 2 (some .int), Cond.methodLink RX6 220 yX4_insert, Cond.methodLink RX6 223 yX4_median, Cond.methodLink RX6 181 yX6_verdictWithin, Cond.instanceMethod yX6_verdictWithin, Cond.selects RX6 yX6_verdictWithin yX6_verdictWithin, Cond.code yX6_verdictWithin cX6_verdictWithin 3 (some .int), Cond.methodLink RX6 187 yX6_sideOf, Cond.static yX6_sideOf]
def wsL_verdict_r9 : List Cond := [Cond.code yX6_sideOf cX6_sideOf 3 (some .int)]
def wsL_verdict : List Cond := .codeWith yL_verdict cL_verdict 4 (some .int) [(0, 9, 12, 24)] :: ((wsL_verdict_r1 ++ (wsL_verdict_r2 ++ (wsL_verdict_r3 ++ (wsL_verdict_r4 ++ (wsL_verdict_r5 ++ (wsL_verdict_r6 ++ (wsL_verdict_r7 ++ (wsL_verdict_r8 ++ wsL_verdict_r9)))))))) ++ wsX60 ++ wsX30 ++ wsX10 ++ wsX40 ++ wsX00 ++ wsX20 ++ (vx_atS RX6 197 "java/lang/IndexOutOfBoundsException" ["java/lang/RuntimeException", "java/lang/Exception"]).filter goodWord)
def wsL_law0_r1 : List Cond := [Cond.classLink RL 8 RX6, Cond.instantiable RX6 9, Cond.initialized RX6, Cond.classLink RL 72 RX7, Cond.instantiable RX7 20, Cond.initialized RX7, Cond.arrayClass .long, Cond.methodLink RL 71 yX6_init, Cond.instanceMethod yX6_init, Cond.code yX6_init cX6_init 1 none, Cond.methodLink RX6 1 objectInit, Cond.instanceMethod objectInit, Cond.code objectInit ⟨#[0xb1]⟩ 1 none, Cond.classLink RX6 7 RX3, Cond.instantiable RX3 3, Cond.initialized RX3, Cond.fieldLink RX6 10 "SeriesWatcher" "series" "LSeriesWatcher$Series;", Cond.classLink RX6 16 RX1, Cond.instantiable RX1 6, Cond.initialized RX1, Cond.fieldLink RX6 21 "SeriesWatcher" "seasons" "LSeriesWatcher$Seasons;", Cond.classLink RX6 25 RX2, Cond.instantiable RX2 12, Cond.initialized RX2]
def wsL_law0_r2 : List Cond := [Cond.fieldLink RX6 30 "SeriesWatcher" "division" "LSeriesWatcher$Segments;", Cond.classLink RX6 34 RX5, Cond.instantiable RX5 2, Cond.initialized RX5, Cond.fieldLink RX6 39 "SeriesWatcher" "trial" "LSeriesWatcher$Trial;", Cond.classLink RX6 43 RX4, Cond.instantiable RX4 3, Cond.initialized RX4, Cond.fieldLink RX6 46 "SeriesWatcher" "deviations" "LSeriesWatcher$SortedRow;", Cond.fieldLink RX6 50 "SeriesWatcher" "boundFactor" "I", Cond.fieldLink RX6 54 "SeriesWatcher" "boundFloor" "I", Cond.fieldLink RX6 57 "SeriesWatcher" "seasonsFound" "Z", Cond.fieldLink RX6 61 "SeriesWatcher" "segmentsFound" "Z", Cond.instanceMethod yX3_init, Cond.code yX3_init cX3_init 1 none, Cond.methodLink RX3 3 objectInit, Cond.arrayClass .int, Cond.fieldLink RX3 9 "SeriesWatcher$Series" "numbers" "[I", Cond.arrayClass .boolean, Cond.fieldLink RX3 15 "SeriesWatcher$Series" "holidays" "[Z", Cond.fieldLink RX3 19 "SeriesWatcher$Series" "count" "I", Cond.methodLink RX6 18 yX1_init, Cond.instanceMethod yX1_init, Cond.code yX1_init cX1_init 2 none]
def wsL_law0_r3 : List Cond := [Cond.methodLink RX1 1 objectInit, Cond.classLink RX1 7 RX0, Cond.instantiable RX0 1, Cond.initialized RX0, Cond.fieldLink RX1 10 "SeriesWatcher$Seasons" "ofPhases" "LSeriesWatcher$Row;", Cond.fieldLink RX1 16 "SeriesWatcher$Seasons" "adjustedValues" "LSeriesWatcher$Row;", Cond.classLink RX1 19 RX4, Cond.fieldLink RX1 22 "SeriesWatcher$Seasons" "sorted" "LSeriesWatcher$SortedRow;", Cond.fieldLink RX1 26 "SeriesWatcher$Seasons" "length" "I", Cond.fieldLink RX1 30 "SeriesWatcher$Seasons" "middleOfAll" "I", Cond.fieldLink RX1 33 "SeriesWatcher$Seasons" "series" "LSeriesWatcher$Series;", Cond.instanceMethod yX0_init, Cond.code yX0_init cX0_init 1 none, Cond.methodLink RX0 3 objectInit, Cond.fieldLink RX0 9 "SeriesWatcher$Row" "numbers" "[I", Cond.instanceMethod yX4_init, Cond.code yX4_init cX4_init 1 none, Cond.methodLink RX4 3 objectInit, Cond.fieldLink RX4 9 "SeriesWatcher$SortedRow" "numbers" "[I", Cond.fieldLink RX4 15 "SeriesWatcher$SortedRow" "held" "I", Cond.fieldLink RX4 19 "SeriesWatcher$SortedRow" "spread" "I", Cond.methodLink RX6 27 yX2_init, Cond.instanceMethod yX2_init, Cond.code yX2_init cX2_init 3 none]
def wsL_law0_r4 : List Cond := [Cond.methodLink RX2 3 objectInit, Cond.classLink RX2 9 RX4, Cond.fieldLink RX2 12 "SeriesWatcher$Segments" "sorted" "LSeriesWatcher$SortedRow;", Cond.fieldLink RX2 18 "SeriesWatcher$Segments" "leastLength" "I", Cond.fieldLink RX2 22 "SeriesWatcher$Segments" "penalty" "I", Cond.classLink RX2 25 RX0, Cond.fieldLink RX2 28 "SeriesWatcher$Segments" "restCosts" "LSeriesWatcher$Row;", Cond.fieldLink RX2 32 "SeriesWatcher$Segments" "restCuts" "LSeriesWatcher$Row;", Cond.fieldLink RX2 35 "SeriesWatcher$Segments" "firstEnds" "LSeriesWatcher$Row;", Cond.fieldLink RX2 38 "SeriesWatcher$Segments" "starts" "LSeriesWatcher$Row;", Cond.fieldLink RX2 41 "SeriesWatcher$Segments" "levels" "LSeriesWatcher$Row;", Cond.fieldLink RX2 44 "SeriesWatcher$Segments" "levelsOfValues" "LSeriesWatcher$Row;", Cond.fieldLink RX2 47 "SeriesWatcher$Segments" "found" "I", Cond.fieldLink RX2 50 "SeriesWatcher$Segments" "series" "LSeriesWatcher$Series;", Cond.fieldLink RX2 54 "SeriesWatcher$Segments" "seasons" "LSeriesWatcher$Seasons;", Cond.methodLink RX6 36 yX5_init, Cond.instanceMethod yX5_init, Cond.code yX5_init cX5_init 2 none, Cond.methodLink RX5 3 objectInit, Cond.fieldLink RX5 11 "SeriesWatcher$Trial" "costs" "[I", Cond.fieldLink RX5 15 "SeriesWatcher$Trial" "division" "LSeriesWatcher$Segments;", Cond.methodLink RL 74 yX7_init, Cond.instanceMethod yX7_init, Cond.code yX7_init cX7_init 1 none]
def wsL_law0_r5 : List Cond := [Cond.methodLink RX7 1 objectInit, Cond.fieldLink RX7 7 "SeriesWatcherModel" "value" "[I", Cond.fieldLink RX7 13 "SeriesWatcherModel" "holiday" "[Z", Cond.fieldLink RX7 17 "SeriesWatcherModel" "length" "I", Cond.fieldLink RX7 21 "SeriesWatcherModel" "least" "I", Cond.fieldLink RX7 24 "SeriesWatcherModel" "penalty" "I", Cond.fieldLink RX7 27 "SeriesWatcherModel" "factor" "I", Cond.fieldLink RX7 30 "SeriesWatcherModel" "floor" "I", Cond.fieldLink RX7 33 "SeriesWatcherModel" "sorted" "[I", Cond.fieldLink RX7 36 "SeriesWatcherModel" "seasons" "[I", Cond.fieldLink RX7 39 "SeriesWatcherModel" "plain" "[I", Cond.fieldLink RX7 42 "SeriesWatcherModel" "costs" "[I", Cond.fieldLink RX7 45 "SeriesWatcherModel" "levels" "[I", Cond.fieldLink RX7 48 "SeriesWatcherModel" "best" "[I", Cond.fieldLink RX7 51 "SeriesWatcherModel" "end" "[I", Cond.fieldLink RX7 54 "SeriesWatcherModel" "rest" "[I", Cond.methodLink RL 75 yL_add, Cond.static yL_add, Cond.initialized RL, Cond.codeWith yL_add cL_add 4 (some .int) [(0, 9, 12, 13), (0, 9, 15, 15)], Cond.classLink RL 13 "java/lang/IllegalArgumentException", Cond.classLink RL 15 "java/lang/IllegalStateException", Cond.methodLink RL 7 yX6_add, Cond.instanceMethod yX6_add]
def wsL_law0_r6 : List Cond := [Cond.selects RX6 yX6_add yX6_add, Cond.code yX6_add cX6_add 3 (some .int), Cond.methodLink RX6 64 yX6_requireValue, Cond.static yX6_requireValue, Cond.code yX6_requireValue cX6_requireValue 1 none, Cond.methodLink RX6 81 yX6_requireBetween, Cond.static yX6_requireBetween, Cond.code yX6_requireBetween cX6_requireBetween 3 none, Cond.classLink RX6 154 "java/lang/IllegalArgumentException", Cond.initialized "java/lang/IllegalArgumentException", Cond.methodLink RX6 68 yX6_requireRoomFor, Cond.instanceMethod yX6_requireRoomFor, Cond.selects RX6 yX6_requireRoomFor yX6_requireRoomFor, Cond.code yX6_requireRoomFor cX6_requireRoomFor 2 none, Cond.classLink RX6 164 "java/lang/IllegalStateException", Cond.initialized "java/lang/IllegalStateException", Cond.methodLink RX6 71 yX3_count, Cond.instanceMethod yX3_count, Cond.selects RX3 yX3_count yX3_count, Cond.code yX3_count cX3_count 1 (some .int), Cond.methodLink RX6 75 yX3_append, Cond.instanceMethod yX3_append, Cond.selects RX3 yX3_append yX3_append, Cond.code yX3_append cX3_append 2 none]
def wsL_law0_r7 : List Cond := [Cond.methodLink RX6 78 yX6_forgetSeasons, Cond.instanceMethod yX6_forgetSeasons, Cond.selects RX6 yX6_forgetSeasons yX6_forgetSeasons, Cond.code yX6_forgetSeasons cX6_forgetSeasons 1 none, Cond.methodLink RL 80 yX7_add, Cond.instanceMethod yX7_add, Cond.selects RX7 yX7_add yX7_add, Cond.code yX7_add cX7_add 2 (some .int), Cond.fieldLink RX7 57 "SeriesWatcherModel" "thrown" "I", Cond.fieldLink RX7 60 "SeriesWatcherModel" "many" "I", Cond.methodLink RX7 104 yX7_isGiven, Cond.static yX7_isGiven, Cond.code yX7_isGiven cX7_isGiven 1 (some .boolean), Cond.methodLink RX7 63 yX7_in, Cond.static yX7_in, Cond.code yX7_in cX7_in 3 (some .boolean), Cond.methodLink RX7 108 yX7_fails, Cond.instanceMethod yX7_fails, Cond.selects RX7 yX7_fails yX7_fails, Cond.code yX7_fails cX7_fails 2 (some .int), Cond.methodLink RL 81 yX7_thrown, Cond.instanceMethod yX7_thrown, Cond.selects RX7 yX7_thrown yX7_thrown, Cond.code yX7_thrown cX7_thrown 1 (some .int)]
def wsL_law0_r8 : List Cond := [Cond.methodLink RL 84 yL_addMany, Cond.static yL_addMany, Cond.codeWith yL_addMany cL_addMany 5 (some .int) [(0, 10, 13, 13), (0, 10, 17, 15)], Cond.methodLink RL 17 yX6_addMany, Cond.instanceMethod yX6_addMany, Cond.selects RX6 yX6_addMany yX6_addMany, Cond.code yX6_addMany cX6_addMany 4 (some .int), Cond.methodLink RL 87 yX7_addMany, Cond.instanceMethod yX7_addMany, Cond.selects RX7 yX7_addMany yX7_addMany, Cond.code yX7_addMany cX7_addMany 4 (some .int), Cond.methodLink RL 88 yL_correct, Cond.static yL_correct, Cond.codeWith yL_correct cL_correct 5 (some .int) [(0, 10, 13, 24), (0, 10, 17, 13)], Cond.classLink RL 24 "java/lang/IndexOutOfBoundsException", Cond.methodLink RL 21 yX6_correct, Cond.instanceMethod yX6_correct, Cond.selects RX6 yX6_correct yX6_correct, Cond.code yX6_correct cX6_correct 4 (some .int), Cond.methodLink RX6 85 yX6_requireNumber, Cond.instanceMethod yX6_requireNumber, Cond.selects RX6 yX6_requireNumber yX6_requireNumber, Cond.code yX6_requireNumber cX6_requireNumber 2 none, Cond.methodLink RX6 123 yX6_requireIndex]
def wsL_law0_r9 : List Cond := [Cond.static yX6_requireIndex, Cond.code yX6_requireIndex cX6_requireIndex 3 none, Cond.classLink RX6 193 "java/lang/IndexOutOfBoundsException", Cond.initialized "java/lang/IndexOutOfBoundsException", Cond.methodLink RX6 88 yX3_numberAt, Cond.instanceMethod yX3_numberAt, Cond.selects RX3 yX3_numberAt yX3_numberAt, Cond.code yX3_numberAt cX3_numberAt 2 (some .int), Cond.methodLink RX3 23 yX3_has, Cond.instanceMethod yX3_has, Cond.selects RX3 yX3_has yX3_has, Cond.code yX3_has cX3_has 2 (some .boolean), Cond.methodLink RX6 92 yX3_replace, Cond.instanceMethod yX3_replace, Cond.selects RX3 yX3_replace yX3_replace, Cond.code yX3_replace cX3_replace 3 none, Cond.methodLink RL 90 yX7_correct, Cond.instanceMethod yX7_correct, Cond.selects RX7 yX7_correct yX7_correct, Cond.code yX7_correct cX7_correct 4 (some .int), Cond.methodLink RX7 111 yX7_isValue, Cond.instanceMethod yX7_isValue, Cond.selects RX7 yX7_isValue yX7_isValue, Cond.code yX7_isValue cX7_isValue 2 (some .boolean)]
def wsL_law0_r10 : List Cond := [Cond.methodLink RL 91 yL_setHoliday, Cond.static yL_setHoliday, Cond.codeWith yL_setHoliday cL_setHoliday 5 (some .int) [(0, 17, 20, 24)], Cond.methodLink RL 26 yX6_setHoliday, Cond.instanceMethod yX6_setHoliday, Cond.selects RX6 yX6_setHoliday yX6_setHoliday, Cond.code yX6_setHoliday cX6_setHoliday 4 (some .boolean), Cond.methodLink RX6 96 yX3_isHoliday, Cond.instanceMethod yX3_isHoliday, Cond.selects RX3 yX3_isHoliday yX3_isHoliday, Cond.code yX3_isHoliday cX3_isHoliday 2 (some .boolean), Cond.methodLink RX6 100 yX3_markHoliday, Cond.instanceMethod yX3_markHoliday, Cond.selects RX3 yX3_markHoliday yX3_markHoliday, Cond.code yX3_markHoliday cX3_markHoliday 3 none, Cond.methodLink RL 94 yX7_setHoliday, Cond.instanceMethod yX7_setHoliday, Cond.selects RX7 yX7_setHoliday yX7_setHoliday, Cond.code yX7_setHoliday cX7_setHoliday 4 (some .boolean), Cond.methodLink RL 95 yL_drop, Cond.static yL_drop, Cond.codeWith yL_drop cL_drop 4 (some .int) [(0, 9, 12, 13)], Cond.methodLink RL 30 yX6_drop, Cond.instanceMethod yX6_drop]
def wsL_law0_r11 : List Cond := [Cond.selects RX6 yX6_drop yX6_drop, Cond.code yX6_drop cX6_drop 2 (some .int), Cond.methodLink RX6 104 yX3_removeOldest, Cond.instanceMethod yX3_removeOldest, Cond.selects RX3 yX3_removeOldest yX3_removeOldest, Cond.code yX3_removeOldest cX3_removeOldest 3 none, Cond.methodLink RL 97 yX7_drop, Cond.instanceMethod yX7_drop, Cond.selects RX7 yX7_drop yX7_drop, Cond.code yX7_drop cX7_drop 3 (some .int), Cond.methodLink RL 98 yL_setSeason, Cond.static yL_setSeason, Cond.codeWith yL_setSeason cL_setSeason 4 (some .int) [(0, 9, 12, 13)], Cond.methodLink RL 33 yX6_setSeason, Cond.instanceMethod yX6_setSeason, Cond.selects RX6 yX6_setSeason yX6_setSeason, Cond.code yX6_setSeason cX6_setSeason 3 (some .int), Cond.methodLink RX6 107 yX1_length, Cond.instanceMethod yX1_length, Cond.selects RX1 yX1_length yX1_length, Cond.code yX1_length cX1_length 1 (some .int), Cond.methodLink RX6 110 yX1_changeLength, Cond.instanceMethod yX1_changeLength, Cond.selects RX1 yX1_changeLength yX1_changeLength]
def wsL_law0_r12 : List Cond := [Cond.code yX1_changeLength cX1_changeLength 2 none, Cond.methodLink RL 100 yX7_setSeason, Cond.instanceMethod yX7_setSeason, Cond.selects RX7 yX7_setSeason yX7_setSeason, Cond.code yX7_setSeason cX7_setSeason 3 (some .int), Cond.methodLink RL 101 yL_setCuts, Cond.static yL_setCuts, Cond.codeWith yL_setCuts cL_setCuts 4 (some .int) [(0, 6, 9, 13)], Cond.methodLink RL 36 yX6_setCuts, Cond.instanceMethod yX6_setCuts, Cond.selects RX6 yX6_setCuts yX6_setCuts, Cond.code yX6_setCuts cX6_setCuts 3 none, Cond.constant RX6 113 (100000), Cond.methodLink RX6 114 yX2_changeCuts, Cond.instanceMethod yX2_changeCuts, Cond.selects RX2 yX2_changeCuts yX2_changeCuts, Cond.code yX2_changeCuts cX2_changeCuts 3 none, Cond.methodLink RL 104 yX7_setCuts, Cond.instanceMethod yX7_setCuts, Cond.selects RX7 yX7_setCuts yX7_setCuts, Cond.code yX7_setCuts cX7_setCuts 3 none, Cond.constant RX7 114 (100000), Cond.methodLink RL 105 yL_setBound, Cond.static yL_setBound]
def wsL_law0_r13 : List Cond := [Cond.codeWith yL_setBound cL_setBound 4 (some .int) [(0, 6, 9, 13)], Cond.methodLink RL 40 yX6_setBound, Cond.instanceMethod yX6_setBound, Cond.selects RX6 yX6_setBound yX6_setBound, Cond.code yX6_setBound cX6_setBound 3 none, Cond.methodLink RL 107 yX7_setBound, Cond.instanceMethod yX7_setBound, Cond.selects RX7 yX7_setBound yX7_setBound, Cond.code yX7_setBound cX7_setBound 3 none, Cond.methodLink RL 108 yX6_size, Cond.instanceMethod yX6_size, Cond.selects RX6 yX6_size yX6_size, Cond.code yX6_size cX6_size 1 (some .int), Cond.methodLink RL 111 yX7_size, Cond.instanceMethod yX7_size, Cond.selects RX7 yX7_size yX7_size, Cond.code yX7_size cX7_size 1 (some .int), Cond.methodLink RL 112 yL_value, Cond.static yL_value, Cond.codeWith yL_value cL_value 4 (some .int) [(0, 9, 12, 24)], Cond.methodLink RL 43 yX6_value, Cond.instanceMethod yX6_value, Cond.selects RX6 yX6_value yX6_value, Cond.code yX6_value cX6_value 2 (some .int)]
def wsL_law0_r14 : List Cond := [Cond.methodLink RL 114 yX7_value, Cond.instanceMethod yX7_value, Cond.selects RX7 yX7_value yX7_value, Cond.code yX7_value cX7_value 2 (some .int), Cond.methodLink RL 115 yX6_base, Cond.instanceMethod yX6_base, Cond.selects RX6 yX6_base yX6_base, Cond.code yX6_base cX6_base 1 (some .int), Cond.methodLink RX6 117 yX6_findSeasons, Cond.instanceMethod yX6_findSeasons, Cond.selects RX6 yX6_findSeasons yX6_findSeasons, Cond.code yX6_findSeasons cX6_findSeasons 1 none, Cond.methodLink RX6 200 yX1_find, Cond.instanceMethod yX1_find, Cond.selects RX1 yX1_find yX1_find, Cond.code yX1_find cX1_find 2 none, Cond.methodLink RX1 37 yX1_findMiddleOfAll, Cond.instanceMethod yX1_findMiddleOfAll, Cond.selects RX1 yX1_findMiddleOfAll yX1_findMiddleOfAll, Cond.code yX1_findMiddleOfAll cX1_findMiddleOfAll 2 none, Cond.methodLink RX1 64 yX4_clear, Cond.instanceMethod yX4_clear, Cond.selects RX4 yX4_clear yX4_clear, Cond.code yX4_clear cX4_clear 1 none]
def wsL_law0_r15 : List Cond := [Cond.methodLink RX1 44 yX3_count, Cond.methodLink RX1 67 yX3_isHoliday, Cond.methodLink RX1 50 yX3_numberAt, Cond.methodLink RX1 71 yX4_insert, Cond.instanceMethod yX4_insert, Cond.selects RX4 yX4_insert yX4_insert, Cond.code yX4_insert cX4_insert 4 none, Cond.methodLink RX1 74 yX4_median, Cond.instanceMethod yX4_median, Cond.selects RX4 yX4_median yX4_median, Cond.code yX4_median cX4_median 1 (some .int), Cond.methodLink RX1 40 yX1_findSeason, Cond.instanceMethod yX1_findSeason, Cond.selects RX1 yX1_findSeason yX1_findSeason, Cond.code yX1_findSeason cX1_findSeason 3 none, Cond.methodLink RX1 54 yX1_phaseOf, Cond.instanceMethod yX1_phaseOf, Cond.selects RX1 yX1_phaseOf yX1_phaseOf, Cond.code yX1_phaseOf cX1_phaseOf 2 (some .int), Cond.methodLink RX1 60 yX0_put, Cond.instanceMethod yX0_put, Cond.selects RX0 yX0_put yX0_put, Cond.code yX0_put cX0_put 3 none, Cond.methodLink RX1 57 yX0_at]
def wsL_law0_r16 : List Cond := [Cond.instanceMethod yX0_at, Cond.selects RX0 yX0_at yX0_at, Cond.code yX0_at cX0_at 2 (some .int), Cond.methodLink RX6 120 yX1_middleOfAll, Cond.instanceMethod yX1_middleOfAll, Cond.selects RX1 yX1_middleOfAll yX1_middleOfAll, Cond.code yX1_middleOfAll cX1_middleOfAll 1 (some .int), Cond.methodLink RL 118 yX7_base, Cond.instanceMethod yX7_base, Cond.selects RX7 yX7_base yX7_base, Cond.code yX7_base cX7_base 1 (some .int), Cond.fieldLink RX7 78 "SeriesWatcherModel" "middle" "I", Cond.methodLink RX7 88 yX7_laySeasons, Cond.instanceMethod yX7_laySeasons, Cond.selects RX7 yX7_laySeasons yX7_laySeasons, Cond.code yX7_laySeasons cX7_laySeasons 3 none, Cond.fieldLink RX7 67 "SeriesWatcherModel" "counted" "I", Cond.methodLink RX7 70 yX7_count, Cond.instanceMethod yX7_count, Cond.selects RX7 yX7_count yX7_count, Cond.code yX7_count cX7_count 3 none, Cond.methodLink RX7 74 yX7_median, Cond.instanceMethod yX7_median, Cond.selects RX7 yX7_median yX7_median]
def wsL_law0_r17 : List Cond := [Cond.code yX7_median cX7_median 1 (some .int), Cond.methodLink RL 119 yL_season, Cond.static yL_season, Cond.codeWith yL_season cL_season 4 (some .int) [(0, 9, 12, 24)], Cond.methodLink RL 46 yX6_season, Cond.instanceMethod yX6_season, Cond.selects RX6 yX6_season yX6_season, Cond.code yX6_season cX6_season 2 (some .int), Cond.methodLink RX6 126 yX1_ofPhase, Cond.instanceMethod yX1_ofPhase, Cond.selects RX1 yX1_ofPhase yX1_ofPhase, Cond.code yX1_ofPhase cX1_ofPhase 2 (some .int), Cond.methodLink RL 121 yX7_season, Cond.instanceMethod yX7_season, Cond.selects RX7 yX7_season yX7_season, Cond.code yX7_season cX7_season 2 (some .int), Cond.methodLink RL 122 yL_adjusted, Cond.static yL_adjusted, Cond.codeWith yL_adjusted cL_adjusted 4 (some .int) [(0, 9, 12, 24)], Cond.methodLink RL 49 yX6_adjusted, Cond.instanceMethod yX6_adjusted, Cond.selects RX6 yX6_adjusted yX6_adjusted, Cond.code yX6_adjusted cX6_adjusted 2 (some .int), Cond.methodLink RX6 129 yX1_adjustedAt]
def wsL_law0_r18 : List Cond := [Cond.instanceMethod yX1_adjustedAt, Cond.selects RX1 yX1_adjustedAt yX1_adjustedAt, Cond.code yX1_adjustedAt cX1_adjustedAt 2 (some .int), Cond.methodLink RL 124 yX7_adjusted, Cond.instanceMethod yX7_adjusted, Cond.selects RX7 yX7_adjusted yX7_adjusted, Cond.code yX7_adjusted cX7_adjusted 2 (some .int), Cond.methodLink RL 125 yX6_segments, Cond.instanceMethod yX6_segments, Cond.selects RX6 yX6_segments yX6_segments, Cond.code yX6_segments cX6_segments 1 (some .int), Cond.methodLink RX6 132 yX6_findSegments, Cond.instanceMethod yX6_findSegments, Cond.selects RX6 yX6_findSegments yX6_findSegments, Cond.code yX6_findSegments cX6_findSegments 1 none, Cond.methodLink RX6 203 yX2_findCuts, Cond.instanceMethod yX2_findCuts, Cond.selects RX2 yX2_findCuts yX2_findCuts, Cond.code yX2_findCuts cX2_findCuts 3 none, Cond.methodLink RX2 70 yX3_count, Cond.methodLink RX2 75 yX2_findBestFrom, Cond.instanceMethod yX2_findBestFrom, Cond.selects RX2 yX2_findBestFrom yX2_findBestFrom, Cond.code yX2_findBestFrom cX2_findBestFrom 4 none]
def wsL_law0_r19 : List Cond := [Cond.constant RX2 89 (2147483647), Cond.methodLink RX2 84 yX4_clear, Cond.methodLink RX2 90 yX2_takeAsBest, Cond.instanceMethod yX2_takeAsBest, Cond.selects RX2 yX2_takeAsBest yX2_takeAsBest, Cond.code yX2_takeAsBest cX2_takeAsBest 5 none, Cond.methodLink RX2 81 yX0_put, Cond.methodLink RX2 94 yX2_sortIn, Cond.instanceMethod yX2_sortIn, Cond.selects RX2 yX2_sortIn yX2_sortIn, Cond.code yX2_sortIn cX2_sortIn 2 none, Cond.methodLink RX2 101 yX3_isHoliday, Cond.methodLink RX2 105 yX1_adjustedAt, Cond.methodLink RX2 110 yX4_insert, Cond.methodLink RX2 66 yX4_spreadAroundMedian, Cond.instanceMethod yX4_spreadAroundMedian, Cond.selects RX4 yX4_spreadAroundMedian yX4_spreadAroundMedian, Cond.code yX4_spreadAroundMedian cX4_spreadAroundMedian 1 (some .int), Cond.methodLink RX2 58 yX0_at, Cond.methodLink RX2 98 yX2_consider, Cond.instanceMethod yX2_consider, Cond.selects RX2 yX2_consider yX2_consider, Cond.code yX2_consider cX2_consider 6 none, Cond.methodLink RX6 206 yX2_followCuts]
def wsL_law0_r20 : List Cond := [Cond.instanceMethod yX2_followCuts, Cond.selects RX2 yX2_followCuts yX2_followCuts, Cond.code yX2_followCuts cX2_followCuts 6 none, Cond.methodLink RX2 62 yX2_sortBetween, Cond.instanceMethod yX2_sortBetween, Cond.selects RX2 yX2_sortBetween yX2_sortBetween, Cond.code yX2_sortBetween cX2_sortBetween 4 none, Cond.methodLink RX2 78 yX4_median, Cond.methodLink RX6 135 yX2_howMany, Cond.instanceMethod yX2_howMany, Cond.selects RX2 yX2_howMany yX2_howMany, Cond.code yX2_howMany cX2_howMany 1 (some .int), Cond.methodLink RL 128 yX7_segments, Cond.instanceMethod yX7_segments, Cond.selects RX7 yX7_segments yX7_segments, Cond.code yX7_segments cX7_segments 1 (some .int), Cond.methodLink RX7 115 yX7_countSegments, Cond.instanceMethod yX7_countSegments, Cond.selects RX7 yX7_countSegments yX7_countSegments, Cond.code yX7_countSegments cX7_countSegments 3 (some .int), Cond.methodLink RX7 95 yX7_layDivision, Cond.instanceMethod yX7_layDivision, Cond.selects RX7 yX7_layDivision yX7_layDivision, Cond.code yX7_layDivision cX7_layDivision 6 none]
def wsL_law0_r21 : List Cond := [Cond.constant RX7 94 (1000000000), Cond.methodLink RX7 91 yX7_laySegments, Cond.instanceMethod yX7_laySegments, Cond.selects RX7 yX7_laySegments yX7_laySegments, Cond.code yX7_laySegments cX7_laySegments 3 none, Cond.methodLink RX7 85 yX7_costNow, Cond.instanceMethod yX7_costNow, Cond.selects RX7 yX7_costNow yX7_costNow, Cond.code yX7_costNow cX7_costNow 4 (some .int), Cond.methodLink RX7 81 yX7_sizeOf, Cond.static yX7_sizeOf, Cond.code yX7_sizeOf cX7_sizeOf 1 (some .int), Cond.methodLink RL 129 yL_startOf, Cond.static yL_startOf, Cond.codeWith yL_startOf cL_startOf 4 (some .int) [(0, 9, 12, 24)], Cond.methodLink RL 52 yX6_startOf, Cond.instanceMethod yX6_startOf, Cond.selects RX6 yX6_startOf yX6_startOf, Cond.code yX6_startOf cX6_startOf 2 (some .int), Cond.methodLink RX6 138 yX2_startAt, Cond.instanceMethod yX2_startAt, Cond.selects RX2 yX2_startAt yX2_startAt, Cond.code yX2_startAt cX2_startAt 2 (some .int), Cond.methodLink RL 131 yX7_startOf]
def wsL_law0_r22 : List Cond := [Cond.instanceMethod yX7_startOf, Cond.selects RX7 yX7_startOf yX7_startOf, Cond.code yX7_startOf cX7_startOf 2 (some .int), Cond.methodLink RX7 118 yX7_startBy, Cond.instanceMethod yX7_startBy, Cond.selects RX7 yX7_startBy yX7_startBy, Cond.code yX7_startBy cX7_startBy 4 (some .int), Cond.methodLink RL 132 yL_levelOf, Cond.static yL_levelOf, Cond.codeWith yL_levelOf cL_levelOf 4 (some .int) [(0, 9, 12, 24)], Cond.methodLink RL 55 yX6_levelOf, Cond.instanceMethod yX6_levelOf, Cond.selects RX6 yX6_levelOf yX6_levelOf, Cond.code yX6_levelOf cX6_levelOf 2 (some .int), Cond.methodLink RX6 141 yX2_levelAt, Cond.instanceMethod yX2_levelAt, Cond.selects RX2 yX2_levelAt yX2_levelAt, Cond.code yX2_levelAt cX2_levelAt 2 (some .int), Cond.methodLink RL 134 yX7_levelOf, Cond.instanceMethod yX7_levelOf, Cond.selects RX7 yX7_levelOf yX7_levelOf, Cond.code yX7_levelOf cX7_levelOf 3 (some .int), Cond.methodLink RL 135 yX6_cost, Cond.instanceMethod yX6_cost]
def wsL_law0_r23 : List Cond := [Cond.selects RX6 yX6_cost yX6_cost, Cond.code yX6_cost cX6_cost 1 (some .int), Cond.methodLink RX6 144 yX2_wholeCost, Cond.instanceMethod yX2_wholeCost, Cond.selects RX2 yX2_wholeCost yX2_wholeCost, Cond.code yX2_wholeCost cX2_wholeCost 1 (some .int), Cond.methodLink RL 138 yX7_cost, Cond.instanceMethod yX7_cost, Cond.selects RX7 yX7_cost yX7_cost, Cond.code yX7_cost cX7_cost 1 (some .int), Cond.methodLink RL 139 yX6_costUncut, Cond.instanceMethod yX6_costUncut, Cond.selects RX6 yX6_costUncut yX6_costUncut, Cond.code yX6_costUncut cX6_costUncut 1 (some .int), Cond.methodLink RX6 147 yX2_costBetween, Cond.instanceMethod yX2_costBetween, Cond.selects RX2 yX2_costBetween yX2_costBetween, Cond.code yX2_costBetween cX2_costBetween 3 (some .int), Cond.methodLink RL 142 yX7_costUncut, Cond.instanceMethod yX7_costUncut, Cond.selects RX7 yX7_costUncut yX7_costUncut, Cond.code yX7_costUncut cX7_costUncut 1 (some .int), Cond.methodLink RL 143 yL_costCutAt, Cond.static yL_costCutAt]
def wsL_law0_r24 : List Cond := [Cond.codeWith yL_costCutAt cL_costCutAt 4 (some .int) [(0, 9, 12, 24), (0, 9, 15, 13)], Cond.methodLink RL 58 yX6_costCutAt, Cond.instanceMethod yX6_costCutAt, Cond.selects RX6 yX6_costCutAt yX6_costCutAt, Cond.code yX6_costCutAt cX6_costCutAt 3 (some .int), Cond.methodLink RX6 151 yX2_leastLength, Cond.instanceMethod yX2_leastLength, Cond.selects RX2 yX2_leastLength yX2_leastLength, Cond.code yX2_leastLength cX2_leastLength 1 (some .int), Cond.methodLink RX6 161 yX2_penaltyOfCut, Cond.instanceMethod yX2_penaltyOfCut, Cond.selects RX2 yX2_penaltyOfCut yX2_penaltyOfCut, Cond.code yX2_penaltyOfCut cX2_penaltyOfCut 1 (some .int), Cond.methodLink RL 145 yX7_costCutAt, Cond.instanceMethod yX7_costCutAt, Cond.selects RX7 yX7_costCutAt yX7_costCutAt, Cond.code yX7_costCutAt cX7_costCutAt 2 (some .int), Cond.methodLink RL 146 yL_leastCost, Cond.static yL_leastCost, Cond.codeWith yL_leastCost cL_leastCost 3 (some .int) [(0, 8, 11, 15)], Cond.methodLink RL 61 yX6_leastCost, Cond.instanceMethod yX6_leastCost, Cond.selects RX6 yX6_leastCost yX6_leastCost, Cond.code yX6_leastCost cX6_leastCost 1 (some .int)]
def wsL_law0_r25 : List Cond := [Cond.methodLink RX6 169 yX5_leastOfAll, Cond.instanceMethod yX5_leastOfAll, Cond.selects RX5 yX5_leastOfAll yX5_leastOfAll, Cond.code yX5_leastOfAll cX5_leastOfAll 4 (some .int), Cond.methodLink RX5 19 yX2_costBetween, Cond.methodLink RX5 25 yX2_leastLength, Cond.methodLink RX5 29 yX2_penaltyOfCut, Cond.methodLink RX5 32 yX5_leastFrom, Cond.static yX5_leastFrom, Cond.code yX5_leastFrom cX5_leastFrom 10 (some .int), Cond.methodLink RX5 36 Lib.Math.min.name, Cond.static Lib.Math.min.name, Cond.initialized "java/lang/Math", Cond.code Lib.Math.min.name Lib.Math.min.code 2 (some .int), Cond.methodLink RL 149 yX7_leastCost, Cond.instanceMethod yX7_leastCost, Cond.selects RX7 yX7_leastCost yX7_leastCost, Cond.code yX7_leastCost cX7_leastCost 1 (some .int), Cond.methodLink RL 150 yL_residual, Cond.static yL_residual, Cond.codeWith yL_residual cL_residual 4 (some .int) [(0, 9, 12, 24)], Cond.methodLink RL 65 yX6_residual, Cond.instanceMethod yX6_residual, Cond.selects RX6 yX6_residual yX6_residual]
def wsL_law0_r26 : List Cond := [Cond.code yX6_residual cX6_residual 2 (some .int), Cond.methodLink RX6 172 yX6_residualAt, Cond.instanceMethod yX6_residualAt, Cond.selects RX6 yX6_residualAt yX6_residualAt, Cond.code yX6_residualAt cX6_residualAt 2 (some .int), Cond.methodLink RX6 209 yX2_levelAtValue, Cond.instanceMethod yX2_levelAtValue, Cond.selects RX2 yX2_levelAtValue yX2_levelAtValue, Cond.code yX2_levelAtValue cX2_levelAtValue 2 (some .int), Cond.methodLink RL 152 yX7_residual, Cond.instanceMethod yX7_residual, Cond.selects RX7 yX7_residual yX7_residual, Cond.code yX7_residual cX7_residual 2 (some .int), Cond.methodLink RX7 121 yX7_layAll, Cond.instanceMethod yX7_layAll, Cond.selects RX7 yX7_layAll yX7_layAll, Cond.code yX7_layAll cX7_layAll 3 none, Cond.fieldLink RX7 101 "SeriesWatcherModel" "spread" "I", Cond.methodLink RX7 98 yX7_startFor, Cond.instanceMethod yX7_startFor, Cond.selects RX7 yX7_startFor yX7_startFor, Cond.code yX7_startFor cX7_startFor 3 (some .int), Cond.methodLink RL 153 yX6_deviation, Cond.instanceMethod yX6_deviation]
def wsL_law0_r27 : List Cond := [Cond.selects RX6 yX6_deviation yX6_deviation, Cond.code yX6_deviation cX6_deviation 1 (some .int), Cond.methodLink RX6 175 yX6_medianDeviation, Cond.instanceMethod yX6_medianDeviation, Cond.selects RX6 yX6_medianDeviation yX6_medianDeviation, Cond.code yX6_medianDeviation cX6_medianDeviation 2 (some .int), Cond.methodLink RX6 215 Lib.Math.abs.name, Cond.static Lib.Math.abs.name, Cond.code Lib.Math.abs.name Lib.Math.abs.code 1 (some .int), Cond.methodLink RX6 212 yX4_clear, Cond.methodLink RX6 220 yX4_insert, Cond.methodLink RX6 223 yX4_median, Cond.methodLink RL 156 yX7_deviation, Cond.instanceMethod yX7_deviation, Cond.selects RX7 yX7_deviation yX7_deviation, Cond.code yX7_deviation cX7_deviation 1 (some .int), Cond.methodLink RL 157 yX6_bound, Cond.instanceMethod yX6_bound, Cond.selects RX6 yX6_bound yX6_bound, Cond.code yX6_bound cX6_bound 1 (some .int), Cond.methodLink RX6 178 yX6_boundOfNow, Cond.instanceMethod yX6_boundOfNow, Cond.selects RX6 yX6_boundOfNow yX6_boundOfNow, Cond.code yX6_boundOfNow cX6_boundOfNow 1 (some .int)]
def wsL_law0_r28 : List Cond := [Cond.methodLink RX6 226 Lib.Math.max.name, Cond.static Lib.Math.max.name, Cond.code Lib.Math.max.name Lib.Math.max.code 2 (some .int), Cond.methodLink RL 160 yX7_bound, Cond.instanceMethod yX7_bound, Cond.selects RX7 yX7_bound yX7_bound, Cond.code yX7_bound cX7_bound 1 (some .int), Cond.methodLink RX7 124 yX7_boundNow, Cond.instanceMethod yX7_boundNow, Cond.selects RX7 yX7_boundNow yX7_boundNow, Cond.code yX7_boundNow cX7_boundNow 2 (some .int), Cond.methodLink RL 161 yL_verdict, Cond.static yL_verdict, Cond.codeWith yL_verdict cL_verdict 4 (some .int) [(0, 9, 12, 24)], Cond.methodLink RL 68 yX6_verdict, Cond.instanceMethod yX6_verdict, Cond.selects RX6 yX6_verdict yX6_verdict, Cond.code yX6_verdict cX6_verdict 2 (some .int), Cond.methodLink RX6 181 yX6_verdictWithin, Cond.instanceMethod yX6_verdictWithin, Cond.selects RX6 yX6_verdictWithin yX6_verdictWithin, Cond.code yX6_verdictWithin cX6_verdictWithin 3 (some .int), Cond.methodLink RX6 187 yX6_sideOf, Cond.static yX6_sideOf]
def wsL_law0_r29 : List Cond := [Cond.code yX6_sideOf cX6_sideOf 3 (some .int), Cond.methodLink RL 163 yX7_verdict, Cond.instanceMethod yX7_verdict, Cond.selects RX7 yX7_verdict yX7_verdict, Cond.code yX7_verdict cX7_verdict 2 (some .int), Cond.methodLink RX7 127 yX7_verdictOf, Cond.instanceMethod yX7_verdictOf, Cond.selects RX7 yX7_verdictOf yX7_verdictOf, Cond.code yX7_verdictOf cX7_verdictOf 3 (some .int), Cond.methodLink RL 164 yX6_anomalies, Cond.instanceMethod yX6_anomalies, Cond.selects RX6 yX6_anomalies yX6_anomalies, Cond.code yX6_anomalies cX6_anomalies 5 (some .int), Cond.methodLink RL 167 yX7_anomalies, Cond.instanceMethod yX7_anomalies, Cond.selects RX7 yX7_anomalies yX7_anomalies, Cond.code yX7_anomalies cX7_anomalies 3 (some .int), Cond.methodLink RL 168 yX6_expected, Cond.instanceMethod yX6_expected, Cond.selects RX6 yX6_expected yX6_expected, Cond.code yX6_expected cX6_expected 1 (some .int), Cond.methodLink RX6 184 yX6_expectedNext, Cond.instanceMethod yX6_expectedNext, Cond.selects RX6 yX6_expectedNext yX6_expectedNext]
def wsL_law0_r30 : List Cond := [Cond.code yX6_expectedNext cX6_expectedNext 1 (some .int), Cond.methodLink RX6 229 yX2_lastLevel, Cond.instanceMethod yX2_lastLevel, Cond.selects RX2 yX2_lastLevel yX2_lastLevel, Cond.code yX2_lastLevel cX2_lastLevel 1 (some .int), Cond.methodLink RX6 232 yX1_phaseOf, Cond.methodLink RL 171 yX7_expected, Cond.instanceMethod yX7_expected, Cond.selects RX7 yX7_expected yX7_expected, Cond.code yX7_expected cX7_expected 1 (some .int), Cond.methodLink RX7 130 yX7_expectedNow, Cond.instanceMethod yX7_expectedNow, Cond.selects RX7 yX7_expectedNow yX7_expectedNow, Cond.code yX7_expectedNow cX7_expectedNow 2 (some .int), Cond.methodLink RL 172 yX6_judge, Cond.instanceMethod yX6_judge, Cond.selects RX6 yX6_judge yX6_judge, Cond.code yX6_judge cX6_judge 2 (some .int), Cond.methodLink RL 175 yX7_judge, Cond.instanceMethod yX7_judge, Cond.selects RX7 yX7_judge yX7_judge, Cond.code yX7_judge cX7_judge 4 (some .int)]
def wsL_law0 : List Cond := (wsL_law0_r1 ++ (wsL_law0_r2 ++ (wsL_law0_r3 ++ (wsL_law0_r4 ++ (wsL_law0_r5 ++ (wsL_law0_r6 ++ (wsL_law0_r7 ++ (wsL_law0_r8 ++ (wsL_law0_r9 ++ (wsL_law0_r10 ++ (wsL_law0_r11 ++ (wsL_law0_r12 ++ (wsL_law0_r13 ++ (wsL_law0_r14 ++ (wsL_law0_r15 ++ (wsL_law0_r16 ++ (wsL_law0_r17 ++ (wsL_law0_r18 ++ (wsL_law0_r19 ++ (wsL_law0_r20 ++ (wsL_law0_r21 ++ (wsL_law0_r22 ++ (wsL_law0_r23 ++ (wsL_law0_r24 ++ (wsL_law0_r25 ++ (wsL_law0_r26 ++ (wsL_law0_r27 ++ (wsL_law0_r28 ++ (wsL_law0_r29 ++ wsL_law0_r30))))))))))))))))))))))))))))) ++ wsX60 ++ wsX70 ++ wsX30 ++ wsX10 ++ wsX20 ++ wsX50 ++ wsX40 ++ wsX00 ++ ([] : List Cond)
def wsL_law : List Cond := wsL_law0 ++ (vx_atS RX6 158 "java/lang/IllegalArgumentException" ["java/lang/RuntimeException", "java/lang/Exception"]).filter goodWord ++ (vx_atS RX6 168 "java/lang/IllegalStateException" ["java/lang/RuntimeException", "java/lang/Exception"]).filter goodWord ++ (vx_atS RX6 197 "java/lang/IndexOutOfBoundsException" ["java/lang/RuntimeException", "java/lang/Exception"]).filter goodWord
set_option maxRecDepth 20000 in
theorem wsL_law_in0_1 : ∀ w ∈ wsL_law0_r1, w ∈ lw_tbl := fun w h => (goodIn_p wsL_law0_r1 [54, 57] (by decide +kernel) (by decide +kernel) w h).1
set_option maxRecDepth 20000 in
theorem wsL_law_in0_2 : ∀ w ∈ wsL_law0_r2, w ∈ lw_tbl := fun w h => (goodIn_p wsL_law0_r2 [62, 80] (by decide +kernel) (by decide +kernel) w h).1
set_option maxRecDepth 20000 in
theorem wsL_law_in0_3 : ∀ w ∈ wsL_law0_r3, w ∈ lw_tbl := fun w h => (goodIn_p wsL_law0_r3 [86, 96, 131] (by decide +kernel) (by decide +kernel) w h).1
set_option maxRecDepth 20000 in
theorem wsL_law_in0_4 : ∀ w ∈ wsL_law0_r4, w ∈ lw_tbl := fun w h => (goodIn_p wsL_law0_r4 [178, 733] (by decide +kernel) (by decide +kernel) w h).1
set_option maxRecDepth 20000 in
theorem wsL_law_in0_5 : ∀ w ∈ wsL_law0_r5, w ∈ lw_tbl := fun w h => (goodIn_p wsL_law0_r5 [] (by decide +kernel) (by decide +kernel) w h).1
set_option maxRecDepth 20000 in
theorem wsL_law_in0_6 : ∀ w ∈ wsL_law0_r6, w ∈ lw_tbl := fun w h => (goodIn_p wsL_law0_r6 [433, 436, 439, 511, 224, 531] (by decide +kernel) (by decide +kernel) w h).1
set_option maxRecDepth 20000 in
theorem wsL_law_in0_7 : ∀ w ∈ wsL_law0_r7, w ∈ lw_tbl := fun w h => (goodIn_p wsL_law0_r7 [535, 803, 806, 809, 813, 799] (by decide +kernel) (by decide +kernel) w h).1
set_option maxRecDepth 20000 in
theorem wsL_law_in0_8 : ∀ w ∈ wsL_law0_r8, w ∈ lw_tbl := fun w h => (goodIn_p wsL_law0_r8 [542, 817, 550, 554] (by decide +kernel) (by decide +kernel) w h).1
set_option maxRecDepth 20000 in
theorem wsL_law_in0_9 : ∀ w ∈ wsL_law0_r9, w ∈ lw_tbl := fun w h => (goodIn_p wsL_law0_r9 [557, 257, 253, 578, 821, 825] (by decide +kernel) (by decide +kernel) w h).1
set_option maxRecDepth 20000 in
theorem wsL_law_in0_10 : ∀ w ∈ wsL_law0_r10, w ∈ lw_tbl := fun w h => (goodIn_p wsL_law0_r10 [585, 249, 589, 829] (by decide +kernel) (by decide +kernel) w h).1
set_option maxRecDepth 20000 in
theorem wsL_law_in0_11 : ∀ w ∈ wsL_law0_r11, w ∈ lw_tbl := fun w h => (goodIn_p wsL_law0_r11 [596, 600, 833, 607, 611] (by decide +kernel) (by decide +kernel) w h).1
set_option maxRecDepth 20000 in
theorem wsL_law_in0_12 : ∀ w ∈ wsL_law0_r12, w ∈ lw_tbl := fun w h => (goodIn_p wsL_law0_r12 [615, 837, 622, 627, 841] (by decide +kernel) (by decide +kernel) w h).1
set_option maxRecDepth 20000 in
theorem wsL_law_in0_13 : ∀ w ∈ wsL_law0_r13, w ∈ lw_tbl := fun w h => (goodIn_p wsL_law0_r13 [634, 846, 220, 850, 641] (by decide +kernel) (by decide +kernel) w h).1
set_option maxRecDepth 20000 in
theorem wsL_law_in0_14 : ∀ w ∈ wsL_law0_r14, w ∈ lw_tbl := fun w h => (goodIn_p wsL_law0_r14 [854, 228, 232, 236, 240, 244] (by decide +kernel) (by decide +kernel) w h).1
set_option maxRecDepth 20000 in
theorem wsL_law_in0_15 : ∀ w ∈ wsL_law0_r15, w ∈ lw_tbl := fun w h => (goodIn_p wsL_law0_r15 [261, 265, 269, 273, 277] (by decide +kernel) (by decide +kernel) w h).1
set_option maxRecDepth 20000 in
theorem wsL_law_in0_16 : ∀ w ∈ wsL_law0_r16, w ∈ lw_tbl := fun w h => (goodIn_p wsL_law0_r16 [281, 285, 858, 862, 866] (by decide +kernel) (by decide +kernel) w h).1
set_option maxRecDepth 20000 in
theorem wsL_law_in0_17 : ∀ w ∈ wsL_law0_r17, w ∈ lw_tbl := fun w h => (goodIn_p wsL_law0_r17 [870, 648, 420, 874, 655] (by decide +kernel) (by decide +kernel) w h).1
set_option maxRecDepth 20000 in
theorem wsL_law_in0_18 : ∀ w ∈ wsL_law0_r18, w ∈ lw_tbl := fun w h => (goodIn_p wsL_law0_r18 [318, 878, 289, 293, 297, 302] (by decide +kernel) (by decide +kernel) w h).1
set_option maxRecDepth 20000 in
theorem wsL_law_in0_19 : ∀ w ∈ wsL_law0_r19, w ∈ lw_tbl := fun w h => (goodIn_p wsL_law0_r19 [308, 313, 323, 328] (by decide +kernel) (by decide +kernel) w h).1
set_option maxRecDepth 20000 in
theorem wsL_law_in0_20 : ∀ w ∈ wsL_law0_r20, w ∈ lw_tbl := fun w h => (goodIn_p wsL_law0_r20 [332, 336, 341, 882, 886, 890] (by decide +kernel) (by decide +kernel) w h).1
set_option maxRecDepth 20000 in
theorem wsL_law_in0_21 : ∀ w ∈ wsL_law0_r21, w ∈ lw_tbl := fun w h => (goodIn_p wsL_law0_r21 [894, 898, 901, 662, 666] (by decide +kernel) (by decide +kernel) w h).1
set_option maxRecDepth 20000 in
theorem wsL_law_in0_22 : ∀ w ∈ wsL_law0_r22, w ∈ lw_tbl := fun w h => (goodIn_p wsL_law0_r22 [906, 910, 673, 677, 914] (by decide +kernel) (by decide +kernel) w h).1
set_option maxRecDepth 20000 in
theorem wsL_law_in0_23 : ∀ w ∈ wsL_law0_r23, w ∈ lw_tbl := fun w h => (goodIn_p wsL_law0_r23 [345, 349, 918, 353, 357, 922] (by decide +kernel) (by decide +kernel) w h).1
set_option maxRecDepth 20000 in
theorem wsL_law_in0_24 : ∀ w ∈ wsL_law0_r24, w ∈ lw_tbl := fun w h => (goodIn_p wsL_law0_r24 [684, 688, 693, 926, 700] (by decide +kernel) (by decide +kernel) w h).1
set_option maxRecDepth 20000 in
theorem wsL_law_in0_25 : ∀ w ∈ wsL_law0_r25, w ∈ lw_tbl := fun w h => (goodIn_p wsL_law0_r25 [705, 711, 714, 930] (by decide +kernel) (by decide +kernel) w h).1
set_option maxRecDepth 20000 in
theorem wsL_law_in0_26 : ∀ w ∈ wsL_law0_r26, w ∈ lw_tbl := fun w h => (goodIn_p wsL_law0_r26 [721, 371, 376, 934, 938, 942] (by decide +kernel) (by decide +kernel) w h).1
set_option maxRecDepth 20000 in
theorem wsL_law_in0_27 : ∀ w ∈ wsL_law0_r27, w ∈ lw_tbl := fun w h => (goodIn_p wsL_law0_r27 [361, 365, 379, 946, 385, 389] (by decide +kernel) (by decide +kernel) w h).1
set_option maxRecDepth 20000 in
theorem wsL_law_in0_28 : ∀ w ∈ wsL_law0_r28, w ∈ lw_tbl := fun w h => (goodIn_p wsL_law0_r28 [392, 950, 954, 728, 400] (by decide +kernel) (by decide +kernel) w h).1
set_option maxRecDepth 20000 in
theorem wsL_law_in0_29 : ∀ w ∈ wsL_law0_r29, w ∈ lw_tbl := fun w h => (goodIn_p wsL_law0_r29 [403, 958, 962, 396, 966, 407] (by decide +kernel) (by decide +kernel) w h).1
set_option maxRecDepth 20000 in
theorem wsL_law_in0_30 : ∀ w ∈ wsL_law0_r30, w ∈ lw_tbl := fun w h => (goodIn_p wsL_law0_r30 [411, 415, 970, 974, 424, 978] (by decide +kernel) (by decide +kernel) w h).1
theorem wsL_law_in0_r : ∀ w ∈ wsL_law0_r1 ++ (wsL_law0_r2 ++ (wsL_law0_r3 ++ (wsL_law0_r4 ++ (wsL_law0_r5 ++ (wsL_law0_r6 ++ (wsL_law0_r7 ++ (wsL_law0_r8 ++ (wsL_law0_r9 ++ (wsL_law0_r10 ++ (wsL_law0_r11 ++ (wsL_law0_r12 ++ (wsL_law0_r13 ++ (wsL_law0_r14 ++ (wsL_law0_r15 ++ (wsL_law0_r16 ++ (wsL_law0_r17 ++ (wsL_law0_r18 ++ (wsL_law0_r19 ++ (wsL_law0_r20 ++ (wsL_law0_r21 ++ (wsL_law0_r22 ++ (wsL_law0_r23 ++ (wsL_law0_r24 ++ (wsL_law0_r25 ++ (wsL_law0_r26 ++ (wsL_law0_r27 ++ (wsL_law0_r28 ++ (wsL_law0_r29 ++ (wsL_law0_r30))))))))))))))))))))))))))))), w ∈ lw_tbl := fun w h => (List.mem_append.mp h).elim (fun h => wsL_law_in0_1 w h) (fun h => (List.mem_append.mp h).elim (fun h => wsL_law_in0_2 w h) (fun h => (List.mem_append.mp h).elim (fun h => wsL_law_in0_3 w h) (fun h => (List.mem_append.mp h).elim (fun h => wsL_law_in0_4 w h) (fun h => (List.mem_append.mp h).elim (fun h => wsL_law_in0_5 w h) (fun h => (List.mem_append.mp h).elim (fun h => wsL_law_in0_6 w h) (fun h => (List.mem_append.mp h).elim (fun h => wsL_law_in0_7 w h) (fun h => (List.mem_append.mp h).elim (fun h => wsL_law_in0_8 w h) (fun h => (List.mem_append.mp h).elim (fun h => wsL_law_in0_9 w h) (fun h => (List.mem_append.mp h).elim (fun h => wsL_law_in0_10 w h) (fun h => (List.mem_append.mp h).elim (fun h => wsL_law_in0_11 w h) (fun h => (List.mem_append.mp h).elim (fun h => wsL_law_in0_12 w h) (fun h => (List.mem_append.mp h).elim (fun h => wsL_law_in0_13 w h) (fun h => (List.mem_append.mp h).elim (fun h => wsL_law_in0_14 w h) (fun h => (List.mem_append.mp h).elim (fun h => wsL_law_in0_15 w h) (fun h => (List.mem_append.mp h).elim (fun h => wsL_law_in0_16 w h) (fun h => (List.mem_append.mp h).elim (fun h => wsL_law_in0_17 w h) (fun h => (List.mem_append.mp h).elim (fun h => wsL_law_in0_18 w h) (fun h => (List.mem_append.mp h).elim (fun h => wsL_law_in0_19 w h) (fun h => (List.mem_append.mp h).elim (fun h => wsL_law_in0_20 w h) (fun h => (List.mem_append.mp h).elim (fun h => wsL_law_in0_21 w h) (fun h => (List.mem_append.mp h).elim (fun h => wsL_law_in0_22 w h) (fun h => (List.mem_append.mp h).elim (fun h => wsL_law_in0_23 w h) (fun h => (List.mem_append.mp h).elim (fun h => wsL_law_in0_24 w h) (fun h => (List.mem_append.mp h).elim (fun h => wsL_law_in0_25 w h) (fun h => (List.mem_append.mp h).elim (fun h => wsL_law_in0_26 w h) (fun h => (List.mem_append.mp h).elim (fun h => wsL_law_in0_27 w h) (fun h => (List.mem_append.mp h).elim (fun h => wsL_law_in0_28 w h) (fun h => (List.mem_append.mp h).elim (fun h => wsL_law_in0_29 w h) (fun h => wsL_law_in0_30 w h)))))))))))))))))))))))))))))
theorem wsL_law_in0_wsX60 : ∀ w ∈ wsX60, w ∈ lw_tbl := fun w h => (goodIn_p wsX60 [] (by decide +kernel) (by decide +kernel) w h).1
theorem wsL_law_in0_wsX70 : ∀ w ∈ wsX70, w ∈ lw_tbl := fun w h => (goodIn_p wsX70 [] (by decide +kernel) (by decide +kernel) w h).1
theorem wsL_law_in0_wsX30 : ∀ w ∈ wsX30, w ∈ lw_tbl := fun w h => (goodIn_p wsX30 [] (by decide +kernel) (by decide +kernel) w h).1
theorem wsL_law_in0_wsX10 : ∀ w ∈ wsX10, w ∈ lw_tbl := fun w h => (goodIn_p wsX10 [] (by decide +kernel) (by decide +kernel) w h).1
theorem wsL_law_in0_wsX20 : ∀ w ∈ wsX20, w ∈ lw_tbl := fun w h => (goodIn_p wsX20 [] (by decide +kernel) (by decide +kernel) w h).1
theorem wsL_law_in0_wsX50 : ∀ w ∈ wsX50, w ∈ lw_tbl := fun w h => (goodIn_p wsX50 [] (by decide +kernel) (by decide +kernel) w h).1
theorem wsL_law_in0_wsX40 : ∀ w ∈ wsX40, w ∈ lw_tbl := fun w h => (goodIn_p wsX40 [] (by decide +kernel) (by decide +kernel) w h).1
theorem wsL_law_in0_wsX00 : ∀ w ∈ wsX00, w ∈ lw_tbl := fun w h => (goodIn_p wsX00 [] (by decide +kernel) (by decide +kernel) w h).1
theorem wsL_law_in0 : ∀ w ∈ wsL_law0, w ∈ lw_tbl := fun w h => (List.mem_append.mp h).elim (fun h => (List.mem_append.mp h).elim (fun h => (List.mem_append.mp h).elim (fun h => (List.mem_append.mp h).elim (fun h => (List.mem_append.mp h).elim (fun h => (List.mem_append.mp h).elim (fun h => (List.mem_append.mp h).elim (fun h => (List.mem_append.mp h).elim (fun h => (List.mem_append.mp h).elim (fun h => wsL_law_in0_r w h) (fun h => wsL_law_in0_wsX60 w h)) (fun h => wsL_law_in0_wsX70 w h)) (fun h => wsL_law_in0_wsX30 w h)) (fun h => wsL_law_in0_wsX10 w h)) (fun h => wsL_law_in0_wsX20 w h)) (fun h => wsL_law_in0_wsX50 w h)) (fun h => wsL_law_in0_wsX40 w h)) (fun h => wsL_law_in0_wsX00 w h)) (fun h => nomatch h)
theorem wsL_law_x0 : ∀ w ∈ (vx_atS RX6 158 "java/lang/IllegalArgumentException" ["java/lang/RuntimeException", "java/lang/Exception"]).filter goodWord, w ∈ lw_tbl := by decide +kernel
theorem wsL_law_x1 : ∀ w ∈ (vx_atS RX6 168 "java/lang/IllegalStateException" ["java/lang/RuntimeException", "java/lang/Exception"]).filter goodWord, w ∈ lw_tbl := by decide +kernel
theorem wsL_law_x2 : ∀ w ∈ (vx_atS RX6 197 "java/lang/IndexOutOfBoundsException" ["java/lang/RuntimeException", "java/lang/Exception"]).filter goodWord, w ∈ lw_tbl := by decide +kernel
theorem wsL_law_in : ∀ w ∈ wsL_law, w ∈ lw_tbl := fun w h => (List.mem_append.mp h).elim (fun h => (List.mem_append.mp h).elim (fun h => (List.mem_append.mp h).elim (fun h => wsL_law_in0 w h) (fun h => wsL_law_x0 w h)) (fun h => wsL_law_x1 w h)) (fun h => wsL_law_x2 w h)
theorem inlX0 : ∀ w ∈ wsX00, w ∈ wsL_law := fun _ h => List.mem_append_left _ (List.mem_append_left _ (List.mem_append_left _ (List.mem_append_left _ (List.mem_append_right _ h))))
theorem inX0 : ∀ w ∈ wsX00, w ∈ lw_tbl := fun w h => wsL_law_in w (inlX0 w h)
theorem inlX1 : ∀ w ∈ wsX10, w ∈ wsL_law := fun _ h => List.mem_append_left _ (List.mem_append_left _ (List.mem_append_left _ (List.mem_append_left _ (List.mem_append_left _ (List.mem_append_left _ (List.mem_append_left _ (List.mem_append_left _ (List.mem_append_right _ h))))))))
theorem inX1 : ∀ w ∈ wsX10, w ∈ lw_tbl := fun w h => wsL_law_in w (inlX1 w h)
theorem inlX2 : ∀ w ∈ wsX20, w ∈ wsL_law := fun _ h => List.mem_append_left _ (List.mem_append_left _ (List.mem_append_left _ (List.mem_append_left _ (List.mem_append_left _ (List.mem_append_left _ (List.mem_append_left _ (List.mem_append_right _ h)))))))
theorem inX2 : ∀ w ∈ wsX20, w ∈ lw_tbl := fun w h => wsL_law_in w (inlX2 w h)
theorem inlX3 : ∀ w ∈ wsX30, w ∈ wsL_law := fun _ h => List.mem_append_left _ (List.mem_append_left _ (List.mem_append_left _ (List.mem_append_left _ (List.mem_append_left _ (List.mem_append_left _ (List.mem_append_left _ (List.mem_append_left _ (List.mem_append_left _ (List.mem_append_right _ h)))))))))
theorem inX3 : ∀ w ∈ wsX30, w ∈ lw_tbl := fun w h => wsL_law_in w (inlX3 w h)
theorem inlX4 : ∀ w ∈ wsX40, w ∈ wsL_law := fun _ h => List.mem_append_left _ (List.mem_append_left _ (List.mem_append_left _ (List.mem_append_left _ (List.mem_append_left _ (List.mem_append_right _ h)))))
theorem inX4 : ∀ w ∈ wsX40, w ∈ lw_tbl := fun w h => wsL_law_in w (inlX4 w h)
theorem inlX5 : ∀ w ∈ wsX50, w ∈ wsL_law := fun _ h => List.mem_append_left _ (List.mem_append_left _ (List.mem_append_left _ (List.mem_append_left _ (List.mem_append_left _ (List.mem_append_left _ (List.mem_append_right _ h))))))
theorem inX5 : ∀ w ∈ wsX50, w ∈ lw_tbl := fun w h => wsL_law_in w (inlX5 w h)
theorem inlX6 : ∀ w ∈ wsX60, w ∈ wsL_law := fun _ h => List.mem_append_left _ (List.mem_append_left _ (List.mem_append_left _ (List.mem_append_left _ (List.mem_append_left _ (List.mem_append_left _ (List.mem_append_left _ (List.mem_append_left _ (List.mem_append_left _ (List.mem_append_left _ (List.mem_append_left _ (List.mem_append_right _ h)))))))))))
theorem inX6 : ∀ w ∈ wsX60, w ∈ lw_tbl := fun w h => wsL_law_in w (inlX6 w h)
theorem inlX7 : ∀ w ∈ wsX70, w ∈ wsL_law := fun _ h => List.mem_append_left _ (List.mem_append_left _ (List.mem_append_left _ (List.mem_append_left _ (List.mem_append_left _ (List.mem_append_left _ (List.mem_append_left _ (List.mem_append_left _ (List.mem_append_left _ (List.mem_append_left _ (List.mem_append_right _ h))))))))))
theorem inX7 : ∀ w ∈ wsX70, w ∈ lw_tbl := fun w h => wsL_law_in w (inlX7 w h)
theorem inJ9 : ∀ w ∈ wsJ90, w ∈ lw_tbl := by decide +kernel
theorem inJ0 : ∀ w ∈ wsJ00, w ∈ lw_tbl := by decide +kernel
theorem dX0_init_0 : decode cX0_init 0 = .ok (.aload_n 0, 1) := by decide +kernel
theorem dX0_init_1 : decode cX0_init 1 = .ok (.invokespecial 3, 3) := by decide +kernel
theorem dX0_init_4 : decode cX0_init 4 = .ok (.aload_n 0, 1) := by decide +kernel
theorem dX0_init_5 : decode cX0_init 5 = .ok (.bipush 61, 2) := by decide +kernel
theorem dX0_init_7 : decode cX0_init 7 = .ok (.newarray .int, 2) := by decide +kernel
theorem dX0_init_9 : decode cX0_init 9 = .ok (.putfield 9, 3) := by decide +kernel
theorem dX0_init_12 : decode cX0_init 12 = .ok (.return_, 1) := by decide +kernel
theorem dX0_at_0 : decode cX0_at 0 = .ok (.iload_n 1, 1) := by decide +kernel
theorem dX0_at_1 : decode cX0_at 1 = .ok (.ifCond .lt 21, 3) := by decide +kernel
theorem dX0_at_4 : decode cX0_at 4 = .ok (.iload_n 1, 1) := by decide +kernel
theorem dX0_at_5 : decode cX0_at 5 = .ok (.aload_n 0, 1) := by decide +kernel
theorem dX0_at_6 : decode cX0_at 6 = .ok (.getfield 9, 3) := by decide +kernel
theorem dX0_at_9 : decode cX0_at 9 = .ok (.arraylength, 1) := by decide +kernel
theorem dX0_at_10 : decode cX0_at 10 = .ok (.if_icmp .ge 12, 3) := by decide +kernel
theorem dX0_at_13 : decode cX0_at 13 = .ok (.aload_n 0, 1) := by decide +kernel
theorem dX0_at_14 : decode cX0_at 14 = .ok (.getfield 9, 3) := by decide +kernel
theorem dX0_at_17 : decode cX0_at 17 = .ok (.iload_n 1, 1) := by decide +kernel
theorem dX0_at_18 : decode cX0_at 18 = .ok (.iaload, 1) := by decide +kernel
theorem dX0_at_19 : decode cX0_at 19 = .ok (.goto 4, 3) := by decide +kernel
theorem dX0_at_22 : decode cX0_at 22 = .ok (.iconst 0, 1) := by decide +kernel
theorem dX0_at_23 : decode cX0_at 23 = .ok (.ireturn, 1) := by decide +kernel
theorem dX0_put_0 : decode cX0_put 0 = .ok (.iload_n 1, 1) := by decide +kernel
theorem dX0_put_1 : decode cX0_put 1 = .ok (.ifCond .lt 19, 3) := by decide +kernel
theorem dX0_put_4 : decode cX0_put 4 = .ok (.iload_n 1, 1) := by decide +kernel
theorem dX0_put_5 : decode cX0_put 5 = .ok (.aload_n 0, 1) := by decide +kernel
theorem dX0_put_6 : decode cX0_put 6 = .ok (.getfield 9, 3) := by decide +kernel
theorem dX0_put_9 : decode cX0_put 9 = .ok (.arraylength, 1) := by decide +kernel
theorem dX0_put_10 : decode cX0_put 10 = .ok (.if_icmp .ge 10, 3) := by decide +kernel
theorem dX0_put_13 : decode cX0_put 13 = .ok (.aload_n 0, 1) := by decide +kernel
theorem dX0_put_14 : decode cX0_put 14 = .ok (.getfield 9, 3) := by decide +kernel
theorem dX0_put_17 : decode cX0_put 17 = .ok (.iload_n 1, 1) := by decide +kernel
theorem dX0_put_18 : decode cX0_put 18 = .ok (.iload_n 2, 1) := by decide +kernel
theorem dX0_put_19 : decode cX0_put 19 = .ok (.iastore, 1) := by decide +kernel
theorem dX0_put_20 : decode cX0_put 20 = .ok (.return_, 1) := by decide +kernel
set_option maxRecDepth 20000 in
theorem ggX1_init_X0_init : GoodIn wsX1_init wsX0_init := goodIn_r _ [17, 18, 2, 3, 19, 20, 27] (by decide +kernel) (by decide +kernel)
set_option maxRecDepth 20000 in
theorem gX1_init_X0_init_n9 : GoodIn wsX1_init (wsX0_init) := ggX1_init_X0_init
set_option maxRecDepth 20000 in
theorem ggX1_init_X4_init : GoodIn wsX1_init wsX4_init := goodIn_r _ [22, 23, 2, 3, 19, 24, 25, 26, 34, 35, 36] (by decide +kernel) (by decide +kernel)
set_option maxRecDepth 20000 in
theorem gX1_init_X4_init_n21 : GoodIn wsX1_init (wsX4_init) := ggX1_init_X4_init
theorem dX1_init_0 : decode cX1_init 0 = .ok (.aload_n 0, 1) := by decide +kernel
theorem dX1_init_1 : decode cX1_init 1 = .ok (.invokespecial 1, 3) := by decide +kernel
theorem dX1_init_4 : decode cX1_init 4 = .ok (.aload_n 0, 1) := by decide +kernel
theorem dX1_init_5 : decode cX1_init 5 = .ok (.new 7, 3) := by decide +kernel
theorem dX1_init_8 : decode cX1_init 8 = .ok (.dup, 1) := by decide +kernel
theorem dX1_init_9 : decode cX1_init 9 = .ok (.invokespecial 9, 3) := by decide +kernel
theorem dX1_init_12 : decode cX1_init 12 = .ok (.putfield 10, 3) := by decide +kernel
theorem dX1_init_15 : decode cX1_init 15 = .ok (.aload_n 0, 1) := by decide +kernel
theorem dX1_init_16 : decode cX1_init 16 = .ok (.new 7, 3) := by decide +kernel
theorem dX1_init_19 : decode cX1_init 19 = .ok (.dup, 1) := by decide +kernel
theorem dX1_init_20 : decode cX1_init 20 = .ok (.invokespecial 9, 3) := by decide +kernel
theorem dX1_init_23 : decode cX1_init 23 = .ok (.putfield 16, 3) := by decide +kernel
theorem dX1_init_26 : decode cX1_init 26 = .ok (.aload_n 0, 1) := by decide +kernel
theorem dX1_init_27 : decode cX1_init 27 = .ok (.new 19, 3) := by decide +kernel
theorem dX1_init_30 : decode cX1_init 30 = .ok (.dup, 1) := by decide +kernel
theorem dX1_init_31 : decode cX1_init 31 = .ok (.invokespecial 21, 3) := by decide +kernel
theorem dX1_init_34 : decode cX1_init 34 = .ok (.putfield 22, 3) := by decide +kernel
theorem dX1_init_37 : decode cX1_init 37 = .ok (.aload_n 0, 1) := by decide +kernel
theorem dX1_init_38 : decode cX1_init 38 = .ok (.iconst 1, 1) := by decide +kernel
theorem dX1_init_39 : decode cX1_init 39 = .ok (.putfield 26, 3) := by decide +kernel
theorem dX1_init_42 : decode cX1_init 42 = .ok (.aload_n 0, 1) := by decide +kernel
theorem dX1_init_43 : decode cX1_init 43 = .ok (.iconst 0, 1) := by decide +kernel
theorem dX1_init_44 : decode cX1_init 44 = .ok (.putfield 30, 3) := by decide +kernel
theorem dX1_init_47 : decode cX1_init 47 = .ok (.aload_n 0, 1) := by decide +kernel
theorem dX1_init_48 : decode cX1_init 48 = .ok (.aload_n 1, 1) := by decide +kernel
theorem dX1_init_49 : decode cX1_init 49 = .ok (.putfield 33, 3) := by decide +kernel
theorem dX1_init_52 : decode cX1_init 52 = .ok (.return_, 1) := by decide +kernel
theorem dX1_length_0 : decode cX1_length 0 = .ok (.aload_n 0, 1) := by decide +kernel
theorem dX1_length_1 : decode cX1_length 1 = .ok (.getfield 26, 3) := by decide +kernel
theorem dX1_length_4 : decode cX1_length 4 = .ok (.ireturn, 1) := by decide +kernel
theorem dX1_changeLength_0 : decode cX1_changeLength 0 = .ok (.aload_n 0, 1) := by decide +kernel
theorem dX1_changeLength_1 : decode cX1_changeLength 1 = .ok (.iload_n 1, 1) := by decide +kernel
theorem dX1_changeLength_2 : decode cX1_changeLength 2 = .ok (.putfield 26, 3) := by decide +kernel
theorem dX1_changeLength_5 : decode cX1_changeLength 5 = .ok (.return_, 1) := by decide +kernel
theorem dX1_phaseOf_0 : decode cX1_phaseOf 0 = .ok (.aload_n 0, 1) := by decide +kernel
theorem dX1_phaseOf_1 : decode cX1_phaseOf 1 = .ok (.getfield 26, 3) := by decide +kernel
theorem dX1_phaseOf_4 : decode cX1_phaseOf 4 = .ok (.iconst 1, 1) := by decide +kernel
theorem dX1_phaseOf_5 : decode cX1_phaseOf 5 = .ok (.if_icmp .ge 7, 3) := by decide +kernel
theorem dX1_phaseOf_8 : decode cX1_phaseOf 8 = .ok (.iconst 0, 1) := by decide +kernel
theorem dX1_phaseOf_9 : decode cX1_phaseOf 9 = .ok (.goto 9, 3) := by decide +kernel
theorem dX1_phaseOf_12 : decode cX1_phaseOf 12 = .ok (.iload_n 1, 1) := by decide +kernel
theorem dX1_phaseOf_13 : decode cX1_phaseOf 13 = .ok (.aload_n 0, 1) := by decide +kernel
theorem dX1_phaseOf_14 : decode cX1_phaseOf 14 = .ok (.getfield 26, 3) := by decide +kernel
theorem dX1_phaseOf_17 : decode cX1_phaseOf 17 = .ok (.irem, 1) := by decide +kernel
theorem dX1_phaseOf_18 : decode cX1_phaseOf 18 = .ok (.ireturn, 1) := by decide +kernel
set_option maxRecDepth 20000 in
theorem ggX1_find_X1_findMiddleOfAll : GoodIn wsX1_find wsX1_findMiddleOfAll := goodIn_r _ [9, 10, 2, 11, 12, 13, 14, 15, 16, 17, 18, 19, 20, 21, 22, 23, 24, 25, 26, 27, 28, 29, 30, 31, 32, 33, 34, 35, 36, 37, 38, 39, 40, 41, 42, 43, 44, 45, 46, 47, 66, 67, 68, 69, 70, 71, 72, 73, 74, 75, 76, 77] (by decide +kernel) (by decide +kernel)
set_option maxRecDepth 20000 in
theorem gX1_find_X1_findMiddleOfAll : GoodIn wsX1_find (wsV RX1 37 RX1 yX1_findMiddleOfAll wsX1_findMiddleOfAll) := goodIn_app (goodIn_of _ (by decide +kernel)) ggX1_find_X1_findMiddleOfAll
set_option maxRecDepth 20000 in
theorem ggX1_find_X1_findSeason : GoodIn wsX1_find wsX1_findSeason := goodIn_r _ [51, 10, 2, 11, 4, 12, 13, 14, 15, 16, 17, 18, 19, 20, 21, 22, 23, 24, 52, 53, 54, 8, 55, 1, 25, 26, 27, 28, 29, 30, 31, 32, 33, 34, 35, 36, 37, 38, 39, 40, 41, 42, 43, 44, 45, 46, 47, 56, 57, 58, 59, 60, 61, 66, 67, 68, 69, 70, 71, 72, 73, 74, 75, 76, 77, 78] (by decide +kernel) (by decide +kernel)
set_option maxRecDepth 20000 in
theorem gX1_find_X1_findSeason : GoodIn wsX1_find (wsV RX1 40 RX1 yX1_findSeason wsX1_findSeason) := goodIn_app (goodIn_of _ (by decide +kernel)) ggX1_find_X1_findSeason
set_option maxRecDepth 20000 in
theorem ggX1_find_X3_count : GoodIn wsX1_find wsX3_count := goodIn_r _ [23, 24, 75, 76, 77] (by decide +kernel) (by decide +kernel)
set_option maxRecDepth 20000 in
theorem gX1_find_X3_count : GoodIn wsX1_find (wsV RX1 44 RX3 yX3_count wsX3_count) := goodIn_app (goodIn_of _ (by decide +kernel)) ggX1_find_X3_count
set_option maxRecDepth 20000 in
theorem ggX1_find_X3_numberAt : GoodIn wsX1_find wsX3_numberAt := goodIn_r _ [37, 38, 30, 31, 32, 22, 33, 24, 75, 76, 77] (by decide +kernel) (by decide +kernel)
set_option maxRecDepth 20000 in
theorem gX1_find_X3_numberAt : GoodIn wsX1_find (wsV RX1 50 RX3 yX3_numberAt wsX3_numberAt) := goodIn_app (goodIn_of _ (by decide +kernel)) ggX1_find_X3_numberAt
set_option maxRecDepth 20000 in
theorem ggX1_find_X1_phaseOf : GoodIn wsX1_find wsX1_phaseOf := goodIn_r _ [55, 1, 66, 67, 68, 69, 70, 71] (by decide +kernel) (by decide +kernel)
set_option maxRecDepth 20000 in
theorem gX1_find_X1_phaseOf : GoodIn wsX1_find (wsV RX1 54 RX1 yX1_phaseOf wsX1_phaseOf) := goodIn_app (goodIn_of _ (by decide +kernel)) ggX1_find_X1_phaseOf
set_option maxRecDepth 20000 in
theorem ggX1_find_X0_at : GoodIn wsX1_find wsX0_at := goodIn_r _ [65, 61, 78] (by decide +kernel) (by decide +kernel)
set_option maxRecDepth 20000 in
theorem gX1_find_X0_at : GoodIn wsX1_find (wsV RX1 57 RX0 yX0_at wsX0_at) := goodIn_app (goodIn_of _ (by decide +kernel)) ggX1_find_X0_at
set_option maxRecDepth 20000 in
theorem ggX1_find_X0_put : GoodIn wsX1_find wsX0_put := goodIn_r _ [60, 61, 78] (by decide +kernel) (by decide +kernel)
set_option maxRecDepth 20000 in
theorem gX1_find_X0_put : GoodIn wsX1_find (wsV RX1 60 RX0 yX0_put wsX0_put) := goodIn_app (goodIn_of _ (by decide +kernel)) ggX1_find_X0_put
theorem dX1_find_0 : decode cX1_find 0 = .ok (.aload_n 0, 1) := by decide +kernel
theorem dX1_find_1 : decode cX1_find 1 = .ok (.invokevirtual 37, 3) := by decide +kernel
theorem dX1_find_4 : decode cX1_find 4 = .ok (.iconst 0, 1) := by decide +kernel
theorem dX1_find_5 : decode cX1_find 5 = .ok (.istore_n 1, 1) := by decide +kernel
theorem dX1_find_6 : decode cX1_find 6 = .ok (.iload_n 1, 1) := by decide +kernel
theorem dX1_find_7 : decode cX1_find 7 = .ok (.aload_n 0, 1) := by decide +kernel
theorem dX1_find_8 : decode cX1_find 8 = .ok (.getfield 26, 3) := by decide +kernel
theorem dX1_find_11 : decode cX1_find 11 = .ok (.if_icmp .ge 14, 3) := by decide +kernel
theorem dX1_find_14 : decode cX1_find 14 = .ok (.aload_n 0, 1) := by decide +kernel
theorem dX1_find_15 : decode cX1_find 15 = .ok (.iload_n 1, 1) := by decide +kernel
theorem dX1_find_16 : decode cX1_find 16 = .ok (.invokevirtual 40, 3) := by decide +kernel
theorem dX1_find_19 : decode cX1_find 19 = .ok (.iinc 1 1, 3) := by decide +kernel
theorem dX1_find_22 : decode cX1_find 22 = .ok (.goto (-16), 3) := by decide +kernel
theorem dX1_find_25 : decode cX1_find 25 = .ok (.iconst 0, 1) := by decide +kernel
theorem dX1_find_26 : decode cX1_find 26 = .ok (.istore_n 1, 1) := by decide +kernel
theorem dX1_find_27 : decode cX1_find 27 = .ok (.iload_n 1, 1) := by decide +kernel
theorem dX1_find_28 : decode cX1_find 28 = .ok (.aload_n 0, 1) := by decide +kernel
theorem dX1_find_29 : decode cX1_find 29 = .ok (.getfield 33, 3) := by decide +kernel
theorem dX1_find_32 : decode cX1_find 32 = .ok (.invokevirtual 44, 3) := by decide +kernel
theorem dX1_find_35 : decode cX1_find 35 = .ok (.if_icmp .ge 38, 3) := by decide +kernel
theorem dX1_find_38 : decode cX1_find 38 = .ok (.aload_n 0, 1) := by decide +kernel
theorem dX1_find_39 : decode cX1_find 39 = .ok (.getfield 16, 3) := by decide +kernel
theorem dX1_find_42 : decode cX1_find 42 = .ok (.iload_n 1, 1) := by decide +kernel
theorem dX1_find_43 : decode cX1_find 43 = .ok (.aload_n 0, 1) := by decide +kernel
theorem dX1_find_44 : decode cX1_find 44 = .ok (.getfield 33, 3) := by decide +kernel
theorem dX1_find_47 : decode cX1_find 47 = .ok (.iload_n 1, 1) := by decide +kernel
theorem dX1_find_48 : decode cX1_find 48 = .ok (.invokevirtual 50, 3) := by decide +kernel
theorem dX1_find_51 : decode cX1_find 51 = .ok (.aload_n 0, 1) := by decide +kernel
theorem dX1_find_52 : decode cX1_find 52 = .ok (.getfield 10, 3) := by decide +kernel
theorem dX1_find_55 : decode cX1_find 55 = .ok (.aload_n 0, 1) := by decide +kernel
theorem dX1_find_56 : decode cX1_find 56 = .ok (.iload_n 1, 1) := by decide +kernel
theorem dX1_find_57 : decode cX1_find 57 = .ok (.invokevirtual 54, 3) := by decide +kernel
theorem dX1_find_60 : decode cX1_find 60 = .ok (.invokevirtual 57, 3) := by decide +kernel
theorem dX1_find_63 : decode cX1_find 63 = .ok (.isub, 1) := by decide +kernel
theorem dX1_find_64 : decode cX1_find 64 = .ok (.invokevirtual 60, 3) := by decide +kernel
theorem dX1_find_67 : decode cX1_find 67 = .ok (.iinc 1 1, 3) := by decide +kernel
theorem dX1_find_70 : decode cX1_find 70 = .ok (.goto (-43), 3) := by decide +kernel
theorem dX1_find_73 : decode cX1_find 73 = .ok (.return_, 1) := by decide +kernel
theorem dX1_middleOfAll_0 : decode cX1_middleOfAll 0 = .ok (.aload_n 0, 1) := by decide +kernel
theorem dX1_middleOfAll_1 : decode cX1_middleOfAll 1 = .ok (.getfield 30, 3) := by decide +kernel
theorem dX1_middleOfAll_4 : decode cX1_middleOfAll 4 = .ok (.ireturn, 1) := by decide +kernel
set_option maxRecDepth 20000 in
theorem ggX1_ofPhase_X0_at : GoodIn wsX1_ofPhase wsX0_at := goodIn_r _ [6, 7, 14] (by decide +kernel) (by decide +kernel)
set_option maxRecDepth 20000 in
theorem gX1_ofPhase_X0_at : GoodIn wsX1_ofPhase (wsV RX1 57 RX0 yX0_at wsX0_at) := goodIn_app (goodIn_of _ (by decide +kernel)) ggX1_ofPhase_X0_at
theorem dX1_ofPhase_0 : decode cX1_ofPhase 0 = .ok (.aload_n 0, 1) := by decide +kernel
theorem dX1_ofPhase_1 : decode cX1_ofPhase 1 = .ok (.getfield 10, 3) := by decide +kernel
theorem dX1_ofPhase_4 : decode cX1_ofPhase 4 = .ok (.iload_n 1, 1) := by decide +kernel
theorem dX1_ofPhase_5 : decode cX1_ofPhase 5 = .ok (.invokevirtual 57, 3) := by decide +kernel
theorem dX1_ofPhase_8 : decode cX1_ofPhase 8 = .ok (.ireturn, 1) := by decide +kernel
set_option maxRecDepth 20000 in
theorem ggX1_adjustedAt_X0_at : GoodIn wsX1_adjustedAt wsX0_at := goodIn_r _ [6, 7, 14] (by decide +kernel) (by decide +kernel)
set_option maxRecDepth 20000 in
theorem gX1_adjustedAt_X0_at : GoodIn wsX1_adjustedAt (wsV RX1 57 RX0 yX0_at wsX0_at) := goodIn_app (goodIn_of _ (by decide +kernel)) ggX1_adjustedAt_X0_at
theorem dX1_adjustedAt_0 : decode cX1_adjustedAt 0 = .ok (.aload_n 0, 1) := by decide +kernel
theorem dX1_adjustedAt_1 : decode cX1_adjustedAt 1 = .ok (.getfield 16, 3) := by decide +kernel
theorem dX1_adjustedAt_4 : decode cX1_adjustedAt 4 = .ok (.iload_n 1, 1) := by decide +kernel
theorem dX1_adjustedAt_5 : decode cX1_adjustedAt 5 = .ok (.invokevirtual 57, 3) := by decide +kernel
theorem dX1_adjustedAt_8 : decode cX1_adjustedAt 8 = .ok (.ireturn, 1) := by decide +kernel
set_option maxRecDepth 20000 in
theorem ggX1_findMiddleOfAll_X4_clear : GoodIn wsX1_findMiddleOfAll wsX4_clear := goodIn_r _ [8, 9, 10, 46, 47, 48] (by decide +kernel) (by decide +kernel)
set_option maxRecDepth 20000 in
theorem gX1_findMiddleOfAll_X4_clear : GoodIn wsX1_findMiddleOfAll (wsV RX1 64 RX4 yX4_clear wsX4_clear) := goodIn_app (goodIn_of _ (by decide +kernel)) ggX1_findMiddleOfAll_X4_clear
set_option maxRecDepth 20000 in
theorem ggX1_findMiddleOfAll_X3_count : GoodIn wsX1_findMiddleOfAll wsX3_count := goodIn_r _ [15, 16, 49, 50, 51] (by decide +kernel) (by decide +kernel)
set_option maxRecDepth 20000 in
theorem gX1_findMiddleOfAll_X3_count : GoodIn wsX1_findMiddleOfAll (wsV RX1 44 RX3 yX3_count wsX3_count) := goodIn_app (goodIn_of _ (by decide +kernel)) ggX1_findMiddleOfAll_X3_count
set_option maxRecDepth 20000 in
theorem ggX1_findMiddleOfAll_X3_isHoliday : GoodIn wsX1_findMiddleOfAll wsX3_isHoliday := goodIn_r _ [20, 21, 22, 23, 24, 14, 25, 16, 49, 50, 51] (by decide +kernel) (by decide +kernel)
set_option maxRecDepth 20000 in
theorem gX1_findMiddleOfAll_X3_isHoliday : GoodIn wsX1_findMiddleOfAll (wsV RX1 67 RX3 yX3_isHoliday wsX3_isHoliday) := goodIn_app (goodIn_of _ (by decide +kernel)) ggX1_findMiddleOfAll_X3_isHoliday
set_option maxRecDepth 20000 in
theorem ggX1_findMiddleOfAll_X3_numberAt : GoodIn wsX1_findMiddleOfAll wsX3_numberAt := goodIn_r _ [29, 30, 22, 23, 24, 14, 25, 16, 49, 50, 51] (by decide +kernel) (by decide +kernel)
set_option maxRecDepth 20000 in
theorem gX1_findMiddleOfAll_X3_numberAt : GoodIn wsX1_findMiddleOfAll (wsV RX1 50 RX3 yX3_numberAt wsX3_numberAt) := goodIn_app (goodIn_of _ (by decide +kernel)) ggX1_findMiddleOfAll_X3_numberAt
set_option maxRecDepth 20000 in
theorem ggX1_findMiddleOfAll_X4_insert : GoodIn wsX1_findMiddleOfAll wsX4_insert := goodIn_r _ [34, 9, 35, 10, 46, 47, 48] (by decide +kernel) (by decide +kernel)
set_option maxRecDepth 20000 in
theorem gX1_findMiddleOfAll_X4_insert : GoodIn wsX1_findMiddleOfAll (wsV RX1 71 RX4 yX4_insert wsX4_insert) := goodIn_app (goodIn_of _ (by decide +kernel)) ggX1_findMiddleOfAll_X4_insert
set_option maxRecDepth 20000 in
theorem ggX1_findMiddleOfAll_X4_median : GoodIn wsX1_findMiddleOfAll wsX4_median := goodIn_r _ [39, 9, 35, 46, 47, 48] (by decide +kernel) (by decide +kernel)
set_option maxRecDepth 20000 in
theorem gX1_findMiddleOfAll_X4_median : GoodIn wsX1_findMiddleOfAll (wsV RX1 74 RX4 yX4_median wsX4_median) := goodIn_app (goodIn_of _ (by decide +kernel)) ggX1_findMiddleOfAll_X4_median
theorem dX1_findMiddleOfAll_0 : decode cX1_findMiddleOfAll 0 = .ok (.aload_n 0, 1) := by decide +kernel
theorem dX1_findMiddleOfAll_1 : decode cX1_findMiddleOfAll 1 = .ok (.getfield 22, 3) := by decide +kernel
theorem dX1_findMiddleOfAll_4 : decode cX1_findMiddleOfAll 4 = .ok (.invokevirtual 64, 3) := by decide +kernel
theorem dX1_findMiddleOfAll_7 : decode cX1_findMiddleOfAll 7 = .ok (.iconst 0, 1) := by decide +kernel
theorem dX1_findMiddleOfAll_8 : decode cX1_findMiddleOfAll 8 = .ok (.istore_n 1, 1) := by decide +kernel
theorem dX1_findMiddleOfAll_9 : decode cX1_findMiddleOfAll 9 = .ok (.iload_n 1, 1) := by decide +kernel
theorem dX1_findMiddleOfAll_10 : decode cX1_findMiddleOfAll 10 = .ok (.aload_n 0, 1) := by decide +kernel
theorem dX1_findMiddleOfAll_11 : decode cX1_findMiddleOfAll 11 = .ok (.getfield 33, 3) := by decide +kernel
theorem dX1_findMiddleOfAll_14 : decode cX1_findMiddleOfAll 14 = .ok (.invokevirtual 44, 3) := by decide +kernel
theorem dX1_findMiddleOfAll_17 : decode cX1_findMiddleOfAll 17 = .ok (.if_icmp .ge 35, 3) := by decide +kernel
theorem dX1_findMiddleOfAll_20 : decode cX1_findMiddleOfAll 20 = .ok (.aload_n 0, 1) := by decide +kernel
theorem dX1_findMiddleOfAll_21 : decode cX1_findMiddleOfAll 21 = .ok (.getfield 33, 3) := by decide +kernel
theorem dX1_findMiddleOfAll_24 : decode cX1_findMiddleOfAll 24 = .ok (.iload_n 1, 1) := by decide +kernel
theorem dX1_findMiddleOfAll_25 : decode cX1_findMiddleOfAll 25 = .ok (.invokevirtual 67, 3) := by decide +kernel
theorem dX1_findMiddleOfAll_28 : decode cX1_findMiddleOfAll 28 = .ok (.ifCond .ne 18, 3) := by decide +kernel
theorem dX1_findMiddleOfAll_31 : decode cX1_findMiddleOfAll 31 = .ok (.aload_n 0, 1) := by decide +kernel
theorem dX1_findMiddleOfAll_32 : decode cX1_findMiddleOfAll 32 = .ok (.getfield 22, 3) := by decide +kernel
theorem dX1_findMiddleOfAll_35 : decode cX1_findMiddleOfAll 35 = .ok (.aload_n 0, 1) := by decide +kernel
theorem dX1_findMiddleOfAll_36 : decode cX1_findMiddleOfAll 36 = .ok (.getfield 33, 3) := by decide +kernel
theorem dX1_findMiddleOfAll_39 : decode cX1_findMiddleOfAll 39 = .ok (.iload_n 1, 1) := by decide +kernel
theorem dX1_findMiddleOfAll_40 : decode cX1_findMiddleOfAll 40 = .ok (.invokevirtual 50, 3) := by decide +kernel
theorem dX1_findMiddleOfAll_43 : decode cX1_findMiddleOfAll 43 = .ok (.invokevirtual 71, 3) := by decide +kernel
theorem dX1_findMiddleOfAll_46 : decode cX1_findMiddleOfAll 46 = .ok (.iinc 1 1, 3) := by decide +kernel
theorem dX1_findMiddleOfAll_49 : decode cX1_findMiddleOfAll 49 = .ok (.goto (-40), 3) := by decide +kernel
theorem dX1_findMiddleOfAll_52 : decode cX1_findMiddleOfAll 52 = .ok (.aload_n 0, 1) := by decide +kernel
theorem dX1_findMiddleOfAll_53 : decode cX1_findMiddleOfAll 53 = .ok (.aload_n 0, 1) := by decide +kernel
theorem dX1_findMiddleOfAll_54 : decode cX1_findMiddleOfAll 54 = .ok (.getfield 22, 3) := by decide +kernel
theorem dX1_findMiddleOfAll_57 : decode cX1_findMiddleOfAll 57 = .ok (.invokevirtual 74, 3) := by decide +kernel
theorem dX1_findMiddleOfAll_60 : decode cX1_findMiddleOfAll 60 = .ok (.putfield 30, 3) := by decide +kernel
theorem dX1_findMiddleOfAll_63 : decode cX1_findMiddleOfAll 63 = .ok (.return_, 1) := by decide +kernel
set_option maxRecDepth 20000 in
theorem ggX1_findSeason_X4_clear : GoodIn wsX1_findSeason wsX4_clear := goodIn_r _ [9, 10, 11, 59, 60, 61] (by decide +kernel) (by decide +kernel)
set_option maxRecDepth 20000 in
theorem gX1_findSeason_X4_clear : GoodIn wsX1_findSeason (wsV RX1 64 RX4 yX4_clear wsX4_clear) := goodIn_app (goodIn_of _ (by decide +kernel)) ggX1_findSeason_X4_clear
set_option maxRecDepth 20000 in
theorem ggX1_findSeason_X3_count : GoodIn wsX1_findSeason wsX3_count := goodIn_r _ [16, 17, 62, 63, 64] (by decide +kernel) (by decide +kernel)
set_option maxRecDepth 20000 in
theorem gX1_findSeason_X3_count : GoodIn wsX1_findSeason (wsV RX1 44 RX3 yX3_count wsX3_count) := goodIn_app (goodIn_of _ (by decide +kernel)) ggX1_findSeason_X3_count
set_option maxRecDepth 20000 in
theorem ggX1_findSeason_X1_phaseOf : GoodIn wsX1_findSeason wsX1_phaseOf := goodIn_r _ [22, 23, 53, 54, 55, 56, 57, 58] (by decide +kernel) (by decide +kernel)
set_option maxRecDepth 20000 in
theorem gX1_findSeason_X1_phaseOf : GoodIn wsX1_findSeason (wsV RX1 54 RX1 yX1_phaseOf wsX1_phaseOf) := goodIn_app (goodIn_of _ (by decide +kernel)) ggX1_findSeason_X1_phaseOf
set_option maxRecDepth 20000 in
theorem ggX1_findSeason_X3_isHoliday : GoodIn wsX1_findSeason wsX3_isHoliday := goodIn_r _ [27, 28, 29, 30, 31, 15, 32, 17, 62, 63, 64] (by decide +kernel) (by decide +kernel)
set_option maxRecDepth 20000 in
theorem gX1_findSeason_X3_isHoliday : GoodIn wsX1_findSeason (wsV RX1 67 RX3 yX3_isHoliday wsX3_isHoliday) := goodIn_app (goodIn_of _ (by decide +kernel)) ggX1_findSeason_X3_isHoliday
set_option maxRecDepth 20000 in
theorem ggX1_findSeason_X3_numberAt : GoodIn wsX1_findSeason wsX3_numberAt := goodIn_r _ [36, 37, 29, 30, 31, 15, 32, 17, 62, 63, 64] (by decide +kernel) (by decide +kernel)
set_option maxRecDepth 20000 in
theorem gX1_findSeason_X3_numberAt : GoodIn wsX1_findSeason (wsV RX1 50 RX3 yX3_numberAt wsX3_numberAt) := goodIn_app (goodIn_of _ (by decide +kernel)) ggX1_findSeason_X3_numberAt
set_option maxRecDepth 20000 in
theorem ggX1_findSeason_X4_insert : GoodIn wsX1_findSeason wsX4_insert := goodIn_r _ [41, 10, 42, 11, 59, 60, 61] (by decide +kernel) (by decide +kernel)
set_option maxRecDepth 20000 in
theorem gX1_findSeason_X4_insert : GoodIn wsX1_findSeason (wsV RX1 71 RX4 yX4_insert wsX4_insert) := goodIn_app (goodIn_of _ (by decide +kernel)) ggX1_findSeason_X4_insert
set_option maxRecDepth 20000 in
theorem ggX1_findSeason_X4_median : GoodIn wsX1_findSeason wsX4_median := goodIn_r _ [46, 10, 42, 59, 60, 61] (by decide +kernel) (by decide +kernel)
set_option maxRecDepth 20000 in
theorem gX1_findSeason_X4_median : GoodIn wsX1_findSeason (wsV RX1 74 RX4 yX4_median wsX4_median) := goodIn_app (goodIn_of _ (by decide +kernel)) ggX1_findSeason_X4_median
set_option maxRecDepth 20000 in
theorem ggX1_findSeason_X0_put : GoodIn wsX1_findSeason wsX0_put := goodIn_r _ [51, 52, 65] (by decide +kernel) (by decide +kernel)
set_option maxRecDepth 20000 in
theorem gX1_findSeason_X0_put : GoodIn wsX1_findSeason (wsV RX1 60 RX0 yX0_put wsX0_put) := goodIn_app (goodIn_of _ (by decide +kernel)) ggX1_findSeason_X0_put
theorem dX1_findSeason_0 : decode cX1_findSeason 0 = .ok (.aload_n 0, 1) := by decide +kernel
theorem dX1_findSeason_1 : decode cX1_findSeason 1 = .ok (.getfield 22, 3) := by decide +kernel
theorem dX1_findSeason_4 : decode cX1_findSeason 4 = .ok (.invokevirtual 64, 3) := by decide +kernel
theorem dX1_findSeason_7 : decode cX1_findSeason 7 = .ok (.iconst 0, 1) := by decide +kernel
theorem dX1_findSeason_8 : decode cX1_findSeason 8 = .ok (.istore_n 2, 1) := by decide +kernel
theorem dX1_findSeason_9 : decode cX1_findSeason 9 = .ok (.iload_n 2, 1) := by decide +kernel
theorem dX1_findSeason_10 : decode cX1_findSeason 10 = .ok (.aload_n 0, 1) := by decide +kernel
theorem dX1_findSeason_11 : decode cX1_findSeason 11 = .ok (.getfield 33, 3) := by decide +kernel
theorem dX1_findSeason_14 : decode cX1_findSeason 14 = .ok (.invokevirtual 44, 3) := by decide +kernel
theorem dX1_findSeason_17 : decode cX1_findSeason 17 = .ok (.if_icmp .ge 49, 3) := by decide +kernel
theorem dX1_findSeason_20 : decode cX1_findSeason 20 = .ok (.aload_n 0, 1) := by decide +kernel
theorem dX1_findSeason_21 : decode cX1_findSeason 21 = .ok (.iload_n 2, 1) := by decide +kernel
theorem dX1_findSeason_22 : decode cX1_findSeason 22 = .ok (.invokevirtual 54, 3) := by decide +kernel
theorem dX1_findSeason_25 : decode cX1_findSeason 25 = .ok (.iload_n 1, 1) := by decide +kernel
theorem dX1_findSeason_26 : decode cX1_findSeason 26 = .ok (.if_icmp .ne 34, 3) := by decide +kernel
theorem dX1_findSeason_29 : decode cX1_findSeason 29 = .ok (.aload_n 0, 1) := by decide +kernel
theorem dX1_findSeason_30 : decode cX1_findSeason 30 = .ok (.getfield 33, 3) := by decide +kernel
theorem dX1_findSeason_33 : decode cX1_findSeason 33 = .ok (.iload_n 2, 1) := by decide +kernel
theorem dX1_findSeason_34 : decode cX1_findSeason 34 = .ok (.invokevirtual 67, 3) := by decide +kernel
theorem dX1_findSeason_37 : decode cX1_findSeason 37 = .ok (.ifCond .ne 23, 3) := by decide +kernel
theorem dX1_findSeason_40 : decode cX1_findSeason 40 = .ok (.aload_n 0, 1) := by decide +kernel
theorem dX1_findSeason_41 : decode cX1_findSeason 41 = .ok (.getfield 22, 3) := by decide +kernel
theorem dX1_findSeason_44 : decode cX1_findSeason 44 = .ok (.aload_n 0, 1) := by decide +kernel
theorem dX1_findSeason_45 : decode cX1_findSeason 45 = .ok (.getfield 33, 3) := by decide +kernel
theorem dX1_findSeason_48 : decode cX1_findSeason 48 = .ok (.iload_n 2, 1) := by decide +kernel
theorem dX1_findSeason_49 : decode cX1_findSeason 49 = .ok (.invokevirtual 50, 3) := by decide +kernel
theorem dX1_findSeason_52 : decode cX1_findSeason 52 = .ok (.aload_n 0, 1) := by decide +kernel
theorem dX1_findSeason_53 : decode cX1_findSeason 53 = .ok (.getfield 30, 3) := by decide +kernel
theorem dX1_findSeason_56 : decode cX1_findSeason 56 = .ok (.isub, 1) := by decide +kernel
theorem dX1_findSeason_57 : decode cX1_findSeason 57 = .ok (.invokevirtual 71, 3) := by decide +kernel
theorem dX1_findSeason_60 : decode cX1_findSeason 60 = .ok (.iinc 2 1, 3) := by decide +kernel
theorem dX1_findSeason_63 : decode cX1_findSeason 63 = .ok (.goto (-54), 3) := by decide +kernel
theorem dX1_findSeason_66 : decode cX1_findSeason 66 = .ok (.aload_n 0, 1) := by decide +kernel
theorem dX1_findSeason_67 : decode cX1_findSeason 67 = .ok (.getfield 10, 3) := by decide +kernel
theorem dX1_findSeason_70 : decode cX1_findSeason 70 = .ok (.iload_n 1, 1) := by decide +kernel
theorem dX1_findSeason_71 : decode cX1_findSeason 71 = .ok (.aload_n 0, 1) := by decide +kernel
theorem dX1_findSeason_72 : decode cX1_findSeason 72 = .ok (.getfield 22, 3) := by decide +kernel
theorem dX1_findSeason_75 : decode cX1_findSeason 75 = .ok (.invokevirtual 74, 3) := by decide +kernel
theorem dX1_findSeason_78 : decode cX1_findSeason 78 = .ok (.invokevirtual 60, 3) := by decide +kernel
theorem dX1_findSeason_81 : decode cX1_findSeason 81 = .ok (.return_, 1) := by decide +kernel
set_option maxRecDepth 20000 in
theorem ggX2_init_X4_init : GoodIn wsX2_init wsX4_init := goodIn_r _ [23, 24, 2, 3, 25, 26, 27, 28, 33, 34, 35] (by decide +kernel) (by decide +kernel)
set_option maxRecDepth 20000 in
theorem gX2_init_X4_init_n11 : GoodIn wsX2_init (wsX4_init) := ggX2_init_X4_init
set_option maxRecDepth 20000 in
theorem ggX2_init_X0_init : GoodIn wsX2_init wsX0_init := goodIn_r _ [30, 31, 2, 3, 25, 32, 48] (by decide +kernel) (by decide +kernel)
set_option maxRecDepth 20000 in
theorem gX2_init_X0_init_n27 : GoodIn wsX2_init (wsX0_init) := ggX2_init_X0_init
theorem dX2_init_0 : decode cX2_init 0 = .ok (.aload_n 0, 1) := by decide +kernel
theorem dX2_init_1 : decode cX2_init 1 = .ok (.invokespecial 3, 3) := by decide +kernel
theorem dX2_init_4 : decode cX2_init 4 = .ok (.aload_n 0, 1) := by decide +kernel
theorem dX2_init_5 : decode cX2_init 5 = .ok (.new 9, 3) := by decide +kernel
theorem dX2_init_8 : decode cX2_init 8 = .ok (.dup, 1) := by decide +kernel
theorem dX2_init_9 : decode cX2_init 9 = .ok (.invokespecial 11, 3) := by decide +kernel
theorem dX2_init_12 : decode cX2_init 12 = .ok (.putfield 12, 3) := by decide +kernel
theorem dX2_init_15 : decode cX2_init 15 = .ok (.aload_n 0, 1) := by decide +kernel
theorem dX2_init_16 : decode cX2_init 16 = .ok (.iconst 2, 1) := by decide +kernel
theorem dX2_init_17 : decode cX2_init 17 = .ok (.putfield 18, 3) := by decide +kernel
theorem dX2_init_20 : decode cX2_init 20 = .ok (.aload_n 0, 1) := by decide +kernel
theorem dX2_init_21 : decode cX2_init 21 = .ok (.bipush 100, 2) := by decide +kernel
theorem dX2_init_23 : decode cX2_init 23 = .ok (.putfield 22, 3) := by decide +kernel
theorem dX2_init_26 : decode cX2_init 26 = .ok (.aload_n 0, 1) := by decide +kernel
theorem dX2_init_27 : decode cX2_init 27 = .ok (.new 25, 3) := by decide +kernel
theorem dX2_init_30 : decode cX2_init 30 = .ok (.dup, 1) := by decide +kernel
theorem dX2_init_31 : decode cX2_init 31 = .ok (.invokespecial 27, 3) := by decide +kernel
theorem dX2_init_34 : decode cX2_init 34 = .ok (.putfield 28, 3) := by decide +kernel
theorem dX2_init_37 : decode cX2_init 37 = .ok (.aload_n 0, 1) := by decide +kernel
theorem dX2_init_38 : decode cX2_init 38 = .ok (.new 25, 3) := by decide +kernel
theorem dX2_init_41 : decode cX2_init 41 = .ok (.dup, 1) := by decide +kernel
theorem dX2_init_42 : decode cX2_init 42 = .ok (.invokespecial 27, 3) := by decide +kernel
theorem dX2_init_45 : decode cX2_init 45 = .ok (.putfield 32, 3) := by decide +kernel
theorem dX2_init_48 : decode cX2_init 48 = .ok (.aload_n 0, 1) := by decide +kernel
theorem dX2_init_49 : decode cX2_init 49 = .ok (.new 25, 3) := by decide +kernel
theorem dX2_init_52 : decode cX2_init 52 = .ok (.dup, 1) := by decide +kernel
theorem dX2_init_53 : decode cX2_init 53 = .ok (.invokespecial 27, 3) := by decide +kernel
theorem dX2_init_56 : decode cX2_init 56 = .ok (.putfield 35, 3) := by decide +kernel
theorem dX2_init_59 : decode cX2_init 59 = .ok (.aload_n 0, 1) := by decide +kernel
theorem dX2_init_60 : decode cX2_init 60 = .ok (.new 25, 3) := by decide +kernel
theorem dX2_init_63 : decode cX2_init 63 = .ok (.dup, 1) := by decide +kernel
theorem dX2_init_64 : decode cX2_init 64 = .ok (.invokespecial 27, 3) := by decide +kernel
theorem dX2_init_67 : decode cX2_init 67 = .ok (.putfield 38, 3) := by decide +kernel
theorem dX2_init_70 : decode cX2_init 70 = .ok (.aload_n 0, 1) := by decide +kernel
theorem dX2_init_71 : decode cX2_init 71 = .ok (.new 25, 3) := by decide +kernel
theorem dX2_init_74 : decode cX2_init 74 = .ok (.dup, 1) := by decide +kernel
theorem dX2_init_75 : decode cX2_init 75 = .ok (.invokespecial 27, 3) := by decide +kernel
theorem dX2_init_78 : decode cX2_init 78 = .ok (.putfield 41, 3) := by decide +kernel
theorem dX2_init_81 : decode cX2_init 81 = .ok (.aload_n 0, 1) := by decide +kernel
theorem dX2_init_82 : decode cX2_init 82 = .ok (.new 25, 3) := by decide +kernel
theorem dX2_init_85 : decode cX2_init 85 = .ok (.dup, 1) := by decide +kernel
theorem dX2_init_86 : decode cX2_init 86 = .ok (.invokespecial 27, 3) := by decide +kernel
theorem dX2_init_89 : decode cX2_init 89 = .ok (.putfield 44, 3) := by decide +kernel
theorem dX2_init_92 : decode cX2_init 92 = .ok (.aload_n 0, 1) := by decide +kernel
theorem dX2_init_93 : decode cX2_init 93 = .ok (.iconst 0, 1) := by decide +kernel
theorem dX2_init_94 : decode cX2_init 94 = .ok (.putfield 47, 3) := by decide +kernel
theorem dX2_init_97 : decode cX2_init 97 = .ok (.aload_n 0, 1) := by decide +kernel
theorem dX2_init_98 : decode cX2_init 98 = .ok (.aload_n 1, 1) := by decide +kernel
theorem dX2_init_99 : decode cX2_init 99 = .ok (.putfield 50, 3) := by decide +kernel
theorem dX2_init_102 : decode cX2_init 102 = .ok (.aload_n 0, 1) := by decide +kernel
theorem dX2_init_103 : decode cX2_init 103 = .ok (.aload_n 2, 1) := by decide +kernel
theorem dX2_init_104 : decode cX2_init 104 = .ok (.putfield 54, 3) := by decide +kernel
theorem dX2_init_107 : decode cX2_init 107 = .ok (.return_, 1) := by decide +kernel
theorem dX2_leastLength_0 : decode cX2_leastLength 0 = .ok (.aload_n 0, 1) := by decide +kernel
theorem dX2_leastLength_1 : decode cX2_leastLength 1 = .ok (.getfield 18, 3) := by decide +kernel
theorem dX2_leastLength_4 : decode cX2_leastLength 4 = .ok (.ireturn, 1) := by decide +kernel
theorem dX2_penaltyOfCut_0 : decode cX2_penaltyOfCut 0 = .ok (.aload_n 0, 1) := by decide +kernel
theorem dX2_penaltyOfCut_1 : decode cX2_penaltyOfCut 1 = .ok (.getfield 22, 3) := by decide +kernel
theorem dX2_penaltyOfCut_4 : decode cX2_penaltyOfCut 4 = .ok (.ireturn, 1) := by decide +kernel
theorem dX2_changeCuts_0 : decode cX2_changeCuts 0 = .ok (.aload_n 0, 1) := by decide +kernel
theorem dX2_changeCuts_1 : decode cX2_changeCuts 1 = .ok (.iload_n 1, 1) := by decide +kernel
theorem dX2_changeCuts_2 : decode cX2_changeCuts 2 = .ok (.putfield 18, 3) := by decide +kernel
theorem dX2_changeCuts_5 : decode cX2_changeCuts 5 = .ok (.aload_n 0, 1) := by decide +kernel
theorem dX2_changeCuts_6 : decode cX2_changeCuts 6 = .ok (.iload_n 2, 1) := by decide +kernel
theorem dX2_changeCuts_7 : decode cX2_changeCuts 7 = .ok (.putfield 22, 3) := by decide +kernel
theorem dX2_changeCuts_10 : decode cX2_changeCuts 10 = .ok (.return_, 1) := by decide +kernel
theorem dX2_howMany_0 : decode cX2_howMany 0 = .ok (.aload_n 0, 1) := by decide +kernel
theorem dX2_howMany_1 : decode cX2_howMany 1 = .ok (.getfield 47, 3) := by decide +kernel
theorem dX2_howMany_4 : decode cX2_howMany 4 = .ok (.ireturn, 1) := by decide +kernel
set_option maxRecDepth 20000 in
theorem ggX2_startAt_X0_at : GoodIn wsX2_startAt wsX0_at := goodIn_r _ [6, 7, 20] (by decide +kernel) (by decide +kernel)
set_option maxRecDepth 20000 in
theorem gX2_startAt_X0_at : GoodIn wsX2_startAt (wsV RX2 58 RX0 yX0_at wsX0_at) := goodIn_app (goodIn_of _ (by decide +kernel)) ggX2_startAt_X0_at
theorem dX2_startAt_0 : decode cX2_startAt 0 = .ok (.aload_n 0, 1) := by decide +kernel
theorem dX2_startAt_1 : decode cX2_startAt 1 = .ok (.getfield 38, 3) := by decide +kernel
theorem dX2_startAt_4 : decode cX2_startAt 4 = .ok (.iload_n 1, 1) := by decide +kernel
theorem dX2_startAt_5 : decode cX2_startAt 5 = .ok (.invokevirtual 58, 3) := by decide +kernel
theorem dX2_startAt_8 : decode cX2_startAt 8 = .ok (.ireturn, 1) := by decide +kernel
set_option maxRecDepth 20000 in
theorem ggX2_levelAt_X0_at : GoodIn wsX2_levelAt wsX0_at := goodIn_r _ [6, 7, 20] (by decide +kernel) (by decide +kernel)
set_option maxRecDepth 20000 in
theorem gX2_levelAt_X0_at : GoodIn wsX2_levelAt (wsV RX2 58 RX0 yX0_at wsX0_at) := goodIn_app (goodIn_of _ (by decide +kernel)) ggX2_levelAt_X0_at
theorem dX2_levelAt_0 : decode cX2_levelAt 0 = .ok (.aload_n 0, 1) := by decide +kernel
theorem dX2_levelAt_1 : decode cX2_levelAt 1 = .ok (.getfield 41, 3) := by decide +kernel
theorem dX2_levelAt_4 : decode cX2_levelAt 4 = .ok (.iload_n 1, 1) := by decide +kernel
theorem dX2_levelAt_5 : decode cX2_levelAt 5 = .ok (.invokevirtual 58, 3) := by decide +kernel
theorem dX2_levelAt_8 : decode cX2_levelAt 8 = .ok (.ireturn, 1) := by decide +kernel
set_option maxRecDepth 20000 in
theorem ggX2_lastLevel_X0_at : GoodIn wsX2_lastLevel wsX0_at := goodIn_r _ [7, 8, 21] (by decide +kernel) (by decide +kernel)
set_option maxRecDepth 20000 in
theorem gX2_lastLevel_X0_at : GoodIn wsX2_lastLevel (wsV RX2 58 RX0 yX0_at wsX0_at) := goodIn_app (goodIn_of _ (by decide +kernel)) ggX2_lastLevel_X0_at
theorem dX2_lastLevel_0 : decode cX2_lastLevel 0 = .ok (.aload_n 0, 1) := by decide +kernel
theorem dX2_lastLevel_1 : decode cX2_lastLevel 1 = .ok (.getfield 47, 3) := by decide +kernel
theorem dX2_lastLevel_4 : decode cX2_lastLevel 4 = .ok (.ifCond .ne 7, 3) := by decide +kernel
theorem dX2_lastLevel_7 : decode cX2_lastLevel 7 = .ok (.iconst 0, 1) := by decide +kernel
theorem dX2_lastLevel_8 : decode cX2_lastLevel 8 = .ok (.goto 16, 3) := by decide +kernel
theorem dX2_lastLevel_11 : decode cX2_lastLevel 11 = .ok (.aload_n 0, 1) := by decide +kernel
theorem dX2_lastLevel_12 : decode cX2_lastLevel 12 = .ok (.getfield 41, 3) := by decide +kernel
theorem dX2_lastLevel_15 : decode cX2_lastLevel 15 = .ok (.aload_n 0, 1) := by decide +kernel
theorem dX2_lastLevel_16 : decode cX2_lastLevel 16 = .ok (.getfield 47, 3) := by decide +kernel
theorem dX2_lastLevel_19 : decode cX2_lastLevel 19 = .ok (.iconst 1, 1) := by decide +kernel
theorem dX2_lastLevel_20 : decode cX2_lastLevel 20 = .ok (.isub, 1) := by decide +kernel
theorem dX2_lastLevel_21 : decode cX2_lastLevel 21 = .ok (.invokevirtual 58, 3) := by decide +kernel
theorem dX2_lastLevel_24 : decode cX2_lastLevel 24 = .ok (.ireturn, 1) := by decide +kernel
set_option maxRecDepth 20000 in
theorem ggX2_levelAtValue_X0_at : GoodIn wsX2_levelAtValue wsX0_at := goodIn_r _ [6, 7, 20] (by decide +kernel) (by decide +kernel)
set_option maxRecDepth 20000 in
theorem gX2_levelAtValue_X0_at : GoodIn wsX2_levelAtValue (wsV RX2 58 RX0 yX0_at wsX0_at) := goodIn_app (goodIn_of _ (by decide +kernel)) ggX2_levelAtValue_X0_at
theorem dX2_levelAtValue_0 : decode cX2_levelAtValue 0 = .ok (.aload_n 0, 1) := by decide +kernel
theorem dX2_levelAtValue_1 : decode cX2_levelAtValue 1 = .ok (.getfield 44, 3) := by decide +kernel
theorem dX2_levelAtValue_4 : decode cX2_levelAtValue 4 = .ok (.iload_n 1, 1) := by decide +kernel
theorem dX2_levelAtValue_5 : decode cX2_levelAtValue 5 = .ok (.invokevirtual 58, 3) := by decide +kernel
theorem dX2_levelAtValue_8 : decode cX2_levelAtValue 8 = .ok (.ireturn, 1) := by decide +kernel
set_option maxRecDepth 20000 in
theorem ggX2_wholeCost_X0_at : GoodIn wsX2_wholeCost wsX0_at := goodIn_r _ [7, 8, 21] (by decide +kernel) (by decide +kernel)
set_option maxRecDepth 20000 in
theorem gX2_wholeCost_X0_at : GoodIn wsX2_wholeCost (wsV RX2 58 RX0 yX0_at wsX0_at) := goodIn_app (goodIn_of _ (by decide +kernel)) ggX2_wholeCost_X0_at
theorem dX2_wholeCost_0 : decode cX2_wholeCost 0 = .ok (.aload_n 0, 1) := by decide +kernel
theorem dX2_wholeCost_1 : decode cX2_wholeCost 1 = .ok (.getfield 47, 3) := by decide +kernel
theorem dX2_wholeCost_4 : decode cX2_wholeCost 4 = .ok (.ifCond .ne 7, 3) := by decide +kernel
theorem dX2_wholeCost_7 : decode cX2_wholeCost 7 = .ok (.iconst 0, 1) := by decide +kernel
theorem dX2_wholeCost_8 : decode cX2_wholeCost 8 = .ok (.goto 11, 3) := by decide +kernel
theorem dX2_wholeCost_11 : decode cX2_wholeCost 11 = .ok (.aload_n 0, 1) := by decide +kernel
theorem dX2_wholeCost_12 : decode cX2_wholeCost 12 = .ok (.getfield 28, 3) := by decide +kernel
theorem dX2_wholeCost_15 : decode cX2_wholeCost 15 = .ok (.iconst 0, 1) := by decide +kernel
theorem dX2_wholeCost_16 : decode cX2_wholeCost 16 = .ok (.invokevirtual 58, 3) := by decide +kernel
theorem dX2_wholeCost_19 : decode cX2_wholeCost 19 = .ok (.ireturn, 1) := by decide +kernel
set_option maxRecDepth 20000 in
theorem ggX2_costBetween_X2_sortBetween : GoodIn wsX2_costBetween wsX2_sortBetween := goodIn_r _ [6, 1, 7, 8, 9, 10, 11, 12, 13, 14, 15, 16, 5, 17, 18, 19, 20, 21, 22, 23, 24, 25, 26, 27, 28, 29, 30, 31, 32, 33, 34, 35, 36, 37, 38, 39, 40, 41, 42, 43, 44, 45, 46, 47, 52, 53, 54, 55, 56, 57, 58, 59, 60, 61, 62, 63, 64, 65, 66, 67, 68, 69, 70, 71, 72, 73, 74, 75, 76] (by decide +kernel) (by decide +kernel)
set_option maxRecDepth 20000 in
theorem gX2_costBetween_X2_sortBetween : GoodIn wsX2_costBetween (wsV RX2 62 RX2 yX2_sortBetween wsX2_sortBetween) := goodIn_app (goodIn_of _ (by decide +kernel)) ggX2_costBetween_X2_sortBetween
set_option maxRecDepth 20000 in
theorem ggX2_costBetween_X4_spreadAroundMedian : GoodIn wsX2_costBetween wsX4_spreadAroundMedian := goodIn_r _ [51, 13, 64, 65, 66] (by decide +kernel) (by decide +kernel)
set_option maxRecDepth 20000 in
theorem gX2_costBetween_X4_spreadAroundMedian : GoodIn wsX2_costBetween (wsV RX2 66 RX4 yX4_spreadAroundMedian wsX4_spreadAroundMedian) := goodIn_app (goodIn_of _ (by decide +kernel)) ggX2_costBetween_X4_spreadAroundMedian
theorem dX2_costBetween_0 : decode cX2_costBetween 0 = .ok (.aload_n 0, 1) := by decide +kernel
theorem dX2_costBetween_1 : decode cX2_costBetween 1 = .ok (.iload_n 1, 1) := by decide +kernel
theorem dX2_costBetween_2 : decode cX2_costBetween 2 = .ok (.iload_n 2, 1) := by decide +kernel
theorem dX2_costBetween_3 : decode cX2_costBetween 3 = .ok (.invokevirtual 62, 3) := by decide +kernel
theorem dX2_costBetween_6 : decode cX2_costBetween 6 = .ok (.aload_n 0, 1) := by decide +kernel
theorem dX2_costBetween_7 : decode cX2_costBetween 7 = .ok (.getfield 12, 3) := by decide +kernel
theorem dX2_costBetween_10 : decode cX2_costBetween 10 = .ok (.invokevirtual 66, 3) := by decide +kernel
theorem dX2_costBetween_13 : decode cX2_costBetween 13 = .ok (.ireturn, 1) := by decide +kernel
set_option maxRecDepth 20000 in
theorem ggX2_findCuts_X3_count : GoodIn wsX2_findCuts wsX3_count := goodIn_r _ [6, 7, 87, 88, 89] (by decide +kernel) (by decide +kernel)
set_option maxRecDepth 20000 in
theorem gX2_findCuts_X3_count : GoodIn wsX2_findCuts (wsV RX2 70 RX3 yX3_count wsX3_count) := goodIn_app (goodIn_of _ (by decide +kernel)) ggX2_findCuts_X3_count
set_option maxRecDepth 20000 in
theorem ggX2_findCuts_X2_findBestFrom : GoodIn wsX2_findCuts wsX2_findBestFrom := goodIn_r _ [12, 13, 14, 15, 16, 17, 18, 19, 20, 21, 22, 23, 24, 25, 26, 27, 28, 11, 29, 30, 31, 32, 33, 34, 35, 36, 37, 38, 39, 40, 1, 41, 42, 43, 44, 5, 45, 46, 47, 48, 49, 50, 7, 51, 52, 53, 54, 55, 56, 57, 58, 59, 60, 61, 62, 63, 64, 65, 66, 67, 68, 69, 70, 71, 72, 73, 74, 75, 76, 77, 78, 79, 80, 81, 82, 83, 84, 85, 86, 90, 91, 92, 93, 87, 88, 89, 94, 95, 96, 97, 98, 99] (by decide +kernel) (by decide +kernel)
set_option maxRecDepth 20000 in
theorem gX2_findCuts_X2_findBestFrom : GoodIn wsX2_findCuts (wsV RX2 75 RX2 yX2_findBestFrom wsX2_findBestFrom) := goodIn_app (goodIn_of _ (by decide +kernel)) ggX2_findCuts_X2_findBestFrom
theorem dX2_findCuts_0 : decode cX2_findCuts 0 = .ok (.aload_n 0, 1) := by decide +kernel
theorem dX2_findCuts_1 : decode cX2_findCuts 1 = .ok (.getfield 50, 3) := by decide +kernel
theorem dX2_findCuts_4 : decode cX2_findCuts 4 = .ok (.invokevirtual 70, 3) := by decide +kernel
theorem dX2_findCuts_7 : decode cX2_findCuts 7 = .ok (.istore_n 1, 1) := by decide +kernel
theorem dX2_findCuts_8 : decode cX2_findCuts 8 = .ok (.iload_n 1, 1) := by decide +kernel
theorem dX2_findCuts_9 : decode cX2_findCuts 9 = .ok (.iconst 1, 1) := by decide +kernel
theorem dX2_findCuts_10 : decode cX2_findCuts 10 = .ok (.isub, 1) := by decide +kernel
theorem dX2_findCuts_11 : decode cX2_findCuts 11 = .ok (.istore_n 2, 1) := by decide +kernel
theorem dX2_findCuts_12 : decode cX2_findCuts 12 = .ok (.iload_n 2, 1) := by decide +kernel
theorem dX2_findCuts_13 : decode cX2_findCuts 13 = .ok (.ifCond .lt 15, 3) := by decide +kernel
theorem dX2_findCuts_16 : decode cX2_findCuts 16 = .ok (.aload_n 0, 1) := by decide +kernel
theorem dX2_findCuts_17 : decode cX2_findCuts 17 = .ok (.iload_n 2, 1) := by decide +kernel
theorem dX2_findCuts_18 : decode cX2_findCuts 18 = .ok (.iload_n 1, 1) := by decide +kernel
theorem dX2_findCuts_19 : decode cX2_findCuts 19 = .ok (.invokevirtual 75, 3) := by decide +kernel
theorem dX2_findCuts_22 : decode cX2_findCuts 22 = .ok (.iinc 2 (-1), 3) := by decide +kernel
theorem dX2_findCuts_25 : decode cX2_findCuts 25 = .ok (.goto (-13), 3) := by decide +kernel
theorem dX2_findCuts_28 : decode cX2_findCuts 28 = .ok (.return_, 1) := by decide +kernel
set_option maxRecDepth 20000 in
theorem ggX2_followCuts_X3_count : GoodIn wsX2_followCuts wsX3_count := goodIn_r _ [12, 13, 78, 79, 80] (by decide +kernel) (by decide +kernel)
set_option maxRecDepth 20000 in
theorem gX2_followCuts_X3_count : GoodIn wsX2_followCuts (wsV RX2 70 RX3 yX3_count wsX3_count) := goodIn_app (goodIn_of _ (by decide +kernel)) ggX2_followCuts_X3_count
set_option maxRecDepth 20000 in
theorem ggX2_followCuts_X0_at : GoodIn wsX2_followCuts wsX0_at := goodIn_r _ [18, 19, 81] (by decide +kernel) (by decide +kernel)
set_option maxRecDepth 20000 in
theorem gX2_followCuts_X0_at : GoodIn wsX2_followCuts (wsV RX2 58 RX0 yX0_at wsX0_at) := goodIn_app (goodIn_of _ (by decide +kernel)) ggX2_followCuts_X0_at
set_option maxRecDepth 20000 in
theorem ggX2_followCuts_X2_sortBetween : GoodIn wsX2_followCuts wsX2_sortBetween := goodIn_r _ [24, 4, 25, 26, 27, 28, 29, 30, 31, 32, 33, 34, 23, 35, 1, 36, 37, 38, 39, 11, 40, 41, 42, 43, 44, 45, 13, 46, 47, 48, 49, 50, 51, 52, 15, 16, 17, 18, 19, 53, 54, 55, 56, 57, 66, 67, 68, 69, 70, 71, 72, 73, 74, 75, 76, 77, 82, 83, 84, 78, 79, 80, 85, 86, 87, 88, 89, 90, 81] (by decide +kernel) (by decide +kernel)
set_option maxRecDepth 20000 in
theorem gX2_followCuts_X2_sortBetween : GoodIn wsX2_followCuts (wsV RX2 62 RX2 yX2_sortBetween wsX2_sortBetween) := goodIn_app (goodIn_of _ (by decide +kernel)) ggX2_followCuts_X2_sortBetween
set_option maxRecDepth 20000 in
theorem ggX2_followCuts_X4_median : GoodIn wsX2_followCuts wsX4_median := goodIn_r _ [61, 30, 57, 82, 83, 84] (by decide +kernel) (by decide +kernel)
set_option maxRecDepth 20000 in
theorem gX2_followCuts_X4_median : GoodIn wsX2_followCuts (wsV RX2 78 RX4 yX4_median wsX4_median) := goodIn_app (goodIn_of _ (by decide +kernel)) ggX2_followCuts_X4_median
set_option maxRecDepth 20000 in
theorem ggX2_followCuts_X0_put : GoodIn wsX2_followCuts wsX0_put := goodIn_r _ [65, 19, 81] (by decide +kernel) (by decide +kernel)
set_option maxRecDepth 20000 in
theorem gX2_followCuts_X0_put : GoodIn wsX2_followCuts (wsV RX2 81 RX0 yX0_put wsX0_put) := goodIn_app (goodIn_of _ (by decide +kernel)) ggX2_followCuts_X0_put
theorem dX2_followCuts_0 : decode cX2_followCuts 0 = .ok (.aload_n 0, 1) := by decide +kernel
theorem dX2_followCuts_1 : decode cX2_followCuts 1 = .ok (.getfield 50, 3) := by decide +kernel
theorem dX2_followCuts_4 : decode cX2_followCuts 4 = .ok (.invokevirtual 70, 3) := by decide +kernel
theorem dX2_followCuts_7 : decode cX2_followCuts 7 = .ok (.istore_n 1, 1) := by decide +kernel
theorem dX2_followCuts_8 : decode cX2_followCuts 8 = .ok (.iconst 0, 1) := by decide +kernel
theorem dX2_followCuts_9 : decode cX2_followCuts 9 = .ok (.istore_n 2, 1) := by decide +kernel
theorem dX2_followCuts_10 : decode cX2_followCuts 10 = .ok (.aload_n 0, 1) := by decide +kernel
theorem dX2_followCuts_11 : decode cX2_followCuts 11 = .ok (.iconst 0, 1) := by decide +kernel
theorem dX2_followCuts_12 : decode cX2_followCuts 12 = .ok (.putfield 47, 3) := by decide +kernel
theorem dX2_followCuts_15 : decode cX2_followCuts 15 = .ok (.iload_n 2, 1) := by decide +kernel
theorem dX2_followCuts_16 : decode cX2_followCuts 16 = .ok (.iload_n 1, 1) := by decide +kernel
theorem dX2_followCuts_17 : decode cX2_followCuts 17 = .ok (.if_icmp .ge 102, 3) := by decide +kernel
theorem dX2_followCuts_20 : decode cX2_followCuts 20 = .ok (.aload_n 0, 1) := by decide +kernel
theorem dX2_followCuts_21 : decode cX2_followCuts 21 = .ok (.getfield 47, 3) := by decide +kernel
theorem dX2_followCuts_24 : decode cX2_followCuts 24 = .ok (.bipush 60, 2) := by decide +kernel
theorem dX2_followCuts_26 : decode cX2_followCuts 26 = .ok (.if_icmp .ge 93, 3) := by decide +kernel
theorem dX2_followCuts_29 : decode cX2_followCuts 29 = .ok (.aload_n 0, 1) := by decide +kernel
theorem dX2_followCuts_30 : decode cX2_followCuts 30 = .ok (.getfield 35, 3) := by decide +kernel
theorem dX2_followCuts_33 : decode cX2_followCuts 33 = .ok (.iload_n 2, 1) := by decide +kernel
theorem dX2_followCuts_34 : decode cX2_followCuts 34 = .ok (.invokevirtual 58, 3) := by decide +kernel
theorem dX2_followCuts_37 : decode cX2_followCuts 37 = .ok (.istore_n 3, 1) := by decide +kernel
theorem dX2_followCuts_38 : decode cX2_followCuts 38 = .ok (.aload_n 0, 1) := by decide +kernel
theorem dX2_followCuts_39 : decode cX2_followCuts 39 = .ok (.iload_n 2, 1) := by decide +kernel
theorem dX2_followCuts_40 : decode cX2_followCuts 40 = .ok (.iload_n 3, 1) := by decide +kernel
theorem dX2_followCuts_41 : decode cX2_followCuts 41 = .ok (.invokevirtual 62, 3) := by decide +kernel
theorem dX2_followCuts_44 : decode cX2_followCuts 44 = .ok (.aload_n 0, 1) := by decide +kernel
theorem dX2_followCuts_45 : decode cX2_followCuts 45 = .ok (.getfield 12, 3) := by decide +kernel
theorem dX2_followCuts_48 : decode cX2_followCuts 48 = .ok (.invokevirtual 78, 3) := by decide +kernel
theorem dX2_followCuts_51 : decode cX2_followCuts 51 = .ok (.istore 4, 2) := by decide +kernel
theorem dX2_followCuts_53 : decode cX2_followCuts 53 = .ok (.aload_n 0, 1) := by decide +kernel
theorem dX2_followCuts_54 : decode cX2_followCuts 54 = .ok (.getfield 38, 3) := by decide +kernel
theorem dX2_followCuts_57 : decode cX2_followCuts 57 = .ok (.aload_n 0, 1) := by decide +kernel
theorem dX2_followCuts_58 : decode cX2_followCuts 58 = .ok (.getfield 47, 3) := by decide +kernel
theorem dX2_followCuts_61 : decode cX2_followCuts 61 = .ok (.iload_n 2, 1) := by decide +kernel
theorem dX2_followCuts_62 : decode cX2_followCuts 62 = .ok (.invokevirtual 81, 3) := by decide +kernel
theorem dX2_followCuts_65 : decode cX2_followCuts 65 = .ok (.aload_n 0, 1) := by decide +kernel
theorem dX2_followCuts_66 : decode cX2_followCuts 66 = .ok (.getfield 41, 3) := by decide +kernel
theorem dX2_followCuts_69 : decode cX2_followCuts 69 = .ok (.aload_n 0, 1) := by decide +kernel
theorem dX2_followCuts_70 : decode cX2_followCuts 70 = .ok (.getfield 47, 3) := by decide +kernel
theorem dX2_followCuts_73 : decode cX2_followCuts 73 = .ok (.iload 4, 2) := by decide +kernel
theorem dX2_followCuts_75 : decode cX2_followCuts 75 = .ok (.invokevirtual 81, 3) := by decide +kernel
theorem dX2_followCuts_78 : decode cX2_followCuts 78 = .ok (.iload_n 2, 1) := by decide +kernel
theorem dX2_followCuts_79 : decode cX2_followCuts 79 = .ok (.istore 5, 2) := by decide +kernel
theorem dX2_followCuts_81 : decode cX2_followCuts 81 = .ok (.iload 5, 2) := by decide +kernel
theorem dX2_followCuts_83 : decode cX2_followCuts 83 = .ok (.iload_n 3, 1) := by decide +kernel
theorem dX2_followCuts_84 : decode cX2_followCuts 84 = .ok (.if_icmp .ge 20, 3) := by decide +kernel
theorem dX2_followCuts_87 : decode cX2_followCuts 87 = .ok (.aload_n 0, 1) := by decide +kernel
theorem dX2_followCuts_88 : decode cX2_followCuts 88 = .ok (.getfield 44, 3) := by decide +kernel
theorem dX2_followCuts_91 : decode cX2_followCuts 91 = .ok (.iload 5, 2) := by decide +kernel
theorem dX2_followCuts_93 : decode cX2_followCuts 93 = .ok (.iload 4, 2) := by decide +kernel
theorem dX2_followCuts_95 : decode cX2_followCuts 95 = .ok (.invokevirtual 81, 3) := by decide +kernel
theorem dX2_followCuts_98 : decode cX2_followCuts 98 = .ok (.iinc 5 1, 3) := by decide +kernel
theorem dX2_followCuts_101 : decode cX2_followCuts 101 = .ok (.goto (-20), 3) := by decide +kernel
theorem dX2_followCuts_104 : decode cX2_followCuts 104 = .ok (.iload_n 3, 1) := by decide +kernel
theorem dX2_followCuts_105 : decode cX2_followCuts 105 = .ok (.istore_n 2, 1) := by decide +kernel
theorem dX2_followCuts_106 : decode cX2_followCuts 106 = .ok (.aload_n 0, 1) := by decide +kernel
theorem dX2_followCuts_107 : decode cX2_followCuts 107 = .ok (.dup, 1) := by decide +kernel
theorem dX2_followCuts_108 : decode cX2_followCuts 108 = .ok (.getfield 47, 3) := by decide +kernel
theorem dX2_followCuts_111 : decode cX2_followCuts 111 = .ok (.iconst 1, 1) := by decide +kernel
theorem dX2_followCuts_112 : decode cX2_followCuts 112 = .ok (.iadd, 1) := by decide +kernel
theorem dX2_followCuts_113 : decode cX2_followCuts 113 = .ok (.putfield 47, 3) := by decide +kernel
theorem dX2_followCuts_116 : decode cX2_followCuts 116 = .ok (.goto (-101), 3) := by decide +kernel
theorem dX2_followCuts_119 : decode cX2_followCuts 119 = .ok (.return_, 1) := by decide +kernel
set_option maxRecDepth 20000 in
theorem ggX2_findBestFrom_X4_clear : GoodIn wsX2_findBestFrom wsX4_clear := goodIn_r _ [11, 12, 13, 79, 80, 81] (by decide +kernel) (by decide +kernel)
set_option maxRecDepth 20000 in
theorem gX2_findBestFrom_X4_clear : GoodIn wsX2_findBestFrom (wsV RX2 84 RX4 yX4_clear wsX4_clear) := goodIn_app (goodIn_of _ (by decide +kernel)) ggX2_findBestFrom_X4_clear
set_option maxRecDepth 20000 in
theorem ggX2_findBestFrom_X2_takeAsBest : GoodIn wsX2_findBestFrom wsX2_takeAsBest := goodIn_r _ [18, 5, 6, 19, 20, 21, 22, 23, 24, 25, 67, 68, 69, 70, 71, 72, 73, 74, 75, 76, 77, 78, 82] (by decide +kernel) (by decide +kernel)
set_option maxRecDepth 20000 in
theorem gX2_findBestFrom_X2_takeAsBest : GoodIn wsX2_findBestFrom (wsV RX2 90 RX2 yX2_takeAsBest wsX2_takeAsBest) := goodIn_app (goodIn_of _ (by decide +kernel)) ggX2_findBestFrom_X2_takeAsBest
set_option maxRecDepth 20000 in
theorem ggX2_findBestFrom_X2_sortIn : GoodIn wsX2_findBestFrom wsX2_sortIn := goodIn_r _ [29, 30, 1, 31, 32, 33, 34, 35, 36, 37, 38, 39, 40, 41, 42, 43, 44, 45, 46, 47, 48, 49, 50, 51, 23, 52, 25, 53, 54, 55, 10, 56, 12, 57, 13, 67, 68, 69, 70, 71, 72, 73, 74, 75, 76, 77, 78, 83, 84, 85, 86, 87, 88, 89, 90, 91, 82, 79, 80, 81] (by decide +kernel) (by decide +kernel)
set_option maxRecDepth 20000 in
theorem gX2_findBestFrom_X2_sortIn : GoodIn wsX2_findBestFrom (wsV RX2 94 RX2 yX2_sortIn wsX2_sortIn) := goodIn_app (goodIn_of _ (by decide +kernel)) ggX2_findBestFrom_X2_sortIn
set_option maxRecDepth 20000 in
theorem ggX2_findBestFrom_X4_spreadAroundMedian : GoodIn wsX2_findBestFrom wsX4_spreadAroundMedian := goodIn_r _ [61, 13, 79, 80, 81] (by decide +kernel) (by decide +kernel)
set_option maxRecDepth 20000 in
theorem gX2_findBestFrom_X4_spreadAroundMedian : GoodIn wsX2_findBestFrom (wsV RX2 66 RX4 yX4_spreadAroundMedian wsX4_spreadAroundMedian) := goodIn_app (goodIn_of _ (by decide +kernel)) ggX2_findBestFrom_X4_spreadAroundMedian
set_option maxRecDepth 20000 in
theorem ggX2_findBestFrom_X0_at : GoodIn wsX2_findBestFrom wsX0_at := goodIn_r _ [52, 25, 82] (by decide +kernel) (by decide +kernel)
set_option maxRecDepth 20000 in
theorem gX2_findBestFrom_X0_at : GoodIn wsX2_findBestFrom (wsV RX2 58 RX0 yX0_at wsX0_at) := goodIn_app (goodIn_of _ (by decide +kernel)) ggX2_findBestFrom_X0_at
set_option maxRecDepth 20000 in
theorem ggX2_findBestFrom_X2_consider : GoodIn wsX2_findBestFrom wsX2_consider := goodIn_r _ [66, 5, 6, 62, 50, 51, 23, 52, 25, 14, 15, 16, 17, 18, 19, 20, 21, 22, 24, 67, 68, 69, 70, 71, 72, 73, 74, 75, 76, 77, 78, 82] (by decide +kernel) (by decide +kernel)
set_option maxRecDepth 20000 in
theorem gX2_findBestFrom_X2_consider : GoodIn wsX2_findBestFrom (wsV RX2 98 RX2 yX2_consider wsX2_consider) := goodIn_app (goodIn_of _ (by decide +kernel)) ggX2_findBestFrom_X2_consider
theorem dX2_findBestFrom_0 : decode cX2_findBestFrom 0 = .ok (.aload_n 0, 1) := by decide +kernel
theorem dX2_findBestFrom_1 : decode cX2_findBestFrom 1 = .ok (.getfield 12, 3) := by decide +kernel
theorem dX2_findBestFrom_4 : decode cX2_findBestFrom 4 = .ok (.invokevirtual 84, 3) := by decide +kernel
theorem dX2_findBestFrom_7 : decode cX2_findBestFrom 7 = .ok (.aload_n 0, 1) := by decide +kernel
theorem dX2_findBestFrom_8 : decode cX2_findBestFrom 8 = .ok (.iload_n 1, 1) := by decide +kernel
theorem dX2_findBestFrom_9 : decode cX2_findBestFrom 9 = .ok (.iload_n 2, 1) := by decide +kernel
theorem dX2_findBestFrom_10 : decode cX2_findBestFrom 10 = .ok (.ldc 89, 2) := by decide +kernel
theorem dX2_findBestFrom_12 : decode cX2_findBestFrom 12 = .ok (.iconst 0, 1) := by decide +kernel
theorem dX2_findBestFrom_13 : decode cX2_findBestFrom 13 = .ok (.invokevirtual 90, 3) := by decide +kernel
theorem dX2_findBestFrom_16 : decode cX2_findBestFrom 16 = .ok (.iload_n 1, 1) := by decide +kernel
theorem dX2_findBestFrom_17 : decode cX2_findBestFrom 17 = .ok (.iconst 1, 1) := by decide +kernel
theorem dX2_findBestFrom_18 : decode cX2_findBestFrom 18 = .ok (.iadd, 1) := by decide +kernel
theorem dX2_findBestFrom_19 : decode cX2_findBestFrom 19 = .ok (.istore_n 3, 1) := by decide +kernel
theorem dX2_findBestFrom_20 : decode cX2_findBestFrom 20 = .ok (.iload_n 3, 1) := by decide +kernel
theorem dX2_findBestFrom_21 : decode cX2_findBestFrom 21 = .ok (.iload_n 2, 1) := by decide +kernel
theorem dX2_findBestFrom_22 : decode cX2_findBestFrom 22 = .ok (.if_icmp .ge 73, 3) := by decide +kernel
theorem dX2_findBestFrom_25 : decode cX2_findBestFrom 25 = .ok (.aload_n 0, 1) := by decide +kernel
theorem dX2_findBestFrom_26 : decode cX2_findBestFrom 26 = .ok (.iload_n 3, 1) := by decide +kernel
theorem dX2_findBestFrom_27 : decode cX2_findBestFrom 27 = .ok (.iconst 1, 1) := by decide +kernel
theorem dX2_findBestFrom_28 : decode cX2_findBestFrom 28 = .ok (.isub, 1) := by decide +kernel
theorem dX2_findBestFrom_29 : decode cX2_findBestFrom 29 = .ok (.invokevirtual 94, 3) := by decide +kernel
theorem dX2_findBestFrom_32 : decode cX2_findBestFrom 32 = .ok (.iload_n 3, 1) := by decide +kernel
theorem dX2_findBestFrom_33 : decode cX2_findBestFrom 33 = .ok (.iload_n 1, 1) := by decide +kernel
theorem dX2_findBestFrom_34 : decode cX2_findBestFrom 34 = .ok (.isub, 1) := by decide +kernel
theorem dX2_findBestFrom_35 : decode cX2_findBestFrom 35 = .ok (.aload_n 0, 1) := by decide +kernel
theorem dX2_findBestFrom_36 : decode cX2_findBestFrom 36 = .ok (.getfield 18, 3) := by decide +kernel
theorem dX2_findBestFrom_39 : decode cX2_findBestFrom 39 = .ok (.if_icmp .lt 50, 3) := by decide +kernel
theorem dX2_findBestFrom_42 : decode cX2_findBestFrom 42 = .ok (.iload_n 2, 1) := by decide +kernel
theorem dX2_findBestFrom_43 : decode cX2_findBestFrom 43 = .ok (.iload_n 3, 1) := by decide +kernel
theorem dX2_findBestFrom_44 : decode cX2_findBestFrom 44 = .ok (.isub, 1) := by decide +kernel
theorem dX2_findBestFrom_45 : decode cX2_findBestFrom 45 = .ok (.aload_n 0, 1) := by decide +kernel
theorem dX2_findBestFrom_46 : decode cX2_findBestFrom 46 = .ok (.getfield 18, 3) := by decide +kernel
theorem dX2_findBestFrom_49 : decode cX2_findBestFrom 49 = .ok (.if_icmp .lt 40, 3) := by decide +kernel
theorem dX2_findBestFrom_52 : decode cX2_findBestFrom 52 = .ok (.aload_n 0, 1) := by decide +kernel
theorem dX2_findBestFrom_53 : decode cX2_findBestFrom 53 = .ok (.iload_n 1, 1) := by decide +kernel
theorem dX2_findBestFrom_54 : decode cX2_findBestFrom 54 = .ok (.iload_n 3, 1) := by decide +kernel
theorem dX2_findBestFrom_55 : decode cX2_findBestFrom 55 = .ok (.aload_n 0, 1) := by decide +kernel
theorem dX2_findBestFrom_56 : decode cX2_findBestFrom 56 = .ok (.getfield 12, 3) := by decide +kernel
theorem dX2_findBestFrom_59 : decode cX2_findBestFrom 59 = .ok (.invokevirtual 66, 3) := by decide +kernel
theorem dX2_findBestFrom_62 : decode cX2_findBestFrom 62 = .ok (.aload_n 0, 1) := by decide +kernel
theorem dX2_findBestFrom_63 : decode cX2_findBestFrom 63 = .ok (.getfield 22, 3) := by decide +kernel
theorem dX2_findBestFrom_66 : decode cX2_findBestFrom 66 = .ok (.iadd, 1) := by decide +kernel
theorem dX2_findBestFrom_67 : decode cX2_findBestFrom 67 = .ok (.aload_n 0, 1) := by decide +kernel
theorem dX2_findBestFrom_68 : decode cX2_findBestFrom 68 = .ok (.getfield 28, 3) := by decide +kernel
theorem dX2_findBestFrom_71 : decode cX2_findBestFrom 71 = .ok (.iload_n 3, 1) := by decide +kernel
theorem dX2_findBestFrom_72 : decode cX2_findBestFrom 72 = .ok (.invokevirtual 58, 3) := by decide +kernel
theorem dX2_findBestFrom_75 : decode cX2_findBestFrom 75 = .ok (.iadd, 1) := by decide +kernel
theorem dX2_findBestFrom_76 : decode cX2_findBestFrom 76 = .ok (.aload_n 0, 1) := by decide +kernel
theorem dX2_findBestFrom_77 : decode cX2_findBestFrom 77 = .ok (.getfield 32, 3) := by decide +kernel
theorem dX2_findBestFrom_80 : decode cX2_findBestFrom 80 = .ok (.iload_n 3, 1) := by decide +kernel
theorem dX2_findBestFrom_81 : decode cX2_findBestFrom 81 = .ok (.invokevirtual 58, 3) := by decide +kernel
theorem dX2_findBestFrom_84 : decode cX2_findBestFrom 84 = .ok (.iconst 1, 1) := by decide +kernel
theorem dX2_findBestFrom_85 : decode cX2_findBestFrom 85 = .ok (.iadd, 1) := by decide +kernel
theorem dX2_findBestFrom_86 : decode cX2_findBestFrom 86 = .ok (.invokevirtual 98, 3) := by decide +kernel
theorem dX2_findBestFrom_89 : decode cX2_findBestFrom 89 = .ok (.iinc 3 1, 3) := by decide +kernel
theorem dX2_findBestFrom_92 : decode cX2_findBestFrom 92 = .ok (.goto (-72), 3) := by decide +kernel
theorem dX2_findBestFrom_95 : decode cX2_findBestFrom 95 = .ok (.aload_n 0, 1) := by decide +kernel
theorem dX2_findBestFrom_96 : decode cX2_findBestFrom 96 = .ok (.iload_n 2, 1) := by decide +kernel
theorem dX2_findBestFrom_97 : decode cX2_findBestFrom 97 = .ok (.iconst 1, 1) := by decide +kernel
theorem dX2_findBestFrom_98 : decode cX2_findBestFrom 98 = .ok (.isub, 1) := by decide +kernel
theorem dX2_findBestFrom_99 : decode cX2_findBestFrom 99 = .ok (.invokevirtual 94, 3) := by decide +kernel
theorem dX2_findBestFrom_102 : decode cX2_findBestFrom 102 = .ok (.aload_n 0, 1) := by decide +kernel
theorem dX2_findBestFrom_103 : decode cX2_findBestFrom 103 = .ok (.iload_n 1, 1) := by decide +kernel
theorem dX2_findBestFrom_104 : decode cX2_findBestFrom 104 = .ok (.iload_n 2, 1) := by decide +kernel
theorem dX2_findBestFrom_105 : decode cX2_findBestFrom 105 = .ok (.aload_n 0, 1) := by decide +kernel
theorem dX2_findBestFrom_106 : decode cX2_findBestFrom 106 = .ok (.getfield 12, 3) := by decide +kernel
theorem dX2_findBestFrom_109 : decode cX2_findBestFrom 109 = .ok (.invokevirtual 66, 3) := by decide +kernel
theorem dX2_findBestFrom_112 : decode cX2_findBestFrom 112 = .ok (.iconst 0, 1) := by decide +kernel
theorem dX2_findBestFrom_113 : decode cX2_findBestFrom 113 = .ok (.invokevirtual 98, 3) := by decide +kernel
theorem dX2_findBestFrom_116 : decode cX2_findBestFrom 116 = .ok (.return_, 1) := by decide +kernel
set_option maxRecDepth 20000 in
theorem ggX2_consider_X0_at : GoodIn wsX2_consider wsX0_at := goodIn_r _ [7, 8, 31] (by decide +kernel) (by decide +kernel)
set_option maxRecDepth 20000 in
theorem gX2_consider_X0_at : GoodIn wsX2_consider (wsV RX2 58 RX0 yX0_at wsX0_at) := goodIn_app (goodIn_of _ (by decide +kernel)) ggX2_consider_X0_at
set_option maxRecDepth 20000 in
theorem ggX2_consider_X2_takeAsBest : GoodIn wsX2_consider wsX2_takeAsBest := goodIn_r _ [13, 1, 2, 14, 15, 16, 17, 6, 18, 8, 19, 20, 21, 22, 23, 24, 25, 26, 27, 28, 29, 30, 31] (by decide +kernel) (by decide +kernel)
set_option maxRecDepth 20000 in
theorem gX2_consider_X2_takeAsBest : GoodIn wsX2_consider (wsV RX2 90 RX2 yX2_takeAsBest wsX2_takeAsBest) := goodIn_app (goodIn_of _ (by decide +kernel)) ggX2_consider_X2_takeAsBest
theorem dX2_consider_0 : decode cX2_consider 0 = .ok (.aload_n 0, 1) := by decide +kernel
theorem dX2_consider_1 : decode cX2_consider 1 = .ok (.getfield 28, 3) := by decide +kernel
theorem dX2_consider_4 : decode cX2_consider 4 = .ok (.iload_n 1, 1) := by decide +kernel
theorem dX2_consider_5 : decode cX2_consider 5 = .ok (.invokevirtual 58, 3) := by decide +kernel
theorem dX2_consider_8 : decode cX2_consider 8 = .ok (.istore 5, 2) := by decide +kernel
theorem dX2_consider_10 : decode cX2_consider 10 = .ok (.iload_n 3, 1) := by decide +kernel
theorem dX2_consider_11 : decode cX2_consider 11 = .ok (.iload 5, 2) := by decide +kernel
theorem dX2_consider_13 : decode cX2_consider 13 = .ok (.if_icmp .lt 22, 3) := by decide +kernel
theorem dX2_consider_16 : decode cX2_consider 16 = .ok (.iload_n 3, 1) := by decide +kernel
theorem dX2_consider_17 : decode cX2_consider 17 = .ok (.iload 5, 2) := by decide +kernel
theorem dX2_consider_19 : decode cX2_consider 19 = .ok (.if_icmp .ne 25, 3) := by decide +kernel
theorem dX2_consider_22 : decode cX2_consider 22 = .ok (.iload 4, 2) := by decide +kernel
theorem dX2_consider_24 : decode cX2_consider 24 = .ok (.aload_n 0, 1) := by decide +kernel
theorem dX2_consider_25 : decode cX2_consider 25 = .ok (.getfield 32, 3) := by decide +kernel
theorem dX2_consider_28 : decode cX2_consider 28 = .ok (.iload_n 1, 1) := by decide +kernel
theorem dX2_consider_29 : decode cX2_consider 29 = .ok (.invokevirtual 58, 3) := by decide +kernel
theorem dX2_consider_32 : decode cX2_consider 32 = .ok (.if_icmp .ge 12, 3) := by decide +kernel
theorem dX2_consider_35 : decode cX2_consider 35 = .ok (.aload_n 0, 1) := by decide +kernel
theorem dX2_consider_36 : decode cX2_consider 36 = .ok (.iload_n 1, 1) := by decide +kernel
theorem dX2_consider_37 : decode cX2_consider 37 = .ok (.iload_n 2, 1) := by decide +kernel
theorem dX2_consider_38 : decode cX2_consider 38 = .ok (.iload_n 3, 1) := by decide +kernel
theorem dX2_consider_39 : decode cX2_consider 39 = .ok (.iload 4, 2) := by decide +kernel
theorem dX2_consider_41 : decode cX2_consider 41 = .ok (.invokevirtual 90, 3) := by decide +kernel
theorem dX2_consider_44 : decode cX2_consider 44 = .ok (.return_, 1) := by decide +kernel
set_option maxRecDepth 20000 in
theorem ggX2_takeAsBest_X0_put : GoodIn wsX2_takeAsBest wsX0_put := goodIn_r _ [8, 9, 22] (by decide +kernel) (by decide +kernel)
set_option maxRecDepth 20000 in
theorem gX2_takeAsBest_X0_put : GoodIn wsX2_takeAsBest (wsV RX2 81 RX0 yX0_put wsX0_put) := goodIn_app (goodIn_of _ (by decide +kernel)) ggX2_takeAsBest_X0_put
theorem dX2_takeAsBest_0 : decode cX2_takeAsBest 0 = .ok (.aload_n 0, 1) := by decide +kernel
theorem dX2_takeAsBest_1 : decode cX2_takeAsBest 1 = .ok (.getfield 28, 3) := by decide +kernel
theorem dX2_takeAsBest_4 : decode cX2_takeAsBest 4 = .ok (.iload_n 1, 1) := by decide +kernel
theorem dX2_takeAsBest_5 : decode cX2_takeAsBest 5 = .ok (.iload_n 3, 1) := by decide +kernel
theorem dX2_takeAsBest_6 : decode cX2_takeAsBest 6 = .ok (.invokevirtual 81, 3) := by decide +kernel
theorem dX2_takeAsBest_9 : decode cX2_takeAsBest 9 = .ok (.aload_n 0, 1) := by decide +kernel
theorem dX2_takeAsBest_10 : decode cX2_takeAsBest 10 = .ok (.getfield 32, 3) := by decide +kernel
theorem dX2_takeAsBest_13 : decode cX2_takeAsBest 13 = .ok (.iload_n 1, 1) := by decide +kernel
theorem dX2_takeAsBest_14 : decode cX2_takeAsBest 14 = .ok (.iload 4, 2) := by decide +kernel
theorem dX2_takeAsBest_16 : decode cX2_takeAsBest 16 = .ok (.invokevirtual 81, 3) := by decide +kernel
theorem dX2_takeAsBest_19 : decode cX2_takeAsBest 19 = .ok (.aload_n 0, 1) := by decide +kernel
theorem dX2_takeAsBest_20 : decode cX2_takeAsBest 20 = .ok (.getfield 35, 3) := by decide +kernel
theorem dX2_takeAsBest_23 : decode cX2_takeAsBest 23 = .ok (.iload_n 1, 1) := by decide +kernel
theorem dX2_takeAsBest_24 : decode cX2_takeAsBest 24 = .ok (.iload_n 2, 1) := by decide +kernel
theorem dX2_takeAsBest_25 : decode cX2_takeAsBest 25 = .ok (.invokevirtual 81, 3) := by decide +kernel
theorem dX2_takeAsBest_28 : decode cX2_takeAsBest 28 = .ok (.return_, 1) := by decide +kernel
set_option maxRecDepth 20000 in
theorem ggX2_sortBetween_X4_clear : GoodIn wsX2_sortBetween wsX4_clear := goodIn_r _ [6, 7, 8, 56, 57, 58] (by decide +kernel) (by decide +kernel)
set_option maxRecDepth 20000 in
theorem gX2_sortBetween_X4_clear : GoodIn wsX2_sortBetween (wsV RX2 84 RX4 yX4_clear wsX4_clear) := goodIn_app (goodIn_of _ (by decide +kernel)) ggX2_sortBetween_X4_clear
set_option maxRecDepth 20000 in
theorem ggX2_sortBetween_X2_sortIn : GoodIn wsX2_sortBetween wsX2_sortIn := goodIn_r _ [13, 14, 1, 15, 16, 17, 18, 19, 20, 21, 22, 23, 24, 25, 26, 27, 28, 29, 30, 31, 32, 33, 34, 35, 36, 37, 38, 39, 40, 41, 5, 42, 7, 43, 8, 44, 45, 46, 47, 48, 49, 50, 51, 52, 53, 54, 55, 59, 60, 61, 62, 63, 64, 65, 66, 67, 68, 56, 57, 58] (by decide +kernel) (by decide +kernel)
set_option maxRecDepth 20000 in
theorem gX2_sortBetween_X2_sortIn : GoodIn wsX2_sortBetween (wsV RX2 94 RX2 yX2_sortIn wsX2_sortIn) := goodIn_app (goodIn_of _ (by decide +kernel)) ggX2_sortBetween_X2_sortIn
theorem dX2_sortBetween_0 : decode cX2_sortBetween 0 = .ok (.aload_n 0, 1) := by decide +kernel
theorem dX2_sortBetween_1 : decode cX2_sortBetween 1 = .ok (.getfield 12, 3) := by decide +kernel
theorem dX2_sortBetween_4 : decode cX2_sortBetween 4 = .ok (.invokevirtual 84, 3) := by decide +kernel
theorem dX2_sortBetween_7 : decode cX2_sortBetween 7 = .ok (.iload_n 1, 1) := by decide +kernel
theorem dX2_sortBetween_8 : decode cX2_sortBetween 8 = .ok (.istore_n 3, 1) := by decide +kernel
theorem dX2_sortBetween_9 : decode cX2_sortBetween 9 = .ok (.iload_n 3, 1) := by decide +kernel
theorem dX2_sortBetween_10 : decode cX2_sortBetween 10 = .ok (.iload_n 2, 1) := by decide +kernel
theorem dX2_sortBetween_11 : decode cX2_sortBetween 11 = .ok (.if_icmp .ge 14, 3) := by decide +kernel
theorem dX2_sortBetween_14 : decode cX2_sortBetween 14 = .ok (.aload_n 0, 1) := by decide +kernel
theorem dX2_sortBetween_15 : decode cX2_sortBetween 15 = .ok (.iload_n 3, 1) := by decide +kernel
theorem dX2_sortBetween_16 : decode cX2_sortBetween 16 = .ok (.invokevirtual 94, 3) := by decide +kernel
theorem dX2_sortBetween_19 : decode cX2_sortBetween 19 = .ok (.iinc 3 1, 3) := by decide +kernel
theorem dX2_sortBetween_22 : decode cX2_sortBetween 22 = .ok (.goto (-13), 3) := by decide +kernel
theorem dX2_sortBetween_25 : decode cX2_sortBetween 25 = .ok (.return_, 1) := by decide +kernel
set_option maxRecDepth 20000 in
theorem ggX2_sortIn_X3_isHoliday : GoodIn wsX2_sortIn wsX3_isHoliday := goodIn_r _ [8, 9, 10, 11, 12, 7, 13, 14, 47, 48, 49] (by decide +kernel) (by decide +kernel)
set_option maxRecDepth 20000 in
theorem gX2_sortIn_X3_isHoliday : GoodIn wsX2_sortIn (wsV RX2 101 RX3 yX3_isHoliday wsX3_isHoliday) := goodIn_app (goodIn_of _ (by decide +kernel)) ggX2_sortIn_X3_isHoliday
set_option maxRecDepth 20000 in
theorem ggX2_sortIn_X1_adjustedAt : GoodIn wsX2_sortIn wsX1_adjustedAt := goodIn_r _ [19, 20, 21, 22, 23, 24, 25, 26, 50, 51, 52, 53, 54, 55, 56] (by decide +kernel) (by decide +kernel)
