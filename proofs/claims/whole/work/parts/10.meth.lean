-- methods, references, fields: by program (wip/whole/gen10.py)
def mX0_init : MI := (yX0_init, cX0_init, 1, none, 1)
theorem ok_X0_init : MOI mX0_init 0 := ⟨⟨cd_X0_init, ini_X0, by decide +kernel, by decide, by decide +kernel⟩, rfl, im_X0_init, rfl⟩
def mX1_init : MI := (yX1_init, cX1_init, 1, none, 1)
theorem ok_X1_init : MOI mX1_init 0 := ⟨⟨cd_X1_init, ini_X1, by decide +kernel, by decide, by decide +kernel⟩, rfl, im_X1_init, rfl⟩
def mX2_init : MI := (yX2_init, cX2_init, 3, none, 2)
theorem ok_X2_init : MOI mX2_init 1 := ⟨⟨cd_X2_init, ini_X2, by decide +kernel, by decide, by decide +kernel⟩, rfl, im_X2_init, rfl⟩
def mX2_add : MI := (yX2_add, cX2_add, 4, (some (.object "CleaningBench$Law")), 0)
theorem ok_X2_add : MOV mX2_add 2 := ⟨⟨cd_X2_add, ini_X2, by decide +kernel, by decide, by decide +kernel⟩, im_X2_add, se_X2_add⟩
def mX2_leastBroken : MI := (yX2_leastBroken, cX2_leastBroken, 3, (some .int), 4)
theorem ok_X2_leastBroken : MOV mX2_leastBroken 1 := ⟨⟨cd_X2_leastBroken, ini_X2, by decide +kernel, by decide, by decide +kernel⟩, im_X2_leastBroken, se_X2_leastBroken⟩
def mX2_find : MI := (yX2_find, cX2_find, 3, none, 3)
theorem ok_X2_find : MOV mX2_find 2 := ⟨⟨cd_X2_find, ini_X2, by decide +kernel, by decide, by decide +kernel⟩, im_X2_find, se_X2_find⟩
def mX2_addFound : MI := (yX2_addFound, cX2_addFound, 2, none, 0)
theorem ok_X2_addFound : MOV mX2_addFound 1 := ⟨⟨cd_X2_addFound, ini_X2, by decide +kernel, by decide, by decide +kernel⟩, im_X2_addFound, se_X2_addFound⟩
def mX2_findSingles : MI := (yX2_findSingles, cX2_findSingles, 4, none, 1)
theorem ok_X2_findSingles : MOV mX2_findSingles 2 := ⟨⟨cd_X2_findSingles, ini_X2, by decide +kernel, by decide, by decide +kernel⟩, im_X2_findSingles, se_X2_findSingles⟩
def mX2_quarrelsAlone : MI := (yX2_quarrelsAlone, cX2_quarrelsAlone, 5, (some .boolean), 0)
theorem ok_X2_quarrelsAlone : MOV mX2_quarrelsAlone 2 := ⟨⟨cd_X2_quarrelsAlone, ini_X2, by decide +kernel, by decide, by decide +kernel⟩, im_X2_quarrelsAlone, se_X2_quarrelsAlone⟩
def mX2_findUnhelped : MI := (yX2_findUnhelped, cX2_findUnhelped, 7, none, 2)
theorem ok_X2_findUnhelped : MOV mX2_findUnhelped 2 := ⟨⟨cd_X2_findUnhelped, ini_X2, by decide +kernel, by decide, by decide +kernel⟩, im_X2_findUnhelped, se_X2_findUnhelped⟩
def mX2_findPairs : MI := (yX2_findPairs, cX2_findPairs, 6, none, 2)
theorem ok_X2_findPairs : MOV mX2_findPairs 2 := ⟨⟨cd_X2_findPairs, ini_X2, by decide +kernel, by decide, by decide +kernel⟩, im_X2_findPairs, se_X2_findPairs⟩
def mX2_quarrelTogether : MI := (yX2_quarrelTogether, cX2_quarrelTogether, 8, (some .boolean), 1)
theorem ok_X2_quarrelTogether : MOV mX2_quarrelTogether 3 := ⟨⟨cd_X2_quarrelTogether, ini_X2, by decide +kernel, by decide, by decide +kernel⟩, im_X2_quarrelTogether, se_X2_quarrelTogether⟩
def mX2_areNearer : MI := (yX2_areNearer, cX2_areNearer, 9, (some .boolean), 0)
theorem ok_X2_areNearer : MOV mX2_areNearer 3 := ⟨⟨cd_X2_areNearer, ini_X2, by decide +kernel, by decide, by decide +kernel⟩, im_X2_areNearer, se_X2_areNearer⟩
def mX2_findSums : MI := (yX2_findSums, cX2_findSums, 9, none, 2)
theorem ok_X2_findSums : MOV mX2_findSums 2 := ⟨⟨cd_X2_findSums, ini_X2, by decide +kernel, by decide, by decide +kernel⟩, im_X2_findSums, se_X2_findSums⟩
def mX2_isLeastSum : MI := (yX2_isLeastSum, cX2_isLeastSum, 13, (some .boolean), 1)
theorem ok_X2_isLeastSum : MOV mX2_isLeastSum 3 := ⟨⟨cd_X2_isLeastSum, ini_X2, by decide +kernel, by decide, by decide +kernel⟩, im_X2_isLeastSum, se_X2_isLeastSum⟩
def mX3_init : MI := (yX3_init, cX3_init, 3, none, 1)
theorem ok_X3_init : MOI mX3_init 2 := ⟨⟨cd_X3_init, ini_X3, by decide +kernel, by decide, by decide +kernel⟩, rfl, im_X3_init, rfl⟩
def mX3_find : MI := (yX3_find, cX3_find, 4, none, 5)
theorem ok_X3_find : MOV mX3_find 0 := ⟨⟨cd_X3_find, ini_X3, by decide +kernel, by decide, by decide +kernel⟩, im_X3_find, se_X3_find⟩
def mX3_isMoreThanOne : MI := (yX3_isMoreThanOne, cX3_isMoreThanOne, 3, (some .boolean), 1)
theorem ok_X3_isMoreThanOne : MOV mX3_isMoreThanOne 1 := ⟨⟨cd_X3_isMoreThanOne, ini_X3, by decide +kernel, by decide, by decide +kernel⟩, im_X3_isMoreThanOne, se_X3_isMoreThanOne⟩
def mX3_findBroken : MI := (yX3_findBroken, cX3_findBroken, 3, none, 4)
theorem ok_X3_findBroken : MOV mX3_findBroken 0 := ⟨⟨cd_X3_findBroken, ini_X3, by decide +kernel, by decide, by decide +kernel⟩, im_X3_findBroken, se_X3_findBroken⟩
def mX3_breakAmong : MI := (yX3_breakAmong, cX3_breakAmong, 6, none, 2)
theorem ok_X3_breakAmong : MOV mX3_breakAmong 1 := ⟨⟨cd_X3_breakAmong, ini_X3, by decide +kernel, by decide, by decide +kernel⟩, im_X3_breakAmong, se_X3_breakAmong⟩
def mX3_breakWithout : MI := (yX3_breakWithout, cX3_breakWithout, 4, none, 1)
theorem ok_X3_breakWithout : MOV mX3_breakWithout 2 := ⟨⟨cd_X3_breakWithout, ini_X3, by decide +kernel, by decide, by decide +kernel⟩, im_X3_breakWithout, se_X3_breakWithout⟩
def mX3_leftBy : MI := (yX3_leftBy, cX3_leftBy, 2, (some .int), 0)
theorem ok_X3_leftBy : MOV mX3_leftBy 1 := ⟨⟨cd_X3_leftBy, ini_X3, by decide +kernel, by decide, by decide +kernel⟩, im_X3_leftBy, se_X3_leftBy⟩
def mX3_cheapest : MI := (yX3_cheapest, cX3_cheapest, 5, (some .int), 2)
theorem ok_X3_cheapest : MOV mX3_cheapest 0 := ⟨⟨cd_X3_cheapest, ini_X3, by decide +kernel, by decide, by decide +kernel⟩, im_X3_cheapest, se_X3_cheapest⟩
def mX4_init : MI := (yX4_init, cX4_init, 1, none, 1)
theorem ok_X4_init : MOI mX4_init 0 := ⟨⟨cd_X4_init, ini_X4, by decide +kernel, by decide, by decide +kernel⟩, rfl, im_X4_init, rfl⟩
def mX5_init : MI := (yX5_init, cX5_init, 3, none, 2)
theorem ok_X5_init : MOI mX5_init 1 := ⟨⟨cd_X5_init, ini_X5, by decide +kernel, by decide, by decide +kernel⟩, rfl, im_X5_init, rfl⟩
def mX5_clear : MI := (yX5_clear, cX5_clear, 1, none, 0)
theorem ok_X5_clear : MOV mX5_clear 0 := ⟨⟨cd_X5_clear, ini_X5, by decide +kernel, by decide, by decide +kernel⟩, im_X5_clear, se_X5_clear⟩
def mX5_addPart : MI := (yX5_addPart, cX5_addPart, 4, (some .int), 0)
theorem ok_X5_addPart : MOV mX5_addPart 1 := ⟨⟨cd_X5_addPart, ini_X5, by decide +kernel, by decide, by decide +kernel⟩, im_X5_addPart, se_X5_addPart⟩
def mX5_addJoin : MI := (yX5_addJoin, cX5_addJoin, 6, (some .int), 0)
theorem ok_X5_addJoin : MOV mX5_addJoin 4 := ⟨⟨cd_X5_addJoin, ini_X5, by decide +kernel, by decide, by decide +kernel⟩, im_X5_addJoin, se_X5_addJoin⟩
def mX5_standsIn : MI := (yX5_standsIn, cX5_standsIn, 4, (some .boolean), 3)
theorem ok_X5_standsIn : MOV mX5_standsIn 1 := ⟨⟨cd_X5_standsIn, ini_X5, by decide +kernel, by decide, by decide +kernel⟩, im_X5_standsIn, se_X5_standsIn⟩
def mX5_findStanding : MI := (yX5_findStanding, cX5_findStanding, 4, none, 3)
theorem ok_X5_findStanding : MOV mX5_findStanding 1 := ⟨⟨cd_X5_findStanding, ini_X5, by decide +kernel, by decide, by decide +kernel⟩, im_X5_findStanding, se_X5_findStanding⟩
def mX5_findFitting : MI := (yX5_findFitting, cX5_findFitting, 3, none, 2)
theorem ok_X5_findFitting : MOV mX5_findFitting 1 := ⟨⟨cd_X5_findFitting, ini_X5, by decide +kernel, by decide, by decide +kernel⟩, im_X5_findFitting, se_X5_findFitting⟩
def mX5_fittingOf : MI := (yX5_fittingOf, cX5_fittingOf, 5, (some .int), 1)
theorem ok_X5_fittingOf : MOV mX5_fittingOf 2 := ⟨⟨cd_X5_fittingOf, ini_X5, by decide +kernel, by decide, by decide +kernel⟩, im_X5_fittingOf, se_X5_fittingOf⟩
def mX5_hasTold : MI := (yX5_hasTold, cX5_hasTold, 4, (some .boolean), 0)
theorem ok_X5_hasTold : MOV mX5_hasTold 2 := ⟨⟨cd_X5_hasTold, ini_X5, by decide +kernel, by decide, by decide +kernel⟩, im_X5_hasTold, se_X5_hasTold⟩
def mX5_manyTries : MI := (yX5_manyTries, cX5_manyTries, 3, (some .int), 0)
theorem ok_X5_manyTries : MOV mX5_manyTries 0 := ⟨⟨cd_X5_manyTries, ini_X5, by decide +kernel, by decide, by decide +kernel⟩, im_X5_manyTries, se_X5_manyTries⟩
def mX5_stood : MI := (yX5_stood, cX5_stood, 4, (some .boolean), 1)
theorem ok_X5_stood : MOV mX5_stood 1 := ⟨⟨cd_X5_stood, ini_X5, by decide +kernel, by decide, by decide +kernel⟩, im_X5_stood, se_X5_stood⟩
def mX5_isJoined : MI := (yX5_isJoined, cX5_isJoined, 4, (some .boolean), 0)
theorem ok_X5_isJoined : MOV mX5_isJoined 1 := ⟨⟨cd_X5_isJoined, ini_X5, by decide +kernel, by decide, by decide +kernel⟩, im_X5_isJoined, se_X5_isJoined⟩
def mX5_triedRows : MI := (yX5_triedRows, cX5_triedRows, 3, (some .int), 0)
theorem ok_X5_triedRows : MOV mX5_triedRows 0 := ⟨⟨cd_X5_triedRows, ini_X5, by decide +kernel, by decide, by decide +kernel⟩, im_X5_triedRows, se_X5_triedRows⟩
def mX6_init : MI := (yX6_init, cX6_init, 1, none, 1)
theorem ok_X6_init : MOI mX6_init 0 := ⟨⟨cd_X6_init, ini_X6, by decide +kernel, by decide, by decide +kernel⟩, rfl, im_X6_init, rfl⟩
def mX7_init : MI := (yX7_init, cX7_init, 2, none, 2)
theorem ok_X7_init : MOI mX7_init 0 := ⟨⟨cd_X7_init, ini_X7, by decide +kernel, by decide, by decide +kernel⟩, rfl, im_X7_init, rfl⟩
def mX7_add : MI := (yX7_add, cX7_add, 3, (some .int), 0)
theorem ok_X7_add : MOV mX7_add 2 := ⟨⟨cd_X7_add, ini_X7, by decide +kernel, by decide, by decide +kernel⟩, im_X7_add, se_X7_add⟩
def mX7_kept : MI := (yX7_kept, cX7_kept, 3, (some .int), 0)
theorem ok_X7_kept : MOV mX7_kept 0 := ⟨⟨cd_X7_kept, ini_X7, by decide +kernel, by decide, by decide +kernel⟩, im_X7_kept, se_X7_kept⟩
def mX7_drop : MI := (yX7_drop, cX7_drop, 3, none, 1)
theorem ok_X7_drop : MOV mX7_drop 1 := ⟨⟨cd_X7_drop, ini_X7, by decide +kernel, by decide, by decide +kernel⟩, im_X7_drop, se_X7_drop⟩
def mX7_manyOf : MI := (yX7_manyOf, cX7_manyOf, 4, (some .int), 1)
theorem ok_X7_manyOf : MOV mX7_manyOf 1 := ⟨⟨cd_X7_manyOf, ini_X7, by decide +kernel, by decide, by decide +kernel⟩, im_X7_manyOf, se_X7_manyOf⟩
def mX7_trustOf : MI := (yX7_trustOf, cX7_trustOf, 4, (some .int), 1)
theorem ok_X7_trustOf : MOV mX7_trustOf 1 := ⟨⟨cd_X7_trustOf, ini_X7, by decide +kernel, by decide, by decide +kernel⟩, im_X7_trustOf, se_X7_trustOf⟩
def mX7_withCell : MI := (yX7_withCell, cX7_withCell, 6, (some .int), 1)
theorem ok_X7_withCell : MOV mX7_withCell 3 := ⟨⟨cd_X7_withCell, ini_X7, by decide +kernel, by decide, by decide +kernel⟩, im_X7_withCell, se_X7_withCell⟩
def mX7_withNumber : MI := (yX7_withNumber, cX7_withNumber, 9, (some .int), 1)
theorem ok_X7_withNumber : MOV mX7_withNumber 4 := ⟨⟨cd_X7_withNumber, ini_X7, by decide +kernel, by decide, by decide +kernel⟩, im_X7_withNumber, se_X7_withNumber⟩
def mX7_aboveZero : MI := (yX7_aboveZero, cX7_aboveZero, 5, (some .int), 1)
theorem ok_X7_aboveZero : MOV mX7_aboveZero 2 := ⟨⟨cd_X7_aboveZero, ini_X7, by decide +kernel, by decide, by decide +kernel⟩, im_X7_aboveZero, se_X7_aboveZero⟩
def mX7_added : MI := (yX7_added, cX7_added, 8, (some .long), 2)
theorem ok_X7_added : MOV mX7_added 3 := ⟨⟨cd_X7_added, ini_X7, by decide +kernel, by decide, by decide +kernel⟩, im_X7_added, se_X7_added⟩
def mX7_settleAll : MI := (yX7_settleAll, cX7_settleAll, 8, (some .int), 4)
theorem ok_X7_settleAll : MOV mX7_settleAll 3 := ⟨⟨cd_X7_settleAll, ini_X7, by decide +kernel, by decide, by decide +kernel⟩, im_X7_settleAll, se_X7_settleAll⟩
def mX7_settleGroup : MI := (yX7_settleGroup, cX7_settleGroup, 8, (some .int), 3)
theorem ok_X7_settleGroup : MOV mX7_settleGroup 3 := ⟨⟨cd_X7_settleGroup, ini_X7, by decide +kernel, by decide, by decide +kernel⟩, im_X7_settleGroup, se_X7_settleGroup⟩
def mX7_mostTrusted : MI := (yX7_mostTrusted, cX7_mostTrusted, 11, (some .long), 2)
theorem ok_X7_mostTrusted : MOV mX7_mostTrusted 3 := ⟨⟨cd_X7_mostTrusted, ini_X7, by decide +kernel, by decide, by decide +kernel⟩, im_X7_mostTrusted, se_X7_mostTrusted⟩
def mX8_init : MI := (yX8_init, cX8_init, 1, none, 1)
theorem ok_X8_init : MOI mX8_init 0 := ⟨⟨cd_X8_init, ini_X8, by decide +kernel, by decide, by decide +kernel⟩, rfl, im_X8_init, rfl⟩
def mX8_make : MI := (yX8_make, cX8_make, 5, none, 0)
theorem ok_X8_make : MOV mX8_make 2 := ⟨⟨cd_X8_make, ini_X8, by decide +kernel, by decide, by decide +kernel⟩, im_X8_make, se_X8_make⟩
def mX9_init : MI := (yX9_init, cX9_init, 2, none, 3)
theorem ok_X9_init : MOI mX9_init 0 := ⟨⟨cd_X9_init, ini_X9, by decide +kernel, by decide, by decide +kernel⟩, rfl, im_X9_init, rfl⟩
def mX9_table : MI := (yX9_table, cX9_table, 4, (some .int), 1)
theorem ok_X9_table : MOV mX9_table 3 := ⟨⟨cd_X9_table, ini_X9, by decide +kernel, by decide, by decide +kernel⟩, im_X9_table, se_X9_table⟩
def mX9_row : MI := (yX9_row, cX9_row, 4, (some .int), 2)
theorem ok_X9_row : MOV mX9_row 2 := ⟨⟨cd_X9_row, ini_X9, by decide +kernel, by decide, by decide +kernel⟩, im_X9_row, se_X9_row⟩
def mX9_put : MI := (yX9_put, cX9_put, 7, (some .int), 3)
theorem ok_X9_put : MOV mX9_put 3 := ⟨⟨cd_X9_put, ini_X9, by decide +kernel, by decide, by decide +kernel⟩, im_X9_put, se_X9_put⟩
def mX9_miss : MI := (yX9_miss, cX9_miss, 6, (some .int), 3)
theorem ok_X9_miss : MOV mX9_miss 2 := ⟨⟨cd_X9_miss, ini_X9, by decide +kernel, by decide, by decide +kernel⟩, im_X9_miss, se_X9_miss⟩
def mX9_has : MI := (yX9_has, cX9_has, 4, (some .int), 3)
theorem ok_X9_has : MOV mX9_has 2 := ⟨⟨cd_X9_has, ini_X9, by decide +kernel, by decide, by decide +kernel⟩, im_X9_has, se_X9_has⟩
def mX9_cell : MI := (yX9_cell, cX9_cell, 4, (some .long), 3)
theorem ok_X9_cell : MOV mX9_cell 2 := ⟨⟨cd_X9_cell, ini_X9, by decide +kernel, by decide, by decide +kernel⟩, im_X9_cell, se_X9_cell⟩
def mX9_column : MI := (yX9_column, cX9_column, 5, (some .int), 2)
theorem ok_X9_column : MOV mX9_column 3 := ⟨⟨cd_X9_column, ini_X9, by decide +kernel, by decide, by decide +kernel⟩, im_X9_column, se_X9_column⟩
def mX9_trust : MI := (yX9_trust, cX9_trust, 4, (some .int), 1)
theorem ok_X9_trust : MOV mX9_trust 2 := ⟨⟨cd_X9_trust, ini_X9, by decide +kernel, by decide, by decide +kernel⟩, im_X9_trust, se_X9_trust⟩
def mX9_keep : MI := (yX9_keep, cX9_keep, 4, (some .int), 1)
theorem ok_X9_keep : MOV mX9_keep 2 := ⟨⟨cd_X9_keep, ini_X9, by decide +kernel, by decide, by decide +kernel⟩, im_X9_keep, se_X9_keep⟩
def mX9_about : MI := (yX9_about, cX9_about, 4, (some .int), 1)
theorem ok_X9_about : MOV mX9_about 2 := ⟨⟨cd_X9_about, ini_X9, by decide +kernel, by decide, by decide +kernel⟩, im_X9_about, se_X9_about⟩
def mX9_law : MI := (yX9_law, cX9_law, 11, (some .int), 3)
theorem ok_X9_law : MOV mX9_law 6 := ⟨⟨cd_X9_law, ini_X9, by decide +kernel, by decide, by decide +kernel⟩, im_X9_law, se_X9_law⟩
def mX9_among : MI := (yX9_among, cX9_among, 7, (some .int), 3)
theorem ok_X9_among : MOV mX9_among 4 := ⟨⟨cd_X9_among, ini_X9, by decide +kernel, by decide, by decide +kernel⟩, im_X9_among, se_X9_among⟩
def mX9_force : MI := (yX9_force, cX9_force, 4, (some .int), 1)
theorem ok_X9_force : MOV mX9_force 2 := ⟨⟨cd_X9_force, ini_X9, by decide +kernel, by decide, by decide +kernel⟩, im_X9_force, se_X9_force⟩
def mX9_most : MI := (yX9_most, cX9_most, 2, (some .long), 1)
theorem ok_X9_most : MOV mX9_most 1 := ⟨⟨cd_X9_most, ini_X9, by decide +kernel, by decide, by decide +kernel⟩, im_X9_most, se_X9_most⟩
def mX9_quarrels : MI := (yX9_quarrels, cX9_quarrels, 2, (some .int), 4)
theorem ok_X9_quarrels : MOV mX9_quarrels 1 := ⟨⟨cd_X9_quarrels, ini_X9, by decide +kernel, by decide, by decide +kernel⟩, im_X9_quarrels, se_X9_quarrels⟩
def mX9_quarrel : MI := (yX9_quarrel, cX9_quarrel, 3, (some .int), 4)
theorem ok_X9_quarrel : MOV mX9_quarrel 2 := ⟨⟨cd_X9_quarrel, ini_X9, by decide +kernel, by decide, by decide +kernel⟩, im_X9_quarrel, se_X9_quarrel⟩
def mX9_clean : MI := (yX9_clean, cX9_clean, 1, (some .int), 5)
theorem ok_X9_clean : MOV mX9_clean 0 := ⟨⟨cd_X9_clean, ini_X9, by decide +kernel, by decide, by decide +kernel⟩, im_X9_clean, se_X9_clean⟩
def mX9_breaks : MI := (yX9_breaks, cX9_breaks, 2, (some .int), 5)
theorem ok_X9_breaks : MOV mX9_breaks 1 := ⟨⟨cd_X9_breaks, ini_X9, by decide +kernel, by decide, by decide +kernel⟩, im_X9_breaks, se_X9_breaks⟩
def mX9_mends : MI := (yX9_mends, cX9_mends, 1, (some .int), 6)
theorem ok_X9_mends : MOV mX9_mends 0 := ⟨⟨cd_X9_mends, ini_X9, by decide +kernel, by decide, by decide +kernel⟩, im_X9_mends, se_X9_mends⟩
def mX9_mending : MI := (yX9_mending, cX9_mending, 2, (some .int), 6)
theorem ok_X9_mending : MOV mX9_mending 1 := ⟨⟨cd_X9_mending, ini_X9, by decide +kernel, by decide, by decide +kernel⟩, im_X9_mending, se_X9_mending⟩
def mX9_price : MI := (yX9_price, cX9_price, 1, (some .int), 6)
theorem ok_X9_price : MOV mX9_price 0 := ⟨⟨cd_X9_price, ini_X9, by decide +kernel, by decide, by decide +kernel⟩, im_X9_price, se_X9_price⟩
def mX9_best : MI := (yX9_best, cX9_best, 1, (some .int), 6)
theorem ok_X9_best : MOV mX9_best 0 := ⟨⟨cd_X9_best, ini_X9, by decide +kernel, by decide, by decide +kernel⟩, im_X9_best, se_X9_best⟩
def mX9_blame : MI := (yX9_blame, cX9_blame, 4, (some .int), 6)
theorem ok_X9_blame : MOV mX9_blame 1 := ⟨⟨cd_X9_blame, ini_X9, by decide +kernel, by decide, by decide +kernel⟩, im_X9_blame, se_X9_blame⟩
def mX9_sum : MI := (yX9_sum, cX9_sum, 10, (some .long), 6)
theorem ok_X9_sum : MOV mX9_sum 3 := ⟨⟨cd_X9_sum, ini_X9, by decide +kernel, by decide, by decide +kernel⟩, im_X9_sum, se_X9_sum⟩
def mX9_mend : MI := (yX9_mend, cX9_mend, 2, (some .int), 6)
theorem ok_X9_mend : MOV mX9_mend 0 := ⟨⟨cd_X9_mend, ini_X9, by decide +kernel, by decide, by decide +kernel⟩, im_X9_mend, se_X9_mend⟩
def mX9_settle : MI := (yX9_settle, cX9_settle, 3, (some .int), 5)
theorem ok_X9_settle : MOV mX9_settle 1 := ⟨⟨cd_X9_settle, ini_X9, by decide +kernel, by decide, by decide +kernel⟩, im_X9_settle, se_X9_settle⟩
def mX9_ask : MI := (yX9_ask, cX9_ask, 2, (some .int), 1)
theorem ok_X9_ask : MOV mX9_ask 0 := ⟨⟨cd_X9_ask, ini_X9, by decide +kernel, by decide, by decide +kernel⟩, im_X9_ask, se_X9_ask⟩
def mX9_part : MI := (yX9_part, cX9_part, 3, (some .int), 2)
theorem ok_X9_part : MOV mX9_part 1 := ⟨⟨cd_X9_part, ini_X9, by decide +kernel, by decide, by decide +kernel⟩, im_X9_part, se_X9_part⟩
def mX9_tell : MI := (yX9_tell, cX9_tell, 6, (some .int), 3)
theorem ok_X9_tell : MOV mX9_tell 3 := ⟨⟨cd_X9_tell, ini_X9, by decide +kernel, by decide, by decide +kernel⟩, im_X9_tell, se_X9_tell⟩
def mX9_join : MI := (yX9_join, cX9_join, 6, (some .int), 3)
theorem ok_X9_join : MOV mX9_join 4 := ⟨⟨cd_X9_join, ini_X9, by decide +kernel, by decide, by decide +kernel⟩, im_X9_join, se_X9_join⟩
def mX9_stands : MI := (yX9_stands, cX9_stands, 1, (some .int), 4)
theorem ok_X9_stands : MOV mX9_stands 0 := ⟨⟨cd_X9_stands, ini_X9, by decide +kernel, by decide, by decide +kernel⟩, im_X9_stands, se_X9_stands⟩
def mX9_often : MI := (yX9_often, cX9_often, 1, (some .int), 6)
theorem ok_X9_often : MOV mX9_often 0 := ⟨⟨cd_X9_often, ini_X9, by decide +kernel, by decide, by decide +kernel⟩, im_X9_often, se_X9_often⟩
def mX9_sure : MI := (yX9_sure, cX9_sure, 2, (some .int), 6)
theorem ok_X9_sure : MOV mX9_sure 0 := ⟨⟨cd_X9_sure, ini_X9, by decide +kernel, by decide, by decide +kernel⟩, im_X9_sure, se_X9_sure⟩
def mX9_against : MI := (yX9_against, cX9_against, 2, (some .int), 6)
theorem ok_X9_against : MOV mX9_against 0 := ⟨⟨cd_X9_against, ini_X9, by decide +kernel, by decide, by decide +kernel⟩, im_X9_against, se_X9_against⟩
def mX9_count : MI := (yX9_count, cX9_count, 2, (some .int), 2)
theorem ok_X9_count : MOV mX9_count 1 := ⟨⟨cd_X9_count, ini_X9, by decide +kernel, by decide, by decide +kernel⟩, im_X9_count, se_X9_count⟩
def mX9_found : MI := (yX9_found, cX9_found, 2, (some .int), 0)
theorem ok_X9_found : MOV mX9_found 1 := ⟨⟨cd_X9_found, ini_X9, by decide +kernel, by decide, by decide +kernel⟩, im_X9_found, se_X9_found⟩
def mX9_faultOfTable : MI := (yX9_faultOfTable, cX9_faultOfTable, 2, (some .int), 1)
theorem ok_X9_faultOfTable : MOV mX9_faultOfTable 1 := ⟨⟨cd_X9_faultOfTable, ini_X9, by decide +kernel, by decide, by decide +kernel⟩, im_X9_faultOfTable, se_X9_faultOfTable⟩
def mX9_faultOfColumn : MI := (yX9_faultOfColumn, cX9_faultOfColumn, 3, (some .int), 1)
theorem ok_X9_faultOfColumn : MOV mX9_faultOfColumn 2 := ⟨⟨cd_X9_faultOfColumn, ini_X9, by decide +kernel, by decide, by decide +kernel⟩, im_X9_faultOfColumn, se_X9_faultOfColumn⟩
def mX9_faultOfColumnIn : MI := (yX9_faultOfColumnIn, cX9_faultOfColumnIn, 4, (some .int), 2)
theorem ok_X9_faultOfColumnIn : MOV mX9_faultOfColumnIn 2 := ⟨⟨cd_X9_faultOfColumnIn, ini_X9, by decide +kernel, by decide, by decide +kernel⟩, im_X9_faultOfColumnIn, se_X9_faultOfColumnIn⟩
def mX9_faultOfCell : MI := (yX9_faultOfCell, cX9_faultOfCell, 3, (some .int), 2)
theorem ok_X9_faultOfCell : MOV mX9_faultOfCell 2 := ⟨⟨cd_X9_faultOfCell, ini_X9, by decide +kernel, by decide, by decide +kernel⟩, im_X9_faultOfCell, se_X9_faultOfCell⟩
def mX9_faultOfPart : MI := (yX9_faultOfPart, cX9_faultOfPart, 3, (some .int), 2)
theorem ok_X9_faultOfPart : MOV mX9_faultOfPart 2 := ⟨⟨cd_X9_faultOfPart, ini_X9, by decide +kernel, by decide, by decide +kernel⟩, im_X9_faultOfPart, se_X9_faultOfPart⟩
def mX9_isRow : MI := (yX9_isRow, cX9_isRow, 2, (some .boolean), 0)
theorem ok_X9_isRow : MOV mX9_isRow 1 := ⟨⟨cd_X9_isRow, ini_X9, by decide +kernel, by decide, by decide +kernel⟩, im_X9_isRow, se_X9_isRow⟩
def mX9_isLaw : MI := (yX9_isLaw, cX9_isLaw, 2, (some .boolean), 0)
theorem ok_X9_isLaw : MOV mX9_isLaw 1 := ⟨⟨cd_X9_isLaw, ini_X9, by decide +kernel, by decide, by decide +kernel⟩, im_X9_isLaw, se_X9_isLaw⟩
def mX9_isPart : MI := (yX9_isPart, cX9_isPart, 2, (some .boolean), 0)
theorem ok_X9_isPart : MOV mX9_isPart 1 := ⟨⟨cd_X9_isPart, ini_X9, by decide +kernel, by decide, by decide +kernel⟩, im_X9_isPart, se_X9_isPart⟩
def mX9_isTrust : MI := (yX9_isTrust, cX9_isTrust, 1, (some .boolean), 0)
theorem ok_X9_isTrust : MOS mX9_isTrust 1 := ⟨⟨cd_X9_isTrust, ini_X9, by decide +kernel, by decide, by decide +kernel⟩, st_X9_isTrust⟩
def mX9_areLanes : MI := (yX9_areLanes, cX9_areLanes, 4, (some .boolean), 0)
theorem ok_X9_areLanes : MOS mX9_areLanes 2 := ⟨⟨cd_X9_areLanes, ini_X9, by decide +kernel, by decide, by decide +kernel⟩, st_X9_areLanes⟩
def mX9_looksAtTwo : MI := (yX9_looksAtTwo, cX9_looksAtTwo, 1, (some .boolean), 0)
theorem ok_X9_looksAtTwo : MOS mX9_looksAtTwo 1 := ⟨⟨cd_X9_looksAtTwo, ini_X9, by decide +kernel, by decide, by decide +kernel⟩, st_X9_looksAtTwo⟩
def mX9_manyTables : MI := (yX9_manyTables, cX9_manyTables, 3, (some .int), 1)
theorem ok_X9_manyTables : MOV mX9_manyTables 0 := ⟨⟨cd_X9_manyTables, ini_X9, by decide +kernel, by decide, by decide +kernel⟩, im_X9_manyTables, se_X9_manyTables⟩
def mX9_timesStanding : MI := (yX9_timesStanding, cX9_timesStanding, 3, (some .int), 4)
theorem ok_X9_timesStanding : MOV mX9_timesStanding 0 := ⟨⟨cd_X9_timesStanding, ini_X9, by decide +kernel, by decide, by decide +kernel⟩, im_X9_timesStanding, se_X9_timesStanding⟩
def mX9_oneIf : MI := (yX9_oneIf, cX9_oneIf, 1, (some .int), 0)
theorem ok_X9_oneIf : MOS mX9_oneIf 1 := ⟨⟨cd_X9_oneIf, ini_X9, by decide +kernel, by decide, by decide +kernel⟩, st_X9_oneIf⟩
def mX9_isIn : MI := (yX9_isIn, cX9_isIn, 2, (some .boolean), 0)
theorem ok_X9_isIn : MOS mX9_isIn 2 := ⟨⟨cd_X9_isIn, ini_X9, by decide +kernel, by decide, by decide +kernel⟩, st_X9_isIn⟩
def mX9_asLane : MI := (yX9_asLane, cX9_asLane, 3, (some .long), 0)
theorem ok_X9_asLane : MOS mX9_asLane 2 := ⟨⟨cd_X9_asLane, ini_X9, by decide +kernel, by decide, by decide +kernel⟩, st_X9_asLane⟩
def mX9_markWholes : MI := (yX9_markWholes, cX9_markWholes, 5, none, 0)
theorem ok_X9_markWholes : MOS mX9_markWholes 2 := ⟨⟨cd_X9_markWholes, ini_X9, by decide +kernel, by decide, by decide +kernel⟩, st_X9_markWholes⟩
def mX9_unmark : MI := (yX9_unmark, cX9_unmark, 4, none, 0)
theorem ok_X9_unmark : MOS mX9_unmark 2 := ⟨⟨cd_X9_unmark, ini_X9, by decide +kernel, by decide, by decide +kernel⟩, st_X9_unmark⟩
def mX10_init : MI := (yX10_init, cX10_init, 1, none, 1)
theorem ok_X10_init : MOI mX10_init 0 := ⟨⟨cd_X10_init, ini_X10, by decide +kernel, by decide, by decide +kernel⟩, rfl, im_X10_init, rfl⟩
def mX10_in : MI := (yX10_in, cX10_in, 6, (some .boolean), 0)
theorem ok_X10_in : MOS mX10_in 3 := ⟨⟨cd_X10_in, ini_X10, by decide +kernel, by decide, by decide +kernel⟩, st_X10_in⟩
def mX10_finds : MI := (yX10_finds, cX10_finds, 2, (some .int), 0)
theorem ok_X10_finds : MOV mX10_finds 1 := ⟨⟨cd_X10_finds, ini_X10, by decide +kernel, by decide, by decide +kernel⟩, im_X10_finds, se_X10_finds⟩
def mX10_lack : MI := (yX10_lack, cX10_lack, 2, (some .int), 1)
theorem ok_X10_lack : MOV mX10_lack 1 := ⟨⟨cd_X10_lack, ini_X10, by decide +kernel, by decide, by decide +kernel⟩, im_X10_lack, se_X10_lack⟩
def mX10_noRow : MI := (yX10_noRow, cX10_noRow, 2, (some .boolean), 1)
theorem ok_X10_noRow : MOV mX10_noRow 1 := ⟨⟨cd_X10_noRow, ini_X10, by decide +kernel, by decide, by decide +kernel⟩, im_X10_noRow, se_X10_noRow⟩
def mX10_noLaw : MI := (yX10_noLaw, cX10_noLaw, 2, (some .boolean), 1)
theorem ok_X10_noLaw : MOV mX10_noLaw 1 := ⟨⟨cd_X10_noLaw, ini_X10, by decide +kernel, by decide, by decide +kernel⟩, im_X10_noLaw, se_X10_noLaw⟩
def mX10_noColumn : MI := (yX10_noColumn, cX10_noColumn, 3, (some .boolean), 1)
theorem ok_X10_noColumn : MOV mX10_noColumn 2 := ⟨⟨cd_X10_noColumn, ini_X10, by decide +kernel, by decide, by decide +kernel⟩, im_X10_noColumn, se_X10_noColumn⟩
def mX10_table : MI := (yX10_table, cX10_table, 7, (some .int), 1)
theorem ok_X10_table : MOV mX10_table 3 := ⟨⟨cd_X10_table, ini_X10, by decide +kernel, by decide, by decide +kernel⟩, im_X10_table, se_X10_table⟩
def mX10_row : MI := (yX10_row, cX10_row, 3, (some .int), 2)
theorem ok_X10_row : MOV mX10_row 2 := ⟨⟨cd_X10_row, ini_X10, by decide +kernel, by decide, by decide +kernel⟩, im_X10_row, se_X10_row⟩
def mX10_lies : MI := (yX10_lies, cX10_lies, 3, (some .long), 0)
theorem ok_X10_lies : MOS mX10_lies 2 := ⟨⟨cd_X10_lies, ini_X10, by decide +kernel, by decide, by decide +kernel⟩, st_X10_lies⟩
def mX10_put : MI := (yX10_put, cX10_put, 5, (some .int), 2)
theorem ok_X10_put : MOV mX10_put 3 := ⟨⟨cd_X10_put, ini_X10, by decide +kernel, by decide, by decide +kernel⟩, im_X10_put, se_X10_put⟩
def mX10_miss : MI := (yX10_miss, cX10_miss, 4, (some .int), 2)
theorem ok_X10_miss : MOV mX10_miss 2 := ⟨⟨cd_X10_miss, ini_X10, by decide +kernel, by decide, by decide +kernel⟩, im_X10_miss, se_X10_miss⟩
def mX10_has : MI := (yX10_has, cX10_has, 3, (some .int), 2)
theorem ok_X10_has : MOV mX10_has 2 := ⟨⟨cd_X10_has, ini_X10, by decide +kernel, by decide, by decide +kernel⟩, im_X10_has, se_X10_has⟩
def mX10_cell : MI := (yX10_cell, cX10_cell, 3, (some .long), 2)
theorem ok_X10_cell : MOV mX10_cell 2 := ⟨⟨cd_X10_cell, ini_X10, by decide +kernel, by decide, by decide +kernel⟩, im_X10_cell, se_X10_cell⟩
def mX10_column : MI := (yX10_column, cX10_column, 6, (some .int), 2)
theorem ok_X10_column : MOV mX10_column 3 := ⟨⟨cd_X10_column, ini_X10, by decide +kernel, by decide, by decide +kernel⟩, im_X10_column, se_X10_column⟩
def mX10_trust : MI := (yX10_trust, cX10_trust, 4, (some .int), 2)
theorem ok_X10_trust : MOV mX10_trust 2 := ⟨⟨cd_X10_trust, ini_X10, by decide +kernel, by decide, by decide +kernel⟩, im_X10_trust, se_X10_trust⟩
def mX10_keep : MI := (yX10_keep, cX10_keep, 4, (some .int), 2)
theorem ok_X10_keep : MOV mX10_keep 2 := ⟨⟨cd_X10_keep, ini_X10, by decide +kernel, by decide, by decide +kernel⟩, im_X10_keep, se_X10_keep⟩
def mX10_about : MI := (yX10_about, cX10_about, 3, (some .int), 2)
theorem ok_X10_about : MOV mX10_about 2 := ⟨⟨cd_X10_about, ini_X10, by decide +kernel, by decide, by decide +kernel⟩, im_X10_about, se_X10_about⟩
def mX10_add : MI := (yX10_add, cX10_add, 10, (some .int), 0)
theorem ok_X10_add : MOV mX10_add 7 := ⟨⟨cd_X10_add, ini_X10, by decide +kernel, by decide, by decide +kernel⟩, im_X10_add, se_X10_add⟩
def mX10_law : MI := (yX10_law, cX10_law, 9, (some .int), 2)
theorem ok_X10_law : MOV mX10_law 6 := ⟨⟨cd_X10_law, ini_X10, by decide +kernel, by decide, by decide +kernel⟩, im_X10_law, se_X10_law⟩
def mX10_among : MI := (yX10_among, cX10_among, 5, (some .int), 2)
theorem ok_X10_among : MOV mX10_among 4 := ⟨⟨cd_X10_among, ini_X10, by decide +kernel, by decide, by decide +kernel⟩, im_X10_among, se_X10_among⟩
def mX10_force : MI := (yX10_force, cX10_force, 4, (some .int), 2)
theorem ok_X10_force : MOV mX10_force 2 := ⟨⟨cd_X10_force, ini_X10, by decide +kernel, by decide, by decide +kernel⟩, im_X10_force, se_X10_force⟩
def mX10_most : MI := (yX10_most, cX10_most, 2, (some .long), 2)
theorem ok_X10_most : MOV mX10_most 1 := ⟨⟨cd_X10_most, ini_X10, by decide +kernel, by decide, by decide +kernel⟩, im_X10_most, se_X10_most⟩
def mX10_keptSet : MI := (yX10_keptSet, cX10_keptSet, 3, (some .int), 0)
theorem ok_X10_keptSet : MOV mX10_keptSet 0 := ⟨⟨cd_X10_keptSet, ini_X10, by decide +kernel, by decide, by decide +kernel⟩, im_X10_keptSet, se_X10_keptSet⟩
def mX10_isLike : MI := (yX10_isLike, cX10_isLike, 5, (some .boolean), 0)
theorem ok_X10_isLike : MOV mX10_isLike 4 := ⟨⟨cd_X10_isLike, ini_X10, by decide +kernel, by decide, by decide +kernel⟩, im_X10_isLike, se_X10_isLike⟩
def mX10_breakTwo : MI := (yX10_breakTwo, cX10_breakTwo, 12, (some .boolean), 1)
theorem ok_X10_breakTwo : MOV mX10_breakTwo 3 := ⟨⟨cd_X10_breakTwo, ini_X10, by decide +kernel, by decide, by decide +kernel⟩, im_X10_breakTwo, se_X10_breakTwo⟩
def mX10_breakOne : MI := (yX10_breakOne, cX10_breakOne, 7, (some .boolean), 1)
theorem ok_X10_breakOne : MOV mX10_breakOne 3 := ⟨⟨cd_X10_breakOne, ini_X10, by decide +kernel, by decide, by decide +kernel⟩, im_X10_breakOne, se_X10_breakOne⟩
def mX10_isOf : MI := (yX10_isOf, cX10_isOf, 4, (some .boolean), 0)
theorem ok_X10_isOf : MOV mX10_isOf 3 := ⟨⟨cd_X10_isOf, ini_X10, by decide +kernel, by decide, by decide +kernel⟩, im_X10_isOf, se_X10_isOf⟩
def mX10_counts : MI := (yX10_counts, cX10_counts, 3, (some .boolean), 0)
theorem ok_X10_counts : MOV mX10_counts 2 := ⟨⟨cd_X10_counts, ini_X10, by decide +kernel, by decide, by decide +kernel⟩, im_X10_counts, se_X10_counts⟩
def mX10_isMore : MI := (yX10_isMore, cX10_isMore, 8, (some .boolean), 1)
theorem ok_X10_isMore : MOV mX10_isMore 4 := ⟨⟨cd_X10_isMore, ini_X10, by decide +kernel, by decide, by decide +kernel⟩, im_X10_isMore, se_X10_isMore⟩
def mX10_breaksLaw : MI := (yX10_breaksLaw, cX10_breaksLaw, 5, (some .boolean), 2)
theorem ok_X10_breaksLaw : MOV mX10_breaksLaw 2 := ⟨⟨cd_X10_breaksLaw, ini_X10, by decide +kernel, by decide, by decide +kernel⟩, im_X10_breaksLaw, se_X10_breaksLaw⟩
def mX10_bitsOf : MI := (yX10_bitsOf, cX10_bitsOf, 3, (some .int), 0)
theorem ok_X10_bitsOf : MOS mX10_bitsOf 1 := ⟨⟨cd_X10_bitsOf, ini_X10, by decide +kernel, by decide, by decide +kernel⟩, st_X10_bitsOf⟩
def mX10_isLeastSum : MI := (yX10_isLeastSum, cX10_isLeastSum, 5, (some .boolean), 2)
theorem ok_X10_isLeastSum : MOV mX10_isLeastSum 2 := ⟨⟨cd_X10_isLeastSum, ini_X10, by decide +kernel, by decide, by decide +kernel⟩, im_X10_isLeastSum, se_X10_isLeastSum⟩
def mX10_findQuarrels : MI := (yX10_findQuarrels, cX10_findQuarrels, 7, none, 3)
theorem ok_X10_findQuarrels : MOV mX10_findQuarrels 1 := ⟨⟨cd_X10_findQuarrels, ini_X10, by decide +kernel, by decide, by decide +kernel⟩, im_X10_findQuarrels, se_X10_findQuarrels⟩
def mX10_quarrels : MI := (yX10_quarrels, cX10_quarrels, 2, (some .int), 4)
theorem ok_X10_quarrels : MOV mX10_quarrels 1 := ⟨⟨cd_X10_quarrels, ini_X10, by decide +kernel, by decide, by decide +kernel⟩, im_X10_quarrels, se_X10_quarrels⟩
def mX10_quarrel : MI := (yX10_quarrel, cX10_quarrel, 3, (some .int), 4)
theorem ok_X10_quarrel : MOV mX10_quarrel 2 := ⟨⟨cd_X10_quarrel, ini_X10, by decide +kernel, by decide, by decide +kernel⟩, im_X10_quarrel, se_X10_quarrel⟩
def mX10_firstBroken : MI := (yX10_firstBroken, cX10_firstBroken, 3, (some .int), 3)
theorem ok_X10_firstBroken : MOV mX10_firstBroken 1 := ⟨⟨cd_X10_firstBroken, ini_X10, by decide +kernel, by decide, by decide +kernel⟩, im_X10_firstBroken, se_X10_firstBroken⟩
def mX10_clean : MI := (yX10_clean, cX10_clean, 1, (some .int), 4)
theorem ok_X10_clean : MOV mX10_clean 0 := ⟨⟨cd_X10_clean, ini_X10, by decide +kernel, by decide, by decide +kernel⟩, im_X10_clean, se_X10_clean⟩
def mX10_breaks : MI := (yX10_breaks, cX10_breaks, 2, (some .int), 4)
theorem ok_X10_breaks : MOV mX10_breaks 1 := ⟨⟨cd_X10_breaks, ini_X10, by decide +kernel, by decide, by decide +kernel⟩, im_X10_breaks, se_X10_breaks⟩
def mX10_know : MI := (yX10_know, cX10_know, 5, none, 4)
theorem ok_X10_know : MOV mX10_know 0 := ⟨⟨cd_X10_know, ini_X10, by decide +kernel, by decide, by decide +kernel⟩, im_X10_know, se_X10_know⟩
def mX10_priceOf : MI := (yX10_priceOf, cX10_priceOf, 4, (some .int), 0)
theorem ok_X10_priceOf : MOV mX10_priceOf 1 := ⟨⟨cd_X10_priceOf, ini_X10, by decide +kernel, by decide, by decide +kernel⟩, im_X10_priceOf, se_X10_priceOf⟩
def mX10_bestOf : MI := (yX10_bestOf, cX10_bestOf, 3, (some .int), 5)
theorem ok_X10_bestOf : MOV mX10_bestOf 0 := ⟨⟨cd_X10_bestOf, ini_X10, by decide +kernel, by decide, by decide +kernel⟩, im_X10_bestOf, se_X10_bestOf⟩
def mX10_mends : MI := (yX10_mends, cX10_mends, 1, (some .int), 5)
theorem ok_X10_mends : MOV mX10_mends 0 := ⟨⟨cd_X10_mends, ini_X10, by decide +kernel, by decide, by decide +kernel⟩, im_X10_mends, se_X10_mends⟩
def mX10_mending : MI := (yX10_mending, cX10_mending, 2, (some .int), 5)
theorem ok_X10_mending : MOV mX10_mending 1 := ⟨⟨cd_X10_mending, ini_X10, by decide +kernel, by decide, by decide +kernel⟩, im_X10_mending, se_X10_mending⟩
def mX10_price : MI := (yX10_price, cX10_price, 1, (some .int), 6)
theorem ok_X10_price : MOV mX10_price 0 := ⟨⟨cd_X10_price, ini_X10, by decide +kernel, by decide, by decide +kernel⟩, im_X10_price, se_X10_price⟩
def mX10_best : MI := (yX10_best, cX10_best, 1, (some .int), 6)
theorem ok_X10_best : MOV mX10_best 0 := ⟨⟨cd_X10_best, ini_X10, by decide +kernel, by decide, by decide +kernel⟩, im_X10_best, se_X10_best⟩
def mX10_blame : MI := (yX10_blame, cX10_blame, 4, (some .int), 5)
theorem ok_X10_blame : MOV mX10_blame 1 := ⟨⟨cd_X10_blame, ini_X10, by decide +kernel, by decide, by decide +kernel⟩, im_X10_blame, se_X10_blame⟩
def mX10_sum : MI := (yX10_sum, cX10_sum, 12, (some .long), 5)
theorem ok_X10_sum : MOV mX10_sum 3 := ⟨⟨cd_X10_sum, ini_X10, by decide +kernel, by decide, by decide +kernel⟩, im_X10_sum, se_X10_sum⟩
def mX10_mend : MI := (yX10_mend, cX10_mend, 3, (some .int), 6)
theorem ok_X10_mend : MOV mX10_mend 0 := ⟨⟨cd_X10_mend, ini_X10, by decide +kernel, by decide, by decide +kernel⟩, im_X10_mend, se_X10_mend⟩
def mX10_settled : MI := (yX10_settled, cX10_settled, 13, (some .long), 1)
theorem ok_X10_settled : MOV mX10_settled 3 := ⟨⟨cd_X10_settled, ini_X10, by decide +kernel, by decide, by decide +kernel⟩, im_X10_settled, se_X10_settled⟩
def mX10_settle : MI := (yX10_settle, cX10_settle, 7, (some .int), 2)
theorem ok_X10_settle : MOV mX10_settle 1 := ⟨⟨cd_X10_settle, ini_X10, by decide +kernel, by decide, by decide +kernel⟩, im_X10_settle, se_X10_settle⟩
def mX10_noPart : MI := (yX10_noPart, cX10_noPart, 2, (some .boolean), 1)
theorem ok_X10_noPart : MOV mX10_noPart 1 := ⟨⟨cd_X10_noPart, ini_X10, by decide +kernel, by decide, by decide +kernel⟩, im_X10_noPart, se_X10_noPart⟩
def mX10_ask : MI := (yX10_ask, cX10_ask, 2, (some .int), 0)
theorem ok_X10_ask : MOV mX10_ask 0 := ⟨⟨cd_X10_ask, ini_X10, by decide +kernel, by decide, by decide +kernel⟩, im_X10_ask, se_X10_ask⟩
def mX10_part : MI := (yX10_part, cX10_part, 3, (some .int), 2)
theorem ok_X10_part : MOV mX10_part 1 := ⟨⟨cd_X10_part, ini_X10, by decide +kernel, by decide, by decide +kernel⟩, im_X10_part, se_X10_part⟩
def mX10_tell : MI := (yX10_tell, cX10_tell, 5, (some .int), 2)
theorem ok_X10_tell : MOV mX10_tell 3 := ⟨⟨cd_X10_tell, ini_X10, by decide +kernel, by decide, by decide +kernel⟩, im_X10_tell, se_X10_tell⟩
def mX10_join : MI := (yX10_join, cX10_join, 5, (some .int), 2)
theorem ok_X10_join : MOV mX10_join 4 := ⟨⟨cd_X10_join, ini_X10, by decide +kernel, by decide, by decide +kernel⟩, im_X10_join, se_X10_join⟩
def mX10_fitsPart : MI := (yX10_fitsPart, cX10_fitsPart, 5, (some .boolean), 0)
theorem ok_X10_fitsPart : MOV mX10_fitsPart 3 := ⟨⟨cd_X10_fitsPart, ini_X10, by decide +kernel, by decide, by decide +kernel⟩, im_X10_fitsPart, se_X10_fitsPart⟩
def mX10_standsIn : MI := (yX10_standsIn, cX10_standsIn, 7, (some .boolean), 1)
theorem ok_X10_standsIn : MOV mX10_standsIn 1 := ⟨⟨cd_X10_standsIn, ini_X10, by decide +kernel, by decide, by decide +kernel⟩, im_X10_standsIn, se_X10_standsIn⟩
def mX10_stands : MI := (yX10_stands, cX10_stands, 1, (some .int), 2)
theorem ok_X10_stands : MOV mX10_stands 0 := ⟨⟨cd_X10_stands, ini_X10, by decide +kernel, by decide, by decide +kernel⟩, im_X10_stands, se_X10_stands⟩
def mX10_oftenOf : MI := (yX10_oftenOf, cX10_oftenOf, 3, (some .int), 5)
theorem ok_X10_oftenOf : MOV mX10_oftenOf 0 := ⟨⟨cd_X10_oftenOf, ini_X10, by decide +kernel, by decide, by decide +kernel⟩, im_X10_oftenOf, se_X10_oftenOf⟩
def mX10_often : MI := (yX10_often, cX10_often, 1, (some .int), 6)
theorem ok_X10_often : MOV mX10_often 0 := ⟨⟨cd_X10_often, ini_X10, by decide +kernel, by decide, by decide +kernel⟩, im_X10_often, se_X10_often⟩
def mX10_sure : MI := (yX10_sure, cX10_sure, 2, (some .int), 6)
theorem ok_X10_sure : MOV mX10_sure 0 := ⟨⟨cd_X10_sure, ini_X10, by decide +kernel, by decide, by decide +kernel⟩, im_X10_sure, se_X10_sure⟩
def mX10_against : MI := (yX10_against, cX10_against, 2, (some .int), 5)
theorem ok_X10_against : MOV mX10_against 0 := ⟨⟨cd_X10_against, ini_X10, by decide +kernel, by decide, by decide +kernel⟩, im_X10_against, se_X10_against⟩
def mX10_count : MI := (yX10_count, cX10_count, 4, (some .int), 1)
theorem ok_X10_count : MOV mX10_count 1 := ⟨⟨cd_X10_count, ini_X10, by decide +kernel, by decide, by decide +kernel⟩, im_X10_count, se_X10_count⟩
def mJ6_bitCount_0f7a4 : MI := (yJ6_bitCount_0f7a4, cJ6_bitCount_0f7a4, 1, (some .int), 0)
theorem ok_J6_bitCount_0f7a4 : MOS mJ6_bitCount_0f7a4 1 := ⟨⟨cd_J6_bitCount_0f7a4, ini_J6, by decide +kernel, by decide, by decide +kernel⟩, st_J6_bitCount_0f7a4⟩
def refC : List (Nat × List (Option Nat)) := [(0, [some 1, some 2, some 40, some 53, some 57]), (2, [some 3]), (40, [some 2, some 41, none, some 42]), (53, [some 2, some 40, some 54, none, none, some 55, some 56]), (57, [some 2, some 58, none, some 59, none, some 60, some 61, some 62]), (86, [none, some 87, some 88, none, some 89, some 90, some 91, some 92, some 93, none, some 94, some 95, some 96, some 97, some 98, some 99, some 100, some 101, none, none, some 102, some 103, some 104, none, some 105, some 106, some 107, some 108, none, none, some 109, some 110, none, some 111, some 112, some 113])]
/-- which cell each reference of the world names, behind the constructors -/
def refT (k j : Nat) : Option Nat :=
  if k = 1 then (if j < 4 then some (78 + 2 * j) else none)
  else if k = 3 then (if j < 12 then some (4 + 3 * j) else none)
  else if k = 41 then (if j < 10 then some (43 + j) else none)
  else if k = 58 then (if j < 3 then some (63 + 3 * j) else none)
  else if k = 59 then (if j < 6 then some (72 + j) else none)
  else if 4 ≤ k ∧ k < 40 ∧ (k - 4) % 3 = 0 then (if j < 2 then some (k + 1 + j) else none)
  else if 63 ≤ k ∧ k < 72 ∧ (k - 63) % 3 = 0 then (if j < 2 then some (k + 1 + j) else none)
  else if 78 ≤ k ∧ k < 86 ∧ (k - 78) % 2 = 0 then (if j = 0 then some (k + 1) else none)
  else match refC.lookup k with
    | some l => l.getD j none
    | none => none
theorem ly_0 : lay 0 = (9, 6) := by decide +kernel
theorem ly_1 : lay 1 = (28, 4) := by decide +kernel
theorem ly_2 : lay 2 = (7, 2) := by decide +kernel
theorem ly_3 : lay 3 = (26, 12) := by decide +kernel
theorem ly_40 : lay 40 = (2, 5) := by decide +kernel
theorem ly_41 : lay 41 = (21, 10) := by decide +kernel
theorem ly_42 : lay 42 = (11, 4096) := by decide +kernel
theorem ly_53 : lay 53 = (3, 7) := by decide +kernel
theorem ly_54 : lay 54 = (11, 4096) := by decide +kernel
theorem ly_55 : lay 55 = (13, 4096) := by decide +kernel
theorem ly_56 : lay 56 = (13, 4096) := by decide +kernel
theorem ly_57 : lay 57 = (5, 8) := by decide +kernel
theorem ly_58 : lay 58 = (24, 3) := by decide +kernel
theorem ly_59 : lay 59 = (20, 6) := by decide +kernel
theorem ly_60 : lay 60 = (11, 3) := by decide +kernel
theorem ly_61 : lay 61 = (11, 3) := by decide +kernel
theorem ly_62 : lay 62 = (13, 4096) := by decide +kernel
theorem ly_86 : lay 86 = (10, 36) := by decide +kernel
theorem ly_87 : lay 87 = (11, 4) := by decide +kernel
theorem ly_88 : lay 88 = (11, 24) := by decide +kernel
theorem ly_89 : lay 89 = (11, 12) := by decide +kernel
theorem ly_90 : lay 90 = (11, 12) := by decide +kernel
theorem ly_91 : lay 91 = (13, 12) := by decide +kernel
theorem ly_92 : lay 92 = (13, 72) := by decide +kernel
theorem ly_93 : lay 93 = (12, 72) := by decide +kernel
theorem ly_94 : lay 94 = (11, 10) := by decide +kernel
theorem ly_95 : lay 95 = (11, 10) := by decide +kernel
theorem ly_96 : lay 96 = (11, 10) := by decide +kernel
theorem ly_97 : lay 97 = (11, 10) := by decide +kernel
theorem ly_98 : lay 98 = (11, 10) := by decide +kernel
theorem ly_99 : lay 99 = (12, 10) := by decide +kernel
theorem ly_100 : lay 100 = (12, 10) := by decide +kernel
theorem ly_101 : lay 101 = (13, 10) := by decide +kernel
theorem ly_102 : lay 102 = (11, 3) := by decide +kernel
theorem ly_103 : lay 103 = (13, 18) := by decide +kernel
theorem ly_104 : lay 104 = (12, 18) := by decide +kernel
theorem ly_105 : lay 105 = (11, 6) := by decide +kernel
theorem ly_106 : lay 106 = (11, 6) := by decide +kernel
theorem ly_107 : lay 107 = (11, 6) := by decide +kernel
theorem ly_108 : lay 108 = (11, 6) := by decide +kernel
theorem ly_109 : lay 109 = (11, 4096) := by decide +kernel
theorem ly_110 : lay 110 = (13, 4096) := by decide +kernel
theorem ly_111 : lay 111 = (11, 4096) := by decide +kernel
theorem ly_112 : lay 112 = (12, 12) := by decide +kernel
theorem ly_113 : lay 113 = (11, 3) := by decide +kernel
theorem ly_row0 : ∀ r, r < 12 → lay (4 + 3 * r) = (6, 5) := by decide +kernel
theorem ly_row {r : Nat} (h : r < 12) : lay (4 + 3 * r) = (6, 5) := ly_row0 r h
theorem ly_num0 : ∀ r, r < 12 → lay (5 + 3 * r) = (12, 6) := by decide +kernel
theorem ly_num {r : Nat} (h : r < 12) : lay (5 + 3 * r) = (12, 6) := ly_num0 r h
theorem ly_the0 : ∀ r, r < 12 → lay (6 + 3 * r) = (13, 6) := by decide +kernel
theorem ly_the {r : Nat} (h : r < 12) : lay (6 + 3 * r) = (13, 6) := ly_the0 r h
theorem ly_law0 : ∀ r, r < 10 → lay (43 + r) = (1, 8) := by decide +kernel
theorem ly_law {r : Nat} (h : r < 10) : lay (43 + r) = (1, 8) := ly_law0 r h
theorem ly_par0 : ∀ r, r < 3 → lay (63 + 3 * r) = (4, 3) := by decide +kernel
theorem ly_par {r : Nat} (h : r < 3) : lay (63 + 3 * r) = (4, 3) := ly_par0 r h
theorem ly_pto0 : ∀ r, r < 3 → lay (64 + 3 * r) = (13, 6) := by decide +kernel
theorem ly_pto {r : Nat} (h : r < 3) : lay (64 + 3 * r) = (13, 6) := ly_pto0 r h
theorem ly_pnu0 : ∀ r, r < 3 → lay (65 + 3 * r) = (12, 6) := by decide +kernel
theorem ly_pnu {r : Nat} (h : r < 3) : lay (65 + 3 * r) = (12, 6) := ly_pnu0 r h
theorem ly_joi0 : ∀ r, r < 6 → lay (72 + r) = (0, 4) := by decide +kernel
theorem ly_joi {r : Nat} (h : r < 6) : lay (72 + r) = (0, 4) := ly_joi0 r h
theorem ly_tab0 : ∀ r, r < 4 → lay (78 + 2 * r) = (8, 2) := by decide +kernel
theorem ly_tab {r : Nat} (h : r < 4) : lay (78 + 2 * r) = (8, 2) := ly_tab0 r h
theorem ly_lan0 : ∀ r, r < 4 → lay (79 + 2 * r) = (11, 6) := by decide +kernel
theorem ly_lan {r : Nat} (h : r < 4) : lay (79 + 2 * r) = (11, 6) := ly_lan0 r h
theorem rt_tab0 : ∀ r, r < 4 → refT 1 r = some (78 + 2 * r) := by decide +kernel
theorem rt_tab {r : Nat} (h : r < 4) : refT 1 r = some (78 + 2 * r) := rt_tab0 r h
theorem rt_row0 : ∀ r, r < 12 → refT 3 r = some (4 + 3 * r) := by decide +kernel
theorem rt_row {r : Nat} (h : r < 12) : refT 3 r = some (4 + 3 * r) := rt_row0 r h
theorem rt_law0 : ∀ r, r < 10 → refT 41 r = some (43 + r) := by decide +kernel
theorem rt_law {r : Nat} (h : r < 10) : refT 41 r = some (43 + r) := rt_law0 r h
theorem rt_par0 : ∀ r, r < 3 → refT 58 r = some (63 + 3 * r) := by decide +kernel
theorem rt_par {r : Nat} (h : r < 3) : refT 58 r = some (63 + 3 * r) := rt_par0 r h
theorem rt_joi0 : ∀ r, r < 6 → refT 59 r = some (72 + r) := by decide +kernel
theorem rt_joi {r : Nat} (h : r < 6) : refT 59 r = some (72 + r) := rt_joi0 r h
theorem rt_num0 : ∀ r, r < 12 → refT (4 + 3 * r) 0 = some (5 + 3 * r) := by decide +kernel
theorem rt_num {r : Nat} (h : r < 12) : refT (4 + 3 * r) 0 = some (5 + 3 * r) := rt_num0 r h
theorem rt_the0 : ∀ r, r < 12 → refT (4 + 3 * r) 1 = some (6 + 3 * r) := by decide +kernel
theorem rt_the {r : Nat} (h : r < 12) : refT (4 + 3 * r) 1 = some (6 + 3 * r) := rt_the0 r h
theorem rt_pto0 : ∀ r, r < 3 → refT (63 + 3 * r) 0 = some (64 + 3 * r) := by decide +kernel
theorem rt_pto {r : Nat} (h : r < 3) : refT (63 + 3 * r) 0 = some (64 + 3 * r) := rt_pto0 r h
theorem rt_pnu0 : ∀ r, r < 3 → refT (63 + 3 * r) 1 = some (65 + 3 * r) := by decide +kernel
theorem rt_pnu {r : Nat} (h : r < 3) : refT (63 + 3 * r) 1 = some (65 + 3 * r) := rt_pnu0 r h
theorem rt_lan0 : ∀ r, r < 4 → refT (78 + 2 * r) 0 = some (79 + 2 * r) := by decide +kernel
theorem rt_lan {r : Nat} (h : r < 4) : refT (78 + 2 * r) 0 = some (79 + 2 * r) := rt_lan0 r h
section PF
variable {G : GG} {own : String} {cc : ByteArray} {nL : Nat} {K : KK} {pc : Nat} {ls : List (Option Value)} {st : List Value} {f : Nat → Nat → Nat} {l : Nat → Nat → Int64} {k i : Nat}
abbrev Pm (G : GG) (own : String) (cc : ByteArray) (nL : Nat) (K : KK) (pc : Nat) (ls : List (Option Value)) (st : List Value) (f : Nat → Nat → Nat) (l : Nat → Nat → Int64) : Prop := P G own cc nL K pc ls st 114 (f, l, refT)
theorem g_X0_p (hy : lay k = (0, 4)) (hk : k < 114) (hl : Cond.fieldLink own i RX0 "p" "I" ∈ lw_tbl) (hd : decode cc pc = .ok (.getfield i, 3)) (kk : Pm G own cc nL K (pc + 3) ls (.int (nI (f k 0)) :: st) f l) : Pm G own cc nL K pc ls (.ref (ad G k) :: st) f l := P.geti (j := 0) (T := TX0) rfl inX0 hy (by decide) hk (by decide) rfl hl hd kk
theorem p_X0_p {x : Int32} {a : Nat} (hy : lay k = (0, 4)) (hk : k < 114) (hl : Cond.fieldLink own i RX0 "p" "I" ∈ lw_tbl) (hd : decode cc pc = .ok (.putfield i, 3)) (hx : x = nI a) (kk : Pm G own cc nL K (pc + 3) ls st (uf f k 0 a) l) : Pm G own cc nL K pc ls (.int x :: .ref (ad G k) :: st) f l := P.puti (j := 0) (T := TX0) tyX0 tyX0_ok nmX0 rfl inX0 hy (by decide) hk (by decide) rfl (tyX0_ok 0 (by decide)) rfl hl hd hx (Or.inl rfl) kk
theorem g_X0_c (hy : lay k = (0, 4)) (hk : k < 114) (hl : Cond.fieldLink own i RX0 "c" "I" ∈ lw_tbl) (hd : decode cc pc = .ok (.getfield i, 3)) (kk : Pm G own cc nL K (pc + 3) ls (.int (nI (f k 1)) :: st) f l) : Pm G own cc nL K pc ls (.ref (ad G k) :: st) f l := P.geti (j := 1) (T := TX0) rfl inX0 hy (by decide) hk (by decide) rfl hl hd kk
theorem p_X0_c {x : Int32} {a : Nat} (hy : lay k = (0, 4)) (hk : k < 114) (hl : Cond.fieldLink own i RX0 "c" "I" ∈ lw_tbl) (hd : decode cc pc = .ok (.putfield i, 3)) (hx : x = nI a) (kk : Pm G own cc nL K (pc + 3) ls st (uf f k 1 a) l) : Pm G own cc nL K pc ls (.int x :: .ref (ad G k) :: st) f l := P.puti (j := 1) (T := TX0) tyX0 tyX0_ok nmX0 rfl inX0 hy (by decide) hk (by decide) rfl (tyX0_ok 1 (by decide)) rfl hl hd hx (Or.inl rfl) kk
theorem g_X0_q (hy : lay k = (0, 4)) (hk : k < 114) (hl : Cond.fieldLink own i RX0 "q" "I" ∈ lw_tbl) (hd : decode cc pc = .ok (.getfield i, 3)) (kk : Pm G own cc nL K (pc + 3) ls (.int (nI (f k 2)) :: st) f l) : Pm G own cc nL K pc ls (.ref (ad G k) :: st) f l := P.geti (j := 2) (T := TX0) rfl inX0 hy (by decide) hk (by decide) rfl hl hd kk
theorem p_X0_q {x : Int32} {a : Nat} (hy : lay k = (0, 4)) (hk : k < 114) (hl : Cond.fieldLink own i RX0 "q" "I" ∈ lw_tbl) (hd : decode cc pc = .ok (.putfield i, 3)) (hx : x = nI a) (kk : Pm G own cc nL K (pc + 3) ls st (uf f k 2 a) l) : Pm G own cc nL K pc ls (.int x :: .ref (ad G k) :: st) f l := P.puti (j := 2) (T := TX0) tyX0 tyX0_ok nmX0 rfl inX0 hy (by decide) hk (by decide) rfl (tyX0_ok 2 (by decide)) rfl hl hd hx (Or.inl rfl) kk
theorem g_X0_d (hy : lay k = (0, 4)) (hk : k < 114) (hl : Cond.fieldLink own i RX0 "d" "I" ∈ lw_tbl) (hd : decode cc pc = .ok (.getfield i, 3)) (kk : Pm G own cc nL K (pc + 3) ls (.int (nI (f k 3)) :: st) f l) : Pm G own cc nL K pc ls (.ref (ad G k) :: st) f l := P.geti (j := 3) (T := TX0) rfl inX0 hy (by decide) hk (by decide) rfl hl hd kk
theorem p_X0_d {x : Int32} {a : Nat} (hy : lay k = (0, 4)) (hk : k < 114) (hl : Cond.fieldLink own i RX0 "d" "I" ∈ lw_tbl) (hd : decode cc pc = .ok (.putfield i, 3)) (hx : x = nI a) (kk : Pm G own cc nL K (pc + 3) ls st (uf f k 3 a) l) : Pm G own cc nL K pc ls (.int x :: .ref (ad G k) :: st) f l := P.puti (j := 3) (T := TX0) tyX0 tyX0_ok nmX0 rfl inX0 hy (by decide) hk (by decide) rfl (tyX0_ok 3 (by decide)) rfl hl hd hx (Or.inl rfl) kk
theorem g_X1_kind (hy : lay k = (1, 8)) (hk : k < 114) (hl : Cond.fieldLink own i RX1 "kind" "I" ∈ lw_tbl) (hd : decode cc pc = .ok (.getfield i, 3)) (kk : Pm G own cc nL K (pc + 3) ls (.int (nI (f k 0)) :: st) f l) : Pm G own cc nL K pc ls (.ref (ad G k) :: st) f l := P.geti (j := 0) (T := TX1) rfl inX1 hy (by decide) hk (by decide) rfl hl hd kk
theorem p_X1_kind {x : Int32} {a : Nat} (hy : lay k = (1, 8)) (hk : k < 114) (hl : Cond.fieldLink own i RX1 "kind" "I" ∈ lw_tbl) (hd : decode cc pc = .ok (.putfield i, 3)) (hx : x = nI a) (kk : Pm G own cc nL K (pc + 3) ls st (uf f k 0 a) l) : Pm G own cc nL K pc ls (.int x :: .ref (ad G k) :: st) f l := P.puti (j := 0) (T := TX1) tyX1 tyX1_ok nmX1 rfl inX1 hy (by decide) hk (by decide) rfl (tyX1_ok 0 (by decide)) rfl hl hd hx (Or.inl rfl) kk
theorem g_X1_table (hy : lay k = (1, 8)) (hk : k < 114) (hl : Cond.fieldLink own i RX1 "table" "I" ∈ lw_tbl) (hd : decode cc pc = .ok (.getfield i, 3)) (kk : Pm G own cc nL K (pc + 3) ls (.int (nI (f k 1)) :: st) f l) : Pm G own cc nL K pc ls (.ref (ad G k) :: st) f l := P.geti (j := 1) (T := TX1) rfl inX1 hy (by decide) hk (by decide) rfl hl hd kk
theorem p_X1_table {x : Int32} {a : Nat} (hy : lay k = (1, 8)) (hk : k < 114) (hl : Cond.fieldLink own i RX1 "table" "I" ∈ lw_tbl) (hd : decode cc pc = .ok (.putfield i, 3)) (hx : x = nI a) (kk : Pm G own cc nL K (pc + 3) ls st (uf f k 1 a) l) : Pm G own cc nL K pc ls (.int x :: .ref (ad G k) :: st) f l := P.puti (j := 1) (T := TX1) tyX1 tyX1_ok nmX1 rfl inX1 hy (by decide) hk (by decide) rfl (tyX1_ok 1 (by decide)) rfl hl hd hx (Or.inl rfl) kk
theorem g_X1_first (hy : lay k = (1, 8)) (hk : k < 114) (hl : Cond.fieldLink own i RX1 "first" "I" ∈ lw_tbl) (hd : decode cc pc = .ok (.getfield i, 3)) (kk : Pm G own cc nL K (pc + 3) ls (.int (nI (f k 2)) :: st) f l) : Pm G own cc nL K pc ls (.ref (ad G k) :: st) f l := P.geti (j := 2) (T := TX1) rfl inX1 hy (by decide) hk (by decide) rfl hl hd kk
theorem p_X1_first {x : Int32} {a : Nat} (hy : lay k = (1, 8)) (hk : k < 114) (hl : Cond.fieldLink own i RX1 "first" "I" ∈ lw_tbl) (hd : decode cc pc = .ok (.putfield i, 3)) (hx : x = nI a) (kk : Pm G own cc nL K (pc + 3) ls st (uf f k 2 a) l) : Pm G own cc nL K pc ls (.int x :: .ref (ad G k) :: st) f l := P.puti (j := 2) (T := TX1) tyX1 tyX1_ok nmX1 rfl inX1 hy (by decide) hk (by decide) rfl (tyX1_ok 2 (by decide)) rfl hl hd hx (Or.inl rfl) kk
theorem g_X1_second (hy : lay k = (1, 8)) (hk : k < 114) (hl : Cond.fieldLink own i RX1 "second" "I" ∈ lw_tbl) (hd : decode cc pc = .ok (.getfield i, 3)) (kk : Pm G own cc nL K (pc + 3) ls (.int (nI (f k 3)) :: st) f l) : Pm G own cc nL K pc ls (.ref (ad G k) :: st) f l := P.geti (j := 3) (T := TX1) rfl inX1 hy (by decide) hk (by decide) rfl hl hd kk
theorem p_X1_second {x : Int32} {a : Nat} (hy : lay k = (1, 8)) (hk : k < 114) (hl : Cond.fieldLink own i RX1 "second" "I" ∈ lw_tbl) (hd : decode cc pc = .ok (.putfield i, 3)) (hx : x = nI a) (kk : Pm G own cc nL K (pc + 3) ls st (uf f k 3 a) l) : Pm G own cc nL K pc ls (.int x :: .ref (ad G k) :: st) f l := P.puti (j := 3) (T := TX1) tyX1 tyX1_ok nmX1 rfl inX1 hy (by decide) hk (by decide) rfl (tyX1_ok 3 (by decide)) rfl hl hd hx (Or.inl rfl) kk
theorem g_X1_other (hy : lay k = (1, 8)) (hk : k < 114) (hl : Cond.fieldLink own i RX1 "other" "I" ∈ lw_tbl) (hd : decode cc pc = .ok (.getfield i, 3)) (kk : Pm G own cc nL K (pc + 3) ls (.int (nI (f k 4)) :: st) f l) : Pm G own cc nL K pc ls (.ref (ad G k) :: st) f l := P.geti (j := 4) (T := TX1) rfl inX1 hy (by decide) hk (by decide) rfl hl hd kk
theorem p_X1_other {x : Int32} {a : Nat} (hy : lay k = (1, 8)) (hk : k < 114) (hl : Cond.fieldLink own i RX1 "other" "I" ∈ lw_tbl) (hd : decode cc pc = .ok (.putfield i, 3)) (hx : x = nI a) (kk : Pm G own cc nL K (pc + 3) ls st (uf f k 4 a) l) : Pm G own cc nL K pc ls (.int x :: .ref (ad G k) :: st) f l := P.puti (j := 4) (T := TX1) tyX1 tyX1_ok nmX1 rfl inX1 hy (by decide) hk (by decide) rfl (tyX1_ok 4 (by decide)) rfl hl hd hx (Or.inl rfl) kk
theorem g_X1_c (hy : lay k = (1, 8)) (hk : k < 114) (hl : Cond.fieldLink own i RX1 "c" "J" ∈ lw_tbl) (hd : decode cc pc = .ok (.getfield i, 3)) (kk : Pm G own cc nL K (pc + 3) ls (.long (l k 5) :: st) f l) : Pm G own cc nL K pc ls (.ref (ad G k) :: st) f l := P.getl (j := 5) (T := TX1) rfl inX1 hy (by decide) hk (by decide) rfl hl hd kk
theorem p_X1_c {x : Int64} (hy : lay k = (1, 8)) (hk : k < 114) (hl : Cond.fieldLink own i RX1 "c" "J" ∈ lw_tbl) (hd : decode cc pc = .ok (.putfield i, 3)) (kk : Pm G own cc nL K (pc + 3) ls st f (uf l k 5 x)) : Pm G own cc nL K pc ls (.long x :: .ref (ad G k) :: st) f l := P.putl (j := 5) (T := TX1) tyX1 tyX1_ok nmX1 rfl inX1 hy (by decide) hk (by decide) rfl (tyX1_ok 5 (by decide)) rfl hl hd kk
theorem g_X1_d (hy : lay k = (1, 8)) (hk : k < 114) (hl : Cond.fieldLink own i RX1 "d" "J" ∈ lw_tbl) (hd : decode cc pc = .ok (.getfield i, 3)) (kk : Pm G own cc nL K (pc + 3) ls (.long (l k 6) :: st) f l) : Pm G own cc nL K pc ls (.ref (ad G k) :: st) f l := P.getl (j := 6) (T := TX1) rfl inX1 hy (by decide) hk (by decide) rfl hl hd kk
theorem p_X1_d {x : Int64} (hy : lay k = (1, 8)) (hk : k < 114) (hl : Cond.fieldLink own i RX1 "d" "J" ∈ lw_tbl) (hd : decode cc pc = .ok (.putfield i, 3)) (kk : Pm G own cc nL K (pc + 3) ls st f (uf l k 6 x)) : Pm G own cc nL K pc ls (.long x :: .ref (ad G k) :: st) f l := P.putl (j := 6) (T := TX1) tyX1 tyX1_ok nmX1 rfl inX1 hy (by decide) hk (by decide) rfl (tyX1_ok 6 (by decide)) rfl hl hd kk
theorem g_X1_inForce (hy : lay k = (1, 8)) (hk : k < 114) (hl : Cond.fieldLink own i RX1 "inForce" "Z" ∈ lw_tbl) (hd : decode cc pc = .ok (.getfield i, 3)) (kk : Pm G own cc nL K (pc + 3) ls (.int (nI (f k 7)) :: st) f l) : Pm G own cc nL K pc ls (.ref (ad G k) :: st) f l := P.geti (j := 7) (T := TX1) rfl inX1 hy (by decide) hk (by decide) rfl hl hd kk
theorem p_X1_inForce {x : Int32} {a : Nat} (hy : lay k = (1, 8)) (hk : k < 114) (hl : Cond.fieldLink own i RX1 "inForce" "Z" ∈ lw_tbl) (hd : decode cc pc = .ok (.putfield i, 3)) (hx : x = nI a) (ha : a < 2) (kk : Pm G own cc nL K (pc + 3) ls st (uf f k 7 a) l) : Pm G own cc nL K pc ls (.int x :: .ref (ad G k) :: st) f l := P.puti (j := 7) (T := TX1) tyX1 tyX1_ok nmX1 rfl inX1 hy (by decide) hk (by decide) rfl (tyX1_ok 7 (by decide)) rfl hl hd hx (Or.inr ⟨rfl, ha⟩) kk
theorem g_X2_rows {q : Nat} (hy : lay k = (2, 5)) (hk : k < 114) (hr : refT k 0 = some q) (hl : Cond.fieldLink own i RX2 "rows" "LCleaningBench$Rows;" ∈ lw_tbl) (hd : decode cc pc = .ok (.getfield i, 3)) (kk : Pm G own cc nL K (pc + 3) ls (.ref (ad G q) :: st) f l) : Pm G own cc nL K pc ls (.ref (ad G k) :: st) f l := P.getr (j := 0) (T := TX2) rfl inX2 hy (by decide) hk (by decide) rfl hr hl hd kk
theorem g_X2_list {q : Nat} (hy : lay k = (2, 5)) (hk : k < 114) (hr : refT k 1 = some q) (hl : Cond.fieldLink own i RX2 "list" "[LCleaningBench$Law;" ∈ lw_tbl) (hd : decode cc pc = .ok (.getfield i, 3)) (kk : Pm G own cc nL K (pc + 3) ls (.ref (ad G q) :: st) f l) : Pm G own cc nL K pc ls (.ref (ad G k) :: st) f l := P.getr (j := 1) (T := TX2) rfl inX2 hy (by decide) hk (by decide) rfl hr hl hd kk
theorem g_X2_many (hy : lay k = (2, 5)) (hk : k < 114) (hl : Cond.fieldLink own i RX2 "many" "I" ∈ lw_tbl) (hd : decode cc pc = .ok (.getfield i, 3)) (kk : Pm G own cc nL K (pc + 3) ls (.int (nI (f k 2)) :: st) f l) : Pm G own cc nL K pc ls (.ref (ad G k) :: st) f l := P.geti (j := 2) (T := TX2) rfl inX2 hy (by decide) hk (by decide) rfl hl hd kk
theorem p_X2_many {x : Int32} {a : Nat} (hy : lay k = (2, 5)) (hk : k < 114) (hl : Cond.fieldLink own i RX2 "many" "I" ∈ lw_tbl) (hd : decode cc pc = .ok (.putfield i, 3)) (hx : x = nI a) (kk : Pm G own cc nL K (pc + 3) ls st (uf f k 2 a) l) : Pm G own cc nL K pc ls (.int x :: .ref (ad G k) :: st) f l := P.puti (j := 2) (T := TX2) tyX2 tyX2_ok nmX2 rfl inX2 hy (by decide) hk (by decide) rfl (tyX2_ok 2 (by decide)) rfl hl hd hx (Or.inl rfl) kk
theorem g_X2_found {q : Nat} (hy : lay k = (2, 5)) (hk : k < 114) (hr : refT k 3 = some q) (hl : Cond.fieldLink own i RX2 "found" "[I" ∈ lw_tbl) (hd : decode cc pc = .ok (.getfield i, 3)) (kk : Pm G own cc nL K (pc + 3) ls (.ref (ad G q) :: st) f l) : Pm G own cc nL K pc ls (.ref (ad G k) :: st) f l := P.getr (j := 3) (T := TX2) rfl inX2 hy (by decide) hk (by decide) rfl hr hl hd kk
theorem g_X2_manyFound (hy : lay k = (2, 5)) (hk : k < 114) (hl : Cond.fieldLink own i RX2 "manyFound" "I" ∈ lw_tbl) (hd : decode cc pc = .ok (.getfield i, 3)) (kk : Pm G own cc nL K (pc + 3) ls (.int (nI (f k 4)) :: st) f l) : Pm G own cc nL K pc ls (.ref (ad G k) :: st) f l := P.geti (j := 4) (T := TX2) rfl inX2 hy (by decide) hk (by decide) rfl hl hd kk
theorem p_X2_manyFound {x : Int32} {a : Nat} (hy : lay k = (2, 5)) (hk : k < 114) (hl : Cond.fieldLink own i RX2 "manyFound" "I" ∈ lw_tbl) (hd : decode cc pc = .ok (.putfield i, 3)) (hx : x = nI a) (kk : Pm G own cc nL K (pc + 3) ls st (uf f k 4 a) l) : Pm G own cc nL K pc ls (.int x :: .ref (ad G k) :: st) f l := P.puti (j := 4) (T := TX2) tyX2 tyX2_ok nmX2 rfl inX2 hy (by decide) hk (by decide) rfl (tyX2_ok 4 (by decide)) rfl hl hd hx (Or.inl rfl) kk
theorem g_X3_rows {q : Nat} (hy : lay k = (3, 7)) (hk : k < 114) (hr : refT k 0 = some q) (hl : Cond.fieldLink own i RX3 "rows" "LCleaningBench$Rows;" ∈ lw_tbl) (hd : decode cc pc = .ok (.getfield i, 3)) (kk : Pm G own cc nL K (pc + 3) ls (.ref (ad G q) :: st) f l) : Pm G own cc nL K pc ls (.ref (ad G k) :: st) f l := P.getr (j := 0) (T := TX3) rfl inX3 hy (by decide) hk (by decide) rfl hr hl hd kk
theorem g_X3_laws {q : Nat} (hy : lay k = (3, 7)) (hk : k < 114) (hr : refT k 1 = some q) (hl : Cond.fieldLink own i RX3 "laws" "LCleaningBench$Laws;" ∈ lw_tbl) (hd : decode cc pc = .ok (.getfield i, 3)) (kk : Pm G own cc nL K (pc + 3) ls (.ref (ad G q) :: st) f l) : Pm G own cc nL K pc ls (.ref (ad G k) :: st) f l := P.getr (j := 1) (T := TX3) rfl inX3 hy (by decide) hk (by decide) rfl hr hl hd kk
theorem g_X3_least {q : Nat} (hy : lay k = (3, 7)) (hk : k < 114) (hr : refT k 2 = some q) (hl : Cond.fieldLink own i RX3 "least" "[I" ∈ lw_tbl) (hd : decode cc pc = .ok (.getfield i, 3)) (kk : Pm G own cc nL K (pc + 3) ls (.ref (ad G q) :: st) f l) : Pm G own cc nL K pc ls (.ref (ad G k) :: st) f l := P.getr (j := 2) (T := TX3) rfl inX3 hy (by decide) hk (by decide) rfl hr hl hd kk
theorem g_X3_many (hy : lay k = (3, 7)) (hk : k < 114) (hl : Cond.fieldLink own i RX3 "many" "I" ∈ lw_tbl) (hd : decode cc pc = .ok (.getfield i, 3)) (kk : Pm G own cc nL K (pc + 3) ls (.int (nI (f k 3)) :: st) f l) : Pm G own cc nL K pc ls (.ref (ad G k) :: st) f l := P.geti (j := 3) (T := TX3) rfl inX3 hy (by decide) hk (by decide) rfl hl hd kk
theorem p_X3_many {x : Int32} {a : Nat} (hy : lay k = (3, 7)) (hk : k < 114) (hl : Cond.fieldLink own i RX3 "many" "I" ∈ lw_tbl) (hd : decode cc pc = .ok (.putfield i, 3)) (hx : x = nI a) (kk : Pm G own cc nL K (pc + 3) ls st (uf f k 3 a) l) : Pm G own cc nL K pc ls (.int x :: .ref (ad G k) :: st) f l := P.puti (j := 3) (T := TX3) tyX3 tyX3_ok nmX3 rfl inX3 hy (by decide) hk (by decide) rfl (tyX3_ok 3 (by decide)) rfl hl hd hx (Or.inl rfl) kk
theorem g_X3_kept (hy : lay k = (3, 7)) (hk : k < 114) (hl : Cond.fieldLink own i RX3 "kept" "I" ∈ lw_tbl) (hd : decode cc pc = .ok (.getfield i, 3)) (kk : Pm G own cc nL K (pc + 3) ls (.int (nI (f k 4)) :: st) f l) : Pm G own cc nL K pc ls (.ref (ad G k) :: st) f l := P.geti (j := 4) (T := TX3) rfl inX3 hy (by decide) hk (by decide) rfl hl hd kk
theorem p_X3_kept {x : Int32} {a : Nat} (hy : lay k = (3, 7)) (hk : k < 114) (hl : Cond.fieldLink own i RX3 "kept" "I" ∈ lw_tbl) (hd : decode cc pc = .ok (.putfield i, 3)) (hx : x = nI a) (kk : Pm G own cc nL K (pc + 3) ls st (uf f k 4 a) l) : Pm G own cc nL K pc ls (.int x :: .ref (ad G k) :: st) f l := P.puti (j := 4) (T := TX3) tyX3 tyX3_ok nmX3 rfl inX3 hy (by decide) hk (by decide) rfl (tyX3_ok 4 (by decide)) rfl hl hd hx (Or.inl rfl) kk
theorem g_X3_broken {q : Nat} (hy : lay k = (3, 7)) (hk : k < 114) (hr : refT k 5 = some q) (hl : Cond.fieldLink own i RX3 "broken" "[Z" ∈ lw_tbl) (hd : decode cc pc = .ok (.getfield i, 3)) (kk : Pm G own cc nL K (pc + 3) ls (.ref (ad G q) :: st) f l) : Pm G own cc nL K pc ls (.ref (ad G k) :: st) f l := P.getr (j := 5) (T := TX3) rfl inX3 hy (by decide) hk (by decide) rfl hr hl hd kk
theorem g_X3_covers {q : Nat} (hy : lay k = (3, 7)) (hk : k < 114) (hr : refT k 6 = some q) (hl : Cond.fieldLink own i RX3 "covers" "[Z" ∈ lw_tbl) (hd : decode cc pc = .ok (.getfield i, 3)) (kk : Pm G own cc nL K (pc + 3) ls (.ref (ad G q) :: st) f l) : Pm G own cc nL K pc ls (.ref (ad G k) :: st) f l := P.getr (j := 6) (T := TX3) rfl inX3 hy (by decide) hk (by decide) rfl hr hl hd kk
theorem g_X4_told {q : Nat} (hy : lay k = (4, 3)) (hk : k < 114) (hr : refT k 0 = some q) (hl : Cond.fieldLink own i RX4 "told" "[Z" ∈ lw_tbl) (hd : decode cc pc = .ok (.getfield i, 3)) (kk : Pm G own cc nL K (pc + 3) ls (.ref (ad G q) :: st) f l) : Pm G own cc nL K pc ls (.ref (ad G k) :: st) f l := P.getr (j := 0) (T := TX4) rfl inX4 hy (by decide) hk (by decide) rfl hr hl hd kk
theorem g_X4_numbers {q : Nat} (hy : lay k = (4, 3)) (hk : k < 114) (hr : refT k 1 = some q) (hl : Cond.fieldLink own i RX4 "numbers" "[J" ∈ lw_tbl) (hd : decode cc pc = .ok (.getfield i, 3)) (kk : Pm G own cc nL K (pc + 3) ls (.ref (ad G q) :: st) f l) : Pm G own cc nL K pc ls (.ref (ad G k) :: st) f l := P.getr (j := 1) (T := TX4) rfl inX4 hy (by decide) hk (by decide) rfl hr hl hd kk
theorem g_X4_table (hy : lay k = (4, 3)) (hk : k < 114) (hl : Cond.fieldLink own i RX4 "table" "I" ∈ lw_tbl) (hd : decode cc pc = .ok (.getfield i, 3)) (kk : Pm G own cc nL K (pc + 3) ls (.int (nI (f k 2)) :: st) f l) : Pm G own cc nL K pc ls (.ref (ad G k) :: st) f l := P.geti (j := 2) (T := TX4) rfl inX4 hy (by decide) hk (by decide) rfl hl hd kk
theorem p_X4_table {x : Int32} {a : Nat} (hy : lay k = (4, 3)) (hk : k < 114) (hl : Cond.fieldLink own i RX4 "table" "I" ∈ lw_tbl) (hd : decode cc pc = .ok (.putfield i, 3)) (hx : x = nI a) (kk : Pm G own cc nL K (pc + 3) ls st (uf f k 2 a) l) : Pm G own cc nL K pc ls (.int x :: .ref (ad G k) :: st) f l := P.puti (j := 2) (T := TX4) tyX4 tyX4_ok nmX4 rfl inX4 hy (by decide) hk (by decide) rfl (tyX4_ok 2 (by decide)) rfl hl hd hx (Or.inl rfl) kk
theorem g_X5_rows {q : Nat} (hy : lay k = (5, 8)) (hk : k < 114) (hr : refT k 0 = some q) (hl : Cond.fieldLink own i RX5 "rows" "LCleaningBench$Rows;" ∈ lw_tbl) (hd : decode cc pc = .ok (.getfield i, 3)) (kk : Pm G own cc nL K (pc + 3) ls (.ref (ad G q) :: st) f l) : Pm G own cc nL K pc ls (.ref (ad G k) :: st) f l := P.getr (j := 0) (T := TX5) rfl inX5 hy (by decide) hk (by decide) rfl hr hl hd kk
theorem g_X5_parts {q : Nat} (hy : lay k = (5, 8)) (hk : k < 114) (hr : refT k 1 = some q) (hl : Cond.fieldLink own i RX5 "parts" "[LCleaningBench$Part;" ∈ lw_tbl) (hd : decode cc pc = .ok (.getfield i, 3)) (kk : Pm G own cc nL K (pc + 3) ls (.ref (ad G q) :: st) f l) : Pm G own cc nL K pc ls (.ref (ad G k) :: st) f l := P.getr (j := 1) (T := TX5) rfl inX5 hy (by decide) hk (by decide) rfl hr hl hd kk
theorem g_X5_manyParts (hy : lay k = (5, 8)) (hk : k < 114) (hl : Cond.fieldLink own i RX5 "manyParts" "I" ∈ lw_tbl) (hd : decode cc pc = .ok (.getfield i, 3)) (kk : Pm G own cc nL K (pc + 3) ls (.int (nI (f k 2)) :: st) f l) : Pm G own cc nL K pc ls (.ref (ad G k) :: st) f l := P.geti (j := 2) (T := TX5) rfl inX5 hy (by decide) hk (by decide) rfl hl hd kk
theorem p_X5_manyParts {x : Int32} {a : Nat} (hy : lay k = (5, 8)) (hk : k < 114) (hl : Cond.fieldLink own i RX5 "manyParts" "I" ∈ lw_tbl) (hd : decode cc pc = .ok (.putfield i, 3)) (hx : x = nI a) (kk : Pm G own cc nL K (pc + 3) ls st (uf f k 2 a) l) : Pm G own cc nL K pc ls (.int x :: .ref (ad G k) :: st) f l := P.puti (j := 2) (T := TX5) tyX5 tyX5_ok nmX5 rfl inX5 hy (by decide) hk (by decide) rfl (tyX5_ok 2 (by decide)) rfl hl hd hx (Or.inl rfl) kk
theorem g_X5_joins {q : Nat} (hy : lay k = (5, 8)) (hk : k < 114) (hr : refT k 3 = some q) (hl : Cond.fieldLink own i RX5 "joins" "[LCleaningBench$Join;" ∈ lw_tbl) (hd : decode cc pc = .ok (.getfield i, 3)) (kk : Pm G own cc nL K (pc + 3) ls (.ref (ad G q) :: st) f l) : Pm G own cc nL K pc ls (.ref (ad G k) :: st) f l := P.getr (j := 3) (T := TX5) rfl inX5 hy (by decide) hk (by decide) rfl hr hl hd kk
theorem g_X5_manyJoins (hy : lay k = (5, 8)) (hk : k < 114) (hl : Cond.fieldLink own i RX5 "manyJoins" "I" ∈ lw_tbl) (hd : decode cc pc = .ok (.getfield i, 3)) (kk : Pm G own cc nL K (pc + 3) ls (.int (nI (f k 4)) :: st) f l) : Pm G own cc nL K pc ls (.ref (ad G k) :: st) f l := P.geti (j := 4) (T := TX5) rfl inX5 hy (by decide) hk (by decide) rfl hl hd kk
theorem p_X5_manyJoins {x : Int32} {a : Nat} (hy : lay k = (5, 8)) (hk : k < 114) (hl : Cond.fieldLink own i RX5 "manyJoins" "I" ∈ lw_tbl) (hd : decode cc pc = .ok (.putfield i, 3)) (hx : x = nI a) (kk : Pm G own cc nL K (pc + 3) ls st (uf f k 4 a) l) : Pm G own cc nL K pc ls (.int x :: .ref (ad G k) :: st) f l := P.puti (j := 4) (T := TX5) tyX5 tyX5_ok nmX5 rfl inX5 hy (by decide) hk (by decide) rfl (tyX5_ok 4 (by decide)) rfl hl hd hx (Or.inl rfl) kk
theorem g_X5_fitting {q : Nat} (hy : lay k = (5, 8)) (hk : k < 114) (hr : refT k 5 = some q) (hl : Cond.fieldLink own i RX5 "fitting" "[I" ∈ lw_tbl) (hd : decode cc pc = .ok (.getfield i, 3)) (kk : Pm G own cc nL K (pc + 3) ls (.ref (ad G q) :: st) f l) : Pm G own cc nL K pc ls (.ref (ad G k) :: st) f l := P.getr (j := 5) (T := TX5) rfl inX5 hy (by decide) hk (by decide) rfl hr hl hd kk
theorem g_X5_tried {q : Nat} (hy : lay k = (5, 8)) (hk : k < 114) (hr : refT k 6 = some q) (hl : Cond.fieldLink own i RX5 "tried" "[I" ∈ lw_tbl) (hd : decode cc pc = .ok (.getfield i, 3)) (kk : Pm G own cc nL K (pc + 3) ls (.ref (ad G q) :: st) f l) : Pm G own cc nL K pc ls (.ref (ad G k) :: st) f l := P.getr (j := 6) (T := TX5) rfl inX5 hy (by decide) hk (by decide) rfl hr hl hd kk
theorem g_X5_standing {q : Nat} (hy : lay k = (5, 8)) (hk : k < 114) (hr : refT k 7 = some q) (hl : Cond.fieldLink own i RX5 "standing" "[Z" ∈ lw_tbl) (hd : decode cc pc = .ok (.getfield i, 3)) (kk : Pm G own cc nL K (pc + 3) ls (.ref (ad G q) :: st) f l) : Pm G own cc nL K pc ls (.ref (ad G k) :: st) f l := P.getr (j := 7) (T := TX5) rfl inX5 hy (by decide) hk (by decide) rfl hr hl hd kk
theorem g_X6_numbers {q : Nat} (hy : lay k = (6, 5)) (hk : k < 114) (hr : refT k 0 = some q) (hl : Cond.fieldLink own i RX6 "numbers" "[J" ∈ lw_tbl) (hd : decode cc pc = .ok (.getfield i, 3)) (kk : Pm G own cc nL K (pc + 3) ls (.ref (ad G q) :: st) f l) : Pm G own cc nL K pc ls (.ref (ad G k) :: st) f l := P.getr (j := 0) (T := TX6) rfl inX6 hy (by decide) hk (by decide) rfl hr hl hd kk
theorem g_X6_there {q : Nat} (hy : lay k = (6, 5)) (hk : k < 114) (hr : refT k 1 = some q) (hl : Cond.fieldLink own i RX6 "there" "[Z" ∈ lw_tbl) (hd : decode cc pc = .ok (.getfield i, 3)) (kk : Pm G own cc nL K (pc + 3) ls (.ref (ad G q) :: st) f l) : Pm G own cc nL K pc ls (.ref (ad G k) :: st) f l := P.getr (j := 1) (T := TX6) rfl inX6 hy (by decide) hk (by decide) rfl hr hl hd kk
theorem g_X6_table (hy : lay k = (6, 5)) (hk : k < 114) (hl : Cond.fieldLink own i RX6 "table" "I" ∈ lw_tbl) (hd : decode cc pc = .ok (.getfield i, 3)) (kk : Pm G own cc nL K (pc + 3) ls (.int (nI (f k 2)) :: st) f l) : Pm G own cc nL K pc ls (.ref (ad G k) :: st) f l := P.geti (j := 2) (T := TX6) rfl inX6 hy (by decide) hk (by decide) rfl hl hd kk
theorem p_X6_table {x : Int32} {a : Nat} (hy : lay k = (6, 5)) (hk : k < 114) (hl : Cond.fieldLink own i RX6 "table" "I" ∈ lw_tbl) (hd : decode cc pc = .ok (.putfield i, 3)) (hx : x = nI a) (kk : Pm G own cc nL K (pc + 3) ls st (uf f k 2 a) l) : Pm G own cc nL K pc ls (.int x :: .ref (ad G k) :: st) f l := P.puti (j := 2) (T := TX6) tyX6 tyX6_ok nmX6 rfl inX6 hy (by decide) hk (by decide) rfl (tyX6_ok 2 (by decide)) rfl hl hd hx (Or.inl rfl) kk
theorem g_X6_trust (hy : lay k = (6, 5)) (hk : k < 114) (hl : Cond.fieldLink own i RX6 "trust" "I" ∈ lw_tbl) (hd : decode cc pc = .ok (.getfield i, 3)) (kk : Pm G own cc nL K (pc + 3) ls (.int (nI (f k 3)) :: st) f l) : Pm G own cc nL K pc ls (.ref (ad G k) :: st) f l := P.geti (j := 3) (T := TX6) rfl inX6 hy (by decide) hk (by decide) rfl hl hd kk
theorem p_X6_trust {x : Int32} {a : Nat} (hy : lay k = (6, 5)) (hk : k < 114) (hl : Cond.fieldLink own i RX6 "trust" "I" ∈ lw_tbl) (hd : decode cc pc = .ok (.putfield i, 3)) (hx : x = nI a) (kk : Pm G own cc nL K (pc + 3) ls st (uf f k 3 a) l) : Pm G own cc nL K pc ls (.int x :: .ref (ad G k) :: st) f l := P.puti (j := 3) (T := TX6) tyX6 tyX6_ok nmX6 rfl inX6 hy (by decide) hk (by decide) rfl (tyX6_ok 3 (by decide)) rfl hl hd hx (Or.inl rfl) kk
theorem g_X6_kept (hy : lay k = (6, 5)) (hk : k < 114) (hl : Cond.fieldLink own i RX6 "kept" "Z" ∈ lw_tbl) (hd : decode cc pc = .ok (.getfield i, 3)) (kk : Pm G own cc nL K (pc + 3) ls (.int (nI (f k 4)) :: st) f l) : Pm G own cc nL K pc ls (.ref (ad G k) :: st) f l := P.geti (j := 4) (T := TX6) rfl inX6 hy (by decide) hk (by decide) rfl hl hd kk
theorem p_X6_kept {x : Int32} {a : Nat} (hy : lay k = (6, 5)) (hk : k < 114) (hl : Cond.fieldLink own i RX6 "kept" "Z" ∈ lw_tbl) (hd : decode cc pc = .ok (.putfield i, 3)) (hx : x = nI a) (ha : a < 2) (kk : Pm G own cc nL K (pc + 3) ls st (uf f k 4 a) l) : Pm G own cc nL K pc ls (.int x :: .ref (ad G k) :: st) f l := P.puti (j := 4) (T := TX6) tyX6 tyX6_ok nmX6 rfl inX6 hy (by decide) hk (by decide) rfl (tyX6_ok 4 (by decide)) rfl hl hd hx (Or.inr ⟨rfl, ha⟩) kk
theorem g_X7_list {q : Nat} (hy : lay k = (7, 2)) (hk : k < 114) (hr : refT k 0 = some q) (hl : Cond.fieldLink own i RX7 "list" "[LCleaningBench$Row;" ∈ lw_tbl) (hd : decode cc pc = .ok (.getfield i, 3)) (kk : Pm G own cc nL K (pc + 3) ls (.ref (ad G q) :: st) f l) : Pm G own cc nL K pc ls (.ref (ad G k) :: st) f l := P.getr (j := 0) (T := TX7) rfl inX7 hy (by decide) hk (by decide) rfl hr hl hd kk
theorem g_X7_many (hy : lay k = (7, 2)) (hk : k < 114) (hl : Cond.fieldLink own i RX7 "many" "I" ∈ lw_tbl) (hd : decode cc pc = .ok (.getfield i, 3)) (kk : Pm G own cc nL K (pc + 3) ls (.int (nI (f k 1)) :: st) f l) : Pm G own cc nL K pc ls (.ref (ad G k) :: st) f l := P.geti (j := 1) (T := TX7) rfl inX7 hy (by decide) hk (by decide) rfl hl hd kk
theorem p_X7_many {x : Int32} {a : Nat} (hy : lay k = (7, 2)) (hk : k < 114) (hl : Cond.fieldLink own i RX7 "many" "I" ∈ lw_tbl) (hd : decode cc pc = .ok (.putfield i, 3)) (hx : x = nI a) (kk : Pm G own cc nL K (pc + 3) ls st (uf f k 1 a) l) : Pm G own cc nL K pc ls (.int x :: .ref (ad G k) :: st) f l := P.puti (j := 1) (T := TX7) tyX7 tyX7_ok nmX7 rfl inX7 hy (by decide) hk (by decide) rfl (tyX7_ok 1 (by decide)) rfl hl hd hx (Or.inl rfl) kk
theorem g_X8_lanes {q : Nat} (hy : lay k = (8, 2)) (hk : k < 114) (hr : refT k 0 = some q) (hl : Cond.fieldLink own i RX8 "lanes" "[I" ∈ lw_tbl) (hd : decode cc pc = .ok (.getfield i, 3)) (kk : Pm G own cc nL K (pc + 3) ls (.ref (ad G q) :: st) f l) : Pm G own cc nL K pc ls (.ref (ad G k) :: st) f l := P.getr (j := 0) (T := TX8) rfl inX8 hy (by decide) hk (by decide) rfl hr hl hd kk
theorem g_X8_columns (hy : lay k = (8, 2)) (hk : k < 114) (hl : Cond.fieldLink own i RX8 "columns" "I" ∈ lw_tbl) (hd : decode cc pc = .ok (.getfield i, 3)) (kk : Pm G own cc nL K (pc + 3) ls (.int (nI (f k 1)) :: st) f l) : Pm G own cc nL K pc ls (.ref (ad G k) :: st) f l := P.geti (j := 1) (T := TX8) rfl inX8 hy (by decide) hk (by decide) rfl hl hd kk
theorem p_X8_columns {x : Int32} {a : Nat} (hy : lay k = (8, 2)) (hk : k < 114) (hl : Cond.fieldLink own i RX8 "columns" "I" ∈ lw_tbl) (hd : decode cc pc = .ok (.putfield i, 3)) (hx : x = nI a) (kk : Pm G own cc nL K (pc + 3) ls st (uf f k 1 a) l) : Pm G own cc nL K pc ls (.int x :: .ref (ad G k) :: st) f l := P.puti (j := 1) (T := TX8) tyX8 tyX8_ok nmX8 rfl inX8 hy (by decide) hk (by decide) rfl (tyX8_ok 1 (by decide)) rfl hl hd hx (Or.inl rfl) kk
theorem g_X9_tables {q : Nat} (hy : lay k = (9, 6)) (hk : k < 114) (hr : refT k 0 = some q) (hl : Cond.fieldLink own i RX9 "tables" "[LCleaningBench$Table;" ∈ lw_tbl) (hd : decode cc pc = .ok (.getfield i, 3)) (kk : Pm G own cc nL K (pc + 3) ls (.ref (ad G q) :: st) f l) : Pm G own cc nL K pc ls (.ref (ad G k) :: st) f l := P.getr (j := 0) (T := TX9) rfl inX9 hy (by decide) hk (by decide) rfl hr hl hd kk
theorem g_X9_rows {q : Nat} (hy : lay k = (9, 6)) (hk : k < 114) (hr : refT k 1 = some q) (hl : Cond.fieldLink own i RX9 "rows" "LCleaningBench$Rows;" ∈ lw_tbl) (hd : decode cc pc = .ok (.getfield i, 3)) (kk : Pm G own cc nL K (pc + 3) ls (.ref (ad G q) :: st) f l) : Pm G own cc nL K pc ls (.ref (ad G k) :: st) f l := P.getr (j := 1) (T := TX9) rfl inX9 hy (by decide) hk (by decide) rfl hr hl hd kk
theorem g_X9_laws {q : Nat} (hy : lay k = (9, 6)) (hk : k < 114) (hr : refT k 2 = some q) (hl : Cond.fieldLink own i RX9 "laws" "LCleaningBench$Laws;" ∈ lw_tbl) (hd : decode cc pc = .ok (.getfield i, 3)) (kk : Pm G own cc nL K (pc + 3) ls (.ref (ad G q) :: st) f l) : Pm G own cc nL K pc ls (.ref (ad G k) :: st) f l := P.getr (j := 2) (T := TX9) rfl inX9 hy (by decide) hk (by decide) rfl hr hl hd kk
theorem g_X9_mendings {q : Nat} (hy : lay k = (9, 6)) (hk : k < 114) (hr : refT k 3 = some q) (hl : Cond.fieldLink own i RX9 "mendings" "LCleaningBench$Mendings;" ∈ lw_tbl) (hd : decode cc pc = .ok (.getfield i, 3)) (kk : Pm G own cc nL K (pc + 3) ls (.ref (ad G q) :: st) f l) : Pm G own cc nL K pc ls (.ref (ad G k) :: st) f l := P.getr (j := 3) (T := TX9) rfl inX9 hy (by decide) hk (by decide) rfl hr hl hd kk
theorem g_X9_question {q : Nat} (hy : lay k = (9, 6)) (hk : k < 114) (hr : refT k 4 = some q) (hl : Cond.fieldLink own i RX9 "question" "LCleaningBench$Question;" ∈ lw_tbl) (hd : decode cc pc = .ok (.getfield i, 3)) (kk : Pm G own cc nL K (pc + 3) ls (.ref (ad G q) :: st) f l) : Pm G own cc nL K pc ls (.ref (ad G k) :: st) f l := P.getr (j := 4) (T := TX9) rfl inX9 hy (by decide) hk (by decide) rfl hr hl hd kk
theorem g_X9_findings (hy : lay k = (9, 6)) (hk : k < 114) (hl : Cond.fieldLink own i RX9 "findings" "I" ∈ lw_tbl) (hd : decode cc pc = .ok (.getfield i, 3)) (kk : Pm G own cc nL K (pc + 3) ls (.int (nI (f k 5)) :: st) f l) : Pm G own cc nL K pc ls (.ref (ad G k) :: st) f l := P.geti (j := 5) (T := TX9) rfl inX9 hy (by decide) hk (by decide) rfl hl hd kk
theorem p_X9_findings {x : Int32} {a : Nat} (hy : lay k = (9, 6)) (hk : k < 114) (hl : Cond.fieldLink own i RX9 "findings" "I" ∈ lw_tbl) (hd : decode cc pc = .ok (.putfield i, 3)) (hx : x = nI a) (kk : Pm G own cc nL K (pc + 3) ls st (uf f k 5 a) l) : Pm G own cc nL K pc ls (.int x :: .ref (ad G k) :: st) f l := P.puti (j := 5) (T := TX9) tyX9 tyX9_ok nmX9 rfl inX9 hy (by decide) hk (by decide) rfl (tyX9_ok 5 (by decide)) rfl hl hd hx (Or.inl rfl) kk
theorem g_X10_thrown (hy : lay k = (10, 36)) (hk : k < 114) (hl : Cond.fieldLink own i RX10 "thrown" "I" ∈ lw_tbl) (hd : decode cc pc = .ok (.getfield i, 3)) (kk : Pm G own cc nL K (pc + 3) ls (.int (nI (f k 0)) :: st) f l) : Pm G own cc nL K pc ls (.ref (ad G k) :: st) f l := P.geti (j := 0) (T := TX10) rfl inX10 hy (by decide) hk (by decide) rfl hl hd kk
theorem p_X10_thrown {x : Int32} {a : Nat} (hy : lay k = (10, 36)) (hk : k < 114) (hl : Cond.fieldLink own i RX10 "thrown" "I" ∈ lw_tbl) (hd : decode cc pc = .ok (.putfield i, 3)) (hx : x = nI a) (kk : Pm G own cc nL K (pc + 3) ls st (uf f k 0 a) l) : Pm G own cc nL K pc ls (.int x :: .ref (ad G k) :: st) f l := P.puti (j := 0) (T := TX10) tyX10 tyX10_ok nmX10 rfl inX10 hy (by decide) hk (by decide) rfl (tyX10_ok 0 (by decide)) rfl hl hd hx (Or.inl rfl) kk
theorem g_X10_columns {q : Nat} (hy : lay k = (10, 36)) (hk : k < 114) (hr : refT k 1 = some q) (hl : Cond.fieldLink own i RX10 "columns" "[I" ∈ lw_tbl) (hd : decode cc pc = .ok (.getfield i, 3)) (kk : Pm G own cc nL K (pc + 3) ls (.ref (ad G q) :: st) f l) : Pm G own cc nL K pc ls (.ref (ad G k) :: st) f l := P.getr (j := 1) (T := TX10) rfl inX10 hy (by decide) hk (by decide) rfl hr hl hd kk
theorem g_X10_laneOf {q : Nat} (hy : lay k = (10, 36)) (hk : k < 114) (hr : refT k 2 = some q) (hl : Cond.fieldLink own i RX10 "laneOf" "[I" ∈ lw_tbl) (hd : decode cc pc = .ok (.getfield i, 3)) (kk : Pm G own cc nL K (pc + 3) ls (.ref (ad G q) :: st) f l) : Pm G own cc nL K pc ls (.ref (ad G k) :: st) f l := P.getr (j := 2) (T := TX10) rfl inX10 hy (by decide) hk (by decide) rfl hr hl hd kk
theorem g_X10_rows (hy : lay k = (10, 36)) (hk : k < 114) (hl : Cond.fieldLink own i RX10 "rows" "I" ∈ lw_tbl) (hd : decode cc pc = .ok (.getfield i, 3)) (kk : Pm G own cc nL K (pc + 3) ls (.int (nI (f k 3)) :: st) f l) : Pm G own cc nL K pc ls (.ref (ad G k) :: st) f l := P.geti (j := 3) (T := TX10) rfl inX10 hy (by decide) hk (by decide) rfl hl hd kk
theorem p_X10_rows {x : Int32} {a : Nat} (hy : lay k = (10, 36)) (hk : k < 114) (hl : Cond.fieldLink own i RX10 "rows" "I" ∈ lw_tbl) (hd : decode cc pc = .ok (.putfield i, 3)) (hx : x = nI a) (kk : Pm G own cc nL K (pc + 3) ls st (uf f k 3 a) l) : Pm G own cc nL K pc ls (.int x :: .ref (ad G k) :: st) f l := P.puti (j := 3) (T := TX10) tyX10 tyX10_ok nmX10 rfl inX10 hy (by decide) hk (by decide) rfl (tyX10_ok 3 (by decide)) rfl hl hd hx (Or.inl rfl) kk
theorem g_X10_tableOf {q : Nat} (hy : lay k = (10, 36)) (hk : k < 114) (hr : refT k 4 = some q) (hl : Cond.fieldLink own i RX10 "tableOf" "[I" ∈ lw_tbl) (hd : decode cc pc = .ok (.getfield i, 3)) (kk : Pm G own cc nL K (pc + 3) ls (.ref (ad G q) :: st) f l) : Pm G own cc nL K pc ls (.ref (ad G k) :: st) f l := P.getr (j := 4) (T := TX10) rfl inX10 hy (by decide) hk (by decide) rfl hr hl hd kk
theorem g_X10_trustOf {q : Nat} (hy : lay k = (10, 36)) (hk : k < 114) (hr : refT k 5 = some q) (hl : Cond.fieldLink own i RX10 "trustOf" "[I" ∈ lw_tbl) (hd : decode cc pc = .ok (.getfield i, 3)) (kk : Pm G own cc nL K (pc + 3) ls (.ref (ad G q) :: st) f l) : Pm G own cc nL K pc ls (.ref (ad G k) :: st) f l := P.getr (j := 5) (T := TX10) rfl inX10 hy (by decide) hk (by decide) rfl hr hl hd kk
theorem g_X10_isKept {q : Nat} (hy : lay k = (10, 36)) (hk : k < 114) (hr : refT k 6 = some q) (hl : Cond.fieldLink own i RX10 "isKept" "[Z" ∈ lw_tbl) (hd : decode cc pc = .ok (.getfield i, 3)) (kk : Pm G own cc nL K (pc + 3) ls (.ref (ad G q) :: st) f l) : Pm G own cc nL K pc ls (.ref (ad G k) :: st) f l := P.getr (j := 6) (T := TX10) rfl inX10 hy (by decide) hk (by decide) rfl hr hl hd kk
theorem g_X10_isThere {q : Nat} (hy : lay k = (10, 36)) (hk : k < 114) (hr : refT k 7 = some q) (hl : Cond.fieldLink own i RX10 "isThere" "[Z" ∈ lw_tbl) (hd : decode cc pc = .ok (.getfield i, 3)) (kk : Pm G own cc nL K (pc + 3) ls (.ref (ad G q) :: st) f l) : Pm G own cc nL K pc ls (.ref (ad G k) :: st) f l := P.getr (j := 7) (T := TX10) rfl inX10 hy (by decide) hk (by decide) rfl hr hl hd kk
theorem g_X10_told {q : Nat} (hy : lay k = (10, 36)) (hk : k < 114) (hr : refT k 8 = some q) (hl : Cond.fieldLink own i RX10 "told" "[J" ∈ lw_tbl) (hd : decode cc pc = .ok (.getfield i, 3)) (kk : Pm G own cc nL K (pc + 3) ls (.ref (ad G q) :: st) f l) : Pm G own cc nL K pc ls (.ref (ad G k) :: st) f l := P.getr (j := 8) (T := TX10) rfl inX10 hy (by decide) hk (by decide) rfl hr hl hd kk
theorem g_X10_laws (hy : lay k = (10, 36)) (hk : k < 114) (hl : Cond.fieldLink own i RX10 "laws" "I" ∈ lw_tbl) (hd : decode cc pc = .ok (.getfield i, 3)) (kk : Pm G own cc nL K (pc + 3) ls (.int (nI (f k 9)) :: st) f l) : Pm G own cc nL K pc ls (.ref (ad G k) :: st) f l := P.geti (j := 9) (T := TX10) rfl inX10 hy (by decide) hk (by decide) rfl hl hd kk
theorem p_X10_laws {x : Int32} {a : Nat} (hy : lay k = (10, 36)) (hk : k < 114) (hl : Cond.fieldLink own i RX10 "laws" "I" ∈ lw_tbl) (hd : decode cc pc = .ok (.putfield i, 3)) (hx : x = nI a) (kk : Pm G own cc nL K (pc + 3) ls st (uf f k 9 a) l) : Pm G own cc nL K pc ls (.int x :: .ref (ad G k) :: st) f l := P.puti (j := 9) (T := TX10) tyX10 tyX10_ok nmX10 rfl inX10 hy (by decide) hk (by decide) rfl (tyX10_ok 9 (by decide)) rfl hl hd hx (Or.inl rfl) kk
theorem g_X10_kind {q : Nat} (hy : lay k = (10, 36)) (hk : k < 114) (hr : refT k 10 = some q) (hl : Cond.fieldLink own i RX10 "kind" "[I" ∈ lw_tbl) (hd : decode cc pc = .ok (.getfield i, 3)) (kk : Pm G own cc nL K (pc + 3) ls (.ref (ad G q) :: st) f l) : Pm G own cc nL K pc ls (.ref (ad G k) :: st) f l := P.getr (j := 10) (T := TX10) rfl inX10 hy (by decide) hk (by decide) rfl hr hl hd kk
theorem g_X10_lawTable {q : Nat} (hy : lay k = (10, 36)) (hk : k < 114) (hr : refT k 11 = some q) (hl : Cond.fieldLink own i RX10 "lawTable" "[I" ∈ lw_tbl) (hd : decode cc pc = .ok (.getfield i, 3)) (kk : Pm G own cc nL K (pc + 3) ls (.ref (ad G q) :: st) f l) : Pm G own cc nL K pc ls (.ref (ad G k) :: st) f l := P.getr (j := 11) (T := TX10) rfl inX10 hy (by decide) hk (by decide) rfl hr hl hd kk
theorem g_X10_colA {q : Nat} (hy : lay k = (10, 36)) (hk : k < 114) (hr : refT k 12 = some q) (hl : Cond.fieldLink own i RX10 "colA" "[I" ∈ lw_tbl) (hd : decode cc pc = .ok (.getfield i, 3)) (kk : Pm G own cc nL K (pc + 3) ls (.ref (ad G q) :: st) f l) : Pm G own cc nL K pc ls (.ref (ad G k) :: st) f l := P.getr (j := 12) (T := TX10) rfl inX10 hy (by decide) hk (by decide) rfl hr hl hd kk
theorem g_X10_colB {q : Nat} (hy : lay k = (10, 36)) (hk : k < 114) (hr : refT k 13 = some q) (hl : Cond.fieldLink own i RX10 "colB" "[I" ∈ lw_tbl) (hd : decode cc pc = .ok (.getfield i, 3)) (kk : Pm G own cc nL K (pc + 3) ls (.ref (ad G q) :: st) f l) : Pm G own cc nL K pc ls (.ref (ad G k) :: st) f l := P.getr (j := 13) (T := TX10) rfl inX10 hy (by decide) hk (by decide) rfl hr hl hd kk
theorem g_X10_lawOther {q : Nat} (hy : lay k = (10, 36)) (hk : k < 114) (hr : refT k 14 = some q) (hl : Cond.fieldLink own i RX10 "lawOther" "[I" ∈ lw_tbl) (hd : decode cc pc = .ok (.getfield i, 3)) (kk : Pm G own cc nL K (pc + 3) ls (.ref (ad G q) :: st) f l) : Pm G own cc nL K pc ls (.ref (ad G k) :: st) f l := P.getr (j := 14) (T := TX10) rfl inX10 hy (by decide) hk (by decide) rfl hr hl hd kk
theorem g_X10_numC {q : Nat} (hy : lay k = (10, 36)) (hk : k < 114) (hr : refT k 15 = some q) (hl : Cond.fieldLink own i RX10 "numC" "[J" ∈ lw_tbl) (hd : decode cc pc = .ok (.getfield i, 3)) (kk : Pm G own cc nL K (pc + 3) ls (.ref (ad G q) :: st) f l) : Pm G own cc nL K pc ls (.ref (ad G k) :: st) f l := P.getr (j := 15) (T := TX10) rfl inX10 hy (by decide) hk (by decide) rfl hr hl hd kk
theorem g_X10_numD {q : Nat} (hy : lay k = (10, 36)) (hk : k < 114) (hr : refT k 16 = some q) (hl : Cond.fieldLink own i RX10 "numD" "[J" ∈ lw_tbl) (hd : decode cc pc = .ok (.getfield i, 3)) (kk : Pm G own cc nL K (pc + 3) ls (.ref (ad G q) :: st) f l) : Pm G own cc nL K pc ls (.ref (ad G k) :: st) f l := P.getr (j := 16) (T := TX10) rfl inX10 hy (by decide) hk (by decide) rfl hr hl hd kk
theorem g_X10_isInForce {q : Nat} (hy : lay k = (10, 36)) (hk : k < 114) (hr : refT k 17 = some q) (hl : Cond.fieldLink own i RX10 "isInForce" "[Z" ∈ lw_tbl) (hd : decode cc pc = .ok (.getfield i, 3)) (kk : Pm G own cc nL K (pc + 3) ls (.ref (ad G q) :: st) f l) : Pm G own cc nL K pc ls (.ref (ad G k) :: st) f l := P.getr (j := 17) (T := TX10) rfl inX10 hy (by decide) hk (by decide) rfl hr hl hd kk
theorem g_X10_findings (hy : lay k = (10, 36)) (hk : k < 114) (hl : Cond.fieldLink own i RX10 "findings" "I" ∈ lw_tbl) (hd : decode cc pc = .ok (.getfield i, 3)) (kk : Pm G own cc nL K (pc + 3) ls (.int (nI (f k 18)) :: st) f l) : Pm G own cc nL K pc ls (.ref (ad G k) :: st) f l := P.geti (j := 18) (T := TX10) rfl inX10 hy (by decide) hk (by decide) rfl hl hd kk
theorem p_X10_findings {x : Int32} {a : Nat} (hy : lay k = (10, 36)) (hk : k < 114) (hl : Cond.fieldLink own i RX10 "findings" "I" ∈ lw_tbl) (hd : decode cc pc = .ok (.putfield i, 3)) (hx : x = nI a) (kk : Pm G own cc nL K (pc + 3) ls st (uf f k 18 a) l) : Pm G own cc nL K pc ls (.int x :: .ref (ad G k) :: st) f l := P.puti (j := 18) (T := TX10) tyX10 tyX10_ok nmX10 rfl inX10 hy (by decide) hk (by decide) rfl (tyX10_ok 18 (by decide)) rfl hl hd hx (Or.inl rfl) kk
theorem g_X10_parts (hy : lay k = (10, 36)) (hk : k < 114) (hl : Cond.fieldLink own i RX10 "parts" "I" ∈ lw_tbl) (hd : decode cc pc = .ok (.getfield i, 3)) (kk : Pm G own cc nL K (pc + 3) ls (.int (nI (f k 19)) :: st) f l) : Pm G own cc nL K pc ls (.ref (ad G k) :: st) f l := P.geti (j := 19) (T := TX10) rfl inX10 hy (by decide) hk (by decide) rfl hl hd kk
theorem p_X10_parts {x : Int32} {a : Nat} (hy : lay k = (10, 36)) (hk : k < 114) (hl : Cond.fieldLink own i RX10 "parts" "I" ∈ lw_tbl) (hd : decode cc pc = .ok (.putfield i, 3)) (hx : x = nI a) (kk : Pm G own cc nL K (pc + 3) ls st (uf f k 19 a) l) : Pm G own cc nL K pc ls (.int x :: .ref (ad G k) :: st) f l := P.puti (j := 19) (T := TX10) tyX10 tyX10_ok nmX10 rfl inX10 hy (by decide) hk (by decide) rfl (tyX10_ok 19 (by decide)) rfl hl hd hx (Or.inl rfl) kk
theorem g_X10_partTable {q : Nat} (hy : lay k = (10, 36)) (hk : k < 114) (hr : refT k 20 = some q) (hl : Cond.fieldLink own i RX10 "partTable" "[I" ∈ lw_tbl) (hd : decode cc pc = .ok (.getfield i, 3)) (kk : Pm G own cc nL K (pc + 3) ls (.ref (ad G q) :: st) f l) : Pm G own cc nL K pc ls (.ref (ad G k) :: st) f l := P.getr (j := 20) (T := TX10) rfl inX10 hy (by decide) hk (by decide) rfl hr hl hd kk
theorem g_X10_isTold {q : Nat} (hy : lay k = (10, 36)) (hk : k < 114) (hr : refT k 21 = some q) (hl : Cond.fieldLink own i RX10 "isTold" "[Z" ∈ lw_tbl) (hd : decode cc pc = .ok (.getfield i, 3)) (kk : Pm G own cc nL K (pc + 3) ls (.ref (ad G q) :: st) f l) : Pm G own cc nL K pc ls (.ref (ad G k) :: st) f l := P.getr (j := 21) (T := TX10) rfl inX10 hy (by decide) hk (by decide) rfl hr hl hd kk
theorem g_X10_tellOf {q : Nat} (hy : lay k = (10, 36)) (hk : k < 114) (hr : refT k 22 = some q) (hl : Cond.fieldLink own i RX10 "tellOf" "[J" ∈ lw_tbl) (hd : decode cc pc = .ok (.getfield i, 3)) (kk : Pm G own cc nL K (pc + 3) ls (.ref (ad G q) :: st) f l) : Pm G own cc nL K pc ls (.ref (ad G k) :: st) f l := P.getr (j := 22) (T := TX10) rfl inX10 hy (by decide) hk (by decide) rfl hr hl hd kk
theorem g_X10_joins (hy : lay k = (10, 36)) (hk : k < 114) (hl : Cond.fieldLink own i RX10 "joins" "I" ∈ lw_tbl) (hd : decode cc pc = .ok (.getfield i, 3)) (kk : Pm G own cc nL K (pc + 3) ls (.int (nI (f k 23)) :: st) f l) : Pm G own cc nL K pc ls (.ref (ad G k) :: st) f l := P.geti (j := 23) (T := TX10) rfl inX10 hy (by decide) hk (by decide) rfl hl hd kk
theorem p_X10_joins {x : Int32} {a : Nat} (hy : lay k = (10, 36)) (hk : k < 114) (hl : Cond.fieldLink own i RX10 "joins" "I" ∈ lw_tbl) (hd : decode cc pc = .ok (.putfield i, 3)) (hx : x = nI a) (kk : Pm G own cc nL K (pc + 3) ls st (uf f k 23 a) l) : Pm G own cc nL K pc ls (.int x :: .ref (ad G k) :: st) f l := P.puti (j := 23) (T := TX10) tyX10 tyX10_ok nmX10 rfl inX10 hy (by decide) hk (by decide) rfl (tyX10_ok 23 (by decide)) rfl hl hd hx (Or.inl rfl) kk
theorem g_X10_joinP {q : Nat} (hy : lay k = (10, 36)) (hk : k < 114) (hr : refT k 24 = some q) (hl : Cond.fieldLink own i RX10 "joinP" "[I" ∈ lw_tbl) (hd : decode cc pc = .ok (.getfield i, 3)) (kk : Pm G own cc nL K (pc + 3) ls (.ref (ad G q) :: st) f l) : Pm G own cc nL K pc ls (.ref (ad G k) :: st) f l := P.getr (j := 24) (T := TX10) rfl inX10 hy (by decide) hk (by decide) rfl hr hl hd kk
theorem g_X10_joinC {q : Nat} (hy : lay k = (10, 36)) (hk : k < 114) (hr : refT k 25 = some q) (hl : Cond.fieldLink own i RX10 "joinC" "[I" ∈ lw_tbl) (hd : decode cc pc = .ok (.getfield i, 3)) (kk : Pm G own cc nL K (pc + 3) ls (.ref (ad G q) :: st) f l) : Pm G own cc nL K pc ls (.ref (ad G k) :: st) f l := P.getr (j := 25) (T := TX10) rfl inX10 hy (by decide) hk (by decide) rfl hr hl hd kk
theorem g_X10_joinQ {q : Nat} (hy : lay k = (10, 36)) (hk : k < 114) (hr : refT k 26 = some q) (hl : Cond.fieldLink own i RX10 "joinQ" "[I" ∈ lw_tbl) (hd : decode cc pc = .ok (.getfield i, 3)) (kk : Pm G own cc nL K (pc + 3) ls (.ref (ad G q) :: st) f l) : Pm G own cc nL K pc ls (.ref (ad G k) :: st) f l := P.getr (j := 26) (T := TX10) rfl inX10 hy (by decide) hk (by decide) rfl hr hl hd kk
theorem g_X10_joinD {q : Nat} (hy : lay k = (10, 36)) (hk : k < 114) (hr : refT k 27 = some q) (hl : Cond.fieldLink own i RX10 "joinD" "[I" ∈ lw_tbl) (hd : decode cc pc = .ok (.getfield i, 3)) (kk : Pm G own cc nL K (pc + 3) ls (.ref (ad G q) :: st) f l) : Pm G own cc nL K pc ls (.ref (ad G k) :: st) f l := P.getr (j := 27) (T := TX10) rfl inX10 hy (by decide) hk (by decide) rfl hr hl hd kk
theorem g_X10_isKnown (hy : lay k = (10, 36)) (hk : k < 114) (hl : Cond.fieldLink own i RX10 "isKnown" "Z" ∈ lw_tbl) (hd : decode cc pc = .ok (.getfield i, 3)) (kk : Pm G own cc nL K (pc + 3) ls (.int (nI (f k 28)) :: st) f l) : Pm G own cc nL K pc ls (.ref (ad G k) :: st) f l := P.geti (j := 28) (T := TX10) rfl inX10 hy (by decide) hk (by decide) rfl hl hd kk
theorem p_X10_isKnown {x : Int32} {a : Nat} (hy : lay k = (10, 36)) (hk : k < 114) (hl : Cond.fieldLink own i RX10 "isKnown" "Z" ∈ lw_tbl) (hd : decode cc pc = .ok (.putfield i, 3)) (hx : x = nI a) (ha : a < 2) (kk : Pm G own cc nL K (pc + 3) ls st (uf f k 28 a) l) : Pm G own cc nL K pc ls (.int x :: .ref (ad G k) :: st) f l := P.puti (j := 28) (T := TX10) tyX10 tyX10_ok nmX10 rfl inX10 hy (by decide) hk (by decide) rfl (tyX10_ok 28 (by decide)) rfl hl hd hx (Or.inr ⟨rfl, ha⟩) kk
theorem g_X10_many (hy : lay k = (10, 36)) (hk : k < 114) (hl : Cond.fieldLink own i RX10 "many" "I" ∈ lw_tbl) (hd : decode cc pc = .ok (.getfield i, 3)) (kk : Pm G own cc nL K (pc + 3) ls (.int (nI (f k 29)) :: st) f l) : Pm G own cc nL K pc ls (.ref (ad G k) :: st) f l := P.geti (j := 29) (T := TX10) rfl inX10 hy (by decide) hk (by decide) rfl hl hd kk
theorem p_X10_many {x : Int32} {a : Nat} (hy : lay k = (10, 36)) (hk : k < 114) (hl : Cond.fieldLink own i RX10 "many" "I" ∈ lw_tbl) (hd : decode cc pc = .ok (.putfield i, 3)) (hx : x = nI a) (kk : Pm G own cc nL K (pc + 3) ls st (uf f k 29 a) l) : Pm G own cc nL K pc ls (.int x :: .ref (ad G k) :: st) f l := P.puti (j := 29) (T := TX10) tyX10 tyX10_ok nmX10 rfl inX10 hy (by decide) hk (by decide) rfl (tyX10_ok 29 (by decide)) rfl hl hd hx (Or.inl rfl) kk
theorem g_X10_leastOf {q : Nat} (hy : lay k = (10, 36)) (hk : k < 114) (hr : refT k 30 = some q) (hl : Cond.fieldLink own i RX10 "leastOf" "[I" ∈ lw_tbl) (hd : decode cc pc = .ok (.getfield i, 3)) (kk : Pm G own cc nL K (pc + 3) ls (.ref (ad G q) :: st) f l) : Pm G own cc nL K pc ls (.ref (ad G k) :: st) f l := P.getr (j := 30) (T := TX10) rfl inX10 hy (by decide) hk (by decide) rfl hr hl hd kk
theorem g_X10_mendsBy {q : Nat} (hy : lay k = (10, 36)) (hk : k < 114) (hr : refT k 31 = some q) (hl : Cond.fieldLink own i RX10 "mendsBy" "[Z" ∈ lw_tbl) (hd : decode cc pc = .ok (.getfield i, 3)) (kk : Pm G own cc nL K (pc + 3) ls (.ref (ad G q) :: st) f l) : Pm G own cc nL K pc ls (.ref (ad G k) :: st) f l := P.getr (j := 31) (T := TX10) rfl inX10 hy (by decide) hk (by decide) rfl hr hl hd kk
theorem g_X10_quarrelsFound (hy : lay k = (10, 36)) (hk : k < 114) (hl : Cond.fieldLink own i RX10 "quarrelsFound" "I" ∈ lw_tbl) (hd : decode cc pc = .ok (.getfield i, 3)) (kk : Pm G own cc nL K (pc + 3) ls (.int (nI (f k 32)) :: st) f l) : Pm G own cc nL K pc ls (.ref (ad G k) :: st) f l := P.geti (j := 32) (T := TX10) rfl inX10 hy (by decide) hk (by decide) rfl hl hd kk
theorem p_X10_quarrelsFound {x : Int32} {a : Nat} (hy : lay k = (10, 36)) (hk : k < 114) (hl : Cond.fieldLink own i RX10 "quarrelsFound" "I" ∈ lw_tbl) (hd : decode cc pc = .ok (.putfield i, 3)) (hx : x = nI a) (kk : Pm G own cc nL K (pc + 3) ls st (uf f k 32 a) l) : Pm G own cc nL K pc ls (.int x :: .ref (ad G k) :: st) f l := P.puti (j := 32) (T := TX10) tyX10 tyX10_ok nmX10 rfl inX10 hy (by decide) hk (by decide) rfl (tyX10_ok 32 (by decide)) rfl hl hd hx (Or.inl rfl) kk
theorem g_X10_quarrelOf {q : Nat} (hy : lay k = (10, 36)) (hk : k < 114) (hr : refT k 33 = some q) (hl : Cond.fieldLink own i RX10 "quarrelOf" "[I" ∈ lw_tbl) (hd : decode cc pc = .ok (.getfield i, 3)) (kk : Pm G own cc nL K (pc + 3) ls (.ref (ad G q) :: st) f l) : Pm G own cc nL K pc ls (.ref (ad G k) :: st) f l := P.getr (j := 33) (T := TX10) rfl inX10 hy (by decide) hk (by decide) rfl hr hl hd kk
theorem g_X10_become {q : Nat} (hy : lay k = (10, 36)) (hk : k < 114) (hr : refT k 34 = some q) (hl : Cond.fieldLink own i RX10 "become" "[J" ∈ lw_tbl) (hd : decode cc pc = .ok (.getfield i, 3)) (kk : Pm G own cc nL K (pc + 3) ls (.ref (ad G q) :: st) f l) : Pm G own cc nL K pc ls (.ref (ad G k) :: st) f l := P.getr (j := 34) (T := TX10) rfl inX10 hy (by decide) hk (by decide) rfl hr hl hd kk
theorem g_X10_rowOf {q : Nat} (hy : lay k = (10, 36)) (hk : k < 114) (hr : refT k 35 = some q) (hl : Cond.fieldLink own i RX10 "rowOf" "[I" ∈ lw_tbl) (hd : decode cc pc = .ok (.getfield i, 3)) (kk : Pm G own cc nL K (pc + 3) ls (.ref (ad G q) :: st) f l) : Pm G own cc nL K pc ls (.ref (ad G k) :: st) f l := P.getr (j := 35) (T := TX10) rfl inX10 hy (by decide) hk (by decide) rfl hr hl hd kk
theorem a_ia {N : Nat} (hy : lay k = (11, N)) (hk : k < 114) (hi : i < N) (hN : N < 2147483648) (hd : decode cc pc = .ok (.iaload, 1)) (kk : Pm G own cc nL K (pc + 1) ls (.int (nI (f k i)) :: st) f l) : Pm G own cc nL K pc ls (.int (nI i) :: .ref (ad G k) :: st) f l := P.iald hy hk hi hN hd kk
theorem a_za {N : Nat} (hy : lay k = (13, N)) (hk : k < 114) (hi : i < N) (hN : N < 2147483648) (hd : decode cc pc = .ok (.baload, 1)) (kk : Pm G own cc nL K (pc + 1) ls (.int (nI (f k i)) :: st) f l) : Pm G own cc nL K pc ls (.int (nI i) :: .ref (ad G k) :: st) f l := P.zald hy hk hi hN hd kk
theorem a_la {N : Nat} (hy : lay k = (12, N)) (hk : k < 114) (hi : i < N) (hN : N < 2147483648) (hd : decode cc pc = .ok (.laload, 1)) (kk : Pm G own cc nL K (pc + 1) ls (.long (l k i) :: st) f l) : Pm G own cc nL K pc ls (.int (nI i) :: .ref (ad G k) :: st) f l := P.lald hy hk hi hN hd kk
theorem s_ia {N a : Nat} {x : Int32} (hy : lay k = (11, N)) (hk : k < 114) (hi : i < N) (hN : N < 2147483648) (hd : decode cc pc = .ok (.iastore, 1)) (hx : x = nI a) (kk : Pm G own cc nL K (pc + 1) ls st (uf f k i a) l) : Pm G own cc nL K pc ls (.int x :: .int (nI i) :: .ref (ad G k) :: st) f l := P.iast hy hk hi hN hx hd kk
theorem s_za {N a : Nat} {x : Int32} (hy : lay k = (13, N)) (hk : k < 114) (hi : i < N) (hN : N < 2147483648) (hd : decode cc pc = .ok (.bastore, 1)) (hx : x = nI a) (ha : a < 2) (kk : Pm G own cc nL K (pc + 1) ls st (uf f k i a) l) : Pm G own cc nL K pc ls (.int x :: .int (nI i) :: .ref (ad G k) :: st) f l := P.zast hy hk hi hN hx ha hd kk
theorem s_la {N : Nat} {x : Int64} (hy : lay k = (12, N)) (hk : k < 114) (hi : i < N) (hN : N < 2147483648) (hd : decode cc pc = .ok (.lastore, 1)) (kk : Pm G own cc nL K (pc + 1) ls st f (uf l k i x)) : Pm G own cc nL K pc ls (.long x :: .int (nI i) :: .ref (ad G k) :: st) f l := P.last hy hk hi hN hd kk
theorem n_ia {N : Nat} (hy : lay k = (11, N)) (hk : k < 114) (hd : decode cc pc = .ok (.arraylength, 1)) (kk : Pm G own cc nL K (pc + 1) ls (.int (nI N) :: st) f l) : Pm G own cc nL K pc ls (.ref (ad G k) :: st) f l :=
  fun p e s m args below meth c hM hX H locs lsA hH hS hl h1 h2 => va_alen hM.1 hM.2.1 hM.2.2.2.2.2.1.1 hH.2 k 0 (cA := G.2.2.1 0) (x := (N, .inl fun j => nI (f k j))) (by rw [wsl_get hk, cell_int hy]) rfl (v := nI N) rfl hd (kk p e s m args below meth c hM hX H locs lsA hH hS hl h1 h2)
theorem a_r0 {N q : Nat} (hy : lay k = (20, N)) (hk : k < 114) (hi : i < N) (hN : N < 2147483648) (hr : refT k i = some q) (hd : decode cc pc = .ok (.aaload, 1)) (kk : Pm G own cc nL K (pc + 1) ls (.ref (ad G q) :: st) f l) : Pm G own cc nL K pc ls (.int (nI i) :: .ref (ad G k) :: st) f l := P.aald (C := RX0) hy (by decide) (t0 := 3) rfl hk hi hN hr hd kk
theorem a_r1 {N q : Nat} (hy : lay k = (21, N)) (hk : k < 114) (hi : i < N) (hN : N < 2147483648) (hr : refT k i = some q) (hd : decode cc pc = .ok (.aaload, 1)) (kk : Pm G own cc nL K (pc + 1) ls (.ref (ad G q) :: st) f l) : Pm G own cc nL K pc ls (.int (nI i) :: .ref (ad G k) :: st) f l := P.aald (C := RX1) hy (by decide) (t0 := 4) rfl hk hi hN hr hd kk
theorem a_r4 {N q : Nat} (hy : lay k = (24, N)) (hk : k < 114) (hi : i < N) (hN : N < 2147483648) (hr : refT k i = some q) (hd : decode cc pc = .ok (.aaload, 1)) (kk : Pm G own cc nL K (pc + 1) ls (.ref (ad G q) :: st) f l) : Pm G own cc nL K pc ls (.int (nI i) :: .ref (ad G k) :: st) f l := P.aald (C := RX4) hy (by decide) (t0 := 5) rfl hk hi hN hr hd kk
theorem a_r6 {N q : Nat} (hy : lay k = (26, N)) (hk : k < 114) (hi : i < N) (hN : N < 2147483648) (hr : refT k i = some q) (hd : decode cc pc = .ok (.aaload, 1)) (kk : Pm G own cc nL K (pc + 1) ls (.ref (ad G q) :: st) f l) : Pm G own cc nL K pc ls (.int (nI i) :: .ref (ad G k) :: st) f l := P.aald (C := RX6) hy (by decide) (t0 := 6) rfl hk hi hN hr hd kk
theorem a_r8 {N q : Nat} (hy : lay k = (28, N)) (hk : k < 114) (hi : i < N) (hN : N < 2147483648) (hr : refT k i = some q) (hd : decode cc pc = .ok (.aaload, 1)) (kk : Pm G own cc nL K (pc + 1) ls (.ref (ad G q) :: st) f l) : Pm G own cc nL K pc ls (.int (nI i) :: .ref (ad G k) :: st) f l := P.aald (C := RX8) hy (by decide) (t0 := 7) rfl hk hi hN hr hd kk
end PF
