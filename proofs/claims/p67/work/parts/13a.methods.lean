/-! Each entry of the tables is sound (printed by wip/p67/gen12.py). -/
theorem zmsg85 : (85, "the input buffer is full") ∈ zMs := by decide +kernel
theorem zmsg94 : (94, "no such length") ∈ zMs := by decide +kernel
theorem zmsg97 : (97, "the text has an error") ∈ zMs := by decide +kernel
theorem zmsg117 : (117, "no error") ∈ zMs := by decide +kernel
theorem zmsg144 : (144, "no plank") ∈ zMs := by decide +kernel
theorem zmsg232 : (232, "no target") ∈ zMs := by decide +kernel
theorem zmsg246 : (246, "no light is acceptable") ∈ zMs := by decide +kernel
theorem zmsg261 : (261, "still walking") ∈ zMs := by decide +kernel
theorem zmsg269 : (269, "count is out of range") ∈ zMs := by decide +kernel
theorem zmsg271 : (271, "the time would exceed its limit") ∈ zMs := by decide +kernel
theorem zmsg276 : (276, "brightness is out of range") ∈ zMs := by decide +kernel
theorem zmsg281 : (281, "no light can be added here") ∈ zMs := by decide +kernel
theorem zmsg290 : (290, "no traveller can be added here") ∈ zMs := by decide +kernel
theorem zmsg294 : (294, "a light cannot succeed itself") ∈ zMs := by decide +kernel
theorem zmsg299 : (299, "strength is out of range") ∈ zMs := by decide +kernel
theorem zmsg301 : (301, "a plank needs water or a plank") ∈ zMs := by decide +kernel
theorem zmsg303 : (303, "clearness is out of range") ∈ zMs := by decide +kernel
theorem zmsg305 : (305, "fog is out of range") ∈ zMs := by decide +kernel
theorem zmsg308 : (308, "nothing to undo") ∈ zMs := by decide +kernel
theorem zmsg316 : (316, "the slot is empty") ∈ zMs := by decide +kernel
theorem zmsg327 : (327, "no such byte") ∈ zMs := by decide +kernel
theorem zmsg333 : (333, "no such cell") ∈ zMs := by decide +kernel
theorem zmsg335 : (335, "no such hour") ∈ zMs := by decide +kernel
theorem zmsg339 : (339, "no such light") ∈ zMs := by decide +kernel
theorem zmsg341 : (341, "no such traveller") ∈ zMs := by decide +kernel
theorem zmsg343 : (343, "no such slot") ∈ zMs := by decide +kernel
theorem zmsg345 : (345, "the traveller is not walking") ∈ zMs := by decide +kernel
theorem zmsg347 : (347, "no successor") ∈ zMs := by decide +kernel
theorem zmsg349 : (349, "no path") ∈ zMs := by decide +kernel
theorem zmsg351 : (351, "ticks is out of range") ∈ zMs := by decide +kernel
theorem tX9_thrown {L : Nat} {xs : Nat → Int32} {N : Nat} : z_AllE (zE L xs N 0) 0 (kX9_thrown N) := z_an
theorem tX9_fails {L : Nat} {xs : Nat → Int32} {N : Nat} : z_AllE (zE L xs N 1) 0 (kX9_fails N) := z_an
theorem tX9_isFailed {L : Nat} {xs : Nat → Int32} {N : Nat} : z_AllE (zE L xs N 2) 0 (kX9_isFailed N) := z_an
theorem tX9_in {L : Nat} {xs : Nat → Int32} {N : Nat} : z_AllE (zE L xs N 3) 0 (kX9_in N) := z_an
theorem tX9_layRow {L : Nat} {xs : Nat → Int32} {N : Nat} : z_AllE (zE L xs N 4) 0 (kX9_layRow N) := z_an
theorem tX9_takesSpare {L : Nat} {xs : Nat → Int32} {N : Nat} : z_AllE (zE L xs N 5) 0 (kX9_takesSpare N) := z_an
theorem tX9_cellAt {L : Nat} {xs : Nat → Int32} {N : Nat} : z_AllE (zE L xs N 6) 0 (kX9_cellAt N) := z_an
theorem tX9_lightAt {L : Nat} {xs : Nat → Int32} {N : Nat} : z_AllE (zE L xs N 7) 0 (kX9_lightAt N) := z_an
theorem tX9_walkerAt {L : Nat} {xs : Nat → Int32} {N : Nat} : z_AllE (zE L xs N 8) 0 (kX9_walkerAt N) := z_an
theorem tX9_isInside {L : Nat} {xs : Nat → Int32} {N : Nat} : z_AllE (zE L xs N 9) 0 (kX9_isInside N) := z_an
theorem tX9_isCell {L : Nat} {xs : Nat → Int32} {N : Nat} : z_AllE (zE L xs N 10) 0 (kX9_isCell N) := z_an
theorem tX9_isLight {L : Nat} {xs : Nat → Int32} {N : Nat} : z_AllE (zE L xs N 11) 0 (kX9_isLight N) := z_an
theorem tX9_isWalker {L : Nat} {xs : Nat → Int32} {N : Nat} : z_AllE (zE L xs N 12) 0 (kX9_isWalker N) := z_an
theorem tX9_placeOf {L : Nat} {xs : Nat → Int32} {N : Nat} : z_AllE (zE L xs N 13) 0 (kX9_placeOf N) := z_an
theorem tX9_columnBy {L : Nat} {xs : Nat → Int32} {N : Nat} : z_AllE (zE L xs N 14) 0 (kX9_columnBy N) := z_an
theorem tX9_rowBy {L : Nat} {xs : Nat → Int32} {N : Nat} : z_AllE (zE L xs N 15) 0 (kX9_rowBy N) := z_an
theorem tX9_clearsSteps {L : Nat} {xs : Nat → Int32} {N : Nat} : z_AllE (zE L xs N 16) 0 (kX9_clearsSteps N) := z_an
theorem tX9_reaches {L : Nat} {xs : Nat → Int32} {N : Nat} : z_AllE (zE L xs N 17) 0 (kX9_reaches N) := z_an
theorem tX9_spreads {L : Nat} {xs : Nat → Int32} {N : Nat} : z_AllE (zE L xs N 18) 0 (kX9_spreads N) := z_an
theorem tX9_spreadsTo {L : Nat} {xs : Nat → Int32} {N : Nat} : z_AllE (zE L xs N 19) 0 (kX9_spreadsTo N) := z_an
theorem tX9_spreadsToHuts {L : Nat} {xs : Nat → Int32} {N : Nat} : z_AllE (zE L xs N 20) 0 (kX9_spreadsToHuts N) := z_an
theorem tX9_stepsFrom {L : Nat} {xs : Nat → Int32} {N : Nat} : z_AllE (zE L xs N 21) 0 (kX9_stepsFrom N) := z_an
theorem tX9_stepsBy {L : Nat} {xs : Nat → Int32} {N : Nat} : z_AllE (zE L xs N 22) 0 (kX9_stepsBy N) := z_an
theorem tX9_sightOf {L : Nat} {xs : Nat → Int32} {N : Nat} : z_AllE (zE L xs N 23) 0 (kX9_sightOf N) := z_an
theorem tX9_apart {L : Nat} {xs : Nat → Int32} {N : Nat} : z_AllE (zE L xs N 24) 0 (kX9_apart N) := z_an
theorem tX9_farFrom {L : Nat} {xs : Nat → Int32} {N : Nat} : z_AllE (zE L xs N 25) 0 (kX9_farFrom N) := z_an
theorem tX9_farFromLight {L : Nat} {xs : Nat → Int32} {N : Nat} : z_AllE (zE L xs N 26) 0 (kX9_farFromLight N) := z_an
theorem tX9_isSeen {L : Nat} {xs : Nat → Int32} {N : Nat} : z_AllE (zE L xs N 27) 0 (kX9_isSeen N) := z_an
theorem tX9_has {L : Nat} {xs : Nat → Int32} {N : Nat} : z_AllE (zE L xs N 28) 0 (kX9_has N) := z_an
theorem tX9_isAcceptable {L : Nat} {xs : Nat → Int32} {N : Nat} : z_AllE (zE L xs N 29) 0 (kX9_isAcceptable N) := z_an
theorem tX9_nearestOf {L : Nat} {xs : Nat → Int32} {N : Nat} : z_AllE (zE L xs N 30) 0 (kX9_nearestOf N) := z_an
theorem tX9_lightOn {L : Nat} {xs : Nat → Int32} {N : Nat} : z_AllE (zE L xs N 31) 0 (kX9_lightOn N) := z_an
theorem tX9_isAstray {L : Nat} {xs : Nat → Int32} {N : Nat} : z_AllE (zE L xs N 32) 0 (kX9_isAstray N) := z_an
theorem tX9_forgetsTarget {L : Nat} {xs : Nat → Int32} {N : Nat} : z_AllE (zE L xs N 33) 0 (kX9_forgetsTarget N) := z_an
theorem tX9_passes {L : Nat} {xs : Nat → Int32} {N : Nat} : z_AllE (zE L xs N 34) 0 (kX9_passes N) := z_an
theorem tX9_leaves {L : Nat} {xs : Nat → Int32} {N : Nat} : z_AllE (zE L xs N 35) 0 (kX9_leaves N) := z_an
theorem tX9_isOn {L : Nat} {xs : Nat → Int32} {N : Nat} : z_AllE (zE L xs N 36) 0 (kX9_isOn N) := z_an
theorem tX9_moves {L : Nat} {xs : Nat → Int32} {N : Nat} : z_AllE (zE L xs N 37) 0 (kX9_moves N) := z_an
theorem tX9_sinks {L : Nat} {xs : Nat → Int32} {N : Nat} : z_AllE (zE L xs N 38) 0 (kX9_sinks N) := z_an
theorem tX9_goesOn {L : Nat} {xs : Nat → Int32} {N : Nat} : z_AllE (zE L xs N 39) 0 (kX9_goesOn N) := z_an
theorem tX9_acts {L : Nat} {xs : Nat → Int32} {N : Nat} : z_AllE (zE L xs N 40) 0 (kX9_acts N) := z_an
theorem tX9_ticks {L : Nat} {xs : Nat → Int32} {N : Nat} : z_AllE (zE L xs N 41) 0 (kX9_ticks N) := z_an
theorem tX9_ticksMany {L : Nat} {xs : Nat → Int32} {N : Nat} : z_AllE (zE L xs N 42) 0 (kX9_ticksMany N) := z_an
theorem tX9_countOf {L : Nat} {xs : Nat → Int32} {N : Nat} : z_AllE (zE L xs N 43) 0 (kX9_countOf N) := z_an
theorem tX9_append {L : Nat} {xs : Nat → Int32} {N : Nat} : z_AllE (zE L xs N 44) 0 (kX9_append N) := z_an
theorem tX9_shorten {L : Nat} {xs : Nat → Int32} {N : Nat} : z_AllE (zE L xs N 45) 0 (kX9_shorten N) := z_an
theorem tX9_isSmall {L : Nat} {xs : Nat → Int32} {N : Nat} : z_AllE (zE L xs N 46) 0 (kX9_isSmall N) := z_an
theorem tX9_isDigit {L : Nat} {xs : Nat → Int32} {N : Nat} : z_AllE (zE L xs N 47) 0 (kX9_isDigit N) := z_an
theorem tX9_next {L : Nat} {xs : Nat → Int32} {N : Nat} : z_AllE (zE L xs N 48) 0 (kX9_next N) := z_an
theorem tX9_nextWord {L : Nat} {xs : Nat → Int32} {N : Nat} : z_AllE (zE L xs N 49) 0 (kX9_nextWord N) := z_an
theorem tX9_nextNumber {L : Nat} {xs : Nat → Int32} {N : Nat} : z_AllE (zE L xs N 50) 0 (kX9_nextNumber N) := z_an
theorem tX9_is {L : Nat} {xs : Nat → Int32} {N : Nat} : z_AllE (zE L xs N 51) 0 (kX9_is N) := z_an
theorem tX9_takes {L : Nat} {xs : Nat → Int32} {N : Nat} : z_AllE (zE L xs N 52) 0 (kX9_takes N) := z_an
theorem tX9_takesNumber {L : Nat} {xs : Nat → Int32} {N : Nat} : z_AllE (zE L xs N 53) 0 (kX9_takesNumber N) := z_an
theorem tX9_cellOf {L : Nat} {xs : Nat → Int32} {N : Nat} : z_AllE (zE L xs N 54) 0 (kX9_cellOf N) := z_an
theorem tX9_areCells {L : Nat} {xs : Nat → Int32} {N : Nat} : z_AllE (zE L xs N 55) 0 (kX9_areCells N) := z_an
theorem tX9_readRow {L : Nat} {xs : Nat → Int32} {N : Nat} : z_AllE (zE L xs N 56) 0 (kX9_readRow N) := z_an
theorem tX9_readFog {L : Nat} {xs : Nat → Int32} {N : Nat} : z_AllE (zE L xs N 57) 0 (kX9_readFog N) := z_an
theorem tX9_readLight {L : Nat} {xs : Nat → Int32} {N : Nat} : z_AllE (zE L xs N 58) 0 (kX9_readLight N) := z_an
theorem tX9_readTraveller {L : Nat} {xs : Nat → Int32} {N : Nat} : z_AllE (zE L xs N 59) 0 (kX9_readTraveller N) := z_an
theorem tX9_addsLight {L : Nat} {xs : Nat → Int32} {N : Nat} : z_AllE (zE L xs N 60) 0 (kX9_addsLight N) := z_an
theorem tX9_addsWalker {L : Nat} {xs : Nat → Int32} {N : Nat} : z_AllE (zE L xs N 61) 0 (kX9_addsWalker N) := z_an
theorem tX9_load {L : Nat} {xs : Nat → Int32} {N : Nat} : z_AllE (zE L xs N 62) 0 (kX9_load N) := z_an
theorem tX9_readText {L : Nat} {xs : Nat → Int32} {N : Nat} : z_AllE (zE L xs N 63) 0 (kX9_readText N) := z_an
theorem tX9_hasError {L : Nat} {xs : Nat → Int32} {N : Nat} : z_AllE (zE L xs N 64) 0 (kX9_hasError N) := z_an
theorem tX9_errorOffset {L : Nat} {xs : Nat → Int32} {N : Nat} : z_AllE (zE L xs N 65) 0 (kX9_errorOffset N) := z_an
theorem tX9_width {L : Nat} {xs : Nat → Int32} {N : Nat} : z_AllE (zE L xs N 66) 0 (kX9_width N) := z_an
theorem tX9_height {L : Nat} {xs : Nat → Int32} {N : Nat} : z_AllE (zE L xs N 67) 0 (kX9_height N) := z_an
theorem tX9_isWater {L : Nat} {xs : Nat → Int32} {N : Nat} : z_AllE (zE L xs N 68) 0 (kX9_isWater N) := z_an
theorem tX9_isHut {L : Nat} {xs : Nat → Int32} {N : Nat} : z_AllE (zE L xs N 69) 0 (kX9_isHut N) := z_an
theorem tX9_isPlank {L : Nat} {xs : Nat → Int32} {N : Nat} : z_AllE (zE L xs N 70) 0 (kX9_isPlank N) := z_an
theorem tX9_plankStrength {L : Nat} {xs : Nat → Int32} {N : Nat} : z_AllE (zE L xs N 71) 0 (kX9_plankStrength N) := z_an
theorem tX9_planks {L : Nat} {xs : Nat → Int32} {N : Nat} : z_AllE (zE L xs N 72) 0 (kX9_planks N) := z_an
theorem tX9_plankCount {L : Nat} {xs : Nat → Int32} {N : Nat} : z_AllE (zE L xs N 73) 0 (kX9_plankCount N) := z_an
theorem tX9_pathLength {L : Nat} {xs : Nat → Int32} {N : Nat} : z_AllE (zE L xs N 74) 0 (kX9_pathLength N) := z_an
theorem tX9_stepsToHut {L : Nat} {xs : Nat → Int32} {N : Nat} : z_AllE (zE L xs N 75) 0 (kX9_stepsToHut N) := z_an
theorem tX9_time {L : Nat} {xs : Nat → Int32} {N : Nat} : z_AllE (zE L xs N 76) 0 (kX9_time N) := z_an
theorem tX9_clearness {L : Nat} {xs : Nat → Int32} {N : Nat} : z_AllE (zE L xs N 77) 0 (kX9_clearness N) := z_an
theorem tX9_fog {L : Nat} {xs : Nat → Int32} {N : Nat} : z_AllE (zE L xs N 78) 0 (kX9_fog N) := z_an
theorem tX9_sight {L : Nat} {xs : Nat → Int32} {N : Nat} : z_AllE (zE L xs N 79) 0 (kX9_sight N) := z_an
theorem tX9_lightCount {L : Nat} {xs : Nat → Int32} {N : Nat} : z_AllE (zE L xs N 80) 0 (kX9_lightCount N) := z_an
theorem tX9_lightNumber {L : Nat} {xs : Nat → Int32} {N : Nat} : z_AllE (zE L xs N 81) 0 (kX9_lightNumber N) := z_an
theorem tX9_lightColumn {L : Nat} {xs : Nat → Int32} {N : Nat} : z_AllE (zE L xs N 82) 0 (kX9_lightColumn N) := z_an
theorem tX9_lightRow {L : Nat} {xs : Nat → Int32} {N : Nat} : z_AllE (zE L xs N 83) 0 (kX9_lightRow N) := z_an
theorem tX9_brightness {L : Nat} {xs : Nat → Int32} {N : Nat} : z_AllE (zE L xs N 84) 0 (kX9_brightness N) := z_an
theorem tX9_isTrueLight {L : Nat} {xs : Nat → Int32} {N : Nat} : z_AllE (zE L xs N 85) 0 (kX9_isTrueLight N) := z_an
theorem tX9_hasSuccessor {L : Nat} {xs : Nat → Int32} {N : Nat} : z_AllE (zE L xs N 86) 0 (kX9_hasSuccessor N) := z_an
theorem tX9_successor {L : Nat} {xs : Nat → Int32} {N : Nat} : z_AllE (zE L xs N 87) 0 (kX9_successor N) := z_an
theorem tX9_followers {L : Nat} {xs : Nat → Int32} {N : Nat} : z_AllE (zE L xs N 88) 0 (kX9_followers N) := z_an
theorem tX9_leadsAstray {L : Nat} {xs : Nat → Int32} {N : Nat} : z_AllE (zE L xs N 89) 0 (kX9_leadsAstray N) := z_an
theorem tX9_travellerCount {L : Nat} {xs : Nat → Int32} {N : Nat} : z_AllE (zE L xs N 90) 0 (kX9_travellerCount N) := z_an
theorem tX9_walkerNumber {L : Nat} {xs : Nat → Int32} {N : Nat} : z_AllE (zE L xs N 91) 0 (kX9_walkerNumber N) := z_an
theorem tX9_hasState {L : Nat} {xs : Nat → Int32} {N : Nat} : z_AllE (zE L xs N 92) 0 (kX9_hasState N) := z_an
theorem tX9_travellerColumn {L : Nat} {xs : Nat → Int32} {N : Nat} : z_AllE (zE L xs N 93) 0 (kX9_travellerColumn N) := z_an
theorem tX9_travellerRow {L : Nat} {xs : Nat → Int32} {N : Nat} : z_AllE (zE L xs N 94) 0 (kX9_travellerRow N) := z_an
theorem tX9_isWalking {L : Nat} {xs : Nat → Int32} {N : Nat} : z_AllE (zE L xs N 95) 0 (kX9_isWalking N) := z_an
theorem tX9_hasArrived {L : Nat} {xs : Nat → Int32} {N : Nat} : z_AllE (zE L xs N 96) 0 (kX9_hasArrived N) := z_an
theorem tX9_hasSunk {L : Nat} {xs : Nat → Int32} {N : Nat} : z_AllE (zE L xs N 97) 0 (kX9_hasSunk N) := z_an
theorem tX9_stepsTaken {L : Nat} {xs : Nat → Int32} {N : Nat} : z_AllE (zE L xs N 98) 0 (kX9_stepsTaken N) := z_an
theorem tX9_hasTarget {L : Nat} {xs : Nat → Int32} {N : Nat} : z_AllE (zE L xs N 99) 0 (kX9_hasTarget N) := z_an
theorem tX9_target {L : Nat} {xs : Nat → Int32} {N : Nat} : z_AllE (zE L xs N 100) 0 (kX9_target N) := z_an
theorem tX9_isBoth {L : Nat} {xs : Nat → Int32} {N : Nat} : z_AllE (zE L xs N 101) 0 (kX9_isBoth N) := z_an
theorem tX9_hasPassed {L : Nat} {xs : Nat → Int32} {N : Nat} : z_AllE (zE L xs N 102) 0 (kX9_hasPassed N) := z_an
theorem tX9_distrusts {L : Nat} {xs : Nat → Int32} {N : Nat} : z_AllE (zE L xs N 103) 0 (kX9_distrusts N) := z_an
theorem tX9_sees {L : Nat} {xs : Nat → Int32} {N : Nat} : z_AllE (zE L xs N 104) 0 (kX9_sees N) := z_an
theorem tX9_nearestLight {L : Nat} {xs : Nat → Int32} {N : Nat} : z_AllE (zE L xs N 105) 0 (kX9_nearestLight N) := z_an
theorem tX9_walkingCount {L : Nat} {xs : Nat → Int32} {N : Nat} : z_AllE (zE L xs N 106) 0 (kX9_walkingCount N) := z_an
theorem tX9_arrivedCount {L : Nat} {xs : Nat → Int32} {N : Nat} : z_AllE (zE L xs N 107) 0 (kX9_arrivedCount N) := z_an
theorem tX9_sunkCount {L : Nat} {xs : Nat → Int32} {N : Nat} : z_AllE (zE L xs N 108) 0 (kX9_sunkCount N) := z_an
theorem tX9_arrivedShare {L : Nat} {xs : Nat → Int32} {N : Nat} : z_AllE (zE L xs N 109) 0 (kX9_arrivedShare N) := z_an
theorem tX9_meanSteps {L : Nat} {xs : Nat → Int32} {N : Nat} : z_AllE (zE L xs N 110) 0 (kX9_meanSteps N) := z_an
theorem tX9_ticksUntilDone {L : Nat} {xs : Nat → Int32} {N : Nat} : z_AllE (zE L xs N 111) 0 (kX9_ticksUntilDone N) := z_an
theorem tX9_willArrive {L : Nat} {xs : Nat → Int32} {N : Nat} : z_AllE (zE L xs N 112) 0 (kX9_willArrive N) := z_an
theorem tX9_countAfter {L : Nat} {xs : Nat → Int32} {N : Nat} : z_AllE (zE L xs N 113) 0 (kX9_countAfter N) := z_an
theorem tX9_arrivedAfter {L : Nat} {xs : Nat → Int32} {N : Nat} : z_AllE (zE L xs N 114) 0 (kX9_arrivedAfter N) := z_an
theorem tX9_sunkAfter {L : Nat} {xs : Nat → Int32} {N : Nat} : z_AllE (zE L xs N 115) 0 (kX9_sunkAfter N) := z_an
theorem tX9_bestClearness {L : Nat} {xs : Nat → Int32} {N : Nat} : z_AllE (zE L xs N 116) 0 (kX9_bestClearness N) := z_an
theorem tX9_keepsForUndo {L : Nat} {xs : Nat → Int32} {N : Nat} : z_AllE (zE L xs N 117) 0 (kX9_keepsForUndo N) := z_an
theorem tX9_tick {L : Nat} {xs : Nat → Int32} {N : Nat} : z_AllE (zE L xs N 118) 0 (kX9_tick N) := z_an
theorem tX9_addLight {L : Nat} {xs : Nat → Int32} {N : Nat} : z_AllE (zE L xs N 119) 0 (kX9_addLight N) := z_an
theorem tX9_addTraveller {L : Nat} {xs : Nat → Int32} {N : Nat} : z_AllE (zE L xs N 120) 0 (kX9_addTraveller N) := z_an
theorem tX9_setSuccessor {L : Nat} {xs : Nat → Int32} {N : Nat} : z_AllE (zE L xs N 121) 0 (kX9_setSuccessor N) := z_an
theorem tX9_clearSuccessor {L : Nat} {xs : Nat → Int32} {N : Nat} : z_AllE (zE L xs N 122) 0 (kX9_clearSuccessor N) := z_an
theorem tX9_layPlank {L : Nat} {xs : Nat → Int32} {N : Nat} : z_AllE (zE L xs N 123) 0 (kX9_layPlank N) := z_an
theorem tX9_setClearness {L : Nat} {xs : Nat → Int32} {N : Nat} : z_AllE (zE L xs N 124) 0 (kX9_setClearness N) := z_an
theorem tX9_setFog {L : Nat} {xs : Nat → Int32} {N : Nat} : z_AllE (zE L xs N 125) 0 (kX9_setFog N) := z_an
theorem tX9_setTarget {L : Nat} {xs : Nat → Int32} {N : Nat} : z_AllE (zE L xs N 126) 0 (kX9_setTarget N) := z_an
theorem tX9_undo {L : Nat} {xs : Nat → Int32} {N : Nat} : z_AllE (zE L xs N 127) 0 (kX9_undo N) := z_an
theorem tX9_saveSnapshot {L : Nat} {xs : Nat → Int32} {N : Nat} : z_AllE (zE L xs N 128) 0 (kX9_saveSnapshot N) := z_an
theorem tX9_restoreSnapshot {L : Nat} {xs : Nat → Int32} {N : Nat} : z_AllE (zE L xs N 129) 0 (kX9_restoreSnapshot N) := z_an
theorem tX9_puts {L : Nat} {xs : Nat → Int32} {N : Nat} : z_AllE (zE L xs N 130) 0 (kX9_puts N) := z_an
theorem tX9_walkerOn {L : Nat} {xs : Nat → Int32} {N : Nat} : z_AllE (zE L xs N 131) 0 (kX9_walkerOn N) := z_an
theorem tX9_signOf {L : Nat} {xs : Nat → Int32} {N : Nat} : z_AllE (zE L xs N 132) 0 (kX9_signOf N) := z_an
theorem tX9_print {L : Nat} {xs : Nat → Int32} {N : Nat} : z_AllE (zE L xs N 133) 0 (kX9_print N) := z_an
theorem tX9_printedByte {L : Nat} {xs : Nat → Int32} {N : Nat} : z_AllE (zE L xs N 134) 0 (kX9_printedByte N) := z_an
theorem dX1_copyFrom_0 : decode cX1_copyFrom 0 = .ok (.aload_n 0, 1) := by decide +kernel
theorem dX1_copyFrom_1 : decode cX1_copyFrom 1 = .ok (.aload_n 1, 1) := by decide +kernel
theorem dX1_copyFrom_2 : decode cX1_copyFrom 2 = .ok (.getfield 15, 3) := by decide +kernel
theorem dX1_copyFrom_5 : decode cX1_copyFrom 5 = .ok (.putfield 15, 3) := by decide +kernel
theorem dX1_copyFrom_8 : decode cX1_copyFrom 8 = .ok (.aload_n 0, 1) := by decide +kernel
theorem dX1_copyFrom_9 : decode cX1_copyFrom 9 = .ok (.aload_n 1, 1) := by decide +kernel
theorem dX1_copyFrom_10 : decode cX1_copyFrom 10 = .ok (.getfield 19, 3) := by decide +kernel
theorem dX1_copyFrom_13 : decode cX1_copyFrom 13 = .ok (.putfield 19, 3) := by decide +kernel
theorem dX1_copyFrom_16 : decode cX1_copyFrom 16 = .ok (.aload_n 1, 1) := by decide +kernel
theorem dX1_copyFrom_17 : decode cX1_copyFrom 17 = .ok (.getfield 9, 3) := by decide +kernel
theorem dX1_copyFrom_20 : decode cX1_copyFrom 20 = .ok (.aload_n 0, 1) := by decide +kernel
theorem dX1_copyFrom_21 : decode cX1_copyFrom 21 = .ok (.getfield 9, 3) := by decide +kernel
theorem dX1_copyFrom_24 : decode cX1_copyFrom 24 = .ok (.invokestatic 22, 3) := by decide +kernel
theorem dX1_copyFrom_27 : decode cX1_copyFrom 27 = .ok (.return_, 1) := by decide +kernel
theorem tX1_copyFrom {L : Nat} {xs : Nat → Int32} {N : Nat} : z_AllE (zE L xs N 135) 0 (kX1_copyFrom N) :=
  z_ac (j := 1) rfl (z_eI (sp_aload_n (q := 0) dX1_copyFrom_0 rfl rfl)) <|
  z_ac (j := 2) rfl (z_eI (sp_aload_n (q := 1) dX1_copyFrom_1 rfl rfl)) <|
  z_ac (j := 3) rfl (z_eI (sp_getf (C := RX1) (T := TX1) (Nf := 3) dX1_copyFrom_2 rfl inX1 (by decide) wf_80 rfl)) <|
  z_ac (j := 4) rfl (z_eI (sp_putI (C := RX1) (T := TX1) (Nf := 3) dX1_copyFrom_5 rfl inX1 tyX1_ok nmX1 (by decide) wf_80 rfl (by decide +kernel) rfl)) <|
  z_ac (j := 5) rfl (z_eI (sp_aload_n (q := 0) dX1_copyFrom_8 rfl rfl)) <|
  z_ac (j := 6) rfl (z_eI (sp_aload_n (q := 1) dX1_copyFrom_9 rfl rfl)) <|
  z_ac (j := 7) rfl (z_eI (sp_getf (C := RX1) (T := TX1) (Nf := 3) dX1_copyFrom_10 rfl inX1 (by decide) wf_85 rfl)) <|
  z_ac (j := 8) rfl (z_eI (sp_putI (C := RX1) (T := TX1) (Nf := 3) dX1_copyFrom_13 rfl inX1 tyX1_ok nmX1 (by decide) wf_85 rfl (by decide +kernel) rfl)) <|
  z_ac (j := 9) rfl (z_eI (sp_aload_n (q := 1) dX1_copyFrom_16 rfl rfl)) <|
  z_ac (j := 10) rfl (z_eI (sp_getf (C := RX1) (T := TX1) (Nf := 3) dX1_copyFrom_17 rfl inX1 (by decide) wf_90 rfl)) <|
  z_ac (j := 11) rfl (z_eI (sp_aload_n (q := 0) dX1_copyFrom_20 rfl rfl)) <|
  z_ac (j := 12) rfl (z_eI (sp_getf (C := RX1) (T := TX1) (Nf := 3) dX1_copyFrom_21 rfl inX1 (by decide) wf_90 rfl)) <|
  z_ac (j := 13) rfl (z_cN (host := "FalseLightMarsh") dX1_copyFrom_24 (by decide +kernel) qX8_copyNumbers (by decide +kernel) (z_sn rfl rfl) rfl) <|
  z_ac (j := 14) rfl (z_eW (sv_void dX1_copyFrom_27 rfl)) <| z_an
theorem dX1_contains_0 : decode cX1_contains 0 = .ok (.iload_n 1, 1) := by decide +kernel
theorem dX1_contains_1 : decode cX1_contains 1 = .ok (.ifCond .lt 27, 3) := by decide +kernel
theorem dX1_contains_4 : decode cX1_contains 4 = .ok (.iload_n 1, 1) := by decide +kernel
theorem dX1_contains_5 : decode cX1_contains 5 = .ok (.aload_n 0, 1) := by decide +kernel
theorem dX1_contains_6 : decode cX1_contains 6 = .ok (.getfield 15, 3) := by decide +kernel
theorem dX1_contains_9 : decode cX1_contains 9 = .ok (.if_icmp .ge 19, 3) := by decide +kernel
theorem dX1_contains_12 : decode cX1_contains 12 = .ok (.iload_n 2, 1) := by decide +kernel
theorem dX1_contains_13 : decode cX1_contains 13 = .ok (.ifCond .lt 15, 3) := by decide +kernel
theorem dX1_contains_16 : decode cX1_contains 16 = .ok (.iload_n 2, 1) := by decide +kernel
theorem dX1_contains_17 : decode cX1_contains 17 = .ok (.aload_n 0, 1) := by decide +kernel
theorem dX1_contains_18 : decode cX1_contains 18 = .ok (.getfield 19, 3) := by decide +kernel
theorem dX1_contains_21 : decode cX1_contains 21 = .ok (.if_icmp .ge 7, 3) := by decide +kernel
theorem dX1_contains_24 : decode cX1_contains 24 = .ok (.iconst 1, 1) := by decide +kernel
theorem dX1_contains_25 : decode cX1_contains 25 = .ok (.goto 4, 3) := by decide +kernel
theorem dX1_contains_28 : decode cX1_contains 28 = .ok (.iconst 0, 1) := by decide +kernel
theorem dX1_contains_29 : decode cX1_contains 29 = .ok (.ireturn, 1) := by decide +kernel
theorem tX1_contains {L : Nat} {xs : Nat → Int32} {N : Nat} : z_AllE (zE L xs N 136) 0 (kX1_contains N) :=
  z_ac (j := 1) rfl (z_eI (sp_iload_n (q := 1) dX1_contains_0 rfl rfl)) <|
  z_ac (j := 2) rfl (z_eI (sp_if_lt dX1_contains_1 rfl rfl)) <|
  z_ac (j := 3) rfl (z_eI (sp_iload_n (q := 1) dX1_contains_4 rfl rfl)) <|
  z_ac (j := 4) rfl (z_eI (sp_aload_n (q := 0) dX1_contains_5 rfl rfl)) <|
  z_ac (j := 5) rfl (z_eI (sp_getf (C := RX1) (T := TX1) (Nf := 3) dX1_contains_6 rfl inX1 (by decide) wf_80 rfl)) <|
  z_ac (j := 6) rfl (z_eI (sp_icmp_ge dX1_contains_9 rfl rfl)) <|
  z_ac (j := 7) rfl (z_eI (sp_iload_n (q := 2) dX1_contains_12 rfl rfl)) <|
  z_ac (j := 8) rfl (z_eI (sp_if_lt dX1_contains_13 rfl rfl)) <|
  z_ac (j := 9) rfl (z_eI (sp_iload_n (q := 2) dX1_contains_16 rfl rfl)) <|
  z_ac (j := 10) rfl (z_eI (sp_aload_n (q := 0) dX1_contains_17 rfl rfl)) <|
  z_ac (j := 11) rfl (z_eI (sp_getf (C := RX1) (T := TX1) (Nf := 3) dX1_contains_18 rfl inX1 (by decide) wf_85 rfl)) <|
  z_ac (j := 12) rfl (z_eI (sp_icmp_ge dX1_contains_21 rfl rfl)) <|
  z_ac (j := 13) rfl (z_eI (sp_iconst dX1_contains_24 (by decide +kernel) rfl)) <|
  z_ac (j := 14) rfl (z_eI (sp_goto dX1_contains_25 rfl)) <|
  z_ac (j := 15) rfl (z_eI (sp_iconst dX1_contains_28 (by decide +kernel) rfl)) <|
  z_ac (j := 16) rfl (z_eR (sr_bool dX1_contains_29 rfl)) <| z_an
theorem dX1_holdsPlank_0 : decode cX1_holdsPlank 0 = .ok (.aload_n 0, 1) := by decide +kernel
theorem dX1_holdsPlank_1 : decode cX1_holdsPlank 1 = .ok (.getfield 9, 3) := by decide +kernel
theorem dX1_holdsPlank_4 : decode cX1_holdsPlank 4 = .ok (.iload_n 1, 1) := by decide +kernel
theorem dX1_holdsPlank_5 : decode cX1_holdsPlank 5 = .ok (.iaload, 1) := by decide +kernel
theorem dX1_holdsPlank_6 : decode cX1_holdsPlank 6 = .ok (.ifCond .le 18, 3) := by decide +kernel
theorem dX1_holdsPlank_9 : decode cX1_holdsPlank 9 = .ok (.aload_n 0, 1) := by decide +kernel
theorem dX1_holdsPlank_10 : decode cX1_holdsPlank 10 = .ok (.getfield 9, 3) := by decide +kernel
theorem dX1_holdsPlank_13 : decode cX1_holdsPlank 13 = .ok (.iload_n 1, 1) := by decide +kernel
theorem dX1_holdsPlank_14 : decode cX1_holdsPlank 14 = .ok (.iaload, 1) := by decide +kernel
theorem dX1_holdsPlank_15 : decode cX1_holdsPlank 15 = .ok (.bipush 9, 2) := by decide +kernel
theorem dX1_holdsPlank_17 : decode cX1_holdsPlank 17 = .ok (.if_icmp .gt 7, 3) := by decide +kernel
theorem dX1_holdsPlank_20 : decode cX1_holdsPlank 20 = .ok (.iconst 1, 1) := by decide +kernel
theorem dX1_holdsPlank_21 : decode cX1_holdsPlank 21 = .ok (.goto 4, 3) := by decide +kernel
theorem dX1_holdsPlank_24 : decode cX1_holdsPlank 24 = .ok (.iconst 0, 1) := by decide +kernel
theorem dX1_holdsPlank_25 : decode cX1_holdsPlank 25 = .ok (.ireturn, 1) := by decide +kernel
theorem tX1_holdsPlank {L : Nat} {xs : Nat → Int32} {N : Nat} : z_AllE (zE L xs N 137) 0 (kX1_holdsPlank N) :=
  z_ac (j := 1) rfl (z_eI (sp_aload_n (q := 0) dX1_holdsPlank_0 rfl rfl)) <|
  z_ac (j := 2) rfl (z_eI (sp_getf (C := RX1) (T := TX1) (Nf := 3) dX1_holdsPlank_1 rfl inX1 (by decide) wf_90 rfl)) <|
  z_ac (j := 3) rfl (z_eI (sp_iload_n (q := 1) dX1_holdsPlank_4 rfl rfl)) <|
  z_ac (j := 4) rfl (z_eI (sp_iald dX1_holdsPlank_5 rfl)) <|
  z_ac (j := 5) rfl (z_eI (sp_if_le dX1_holdsPlank_6 rfl rfl)) <|
  z_ac (j := 6) rfl (z_eI (sp_aload_n (q := 0) dX1_holdsPlank_9 rfl rfl)) <|
  z_ac (j := 7) rfl (z_eI (sp_getf (C := RX1) (T := TX1) (Nf := 3) dX1_holdsPlank_10 rfl inX1 (by decide) wf_90 rfl)) <|
  z_ac (j := 8) rfl (z_eI (sp_iload_n (q := 1) dX1_holdsPlank_13 rfl rfl)) <|
  z_ac (j := 9) rfl (z_eI (sp_iald dX1_holdsPlank_14 rfl)) <|
  z_ac (j := 10) rfl (z_eI (sp_bipush dX1_holdsPlank_15 (by decide +kernel) rfl)) <|
  z_ac (j := 11) rfl (z_eI (sp_icmp_gt dX1_holdsPlank_17 rfl rfl)) <|
  z_ac (j := 12) rfl (z_eI (sp_iconst dX1_holdsPlank_20 (by decide +kernel) rfl)) <|
  z_ac (j := 13) rfl (z_eI (sp_goto dX1_holdsPlank_21 rfl)) <|
  z_ac (j := 14) rfl (z_eI (sp_iconst dX1_holdsPlank_24 (by decide +kernel) rfl)) <|
  z_ac (j := 15) rfl (z_eR (sr_bool dX1_holdsPlank_25 rfl)) <| z_an
theorem dX1_takesTraveller_0 : decode cX1_takesTraveller 0 = .ok (.aload_n 0, 1) := by decide +kernel
theorem dX1_takesTraveller_1 : decode cX1_takesTraveller 1 = .ok (.getfield 9, 3) := by decide +kernel
theorem dX1_takesTraveller_4 : decode cX1_takesTraveller 4 = .ok (.iload_n 1, 1) := by decide +kernel
theorem dX1_takesTraveller_5 : decode cX1_takesTraveller 5 = .ok (.iaload, 1) := by decide +kernel
theorem dX1_takesTraveller_6 : decode cX1_takesTraveller 6 = .ok (.ifCond .eq 18, 3) := by decide +kernel
theorem dX1_takesTraveller_9 : decode cX1_takesTraveller 9 = .ok (.aload_n 0, 1) := by decide +kernel
theorem dX1_takesTraveller_10 : decode cX1_takesTraveller 10 = .ok (.getfield 9, 3) := by decide +kernel
theorem dX1_takesTraveller_13 : decode cX1_takesTraveller 13 = .ok (.iload_n 1, 1) := by decide +kernel
theorem dX1_takesTraveller_14 : decode cX1_takesTraveller 14 = .ok (.iaload, 1) := by decide +kernel
theorem dX1_takesTraveller_15 : decode cX1_takesTraveller 15 = .ok (.bipush 11, 2) := by decide +kernel
theorem dX1_takesTraveller_17 : decode cX1_takesTraveller 17 = .ok (.if_icmp .eq 7, 3) := by decide +kernel
theorem dX1_takesTraveller_20 : decode cX1_takesTraveller 20 = .ok (.iconst 1, 1) := by decide +kernel
theorem dX1_takesTraveller_21 : decode cX1_takesTraveller 21 = .ok (.goto 4, 3) := by decide +kernel
theorem dX1_takesTraveller_24 : decode cX1_takesTraveller 24 = .ok (.iconst 0, 1) := by decide +kernel
theorem dX1_takesTraveller_25 : decode cX1_takesTraveller 25 = .ok (.ireturn, 1) := by decide +kernel
theorem tX1_takesTraveller {L : Nat} {xs : Nat → Int32} {N : Nat} : z_AllE (zE L xs N 138) 0 (kX1_takesTraveller N) :=
  z_ac (j := 1) rfl (z_eI (sp_aload_n (q := 0) dX1_takesTraveller_0 rfl rfl)) <|
  z_ac (j := 2) rfl (z_eI (sp_getf (C := RX1) (T := TX1) (Nf := 3) dX1_takesTraveller_1 rfl inX1 (by decide) wf_90 rfl)) <|
  z_ac (j := 3) rfl (z_eI (sp_iload_n (q := 1) dX1_takesTraveller_4 rfl rfl)) <|
  z_ac (j := 4) rfl (z_eI (sp_iald dX1_takesTraveller_5 rfl)) <|
  z_ac (j := 5) rfl (z_eI (sp_if_eq dX1_takesTraveller_6 rfl rfl)) <|
  z_ac (j := 6) rfl (z_eI (sp_aload_n (q := 0) dX1_takesTraveller_9 rfl rfl)) <|
  z_ac (j := 7) rfl (z_eI (sp_getf (C := RX1) (T := TX1) (Nf := 3) dX1_takesTraveller_10 rfl inX1 (by decide) wf_90 rfl)) <|
  z_ac (j := 8) rfl (z_eI (sp_iload_n (q := 1) dX1_takesTraveller_13 rfl rfl)) <|
  z_ac (j := 9) rfl (z_eI (sp_iald dX1_takesTraveller_14 rfl)) <|
  z_ac (j := 10) rfl (z_eI (sp_bipush dX1_takesTraveller_15 (by decide +kernel) rfl)) <|
  z_ac (j := 11) rfl (z_eI (sp_icmp_eq dX1_takesTraveller_17 rfl rfl)) <|
  z_ac (j := 12) rfl (z_eI (sp_iconst dX1_takesTraveller_20 (by decide +kernel) rfl)) <|
  z_ac (j := 13) rfl (z_eI (sp_goto dX1_takesTraveller_21 rfl)) <|
  z_ac (j := 14) rfl (z_eI (sp_iconst dX1_takesTraveller_24 (by decide +kernel) rfl)) <|
  z_ac (j := 15) rfl (z_eR (sr_bool dX1_takesTraveller_25 rfl)) <| z_an
theorem dX1_countPlanks_0 : decode cX1_countPlanks 0 = .ok (.iconst 0, 1) := by decide +kernel
theorem dX1_countPlanks_1 : decode cX1_countPlanks 1 = .ok (.istore_n 1, 1) := by decide +kernel
theorem dX1_countPlanks_2 : decode cX1_countPlanks 2 = .ok (.iconst 0, 1) := by decide +kernel
theorem dX1_countPlanks_3 : decode cX1_countPlanks 3 = .ok (.istore_n 2, 1) := by decide +kernel
theorem dX1_countPlanks_4 : decode cX1_countPlanks 4 = .ok (.iload_n 2, 1) := by decide +kernel
theorem dX1_countPlanks_5 : decode cX1_countPlanks 5 = .ok (.aload_n 0, 1) := by decide +kernel
theorem dX1_countPlanks_6 : decode cX1_countPlanks 6 = .ok (.getfield 19, 3) := by decide +kernel
theorem dX1_countPlanks_9 : decode cX1_countPlanks 9 = .ok (.if_icmp .ge 40, 3) := by decide +kernel
theorem dX1_countPlanks_12 : decode cX1_countPlanks 12 = .ok (.iconst 0, 1) := by decide +kernel
theorem dX1_countPlanks_13 : decode cX1_countPlanks 13 = .ok (.istore_n 3, 1) := by decide +kernel
theorem dX1_countPlanks_14 : decode cX1_countPlanks 14 = .ok (.iload_n 3, 1) := by decide +kernel
theorem dX1_countPlanks_15 : decode cX1_countPlanks 15 = .ok (.aload_n 0, 1) := by decide +kernel
theorem dX1_countPlanks_16 : decode cX1_countPlanks 16 = .ok (.getfield 15, 3) := by decide +kernel
theorem dX1_countPlanks_19 : decode cX1_countPlanks 19 = .ok (.if_icmp .ge 24, 3) := by decide +kernel
theorem dX1_countPlanks_22 : decode cX1_countPlanks 22 = .ok (.aload_n 0, 1) := by decide +kernel
theorem dX1_countPlanks_23 : decode cX1_countPlanks 23 = .ok (.iload_n 3, 1) := by decide +kernel
theorem dX1_countPlanks_24 : decode cX1_countPlanks 24 = .ok (.iload_n 2, 1) := by decide +kernel
theorem dX1_countPlanks_25 : decode cX1_countPlanks 25 = .ok (.invokestatic 26, 3) := by decide +kernel
theorem dX1_countPlanks_28 : decode cX1_countPlanks 28 = .ok (.invokevirtual 30, 3) := by decide +kernel
theorem dX1_countPlanks_31 : decode cX1_countPlanks 31 = .ok (.ifCond .eq 6, 3) := by decide +kernel
theorem dX1_countPlanks_34 : decode cX1_countPlanks 34 = .ok (.iinc 1 1, 3) := by decide +kernel
theorem dX1_countPlanks_37 : decode cX1_countPlanks 37 = .ok (.iinc 3 1, 3) := by decide +kernel
theorem dX1_countPlanks_40 : decode cX1_countPlanks 40 = .ok (.goto (-26), 3) := by decide +kernel
theorem dX1_countPlanks_43 : decode cX1_countPlanks 43 = .ok (.iinc 2 1, 3) := by decide +kernel
theorem dX1_countPlanks_46 : decode cX1_countPlanks 46 = .ok (.goto (-42), 3) := by decide +kernel
theorem dX1_countPlanks_49 : decode cX1_countPlanks 49 = .ok (.iload_n 1, 1) := by decide +kernel
theorem dX1_countPlanks_50 : decode cX1_countPlanks 50 = .ok (.ireturn, 1) := by decide +kernel
theorem tX1_countPlanks {L : Nat} {xs : Nat → Int32} {N : Nat} : z_AllE (zE L xs N 139) 0 (kX1_countPlanks N) :=
  z_ac (j := 1) rfl (z_eI (sp_iconst dX1_countPlanks_0 (by decide +kernel) rfl)) <|
  z_ac (j := 2) rfl (z_eI (sp_istore_n (q := 1) dX1_countPlanks_1 rfl (by decide) (fun _ _ => rfl) rfl)) <|
  z_ac (j := 3) rfl (z_eI (sp_iconst dX1_countPlanks_2 (by decide +kernel) rfl)) <|
  z_ac (j := 4) rfl (z_eI (sp_istore_n (q := 2) dX1_countPlanks_3 rfl (by decide) (fun _ _ => rfl) rfl)) <|
  z_ac (j := 5) rfl (z_eI (sp_iload_n (q := 2) dX1_countPlanks_4 rfl rfl)) <|
  z_ac (j := 6) rfl (z_eI (sp_aload_n (q := 0) dX1_countPlanks_5 rfl rfl)) <|
  z_ac (j := 7) rfl (z_eI (sp_getf (C := RX1) (T := TX1) (Nf := 3) dX1_countPlanks_6 rfl inX1 (by decide) wf_85 rfl)) <|
  z_ac (j := 8) rfl (z_eI (sp_icmp_ge dX1_countPlanks_9 rfl rfl)) <|
  z_ac (j := 9) rfl (z_eI (sp_iconst dX1_countPlanks_12 (by decide +kernel) rfl)) <|
  z_ac (j := 10) rfl (z_eI (sp_istore_n (q := 3) dX1_countPlanks_13 rfl (by decide) (fun _ _ => rfl) rfl)) <|
  z_ac (j := 11) rfl (z_eI (sp_iload_n (q := 3) dX1_countPlanks_14 rfl rfl)) <|
  z_ac (j := 12) rfl (z_eI (sp_aload_n (q := 0) dX1_countPlanks_15 rfl rfl)) <|
  z_ac (j := 13) rfl (z_eI (sp_getf (C := RX1) (T := TX1) (Nf := 3) dX1_countPlanks_16 rfl inX1 (by decide) wf_80 rfl)) <|
  z_ac (j := 14) rfl (z_eI (sp_icmp_ge dX1_countPlanks_19 rfl rfl)) <|
  z_ac (j := 15) rfl (z_eI (sp_aload_n (q := 0) dX1_countPlanks_22 rfl rfl)) <|
  z_ac (j := 16) rfl (z_eI (sp_iload_n (q := 3) dX1_countPlanks_23 rfl rfl)) <|
  z_ac (j := 17) rfl (z_eI (sp_iload_n (q := 2) dX1_countPlanks_24 rfl rfl)) <|
  z_ac (j := 18) rfl (z_cN (host := "FalseLightMarsh") dX1_countPlanks_25 (by decide +kernel) qX8_cellAt (by decide +kernel) (z_sn rfl rfl) rfl) <|
  z_ac (j := 19) rfl (z_cV dX1_countPlanks_28 wl_526 qX1_holdsPlank (by decide +kernel) ⟨_, _, rfl⟩ (z_sn rfl rfl) rfl) <|
  z_ac (j := 20) rfl (z_eI (sp_if_eq dX1_countPlanks_31 rfl rfl)) <|
  z_ac (j := 21) rfl (z_eI (sp_iinc dX1_countPlanks_34 (by decide +kernel) (by decide) (fun _ _ => rfl) rfl)) <|
  z_ac (j := 22) rfl (z_eI (sp_iinc dX1_countPlanks_37 (by decide +kernel) (by decide) (fun _ _ => rfl) rfl)) <|
  z_ac (j := 23) rfl (z_eI (sp_goto dX1_countPlanks_40 rfl)) <|
  z_ac (j := 24) rfl (z_eI (sp_iinc dX1_countPlanks_43 (by decide +kernel) (by decide) (fun _ _ => rfl) rfl)) <|
  z_ac (j := 25) rfl (z_eI (sp_goto dX1_countPlanks_46 rfl)) <|
  z_ac (j := 26) rfl (z_eI (sp_iload_n (q := 1) dX1_countPlanks_49 rfl rfl)) <|
  z_ac (j := 27) rfl (z_eR (sr_int dX1_countPlanks_50 rfl)) <| z_an
theorem dX1_neighbour_0 : decode cX1_neighbour 0 = .ok (.iload_n 1, 1) := by decide +kernel
theorem dX1_neighbour_1 : decode cX1_neighbour 1 = .ok (.bipush 12, 2) := by decide +kernel
theorem dX1_neighbour_3 : decode cX1_neighbour 3 = .ok (.irem, 1) := by decide +kernel
theorem dX1_neighbour_4 : decode cX1_neighbour 4 = .ok (.getstatic 34, 3) := by decide +kernel
theorem dX1_neighbour_7 : decode cX1_neighbour 7 = .ok (.iload_n 2, 1) := by decide +kernel
theorem dX1_neighbour_8 : decode cX1_neighbour 8 = .ok (.iaload, 1) := by decide +kernel
theorem dX1_neighbour_9 : decode cX1_neighbour 9 = .ok (.iadd, 1) := by decide +kernel
theorem dX1_neighbour_10 : decode cX1_neighbour 10 = .ok (.istore_n 3, 1) := by decide +kernel
theorem dX1_neighbour_11 : decode cX1_neighbour 11 = .ok (.iload_n 1, 1) := by decide +kernel
theorem dX1_neighbour_12 : decode cX1_neighbour 12 = .ok (.bipush 12, 2) := by decide +kernel
theorem dX1_neighbour_14 : decode cX1_neighbour 14 = .ok (.idiv, 1) := by decide +kernel
theorem dX1_neighbour_15 : decode cX1_neighbour 15 = .ok (.getstatic 37, 3) := by decide +kernel
theorem dX1_neighbour_18 : decode cX1_neighbour 18 = .ok (.iload_n 2, 1) := by decide +kernel
theorem dX1_neighbour_19 : decode cX1_neighbour 19 = .ok (.iaload, 1) := by decide +kernel
theorem dX1_neighbour_20 : decode cX1_neighbour 20 = .ok (.iadd, 1) := by decide +kernel
theorem dX1_neighbour_21 : decode cX1_neighbour 21 = .ok (.istore 4, 2) := by decide +kernel
theorem dX1_neighbour_23 : decode cX1_neighbour 23 = .ok (.iload_n 3, 1) := by decide +kernel
theorem dX1_neighbour_24 : decode cX1_neighbour 24 = .ok (.ifCond .lt 29, 3) := by decide +kernel
theorem dX1_neighbour_27 : decode cX1_neighbour 27 = .ok (.iload_n 3, 1) := by decide +kernel
theorem dX1_neighbour_28 : decode cX1_neighbour 28 = .ok (.aload_n 0, 1) := by decide +kernel
theorem dX1_neighbour_29 : decode cX1_neighbour 29 = .ok (.getfield 15, 3) := by decide +kernel
theorem dX1_neighbour_32 : decode cX1_neighbour 32 = .ok (.if_icmp .ge 21, 3) := by decide +kernel
theorem dX1_neighbour_35 : decode cX1_neighbour 35 = .ok (.iload 4, 2) := by decide +kernel
theorem dX1_neighbour_37 : decode cX1_neighbour 37 = .ok (.ifCond .lt 16, 3) := by decide +kernel
theorem dX1_neighbour_40 : decode cX1_neighbour 40 = .ok (.iload 4, 2) := by decide +kernel
theorem dX1_neighbour_42 : decode cX1_neighbour 42 = .ok (.aload_n 0, 1) := by decide +kernel
theorem dX1_neighbour_43 : decode cX1_neighbour 43 = .ok (.getfield 19, 3) := by decide +kernel
theorem dX1_neighbour_46 : decode cX1_neighbour 46 = .ok (.if_icmp .ge 7, 3) := by decide +kernel
theorem dX1_neighbour_49 : decode cX1_neighbour 49 = .ok (.iconst 1, 1) := by decide +kernel
theorem dX1_neighbour_50 : decode cX1_neighbour 50 = .ok (.goto 4, 3) := by decide +kernel
theorem dX1_neighbour_53 : decode cX1_neighbour 53 = .ok (.iconst 0, 1) := by decide +kernel
theorem dX1_neighbour_54 : decode cX1_neighbour 54 = .ok (.istore 5, 2) := by decide +kernel
theorem dX1_neighbour_56 : decode cX1_neighbour 56 = .ok (.iload 5, 2) := by decide +kernel
theorem dX1_neighbour_58 : decode cX1_neighbour 58 = .ok (.ifCond .eq 13, 3) := by decide +kernel
theorem dX1_neighbour_61 : decode cX1_neighbour 61 = .ok (.iload 4, 2) := by decide +kernel
theorem dX1_neighbour_63 : decode cX1_neighbour 63 = .ok (.bipush 12, 2) := by decide +kernel
theorem dX1_neighbour_65 : decode cX1_neighbour 65 = .ok (.imul, 1) := by decide +kernel
theorem dX1_neighbour_66 : decode cX1_neighbour 66 = .ok (.iload_n 3, 1) := by decide +kernel
theorem dX1_neighbour_67 : decode cX1_neighbour 67 = .ok (.iadd, 1) := by decide +kernel
theorem dX1_neighbour_68 : decode cX1_neighbour 68 = .ok (.goto 4, 3) := by decide +kernel
theorem dX1_neighbour_71 : decode cX1_neighbour 71 = .ok (.iconst (-1), 1) := by decide +kernel
theorem dX1_neighbour_72 : decode cX1_neighbour 72 = .ok (.ireturn, 1) := by decide +kernel
theorem tX1_neighbour {L : Nat} {xs : Nat → Int32} {N : Nat} : z_AllE (zE L xs N 140) 0 (kX1_neighbour N) :=
  z_ac (j := 1) rfl (z_eI (sp_iload_n (q := 1) dX1_neighbour_0 rfl rfl)) <|
  z_ac (j := 2) rfl (z_eI (sp_bipush dX1_neighbour_1 (by decide +kernel) rfl)) <|
  z_ac (j := 3) rfl (z_eI (sp_irem dX1_neighbour_3 rfl)) <|
  z_ac (j := 4) rfl (z_eI (sp_stepX dX1_neighbour_4 (by decide +kernel) rfl)) <|
  z_ac (j := 5) rfl (z_eI (sp_iload_n (q := 2) dX1_neighbour_7 rfl rfl)) <|
  z_ac (j := 6) rfl (z_eI (sp_cald dX1_neighbour_8 rfl)) <|
  z_ac (j := 7) rfl (z_eI (sp_iadd dX1_neighbour_9 rfl)) <|
  z_ac (j := 8) rfl (z_eI (sp_istore_n (q := 3) dX1_neighbour_10 rfl (by decide) (fun _ _ => rfl) rfl)) <|
  z_ac (j := 9) rfl (z_eI (sp_iload_n (q := 1) dX1_neighbour_11 rfl rfl)) <|
  z_ac (j := 10) rfl (z_eI (sp_bipush dX1_neighbour_12 (by decide +kernel) rfl)) <|
  z_ac (j := 11) rfl (z_eI (sp_idiv dX1_neighbour_14 rfl)) <|
  z_ac (j := 12) rfl (z_eI (sp_stepY dX1_neighbour_15 (by decide +kernel) rfl)) <|
  z_ac (j := 13) rfl (z_eI (sp_iload_n (q := 2) dX1_neighbour_18 rfl rfl)) <|
  z_ac (j := 14) rfl (z_eI (sp_cald dX1_neighbour_19 rfl)) <|
  z_ac (j := 15) rfl (z_eI (sp_iadd dX1_neighbour_20 rfl)) <|
  z_ac (j := 16) rfl (z_eI (sp_istore dX1_neighbour_21 (by decide) (fun _ _ => rfl) rfl)) <|
  z_ac (j := 17) rfl (z_eI (sp_iload_n (q := 3) dX1_neighbour_23 rfl rfl)) <|
  z_ac (j := 18) rfl (z_eI (sp_if_lt dX1_neighbour_24 rfl rfl)) <|
  z_ac (j := 19) rfl (z_eI (sp_iload_n (q := 3) dX1_neighbour_27 rfl rfl)) <|
  z_ac (j := 20) rfl (z_eI (sp_aload_n (q := 0) dX1_neighbour_28 rfl rfl)) <|
  z_ac (j := 21) rfl (z_eI (sp_getf (C := RX1) (T := TX1) (Nf := 3) dX1_neighbour_29 rfl inX1 (by decide) wf_80 rfl)) <|
  z_ac (j := 22) rfl (z_eI (sp_icmp_ge dX1_neighbour_32 rfl rfl)) <|
  z_ac (j := 23) rfl (z_eI (sp_iload dX1_neighbour_35 rfl)) <|
  z_ac (j := 24) rfl (z_eI (sp_if_lt dX1_neighbour_37 rfl rfl)) <|
  z_ac (j := 25) rfl (z_eI (sp_iload dX1_neighbour_40 rfl)) <|
  z_ac (j := 26) rfl (z_eI (sp_aload_n (q := 0) dX1_neighbour_42 rfl rfl)) <|
  z_ac (j := 27) rfl (z_eI (sp_getf (C := RX1) (T := TX1) (Nf := 3) dX1_neighbour_43 rfl inX1 (by decide) wf_85 rfl)) <|
  z_ac (j := 28) rfl (z_eI (sp_icmp_ge dX1_neighbour_46 rfl rfl)) <|
  z_ac (j := 29) rfl (z_eI (sp_iconst dX1_neighbour_49 (by decide +kernel) rfl)) <|
  z_ac (j := 30) rfl (z_eI (sp_goto dX1_neighbour_50 rfl)) <|
  z_ac (j := 31) rfl (z_eI (sp_iconst dX1_neighbour_53 (by decide +kernel) rfl)) <|
  z_ac (j := 32) rfl (z_eI (sp_istore dX1_neighbour_54 (by decide) (fun _ _ => rfl) rfl)) <|
  z_ac (j := 33) rfl (z_eI (sp_iload dX1_neighbour_56 rfl)) <|
  z_ac (j := 34) rfl (z_eI (sp_if_eq dX1_neighbour_58 rfl rfl)) <|
  z_ac (j := 35) rfl (z_eI (sp_iload dX1_neighbour_61 rfl)) <|
  z_ac (j := 36) rfl (z_eI (sp_bipush dX1_neighbour_63 (by decide +kernel) rfl)) <|
  z_ac (j := 37) rfl (z_eI (sp_imul dX1_neighbour_65 rfl)) <|
  z_ac (j := 38) rfl (z_eI (sp_iload_n (q := 3) dX1_neighbour_66 rfl rfl)) <|
  z_ac (j := 39) rfl (z_eI (sp_iadd dX1_neighbour_67 rfl)) <|
  z_ac (j := 40) rfl (z_eI (sp_goto dX1_neighbour_68 rfl)) <|
  z_ac (j := 41) rfl (z_eI (sp_iconst dX1_neighbour_71 (by decide +kernel) rfl)) <|
  z_ac (j := 42) rfl (z_eR (sr_int dX1_neighbour_72 rfl)) <| z_an
theorem dX1_wear_0 : decode cX1_wear 0 = .ok (.aload_n 0, 1) := by decide +kernel
theorem dX1_wear_1 : decode cX1_wear 1 = .ok (.iload_n 1, 1) := by decide +kernel
theorem dX1_wear_2 : decode cX1_wear 2 = .ok (.invokevirtual 30, 3) := by decide +kernel
theorem dX1_wear_5 : decode cX1_wear 5 = .ok (.ifCond .ne 5, 3) := by decide +kernel
theorem dX1_wear_8 : decode cX1_wear 8 = .ok (.iconst 0, 1) := by decide +kernel
theorem dX1_wear_9 : decode cX1_wear 9 = .ok (.ireturn, 1) := by decide +kernel
theorem dX1_wear_10 : decode cX1_wear 10 = .ok (.aload_n 0, 1) := by decide +kernel
theorem dX1_wear_11 : decode cX1_wear 11 = .ok (.getfield 9, 3) := by decide +kernel
theorem dX1_wear_14 : decode cX1_wear 14 = .ok (.iload_n 1, 1) := by decide +kernel
theorem dX1_wear_15 : decode cX1_wear 15 = .ok (.dup2, 1) := by decide +kernel
theorem dX1_wear_16 : decode cX1_wear 16 = .ok (.iaload, 1) := by decide +kernel
theorem dX1_wear_17 : decode cX1_wear 17 = .ok (.iconst 1, 1) := by decide +kernel
theorem dX1_wear_18 : decode cX1_wear 18 = .ok (.isub, 1) := by decide +kernel
theorem dX1_wear_19 : decode cX1_wear 19 = .ok (.iastore, 1) := by decide +kernel
theorem dX1_wear_20 : decode cX1_wear 20 = .ok (.aload_n 0, 1) := by decide +kernel
theorem dX1_wear_21 : decode cX1_wear 21 = .ok (.getfield 9, 3) := by decide +kernel
theorem dX1_wear_24 : decode cX1_wear 24 = .ok (.iload_n 1, 1) := by decide +kernel
theorem dX1_wear_25 : decode cX1_wear 25 = .ok (.iaload, 1) := by decide +kernel
theorem dX1_wear_26 : decode cX1_wear 26 = .ok (.ifCond .ne 7, 3) := by decide +kernel
theorem dX1_wear_29 : decode cX1_wear 29 = .ok (.iconst 1, 1) := by decide +kernel
theorem dX1_wear_30 : decode cX1_wear 30 = .ok (.goto 4, 3) := by decide +kernel
theorem dX1_wear_33 : decode cX1_wear 33 = .ok (.iconst 0, 1) := by decide +kernel
theorem dX1_wear_34 : decode cX1_wear 34 = .ok (.ireturn, 1) := by decide +kernel
theorem tX1_wear {L : Nat} {xs : Nat → Int32} {N : Nat} : z_AllE (zE L xs N 141) 0 (kX1_wear N) :=
  z_ac (j := 1) rfl (z_eI (sp_aload_n (q := 0) dX1_wear_0 rfl rfl)) <|
  z_ac (j := 2) rfl (z_eI (sp_iload_n (q := 1) dX1_wear_1 rfl rfl)) <|
  z_ac (j := 3) rfl (z_cV dX1_wear_2 wl_526 qX1_holdsPlank (by decide +kernel) ⟨_, _, rfl⟩ (z_sn rfl rfl) rfl) <|
  z_ac (j := 4) rfl (z_eI (sp_if_ne dX1_wear_5 rfl rfl)) <|
  z_ac (j := 5) rfl (z_eI (sp_iconst dX1_wear_8 (by decide +kernel) rfl)) <|
  z_ac (j := 6) rfl (z_eR (sr_bool dX1_wear_9 rfl)) <|
  z_ac (j := 7) rfl (z_eI (sp_aload_n (q := 0) dX1_wear_10 rfl rfl)) <|
  z_ac (j := 8) rfl (z_eI (sp_getf (C := RX1) (T := TX1) (Nf := 3) dX1_wear_11 rfl inX1 (by decide) wf_90 rfl)) <|
  z_ac (j := 9) rfl (z_eI (sp_iload_n (q := 1) dX1_wear_14 rfl rfl)) <|
  z_ac (j := 10) rfl (z_eI (sp_dup2 dX1_wear_15 rfl)) <|
  z_ac (j := 11) rfl (z_eI (sp_iald dX1_wear_16 rfl)) <|
  z_ac (j := 12) rfl (z_eI (sp_iconst dX1_wear_17 (by decide +kernel) rfl)) <|
  z_ac (j := 13) rfl (z_eI (sp_isub dX1_wear_18 rfl)) <|
  z_ac (j := 14) rfl (z_eI (sp_iast dX1_wear_19 rfl)) <|
  z_ac (j := 15) rfl (z_eI (sp_aload_n (q := 0) dX1_wear_20 rfl rfl)) <|
  z_ac (j := 16) rfl (z_eI (sp_getf (C := RX1) (T := TX1) (Nf := 3) dX1_wear_21 rfl inX1 (by decide) wf_90 rfl)) <|
  z_ac (j := 17) rfl (z_eI (sp_iload_n (q := 1) dX1_wear_24 rfl rfl)) <|
  z_ac (j := 18) rfl (z_eI (sp_iald dX1_wear_25 rfl)) <|
  z_ac (j := 19) rfl (z_eI (sp_if_ne dX1_wear_26 rfl rfl)) <|
  z_ac (j := 20) rfl (z_eI (sp_iconst dX1_wear_29 (by decide +kernel) rfl)) <|
  z_ac (j := 21) rfl (z_eI (sp_goto dX1_wear_30 rfl)) <|
  z_ac (j := 22) rfl (z_eI (sp_iconst dX1_wear_33 (by decide +kernel) rfl)) <|
  z_ac (j := 23) rfl (z_eR (sr_bool dX1_wear_34 rfl)) <| z_an
theorem tX1_letterOf {L : Nat} {xs : Nat → Int32} {N : Nat} : z_AllE (zE L xs N 142) 0 (kX1_letterOf N) := z_an
theorem dX3_copyFrom_0 : decode cX3_copyFrom 0 = .ok (.aload_n 0, 1) := by decide +kernel
theorem dX3_copyFrom_1 : decode cX3_copyFrom 1 = .ok (.aload_n 1, 1) := by decide +kernel
theorem dX3_copyFrom_2 : decode cX3_copyFrom 2 = .ok (.getfield 21, 3) := by decide +kernel
theorem dX3_copyFrom_5 : decode cX3_copyFrom 5 = .ok (.putfield 21, 3) := by decide +kernel
theorem dX3_copyFrom_8 : decode cX3_copyFrom 8 = .ok (.aload_n 0, 1) := by decide +kernel
theorem dX3_copyFrom_9 : decode cX3_copyFrom 9 = .ok (.aload_n 1, 1) := by decide +kernel
theorem dX3_copyFrom_10 : decode cX3_copyFrom 10 = .ok (.getfield 25, 3) := by decide +kernel
theorem dX3_copyFrom_13 : decode cX3_copyFrom 13 = .ok (.putfield 25, 3) := by decide +kernel
theorem dX3_copyFrom_16 : decode cX3_copyFrom 16 = .ok (.aload_n 1, 1) := by decide +kernel
theorem dX3_copyFrom_17 : decode cX3_copyFrom 17 = .ok (.getfield 9, 3) := by decide +kernel
theorem dX3_copyFrom_20 : decode cX3_copyFrom 20 = .ok (.aload_n 0, 1) := by decide +kernel
theorem dX3_copyFrom_21 : decode cX3_copyFrom 21 = .ok (.getfield 9, 3) := by decide +kernel
theorem dX3_copyFrom_24 : decode cX3_copyFrom 24 = .ok (.invokestatic 28, 3) := by decide +kernel
theorem dX3_copyFrom_27 : decode cX3_copyFrom 27 = .ok (.aload_n 1, 1) := by decide +kernel
theorem dX3_copyFrom_28 : decode cX3_copyFrom 28 = .ok (.getfield 15, 3) := by decide +kernel
theorem dX3_copyFrom_31 : decode cX3_copyFrom 31 = .ok (.aload_n 0, 1) := by decide +kernel
theorem dX3_copyFrom_32 : decode cX3_copyFrom 32 = .ok (.getfield 15, 3) := by decide +kernel
theorem dX3_copyFrom_35 : decode cX3_copyFrom 35 = .ok (.invokestatic 28, 3) := by decide +kernel
theorem dX3_copyFrom_38 : decode cX3_copyFrom 38 = .ok (.aload_n 1, 1) := by decide +kernel
theorem dX3_copyFrom_39 : decode cX3_copyFrom 39 = .ok (.getfield 18, 3) := by decide +kernel
theorem dX3_copyFrom_42 : decode cX3_copyFrom 42 = .ok (.aload_n 0, 1) := by decide +kernel
theorem dX3_copyFrom_43 : decode cX3_copyFrom 43 = .ok (.getfield 18, 3) := by decide +kernel
theorem dX3_copyFrom_46 : decode cX3_copyFrom 46 = .ok (.invokestatic 28, 3) := by decide +kernel
theorem dX3_copyFrom_49 : decode cX3_copyFrom 49 = .ok (.return_, 1) := by decide +kernel
theorem tX3_copyFrom {L : Nat} {xs : Nat → Int32} {N : Nat} : z_AllE (zE L xs N 143) 0 (kX3_copyFrom N) :=
  z_ac (j := 1) rfl (z_eI (sp_aload_n (q := 0) dX3_copyFrom_0 rfl rfl)) <|
  z_ac (j := 2) rfl (z_eI (sp_aload_n (q := 1) dX3_copyFrom_1 rfl rfl)) <|
  z_ac (j := 3) rfl (z_eI (sp_getf (C := RX3) (T := TX3) (Nf := 5) dX3_copyFrom_2 rfl inX3 (by decide) wf_110 rfl)) <|
  z_ac (j := 4) rfl (z_eI (sp_putI (C := RX3) (T := TX3) (Nf := 5) dX3_copyFrom_5 rfl inX3 tyX3_ok nmX3 (by decide) wf_110 rfl (by decide +kernel) rfl)) <|
  z_ac (j := 5) rfl (z_eI (sp_aload_n (q := 0) dX3_copyFrom_8 rfl rfl)) <|
  z_ac (j := 6) rfl (z_eI (sp_aload_n (q := 1) dX3_copyFrom_9 rfl rfl)) <|
  z_ac (j := 7) rfl (z_eI (sp_getf (C := RX3) (T := TX3) (Nf := 5) dX3_copyFrom_10 rfl inX3 (by decide) wf_113 rfl)) <|
  z_ac (j := 8) rfl (z_eI (sp_putI (C := RX3) (T := TX3) (Nf := 5) dX3_copyFrom_13 rfl inX3 tyX3_ok nmX3 (by decide) wf_113 rfl (by decide +kernel) rfl)) <|
  z_ac (j := 9) rfl (z_eI (sp_aload_n (q := 1) dX3_copyFrom_16 rfl rfl)) <|
  z_ac (j := 10) rfl (z_eI (sp_getf (C := RX3) (T := TX3) (Nf := 5) dX3_copyFrom_17 rfl inX3 (by decide) wf_116 rfl)) <|
  z_ac (j := 11) rfl (z_eI (sp_aload_n (q := 0) dX3_copyFrom_20 rfl rfl)) <|
  z_ac (j := 12) rfl (z_eI (sp_getf (C := RX3) (T := TX3) (Nf := 5) dX3_copyFrom_21 rfl inX3 (by decide) wf_116 rfl)) <|
  z_ac (j := 13) rfl (z_cN (host := "FalseLightMarsh") dX3_copyFrom_24 (by decide +kernel) qX8_copyNumbers (by decide +kernel) (z_sn rfl rfl) rfl) <|
  z_ac (j := 14) rfl (z_eI (sp_aload_n (q := 1) dX3_copyFrom_27 rfl rfl)) <|
  z_ac (j := 15) rfl (z_eI (sp_getf (C := RX3) (T := TX3) (Nf := 5) dX3_copyFrom_28 rfl inX3 (by decide) wf_120 rfl)) <|
  z_ac (j := 16) rfl (z_eI (sp_aload_n (q := 0) dX3_copyFrom_31 rfl rfl)) <|
  z_ac (j := 17) rfl (z_eI (sp_getf (C := RX3) (T := TX3) (Nf := 5) dX3_copyFrom_32 rfl inX3 (by decide) wf_120 rfl)) <|
  z_ac (j := 18) rfl (z_cN (host := "FalseLightMarsh") dX3_copyFrom_35 (by decide +kernel) qX8_copyNumbers (by decide +kernel) (z_sn rfl rfl) rfl) <|
  z_ac (j := 19) rfl (z_eI (sp_aload_n (q := 1) dX3_copyFrom_38 rfl rfl)) <|
  z_ac (j := 20) rfl (z_eI (sp_getf (C := RX3) (T := TX3) (Nf := 5) dX3_copyFrom_39 rfl inX3 (by decide) wf_123 rfl)) <|
  z_ac (j := 21) rfl (z_eI (sp_aload_n (q := 0) dX3_copyFrom_42 rfl rfl)) <|
  z_ac (j := 22) rfl (z_eI (sp_getf (C := RX3) (T := TX3) (Nf := 5) dX3_copyFrom_43 rfl inX3 (by decide) wf_123 rfl)) <|
  z_ac (j := 23) rfl (z_cN (host := "FalseLightMarsh") dX3_copyFrom_46 (by decide +kernel) qX8_copyNumbers (by decide +kernel) (z_sn rfl rfl) rfl) <|
  z_ac (j := 24) rfl (z_eW (sv_void dX3_copyFrom_49 rfl)) <| z_an
theorem dX3_removeAll_0 : decode cX3_removeAll 0 = .ok (.aload_n 0, 1) := by decide +kernel
theorem dX3_removeAll_1 : decode cX3_removeAll 1 = .ok (.iconst 0, 1) := by decide +kernel
theorem dX3_removeAll_2 : decode cX3_removeAll 2 = .ok (.putfield 21, 3) := by decide +kernel
theorem dX3_removeAll_5 : decode cX3_removeAll 5 = .ok (.aload_n 0, 1) := by decide +kernel
theorem dX3_removeAll_6 : decode cX3_removeAll 6 = .ok (.iconst 0, 1) := by decide +kernel
theorem dX3_removeAll_7 : decode cX3_removeAll 7 = .ok (.putfield 25, 3) := by decide +kernel
theorem dX3_removeAll_10 : decode cX3_removeAll 10 = .ok (.return_, 1) := by decide +kernel
theorem tX3_removeAll {L : Nat} {xs : Nat → Int32} {N : Nat} : z_AllE (zE L xs N 144) 0 (kX3_removeAll N) :=
  z_ac (j := 1) rfl (z_eI (sp_aload_n (q := 0) dX3_removeAll_0 rfl rfl)) <|
  z_ac (j := 2) rfl (z_eI (sp_iconst dX3_removeAll_1 (by decide +kernel) rfl)) <|
  z_ac (j := 3) rfl (z_eI (sp_putI (C := RX3) (T := TX3) (Nf := 5) dX3_removeAll_2 rfl inX3 tyX3_ok nmX3 (by decide) wf_110 rfl (by decide +kernel) rfl)) <|
  z_ac (j := 4) rfl (z_eI (sp_aload_n (q := 0) dX3_removeAll_5 rfl rfl)) <|
  z_ac (j := 5) rfl (z_eI (sp_iconst dX3_removeAll_6 (by decide +kernel) rfl)) <|
  z_ac (j := 6) rfl (z_eI (sp_putI (C := RX3) (T := TX3) (Nf := 5) dX3_removeAll_7 rfl inX3 tyX3_ok nmX3 (by decide) wf_113 rfl (by decide +kernel) rfl)) <|
  z_ac (j := 7) rfl (z_eW (sv_void dX3_removeAll_10 rfl)) <| z_an
theorem dX3_contains_0 : decode cX3_contains 0 = .ok (.iload_n 1, 1) := by decide +kernel
theorem dX3_contains_1 : decode cX3_contains 1 = .ok (.ifCond .lt 15, 3) := by decide +kernel
theorem dX3_contains_4 : decode cX3_contains 4 = .ok (.iload_n 1, 1) := by decide +kernel
theorem dX3_contains_5 : decode cX3_contains 5 = .ok (.aload_n 0, 1) := by decide +kernel
theorem dX3_contains_6 : decode cX3_contains 6 = .ok (.getfield 21, 3) := by decide +kernel
theorem dX3_contains_9 : decode cX3_contains 9 = .ok (.if_icmp .ge 7, 3) := by decide +kernel
theorem dX3_contains_12 : decode cX3_contains 12 = .ok (.iconst 1, 1) := by decide +kernel
theorem dX3_contains_13 : decode cX3_contains 13 = .ok (.goto 4, 3) := by decide +kernel
theorem dX3_contains_16 : decode cX3_contains 16 = .ok (.iconst 0, 1) := by decide +kernel
theorem dX3_contains_17 : decode cX3_contains 17 = .ok (.ireturn, 1) := by decide +kernel
theorem tX3_contains {L : Nat} {xs : Nat → Int32} {N : Nat} : z_AllE (zE L xs N 145) 0 (kX3_contains N) :=
  z_ac (j := 1) rfl (z_eI (sp_iload_n (q := 1) dX3_contains_0 rfl rfl)) <|
  z_ac (j := 2) rfl (z_eI (sp_if_lt dX3_contains_1 rfl rfl)) <|
  z_ac (j := 3) rfl (z_eI (sp_iload_n (q := 1) dX3_contains_4 rfl rfl)) <|
  z_ac (j := 4) rfl (z_eI (sp_aload_n (q := 0) dX3_contains_5 rfl rfl)) <|
  z_ac (j := 5) rfl (z_eI (sp_getf (C := RX3) (T := TX3) (Nf := 5) dX3_contains_6 rfl inX3 (by decide) wf_110 rfl)) <|
  z_ac (j := 6) rfl (z_eI (sp_icmp_ge dX3_contains_9 rfl rfl)) <|
  z_ac (j := 7) rfl (z_eI (sp_iconst dX3_contains_12 (by decide +kernel) rfl)) <|
  z_ac (j := 8) rfl (z_eI (sp_goto dX3_contains_13 rfl)) <|
  z_ac (j := 9) rfl (z_eI (sp_iconst dX3_contains_16 (by decide +kernel) rfl)) <|
  z_ac (j := 10) rfl (z_eR (sr_bool dX3_contains_17 rfl)) <| z_an
theorem dX3_onCell_0 : decode cX3_onCell 0 = .ok (.iconst 0, 1) := by decide +kernel
theorem dX3_onCell_1 : decode cX3_onCell 1 = .ok (.istore_n 2, 1) := by decide +kernel
theorem dX3_onCell_2 : decode cX3_onCell 2 = .ok (.iload_n 2, 1) := by decide +kernel
theorem dX3_onCell_3 : decode cX3_onCell 3 = .ok (.aload_n 0, 1) := by decide +kernel
theorem dX3_onCell_4 : decode cX3_onCell 4 = .ok (.getfield 21, 3) := by decide +kernel
theorem dX3_onCell_7 : decode cX3_onCell 7 = .ok (.if_icmp .ge 21, 3) := by decide +kernel
theorem dX3_onCell_10 : decode cX3_onCell 10 = .ok (.aload_n 0, 1) := by decide +kernel
theorem dX3_onCell_11 : decode cX3_onCell 11 = .ok (.getfield 9, 3) := by decide +kernel
theorem dX3_onCell_14 : decode cX3_onCell 14 = .ok (.iload_n 2, 1) := by decide +kernel
theorem dX3_onCell_15 : decode cX3_onCell 15 = .ok (.iaload, 1) := by decide +kernel
theorem dX3_onCell_16 : decode cX3_onCell 16 = .ok (.iload_n 1, 1) := by decide +kernel
theorem dX3_onCell_17 : decode cX3_onCell 17 = .ok (.if_icmp .ne 5, 3) := by decide +kernel
theorem dX3_onCell_20 : decode cX3_onCell 20 = .ok (.iload_n 2, 1) := by decide +kernel
theorem dX3_onCell_21 : decode cX3_onCell 21 = .ok (.ireturn, 1) := by decide +kernel
theorem dX3_onCell_22 : decode cX3_onCell 22 = .ok (.iinc 2 1, 3) := by decide +kernel
theorem dX3_onCell_25 : decode cX3_onCell 25 = .ok (.goto (-23), 3) := by decide +kernel
theorem dX3_onCell_28 : decode cX3_onCell 28 = .ok (.iconst (-1), 1) := by decide +kernel
theorem dX3_onCell_29 : decode cX3_onCell 29 = .ok (.ireturn, 1) := by decide +kernel
theorem tX3_onCell {L : Nat} {xs : Nat → Int32} {N : Nat} : z_AllE (zE L xs N 146) 0 (kX3_onCell N) :=
  z_ac (j := 1) rfl (z_eI (sp_iconst dX3_onCell_0 (by decide +kernel) rfl)) <|
  z_ac (j := 2) rfl (z_eI (sp_istore_n (q := 2) dX3_onCell_1 rfl (by decide) (fun _ _ => rfl) rfl)) <|
  z_ac (j := 3) rfl (z_eI (sp_iload_n (q := 2) dX3_onCell_2 rfl rfl)) <|
  z_ac (j := 4) rfl (z_eI (sp_aload_n (q := 0) dX3_onCell_3 rfl rfl)) <|
  z_ac (j := 5) rfl (z_eI (sp_getf (C := RX3) (T := TX3) (Nf := 5) dX3_onCell_4 rfl inX3 (by decide) wf_110 rfl)) <|
  z_ac (j := 6) rfl (z_eI (sp_icmp_ge dX3_onCell_7 rfl rfl)) <|
  z_ac (j := 7) rfl (z_eI (sp_aload_n (q := 0) dX3_onCell_10 rfl rfl)) <|
  z_ac (j := 8) rfl (z_eI (sp_getf (C := RX3) (T := TX3) (Nf := 5) dX3_onCell_11 rfl inX3 (by decide) wf_116 rfl)) <|
  z_ac (j := 9) rfl (z_eI (sp_iload_n (q := 2) dX3_onCell_14 rfl rfl)) <|
  z_ac (j := 10) rfl (z_eI (sp_iald dX3_onCell_15 rfl)) <|
  z_ac (j := 11) rfl (z_eI (sp_iload_n (q := 1) dX3_onCell_16 rfl rfl)) <|
  z_ac (j := 12) rfl (z_eI (sp_icmp_ne dX3_onCell_17 rfl rfl)) <|
  z_ac (j := 13) rfl (z_eI (sp_iload_n (q := 2) dX3_onCell_20 rfl rfl)) <|
  z_ac (j := 14) rfl (z_eR (sr_int dX3_onCell_21 rfl)) <|
  z_ac (j := 15) rfl (z_eI (sp_iinc dX3_onCell_22 (by decide +kernel) (by decide) (fun _ _ => rfl) rfl)) <|
  z_ac (j := 16) rfl (z_eI (sp_goto dX3_onCell_25 rfl)) <|
  z_ac (j := 17) rfl (z_eI (sp_iconst dX3_onCell_28 (by decide +kernel) rfl)) <|
  z_ac (j := 18) rfl (z_eR (sr_int dX3_onCell_29 rfl)) <| z_an
theorem dX3_put_0 : decode cX3_put 0 = .ok (.aload_n 0, 1) := by decide +kernel
theorem dX3_put_1 : decode cX3_put 1 = .ok (.getfield 21, 3) := by decide +kernel
theorem dX3_put_4 : decode cX3_put 4 = .ok (.bipush 8, 2) := by decide +kernel
theorem dX3_put_6 : decode cX3_put 6 = .ok (.if_icmp .lt 5, 3) := by decide +kernel
theorem dX3_put_9 : decode cX3_put 9 = .ok (.iconst (-1), 1) := by decide +kernel
theorem dX3_put_10 : decode cX3_put 10 = .ok (.ireturn, 1) := by decide +kernel
theorem dX3_put_11 : decode cX3_put 11 = .ok (.aload_n 0, 1) := by decide +kernel
theorem dX3_put_12 : decode cX3_put 12 = .ok (.getfield 21, 3) := by decide +kernel
theorem dX3_put_15 : decode cX3_put 15 = .ok (.istore 4, 2) := by decide +kernel
theorem dX3_put_17 : decode cX3_put 17 = .ok (.aload_n 0, 1) := by decide +kernel
theorem dX3_put_18 : decode cX3_put 18 = .ok (.getfield 9, 3) := by decide +kernel
theorem dX3_put_21 : decode cX3_put 21 = .ok (.iload 4, 2) := by decide +kernel
theorem dX3_put_23 : decode cX3_put 23 = .ok (.iload_n 1, 1) := by decide +kernel
theorem dX3_put_24 : decode cX3_put 24 = .ok (.iastore, 1) := by decide +kernel
theorem dX3_put_25 : decode cX3_put 25 = .ok (.aload_n 0, 1) := by decide +kernel
theorem dX3_put_26 : decode cX3_put 26 = .ok (.getfield 15, 3) := by decide +kernel
theorem dX3_put_29 : decode cX3_put 29 = .ok (.iload 4, 2) := by decide +kernel
theorem dX3_put_31 : decode cX3_put 31 = .ok (.iload_n 2, 1) := by decide +kernel
theorem dX3_put_32 : decode cX3_put 32 = .ok (.iastore, 1) := by decide +kernel
theorem dX3_put_33 : decode cX3_put 33 = .ok (.aload_n 0, 1) := by decide +kernel
theorem dX3_put_34 : decode cX3_put 34 = .ok (.getfield 18, 3) := by decide +kernel
theorem dX3_put_37 : decode cX3_put 37 = .ok (.iload 4, 2) := by decide +kernel
theorem dX3_put_39 : decode cX3_put 39 = .ok (.iconst (-1), 1) := by decide +kernel
theorem dX3_put_40 : decode cX3_put 40 = .ok (.iastore, 1) := by decide +kernel
theorem dX3_put_41 : decode cX3_put 41 = .ok (.iload_n 3, 1) := by decide +kernel
theorem dX3_put_42 : decode cX3_put 42 = .ok (.ifCond .eq 16, 3) := by decide +kernel
theorem dX3_put_45 : decode cX3_put 45 = .ok (.aload_n 0, 1) := by decide +kernel
theorem dX3_put_46 : decode cX3_put 46 = .ok (.dup, 1) := by decide +kernel
theorem dX3_put_47 : decode cX3_put 47 = .ok (.getfield 25, 3) := by decide +kernel
theorem dX3_put_50 : decode cX3_put 50 = .ok (.iconst 1, 1) := by decide +kernel
theorem dX3_put_51 : decode cX3_put 51 = .ok (.iload 4, 2) := by decide +kernel
theorem dX3_put_53 : decode cX3_put 53 = .ok (.ishl, 1) := by decide +kernel
theorem dX3_put_54 : decode cX3_put 54 = .ok (.ior, 1) := by decide +kernel
theorem dX3_put_55 : decode cX3_put 55 = .ok (.putfield 25, 3) := by decide +kernel
theorem dX3_put_58 : decode cX3_put 58 = .ok (.aload_n 0, 1) := by decide +kernel
theorem dX3_put_59 : decode cX3_put 59 = .ok (.dup, 1) := by decide +kernel
theorem dX3_put_60 : decode cX3_put 60 = .ok (.getfield 21, 3) := by decide +kernel
theorem dX3_put_63 : decode cX3_put 63 = .ok (.iconst 1, 1) := by decide +kernel
theorem dX3_put_64 : decode cX3_put 64 = .ok (.iadd, 1) := by decide +kernel
theorem dX3_put_65 : decode cX3_put 65 = .ok (.putfield 21, 3) := by decide +kernel
theorem dX3_put_68 : decode cX3_put 68 = .ok (.iload 4, 2) := by decide +kernel
theorem dX3_put_70 : decode cX3_put 70 = .ok (.ireturn, 1) := by decide +kernel
theorem tX3_put {L : Nat} {xs : Nat → Int32} {N : Nat} : z_AllE (zE L xs N 147) 0 (kX3_put N) :=
  z_ac (j := 1) rfl (z_eI (sp_aload_n (q := 0) dX3_put_0 rfl rfl)) <|
  z_ac (j := 2) rfl (z_eI (sp_getf (C := RX3) (T := TX3) (Nf := 5) dX3_put_1 rfl inX3 (by decide) wf_110 rfl)) <|
  z_ac (j := 3) rfl (z_eI (sp_bipush dX3_put_4 (by decide +kernel) rfl)) <|
  z_ac (j := 4) rfl (z_eI (sp_icmp_lt dX3_put_6 rfl rfl)) <|
  z_ac (j := 5) rfl (z_eI (sp_iconst dX3_put_9 (by decide +kernel) rfl)) <|
  z_ac (j := 6) rfl (z_eR (sr_int dX3_put_10 rfl)) <|
  z_ac (j := 7) rfl (z_eI (sp_aload_n (q := 0) dX3_put_11 rfl rfl)) <|
  z_ac (j := 8) rfl (z_eI (sp_getf (C := RX3) (T := TX3) (Nf := 5) dX3_put_12 rfl inX3 (by decide) wf_110 rfl)) <|
  z_ac (j := 9) rfl (z_eI (sp_istore dX3_put_15 (by decide) (fun _ _ => rfl) rfl)) <|
  z_ac (j := 10) rfl (z_eI (sp_aload_n (q := 0) dX3_put_17 rfl rfl)) <|
  z_ac (j := 11) rfl (z_eI (sp_getf (C := RX3) (T := TX3) (Nf := 5) dX3_put_18 rfl inX3 (by decide) wf_116 rfl)) <|
  z_ac (j := 12) rfl (z_eI (sp_iload dX3_put_21 rfl)) <|
  z_ac (j := 13) rfl (z_eI (sp_iload_n (q := 1) dX3_put_23 rfl rfl)) <|
  z_ac (j := 14) rfl (z_eI (sp_iast dX3_put_24 rfl)) <|
  z_ac (j := 15) rfl (z_eI (sp_aload_n (q := 0) dX3_put_25 rfl rfl)) <|
  z_ac (j := 16) rfl (z_eI (sp_getf (C := RX3) (T := TX3) (Nf := 5) dX3_put_26 rfl inX3 (by decide) wf_120 rfl)) <|
  z_ac (j := 17) rfl (z_eI (sp_iload dX3_put_29 rfl)) <|
  z_ac (j := 18) rfl (z_eI (sp_iload_n (q := 2) dX3_put_31 rfl rfl)) <|
  z_ac (j := 19) rfl (z_eI (sp_iast dX3_put_32 rfl)) <|
  z_ac (j := 20) rfl (z_eI (sp_aload_n (q := 0) dX3_put_33 rfl rfl)) <|
  z_ac (j := 21) rfl (z_eI (sp_getf (C := RX3) (T := TX3) (Nf := 5) dX3_put_34 rfl inX3 (by decide) wf_123 rfl)) <|
  z_ac (j := 22) rfl (z_eI (sp_iload dX3_put_37 rfl)) <|
  z_ac (j := 23) rfl (z_eI (sp_iconst dX3_put_39 (by decide +kernel) rfl)) <|
  z_ac (j := 24) rfl (z_eI (sp_iast dX3_put_40 rfl)) <|
  z_ac (j := 25) rfl (z_eI (sp_iload_n (q := 3) dX3_put_41 rfl rfl)) <|
  z_ac (j := 26) rfl (z_eI (sp_if_eq dX3_put_42 rfl rfl)) <|
  z_ac (j := 27) rfl (z_eI (sp_aload_n (q := 0) dX3_put_45 rfl rfl)) <|
  z_ac (j := 28) rfl (z_eI (sp_dup dX3_put_46 rfl)) <|
  z_ac (j := 29) rfl (z_eI (sp_getf (C := RX3) (T := TX3) (Nf := 5) dX3_put_47 rfl inX3 (by decide) wf_113 rfl)) <|
  z_ac (j := 30) rfl (z_eI (sp_iconst dX3_put_50 (by decide +kernel) rfl)) <|
  z_ac (j := 31) rfl (z_eI (sp_iload dX3_put_51 rfl)) <|
  z_ac (j := 32) rfl (z_eI (sp_ishl dX3_put_53 rfl)) <|
  z_ac (j := 33) rfl (z_eI (sp_ior dX3_put_54 rfl)) <|
  z_ac (j := 34) rfl (z_eI (sp_putI (C := RX3) (T := TX3) (Nf := 5) dX3_put_55 rfl inX3 tyX3_ok nmX3 (by decide) wf_113 rfl (by decide +kernel) rfl)) <|
  z_ac (j := 35) rfl (z_eI (sp_aload_n (q := 0) dX3_put_58 rfl rfl)) <|
  z_ac (j := 36) rfl (z_eI (sp_dup dX3_put_59 rfl)) <|
  z_ac (j := 37) rfl (z_eI (sp_getf (C := RX3) (T := TX3) (Nf := 5) dX3_put_60 rfl inX3 (by decide) wf_110 rfl)) <|
  z_ac (j := 38) rfl (z_eI (sp_iconst dX3_put_63 (by decide +kernel) rfl)) <|
  z_ac (j := 39) rfl (z_eI (sp_iadd dX3_put_64 rfl)) <|
  z_ac (j := 40) rfl (z_eI (sp_putI (C := RX3) (T := TX3) (Nf := 5) dX3_put_65 rfl inX3 tyX3_ok nmX3 (by decide) wf_110 rfl (by decide +kernel) rfl)) <|
  z_ac (j := 41) rfl (z_eI (sp_iload dX3_put_68 rfl)) <|
  z_ac (j := 42) rfl (z_eR (sr_int dX3_put_70 rfl)) <| z_an
theorem dX3_goesWrong_0 : decode cX3_goesWrong 0 = .ok (.iconst 0, 1) := by decide +kernel
theorem dX3_goesWrong_1 : decode cX3_goesWrong 1 = .ok (.istore_n 2, 1) := by decide +kernel
theorem dX3_goesWrong_2 : decode cX3_goesWrong 2 = .ok (.iload_n 1, 1) := by decide +kernel
theorem dX3_goesWrong_3 : decode cX3_goesWrong 3 = .ok (.istore_n 3, 1) := by decide +kernel
theorem dX3_goesWrong_4 : decode cX3_goesWrong 4 = .ok (.iconst 0, 1) := by decide +kernel
theorem dX3_goesWrong_5 : decode cX3_goesWrong 5 = .ok (.istore 4, 2) := by decide +kernel
theorem dX3_goesWrong_7 : decode cX3_goesWrong 7 = .ok (.iload 4, 2) := by decide +kernel
theorem dX3_goesWrong_9 : decode cX3_goesWrong 9 = .ok (.bipush 8, 2) := by decide +kernel
theorem dX3_goesWrong_11 : decode cX3_goesWrong 11 = .ok (.if_icmp .gt 51, 3) := by decide +kernel
theorem dX3_goesWrong_14 : decode cX3_goesWrong 14 = .ok (.aload_n 0, 1) := by decide +kernel
theorem dX3_goesWrong_15 : decode cX3_goesWrong 15 = .ok (.iload_n 3, 1) := by decide +kernel
theorem dX3_goesWrong_16 : decode cX3_goesWrong 16 = .ok (.invokevirtual 32, 3) := by decide +kernel
theorem dX3_goesWrong_19 : decode cX3_goesWrong 19 = .ok (.ifCond .eq 43, 3) := by decide +kernel
theorem dX3_goesWrong_22 : decode cX3_goesWrong 22 = .ok (.iload_n 2, 1) := by decide +kernel
theorem dX3_goesWrong_23 : decode cX3_goesWrong 23 = .ok (.iload_n 3, 1) := by decide +kernel
theorem dX3_goesWrong_24 : decode cX3_goesWrong 24 = .ok (.invokestatic 36, 3) := by decide +kernel
theorem dX3_goesWrong_27 : decode cX3_goesWrong 27 = .ok (.ifCond .ne 14, 3) := by decide +kernel
theorem dX3_goesWrong_30 : decode cX3_goesWrong 30 = .ok (.aload_n 0, 1) := by decide +kernel
theorem dX3_goesWrong_31 : decode cX3_goesWrong 31 = .ok (.getfield 25, 3) := by decide +kernel
theorem dX3_goesWrong_34 : decode cX3_goesWrong 34 = .ok (.iload_n 3, 1) := by decide +kernel
theorem dX3_goesWrong_35 : decode cX3_goesWrong 35 = .ok (.invokestatic 36, 3) := by decide +kernel
theorem dX3_goesWrong_38 : decode cX3_goesWrong 38 = .ok (.ifCond .ne 5, 3) := by decide +kernel
theorem dX3_goesWrong_41 : decode cX3_goesWrong 41 = .ok (.iconst 1, 1) := by decide +kernel
theorem dX3_goesWrong_42 : decode cX3_goesWrong 42 = .ok (.ireturn, 1) := by decide +kernel
theorem dX3_goesWrong_43 : decode cX3_goesWrong 43 = .ok (.iload_n 2, 1) := by decide +kernel
theorem dX3_goesWrong_44 : decode cX3_goesWrong 44 = .ok (.iconst 1, 1) := by decide +kernel
theorem dX3_goesWrong_45 : decode cX3_goesWrong 45 = .ok (.iload_n 3, 1) := by decide +kernel
theorem dX3_goesWrong_46 : decode cX3_goesWrong 46 = .ok (.ishl, 1) := by decide +kernel
theorem dX3_goesWrong_47 : decode cX3_goesWrong 47 = .ok (.ior, 1) := by decide +kernel
theorem dX3_goesWrong_48 : decode cX3_goesWrong 48 = .ok (.istore_n 2, 1) := by decide +kernel
theorem dX3_goesWrong_49 : decode cX3_goesWrong 49 = .ok (.aload_n 0, 1) := by decide +kernel
theorem dX3_goesWrong_50 : decode cX3_goesWrong 50 = .ok (.getfield 18, 3) := by decide +kernel
theorem dX3_goesWrong_53 : decode cX3_goesWrong 53 = .ok (.iload_n 3, 1) := by decide +kernel
theorem dX3_goesWrong_54 : decode cX3_goesWrong 54 = .ok (.iaload, 1) := by decide +kernel
theorem dX3_goesWrong_55 : decode cX3_goesWrong 55 = .ok (.istore_n 3, 1) := by decide +kernel
theorem dX3_goesWrong_56 : decode cX3_goesWrong 56 = .ok (.iinc 4 1, 3) := by decide +kernel
theorem dX3_goesWrong_59 : decode cX3_goesWrong 59 = .ok (.goto (-52), 3) := by decide +kernel
theorem dX3_goesWrong_62 : decode cX3_goesWrong 62 = .ok (.iconst 0, 1) := by decide +kernel
theorem dX3_goesWrong_63 : decode cX3_goesWrong 63 = .ok (.ireturn, 1) := by decide +kernel
theorem tX3_goesWrong {L : Nat} {xs : Nat → Int32} {N : Nat} : z_AllE (zE L xs N 148) 0 (kX3_goesWrong N) :=
  z_ac (j := 1) rfl (z_eI (sp_iconst dX3_goesWrong_0 (by decide +kernel) rfl)) <|
  z_ac (j := 2) rfl (z_eI (sp_istore_n (q := 2) dX3_goesWrong_1 rfl (by decide) (fun _ _ => rfl) rfl)) <|
  z_ac (j := 3) rfl (z_eI (sp_iload_n (q := 1) dX3_goesWrong_2 rfl rfl)) <|
  z_ac (j := 4) rfl (z_eI (sp_istore_n (q := 3) dX3_goesWrong_3 rfl (by decide) (fun _ _ => rfl) rfl)) <|
  z_ac (j := 5) rfl (z_eI (sp_iconst dX3_goesWrong_4 (by decide +kernel) rfl)) <|
  z_ac (j := 6) rfl (z_eI (sp_istore dX3_goesWrong_5 (by decide) (fun _ _ => rfl) rfl)) <|
  z_ac (j := 7) rfl (z_eI (sp_iload dX3_goesWrong_7 rfl)) <|
  z_ac (j := 8) rfl (z_eI (sp_bipush dX3_goesWrong_9 (by decide +kernel) rfl)) <|
  z_ac (j := 9) rfl (z_eI (sp_icmp_gt dX3_goesWrong_11 rfl rfl)) <|
  z_ac (j := 10) rfl (z_eI (sp_aload_n (q := 0) dX3_goesWrong_14 rfl rfl)) <|
  z_ac (j := 11) rfl (z_eI (sp_iload_n (q := 3) dX3_goesWrong_15 rfl rfl)) <|
  z_ac (j := 12) rfl (z_cV dX3_goesWrong_16 wl_831 qX3_contains (by decide +kernel) ⟨_, _, rfl⟩ (z_sn rfl rfl) rfl) <|
  z_ac (j := 13) rfl (z_eI (sp_if_eq dX3_goesWrong_19 rfl rfl)) <|
  z_ac (j := 14) rfl (z_eI (sp_iload_n (q := 2) dX3_goesWrong_22 rfl rfl)) <|
  z_ac (j := 15) rfl (z_eI (sp_iload_n (q := 3) dX3_goesWrong_23 rfl rfl)) <|
  z_ac (j := 16) rfl (z_cN (host := "FalseLightMarsh") dX3_goesWrong_24 (by decide +kernel) qX8_holds (by decide +kernel) (z_sn rfl rfl) rfl) <|
  z_ac (j := 17) rfl (z_eI (sp_if_ne dX3_goesWrong_27 rfl rfl)) <|
  z_ac (j := 18) rfl (z_eI (sp_aload_n (q := 0) dX3_goesWrong_30 rfl rfl)) <|
  z_ac (j := 19) rfl (z_eI (sp_getf (C := RX3) (T := TX3) (Nf := 5) dX3_goesWrong_31 rfl inX3 (by decide) wf_113 rfl)) <|
  z_ac (j := 20) rfl (z_eI (sp_iload_n (q := 3) dX3_goesWrong_34 rfl rfl)) <|
  z_ac (j := 21) rfl (z_cN (host := "FalseLightMarsh") dX3_goesWrong_35 (by decide +kernel) qX8_holds (by decide +kernel) (z_sn rfl rfl) rfl) <|
  z_ac (j := 22) rfl (z_eI (sp_if_ne dX3_goesWrong_38 rfl rfl)) <|
  z_ac (j := 23) rfl (z_eI (sp_iconst dX3_goesWrong_41 (by decide +kernel) rfl)) <|
  z_ac (j := 24) rfl (z_eR (sr_bool dX3_goesWrong_42 rfl)) <|
  z_ac (j := 25) rfl (z_eI (sp_iload_n (q := 2) dX3_goesWrong_43 rfl rfl)) <|
  z_ac (j := 26) rfl (z_eI (sp_iconst dX3_goesWrong_44 (by decide +kernel) rfl)) <|
  z_ac (j := 27) rfl (z_eI (sp_iload_n (q := 3) dX3_goesWrong_45 rfl rfl)) <|
  z_ac (j := 28) rfl (z_eI (sp_ishl dX3_goesWrong_46 rfl)) <|
  z_ac (j := 29) rfl (z_eI (sp_ior dX3_goesWrong_47 rfl)) <|
  z_ac (j := 30) rfl (z_eI (sp_istore_n (q := 2) dX3_goesWrong_48 rfl (by decide) (fun _ _ => rfl) rfl)) <|
  z_ac (j := 31) rfl (z_eI (sp_aload_n (q := 0) dX3_goesWrong_49 rfl rfl)) <|
  z_ac (j := 32) rfl (z_eI (sp_getf (C := RX3) (T := TX3) (Nf := 5) dX3_goesWrong_50 rfl inX3 (by decide) wf_123 rfl)) <|
  z_ac (j := 33) rfl (z_eI (sp_iload_n (q := 3) dX3_goesWrong_53 rfl rfl)) <|
  z_ac (j := 34) rfl (z_eI (sp_iald dX3_goesWrong_54 rfl)) <|
  z_ac (j := 35) rfl (z_eI (sp_istore_n (q := 3) dX3_goesWrong_55 rfl (by decide) (fun _ _ => rfl) rfl)) <|
  z_ac (j := 36) rfl (z_eI (sp_iinc dX3_goesWrong_56 (by decide +kernel) (by decide) (fun _ _ => rfl) rfl)) <|
  z_ac (j := 37) rfl (z_eI (sp_goto dX3_goesWrong_59 rfl)) <|
  z_ac (j := 38) rfl (z_eI (sp_iconst dX3_goesWrong_62 (by decide +kernel) rfl)) <|
  z_ac (j := 39) rfl (z_eR (sr_bool dX3_goesWrong_63 rfl)) <| z_an
theorem dX3_countWrong_0 : decode cX3_countWrong 0 = .ok (.iconst 0, 1) := by decide +kernel
theorem dX3_countWrong_1 : decode cX3_countWrong 1 = .ok (.istore_n 1, 1) := by decide +kernel
theorem dX3_countWrong_2 : decode cX3_countWrong 2 = .ok (.iconst 0, 1) := by decide +kernel
theorem dX3_countWrong_3 : decode cX3_countWrong 3 = .ok (.istore_n 2, 1) := by decide +kernel
theorem dX3_countWrong_4 : decode cX3_countWrong 4 = .ok (.iload_n 2, 1) := by decide +kernel
theorem dX3_countWrong_5 : decode cX3_countWrong 5 = .ok (.aload_n 0, 1) := by decide +kernel
theorem dX3_countWrong_6 : decode cX3_countWrong 6 = .ok (.getfield 21, 3) := by decide +kernel
theorem dX3_countWrong_9 : decode cX3_countWrong 9 = .ok (.if_icmp .ge 20, 3) := by decide +kernel
theorem dX3_countWrong_12 : decode cX3_countWrong 12 = .ok (.aload_n 0, 1) := by decide +kernel
theorem dX3_countWrong_13 : decode cX3_countWrong 13 = .ok (.iload_n 2, 1) := by decide +kernel
theorem dX3_countWrong_14 : decode cX3_countWrong 14 = .ok (.invokevirtual 40, 3) := by decide +kernel
theorem dX3_countWrong_17 : decode cX3_countWrong 17 = .ok (.ifCond .eq 6, 3) := by decide +kernel
theorem dX3_countWrong_20 : decode cX3_countWrong 20 = .ok (.iinc 1 1, 3) := by decide +kernel
theorem dX3_countWrong_23 : decode cX3_countWrong 23 = .ok (.iinc 2 1, 3) := by decide +kernel
theorem dX3_countWrong_26 : decode cX3_countWrong 26 = .ok (.goto (-22), 3) := by decide +kernel
theorem dX3_countWrong_29 : decode cX3_countWrong 29 = .ok (.iload_n 1, 1) := by decide +kernel
theorem dX3_countWrong_30 : decode cX3_countWrong 30 = .ok (.ireturn, 1) := by decide +kernel
theorem tX3_countWrong {L : Nat} {xs : Nat → Int32} {N : Nat} : z_AllE (zE L xs N 149) 0 (kX3_countWrong N) :=
  z_ac (j := 1) rfl (z_eI (sp_iconst dX3_countWrong_0 (by decide +kernel) rfl)) <|
  z_ac (j := 2) rfl (z_eI (sp_istore_n (q := 1) dX3_countWrong_1 rfl (by decide) (fun _ _ => rfl) rfl)) <|
  z_ac (j := 3) rfl (z_eI (sp_iconst dX3_countWrong_2 (by decide +kernel) rfl)) <|
  z_ac (j := 4) rfl (z_eI (sp_istore_n (q := 2) dX3_countWrong_3 rfl (by decide) (fun _ _ => rfl) rfl)) <|
  z_ac (j := 5) rfl (z_eI (sp_iload_n (q := 2) dX3_countWrong_4 rfl rfl)) <|
  z_ac (j := 6) rfl (z_eI (sp_aload_n (q := 0) dX3_countWrong_5 rfl rfl)) <|
  z_ac (j := 7) rfl (z_eI (sp_getf (C := RX3) (T := TX3) (Nf := 5) dX3_countWrong_6 rfl inX3 (by decide) wf_110 rfl)) <|
  z_ac (j := 8) rfl (z_eI (sp_icmp_ge dX3_countWrong_9 rfl rfl)) <|
  z_ac (j := 9) rfl (z_eI (sp_aload_n (q := 0) dX3_countWrong_12 rfl rfl)) <|
  z_ac (j := 10) rfl (z_eI (sp_iload_n (q := 2) dX3_countWrong_13 rfl rfl)) <|
  z_ac (j := 11) rfl (z_cV dX3_countWrong_14 wl_827 qX3_goesWrong (by decide +kernel) ⟨_, _, rfl⟩ (z_sn rfl rfl) rfl) <|
  z_ac (j := 12) rfl (z_eI (sp_if_eq dX3_countWrong_17 rfl rfl)) <|
  z_ac (j := 13) rfl (z_eI (sp_iinc dX3_countWrong_20 (by decide +kernel) (by decide) (fun _ _ => rfl) rfl)) <|
  z_ac (j := 14) rfl (z_eI (sp_iinc dX3_countWrong_23 (by decide +kernel) (by decide) (fun _ _ => rfl) rfl)) <|
  z_ac (j := 15) rfl (z_eI (sp_goto dX3_countWrong_26 rfl)) <|
  z_ac (j := 16) rfl (z_eI (sp_iload_n (q := 1) dX3_countWrong_29 rfl rfl)) <|
  z_ac (j := 17) rfl (z_eR (sr_int dX3_countWrong_30 rfl)) <| z_an
theorem dX6_copyFrom_0 : decode cX6_copyFrom 0 = .ok (.aload_n 0, 1) := by decide +kernel
theorem dX6_copyFrom_1 : decode cX6_copyFrom 1 = .ok (.aload_n 1, 1) := by decide +kernel
theorem dX6_copyFrom_2 : decode cX6_copyFrom 2 = .ok (.getfield 33, 3) := by decide +kernel
theorem dX6_copyFrom_5 : decode cX6_copyFrom 5 = .ok (.putfield 33, 3) := by decide +kernel
theorem dX6_copyFrom_8 : decode cX6_copyFrom 8 = .ok (.aload_n 1, 1) := by decide +kernel
theorem dX6_copyFrom_9 : decode cX6_copyFrom 9 = .ok (.getfield 9, 3) := by decide +kernel
theorem dX6_copyFrom_12 : decode cX6_copyFrom 12 = .ok (.aload_n 0, 1) := by decide +kernel
theorem dX6_copyFrom_13 : decode cX6_copyFrom 13 = .ok (.getfield 9, 3) := by decide +kernel
theorem dX6_copyFrom_16 : decode cX6_copyFrom 16 = .ok (.invokestatic 37, 3) := by decide +kernel
theorem dX6_copyFrom_19 : decode cX6_copyFrom 19 = .ok (.aload_n 1, 1) := by decide +kernel
theorem dX6_copyFrom_20 : decode cX6_copyFrom 20 = .ok (.getfield 15, 3) := by decide +kernel
theorem dX6_copyFrom_23 : decode cX6_copyFrom 23 = .ok (.aload_n 0, 1) := by decide +kernel
theorem dX6_copyFrom_24 : decode cX6_copyFrom 24 = .ok (.getfield 15, 3) := by decide +kernel
theorem dX6_copyFrom_27 : decode cX6_copyFrom 27 = .ok (.invokestatic 37, 3) := by decide +kernel
theorem dX6_copyFrom_30 : decode cX6_copyFrom 30 = .ok (.aload_n 1, 1) := by decide +kernel
theorem dX6_copyFrom_31 : decode cX6_copyFrom 31 = .ok (.getfield 18, 3) := by decide +kernel
theorem dX6_copyFrom_34 : decode cX6_copyFrom 34 = .ok (.aload_n 0, 1) := by decide +kernel
theorem dX6_copyFrom_35 : decode cX6_copyFrom 35 = .ok (.getfield 18, 3) := by decide +kernel
theorem dX6_copyFrom_38 : decode cX6_copyFrom 38 = .ok (.invokestatic 37, 3) := by decide +kernel
theorem dX6_copyFrom_41 : decode cX6_copyFrom 41 = .ok (.aload_n 1, 1) := by decide +kernel
theorem dX6_copyFrom_42 : decode cX6_copyFrom 42 = .ok (.getfield 21, 3) := by decide +kernel
theorem dX6_copyFrom_45 : decode cX6_copyFrom 45 = .ok (.aload_n 0, 1) := by decide +kernel
theorem dX6_copyFrom_46 : decode cX6_copyFrom 46 = .ok (.getfield 21, 3) := by decide +kernel
theorem dX6_copyFrom_49 : decode cX6_copyFrom 49 = .ok (.invokestatic 37, 3) := by decide +kernel
theorem dX6_copyFrom_52 : decode cX6_copyFrom 52 = .ok (.aload_n 1, 1) := by decide +kernel
theorem dX6_copyFrom_53 : decode cX6_copyFrom 53 = .ok (.getfield 24, 3) := by decide +kernel
theorem dX6_copyFrom_56 : decode cX6_copyFrom 56 = .ok (.aload_n 0, 1) := by decide +kernel
theorem dX6_copyFrom_57 : decode cX6_copyFrom 57 = .ok (.getfield 24, 3) := by decide +kernel
theorem dX6_copyFrom_60 : decode cX6_copyFrom 60 = .ok (.invokestatic 37, 3) := by decide +kernel
theorem dX6_copyFrom_63 : decode cX6_copyFrom 63 = .ok (.aload_n 1, 1) := by decide +kernel
theorem dX6_copyFrom_64 : decode cX6_copyFrom 64 = .ok (.getfield 27, 3) := by decide +kernel
theorem dX6_copyFrom_67 : decode cX6_copyFrom 67 = .ok (.aload_n 0, 1) := by decide +kernel
theorem dX6_copyFrom_68 : decode cX6_copyFrom 68 = .ok (.getfield 27, 3) := by decide +kernel
theorem dX6_copyFrom_71 : decode cX6_copyFrom 71 = .ok (.invokestatic 37, 3) := by decide +kernel
theorem dX6_copyFrom_74 : decode cX6_copyFrom 74 = .ok (.aload_n 1, 1) := by decide +kernel
theorem dX6_copyFrom_75 : decode cX6_copyFrom 75 = .ok (.getfield 30, 3) := by decide +kernel
theorem dX6_copyFrom_78 : decode cX6_copyFrom 78 = .ok (.aload_n 0, 1) := by decide +kernel
theorem dX6_copyFrom_79 : decode cX6_copyFrom 79 = .ok (.getfield 30, 3) := by decide +kernel
theorem dX6_copyFrom_82 : decode cX6_copyFrom 82 = .ok (.invokestatic 37, 3) := by decide +kernel
theorem dX6_copyFrom_85 : decode cX6_copyFrom 85 = .ok (.return_, 1) := by decide +kernel
theorem tX6_copyFrom {L : Nat} {xs : Nat → Int32} {N : Nat} : z_AllE (zE L xs N 150) 0 (kX6_copyFrom N) :=
  z_ac (j := 1) rfl (z_eI (sp_aload_n (q := 0) dX6_copyFrom_0 rfl rfl)) <|
  z_ac (j := 2) rfl (z_eI (sp_aload_n (q := 1) dX6_copyFrom_1 rfl rfl)) <|
  z_ac (j := 3) rfl (z_eI (sp_getf (C := RX6) (T := TX6) (Nf := 8) dX6_copyFrom_2 rfl inX6 (by decide) wf_144 rfl)) <|
  z_ac (j := 4) rfl (z_eI (sp_putI (C := RX6) (T := TX6) (Nf := 8) dX6_copyFrom_5 rfl inX6 tyX6_ok nmX6 (by decide) wf_144 rfl (by decide +kernel) rfl)) <|
  z_ac (j := 5) rfl (z_eI (sp_aload_n (q := 1) dX6_copyFrom_8 rfl rfl)) <|
  z_ac (j := 6) rfl (z_eI (sp_getf (C := RX6) (T := TX6) (Nf := 8) dX6_copyFrom_9 rfl inX6 (by decide) wf_148 rfl)) <|
  z_ac (j := 7) rfl (z_eI (sp_aload_n (q := 0) dX6_copyFrom_12 rfl rfl)) <|
  z_ac (j := 8) rfl (z_eI (sp_getf (C := RX6) (T := TX6) (Nf := 8) dX6_copyFrom_13 rfl inX6 (by decide) wf_148 rfl)) <|
  z_ac (j := 9) rfl (z_cN (host := "FalseLightMarsh") dX6_copyFrom_16 (by decide +kernel) qX8_copyNumbers (by decide +kernel) (z_sn rfl rfl) rfl) <|
  z_ac (j := 10) rfl (z_eI (sp_aload_n (q := 1) dX6_copyFrom_19 rfl rfl)) <|
  z_ac (j := 11) rfl (z_eI (sp_getf (C := RX6) (T := TX6) (Nf := 8) dX6_copyFrom_20 rfl inX6 (by decide) wf_152 rfl)) <|
  z_ac (j := 12) rfl (z_eI (sp_aload_n (q := 0) dX6_copyFrom_23 rfl rfl)) <|
  z_ac (j := 13) rfl (z_eI (sp_getf (C := RX6) (T := TX6) (Nf := 8) dX6_copyFrom_24 rfl inX6 (by decide) wf_152 rfl)) <|
  z_ac (j := 14) rfl (z_cN (host := "FalseLightMarsh") dX6_copyFrom_27 (by decide +kernel) qX8_copyNumbers (by decide +kernel) (z_sn rfl rfl) rfl) <|
  z_ac (j := 15) rfl (z_eI (sp_aload_n (q := 1) dX6_copyFrom_30 rfl rfl)) <|
  z_ac (j := 16) rfl (z_eI (sp_getf (C := RX6) (T := TX6) (Nf := 8) dX6_copyFrom_31 rfl inX6 (by decide) wf_155 rfl)) <|
  z_ac (j := 17) rfl (z_eI (sp_aload_n (q := 0) dX6_copyFrom_34 rfl rfl)) <|
  z_ac (j := 18) rfl (z_eI (sp_getf (C := RX6) (T := TX6) (Nf := 8) dX6_copyFrom_35 rfl inX6 (by decide) wf_155 rfl)) <|
  z_ac (j := 19) rfl (z_cN (host := "FalseLightMarsh") dX6_copyFrom_38 (by decide +kernel) qX8_copyNumbers (by decide +kernel) (z_sn rfl rfl) rfl) <|
  z_ac (j := 20) rfl (z_eI (sp_aload_n (q := 1) dX6_copyFrom_41 rfl rfl)) <|
  z_ac (j := 21) rfl (z_eI (sp_getf (C := RX6) (T := TX6) (Nf := 8) dX6_copyFrom_42 rfl inX6 (by decide) wf_158 rfl)) <|
  z_ac (j := 22) rfl (z_eI (sp_aload_n (q := 0) dX6_copyFrom_45 rfl rfl)) <|
  z_ac (j := 23) rfl (z_eI (sp_getf (C := RX6) (T := TX6) (Nf := 8) dX6_copyFrom_46 rfl inX6 (by decide) wf_158 rfl)) <|
  z_ac (j := 24) rfl (z_cN (host := "FalseLightMarsh") dX6_copyFrom_49 (by decide +kernel) qX8_copyNumbers (by decide +kernel) (z_sn rfl rfl) rfl) <|
  z_ac (j := 25) rfl (z_eI (sp_aload_n (q := 1) dX6_copyFrom_52 rfl rfl)) <|
  z_ac (j := 26) rfl (z_eI (sp_getf (C := RX6) (T := TX6) (Nf := 8) dX6_copyFrom_53 rfl inX6 (by decide) wf_161 rfl)) <|
  z_ac (j := 27) rfl (z_eI (sp_aload_n (q := 0) dX6_copyFrom_56 rfl rfl)) <|
  z_ac (j := 28) rfl (z_eI (sp_getf (C := RX6) (T := TX6) (Nf := 8) dX6_copyFrom_57 rfl inX6 (by decide) wf_161 rfl)) <|
  z_ac (j := 29) rfl (z_cN (host := "FalseLightMarsh") dX6_copyFrom_60 (by decide +kernel) qX8_copyNumbers (by decide +kernel) (z_sn rfl rfl) rfl) <|
  z_ac (j := 30) rfl (z_eI (sp_aload_n (q := 1) dX6_copyFrom_63 rfl rfl)) <|
  z_ac (j := 31) rfl (z_eI (sp_getf (C := RX6) (T := TX6) (Nf := 8) dX6_copyFrom_64 rfl inX6 (by decide) wf_164 rfl)) <|
  z_ac (j := 32) rfl (z_eI (sp_aload_n (q := 0) dX6_copyFrom_67 rfl rfl)) <|
  z_ac (j := 33) rfl (z_eI (sp_getf (C := RX6) (T := TX6) (Nf := 8) dX6_copyFrom_68 rfl inX6 (by decide) wf_164 rfl)) <|
  z_ac (j := 34) rfl (z_cN (host := "FalseLightMarsh") dX6_copyFrom_71 (by decide +kernel) qX8_copyNumbers (by decide +kernel) (z_sn rfl rfl) rfl) <|
  z_ac (j := 35) rfl (z_eI (sp_aload_n (q := 1) dX6_copyFrom_74 rfl rfl)) <|
  z_ac (j := 36) rfl (z_eI (sp_getf (C := RX6) (T := TX6) (Nf := 8) dX6_copyFrom_75 rfl inX6 (by decide) wf_167 rfl)) <|
  z_ac (j := 37) rfl (z_eI (sp_aload_n (q := 0) dX6_copyFrom_78 rfl rfl)) <|
  z_ac (j := 38) rfl (z_eI (sp_getf (C := RX6) (T := TX6) (Nf := 8) dX6_copyFrom_79 rfl inX6 (by decide) wf_167 rfl)) <|
  z_ac (j := 39) rfl (z_cN (host := "FalseLightMarsh") dX6_copyFrom_82 (by decide +kernel) qX8_copyNumbers (by decide +kernel) (z_sn rfl rfl) rfl) <|
  z_ac (j := 40) rfl (z_eW (sv_void dX6_copyFrom_85 rfl)) <| z_an
theorem dX6_put_0 : decode cX6_put 0 = .ok (.aload_n 0, 1) := by decide +kernel
theorem dX6_put_1 : decode cX6_put 1 = .ok (.getfield 33, 3) := by decide +kernel
theorem dX6_put_4 : decode cX6_put 4 = .ok (.bipush 6, 2) := by decide +kernel
theorem dX6_put_6 : decode cX6_put 6 = .ok (.if_icmp .lt 5, 3) := by decide +kernel
theorem dX6_put_9 : decode cX6_put 9 = .ok (.iconst (-1), 1) := by decide +kernel
theorem dX6_put_10 : decode cX6_put 10 = .ok (.ireturn, 1) := by decide +kernel
theorem dX6_put_11 : decode cX6_put 11 = .ok (.aload_n 0, 1) := by decide +kernel
theorem dX6_put_12 : decode cX6_put 12 = .ok (.getfield 33, 3) := by decide +kernel
theorem dX6_put_15 : decode cX6_put 15 = .ok (.istore_n 2, 1) := by decide +kernel
theorem dX6_put_16 : decode cX6_put 16 = .ok (.aload_n 0, 1) := by decide +kernel
theorem dX6_put_17 : decode cX6_put 17 = .ok (.getfield 9, 3) := by decide +kernel
theorem dX6_put_20 : decode cX6_put 20 = .ok (.iload_n 2, 1) := by decide +kernel
theorem dX6_put_21 : decode cX6_put 21 = .ok (.iload_n 1, 1) := by decide +kernel
theorem dX6_put_22 : decode cX6_put 22 = .ok (.iastore, 1) := by decide +kernel
theorem dX6_put_23 : decode cX6_put 23 = .ok (.aload_n 0, 1) := by decide +kernel
theorem dX6_put_24 : decode cX6_put 24 = .ok (.getfield 15, 3) := by decide +kernel
theorem dX6_put_27 : decode cX6_put 27 = .ok (.iload_n 2, 1) := by decide +kernel
theorem dX6_put_28 : decode cX6_put 28 = .ok (.iconst 0, 1) := by decide +kernel
theorem dX6_put_29 : decode cX6_put 29 = .ok (.iastore, 1) := by decide +kernel
theorem dX6_put_30 : decode cX6_put 30 = .ok (.aload_n 0, 1) := by decide +kernel
theorem dX6_put_31 : decode cX6_put 31 = .ok (.getfield 18, 3) := by decide +kernel
theorem dX6_put_34 : decode cX6_put 34 = .ok (.iload_n 2, 1) := by decide +kernel
theorem dX6_put_35 : decode cX6_put 35 = .ok (.iconst 0, 1) := by decide +kernel
theorem dX6_put_36 : decode cX6_put 36 = .ok (.iastore, 1) := by decide +kernel
theorem dX6_put_37 : decode cX6_put 37 = .ok (.aload_n 0, 1) := by decide +kernel
theorem dX6_put_38 : decode cX6_put 38 = .ok (.getfield 21, 3) := by decide +kernel
theorem dX6_put_41 : decode cX6_put 41 = .ok (.iload_n 2, 1) := by decide +kernel
theorem dX6_put_42 : decode cX6_put 42 = .ok (.iconst (-1), 1) := by decide +kernel
theorem dX6_put_43 : decode cX6_put 43 = .ok (.iastore, 1) := by decide +kernel
theorem dX6_put_44 : decode cX6_put 44 = .ok (.aload_n 0, 1) := by decide +kernel
theorem dX6_put_45 : decode cX6_put 45 = .ok (.getfield 24, 3) := by decide +kernel
theorem dX6_put_48 : decode cX6_put 48 = .ok (.iload_n 2, 1) := by decide +kernel
theorem dX6_put_49 : decode cX6_put 49 = .ok (.iconst 0, 1) := by decide +kernel
theorem dX6_put_50 : decode cX6_put 50 = .ok (.iastore, 1) := by decide +kernel
theorem dX6_put_51 : decode cX6_put 51 = .ok (.aload_n 0, 1) := by decide +kernel
theorem dX6_put_52 : decode cX6_put 52 = .ok (.getfield 27, 3) := by decide +kernel
theorem dX6_put_55 : decode cX6_put 55 = .ok (.iload_n 2, 1) := by decide +kernel
theorem dX6_put_56 : decode cX6_put 56 = .ok (.iconst 0, 1) := by decide +kernel
theorem dX6_put_57 : decode cX6_put 57 = .ok (.iastore, 1) := by decide +kernel
theorem dX6_put_58 : decode cX6_put 58 = .ok (.aload_n 0, 1) := by decide +kernel
theorem dX6_put_59 : decode cX6_put 59 = .ok (.dup, 1) := by decide +kernel
theorem dX6_put_60 : decode cX6_put 60 = .ok (.getfield 33, 3) := by decide +kernel
theorem dX6_put_63 : decode cX6_put 63 = .ok (.iconst 1, 1) := by decide +kernel
theorem dX6_put_64 : decode cX6_put 64 = .ok (.iadd, 1) := by decide +kernel
theorem dX6_put_65 : decode cX6_put 65 = .ok (.putfield 33, 3) := by decide +kernel
theorem dX6_put_68 : decode cX6_put 68 = .ok (.iload_n 2, 1) := by decide +kernel
theorem dX6_put_69 : decode cX6_put 69 = .ok (.ireturn, 1) := by decide +kernel
theorem tX6_put {L : Nat} {xs : Nat → Int32} {N : Nat} : z_AllE (zE L xs N 151) 0 (kX6_put N) :=
  z_ac (j := 1) rfl (z_eI (sp_aload_n (q := 0) dX6_put_0 rfl rfl)) <|
  z_ac (j := 2) rfl (z_eI (sp_getf (C := RX6) (T := TX6) (Nf := 8) dX6_put_1 rfl inX6 (by decide) wf_144 rfl)) <|
  z_ac (j := 3) rfl (z_eI (sp_bipush dX6_put_4 (by decide +kernel) rfl)) <|
  z_ac (j := 4) rfl (z_eI (sp_icmp_lt dX6_put_6 rfl rfl)) <|
  z_ac (j := 5) rfl (z_eI (sp_iconst dX6_put_9 (by decide +kernel) rfl)) <|
  z_ac (j := 6) rfl (z_eR (sr_int dX6_put_10 rfl)) <|
  z_ac (j := 7) rfl (z_eI (sp_aload_n (q := 0) dX6_put_11 rfl rfl)) <|
  z_ac (j := 8) rfl (z_eI (sp_getf (C := RX6) (T := TX6) (Nf := 8) dX6_put_12 rfl inX6 (by decide) wf_144 rfl)) <|
  z_ac (j := 9) rfl (z_eI (sp_istore_n (q := 2) dX6_put_15 rfl (by decide) (fun _ _ => rfl) rfl)) <|
  z_ac (j := 10) rfl (z_eI (sp_aload_n (q := 0) dX6_put_16 rfl rfl)) <|
  z_ac (j := 11) rfl (z_eI (sp_getf (C := RX6) (T := TX6) (Nf := 8) dX6_put_17 rfl inX6 (by decide) wf_148 rfl)) <|
  z_ac (j := 12) rfl (z_eI (sp_iload_n (q := 2) dX6_put_20 rfl rfl)) <|
  z_ac (j := 13) rfl (z_eI (sp_iload_n (q := 1) dX6_put_21 rfl rfl)) <|
  z_ac (j := 14) rfl (z_eI (sp_iast dX6_put_22 rfl)) <|
  z_ac (j := 15) rfl (z_eI (sp_aload_n (q := 0) dX6_put_23 rfl rfl)) <|
  z_ac (j := 16) rfl (z_eI (sp_getf (C := RX6) (T := TX6) (Nf := 8) dX6_put_24 rfl inX6 (by decide) wf_152 rfl)) <|
  z_ac (j := 17) rfl (z_eI (sp_iload_n (q := 2) dX6_put_27 rfl rfl)) <|
  z_ac (j := 18) rfl (z_eI (sp_iconst dX6_put_28 (by decide +kernel) rfl)) <|
  z_ac (j := 19) rfl (z_eI (sp_iast dX6_put_29 rfl)) <|
  z_ac (j := 20) rfl (z_eI (sp_aload_n (q := 0) dX6_put_30 rfl rfl)) <|
  z_ac (j := 21) rfl (z_eI (sp_getf (C := RX6) (T := TX6) (Nf := 8) dX6_put_31 rfl inX6 (by decide) wf_155 rfl)) <|
  z_ac (j := 22) rfl (z_eI (sp_iload_n (q := 2) dX6_put_34 rfl rfl)) <|
  z_ac (j := 23) rfl (z_eI (sp_iconst dX6_put_35 (by decide +kernel) rfl)) <|
  z_ac (j := 24) rfl (z_eI (sp_iast dX6_put_36 rfl)) <|
  z_ac (j := 25) rfl (z_eI (sp_aload_n (q := 0) dX6_put_37 rfl rfl)) <|
  z_ac (j := 26) rfl (z_eI (sp_getf (C := RX6) (T := TX6) (Nf := 8) dX6_put_38 rfl inX6 (by decide) wf_158 rfl)) <|
  z_ac (j := 27) rfl (z_eI (sp_iload_n (q := 2) dX6_put_41 rfl rfl)) <|
  z_ac (j := 28) rfl (z_eI (sp_iconst dX6_put_42 (by decide +kernel) rfl)) <|
  z_ac (j := 29) rfl (z_eI (sp_iast dX6_put_43 rfl)) <|
  z_ac (j := 30) rfl (z_eI (sp_aload_n (q := 0) dX6_put_44 rfl rfl)) <|
  z_ac (j := 31) rfl (z_eI (sp_getf (C := RX6) (T := TX6) (Nf := 8) dX6_put_45 rfl inX6 (by decide) wf_161 rfl)) <|
  z_ac (j := 32) rfl (z_eI (sp_iload_n (q := 2) dX6_put_48 rfl rfl)) <|
  z_ac (j := 33) rfl (z_eI (sp_iconst dX6_put_49 (by decide +kernel) rfl)) <|
  z_ac (j := 34) rfl (z_eI (sp_iast dX6_put_50 rfl)) <|
  z_ac (j := 35) rfl (z_eI (sp_aload_n (q := 0) dX6_put_51 rfl rfl)) <|
  z_ac (j := 36) rfl (z_eI (sp_getf (C := RX6) (T := TX6) (Nf := 8) dX6_put_52 rfl inX6 (by decide) wf_164 rfl)) <|
  z_ac (j := 37) rfl (z_eI (sp_iload_n (q := 2) dX6_put_55 rfl rfl)) <|
  z_ac (j := 38) rfl (z_eI (sp_iconst dX6_put_56 (by decide +kernel) rfl)) <|
  z_ac (j := 39) rfl (z_eI (sp_iast dX6_put_57 rfl)) <|
  z_ac (j := 40) rfl (z_eI (sp_aload_n (q := 0) dX6_put_58 rfl rfl)) <|
  z_ac (j := 41) rfl (z_eI (sp_dup dX6_put_59 rfl)) <|
  z_ac (j := 42) rfl (z_eI (sp_getf (C := RX6) (T := TX6) (Nf := 8) dX6_put_60 rfl inX6 (by decide) wf_144 rfl)) <|
  z_ac (j := 43) rfl (z_eI (sp_iconst dX6_put_63 (by decide +kernel) rfl)) <|
  z_ac (j := 44) rfl (z_eI (sp_iadd dX6_put_64 rfl)) <|
  z_ac (j := 45) rfl (z_eI (sp_putI (C := RX6) (T := TX6) (Nf := 8) dX6_put_65 rfl inX6 tyX6_ok nmX6 (by decide) wf_144 rfl (by decide +kernel) rfl)) <|
  z_ac (j := 46) rfl (z_eI (sp_iload_n (q := 2) dX6_put_68 rfl rfl)) <|
  z_ac (j := 47) rfl (z_eR (sr_int dX6_put_69 rfl)) <| z_an
theorem dX6_finish_0 : decode cX6_finish 0 = .ok (.aload_n 0, 1) := by decide +kernel
theorem dX6_finish_1 : decode cX6_finish 1 = .ok (.getfield 15, 3) := by decide +kernel
theorem dX6_finish_4 : decode cX6_finish 4 = .ok (.iload_n 1, 1) := by decide +kernel
theorem dX6_finish_5 : decode cX6_finish 5 = .ok (.iload_n 2, 1) := by decide +kernel
theorem dX6_finish_6 : decode cX6_finish 6 = .ok (.iastore, 1) := by decide +kernel
theorem dX6_finish_7 : decode cX6_finish 7 = .ok (.aload_n 0, 1) := by decide +kernel
theorem dX6_finish_8 : decode cX6_finish 8 = .ok (.getfield 21, 3) := by decide +kernel
theorem dX6_finish_11 : decode cX6_finish 11 = .ok (.iload_n 1, 1) := by decide +kernel
theorem dX6_finish_12 : decode cX6_finish 12 = .ok (.iconst (-1), 1) := by decide +kernel
theorem dX6_finish_13 : decode cX6_finish 13 = .ok (.iastore, 1) := by decide +kernel
theorem dX6_finish_14 : decode cX6_finish 14 = .ok (.aload_n 0, 1) := by decide +kernel
theorem dX6_finish_15 : decode cX6_finish 15 = .ok (.getfield 30, 3) := by decide +kernel
theorem dX6_finish_18 : decode cX6_finish 18 = .ok (.iload_n 1, 1) := by decide +kernel
theorem dX6_finish_19 : decode cX6_finish 19 = .ok (.iload_n 3, 1) := by decide +kernel
theorem dX6_finish_20 : decode cX6_finish 20 = .ok (.iastore, 1) := by decide +kernel
theorem dX6_finish_21 : decode cX6_finish 21 = .ok (.return_, 1) := by decide +kernel
theorem tX6_finish {L : Nat} {xs : Nat → Int32} {N : Nat} : z_AllE (zE L xs N 152) 0 (kX6_finish N) :=
  z_ac (j := 1) rfl (z_eI (sp_aload_n (q := 0) dX6_finish_0 rfl rfl)) <|
  z_ac (j := 2) rfl (z_eI (sp_getf (C := RX6) (T := TX6) (Nf := 8) dX6_finish_1 rfl inX6 (by decide) wf_152 rfl)) <|
  z_ac (j := 3) rfl (z_eI (sp_iload_n (q := 1) dX6_finish_4 rfl rfl)) <|
  z_ac (j := 4) rfl (z_eI (sp_iload_n (q := 2) dX6_finish_5 rfl rfl)) <|
  z_ac (j := 5) rfl (z_eI (sp_iast dX6_finish_6 rfl)) <|
  z_ac (j := 6) rfl (z_eI (sp_aload_n (q := 0) dX6_finish_7 rfl rfl)) <|
  z_ac (j := 7) rfl (z_eI (sp_getf (C := RX6) (T := TX6) (Nf := 8) dX6_finish_8 rfl inX6 (by decide) wf_158 rfl)) <|
  z_ac (j := 8) rfl (z_eI (sp_iload_n (q := 1) dX6_finish_11 rfl rfl)) <|
  z_ac (j := 9) rfl (z_eI (sp_iconst dX6_finish_12 (by decide +kernel) rfl)) <|
  z_ac (j := 10) rfl (z_eI (sp_iast dX6_finish_13 rfl)) <|
  z_ac (j := 11) rfl (z_eI (sp_aload_n (q := 0) dX6_finish_14 rfl rfl)) <|
  z_ac (j := 12) rfl (z_eI (sp_getf (C := RX6) (T := TX6) (Nf := 8) dX6_finish_15 rfl inX6 (by decide) wf_167 rfl)) <|
  z_ac (j := 13) rfl (z_eI (sp_iload_n (q := 1) dX6_finish_18 rfl rfl)) <|
  z_ac (j := 14) rfl (z_eI (sp_iload_n (q := 3) dX6_finish_19 rfl rfl)) <|
  z_ac (j := 15) rfl (z_eI (sp_iast dX6_finish_20 rfl)) <|
  z_ac (j := 16) rfl (z_eW (sv_void dX6_finish_21 rfl)) <| z_an
theorem dX6_shuns_0 : decode cX6_shuns 0 = .ok (.aload_n 0, 1) := by decide +kernel
theorem dX6_shuns_1 : decode cX6_shuns 1 = .ok (.getfield 24, 3) := by decide +kernel
theorem dX6_shuns_4 : decode cX6_shuns 4 = .ok (.iload_n 1, 1) := by decide +kernel
theorem dX6_shuns_5 : decode cX6_shuns 5 = .ok (.iaload, 1) := by decide +kernel
theorem dX6_shuns_6 : decode cX6_shuns 6 = .ok (.aload_n 0, 1) := by decide +kernel
theorem dX6_shuns_7 : decode cX6_shuns 7 = .ok (.getfield 27, 3) := by decide +kernel
theorem dX6_shuns_10 : decode cX6_shuns 10 = .ok (.iload_n 1, 1) := by decide +kernel
theorem dX6_shuns_11 : decode cX6_shuns 11 = .ok (.iaload, 1) := by decide +kernel
theorem dX6_shuns_12 : decode cX6_shuns 12 = .ok (.ior, 1) := by decide +kernel
theorem dX6_shuns_13 : decode cX6_shuns 13 = .ok (.iload_n 2, 1) := by decide +kernel
theorem dX6_shuns_14 : decode cX6_shuns 14 = .ok (.invokestatic 41, 3) := by decide +kernel
theorem dX6_shuns_17 : decode cX6_shuns 17 = .ok (.ireturn, 1) := by decide +kernel
theorem tX6_shuns {L : Nat} {xs : Nat → Int32} {N : Nat} : z_AllE (zE L xs N 153) 0 (kX6_shuns N) :=
  z_ac (j := 1) rfl (z_eI (sp_aload_n (q := 0) dX6_shuns_0 rfl rfl)) <|
  z_ac (j := 2) rfl (z_eI (sp_getf (C := RX6) (T := TX6) (Nf := 8) dX6_shuns_1 rfl inX6 (by decide) wf_161 rfl)) <|
  z_ac (j := 3) rfl (z_eI (sp_iload_n (q := 1) dX6_shuns_4 rfl rfl)) <|
  z_ac (j := 4) rfl (z_eI (sp_iald dX6_shuns_5 rfl)) <|
  z_ac (j := 5) rfl (z_eI (sp_aload_n (q := 0) dX6_shuns_6 rfl rfl)) <|
  z_ac (j := 6) rfl (z_eI (sp_getf (C := RX6) (T := TX6) (Nf := 8) dX6_shuns_7 rfl inX6 (by decide) wf_164 rfl)) <|
  z_ac (j := 7) rfl (z_eI (sp_iload_n (q := 1) dX6_shuns_10 rfl rfl)) <|
  z_ac (j := 8) rfl (z_eI (sp_iald dX6_shuns_11 rfl)) <|
  z_ac (j := 9) rfl (z_eI (sp_ior dX6_shuns_12 rfl)) <|
  z_ac (j := 10) rfl (z_eI (sp_iload_n (q := 2) dX6_shuns_13 rfl rfl)) <|
  z_ac (j := 11) rfl (z_cN (host := "FalseLightMarsh") dX6_shuns_14 (by decide +kernel) qX8_holds (by decide +kernel) (z_sn rfl rfl) rfl) <|
  z_ac (j := 12) rfl (z_eR (sr_bool dX6_shuns_17 rfl)) <| z_an
theorem dX6_countIn_0 : decode cX6_countIn 0 = .ok (.iconst 0, 1) := by decide +kernel
theorem dX6_countIn_1 : decode cX6_countIn 1 = .ok (.istore_n 2, 1) := by decide +kernel
theorem dX6_countIn_2 : decode cX6_countIn 2 = .ok (.iconst 0, 1) := by decide +kernel
theorem dX6_countIn_3 : decode cX6_countIn 3 = .ok (.istore_n 3, 1) := by decide +kernel
theorem dX6_countIn_4 : decode cX6_countIn 4 = .ok (.iload_n 3, 1) := by decide +kernel
theorem dX6_countIn_5 : decode cX6_countIn 5 = .ok (.aload_n 0, 1) := by decide +kernel
theorem dX6_countIn_6 : decode cX6_countIn 6 = .ok (.getfield 33, 3) := by decide +kernel
theorem dX6_countIn_9 : decode cX6_countIn 9 = .ok (.if_icmp .ge 22, 3) := by decide +kernel
theorem dX6_countIn_12 : decode cX6_countIn 12 = .ok (.aload_n 0, 1) := by decide +kernel
theorem dX6_countIn_13 : decode cX6_countIn 13 = .ok (.getfield 15, 3) := by decide +kernel
theorem dX6_countIn_16 : decode cX6_countIn 16 = .ok (.iload_n 3, 1) := by decide +kernel
theorem dX6_countIn_17 : decode cX6_countIn 17 = .ok (.iaload, 1) := by decide +kernel
theorem dX6_countIn_18 : decode cX6_countIn 18 = .ok (.iload_n 1, 1) := by decide +kernel
theorem dX6_countIn_19 : decode cX6_countIn 19 = .ok (.if_icmp .ne 6, 3) := by decide +kernel
theorem dX6_countIn_22 : decode cX6_countIn 22 = .ok (.iinc 2 1, 3) := by decide +kernel
theorem dX6_countIn_25 : decode cX6_countIn 25 = .ok (.iinc 3 1, 3) := by decide +kernel
theorem dX6_countIn_28 : decode cX6_countIn 28 = .ok (.goto (-24), 3) := by decide +kernel
theorem dX6_countIn_31 : decode cX6_countIn 31 = .ok (.iload_n 2, 1) := by decide +kernel
theorem dX6_countIn_32 : decode cX6_countIn 32 = .ok (.ireturn, 1) := by decide +kernel
theorem tX6_countIn {L : Nat} {xs : Nat → Int32} {N : Nat} : z_AllE (zE L xs N 154) 0 (kX6_countIn N) :=
  z_ac (j := 1) rfl (z_eI (sp_iconst dX6_countIn_0 (by decide +kernel) rfl)) <|
  z_ac (j := 2) rfl (z_eI (sp_istore_n (q := 2) dX6_countIn_1 rfl (by decide) (fun _ _ => rfl) rfl)) <|
  z_ac (j := 3) rfl (z_eI (sp_iconst dX6_countIn_2 (by decide +kernel) rfl)) <|
  z_ac (j := 4) rfl (z_eI (sp_istore_n (q := 3) dX6_countIn_3 rfl (by decide) (fun _ _ => rfl) rfl)) <|
  z_ac (j := 5) rfl (z_eI (sp_iload_n (q := 3) dX6_countIn_4 rfl rfl)) <|
  z_ac (j := 6) rfl (z_eI (sp_aload_n (q := 0) dX6_countIn_5 rfl rfl)) <|
  z_ac (j := 7) rfl (z_eI (sp_getf (C := RX6) (T := TX6) (Nf := 8) dX6_countIn_6 rfl inX6 (by decide) wf_144 rfl)) <|
  z_ac (j := 8) rfl (z_eI (sp_icmp_ge dX6_countIn_9 rfl rfl)) <|
  z_ac (j := 9) rfl (z_eI (sp_aload_n (q := 0) dX6_countIn_12 rfl rfl)) <|
  z_ac (j := 10) rfl (z_eI (sp_getf (C := RX6) (T := TX6) (Nf := 8) dX6_countIn_13 rfl inX6 (by decide) wf_152 rfl)) <|
  z_ac (j := 11) rfl (z_eI (sp_iload_n (q := 3) dX6_countIn_16 rfl rfl)) <|
  z_ac (j := 12) rfl (z_eI (sp_iald dX6_countIn_17 rfl)) <|
  z_ac (j := 13) rfl (z_eI (sp_iload_n (q := 1) dX6_countIn_18 rfl rfl)) <|
  z_ac (j := 14) rfl (z_eI (sp_icmp_ne dX6_countIn_19 rfl rfl)) <|
  z_ac (j := 15) rfl (z_eI (sp_iinc dX6_countIn_22 (by decide +kernel) (by decide) (fun _ _ => rfl) rfl)) <|
  z_ac (j := 16) rfl (z_eI (sp_iinc dX6_countIn_25 (by decide +kernel) (by decide) (fun _ _ => rfl) rfl)) <|
  z_ac (j := 17) rfl (z_eI (sp_goto dX6_countIn_28 rfl)) <|
  z_ac (j := 18) rfl (z_eI (sp_iload_n (q := 2) dX6_countIn_31 rfl rfl)) <|
  z_ac (j := 19) rfl (z_eR (sr_int dX6_countIn_32 rfl)) <| z_an
theorem dX6_countFollowing_0 : decode cX6_countFollowing 0 = .ok (.iconst 0, 1) := by decide +kernel
theorem dX6_countFollowing_1 : decode cX6_countFollowing 1 = .ok (.istore_n 2, 1) := by decide +kernel
theorem dX6_countFollowing_2 : decode cX6_countFollowing 2 = .ok (.iconst 0, 1) := by decide +kernel
theorem dX6_countFollowing_3 : decode cX6_countFollowing 3 = .ok (.istore_n 3, 1) := by decide +kernel
theorem dX6_countFollowing_4 : decode cX6_countFollowing 4 = .ok (.iload_n 3, 1) := by decide +kernel
theorem dX6_countFollowing_5 : decode cX6_countFollowing 5 = .ok (.aload_n 0, 1) := by decide +kernel
theorem dX6_countFollowing_6 : decode cX6_countFollowing 6 = .ok (.getfield 33, 3) := by decide +kernel
theorem dX6_countFollowing_9 : decode cX6_countFollowing 9 = .ok (.if_icmp .ge 31, 3) := by decide +kernel
theorem dX6_countFollowing_12 : decode cX6_countFollowing 12 = .ok (.aload_n 0, 1) := by decide +kernel
theorem dX6_countFollowing_13 : decode cX6_countFollowing 13 = .ok (.getfield 15, 3) := by decide +kernel
theorem dX6_countFollowing_16 : decode cX6_countFollowing 16 = .ok (.iload_n 3, 1) := by decide +kernel
theorem dX6_countFollowing_17 : decode cX6_countFollowing 17 = .ok (.iaload, 1) := by decide +kernel
theorem dX6_countFollowing_18 : decode cX6_countFollowing 18 = .ok (.ifCond .ne 16, 3) := by decide +kernel
theorem dX6_countFollowing_21 : decode cX6_countFollowing 21 = .ok (.aload_n 0, 1) := by decide +kernel
theorem dX6_countFollowing_22 : decode cX6_countFollowing 22 = .ok (.getfield 21, 3) := by decide +kernel
theorem dX6_countFollowing_25 : decode cX6_countFollowing 25 = .ok (.iload_n 3, 1) := by decide +kernel
theorem dX6_countFollowing_26 : decode cX6_countFollowing 26 = .ok (.iaload, 1) := by decide +kernel
theorem dX6_countFollowing_27 : decode cX6_countFollowing 27 = .ok (.iload_n 1, 1) := by decide +kernel
theorem dX6_countFollowing_28 : decode cX6_countFollowing 28 = .ok (.if_icmp .ne 6, 3) := by decide +kernel
theorem dX6_countFollowing_31 : decode cX6_countFollowing 31 = .ok (.iinc 2 1, 3) := by decide +kernel
theorem dX6_countFollowing_34 : decode cX6_countFollowing 34 = .ok (.iinc 3 1, 3) := by decide +kernel
theorem dX6_countFollowing_37 : decode cX6_countFollowing 37 = .ok (.goto (-33), 3) := by decide +kernel
theorem dX6_countFollowing_40 : decode cX6_countFollowing 40 = .ok (.iload_n 2, 1) := by decide +kernel
theorem dX6_countFollowing_41 : decode cX6_countFollowing 41 = .ok (.ireturn, 1) := by decide +kernel
theorem tX6_countFollowing {L : Nat} {xs : Nat → Int32} {N : Nat} : z_AllE (zE L xs N 155) 0 (kX6_countFollowing N) :=
  z_ac (j := 1) rfl (z_eI (sp_iconst dX6_countFollowing_0 (by decide +kernel) rfl)) <|
  z_ac (j := 2) rfl (z_eI (sp_istore_n (q := 2) dX6_countFollowing_1 rfl (by decide) (fun _ _ => rfl) rfl)) <|
  z_ac (j := 3) rfl (z_eI (sp_iconst dX6_countFollowing_2 (by decide +kernel) rfl)) <|
  z_ac (j := 4) rfl (z_eI (sp_istore_n (q := 3) dX6_countFollowing_3 rfl (by decide) (fun _ _ => rfl) rfl)) <|
  z_ac (j := 5) rfl (z_eI (sp_iload_n (q := 3) dX6_countFollowing_4 rfl rfl)) <|
  z_ac (j := 6) rfl (z_eI (sp_aload_n (q := 0) dX6_countFollowing_5 rfl rfl)) <|
  z_ac (j := 7) rfl (z_eI (sp_getf (C := RX6) (T := TX6) (Nf := 8) dX6_countFollowing_6 rfl inX6 (by decide) wf_144 rfl)) <|
  z_ac (j := 8) rfl (z_eI (sp_icmp_ge dX6_countFollowing_9 rfl rfl)) <|
  z_ac (j := 9) rfl (z_eI (sp_aload_n (q := 0) dX6_countFollowing_12 rfl rfl)) <|
  z_ac (j := 10) rfl (z_eI (sp_getf (C := RX6) (T := TX6) (Nf := 8) dX6_countFollowing_13 rfl inX6 (by decide) wf_152 rfl)) <|
  z_ac (j := 11) rfl (z_eI (sp_iload_n (q := 3) dX6_countFollowing_16 rfl rfl)) <|
  z_ac (j := 12) rfl (z_eI (sp_iald dX6_countFollowing_17 rfl)) <|
  z_ac (j := 13) rfl (z_eI (sp_if_ne dX6_countFollowing_18 rfl rfl)) <|
  z_ac (j := 14) rfl (z_eI (sp_aload_n (q := 0) dX6_countFollowing_21 rfl rfl)) <|
  z_ac (j := 15) rfl (z_eI (sp_getf (C := RX6) (T := TX6) (Nf := 8) dX6_countFollowing_22 rfl inX6 (by decide) wf_158 rfl)) <|
  z_ac (j := 16) rfl (z_eI (sp_iload_n (q := 3) dX6_countFollowing_25 rfl rfl)) <|
  z_ac (j := 17) rfl (z_eI (sp_iald dX6_countFollowing_26 rfl)) <|
  z_ac (j := 18) rfl (z_eI (sp_iload_n (q := 1) dX6_countFollowing_27 rfl rfl)) <|
  z_ac (j := 19) rfl (z_eI (sp_icmp_ne dX6_countFollowing_28 rfl rfl)) <|
  z_ac (j := 20) rfl (z_eI (sp_iinc dX6_countFollowing_31 (by decide +kernel) (by decide) (fun _ _ => rfl) rfl)) <|
  z_ac (j := 21) rfl (z_eI (sp_iinc dX6_countFollowing_34 (by decide +kernel) (by decide) (fun _ _ => rfl) rfl)) <|
  z_ac (j := 22) rfl (z_eI (sp_goto dX6_countFollowing_37 rfl)) <|
  z_ac (j := 23) rfl (z_eI (sp_iload_n (q := 2) dX6_countFollowing_40 rfl rfl)) <|
  z_ac (j := 24) rfl (z_eR (sr_int dX6_countFollowing_41 rfl)) <| z_an
theorem dX6_sumOfSteps_0 : decode cX6_sumOfSteps 0 = .ok (.iconst 0, 1) := by decide +kernel
theorem dX6_sumOfSteps_1 : decode cX6_sumOfSteps 1 = .ok (.istore_n 1, 1) := by decide +kernel
theorem dX6_sumOfSteps_2 : decode cX6_sumOfSteps 2 = .ok (.iconst 0, 1) := by decide +kernel
theorem dX6_sumOfSteps_3 : decode cX6_sumOfSteps 3 = .ok (.istore_n 2, 1) := by decide +kernel
theorem dX6_sumOfSteps_4 : decode cX6_sumOfSteps 4 = .ok (.iload_n 2, 1) := by decide +kernel
theorem dX6_sumOfSteps_5 : decode cX6_sumOfSteps 5 = .ok (.aload_n 0, 1) := by decide +kernel
theorem dX6_sumOfSteps_6 : decode cX6_sumOfSteps 6 = .ok (.getfield 33, 3) := by decide +kernel
theorem dX6_sumOfSteps_9 : decode cX6_sumOfSteps 9 = .ok (.if_icmp .ge 18, 3) := by decide +kernel
theorem dX6_sumOfSteps_12 : decode cX6_sumOfSteps 12 = .ok (.iload_n 1, 1) := by decide +kernel
theorem dX6_sumOfSteps_13 : decode cX6_sumOfSteps 13 = .ok (.aload_n 0, 1) := by decide +kernel
theorem dX6_sumOfSteps_14 : decode cX6_sumOfSteps 14 = .ok (.getfield 18, 3) := by decide +kernel
theorem dX6_sumOfSteps_17 : decode cX6_sumOfSteps 17 = .ok (.iload_n 2, 1) := by decide +kernel
theorem dX6_sumOfSteps_18 : decode cX6_sumOfSteps 18 = .ok (.iaload, 1) := by decide +kernel
theorem dX6_sumOfSteps_19 : decode cX6_sumOfSteps 19 = .ok (.iadd, 1) := by decide +kernel
theorem dX6_sumOfSteps_20 : decode cX6_sumOfSteps 20 = .ok (.istore_n 1, 1) := by decide +kernel
theorem dX6_sumOfSteps_21 : decode cX6_sumOfSteps 21 = .ok (.iinc 2 1, 3) := by decide +kernel
theorem dX6_sumOfSteps_24 : decode cX6_sumOfSteps 24 = .ok (.goto (-20), 3) := by decide +kernel
theorem dX6_sumOfSteps_27 : decode cX6_sumOfSteps 27 = .ok (.iload_n 1, 1) := by decide +kernel
theorem dX6_sumOfSteps_28 : decode cX6_sumOfSteps 28 = .ok (.ireturn, 1) := by decide +kernel
theorem tX6_sumOfSteps {L : Nat} {xs : Nat → Int32} {N : Nat} : z_AllE (zE L xs N 156) 0 (kX6_sumOfSteps N) :=
  z_ac (j := 1) rfl (z_eI (sp_iconst dX6_sumOfSteps_0 (by decide +kernel) rfl)) <|
  z_ac (j := 2) rfl (z_eI (sp_istore_n (q := 1) dX6_sumOfSteps_1 rfl (by decide) (fun _ _ => rfl) rfl)) <|
  z_ac (j := 3) rfl (z_eI (sp_iconst dX6_sumOfSteps_2 (by decide +kernel) rfl)) <|
  z_ac (j := 4) rfl (z_eI (sp_istore_n (q := 2) dX6_sumOfSteps_3 rfl (by decide) (fun _ _ => rfl) rfl)) <|
  z_ac (j := 5) rfl (z_eI (sp_iload_n (q := 2) dX6_sumOfSteps_4 rfl rfl)) <|
  z_ac (j := 6) rfl (z_eI (sp_aload_n (q := 0) dX6_sumOfSteps_5 rfl rfl)) <|
  z_ac (j := 7) rfl (z_eI (sp_getf (C := RX6) (T := TX6) (Nf := 8) dX6_sumOfSteps_6 rfl inX6 (by decide) wf_144 rfl)) <|
  z_ac (j := 8) rfl (z_eI (sp_icmp_ge dX6_sumOfSteps_9 rfl rfl)) <|
  z_ac (j := 9) rfl (z_eI (sp_iload_n (q := 1) dX6_sumOfSteps_12 rfl rfl)) <|
  z_ac (j := 10) rfl (z_eI (sp_aload_n (q := 0) dX6_sumOfSteps_13 rfl rfl)) <|
  z_ac (j := 11) rfl (z_eI (sp_getf (C := RX6) (T := TX6) (Nf := 8) dX6_sumOfSteps_14 rfl inX6 (by decide) wf_155 rfl)) <|
  z_ac (j := 12) rfl (z_eI (sp_iload_n (q := 2) dX6_sumOfSteps_17 rfl rfl)) <|
  z_ac (j := 13) rfl (z_eI (sp_iald dX6_sumOfSteps_18 rfl)) <|
  z_ac (j := 14) rfl (z_eI (sp_iadd dX6_sumOfSteps_19 rfl)) <|
  z_ac (j := 15) rfl (z_eI (sp_istore_n (q := 1) dX6_sumOfSteps_20 rfl (by decide) (fun _ _ => rfl) rfl)) <|
  z_ac (j := 16) rfl (z_eI (sp_iinc dX6_sumOfSteps_21 (by decide +kernel) (by decide) (fun _ _ => rfl) rfl)) <|
  z_ac (j := 17) rfl (z_eI (sp_goto dX6_sumOfSteps_24 rfl)) <|
  z_ac (j := 18) rfl (z_eI (sp_iload_n (q := 1) dX6_sumOfSteps_27 rfl rfl)) <|
  z_ac (j := 19) rfl (z_eR (sr_int dX6_sumOfSteps_28 rfl)) <| z_an
theorem tX6_lowestWalkingOn {L : Nat} {xs : Nat → Int32} {N : Nat} : z_AllE (zE L xs N 157) 0 (kX6_lowestWalkingOn N) := z_an
theorem dX7_copyFrom_0 : decode cX7_copyFrom 0 = .ok (.aload_n 0, 1) := by decide +kernel
theorem dX7_copyFrom_1 : decode cX7_copyFrom 1 = .ok (.getfield 12, 3) := by decide +kernel
theorem dX7_copyFrom_4 : decode cX7_copyFrom 4 = .ok (.aload_n 1, 1) := by decide +kernel
theorem dX7_copyFrom_5 : decode cX7_copyFrom 5 = .ok (.getfield 12, 3) := by decide +kernel
theorem dX7_copyFrom_8 : decode cX7_copyFrom 8 = .ok (.invokevirtual 36, 3) := by decide +kernel
theorem dX7_copyFrom_11 : decode cX7_copyFrom 11 = .ok (.aload_n 0, 1) := by decide +kernel
theorem dX7_copyFrom_12 : decode cX7_copyFrom 12 = .ok (.getfield 21, 3) := by decide +kernel
theorem dX7_copyFrom_15 : decode cX7_copyFrom 15 = .ok (.aload_n 1, 1) := by decide +kernel
theorem dX7_copyFrom_16 : decode cX7_copyFrom 16 = .ok (.getfield 21, 3) := by decide +kernel
theorem dX7_copyFrom_19 : decode cX7_copyFrom 19 = .ok (.invokevirtual 40, 3) := by decide +kernel
theorem dX7_copyFrom_22 : decode cX7_copyFrom 22 = .ok (.aload_n 0, 1) := by decide +kernel
theorem dX7_copyFrom_23 : decode cX7_copyFrom 23 = .ok (.getfield 28, 3) := by decide +kernel
theorem dX7_copyFrom_26 : decode cX7_copyFrom 26 = .ok (.aload_n 1, 1) := by decide +kernel
theorem dX7_copyFrom_27 : decode cX7_copyFrom 27 = .ok (.getfield 28, 3) := by decide +kernel
theorem dX7_copyFrom_30 : decode cX7_copyFrom 30 = .ok (.invokevirtual 43, 3) := by decide +kernel
theorem dX7_copyFrom_33 : decode cX7_copyFrom 33 = .ok (.aload_n 1, 1) := by decide +kernel
theorem dX7_copyFrom_34 : decode cX7_copyFrom 34 = .ok (.getfield 32, 3) := by decide +kernel
theorem dX7_copyFrom_37 : decode cX7_copyFrom 37 = .ok (.aload_n 0, 1) := by decide +kernel
theorem dX7_copyFrom_38 : decode cX7_copyFrom 38 = .ok (.getfield 32, 3) := by decide +kernel
theorem dX7_copyFrom_41 : decode cX7_copyFrom 41 = .ok (.invokestatic 46, 3) := by decide +kernel
theorem dX7_copyFrom_44 : decode cX7_copyFrom 44 = .ok (.aload_n 0, 1) := by decide +kernel
theorem dX7_copyFrom_45 : decode cX7_copyFrom 45 = .ok (.aload_n 1, 1) := by decide +kernel
theorem dX7_copyFrom_46 : decode cX7_copyFrom 46 = .ok (.getfield 50, 3) := by decide +kernel
theorem dX7_copyFrom_49 : decode cX7_copyFrom 49 = .ok (.putfield 50, 3) := by decide +kernel
theorem dX7_copyFrom_52 : decode cX7_copyFrom 52 = .ok (.aload_n 0, 1) := by decide +kernel
theorem dX7_copyFrom_53 : decode cX7_copyFrom 53 = .ok (.aload_n 1, 1) := by decide +kernel
theorem dX7_copyFrom_54 : decode cX7_copyFrom 54 = .ok (.getfield 54, 3) := by decide +kernel
theorem dX7_copyFrom_57 : decode cX7_copyFrom 57 = .ok (.putfield 54, 3) := by decide +kernel
theorem dX7_copyFrom_60 : decode cX7_copyFrom 60 = .ok (.return_, 1) := by decide +kernel
theorem tX7_copyFrom {L : Nat} {xs : Nat → Int32} {N : Nat} : z_AllE (zE L xs N 158) 0 (kX7_copyFrom N) :=
  z_ac (j := 1) rfl (z_eI (sp_aload_n (q := 0) dX7_copyFrom_0 rfl rfl)) <|
  z_ac (j := 2) rfl (z_eI (sp_getf (C := RX7) (T := TX7) (Nf := 6) dX7_copyFrom_1 rfl inX7 (by decide) wf_186 rfl)) <|
  z_ac (j := 3) rfl (z_eI (sp_aload_n (q := 1) dX7_copyFrom_4 rfl rfl)) <|
  z_ac (j := 4) rfl (z_eI (sp_getf (C := RX7) (T := TX7) (Nf := 6) dX7_copyFrom_5 rfl inX7 (by decide) wf_186 rfl)) <|
  z_ac (j := 5) rfl (z_cV dX7_copyFrom_8 wl_651 qX1_copyFrom (by decide +kernel) ⟨_, _, rfl⟩ (z_sn rfl rfl) rfl) <|
  z_ac (j := 6) rfl (z_eI (sp_aload_n (q := 0) dX7_copyFrom_11 rfl rfl)) <|
  z_ac (j := 7) rfl (z_eI (sp_getf (C := RX7) (T := TX7) (Nf := 6) dX7_copyFrom_12 rfl inX7 (by decide) wf_190 rfl)) <|
  z_ac (j := 8) rfl (z_eI (sp_aload_n (q := 1) dX7_copyFrom_15 rfl rfl)) <|
  z_ac (j := 9) rfl (z_eI (sp_getf (C := RX7) (T := TX7) (Nf := 6) dX7_copyFrom_16 rfl inX7 (by decide) wf_190 rfl)) <|
  z_ac (j := 10) rfl (z_cV dX7_copyFrom_19 wl_664 qX3_copyFrom (by decide +kernel) ⟨_, _, rfl⟩ (z_sn rfl rfl) rfl) <|
  z_ac (j := 11) rfl (z_eI (sp_aload_n (q := 0) dX7_copyFrom_22 rfl rfl)) <|
  z_ac (j := 12) rfl (z_eI (sp_getf (C := RX7) (T := TX7) (Nf := 6) dX7_copyFrom_23 rfl inX7 (by decide) wf_194 rfl)) <|
  z_ac (j := 13) rfl (z_eI (sp_aload_n (q := 1) dX7_copyFrom_26 rfl rfl)) <|
  z_ac (j := 14) rfl (z_eI (sp_getf (C := RX7) (T := TX7) (Nf := 6) dX7_copyFrom_27 rfl inX7 (by decide) wf_194 rfl)) <|
  z_ac (j := 15) rfl (z_cV dX7_copyFrom_30 wl_669 qX6_copyFrom (by decide +kernel) ⟨_, _, rfl⟩ (z_sn rfl rfl) rfl) <|
  z_ac (j := 16) rfl (z_eI (sp_aload_n (q := 1) dX7_copyFrom_33 rfl rfl)) <|
  z_ac (j := 17) rfl (z_eI (sp_getf (C := RX7) (T := TX7) (Nf := 6) dX7_copyFrom_34 rfl inX7 (by decide) wf_198 rfl)) <|
  z_ac (j := 18) rfl (z_eI (sp_aload_n (q := 0) dX7_copyFrom_37 rfl rfl)) <|
  z_ac (j := 19) rfl (z_eI (sp_getf (C := RX7) (T := TX7) (Nf := 6) dX7_copyFrom_38 rfl inX7 (by decide) wf_198 rfl)) <|
  z_ac (j := 20) rfl (z_cN (host := "FalseLightMarsh") dX7_copyFrom_41 (by decide +kernel) qX8_copyNumbers (by decide +kernel) (z_sn rfl rfl) rfl) <|
  z_ac (j := 21) rfl (z_eI (sp_aload_n (q := 0) dX7_copyFrom_44 rfl rfl)) <|
  z_ac (j := 22) rfl (z_eI (sp_aload_n (q := 1) dX7_copyFrom_45 rfl rfl)) <|
  z_ac (j := 23) rfl (z_eI (sp_getf (C := RX7) (T := TX7) (Nf := 6) dX7_copyFrom_46 rfl inX7 (by decide) wf_201 rfl)) <|
  z_ac (j := 24) rfl (z_eI (sp_putI (C := RX7) (T := TX7) (Nf := 6) dX7_copyFrom_49 rfl inX7 tyX7_ok nmX7 (by decide) wf_201 rfl (by decide +kernel) rfl)) <|
  z_ac (j := 25) rfl (z_eI (sp_aload_n (q := 0) dX7_copyFrom_52 rfl rfl)) <|
  z_ac (j := 26) rfl (z_eI (sp_aload_n (q := 1) dX7_copyFrom_53 rfl rfl)) <|
  z_ac (j := 27) rfl (z_eI (sp_getf (C := RX7) (T := TX7) (Nf := 6) dX7_copyFrom_54 rfl inX7 (by decide) wf_205 rfl)) <|
  z_ac (j := 28) rfl (z_eI (sp_putI (C := RX7) (T := TX7) (Nf := 6) dX7_copyFrom_57 rfl inX7 tyX7_ok nmX7 (by decide) wf_205 rfl (by decide +kernel) rfl)) <|
  z_ac (j := 29) rfl (z_eW (sv_void dX7_copyFrom_60 rfl)) <| z_an
theorem dX7_startAnew_0 : decode cX7_startAnew 0 = .ok (.aload_n 0, 1) := by decide +kernel
theorem dX7_startAnew_1 : decode cX7_startAnew 1 = .ok (.getfield 12, 3) := by decide +kernel
theorem dX7_startAnew_4 : decode cX7_startAnew 4 = .ok (.iload_n 1, 1) := by decide +kernel
theorem dX7_startAnew_5 : decode cX7_startAnew 5 = .ok (.putfield 57, 3) := by decide +kernel
theorem dX7_startAnew_8 : decode cX7_startAnew 8 = .ok (.aload_n 0, 1) := by decide +kernel
theorem dX7_startAnew_9 : decode cX7_startAnew 9 = .ok (.getfield 12, 3) := by decide +kernel
theorem dX7_startAnew_12 : decode cX7_startAnew 12 = .ok (.iload_n 2, 1) := by decide +kernel
theorem dX7_startAnew_13 : decode cX7_startAnew 13 = .ok (.putfield 60, 3) := by decide +kernel
theorem dX7_startAnew_16 : decode cX7_startAnew 16 = .ok (.aload_n 0, 1) := by decide +kernel
theorem dX7_startAnew_17 : decode cX7_startAnew 17 = .ok (.getfield 21, 3) := by decide +kernel
theorem dX7_startAnew_20 : decode cX7_startAnew 20 = .ok (.invokevirtual 63, 3) := by decide +kernel
theorem dX7_startAnew_23 : decode cX7_startAnew 23 = .ok (.aload_n 0, 1) := by decide +kernel
theorem dX7_startAnew_24 : decode cX7_startAnew 24 = .ok (.getfield 28, 3) := by decide +kernel
theorem dX7_startAnew_27 : decode cX7_startAnew 27 = .ok (.iconst 0, 1) := by decide +kernel
theorem dX7_startAnew_28 : decode cX7_startAnew 28 = .ok (.putfield 66, 3) := by decide +kernel
theorem dX7_startAnew_31 : decode cX7_startAnew 31 = .ok (.aload_n 0, 1) := by decide +kernel
theorem dX7_startAnew_32 : decode cX7_startAnew 32 = .ok (.getfield 32, 3) := by decide +kernel
theorem dX7_startAnew_35 : decode cX7_startAnew 35 = .ok (.iconst 0, 1) := by decide +kernel
theorem dX7_startAnew_36 : decode cX7_startAnew 36 = .ok (.invokestatic 69, 3) := by decide +kernel
theorem dX7_startAnew_39 : decode cX7_startAnew 39 = .ok (.aload_n 0, 1) := by decide +kernel
theorem dX7_startAnew_40 : decode cX7_startAnew 40 = .ok (.iconst 0, 1) := by decide +kernel
theorem dX7_startAnew_41 : decode cX7_startAnew 41 = .ok (.putfield 54, 3) := by decide +kernel
theorem dX7_startAnew_44 : decode cX7_startAnew 44 = .ok (.return_, 1) := by decide +kernel
theorem tX7_startAnew {L : Nat} {xs : Nat → Int32} {N : Nat} : z_AllE (zE L xs N 159) 0 (kX7_startAnew N) :=
  z_ac (j := 1) rfl (z_eI (sp_aload_n (q := 0) dX7_startAnew_0 rfl rfl)) <|
  z_ac (j := 2) rfl (z_eI (sp_getf (C := RX7) (T := TX7) (Nf := 6) dX7_startAnew_1 rfl inX7 (by decide) wf_186 rfl)) <|
  z_ac (j := 3) rfl (z_eI (sp_iload_n (q := 1) dX7_startAnew_4 rfl rfl)) <|
  z_ac (j := 4) rfl (z_eI (sp_putI (C := RX1) (T := TX1) (Nf := 3) dX7_startAnew_5 rfl inX1 tyX1_ok nmX1 (by decide) wf_81 rfl (by decide +kernel) rfl)) <|
  z_ac (j := 5) rfl (z_eI (sp_aload_n (q := 0) dX7_startAnew_8 rfl rfl)) <|
  z_ac (j := 6) rfl (z_eI (sp_getf (C := RX7) (T := TX7) (Nf := 6) dX7_startAnew_9 rfl inX7 (by decide) wf_186 rfl)) <|
  z_ac (j := 7) rfl (z_eI (sp_iload_n (q := 2) dX7_startAnew_12 rfl rfl)) <|
  z_ac (j := 8) rfl (z_eI (sp_putI (C := RX1) (T := TX1) (Nf := 3) dX7_startAnew_13 rfl inX1 tyX1_ok nmX1 (by decide) wf_87 rfl (by decide +kernel) rfl)) <|
  z_ac (j := 9) rfl (z_eI (sp_aload_n (q := 0) dX7_startAnew_16 rfl rfl)) <|
  z_ac (j := 10) rfl (z_eI (sp_getf (C := RX7) (T := TX7) (Nf := 6) dX7_startAnew_17 rfl inX7 (by decide) wf_190 rfl)) <|
  z_ac (j := 11) rfl (z_cV dX7_startAnew_20 wl_398 qX3_removeAll (by decide +kernel) ⟨_, _, rfl⟩ (z_sn rfl rfl) rfl) <|
  z_ac (j := 12) rfl (z_eI (sp_aload_n (q := 0) dX7_startAnew_23 rfl rfl)) <|
  z_ac (j := 13) rfl (z_eI (sp_getf (C := RX7) (T := TX7) (Nf := 6) dX7_startAnew_24 rfl inX7 (by decide) wf_194 rfl)) <|
  z_ac (j := 14) rfl (z_eI (sp_iconst dX7_startAnew_27 (by decide +kernel) rfl)) <|
  z_ac (j := 15) rfl (z_eI (sp_putI (C := RX6) (T := TX6) (Nf := 8) dX7_startAnew_28 rfl inX6 tyX6_ok nmX6 (by decide) wf_146 rfl (by decide +kernel) rfl)) <|
  z_ac (j := 16) rfl (z_eI (sp_aload_n (q := 0) dX7_startAnew_31 rfl rfl)) <|
  z_ac (j := 17) rfl (z_eI (sp_getf (C := RX7) (T := TX7) (Nf := 6) dX7_startAnew_32 rfl inX7 (by decide) wf_198 rfl)) <|
  z_ac (j := 18) rfl (z_eI (sp_iconst dX7_startAnew_35 (by decide +kernel) rfl)) <|
  z_ac (j := 19) rfl (z_cS dX7_startAnew_36 wl_402 qJ7_fill_53178 (by decide +kernel) (z_sn rfl rfl) rfl) <|
  z_ac (j := 20) rfl (z_eI (sp_aload_n (q := 0) dX7_startAnew_39 rfl rfl)) <|
  z_ac (j := 21) rfl (z_eI (sp_iconst dX7_startAnew_40 (by decide +kernel) rfl)) <|
  z_ac (j := 22) rfl (z_eI (sp_putI (C := RX7) (T := TX7) (Nf := 6) dX7_startAnew_41 rfl inX7 tyX7_ok nmX7 (by decide) wf_205 rfl (by decide +kernel) rfl)) <|
  z_ac (j := 23) rfl (z_eW (sv_void dX7_startAnew_44 rfl)) <| z_an
theorem dX7_sightNow_0 : decode cX7_sightNow 0 = .ok (.iconst 0, 1) := by decide +kernel
theorem dX7_sightNow_1 : decode cX7_sightNow 1 = .ok (.aload_n 0, 1) := by decide +kernel
theorem dX7_sightNow_2 : decode cX7_sightNow 2 = .ok (.getfield 50, 3) := by decide +kernel
theorem dX7_sightNow_5 : decode cX7_sightNow 5 = .ok (.aload_n 0, 1) := by decide +kernel
theorem dX7_sightNow_6 : decode cX7_sightNow 6 = .ok (.getfield 32, 3) := by decide +kernel
theorem dX7_sightNow_9 : decode cX7_sightNow 9 = .ok (.aload_n 0, 1) := by decide +kernel
theorem dX7_sightNow_10 : decode cX7_sightNow 10 = .ok (.getfield 54, 3) := by decide +kernel
theorem dX7_sightNow_13 : decode cX7_sightNow 13 = .ok (.bipush 24, 2) := by decide +kernel
theorem dX7_sightNow_15 : decode cX7_sightNow 15 = .ok (.irem, 1) := by decide +kernel
theorem dX7_sightNow_16 : decode cX7_sightNow 16 = .ok (.iaload, 1) := by decide +kernel
theorem dX7_sightNow_17 : decode cX7_sightNow 17 = .ok (.isub, 1) := by decide +kernel
theorem dX7_sightNow_18 : decode cX7_sightNow 18 = .ok (.invokestatic 75, 3) := by decide +kernel
theorem dX7_sightNow_21 : decode cX7_sightNow 21 = .ok (.ireturn, 1) := by decide +kernel
theorem tX7_sightNow {L : Nat} {xs : Nat → Int32} {N : Nat} : z_AllE (zE L xs N 160) 0 (kX7_sightNow N) :=
  z_ac (j := 1) rfl (z_eI (sp_iconst dX7_sightNow_0 (by decide +kernel) rfl)) <|
  z_ac (j := 2) rfl (z_eI (sp_aload_n (q := 0) dX7_sightNow_1 rfl rfl)) <|
  z_ac (j := 3) rfl (z_eI (sp_getf (C := RX7) (T := TX7) (Nf := 6) dX7_sightNow_2 rfl inX7 (by decide) wf_201 rfl)) <|
  z_ac (j := 4) rfl (z_eI (sp_aload_n (q := 0) dX7_sightNow_5 rfl rfl)) <|
  z_ac (j := 5) rfl (z_eI (sp_getf (C := RX7) (T := TX7) (Nf := 6) dX7_sightNow_6 rfl inX7 (by decide) wf_198 rfl)) <|
  z_ac (j := 6) rfl (z_eI (sp_aload_n (q := 0) dX7_sightNow_9 rfl rfl)) <|
  z_ac (j := 7) rfl (z_eI (sp_getf (C := RX7) (T := TX7) (Nf := 6) dX7_sightNow_10 rfl inX7 (by decide) wf_205 rfl)) <|
  z_ac (j := 8) rfl (z_eI (sp_bipush dX7_sightNow_13 (by decide +kernel) rfl)) <|
  z_ac (j := 9) rfl (z_eI (sp_irem dX7_sightNow_15 rfl)) <|
  z_ac (j := 10) rfl (z_eI (sp_iald dX7_sightNow_16 rfl)) <|
  z_ac (j := 11) rfl (z_eI (sp_isub dX7_sightNow_17 rfl)) <|
  z_ac (j := 12) rfl (z_eI (sp_mmax dX7_sightNow_18 wl_538 ws_539 wi_51 wc_540 (by decide) (by decide) rfl)) <|
  z_ac (j := 13) rfl (z_eR (sr_int dX7_sightNow_21 rfl)) <| z_an
theorem dX7_distanceTo_0 : decode cX7_distanceTo 0 = .ok (.aload_n 0, 1) := by decide +kernel
theorem dX7_distanceTo_1 : decode cX7_distanceTo 1 = .ok (.getfield 28, 3) := by decide +kernel
theorem dX7_distanceTo_4 : decode cX7_distanceTo 4 = .ok (.getfield 81, 3) := by decide +kernel
theorem dX7_distanceTo_7 : decode cX7_distanceTo 7 = .ok (.iload_n 1, 1) := by decide +kernel
theorem dX7_distanceTo_8 : decode cX7_distanceTo 8 = .ok (.iaload, 1) := by decide +kernel
theorem dX7_distanceTo_9 : decode cX7_distanceTo 9 = .ok (.istore_n 3, 1) := by decide +kernel
theorem dX7_distanceTo_10 : decode cX7_distanceTo 10 = .ok (.aload_n 0, 1) := by decide +kernel
theorem dX7_distanceTo_11 : decode cX7_distanceTo 11 = .ok (.getfield 21, 3) := by decide +kernel
theorem dX7_distanceTo_14 : decode cX7_distanceTo 14 = .ok (.getfield 84, 3) := by decide +kernel
theorem dX7_distanceTo_17 : decode cX7_distanceTo 17 = .ok (.iload_n 2, 1) := by decide +kernel
theorem dX7_distanceTo_18 : decode cX7_distanceTo 18 = .ok (.iaload, 1) := by decide +kernel
theorem dX7_distanceTo_19 : decode cX7_distanceTo 19 = .ok (.istore 4, 2) := by decide +kernel
theorem dX7_distanceTo_21 : decode cX7_distanceTo 21 = .ok (.iload_n 3, 1) := by decide +kernel
theorem dX7_distanceTo_22 : decode cX7_distanceTo 22 = .ok (.bipush 12, 2) := by decide +kernel
theorem dX7_distanceTo_24 : decode cX7_distanceTo 24 = .ok (.irem, 1) := by decide +kernel
theorem dX7_distanceTo_25 : decode cX7_distanceTo 25 = .ok (.iload 4, 2) := by decide +kernel
theorem dX7_distanceTo_27 : decode cX7_distanceTo 27 = .ok (.bipush 12, 2) := by decide +kernel
theorem dX7_distanceTo_29 : decode cX7_distanceTo 29 = .ok (.irem, 1) := by decide +kernel
theorem dX7_distanceTo_30 : decode cX7_distanceTo 30 = .ok (.isub, 1) := by decide +kernel
theorem dX7_distanceTo_31 : decode cX7_distanceTo 31 = .ok (.invokestatic 85, 3) := by decide +kernel
theorem dX7_distanceTo_34 : decode cX7_distanceTo 34 = .ok (.iload_n 3, 1) := by decide +kernel
theorem dX7_distanceTo_35 : decode cX7_distanceTo 35 = .ok (.bipush 12, 2) := by decide +kernel
theorem dX7_distanceTo_37 : decode cX7_distanceTo 37 = .ok (.idiv, 1) := by decide +kernel
theorem dX7_distanceTo_38 : decode cX7_distanceTo 38 = .ok (.iload 4, 2) := by decide +kernel
theorem dX7_distanceTo_40 : decode cX7_distanceTo 40 = .ok (.bipush 12, 2) := by decide +kernel
theorem dX7_distanceTo_42 : decode cX7_distanceTo 42 = .ok (.idiv, 1) := by decide +kernel
theorem dX7_distanceTo_43 : decode cX7_distanceTo 43 = .ok (.isub, 1) := by decide +kernel
theorem dX7_distanceTo_44 : decode cX7_distanceTo 44 = .ok (.invokestatic 85, 3) := by decide +kernel
theorem dX7_distanceTo_47 : decode cX7_distanceTo 47 = .ok (.iadd, 1) := by decide +kernel
theorem dX7_distanceTo_48 : decode cX7_distanceTo 48 = .ok (.ireturn, 1) := by decide +kernel
theorem tX7_distanceTo {L : Nat} {xs : Nat → Int32} {N : Nat} : z_AllE (zE L xs N 161) 0 (kX7_distanceTo N) :=
  z_ac (j := 1) rfl (z_eI (sp_aload_n (q := 0) dX7_distanceTo_0 rfl rfl)) <|
  z_ac (j := 2) rfl (z_eI (sp_getf (C := RX7) (T := TX7) (Nf := 6) dX7_distanceTo_1 rfl inX7 (by decide) wf_194 rfl)) <|
  z_ac (j := 3) rfl (z_eI (sp_getf (C := RX6) (T := TX6) (Nf := 8) dX7_distanceTo_4 rfl inX6 (by decide) wf_150 rfl)) <|
  z_ac (j := 4) rfl (z_eI (sp_iload_n (q := 1) dX7_distanceTo_7 rfl rfl)) <|
  z_ac (j := 5) rfl (z_eI (sp_iald dX7_distanceTo_8 rfl)) <|
  z_ac (j := 6) rfl (z_eI (sp_istore_n (q := 3) dX7_distanceTo_9 rfl (by decide) (fun _ _ => rfl) rfl)) <|
  z_ac (j := 7) rfl (z_eI (sp_aload_n (q := 0) dX7_distanceTo_10 rfl rfl)) <|
  z_ac (j := 8) rfl (z_eI (sp_getf (C := RX7) (T := TX7) (Nf := 6) dX7_distanceTo_11 rfl inX7 (by decide) wf_190 rfl)) <|
  z_ac (j := 9) rfl (z_eI (sp_getf (C := RX3) (T := TX3) (Nf := 5) dX7_distanceTo_14 rfl inX3 (by decide) wf_118 rfl)) <|
  z_ac (j := 10) rfl (z_eI (sp_iload_n (q := 2) dX7_distanceTo_17 rfl rfl)) <|
  z_ac (j := 11) rfl (z_eI (sp_iald dX7_distanceTo_18 rfl)) <|
  z_ac (j := 12) rfl (z_eI (sp_istore dX7_distanceTo_19 (by decide) (fun _ _ => rfl) rfl)) <|
  z_ac (j := 13) rfl (z_eI (sp_iload_n (q := 3) dX7_distanceTo_21 rfl rfl)) <|
  z_ac (j := 14) rfl (z_eI (sp_bipush dX7_distanceTo_22 (by decide +kernel) rfl)) <|
  z_ac (j := 15) rfl (z_eI (sp_irem dX7_distanceTo_24 rfl)) <|
  z_ac (j := 16) rfl (z_eI (sp_iload dX7_distanceTo_25 rfl)) <|
  z_ac (j := 17) rfl (z_eI (sp_bipush dX7_distanceTo_27 (by decide +kernel) rfl)) <|
  z_ac (j := 18) rfl (z_eI (sp_irem dX7_distanceTo_29 rfl)) <|
  z_ac (j := 19) rfl (z_eI (sp_isub dX7_distanceTo_30 rfl)) <|
  z_ac (j := 20) rfl (z_eI (sp_mabs dX7_distanceTo_31 wl_708 ws_709 wi_51 wc_710 (by decide) (by decide) rfl)) <|
  z_ac (j := 21) rfl (z_eI (sp_iload_n (q := 3) dX7_distanceTo_34 rfl rfl)) <|
  z_ac (j := 22) rfl (z_eI (sp_bipush dX7_distanceTo_35 (by decide +kernel) rfl)) <|
  z_ac (j := 23) rfl (z_eI (sp_idiv dX7_distanceTo_37 rfl)) <|
  z_ac (j := 24) rfl (z_eI (sp_iload dX7_distanceTo_38 rfl)) <|
  z_ac (j := 25) rfl (z_eI (sp_bipush dX7_distanceTo_40 (by decide +kernel) rfl)) <|
  z_ac (j := 26) rfl (z_eI (sp_idiv dX7_distanceTo_42 rfl)) <|
  z_ac (j := 27) rfl (z_eI (sp_isub dX7_distanceTo_43 rfl)) <|
  z_ac (j := 28) rfl (z_eI (sp_mabs dX7_distanceTo_44 wl_708 ws_709 wi_51 wc_710 (by decide) (by decide) rfl)) <|
  z_ac (j := 29) rfl (z_eI (sp_iadd dX7_distanceTo_47 rfl)) <|
  z_ac (j := 30) rfl (z_eR (sr_int dX7_distanceTo_48 rfl)) <| z_an
theorem dX7_nearestAcceptable_0 : decode cX7_nearestAcceptable 0 = .ok (.aload_n 0, 1) := by decide +kernel
theorem dX7_nearestAcceptable_1 : decode cX7_nearestAcceptable 1 = .ok (.invokevirtual 89, 3) := by decide +kernel
theorem dX7_nearestAcceptable_4 : decode cX7_nearestAcceptable 4 = .ok (.istore_n 2, 1) := by decide +kernel
theorem dX7_nearestAcceptable_5 : decode cX7_nearestAcceptable 5 = .ok (.iconst (-1), 1) := by decide +kernel
theorem dX7_nearestAcceptable_6 : decode cX7_nearestAcceptable 6 = .ok (.istore_n 3, 1) := by decide +kernel
theorem dX7_nearestAcceptable_7 : decode cX7_nearestAcceptable 7 = .ok (.iconst 0, 1) := by decide +kernel
theorem dX7_nearestAcceptable_8 : decode cX7_nearestAcceptable 8 = .ok (.istore 4, 2) := by decide +kernel
theorem dX7_nearestAcceptable_10 : decode cX7_nearestAcceptable 10 = .ok (.iconst 0, 1) := by decide +kernel
theorem dX7_nearestAcceptable_11 : decode cX7_nearestAcceptable 11 = .ok (.istore 5, 2) := by decide +kernel
theorem dX7_nearestAcceptable_13 : decode cX7_nearestAcceptable 13 = .ok (.iload 5, 2) := by decide +kernel
theorem dX7_nearestAcceptable_15 : decode cX7_nearestAcceptable 15 = .ok (.aload_n 0, 1) := by decide +kernel
theorem dX7_nearestAcceptable_16 : decode cX7_nearestAcceptable 16 = .ok (.getfield 21, 3) := by decide +kernel
theorem dX7_nearestAcceptable_19 : decode cX7_nearestAcceptable 19 = .ok (.getfield 93, 3) := by decide +kernel
theorem dX7_nearestAcceptable_22 : decode cX7_nearestAcceptable 22 = .ok (.if_icmp .ge 67, 3) := by decide +kernel
theorem dX7_nearestAcceptable_25 : decode cX7_nearestAcceptable 25 = .ok (.aload_n 0, 1) := by decide +kernel
theorem dX7_nearestAcceptable_26 : decode cX7_nearestAcceptable 26 = .ok (.getfield 28, 3) := by decide +kernel
theorem dX7_nearestAcceptable_29 : decode cX7_nearestAcceptable 29 = .ok (.iload_n 1, 1) := by decide +kernel
theorem dX7_nearestAcceptable_30 : decode cX7_nearestAcceptable 30 = .ok (.iload 5, 2) := by decide +kernel
theorem dX7_nearestAcceptable_32 : decode cX7_nearestAcceptable 32 = .ok (.invokevirtual 94, 3) := by decide +kernel
theorem dX7_nearestAcceptable_35 : decode cX7_nearestAcceptable 35 = .ok (.ifCond .ne 48, 3) := by decide +kernel
theorem dX7_nearestAcceptable_38 : decode cX7_nearestAcceptable 38 = .ok (.aload_n 0, 1) := by decide +kernel
theorem dX7_nearestAcceptable_39 : decode cX7_nearestAcceptable 39 = .ok (.iload_n 1, 1) := by decide +kernel
theorem dX7_nearestAcceptable_40 : decode cX7_nearestAcceptable 40 = .ok (.iload 5, 2) := by decide +kernel
theorem dX7_nearestAcceptable_42 : decode cX7_nearestAcceptable 42 = .ok (.invokevirtual 98, 3) := by decide +kernel
theorem dX7_nearestAcceptable_45 : decode cX7_nearestAcceptable 45 = .ok (.istore 6, 2) := by decide +kernel
theorem dX7_nearestAcceptable_47 : decode cX7_nearestAcceptable 47 = .ok (.iload 6, 2) := by decide +kernel
theorem dX7_nearestAcceptable_49 : decode cX7_nearestAcceptable 49 = .ok (.iload_n 2, 1) := by decide +kernel
theorem dX7_nearestAcceptable_50 : decode cX7_nearestAcceptable 50 = .ok (.aload_n 0, 1) := by decide +kernel
theorem dX7_nearestAcceptable_51 : decode cX7_nearestAcceptable 51 = .ok (.getfield 21, 3) := by decide +kernel
theorem dX7_nearestAcceptable_54 : decode cX7_nearestAcceptable 54 = .ok (.getfield 101, 3) := by decide +kernel
theorem dX7_nearestAcceptable_57 : decode cX7_nearestAcceptable 57 = .ok (.iload 5, 2) := by decide +kernel
theorem dX7_nearestAcceptable_59 : decode cX7_nearestAcceptable 59 = .ok (.iaload, 1) := by decide +kernel
theorem dX7_nearestAcceptable_60 : decode cX7_nearestAcceptable 60 = .ok (.iadd, 1) := by decide +kernel
theorem dX7_nearestAcceptable_61 : decode cX7_nearestAcceptable 61 = .ok (.if_icmp .gt 22, 3) := by decide +kernel
theorem dX7_nearestAcceptable_64 : decode cX7_nearestAcceptable 64 = .ok (.iload_n 3, 1) := by decide +kernel
theorem dX7_nearestAcceptable_65 : decode cX7_nearestAcceptable 65 = .ok (.iconst (-1), 1) := by decide +kernel
theorem dX7_nearestAcceptable_66 : decode cX7_nearestAcceptable 66 = .ok (.if_icmp .eq 10, 3) := by decide +kernel
theorem dX7_nearestAcceptable_69 : decode cX7_nearestAcceptable 69 = .ok (.iload 6, 2) := by decide +kernel
theorem dX7_nearestAcceptable_71 : decode cX7_nearestAcceptable 71 = .ok (.iload 4, 2) := by decide +kernel
theorem dX7_nearestAcceptable_73 : decode cX7_nearestAcceptable 73 = .ok (.if_icmp .ge 10, 3) := by decide +kernel
theorem dX7_nearestAcceptable_76 : decode cX7_nearestAcceptable 76 = .ok (.iload 5, 2) := by decide +kernel
theorem dX7_nearestAcceptable_78 : decode cX7_nearestAcceptable 78 = .ok (.istore_n 3, 1) := by decide +kernel
theorem dX7_nearestAcceptable_79 : decode cX7_nearestAcceptable 79 = .ok (.iload 6, 2) := by decide +kernel
theorem dX7_nearestAcceptable_81 : decode cX7_nearestAcceptable 81 = .ok (.istore 4, 2) := by decide +kernel
theorem dX7_nearestAcceptable_83 : decode cX7_nearestAcceptable 83 = .ok (.iinc 5 1, 3) := by decide +kernel
theorem dX7_nearestAcceptable_86 : decode cX7_nearestAcceptable 86 = .ok (.goto (-73), 3) := by decide +kernel
theorem dX7_nearestAcceptable_89 : decode cX7_nearestAcceptable 89 = .ok (.iload_n 3, 1) := by decide +kernel
theorem dX7_nearestAcceptable_90 : decode cX7_nearestAcceptable 90 = .ok (.ireturn, 1) := by decide +kernel
theorem tX7_nearestAcceptable {L : Nat} {xs : Nat → Int32} {N : Nat} : z_AllE (zE L xs N 162) 0 (kX7_nearestAcceptable N) :=
  z_ac (j := 1) rfl (z_eI (sp_aload_n (q := 0) dX7_nearestAcceptable_0 rfl rfl)) <|
  z_ac (j := 2) rfl (z_cV dX7_nearestAcceptable_1 wl_696 qX7_sightNow (by decide +kernel) ⟨_, _, rfl⟩ (z_sn rfl rfl) rfl) <|
  z_ac (j := 3) rfl (z_eI (sp_istore_n (q := 2) dX7_nearestAcceptable_4 rfl (by decide) (fun _ _ => rfl) rfl)) <|
  z_ac (j := 4) rfl (z_eI (sp_iconst dX7_nearestAcceptable_5 (by decide +kernel) rfl)) <|
  z_ac (j := 5) rfl (z_eI (sp_istore_n (q := 3) dX7_nearestAcceptable_6 rfl (by decide) (fun _ _ => rfl) rfl)) <|
  z_ac (j := 6) rfl (z_eI (sp_iconst dX7_nearestAcceptable_7 (by decide +kernel) rfl)) <|
  z_ac (j := 7) rfl (z_eI (sp_istore dX7_nearestAcceptable_8 (by decide) (fun _ _ => rfl) rfl)) <|
  z_ac (j := 8) rfl (z_eI (sp_iconst dX7_nearestAcceptable_10 (by decide +kernel) rfl)) <|
  z_ac (j := 9) rfl (z_eI (sp_istore dX7_nearestAcceptable_11 (by decide) (fun _ _ => rfl) rfl)) <|
  z_ac (j := 10) rfl (z_eI (sp_iload dX7_nearestAcceptable_13 rfl)) <|
  z_ac (j := 11) rfl (z_eI (sp_aload_n (q := 0) dX7_nearestAcceptable_15 rfl rfl)) <|
  z_ac (j := 12) rfl (z_eI (sp_getf (C := RX7) (T := TX7) (Nf := 6) dX7_nearestAcceptable_16 rfl inX7 (by decide) wf_190 rfl)) <|
  z_ac (j := 13) rfl (z_eI (sp_getf (C := RX3) (T := TX3) (Nf := 5) dX7_nearestAcceptable_19 rfl inX3 (by decide) wf_111 rfl)) <|
  z_ac (j := 14) rfl (z_eI (sp_icmp_ge dX7_nearestAcceptable_22 rfl rfl)) <|
  z_ac (j := 15) rfl (z_eI (sp_aload_n (q := 0) dX7_nearestAcceptable_25 rfl rfl)) <|
  z_ac (j := 16) rfl (z_eI (sp_getf (C := RX7) (T := TX7) (Nf := 6) dX7_nearestAcceptable_26 rfl inX7 (by decide) wf_194 rfl)) <|
  z_ac (j := 17) rfl (z_eI (sp_iload_n (q := 1) dX7_nearestAcceptable_29 rfl rfl)) <|
  z_ac (j := 18) rfl (z_eI (sp_iload dX7_nearestAcceptable_30 rfl)) <|
  z_ac (j := 19) rfl (z_cV dX7_nearestAcceptable_32 wl_697 qX6_shuns (by decide +kernel) ⟨_, _, rfl⟩ (z_sn rfl rfl) rfl) <|
  z_ac (j := 20) rfl (z_eI (sp_if_ne dX7_nearestAcceptable_35 rfl rfl)) <|
  z_ac (j := 21) rfl (z_eI (sp_aload_n (q := 0) dX7_nearestAcceptable_38 rfl rfl)) <|
  z_ac (j := 22) rfl (z_eI (sp_iload_n (q := 1) dX7_nearestAcceptable_39 rfl rfl)) <|
  z_ac (j := 23) rfl (z_eI (sp_iload dX7_nearestAcceptable_40 rfl)) <|
  z_ac (j := 24) rfl (z_cV dX7_nearestAcceptable_42 wl_704 qX7_distanceTo (by decide +kernel) ⟨_, _, rfl⟩ (z_sn rfl rfl) rfl) <|
  z_ac (j := 25) rfl (z_eI (sp_istore dX7_nearestAcceptable_45 (by decide) (fun _ _ => rfl) rfl)) <|
  z_ac (j := 26) rfl (z_eI (sp_iload dX7_nearestAcceptable_47 rfl)) <|
  z_ac (j := 27) rfl (z_eI (sp_iload_n (q := 2) dX7_nearestAcceptable_49 rfl rfl)) <|
  z_ac (j := 28) rfl (z_eI (sp_aload_n (q := 0) dX7_nearestAcceptable_50 rfl rfl)) <|
  z_ac (j := 29) rfl (z_eI (sp_getf (C := RX7) (T := TX7) (Nf := 6) dX7_nearestAcceptable_51 rfl inX7 (by decide) wf_190 rfl)) <|
  z_ac (j := 30) rfl (z_eI (sp_getf (C := RX3) (T := TX3) (Nf := 5) dX7_nearestAcceptable_54 rfl inX3 (by decide) wf_121 rfl)) <|
  z_ac (j := 31) rfl (z_eI (sp_iload dX7_nearestAcceptable_57 rfl)) <|
  z_ac (j := 32) rfl (z_eI (sp_iald dX7_nearestAcceptable_59 rfl)) <|
  z_ac (j := 33) rfl (z_eI (sp_iadd dX7_nearestAcceptable_60 rfl)) <|
  z_ac (j := 34) rfl (z_eI (sp_icmp_gt dX7_nearestAcceptable_61 rfl rfl)) <|
  z_ac (j := 35) rfl (z_eI (sp_iload_n (q := 3) dX7_nearestAcceptable_64 rfl rfl)) <|
  z_ac (j := 36) rfl (z_eI (sp_iconst dX7_nearestAcceptable_65 (by decide +kernel) rfl)) <|
  z_ac (j := 37) rfl (z_eI (sp_icmp_eq dX7_nearestAcceptable_66 rfl rfl)) <|
  z_ac (j := 38) rfl (z_eI (sp_iload dX7_nearestAcceptable_69 rfl)) <|
  z_ac (j := 39) rfl (z_eI (sp_iload dX7_nearestAcceptable_71 rfl)) <|
  z_ac (j := 40) rfl (z_eI (sp_icmp_ge dX7_nearestAcceptable_73 rfl rfl)) <|
  z_ac (j := 41) rfl (z_eI (sp_iload dX7_nearestAcceptable_76 rfl)) <|
  z_ac (j := 42) rfl (z_eI (sp_istore_n (q := 3) dX7_nearestAcceptable_78 rfl (by decide) (fun _ _ => rfl) rfl)) <|
  z_ac (j := 43) rfl (z_eI (sp_iload dX7_nearestAcceptable_79 rfl)) <|
  z_ac (j := 44) rfl (z_eI (sp_istore dX7_nearestAcceptable_81 (by decide) (fun _ _ => rfl) rfl)) <|
  z_ac (j := 45) rfl (z_eI (sp_iinc dX7_nearestAcceptable_83 (by decide +kernel) (by decide) (fun _ _ => rfl) rfl)) <|
  z_ac (j := 46) rfl (z_eI (sp_goto dX7_nearestAcceptable_86 rfl)) <|
  z_ac (j := 47) rfl (z_eI (sp_iload_n (q := 3) dX7_nearestAcceptable_89 rfl rfl)) <|
  z_ac (j := 48) rfl (z_eR (sr_int dX7_nearestAcceptable_90 rfl)) <| z_an
theorem dX7_takesLight_0 : decode cX7_takesLight 0 = .ok (.aload_n 0, 1) := by decide +kernel
theorem dX7_takesLight_1 : decode cX7_takesLight 1 = .ok (.getfield 12, 3) := by decide +kernel
theorem dX7_takesLight_4 : decode cX7_takesLight 4 = .ok (.getfield 104, 3) := by decide +kernel
theorem dX7_takesLight_7 : decode cX7_takesLight 7 = .ok (.iload_n 1, 1) := by decide +kernel
theorem dX7_takesLight_8 : decode cX7_takesLight 8 = .ok (.iaload, 1) := by decide +kernel
theorem dX7_takesLight_9 : decode cX7_takesLight 9 = .ok (.ifCond .eq 19, 3) := by decide +kernel
theorem dX7_takesLight_12 : decode cX7_takesLight 12 = .ok (.aload_n 0, 1) := by decide +kernel
theorem dX7_takesLight_13 : decode cX7_takesLight 13 = .ok (.getfield 21, 3) := by decide +kernel
theorem dX7_takesLight_16 : decode cX7_takesLight 16 = .ok (.iload_n 1, 1) := by decide +kernel
theorem dX7_takesLight_17 : decode cX7_takesLight 17 = .ok (.invokevirtual 107, 3) := by decide +kernel
theorem dX7_takesLight_20 : decode cX7_takesLight 20 = .ok (.iconst (-1), 1) := by decide +kernel
theorem dX7_takesLight_21 : decode cX7_takesLight 21 = .ok (.if_icmp .ne 7, 3) := by decide +kernel
theorem dX7_takesLight_24 : decode cX7_takesLight 24 = .ok (.iconst 1, 1) := by decide +kernel
theorem dX7_takesLight_25 : decode cX7_takesLight 25 = .ok (.goto 4, 3) := by decide +kernel
theorem dX7_takesLight_28 : decode cX7_takesLight 28 = .ok (.iconst 0, 1) := by decide +kernel
theorem dX7_takesLight_29 : decode cX7_takesLight 29 = .ok (.ireturn, 1) := by decide +kernel
theorem tX7_takesLight {L : Nat} {xs : Nat → Int32} {N : Nat} : z_AllE (zE L xs N 163) 0 (kX7_takesLight N) :=
  z_ac (j := 1) rfl (z_eI (sp_aload_n (q := 0) dX7_takesLight_0 rfl rfl)) <|
  z_ac (j := 2) rfl (z_eI (sp_getf (C := RX7) (T := TX7) (Nf := 6) dX7_takesLight_1 rfl inX7 (by decide) wf_186 rfl)) <|
  z_ac (j := 3) rfl (z_eI (sp_getf (C := RX1) (T := TX1) (Nf := 3) dX7_takesLight_4 rfl inX1 (by decide) wf_93 rfl)) <|
  z_ac (j := 4) rfl (z_eI (sp_iload_n (q := 1) dX7_takesLight_7 rfl rfl)) <|
  z_ac (j := 5) rfl (z_eI (sp_iald dX7_takesLight_8 rfl)) <|
  z_ac (j := 6) rfl (z_eI (sp_if_eq dX7_takesLight_9 rfl rfl)) <|
  z_ac (j := 7) rfl (z_eI (sp_aload_n (q := 0) dX7_takesLight_12 rfl rfl)) <|
  z_ac (j := 8) rfl (z_eI (sp_getf (C := RX7) (T := TX7) (Nf := 6) dX7_takesLight_13 rfl inX7 (by decide) wf_190 rfl)) <|
  z_ac (j := 9) rfl (z_eI (sp_iload_n (q := 1) dX7_takesLight_16 rfl rfl)) <|
  z_ac (j := 10) rfl (z_cV dX7_takesLight_17 wl_443 qX3_onCell (by decide +kernel) ⟨_, _, rfl⟩ (z_sn rfl rfl) rfl) <|
  z_ac (j := 11) rfl (z_eI (sp_iconst dX7_takesLight_20 (by decide +kernel) rfl)) <|
  z_ac (j := 12) rfl (z_eI (sp_icmp_ne dX7_takesLight_21 rfl rfl)) <|
  z_ac (j := 13) rfl (z_eI (sp_iconst dX7_takesLight_24 (by decide +kernel) rfl)) <|
  z_ac (j := 14) rfl (z_eI (sp_goto dX7_takesLight_25 rfl)) <|
  z_ac (j := 15) rfl (z_eI (sp_iconst dX7_takesLight_28 (by decide +kernel) rfl)) <|
  z_ac (j := 16) rfl (z_eR (sr_bool dX7_takesLight_29 rfl)) <| z_an
theorem tX7_signOf {L : Nat} {xs : Nat → Int32} {N : Nat} : z_AllE (zE L xs N 164) 0 (kX7_signOf N) := z_an
theorem dX0_measureToCell_0 : decode cX0_measureToCell 0 = .ok (.aload_n 0, 1) := by decide +kernel
theorem dX0_measureToCell_1 : decode cX0_measureToCell 1 = .ok (.invokevirtual 18, 3) := by decide +kernel
theorem dX0_measureToCell_4 : decode cX0_measureToCell 4 = .ok (.aload_n 0, 1) := by decide +kernel
theorem dX0_measureToCell_5 : decode cX0_measureToCell 5 = .ok (.aload_n 1, 1) := by decide +kernel
theorem dX0_measureToCell_6 : decode cX0_measureToCell 6 = .ok (.iload_n 2, 1) := by decide +kernel
theorem dX0_measureToCell_7 : decode cX0_measureToCell 7 = .ok (.iconst 0, 1) := by decide +kernel
theorem dX0_measureToCell_8 : decode cX0_measureToCell 8 = .ok (.invokevirtual 21, 3) := by decide +kernel
theorem dX0_measureToCell_11 : decode cX0_measureToCell 11 = .ok (.aload_n 0, 1) := by decide +kernel
theorem dX0_measureToCell_12 : decode cX0_measureToCell 12 = .ok (.aload_n 1, 1) := by decide +kernel
theorem dX0_measureToCell_13 : decode cX0_measureToCell 13 = .ok (.invokevirtual 25, 3) := by decide +kernel
theorem dX0_measureToCell_16 : decode cX0_measureToCell 16 = .ok (.return_, 1) := by decide +kernel
theorem tX0_measureToCell {L : Nat} {xs : Nat → Int32} {N : Nat} : z_AllE (zE L xs N 165) 0 (kX0_measureToCell N) :=
  z_ac (j := 1) rfl (z_eI (sp_aload_n (q := 0) dX0_measureToCell_0 rfl rfl)) <|
  z_ac (j := 2) rfl (z_cV dX0_measureToCell_1 wl_723 qX0_forgetPaths (by decide +kernel) ⟨_, _, rfl⟩ (z_sn rfl rfl) rfl) <|
  z_ac (j := 3) rfl (z_eI (sp_aload_n (q := 0) dX0_measureToCell_4 rfl rfl)) <|
  z_ac (j := 4) rfl (z_eI (sp_aload_n (q := 1) dX0_measureToCell_5 rfl rfl)) <|
  z_ac (j := 5) rfl (z_eI (sp_iload_n (q := 2) dX0_measureToCell_6 rfl rfl)) <|
  z_ac (j := 6) rfl (z_eI (sp_iconst dX0_measureToCell_7 (by decide +kernel) rfl)) <|
  z_ac (j := 7) rfl (z_cV dX0_measureToCell_8 wl_728 qX0_reach (by decide +kernel) ⟨_, _, rfl⟩ (z_sn rfl rfl) rfl) <|
  z_ac (j := 8) rfl (z_eI (sp_aload_n (q := 0) dX0_measureToCell_11 rfl rfl)) <|
  z_ac (j := 9) rfl (z_eI (sp_aload_n (q := 1) dX0_measureToCell_12 rfl rfl)) <|
  z_ac (j := 10) rfl (z_cV dX0_measureToCell_13 wl_732 qX0_spread (by decide +kernel) ⟨_, _, rfl⟩ (z_sn rfl rfl) rfl) <|
  z_ac (j := 11) rfl (z_eW (sv_void dX0_measureToCell_16 rfl)) <| z_an
theorem dX0_measureToHuts_0 : decode cX0_measureToHuts 0 = .ok (.aload_n 0, 1) := by decide +kernel
theorem dX0_measureToHuts_1 : decode cX0_measureToHuts 1 = .ok (.invokevirtual 18, 3) := by decide +kernel
theorem dX0_measureToHuts_4 : decode cX0_measureToHuts 4 = .ok (.iconst 0, 1) := by decide +kernel
theorem dX0_measureToHuts_5 : decode cX0_measureToHuts 5 = .ok (.istore_n 2, 1) := by decide +kernel
theorem dX0_measureToHuts_6 : decode cX0_measureToHuts 6 = .ok (.iload_n 2, 1) := by decide +kernel
theorem dX0_measureToHuts_7 : decode cX0_measureToHuts 7 = .ok (.aload_n 1, 1) := by decide +kernel
theorem dX0_measureToHuts_8 : decode cX0_measureToHuts 8 = .ok (.getfield 29, 3) := by decide +kernel
theorem dX0_measureToHuts_11 : decode cX0_measureToHuts 11 = .ok (.if_icmp .ge 52, 3) := by decide +kernel
theorem dX0_measureToHuts_14 : decode cX0_measureToHuts 14 = .ok (.iconst 0, 1) := by decide +kernel
theorem dX0_measureToHuts_15 : decode cX0_measureToHuts 15 = .ok (.istore_n 3, 1) := by decide +kernel
theorem dX0_measureToHuts_16 : decode cX0_measureToHuts 16 = .ok (.iload_n 3, 1) := by decide +kernel
theorem dX0_measureToHuts_17 : decode cX0_measureToHuts 17 = .ok (.aload_n 1, 1) := by decide +kernel
theorem dX0_measureToHuts_18 : decode cX0_measureToHuts 18 = .ok (.getfield 35, 3) := by decide +kernel
theorem dX0_measureToHuts_21 : decode cX0_measureToHuts 21 = .ok (.if_icmp .ge 36, 3) := by decide +kernel
theorem dX0_measureToHuts_24 : decode cX0_measureToHuts 24 = .ok (.iload_n 3, 1) := by decide +kernel
theorem dX0_measureToHuts_25 : decode cX0_measureToHuts 25 = .ok (.iload_n 2, 1) := by decide +kernel
theorem dX0_measureToHuts_26 : decode cX0_measureToHuts 26 = .ok (.invokestatic 38, 3) := by decide +kernel
theorem dX0_measureToHuts_29 : decode cX0_measureToHuts 29 = .ok (.istore 4, 2) := by decide +kernel
theorem dX0_measureToHuts_31 : decode cX0_measureToHuts 31 = .ok (.aload_n 1, 1) := by decide +kernel
theorem dX0_measureToHuts_32 : decode cX0_measureToHuts 32 = .ok (.getfield 42, 3) := by decide +kernel
theorem dX0_measureToHuts_35 : decode cX0_measureToHuts 35 = .ok (.iload 4, 2) := by decide +kernel
theorem dX0_measureToHuts_37 : decode cX0_measureToHuts 37 = .ok (.iaload, 1) := by decide +kernel
theorem dX0_measureToHuts_38 : decode cX0_measureToHuts 38 = .ok (.bipush 11, 2) := by decide +kernel
theorem dX0_measureToHuts_40 : decode cX0_measureToHuts 40 = .ok (.if_icmp .ne 11, 3) := by decide +kernel
theorem dX0_measureToHuts_43 : decode cX0_measureToHuts 43 = .ok (.aload_n 0, 1) := by decide +kernel
theorem dX0_measureToHuts_44 : decode cX0_measureToHuts 44 = .ok (.aload_n 1, 1) := by decide +kernel
theorem dX0_measureToHuts_45 : decode cX0_measureToHuts 45 = .ok (.iload 4, 2) := by decide +kernel
theorem dX0_measureToHuts_47 : decode cX0_measureToHuts 47 = .ok (.iconst 0, 1) := by decide +kernel
theorem dX0_measureToHuts_48 : decode cX0_measureToHuts 48 = .ok (.invokevirtual 21, 3) := by decide +kernel
theorem dX0_measureToHuts_51 : decode cX0_measureToHuts 51 = .ok (.iinc 3 1, 3) := by decide +kernel
theorem dX0_measureToHuts_54 : decode cX0_measureToHuts 54 = .ok (.goto (-38), 3) := by decide +kernel
theorem dX0_measureToHuts_57 : decode cX0_measureToHuts 57 = .ok (.iinc 2 1, 3) := by decide +kernel
theorem dX0_measureToHuts_60 : decode cX0_measureToHuts 60 = .ok (.goto (-54), 3) := by decide +kernel
theorem dX0_measureToHuts_63 : decode cX0_measureToHuts 63 = .ok (.aload_n 0, 1) := by decide +kernel
theorem dX0_measureToHuts_64 : decode cX0_measureToHuts 64 = .ok (.aload_n 1, 1) := by decide +kernel
theorem dX0_measureToHuts_65 : decode cX0_measureToHuts 65 = .ok (.invokevirtual 25, 3) := by decide +kernel
theorem dX0_measureToHuts_68 : decode cX0_measureToHuts 68 = .ok (.return_, 1) := by decide +kernel
theorem tX0_measureToHuts {L : Nat} {xs : Nat → Int32} {N : Nat} : z_AllE (zE L xs N 166) 0 (kX0_measureToHuts N) :=
  z_ac (j := 1) rfl (z_eI (sp_aload_n (q := 0) dX0_measureToHuts_0 rfl rfl)) <|
  z_ac (j := 2) rfl (z_cV dX0_measureToHuts_1 wl_723 qX0_forgetPaths (by decide +kernel) ⟨_, _, rfl⟩ (z_sn rfl rfl) rfl) <|
  z_ac (j := 3) rfl (z_eI (sp_iconst dX0_measureToHuts_4 (by decide +kernel) rfl)) <|
  z_ac (j := 4) rfl (z_eI (sp_istore_n (q := 2) dX0_measureToHuts_5 rfl (by decide) (fun _ _ => rfl) rfl)) <|
  z_ac (j := 5) rfl (z_eI (sp_iload_n (q := 2) dX0_measureToHuts_6 rfl rfl)) <|
  z_ac (j := 6) rfl (z_eI (sp_aload_n (q := 1) dX0_measureToHuts_7 rfl rfl)) <|
  z_ac (j := 7) rfl (z_eI (sp_getf (C := RX1) (T := TX1) (Nf := 3) dX0_measureToHuts_8 rfl inX1 (by decide) wf_86 rfl)) <|
  z_ac (j := 8) rfl (z_eI (sp_icmp_ge dX0_measureToHuts_11 rfl rfl)) <|
  z_ac (j := 9) rfl (z_eI (sp_iconst dX0_measureToHuts_14 (by decide +kernel) rfl)) <|
  z_ac (j := 10) rfl (z_eI (sp_istore_n (q := 3) dX0_measureToHuts_15 rfl (by decide) (fun _ _ => rfl) rfl)) <|
  z_ac (j := 11) rfl (z_eI (sp_iload_n (q := 3) dX0_measureToHuts_16 rfl rfl)) <|
  z_ac (j := 12) rfl (z_eI (sp_aload_n (q := 1) dX0_measureToHuts_17 rfl rfl)) <|
  z_ac (j := 13) rfl (z_eI (sp_getf (C := RX1) (T := TX1) (Nf := 3) dX0_measureToHuts_18 rfl inX1 (by decide) wf_82 rfl)) <|
  z_ac (j := 14) rfl (z_eI (sp_icmp_ge dX0_measureToHuts_21 rfl rfl)) <|
  z_ac (j := 15) rfl (z_eI (sp_iload_n (q := 3) dX0_measureToHuts_24 rfl rfl)) <|
  z_ac (j := 16) rfl (z_eI (sp_iload_n (q := 2) dX0_measureToHuts_25 rfl rfl)) <|
  z_ac (j := 17) rfl (z_cN (host := "FalseLightMarsh") dX0_measureToHuts_26 (by decide +kernel) qX8_cellAt (by decide +kernel) (z_sn rfl rfl) rfl) <|
  z_ac (j := 18) rfl (z_eI (sp_istore dX0_measureToHuts_29 (by decide) (fun _ _ => rfl) rfl)) <|
  z_ac (j := 19) rfl (z_eI (sp_aload_n (q := 1) dX0_measureToHuts_31 rfl rfl)) <|
  z_ac (j := 20) rfl (z_eI (sp_getf (C := RX1) (T := TX1) (Nf := 3) dX0_measureToHuts_32 rfl inX1 (by decide) wf_91 rfl)) <|
  z_ac (j := 21) rfl (z_eI (sp_iload dX0_measureToHuts_35 rfl)) <|
  z_ac (j := 22) rfl (z_eI (sp_iald dX0_measureToHuts_37 rfl)) <|
  z_ac (j := 23) rfl (z_eI (sp_bipush dX0_measureToHuts_38 (by decide +kernel) rfl)) <|
  z_ac (j := 24) rfl (z_eI (sp_icmp_ne dX0_measureToHuts_40 rfl rfl)) <|
  z_ac (j := 25) rfl (z_eI (sp_aload_n (q := 0) dX0_measureToHuts_43 rfl rfl)) <|
  z_ac (j := 26) rfl (z_eI (sp_aload_n (q := 1) dX0_measureToHuts_44 rfl rfl)) <|
  z_ac (j := 27) rfl (z_eI (sp_iload dX0_measureToHuts_45 rfl)) <|
  z_ac (j := 28) rfl (z_eI (sp_iconst dX0_measureToHuts_47 (by decide +kernel) rfl)) <|
  z_ac (j := 29) rfl (z_cV dX0_measureToHuts_48 wl_728 qX0_reach (by decide +kernel) ⟨_, _, rfl⟩ (z_sn rfl rfl) rfl) <|
  z_ac (j := 30) rfl (z_eI (sp_iinc dX0_measureToHuts_51 (by decide +kernel) (by decide) (fun _ _ => rfl) rfl)) <|
  z_ac (j := 31) rfl (z_eI (sp_goto dX0_measureToHuts_54 rfl)) <|
  z_ac (j := 32) rfl (z_eI (sp_iinc dX0_measureToHuts_57 (by decide +kernel) (by decide) (fun _ _ => rfl) rfl)) <|
  z_ac (j := 33) rfl (z_eI (sp_goto dX0_measureToHuts_60 rfl)) <|
  z_ac (j := 34) rfl (z_eI (sp_aload_n (q := 0) dX0_measureToHuts_63 rfl rfl)) <|
  z_ac (j := 35) rfl (z_eI (sp_aload_n (q := 1) dX0_measureToHuts_64 rfl rfl)) <|
  z_ac (j := 36) rfl (z_cV dX0_measureToHuts_65 wl_732 qX0_spread (by decide +kernel) ⟨_, _, rfl⟩ (z_sn rfl rfl) rfl) <|
  z_ac (j := 37) rfl (z_eW (sv_void dX0_measureToHuts_68 rfl)) <| z_an
theorem dX0_forgetPaths_0 : decode cX0_forgetPaths 0 = .ok (.aload_n 0, 1) := by decide +kernel
theorem dX0_forgetPaths_1 : decode cX0_forgetPaths 1 = .ok (.getfield 9, 3) := by decide +kernel
theorem dX0_forgetPaths_4 : decode cX0_forgetPaths 4 = .ok (.iconst (-1), 1) := by decide +kernel
theorem dX0_forgetPaths_5 : decode cX0_forgetPaths 5 = .ok (.invokestatic 45, 3) := by decide +kernel
theorem dX0_forgetPaths_8 : decode cX0_forgetPaths 8 = .ok (.aload_n 0, 1) := by decide +kernel
theorem dX0_forgetPaths_9 : decode cX0_forgetPaths 9 = .ok (.iconst 0, 1) := by decide +kernel
theorem dX0_forgetPaths_10 : decode cX0_forgetPaths 10 = .ok (.putfield 51, 3) := by decide +kernel
theorem dX0_forgetPaths_13 : decode cX0_forgetPaths 13 = .ok (.return_, 1) := by decide +kernel
theorem tX0_forgetPaths {L : Nat} {xs : Nat → Int32} {N : Nat} : z_AllE (zE L xs N 167) 0 (kX0_forgetPaths N) :=
  z_ac (j := 1) rfl (z_eI (sp_aload_n (q := 0) dX0_forgetPaths_0 rfl rfl)) <|
  z_ac (j := 2) rfl (z_eI (sp_getf (C := RX0) (T := TX0) (Nf := 4) dX0_forgetPaths_1 rfl inX0 (by decide) wf_284 rfl)) <|
  z_ac (j := 3) rfl (z_eI (sp_iconst dX0_forgetPaths_4 (by decide +kernel) rfl)) <|
  z_ac (j := 4) rfl (z_cS dX0_forgetPaths_5 wl_727 qJ7_fill_53178 (by decide +kernel) (z_sn rfl rfl) rfl) <|
  z_ac (j := 5) rfl (z_eI (sp_aload_n (q := 0) dX0_forgetPaths_8 rfl rfl)) <|
  z_ac (j := 6) rfl (z_eI (sp_iconst dX0_forgetPaths_9 (by decide +kernel) rfl)) <|
  z_ac (j := 7) rfl (z_eI (sp_putI (C := RX0) (T := TX0) (Nf := 4) dX0_forgetPaths_10 rfl inX0 tyX0_ok nmX0 (by decide) wf_289 rfl (by decide +kernel) rfl)) <|
  z_ac (j := 8) rfl (z_eW (sv_void dX0_forgetPaths_13 rfl)) <| z_an
theorem dX0_spread_0 : decode cX0_spread 0 = .ok (.iconst 0, 1) := by decide +kernel
theorem dX0_spread_1 : decode cX0_spread 1 = .ok (.istore_n 2, 1) := by decide +kernel
theorem dX0_spread_2 : decode cX0_spread 2 = .ok (.iload_n 2, 1) := by decide +kernel
theorem dX0_spread_3 : decode cX0_spread 3 = .ok (.sipush 144, 3) := by decide +kernel
theorem dX0_spread_6 : decode cX0_spread 6 = .ok (.if_icmp .ge 69, 3) := by decide +kernel
theorem dX0_spread_9 : decode cX0_spread 9 = .ok (.iload_n 2, 1) := by decide +kernel
theorem dX0_spread_10 : decode cX0_spread 10 = .ok (.aload_n 0, 1) := by decide +kernel
theorem dX0_spread_11 : decode cX0_spread 11 = .ok (.getfield 51, 3) := by decide +kernel
theorem dX0_spread_14 : decode cX0_spread 14 = .ok (.if_icmp .ge 61, 3) := by decide +kernel
theorem dX0_spread_17 : decode cX0_spread 17 = .ok (.aload_n 0, 1) := by decide +kernel
theorem dX0_spread_18 : decode cX0_spread 18 = .ok (.getfield 15, 3) := by decide +kernel
theorem dX0_spread_21 : decode cX0_spread 21 = .ok (.iload_n 2, 1) := by decide +kernel
theorem dX0_spread_22 : decode cX0_spread 22 = .ok (.iaload, 1) := by decide +kernel
theorem dX0_spread_23 : decode cX0_spread 23 = .ok (.istore_n 3, 1) := by decide +kernel
theorem dX0_spread_24 : decode cX0_spread 24 = .ok (.iconst 0, 1) := by decide +kernel
theorem dX0_spread_25 : decode cX0_spread 25 = .ok (.istore 4, 2) := by decide +kernel
theorem dX0_spread_27 : decode cX0_spread 27 = .ok (.iload 4, 2) := by decide +kernel
theorem dX0_spread_29 : decode cX0_spread 29 = .ok (.iconst 4, 1) := by decide +kernel
theorem dX0_spread_30 : decode cX0_spread 30 = .ok (.if_icmp .ge 39, 3) := by decide +kernel
theorem dX0_spread_33 : decode cX0_spread 33 = .ok (.aload_n 1, 1) := by decide +kernel
theorem dX0_spread_34 : decode cX0_spread 34 = .ok (.iload_n 3, 1) := by decide +kernel
theorem dX0_spread_35 : decode cX0_spread 35 = .ok (.iload 4, 2) := by decide +kernel
theorem dX0_spread_37 : decode cX0_spread 37 = .ok (.invokevirtual 54, 3) := by decide +kernel
theorem dX0_spread_40 : decode cX0_spread 40 = .ok (.istore 5, 2) := by decide +kernel
theorem dX0_spread_42 : decode cX0_spread 42 = .ok (.iload 5, 2) := by decide +kernel
theorem dX0_spread_44 : decode cX0_spread 44 = .ok (.iconst (-1), 1) := by decide +kernel
theorem dX0_spread_45 : decode cX0_spread 45 = .ok (.if_icmp .eq 18, 3) := by decide +kernel
theorem dX0_spread_48 : decode cX0_spread 48 = .ok (.aload_n 0, 1) := by decide +kernel
theorem dX0_spread_49 : decode cX0_spread 49 = .ok (.aload_n 1, 1) := by decide +kernel
theorem dX0_spread_50 : decode cX0_spread 50 = .ok (.iload 5, 2) := by decide +kernel
theorem dX0_spread_52 : decode cX0_spread 52 = .ok (.aload_n 0, 1) := by decide +kernel
theorem dX0_spread_53 : decode cX0_spread 53 = .ok (.getfield 9, 3) := by decide +kernel
theorem dX0_spread_56 : decode cX0_spread 56 = .ok (.iload_n 3, 1) := by decide +kernel
theorem dX0_spread_57 : decode cX0_spread 57 = .ok (.iaload, 1) := by decide +kernel
theorem dX0_spread_58 : decode cX0_spread 58 = .ok (.iconst 1, 1) := by decide +kernel
theorem dX0_spread_59 : decode cX0_spread 59 = .ok (.iadd, 1) := by decide +kernel
theorem dX0_spread_60 : decode cX0_spread 60 = .ok (.invokevirtual 21, 3) := by decide +kernel
theorem dX0_spread_63 : decode cX0_spread 63 = .ok (.iinc 4 1, 3) := by decide +kernel
theorem dX0_spread_66 : decode cX0_spread 66 = .ok (.goto (-39), 3) := by decide +kernel
theorem dX0_spread_69 : decode cX0_spread 69 = .ok (.iinc 2 1, 3) := by decide +kernel
theorem dX0_spread_72 : decode cX0_spread 72 = .ok (.goto (-70), 3) := by decide +kernel
theorem dX0_spread_75 : decode cX0_spread 75 = .ok (.aload_n 0, 1) := by decide +kernel
theorem dX0_spread_76 : decode cX0_spread 76 = .ok (.iconst 1, 1) := by decide +kernel
theorem dX0_spread_77 : decode cX0_spread 77 = .ok (.putfield 57, 3) := by decide +kernel
theorem dX0_spread_80 : decode cX0_spread 80 = .ok (.return_, 1) := by decide +kernel
theorem tX0_spread {L : Nat} {xs : Nat → Int32} {N : Nat} : z_AllE (zE L xs N 168) 0 (kX0_spread N) :=
  z_ac (j := 1) rfl (z_eI (sp_iconst dX0_spread_0 (by decide +kernel) rfl)) <|
  z_ac (j := 2) rfl (z_eI (sp_istore_n (q := 2) dX0_spread_1 rfl (by decide) (fun _ _ => rfl) rfl)) <|
  z_ac (j := 3) rfl (z_eI (sp_iload_n (q := 2) dX0_spread_2 rfl rfl)) <|
  z_ac (j := 4) rfl (z_eI (sp_sipush dX0_spread_3 (by decide +kernel) rfl)) <|
  z_ac (j := 5) rfl (z_eI (sp_icmp_ge dX0_spread_6 rfl rfl)) <|
  z_ac (j := 6) rfl (z_eI (sp_iload_n (q := 2) dX0_spread_9 rfl rfl)) <|
  z_ac (j := 7) rfl (z_eI (sp_aload_n (q := 0) dX0_spread_10 rfl rfl)) <|
  z_ac (j := 8) rfl (z_eI (sp_getf (C := RX0) (T := TX0) (Nf := 4) dX0_spread_11 rfl inX0 (by decide) wf_289 rfl)) <|
  z_ac (j := 9) rfl (z_eI (sp_icmp_ge dX0_spread_14 rfl rfl)) <|
  z_ac (j := 10) rfl (z_eI (sp_aload_n (q := 0) dX0_spread_17 rfl rfl)) <|
  z_ac (j := 11) rfl (z_eI (sp_getf (C := RX0) (T := TX0) (Nf := 4) dX0_spread_18 rfl inX0 (by decide) wf_288 rfl)) <|
  z_ac (j := 12) rfl (z_eI (sp_iload_n (q := 2) dX0_spread_21 rfl rfl)) <|
  z_ac (j := 13) rfl (z_eI (sp_iald dX0_spread_22 rfl)) <|
  z_ac (j := 14) rfl (z_eI (sp_istore_n (q := 3) dX0_spread_23 rfl (by decide) (fun _ _ => rfl) rfl)) <|
  z_ac (j := 15) rfl (z_eI (sp_iconst dX0_spread_24 (by decide +kernel) rfl)) <|
  z_ac (j := 16) rfl (z_eI (sp_istore dX0_spread_25 (by decide) (fun _ _ => rfl) rfl)) <|
  z_ac (j := 17) rfl (z_eI (sp_iload dX0_spread_27 rfl)) <|
  z_ac (j := 18) rfl (z_eI (sp_iconst dX0_spread_29 (by decide +kernel) rfl)) <|
  z_ac (j := 19) rfl (z_eI (sp_icmp_ge dX0_spread_30 rfl rfl)) <|
  z_ac (j := 20) rfl (z_eI (sp_aload_n (q := 1) dX0_spread_33 rfl rfl)) <|
  z_ac (j := 21) rfl (z_eI (sp_iload_n (q := 3) dX0_spread_34 rfl rfl)) <|
  z_ac (j := 22) rfl (z_eI (sp_iload dX0_spread_35 rfl)) <|
  z_ac (j := 23) rfl (z_cV dX0_spread_37 wl_736 qX1_neighbour (by decide +kernel) ⟨_, _, rfl⟩ (z_sn rfl rfl) rfl) <|
  z_ac (j := 24) rfl (z_eI (sp_istore dX0_spread_40 (by decide) (fun _ _ => rfl) rfl)) <|
  z_ac (j := 25) rfl (z_eI (sp_iload dX0_spread_42 rfl)) <|
  z_ac (j := 26) rfl (z_eI (sp_iconst dX0_spread_44 (by decide +kernel) rfl)) <|
  z_ac (j := 27) rfl (z_eI (sp_icmp_eq dX0_spread_45 rfl rfl)) <|
  z_ac (j := 28) rfl (z_eI (sp_aload_n (q := 0) dX0_spread_48 rfl rfl)) <|
  z_ac (j := 29) rfl (z_eI (sp_aload_n (q := 1) dX0_spread_49 rfl rfl)) <|
  z_ac (j := 30) rfl (z_eI (sp_iload dX0_spread_50 rfl)) <|
  z_ac (j := 31) rfl (z_eI (sp_aload_n (q := 0) dX0_spread_52 rfl rfl)) <|
  z_ac (j := 32) rfl (z_eI (sp_getf (C := RX0) (T := TX0) (Nf := 4) dX0_spread_53 rfl inX0 (by decide) wf_284 rfl)) <|
  z_ac (j := 33) rfl (z_eI (sp_iload_n (q := 3) dX0_spread_56 rfl rfl)) <|
  z_ac (j := 34) rfl (z_eI (sp_iald dX0_spread_57 rfl)) <|
  z_ac (j := 35) rfl (z_eI (sp_iconst dX0_spread_58 (by decide +kernel) rfl)) <|
  z_ac (j := 36) rfl (z_eI (sp_iadd dX0_spread_59 rfl)) <|
  z_ac (j := 37) rfl (z_cV dX0_spread_60 wl_728 qX0_reach (by decide +kernel) ⟨_, _, rfl⟩ (z_sn rfl rfl) rfl) <|
  z_ac (j := 38) rfl (z_eI (sp_iinc dX0_spread_63 (by decide +kernel) (by decide) (fun _ _ => rfl) rfl)) <|
  z_ac (j := 39) rfl (z_eI (sp_goto dX0_spread_66 rfl)) <|
  z_ac (j := 40) rfl (z_eI (sp_iinc dX0_spread_69 (by decide +kernel) (by decide) (fun _ _ => rfl) rfl)) <|
  z_ac (j := 41) rfl (z_eI (sp_goto dX0_spread_72 rfl)) <|
  z_ac (j := 42) rfl (z_eI (sp_aload_n (q := 0) dX0_spread_75 rfl rfl)) <|
  z_ac (j := 43) rfl (z_eI (sp_iconst dX0_spread_76 (by decide +kernel) rfl)) <|
  z_ac (j := 44) rfl (z_eI (sp_putZ (C := RX0) (T := TX0) (Nf := 4) dX0_spread_77 rfl inX0 tyX0_ok nmX0 (by decide) wf_287 rfl (by decide +kernel) rfl)) <|
  z_ac (j := 45) rfl (z_eW (sv_void dX0_spread_80 rfl)) <| z_an
theorem dX0_reach_0 : decode cX0_reach 0 = .ok (.aload_n 0, 1) := by decide +kernel
theorem dX0_reach_1 : decode cX0_reach 1 = .ok (.getfield 9, 3) := by decide +kernel
theorem dX0_reach_4 : decode cX0_reach 4 = .ok (.iload_n 2, 1) := by decide +kernel
theorem dX0_reach_5 : decode cX0_reach 5 = .ok (.iaload, 1) := by decide +kernel
theorem dX0_reach_6 : decode cX0_reach 6 = .ok (.iconst (-1), 1) := by decide +kernel
theorem dX0_reach_7 : decode cX0_reach 7 = .ok (.if_icmp .eq 4, 3) := by decide +kernel
theorem dX0_reach_10 : decode cX0_reach 10 = .ok (.return_, 1) := by decide +kernel
theorem dX0_reach_11 : decode cX0_reach 11 = .ok (.aload_n 0, 1) := by decide +kernel
theorem dX0_reach_12 : decode cX0_reach 12 = .ok (.getfield 9, 3) := by decide +kernel
theorem dX0_reach_15 : decode cX0_reach 15 = .ok (.iload_n 2, 1) := by decide +kernel
theorem dX0_reach_16 : decode cX0_reach 16 = .ok (.iload_n 3, 1) := by decide +kernel
theorem dX0_reach_17 : decode cX0_reach 17 = .ok (.iastore, 1) := by decide +kernel
theorem dX0_reach_18 : decode cX0_reach 18 = .ok (.aload_n 1, 1) := by decide +kernel
theorem dX0_reach_19 : decode cX0_reach 19 = .ok (.getfield 42, 3) := by decide +kernel
theorem dX0_reach_22 : decode cX0_reach 22 = .ok (.iload_n 2, 1) := by decide +kernel
theorem dX0_reach_23 : decode cX0_reach 23 = .ok (.iaload, 1) := by decide +kernel
theorem dX0_reach_24 : decode cX0_reach 24 = .ok (.ifCond .eq 33, 3) := by decide +kernel
theorem dX0_reach_27 : decode cX0_reach 27 = .ok (.aload_n 0, 1) := by decide +kernel
theorem dX0_reach_28 : decode cX0_reach 28 = .ok (.getfield 51, 3) := by decide +kernel
theorem dX0_reach_31 : decode cX0_reach 31 = .ok (.sipush 144, 3) := by decide +kernel
theorem dX0_reach_34 : decode cX0_reach 34 = .ok (.if_icmp .ge 23, 3) := by decide +kernel
theorem dX0_reach_37 : decode cX0_reach 37 = .ok (.aload_n 0, 1) := by decide +kernel
theorem dX0_reach_38 : decode cX0_reach 38 = .ok (.getfield 15, 3) := by decide +kernel
theorem dX0_reach_41 : decode cX0_reach 41 = .ok (.aload_n 0, 1) := by decide +kernel
theorem dX0_reach_42 : decode cX0_reach 42 = .ok (.getfield 51, 3) := by decide +kernel
theorem dX0_reach_45 : decode cX0_reach 45 = .ok (.iload_n 2, 1) := by decide +kernel
theorem dX0_reach_46 : decode cX0_reach 46 = .ok (.iastore, 1) := by decide +kernel
theorem dX0_reach_47 : decode cX0_reach 47 = .ok (.aload_n 0, 1) := by decide +kernel
theorem dX0_reach_48 : decode cX0_reach 48 = .ok (.dup, 1) := by decide +kernel
theorem dX0_reach_49 : decode cX0_reach 49 = .ok (.getfield 51, 3) := by decide +kernel
theorem dX0_reach_52 : decode cX0_reach 52 = .ok (.iconst 1, 1) := by decide +kernel
theorem dX0_reach_53 : decode cX0_reach 53 = .ok (.iadd, 1) := by decide +kernel
theorem dX0_reach_54 : decode cX0_reach 54 = .ok (.putfield 51, 3) := by decide +kernel
theorem dX0_reach_57 : decode cX0_reach 57 = .ok (.return_, 1) := by decide +kernel
theorem tX0_reach {L : Nat} {xs : Nat → Int32} {N : Nat} : z_AllE (zE L xs N 169) 0 (kX0_reach N) :=
  z_ac (j := 1) rfl (z_eI (sp_aload_n (q := 0) dX0_reach_0 rfl rfl)) <|
  z_ac (j := 2) rfl (z_eI (sp_getf (C := RX0) (T := TX0) (Nf := 4) dX0_reach_1 rfl inX0 (by decide) wf_284 rfl)) <|
  z_ac (j := 3) rfl (z_eI (sp_iload_n (q := 2) dX0_reach_4 rfl rfl)) <|
  z_ac (j := 4) rfl (z_eI (sp_iald dX0_reach_5 rfl)) <|
  z_ac (j := 5) rfl (z_eI (sp_iconst dX0_reach_6 (by decide +kernel) rfl)) <|
  z_ac (j := 6) rfl (z_eI (sp_icmp_eq dX0_reach_7 rfl rfl)) <|
  z_ac (j := 7) rfl (z_eW (sv_void dX0_reach_10 rfl)) <|
  z_ac (j := 8) rfl (z_eI (sp_aload_n (q := 0) dX0_reach_11 rfl rfl)) <|
  z_ac (j := 9) rfl (z_eI (sp_getf (C := RX0) (T := TX0) (Nf := 4) dX0_reach_12 rfl inX0 (by decide) wf_284 rfl)) <|
  z_ac (j := 10) rfl (z_eI (sp_iload_n (q := 2) dX0_reach_15 rfl rfl)) <|
  z_ac (j := 11) rfl (z_eI (sp_iload_n (q := 3) dX0_reach_16 rfl rfl)) <|
  z_ac (j := 12) rfl (z_eI (sp_iast dX0_reach_17 rfl)) <|
  z_ac (j := 13) rfl (z_eI (sp_aload_n (q := 1) dX0_reach_18 rfl rfl)) <|
  z_ac (j := 14) rfl (z_eI (sp_getf (C := RX1) (T := TX1) (Nf := 3) dX0_reach_19 rfl inX1 (by decide) wf_91 rfl)) <|
  z_ac (j := 15) rfl (z_eI (sp_iload_n (q := 2) dX0_reach_22 rfl rfl)) <|
  z_ac (j := 16) rfl (z_eI (sp_iald dX0_reach_23 rfl)) <|
  z_ac (j := 17) rfl (z_eI (sp_if_eq dX0_reach_24 rfl rfl)) <|
  z_ac (j := 18) rfl (z_eI (sp_aload_n (q := 0) dX0_reach_27 rfl rfl)) <|
  z_ac (j := 19) rfl (z_eI (sp_getf (C := RX0) (T := TX0) (Nf := 4) dX0_reach_28 rfl inX0 (by decide) wf_289 rfl)) <|
  z_ac (j := 20) rfl (z_eI (sp_sipush dX0_reach_31 (by decide +kernel) rfl)) <|
  z_ac (j := 21) rfl (z_eI (sp_icmp_ge dX0_reach_34 rfl rfl)) <|
  z_ac (j := 22) rfl (z_eI (sp_aload_n (q := 0) dX0_reach_37 rfl rfl)) <|
  z_ac (j := 23) rfl (z_eI (sp_getf (C := RX0) (T := TX0) (Nf := 4) dX0_reach_38 rfl inX0 (by decide) wf_288 rfl)) <|
  z_ac (j := 24) rfl (z_eI (sp_aload_n (q := 0) dX0_reach_41 rfl rfl)) <|
  z_ac (j := 25) rfl (z_eI (sp_getf (C := RX0) (T := TX0) (Nf := 4) dX0_reach_42 rfl inX0 (by decide) wf_289 rfl)) <|
  z_ac (j := 26) rfl (z_eI (sp_iload_n (q := 2) dX0_reach_45 rfl rfl)) <|
  z_ac (j := 27) rfl (z_eI (sp_iast dX0_reach_46 rfl)) <|
  z_ac (j := 28) rfl (z_eI (sp_aload_n (q := 0) dX0_reach_47 rfl rfl)) <|
  z_ac (j := 29) rfl (z_eI (sp_dup dX0_reach_48 rfl)) <|
  z_ac (j := 30) rfl (z_eI (sp_getf (C := RX0) (T := TX0) (Nf := 4) dX0_reach_49 rfl inX0 (by decide) wf_289 rfl)) <|
  z_ac (j := 31) rfl (z_eI (sp_iconst dX0_reach_52 (by decide +kernel) rfl)) <|
  z_ac (j := 32) rfl (z_eI (sp_iadd dX0_reach_53 rfl)) <|
  z_ac (j := 33) rfl (z_eI (sp_putI (C := RX0) (T := TX0) (Nf := 4) dX0_reach_54 rfl inX0 tyX0_ok nmX0 (by decide) wf_289 rfl (by decide +kernel) rfl)) <|
  z_ac (j := 34) rfl (z_eW (sv_void dX0_reach_57 rfl)) <| z_an
theorem dX0_nextCell_0 : decode cX0_nextCell 0 = .ok (.aload_n 0, 1) := by decide +kernel
theorem dX0_nextCell_1 : decode cX0_nextCell 1 = .ok (.getfield 9, 3) := by decide +kernel
theorem dX0_nextCell_4 : decode cX0_nextCell 4 = .ok (.iload_n 2, 1) := by decide +kernel
theorem dX0_nextCell_5 : decode cX0_nextCell 5 = .ok (.iaload, 1) := by decide +kernel
theorem dX0_nextCell_6 : decode cX0_nextCell 6 = .ok (.iconst 1, 1) := by decide +kernel
theorem dX0_nextCell_7 : decode cX0_nextCell 7 = .ok (.if_icmp .ge 5, 3) := by decide +kernel
theorem dX0_nextCell_10 : decode cX0_nextCell 10 = .ok (.iconst (-1), 1) := by decide +kernel
theorem dX0_nextCell_11 : decode cX0_nextCell 11 = .ok (.ireturn, 1) := by decide +kernel
theorem dX0_nextCell_12 : decode cX0_nextCell 12 = .ok (.iconst 0, 1) := by decide +kernel
theorem dX0_nextCell_13 : decode cX0_nextCell 13 = .ok (.istore_n 3, 1) := by decide +kernel
theorem dX0_nextCell_14 : decode cX0_nextCell 14 = .ok (.iload_n 3, 1) := by decide +kernel
theorem dX0_nextCell_15 : decode cX0_nextCell 15 = .ok (.iconst 4, 1) := by decide +kernel
theorem dX0_nextCell_16 : decode cX0_nextCell 16 = .ok (.if_icmp .ge 54, 3) := by decide +kernel
theorem dX0_nextCell_19 : decode cX0_nextCell 19 = .ok (.aload_n 1, 1) := by decide +kernel
theorem dX0_nextCell_20 : decode cX0_nextCell 20 = .ok (.iload_n 2, 1) := by decide +kernel
theorem dX0_nextCell_21 : decode cX0_nextCell 21 = .ok (.iload_n 3, 1) := by decide +kernel
theorem dX0_nextCell_22 : decode cX0_nextCell 22 = .ok (.invokevirtual 54, 3) := by decide +kernel
theorem dX0_nextCell_25 : decode cX0_nextCell 25 = .ok (.istore 4, 2) := by decide +kernel
theorem dX0_nextCell_27 : decode cX0_nextCell 27 = .ok (.iload 4, 2) := by decide +kernel
theorem dX0_nextCell_29 : decode cX0_nextCell 29 = .ok (.iconst (-1), 1) := by decide +kernel
theorem dX0_nextCell_30 : decode cX0_nextCell 30 = .ok (.if_icmp .eq 34, 3) := by decide +kernel
theorem dX0_nextCell_33 : decode cX0_nextCell 33 = .ok (.aload_n 1, 1) := by decide +kernel
theorem dX0_nextCell_34 : decode cX0_nextCell 34 = .ok (.getfield 42, 3) := by decide +kernel
theorem dX0_nextCell_37 : decode cX0_nextCell 37 = .ok (.iload 4, 2) := by decide +kernel
theorem dX0_nextCell_39 : decode cX0_nextCell 39 = .ok (.iaload, 1) := by decide +kernel
theorem dX0_nextCell_40 : decode cX0_nextCell 40 = .ok (.ifCond .eq 24, 3) := by decide +kernel
theorem dX0_nextCell_43 : decode cX0_nextCell 43 = .ok (.aload_n 0, 1) := by decide +kernel
theorem dX0_nextCell_44 : decode cX0_nextCell 44 = .ok (.getfield 9, 3) := by decide +kernel
theorem dX0_nextCell_47 : decode cX0_nextCell 47 = .ok (.iload 4, 2) := by decide +kernel
theorem dX0_nextCell_49 : decode cX0_nextCell 49 = .ok (.iaload, 1) := by decide +kernel
theorem dX0_nextCell_50 : decode cX0_nextCell 50 = .ok (.aload_n 0, 1) := by decide +kernel
theorem dX0_nextCell_51 : decode cX0_nextCell 51 = .ok (.getfield 9, 3) := by decide +kernel
theorem dX0_nextCell_54 : decode cX0_nextCell 54 = .ok (.iload_n 2, 1) := by decide +kernel
theorem dX0_nextCell_55 : decode cX0_nextCell 55 = .ok (.iaload, 1) := by decide +kernel
theorem dX0_nextCell_56 : decode cX0_nextCell 56 = .ok (.iconst 1, 1) := by decide +kernel
theorem dX0_nextCell_57 : decode cX0_nextCell 57 = .ok (.isub, 1) := by decide +kernel
theorem dX0_nextCell_58 : decode cX0_nextCell 58 = .ok (.if_icmp .ne 6, 3) := by decide +kernel
theorem dX0_nextCell_61 : decode cX0_nextCell 61 = .ok (.iload 4, 2) := by decide +kernel
theorem dX0_nextCell_63 : decode cX0_nextCell 63 = .ok (.ireturn, 1) := by decide +kernel
theorem dX0_nextCell_64 : decode cX0_nextCell 64 = .ok (.iinc 3 1, 3) := by decide +kernel
theorem dX0_nextCell_67 : decode cX0_nextCell 67 = .ok (.goto (-53), 3) := by decide +kernel
theorem dX0_nextCell_70 : decode cX0_nextCell 70 = .ok (.iconst (-1), 1) := by decide +kernel
theorem dX0_nextCell_71 : decode cX0_nextCell 71 = .ok (.ireturn, 1) := by decide +kernel
theorem tX0_nextCell {L : Nat} {xs : Nat → Int32} {N : Nat} : z_AllE (zE L xs N 170) 0 (kX0_nextCell N) :=
  z_ac (j := 1) rfl (z_eI (sp_aload_n (q := 0) dX0_nextCell_0 rfl rfl)) <|
  z_ac (j := 2) rfl (z_eI (sp_getf (C := RX0) (T := TX0) (Nf := 4) dX0_nextCell_1 rfl inX0 (by decide) wf_284 rfl)) <|
  z_ac (j := 3) rfl (z_eI (sp_iload_n (q := 2) dX0_nextCell_4 rfl rfl)) <|
  z_ac (j := 4) rfl (z_eI (sp_iald dX0_nextCell_5 rfl)) <|
  z_ac (j := 5) rfl (z_eI (sp_iconst dX0_nextCell_6 (by decide +kernel) rfl)) <|
  z_ac (j := 6) rfl (z_eI (sp_icmp_ge dX0_nextCell_7 rfl rfl)) <|
  z_ac (j := 7) rfl (z_eI (sp_iconst dX0_nextCell_10 (by decide +kernel) rfl)) <|
  z_ac (j := 8) rfl (z_eR (sr_int dX0_nextCell_11 rfl)) <|
  z_ac (j := 9) rfl (z_eI (sp_iconst dX0_nextCell_12 (by decide +kernel) rfl)) <|
  z_ac (j := 10) rfl (z_eI (sp_istore_n (q := 3) dX0_nextCell_13 rfl (by decide) (fun _ _ => rfl) rfl)) <|
  z_ac (j := 11) rfl (z_eI (sp_iload_n (q := 3) dX0_nextCell_14 rfl rfl)) <|
  z_ac (j := 12) rfl (z_eI (sp_iconst dX0_nextCell_15 (by decide +kernel) rfl)) <|
  z_ac (j := 13) rfl (z_eI (sp_icmp_ge dX0_nextCell_16 rfl rfl)) <|
  z_ac (j := 14) rfl (z_eI (sp_aload_n (q := 1) dX0_nextCell_19 rfl rfl)) <|
  z_ac (j := 15) rfl (z_eI (sp_iload_n (q := 2) dX0_nextCell_20 rfl rfl)) <|
  z_ac (j := 16) rfl (z_eI (sp_iload_n (q := 3) dX0_nextCell_21 rfl rfl)) <|
  z_ac (j := 17) rfl (z_cV dX0_nextCell_22 wl_736 qX1_neighbour (by decide +kernel) ⟨_, _, rfl⟩ (z_sn rfl rfl) rfl) <|
  z_ac (j := 18) rfl (z_eI (sp_istore dX0_nextCell_25 (by decide) (fun _ _ => rfl) rfl)) <|
  z_ac (j := 19) rfl (z_eI (sp_iload dX0_nextCell_27 rfl)) <|
  z_ac (j := 20) rfl (z_eI (sp_iconst dX0_nextCell_29 (by decide +kernel) rfl)) <|
  z_ac (j := 21) rfl (z_eI (sp_icmp_eq dX0_nextCell_30 rfl rfl)) <|
  z_ac (j := 22) rfl (z_eI (sp_aload_n (q := 1) dX0_nextCell_33 rfl rfl)) <|
  z_ac (j := 23) rfl (z_eI (sp_getf (C := RX1) (T := TX1) (Nf := 3) dX0_nextCell_34 rfl inX1 (by decide) wf_91 rfl)) <|
  z_ac (j := 24) rfl (z_eI (sp_iload dX0_nextCell_37 rfl)) <|
  z_ac (j := 25) rfl (z_eI (sp_iald dX0_nextCell_39 rfl)) <|
  z_ac (j := 26) rfl (z_eI (sp_if_eq dX0_nextCell_40 rfl rfl)) <|
  z_ac (j := 27) rfl (z_eI (sp_aload_n (q := 0) dX0_nextCell_43 rfl rfl)) <|
  z_ac (j := 28) rfl (z_eI (sp_getf (C := RX0) (T := TX0) (Nf := 4) dX0_nextCell_44 rfl inX0 (by decide) wf_284 rfl)) <|
  z_ac (j := 29) rfl (z_eI (sp_iload dX0_nextCell_47 rfl)) <|
  z_ac (j := 30) rfl (z_eI (sp_iald dX0_nextCell_49 rfl)) <|
  z_ac (j := 31) rfl (z_eI (sp_aload_n (q := 0) dX0_nextCell_50 rfl rfl)) <|
  z_ac (j := 32) rfl (z_eI (sp_getf (C := RX0) (T := TX0) (Nf := 4) dX0_nextCell_51 rfl inX0 (by decide) wf_284 rfl)) <|
  z_ac (j := 33) rfl (z_eI (sp_iload_n (q := 2) dX0_nextCell_54 rfl rfl)) <|
  z_ac (j := 34) rfl (z_eI (sp_iald dX0_nextCell_55 rfl)) <|
  z_ac (j := 35) rfl (z_eI (sp_iconst dX0_nextCell_56 (by decide +kernel) rfl)) <|
  z_ac (j := 36) rfl (z_eI (sp_isub dX0_nextCell_57 rfl)) <|
  z_ac (j := 37) rfl (z_eI (sp_icmp_ne dX0_nextCell_58 rfl rfl)) <|
  z_ac (j := 38) rfl (z_eI (sp_iload dX0_nextCell_61 rfl)) <|
  z_ac (j := 39) rfl (z_eR (sr_int dX0_nextCell_63 rfl)) <|
  z_ac (j := 40) rfl (z_eI (sp_iinc dX0_nextCell_64 (by decide +kernel) (by decide) (fun _ _ => rfl) rfl)) <|
  z_ac (j := 41) rfl (z_eI (sp_goto dX0_nextCell_67 rfl)) <|
  z_ac (j := 42) rfl (z_eI (sp_iconst dX0_nextCell_70 (by decide +kernel) rfl)) <|
  z_ac (j := 43) rfl (z_eR (sr_int dX0_nextCell_71 rfl)) <| z_an
theorem dX4_run_0 : decode cX4_run 0 = .ok (.aload_n 1, 1) := by decide +kernel
theorem dX4_run_1 : decode cX4_run 1 = .ok (.getfield 18, 3) := by decide +kernel
theorem dX4_run_4 : decode cX4_run 4 = .ok (.iload_n 2, 1) := by decide +kernel
theorem dX4_run_5 : decode cX4_run 5 = .ok (.iadd, 1) := by decide +kernel
theorem dX4_run_6 : decode cX4_run 6 = .ok (.istore_n 3, 1) := by decide +kernel
theorem dX4_run_7 : decode cX4_run 7 = .ok (.iconst 0, 1) := by decide +kernel
theorem dX4_run_8 : decode cX4_run 8 = .ok (.istore 4, 2) := by decide +kernel
theorem dX4_run_10 : decode cX4_run 10 = .ok (.aload_n 0, 1) := by decide +kernel
theorem dX4_run_11 : decode cX4_run 11 = .ok (.invokevirtual 24, 3) := by decide +kernel
theorem dX4_run_14 : decode cX4_run 14 = .ok (.iconst 0, 1) := by decide +kernel
theorem dX4_run_15 : decode cX4_run 15 = .ok (.istore 5, 2) := by decide +kernel
theorem dX4_run_17 : decode cX4_run 17 = .ok (.iload 5, 2) := by decide +kernel
theorem dX4_run_19 : decode cX4_run 19 = .ok (.iload_n 2, 1) := by decide +kernel
theorem dX4_run_20 : decode cX4_run 20 = .ok (.if_icmp .ge 76, 3) := by decide +kernel
theorem dX4_run_23 : decode cX4_run 23 = .ok (.iload 4, 2) := by decide +kernel
theorem dX4_run_25 : decode cX4_run 25 = .ok (.bipush 24, 2) := by decide +kernel
theorem dX4_run_27 : decode cX4_run 27 = .ok (.if_icmp .ge 69, 3) := by decide +kernel
theorem dX4_run_30 : decode cX4_run 30 = .ok (.aload_n 1, 1) := by decide +kernel
theorem dX4_run_31 : decode cX4_run 31 = .ok (.dup, 1) := by decide +kernel
theorem dX4_run_32 : decode cX4_run 32 = .ok (.getfield 18, 3) := by decide +kernel
theorem dX4_run_35 : decode cX4_run 35 = .ok (.iconst 1, 1) := by decide +kernel
theorem dX4_run_36 : decode cX4_run 36 = .ok (.iadd, 1) := by decide +kernel
theorem dX4_run_37 : decode cX4_run 37 = .ok (.putfield 18, 3) := by decide +kernel
theorem dX4_run_40 : decode cX4_run 40 = .ok (.iinc 4 1, 3) := by decide +kernel
theorem dX4_run_43 : decode cX4_run 43 = .ok (.iconst 0, 1) := by decide +kernel
theorem dX4_run_44 : decode cX4_run 44 = .ok (.istore 6, 2) := by decide +kernel
theorem dX4_run_46 : decode cX4_run 46 = .ok (.iload 6, 2) := by decide +kernel
theorem dX4_run_48 : decode cX4_run 48 = .ok (.aload_n 1, 1) := by decide +kernel
theorem dX4_run_49 : decode cX4_run 49 = .ok (.getfield 27, 3) := by decide +kernel
theorem dX4_run_52 : decode cX4_run 52 = .ok (.getfield 31, 3) := by decide +kernel
theorem dX4_run_55 : decode cX4_run 55 = .ok (.if_icmp .ge 35, 3) := by decide +kernel
theorem dX4_run_58 : decode cX4_run 58 = .ok (.aload_n 1, 1) := by decide +kernel
theorem dX4_run_59 : decode cX4_run 59 = .ok (.getfield 27, 3) := by decide +kernel
theorem dX4_run_62 : decode cX4_run 62 = .ok (.getfield 36, 3) := by decide +kernel
theorem dX4_run_65 : decode cX4_run 65 = .ok (.iload 6, 2) := by decide +kernel
theorem dX4_run_67 : decode cX4_run 67 = .ok (.iaload, 1) := by decide +kernel
theorem dX4_run_68 : decode cX4_run 68 = .ok (.ifCond .ne 16, 3) := by decide +kernel
theorem dX4_run_71 : decode cX4_run 71 = .ok (.aload_n 0, 1) := by decide +kernel
theorem dX4_run_72 : decode cX4_run 72 = .ok (.aload_n 1, 1) := by decide +kernel
theorem dX4_run_73 : decode cX4_run 73 = .ok (.iload 6, 2) := by decide +kernel
theorem dX4_run_75 : decode cX4_run 75 = .ok (.invokevirtual 40, 3) := by decide +kernel
theorem dX4_run_78 : decode cX4_run 78 = .ok (.ifCond .eq 6, 3) := by decide +kernel
theorem dX4_run_81 : decode cX4_run 81 = .ok (.iconst 0, 1) := by decide +kernel
theorem dX4_run_82 : decode cX4_run 82 = .ok (.istore 4, 2) := by decide +kernel
theorem dX4_run_84 : decode cX4_run 84 = .ok (.iinc 6 1, 3) := by decide +kernel
theorem dX4_run_87 : decode cX4_run 87 = .ok (.goto (-41), 3) := by decide +kernel
theorem dX4_run_90 : decode cX4_run 90 = .ok (.iinc 5 1, 3) := by decide +kernel
theorem dX4_run_93 : decode cX4_run 93 = .ok (.goto (-76), 3) := by decide +kernel
theorem dX4_run_96 : decode cX4_run 96 = .ok (.aload_n 1, 1) := by decide +kernel
theorem dX4_run_97 : decode cX4_run 97 = .ok (.iload_n 3, 1) := by decide +kernel
theorem dX4_run_98 : decode cX4_run 98 = .ok (.putfield 18, 3) := by decide +kernel
theorem dX4_run_101 : decode cX4_run 101 = .ok (.return_, 1) := by decide +kernel
theorem tX4_run {L : Nat} {xs : Nat → Int32} {N : Nat} : z_AllE (zE L xs N 171) 0 (kX4_run N) :=
  z_ac (j := 1) rfl (z_eI (sp_aload_n (q := 1) dX4_run_0 rfl rfl)) <|
  z_ac (j := 2) rfl (z_eI (sp_getf (C := RX7) (T := TX7) (Nf := 6) dX4_run_1 rfl inX7 (by decide) wf_204 rfl)) <|
  z_ac (j := 3) rfl (z_eI (sp_iload_n (q := 2) dX4_run_4 rfl rfl)) <|
  z_ac (j := 4) rfl (z_eI (sp_iadd dX4_run_5 rfl)) <|
  z_ac (j := 5) rfl (z_eI (sp_istore_n (q := 3) dX4_run_6 rfl (by decide) (fun _ _ => rfl) rfl)) <|
  z_ac (j := 6) rfl (z_eI (sp_iconst dX4_run_7 (by decide +kernel) rfl)) <|
  z_ac (j := 7) rfl (z_eI (sp_istore dX4_run_8 (by decide) (fun _ _ => rfl) rfl)) <|
  z_ac (j := 8) rfl (z_eI (sp_aload_n (q := 0) dX4_run_10 rfl rfl)) <|
  z_ac (j := 9) rfl (z_cV dX4_run_11 wl_684 qX4_forgetWays (by decide +kernel) ⟨_, _, rfl⟩ (z_sn rfl rfl) rfl) <|
  z_ac (j := 10) rfl (z_eI (sp_iconst dX4_run_14 (by decide +kernel) rfl)) <|
  z_ac (j := 11) rfl (z_eI (sp_istore dX4_run_15 (by decide) (fun _ _ => rfl) rfl)) <|
  z_ac (j := 12) rfl (z_eI (sp_iload dX4_run_17 rfl)) <|
  z_ac (j := 13) rfl (z_eI (sp_iload_n (q := 2) dX4_run_19 rfl rfl)) <|
  z_ac (j := 14) rfl (z_eI (sp_icmp_ge dX4_run_20 rfl rfl)) <|
  z_ac (j := 15) rfl (z_eI (sp_iload dX4_run_23 rfl)) <|
  z_ac (j := 16) rfl (z_eI (sp_bipush dX4_run_25 (by decide +kernel) rfl)) <|
  z_ac (j := 17) rfl (z_eI (sp_icmp_ge dX4_run_27 rfl rfl)) <|
  z_ac (j := 18) rfl (z_eI (sp_aload_n (q := 1) dX4_run_30 rfl rfl)) <|
  z_ac (j := 19) rfl (z_eI (sp_dup dX4_run_31 rfl)) <|
  z_ac (j := 20) rfl (z_eI (sp_getf (C := RX7) (T := TX7) (Nf := 6) dX4_run_32 rfl inX7 (by decide) wf_204 rfl)) <|
  z_ac (j := 21) rfl (z_eI (sp_iconst dX4_run_35 (by decide +kernel) rfl)) <|
  z_ac (j := 22) rfl (z_eI (sp_iadd dX4_run_36 rfl)) <|
  z_ac (j := 23) rfl (z_eI (sp_putI (C := RX7) (T := TX7) (Nf := 6) dX4_run_37 rfl inX7 tyX7_ok nmX7 (by decide) wf_204 rfl (by decide +kernel) rfl)) <|
  z_ac (j := 24) rfl (z_eI (sp_iinc dX4_run_40 (by decide +kernel) (by decide) (fun _ _ => rfl) rfl)) <|
  z_ac (j := 25) rfl (z_eI (sp_iconst dX4_run_43 (by decide +kernel) rfl)) <|
  z_ac (j := 26) rfl (z_eI (sp_istore dX4_run_44 (by decide) (fun _ _ => rfl) rfl)) <|
  z_ac (j := 27) rfl (z_eI (sp_iload dX4_run_46 rfl)) <|
  z_ac (j := 28) rfl (z_eI (sp_aload_n (q := 1) dX4_run_48 rfl rfl)) <|
  z_ac (j := 29) rfl (z_eI (sp_getf (C := RX7) (T := TX7) (Nf := 6) dX4_run_49 rfl inX7 (by decide) wf_195 rfl)) <|
  z_ac (j := 30) rfl (z_eI (sp_getf (C := RX6) (T := TX6) (Nf := 8) dX4_run_52 rfl inX6 (by decide) wf_145 rfl)) <|
  z_ac (j := 31) rfl (z_eI (sp_icmp_ge dX4_run_55 rfl rfl)) <|
  z_ac (j := 32) rfl (z_eI (sp_aload_n (q := 1) dX4_run_58 rfl rfl)) <|
  z_ac (j := 33) rfl (z_eI (sp_getf (C := RX7) (T := TX7) (Nf := 6) dX4_run_59 rfl inX7 (by decide) wf_195 rfl)) <|
  z_ac (j := 34) rfl (z_eI (sp_getf (C := RX6) (T := TX6) (Nf := 8) dX4_run_62 rfl inX6 (by decide) wf_153 rfl)) <|
  z_ac (j := 35) rfl (z_eI (sp_iload dX4_run_65 rfl)) <|
  z_ac (j := 36) rfl (z_eI (sp_iald dX4_run_67 rfl)) <|
  z_ac (j := 37) rfl (z_eI (sp_if_ne dX4_run_68 rfl rfl)) <|
  z_ac (j := 38) rfl (z_eI (sp_aload_n (q := 0) dX4_run_71 rfl rfl)) <|
  z_ac (j := 39) rfl (z_eI (sp_aload_n (q := 1) dX4_run_72 rfl rfl)) <|
  z_ac (j := 40) rfl (z_eI (sp_iload dX4_run_73 rfl)) <|
  z_ac (j := 41) rfl (z_cV dX4_run_75 wl_688 qX4_act (by decide +kernel) ⟨_, _, rfl⟩ (z_sn rfl rfl) rfl) <|
  z_ac (j := 42) rfl (z_eI (sp_if_eq dX4_run_78 rfl rfl)) <|
  z_ac (j := 43) rfl (z_eI (sp_iconst dX4_run_81 (by decide +kernel) rfl)) <|
  z_ac (j := 44) rfl (z_eI (sp_istore dX4_run_82 (by decide) (fun _ _ => rfl) rfl)) <|
  z_ac (j := 45) rfl (z_eI (sp_iinc dX4_run_84 (by decide +kernel) (by decide) (fun _ _ => rfl) rfl)) <|
  z_ac (j := 46) rfl (z_eI (sp_goto dX4_run_87 rfl)) <|
  z_ac (j := 47) rfl (z_eI (sp_iinc dX4_run_90 (by decide +kernel) (by decide) (fun _ _ => rfl) rfl)) <|
  z_ac (j := 48) rfl (z_eI (sp_goto dX4_run_93 rfl)) <|
  z_ac (j := 49) rfl (z_eI (sp_aload_n (q := 1) dX4_run_96 rfl rfl)) <|
  z_ac (j := 50) rfl (z_eI (sp_iload_n (q := 3) dX4_run_97 rfl rfl)) <|
  z_ac (j := 51) rfl (z_eI (sp_putI (C := RX7) (T := TX7) (Nf := 6) dX4_run_98 rfl inX7 tyX7_ok nmX7 (by decide) wf_204 rfl (by decide +kernel) rfl)) <|
  z_ac (j := 52) rfl (z_eW (sv_void dX4_run_101 rfl)) <| z_an
theorem dX4_forgetWays_0 : decode cX4_forgetWays 0 = .ok (.iconst 0, 1) := by decide +kernel
theorem dX4_forgetWays_1 : decode cX4_forgetWays 1 = .ok (.istore_n 1, 1) := by decide +kernel
theorem dX4_forgetWays_2 : decode cX4_forgetWays 2 = .ok (.iload_n 1, 1) := by decide +kernel
theorem dX4_forgetWays_3 : decode cX4_forgetWays 3 = .ok (.bipush 8, 2) := by decide +kernel
theorem dX4_forgetWays_5 : decode cX4_forgetWays 5 = .ok (.if_icmp .ge 19, 3) := by decide +kernel
theorem dX4_forgetWays_8 : decode cX4_forgetWays 8 = .ok (.aload_n 0, 1) := by decide +kernel
theorem dX4_forgetWays_9 : decode cX4_forgetWays 9 = .ok (.getfield 11, 3) := by decide +kernel
theorem dX4_forgetWays_12 : decode cX4_forgetWays 12 = .ok (.iload_n 1, 1) := by decide +kernel
theorem dX4_forgetWays_13 : decode cX4_forgetWays 13 = .ok (.aaload, 1) := by decide +kernel
theorem dX4_forgetWays_14 : decode cX4_forgetWays 14 = .ok (.iconst 0, 1) := by decide +kernel
theorem dX4_forgetWays_15 : decode cX4_forgetWays 15 = .ok (.putfield 44, 3) := by decide +kernel
theorem dX4_forgetWays_18 : decode cX4_forgetWays 18 = .ok (.iinc 1 1, 3) := by decide +kernel
theorem dX4_forgetWays_21 : decode cX4_forgetWays 21 = .ok (.goto (-19), 3) := by decide +kernel
theorem dX4_forgetWays_24 : decode cX4_forgetWays 24 = .ok (.return_, 1) := by decide +kernel
theorem tX4_forgetWays {L : Nat} {xs : Nat → Int32} {N : Nat} : z_AllE (zE L xs N 172) 0 (kX4_forgetWays N) :=
  z_ac (j := 1) rfl (z_eI (sp_iconst dX4_forgetWays_0 (by decide +kernel) rfl)) <|
  z_ac (j := 2) rfl (z_eI (sp_istore_n (q := 1) dX4_forgetWays_1 rfl (by decide) (fun _ _ => rfl) rfl)) <|
  z_ac (j := 3) rfl (z_eI (sp_iload_n (q := 1) dX4_forgetWays_2 rfl rfl)) <|
  z_ac (j := 4) rfl (z_eI (sp_bipush dX4_forgetWays_3 (by decide +kernel) rfl)) <|
  z_ac (j := 5) rfl (z_eI (sp_icmp_ge dX4_forgetWays_5 rfl rfl)) <|
  z_ac (j := 6) rfl (z_eI (sp_aload_n (q := 0) dX4_forgetWays_8 rfl rfl)) <|
  z_ac (j := 7) rfl (z_eI (sp_getf (C := RX4) (T := TX4) (Nf := 1) dX4_forgetWays_9 rfl inX4 (by decide) wf_299 rfl)) <|
  z_ac (j := 8) rfl (z_eI (sp_iload_n (q := 1) dX4_forgetWays_12 rfl rfl)) <|
  z_ac (j := 9) rfl (z_eI (sp_aald dX4_forgetWays_13 rfl)) <|
  z_ac (j := 10) rfl (z_eI (sp_iconst dX4_forgetWays_14 (by decide +kernel) rfl)) <|
  z_ac (j := 11) rfl (z_eI (sp_putZ (C := RX0) (T := TX0) (Nf := 4) dX4_forgetWays_15 rfl inX0 tyX0_ok nmX0 (by decide) wf_286 rfl (by decide +kernel) rfl)) <|
  z_ac (j := 12) rfl (z_eI (sp_iinc dX4_forgetWays_18 (by decide +kernel) (by decide) (fun _ _ => rfl) rfl)) <|
  z_ac (j := 13) rfl (z_eI (sp_goto dX4_forgetWays_21 rfl)) <|
  z_ac (j := 14) rfl (z_eW (sv_void dX4_forgetWays_24 rfl)) <| z_an
