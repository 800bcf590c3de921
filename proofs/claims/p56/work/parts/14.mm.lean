theorem mm_X0_copyFrom : MM RX0 yX0_copyFrom cX0_copyFrom 2 none 1 := ⟨tw_251, tw_252, tw_6, tw_253, rfl, by decide, by decide +kernel⟩
theorem mm_X0_takeFrom : MM RX0 yX0_takeFrom cX0_takeFrom 5 none 3 := ⟨tw_500, tw_501, tw_6, tw_502, rfl, by decide, by decide +kernel⟩
theorem mm_X0_add : MM RX0 yX0_add cX0_add 3 none 1 := ⟨tw_504, tw_505, tw_6, tw_506, rfl, by decide, by decide +kernel⟩
theorem mm_X0_remove : MM RX0 yX0_remove cX0_remove 4 none 1 := ⟨tw_546, tw_547, tw_6, tw_548, rfl, by decide, by decide +kernel⟩
theorem mm_X0_total : MM RX0 yX0_total cX0_total 3 (some .int) 0 := ⟨tw_512, tw_513, tw_6, tw_514, rfl, by decide, by decide +kernel⟩
theorem mm_X0_first : MM RX0 yX0_first cX0_first 1 (some .int) 0 := ⟨tw_516, tw_517, tw_6, tw_518, rfl, by decide, by decide +kernel⟩
theorem mm_X0_last : MM RX0 yX0_last cX0_last 1 (some .int) 0 := ⟨tw_524, tw_525, tw_6, tw_526, rfl, by decide, by decide +kernel⟩
theorem mm_X0_middle : MM RX0 yX0_middle cX0_middle 1 (some .int) 0 := ⟨tw_528, tw_529, tw_6, tw_530, rfl, by decide, by decide +kernel⟩
theorem mm_X0_valueAt : MM RX0 yX0_valueAt cX0_valueAt 2 (some .int) 1 := ⟨tw_521, tp_8, tw_6, tw_522, rfl, by decide, by decide +kernel⟩
theorem mm_X0_countBelow : MM RX0 yX0_countBelow cX0_countBelow 3 (some .int) 1 := ⟨tw_572, tw_573, tw_6, tw_574, rfl, by decide, by decide +kernel⟩
theorem mm_X0_countUnlike : MM RX0 yX0_countUnlike cX0_countUnlike 3 (some .int) 0 := ⟨tw_532, tw_533, tw_6, tw_534, rfl, by decide, by decide +kernel⟩
theorem mm_X0_tellsLike : MM RX0 yX0_tellsLike cX0_tellsLike 2 (some .boolean) 1 := ⟨tw_508, tw_509, tw_6, tw_510, rfl, by decide, by decide +kernel⟩
theorem mm_X1_copyFrom : MM RX1 yX1_copyFrom cX1_copyFrom 2 none 1 := ⟨tw_242, tw_243, tw_4, tw_244, rfl, by decide, by decide +kernel⟩
theorem mm_X1_write : MM RX1 yX1_write cX1_write 5 none 3 := ⟨tw_636, tw_637, tw_4, tw_638, rfl, by decide, by decide +kernel⟩
theorem mm_X1_slotOf : MS yX1_slotOf cX1_slotOf 1 (some .int) 1 := ⟨tw_481, tw_4, tw_482, by decide, by decide +kernel⟩
theorem mm_X2_addSign : MM RX2 yX2_addSign cX2_addSign 2 none 1 := ⟨tw_778, tw_779, tw_7, tw_780, rfl, by decide, by decide +kernel⟩
theorem mm_X2_hashOfSigns : MM RX2 yX2_hashOfSigns cX2_hashOfSigns 6 (some .long) 1 := ⟨tw_594, tw_595, tw_7, tw_596, rfl, by decide, by decide +kernel⟩
theorem mm_X2_readWhole : MM RX2 yX2_readWhole cX2_readWhole 2 (some .boolean) 0 := ⟨tw_956, tw_957, tw_7, tw_958, rfl, by decide, by decide +kernel⟩
theorem mm_X2_readNextPart : MM RX2 yX2_readNextPart cX2_readNextPart 1 (some .boolean) 0 := ⟨tw_1005, tw_1006, tw_7, tw_1007, rfl, by decide, by decide +kernel⟩
theorem mm_X2_readPart : MM RX2 yX2_readPart cX2_readPart 1 (some .boolean) 0 := ⟨tw_961, tp_14, tw_7, tw_962, rfl, by decide, by decide +kernel⟩
theorem mm_X2_readSign : MM RX2 yX2_readSign cX2_readSign 2 (some .boolean) 1 := ⟨tw_981, tp_19, tw_7, tw_982, rfl, by decide, by decide +kernel⟩
theorem mm_X2_readGroup : MM RX2 yX2_readGroup cX2_readGroup 1 (some .boolean) 0 := ⟨tw_973, tp_17, tw_7, tw_974, rfl, by decide, by decide +kernel⟩
theorem mm_X2_readAmount : MM RX2 yX2_readAmount cX2_readAmount 4 (some .boolean) 0 := ⟨tw_977, tp_18, tw_7, tw_978, rfl, by decide, by decide +kernel⟩
theorem mm_X2_readNumber : MM RX2 yX2_readNumber cX2_readNumber 5 (some .boolean) 2 := ⟨tw_965, tp_15, tw_7, tw_966, rfl, by decide, by decide +kernel⟩
theorem mm_X2_digitAhead : MM RX2 yX2_digitAhead cX2_digitAhead 1 (some .int) 0 := ⟨tw_969, tp_16, tw_7, tw_970, rfl, by decide, by decide +kernel⟩
theorem mm_X3_copyFrom : MM RX3 yX3_copyFrom cX3_copyFrom 3 none 1 := ⟨tw_231, tw_232, tw_2, tw_233, rfl, by decide, by decide +kernel⟩
theorem mm_X3_addRow : MM RX3 yX3_addRow cX3_addRow 4 none 3 := ⟨tw_628, tw_629, tw_2, tw_630, rfl, by decide, by decide +kernel⟩
theorem mm_X3_replaceRow : MM RX3 yX3_replaceRow cX3_replaceRow 4 none 3 := ⟨tw_664, tw_665, tw_2, tw_666, rfl, by decide, by decide +kernel⟩
theorem mm_X3_removeRow : MM RX3 yX3_removeRow cX3_removeRow 3 none 1 := ⟨tw_682, tw_683, tw_2, tw_684, rfl, by decide, by decide +kernel⟩
theorem mm_X3_writeDelta : MM RX3 yX3_writeDelta cX3_writeDelta 5 none 3 := ⟨tw_633, tp_12, tw_2, tw_634, rfl, by decide, by decide +kernel⟩
theorem mm_X3_wakeViewsTooFarBehind : MM RX3 yX3_wakeViewsTooFarBehind cX3_wakeViewsTooFarBehind 2 none 0 := ⟨tw_642, tw_643, tw_2, tw_644, rfl, by decide, by decide +kernel⟩
theorem mm_X3_wakeView : MM RX3 yX3_wakeView cX3_wakeView 2 none 1 := ⟨tw_647, tw_648, tw_2, tw_649, rfl, by decide, by decide +kernel⟩
theorem mm_X3_refreshView : MM RX3 yX3_refreshView cX3_refreshView 2 none 1 := ⟨tw_718, tw_719, tw_2, tw_720, rfl, by decide, by decide +kernel⟩
theorem mm_X3_countNapping : MM RX3 yX3_countNapping cX3_countNapping 3 (some .int) 0 := ⟨tw_698, tw_699, tw_2, tw_700, rfl, by decide, by decide +kernel⟩
theorem mm_X3_passTicks : MM RX3 yX3_passTicks cX3_passTicks 4 (some .int) 1 := ⟨tw_761, tw_762, tw_2, tw_763, rfl, by decide, by decide +kernel⟩
theorem mm_X3_passTick : MM RX3 yX3_passTick cX3_passTick 3 none 0 := ⟨tw_766, tp_13, tw_2, tw_767, rfl, by decide, by decide +kernel⟩
theorem mm_X3_letHappen : MM RX3 yX3_letHappen cX3_letHappen 3 (some .boolean) 1 := ⟨tw_1009, tw_1010, tw_2, tw_1011, rfl, by decide, by decide +kernel⟩
theorem mm_X3_letHappenToView : MM RX3 yX3_letHappenToView cX3_letHappenToView 3 (some .boolean) 1 := ⟨tw_1015, tp_20, tw_2, tw_1016, rfl, by decide, by decide +kernel⟩
theorem mm_X4_copyFrom : MM RX4 yX4_copyFrom cX4_copyFrom 2 none 1 := ⟨tw_235, tw_236, tw_3, tw_237, rfl, by decide, by decide +kernel⟩
theorem mm_X4_freeAt : MM RX4 yX4_freeAt cX4_freeAt 2 (some .boolean) 1 := ⟨tw_433, tw_434, tw_3, tw_435, rfl, by decide, by decide +kernel⟩
theorem mm_X4_countRows : MM RX4 yX4_countRows cX4_countRows 6 (some .int) 0 := ⟨tw_256, tw_257, tw_3, tw_258, rfl, by decide, by decide +kernel⟩
theorem mm_X5_copyFrom : MM RX5 yX5_copyFrom cX5_copyFrom 3 none 1 := ⟨tw_247, tw_248, tw_5, tw_249, rfl, by decide, by decide +kernel⟩
theorem mm_X5_beginNap : MM RX5 yX5_beginNap cX5_beginNap 1 none 0 := ⟨tw_694, tw_695, tw_5, tw_696, rfl, by decide, by decide +kernel⟩
theorem mm_X5_endNap : MM RX5 yX5_endNap cX5_endNap 1 none 0 := ⟨tw_651, tw_652, tw_5, tw_653, rfl, by decide, by decide +kernel⟩
theorem mm_X5_countWaiting : MM RX5 yX5_countWaiting cX5_countWaiting 2 (some .int) 1 := ⟨tw_395, tw_396, tw_5, tw_397, rfl, by decide, by decide +kernel⟩
theorem mm_X5_countWaitingFrom : MM RX5 yX5_countWaitingFrom cX5_countWaitingFrom 5 (some .int) 2 := ⟨tw_477, tw_478, tw_5, tw_479, rfl, by decide, by decide +kernel⟩
theorem mm_X5_seeWaiting : MM RX5 yX5_seeWaiting cX5_seeWaiting 6 none 1 := ⟨tw_541, tw_542, tw_5, tw_543, rfl, by decide, by decide +kernel⟩
theorem mm_X5_holdWhatTableTells : MM RX5 yX5_holdWhatTableTells cX5_holdWhatTableTells 4 none 2 := ⟨tw_722, tw_723, tw_5, tw_724, rfl, by decide, by decide +kernel⟩
theorem mm_X6_insert : MM RX6 yX6_insert cX6_insert 4 (some .int) 3 := ⟨tw_604, tw_605, tw_1, tw_606, rfl, by decide, by decide +kernel⟩
theorem mm_X6_change : MM RX6 yX6_change cX6_change 4 (some .int) 2 := ⟨tw_660, tw_661, tw_1, tw_662, rfl, by decide, by decide +kernel⟩
theorem mm_X6_regroup : MM RX6 yX6_regroup cX6_regroup 4 (some .int) 2 := ⟨tw_671, tw_672, tw_1, tw_673, rfl, by decide, by decide +kernel⟩
theorem mm_X6_delete : MM RX6 yX6_delete cX6_delete 3 (some .int) 1 := ⟨tw_678, tw_679, tw_1, tw_680, rfl, by decide, by decide +kernel⟩
theorem mm_X6_nap : MM RX6 yX6_nap cX6_nap 2 (some .int) 1 := ⟨tw_689, tw_690, tw_1, tw_691, rfl, by decide, by decide +kernel⟩
theorem mm_X6_wake : MM RX6 yX6_wake cX6_wake 3 (some .int) 1 := ⟨tw_705, tw_706, tw_1, tw_707, rfl, by decide, by decide +kernel⟩
theorem mm_X6_refresh : MM RX6 yX6_refresh cX6_refresh 3 (some .int) 1 := ⟨tw_714, tw_715, tw_1, tw_716, rfl, by decide, by decide +kernel⟩
theorem mm_X6_setFilter : MM RX6 yX6_setFilter cX6_setFilter 4 (some .int) 2 := ⟨tw_730, tw_731, tw_1, tw_732, rfl, by decide, by decide +kernel⟩
theorem mm_X6_setBehind : MM RX6 yX6_setBehind cX6_setBehind 4 (some .int) 2 := ⟨tw_737, tw_738, tw_1, tw_739, rfl, by decide, by decide +kernel⟩
theorem mm_X6_setLongest : MM RX6 yX6_setLongest cX6_setLongest 4 (some .int) 2 := ⟨tw_749, tw_750, tw_1, tw_751, rfl, by decide, by decide +kernel⟩
theorem mm_X6_pass : MM RX6 yX6_pass cX6_pass 2 (some .int) 1 := ⟨tw_756, tw_757, tw_1, tw_758, rfl, by decide, by decide +kernel⟩
theorem mm_X6_append : MM RX6 yX6_append cX6_append 2 (some .int) 1 := ⟨tw_772, tw_773, tw_1, tw_774, rfl, by decide, by decide +kernel⟩
theorem mm_X6_clearBuffer : MM RX6 yX6_clearBuffer cX6_clearBuffer 2 (some .int) 0 := ⟨tw_990, tw_991, tw_1, tw_992, rfl, by decide, by decide +kernel⟩
theorem mm_X6_firstError : MM RX6 yX6_firstError cX6_firstError 1 (some .int) 0 := ⟨tw_952, tw_953, tw_1, tw_954, rfl, by decide, by decide +kernel⟩
theorem mm_X6_replay : MM RX6 yX6_replay cX6_replay 2 (some .int) 0 := ⟨tw_1000, tw_1001, tw_1, tw_1002, rfl, by decide, by decide +kernel⟩
theorem mm_X6_hasStopped : MM RX6 yX6_hasStopped cX6_hasStopped 1 (some .boolean) 0 := ⟨tw_579, tw_580, tw_1, tw_581, rfl, by decide, by decide +kernel⟩
theorem mm_X6_stoppedPart : MM RX6 yX6_stoppedPart cX6_stoppedPart 1 (some .int) 0 := ⟨tw_847, tw_848, tw_1, tw_849, rfl, by decide, by decide +kernel⟩
theorem mm_X6_undo : MM RX6 yX6_undo cX6_undo 1 (some .int) 0 := ⟨tw_942, tw_943, tw_1, tw_944, rfl, by decide, by decide +kernel⟩
theorem mm_X6_keep : MM RX6 yX6_keep cX6_keep 1 (some .int) 0 := ⟨tw_227, tw_228, tw_1, tw_229, rfl, by decide, by decide +kernel⟩
theorem mm_X6_restore : MM RX6 yX6_restore cX6_restore 1 (some .int) 0 := ⟨tw_273, tw_274, tw_1, tw_275, rfl, by decide, by decide +kernel⟩
theorem mm_X6_savedStates : MM RX6 yX6_savedStates cX6_savedStates 1 (some .int) 0 := ⟨tw_402, tw_403, tw_1, tw_404, rfl, by decide, by decide +kernel⟩
theorem mm_X6_rows : MM RX6 yX6_rows cX6_rows 1 (some .int) 0 := ⟨tw_260, tw_261, tw_1, tw_262, rfl, by decide, by decide +kernel⟩
theorem mm_X6_isFree : MM RX6 yX6_isFree cX6_isFree 2 (some .boolean) 1 := ⟨tw_410, tw_411, tw_1, tw_412, rfl, by decide, by decide +kernel⟩
theorem mm_X6_groupAt : MM RX6 yX6_groupAt cX6_groupAt 2 (some .int) 1 := ⟨tw_440, tw_441, tw_1, tw_442, rfl, by decide, by decide +kernel⟩
theorem mm_X6_amountAt : MM RX6 yX6_amountAt cX6_amountAt 2 (some .int) 1 := ⟨tw_449, tw_450, tw_1, tw_451, rfl, by decide, by decide +kernel⟩
theorem mm_X6_deltas : MM RX6 yX6_deltas cX6_deltas 1 (some .int) 0 := ⟨tw_371, tw_372, tw_1, tw_373, rfl, by decide, by decide +kernel⟩
theorem mm_X6_tick : MM RX6 yX6_tick cX6_tick 1 (some .int) 0 := ⟨tw_375, tw_376, tw_1, tw_377, rfl, by decide, by decide +kernel⟩
theorem mm_X6_isNapping : MM RX6 yX6_isNapping cX6_isNapping 2 (some .boolean) 1 := ⟨tw_457, tw_458, tw_1, tw_459, rfl, by decide, by decide +kernel⟩
theorem mm_X6_napOf : MM RX6 yX6_napOf cX6_napOf 2 (some .int) 1 := ⟨tw_465, tw_466, tw_1, tw_467, rfl, by decide, by decide +kernel⟩
theorem mm_X6_filterOf : MM RX6 yX6_filterOf cX6_filterOf 2 (some .int) 1 := ⟨tw_469, tw_470, tw_1, tw_471, rfl, by decide, by decide +kernel⟩
theorem mm_X6_waiting : MM RX6 yX6_waiting cX6_waiting 2 (some .int) 1 := ⟨tw_473, tw_474, tw_1, tw_475, rfl, by decide, by decide +kernel⟩
theorem mm_X6_waitingByNumbers : MM RX6 yX6_waitingByNumbers cX6_waitingByNumbers 2 (some .int) 1 := ⟨tw_484, tw_485, tw_1, tw_486, rfl, by decide, by decide +kernel⟩
theorem mm_X6_matters : MM RX6 yX6_matters cX6_matters 2 (some .int) 1 := ⟨tw_488, tw_489, tw_1, tw_490, rfl, by decide, by decide +kernel⟩
theorem mm_X6_wakings : MM RX6 yX6_wakings cX6_wakings 1 (some .int) 0 := ⟨tw_379, tw_380, tw_1, tw_381, rfl, by decide, by decide +kernel⟩
theorem mm_X6_wakingsByThemselves : MM RX6 yX6_wakingsByThemselves cX6_wakingsByThemselves 1 (some .int) 0 := ⟨tw_383, tw_384, tw_1, tw_385, rfl, by decide, by decide +kernel⟩
theorem mm_X6_refreshes : MM RX6 yX6_refreshes cX6_refreshes 1 (some .int) 0 := ⟨tw_387, tw_388, tw_1, tw_389, rfl, by decide, by decide +kernel⟩
theorem mm_X6_logLength : MM RX6 yX6_logLength cX6_logLength 3 (some .int) 0 := ⟨tw_391, tw_392, tw_1, tw_393, rfl, by decide, by decide +kernel⟩
theorem mm_X6_countOf : MM RX6 yX6_countOf cX6_countOf 3 (some .int) 2 := ⟨tw_813, tw_814, tw_1, tw_815, rfl, by decide, by decide +kernel⟩
theorem mm_X6_sumOf : MM RX6 yX6_sumOf cX6_sumOf 3 (some .int) 2 := ⟨tw_922, tw_923, tw_1, tw_924, rfl, by decide, by decide +kernel⟩
theorem mm_X6_leastOf : MM RX6 yX6_leastOf cX6_leastOf 4 (some .int) 2 := ⟨tw_855, tw_856, tw_1, tw_857, rfl, by decide, by decide +kernel⟩
theorem mm_X6_greatestOf : MM RX6 yX6_greatestOf cX6_greatestOf 4 (some .int) 2 := ⟨tw_866, tw_867, tw_1, tw_868, rfl, by decide, by decide +kernel⟩
theorem mm_X6_medianOf : MM RX6 yX6_medianOf cX6_medianOf 4 (some .int) 2 := ⟨tw_873, tw_874, tw_1, tw_875, rfl, by decide, by decide +kernel⟩
theorem mm_X6_rankOf : MM RX6 yX6_rankOf cX6_rankOf 5 (some .int) 3 := ⟨tw_820, tw_821, tw_1, tw_822, rfl, by decide, by decide +kernel⟩
theorem mm_X6_unlikeOf : MM RX6 yX6_unlikeOf cX6_unlikeOf 3 (some .int) 2 := ⟨tw_915, tw_916, tw_1, tw_917, rfl, by decide, by decide +kernel⟩
theorem mm_X6_countInTable : MM RX6 yX6_countInTable cX6_countInTable 3 (some .int) 2 := ⟨tw_880, tw_881, tw_1, tw_882, rfl, by decide, by decide +kernel⟩
theorem mm_X6_sumInTable : MM RX6 yX6_sumInTable cX6_sumInTable 3 (some .int) 2 := ⟨tw_930, tw_931, tw_1, tw_932, rfl, by decide, by decide +kernel⟩
theorem mm_X6_medianInTable : MM RX6 yX6_medianInTable cX6_medianInTable 4 (some .int) 2 := ⟨tw_887, tw_888, tw_1, tw_889, rfl, by decide, by decide +kernel⟩
theorem mm_X6_rankInTable : MM RX6 yX6_rankInTable cX6_rankInTable 5 (some .int) 3 := ⟨tw_827, tw_828, tw_1, tw_829, rfl, by decide, by decide +kernel⟩
theorem mm_X6_unlikeGroups : MM RX6 yX6_unlikeGroups cX6_unlikeGroups 2 (some .int) 1 := ⟨tw_492, tw_493, tw_1, tw_494, rfl, by decide, by decide +kernel⟩
theorem mm_X6_unlikeIfWoken : MM RX6 yX6_unlikeIfWoken cX6_unlikeIfWoken 2 (some .int) 1 := ⟨tw_536, tw_537, tw_1, tw_538, rfl, by decide, by decide +kernel⟩
theorem mm_X6_wakesIn : MM RX6 yX6_wakesIn cX6_wakesIn 3 (some .int) 1 := ⟨tw_550, tw_551, tw_1, tw_552, rfl, by decide, by decide +kernel⟩
theorem mm_X6_behindShare : MM RX6 yX6_behindShare cX6_behindShare 3 (some .double) 0 := ⟨tw_583, tw_584, tw_1, tw_585, rfl, by decide, by decide +kernel⟩
theorem mm_X6_digest : MM RX6 yX6_digest cX6_digest 5 (some .long) 0 := ⟨tw_357, tw_358, tw_1, tw_359, rfl, by decide, by decide +kernel⟩
theorem mm_X6_hashOfNumbers : MM RX6 yX6_hashOfNumbers cX6_hashOfNumbers 5 (some .long) 1 := ⟨tw_363, tp_3, tw_1, tw_364, rfl, by decide, by decide +kernel⟩
theorem mm_X6_hashOfPlace : MM RX6 yX6_hashOfPlace cX6_hashOfPlace 6 (some .long) 2 := ⟨tw_407, tp_4, tw_1, tw_408, rfl, by decide, by decide +kernel⟩
theorem mm_X6_hashOfView : MM RX6 yX6_hashOfView cX6_hashOfView 6 (some .long) 2 := ⟨tw_454, tp_6, tw_1, tw_455, rfl, by decide, by decide +kernel⟩
theorem mm_X6_hashOfGroup : MM RX6 yX6_hashOfGroup cX6_hashOfGroup 9 (some .long) 3 := ⟨tw_555, tp_9, tw_1, tw_556, rfl, by decide, by decide +kernel⟩
theorem mm_X6_hashWith : MS yX6_hashWith cX6_hashWith 4 (some .long) 2 := ⟨tw_367, tw_1, tw_368, by decide, by decide +kernel⟩
theorem mm_X6_bit : MS yX6_bit cX6_bit 1 (some .long) 1 := ⟨tw_437, tw_1, tw_438, by decide, by decide +kernel⟩
theorem mm_X6_bitsOfShare : MS yX6_bitsOfShare cX6_bitsOfShare 8 (some .long) 1 := ⟨tw_588, tw_1, tw_589, by decide, by decide +kernel⟩
theorem mm_X6_requirePlace : MS yX6_requirePlace cX6_requirePlace 1 none 1 := ⟨tw_414, tw_1, tw_415, by decide, by decide +kernel⟩
theorem mm_X6_requireGroup : MS yX6_requireGroup cX6_requireGroup 1 none 1 := ⟨tw_562, tw_1, tw_563, by decide, by decide +kernel⟩
theorem mm_X6_requireView : MS yX6_requireView cX6_requireView 1 none 1 := ⟨tw_461, tw_1, tw_462, by decide, by decide +kernel⟩
theorem mm_X6_requireAmount : MS yX6_requireAmount cX6_requireAmount 1 none 1 := ⟨tw_608, tw_1, tw_609, by decide, by decide +kernel⟩
theorem mm_X6_requireBound : MS yX6_requireBound cX6_requireBound 1 none 1 := ⟨tw_741, tw_1, tw_742, by decide, by decide +kernel⟩
theorem mm_X6_requireRow : MM RX6 yX6_requireRow cX6_requireRow 2 none 1 := ⟨tw_445, tp_5, tw_1, tw_446, rfl, by decide, by decide +kernel⟩
theorem mm_X6_requireAmounts : MS yX6_requireAmounts cX6_requireAmounts 1 none 1 := ⟨tw_859, tw_1, tw_860, by decide, by decide +kernel⟩
theorem mm_X6_heldBy : MM RX6 yX6_heldBy cX6_heldBy 3 (some (.object "NappingViews$Amounts")) 2 := ⟨tw_559, tp_10, tw_1, tw_560, rfl, by decide, by decide +kernel⟩
theorem mm_X6_inTable : MM RX6 yX6_inTable cX6_inTable 3 (some (.object "NappingViews$Amounts")) 2 := ⟨tw_567, tp_11, tw_1, tw_568, rfl, by decide, by decide +kernel⟩
theorem mm_X6_unlikeMask : MM RX6 yX6_unlikeMask cX6_unlikeMask 4 (some .int) 1 := ⟨tw_497, tp_7, tw_1, tw_498, rfl, by decide, by decide +kernel⟩
theorem mm_X6_saveState : MM RX6 yX6_saveState cX6_saveState 1 none 0 := ⟨tw_346, tp_1, tw_1, tw_347, rfl, by decide, by decide +kernel⟩
theorem mm_X6_dropOldestSaved : MM RX6 yX6_dropOldestSaved cX6_dropOldestSaved 3 none 0 := ⟨tw_350, tp_2, tw_1, tw_351, rfl, by decide, by decide +kernel⟩
theorem mm_L_draw : MS yL_draw cL_draw 2 (some .int) 2 := ⟨tw_264, tw_0, tw_265, by decide, by decide +kernel⟩
theorem mm_L_in : MS yL_in cL_in 6 (some .boolean) 3 := ⟨tw_895, tw_0, tw_896, by decide, by decide +kernel⟩
theorem mm_L_errors : MS yL_errors cL_errors 6 (some .boolean) 1 := ⟨tw_354, tw_0, tw_355, by decide, by decide +kernel⟩
theorem mm_L_kept : MS yL_kept cL_kept 18 (some .boolean) 1 := ⟨tw_891, tw_0, tw_892, by decide, by decide +kernel⟩
theorem mm_L_follows : MS yL_follows cL_follows 15 (some .boolean) 2 := ⟨tw_935, tw_0, tw_936, by decide, by decide +kernel⟩
theorem mm_L_alike : MS yL_alike cL_alike 3 (some .boolean) 3 := ⟨tw_949, tw_0, tw_950, by decide, by decide +kernel⟩
theorem mm_L_number : MS yL_number cL_number 3 (some .boolean) 2 := ⟨tw_994, tw_0, tw_995, by decide, by decide +kernel⟩
theorem mm_L_told : MS yL_told cL_told 8 (some .long) 2 := ⟨tw_987, tw_0, tw_988, by decide, by decide +kernel⟩
theorem mm_L_act : MS yL_act cL_act 7 (some .long) 3 := ⟨tw_984, tw_0, tw_985, by decide, by decide +kernel⟩
theorem mm_max : MS Lib.Math.max.name Lib.Math.max.code 2 (some .int) 2 := ⟨tw_399, tw_8, tw_400, by decide, by decide +kernel⟩
theorem mm_copy : Cond.native arraycopyName ∈ AW ∧ Cond.static arraycopyName ∈ AW ∧ Cond.initialized "java/lang/System" ∈ AW := ⟨tw_240, tw_239, tw_14⟩
theorem nI_m1 {a : Nat} (h : 0 < a) : nI a + Int32.ofInt (-1) = nI (a - 1) := by
  obtain ⟨b, rfl⟩ : ∃ b, a = b + 1 := ⟨a - 1, by omega⟩
  rw [litm1]
  exact pk_m1 b
section NRows
variable {K : KT} {X : XT} {cc : ByteArray} {own : String} {w0 : Cond} {nL : Nat} {ret : Option FieldType} {Q : State → Prop} {ce sl pc q : Nat} {lv : List (Option Value)} {st : List Value} {D : DT} {P : PT}
theorem pv_iaddN {a b : Nat} {x y : Int32} (C : CX K X cc own w0 nL ret) (hx : x = nI a) (hy : y = nI b) (d : decode cc pc = .ok (.iadd, 1)) (hq : pc + 1 = q) (k : PV K X Q ce sl q lv (.int (nI (a + b)) :: st) D P) : PV K X Q ce sl pc lv (.int y :: .int x :: st) D P := pv_iadd C d hq (by rw [hx, hy, nI_add]; exact k)
theorem pv_imulN {a b : Nat} {x y : Int32} (C : CX K X cc own w0 nL ret) (hx : x = nI a) (hy : y = nI b) (d : decode cc pc = .ok (.imul, 1)) (hq : pc + 1 = q) (k : PV K X Q ce sl q lv (.int (nI (a * b)) :: st) D P) : PV K X Q ce sl pc lv (.int y :: .int x :: st) D P := pv_imul C d hq (by rw [hx, hy, pk_mul]; exact k)
theorem pv_isubN {a b : Nat} {x y : Int32} (C : CX K X cc own w0 nL ret) (hx : x = nI a) (hy : y = nI b) (hb : b ≤ a) (d : decode cc pc = .ok (.isub, 1)) (hq : pc + 1 = q) (k : PV K X Q ce sl q lv (.int (nI (a - b)) :: st) D P) : PV K X Q ce sl pc lv (.int y :: .int x :: st) D P := pv_isub C d hq (by rw [hx, hy, pk_sub hb]; exact k)
theorem pv_idivN {a b : Nat} {x y : Int32} (C : CX K X cc own w0 nL ret) (hx : x = nI a) (hy : y = nI b) (ha : a < 2 ^ 31) (h0 : 0 < b) (hb : b < 2 ^ 31) (d : decode cc pc = .ok (.idiv, 1)) (hq : pc + 1 = q) (k : PV K X Q ce sl q lv (.int (nI (a / b)) :: st) D P) : PV K X Q ce sl pc lv (.int y :: .int x :: st) D P := pv_idiv C d hq (by rw [hy]; exact nI_ne0 h0 hb) (by rw [hx, hy, pk_div ha h0 hb]; exact k)
theorem pv_iremN {a b : Nat} {x y : Int32} (C : CX K X cc own w0 nL ret) (hx : x = nI a) (hy : y = nI b) (ha : a < 2 ^ 31) (h0 : 0 < b) (hb : b < 2 ^ 31) (d : decode cc pc = .ok (.irem, 1)) (hq : pc + 1 = q) (k : PV K X Q ce sl q lv (.int (nI (a % b)) :: st) D P) : PV K X Q ce sl pc lv (.int y :: .int x :: st) D P := pv_irem C d hq (by rw [hy]; exact nI_ne0 h0 hb) (by rw [hx, hy, pk_rem ha h0 hb]; exact k)
theorem pv_icmp_eqN {a b : Nat} {x y : Int32} {off : Int} {tgt : Nat} (C : CX K X cc own w0 nL ret) (hx : x = nI a) (hy : y = nI b) (ha : a < 2 ^ 31) (hb : b < 2 ^ 31) (d : decode cc pc = .ok (.if_icmp .eq off, 3)) (ht : (pc : Int) + off = (tgt : Int)) (hq : pc + 3 = q) (kt : a = b → PV K X Q ce sl tgt lv st D P) (kf : a ≠ b → PV K X Q ce sl q lv st D P) : PV K X Q ce sl pc lv (.int y :: .int x :: st) D P := by
  subst hx; subst hy
  exact pv_icmp_eq C d ht hq (fun h => kt ((nI_eq ha hb).mp h)) (fun h => kf (fun z => h ((nI_eq ha hb).mpr z)))
theorem pv_if_eqN {a b : Nat} {x : Int32} {off : Int} {tgt : Nat} (C : CX K X cc own w0 nL ret) (hx : x = nI a) (hy : (0 : Int32) = nI b) (ha : a < 2 ^ 31) (hb : b < 2 ^ 31) (d : decode cc pc = .ok (.ifCond .eq off, 3)) (ht : (pc : Int) + off = (tgt : Int)) (hq : pc + 3 = q) (kt : a = b → PV K X Q ce sl tgt lv st D P) (kf : a ≠ b → PV K X Q ce sl q lv st D P) : PV K X Q ce sl pc lv (.int x :: st) D P := by
  subst hx
  refine pv_if_eq C d ht hq (fun h => ?_) (fun h => ?_)
  · rw [hy] at h; exact kt ((nI_eq ha hb).mp h)
  · rw [hy] at h; exact kf (fun z => h ((nI_eq ha hb).mpr z))
theorem pv_icmp_neN {a b : Nat} {x y : Int32} {off : Int} {tgt : Nat} (C : CX K X cc own w0 nL ret) (hx : x = nI a) (hy : y = nI b) (ha : a < 2 ^ 31) (hb : b < 2 ^ 31) (d : decode cc pc = .ok (.if_icmp .ne off, 3)) (ht : (pc : Int) + off = (tgt : Int)) (hq : pc + 3 = q) (kt : a ≠ b → PV K X Q ce sl tgt lv st D P) (kf : a = b → PV K X Q ce sl q lv st D P) : PV K X Q ce sl pc lv (.int y :: .int x :: st) D P := by
  subst hx; subst hy
  exact pv_icmp_ne C d ht hq (fun h => kt (fun z => h ((nI_eq ha hb).mpr z))) (fun h => kf ((nI_eq ha hb).mp h))
theorem pv_if_neN {a b : Nat} {x : Int32} {off : Int} {tgt : Nat} (C : CX K X cc own w0 nL ret) (hx : x = nI a) (hy : (0 : Int32) = nI b) (ha : a < 2 ^ 31) (hb : b < 2 ^ 31) (d : decode cc pc = .ok (.ifCond .ne off, 3)) (ht : (pc : Int) + off = (tgt : Int)) (hq : pc + 3 = q) (kt : a ≠ b → PV K X Q ce sl tgt lv st D P) (kf : a = b → PV K X Q ce sl q lv st D P) : PV K X Q ce sl pc lv (.int x :: st) D P := by
  subst hx
  refine pv_if_ne C d ht hq (fun h => ?_) (fun h => ?_)
  · rw [hy] at h; exact kt (fun z => h ((nI_eq ha hb).mpr z))
  · rw [hy] at h; exact kf ((nI_eq ha hb).mp h)
theorem pv_icmp_ltN {a b : Nat} {x y : Int32} {off : Int} {tgt : Nat} (C : CX K X cc own w0 nL ret) (hx : x = nI a) (hy : y = nI b) (ha : a < 2 ^ 31) (hb : b < 2 ^ 31) (d : decode cc pc = .ok (.if_icmp .lt off, 3)) (ht : (pc : Int) + off = (tgt : Int)) (hq : pc + 3 = q) (kt : a < b → PV K X Q ce sl tgt lv st D P) (kf : b ≤ a → PV K X Q ce sl q lv st D P) : PV K X Q ce sl pc lv (.int y :: .int x :: st) D P := by
  subst hx; subst hy
  exact pv_icmp_lt C d ht hq (fun h => kt ((nI_ltI ha hb).mp h)) (fun h => kf (Nat.not_lt.mp (fun z => h ((nI_ltI ha hb).mpr z))))
theorem pv_if_ltN {a b : Nat} {x : Int32} {off : Int} {tgt : Nat} (C : CX K X cc own w0 nL ret) (hx : x = nI a) (hy : (0 : Int32) = nI b) (ha : a < 2 ^ 31) (hb : b < 2 ^ 31) (d : decode cc pc = .ok (.ifCond .lt off, 3)) (ht : (pc : Int) + off = (tgt : Int)) (hq : pc + 3 = q) (kt : a < b → PV K X Q ce sl tgt lv st D P) (kf : b ≤ a → PV K X Q ce sl q lv st D P) : PV K X Q ce sl pc lv (.int x :: st) D P := by
  subst hx
  refine pv_if_lt C d ht hq (fun h => ?_) (fun h => ?_)
  · rw [hy] at h; exact kt ((nI_ltI ha hb).mp h)
  · rw [hy] at h; exact kf (Nat.not_lt.mp (fun z => h ((nI_ltI ha hb).mpr z)))
theorem pv_icmp_geN {a b : Nat} {x y : Int32} {off : Int} {tgt : Nat} (C : CX K X cc own w0 nL ret) (hx : x = nI a) (hy : y = nI b) (ha : a < 2 ^ 31) (hb : b < 2 ^ 31) (d : decode cc pc = .ok (.if_icmp .ge off, 3)) (ht : (pc : Int) + off = (tgt : Int)) (hq : pc + 3 = q) (kt : b ≤ a → PV K X Q ce sl tgt lv st D P) (kf : a < b → PV K X Q ce sl q lv st D P) : PV K X Q ce sl pc lv (.int y :: .int x :: st) D P := by
  subst hx; subst hy
  exact pv_icmp_ge C d ht hq (fun h => kt ((nI_leI hb ha).mp h)) (fun h => kf (Nat.not_le.mp (fun z => h ((nI_leI hb ha).mpr z))))
theorem pv_if_geN {a b : Nat} {x : Int32} {off : Int} {tgt : Nat} (C : CX K X cc own w0 nL ret) (hx : x = nI a) (hy : (0 : Int32) = nI b) (ha : a < 2 ^ 31) (hb : b < 2 ^ 31) (d : decode cc pc = .ok (.ifCond .ge off, 3)) (ht : (pc : Int) + off = (tgt : Int)) (hq : pc + 3 = q) (kt : b ≤ a → PV K X Q ce sl tgt lv st D P) (kf : a < b → PV K X Q ce sl q lv st D P) : PV K X Q ce sl pc lv (.int x :: st) D P := by
  subst hx
  refine pv_if_ge C d ht hq (fun h => ?_) (fun h => ?_)
  · rw [hy] at h; exact kt ((nI_leI hb ha).mp h)
  · rw [hy] at h; exact kf (Nat.not_le.mp (fun z => h ((nI_leI hb ha).mpr z)))
theorem pv_icmp_gtN {a b : Nat} {x y : Int32} {off : Int} {tgt : Nat} (C : CX K X cc own w0 nL ret) (hx : x = nI a) (hy : y = nI b) (ha : a < 2 ^ 31) (hb : b < 2 ^ 31) (d : decode cc pc = .ok (.if_icmp .gt off, 3)) (ht : (pc : Int) + off = (tgt : Int)) (hq : pc + 3 = q) (kt : b < a → PV K X Q ce sl tgt lv st D P) (kf : a ≤ b → PV K X Q ce sl q lv st D P) : PV K X Q ce sl pc lv (.int y :: .int x :: st) D P := by
  subst hx; subst hy
  exact pv_icmp_gt C d ht hq (fun h => kt ((nI_ltI hb ha).mp h)) (fun h => kf (Nat.not_lt.mp (fun z => h ((nI_ltI hb ha).mpr z))))
theorem pv_if_gtN {a b : Nat} {x : Int32} {off : Int} {tgt : Nat} (C : CX K X cc own w0 nL ret) (hx : x = nI a) (hy : (0 : Int32) = nI b) (ha : a < 2 ^ 31) (hb : b < 2 ^ 31) (d : decode cc pc = .ok (.ifCond .gt off, 3)) (ht : (pc : Int) + off = (tgt : Int)) (hq : pc + 3 = q) (kt : b < a → PV K X Q ce sl tgt lv st D P) (kf : a ≤ b → PV K X Q ce sl q lv st D P) : PV K X Q ce sl pc lv (.int x :: st) D P := by
  subst hx
  refine pv_if_gt C d ht hq (fun h => ?_) (fun h => ?_)
  · rw [hy] at h; exact kt ((nI_ltI hb ha).mp h)
  · rw [hy] at h; exact kf (Nat.not_lt.mp (fun z => h ((nI_ltI hb ha).mpr z)))
theorem pv_icmp_leN {a b : Nat} {x y : Int32} {off : Int} {tgt : Nat} (C : CX K X cc own w0 nL ret) (hx : x = nI a) (hy : y = nI b) (ha : a < 2 ^ 31) (hb : b < 2 ^ 31) (d : decode cc pc = .ok (.if_icmp .le off, 3)) (ht : (pc : Int) + off = (tgt : Int)) (hq : pc + 3 = q) (kt : a ≤ b → PV K X Q ce sl tgt lv st D P) (kf : b < a → PV K X Q ce sl q lv st D P) : PV K X Q ce sl pc lv (.int y :: .int x :: st) D P := by
  subst hx; subst hy
  exact pv_icmp_le C d ht hq (fun h => kt ((nI_leI ha hb).mp h)) (fun h => kf (Nat.not_le.mp (fun z => h ((nI_leI ha hb).mpr z))))
theorem pv_if_leN {a b : Nat} {x : Int32} {off : Int} {tgt : Nat} (C : CX K X cc own w0 nL ret) (hx : x = nI a) (hy : (0 : Int32) = nI b) (ha : a < 2 ^ 31) (hb : b < 2 ^ 31) (d : decode cc pc = .ok (.ifCond .le off, 3)) (ht : (pc : Int) + off = (tgt : Int)) (hq : pc + 3 = q) (kt : a ≤ b → PV K X Q ce sl tgt lv st D P) (kf : b < a → PV K X Q ce sl q lv st D P) : PV K X Q ce sl pc lv (.int x :: st) D P := by
  subst hx
  refine pv_if_le C d ht hq (fun h => ?_) (fun h => ?_)
  · rw [hy] at h; exact kt ((nI_leI ha hb).mp h)
  · rw [hy] at h; exact kf (Nat.not_le.mp (fun z => h ((nI_leI ha hb).mpr z)))
end NRows
