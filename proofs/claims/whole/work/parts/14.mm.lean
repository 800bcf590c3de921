theorem mm_X0_copyFrom : MM RX0 yX0_copyFrom cX0_copyFrom 2 none 1 := ⟨tw_293, tw_294, tw_6, tw_295, rfl, by decide, by decide +kernel⟩
theorem mm_X0_takeFrom : MM RX0 yX0_takeFrom cX0_takeFrom 5 none 3 := ⟨tw_528, tw_529, tw_6, tw_530, rfl, by decide, by decide +kernel⟩
theorem mm_X0_add : MM RX0 yX0_add cX0_add 3 none 1 := ⟨tw_532, tw_533, tw_6, tw_534, rfl, by decide, by decide +kernel⟩
theorem mm_X0_remove : MM RX0 yX0_remove cX0_remove 4 none 1 := ⟨tw_574, tw_575, tw_6, tw_576, rfl, by decide, by decide +kernel⟩
theorem mm_X0_total : MM RX0 yX0_total cX0_total 3 (some .int) 0 := ⟨tw_540, tw_541, tw_6, tw_542, rfl, by decide, by decide +kernel⟩
theorem mm_X0_first : MM RX0 yX0_first cX0_first 1 (some .int) 0 := ⟨tw_544, tw_545, tw_6, tw_546, rfl, by decide, by decide +kernel⟩
theorem mm_X0_last : MM RX0 yX0_last cX0_last 1 (some .int) 0 := ⟨tw_552, tw_553, tw_6, tw_554, rfl, by decide, by decide +kernel⟩
theorem mm_X0_middle : MM RX0 yX0_middle cX0_middle 1 (some .int) 0 := ⟨tw_556, tw_557, tw_6, tw_558, rfl, by decide, by decide +kernel⟩
theorem mm_X0_valueAt : MM RX0 yX0_valueAt cX0_valueAt 2 (some .int) 1 := ⟨tw_549, tp_12, tw_6, tw_550, rfl, by decide, by decide +kernel⟩
theorem mm_X0_countBelow : MM RX0 yX0_countBelow cX0_countBelow 3 (some .int) 1 := ⟨tw_600, tw_601, tw_6, tw_602, rfl, by decide, by decide +kernel⟩
theorem mm_X0_countUnlike : MM RX0 yX0_countUnlike cX0_countUnlike 3 (some .int) 0 := ⟨tw_560, tw_561, tw_6, tw_562, rfl, by decide, by decide +kernel⟩
theorem mm_X0_tellsLike : MM RX0 yX0_tellsLike cX0_tellsLike 2 (some .boolean) 1 := ⟨tw_536, tw_537, tw_6, tw_538, rfl, by decide, by decide +kernel⟩
theorem mm_X1_copyFrom : MM RX1 yX1_copyFrom cX1_copyFrom 2 none 1 := ⟨tw_284, tw_285, tw_4, tw_286, rfl, by decide, by decide +kernel⟩
theorem mm_X1_write : MM RX1 yX1_write cX1_write 5 none 3 := ⟨tw_666, tw_667, tw_4, tw_668, rfl, by decide, by decide +kernel⟩
theorem mm_X1_slotOf : MS yX1_slotOf cX1_slotOf 1 (some .int) 1 := ⟨tw_509, tw_4, tw_510, by decide, by decide +kernel⟩
theorem mm_X2_addSign : MM RX2 yX2_addSign cX2_addSign 2 none 1 := ⟨tw_806, tw_807, tw_7, tw_808, rfl, by decide, by decide +kernel⟩
theorem mm_X2_hashOfSigns : MM RX2 yX2_hashOfSigns cX2_hashOfSigns 6 (some .long) 1 := ⟨tw_615, tw_616, tw_7, tw_617, rfl, by decide, by decide +kernel⟩
theorem mm_X2_readWhole : MM RX2 yX2_readWhole cX2_readWhole 2 (some .boolean) 0 := ⟨tw_237, tw_238, tw_7, tw_239, rfl, by decide, by decide +kernel⟩
theorem mm_X2_readNextPart : MM RX2 yX2_readNextPart cX2_readNextPart 1 (some .boolean) 0 := ⟨tw_818, tw_819, tw_7, tw_820, rfl, by decide, by decide +kernel⟩
theorem mm_X2_readPart : MM RX2 yX2_readPart cX2_readPart 1 (some .boolean) 0 := ⟨tw_242, tp_0, tw_7, tw_243, rfl, by decide, by decide +kernel⟩
theorem mm_X2_readSign : MM RX2 yX2_readSign cX2_readSign 2 (some .boolean) 1 := ⟨tw_262, tp_5, tw_7, tw_263, rfl, by decide, by decide +kernel⟩
theorem mm_X2_readGroup : MM RX2 yX2_readGroup cX2_readGroup 1 (some .boolean) 0 := ⟨tw_254, tp_3, tw_7, tw_255, rfl, by decide, by decide +kernel⟩
theorem mm_X2_readAmount : MM RX2 yX2_readAmount cX2_readAmount 4 (some .boolean) 0 := ⟨tw_258, tp_4, tw_7, tw_259, rfl, by decide, by decide +kernel⟩
theorem mm_X2_readNumber : MM RX2 yX2_readNumber cX2_readNumber 5 (some .boolean) 2 := ⟨tw_246, tp_1, tw_7, tw_247, rfl, by decide, by decide +kernel⟩
theorem mm_X2_digitAhead : MM RX2 yX2_digitAhead cX2_digitAhead 1 (some .int) 0 := ⟨tw_250, tp_2, tw_7, tw_251, rfl, by decide, by decide +kernel⟩
theorem mm_X3_copyFrom : MM RX3 yX3_copyFrom cX3_copyFrom 3 none 1 := ⟨tw_273, tw_274, tw_2, tw_275, rfl, by decide, by decide +kernel⟩
theorem mm_X3_addRow : MM RX3 yX3_addRow cX3_addRow 4 none 3 := ⟨tw_658, tw_659, tw_2, tw_660, rfl, by decide, by decide +kernel⟩
theorem mm_X3_replaceRow : MM RX3 yX3_replaceRow cX3_replaceRow 4 none 3 := ⟨tw_692, tw_693, tw_2, tw_694, rfl, by decide, by decide +kernel⟩
theorem mm_X3_removeRow : MM RX3 yX3_removeRow cX3_removeRow 3 none 1 := ⟨tw_710, tw_711, tw_2, tw_712, rfl, by decide, by decide +kernel⟩
theorem mm_X3_writeDelta : MM RX3 yX3_writeDelta cX3_writeDelta 5 none 3 := ⟨tw_663, tp_18, tw_2, tw_664, rfl, by decide, by decide +kernel⟩
theorem mm_X3_wakeViewsTooFarBehind : MM RX3 yX3_wakeViewsTooFarBehind cX3_wakeViewsTooFarBehind 2 none 0 := ⟨tw_672, tw_673, tw_2, tw_674, rfl, by decide, by decide +kernel⟩
theorem mm_X3_wakeView : MM RX3 yX3_wakeView cX3_wakeView 2 none 1 := ⟨tw_677, tw_678, tw_2, tw_679, rfl, by decide, by decide +kernel⟩
theorem mm_X3_refreshView : MM RX3 yX3_refreshView cX3_refreshView 2 none 1 := ⟨tw_746, tw_747, tw_2, tw_748, rfl, by decide, by decide +kernel⟩
theorem mm_X3_countNapping : MM RX3 yX3_countNapping cX3_countNapping 3 (some .int) 0 := ⟨tw_726, tw_727, tw_2, tw_728, rfl, by decide, by decide +kernel⟩
theorem mm_X3_passTicks : MM RX3 yX3_passTicks cX3_passTicks 4 (some .int) 1 := ⟨tw_789, tw_790, tw_2, tw_791, rfl, by decide, by decide +kernel⟩
theorem mm_X3_passTick : MM RX3 yX3_passTick cX3_passTick 3 none 0 := ⟨tw_794, tp_19, tw_2, tw_795, rfl, by decide, by decide +kernel⟩
theorem mm_X3_letHappen : MM RX3 yX3_letHappen cX3_letHappen 3 (some .boolean) 1 := ⟨tw_822, tw_823, tw_2, tw_824, rfl, by decide, by decide +kernel⟩
theorem mm_X3_letHappenToView : MM RX3 yX3_letHappenToView cX3_letHappenToView 3 (some .boolean) 1 := ⟨tw_828, tp_20, tw_2, tw_829, rfl, by decide, by decide +kernel⟩
theorem mm_X4_copyFrom : MM RX4 yX4_copyFrom cX4_copyFrom 2 none 1 := ⟨tw_277, tw_278, tw_3, tw_279, rfl, by decide, by decide +kernel⟩
theorem mm_X4_freeAt : MM RX4 yX4_freeAt cX4_freeAt 2 (some .boolean) 1 := ⟨tw_446, tw_447, tw_3, tw_448, rfl, by decide, by decide +kernel⟩
theorem mm_X4_countRows : MM RX4 yX4_countRows cX4_countRows 6 (some .int) 0 := ⟨tw_298, tw_299, tw_3, tw_300, rfl, by decide, by decide +kernel⟩
theorem mm_X5_copyFrom : MM RX5 yX5_copyFrom cX5_copyFrom 3 none 1 := ⟨tw_289, tw_290, tw_5, tw_291, rfl, by decide, by decide +kernel⟩
theorem mm_X5_beginNap : MM RX5 yX5_beginNap cX5_beginNap 1 none 0 := ⟨tw_722, tw_723, tw_5, tw_724, rfl, by decide, by decide +kernel⟩
theorem mm_X5_endNap : MM RX5 yX5_endNap cX5_endNap 1 none 0 := ⟨tw_681, tw_682, tw_5, tw_683, rfl, by decide, by decide +kernel⟩
theorem mm_X5_countWaiting : MM RX5 yX5_countWaiting cX5_countWaiting 2 (some .int) 1 := ⟨tw_334, tw_335, tw_5, tw_336, rfl, by decide, by decide +kernel⟩
theorem mm_X5_countWaitingFrom : MM RX5 yX5_countWaitingFrom cX5_countWaitingFrom 5 (some .int) 2 := ⟨tw_505, tw_506, tw_5, tw_507, rfl, by decide, by decide +kernel⟩
theorem mm_X5_seeWaiting : MM RX5 yX5_seeWaiting cX5_seeWaiting 6 none 1 := ⟨tw_569, tw_570, tw_5, tw_571, rfl, by decide, by decide +kernel⟩
theorem mm_X5_holdWhatTableTells : MM RX5 yX5_holdWhatTableTells cX5_holdWhatTableTells 4 none 2 := ⟨tw_750, tw_751, tw_5, tw_752, rfl, by decide, by decide +kernel⟩
theorem mm_X6_insert : MM RX6 yX6_insert cX6_insert 4 (some .int) 3 := ⟨tw_626, tw_627, tw_1, tw_628, rfl, by decide, by decide +kernel⟩
theorem mm_X6_change : MM RX6 yX6_change cX6_change 4 (some .int) 2 := ⟨tw_688, tw_689, tw_1, tw_690, rfl, by decide, by decide +kernel⟩
theorem mm_X6_regroup : MM RX6 yX6_regroup cX6_regroup 4 (some .int) 2 := ⟨tw_699, tw_700, tw_1, tw_701, rfl, by decide, by decide +kernel⟩
theorem mm_X6_delete : MM RX6 yX6_delete cX6_delete 3 (some .int) 1 := ⟨tw_706, tw_707, tw_1, tw_708, rfl, by decide, by decide +kernel⟩
theorem mm_X6_nap : MM RX6 yX6_nap cX6_nap 2 (some .int) 1 := ⟨tw_717, tw_718, tw_1, tw_719, rfl, by decide, by decide +kernel⟩
theorem mm_X6_wake : MM RX6 yX6_wake cX6_wake 3 (some .int) 1 := ⟨tw_733, tw_734, tw_1, tw_735, rfl, by decide, by decide +kernel⟩
theorem mm_X6_refresh : MM RX6 yX6_refresh cX6_refresh 3 (some .int) 1 := ⟨tw_742, tw_743, tw_1, tw_744, rfl, by decide, by decide +kernel⟩
theorem mm_X6_setFilter : MM RX6 yX6_setFilter cX6_setFilter 4 (some .int) 2 := ⟨tw_758, tw_759, tw_1, tw_760, rfl, by decide, by decide +kernel⟩
theorem mm_X6_setBehind : MM RX6 yX6_setBehind cX6_setBehind 4 (some .int) 2 := ⟨tw_765, tw_766, tw_1, tw_767, rfl, by decide, by decide +kernel⟩
theorem mm_X6_setLongest : MM RX6 yX6_setLongest cX6_setLongest 4 (some .int) 2 := ⟨tw_777, tw_778, tw_1, tw_779, rfl, by decide, by decide +kernel⟩
theorem mm_X6_pass : MM RX6 yX6_pass cX6_pass 2 (some .int) 1 := ⟨tw_784, tw_785, tw_1, tw_786, rfl, by decide, by decide +kernel⟩
theorem mm_X6_append : MM RX6 yX6_append cX6_append 2 (some .int) 1 := ⟨tw_800, tw_801, tw_1, tw_802, rfl, by decide, by decide +kernel⟩
theorem mm_X6_clearBuffer : MM RX6 yX6_clearBuffer cX6_clearBuffer 2 (some .int) 0 := ⟨tw_229, tw_230, tw_1, tw_231, rfl, by decide, by decide +kernel⟩
theorem mm_X6_firstError : MM RX6 yX6_firstError cX6_firstError 1 (some .int) 0 := ⟨tw_233, tw_234, tw_1, tw_235, rfl, by decide, by decide +kernel⟩
theorem mm_X6_replay : MM RX6 yX6_replay cX6_replay 2 (some .int) 0 := ⟨tw_813, tw_814, tw_1, tw_815, rfl, by decide, by decide +kernel⟩
theorem mm_X6_hasStopped : MM RX6 yX6_hasStopped cX6_hasStopped 1 (some .boolean) 0 := ⟨tw_265, tw_266, tw_1, tw_267, rfl, by decide, by decide +kernel⟩
theorem mm_X6_stoppedPart : MM RX6 yX6_stoppedPart cX6_stoppedPart 1 (some .int) 0 := ⟨tw_840, tw_841, tw_1, tw_842, rfl, by decide, by decide +kernel⟩
theorem mm_X6_undo : MM RX6 yX6_undo cX6_undo 1 (some .int) 0 := ⟨tw_848, tw_849, tw_1, tw_850, rfl, by decide, by decide +kernel⟩
theorem mm_X6_keep : MM RX6 yX6_keep cX6_keep 1 (some .int) 0 := ⟨tw_269, tw_270, tw_1, tw_271, rfl, by decide, by decide +kernel⟩
theorem mm_X6_restore : MM RX6 yX6_restore cX6_restore 1 (some .int) 0 := ⟨tw_856, tw_857, tw_1, tw_858, rfl, by decide, by decide +kernel⟩
theorem mm_X6_savedStates : MM RX6 yX6_savedStates cX6_savedStates 1 (some .int) 0 := ⟨tw_302, tw_303, tw_1, tw_304, rfl, by decide, by decide +kernel⟩
theorem mm_X6_rows : MM RX6 yX6_rows cX6_rows 1 (some .int) 0 := ⟨tw_306, tw_307, tw_1, tw_308, rfl, by decide, by decide +kernel⟩
theorem mm_X6_isFree : MM RX6 yX6_isFree cX6_isFree 2 (some .boolean) 1 := ⟨tw_371, tw_372, tw_1, tw_373, rfl, by decide, by decide +kernel⟩
theorem mm_X6_groupAt : MM RX6 yX6_groupAt cX6_groupAt 2 (some .int) 1 := ⟨tw_453, tw_454, tw_1, tw_455, rfl, by decide, by decide +kernel⟩
theorem mm_X6_amountAt : MM RX6 yX6_amountAt cX6_amountAt 2 (some .int) 1 := ⟨tw_477, tw_478, tw_1, tw_479, rfl, by decide, by decide +kernel⟩
theorem mm_X6_deltas : MM RX6 yX6_deltas cX6_deltas 1 (some .int) 0 := ⟨tw_310, tw_311, tw_1, tw_312, rfl, by decide, by decide +kernel⟩
theorem mm_X6_tick : MM RX6 yX6_tick cX6_tick 1 (some .int) 0 := ⟨tw_314, tw_315, tw_1, tw_316, rfl, by decide, by decide +kernel⟩
theorem mm_X6_isNapping : MM RX6 yX6_isNapping cX6_isNapping 2 (some .boolean) 1 := ⟨tw_485, tw_486, tw_1, tw_487, rfl, by decide, by decide +kernel⟩
theorem mm_X6_napOf : MM RX6 yX6_napOf cX6_napOf 2 (some .int) 1 := ⟨tw_493, tw_494, tw_1, tw_495, rfl, by decide, by decide +kernel⟩
theorem mm_X6_filterOf : MM RX6 yX6_filterOf cX6_filterOf 2 (some .int) 1 := ⟨tw_497, tw_498, tw_1, tw_499, rfl, by decide, by decide +kernel⟩
theorem mm_X6_waiting : MM RX6 yX6_waiting cX6_waiting 2 (some .int) 1 := ⟨tw_501, tw_502, tw_1, tw_503, rfl, by decide, by decide +kernel⟩
theorem mm_X6_waitingByNumbers : MM RX6 yX6_waitingByNumbers cX6_waitingByNumbers 2 (some .int) 1 := ⟨tw_512, tw_513, tw_1, tw_514, rfl, by decide, by decide +kernel⟩
theorem mm_X6_matters : MM RX6 yX6_matters cX6_matters 2 (some .int) 1 := ⟨tw_516, tw_517, tw_1, tw_518, rfl, by decide, by decide +kernel⟩
theorem mm_X6_wakings : MM RX6 yX6_wakings cX6_wakings 1 (some .int) 0 := ⟨tw_318, tw_319, tw_1, tw_320, rfl, by decide, by decide +kernel⟩
theorem mm_X6_wakingsByThemselves : MM RX6 yX6_wakingsByThemselves cX6_wakingsByThemselves 1 (some .int) 0 := ⟨tw_322, tw_323, tw_1, tw_324, rfl, by decide, by decide +kernel⟩
theorem mm_X6_refreshes : MM RX6 yX6_refreshes cX6_refreshes 1 (some .int) 0 := ⟨tw_326, tw_327, tw_1, tw_328, rfl, by decide, by decide +kernel⟩
theorem mm_X6_logLength : MM RX6 yX6_logLength cX6_logLength 3 (some .int) 0 := ⟨tw_330, tw_331, tw_1, tw_332, rfl, by decide, by decide +kernel⟩
theorem mm_X6_countOf : MM RX6 yX6_countOf cX6_countOf 3 (some .int) 2 := ⟨tw_900, tw_901, tw_1, tw_902, rfl, by decide, by decide +kernel⟩
theorem mm_X6_sumOf : MM RX6 yX6_sumOf cX6_sumOf 3 (some .int) 2 := ⟨tw_907, tw_908, tw_1, tw_909, rfl, by decide, by decide +kernel⟩
theorem mm_X6_leastOf : MM RX6 yX6_leastOf cX6_leastOf 4 (some .int) 2 := ⟨tw_914, tw_915, tw_1, tw_916, rfl, by decide, by decide +kernel⟩
theorem mm_X6_greatestOf : MM RX6 yX6_greatestOf cX6_greatestOf 4 (some .int) 2 := ⟨tw_925, tw_926, tw_1, tw_927, rfl, by decide, by decide +kernel⟩
theorem mm_X6_medianOf : MM RX6 yX6_medianOf cX6_medianOf 4 (some .int) 2 := ⟨tw_932, tw_933, tw_1, tw_934, rfl, by decide, by decide +kernel⟩
theorem mm_X6_rankOf : MM RX6 yX6_rankOf cX6_rankOf 5 (some .int) 3 := ⟨tw_939, tw_940, tw_1, tw_941, rfl, by decide, by decide +kernel⟩
theorem mm_X6_unlikeOf : MM RX6 yX6_unlikeOf cX6_unlikeOf 3 (some .int) 2 := ⟨tw_946, tw_947, tw_1, tw_948, rfl, by decide, by decide +kernel⟩
theorem mm_X6_countInTable : MM RX6 yX6_countInTable cX6_countInTable 3 (some .int) 2 := ⟨tw_953, tw_954, tw_1, tw_955, rfl, by decide, by decide +kernel⟩
theorem mm_X6_sumInTable : MM RX6 yX6_sumInTable cX6_sumInTable 3 (some .int) 2 := ⟨tw_960, tw_961, tw_1, tw_962, rfl, by decide, by decide +kernel⟩
theorem mm_X6_medianInTable : MM RX6 yX6_medianInTable cX6_medianInTable 4 (some .int) 2 := ⟨tw_967, tw_968, tw_1, tw_969, rfl, by decide, by decide +kernel⟩
theorem mm_X6_rankInTable : MM RX6 yX6_rankInTable cX6_rankInTable 5 (some .int) 3 := ⟨tw_974, tw_975, tw_1, tw_976, rfl, by decide, by decide +kernel⟩
theorem mm_X6_unlikeGroups : MM RX6 yX6_unlikeGroups cX6_unlikeGroups 2 (some .int) 1 := ⟨tw_520, tw_521, tw_1, tw_522, rfl, by decide, by decide +kernel⟩
theorem mm_X6_unlikeIfWoken : MM RX6 yX6_unlikeIfWoken cX6_unlikeIfWoken 2 (some .int) 1 := ⟨tw_564, tw_565, tw_1, tw_566, rfl, by decide, by decide +kernel⟩
theorem mm_X6_wakesIn : MM RX6 yX6_wakesIn cX6_wakesIn 3 (some .int) 1 := ⟨tw_578, tw_579, tw_1, tw_580, rfl, by decide, by decide +kernel⟩
theorem mm_X6_behindShare : MM RX6 yX6_behindShare cX6_behindShare 3 (some .double) 0 := ⟨tw_341, tw_342, tw_1, tw_343, rfl, by decide, by decide +kernel⟩
theorem mm_X6_digest : MM RX6 yX6_digest cX6_digest 5 (some .long) 0 := ⟨tw_346, tw_347, tw_1, tw_348, rfl, by decide, by decide +kernel⟩
theorem mm_X6_hashOfNumbers : MM RX6 yX6_hashOfNumbers cX6_hashOfNumbers 5 (some .long) 1 := ⟨tw_352, tp_6, tw_1, tw_353, rfl, by decide, by decide +kernel⟩
theorem mm_X6_hashOfPlace : MM RX6 yX6_hashOfPlace cX6_hashOfPlace 6 (some .long) 2 := ⟨tw_368, tp_7, tw_1, tw_369, rfl, by decide, by decide +kernel⟩
theorem mm_X6_hashOfView : MM RX6 yX6_hashOfView cX6_hashOfView 6 (some .long) 2 := ⟨tw_482, tp_10, tw_1, tw_483, rfl, by decide, by decide +kernel⟩
theorem mm_X6_hashOfGroup : MM RX6 yX6_hashOfGroup cX6_hashOfGroup 9 (some .long) 3 := ⟨tw_583, tp_13, tw_1, tw_584, rfl, by decide, by decide +kernel⟩
theorem mm_X6_hashWith : MS yX6_hashWith cX6_hashWith 4 (some .long) 2 := ⟨tw_356, tw_1, tw_357, by decide, by decide +kernel⟩
theorem mm_X6_bit : MS yX6_bit cX6_bit 1 (some .long) 1 := ⟨tw_450, tw_1, tw_451, by decide, by decide +kernel⟩
theorem mm_X6_bitsOfShare : MS yX6_bitsOfShare cX6_bitsOfShare 8 (some .long) 1 := ⟨tw_609, tw_1, tw_610, by decide, by decide +kernel⟩
theorem mm_X6_requirePlace : MS yX6_requirePlace cX6_requirePlace 1 none 1 := ⟨tw_375, tw_1, tw_376, by decide, by decide +kernel⟩
theorem mm_X6_requireGroup : MS yX6_requireGroup cX6_requireGroup 1 none 1 := ⟨tw_590, tw_1, tw_591, by decide, by decide +kernel⟩
theorem mm_X6_requireView : MS yX6_requireView cX6_requireView 1 none 1 := ⟨tw_489, tw_1, tw_490, by decide, by decide +kernel⟩
theorem mm_X6_requireAmount : MS yX6_requireAmount cX6_requireAmount 1 none 1 := ⟨tw_630, tw_1, tw_631, by decide, by decide +kernel⟩
theorem mm_X6_requireBound : MS yX6_requireBound cX6_requireBound 1 none 1 := ⟨tw_769, tw_1, tw_770, by decide, by decide +kernel⟩
theorem mm_X6_requireRow : MM RX6 yX6_requireRow cX6_requireRow 2 none 1 := ⟨tw_458, tp_9, tw_1, tw_459, rfl, by decide, by decide +kernel⟩
theorem mm_X6_requireAmounts : MS yX6_requireAmounts cX6_requireAmounts 1 none 1 := ⟨tw_918, tw_1, tw_919, by decide, by decide +kernel⟩
theorem mm_X6_heldBy : MM RX6 yX6_heldBy cX6_heldBy 3 (some (.object "NappingViews$Amounts")) 2 := ⟨tw_587, tp_14, tw_1, tw_588, rfl, by decide, by decide +kernel⟩
theorem mm_X6_inTable : MM RX6 yX6_inTable cX6_inTable 3 (some (.object "NappingViews$Amounts")) 2 := ⟨tw_595, tp_15, tw_1, tw_596, rfl, by decide, by decide +kernel⟩
theorem mm_X6_unlikeMask : MM RX6 yX6_unlikeMask cX6_unlikeMask 4 (some .int) 1 := ⟨tw_525, tp_11, tw_1, tw_526, rfl, by decide, by decide +kernel⟩
theorem mm_X6_saveState : MM RX6 yX6_saveState cX6_saveState 1 none 0 := ⟨tw_651, tp_16, tw_1, tw_652, rfl, by decide, by decide +kernel⟩
theorem mm_X6_dropOldestSaved : MM RX6 yX6_dropOldestSaved cX6_dropOldestSaved 3 none 0 := ⟨tw_655, tp_17, tw_1, tw_656, rfl, by decide, by decide +kernel⟩
theorem mm_X7_thrown : MM RX7 yX7_thrown cX7_thrown 1 (some .int) 0 := ⟨tw_1042, tw_1043, tw_8, tw_1044, rfl, by decide, by decide +kernel⟩
theorem mm_X7_refused : MM RX7 yX7_refused cX7_refused 2 (some .boolean) 1 := ⟨tw_1071, tp_22, tw_8, tw_1072, rfl, by decide, by decide +kernel⟩
theorem mm_X7_in : MS yX7_in cX7_in 6 (some .boolean) 3 := ⟨tw_1054, tw_8, tw_1055, by decide, by decide +kernel⟩
theorem mm_X7_isPlace : MS yX7_isPlace cX7_isPlace 1 (some .boolean) 1 := ⟨tw_1050, tw_8, tw_1051, by decide, by decide +kernel⟩
theorem mm_X7_isGroup : MS yX7_isGroup cX7_isGroup 1 (some .boolean) 1 := ⟨tw_1057, tw_8, tw_1058, by decide, by decide +kernel⟩
theorem mm_X7_isView : MS yX7_isView cX7_isView 1 (some .boolean) 1 := ⟨tw_1145, tw_8, tw_1146, by decide, by decide +kernel⟩
theorem mm_X7_isAmount : MS yX7_isAmount cX7_isAmount 1 (some .boolean) 1 := ⟨tw_1061, tw_8, tw_1062, by decide, by decide +kernel⟩
theorem mm_X7_base : MS yX7_base cX7_base 1 (some .int) 1 := ⟨tw_1094, tw_8, tw_1095, by decide, by decide +kernel⟩
theorem mm_X7_vacant : MM RX7 yX7_vacant cX7_vacant 2 (some .boolean) 1 := ⟨tw_1067, tp_21, tw_8, tw_1068, rfl, by decide, by decide +kernel⟩
theorem mm_X7_taken : MM RX7 yX7_taken cX7_taken 3 (some .int) 0 := ⟨tw_1110, tp_31, tw_8, tw_1111, rfl, by decide, by decide +kernel⟩
theorem mm_X7_waits : MM RX7 yX7_waits cX7_waits 2 (some .int) 1 := ⟨tw_1102, tp_29, tw_8, tw_1103, rfl, by decide, by decide +kernel⟩
theorem mm_X7_naps : MM RX7 yX7_naps cX7_naps 2 (some .boolean) 1 := ⟨tw_1091, tp_27, tw_8, tw_1092, rfl, by decide, by decide +kernel⟩
theorem mm_X7_follow : MM RX7 yX7_follow cX7_follow 3 none 1 := ⟨tw_1098, tp_28, tw_8, tw_1099, rfl, by decide, by decide +kernel⟩
theorem mm_X7_rouse : MM RX7 yX7_rouse cX7_rouse 3 (some .int) 1 := ⟨tw_1106, tp_30, tw_8, tw_1107, rfl, by decide, by decide +kernel⟩
theorem mm_X7_rouseBehind : MM RX7 yX7_rouseBehind cX7_rouseBehind 3 none 0 := ⟨tw_1087, tp_26, tw_8, tw_1088, rfl, by decide, by decide +kernel⟩
theorem mm_X7_note : MM RX7 yX7_note cX7_note 2 none 1 := ⟨tw_1083, tp_25, tw_8, tw_1084, rfl, by decide, by decide +kernel⟩
theorem mm_X7_goInsert : MM RX7 yX7_goInsert cX7_goInsert 4 (some .int) 3 := ⟨tw_1079, tp_24, tw_8, tw_1080, rfl, by decide, by decide +kernel⟩
theorem mm_X7_goChange : MM RX7 yX7_goChange cX7_goChange 4 (some .int) 2 := ⟨tw_1118, tp_32, tw_8, tw_1119, rfl, by decide, by decide +kernel⟩
theorem mm_X7_goRegroup : MM RX7 yX7_goRegroup cX7_goRegroup 4 (some .int) 2 := ⟨tw_1126, tp_33, tw_8, tw_1127, rfl, by decide, by decide +kernel⟩
theorem mm_X7_goDelete : MM RX7 yX7_goDelete cX7_goDelete 3 (some .int) 1 := ⟨tw_1138, tp_35, tw_8, tw_1139, rfl, by decide, by decide +kernel⟩
theorem mm_X7_goNap : MM RX7 yX7_goNap cX7_goNap 4 (some .int) 1 := ⟨tw_1150, tp_36, tw_8, tw_1151, rfl, by decide, by decide +kernel⟩
theorem mm_X7_goRefresh : MM RX7 yX7_goRefresh cX7_goRefresh 3 (some .int) 1 := ⟨tw_1166, tp_38, tw_8, tw_1167, rfl, by decide, by decide +kernel⟩
theorem mm_X7_goPass : MM RX7 yX7_goPass cX7_goPass 6 (some .int) 1 := ⟨tw_1191, tp_40, tw_8, tw_1192, rfl, by decide, by decide +kernel⟩
theorem mm_X7_save : MM RX7 yX7_save cX7_save 2 none 0 := ⟨tw_1075, tp_23, tw_8, tw_1076, rfl, by decide, by decide +kernel⟩
theorem mm_X7_insert : MM RX7 yX7_insert cX7_insert 5 (some .int) 3 := ⟨tw_1046, tw_1047, tw_8, tw_1048, rfl, by decide, by decide +kernel⟩
theorem mm_X7_change : MM RX7 yX7_change cX7_change 4 (some .int) 2 := ⟨tw_1113, tw_1114, tw_8, tw_1115, rfl, by decide, by decide +kernel⟩
theorem mm_X7_regroup : MM RX7 yX7_regroup cX7_regroup 4 (some .int) 2 := ⟨tw_1121, tw_1122, tw_8, tw_1123, rfl, by decide, by decide +kernel⟩
theorem mm_X7_noRow : MM RX7 yX7_noRow cX7_noRow 3 (some .boolean) 1 := ⟨tw_1134, tp_34, tw_8, tw_1135, rfl, by decide, by decide +kernel⟩
theorem mm_X7_delete : MM RX7 yX7_delete cX7_delete 2 (some .int) 1 := ⟨tw_1129, tw_1130, tw_8, tw_1131, rfl, by decide, by decide +kernel⟩
theorem mm_X7_nap : MM RX7 yX7_nap cX7_nap 3 (some .int) 1 := ⟨tw_1141, tw_1142, tw_8, tw_1143, rfl, by decide, by decide +kernel⟩
theorem mm_X7_wake : MM RX7 yX7_wake cX7_wake 3 (some .int) 1 := ⟨tw_1153, tw_1154, tw_8, tw_1155, rfl, by decide, by decide +kernel⟩
theorem mm_X7_noView : MM RX7 yX7_noView cX7_noView 2 (some .boolean) 1 := ⟨tw_1162, tp_37, tw_8, tw_1163, rfl, by decide, by decide +kernel⟩
theorem mm_X7_refresh : MM RX7 yX7_refresh cX7_refresh 2 (some .int) 1 := ⟨tw_1157, tw_1158, tw_8, tw_1159, rfl, by decide, by decide +kernel⟩
theorem mm_X7_set : MM RX7 yX7_set cX7_set 5 (some .int) 3 := ⟨tw_1174, tp_39, tw_8, tw_1175, rfl, by decide, by decide +kernel⟩
theorem mm_X7_setFilter : MM RX7 yX7_setFilter cX7_setFilter 5 (some .int) 2 := ⟨tw_1169, tw_1170, tw_8, tw_1171, rfl, by decide, by decide +kernel⟩
theorem mm_X7_setBehind : MM RX7 yX7_setBehind cX7_setBehind 4 (some .int) 2 := ⟨tw_1177, tw_1178, tw_8, tw_1179, rfl, by decide, by decide +kernel⟩
theorem mm_X7_setLongest : MM RX7 yX7_setLongest cX7_setLongest 3 (some .int) 2 := ⟨tw_1182, tw_1183, tw_8, tw_1184, rfl, by decide, by decide +kernel⟩
theorem mm_X7_pass : MM RX7 yX7_pass cX7_pass 2 (some .int) 1 := ⟨tw_1186, tw_1187, tw_8, tw_1188, rfl, by decide, by decide +kernel⟩
theorem mm_X7_append : MM RX7 yX7_append cX7_append 2 (some .int) 1 := ⟨tw_1194, tw_1195, tw_8, tw_1196, rfl, by decide, by decide +kernel⟩
theorem mm_X7_clearBuffer : MM RX7 yX7_clearBuffer cX7_clearBuffer 2 (some .int) 0 := ⟨tw_1200, tw_1201, tw_8, tw_1202, rfl, by decide, by decide +kernel⟩
theorem mm_X7_here : MM RX7 yX7_here cX7_here 1 (some .int) 0 := ⟨tw_1217, tp_43, tw_8, tw_1218, rfl, by decide, by decide +kernel⟩
theorem mm_X7_take : MM RX7 yX7_take cX7_take 2 none 1 := ⟨tw_1221, tp_44, tw_8, tw_1222, rfl, by decide, by decide +kernel⟩
theorem mm_X7_number : MM RX7 yX7_number cX7_number 6 (some .int) 2 := ⟨tw_1229, tp_46, tw_8, tw_1230, rfl, by decide, by decide +kernel⟩
theorem mm_X7_amount : MM RX7 yX7_amount cX7_amount 1 (some .int) 0 := ⟨tw_1238, tp_48, tw_8, tw_1239, rfl, by decide, by decide +kernel⟩
theorem mm_X7_letter : MM RX7 yX7_letter cX7_letter 2 (some .int) 0 := ⟨tw_1234, tp_47, tw_8, tw_1235, rfl, by decide, by decide +kernel⟩
theorem mm_X7_happens : MM RX7 yX7_happens cX7_happens 2 (some .boolean) 1 := ⟨tw_1242, tp_49, tw_8, tw_1243, rfl, by decide, by decide +kernel⟩
theorem mm_X7_readRow : MM RX7 yX7_readRow cX7_readRow 5 (some .int) 1 := ⟨tw_1225, tp_45, tw_8, tw_1226, rfl, by decide, by decide +kernel⟩
theorem mm_X7_readPart : MM RX7 yX7_readPart cX7_readPart 4 (some .int) 0 := ⟨tw_1213, tp_42, tw_8, tw_1214, rfl, by decide, by decide +kernel⟩
theorem mm_X7_readAll : MM RX7 yX7_readAll cX7_readAll 3 none 1 := ⟨tw_1209, tp_41, tw_8, tw_1210, rfl, by decide, by decide +kernel⟩
theorem mm_X7_firstError : MM RX7 yX7_firstError cX7_firstError 1 (some .int) 0 := ⟨tw_1204, tw_1205, tw_8, tw_1206, rfl, by decide, by decide +kernel⟩
theorem mm_X7_replay : MM RX7 yX7_replay cX7_replay 1 (some .int) 0 := ⟨tw_1245, tw_1246, tw_8, tw_1247, rfl, by decide, by decide +kernel⟩
theorem mm_X7_hasStopped : MM RX7 yX7_hasStopped cX7_hasStopped 1 (some .boolean) 0 := ⟨tw_1249, tw_1250, tw_8, tw_1251, rfl, by decide, by decide +kernel⟩
theorem mm_X7_stoppedPart : MM RX7 yX7_stoppedPart cX7_stoppedPart 1 (some .int) 0 := ⟨tw_1253, tw_1254, tw_8, tw_1255, rfl, by decide, by decide +kernel⟩
theorem mm_X7_undo : MM RX7 yX7_undo cX7_undo 2 (some .int) 0 := ⟨tw_1257, tw_1258, tw_8, tw_1259, rfl, by decide, by decide +kernel⟩
theorem mm_X7_keep : MM RX7 yX7_keep cX7_keep 2 (some .int) 0 := ⟨tw_1261, tw_1262, tw_8, tw_1263, rfl, by decide, by decide +kernel⟩
theorem mm_X7_restore : MM RX7 yX7_restore cX7_restore 2 (some .int) 0 := ⟨tw_1265, tw_1266, tw_8, tw_1267, rfl, by decide, by decide +kernel⟩
theorem mm_X7_savedStates : MM RX7 yX7_savedStates cX7_savedStates 1 (some .int) 0 := ⟨tw_1269, tw_1270, tw_8, tw_1271, rfl, by decide, by decide +kernel⟩
theorem mm_X7_rows : MM RX7 yX7_rows cX7_rows 1 (some .int) 0 := ⟨tw_1273, tw_1274, tw_8, tw_1275, rfl, by decide, by decide +kernel⟩
theorem mm_X7_isFree : MM RX7 yX7_isFree cX7_isFree 2 (some .boolean) 1 := ⟨tw_1277, tw_1278, tw_8, tw_1279, rfl, by decide, by decide +kernel⟩
theorem mm_X7_groupAt : MM RX7 yX7_groupAt cX7_groupAt 2 (some .int) 1 := ⟨tw_1281, tw_1282, tw_8, tw_1283, rfl, by decide, by decide +kernel⟩
theorem mm_X7_amountAt : MM RX7 yX7_amountAt cX7_amountAt 2 (some .int) 1 := ⟨tw_1285, tw_1286, tw_8, tw_1287, rfl, by decide, by decide +kernel⟩
theorem mm_X7_tell : MM RX7 yX7_tell cX7_tell 2 (some .int) 1 := ⟨tw_1294, tp_50, tw_8, tw_1295, rfl, by decide, by decide +kernel⟩
theorem mm_X7_deltas : MM RX7 yX7_deltas cX7_deltas 1 (some .int) 0 := ⟨tw_1289, tw_1290, tw_8, tw_1291, rfl, by decide, by decide +kernel⟩
theorem mm_X7_tick : MM RX7 yX7_tick cX7_tick 1 (some .int) 0 := ⟨tw_1297, tw_1298, tw_8, tw_1299, rfl, by decide, by decide +kernel⟩
theorem mm_X7_ask : MM RX7 yX7_ask cX7_ask 3 (some .int) 2 := ⟨tw_1306, tp_51, tw_8, tw_1307, rfl, by decide, by decide +kernel⟩
theorem mm_X7_isNapping : MM RX7 yX7_isNapping cX7_isNapping 2 (some .boolean) 1 := ⟨tw_1301, tw_1302, tw_8, tw_1303, rfl, by decide, by decide +kernel⟩
theorem mm_X7_napOf : MM RX7 yX7_napOf cX7_napOf 2 (some .int) 1 := ⟨tw_1309, tw_1310, tw_8, tw_1311, rfl, by decide, by decide +kernel⟩
theorem mm_X7_filterOf : MM RX7 yX7_filterOf cX7_filterOf 2 (some .int) 1 := ⟨tw_1313, tw_1314, tw_8, tw_1315, rfl, by decide, by decide +kernel⟩
theorem mm_X7_waiting : MM RX7 yX7_waiting cX7_waiting 2 (some .int) 1 := ⟨tw_1317, tw_1318, tw_8, tw_1319, rfl, by decide, by decide +kernel⟩
theorem mm_X7_waitingByNumbers : MM RX7 yX7_waitingByNumbers cX7_waitingByNumbers 2 (some .int) 1 := ⟨tw_1321, tw_1322, tw_8, tw_1323, rfl, by decide, by decide +kernel⟩
theorem mm_X7_weighty : MM RX7 yX7_weighty cX7_weighty 4 (some .int) 1 := ⟨tw_1330, tp_52, tw_8, tw_1331, rfl, by decide, by decide +kernel⟩
theorem mm_X7_matters : MM RX7 yX7_matters cX7_matters 2 (some .int) 1 := ⟨tw_1325, tw_1326, tw_8, tw_1327, rfl, by decide, by decide +kernel⟩
theorem mm_X7_wakings : MM RX7 yX7_wakings cX7_wakings 1 (some .int) 0 := ⟨tw_1333, tw_1334, tw_8, tw_1335, rfl, by decide, by decide +kernel⟩
theorem mm_X7_wakingsByThemselves : MM RX7 yX7_wakingsByThemselves cX7_wakingsByThemselves 1 (some .int) 0 := ⟨tw_1337, tw_1338, tw_8, tw_1339, rfl, by decide, by decide +kernel⟩
theorem mm_X7_refreshes : MM RX7 yX7_refreshes cX7_refreshes 1 (some .int) 0 := ⟨tw_1341, tw_1342, tw_8, tw_1343, rfl, by decide, by decide +kernel⟩
theorem mm_X7_logged : MM RX7 yX7_logged cX7_logged 3 (some .int) 0 := ⟨tw_1350, tp_53, tw_8, tw_1351, rfl, by decide, by decide +kernel⟩
theorem mm_X7_logLength : MM RX7 yX7_logLength cX7_logLength 1 (some .int) 0 := ⟨tw_1345, tw_1346, tw_8, tw_1347, rfl, by decide, by decide +kernel⟩
theorem mm_X7_lay : MM RX7 yX7_lay cX7_lay 9 (some .int) 4 := ⟨tw_1366, tp_56, tw_8, tw_1367, rfl, by decide, by decide +kernel⟩
theorem mm_X7_layView : MM RX7 yX7_layView cX7_layView 3 (some .int) 2 := ⟨tw_1362, tp_55, tw_8, tw_1363, rfl, by decide, by decide +kernel⟩
theorem mm_X7_layTable : MM RX7 yX7_layTable cX7_layTable 3 (some .int) 2 := ⟨tw_1411, tp_58, tw_8, tw_1412, rfl, by decide, by decide +kernel⟩
theorem mm_X7_total : MS yX7_total cX7_total 4 (some .int) 2 := ⟨tw_1373, tw_8, tw_1374, by decide, by decide +kernel⟩
theorem mm_X7_below : MS yX7_below cX7_below 5 (some .int) 3 := ⟨tw_1396, tw_8, tw_1397, by decide, by decide +kernel⟩
theorem mm_X7_kinds : MS yX7_kinds cX7_kinds 4 (some .int) 2 := ⟨tw_1403, tw_8, tw_1404, by decide, by decide +kernel⟩
theorem mm_X7_noGroup : MM RX7 yX7_noGroup cX7_noGroup 3 (some .boolean) 2 := ⟨tw_1358, tp_54, tw_8, tw_1359, rfl, by decide, by decide +kernel⟩
theorem mm_X7_countOf : MM RX7 yX7_countOf cX7_countOf 3 (some .int) 2 := ⟨tw_1353, tw_1354, tw_8, tw_1355, rfl, by decide, by decide +kernel⟩
theorem mm_X7_sumOf : MM RX7 yX7_sumOf cX7_sumOf 3 (some .int) 2 := ⟨tw_1369, tw_1370, tw_8, tw_1371, rfl, by decide, by decide +kernel⟩
theorem mm_X7_noAmounts : MM RX7 yX7_noAmounts cX7_noAmounts 4 (some .boolean) 2 := ⟨tw_1381, tp_57, tw_8, tw_1382, rfl, by decide, by decide +kernel⟩
theorem mm_X7_leastOf : MM RX7 yX7_leastOf cX7_leastOf 3 (some .int) 2 := ⟨tw_1376, tw_1377, tw_8, tw_1378, rfl, by decide, by decide +kernel⟩
theorem mm_X7_greatestOf : MM RX7 yX7_greatestOf cX7_greatestOf 3 (some .int) 2 := ⟨tw_1384, tw_1385, tw_8, tw_1386, rfl, by decide, by decide +kernel⟩
theorem mm_X7_medianOf : MM RX7 yX7_medianOf cX7_medianOf 3 (some .int) 2 := ⟨tw_1388, tw_1389, tw_8, tw_1390, rfl, by decide, by decide +kernel⟩
theorem mm_X7_rankOf : MM RX7 yX7_rankOf cX7_rankOf 5 (some .int) 3 := ⟨tw_1392, tw_1393, tw_8, tw_1394, rfl, by decide, by decide +kernel⟩
theorem mm_X7_unlikeOf : MM RX7 yX7_unlikeOf cX7_unlikeOf 3 (some .int) 2 := ⟨tw_1399, tw_1400, tw_8, tw_1401, rfl, by decide, by decide +kernel⟩
theorem mm_X7_countInTable : MM RX7 yX7_countInTable cX7_countInTable 3 (some .int) 2 := ⟨tw_1406, tw_1407, tw_8, tw_1408, rfl, by decide, by decide +kernel⟩
theorem mm_X7_sumInTable : MM RX7 yX7_sumInTable cX7_sumInTable 3 (some .int) 2 := ⟨tw_1414, tw_1415, tw_8, tw_1416, rfl, by decide, by decide +kernel⟩
theorem mm_X7_medianInTable : MM RX7 yX7_medianInTable cX7_medianInTable 4 (some .int) 2 := ⟨tw_1418, tw_1419, tw_8, tw_1420, rfl, by decide, by decide +kernel⟩
theorem mm_X7_rankInTable : MM RX7 yX7_rankInTable cX7_rankInTable 5 (some .int) 3 := ⟨tw_1422, tw_1423, tw_8, tw_1424, rfl, by decide, by decide +kernel⟩
theorem mm_X7_unlike : MM RX7 yX7_unlike cX7_unlike 7 (some .int) 1 := ⟨tw_1431, tp_59, tw_8, tw_1432, rfl, by decide, by decide +kernel⟩
theorem mm_X7_unlikeGroups : MM RX7 yX7_unlikeGroups cX7_unlikeGroups 2 (some .int) 1 := ⟨tw_1426, tw_1427, tw_8, tw_1428, rfl, by decide, by decide +kernel⟩
theorem mm_X7_unlikeIfWoken : MM RX7 yX7_unlikeIfWoken cX7_unlikeIfWoken 2 (some .int) 1 := ⟨tw_1434, tw_1435, tw_8, tw_1436, rfl, by decide, by decide +kernel⟩
theorem mm_X7_wakes : MM RX7 yX7_wakes cX7_wakes 3 (some .int) 1 := ⟨tw_1443, tp_60, tw_8, tw_1444, rfl, by decide, by decide +kernel⟩
theorem mm_X7_wakesIn : MM RX7 yX7_wakesIn cX7_wakesIn 2 (some .int) 1 := ⟨tw_1438, tw_1439, tw_8, tw_1440, rfl, by decide, by decide +kernel⟩
theorem mm_X7_share : MM RX7 yX7_share cX7_share 2 (some .double) 0 := ⟨tw_1451, tp_61, tw_8, tw_1452, rfl, by decide, by decide +kernel⟩
theorem mm_X7_behindShare : MM RX7 yX7_behindShare cX7_behindShare 1 (some .double) 0 := ⟨tw_1446, tw_1447, tw_8, tw_1448, rfl, by decide, by decide +kernel⟩
theorem mm_X7_mix : MS yX7_mix cX7_mix 4 (some .long) 2 := ⟨tw_1459, tw_8, tw_1460, by decide, by decide +kernel⟩
theorem mm_X7_groupHash : MM RX7 yX7_groupHash cX7_groupHash 9 (some .long) 3 := ⟨tw_1468, tp_63, tw_8, tw_1469, rfl, by decide, by decide +kernel⟩
theorem mm_X7_viewHash : MM RX7 yX7_viewHash cX7_viewHash 7 (some .long) 2 := ⟨tw_1464, tp_62, tw_8, tw_1465, rfl, by decide, by decide +kernel⟩
theorem mm_X7_digest : MM RX7 yX7_digest cX7_digest 4 (some .long) 0 := ⟨tw_1454, tw_1455, tw_8, tw_1456, rfl, by decide, by decide +kernel⟩
theorem mm_max : MS Lib.Math.max.name Lib.Math.max.code 2 (some .int) 2 := ⟨tw_338, tw_16, tw_339, by decide, by decide +kernel⟩
theorem mm_copy : Cond.native arraycopyName ∈ AW ∧ Cond.static arraycopyName ∈ AW ∧ Cond.initialized "java/lang/System" ∈ AW := ⟨tw_282, tw_281, tw_15⟩
theorem nI_m1 {a : Nat} (h : 0 < a) : nI a + Int32.ofInt (-1) = nI (a - 1) := by
  obtain ⟨b, rfl⟩ : ∃ b, a = b + 1 := ⟨a - 1, by omega⟩
  rw [litm1]
  exact pk_m1 b
section NRows
variable {K : KT} {X : XT} {cc : ByteArray} {own : String} {w0 : Cond} {nL : Nat} {ret : Option FieldType} {Q : State → Prop} {ce sl pc q : Nat} {lv : List (Option Value)} {st : List Value} {D : DT} {P : PT}
theorem pv_iaddN {a b : Nat} {x y : Int32} (C : CX K X cc own w0 nL ret) (hx : x = nI a) (hy : y = nI b) (d : decode cc pc = .ok (.iadd, 1)) (hq : pc + 1 = q) (k : PV K X Q ce sl q lv (.int (nI (a + b)) :: st) D P) : PV K X Q ce sl pc lv (.int y :: .int x :: st) D P := pv_iadd C d hq (by rw [hx, hy, nI_add]; exact k)
theorem pv_imulN {a b : Nat} {x y : Int32} (C : CX K X cc own w0 nL ret) (hx : x = nI a) (hy : y = nI b) (d : decode cc pc = .ok (.imul, 1)) (hq : pc + 1 = q) (k : PV K X Q ce sl q lv (.int (nI (a * b)) :: st) D P) : PV K X Q ce sl pc lv (.int y :: .int x :: st) D P := pv_imul C d hq (by rw [hx, hy, pk_mul]; exact k)
theorem pv_isubN {a b : Nat} {x y : Int32} (C : CX K X cc own w0 nL ret) (hx : x = nI a) (hy : y = nI b) (hb : b ≤ a) (d : decode cc pc = .ok (.isub, 1)) (hq : pc + 1 = q) (k : PV K X Q ce sl q lv (.int (nI (a - b)) :: st) D P) : PV K X Q ce sl pc lv (.int y :: .int x :: st) D P := pv_isub C d hq (by rw [hx, hy, pk_sub hb]; exact k)
theorem pv_idivN {a b : Nat} {x y : Int32} (C : CX K X cc own w0 nL ret) (hx : x = nI a) (hy : y = nI b) (ha : a < 2 ^ 31) (h0 : 0 < b) (hb : b < 2 ^ 31) (d : decode cc pc = .ok (.idiv, 1)) (hq : pc + 1 = q) (k : PV K X Q ce sl q lv (.int (nI (a / b)) :: st) D P) : PV K X Q ce sl pc lv (.int y :: .int x :: st) D P := pv_idiv C d hq (by rw [hy]; exact nI_ne0 h0 hb) (by rw [hx, hy, pk_div ha h0 hb]; exact k)
theorem pv_iremN {a b : Nat} {x y : Int32} (C : CX K X cc own w0 nL ret) (hx : x = nI a) (hy : y = nI b) (ha : a < 2 ^ 31) (h0 : 0 < b) (hb : b < 2 ^ 31) (d : decode cc pc = .ok (.irem, 1)) (hq : pc + 1 = q) (k : PV K X Q ce sl q lv (.int (nI (a % b)) :: st) D P) : PV K X Q ce sl pc lv (.int y :: .int x :: st) D P := pv_irem C d hq (by rw [hy]; exact nI_ne0 h0 hb) (by rw [hx, hy, pk_rem ha h0 hb]; exact k)
theorem pv_icmp_eqN {a b : Nat} {x y : Int32} {off : Int} {tgt : Nat} (C : CX K X cc own w0 nL ret) (hx : x = nI a) (hy : y = nI b) (ha : a < 2 ^ 31) (hb : b < 2 ^ 31) (d : decode cc pc = .ok (.if_icmp .eq off, 3)) (ht : (pc : Int) + off = (tgt : Int)) (hq : pc + 3 = q) (kt : a = b → PV K X Q ce sl tgt lv st D P) (kf : a ≠ b → PV K X Q ce sl q lv st D P) : PV K X Q ce sl pc lv (.int y :: .int x :: st) D P := by
  subst hx; subst hy
  exact pv_icmp_eq C d ht hq (fun h => kt ((nI_eq ha hb).mp h)) (fun h => kf (fun z => h ((nI_eq ha hb).mpr z)))
theorem pv_if_eqN {a b : Nat} {x : Int32} {off : Int} {tgt : Nat} (C : CX K X cc own w0 nL ret) (hx : x = nI a) (hy : (0 : Int32) = nI b) (ha : a < 2 ^ 31) (hb : b < 2 ^ 31) (d : decode cc pc = .ok (.ifCond .eq off, 3)) (ht : (pc : Int) + off = (tgt : Int)) (hq : pc + 3 = q) (kt : a = b → PV K X Q ce sl tgt lv st D P) (kf : a ≠ b → PV K X Q ce sl q lv st D P) : PV K X Q ce sl pc lv (.int x :: st) D P := by
  subst hx
  refine pv_if_eq C d ht hq (fun h => ?_) (fun h => ?_)
  · rw [hy] at h; exact kt ((nI_eq ha hb).mp h)
  · rw [hy] at h; exact kf (fun z => h ((nI_eq ha hb).mpr z))
theorem pv_icmp_neN {a b : Nat} {x y : Int32} {off : Int} {tgt : Nat} (C : CX K X cc own w0 nL ret) (hx : x = nI a) (hy : y = nI b) (ha : a < 2 ^ 31) (hb : b < 2 ^ 31) (d : decode cc pc = .ok (.if_icmp .ne off, 3)) (ht : (pc : Int) + off = (tgt : Int)) (hq : pc + 3 = q) (kt : a ≠ b → PV K X Q ce sl tgt lv st D P) (kf : a = b → PV K X Q ce sl q lv st D P) : PV K X Q ce sl pc lv (.int y :: .int x :: st) D P := by
  subst hx; subst hy
  exact pv_icmp_ne C d ht hq (fun h => kt (fun z => h ((nI_eq ha hb).mpr z))) (fun h => kf ((nI_eq ha hb).mp h))
theorem pv_if_neN {a b : Nat} {x : Int32} {off : Int} {tgt : Nat} (C : CX K X cc own w0 nL ret) (hx : x = nI a) (hy : (0 : Int32) = nI b) (ha : a < 2 ^ 31) (hb : b < 2 ^ 31) (d : decode cc pc = .ok (.ifCond .ne off, 3)) (ht : (pc : Int) + off = (tgt : Int)) (hq : pc + 3 = q) (kt : a ≠ b → PV K X Q ce sl tgt lv st D P) (kf : a = b → PV K X Q ce sl q lv st D P) : PV K X Q ce sl pc lv (.int x :: st) D P := by
  subst hx
  refine pv_if_ne C d ht hq (fun h => ?_) (fun h => ?_)
  · rw [hy] at h; exact kt (fun z => h ((nI_eq ha hb).mpr z))
  · rw [hy] at h; exact kf ((nI_eq ha hb).mp h)
theorem pv_icmp_ltN {a b : Nat} {x y : Int32} {off : Int} {tgt : Nat} (C : CX K X cc own w0 nL ret) (hx : x = nI a) (hy : y = nI b) (ha : a < 2 ^ 31) (hb : b < 2 ^ 31) (d : decode cc pc = .ok (.if_icmp .lt off, 3)) (ht : (pc : Int) + off = (tgt : Int)) (hq : pc + 3 = q) (kt : a < b → PV K X Q ce sl tgt lv st D P) (kf : b ≤ a → PV K X Q ce sl q lv st D P) : PV K X Q ce sl pc lv (.int y :: .int x :: st) D P := by
  subst hx; subst hy
  exact pv_icmp_lt C d ht hq (fun h => kt ((nI_ltI ha hb).mp h)) (fun h => kf (Nat.not_lt.mp (fun z => h ((nI_ltI ha hb).mpr z))))
theorem pv_if_ltN {a b : Nat} {x : Int32} {off : Int} {tgt : Nat} (C : CX K X cc own w0 nL ret) (hx : x = nI a) (hy : (0 : Int32) = nI b) (ha : a < 2 ^ 31) (hb : b < 2 ^ 31) (d : decode cc pc = .ok (.ifCond .lt off, 3)) (ht : (pc : Int) + off = (tgt : Int)) (hq : pc + 3 = q) (kt : a < b → PV K X Q ce sl tgt lv st D P) (kf : b ≤ a → PV K X Q ce sl q lv st D P) : PV K X Q ce sl pc lv (.int x :: st) D P := by
  subst hx
  refine pv_if_lt C d ht hq (fun h => ?_) (fun h => ?_)
  · rw [hy] at h; exact kt ((nI_ltI ha hb).mp h)
  · rw [hy] at h; exact kf (Nat.not_lt.mp (fun z => h ((nI_ltI ha hb).mpr z)))
theorem pv_icmp_geN {a b : Nat} {x y : Int32} {off : Int} {tgt : Nat} (C : CX K X cc own w0 nL ret) (hx : x = nI a) (hy : y = nI b) (ha : a < 2 ^ 31) (hb : b < 2 ^ 31) (d : decode cc pc = .ok (.if_icmp .ge off, 3)) (ht : (pc : Int) + off = (tgt : Int)) (hq : pc + 3 = q) (kt : b ≤ a → PV K X Q ce sl tgt lv st D P) (kf : a < b → PV K X Q ce sl q lv st D P) : PV K X Q ce sl pc lv (.int y :: .int x :: st) D P := by
  subst hx; subst hy
  exact pv_icmp_ge C d ht hq (fun h => kt ((nI_leI hb ha).mp h)) (fun h => kf (Nat.not_le.mp (fun z => h ((nI_leI hb ha).mpr z))))
theorem pv_if_geN {a b : Nat} {x : Int32} {off : Int} {tgt : Nat} (C : CX K X cc own w0 nL ret) (hx : x = nI a) (hy : (0 : Int32) = nI b) (ha : a < 2 ^ 31) (hb : b < 2 ^ 31) (d : decode cc pc = .ok (.ifCond .ge off, 3)) (ht : (pc : Int) + off = (tgt : Int)) (hq : pc + 3 = q) (kt : b ≤ a → PV K X Q ce sl tgt lv st D P) (kf : a < b → PV K X Q ce sl q lv st D P) : PV K X Q ce sl pc lv (.int x :: st) D P := by
  subst hx
  refine pv_if_ge C d ht hq (fun h => ?_) (fun h => ?_)
  · rw [hy] at h; exact kt ((nI_leI hb ha).mp h)
  · rw [hy] at h; exact kf (Nat.not_le.mp (fun z => h ((nI_leI hb ha).mpr z)))
theorem pv_icmp_gtN {a b : Nat} {x y : Int32} {off : Int} {tgt : Nat} (C : CX K X cc own w0 nL ret) (hx : x = nI a) (hy : y = nI b) (ha : a < 2 ^ 31) (hb : b < 2 ^ 31) (d : decode cc pc = .ok (.if_icmp .gt off, 3)) (ht : (pc : Int) + off = (tgt : Int)) (hq : pc + 3 = q) (kt : b < a → PV K X Q ce sl tgt lv st D P) (kf : a ≤ b → PV K X Q ce sl q lv st D P) : PV K X Q ce sl pc lv (.int y :: .int x :: st) D P := by
  subst hx; subst hy
  exact pv_icmp_gt C d ht hq (fun h => kt ((nI_ltI hb ha).mp h)) (fun h => kf (Nat.not_lt.mp (fun z => h ((nI_ltI hb ha).mpr z))))
theorem pv_if_gtN {a b : Nat} {x : Int32} {off : Int} {tgt : Nat} (C : CX K X cc own w0 nL ret) (hx : x = nI a) (hy : (0 : Int32) = nI b) (ha : a < 2 ^ 31) (hb : b < 2 ^ 31) (d : decode cc pc = .ok (.ifCond .gt off, 3)) (ht : (pc : Int) + off = (tgt : Int)) (hq : pc + 3 = q) (kt : b < a → PV K X Q ce sl tgt lv st D P) (kf : a ≤ b → PV K X Q ce sl q lv st D P) : PV K X Q ce sl pc lv (.int x :: st) D P := by
  subst hx
  refine pv_if_gt C d ht hq (fun h => ?_) (fun h => ?_)
  · rw [hy] at h; exact kt ((nI_ltI hb ha).mp h)
  · rw [hy] at h; exact kf (Nat.not_lt.mp (fun z => h ((nI_ltI hb ha).mpr z)))
theorem pv_icmp_leN {a b : Nat} {x y : Int32} {off : Int} {tgt : Nat} (C : CX K X cc own w0 nL ret) (hx : x = nI a) (hy : y = nI b) (ha : a < 2 ^ 31) (hb : b < 2 ^ 31) (d : decode cc pc = .ok (.if_icmp .le off, 3)) (ht : (pc : Int) + off = (tgt : Int)) (hq : pc + 3 = q) (kt : a ≤ b → PV K X Q ce sl tgt lv st D P) (kf : b < a → PV K X Q ce sl q lv st D P) : PV K X Q ce sl pc lv (.int y :: .int x :: st) D P := by
  subst hx; subst hy
  exact pv_icmp_le C d ht hq (fun h => kt ((nI_leI ha hb).mp h)) (fun h => kf (Nat.not_le.mp (fun z => h ((nI_leI ha hb).mpr z))))
theorem pv_if_leN {a b : Nat} {x : Int32} {off : Int} {tgt : Nat} (C : CX K X cc own w0 nL ret) (hx : x = nI a) (hy : (0 : Int32) = nI b) (ha : a < 2 ^ 31) (hb : b < 2 ^ 31) (d : decode cc pc = .ok (.ifCond .le off, 3)) (ht : (pc : Int) + off = (tgt : Int)) (hq : pc + 3 = q) (kt : a ≤ b → PV K X Q ce sl tgt lv st D P) (kf : b < a → PV K X Q ce sl q lv st D P) : PV K X Q ce sl pc lv (.int x :: st) D P := by
  subst hx
  refine pv_if_le C d ht hq (fun h => ?_) (fun h => ?_)
  · rw [hy] at h; exact kt ((nI_leI ha hb).mp h)
  · rw [hy] at h; exact kf (Nat.not_le.mp (fun z => h ((nI_leI ha hb).mpr z)))
end NRows
