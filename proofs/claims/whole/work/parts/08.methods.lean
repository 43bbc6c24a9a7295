theorem mv_X0_forget : gMv RX0 yX0_forget cX0_forget 1 none 0 := ⟨kw_363, kw_364, kw_6, kw_365, by decide +kernel⟩
theorem mv_X0_remember : gMv RX0 yX0_remember cX0_remember 2 none 1 := ⟨kw_492, kw_493, kw_6, kw_494, by decide +kernel⟩
theorem mv_X0_takeBack : gMv RX0 yX0_takeBack cX0_takeBack 2 none 1 := ⟨kw_549, kw_550, kw_6, kw_551, by decide +kernel⟩
theorem mv_X1_become : gMv RX1 yX1_become cX1_become 2 none 1 := ⟨kw_343, kw_344, kw_3, kw_345, by decide +kernel⟩
theorem mv_X1_equate : gMv RX1 yX1_equate cX1_equate 6 none 5 := ⟨kw_313, kw_314, kw_3, kw_315, by decide +kernel⟩
theorem mv_X1_setPart : gMv RX1 yX1_setPart cX1_setPart 4 none 3 := ⟨kw_317, kw_318, kw_3, kw_319, by decide +kernel⟩
theorem mv_X1_part : gMv RX1 yX1_part cX1_part 3 (some .int) 2 := ⟨kw_359, kw_360, kw_3, kw_361, by decide +kernel⟩
theorem mv_X1_streamPart : gMv RX1 yX1_streamPart cX1_streamPart 4 (some .int) 2 := ⟨kw_380, kw_381, kw_3, kw_382, by decide +kernel⟩
theorem mv_X1_kindOf : gMv RX1 yX1_kindOf cX1_kindOf 2 (some .int) 1 := ⟨kw_334, kw_335, kw_3, kw_336, by decide +kernel⟩
theorem mv_X1_valueOf : gMv RX1 yX1_valueOf cX1_valueOf 2 (some .int) 1 := ⟨kw_468, kw_469, kw_3, kw_470, by decide +kernel⟩
theorem mv_X1_restart : gMv RX1 yX1_restart cX1_restart 2 none 0 := ⟨kw_350, kw_351, kw_3, kw_352, by decide +kernel⟩
theorem mv_X1_heldAtFirst : gMv RX1 yX1_heldAtFirst cX1_heldAtFirst 2 (some .int) 1 := ⟨kw_355, kw_1044, kw_3, kw_356, by decide +kernel⟩
theorem mv_X1_thereBits : gMv RX1 yX1_thereBits cX1_thereBits 3 (some .int) 0 := ⟨kw_455, kw_456, kw_3, kw_457, by decide +kernel⟩
theorem mv_X1_sumOfThere : gMv RX1 yX1_sumOfThere cX1_sumOfThere 3 (some .int) 0 := ⟨kw_641, kw_642, kw_3, kw_643, by decide +kernel⟩
theorem mv_X1_work : gMv RX1 yX1_work cX1_work 6 none 3 := ⟨kw_499, kw_500, kw_3, kw_501, by decide +kernel⟩
theorem mv_X1_isThere : gMv RX1 yX1_isThere cX1_isThere 3 (some .boolean) 1 := ⟨kw_504, kw_1062, kw_3, kw_505, by decide +kernel⟩
theorem mv_X1_heldNext : gMv RX1 yX1_heldNext cX1_heldNext 2 (some .int) 1 := ⟨kw_522, kw_1066, kw_3, kw_523, by decide +kernel⟩
theorem mv_X1_reckon : gMv RX1 yX1_reckon cX1_reckon 6 (some .int) 3 := ⟨kw_510, kw_1063, kw_3, kw_511, by decide +kernel⟩
theorem mv_X1_combine : gMv RX1 yX1_combine cX1_combine 4 (some .int) 3 := ⟨kw_514, kw_1064, kw_3, kw_515, by decide +kernel⟩
theorem mv_X1_choose : gMv RX1 yX1_choose cX1_choose 4 (some .int) 3 := ⟨kw_518, kw_1065, kw_3, kw_519, by decide +kernel⟩
theorem mv_X2_isSound : gMv RX2 yX2_isSound cX2_isSound 1 (some .boolean) 0 := ⟨kw_447, kw_448, kw_5, kw_449, by decide +kernel⟩
theorem mv_X2_study : gMv RX2 yX2_study cX2_study 2 none 1 := ⟨kw_367, kw_368, kw_5, kw_369, by decide +kernel⟩
theorem mv_X2_clockAt : gMv RX2 yX2_clockAt cX2_clockAt 5 (some .int) 2 := ⟨kw_481, kw_482, kw_5, kw_483, by decide +kernel⟩
theorem mv_X2_findClash : gMv RX2 yX2_findClash cX2_findClash 3 (some .int) 1 := ⟨kw_373, kw_1045, kw_5, kw_374, by decide +kernel⟩
theorem mv_X2_meet : gMv RX2 yX2_meet cX2_meet 5 (some .boolean) 2 := ⟨kw_377, kw_1046, kw_5, kw_378, by decide +kernel⟩
theorem mv_X2_likenAll : gMv RX2 yX2_likenAll cX2_likenAll 4 (some .boolean) 2 := ⟨kw_394, kw_1049, kw_5, kw_395, by decide +kernel⟩
theorem mv_X2_liken : gMv RX2 yX2_liken cX2_liken 6 (some .boolean) 2 := ⟨kw_390, kw_1048, kw_5, kw_391, by decide +kernel⟩
theorem mv_X2_bind : gMv RX2 yX2_bind cX2_bind 4 (some .boolean) 2 := ⟨kw_386, kw_1047, kw_5, kw_387, by decide +kernel⟩
theorem mv_X2_haveEnds : gMv RX2 yX2_haveEnds cX2_haveEnds 4 (some .boolean) 0 := ⟨kw_399, kw_1050, kw_5, kw_400, by decide +kernel⟩
theorem mv_X2_settle : gMv RX2 yX2_settle cX2_settle 4 none 0 := ⟨kw_406, kw_1051, kw_5, kw_407, by decide +kernel⟩
theorem mv_X2_putInOrder : gMv RX2 yX2_putInOrder cX2_putInOrder 5 none 1 := ⟨kw_410, kw_1052, kw_5, kw_411, by decide +kernel⟩
theorem mv_X2_leastReady : gMv RX2 yX2_leastReady cX2_leastReady 4 (some .int) 2 := ⟨kw_415, kw_1053, kw_5, kw_416, by decide +kernel⟩
theorem mv_X2_waits : gMv RX2 yX2_waits cX2_waits 6 (some .int) 2 := ⟨kw_419, kw_1054, kw_5, kw_420, by decide +kernel⟩
theorem mv_X2_findLevels : gMv RX2 yX2_findLevels cX2_findLevels 4 none 1 := ⟨kw_423, kw_1055, kw_5, kw_424, by decide +kernel⟩
theorem mv_X2_levelByParts : gMv RX2 yX2_levelByParts cX2_levelByParts 3 (some .int) 2 := ⟨kw_427, kw_1056, kw_5, kw_428, by decide +kernel⟩
theorem mv_X2_highest : gMv RX2 yX2_highest cX2_highest 5 (some .int) 2 := ⟨kw_431, kw_1057, kw_5, kw_432, by decide +kernel⟩
theorem mv_X2_findRaw : gMv RX2 yX2_findRaw cX2_findRaw 3 (some .int) 1 := ⟨kw_436, kw_1058, kw_5, kw_437, by decide +kernel⟩
theorem mv_X2_isRaw : gMv RX2 yX2_isRaw cX2_isRaw 3 (some .boolean) 2 := ⟨kw_440, kw_1059, kw_5, kw_441, by decide +kernel⟩
theorem mv_X3_add : gMv RX3 yX3_add cX3_add 5 (some .boolean) 4 := ⟨kw_590, kw_591, kw_7, kw_592, by decide +kernel⟩
theorem mv_X3_lastTick : gMv RX3 yX3_lastTick cX3_lastTick 3 (some .int) 0 := ⟨kw_606, kw_607, kw_7, kw_608, by decide +kernel⟩
theorem mv_X3_fit : gMv RX3 yX3_fit cX3_fit 4 (some .boolean) 2 := ⟨kw_611, kw_612, kw_7, kw_613, by decide +kernel⟩
theorem mv_X4_append : gMv RX4 yX4_append cX4_append 2 (some .boolean) 1 := ⟨kw_202, kw_203, kw_2, kw_204, by decide +kernel⟩
theorem mv_X4_readInto : gMv RX4 yX4_readInto cX4_readInto 6 (some .int) 1 := ⟨kw_214, kw_215, kw_2, kw_216, by decide +kernel⟩
theorem mv_X4_readEquation : gMv RX4 yX4_readEquation cX4_readEquation 8 (some .int) 3 := ⟨kw_223, kw_1043, kw_2, kw_224, by decide +kernel⟩
theorem mv_X4_letterAt : gMv RX4 yX4_letterAt cX4_letterAt 2 (some .int) 1 := ⟨kw_219, kw_1042, kw_2, kw_220, by decide +kernel⟩
theorem mv_X5_write : gMv RX5 yX5_write cX5_write 2 (some .int) 1 := ⟨kw_198, kw_199, kw_1, kw_200, by decide +kernel⟩
theorem mv_X5_wipe : gMv RX5 yX5_wipe cX5_wipe 2 (some .int) 0 := ⟨kw_206, kw_207, kw_1, kw_208, by decide +kernel⟩
theorem mv_X5_fault : gMv RX5 yX5_fault cX5_fault 1 (some .int) 0 := ⟨kw_210, kw_211, kw_1, kw_212, by decide +kernel⟩
theorem mv_X5_program : gMv RX5 yX5_program cX5_program 2 (some .int) 0 := ⟨kw_339, kw_340, kw_1, kw_341, by decide +kernel⟩
theorem mv_X5_about : gMv RX5 yX5_about cX5_about 2 (some .int) 1 := ⟨kw_451, kw_452, kw_1, kw_453, by decide +kernel⟩
theorem mv_X5_stream : gMv RX5 yX5_stream cX5_stream 3 (some .int) 2 := ⟨kw_459, kw_460, kw_1, kw_461, by decide +kernel⟩
theorem mv_X5_figure : gMv RX5 yX5_figure cX5_figure 3 (some .int) 2 := ⟨kw_472, kw_473, kw_1, kw_474, by decide +kernel⟩
theorem mv_X5_clock : gMv RX5 yX5_clock cX5_clock 3 (some .int) 2 := ⟨kw_477, kw_478, kw_1, kw_479, by decide +kernel⟩
theorem mv_X5_tick : gMv RX5 yX5_tick cX5_tick 3 (some .int) 2 := ⟨kw_485, kw_486, kw_1, kw_487, by decide +kernel⟩
theorem mv_X5_afresh : gMv RX5 yX5_afresh cX5_afresh 2 (some .int) 0 := ⟨kw_531, kw_532, kw_1, kw_533, by decide +kernel⟩
theorem mv_X5_tell : gMv RX5 yX5_tell cX5_tell 6 (some .int) 5 := ⟨kw_535, kw_536, kw_1, kw_537, by decide +kernel⟩
theorem mv_X5_undo : gMv RX5 yX5_undo cX5_undo 1 (some .int) 0 := ⟨kw_545, kw_546, kw_1, kw_547, by decide +kernel⟩
theorem mv_X5_later : gMv RX5 yX5_later cX5_later 6 (some .int) 4 := ⟨kw_553, kw_554, kw_1, kw_555, by decide +kernel⟩
theorem mv_X5_first : gMv RX5 yX5_first cX5_first 6 (some .int) 4 := ⟨kw_557, kw_558, kw_1, kw_559, by decide +kernel⟩
theorem mv_X5_round : gMv RX5 yX5_round cX5_round 6 (some .int) 3 := ⟨kw_561, kw_562, kw_1, kw_563, by decide +kernel⟩
theorem mv_X5_judge : gMv RX5 yX5_judge cX5_judge 8 (some .int) 2 := ⟨kw_574, kw_575, kw_1, kw_576, by decide +kernel⟩
theorem mv_X5_see : gMv RX5 yX5_see cX5_see 5 (some .int) 4 := ⟨kw_586, kw_587, kw_1, kw_588, by decide +kernel⟩
theorem mv_X5_unsee : gMv RX5 yX5_unsee cX5_unsee 2 (some .int) 0 := ⟨kw_594, kw_595, kw_1, kw_596, by decide +kernel⟩
theorem mv_X5_inputs : gMv RX5 yX5_inputs cX5_inputs 5 (some .int) 1 := ⟨kw_598, kw_599, kw_1, kw_600, by decide +kernel⟩
theorem mv_X5_odds : gMv RX5 yX5_odds cX5_odds 9 (some .int) 5 := ⟨kw_616, kw_617, kw_1, kw_618, by decide +kernel⟩
theorem mv_X5_seed : gMv RX5 yX5_seed cX5_seed 5 (some .long) 1 := ⟨kw_631, kw_632, kw_1, kw_633, by decide +kernel⟩
theorem mv_X5_runs : gMv RX5 yX5_runs cX5_runs 5 (some .int) 1 := ⟨kw_635, kw_636, kw_1, kw_637, by decide +kernel⟩
theorem mv_X5_keep : gMv RX5 yX5_keep cX5_keep 2 (some .int) 1 := ⟨kw_645, kw_646, kw_1, kw_647, by decide +kernel⟩
theorem mv_X5_again : gMv RX5 yX5_again cX5_again 2 (some .int) 1 := ⟨kw_650, kw_651, kw_1, kw_652, by decide +kernel⟩
theorem mv_X5_isStream : gMv RX5 yX5_isStream cX5_isStream 2 (some .boolean) 1 := ⟨kw_464, kw_1061, kw_1, kw_465, by decide +kernel⟩
theorem mv_X5_soundness : gMv RX5 yX5_soundness cX5_soundness 1 (some .int) 0 := ⟨kw_444, kw_1060, kw_1, kw_445, by decide +kernel⟩
theorem mv_X5_isEquation : gMv RX5 yX5_isEquation cX5_isEquation 5 (some .boolean) 4 := ⟨kw_540, kw_1067, kw_1, kw_541, by decide +kernel⟩
theorem mv_X5_layTrail : gMv RX5 yX5_layTrail cX5_layTrail 4 none 2 := ⟨kw_566, kw_1068, kw_1, kw_567, by decide +kernel⟩
theorem mv_X5_sameOnTrail : gMv RX5 yX5_sameOnTrail cX5_sameOnTrail 4 (some .boolean) 2 := ⟨kw_571, kw_1069, kw_1, kw_572, by decide +kernel⟩
theorem mv_X5_holds : gMv RX5 yX5_holds cX5_holds 5 (some .boolean) 1 := ⟨kw_583, kw_1070, kw_1, kw_584, by decide +kernel⟩
theorem mv_X5_explains : gMv RX5 yX5_explains cX5_explains 5 (some .boolean) 2 := ⟨kw_603, kw_1071, kw_1, kw_604, by decide +kernel⟩
theorem mv_X5_timesThere : gMv RX5 yX5_timesThere cX5_timesThere 6 (some .int) 3 := ⟨kw_621, kw_1072, kw_1, kw_622, by decide +kernel⟩
theorem ms_X5_weight : gMs yX5_weight cX5_weight 5 (some .int) 3 := ⟨kw_624, kw_1, kw_625, by decide +kernel⟩
theorem ms_X5_commonDivisor : gMs yX5_commonDivisor cX5_commonDivisor 6 (some .int) 2 := ⟨kw_628, kw_1, kw_629, by decide +kernel⟩
theorem ms_X5_power : gMs yX5_power cX5_power 6 (some .long) 2 := ⟨kw_579, kw_1, kw_580, by decide +kernel⟩
theorem ms_X5_carry : gMs yX5_carry cX5_carry 2 none 2 := ⟨kw_496, kw_1, kw_497, by decide +kernel⟩
theorem ms_X5_streamOf : gMs yX5_streamOf cX5_streamOf 2 (some .int) 1 := ⟨kw_402, kw_1, kw_403, by decide +kernel⟩
theorem ms_X5_isValue : gMs yX5_isValue cX5_isValue 1 (some .boolean) 1 := ⟨kw_489, kw_1, kw_490, by decide +kernel⟩
theorem ms_X5_figuresOf : gMs yX5_figuresOf cX5_figuresOf 1 (some .int) 1 := ⟨kw_321, kw_1, kw_322, by decide +kernel⟩
theorem ms_X5_namesStream : gMs yX5_namesStream cX5_namesStream 2 (some .boolean) 2 := ⟨kw_330, kw_1, kw_331, by decide +kernel⟩
theorem ms_X5_isFigure : gMs yX5_isFigure cX5_isFigure 5 (some .boolean) 4 := ⟨kw_326, kw_1, kw_327, by decide +kernel⟩
theorem ms_X6_in : gMs yX6_in cX6_in 6 (some .boolean) 3 := ⟨kw_750, kw_8, kw_751, by decide +kernel⟩
theorem ms_X6_has : gMs yX6_has cX6_has 2 (some .boolean) 2 := ⟨kw_826, kw_8, kw_827, by decide +kernel⟩
theorem ms_X6_power : gMs yX6_power cX6_power 4 (some .int) 2 := ⟨kw_1008, kw_8, kw_1009, by decide +kernel⟩
theorem mv_X6_noStream : gMv RX6 yX6_noStream cX6_noStream 2 (some .boolean) 1 := ⟨kw_871, kw_1092, kw_8, kw_872, by decide +kernel⟩
theorem ms_X6_figures : gMs yX6_figures cX6_figures 1 (some .int) 1 := ⟨kw_777, kw_8, kw_778, by decide +kernel⟩
theorem ms_X6_kindOf : gMs yX6_kindOf cX6_kindOf 1 (some .int) 1 := ⟨kw_774, kw_8, kw_775, by decide +kernel⟩
theorem ms_X6_most : gMs yX6_most cX6_most 3 (some .int) 3 := ⟨kw_780, kw_8, kw_781, by decide +kernel⟩
theorem ms_X6_streamOf : gMs yX6_streamOf cX6_streamOf 5 (some .int) 3 := ⟨kw_833, kw_8, kw_834, by decide +kernel⟩
theorem mv_X6_write : gMv RX6 yX6_write cX6_write 2 (some .int) 1 := ⟨kw_745, kw_746, kw_8, kw_747, by decide +kernel⟩
theorem mv_X6_wipe : gMv RX6 yX6_wipe cX6_wipe 2 (some .int) 0 := ⟨kw_753, kw_754, kw_8, kw_755, by decide +kernel⟩
theorem mv_X6_letterAt : gMv RX6 yX6_letterAt cX6_letterAt 2 (some .int) 1 := ⟨kw_766, kw_1074, kw_8, kw_767, by decide +kernel⟩
theorem mv_X6_readEquation : gMv RX6 yX6_readEquation cX6_readEquation 6 (some .boolean) 2 := ⟨kw_771, kw_1075, kw_8, kw_772, by decide +kernel⟩
theorem mv_X6_readProgram : gMv RX6 yX6_readProgram cX6_readProgram 3 (some .int) 0 := ⟨kw_762, kw_1073, kw_8, kw_763, by decide +kernel⟩
theorem mv_X6_fault : gMv RX6 yX6_fault cX6_fault 1 (some .int) 0 := ⟨kw_757, kw_758, kw_8, kw_759, by decide +kernel⟩
theorem mv_X6_root : gMv RX6 yX6_root cX6_root 3 (some .int) 1 := ⟨kw_811, kw_1081, kw_8, kw_812, by decide +kernel⟩
theorem mv_X6_isMet : gMv RX6 yX6_isMet cX6_isMet 4 (some .boolean) 2 := ⟨kw_815, kw_1082, kw_8, kw_816, by decide +kernel⟩
theorem mv_X6_settle : gMv RX6 yX6_settle cX6_settle 4 (some .boolean) 2 := ⟨kw_807, kw_1080, kw_8, kw_808, by decide +kernel⟩
theorem mv_X6_like : gMv RX6 yX6_like cX6_like 7 (some .boolean) 2 := ⟨kw_819, kw_1083, kw_8, kw_820, by decide +kernel⟩
theorem mv_X6_asks : gMv RX6 yX6_asks cX6_asks 7 (some .boolean) 2 := ⟨kw_803, kw_1079, kw_8, kw_804, by decide +kernel⟩
theorem mv_X6_findClocks : gMv RX6 yX6_findClocks cX6_findClocks 3 none 1 := ⟨kw_799, kw_1078, kw_8, kw_800, by decide +kernel⟩
theorem mv_X6_clocks : gMv RX6 yX6_clocks cX6_clocks 4 (some .int) 1 := ⟨kw_837, kw_1086, kw_8, kw_838, by decide +kernel⟩
theorem mv_X6_waits : gMv RX6 yX6_waits cX6_waits 7 (some .int) 2 := ⟨kw_830, kw_1085, kw_8, kw_831, by decide +kernel⟩
theorem mv_X6_findOrder : gMv RX6 yX6_findOrder cX6_findOrder 7 none 1 := ⟨kw_823, kw_1084, kw_8, kw_824, by decide +kernel⟩
theorem mv_X6_isOne : gMv RX6 yX6_isOne cX6_isOne 8 (some .boolean) 2 := ⟨kw_845, kw_1088, kw_8, kw_846, by decide +kernel⟩
theorem mv_X6_findLevels : gMv RX6 yX6_findLevels cX6_findLevels 4 none 1 := ⟨kw_841, kw_1087, kw_8, kw_842, by decide +kernel⟩
theorem mv_X6_isRaw : gMv RX6 yX6_isRaw cX6_isRaw 8 (some .boolean) 2 := ⟨kw_851, kw_1089, kw_8, kw_852, by decide +kernel⟩
theorem mv_X6_find : gMv RX6 yX6_find cX6_find 3 none 1 := ⟨kw_795, kw_1077, kw_8, kw_796, by decide +kernel⟩
theorem mv_X6_isSound : gMv RX6 yX6_isSound cX6_isSound 1 (some .boolean) 0 := ⟨kw_855, kw_1090, kw_8, kw_856, by decide +kernel⟩
theorem mv_X6_soundNow : gMv RX6 yX6_soundNow cX6_soundNow 1 (some .boolean) 0 := ⟨kw_791, kw_1076, kw_8, kw_792, by decide +kernel⟩
theorem ms_X6_goAfresh : gMs yX6_goAfresh cX6_goAfresh 3 none 1 := ⟨kw_787, kw_8, kw_788, by decide +kernel⟩
theorem mv_X6_isThere : gMv RX6 yX6_isThere cX6_isThere 6 (some .boolean) 2 := ⟨kw_899, kw_1095, kw_8, kw_900, by decide +kernel⟩
theorem ms_X6_made : gMs yX6_made cX6_made 3 (some .int) 3 := ⟨kw_906, kw_8, kw_907, by decide +kernel⟩
theorem mv_X6_valueOf : gMv RX6 yX6_valueOf cX6_valueOf 10 (some .int) 4 := ⟨kw_903, kw_1096, kw_8, kw_904, by decide +kernel⟩
theorem mv_X6_keepOn : gMv RX6 yX6_keepOn cX6_keepOn 4 none 1 := ⟨kw_910, kw_1097, kw_8, kw_911, by decide +kernel⟩
theorem mv_X6_goTick : gMv RX6 yX6_goTick cX6_goTick 8 (some .int) 3 := ⟨kw_895, kw_1094, kw_8, kw_896, by decide +kernel⟩
theorem mv_X6_program : gMv RX6 yX6_program cX6_program 2 (some .int) 0 := ⟨kw_783, kw_784, kw_8, kw_785, by decide +kernel⟩
theorem mv_X6_there : gMv RX6 yX6_there cX6_there 3 (some .int) 0 := ⟨kw_863, kw_1091, kw_8, kw_864, by decide +kernel⟩
theorem mv_X6_about : gMv RX6 yX6_about cX6_about 2 (some .int) 1 := ⟨kw_858, kw_859, kw_8, kw_860, by decide +kernel⟩
theorem mv_X6_stream : gMv RX6 yX6_stream cX6_stream 3 (some .int) 2 := ⟨kw_866, kw_867, kw_8, kw_868, by decide +kernel⟩
theorem mv_X6_figure : gMv RX6 yX6_figure cX6_figure 3 (some .int) 2 := ⟨kw_874, kw_875, kw_8, kw_876, by decide +kernel⟩
theorem mv_X6_clock : gMv RX6 yX6_clock cX6_clock 4 (some .int) 2 := ⟨kw_878, kw_879, kw_8, kw_880, by decide +kernel⟩
theorem mv_X6_note : gMv RX6 yX6_note cX6_note 2 none 0 := ⟨kw_891, kw_1093, kw_8, kw_892, by decide +kernel⟩
theorem ms_X6_areInputs : gMs yX6_areInputs cX6_areInputs 2 (some .boolean) 2 := ⟨kw_886, kw_8, kw_887, by decide +kernel⟩
theorem mv_X6_tick : gMv RX6 yX6_tick cX6_tick 3 (some .int) 2 := ⟨kw_882, kw_883, kw_8, kw_884, by decide +kernel⟩
theorem mv_X6_afresh : gMv RX6 yX6_afresh cX6_afresh 2 (some .int) 0 := ⟨kw_913, kw_914, kw_8, kw_915, by decide +kernel⟩
theorem mv_X6_areFigures : gMv RX6 yX6_areFigures cX6_areFigures 7 (some .boolean) 4 := ⟨kw_923, kw_1098, kw_8, kw_924, by decide +kernel⟩
theorem mv_X6_tell : gMv RX6 yX6_tell cX6_tell 6 (some .int) 5 := ⟨kw_917, kw_918, kw_8, kw_919, by decide +kernel⟩
theorem mv_X6_undo : gMv RX6 yX6_undo cX6_undo 2 (some .int) 0 := ⟨kw_926, kw_927, kw_8, kw_928, by decide +kernel⟩
theorem mv_X6_begin : gMv RX6 yX6_begin cX6_begin 2 none 0 := ⟨kw_936, kw_1099, kw_8, kw_937, by decide +kernel⟩
theorem mv_X6_goTicks : gMv RX6 yX6_goTicks cX6_goTicks 5 none 3 := ⟨kw_940, kw_1100, kw_8, kw_941, by decide +kernel⟩
theorem mv_X6_later : gMv RX6 yX6_later cX6_later 5 (some .int) 4 := ⟨kw_930, kw_931, kw_8, kw_932, by decide +kernel⟩
theorem mv_X6_first : gMv RX6 yX6_first cX6_first 6 (some .int) 4 := ⟨kw_943, kw_944, kw_8, kw_945, by decide +kernel⟩
theorem mv_X6_areAlike : gMv RX6 yX6_areAlike cX6_areAlike 5 (some .boolean) 2 := ⟨kw_957, kw_1102, kw_8, kw_958, by decide +kernel⟩
theorem mv_X6_layStates : gMv RX6 yX6_layStates cX6_layStates 6 none 2 := ⟨kw_952, kw_1101, kw_8, kw_953, by decide +kernel⟩
theorem mv_X6_round : gMv RX6 yX6_round cX6_round 6 (some .int) 3 := ⟨kw_947, kw_948, kw_8, kw_949, by decide +kernel⟩
theorem ms_X6_longPower : gMs yX6_longPower cX6_longPower 6 (some .long) 2 := ⟨kw_966, kw_8, kw_967, by decide +kernel⟩
theorem mv_X6_areLike : gMv RX6 yX6_areLike cX6_areLike 6 (some .boolean) 2 := ⟨kw_978, kw_1105, kw_8, kw_979, by decide +kernel⟩
theorem mv_X6_isSo : gMv RX6 yX6_isSo cX6_isSo 5 (some .boolean) 4 := ⟨kw_974, kw_1104, kw_8, kw_975, by decide +kernel⟩
theorem mv_X6_does : gMv RX6 yX6_does cX6_does 2 (some .boolean) 1 := ⟨kw_970, kw_1103, kw_8, kw_971, by decide +kernel⟩
theorem mv_X6_judge : gMv RX6 yX6_judge cX6_judge 5 (some .int) 2 := ⟨kw_960, kw_961, kw_8, kw_962, by decide +kernel⟩
theorem mv_X6_see : gMv RX6 yX6_see cX6_see 5 (some .int) 4 := ⟨kw_981, kw_982, kw_8, kw_983, by decide +kernel⟩
theorem mv_X6_unsee : gMv RX6 yX6_unsee cX6_unsee 2 (some .int) 0 := ⟨kw_987, kw_988, kw_8, kw_989, by decide +kernel⟩
theorem mv_X6_explains : gMv RX6 yX6_explains cX6_explains 6 (some .boolean) 2 := ⟨kw_996, kw_1106, kw_8, kw_997, by decide +kernel⟩
theorem mv_X6_inputs : gMv RX6 yX6_inputs cX6_inputs 4 (some .int) 1 := ⟨kw_991, kw_992, kw_8, kw_993, by decide +kernel⟩
theorem ms_X6_divisor : gMs yX6_divisor cX6_divisor 5 (some .int) 2 := ⟨kw_1014, kw_8, kw_1015, by decide +kernel⟩
theorem ms_X6_fraction : gMs yX6_fraction cX6_fraction 4 (some .int) 3 := ⟨kw_1011, kw_8, kw_1012, by decide +kernel⟩
theorem mv_X6_timesThere : gMv RX6 yX6_timesThere cX6_timesThere 6 (some .int) 3 := ⟨kw_1005, kw_1107, kw_8, kw_1006, by decide +kernel⟩
theorem mv_X6_odds : gMv RX6 yX6_odds cX6_odds 10 (some .int) 5 := ⟨kw_999, kw_1000, kw_8, kw_1001, by decide +kernel⟩
theorem mv_X6_seed : gMv RX6 yX6_seed cX6_seed 5 (some .long) 1 := ⟨kw_1017, kw_1018, kw_8, kw_1019, by decide +kernel⟩
theorem mv_X6_sumOf : gMv RX6 yX6_sumOf cX6_sumOf 4 (some .int) 1 := ⟨kw_1029, kw_1108, kw_8, kw_1030, by decide +kernel⟩
theorem mv_X6_runs : gMv RX6 yX6_runs cX6_runs 5 (some .int) 1 := ⟨kw_1021, kw_1022, kw_8, kw_1023, by decide +kernel⟩
theorem mv_X6_keep : gMv RX6 yX6_keep cX6_keep 3 (some .int) 1 := ⟨kw_1032, kw_1033, kw_8, kw_1034, by decide +kernel⟩
theorem mv_X6_again : gMv RX6 yX6_again cX6_again 3 (some .int) 1 := ⟨kw_1036, kw_1037, kw_8, kw_1038, by decide +kernel⟩
theorem ms_J6_bitCount_0f7a4 : gMs yJ6_bitCount_0f7a4 cJ6_bitCount_0f7a4 1 (some .int) 1 := ⟨kw_525, kw_16, kw_526, by decide +kernel⟩
theorem mv_J0_length_8abf5 : gMv RJ0 yJ0_length_8abf5 cJ0_length_8abf5 1 (some .int) 0 := ⟨kw_241, kw_242, kw_9, kw_243, by decide +kernel⟩
theorem mv_J0_indexOf_0f7a4 : gMv RJ0 yJ0_indexOf_0f7a4 cJ0_indexOf_0f7a4 2 (some .int) 1 := ⟨kw_227, kw_228, kw_9, kw_229, by decide +kernel⟩
theorem mv_J0_indexOf_7cf53 : gMv RJ0 yJ0_indexOf_7cf53 cJ0_indexOf_7cf53 3 (some .int) 2 := ⟨kw_231, kw_232, kw_9, kw_233, by decide +kernel⟩
theorem mv_J0_coder_7d493 : gMv RJ0 yJ0_coder_7d493 cJ0_coder_7d493 1 (some .byte) 0 := ⟨kw_245, kw_246, kw_9, kw_247, by decide +kernel⟩
theorem mv_J0_isLatin1_aae02 : gMv RJ0 yJ0_isLatin1_aae02 cJ0_isLatin1_aae02 1 (some .boolean) 0 := ⟨kw_235, kw_236, kw_9, kw_237, by decide +kernel⟩
theorem ms_J1_canEncode_9a6ad : gMs yJ1_canEncode_9a6ad cJ1_canEncode_9a6ad 1 (some .boolean) 1 := ⟨kw_252, kw_10, kw_253, by decide +kernel⟩
theorem ms_J1_indexOf_4cfef : gMs yJ1_indexOf_4cfef cJ1_indexOf_4cfef 4 (some .int) 4 := ⟨kw_249, kw_10, kw_250, by decide +kernel⟩
theorem ms_J1_indexOfChar_4cfef : gMs yJ1_indexOfChar_4cfef cJ1_indexOfChar_4cfef 6 (some .int) 4 := ⟨kw_261, kw_10, kw_262, by decide +kernel⟩
theorem ms_J2_length_9d52b : gMs yJ2_length_9d52b cJ2_length_9d52b 1 (some .int) 1 := ⟨kw_276, kw_12, kw_277, by decide +kernel⟩
theorem ms_J2_indexOf_4cfef : gMs yJ2_indexOf_4cfef cJ2_indexOf_4cfef 4 (some .int) 4 := ⟨kw_264, kw_12, kw_265, by decide +kernel⟩
theorem ms_J2_indexOfChar_4cfef : gMs yJ2_indexOfChar_4cfef cJ2_indexOfChar_4cfef 4 (some .int) 4 := ⟨kw_270, kw_12, kw_271, by decide +kernel⟩
theorem ms_J7_fill_53178 : gMs yJ7_fill_53178 cJ7_fill_53178 4 none 2 := ⟨kw_47, kw_4, kw_48, by decide +kernel⟩
/-- the flows' cells -/
def flL : List Nat := [3, 8, 23, 28, 33, 38, 43, 48, 53, 58, 63, 68, 73, 78, 83, 88, 101, 106]
def isF (f : Nat) : Prop := f ∈ flL
theorem isF_all : ∀ f ∈ flL, (f + 4 < 129 ∧ ck f = 1) ∧ (ck (f + 1) = 7 ∧ ck (f + 2) = 7 ∧ ck (f + 3) = 7 ∧ ck (f + 4) = 7) ∧ (cn (f + 1) = 8 ∧ cn (f + 2) = 24 ∧ cn (f + 3) = 8 ∧ cn (f + 4) = 8) := by decide +kernel
theorem isF.lt0 {f : Nat} (h : isF f) : f < 129 := by have := (isF_all f h).1.1; omega
theorem isF.ck0 {f : Nat} (h : isF f) : ck f = 1 := (isF_all f h).1.2
theorem isF.lt1 {f : Nat} (h : isF f) : f + 1 < 129 := by have := (isF_all f h).1.1; omega
theorem isF.ck1 {f : Nat} (h : isF f) : ck (f + 1) = 7 := (isF_all f h).2.1.1
theorem isF.cn1 {f : Nat} (h : isF f) : cn (f + 1) = 8 := (isF_all f h).2.2.1
theorem isF.bg1 {f : Nat} (h : isF f) : cn (f + 1) < 1000 := by rw [h.cn1]; decide
theorem isF.lt2 {f : Nat} (h : isF f) : f + 2 < 129 := by have := (isF_all f h).1.1; omega
theorem isF.ck2 {f : Nat} (h : isF f) : ck (f + 2) = 7 := (isF_all f h).2.1.2.1
theorem isF.cn2 {f : Nat} (h : isF f) : cn (f + 2) = 24 := (isF_all f h).2.2.2.1
theorem isF.bg2 {f : Nat} (h : isF f) : cn (f + 2) < 1000 := by rw [h.cn2]; decide
theorem isF.lt3 {f : Nat} (h : isF f) : f + 3 < 129 := by have := (isF_all f h).1.1; omega
theorem isF.ck3 {f : Nat} (h : isF f) : ck (f + 3) = 7 := (isF_all f h).2.1.2.2.1
theorem isF.cn3 {f : Nat} (h : isF f) : cn (f + 3) = 8 := (isF_all f h).2.2.2.2.1
theorem isF.bg3 {f : Nat} (h : isF f) : cn (f + 3) < 1000 := by rw [h.cn3]; decide
theorem isF.lt4 {f : Nat} (h : isF f) : f + 4 < 129 := by have := (isF_all f h).1.1; omega
theorem isF.ck4 {f : Nat} (h : isF f) : ck (f + 4) = 7 := (isF_all f h).2.1.2.2.2
theorem isF.cn4 {f : Nat} (h : isF f) : cn (f + 4) = 8 := (isF_all f h).2.2.2.2.2
theorem isF.bg4 {f : Nat} (h : isF f) : cn (f + 4) < 1000 := by rw [h.cn4]; decide
theorem isF.tg2 {f : Nat} (h : isF f) : tg f 2 = f + 1 := by rw [tg, if_pos h.ck0]; omega
theorem isF.tg3 {f : Nat} (h : isF f) : tg f 3 = f + 2 := by rw [tg, if_pos h.ck0]; omega
theorem isF.tg4 {f : Nat} (h : isF f) : tg f 4 = f + 3 := by rw [tg, if_pos h.ck0]; omega
theorem isF.tg5 {f : Nat} (h : isF f) : tg f 5 = f + 4 := by rw [tg, if_pos h.ck0]; omega
