/-! 02d: what each call rests on, and the room that each method needs -/
theorem xc_X0_33 : xc_IN RX0 33 yX3_init cX3_init 1 0 := ⟨by decide +kernel, xw_147, xw_38, xw_148, rfl, ⟨by decide +kernel, by decide +kernel, by decide +kernel⟩⟩
theorem xc_X0_34 : xc_S RX0 34 yJ7_fill_53178 cJ7_fill_53178 4 none 2 := ⟨xw_241, xw_242, xw_41, xw_243, ⟨by decide +kernel, by decide +kernel, by decide +kernel⟩⟩
theorem xc_X0_40 : xc_V RX0 40 RX0 yX0_clear cX0_clear 1 none 0 := ⟨xw_479, xw_321, xw_322, xw_40, xw_323, rfl, ⟨by decide +kernel, by decide +kernel, by decide +kernel⟩⟩
theorem xc_X0_43 : xc_V RX0 43 RX4 yX4_wholeSet cX4_wholeSet 1 (some .int) 0 := ⟨xw_480, xw_481, xw_482, xw_39, xw_483, rfl, ⟨by decide +kernel, by decide +kernel, by decide +kernel⟩⟩
theorem xc_X0_49 : xc_S RX0 49 yX4_firstOf cX4_firstOf 2 (some .int) 1 := ⟨xw_484, xw_467, xw_39, xw_468, ⟨by decide +kernel, by decide +kernel, by decide +kernel⟩⟩
theorem xc_X0_53 : xc_V RX0 53 RX4 yX4_mateOfFirst cX4_mateOfFirst 2 (some .int) 1 := ⟨xw_485, xw_486, xw_487, xw_39, xw_488, rfl, ⟨by decide +kernel, by decide +kernel, by decide +kernel⟩⟩
theorem xc_X0_56 : xc_V RX0 56 RX0 yX0_addLeaf cX0_addLeaf 4 none 3 := ⟨xw_490, xw_492, xw_8, xw_40, xw_493, rfl, ⟨by decide +kernel, by decide +kernel, by decide +kernel⟩⟩
theorem xc_X0_60 : xc_S RX0 60 yX4_without cX4_without 3 (some .int) 3 := ⟨xw_503, xw_473, xw_39, xw_474, ⟨by decide +kernel, by decide +kernel, by decide +kernel⟩⟩
theorem xc_X0_64 : xc_V RX0 64 RX0 yX0_keepLists cX0_keepLists 3 none 1 := ⟨xw_504, xw_506, xw_10, xw_40, xw_507, rfl, ⟨by decide +kernel, by decide +kernel, by decide +kernel⟩⟩
theorem xc_X0_68 : xc_V RX0 68 RX0 yX0_putInOrder cX0_putInOrder 3 none 0 := ⟨xw_511, xw_513, xw_11, xw_40, xw_514, rfl, ⟨by decide +kernel, by decide +kernel, by decide +kernel⟩⟩
theorem xc_X0_71 : xc_V RX0 71 RX5 yX5_seekBest cX5_seekBest 5 (some .boolean) 2 := ⟨xw_494, xw_416, xw_417, xw_34, xw_418, rfl, ⟨by decide +kernel, by decide +kernel, by decide +kernel⟩⟩
theorem xc_X0_77 : xc_V RX0 77 RX5 yX5_copyFoundTo cX5_copyFoundTo 3 none 1 := ⟨xw_495, xw_496, xw_497, xw_34, xw_498, rfl, ⟨by decide +kernel, by decide +kernel, by decide +kernel⟩⟩
theorem xc_X0_101 : xc_V RX0 101 RX0 yX0_hasNext cX0_hasNext 2 (some .boolean) 1 := ⟨xw_535, xw_537, xw_12, xw_40, xw_538, rfl, ⟨by decide +kernel, by decide +kernel, by decide +kernel⟩⟩
theorem xc_X0_105 : xc_V RX0 105 RX0 yX0_gapBehind cX0_gapBehind 2 (some .int) 1 := ⟨xw_543, xw_545, xw_14, xw_40, xw_546, rfl, ⟨by decide +kernel, by decide +kernel, by decide +kernel⟩⟩
theorem xc_X0_108 : xc_V RX0 108 RX0 yX0_clashesBehind cX0_clashesBehind 2 (some .boolean) 1 := ⟨xw_539, xw_541, xw_13, xw_40, xw_542, rfl, ⟨by decide +kernel, by decide +kernel, by decide +kernel⟩⟩
theorem xc_X0_111 : xc_V RX0 111 RX0 yX0_lostBehind cX0_lostBehind 2 (some .int) 1 := ⟨xw_551, xw_532, xw_533, xw_40, xw_534, rfl, ⟨by decide +kernel, by decide +kernel, by decide +kernel⟩⟩
theorem xc_X0_120 : xc_V RX0 120 RX0 yX0_breaksBehind cX0_breaksBehind 2 (some .boolean) 1 := ⟨xw_579, xw_548, xw_549, xw_40, xw_550, rfl, ⟨by decide +kernel, by decide +kernel, by decide +kernel⟩⟩
theorem xc_X2_21 : xc_IN RX2 21 yX1_init cX1_init 1 0 := ⟨by decide +kernel, xw_107, xw_37, xw_108, rfl, ⟨by decide +kernel, by decide +kernel, by decide +kernel⟩⟩
theorem xc_X2_36 : xc_S RX2 36 yJ7_fill_53178 cJ7_fill_53178 4 none 2 := ⟨xw_338, xw_242, xw_41, xw_243, ⟨by decide +kernel, by decide +kernel, by decide +kernel⟩⟩
theorem xc_X4_33 : xc_V RX4 33 RX5 yX5_seekBest cX5_seekBest 5 (some .boolean) 2 := ⟨xw_461, xw_416, xw_417, xw_34, xw_418, rfl, ⟨by decide +kernel, by decide +kernel, by decide +kernel⟩⟩
theorem xc_X4_48 : xc_V RX4 48 RX4 yX4_settleSet cX4_settleSet 6 none 2 := ⟨xw_462, xw_464, xw_7, xw_39, xw_465, rfl, ⟨by decide +kernel, by decide +kernel, by decide +kernel⟩⟩
theorem xc_X4_52 : xc_S RX4 52 yX4_firstOf cX4_firstOf 2 (some .int) 1 := ⟨xw_466, xw_467, xw_39, xw_468, ⟨by decide +kernel, by decide +kernel, by decide +kernel⟩⟩
theorem xc_X4_56 : xc_S RX4 56 yX4_isIn cX4_isIn 2 (some .boolean) 2 := ⟨xw_469, xw_470, xw_39, xw_471, ⟨by decide +kernel, by decide +kernel, by decide +kernel⟩⟩
theorem xc_X4_59 : xc_S RX4 59 yX4_without cX4_without 3 (some .int) 3 := ⟨xw_472, xw_473, xw_39, xw_474, ⟨by decide +kernel, by decide +kernel, by decide +kernel⟩⟩
theorem xc_X4_63 : xc_SN RX4 63 yX8_isWithin cX8_isWithin 2 (some .boolean) 2 := ⟨by decide +kernel, xw_318, xw_32, xw_319, ⟨by decide +kernel, by decide +kernel, by decide +kernel⟩⟩
theorem xc_X5_11 : xc_IN RX5 11 yX7_init cX7_init 1 0 := ⟨by decide +kernel, xw_78, xw_35, xw_79, rfl, ⟨by decide +kernel, by decide +kernel, by decide +kernel⟩⟩
theorem xc_X5_20 : xc_I RX5 20 yX2_init cX2_init 2 0 := ⟨xw_99, xw_100, xw_36, xw_101, rfl, ⟨by decide +kernel, by decide +kernel, by decide +kernel⟩⟩
theorem xc_X5_27 : xc_IN RX5 27 yX3_init cX3_init 1 0 := ⟨by decide +kernel, xw_147, xw_38, xw_148, rfl, ⟨by decide +kernel, by decide +kernel, by decide +kernel⟩⟩
theorem xc_X5_45 : xc_V RX5 45 RX5 yX5_weigh cX5_weigh 2 none 1 := ⟨xw_455, xw_377, xw_378, xw_34, xw_379, rfl, ⟨by decide +kernel, by decide +kernel, by decide +kernel⟩⟩
theorem xc_X5_49 : xc_V RX5 49 RX2 yX2_has cX2_has 2 (some .boolean) 1 := ⟨xw_380, xw_348, xw_349, xw_36, xw_350, rfl, ⟨by decide +kernel, by decide +kernel, by decide +kernel⟩⟩
theorem xc_X5_53 : xc_V RX5 53 RX5 yX5_rowOf cX5_rowOf 3 (some (.array .int)) 2 := ⟨xw_381, xw_383, xw_2, xw_34, xw_384, rfl, ⟨by decide +kernel, by decide +kernel, by decide +kernel⟩⟩
theorem xc_X5_61 : xc_V RX5 61 RX5 yX5_fillRow cX5_fillRow 5 none 3 := ⟨xw_386, xw_388, xw_3, xw_34, xw_389, rfl, ⟨by decide +kernel, by decide +kernel, by decide +kernel⟩⟩
theorem xc_X5_65 : xc_S RX5 65 yJ7_fill_53178 cJ7_fill_53178 4 none 2 := ⟨xw_390, xw_242, xw_41, xw_243, ⟨by decide +kernel, by decide +kernel, by decide +kernel⟩⟩
theorem xc_X5_77 : xc_SN RX5 77 yX8_lettersAhead cX8_lettersAhead 4 (some .int) 2 := ⟨by decide +kernel, xw_393, xw_32, xw_394, ⟨by decide +kernel, by decide +kernel, by decide +kernel⟩⟩
theorem xc_X5_81 : xc_V RX5 81 RX5 yX5_addSpot cX5_addSpot 6 none 3 := ⟨xw_395, xw_397, xw_4, xw_34, xw_398, rfl, ⟨by decide +kernel, by decide +kernel, by decide +kernel⟩⟩
theorem xc_X5_85 : xc_V RX5 85 RX7 yX7_places cX7_places 1 (some .int) 0 := ⟨xw_399, xw_370, xw_371, xw_35, xw_372, rfl, ⟨by decide +kernel, by decide +kernel, by decide +kernel⟩⟩
theorem xc_X5_89 : xc_V RX5 89 RX7 yX7_letterAt cX7_letterAt 2 (some .int) 1 := ⟨xw_400, xw_401, xw_402, xw_35, xw_403, rfl, ⟨by decide +kernel, by decide +kernel, by decide +kernel⟩⟩
theorem xc_X5_93 : xc_SN RX5 93 yX8_hasLetter cX8_hasLetter 2 (some .boolean) 2 := ⟨by decide +kernel, xw_405, xw_32, xw_406, ⟨by decide +kernel, by decide +kernel, by decide +kernel⟩⟩
theorem xc_X5_97 : xc_SN RX5 97 yX8_isWithin cX8_isWithin 2 (some .boolean) 2 := ⟨by decide +kernel, xw_318, xw_32, xw_319, ⟨by decide +kernel, by decide +kernel, by decide +kernel⟩⟩
theorem xc_X5_100 : xc_V RX5 100 RX3 yX3_lie cX3_lie 5 none 4 := ⟨xw_419, xw_420, xw_421, xw_38, xw_422, rfl, ⟨by decide +kernel, by decide +kernel, by decide +kernel⟩⟩
theorem xc_X5_112 : xc_V RX5 112 RX5 yX5_tryWay cX5_tryWay 8 none 2 := ⟨xw_427, xw_429, xw_5, xw_34, xw_430, rfl, ⟨by decide +kernel, by decide +kernel, by decide +kernel⟩⟩
theorem xc_X5_116 : xc_V RX5 116 RX1 yX1_isLike cX1_isLike 2 (some .boolean) 1 := ⟨xw_439, xw_440, xw_441, xw_37, xw_442, rfl, ⟨by decide +kernel, by decide +kernel, by decide +kernel⟩⟩
theorem xc_X5_123 : xc_V RX5 123 RX5 yX5_mayLie cX5_mayLie 3 (some .boolean) 2 := ⟨xw_431, xw_433, xw_6, xw_34, xw_434, rfl, ⟨by decide +kernel, by decide +kernel, by decide +kernel⟩⟩
theorem xc_X5_126 : xc_V RX5 126 RX1 yX1_mayLieAs cX1_mayLieAs 2 (some .boolean) 1 := ⟨xw_435, xw_436, xw_437, xw_37, xw_438, rfl, ⟨by decide +kernel, by decide +kernel, by decide +kernel⟩⟩
theorem xc_X5_140 : xc_V RX5 140 RX5 yX5_placesUpTo cX5_placesUpTo 6 (some .int) 1 := ⟨xw_499, xw_501, xw_9, xw_34, xw_502, rfl, ⟨by decide +kernel, by decide +kernel, by decide +kernel⟩⟩
theorem xc_X7_25 : xc_V RX7 25 RX7 yX7_seekFault cX7_seekFault 6 none 2 := ⟨xw_306, xw_308, xw_0, xw_35, xw_309, rfl, ⟨by decide +kernel, by decide +kernel, by decide +kernel⟩⟩
theorem xc_X7_29 : xc_V RX7 29 RX6 yX6_byteAt cX6_byteAt 2 (some .int) 1 := ⟨xw_310, xw_311, xw_312, xw_33, xw_313, rfl, ⟨by decide +kernel, by decide +kernel, by decide +kernel⟩⟩
theorem xc_X7_35 : xc_S RX7 35 yX7_isLetter cX7_isLetter 1 (some .boolean) 1 := ⟨xw_314, xw_315, xw_35, xw_316, ⟨by decide +kernel, by decide +kernel, by decide +kernel⟩⟩
theorem xc_X7_39 : xc_SN RX7 39 yX8_isWithin cX8_isWithin 2 (some .boolean) 2 := ⟨by decide +kernel, xw_318, xw_32, xw_319, ⟨by decide +kernel, by decide +kernel, by decide +kernel⟩⟩
theorem xc_X8_9 : xc_IN RX8 9 yX6_init cX6_init 1 0 := ⟨by decide +kernel, xw_57, xw_33, xw_58, rfl, ⟨by decide +kernel, by decide +kernel, by decide +kernel⟩⟩
theorem xc_X8_18 : xc_IN RX8 18 yX5_init cX5_init 1 0 := ⟨by decide +kernel, xw_72, xw_34, xw_73, rfl, ⟨by decide +kernel, by decide +kernel, by decide +kernel⟩⟩
theorem xc_X8_37 : xc_IN RX8 37 yX4_init cX4_init 1 0 := ⟨by decide +kernel, xw_214, xw_39, xw_215, rfl, ⟨by decide +kernel, by decide +kernel, by decide +kernel⟩⟩
theorem xc_X8_44 : xc_I RX8 44 yX0_init cX0_init 2 0 := ⟨xw_233, xw_234, xw_40, xw_235, rfl, ⟨by decide +kernel, by decide +kernel, by decide +kernel⟩⟩
theorem xc_X8_59 : xc_V RX8 59 RX6 yX6_put cX6_put 3 none 1 := ⟨xw_294, xw_295, xw_296, xw_33, xw_297, rfl, ⟨by decide +kernel, by decide +kernel, by decide +kernel⟩⟩
theorem xc_X8_63 : xc_V RX8 63 RX7 yX7_read cX7_read 5 (some .boolean) 2 := ⟨xw_302, xw_303, xw_304, xw_35, xw_305, rfl, ⟨by decide +kernel, by decide +kernel, by decide +kernel⟩⟩
theorem xc_X8_69 : xc_V RX8 69 RX0 yX0_clear cX0_clear 1 none 0 := ⟨xw_320, xw_321, xw_322, xw_40, xw_323, rfl, ⟨by decide +kernel, by decide +kernel, by decide +kernel⟩⟩
theorem xc_X8_79 : xc_S RX8 79 yX8_isWithin cX8_isWithin 2 (some .boolean) 2 := ⟨xw_332, xw_318, xw_32, xw_319, ⟨by decide +kernel, by decide +kernel, by decide +kernel⟩⟩
theorem xc_X8_83 : xc_V RX8 83 RX2 yX2_add cX2_add 5 (some .int) 3 := ⟨xw_333, xw_334, xw_335, xw_36, xw_336, rfl, ⟨by decide +kernel, by decide +kernel, by decide +kernel⟩⟩
theorem xc_X8_89 : xc_V RX8 89 RX8 yX8_isSpot cX8_isSpot 4 (some .boolean) 3 := ⟨xw_343, xw_345, xw_1, xw_32, xw_346, rfl, ⟨by decide +kernel, by decide +kernel, by decide +kernel⟩⟩
theorem xc_X8_104 : xc_S RX8 104 yX8_spotIndex cX8_spotIndex 2 (some .int) 2 := ⟨xw_352, xw_353, xw_32, xw_354, ⟨by decide +kernel, by decide +kernel, by decide +kernel⟩⟩
theorem xc_X8_108 : xc_S RX8 108 yJ6_bitCount_0f7a4 cJ6_bitCount_0f7a4 1 (some .int) 1 := ⟨xw_355, xw_356, xw_43, xw_357, ⟨by decide +kernel, by decide +kernel, by decide +kernel⟩⟩
theorem xc_X8_114 : xc_V RX8 114 RX2 yX2_has cX2_has 2 (some .boolean) 1 := ⟨xw_347, xw_348, xw_349, xw_36, xw_350, rfl, ⟨by decide +kernel, by decide +kernel, by decide +kernel⟩⟩
theorem xc_X8_118 : xc_V RX8 118 RX7 yX7_places cX7_places 1 (some .int) 0 := ⟨xw_369, xw_370, xw_371, xw_35, xw_372, rfl, ⟨by decide +kernel, by decide +kernel, by decide +kernel⟩⟩
theorem xc_X8_122 : xc_V RX8 122 RX5 yX5_weigh cX5_weigh 2 none 1 := ⟨xw_376, xw_377, xw_378, xw_34, xw_379, rfl, ⟨by decide +kernel, by decide +kernel, by decide +kernel⟩⟩
theorem xc_X8_125 : xc_V RX8 125 RX5 yX5_quarrelsAs cX5_quarrelsAs 4 (some .int) 3 := ⟨xw_407, xw_408, xw_409, xw_34, xw_410, rfl, ⟨by decide +kernel, by decide +kernel, by decide +kernel⟩⟩
theorem xc_X8_128 : xc_V RX8 128 RX5 yX5_seekBest cX5_seekBest 5 (some .boolean) 2 := ⟨xw_415, xw_416, xw_417, xw_34, xw_418, rfl, ⟨by decide +kernel, by decide +kernel, by decide +kernel⟩⟩
theorem xc_X8_147 : xc_V RX8 147 RX5 yX5_weighAll cX5_weighAll 2 none 0 := ⟨xw_451, xw_452, xw_453, xw_34, xw_454, rfl, ⟨by decide +kernel, by decide +kernel, by decide +kernel⟩⟩
theorem xc_X8_150 : xc_V RX8 150 RX4 yX4_settle cX4_settle 7 none 3 := ⟨xw_456, xw_457, xw_458, xw_39, xw_459, rfl, ⟨by decide +kernel, by decide +kernel, by decide +kernel⟩⟩
theorem xc_X8_154 : xc_V RX8 154 RX0 yX0_keep cX0_keep 8 none 3 := ⟨xw_475, xw_476, xw_477, xw_40, xw_478, rfl, ⟨by decide +kernel, by decide +kernel, by decide +kernel⟩⟩
theorem xc_X8_158 : xc_V RX8 158 RX4 yX4_sum cX4_sum 1 (some .int) 0 := ⟨xw_515, xw_516, xw_517, xw_39, xw_518, rfl, ⟨by decide +kernel, by decide +kernel, by decide +kernel⟩⟩
theorem xc_X8_161 : xc_V RX8 161 RX0 yX0_has cX0_has 2 (some .boolean) 1 := ⟨xw_523, xw_524, xw_525, xw_40, xw_526, rfl, ⟨by decide +kernel, by decide +kernel, by decide +kernel⟩⟩
theorem xc_X8_177 : xc_V RX8 177 RX0 yX0_lostBehind cX0_lostBehind 2 (some .int) 1 := ⟨xw_531, xw_532, xw_533, xw_40, xw_534, rfl, ⟨by decide +kernel, by decide +kernel, by decide +kernel⟩⟩
theorem xc_X8_180 : xc_V RX8 180 RX0 yX0_breaksBehind cX0_breaksBehind 2 (some .boolean) 1 := ⟨xw_547, xw_548, xw_549, xw_40, xw_550, rfl, ⟨by decide +kernel, by decide +kernel, by decide +kernel⟩⟩
theorem xc_X8_186 : xc_V RX8 186 RX3 yX3_partOf cX3_partOf 2 (some .int) 1 := ⟨xw_556, xw_557, xw_558, xw_38, xw_559, rfl, ⟨by decide +kernel, by decide +kernel, by decide +kernel⟩⟩
theorem xc_X8_189 : xc_S RX8 189 yX8_lettersAhead cX8_lettersAhead 4 (some .int) 2 := ⟨xw_560, xw_393, xw_32, xw_394, ⟨by decide +kernel, by decide +kernel, by decide +kernel⟩⟩
theorem xc_X8_192 : xc_V RX8 192 RX7 yX7_letterAt cX7_letterAt 2 (some .int) 1 := ⟨xw_561, xw_401, xw_402, xw_35, xw_403, rfl, ⟨by decide +kernel, by decide +kernel, by decide +kernel⟩⟩
theorem xc_X8_198 : xc_S RX8 198 yX8_hasLetter cX8_hasLetter 2 (some .boolean) 2 := ⟨xw_562, xw_405, xw_32, xw_406, ⟨by decide +kernel, by decide +kernel, by decide +kernel⟩⟩
theorem xc_X8_202 : xc_V RX8 202 RX0 yX0_allQuarrels cX0_allQuarrels 3 (some .int) 0 := ⟨xw_567, xw_568, xw_569, xw_40, xw_570, rfl, ⟨by decide +kernel, by decide +kernel, by decide +kernel⟩⟩
theorem xc_X8_205 : xc_V RX8 205 RX0 yX0_clashes cX0_clashes 3 (some .int) 0 := ⟨xw_571, xw_572, xw_573, xw_40, xw_574, rfl, ⟨by decide +kernel, by decide +kernel, by decide +kernel⟩⟩
theorem xc_X8_208 : xc_V RX8 208 RX0 yX0_breaks cX0_breaks 3 (some .int) 0 := ⟨xw_575, xw_576, xw_577, xw_40, xw_578, rfl, ⟨by decide +kernel, by decide +kernel, by decide +kernel⟩⟩
theorem xc_X8_211 : xc_V RX8 211 RX0 yX0_allLost cX0_allLost 3 (some .int) 0 := ⟨xw_580, xw_581, xw_582, xw_40, xw_583, rfl, ⟨by decide +kernel, by decide +kernel, by decide +kernel⟩⟩
theorem xc_X9_92 : xc_V RX9 92 RX9 yX9_isHalf cX9_isHalf 2 (some .boolean) 1 := ⟨xw_714, xw_716, xw_16, xw_42, xw_717, rfl, ⟨by decide +kernel, by decide +kernel, by decide +kernel⟩⟩
theorem xc_X9_96 : xc_V RX9 96 RX9 yX9_spotAt cX9_spotAt 4 (some .int) 3 := ⟨xw_710, xw_712, xw_15, xw_42, xw_713, rfl, ⟨by decide +kernel, by decide +kernel, by decide +kernel⟩⟩
theorem xc_X9_103 : xc_V RX9 103 RX9 yX9_letterAt cX9_letterAt 4 (some .int) 3 := ⟨xw_734, xw_736, xw_19, xw_42, xw_737, rfl, ⟨by decide +kernel, by decide +kernel, by decide +kernel⟩⟩
theorem xc_X9_106 : xc_V RX9 106 RX9 yX9_places cX9_places 1 (some .int) 0 := ⟨xw_726, xw_728, xw_17, xw_42, xw_729, rfl, ⟨by decide +kernel, by decide +kernel, by decide +kernel⟩⟩
theorem xc_X9_110 : xc_V RX9 110 RX9 yX9_quarrelsOf cX9_quarrelsOf 6 (some .int) 3 := ⟨xw_730, xw_732, xw_18, xw_42, xw_733, rfl, ⟨by decide +kernel, by decide +kernel, by decide +kernel⟩⟩
theorem xc_X9_113 : xc_V RX9 113 RX9 yX9_canBe cX9_canBe 3 (some .boolean) 2 := ⟨xw_752, xw_754, xw_22, xw_42, xw_755, rfl, ⟨by decide +kernel, by decide +kernel, by decide +kernel⟩⟩
theorem xc_X9_117 : xc_V RX9 117 RX9 yX9_both cX9_both 4 (some .int) 3 := ⟨xw_756, xw_758, xw_23, xw_42, xw_759, rfl, ⟨by decide +kernel, by decide +kernel, by decide +kernel⟩⟩
theorem xc_X9_141 : xc_V RX9 141 RX9 yX9_tries cX9_tries 5 none 2 := ⟨xw_748, xw_750, xw_21, xw_42, xw_751, rfl, ⟨by decide +kernel, by decide +kernel, by decide +kernel⟩⟩
theorem xc_X9_145 : xc_V RX9 145 RX9 yX9_bests cX9_bests 5 (some .boolean) 2 := ⟨xw_742, xw_744, xw_20, xw_42, xw_745, rfl, ⟨by decide +kernel, by decide +kernel, by decide +kernel⟩⟩
theorem xc_X9_148 : xc_S RX9 148 yX9_first cX9_first 2 (some .int) 1 := ⟨xw_768, xw_769, xw_42, xw_770, ⟨by decide +kernel, by decide +kernel, by decide +kernel⟩⟩
theorem xc_X9_153 : xc_V RX9 153 RX9 yX9_leaves cX9_leaves 4 none 0 := ⟨xw_772, xw_774, xw_24, xw_42, xw_775, rfl, ⟨by decide +kernel, by decide +kernel, by decide +kernel⟩⟩
theorem xc_X9_159 : xc_V RX9 159 RX9 yX9_comes cX9_comes 2 none 0 := ⟨xw_776, xw_778, xw_25, xw_42, xw_779, rfl, ⟨by decide +kernel, by decide +kernel, by decide +kernel⟩⟩
theorem xc_X9_162 : xc_V RX9 162 RX9 yX9_orders cX9_orders 3 none 0 := ⟨xw_780, xw_782, xw_26, xw_42, xw_783, rfl, ⟨by decide +kernel, by decide +kernel, by decide +kernel⟩⟩
theorem xc_X9_165 : xc_V RX9 165 RX9 yX9_between cX9_between 2 (some .int) 1 := ⟨xw_796, xw_798, xw_28, xw_42, xw_799, rfl, ⟨by decide +kernel, by decide +kernel, by decide +kernel⟩⟩
theorem xc_X9_168 : xc_V RX9 168 RX9 yX9_sideOf cX9_sideOf 2 (some .int) 1 := ⟨xw_804, xw_806, xw_30, xw_42, xw_807, rfl, ⟨by decide +kernel, by decide +kernel, by decide +kernel⟩⟩
theorem xc_X9_171 : xc_V RX9 171 RX9 yX9_lostBehind cX9_lostBehind 3 (some .int) 1 := ⟨xw_792, xw_794, xw_27, xw_42, xw_795, rfl, ⟨by decide +kernel, by decide +kernel, by decide +kernel⟩⟩
theorem xc_X9_174 : xc_V RX9 174 RX9 yX9_breaks cX9_breaks 2 (some .boolean) 1 := ⟨xw_800, xw_802, xw_29, xw_42, xw_803, rfl, ⟨by decide +kernel, by decide +kernel, by decide +kernel⟩⟩
theorem xc_L_9 : xc_I RL 9 yX8_init cX8_init 1 0 := ⟨xw_48, xw_49, xw_32, xw_50, rfl, ⟨by decide +kernel, by decide +kernel, by decide +kernel⟩⟩
theorem xc_L_12 : xc_I RL 12 yX9_init cX9_init 1 0 := ⟨xw_587, xw_588, xw_42, xw_589, rfl, ⟨by decide +kernel, by decide +kernel, by decide +kernel⟩⟩
theorem xc_L_13 : xc_V RL 13 RX8 yX8_feed cX8_feed 6 (some .int) 5 := ⟨xw_290, xw_291, xw_292, xw_32, xw_293, rfl, ⟨by decide +kernel, by decide +kernel, by decide +kernel⟩⟩
theorem xc_L_17 : xc_V RL 17 RX9 yX9_feed cX9_feed 8 (some .int) 5 := ⟨xw_689, xw_690, xw_691, xw_42, xw_692, rfl, ⟨by decide +kernel, by decide +kernel, by decide +kernel⟩⟩
theorem xc_L_18 : xc_V RL 18 RX8 yX8_work cX8_work 3 (some .int) 1 := ⟨xw_298, xw_299, xw_300, xw_32, xw_301, rfl, ⟨by decide +kernel, by decide +kernel, by decide +kernel⟩⟩
theorem xc_L_22 : xc_V RL 22 RX9 yX9_work cX9_work 5 (some .int) 1 := ⟨xw_693, xw_694, xw_695, xw_42, xw_696, rfl, ⟨by decide +kernel, by decide +kernel, by decide +kernel⟩⟩
theorem xc_L_23 : xc_V RL 23 RX8 yX8_fault cX8_fault 2 (some .int) 1 := ⟨xw_324, xw_325, xw_326, xw_32, xw_327, rfl, ⟨by decide +kernel, by decide +kernel, by decide +kernel⟩⟩
theorem xc_L_26 : xc_V RL 26 RX9 yX9_fault cX9_fault 2 (some .int) 1 := ⟨xw_697, xw_698, xw_699, xw_42, xw_700, rfl, ⟨by decide +kernel, by decide +kernel, by decide +kernel⟩⟩
theorem xc_L_27 : xc_V RL 27 RX8 yX8_half cX8_half 5 (some .int) 3 := ⟨xw_328, xw_329, xw_330, xw_32, xw_331, rfl, ⟨by decide +kernel, by decide +kernel, by decide +kernel⟩⟩
theorem xc_L_31 : xc_V RL 31 RX9 yX9_half cX9_half 5 (some .int) 3 := ⟨xw_701, xw_702, xw_703, xw_42, xw_704, rfl, ⟨by decide +kernel, by decide +kernel, by decide +kernel⟩⟩
theorem xc_L_32 : xc_V RL 32 RX8 yX8_light cX8_light 8 (some .int) 4 := ⟨xw_339, xw_340, xw_341, xw_32, xw_342, rfl, ⟨by decide +kernel, by decide +kernel, by decide +kernel⟩⟩
theorem xc_L_36 : xc_V RL 36 RX9 yX9_light cX9_light 9 (some .int) 4 := ⟨xw_706, xw_707, xw_708, xw_42, xw_709, rfl, ⟨by decide +kernel, by decide +kernel, by decide +kernel⟩⟩
theorem xc_L_37 : xc_V RL 37 RX8 yX8_list cX8_list 4 (some .int) 3 := ⟨xw_361, xw_362, xw_363, xw_32, xw_364, rfl, ⟨by decide +kernel, by decide +kernel, by decide +kernel⟩⟩
theorem xc_L_40 : xc_V RL 40 RX9 yX9_list cX9_list 5 (some .int) 3 := ⟨xw_718, xw_719, xw_720, xw_42, xw_721, rfl, ⟨by decide +kernel, by decide +kernel, by decide +kernel⟩⟩
theorem xc_L_41 : xc_V RL 41 RX8 yX8_quarrels cX8_quarrels 4 (some .int) 3 := ⟨xw_365, xw_366, xw_367, xw_32, xw_368, rfl, ⟨by decide +kernel, by decide +kernel, by decide +kernel⟩⟩
theorem xc_L_44 : xc_V RL 44 RX9 yX9_quarrels cX9_quarrels 4 (some .int) 3 := ⟨xw_722, xw_723, xw_724, xw_42, xw_725, rfl, ⟨by decide +kernel, by decide +kernel, by decide +kernel⟩⟩
theorem xc_L_45 : xc_V RL 45 RX8 yX8_best cX8_best 4 (some .int) 3 := ⟨xw_411, xw_412, xw_413, xw_32, xw_414, rfl, ⟨by decide +kernel, by decide +kernel, by decide +kernel⟩⟩
theorem xc_L_48 : xc_V RL 48 RX9 yX9_best cX9_best 4 (some .int) 3 := ⟨xw_738, xw_739, xw_740, xw_42, xw_741, rfl, ⟨by decide +kernel, by decide +kernel, by decide +kernel⟩⟩
theorem xc_L_49 : xc_V RL 49 RX8 yX8_price cX8_price 2 (some .boolean) 1 := ⟨xw_443, xw_444, xw_445, xw_32, xw_446, rfl, ⟨by decide +kernel, by decide +kernel, by decide +kernel⟩⟩
theorem xc_L_53 : xc_V RL 53 RX9 yX9_price cX9_price 2 (some .boolean) 1 := ⟨xw_760, xw_761, xw_762, xw_42, xw_763, rfl, ⟨by decide +kernel, by decide +kernel, by decide +kernel⟩⟩
theorem xc_L_54 : xc_V RL 54 RX8 yX8_join cX8_join 1 (some .int) 0 := ⟨xw_447, xw_448, xw_449, xw_32, xw_450, rfl, ⟨by decide +kernel, by decide +kernel, by decide +kernel⟩⟩
theorem xc_L_58 : xc_V RL 58 RX9 yX9_join cX9_join 4 (some .int) 0 := ⟨xw_764, xw_765, xw_766, xw_42, xw_767, rfl, ⟨by decide +kernel, by decide +kernel, by decide +kernel⟩⟩
theorem xc_L_59 : xc_V RL 59 RX8 yX8_leaf cX8_leaf 4 (some .int) 2 := ⟨xw_519, xw_520, xw_521, xw_32, xw_522, rfl, ⟨by decide +kernel, by decide +kernel, by decide +kernel⟩⟩
theorem xc_L_63 : xc_V RL 63 RX9 yX9_leaf cX9_leaf 3 (some .int) 2 := ⟨xw_784, xw_785, xw_786, xw_42, xw_787, rfl, ⟨by decide +kernel, by decide +kernel, by decide +kernel⟩⟩
theorem xc_L_64 : xc_V RL 64 RX8 yX8_book cX8_book 3 (some .int) 2 := ⟨xw_527, xw_528, xw_529, xw_32, xw_530, rfl, ⟨by decide +kernel, by decide +kernel, by decide +kernel⟩⟩
theorem xc_L_67 : xc_V RL 67 RX9 yX9_book cX9_book 3 (some .int) 2 := ⟨xw_788, xw_789, xw_790, xw_42, xw_791, rfl, ⟨by decide +kernel, by decide +kernel, by decide +kernel⟩⟩
theorem xc_L_68 : xc_V RL 68 RX8 yX8_led cX8_led 7 (some .int) 3 := ⟨xw_552, xw_553, xw_554, xw_32, xw_555, rfl, ⟨by decide +kernel, by decide +kernel, by decide +kernel⟩⟩
theorem xc_L_71 : xc_V RL 71 RX9 yX9_led cX9_led 5 (some .int) 3 := ⟨xw_808, xw_809, xw_810, xw_42, xw_811, rfl, ⟨by decide +kernel, by decide +kernel, by decide +kernel⟩⟩
theorem xc_L_72 : xc_V RL 72 RX8 yX8_count cX8_count 2 (some .int) 1 := ⟨xw_563, xw_564, xw_565, xw_32, xw_566, rfl, ⟨by decide +kernel, by decide +kernel, by decide +kernel⟩⟩
theorem xc_L_75 : xc_V RL 75 RX9 yX9_count cX9_count 8 (some .int) 1 := ⟨xw_812, xw_813, xw_814, xw_42, xw_815, rfl, ⟨by decide +kernel, by decide +kernel, by decide +kernel⟩⟩
abbrev rmJ6_bitCount_0f7a4 : Room := { frames := 0, cells := 0, slots := 0, locals := 0 }
abbrev rmJ7_fill_53178 : Room := { frames := 0, cells := 0, slots := 0, locals := 0 }
abbrev rmX0_addLeaf : Room := { frames := 4, cells := 0, slots := 0, locals := 94 }
abbrev rmX0_allLost : Room := { frames := 3, cells := 0, slots := 0, locals := 63 }
abbrev rmX0_allQuarrels : Room := { frames := 0, cells := 0, slots := 0, locals := 0 }
abbrev rmX0_breaks : Room := { frames := 4, cells := 0, slots := 0, locals := 84 }
abbrev rmX0_breaksBehind : Room := { frames := 3, cells := 0, slots := 0, locals := 63 }
abbrev rmX0_clashes : Room := { frames := 2, cells := 0, slots := 0, locals := 42 }
abbrev rmX0_clashesBehind : Room := { frames := 1, cells := 0, slots := 0, locals := 21 }
abbrev rmX0_clear : Room := { frames := 1, cells := 0, slots := 0, locals := 23 }
abbrev rmX0_gapBehind : Room := { frames := 0, cells := 0, slots := 0, locals := 0 }
abbrev rmX0_has : Room := { frames := 0, cells := 0, slots := 0, locals := 0 }
abbrev rmX0_hasNext : Room := { frames := 0, cells := 0, slots := 0, locals := 0 }
abbrev rmX0_keep : Room := { frames := 5, cells := 0, slots := 0, locals := 117 }
abbrev rmX0_keepLists : Room := { frames := 1, cells := 0, slots := 0, locals := 48 }
abbrev rmX0_lostBehind : Room := { frames := 2, cells := 0, slots := 0, locals := 42 }
abbrev rmX0_putInOrder : Room := { frames := 0, cells := 0, slots := 0, locals := 0 }
abbrev rmX1_isLike : Room := { frames := 0, cells := 0, slots := 0, locals := 0 }
abbrev rmX1_mayLieAs : Room := { frames := 0, cells := 0, slots := 0, locals := 0 }
abbrev rmX2_add : Room := { frames := 1, cells := 0, slots := 0, locals := 23 }
abbrev rmX2_has : Room := { frames := 0, cells := 0, slots := 0, locals := 0 }
abbrev rmX3_lie : Room := { frames := 0, cells := 0, slots := 0, locals := 0 }
abbrev rmX3_partOf : Room := { frames := 0, cells := 0, slots := 0, locals := 0 }
abbrev rmX4_firstOf : Room := { frames := 1, cells := 0, slots := 0, locals := 21 }
abbrev rmX4_isIn : Room := { frames := 0, cells := 0, slots := 0, locals := 0 }
abbrev rmX4_mateOfFirst : Room := { frames := 1, cells := 0, slots := 0, locals := 21 }
abbrev rmX4_settle : Room := { frames := 4, cells := 0, slots := 0, locals := 94 }
abbrev rmX4_settleSet : Room := { frames := 2, cells := 0, slots := 0, locals := 42 }
abbrev rmX4_sum : Room := { frames := 0, cells := 0, slots := 0, locals := 0 }
abbrev rmX4_wholeSet : Room := { frames := 0, cells := 0, slots := 0, locals := 0 }
abbrev rmX4_without : Room := { frames := 0, cells := 0, slots := 0, locals := 0 }
abbrev rmX5_addSpot : Room := { frames := 2, cells := 0, slots := 0, locals := 42 }
abbrev rmX5_copyFoundTo : Room := { frames := 3, cells := 0, slots := 0, locals := 68 }
abbrev rmX5_fillRow : Room := { frames := 3, cells := 0, slots := 0, locals := 67 }
abbrev rmX5_mayLie : Room := { frames := 1, cells := 0, slots := 0, locals := 21 }
abbrev rmX5_placesUpTo : Room := { frames := 2, cells := 0, slots := 0, locals := 43 }
abbrev rmX5_quarrelsAs : Room := { frames := 2, cells := 0, slots := 0, locals := 43 }
abbrev rmX5_rowOf : Room := { frames := 1, cells := 0, slots := 0, locals := 21 }
abbrev rmX5_seekBest : Room := { frames := 3, cells := 0, slots := 0, locals := 70 }
abbrev rmX5_tryWay : Room := { frames := 2, cells := 0, slots := 0, locals := 43 }
abbrev rmX5_weigh : Room := { frames := 4, cells := 0, slots := 0, locals := 91 }
abbrev rmX5_weighAll : Room := { frames := 5, cells := 0, slots := 0, locals := 112 }
abbrev rmX6_byteAt : Room := { frames := 0, cells := 0, slots := 0, locals := 0 }
abbrev rmX6_put : Room := { frames := 0, cells := 0, slots := 0, locals := 0 }
abbrev rmX7_isLetter : Room := { frames := 1, cells := 0, slots := 0, locals := 21 }
abbrev rmX7_letterAt : Room := { frames := 0, cells := 0, slots := 0, locals := 0 }
abbrev rmX7_places : Room := { frames := 1, cells := 0, slots := 0, locals := 21 }
abbrev rmX7_read : Room := { frames := 3, cells := 0, slots := 0, locals := 66 }
abbrev rmX7_seekFault : Room := { frames := 2, cells := 0, slots := 0, locals := 41 }
abbrev rmX8_best : Room := { frames := 5, cells := 0, slots := 0, locals := 112 }
abbrev rmX8_book : Room := { frames := 4, cells := 0, slots := 0, locals := 84 }
abbrev rmX8_count : Room := { frames := 5, cells := 0, slots := 0, locals := 106 }
abbrev rmX8_fault : Room := { frames := 0, cells := 0, slots := 0, locals := 0 }
abbrev rmX8_feed : Room := { frames := 1, cells := 0, slots := 0, locals := 22 }
abbrev rmX8_half : Room := { frames := 2, cells := 0, slots := 0, locals := 47 }
abbrev rmX8_hasLetter : Room := { frames := 1, cells := 0, slots := 0, locals := 21 }
abbrev rmX8_isSpot : Room := { frames := 1, cells := 0, slots := 0, locals := 21 }
abbrev rmX8_isWithin : Room := { frames := 0, cells := 0, slots := 0, locals := 0 }
abbrev rmX8_join : Room := { frames := 6, cells := 0, slots := 0, locals := 144 }
abbrev rmX8_leaf : Room := { frames := 1, cells := 0, slots := 0, locals := 21 }
abbrev rmX8_led : Room := { frames := 2, cells := 0, slots := 0, locals := 44 }
abbrev rmX8_lettersAhead : Room := { frames := 0, cells := 0, slots := 0, locals := 0 }
abbrev rmX8_light : Room := { frames := 2, cells := 0, slots := 0, locals := 44 }
abbrev rmX8_list : Room := { frames := 2, cells := 0, slots := 0, locals := 44 }
abbrev rmX8_price : Room := { frames := 1, cells := 0, slots := 0, locals := 21 }
abbrev rmX8_quarrels : Room := { frames := 5, cells := 0, slots := 0, locals := 112 }
abbrev rmX8_spotIndex : Room := { frames := 0, cells := 0, slots := 0, locals := 0 }
abbrev rmX8_work : Room := { frames := 4, cells := 0, slots := 0, locals := 90 }
abbrev rmX9_best : Room := { frames := 5, cells := 0, slots := 0, locals := 119 }
abbrev rmX9_bests : Room := { frames := 4, cells := 0, slots := 0, locals := 95 }
abbrev rmX9_between : Room := { frames := 0, cells := 0, slots := 0, locals := 0 }
abbrev rmX9_book : Room := { frames := 2, cells := 0, slots := 0, locals := 43 }
abbrev rmX9_both : Room := { frames := 2, cells := 0, slots := 0, locals := 48 }
abbrev rmX9_breaks : Room := { frames := 1, cells := 0, slots := 0, locals := 21 }
abbrev rmX9_canBe : Room := { frames := 0, cells := 0, slots := 0, locals := 0 }
abbrev rmX9_comes : Room := { frames := 3, cells := 0, slots := 0, locals := 71 }
abbrev rmX9_count : Room := { frames := 2, cells := 0, slots := 0, locals := 43 }
abbrev rmX9_fault : Room := { frames := 0, cells := 0, slots := 0, locals := 0 }
abbrev rmX9_feed : Room := { frames := 0, cells := 0, slots := 0, locals := 0 }
abbrev rmX9_first : Room := { frames := 0, cells := 0, slots := 0, locals := 0 }
abbrev rmX9_half : Room := { frames := 0, cells := 0, slots := 0, locals := 0 }
abbrev rmX9_isHalf : Room := { frames := 0, cells := 0, slots := 0, locals := 0 }
abbrev rmX9_join : Room := { frames := 6, cells := 0, slots := 0, locals := 142 }
abbrev rmX9_leaf : Room := { frames := 0, cells := 0, slots := 0, locals := 0 }
abbrev rmX9_leaves : Room := { frames := 5, cells := 0, slots := 0, locals := 119 }
abbrev rmX9_led : Room := { frames := 2, cells := 0, slots := 0, locals := 44 }
abbrev rmX9_letterAt : Room := { frames := 0, cells := 0, slots := 0, locals := 0 }
abbrev rmX9_light : Room := { frames := 2, cells := 0, slots := 0, locals := 44 }
abbrev rmX9_list : Room := { frames := 2, cells := 0, slots := 0, locals := 44 }
abbrev rmX9_lostBehind : Room := { frames := 1, cells := 0, slots := 0, locals := 21 }
abbrev rmX9_orders : Room := { frames := 0, cells := 0, slots := 0, locals := 0 }
abbrev rmX9_places : Room := { frames := 0, cells := 0, slots := 0, locals := 0 }
abbrev rmX9_price : Room := { frames := 0, cells := 0, slots := 0, locals := 0 }
abbrev rmX9_quarrels : Room := { frames := 2, cells := 0, slots := 0, locals := 48 }
abbrev rmX9_quarrelsOf : Room := { frames := 1, cells := 0, slots := 0, locals := 23 }
abbrev rmX9_sideOf : Room := { frames := 0, cells := 0, slots := 0, locals := 0 }
abbrev rmX9_spotAt : Room := { frames := 1, cells := 0, slots := 0, locals := 21 }
abbrev rmX9_tries : Room := { frames := 3, cells := 0, slots := 0, locals := 71 }
abbrev rmX9_work : Room := { frames := 0, cells := 0, slots := 0, locals := 0 }
