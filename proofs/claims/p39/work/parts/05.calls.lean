/-! the cells and the classes by their places; what is said of each callee, once; some rows more -/
theorem S_0 : shp[0]? = some (.inl (7, [some 1, some 21, some 41, some 46, some 50, some 52, none])) := rfl
theorem S_1 : shp[1]? = some (.inl (3, [some 2, some 7, some 13, some 16, some 19, none, some 20, none, none, none, none, none, none, none, none])) := rfl
theorem S_2 : shp[2]? = some (.inl (0, [some 3, some 4, some 5, some 6, none])) := rfl
theorem S_3 : shp[3]? = some (.inr (false, 6)) := rfl
theorem S_4 : shp[4]? = some (.inr (false, 6)) := rfl
theorem S_5 : shp[5]? = some (.inr (false, 6)) := rfl
theorem S_6 : shp[6]? = some (.inr (false, 6)) := rfl
theorem S_7 : shp[7]? = some (.inl (2, [some 8, some 9, some 10, some 11, some 12, none])) := rfl
theorem S_8 : shp[8]? = some (.inr (false, 5)) := rfl
theorem S_9 : shp[9]? = some (.inr (false, 5)) := rfl
theorem S_10 : shp[10]? = some (.inr (false, 5)) := rfl
theorem S_11 : shp[11]? = some (.inr (false, 5)) := rfl
theorem S_12 : shp[12]? = some (.inr (false, 5)) := rfl
theorem S_13 : shp[13]? = some (.inl (5, [some 14, some 15, none, none])) := rfl
theorem S_14 : shp[14]? = some (.inr (false, 60)) := rfl
theorem S_15 : shp[15]? = some (.inr (false, 60)) := rfl
theorem S_16 : shp[16]? = some (.inl (5, [some 17, some 18, none, none])) := rfl
theorem S_17 : shp[17]? = some (.inr (false, 60)) := rfl
theorem S_18 : shp[18]? = some (.inr (false, 60)) := rfl
theorem S_19 : shp[19]? = some (.inr (true, 60)) := rfl
theorem S_20 : shp[20]? = some (.inr (false, 24)) := rfl
theorem S_21 : shp[21]? = some (.inl (3, [some 22, some 27, some 33, some 36, some 39, none, some 40, none, none, none, none, none, none, none, none])) := rfl
theorem S_22 : shp[22]? = some (.inl (0, [some 23, some 24, some 25, some 26, none])) := rfl
theorem S_23 : shp[23]? = some (.inr (false, 6)) := rfl
theorem S_24 : shp[24]? = some (.inr (false, 6)) := rfl
theorem S_25 : shp[25]? = some (.inr (false, 6)) := rfl
theorem S_26 : shp[26]? = some (.inr (false, 6)) := rfl
theorem S_27 : shp[27]? = some (.inl (2, [some 28, some 29, some 30, some 31, some 32, none])) := rfl
theorem S_28 : shp[28]? = some (.inr (false, 5)) := rfl
theorem S_29 : shp[29]? = some (.inr (false, 5)) := rfl
theorem S_30 : shp[30]? = some (.inr (false, 5)) := rfl
theorem S_31 : shp[31]? = some (.inr (false, 5)) := rfl
theorem S_32 : shp[32]? = some (.inr (false, 5)) := rfl
theorem S_33 : shp[33]? = some (.inl (5, [some 34, some 35, none, none])) := rfl
theorem S_34 : shp[34]? = some (.inr (false, 60)) := rfl
theorem S_35 : shp[35]? = some (.inr (false, 60)) := rfl
theorem S_36 : shp[36]? = some (.inl (5, [some 37, some 38, none, none])) := rfl
theorem S_37 : shp[37]? = some (.inr (false, 60)) := rfl
theorem S_38 : shp[38]? = some (.inr (false, 60)) := rfl
theorem S_39 : shp[39]? = some (.inr (true, 60)) := rfl
theorem S_40 : shp[40]? = some (.inr (false, 24)) := rfl
theorem S_41 : shp[41]? = some (.inl (1, [some 42, some 45, none, none, none, none, none])) := rfl
theorem S_42 : shp[42]? = some (.inl (5, [some 43, some 44, none, none])) := rfl
theorem S_43 : shp[43]? = some (.inr (false, 60)) := rfl
theorem S_44 : shp[44]? = some (.inr (false, 60)) := rfl
theorem S_45 : shp[45]? = some (.inr (false, 60)) := rfl
theorem S_46 : shp[46]? = some (.inl (4, [some 47, some 48, some 49])) := rfl
theorem S_47 : shp[47]? = some (.inr (false, 4)) := rfl
theorem S_48 : shp[48]? = some (.inr (false, 4)) := rfl
theorem S_49 : shp[49]? = some (.inr (false, 96)) := rfl
theorem S_50 : shp[50]? = some (.inl (6, [some 51, none, none, none, none, none])) := rfl
theorem S_51 : shp[51]? = some (.inr (false, 30)) := rfl
theorem S_52 : shp[52]? = some (.inr (false, 7)) := rfl
theorem S_53 : shp[53]? = some (.inl (8, [some 54, some 55, none, some 56, some 57, some 58, some 59, some 60, some 61, some 62, some 63, none, none, none, none, none, some 64, none, none])) := rfl
theorem S_54 : shp[54]? = some (.inr (false, 386)) := rfl
theorem S_55 : shp[55]? = some (.inr (false, 386)) := rfl
theorem S_56 : shp[56]? = some (.inr (false, 7)) := rfl
theorem S_57 : shp[57]? = some (.inr (false, 4)) := rfl
theorem S_58 : shp[58]? = some (.inr (false, 4)) := rfl
theorem S_59 : shp[59]? = some (.inr (false, 96)) := rfl
theorem S_60 : shp[60]? = some (.inr (false, 60)) := rfl
theorem S_61 : shp[61]? = some (.inr (false, 60)) := rfl
theorem S_62 : shp[62]? = some (.inr (false, 3)) := rfl
theorem S_63 : shp[63]? = some (.inr (false, 60)) := rfl
theorem S_64 : shp[64]? = some (.inr (false, 30)) := rfl
theorem V_0 : vwCl[0]? = some (RX0, TX0, 5) := rfl
theorem V_1 : vwCl[1]? = some (RX1, TX1, 7) := rfl
theorem V_2 : vwCl[2]? = some (RX2, TX2, 6) := rfl
theorem V_3 : vwCl[3]? = some (RX3, TX3, 15) := rfl
theorem V_4 : vwCl[4]? = some (RX4, TX4, 3) := rfl
theorem V_5 : vwCl[5]? = some (RX5, TX5, 4) := rfl
theorem V_6 : vwCl[6]? = some (RX6, TX6, 6) := rfl
theorem V_7 : vwCl[7]? = some (RX7, TX7, 7) := rfl
theorem V_8 : vwCl[8]? = some (RX8, TX8, 19) := rfl
theorem o_J6_bitCount_0f7a4 : OS yJ6_bitCount_0f7a4 cJ6_bitCount_0f7a4 1 (some .int) 1 := ⟨q_904, q_361, q_14, by decide, by decide, by decide +kernel⟩
theorem o_X0_add : OV yX0_add cX0_add 4 (some .int) RX0 2 := ⟨q_372, q_724, q_362, q_15, rfl, by decide, by decide, by decide +kernel⟩
theorem o_X0_allWeights : OV yX0_allWeights cX0_allWeights 3 (some .int) RX0 0 := ⟨q_373, q_725, q_362, q_16, rfl, by decide, by decide, by decide +kernel⟩
theorem o_X0_byWeight : OV yX0_byWeight cX0_byWeight 4 (some .int) RX0 1 := ⟨q_374, q_726, q_362, q_17, rfl, by decide, by decide, by decide +kernel⟩
theorem o_X0_takes : OV yX0_takes cX0_takes 2 none RX0 1 := ⟨q_376, q_727, q_362, q_19, rfl, by decide, by decide, by decide +kernel⟩
theorem o_X1_begins : OV yX1_begins cX1_begins 4 (some .boolean) RX1 2 := ⟨q_377, q_728, q_363, q_20, rfl, by decide, by decide, by decide +kernel⟩
theorem o_X1_closes : OV yX1_closes cX1_closes 1 (some .boolean) RX1 0 := ⟨q_378, q_729, q_363, q_21, rfl, by decide, by decide, by decide +kernel⟩
theorem o_X1_continues : OV yX1_continues cX1_continues 3 (some .boolean) RX1 1 := ⟨q_379, q_730, q_363, q_22, rfl, by decide, by decide, by decide +kernel⟩
theorem o_X1_faultOf : OV yX1_faultOf cX1_faultOf 7 (some .int) RX1 3 := ⟨q_380, q_731, q_363, q_23, rfl, by decide, by decide, by decide +kernel⟩
theorem o_X1_isNumeral : OS yX1_isNumeral cX1_isNumeral 1 (some .boolean) 1 := ⟨q_905, q_363, q_25, by decide, by decide, by decide +kernel⟩
theorem o_X1_lengthens : OV yX1_lengthens cX1_lengthens 3 (some .boolean) RX1 1 := ⟨q_382, q_732, q_363, q_26, rfl, by decide, by decide, by decide +kernel⟩
theorem o_X1_park : OV yX1_park cX1_park 2 none RX1 1 := ⟨q_383, q_733, q_363, q_27, rfl, by decide, by decide, by decide +kernel⟩
theorem o_X1_rankOf : OS yX1_rankOf cX1_rankOf 1 (some .int) 1 := ⟨q_906, q_363, q_28, by decide, by decide, by decide +kernel⟩
theorem o_X1_settle : OV yX1_settle cX1_settle 2 none RX1 1 := ⟨q_384, q_734, q_363, q_29, rfl, by decide, by decide, by decide +kernel⟩
theorem o_X2_add : OV yX2_add cX2_add 4 (some .int) RX2 2 := ⟨q_385, q_735, q_364, q_30, rfl, by decide, by decide, by decide +kernel⟩
theorem o_X2_backFrom : OV yX2_backFrom cX2_backFrom 3 (some .int) RX2 2 := ⟨q_386, q_736, q_364, q_31, rfl, by decide, by decide, by decide +kernel⟩
theorem o_X2_runFrom : OV yX2_runFrom cX2_runFrom 3 (some .int) RX2 2 := ⟨q_388, q_737, q_364, q_33, rfl, by decide, by decide, by decide +kernel⟩
theorem o_X2_takes : OV yX2_takes cX2_takes 2 none RX2 1 := ⟨q_389, q_738, q_364, q_34, rfl, by decide, by decide, by decide +kernel⟩
theorem o_X3_air : OV yX3_air cX3_air 2 (some .int) RX3 1 := ⟨q_390, q_739, q_365, q_35, rfl, by decide, by decide, by decide +kernel⟩
theorem o_X3_airByKind : OV yX3_airByKind cX3_airByKind 4 (some .int) RX3 1 := ⟨q_391, q_740, q_365, q_36, rfl, by decide, by decide, by decide +kernel⟩
theorem o_X3_change : OV yX3_change cX3_change 4 (some .int) RX3 2 := ⟨q_392, q_741, q_365, q_37, rfl, by decide, by decide, by decide +kernel⟩
theorem o_X3_costs : OV yX3_costs cX3_costs 2 (some .int) RX3 1 := ⟨q_393, q_742, q_365, q_38, rfl, by decide, by decide, by decide +kernel⟩
theorem o_X3_draw : OV yX3_draw cX3_draw 1 (some .int) RX3 0 := ⟨q_394, q_743, q_365, q_39, rfl, by decide, by decide, by decide +kernel⟩
theorem o_X3_gainFrom : OV yX3_gainFrom cX3_gainFrom 4 (some .int) RX3 3 := ⟨q_395, q_744, q_365, q_40, rfl, by decide, by decide, by decide +kernel⟩
theorem o_X3_gainOf : OV yX3_gainOf cX3_gainOf 2 (some .int) RX3 1 := ⟨q_396, q_745, q_365, q_41, rfl, by decide, by decide, by decide +kernel⟩
theorem o_X3_gives : OV yX3_gives cX3_gives 6 (some .int) RX3 4 := ⟨q_397, q_746, q_365, q_42, rfl, by decide, by decide, by decide +kernel⟩
theorem o_X3_goes : OV yX3_goes cX3_goes 4 (some .boolean) RX3 2 := ⟨q_398, q_747, q_365, q_43, rfl, by decide, by decide, by decide +kernel⟩
theorem o_X3_held : OS yX3_held cX3_held 3 (some .int) 3 := ⟨q_907, q_365, q_44, by decide, by decide, by decide +kernel⟩
theorem o_X3_isOut : OV yX3_isOut cX3_isOut 2 none RX3 1 := ⟨q_400, q_748, q_365, q_46, rfl, by decide, by decide, by decide +kernel⟩
theorem o_X3_isPicked : OV yX3_isPicked cX3_isPicked 3 (some .boolean) RX3 2 := ⟨q_401, q_749, q_365, q_47, rfl, by decide, by decide, by decide +kernel⟩
theorem o_X3_isSafeByDraws : OV yX3_isSafeByDraws cX3_isSafeByDraws 4 (some .boolean) RX3 0 := ⟨q_402, q_750, q_365, q_48, rfl, by decide, by decide, by decide +kernel⟩
theorem o_X3_marginFrom : OV yX3_marginFrom cX3_marginFrom 4 (some .int) RX3 3 := ⟨q_403, q_751, q_365, q_49, rfl, by decide, by decide, by decide +kernel⟩
theorem o_X3_oneMore : OS yX3_oneMore cX3_oneMore 1 (some .int) 1 := ⟨q_908, q_365, q_50, by decide, by decide, by decide +kernel⟩
theorem o_X3_safePitches : OV yX3_safePitches cX3_safePitches 5 (some .int) RX3 2 := ⟨q_404, q_752, q_365, q_51, rfl, by decide, by decide, by decide +kernel⟩
theorem o_X3_safeWeights : OV yX3_safeWeights cX3_safeWeights 5 (some .int) RX3 2 := ⟨q_405, q_753, q_365, q_52, rfl, by decide, by decide, by decide +kernel⟩
theorem o_X3_takes : OV yX3_takes cX3_takes 2 none RX3 1 := ⟨q_406, q_754, q_365, q_53, rfl, by decide, by decide, by decide +kernel⟩
theorem o_X3_weighedGains : OV yX3_weighedGains cX3_weighedGains 5 (some .int) RX3 2 := ⟨q_408, q_756, q_365, q_55, rfl, by decide, by decide, by decide +kernel⟩
theorem o_X4_copy : OV yX4_copy cX4_copy 6 none RX4 5 := ⟨q_409, q_757, q_366, q_56, rfl, by decide, by decide, by decide +kernel⟩
theorem o_X4_isMissing : OV yX4_isMissing cX4_isMissing 2 (some .boolean) RX4 1 := ⟨q_411, q_758, q_366, q_58, rfl, by decide, by decide, by decide +kernel⟩
theorem o_X4_lay : OV yX4_lay cX4_lay 5 none RX4 3 := ⟨q_412, q_759, q_366, q_59, rfl, by decide, by decide, by decide +kernel⟩
theorem o_X4_read : OV yX4_read cX4_read 3 (some .int) RX4 2 := ⟨q_413, q_760, q_366, q_60, rfl, by decide, by decide, by decide +kernel⟩
theorem o_X4_standsAt : OV yX4_standsAt cX4_standsAt 4 (some .boolean) RX4 3 := ⟨q_414, q_761, q_366, q_61, rfl, by decide, by decide, by decide +kernel⟩
theorem o_X4_write : OV yX4_write cX4_write 5 none RX4 3 := ⟨q_415, q_762, q_366, q_62, rfl, by decide, by decide, by decide +kernel⟩
theorem o_X5_add : OV yX5_add cX5_add 2 none RX5 1 := ⟨q_416, q_763, q_367, q_63, rfl, by decide, by decide, by decide +kernel⟩
theorem o_X5_joined : OS yX5_joined cX5_joined 3 (some .int) 3 := ⟨q_909, q_367, q_65, by decide, by decide, by decide +kernel⟩
theorem o_X5_named : OS yX5_named cX5_named 4 (some .int) 4 := ⟨q_910, q_367, q_66, by decide, by decide, by decide +kernel⟩
theorem o_X5_takes : OV yX5_takes cX5_takes 2 none RX5 1 := ⟨q_418, q_764, q_367, q_67, rfl, by decide, by decide, by decide +kernel⟩
theorem o_X5_work : OV yX5_work cX5_work 7 (some .int) RX5 3 := ⟨q_419, q_765, q_367, q_68, rfl, by decide, by decide, by decide +kernel⟩
theorem o_X6_begin : OV yX6_begin cX6_begin 2 none RX6 1 := ⟨q_420, q_766, q_368, q_69, rfl, by decide, by decide, by decide +kernel⟩
theorem o_X6_bodyOf : OS yX6_bodyOf cX6_bodyOf 5 (some .int) 2 := ⟨q_911, q_368, q_70, by decide, by decide, by decide +kernel⟩
theorem o_X6_parts : OV yX6_parts cX6_parts 3 (some .int) RX6 1 := ⟨q_422, q_767, q_368, q_72, rfl, by decide, by decide, by decide +kernel⟩
theorem o_X6_partsOfCurve : OV yX6_partsOfCurve cX6_partsOfCurve 4 (some .int) RX6 2 := ⟨q_423, q_768, q_368, q_73, rfl, by decide, by decide, by decide +kernel⟩
theorem o_X6_say : OV yX6_say cX6_say 7 (some .int) RX6 4 := ⟨q_424, q_769, q_368, q_74, rfl, by decide, by decide, by decide +kernel⟩
theorem o_X6_speak : OV yX6_speak cX6_speak 6 (some .int) RX6 5 := ⟨q_425, q_770, q_368, q_75, rfl, by decide, by decide, by decide +kernel⟩
theorem o_X7_as : OV yX7_as cX7_as 3 (some .int) RX7 2 := ⟨q_426, q_771, q_369, q_76, rfl, by decide, by decide, by decide +kernel⟩
theorem o_X7_become : OV yX7_become cX7_become 4 (some .int) RX7 2 := ⟨q_427, q_772, q_369, q_77, rfl, by decide, by decide, by decide +kernel⟩
theorem o_X7_bestLead : OV yX7_bestLead cX7_bestLead 7 (some .int) RX7 2 := ⟨q_428, q_773, q_369, q_78, rfl, by decide, by decide, by decide +kernel⟩
theorem o_X7_body : OV yX7_body cX7_body 2 (some .int) RX7 1 := ⟨q_429, q_774, q_369, q_79, rfl, by decide, by decide, by decide +kernel⟩
theorem o_X7_check : OV yX7_check cX7_check 3 (some .int) RX7 0 := ⟨q_430, q_775, q_369, q_80, rfl, by decide, by decide, by decide +kernel⟩
theorem o_X7_commonOf : OS yX7_commonOf cX7_commonOf 6 (some .int) 2 := ⟨q_912, q_369, q_81, by decide, by decide, by decide +kernel⟩
theorem o_X7_count : OV yX7_count cX7_count 2 (some .int) RX7 1 := ⟨q_431, q_776, q_369, q_82, rfl, by decide, by decide, by decide +kernel⟩
theorem o_X7_duel : OV yX7_duel cX7_duel 12 (some .int) RX7 4 := ⟨q_432, q_777, q_369, q_83, rfl, by decide, by decide, by decide +kernel⟩
theorem o_X7_error : OV yX7_error cX7_error 2 (some .int) RX7 1 := ⟨q_433, q_778, q_369, q_84, rfl, by decide, by decide, by decide +kernel⟩
theorem o_X7_feed : OV yX7_feed cX7_feed 5 (some .int) RX7 2 := ⟨q_434, q_779, q_369, q_85, rfl, by decide, by decide, by decide +kernel⟩
theorem o_X7_fits : OV yX7_fits cX7_fits 7 (some .int) RX7 3 := ⟨q_435, q_780, q_369, q_86, rfl, by decide, by decide, by decide +kernel⟩
theorem o_X7_fitsFrom : OV yX7_fitsFrom cX7_fitsFrom 7 (some .boolean) RX7 3 := ⟨q_436, q_781, q_369, q_87, rfl, by decide, by decide, by decide +kernel⟩
theorem o_X7_go : OV yX7_go cX7_go 4 (some .int) RX7 2 := ⟨q_437, q_782, q_369, q_88, rfl, by decide, by decide, by decide +kernel⟩
theorem o_X7_image : OV yX7_image cX7_image 1 (some .int) RX7 0 := ⟨q_438, q_783, q_369, q_89, rfl, by decide, by decide, by decide +kernel⟩
theorem o_X7_isDigit : OS yX7_isDigit cX7_isDigit 1 (some .boolean) 1 := ⟨q_913, q_369, q_91, by decide, by decide, by decide +kernel⟩
theorem o_X7_isFeet : OS yX7_isFeet cX7_isFeet 1 (some .boolean) 1 := ⟨q_914, q_369, q_92, by decide, by decide, by decide +kernel⟩
theorem o_X7_isKindAndM : OS yX7_isKindAndM cX7_isKindAndM 1 (some .boolean) 1 := ⟨q_915, q_369, q_93, by decide, by decide, by decide +kernel⟩
theorem o_X7_isPitch : OV yX7_isPitch cX7_isPitch 2 (some .boolean) RX7 1 := ⟨q_440, q_784, q_369, q_94, rfl, by decide, by decide, by decide +kernel⟩
theorem o_X7_isRunner : OV yX7_isRunner cX7_isRunner 2 (some .boolean) RX7 1 := ⟨q_441, q_785, q_369, q_95, rfl, by decide, by decide, by decide +kernel⟩
theorem o_X7_isSheet : OS yX7_isSheet cX7_isSheet 1 (some .boolean) 1 := ⟨q_916, q_369, q_96, by decide, by decide, by decide +kernel⟩
theorem o_X7_isUnder : OS yX7_isUnder cX7_isUnder 4 (some .boolean) 2 := ⟨q_917, q_369, q_97, by decide, by decide, by decide +kernel⟩
theorem o_X7_isUse : OS yX7_isUse cX7_isUse 1 (some .boolean) 1 := ⟨q_918, q_369, q_98, by decide, by decide, by decide +kernel⟩
theorem o_X7_judge : OV yX7_judge cX7_judge 4 (some .int) RX7 1 := ⟨q_442, q_786, q_369, q_99, rfl, by decide, by decide, by decide +kernel⟩
theorem o_X7_law : OV yX7_law cX7_law 5 (some .int) RX7 4 := ⟨q_443, q_787, q_369, q_100, rfl, by decide, by decide, by decide +kernel⟩
theorem o_X7_leadFor : OV yX7_leadFor cX7_leadFor 4 (some .int) RX7 2 := ⟨q_444, q_788, q_369, q_101, rfl, by decide, by decide, by decide +kernel⟩
theorem o_X7_leads : OV yX7_leads cX7_leads 4 (some .int) RX7 2 := ⟨q_445, q_789, q_369, q_102, rfl, by decide, by decide, by decide +kernel⟩
theorem o_X7_loose : OV yX7_loose cX7_loose 4 (some .int) RX7 1 := ⟨q_446, q_790, q_369, q_103, rfl, by decide, by decide, by decide +kernel⟩
theorem o_X7_margin : OV yX7_margin cX7_margin 4 (some .int) RX7 3 := ⟨q_447, q_791, q_369, q_104, rfl, by decide, by decide, by decide +kernel⟩
theorem o_X7_mostOfSetting : OS yX7_mostOfSetting cX7_mostOfSetting 1 (some .int) 1 := ⟨q_919, q_369, q_105, by decide, by decide, by decide +kernel⟩
theorem o_X7_move : OV yX7_move cX7_move 6 (some .int) RX7 5 := ⟨q_448, q_792, q_369, q_106, rfl, by decide, by decide, by decide +kernel⟩
theorem o_X7_odds : OV yX7_odds cX7_odds 4 (some .int) RX7 2 := ⟨q_449, q_793, q_369, q_107, rfl, by decide, by decide, by decide +kernel⟩
theorem o_X7_over : OV yX7_over cX7_over 2 (some .int) RX7 1 := ⟨q_450, q_794, q_369, q_108, rfl, by decide, by decide, by decide +kernel⟩
theorem o_X7_partOf : OS yX7_partOf cX7_partOf 4 (some .int) 3 := ⟨q_920, q_369, q_109, by decide, by decide, by decide +kernel⟩
theorem o_X7_pitch : OV yX7_pitch cX7_pitch 3 (some .int) RX7 2 := ⟨q_451, q_795, q_369, q_110, rfl, by decide, by decide, by decide +kernel⟩
theorem o_X7_pitchIs : OV yX7_pitchIs cX7_pitchIs 3 (some .int) RX7 2 := ⟨q_452, q_796, q_369, q_111, rfl, by decide, by decide, by decide +kernel⟩
theorem o_X7_put : OV yX7_put cX7_put 4 (some .int) RX7 3 := ⟨q_453, q_797, q_369, q_112, rfl, by decide, by decide, by decide +kernel⟩
theorem o_X7_restore : OV yX7_restore cX7_restore 1 (some .int) RX7 0 := ⟨q_454, q_798, q_369, q_113, rfl, by decide, by decide, by decide +kernel⟩
theorem o_X7_runner : OV yX7_runner cX7_runner 3 (some .int) RX7 2 := ⟨q_455, q_799, q_369, q_114, rfl, by decide, by decide, by decide +kernel⟩
theorem o_X7_runnerIs : OV yX7_runnerIs cX7_runnerIs 4 (some .int) RX7 2 := ⟨q_456, q_800, q_369, q_115, rfl, by decide, by decide, by decide +kernel⟩
theorem o_X7_seed : OV yX7_seed cX7_seed 3 (some .int) RX7 1 := ⟨q_457, q_801, q_369, q_116, rfl, by decide, by decide, by decide +kernel⟩
theorem o_X7_set : OV yX7_set cX7_set 3 (some .int) RX7 2 := ⟨q_458, q_802, q_369, q_117, rfl, by decide, by decide, by decide +kernel⟩
theorem o_X7_sheet : OV yX7_sheet cX7_sheet 4 (some .int) RX7 3 := ⟨q_459, q_803, q_369, q_118, rfl, by decide, by decide, by decide +kernel⟩
theorem o_X7_steal : OV yX7_steal cX7_steal 3 (some .int) RX7 2 := ⟨q_460, q_804, q_369, q_119, rfl, by decide, by decide, by decide +kernel⟩
theorem o_X7_surely : OV yX7_surely cX7_surely 4 (some .int) RX7 2 := ⟨q_461, q_805, q_369, q_120, rfl, by decide, by decide, by decide +kernel⟩
theorem o_X7_tell : OV yX7_tell cX7_tell 2 (some .int) RX7 1 := ⟨q_462, q_806, q_369, q_121, rfl, by decide, by decide, by decide +kernel⟩
theorem o_X7_text : OV yX7_text cX7_text 3 (some .int) RX7 1 := ⟨q_463, q_807, q_369, q_122, rfl, by decide, by decide, by decide +kernel⟩
theorem o_X7_told : OV yX7_told cX7_told 2 (some .int) RX7 1 := ⟨q_464, q_808, q_369, q_123, rfl, by decide, by decide, by decide +kernel⟩
theorem o_X7_untell : OV yX7_untell cX7_untell 4 (some .int) RX7 1 := ⟨q_465, q_809, q_369, q_124, rfl, by decide, by decide, by decide +kernel⟩
theorem o_X7_voice : OV yX7_voice cX7_voice 5 (some .int) RX7 3 := ⟨q_466, q_810, q_369, q_125, rfl, by decide, by decide, by decide +kernel⟩
theorem o_X7_weighs : OV yX7_weighs cX7_weighs 4 (some .int) RX7 2 := ⟨q_467, q_811, q_369, q_126, rfl, by decide, by decide, by decide +kernel⟩
theorem o_X7_weightsBy : OV yX7_weightsBy cX7_weightsBy 5 (some .int) RX7 1 := ⟨q_468, q_812, q_369, q_127, rfl, by decide, by decide, by decide +kernel⟩
theorem o_X7_within : OS yX7_within cX7_within 3 (some .boolean) 3 := ⟨q_921, q_369, q_128, by decide, by decide, by decide +kernel⟩
theorem o_X8_about : OV yX8_about cX8_about 3 (some .int) RX8 2 := ⟨q_469, q_813, q_370, q_129, rfl, by decide, by decide, by decide +kernel⟩
theorem o_X8_airOf : OV yX8_airOf cX8_airOf 2 (some .int) RX8 1 := ⟨q_470, q_814, q_370, q_130, rfl, by decide, by decide, by decide +kernel⟩
theorem o_X8_all : OV yX8_all cX8_all 1 none RX8 0 := ⟨q_471, q_815, q_370, q_131, rfl, by decide, by decide, by decide +kernel⟩
theorem o_X8_any : OV yX8_any cX8_any 1 none RX8 0 := ⟨q_472, q_816, q_370, q_132, rfl, by decide, by decide, by decide +kernel⟩
theorem o_X8_as : OV yX8_as cX8_as 5 (some .int) RX8 2 := ⟨q_473, q_817, q_370, q_133, rfl, by decide, by decide, by decide +kernel⟩
theorem o_X8_become : OV yX8_become cX8_become 3 (some .int) RX8 2 := ⟨q_474, q_818, q_370, q_134, rfl, by decide, by decide, by decide +kernel⟩
theorem o_X8_becomes : OV yX8_becomes cX8_becomes 4 (some .int) RX8 2 := ⟨q_475, q_819, q_370, q_135, rfl, by decide, by decide, by decide +kernel⟩
theorem o_X8_begins : OV yX8_begins cX8_begins 2 none RX8 1 := ⟨q_476, q_820, q_370, q_136, rfl, by decide, by decide, by decide +kernel⟩
theorem o_X8_bestLead : OV yX8_bestLead cX8_bestLead 8 (some .int) RX8 2 := ⟨q_477, q_821, q_370, q_137, rfl, by decide, by decide, by decide +kernel⟩
theorem o_X8_body : OV yX8_body cX8_body 2 (some .int) RX8 1 := ⟨q_478, q_822, q_370, q_138, rfl, by decide, by decide, by decide +kernel⟩
theorem o_X8_check : OV yX8_check cX8_check 3 (some .int) RX8 0 := ⟨q_479, q_823, q_370, q_139, rfl, by decide, by decide, by decide +kernel⟩
theorem o_X8_compares : OV yX8_compares cX8_compares 2 none RX8 0 := ⟨q_480, q_824, q_370, q_140, rfl, by decide, by decide, by decide +kernel⟩
theorem o_X8_copyAll : OS yX8_copyAll cX8_copyAll 3 none 2 := ⟨q_922, q_370, q_141, by decide, by decide, by decide +kernel⟩
theorem o_X8_costsOf : OV yX8_costsOf cX8_costsOf 2 (some .int) RX8 1 := ⟨q_481, q_825, q_370, q_142, rfl, by decide, by decide, by decide +kernel⟩
theorem o_X8_count : OV yX8_count cX8_count 2 (some .int) RX8 1 := ⟨q_482, q_826, q_370, q_143, rfl, by decide, by decide, by decide +kernel⟩
theorem o_X8_curveHisses : OV yX8_curveHisses cX8_curveHisses 3 (some .int) RX8 2 := ⟨q_483, q_827, q_370, q_144, rfl, by decide, by decide, by decide +kernel⟩
theorem o_X8_draw : OV yX8_draw cX8_draw 1 (some .int) RX8 0 := ⟨q_484, q_828, q_370, q_145, rfl, by decide, by decide, by decide +kernel⟩
theorem o_X8_drawn : OV yX8_drawn cX8_drawn 6 (some .boolean) RX8 0 := ⟨q_485, q_829, q_370, q_146, rfl, by decide, by decide, by decide +kernel⟩
theorem o_X8_drops : OV yX8_drops cX8_drops 3 (some .int) RX8 2 := ⟨q_486, q_830, q_370, q_147, rfl, by decide, by decide, by decide +kernel⟩
theorem o_X8_duel : OV yX8_duel cX8_duel 11 (some .int) RX8 4 := ⟨q_487, q_831, q_370, q_148, rfl, by decide, by decide, by decide +kernel⟩
theorem o_X8_error : OV yX8_error cX8_error 2 (some .int) RX8 1 := ⟨q_488, q_832, q_370, q_149, rfl, by decide, by decide, by decide +kernel⟩
theorem o_X8_feed : OV yX8_feed cX8_feed 5 (some .int) RX8 2 := ⟨q_489, q_833, q_370, q_150, rfl, by decide, by decide, by decide +kernel⟩
theorem o_X8_fits : OV yX8_fits cX8_fits 8 (some .int) RX8 3 := ⟨q_490, q_834, q_370, q_151, rfl, by decide, by decide, by decide +kernel⟩
theorem o_X8_gainOf : OV yX8_gainOf cX8_gainOf 5 (some .int) RX8 3 := ⟨q_491, q_835, q_370, q_152, rfl, by decide, by decide, by decide +kernel⟩
theorem o_X8_gainsFrom : OV yX8_gainsFrom cX8_gainsFrom 5 (some .int) RX8 2 := ⟨q_492, q_836, q_370, q_153, rfl, by decide, by decide, by decide +kernel⟩
theorem o_X8_gives : OV yX8_gives cX8_gives 7 (some .int) RX8 4 := ⟨q_493, q_837, q_370, q_154, rfl, by decide, by decide, by decide +kernel⟩
theorem o_X8_go : OV yX8_go cX8_go 4 (some .int) RX8 2 := ⟨q_494, q_838, q_370, q_155, rfl, by decide, by decide, by decide +kernel⟩
theorem o_X8_goes : OV yX8_goes cX8_goes 5 (some .boolean) RX8 2 := ⟨q_495, q_839, q_370, q_156, rfl, by decide, by decide, by decide +kernel⟩
theorem o_X8_greater : OS yX8_greater cX8_greater 2 (some .int) 2 := ⟨q_923, q_370, q_157, by decide, by decide, by decide +kernel⟩
theorem o_X8_hardDrops : OV yX8_hardDrops cX8_hardDrops 3 (some .int) RX8 2 := ⟨q_496, q_840, q_370, q_158, rfl, by decide, by decide, by decide +kernel⟩
theorem o_X8_held : OS yX8_held cX8_held 3 (some .int) 3 := ⟨q_924, q_370, q_159, by decide, by decide, by decide +kernel⟩
theorem o_X8_hisses : OV yX8_hisses cX8_hisses 3 (some .int) RX8 2 := ⟨q_497, q_841, q_370, q_160, rfl, by decide, by decide, by decide +kernel⟩
theorem o_X8_image : OV yX8_image cX8_image 1 (some .int) RX8 0 := ⟨q_498, q_842, q_370, q_161, rfl, by decide, by decide, by decide +kernel⟩
theorem o_X8_in : OS yX8_in cX8_in 3 (some .boolean) 3 := ⟨q_925, q_370, q_162, by decide, by decide, by decide +kernel⟩
theorem o_X8_isKm : OS yX8_isKm cX8_isKm 1 (some .boolean) 1 := ⟨q_926, q_370, q_164, by decide, by decide, by decide +kernel⟩
theorem o_X8_isLead : OS yX8_isLead cX8_isLead 1 (some .boolean) 1 := ⟨q_927, q_370, q_165, by decide, by decide, by decide +kernel⟩
theorem o_X8_isOut : OV yX8_isOut cX8_isOut 2 none RX8 1 := ⟨q_500, q_843, q_370, q_166, rfl, by decide, by decide, by decide +kernel⟩
theorem o_X8_isPickedAt : OV yX8_isPickedAt cX8_isPickedAt 3 (some .boolean) RX8 2 := ⟨q_501, q_844, q_370, q_167, rfl, by decide, by decide, by decide +kernel⟩
theorem o_X8_isPitch : OV yX8_isPitch cX8_isPitch 2 (some .boolean) RX8 1 := ⟨q_502, q_845, q_370, q_168, rfl, by decide, by decide, by decide +kernel⟩
theorem o_X8_isRunner : OV yX8_isRunner cX8_isRunner 2 (some .boolean) RX8 1 := ⟨q_503, q_846, q_370, q_169, rfl, by decide, by decide, by decide +kernel⟩
theorem o_X8_isSafe : OV yX8_isSafe cX8_isSafe 4 (some .boolean) RX8 3 := ⟨q_504, q_847, q_370, q_170, rfl, by decide, by decide, by decide +kernel⟩
theorem o_X8_isSheet : OS yX8_isSheet cX8_isSheet 1 (some .boolean) 1 := ⟨q_928, q_370, q_171, by decide, by decide, by decide +kernel⟩
theorem o_X8_isSo : OV yX8_isSo cX8_isSo 6 (some .boolean) RX8 3 := ⟨q_505, q_848, q_370, q_172, rfl, by decide, by decide, by decide +kernel⟩
theorem o_X8_judge : OV yX8_judge cX8_judge 4 (some .int) RX8 1 := ⟨q_506, q_849, q_370, q_173, rfl, by decide, by decide, by decide +kernel⟩
theorem o_X8_law : OV yX8_law cX8_law 5 (some .int) RX8 4 := ⟨q_507, q_850, q_370, q_174, rfl, by decide, by decide, by decide +kernel⟩
theorem o_X8_lays : OV yX8_lays cX8_lays 3 none RX8 2 := ⟨q_508, q_851, q_370, q_175, rfl, by decide, by decide, by decide +kernel⟩
theorem o_X8_leadFor : OV yX8_leadFor cX8_leadFor 4 (some .int) RX8 2 := ⟨q_509, q_852, q_370, q_176, rfl, by decide, by decide, by decide +kernel⟩
theorem o_X8_leads : OV yX8_leads cX8_leads 3 (some .int) RX8 2 := ⟨q_510, q_853, q_370, q_177, rfl, by decide, by decide, by decide +kernel⟩
theorem o_X8_lesser : OS yX8_lesser cX8_lesser 2 (some .int) 2 := ⟨q_929, q_370, q_178, by decide, by decide, by decide +kernel⟩
theorem o_X8_lets : OV yX8_lets cX8_lets 4 none RX8 3 := ⟨q_511, q_854, q_370, q_179, rfl, by decide, by decide, by decide +kernel⟩
theorem o_X8_look : OV yX8_look cX8_look 1 (some .int) RX8 0 := ⟨q_512, q_855, q_370, q_180, rfl, by decide, by decide, by decide +kernel⟩
theorem o_X8_loose : OV yX8_loose cX8_loose 4 (some .int) RX8 1 := ⟨q_513, q_856, q_370, q_181, rfl, by decide, by decide, by decide +kernel⟩
theorem o_X8_margin : OV yX8_margin cX8_margin 4 (some .int) RX8 3 := ⟨q_514, q_857, q_370, q_182, rfl, by decide, by decide, by decide +kernel⟩
theorem o_X8_marginOf : OV yX8_marginOf cX8_marginOf 4 (some .int) RX8 3 := ⟨q_515, q_858, q_370, q_183, rfl, by decide, by decide, by decide +kernel⟩
theorem o_X8_more : OV yX8_more cX8_more 2 none RX8 1 := ⟨q_516, q_859, q_370, q_184, rfl, by decide, by decide, by decide +kernel⟩
theorem o_X8_move : OV yX8_move cX8_move 9 (some .int) RX8 5 := ⟨q_517, q_860, q_370, q_185, rfl, by decide, by decide, by decide +kernel⟩
theorem o_X8_nameOf : OV yX8_nameOf cX8_nameOf 2 (some .int) RX8 1 := ⟨q_518, q_861, q_370, q_186, rfl, by decide, by decide, by decide +kernel⟩
theorem o_X8_notMoved : OV yX8_notMoved cX8_notMoved 7 (some .int) RX8 5 := ⟨q_519, q_862, q_370, q_187, rfl, by decide, by decide, by decide +kernel⟩
theorem o_X8_notThere : OV yX8_notThere cX8_notThere 2 (some .int) RX8 1 := ⟨q_520, q_863, q_370, q_188, rfl, by decide, by decide, by decide +kernel⟩
theorem o_X8_number : OV yX8_number cX8_number 3 none RX8 0 := ⟨q_521, q_864, q_370, q_189, rfl, by decide, by decide, by decide +kernel⟩
theorem o_X8_odds : OV yX8_odds cX8_odds 6 (some .int) RX8 2 := ⟨q_522, q_865, q_370, q_190, rfl, by decide, by decide, by decide +kernel⟩
theorem o_X8_of : OV yX8_of cX8_of 3 (some .int) RX8 2 := ⟨q_523, q_866, q_370, q_191, rfl, by decide, by decide, by decide +kernel⟩
theorem o_X8_one : OV yX8_one cX8_one 3 none RX8 0 := ⟨q_524, q_867, q_370, q_192, rfl, by decide, by decide, by decide +kernel⟩
theorem o_X8_opens : OV yX8_opens cX8_opens 2 none RX8 1 := ⟨q_525, q_868, q_370, q_193, rfl, by decide, by decide, by decide +kernel⟩
theorem o_X8_over : OV yX8_over cX8_over 3 (some .int) RX8 1 := ⟨q_526, q_869, q_370, q_194, rfl, by decide, by decide, by decide +kernel⟩
theorem o_X8_partOf : OS yX8_partOf cX8_partOf 6 (some .int) 3 := ⟨q_930, q_370, q_195, by decide, by decide, by decide +kernel⟩
theorem o_X8_partsBy : OV yX8_partsBy cX8_partsBy 4 (some .int) RX8 2 := ⟨q_527, q_870, q_370, q_196, rfl, by decide, by decide, by decide +kernel⟩
theorem o_X8_pitch : OV yX8_pitch cX8_pitch 4 (some .int) RX8 2 := ⟨q_528, q_871, q_370, q_197, rfl, by decide, by decide, by decide +kernel⟩
theorem o_X8_pitchIs : OV yX8_pitchIs cX8_pitchIs 3 (some .int) RX8 2 := ⟨q_529, q_872, q_370, q_198, rfl, by decide, by decide, by decide +kernel⟩
theorem o_X8_plainAir : OV yX8_plainAir cX8_plainAir 4 (some .int) RX8 1 := ⟨q_530, q_873, q_370, q_199, rfl, by decide, by decide, by decide +kernel⟩
theorem o_X8_plainDrops : OV yX8_plainDrops cX8_plainDrops 3 (some .int) RX8 2 := ⟨q_531, q_874, q_370, q_200, rfl, by decide, by decide, by decide +kernel⟩
theorem o_X8_plainHisses : OV yX8_plainHisses cX8_plainHisses 3 (some .int) RX8 2 := ⟨q_532, q_875, q_370, q_201, rfl, by decide, by decide, by decide +kernel⟩
theorem o_X8_plainParts : OV yX8_plainParts cX8_plainParts 4 (some .int) RX8 2 := ⟨q_533, q_876, q_370, q_202, rfl, by decide, by decide, by decide +kernel⟩
theorem o_X8_plainThuds : OV yX8_plainThuds cX8_plainThuds 3 (some .int) RX8 2 := ⟨q_534, q_877, q_370, q_203, rfl, by decide, by decide, by decide +kernel⟩
theorem o_X8_put : OV yX8_put cX8_put 5 (some .int) RX8 3 := ⟨q_535, q_878, q_370, q_204, rfl, by decide, by decide, by decide +kernel⟩
theorem o_X8_restore : OV yX8_restore cX8_restore 1 (some .int) RX8 0 := ⟨q_536, q_879, q_370, q_205, rfl, by decide, by decide, by decide +kernel⟩
theorem o_X8_runFrom : OV yX8_runFrom cX8_runFrom 3 (some .int) RX8 2 := ⟨q_537, q_880, q_370, q_206, rfl, by decide, by decide, by decide +kernel⟩
theorem o_X8_runner : OV yX8_runner cX8_runner 4 (some .int) RX8 2 := ⟨q_538, q_881, q_370, q_207, rfl, by decide, by decide, by decide +kernel⟩
theorem o_X8_runnerIs : OV yX8_runnerIs cX8_runnerIs 4 (some .int) RX8 2 := ⟨q_539, q_882, q_370, q_208, rfl, by decide, by decide, by decide +kernel⟩
theorem o_X8_seed : OV yX8_seed cX8_seed 2 (some .int) RX8 1 := ⟨q_540, q_883, q_370, q_209, rfl, by decide, by decide, by decide +kernel⟩
theorem o_X8_set : OV yX8_set cX8_set 4 (some .int) RX8 2 := ⟨q_541, q_884, q_370, q_210, rfl, by decide, by decide, by decide +kernel⟩
theorem o_X8_sheet : OV yX8_sheet cX8_sheet 5 (some .int) RX8 3 := ⟨q_542, q_885, q_370, q_211, rfl, by decide, by decide, by decide +kernel⟩
theorem o_X8_steal : OV yX8_steal cX8_steal 3 (some .int) RX8 2 := ⟨q_543, q_886, q_370, q_212, rfl, by decide, by decide, by decide +kernel⟩
theorem o_X8_sum : OV yX8_sum cX8_sum 2 none RX8 0 := ⟨q_544, q_887, q_370, q_213, rfl, by decide, by decide, by decide +kernel⟩
theorem o_X8_surely : OV yX8_surely cX8_surely 7 (some .int) RX8 2 := ⟨q_545, q_888, q_370, q_214, rfl, by decide, by decide, by decide +kernel⟩
theorem o_X8_tell : OV yX8_tell cX8_tell 2 (some .int) RX8 1 := ⟨q_546, q_889, q_370, q_215, rfl, by decide, by decide, by decide +kernel⟩
theorem o_X8_text : OV yX8_text cX8_text 4 (some .int) RX8 1 := ⟨q_547, q_890, q_370, q_216, rfl, by decide, by decide, by decide +kernel⟩
theorem o_X8_thuds : OV yX8_thuds cX8_thuds 3 (some .int) RX8 2 := ⟨q_548, q_891, q_370, q_217, rfl, by decide, by decide, by decide +kernel⟩
theorem o_X8_times : OV yX8_times cX8_times 2 none RX8 0 := ⟨q_549, q_892, q_370, q_218, rfl, by decide, by decide, by decide +kernel⟩
theorem o_X8_told : OV yX8_told cX8_told 2 (some .int) RX8 1 := ⟨q_550, q_893, q_370, q_219, rfl, by decide, by decide, by decide +kernel⟩
theorem o_X8_twoOf : OS yX8_twoOf cX8_twoOf 3 (some .int) 3 := ⟨q_931, q_370, q_220, by decide, by decide, by decide +kernel⟩
theorem o_X8_untell : OV yX8_untell cX8_untell 2 (some .int) RX8 1 := ⟨q_551, q_894, q_370, q_221, rfl, by decide, by decide, by decide +kernel⟩
theorem o_X8_voice : OV yX8_voice cX8_voice 5 (some .int) RX8 3 := ⟨q_552, q_895, q_370, q_222, rfl, by decide, by decide, by decide +kernel⟩
theorem o_X8_weighs : OV yX8_weighs cX8_weighs 3 (some .int) RX8 2 := ⟨q_553, q_896, q_370, q_223, rfl, by decide, by decide, by decide +kernel⟩
theorem o_X8_weights : OV yX8_weights cX8_weights 3 (some .int) RX8 0 := ⟨q_554, q_897, q_370, q_224, rfl, by decide, by decide, by decide +kernel⟩
theorem o_X8_weightsBy : OV yX8_weightsBy cX8_weightsBy 4 (some .int) RX8 1 := ⟨q_555, q_898, q_370, q_225, rfl, by decide, by decide, by decide +kernel⟩
theorem o_X8_works : OV yX8_works cX8_works 5 (some .int) RX8 1 := ⟨q_556, q_899, q_370, q_226, rfl, by decide, by decide, by decide +kernel⟩
theorem hR_of {d d' mL : Nat} (h : d + 1 ≤ d') (hm : mL ≤ 29) : (rmd d).frames + 1 ≤ (rmd d').frames ∧ 8 + (mL + 11) + (rmd d).locals ≤ (rmd d').locals := by
  refine ⟨h, ?_⟩
  show 8 + (mL + 11) + 48 * d ≤ 48 * d'
  omega
theorem hR_one {d : Nat} (h : 1 ≤ d) : 1 ≤ (rmd d).frames := h
theorem hR_lo {d k : Nat} (h : 1 ≤ d) (hk : k ≤ 20) : k + 13 ≤ (rmd d).locals := by
  show k + 13 ≤ 48 * d
  omega
abbrev QT_ (below : List Frame) (D : va_G) (cI cB : ClassId) (ad st : Nat → Nat) (Z : Int32 × Mem) (args : Array Value) (s : State) : State → Prop := MQ below (va_Qi (fun (r : Int32) (_ : Unit) => r = Z.1) (fun _ t => WP D cI cB ad st Z.2 t) (AA ad)) args s 0 0 (AA ad)
abbrev QV_ (below : List Frame) (D : va_G) (cI cB : ClassId) (ad st : Nat → Nat) (Z : Int32 × Mem) (args : Array Value) (s : State) : State → Prop := MQ below (va_Qv (fun (_ : Unit) => True) (fun _ t => WP D cI cB ad st Z.2 t) (AA ad)) args s 0 0 (AA ad)
theorem lk_def {ps : List (Int × Int)} {df k : Int} (h : ps.all (fun q => q.1 != k) = true) : Op.lookupswitch.offset ps df k = df := by
  refine lookupswitch.offset_none ?_
  rw [List.find?_eq_none]
  intro q hq
  have := List.all_eq_true.mp h q hq
  simpa using this
theorem g_tabDef {p : Program} {l : Launch} {e : Env} {R : Room} {s : State} {m : MethodId} {args : Array Value} {below : List Frame} {meth : Method} {c : Code} {H : Heap} {locs : List Loc} {cells slots : Nat} {Q : State → Prop} {cc : ByteArray} {pc nL : Nat} {own : String} {ls : Array Slot} {rest : List Value} {D : va_G} {cI cB : ClassId} {ad st : Nat → Nat} {A : Nat → Prop} (E : En p R s m args c cc nL own D cI cB ad st A cells slots)
    {dflt lo hi : Int} {offs : Array Int} {len : Nat} {x : Int32} {tgt : Nat} (d : decode cc pc = .ok (.tableswitch dflt lo hi offs, len)) (h : (x.toInt < lo ∨ hi < x.toInt) ∨ offs[(x.toInt - lo).toNat]? = some dflt) (ht : (pc : Int) + dflt = (tgt : Int))
    (k : W p l e R s m args below meth c H locs cells slots Q (F0 m tgt ls rest)) : W p l e R s m args below meth c H locs cells slots Q (F0 m pc ls (.int x :: rest)) := by
  by_cases h1 : x.toInt < lo ∨ hi < x.toInt
  · exact lv_tableOut E.1.1 E.1.2.1 d h1 ht k
  · rcases h with h | h
    · exact absurd h h1
    · exact lv_tableIn E.1.1 E.1.2.1 d (fun q => h1 (Or.inl q)) (fun q => h1 (Or.inr q)) h ht k
/-- textOf: which of the two texts -/
def tof (a : Int32) : Nat := if a = 0 then 13 else 16
set_option maxHeartbeats 4000000 in
set_option maxRecDepth 100000 in
theorem m_textOf {l : Launch} {σ : Mem} {a0 : Int32} (D : va_G) (cI cB : ClassId) (ad st : Nat → Nat) (hI : Inj ad) : Met l yX3_textOf (.code yX3_textOf cX3_textOf 2 (some (.object "OffForSecond$Text")) :: ALL) (rmd 0) (va_Pc [.ref (ad 1), .int a0] (fun U => WP D cI cB ad st σ U)) (va_Qr (fun (_ : Unit) => True) (fun _ a t => a = ad (tof a0) ∧ WP D cI cB ad st σ t) (AA ad)) 0 0 (AA ad) := by
  refine Met.ofW (cc := cX3_textOf) (maxL := 2) (ret := some (.object "OffForSecond$Text")) (by decide) rfl ?_
  intro p e s m args below meth c s₁ B hml hv
  obtain ⟨rfl, hP, hK, hS⟩ := hv
  have hts := atoms_spec (ws := .code yX3_textOf cX3_textOf 2 (some (.object "OffForSecond$Text")) :: ALL) B.pre
  have ho : s.vm.findClass RX3 = some m.cls := findClass_of_methodNamed B.named
  have hl := lv_entry ([.ref (ad 1), .int a0]) (n := 2) (Nat.le_of_ble_eq_true rfl)
  rw [lg_entry_eq]
  have E : En p (rmd 0) s m ([.ref (ad 1), .int a0] : List Value).toArray c cX3_textOf 2 RX3 D cI cB ad st (AA ad) 0 0 := ⟨⟨B.exec, B.bytes, hml, ho, fun w hw => hts w (List.mem_cons_of_mem _ hw)⟩, hK, hS, hI, fun k hk => ⟨k, hk, rfl⟩, Nat.le_refl 0, Nat.le_refl 0⟩
  have Y : Wo D cI cB ad (AA ad) σ s s.heap [] := ⟨hP, va_S.rf⟩
  have hr := B.returns
  have hk := B.notSynchronized
  have hx := E.1.1
  have hb := E.1.2.1
  generalize (lg_sl ([.ref (ad 1), .int a0]) ++ List.replicate (2 - (lg_sl ([.ref (ad 1), .int a0])).length) Slot.unset).toArray = ls at hl ⊢
  have hl : lv_has ls 2 [(0, .ref (ad 1)), (1, .int a0)] := hl
  refine lv_iload_n hx hb dX3_textOf_0 rfl (lv_at hl 1 rfl) ?_
  refine lv_if_ne (tgt := 11) hx hb dX3_textOf_1 (by decide) (fun hc => ?_) (fun hc => ?_)
  · refine lv_aload_n (pc := 11) hx hb dX3_textOf_11 rfl (lv_at hl 0 rfl) ?_
    refine g_getr (pc := 12) E Y 1 3 16 S_1 rfl V_3 (by decide) AL_X3 q_274 dX3_textOf_12 ?_
    have e : ad 16 = ad (tof a0) := by rw [tof, if_neg hc]
    exact W.aret (v := .ref (ad 16)) hx hb hr (Or.inl ⟨_, rfl⟩) (Or.inr ⟨_, rfl⟩) (fun t ht hW => ⟨⟨(), ad 16, rfl, trivial, e, WP_of E Y ht hW⟩, Y.2.F ht⟩) Y.2.2.2 dX3_textOf_15 hk
  · refine lv_aload_n (pc := 4) hx hb dX3_textOf_4 rfl (lv_at hl 0 rfl) ?_
    refine g_getr (pc := 5) E Y 1 2 13 S_1 rfl V_3 (by decide) AL_X3 q_273 dX3_textOf_5 ?_
    refine lv_goto (pc := 8) (tgt := 15) hx hb dX3_textOf_8 (by decide) ?_
    have e : ad 13 = ad (tof a0) := by rw [tof, if_pos hc]
    exact W.aret (v := .ref (ad 13)) hx hb hr (Or.inl ⟨_, rfl⟩) (Or.inr ⟨_, rfl⟩) (fun t ht hW => ⟨⟨(), ad 13, rfl, trivial, e, WP_of E Y ht hW⟩, Y.2.F ht⟩) Y.2.2.2 dX3_textOf_15 hk
theorem o_X3_textOf : OV yX3_textOf cX3_textOf 2 (some (.object "OffForSecond$Text")) RX3 1 := ⟨q_407, q_755, q_365, q_54, rfl, by decide, by decide, by decide +kernel⟩
theorem g_callTextOf {p : Program} {l : Launch} {e : Env} {R : Room} {s : State} {m : MethodId} {args : Array Value} {below : List Frame} {meth : Method} {c : Code} {H : Heap} {locs : List Loc} {cells slots : Nat} {Q : State → Prop} {cc : ByteArray} {pc nL : Nat} {own : String} {ls : Array Slot} {rest : List Value} {D : va_G} {cI cB : ClassId} {ad st : Nat → Nat} {A : Nat → Prop} {σ : Mem} {Z : Int32 × Mem} (E : En p R s m args c cc nL own D cI cB ad st A cells slots) (Y : Wo D cI cB ad A σ s H locs)
    {idx : Nat} (hl : Cond.methodLink own idx yX3_textOf ∈ ALL) (hR : (rmd 0).frames + 1 ≤ R.frames ∧ 8 + (2 + 11) + (rmd 0).locals ≤ R.locals) (hz : ls.size = nL) (hW : (rest.map fun v => v.category).sum ≤ 8) (dc : decode cc pc = .ok (.invokevirtual idx, 3)) {x : Int32} {A1 B1 : Res} (hf : (if x = 0 then A1 else B1) = some Z)
    (kt : A1 = some Z → ∀ (H1 : Heap) (locs1 : List Loc), Wo D cI cB ad A σ s H1 locs1 → W p l e R s m args below meth c H1 locs1 cells slots Q (F0 m (pc + 3) ls (.ref (ad 13) :: rest)))
    (kf : B1 = some Z → ∀ (H1 : Heap) (locs1 : List Loc), Wo D cI cB ad A σ s H1 locs1 → W p l e R s m args below meth c H1 locs1 cells slots Q (F0 m (pc + 3) ls (.ref (ad 16) :: rest))) : W p l e R s m args below meth c H locs cells slots Q (F0 m pc ls (.int x :: .ref (ad 1) :: rest)) := by
  have hM := m_textOf (l := l) (σ := σ) (a0 := x) D cI cB ad st E.2.2.2.1
  have hbl : FrameBlind (va_Pc [.ref (ad 1), .int x] (fun U => WP D cI cB ad st σ U)) := fun a U g mk q => ⟨q.1, WP.blind q.2⟩
  have hAA : ∀ q, AA ad q → A q := fun q h => by
    obtain ⟨k', h1', h2'⟩ := h
    rw [h2']
    exact E.2.2.2.2.1 k' h1'
  refine va_callr (A1 := AA ad) (free := AA ad) (a := (Value.ref (ad 1) :: [.int x]).toArray) (va_runV (As := [.int x]) (rest := rest) E.1 hM (cwV 1 E.1.2.2.2.2 (OV_good o_X3_textOf hl) rfl rfl rfl o_X3_textOf.2.2.2.2 hR) ⟨hbl, va_recv E.2.1 Y.1 V_3 (Wd_obj S_1), fun U hU hW => ⟨rfl, WP_of E Y hU hW⟩⟩ rfl rfl hz rfl (lv_room hW) dc ⟨E.2.2.2.2.2.1, E.2.2.2.2.2.2⟩) Y.2 (fun q _ h => hAA q h) hAA (fun u ra t H1 locs1 ht hvm hw hB hz1 hk1 hS => ?_)
  rw [hB.1]
  have Y1 : Wo D cI cB ad A σ s H1 locs1 := ⟨by rw [← ht]; exact hB.2.1, hS⟩
  by_cases hc : x = 0
  · rw [if_pos hc] at hf
    rw [tof, if_pos hc]
    exact kt hf H1 locs1 Y1
  · rw [if_neg hc] at hf
    rw [tof, if_neg hc]
    exact kf hf H1 locs1 Y1
