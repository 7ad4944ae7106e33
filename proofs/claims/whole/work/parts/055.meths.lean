theorem m_X_forget : Zm true y_X_forget prog_1_method_28_code 2 (some .int) 0 (rl 0) := ⟨tw_510, tw_1, (fun _ => ⟨tw_508, tw_509⟩), (fun h => by cases h), by decide +kernel, rfl, rfl⟩
theorem m_X_outside : Zm false y_X_outside prog_1_method_43_code 2 (some .boolean) 2 (rl 0) := ⟨tw_253, tw_1, (fun h => by cases h), (fun _ => tw_252), by decide +kernel, rfl, rfl⟩
theorem m_X_mix : Zm false y_X_mix prog_1_method_44_code 4 (some .long) 2 (rl 0) := ⟨tw_630, tw_1, (fun h => by cases h), (fun _ => tw_629), by decide +kernel, rfl, rfl⟩
theorem m_X_found : Zm true y_X_found prog_1_method_47_code 2 (some .int) 1 (rl 0) := ⟨tw_352, tw_1, (fun _ => ⟨tw_351, ts_3⟩), (fun h => by cases h), by decide +kernel, rfl, rfl⟩
theorem m_X_changed : Zm true y_X_changed prog_1_method_49_code 1 none 0 (rl 0) := ⟨tw_296, tw_1, (fun _ => ⟨tw_295, ts_2⟩), (fun h => by cases h), by decide +kernel, rfl, rfl⟩
theorem m_X_allBytes : Zm true y_X_allBytes prog_1_method_51_code 3 (some .int) 0 (rl 0) := ⟨tw_621, tw_1, (fun _ => ⟨tw_620, ts_22⟩), (fun h => by cases h), by decide +kernel, rfl, rfl⟩
theorem m_X_allEvents : Zm true y_X_allEvents prog_1_method_53_code 1 (some .int) 0 (rl 0) := ⟨tw_365, tw_1, (fun _ => ⟨tw_364, ts_5⟩), (fun h => by cases h), by decide +kernel, rfl, rfl⟩
theorem m_X_sameDrift : Zm true y_X_sameDrift prog_1_method_60_code 7 (some .boolean) 3 (rl 0) := ⟨tw_543, tw_1, (fun _ => ⟨tw_542, ts_19⟩), (fun h => by cases h), by decide +kernel, rfl, rfl⟩
theorem m_X_power : Zm false y_X_power prog_1_method_62_code 5 (some .long) 2 (rl 0) := ⟨tw_559, tw_1, (fun h => by cases h), (fun _ => tw_558), by decide +kernel, rfl, rfl⟩
theorem m_R_in : Zm false y_R_in prog_8_method_3_code 6 (some .boolean) 3 (rl 0) := ⟨tw_788, tw_7, (fun h => by cases h), (fun _ => tw_787), by decide +kernel, rfl, rfl⟩
theorem m_R_no : Zm false y_R_no prog_8_method_4_code 1 (some .long) 1 (rl 0) := ⟨tw_1144, tw_7, (fun h => by cases h), (fun _ => tw_1143), by decide +kernel, rfl, rfl⟩
theorem m_R_isIn : Zm false y_R_isIn prog_8_method_6_code 2 (some .boolean) 2 (rl 0) := ⟨tw_953, tw_7, (fun h => by cases h), (fun _ => tw_952), by decide +kernel, rfl, rfl⟩
theorem m_R_lesser : Zm false y_R_lesser prog_8_method_7_code 2 (some .int) 2 (rl 0) := ⟨tw_956, tw_7, (fun h => by cases h), (fun _ => tw_955), by decide +kernel, rfl, rfl⟩
theorem m_R_greater : Zm false y_R_greater prog_8_method_8_code 2 (some .int) 2 (rl 0) := ⟨tw_1034, tw_7, (fun h => by cases h), (fun _ => tw_1033), by decide +kernel, rfl, rfl⟩
theorem m_R_part : Zm false y_R_part prog_8_method_9_code 11 (some .long) 3 (rl 0) := ⟨tw_1141, tw_7, (fun h => by cases h), (fun _ => tw_1140), by decide +kernel, rfl, rfl⟩
theorem m_R_finds : Zm true y_R_finds prog_8_method_10_code 2 (some .int) 1 (rl 0) := ⟨tw_793, tw_7, (fun _ => ⟨tw_792, ts_25⟩), (fun h => by cases h), by decide +kernel, rfl, rfl⟩
theorem m_R_cut : Zm false y_R_cut prog_8_method_15_code 2 (some .int) 2 (rl 0) := ⟨tw_808, tw_7, (fun h => by cases h), (fun _ => tw_807), by decide +kernel, rfl, rfl⟩
theorem m_R_plains : Zm true y_R_plains prog_8_method_25_code 2 none 0 (rl 0) := ⟨tw_849, tw_7, (fun _ => ⟨tw_848, ts_29⟩), (fun h => by cases h), by decide +kernel, rfl, rfl⟩
theorem m_R_clears : Zm true y_R_clears prog_8_method_27_code 2 none 0 (rl 0) := ⟨tw_857, tw_7, (fun _ => ⟨tw_856, ts_31⟩), (fun h => by cases h), by decide +kernel, rfl, rfl⟩
theorem m_R_back : Zm true y_R_back prog_8_method_44_code 1 (some .int) 0 (rl 0) := ⟨tw_921, tw_7, (fun _ => ⟨tw_919, tw_920⟩), (fun h => by cases h), by decide +kernel, rfl, rfl⟩
theorem m_R_scoops : Zm true y_R_scoops prog_8_method_49_code 5 (some .int) 1 (rl 0) := ⟨tw_964, tw_7, (fun _ => ⟨tw_963, ts_42⟩), (fun h => by cases h), by decide +kernel, rfl, rfl⟩
theorem m_R_drives : Zm true y_R_drives prog_8_method_50_code 5 none 3 (rl 0) := ⟨tw_968, tw_7, (fun _ => ⟨tw_967, ts_43⟩), (fun h => by cases h), by decide +kernel, rfl, rfl⟩
theorem m_R_atBy : Zm true y_R_atBy prog_8_method_55_code 5 (some .int) 3 (rl 0) := ⟨tw_976, tw_7, (fun _ => ⟨tw_975, ts_44⟩), (fun h => by cases h), by decide +kernel, rfl, rfl⟩
theorem m_R_snowBy : Zm true y_R_snowBy prog_8_method_58_code 6 (some .int) 2 (rl 0) := ⟨tw_991, tw_7, (fun _ => ⟨tw_990, ts_45⟩), (fun h => by cases h), by decide +kernel, rfl, rfl⟩
theorem m_R_overBy : Zm true y_R_overBy prog_8_method_60_code 3 (some .int) 2 (rl 0) := ⟨tw_999, tw_7, (fun _ => ⟨tw_998, ts_46⟩), (fun h => by cases h), by decide +kernel, rfl, rfl⟩
theorem m_R_clearedBy : Zm true y_R_clearedBy prog_8_method_62_code 3 (some .int) 2 (rl 0) := ⟨tw_1007, tw_7, (fun _ => ⟨tw_1006, ts_47⟩), (fun h => by cases h), by decide +kernel, rfl, rfl⟩
theorem m_R_deepestBy : Zm true y_R_deepestBy prog_8_method_64_code 4 (some .int) 1 (rl 0) := ⟨tw_1015, tw_7, (fun _ => ⟨tw_1014, ts_48⟩), (fun h => by cases h), by decide +kernel, rfl, rfl⟩
theorem m_R_manyOver : Zm true y_R_manyOver prog_8_method_70_code 3 (some .int) 0 (rl 0) := ⟨tw_1046, tw_7, (fun _ => ⟨tw_1045, ts_52⟩), (fun h => by cases h), by decide +kernel, rfl, rfl⟩
theorem m_R_forget : Zm true y_R_forget prog_8_method_81_code 2 (some .int) 0 (rl 0) := ⟨tw_1085, tw_7, (fun _ => ⟨tw_1083, tw_1084⟩), (fun h => by cases h), by decide +kernel, rfl, rfl⟩
theorem m_R_same : Zm true y_R_same prog_8_method_89_code 6 (some .boolean) 3 (rl 0) := ⟨tw_1129, tw_7, (fun _ => ⟨tw_1128, ts_63⟩), (fun h => by cases h), by decide +kernel, rfl, rfl⟩
theorem m_R_lot : Zm true y_R_lot prog_8_method_95_code 2 (some .int) 1 (rl 0) := ⟨tw_1158, tw_7, (fun _ => ⟨tw_1157, ts_66⟩), (fun h => by cases h), by decide +kernel, rfl, rfl⟩
theorem m_XH_put : Zm true y_XH_put prog_2_method_3_code 3 none 2 (rl 0) := ⟨tw_593, tw_6, (fun _ => ⟨tw_591, tw_592⟩), (fun h => by cases h), by decide +kernel, rfl, rfl⟩
theorem m_XH_hasItems : Zm true y_XH_hasItems prog_2_method_4_code 3 (some .boolean) 2 (rl 0) := ⟨tw_606, tw_6, (fun _ => ⟨tw_604, tw_605⟩), (fun h => by cases h), by decide +kernel, rfl, rfl⟩
theorem m_XG_add : Zm true y_XG_add prog_3_method_2_code 4 (some .boolean) 3 (rl 0) := ⟨tw_506, tw_3, (fun _ => ⟨tw_504, tw_505⟩), (fun h => by cases h), by decide +kernel, rfl, rfl⟩
theorem m_XG_fit : Zm true y_XG_fit prog_3_method_3_code 3 (some .boolean) 1 (rl 0) := ⟨tw_518, tw_3, (fun _ => ⟨tw_516, tw_517⟩), (fun h => by cases h), by decide +kernel, rfl, rfl⟩
theorem m_XT_append : Zm true y_XT_append prog_4_method_2_code 2 (some .boolean) 1 (rl 0) := ⟨tw_257, tw_5, (fun _ => ⟨tw_255, tw_256⟩), (fun h => by cases h), by decide +kernel, rfl, rfl⟩
theorem m_XT_mayStandInPloughs : Zm false y_XT_mayStandInPloughs prog_4_method_5_code 2 (some .boolean) 2 (rl 0) := ⟨tw_280, tw_5, (fun h => by cases h), (fun _ => tw_279), by decide +kernel, rfl, rfl⟩
theorem m_XO_addEvent : Zm true y_XO_addEvent prog_5_method_6_code 4 (some .boolean) 3 (rl 0) := ⟨tw_340, tw_2, (fun _ => ⟨tw_338, tw_339⟩), (fun h => by cases h), by decide +kernel, rfl, rfl⟩
theorem m_XW_sortEvent : Zm true y_XW_sortEvent prog_6_method_4_code 4 none 3 (rl 0) := ⟨tw_380, tw_4, (fun _ => ⟨tw_379, ts_7⟩), (fun h => by cases h), by decide +kernel, rfl, rfl⟩
theorem m_XW_snowFalls : Zm true y_XW_snowFalls prog_6_method_5_code 4 none 2 (rl 0) := ⟨tw_384, tw_4, (fun _ => ⟨tw_383, ts_8⟩), (fun h => by cases h), by decide +kernel, rfl, rfl⟩
theorem m_XW_windCarries : Zm true y_XW_windCarries prog_6_method_6_code 5 none 2 (rl 0) := ⟨tw_388, tw_4, (fun _ => ⟨tw_387, ts_9⟩), (fun h => by cases h), by decide +kernel, rfl, rfl⟩
theorem m_XW_snowThaws : Zm true y_XW_snowThaws prog_6_method_7_code 5 none 3 (rl 0) := ⟨tw_392, tw_4, (fun _ => ⟨tw_391, ts_10⟩), (fun h => by cases h), by decide +kernel, rfl, rfl⟩
theorem m_XW_ploughGoes : Zm true y_XW_ploughGoes prog_6_method_9_code 5 (some .int) 2 (rl 0) := ⟨tw_400, tw_4, (fun _ => ⟨tw_399, ts_12⟩), (fun h => by cases h), by decide +kernel, rfl, rfl⟩
theorem m_XW_rideOn : Zm true y_XW_rideOn prog_6_method_11_code 5 (some .int) 2 (rl 0) := ⟨tw_419, tw_4, (fun _ => ⟨tw_418, ts_13⟩), (fun h => by cases h), by decide +kernel, rfl, rfl⟩
theorem m_XW_snowBehind : Zm true y_XW_snowBehind prog_6_method_13_code 4 (some .int) 1 (rl 0) := ⟨tw_427, tw_4, (fun _ => ⟨tw_425, tw_426⟩), (fun h => by cases h), by decide +kernel, rfl, rfl⟩
theorem m_XW_deepMilesBehind : Zm true y_XW_deepMilesBehind prog_6_method_14_code 4 (some .int) 1 (rl 0) := ⟨tw_431, tw_4, (fun _ => ⟨tw_429, tw_430⟩), (fun h => by cases h), by decide +kernel, rfl, rfl⟩
theorem m_XW_deepestPlace : Zm true y_XW_deepestPlace prog_6_method_15_code 3 (some .int) 0 (rl 0) := ⟨tw_447, tw_4, (fun _ => ⟨tw_445, tw_446⟩), (fun h => by cases h), by decide +kernel, rfl, rfl⟩
theorem m_J_bitCount : Zm false y_J_bitCount prog_9_method_49_code 1 (some .int) 1 (rl 0) := ⟨tw_491, tw_10, (fun h => by cases h), (fun _ => tw_490), by decide +kernel, rfl, rfl⟩
theorem m_J_numberOfTrailingZeros : Zm false y_J_numberOfTrailingZeros prog_9_method_48_code 2 (some .int) 1 (rl 0) := ⟨tw_497, tw_10, (fun h => by cases h), (fun _ => tw_496), by decide +kernel, rfl, rfl⟩
theorem m_X_land : Zm true y_X_land prog_1_method_6_code 2 (some .int) 1 (rl 1) := ⟨tw_313, tw_1, (fun _ => ⟨tw_311, tw_312⟩), (fun h => by cases h), by decide +kernel, rfl, rfl⟩
theorem m_X_fall : Zm true y_X_fall prog_1_method_7_code 2 (some .int) 1 (rl 1) := ⟨tw_317, tw_1, (fun _ => ⟨tw_315, tw_316⟩), (fun h => by cases h), by decide +kernel, rfl, rfl⟩
theorem m_X_plough : Zm true y_X_plough prog_1_method_8_code 3 (some .int) 2 (rl 1) := ⟨tw_321, tw_1, (fun _ => ⟨tw_319, tw_320⟩), (fun h => by cases h), by decide +kernel, rfl, rfl⟩
theorem m_X_bus : Zm true y_X_bus prog_1_method_9_code 2 (some .int) 1 (rl 1) := ⟨tw_325, tw_1, (fun _ => ⟨tw_323, tw_324⟩), (fun h => by cases h), by decide +kernel, rfl, rfl⟩
theorem m_X_wind : Zm true y_X_wind prog_1_method_10_code 3 (some .int) 1 (rl 1) := ⟨tw_329, tw_1, (fun _ => ⟨tw_327, tw_328⟩), (fun h => by cases h), by decide +kernel, rfl, rfl⟩
theorem m_X_back : Zm true y_X_back prog_1_method_12_code 1 (some .int) 0 (rl 1) := ⟨tw_344, tw_1, (fun _ => ⟨tw_342, tw_343⟩), (fun h => by cases h), by decide +kernel, rfl, rfl⟩
theorem m_X_seen : Zm true y_X_seen prog_1_method_27_code 4 (some .int) 3 (rl 1) := ⟨tw_502, tw_1, (fun _ => ⟨tw_500, tw_501⟩), (fun h => by cases h), by decide +kernel, rfl, rfl⟩
theorem m_X_lose : Zm true y_X_lose prog_1_method_36_code 2 (some .int) 1 (rl 1) := ⟨tw_582, tw_1, (fun _ => ⟨tw_580, tw_581⟩), (fun h => by cases h), by decide +kernel, rfl, rfl⟩
theorem m_X_copy : Zm true y_X_copy prog_1_method_39_code 8 (some .int) 5 (rl 1) := ⟨tw_602, tw_1, (fun _ => ⟨tw_600, tw_601⟩), (fun h => by cases h), by decide +kernel, rfl, rfl⟩
theorem m_X_wrongWith : Zm false y_X_wrongWith prog_1_method_48_code 3 (some .int) 3 (rl 1) := ⟨tw_589, tw_1, (fun h => by cases h), (fun _ => tw_588), by decide +kernel, rfl, rfl⟩
theorem m_X_mayBeEvent : Zm false y_X_mayBeEvent prog_1_method_52_code 3 (some .boolean) 3 (rl 1) := ⟨tw_336, tw_1, (fun h => by cases h), (fun _ => tw_335), by decide +kernel, rfl, rfl⟩
theorem m_X_mostAlike : Zm true y_X_mostAlike prog_1_method_59_code 7 (some .int) 2 (rl 1) := ⟨tw_539, tw_1, (fun _ => ⟨tw_538, ts_18⟩), (fun h => by cases h), by decide +kernel, rfl, rfl⟩
theorem m_X_drawFall : Zm true y_X_drawFall prog_1_method_63_code 4 none 2 (rl 1) := ⟨tw_568, tw_1, (fun _ => ⟨tw_567, ts_21⟩), (fun h => by cases h), by decide +kernel, rfl, rfl⟩
theorem m_R_isTwo : Zm false y_R_isTwo prog_8_method_5_code 1 (some .boolean) 1 (rl 1) := ⟨tw_987, tw_7, (fun h => by cases h), (fun _ => tw_986), by decide +kernel, rfl, rfl⟩
theorem m_R_isSheet : Zm false y_R_isSheet prog_8_method_11_code 1 (some .boolean) 1 (rl 1) := ⟨tw_784, tw_7, (fun h => by cases h), (fun _ => tw_783), by decide +kernel, rfl, rfl⟩
theorem m_R_lacks : Zm true y_R_lacks prog_8_method_14_code 4 (some .int) 3 (rl 1) := ⟨tw_805, tw_7, (fun _ => ⟨tw_804, ts_26⟩), (fun h => by cases h), by decide +kernel, rfl, rfl⟩
theorem m_R_isText : Zm false y_R_isText prog_8_method_19_code 1 (some .boolean) 1 (rl 1) := ⟨tw_824, tw_7, (fun h => by cases h), (fun _ => tw_823), by decide +kernel, rfl, rfl⟩
theorem m_R_figureOf : Zm false y_R_figureOf prog_8_method_23_code 2 (some .int) 2 (rl 1) := ⟨tw_860, tw_7, (fun h => by cases h), (fun _ => tw_859), by decide +kernel, rfl, rfl⟩
theorem m_R_letterOf : Zm false y_R_letterOf prog_8_method_24_code 2 (some .int) 2 (rl 1) := ⟨tw_871, tw_7, (fun h => by cases h), (fun _ => tw_870), by decide +kernel, rfl, rfl⟩
theorem m_R_readsLand : Zm true y_R_readsLand prog_8_method_26_code 4 (some .int) 0 (rl 1) := ⟨tw_845, tw_7, (fun _ => ⟨tw_844, ts_28⟩), (fun h => by cases h), by decide +kernel, rfl, rfl⟩
theorem m_R_isMile : Zm false y_R_isMile prog_8_method_34_code 1 (some .boolean) 1 (rl 1) := ⟨tw_883, tw_7, (fun h => by cases h), (fun _ => tw_882), by decide +kernel, rfl, rfl⟩
theorem m_R_isHour : Zm false y_R_isHour prog_8_method_35_code 1 (some .boolean) 1 (rl 1) := ⟨tw_891, tw_7, (fun h => by cases h), (fun _ => tw_890), by decide +kernel, rfl, rfl⟩
theorem m_R_isPlough : Zm true y_R_isPlough prog_8_method_36_code 2 (some .boolean) 1 (rl 1) := ⟨tw_900, tw_7, (fun _ => ⟨tw_899, ts_34⟩), (fun h => by cases h), by decide +kernel, rfl, rfl⟩
theorem m_R_isBus : Zm true y_R_isBus prog_8_method_37_code 2 (some .boolean) 1 (rl 1) := ⟨tw_908, tw_7, (fun _ => ⟨tw_907, ts_35⟩), (fun h => by cases h), by decide +kernel, rfl, rfl⟩
theorem m_R_wind : Zm true y_R_wind prog_8_method_42_code 3 (some .int) 1 (rl 1) := ⟨tw_912, tw_7, (fun _ => ⟨tw_910, tw_911⟩), (fun h => by cases h), by decide +kernel, rfl, rfl⟩
theorem m_R_isTold : Zm true y_R_isTold prog_8_method_46_code 4 (some .boolean) 3 (rl 1) := ⟨tw_950, tw_7, (fun _ => ⟨tw_949, ts_40⟩), (fun h => by cases h), by decide +kernel, rfl, rfl⟩
theorem m_R_shutNow : Zm true y_R_shutNow prog_8_method_66_code 3 (some .int) 0 (rl 1) := ⟨tw_1023, tw_7, (fun _ => ⟨tw_1022, ts_49⟩), (fun h => by cases h), by decide +kernel, rfl, rfl⟩
theorem m_R_bestNow : Zm true y_R_bestNow prog_8_method_68_code 4 (some .int) 0 (rl 1) := ⟨tw_1031, tw_7, (fun _ => ⟨tw_1030, ts_50⟩), (fun h => by cases h), by decide +kernel, rfl, rfl⟩
theorem m_R_alike : Zm true y_R_alike prog_8_method_90_code 7 (some .int) 2 (rl 1) := ⟨tw_1125, tw_7, (fun _ => ⟨tw_1124, ts_62⟩), (fun h => by cases h), by decide +kernel, rfl, rfl⟩
theorem m_R_tellsHour : Zm true y_R_tellsHour prog_8_method_100_code 8 (some .long) 3 (rl 1) := ⟨tw_1182, tw_7, (fun _ => ⟨tw_1181, ts_68⟩), (fun h => by cases h), by decide +kernel, rfl, rfl⟩
theorem m_XH_renew : Zm true y_XH_renew prog_2_method_2_code 3 none 2 (rl 1) := ⟨tw_577, tw_6, (fun _ => ⟨tw_575, tw_576⟩), (fun h => by cases h), by decide +kernel, rfl, rfl⟩
theorem m_XT_mayStand : Zm true y_XT_mayStand prog_4_method_4_code 3 (some .boolean) 2 (rl 1) := ⟨tw_277, tw_5, (fun _ => ⟨tw_276, ts_1⟩), (fun h => by cases h), by decide +kernel, rfl, rfl⟩
theorem m_XW_sortEvents : Zm true y_XW_sortEvents prog_6_method_3_code 4 none 2 (rl 1) := ⟨tw_376, tw_4, (fun _ => ⟨tw_375, ts_6⟩), (fun h => by cases h), by decide +kernel, rfl, rfl⟩
theorem m_XW_ploughsGo : Zm true y_XW_ploughsGo prog_6_method_8_code 6 none 2 (rl 1) := ⟨tw_396, tw_4, (fun _ => ⟨tw_395, ts_11⟩), (fun h => by cases h), by decide +kernel, rfl, rfl⟩
theorem m_XW_ride : Zm true y_XW_ride prog_6_method_10_code 5 none 2 (rl 1) := ⟨tw_415, tw_4, (fun _ => ⟨tw_413, tw_414⟩), (fun h => by cases h), by decide +kernel, rfl, rfl⟩
theorem m_X_event : Zm true y_X_event prog_1_method_11_code 4 (some .int) 3 (rl 2) := ⟨tw_333, tw_1, (fun _ => ⟨tw_331, tw_332⟩), (fun h => by cases h), by decide +kernel, rfl, rfl⟩
theorem m_X_sheet : Zm true y_X_sheet prog_1_method_35_code 4 (some .int) 3 (rl 2) := ⟨tw_573, tw_1, (fun _ => ⟨tw_571, tw_572⟩), (fun h => by cases h), by decide +kernel, rfl, rfl⟩
theorem m_X_lay : Zm true y_X_lay prog_1_method_37_code 6 (some .int) 4 (rl 2) := ⟨tw_586, tw_1, (fun _ => ⟨tw_584, tw_585⟩), (fun h => by cases h), by decide +kernel, rfl, rfl⟩
theorem m_X_get : Zm true y_X_get prog_1_method_38_code 5 (some .int) 3 (rl 2) := ⟨tw_597, tw_1, (fun _ => ⟨tw_595, tw_596⟩), (fun h => by cases h), by decide +kernel, rfl, rfl⟩
theorem m_R_sheet : Zm true y_R_sheet prog_8_method_12_code 5 (some .int) 3 (rl 2) := ⟨tw_781, tw_7, (fun _ => ⟨tw_779, tw_780⟩), (fun h => by cases h), by decide +kernel, rfl, rfl⟩
theorem m_R_lose : Zm true y_R_lose prog_8_method_13_code 2 (some .int) 1 (rl 2) := ⟨tw_797, tw_7, (fun _ => ⟨tw_795, tw_796⟩), (fun h => by cases h), by decide +kernel, rfl, rfl⟩
theorem m_R_lay : Zm true y_R_lay prog_8_method_16_code 6 (some .int) 4 (rl 2) := ⟨tw_801, tw_7, (fun _ => ⟨tw_799, tw_800⟩), (fun h => by cases h), by decide +kernel, rfl, rfl⟩
theorem m_R_get : Zm true y_R_get prog_8_method_17_code 4 (some .int) 3 (rl 2) := ⟨tw_812, tw_7, (fun _ => ⟨tw_810, tw_811⟩), (fun h => by cases h), by decide +kernel, rfl, rfl⟩
theorem m_R_copy : Zm true y_R_copy prog_8_method_18_code 7 (some .int) 5 (rl 2) := ⟨tw_817, tw_7, (fun _ => ⟨tw_815, tw_816⟩), (fun h => by cases h), by decide +kernel, rfl, rfl⟩
theorem m_R_type : Zm true y_R_type prog_8_method_20_code 3 (some .int) 2 (rl 2) := ⟨tw_821, tw_7, (fun _ => ⟨tw_819, tw_820⟩), (fun h => by cases h), by decide +kernel, rfl, rfl⟩
theorem m_R_wipe : Zm true y_R_wipe prog_8_method_21_code 3 (some .int) 1 (rl 2) := ⟨tw_829, tw_7, (fun _ => ⟨tw_827, tw_828⟩), (fun h => by cases h), by decide +kernel, rfl, rfl⟩
theorem m_R_undo : Zm true y_R_undo prog_8_method_22_code 2 (some .int) 1 (rl 2) := ⟨tw_833, tw_7, (fun _ => ⟨tw_831, tw_832⟩), (fun h => by cases h), by decide +kernel, rfl, rfl⟩
theorem m_R_readsFall : Zm true y_R_readsFall prog_8_method_28_code 3 (some .int) 0 (rl 2) := ⟨tw_853, tw_7, (fun _ => ⟨tw_852, ts_30⟩), (fun h => by cases h), by decide +kernel, rfl, rfl⟩
theorem m_R_ploughOf : Zm false y_R_ploughOf prog_8_method_29_code 2 (some .int) 2 (rl 2) := ⟨tw_868, tw_7, (fun h => by cases h), (fun _ => tw_867), by decide +kernel, rfl, rfl⟩
theorem m_R_readsBuses : Zm true y_R_readsBuses prog_8_method_31_code 3 (some .int) 0 (rl 2) := ⟨tw_876, tw_7, (fun _ => ⟨tw_875, ts_33⟩), (fun h => by cases h), by decide +kernel, rfl, rfl⟩
theorem m_R_land : Zm true y_R_land prog_8_method_38_code 2 (some .int) 1 (rl 2) := ⟨tw_880, tw_7, (fun _ => ⟨tw_878, tw_879⟩), (fun h => by cases h), by decide +kernel, rfl, rfl⟩
theorem m_R_event : Zm true y_R_event prog_8_method_43_code 4 (some .int) 3 (rl 2) := ⟨tw_917, tw_7, (fun _ => ⟨tw_915, tw_916⟩), (fun h => by cases h), by decide +kernel, rfl, rfl⟩
theorem m_R_weathers : Zm true y_R_weathers prog_8_method_47_code 4 none 1 (rl 2) := ⟨tw_946, tw_7, (fun _ => ⟨tw_945, ts_39⟩), (fun h => by cases h), by decide +kernel, rfl, rfl⟩
theorem m_R_isBroken : Zm true y_R_isBroken prog_8_method_48_code 5 (some .boolean) 2 (rl 2) := ⟨tw_960, tw_7, (fun _ => ⟨tw_959, ts_41⟩), (fun h => by cases h), by decide +kernel, rfl, rfl⟩
theorem m_R_seen : Zm true y_R_seen prog_8_method_80_code 4 (some .int) 3 (rl 2) := ⟨tw_1080, tw_7, (fun _ => ⟨tw_1078, tw_1079⟩), (fun h => by cases h), by decide +kernel, rfl, rfl⟩
theorem m_XT_firstFault : Zm true y_XT_firstFault prog_4_method_3_code 2 (some .int) 0 (rl 2) := ⟨tw_273, tw_5, (fun _ => ⟨tw_271, tw_272⟩), (fun h => by cases h), by decide +kernel, rfl, rfl⟩
theorem m_XW_run : Zm true y_XW_run prog_6_method_2_code 4 none 2 (rl 2) := ⟨tw_369, tw_4, (fun _ => ⟨tw_367, tw_368⟩), (fun h => by cases h), by decide +kernel, rfl, rfl⟩
theorem m_XW_busesOver : Zm true y_XW_busesOver prog_6_method_12_code 4 (some .int) 1 (rl 2) := ⟨tw_463, tw_4, (fun _ => ⟨tw_461, tw_462⟩), (fun h => by cases h), by decide +kernel, rfl, rfl⟩
theorem m_X_fault : Zm true y_X_fault prog_1_method_5_code 2 (some .int) 1 (rl 3) := ⟨tw_308, tw_1, (fun _ => ⟨tw_306, tw_307⟩), (fun h => by cases h), by decide +kernel, rfl, rfl⟩
theorem m_X_read : Zm true y_X_read prog_1_method_13_code 5 (some .int) 1 (rl 3) := ⟨tw_348, tw_1, (fun _ => ⟨tw_346, tw_347⟩), (fun h => by cases h), by decide +kernel, rfl, rfl⟩
theorem m_X_begin : Zm true y_X_begin prog_1_method_23_code 8 (some .int) 2 (rl 3) := ⟨tw_459, tw_1, (fun _ => ⟨tw_457, tw_458⟩), (fun h => by cases h), by decide +kernel, rfl, rfl⟩
theorem m_X_never : Zm true y_X_never prog_1_method_29_code 3 (some .int) 0 (rl 3) := ⟨tw_514, tw_1, (fun _ => ⟨tw_512, tw_513⟩), (fun h => by cases h), by decide +kernel, rfl, rfl⟩
theorem m_X_winters : Zm true y_X_winters prog_1_method_34_code 5 (some .int) 3 (rl 3) := ⟨tw_564, tw_1, (fun _ => ⟨tw_562, tw_563⟩), (fun h => by cases h), by decide +kernel, rfl, rfl⟩
theorem m_X_asTold : Zm true y_X_asTold prog_1_method_54_code 1 (some (.object "SnowRoad$Winter")) 0 (rl 3) := ⟨tw_361, tw_1, (fun _ => ⟨tw_360, ts_4⟩), (fun h => by cases h), by decide +kernel, rfl, rfl⟩
theorem m_X_tryLand : Zm true y_X_tryLand prog_1_method_55_code 4 none 2 (rl 3) := ⟨tw_472, tw_1, (fun _ => ⟨tw_471, ts_14⟩), (fun h => by cases h), by decide +kernel, rfl, rfl⟩
theorem m_X_tryStrength : Zm true y_X_tryStrength prog_1_method_56_code 4 none 2 (rl 3) := ⟨tw_526, tw_1, (fun _ => ⟨tw_525, ts_17⟩), (fun h => by cases h), by decide +kernel, rfl, rfl⟩
theorem m_X_allOverBut : Zm true y_X_allOverBut prog_1_method_57_code 2 (some .boolean) 1 (rl 3) := ⟨tw_488, tw_1, (fun _ => ⟨tw_487, ts_16⟩), (fun h => by cases h), by decide +kernel, rfl, rfl⟩
theorem m_X_countChoices : Zm true y_X_countChoices prog_1_method_61_code 4 none 0 (rl 3) := ⟨tw_555, tw_1, (fun _ => ⟨tw_554, ts_20⟩), (fun h => by cases h), by decide +kernel, rfl, rfl⟩
theorem m_R_readsPloughs : Zm true y_R_readsPloughs prog_8_method_30_code 5 (some .int) 0 (rl 3) := ⟨tw_865, tw_7, (fun _ => ⟨tw_864, ts_32⟩), (fun h => by cases h), by decide +kernel, rfl, rfl⟩
theorem m_R_fall : Zm true y_R_fall prog_8_method_39_code 2 (some .int) 1 (rl 3) := ⟨tw_888, tw_7, (fun _ => ⟨tw_886, tw_887⟩), (fun h => by cases h), by decide +kernel, rfl, rfl⟩
theorem m_R_bus : Zm true y_R_bus prog_8_method_41_code 2 (some .int) 1 (rl 3) := ⟨tw_904, tw_7, (fun _ => ⟨tw_902, tw_903⟩), (fun h => by cases h), by decide +kernel, rfl, rfl⟩
theorem m_R_read : Zm true y_R_read prog_8_method_45_code 5 (some .int) 1 (rl 3) := ⟨tw_925, tw_7, (fun _ => ⟨tw_923, tw_924⟩), (fun h => by cases h), by decide +kernel, rfl, rfl⟩
theorem m_R_passes : Zm true y_R_passes prog_8_method_51_code 4 none 1 (rl 3) := ⟨tw_942, tw_7, (fun _ => ⟨tw_941, ts_38⟩), (fun h => by cases h), by decide +kernel, rfl, rfl⟩
theorem m_XT_meant : Zm true y_XT_meant prog_4_method_6_code 1 (some .int) 0 (rl 3) := ⟨tw_269, tw_5, (fun _ => ⟨tw_267, tw_268⟩), (fun h => by cases h), by decide +kernel, rfl, rfl⟩
theorem m_X_deep : Zm true y_X_deep prog_1_method_14_code 3 (some .int) 2 (rl 4) := ⟨tw_357, tw_1, (fun _ => ⟨tw_355, tw_356⟩), (fun h => by cases h), by decide +kernel, rfl, rfl⟩
theorem m_X_at : Zm true y_X_at prog_1_method_15_code 6 (some .int) 3 (rl 4) := ⟨tw_407, tw_1, (fun _ => ⟨tw_405, tw_406⟩), (fun h => by cases h), by decide +kernel, rfl, rfl⟩
theorem m_X_rides : Zm true y_X_rides prog_1_method_16_code 4 (some .int) 2 (rl 4) := ⟨tw_411, tw_1, (fun _ => ⟨tw_409, tw_410⟩), (fun h => by cases h), by decide +kernel, rfl, rfl⟩
theorem m_X_snow : Zm true y_X_snow prog_1_method_17_code 3 (some .int) 2 (rl 4) := ⟨tw_423, tw_1, (fun _ => ⟨tw_421, tw_422⟩), (fun h => by cases h), by decide +kernel, rfl, rfl⟩
theorem m_X_over : Zm true y_X_over prog_1_method_18_code 4 (some .int) 2 (rl 4) := ⟨tw_435, tw_1, (fun _ => ⟨tw_433, tw_434⟩), (fun h => by cases h), by decide +kernel, rfl, rfl⟩
theorem m_X_cleared : Zm true y_X_cleared prog_1_method_19_code 3 (some .int) 2 (rl 4) := ⟨tw_439, tw_1, (fun _ => ⟨tw_437, tw_438⟩), (fun h => by cases h), by decide +kernel, rfl, rfl⟩
theorem m_X_deepest : Zm true y_X_deepest prog_1_method_20_code 3 (some .int) 1 (rl 4) := ⟨tw_443, tw_1, (fun _ => ⟨tw_441, tw_442⟩), (fun h => by cases h), by decide +kernel, rfl, rfl⟩
theorem m_X_shut : Zm true y_X_shut prog_1_method_21_code 3 (some .int) 0 (rl 4) := ⟨tw_451, tw_1, (fun _ => ⟨tw_449, tw_450⟩), (fun h => by cases h), by decide +kernel, rfl, rfl⟩
theorem m_X_best : Zm true y_X_best prog_1_method_22_code 5 (some .int) 0 (rl 4) := ⟨tw_455, tw_1, (fun _ => ⟨tw_453, tw_454⟩), (fun h => by cases h), by decide +kernel, rfl, rfl⟩
theorem m_X_hedge : Zm true y_X_hedge prog_1_method_24_code 6 (some .int) 1 (rl 4) := ⟨tw_468, tw_1, (fun _ => ⟨tw_466, tw_467⟩), (fun h => by cases h), by decide +kernel, rfl, rfl⟩
theorem m_X_start : Zm true y_X_start prog_1_method_25_code 7 (some .int) 2 (rl 4) := ⟨tw_476, tw_1, (fun _ => ⟨tw_474, tw_475⟩), (fun h => by cases h), by decide +kernel, rfl, rfl⟩
theorem m_X_strengths : Zm true y_X_strengths prog_1_method_30_code 4 (some .int) 1 (rl 4) := ⟨tw_522, tw_1, (fun _ => ⟨tw_520, tw_521⟩), (fun h => by cases h), by decide +kernel, rfl, rfl⟩
theorem m_X_lie : Zm true y_X_lie prog_1_method_31_code 4 (some .int) 1 (rl 4) := ⟨tw_530, tw_1, (fun _ => ⟨tw_528, tw_529⟩), (fun h => by cases h), by decide +kernel, rfl, rfl⟩
theorem m_X_ask : Zm true y_X_ask prog_1_method_32_code 7 (some .int) 1 (rl 4) := ⟨tw_534, tw_1, (fun _ => ⟨tw_532, tw_533⟩), (fun h => by cases h), by decide +kernel, rfl, rfl⟩
theorem m_X_chance : Zm true y_X_chance prog_1_method_33_code 9 (some .long) 3 (rl 4) := ⟨tw_550, tw_1, (fun _ => ⟨tw_548, tw_549⟩), (fun h => by cases h), by decide +kernel, rfl, rfl⟩
theorem m_X_write : Zm true y_X_write prog_1_method_40_code 6 (some .int) 2 (rl 4) := ⟨tw_610, tw_1, (fun _ => ⟨tw_608, tw_609⟩), (fun h => by cases h), by decide +kernel, rfl, rfl⟩
theorem m_X_count : Zm true y_X_count prog_1_method_41_code 2 (some .int) 1 (rl 4) := ⟨tw_617, tw_1, (fun _ => ⟨tw_615, tw_616⟩), (fun h => by cases h), by decide +kernel, rfl, rfl⟩
theorem m_X_sparedEvents : Zm true y_X_sparedEvents prog_1_method_58_code 3 (some .int) 0 (rl 4) := ⟨tw_484, tw_1, (fun _ => ⟨tw_483, ts_15⟩), (fun h => by cases h), by decide +kernel, rfl, rfl⟩
theorem m_R_readsText : Zm true y_R_readsText prog_8_method_32_code 2 (some .int) 1 (rl 4) := ⟨tw_841, tw_7, (fun _ => ⟨tw_840, ts_27⟩), (fun h => by cases h), by decide +kernel, rfl, rfl⟩
theorem m_R_plough : Zm true y_R_plough prog_8_method_40_code 3 (some .int) 2 (rl 4) := ⟨tw_896, tw_7, (fun _ => ⟨tw_894, tw_895⟩), (fun h => by cases h), by decide +kernel, rfl, rfl⟩
theorem m_R_lives : Zm true y_R_lives prog_8_method_52_code 2 none 0 (rl 4) := ⟨tw_938, tw_7, (fun _ => ⟨tw_937, ts_37⟩), (fun h => by cases h), by decide +kernel, rfl, rfl⟩
theorem m_XO_takeLand : Zm true y_XO_takeLand prog_5_method_2_code 5 none 1 (rl 4) := ⟨tw_265, tw_2, (fun _ => ⟨tw_263, tw_264⟩), (fun h => by cases h), by decide +kernel, rfl, rfl⟩
theorem m_XO_takeFall : Zm true y_XO_takeFall prog_5_method_3_code 4 none 1 (rl 4) := ⟨tw_284, tw_2, (fun _ => ⟨tw_282, tw_283⟩), (fun h => by cases h), by decide +kernel, rfl, rfl⟩
theorem m_XO_takePloughs : Zm true y_XO_takePloughs prog_5_method_4_code 4 none 1 (rl 4) := ⟨tw_288, tw_2, (fun _ => ⟨tw_286, tw_287⟩), (fun h => by cases h), by decide +kernel, rfl, rfl⟩
theorem m_XO_takeBuses : Zm true y_XO_takeBuses prog_5_method_5_code 3 none 1 (rl 4) := ⟨tw_292, tw_2, (fun _ => ⟨tw_290, tw_291⟩), (fun h => by cases h), by decide +kernel, rfl, rfl⟩
theorem m_X_spare : Zm true y_X_spare prog_1_method_26_code 4 (some .int) 1 (rl 5) := ⟨tw_480, tw_1, (fun _ => ⟨tw_478, tw_479⟩), (fun h => by cases h), by decide +kernel, rfl, rfl⟩
theorem m_X_mixPlough : Zm true y_X_mixPlough prog_1_method_45_code 8 (some .long) 2 (rl 5) := ⟨tw_641, tw_1, (fun _ => ⟨tw_640, ts_23⟩), (fun h => by cases h), by decide +kernel, rfl, rfl⟩
theorem m_X_mixBus : Zm true y_X_mixBus prog_1_method_46_code 4 (some .long) 2 (rl 5) := ⟨tw_653, tw_1, (fun _ => ⟨tw_652, ts_24⟩), (fun h => by cases h), by decide +kernel, rfl, rfl⟩
theorem m_X_takeText : Zm true y_X_takeText prog_1_method_50_code 2 none 1 (rl 5) := ⟨tw_261, tw_1, (fun _ => ⟨tw_260, ts_0⟩), (fun h => by cases h), by decide +kernel, rfl, rfl⟩
theorem m_R_fault : Zm true y_R_fault prog_8_method_33_code 2 (some .int) 1 (rl 5) := ⟨tw_837, tw_7, (fun _ => ⟨tw_835, tw_836⟩), (fun h => by cases h), by decide +kernel, rfl, rfl⟩
theorem m_R_find : Zm true y_R_find prog_8_method_53_code 2 none 0 (rl 5) := ⟨tw_934, tw_7, (fun _ => ⟨tw_933, ts_36⟩), (fun h => by cases h), by decide +kernel, rfl, rfl⟩
theorem m_R_beginOf : Zm true y_R_beginOf prog_8_method_71_code 8 (some .int) 2 (rl 5) := ⟨tw_1042, tw_7, (fun _ => ⟨tw_1041, ts_51⟩), (fun h => by cases h), by decide +kernel, rfl, rfl⟩
theorem m_R_hedgeBy : Zm true y_R_hedgeBy prog_8_method_73_code 7 (some .int) 1 (rl 5) := ⟨tw_1054, tw_7, (fun _ => ⟨tw_1053, ts_53⟩), (fun h => by cases h), by decide +kernel, rfl, rfl⟩
theorem m_R_startOf : Zm true y_R_startOf prog_8_method_75_code 8 (some .int) 2 (rl 5) := ⟨tw_1063, tw_7, (fun _ => ⟨tw_1062, ts_54⟩), (fun h => by cases h), by decide +kernel, rfl, rfl⟩
theorem m_R_isSpared : Zm true y_R_isSpared prog_8_method_77_code 2 (some .boolean) 1 (rl 5) := ⟨tw_1076, tw_7, (fun _ => ⟨tw_1075, ts_56⟩), (fun h => by cases h), by decide +kernel, rfl, rfl⟩
theorem m_R_isSeen : Zm true y_R_isSeen prog_8_method_82_code 3 (some .boolean) 0 (rl 5) := ⟨tw_1097, tw_7, (fun _ => ⟨tw_1096, ts_58⟩), (fun h => by cases h), by decide +kernel, rfl, rfl⟩
theorem m_R_chanceOf : Zm true y_R_chanceOf prog_8_method_93_code 10 (some .long) 3 (rl 5) := ⟨tw_1138, tw_7, (fun _ => ⟨tw_1137, ts_64⟩), (fun h => by cases h), by decide +kernel, rfl, rfl⟩
theorem m_R_wintersOf : Zm true y_R_wintersOf prog_8_method_96_code 5 (some .int) 3 (rl 5) := ⟨tw_1154, tw_7, (fun _ => ⟨tw_1153, ts_65⟩), (fun h => by cases h), by decide +kernel, rfl, rfl⟩
theorem m_X_type : Zm true y_X_type prog_1_method_2_code 3 (some .int) 2 (rl 6) := ⟨tw_250, tw_1, (fun _ => ⟨tw_248, tw_249⟩), (fun h => by cases h), by decide +kernel, rfl, rfl⟩
theorem m_X_wipe : Zm true y_X_wipe prog_1_method_3_code 3 (some .int) 1 (rl 6) := ⟨tw_300, tw_1, (fun _ => ⟨tw_298, tw_299⟩), (fun h => by cases h), by decide +kernel, rfl, rfl⟩
theorem m_X_undo : Zm true y_X_undo prog_1_method_4_code 2 (some .int) 1 (rl 6) := ⟨tw_304, tw_1, (fun _ => ⟨tw_302, tw_303⟩), (fun h => by cases h), by decide +kernel, rfl, rfl⟩
theorem m_X_digest : Zm true y_X_digest prog_1_method_42_code 4 (some .long) 0 (rl 6) := ⟨tw_625, tw_1, (fun _ => ⟨tw_623, tw_624⟩), (fun h => by cases h), by decide +kernel, rfl, rfl⟩
theorem m_R_deep : Zm true y_R_deep prog_8_method_54_code 3 (some .int) 2 (rl 6) := ⟨tw_930, tw_7, (fun _ => ⟨tw_928, tw_929⟩), (fun h => by cases h), by decide +kernel, rfl, rfl⟩
theorem m_R_at : Zm true y_R_at prog_8_method_56_code 4 (some .int) 3 (rl 6) := ⟨tw_972, tw_7, (fun _ => ⟨tw_970, tw_971⟩), (fun h => by cases h), by decide +kernel, rfl, rfl⟩
theorem m_R_rides : Zm true y_R_rides prog_8_method_57_code 3 (some .int) 2 (rl 6) := ⟨tw_980, tw_7, (fun _ => ⟨tw_978, tw_979⟩), (fun h => by cases h), by decide +kernel, rfl, rfl⟩
theorem m_R_snow : Zm true y_R_snow prog_8_method_59_code 3 (some .int) 2 (rl 6) := ⟨tw_984, tw_7, (fun _ => ⟨tw_982, tw_983⟩), (fun h => by cases h), by decide +kernel, rfl, rfl⟩
theorem m_R_over : Zm true y_R_over prog_8_method_61_code 3 (some .int) 2 (rl 6) := ⟨tw_995, tw_7, (fun _ => ⟨tw_993, tw_994⟩), (fun h => by cases h), by decide +kernel, rfl, rfl⟩
theorem m_R_cleared : Zm true y_R_cleared prog_8_method_63_code 3 (some .int) 2 (rl 6) := ⟨tw_1003, tw_7, (fun _ => ⟨tw_1001, tw_1002⟩), (fun h => by cases h), by decide +kernel, rfl, rfl⟩
theorem m_R_deepest : Zm true y_R_deepest prog_8_method_65_code 2 (some .int) 1 (rl 6) := ⟨tw_1011, tw_7, (fun _ => ⟨tw_1009, tw_1010⟩), (fun h => by cases h), by decide +kernel, rfl, rfl⟩
theorem m_R_shut : Zm true y_R_shut prog_8_method_67_code 1 (some .int) 0 (rl 6) := ⟨tw_1019, tw_7, (fun _ => ⟨tw_1017, tw_1018⟩), (fun h => by cases h), by decide +kernel, rfl, rfl⟩
theorem m_R_best : Zm true y_R_best prog_8_method_69_code 1 (some .int) 0 (rl 6) := ⟨tw_1027, tw_7, (fun _ => ⟨tw_1025, tw_1026⟩), (fun h => by cases h), by decide +kernel, rfl, rfl⟩
theorem m_R_begin : Zm true y_R_begin prog_8_method_72_code 3 (some .int) 2 (rl 6) := ⟨tw_1038, tw_7, (fun _ => ⟨tw_1036, tw_1037⟩), (fun h => by cases h), by decide +kernel, rfl, rfl⟩
theorem m_R_hedge : Zm true y_R_hedge prog_8_method_74_code 2 (some .int) 1 (rl 6) := ⟨tw_1050, tw_7, (fun _ => ⟨tw_1048, tw_1049⟩), (fun h => by cases h), by decide +kernel, rfl, rfl⟩
theorem m_R_start : Zm true y_R_start prog_8_method_76_code 3 (some .int) 2 (rl 6) := ⟨tw_1059, tw_7, (fun _ => ⟨tw_1057, tw_1058⟩), (fun h => by cases h), by decide +kernel, rfl, rfl⟩
theorem m_R_spareBy : Zm true y_R_spareBy prog_8_method_78_code 4 (some .int) 1 (rl 6) := ⟨tw_1072, tw_7, (fun _ => ⟨tw_1071, ts_55⟩), (fun h => by cases h), by decide +kernel, rfl, rfl⟩
theorem m_R_neverNow : Zm true y_R_neverNow prog_8_method_83_code 3 (some .int) 0 (rl 6) := ⟨tw_1093, tw_7, (fun _ => ⟨tw_1092, ts_57⟩), (fun h => by cases h), by decide +kernel, rfl, rfl⟩
theorem m_R_strengthsOf : Zm true y_R_strengthsOf prog_8_method_85_code 6 (some .int) 1 (rl 6) := ⟨tw_1105, tw_7, (fun _ => ⟨tw_1104, ts_59⟩), (fun h => by cases h), by decide +kernel, rfl, rfl⟩
theorem m_R_lieOf : Zm true y_R_lieOf prog_8_method_87_code 5 (some .int) 1 (rl 6) := ⟨tw_1113, tw_7, (fun _ => ⟨tw_1112, ts_60⟩), (fun h => by cases h), by decide +kernel, rfl, rfl⟩
theorem m_R_chance : Zm true y_R_chance prog_8_method_94_code 4 (some .long) 3 (rl 6) := ⟨tw_1133, tw_7, (fun _ => ⟨tw_1131, tw_1132⟩), (fun h => by cases h), by decide +kernel, rfl, rfl⟩
theorem m_R_winters : Zm true y_R_winters prog_8_method_97_code 4 (some .int) 3 (rl 6) := ⟨tw_1149, tw_7, (fun _ => ⟨tw_1147, tw_1148⟩), (fun h => by cases h), by decide +kernel, rfl, rfl⟩
theorem m_R_write : Zm true y_R_write prog_8_method_98_code 5 (some .int) 2 (rl 6) := ⟨tw_1163, tw_7, (fun _ => ⟨tw_1161, tw_1162⟩), (fun h => by cases h), by decide +kernel, rfl, rfl⟩
theorem m_R_count : Zm true y_R_count prog_8_method_99_code 2 (some .int) 1 (rl 6) := ⟨tw_1167, tw_7, (fun _ => ⟨tw_1165, tw_1166⟩), (fun h => by cases h), by decide +kernel, rfl, rfl⟩
theorem m_R_tellsBus : Zm true y_R_tellsBus prog_8_method_102_code 6 (some .long) 2 (rl 6) := ⟨tw_1186, tw_7, (fun _ => ⟨tw_1185, ts_69⟩), (fun h => by cases h), by decide +kernel, rfl, rfl⟩
theorem m_R_spare : Zm true y_R_spare prog_8_method_79_code 2 (some .int) 1 (rl 7) := ⟨tw_1067, tw_7, (fun _ => ⟨tw_1065, tw_1066⟩), (fun h => by cases h), by decide +kernel, rfl, rfl⟩
theorem m_R_never : Zm true y_R_never prog_8_method_84_code 1 (some .int) 0 (rl 7) := ⟨tw_1089, tw_7, (fun _ => ⟨tw_1087, tw_1088⟩), (fun h => by cases h), by decide +kernel, rfl, rfl⟩
theorem m_R_strengths : Zm true y_R_strengths prog_8_method_86_code 2 (some .int) 1 (rl 7) := ⟨tw_1101, tw_7, (fun _ => ⟨tw_1099, tw_1100⟩), (fun h => by cases h), by decide +kernel, rfl, rfl⟩
theorem m_R_lie : Zm true y_R_lie prog_8_method_88_code 2 (some .int) 1 (rl 7) := ⟨tw_1109, tw_7, (fun _ => ⟨tw_1107, tw_1108⟩), (fun h => by cases h), by decide +kernel, rfl, rfl⟩
theorem m_R_askOf : Zm true y_R_askOf prog_8_method_91_code 7 (some .int) 1 (rl 7) := ⟨tw_1121, tw_7, (fun _ => ⟨tw_1120, ts_61⟩), (fun h => by cases h), by decide +kernel, rfl, rfl⟩
theorem m_R_ask : Zm true y_R_ask prog_8_method_92_code 2 (some .int) 1 (rl 8) := ⟨tw_1117, tw_7, (fun _ => ⟨tw_1115, tw_1116⟩), (fun h => by cases h), by decide +kernel, rfl, rfl⟩
theorem m_R_tellsPlough : Zm true y_R_tellsPlough prog_8_method_101_code 7 (some .long) 2 (rl 8) := ⟨tw_1178, tw_7, (fun _ => ⟨tw_1177, ts_67⟩), (fun h => by cases h), by decide +kernel, rfl, rfl⟩
theorem m_R_digest : Zm true y_R_digest prog_8_method_103_code 4 (some .long) 0 (rl 9) := ⟨tw_1171, tw_7, (fun _ => ⟨tw_1169, tw_1170⟩), (fun h => by cases h), by decide +kernel, rfl, rfl⟩
theorem m_J_fill : Zm false y_J_fill prog_12_method_103_code 4 none 2 (rl 0) := ⟨tw_372, tw_8, (fun h => by cases h), (fun _ => tw_371), by decide +kernel, rfl, rfl⟩
