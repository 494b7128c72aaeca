theorem iu_X0 : ∀ w ∈ u_ws RX0 TX0 9, w ∈ mz_ws := fun w h => List.mem_filter.mpr ⟨inX0 w h, List.all_eq_true.mp (show (u_ws RX0 TX0 9).all goodWord = true by decide +kernel) w h⟩
theorem iu_X1 : ∀ w ∈ u_ws RX1 TX1 4, w ∈ mz_ws := fun w h => List.mem_filter.mpr ⟨inX1 w h, List.all_eq_true.mp (show (u_ws RX1 TX1 4).all goodWord = true by decide +kernel) w h⟩
theorem iu_X2 : ∀ w ∈ u_ws RX2 TX2 8, w ∈ mz_ws := fun w h => List.mem_filter.mpr ⟨inX2 w h, List.all_eq_true.mp (show (u_ws RX2 TX2 8).all goodWord = true by decide +kernel) w h⟩
theorem iu_X3 : ∀ w ∈ u_ws RX3 TX3 2, w ∈ mz_ws := fun w h => List.mem_filter.mpr ⟨inX3 w h, List.all_eq_true.mp (show (u_ws RX3 TX3 2).all goodWord = true by decide +kernel) w h⟩
theorem iu_X4 : ∀ w ∈ u_ws RX4 TX4 7, w ∈ mz_ws := fun w h => List.mem_filter.mpr ⟨inX4 w h, List.all_eq_true.mp (show (u_ws RX4 TX4 7).all goodWord = true by decide +kernel) w h⟩
theorem iu_X5 : ∀ w ∈ u_ws RX5 TX5 5, w ∈ mz_ws := fun w h => List.mem_filter.mpr ⟨inX5 w h, List.all_eq_true.mp (show (u_ws RX5 TX5 5).all goodWord = true by decide +kernel) w h⟩
theorem iu_X6 : ∀ w ∈ u_ws RX6 TX6 1, w ∈ mz_ws := fun w h => List.mem_filter.mpr ⟨inX6 w h, List.all_eq_true.mp (show (u_ws RX6 TX6 1).all goodWord = true by decide +kernel) w h⟩
theorem iu_X7 : ∀ w ∈ u_ws RX7 TX7 10, w ∈ mz_ws := fun w h => List.mem_filter.mpr ⟨inX7 w h, List.all_eq_true.mp (show (u_ws RX7 TX7 10).all goodWord = true by decide +kernel) w h⟩
theorem iu_X8 : ∀ w ∈ u_ws RX8 TX8 7, w ∈ mz_ws := fun w h => List.mem_filter.mpr ⟨inX8 w h, List.all_eq_true.mp (show (u_ws RX8 TX8 7).all goodWord = true by decide +kernel) w h⟩
theorem iu_X9 : ∀ w ∈ u_ws RX9 TX9 4, w ∈ mz_ws := fun w h => List.mem_filter.mpr ⟨inX9 w h, List.all_eq_true.mp (show (u_ws RX9 TX9 4).all goodWord = true by decide +kernel) w h⟩
theorem iu_X10 : ∀ w ∈ u_ws RX10 TX10 12, w ∈ mz_ws := fun w h => List.mem_filter.mpr ⟨inX10 w h, List.all_eq_true.mp (show (u_ws RX10 TX10 12).all goodWord = true by decide +kernel) w h⟩
theorem hs_J6_bitCount_0f7a4 : mz_YS yJ6_bitCount_0f7a4 cJ6_bitCount_0f7a4 1 (some .int) 1 := ⟨mz_in 416 (by decide +kernel) (by decide +kernel), mz_in 51 (by decide +kernel) (by decide +kernel), mz_in 417 (by decide +kernel) (by decide +kernel), ⟨by decide +kernel, by decide +kernel, by decide +kernel⟩⟩
theorem hs_J7_fill_53178 : mz_YS yJ7_fill_53178 cJ7_fill_53178 4 none 2 := ⟨mz_in 207 (by decide +kernel) (by decide +kernel), mz_in 37 (by decide +kernel) (by decide +kernel), mz_in 208 (by decide +kernel) (by decide +kernel), ⟨by decide +kernel, by decide +kernel, by decide +kernel⟩⟩
theorem hs_J9_min_7cf53 : mz_YS yJ9_min_7cf53 cJ9_min_7cf53 2 (some .int) 2 := ⟨mz_in 438 (by decide +kernel) (by decide +kernel), mz_in 52 (by decide +kernel) (by decide +kernel), mz_in 439 (by decide +kernel) (by decide +kernel), ⟨by decide +kernel, by decide +kernel, by decide +kernel⟩⟩
theorem hy_X0_changeHabit : mz_Y yX0_changeHabit cX0_changeHabit 4 none 3 := ⟨mz_in 479 (by decide +kernel) (by decide +kernel), mz_in 480 (by decide +kernel) (by decide +kernel), mz_in 43 (by decide +kernel) (by decide +kernel), mz_in 481 (by decide +kernel) (by decide +kernel), ⟨by decide +kernel, by decide +kernel, by decide +kernel⟩⟩
theorem hy_X0_copyFrom : mz_Y yX0_copyFrom cX0_copyFrom 2 none 1 := ⟨mz_in 454 (by decide +kernel) (by decide +kernel), mz_in 455 (by decide +kernel) (by decide +kernel), mz_in 43 (by decide +kernel) (by decide +kernel), mz_in 456 (by decide +kernel) (by decide +kernel), ⟨by decide +kernel, by decide +kernel, by decide +kernel⟩⟩
theorem hy_X0_countKnowing : mz_Y yX0_countKnowing cX0_countKnowing 4 (some .int) 1 := ⟨mz_in 574 (by decide +kernel) (by decide +kernel), mz_in 575 (by decide +kernel) (by decide +kernel), mz_in 43 (by decide +kernel) (by decide +kernel), mz_in 576 (by decide +kernel) (by decide +kernel), ⟨by decide +kernel, by decide +kernel, by decide +kernel⟩⟩
theorem hy_X0_countKnownBy : mz_Y yX0_countKnownBy cX0_countKnownBy 2 (some .int) 1 := ⟨mz_in 464 (by decide +kernel) (by decide +kernel), mz_in 465 (by decide +kernel) (by decide +kernel), mz_in 43 (by decide +kernel) (by decide +kernel), mz_in 466 (by decide +kernel) (by decide +kernel), ⟨by decide +kernel, by decide +kernel, by decide +kernel⟩⟩
theorem hy_X0_enter : mz_Y yX0_enter cX0_enter 3 (some .int) 1 := ⟨mz_in 1133 (by decide +kernel) (by decide +kernel), mz_in 1134 (by decide +kernel) (by decide +kernel), mz_in 43 (by decide +kernel) (by decide +kernel), mz_in 1135 (by decide +kernel) (by decide +kernel), ⟨by decide +kernel, by decide +kernel, by decide +kernel⟩⟩
-- X0_init: no words (847, None, 43, None)
theorem hy_X0_knownByAny : mz_Y yX0_knownByAny cX0_knownByAny 3 (some .int) 0 := ⟨mz_in 412 (by decide +kernel) (by decide +kernel), mz_in 413 (by decide +kernel) (by decide +kernel), mz_in 43 (by decide +kernel) (by decide +kernel), mz_in 414 (by decide +kernel) (by decide +kernel), ⟨by decide +kernel, by decide +kernel, by decide +kernel⟩⟩
theorem hy_X0_knows : mz_Y yX0_knows cX0_knows 3 (some .boolean) 2 := ⟨mz_in 317 (by decide +kernel) (by decide +kernel), mz_in 318 (by decide +kernel) (by decide +kernel), mz_in 43 (by decide +kernel) (by decide +kernel), mz_in 319 (by decide +kernel) (by decide +kernel), ⟨by decide +kernel, by decide +kernel, by decide +kernel⟩⟩
theorem hy_X0_see : mz_Y yX0_see cX0_see 5 none 3 := ⟨mz_in 345 (by decide +kernel) (by decide +kernel), mz_in 346 (by decide +kernel) (by decide +kernel), mz_in 43 (by decide +kernel) (by decide +kernel), mz_in 347 (by decide +kernel) (by decide +kernel), ⟨by decide +kernel, by decide +kernel, by decide +kernel⟩⟩
theorem hy_X0_walk : mz_Y yX0_walk cX0_walk 3 none 2 := ⟨mz_in 331 (by decide +kernel) (by decide +kernel), mz_in 332 (by decide +kernel) (by decide +kernel), mz_in 43 (by decide +kernel) (by decide +kernel), mz_in 333 (by decide +kernel) (by decide +kernel), ⟨by decide +kernel, by decide +kernel, by decide +kernel⟩⟩
theorem hy_X10_canScene : mz_Y yX10_canScene cX10_canScene 6 (some .boolean) 1 := ⟨mz_in 1089 (by decide +kernel) (by decide +kernel), mz_in 1090 (by decide +kernel) (by decide +kernel), mz_in 32 (by decide +kernel) (by decide +kernel), mz_in 1091 (by decide +kernel) (by decide +kernel), ⟨by decide +kernel, by decide +kernel, by decide +kernel⟩⟩
theorem hy_X10_door : mz_Y yX10_door cX10_door 4 (some .boolean) 3 := ⟨mz_in 1023 (by decide +kernel) (by decide +kernel), mz_in 1024 (by decide +kernel) (by decide +kernel), mz_in 32 (by decide +kernel) (by decide +kernel), mz_in 1025 (by decide +kernel) (by decide +kernel), ⟨by decide +kernel, by decide +kernel, by decide +kernel⟩⟩
theorem hy_X10_doorOf : mz_Y yX10_doorOf cX10_doorOf 4 (some .int) 2 := ⟨mz_in 1053 (by decide +kernel) (by decide +kernel), mz_in 1054 (by decide +kernel) (by decide +kernel), mz_in 32 (by decide +kernel) (by decide +kernel), mz_in 1055 (by decide +kernel) (by decide +kernel), ⟨by decide +kernel, by decide +kernel, by decide +kernel⟩⟩
theorem hy_X10_draw : mz_Y yX10_draw cX10_draw 3 (some .int) 1 := ⟨mz_in 983 (by decide +kernel) (by decide +kernel), mz_in 984 (by decide +kernel) (by decide +kernel), mz_in 32 (by decide +kernel) (by decide +kernel), mz_in 985 (by decide +kernel) (by decide +kernel), ⟨by decide +kernel, by decide +kernel, by decide +kernel⟩⟩
theorem hy_X10_found : mz_Y yX10_found cX10_found 6 (some .boolean) 1 := ⟨mz_in 1001 (by decide +kernel) (by decide +kernel), mz_in 1002 (by decide +kernel) (by decide +kernel), mz_in 32 (by decide +kernel) (by decide +kernel), mz_in 1003 (by decide +kernel) (by decide +kernel), ⟨by decide +kernel, by decide +kernel, by decide +kernel⟩⟩
theorem hy_X10_guest : mz_Y yX10_guest cX10_guest 2 (some .boolean) 1 := ⟨mz_in 1123 (by decide +kernel) (by decide +kernel), mz_in 1124 (by decide +kernel) (by decide +kernel), mz_in 32 (by decide +kernel) (by decide +kernel), mz_in 1125 (by decide +kernel) (by decide +kernel), ⟨by decide +kernel, by decide +kernel, by decide +kernel⟩⟩
theorem hy_X10_guestsIn : mz_Y yX10_guestsIn cX10_guestsIn 7 (some .int) 1 := ⟨mz_in 1119 (by decide +kernel) (by decide +kernel), mz_in 1120 (by decide +kernel) (by decide +kernel), mz_in 32 (by decide +kernel) (by decide +kernel), mz_in 1121 (by decide +kernel) (by decide +kernel), ⟨by decide +kernel, by decide +kernel, by decide +kernel⟩⟩
theorem hy_X10_habit : mz_Y yX10_habit cX10_habit 5 (some .boolean) 3 := ⟨mz_in 1138 (by decide +kernel) (by decide +kernel), mz_in 1139 (by decide +kernel) (by decide +kernel), mz_in 32 (by decide +kernel) (by decide +kernel), mz_in 1140 (by decide +kernel) (by decide +kernel), ⟨by decide +kernel, by decide +kernel, by decide +kernel⟩⟩
theorem hs_X10_has : mz_YS yX10_has cX10_has 2 (some .boolean) 2 := ⟨mz_in 995 (by decide +kernel) (by decide +kernel), mz_in 32 (by decide +kernel) (by decide +kernel), mz_in 996 (by decide +kernel) (by decide +kernel), ⟨by decide +kernel, by decide +kernel, by decide +kernel⟩⟩
-- X10_init: no words (607, None, 32, None)
theorem hs_X10_overlap : mz_YS yX10_overlap cX10_overlap 3 (some .boolean) 2 := ⟨mz_in 1093 (by decide +kernel) (by decide +kernel), mz_in 32 (by decide +kernel) (by decide +kernel), mz_in 1094 (by decide +kernel) (by decide +kernel), ⟨by decide +kernel, by decide +kernel, by decide +kernel⟩⟩
theorem hy_X10_prop : mz_Y yX10_prop cX10_prop 2 (some .boolean) 1 := ⟨mz_in 1075 (by decide +kernel) (by decide +kernel), mz_in 1076 (by decide +kernel) (by decide +kernel), mz_in 32 (by decide +kernel) (by decide +kernel), mz_in 1077 (by decide +kernel) (by decide +kernel), ⟨by decide +kernel, by decide +kernel, by decide +kernel⟩⟩
theorem hy_X10_room : mz_Y yX10_room cX10_room 3 (some .boolean) 1 := ⟨mz_in 1006 (by decide +kernel) (by decide +kernel), mz_in 1007 (by decide +kernel) (by decide +kernel), mz_in 32 (by decide +kernel) (by decide +kernel), mz_in 1008 (by decide +kernel) (by decide +kernel), ⟨by decide +kernel, by decide +kernel, by decide +kernel⟩⟩
theorem hs_X10_size : mz_YS yX10_size cX10_size 3 (some .int) 1 := ⟨mz_in 998 (by decide +kernel) (by decide +kernel), mz_in 32 (by decide +kernel) (by decide +kernel), mz_in 999 (by decide +kernel) (by decide +kernel), ⟨by decide +kernel, by decide +kernel, by decide +kernel⟩⟩
theorem hy_X10_track : mz_Y yX10_track cX10_track 2 (some .boolean) 1 := ⟨mz_in 1057 (by decide +kernel) (by decide +kernel), mz_in 1058 (by decide +kernel) (by decide +kernel), mz_in 32 (by decide +kernel) (by decide +kernel), mz_in 1059 (by decide +kernel) (by decide +kernel), ⟨by decide +kernel, by decide +kernel, by decide +kernel⟩⟩
theorem hy_X1_anyIsPlayed : mz_Y yX1_anyIsPlayed cX1_anyIsPlayed 2 (some .boolean) 0 := ⟨mz_in 1110 (by decide +kernel) (by decide +kernel), mz_in 1111 (by decide +kernel) (by decide +kernel), mz_in 40 (by decide +kernel) (by decide +kernel), mz_in 1112 (by decide +kernel) (by decide +kernel), ⟨by decide +kernel, by decide +kernel, by decide +kernel⟩⟩
theorem hy_X1_copyFrom : mz_Y yX1_copyFrom cX1_copyFrom 2 none 1 := ⟨mz_in 430 (by decide +kernel) (by decide +kernel), mz_in 431 (by decide +kernel) (by decide +kernel), mz_in 40 (by decide +kernel) (by decide +kernel), mz_in 432 (by decide +kernel) (by decide +kernel), ⟨by decide +kernel, by decide +kernel, by decide +kernel⟩⟩
theorem hy_X1_endDouble : mz_Y yX1_endDouble cX1_endDouble 2 none 1 := ⟨mz_in 383 (by decide +kernel) (by decide +kernel), mz_in 384 (by decide +kernel) (by decide +kernel), mz_in 40 (by decide +kernel) (by decide +kernel), mz_in 385 (by decide +kernel) (by decide +kernel), ⟨by decide +kernel, by decide +kernel, by decide +kernel⟩⟩
theorem hy_X1_enter : mz_Y yX1_enter cX1_enter 3 none 2 := ⟨mz_in 1071 (by decide +kernel) (by decide +kernel), mz_in 1072 (by decide +kernel) (by decide +kernel), mz_in 40 (by decide +kernel) (by decide +kernel), mz_in 1073 (by decide +kernel) (by decide +kernel), ⟨by decide +kernel, by decide +kernel, by decide +kernel⟩⟩
-- X1_init: no words (756, None, 40, None)
theorem hy_X1_isSingle : mz_Y yX1_isSingle cX1_isSingle 2 (some .boolean) 1 := ⟨mz_in 499 (by decide +kernel) (by decide +kernel), mz_in 500 (by decide +kernel) (by decide +kernel), mz_in 40 (by decide +kernel) (by decide +kernel), mz_in 501 (by decide +kernel) (by decide +kernel), ⟨by decide +kernel, by decide +kernel, by decide +kernel⟩⟩
theorem hy_X1_rolesOf : mz_Y yX1_rolesOf cX1_rolesOf 4 (some .int) 1 := ⟨mz_in 218 (by decide +kernel) (by decide +kernel), mz_in 219 (by decide +kernel) (by decide +kernel), mz_in 40 (by decide +kernel) (by decide +kernel), mz_in 220 (by decide +kernel) (by decide +kernel), ⟨by decide +kernel, by decide +kernel, by decide +kernel⟩⟩
theorem hy_X1_setIn : mz_Y yX1_setIn cX1_setIn 4 (some .int) 1 := ⟨mz_in 275 (by decide +kernel) (by decide +kernel), mz_in 276 (by decide +kernel) (by decide +kernel), mz_in 40 (by decide +kernel) (by decide +kernel), mz_in 277 (by decide +kernel) (by decide +kernel), ⟨by decide +kernel, by decide +kernel, by decide +kernel⟩⟩
theorem hy_X1_startDouble : mz_Y yX1_startDouble cX1_startDouble 3 none 2 := ⟨mz_in 1161 (by decide +kernel) (by decide +kernel), mz_in 1162 (by decide +kernel) (by decide +kernel), mz_in 40 (by decide +kernel) (by decide +kernel), mz_in 1163 (by decide +kernel) (by decide +kernel), ⟨by decide +kernel, by decide +kernel, by decide +kernel⟩⟩
theorem hy_X1_walk : mz_Y yX1_walk cX1_walk 5 none 2 := ⟨mz_in 242 (by decide +kernel) (by decide +kernel), mz_in 243 (by decide +kernel) (by decide +kernel), mz_in 40 (by decide +kernel) (by decide +kernel), mz_in 244 (by decide +kernel) (by decide +kernel), ⟨by decide +kernel, by decide +kernel, by decide +kernel⟩⟩
theorem hy_X1_withDoubles : mz_Y yX1_withDoubles cX1_withDoubles 5 (some .int) 1 := ⟨mz_in 279 (by decide +kernel) (by decide +kernel), mz_in 280 (by decide +kernel) (by decide +kernel), mz_in 40 (by decide +kernel) (by decide +kernel), mz_in 281 (by decide +kernel) (by decide +kernel), ⟨by decide +kernel, by decide +kernel, by decide +kernel⟩⟩
theorem hy_X2_beginLoop : mz_Y yX2_beginLoop cX2_beginLoop 1 none 0 := ⟨mz_in 156 (by decide +kernel) (by decide +kernel), mz_in 1 (by decide +kernel) (by decide +kernel), mz_in 39 (by decide +kernel) (by decide +kernel), mz_in 158 (by decide +kernel) (by decide +kernel), ⟨by decide +kernel, by decide +kernel, by decide +kernel⟩⟩
theorem hy_X2_canBegin : mz_Y yX2_canBegin cX2_canBegin 4 (some .boolean) 1 := ⟨mz_in 272 (by decide +kernel) (by decide +kernel), mz_in 8 (by decide +kernel) (by decide +kernel), mz_in 39 (by decide +kernel) (by decide +kernel), mz_in 273 (by decide +kernel) (by decide +kernel), ⟨by decide +kernel, by decide +kernel, by decide +kernel⟩⟩
theorem hy_X2_canDouble : mz_Y yX2_canDouble cX2_canDouble 4 (some .boolean) 2 := ⟨mz_in 495 (by decide +kernel) (by decide +kernel), mz_in 496 (by decide +kernel) (by decide +kernel), mz_in 39 (by decide +kernel) (by decide +kernel), mz_in 497 (by decide +kernel) (by decide +kernel), ⟨by decide +kernel, by decide +kernel, by decide +kernel⟩⟩
theorem hy_X2_continueScene : mz_Y yX2_continueScene cX2_continueScene 3 none 1 := ⟨mz_in 255 (by decide +kernel) (by decide +kernel), mz_in 6 (by decide +kernel) (by decide +kernel), mz_in 39 (by decide +kernel) (by decide +kernel), mz_in 256 (by decide +kernel) (by decide +kernel), ⟨by decide +kernel, by decide +kernel, by decide +kernel⟩⟩
theorem hy_X2_copyFrom : mz_Y yX2_copyFrom cX2_copyFrom 2 none 1 := ⟨mz_in 426 (by decide +kernel) (by decide +kernel), mz_in 427 (by decide +kernel) (by decide +kernel), mz_in 39 (by decide +kernel) (by decide +kernel), mz_in 428 (by decide +kernel) (by decide +kernel), ⟨by decide +kernel, by decide +kernel, by decide +kernel⟩⟩
theorem hy_X2_emptierRoom : mz_Y yX2_emptierRoom cX2_emptierRoom 4 (some .int) 1 := ⟨mz_in 306 (by decide +kernel) (by decide +kernel), mz_in 12 (by decide +kernel) (by decide +kernel), mz_in 39 (by decide +kernel) (by decide +kernel), mz_in 307 (by decide +kernel) (by decide +kernel), ⟨by decide +kernel, by decide +kernel, by decide +kernel⟩⟩
theorem hy_X2_greatestTrack : mz_Y yX2_greatestTrack cX2_greatestTrack 4 (some .int) 1 := ⟨mz_in 263 (by decide +kernel) (by decide +kernel), mz_in 7 (by decide +kernel) (by decide +kernel), mz_in 39 (by decide +kernel) (by decide +kernel), mz_in 264 (by decide +kernel) (by decide +kernel), ⟨by decide +kernel, by decide +kernel, by decide +kernel⟩⟩
theorem hy_X2_hasProp : mz_Y yX2_hasProp cX2_hasProp 4 (some .boolean) 1 := ⟨mz_in 284 (by decide +kernel) (by decide +kernel), mz_in 9 (by decide +kernel) (by decide +kernel), mz_in 39 (by decide +kernel) (by decide +kernel), mz_in 285 (by decide +kernel) (by decide +kernel), ⟨by decide +kernel, by decide +kernel, by decide +kernel⟩⟩
-- X2_init: no words (748, None, 39, None)
theorem hy_X2_isFull : mz_Y yX2_isFull cX2_isFull 2 (some .boolean) 1 := ⟨mz_in 326 (by decide +kernel) (by decide +kernel), mz_in 327 (by decide +kernel) (by decide +kernel), mz_in 39 (by decide +kernel) (by decide +kernel), mz_in 328 (by decide +kernel) (by decide +kernel), ⟨by decide +kernel, by decide +kernel, by decide +kernel⟩⟩
theorem hy_X2_moveGuest : mz_Y yX2_moveGuest cX2_moveGuest 4 none 3 := ⟨mz_in 323 (by decide +kernel) (by decide +kernel), mz_in 14 (by decide +kernel) (by decide +kernel), mz_in 39 (by decide +kernel) (by decide +kernel), mz_in 324 (by decide +kernel) (by decide +kernel), ⟨by decide +kernel, by decide +kernel, by decide +kernel⟩⟩
theorem hy_X2_moveGuests : mz_Y yX2_moveGuests cX2_moveGuests 4 none 0 := ⟨mz_in 297 (by decide +kernel) (by decide +kernel), mz_in 10 (by decide +kernel) (by decide +kernel), mz_in 39 (by decide +kernel) (by decide +kernel), mz_in 298 (by decide +kernel) (by decide +kernel), ⟨by decide +kernel, by decide +kernel, by decide +kernel⟩⟩
theorem hy_X2_moveTrack : mz_Y yX2_moveTrack cX2_moveTrack 5 none 2 := ⟨mz_in 234 (by decide +kernel) (by decide +kernel), mz_in 4 (by decide +kernel) (by decide +kernel), mz_in 39 (by decide +kernel) (by decide +kernel), mz_in 235 (by decide +kernel) (by decide +kernel), ⟨by decide +kernel, by decide +kernel, by decide +kernel⟩⟩
theorem hy_X2_moveTracks : mz_Y yX2_moveTracks cX2_moveTracks 5 none 0 := ⟨mz_in 211 (by decide +kernel) (by decide +kernel), mz_in 3 (by decide +kernel) (by decide +kernel), mz_in 39 (by decide +kernel) (by decide +kernel), mz_in 212 (by decide +kernel) (by decide +kernel), ⟨by decide +kernel, by decide +kernel, by decide +kernel⟩⟩
theorem hy_X2_nextRoomOf : mz_Y yX2_nextRoomOf cX2_nextRoomOf 3 (some .int) 2 := ⟨mz_in 302 (by decide +kernel) (by decide +kernel), mz_in 11 (by decide +kernel) (by decide +kernel), mz_in 39 (by decide +kernel) (by decide +kernel), mz_in 303 (by decide +kernel) (by decide +kernel), ⟨by decide +kernel, by decide +kernel, by decide +kernel⟩⟩
theorem hy_X2_nextRoomToScene : mz_Y yX2_nextRoomToScene cX2_nextRoomToScene 8 (some .int) 2 := ⟨mz_in 314 (by decide +kernel) (by decide +kernel), mz_in 13 (by decide +kernel) (by decide +kernel), mz_in 39 (by decide +kernel) (by decide +kernel), mz_in 315 (by decide +kernel) (by decide +kernel), ⟨by decide +kernel, by decide +kernel, by decide +kernel⟩⟩
theorem hy_X2_performScenes : mz_Y yX2_performScenes cX2_performScenes 3 none 0 := ⟨mz_in 250 (by decide +kernel) (by decide +kernel), mz_in 5 (by decide +kernel) (by decide +kernel), mz_in 39 (by decide +kernel) (by decide +kernel), mz_in 251 (by decide +kernel) (by decide +kernel), ⟨by decide +kernel, by decide +kernel, by decide +kernel⟩⟩
theorem hy_X2_roomOfProp : mz_Y yX2_roomOfProp cX2_roomOfProp 2 (some .int) 1 := ⟨mz_in 592 (by decide +kernel) (by decide +kernel), mz_in 593 (by decide +kernel) (by decide +kernel), mz_in 39 (by decide +kernel) (by decide +kernel), mz_in 594 (by decide +kernel) (by decide +kernel), ⟨by decide +kernel, by decide +kernel, by decide +kernel⟩⟩
theorem hy_X2_run : mz_Y yX2_run cX2_run 3 none 1 := ⟨mz_in 151 (by decide +kernel) (by decide +kernel), mz_in 152 (by decide +kernel) (by decide +kernel), mz_in 39 (by decide +kernel) (by decide +kernel), mz_in 153 (by decide +kernel) (by decide +kernel), ⟨by decide +kernel, by decide +kernel, by decide +kernel⟩⟩
theorem hy_X2_showScene : mz_Y yX2_showScene cX2_showScene 6 none 1 := ⟨mz_in 342 (by decide +kernel) (by decide +kernel), mz_in 16 (by decide +kernel) (by decide +kernel), mz_in 39 (by decide +kernel) (by decide +kernel), mz_in 343 (by decide +kernel) (by decide +kernel), ⟨by decide +kernel, by decide +kernel, by decide +kernel⟩⟩
theorem hy_X2_showScenes : mz_Y yX2_showScenes cX2_showScenes 2 none 0 := ⟨mz_in 338 (by decide +kernel) (by decide +kernel), mz_in 15 (by decide +kernel) (by decide +kernel), mz_in 39 (by decide +kernel) (by decide +kernel), mz_in 339 (by decide +kernel) (by decide +kernel), ⟨by decide +kernel, by decide +kernel, by decide +kernel⟩⟩
theorem hy_X3_copyFrom : mz_Y yX3_copyFrom cX3_copyFrom 2 none 1 := ⟨mz_in 459 (by decide +kernel) (by decide +kernel), mz_in 460 (by decide +kernel) (by decide +kernel), mz_in 36 (by decide +kernel) (by decide +kernel), mz_in 461 (by decide +kernel) (by decide +kernel), ⟨by decide +kernel, by decide +kernel, by decide +kernel⟩⟩
theorem hy_X3_fill : mz_Y yX3_fill cX3_fill 2 none 1 := ⟨mz_in 199 (by decide +kernel) (by decide +kernel), mz_in 200 (by decide +kernel) (by decide +kernel), mz_in 36 (by decide +kernel) (by decide +kernel), mz_in 201 (by decide +kernel) (by decide +kernel), ⟨by decide +kernel, by decide +kernel, by decide +kernel⟩⟩
theorem hy_X3_get : mz_Y yX3_get cX3_get 3 (some .int) 2 := ⟨mz_in 237 (by decide +kernel) (by decide +kernel), mz_in 238 (by decide +kernel) (by decide +kernel), mz_in 36 (by decide +kernel) (by decide +kernel), mz_in 239 (by decide +kernel) (by decide +kernel), ⟨by decide +kernel, by decide +kernel, by decide +kernel⟩⟩
-- X3_init: no words (635, None, 36, None)
theorem hy_X3_set : mz_Y yX3_set cX3_set 4 none 3 := ⟨mz_in 350 (by decide +kernel) (by decide +kernel), mz_in 351 (by decide +kernel) (by decide +kernel), mz_in 36 (by decide +kernel) (by decide +kernel), mz_in 352 (by decide +kernel) (by decide +kernel), ⟨by decide +kernel, by decide +kernel, by decide +kernel⟩⟩
theorem hy_X4_addDoor : mz_Y yX4_addDoor cX4_addDoor 7 (some .int) 3 := ⟨mz_in 1036 (by decide +kernel) (by decide +kernel), mz_in 1037 (by decide +kernel) (by decide +kernel), mz_in 34 (by decide +kernel) (by decide +kernel), mz_in 1038 (by decide +kernel) (by decide +kernel), ⟨by decide +kernel, by decide +kernel, by decide +kernel⟩⟩
theorem hy_X4_addRoom : mz_Y yX4_addRoom cX4_addRoom 3 (some .int) 1 := ⟨mz_in 1017 (by decide +kernel) (by decide +kernel), mz_in 1018 (by decide +kernel) (by decide +kernel), mz_in 34 (by decide +kernel) (by decide +kernel), mz_in 1019 (by decide +kernel) (by decide +kernel), ⟨by decide +kernel, by decide +kernel, by decide +kernel⟩⟩
theorem hy_X4_findNext : mz_Y yX4_findNext cX4_findNext 5 (some .int) 2 := ⟨mz_in 1050 (by decide +kernel) (by decide +kernel), mz_in 30 (by decide +kernel) (by decide +kernel), mz_in 34 (by decide +kernel) (by decide +kernel), mz_in 1051 (by decide +kernel) (by decide +kernel), ⟨by decide +kernel, by decide +kernel, by decide +kernel⟩⟩
-- X4_init: no words (618, None, 34, None)
theorem hy_X4_shortenWay : mz_Y yX4_shortenWay cX4_shortenWay 7 none 4 := ⟨mz_in 1046 (by decide +kernel) (by decide +kernel), mz_in 29 (by decide +kernel) (by decide +kernel), mz_in 34 (by decide +kernel) (by decide +kernel), mz_in 1047 (by decide +kernel) (by decide +kernel), ⟨by decide +kernel, by decide +kernel, by decide +kernel⟩⟩
theorem hy_X4_shortenWays : mz_Y yX4_shortenWays cX4_shortenWays 5 none 2 := ⟨mz_in 1041 (by decide +kernel) (by decide +kernel), mz_in 28 (by decide +kernel) (by decide +kernel), mz_in 34 (by decide +kernel) (by decide +kernel), mz_in 1042 (by decide +kernel) (by decide +kernel), ⟨by decide +kernel, by decide +kernel, by decide +kernel⟩⟩
theorem hy_X5_copyFrom : mz_Y yX5_copyFrom cX5_copyFrom 2 none 1 := ⟨mz_in 449 (by decide +kernel) (by decide +kernel), mz_in 450 (by decide +kernel) (by decide +kernel), mz_in 42 (by decide +kernel) (by decide +kernel), mz_in 451 (by decide +kernel) (by decide +kernel), ⟨by decide +kernel, by decide +kernel, by decide +kernel⟩⟩
theorem hy_X5_giveToTrack : mz_Y yX5_giveToTrack cX5_giveToTrack 3 none 2 := ⟨mz_in 266 (by decide +kernel) (by decide +kernel), mz_in 267 (by decide +kernel) (by decide +kernel), mz_in 42 (by decide +kernel) (by decide +kernel), mz_in 268 (by decide +kernel) (by decide +kernel), ⟨by decide +kernel, by decide +kernel, by decide +kernel⟩⟩
theorem hy_X5_goHome : mz_Y yX5_goHome cX5_goHome 2 none 0 := ⟨mz_in 189 (by decide +kernel) (by decide +kernel), mz_in 190 (by decide +kernel) (by decide +kernel), mz_in 42 (by decide +kernel) (by decide +kernel), mz_in 191 (by decide +kernel) (by decide +kernel), ⟨by decide +kernel, by decide +kernel, by decide +kernel⟩⟩
theorem hy_X5_heldByGuest : mz_Y yX5_heldByGuest cX5_heldByGuest 3 (some .int) 1 := ⟨mz_in 400 (by decide +kernel) (by decide +kernel), mz_in 401 (by decide +kernel) (by decide +kernel), mz_in 42 (by decide +kernel) (by decide +kernel), mz_in 402 (by decide +kernel) (by decide +kernel), ⟨by decide +kernel, by decide +kernel, by decide +kernel⟩⟩
-- X5_init: no words (817, None, 42, None)
theorem hy_X5_lay : mz_Y yX5_lay cX5_lay 3 none 2 := ⟨mz_in 194 (by decide +kernel) (by decide +kernel), mz_in 195 (by decide +kernel) (by decide +kernel), mz_in 42 (by decide +kernel) (by decide +kernel), mz_in 196 (by decide +kernel) (by decide +kernel), ⟨by decide +kernel, by decide +kernel, by decide +kernel⟩⟩
theorem hy_X5_lyingIn : mz_Y yX5_lyingIn cX5_lyingIn 4 (some .int) 1 := ⟨mz_in 537 (by decide +kernel) (by decide +kernel), mz_in 538 (by decide +kernel) (by decide +kernel), mz_in 42 (by decide +kernel) (by decide +kernel), mz_in 539 (by decide +kernel) (by decide +kernel), ⟨by decide +kernel, by decide +kernel, by decide +kernel⟩⟩
theorem hy_X6_add : mz_Y yX6_add cX6_add 3 none 2 := ⟨mz_in 185 (by decide +kernel) (by decide +kernel), mz_in 186 (by decide +kernel) (by decide +kernel), mz_in 35 (by decide +kernel) (by decide +kernel), mz_in 187 (by decide +kernel) (by decide +kernel), ⟨by decide +kernel, by decide +kernel, by decide +kernel⟩⟩
theorem hy_X6_copyFrom : mz_Y yX6_copyFrom cX6_copyFrom 2 none 1 := ⟨mz_in 434 (by decide +kernel) (by decide +kernel), mz_in 435 (by decide +kernel) (by decide +kernel), mz_in 35 (by decide +kernel) (by decide +kernel), mz_in 436 (by decide +kernel) (by decide +kernel), ⟨by decide +kernel, by decide +kernel, by decide +kernel⟩⟩
theorem hy_X6_fill : mz_Y yX6_fill cX6_fill 2 none 1 := ⟨mz_in 203 (by decide +kernel) (by decide +kernel), mz_in 204 (by decide +kernel) (by decide +kernel), mz_in 35 (by decide +kernel) (by decide +kernel), mz_in 205 (by decide +kernel) (by decide +kernel), ⟨by decide +kernel, by decide +kernel, by decide +kernel⟩⟩
theorem hy_X6_get : mz_Y yX6_get cX6_get 2 (some .int) 1 := ⟨mz_in 168 (by decide +kernel) (by decide +kernel), mz_in 169 (by decide +kernel) (by decide +kernel), mz_in 35 (by decide +kernel) (by decide +kernel), mz_in 170 (by decide +kernel) (by decide +kernel), ⟨by decide +kernel, by decide +kernel, by decide +kernel⟩⟩
-- X6_init: no words (624, None, 35, None)
theorem hy_X6_set : mz_Y yX6_set cX6_set 3 none 2 := ⟨mz_in 181 (by decide +kernel) (by decide +kernel), mz_in 182 (by decide +kernel) (by decide +kernel), mz_in 35 (by decide +kernel) (by decide +kernel), mz_in 183 (by decide +kernel) (by decide +kernel), ⟨by decide +kernel, by decide +kernel, by decide +kernel⟩⟩
theorem hy_X6_sum : mz_Y yX6_sum cX6_sum 3 (some .int) 0 := ⟨mz_in 147 (by decide +kernel) (by decide +kernel), mz_in 148 (by decide +kernel) (by decide +kernel), mz_in 35 (by decide +kernel) (by decide +kernel), mz_in 149 (by decide +kernel) (by decide +kernel), ⟨by decide +kernel, by decide +kernel, by decide +kernel⟩⟩
theorem hy_X7_addProp : mz_Y yX7_addProp cX7_addProp 3 (some .int) 1 := ⟨mz_in 1084 (by decide +kernel) (by decide +kernel), mz_in 1085 (by decide +kernel) (by decide +kernel), mz_in 38 (by decide +kernel) (by decide +kernel), mz_in 1086 (by decide +kernel) (by decide +kernel), ⟨by decide +kernel, by decide +kernel, by decide +kernel⟩⟩
theorem hy_X7_addScene : mz_Y yX7_addScene cX7_addScene 7 (some .int) 5 := ⟨mz_in 1115 (by decide +kernel) (by decide +kernel), mz_in 1116 (by decide +kernel) (by decide +kernel), mz_in 38 (by decide +kernel) (by decide +kernel), mz_in 1117 (by decide +kernel) (by decide +kernel), ⟨by decide +kernel, by decide +kernel, by decide +kernel⟩⟩
theorem hy_X7_addTrack : mz_Y yX7_addTrack cX7_addTrack 3 (some .int) 1 := ⟨mz_in 1066 (by decide +kernel) (by decide +kernel), mz_in 1067 (by decide +kernel) (by decide +kernel), mz_in 38 (by decide +kernel) (by decide +kernel), mz_in 1068 (by decide +kernel) (by decide +kernel), ⟨by decide +kernel, by decide +kernel, by decide +kernel⟩⟩
theorem hy_X7_areTracks : mz_Y yX7_areTracks cX7_areTracks 2 (some .boolean) 1 := ⟨mz_in 1104 (by decide +kernel) (by decide +kernel), mz_in 1105 (by decide +kernel) (by decide +kernel), mz_in 38 (by decide +kernel) (by decide +kernel), mz_in 1106 (by decide +kernel) (by decide +kernel), ⟨by decide +kernel, by decide +kernel, by decide +kernel⟩⟩
theorem hy_X7_countScenesOf : mz_Y yX7_countScenesOf cX7_countScenesOf 4 (some .int) 1 := ⟨mz_in 1165 (by decide +kernel) (by decide +kernel), mz_in 1166 (by decide +kernel) (by decide +kernel), mz_in 38 (by decide +kernel) (by decide +kernel), mz_in 1167 (by decide +kernel) (by decide +kernel), ⟨by decide +kernel, by decide +kernel, by decide +kernel⟩⟩
theorem hy_X7_has : mz_Y yX7_has cX7_has 3 (some .boolean) 2 := ⟨mz_in 228 (by decide +kernel) (by decide +kernel), mz_in 229 (by decide +kernel) (by decide +kernel), mz_in 38 (by decide +kernel) (by decide +kernel), mz_in 230 (by decide +kernel) (by decide +kernel), ⟨by decide +kernel, by decide +kernel, by decide +kernel⟩⟩
-- X7_init: no words (685, None, 38, None)
theorem hy_X7_overlap : mz_Y yX7_overlap cX7_overlap 4 (some .boolean) 2 := ⟨mz_in 503 (by decide +kernel) (by decide +kernel), mz_in 504 (by decide +kernel) (by decide +kernel), mz_in 38 (by decide +kernel) (by decide +kernel), mz_in 505 (by decide +kernel) (by decide +kernel), ⟨by decide +kernel, by decide +kernel, by decide +kernel⟩⟩
theorem hy_X7_overlapsSceneOf : mz_Y yX7_overlapsSceneOf cX7_overlapsSceneOf 7 (some .boolean) 3 := ⟨mz_in 508 (by decide +kernel) (by decide +kernel), mz_in 509 (by decide +kernel) (by decide +kernel), mz_in 38 (by decide +kernel) (by decide +kernel), mz_in 510 (by decide +kernel) (by decide +kernel), ⟨by decide +kernel, by decide +kernel, by decide +kernel⟩⟩
theorem hy_X8_begin : mz_Y yX8_begin cX8_begin 2 none 1 := ⟨mz_in 288 (by decide +kernel) (by decide +kernel), mz_in 289 (by decide +kernel) (by decide +kernel), mz_in 41 (by decide +kernel) (by decide +kernel), mz_in 290 (by decide +kernel) (by decide +kernel), ⟨by decide +kernel, by decide +kernel, by decide +kernel⟩⟩
theorem hy_X8_busyTracks : mz_Y yX8_busyTracks cX8_busyTracks 3 (some .int) 0 := ⟨mz_in 214 (by decide +kernel) (by decide +kernel), mz_in 215 (by decide +kernel) (by decide +kernel), mz_in 41 (by decide +kernel) (by decide +kernel), mz_in 216 (by decide +kernel) (by decide +kernel), ⟨by decide +kernel, by decide +kernel, by decide +kernel⟩⟩
theorem hy_X8_copyFrom : mz_Y yX8_copyFrom cX8_copyFrom 2 none 1 := ⟨mz_in 444 (by decide +kernel) (by decide +kernel), mz_in 445 (by decide +kernel) (by decide +kernel), mz_in 41 (by decide +kernel) (by decide +kernel), mz_in 446 (by decide +kernel) (by decide +kernel), ⟨by decide +kernel, by decide +kernel, by decide +kernel⟩⟩
theorem hy_X8_countRunning : mz_Y yX8_countRunning cX8_countRunning 3 (some .int) 0 := ⟨mz_in 408 (by decide +kernel) (by decide +kernel), mz_in 409 (by decide +kernel) (by decide +kernel), mz_in 41 (by decide +kernel) (by decide +kernel), mz_in 410 (by decide +kernel) (by decide +kernel), ⟨by decide +kernel, by decide +kernel, by decide +kernel⟩⟩
theorem hy_X8_cut : mz_Y yX8_cut cX8_cut 2 none 1 := ⟨mz_in 177 (by decide +kernel) (by decide +kernel), mz_in 2 (by decide +kernel) (by decide +kernel), mz_in 41 (by decide +kernel) (by decide +kernel), mz_in 179 (by decide +kernel) (by decide +kernel), ⟨by decide +kernel, by decide +kernel, by decide +kernel⟩⟩
theorem hy_X8_delay : mz_Y yX8_delay cX8_delay 2 none 1 := ⟨mz_in 292 (by decide +kernel) (by decide +kernel), mz_in 293 (by decide +kernel) (by decide +kernel), mz_in 41 (by decide +kernel) (by decide +kernel), mz_in 294 (by decide +kernel) (by decide +kernel), ⟨by decide +kernel, by decide +kernel, by decide +kernel⟩⟩
theorem hy_X8_goOn : mz_Y yX8_goOn cX8_goOn 2 none 1 := ⟨mz_in 258 (by decide +kernel) (by decide +kernel), mz_in 259 (by decide +kernel) (by decide +kernel), mz_in 41 (by decide +kernel) (by decide +kernel), mz_in 260 (by decide +kernel) (by decide +kernel), ⟨by decide +kernel, by decide +kernel, by decide +kernel⟩⟩
-- X8_init: no words (781, None, 41, None)
theorem hy_X8_nextSceneOf : mz_Y yX8_nextSceneOf cX8_nextSceneOf 4 (some .int) 1 := ⟨mz_in 224 (by decide +kernel) (by decide +kernel), mz_in 225 (by decide +kernel) (by decide +kernel), mz_in 41 (by decide +kernel) (by decide +kernel), mz_in 226 (by decide +kernel) (by decide +kernel), ⟨by decide +kernel, by decide +kernel, by decide +kernel⟩⟩
theorem hy_X8_restart : mz_Y yX8_restart cX8_restart 2 none 0 := ⟨mz_in 160 (by decide +kernel) (by decide +kernel), mz_in 161 (by decide +kernel) (by decide +kernel), mz_in 41 (by decide +kernel) (by decide +kernel), mz_in 162 (by decide +kernel) (by decide +kernel), ⟨by decide +kernel, by decide +kernel, by decide +kernel⟩⟩
theorem hy_X8_runningIn : mz_Y yX8_runningIn cX8_runningIn 4 (some .int) 1 := ⟨mz_in 309 (by decide +kernel) (by decide +kernel), mz_in 310 (by decide +kernel) (by decide +kernel), mz_in 41 (by decide +kernel) (by decide +kernel), mz_in 311 (by decide +kernel) (by decide +kernel), ⟨by decide +kernel, by decide +kernel, by decide +kernel⟩⟩
theorem hy_X8_runningWith : mz_Y yX8_runningWith cX8_runningWith 3 (some .int) 1 := ⟨mz_in 554 (by decide +kernel) (by decide +kernel), mz_in 555 (by decide +kernel) (by decide +kernel), mz_in 41 (by decide +kernel) (by decide +kernel), mz_in 556 (by decide +kernel) (by decide +kernel), ⟨by decide +kernel, by decide +kernel, by decide +kernel⟩⟩
theorem hy_X8_runs : mz_Y yX8_runs cX8_runs 2 (some .boolean) 1 := ⟨mz_in 172 (by decide +kernel) (by decide +kernel), mz_in 173 (by decide +kernel) (by decide +kernel), mz_in 41 (by decide +kernel) (by decide +kernel), mz_in 174 (by decide +kernel) (by decide +kernel), ⟨by decide +kernel, by decide +kernel, by decide +kernel⟩⟩
theorem hy_X8_waits : mz_Y yX8_waits cX8_waits 2 (some .boolean) 1 := ⟨mz_in 164 (by decide +kernel) (by decide +kernel), mz_in 165 (by decide +kernel) (by decide +kernel), mz_in 41 (by decide +kernel) (by decide +kernel), mz_in 166 (by decide +kernel) (by decide +kernel), ⟨by decide +kernel, by decide +kernel, by decide +kernel⟩⟩
theorem hy_X9_bestHabit : mz_Y yX9_bestHabit cX9_bestHabit 7 (some .int) 2 := ⟨mz_in 469 (by decide +kernel) (by decide +kernel), mz_in 470 (by decide +kernel) (by decide +kernel), mz_in 33 (by decide +kernel) (by decide +kernel), mz_in 471 (by decide +kernel) (by decide +kernel), ⟨by decide +kernel, by decide +kernel, by decide +kernel⟩⟩
theorem hy_X9_checkGuest : mz_Y yX9_checkGuest cX9_checkGuest 2 none 1 := ⟨mz_in 392 (by decide +kernel) (by decide +kernel), mz_in 18 (by decide +kernel) (by decide +kernel), mz_in 33 (by decide +kernel) (by decide +kernel), mz_in 393 (by decide +kernel) (by decide +kernel), ⟨by decide +kernel, by decide +kernel, by decide +kernel⟩⟩
theorem hs_X9_checkMinutes : mz_YS yX9_checkMinutes cX9_checkMinutes 2 none 2 := ⟨mz_in 58 (by decide +kernel) (by decide +kernel), mz_in 33 (by decide +kernel) (by decide +kernel), mz_in 59 (by decide +kernel) (by decide +kernel), ⟨by decide +kernel, by decide +kernel, by decide +kernel⟩⟩
theorem hy_X9_checkProp : mz_Y yX9_checkProp cX9_checkProp 2 none 1 := ⟨mz_in 588 (by decide +kernel) (by decide +kernel), mz_in 26 (by decide +kernel) (by decide +kernel), mz_in 33 (by decide +kernel) (by decide +kernel), mz_in 589 (by decide +kernel) (by decide +kernel), ⟨by decide +kernel, by decide +kernel, by decide +kernel⟩⟩
theorem hy_X9_checkRoom : mz_Y yX9_checkRoom cX9_checkRoom 2 none 1 := ⟨mz_in 531 (by decide +kernel) (by decide +kernel), mz_in 21 (by decide +kernel) (by decide +kernel), mz_in 33 (by decide +kernel) (by decide +kernel), mz_in 532 (by decide +kernel) (by decide +kernel), ⟨by decide +kernel, by decide +kernel, by decide +kernel⟩⟩
theorem hy_X9_checkScene : mz_Y yX9_checkScene cX9_checkScene 2 none 1 := ⟨mz_in 570 (by decide +kernel) (by decide +kernel), mz_in 24 (by decide +kernel) (by decide +kernel), mz_in 33 (by decide +kernel) (by decide +kernel), mz_in 571 (by decide +kernel) (by decide +kernel), ⟨by decide +kernel, by decide +kernel, by decide +kernel⟩⟩
theorem hs_X9_checkTime : mz_YS yX9_checkTime cX9_checkTime 2 none 2 := ⟨mz_in 1100 (by decide +kernel) (by decide +kernel), mz_in 33 (by decide +kernel) (by decide +kernel), mz_in 1101 (by decide +kernel) (by decide +kernel), ⟨by decide +kernel, by decide +kernel, by decide +kernel⟩⟩
theorem hy_X9_checkTrack : mz_Y yX9_checkTrack cX9_checkTrack 2 none 1 := ⟨mz_in 360 (by decide +kernel) (by decide +kernel), mz_in 17 (by decide +kernel) (by decide +kernel), mz_in 33 (by decide +kernel) (by decide +kernel), mz_in 362 (by decide +kernel) (by decide +kernel), ⟨by decide +kernel, by decide +kernel, by decide +kernel⟩⟩
theorem hs_X9_checkWhat : mz_YS yX9_checkWhat cX9_checkWhat 2 none 2 := ⟨mz_in 396 (by decide +kernel) (by decide +kernel), mz_in 33 (by decide +kernel) (by decide +kernel), mz_in 397 (by decide +kernel) (by decide +kernel), ⟨by decide +kernel, by decide +kernel, by decide +kernel⟩⟩
theorem hy_X9_countCutsOfTrial : mz_Y yX9_countCutsOfTrial cX9_countCutsOfTrial 1 (some .int) 0 := ⟨mz_in 488 (by decide +kernel) (by decide +kernel), mz_in 19 (by decide +kernel) (by decide +kernel), mz_in 33 (by decide +kernel) (by decide +kernel), mz_in 489 (by decide +kernel) (by decide +kernel), ⟨by decide +kernel, by decide +kernel, by decide +kernel⟩⟩
theorem hy_X9_digest : mz_Y yX9_digest cX9_digest 4 (some .long) 0 := ⟨mz_in 512 (by decide +kernel) (by decide +kernel), mz_in 513 (by decide +kernel) (by decide +kernel), mz_in 33 (by decide +kernel) (by decide +kernel), mz_in 514 (by decide +kernel) (by decide +kernel), ⟨by decide +kernel, by decide +kernel, by decide +kernel⟩⟩
theorem hy_X9_door : mz_Y yX9_door cX9_door 4 (some .int) 3 := ⟨mz_in 1030 (by decide +kernel) (by decide +kernel), mz_in 1031 (by decide +kernel) (by decide +kernel), mz_in 33 (by decide +kernel) (by decide +kernel), mz_in 1032 (by decide +kernel) (by decide +kernel), ⟨by decide +kernel, by decide +kernel, by decide +kernel⟩⟩
theorem hy_X9_doubles : mz_Y yX9_doubles cX9_doubles 4 (some .int) 1 := ⟨mz_in 491 (by decide +kernel) (by decide +kernel), mz_in 492 (by decide +kernel) (by decide +kernel), mz_in 33 (by decide +kernel) (by decide +kernel), mz_in 493 (by decide +kernel) (by decide +kernel), ⟨by decide +kernel, by decide +kernel, by decide +kernel⟩⟩
theorem hs_X9_fold : mz_YS yX9_fold cX9_fold 4 (some .long) 2 := ⟨mz_in 518 (by decide +kernel) (by decide +kernel), mz_in 33 (by decide +kernel) (by decide +kernel), mz_in 519 (by decide +kernel) (by decide +kernel), ⟨by decide +kernel, by decide +kernel, by decide +kernel⟩⟩
theorem hy_X9_foldGuests : mz_Y yX9_foldGuests cX9_foldGuests 7 (some .long) 1 := ⟨mz_in 597 (by decide +kernel) (by decide +kernel), mz_in 27 (by decide +kernel) (by decide +kernel), mz_in 33 (by decide +kernel) (by decide +kernel), mz_in 598 (by decide +kernel) (by decide +kernel), ⟨by decide +kernel, by decide +kernel, by decide +kernel⟩⟩
theorem hy_X9_foldProps : mz_Y yX9_foldProps cX9_foldProps 7 (some .long) 1 := ⟨mz_in 580 (by decide +kernel) (by decide +kernel), mz_in 25 (by decide +kernel) (by decide +kernel), mz_in 33 (by decide +kernel) (by decide +kernel), mz_in 581 (by decide +kernel) (by decide +kernel), ⟨by decide +kernel, by decide +kernel, by decide +kernel⟩⟩
theorem hy_X9_foldRooms : mz_Y yX9_foldRooms cX9_foldRooms 7 (some .long) 1 := ⟨mz_in 523 (by decide +kernel) (by decide +kernel), mz_in 20 (by decide +kernel) (by decide +kernel), mz_in 33 (by decide +kernel) (by decide +kernel), mz_in 524 (by decide +kernel) (by decide +kernel), ⟨by decide +kernel, by decide +kernel, by decide +kernel⟩⟩
theorem hy_X9_foldScenes : mz_Y yX9_foldScenes cX9_foldScenes 7 (some .long) 1 := ⟨mz_in 562 (by decide +kernel) (by decide +kernel), mz_in 23 (by decide +kernel) (by decide +kernel), mz_in 33 (by decide +kernel) (by decide +kernel), mz_in 563 (by decide +kernel) (by decide +kernel), ⟨by decide +kernel, by decide +kernel, by decide +kernel⟩⟩
theorem hy_X9_foldTracks : mz_Y yX9_foldTracks cX9_foldTracks 7 (some .long) 1 := ⟨mz_in 547 (by decide +kernel) (by decide +kernel), mz_in 22 (by decide +kernel) (by decide +kernel), mz_in 33 (by decide +kernel) (by decide +kernel), mz_in 548 (by decide +kernel) (by decide +kernel), ⟨by decide +kernel, by decide +kernel, by decide +kernel⟩⟩
theorem hy_X9_guest : mz_Y yX9_guest cX9_guest 2 (some .int) 1 := ⟨mz_in 1127 (by decide +kernel) (by decide +kernel), mz_in 1128 (by decide +kernel) (by decide +kernel), mz_in 33 (by decide +kernel) (by decide +kernel), mz_in 1129 (by decide +kernel) (by decide +kernel), ⟨by decide +kernel, by decide +kernel, by decide +kernel⟩⟩
theorem hy_X9_habit : mz_Y yX9_habit cX9_habit 5 (some .int) 3 := ⟨mz_in 1142 (by decide +kernel) (by decide +kernel), mz_in 1143 (by decide +kernel) (by decide +kernel), mz_in 33 (by decide +kernel) (by decide +kernel), mz_in 1144 (by decide +kernel) (by decide +kernel), ⟨by decide +kernel, by decide +kernel, by decide +kernel⟩⟩
theorem hs_X9_habitBehind : mz_YS yX9_habitBehind cX9_habitBehind 1 (some .int) 1 := ⟨mz_in 476 (by decide +kernel) (by decide +kernel), mz_in 33 (by decide +kernel) (by decide +kernel), mz_in 477 (by decide +kernel) (by decide +kernel), ⟨by decide +kernel, by decide +kernel, by decide +kernel⟩⟩
-- X9_init: no words (612, None, 33, None)
theorem hy_X9_many : mz_Y yX9_many cX9_many 2 (some .int) 1 := ⟨mz_in 404 (by decide +kernel) (by decide +kernel), mz_in 405 (by decide +kernel) (by decide +kernel), mz_in 33 (by decide +kernel) (by decide +kernel), mz_in 406 (by decide +kernel) (by decide +kernel), ⟨by decide +kernel, by decide +kernel, by decide +kernel⟩⟩
theorem hy_X9_ofGuest : mz_Y yX9_ofGuest cX9_ofGuest 4 (some .int) 2 := ⟨mz_in 387 (by decide +kernel) (by decide +kernel), mz_in 388 (by decide +kernel) (by decide +kernel), mz_in 33 (by decide +kernel) (by decide +kernel), mz_in 389 (by decide +kernel) (by decide +kernel), ⟨by decide +kernel, by decide +kernel, by decide +kernel⟩⟩
theorem hy_X9_ofProp : mz_Y yX9_ofProp cX9_ofProp 3 (some .int) 2 := ⟨mz_in 583 (by decide +kernel) (by decide +kernel), mz_in 584 (by decide +kernel) (by decide +kernel), mz_in 33 (by decide +kernel) (by decide +kernel), mz_in 585 (by decide +kernel) (by decide +kernel), ⟨by decide +kernel, by decide +kernel, by decide +kernel⟩⟩
theorem hy_X9_ofRoom : mz_Y yX9_ofRoom cX9_ofRoom 3 (some .int) 2 := ⟨mz_in 526 (by decide +kernel) (by decide +kernel), mz_in 527 (by decide +kernel) (by decide +kernel), mz_in 33 (by decide +kernel) (by decide +kernel), mz_in 528 (by decide +kernel) (by decide +kernel), ⟨by decide +kernel, by decide +kernel, by decide +kernel⟩⟩
theorem hy_X9_ofScene : mz_Y yX9_ofScene cX9_ofScene 4 (some .int) 2 := ⟨mz_in 565 (by decide +kernel) (by decide +kernel), mz_in 566 (by decide +kernel) (by decide +kernel), mz_in 33 (by decide +kernel) (by decide +kernel), mz_in 567 (by decide +kernel) (by decide +kernel), ⟨by decide +kernel, by decide +kernel, by decide +kernel⟩⟩
theorem hy_X9_ofTrack : mz_Y yX9_ofTrack cX9_ofTrack 4 (some .int) 2 := ⟨mz_in 550 (by decide +kernel) (by decide +kernel), mz_in 551 (by decide +kernel) (by decide +kernel), mz_in 33 (by decide +kernel) (by decide +kernel), mz_in 552 (by decide +kernel) (by decide +kernel), ⟨by decide +kernel, by decide +kernel, by decide +kernel⟩⟩
theorem hy_X9_part : mz_Y yX9_part cX9_part 3 (some .int) 1 := ⟨mz_in 355 (by decide +kernel) (by decide +kernel), mz_in 356 (by decide +kernel) (by decide +kernel), mz_in 33 (by decide +kernel) (by decide +kernel), mz_in 357 (by decide +kernel) (by decide +kernel), ⟨by decide +kernel, by decide +kernel, by decide +kernel⟩⟩
theorem hy_X9_pass : mz_Y yX9_pass cX9_pass 3 (some .int) 1 := ⟨mz_in 54 (by decide +kernel) (by decide +kernel), mz_in 55 (by decide +kernel) (by decide +kernel), mz_in 33 (by decide +kernel) (by decide +kernel), mz_in 56 (by decide +kernel) (by decide +kernel), ⟨by decide +kernel, by decide +kernel, by decide +kernel⟩⟩
theorem hy_X9_play : mz_Y yX9_play cX9_play 3 (some .int) 2 := ⟨mz_in 1155 (by decide +kernel) (by decide +kernel), mz_in 1156 (by decide +kernel) (by decide +kernel), mz_in 33 (by decide +kernel) (by decide +kernel), mz_in 1157 (by decide +kernel) (by decide +kernel), ⟨by decide +kernel, by decide +kernel, by decide +kernel⟩⟩
theorem hy_X9_prop : mz_Y yX9_prop cX9_prop 3 (some .int) 1 := ⟨mz_in 1079 (by decide +kernel) (by decide +kernel), mz_in 1080 (by decide +kernel) (by decide +kernel), mz_in 33 (by decide +kernel) (by decide +kernel), mz_in 1081 (by decide +kernel) (by decide +kernel), ⟨by decide +kernel, by decide +kernel, by decide +kernel⟩⟩
theorem hy_X9_room : mz_Y yX9_room cX9_room 2 (some .int) 1 := ⟨mz_in 1011 (by decide +kernel) (by decide +kernel), mz_in 1012 (by decide +kernel) (by decide +kernel), mz_in 33 (by decide +kernel) (by decide +kernel), mz_in 1013 (by decide +kernel) (by decide +kernel), ⟨by decide +kernel, by decide +kernel, by decide +kernel⟩⟩
theorem hy_X9_scene : mz_Y yX9_scene cX9_scene 6 (some .int) 5 := ⟨mz_in 1096 (by decide +kernel) (by decide +kernel), mz_in 1097 (by decide +kernel) (by decide +kernel), mz_in 33 (by decide +kernel) (by decide +kernel), mz_in 1098 (by decide +kernel) (by decide +kernel), ⟨by decide +kernel, by decide +kernel, by decide +kernel⟩⟩
theorem hy_X9_seen : mz_Y yX9_seen cX9_seen 3 (some .int) 2 := ⟨mz_in 601 (by decide +kernel) (by decide +kernel), mz_in 602 (by decide +kernel) (by decide +kernel), mz_in 33 (by decide +kernel) (by decide +kernel), mz_in 603 (by decide +kernel) (by decide +kernel), ⟨by decide +kernel, by decide +kernel, by decide +kernel⟩⟩
theorem hs_X9_standsForHabit : mz_YS yX9_standsForHabit cX9_standsForHabit 1 (some .boolean) 1 := ⟨mz_in 473 (by decide +kernel) (by decide +kernel), mz_in 33 (by decide +kernel) (by decide +kernel), mz_in 474 (by decide +kernel) (by decide +kernel), ⟨by decide +kernel, by decide +kernel, by decide +kernel⟩⟩
theorem hy_X9_track : mz_Y yX9_track cX9_track 3 (some .int) 1 := ⟨mz_in 1061 (by decide +kernel) (by decide +kernel), mz_in 1062 (by decide +kernel) (by decide +kernel), mz_in 33 (by decide +kernel) (by decide +kernel), mz_in 1063 (by decide +kernel) (by decide +kernel), ⟨by decide +kernel, by decide +kernel, by decide +kernel⟩⟩
theorem hy_X9_way : mz_Y yX9_way cX9_way 4 (some .int) 3 := ⟨mz_in 541 (by decide +kernel) (by decide +kernel), mz_in 542 (by decide +kernel) (by decide +kernel), mz_in 33 (by decide +kernel) (by decide +kernel), mz_in 543 (by decide +kernel) (by decide +kernel), ⟨by decide +kernel, by decide +kernel, by decide +kernel⟩⟩
theorem hy_X9_wouldCut : mz_Y yX9_wouldCut cX9_wouldCut 2 (some .int) 1 := ⟨mz_in 483 (by decide +kernel) (by decide +kernel), mz_in 484 (by decide +kernel) (by decide +kernel), mz_in 33 (by decide +kernel) (by decide +kernel), mz_in 485 (by decide +kernel) (by decide +kernel), ⟨by decide +kernel, by decide +kernel, by decide +kernel⟩⟩
theorem hy_X9_wouldKnow : mz_Y yX9_wouldKnow cX9_wouldKnow 3 (some .int) 2 := ⟨mz_in 422 (by decide +kernel) (by decide +kernel), mz_in 423 (by decide +kernel) (by decide +kernel), mz_in 33 (by decide +kernel) (by decide +kernel), mz_in 424 (by decide +kernel) (by decide +kernel), ⟨by decide +kernel, by decide +kernel, by decide +kernel⟩⟩
theorem wl_X9_182 : Cond.methodLink RX9 182 yX9_checkMinutes ∈ mz_ws := mz_in 57 (by decide +kernel) (by decide +kernel)
theorem wl_X9_196 : Cond.methodLink RX9 196 yX6_sum ∈ mz_ws := mz_in 146 (by decide +kernel) (by decide +kernel)
theorem wl_X9_200 : Cond.methodLink RX9 200 yX2_run ∈ mz_ws := mz_in 150 (by decide +kernel) (by decide +kernel)
theorem wl_X2_75 : Cond.methodLink RX2 75 yX2_beginLoop ∈ mz_ws := mz_in 154 (by decide +kernel) (by decide +kernel)
theorem wl_X2_90 : Cond.methodLink RX2 90 yX8_restart ∈ mz_ws := mz_in 159 (by decide +kernel) (by decide +kernel)
theorem wl_X8_53 : Cond.methodLink RX8 53 yX8_waits ∈ mz_ws := mz_in 163 (by decide +kernel) (by decide +kernel)
theorem wl_X8_44 : Cond.methodLink RX8 44 yX6_get ∈ mz_ws := mz_in 167 (by decide +kernel) (by decide +kernel)
theorem wl_X8_57 : Cond.methodLink RX8 57 yX8_runs ∈ mz_ws := mz_in 171 (by decide +kernel) (by decide +kernel)
theorem wl_X8_60 : Cond.methodLink RX8 60 yX8_cut ∈ mz_ws := mz_in 175 (by decide +kernel) (by decide +kernel)
theorem wl_X8_63 : Cond.methodLink RX8 63 yX6_set ∈ mz_ws := mz_in 180 (by decide +kernel) (by decide +kernel)
theorem wl_X8_67 : Cond.methodLink RX8 67 yX6_add ∈ mz_ws := mz_in 184 (by decide +kernel) (by decide +kernel)
theorem wl_X2_93 : Cond.methodLink RX2 93 yX5_goHome ∈ mz_ws := mz_in 188 (by decide +kernel) (by decide +kernel)
theorem wl_X5_44 : Cond.methodLink RX5 44 yX6_get ∈ mz_ws := mz_in 192 (by decide +kernel) (by decide +kernel)
theorem wl_X5_41 : Cond.methodLink RX5 41 yX5_lay ∈ mz_ws := mz_in 193 (by decide +kernel) (by decide +kernel)
theorem wl_X5_37 : Cond.methodLink RX5 37 yX6_set ∈ mz_ws := mz_in 197 (by decide +kernel) (by decide +kernel)
theorem wl_X2_100 : Cond.methodLink RX2 100 yX3_fill ∈ mz_ws := mz_in 198 (by decide +kernel) (by decide +kernel)
theorem wl_X3_32 : Cond.methodLink RX3 32 yX6_fill ∈ mz_ws := mz_in 202 (by decide +kernel) (by decide +kernel)
theorem wl_X6_15 : Cond.methodLink RX6 15 yJ7_fill_53178 ∈ mz_ws := mz_in 206 (by decide +kernel) (by decide +kernel)
theorem wl_X2_78 : Cond.methodLink RX2 78 yX2_moveTracks ∈ mz_ws := mz_in 209 (by decide +kernel) (by decide +kernel)
theorem wl_X2_105 : Cond.methodLink RX2 105 yX8_busyTracks ∈ mz_ws := mz_in 213 (by decide +kernel) (by decide +kernel)
theorem wl_X2_114 : Cond.methodLink RX2 114 yX1_rolesOf ∈ mz_ws := mz_in 217 (by decide +kernel) (by decide +kernel)
theorem wl_X1_38 : Cond.methodLink RX1 38 yX6_get ∈ mz_ws := mz_in 221 (by decide +kernel) (by decide +kernel)
theorem wl_X2_121 : Cond.methodLink RX2 121 yX6_get ∈ mz_ws := mz_in 222 (by decide +kernel) (by decide +kernel)
theorem wl_X2_124 : Cond.methodLink RX2 124 yX8_nextSceneOf ∈ mz_ws := mz_in 223 (by decide +kernel) (by decide +kernel)
theorem wl_X8_76 : Cond.methodLink RX8 76 yX7_has ∈ mz_ws := mz_in 227 (by decide +kernel) (by decide +kernel)
theorem wl_X7_52 : Cond.methodLink RX7 52 yX6_get ∈ mz_ws := mz_in 231 (by decide +kernel) (by decide +kernel)
theorem wl_X2_133 : Cond.methodLink RX2 133 yX2_moveTrack ∈ mz_ws := mz_in 232 (by decide +kernel) (by decide +kernel)
theorem wl_X2_143 : Cond.methodLink RX2 143 yX3_get ∈ mz_ws := mz_in 236 (by decide +kernel) (by decide +kernel)
theorem wl_X3_24 : Cond.methodLink RX3 24 yX6_get ∈ mz_ws := mz_in 240 (by decide +kernel) (by decide +kernel)
theorem wl_X2_146 : Cond.methodLink RX2 146 yX1_walk ∈ mz_ws := mz_in 241 (by decide +kernel) (by decide +kernel)
theorem wl_X1_51 : Cond.methodLink RX1 51 yX6_add ∈ mz_ws := mz_in 245 (by decide +kernel) (by decide +kernel)
theorem wl_X1_48 : Cond.methodLink RX1 48 yX1_rolesOf ∈ mz_ws := mz_in 246 (by decide +kernel) (by decide +kernel)
theorem wl_X1_34 : Cond.methodLink RX1 34 yX6_set ∈ mz_ws := mz_in 247 (by decide +kernel) (by decide +kernel)
theorem wl_X2_81 : Cond.methodLink RX2 81 yX2_performScenes ∈ mz_ws := mz_in 248 (by decide +kernel) (by decide +kernel)
theorem wl_X2_152 : Cond.methodLink RX2 152 yX8_runs ∈ mz_ws := mz_in 252 (by decide +kernel) (by decide +kernel)
theorem wl_X2_156 : Cond.methodLink RX2 156 yX2_continueScene ∈ mz_ws := mz_in 253 (by decide +kernel) (by decide +kernel)
theorem wl_X2_174 : Cond.methodLink RX2 174 yX8_goOn ∈ mz_ws := mz_in 257 (by decide +kernel) (by decide +kernel)
theorem wl_X2_183 : Cond.methodLink RX2 183 yX2_greatestTrack ∈ mz_ws := mz_in 261 (by decide +kernel) (by decide +kernel)
theorem wl_X2_186 : Cond.methodLink RX2 186 yX5_giveToTrack ∈ mz_ws := mz_in 265 (by decide +kernel) (by decide +kernel)
theorem wl_X2_159 : Cond.methodLink RX2 159 yX8_waits ∈ mz_ws := mz_in 269 (by decide +kernel) (by decide +kernel)
theorem wl_X2_165 : Cond.methodLink RX2 165 yX2_canBegin ∈ mz_ws := mz_in 270 (by decide +kernel) (by decide +kernel)
theorem wl_X2_189 : Cond.methodLink RX2 189 yX1_setIn ∈ mz_ws := mz_in 274 (by decide +kernel) (by decide +kernel)
theorem wl_X2_192 : Cond.methodLink RX2 192 yX1_withDoubles ∈ mz_ws := mz_in 278 (by decide +kernel) (by decide +kernel)
theorem wl_X2_195 : Cond.methodLink RX2 195 yX2_hasProp ∈ mz_ws := mz_in 282 (by decide +kernel) (by decide +kernel)
theorem wl_X2_202 : Cond.methodLink RX2 202 yX7_has ∈ mz_ws := mz_in 286 (by decide +kernel) (by decide +kernel)
theorem wl_X2_168 : Cond.methodLink RX2 168 yX8_begin ∈ mz_ws := mz_in 287 (by decide +kernel) (by decide +kernel)
theorem wl_X2_171 : Cond.methodLink RX2 171 yX8_delay ∈ mz_ws := mz_in 291 (by decide +kernel) (by decide +kernel)
theorem wl_X2_84 : Cond.methodLink RX2 84 yX2_moveGuests ∈ mz_ws := mz_in 295 (by decide +kernel) (by decide +kernel)
theorem wl_X2_206 : Cond.methodLink RX2 206 yX6_fill ∈ mz_ws := mz_in 299 (by decide +kernel) (by decide +kernel)
theorem wl_X2_211 : Cond.methodLink RX2 211 yX2_nextRoomOf ∈ mz_ws := mz_in 300 (by decide +kernel) (by decide +kernel)
theorem wl_X2_246 : Cond.methodLink RX2 246 yX2_emptierRoom ∈ mz_ws := mz_in 304 (by decide +kernel) (by decide +kernel)
theorem wl_X2_252 : Cond.methodLink RX2 252 yX8_runningIn ∈ mz_ws := mz_in 308 (by decide +kernel) (by decide +kernel)
theorem wl_X2_249 : Cond.methodLink RX2 249 yX2_nextRoomToScene ∈ mz_ws := mz_in 312 (by decide +kernel) (by decide +kernel)
theorem wl_X2_261 : Cond.methodLink RX2 261 yX0_knows ∈ mz_ws := mz_in 316 (by decide +kernel) (by decide +kernel)
theorem wl_X0_68 : Cond.methodLink RX0 68 yX6_get ∈ mz_ws := mz_in 320 (by decide +kernel) (by decide +kernel)
theorem wl_X2_217 : Cond.methodLink RX2 217 yX2_moveGuest ∈ mz_ws := mz_in 321 (by decide +kernel) (by decide +kernel)
theorem wl_X2_224 : Cond.methodLink RX2 224 yX2_isFull ∈ mz_ws := mz_in 325 (by decide +kernel) (by decide +kernel)
theorem wl_X2_227 : Cond.methodLink RX2 227 yX6_add ∈ mz_ws := mz_in 329 (by decide +kernel) (by decide +kernel)
theorem wl_X2_230 : Cond.methodLink RX2 230 yX0_walk ∈ mz_ws := mz_in 330 (by decide +kernel) (by decide +kernel)
theorem wl_X0_61 : Cond.methodLink RX0 61 yX6_add ∈ mz_ws := mz_in 334 (by decide +kernel) (by decide +kernel)
theorem wl_X0_58 : Cond.methodLink RX0 58 yX6_set ∈ mz_ws := mz_in 335 (by decide +kernel) (by decide +kernel)
theorem wl_X2_87 : Cond.methodLink RX2 87 yX2_showScenes ∈ mz_ws := mz_in 336 (by decide +kernel) (by decide +kernel)
theorem wl_X2_264 : Cond.methodLink RX2 264 yX2_showScene ∈ mz_ws := mz_in 340 (by decide +kernel) (by decide +kernel)
theorem wl_X2_270 : Cond.methodLink RX2 270 yX0_see ∈ mz_ws := mz_in 344 (by decide +kernel) (by decide +kernel)
theorem wl_X0_72 : Cond.methodLink RX0 72 yX3_get ∈ mz_ws := mz_in 348 (by decide +kernel) (by decide +kernel)
theorem wl_X0_75 : Cond.methodLink RX0 75 yX3_set ∈ mz_ws := mz_in 349 (by decide +kernel) (by decide +kernel)
theorem wl_X3_28 : Cond.methodLink RX3 28 yX6_set ∈ mz_ws := mz_in 353 (by decide +kernel) (by decide +kernel)
theorem wl_X9_165 : Cond.methodLink RX9 165 yX9_checkTrack ∈ mz_ws := mz_in 358 (by decide +kernel) (by decide +kernel)
theorem wl_X9_174 : Cond.methodLink RX9 174 yX6_get ∈ mz_ws := mz_in 379 (by decide +kernel) (by decide +kernel)
theorem wl_X9_244 : Cond.methodLink RX9 244 yX8_busyTracks ∈ mz_ws := mz_in 380 (by decide +kernel) (by decide +kernel)
theorem wl_X9_249 : Cond.methodLink RX9 249 yX1_endDouble ∈ mz_ws := mz_in 382 (by decide +kernel) (by decide +kernel)
theorem wl_X9_162 : Cond.methodLink RX9 162 yX9_checkGuest ∈ mz_ws := mz_in 390 (by decide +kernel) (by decide +kernel)
theorem wl_X9_252 : Cond.methodLink RX9 252 yX9_checkWhat ∈ mz_ws := mz_in 395 (by decide +kernel) (by decide +kernel)
theorem wl_X9_220 : Cond.methodLink RX9 220 yX5_heldByGuest ∈ mz_ws := mz_in 399 (by decide +kernel) (by decide +kernel)
theorem wl_X9_345 : Cond.methodLink RX9 345 yX8_countRunning ∈ mz_ws := mz_in 407 (by decide +kernel) (by decide +kernel)
theorem wl_X9_351 : Cond.methodLink RX9 351 yX0_knownByAny ∈ mz_ws := mz_in 411 (by decide +kernel) (by decide +kernel)
theorem wl_X9_215 : Cond.methodLink RX9 215 yJ6_bitCount_0f7a4 ∈ mz_ws := mz_in 415 (by decide +kernel) (by decide +kernel)
theorem wl_X9_357 : Cond.methodLink RX9 357 yX2_copyFrom ∈ mz_ws := mz_in 425 (by decide +kernel) (by decide +kernel)
theorem wl_X2_62 : Cond.methodLink RX2 62 yX1_copyFrom ∈ mz_ws := mz_in 429 (by decide +kernel) (by decide +kernel)
theorem wl_X1_30 : Cond.methodLink RX1 30 yX6_copyFrom ∈ mz_ws := mz_in 433 (by decide +kernel) (by decide +kernel)
theorem wl_X6_21 : Cond.methodLink RX6 21 yJ9_min_7cf53 ∈ mz_ws := mz_in 437 (by decide +kernel) (by decide +kernel)
theorem wl_X2_66 : Cond.methodLink RX2 66 yX8_copyFrom ∈ mz_ws := mz_in 443 (by decide +kernel) (by decide +kernel)
theorem wl_X8_36 : Cond.methodLink RX8 36 yX6_copyFrom ∈ mz_ws := mz_in 447 (by decide +kernel) (by decide +kernel)
theorem wl_X2_69 : Cond.methodLink RX2 69 yX5_copyFrom ∈ mz_ws := mz_in 448 (by decide +kernel) (by decide +kernel)
theorem wl_X5_33 : Cond.methodLink RX5 33 yX6_copyFrom ∈ mz_ws := mz_in 452 (by decide +kernel) (by decide +kernel)
theorem wl_X2_72 : Cond.methodLink RX2 72 yX0_copyFrom ∈ mz_ws := mz_in 453 (by decide +kernel) (by decide +kernel)
theorem wl_X0_51 : Cond.methodLink RX0 51 yX6_copyFrom ∈ mz_ws := mz_in 457 (by decide +kernel) (by decide +kernel)
theorem wl_X0_55 : Cond.methodLink RX0 55 yX3_copyFrom ∈ mz_ws := mz_in 458 (by decide +kernel) (by decide +kernel)
theorem wl_X3_35 : Cond.methodLink RX3 35 yX6_copyFrom ∈ mz_ws := mz_in 462 (by decide +kernel) (by decide +kernel)
theorem wl_X9_361 : Cond.methodLink RX9 361 yX0_countKnownBy ∈ mz_ws := mz_in 463 (by decide +kernel) (by decide +kernel)
theorem wl_X0_77 : Cond.methodLink RX0 77 yJ6_bitCount_0f7a4 ∈ mz_ws := mz_in 467 (by decide +kernel) (by decide +kernel)
theorem wl_X9_364 : Cond.methodLink RX9 364 yX9_standsForHabit ∈ mz_ws := mz_in 472 (by decide +kernel) (by decide +kernel)
theorem wl_X9_367 : Cond.methodLink RX9 367 yX9_habitBehind ∈ mz_ws := mz_in 475 (by decide +kernel) (by decide +kernel)
theorem wl_X9_178 : Cond.methodLink RX9 178 yX0_changeHabit ∈ mz_ws := mz_in 478 (by decide +kernel) (by decide +kernel)
theorem wl_X9_370 : Cond.methodLink RX9 370 yX9_countCutsOfTrial ∈ mz_ws := mz_in 486 (by decide +kernel) (by decide +kernel)
theorem wl_X9_230 : Cond.methodLink RX9 230 yX2_canDouble ∈ mz_ws := mz_in 494 (by decide +kernel) (by decide +kernel)
theorem wl_X2_282 : Cond.methodLink RX2 282 yX1_isSingle ∈ mz_ws := mz_in 498 (by decide +kernel) (by decide +kernel)
theorem wl_X2_285 : Cond.methodLink RX2 285 yX7_overlap ∈ mz_ws := mz_in 502 (by decide +kernel) (by decide +kernel)
theorem wl_X7_56 : Cond.methodLink RX7 56 yX7_has ∈ mz_ws := mz_in 506 (by decide +kernel) (by decide +kernel)
theorem wl_X7_60 : Cond.methodLink RX7 60 yX7_overlapsSceneOf ∈ mz_ws := mz_in 507 (by decide +kernel) (by decide +kernel)
theorem wl_X9_375 : Cond.methodLink RX9 375 yX9_many ∈ mz_ws := mz_in 516 (by decide +kernel) (by decide +kernel)
theorem wl_X9_378 : Cond.methodLink RX9 378 yX9_fold ∈ mz_ws := mz_in 517 (by decide +kernel) (by decide +kernel)
theorem wl_X9_382 : Cond.methodLink RX9 382 yX9_foldRooms ∈ mz_ws := mz_in 521 (by decide +kernel) (by decide +kernel)
theorem wl_X9_400 : Cond.methodLink RX9 400 yX9_ofRoom ∈ mz_ws := mz_in 525 (by decide +kernel) (by decide +kernel)
theorem wl_X9_55 : Cond.methodLink RX9 55 yX9_checkRoom ∈ mz_ws := mz_in 529 (by decide +kernel) (by decide +kernel)
theorem wl_X9_261 : Cond.methodLink RX9 261 yX1_setIn ∈ mz_ws := mz_in 534 (by decide +kernel) (by decide +kernel)
theorem wl_X9_264 : Cond.methodLink RX9 264 yX8_runningIn ∈ mz_ws := mz_in 535 (by decide +kernel) (by decide +kernel)
theorem wl_X9_267 : Cond.methodLink RX9 267 yX5_lyingIn ∈ mz_ws := mz_in 536 (by decide +kernel) (by decide +kernel)
theorem wl_X9_403 : Cond.methodLink RX9 403 yX9_way ∈ mz_ws := mz_in 540 (by decide +kernel) (by decide +kernel)
theorem wl_X9_68 : Cond.methodLink RX9 68 yX3_get ∈ mz_ws := mz_in 544 (by decide +kernel) (by decide +kernel)
theorem wl_X9_386 : Cond.methodLink RX9 386 yX9_foldTracks ∈ mz_ws := mz_in 545 (by decide +kernel) (by decide +kernel)
theorem wl_X9_406 : Cond.methodLink RX9 406 yX9_ofTrack ∈ mz_ws := mz_in 549 (by decide +kernel) (by decide +kernel)
theorem wl_X9_277 : Cond.methodLink RX9 277 yX8_runningWith ∈ mz_ws := mz_in 553 (by decide +kernel) (by decide +kernel)
theorem wl_X9_280 : Cond.methodLink RX9 280 yX1_rolesOf ∈ mz_ws := mz_in 557 (by decide +kernel) (by decide +kernel)
theorem wl_X9_283 : Cond.methodLink RX9 283 yX8_nextSceneOf ∈ mz_ws := mz_in 558 (by decide +kernel) (by decide +kernel)
theorem wl_X9_409 : Cond.methodLink RX9 409 yX9_doubles ∈ mz_ws := mz_in 559 (by decide +kernel) (by decide +kernel)
theorem wl_X9_389 : Cond.methodLink RX9 389 yX9_foldScenes ∈ mz_ws := mz_in 560 (by decide +kernel) (by decide +kernel)
theorem wl_X9_412 : Cond.methodLink RX9 412 yX9_ofScene ∈ mz_ws := mz_in 564 (by decide +kernel) (by decide +kernel)
theorem wl_X9_289 : Cond.methodLink RX9 289 yX9_checkScene ∈ mz_ws := mz_in 568 (by decide +kernel) (by decide +kernel)
theorem wl_X9_317 : Cond.methodLink RX9 317 yX0_countKnowing ∈ mz_ws := mz_in 573 (by decide +kernel) (by decide +kernel)
theorem wl_X0_82 : Cond.methodLink RX0 82 yX0_knows ∈ mz_ws := mz_in 577 (by decide +kernel) (by decide +kernel)
theorem wl_X9_392 : Cond.methodLink RX9 392 yX9_foldProps ∈ mz_ws := mz_in 578 (by decide +kernel) (by decide +kernel)
theorem wl_X9_415 : Cond.methodLink RX9 415 yX9_ofProp ∈ mz_ws := mz_in 582 (by decide +kernel) (by decide +kernel)
theorem wl_X9_114 : Cond.methodLink RX9 114 yX9_checkProp ∈ mz_ws := mz_in 586 (by decide +kernel) (by decide +kernel)
theorem wl_X9_333 : Cond.methodLink RX9 333 yX2_roomOfProp ∈ mz_ws := mz_in 591 (by decide +kernel) (by decide +kernel)
theorem wl_X9_395 : Cond.methodLink RX9 395 yX9_foldGuests ∈ mz_ws := mz_in 595 (by decide +kernel) (by decide +kernel)
theorem wl_X9_418 : Cond.methodLink RX9 418 yX9_ofGuest ∈ mz_ws := mz_in 599 (by decide +kernel) (by decide +kernel)
theorem wl_X9_421 : Cond.methodLink RX9 421 yX9_seen ∈ mz_ws := mz_in 600 (by decide +kernel) (by decide +kernel)
theorem wl_X10_9 : Cond.methodLink RX10 9 yX9_init ∈ mz_ws := mz_in 611 (by decide +kernel) (by decide +kernel)
theorem wl_X9_9 : Cond.methodLink RX9 9 yX4_init ∈ mz_ws := mz_in 617 (by decide +kernel) (by decide +kernel)
theorem wl_X4_11 : Cond.methodLink RX4 11 yX6_init ∈ mz_ws := mz_in 623 (by decide +kernel) (by decide +kernel)
theorem wl_X4_25 : Cond.methodLink RX4 25 yX3_init ∈ mz_ws := mz_in 634 (by decide +kernel) (by decide +kernel)
theorem wl_X3_17 : Cond.methodLink RX3 17 yX6_init ∈ mz_ws := mz_in 639 (by decide +kernel) (by decide +kernel)
theorem wl_X4_38 : Cond.methodLink RX4 38 yX3_fill ∈ mz_ws := mz_in 647 (by decide +kernel) (by decide +kernel)
theorem wn_X9_18 : Cond.methodLinkNest RX9 18 yX7_init "ManorLoops" ∈ mz_wn := mz_inn 684 (by decide +kernel) (by decide +kernel)
theorem wl_X7_11 : Cond.methodLink RX7 11 yX6_init ∈ mz_ws := mz_in 689 (by decide +kernel) (by decide +kernel)
theorem wl_X9_25 : Cond.methodLink RX9 25 yX2_init ∈ mz_ws := mz_in 747 (by decide +kernel) (by decide +kernel)
theorem wl_X2_11 : Cond.methodLink RX2 11 yX6_init ∈ mz_ws := mz_in 752 (by decide +kernel) (by decide +kernel)
theorem wl_X2_30 : Cond.methodLink RX2 30 yX1_init ∈ mz_ws := mz_in 755 (by decide +kernel) (by decide +kernel)
theorem wl_X1_11 : Cond.methodLink RX1 11 yX6_init ∈ mz_ws := mz_in 760 (by decide +kernel) (by decide +kernel)
theorem wl_X2_39 : Cond.methodLink RX2 39 yX8_init ∈ mz_ws := mz_in 780 (by decide +kernel) (by decide +kernel)
theorem wl_X8_11 : Cond.methodLink RX8 11 yX6_init ∈ mz_ws := mz_in 785 (by decide +kernel) (by decide +kernel)
theorem wl_X2_46 : Cond.methodLink RX2 46 yX5_init ∈ mz_ws := mz_in 816 (by decide +kernel) (by decide +kernel)
theorem wl_X5_11 : Cond.methodLink RX5 11 yX6_init ∈ mz_ws := mz_in 821 (by decide +kernel) (by decide +kernel)
theorem wn_X2_53 : Cond.methodLinkNest RX2 53 yX0_init "ManorLoops" ∈ mz_wn := mz_inn 846 (by decide +kernel) (by decide +kernel)
theorem wl_X0_11 : Cond.methodLink RX0 11 yX6_init ∈ mz_ws := mz_in 851 (by decide +kernel) (by decide +kernel)
theorem wl_X0_37 : Cond.methodLink RX0 37 yX3_init ∈ mz_ws := mz_in 853 (by decide +kernel) (by decide +kernel)
theorem wn_X10_48 : Cond.methodLinkNest RX10 48 yL_cell "ManorLoopsLaw" ∈ mz_wn := mz_inn 986 (by decide +kernel) (by decide +kernel)
theorem wn_X10_54 : Cond.methodLinkNest RX10 54 yL_below "ManorLoopsLaw" ∈ mz_wn := mz_inn 990 (by decide +kernel) (by decide +kernel)
theorem wl_X10_152 : Cond.methodLink RX10 152 yX10_draw ∈ mz_ws := mz_in 1004 (by decide +kernel) (by decide +kernel)
theorem wl_X10_155 : Cond.methodLink RX10 155 yX10_room ∈ mz_ws := mz_in 1005 (by decide +kernel) (by decide +kernel)
theorem wl_X10_64 : Cond.methodLink RX10 64 yX9_room ∈ mz_ws := mz_in 1010 (by decide +kernel) (by decide +kernel)
theorem wl_X9_51 : Cond.methodLink RX9 51 yX4_addRoom ∈ mz_ws := mz_in 1016 (by decide +kernel) (by decide +kernel)
theorem wl_X4_45 : Cond.methodLink RX4 45 yX6_set ∈ mz_ws := mz_in 1020 (by decide +kernel) (by decide +kernel)
theorem wl_X4_48 : Cond.methodLink RX4 48 yX3_set ∈ mz_ws := mz_in 1021 (by decide +kernel) (by decide +kernel)
theorem wl_X10_157 : Cond.methodLink RX10 157 yX10_door ∈ mz_ws := mz_in 1022 (by decide +kernel) (by decide +kernel)
theorem wl_X10_68 : Cond.methodLink RX10 68 yX10_plus ∈ mz_ws := mz_in 1026 (by decide +kernel) (by decide +kernel)
theorem wl_X10_72 : Cond.methodLink RX10 72 yX9_door ∈ mz_ws := mz_in 1029 (by decide +kernel) (by decide +kernel)
theorem wl_X9_76 : Cond.methodLink RX9 76 yX4_addDoor ∈ mz_ws := mz_in 1035 (by decide +kernel) (by decide +kernel)
theorem wl_X4_54 : Cond.methodLink RX4 54 yX4_shortenWays ∈ mz_ws := mz_in 1039 (by decide +kernel) (by decide +kernel)
theorem wl_X4_61 : Cond.methodLink RX4 61 yX3_get ∈ mz_ws := mz_in 1043 (by decide +kernel) (by decide +kernel)
theorem wl_X4_64 : Cond.methodLink RX4 64 yX4_shortenWay ∈ mz_ws := mz_in 1044 (by decide +kernel) (by decide +kernel)
theorem wl_X4_57 : Cond.methodLink RX4 57 yX4_findNext ∈ mz_ws := mz_in 1048 (by decide +kernel) (by decide +kernel)
theorem wl_X10_96 : Cond.methodLink RX10 96 yX10_doorOf ∈ mz_ws := mz_in 1052 (by decide +kernel) (by decide +kernel)
theorem wl_X10_160 : Cond.methodLink RX10 160 yX10_track ∈ mz_ws := mz_in 1056 (by decide +kernel) (by decide +kernel)
theorem wl_X10_76 : Cond.methodLink RX10 76 yX9_track ∈ mz_ws := mz_in 1060 (by decide +kernel) (by decide +kernel)
theorem wl_X9_85 : Cond.methodLink RX9 85 yX7_addTrack ∈ mz_ws := mz_in 1065 (by decide +kernel) (by decide +kernel)
theorem wl_X7_42 : Cond.methodLink RX7 42 yX6_set ∈ mz_ws := mz_in 1069 (by decide +kernel) (by decide +kernel)
theorem wl_X9_92 : Cond.methodLink RX9 92 yX1_enter ∈ mz_ws := mz_in 1070 (by decide +kernel) (by decide +kernel)
theorem wl_X10_162 : Cond.methodLink RX10 162 yX10_prop ∈ mz_ws := mz_in 1074 (by decide +kernel) (by decide +kernel)
theorem wl_X10_79 : Cond.methodLink RX10 79 yX9_prop ∈ mz_ws := mz_in 1078 (by decide +kernel) (by decide +kernel)
theorem wl_X9_103 : Cond.methodLink RX9 103 yX7_addProp ∈ mz_ws := mz_in 1083 (by decide +kernel) (by decide +kernel)
theorem wl_X9_109 : Cond.methodLink RX9 109 yX5_lay ∈ mz_ws := mz_in 1087 (by decide +kernel) (by decide +kernel)
theorem wl_X10_164 : Cond.methodLink RX10 164 yX10_canScene ∈ mz_ws := mz_in 1088 (by decide +kernel) (by decide +kernel)
theorem wl_X10_88 : Cond.methodLink RX10 88 yX10_overlap ∈ mz_ws := mz_in 1092 (by decide +kernel) (by decide +kernel)
theorem wl_X10_168 : Cond.methodLink RX10 168 yX9_scene ∈ mz_ws := mz_in 1095 (by decide +kernel) (by decide +kernel)
theorem wl_X9_117 : Cond.methodLink RX9 117 yX9_checkTime ∈ mz_ws := mz_in 1099 (by decide +kernel) (by decide +kernel)
theorem wl_X9_120 : Cond.methodLink RX9 120 yX7_areTracks ∈ mz_ws := mz_in 1103 (by decide +kernel) (by decide +kernel)
theorem wl_X9_132 : Cond.methodLink RX9 132 yX7_overlapsSceneOf ∈ mz_ws := mz_in 1108 (by decide +kernel) (by decide +kernel)
theorem wl_X9_136 : Cond.methodLink RX9 136 yX1_anyIsPlayed ∈ mz_ws := mz_in 1109 (by decide +kernel) (by decide +kernel)
theorem wl_X9_142 : Cond.methodLink RX9 142 yX7_addScene ∈ mz_ws := mz_in 1114 (by decide +kernel) (by decide +kernel)
theorem wl_X10_125 : Cond.methodLink RX10 125 yX10_guestsIn ∈ mz_ws := mz_in 1118 (by decide +kernel) (by decide +kernel)
theorem wl_X10_172 : Cond.methodLink RX10 172 yX10_guest ∈ mz_ws := mz_in 1122 (by decide +kernel) (by decide +kernel)
theorem wl_X10_82 : Cond.methodLink RX10 82 yX9_guest ∈ mz_ws := mz_in 1126 (by decide +kernel) (by decide +kernel)
theorem wl_X9_155 : Cond.methodLink RX9 155 yX2_isFull ∈ mz_ws := mz_in 1130 (by decide +kernel) (by decide +kernel)
theorem wl_X9_160 : Cond.methodLink RX9 160 yX0_enter ∈ mz_ws := mz_in 1132 (by decide +kernel) (by decide +kernel)
theorem wl_X0_64 : Cond.methodLink RX0 64 yX0_changeHabit ∈ mz_ws := mz_in 1136 (by decide +kernel) (by decide +kernel)
theorem wl_X10_174 : Cond.methodLink RX10 174 yX10_habit ∈ mz_ws := mz_in 1137 (by decide +kernel) (by decide +kernel)
theorem wl_X10_85 : Cond.methodLink RX10 85 yX9_habit ∈ mz_ws := mz_in 1141 (by decide +kernel) (by decide +kernel)
theorem wl_X9_235 : Cond.methodLink RX9 235 yX1_startDouble ∈ mz_ws := mz_in 1160 (by decide +kernel) (by decide +kernel)
theorem wl_X9_238 : Cond.methodLink RX9 238 yX7_countScenesOf ∈ mz_ws := mz_in 1164 (by decide +kernel) (by decide +kernel)
theorem mz_FL_of {own : String} {cl : List vw_C} {fl : List (Nat × Nat × Nat)} (h : ∀ q ∈ fl, ∃ (C : String) (T : u_T) (N : Nat), cl[q.2.1]? = some (C, T, N) ∧ q.2.2 < N ∧ (∀ w ∈ u_ws C T N, w ∈ mz_ws) ∧
  (Cond.fieldLink own q.1 (T q.2.2).1 (T q.2.2).2.1 (T q.2.2).2.2.1 ∈ mz_ws ∨ ∃ host : String, Cond.fieldLinkNest own q.1 (T q.2.2).1 (T q.2.2).2.1 (T q.2.2).2.2.1 host ∈ mz_wn)) : mz_FL own cl fl := by
  intro idx ci j hl
  have hm : (idx, (ci, j)) ∈ fl := by
    induction fl with
    | nil => cases hl
    | cons q t ih =>
      obtain ⟨a, b⟩ := q
      rw [List.lookup_cons] at hl
      by_cases e : idx = a
      · subst e
        simp at hl
        subst hl
        exact List.mem_cons_self
      · have : (idx == a) = false := by simpa using e
        rw [this] at hl
        exact List.mem_cons_of_mem _ (ih (fun q hq => h q (List.mem_cons_of_mem _ hq)) hl)
  exact h _ hm
def flX0 : List (Nat × Nat × Nat) := [(47, 0, 0), (14, 0, 1), (20, 0, 2), (23, 0, 3), (26, 0, 4), (29, 0, 5), (32, 0, 6), (40, 0, 7), (44, 0, 8)]
theorem FLX0 : mz_FL RX0 vwCl flX0 := mz_FL_of (List.forall_mem_cons.mpr ⟨⟨RX0, TX0, 9, rfl, by decide, iu_X0, Or.inl (mz_in 854 (by decide +kernel) (by decide +kernel))⟩,
  List.forall_mem_cons.mpr ⟨⟨RX0, TX0, 9, rfl, by decide, iu_X0, Or.inl (mz_in 857 (by decide +kernel) (by decide +kernel))⟩,
  List.forall_mem_cons.mpr ⟨⟨RX0, TX0, 9, rfl, by decide, iu_X0, Or.inl (mz_in 860 (by decide +kernel) (by decide +kernel))⟩,
  List.forall_mem_cons.mpr ⟨⟨RX0, TX0, 9, rfl, by decide, iu_X0, Or.inl (mz_in 863 (by decide +kernel) (by decide +kernel))⟩,
  List.forall_mem_cons.mpr ⟨⟨RX0, TX0, 9, rfl, by decide, iu_X0, Or.inl (mz_in 866 (by decide +kernel) (by decide +kernel))⟩,
  List.forall_mem_cons.mpr ⟨⟨RX0, TX0, 9, rfl, by decide, iu_X0, Or.inl (mz_in 868 (by decide +kernel) (by decide +kernel))⟩,
  List.forall_mem_cons.mpr ⟨⟨RX0, TX0, 9, rfl, by decide, iu_X0, Or.inl (mz_in 870 (by decide +kernel) (by decide +kernel))⟩,
  List.forall_mem_cons.mpr ⟨⟨RX0, TX0, 9, rfl, by decide, iu_X0, Or.inl (mz_in 873 (by decide +kernel) (by decide +kernel))⟩,
  List.forall_mem_cons.mpr ⟨⟨RX0, TX0, 9, rfl, by decide, iu_X0, Or.inl (mz_in 876 (by decide +kernel) (by decide +kernel))⟩,
  fun _ h => absurd h List.not_mem_nil⟩⟩⟩⟩⟩⟩⟩⟩⟩)
theorem wf_X0_47 : Cond.fieldLink RX0 47 (TX0 0).1 (TX0 0).2.1 (TX0 0).2.2.1 ∈ mz_ws := mz_in 854 (by decide +kernel) (by decide +kernel)
theorem wf_X0_14 : Cond.fieldLink RX0 14 (TX0 1).1 (TX0 1).2.1 (TX0 1).2.2.1 ∈ mz_ws := mz_in 857 (by decide +kernel) (by decide +kernel)
theorem wf_X0_20 : Cond.fieldLink RX0 20 (TX0 2).1 (TX0 2).2.1 (TX0 2).2.2.1 ∈ mz_ws := mz_in 860 (by decide +kernel) (by decide +kernel)
theorem wf_X0_23 : Cond.fieldLink RX0 23 (TX0 3).1 (TX0 3).2.1 (TX0 3).2.2.1 ∈ mz_ws := mz_in 863 (by decide +kernel) (by decide +kernel)
theorem wf_X0_26 : Cond.fieldLink RX0 26 (TX0 4).1 (TX0 4).2.1 (TX0 4).2.2.1 ∈ mz_ws := mz_in 866 (by decide +kernel) (by decide +kernel)
theorem wf_X0_29 : Cond.fieldLink RX0 29 (TX0 5).1 (TX0 5).2.1 (TX0 5).2.2.1 ∈ mz_ws := mz_in 868 (by decide +kernel) (by decide +kernel)
theorem wf_X0_32 : Cond.fieldLink RX0 32 (TX0 6).1 (TX0 6).2.1 (TX0 6).2.2.1 ∈ mz_ws := mz_in 870 (by decide +kernel) (by decide +kernel)
theorem wf_X0_40 : Cond.fieldLink RX0 40 (TX0 7).1 (TX0 7).2.1 (TX0 7).2.2.1 ∈ mz_ws := mz_in 873 (by decide +kernel) (by decide +kernel)
theorem wf_X0_44 : Cond.fieldLink RX0 44 (TX0 8).1 (TX0 8).2.1 (TX0 8).2.2.1 ∈ mz_ws := mz_in 876 (by decide +kernel) (by decide +kernel)
def klX0 : List (Nat × Int64) := []
theorem KLX0 : mz_KL RX0 klX0 := fun _ _ h => by cases h
def flX1 : List (Nat × Nat × Nat) := [(42, 7, 0), (26, 1, 0), (14, 1, 1), (20, 1, 2), (23, 1, 3)]
theorem FLX1 : mz_FL RX1 vwCl flX1 := mz_FL_of (List.forall_mem_cons.mpr ⟨⟨RX7, TX7, 10, rfl, by decide, iu_X7, Or.inr ⟨"ManorLoops", mz_inn 693 (by decide +kernel) (by decide +kernel)⟩⟩,
  List.forall_mem_cons.mpr ⟨⟨RX1, TX1, 4, rfl, by decide, iu_X1, Or.inl (mz_in 761 (by decide +kernel) (by decide +kernel))⟩,
  List.forall_mem_cons.mpr ⟨⟨RX1, TX1, 4, rfl, by decide, iu_X1, Or.inl (mz_in 762 (by decide +kernel) (by decide +kernel))⟩,
  List.forall_mem_cons.mpr ⟨⟨RX1, TX1, 4, rfl, by decide, iu_X1, Or.inl (mz_in 765 (by decide +kernel) (by decide +kernel))⟩,
  List.forall_mem_cons.mpr ⟨⟨RX1, TX1, 4, rfl, by decide, iu_X1, Or.inl (mz_in 768 (by decide +kernel) (by decide +kernel))⟩,
  fun _ h => absurd h List.not_mem_nil⟩⟩⟩⟩⟩)
theorem wf_X1_26 : Cond.fieldLink RX1 26 (TX1 0).1 (TX1 0).2.1 (TX1 0).2.2.1 ∈ mz_ws := mz_in 761 (by decide +kernel) (by decide +kernel)
theorem wf_X1_14 : Cond.fieldLink RX1 14 (TX1 1).1 (TX1 1).2.1 (TX1 1).2.2.1 ∈ mz_ws := mz_in 762 (by decide +kernel) (by decide +kernel)
theorem wf_X1_20 : Cond.fieldLink RX1 20 (TX1 2).1 (TX1 2).2.1 (TX1 2).2.2.1 ∈ mz_ws := mz_in 765 (by decide +kernel) (by decide +kernel)
theorem wf_X1_23 : Cond.fieldLink RX1 23 (TX1 3).1 (TX1 3).2.1 (TX1 3).2.2.1 ∈ mz_ws := mz_in 768 (by decide +kernel) (by decide +kernel)
def klX1 : List (Nat × Int64) := []
theorem KLX1 : mz_KL RX1 klX1 := fun _ _ h => by cases h
def flX2 : List (Nat × Nat × Nat) := [(255, 4, 0), (237, 4, 2), (221, 4, 3), (214, 4, 4), (258, 4, 5), (138, 4, 6), (109, 7, 0), (149, 7, 2), (127, 7, 3), (130, 7, 5), (162, 7, 6), (267, 7, 7), (180, 7, 8), (177, 7, 9), (137, 1, 1), (118, 1, 2), (198, 5, 1), (199, 5, 2), (273, 5, 3), (207, 0, 0), (210, 0, 1), (240, 0, 2), (243, 0, 3), (231, 0, 6), (96, 0, 7), (234, 0, 8), (20, 2, 0), (24, 2, 1), (33, 2, 2), (40, 2, 3), (47, 2, 4), (54, 2, 5), (14, 2, 6), (58, 2, 7)]
theorem FLX2 : mz_FL RX2 vwCl flX2 := mz_FL_of (List.forall_mem_cons.mpr ⟨⟨RX4, TX4, 7, rfl, by decide, iu_X4, Or.inr ⟨"ManorLoops", mz_inn 650 (by decide +kernel) (by decide +kernel)⟩⟩,
  List.forall_mem_cons.mpr ⟨⟨RX4, TX4, 7, rfl, by decide, iu_X4, Or.inr ⟨"ManorLoops", mz_inn 654 (by decide +kernel) (by decide +kernel)⟩⟩,
  List.forall_mem_cons.mpr ⟨⟨RX4, TX4, 7, rfl, by decide, iu_X4, Or.inr ⟨"ManorLoops", mz_inn 657 (by decide +kernel) (by decide +kernel)⟩⟩,
  List.forall_mem_cons.mpr ⟨⟨RX4, TX4, 7, rfl, by decide, iu_X4, Or.inr ⟨"ManorLoops", mz_inn 660 (by decide +kernel) (by decide +kernel)⟩⟩,
  List.forall_mem_cons.mpr ⟨⟨RX4, TX4, 7, rfl, by decide, iu_X4, Or.inr ⟨"ManorLoops", mz_inn 663 (by decide +kernel) (by decide +kernel)⟩⟩,
  List.forall_mem_cons.mpr ⟨⟨RX4, TX4, 7, rfl, by decide, iu_X4, Or.inr ⟨"ManorLoops", mz_inn 665 (by decide +kernel) (by decide +kernel)⟩⟩,
  List.forall_mem_cons.mpr ⟨⟨RX7, TX7, 10, rfl, by decide, iu_X7, Or.inr ⟨"ManorLoops", mz_inn 692 (by decide +kernel) (by decide +kernel)⟩⟩,
  List.forall_mem_cons.mpr ⟨⟨RX7, TX7, 10, rfl, by decide, iu_X7, Or.inr ⟨"ManorLoops", mz_inn 700 (by decide +kernel) (by decide +kernel)⟩⟩,
  List.forall_mem_cons.mpr ⟨⟨RX7, TX7, 10, rfl, by decide, iu_X7, Or.inr ⟨"ManorLoops", mz_inn 702 (by decide +kernel) (by decide +kernel)⟩⟩,
  List.forall_mem_cons.mpr ⟨⟨RX7, TX7, 10, rfl, by decide, iu_X7, Or.inr ⟨"ManorLoops", mz_inn 707 (by decide +kernel) (by decide +kernel)⟩⟩,
  List.forall_mem_cons.mpr ⟨⟨RX7, TX7, 10, rfl, by decide, iu_X7, Or.inr ⟨"ManorLoops", mz_inn 711 (by decide +kernel) (by decide +kernel)⟩⟩,
  List.forall_mem_cons.mpr ⟨⟨RX7, TX7, 10, rfl, by decide, iu_X7, Or.inr ⟨"ManorLoops", mz_inn 717 (by decide +kernel) (by decide +kernel)⟩⟩,
  List.forall_mem_cons.mpr ⟨⟨RX7, TX7, 10, rfl, by decide, iu_X7, Or.inr ⟨"ManorLoops", mz_inn 719 (by decide +kernel) (by decide +kernel)⟩⟩,
  List.forall_mem_cons.mpr ⟨⟨RX7, TX7, 10, rfl, by decide, iu_X7, Or.inr ⟨"ManorLoops", mz_inn 723 (by decide +kernel) (by decide +kernel)⟩⟩,
  List.forall_mem_cons.mpr ⟨⟨RX1, TX1, 4, rfl, by decide, iu_X1, Or.inr ⟨"ManorLoops", mz_inn 763 (by decide +kernel) (by decide +kernel)⟩⟩,
  List.forall_mem_cons.mpr ⟨⟨RX1, TX1, 4, rfl, by decide, iu_X1, Or.inr ⟨"ManorLoops", mz_inn 766 (by decide +kernel) (by decide +kernel)⟩⟩,
  List.forall_mem_cons.mpr ⟨⟨RX5, TX5, 5, rfl, by decide, iu_X5, Or.inr ⟨"ManorLoops", mz_inn 824 (by decide +kernel) (by decide +kernel)⟩⟩,
  List.forall_mem_cons.mpr ⟨⟨RX5, TX5, 5, rfl, by decide, iu_X5, Or.inr ⟨"ManorLoops", mz_inn 826 (by decide +kernel) (by decide +kernel)⟩⟩,
  List.forall_mem_cons.mpr ⟨⟨RX5, TX5, 5, rfl, by decide, iu_X5, Or.inr ⟨"ManorLoops", mz_inn 830 (by decide +kernel) (by decide +kernel)⟩⟩,
  List.forall_mem_cons.mpr ⟨⟨RX0, TX0, 9, rfl, by decide, iu_X0, Or.inr ⟨"ManorLoops", mz_inn 856 (by decide +kernel) (by decide +kernel)⟩⟩,
  List.forall_mem_cons.mpr ⟨⟨RX0, TX0, 9, rfl, by decide, iu_X0, Or.inr ⟨"ManorLoops", mz_inn 858 (by decide +kernel) (by decide +kernel)⟩⟩,
  List.forall_mem_cons.mpr ⟨⟨RX0, TX0, 9, rfl, by decide, iu_X0, Or.inr ⟨"ManorLoops", mz_inn 862 (by decide +kernel) (by decide +kernel)⟩⟩,
  List.forall_mem_cons.mpr ⟨⟨RX0, TX0, 9, rfl, by decide, iu_X0, Or.inr ⟨"ManorLoops", mz_inn 864 (by decide +kernel) (by decide +kernel)⟩⟩,
  List.forall_mem_cons.mpr ⟨⟨RX0, TX0, 9, rfl, by decide, iu_X0, Or.inr ⟨"ManorLoops", mz_inn 871 (by decide +kernel) (by decide +kernel)⟩⟩,
  List.forall_mem_cons.mpr ⟨⟨RX0, TX0, 9, rfl, by decide, iu_X0, Or.inr ⟨"ManorLoops", mz_inn 874 (by decide +kernel) (by decide +kernel)⟩⟩,
  List.forall_mem_cons.mpr ⟨⟨RX0, TX0, 9, rfl, by decide, iu_X0, Or.inr ⟨"ManorLoops", mz_inn 877 (by decide +kernel) (by decide +kernel)⟩⟩,
  List.forall_mem_cons.mpr ⟨⟨RX2, TX2, 8, rfl, by decide, iu_X2, Or.inl (mz_in 898 (by decide +kernel) (by decide +kernel))⟩,
  List.forall_mem_cons.mpr ⟨⟨RX2, TX2, 8, rfl, by decide, iu_X2, Or.inl (mz_in 899 (by decide +kernel) (by decide +kernel))⟩,
  List.forall_mem_cons.mpr ⟨⟨RX2, TX2, 8, rfl, by decide, iu_X2, Or.inl (mz_in 900 (by decide +kernel) (by decide +kernel))⟩,
  List.forall_mem_cons.mpr ⟨⟨RX2, TX2, 8, rfl, by decide, iu_X2, Or.inl (mz_in 902 (by decide +kernel) (by decide +kernel))⟩,
  List.forall_mem_cons.mpr ⟨⟨RX2, TX2, 8, rfl, by decide, iu_X2, Or.inl (mz_in 904 (by decide +kernel) (by decide +kernel))⟩,
  List.forall_mem_cons.mpr ⟨⟨RX2, TX2, 8, rfl, by decide, iu_X2, Or.inl (mz_in 906 (by decide +kernel) (by decide +kernel))⟩,
  List.forall_mem_cons.mpr ⟨⟨RX2, TX2, 8, rfl, by decide, iu_X2, Or.inl (mz_in 908 (by decide +kernel) (by decide +kernel))⟩,
  List.forall_mem_cons.mpr ⟨⟨RX2, TX2, 8, rfl, by decide, iu_X2, Or.inl (mz_in 909 (by decide +kernel) (by decide +kernel))⟩,
  fun _ h => absurd h List.not_mem_nil⟩⟩⟩⟩⟩⟩⟩⟩⟩⟩⟩⟩⟩⟩⟩⟩⟩⟩⟩⟩⟩⟩⟩⟩⟩⟩⟩⟩⟩⟩⟩⟩⟩⟩)
theorem wf_X2_20 : Cond.fieldLink RX2 20 (TX2 0).1 (TX2 0).2.1 (TX2 0).2.2.1 ∈ mz_ws := mz_in 898 (by decide +kernel) (by decide +kernel)
theorem wf_X2_24 : Cond.fieldLink RX2 24 (TX2 1).1 (TX2 1).2.1 (TX2 1).2.2.1 ∈ mz_ws := mz_in 899 (by decide +kernel) (by decide +kernel)
theorem wf_X2_33 : Cond.fieldLink RX2 33 (TX2 2).1 (TX2 2).2.1 (TX2 2).2.2.1 ∈ mz_ws := mz_in 900 (by decide +kernel) (by decide +kernel)
theorem wf_X2_40 : Cond.fieldLink RX2 40 (TX2 3).1 (TX2 3).2.1 (TX2 3).2.2.1 ∈ mz_ws := mz_in 902 (by decide +kernel) (by decide +kernel)
theorem wf_X2_47 : Cond.fieldLink RX2 47 (TX2 4).1 (TX2 4).2.1 (TX2 4).2.2.1 ∈ mz_ws := mz_in 904 (by decide +kernel) (by decide +kernel)
theorem wf_X2_54 : Cond.fieldLink RX2 54 (TX2 5).1 (TX2 5).2.1 (TX2 5).2.2.1 ∈ mz_ws := mz_in 906 (by decide +kernel) (by decide +kernel)
theorem wf_X2_14 : Cond.fieldLink RX2 14 (TX2 6).1 (TX2 6).2.1 (TX2 6).2.2.1 ∈ mz_ws := mz_in 908 (by decide +kernel) (by decide +kernel)
theorem wf_X2_58 : Cond.fieldLink RX2 58 (TX2 7).1 (TX2 7).2.1 (TX2 7).2.2.1 ∈ mz_ws := mz_in 909 (by decide +kernel) (by decide +kernel)
def klX2 : List (Nat × Int64) := []
theorem KLX2 : mz_KL RX2 klX2 := fun _ _ h => by cases h
def flX3 : List (Nat × Nat × Nat) := [(9, 3, 0), (20, 3, 1)]
theorem FLX3 : mz_FL RX3 vwCl flX3 := mz_FL_of (List.forall_mem_cons.mpr ⟨⟨RX3, TX3, 2, rfl, by decide, iu_X3, Or.inl (mz_in 640 (by decide +kernel) (by decide +kernel))⟩,
  List.forall_mem_cons.mpr ⟨⟨RX3, TX3, 2, rfl, by decide, iu_X3, Or.inl (mz_in 641 (by decide +kernel) (by decide +kernel))⟩,
  fun _ h => absurd h List.not_mem_nil⟩⟩)
theorem wf_X3_9 : Cond.fieldLink RX3 9 (TX3 0).1 (TX3 0).2.1 (TX3 0).2.2.1 ∈ mz_ws := mz_in 640 (by decide +kernel) (by decide +kernel)
theorem wf_X3_20 : Cond.fieldLink RX3 20 (TX3 1).1 (TX3 1).2.1 (TX3 1).2.2.1 ∈ mz_ws := mz_in 641 (by decide +kernel) (by decide +kernel)
def klX3 : List (Nat × Int64) := []
theorem KLX3 : mz_KL RX3 klX3 := fun _ _ h => by cases h
def flX4 : List (Nat × Nat × Nat) := [(41, 4, 0), (51, 4, 1), (14, 4, 2), (20, 4, 3), (28, 4, 4), (32, 4, 5), (35, 4, 6)]
theorem FLX4 : mz_FL RX4 vwCl flX4 := mz_FL_of (List.forall_mem_cons.mpr ⟨⟨RX4, TX4, 7, rfl, by decide, iu_X4, Or.inl (mz_in 648 (by decide +kernel) (by decide +kernel))⟩,
  List.forall_mem_cons.mpr ⟨⟨RX4, TX4, 7, rfl, by decide, iu_X4, Or.inl (mz_in 651 (by decide +kernel) (by decide +kernel))⟩,
  List.forall_mem_cons.mpr ⟨⟨RX4, TX4, 7, rfl, by decide, iu_X4, Or.inl (mz_in 653 (by decide +kernel) (by decide +kernel))⟩,
  List.forall_mem_cons.mpr ⟨⟨RX4, TX4, 7, rfl, by decide, iu_X4, Or.inl (mz_in 656 (by decide +kernel) (by decide +kernel))⟩,
  List.forall_mem_cons.mpr ⟨⟨RX4, TX4, 7, rfl, by decide, iu_X4, Or.inl (mz_in 658 (by decide +kernel) (by decide +kernel))⟩,
  List.forall_mem_cons.mpr ⟨⟨RX4, TX4, 7, rfl, by decide, iu_X4, Or.inl (mz_in 661 (by decide +kernel) (by decide +kernel))⟩,
  List.forall_mem_cons.mpr ⟨⟨RX4, TX4, 7, rfl, by decide, iu_X4, Or.inl (mz_in 664 (by decide +kernel) (by decide +kernel))⟩,
  fun _ h => absurd h List.not_mem_nil⟩⟩⟩⟩⟩⟩⟩)
theorem wf_X4_41 : Cond.fieldLink RX4 41 (TX4 0).1 (TX4 0).2.1 (TX4 0).2.2.1 ∈ mz_ws := mz_in 648 (by decide +kernel) (by decide +kernel)
theorem wf_X4_51 : Cond.fieldLink RX4 51 (TX4 1).1 (TX4 1).2.1 (TX4 1).2.2.1 ∈ mz_ws := mz_in 651 (by decide +kernel) (by decide +kernel)
theorem wf_X4_14 : Cond.fieldLink RX4 14 (TX4 2).1 (TX4 2).2.1 (TX4 2).2.2.1 ∈ mz_ws := mz_in 653 (by decide +kernel) (by decide +kernel)
theorem wf_X4_20 : Cond.fieldLink RX4 20 (TX4 3).1 (TX4 3).2.1 (TX4 3).2.2.1 ∈ mz_ws := mz_in 656 (by decide +kernel) (by decide +kernel)
theorem wf_X4_28 : Cond.fieldLink RX4 28 (TX4 4).1 (TX4 4).2.1 (TX4 4).2.2.1 ∈ mz_ws := mz_in 658 (by decide +kernel) (by decide +kernel)
theorem wf_X4_32 : Cond.fieldLink RX4 32 (TX4 5).1 (TX4 5).2.1 (TX4 5).2.2.1 ∈ mz_ws := mz_in 661 (by decide +kernel) (by decide +kernel)
theorem wf_X4_35 : Cond.fieldLink RX4 35 (TX4 6).1 (TX4 6).2.1 (TX4 6).2.2.1 ∈ mz_ws := mz_in 664 (by decide +kernel) (by decide +kernel)
def klX4 : List (Nat × Int64) := []
theorem KLX4 : mz_KL RX4 klX4 := fun _ _ h => by cases h
def flX5 : List (Nat × Nat × Nat) := [(48, 7, 1), (54, 7, 4), (29, 5, 0), (14, 5, 1), (20, 5, 2), (23, 5, 3), (26, 5, 4)]
theorem FLX5 : mz_FL RX5 vwCl flX5 := mz_FL_of (List.forall_mem_cons.mpr ⟨⟨RX7, TX7, 10, rfl, by decide, iu_X7, Or.inr ⟨"ManorLoops", mz_inn 696 (by decide +kernel) (by decide +kernel)⟩⟩,
  List.forall_mem_cons.mpr ⟨⟨RX7, TX7, 10, rfl, by decide, iu_X7, Or.inr ⟨"ManorLoops", mz_inn 704 (by decide +kernel) (by decide +kernel)⟩⟩,
  List.forall_mem_cons.mpr ⟨⟨RX5, TX5, 5, rfl, by decide, iu_X5, Or.inl (mz_in 822 (by decide +kernel) (by decide +kernel))⟩,
  List.forall_mem_cons.mpr ⟨⟨RX5, TX5, 5, rfl, by decide, iu_X5, Or.inl (mz_in 823 (by decide +kernel) (by decide +kernel))⟩,
  List.forall_mem_cons.mpr ⟨⟨RX5, TX5, 5, rfl, by decide, iu_X5, Or.inl (mz_in 825 (by decide +kernel) (by decide +kernel))⟩,
  List.forall_mem_cons.mpr ⟨⟨RX5, TX5, 5, rfl, by decide, iu_X5, Or.inl (mz_in 828 (by decide +kernel) (by decide +kernel))⟩,
  List.forall_mem_cons.mpr ⟨⟨RX5, TX5, 5, rfl, by decide, iu_X5, Or.inl (mz_in 831 (by decide +kernel) (by decide +kernel))⟩,
  fun _ h => absurd h List.not_mem_nil⟩⟩⟩⟩⟩⟩⟩)
theorem wf_X5_29 : Cond.fieldLink RX5 29 (TX5 0).1 (TX5 0).2.1 (TX5 0).2.2.1 ∈ mz_ws := mz_in 822 (by decide +kernel) (by decide +kernel)
theorem wf_X5_14 : Cond.fieldLink RX5 14 (TX5 1).1 (TX5 1).2.1 (TX5 1).2.2.1 ∈ mz_ws := mz_in 823 (by decide +kernel) (by decide +kernel)
theorem wf_X5_20 : Cond.fieldLink RX5 20 (TX5 2).1 (TX5 2).2.1 (TX5 2).2.2.1 ∈ mz_ws := mz_in 825 (by decide +kernel) (by decide +kernel)
theorem wf_X5_23 : Cond.fieldLink RX5 23 (TX5 3).1 (TX5 3).2.1 (TX5 3).2.2.1 ∈ mz_ws := mz_in 828 (by decide +kernel) (by decide +kernel)
theorem wf_X5_26 : Cond.fieldLink RX5 26 (TX5 4).1 (TX5 4).2.1 (TX5 4).2.2.1 ∈ mz_ws := mz_in 831 (by decide +kernel) (by decide +kernel)
def klX5 : List (Nat × Int64) := []
theorem KLX5 : mz_KL RX5 klX5 := fun _ _ h => by cases h
def flX6 : List (Nat × Nat × Nat) := [(9, 6, 0)]
theorem FLX6 : mz_FL RX6 vwCl flX6 := mz_FL_of (List.forall_mem_cons.mpr ⟨⟨RX6, TX6, 1, rfl, by decide, iu_X6, Or.inl (mz_in 627 (by decide +kernel) (by decide +kernel))⟩,
  fun _ h => absurd h List.not_mem_nil⟩)
theorem wf_X6_9 : Cond.fieldLink RX6 9 (TX6 0).1 (TX6 0).2.1 (TX6 0).2.2.1 ∈ mz_ws := mz_in 627 (by decide +kernel) (by decide +kernel)
def klX6 : List (Nat × Int64) := []
theorem KLX6 : mz_KL RX6 klX6 := fun _ _ h => by cases h
def flX7 : List (Nat × Nat × Nat) := [(38, 7, 0), (46, 7, 1), (49, 7, 2), (14, 7, 3), (20, 7, 4), (23, 7, 5), (26, 7, 6), (29, 7, 7), (32, 7, 8), (35, 7, 9)]
theorem FLX7 : mz_FL RX7 vwCl flX7 := mz_FL_of (List.forall_mem_cons.mpr ⟨⟨RX7, TX7, 10, rfl, by decide, iu_X7, Or.inl (mz_in 690 (by decide +kernel) (by decide +kernel))⟩,
  List.forall_mem_cons.mpr ⟨⟨RX7, TX7, 10, rfl, by decide, iu_X7, Or.inl (mz_in 694 (by decide +kernel) (by decide +kernel))⟩,
  List.forall_mem_cons.mpr ⟨⟨RX7, TX7, 10, rfl, by decide, iu_X7, Or.inl (mz_in 697 (by decide +kernel) (by decide +kernel))⟩,
  List.forall_mem_cons.mpr ⟨⟨RX7, TX7, 10, rfl, by decide, iu_X7, Or.inl (mz_in 701 (by decide +kernel) (by decide +kernel))⟩,
  List.forall_mem_cons.mpr ⟨⟨RX7, TX7, 10, rfl, by decide, iu_X7, Or.inl (mz_in 703 (by decide +kernel) (by decide +kernel))⟩,
  List.forall_mem_cons.mpr ⟨⟨RX7, TX7, 10, rfl, by decide, iu_X7, Or.inl (mz_in 706 (by decide +kernel) (by decide +kernel))⟩,
  List.forall_mem_cons.mpr ⟨⟨RX7, TX7, 10, rfl, by decide, iu_X7, Or.inl (mz_in 710 (by decide +kernel) (by decide +kernel))⟩,
  List.forall_mem_cons.mpr ⟨⟨RX7, TX7, 10, rfl, by decide, iu_X7, Or.inl (mz_in 714 (by decide +kernel) (by decide +kernel))⟩,
  List.forall_mem_cons.mpr ⟨⟨RX7, TX7, 10, rfl, by decide, iu_X7, Or.inl (mz_in 718 (by decide +kernel) (by decide +kernel))⟩,
  List.forall_mem_cons.mpr ⟨⟨RX7, TX7, 10, rfl, by decide, iu_X7, Or.inl (mz_in 722 (by decide +kernel) (by decide +kernel))⟩,
  fun _ h => absurd h List.not_mem_nil⟩⟩⟩⟩⟩⟩⟩⟩⟩⟩)
theorem wf_X7_38 : Cond.fieldLink RX7 38 (TX7 0).1 (TX7 0).2.1 (TX7 0).2.2.1 ∈ mz_ws := mz_in 690 (by decide +kernel) (by decide +kernel)
theorem wf_X7_46 : Cond.fieldLink RX7 46 (TX7 1).1 (TX7 1).2.1 (TX7 1).2.2.1 ∈ mz_ws := mz_in 694 (by decide +kernel) (by decide +kernel)
theorem wf_X7_49 : Cond.fieldLink RX7 49 (TX7 2).1 (TX7 2).2.1 (TX7 2).2.2.1 ∈ mz_ws := mz_in 697 (by decide +kernel) (by decide +kernel)
theorem wf_X7_14 : Cond.fieldLink RX7 14 (TX7 3).1 (TX7 3).2.1 (TX7 3).2.2.1 ∈ mz_ws := mz_in 701 (by decide +kernel) (by decide +kernel)
theorem wf_X7_20 : Cond.fieldLink RX7 20 (TX7 4).1 (TX7 4).2.1 (TX7 4).2.2.1 ∈ mz_ws := mz_in 703 (by decide +kernel) (by decide +kernel)
theorem wf_X7_23 : Cond.fieldLink RX7 23 (TX7 5).1 (TX7 5).2.1 (TX7 5).2.2.1 ∈ mz_ws := mz_in 706 (by decide +kernel) (by decide +kernel)
theorem wf_X7_26 : Cond.fieldLink RX7 26 (TX7 6).1 (TX7 6).2.1 (TX7 6).2.2.1 ∈ mz_ws := mz_in 710 (by decide +kernel) (by decide +kernel)
theorem wf_X7_29 : Cond.fieldLink RX7 29 (TX7 7).1 (TX7 7).2.1 (TX7 7).2.2.1 ∈ mz_ws := mz_in 714 (by decide +kernel) (by decide +kernel)
theorem wf_X7_32 : Cond.fieldLink RX7 32 (TX7 8).1 (TX7 8).2.1 (TX7 8).2.2.1 ∈ mz_ws := mz_in 718 (by decide +kernel) (by decide +kernel)
theorem wf_X7_35 : Cond.fieldLink RX7 35 (TX7 9).1 (TX7 9).2.1 (TX7 9).2.2.1 ∈ mz_ws := mz_in 722 (by decide +kernel) (by decide +kernel)
def klX7 : List (Nat × Int64) := []
theorem KLX7 : mz_KL RX7 klX7 := fun _ _ h => by cases h
def flX8 : List (Nat × Nat × Nat) := [(48, 7, 2), (83, 7, 5), (80, 7, 6), (70, 7, 7), (73, 7, 8), (32, 8, 0), (14, 8, 1), (20, 8, 2), (23, 8, 3), (26, 8, 4), (29, 8, 5), (40, 8, 6)]
theorem FLX8 : mz_FL RX8 vwCl flX8 := mz_FL_of (List.forall_mem_cons.mpr ⟨⟨RX7, TX7, 10, rfl, by decide, iu_X7, Or.inr ⟨"ManorLoops", mz_inn 698 (by decide +kernel) (by decide +kernel)⟩⟩,
  List.forall_mem_cons.mpr ⟨⟨RX7, TX7, 10, rfl, by decide, iu_X7, Or.inr ⟨"ManorLoops", mz_inn 708 (by decide +kernel) (by decide +kernel)⟩⟩,
  List.forall_mem_cons.mpr ⟨⟨RX7, TX7, 10, rfl, by decide, iu_X7, Or.inr ⟨"ManorLoops", mz_inn 712 (by decide +kernel) (by decide +kernel)⟩⟩,
  List.forall_mem_cons.mpr ⟨⟨RX7, TX7, 10, rfl, by decide, iu_X7, Or.inr ⟨"ManorLoops", mz_inn 715 (by decide +kernel) (by decide +kernel)⟩⟩,
  List.forall_mem_cons.mpr ⟨⟨RX7, TX7, 10, rfl, by decide, iu_X7, Or.inr ⟨"ManorLoops", mz_inn 720 (by decide +kernel) (by decide +kernel)⟩⟩,
  List.forall_mem_cons.mpr ⟨⟨RX8, TX8, 7, rfl, by decide, iu_X8, Or.inl (mz_in 786 (by decide +kernel) (by decide +kernel))⟩,
  List.forall_mem_cons.mpr ⟨⟨RX8, TX8, 7, rfl, by decide, iu_X8, Or.inl (mz_in 787 (by decide +kernel) (by decide +kernel))⟩,
  List.forall_mem_cons.mpr ⟨⟨RX8, TX8, 7, rfl, by decide, iu_X8, Or.inl (mz_in 789 (by decide +kernel) (by decide +kernel))⟩,
  List.forall_mem_cons.mpr ⟨⟨RX8, TX8, 7, rfl, by decide, iu_X8, Or.inl (mz_in 791 (by decide +kernel) (by decide +kernel))⟩,
  List.forall_mem_cons.mpr ⟨⟨RX8, TX8, 7, rfl, by decide, iu_X8, Or.inl (mz_in 793 (by decide +kernel) (by decide +kernel))⟩,
  List.forall_mem_cons.mpr ⟨⟨RX8, TX8, 7, rfl, by decide, iu_X8, Or.inl (mz_in 795 (by decide +kernel) (by decide +kernel))⟩,
  List.forall_mem_cons.mpr ⟨⟨RX8, TX8, 7, rfl, by decide, iu_X8, Or.inl (mz_in 797 (by decide +kernel) (by decide +kernel))⟩,
  fun _ h => absurd h List.not_mem_nil⟩⟩⟩⟩⟩⟩⟩⟩⟩⟩⟩⟩)
theorem wf_X8_32 : Cond.fieldLink RX8 32 (TX8 0).1 (TX8 0).2.1 (TX8 0).2.2.1 ∈ mz_ws := mz_in 786 (by decide +kernel) (by decide +kernel)
theorem wf_X8_14 : Cond.fieldLink RX8 14 (TX8 1).1 (TX8 1).2.1 (TX8 1).2.2.1 ∈ mz_ws := mz_in 787 (by decide +kernel) (by decide +kernel)
theorem wf_X8_20 : Cond.fieldLink RX8 20 (TX8 2).1 (TX8 2).2.1 (TX8 2).2.2.1 ∈ mz_ws := mz_in 789 (by decide +kernel) (by decide +kernel)
theorem wf_X8_23 : Cond.fieldLink RX8 23 (TX8 3).1 (TX8 3).2.1 (TX8 3).2.2.1 ∈ mz_ws := mz_in 791 (by decide +kernel) (by decide +kernel)
theorem wf_X8_26 : Cond.fieldLink RX8 26 (TX8 4).1 (TX8 4).2.1 (TX8 4).2.2.1 ∈ mz_ws := mz_in 793 (by decide +kernel) (by decide +kernel)
theorem wf_X8_29 : Cond.fieldLink RX8 29 (TX8 5).1 (TX8 5).2.1 (TX8 5).2.2.1 ∈ mz_ws := mz_in 795 (by decide +kernel) (by decide +kernel)
theorem wf_X8_40 : Cond.fieldLink RX8 40 (TX8 6).1 (TX8 6).2.1 (TX8 6).2.2.1 ∈ mz_ws := mz_in 797 (by decide +kernel) (by decide +kernel)
def klX8 : List (Nat × Int64) := []
theorem KLX8 : mz_KL RX8 klX8 := fun _ _ h => by cases h
def flX9 : List (Nat × Nat × Nat) := [(42, 4, 0), (61, 4, 1), (255, 4, 2), (64, 4, 4), (270, 4, 5), (273, 4, 6), (80, 7, 0), (98, 7, 1), (129, 7, 2), (330, 7, 4), (292, 7, 5), (293, 7, 6), (296, 7, 7), (299, 7, 8), (302, 7, 9), (276, 1, 1), (241, 1, 2), (286, 1, 3), (305, 8, 1), (308, 8, 2), (311, 8, 3), (191, 8, 4), (314, 8, 5), (348, 8, 6), (336, 5, 2), (339, 5, 3), (212, 5, 4), (150, 0, 0), (225, 0, 1), (170, 0, 2), (320, 0, 3), (323, 0, 4), (326, 0, 5), (327, 0, 6), (342, 0, 7), (258, 0, 8), (88, 2, 2), (187, 2, 3), (106, 2, 4), (146, 2, 5), (126, 2, 7), (10, 9, 0), (19, 9, 1), (28, 9, 2), (32, 9, 3)]
theorem FLX9 : mz_FL RX9 vwCl flX9 := mz_FL_of (List.forall_mem_cons.mpr ⟨⟨RX4, TX4, 7, rfl, by decide, iu_X4, Or.inr ⟨"ManorLoops", mz_inn 649 (by decide +kernel) (by decide +kernel)⟩⟩,
  List.forall_mem_cons.mpr ⟨⟨RX4, TX4, 7, rfl, by decide, iu_X4, Or.inr ⟨"ManorLoops", mz_inn 652 (by decide +kernel) (by decide +kernel)⟩⟩,
  List.forall_mem_cons.mpr ⟨⟨RX4, TX4, 7, rfl, by decide, iu_X4, Or.inr ⟨"ManorLoops", mz_inn 655 (by decide +kernel) (by decide +kernel)⟩⟩,
  List.forall_mem_cons.mpr ⟨⟨RX4, TX4, 7, rfl, by decide, iu_X4, Or.inr ⟨"ManorLoops", mz_inn 659 (by decide +kernel) (by decide +kernel)⟩⟩,
  List.forall_mem_cons.mpr ⟨⟨RX4, TX4, 7, rfl, by decide, iu_X4, Or.inr ⟨"ManorLoops", mz_inn 662 (by decide +kernel) (by decide +kernel)⟩⟩,
  List.forall_mem_cons.mpr ⟨⟨RX4, TX4, 7, rfl, by decide, iu_X4, Or.inr ⟨"ManorLoops", mz_inn 666 (by decide +kernel) (by decide +kernel)⟩⟩,
  List.forall_mem_cons.mpr ⟨⟨RX7, TX7, 10, rfl, by decide, iu_X7, Or.inr ⟨"ManorLoops", mz_inn 691 (by decide +kernel) (by decide +kernel)⟩⟩,
  List.forall_mem_cons.mpr ⟨⟨RX7, TX7, 10, rfl, by decide, iu_X7, Or.inr ⟨"ManorLoops", mz_inn 695 (by decide +kernel) (by decide +kernel)⟩⟩,
  List.forall_mem_cons.mpr ⟨⟨RX7, TX7, 10, rfl, by decide, iu_X7, Or.inr ⟨"ManorLoops", mz_inn 699 (by decide +kernel) (by decide +kernel)⟩⟩,
  List.forall_mem_cons.mpr ⟨⟨RX7, TX7, 10, rfl, by decide, iu_X7, Or.inr ⟨"ManorLoops", mz_inn 705 (by decide +kernel) (by decide +kernel)⟩⟩,
  List.forall_mem_cons.mpr ⟨⟨RX7, TX7, 10, rfl, by decide, iu_X7, Or.inr ⟨"ManorLoops", mz_inn 709 (by decide +kernel) (by decide +kernel)⟩⟩,
  List.forall_mem_cons.mpr ⟨⟨RX7, TX7, 10, rfl, by decide, iu_X7, Or.inr ⟨"ManorLoops", mz_inn 713 (by decide +kernel) (by decide +kernel)⟩⟩,
  List.forall_mem_cons.mpr ⟨⟨RX7, TX7, 10, rfl, by decide, iu_X7, Or.inr ⟨"ManorLoops", mz_inn 716 (by decide +kernel) (by decide +kernel)⟩⟩,
  List.forall_mem_cons.mpr ⟨⟨RX7, TX7, 10, rfl, by decide, iu_X7, Or.inr ⟨"ManorLoops", mz_inn 721 (by decide +kernel) (by decide +kernel)⟩⟩,
  List.forall_mem_cons.mpr ⟨⟨RX7, TX7, 10, rfl, by decide, iu_X7, Or.inr ⟨"ManorLoops", mz_inn 724 (by decide +kernel) (by decide +kernel)⟩⟩,
  List.forall_mem_cons.mpr ⟨⟨RX1, TX1, 4, rfl, by decide, iu_X1, Or.inr ⟨"ManorLoops", mz_inn 764 (by decide +kernel) (by decide +kernel)⟩⟩,
  List.forall_mem_cons.mpr ⟨⟨RX1, TX1, 4, rfl, by decide, iu_X1, Or.inr ⟨"ManorLoops", mz_inn 767 (by decide +kernel) (by decide +kernel)⟩⟩,
  List.forall_mem_cons.mpr ⟨⟨RX1, TX1, 4, rfl, by decide, iu_X1, Or.inr ⟨"ManorLoops", mz_inn 769 (by decide +kernel) (by decide +kernel)⟩⟩,
  List.forall_mem_cons.mpr ⟨⟨RX8, TX8, 7, rfl, by decide, iu_X8, Or.inr ⟨"ManorLoops", mz_inn 788 (by decide +kernel) (by decide +kernel)⟩⟩,
  List.forall_mem_cons.mpr ⟨⟨RX8, TX8, 7, rfl, by decide, iu_X8, Or.inr ⟨"ManorLoops", mz_inn 790 (by decide +kernel) (by decide +kernel)⟩⟩,
  List.forall_mem_cons.mpr ⟨⟨RX8, TX8, 7, rfl, by decide, iu_X8, Or.inr ⟨"ManorLoops", mz_inn 792 (by decide +kernel) (by decide +kernel)⟩⟩,
  List.forall_mem_cons.mpr ⟨⟨RX8, TX8, 7, rfl, by decide, iu_X8, Or.inr ⟨"ManorLoops", mz_inn 794 (by decide +kernel) (by decide +kernel)⟩⟩,
  List.forall_mem_cons.mpr ⟨⟨RX8, TX8, 7, rfl, by decide, iu_X8, Or.inr ⟨"ManorLoops", mz_inn 796 (by decide +kernel) (by decide +kernel)⟩⟩,
  List.forall_mem_cons.mpr ⟨⟨RX8, TX8, 7, rfl, by decide, iu_X8, Or.inr ⟨"ManorLoops", mz_inn 798 (by decide +kernel) (by decide +kernel)⟩⟩,
  List.forall_mem_cons.mpr ⟨⟨RX5, TX5, 5, rfl, by decide, iu_X5, Or.inr ⟨"ManorLoops", mz_inn 827 (by decide +kernel) (by decide +kernel)⟩⟩,
  List.forall_mem_cons.mpr ⟨⟨RX5, TX5, 5, rfl, by decide, iu_X5, Or.inr ⟨"ManorLoops", mz_inn 829 (by decide +kernel) (by decide +kernel)⟩⟩,
  List.forall_mem_cons.mpr ⟨⟨RX5, TX5, 5, rfl, by decide, iu_X5, Or.inr ⟨"ManorLoops", mz_inn 832 (by decide +kernel) (by decide +kernel)⟩⟩,
  List.forall_mem_cons.mpr ⟨⟨RX0, TX0, 9, rfl, by decide, iu_X0, Or.inr ⟨"ManorLoops", mz_inn 855 (by decide +kernel) (by decide +kernel)⟩⟩,
  List.forall_mem_cons.mpr ⟨⟨RX0, TX0, 9, rfl, by decide, iu_X0, Or.inr ⟨"ManorLoops", mz_inn 859 (by decide +kernel) (by decide +kernel)⟩⟩,
  List.forall_mem_cons.mpr ⟨⟨RX0, TX0, 9, rfl, by decide, iu_X0, Or.inr ⟨"ManorLoops", mz_inn 861 (by decide +kernel) (by decide +kernel)⟩⟩,
  List.forall_mem_cons.mpr ⟨⟨RX0, TX0, 9, rfl, by decide, iu_X0, Or.inr ⟨"ManorLoops", mz_inn 865 (by decide +kernel) (by decide +kernel)⟩⟩,
  List.forall_mem_cons.mpr ⟨⟨RX0, TX0, 9, rfl, by decide, iu_X0, Or.inr ⟨"ManorLoops", mz_inn 867 (by decide +kernel) (by decide +kernel)⟩⟩,
  List.forall_mem_cons.mpr ⟨⟨RX0, TX0, 9, rfl, by decide, iu_X0, Or.inr ⟨"ManorLoops", mz_inn 869 (by decide +kernel) (by decide +kernel)⟩⟩,
  List.forall_mem_cons.mpr ⟨⟨RX0, TX0, 9, rfl, by decide, iu_X0, Or.inr ⟨"ManorLoops", mz_inn 872 (by decide +kernel) (by decide +kernel)⟩⟩,
  List.forall_mem_cons.mpr ⟨⟨RX0, TX0, 9, rfl, by decide, iu_X0, Or.inr ⟨"ManorLoops", mz_inn 875 (by decide +kernel) (by decide +kernel)⟩⟩,
  List.forall_mem_cons.mpr ⟨⟨RX0, TX0, 9, rfl, by decide, iu_X0, Or.inr ⟨"ManorLoops", mz_inn 878 (by decide +kernel) (by decide +kernel)⟩⟩,
  List.forall_mem_cons.mpr ⟨⟨RX2, TX2, 8, rfl, by decide, iu_X2, Or.inr ⟨"ManorLoops", mz_inn 901 (by decide +kernel) (by decide +kernel)⟩⟩,
  List.forall_mem_cons.mpr ⟨⟨RX2, TX2, 8, rfl, by decide, iu_X2, Or.inr ⟨"ManorLoops", mz_inn 903 (by decide +kernel) (by decide +kernel)⟩⟩,
  List.forall_mem_cons.mpr ⟨⟨RX2, TX2, 8, rfl, by decide, iu_X2, Or.inr ⟨"ManorLoops", mz_inn 905 (by decide +kernel) (by decide +kernel)⟩⟩,
  List.forall_mem_cons.mpr ⟨⟨RX2, TX2, 8, rfl, by decide, iu_X2, Or.inr ⟨"ManorLoops", mz_inn 907 (by decide +kernel) (by decide +kernel)⟩⟩,
  List.forall_mem_cons.mpr ⟨⟨RX2, TX2, 8, rfl, by decide, iu_X2, Or.inr ⟨"ManorLoops", mz_inn 910 (by decide +kernel) (by decide +kernel)⟩⟩,
  List.forall_mem_cons.mpr ⟨⟨RX9, TX9, 4, rfl, by decide, iu_X9, Or.inl (mz_in 928 (by decide +kernel) (by decide +kernel))⟩,
  List.forall_mem_cons.mpr ⟨⟨RX9, TX9, 4, rfl, by decide, iu_X9, Or.inl (mz_in 929 (by decide +kernel) (by decide +kernel))⟩,
  List.forall_mem_cons.mpr ⟨⟨RX9, TX9, 4, rfl, by decide, iu_X9, Or.inl (mz_in 930 (by decide +kernel) (by decide +kernel))⟩,
  List.forall_mem_cons.mpr ⟨⟨RX9, TX9, 4, rfl, by decide, iu_X9, Or.inl (mz_in 931 (by decide +kernel) (by decide +kernel))⟩,
  fun _ h => absurd h List.not_mem_nil⟩⟩⟩⟩⟩⟩⟩⟩⟩⟩⟩⟩⟩⟩⟩⟩⟩⟩⟩⟩⟩⟩⟩⟩⟩⟩⟩⟩⟩⟩⟩⟩⟩⟩⟩⟩⟩⟩⟩⟩⟩⟩⟩⟩⟩)
theorem wf_X9_10 : Cond.fieldLink RX9 10 (TX9 0).1 (TX9 0).2.1 (TX9 0).2.2.1 ∈ mz_ws := mz_in 928 (by decide +kernel) (by decide +kernel)
theorem wf_X9_19 : Cond.fieldLink RX9 19 (TX9 1).1 (TX9 1).2.1 (TX9 1).2.2.1 ∈ mz_ws := mz_in 929 (by decide +kernel) (by decide +kernel)
theorem wf_X9_28 : Cond.fieldLink RX9 28 (TX9 2).1 (TX9 2).2.1 (TX9 2).2.2.1 ∈ mz_ws := mz_in 930 (by decide +kernel) (by decide +kernel)
theorem wf_X9_32 : Cond.fieldLink RX9 32 (TX9 3).1 (TX9 3).2.1 (TX9 3).2.2.1 ∈ mz_ws := mz_in 931 (by decide +kernel) (by decide +kernel)
def klX9 : List (Nat × Int64) := [(373, 9103), (398, 31)]
theorem KLX9 : mz_KL RX9 klX9 := by
  intro idx v h
  simp only [klX9, List.lookup_cons] at h
  split at h
  · rename_i e
    have e := eq_of_beq e
    subst e
    cases h
    exact mz_in 515 (by decide +kernel) (by decide +kernel)
  split at h
  · rename_i e
    have e := eq_of_beq e
    subst e
    cases h
    exact mz_in 520 (by decide +kernel) (by decide +kernel)
  cases h
def flX10 : List (Nat × Nat × Nat) := [(10, 10, 0), (41, 10, 1), (44, 10, 2), (16, 10, 3), (21, 10, 4), (25, 10, 5), (28, 10, 6), (31, 10, 7), (34, 10, 8), (38, 10, 9)]
theorem FLX10 : mz_FL RX10 vwCl flX10 := mz_FL_of (List.forall_mem_cons.mpr ⟨⟨RX10, TX10, 12, rfl, by decide, iu_X10, Or.inl (mz_in 944 (by decide +kernel) (by decide +kernel))⟩,
  List.forall_mem_cons.mpr ⟨⟨RX10, TX10, 12, rfl, by decide, iu_X10, Or.inl (mz_in 946 (by decide +kernel) (by decide +kernel))⟩,
  List.forall_mem_cons.mpr ⟨⟨RX10, TX10, 12, rfl, by decide, iu_X10, Or.inl (mz_in 947 (by decide +kernel) (by decide +kernel))⟩,
  List.forall_mem_cons.mpr ⟨⟨RX10, TX10, 12, rfl, by decide, iu_X10, Or.inl (mz_in 948 (by decide +kernel) (by decide +kernel))⟩,
  List.forall_mem_cons.mpr ⟨⟨RX10, TX10, 12, rfl, by decide, iu_X10, Or.inl (mz_in 949 (by decide +kernel) (by decide +kernel))⟩,
  List.forall_mem_cons.mpr ⟨⟨RX10, TX10, 12, rfl, by decide, iu_X10, Or.inl (mz_in 950 (by decide +kernel) (by decide +kernel))⟩,
  List.forall_mem_cons.mpr ⟨⟨RX10, TX10, 12, rfl, by decide, iu_X10, Or.inl (mz_in 952 (by decide +kernel) (by decide +kernel))⟩,
  List.forall_mem_cons.mpr ⟨⟨RX10, TX10, 12, rfl, by decide, iu_X10, Or.inl (mz_in 953 (by decide +kernel) (by decide +kernel))⟩,
  List.forall_mem_cons.mpr ⟨⟨RX10, TX10, 12, rfl, by decide, iu_X10, Or.inl (mz_in 954 (by decide +kernel) (by decide +kernel))⟩,
  List.forall_mem_cons.mpr ⟨⟨RX10, TX10, 12, rfl, by decide, iu_X10, Or.inl (mz_in 956 (by decide +kernel) (by decide +kernel))⟩,
  fun _ h => absurd h List.not_mem_nil⟩⟩⟩⟩⟩⟩⟩⟩⟩⟩)
theorem wf_X10_10 : Cond.fieldLink RX10 10 (TX10 0).1 (TX10 0).2.1 (TX10 0).2.2.1 ∈ mz_ws := mz_in 944 (by decide +kernel) (by decide +kernel)
theorem wf_X10_41 : Cond.fieldLink RX10 41 (TX10 1).1 (TX10 1).2.1 (TX10 1).2.2.1 ∈ mz_ws := mz_in 946 (by decide +kernel) (by decide +kernel)
theorem wf_X10_44 : Cond.fieldLink RX10 44 (TX10 2).1 (TX10 2).2.1 (TX10 2).2.2.1 ∈ mz_ws := mz_in 947 (by decide +kernel) (by decide +kernel)
theorem wf_X10_16 : Cond.fieldLink RX10 16 (TX10 3).1 (TX10 3).2.1 (TX10 3).2.2.1 ∈ mz_ws := mz_in 948 (by decide +kernel) (by decide +kernel)
theorem wf_X10_21 : Cond.fieldLink RX10 21 (TX10 4).1 (TX10 4).2.1 (TX10 4).2.2.1 ∈ mz_ws := mz_in 949 (by decide +kernel) (by decide +kernel)
theorem wf_X10_25 : Cond.fieldLink RX10 25 (TX10 5).1 (TX10 5).2.1 (TX10 5).2.2.1 ∈ mz_ws := mz_in 950 (by decide +kernel) (by decide +kernel)
theorem wf_X10_28 : Cond.fieldLink RX10 28 (TX10 6).1 (TX10 6).2.1 (TX10 6).2.2.1 ∈ mz_ws := mz_in 952 (by decide +kernel) (by decide +kernel)
theorem wf_X10_31 : Cond.fieldLink RX10 31 (TX10 7).1 (TX10 7).2.1 (TX10 7).2.2.1 ∈ mz_ws := mz_in 953 (by decide +kernel) (by decide +kernel)
theorem wf_X10_34 : Cond.fieldLink RX10 34 (TX10 8).1 (TX10 8).2.1 (TX10 8).2.2.1 ∈ mz_ws := mz_in 954 (by decide +kernel) (by decide +kernel)
theorem wf_X10_38 : Cond.fieldLink RX10 38 (TX10 9).1 (TX10 9).2.1 (TX10 9).2.2.1 ∈ mz_ws := mz_in 956 (by decide +kernel) (by decide +kernel)
def klX10 : List (Nat × Int64) := []
theorem KLX10 : mz_KL RX10 klX10 := fun _ _ h => by cases h
