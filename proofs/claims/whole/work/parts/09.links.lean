theorem mTb_in1 {i : Nat} {w : Cond} (h : tables_1_1[i]? = some w) (hg : goodWord w = true) : w ∈ mTb := List.mem_filter.mpr ⟨List.mem_append_right _ (List.mem_append_left _ (List.mem_of_getElem? h)), hg⟩
theorem mTb_in2 {i : Nat} {w : Cond} (h : tables_1_2[i]? = some w) (hg : goodWord w = true) : w ∈ mTb := List.mem_filter.mpr ⟨List.mem_append_right _ (List.mem_append_right _ (List.mem_append_left _ (List.mem_of_getElem? h))), hg⟩
theorem mTb_in3 {i : Nat} {w : Cond} (h : tables_1_3[i]? = some w) (hg : goodWord w = true) : w ∈ mTb := List.mem_filter.mpr ⟨List.mem_append_right _ (List.mem_append_right _ (List.mem_append_right _ (List.mem_append_left _ (List.mem_of_getElem? h)))), hg⟩
theorem mTb_in4 {i : Nat} {w : Cond} (h : tables_1_4[i]? = some w) (hg : goodWord w = true) : w ∈ mTb := List.mem_filter.mpr ⟨List.mem_append_right _ (List.mem_append_right _ (List.mem_append_right _ (List.mem_append_right _ (List.mem_of_getElem? h)))), hg⟩
/-! ===== methods, and their links by the places of the tables ===== -/
def mX5_init : mD := (yX5_init, cX5_init, 2, none, 154, 997)
theorem okX5_init : mOk mX5_init 0 := ⟨by decide +kernel, mTb_in1 (i := 18) rfl rfl, mTb_in1 (i := 1) rfl rfl, ⟨by decide +kernel, by decide +kernel, by decide +kernel⟩, by decide +kernel⟩
def mX2_init : mD := (yX2_init, cX2_init, 2, none, 24, 139)
theorem okX2_init : mOk mX2_init 0 := ⟨by decide +kernel, mTb_in1 (i := 26) rfl rfl, mTb_in1 (i := 2) rfl rfl, ⟨by decide +kernel, by decide +kernel, by decide +kernel⟩, by decide +kernel⟩
def mX0_init : mD := (yX0_init, cX0_init, 2, none, 2, 16)
theorem okX0_init : mOk mX0_init 0 := ⟨by decide +kernel, mTb_in1 (i := 32) rfl rfl, mTb_in1 (i := 3) rfl rfl, ⟨by decide +kernel, by decide +kernel, by decide +kernel⟩, by decide +kernel⟩
def mX4_init : mD := (yX4_init, cX4_init, 1, none, 3, 21)
theorem okX4_init : mOk mX4_init 0 := ⟨by decide +kernel, mTb_in1 (i := 48) rfl rfl, mTb_in1 (i := 4) rfl rfl, ⟨by decide +kernel, by decide +kernel, by decide +kernel⟩, by decide +kernel⟩
def mX1_init : mD := (yX1_init, cX1_init, 1, none, 5, 30)
theorem okX1_init : mOk mX1_init 0 := ⟨by decide +kernel, mTb_in1 (i := 66) rfl rfl, mTb_in1 (i := 5) rfl rfl, ⟨by decide +kernel, by decide +kernel, by decide +kernel⟩, by decide +kernel⟩
def mX3_init : mD := (yX3_init, cX3_init, 1, none, 2, 83)
theorem okX3_init : mOk mX3_init 0 := ⟨by decide +kernel, mTb_in1 (i := 137) rfl rfl, mTb_in1 (i := 6) rfl rfl, ⟨by decide +kernel, by decide +kernel, by decide +kernel⟩, by decide +kernel⟩
def mX5_begin : mD := (yX5_begin, cX5_begin, 2, (some .int), 0, 0)
theorem okX5_begin : mOk mX5_begin 1 := ⟨by decide +kernel, mTb_in1 (i := 184) rfl rfl, mTb_in1 (i := 1) rfl rfl, ⟨by decide +kernel, by decide +kernel, by decide +kernel⟩, by decide +kernel⟩
def mX5_spareRoom : mD := (yX5_spareRoom, cX5_spareRoom, 1, (some (.object "ChairNames$Room")), 0, 0)
theorem okX5_spareRoom : mOk mX5_spareRoom 0 := ⟨by decide +kernel, mTb_in1 (i := 188) rfl rfl, mTb_in1 (i := 1) rfl rfl, ⟨by decide +kernel, by decide +kernel, by decide +kernel⟩, by decide +kernel⟩
def mX2_become : mD := (yX2_become, cX2_become, 3, none, 0, 0)
theorem okX2_become : mOk mX2_become 1 := ⟨by decide +kernel, mTb_in1 (i := 192) rfl rfl, mTb_in1 (i := 2) rfl rfl, ⟨by decide +kernel, by decide +kernel, by decide +kernel⟩, by decide +kernel⟩
def mX0_become : mD := (yX0_become, cX0_become, 3, none, 0, 0)
theorem okX0_become : mOk mX0_become 1 := ⟨by decide +kernel, mTb_in1 (i := 196) rfl rfl, mTb_in1 (i := 3) rfl rfl, ⟨by decide +kernel, by decide +kernel, by decide +kernel⟩, by decide +kernel⟩
def mX4_become : mD := (yX4_become, cX4_become, 3, none, 0, 0)
theorem okX4_become : mOk mX4_become 1 := ⟨by decide +kernel, mTb_in1 (i := 200) rfl rfl, mTb_in1 (i := 4) rfl rfl, ⟨by decide +kernel, by decide +kernel, by decide +kernel⟩, by decide +kernel⟩
def mX1_become : mD := (yX1_become, cX1_become, 3, none, 0, 0)
theorem okX1_become : mOk mX1_become 1 := ⟨by decide +kernel, mTb_in1 (i := 204) rfl rfl, mTb_in1 (i := 5) rfl rfl, ⟨by decide +kernel, by decide +kernel, by decide +kernel⟩, by decide +kernel⟩
def mX2_empty : mD := (yX2_empty, cX2_empty, 3, (some .int), 0, 0)
theorem okX2_empty : mOk mX2_empty 1 := ⟨by decide +kernel, mTb_in1 (i := 208) rfl rfl, mTb_in1 (i := 2) rfl rfl, ⟨by decide +kernel, by decide +kernel, by decide +kernel⟩, by decide +kernel⟩
def mX5_within : mD := (yX5_within, cX5_within, 3, (some .boolean), 0, 0)
theorem okX5_within : mOk mX5_within 3 := ⟨by decide +kernel, mTb_in1 (i := 211) rfl rfl, mTb_in1 (i := 1) rfl rfl, ⟨by decide +kernel, by decide +kernel, by decide +kernel⟩, by decide +kernel⟩
def mX0_standAtZero : mD := (yX0_standAtZero, cX0_standAtZero, 2, none, 0, 0)
theorem okX0_standAtZero : mOk mX0_standAtZero 0 := ⟨by decide +kernel, mTb_in1 (i := 215) rfl rfl, mTb_in1 (i := 3) rfl rfl, ⟨by decide +kernel, by decide +kernel, by decide +kernel⟩, by decide +kernel⟩
def mX5_settle : mD := (yX5_settle, cX5_settle, 4, (some .int), 0, 0)
theorem okX5_settle : mOk mX5_settle 1 := ⟨by decide +kernel, mTb_in1 (i := 219) rfl rfl, mTb_in1 (i := 1) rfl rfl, ⟨by decide +kernel, by decide +kernel, by decide +kernel⟩, by decide +kernel⟩
def mX5_put : mD := (yX5_put, cX5_put, 3, (some .int), 0, 0)
theorem okX5_put : mOk mX5_put 2 := ⟨by decide +kernel, mTb_in1 (i := 223) rfl rfl, mTb_in1 (i := 1) rfl rfl, ⟨by decide +kernel, by decide +kernel, by decide +kernel⟩, by decide +kernel⟩
def mX2_putValue : mD := (yX2_putValue, cX2_putValue, 3, (some .int), 0, 0)
theorem okX2_putValue : mOk mX2_putValue 2 := ⟨by decide +kernel, mTb_in1 (i := 227) rfl rfl, mTb_in1 (i := 2) rfl rfl, ⟨by decide +kernel, by decide +kernel, by decide +kernel⟩, by decide +kernel⟩
def mX5_isName : mD := (yX5_isName, cX5_isName, 1, (some .boolean), 0, 0)
theorem okX5_isName : mOk mX5_isName 1 := ⟨by decide +kernel, mTb_in1 (i := 230) rfl rfl, mTb_in1 (i := 1) rfl rfl, ⟨by decide +kernel, by decide +kernel, by decide +kernel⟩, by decide +kernel⟩
def mX2_seat : mD := (yX2_seat, cX2_seat, 10, (some .int), 0, 0)
theorem okX2_seat : mOk mX2_seat 5 := ⟨by decide +kernel, mTb_in1 (i := 235) rfl rfl, mTb_in1 (i := 2) rfl rfl, ⟨by decide +kernel, by decide +kernel, by decide +kernel⟩, by decide +kernel⟩
def mX2_pinnedChairs : mD := (yX2_pinnedChairs, cX2_pinnedChairs, 4, (some .int), 0, 0)
theorem okX2_pinnedChairs : mOk mX2_pinnedChairs 0 := ⟨by decide +kernel, mTb_in1 (i := 239) rfl rfl, mTb_in1 (i := 2) rfl rfl, ⟨by decide +kernel, by decide +kernel, by decide +kernel⟩, by decide +kernel⟩
def mX0_chairSet : mD := (yX0_chairSet, cX0_chairSet, 3, (some .int), 0, 0)
theorem okX0_chairSet : mOk mX0_chairSet 0 := ⟨by decide +kernel, mTb_in2 (i := 3) rfl rfl, mTb_in1 (i := 3) rfl rfl, ⟨by decide +kernel, by decide +kernel, by decide +kernel⟩, by decide +kernel⟩
def mX2_lowestFreeChair : mD := (yX2_lowestFreeChair, cX2_lowestFreeChair, 3, (some .int), 0, 0)
theorem okX2_lowestFreeChair : mOk mX2_lowestFreeChair 1 := ⟨by decide +kernel, mTb_in2 (i := 7) rfl rfl, mTb_in1 (i := 2) rfl rfl, ⟨by decide +kernel, by decide +kernel, by decide +kernel⟩, by decide +kernel⟩
def mX0_chairSetOf : mD := (yX0_chairSetOf, cX0_chairSetOf, 2, (some .int), 0, 0)
theorem okX0_chairSetOf : mOk mX0_chairSetOf 1 := ⟨by decide +kernel, mTb_in2 (i := 11) rfl rfl, mTb_in1 (i := 3) rfl rfl, ⟨by decide +kernel, by decide +kernel, by decide +kernel⟩, by decide +kernel⟩
def mX2_longestUnused : mD := (yX2_longestUnused, cX2_longestUnused, 5, (some .int), 0, 0)
theorem okX2_longestUnused : mOk mX2_longestUnused 1 := ⟨by decide +kernel, mTb_in2 (i := 15) rfl rfl, mTb_in1 (i := 2) rfl rfl, ⟨by decide +kernel, by decide +kernel, by decide +kernel⟩, by decide +kernel⟩
def mX4_valueOn : mD := (yX4_valueOn, cX4_valueOn, 2, (some .int), 0, 0)
theorem okX4_valueOn : mOk mX4_valueOn 1 := ⟨by decide +kernel, mTb_in2 (i := 19) rfl rfl, mTb_in1 (i := 4) rfl rfl, ⟨by decide +kernel, by decide +kernel, by decide +kernel⟩, by decide +kernel⟩
def mX2_sendOut : mD := (yX2_sendOut, cX2_sendOut, 4, none, 0, 0)
theorem okX2_sendOut : mOk mX2_sendOut 2 := ⟨by decide +kernel, mTb_in2 (i := 23) rfl rfl, mTb_in1 (i := 2) rfl rfl, ⟨by decide +kernel, by decide +kernel, by decide +kernel⟩, by decide +kernel⟩
def mX4_place : mD := (yX4_place, cX4_place, 5, none, 0, 0)
theorem okX4_place : mOk mX4_place 4 := ⟨by decide +kernel, mTb_in2 (i := 27) rfl rfl, mTb_in1 (i := 4) rfl rfl, ⟨by decide +kernel, by decide +kernel, by decide +kernel⟩, by decide +kernel⟩
def mX5_copy : mD := (yX5_copy, cX5_copy, 3, (some .int), 0, 0)
theorem okX5_copy : mOk mX5_copy 2 := ⟨by decide +kernel, mTb_in2 (i := 31) rfl rfl, mTb_in1 (i := 1) rfl rfl, ⟨by decide +kernel, by decide +kernel, by decide +kernel⟩, by decide +kernel⟩
def mX2_copyName : mD := (yX2_copyName, cX2_copyName, 4, (some .int), 0, 0)
theorem okX2_copyName : mOk mX2_copyName 2 := ⟨by decide +kernel, mTb_in2 (i := 35) rfl rfl, mTb_in1 (i := 2) rfl rfl, ⟨by decide +kernel, by decide +kernel, by decide +kernel⟩, by decide +kernel⟩
def mX2_findSeat : mD := (yX2_findSeat, cX2_findSeat, 4, (some .boolean), 0, 0)
theorem okX2_findSeat : mOk mX2_findSeat 3 := ⟨by decide +kernel, mTb_in2 (i := 39) rfl rfl, mTb_in1 (i := 2) rfl rfl, ⟨by decide +kernel, by decide +kernel, by decide +kernel⟩, by decide +kernel⟩
def mX4_use : mD := (yX4_use, cX4_use, 3, none, 0, 0)
theorem okX4_use : mOk mX4_use 2 := ⟨by decide +kernel, mTb_in2 (i := 43) rfl rfl, mTb_in1 (i := 4) rfl rfl, ⟨by decide +kernel, by decide +kernel, by decide +kernel⟩, by decide +kernel⟩
def mX5_order : mD := (yX5_order, cX5_order, 5, (some .int), 0, 0)
theorem okX5_order : mOk mX5_order 4 := ⟨by decide +kernel, mTb_in2 (i := 47) rfl rfl, mTb_in1 (i := 1) rfl rfl, ⟨by decide +kernel, by decide +kernel, by decide +kernel⟩, by decide +kernel⟩
def mX2_giveOrder : mD := (yX2_giveOrder, cX2_giveOrder, 9, (some .int), 0, 0)
theorem okX2_giveOrder : mOk mX2_giveOrder 4 := ⟨by decide +kernel, mTb_in2 (i := 51) rfl rfl, mTb_in1 (i := 2) rfl rfl, ⟨by decide +kernel, by decide +kernel, by decide +kernel⟩, by decide +kernel⟩
def mX2_result : mD := (yX2_result, cX2_result, 3, (some .int), 0, 0)
theorem okX2_result : mOk mX2_result 3 := ⟨by decide +kernel, mTb_in2 (i := 54) rfl rfl, mTb_in1 (i := 2) rfl rfl, ⟨by decide +kernel, by decide +kernel, by decide +kernel⟩, by decide +kernel⟩
def mJ9_floorMod_7cf53 : mD := (yJ9_floorMod_7cf53, cJ9_floorMod_7cf53, 3, (some .int), 0, 0)
theorem okJ9_floorMod_7cf53 : mOk mJ9_floorMod_7cf53 2 := ⟨by decide +kernel, mTb_in2 (i := 57) rfl rfl, mTb_in1 (i := 8) rfl rfl, ⟨by decide +kernel, by decide +kernel, by decide +kernel⟩, by decide +kernel⟩
def mX1_add : mD := (yX1_add, cX1_add, 6, none, 0, 0)
theorem okX1_add : mOk mX1_add 5 := ⟨by decide +kernel, mTb_in2 (i := 62) rfl rfl, mTb_in1 (i := 5) rfl rfl, ⟨by decide +kernel, by decide +kernel, by decide +kernel⟩, by decide +kernel⟩
def mX5_tick : mD := (yX5_tick, cX5_tick, 2, (some .int), 0, 0)
theorem okX5_tick : mOk mX5_tick 1 := ⟨by decide +kernel, mTb_in2 (i := 66) rfl rfl, mTb_in1 (i := 1) rfl rfl, ⟨by decide +kernel, by decide +kernel, by decide +kernel⟩, by decide +kernel⟩
def mX2_letTicksGo : mD := (yX2_letTicksGo, cX2_letTicksGo, 4, (some .int), 0, 0)
theorem okX2_letTicksGo : mOk mX2_letTicksGo 1 := ⟨by decide +kernel, mTb_in2 (i := 70) rfl rfl, mTb_in1 (i := 2) rfl rfl, ⟨by decide +kernel, by decide +kernel, by decide +kernel⟩, by decide +kernel⟩
def mX2_letTickGo : mD := (yX2_letTickGo, cX2_letTickGo, 1, none, 0, 0)
theorem okX2_letTickGo : mOk mX2_letTickGo 0 := ⟨by decide +kernel, mTb_in2 (i := 75) rfl rfl, mTb_in1 (i := 2) rfl rfl, ⟨by decide +kernel, by decide +kernel, by decide +kernel⟩, by decide +kernel⟩
def mX2_finishOrders : mD := (yX2_finishOrders, cX2_finishOrders, 4, none, 0, 0)
theorem okX2_finishOrders : mOk mX2_finishOrders 0 := ⟨by decide +kernel, mTb_in2 (i := 79) rfl rfl, mTb_in1 (i := 2) rfl rfl, ⟨by decide +kernel, by decide +kernel, by decide +kernel⟩, by decide +kernel⟩
def mX4_knownTimeOf : mD := (yX4_knownTimeOf, cX4_knownTimeOf, 2, (some .int), 0, 0)
theorem okX4_knownTimeOf : mOk mX4_knownTimeOf 1 := ⟨by decide +kernel, mTb_in2 (i := 83) rfl rfl, mTb_in1 (i := 4) rfl rfl, ⟨by decide +kernel, by decide +kernel, by decide +kernel⟩, by decide +kernel⟩
def mX1_move : mD := (yX1_move, cX1_move, 3, none, 0, 0)
theorem okX1_move : mOk mX1_move 2 := ⟨by decide +kernel, mTb_in2 (i := 88) rfl rfl, mTb_in1 (i := 5) rfl rfl, ⟨by decide +kernel, by decide +kernel, by decide +kernel⟩, by decide +kernel⟩
def mX2_beginOrders : mD := (yX2_beginOrders, cX2_beginOrders, 8, none, 0, 0)
theorem okX2_beginOrders : mOk mX2_beginOrders 0 := ⟨by decide +kernel, mTb_in2 (i := 92) rfl rfl, mTb_in1 (i := 2) rfl rfl, ⟨by decide +kernel, by decide +kernel, by decide +kernel⟩, by decide +kernel⟩
def mX4_setKnownTime : mD := (yX4_setKnownTime, cX4_setKnownTime, 3, none, 0, 0)
theorem okX4_setKnownTime : mOk mX4_setKnownTime 2 := ⟨by decide +kernel, mTb_in2 (i := 96) rfl rfl, mTb_in1 (i := 4) rfl rfl, ⟨by decide +kernel, by decide +kernel, by decide +kernel⟩, by decide +kernel⟩
def mX5_set : mD := (yX5_set, cX5_set, 3, (some .int), 0, 0)
theorem okX5_set : mOk mX5_set 2 := ⟨by decide +kernel, mTb_in2 (i := 100) rfl rfl, mTb_in1 (i := 1) rfl rfl, ⟨by decide +kernel, by decide +kernel, by decide +kernel⟩, by decide +kernel⟩
def mX2_changeSetting : mD := (yX2_changeSetting, cX2_changeSetting, 6, (some .int), 0, 0)
theorem okX2_changeSetting : mOk mX2_changeSetting 2 := ⟨by decide +kernel, mTb_in2 (i := 104) rfl rfl, mTb_in1 (i := 2) rfl rfl, ⟨by decide +kernel, by decide +kernel, by decide +kernel⟩, by decide +kernel⟩
def mX5_mark : mD := (yX5_mark, cX5_mark, 1, (some .int), 0, 0)
theorem okX5_mark : mOk mX5_mark 0 := ⟨by decide +kernel, mTb_in2 (i := 108) rfl rfl, mTb_in1 (i := 1) rfl rfl, ⟨by decide +kernel, by decide +kernel, by decide +kernel⟩, by decide +kernel⟩
def mX2_addMark : mD := (yX2_addMark, cX2_addMark, 1, (some .int), 0, 0)
theorem okX2_addMark : mOk mX2_addMark 0 := ⟨by decide +kernel, mTb_in2 (i := 112) rfl rfl, mTb_in1 (i := 2) rfl rfl, ⟨by decide +kernel, by decide +kernel, by decide +kernel⟩, by decide +kernel⟩
def mX5_keep : mD := (yX5_keep, cX5_keep, 1, (some .int), 0, 0)
theorem okX5_keep : mOk mX5_keep 0 := ⟨by decide +kernel, mTb_in2 (i := 116) rfl rfl, mTb_in1 (i := 1) rfl rfl, ⟨by decide +kernel, by decide +kernel, by decide +kernel⟩, by decide +kernel⟩
def mX2_dropFirstMark : mD := (yX2_dropFirstMark, cX2_dropFirstMark, 2, (some .int), 0, 0)
theorem okX2_dropFirstMark : mOk mX2_dropFirstMark 0 := ⟨by decide +kernel, mTb_in2 (i := 120) rfl rfl, mTb_in1 (i := 2) rfl rfl, ⟨by decide +kernel, by decide +kernel, by decide +kernel⟩, by decide +kernel⟩
def mX1_forgetFirstMark : mD := (yX1_forgetFirstMark, cX1_forgetFirstMark, 2, none, 0, 0)
theorem okX1_forgetFirstMark : mOk mX1_forgetFirstMark 0 := ⟨by decide +kernel, mTb_in2 (i := 124) rfl rfl, mTb_in1 (i := 5) rfl rfl, ⟨by decide +kernel, by decide +kernel, by decide +kernel⟩, by decide +kernel⟩
def mX5_back : mD := (yX5_back, cX5_back, 2, (some .int), 0, 0)
theorem okX5_back : mOk mX5_back 1 := ⟨by decide +kernel, mTb_in2 (i := 128) rfl rfl, mTb_in1 (i := 1) rfl rfl, ⟨by decide +kernel, by decide +kernel, by decide +kernel⟩, by decide +kernel⟩
def mX2_goBack : mD := (yX2_goBack, cX2_goBack, 2, (some .int), 0, 0)
theorem okX2_goBack : mOk mX2_goBack 1 := ⟨by decide +kernel, mTb_in2 (i := 132) rfl rfl, mTb_in1 (i := 2) rfl rfl, ⟨by decide +kernel, by decide +kernel, by decide +kernel⟩, by decide +kernel⟩
def mX2_isMark : mD := (yX2_isMark, cX2_isMark, 2, (some .boolean), 0, 0)
theorem okX2_isMark : mOk mX2_isMark 1 := ⟨by decide +kernel, mTb_in2 (i := 136) rfl rfl, mTb_in1 (i := 2) rfl rfl, ⟨by decide +kernel, by decide +kernel, by decide +kernel⟩, by decide +kernel⟩
def mX1_dropGivenAfter : mD := (yX1_dropGivenAfter, cX1_dropGivenAfter, 3, (some .int), 0, 0)
theorem okX1_dropGivenAfter : mOk mX1_dropGivenAfter 1 := ⟨by decide +kernel, mTb_in2 (i := 140) rfl rfl, mTb_in1 (i := 5) rfl rfl, ⟨by decide +kernel, by decide +kernel, by decide +kernel⟩, by decide +kernel⟩
def mX5_markOf : mD := (yX5_markOf, cX5_markOf, 4, (some .int), 0, 0)
theorem okX5_markOf : mOk mX5_markOf 3 := ⟨by decide +kernel, mTb_in2 (i := 144) rfl rfl, mTb_in1 (i := 1) rfl rfl, ⟨by decide +kernel, by decide +kernel, by decide +kernel⟩, by decide +kernel⟩
def mX2_tellMark : mD := (yX2_tellMark, cX2_tellMark, 4, (some .int), 0, 0)
theorem okX2_tellMark : mOk mX2_tellMark 3 := ⟨by decide +kernel, mTb_in2 (i := 148) rfl rfl, mTb_in1 (i := 2) rfl rfl, ⟨by decide +kernel, by decide +kernel, by decide +kernel⟩, by decide +kernel⟩
def mX2_found : mD := (yX2_found, cX2_found, 1, (some .int), 0, 0)
theorem okX2_found : mOk mX2_found 1 := ⟨by decide +kernel, mTb_in2 (i := 151) rfl rfl, mTb_in1 (i := 2) rfl rfl, ⟨by decide +kernel, by decide +kernel, by decide +kernel⟩, by decide +kernel⟩
def mX5_nameOf : mD := (yX5_nameOf, cX5_nameOf, 3, (some .int), 0, 0)
theorem okX5_nameOf : mOk mX5_nameOf 2 := ⟨by decide +kernel, mTb_in2 (i := 155) rfl rfl, mTb_in1 (i := 1) rfl rfl, ⟨by decide +kernel, by decide +kernel, by decide +kernel⟩, by decide +kernel⟩
def mX2_tellName : mD := (yX2_tellName, cX2_tellName, 6, (some .int), 0, 0)
theorem okX2_tellName : mOk mX2_tellName 2 := ⟨by decide +kernel, mTb_in2 (i := 159) rfl rfl, mTb_in1 (i := 2) rfl rfl, ⟨by decide +kernel, by decide +kernel, by decide +kernel⟩, by decide +kernel⟩
def mX2_hidesValue : mD := (yX2_hidesValue, cX2_hidesValue, 2, (some .boolean), 0, 0)
theorem okX2_hidesValue : mOk mX2_hidesValue 1 := ⟨by decide +kernel, mTb_in2 (i := 163) rfl rfl, mTb_in1 (i := 2) rfl rfl, ⟨by decide +kernel, by decide +kernel, by decide +kernel⟩, by decide +kernel⟩
def mX2_isKnown : mD := (yX2_isKnown, cX2_isKnown, 2, (some .boolean), 0, 0)
theorem okX2_isKnown : mOk mX2_isKnown 1 := ⟨by decide +kernel, mTb_in2 (i := 167) rfl rfl, mTb_in1 (i := 2) rfl rfl, ⟨by decide +kernel, by decide +kernel, by decide +kernel⟩, by decide +kernel⟩
def mX0_namesOn : mD := (yX0_namesOn, cX0_namesOn, 4, (some .int), 0, 0)
theorem okX0_namesOn : mOk mX0_namesOn 1 := ⟨by decide +kernel, mTb_in2 (i := 171) rfl rfl, mTb_in1 (i := 3) rfl rfl, ⟨by decide +kernel, by decide +kernel, by decide +kernel⟩, by decide +kernel⟩
def mJ6_bitCount_0f7a4 : mD := (yJ6_bitCount_0f7a4, cJ6_bitCount_0f7a4, 1, (some .int), 0, 0)
theorem okJ6_bitCount_0f7a4 : mOk mJ6_bitCount_0f7a4 1 := ⟨by decide +kernel, mTb_in2 (i := 174) rfl rfl, mTb_in1 (i := 9) rfl rfl, ⟨by decide +kernel, by decide +kernel, by decide +kernel⟩, by decide +kernel⟩
def mX5_chairOf : mD := (yX5_chairOf, cX5_chairOf, 3, (some .int), 0, 0)
theorem okX5_chairOf : mOk mX5_chairOf 2 := ⟨by decide +kernel, mTb_in2 (i := 181) rfl rfl, mTb_in1 (i := 1) rfl rfl, ⟨by decide +kernel, by decide +kernel, by decide +kernel⟩, by decide +kernel⟩
def mX2_tellChair : mD := (yX2_tellChair, cX2_tellChair, 5, (some .int), 0, 0)
theorem okX2_tellChair : mOk mX2_tellChair 2 := ⟨by decide +kernel, mTb_in2 (i := 185) rfl rfl, mTb_in1 (i := 2) rfl rfl, ⟨by decide +kernel, by decide +kernel, by decide +kernel⟩, by decide +kernel⟩
def mX2_marksOn : mD := (yX2_marksOn, cX2_marksOn, 4, (some .int), 0, 0)
theorem okX2_marksOn : mOk mX2_marksOn 1 := ⟨by decide +kernel, mTb_in2 (i := 189) rfl rfl, mTb_in1 (i := 2) rfl rfl, ⟨by decide +kernel, by decide +kernel, by decide +kernel⟩, by decide +kernel⟩
def mX1_readersOf : mD := (yX1_readersOf, cX1_readersOf, 4, (some .int), 0, 0)
theorem okX1_readersOf : mOk mX1_readersOf 1 := ⟨by decide +kernel, mTb_in2 (i := 193) rfl rfl, mTb_in1 (i := 5) rfl rfl, ⟨by decide +kernel, by decide +kernel, by decide +kernel⟩, by decide +kernel⟩
def mX1_makeFor : mD := (yX1_makeFor, cX1_makeFor, 3, (some .boolean), 0, 0)
theorem okX1_makeFor : mOk mX1_makeFor 1 := ⟨by decide +kernel, mTb_in2 (i := 197) rfl rfl, mTb_in1 (i := 5) rfl rfl, ⟨by decide +kernel, by decide +kernel, by decide +kernel⟩, by decide +kernel⟩
def mX5_orderOf : mD := (yX5_orderOf, cX5_orderOf, 3, (some .int), 0, 0)
theorem okX5_orderOf : mOk mX5_orderOf 2 := ⟨by decide +kernel, mTb_in2 (i := 201) rfl rfl, mTb_in1 (i := 1) rfl rfl, ⟨by decide +kernel, by decide +kernel, by decide +kernel⟩, by decide +kernel⟩
def mX2_tellOrder : mD := (yX2_tellOrder, cX2_tellOrder, 3, (some .int), 0, 0)
theorem okX2_tellOrder : mOk mX2_tellOrder 2 := ⟨by decide +kernel, mTb_in2 (i := 205) rfl rfl, mTb_in1 (i := 2) rfl rfl, ⟨by decide +kernel, by decide +kernel, by decide +kernel⟩, by decide +kernel⟩
def mX1_isOne : mD := (yX1_isOne, cX1_isOne, 2, (some .boolean), 0, 0)
theorem okX1_isOne : mOk mX1_isOne 1 := ⟨by decide +kernel, mTb_in2 (i := 209) rfl rfl, mTb_in1 (i := 5) rfl rfl, ⟨by decide +kernel, by decide +kernel, by decide +kernel⟩, by decide +kernel⟩
def mX2_hasBegun : mD := (yX2_hasBegun, cX2_hasBegun, 2, (some .boolean), 0, 0)
theorem okX2_hasBegun : mOk mX2_hasBegun 1 := ⟨by decide +kernel, mTb_in2 (i := 213) rfl rfl, mTb_in1 (i := 2) rfl rfl, ⟨by decide +kernel, by decide +kernel, by decide +kernel⟩, by decide +kernel⟩
def mX5_count : mD := (yX5_count, cX5_count, 2, (some .int), 0, 0)
theorem okX5_count : mOk mX5_count 1 := ⟨by decide +kernel, mTb_in2 (i := 217) rfl rfl, mTb_in1 (i := 1) rfl rfl, ⟨by decide +kernel, by decide +kernel, by decide +kernel⟩, by decide +kernel⟩
def mX2_tellNumber : mD := (yX2_tellNumber, cX2_tellNumber, 2, (some .int), 0, 0)
theorem okX2_tellNumber : mOk mX2_tellNumber 1 := ⟨by decide +kernel, mTb_in2 (i := 221) rfl rfl, mTb_in1 (i := 2) rfl rfl, ⟨by decide +kernel, by decide +kernel, by decide +kernel⟩, by decide +kernel⟩
def mX2_begunOrders : mD := (yX2_begunOrders, cX2_begunOrders, 3, (some .int), 0, 0)
theorem okX2_begunOrders : mOk mX2_begunOrders 0 := ⟨by decide +kernel, mTb_in2 (i := 225) rfl rfl, mTb_in1 (i := 2) rfl rfl, ⟨by decide +kernel, by decide +kernel, by decide +kernel⟩, by decide +kernel⟩
def mX5_sends : mD := (yX5_sends, cX5_sends, 6, (some .int), 0, 0)
theorem okX5_sends : mOk mX5_sends 3 := ⟨by decide +kernel, mTb_in2 (i := 229) rfl rfl, mTb_in1 (i := 1) rfl rfl, ⟨by decide +kernel, by decide +kernel, by decide +kernel⟩, by decide +kernel⟩
def mX5_idleIn : mD := (yX5_idleIn, cX5_idleIn, 1, (some .int), 0, 0)
theorem okX5_idleIn : mOk mX5_idleIn 0 := ⟨by decide +kernel, mTb_in2 (i := 233) rfl rfl, mTb_in1 (i := 1) rfl rfl, ⟨by decide +kernel, by decide +kernel, by decide +kernel⟩, by decide +kernel⟩
def mX2_ticksTillIdle : mD := (yX2_ticksTillIdle, cX2_ticksTillIdle, 2, (some .int), 0, 0)
theorem okX2_ticksTillIdle : mOk mX2_ticksTillIdle 0 := ⟨by decide +kernel, mTb_in2 (i := 237) rfl rfl, mTb_in1 (i := 2) rfl rfl, ⟨by decide +kernel, by decide +kernel, by decide +kernel⟩, by decide +kernel⟩
def mX5_knownIn : mD := (yX5_knownIn, cX5_knownIn, 2, (some .int), 0, 0)
theorem okX5_knownIn : mOk mX5_knownIn 1 := ⟨by decide +kernel, mTb_in3 (i := 1) rfl rfl, mTb_in1 (i := 1) rfl rfl, ⟨by decide +kernel, by decide +kernel, by decide +kernel⟩, by decide +kernel⟩
def mX2_ticksTillKnown : mD := (yX2_ticksTillKnown, cX2_ticksTillKnown, 3, (some .int), 0, 0)
theorem okX2_ticksTillKnown : mOk mX2_ticksTillKnown 1 := ⟨by decide +kernel, mTb_in3 (i := 6) rfl rfl, mTb_in1 (i := 2) rfl rfl, ⟨by decide +kernel, by decide +kernel, by decide +kernel⟩, by decide +kernel⟩
def mX5_undo : mD := (yX5_undo, cX5_undo, 2, (some .int), 0, 0)
theorem okX5_undo : mOk mX5_undo 0 := ⟨by decide +kernel, mTb_in3 (i := 10) rfl rfl, mTb_in1 (i := 1) rfl rfl, ⟨by decide +kernel, by decide +kernel, by decide +kernel⟩, by decide +kernel⟩
def mX5_type : mD := (yX5_type, cX5_type, 2, (some .int), 0, 0)
theorem okX5_type : mOk mX5_type 1 := ⟨by decide +kernel, mTb_in3 (i := 14) rfl rfl, mTb_in1 (i := 1) rfl rfl, ⟨by decide +kernel, by decide +kernel, by decide +kernel⟩, by decide +kernel⟩
def mX3_append : mD := (yX3_append, cX3_append, 2, (some .int), 0, 0)
theorem okX3_append : mOk mX3_append 1 := ⟨by decide +kernel, mTb_in3 (i := 18) rfl rfl, mTb_in1 (i := 6) rfl rfl, ⟨by decide +kernel, by decide +kernel, by decide +kernel⟩, by decide +kernel⟩
def mX5_clearText : mD := (yX5_clearText, cX5_clearText, 2, (some .int), 0, 0)
theorem okX5_clearText : mOk mX5_clearText 0 := ⟨by decide +kernel, mTb_in3 (i := 22) rfl rfl, mTb_in1 (i := 1) rfl rfl, ⟨by decide +kernel, by decide +kernel, by decide +kernel⟩, by decide +kernel⟩
def mX5_fault : mD := (yX5_fault, cX5_fault, 2, (some .int), 0, 0)
theorem okX5_fault : mOk mX5_fault 1 := ⟨by decide +kernel, mTb_in3 (i := 26) rfl rfl, mTb_in1 (i := 1) rfl rfl, ⟨by decide +kernel, by decide +kernel, by decide +kernel⟩, by decide +kernel⟩
def mX5_tryText : mD := (yX5_tryText, cX5_tryText, 6, (some .int), 0, 0)
theorem okX5_tryText : mOk mX5_tryText 0 := ⟨by decide +kernel, mTb_in3 (i := 30) rfl rfl, mTb_in1 (i := 1) rfl rfl, ⟨by decide +kernel, by decide +kernel, by decide +kernel⟩, by decide +kernel⟩
def mX5_noteFault : mD := (yX5_noteFault, cX5_noteFault, 4, none, 0, 0)
theorem okX5_noteFault : mOk mX5_noteFault 3 := ⟨by decide +kernel, mTb_in3 (i := 34) rfl rfl, mTb_in1 (i := 1) rfl rfl, ⟨by decide +kernel, by decide +kernel, by decide +kernel⟩, by decide +kernel⟩
def mX3_readCommand : mD := (yX3_readCommand, cX3_readCommand, 3, (some .int), 0, 0)
theorem okX3_readCommand : mOk mX3_readCommand 1 := ⟨by decide +kernel, mTb_in3 (i := 38) rfl rfl, mTb_in1 (i := 6) rfl rfl, ⟨by decide +kernel, by decide +kernel, by decide +kernel⟩, by decide +kernel⟩
def mX3_form : mD := (yX3_form, cX3_form, 1, (some (.object "java/lang/String")), 0, 0)
theorem okX3_form : mOk mX3_form 1 := ⟨by decide +kernel, mTb_in3 (i := 41) rfl rfl, mTb_in1 (i := 6) rfl rfl, ⟨by decide +kernel, by decide +kernel, by decide +kernel⟩, by decide +kernel⟩
def mX3_matches : mD := (yX3_matches, cX3_matches, 7, (some .boolean), 0, 0)
theorem okX3_matches : mOk mX3_matches 2 := ⟨by decide +kernel, mTb_in3 (i := 54) rfl rfl, mTb_in1 (i := 6) rfl rfl, ⟨by decide +kernel, by decide +kernel, by decide +kernel⟩, by decide +kernel⟩
def mJ0_length_8abf5 : mD := (yJ0_length_8abf5, cJ0_length_8abf5, 1, (some .int), 0, 0)
theorem okJ0_length_8abf5 : mOk mJ0_length_8abf5 0 := ⟨by decide +kernel, mTb_in3 (i := 58) rfl rfl, mTb_in1 (i := 10) rfl rfl, ⟨by decide +kernel, by decide +kernel, by decide +kernel⟩, by decide +kernel⟩
def mJ0_coder_7d493 : mD := (yJ0_coder_7d493, cJ0_coder_7d493, 1, (some .byte), 0, 0)
theorem okJ0_coder_7d493 : mOk mJ0_coder_7d493 0 := ⟨by decide +kernel, mTb_in3 (i := 62) rfl rfl, mTb_in1 (i := 10) rfl rfl, ⟨by decide +kernel, by decide +kernel, by decide +kernel⟩, by decide +kernel⟩
def mJ0_charAt_5068e : mD := (yJ0_charAt_5068e, cJ0_charAt_5068e, 2, (some .char), 0, 0)
theorem okJ0_charAt_5068e : mOk mJ0_charAt_5068e 1 := ⟨by decide +kernel, mTb_in3 (i := 68) rfl rfl, mTb_in1 (i := 10) rfl rfl, ⟨by decide +kernel, by decide +kernel, by decide +kernel⟩, by decide +kernel⟩
def mJ0_isLatin1_aae02 : mD := (yJ0_isLatin1_aae02, cJ0_isLatin1_aae02, 1, (some .boolean), 0, 0)
theorem okJ0_isLatin1_aae02 : mOk mJ0_isLatin1_aae02 0 := ⟨by decide +kernel, mTb_in3 (i := 72) rfl rfl, mTb_in1 (i := 10) rfl rfl, ⟨by decide +kernel, by decide +kernel, by decide +kernel⟩, by decide +kernel⟩
def mJ1_charAt_3b067 : mD := (yJ1_charAt_3b067, cJ1_charAt_3b067, 2, (some .char), 0, 0)
theorem okJ1_charAt_3b067 : mOk mJ1_charAt_3b067 2 := ⟨by decide +kernel, mTb_in3 (i := 75) rfl rfl, mTb_in1 (i := 11) rfl rfl, ⟨by decide +kernel, by decide +kernel, by decide +kernel⟩, by decide +kernel⟩
def mJ0_checkIndex_df160 : mD := (yJ0_checkIndex_df160, cJ0_checkIndex_df160, 2, none, 0, 0)
theorem okJ0_checkIndex_df160 : mOk mJ0_checkIndex_df160 2 := ⟨by decide +kernel, mTb_in3 (i := 78) rfl rfl, mTb_in1 (i := 10) rfl rfl, ⟨by decide +kernel, by decide +kernel, by decide +kernel⟩, by decide +kernel⟩
def mJ3_checkIndex_8e157 : mD := (yJ3_checkIndex_8e157, cJ3_checkIndex_8e157, 3, (some .int), 0, 0)
theorem okJ3_checkIndex_8e157 : mOk mJ3_checkIndex_8e157 3 := ⟨by decide +kernel, mTb_in3 (i := 83) rfl rfl, mTb_in1 (i := 12) rfl rfl, ⟨by decide +kernel, by decide +kernel, by decide +kernel⟩, by decide +kernel⟩
def mJ2_charAt_3b067 : mD := (yJ2_charAt_3b067, cJ2_charAt_3b067, 2, (some .char), 0, 0)
theorem okJ2_charAt_3b067 : mOk mJ2_charAt_3b067 2 := ⟨by decide +kernel, mTb_in3 (i := 86) rfl rfl, mTb_in1 (i := 13) rfl rfl, ⟨by decide +kernel, by decide +kernel, by decide +kernel⟩, by decide +kernel⟩
def mJ2_checkIndex_2214a : mD := (yJ2_checkIndex_2214a, cJ2_checkIndex_2214a, 2, none, 0, 0)
theorem okJ2_checkIndex_2214a : mOk mJ2_checkIndex_2214a 2 := ⟨by decide +kernel, mTb_in3 (i := 89) rfl rfl, mTb_in1 (i := 13) rfl rfl, ⟨by decide +kernel, by decide +kernel, by decide +kernel⟩, by decide +kernel⟩
def mJ2_length_9d52b : mD := (yJ2_length_9d52b, cJ2_length_9d52b, 1, (some .int), 0, 0)
theorem okJ2_length_9d52b : mOk mJ2_length_9d52b 1 := ⟨by decide +kernel, mTb_in3 (i := 92) rfl rfl, mTb_in1 (i := 13) rfl rfl, ⟨by decide +kernel, by decide +kernel, by decide +kernel⟩, by decide +kernel⟩
def mJ2_getChar_3b067 : mD := (yJ2_getChar_3b067, cJ2_getChar_3b067, 2, (some .char), 0, 0)
theorem okJ2_getChar_3b067 : mOk mJ2_getChar_3b067 2 := ⟨by decide +kernel, mTb_in3 (i := 96) rfl rfl, mTb_in1 (i := 13) rfl rfl, ⟨by decide +kernel, by decide +kernel, by decide +kernel⟩, by decide +kernel⟩
def mX3_readName : mD := (yX3_readName, cX3_readName, 2, (some .int), 0, 0)
theorem okX3_readName : mOk mX3_readName 0 := ⟨by decide +kernel, mTb_in3 (i := 106) rfl rfl, mTb_in1 (i := 6) rfl rfl, ⟨by decide +kernel, by decide +kernel, by decide +kernel⟩, by decide +kernel⟩
def mX3_signAt : mD := (yX3_signAt, cX3_signAt, 2, (some .int), 0, 0)
theorem okX3_signAt : mOk mX3_signAt 1 := ⟨by decide +kernel, mTb_in3 (i := 110) rfl rfl, mTb_in1 (i := 6) rfl rfl, ⟨by decide +kernel, by decide +kernel, by decide +kernel⟩, by decide +kernel⟩
def mX3_readNumber : mD := (yX3_readNumber, cX3_readNumber, 3, (some .int), 0, 0)
theorem okX3_readNumber : mOk mX3_readNumber 0 := ⟨by decide +kernel, mTb_in3 (i := 115) rfl rfl, mTb_in1 (i := 6) rfl rfl, ⟨by decide +kernel, by decide +kernel, by decide +kernel⟩, by decide +kernel⟩
def mX2_perform : mD := (yX2_perform, cX2_perform, 5, (some .int), 0, 0)
theorem okX2_perform : mOk mX2_perform 4 := ⟨by decide +kernel, mTb_in3 (i := 119) rfl rfl, mTb_in1 (i := 2) rfl rfl, ⟨by decide +kernel, by decide +kernel, by decide +kernel⟩, by decide +kernel⟩
def mX5_play : mD := (yX5_play, cX5_play, 2, (some .int), 0, 0)
theorem okX5_play : mOk mX5_play 0 := ⟨by decide +kernel, mTb_in3 (i := 131) rfl rfl, mTb_in1 (i := 1) rfl rfl, ⟨by decide +kernel, by decide +kernel, by decide +kernel⟩, by decide +kernel⟩
def mX6_init : mD := (yX6_init, cX6_init, 1, none, 7, 1161)
theorem okX6_init : mOk mX6_init 0 := ⟨by decide +kernel, mTb_in3 (i := 136) rfl rfl, mTb_in1 (i := 7) rfl rfl, ⟨by decide +kernel, by decide +kernel, by decide +kernel⟩, by decide +kernel⟩
def mX6_clears : mD := (yX6_clears, cX6_clears, 3, none, 0, 0)
theorem okX6_clears : mOk mX6_clears 1 := ⟨by decide +kernel, mTb_in3 (i := 141) rfl rfl, mTb_in1 (i := 7) rfl rfl, ⟨by decide +kernel, by decide +kernel, by decide +kernel⟩, by decide +kernel⟩
def mX6_in : mD := (yX6_in, cX6_in, 3, (some .boolean), 0, 0)
theorem okX6_in : mOk mX6_in 3 := ⟨by decide +kernel, mTb_in3 (i := 144) rfl rfl, mTb_in1 (i := 7) rfl rfl, ⟨by decide +kernel, by decide +kernel, by decide +kernel⟩, by decide +kernel⟩
def mX6_begin : mD := (yX6_begin, cX6_begin, 3, (some .int), 0, 0)
theorem okX6_begin : mOk mX6_begin 1 := ⟨by decide +kernel, mTb_in3 (i := 188) rfl rfl, mTb_in1 (i := 7) rfl rfl, ⟨by decide +kernel, by decide +kernel, by decide +kernel⟩, by decide +kernel⟩
def mX6_changes : mD := (yX6_changes, cX6_changes, 3, none, 0, 0)
theorem okX6_changes : mOk mX6_changes 1 := ⟨by decide +kernel, mTb_in3 (i := 192) rfl rfl, mTb_in1 (i := 7) rfl rfl, ⟨by decide +kernel, by decide +kernel, by decide +kernel⟩, by decide +kernel⟩
def mX6_put : mD := (yX6_put, cX6_put, 4, (some .int), 0, 0)
theorem okX6_put : mOk mX6_put 2 := ⟨by decide +kernel, mTb_in3 (i := 196) rfl rfl, mTb_in1 (i := 7) rfl rfl, ⟨by decide +kernel, by decide +kernel, by decide +kernel⟩, by decide +kernel⟩
def mX6_isName : mD := (yX6_isName, cX6_isName, 1, (some .boolean), 0, 0)
theorem okX6_isName : mOk mX6_isName 1 := ⟨by decide +kernel, mTb_in3 (i := 199) rfl rfl, mTb_in1 (i := 7) rfl rfl, ⟨by decide +kernel, by decide +kernel, by decide +kernel⟩, by decide +kernel⟩
def mX6_copies : mD := (yX6_copies, cX6_copies, 3, none, 0, 0)
theorem okX6_copies : mOk mX6_copies 2 := ⟨by decide +kernel, mTb_in3 (i := 202) rfl rfl, mTb_in1 (i := 7) rfl rfl, ⟨by decide +kernel, by decide +kernel, by decide +kernel⟩, by decide +kernel⟩
def mX6_givesUp : mD := (yX6_givesUp, cX6_givesUp, 2, none, 0, 0)
theorem okX6_givesUp : mOk mX6_givesUp 1 := ⟨by decide +kernel, mTb_in3 (i := 206) rfl rfl, mTb_in1 (i := 7) rfl rfl, ⟨by decide +kernel, by decide +kernel, by decide +kernel⟩, by decide +kernel⟩
def mX6_frees : mD := (yX6_frees, cX6_frees, 3, none, 0, 0)
theorem okX6_frees : mOk mX6_frees 0 := ⟨by decide +kernel, mTb_in3 (i := 210) rfl rfl, mTb_in1 (i := 7) rfl rfl, ⟨by decide +kernel, by decide +kernel, by decide +kernel⟩, by decide +kernel⟩
def mX6_isHad : mD := (yX6_isHad, cX6_isHad, 4, (some .boolean), 0, 0)
theorem okX6_isHad : mOk mX6_isHad 1 := ⟨by decide +kernel, mTb_in3 (i := 214) rfl rfl, mTb_in1 (i := 7) rfl rfl, ⟨by decide +kernel, by decide +kernel, by decide +kernel⟩, by decide +kernel⟩
def mX6_marksOf : mD := (yX6_marksOf, cX6_marksOf, 5, (some .int), 0, 0)
theorem okX6_marksOf : mOk mX6_marksOf 1 := ⟨by decide +kernel, mTb_in3 (i := 218) rfl rfl, mTb_in1 (i := 7) rfl rfl, ⟨by decide +kernel, by decide +kernel, by decide +kernel⟩, by decide +kernel⟩
def mX6_readers : mD := (yX6_readers, cX6_readers, 4, (some .int), 0, 0)
theorem okX6_readers : mOk mX6_readers 1 := ⟨by decide +kernel, mTb_in3 (i := 222) rfl rfl, mTb_in1 (i := 7) rfl rfl, ⟨by decide +kernel, by decide +kernel, by decide +kernel⟩, by decide +kernel⟩
def mX6_ofOrder : mD := (yX6_ofOrder, cX6_ofOrder, 2, (some .int), 0, 0)
theorem okX6_ofOrder : mOk mX6_ofOrder 2 := ⟨by decide +kernel, mTb_in3 (i := 225) rfl rfl, mTb_in1 (i := 7) rfl rfl, ⟨by decide +kernel, by decide +kernel, by decide +kernel⟩, by decide +kernel⟩
def mX6_isOfOrder : mD := (yX6_isOfOrder, cX6_isOfOrder, 4, (some .boolean), 0, 0)
theorem okX6_isOfOrder : mOk mX6_isOfOrder 1 := ⟨by decide +kernel, mTb_in3 (i := 229) rfl rfl, mTb_in1 (i := 7) rfl rfl, ⟨by decide +kernel, by decide +kernel, by decide +kernel⟩, by decide +kernel⟩
def mX6_at : mD := (yX6_at, cX6_at, 2, (some .int), 0, 0)
theorem okX6_at : mOk mX6_at 2 := ⟨by decide +kernel, mTb_in3 (i := 232) rfl rfl, mTb_in1 (i := 7) rfl rfl, ⟨by decide +kernel, by decide +kernel, by decide +kernel⟩, by decide +kernel⟩
def mX6_gets : mD := (yX6_gets, cX6_gets, 5, (some .int), 0, 0)
theorem okX6_gets : mOk mX6_gets 3 := ⟨by decide +kernel, mTb_in3 (i := 236) rfl rfl, mTb_in1 (i := 7) rfl rfl, ⟨by decide +kernel, by decide +kernel, by decide +kernel⟩, by decide +kernel⟩
def mX6_chairFor : mD := (yX6_chairFor, cX6_chairFor, 5, (some .int), 0, 0)
theorem okX6_chairFor : mOk mX6_chairFor 2 := ⟨by decide +kernel, mTb_in4 (i := 0) rfl rfl, mTb_in1 (i := 7) rfl rfl, ⟨by decide +kernel, by decide +kernel, by decide +kernel⟩, by decide +kernel⟩
def mX6_next : mD := (yX6_next, cX6_next, 7, (some .int), 0, 0)
theorem okX6_next : mOk mX6_next 2 := ⟨by decide +kernel, mTb_in4 (i := 4) rfl rfl, mTb_in1 (i := 7) rfl rfl, ⟨by decide +kernel, by decide +kernel, by decide +kernel⟩, by decide +kernel⟩
def mX6_isKnown : mD := (yX6_isKnown, cX6_isKnown, 3, none, 0, 0)
theorem okX6_isKnown : mOk mX6_isKnown 2 := ⟨by decide +kernel, mTb_in4 (i := 8) rfl rfl, mTb_in1 (i := 7) rfl rfl, ⟨by decide +kernel, by decide +kernel, by decide +kernel⟩, by decide +kernel⟩
def mX6_copy : mD := (yX6_copy, cX6_copy, 4, (some .int), 0, 0)
theorem okX6_copy : mOk mX6_copy 2 := ⟨by decide +kernel, mTb_in4 (i := 12) rfl rfl, mTb_in1 (i := 7) rfl rfl, ⟨by decide +kernel, by decide +kernel, by decide +kernel⟩, by decide +kernel⟩
def mX6_sits : mD := (yX6_sits, cX6_sits, 6, (some .boolean), 0, 0)
theorem okX6_sits : mOk mX6_sits 3 := ⟨by decide +kernel, mTb_in4 (i := 16) rfl rfl, mTb_in1 (i := 7) rfl rfl, ⟨by decide +kernel, by decide +kernel, by decide +kernel⟩, by decide +kernel⟩
def mX6_order : mD := (yX6_order, cX6_order, 7, (some .int), 0, 0)
theorem okX6_order : mOk mX6_order 4 := ⟨by decide +kernel, mTb_in4 (i := 20) rfl rfl, mTb_in1 (i := 7) rfl rfl, ⟨by decide +kernel, by decide +kernel, by decide +kernel⟩, by decide +kernel⟩
def mX6_gives : mD := (yX6_gives, cX6_gives, 8, (some .int), 0, 0)
theorem okX6_gives : mOk mX6_gives 3 := ⟨by decide +kernel, mTb_in4 (i := 24) rfl rfl, mTb_in1 (i := 7) rfl rfl, ⟨by decide +kernel, by decide +kernel, by decide +kernel⟩, by decide +kernel⟩
def mX6_tick : mD := (yX6_tick, cX6_tick, 4, (some .int), 0, 0)
theorem okX6_tick : mOk mX6_tick 1 := ⟨by decide +kernel, mTb_in4 (i := 28) rfl rfl, mTb_in1 (i := 7) rfl rfl, ⟨by decide +kernel, by decide +kernel, by decide +kernel⟩, by decide +kernel⟩
def mX6_ticks : mD := (yX6_ticks, cX6_ticks, 4, none, 0, 0)
theorem okX6_ticks : mOk mX6_ticks 0 := ⟨by decide +kernel, mTb_in4 (i := 33) rfl rfl, mTb_in1 (i := 7) rfl rfl, ⟨by decide +kernel, by decide +kernel, by decide +kernel⟩, by decide +kernel⟩
def mX6_dones : mD := (yX6_dones, cX6_dones, 4, none, 0, 0)
theorem okX6_dones : mOk mX6_dones 0 := ⟨by decide +kernel, mTb_in4 (i := 37) rfl rfl, mTb_in1 (i := 7) rfl rfl, ⟨by decide +kernel, by decide +kernel, by decide +kernel⟩, by decide +kernel⟩
def mX6_result : mD := (yX6_result, cX6_result, 4, (some .int), 0, 0)
theorem okX6_result : mOk mX6_result 3 := ⟨by decide +kernel, mTb_in4 (i := 40) rfl rfl, mTb_in1 (i := 7) rfl rfl, ⟨by decide +kernel, by decide +kernel, by decide +kernel⟩, by decide +kernel⟩
def mX6_drops : mD := (yX6_drops, cX6_drops, 3, none, 0, 0)
theorem okX6_drops : mOk mX6_drops 1 := ⟨by decide +kernel, mTb_in4 (i := 45) rfl rfl, mTb_in1 (i := 7) rfl rfl, ⟨by decide +kernel, by decide +kernel, by decide +kernel⟩, by decide +kernel⟩
def mX6_set : mD := (yX6_set, cX6_set, 5, (some .int), 0, 0)
theorem okX6_set : mOk mX6_set 2 := ⟨by decide +kernel, mTb_in4 (i := 49) rfl rfl, mTb_in1 (i := 7) rfl rfl, ⟨by decide +kernel, by decide +kernel, by decide +kernel⟩, by decide +kernel⟩
def mX6_mark : mD := (yX6_mark, cX6_mark, 2, (some .int), 0, 0)
theorem okX6_mark : mOk mX6_mark 0 := ⟨by decide +kernel, mTb_in4 (i := 53) rfl rfl, mTb_in1 (i := 7) rfl rfl, ⟨by decide +kernel, by decide +kernel, by decide +kernel⟩, by decide +kernel⟩
def mX6_keep : mD := (yX6_keep, cX6_keep, 2, (some .int), 0, 0)
theorem okX6_keep : mOk mX6_keep 0 := ⟨by decide +kernel, mTb_in4 (i := 57) rfl rfl, mTb_in1 (i := 7) rfl rfl, ⟨by decide +kernel, by decide +kernel, by decide +kernel⟩, by decide +kernel⟩
def mX6_back : mD := (yX6_back, cX6_back, 4, (some .int), 0, 0)
theorem okX6_back : mOk mX6_back 1 := ⟨by decide +kernel, mTb_in4 (i := 61) rfl rfl, mTb_in1 (i := 7) rfl rfl, ⟨by decide +kernel, by decide +kernel, by decide +kernel⟩, by decide +kernel⟩
def mX6_isMark : mD := (yX6_isMark, cX6_isMark, 2, (some .boolean), 0, 0)
theorem okX6_isMark : mOk mX6_isMark 1 := ⟨by decide +kernel, mTb_in4 (i := 65) rfl rfl, mTb_in1 (i := 7) rfl rfl, ⟨by decide +kernel, by decide +kernel, by decide +kernel⟩, by decide +kernel⟩
def mX6_markOf : mD := (yX6_markOf, cX6_markOf, 5, (some .int), 0, 0)
theorem okX6_markOf : mOk mX6_markOf 3 := ⟨by decide +kernel, mTb_in4 (i := 69) rfl rfl, mTb_in1 (i := 7) rfl rfl, ⟨by decide +kernel, by decide +kernel, by decide +kernel⟩, by decide +kernel⟩
def mX6_nameOf : mD := (yX6_nameOf, cX6_nameOf, 4, (some .int), 0, 0)
theorem okX6_nameOf : mOk mX6_nameOf 2 := ⟨by decide +kernel, mTb_in4 (i := 73) rfl rfl, mTb_in1 (i := 7) rfl rfl, ⟨by decide +kernel, by decide +kernel, by decide +kernel⟩, by decide +kernel⟩
def mX6_names : mD := (yX6_names, cX6_names, 4, (some .int), 0, 0)
theorem okX6_names : mOk mX6_names 1 := ⟨by decide +kernel, mTb_in4 (i := 77) rfl rfl, mTb_in1 (i := 7) rfl rfl, ⟨by decide +kernel, by decide +kernel, by decide +kernel⟩, by decide +kernel⟩
def mX6_ones : mD := (yX6_ones, cX6_ones, 3, (some .int), 0, 0)
theorem okX6_ones : mOk mX6_ones 1 := ⟨by decide +kernel, mTb_in4 (i := 80) rfl rfl, mTb_in1 (i := 7) rfl rfl, ⟨by decide +kernel, by decide +kernel, by decide +kernel⟩, by decide +kernel⟩
def mX6_toCome : mD := (yX6_toCome, cX6_toCome, 3, (some .int), 0, 0)
theorem okX6_toCome : mOk mX6_toCome 1 := ⟨by decide +kernel, mTb_in4 (i := 84) rfl rfl, mTb_in1 (i := 7) rfl rfl, ⟨by decide +kernel, by decide +kernel, by decide +kernel⟩, by decide +kernel⟩
def mX6_chairOf : mD := (yX6_chairOf, cX6_chairOf, 3, (some .int), 0, 0)
theorem okX6_chairOf : mOk mX6_chairOf 2 := ⟨by decide +kernel, mTb_in4 (i := 88) rfl rfl, mTb_in1 (i := 7) rfl rfl, ⟨by decide +kernel, by decide +kernel, by decide +kernel⟩, by decide +kernel⟩
def mX6_orderOf : mD := (yX6_orderOf, cX6_orderOf, 4, (some .int), 0, 0)
theorem okX6_orderOf : mOk mX6_orderOf 2 := ⟨by decide +kernel, mTb_in4 (i := 92) rfl rfl, mTb_in1 (i := 7) rfl rfl, ⟨by decide +kernel, by decide +kernel, by decide +kernel⟩, by decide +kernel⟩
def mX6_count : mD := (yX6_count, cX6_count, 2, (some .int), 0, 0)
theorem okX6_count : mOk mX6_count 1 := ⟨by decide +kernel, mTb_in4 (i := 96) rfl rfl, mTb_in1 (i := 7) rfl rfl, ⟨by decide +kernel, by decide +kernel, by decide +kernel⟩, by decide +kernel⟩
def mX6_many : mD := (yX6_many, cX6_many, 4, (some .int), 0, 0)
theorem okX6_many : mOk mX6_many 1 := ⟨by decide +kernel, mTb_in4 (i := 100) rfl rfl, mTb_in1 (i := 7) rfl rfl, ⟨by decide +kernel, by decide +kernel, by decide +kernel⟩, by decide +kernel⟩
def mX6_sends : mD := (yX6_sends, cX6_sends, 6, (some .int), 0, 0)
theorem okX6_sends : mOk mX6_sends 3 := ⟨by decide +kernel, mTb_in4 (i := 104) rfl rfl, mTb_in1 (i := 7) rfl rfl, ⟨by decide +kernel, by decide +kernel, by decide +kernel⟩, by decide +kernel⟩
def mX6_idleIn : mD := (yX6_idleIn, cX6_idleIn, 2, (some .int), 0, 0)
theorem okX6_idleIn : mOk mX6_idleIn 0 := ⟨by decide +kernel, mTb_in4 (i := 108) rfl rfl, mTb_in1 (i := 7) rfl rfl, ⟨by decide +kernel, by decide +kernel, by decide +kernel⟩, by decide +kernel⟩
def mX6_knownIn : mD := (yX6_knownIn, cX6_knownIn, 4, (some .int), 0, 0)
theorem okX6_knownIn : mOk mX6_knownIn 1 := ⟨by decide +kernel, mTb_in4 (i := 112) rfl rfl, mTb_in1 (i := 7) rfl rfl, ⟨by decide +kernel, by decide +kernel, by decide +kernel⟩, by decide +kernel⟩
def mX6_undo : mD := (yX6_undo, cX6_undo, 2, (some .int), 0, 0)
theorem okX6_undo : mOk mX6_undo 0 := ⟨by decide +kernel, mTb_in4 (i := 116) rfl rfl, mTb_in1 (i := 7) rfl rfl, ⟨by decide +kernel, by decide +kernel, by decide +kernel⟩, by decide +kernel⟩
def mX6_type : mD := (yX6_type, cX6_type, 2, (some .int), 0, 0)
theorem okX6_type : mOk mX6_type 1 := ⟨by decide +kernel, mTb_in4 (i := 120) rfl rfl, mTb_in1 (i := 7) rfl rfl, ⟨by decide +kernel, by decide +kernel, by decide +kernel⟩, by decide +kernel⟩
def mX6_clearText : mD := (yX6_clearText, cX6_clearText, 2, (some .int), 0, 0)
theorem okX6_clearText : mOk mX6_clearText 0 := ⟨by decide +kernel, mTb_in4 (i := 124) rfl rfl, mTb_in1 (i := 7) rfl rfl, ⟨by decide +kernel, by decide +kernel, by decide +kernel⟩, by decide +kernel⟩
def mX6_fault : mD := (yX6_fault, cX6_fault, 3, (some .int), 0, 0)
theorem okX6_fault : mOk mX6_fault 1 := ⟨by decide +kernel, mTb_in4 (i := 128) rfl rfl, mTb_in1 (i := 7) rfl rfl, ⟨by decide +kernel, by decide +kernel, by decide +kernel⟩, by decide +kernel⟩
def mX6_plays : mD := (yX6_plays, cX6_plays, 4, (some .int), 0, 0)
theorem okX6_plays : mOk mX6_plays 0 := ⟨by decide +kernel, mTb_in4 (i := 132) rfl rfl, mTb_in1 (i := 7) rfl rfl, ⟨by decide +kernel, by decide +kernel, by decide +kernel⟩, by decide +kernel⟩
def mX6_isAt : mD := (yX6_isAt, cX6_isAt, 3, (some .boolean), 0, 0)
theorem okX6_isAt : mOk mX6_isAt 2 := ⟨by decide +kernel, mTb_in4 (i := 136) rfl rfl, mTb_in1 (i := 7) rfl rfl, ⟨by decide +kernel, by decide +kernel, by decide +kernel⟩, by decide +kernel⟩
def mX6_wordAt : mD := (yX6_wordAt, cX6_wordAt, 2, (some .int), 0, 0)
theorem okX6_wordAt : mOk mX6_wordAt 1 := ⟨by decide +kernel, mTb_in4 (i := 140) rfl rfl, mTb_in1 (i := 7) rfl rfl, ⟨by decide +kernel, by decide +kernel, by decide +kernel⟩, by decide +kernel⟩
def mX6_isWord : mD := (yX6_isWord, cX6_isWord, 7, (some .boolean), 0, 0)
theorem okX6_isWord : mOk mX6_isWord 5 := ⟨by decide +kernel, mTb_in4 (i := 144) rfl rfl, mTb_in1 (i := 7) rfl rfl, ⟨by decide +kernel, by decide +kernel, by decide +kernel⟩, by decide +kernel⟩
def mX6_isForm : mD := (yX6_isForm, cX6_isForm, 3, (some .boolean), 0, 0)
theorem okX6_isForm : mOk mX6_isForm 1 := ⟨by decide +kernel, mTb_in4 (i := 148) rfl rfl, mTb_in1 (i := 7) rfl rfl, ⟨by decide +kernel, by decide +kernel, by decide +kernel⟩, by decide +kernel⟩
def mX6_readsName : mD := (yX6_readsName, cX6_readsName, 2, (some .boolean), 0, 0)
theorem okX6_readsName : mOk mX6_readsName 1 := ⟨by decide +kernel, mTb_in4 (i := 152) rfl rfl, mTb_in1 (i := 7) rfl rfl, ⟨by decide +kernel, by decide +kernel, by decide +kernel⟩, by decide +kernel⟩
def mX6_passes : mD := (yX6_passes, cX6_passes, 3, (some .boolean), 0, 0)
theorem okX6_passes : mOk mX6_passes 1 := ⟨by decide +kernel, mTb_in4 (i := 156) rfl rfl, mTb_in1 (i := 7) rfl rfl, ⟨by decide +kernel, by decide +kernel, by decide +kernel⟩, by decide +kernel⟩
def mX6_readsNumber : mD := (yX6_readsNumber, cX6_readsNumber, 3, (some .boolean), 0, 0)
theorem okX6_readsNumber : mOk mX6_readsNumber 1 := ⟨by decide +kernel, mTb_in4 (i := 160) rfl rfl, mTb_in1 (i := 7) rfl rfl, ⟨by decide +kernel, by decide +kernel, by decide +kernel⟩, by decide +kernel⟩
def mX6_does : mD := (yX6_does, cX6_does, 2, (some .int), 0, 0)
theorem okX6_does : mOk mX6_does 1 := ⟨by decide +kernel, mTb_in4 (i := 164) rfl rfl, mTb_in1 (i := 7) rfl rfl, ⟨by decide +kernel, by decide +kernel, by decide +kernel⟩, by decide +kernel⟩
def mX6_play : mD := (yX6_play, cX6_play, 2, (some .int), 0, 0)
theorem okX6_play : mOk mX6_play 0 := ⟨by decide +kernel, mTb_in4 (i := 175) rfl rfl, mTb_in1 (i := 7) rfl rfl, ⟨by decide +kernel, by decide +kernel, by decide +kernel⟩, by decide +kernel⟩
theorem iniRL : Cond.initialized RL ∈ mTb := mTb_in1 (i := 0) rfl rfl
theorem iniRX5 : Cond.initialized RX5 ∈ mTb := mTb_in1 (i := 1) rfl rfl
theorem iniRX2 : Cond.initialized RX2 ∈ mTb := mTb_in1 (i := 2) rfl rfl
theorem iniRX0 : Cond.initialized RX0 ∈ mTb := mTb_in1 (i := 3) rfl rfl
theorem iniRX4 : Cond.initialized RX4 ∈ mTb := mTb_in1 (i := 4) rfl rfl
theorem iniRX1 : Cond.initialized RX1 ∈ mTb := mTb_in1 (i := 5) rfl rfl
theorem iniRX3 : Cond.initialized RX3 ∈ mTb := mTb_in1 (i := 6) rfl rfl
theorem iniRX6 : Cond.initialized RX6 ∈ mTb := mTb_in1 (i := 7) rfl rfl
theorem iniRJ9 : Cond.initialized RJ9 ∈ mTb := mTb_in1 (i := 8) rfl rfl
theorem iniRJ6 : Cond.initialized RJ6 ∈ mTb := mTb_in1 (i := 9) rfl rfl
theorem iniRJ0 : Cond.initialized RJ0 ∈ mTb := mTb_in1 (i := 10) rfl rfl
theorem iniRJ1 : Cond.initialized RJ1 ∈ mTb := mTb_in1 (i := 11) rfl rfl
theorem iniRJ3 : Cond.initialized RJ3 ∈ mTb := mTb_in1 (i := 12) rfl rfl
theorem iniRJ2 : Cond.initialized RJ2 ∈ mTb := mTb_in1 (i := 13) rfl rfl
theorem clRL_7 : Cond.classLink RL 7 RX5 ∈ mTb := mTb_in1 (i := 14) rfl rfl
theorem insRX5 : Cond.instantiable RX5 8 ∈ mTb := mTb_in1 (i := 15) rfl rfl
theorem mlRL_9 : Cond.methodLink RL 9 yX5_init ∈ mTb := mTb_in1 (i := 16) rfl rfl
theorem inX5_init : Cond.instanceMethod yX5_init ∈ mTb := mTb_in1 (i := 17) rfl rfl
theorem mlRX5_1 : Cond.methodLink RX5 1 objectInit ∈ mTb := mTb_in1 (i := 19) rfl rfl
theorem inOBJ : Cond.instanceMethod objectInit ∈ mTb := mTb_in1 (i := 20) rfl rfl
theorem cdOBJ : Cond.code objectInit ⟨#[0xb1]⟩ 1 none ∈ mTb := mTb_in1 (i := 21) rfl rfl
theorem clRX5_7 : Cond.classLink RX5 7 RX2 ∈ mTb := mTb_in1 (i := 22) rfl rfl
theorem insRX2 : Cond.instantiable RX2 12 ∈ mTb := mTb_in1 (i := 23) rfl rfl
theorem mlRX5_9 : Cond.methodLink RX5 9 yX2_init ∈ mTb := mTb_in1 (i := 24) rfl rfl
theorem inX2_init : Cond.instanceMethod yX2_init ∈ mTb := mTb_in1 (i := 25) rfl rfl
theorem mlRX2_3 : Cond.methodLink RX2 3 objectInit ∈ mTb := mTb_in1 (i := 27) rfl rfl
theorem clRX2_37 : Cond.classLink RX2 37 RX0 ∈ mTb := mTb_in1 (i := 28) rfl rfl
theorem insRX0 : Cond.instantiable RX0 2 ∈ mTb := mTb_in1 (i := 29) rfl rfl
theorem mlRX2_39 : Cond.methodLink RX2 39 yX0_init ∈ mTb := mTb_in1 (i := 30) rfl rfl
theorem inX0_init : Cond.instanceMethod yX0_init ∈ mTb := mTb_in1 (i := 31) rfl rfl
theorem mlRX0_3 : Cond.methodLink RX0 3 objectInit ∈ mTb := mTb_in1 (i := 33) rfl rfl
theorem flRX0_9 : Cond.fieldLink RX0 9 (mTx 0 0).1 (mTx 0 0).2.1 (mTx 0 0).2.2.1 ∈ mTb := mTb_in1 (i := 34) rfl rfl
theorem flRX2_111 : Cond.fieldLink RX2 111 (mTx 0 0).1 (mTx 0 0).2.1 (mTx 0 0).2.2.1 ∈ mTb := mTb_in1 (i := 35) rfl rfl
theorem flRX0_15 : Cond.fieldLink RX0 15 (mTx 0 1).1 (mTx 0 1).2.1 (mTx 0 1).2.2.1 ∈ mTb := mTb_in1 (i := 36) rfl rfl
theorem flRX2_150 : Cond.fieldLink RX2 150 (mTx 0 1).1 (mTx 0 1).2.1 (mTx 0 1).2.2.1 ∈ mTb := mTb_in1 (i := 37) rfl rfl
theorem ac_int : Cond.arrayClass .int ∈ mTb := mTb_in1 (i := 43) rfl rfl
theorem clRX2_44 : Cond.classLink RX2 44 RX4 ∈ mTb := mTb_in1 (i := 44) rfl rfl
theorem insRX4 : Cond.instantiable RX4 3 ∈ mTb := mTb_in1 (i := 45) rfl rfl
theorem mnRX2_46 : ((RX2, 46, yX4_init, RX5) : String × Nat × MethodName × String) ∈ mNest := by decide +kernel
theorem inX4_init : Cond.instanceMethod yX4_init ∈ mTb := mTb_in1 (i := 47) rfl rfl
theorem mlRX4_3 : Cond.methodLink RX4 3 objectInit ∈ mTb := mTb_in1 (i := 49) rfl rfl
theorem flRX4_9 : Cond.fieldLink RX4 9 (mTx 4 0).1 (mTx 4 0).2.1 (mTx 4 0).2.2.1 ∈ mTb := mTb_in1 (i := 50) rfl rfl
theorem flRX4_15 : Cond.fieldLink RX4 15 (mTx 4 1).1 (mTx 4 1).2.1 (mTx 4 1).2.2.1 ∈ mTb := mTb_in1 (i := 51) rfl rfl
theorem flRX2_242 : Cond.fieldLink RX2 242 (mTx 4 1).1 (mTx 4 1).2.1 (mTx 4 1).2.2.1 ∈ mTb := mTb_in1 (i := 52) rfl rfl
theorem flRX4_18 : Cond.fieldLink RX4 18 (mTx 4 2).1 (mTx 4 2).2.1 (mTx 4 2).2.2.1 ∈ mTb := mTb_in1 (i := 53) rfl rfl
theorem flRX2_245 : Cond.fieldLink RX2 245 (mTx 4 2).1 (mTx 4 2).2.1 (mTx 4 2).2.2.1 ∈ mTb := mTb_in1 (i := 54) rfl rfl
theorem clRX2_51 : Cond.classLink RX2 51 RX1 ∈ mTb := mTb_in1 (i := 62) rfl rfl
theorem insRX1 : Cond.instantiable RX1 6 ∈ mTb := mTb_in1 (i := 63) rfl rfl
theorem mnRX2_53 : ((RX2, 53, yX1_init, RX5) : String × Nat × MethodName × String) ∈ mNest := by decide +kernel
theorem inX1_init : Cond.instanceMethod yX1_init ∈ mTb := mTb_in1 (i := 65) rfl rfl
theorem mlRX1_3 : Cond.methodLink RX1 3 objectInit ∈ mTb := mTb_in1 (i := 67) rfl rfl
theorem flRX1_9 : Cond.fieldLink RX1 9 (mTx 1 0).1 (mTx 1 0).2.1 (mTx 1 0).2.2.1 ∈ mTb := mTb_in1 (i := 68) rfl rfl
theorem flRX2_101 : Cond.fieldLink RX2 101 (mTx 1 0).1 (mTx 1 0).2.1 (mTx 1 0).2.2.1 ∈ mTb := mTb_in1 (i := 69) rfl rfl
theorem flRX1_15 : Cond.fieldLink RX1 15 (mTx 1 1).1 (mTx 1 1).2.1 (mTx 1 1).2.2.1 ∈ mTb := mTb_in1 (i := 70) rfl rfl
theorem flRX2_199 : Cond.fieldLink RX2 199 (mTx 1 1).1 (mTx 1 1).2.1 (mTx 1 1).2.2.1 ∈ mTb := mTb_in1 (i := 71) rfl rfl
theorem flRX1_19 : Cond.fieldLink RX1 19 (mTx 1 2).1 (mTx 1 2).2.1 (mTx 1 2).2.2.1 ∈ mTb := mTb_in1 (i := 72) rfl rfl
theorem flRX2_186 : Cond.fieldLink RX2 186 (mTx 1 2).1 (mTx 1 2).2.1 (mTx 1 2).2.2.1 ∈ mTb := mTb_in1 (i := 73) rfl rfl
theorem flRX1_22 : Cond.fieldLink RX1 22 (mTx 1 3).1 (mTx 1 3).2.1 (mTx 1 3).2.2.1 ∈ mTb := mTb_in1 (i := 74) rfl rfl
theorem flRX2_193 : Cond.fieldLink RX2 193 (mTx 1 3).1 (mTx 1 3).2.1 (mTx 1 3).2.2.1 ∈ mTb := mTb_in1 (i := 75) rfl rfl
theorem flRX1_25 : Cond.fieldLink RX1 25 (mTx 1 4).1 (mTx 1 4).2.1 (mTx 1 4).2.2.1 ∈ mTb := mTb_in1 (i := 76) rfl rfl
theorem flRX2_196 : Cond.fieldLink RX2 196 (mTx 1 4).1 (mTx 1 4).2.1 (mTx 1 4).2.2.1 ∈ mTb := mTb_in1 (i := 77) rfl rfl
theorem flRX1_28 : Cond.fieldLink RX1 28 (mTx 1 5).1 (mTx 1 5).2.1 (mTx 1 5).2.2.1 ∈ mTb := mTb_in1 (i := 78) rfl rfl
theorem flRX2_237 : Cond.fieldLink RX2 237 (mTx 1 5).1 (mTx 1 5).2.1 (mTx 1 5).2.2.1 ∈ mTb := mTb_in1 (i := 79) rfl rfl
theorem flRX2_9 : Cond.fieldLink RX2 9 (mTx 2 0).1 (mTx 2 0).2.1 (mTx 2 0).2.2.1 ∈ mTb := mTb_in1 (i := 94) rfl rfl
theorem flRX2_15 : Cond.fieldLink RX2 15 (mTx 2 1).1 (mTx 2 1).2.1 (mTx 2 1).2.2.1 ∈ mTb := mTb_in1 (i := 95) rfl rfl
theorem flRX2_18 : Cond.fieldLink RX2 18 (mTx 2 2).1 (mTx 2 2).2.1 (mTx 2 2).2.2.1 ∈ mTb := mTb_in1 (i := 96) rfl rfl
theorem flRX2_21 : Cond.fieldLink RX2 21 (mTx 2 3).1 (mTx 2 3).2.1 (mTx 2 3).2.2.1 ∈ mTb := mTb_in1 (i := 97) rfl rfl
theorem flRX5_100 : Cond.fieldLink RX5 100 (mTx 2 3).1 (mTx 2 3).2.1 (mTx 2 3).2.2.1 ∈ mTb := mTb_in1 (i := 98) rfl rfl
theorem flRX2_24 : Cond.fieldLink RX2 24 (mTx 2 4).1 (mTx 2 4).2.1 (mTx 2 4).2.2.1 ∈ mTb := mTb_in1 (i := 99) rfl rfl
theorem flRX2_27 : Cond.fieldLink RX2 27 (mTx 2 5).1 (mTx 2 5).2.1 (mTx 2 5).2.2.1 ∈ mTb := mTb_in1 (i := 100) rfl rfl
theorem flRX2_30 : Cond.fieldLink RX2 30 (mTx 2 6).1 (mTx 2 6).2.1 (mTx 2 6).2.2.1 ∈ mTb := mTb_in1 (i := 101) rfl rfl
theorem flRX2_33 : Cond.fieldLink RX2 33 (mTx 2 7).1 (mTx 2 7).2.1 (mTx 2 7).2.2.1 ∈ mTb := mTb_in1 (i := 102) rfl rfl
theorem flRX2_40 : Cond.fieldLink RX2 40 (mTx 2 8).1 (mTx 2 8).2.1 (mTx 2 8).2.2.1 ∈ mTb := mTb_in1 (i := 103) rfl rfl
theorem flRX2_47 : Cond.fieldLink RX2 47 (mTx 2 9).1 (mTx 2 9).2.1 (mTx 2 9).2.2.1 ∈ mTb := mTb_in1 (i := 104) rfl rfl
theorem flRX2_54 : Cond.fieldLink RX2 54 (mTx 2 10).1 (mTx 2 10).2.1 (mTx 2 10).2.2.1 ∈ mTb := mTb_in1 (i := 105) rfl rfl
theorem flRX2_58 : Cond.fieldLink RX2 58 (mTx 2 11).1 (mTx 2 11).2.1 (mTx 2 11).2.2.1 ∈ mTb := mTb_in1 (i := 106) rfl rfl
theorem clRX5_27 : Cond.classLink RX5 27 RX3 ∈ mTb := mTb_in1 (i := 133) rfl rfl
theorem insRX3 : Cond.instantiable RX3 4 ∈ mTb := mTb_in1 (i := 134) rfl rfl
theorem mnRX5_29 : ((RX5, 29, yX3_init, RX5) : String × Nat × MethodName × String) ∈ mNest := by decide +kernel
theorem inX3_init : Cond.instanceMethod yX3_init ∈ mTb := mTb_in1 (i := 136) rfl rfl
theorem mlRX3_3 : Cond.methodLink RX3 3 objectInit ∈ mTb := mTb_in1 (i := 138) rfl rfl
theorem flRX3_9 : Cond.fieldLink RX3 9 (mTx 3 0).1 (mTx 3 0).2.1 (mTx 3 0).2.2.1 ∈ mTb := mTb_in1 (i := 139) rfl rfl
theorem flRX3_15 : Cond.fieldLink RX3 15 (mTx 3 1).1 (mTx 3 1).2.1 (mTx 3 1).2.2.1 ∈ mTb := mTb_in1 (i := 140) rfl rfl
theorem flRX5_94 : Cond.fieldLink RX5 94 (mTx 3 1).1 (mTx 3 1).2.1 (mTx 3 1).2.2.1 ∈ mTb := mTb_in1 (i := 141) rfl rfl
theorem flRX3_19 : Cond.fieldLink RX3 19 (mTx 3 2).1 (mTx 3 2).2.1 (mTx 3 2).2.2.1 ∈ mTb := mTb_in1 (i := 142) rfl rfl
theorem flRX5_135 : Cond.fieldLink RX5 135 (mTx 3 2).1 (mTx 3 2).2.1 (mTx 3 2).2.2.1 ∈ mTb := mTb_in1 (i := 143) rfl rfl
theorem flRX3_23 : Cond.fieldLink RX3 23 (mTx 3 3).1 (mTx 3 3).2.1 (mTx 3 3).2.2.1 ∈ mTb := mTb_in1 (i := 144) rfl rfl
theorem flRX5_142 : Cond.fieldLink RX5 142 (mTx 3 3).1 (mTx 3 3).2.1 (mTx 3 3).2.2.1 ∈ mTb := mTb_in1 (i := 145) rfl rfl
theorem ac_char : Cond.arrayClass .char ∈ mTb := mTb_in1 (i := 155) rfl rfl
theorem flRX5_10 : Cond.fieldLink RX5 10 (mTx 5 0).1 (mTx 5 0).2.1 (mTx 5 0).2.2.1 ∈ mTb := mTb_in1 (i := 156) rfl rfl
theorem flRX5_16 : Cond.fieldLink RX5 16 (mTx 5 1).1 (mTx 5 1).2.1 (mTx 5 1).2.2.1 ∈ mTb := mTb_in1 (i := 157) rfl rfl
theorem flRX5_19 : Cond.fieldLink RX5 19 (mTx 5 2).1 (mTx 5 2).2.1 (mTx 5 2).2.2.1 ∈ mTb := mTb_in1 (i := 158) rfl rfl
theorem flRX5_23 : Cond.fieldLink RX5 23 (mTx 5 3).1 (mTx 5 3).2.1 (mTx 5 3).2.2.1 ∈ mTb := mTb_in1 (i := 159) rfl rfl
theorem flRX5_30 : Cond.fieldLink RX5 30 (mTx 5 4).1 (mTx 5 4).2.1 (mTx 5 4).2.2.1 ∈ mTb := mTb_in1 (i := 160) rfl rfl
theorem flRX5_34 : Cond.fieldLink RX5 34 (mTx 5 5).1 (mTx 5 5).2.1 (mTx 5 5).2.2.1 ∈ mTb := mTb_in1 (i := 161) rfl rfl
theorem flRX5_37 : Cond.fieldLink RX5 37 (mTx 5 6).1 (mTx 5 6).2.1 (mTx 5 6).2.2.1 ∈ mTb := mTb_in1 (i := 162) rfl rfl
theorem flRX5_40 : Cond.fieldLink RX5 40 (mTx 5 7).1 (mTx 5 7).2.1 (mTx 5 7).2.2.1 ∈ mTb := mTb_in1 (i := 163) rfl rfl
theorem mlRL_13 : Cond.methodLink RL 13 yX5_begin ∈ mTb := mTb_in1 (i := 181) rfl rfl
theorem inX5_begin : Cond.instanceMethod yX5_begin ∈ mTb := mTb_in1 (i := 182) rfl rfl
theorem selX5_begin : Cond.selects RX5 yX5_begin yX5_begin ∈ mTb := mTb_in1 (i := 183) rfl rfl
theorem mlRX5_43 : Cond.methodLink RX5 43 yX5_spareRoom ∈ mTb := mTb_in1 (i := 185) rfl rfl
theorem inX5_spareRoom : Cond.instanceMethod yX5_spareRoom ∈ mTb := mTb_in1 (i := 187) rfl rfl
theorem mlRX5_124 : Cond.methodLink RX5 124 yX2_become ∈ mTb := mTb_in1 (i := 189) rfl rfl
theorem inX2_become : Cond.instanceMethod yX2_become ∈ mTb := mTb_in1 (i := 190) rfl rfl
theorem selX2_become : Cond.selects RX2 yX2_become yX2_become ∈ mTb := mTb_in1 (i := 191) rfl rfl
theorem mlRX2_62 : Cond.methodLink RX2 62 yX0_become ∈ mTb := mTb_in1 (i := 193) rfl rfl
theorem inX0_become : Cond.instanceMethod yX0_become ∈ mTb := mTb_in1 (i := 194) rfl rfl
theorem selX0_become : Cond.selects RX0 yX0_become yX0_become ∈ mTb := mTb_in1 (i := 195) rfl rfl
theorem mlRX2_66 : Cond.methodLink RX2 66 yX4_become ∈ mTb := mTb_in1 (i := 197) rfl rfl
theorem inX4_become : Cond.instanceMethod yX4_become ∈ mTb := mTb_in1 (i := 198) rfl rfl
theorem selX4_become : Cond.selects RX4 yX4_become yX4_become ∈ mTb := mTb_in1 (i := 199) rfl rfl
theorem mlRX2_69 : Cond.methodLink RX2 69 yX1_become ∈ mTb := mTb_in1 (i := 201) rfl rfl
theorem inX1_become : Cond.instanceMethod yX1_become ∈ mTb := mTb_in1 (i := 202) rfl rfl
theorem selX1_become : Cond.selects RX1 yX1_become yX1_become ∈ mTb := mTb_in1 (i := 203) rfl rfl
theorem mlRX5_47 : Cond.methodLink RX5 47 yX2_empty ∈ mTb := mTb_in1 (i := 205) rfl rfl
theorem inX2_empty : Cond.instanceMethod yX2_empty ∈ mTb := mTb_in1 (i := 206) rfl rfl
theorem selX2_empty : Cond.selects RX2 yX2_empty yX2_empty ∈ mTb := mTb_in1 (i := 207) rfl rfl
theorem mnRX2_97 : ((RX2, 97, yX5_within, RX5) : String × Nat × MethodName × String) ∈ mNest := by decide +kernel
theorem staX5_within : Cond.static yX5_within ∈ mTb := mTb_in1 (i := 210) rfl rfl
theorem mlRX2_104 : Cond.methodLink RX2 104 yX0_standAtZero ∈ mTb := mTb_in1 (i := 212) rfl rfl
theorem inX0_standAtZero : Cond.instanceMethod yX0_standAtZero ∈ mTb := mTb_in1 (i := 213) rfl rfl
theorem selX0_standAtZero : Cond.selects RX0 yX0_standAtZero yX0_standAtZero ∈ mTb := mTb_in1 (i := 214) rfl rfl
theorem mlRX5_51 : Cond.methodLink RX5 51 yX5_settle ∈ mTb := mTb_in1 (i := 216) rfl rfl
theorem inX5_settle : Cond.instanceMethod yX5_settle ∈ mTb := mTb_in1 (i := 218) rfl rfl
theorem mlRL_18 : Cond.methodLink RL 18 yX5_put ∈ mTb := mTb_in1 (i := 220) rfl rfl
theorem inX5_put : Cond.instanceMethod yX5_put ∈ mTb := mTb_in1 (i := 221) rfl rfl
theorem selX5_put : Cond.selects RX5 yX5_put yX5_put ∈ mTb := mTb_in1 (i := 222) rfl rfl
theorem mlRX5_54 : Cond.methodLink RX5 54 yX2_putValue ∈ mTb := mTb_in1 (i := 224) rfl rfl
theorem inX2_putValue : Cond.instanceMethod yX2_putValue ∈ mTb := mTb_in1 (i := 225) rfl rfl
theorem selX2_putValue : Cond.selects RX2 yX2_putValue yX2_putValue ∈ mTb := mTb_in1 (i := 226) rfl rfl
theorem mnRX2_107 : ((RX2, 107, yX5_isName, RX5) : String × Nat × MethodName × String) ∈ mNest := by decide +kernel
theorem staX5_isName : Cond.static yX5_isName ∈ mTb := mTb_in1 (i := 229) rfl rfl
theorem mlRX5_113 : Cond.methodLink RX5 113 yX5_within ∈ mTb := mTb_in1 (i := 231) rfl rfl
theorem mlRX2_114 : Cond.methodLink RX2 114 yX2_seat ∈ mTb := mTb_in1 (i := 232) rfl rfl
theorem inX2_seat : Cond.instanceMethod yX2_seat ∈ mTb := mTb_in1 (i := 234) rfl rfl
theorem mlRX2_153 : Cond.methodLink RX2 153 yX2_pinnedChairs ∈ mTb := mTb_in1 (i := 236) rfl rfl
theorem inX2_pinnedChairs : Cond.instanceMethod yX2_pinnedChairs ∈ mTb := mTb_in1 (i := 238) rfl rfl
theorem mlRX2_156 : Cond.methodLink RX2 156 yX0_chairSet ∈ mTb := mTb_in2 (i := 0) rfl rfl
theorem inX0_chairSet : Cond.instanceMethod yX0_chairSet ∈ mTb := mTb_in2 (i := 1) rfl rfl
theorem selX0_chairSet : Cond.selects RX0 yX0_chairSet yX0_chairSet ∈ mTb := mTb_in2 (i := 2) rfl rfl
theorem mlRX2_159 : Cond.methodLink RX2 159 yX2_lowestFreeChair ∈ mTb := mTb_in2 (i := 4) rfl rfl
theorem inX2_lowestFreeChair : Cond.instanceMethod yX2_lowestFreeChair ∈ mTb := mTb_in2 (i := 6) rfl rfl
theorem mlRX2_162 : Cond.methodLink RX2 162 yX0_chairSetOf ∈ mTb := mTb_in2 (i := 8) rfl rfl
theorem inX0_chairSetOf : Cond.instanceMethod yX0_chairSetOf ∈ mTb := mTb_in2 (i := 9) rfl rfl
theorem selX0_chairSetOf : Cond.selects RX0 yX0_chairSetOf yX0_chairSetOf ∈ mTb := mTb_in2 (i := 10) rfl rfl
theorem mlRX2_165 : Cond.methodLink RX2 165 yX2_longestUnused ∈ mTb := mTb_in2 (i := 12) rfl rfl
theorem inX2_longestUnused : Cond.instanceMethod yX2_longestUnused ∈ mTb := mTb_in2 (i := 14) rfl rfl
theorem mlRX2_125 : Cond.methodLink RX2 125 yX4_valueOn ∈ mTb := mTb_in2 (i := 16) rfl rfl
theorem inX4_valueOn : Cond.instanceMethod yX4_valueOn ∈ mTb := mTb_in2 (i := 17) rfl rfl
theorem selX4_valueOn : Cond.selects RX4 yX4_valueOn yX4_valueOn ∈ mTb := mTb_in2 (i := 18) rfl rfl
theorem mlRX2_168 : Cond.methodLink RX2 168 yX2_sendOut ∈ mTb := mTb_in2 (i := 20) rfl rfl
theorem inX2_sendOut : Cond.instanceMethod yX2_sendOut ∈ mTb := mTb_in2 (i := 22) rfl rfl
theorem mlRX2_171 : Cond.methodLink RX2 171 yX4_place ∈ mTb := mTb_in2 (i := 24) rfl rfl
theorem inX4_place : Cond.instanceMethod yX4_place ∈ mTb := mTb_in2 (i := 25) rfl rfl
theorem selX4_place : Cond.selects RX4 yX4_place yX4_place ∈ mTb := mTb_in2 (i := 26) rfl rfl
theorem mlRL_23 : Cond.methodLink RL 23 yX5_copy ∈ mTb := mTb_in2 (i := 28) rfl rfl
theorem inX5_copy : Cond.instanceMethod yX5_copy ∈ mTb := mTb_in2 (i := 29) rfl rfl
theorem selX5_copy : Cond.selects RX5 yX5_copy yX5_copy ∈ mTb := mTb_in2 (i := 30) rfl rfl
theorem mlRX5_58 : Cond.methodLink RX5 58 yX2_copyName ∈ mTb := mTb_in2 (i := 32) rfl rfl
theorem inX2_copyName : Cond.instanceMethod yX2_copyName ∈ mTb := mTb_in2 (i := 33) rfl rfl
theorem selX2_copyName : Cond.selects RX2 yX2_copyName yX2_copyName ∈ mTb := mTb_in2 (i := 34) rfl rfl
theorem mlRX2_118 : Cond.methodLink RX2 118 yX2_findSeat ∈ mTb := mTb_in2 (i := 36) rfl rfl
theorem inX2_findSeat : Cond.instanceMethod yX2_findSeat ∈ mTb := mTb_in2 (i := 38) rfl rfl
theorem mlRX2_121 : Cond.methodLink RX2 121 yX4_use ∈ mTb := mTb_in2 (i := 40) rfl rfl
theorem inX4_use : Cond.instanceMethod yX4_use ∈ mTb := mTb_in2 (i := 41) rfl rfl
theorem selX4_use : Cond.selects RX4 yX4_use yX4_use ∈ mTb := mTb_in2 (i := 42) rfl rfl
theorem mlRL_27 : Cond.methodLink RL 27 yX5_order ∈ mTb := mTb_in2 (i := 44) rfl rfl
theorem inX5_order : Cond.instanceMethod yX5_order ∈ mTb := mTb_in2 (i := 45) rfl rfl
theorem selX5_order : Cond.selects RX5 yX5_order yX5_order ∈ mTb := mTb_in2 (i := 46) rfl rfl
theorem mlRX5_61 : Cond.methodLink RX5 61 yX2_giveOrder ∈ mTb := mTb_in2 (i := 48) rfl rfl
theorem inX2_giveOrder : Cond.instanceMethod yX2_giveOrder ∈ mTb := mTb_in2 (i := 49) rfl rfl
theorem selX2_giveOrder : Cond.selects RX2 yX2_giveOrder yX2_giveOrder ∈ mTb := mTb_in2 (i := 50) rfl rfl
theorem mlRX2_128 : Cond.methodLink RX2 128 yX2_result ∈ mTb := mTb_in2 (i := 52) rfl rfl
theorem staX2_result : Cond.static yX2_result ∈ mTb := mTb_in2 (i := 53) rfl rfl
theorem mlRX2_175 : Cond.methodLink RX2 175 yJ9_floorMod_7cf53 ∈ mTb := mTb_in2 (i := 55) rfl rfl
theorem staJ9_floorMod_7cf53 : Cond.static yJ9_floorMod_7cf53 ∈ mTb := mTb_in2 (i := 56) rfl rfl
theorem ctRX2_132 : Cond.constant RX2 132 (Int32.ofInt 1000000) ∈ mTb := mTb_in2 (i := 58) rfl rfl
theorem mlRX2_133 : Cond.methodLink RX2 133 yX1_add ∈ mTb := mTb_in2 (i := 59) rfl rfl
theorem inX1_add : Cond.instanceMethod yX1_add ∈ mTb := mTb_in2 (i := 60) rfl rfl
theorem selX1_add : Cond.selects RX1 yX1_add yX1_add ∈ mTb := mTb_in2 (i := 61) rfl rfl
theorem mlRL_32 : Cond.methodLink RL 32 yX5_tick ∈ mTb := mTb_in2 (i := 63) rfl rfl
theorem inX5_tick : Cond.instanceMethod yX5_tick ∈ mTb := mTb_in2 (i := 64) rfl rfl
theorem selX5_tick : Cond.selects RX5 yX5_tick yX5_tick ∈ mTb := mTb_in2 (i := 65) rfl rfl
theorem mlRX5_65 : Cond.methodLink RX5 65 yX2_letTicksGo ∈ mTb := mTb_in2 (i := 67) rfl rfl
theorem inX2_letTicksGo : Cond.instanceMethod yX2_letTicksGo ∈ mTb := mTb_in2 (i := 68) rfl rfl
theorem selX2_letTicksGo : Cond.selects RX2 yX2_letTicksGo yX2_letTicksGo ∈ mTb := mTb_in2 (i := 69) rfl rfl
theorem ctRX2_137 : Cond.constant RX2 137 (Int32.ofInt 50000) ∈ mTb := mTb_in2 (i := 71) rfl rfl
theorem mlRX2_138 : Cond.methodLink RX2 138 yX2_letTickGo ∈ mTb := mTb_in2 (i := 72) rfl rfl
theorem inX2_letTickGo : Cond.instanceMethod yX2_letTickGo ∈ mTb := mTb_in2 (i := 74) rfl rfl
theorem mlRX2_180 : Cond.methodLink RX2 180 yX2_finishOrders ∈ mTb := mTb_in2 (i := 76) rfl rfl
theorem inX2_finishOrders : Cond.instanceMethod yX2_finishOrders ∈ mTb := mTb_in2 (i := 78) rfl rfl
theorem mlRX2_187 : Cond.methodLink RX2 187 yX4_knownTimeOf ∈ mTb := mTb_in2 (i := 80) rfl rfl
theorem inX4_knownTimeOf : Cond.instanceMethod yX4_knownTimeOf ∈ mTb := mTb_in2 (i := 81) rfl rfl
theorem selX4_knownTimeOf : Cond.selects RX4 yX4_knownTimeOf yX4_knownTimeOf ∈ mTb := mTb_in2 (i := 82) rfl rfl
theorem ctRX4_21 : Cond.constant RX4 21 (Int32.ofInt 1000000) ∈ mTb := mTb_in2 (i := 84) rfl rfl
theorem mlRX2_190 : Cond.methodLink RX2 190 yX1_move ∈ mTb := mTb_in2 (i := 85) rfl rfl
theorem inX1_move : Cond.instanceMethod yX1_move ∈ mTb := mTb_in2 (i := 86) rfl rfl
theorem selX1_move : Cond.selects RX1 yX1_move yX1_move ∈ mTb := mTb_in2 (i := 87) rfl rfl
theorem mlRX2_183 : Cond.methodLink RX2 183 yX2_beginOrders ∈ mTb := mTb_in2 (i := 89) rfl rfl
theorem inX2_beginOrders : Cond.instanceMethod yX2_beginOrders ∈ mTb := mTb_in2 (i := 91) rfl rfl
theorem mlRX2_202 : Cond.methodLink RX2 202 yX4_setKnownTime ∈ mTb := mTb_in2 (i := 93) rfl rfl
theorem inX4_setKnownTime : Cond.instanceMethod yX4_setKnownTime ∈ mTb := mTb_in2 (i := 94) rfl rfl
theorem selX4_setKnownTime : Cond.selects RX4 yX4_setKnownTime yX4_setKnownTime ∈ mTb := mTb_in2 (i := 95) rfl rfl
theorem mlRL_36 : Cond.methodLink RL 36 yX5_set ∈ mTb := mTb_in2 (i := 97) rfl rfl
theorem inX5_set : Cond.instanceMethod yX5_set ∈ mTb := mTb_in2 (i := 98) rfl rfl
theorem selX5_set : Cond.selects RX5 yX5_set yX5_set ∈ mTb := mTb_in2 (i := 99) rfl rfl
theorem mlRX5_68 : Cond.methodLink RX5 68 yX2_changeSetting ∈ mTb := mTb_in2 (i := 101) rfl rfl
theorem inX2_changeSetting : Cond.instanceMethod yX2_changeSetting ∈ mTb := mTb_in2 (i := 102) rfl rfl
theorem selX2_changeSetting : Cond.selects RX2 yX2_changeSetting yX2_changeSetting ∈ mTb := mTb_in2 (i := 103) rfl rfl
theorem mlRL_40 : Cond.methodLink RL 40 yX5_mark ∈ mTb := mTb_in2 (i := 105) rfl rfl
theorem inX5_mark : Cond.instanceMethod yX5_mark ∈ mTb := mTb_in2 (i := 106) rfl rfl
theorem selX5_mark : Cond.selects RX5 yX5_mark yX5_mark ∈ mTb := mTb_in2 (i := 107) rfl rfl
theorem mlRX5_71 : Cond.methodLink RX5 71 yX2_addMark ∈ mTb := mTb_in2 (i := 109) rfl rfl
theorem inX2_addMark : Cond.instanceMethod yX2_addMark ∈ mTb := mTb_in2 (i := 110) rfl rfl
theorem selX2_addMark : Cond.selects RX2 yX2_addMark yX2_addMark ∈ mTb := mTb_in2 (i := 111) rfl rfl
theorem mlRL_45 : Cond.methodLink RL 45 yX5_keep ∈ mTb := mTb_in2 (i := 113) rfl rfl
theorem inX5_keep : Cond.instanceMethod yX5_keep ∈ mTb := mTb_in2 (i := 114) rfl rfl
theorem selX5_keep : Cond.selects RX5 yX5_keep yX5_keep ∈ mTb := mTb_in2 (i := 115) rfl rfl
theorem mlRX5_75 : Cond.methodLink RX5 75 yX2_dropFirstMark ∈ mTb := mTb_in2 (i := 117) rfl rfl
theorem inX2_dropFirstMark : Cond.instanceMethod yX2_dropFirstMark ∈ mTb := mTb_in2 (i := 118) rfl rfl
theorem selX2_dropFirstMark : Cond.selects RX2 yX2_dropFirstMark yX2_dropFirstMark ∈ mTb := mTb_in2 (i := 119) rfl rfl
theorem mlRX2_141 : Cond.methodLink RX2 141 yX1_forgetFirstMark ∈ mTb := mTb_in2 (i := 121) rfl rfl
theorem inX1_forgetFirstMark : Cond.instanceMethod yX1_forgetFirstMark ∈ mTb := mTb_in2 (i := 122) rfl rfl
theorem selX1_forgetFirstMark : Cond.selects RX1 yX1_forgetFirstMark yX1_forgetFirstMark ∈ mTb := mTb_in2 (i := 123) rfl rfl
theorem mlRL_49 : Cond.methodLink RL 49 yX5_back ∈ mTb := mTb_in2 (i := 125) rfl rfl
theorem inX5_back : Cond.instanceMethod yX5_back ∈ mTb := mTb_in2 (i := 126) rfl rfl
theorem selX5_back : Cond.selects RX5 yX5_back yX5_back ∈ mTb := mTb_in2 (i := 127) rfl rfl
theorem mlRX5_78 : Cond.methodLink RX5 78 yX2_goBack ∈ mTb := mTb_in2 (i := 129) rfl rfl
theorem inX2_goBack : Cond.instanceMethod yX2_goBack ∈ mTb := mTb_in2 (i := 130) rfl rfl
theorem selX2_goBack : Cond.selects RX2 yX2_goBack yX2_goBack ∈ mTb := mTb_in2 (i := 131) rfl rfl
theorem mlRX2_144 : Cond.methodLink RX2 144 yX2_isMark ∈ mTb := mTb_in2 (i := 133) rfl rfl
theorem inX2_isMark : Cond.instanceMethod yX2_isMark ∈ mTb := mTb_in2 (i := 135) rfl rfl
theorem mlRX2_147 : Cond.methodLink RX2 147 yX1_dropGivenAfter ∈ mTb := mTb_in2 (i := 137) rfl rfl
theorem inX1_dropGivenAfter : Cond.instanceMethod yX1_dropGivenAfter ∈ mTb := mTb_in2 (i := 138) rfl rfl
theorem selX1_dropGivenAfter : Cond.selects RX1 yX1_dropGivenAfter yX1_dropGivenAfter ∈ mTb := mTb_in2 (i := 139) rfl rfl
theorem mlRL_53 : Cond.methodLink RL 53 yX5_markOf ∈ mTb := mTb_in2 (i := 141) rfl rfl
theorem inX5_markOf : Cond.instanceMethod yX5_markOf ∈ mTb := mTb_in2 (i := 142) rfl rfl
theorem selX5_markOf : Cond.selects RX5 yX5_markOf yX5_markOf ∈ mTb := mTb_in2 (i := 143) rfl rfl
theorem mlRX5_81 : Cond.methodLink RX5 81 yX2_tellMark ∈ mTb := mTb_in2 (i := 145) rfl rfl
theorem inX2_tellMark : Cond.instanceMethod yX2_tellMark ∈ mTb := mTb_in2 (i := 146) rfl rfl
theorem selX2_tellMark : Cond.selects RX2 yX2_tellMark yX2_tellMark ∈ mTb := mTb_in2 (i := 147) rfl rfl
theorem mlRX2_208 : Cond.methodLink RX2 208 yX2_found ∈ mTb := mTb_in2 (i := 149) rfl rfl
theorem staX2_found : Cond.static yX2_found ∈ mTb := mTb_in2 (i := 150) rfl rfl
theorem mlRL_58 : Cond.methodLink RL 58 yX5_nameOf ∈ mTb := mTb_in2 (i := 152) rfl rfl
theorem inX5_nameOf : Cond.instanceMethod yX5_nameOf ∈ mTb := mTb_in2 (i := 153) rfl rfl
theorem selX5_nameOf : Cond.selects RX5 yX5_nameOf yX5_nameOf ∈ mTb := mTb_in2 (i := 154) rfl rfl
theorem mlRX5_85 : Cond.methodLink RX5 85 yX2_tellName ∈ mTb := mTb_in2 (i := 156) rfl rfl
theorem inX2_tellName : Cond.instanceMethod yX2_tellName ∈ mTb := mTb_in2 (i := 157) rfl rfl
theorem selX2_tellName : Cond.selects RX2 yX2_tellName yX2_tellName ∈ mTb := mTb_in2 (i := 158) rfl rfl
theorem mlRX2_205 : Cond.methodLink RX2 205 yX2_hidesValue ∈ mTb := mTb_in2 (i := 160) rfl rfl
theorem inX2_hidesValue : Cond.instanceMethod yX2_hidesValue ∈ mTb := mTb_in2 (i := 162) rfl rfl
theorem mlRX2_219 : Cond.methodLink RX2 219 yX2_isKnown ∈ mTb := mTb_in2 (i := 164) rfl rfl
theorem inX2_isKnown : Cond.instanceMethod yX2_isKnown ∈ mTb := mTb_in2 (i := 166) rfl rfl
theorem mlRX2_211 : Cond.methodLink RX2 211 yX0_namesOn ∈ mTb := mTb_in2 (i := 168) rfl rfl
theorem inX0_namesOn : Cond.instanceMethod yX0_namesOn ∈ mTb := mTb_in2 (i := 169) rfl rfl
theorem selX0_namesOn : Cond.selects RX0 yX0_namesOn yX0_namesOn ∈ mTb := mTb_in2 (i := 170) rfl rfl
theorem mlRX2_214 : Cond.methodLink RX2 214 yJ6_bitCount_0f7a4 ∈ mTb := mTb_in2 (i := 172) rfl rfl
theorem staJ6_bitCount_0f7a4 : Cond.static yJ6_bitCount_0f7a4 ∈ mTb := mTb_in2 (i := 173) rfl rfl
theorem ctRJ6_265 : Cond.constant RJ6 265 (Int32.ofInt 1431655765) ∈ mTb := mTb_in2 (i := 175) rfl rfl
theorem ctRJ6_266 : Cond.constant RJ6 266 (Int32.ofInt 858993459) ∈ mTb := mTb_in2 (i := 176) rfl rfl
theorem ctRJ6_267 : Cond.constant RJ6 267 (Int32.ofInt 252645135) ∈ mTb := mTb_in2 (i := 177) rfl rfl
theorem mlRL_62 : Cond.methodLink RL 62 yX5_chairOf ∈ mTb := mTb_in2 (i := 178) rfl rfl
theorem inX5_chairOf : Cond.instanceMethod yX5_chairOf ∈ mTb := mTb_in2 (i := 179) rfl rfl
theorem selX5_chairOf : Cond.selects RX5 yX5_chairOf yX5_chairOf ∈ mTb := mTb_in2 (i := 180) rfl rfl
theorem mlRX5_88 : Cond.methodLink RX5 88 yX2_tellChair ∈ mTb := mTb_in2 (i := 182) rfl rfl
theorem inX2_tellChair : Cond.instanceMethod yX2_tellChair ∈ mTb := mTb_in2 (i := 183) rfl rfl
theorem selX2_tellChair : Cond.selects RX2 yX2_tellChair yX2_tellChair ∈ mTb := mTb_in2 (i := 184) rfl rfl
theorem mlRX2_222 : Cond.methodLink RX2 222 yX2_marksOn ∈ mTb := mTb_in2 (i := 186) rfl rfl
theorem inX2_marksOn : Cond.instanceMethod yX2_marksOn ∈ mTb := mTb_in2 (i := 188) rfl rfl
theorem mlRX2_225 : Cond.methodLink RX2 225 yX1_readersOf ∈ mTb := mTb_in2 (i := 190) rfl rfl
theorem inX1_readersOf : Cond.instanceMethod yX1_readersOf ∈ mTb := mTb_in2 (i := 191) rfl rfl
theorem selX1_readersOf : Cond.selects RX1 yX1_readersOf yX1_readersOf ∈ mTb := mTb_in2 (i := 192) rfl rfl
theorem mlRX2_228 : Cond.methodLink RX2 228 yX1_makeFor ∈ mTb := mTb_in2 (i := 194) rfl rfl
theorem inX1_makeFor : Cond.instanceMethod yX1_makeFor ∈ mTb := mTb_in2 (i := 195) rfl rfl
theorem selX1_makeFor : Cond.selects RX1 yX1_makeFor yX1_makeFor ∈ mTb := mTb_in2 (i := 196) rfl rfl
theorem mlRL_66 : Cond.methodLink RL 66 yX5_orderOf ∈ mTb := mTb_in2 (i := 198) rfl rfl
theorem inX5_orderOf : Cond.instanceMethod yX5_orderOf ∈ mTb := mTb_in2 (i := 199) rfl rfl
theorem selX5_orderOf : Cond.selects RX5 yX5_orderOf yX5_orderOf ∈ mTb := mTb_in2 (i := 200) rfl rfl
theorem mlRX5_91 : Cond.methodLink RX5 91 yX2_tellOrder ∈ mTb := mTb_in2 (i := 202) rfl rfl
theorem inX2_tellOrder : Cond.instanceMethod yX2_tellOrder ∈ mTb := mTb_in2 (i := 203) rfl rfl
theorem selX2_tellOrder : Cond.selects RX2 yX2_tellOrder yX2_tellOrder ∈ mTb := mTb_in2 (i := 204) rfl rfl
theorem mlRX2_231 : Cond.methodLink RX2 231 yX1_isOne ∈ mTb := mTb_in2 (i := 206) rfl rfl
theorem inX1_isOne : Cond.instanceMethod yX1_isOne ∈ mTb := mTb_in2 (i := 207) rfl rfl
theorem selX1_isOne : Cond.selects RX1 yX1_isOne yX1_isOne ∈ mTb := mTb_in2 (i := 208) rfl rfl
theorem mlRX2_234 : Cond.methodLink RX2 234 yX2_hasBegun ∈ mTb := mTb_in2 (i := 210) rfl rfl
theorem inX2_hasBegun : Cond.instanceMethod yX2_hasBegun ∈ mTb := mTb_in2 (i := 212) rfl rfl
theorem mlRL_70 : Cond.methodLink RL 70 yX5_count ∈ mTb := mTb_in2 (i := 214) rfl rfl
theorem inX5_count : Cond.instanceMethod yX5_count ∈ mTb := mTb_in2 (i := 215) rfl rfl
theorem selX5_count : Cond.selects RX5 yX5_count yX5_count ∈ mTb := mTb_in2 (i := 216) rfl rfl
theorem mlRX5_97 : Cond.methodLink RX5 97 yX2_tellNumber ∈ mTb := mTb_in2 (i := 218) rfl rfl
theorem inX2_tellNumber : Cond.instanceMethod yX2_tellNumber ∈ mTb := mTb_in2 (i := 219) rfl rfl
theorem selX2_tellNumber : Cond.selects RX2 yX2_tellNumber yX2_tellNumber ∈ mTb := mTb_in2 (i := 220) rfl rfl
theorem mlRX2_239 : Cond.methodLink RX2 239 yX2_begunOrders ∈ mTb := mTb_in2 (i := 222) rfl rfl
theorem inX2_begunOrders : Cond.instanceMethod yX2_begunOrders ∈ mTb := mTb_in2 (i := 224) rfl rfl
theorem mlRL_74 : Cond.methodLink RL 74 yX5_sends ∈ mTb := mTb_in2 (i := 226) rfl rfl
theorem inX5_sends : Cond.instanceMethod yX5_sends ∈ mTb := mTb_in2 (i := 227) rfl rfl
theorem selX5_sends : Cond.selects RX5 yX5_sends yX5_sends ∈ mTb := mTb_in2 (i := 228) rfl rfl
theorem mlRL_78 : Cond.methodLink RL 78 yX5_idleIn ∈ mTb := mTb_in2 (i := 230) rfl rfl
theorem inX5_idleIn : Cond.instanceMethod yX5_idleIn ∈ mTb := mTb_in2 (i := 231) rfl rfl
theorem selX5_idleIn : Cond.selects RX5 yX5_idleIn yX5_idleIn ∈ mTb := mTb_in2 (i := 232) rfl rfl
theorem mlRX5_103 : Cond.methodLink RX5 103 yX2_ticksTillIdle ∈ mTb := mTb_in2 (i := 234) rfl rfl
theorem inX2_ticksTillIdle : Cond.instanceMethod yX2_ticksTillIdle ∈ mTb := mTb_in2 (i := 235) rfl rfl
theorem selX2_ticksTillIdle : Cond.selects RX2 yX2_ticksTillIdle yX2_ticksTillIdle ∈ mTb := mTb_in2 (i := 236) rfl rfl
theorem mlRL_82 : Cond.methodLink RL 82 yX5_knownIn ∈ mTb := mTb_in2 (i := 238) rfl rfl
theorem inX5_knownIn : Cond.instanceMethod yX5_knownIn ∈ mTb := mTb_in2 (i := 239) rfl rfl
theorem selX5_knownIn : Cond.selects RX5 yX5_knownIn yX5_knownIn ∈ mTb := mTb_in3 (i := 0) rfl rfl
theorem mlRX5_106 : Cond.methodLink RX5 106 yX5_isName ∈ mTb := mTb_in3 (i := 2) rfl rfl
theorem mlRX5_110 : Cond.methodLink RX5 110 yX2_ticksTillKnown ∈ mTb := mTb_in3 (i := 3) rfl rfl
theorem inX2_ticksTillKnown : Cond.instanceMethod yX2_ticksTillKnown ∈ mTb := mTb_in3 (i := 4) rfl rfl
theorem selX2_ticksTillKnown : Cond.selects RX2 yX2_ticksTillKnown yX2_ticksTillKnown ∈ mTb := mTb_in3 (i := 5) rfl rfl
theorem mlRL_86 : Cond.methodLink RL 86 yX5_undo ∈ mTb := mTb_in3 (i := 7) rfl rfl
theorem inX5_undo : Cond.instanceMethod yX5_undo ∈ mTb := mTb_in3 (i := 8) rfl rfl
theorem selX5_undo : Cond.selects RX5 yX5_undo yX5_undo ∈ mTb := mTb_in3 (i := 9) rfl rfl
theorem mlRL_90 : Cond.methodLink RL 90 yX5_type ∈ mTb := mTb_in3 (i := 11) rfl rfl
theorem inX5_type : Cond.instanceMethod yX5_type ∈ mTb := mTb_in3 (i := 12) rfl rfl
theorem selX5_type : Cond.selects RX5 yX5_type yX5_type ∈ mTb := mTb_in3 (i := 13) rfl rfl
theorem mlRX5_117 : Cond.methodLink RX5 117 yX3_append ∈ mTb := mTb_in3 (i := 15) rfl rfl
theorem inX3_append : Cond.instanceMethod yX3_append ∈ mTb := mTb_in3 (i := 16) rfl rfl
theorem selX3_append : Cond.selects RX3 yX3_append yX3_append ∈ mTb := mTb_in3 (i := 17) rfl rfl
theorem mlRL_94 : Cond.methodLink RL 94 yX5_clearText ∈ mTb := mTb_in3 (i := 19) rfl rfl
theorem inX5_clearText : Cond.instanceMethod yX5_clearText ∈ mTb := mTb_in3 (i := 20) rfl rfl
theorem selX5_clearText : Cond.selects RX5 yX5_clearText yX5_clearText ∈ mTb := mTb_in3 (i := 21) rfl rfl
theorem mlRL_98 : Cond.methodLink RL 98 yX5_fault ∈ mTb := mTb_in3 (i := 23) rfl rfl
theorem inX5_fault : Cond.instanceMethod yX5_fault ∈ mTb := mTb_in3 (i := 24) rfl rfl
theorem selX5_fault : Cond.selects RX5 yX5_fault yX5_fault ∈ mTb := mTb_in3 (i := 25) rfl rfl
theorem mlRX5_121 : Cond.methodLink RX5 121 yX5_tryText ∈ mTb := mTb_in3 (i := 27) rfl rfl
theorem inX5_tryText : Cond.instanceMethod yX5_tryText ∈ mTb := mTb_in3 (i := 29) rfl rfl
theorem mlRX5_128 : Cond.methodLink RX5 128 yX5_noteFault ∈ mTb := mTb_in3 (i := 31) rfl rfl
theorem inX5_noteFault : Cond.instanceMethod yX5_noteFault ∈ mTb := mTb_in3 (i := 33) rfl rfl
theorem mlRX5_132 : Cond.methodLink RX5 132 yX3_readCommand ∈ mTb := mTb_in3 (i := 35) rfl rfl
theorem inX3_readCommand : Cond.instanceMethod yX3_readCommand ∈ mTb := mTb_in3 (i := 36) rfl rfl
theorem selX3_readCommand : Cond.selects RX3 yX3_readCommand yX3_readCommand ∈ mTb := mTb_in3 (i := 37) rfl rfl
theorem mlRX3_26 : Cond.methodLink RX3 26 yX3_form ∈ mTb := mTb_in3 (i := 39) rfl rfl
theorem staX3_form : Cond.static yX3_form ∈ mTb := mTb_in3 (i := 40) rfl rfl
theorem mlRX3_30 : Cond.methodLink RX3 30 yX3_matches ∈ mTb := mTb_in3 (i := 51) rfl rfl
theorem inX3_matches : Cond.instanceMethod yX3_matches ∈ mTb := mTb_in3 (i := 53) rfl rfl
theorem mlRX3_52 : Cond.methodLink RX3 52 yJ0_length_8abf5 ∈ mTb := mTb_in3 (i := 55) rfl rfl
theorem inJ0_length_8abf5 : Cond.instanceMethod yJ0_length_8abf5 ∈ mTb := mTb_in3 (i := 56) rfl rfl
theorem selJ0_length_8abf5 : Cond.selects RJ0 yJ0_length_8abf5 yJ0_length_8abf5 ∈ mTb := mTb_in3 (i := 57) rfl rfl
theorem mlRJ0_335 : Cond.methodLink RJ0 335 yJ0_coder_7d493 ∈ mTb := mTb_in3 (i := 59) rfl rfl
theorem inJ0_coder_7d493 : Cond.instanceMethod yJ0_coder_7d493 ∈ mTb := mTb_in3 (i := 60) rfl rfl
theorem selJ0_coder_7d493 : Cond.selects RJ0 yJ0_coder_7d493 yJ0_coder_7d493 ∈ mTb := mTb_in3 (i := 61) rfl rfl
theorem flRJ0_38 : Cond.fieldLink RJ0 38 "java/lang/String" "COMPACT_STRINGS" "Z" ∈ mTb := mTb_in3 (i := 63) rfl rfl
theorem mlRX3_57 : Cond.methodLink RX3 57 yJ0_charAt_5068e ∈ mTb := mTb_in3 (i := 65) rfl rfl
theorem inJ0_charAt_5068e : Cond.instanceMethod yJ0_charAt_5068e ∈ mTb := mTb_in3 (i := 66) rfl rfl
theorem selJ0_charAt_5068e : Cond.selects RJ0 yJ0_charAt_5068e yJ0_charAt_5068e ∈ mTb := mTb_in3 (i := 67) rfl rfl
theorem mlRJ0_492 : Cond.methodLink RJ0 492 yJ0_isLatin1_aae02 ∈ mTb := mTb_in3 (i := 69) rfl rfl
theorem inJ0_isLatin1_aae02 : Cond.instanceMethod yJ0_isLatin1_aae02 ∈ mTb := mTb_in3 (i := 70) rfl rfl
theorem selJ0_isLatin1_aae02 : Cond.selects RJ0 yJ0_isLatin1_aae02 yJ0_isLatin1_aae02 ∈ mTb := mTb_in3 (i := 71) rfl rfl
theorem mlRJ0_495 : Cond.methodLink RJ0 495 yJ1_charAt_3b067 ∈ mTb := mTb_in3 (i := 73) rfl rfl
theorem staJ1_charAt_3b067 : Cond.static yJ1_charAt_3b067 ∈ mTb := mTb_in3 (i := 74) rfl rfl
theorem mlRJ1_9 : Cond.methodLink RJ1 9 yJ0_checkIndex_df160 ∈ mTb := mTb_in3 (i := 76) rfl rfl
theorem staJ0_checkIndex_df160 : Cond.static yJ0_checkIndex_df160 ∈ mTb := mTb_in3 (i := 77) rfl rfl
theorem flRJ0_1053 : Cond.fieldLink RJ0 1053 "jdk/internal/util/Preconditions" "SIOOBE_FORMATTER" "Ljava/util/function/BiFunction;" ∈ mTb := mTb_in3 (i := 79) rfl rfl
theorem mlRJ0_1059 : Cond.methodLink RJ0 1059 yJ3_checkIndex_8e157 ∈ mTb := mTb_in3 (i := 81) rfl rfl
theorem staJ3_checkIndex_8e157 : Cond.static yJ3_checkIndex_8e157 ∈ mTb := mTb_in3 (i := 82) rfl rfl
theorem mlRJ0_498 : Cond.methodLink RJ0 498 yJ2_charAt_3b067 ∈ mTb := mTb_in3 (i := 84) rfl rfl
theorem staJ2_charAt_3b067 : Cond.static yJ2_charAt_3b067 ∈ mTb := mTb_in3 (i := 85) rfl rfl
theorem mlRJ2_67 : Cond.methodLink RJ2 67 yJ2_checkIndex_2214a ∈ mTb := mTb_in3 (i := 87) rfl rfl
theorem staJ2_checkIndex_2214a : Cond.static yJ2_checkIndex_2214a ∈ mTb := mTb_in3 (i := 88) rfl rfl
theorem mlRJ2_48 : Cond.methodLink RJ2 48 yJ2_length_9d52b ∈ mTb := mTb_in3 (i := 90) rfl rfl
theorem staJ2_length_9d52b : Cond.static yJ2_length_9d52b ∈ mTb := mTb_in3 (i := 91) rfl rfl
theorem mlRJ2_414 : Cond.methodLink RJ2 414 yJ0_checkIndex_df160 ∈ mTb := mTb_in3 (i := 93) rfl rfl
theorem mlRJ2_71 : Cond.methodLink RJ2 71 yJ2_getChar_3b067 ∈ mTb := mTb_in3 (i := 94) rfl rfl
theorem staJ2_getChar_3b067 : Cond.static yJ2_getChar_3b067 ∈ mTb := mTb_in3 (i := 95) rfl rfl
theorem flRJ2_44 : Cond.fieldLink RJ2 44 "java/lang/StringUTF16" "$assertionsDisabled" "Z" ∈ mTb := mTb_in3 (i := 97) rfl rfl
theorem flRJ2_59 : Cond.fieldLink RJ2 59 "java/lang/StringUTF16" "HI_BYTE_SHIFT" "I" ∈ mTb := mTb_in3 (i := 99) rfl rfl
theorem flRJ2_63 : Cond.fieldLink RJ2 63 "java/lang/StringUTF16" "LO_BYTE_SHIFT" "I" ∈ mTb := mTb_in3 (i := 101) rfl rfl
theorem mlRX3_61 : Cond.methodLink RX3 61 yX3_readName ∈ mTb := mTb_in3 (i := 103) rfl rfl
theorem inX3_readName : Cond.instanceMethod yX3_readName ∈ mTb := mTb_in3 (i := 105) rfl rfl
theorem mlRX3_67 : Cond.methodLink RX3 67 yX3_signAt ∈ mTb := mTb_in3 (i := 107) rfl rfl
theorem inX3_signAt : Cond.instanceMethod yX3_signAt ∈ mTb := mTb_in3 (i := 109) rfl rfl
theorem mnRX3_71 : ((RX3, 71, yX5_within, RX5) : String × Nat × MethodName × String) ∈ mNest := by decide +kernel
theorem mlRX3_64 : Cond.methodLink RX3 64 yX3_readNumber ∈ mTb := mTb_in3 (i := 112) rfl rfl
theorem inX3_readNumber : Cond.instanceMethod yX3_readNumber ∈ mTb := mTb_in3 (i := 114) rfl rfl
theorem mlRX5_139 : Cond.methodLink RX5 139 yX2_perform ∈ mTb := mTb_in3 (i := 116) rfl rfl
theorem inX2_perform : Cond.instanceMethod yX2_perform ∈ mTb := mTb_in3 (i := 117) rfl rfl
theorem selX2_perform : Cond.selects RX2 yX2_perform yX2_perform ∈ mTb := mTb_in3 (i := 118) rfl rfl
theorem mlRX2_72 : Cond.methodLink RX2 72 yX2_giveOrder ∈ mTb := mTb_in3 (i := 120) rfl rfl
theorem mlRX2_76 : Cond.methodLink RX2 76 yX2_putValue ∈ mTb := mTb_in3 (i := 121) rfl rfl
theorem mlRX2_80 : Cond.methodLink RX2 80 yX2_copyName ∈ mTb := mTb_in3 (i := 122) rfl rfl
theorem mlRX2_83 : Cond.methodLink RX2 83 yX2_letTicksGo ∈ mTb := mTb_in3 (i := 123) rfl rfl
theorem mlRX2_87 : Cond.methodLink RX2 87 yX2_addMark ∈ mTb := mTb_in3 (i := 124) rfl rfl
theorem mlRX2_91 : Cond.methodLink RX2 91 yX2_dropFirstMark ∈ mTb := mTb_in3 (i := 125) rfl rfl
theorem mlRX2_94 : Cond.methodLink RX2 94 yX2_goBack ∈ mTb := mTb_in3 (i := 126) rfl rfl
theorem ac_byte : Cond.arrayClass .byte ∈ mTb := mTb_in3 (i := 127) rfl rfl
theorem mlRL_102 : Cond.methodLink RL 102 yX5_play ∈ mTb := mTb_in3 (i := 128) rfl rfl
theorem inX5_play : Cond.instanceMethod yX5_play ∈ mTb := mTb_in3 (i := 129) rfl rfl
theorem selX5_play : Cond.selects RX5 yX5_play yX5_play ∈ mTb := mTb_in3 (i := 130) rfl rfl
theorem clRL_10 : Cond.classLink RL 10 RX6 ∈ mTb := mTb_in3 (i := 132) rfl rfl
theorem insRX6 : Cond.instantiable RX6 13 ∈ mTb := mTb_in3 (i := 133) rfl rfl
theorem mlRL_12 : Cond.methodLink RL 12 yX6_init ∈ mTb := mTb_in3 (i := 134) rfl rfl
theorem inX6_init : Cond.instanceMethod yX6_init ∈ mTb := mTb_in3 (i := 135) rfl rfl
theorem mlRX6_1 : Cond.methodLink RX6 1 objectInit ∈ mTb := mTb_in3 (i := 137) rfl rfl
theorem mlRX6_31 : Cond.methodLink RX6 31 yX6_clears ∈ mTb := mTb_in3 (i := 138) rfl rfl
theorem inX6_clears : Cond.instanceMethod yX6_clears ∈ mTb := mTb_in3 (i := 140) rfl rfl
theorem mlRX6_43 : Cond.methodLink RX6 43 yX6_in ∈ mTb := mTb_in3 (i := 142) rfl rfl
theorem staX6_in : Cond.static yX6_in ∈ mTb := mTb_in3 (i := 143) rfl rfl
theorem flRX6_7 : Cond.fieldLink RX6 7 (mTx 6 0).1 (mTx 6 0).2.1 (mTx 6 0).2.2.1 ∈ mTb := mTb_in3 (i := 145) rfl rfl
theorem flRX6_13 : Cond.fieldLink RX6 13 (mTx 6 1).1 (mTx 6 1).2.1 (mTx 6 1).2.2.1 ∈ mTb := mTb_in3 (i := 146) rfl rfl
theorem flRX6_16 : Cond.fieldLink RX6 16 (mTx 6 2).1 (mTx 6 2).2.1 (mTx 6 2).2.2.1 ∈ mTb := mTb_in3 (i := 147) rfl rfl
theorem flRX6_19 : Cond.fieldLink RX6 19 (mTx 6 3).1 (mTx 6 3).2.1 (mTx 6 3).2.2.1 ∈ mTb := mTb_in3 (i := 148) rfl rfl
theorem flRX6_39 : Cond.fieldLink RX6 39 (mTx 6 4).1 (mTx 6 4).2.1 (mTx 6 4).2.2.1 ∈ mTb := mTb_in3 (i := 149) rfl rfl
theorem flRX6_35 : Cond.fieldLink RX6 35 (mTx 6 5).1 (mTx 6 5).2.1 (mTx 6 5).2.2.1 ∈ mTb := mTb_in3 (i := 150) rfl rfl
theorem flRX6_22 : Cond.fieldLink RX6 22 (mTx 6 6).1 (mTx 6 6).2.1 (mTx 6 6).2.2.1 ∈ mTb := mTb_in3 (i := 151) rfl rfl
theorem flRX6_135 : Cond.fieldLink RX6 135 (mTx 6 7).1 (mTx 6 7).2.1 (mTx 6 7).2.2.1 ∈ mTb := mTb_in3 (i := 152) rfl rfl
theorem flRX6_25 : Cond.fieldLink RX6 25 (mTx 6 8).1 (mTx 6 8).2.1 (mTx 6 8).2.2.1 ∈ mTb := mTb_in3 (i := 153) rfl rfl
theorem flRX6_138 : Cond.fieldLink RX6 138 (mTx 6 9).1 (mTx 6 9).2.1 (mTx 6 9).2.2.1 ∈ mTb := mTb_in3 (i := 154) rfl rfl
theorem flRX6_184 : Cond.fieldLink RX6 184 (mTx 6 10).1 (mTx 6 10).2.1 (mTx 6 10).2.2.1 ∈ mTb := mTb_in3 (i := 155) rfl rfl
theorem flRX6_181 : Cond.fieldLink RX6 181 (mTx 6 11).1 (mTx 6 11).2.1 (mTx 6 11).2.2.1 ∈ mTb := mTb_in3 (i := 156) rfl rfl
theorem flRX6_28 : Cond.fieldLink RX6 28 (mTx 6 12).1 (mTx 6 12).2.1 (mTx 6 12).2.2.1 ∈ mTb := mTb_in3 (i := 157) rfl rfl
theorem mlRL_17 : Cond.methodLink RL 17 yX6_begin ∈ mTb := mTb_in3 (i := 185) rfl rfl
theorem inX6_begin : Cond.instanceMethod yX6_begin ∈ mTb := mTb_in3 (i := 186) rfl rfl
theorem selX6_begin : Cond.selects RX6 yX6_begin yX6_begin ∈ mTb := mTb_in3 (i := 187) rfl rfl
theorem mlRX6_81 : Cond.methodLink RX6 81 yX6_changes ∈ mTb := mTb_in3 (i := 189) rfl rfl
theorem inX6_changes : Cond.instanceMethod yX6_changes ∈ mTb := mTb_in3 (i := 191) rfl rfl
theorem mlRL_22 : Cond.methodLink RL 22 yX6_put ∈ mTb := mTb_in3 (i := 193) rfl rfl
theorem inX6_put : Cond.instanceMethod yX6_put ∈ mTb := mTb_in3 (i := 194) rfl rfl
theorem selX6_put : Cond.selects RX6 yX6_put yX6_put ∈ mTb := mTb_in3 (i := 195) rfl rfl
theorem mlRX6_85 : Cond.methodLink RX6 85 yX6_isName ∈ mTb := mTb_in3 (i := 197) rfl rfl
theorem staX6_isName : Cond.static yX6_isName ∈ mTb := mTb_in3 (i := 198) rfl rfl
theorem mlRX6_88 : Cond.methodLink RX6 88 yX6_copies ∈ mTb := mTb_in3 (i := 200) rfl rfl
theorem staX6_copies : Cond.static yX6_copies ∈ mTb := mTb_in3 (i := 201) rfl rfl
theorem mlRX6_92 : Cond.methodLink RX6 92 yX6_givesUp ∈ mTb := mTb_in3 (i := 203) rfl rfl
theorem inX6_givesUp : Cond.instanceMethod yX6_givesUp ∈ mTb := mTb_in3 (i := 205) rfl rfl
theorem mlRX6_68 : Cond.methodLink RX6 68 yX6_frees ∈ mTb := mTb_in3 (i := 207) rfl rfl
theorem inX6_frees : Cond.instanceMethod yX6_frees ∈ mTb := mTb_in3 (i := 209) rfl rfl
theorem mlRX6_51 : Cond.methodLink RX6 51 yX6_isHad ∈ mTb := mTb_in3 (i := 211) rfl rfl
theorem inX6_isHad : Cond.instanceMethod yX6_isHad ∈ mTb := mTb_in3 (i := 213) rfl rfl
theorem mlRX6_55 : Cond.methodLink RX6 55 yX6_marksOf ∈ mTb := mTb_in3 (i := 215) rfl rfl
theorem inX6_marksOf : Cond.instanceMethod yX6_marksOf ∈ mTb := mTb_in3 (i := 217) rfl rfl
theorem mlRX6_59 : Cond.methodLink RX6 59 yX6_readers ∈ mTb := mTb_in3 (i := 219) rfl rfl
theorem inX6_readers : Cond.instanceMethod yX6_readers ∈ mTb := mTb_in3 (i := 221) rfl rfl
theorem mlRX6_47 : Cond.methodLink RX6 47 yX6_ofOrder ∈ mTb := mTb_in3 (i := 223) rfl rfl
theorem staX6_ofOrder : Cond.static yX6_ofOrder ∈ mTb := mTb_in3 (i := 224) rfl rfl
theorem mlRX6_62 : Cond.methodLink RX6 62 yX6_isOfOrder ∈ mTb := mTb_in3 (i := 226) rfl rfl
theorem inX6_isOfOrder : Cond.instanceMethod yX6_isOfOrder ∈ mTb := mTb_in3 (i := 228) rfl rfl
theorem mlRX6_65 : Cond.methodLink RX6 65 yX6_at ∈ mTb := mTb_in3 (i := 230) rfl rfl
theorem staX6_at : Cond.static yX6_at ∈ mTb := mTb_in3 (i := 231) rfl rfl
theorem mlRX6_77 : Cond.methodLink RX6 77 yX6_gets ∈ mTb := mTb_in3 (i := 233) rfl rfl
theorem inX6_gets : Cond.instanceMethod yX6_gets ∈ mTb := mTb_in3 (i := 235) rfl rfl
theorem mlRX6_74 : Cond.methodLink RX6 74 yX6_chairFor ∈ mTb := mTb_in3 (i := 237) rfl rfl
theorem inX6_chairFor : Cond.instanceMethod yX6_chairFor ∈ mTb := mTb_in3 (i := 239) rfl rfl
theorem mlRX6_71 : Cond.methodLink RX6 71 yX6_next ∈ mTb := mTb_in4 (i := 1) rfl rfl
theorem inX6_next : Cond.instanceMethod yX6_next ∈ mTb := mTb_in4 (i := 3) rfl rfl
theorem mlRX6_95 : Cond.methodLink RX6 95 yX6_isKnown ∈ mTb := mTb_in4 (i := 5) rfl rfl
theorem inX6_isKnown : Cond.instanceMethod yX6_isKnown ∈ mTb := mTb_in4 (i := 7) rfl rfl
theorem mlRL_26 : Cond.methodLink RL 26 yX6_copy ∈ mTb := mTb_in4 (i := 9) rfl rfl
theorem inX6_copy : Cond.instanceMethod yX6_copy ∈ mTb := mTb_in4 (i := 10) rfl rfl
theorem selX6_copy : Cond.selects RX6 yX6_copy yX6_copy ∈ mTb := mTb_in4 (i := 11) rfl rfl
theorem mlRX6_99 : Cond.methodLink RX6 99 yX6_sits ∈ mTb := mTb_in4 (i := 13) rfl rfl
theorem inX6_sits : Cond.instanceMethod yX6_sits ∈ mTb := mTb_in4 (i := 15) rfl rfl
theorem mlRL_31 : Cond.methodLink RL 31 yX6_order ∈ mTb := mTb_in4 (i := 17) rfl rfl
theorem inX6_order : Cond.instanceMethod yX6_order ∈ mTb := mTb_in4 (i := 18) rfl rfl
theorem selX6_order : Cond.selects RX6 yX6_order yX6_order ∈ mTb := mTb_in4 (i := 19) rfl rfl
theorem mlRX6_102 : Cond.methodLink RX6 102 yX6_gives ∈ mTb := mTb_in4 (i := 21) rfl rfl
theorem inX6_gives : Cond.instanceMethod yX6_gives ∈ mTb := mTb_in4 (i := 23) rfl rfl
theorem mlRL_35 : Cond.methodLink RL 35 yX6_tick ∈ mTb := mTb_in4 (i := 25) rfl rfl
theorem inX6_tick : Cond.instanceMethod yX6_tick ∈ mTb := mTb_in4 (i := 26) rfl rfl
theorem selX6_tick : Cond.selects RX6 yX6_tick yX6_tick ∈ mTb := mTb_in4 (i := 27) rfl rfl
theorem ctRX6_116 : Cond.constant RX6 116 (Int32.ofInt 50000) ∈ mTb := mTb_in4 (i := 29) rfl rfl
theorem mlRX6_117 : Cond.methodLink RX6 117 yX6_ticks ∈ mTb := mTb_in4 (i := 30) rfl rfl
theorem inX6_ticks : Cond.instanceMethod yX6_ticks ∈ mTb := mTb_in4 (i := 32) rfl rfl
theorem mlRX6_113 : Cond.methodLink RX6 113 yX6_dones ∈ mTb := mTb_in4 (i := 34) rfl rfl
theorem inX6_dones : Cond.instanceMethod yX6_dones ∈ mTb := mTb_in4 (i := 36) rfl rfl
theorem mlRX6_107 : Cond.methodLink RX6 107 yX6_result ∈ mTb := mTb_in4 (i := 38) rfl rfl
theorem staX6_result : Cond.static yX6_result ∈ mTb := mTb_in4 (i := 39) rfl rfl
theorem mlRX6_110 : Cond.methodLink RX6 110 yX6_drops ∈ mTb := mTb_in4 (i := 42) rfl rfl
theorem inX6_drops : Cond.instanceMethod yX6_drops ∈ mTb := mTb_in4 (i := 44) rfl rfl
theorem mlRL_39 : Cond.methodLink RL 39 yX6_set ∈ mTb := mTb_in4 (i := 46) rfl rfl
theorem inX6_set : Cond.instanceMethod yX6_set ∈ mTb := mTb_in4 (i := 47) rfl rfl
theorem selX6_set : Cond.selects RX6 yX6_set yX6_set ∈ mTb := mTb_in4 (i := 48) rfl rfl
theorem mlRL_44 : Cond.methodLink RL 44 yX6_mark ∈ mTb := mTb_in4 (i := 50) rfl rfl
theorem inX6_mark : Cond.instanceMethod yX6_mark ∈ mTb := mTb_in4 (i := 51) rfl rfl
theorem selX6_mark : Cond.selects RX6 yX6_mark yX6_mark ∈ mTb := mTb_in4 (i := 52) rfl rfl
theorem mlRL_48 : Cond.methodLink RL 48 yX6_keep ∈ mTb := mTb_in4 (i := 54) rfl rfl
theorem inX6_keep : Cond.instanceMethod yX6_keep ∈ mTb := mTb_in4 (i := 55) rfl rfl
theorem selX6_keep : Cond.selects RX6 yX6_keep yX6_keep ∈ mTb := mTb_in4 (i := 56) rfl rfl
theorem mlRL_52 : Cond.methodLink RL 52 yX6_back ∈ mTb := mTb_in4 (i := 58) rfl rfl
theorem inX6_back : Cond.instanceMethod yX6_back ∈ mTb := mTb_in4 (i := 59) rfl rfl
theorem selX6_back : Cond.selects RX6 yX6_back yX6_back ∈ mTb := mTb_in4 (i := 60) rfl rfl
theorem mlRX6_120 : Cond.methodLink RX6 120 yX6_isMark ∈ mTb := mTb_in4 (i := 62) rfl rfl
theorem inX6_isMark : Cond.instanceMethod yX6_isMark ∈ mTb := mTb_in4 (i := 64) rfl rfl
theorem mlRL_57 : Cond.methodLink RL 57 yX6_markOf ∈ mTb := mTb_in4 (i := 66) rfl rfl
theorem inX6_markOf : Cond.instanceMethod yX6_markOf ∈ mTb := mTb_in4 (i := 67) rfl rfl
theorem selX6_markOf : Cond.selects RX6 yX6_markOf yX6_markOf ∈ mTb := mTb_in4 (i := 68) rfl rfl
theorem mlRL_61 : Cond.methodLink RL 61 yX6_nameOf ∈ mTb := mTb_in4 (i := 70) rfl rfl
theorem inX6_nameOf : Cond.instanceMethod yX6_nameOf ∈ mTb := mTb_in4 (i := 71) rfl rfl
theorem selX6_nameOf : Cond.selects RX6 yX6_nameOf yX6_nameOf ∈ mTb := mTb_in4 (i := 72) rfl rfl
theorem mlRX6_123 : Cond.methodLink RX6 123 yX6_names ∈ mTb := mTb_in4 (i := 74) rfl rfl
theorem inX6_names : Cond.instanceMethod yX6_names ∈ mTb := mTb_in4 (i := 76) rfl rfl
theorem mlRX6_126 : Cond.methodLink RX6 126 yX6_ones ∈ mTb := mTb_in4 (i := 78) rfl rfl
theorem staX6_ones : Cond.static yX6_ones ∈ mTb := mTb_in4 (i := 79) rfl rfl
theorem mlRX6_129 : Cond.methodLink RX6 129 yX6_toCome ∈ mTb := mTb_in4 (i := 81) rfl rfl
theorem inX6_toCome : Cond.instanceMethod yX6_toCome ∈ mTb := mTb_in4 (i := 83) rfl rfl
theorem mlRL_65 : Cond.methodLink RL 65 yX6_chairOf ∈ mTb := mTb_in4 (i := 85) rfl rfl
theorem inX6_chairOf : Cond.instanceMethod yX6_chairOf ∈ mTb := mTb_in4 (i := 86) rfl rfl
theorem selX6_chairOf : Cond.selects RX6 yX6_chairOf yX6_chairOf ∈ mTb := mTb_in4 (i := 87) rfl rfl
theorem mlRL_69 : Cond.methodLink RL 69 yX6_orderOf ∈ mTb := mTb_in4 (i := 89) rfl rfl
theorem inX6_orderOf : Cond.instanceMethod yX6_orderOf ∈ mTb := mTb_in4 (i := 90) rfl rfl
theorem selX6_orderOf : Cond.selects RX6 yX6_orderOf yX6_orderOf ∈ mTb := mTb_in4 (i := 91) rfl rfl
theorem mlRL_73 : Cond.methodLink RL 73 yX6_count ∈ mTb := mTb_in4 (i := 93) rfl rfl
theorem inX6_count : Cond.instanceMethod yX6_count ∈ mTb := mTb_in4 (i := 94) rfl rfl
theorem selX6_count : Cond.selects RX6 yX6_count yX6_count ∈ mTb := mTb_in4 (i := 95) rfl rfl
theorem mlRX6_132 : Cond.methodLink RX6 132 yX6_many ∈ mTb := mTb_in4 (i := 97) rfl rfl
theorem inX6_many : Cond.instanceMethod yX6_many ∈ mTb := mTb_in4 (i := 99) rfl rfl
theorem mlRL_77 : Cond.methodLink RL 77 yX6_sends ∈ mTb := mTb_in4 (i := 101) rfl rfl
theorem inX6_sends : Cond.instanceMethod yX6_sends ∈ mTb := mTb_in4 (i := 102) rfl rfl
theorem selX6_sends : Cond.selects RX6 yX6_sends yX6_sends ∈ mTb := mTb_in4 (i := 103) rfl rfl
theorem mlRL_81 : Cond.methodLink RL 81 yX6_idleIn ∈ mTb := mTb_in4 (i := 105) rfl rfl
theorem inX6_idleIn : Cond.instanceMethod yX6_idleIn ∈ mTb := mTb_in4 (i := 106) rfl rfl
theorem selX6_idleIn : Cond.selects RX6 yX6_idleIn yX6_idleIn ∈ mTb := mTb_in4 (i := 107) rfl rfl
theorem mlRL_85 : Cond.methodLink RL 85 yX6_knownIn ∈ mTb := mTb_in4 (i := 109) rfl rfl
theorem inX6_knownIn : Cond.instanceMethod yX6_knownIn ∈ mTb := mTb_in4 (i := 110) rfl rfl
theorem selX6_knownIn : Cond.selects RX6 yX6_knownIn yX6_knownIn ∈ mTb := mTb_in4 (i := 111) rfl rfl
theorem mlRL_89 : Cond.methodLink RL 89 yX6_undo ∈ mTb := mTb_in4 (i := 113) rfl rfl
theorem inX6_undo : Cond.instanceMethod yX6_undo ∈ mTb := mTb_in4 (i := 114) rfl rfl
theorem selX6_undo : Cond.selects RX6 yX6_undo yX6_undo ∈ mTb := mTb_in4 (i := 115) rfl rfl
theorem mlRL_93 : Cond.methodLink RL 93 yX6_type ∈ mTb := mTb_in4 (i := 117) rfl rfl
theorem inX6_type : Cond.instanceMethod yX6_type ∈ mTb := mTb_in4 (i := 118) rfl rfl
theorem selX6_type : Cond.selects RX6 yX6_type yX6_type ∈ mTb := mTb_in4 (i := 119) rfl rfl
theorem mlRL_97 : Cond.methodLink RL 97 yX6_clearText ∈ mTb := mTb_in4 (i := 121) rfl rfl
theorem inX6_clearText : Cond.instanceMethod yX6_clearText ∈ mTb := mTb_in4 (i := 122) rfl rfl
theorem selX6_clearText : Cond.selects RX6 yX6_clearText yX6_clearText ∈ mTb := mTb_in4 (i := 123) rfl rfl
theorem mlRL_101 : Cond.methodLink RL 101 yX6_fault ∈ mTb := mTb_in4 (i := 125) rfl rfl
theorem inX6_fault : Cond.instanceMethod yX6_fault ∈ mTb := mTb_in4 (i := 126) rfl rfl
theorem selX6_fault : Cond.selects RX6 yX6_fault yX6_fault ∈ mTb := mTb_in4 (i := 127) rfl rfl
theorem mlRX6_196 : Cond.methodLink RX6 196 yX6_plays ∈ mTb := mTb_in4 (i := 129) rfl rfl
theorem inX6_plays : Cond.instanceMethod yX6_plays ∈ mTb := mTb_in4 (i := 131) rfl rfl
theorem mlRX6_145 : Cond.methodLink RX6 145 yX6_isAt ∈ mTb := mTb_in4 (i := 133) rfl rfl
theorem inX6_isAt : Cond.instanceMethod yX6_isAt ∈ mTb := mTb_in4 (i := 135) rfl rfl
theorem mlRX6_187 : Cond.methodLink RX6 187 yX6_wordAt ∈ mTb := mTb_in4 (i := 137) rfl rfl
theorem inX6_wordAt : Cond.instanceMethod yX6_wordAt ∈ mTb := mTb_in4 (i := 139) rfl rfl
theorem mlRX6_141 : Cond.methodLink RX6 141 yX6_isWord ∈ mTb := mTb_in4 (i := 141) rfl rfl
theorem inX6_isWord : Cond.instanceMethod yX6_isWord ∈ mTb := mTb_in4 (i := 143) rfl rfl
theorem mlRX6_190 : Cond.methodLink RX6 190 yX6_isForm ∈ mTb := mTb_in4 (i := 145) rfl rfl
theorem inX6_isForm : Cond.instanceMethod yX6_isForm ∈ mTb := mTb_in4 (i := 147) rfl rfl
theorem mlRX6_152 : Cond.methodLink RX6 152 yX6_readsName ∈ mTb := mTb_in4 (i := 149) rfl rfl
theorem inX6_readsName : Cond.instanceMethod yX6_readsName ∈ mTb := mTb_in4 (i := 151) rfl rfl
theorem mlRX6_149 : Cond.methodLink RX6 149 yX6_passes ∈ mTb := mTb_in4 (i := 153) rfl rfl
theorem inX6_passes : Cond.instanceMethod yX6_passes ∈ mTb := mTb_in4 (i := 155) rfl rfl
theorem mlRX6_155 : Cond.methodLink RX6 155 yX6_readsNumber ∈ mTb := mTb_in4 (i := 157) rfl rfl
theorem inX6_readsNumber : Cond.instanceMethod yX6_readsNumber ∈ mTb := mTb_in4 (i := 159) rfl rfl
theorem mlRX6_193 : Cond.methodLink RX6 193 yX6_does ∈ mTb := mTb_in4 (i := 161) rfl rfl
theorem inX6_does : Cond.instanceMethod yX6_does ∈ mTb := mTb_in4 (i := 163) rfl rfl
theorem mlRX6_158 : Cond.methodLink RX6 158 yX6_put ∈ mTb := mTb_in4 (i := 165) rfl rfl
theorem mlRX6_161 : Cond.methodLink RX6 161 yX6_copy ∈ mTb := mTb_in4 (i := 166) rfl rfl
theorem mlRX6_164 : Cond.methodLink RX6 164 yX6_tick ∈ mTb := mTb_in4 (i := 167) rfl rfl
theorem mlRX6_167 : Cond.methodLink RX6 167 yX6_mark ∈ mTb := mTb_in4 (i := 168) rfl rfl
theorem mlRX6_171 : Cond.methodLink RX6 171 yX6_keep ∈ mTb := mTb_in4 (i := 169) rfl rfl
theorem mlRX6_174 : Cond.methodLink RX6 174 yX6_back ∈ mTb := mTb_in4 (i := 170) rfl rfl
theorem mlRX6_177 : Cond.methodLink RX6 177 yX6_order ∈ mTb := mTb_in4 (i := 171) rfl rfl
theorem mlRL_105 : Cond.methodLink RL 105 yX6_play ∈ mTb := mTb_in4 (i := 172) rfl rfl
theorem inX6_play : Cond.instanceMethod yX6_play ∈ mTb := mTb_in4 (i := 173) rfl rfl
theorem selX6_play : Cond.selects RX6 yX6_play yX6_play ∈ mTb := mTb_in4 (i := 174) rfl rfl
theorem flRJ0_9 : Cond.fieldLink RJ0 9 "java/lang/String" "value" "[B" ∈ mTb := mTb_in4 (i := 176) rfl rfl
theorem flRJ0_15 : Cond.fieldLink RJ0 15 "java/lang/String" "coder" "B" ∈ mTb := mTb_in4 (i := 177) rfl rfl
theorem mTb_inP {i : Nat} {w : Cond} (h : (k2_sels lw_privs)[i]? = some w) (hg : goodWord w = true) : w ∈ mTb := List.mem_filter.mpr ⟨List.mem_append_left _ (List.mem_of_getElem? h), hg⟩
theorem selX5_spareRoom : Cond.selects RX5 yX5_spareRoom yX5_spareRoom ∈ mTb := mTb_inP (i := 0) rfl rfl
theorem selX5_settle : Cond.selects RX5 yX5_settle yX5_settle ∈ mTb := mTb_inP (i := 1) rfl rfl
theorem selX2_seat : Cond.selects RX2 yX2_seat yX2_seat ∈ mTb := mTb_inP (i := 2) rfl rfl
theorem selX2_pinnedChairs : Cond.selects RX2 yX2_pinnedChairs yX2_pinnedChairs ∈ mTb := mTb_inP (i := 3) rfl rfl
theorem selX2_lowestFreeChair : Cond.selects RX2 yX2_lowestFreeChair yX2_lowestFreeChair ∈ mTb := mTb_inP (i := 4) rfl rfl
theorem selX2_longestUnused : Cond.selects RX2 yX2_longestUnused yX2_longestUnused ∈ mTb := mTb_inP (i := 5) rfl rfl
theorem selX2_sendOut : Cond.selects RX2 yX2_sendOut yX2_sendOut ∈ mTb := mTb_inP (i := 6) rfl rfl
theorem selX2_findSeat : Cond.selects RX2 yX2_findSeat yX2_findSeat ∈ mTb := mTb_inP (i := 7) rfl rfl
theorem selX2_letTickGo : Cond.selects RX2 yX2_letTickGo yX2_letTickGo ∈ mTb := mTb_inP (i := 8) rfl rfl
theorem selX2_finishOrders : Cond.selects RX2 yX2_finishOrders yX2_finishOrders ∈ mTb := mTb_inP (i := 9) rfl rfl
theorem selX2_beginOrders : Cond.selects RX2 yX2_beginOrders yX2_beginOrders ∈ mTb := mTb_inP (i := 10) rfl rfl
theorem selX2_isMark : Cond.selects RX2 yX2_isMark yX2_isMark ∈ mTb := mTb_inP (i := 11) rfl rfl
theorem selX2_hidesValue : Cond.selects RX2 yX2_hidesValue yX2_hidesValue ∈ mTb := mTb_inP (i := 12) rfl rfl
theorem selX2_isKnown : Cond.selects RX2 yX2_isKnown yX2_isKnown ∈ mTb := mTb_inP (i := 13) rfl rfl
theorem selX2_marksOn : Cond.selects RX2 yX2_marksOn yX2_marksOn ∈ mTb := mTb_inP (i := 14) rfl rfl
theorem selX2_hasBegun : Cond.selects RX2 yX2_hasBegun yX2_hasBegun ∈ mTb := mTb_inP (i := 15) rfl rfl
theorem selX2_begunOrders : Cond.selects RX2 yX2_begunOrders yX2_begunOrders ∈ mTb := mTb_inP (i := 16) rfl rfl
theorem selX5_tryText : Cond.selects RX5 yX5_tryText yX5_tryText ∈ mTb := mTb_inP (i := 17) rfl rfl
theorem selX5_noteFault : Cond.selects RX5 yX5_noteFault yX5_noteFault ∈ mTb := mTb_inP (i := 18) rfl rfl
theorem selX3_matches : Cond.selects RX3 yX3_matches yX3_matches ∈ mTb := mTb_inP (i := 19) rfl rfl
theorem selX3_readName : Cond.selects RX3 yX3_readName yX3_readName ∈ mTb := mTb_inP (i := 20) rfl rfl
theorem selX3_signAt : Cond.selects RX3 yX3_signAt yX3_signAt ∈ mTb := mTb_inP (i := 21) rfl rfl
theorem selX3_readNumber : Cond.selects RX3 yX3_readNumber yX3_readNumber ∈ mTb := mTb_inP (i := 22) rfl rfl
theorem selX6_clears : Cond.selects RX6 yX6_clears yX6_clears ∈ mTb := mTb_inP (i := 23) rfl rfl
theorem selX6_changes : Cond.selects RX6 yX6_changes yX6_changes ∈ mTb := mTb_inP (i := 24) rfl rfl
theorem selX6_givesUp : Cond.selects RX6 yX6_givesUp yX6_givesUp ∈ mTb := mTb_inP (i := 25) rfl rfl
theorem selX6_frees : Cond.selects RX6 yX6_frees yX6_frees ∈ mTb := mTb_inP (i := 26) rfl rfl
theorem selX6_isHad : Cond.selects RX6 yX6_isHad yX6_isHad ∈ mTb := mTb_inP (i := 27) rfl rfl
theorem selX6_marksOf : Cond.selects RX6 yX6_marksOf yX6_marksOf ∈ mTb := mTb_inP (i := 28) rfl rfl
theorem selX6_readers : Cond.selects RX6 yX6_readers yX6_readers ∈ mTb := mTb_inP (i := 29) rfl rfl
theorem selX6_isOfOrder : Cond.selects RX6 yX6_isOfOrder yX6_isOfOrder ∈ mTb := mTb_inP (i := 30) rfl rfl
theorem selX6_gets : Cond.selects RX6 yX6_gets yX6_gets ∈ mTb := mTb_inP (i := 31) rfl rfl
theorem selX6_chairFor : Cond.selects RX6 yX6_chairFor yX6_chairFor ∈ mTb := mTb_inP (i := 32) rfl rfl
theorem selX6_next : Cond.selects RX6 yX6_next yX6_next ∈ mTb := mTb_inP (i := 33) rfl rfl
theorem selX6_isKnown : Cond.selects RX6 yX6_isKnown yX6_isKnown ∈ mTb := mTb_inP (i := 34) rfl rfl
theorem selX6_sits : Cond.selects RX6 yX6_sits yX6_sits ∈ mTb := mTb_inP (i := 35) rfl rfl
theorem selX6_gives : Cond.selects RX6 yX6_gives yX6_gives ∈ mTb := mTb_inP (i := 36) rfl rfl
theorem selX6_ticks : Cond.selects RX6 yX6_ticks yX6_ticks ∈ mTb := mTb_inP (i := 37) rfl rfl
theorem selX6_dones : Cond.selects RX6 yX6_dones yX6_dones ∈ mTb := mTb_inP (i := 38) rfl rfl
theorem selX6_drops : Cond.selects RX6 yX6_drops yX6_drops ∈ mTb := mTb_inP (i := 39) rfl rfl
theorem selX6_isMark : Cond.selects RX6 yX6_isMark yX6_isMark ∈ mTb := mTb_inP (i := 40) rfl rfl
theorem selX6_names : Cond.selects RX6 yX6_names yX6_names ∈ mTb := mTb_inP (i := 41) rfl rfl
theorem selX6_toCome : Cond.selects RX6 yX6_toCome yX6_toCome ∈ mTb := mTb_inP (i := 42) rfl rfl
theorem selX6_many : Cond.selects RX6 yX6_many yX6_many ∈ mTb := mTb_inP (i := 43) rfl rfl
theorem selX6_plays : Cond.selects RX6 yX6_plays yX6_plays ∈ mTb := mTb_inP (i := 44) rfl rfl
theorem selX6_isAt : Cond.selects RX6 yX6_isAt yX6_isAt ∈ mTb := mTb_inP (i := 45) rfl rfl
theorem selX6_wordAt : Cond.selects RX6 yX6_wordAt yX6_wordAt ∈ mTb := mTb_inP (i := 46) rfl rfl
theorem selX6_isWord : Cond.selects RX6 yX6_isWord yX6_isWord ∈ mTb := mTb_inP (i := 47) rfl rfl
theorem selX6_isForm : Cond.selects RX6 yX6_isForm yX6_isForm ∈ mTb := mTb_inP (i := 48) rfl rfl
theorem selX6_readsName : Cond.selects RX6 yX6_readsName yX6_readsName ∈ mTb := mTb_inP (i := 49) rfl rfl
theorem selX6_passes : Cond.selects RX6 yX6_passes yX6_passes ∈ mTb := mTb_inP (i := 50) rfl rfl
theorem selX6_readsNumber : Cond.selects RX6 yX6_readsNumber yX6_readsNumber ∈ mTb := mTb_inP (i := 51) rfl rfl
theorem selX6_does : Cond.selects RX6 yX6_does yX6_does ∈ mTb := mTb_inP (i := 52) rfl rfl
