theorem tbq0 {c : Cond} (h : c ∈ k2_sels lw_privs) : c ∈ lw_tbl := List.mem_append_left _ h
theorem tbq1 {c : Cond} (h : c ∈ tables_1_1) : c ∈ lw_tbl := List.mem_append_right _ (List.mem_append_left _ h)
theorem tbq2 {c : Cond} (h : c ∈ tables_1_2) : c ∈ lw_tbl := List.mem_append_right _ (List.mem_append_right _ (List.mem_append_left _ h))
theorem tbq3 {c : Cond} (h : c ∈ tables_1_3) : c ∈ lw_tbl := List.mem_append_right _ (List.mem_append_right _ (List.mem_append_right _ (List.mem_append_left _ h)))
theorem tbq4 {c : Cond} (h : c ∈ tables_1_4) : c ∈ lw_tbl := List.mem_append_right _ (List.mem_append_right _ (List.mem_append_right _ (List.mem_append_right _ (List.mem_append_left _ h))))
theorem tbq5 {c : Cond} (h : c ∈ tables_1_5) : c ∈ lw_tbl := List.mem_append_right _ (List.mem_append_right _ (List.mem_append_right _ (List.mem_append_right _ (List.mem_append_right _ (h)))))
theorem zm_X7_thing : zMe yX7_thing cX7_thing 5 (some .int) 4 := ⟨by decide +kernel, zTb_in (tbq2 (List.mem_of_getElem? (i := 38) rfl)) (by decide +kernel), zTb_in (tbq1 (List.mem_of_getElem? (i := 1) rfl)) (by decide +kernel), by decide +kernel, by decide⟩
theorem zv_X7_thing : zMv yX7_thing := ⟨zTb_in (tbq2 (List.mem_of_getElem? (i := 36) rfl)) (by decide +kernel), zTb_in (tbq2 (List.mem_of_getElem? (i := 37) rfl)) (by decide +kernel)⟩
theorem zm_X7_isNot : zMe yX7_isNot cX7_isNot 2 (some .boolean) 2 := ⟨by decide +kernel, zTb_in (tbq2 (List.mem_of_getElem? (i := 41) rfl)) (by decide +kernel), zTb_in (tbq1 (List.mem_of_getElem? (i := 1) rfl)) (by decide +kernel), by decide +kernel, by decide⟩
theorem zst_X7_isNot : Cond.static yX7_isNot ∈ zTb := zTb_in (tbq2 (List.mem_of_getElem? (i := 40) rfl)) (by decide +kernel)
theorem zm_X1_addThing : zMe yX1_addThing cX1_addThing 5 (some .int) 4 := ⟨by decide +kernel, zTb_in (tbq2 (List.mem_of_getElem? (i := 45) rfl)) (by decide +kernel), zTb_in (tbq1 (List.mem_of_getElem? (i := 3) rfl)) (by decide +kernel), by decide +kernel, by decide⟩
theorem zv_X1_addThing : zMv yX1_addThing := ⟨zTb_in (tbq2 (List.mem_of_getElem? (i := 43) rfl)) (by decide +kernel), zTb_in (tbq2 (List.mem_of_getElem? (i := 44) rfl)) (by decide +kernel)⟩
theorem zm_X4_set : zMe yX4_set cX4_set 5 none 4 := ⟨by decide +kernel, zTb_in (tbq2 (List.mem_of_getElem? (i := 49) rfl)) (by decide +kernel), zTb_in (tbq1 (List.mem_of_getElem? (i := 4) rfl)) (by decide +kernel), by decide +kernel, by decide⟩
theorem zv_X4_set : zMv yX4_set := ⟨zTb_in (tbq2 (List.mem_of_getElem? (i := 47) rfl)) (by decide +kernel), zTb_in (tbq2 (List.mem_of_getElem? (i := 48) rfl)) (by decide +kernel)⟩
theorem zm_X7_of : zMe yX7_of cX7_of 4 (some .int) 2 := ⟨by decide +kernel, zTb_in (tbq2 (List.mem_of_getElem? (i := 53) rfl)) (by decide +kernel), zTb_in (tbq1 (List.mem_of_getElem? (i := 1) rfl)) (by decide +kernel), by decide +kernel, by decide⟩
theorem zv_X7_of : zMv yX7_of := ⟨zTb_in (tbq2 (List.mem_of_getElem? (i := 51) rfl)) (by decide +kernel), zTb_in (tbq2 (List.mem_of_getElem? (i := 52) rfl)) (by decide +kernel)⟩
theorem zm_X1_isThing : zMe yX1_isThing cX1_isThing 2 (some .boolean) 1 := ⟨by decide +kernel, zTb_in (tbq2 (List.mem_of_getElem? (i := 57) rfl)) (by decide +kernel), zTb_in (tbq1 (List.mem_of_getElem? (i := 3) rfl)) (by decide +kernel), by decide +kernel, by decide⟩
theorem zv_X1_isThing : zMv yX1_isThing := ⟨zTb_in (tbq2 (List.mem_of_getElem? (i := 55) rfl)) (by decide +kernel), zTb_in (tbq2 (List.mem_of_getElem? (i := 56) rfl)) (by decide +kernel)⟩
theorem zm_X1_whoHas : zMe yX1_whoHas cX1_whoHas 4 (some .int) 2 := ⟨by decide +kernel, zTb_in (tbq2 (List.mem_of_getElem? (i := 61) rfl)) (by decide +kernel), zTb_in (tbq1 (List.mem_of_getElem? (i := 3) rfl)) (by decide +kernel), by decide +kernel, by decide⟩
theorem zv_X1_whoHas : zMv yX1_whoHas := ⟨zTb_in (tbq2 (List.mem_of_getElem? (i := 59) rfl)) (by decide +kernel), zTb_in (tbq2 (List.mem_of_getElem? (i := 60) rfl)) (by decide +kernel)⟩
theorem zm_X7_felt : zMe yX7_felt cX7_felt 4 (some .int) 3 := ⟨by decide +kernel, zTb_in (tbq2 (List.mem_of_getElem? (i := 65) rfl)) (by decide +kernel), zTb_in (tbq1 (List.mem_of_getElem? (i := 1) rfl)) (by decide +kernel), by decide +kernel, by decide⟩
theorem zv_X7_felt : zMv yX7_felt := ⟨zTb_in (tbq2 (List.mem_of_getElem? (i := 63) rfl)) (by decide +kernel), zTb_in (tbq2 (List.mem_of_getElem? (i := 64) rfl)) (by decide +kernel)⟩
theorem zm_X4_feltBy : zMe yX4_feltBy cX4_feltBy 3 (some .int) 2 := ⟨by decide +kernel, zTb_in (tbq2 (List.mem_of_getElem? (i := 69) rfl)) (by decide +kernel), zTb_in (tbq1 (List.mem_of_getElem? (i := 4) rfl)) (by decide +kernel), by decide +kernel, by decide⟩
theorem zv_X4_feltBy : zMv yX4_feltBy := ⟨zTb_in (tbq2 (List.mem_of_getElem? (i := 67) rfl)) (by decide +kernel), zTb_in (tbq2 (List.mem_of_getElem? (i := 68) rfl)) (by decide +kernel)⟩
theorem zm_X7_person : zMe yX7_person cX7_person 4 (some .int) 3 := ⟨by decide +kernel, zTb_in (tbq2 (List.mem_of_getElem? (i := 73) rfl)) (by decide +kernel), zTb_in (tbq1 (List.mem_of_getElem? (i := 1) rfl)) (by decide +kernel), by decide +kernel, by decide⟩
theorem zv_X7_person : zMv yX7_person := ⟨zTb_in (tbq2 (List.mem_of_getElem? (i := 71) rfl)) (by decide +kernel), zTb_in (tbq2 (List.mem_of_getElem? (i := 72) rfl)) (by decide +kernel)⟩
theorem zm_X7_isNoThingOrNone : zMe yX7_isNoThingOrNone cX7_isNoThingOrNone 2 (some .boolean) 1 := ⟨by decide +kernel, zTb_in (tbq2 (List.mem_of_getElem? (i := 77) rfl)) (by decide +kernel), zTb_in (tbq1 (List.mem_of_getElem? (i := 1) rfl)) (by decide +kernel), by decide +kernel, by decide⟩
theorem zv_X7_isNoThingOrNone : zMv yX7_isNoThingOrNone := ⟨zTb_in (tbq2 (List.mem_of_getElem? (i := 76) rfl)) (by decide +kernel), zTb_in (tbq0 (List.mem_of_getElem? (i := 0) rfl)) (by decide +kernel)⟩
theorem zm_X7_isHad : zMe yX7_isHad cX7_isHad 2 (some .boolean) 1 := ⟨by decide +kernel, zTb_in (tbq2 (List.mem_of_getElem? (i := 81) rfl)) (by decide +kernel), zTb_in (tbq1 (List.mem_of_getElem? (i := 1) rfl)) (by decide +kernel), by decide +kernel, by decide⟩
theorem zv_X7_isHad : zMv yX7_isHad := ⟨zTb_in (tbq2 (List.mem_of_getElem? (i := 80) rfl)) (by decide +kernel), zTb_in (tbq0 (List.mem_of_getElem? (i := 1) rfl)) (by decide +kernel)⟩
theorem zm_X1_addPerson : zMe yX1_addPerson cX1_addPerson 5 (some .int) 4 := ⟨by decide +kernel, zTb_in (tbq2 (List.mem_of_getElem? (i := 85) rfl)) (by decide +kernel), zTb_in (tbq1 (List.mem_of_getElem? (i := 3) rfl)) (by decide +kernel), by decide +kernel, by decide⟩
theorem zv_X1_addPerson : zMv yX1_addPerson := ⟨zTb_in (tbq2 (List.mem_of_getElem? (i := 83) rfl)) (by decide +kernel), zTb_in (tbq2 (List.mem_of_getElem? (i := 84) rfl)) (by decide +kernel)⟩
theorem zm_X7_told : zMe yX7_told cX7_told 3 (some .int) 2 := ⟨by decide +kernel, zTb_in (tbq2 (List.mem_of_getElem? (i := 89) rfl)) (by decide +kernel), zTb_in (tbq1 (List.mem_of_getElem? (i := 1) rfl)) (by decide +kernel), by decide +kernel, by decide⟩
theorem zv_X7_told : zMv yX7_told := ⟨zTb_in (tbq2 (List.mem_of_getElem? (i := 87) rfl)) (by decide +kernel), zTb_in (tbq2 (List.mem_of_getElem? (i := 88) rfl)) (by decide +kernel)⟩
theorem zm_X1_isPerson : zMe yX1_isPerson cX1_isPerson 2 (some .boolean) 1 := ⟨by decide +kernel, zTb_in (tbq2 (List.mem_of_getElem? (i := 93) rfl)) (by decide +kernel), zTb_in (tbq1 (List.mem_of_getElem? (i := 3) rfl)) (by decide +kernel), by decide +kernel, by decide⟩
theorem zv_X1_isPerson : zMv yX1_isPerson := ⟨zTb_in (tbq2 (List.mem_of_getElem? (i := 91) rfl)) (by decide +kernel), zTb_in (tbq2 (List.mem_of_getElem? (i := 92) rfl)) (by decide +kernel)⟩
theorem zm_X7_move : zMe yX7_move cX7_move 4 (some .int) 2 := ⟨by decide +kernel, zTb_in (tbq2 (List.mem_of_getElem? (i := 97) rfl)) (by decide +kernel), zTb_in (tbq1 (List.mem_of_getElem? (i := 1) rfl)) (by decide +kernel), by decide +kernel, by decide⟩
theorem zv_X7_move : zMv yX7_move := ⟨zTb_in (tbq2 (List.mem_of_getElem? (i := 95) rfl)) (by decide +kernel), zTb_in (tbq2 (List.mem_of_getElem? (i := 96) rfl)) (by decide +kernel)⟩
theorem zm_X7_take : zMe yX7_take cX7_take 3 (some .int) 1 := ⟨by decide +kernel, zTb_in (tbq2 (List.mem_of_getElem? (i := 101) rfl)) (by decide +kernel), zTb_in (tbq1 (List.mem_of_getElem? (i := 1) rfl)) (by decide +kernel), by decide +kernel, by decide⟩
theorem zv_X7_take : zMv yX7_take := ⟨zTb_in (tbq2 (List.mem_of_getElem? (i := 99) rfl)) (by decide +kernel), zTb_in (tbq2 (List.mem_of_getElem? (i := 100) rfl)) (by decide +kernel)⟩
theorem zm_X5_hasNew : zMe yX5_hasNew cX5_hasNew 2 none 1 := ⟨by decide +kernel, zTb_in (tbq2 (List.mem_of_getElem? (i := 105) rfl)) (by decide +kernel), zTb_in (tbq1 (List.mem_of_getElem? (i := 5) rfl)) (by decide +kernel), by decide +kernel, by decide⟩
theorem zv_X5_hasNew : zMv yX5_hasNew := ⟨zTb_in (tbq2 (List.mem_of_getElem? (i := 103) rfl)) (by decide +kernel), zTb_in (tbq2 (List.mem_of_getElem? (i := 104) rfl)) (by decide +kernel)⟩
theorem zm_X7_count : zMe yX7_count cX7_count 2 (some .int) 1 := ⟨by decide +kernel, zTb_in (tbq2 (List.mem_of_getElem? (i := 109) rfl)) (by decide +kernel), zTb_in (tbq1 (List.mem_of_getElem? (i := 1) rfl)) (by decide +kernel), by decide +kernel, by decide⟩
theorem zv_X7_count : zMv yX7_count := ⟨zTb_in (tbq2 (List.mem_of_getElem? (i := 107) rfl)) (by decide +kernel), zTb_in (tbq2 (List.mem_of_getElem? (i := 108) rfl)) (by decide +kernel)⟩
theorem zm_X7_heed : zMe yX7_heed cX7_heed 3 (some .int) 1 := ⟨by decide +kernel, zTb_in (tbq2 (List.mem_of_getElem? (i := 113) rfl)) (by decide +kernel), zTb_in (tbq1 (List.mem_of_getElem? (i := 1) rfl)) (by decide +kernel), by decide +kernel, by decide⟩
theorem zv_X7_heed : zMv yX7_heed := ⟨zTb_in (tbq2 (List.mem_of_getElem? (i := 111) rfl)) (by decide +kernel), zTb_in (tbq2 (List.mem_of_getElem? (i := 112) rfl)) (by decide +kernel)⟩
theorem zm_X7_well : zMe yX7_well cX7_well 3 (some .int) 1 := ⟨by decide +kernel, zTb_in (tbq2 (List.mem_of_getElem? (i := 117) rfl)) (by decide +kernel), zTb_in (tbq1 (List.mem_of_getElem? (i := 1) rfl)) (by decide +kernel), by decide +kernel, by decide⟩
theorem zv_X7_well : zMv yX7_well := ⟨zTb_in (tbq2 (List.mem_of_getElem? (i := 115) rfl)) (by decide +kernel), zTb_in (tbq2 (List.mem_of_getElem? (i := 116) rfl)) (by decide +kernel)⟩
theorem zm_X7_type : zMe yX7_type cX7_type 2 (some .int) 1 := ⟨by decide +kernel, zTb_in (tbq2 (List.mem_of_getElem? (i := 121) rfl)) (by decide +kernel), zTb_in (tbq1 (List.mem_of_getElem? (i := 1) rfl)) (by decide +kernel), by decide +kernel, by decide⟩
theorem zv_X7_type : zMv yX7_type := ⟨zTb_in (tbq2 (List.mem_of_getElem? (i := 119) rfl)) (by decide +kernel), zTb_in (tbq2 (List.mem_of_getElem? (i := 120) rfl)) (by decide +kernel)⟩
theorem zm_X7_road : zMe yX7_road cX7_road 2 (some .int) 0 := ⟨by decide +kernel, zTb_in (tbq2 (List.mem_of_getElem? (i := 125) rfl)) (by decide +kernel), zTb_in (tbq1 (List.mem_of_getElem? (i := 1) rfl)) (by decide +kernel), by decide +kernel, by decide⟩
theorem zv_X7_road : zMv yX7_road := ⟨zTb_in (tbq2 (List.mem_of_getElem? (i := 123) rfl)) (by decide +kernel), zTb_in (tbq2 (List.mem_of_getElem? (i := 124) rfl)) (by decide +kernel)⟩
theorem zm_X3_readRoad : zMe yX3_readRoad cX3_readRoad 3 (some .boolean) 1 := ⟨by decide +kernel, zTb_in (tbq2 (List.mem_of_getElem? (i := 129) rfl)) (by decide +kernel), zTb_in (tbq1 (List.mem_of_getElem? (i := 6) rfl)) (by decide +kernel), by decide +kernel, by decide⟩
theorem zv_X3_readRoad : zMv yX3_readRoad := ⟨zTb_in (tbq2 (List.mem_of_getElem? (i := 127) rfl)) (by decide +kernel), zTb_in (tbq2 (List.mem_of_getElem? (i := 128) rfl)) (by decide +kernel)⟩
theorem zm_X1_setFrom : zMe yX1_setFrom cX1_setFrom 4 none 1 := ⟨by decide +kernel, zTb_in (tbq2 (List.mem_of_getElem? (i := 133) rfl)) (by decide +kernel), zTb_in (tbq1 (List.mem_of_getElem? (i := 3) rfl)) (by decide +kernel), by decide +kernel, by decide⟩
theorem zv_X1_setFrom : zMv yX1_setFrom := ⟨zTb_in (tbq2 (List.mem_of_getElem? (i := 131) rfl)) (by decide +kernel), zTb_in (tbq2 (List.mem_of_getElem? (i := 132) rfl)) (by decide +kernel)⟩
theorem zm_X5_setFrom : zMe yX5_setFrom cX5_setFrom 2 none 1 := ⟨by decide +kernel, zTb_in (tbq2 (List.mem_of_getElem? (i := 140) rfl)) (by decide +kernel), zTb_in (tbq1 (List.mem_of_getElem? (i := 5) rfl)) (by decide +kernel), by decide +kernel, by decide⟩
theorem zv_X5_setFrom : zMv yX5_setFrom := ⟨zTb_in (tbq2 (List.mem_of_getElem? (i := 138) rfl)) (by decide +kernel), zTb_in (tbq2 (List.mem_of_getElem? (i := 139) rfl)) (by decide +kernel)⟩
theorem zm_X5_setOut : zMe yX5_setOut cX5_setOut 1 none 0 := ⟨by decide +kernel, zTb_in (tbq2 (List.mem_of_getElem? (i := 145) rfl)) (by decide +kernel), zTb_in (tbq1 (List.mem_of_getElem? (i := 5) rfl)) (by decide +kernel), by decide +kernel, by decide⟩
theorem zv_X5_setOut : zMv yX5_setOut := ⟨zTb_in (tbq2 (List.mem_of_getElem? (i := 143) rfl)) (by decide +kernel), zTb_in (tbq2 (List.mem_of_getElem? (i := 144) rfl)) (by decide +kernel)⟩
theorem zm_X3_readThings : zMe yX3_readThings cX3_readThings 2 (some .boolean) 0 := ⟨by decide +kernel, zTb_in (tbq2 (List.mem_of_getElem? (i := 150) rfl)) (by decide +kernel), zTb_in (tbq1 (List.mem_of_getElem? (i := 6) rfl)) (by decide +kernel), by decide +kernel, by decide⟩
theorem zv_X3_readThings : zMv yX3_readThings := ⟨zTb_in (tbq2 (List.mem_of_getElem? (i := 148) rfl)) (by decide +kernel), zTb_in (tbq2 (List.mem_of_getElem? (i := 149) rfl)) (by decide +kernel)⟩
theorem zm_X3_readThing : zMe yX3_readThing cX3_readThing 5 (some .boolean) 0 := ⟨by decide +kernel, zTb_in (tbq2 (List.mem_of_getElem? (i := 154) rfl)) (by decide +kernel), zTb_in (tbq1 (List.mem_of_getElem? (i := 6) rfl)) (by decide +kernel), by decide +kernel, by decide⟩
theorem zv_X3_readThing : zMv yX3_readThing := ⟨zTb_in (tbq2 (List.mem_of_getElem? (i := 152) rfl)) (by decide +kernel), zTb_in (tbq2 (List.mem_of_getElem? (i := 153) rfl)) (by decide +kernel)⟩
theorem zm_X3_next : zMe yX3_next cX3_next 1 (some .char) 0 := ⟨by decide +kernel, zTb_in (tbq2 (List.mem_of_getElem? (i := 159) rfl)) (by decide +kernel), zTb_in (tbq1 (List.mem_of_getElem? (i := 6) rfl)) (by decide +kernel), by decide +kernel, by decide⟩
theorem zv_X3_next : zMv yX3_next := ⟨zTb_in (tbq2 (List.mem_of_getElem? (i := 157) rfl)) (by decide +kernel), zTb_in (tbq2 (List.mem_of_getElem? (i := 158) rfl)) (by decide +kernel)⟩
theorem zm_X3_readNumber : zMe yX3_readNumber cX3_readNumber 4 (some .int) 1 := ⟨by decide +kernel, zTb_in (tbq3 (List.mem_of_getElem? (i := 9) rfl)) (by decide +kernel), zTb_in (tbq1 (List.mem_of_getElem? (i := 6) rfl)) (by decide +kernel), by decide +kernel, by decide⟩
theorem zv_X3_readNumber : zMv yX3_readNumber := ⟨zTb_in (tbq3 (List.mem_of_getElem? (i := 7) rfl)) (by decide +kernel), zTb_in (tbq3 (List.mem_of_getElem? (i := 8) rfl)) (by decide +kernel)⟩
theorem zm_X3_isDigit : zMe yX3_isDigit cX3_isDigit 1 (some .boolean) 1 := ⟨by decide +kernel, zTb_in (tbq3 (List.mem_of_getElem? (i := 12) rfl)) (by decide +kernel), zTb_in (tbq1 (List.mem_of_getElem? (i := 6) rfl)) (by decide +kernel), by decide +kernel, by decide⟩
theorem zst_X3_isDigit : Cond.static yX3_isDigit ∈ zTb := zTb_in (tbq3 (List.mem_of_getElem? (i := 11) rfl)) (by decide +kernel)
theorem zm_X3_reads : zMe yX3_reads cX3_reads 2 (some .boolean) 1 := ⟨by decide +kernel, zTb_in (tbq3 (List.mem_of_getElem? (i := 17) rfl)) (by decide +kernel), zTb_in (tbq1 (List.mem_of_getElem? (i := 6) rfl)) (by decide +kernel), by decide +kernel, by decide⟩
theorem zv_X3_reads : zMv yX3_reads := ⟨zTb_in (tbq3 (List.mem_of_getElem? (i := 15) rfl)) (by decide +kernel), zTb_in (tbq3 (List.mem_of_getElem? (i := 16) rfl)) (by decide +kernel)⟩
theorem zm_X3_readPeople : zMe yX3_readPeople cX3_readPeople 2 (some .boolean) 0 := ⟨by decide +kernel, zTb_in (tbq3 (List.mem_of_getElem? (i := 22) rfl)) (by decide +kernel), zTb_in (tbq1 (List.mem_of_getElem? (i := 6) rfl)) (by decide +kernel), by decide +kernel, by decide⟩
theorem zv_X3_readPeople : zMv yX3_readPeople := ⟨zTb_in (tbq3 (List.mem_of_getElem? (i := 20) rfl)) (by decide +kernel), zTb_in (tbq3 (List.mem_of_getElem? (i := 21) rfl)) (by decide +kernel)⟩
theorem zm_X3_readPerson : zMe yX3_readPerson cX3_readPerson 4 (some .boolean) 0 := ⟨by decide +kernel, zTb_in (tbq3 (List.mem_of_getElem? (i := 26) rfl)) (by decide +kernel), zTb_in (tbq1 (List.mem_of_getElem? (i := 6) rfl)) (by decide +kernel), by decide +kernel, by decide⟩
theorem zv_X3_readPerson : zMv yX3_readPerson := ⟨zTb_in (tbq3 (List.mem_of_getElem? (i := 24) rfl)) (by decide +kernel), zTb_in (tbq3 (List.mem_of_getElem? (i := 25) rfl)) (by decide +kernel)⟩
theorem zm_X3_readFreeThing : zMe yX3_readFreeThing cX3_readFreeThing 2 (some .int) 0 := ⟨by decide +kernel, zTb_in (tbq3 (List.mem_of_getElem? (i := 30) rfl)) (by decide +kernel), zTb_in (tbq1 (List.mem_of_getElem? (i := 6) rfl)) (by decide +kernel), by decide +kernel, by decide⟩
theorem zv_X3_readFreeThing : zMv yX3_readFreeThing := ⟨zTb_in (tbq3 (List.mem_of_getElem? (i := 28) rfl)) (by decide +kernel), zTb_in (tbq3 (List.mem_of_getElem? (i := 29) rfl)) (by decide +kernel)⟩
theorem zm_X3_readHis : zMe yX3_readHis cX3_readHis 2 (some .boolean) 0 := ⟨by decide +kernel, zTb_in (tbq3 (List.mem_of_getElem? (i := 37) rfl)) (by decide +kernel), zTb_in (tbq1 (List.mem_of_getElem? (i := 6) rfl)) (by decide +kernel), by decide +kernel, by decide⟩
theorem zv_X3_readHis : zMv yX3_readHis := ⟨zTb_in (tbq3 (List.mem_of_getElem? (i := 35) rfl)) (by decide +kernel), zTb_in (tbq3 (List.mem_of_getElem? (i := 36) rfl)) (by decide +kernel)⟩
theorem zm_X7_go : zMe yX7_go cX7_go 1 (some .int) 0 := ⟨by decide +kernel, zTb_in (tbq3 (List.mem_of_getElem? (i := 44) rfl)) (by decide +kernel), zTb_in (tbq1 (List.mem_of_getElem? (i := 1) rfl)) (by decide +kernel), by decide +kernel, by decide⟩
theorem zv_X7_go : zMv yX7_go := ⟨zTb_in (tbq3 (List.mem_of_getElem? (i := 42) rfl)) (by decide +kernel), zTb_in (tbq3 (List.mem_of_getElem? (i := 43) rfl)) (by decide +kernel)⟩
theorem zm_X6_remember : zMe yX6_remember cX6_remember 1 none 0 := ⟨by decide +kernel, zTb_in (tbq3 (List.mem_of_getElem? (i := 48) rfl)) (by decide +kernel), zTb_in (tbq1 (List.mem_of_getElem? (i := 2) rfl)) (by decide +kernel), by decide +kernel, by decide⟩
theorem zv_X6_remember : zMv yX6_remember := ⟨zTb_in (tbq3 (List.mem_of_getElem? (i := 46) rfl)) (by decide +kernel), zTb_in (tbq3 (List.mem_of_getElem? (i := 47) rfl)) (by decide +kernel)⟩
theorem zm_X6_loseOldest : zMe yX6_loseOldest cX6_loseOldest 3 none 0 := ⟨by decide +kernel, zTb_in (tbq3 (List.mem_of_getElem? (i := 52) rfl)) (by decide +kernel), zTb_in (tbq1 (List.mem_of_getElem? (i := 2) rfl)) (by decide +kernel), by decide +kernel, by decide⟩
theorem zv_X6_loseOldest : zMv yX6_loseOldest := ⟨zTb_in (tbq3 (List.mem_of_getElem? (i := 50) rfl)) (by decide +kernel), zTb_in (tbq3 (List.mem_of_getElem? (i := 51) rfl)) (by decide +kernel)⟩
theorem zm_X1_pass : zMe yX1_pass cX1_pass 5 (some .int) 2 := ⟨by decide +kernel, zTb_in (tbq3 (List.mem_of_getElem? (i := 57) rfl)) (by decide +kernel), zTb_in (tbq1 (List.mem_of_getElem? (i := 3) rfl)) (by decide +kernel), by decide +kernel, by decide⟩
theorem zv_X1_pass : zMv yX1_pass := ⟨zTb_in (tbq3 (List.mem_of_getElem? (i := 55) rfl)) (by decide +kernel), zTb_in (tbq3 (List.mem_of_getElem? (i := 56) rfl)) (by decide +kernel)⟩
theorem zm_X1_feelOneMore : zMe yX1_feelOneMore cX1_feelOneMore 5 none 2 := ⟨by decide +kernel, zTb_in (tbq3 (List.mem_of_getElem? (i := 62) rfl)) (by decide +kernel), zTb_in (tbq1 (List.mem_of_getElem? (i := 3) rfl)) (by decide +kernel), by decide +kernel, by decide⟩
theorem zv_X1_feelOneMore : zMv yX1_feelOneMore := ⟨zTb_in (tbq3 (List.mem_of_getElem? (i := 60) rfl)) (by decide +kernel), zTb_in (tbq3 (List.mem_of_getElem? (i := 61) rfl)) (by decide +kernel)⟩
theorem zm_X1_offer : zMe yX1_offer cX1_offer 6 none 3 := ⟨by decide +kernel, zTb_in (tbq3 (List.mem_of_getElem? (i := 67) rfl)) (by decide +kernel), zTb_in (tbq1 (List.mem_of_getElem? (i := 3) rfl)) (by decide +kernel), by decide +kernel, by decide⟩
theorem zv_X1_offer : zMv yX1_offer := ⟨zTb_in (tbq3 (List.mem_of_getElem? (i := 65) rfl)) (by decide +kernel), zTb_in (tbq3 (List.mem_of_getElem? (i := 66) rfl)) (by decide +kernel)⟩
theorem zm_X1_isGlad : zMe yX1_isGlad cX1_isGlad 8 (some .boolean) 4 := ⟨by decide +kernel, zTb_in (tbq3 (List.mem_of_getElem? (i := 71) rfl)) (by decide +kernel), zTb_in (tbq1 (List.mem_of_getElem? (i := 3) rfl)) (by decide +kernel), by decide +kernel, by decide⟩
theorem zv_X1_isGlad : zMv yX1_isGlad := ⟨zTb_in (tbq3 (List.mem_of_getElem? (i := 69) rfl)) (by decide +kernel), zTb_in (tbq3 (List.mem_of_getElem? (i := 70) rfl)) (by decide +kernel)⟩
theorem zm_X7_undo : zMe yX7_undo cX7_undo 1 (some .int) 0 := ⟨by decide +kernel, zTb_in (tbq3 (List.mem_of_getElem? (i := 76) rfl)) (by decide +kernel), zTb_in (tbq1 (List.mem_of_getElem? (i := 1) rfl)) (by decide +kernel), by decide +kernel, by decide⟩
theorem zv_X7_undo : zMv yX7_undo := ⟨zTb_in (tbq3 (List.mem_of_getElem? (i := 74) rfl)) (by decide +kernel), zTb_in (tbq3 (List.mem_of_getElem? (i := 75) rfl)) (by decide +kernel)⟩
theorem zm_X6_stepBack : zMe yX6_stepBack cX6_stepBack 1 none 0 := ⟨by decide +kernel, zTb_in (tbq3 (List.mem_of_getElem? (i := 80) rfl)) (by decide +kernel), zTb_in (tbq1 (List.mem_of_getElem? (i := 2) rfl)) (by decide +kernel), by decide +kernel, by decide⟩
theorem zv_X6_stepBack : zMv yX6_stepBack := ⟨zTb_in (tbq3 (List.mem_of_getElem? (i := 78) rfl)) (by decide +kernel), zTb_in (tbq3 (List.mem_of_getElem? (i := 79) rfl)) (by decide +kernel)⟩
theorem zm_X7_again : zMe yX7_again cX7_again 2 (some .int) 0 := ⟨by decide +kernel, zTb_in (tbq3 (List.mem_of_getElem? (i := 84) rfl)) (by decide +kernel), zTb_in (tbq1 (List.mem_of_getElem? (i := 1) rfl)) (by decide +kernel), by decide +kernel, by decide⟩
theorem zv_X7_again : zMv yX7_again := ⟨zTb_in (tbq3 (List.mem_of_getElem? (i := 82) rfl)) (by decide +kernel), zTb_in (tbq3 (List.mem_of_getElem? (i := 83) rfl)) (by decide +kernel)⟩
theorem zm_X7_glad : zMe yX7_glad cX7_glad 2 (some .int) 1 := ⟨by decide +kernel, zTb_in (tbq3 (List.mem_of_getElem? (i := 88) rfl)) (by decide +kernel), zTb_in (tbq1 (List.mem_of_getElem? (i := 1) rfl)) (by decide +kernel), by decide +kernel, by decide⟩
theorem zv_X7_glad : zMv yX7_glad := ⟨zTb_in (tbq3 (List.mem_of_getElem? (i := 86) rfl)) (by decide +kernel), zTb_in (tbq3 (List.mem_of_getElem? (i := 87) rfl)) (by decide +kernel)⟩
theorem zm_X7_home : zMe yX7_home cX7_home 3 (some .int) 1 := ⟨by decide +kernel, zTb_in (tbq3 (List.mem_of_getElem? (i := 93) rfl)) (by decide +kernel), zTb_in (tbq1 (List.mem_of_getElem? (i := 1) rfl)) (by decide +kernel), by decide +kernel, by decide⟩
theorem zv_X7_home : zMv yX7_home := ⟨zTb_in (tbq3 (List.mem_of_getElem? (i := 91) rfl)) (by decide +kernel), zTb_in (tbq3 (List.mem_of_getElem? (i := 92) rfl)) (by decide +kernel)⟩
theorem zm_X0_endOf : zMe yX0_endOf cX0_endOf 2 (some (.object "GladRoad$Trip")) 1 := ⟨by decide +kernel, zTb_in (tbq3 (List.mem_of_getElem? (i := 97) rfl)) (by decide +kernel), zTb_in (tbq1 (List.mem_of_getElem? (i := 7) rfl)) (by decide +kernel), by decide +kernel, by decide⟩
theorem zv_X0_endOf : zMv yX0_endOf := ⟨zTb_in (tbq3 (List.mem_of_getElem? (i := 95) rfl)) (by decide +kernel), zTb_in (tbq3 (List.mem_of_getElem? (i := 96) rfl)) (by decide +kernel)⟩
theorem zm_X0_begin : zMe yX0_begin cX0_begin 2 none 1 := ⟨by decide +kernel, zTb_in (tbq3 (List.mem_of_getElem? (i := 101) rfl)) (by decide +kernel), zTb_in (tbq1 (List.mem_of_getElem? (i := 7) rfl)) (by decide +kernel), by decide +kernel, by decide⟩
theorem zv_X0_begin : zMv yX0_begin := ⟨zTb_in (tbq3 (List.mem_of_getElem? (i := 99) rfl)) (by decide +kernel), zTb_in (tbq3 (List.mem_of_getElem? (i := 100) rfl)) (by decide +kernel)⟩
theorem zm_X0_walkHome : zMe yX0_walkHome cX0_walkHome 2 none 0 := ⟨by decide +kernel, zTb_in (tbq3 (List.mem_of_getElem? (i := 107) rfl)) (by decide +kernel), zTb_in (tbq1 (List.mem_of_getElem? (i := 7) rfl)) (by decide +kernel), by decide +kernel, by decide⟩
theorem zv_X0_walkHome : zMv yX0_walkHome := ⟨zTb_in (tbq3 (List.mem_of_getElem? (i := 105) rfl)) (by decide +kernel), zTb_in (tbq3 (List.mem_of_getElem? (i := 106) rfl)) (by decide +kernel)⟩
theorem zm_X7_lost : zMe yX7_lost cX7_lost 1 (some .int) 0 := ⟨by decide +kernel, zTb_in (tbq3 (List.mem_of_getElem? (i := 112) rfl)) (by decide +kernel), zTb_in (tbq1 (List.mem_of_getElem? (i := 1) rfl)) (by decide +kernel), by decide +kernel, by decide⟩
theorem zv_X7_lost : zMv yX7_lost := ⟨zTb_in (tbq3 (List.mem_of_getElem? (i := 110) rfl)) (by decide +kernel), zTb_in (tbq3 (List.mem_of_getElem? (i := 111) rfl)) (by decide +kernel)⟩
theorem zm_X1_worthOf : zMe yX1_worthOf cX1_worthOf 2 (some .int) 1 := ⟨by decide +kernel, zTb_in (tbq3 (List.mem_of_getElem? (i := 116) rfl)) (by decide +kernel), zTb_in (tbq1 (List.mem_of_getElem? (i := 3) rfl)) (by decide +kernel), by decide +kernel, by decide⟩
theorem zv_X1_worthOf : zMv yX1_worthOf := ⟨zTb_in (tbq3 (List.mem_of_getElem? (i := 114) rfl)) (by decide +kernel), zTb_in (tbq3 (List.mem_of_getElem? (i := 115) rfl)) (by decide +kernel)⟩
theorem zm_X7_lurk : zMe yX7_lurk cX7_lurk 4 (some .int) 2 := ⟨by decide +kernel, zTb_in (tbq3 (List.mem_of_getElem? (i := 120) rfl)) (by decide +kernel), zTb_in (tbq1 (List.mem_of_getElem? (i := 1) rfl)) (by decide +kernel), by decide +kernel, by decide⟩
theorem zv_X7_lurk : zMv yX7_lurk := ⟨zTb_in (tbq3 (List.mem_of_getElem? (i := 118) rfl)) (by decide +kernel), zTb_in (tbq3 (List.mem_of_getElem? (i := 119) rfl)) (by decide +kernel)⟩
theorem zm_X0_waitFor : zMe yX0_waitFor cX0_waitFor 8 (some .int) 2 := ⟨by decide +kernel, zTb_in (tbq3 (List.mem_of_getElem? (i := 124) rfl)) (by decide +kernel), zTb_in (tbq1 (List.mem_of_getElem? (i := 7) rfl)) (by decide +kernel), by decide +kernel, by decide⟩
theorem zv_X0_waitFor : zMv yX0_waitFor := ⟨zTb_in (tbq3 (List.mem_of_getElem? (i := 122) rfl)) (by decide +kernel), zTb_in (tbq3 (List.mem_of_getElem? (i := 123) rfl)) (by decide +kernel)⟩
theorem zm_X7_stand : zMe yX7_stand cX7_stand 4 (some .int) 2 := ⟨by decide +kernel, zTb_in (tbq3 (List.mem_of_getElem? (i := 131) rfl)) (by decide +kernel), zTb_in (tbq1 (List.mem_of_getElem? (i := 1) rfl)) (by decide +kernel), by decide +kernel, by decide⟩
theorem zv_X7_stand : zMv yX7_stand := ⟨zTb_in (tbq3 (List.mem_of_getElem? (i := 129) rfl)) (by decide +kernel), zTb_in (tbq3 (List.mem_of_getElem? (i := 130) rfl)) (by decide +kernel)⟩
theorem zm_X0_mostWorthOf : zMe yX0_mostWorthOf cX0_mostWorthOf 6 (some .int) 2 := ⟨by decide +kernel, zTb_in (tbq3 (List.mem_of_getElem? (i := 135) rfl)) (by decide +kernel), zTb_in (tbq1 (List.mem_of_getElem? (i := 7) rfl)) (by decide +kernel), by decide +kernel, by decide⟩
theorem zv_X0_mostWorthOf : zMv yX0_mostWorthOf := ⟨zTb_in (tbq3 (List.mem_of_getElem? (i := 133) rfl)) (by decide +kernel), zTb_in (tbq3 (List.mem_of_getElem? (i := 134) rfl)) (by decide +kernel)⟩
theorem zm_X7_sister : zMe yX7_sister cX7_sister 3 (some .int) 2 := ⟨by decide +kernel, zTb_in (tbq3 (List.mem_of_getElem? (i := 139) rfl)) (by decide +kernel), zTb_in (tbq1 (List.mem_of_getElem? (i := 1) rfl)) (by decide +kernel), by decide +kernel, by decide⟩
theorem zv_X7_sister : zMv yX7_sister := ⟨zTb_in (tbq3 (List.mem_of_getElem? (i := 137) rfl)) (by decide +kernel), zTb_in (tbq3 (List.mem_of_getElem? (i := 138) rfl)) (by decide +kernel)⟩
theorem zm_X7_meet : zMe yX7_meet cX7_meet 4 (some .int) 2 := ⟨by decide +kernel, zTb_in (tbq3 (List.mem_of_getElem? (i := 143) rfl)) (by decide +kernel), zTb_in (tbq1 (List.mem_of_getElem? (i := 1) rfl)) (by decide +kernel), by decide +kernel, by decide⟩
theorem zv_X7_meet : zMv yX7_meet := ⟨zTb_in (tbq3 (List.mem_of_getElem? (i := 141) rfl)) (by decide +kernel), zTb_in (tbq3 (List.mem_of_getElem? (i := 142) rfl)) (by decide +kernel)⟩
theorem zm_X0_turnsWith : zMe yX0_turnsWith cX0_turnsWith 7 (some .int) 2 := ⟨by decide +kernel, zTb_in (tbq3 (List.mem_of_getElem? (i := 147) rfl)) (by decide +kernel), zTb_in (tbq1 (List.mem_of_getElem? (i := 7) rfl)) (by decide +kernel), by decide +kernel, by decide⟩
theorem zv_X0_turnsWith : zMv yX0_turnsWith := ⟨zTb_in (tbq3 (List.mem_of_getElem? (i := 145) rfl)) (by decide +kernel), zTb_in (tbq3 (List.mem_of_getElem? (i := 146) rfl)) (by decide +kernel)⟩
theorem zm_X0_takesTurn : zMe yX0_takesTurn cX0_takesTurn 5 (some .boolean) 3 := ⟨by decide +kernel, zTb_in (tbq3 (List.mem_of_getElem? (i := 152) rfl)) (by decide +kernel), zTb_in (tbq1 (List.mem_of_getElem? (i := 7) rfl)) (by decide +kernel), by decide +kernel, by decide⟩
theorem zv_X0_takesTurn : zMv yX0_takesTurn := ⟨zTb_in (tbq3 (List.mem_of_getElem? (i := 150) rfl)) (by decide +kernel), zTb_in (tbq3 (List.mem_of_getElem? (i := 151) rfl)) (by decide +kernel)⟩
theorem zm_X7_first : zMe yX7_first cX7_first 2 (some .int) 1 := ⟨by decide +kernel, zTb_in (tbq3 (List.mem_of_getElem? (i := 159) rfl)) (by decide +kernel), zTb_in (tbq1 (List.mem_of_getElem? (i := 1) rfl)) (by decide +kernel), by decide +kernel, by decide⟩
theorem zv_X7_first : zMv yX7_first := ⟨zTb_in (tbq3 (List.mem_of_getElem? (i := 157) rfl)) (by decide +kernel), zTb_in (tbq3 (List.mem_of_getElem? (i := 158) rfl)) (by decide +kernel)⟩
theorem zm_X0_firstsFor : zMe yX0_firstsFor cX0_firstsFor 5 (some .int) 2 := ⟨by decide +kernel, zTb_in (tbq3 (List.mem_of_getElem? (i := 163) rfl)) (by decide +kernel), zTb_in (tbq1 (List.mem_of_getElem? (i := 7) rfl)) (by decide +kernel), by decide +kernel, by decide⟩
theorem zv_X0_firstsFor : zMv yX0_firstsFor := ⟨zTb_in (tbq3 (List.mem_of_getElem? (i := 161) rfl)) (by decide +kernel), zTb_in (tbq3 (List.mem_of_getElem? (i := 162) rfl)) (by decide +kernel)⟩
theorem zm_X7_cheated : zMe yX7_cheated cX7_cheated 2 (some .int) 1 := ⟨by decide +kernel, zTb_in (tbq3 (List.mem_of_getElem? (i := 167) rfl)) (by decide +kernel), zTb_in (tbq1 (List.mem_of_getElem? (i := 1) rfl)) (by decide +kernel), by decide +kernel, by decide⟩
theorem zv_X7_cheated : zMv yX7_cheated := ⟨zTb_in (tbq3 (List.mem_of_getElem? (i := 165) rfl)) (by decide +kernel), zTb_in (tbq3 (List.mem_of_getElem? (i := 166) rfl)) (by decide +kernel)⟩
theorem zm_X0_heedFor : zMe yX0_heedFor cX0_heedFor 7 (some .int) 2 := ⟨by decide +kernel, zTb_in (tbq3 (List.mem_of_getElem? (i := 171) rfl)) (by decide +kernel), zTb_in (tbq1 (List.mem_of_getElem? (i := 7) rfl)) (by decide +kernel), by decide +kernel, by decide⟩
theorem zv_X0_heedFor : zMv yX0_heedFor := ⟨zTb_in (tbq3 (List.mem_of_getElem? (i := 169) rfl)) (by decide +kernel), zTb_in (tbq3 (List.mem_of_getElem? (i := 170) rfl)) (by decide +kernel)⟩
theorem zm_X7_chance : zMe yX7_chance cX7_chance 6 (some .int) 2 := ⟨by decide +kernel, zTb_in (tbq3 (List.mem_of_getElem? (i := 175) rfl)) (by decide +kernel), zTb_in (tbq1 (List.mem_of_getElem? (i := 1) rfl)) (by decide +kernel), by decide +kernel, by decide⟩
theorem zv_X7_chance : zMv yX7_chance := ⟨zTb_in (tbq3 (List.mem_of_getElem? (i := 173) rfl)) (by decide +kernel), zTb_in (tbq3 (List.mem_of_getElem? (i := 174) rfl)) (by decide +kernel)⟩
theorem zm_X0_waysTo : zMe yX0_waysTo cX0_waysTo 3 (some .int) 2 := ⟨by decide +kernel, zTb_in (tbq3 (List.mem_of_getElem? (i := 179) rfl)) (by decide +kernel), zTb_in (tbq1 (List.mem_of_getElem? (i := 7) rfl)) (by decide +kernel), by decide +kernel, by decide⟩
theorem zv_X0_waysTo : zMv yX0_waysTo := ⟨zTb_in (tbq3 (List.mem_of_getElem? (i := 177) rfl)) (by decide +kernel), zTb_in (tbq3 (List.mem_of_getElem? (i := 178) rfl)) (by decide +kernel)⟩
theorem zm_X0_waysFrom : zMe yX0_waysFrom cX0_waysFrom 5 (some .int) 2 := ⟨by decide +kernel, zTb_in (tbq3 (List.mem_of_getElem? (i := 183) rfl)) (by decide +kernel), zTb_in (tbq1 (List.mem_of_getElem? (i := 7) rfl)) (by decide +kernel), by decide +kernel, by decide⟩
theorem zv_X0_waysFrom : zMv yX0_waysFrom := ⟨zTb_in (tbq3 (List.mem_of_getElem? (i := 182) rfl)) (by decide +kernel), zTb_in (tbq0 (List.mem_of_getElem? (i := 2) rfl)) (by decide +kernel)⟩
theorem zm_X0_waysBehind : zMe yX0_waysBehind cX0_waysBehind 4 (some .int) 3 := ⟨by decide +kernel, zTb_in (tbq3 (List.mem_of_getElem? (i := 187) rfl)) (by decide +kernel), zTb_in (tbq1 (List.mem_of_getElem? (i := 7) rfl)) (by decide +kernel), by decide +kernel, by decide⟩
theorem zv_X0_waysBehind : zMv yX0_waysBehind := ⟨zTb_in (tbq3 (List.mem_of_getElem? (i := 186) rfl)) (by decide +kernel), zTb_in (tbq0 (List.mem_of_getElem? (i := 3) rfl)) (by decide +kernel)⟩
theorem zm_X1_isPeopled : zMe yX1_isPeopled cX1_isPeopled 3 (some .boolean) 1 := ⟨by decide +kernel, zTb_in (tbq3 (List.mem_of_getElem? (i := 191) rfl)) (by decide +kernel), zTb_in (tbq1 (List.mem_of_getElem? (i := 3) rfl)) (by decide +kernel), by decide +kernel, by decide⟩
theorem zv_X1_isPeopled : zMv yX1_isPeopled := ⟨zTb_in (tbq3 (List.mem_of_getElem? (i := 189) rfl)) (by decide +kernel), zTb_in (tbq3 (List.mem_of_getElem? (i := 190) rfl)) (by decide +kernel)⟩
theorem zm_X7_image : zMe yX7_image cX7_image 1 (some .int) 0 := ⟨by decide +kernel, zTb_in (tbq3 (List.mem_of_getElem? (i := 195) rfl)) (by decide +kernel), zTb_in (tbq1 (List.mem_of_getElem? (i := 1) rfl)) (by decide +kernel), by decide +kernel, by decide⟩
theorem zv_X7_image : zMv yX7_image := ⟨zTb_in (tbq3 (List.mem_of_getElem? (i := 193) rfl)) (by decide +kernel), zTb_in (tbq3 (List.mem_of_getElem? (i := 194) rfl)) (by decide +kernel)⟩
theorem zm_X6_setFrom : zMe yX6_setFrom cX6_setFrom 3 none 1 := ⟨by decide +kernel, zTb_in (tbq3 (List.mem_of_getElem? (i := 199) rfl)) (by decide +kernel), zTb_in (tbq1 (List.mem_of_getElem? (i := 2) rfl)) (by decide +kernel), by decide +kernel, by decide⟩
theorem zv_X6_setFrom : zMv yX6_setFrom := ⟨zTb_in (tbq3 (List.mem_of_getElem? (i := 197) rfl)) (by decide +kernel), zTb_in (tbq3 (List.mem_of_getElem? (i := 198) rfl)) (by decide +kernel)⟩
theorem zm_X7_restore : zMe yX7_restore cX7_restore 1 (some .int) 0 := ⟨by decide +kernel, zTb_in (tbq3 (List.mem_of_getElem? (i := 204) rfl)) (by decide +kernel), zTb_in (tbq1 (List.mem_of_getElem? (i := 1) rfl)) (by decide +kernel), by decide +kernel, by decide⟩
theorem zv_X7_restore : zMv yX7_restore := ⟨zTb_in (tbq3 (List.mem_of_getElem? (i := 202) rfl)) (by decide +kernel), zTb_in (tbq3 (List.mem_of_getElem? (i := 203) rfl)) (by decide +kernel)⟩
theorem zm_X7_seen : zMe yX7_seen cX7_seen 9 (some .int) 4 := ⟨by decide +kernel, zTb_in (tbq3 (List.mem_of_getElem? (i := 208) rfl)) (by decide +kernel), zTb_in (tbq1 (List.mem_of_getElem? (i := 1) rfl)) (by decide +kernel), by decide +kernel, by decide⟩
theorem zv_X7_seen : zMv yX7_seen := ⟨zTb_in (tbq3 (List.mem_of_getElem? (i := 206) rfl)) (by decide +kernel), zTb_in (tbq3 (List.mem_of_getElem? (i := 207) rfl)) (by decide +kernel)⟩
theorem zm_X7_rowFault : zMe yX7_rowFault cX7_rowFault 6 (some .int) 4 := ⟨by decide +kernel, zTb_in (tbq3 (List.mem_of_getElem? (i := 212) rfl)) (by decide +kernel), zTb_in (tbq1 (List.mem_of_getElem? (i := 1) rfl)) (by decide +kernel), by decide +kernel, by decide⟩
theorem zv_X7_rowFault : zMv yX7_rowFault := ⟨zTb_in (tbq3 (List.mem_of_getElem? (i := 211) rfl)) (by decide +kernel), zTb_in (tbq0 (List.mem_of_getElem? (i := 4) rfl)) (by decide +kernel)⟩
theorem zm_X2_hasRange : zMe yX2_hasRange cX2_hasRange 3 (some .boolean) 2 := ⟨by decide +kernel, zTb_in (tbq3 (List.mem_of_getElem? (i := 216) rfl)) (by decide +kernel), zTb_in (tbq1 (List.mem_of_getElem? (i := 8) rfl)) (by decide +kernel), by decide +kernel, by decide⟩
theorem zv_X2_hasRange : zMv yX2_hasRange := ⟨zTb_in (tbq3 (List.mem_of_getElem? (i := 214) rfl)) (by decide +kernel), zTb_in (tbq3 (List.mem_of_getElem? (i := 215) rfl)) (by decide +kernel)⟩
theorem zm_X1_mindsOf : zMe yX1_mindsOf cX1_mindsOf 5 (some .int) 2 := ⟨by decide +kernel, zTb_in (tbq3 (List.mem_of_getElem? (i := 220) rfl)) (by decide +kernel), zTb_in (tbq1 (List.mem_of_getElem? (i := 3) rfl)) (by decide +kernel), by decide +kernel, by decide⟩
theorem zv_X1_mindsOf : zMv yX1_mindsOf := ⟨zTb_in (tbq3 (List.mem_of_getElem? (i := 218) rfl)) (by decide +kernel), zTb_in (tbq3 (List.mem_of_getElem? (i := 219) rfl)) (by decide +kernel)⟩
theorem zm_X7_film : zMe yX7_film cX7_film 7 (some .int) 3 := ⟨by decide +kernel, zTb_in (tbq3 (List.mem_of_getElem? (i := 224) rfl)) (by decide +kernel), zTb_in (tbq1 (List.mem_of_getElem? (i := 1) rfl)) (by decide +kernel), by decide +kernel, by decide⟩
theorem zv_X7_film : zMv yX7_film := ⟨zTb_in (tbq3 (List.mem_of_getElem? (i := 222) rfl)) (by decide +kernel), zTb_in (tbq3 (List.mem_of_getElem? (i := 223) rfl)) (by decide +kernel)⟩
theorem zm_X2_put : zMe yX2_put cX2_put 4 none 2 := ⟨by decide +kernel, zTb_in (tbq3 (List.mem_of_getElem? (i := 229) rfl)) (by decide +kernel), zTb_in (tbq1 (List.mem_of_getElem? (i := 8) rfl)) (by decide +kernel), by decide +kernel, by decide⟩
theorem zv_X2_put : zMv yX2_put := ⟨zTb_in (tbq3 (List.mem_of_getElem? (i := 227) rfl)) (by decide +kernel), zTb_in (tbq3 (List.mem_of_getElem? (i := 228) rfl)) (by decide +kernel)⟩
theorem zm_X7_deal : zMe yX7_deal cX7_deal 10 (some .int) 3 := ⟨by decide +kernel, zTb_in (tbq3 (List.mem_of_getElem? (i := 233) rfl)) (by decide +kernel), zTb_in (tbq1 (List.mem_of_getElem? (i := 1) rfl)) (by decide +kernel), by decide +kernel, by decide⟩
theorem zv_X7_deal : zMv yX7_deal := ⟨zTb_in (tbq3 (List.mem_of_getElem? (i := 231) rfl)) (by decide +kernel), zTb_in (tbq3 (List.mem_of_getElem? (i := 232) rfl)) (by decide +kernel)⟩
theorem zm_X7_canDeal : zMe yX7_canDeal cX7_canDeal 7 (some .boolean) 3 := ⟨by decide +kernel, zTb_in (tbq3 (List.mem_of_getElem? (i := 237) rfl)) (by decide +kernel), zTb_in (tbq1 (List.mem_of_getElem? (i := 1) rfl)) (by decide +kernel), by decide +kernel, by decide⟩
theorem zv_X7_canDeal : zMv yX7_canDeal := ⟨zTb_in (tbq3 (List.mem_of_getElem? (i := 236) rfl)) (by decide +kernel), zTb_in (tbq0 (List.mem_of_getElem? (i := 5) rfl)) (by decide +kernel)⟩
theorem zm_X7_sheet : zMe yX7_sheet cX7_sheet 4 (some .int) 3 := ⟨by decide +kernel, zTb_in (tbq4 (List.mem_of_getElem? (i := 1) rfl)) (by decide +kernel), zTb_in (tbq1 (List.mem_of_getElem? (i := 1) rfl)) (by decide +kernel), by decide +kernel, by decide⟩
theorem zv_X7_sheet : zMv yX7_sheet := ⟨zTb_in (tbq3 (List.mem_of_getElem? (i := 239) rfl)) (by decide +kernel), zTb_in (tbq4 (List.mem_of_getElem? (i := 0) rfl)) (by decide +kernel)⟩
theorem zm_X2_renew : zMe yX2_renew cX2_renew 3 none 2 := ⟨by decide +kernel, zTb_in (tbq4 (List.mem_of_getElem? (i := 5) rfl)) (by decide +kernel), zTb_in (tbq1 (List.mem_of_getElem? (i := 8) rfl)) (by decide +kernel), by decide +kernel, by decide⟩
theorem zv_X2_renew : zMv yX2_renew := ⟨zTb_in (tbq4 (List.mem_of_getElem? (i := 3) rfl)) (by decide +kernel), zTb_in (tbq4 (List.mem_of_getElem? (i := 4) rfl)) (by decide +kernel)⟩
theorem zm_J7_fill_d0a16 : zMe yJ7_fill_d0a16 cJ7_fill_d0a16 5 none 2 := ⟨by decide +kernel, zTb_in (tbq4 (List.mem_of_getElem? (i := 8) rfl)) (by decide +kernel), zTb_in (tbq1 (List.mem_of_getElem? (i := 17) rfl)) (by decide +kernel), by decide +kernel, by decide⟩
theorem zst_J7_fill_d0a16 : Cond.static yJ7_fill_d0a16 ∈ zTb := zTb_in (tbq4 (List.mem_of_getElem? (i := 7) rfl)) (by decide +kernel)
theorem zm_X7_drop : zMe yX7_drop cX7_drop 2 (some .int) 1 := ⟨by decide +kernel, zTb_in (tbq4 (List.mem_of_getElem? (i := 12) rfl)) (by decide +kernel), zTb_in (tbq1 (List.mem_of_getElem? (i := 1) rfl)) (by decide +kernel), by decide +kernel, by decide⟩
theorem zv_X7_drop : zMv yX7_drop := ⟨zTb_in (tbq4 (List.mem_of_getElem? (i := 10) rfl)) (by decide +kernel), zTb_in (tbq4 (List.mem_of_getElem? (i := 11) rfl)) (by decide +kernel)⟩
theorem zm_X7_item : zMe yX7_item cX7_item 7 (some .int) 4 := ⟨by decide +kernel, zTb_in (tbq4 (List.mem_of_getElem? (i := 16) rfl)) (by decide +kernel), zTb_in (tbq1 (List.mem_of_getElem? (i := 1) rfl)) (by decide +kernel), by decide +kernel, by decide⟩
theorem zv_X7_item : zMv yX7_item := ⟨zTb_in (tbq4 (List.mem_of_getElem? (i := 14) rfl)) (by decide +kernel), zTb_in (tbq4 (List.mem_of_getElem? (i := 15) rfl)) (by decide +kernel)⟩
theorem zm_X7_copy : zMe yX7_copy cX7_copy 8 (some .int) 5 := ⟨by decide +kernel, zTb_in (tbq4 (List.mem_of_getElem? (i := 20) rfl)) (by decide +kernel), zTb_in (tbq1 (List.mem_of_getElem? (i := 1) rfl)) (by decide +kernel), by decide +kernel, by decide⟩
theorem zv_X7_copy : zMv yX7_copy := ⟨zTb_in (tbq4 (List.mem_of_getElem? (i := 18) rfl)) (by decide +kernel), zTb_in (tbq4 (List.mem_of_getElem? (i := 19) rfl)) (by decide +kernel)⟩
theorem zm_X8_starts : zMe yX8_starts cX8_starts 2 none 0 := ⟨by decide +kernel, zTb_in (tbq4 (List.mem_of_getElem? (i := 31) rfl)) (by decide +kernel), zTb_in (tbq1 (List.mem_of_getElem? (i := 9) rfl)) (by decide +kernel), by decide +kernel, by decide⟩
theorem zv_X8_starts : zMv yX8_starts := ⟨zTb_in (tbq4 (List.mem_of_getElem? (i := 30) rfl)) (by decide +kernel), zTb_in (tbq0 (List.mem_of_getElem? (i := 6) rfl)) (by decide +kernel)⟩
theorem zm_X8_thing : zMe yX8_thing cX8_thing 5 (some .int) 4 := ⟨by decide +kernel, zTb_in (tbq4 (List.mem_of_getElem? (i := 126) rfl)) (by decide +kernel), zTb_in (tbq1 (List.mem_of_getElem? (i := 9) rfl)) (by decide +kernel), by decide +kernel, by decide⟩
theorem zv_X8_thing : zMv yX8_thing := ⟨zTb_in (tbq4 (List.mem_of_getElem? (i := 124) rfl)) (by decide +kernel), zTb_in (tbq4 (List.mem_of_getElem? (i := 125) rfl)) (by decide +kernel)⟩
theorem zm_X8_in : zMe yX8_in cX8_in 6 (some .boolean) 3 := ⟨by decide +kernel, zTb_in (tbq4 (List.mem_of_getElem? (i := 130) rfl)) (by decide +kernel), zTb_in (tbq1 (List.mem_of_getElem? (i := 9) rfl)) (by decide +kernel), by decide +kernel, by decide⟩
theorem zst_X8_in : Cond.static yX8_in ∈ zTb := zTb_in (tbq4 (List.mem_of_getElem? (i := 129) rfl)) (by decide +kernel)
theorem zm_X8_thingComes : zMe yX8_thingComes cX8_thingComes 5 none 4 := ⟨by decide +kernel, zTb_in (tbq4 (List.mem_of_getElem? (i := 136) rfl)) (by decide +kernel), zTb_in (tbq1 (List.mem_of_getElem? (i := 9) rfl)) (by decide +kernel), by decide +kernel, by decide⟩
theorem zv_X8_thingComes : zMv yX8_thingComes := ⟨zTb_in (tbq4 (List.mem_of_getElem? (i := 135) rfl)) (by decide +kernel), zTb_in (tbq0 (List.mem_of_getElem? (i := 7) rfl)) (by decide +kernel)⟩
theorem zm_X8_of : zMe yX8_of cX8_of 3 (some .int) 2 := ⟨by decide +kernel, zTb_in (tbq4 (List.mem_of_getElem? (i := 140) rfl)) (by decide +kernel), zTb_in (tbq1 (List.mem_of_getElem? (i := 9) rfl)) (by decide +kernel), by decide +kernel, by decide⟩
theorem zv_X8_of : zMv yX8_of := ⟨zTb_in (tbq4 (List.mem_of_getElem? (i := 138) rfl)) (by decide +kernel), zTb_in (tbq4 (List.mem_of_getElem? (i := 139) rfl)) (by decide +kernel)⟩
theorem zm_X8_isThing : zMe yX8_isThing cX8_isThing 3 (some .boolean) 1 := ⟨by decide +kernel, zTb_in (tbq4 (List.mem_of_getElem? (i := 144) rfl)) (by decide +kernel), zTb_in (tbq1 (List.mem_of_getElem? (i := 9) rfl)) (by decide +kernel), by decide +kernel, by decide⟩
theorem zv_X8_isThing : zMv yX8_isThing := ⟨zTb_in (tbq4 (List.mem_of_getElem? (i := 143) rfl)) (by decide +kernel), zTb_in (tbq0 (List.mem_of_getElem? (i := 8) rfl)) (by decide +kernel)⟩
theorem zm_X8_who : zMe yX8_who cX8_who 4 (some .int) 1 := ⟨by decide +kernel, zTb_in (tbq4 (List.mem_of_getElem? (i := 149) rfl)) (by decide +kernel), zTb_in (tbq1 (List.mem_of_getElem? (i := 9) rfl)) (by decide +kernel), by decide +kernel, by decide⟩
theorem zv_X8_who : zMv yX8_who := ⟨zTb_in (tbq4 (List.mem_of_getElem? (i := 148) rfl)) (by decide +kernel), zTb_in (tbq0 (List.mem_of_getElem? (i := 9) rfl)) (by decide +kernel)⟩
theorem zm_X8_felt : zMe yX8_felt cX8_felt 4 (some .int) 3 := ⟨by decide +kernel, zTb_in (tbq4 (List.mem_of_getElem? (i := 153) rfl)) (by decide +kernel), zTb_in (tbq1 (List.mem_of_getElem? (i := 9) rfl)) (by decide +kernel), by decide +kernel, by decide⟩
theorem zv_X8_felt : zMv yX8_felt := ⟨zTb_in (tbq4 (List.mem_of_getElem? (i := 151) rfl)) (by decide +kernel), zTb_in (tbq4 (List.mem_of_getElem? (i := 152) rfl)) (by decide +kernel)⟩
theorem zm_X8_feels : zMe yX8_feels cX8_feels 5 (some .int) 3 := ⟨by decide +kernel, zTb_in (tbq4 (List.mem_of_getElem? (i := 157) rfl)) (by decide +kernel), zTb_in (tbq1 (List.mem_of_getElem? (i := 9) rfl)) (by decide +kernel), by decide +kernel, by decide⟩
theorem zv_X8_feels : zMv yX8_feels := ⟨zTb_in (tbq4 (List.mem_of_getElem? (i := 156) rfl)) (by decide +kernel), zTb_in (tbq0 (List.mem_of_getElem? (i := 10) rfl)) (by decide +kernel)⟩
theorem zm_X8_person : zMe yX8_person cX8_person 4 (some .int) 3 := ⟨by decide +kernel, zTb_in (tbq4 (List.mem_of_getElem? (i := 161) rfl)) (by decide +kernel), zTb_in (tbq1 (List.mem_of_getElem? (i := 9) rfl)) (by decide +kernel), by decide +kernel, by decide⟩
theorem zv_X8_person : zMv yX8_person := ⟨zTb_in (tbq4 (List.mem_of_getElem? (i := 159) rfl)) (by decide +kernel), zTb_in (tbq4 (List.mem_of_getElem? (i := 160) rfl)) (by decide +kernel)⟩
theorem zm_X8_personComes : zMe yX8_personComes cX8_personComes 4 none 3 := ⟨by decide +kernel, zTb_in (tbq4 (List.mem_of_getElem? (i := 167) rfl)) (by decide +kernel), zTb_in (tbq1 (List.mem_of_getElem? (i := 9) rfl)) (by decide +kernel), by decide +kernel, by decide⟩
theorem zv_X8_personComes : zMv yX8_personComes := ⟨zTb_in (tbq4 (List.mem_of_getElem? (i := 166) rfl)) (by decide +kernel), zTb_in (tbq0 (List.mem_of_getElem? (i := 11) rfl)) (by decide +kernel)⟩
theorem zm_X8_told : zMe yX8_told cX8_told 3 (some .int) 2 := ⟨by decide +kernel, zTb_in (tbq4 (List.mem_of_getElem? (i := 171) rfl)) (by decide +kernel), zTb_in (tbq1 (List.mem_of_getElem? (i := 9) rfl)) (by decide +kernel), by decide +kernel, by decide⟩
theorem zv_X8_told : zMv yX8_told := ⟨zTb_in (tbq4 (List.mem_of_getElem? (i := 169) rfl)) (by decide +kernel), zTb_in (tbq4 (List.mem_of_getElem? (i := 170) rfl)) (by decide +kernel)⟩
theorem zm_X8_isPerson : zMe yX8_isPerson cX8_isPerson 2 (some .boolean) 1 := ⟨by decide +kernel, zTb_in (tbq4 (List.mem_of_getElem? (i := 175) rfl)) (by decide +kernel), zTb_in (tbq1 (List.mem_of_getElem? (i := 9) rfl)) (by decide +kernel), by decide +kernel, by decide⟩
theorem zv_X8_isPerson : zMv yX8_isPerson := ⟨zTb_in (tbq4 (List.mem_of_getElem? (i := 174) rfl)) (by decide +kernel), zTb_in (tbq0 (List.mem_of_getElem? (i := 12) rfl)) (by decide +kernel)⟩
theorem zm_X8_move : zMe yX8_move cX8_move 4 (some .int) 2 := ⟨by decide +kernel, zTb_in (tbq4 (List.mem_of_getElem? (i := 180) rfl)) (by decide +kernel), zTb_in (tbq1 (List.mem_of_getElem? (i := 9) rfl)) (by decide +kernel), by decide +kernel, by decide⟩
theorem zv_X8_move : zMv yX8_move := ⟨zTb_in (tbq4 (List.mem_of_getElem? (i := 178) rfl)) (by decide +kernel), zTb_in (tbq4 (List.mem_of_getElem? (i := 179) rfl)) (by decide +kernel)⟩
theorem zm_X8_take : zMe yX8_take cX8_take 3 (some .int) 1 := ⟨by decide +kernel, zTb_in (tbq4 (List.mem_of_getElem? (i := 184) rfl)) (by decide +kernel), zTb_in (tbq1 (List.mem_of_getElem? (i := 9) rfl)) (by decide +kernel), by decide +kernel, by decide⟩
theorem zv_X8_take : zMv yX8_take := ⟨zTb_in (tbq4 (List.mem_of_getElem? (i := 182) rfl)) (by decide +kernel), zTb_in (tbq4 (List.mem_of_getElem? (i := 183) rfl)) (by decide +kernel)⟩
theorem zm_X8_count : zMe yX8_count cX8_count 2 (some .int) 1 := ⟨by decide +kernel, zTb_in (tbq4 (List.mem_of_getElem? (i := 188) rfl)) (by decide +kernel), zTb_in (tbq1 (List.mem_of_getElem? (i := 9) rfl)) (by decide +kernel), by decide +kernel, by decide⟩
theorem zv_X8_count : zMv yX8_count := ⟨zTb_in (tbq4 (List.mem_of_getElem? (i := 186) rfl)) (by decide +kernel), zTb_in (tbq4 (List.mem_of_getElem? (i := 187) rfl)) (by decide +kernel)⟩
theorem zm_X8_heed : zMe yX8_heed cX8_heed 3 (some .int) 1 := ⟨by decide +kernel, zTb_in (tbq4 (List.mem_of_getElem? (i := 192) rfl)) (by decide +kernel), zTb_in (tbq1 (List.mem_of_getElem? (i := 9) rfl)) (by decide +kernel), by decide +kernel, by decide⟩
theorem zv_X8_heed : zMv yX8_heed := ⟨zTb_in (tbq4 (List.mem_of_getElem? (i := 190) rfl)) (by decide +kernel), zTb_in (tbq4 (List.mem_of_getElem? (i := 191) rfl)) (by decide +kernel)⟩
theorem zm_X8_well : zMe yX8_well cX8_well 3 (some .int) 1 := ⟨by decide +kernel, zTb_in (tbq4 (List.mem_of_getElem? (i := 196) rfl)) (by decide +kernel), zTb_in (tbq1 (List.mem_of_getElem? (i := 9) rfl)) (by decide +kernel), by decide +kernel, by decide⟩
theorem zv_X8_well : zMv yX8_well := ⟨zTb_in (tbq4 (List.mem_of_getElem? (i := 194) rfl)) (by decide +kernel), zTb_in (tbq4 (List.mem_of_getElem? (i := 195) rfl)) (by decide +kernel)⟩
theorem zm_X8_type : zMe yX8_type cX8_type 2 (some .int) 1 := ⟨by decide +kernel, zTb_in (tbq4 (List.mem_of_getElem? (i := 200) rfl)) (by decide +kernel), zTb_in (tbq1 (List.mem_of_getElem? (i := 9) rfl)) (by decide +kernel), by decide +kernel, by decide⟩
theorem zv_X8_type : zMv yX8_type := ⟨zTb_in (tbq4 (List.mem_of_getElem? (i := 198) rfl)) (by decide +kernel), zTb_in (tbq4 (List.mem_of_getElem? (i := 199) rfl)) (by decide +kernel)⟩
theorem zm_X8_road : zMe yX8_road cX8_road 3 (some .int) 0 := ⟨by decide +kernel, zTb_in (tbq4 (List.mem_of_getElem? (i := 206) rfl)) (by decide +kernel), zTb_in (tbq1 (List.mem_of_getElem? (i := 9) rfl)) (by decide +kernel), by decide +kernel, by decide⟩
theorem zv_X8_road : zMv yX8_road := ⟨zTb_in (tbq4 (List.mem_of_getElem? (i := 204) rfl)) (by decide +kernel), zTb_in (tbq4 (List.mem_of_getElem? (i := 205) rfl)) (by decide +kernel)⟩
theorem zm_X8_readThing : zMe yX8_readThing cX8_readThing 3 none 0 := ⟨by decide +kernel, zTb_in (tbq4 (List.mem_of_getElem? (i := 210) rfl)) (by decide +kernel), zTb_in (tbq1 (List.mem_of_getElem? (i := 9) rfl)) (by decide +kernel), by decide +kernel, by decide⟩
theorem zv_X8_readThing : zMv yX8_readThing := ⟨zTb_in (tbq4 (List.mem_of_getElem? (i := 209) rfl)) (by decide +kernel), zTb_in (tbq0 (List.mem_of_getElem? (i := 13) rfl)) (by decide +kernel)⟩
theorem zm_X8_here : zMe yX8_here cX8_here 1 (some .int) 0 := ⟨by decide +kernel, zTb_in (tbq4 (List.mem_of_getElem? (i := 214) rfl)) (by decide +kernel), zTb_in (tbq1 (List.mem_of_getElem? (i := 9) rfl)) (by decide +kernel), by decide +kernel, by decide⟩
theorem zv_X8_here : zMv yX8_here := ⟨zTb_in (tbq4 (List.mem_of_getElem? (i := 213) rfl)) (by decide +kernel), zTb_in (tbq0 (List.mem_of_getElem? (i := 14) rfl)) (by decide +kernel)⟩
theorem zm_X8_number : zMe yX8_number cX8_number 4 (some .int) 1 := ⟨by decide +kernel, zTb_in (tbq4 (List.mem_of_getElem? (i := 218) rfl)) (by decide +kernel), zTb_in (tbq1 (List.mem_of_getElem? (i := 9) rfl)) (by decide +kernel), by decide +kernel, by decide⟩
theorem zv_X8_number : zMv yX8_number := ⟨zTb_in (tbq4 (List.mem_of_getElem? (i := 217) rfl)) (by decide +kernel), zTb_in (tbq0 (List.mem_of_getElem? (i := 15) rfl)) (by decide +kernel)⟩
theorem zm_X8_has : zMe yX8_has cX8_has 3 (some .boolean) 1 := ⟨by decide +kernel, zTb_in (tbq4 (List.mem_of_getElem? (i := 224) rfl)) (by decide +kernel), zTb_in (tbq1 (List.mem_of_getElem? (i := 9) rfl)) (by decide +kernel), by decide +kernel, by decide⟩
theorem zv_X8_has : zMv yX8_has := ⟨zTb_in (tbq4 (List.mem_of_getElem? (i := 223) rfl)) (by decide +kernel), zTb_in (tbq0 (List.mem_of_getElem? (i := 16) rfl)) (by decide +kernel)⟩
theorem zm_X8_readPerson : zMe yX8_readPerson cX8_readPerson 2 none 0 := ⟨by decide +kernel, zTb_in (tbq4 (List.mem_of_getElem? (i := 228) rfl)) (by decide +kernel), zTb_in (tbq1 (List.mem_of_getElem? (i := 9) rfl)) (by decide +kernel), by decide +kernel, by decide⟩
theorem zv_X8_readPerson : zMv yX8_readPerson := ⟨zTb_in (tbq4 (List.mem_of_getElem? (i := 227) rfl)) (by decide +kernel), zTb_in (tbq0 (List.mem_of_getElem? (i := 17) rfl)) (by decide +kernel)⟩
theorem zm_X8_readHad : zMe yX8_readHad cX8_readHad 3 (some .int) 0 := ⟨by decide +kernel, zTb_in (tbq4 (List.mem_of_getElem? (i := 232) rfl)) (by decide +kernel), zTb_in (tbq1 (List.mem_of_getElem? (i := 9) rfl)) (by decide +kernel), by decide +kernel, by decide⟩
theorem zv_X8_readHad : zMv yX8_readHad := ⟨zTb_in (tbq4 (List.mem_of_getElem? (i := 231) rfl)) (by decide +kernel), zTb_in (tbq0 (List.mem_of_getElem? (i := 18) rfl)) (by decide +kernel)⟩
theorem zm_X8_go : zMe yX8_go cX8_go 2 (some .int) 0 := ⟨by decide +kernel, zTb_in (tbq4 (List.mem_of_getElem? (i := 236) rfl)) (by decide +kernel), zTb_in (tbq1 (List.mem_of_getElem? (i := 9) rfl)) (by decide +kernel), by decide +kernel, by decide⟩
theorem zv_X8_go : zMv yX8_go := ⟨zTb_in (tbq4 (List.mem_of_getElem? (i := 234) rfl)) (by decide +kernel), zTb_in (tbq4 (List.mem_of_getElem? (i := 235) rfl)) (by decide +kernel)⟩
theorem zm_X8_notes : zMe yX8_notes cX8_notes 2 none 0 := ⟨by decide +kernel, zTb_in (tbq5 (List.mem_of_getElem? (i := 0) rfl)) (by decide +kernel), zTb_in (tbq1 (List.mem_of_getElem? (i := 9) rfl)) (by decide +kernel), by decide +kernel, by decide⟩
theorem zv_X8_notes : zMv yX8_notes := ⟨zTb_in (tbq4 (List.mem_of_getElem? (i := 239) rfl)) (by decide +kernel), zTb_in (tbq0 (List.mem_of_getElem? (i := 19) rfl)) (by decide +kernel)⟩
theorem zm_X8_goesOn : zMe yX8_goesOn cX8_goesOn 3 none 0 := ⟨by decide +kernel, zTb_in (tbq5 (List.mem_of_getElem? (i := 4) rfl)) (by decide +kernel), zTb_in (tbq1 (List.mem_of_getElem? (i := 9) rfl)) (by decide +kernel), by decide +kernel, by decide⟩
theorem zv_X8_goesOn : zMv yX8_goesOn := ⟨zTb_in (tbq5 (List.mem_of_getElem? (i := 3) rfl)) (by decide +kernel), zTb_in (tbq0 (List.mem_of_getElem? (i := 20) rfl)) (by decide +kernel)⟩
theorem zm_X8_own : zMe yX8_own cX8_own 2 (some .int) 1 := ⟨by decide +kernel, zTb_in (tbq5 (List.mem_of_getElem? (i := 8) rfl)) (by decide +kernel), zTb_in (tbq1 (List.mem_of_getElem? (i := 9) rfl)) (by decide +kernel), by decide +kernel, by decide⟩
theorem zv_X8_own : zMv yX8_own := ⟨zTb_in (tbq5 (List.mem_of_getElem? (i := 7) rfl)) (by decide +kernel), zTb_in (tbq0 (List.mem_of_getElem? (i := 21) rfl)) (by decide +kernel)⟩
theorem zm_X8_care : zMe yX8_care cX8_care 3 (some .int) 2 := ⟨by decide +kernel, zTb_in (tbq5 (List.mem_of_getElem? (i := 12) rfl)) (by decide +kernel), zTb_in (tbq1 (List.mem_of_getElem? (i := 9) rfl)) (by decide +kernel), by decide +kernel, by decide⟩
theorem zv_X8_care : zMv yX8_care := ⟨zTb_in (tbq5 (List.mem_of_getElem? (i := 11) rfl)) (by decide +kernel), zTb_in (tbq0 (List.mem_of_getElem? (i := 22) rfl)) (by decide +kernel)⟩
theorem zm_X8_asks : zMe yX8_asks cX8_asks 4 none 2 := ⟨by decide +kernel, zTb_in (tbq5 (List.mem_of_getElem? (i := 16) rfl)) (by decide +kernel), zTb_in (tbq1 (List.mem_of_getElem? (i := 9) rfl)) (by decide +kernel), by decide +kernel, by decide⟩
theorem zv_X8_asks : zMv yX8_asks := ⟨zTb_in (tbq5 (List.mem_of_getElem? (i := 15) rfl)) (by decide +kernel), zTb_in (tbq0 (List.mem_of_getElem? (i := 23) rfl)) (by decide +kernel)⟩
theorem zm_X8_isGlad : zMe yX8_isGlad cX8_isGlad 2 (some .boolean) 1 := ⟨by decide +kernel, zTb_in (tbq5 (List.mem_of_getElem? (i := 20) rfl)) (by decide +kernel), zTb_in (tbq1 (List.mem_of_getElem? (i := 9) rfl)) (by decide +kernel), by decide +kernel, by decide⟩
theorem zv_X8_isGlad : zMv yX8_isGlad := ⟨zTb_in (tbq5 (List.mem_of_getElem? (i := 19) rfl)) (by decide +kernel), zTb_in (tbq0 (List.mem_of_getElem? (i := 24) rfl)) (by decide +kernel)⟩
theorem zm_X8_worth : zMe yX8_worth cX8_worth 2 (some .int) 1 := ⟨by decide +kernel, zTb_in (tbq5 (List.mem_of_getElem? (i := 24) rfl)) (by decide +kernel), zTb_in (tbq1 (List.mem_of_getElem? (i := 9) rfl)) (by decide +kernel), by decide +kernel, by decide⟩
theorem zv_X8_worth : zMv yX8_worth := ⟨zTb_in (tbq5 (List.mem_of_getElem? (i := 23) rfl)) (by decide +kernel), zTb_in (tbq0 (List.mem_of_getElem? (i := 25) rfl)) (by decide +kernel)⟩
theorem zm_X8_undo : zMe yX8_undo cX8_undo 2 (some .int) 0 := ⟨by decide +kernel, zTb_in (tbq5 (List.mem_of_getElem? (i := 28) rfl)) (by decide +kernel), zTb_in (tbq1 (List.mem_of_getElem? (i := 9) rfl)) (by decide +kernel), by decide +kernel, by decide⟩
theorem zv_X8_undo : zMv yX8_undo := ⟨zTb_in (tbq5 (List.mem_of_getElem? (i := 26) rfl)) (by decide +kernel), zTb_in (tbq5 (List.mem_of_getElem? (i := 27) rfl)) (by decide +kernel)⟩
theorem zm_X8_again : zMe yX8_again cX8_again 2 (some .int) 0 := ⟨by decide +kernel, zTb_in (tbq5 (List.mem_of_getElem? (i := 32) rfl)) (by decide +kernel), zTb_in (tbq1 (List.mem_of_getElem? (i := 9) rfl)) (by decide +kernel), by decide +kernel, by decide⟩
theorem zv_X8_again : zMv yX8_again := ⟨zTb_in (tbq5 (List.mem_of_getElem? (i := 30) rfl)) (by decide +kernel), zTb_in (tbq5 (List.mem_of_getElem? (i := 31) rfl)) (by decide +kernel)⟩
theorem zm_X8_glad : zMe yX8_glad cX8_glad 2 (some .int) 1 := ⟨by decide +kernel, zTb_in (tbq5 (List.mem_of_getElem? (i := 36) rfl)) (by decide +kernel), zTb_in (tbq1 (List.mem_of_getElem? (i := 9) rfl)) (by decide +kernel), by decide +kernel, by decide⟩
theorem zv_X8_glad : zMv yX8_glad := ⟨zTb_in (tbq5 (List.mem_of_getElem? (i := 34) rfl)) (by decide +kernel), zTb_in (tbq5 (List.mem_of_getElem? (i := 35) rfl)) (by decide +kernel)⟩
theorem zm_X8_home : zMe yX8_home cX8_home 3 (some .int) 1 := ⟨by decide +kernel, zTb_in (tbq5 (List.mem_of_getElem? (i := 40) rfl)) (by decide +kernel), zTb_in (tbq1 (List.mem_of_getElem? (i := 9) rfl)) (by decide +kernel), by decide +kernel, by decide⟩
theorem zv_X8_home : zMv yX8_home := ⟨zTb_in (tbq5 (List.mem_of_getElem? (i := 38) rfl)) (by decide +kernel), zTb_in (tbq5 (List.mem_of_getElem? (i := 39) rfl)) (by decide +kernel)⟩
theorem zm_X8_asides : zMe yX8_asides cX8_asides 2 none 0 := ⟨by decide +kernel, zTb_in (tbq5 (List.mem_of_getElem? (i := 44) rfl)) (by decide +kernel), zTb_in (tbq1 (List.mem_of_getElem? (i := 9) rfl)) (by decide +kernel), by decide +kernel, by decide⟩
theorem zv_X8_asides : zMv yX8_asides := ⟨zTb_in (tbq5 (List.mem_of_getElem? (i := 43) rfl)) (by decide +kernel), zTb_in (tbq0 (List.mem_of_getElem? (i := 26) rfl)) (by decide +kernel)⟩
theorem zm_X8_goesHome : zMe yX8_goesHome cX8_goesHome 1 none 0 := ⟨by decide +kernel, zTb_in (tbq5 (List.mem_of_getElem? (i := 48) rfl)) (by decide +kernel), zTb_in (tbq1 (List.mem_of_getElem? (i := 9) rfl)) (by decide +kernel), by decide +kernel, by decide⟩
theorem zv_X8_goesHome : zMv yX8_goesHome := ⟨zTb_in (tbq5 (List.mem_of_getElem? (i := 47) rfl)) (by decide +kernel), zTb_in (tbq0 (List.mem_of_getElem? (i := 27) rfl)) (by decide +kernel)⟩
theorem zm_X8_backs : zMe yX8_backs cX8_backs 2 none 0 := ⟨by decide +kernel, zTb_in (tbq5 (List.mem_of_getElem? (i := 52) rfl)) (by decide +kernel), zTb_in (tbq1 (List.mem_of_getElem? (i := 9) rfl)) (by decide +kernel), by decide +kernel, by decide⟩
theorem zv_X8_backs : zMv yX8_backs := ⟨zTb_in (tbq5 (List.mem_of_getElem? (i := 51) rfl)) (by decide +kernel), zTb_in (tbq0 (List.mem_of_getElem? (i := 28) rfl)) (by decide +kernel)⟩
theorem zm_X8_lost : zMe yX8_lost cX8_lost 2 (some .int) 0 := ⟨by decide +kernel, zTb_in (tbq5 (List.mem_of_getElem? (i := 56) rfl)) (by decide +kernel), zTb_in (tbq1 (List.mem_of_getElem? (i := 9) rfl)) (by decide +kernel), by decide +kernel, by decide⟩
theorem zv_X8_lost : zMv yX8_lost := ⟨zTb_in (tbq5 (List.mem_of_getElem? (i := 54) rfl)) (by decide +kernel), zTb_in (tbq5 (List.mem_of_getElem? (i := 55) rfl)) (by decide +kernel)⟩
theorem zm_X8_lurk : zMe yX8_lurk cX8_lurk 9 (some .int) 2 := ⟨by decide +kernel, zTb_in (tbq5 (List.mem_of_getElem? (i := 60) rfl)) (by decide +kernel), zTb_in (tbq1 (List.mem_of_getElem? (i := 9) rfl)) (by decide +kernel), by decide +kernel, by decide⟩
theorem zv_X8_lurk : zMv yX8_lurk := ⟨zTb_in (tbq5 (List.mem_of_getElem? (i := 58) rfl)) (by decide +kernel), zTb_in (tbq5 (List.mem_of_getElem? (i := 59) rfl)) (by decide +kernel)⟩
theorem zm_X8_stand : zMe yX8_stand cX8_stand 8 (some .int) 2 := ⟨by decide +kernel, zTb_in (tbq5 (List.mem_of_getElem? (i := 64) rfl)) (by decide +kernel), zTb_in (tbq1 (List.mem_of_getElem? (i := 9) rfl)) (by decide +kernel), by decide +kernel, by decide⟩
theorem zv_X8_stand : zMv yX8_stand := ⟨zTb_in (tbq5 (List.mem_of_getElem? (i := 62) rfl)) (by decide +kernel), zTb_in (tbq5 (List.mem_of_getElem? (i := 63) rfl)) (by decide +kernel)⟩
theorem zm_X8_sister : zMe yX8_sister cX8_sister 4 (some .int) 2 := ⟨by decide +kernel, zTb_in (tbq5 (List.mem_of_getElem? (i := 68) rfl)) (by decide +kernel), zTb_in (tbq1 (List.mem_of_getElem? (i := 9) rfl)) (by decide +kernel), by decide +kernel, by decide⟩
theorem zv_X8_sister : zMv yX8_sister := ⟨zTb_in (tbq5 (List.mem_of_getElem? (i := 66) rfl)) (by decide +kernel), zTb_in (tbq5 (List.mem_of_getElem? (i := 67) rfl)) (by decide +kernel)⟩
theorem zm_X8_sisters : zMe yX8_sisters cX8_sisters 13 (some .int) 2 := ⟨by decide +kernel, zTb_in (tbq5 (List.mem_of_getElem? (i := 72) rfl)) (by decide +kernel), zTb_in (tbq1 (List.mem_of_getElem? (i := 9) rfl)) (by decide +kernel), by decide +kernel, by decide⟩
theorem zv_X8_sisters : zMv yX8_sisters := ⟨zTb_in (tbq5 (List.mem_of_getElem? (i := 71) rfl)) (by decide +kernel), zTb_in (tbq0 (List.mem_of_getElem? (i := 29) rfl)) (by decide +kernel)⟩
theorem zm_X8_meet : zMe yX8_meet cX8_meet 6 (some .int) 2 := ⟨by decide +kernel, zTb_in (tbq5 (List.mem_of_getElem? (i := 76) rfl)) (by decide +kernel), zTb_in (tbq1 (List.mem_of_getElem? (i := 9) rfl)) (by decide +kernel), by decide +kernel, by decide⟩
theorem zv_X8_meet : zMv yX8_meet := ⟨zTb_in (tbq5 (List.mem_of_getElem? (i := 74) rfl)) (by decide +kernel), zTb_in (tbq5 (List.mem_of_getElem? (i := 75) rfl)) (by decide +kernel)⟩
theorem zm_X8_turns : zMe yX8_turns cX8_turns 8 (some .boolean) 2 := ⟨by decide +kernel, zTb_in (tbq5 (List.mem_of_getElem? (i := 80) rfl)) (by decide +kernel), zTb_in (tbq1 (List.mem_of_getElem? (i := 9) rfl)) (by decide +kernel), by decide +kernel, by decide⟩
theorem zv_X8_turns : zMv yX8_turns := ⟨zTb_in (tbq5 (List.mem_of_getElem? (i := 79) rfl)) (by decide +kernel), zTb_in (tbq0 (List.mem_of_getElem? (i := 30) rfl)) (by decide +kernel)⟩
theorem zm_X8_first : zMe yX8_first cX8_first 4 (some .int) 1 := ⟨by decide +kernel, zTb_in (tbq5 (List.mem_of_getElem? (i := 84) rfl)) (by decide +kernel), zTb_in (tbq1 (List.mem_of_getElem? (i := 9) rfl)) (by decide +kernel), by decide +kernel, by decide⟩
theorem zv_X8_first : zMv yX8_first := ⟨zTb_in (tbq5 (List.mem_of_getElem? (i := 82) rfl)) (by decide +kernel), zTb_in (tbq5 (List.mem_of_getElem? (i := 83) rfl)) (by decide +kernel)⟩
theorem zm_X8_cheated : zMe yX8_cheated cX8_cheated 8 (some .int) 1 := ⟨by decide +kernel, zTb_in (tbq5 (List.mem_of_getElem? (i := 88) rfl)) (by decide +kernel), zTb_in (tbq1 (List.mem_of_getElem? (i := 9) rfl)) (by decide +kernel), by decide +kernel, by decide⟩
theorem zv_X8_cheated : zMv yX8_cheated := ⟨zTb_in (tbq5 (List.mem_of_getElem? (i := 86) rfl)) (by decide +kernel), zTb_in (tbq5 (List.mem_of_getElem? (i := 87) rfl)) (by decide +kernel)⟩
theorem zm_X8_chance : zMe yX8_chance cX8_chance 6 (some .int) 2 := ⟨by decide +kernel, zTb_in (tbq5 (List.mem_of_getElem? (i := 94) rfl)) (by decide +kernel), zTb_in (tbq1 (List.mem_of_getElem? (i := 9) rfl)) (by decide +kernel), by decide +kernel, by decide⟩
theorem zv_X8_chance : zMv yX8_chance := ⟨zTb_in (tbq5 (List.mem_of_getElem? (i := 92) rfl)) (by decide +kernel), zTb_in (tbq5 (List.mem_of_getElem? (i := 93) rfl)) (by decide +kernel)⟩
theorem zm_X8_image : zMe yX8_image cX8_image 2 (some .int) 0 := ⟨by decide +kernel, zTb_in (tbq5 (List.mem_of_getElem? (i := 98) rfl)) (by decide +kernel), zTb_in (tbq1 (List.mem_of_getElem? (i := 9) rfl)) (by decide +kernel), by decide +kernel, by decide⟩
theorem zv_X8_image : zMv yX8_image := ⟨zTb_in (tbq5 (List.mem_of_getElem? (i := 96) rfl)) (by decide +kernel), zTb_in (tbq5 (List.mem_of_getElem? (i := 97) rfl)) (by decide +kernel)⟩
theorem zm_X8_notesRow : zMe yX8_notesRow cX8_notesRow 4 (some .int) 2 := ⟨by decide +kernel, zTb_in (tbq5 (List.mem_of_getElem? (i := 102) rfl)) (by decide +kernel), zTb_in (tbq1 (List.mem_of_getElem? (i := 9) rfl)) (by decide +kernel), by decide +kernel, by decide⟩
theorem zv_X8_notesRow : zMv yX8_notesRow := ⟨zTb_in (tbq5 (List.mem_of_getElem? (i := 101) rfl)) (by decide +kernel), zTb_in (tbq0 (List.mem_of_getElem? (i := 31) rfl)) (by decide +kernel)⟩
theorem zm_X8_restore : zMe yX8_restore cX8_restore 2 (some .int) 0 := ⟨by decide +kernel, zTb_in (tbq5 (List.mem_of_getElem? (i := 106) rfl)) (by decide +kernel), zTb_in (tbq1 (List.mem_of_getElem? (i := 9) rfl)) (by decide +kernel), by decide +kernel, by decide⟩
theorem zv_X8_restore : zMv yX8_restore := ⟨zTb_in (tbq5 (List.mem_of_getElem? (i := 104) rfl)) (by decide +kernel), zTb_in (tbq5 (List.mem_of_getElem? (i := 105) rfl)) (by decide +kernel)⟩
theorem zm_X8_gives : zMe yX8_gives cX8_gives 4 (some .int) 2 := ⟨by decide +kernel, zTb_in (tbq5 (List.mem_of_getElem? (i := 110) rfl)) (by decide +kernel), zTb_in (tbq1 (List.mem_of_getElem? (i := 9) rfl)) (by decide +kernel), by decide +kernel, by decide⟩
theorem zv_X8_gives : zMv yX8_gives := ⟨zTb_in (tbq5 (List.mem_of_getElem? (i := 109) rfl)) (by decide +kernel), zTb_in (tbq0 (List.mem_of_getElem? (i := 32) rfl)) (by decide +kernel)⟩
theorem zm_X8_seen : zMe yX8_seen cX8_seen 10 (some .int) 4 := ⟨by decide +kernel, zTb_in (tbq5 (List.mem_of_getElem? (i := 114) rfl)) (by decide +kernel), zTb_in (tbq1 (List.mem_of_getElem? (i := 9) rfl)) (by decide +kernel), by decide +kernel, by decide⟩
theorem zv_X8_seen : zMv yX8_seen := ⟨zTb_in (tbq5 (List.mem_of_getElem? (i := 112) rfl)) (by decide +kernel), zTb_in (tbq5 (List.mem_of_getElem? (i := 113) rfl)) (by decide +kernel)⟩
theorem zm_X8_isSheet : zMe yX8_isSheet cX8_isSheet 1 (some .boolean) 1 := ⟨by decide +kernel, zTb_in (tbq5 (List.mem_of_getElem? (i := 117) rfl)) (by decide +kernel), zTb_in (tbq1 (List.mem_of_getElem? (i := 9) rfl)) (by decide +kernel), by decide +kernel, by decide⟩
theorem zst_X8_isSheet : Cond.static yX8_isSheet ∈ zTb := zTb_in (tbq5 (List.mem_of_getElem? (i := 116) rfl)) (by decide +kernel)
theorem zm_X8_isLane : zMe yX8_isLane cX8_isLane 1 (some .boolean) 1 := ⟨by decide +kernel, zTb_in (tbq5 (List.mem_of_getElem? (i := 120) rfl)) (by decide +kernel), zTb_in (tbq1 (List.mem_of_getElem? (i := 9) rfl)) (by decide +kernel), by decide +kernel, by decide⟩
theorem zst_X8_isLane : Cond.static yX8_isLane ∈ zTb := zTb_in (tbq5 (List.mem_of_getElem? (i := 119) rfl)) (by decide +kernel)
theorem zm_X8_why : zMe yX8_why cX8_why 5 (some .int) 4 := ⟨by decide +kernel, zTb_in (tbq5 (List.mem_of_getElem? (i := 125) rfl)) (by decide +kernel), zTb_in (tbq1 (List.mem_of_getElem? (i := 9) rfl)) (by decide +kernel), by decide +kernel, by decide⟩
theorem zv_X8_why : zMv yX8_why := ⟨zTb_in (tbq5 (List.mem_of_getElem? (i := 124) rfl)) (by decide +kernel), zTb_in (tbq0 (List.mem_of_getElem? (i := 33) rfl)) (by decide +kernel)⟩
theorem zm_X8_film : zMe yX8_film cX8_film 7 (some .int) 3 := ⟨by decide +kernel, zTb_in (tbq5 (List.mem_of_getElem? (i := 129) rfl)) (by decide +kernel), zTb_in (tbq1 (List.mem_of_getElem? (i := 9) rfl)) (by decide +kernel), by decide +kernel, by decide⟩
theorem zv_X8_film : zMv yX8_film := ⟨zTb_in (tbq5 (List.mem_of_getElem? (i := 127) rfl)) (by decide +kernel), zTb_in (tbq5 (List.mem_of_getElem? (i := 128) rfl)) (by decide +kernel)⟩
theorem zm_X8_puts : zMe yX8_puts cX8_puts 6 none 3 := ⟨by decide +kernel, zTb_in (tbq5 (List.mem_of_getElem? (i := 133) rfl)) (by decide +kernel), zTb_in (tbq1 (List.mem_of_getElem? (i := 9) rfl)) (by decide +kernel), by decide +kernel, by decide⟩
theorem zv_X8_puts : zMv yX8_puts := ⟨zTb_in (tbq5 (List.mem_of_getElem? (i := 132) rfl)) (by decide +kernel), zTb_in (tbq0 (List.mem_of_getElem? (i := 34) rfl)) (by decide +kernel)⟩
theorem zm_X8_deal : zMe yX8_deal cX8_deal 9 (some .int) 3 := ⟨by decide +kernel, zTb_in (tbq5 (List.mem_of_getElem? (i := 137) rfl)) (by decide +kernel), zTb_in (tbq1 (List.mem_of_getElem? (i := 9) rfl)) (by decide +kernel), by decide +kernel, by decide⟩
theorem zv_X8_deal : zMv yX8_deal := ⟨zTb_in (tbq5 (List.mem_of_getElem? (i := 135) rfl)) (by decide +kernel), zTb_in (tbq5 (List.mem_of_getElem? (i := 136) rfl)) (by decide +kernel)⟩
theorem zm_X8_sheet : zMe yX8_sheet cX8_sheet 5 (some .int) 3 := ⟨by decide +kernel, zTb_in (tbq5 (List.mem_of_getElem? (i := 141) rfl)) (by decide +kernel), zTb_in (tbq1 (List.mem_of_getElem? (i := 9) rfl)) (by decide +kernel), by decide +kernel, by decide⟩
theorem zv_X8_sheet : zMv yX8_sheet := ⟨zTb_in (tbq5 (List.mem_of_getElem? (i := 139) rfl)) (by decide +kernel), zTb_in (tbq5 (List.mem_of_getElem? (i := 140) rfl)) (by decide +kernel)⟩
theorem zm_X8_drop : zMe yX8_drop cX8_drop 2 (some .int) 1 := ⟨by decide +kernel, zTb_in (tbq5 (List.mem_of_getElem? (i := 145) rfl)) (by decide +kernel), zTb_in (tbq1 (List.mem_of_getElem? (i := 9) rfl)) (by decide +kernel), by decide +kernel, by decide⟩
theorem zv_X8_drop : zMv yX8_drop := ⟨zTb_in (tbq5 (List.mem_of_getElem? (i := 143) rfl)) (by decide +kernel), zTb_in (tbq5 (List.mem_of_getElem? (i := 144) rfl)) (by decide +kernel)⟩
theorem zm_X8_item : zMe yX8_item cX8_item 7 (some .int) 4 := ⟨by decide +kernel, zTb_in (tbq5 (List.mem_of_getElem? (i := 149) rfl)) (by decide +kernel), zTb_in (tbq1 (List.mem_of_getElem? (i := 9) rfl)) (by decide +kernel), by decide +kernel, by decide⟩
theorem zv_X8_item : zMv yX8_item := ⟨zTb_in (tbq5 (List.mem_of_getElem? (i := 147) rfl)) (by decide +kernel), zTb_in (tbq5 (List.mem_of_getElem? (i := 148) rfl)) (by decide +kernel)⟩
theorem zm_X8_copy : zMe yX8_copy cX8_copy 7 (some .int) 5 := ⟨by decide +kernel, zTb_in (tbq5 (List.mem_of_getElem? (i := 153) rfl)) (by decide +kernel), zTb_in (tbq1 (List.mem_of_getElem? (i := 9) rfl)) (by decide +kernel), by decide +kernel, by decide⟩
theorem zv_X8_copy : zMv yX8_copy := ⟨zTb_in (tbq5 (List.mem_of_getElem? (i := 151) rfl)) (by decide +kernel), zTb_in (tbq5 (List.mem_of_getElem? (i := 152) rfl)) (by decide +kernel)⟩
theorem ml_L_13 : Cond.methodLink RL 13 yX7_thing ∈ zTb := zTb_in (tbq2 (List.mem_of_getElem? (i := 35) rfl)) (by decide +kernel)
theorem ml_X7_40 : Cond.methodLink RX7 40 yX7_isNot ∈ zTb := zTb_in (tbq2 (List.mem_of_getElem? (i := 39) rfl)) (by decide +kernel)
theorem ml_X7_57 : Cond.methodLink RX7 57 yX1_addThing ∈ zTb := zTb_in (tbq2 (List.mem_of_getElem? (i := 42) rfl)) (by decide +kernel)
theorem ml_X1_44 : Cond.methodLink RX1 44 yX4_set ∈ zTb := zTb_in (tbq2 (List.mem_of_getElem? (i := 46) rfl)) (by decide +kernel)
theorem ml_L_18 : Cond.methodLink RL 18 yX7_of ∈ zTb := zTb_in (tbq2 (List.mem_of_getElem? (i := 50) rfl)) (by decide +kernel)
theorem ml_X7_61 : Cond.methodLink RX7 61 yX1_isThing ∈ zTb := zTb_in (tbq2 (List.mem_of_getElem? (i := 54) rfl)) (by decide +kernel)
theorem ml_X7_87 : Cond.methodLink RX7 87 yX1_whoHas ∈ zTb := zTb_in (tbq2 (List.mem_of_getElem? (i := 58) rfl)) (by decide +kernel)
theorem ml_L_23 : Cond.methodLink RL 23 yX7_felt ∈ zTb := zTb_in (tbq2 (List.mem_of_getElem? (i := 62) rfl)) (by decide +kernel)
theorem ml_X7_91 : Cond.methodLink RX7 91 yX4_feltBy ∈ zTb := zTb_in (tbq2 (List.mem_of_getElem? (i := 66) rfl)) (by decide +kernel)
theorem ml_L_28 : Cond.methodLink RL 28 yX7_person ∈ zTb := zTb_in (tbq2 (List.mem_of_getElem? (i := 70) rfl)) (by decide +kernel)
theorem ml_X7_95 : Cond.methodLink RX7 95 yX7_isNoThingOrNone ∈ zTb := zTb_in (tbq2 (List.mem_of_getElem? (i := 74) rfl)) (by decide +kernel)
theorem ml_X7_98 : Cond.methodLink RX7 98 yX7_isHad ∈ zTb := zTb_in (tbq2 (List.mem_of_getElem? (i := 78) rfl)) (by decide +kernel)
theorem ml_X7_104 : Cond.methodLink RX7 104 yX1_addPerson ∈ zTb := zTb_in (tbq2 (List.mem_of_getElem? (i := 82) rfl)) (by decide +kernel)
theorem ml_L_32 : Cond.methodLink RL 32 yX7_told ∈ zTb := zTb_in (tbq2 (List.mem_of_getElem? (i := 86) rfl)) (by decide +kernel)
theorem ml_X7_108 : Cond.methodLink RX7 108 yX1_isPerson ∈ zTb := zTb_in (tbq2 (List.mem_of_getElem? (i := 90) rfl)) (by decide +kernel)
theorem ml_L_36 : Cond.methodLink RL 36 yX7_move ∈ zTb := zTb_in (tbq2 (List.mem_of_getElem? (i := 94) rfl)) (by decide +kernel)
theorem ml_L_40 : Cond.methodLink RL 40 yX7_take ∈ zTb := zTb_in (tbq2 (List.mem_of_getElem? (i := 98) rfl)) (by decide +kernel)
theorem ml_X7_126 : Cond.methodLink RX7 126 yX5_hasNew ∈ zTb := zTb_in (tbq2 (List.mem_of_getElem? (i := 102) rfl)) (by decide +kernel)
theorem ml_L_45 : Cond.methodLink RL 45 yX7_count ∈ zTb := zTb_in (tbq2 (List.mem_of_getElem? (i := 106) rfl)) (by decide +kernel)
theorem ml_L_49 : Cond.methodLink RL 49 yX7_heed ∈ zTb := zTb_in (tbq2 (List.mem_of_getElem? (i := 110) rfl)) (by decide +kernel)
theorem ml_L_53 : Cond.methodLink RL 53 yX7_well ∈ zTb := zTb_in (tbq2 (List.mem_of_getElem? (i := 114) rfl)) (by decide +kernel)
theorem ml_L_57 : Cond.methodLink RL 57 yX7_type ∈ zTb := zTb_in (tbq2 (List.mem_of_getElem? (i := 118) rfl)) (by decide +kernel)
theorem ml_L_61 : Cond.methodLink RL 61 yX7_road ∈ zTb := zTb_in (tbq2 (List.mem_of_getElem? (i := 122) rfl)) (by decide +kernel)
theorem ml_X7_155 : Cond.methodLink RX7 155 yX3_readRoad ∈ zTb := zTb_in (tbq2 (List.mem_of_getElem? (i := 126) rfl)) (by decide +kernel)
theorem ml_X3_36 : Cond.methodLink RX3 36 yX1_setFrom ∈ zTb := zTb_in (tbq2 (List.mem_of_getElem? (i := 130) rfl)) (by decide +kernel)
theorem ml_X3_41 : Cond.methodLink RX3 41 yX5_setFrom ∈ zTb := zTb_in (tbq2 (List.mem_of_getElem? (i := 137) rfl)) (by decide +kernel)
theorem ml_X3_50 : Cond.methodLink RX3 50 yX5_setOut ∈ zTb := zTb_in (tbq2 (List.mem_of_getElem? (i := 142) rfl)) (by decide +kernel)
theorem ml_X5_40 : Cond.methodLink RX5 40 yX5_hasNew ∈ zTb := zTb_in (tbq2 (List.mem_of_getElem? (i := 146) rfl)) (by decide +kernel)
theorem ml_X3_53 : Cond.methodLink RX3 53 yX3_readThings ∈ zTb := zTb_in (tbq2 (List.mem_of_getElem? (i := 147) rfl)) (by decide +kernel)
theorem ml_X3_74 : Cond.methodLink RX3 74 yX3_readThing ∈ zTb := zTb_in (tbq2 (List.mem_of_getElem? (i := 151) rfl)) (by decide +kernel)
theorem ml_X3_61 : Cond.methodLink RX3 61 yX3_next ∈ zTb := zTb_in (tbq2 (List.mem_of_getElem? (i := 156) rfl)) (by decide +kernel)
theorem ml_X3_85 : Cond.methodLink RX3 85 yX3_readNumber ∈ zTb := zTb_in (tbq3 (List.mem_of_getElem? (i := 6) rfl)) (by decide +kernel)
theorem ml_X3_65 : Cond.methodLink RX3 65 yX3_isDigit ∈ zTb := zTb_in (tbq3 (List.mem_of_getElem? (i := 10) rfl)) (by decide +kernel)
theorem ml_X3_57 : Cond.methodLink RX3 57 yX3_reads ∈ zTb := zTb_in (tbq3 (List.mem_of_getElem? (i := 14) rfl)) (by decide +kernel)
theorem ml_X3_88 : Cond.methodLink RX3 88 yX1_addThing ∈ zTb := zTb_in (tbq3 (List.mem_of_getElem? (i := 18) rfl)) (by decide +kernel)
theorem ml_X3_68 : Cond.methodLink RX3 68 yX3_readPeople ∈ zTb := zTb_in (tbq3 (List.mem_of_getElem? (i := 19) rfl)) (by decide +kernel)
theorem ml_X3_92 : Cond.methodLink RX3 92 yX3_readPerson ∈ zTb := zTb_in (tbq3 (List.mem_of_getElem? (i := 23) rfl)) (by decide +kernel)
theorem ml_X3_95 : Cond.methodLink RX3 95 yX3_readFreeThing ∈ zTb := zTb_in (tbq3 (List.mem_of_getElem? (i := 27) rfl)) (by decide +kernel)
theorem ml_X3_115 : Cond.methodLink RX3 115 yX1_isThing ∈ zTb := zTb_in (tbq3 (List.mem_of_getElem? (i := 31) rfl)) (by decide +kernel)
theorem ml_X3_119 : Cond.methodLink RX3 119 yX1_whoHas ∈ zTb := zTb_in (tbq3 (List.mem_of_getElem? (i := 32) rfl)) (by decide +kernel)
theorem ml_X3_99 : Cond.methodLink RX3 99 yX1_addPerson ∈ zTb := zTb_in (tbq3 (List.mem_of_getElem? (i := 33) rfl)) (by decide +kernel)
theorem ml_X3_71 : Cond.methodLink RX3 71 yX3_readHis ∈ zTb := zTb_in (tbq3 (List.mem_of_getElem? (i := 34) rfl)) (by decide +kernel)
theorem ml_X7_163 : Cond.methodLink RX7 163 yX1_setFrom ∈ zTb := zTb_in (tbq3 (List.mem_of_getElem? (i := 38) rfl)) (by decide +kernel)
theorem ml_X7_168 : Cond.methodLink RX7 168 yX5_setFrom ∈ zTb := zTb_in (tbq3 (List.mem_of_getElem? (i := 39) rfl)) (by decide +kernel)
theorem ml_L_66 : Cond.methodLink RL 66 yX7_go ∈ zTb := zTb_in (tbq3 (List.mem_of_getElem? (i := 41) rfl)) (by decide +kernel)
theorem ml_X7_171 : Cond.methodLink RX7 171 yX6_remember ∈ zTb := zTb_in (tbq3 (List.mem_of_getElem? (i := 45) rfl)) (by decide +kernel)
theorem ml_X6_40 : Cond.methodLink RX6 40 yX6_loseOldest ∈ zTb := zTb_in (tbq3 (List.mem_of_getElem? (i := 49) rfl)) (by decide +kernel)
theorem ml_X6_33 : Cond.methodLink RX6 33 yX5_setFrom ∈ zTb := zTb_in (tbq3 (List.mem_of_getElem? (i := 53) rfl)) (by decide +kernel)
theorem ml_X7_174 : Cond.methodLink RX7 174 yX1_pass ∈ zTb := zTb_in (tbq3 (List.mem_of_getElem? (i := 54) rfl)) (by decide +kernel)
theorem ml_X1_65 : Cond.methodLink RX1 65 yX1_isThing ∈ zTb := zTb_in (tbq3 (List.mem_of_getElem? (i := 58) rfl)) (by decide +kernel)
theorem ml_X1_75 : Cond.methodLink RX1 75 yX1_feelOneMore ∈ zTb := zTb_in (tbq3 (List.mem_of_getElem? (i := 59) rfl)) (by decide +kernel)
theorem ml_X1_89 : Cond.methodLink RX1 89 yX4_feltBy ∈ zTb := zTb_in (tbq3 (List.mem_of_getElem? (i := 63) rfl)) (by decide +kernel)
theorem ml_X1_82 : Cond.methodLink RX1 82 yX1_offer ∈ zTb := zTb_in (tbq3 (List.mem_of_getElem? (i := 64) rfl)) (by decide +kernel)
theorem ml_X1_100 : Cond.methodLink RX1 100 yX1_isGlad ∈ zTb := zTb_in (tbq3 (List.mem_of_getElem? (i := 68) rfl)) (by decide +kernel)
theorem ml_X1_93 : Cond.methodLink RX1 93 yX5_hasNew ∈ zTb := zTb_in (tbq3 (List.mem_of_getElem? (i := 72) rfl)) (by decide +kernel)
theorem ml_L_70 : Cond.methodLink RL 70 yX7_undo ∈ zTb := zTb_in (tbq3 (List.mem_of_getElem? (i := 73) rfl)) (by decide +kernel)
theorem ml_X7_178 : Cond.methodLink RX7 178 yX6_stepBack ∈ zTb := zTb_in (tbq3 (List.mem_of_getElem? (i := 77) rfl)) (by decide +kernel)
theorem ml_L_74 : Cond.methodLink RL 74 yX7_again ∈ zTb := zTb_in (tbq3 (List.mem_of_getElem? (i := 81) rfl)) (by decide +kernel)
theorem ml_L_78 : Cond.methodLink RL 78 yX7_glad ∈ zTb := zTb_in (tbq3 (List.mem_of_getElem? (i := 85) rfl)) (by decide +kernel)
theorem ml_X7_181 : Cond.methodLink RX7 181 yX1_isGlad ∈ zTb := zTb_in (tbq3 (List.mem_of_getElem? (i := 89) rfl)) (by decide +kernel)
theorem ml_L_82 : Cond.methodLink RL 82 yX7_home ∈ zTb := zTb_in (tbq3 (List.mem_of_getElem? (i := 90) rfl)) (by decide +kernel)
theorem ml_X7_185 : Cond.methodLink RX7 185 yX0_endOf ∈ zTb := zTb_in (tbq3 (List.mem_of_getElem? (i := 94) rfl)) (by decide +kernel)
theorem ml_X0_54 : Cond.methodLink RX0 54 yX0_begin ∈ zTb := zTb_in (tbq3 (List.mem_of_getElem? (i := 98) rfl)) (by decide +kernel)
theorem ml_X0_35 : Cond.methodLink RX0 35 yX1_setFrom ∈ zTb := zTb_in (tbq3 (List.mem_of_getElem? (i := 102) rfl)) (by decide +kernel)
theorem ml_X0_40 : Cond.methodLink RX0 40 yX5_setFrom ∈ zTb := zTb_in (tbq3 (List.mem_of_getElem? (i := 103) rfl)) (by decide +kernel)
theorem ml_X0_58 : Cond.methodLink RX0 58 yX0_walkHome ∈ zTb := zTb_in (tbq3 (List.mem_of_getElem? (i := 104) rfl)) (by decide +kernel)
theorem ml_X0_50 : Cond.methodLink RX0 50 yX1_pass ∈ zTb := zTb_in (tbq3 (List.mem_of_getElem? (i := 108) rfl)) (by decide +kernel)
theorem ml_L_86 : Cond.methodLink RL 86 yX7_lost ∈ zTb := zTb_in (tbq3 (List.mem_of_getElem? (i := 109) rfl)) (by decide +kernel)
theorem ml_X7_192 : Cond.methodLink RX7 192 yX1_worthOf ∈ zTb := zTb_in (tbq3 (List.mem_of_getElem? (i := 113) rfl)) (by decide +kernel)
theorem ml_L_90 : Cond.methodLink RL 90 yX7_lurk ∈ zTb := zTb_in (tbq3 (List.mem_of_getElem? (i := 117) rfl)) (by decide +kernel)
theorem ml_X7_196 : Cond.methodLink RX7 196 yX0_waitFor ∈ zTb := zTb_in (tbq3 (List.mem_of_getElem? (i := 121) rfl)) (by decide +kernel)
theorem ml_X0_64 : Cond.methodLink RX0 64 yX1_worthOf ∈ zTb := zTb_in (tbq3 (List.mem_of_getElem? (i := 125) rfl)) (by decide +kernel)
theorem ml_X0_68 : Cond.methodLink RX0 68 yX1_whoHas ∈ zTb := zTb_in (tbq3 (List.mem_of_getElem? (i := 126) rfl)) (by decide +kernel)
theorem ml_X0_72 : Cond.methodLink RX0 72 yX1_addPerson ∈ zTb := zTb_in (tbq3 (List.mem_of_getElem? (i := 127) rfl)) (by decide +kernel)
theorem ml_L_94 : Cond.methodLink RL 94 yX7_stand ∈ zTb := zTb_in (tbq3 (List.mem_of_getElem? (i := 128) rfl)) (by decide +kernel)
theorem ml_X7_203 : Cond.methodLink RX7 203 yX0_mostWorthOf ∈ zTb := zTb_in (tbq3 (List.mem_of_getElem? (i := 132) rfl)) (by decide +kernel)
theorem ml_L_98 : Cond.methodLink RL 98 yX7_sister ∈ zTb := zTb_in (tbq3 (List.mem_of_getElem? (i := 136) rfl)) (by decide +kernel)
theorem ml_L_102 : Cond.methodLink RL 102 yX7_meet ∈ zTb := zTb_in (tbq3 (List.mem_of_getElem? (i := 140) rfl)) (by decide +kernel)
theorem ml_X7_206 : Cond.methodLink RX7 206 yX0_turnsWith ∈ zTb := zTb_in (tbq3 (List.mem_of_getElem? (i := 144) rfl)) (by decide +kernel)
theorem ml_X0_86 : Cond.methodLink RX0 86 yX5_setOut ∈ zTb := zTb_in (tbq3 (List.mem_of_getElem? (i := 148) rfl)) (by decide +kernel)
theorem ml_X0_95 : Cond.methodLink RX0 95 yX0_takesTurn ∈ zTb := zTb_in (tbq3 (List.mem_of_getElem? (i := 149) rfl)) (by decide +kernel)
theorem ml_X0_99 : Cond.methodLink RX0 99 yX1_feelOneMore ∈ zTb := zTb_in (tbq3 (List.mem_of_getElem? (i := 153) rfl)) (by decide +kernel)
theorem ml_X0_103 : Cond.methodLink RX0 103 yX1_isGlad ∈ zTb := zTb_in (tbq3 (List.mem_of_getElem? (i := 154) rfl)) (by decide +kernel)
theorem ml_X0_107 : Cond.methodLink RX0 107 yX5_hasNew ∈ zTb := zTb_in (tbq3 (List.mem_of_getElem? (i := 155) rfl)) (by decide +kernel)
theorem ml_L_106 : Cond.methodLink RL 106 yX7_first ∈ zTb := zTb_in (tbq3 (List.mem_of_getElem? (i := 156) rfl)) (by decide +kernel)
theorem ml_X7_213 : Cond.methodLink RX7 213 yX0_firstsFor ∈ zTb := zTb_in (tbq3 (List.mem_of_getElem? (i := 160) rfl)) (by decide +kernel)
theorem ml_L_110 : Cond.methodLink RL 110 yX7_cheated ∈ zTb := zTb_in (tbq3 (List.mem_of_getElem? (i := 164) rfl)) (by decide +kernel)
theorem ml_X7_216 : Cond.methodLink RX7 216 yX0_heedFor ∈ zTb := zTb_in (tbq3 (List.mem_of_getElem? (i := 168) rfl)) (by decide +kernel)
theorem ml_L_114 : Cond.methodLink RL 114 yX7_chance ∈ zTb := zTb_in (tbq3 (List.mem_of_getElem? (i := 172) rfl)) (by decide +kernel)
theorem ml_X7_219 : Cond.methodLink RX7 219 yX0_waysTo ∈ zTb := zTb_in (tbq3 (List.mem_of_getElem? (i := 176) rfl)) (by decide +kernel)
theorem ml_X0_111 : Cond.methodLink RX0 111 yX0_waysFrom ∈ zTb := zTb_in (tbq3 (List.mem_of_getElem? (i := 180) rfl)) (by decide +kernel)
theorem ml_X0_115 : Cond.methodLink RX0 115 yX0_waysBehind ∈ zTb := zTb_in (tbq3 (List.mem_of_getElem? (i := 184) rfl)) (by decide +kernel)
theorem ml_X0_119 : Cond.methodLink RX0 119 yX1_isPeopled ∈ zTb := zTb_in (tbq3 (List.mem_of_getElem? (i := 188) rfl)) (by decide +kernel)
theorem ml_L_118 : Cond.methodLink RL 118 yX7_image ∈ zTb := zTb_in (tbq3 (List.mem_of_getElem? (i := 192) rfl)) (by decide +kernel)
theorem ml_X7_222 : Cond.methodLink RX7 222 yX6_setFrom ∈ zTb := zTb_in (tbq3 (List.mem_of_getElem? (i := 196) rfl)) (by decide +kernel)
theorem ml_X6_29 : Cond.methodLink RX6 29 yX1_setFrom ∈ zTb := zTb_in (tbq3 (List.mem_of_getElem? (i := 200) rfl)) (by decide +kernel)
theorem ml_L_122 : Cond.methodLink RL 122 yX7_restore ∈ zTb := zTb_in (tbq3 (List.mem_of_getElem? (i := 201) rfl)) (by decide +kernel)
theorem ml_L_126 : Cond.methodLink RL 126 yX7_seen ∈ zTb := zTb_in (tbq3 (List.mem_of_getElem? (i := 205) rfl)) (by decide +kernel)
theorem ml_X7_229 : Cond.methodLink RX7 229 yX7_rowFault ∈ zTb := zTb_in (tbq3 (List.mem_of_getElem? (i := 209) rfl)) (by decide +kernel)
theorem ml_X7_262 : Cond.methodLink RX7 262 yX2_hasRange ∈ zTb := zTb_in (tbq3 (List.mem_of_getElem? (i := 213) rfl)) (by decide +kernel)
theorem ml_X7_236 : Cond.methodLink RX7 236 yX1_mindsOf ∈ zTb := zTb_in (tbq3 (List.mem_of_getElem? (i := 217) rfl)) (by decide +kernel)
theorem ml_L_130 : Cond.methodLink RL 130 yX7_film ∈ zTb := zTb_in (tbq3 (List.mem_of_getElem? (i := 221) rfl)) (by decide +kernel)
theorem ml_X7_239 : Cond.methodLink RX7 239 yX0_begin ∈ zTb := zTb_in (tbq3 (List.mem_of_getElem? (i := 225) rfl)) (by decide +kernel)
theorem ml_X7_243 : Cond.methodLink RX7 243 yX2_put ∈ zTb := zTb_in (tbq3 (List.mem_of_getElem? (i := 226) rfl)) (by decide +kernel)
theorem ml_L_134 : Cond.methodLink RL 134 yX7_deal ∈ zTb := zTb_in (tbq3 (List.mem_of_getElem? (i := 230) rfl)) (by decide +kernel)
theorem ml_X7_247 : Cond.methodLink RX7 247 yX7_canDeal ∈ zTb := zTb_in (tbq3 (List.mem_of_getElem? (i := 234) rfl)) (by decide +kernel)
theorem ml_L_138 : Cond.methodLink RL 138 yX7_sheet ∈ zTb := zTb_in (tbq3 (List.mem_of_getElem? (i := 238) rfl)) (by decide +kernel)
theorem ml_X7_251 : Cond.methodLink RX7 251 yX2_renew ∈ zTb := zTb_in (tbq4 (List.mem_of_getElem? (i := 2) rfl)) (by decide +kernel)
theorem ml_X2_26 : Cond.methodLink RX2 26 yJ7_fill_d0a16 ∈ zTb := zTb_in (tbq4 (List.mem_of_getElem? (i := 6) rfl)) (by decide +kernel)
theorem ml_L_142 : Cond.methodLink RL 142 yX7_drop ∈ zTb := zTb_in (tbq4 (List.mem_of_getElem? (i := 9) rfl)) (by decide +kernel)
theorem ml_L_148 : Cond.methodLink RL 148 yX7_item ∈ zTb := zTb_in (tbq4 (List.mem_of_getElem? (i := 13) rfl)) (by decide +kernel)
theorem ml_L_153 : Cond.methodLink RL 153 yX7_copy ∈ zTb := zTb_in (tbq4 (List.mem_of_getElem? (i := 17) rfl)) (by decide +kernel)
theorem ml_X8_63 : Cond.methodLink RX8 63 yX8_starts ∈ zTb := zTb_in (tbq4 (List.mem_of_getElem? (i := 28) rfl)) (by decide +kernel)
theorem ml_L_17 : Cond.methodLink RL 17 yX8_thing ∈ zTb := zTb_in (tbq4 (List.mem_of_getElem? (i := 123) rfl)) (by decide +kernel)
theorem ml_X8_72 : Cond.methodLink RX8 72 yX8_in ∈ zTb := zTb_in (tbq4 (List.mem_of_getElem? (i := 128) rfl)) (by decide +kernel)
theorem ml_X8_85 : Cond.methodLink RX8 85 yX8_thingComes ∈ zTb := zTb_in (tbq4 (List.mem_of_getElem? (i := 133) rfl)) (by decide +kernel)
theorem ml_L_22 : Cond.methodLink RL 22 yX8_of ∈ zTb := zTb_in (tbq4 (List.mem_of_getElem? (i := 137) rfl)) (by decide +kernel)
theorem ml_X8_89 : Cond.methodLink RX8 89 yX8_isThing ∈ zTb := zTb_in (tbq4 (List.mem_of_getElem? (i := 141) rfl)) (by decide +kernel)
theorem ml_X8_95 : Cond.methodLink RX8 95 yX8_who ∈ zTb := zTb_in (tbq4 (List.mem_of_getElem? (i := 146) rfl)) (by decide +kernel)
theorem ml_L_27 : Cond.methodLink RL 27 yX8_felt ∈ zTb := zTb_in (tbq4 (List.mem_of_getElem? (i := 150) rfl)) (by decide +kernel)
theorem ml_X8_99 : Cond.methodLink RX8 99 yX8_feels ∈ zTb := zTb_in (tbq4 (List.mem_of_getElem? (i := 154) rfl)) (by decide +kernel)
theorem ml_L_31 : Cond.methodLink RL 31 yX8_person ∈ zTb := zTb_in (tbq4 (List.mem_of_getElem? (i := 158) rfl)) (by decide +kernel)
theorem ml_X8_107 : Cond.methodLink RX8 107 yX8_personComes ∈ zTb := zTb_in (tbq4 (List.mem_of_getElem? (i := 164) rfl)) (by decide +kernel)
theorem ml_L_35 : Cond.methodLink RL 35 yX8_told ∈ zTb := zTb_in (tbq4 (List.mem_of_getElem? (i := 168) rfl)) (by decide +kernel)
theorem ml_X8_111 : Cond.methodLink RX8 111 yX8_isPerson ∈ zTb := zTb_in (tbq4 (List.mem_of_getElem? (i := 172) rfl)) (by decide +kernel)
theorem ml_L_39 : Cond.methodLink RL 39 yX8_move ∈ zTb := zTb_in (tbq4 (List.mem_of_getElem? (i := 177) rfl)) (by decide +kernel)
theorem ml_L_44 : Cond.methodLink RL 44 yX8_take ∈ zTb := zTb_in (tbq4 (List.mem_of_getElem? (i := 181) rfl)) (by decide +kernel)
theorem ml_L_48 : Cond.methodLink RL 48 yX8_count ∈ zTb := zTb_in (tbq4 (List.mem_of_getElem? (i := 185) rfl)) (by decide +kernel)
theorem ml_L_52 : Cond.methodLink RL 52 yX8_heed ∈ zTb := zTb_in (tbq4 (List.mem_of_getElem? (i := 189) rfl)) (by decide +kernel)
theorem ml_L_56 : Cond.methodLink RL 56 yX8_well ∈ zTb := zTb_in (tbq4 (List.mem_of_getElem? (i := 193) rfl)) (by decide +kernel)
theorem ml_L_60 : Cond.methodLink RL 60 yX8_type ∈ zTb := zTb_in (tbq4 (List.mem_of_getElem? (i := 197) rfl)) (by decide +kernel)
theorem ml_L_65 : Cond.methodLink RL 65 yX8_road ∈ zTb := zTb_in (tbq4 (List.mem_of_getElem? (i := 203) rfl)) (by decide +kernel)
theorem ml_X8_157 : Cond.methodLink RX8 157 yX8_readThing ∈ zTb := zTb_in (tbq4 (List.mem_of_getElem? (i := 207) rfl)) (by decide +kernel)
theorem ml_X8_131 : Cond.methodLink RX8 131 yX8_here ∈ zTb := zTb_in (tbq4 (List.mem_of_getElem? (i := 211) rfl)) (by decide +kernel)
theorem ml_X8_142 : Cond.methodLink RX8 142 yX8_number ∈ zTb := zTb_in (tbq4 (List.mem_of_getElem? (i := 215) rfl)) (by decide +kernel)
theorem ml_X8_145 : Cond.methodLink RX8 145 yX8_has ∈ zTb := zTb_in (tbq4 (List.mem_of_getElem? (i := 221) rfl)) (by decide +kernel)
theorem ml_X8_160 : Cond.methodLink RX8 160 yX8_readPerson ∈ zTb := zTb_in (tbq4 (List.mem_of_getElem? (i := 225) rfl)) (by decide +kernel)
theorem ml_X8_151 : Cond.methodLink RX8 151 yX8_readHad ∈ zTb := zTb_in (tbq4 (List.mem_of_getElem? (i := 229) rfl)) (by decide +kernel)
theorem ml_L_69 : Cond.methodLink RL 69 yX8_go ∈ zTb := zTb_in (tbq4 (List.mem_of_getElem? (i := 233) rfl)) (by decide +kernel)
theorem ml_X8_189 : Cond.methodLink RX8 189 yX8_notes ∈ zTb := zTb_in (tbq4 (List.mem_of_getElem? (i := 237) rfl)) (by decide +kernel)
theorem ml_X8_192 : Cond.methodLink RX8 192 yX8_goesOn ∈ zTb := zTb_in (tbq5 (List.mem_of_getElem? (i := 1) rfl)) (by decide +kernel)
theorem ml_X8_170 : Cond.methodLink RX8 170 yX8_own ∈ zTb := zTb_in (tbq5 (List.mem_of_getElem? (i := 5) rfl)) (by decide +kernel)
theorem ml_X8_166 : Cond.methodLink RX8 166 yX8_care ∈ zTb := zTb_in (tbq5 (List.mem_of_getElem? (i := 9) rfl)) (by decide +kernel)
theorem ml_X8_182 : Cond.methodLink RX8 182 yX8_asks ∈ zTb := zTb_in (tbq5 (List.mem_of_getElem? (i := 13) rfl)) (by decide +kernel)
theorem ml_X8_176 : Cond.methodLink RX8 176 yX8_isGlad ∈ zTb := zTb_in (tbq5 (List.mem_of_getElem? (i := 17) rfl)) (by decide +kernel)
theorem ml_X8_173 : Cond.methodLink RX8 173 yX8_worth ∈ zTb := zTb_in (tbq5 (List.mem_of_getElem? (i := 21) rfl)) (by decide +kernel)
theorem ml_L_73 : Cond.methodLink RL 73 yX8_undo ∈ zTb := zTb_in (tbq5 (List.mem_of_getElem? (i := 25) rfl)) (by decide +kernel)
theorem ml_L_77 : Cond.methodLink RL 77 yX8_again ∈ zTb := zTb_in (tbq5 (List.mem_of_getElem? (i := 29) rfl)) (by decide +kernel)
theorem ml_L_81 : Cond.methodLink RL 81 yX8_glad ∈ zTb := zTb_in (tbq5 (List.mem_of_getElem? (i := 33) rfl)) (by decide +kernel)
theorem ml_L_85 : Cond.methodLink RL 85 yX8_home ∈ zTb := zTb_in (tbq5 (List.mem_of_getElem? (i := 37) rfl)) (by decide +kernel)
theorem ml_X8_195 : Cond.methodLink RX8 195 yX8_asides ∈ zTb := zTb_in (tbq5 (List.mem_of_getElem? (i := 41) rfl)) (by decide +kernel)
theorem ml_X8_198 : Cond.methodLink RX8 198 yX8_goesHome ∈ zTb := zTb_in (tbq5 (List.mem_of_getElem? (i := 45) rfl)) (by decide +kernel)
theorem ml_X8_201 : Cond.methodLink RX8 201 yX8_backs ∈ zTb := zTb_in (tbq5 (List.mem_of_getElem? (i := 49) rfl)) (by decide +kernel)
theorem ml_L_89 : Cond.methodLink RL 89 yX8_lost ∈ zTb := zTb_in (tbq5 (List.mem_of_getElem? (i := 53) rfl)) (by decide +kernel)
theorem ml_L_93 : Cond.methodLink RL 93 yX8_lurk ∈ zTb := zTb_in (tbq5 (List.mem_of_getElem? (i := 57) rfl)) (by decide +kernel)
theorem ml_L_97 : Cond.methodLink RL 97 yX8_stand ∈ zTb := zTb_in (tbq5 (List.mem_of_getElem? (i := 61) rfl)) (by decide +kernel)
theorem ml_L_101 : Cond.methodLink RL 101 yX8_sister ∈ zTb := zTb_in (tbq5 (List.mem_of_getElem? (i := 65) rfl)) (by decide +kernel)
theorem ml_X8_204 : Cond.methodLink RX8 204 yX8_sisters ∈ zTb := zTb_in (tbq5 (List.mem_of_getElem? (i := 69) rfl)) (by decide +kernel)
theorem ml_L_105 : Cond.methodLink RL 105 yX8_meet ∈ zTb := zTb_in (tbq5 (List.mem_of_getElem? (i := 73) rfl)) (by decide +kernel)
theorem ml_X8_207 : Cond.methodLink RX8 207 yX8_turns ∈ zTb := zTb_in (tbq5 (List.mem_of_getElem? (i := 77) rfl)) (by decide +kernel)
theorem ml_L_109 : Cond.methodLink RL 109 yX8_first ∈ zTb := zTb_in (tbq5 (List.mem_of_getElem? (i := 81) rfl)) (by decide +kernel)
theorem ml_L_113 : Cond.methodLink RL 113 yX8_cheated ∈ zTb := zTb_in (tbq5 (List.mem_of_getElem? (i := 85) rfl)) (by decide +kernel)
theorem ml_X8_213 : Cond.methodLink RX8 213 yX8_lost ∈ zTb := zTb_in (tbq5 (List.mem_of_getElem? (i := 90) rfl)) (by decide +kernel)
theorem ml_L_117 : Cond.methodLink RL 117 yX8_chance ∈ zTb := zTb_in (tbq5 (List.mem_of_getElem? (i := 91) rfl)) (by decide +kernel)
theorem ml_L_121 : Cond.methodLink RL 121 yX8_image ∈ zTb := zTb_in (tbq5 (List.mem_of_getElem? (i := 95) rfl)) (by decide +kernel)
theorem ml_X8_216 : Cond.methodLink RX8 216 yX8_notesRow ∈ zTb := zTb_in (tbq5 (List.mem_of_getElem? (i := 99) rfl)) (by decide +kernel)
theorem ml_L_125 : Cond.methodLink RL 125 yX8_restore ∈ zTb := zTb_in (tbq5 (List.mem_of_getElem? (i := 103) rfl)) (by decide +kernel)
theorem ml_X8_223 : Cond.methodLink RX8 223 yX8_gives ∈ zTb := zTb_in (tbq5 (List.mem_of_getElem? (i := 107) rfl)) (by decide +kernel)
theorem ml_L_129 : Cond.methodLink RL 129 yX8_seen ∈ zTb := zTb_in (tbq5 (List.mem_of_getElem? (i := 111) rfl)) (by decide +kernel)
theorem ml_X8_227 : Cond.methodLink RX8 227 yX8_isSheet ∈ zTb := zTb_in (tbq5 (List.mem_of_getElem? (i := 115) rfl)) (by decide +kernel)
theorem ml_X8_230 : Cond.methodLink RX8 230 yX8_isLane ∈ zTb := zTb_in (tbq5 (List.mem_of_getElem? (i := 118) rfl)) (by decide +kernel)
theorem ml_X8_235 : Cond.methodLink RX8 235 yX8_why ∈ zTb := zTb_in (tbq5 (List.mem_of_getElem? (i := 122) rfl)) (by decide +kernel)
theorem ml_L_133 : Cond.methodLink RL 133 yX8_film ∈ zTb := zTb_in (tbq5 (List.mem_of_getElem? (i := 126) rfl)) (by decide +kernel)
theorem ml_X8_239 : Cond.methodLink RX8 239 yX8_puts ∈ zTb := zTb_in (tbq5 (List.mem_of_getElem? (i := 130) rfl)) (by decide +kernel)
theorem ml_L_137 : Cond.methodLink RL 137 yX8_deal ∈ zTb := zTb_in (tbq5 (List.mem_of_getElem? (i := 134) rfl)) (by decide +kernel)
theorem ml_L_141 : Cond.methodLink RL 141 yX8_sheet ∈ zTb := zTb_in (tbq5 (List.mem_of_getElem? (i := 138) rfl)) (by decide +kernel)
theorem ml_L_145 : Cond.methodLink RL 145 yX8_drop ∈ zTb := zTb_in (tbq5 (List.mem_of_getElem? (i := 142) rfl)) (by decide +kernel)
theorem ml_L_152 : Cond.methodLink RL 152 yX8_item ∈ zTb := zTb_in (tbq5 (List.mem_of_getElem? (i := 146) rfl)) (by decide +kernel)
theorem ml_L_157 : Cond.methodLink RL 157 yX8_copy ∈ zTb := zTb_in (tbq5 (List.mem_of_getElem? (i := 150) rfl)) (by decide +kernel)
theorem fl_X4_9 : Cond.fieldLink RX4 9 "GladRoad$Thing" "kind" "I" ∈ zTb := zTb_in (tbq1 (List.mem_of_getElem? (i := 45) rfl)) (by decide +kernel)
theorem fl_X1_32 : Cond.fieldLink RX1 32 "GladRoad$Thing" "kind" "I" ∈ zTb := zTb_in (tbq1 (List.mem_of_getElem? (i := 46) rfl)) (by decide +kernel)
theorem fl_X7_69 : Cond.fieldLink RX7 69 "GladRoad$Thing" "kind" "I" ∈ zTb := zTb_in (tbq1 (List.mem_of_getElem? (i := 47) rfl)) (by decide +kernel)
theorem fl_X4_15 : Cond.fieldLink RX4 15 "GladRoad$Thing" "worth" "I" ∈ zTb := zTb_in (tbq1 (List.mem_of_getElem? (i := 48) rfl)) (by decide +kernel)
theorem fl_X1_35 : Cond.fieldLink RX1 35 "GladRoad$Thing" "worth" "I" ∈ zTb := zTb_in (tbq1 (List.mem_of_getElem? (i := 49) rfl)) (by decide +kernel)
theorem fl_X7_74 : Cond.fieldLink RX7 74 "GladRoad$Thing" "worth" "I" ∈ zTb := zTb_in (tbq1 (List.mem_of_getElem? (i := 50) rfl)) (by decide +kernel)
theorem fl_X4_18 : Cond.fieldLink RX4 18 "GladRoad$Thing" "load" "I" ∈ zTb := zTb_in (tbq1 (List.mem_of_getElem? (i := 51) rfl)) (by decide +kernel)
theorem fl_X1_38 : Cond.fieldLink RX1 38 "GladRoad$Thing" "load" "I" ∈ zTb := zTb_in (tbq1 (List.mem_of_getElem? (i := 52) rfl)) (by decide +kernel)
theorem fl_X7_77 : Cond.fieldLink RX7 77 "GladRoad$Thing" "load" "I" ∈ zTb := zTb_in (tbq1 (List.mem_of_getElem? (i := 53) rfl)) (by decide +kernel)
theorem fl_X4_21 : Cond.fieldLink RX4 21 "GladRoad$Thing" "care" "I" ∈ zTb := zTb_in (tbq1 (List.mem_of_getElem? (i := 54) rfl)) (by decide +kernel)
theorem fl_X1_41 : Cond.fieldLink RX1 41 "GladRoad$Thing" "care" "I" ∈ zTb := zTb_in (tbq1 (List.mem_of_getElem? (i := 55) rfl)) (by decide +kernel)
theorem fl_X7_80 : Cond.fieldLink RX7 80 "GladRoad$Thing" "care" "I" ∈ zTb := zTb_in (tbq1 (List.mem_of_getElem? (i := 56) rfl)) (by decide +kernel)
theorem fl_X1_11 : Cond.fieldLink RX1 11 "GladRoad$Road" "things" "[LGladRoad$Thing;" ∈ zTb := zTb_in (tbq1 (List.mem_of_getElem? (i := 67) rfl)) (by decide +kernel)
theorem fl_X7_65 : Cond.fieldLink RX7 65 "GladRoad$Road" "things" "[LGladRoad$Thing;" ∈ zTb := zTb_in (tbq1 (List.mem_of_getElem? (i := 68) rfl)) (by decide +kernel)
theorem fl_X3_44 : Cond.fieldLink RX3 44 "GladRoad$Road" "thingCount" "I" ∈ zTb := zTb_in (tbq1 (List.mem_of_getElem? (i := 69) rfl)) (by decide +kernel)
theorem fl_X7_48 : Cond.fieldLink RX7 48 "GladRoad$Road" "thingCount" "I" ∈ zTb := zTb_in (tbq1 (List.mem_of_getElem? (i := 70) rfl)) (by decide +kernel)
theorem fl_X1_48 : Cond.fieldLink RX1 48 "GladRoad$Road" "thingCount" "I" ∈ zTb := zTb_in (tbq1 (List.mem_of_getElem? (i := 71) rfl)) (by decide +kernel)
theorem fl_X0_61 : Cond.fieldLink RX0 61 "GladRoad$Road" "thingCount" "I" ∈ zTb := zTb_in (tbq1 (List.mem_of_getElem? (i := 72) rfl)) (by decide +kernel)
theorem fl_X1_17 : Cond.fieldLink RX1 17 "GladRoad$Road" "where" "[I" ∈ zTb := zTb_in (tbq1 (List.mem_of_getElem? (i := 73) rfl)) (by decide +kernel)
theorem fl_X0_83 : Cond.fieldLink RX0 83 "GladRoad$Road" "where" "[I" ∈ zTb := zTb_in (tbq1 (List.mem_of_getElem? (i := 74) rfl)) (by decide +kernel)
theorem fl_X7_111 : Cond.fieldLink RX7 111 "GladRoad$Road" "where" "[I" ∈ zTb := zTb_in (tbq1 (List.mem_of_getElem? (i := 75) rfl)) (by decide +kernel)
theorem fl_X1_21 : Cond.fieldLink RX1 21 "GladRoad$Road" "margin" "[I" ∈ zTb := zTb_in (tbq1 (List.mem_of_getElem? (i := 76) rfl)) (by decide +kernel)
theorem fl_X7_120 : Cond.fieldLink RX7 120 "GladRoad$Road" "margin" "[I" ∈ zTb := zTb_in (tbq1 (List.mem_of_getElem? (i := 77) rfl)) (by decide +kernel)
theorem fl_X3_47 : Cond.fieldLink RX3 47 "GladRoad$Road" "personCount" "I" ∈ zTb := zTb_in (tbq1 (List.mem_of_getElem? (i := 78) rfl)) (by decide +kernel)
theorem fl_X1_57 : Cond.fieldLink RX1 57 "GladRoad$Road" "personCount" "I" ∈ zTb := zTb_in (tbq1 (List.mem_of_getElem? (i := 79) rfl)) (by decide +kernel)
theorem fl_X7_101 : Cond.fieldLink RX7 101 "GladRoad$Road" "personCount" "I" ∈ zTb := zTb_in (tbq1 (List.mem_of_getElem? (i := 80) rfl)) (by decide +kernel)
theorem fl_X1_24 : Cond.fieldLink RX1 24 "GladRoad$Road" "heed" "I" ∈ zTb := zTb_in (tbq1 (List.mem_of_getElem? (i := 81) rfl)) (by decide +kernel)
theorem fl_X0_92 : Cond.fieldLink RX0 92 "GladRoad$Road" "heed" "I" ∈ zTb := zTb_in (tbq1 (List.mem_of_getElem? (i := 82) rfl)) (by decide +kernel)
theorem fl_X7_139 : Cond.fieldLink RX7 139 "GladRoad$Road" "heed" "I" ∈ zTb := zTb_in (tbq1 (List.mem_of_getElem? (i := 83) rfl)) (by decide +kernel)
theorem fl_X1_28 : Cond.fieldLink RX1 28 "GladRoad$Road" "well" "I" ∈ zTb := zTb_in (tbq1 (List.mem_of_getElem? (i := 84) rfl)) (by decide +kernel)
theorem fl_X7_142 : Cond.fieldLink RX7 142 "GladRoad$Road" "well" "I" ∈ zTb := zTb_in (tbq1 (List.mem_of_getElem? (i := 85) rfl)) (by decide +kernel)
theorem fl_X5_9 : Cond.fieldLink RX5 9 "GladRoad$Trip" "his" "I" ∈ zTb := zTb_in (tbq1 (List.mem_of_getElem? (i := 107) rfl)) (by decide +kernel)
theorem fl_X0_89 : Cond.fieldLink RX0 89 "GladRoad$Trip" "his" "I" ∈ zTb := zTb_in (tbq1 (List.mem_of_getElem? (i := 108) rfl)) (by decide +kernel)
theorem fl_X3_103 : Cond.fieldLink RX3 103 "GladRoad$Trip" "his" "I" ∈ zTb := zTb_in (tbq1 (List.mem_of_getElem? (i := 109) rfl)) (by decide +kernel)
theorem fl_X1_69 : Cond.fieldLink RX1 69 "GladRoad$Trip" "his" "I" ∈ zTb := zTb_in (tbq1 (List.mem_of_getElem? (i := 110) rfl)) (by decide +kernel)
theorem fl_X7_123 : Cond.fieldLink RX7 123 "GladRoad$Trip" "his" "I" ∈ zTb := zTb_in (tbq1 (List.mem_of_getElem? (i := 111) rfl)) (by decide +kernel)
theorem fl_X5_22 : Cond.fieldLink RX5 22 "GladRoad$Trip" "n" "I" ∈ zTb := zTb_in (tbq1 (List.mem_of_getElem? (i := 112) rfl)) (by decide +kernel)
theorem fl_X7_133 : Cond.fieldLink RX7 133 "GladRoad$Trip" "n" "I" ∈ zTb := zTb_in (tbq1 (List.mem_of_getElem? (i := 113) rfl)) (by decide +kernel)
theorem fl_X1_86 : Cond.fieldLink RX1 86 "GladRoad$Trip" "n" "I" ∈ zTb := zTb_in (tbq1 (List.mem_of_getElem? (i := 114) rfl)) (by decide +kernel)
theorem fl_X5_25 : Cond.fieldLink RX5 25 "GladRoad$Trip" "mind" "I" ∈ zTb := zTb_in (tbq1 (List.mem_of_getElem? (i := 115) rfl)) (by decide +kernel)
theorem fl_X7_136 : Cond.fieldLink RX7 136 "GladRoad$Trip" "mind" "I" ∈ zTb := zTb_in (tbq1 (List.mem_of_getElem? (i := 116) rfl)) (by decide +kernel)
theorem fl_X1_97 : Cond.fieldLink RX1 97 "GladRoad$Trip" "mind" "I" ∈ zTb := zTb_in (tbq1 (List.mem_of_getElem? (i := 117) rfl)) (by decide +kernel)
theorem fl_X5_28 : Cond.fieldLink RX5 28 "GladRoad$Trip" "ahead" "I" ∈ zTb := zTb_in (tbq1 (List.mem_of_getElem? (i := 118) rfl)) (by decide +kernel)
theorem fl_X0_47 : Cond.fieldLink RX0 47 "GladRoad$Trip" "ahead" "I" ∈ zTb := zTb_in (tbq1 (List.mem_of_getElem? (i := 119) rfl)) (by decide +kernel)
theorem fl_X7_130 : Cond.fieldLink RX7 130 "GladRoad$Trip" "ahead" "I" ∈ zTb := zTb_in (tbq1 (List.mem_of_getElem? (i := 120) rfl)) (by decide +kernel)
theorem fl_X1_79 : Cond.fieldLink RX1 79 "GladRoad$Trip" "ahead" "I" ∈ zTb := zTb_in (tbq1 (List.mem_of_getElem? (i := 121) rfl)) (by decide +kernel)
theorem fl_X5_31 : Cond.fieldLink RX5 31 "GladRoad$Trip" "changes" "I" ∈ zTb := zTb_in (tbq1 (List.mem_of_getElem? (i := 122) rfl)) (by decide +kernel)
theorem fl_X7_145 : Cond.fieldLink RX7 145 "GladRoad$Trip" "changes" "I" ∈ zTb := zTb_in (tbq1 (List.mem_of_getElem? (i := 123) rfl)) (by decide +kernel)
theorem fl_X1_72 : Cond.fieldLink RX1 72 "GladRoad$Trip" "changes" "I" ∈ zTb := zTb_in (tbq1 (List.mem_of_getElem? (i := 124) rfl)) (by decide +kernel)
theorem fl_X5_15 : Cond.fieldLink RX5 15 "GladRoad$Trip" "refused" "I" ∈ zTb := zTb_in (tbq1 (List.mem_of_getElem? (i := 125) rfl)) (by decide +kernel)
theorem fl_X0_43 : Cond.fieldLink RX0 43 "GladRoad$Trip" "refused" "I" ∈ zTb := zTb_in (tbq1 (List.mem_of_getElem? (i := 126) rfl)) (by decide +kernel)
theorem fl_X1_104 : Cond.fieldLink RX1 104 "GladRoad$Trip" "refused" "I" ∈ zTb := zTb_in (tbq1 (List.mem_of_getElem? (i := 127) rfl)) (by decide +kernel)
theorem fl_X7_189 : Cond.fieldLink RX7 189 "GladRoad$Trip" "refused" "I" ∈ zTb := zTb_in (tbq1 (List.mem_of_getElem? (i := 128) rfl)) (by decide +kernel)
theorem fl_X5_18 : Cond.fieldLink RX5 18 "GladRoad$Trip" "theirs" "[I" ∈ zTb := zTb_in (tbq1 (List.mem_of_getElem? (i := 129) rfl)) (by decide +kernel)
theorem fl_X0_76 : Cond.fieldLink RX0 76 "GladRoad$Trip" "theirs" "[I" ∈ zTb := zTb_in (tbq1 (List.mem_of_getElem? (i := 130) rfl)) (by decide +kernel)
theorem fl_X1_60 : Cond.fieldLink RX1 60 "GladRoad$Trip" "theirs" "[I" ∈ zTb := zTb_in (tbq1 (List.mem_of_getElem? (i := 131) rfl)) (by decide +kernel)
theorem fl_X7_115 : Cond.fieldLink RX7 115 "GladRoad$Trip" "theirs" "[I" ∈ zTb := zTb_in (tbq1 (List.mem_of_getElem? (i := 132) rfl)) (by decide +kernel)
theorem fl_X6_12 : Cond.fieldLink RX6 12 "GladRoad$World" "road" "LGladRoad$Road;" ∈ zTb := zTb_in (tbq1 (List.mem_of_getElem? (i := 149) rfl)) (by decide +kernel)
theorem fl_X0_32 : Cond.fieldLink RX0 32 "GladRoad$World" "road" "LGladRoad$Road;" ∈ zTb := zTb_in (tbq1 (List.mem_of_getElem? (i := 150) rfl)) (by decide +kernel)
theorem fl_X3_33 : Cond.fieldLink RX3 33 "GladRoad$World" "road" "LGladRoad$Road;" ∈ zTb := zTb_in (tbq1 (List.mem_of_getElem? (i := 151) rfl)) (by decide +kernel)
theorem fl_X7_44 : Cond.fieldLink RX7 44 "GladRoad$World" "road" "LGladRoad$Road;" ∈ zTb := zTb_in (tbq1 (List.mem_of_getElem? (i := 152) rfl)) (by decide +kernel)
theorem fl_X6_21 : Cond.fieldLink RX6 21 "GladRoad$World" "trip" "LGladRoad$Trip;" ∈ zTb := zTb_in (tbq1 (List.mem_of_getElem? (i := 153) rfl)) (by decide +kernel)
theorem fl_X0_39 : Cond.fieldLink RX0 39 "GladRoad$World" "trip" "LGladRoad$Trip;" ∈ zTb := zTb_in (tbq1 (List.mem_of_getElem? (i := 154) rfl)) (by decide +kernel)
theorem fl_X3_40 : Cond.fieldLink RX3 40 "GladRoad$World" "trip" "LGladRoad$Trip;" ∈ zTb := zTb_in (tbq1 (List.mem_of_getElem? (i := 155) rfl)) (by decide +kernel)
theorem fl_X7_83 : Cond.fieldLink RX7 83 "GladRoad$World" "trip" "LGladRoad$Trip;" ∈ zTb := zTb_in (tbq1 (List.mem_of_getElem? (i := 156) rfl)) (by decide +kernel)
theorem fl_X6_25 : Cond.fieldLink RX6 25 "GladRoad$World" "past" "[LGladRoad$Trip;" ∈ zTb := zTb_in (tbq1 (List.mem_of_getElem? (i := 157) rfl)) (by decide +kernel)
theorem fl_X6_36 : Cond.fieldLink RX6 36 "GladRoad$World" "known" "I" ∈ zTb := zTb_in (tbq1 (List.mem_of_getElem? (i := 158) rfl)) (by decide +kernel)
theorem fl_X7_54 : Cond.fieldLink RX7 54 "GladRoad$World" "known" "I" ∈ zTb := zTb_in (tbq1 (List.mem_of_getElem? (i := 159) rfl)) (by decide +kernel)
theorem fl_X3_9 : Cond.fieldLink RX3 9 "GladRoad$Tape" "letters" "[C" ∈ zTb := zTb_in (tbq1 (List.mem_of_getElem? (i := 179) rfl)) (by decide +kernel)
theorem fl_X7_151 : Cond.fieldLink RX7 151 "GladRoad$Tape" "letters" "[C" ∈ zTb := zTb_in (tbq1 (List.mem_of_getElem? (i := 180) rfl)) (by decide +kernel)
theorem fl_X3_106 : Cond.fieldLink RX3 106 "GladRoad$Tape" "length" "I" ∈ zTb := zTb_in (tbq1 (List.mem_of_getElem? (i := 181) rfl)) (by decide +kernel)
theorem fl_X7_148 : Cond.fieldLink RX7 148 "GladRoad$Tape" "length" "I" ∈ zTb := zTb_in (tbq1 (List.mem_of_getElem? (i := 182) rfl)) (by decide +kernel)
theorem fl_X3_29 : Cond.fieldLink RX3 29 "GladRoad$Tape" "place" "I" ∈ zTb := zTb_in (tbq1 (List.mem_of_getElem? (i := 183) rfl)) (by decide +kernel)
theorem fl_X7_159 : Cond.fieldLink RX7 159 "GladRoad$Tape" "place" "I" ∈ zTb := zTb_in (tbq1 (List.mem_of_getElem? (i := 184) rfl)) (by decide +kernel)
theorem fl_X3_18 : Cond.fieldLink RX3 18 "GladRoad$Tape" "road" "LGladRoad$Road;" ∈ zTb := zTb_in (tbq1 (List.mem_of_getElem? (i := 185) rfl)) (by decide +kernel)
theorem fl_X7_162 : Cond.fieldLink RX7 162 "GladRoad$Tape" "road" "LGladRoad$Road;" ∈ zTb := zTb_in (tbq1 (List.mem_of_getElem? (i := 186) rfl)) (by decide +kernel)
theorem fl_X3_25 : Cond.fieldLink RX3 25 "GladRoad$Tape" "trip" "LGladRoad$Trip;" ∈ zTb := zTb_in (tbq1 (List.mem_of_getElem? (i := 187) rfl)) (by decide +kernel)
theorem fl_X7_167 : Cond.fieldLink RX7 167 "GladRoad$Tape" "trip" "LGladRoad$Trip;" ∈ zTb := zTb_in (tbq1 (List.mem_of_getElem? (i := 188) rfl)) (by decide +kernel)
theorem fl_X0_12 : Cond.fieldLink RX0 12 "GladRoad$Foresight" "road" "LGladRoad$Road;" ∈ zTb := zTb_in (tbq1 (List.mem_of_getElem? (i := 211) rfl)) (by decide +kernel)
theorem fl_X7_242 : Cond.fieldLink RX7 242 "GladRoad$Foresight" "road" "LGladRoad$Road;" ∈ zTb := zTb_in (tbq1 (List.mem_of_getElem? (i := 212) rfl)) (by decide +kernel)
theorem fl_X0_21 : Cond.fieldLink RX0 21 "GladRoad$Foresight" "trip" "LGladRoad$Trip;" ∈ zTb := zTb_in (tbq1 (List.mem_of_getElem? (i := 213) rfl)) (by decide +kernel)
theorem fl_X7_209 : Cond.fieldLink RX7 209 "GladRoad$Foresight" "trip" "LGladRoad$Trip;" ∈ zTb := zTb_in (tbq1 (List.mem_of_getElem? (i := 214) rfl)) (by decide +kernel)
theorem fl_X0_25 : Cond.fieldLink RX0 25 "GladRoad$Foresight" "other" "LGladRoad$Trip;" ∈ zTb := zTb_in (tbq1 (List.mem_of_getElem? (i := 215) rfl)) (by decide +kernel)
theorem fl_X7_210 : Cond.fieldLink RX7 210 "GladRoad$Foresight" "other" "LGladRoad$Trip;" ∈ zTb := zTb_in (tbq1 (List.mem_of_getElem? (i := 216) rfl)) (by decide +kernel)
theorem fl_X0_28 : Cond.fieldLink RX0 28 "GladRoad$Foresight" "forks" "[LGladRoad$Trip;" ∈ zTb := zTb_in (tbq1 (List.mem_of_getElem? (i := 217) rfl)) (by decide +kernel)
theorem fl_X0_80 : Cond.fieldLink RX0 80 "GladRoad$Foresight" "milestone" "I" ∈ zTb := zTb_in (tbq1 (List.mem_of_getElem? (i := 218) rfl)) (by decide +kernel)
theorem fl_X7_200 : Cond.fieldLink RX7 200 "GladRoad$Foresight" "milestone" "I" ∈ zTb := zTb_in (tbq1 (List.mem_of_getElem? (i := 219) rfl)) (by decide +kernel)
theorem fl_X2_15 : Cond.fieldLink RX2 15 "GladRoad$Sheet" "isThere" "Z" ∈ zTb := zTb_in (tbq1 (List.mem_of_getElem? (i := 238) rfl)) (by decide +kernel)
theorem fl_X7_255 : Cond.fieldLink RX7 255 "GladRoad$Sheet" "isThere" "Z" ∈ zTb := zTb_in (tbq1 (List.mem_of_getElem? (i := 239) rfl)) (by decide +kernel)
theorem fl_X2_19 : Cond.fieldLink RX2 19 "GladRoad$Sheet" "lane" "I" ∈ zTb := zTb_in (tbq2 (List.mem_of_getElem? (i := 0) rfl)) (by decide +kernel)
theorem fl_X7_259 : Cond.fieldLink RX7 259 "GladRoad$Sheet" "lane" "I" ∈ zTb := zTb_in (tbq2 (List.mem_of_getElem? (i := 1) rfl)) (by decide +kernel)
theorem fl_X2_23 : Cond.fieldLink RX2 23 "GladRoad$Sheet" "length" "I" ∈ zTb := zTb_in (tbq2 (List.mem_of_getElem? (i := 2) rfl)) (by decide +kernel)
theorem fl_X7_258 : Cond.fieldLink RX7 258 "GladRoad$Sheet" "length" "I" ∈ zTb := zTb_in (tbq2 (List.mem_of_getElem? (i := 3) rfl)) (by decide +kernel)
theorem fl_X2_9 : Cond.fieldLink RX2 9 "GladRoad$Sheet" "items" "[J" ∈ zTb := zTb_in (tbq2 (List.mem_of_getElem? (i := 4) rfl)) (by decide +kernel)
theorem fl_X7_232 : Cond.fieldLink RX7 232 "GladRoad$Sheet" "items" "[J" ∈ zTb := zTb_in (tbq2 (List.mem_of_getElem? (i := 5) rfl)) (by decide +kernel)
theorem fl_X7_10 : Cond.fieldLink RX7 10 "GladRoad" "now" "LGladRoad$World;" ∈ zTb := zTb_in (tbq2 (List.mem_of_getElem? (i := 16) rfl)) (by decide +kernel)
theorem fl_X7_16 : Cond.fieldLink RX7 16 "GladRoad" "kept" "LGladRoad$World;" ∈ zTb := zTb_in (tbq2 (List.mem_of_getElem? (i := 17) rfl)) (by decide +kernel)
theorem fl_X7_225 : Cond.fieldLink RX7 225 "GladRoad" "isKept" "Z" ∈ zTb := zTb_in (tbq2 (List.mem_of_getElem? (i := 18) rfl)) (by decide +kernel)
theorem fl_X7_22 : Cond.fieldLink RX7 22 "GladRoad" "tape" "LGladRoad$Tape;" ∈ zTb := zTb_in (tbq2 (List.mem_of_getElem? (i := 19) rfl)) (by decide +kernel)
theorem fl_X7_29 : Cond.fieldLink RX7 29 "GladRoad" "foresight" "LGladRoad$Foresight;" ∈ zTb := zTb_in (tbq2 (List.mem_of_getElem? (i := 20) rfl)) (by decide +kernel)
theorem fl_X7_35 : Cond.fieldLink RX7 35 "GladRoad" "sheets" "[LGladRoad$Sheet;" ∈ zTb := zTb_in (tbq2 (List.mem_of_getElem? (i := 21) rfl)) (by decide +kernel)
theorem fl_X8_69 : Cond.fieldLink RX8 69 "GladRoadModel" "things" "I" ∈ zTb := zTb_in (tbq4 (List.mem_of_getElem? (i := 32) rfl)) (by decide +kernel)
theorem fl_X8_76 : Cond.fieldLink RX8 76 "GladRoadModel" "people" "I" ∈ zTb := zTb_in (tbq4 (List.mem_of_getElem? (i := 33) rfl)) (by decide +kernel)
theorem fl_X8_7 : Cond.fieldLink RX8 7 "GladRoadModel" "thing" "[I" ∈ zTb := zTb_in (tbq4 (List.mem_of_getElem? (i := 34) rfl)) (by decide +kernel)
theorem fl_X8_13 : Cond.fieldLink RX8 13 "GladRoadModel" "person" "[I" ∈ zTb := zTb_in (tbq4 (List.mem_of_getElem? (i := 35) rfl)) (by decide +kernel)
theorem fl_X8_16 : Cond.fieldLink RX8 16 "GladRoadModel" "now" "[I" ∈ zTb := zTb_in (tbq4 (List.mem_of_getElem? (i := 36) rfl)) (by decide +kernel)
theorem fl_X8_60 : Cond.fieldLink RX8 60 "GladRoadModel" "heed" "I" ∈ zTb := zTb_in (tbq4 (List.mem_of_getElem? (i := 37) rfl)) (by decide +kernel)
theorem fl_X8_56 : Cond.fieldLink RX8 56 "GladRoadModel" "well" "I" ∈ zTb := zTb_in (tbq4 (List.mem_of_getElem? (i := 38) rfl)) (by decide +kernel)
theorem fl_X8_186 : Cond.fieldLink RX8 186 "GladRoadModel" "more" "I" ∈ zTb := zTb_in (tbq4 (List.mem_of_getElem? (i := 39) rfl)) (by decide +kernel)
theorem fl_X8_163 : Cond.fieldLink RX8 163 "GladRoadModel" "tossed" "I" ∈ zTb := zTb_in (tbq4 (List.mem_of_getElem? (i := 40) rfl)) (by decide +kernel)
theorem fl_X8_19 : Cond.fieldLink RX8 19 "GladRoadModel" "tape" "[I" ∈ zTb := zTb_in (tbq4 (List.mem_of_getElem? (i := 41) rfl)) (by decide +kernel)
theorem fl_X8_121 : Cond.fieldLink RX8 121 "GladRoadModel" "taped" "I" ∈ zTb := zTb_in (tbq4 (List.mem_of_getElem? (i := 42) rfl)) (by decide +kernel)
theorem fl_X8_124 : Cond.fieldLink RX8 124 "GladRoadModel" "at" "I" ∈ zTb := zTb_in (tbq4 (List.mem_of_getElem? (i := 43) rfl)) (by decide +kernel)
theorem fl_X8_127 : Cond.fieldLink RX8 127 "GladRoadModel" "wrong" "Z" ∈ zTb := zTb_in (tbq4 (List.mem_of_getElem? (i := 44) rfl)) (by decide +kernel)
theorem fl_X8_139 : Cond.fieldLink RX8 139 "GladRoadModel" "manyThings" "I" ∈ zTb := zTb_in (tbq4 (List.mem_of_getElem? (i := 45) rfl)) (by decide +kernel)
theorem fl_X8_148 : Cond.fieldLink RX8 148 "GladRoadModel" "manyPeople" "I" ∈ zTb := zTb_in (tbq4 (List.mem_of_getElem? (i := 46) rfl)) (by decide +kernel)
theorem fl_X8_154 : Cond.fieldLink RX8 154 "GladRoadModel" "his" "I" ∈ zTb := zTb_in (tbq4 (List.mem_of_getElem? (i := 47) rfl)) (by decide +kernel)
theorem fl_X8_22 : Cond.fieldLink RX8 22 "GladRoadModel" "readThings" "[I" ∈ zTb := zTb_in (tbq4 (List.mem_of_getElem? (i := 48) rfl)) (by decide +kernel)
theorem fl_X8_25 : Cond.fieldLink RX8 25 "GladRoadModel" "readPeople" "[I" ∈ zTb := zTb_in (tbq4 (List.mem_of_getElem? (i := 49) rfl)) (by decide +kernel)
theorem fl_X8_179 : Cond.fieldLink RX8 179 "GladRoadModel" "refused" "I" ∈ zTb := zTb_in (tbq4 (List.mem_of_getElem? (i := 50) rfl)) (by decide +kernel)
theorem fl_X8_28 : Cond.fieldLink RX8 28 "GladRoadModel" "undone" "[I" ∈ zTb := zTb_in (tbq4 (List.mem_of_getElem? (i := 51) rfl)) (by decide +kernel)
theorem fl_X8_66 : Cond.fieldLink RX8 66 "GladRoadModel" "undos" "I" ∈ zTb := zTb_in (tbq4 (List.mem_of_getElem? (i := 52) rfl)) (by decide +kernel)
theorem fl_X8_31 : Cond.fieldLink RX8 31 "GladRoadModel" "aside" "[I" ∈ zTb := zTb_in (tbq4 (List.mem_of_getElem? (i := 53) rfl)) (by decide +kernel)
theorem fl_X8_34 : Cond.fieldLink RX8 34 "GladRoadModel" "meets" "[I" ∈ zTb := zTb_in (tbq4 (List.mem_of_getElem? (i := 54) rfl)) (by decide +kernel)
theorem fl_X8_37 : Cond.fieldLink RX8 37 "GladRoadModel" "two" "[I" ∈ zTb := zTb_in (tbq4 (List.mem_of_getElem? (i := 55) rfl)) (by decide +kernel)
theorem fl_X8_40 : Cond.fieldLink RX8 40 "GladRoadModel" "image" "[I" ∈ zTb := zTb_in (tbq4 (List.mem_of_getElem? (i := 56) rfl)) (by decide +kernel)
theorem fl_X8_220 : Cond.fieldLink RX8 220 "GladRoadModel" "isImage" "Z" ∈ zTb := zTb_in (tbq4 (List.mem_of_getElem? (i := 57) rfl)) (by decide +kernel)
theorem fl_X8_43 : Cond.fieldLink RX8 43 "GladRoadModel" "lanes" "[I" ∈ zTb := zTb_in (tbq4 (List.mem_of_getElem? (i := 58) rfl)) (by decide +kernel)
theorem fl_X8_46 : Cond.fieldLink RX8 46 "GladRoadModel" "sizes" "[I" ∈ zTb := zTb_in (tbq4 (List.mem_of_getElem? (i := 59) rfl)) (by decide +kernel)
theorem fl_X8_49 : Cond.fieldLink RX8 49 "GladRoadModel" "items" "[J" ∈ zTb := zTb_in (tbq4 (List.mem_of_getElem? (i := 60) rfl)) (by decide +kernel)
theorem fl_X8_53 : Cond.fieldLink RX8 53 "GladRoadModel" "moved" "[J" ∈ zTb := zTb_in (tbq4 (List.mem_of_getElem? (i := 61) rfl)) (by decide +kernel)
theorem cl_X8_79 : Cond.constantLong RX8 79 (3) ∈ zTb := zTb_in (tbq4 (List.mem_of_getElem? (i := 127) rfl)) (by decide +kernel)
theorem cl_X8_81 : Cond.constantLong RX8 81 (99) ∈ zTb := zTb_in (tbq4 (List.mem_of_getElem? (i := 131) rfl)) (by decide +kernel)
theorem cl_X8_83 : Cond.constantLong RX8 83 (30) ∈ zTb := zTb_in (tbq4 (List.mem_of_getElem? (i := 132) rfl)) (by decide +kernel)
theorem cl_X8_93 : Cond.constantLong RX8 93 (4) ∈ zTb := zTb_in (tbq4 (List.mem_of_getElem? (i := 145) rfl)) (by decide +kernel)
theorem cl_X8_103 : Cond.constantLong RX8 103 (11) ∈ zTb := zTb_in (tbq4 (List.mem_of_getElem? (i := 162) rfl)) (by decide +kernel)
theorem cl_X8_105 : Cond.constantLong RX8 105 (20) ∈ zTb := zTb_in (tbq4 (List.mem_of_getElem? (i := 163) rfl)) (by decide +kernel)
theorem cl_X8_115 : Cond.constantLong RX8 115 (2) ∈ zTb := zTb_in (tbq4 (List.mem_of_getElem? (i := 176) rfl)) (by decide +kernel)
theorem cl_X8_117 : Cond.constantLong RX8 117 (32) ∈ zTb := zTb_in (tbq4 (List.mem_of_getElem? (i := 201) rfl)) (by decide +kernel)
theorem cl_X8_119 : Cond.constantLong RX8 119 (126) ∈ zTb := zTb_in (tbq4 (List.mem_of_getElem? (i := 202) rfl)) (by decide +kernel)
theorem cl_X8_135 : Cond.constantLong RX8 135 (48) ∈ zTb := zTb_in (tbq4 (List.mem_of_getElem? (i := 219) rfl)) (by decide +kernel)
theorem cl_X8_137 : Cond.constantLong RX8 137 (57) ∈ zTb := zTb_in (tbq4 (List.mem_of_getElem? (i := 220) rfl)) (by decide +kernel)
theorem cl_X8_211 : Cond.constantLong RX8 211 (-99) ∈ zTb := zTb_in (tbq5 (List.mem_of_getElem? (i := 89) rfl)) (by decide +kernel)
theorem cl_X8_233 : Cond.constantLong RX8 233 (8) ∈ zTb := zTb_in (tbq5 (List.mem_of_getElem? (i := 121) rfl)) (by decide +kernel)
theorem cl_L_146 : Cond.constantLong RL 146 (4294967295) ∈ zTb := zTb_in (tbq5 (List.mem_of_getElem? (i := 154) rfl)) (by decide +kernel)
