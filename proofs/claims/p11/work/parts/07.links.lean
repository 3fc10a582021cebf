theorem zm_X7_thing : zMe yX7_thing cX7_thing 5 (some .int) 4 := ⟨by decide +kernel, zTb_in (List.mem_of_getElem? (i := 313) (by decide +kernel)) (by decide +kernel), zTb_in (List.mem_of_getElem? (i := 36) (by decide +kernel)) (by decide +kernel), by decide +kernel, by decide⟩
theorem zv_X7_thing : zMv yX7_thing := ⟨zTb_in (List.mem_of_getElem? (i := 311) (by decide +kernel)) (by decide +kernel), zTb_in (List.mem_of_getElem? (i := 312) (by decide +kernel)) (by decide +kernel)⟩
theorem zm_X7_isNot : zMe yX7_isNot cX7_isNot 2 (some .boolean) 2 := ⟨by decide +kernel, zTb_in (List.mem_of_getElem? (i := 316) (by decide +kernel)) (by decide +kernel), zTb_in (List.mem_of_getElem? (i := 36) (by decide +kernel)) (by decide +kernel), by decide +kernel, by decide⟩
theorem zst_X7_isNot : Cond.static yX7_isNot ∈ zTb := zTb_in (List.mem_of_getElem? (i := 315) (by decide +kernel)) (by decide +kernel)
theorem zm_X1_addThing : zMe yX1_addThing cX1_addThing 5 (some .int) 4 := ⟨by decide +kernel, zTb_in (List.mem_of_getElem? (i := 320) (by decide +kernel)) (by decide +kernel), zTb_in (List.mem_of_getElem? (i := 38) (by decide +kernel)) (by decide +kernel), by decide +kernel, by decide⟩
theorem zv_X1_addThing : zMv yX1_addThing := ⟨zTb_in (List.mem_of_getElem? (i := 318) (by decide +kernel)) (by decide +kernel), zTb_in (List.mem_of_getElem? (i := 319) (by decide +kernel)) (by decide +kernel)⟩
theorem zm_X4_set : zMe yX4_set cX4_set 5 none 4 := ⟨by decide +kernel, zTb_in (List.mem_of_getElem? (i := 324) (by decide +kernel)) (by decide +kernel), zTb_in (List.mem_of_getElem? (i := 39) (by decide +kernel)) (by decide +kernel), by decide +kernel, by decide⟩
theorem zv_X4_set : zMv yX4_set := ⟨zTb_in (List.mem_of_getElem? (i := 322) (by decide +kernel)) (by decide +kernel), zTb_in (List.mem_of_getElem? (i := 323) (by decide +kernel)) (by decide +kernel)⟩
theorem zm_X7_of : zMe yX7_of cX7_of 4 (some .int) 2 := ⟨by decide +kernel, zTb_in (List.mem_of_getElem? (i := 328) (by decide +kernel)) (by decide +kernel), zTb_in (List.mem_of_getElem? (i := 36) (by decide +kernel)) (by decide +kernel), by decide +kernel, by decide⟩
theorem zv_X7_of : zMv yX7_of := ⟨zTb_in (List.mem_of_getElem? (i := 326) (by decide +kernel)) (by decide +kernel), zTb_in (List.mem_of_getElem? (i := 327) (by decide +kernel)) (by decide +kernel)⟩
theorem zm_X1_isThing : zMe yX1_isThing cX1_isThing 2 (some .boolean) 1 := ⟨by decide +kernel, zTb_in (List.mem_of_getElem? (i := 332) (by decide +kernel)) (by decide +kernel), zTb_in (List.mem_of_getElem? (i := 38) (by decide +kernel)) (by decide +kernel), by decide +kernel, by decide⟩
theorem zv_X1_isThing : zMv yX1_isThing := ⟨zTb_in (List.mem_of_getElem? (i := 330) (by decide +kernel)) (by decide +kernel), zTb_in (List.mem_of_getElem? (i := 331) (by decide +kernel)) (by decide +kernel)⟩
theorem zm_X1_whoHas : zMe yX1_whoHas cX1_whoHas 4 (some .int) 2 := ⟨by decide +kernel, zTb_in (List.mem_of_getElem? (i := 336) (by decide +kernel)) (by decide +kernel), zTb_in (List.mem_of_getElem? (i := 38) (by decide +kernel)) (by decide +kernel), by decide +kernel, by decide⟩
theorem zv_X1_whoHas : zMv yX1_whoHas := ⟨zTb_in (List.mem_of_getElem? (i := 334) (by decide +kernel)) (by decide +kernel), zTb_in (List.mem_of_getElem? (i := 335) (by decide +kernel)) (by decide +kernel)⟩
theorem zm_X7_felt : zMe yX7_felt cX7_felt 4 (some .int) 3 := ⟨by decide +kernel, zTb_in (List.mem_of_getElem? (i := 340) (by decide +kernel)) (by decide +kernel), zTb_in (List.mem_of_getElem? (i := 36) (by decide +kernel)) (by decide +kernel), by decide +kernel, by decide⟩
theorem zv_X7_felt : zMv yX7_felt := ⟨zTb_in (List.mem_of_getElem? (i := 338) (by decide +kernel)) (by decide +kernel), zTb_in (List.mem_of_getElem? (i := 339) (by decide +kernel)) (by decide +kernel)⟩
theorem zm_X4_feltBy : zMe yX4_feltBy cX4_feltBy 3 (some .int) 2 := ⟨by decide +kernel, zTb_in (List.mem_of_getElem? (i := 344) (by decide +kernel)) (by decide +kernel), zTb_in (List.mem_of_getElem? (i := 39) (by decide +kernel)) (by decide +kernel), by decide +kernel, by decide⟩
theorem zv_X4_feltBy : zMv yX4_feltBy := ⟨zTb_in (List.mem_of_getElem? (i := 342) (by decide +kernel)) (by decide +kernel), zTb_in (List.mem_of_getElem? (i := 343) (by decide +kernel)) (by decide +kernel)⟩
theorem zm_X7_person : zMe yX7_person cX7_person 4 (some .int) 3 := ⟨by decide +kernel, zTb_in (List.mem_of_getElem? (i := 348) (by decide +kernel)) (by decide +kernel), zTb_in (List.mem_of_getElem? (i := 36) (by decide +kernel)) (by decide +kernel), by decide +kernel, by decide⟩
theorem zv_X7_person : zMv yX7_person := ⟨zTb_in (List.mem_of_getElem? (i := 346) (by decide +kernel)) (by decide +kernel), zTb_in (List.mem_of_getElem? (i := 347) (by decide +kernel)) (by decide +kernel)⟩
theorem zm_X7_isNoThingOrNone : zMe yX7_isNoThingOrNone cX7_isNoThingOrNone 2 (some .boolean) 1 := ⟨by decide +kernel, zTb_in (List.mem_of_getElem? (i := 352) (by decide +kernel)) (by decide +kernel), zTb_in (List.mem_of_getElem? (i := 36) (by decide +kernel)) (by decide +kernel), by decide +kernel, by decide⟩
theorem zv_X7_isNoThingOrNone : zMv yX7_isNoThingOrNone := ⟨zTb_in (List.mem_of_getElem? (i := 351) (by decide +kernel)) (by decide +kernel), zTb_in (List.mem_of_getElem? (i := 0) (by decide +kernel)) (by decide +kernel)⟩
theorem zm_X7_isHad : zMe yX7_isHad cX7_isHad 2 (some .boolean) 1 := ⟨by decide +kernel, zTb_in (List.mem_of_getElem? (i := 356) (by decide +kernel)) (by decide +kernel), zTb_in (List.mem_of_getElem? (i := 36) (by decide +kernel)) (by decide +kernel), by decide +kernel, by decide⟩
theorem zv_X7_isHad : zMv yX7_isHad := ⟨zTb_in (List.mem_of_getElem? (i := 355) (by decide +kernel)) (by decide +kernel), zTb_in (List.mem_of_getElem? (i := 1) (by decide +kernel)) (by decide +kernel)⟩
theorem zm_X1_addPerson : zMe yX1_addPerson cX1_addPerson 5 (some .int) 4 := ⟨by decide +kernel, zTb_in (List.mem_of_getElem? (i := 360) (by decide +kernel)) (by decide +kernel), zTb_in (List.mem_of_getElem? (i := 38) (by decide +kernel)) (by decide +kernel), by decide +kernel, by decide⟩
theorem zv_X1_addPerson : zMv yX1_addPerson := ⟨zTb_in (List.mem_of_getElem? (i := 358) (by decide +kernel)) (by decide +kernel), zTb_in (List.mem_of_getElem? (i := 359) (by decide +kernel)) (by decide +kernel)⟩
theorem zm_X7_told : zMe yX7_told cX7_told 3 (some .int) 2 := ⟨by decide +kernel, zTb_in (List.mem_of_getElem? (i := 364) (by decide +kernel)) (by decide +kernel), zTb_in (List.mem_of_getElem? (i := 36) (by decide +kernel)) (by decide +kernel), by decide +kernel, by decide⟩
theorem zv_X7_told : zMv yX7_told := ⟨zTb_in (List.mem_of_getElem? (i := 362) (by decide +kernel)) (by decide +kernel), zTb_in (List.mem_of_getElem? (i := 363) (by decide +kernel)) (by decide +kernel)⟩
theorem zm_X1_isPerson : zMe yX1_isPerson cX1_isPerson 2 (some .boolean) 1 := ⟨by decide +kernel, zTb_in (List.mem_of_getElem? (i := 368) (by decide +kernel)) (by decide +kernel), zTb_in (List.mem_of_getElem? (i := 38) (by decide +kernel)) (by decide +kernel), by decide +kernel, by decide⟩
theorem zv_X1_isPerson : zMv yX1_isPerson := ⟨zTb_in (List.mem_of_getElem? (i := 366) (by decide +kernel)) (by decide +kernel), zTb_in (List.mem_of_getElem? (i := 367) (by decide +kernel)) (by decide +kernel)⟩
theorem zm_X7_move : zMe yX7_move cX7_move 4 (some .int) 2 := ⟨by decide +kernel, zTb_in (List.mem_of_getElem? (i := 372) (by decide +kernel)) (by decide +kernel), zTb_in (List.mem_of_getElem? (i := 36) (by decide +kernel)) (by decide +kernel), by decide +kernel, by decide⟩
theorem zv_X7_move : zMv yX7_move := ⟨zTb_in (List.mem_of_getElem? (i := 370) (by decide +kernel)) (by decide +kernel), zTb_in (List.mem_of_getElem? (i := 371) (by decide +kernel)) (by decide +kernel)⟩
theorem zm_X7_take : zMe yX7_take cX7_take 3 (some .int) 1 := ⟨by decide +kernel, zTb_in (List.mem_of_getElem? (i := 376) (by decide +kernel)) (by decide +kernel), zTb_in (List.mem_of_getElem? (i := 36) (by decide +kernel)) (by decide +kernel), by decide +kernel, by decide⟩
theorem zv_X7_take : zMv yX7_take := ⟨zTb_in (List.mem_of_getElem? (i := 374) (by decide +kernel)) (by decide +kernel), zTb_in (List.mem_of_getElem? (i := 375) (by decide +kernel)) (by decide +kernel)⟩
theorem zm_X5_hasNew : zMe yX5_hasNew cX5_hasNew 2 none 1 := ⟨by decide +kernel, zTb_in (List.mem_of_getElem? (i := 380) (by decide +kernel)) (by decide +kernel), zTb_in (List.mem_of_getElem? (i := 40) (by decide +kernel)) (by decide +kernel), by decide +kernel, by decide⟩
theorem zv_X5_hasNew : zMv yX5_hasNew := ⟨zTb_in (List.mem_of_getElem? (i := 378) (by decide +kernel)) (by decide +kernel), zTb_in (List.mem_of_getElem? (i := 379) (by decide +kernel)) (by decide +kernel)⟩
theorem zm_X7_count : zMe yX7_count cX7_count 2 (some .int) 1 := ⟨by decide +kernel, zTb_in (List.mem_of_getElem? (i := 384) (by decide +kernel)) (by decide +kernel), zTb_in (List.mem_of_getElem? (i := 36) (by decide +kernel)) (by decide +kernel), by decide +kernel, by decide⟩
theorem zv_X7_count : zMv yX7_count := ⟨zTb_in (List.mem_of_getElem? (i := 382) (by decide +kernel)) (by decide +kernel), zTb_in (List.mem_of_getElem? (i := 383) (by decide +kernel)) (by decide +kernel)⟩
theorem zm_X7_heed : zMe yX7_heed cX7_heed 3 (some .int) 1 := ⟨by decide +kernel, zTb_in (List.mem_of_getElem? (i := 388) (by decide +kernel)) (by decide +kernel), zTb_in (List.mem_of_getElem? (i := 36) (by decide +kernel)) (by decide +kernel), by decide +kernel, by decide⟩
theorem zv_X7_heed : zMv yX7_heed := ⟨zTb_in (List.mem_of_getElem? (i := 386) (by decide +kernel)) (by decide +kernel), zTb_in (List.mem_of_getElem? (i := 387) (by decide +kernel)) (by decide +kernel)⟩
theorem zm_X7_well : zMe yX7_well cX7_well 3 (some .int) 1 := ⟨by decide +kernel, zTb_in (List.mem_of_getElem? (i := 392) (by decide +kernel)) (by decide +kernel), zTb_in (List.mem_of_getElem? (i := 36) (by decide +kernel)) (by decide +kernel), by decide +kernel, by decide⟩
theorem zv_X7_well : zMv yX7_well := ⟨zTb_in (List.mem_of_getElem? (i := 390) (by decide +kernel)) (by decide +kernel), zTb_in (List.mem_of_getElem? (i := 391) (by decide +kernel)) (by decide +kernel)⟩
theorem zm_X7_type : zMe yX7_type cX7_type 2 (some .int) 1 := ⟨by decide +kernel, zTb_in (List.mem_of_getElem? (i := 396) (by decide +kernel)) (by decide +kernel), zTb_in (List.mem_of_getElem? (i := 36) (by decide +kernel)) (by decide +kernel), by decide +kernel, by decide⟩
theorem zv_X7_type : zMv yX7_type := ⟨zTb_in (List.mem_of_getElem? (i := 394) (by decide +kernel)) (by decide +kernel), zTb_in (List.mem_of_getElem? (i := 395) (by decide +kernel)) (by decide +kernel)⟩
theorem zm_X7_road : zMe yX7_road cX7_road 2 (some .int) 0 := ⟨by decide +kernel, zTb_in (List.mem_of_getElem? (i := 400) (by decide +kernel)) (by decide +kernel), zTb_in (List.mem_of_getElem? (i := 36) (by decide +kernel)) (by decide +kernel), by decide +kernel, by decide⟩
theorem zv_X7_road : zMv yX7_road := ⟨zTb_in (List.mem_of_getElem? (i := 398) (by decide +kernel)) (by decide +kernel), zTb_in (List.mem_of_getElem? (i := 399) (by decide +kernel)) (by decide +kernel)⟩
theorem zm_X3_readRoad : zMe yX3_readRoad cX3_readRoad 3 (some .boolean) 1 := ⟨by decide +kernel, zTb_in (List.mem_of_getElem? (i := 404) (by decide +kernel)) (by decide +kernel), zTb_in (List.mem_of_getElem? (i := 41) (by decide +kernel)) (by decide +kernel), by decide +kernel, by decide⟩
theorem zv_X3_readRoad : zMv yX3_readRoad := ⟨zTb_in (List.mem_of_getElem? (i := 402) (by decide +kernel)) (by decide +kernel), zTb_in (List.mem_of_getElem? (i := 403) (by decide +kernel)) (by decide +kernel)⟩
theorem zm_X1_setFrom : zMe yX1_setFrom cX1_setFrom 4 none 1 := ⟨by decide +kernel, zTb_in (List.mem_of_getElem? (i := 408) (by decide +kernel)) (by decide +kernel), zTb_in (List.mem_of_getElem? (i := 38) (by decide +kernel)) (by decide +kernel), by decide +kernel, by decide⟩
theorem zv_X1_setFrom : zMv yX1_setFrom := ⟨zTb_in (List.mem_of_getElem? (i := 406) (by decide +kernel)) (by decide +kernel), zTb_in (List.mem_of_getElem? (i := 407) (by decide +kernel)) (by decide +kernel)⟩
theorem zm_X5_setFrom : zMe yX5_setFrom cX5_setFrom 2 none 1 := ⟨by decide +kernel, zTb_in (List.mem_of_getElem? (i := 415) (by decide +kernel)) (by decide +kernel), zTb_in (List.mem_of_getElem? (i := 40) (by decide +kernel)) (by decide +kernel), by decide +kernel, by decide⟩
theorem zv_X5_setFrom : zMv yX5_setFrom := ⟨zTb_in (List.mem_of_getElem? (i := 413) (by decide +kernel)) (by decide +kernel), zTb_in (List.mem_of_getElem? (i := 414) (by decide +kernel)) (by decide +kernel)⟩
theorem zm_X5_setOut : zMe yX5_setOut cX5_setOut 1 none 0 := ⟨by decide +kernel, zTb_in (List.mem_of_getElem? (i := 420) (by decide +kernel)) (by decide +kernel), zTb_in (List.mem_of_getElem? (i := 40) (by decide +kernel)) (by decide +kernel), by decide +kernel, by decide⟩
theorem zv_X5_setOut : zMv yX5_setOut := ⟨zTb_in (List.mem_of_getElem? (i := 418) (by decide +kernel)) (by decide +kernel), zTb_in (List.mem_of_getElem? (i := 419) (by decide +kernel)) (by decide +kernel)⟩
theorem zm_X3_readThings : zMe yX3_readThings cX3_readThings 2 (some .boolean) 0 := ⟨by decide +kernel, zTb_in (List.mem_of_getElem? (i := 425) (by decide +kernel)) (by decide +kernel), zTb_in (List.mem_of_getElem? (i := 41) (by decide +kernel)) (by decide +kernel), by decide +kernel, by decide⟩
theorem zv_X3_readThings : zMv yX3_readThings := ⟨zTb_in (List.mem_of_getElem? (i := 423) (by decide +kernel)) (by decide +kernel), zTb_in (List.mem_of_getElem? (i := 424) (by decide +kernel)) (by decide +kernel)⟩
theorem zm_X3_readThing : zMe yX3_readThing cX3_readThing 5 (some .boolean) 0 := ⟨by decide +kernel, zTb_in (List.mem_of_getElem? (i := 429) (by decide +kernel)) (by decide +kernel), zTb_in (List.mem_of_getElem? (i := 41) (by decide +kernel)) (by decide +kernel), by decide +kernel, by decide⟩
theorem zv_X3_readThing : zMv yX3_readThing := ⟨zTb_in (List.mem_of_getElem? (i := 427) (by decide +kernel)) (by decide +kernel), zTb_in (List.mem_of_getElem? (i := 428) (by decide +kernel)) (by decide +kernel)⟩
theorem zm_X3_next : zMe yX3_next cX3_next 1 (some .char) 0 := ⟨by decide +kernel, zTb_in (List.mem_of_getElem? (i := 434) (by decide +kernel)) (by decide +kernel), zTb_in (List.mem_of_getElem? (i := 41) (by decide +kernel)) (by decide +kernel), by decide +kernel, by decide⟩
theorem zv_X3_next : zMv yX3_next := ⟨zTb_in (List.mem_of_getElem? (i := 432) (by decide +kernel)) (by decide +kernel), zTb_in (List.mem_of_getElem? (i := 433) (by decide +kernel)) (by decide +kernel)⟩
theorem zm_X3_readNumber : zMe yX3_readNumber cX3_readNumber 4 (some .int) 1 := ⟨by decide +kernel, zTb_in (List.mem_of_getElem? (i := 524) (by decide +kernel)) (by decide +kernel), zTb_in (List.mem_of_getElem? (i := 41) (by decide +kernel)) (by decide +kernel), by decide +kernel, by decide⟩
theorem zv_X3_readNumber : zMv yX3_readNumber := ⟨zTb_in (List.mem_of_getElem? (i := 522) (by decide +kernel)) (by decide +kernel), zTb_in (List.mem_of_getElem? (i := 523) (by decide +kernel)) (by decide +kernel)⟩
theorem zm_X3_isDigit : zMe yX3_isDigit cX3_isDigit 1 (some .boolean) 1 := ⟨by decide +kernel, zTb_in (List.mem_of_getElem? (i := 527) (by decide +kernel)) (by decide +kernel), zTb_in (List.mem_of_getElem? (i := 41) (by decide +kernel)) (by decide +kernel), by decide +kernel, by decide⟩
theorem zst_X3_isDigit : Cond.static yX3_isDigit ∈ zTb := zTb_in (List.mem_of_getElem? (i := 526) (by decide +kernel)) (by decide +kernel)
theorem zm_X3_reads : zMe yX3_reads cX3_reads 2 (some .boolean) 1 := ⟨by decide +kernel, zTb_in (List.mem_of_getElem? (i := 532) (by decide +kernel)) (by decide +kernel), zTb_in (List.mem_of_getElem? (i := 41) (by decide +kernel)) (by decide +kernel), by decide +kernel, by decide⟩
theorem zv_X3_reads : zMv yX3_reads := ⟨zTb_in (List.mem_of_getElem? (i := 530) (by decide +kernel)) (by decide +kernel), zTb_in (List.mem_of_getElem? (i := 531) (by decide +kernel)) (by decide +kernel)⟩
theorem zm_X3_readPeople : zMe yX3_readPeople cX3_readPeople 2 (some .boolean) 0 := ⟨by decide +kernel, zTb_in (List.mem_of_getElem? (i := 537) (by decide +kernel)) (by decide +kernel), zTb_in (List.mem_of_getElem? (i := 41) (by decide +kernel)) (by decide +kernel), by decide +kernel, by decide⟩
theorem zv_X3_readPeople : zMv yX3_readPeople := ⟨zTb_in (List.mem_of_getElem? (i := 535) (by decide +kernel)) (by decide +kernel), zTb_in (List.mem_of_getElem? (i := 536) (by decide +kernel)) (by decide +kernel)⟩
theorem zm_X3_readPerson : zMe yX3_readPerson cX3_readPerson 4 (some .boolean) 0 := ⟨by decide +kernel, zTb_in (List.mem_of_getElem? (i := 541) (by decide +kernel)) (by decide +kernel), zTb_in (List.mem_of_getElem? (i := 41) (by decide +kernel)) (by decide +kernel), by decide +kernel, by decide⟩
theorem zv_X3_readPerson : zMv yX3_readPerson := ⟨zTb_in (List.mem_of_getElem? (i := 539) (by decide +kernel)) (by decide +kernel), zTb_in (List.mem_of_getElem? (i := 540) (by decide +kernel)) (by decide +kernel)⟩
theorem zm_X3_readFreeThing : zMe yX3_readFreeThing cX3_readFreeThing 2 (some .int) 0 := ⟨by decide +kernel, zTb_in (List.mem_of_getElem? (i := 545) (by decide +kernel)) (by decide +kernel), zTb_in (List.mem_of_getElem? (i := 41) (by decide +kernel)) (by decide +kernel), by decide +kernel, by decide⟩
theorem zv_X3_readFreeThing : zMv yX3_readFreeThing := ⟨zTb_in (List.mem_of_getElem? (i := 543) (by decide +kernel)) (by decide +kernel), zTb_in (List.mem_of_getElem? (i := 544) (by decide +kernel)) (by decide +kernel)⟩
theorem zm_X3_readHis : zMe yX3_readHis cX3_readHis 2 (some .boolean) 0 := ⟨by decide +kernel, zTb_in (List.mem_of_getElem? (i := 552) (by decide +kernel)) (by decide +kernel), zTb_in (List.mem_of_getElem? (i := 41) (by decide +kernel)) (by decide +kernel), by decide +kernel, by decide⟩
theorem zv_X3_readHis : zMv yX3_readHis := ⟨zTb_in (List.mem_of_getElem? (i := 550) (by decide +kernel)) (by decide +kernel), zTb_in (List.mem_of_getElem? (i := 551) (by decide +kernel)) (by decide +kernel)⟩
theorem zm_X7_go : zMe yX7_go cX7_go 1 (some .int) 0 := ⟨by decide +kernel, zTb_in (List.mem_of_getElem? (i := 559) (by decide +kernel)) (by decide +kernel), zTb_in (List.mem_of_getElem? (i := 36) (by decide +kernel)) (by decide +kernel), by decide +kernel, by decide⟩
theorem zv_X7_go : zMv yX7_go := ⟨zTb_in (List.mem_of_getElem? (i := 557) (by decide +kernel)) (by decide +kernel), zTb_in (List.mem_of_getElem? (i := 558) (by decide +kernel)) (by decide +kernel)⟩
theorem zm_X6_remember : zMe yX6_remember cX6_remember 1 none 0 := ⟨by decide +kernel, zTb_in (List.mem_of_getElem? (i := 563) (by decide +kernel)) (by decide +kernel), zTb_in (List.mem_of_getElem? (i := 37) (by decide +kernel)) (by decide +kernel), by decide +kernel, by decide⟩
theorem zv_X6_remember : zMv yX6_remember := ⟨zTb_in (List.mem_of_getElem? (i := 561) (by decide +kernel)) (by decide +kernel), zTb_in (List.mem_of_getElem? (i := 562) (by decide +kernel)) (by decide +kernel)⟩
theorem zm_X6_loseOldest : zMe yX6_loseOldest cX6_loseOldest 3 none 0 := ⟨by decide +kernel, zTb_in (List.mem_of_getElem? (i := 567) (by decide +kernel)) (by decide +kernel), zTb_in (List.mem_of_getElem? (i := 37) (by decide +kernel)) (by decide +kernel), by decide +kernel, by decide⟩
theorem zv_X6_loseOldest : zMv yX6_loseOldest := ⟨zTb_in (List.mem_of_getElem? (i := 565) (by decide +kernel)) (by decide +kernel), zTb_in (List.mem_of_getElem? (i := 566) (by decide +kernel)) (by decide +kernel)⟩
theorem zm_X1_pass : zMe yX1_pass cX1_pass 5 (some .int) 2 := ⟨by decide +kernel, zTb_in (List.mem_of_getElem? (i := 572) (by decide +kernel)) (by decide +kernel), zTb_in (List.mem_of_getElem? (i := 38) (by decide +kernel)) (by decide +kernel), by decide +kernel, by decide⟩
theorem zv_X1_pass : zMv yX1_pass := ⟨zTb_in (List.mem_of_getElem? (i := 570) (by decide +kernel)) (by decide +kernel), zTb_in (List.mem_of_getElem? (i := 571) (by decide +kernel)) (by decide +kernel)⟩
theorem zm_X1_feelOneMore : zMe yX1_feelOneMore cX1_feelOneMore 5 none 2 := ⟨by decide +kernel, zTb_in (List.mem_of_getElem? (i := 577) (by decide +kernel)) (by decide +kernel), zTb_in (List.mem_of_getElem? (i := 38) (by decide +kernel)) (by decide +kernel), by decide +kernel, by decide⟩
theorem zv_X1_feelOneMore : zMv yX1_feelOneMore := ⟨zTb_in (List.mem_of_getElem? (i := 575) (by decide +kernel)) (by decide +kernel), zTb_in (List.mem_of_getElem? (i := 576) (by decide +kernel)) (by decide +kernel)⟩
theorem zm_X1_offer : zMe yX1_offer cX1_offer 6 none 3 := ⟨by decide +kernel, zTb_in (List.mem_of_getElem? (i := 582) (by decide +kernel)) (by decide +kernel), zTb_in (List.mem_of_getElem? (i := 38) (by decide +kernel)) (by decide +kernel), by decide +kernel, by decide⟩
theorem zv_X1_offer : zMv yX1_offer := ⟨zTb_in (List.mem_of_getElem? (i := 580) (by decide +kernel)) (by decide +kernel), zTb_in (List.mem_of_getElem? (i := 581) (by decide +kernel)) (by decide +kernel)⟩
theorem zm_X1_isGlad : zMe yX1_isGlad cX1_isGlad 8 (some .boolean) 4 := ⟨by decide +kernel, zTb_in (List.mem_of_getElem? (i := 586) (by decide +kernel)) (by decide +kernel), zTb_in (List.mem_of_getElem? (i := 38) (by decide +kernel)) (by decide +kernel), by decide +kernel, by decide⟩
theorem zv_X1_isGlad : zMv yX1_isGlad := ⟨zTb_in (List.mem_of_getElem? (i := 584) (by decide +kernel)) (by decide +kernel), zTb_in (List.mem_of_getElem? (i := 585) (by decide +kernel)) (by decide +kernel)⟩
theorem zm_X7_undo : zMe yX7_undo cX7_undo 1 (some .int) 0 := ⟨by decide +kernel, zTb_in (List.mem_of_getElem? (i := 591) (by decide +kernel)) (by decide +kernel), zTb_in (List.mem_of_getElem? (i := 36) (by decide +kernel)) (by decide +kernel), by decide +kernel, by decide⟩
theorem zv_X7_undo : zMv yX7_undo := ⟨zTb_in (List.mem_of_getElem? (i := 589) (by decide +kernel)) (by decide +kernel), zTb_in (List.mem_of_getElem? (i := 590) (by decide +kernel)) (by decide +kernel)⟩
theorem zm_X6_stepBack : zMe yX6_stepBack cX6_stepBack 1 none 0 := ⟨by decide +kernel, zTb_in (List.mem_of_getElem? (i := 595) (by decide +kernel)) (by decide +kernel), zTb_in (List.mem_of_getElem? (i := 37) (by decide +kernel)) (by decide +kernel), by decide +kernel, by decide⟩
theorem zv_X6_stepBack : zMv yX6_stepBack := ⟨zTb_in (List.mem_of_getElem? (i := 593) (by decide +kernel)) (by decide +kernel), zTb_in (List.mem_of_getElem? (i := 594) (by decide +kernel)) (by decide +kernel)⟩
theorem zm_X7_again : zMe yX7_again cX7_again 2 (some .int) 0 := ⟨by decide +kernel, zTb_in (List.mem_of_getElem? (i := 599) (by decide +kernel)) (by decide +kernel), zTb_in (List.mem_of_getElem? (i := 36) (by decide +kernel)) (by decide +kernel), by decide +kernel, by decide⟩
theorem zv_X7_again : zMv yX7_again := ⟨zTb_in (List.mem_of_getElem? (i := 597) (by decide +kernel)) (by decide +kernel), zTb_in (List.mem_of_getElem? (i := 598) (by decide +kernel)) (by decide +kernel)⟩
theorem zm_X7_glad : zMe yX7_glad cX7_glad 2 (some .int) 1 := ⟨by decide +kernel, zTb_in (List.mem_of_getElem? (i := 603) (by decide +kernel)) (by decide +kernel), zTb_in (List.mem_of_getElem? (i := 36) (by decide +kernel)) (by decide +kernel), by decide +kernel, by decide⟩
theorem zv_X7_glad : zMv yX7_glad := ⟨zTb_in (List.mem_of_getElem? (i := 601) (by decide +kernel)) (by decide +kernel), zTb_in (List.mem_of_getElem? (i := 602) (by decide +kernel)) (by decide +kernel)⟩
theorem zm_X7_home : zMe yX7_home cX7_home 3 (some .int) 1 := ⟨by decide +kernel, zTb_in (List.mem_of_getElem? (i := 608) (by decide +kernel)) (by decide +kernel), zTb_in (List.mem_of_getElem? (i := 36) (by decide +kernel)) (by decide +kernel), by decide +kernel, by decide⟩
theorem zv_X7_home : zMv yX7_home := ⟨zTb_in (List.mem_of_getElem? (i := 606) (by decide +kernel)) (by decide +kernel), zTb_in (List.mem_of_getElem? (i := 607) (by decide +kernel)) (by decide +kernel)⟩
theorem zm_X0_endOf : zMe yX0_endOf cX0_endOf 2 (some (.object "GladRoad$Trip")) 1 := ⟨by decide +kernel, zTb_in (List.mem_of_getElem? (i := 612) (by decide +kernel)) (by decide +kernel), zTb_in (List.mem_of_getElem? (i := 42) (by decide +kernel)) (by decide +kernel), by decide +kernel, by decide⟩
theorem zv_X0_endOf : zMv yX0_endOf := ⟨zTb_in (List.mem_of_getElem? (i := 610) (by decide +kernel)) (by decide +kernel), zTb_in (List.mem_of_getElem? (i := 611) (by decide +kernel)) (by decide +kernel)⟩
theorem zm_X0_begin : zMe yX0_begin cX0_begin 2 none 1 := ⟨by decide +kernel, zTb_in (List.mem_of_getElem? (i := 616) (by decide +kernel)) (by decide +kernel), zTb_in (List.mem_of_getElem? (i := 42) (by decide +kernel)) (by decide +kernel), by decide +kernel, by decide⟩
theorem zv_X0_begin : zMv yX0_begin := ⟨zTb_in (List.mem_of_getElem? (i := 614) (by decide +kernel)) (by decide +kernel), zTb_in (List.mem_of_getElem? (i := 615) (by decide +kernel)) (by decide +kernel)⟩
theorem zm_X0_walkHome : zMe yX0_walkHome cX0_walkHome 2 none 0 := ⟨by decide +kernel, zTb_in (List.mem_of_getElem? (i := 622) (by decide +kernel)) (by decide +kernel), zTb_in (List.mem_of_getElem? (i := 42) (by decide +kernel)) (by decide +kernel), by decide +kernel, by decide⟩
theorem zv_X0_walkHome : zMv yX0_walkHome := ⟨zTb_in (List.mem_of_getElem? (i := 620) (by decide +kernel)) (by decide +kernel), zTb_in (List.mem_of_getElem? (i := 621) (by decide +kernel)) (by decide +kernel)⟩
theorem zm_X7_lost : zMe yX7_lost cX7_lost 1 (some .int) 0 := ⟨by decide +kernel, zTb_in (List.mem_of_getElem? (i := 627) (by decide +kernel)) (by decide +kernel), zTb_in (List.mem_of_getElem? (i := 36) (by decide +kernel)) (by decide +kernel), by decide +kernel, by decide⟩
theorem zv_X7_lost : zMv yX7_lost := ⟨zTb_in (List.mem_of_getElem? (i := 625) (by decide +kernel)) (by decide +kernel), zTb_in (List.mem_of_getElem? (i := 626) (by decide +kernel)) (by decide +kernel)⟩
theorem zm_X1_worthOf : zMe yX1_worthOf cX1_worthOf 2 (some .int) 1 := ⟨by decide +kernel, zTb_in (List.mem_of_getElem? (i := 631) (by decide +kernel)) (by decide +kernel), zTb_in (List.mem_of_getElem? (i := 38) (by decide +kernel)) (by decide +kernel), by decide +kernel, by decide⟩
theorem zv_X1_worthOf : zMv yX1_worthOf := ⟨zTb_in (List.mem_of_getElem? (i := 629) (by decide +kernel)) (by decide +kernel), zTb_in (List.mem_of_getElem? (i := 630) (by decide +kernel)) (by decide +kernel)⟩
theorem zm_X7_lurk : zMe yX7_lurk cX7_lurk 4 (some .int) 2 := ⟨by decide +kernel, zTb_in (List.mem_of_getElem? (i := 635) (by decide +kernel)) (by decide +kernel), zTb_in (List.mem_of_getElem? (i := 36) (by decide +kernel)) (by decide +kernel), by decide +kernel, by decide⟩
theorem zv_X7_lurk : zMv yX7_lurk := ⟨zTb_in (List.mem_of_getElem? (i := 633) (by decide +kernel)) (by decide +kernel), zTb_in (List.mem_of_getElem? (i := 634) (by decide +kernel)) (by decide +kernel)⟩
theorem zm_X0_waitFor : zMe yX0_waitFor cX0_waitFor 8 (some .int) 2 := ⟨by decide +kernel, zTb_in (List.mem_of_getElem? (i := 639) (by decide +kernel)) (by decide +kernel), zTb_in (List.mem_of_getElem? (i := 42) (by decide +kernel)) (by decide +kernel), by decide +kernel, by decide⟩
theorem zv_X0_waitFor : zMv yX0_waitFor := ⟨zTb_in (List.mem_of_getElem? (i := 637) (by decide +kernel)) (by decide +kernel), zTb_in (List.mem_of_getElem? (i := 638) (by decide +kernel)) (by decide +kernel)⟩
theorem zm_X7_stand : zMe yX7_stand cX7_stand 4 (some .int) 2 := ⟨by decide +kernel, zTb_in (List.mem_of_getElem? (i := 646) (by decide +kernel)) (by decide +kernel), zTb_in (List.mem_of_getElem? (i := 36) (by decide +kernel)) (by decide +kernel), by decide +kernel, by decide⟩
theorem zv_X7_stand : zMv yX7_stand := ⟨zTb_in (List.mem_of_getElem? (i := 644) (by decide +kernel)) (by decide +kernel), zTb_in (List.mem_of_getElem? (i := 645) (by decide +kernel)) (by decide +kernel)⟩
theorem zm_X0_mostWorthOf : zMe yX0_mostWorthOf cX0_mostWorthOf 6 (some .int) 2 := ⟨by decide +kernel, zTb_in (List.mem_of_getElem? (i := 650) (by decide +kernel)) (by decide +kernel), zTb_in (List.mem_of_getElem? (i := 42) (by decide +kernel)) (by decide +kernel), by decide +kernel, by decide⟩
theorem zv_X0_mostWorthOf : zMv yX0_mostWorthOf := ⟨zTb_in (List.mem_of_getElem? (i := 648) (by decide +kernel)) (by decide +kernel), zTb_in (List.mem_of_getElem? (i := 649) (by decide +kernel)) (by decide +kernel)⟩
theorem zm_X7_sister : zMe yX7_sister cX7_sister 3 (some .int) 2 := ⟨by decide +kernel, zTb_in (List.mem_of_getElem? (i := 654) (by decide +kernel)) (by decide +kernel), zTb_in (List.mem_of_getElem? (i := 36) (by decide +kernel)) (by decide +kernel), by decide +kernel, by decide⟩
theorem zv_X7_sister : zMv yX7_sister := ⟨zTb_in (List.mem_of_getElem? (i := 652) (by decide +kernel)) (by decide +kernel), zTb_in (List.mem_of_getElem? (i := 653) (by decide +kernel)) (by decide +kernel)⟩
theorem zm_X7_meet : zMe yX7_meet cX7_meet 4 (some .int) 2 := ⟨by decide +kernel, zTb_in (List.mem_of_getElem? (i := 658) (by decide +kernel)) (by decide +kernel), zTb_in (List.mem_of_getElem? (i := 36) (by decide +kernel)) (by decide +kernel), by decide +kernel, by decide⟩
theorem zv_X7_meet : zMv yX7_meet := ⟨zTb_in (List.mem_of_getElem? (i := 656) (by decide +kernel)) (by decide +kernel), zTb_in (List.mem_of_getElem? (i := 657) (by decide +kernel)) (by decide +kernel)⟩
theorem zm_X0_turnsWith : zMe yX0_turnsWith cX0_turnsWith 7 (some .int) 2 := ⟨by decide +kernel, zTb_in (List.mem_of_getElem? (i := 662) (by decide +kernel)) (by decide +kernel), zTb_in (List.mem_of_getElem? (i := 42) (by decide +kernel)) (by decide +kernel), by decide +kernel, by decide⟩
theorem zv_X0_turnsWith : zMv yX0_turnsWith := ⟨zTb_in (List.mem_of_getElem? (i := 660) (by decide +kernel)) (by decide +kernel), zTb_in (List.mem_of_getElem? (i := 661) (by decide +kernel)) (by decide +kernel)⟩
theorem zm_X0_takesTurn : zMe yX0_takesTurn cX0_takesTurn 5 (some .boolean) 3 := ⟨by decide +kernel, zTb_in (List.mem_of_getElem? (i := 667) (by decide +kernel)) (by decide +kernel), zTb_in (List.mem_of_getElem? (i := 42) (by decide +kernel)) (by decide +kernel), by decide +kernel, by decide⟩
theorem zv_X0_takesTurn : zMv yX0_takesTurn := ⟨zTb_in (List.mem_of_getElem? (i := 665) (by decide +kernel)) (by decide +kernel), zTb_in (List.mem_of_getElem? (i := 666) (by decide +kernel)) (by decide +kernel)⟩
theorem zm_X7_first : zMe yX7_first cX7_first 2 (some .int) 1 := ⟨by decide +kernel, zTb_in (List.mem_of_getElem? (i := 674) (by decide +kernel)) (by decide +kernel), zTb_in (List.mem_of_getElem? (i := 36) (by decide +kernel)) (by decide +kernel), by decide +kernel, by decide⟩
theorem zv_X7_first : zMv yX7_first := ⟨zTb_in (List.mem_of_getElem? (i := 672) (by decide +kernel)) (by decide +kernel), zTb_in (List.mem_of_getElem? (i := 673) (by decide +kernel)) (by decide +kernel)⟩
theorem zm_X0_firstsFor : zMe yX0_firstsFor cX0_firstsFor 5 (some .int) 2 := ⟨by decide +kernel, zTb_in (List.mem_of_getElem? (i := 678) (by decide +kernel)) (by decide +kernel), zTb_in (List.mem_of_getElem? (i := 42) (by decide +kernel)) (by decide +kernel), by decide +kernel, by decide⟩
theorem zv_X0_firstsFor : zMv yX0_firstsFor := ⟨zTb_in (List.mem_of_getElem? (i := 676) (by decide +kernel)) (by decide +kernel), zTb_in (List.mem_of_getElem? (i := 677) (by decide +kernel)) (by decide +kernel)⟩
theorem zm_X7_cheated : zMe yX7_cheated cX7_cheated 2 (some .int) 1 := ⟨by decide +kernel, zTb_in (List.mem_of_getElem? (i := 682) (by decide +kernel)) (by decide +kernel), zTb_in (List.mem_of_getElem? (i := 36) (by decide +kernel)) (by decide +kernel), by decide +kernel, by decide⟩
theorem zv_X7_cheated : zMv yX7_cheated := ⟨zTb_in (List.mem_of_getElem? (i := 680) (by decide +kernel)) (by decide +kernel), zTb_in (List.mem_of_getElem? (i := 681) (by decide +kernel)) (by decide +kernel)⟩
theorem zm_X0_heedFor : zMe yX0_heedFor cX0_heedFor 7 (some .int) 2 := ⟨by decide +kernel, zTb_in (List.mem_of_getElem? (i := 686) (by decide +kernel)) (by decide +kernel), zTb_in (List.mem_of_getElem? (i := 42) (by decide +kernel)) (by decide +kernel), by decide +kernel, by decide⟩
theorem zv_X0_heedFor : zMv yX0_heedFor := ⟨zTb_in (List.mem_of_getElem? (i := 684) (by decide +kernel)) (by decide +kernel), zTb_in (List.mem_of_getElem? (i := 685) (by decide +kernel)) (by decide +kernel)⟩
theorem zm_X7_chance : zMe yX7_chance cX7_chance 6 (some .int) 2 := ⟨by decide +kernel, zTb_in (List.mem_of_getElem? (i := 690) (by decide +kernel)) (by decide +kernel), zTb_in (List.mem_of_getElem? (i := 36) (by decide +kernel)) (by decide +kernel), by decide +kernel, by decide⟩
theorem zv_X7_chance : zMv yX7_chance := ⟨zTb_in (List.mem_of_getElem? (i := 688) (by decide +kernel)) (by decide +kernel), zTb_in (List.mem_of_getElem? (i := 689) (by decide +kernel)) (by decide +kernel)⟩
theorem zm_X0_waysTo : zMe yX0_waysTo cX0_waysTo 3 (some .int) 2 := ⟨by decide +kernel, zTb_in (List.mem_of_getElem? (i := 694) (by decide +kernel)) (by decide +kernel), zTb_in (List.mem_of_getElem? (i := 42) (by decide +kernel)) (by decide +kernel), by decide +kernel, by decide⟩
theorem zv_X0_waysTo : zMv yX0_waysTo := ⟨zTb_in (List.mem_of_getElem? (i := 692) (by decide +kernel)) (by decide +kernel), zTb_in (List.mem_of_getElem? (i := 693) (by decide +kernel)) (by decide +kernel)⟩
theorem zm_X0_waysFrom : zMe yX0_waysFrom cX0_waysFrom 5 (some .int) 2 := ⟨by decide +kernel, zTb_in (List.mem_of_getElem? (i := 698) (by decide +kernel)) (by decide +kernel), zTb_in (List.mem_of_getElem? (i := 42) (by decide +kernel)) (by decide +kernel), by decide +kernel, by decide⟩
theorem zv_X0_waysFrom : zMv yX0_waysFrom := ⟨zTb_in (List.mem_of_getElem? (i := 697) (by decide +kernel)) (by decide +kernel), zTb_in (List.mem_of_getElem? (i := 2) (by decide +kernel)) (by decide +kernel)⟩
theorem zm_X0_waysBehind : zMe yX0_waysBehind cX0_waysBehind 4 (some .int) 3 := ⟨by decide +kernel, zTb_in (List.mem_of_getElem? (i := 702) (by decide +kernel)) (by decide +kernel), zTb_in (List.mem_of_getElem? (i := 42) (by decide +kernel)) (by decide +kernel), by decide +kernel, by decide⟩
theorem zv_X0_waysBehind : zMv yX0_waysBehind := ⟨zTb_in (List.mem_of_getElem? (i := 701) (by decide +kernel)) (by decide +kernel), zTb_in (List.mem_of_getElem? (i := 3) (by decide +kernel)) (by decide +kernel)⟩
theorem zm_X1_isPeopled : zMe yX1_isPeopled cX1_isPeopled 3 (some .boolean) 1 := ⟨by decide +kernel, zTb_in (List.mem_of_getElem? (i := 706) (by decide +kernel)) (by decide +kernel), zTb_in (List.mem_of_getElem? (i := 38) (by decide +kernel)) (by decide +kernel), by decide +kernel, by decide⟩
theorem zv_X1_isPeopled : zMv yX1_isPeopled := ⟨zTb_in (List.mem_of_getElem? (i := 704) (by decide +kernel)) (by decide +kernel), zTb_in (List.mem_of_getElem? (i := 705) (by decide +kernel)) (by decide +kernel)⟩
theorem zm_X7_image : zMe yX7_image cX7_image 1 (some .int) 0 := ⟨by decide +kernel, zTb_in (List.mem_of_getElem? (i := 710) (by decide +kernel)) (by decide +kernel), zTb_in (List.mem_of_getElem? (i := 36) (by decide +kernel)) (by decide +kernel), by decide +kernel, by decide⟩
theorem zv_X7_image : zMv yX7_image := ⟨zTb_in (List.mem_of_getElem? (i := 708) (by decide +kernel)) (by decide +kernel), zTb_in (List.mem_of_getElem? (i := 709) (by decide +kernel)) (by decide +kernel)⟩
theorem zm_X6_setFrom : zMe yX6_setFrom cX6_setFrom 3 none 1 := ⟨by decide +kernel, zTb_in (List.mem_of_getElem? (i := 714) (by decide +kernel)) (by decide +kernel), zTb_in (List.mem_of_getElem? (i := 37) (by decide +kernel)) (by decide +kernel), by decide +kernel, by decide⟩
theorem zv_X6_setFrom : zMv yX6_setFrom := ⟨zTb_in (List.mem_of_getElem? (i := 712) (by decide +kernel)) (by decide +kernel), zTb_in (List.mem_of_getElem? (i := 713) (by decide +kernel)) (by decide +kernel)⟩
theorem zm_X7_restore : zMe yX7_restore cX7_restore 1 (some .int) 0 := ⟨by decide +kernel, zTb_in (List.mem_of_getElem? (i := 719) (by decide +kernel)) (by decide +kernel), zTb_in (List.mem_of_getElem? (i := 36) (by decide +kernel)) (by decide +kernel), by decide +kernel, by decide⟩
theorem zv_X7_restore : zMv yX7_restore := ⟨zTb_in (List.mem_of_getElem? (i := 717) (by decide +kernel)) (by decide +kernel), zTb_in (List.mem_of_getElem? (i := 718) (by decide +kernel)) (by decide +kernel)⟩
theorem zm_X7_seen : zMe yX7_seen cX7_seen 9 (some .int) 4 := ⟨by decide +kernel, zTb_in (List.mem_of_getElem? (i := 723) (by decide +kernel)) (by decide +kernel), zTb_in (List.mem_of_getElem? (i := 36) (by decide +kernel)) (by decide +kernel), by decide +kernel, by decide⟩
theorem zv_X7_seen : zMv yX7_seen := ⟨zTb_in (List.mem_of_getElem? (i := 721) (by decide +kernel)) (by decide +kernel), zTb_in (List.mem_of_getElem? (i := 722) (by decide +kernel)) (by decide +kernel)⟩
theorem zm_X7_rowFault : zMe yX7_rowFault cX7_rowFault 6 (some .int) 4 := ⟨by decide +kernel, zTb_in (List.mem_of_getElem? (i := 727) (by decide +kernel)) (by decide +kernel), zTb_in (List.mem_of_getElem? (i := 36) (by decide +kernel)) (by decide +kernel), by decide +kernel, by decide⟩
theorem zv_X7_rowFault : zMv yX7_rowFault := ⟨zTb_in (List.mem_of_getElem? (i := 726) (by decide +kernel)) (by decide +kernel), zTb_in (List.mem_of_getElem? (i := 4) (by decide +kernel)) (by decide +kernel)⟩
theorem zm_X2_hasRange : zMe yX2_hasRange cX2_hasRange 3 (some .boolean) 2 := ⟨by decide +kernel, zTb_in (List.mem_of_getElem? (i := 731) (by decide +kernel)) (by decide +kernel), zTb_in (List.mem_of_getElem? (i := 43) (by decide +kernel)) (by decide +kernel), by decide +kernel, by decide⟩
theorem zv_X2_hasRange : zMv yX2_hasRange := ⟨zTb_in (List.mem_of_getElem? (i := 729) (by decide +kernel)) (by decide +kernel), zTb_in (List.mem_of_getElem? (i := 730) (by decide +kernel)) (by decide +kernel)⟩
theorem zm_X1_mindsOf : zMe yX1_mindsOf cX1_mindsOf 5 (some .int) 2 := ⟨by decide +kernel, zTb_in (List.mem_of_getElem? (i := 735) (by decide +kernel)) (by decide +kernel), zTb_in (List.mem_of_getElem? (i := 38) (by decide +kernel)) (by decide +kernel), by decide +kernel, by decide⟩
theorem zv_X1_mindsOf : zMv yX1_mindsOf := ⟨zTb_in (List.mem_of_getElem? (i := 733) (by decide +kernel)) (by decide +kernel), zTb_in (List.mem_of_getElem? (i := 734) (by decide +kernel)) (by decide +kernel)⟩
theorem zm_X7_film : zMe yX7_film cX7_film 7 (some .int) 3 := ⟨by decide +kernel, zTb_in (List.mem_of_getElem? (i := 739) (by decide +kernel)) (by decide +kernel), zTb_in (List.mem_of_getElem? (i := 36) (by decide +kernel)) (by decide +kernel), by decide +kernel, by decide⟩
theorem zv_X7_film : zMv yX7_film := ⟨zTb_in (List.mem_of_getElem? (i := 737) (by decide +kernel)) (by decide +kernel), zTb_in (List.mem_of_getElem? (i := 738) (by decide +kernel)) (by decide +kernel)⟩
theorem zm_X2_put : zMe yX2_put cX2_put 4 none 2 := ⟨by decide +kernel, zTb_in (List.mem_of_getElem? (i := 744) (by decide +kernel)) (by decide +kernel), zTb_in (List.mem_of_getElem? (i := 43) (by decide +kernel)) (by decide +kernel), by decide +kernel, by decide⟩
theorem zv_X2_put : zMv yX2_put := ⟨zTb_in (List.mem_of_getElem? (i := 742) (by decide +kernel)) (by decide +kernel), zTb_in (List.mem_of_getElem? (i := 743) (by decide +kernel)) (by decide +kernel)⟩
theorem zm_X7_deal : zMe yX7_deal cX7_deal 10 (some .int) 3 := ⟨by decide +kernel, zTb_in (List.mem_of_getElem? (i := 748) (by decide +kernel)) (by decide +kernel), zTb_in (List.mem_of_getElem? (i := 36) (by decide +kernel)) (by decide +kernel), by decide +kernel, by decide⟩
theorem zv_X7_deal : zMv yX7_deal := ⟨zTb_in (List.mem_of_getElem? (i := 746) (by decide +kernel)) (by decide +kernel), zTb_in (List.mem_of_getElem? (i := 747) (by decide +kernel)) (by decide +kernel)⟩
theorem zm_X7_canDeal : zMe yX7_canDeal cX7_canDeal 7 (some .boolean) 3 := ⟨by decide +kernel, zTb_in (List.mem_of_getElem? (i := 752) (by decide +kernel)) (by decide +kernel), zTb_in (List.mem_of_getElem? (i := 36) (by decide +kernel)) (by decide +kernel), by decide +kernel, by decide⟩
theorem zv_X7_canDeal : zMv yX7_canDeal := ⟨zTb_in (List.mem_of_getElem? (i := 751) (by decide +kernel)) (by decide +kernel), zTb_in (List.mem_of_getElem? (i := 5) (by decide +kernel)) (by decide +kernel)⟩
theorem zm_X7_sheet : zMe yX7_sheet cX7_sheet 4 (some .int) 3 := ⟨by decide +kernel, zTb_in (List.mem_of_getElem? (i := 756) (by decide +kernel)) (by decide +kernel), zTb_in (List.mem_of_getElem? (i := 36) (by decide +kernel)) (by decide +kernel), by decide +kernel, by decide⟩
theorem zv_X7_sheet : zMv yX7_sheet := ⟨zTb_in (List.mem_of_getElem? (i := 754) (by decide +kernel)) (by decide +kernel), zTb_in (List.mem_of_getElem? (i := 755) (by decide +kernel)) (by decide +kernel)⟩
theorem zm_X2_renew : zMe yX2_renew cX2_renew 3 none 2 := ⟨by decide +kernel, zTb_in (List.mem_of_getElem? (i := 760) (by decide +kernel)) (by decide +kernel), zTb_in (List.mem_of_getElem? (i := 43) (by decide +kernel)) (by decide +kernel), by decide +kernel, by decide⟩
theorem zv_X2_renew : zMv yX2_renew := ⟨zTb_in (List.mem_of_getElem? (i := 758) (by decide +kernel)) (by decide +kernel), zTb_in (List.mem_of_getElem? (i := 759) (by decide +kernel)) (by decide +kernel)⟩
theorem zm_J7_fill_d0a16 : zMe yJ7_fill_d0a16 cJ7_fill_d0a16 5 none 2 := ⟨by decide +kernel, zTb_in (List.mem_of_getElem? (i := 763) (by decide +kernel)) (by decide +kernel), zTb_in (List.mem_of_getElem? (i := 52) (by decide +kernel)) (by decide +kernel), by decide +kernel, by decide⟩
theorem zst_J7_fill_d0a16 : Cond.static yJ7_fill_d0a16 ∈ zTb := zTb_in (List.mem_of_getElem? (i := 762) (by decide +kernel)) (by decide +kernel)
theorem zm_X7_drop : zMe yX7_drop cX7_drop 2 (some .int) 1 := ⟨by decide +kernel, zTb_in (List.mem_of_getElem? (i := 767) (by decide +kernel)) (by decide +kernel), zTb_in (List.mem_of_getElem? (i := 36) (by decide +kernel)) (by decide +kernel), by decide +kernel, by decide⟩
theorem zv_X7_drop : zMv yX7_drop := ⟨zTb_in (List.mem_of_getElem? (i := 765) (by decide +kernel)) (by decide +kernel), zTb_in (List.mem_of_getElem? (i := 766) (by decide +kernel)) (by decide +kernel)⟩
theorem zm_X7_item : zMe yX7_item cX7_item 7 (some .int) 4 := ⟨by decide +kernel, zTb_in (List.mem_of_getElem? (i := 771) (by decide +kernel)) (by decide +kernel), zTb_in (List.mem_of_getElem? (i := 36) (by decide +kernel)) (by decide +kernel), by decide +kernel, by decide⟩
theorem zv_X7_item : zMv yX7_item := ⟨zTb_in (List.mem_of_getElem? (i := 769) (by decide +kernel)) (by decide +kernel), zTb_in (List.mem_of_getElem? (i := 770) (by decide +kernel)) (by decide +kernel)⟩
theorem zm_X7_copy : zMe yX7_copy cX7_copy 8 (some .int) 5 := ⟨by decide +kernel, zTb_in (List.mem_of_getElem? (i := 775) (by decide +kernel)) (by decide +kernel), zTb_in (List.mem_of_getElem? (i := 36) (by decide +kernel)) (by decide +kernel), by decide +kernel, by decide⟩
theorem zv_X7_copy : zMv yX7_copy := ⟨zTb_in (List.mem_of_getElem? (i := 773) (by decide +kernel)) (by decide +kernel), zTb_in (List.mem_of_getElem? (i := 774) (by decide +kernel)) (by decide +kernel)⟩
theorem zm_X8_starts : zMe yX8_starts cX8_starts 2 none 0 := ⟨by decide +kernel, zTb_in (List.mem_of_getElem? (i := 786) (by decide +kernel)) (by decide +kernel), zTb_in (List.mem_of_getElem? (i := 44) (by decide +kernel)) (by decide +kernel), by decide +kernel, by decide⟩
theorem zv_X8_starts : zMv yX8_starts := ⟨zTb_in (List.mem_of_getElem? (i := 785) (by decide +kernel)) (by decide +kernel), zTb_in (List.mem_of_getElem? (i := 6) (by decide +kernel)) (by decide +kernel)⟩
theorem zm_X8_thing : zMe yX8_thing cX8_thing 5 (some .int) 4 := ⟨by decide +kernel, zTb_in (List.mem_of_getElem? (i := 881) (by decide +kernel)) (by decide +kernel), zTb_in (List.mem_of_getElem? (i := 44) (by decide +kernel)) (by decide +kernel), by decide +kernel, by decide⟩
theorem zv_X8_thing : zMv yX8_thing := ⟨zTb_in (List.mem_of_getElem? (i := 879) (by decide +kernel)) (by decide +kernel), zTb_in (List.mem_of_getElem? (i := 880) (by decide +kernel)) (by decide +kernel)⟩
theorem zm_X8_in : zMe yX8_in cX8_in 6 (some .boolean) 3 := ⟨by decide +kernel, zTb_in (List.mem_of_getElem? (i := 885) (by decide +kernel)) (by decide +kernel), zTb_in (List.mem_of_getElem? (i := 44) (by decide +kernel)) (by decide +kernel), by decide +kernel, by decide⟩
theorem zst_X8_in : Cond.static yX8_in ∈ zTb := zTb_in (List.mem_of_getElem? (i := 884) (by decide +kernel)) (by decide +kernel)
theorem zm_X8_thingComes : zMe yX8_thingComes cX8_thingComes 5 none 4 := ⟨by decide +kernel, zTb_in (List.mem_of_getElem? (i := 891) (by decide +kernel)) (by decide +kernel), zTb_in (List.mem_of_getElem? (i := 44) (by decide +kernel)) (by decide +kernel), by decide +kernel, by decide⟩
theorem zv_X8_thingComes : zMv yX8_thingComes := ⟨zTb_in (List.mem_of_getElem? (i := 890) (by decide +kernel)) (by decide +kernel), zTb_in (List.mem_of_getElem? (i := 7) (by decide +kernel)) (by decide +kernel)⟩
theorem zm_X8_of : zMe yX8_of cX8_of 3 (some .int) 2 := ⟨by decide +kernel, zTb_in (List.mem_of_getElem? (i := 895) (by decide +kernel)) (by decide +kernel), zTb_in (List.mem_of_getElem? (i := 44) (by decide +kernel)) (by decide +kernel), by decide +kernel, by decide⟩
theorem zv_X8_of : zMv yX8_of := ⟨zTb_in (List.mem_of_getElem? (i := 893) (by decide +kernel)) (by decide +kernel), zTb_in (List.mem_of_getElem? (i := 894) (by decide +kernel)) (by decide +kernel)⟩
theorem zm_X8_isThing : zMe yX8_isThing cX8_isThing 3 (some .boolean) 1 := ⟨by decide +kernel, zTb_in (List.mem_of_getElem? (i := 899) (by decide +kernel)) (by decide +kernel), zTb_in (List.mem_of_getElem? (i := 44) (by decide +kernel)) (by decide +kernel), by decide +kernel, by decide⟩
theorem zv_X8_isThing : zMv yX8_isThing := ⟨zTb_in (List.mem_of_getElem? (i := 898) (by decide +kernel)) (by decide +kernel), zTb_in (List.mem_of_getElem? (i := 8) (by decide +kernel)) (by decide +kernel)⟩
theorem zm_X8_who : zMe yX8_who cX8_who 4 (some .int) 1 := ⟨by decide +kernel, zTb_in (List.mem_of_getElem? (i := 904) (by decide +kernel)) (by decide +kernel), zTb_in (List.mem_of_getElem? (i := 44) (by decide +kernel)) (by decide +kernel), by decide +kernel, by decide⟩
theorem zv_X8_who : zMv yX8_who := ⟨zTb_in (List.mem_of_getElem? (i := 903) (by decide +kernel)) (by decide +kernel), zTb_in (List.mem_of_getElem? (i := 9) (by decide +kernel)) (by decide +kernel)⟩
theorem zm_X8_felt : zMe yX8_felt cX8_felt 4 (some .int) 3 := ⟨by decide +kernel, zTb_in (List.mem_of_getElem? (i := 908) (by decide +kernel)) (by decide +kernel), zTb_in (List.mem_of_getElem? (i := 44) (by decide +kernel)) (by decide +kernel), by decide +kernel, by decide⟩
theorem zv_X8_felt : zMv yX8_felt := ⟨zTb_in (List.mem_of_getElem? (i := 906) (by decide +kernel)) (by decide +kernel), zTb_in (List.mem_of_getElem? (i := 907) (by decide +kernel)) (by decide +kernel)⟩
theorem zm_X8_feels : zMe yX8_feels cX8_feels 5 (some .int) 3 := ⟨by decide +kernel, zTb_in (List.mem_of_getElem? (i := 912) (by decide +kernel)) (by decide +kernel), zTb_in (List.mem_of_getElem? (i := 44) (by decide +kernel)) (by decide +kernel), by decide +kernel, by decide⟩
theorem zv_X8_feels : zMv yX8_feels := ⟨zTb_in (List.mem_of_getElem? (i := 911) (by decide +kernel)) (by decide +kernel), zTb_in (List.mem_of_getElem? (i := 10) (by decide +kernel)) (by decide +kernel)⟩
theorem zm_X8_person : zMe yX8_person cX8_person 4 (some .int) 3 := ⟨by decide +kernel, zTb_in (List.mem_of_getElem? (i := 916) (by decide +kernel)) (by decide +kernel), zTb_in (List.mem_of_getElem? (i := 44) (by decide +kernel)) (by decide +kernel), by decide +kernel, by decide⟩
theorem zv_X8_person : zMv yX8_person := ⟨zTb_in (List.mem_of_getElem? (i := 914) (by decide +kernel)) (by decide +kernel), zTb_in (List.mem_of_getElem? (i := 915) (by decide +kernel)) (by decide +kernel)⟩
theorem zm_X8_personComes : zMe yX8_personComes cX8_personComes 4 none 3 := ⟨by decide +kernel, zTb_in (List.mem_of_getElem? (i := 922) (by decide +kernel)) (by decide +kernel), zTb_in (List.mem_of_getElem? (i := 44) (by decide +kernel)) (by decide +kernel), by decide +kernel, by decide⟩
theorem zv_X8_personComes : zMv yX8_personComes := ⟨zTb_in (List.mem_of_getElem? (i := 921) (by decide +kernel)) (by decide +kernel), zTb_in (List.mem_of_getElem? (i := 11) (by decide +kernel)) (by decide +kernel)⟩
theorem zm_X8_told : zMe yX8_told cX8_told 3 (some .int) 2 := ⟨by decide +kernel, zTb_in (List.mem_of_getElem? (i := 926) (by decide +kernel)) (by decide +kernel), zTb_in (List.mem_of_getElem? (i := 44) (by decide +kernel)) (by decide +kernel), by decide +kernel, by decide⟩
theorem zv_X8_told : zMv yX8_told := ⟨zTb_in (List.mem_of_getElem? (i := 924) (by decide +kernel)) (by decide +kernel), zTb_in (List.mem_of_getElem? (i := 925) (by decide +kernel)) (by decide +kernel)⟩
theorem zm_X8_isPerson : zMe yX8_isPerson cX8_isPerson 2 (some .boolean) 1 := ⟨by decide +kernel, zTb_in (List.mem_of_getElem? (i := 930) (by decide +kernel)) (by decide +kernel), zTb_in (List.mem_of_getElem? (i := 44) (by decide +kernel)) (by decide +kernel), by decide +kernel, by decide⟩
theorem zv_X8_isPerson : zMv yX8_isPerson := ⟨zTb_in (List.mem_of_getElem? (i := 929) (by decide +kernel)) (by decide +kernel), zTb_in (List.mem_of_getElem? (i := 12) (by decide +kernel)) (by decide +kernel)⟩
theorem zm_X8_move : zMe yX8_move cX8_move 4 (some .int) 2 := ⟨by decide +kernel, zTb_in (List.mem_of_getElem? (i := 935) (by decide +kernel)) (by decide +kernel), zTb_in (List.mem_of_getElem? (i := 44) (by decide +kernel)) (by decide +kernel), by decide +kernel, by decide⟩
theorem zv_X8_move : zMv yX8_move := ⟨zTb_in (List.mem_of_getElem? (i := 933) (by decide +kernel)) (by decide +kernel), zTb_in (List.mem_of_getElem? (i := 934) (by decide +kernel)) (by decide +kernel)⟩
theorem zm_X8_take : zMe yX8_take cX8_take 3 (some .int) 1 := ⟨by decide +kernel, zTb_in (List.mem_of_getElem? (i := 939) (by decide +kernel)) (by decide +kernel), zTb_in (List.mem_of_getElem? (i := 44) (by decide +kernel)) (by decide +kernel), by decide +kernel, by decide⟩
theorem zv_X8_take : zMv yX8_take := ⟨zTb_in (List.mem_of_getElem? (i := 937) (by decide +kernel)) (by decide +kernel), zTb_in (List.mem_of_getElem? (i := 938) (by decide +kernel)) (by decide +kernel)⟩
theorem zm_X8_count : zMe yX8_count cX8_count 2 (some .int) 1 := ⟨by decide +kernel, zTb_in (List.mem_of_getElem? (i := 943) (by decide +kernel)) (by decide +kernel), zTb_in (List.mem_of_getElem? (i := 44) (by decide +kernel)) (by decide +kernel), by decide +kernel, by decide⟩
theorem zv_X8_count : zMv yX8_count := ⟨zTb_in (List.mem_of_getElem? (i := 941) (by decide +kernel)) (by decide +kernel), zTb_in (List.mem_of_getElem? (i := 942) (by decide +kernel)) (by decide +kernel)⟩
theorem zm_X8_heed : zMe yX8_heed cX8_heed 3 (some .int) 1 := ⟨by decide +kernel, zTb_in (List.mem_of_getElem? (i := 947) (by decide +kernel)) (by decide +kernel), zTb_in (List.mem_of_getElem? (i := 44) (by decide +kernel)) (by decide +kernel), by decide +kernel, by decide⟩
theorem zv_X8_heed : zMv yX8_heed := ⟨zTb_in (List.mem_of_getElem? (i := 945) (by decide +kernel)) (by decide +kernel), zTb_in (List.mem_of_getElem? (i := 946) (by decide +kernel)) (by decide +kernel)⟩
theorem zm_X8_well : zMe yX8_well cX8_well 3 (some .int) 1 := ⟨by decide +kernel, zTb_in (List.mem_of_getElem? (i := 951) (by decide +kernel)) (by decide +kernel), zTb_in (List.mem_of_getElem? (i := 44) (by decide +kernel)) (by decide +kernel), by decide +kernel, by decide⟩
theorem zv_X8_well : zMv yX8_well := ⟨zTb_in (List.mem_of_getElem? (i := 949) (by decide +kernel)) (by decide +kernel), zTb_in (List.mem_of_getElem? (i := 950) (by decide +kernel)) (by decide +kernel)⟩
theorem zm_X8_type : zMe yX8_type cX8_type 2 (some .int) 1 := ⟨by decide +kernel, zTb_in (List.mem_of_getElem? (i := 955) (by decide +kernel)) (by decide +kernel), zTb_in (List.mem_of_getElem? (i := 44) (by decide +kernel)) (by decide +kernel), by decide +kernel, by decide⟩
theorem zv_X8_type : zMv yX8_type := ⟨zTb_in (List.mem_of_getElem? (i := 953) (by decide +kernel)) (by decide +kernel), zTb_in (List.mem_of_getElem? (i := 954) (by decide +kernel)) (by decide +kernel)⟩
theorem zm_X8_road : zMe yX8_road cX8_road 3 (some .int) 0 := ⟨by decide +kernel, zTb_in (List.mem_of_getElem? (i := 961) (by decide +kernel)) (by decide +kernel), zTb_in (List.mem_of_getElem? (i := 44) (by decide +kernel)) (by decide +kernel), by decide +kernel, by decide⟩
theorem zv_X8_road : zMv yX8_road := ⟨zTb_in (List.mem_of_getElem? (i := 959) (by decide +kernel)) (by decide +kernel), zTb_in (List.mem_of_getElem? (i := 960) (by decide +kernel)) (by decide +kernel)⟩
theorem zm_X8_readThing : zMe yX8_readThing cX8_readThing 3 none 0 := ⟨by decide +kernel, zTb_in (List.mem_of_getElem? (i := 965) (by decide +kernel)) (by decide +kernel), zTb_in (List.mem_of_getElem? (i := 44) (by decide +kernel)) (by decide +kernel), by decide +kernel, by decide⟩
theorem zv_X8_readThing : zMv yX8_readThing := ⟨zTb_in (List.mem_of_getElem? (i := 964) (by decide +kernel)) (by decide +kernel), zTb_in (List.mem_of_getElem? (i := 13) (by decide +kernel)) (by decide +kernel)⟩
theorem zm_X8_here : zMe yX8_here cX8_here 1 (some .int) 0 := ⟨by decide +kernel, zTb_in (List.mem_of_getElem? (i := 969) (by decide +kernel)) (by decide +kernel), zTb_in (List.mem_of_getElem? (i := 44) (by decide +kernel)) (by decide +kernel), by decide +kernel, by decide⟩
theorem zv_X8_here : zMv yX8_here := ⟨zTb_in (List.mem_of_getElem? (i := 968) (by decide +kernel)) (by decide +kernel), zTb_in (List.mem_of_getElem? (i := 14) (by decide +kernel)) (by decide +kernel)⟩
theorem zm_X8_number : zMe yX8_number cX8_number 4 (some .int) 1 := ⟨by decide +kernel, zTb_in (List.mem_of_getElem? (i := 973) (by decide +kernel)) (by decide +kernel), zTb_in (List.mem_of_getElem? (i := 44) (by decide +kernel)) (by decide +kernel), by decide +kernel, by decide⟩
theorem zv_X8_number : zMv yX8_number := ⟨zTb_in (List.mem_of_getElem? (i := 972) (by decide +kernel)) (by decide +kernel), zTb_in (List.mem_of_getElem? (i := 15) (by decide +kernel)) (by decide +kernel)⟩
theorem zm_X8_has : zMe yX8_has cX8_has 3 (some .boolean) 1 := ⟨by decide +kernel, zTb_in (List.mem_of_getElem? (i := 979) (by decide +kernel)) (by decide +kernel), zTb_in (List.mem_of_getElem? (i := 44) (by decide +kernel)) (by decide +kernel), by decide +kernel, by decide⟩
theorem zv_X8_has : zMv yX8_has := ⟨zTb_in (List.mem_of_getElem? (i := 978) (by decide +kernel)) (by decide +kernel), zTb_in (List.mem_of_getElem? (i := 16) (by decide +kernel)) (by decide +kernel)⟩
theorem zm_X8_readPerson : zMe yX8_readPerson cX8_readPerson 2 none 0 := ⟨by decide +kernel, zTb_in (List.mem_of_getElem? (i := 983) (by decide +kernel)) (by decide +kernel), zTb_in (List.mem_of_getElem? (i := 44) (by decide +kernel)) (by decide +kernel), by decide +kernel, by decide⟩
theorem zv_X8_readPerson : zMv yX8_readPerson := ⟨zTb_in (List.mem_of_getElem? (i := 982) (by decide +kernel)) (by decide +kernel), zTb_in (List.mem_of_getElem? (i := 17) (by decide +kernel)) (by decide +kernel)⟩
theorem zm_X8_readHad : zMe yX8_readHad cX8_readHad 3 (some .int) 0 := ⟨by decide +kernel, zTb_in (List.mem_of_getElem? (i := 987) (by decide +kernel)) (by decide +kernel), zTb_in (List.mem_of_getElem? (i := 44) (by decide +kernel)) (by decide +kernel), by decide +kernel, by decide⟩
theorem zv_X8_readHad : zMv yX8_readHad := ⟨zTb_in (List.mem_of_getElem? (i := 986) (by decide +kernel)) (by decide +kernel), zTb_in (List.mem_of_getElem? (i := 18) (by decide +kernel)) (by decide +kernel)⟩
theorem zm_X8_go : zMe yX8_go cX8_go 2 (some .int) 0 := ⟨by decide +kernel, zTb_in (List.mem_of_getElem? (i := 991) (by decide +kernel)) (by decide +kernel), zTb_in (List.mem_of_getElem? (i := 44) (by decide +kernel)) (by decide +kernel), by decide +kernel, by decide⟩
theorem zv_X8_go : zMv yX8_go := ⟨zTb_in (List.mem_of_getElem? (i := 989) (by decide +kernel)) (by decide +kernel), zTb_in (List.mem_of_getElem? (i := 990) (by decide +kernel)) (by decide +kernel)⟩
theorem zm_X8_notes : zMe yX8_notes cX8_notes 2 none 0 := ⟨by decide +kernel, zTb_in (List.mem_of_getElem? (i := 995) (by decide +kernel)) (by decide +kernel), zTb_in (List.mem_of_getElem? (i := 44) (by decide +kernel)) (by decide +kernel), by decide +kernel, by decide⟩
theorem zv_X8_notes : zMv yX8_notes := ⟨zTb_in (List.mem_of_getElem? (i := 994) (by decide +kernel)) (by decide +kernel), zTb_in (List.mem_of_getElem? (i := 19) (by decide +kernel)) (by decide +kernel)⟩
theorem zm_X8_goesOn : zMe yX8_goesOn cX8_goesOn 3 none 0 := ⟨by decide +kernel, zTb_in (List.mem_of_getElem? (i := 999) (by decide +kernel)) (by decide +kernel), zTb_in (List.mem_of_getElem? (i := 44) (by decide +kernel)) (by decide +kernel), by decide +kernel, by decide⟩
theorem zv_X8_goesOn : zMv yX8_goesOn := ⟨zTb_in (List.mem_of_getElem? (i := 998) (by decide +kernel)) (by decide +kernel), zTb_in (List.mem_of_getElem? (i := 20) (by decide +kernel)) (by decide +kernel)⟩
theorem zm_X8_own : zMe yX8_own cX8_own 2 (some .int) 1 := ⟨by decide +kernel, zTb_in (List.mem_of_getElem? (i := 1003) (by decide +kernel)) (by decide +kernel), zTb_in (List.mem_of_getElem? (i := 44) (by decide +kernel)) (by decide +kernel), by decide +kernel, by decide⟩
theorem zv_X8_own : zMv yX8_own := ⟨zTb_in (List.mem_of_getElem? (i := 1002) (by decide +kernel)) (by decide +kernel), zTb_in (List.mem_of_getElem? (i := 21) (by decide +kernel)) (by decide +kernel)⟩
theorem zm_X8_care : zMe yX8_care cX8_care 3 (some .int) 2 := ⟨by decide +kernel, zTb_in (List.mem_of_getElem? (i := 1007) (by decide +kernel)) (by decide +kernel), zTb_in (List.mem_of_getElem? (i := 44) (by decide +kernel)) (by decide +kernel), by decide +kernel, by decide⟩
theorem zv_X8_care : zMv yX8_care := ⟨zTb_in (List.mem_of_getElem? (i := 1006) (by decide +kernel)) (by decide +kernel), zTb_in (List.mem_of_getElem? (i := 22) (by decide +kernel)) (by decide +kernel)⟩
theorem zm_X8_asks : zMe yX8_asks cX8_asks 4 none 2 := ⟨by decide +kernel, zTb_in (List.mem_of_getElem? (i := 1011) (by decide +kernel)) (by decide +kernel), zTb_in (List.mem_of_getElem? (i := 44) (by decide +kernel)) (by decide +kernel), by decide +kernel, by decide⟩
theorem zv_X8_asks : zMv yX8_asks := ⟨zTb_in (List.mem_of_getElem? (i := 1010) (by decide +kernel)) (by decide +kernel), zTb_in (List.mem_of_getElem? (i := 23) (by decide +kernel)) (by decide +kernel)⟩
theorem zm_X8_isGlad : zMe yX8_isGlad cX8_isGlad 2 (some .boolean) 1 := ⟨by decide +kernel, zTb_in (List.mem_of_getElem? (i := 1015) (by decide +kernel)) (by decide +kernel), zTb_in (List.mem_of_getElem? (i := 44) (by decide +kernel)) (by decide +kernel), by decide +kernel, by decide⟩
theorem zv_X8_isGlad : zMv yX8_isGlad := ⟨zTb_in (List.mem_of_getElem? (i := 1014) (by decide +kernel)) (by decide +kernel), zTb_in (List.mem_of_getElem? (i := 24) (by decide +kernel)) (by decide +kernel)⟩
theorem zm_X8_worth : zMe yX8_worth cX8_worth 2 (some .int) 1 := ⟨by decide +kernel, zTb_in (List.mem_of_getElem? (i := 1019) (by decide +kernel)) (by decide +kernel), zTb_in (List.mem_of_getElem? (i := 44) (by decide +kernel)) (by decide +kernel), by decide +kernel, by decide⟩
theorem zv_X8_worth : zMv yX8_worth := ⟨zTb_in (List.mem_of_getElem? (i := 1018) (by decide +kernel)) (by decide +kernel), zTb_in (List.mem_of_getElem? (i := 25) (by decide +kernel)) (by decide +kernel)⟩
theorem zm_X8_undo : zMe yX8_undo cX8_undo 2 (some .int) 0 := ⟨by decide +kernel, zTb_in (List.mem_of_getElem? (i := 1023) (by decide +kernel)) (by decide +kernel), zTb_in (List.mem_of_getElem? (i := 44) (by decide +kernel)) (by decide +kernel), by decide +kernel, by decide⟩
theorem zv_X8_undo : zMv yX8_undo := ⟨zTb_in (List.mem_of_getElem? (i := 1021) (by decide +kernel)) (by decide +kernel), zTb_in (List.mem_of_getElem? (i := 1022) (by decide +kernel)) (by decide +kernel)⟩
theorem zm_X8_again : zMe yX8_again cX8_again 2 (some .int) 0 := ⟨by decide +kernel, zTb_in (List.mem_of_getElem? (i := 1027) (by decide +kernel)) (by decide +kernel), zTb_in (List.mem_of_getElem? (i := 44) (by decide +kernel)) (by decide +kernel), by decide +kernel, by decide⟩
theorem zv_X8_again : zMv yX8_again := ⟨zTb_in (List.mem_of_getElem? (i := 1025) (by decide +kernel)) (by decide +kernel), zTb_in (List.mem_of_getElem? (i := 1026) (by decide +kernel)) (by decide +kernel)⟩
theorem zm_X8_glad : zMe yX8_glad cX8_glad 2 (some .int) 1 := ⟨by decide +kernel, zTb_in (List.mem_of_getElem? (i := 1031) (by decide +kernel)) (by decide +kernel), zTb_in (List.mem_of_getElem? (i := 44) (by decide +kernel)) (by decide +kernel), by decide +kernel, by decide⟩
theorem zv_X8_glad : zMv yX8_glad := ⟨zTb_in (List.mem_of_getElem? (i := 1029) (by decide +kernel)) (by decide +kernel), zTb_in (List.mem_of_getElem? (i := 1030) (by decide +kernel)) (by decide +kernel)⟩
theorem zm_X8_home : zMe yX8_home cX8_home 3 (some .int) 1 := ⟨by decide +kernel, zTb_in (List.mem_of_getElem? (i := 1035) (by decide +kernel)) (by decide +kernel), zTb_in (List.mem_of_getElem? (i := 44) (by decide +kernel)) (by decide +kernel), by decide +kernel, by decide⟩
theorem zv_X8_home : zMv yX8_home := ⟨zTb_in (List.mem_of_getElem? (i := 1033) (by decide +kernel)) (by decide +kernel), zTb_in (List.mem_of_getElem? (i := 1034) (by decide +kernel)) (by decide +kernel)⟩
theorem zm_X8_asides : zMe yX8_asides cX8_asides 2 none 0 := ⟨by decide +kernel, zTb_in (List.mem_of_getElem? (i := 1039) (by decide +kernel)) (by decide +kernel), zTb_in (List.mem_of_getElem? (i := 44) (by decide +kernel)) (by decide +kernel), by decide +kernel, by decide⟩
theorem zv_X8_asides : zMv yX8_asides := ⟨zTb_in (List.mem_of_getElem? (i := 1038) (by decide +kernel)) (by decide +kernel), zTb_in (List.mem_of_getElem? (i := 26) (by decide +kernel)) (by decide +kernel)⟩
theorem zm_X8_goesHome : zMe yX8_goesHome cX8_goesHome 1 none 0 := ⟨by decide +kernel, zTb_in (List.mem_of_getElem? (i := 1043) (by decide +kernel)) (by decide +kernel), zTb_in (List.mem_of_getElem? (i := 44) (by decide +kernel)) (by decide +kernel), by decide +kernel, by decide⟩
theorem zv_X8_goesHome : zMv yX8_goesHome := ⟨zTb_in (List.mem_of_getElem? (i := 1042) (by decide +kernel)) (by decide +kernel), zTb_in (List.mem_of_getElem? (i := 27) (by decide +kernel)) (by decide +kernel)⟩
theorem zm_X8_backs : zMe yX8_backs cX8_backs 2 none 0 := ⟨by decide +kernel, zTb_in (List.mem_of_getElem? (i := 1047) (by decide +kernel)) (by decide +kernel), zTb_in (List.mem_of_getElem? (i := 44) (by decide +kernel)) (by decide +kernel), by decide +kernel, by decide⟩
theorem zv_X8_backs : zMv yX8_backs := ⟨zTb_in (List.mem_of_getElem? (i := 1046) (by decide +kernel)) (by decide +kernel), zTb_in (List.mem_of_getElem? (i := 28) (by decide +kernel)) (by decide +kernel)⟩
theorem zm_X8_lost : zMe yX8_lost cX8_lost 2 (some .int) 0 := ⟨by decide +kernel, zTb_in (List.mem_of_getElem? (i := 1051) (by decide +kernel)) (by decide +kernel), zTb_in (List.mem_of_getElem? (i := 44) (by decide +kernel)) (by decide +kernel), by decide +kernel, by decide⟩
theorem zv_X8_lost : zMv yX8_lost := ⟨zTb_in (List.mem_of_getElem? (i := 1049) (by decide +kernel)) (by decide +kernel), zTb_in (List.mem_of_getElem? (i := 1050) (by decide +kernel)) (by decide +kernel)⟩
theorem zm_X8_lurk : zMe yX8_lurk cX8_lurk 9 (some .int) 2 := ⟨by decide +kernel, zTb_in (List.mem_of_getElem? (i := 1055) (by decide +kernel)) (by decide +kernel), zTb_in (List.mem_of_getElem? (i := 44) (by decide +kernel)) (by decide +kernel), by decide +kernel, by decide⟩
theorem zv_X8_lurk : zMv yX8_lurk := ⟨zTb_in (List.mem_of_getElem? (i := 1053) (by decide +kernel)) (by decide +kernel), zTb_in (List.mem_of_getElem? (i := 1054) (by decide +kernel)) (by decide +kernel)⟩
theorem zm_X8_stand : zMe yX8_stand cX8_stand 8 (some .int) 2 := ⟨by decide +kernel, zTb_in (List.mem_of_getElem? (i := 1059) (by decide +kernel)) (by decide +kernel), zTb_in (List.mem_of_getElem? (i := 44) (by decide +kernel)) (by decide +kernel), by decide +kernel, by decide⟩
theorem zv_X8_stand : zMv yX8_stand := ⟨zTb_in (List.mem_of_getElem? (i := 1057) (by decide +kernel)) (by decide +kernel), zTb_in (List.mem_of_getElem? (i := 1058) (by decide +kernel)) (by decide +kernel)⟩
theorem zm_X8_sister : zMe yX8_sister cX8_sister 4 (some .int) 2 := ⟨by decide +kernel, zTb_in (List.mem_of_getElem? (i := 1063) (by decide +kernel)) (by decide +kernel), zTb_in (List.mem_of_getElem? (i := 44) (by decide +kernel)) (by decide +kernel), by decide +kernel, by decide⟩
theorem zv_X8_sister : zMv yX8_sister := ⟨zTb_in (List.mem_of_getElem? (i := 1061) (by decide +kernel)) (by decide +kernel), zTb_in (List.mem_of_getElem? (i := 1062) (by decide +kernel)) (by decide +kernel)⟩
theorem zm_X8_sisters : zMe yX8_sisters cX8_sisters 13 (some .int) 2 := ⟨by decide +kernel, zTb_in (List.mem_of_getElem? (i := 1067) (by decide +kernel)) (by decide +kernel), zTb_in (List.mem_of_getElem? (i := 44) (by decide +kernel)) (by decide +kernel), by decide +kernel, by decide⟩
theorem zv_X8_sisters : zMv yX8_sisters := ⟨zTb_in (List.mem_of_getElem? (i := 1066) (by decide +kernel)) (by decide +kernel), zTb_in (List.mem_of_getElem? (i := 29) (by decide +kernel)) (by decide +kernel)⟩
theorem zm_X8_meet : zMe yX8_meet cX8_meet 6 (some .int) 2 := ⟨by decide +kernel, zTb_in (List.mem_of_getElem? (i := 1071) (by decide +kernel)) (by decide +kernel), zTb_in (List.mem_of_getElem? (i := 44) (by decide +kernel)) (by decide +kernel), by decide +kernel, by decide⟩
theorem zv_X8_meet : zMv yX8_meet := ⟨zTb_in (List.mem_of_getElem? (i := 1069) (by decide +kernel)) (by decide +kernel), zTb_in (List.mem_of_getElem? (i := 1070) (by decide +kernel)) (by decide +kernel)⟩
theorem zm_X8_turns : zMe yX8_turns cX8_turns 8 (some .boolean) 2 := ⟨by decide +kernel, zTb_in (List.mem_of_getElem? (i := 1075) (by decide +kernel)) (by decide +kernel), zTb_in (List.mem_of_getElem? (i := 44) (by decide +kernel)) (by decide +kernel), by decide +kernel, by decide⟩
theorem zv_X8_turns : zMv yX8_turns := ⟨zTb_in (List.mem_of_getElem? (i := 1074) (by decide +kernel)) (by decide +kernel), zTb_in (List.mem_of_getElem? (i := 30) (by decide +kernel)) (by decide +kernel)⟩
theorem zm_X8_first : zMe yX8_first cX8_first 4 (some .int) 1 := ⟨by decide +kernel, zTb_in (List.mem_of_getElem? (i := 1079) (by decide +kernel)) (by decide +kernel), zTb_in (List.mem_of_getElem? (i := 44) (by decide +kernel)) (by decide +kernel), by decide +kernel, by decide⟩
theorem zv_X8_first : zMv yX8_first := ⟨zTb_in (List.mem_of_getElem? (i := 1077) (by decide +kernel)) (by decide +kernel), zTb_in (List.mem_of_getElem? (i := 1078) (by decide +kernel)) (by decide +kernel)⟩
theorem zm_X8_cheated : zMe yX8_cheated cX8_cheated 8 (some .int) 1 := ⟨by decide +kernel, zTb_in (List.mem_of_getElem? (i := 1083) (by decide +kernel)) (by decide +kernel), zTb_in (List.mem_of_getElem? (i := 44) (by decide +kernel)) (by decide +kernel), by decide +kernel, by decide⟩
theorem zv_X8_cheated : zMv yX8_cheated := ⟨zTb_in (List.mem_of_getElem? (i := 1081) (by decide +kernel)) (by decide +kernel), zTb_in (List.mem_of_getElem? (i := 1082) (by decide +kernel)) (by decide +kernel)⟩
theorem zm_X8_chance : zMe yX8_chance cX8_chance 6 (some .int) 2 := ⟨by decide +kernel, zTb_in (List.mem_of_getElem? (i := 1089) (by decide +kernel)) (by decide +kernel), zTb_in (List.mem_of_getElem? (i := 44) (by decide +kernel)) (by decide +kernel), by decide +kernel, by decide⟩
theorem zv_X8_chance : zMv yX8_chance := ⟨zTb_in (List.mem_of_getElem? (i := 1087) (by decide +kernel)) (by decide +kernel), zTb_in (List.mem_of_getElem? (i := 1088) (by decide +kernel)) (by decide +kernel)⟩
theorem zm_X8_image : zMe yX8_image cX8_image 2 (some .int) 0 := ⟨by decide +kernel, zTb_in (List.mem_of_getElem? (i := 1093) (by decide +kernel)) (by decide +kernel), zTb_in (List.mem_of_getElem? (i := 44) (by decide +kernel)) (by decide +kernel), by decide +kernel, by decide⟩
theorem zv_X8_image : zMv yX8_image := ⟨zTb_in (List.mem_of_getElem? (i := 1091) (by decide +kernel)) (by decide +kernel), zTb_in (List.mem_of_getElem? (i := 1092) (by decide +kernel)) (by decide +kernel)⟩
theorem zm_X8_notesRow : zMe yX8_notesRow cX8_notesRow 4 (some .int) 2 := ⟨by decide +kernel, zTb_in (List.mem_of_getElem? (i := 1097) (by decide +kernel)) (by decide +kernel), zTb_in (List.mem_of_getElem? (i := 44) (by decide +kernel)) (by decide +kernel), by decide +kernel, by decide⟩
theorem zv_X8_notesRow : zMv yX8_notesRow := ⟨zTb_in (List.mem_of_getElem? (i := 1096) (by decide +kernel)) (by decide +kernel), zTb_in (List.mem_of_getElem? (i := 31) (by decide +kernel)) (by decide +kernel)⟩
theorem zm_X8_restore : zMe yX8_restore cX8_restore 2 (some .int) 0 := ⟨by decide +kernel, zTb_in (List.mem_of_getElem? (i := 1101) (by decide +kernel)) (by decide +kernel), zTb_in (List.mem_of_getElem? (i := 44) (by decide +kernel)) (by decide +kernel), by decide +kernel, by decide⟩
theorem zv_X8_restore : zMv yX8_restore := ⟨zTb_in (List.mem_of_getElem? (i := 1099) (by decide +kernel)) (by decide +kernel), zTb_in (List.mem_of_getElem? (i := 1100) (by decide +kernel)) (by decide +kernel)⟩
theorem zm_X8_gives : zMe yX8_gives cX8_gives 4 (some .int) 2 := ⟨by decide +kernel, zTb_in (List.mem_of_getElem? (i := 1105) (by decide +kernel)) (by decide +kernel), zTb_in (List.mem_of_getElem? (i := 44) (by decide +kernel)) (by decide +kernel), by decide +kernel, by decide⟩
theorem zv_X8_gives : zMv yX8_gives := ⟨zTb_in (List.mem_of_getElem? (i := 1104) (by decide +kernel)) (by decide +kernel), zTb_in (List.mem_of_getElem? (i := 32) (by decide +kernel)) (by decide +kernel)⟩
theorem zm_X8_seen : zMe yX8_seen cX8_seen 10 (some .int) 4 := ⟨by decide +kernel, zTb_in (List.mem_of_getElem? (i := 1109) (by decide +kernel)) (by decide +kernel), zTb_in (List.mem_of_getElem? (i := 44) (by decide +kernel)) (by decide +kernel), by decide +kernel, by decide⟩
theorem zv_X8_seen : zMv yX8_seen := ⟨zTb_in (List.mem_of_getElem? (i := 1107) (by decide +kernel)) (by decide +kernel), zTb_in (List.mem_of_getElem? (i := 1108) (by decide +kernel)) (by decide +kernel)⟩
theorem zm_X8_isSheet : zMe yX8_isSheet cX8_isSheet 1 (some .boolean) 1 := ⟨by decide +kernel, zTb_in (List.mem_of_getElem? (i := 1112) (by decide +kernel)) (by decide +kernel), zTb_in (List.mem_of_getElem? (i := 44) (by decide +kernel)) (by decide +kernel), by decide +kernel, by decide⟩
theorem zst_X8_isSheet : Cond.static yX8_isSheet ∈ zTb := zTb_in (List.mem_of_getElem? (i := 1111) (by decide +kernel)) (by decide +kernel)
theorem zm_X8_isLane : zMe yX8_isLane cX8_isLane 1 (some .boolean) 1 := ⟨by decide +kernel, zTb_in (List.mem_of_getElem? (i := 1115) (by decide +kernel)) (by decide +kernel), zTb_in (List.mem_of_getElem? (i := 44) (by decide +kernel)) (by decide +kernel), by decide +kernel, by decide⟩
theorem zst_X8_isLane : Cond.static yX8_isLane ∈ zTb := zTb_in (List.mem_of_getElem? (i := 1114) (by decide +kernel)) (by decide +kernel)
theorem zm_X8_why : zMe yX8_why cX8_why 5 (some .int) 4 := ⟨by decide +kernel, zTb_in (List.mem_of_getElem? (i := 1120) (by decide +kernel)) (by decide +kernel), zTb_in (List.mem_of_getElem? (i := 44) (by decide +kernel)) (by decide +kernel), by decide +kernel, by decide⟩
theorem zv_X8_why : zMv yX8_why := ⟨zTb_in (List.mem_of_getElem? (i := 1119) (by decide +kernel)) (by decide +kernel), zTb_in (List.mem_of_getElem? (i := 33) (by decide +kernel)) (by decide +kernel)⟩
theorem zm_X8_film : zMe yX8_film cX8_film 7 (some .int) 3 := ⟨by decide +kernel, zTb_in (List.mem_of_getElem? (i := 1124) (by decide +kernel)) (by decide +kernel), zTb_in (List.mem_of_getElem? (i := 44) (by decide +kernel)) (by decide +kernel), by decide +kernel, by decide⟩
theorem zv_X8_film : zMv yX8_film := ⟨zTb_in (List.mem_of_getElem? (i := 1122) (by decide +kernel)) (by decide +kernel), zTb_in (List.mem_of_getElem? (i := 1123) (by decide +kernel)) (by decide +kernel)⟩
theorem zm_X8_puts : zMe yX8_puts cX8_puts 6 none 3 := ⟨by decide +kernel, zTb_in (List.mem_of_getElem? (i := 1128) (by decide +kernel)) (by decide +kernel), zTb_in (List.mem_of_getElem? (i := 44) (by decide +kernel)) (by decide +kernel), by decide +kernel, by decide⟩
theorem zv_X8_puts : zMv yX8_puts := ⟨zTb_in (List.mem_of_getElem? (i := 1127) (by decide +kernel)) (by decide +kernel), zTb_in (List.mem_of_getElem? (i := 34) (by decide +kernel)) (by decide +kernel)⟩
theorem zm_X8_deal : zMe yX8_deal cX8_deal 9 (some .int) 3 := ⟨by decide +kernel, zTb_in (List.mem_of_getElem? (i := 1132) (by decide +kernel)) (by decide +kernel), zTb_in (List.mem_of_getElem? (i := 44) (by decide +kernel)) (by decide +kernel), by decide +kernel, by decide⟩
theorem zv_X8_deal : zMv yX8_deal := ⟨zTb_in (List.mem_of_getElem? (i := 1130) (by decide +kernel)) (by decide +kernel), zTb_in (List.mem_of_getElem? (i := 1131) (by decide +kernel)) (by decide +kernel)⟩
theorem zm_X8_sheet : zMe yX8_sheet cX8_sheet 5 (some .int) 3 := ⟨by decide +kernel, zTb_in (List.mem_of_getElem? (i := 1136) (by decide +kernel)) (by decide +kernel), zTb_in (List.mem_of_getElem? (i := 44) (by decide +kernel)) (by decide +kernel), by decide +kernel, by decide⟩
theorem zv_X8_sheet : zMv yX8_sheet := ⟨zTb_in (List.mem_of_getElem? (i := 1134) (by decide +kernel)) (by decide +kernel), zTb_in (List.mem_of_getElem? (i := 1135) (by decide +kernel)) (by decide +kernel)⟩
theorem zm_X8_drop : zMe yX8_drop cX8_drop 2 (some .int) 1 := ⟨by decide +kernel, zTb_in (List.mem_of_getElem? (i := 1140) (by decide +kernel)) (by decide +kernel), zTb_in (List.mem_of_getElem? (i := 44) (by decide +kernel)) (by decide +kernel), by decide +kernel, by decide⟩
theorem zv_X8_drop : zMv yX8_drop := ⟨zTb_in (List.mem_of_getElem? (i := 1138) (by decide +kernel)) (by decide +kernel), zTb_in (List.mem_of_getElem? (i := 1139) (by decide +kernel)) (by decide +kernel)⟩
theorem zm_X8_item : zMe yX8_item cX8_item 7 (some .int) 4 := ⟨by decide +kernel, zTb_in (List.mem_of_getElem? (i := 1144) (by decide +kernel)) (by decide +kernel), zTb_in (List.mem_of_getElem? (i := 44) (by decide +kernel)) (by decide +kernel), by decide +kernel, by decide⟩
theorem zv_X8_item : zMv yX8_item := ⟨zTb_in (List.mem_of_getElem? (i := 1142) (by decide +kernel)) (by decide +kernel), zTb_in (List.mem_of_getElem? (i := 1143) (by decide +kernel)) (by decide +kernel)⟩
theorem zm_X8_copy : zMe yX8_copy cX8_copy 7 (some .int) 5 := ⟨by decide +kernel, zTb_in (List.mem_of_getElem? (i := 1148) (by decide +kernel)) (by decide +kernel), zTb_in (List.mem_of_getElem? (i := 44) (by decide +kernel)) (by decide +kernel), by decide +kernel, by decide⟩
theorem zv_X8_copy : zMv yX8_copy := ⟨zTb_in (List.mem_of_getElem? (i := 1146) (by decide +kernel)) (by decide +kernel), zTb_in (List.mem_of_getElem? (i := 1147) (by decide +kernel)) (by decide +kernel)⟩
theorem ml_L_13 : Cond.methodLink RL 13 yX7_thing ∈ zTb := zTb_in (List.mem_of_getElem? (i := 310) (by decide +kernel)) (by decide +kernel)
theorem ml_X7_40 : Cond.methodLink RX7 40 yX7_isNot ∈ zTb := zTb_in (List.mem_of_getElem? (i := 314) (by decide +kernel)) (by decide +kernel)
theorem ml_X7_57 : Cond.methodLink RX7 57 yX1_addThing ∈ zTb := zTb_in (List.mem_of_getElem? (i := 317) (by decide +kernel)) (by decide +kernel)
theorem ml_X1_44 : Cond.methodLink RX1 44 yX4_set ∈ zTb := zTb_in (List.mem_of_getElem? (i := 321) (by decide +kernel)) (by decide +kernel)
theorem ml_L_18 : Cond.methodLink RL 18 yX7_of ∈ zTb := zTb_in (List.mem_of_getElem? (i := 325) (by decide +kernel)) (by decide +kernel)
theorem ml_X7_61 : Cond.methodLink RX7 61 yX1_isThing ∈ zTb := zTb_in (List.mem_of_getElem? (i := 329) (by decide +kernel)) (by decide +kernel)
theorem ml_X7_87 : Cond.methodLink RX7 87 yX1_whoHas ∈ zTb := zTb_in (List.mem_of_getElem? (i := 333) (by decide +kernel)) (by decide +kernel)
theorem ml_L_23 : Cond.methodLink RL 23 yX7_felt ∈ zTb := zTb_in (List.mem_of_getElem? (i := 337) (by decide +kernel)) (by decide +kernel)
theorem ml_X7_91 : Cond.methodLink RX7 91 yX4_feltBy ∈ zTb := zTb_in (List.mem_of_getElem? (i := 341) (by decide +kernel)) (by decide +kernel)
theorem ml_L_28 : Cond.methodLink RL 28 yX7_person ∈ zTb := zTb_in (List.mem_of_getElem? (i := 345) (by decide +kernel)) (by decide +kernel)
theorem ml_X7_95 : Cond.methodLink RX7 95 yX7_isNoThingOrNone ∈ zTb := zTb_in (List.mem_of_getElem? (i := 349) (by decide +kernel)) (by decide +kernel)
theorem ml_X7_98 : Cond.methodLink RX7 98 yX7_isHad ∈ zTb := zTb_in (List.mem_of_getElem? (i := 353) (by decide +kernel)) (by decide +kernel)
theorem ml_X7_104 : Cond.methodLink RX7 104 yX1_addPerson ∈ zTb := zTb_in (List.mem_of_getElem? (i := 357) (by decide +kernel)) (by decide +kernel)
theorem ml_L_32 : Cond.methodLink RL 32 yX7_told ∈ zTb := zTb_in (List.mem_of_getElem? (i := 361) (by decide +kernel)) (by decide +kernel)
theorem ml_X7_108 : Cond.methodLink RX7 108 yX1_isPerson ∈ zTb := zTb_in (List.mem_of_getElem? (i := 365) (by decide +kernel)) (by decide +kernel)
theorem ml_L_36 : Cond.methodLink RL 36 yX7_move ∈ zTb := zTb_in (List.mem_of_getElem? (i := 369) (by decide +kernel)) (by decide +kernel)
theorem ml_L_40 : Cond.methodLink RL 40 yX7_take ∈ zTb := zTb_in (List.mem_of_getElem? (i := 373) (by decide +kernel)) (by decide +kernel)
theorem ml_X7_126 : Cond.methodLink RX7 126 yX5_hasNew ∈ zTb := zTb_in (List.mem_of_getElem? (i := 377) (by decide +kernel)) (by decide +kernel)
theorem ml_L_45 : Cond.methodLink RL 45 yX7_count ∈ zTb := zTb_in (List.mem_of_getElem? (i := 381) (by decide +kernel)) (by decide +kernel)
theorem ml_L_49 : Cond.methodLink RL 49 yX7_heed ∈ zTb := zTb_in (List.mem_of_getElem? (i := 385) (by decide +kernel)) (by decide +kernel)
theorem ml_L_53 : Cond.methodLink RL 53 yX7_well ∈ zTb := zTb_in (List.mem_of_getElem? (i := 389) (by decide +kernel)) (by decide +kernel)
theorem ml_L_57 : Cond.methodLink RL 57 yX7_type ∈ zTb := zTb_in (List.mem_of_getElem? (i := 393) (by decide +kernel)) (by decide +kernel)
theorem ml_L_61 : Cond.methodLink RL 61 yX7_road ∈ zTb := zTb_in (List.mem_of_getElem? (i := 397) (by decide +kernel)) (by decide +kernel)
theorem ml_X7_155 : Cond.methodLink RX7 155 yX3_readRoad ∈ zTb := zTb_in (List.mem_of_getElem? (i := 401) (by decide +kernel)) (by decide +kernel)
theorem ml_X3_36 : Cond.methodLink RX3 36 yX1_setFrom ∈ zTb := zTb_in (List.mem_of_getElem? (i := 405) (by decide +kernel)) (by decide +kernel)
theorem ml_X3_41 : Cond.methodLink RX3 41 yX5_setFrom ∈ zTb := zTb_in (List.mem_of_getElem? (i := 412) (by decide +kernel)) (by decide +kernel)
theorem ml_X3_50 : Cond.methodLink RX3 50 yX5_setOut ∈ zTb := zTb_in (List.mem_of_getElem? (i := 417) (by decide +kernel)) (by decide +kernel)
theorem ml_X5_40 : Cond.methodLink RX5 40 yX5_hasNew ∈ zTb := zTb_in (List.mem_of_getElem? (i := 421) (by decide +kernel)) (by decide +kernel)
theorem ml_X3_53 : Cond.methodLink RX3 53 yX3_readThings ∈ zTb := zTb_in (List.mem_of_getElem? (i := 422) (by decide +kernel)) (by decide +kernel)
theorem ml_X3_74 : Cond.methodLink RX3 74 yX3_readThing ∈ zTb := zTb_in (List.mem_of_getElem? (i := 426) (by decide +kernel)) (by decide +kernel)
theorem ml_X3_61 : Cond.methodLink RX3 61 yX3_next ∈ zTb := zTb_in (List.mem_of_getElem? (i := 431) (by decide +kernel)) (by decide +kernel)
theorem ml_X3_85 : Cond.methodLink RX3 85 yX3_readNumber ∈ zTb := zTb_in (List.mem_of_getElem? (i := 521) (by decide +kernel)) (by decide +kernel)
theorem ml_X3_65 : Cond.methodLink RX3 65 yX3_isDigit ∈ zTb := zTb_in (List.mem_of_getElem? (i := 525) (by decide +kernel)) (by decide +kernel)
theorem ml_X3_57 : Cond.methodLink RX3 57 yX3_reads ∈ zTb := zTb_in (List.mem_of_getElem? (i := 529) (by decide +kernel)) (by decide +kernel)
theorem ml_X3_88 : Cond.methodLink RX3 88 yX1_addThing ∈ zTb := zTb_in (List.mem_of_getElem? (i := 533) (by decide +kernel)) (by decide +kernel)
theorem ml_X3_68 : Cond.methodLink RX3 68 yX3_readPeople ∈ zTb := zTb_in (List.mem_of_getElem? (i := 534) (by decide +kernel)) (by decide +kernel)
theorem ml_X3_92 : Cond.methodLink RX3 92 yX3_readPerson ∈ zTb := zTb_in (List.mem_of_getElem? (i := 538) (by decide +kernel)) (by decide +kernel)
theorem ml_X3_95 : Cond.methodLink RX3 95 yX3_readFreeThing ∈ zTb := zTb_in (List.mem_of_getElem? (i := 542) (by decide +kernel)) (by decide +kernel)
theorem ml_X3_115 : Cond.methodLink RX3 115 yX1_isThing ∈ zTb := zTb_in (List.mem_of_getElem? (i := 546) (by decide +kernel)) (by decide +kernel)
theorem ml_X3_119 : Cond.methodLink RX3 119 yX1_whoHas ∈ zTb := zTb_in (List.mem_of_getElem? (i := 547) (by decide +kernel)) (by decide +kernel)
theorem ml_X3_99 : Cond.methodLink RX3 99 yX1_addPerson ∈ zTb := zTb_in (List.mem_of_getElem? (i := 548) (by decide +kernel)) (by decide +kernel)
theorem ml_X3_71 : Cond.methodLink RX3 71 yX3_readHis ∈ zTb := zTb_in (List.mem_of_getElem? (i := 549) (by decide +kernel)) (by decide +kernel)
theorem ml_X7_163 : Cond.methodLink RX7 163 yX1_setFrom ∈ zTb := zTb_in (List.mem_of_getElem? (i := 553) (by decide +kernel)) (by decide +kernel)
theorem ml_X7_168 : Cond.methodLink RX7 168 yX5_setFrom ∈ zTb := zTb_in (List.mem_of_getElem? (i := 554) (by decide +kernel)) (by decide +kernel)
theorem ml_L_66 : Cond.methodLink RL 66 yX7_go ∈ zTb := zTb_in (List.mem_of_getElem? (i := 556) (by decide +kernel)) (by decide +kernel)
theorem ml_X7_171 : Cond.methodLink RX7 171 yX6_remember ∈ zTb := zTb_in (List.mem_of_getElem? (i := 560) (by decide +kernel)) (by decide +kernel)
theorem ml_X6_40 : Cond.methodLink RX6 40 yX6_loseOldest ∈ zTb := zTb_in (List.mem_of_getElem? (i := 564) (by decide +kernel)) (by decide +kernel)
theorem ml_X6_33 : Cond.methodLink RX6 33 yX5_setFrom ∈ zTb := zTb_in (List.mem_of_getElem? (i := 568) (by decide +kernel)) (by decide +kernel)
theorem ml_X7_174 : Cond.methodLink RX7 174 yX1_pass ∈ zTb := zTb_in (List.mem_of_getElem? (i := 569) (by decide +kernel)) (by decide +kernel)
theorem ml_X1_65 : Cond.methodLink RX1 65 yX1_isThing ∈ zTb := zTb_in (List.mem_of_getElem? (i := 573) (by decide +kernel)) (by decide +kernel)
theorem ml_X1_75 : Cond.methodLink RX1 75 yX1_feelOneMore ∈ zTb := zTb_in (List.mem_of_getElem? (i := 574) (by decide +kernel)) (by decide +kernel)
theorem ml_X1_89 : Cond.methodLink RX1 89 yX4_feltBy ∈ zTb := zTb_in (List.mem_of_getElem? (i := 578) (by decide +kernel)) (by decide +kernel)
theorem ml_X1_82 : Cond.methodLink RX1 82 yX1_offer ∈ zTb := zTb_in (List.mem_of_getElem? (i := 579) (by decide +kernel)) (by decide +kernel)
theorem ml_X1_100 : Cond.methodLink RX1 100 yX1_isGlad ∈ zTb := zTb_in (List.mem_of_getElem? (i := 583) (by decide +kernel)) (by decide +kernel)
theorem ml_X1_93 : Cond.methodLink RX1 93 yX5_hasNew ∈ zTb := zTb_in (List.mem_of_getElem? (i := 587) (by decide +kernel)) (by decide +kernel)
theorem ml_L_70 : Cond.methodLink RL 70 yX7_undo ∈ zTb := zTb_in (List.mem_of_getElem? (i := 588) (by decide +kernel)) (by decide +kernel)
theorem ml_X7_178 : Cond.methodLink RX7 178 yX6_stepBack ∈ zTb := zTb_in (List.mem_of_getElem? (i := 592) (by decide +kernel)) (by decide +kernel)
theorem ml_L_74 : Cond.methodLink RL 74 yX7_again ∈ zTb := zTb_in (List.mem_of_getElem? (i := 596) (by decide +kernel)) (by decide +kernel)
theorem ml_L_78 : Cond.methodLink RL 78 yX7_glad ∈ zTb := zTb_in (List.mem_of_getElem? (i := 600) (by decide +kernel)) (by decide +kernel)
theorem ml_X7_181 : Cond.methodLink RX7 181 yX1_isGlad ∈ zTb := zTb_in (List.mem_of_getElem? (i := 604) (by decide +kernel)) (by decide +kernel)
theorem ml_L_82 : Cond.methodLink RL 82 yX7_home ∈ zTb := zTb_in (List.mem_of_getElem? (i := 605) (by decide +kernel)) (by decide +kernel)
theorem ml_X7_185 : Cond.methodLink RX7 185 yX0_endOf ∈ zTb := zTb_in (List.mem_of_getElem? (i := 609) (by decide +kernel)) (by decide +kernel)
theorem ml_X0_54 : Cond.methodLink RX0 54 yX0_begin ∈ zTb := zTb_in (List.mem_of_getElem? (i := 613) (by decide +kernel)) (by decide +kernel)
theorem ml_X0_35 : Cond.methodLink RX0 35 yX1_setFrom ∈ zTb := zTb_in (List.mem_of_getElem? (i := 617) (by decide +kernel)) (by decide +kernel)
theorem ml_X0_40 : Cond.methodLink RX0 40 yX5_setFrom ∈ zTb := zTb_in (List.mem_of_getElem? (i := 618) (by decide +kernel)) (by decide +kernel)
theorem ml_X0_58 : Cond.methodLink RX0 58 yX0_walkHome ∈ zTb := zTb_in (List.mem_of_getElem? (i := 619) (by decide +kernel)) (by decide +kernel)
theorem ml_X0_50 : Cond.methodLink RX0 50 yX1_pass ∈ zTb := zTb_in (List.mem_of_getElem? (i := 623) (by decide +kernel)) (by decide +kernel)
theorem ml_L_86 : Cond.methodLink RL 86 yX7_lost ∈ zTb := zTb_in (List.mem_of_getElem? (i := 624) (by decide +kernel)) (by decide +kernel)
theorem ml_X7_192 : Cond.methodLink RX7 192 yX1_worthOf ∈ zTb := zTb_in (List.mem_of_getElem? (i := 628) (by decide +kernel)) (by decide +kernel)
theorem ml_L_90 : Cond.methodLink RL 90 yX7_lurk ∈ zTb := zTb_in (List.mem_of_getElem? (i := 632) (by decide +kernel)) (by decide +kernel)
theorem ml_X7_196 : Cond.methodLink RX7 196 yX0_waitFor ∈ zTb := zTb_in (List.mem_of_getElem? (i := 636) (by decide +kernel)) (by decide +kernel)
theorem ml_X0_64 : Cond.methodLink RX0 64 yX1_worthOf ∈ zTb := zTb_in (List.mem_of_getElem? (i := 640) (by decide +kernel)) (by decide +kernel)
theorem ml_X0_68 : Cond.methodLink RX0 68 yX1_whoHas ∈ zTb := zTb_in (List.mem_of_getElem? (i := 641) (by decide +kernel)) (by decide +kernel)
theorem ml_X0_72 : Cond.methodLink RX0 72 yX1_addPerson ∈ zTb := zTb_in (List.mem_of_getElem? (i := 642) (by decide +kernel)) (by decide +kernel)
theorem ml_L_94 : Cond.methodLink RL 94 yX7_stand ∈ zTb := zTb_in (List.mem_of_getElem? (i := 643) (by decide +kernel)) (by decide +kernel)
theorem ml_X7_203 : Cond.methodLink RX7 203 yX0_mostWorthOf ∈ zTb := zTb_in (List.mem_of_getElem? (i := 647) (by decide +kernel)) (by decide +kernel)
theorem ml_L_98 : Cond.methodLink RL 98 yX7_sister ∈ zTb := zTb_in (List.mem_of_getElem? (i := 651) (by decide +kernel)) (by decide +kernel)
theorem ml_L_102 : Cond.methodLink RL 102 yX7_meet ∈ zTb := zTb_in (List.mem_of_getElem? (i := 655) (by decide +kernel)) (by decide +kernel)
theorem ml_X7_206 : Cond.methodLink RX7 206 yX0_turnsWith ∈ zTb := zTb_in (List.mem_of_getElem? (i := 659) (by decide +kernel)) (by decide +kernel)
theorem ml_X0_86 : Cond.methodLink RX0 86 yX5_setOut ∈ zTb := zTb_in (List.mem_of_getElem? (i := 663) (by decide +kernel)) (by decide +kernel)
theorem ml_X0_95 : Cond.methodLink RX0 95 yX0_takesTurn ∈ zTb := zTb_in (List.mem_of_getElem? (i := 664) (by decide +kernel)) (by decide +kernel)
theorem ml_X0_99 : Cond.methodLink RX0 99 yX1_feelOneMore ∈ zTb := zTb_in (List.mem_of_getElem? (i := 668) (by decide +kernel)) (by decide +kernel)
theorem ml_X0_103 : Cond.methodLink RX0 103 yX1_isGlad ∈ zTb := zTb_in (List.mem_of_getElem? (i := 669) (by decide +kernel)) (by decide +kernel)
theorem ml_X0_107 : Cond.methodLink RX0 107 yX5_hasNew ∈ zTb := zTb_in (List.mem_of_getElem? (i := 670) (by decide +kernel)) (by decide +kernel)
theorem ml_L_106 : Cond.methodLink RL 106 yX7_first ∈ zTb := zTb_in (List.mem_of_getElem? (i := 671) (by decide +kernel)) (by decide +kernel)
theorem ml_X7_213 : Cond.methodLink RX7 213 yX0_firstsFor ∈ zTb := zTb_in (List.mem_of_getElem? (i := 675) (by decide +kernel)) (by decide +kernel)
theorem ml_L_110 : Cond.methodLink RL 110 yX7_cheated ∈ zTb := zTb_in (List.mem_of_getElem? (i := 679) (by decide +kernel)) (by decide +kernel)
theorem ml_X7_216 : Cond.methodLink RX7 216 yX0_heedFor ∈ zTb := zTb_in (List.mem_of_getElem? (i := 683) (by decide +kernel)) (by decide +kernel)
theorem ml_L_114 : Cond.methodLink RL 114 yX7_chance ∈ zTb := zTb_in (List.mem_of_getElem? (i := 687) (by decide +kernel)) (by decide +kernel)
theorem ml_X7_219 : Cond.methodLink RX7 219 yX0_waysTo ∈ zTb := zTb_in (List.mem_of_getElem? (i := 691) (by decide +kernel)) (by decide +kernel)
theorem ml_X0_111 : Cond.methodLink RX0 111 yX0_waysFrom ∈ zTb := zTb_in (List.mem_of_getElem? (i := 695) (by decide +kernel)) (by decide +kernel)
theorem ml_X0_115 : Cond.methodLink RX0 115 yX0_waysBehind ∈ zTb := zTb_in (List.mem_of_getElem? (i := 699) (by decide +kernel)) (by decide +kernel)
theorem ml_X0_119 : Cond.methodLink RX0 119 yX1_isPeopled ∈ zTb := zTb_in (List.mem_of_getElem? (i := 703) (by decide +kernel)) (by decide +kernel)
theorem ml_L_118 : Cond.methodLink RL 118 yX7_image ∈ zTb := zTb_in (List.mem_of_getElem? (i := 707) (by decide +kernel)) (by decide +kernel)
theorem ml_X7_222 : Cond.methodLink RX7 222 yX6_setFrom ∈ zTb := zTb_in (List.mem_of_getElem? (i := 711) (by decide +kernel)) (by decide +kernel)
theorem ml_X6_29 : Cond.methodLink RX6 29 yX1_setFrom ∈ zTb := zTb_in (List.mem_of_getElem? (i := 715) (by decide +kernel)) (by decide +kernel)
theorem ml_L_122 : Cond.methodLink RL 122 yX7_restore ∈ zTb := zTb_in (List.mem_of_getElem? (i := 716) (by decide +kernel)) (by decide +kernel)
theorem ml_L_126 : Cond.methodLink RL 126 yX7_seen ∈ zTb := zTb_in (List.mem_of_getElem? (i := 720) (by decide +kernel)) (by decide +kernel)
theorem ml_X7_229 : Cond.methodLink RX7 229 yX7_rowFault ∈ zTb := zTb_in (List.mem_of_getElem? (i := 724) (by decide +kernel)) (by decide +kernel)
theorem ml_X7_262 : Cond.methodLink RX7 262 yX2_hasRange ∈ zTb := zTb_in (List.mem_of_getElem? (i := 728) (by decide +kernel)) (by decide +kernel)
theorem ml_X7_236 : Cond.methodLink RX7 236 yX1_mindsOf ∈ zTb := zTb_in (List.mem_of_getElem? (i := 732) (by decide +kernel)) (by decide +kernel)
theorem ml_L_130 : Cond.methodLink RL 130 yX7_film ∈ zTb := zTb_in (List.mem_of_getElem? (i := 736) (by decide +kernel)) (by decide +kernel)
theorem ml_X7_239 : Cond.methodLink RX7 239 yX0_begin ∈ zTb := zTb_in (List.mem_of_getElem? (i := 740) (by decide +kernel)) (by decide +kernel)
theorem ml_X7_243 : Cond.methodLink RX7 243 yX2_put ∈ zTb := zTb_in (List.mem_of_getElem? (i := 741) (by decide +kernel)) (by decide +kernel)
theorem ml_L_134 : Cond.methodLink RL 134 yX7_deal ∈ zTb := zTb_in (List.mem_of_getElem? (i := 745) (by decide +kernel)) (by decide +kernel)
theorem ml_X7_247 : Cond.methodLink RX7 247 yX7_canDeal ∈ zTb := zTb_in (List.mem_of_getElem? (i := 749) (by decide +kernel)) (by decide +kernel)
theorem ml_L_138 : Cond.methodLink RL 138 yX7_sheet ∈ zTb := zTb_in (List.mem_of_getElem? (i := 753) (by decide +kernel)) (by decide +kernel)
theorem ml_X7_251 : Cond.methodLink RX7 251 yX2_renew ∈ zTb := zTb_in (List.mem_of_getElem? (i := 757) (by decide +kernel)) (by decide +kernel)
theorem ml_X2_26 : Cond.methodLink RX2 26 yJ7_fill_d0a16 ∈ zTb := zTb_in (List.mem_of_getElem? (i := 761) (by decide +kernel)) (by decide +kernel)
theorem ml_L_142 : Cond.methodLink RL 142 yX7_drop ∈ zTb := zTb_in (List.mem_of_getElem? (i := 764) (by decide +kernel)) (by decide +kernel)
theorem ml_L_148 : Cond.methodLink RL 148 yX7_item ∈ zTb := zTb_in (List.mem_of_getElem? (i := 768) (by decide +kernel)) (by decide +kernel)
theorem ml_L_153 : Cond.methodLink RL 153 yX7_copy ∈ zTb := zTb_in (List.mem_of_getElem? (i := 772) (by decide +kernel)) (by decide +kernel)
theorem ml_X8_63 : Cond.methodLink RX8 63 yX8_starts ∈ zTb := zTb_in (List.mem_of_getElem? (i := 783) (by decide +kernel)) (by decide +kernel)
theorem ml_L_17 : Cond.methodLink RL 17 yX8_thing ∈ zTb := zTb_in (List.mem_of_getElem? (i := 878) (by decide +kernel)) (by decide +kernel)
theorem ml_X8_72 : Cond.methodLink RX8 72 yX8_in ∈ zTb := zTb_in (List.mem_of_getElem? (i := 883) (by decide +kernel)) (by decide +kernel)
theorem ml_X8_85 : Cond.methodLink RX8 85 yX8_thingComes ∈ zTb := zTb_in (List.mem_of_getElem? (i := 888) (by decide +kernel)) (by decide +kernel)
theorem ml_L_22 : Cond.methodLink RL 22 yX8_of ∈ zTb := zTb_in (List.mem_of_getElem? (i := 892) (by decide +kernel)) (by decide +kernel)
theorem ml_X8_89 : Cond.methodLink RX8 89 yX8_isThing ∈ zTb := zTb_in (List.mem_of_getElem? (i := 896) (by decide +kernel)) (by decide +kernel)
theorem ml_X8_95 : Cond.methodLink RX8 95 yX8_who ∈ zTb := zTb_in (List.mem_of_getElem? (i := 901) (by decide +kernel)) (by decide +kernel)
theorem ml_L_27 : Cond.methodLink RL 27 yX8_felt ∈ zTb := zTb_in (List.mem_of_getElem? (i := 905) (by decide +kernel)) (by decide +kernel)
theorem ml_X8_99 : Cond.methodLink RX8 99 yX8_feels ∈ zTb := zTb_in (List.mem_of_getElem? (i := 909) (by decide +kernel)) (by decide +kernel)
theorem ml_L_31 : Cond.methodLink RL 31 yX8_person ∈ zTb := zTb_in (List.mem_of_getElem? (i := 913) (by decide +kernel)) (by decide +kernel)
theorem ml_X8_107 : Cond.methodLink RX8 107 yX8_personComes ∈ zTb := zTb_in (List.mem_of_getElem? (i := 919) (by decide +kernel)) (by decide +kernel)
theorem ml_L_35 : Cond.methodLink RL 35 yX8_told ∈ zTb := zTb_in (List.mem_of_getElem? (i := 923) (by decide +kernel)) (by decide +kernel)
theorem ml_X8_111 : Cond.methodLink RX8 111 yX8_isPerson ∈ zTb := zTb_in (List.mem_of_getElem? (i := 927) (by decide +kernel)) (by decide +kernel)
theorem ml_L_39 : Cond.methodLink RL 39 yX8_move ∈ zTb := zTb_in (List.mem_of_getElem? (i := 932) (by decide +kernel)) (by decide +kernel)
theorem ml_L_44 : Cond.methodLink RL 44 yX8_take ∈ zTb := zTb_in (List.mem_of_getElem? (i := 936) (by decide +kernel)) (by decide +kernel)
theorem ml_L_48 : Cond.methodLink RL 48 yX8_count ∈ zTb := zTb_in (List.mem_of_getElem? (i := 940) (by decide +kernel)) (by decide +kernel)
theorem ml_L_52 : Cond.methodLink RL 52 yX8_heed ∈ zTb := zTb_in (List.mem_of_getElem? (i := 944) (by decide +kernel)) (by decide +kernel)
theorem ml_L_56 : Cond.methodLink RL 56 yX8_well ∈ zTb := zTb_in (List.mem_of_getElem? (i := 948) (by decide +kernel)) (by decide +kernel)
theorem ml_L_60 : Cond.methodLink RL 60 yX8_type ∈ zTb := zTb_in (List.mem_of_getElem? (i := 952) (by decide +kernel)) (by decide +kernel)
theorem ml_L_65 : Cond.methodLink RL 65 yX8_road ∈ zTb := zTb_in (List.mem_of_getElem? (i := 958) (by decide +kernel)) (by decide +kernel)
theorem ml_X8_157 : Cond.methodLink RX8 157 yX8_readThing ∈ zTb := zTb_in (List.mem_of_getElem? (i := 962) (by decide +kernel)) (by decide +kernel)
theorem ml_X8_131 : Cond.methodLink RX8 131 yX8_here ∈ zTb := zTb_in (List.mem_of_getElem? (i := 966) (by decide +kernel)) (by decide +kernel)
theorem ml_X8_142 : Cond.methodLink RX8 142 yX8_number ∈ zTb := zTb_in (List.mem_of_getElem? (i := 970) (by decide +kernel)) (by decide +kernel)
theorem ml_X8_145 : Cond.methodLink RX8 145 yX8_has ∈ zTb := zTb_in (List.mem_of_getElem? (i := 976) (by decide +kernel)) (by decide +kernel)
theorem ml_X8_160 : Cond.methodLink RX8 160 yX8_readPerson ∈ zTb := zTb_in (List.mem_of_getElem? (i := 980) (by decide +kernel)) (by decide +kernel)
theorem ml_X8_151 : Cond.methodLink RX8 151 yX8_readHad ∈ zTb := zTb_in (List.mem_of_getElem? (i := 984) (by decide +kernel)) (by decide +kernel)
theorem ml_L_69 : Cond.methodLink RL 69 yX8_go ∈ zTb := zTb_in (List.mem_of_getElem? (i := 988) (by decide +kernel)) (by decide +kernel)
theorem ml_X8_189 : Cond.methodLink RX8 189 yX8_notes ∈ zTb := zTb_in (List.mem_of_getElem? (i := 992) (by decide +kernel)) (by decide +kernel)
theorem ml_X8_192 : Cond.methodLink RX8 192 yX8_goesOn ∈ zTb := zTb_in (List.mem_of_getElem? (i := 996) (by decide +kernel)) (by decide +kernel)
theorem ml_X8_170 : Cond.methodLink RX8 170 yX8_own ∈ zTb := zTb_in (List.mem_of_getElem? (i := 1000) (by decide +kernel)) (by decide +kernel)
theorem ml_X8_166 : Cond.methodLink RX8 166 yX8_care ∈ zTb := zTb_in (List.mem_of_getElem? (i := 1004) (by decide +kernel)) (by decide +kernel)
theorem ml_X8_182 : Cond.methodLink RX8 182 yX8_asks ∈ zTb := zTb_in (List.mem_of_getElem? (i := 1008) (by decide +kernel)) (by decide +kernel)
theorem ml_X8_176 : Cond.methodLink RX8 176 yX8_isGlad ∈ zTb := zTb_in (List.mem_of_getElem? (i := 1012) (by decide +kernel)) (by decide +kernel)
theorem ml_X8_173 : Cond.methodLink RX8 173 yX8_worth ∈ zTb := zTb_in (List.mem_of_getElem? (i := 1016) (by decide +kernel)) (by decide +kernel)
theorem ml_L_73 : Cond.methodLink RL 73 yX8_undo ∈ zTb := zTb_in (List.mem_of_getElem? (i := 1020) (by decide +kernel)) (by decide +kernel)
theorem ml_L_77 : Cond.methodLink RL 77 yX8_again ∈ zTb := zTb_in (List.mem_of_getElem? (i := 1024) (by decide +kernel)) (by decide +kernel)
theorem ml_L_81 : Cond.methodLink RL 81 yX8_glad ∈ zTb := zTb_in (List.mem_of_getElem? (i := 1028) (by decide +kernel)) (by decide +kernel)
theorem ml_L_85 : Cond.methodLink RL 85 yX8_home ∈ zTb := zTb_in (List.mem_of_getElem? (i := 1032) (by decide +kernel)) (by decide +kernel)
theorem ml_X8_195 : Cond.methodLink RX8 195 yX8_asides ∈ zTb := zTb_in (List.mem_of_getElem? (i := 1036) (by decide +kernel)) (by decide +kernel)
theorem ml_X8_198 : Cond.methodLink RX8 198 yX8_goesHome ∈ zTb := zTb_in (List.mem_of_getElem? (i := 1040) (by decide +kernel)) (by decide +kernel)
theorem ml_X8_201 : Cond.methodLink RX8 201 yX8_backs ∈ zTb := zTb_in (List.mem_of_getElem? (i := 1044) (by decide +kernel)) (by decide +kernel)
theorem ml_L_89 : Cond.methodLink RL 89 yX8_lost ∈ zTb := zTb_in (List.mem_of_getElem? (i := 1048) (by decide +kernel)) (by decide +kernel)
theorem ml_L_93 : Cond.methodLink RL 93 yX8_lurk ∈ zTb := zTb_in (List.mem_of_getElem? (i := 1052) (by decide +kernel)) (by decide +kernel)
theorem ml_L_97 : Cond.methodLink RL 97 yX8_stand ∈ zTb := zTb_in (List.mem_of_getElem? (i := 1056) (by decide +kernel)) (by decide +kernel)
theorem ml_L_101 : Cond.methodLink RL 101 yX8_sister ∈ zTb := zTb_in (List.mem_of_getElem? (i := 1060) (by decide +kernel)) (by decide +kernel)
theorem ml_X8_204 : Cond.methodLink RX8 204 yX8_sisters ∈ zTb := zTb_in (List.mem_of_getElem? (i := 1064) (by decide +kernel)) (by decide +kernel)
theorem ml_L_105 : Cond.methodLink RL 105 yX8_meet ∈ zTb := zTb_in (List.mem_of_getElem? (i := 1068) (by decide +kernel)) (by decide +kernel)
theorem ml_X8_207 : Cond.methodLink RX8 207 yX8_turns ∈ zTb := zTb_in (List.mem_of_getElem? (i := 1072) (by decide +kernel)) (by decide +kernel)
theorem ml_L_109 : Cond.methodLink RL 109 yX8_first ∈ zTb := zTb_in (List.mem_of_getElem? (i := 1076) (by decide +kernel)) (by decide +kernel)
theorem ml_L_113 : Cond.methodLink RL 113 yX8_cheated ∈ zTb := zTb_in (List.mem_of_getElem? (i := 1080) (by decide +kernel)) (by decide +kernel)
theorem ml_X8_213 : Cond.methodLink RX8 213 yX8_lost ∈ zTb := zTb_in (List.mem_of_getElem? (i := 1085) (by decide +kernel)) (by decide +kernel)
theorem ml_L_117 : Cond.methodLink RL 117 yX8_chance ∈ zTb := zTb_in (List.mem_of_getElem? (i := 1086) (by decide +kernel)) (by decide +kernel)
theorem ml_L_121 : Cond.methodLink RL 121 yX8_image ∈ zTb := zTb_in (List.mem_of_getElem? (i := 1090) (by decide +kernel)) (by decide +kernel)
theorem ml_X8_216 : Cond.methodLink RX8 216 yX8_notesRow ∈ zTb := zTb_in (List.mem_of_getElem? (i := 1094) (by decide +kernel)) (by decide +kernel)
theorem ml_L_125 : Cond.methodLink RL 125 yX8_restore ∈ zTb := zTb_in (List.mem_of_getElem? (i := 1098) (by decide +kernel)) (by decide +kernel)
theorem ml_X8_223 : Cond.methodLink RX8 223 yX8_gives ∈ zTb := zTb_in (List.mem_of_getElem? (i := 1102) (by decide +kernel)) (by decide +kernel)
theorem ml_L_129 : Cond.methodLink RL 129 yX8_seen ∈ zTb := zTb_in (List.mem_of_getElem? (i := 1106) (by decide +kernel)) (by decide +kernel)
theorem ml_X8_227 : Cond.methodLink RX8 227 yX8_isSheet ∈ zTb := zTb_in (List.mem_of_getElem? (i := 1110) (by decide +kernel)) (by decide +kernel)
theorem ml_X8_230 : Cond.methodLink RX8 230 yX8_isLane ∈ zTb := zTb_in (List.mem_of_getElem? (i := 1113) (by decide +kernel)) (by decide +kernel)
theorem ml_X8_235 : Cond.methodLink RX8 235 yX8_why ∈ zTb := zTb_in (List.mem_of_getElem? (i := 1117) (by decide +kernel)) (by decide +kernel)
theorem ml_L_133 : Cond.methodLink RL 133 yX8_film ∈ zTb := zTb_in (List.mem_of_getElem? (i := 1121) (by decide +kernel)) (by decide +kernel)
theorem ml_X8_239 : Cond.methodLink RX8 239 yX8_puts ∈ zTb := zTb_in (List.mem_of_getElem? (i := 1125) (by decide +kernel)) (by decide +kernel)
theorem ml_L_137 : Cond.methodLink RL 137 yX8_deal ∈ zTb := zTb_in (List.mem_of_getElem? (i := 1129) (by decide +kernel)) (by decide +kernel)
theorem ml_L_141 : Cond.methodLink RL 141 yX8_sheet ∈ zTb := zTb_in (List.mem_of_getElem? (i := 1133) (by decide +kernel)) (by decide +kernel)
theorem ml_L_145 : Cond.methodLink RL 145 yX8_drop ∈ zTb := zTb_in (List.mem_of_getElem? (i := 1137) (by decide +kernel)) (by decide +kernel)
theorem ml_L_152 : Cond.methodLink RL 152 yX8_item ∈ zTb := zTb_in (List.mem_of_getElem? (i := 1141) (by decide +kernel)) (by decide +kernel)
theorem ml_L_157 : Cond.methodLink RL 157 yX8_copy ∈ zTb := zTb_in (List.mem_of_getElem? (i := 1145) (by decide +kernel)) (by decide +kernel)
theorem fl_X4_9 : Cond.fieldLink RX4 9 "GladRoad$Thing" "kind" "I" ∈ zTb := zTb_in (List.mem_of_getElem? (i := 80) (by decide +kernel)) (by decide +kernel)
theorem fl_X1_32 : Cond.fieldLink RX1 32 "GladRoad$Thing" "kind" "I" ∈ zTb := zTb_in (List.mem_of_getElem? (i := 81) (by decide +kernel)) (by decide +kernel)
theorem fl_X7_69 : Cond.fieldLink RX7 69 "GladRoad$Thing" "kind" "I" ∈ zTb := zTb_in (List.mem_of_getElem? (i := 82) (by decide +kernel)) (by decide +kernel)
theorem fl_X4_15 : Cond.fieldLink RX4 15 "GladRoad$Thing" "worth" "I" ∈ zTb := zTb_in (List.mem_of_getElem? (i := 83) (by decide +kernel)) (by decide +kernel)
theorem fl_X1_35 : Cond.fieldLink RX1 35 "GladRoad$Thing" "worth" "I" ∈ zTb := zTb_in (List.mem_of_getElem? (i := 84) (by decide +kernel)) (by decide +kernel)
theorem fl_X7_74 : Cond.fieldLink RX7 74 "GladRoad$Thing" "worth" "I" ∈ zTb := zTb_in (List.mem_of_getElem? (i := 85) (by decide +kernel)) (by decide +kernel)
theorem fl_X4_18 : Cond.fieldLink RX4 18 "GladRoad$Thing" "load" "I" ∈ zTb := zTb_in (List.mem_of_getElem? (i := 86) (by decide +kernel)) (by decide +kernel)
theorem fl_X1_38 : Cond.fieldLink RX1 38 "GladRoad$Thing" "load" "I" ∈ zTb := zTb_in (List.mem_of_getElem? (i := 87) (by decide +kernel)) (by decide +kernel)
theorem fl_X7_77 : Cond.fieldLink RX7 77 "GladRoad$Thing" "load" "I" ∈ zTb := zTb_in (List.mem_of_getElem? (i := 88) (by decide +kernel)) (by decide +kernel)
theorem fl_X4_21 : Cond.fieldLink RX4 21 "GladRoad$Thing" "care" "I" ∈ zTb := zTb_in (List.mem_of_getElem? (i := 89) (by decide +kernel)) (by decide +kernel)
theorem fl_X1_41 : Cond.fieldLink RX1 41 "GladRoad$Thing" "care" "I" ∈ zTb := zTb_in (List.mem_of_getElem? (i := 90) (by decide +kernel)) (by decide +kernel)
theorem fl_X7_80 : Cond.fieldLink RX7 80 "GladRoad$Thing" "care" "I" ∈ zTb := zTb_in (List.mem_of_getElem? (i := 91) (by decide +kernel)) (by decide +kernel)
theorem fl_X1_11 : Cond.fieldLink RX1 11 "GladRoad$Road" "things" "[LGladRoad$Thing;" ∈ zTb := zTb_in (List.mem_of_getElem? (i := 102) (by decide +kernel)) (by decide +kernel)
theorem fl_X7_65 : Cond.fieldLink RX7 65 "GladRoad$Road" "things" "[LGladRoad$Thing;" ∈ zTb := zTb_in (List.mem_of_getElem? (i := 103) (by decide +kernel)) (by decide +kernel)
theorem fl_X3_44 : Cond.fieldLink RX3 44 "GladRoad$Road" "thingCount" "I" ∈ zTb := zTb_in (List.mem_of_getElem? (i := 104) (by decide +kernel)) (by decide +kernel)
theorem fl_X7_48 : Cond.fieldLink RX7 48 "GladRoad$Road" "thingCount" "I" ∈ zTb := zTb_in (List.mem_of_getElem? (i := 105) (by decide +kernel)) (by decide +kernel)
theorem fl_X1_48 : Cond.fieldLink RX1 48 "GladRoad$Road" "thingCount" "I" ∈ zTb := zTb_in (List.mem_of_getElem? (i := 106) (by decide +kernel)) (by decide +kernel)
theorem fl_X0_61 : Cond.fieldLink RX0 61 "GladRoad$Road" "thingCount" "I" ∈ zTb := zTb_in (List.mem_of_getElem? (i := 107) (by decide +kernel)) (by decide +kernel)
theorem fl_X1_17 : Cond.fieldLink RX1 17 "GladRoad$Road" "where" "[I" ∈ zTb := zTb_in (List.mem_of_getElem? (i := 108) (by decide +kernel)) (by decide +kernel)
theorem fl_X0_83 : Cond.fieldLink RX0 83 "GladRoad$Road" "where" "[I" ∈ zTb := zTb_in (List.mem_of_getElem? (i := 109) (by decide +kernel)) (by decide +kernel)
theorem fl_X7_111 : Cond.fieldLink RX7 111 "GladRoad$Road" "where" "[I" ∈ zTb := zTb_in (List.mem_of_getElem? (i := 110) (by decide +kernel)) (by decide +kernel)
theorem fl_X1_21 : Cond.fieldLink RX1 21 "GladRoad$Road" "margin" "[I" ∈ zTb := zTb_in (List.mem_of_getElem? (i := 111) (by decide +kernel)) (by decide +kernel)
theorem fl_X7_120 : Cond.fieldLink RX7 120 "GladRoad$Road" "margin" "[I" ∈ zTb := zTb_in (List.mem_of_getElem? (i := 112) (by decide +kernel)) (by decide +kernel)
theorem fl_X3_47 : Cond.fieldLink RX3 47 "GladRoad$Road" "personCount" "I" ∈ zTb := zTb_in (List.mem_of_getElem? (i := 113) (by decide +kernel)) (by decide +kernel)
theorem fl_X1_57 : Cond.fieldLink RX1 57 "GladRoad$Road" "personCount" "I" ∈ zTb := zTb_in (List.mem_of_getElem? (i := 114) (by decide +kernel)) (by decide +kernel)
theorem fl_X7_101 : Cond.fieldLink RX7 101 "GladRoad$Road" "personCount" "I" ∈ zTb := zTb_in (List.mem_of_getElem? (i := 115) (by decide +kernel)) (by decide +kernel)
theorem fl_X1_24 : Cond.fieldLink RX1 24 "GladRoad$Road" "heed" "I" ∈ zTb := zTb_in (List.mem_of_getElem? (i := 116) (by decide +kernel)) (by decide +kernel)
theorem fl_X0_92 : Cond.fieldLink RX0 92 "GladRoad$Road" "heed" "I" ∈ zTb := zTb_in (List.mem_of_getElem? (i := 117) (by decide +kernel)) (by decide +kernel)
theorem fl_X7_139 : Cond.fieldLink RX7 139 "GladRoad$Road" "heed" "I" ∈ zTb := zTb_in (List.mem_of_getElem? (i := 118) (by decide +kernel)) (by decide +kernel)
theorem fl_X1_28 : Cond.fieldLink RX1 28 "GladRoad$Road" "well" "I" ∈ zTb := zTb_in (List.mem_of_getElem? (i := 119) (by decide +kernel)) (by decide +kernel)
theorem fl_X7_142 : Cond.fieldLink RX7 142 "GladRoad$Road" "well" "I" ∈ zTb := zTb_in (List.mem_of_getElem? (i := 120) (by decide +kernel)) (by decide +kernel)
theorem fl_X5_9 : Cond.fieldLink RX5 9 "GladRoad$Trip" "his" "I" ∈ zTb := zTb_in (List.mem_of_getElem? (i := 142) (by decide +kernel)) (by decide +kernel)
theorem fl_X0_89 : Cond.fieldLink RX0 89 "GladRoad$Trip" "his" "I" ∈ zTb := zTb_in (List.mem_of_getElem? (i := 143) (by decide +kernel)) (by decide +kernel)
theorem fl_X3_103 : Cond.fieldLink RX3 103 "GladRoad$Trip" "his" "I" ∈ zTb := zTb_in (List.mem_of_getElem? (i := 144) (by decide +kernel)) (by decide +kernel)
theorem fl_X1_69 : Cond.fieldLink RX1 69 "GladRoad$Trip" "his" "I" ∈ zTb := zTb_in (List.mem_of_getElem? (i := 145) (by decide +kernel)) (by decide +kernel)
theorem fl_X7_123 : Cond.fieldLink RX7 123 "GladRoad$Trip" "his" "I" ∈ zTb := zTb_in (List.mem_of_getElem? (i := 146) (by decide +kernel)) (by decide +kernel)
theorem fl_X5_22 : Cond.fieldLink RX5 22 "GladRoad$Trip" "n" "I" ∈ zTb := zTb_in (List.mem_of_getElem? (i := 147) (by decide +kernel)) (by decide +kernel)
theorem fl_X7_133 : Cond.fieldLink RX7 133 "GladRoad$Trip" "n" "I" ∈ zTb := zTb_in (List.mem_of_getElem? (i := 148) (by decide +kernel)) (by decide +kernel)
theorem fl_X1_86 : Cond.fieldLink RX1 86 "GladRoad$Trip" "n" "I" ∈ zTb := zTb_in (List.mem_of_getElem? (i := 149) (by decide +kernel)) (by decide +kernel)
theorem fl_X5_25 : Cond.fieldLink RX5 25 "GladRoad$Trip" "mind" "I" ∈ zTb := zTb_in (List.mem_of_getElem? (i := 150) (by decide +kernel)) (by decide +kernel)
theorem fl_X7_136 : Cond.fieldLink RX7 136 "GladRoad$Trip" "mind" "I" ∈ zTb := zTb_in (List.mem_of_getElem? (i := 151) (by decide +kernel)) (by decide +kernel)
theorem fl_X1_97 : Cond.fieldLink RX1 97 "GladRoad$Trip" "mind" "I" ∈ zTb := zTb_in (List.mem_of_getElem? (i := 152) (by decide +kernel)) (by decide +kernel)
theorem fl_X5_28 : Cond.fieldLink RX5 28 "GladRoad$Trip" "ahead" "I" ∈ zTb := zTb_in (List.mem_of_getElem? (i := 153) (by decide +kernel)) (by decide +kernel)
theorem fl_X0_47 : Cond.fieldLink RX0 47 "GladRoad$Trip" "ahead" "I" ∈ zTb := zTb_in (List.mem_of_getElem? (i := 154) (by decide +kernel)) (by decide +kernel)
theorem fl_X7_130 : Cond.fieldLink RX7 130 "GladRoad$Trip" "ahead" "I" ∈ zTb := zTb_in (List.mem_of_getElem? (i := 155) (by decide +kernel)) (by decide +kernel)
theorem fl_X1_79 : Cond.fieldLink RX1 79 "GladRoad$Trip" "ahead" "I" ∈ zTb := zTb_in (List.mem_of_getElem? (i := 156) (by decide +kernel)) (by decide +kernel)
theorem fl_X5_31 : Cond.fieldLink RX5 31 "GladRoad$Trip" "changes" "I" ∈ zTb := zTb_in (List.mem_of_getElem? (i := 157) (by decide +kernel)) (by decide +kernel)
theorem fl_X7_145 : Cond.fieldLink RX7 145 "GladRoad$Trip" "changes" "I" ∈ zTb := zTb_in (List.mem_of_getElem? (i := 158) (by decide +kernel)) (by decide +kernel)
theorem fl_X1_72 : Cond.fieldLink RX1 72 "GladRoad$Trip" "changes" "I" ∈ zTb := zTb_in (List.mem_of_getElem? (i := 159) (by decide +kernel)) (by decide +kernel)
theorem fl_X5_15 : Cond.fieldLink RX5 15 "GladRoad$Trip" "refused" "I" ∈ zTb := zTb_in (List.mem_of_getElem? (i := 160) (by decide +kernel)) (by decide +kernel)
theorem fl_X0_43 : Cond.fieldLink RX0 43 "GladRoad$Trip" "refused" "I" ∈ zTb := zTb_in (List.mem_of_getElem? (i := 161) (by decide +kernel)) (by decide +kernel)
theorem fl_X1_104 : Cond.fieldLink RX1 104 "GladRoad$Trip" "refused" "I" ∈ zTb := zTb_in (List.mem_of_getElem? (i := 162) (by decide +kernel)) (by decide +kernel)
theorem fl_X7_189 : Cond.fieldLink RX7 189 "GladRoad$Trip" "refused" "I" ∈ zTb := zTb_in (List.mem_of_getElem? (i := 163) (by decide +kernel)) (by decide +kernel)
theorem fl_X5_18 : Cond.fieldLink RX5 18 "GladRoad$Trip" "theirs" "[I" ∈ zTb := zTb_in (List.mem_of_getElem? (i := 164) (by decide +kernel)) (by decide +kernel)
theorem fl_X0_76 : Cond.fieldLink RX0 76 "GladRoad$Trip" "theirs" "[I" ∈ zTb := zTb_in (List.mem_of_getElem? (i := 165) (by decide +kernel)) (by decide +kernel)
theorem fl_X1_60 : Cond.fieldLink RX1 60 "GladRoad$Trip" "theirs" "[I" ∈ zTb := zTb_in (List.mem_of_getElem? (i := 166) (by decide +kernel)) (by decide +kernel)
theorem fl_X7_115 : Cond.fieldLink RX7 115 "GladRoad$Trip" "theirs" "[I" ∈ zTb := zTb_in (List.mem_of_getElem? (i := 167) (by decide +kernel)) (by decide +kernel)
theorem fl_X6_12 : Cond.fieldLink RX6 12 "GladRoad$World" "road" "LGladRoad$Road;" ∈ zTb := zTb_in (List.mem_of_getElem? (i := 184) (by decide +kernel)) (by decide +kernel)
theorem fl_X0_32 : Cond.fieldLink RX0 32 "GladRoad$World" "road" "LGladRoad$Road;" ∈ zTb := zTb_in (List.mem_of_getElem? (i := 185) (by decide +kernel)) (by decide +kernel)
theorem fl_X3_33 : Cond.fieldLink RX3 33 "GladRoad$World" "road" "LGladRoad$Road;" ∈ zTb := zTb_in (List.mem_of_getElem? (i := 186) (by decide +kernel)) (by decide +kernel)
theorem fl_X7_44 : Cond.fieldLink RX7 44 "GladRoad$World" "road" "LGladRoad$Road;" ∈ zTb := zTb_in (List.mem_of_getElem? (i := 187) (by decide +kernel)) (by decide +kernel)
theorem fl_X6_21 : Cond.fieldLink RX6 21 "GladRoad$World" "trip" "LGladRoad$Trip;" ∈ zTb := zTb_in (List.mem_of_getElem? (i := 188) (by decide +kernel)) (by decide +kernel)
theorem fl_X0_39 : Cond.fieldLink RX0 39 "GladRoad$World" "trip" "LGladRoad$Trip;" ∈ zTb := zTb_in (List.mem_of_getElem? (i := 189) (by decide +kernel)) (by decide +kernel)
theorem fl_X3_40 : Cond.fieldLink RX3 40 "GladRoad$World" "trip" "LGladRoad$Trip;" ∈ zTb := zTb_in (List.mem_of_getElem? (i := 190) (by decide +kernel)) (by decide +kernel)
theorem fl_X7_83 : Cond.fieldLink RX7 83 "GladRoad$World" "trip" "LGladRoad$Trip;" ∈ zTb := zTb_in (List.mem_of_getElem? (i := 191) (by decide +kernel)) (by decide +kernel)
theorem fl_X6_25 : Cond.fieldLink RX6 25 "GladRoad$World" "past" "[LGladRoad$Trip;" ∈ zTb := zTb_in (List.mem_of_getElem? (i := 192) (by decide +kernel)) (by decide +kernel)
theorem fl_X6_36 : Cond.fieldLink RX6 36 "GladRoad$World" "known" "I" ∈ zTb := zTb_in (List.mem_of_getElem? (i := 193) (by decide +kernel)) (by decide +kernel)
theorem fl_X7_54 : Cond.fieldLink RX7 54 "GladRoad$World" "known" "I" ∈ zTb := zTb_in (List.mem_of_getElem? (i := 194) (by decide +kernel)) (by decide +kernel)
theorem fl_X3_9 : Cond.fieldLink RX3 9 "GladRoad$Tape" "letters" "[C" ∈ zTb := zTb_in (List.mem_of_getElem? (i := 214) (by decide +kernel)) (by decide +kernel)
theorem fl_X7_151 : Cond.fieldLink RX7 151 "GladRoad$Tape" "letters" "[C" ∈ zTb := zTb_in (List.mem_of_getElem? (i := 215) (by decide +kernel)) (by decide +kernel)
theorem fl_X3_106 : Cond.fieldLink RX3 106 "GladRoad$Tape" "length" "I" ∈ zTb := zTb_in (List.mem_of_getElem? (i := 216) (by decide +kernel)) (by decide +kernel)
theorem fl_X7_148 : Cond.fieldLink RX7 148 "GladRoad$Tape" "length" "I" ∈ zTb := zTb_in (List.mem_of_getElem? (i := 217) (by decide +kernel)) (by decide +kernel)
theorem fl_X3_29 : Cond.fieldLink RX3 29 "GladRoad$Tape" "place" "I" ∈ zTb := zTb_in (List.mem_of_getElem? (i := 218) (by decide +kernel)) (by decide +kernel)
theorem fl_X7_159 : Cond.fieldLink RX7 159 "GladRoad$Tape" "place" "I" ∈ zTb := zTb_in (List.mem_of_getElem? (i := 219) (by decide +kernel)) (by decide +kernel)
theorem fl_X3_18 : Cond.fieldLink RX3 18 "GladRoad$Tape" "road" "LGladRoad$Road;" ∈ zTb := zTb_in (List.mem_of_getElem? (i := 220) (by decide +kernel)) (by decide +kernel)
theorem fl_X7_162 : Cond.fieldLink RX7 162 "GladRoad$Tape" "road" "LGladRoad$Road;" ∈ zTb := zTb_in (List.mem_of_getElem? (i := 221) (by decide +kernel)) (by decide +kernel)
theorem fl_X3_25 : Cond.fieldLink RX3 25 "GladRoad$Tape" "trip" "LGladRoad$Trip;" ∈ zTb := zTb_in (List.mem_of_getElem? (i := 222) (by decide +kernel)) (by decide +kernel)
theorem fl_X7_167 : Cond.fieldLink RX7 167 "GladRoad$Tape" "trip" "LGladRoad$Trip;" ∈ zTb := zTb_in (List.mem_of_getElem? (i := 223) (by decide +kernel)) (by decide +kernel)
theorem fl_X0_12 : Cond.fieldLink RX0 12 "GladRoad$Foresight" "road" "LGladRoad$Road;" ∈ zTb := zTb_in (List.mem_of_getElem? (i := 246) (by decide +kernel)) (by decide +kernel)
theorem fl_X7_242 : Cond.fieldLink RX7 242 "GladRoad$Foresight" "road" "LGladRoad$Road;" ∈ zTb := zTb_in (List.mem_of_getElem? (i := 247) (by decide +kernel)) (by decide +kernel)
theorem fl_X0_21 : Cond.fieldLink RX0 21 "GladRoad$Foresight" "trip" "LGladRoad$Trip;" ∈ zTb := zTb_in (List.mem_of_getElem? (i := 248) (by decide +kernel)) (by decide +kernel)
theorem fl_X7_209 : Cond.fieldLink RX7 209 "GladRoad$Foresight" "trip" "LGladRoad$Trip;" ∈ zTb := zTb_in (List.mem_of_getElem? (i := 249) (by decide +kernel)) (by decide +kernel)
theorem fl_X0_25 : Cond.fieldLink RX0 25 "GladRoad$Foresight" "other" "LGladRoad$Trip;" ∈ zTb := zTb_in (List.mem_of_getElem? (i := 250) (by decide +kernel)) (by decide +kernel)
theorem fl_X7_210 : Cond.fieldLink RX7 210 "GladRoad$Foresight" "other" "LGladRoad$Trip;" ∈ zTb := zTb_in (List.mem_of_getElem? (i := 251) (by decide +kernel)) (by decide +kernel)
theorem fl_X0_28 : Cond.fieldLink RX0 28 "GladRoad$Foresight" "forks" "[LGladRoad$Trip;" ∈ zTb := zTb_in (List.mem_of_getElem? (i := 252) (by decide +kernel)) (by decide +kernel)
theorem fl_X0_80 : Cond.fieldLink RX0 80 "GladRoad$Foresight" "milestone" "I" ∈ zTb := zTb_in (List.mem_of_getElem? (i := 253) (by decide +kernel)) (by decide +kernel)
theorem fl_X7_200 : Cond.fieldLink RX7 200 "GladRoad$Foresight" "milestone" "I" ∈ zTb := zTb_in (List.mem_of_getElem? (i := 254) (by decide +kernel)) (by decide +kernel)
theorem fl_X2_15 : Cond.fieldLink RX2 15 "GladRoad$Sheet" "isThere" "Z" ∈ zTb := zTb_in (List.mem_of_getElem? (i := 273) (by decide +kernel)) (by decide +kernel)
theorem fl_X7_255 : Cond.fieldLink RX7 255 "GladRoad$Sheet" "isThere" "Z" ∈ zTb := zTb_in (List.mem_of_getElem? (i := 274) (by decide +kernel)) (by decide +kernel)
theorem fl_X2_19 : Cond.fieldLink RX2 19 "GladRoad$Sheet" "lane" "I" ∈ zTb := zTb_in (List.mem_of_getElem? (i := 275) (by decide +kernel)) (by decide +kernel)
theorem fl_X7_259 : Cond.fieldLink RX7 259 "GladRoad$Sheet" "lane" "I" ∈ zTb := zTb_in (List.mem_of_getElem? (i := 276) (by decide +kernel)) (by decide +kernel)
theorem fl_X2_23 : Cond.fieldLink RX2 23 "GladRoad$Sheet" "length" "I" ∈ zTb := zTb_in (List.mem_of_getElem? (i := 277) (by decide +kernel)) (by decide +kernel)
theorem fl_X7_258 : Cond.fieldLink RX7 258 "GladRoad$Sheet" "length" "I" ∈ zTb := zTb_in (List.mem_of_getElem? (i := 278) (by decide +kernel)) (by decide +kernel)
theorem fl_X2_9 : Cond.fieldLink RX2 9 "GladRoad$Sheet" "items" "[J" ∈ zTb := zTb_in (List.mem_of_getElem? (i := 279) (by decide +kernel)) (by decide +kernel)
theorem fl_X7_232 : Cond.fieldLink RX7 232 "GladRoad$Sheet" "items" "[J" ∈ zTb := zTb_in (List.mem_of_getElem? (i := 280) (by decide +kernel)) (by decide +kernel)
theorem fl_X7_10 : Cond.fieldLink RX7 10 "GladRoad" "now" "LGladRoad$World;" ∈ zTb := zTb_in (List.mem_of_getElem? (i := 291) (by decide +kernel)) (by decide +kernel)
theorem fl_X7_16 : Cond.fieldLink RX7 16 "GladRoad" "kept" "LGladRoad$World;" ∈ zTb := zTb_in (List.mem_of_getElem? (i := 292) (by decide +kernel)) (by decide +kernel)
theorem fl_X7_225 : Cond.fieldLink RX7 225 "GladRoad" "isKept" "Z" ∈ zTb := zTb_in (List.mem_of_getElem? (i := 293) (by decide +kernel)) (by decide +kernel)
theorem fl_X7_22 : Cond.fieldLink RX7 22 "GladRoad" "tape" "LGladRoad$Tape;" ∈ zTb := zTb_in (List.mem_of_getElem? (i := 294) (by decide +kernel)) (by decide +kernel)
theorem fl_X7_29 : Cond.fieldLink RX7 29 "GladRoad" "foresight" "LGladRoad$Foresight;" ∈ zTb := zTb_in (List.mem_of_getElem? (i := 295) (by decide +kernel)) (by decide +kernel)
theorem fl_X7_35 : Cond.fieldLink RX7 35 "GladRoad" "sheets" "[LGladRoad$Sheet;" ∈ zTb := zTb_in (List.mem_of_getElem? (i := 296) (by decide +kernel)) (by decide +kernel)
theorem fl_X8_69 : Cond.fieldLink RX8 69 "GladRoadModel" "things" "I" ∈ zTb := zTb_in (List.mem_of_getElem? (i := 787) (by decide +kernel)) (by decide +kernel)
theorem fl_X8_76 : Cond.fieldLink RX8 76 "GladRoadModel" "people" "I" ∈ zTb := zTb_in (List.mem_of_getElem? (i := 788) (by decide +kernel)) (by decide +kernel)
theorem fl_X8_7 : Cond.fieldLink RX8 7 "GladRoadModel" "thing" "[I" ∈ zTb := zTb_in (List.mem_of_getElem? (i := 789) (by decide +kernel)) (by decide +kernel)
theorem fl_X8_13 : Cond.fieldLink RX8 13 "GladRoadModel" "person" "[I" ∈ zTb := zTb_in (List.mem_of_getElem? (i := 790) (by decide +kernel)) (by decide +kernel)
theorem fl_X8_16 : Cond.fieldLink RX8 16 "GladRoadModel" "now" "[I" ∈ zTb := zTb_in (List.mem_of_getElem? (i := 791) (by decide +kernel)) (by decide +kernel)
theorem fl_X8_60 : Cond.fieldLink RX8 60 "GladRoadModel" "heed" "I" ∈ zTb := zTb_in (List.mem_of_getElem? (i := 792) (by decide +kernel)) (by decide +kernel)
theorem fl_X8_56 : Cond.fieldLink RX8 56 "GladRoadModel" "well" "I" ∈ zTb := zTb_in (List.mem_of_getElem? (i := 793) (by decide +kernel)) (by decide +kernel)
theorem fl_X8_186 : Cond.fieldLink RX8 186 "GladRoadModel" "more" "I" ∈ zTb := zTb_in (List.mem_of_getElem? (i := 794) (by decide +kernel)) (by decide +kernel)
theorem fl_X8_163 : Cond.fieldLink RX8 163 "GladRoadModel" "tossed" "I" ∈ zTb := zTb_in (List.mem_of_getElem? (i := 795) (by decide +kernel)) (by decide +kernel)
theorem fl_X8_19 : Cond.fieldLink RX8 19 "GladRoadModel" "tape" "[I" ∈ zTb := zTb_in (List.mem_of_getElem? (i := 796) (by decide +kernel)) (by decide +kernel)
theorem fl_X8_121 : Cond.fieldLink RX8 121 "GladRoadModel" "taped" "I" ∈ zTb := zTb_in (List.mem_of_getElem? (i := 797) (by decide +kernel)) (by decide +kernel)
theorem fl_X8_124 : Cond.fieldLink RX8 124 "GladRoadModel" "at" "I" ∈ zTb := zTb_in (List.mem_of_getElem? (i := 798) (by decide +kernel)) (by decide +kernel)
theorem fl_X8_127 : Cond.fieldLink RX8 127 "GladRoadModel" "wrong" "Z" ∈ zTb := zTb_in (List.mem_of_getElem? (i := 799) (by decide +kernel)) (by decide +kernel)
theorem fl_X8_139 : Cond.fieldLink RX8 139 "GladRoadModel" "manyThings" "I" ∈ zTb := zTb_in (List.mem_of_getElem? (i := 800) (by decide +kernel)) (by decide +kernel)
theorem fl_X8_148 : Cond.fieldLink RX8 148 "GladRoadModel" "manyPeople" "I" ∈ zTb := zTb_in (List.mem_of_getElem? (i := 801) (by decide +kernel)) (by decide +kernel)
theorem fl_X8_154 : Cond.fieldLink RX8 154 "GladRoadModel" "his" "I" ∈ zTb := zTb_in (List.mem_of_getElem? (i := 802) (by decide +kernel)) (by decide +kernel)
theorem fl_X8_22 : Cond.fieldLink RX8 22 "GladRoadModel" "readThings" "[I" ∈ zTb := zTb_in (List.mem_of_getElem? (i := 803) (by decide +kernel)) (by decide +kernel)
theorem fl_X8_25 : Cond.fieldLink RX8 25 "GladRoadModel" "readPeople" "[I" ∈ zTb := zTb_in (List.mem_of_getElem? (i := 804) (by decide +kernel)) (by decide +kernel)
theorem fl_X8_179 : Cond.fieldLink RX8 179 "GladRoadModel" "refused" "I" ∈ zTb := zTb_in (List.mem_of_getElem? (i := 805) (by decide +kernel)) (by decide +kernel)
theorem fl_X8_28 : Cond.fieldLink RX8 28 "GladRoadModel" "undone" "[I" ∈ zTb := zTb_in (List.mem_of_getElem? (i := 806) (by decide +kernel)) (by decide +kernel)
theorem fl_X8_66 : Cond.fieldLink RX8 66 "GladRoadModel" "undos" "I" ∈ zTb := zTb_in (List.mem_of_getElem? (i := 807) (by decide +kernel)) (by decide +kernel)
theorem fl_X8_31 : Cond.fieldLink RX8 31 "GladRoadModel" "aside" "[I" ∈ zTb := zTb_in (List.mem_of_getElem? (i := 808) (by decide +kernel)) (by decide +kernel)
theorem fl_X8_34 : Cond.fieldLink RX8 34 "GladRoadModel" "meets" "[I" ∈ zTb := zTb_in (List.mem_of_getElem? (i := 809) (by decide +kernel)) (by decide +kernel)
theorem fl_X8_37 : Cond.fieldLink RX8 37 "GladRoadModel" "two" "[I" ∈ zTb := zTb_in (List.mem_of_getElem? (i := 810) (by decide +kernel)) (by decide +kernel)
theorem fl_X8_40 : Cond.fieldLink RX8 40 "GladRoadModel" "image" "[I" ∈ zTb := zTb_in (List.mem_of_getElem? (i := 811) (by decide +kernel)) (by decide +kernel)
theorem fl_X8_220 : Cond.fieldLink RX8 220 "GladRoadModel" "isImage" "Z" ∈ zTb := zTb_in (List.mem_of_getElem? (i := 812) (by decide +kernel)) (by decide +kernel)
theorem fl_X8_43 : Cond.fieldLink RX8 43 "GladRoadModel" "lanes" "[I" ∈ zTb := zTb_in (List.mem_of_getElem? (i := 813) (by decide +kernel)) (by decide +kernel)
theorem fl_X8_46 : Cond.fieldLink RX8 46 "GladRoadModel" "sizes" "[I" ∈ zTb := zTb_in (List.mem_of_getElem? (i := 814) (by decide +kernel)) (by decide +kernel)
theorem fl_X8_49 : Cond.fieldLink RX8 49 "GladRoadModel" "items" "[J" ∈ zTb := zTb_in (List.mem_of_getElem? (i := 815) (by decide +kernel)) (by decide +kernel)
theorem fl_X8_53 : Cond.fieldLink RX8 53 "GladRoadModel" "moved" "[J" ∈ zTb := zTb_in (List.mem_of_getElem? (i := 816) (by decide +kernel)) (by decide +kernel)
theorem cl_X8_79 : Cond.constantLong RX8 79 (3) ∈ zTb := zTb_in (List.mem_of_getElem? (i := 882) (by decide +kernel)) (by decide +kernel)
theorem cl_X8_81 : Cond.constantLong RX8 81 (99) ∈ zTb := zTb_in (List.mem_of_getElem? (i := 886) (by decide +kernel)) (by decide +kernel)
theorem cl_X8_83 : Cond.constantLong RX8 83 (30) ∈ zTb := zTb_in (List.mem_of_getElem? (i := 887) (by decide +kernel)) (by decide +kernel)
theorem cl_X8_93 : Cond.constantLong RX8 93 (4) ∈ zTb := zTb_in (List.mem_of_getElem? (i := 900) (by decide +kernel)) (by decide +kernel)
theorem cl_X8_103 : Cond.constantLong RX8 103 (11) ∈ zTb := zTb_in (List.mem_of_getElem? (i := 917) (by decide +kernel)) (by decide +kernel)
theorem cl_X8_105 : Cond.constantLong RX8 105 (20) ∈ zTb := zTb_in (List.mem_of_getElem? (i := 918) (by decide +kernel)) (by decide +kernel)
theorem cl_X8_115 : Cond.constantLong RX8 115 (2) ∈ zTb := zTb_in (List.mem_of_getElem? (i := 931) (by decide +kernel)) (by decide +kernel)
theorem cl_X8_117 : Cond.constantLong RX8 117 (32) ∈ zTb := zTb_in (List.mem_of_getElem? (i := 956) (by decide +kernel)) (by decide +kernel)
theorem cl_X8_119 : Cond.constantLong RX8 119 (126) ∈ zTb := zTb_in (List.mem_of_getElem? (i := 957) (by decide +kernel)) (by decide +kernel)
theorem cl_X8_135 : Cond.constantLong RX8 135 (48) ∈ zTb := zTb_in (List.mem_of_getElem? (i := 974) (by decide +kernel)) (by decide +kernel)
theorem cl_X8_137 : Cond.constantLong RX8 137 (57) ∈ zTb := zTb_in (List.mem_of_getElem? (i := 975) (by decide +kernel)) (by decide +kernel)
theorem cl_X8_211 : Cond.constantLong RX8 211 (-99) ∈ zTb := zTb_in (List.mem_of_getElem? (i := 1084) (by decide +kernel)) (by decide +kernel)
theorem cl_X8_233 : Cond.constantLong RX8 233 (8) ∈ zTb := zTb_in (List.mem_of_getElem? (i := 1116) (by decide +kernel)) (by decide +kernel)
theorem cl_L_146 : Cond.constantLong RL 146 (4294967295) ∈ zTb := zTb_in (List.mem_of_getElem? (i := 1149) (by decide +kernel)) (by decide +kernel)
