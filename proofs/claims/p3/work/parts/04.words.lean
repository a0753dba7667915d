theorem zw_207 : (Cond.fieldLink RX0 9 "BunchRace$Bunches" "onRoad" "I" : Cond) ∈ lw_good := List.mem_filter.mpr ⟨List.mem_of_getElem? (i := 207) (by decide +kernel), rfl⟩
theorem zw_209 : (Cond.fieldLink RX0 15 "BunchRace$Bunches" "number" "I" : Cond) ∈ lw_good := List.mem_filter.mpr ⟨List.mem_of_getElem? (i := 209) (by decide +kernel), rfl⟩
theorem zw_211 : (Cond.fieldLink RX0 18 "BunchRace$Bunches" "order" "[I" : Cond) ∈ lw_good := List.mem_filter.mpr ⟨List.mem_of_getElem? (i := 211) (by decide +kernel), rfl⟩
theorem zw_215 : (Cond.fieldLink RX0 25 "BunchRace$Bunches" "sizes" "[I" : Cond) ∈ lw_good := List.mem_filter.mpr ⟨List.mem_of_getElem? (i := 215) (by decide +kernel), rfl⟩
theorem zw_213 : (Cond.fieldLink RX0 22 "BunchRace$Bunches" "places" "[I" : Cond) ∈ lw_good := List.mem_filter.mpr ⟨List.mem_of_getElem? (i := 213) (by decide +kernel), rfl⟩
set_option maxRecDepth 100000 in
theorem zw_535 : (Cond.code yX0_close cX0_close 4 none : Cond) ∈ lw_good := List.mem_filter.mpr ⟨List.mem_of_getElem? (i := 535) rfl, rfl⟩
theorem zw_55 : (Cond.initialized RX0 : Cond) ∈ lw_good := List.mem_filter.mpr ⟨List.mem_of_getElem? (i := 55) (by decide +kernel), rfl⟩
theorem zw_532 : (Cond.methodLink RX0 28 yX0_close : Cond) ∈ lw_good := List.mem_filter.mpr ⟨List.mem_of_getElem? (i := 532) (by decide +kernel), rfl⟩
theorem zw_534 : (Cond.instanceMethod yX0_close : Cond) ∈ lw_good := List.mem_filter.mpr ⟨List.mem_of_getElem? (i := 534) (by decide +kernel), rfl⟩
theorem zw_8 : (Cond.selects RX0 yX0_close yX0_close : Cond) ∈ lw_good := List.mem_filter.mpr ⟨List.mem_of_getElem? (i := 8) (by decide +kernel), rfl⟩
theorem zw_157 : (Cond.fieldLink RX1 9 "BunchRace$OrderBook" "clauses" "[I" : Cond) ∈ lw_good := List.mem_filter.mpr ⟨List.mem_of_getElem? (i := 157) (by decide +kernel), rfl⟩
theorem zw_158 : (Cond.fieldLink RX1 15 "BunchRace$OrderBook" "asked" "[I" : Cond) ∈ lw_good := List.mem_filter.mpr ⟨List.mem_of_getElem? (i := 158) (by decide +kernel), rfl⟩
theorem zw_159 : (Cond.fieldLink RX1 18 "BunchRace$OrderBook" "signs" "[I" : Cond) ∈ lw_good := List.mem_filter.mpr ⟨List.mem_of_getElem? (i := 159) (by decide +kernel), rfl⟩
theorem zw_160 : (Cond.fieldLink RX1 21 "BunchRace$OrderBook" "numbers" "[I" : Cond) ∈ lw_good := List.mem_filter.mpr ⟨List.mem_of_getElem? (i := 160) (by decide +kernel), rfl⟩
theorem zw_161 : (Cond.fieldLink RX1 24 "BunchRace$OrderBook" "paces" "[I" : Cond) ∈ lw_good := List.mem_filter.mpr ⟨List.mem_of_getElem? (i := 161) (by decide +kernel), rfl⟩
set_option maxRecDepth 100000 in
theorem zw_573 : (Cond.code yX1_holds cX1_holds 3 (some .boolean) : Cond) ∈ lw_good := List.mem_filter.mpr ⟨List.mem_of_getElem? (i := 573) rfl, rfl⟩
theorem zw_52 : (Cond.initialized RX1 : Cond) ∈ lw_good := List.mem_filter.mpr ⟨List.mem_of_getElem? (i := 52) (by decide +kernel), rfl⟩
theorem zw_570 : (Cond.methodLink RX1 27 yX1_holds : Cond) ∈ lw_good := List.mem_filter.mpr ⟨List.mem_of_getElem? (i := 570) (by decide +kernel), rfl⟩
theorem zw_572 : (Cond.instanceMethod yX1_holds : Cond) ∈ lw_good := List.mem_filter.mpr ⟨List.mem_of_getElem? (i := 572) (by decide +kernel), rfl⟩
theorem zw_12 : (Cond.selects RX1 yX1_holds yX1_holds : Cond) ∈ lw_good := List.mem_filter.mpr ⟨List.mem_of_getElem? (i := 12) (by decide +kernel), rfl⟩
set_option maxRecDepth 100000 in
theorem zw_433 : (Cond.code yX8_byteOf cX8_byteOf 3 (some .int) : Cond) ∈ lw_good := List.mem_filter.mpr ⟨List.mem_of_getElem? (i := 433) rfl, rfl⟩
theorem zw_51 : (Cond.initialized RX8 : Cond) ∈ lw_good := List.mem_filter.mpr ⟨List.mem_of_getElem? (i := 51) (by decide +kernel), rfl⟩
theorem zw_430 : (Cond.methodLink RX8 19 yX8_byteOf : Cond) ∈ lw_good := List.mem_filter.mpr ⟨List.mem_of_getElem? (i := 430) (by decide +kernel), rfl⟩
theorem zw_431 : (Cond.instanceMethod yX8_byteOf : Cond) ∈ lw_good := List.mem_filter.mpr ⟨List.mem_of_getElem? (i := 431) (by decide +kernel), rfl⟩
theorem zw_432 : (Cond.selects RX8 yX8_byteOf yX8_byteOf : Cond) ∈ lw_good := List.mem_filter.mpr ⟨List.mem_of_getElem? (i := 432) (by decide +kernel), rfl⟩
theorem zw_141 : (Cond.fieldLink RX8 9 "BunchRace$Tape" "length" "I" : Cond) ∈ lw_good := List.mem_filter.mpr ⟨List.mem_of_getElem? (i := 141) (by decide +kernel), rfl⟩
theorem zw_144 : (Cond.fieldLink RX8 15 "BunchRace$Tape" "bytes" "[I" : Cond) ∈ lw_good := List.mem_filter.mpr ⟨List.mem_of_getElem? (i := 144) (by decide +kernel), rfl⟩
set_option maxRecDepth 100000 in
theorem zw_464 : (Cond.code yX2_askedBy cX2_askedBy 1 (some .int) : Cond) ∈ lw_good := List.mem_filter.mpr ⟨List.mem_of_getElem? (i := 464) rfl, rfl⟩
theorem zw_53 : (Cond.initialized RX2 : Cond) ∈ lw_good := List.mem_filter.mpr ⟨List.mem_of_getElem? (i := 53) (by decide +kernel), rfl⟩
theorem zw_462 : (Cond.methodLink RX2 65 yX2_askedBy : Cond) ∈ lw_good := List.mem_filter.mpr ⟨List.mem_of_getElem? (i := 462) (by decide +kernel), rfl⟩
theorem zw_463 : (Cond.static yX2_askedBy : Cond) ∈ lw_good := List.mem_filter.mpr ⟨List.mem_of_getElem? (i := 463) (by decide +kernel), rfl⟩
theorem zw_180 : (Cond.fieldLink RX2 15 "BunchRace$OrderReader" "askedNow" "I" : Cond) ∈ lw_good := List.mem_filter.mpr ⟨List.mem_of_getElem? (i := 180) (by decide +kernel), rfl⟩
theorem zw_179 : (Cond.fieldLink RX2 11 "BunchRace$OrderReader" "awaited" "I" : Cond) ∈ lw_good := List.mem_filter.mpr ⟨List.mem_of_getElem? (i := 179) (by decide +kernel), rfl⟩
theorem zw_181 : (Cond.fieldLink RX2 18 "BunchRace$OrderReader" "signNow" "I" : Cond) ∈ lw_good := List.mem_filter.mpr ⟨List.mem_of_getElem? (i := 181) (by decide +kernel), rfl⟩
set_option maxRecDepth 100000 in
theorem zw_479 : (Cond.code yX2_isDigit cX2_isDigit 1 (some .boolean) : Cond) ∈ lw_good := List.mem_filter.mpr ⟨List.mem_of_getElem? (i := 479) rfl, rfl⟩
theorem zw_477 : (Cond.methodLink RX2 69 yX2_isDigit : Cond) ∈ lw_good := List.mem_filter.mpr ⟨List.mem_of_getElem? (i := 477) (by decide +kernel), rfl⟩
theorem zw_478 : (Cond.static yX2_isDigit : Cond) ∈ lw_good := List.mem_filter.mpr ⟨List.mem_of_getElem? (i := 478) (by decide +kernel), rfl⟩
theorem zw_183 : (Cond.fieldLink RX2 24 "BunchRace$OrderReader" "digitsNow" "I" : Cond) ∈ lw_good := List.mem_filter.mpr ⟨List.mem_of_getElem? (i := 183) (by decide +kernel), rfl⟩
theorem zw_182 : (Cond.fieldLink RX2 21 "BunchRace$OrderReader" "numberNow" "I" : Cond) ∈ lw_good := List.mem_filter.mpr ⟨List.mem_of_getElem? (i := 182) (by decide +kernel), rfl⟩
set_option maxRecDepth 100000 in
theorem zw_476 : (Cond.code yX2_takesDigit cX2_takesDigit 2 (some .boolean) : Cond) ∈ lw_good := List.mem_filter.mpr ⟨List.mem_of_getElem? (i := 476) rfl, rfl⟩
theorem zw_473 : (Cond.methodLink RX2 55 yX2_takesDigit : Cond) ∈ lw_good := List.mem_filter.mpr ⟨List.mem_of_getElem? (i := 473) (by decide +kernel), rfl⟩
theorem zw_475 : (Cond.instanceMethod yX2_takesDigit : Cond) ∈ lw_good := List.mem_filter.mpr ⟨List.mem_of_getElem? (i := 475) (by decide +kernel), rfl⟩
theorem zw_4 : (Cond.selects RX2 yX2_takesDigit yX2_takesDigit : Cond) ∈ lw_good := List.mem_filter.mpr ⟨List.mem_of_getElem? (i := 4) (by decide +kernel), rfl⟩
set_option maxRecDepth 100000 in
theorem zw_491 : (Cond.code yX1_draftClause cX1_draftClause 6 none : Cond) ∈ lw_good := List.mem_filter.mpr ⟨List.mem_of_getElem? (i := 491) rfl, rfl⟩
theorem zw_488 : (Cond.methodLink RX2 72 yX1_draftClause : Cond) ∈ lw_good := List.mem_filter.mpr ⟨List.mem_of_getElem? (i := 488) (by decide +kernel), rfl⟩
theorem zw_489 : (Cond.instanceMethod yX1_draftClause : Cond) ∈ lw_good := List.mem_filter.mpr ⟨List.mem_of_getElem? (i := 489) (by decide +kernel), rfl⟩
theorem zw_490 : (Cond.selects RX1 yX1_draftClause yX1_draftClause : Cond) ∈ lw_good := List.mem_filter.mpr ⟨List.mem_of_getElem? (i := 490) (by decide +kernel), rfl⟩
set_option maxRecDepth 100000 in
theorem zw_483 : (Cond.code yX2_takesMark cX2_takesMark 4 (some .boolean) : Cond) ∈ lw_good := List.mem_filter.mpr ⟨List.mem_of_getElem? (i := 483) rfl, rfl⟩
theorem zw_480 : (Cond.methodLink RX2 58 yX2_takesMark : Cond) ∈ lw_good := List.mem_filter.mpr ⟨List.mem_of_getElem? (i := 480) (by decide +kernel), rfl⟩
theorem zw_482 : (Cond.instanceMethod yX2_takesMark : Cond) ∈ lw_good := List.mem_filter.mpr ⟨List.mem_of_getElem? (i := 482) (by decide +kernel), rfl⟩
theorem zw_5 : (Cond.selects RX2 yX2_takesMark yX2_takesMark : Cond) ∈ lw_good := List.mem_filter.mpr ⟨List.mem_of_getElem? (i := 5) (by decide +kernel), rfl⟩
set_option maxRecDepth 100000 in
theorem zw_461 : (Cond.code yX2_takesLetter cX2_takesLetter 3 (some .boolean) : Cond) ∈ lw_good := List.mem_filter.mpr ⟨List.mem_of_getElem? (i := 461) rfl, rfl⟩
theorem zw_458 : (Cond.methodLink RX2 45 yX2_takesLetter : Cond) ∈ lw_good := List.mem_filter.mpr ⟨List.mem_of_getElem? (i := 458) (by decide +kernel), rfl⟩
theorem zw_460 : (Cond.instanceMethod yX2_takesLetter : Cond) ∈ lw_good := List.mem_filter.mpr ⟨List.mem_of_getElem? (i := 460) (by decide +kernel), rfl⟩
theorem zw_1 : (Cond.selects RX2 yX2_takesLetter yX2_takesLetter : Cond) ∈ lw_good := List.mem_filter.mpr ⟨List.mem_of_getElem? (i := 1) (by decide +kernel), rfl⟩
set_option maxRecDepth 100000 in
theorem zw_468 : (Cond.code yX2_takesSign cX2_takesSign 2 (some .boolean) : Cond) ∈ lw_good := List.mem_filter.mpr ⟨List.mem_of_getElem? (i := 468) rfl, rfl⟩
theorem zw_465 : (Cond.methodLink RX2 49 yX2_takesSign : Cond) ∈ lw_good := List.mem_filter.mpr ⟨List.mem_of_getElem? (i := 465) (by decide +kernel), rfl⟩
theorem zw_467 : (Cond.instanceMethod yX2_takesSign : Cond) ∈ lw_good := List.mem_filter.mpr ⟨List.mem_of_getElem? (i := 467) (by decide +kernel), rfl⟩
theorem zw_2 : (Cond.selects RX2 yX2_takesSign yX2_takesSign : Cond) ∈ lw_good := List.mem_filter.mpr ⟨List.mem_of_getElem? (i := 2) (by decide +kernel), rfl⟩
set_option maxRecDepth 100000 in
theorem zw_472 : (Cond.code yX2_takesFirstDigit cX2_takesFirstDigit 2 (some .boolean) : Cond) ∈ lw_good := List.mem_filter.mpr ⟨List.mem_of_getElem? (i := 472) rfl, rfl⟩
theorem zw_469 : (Cond.methodLink RX2 52 yX2_takesFirstDigit : Cond) ∈ lw_good := List.mem_filter.mpr ⟨List.mem_of_getElem? (i := 469) (by decide +kernel), rfl⟩
theorem zw_471 : (Cond.instanceMethod yX2_takesFirstDigit : Cond) ∈ lw_good := List.mem_filter.mpr ⟨List.mem_of_getElem? (i := 471) (by decide +kernel), rfl⟩
theorem zw_3 : (Cond.selects RX2 yX2_takesFirstDigit yX2_takesFirstDigit : Cond) ∈ lw_good := List.mem_filter.mpr ⟨List.mem_of_getElem? (i := 3) (by decide +kernel), rfl⟩
set_option maxRecDepth 100000 in
theorem zw_487 : (Cond.code yX2_takesPace cX2_takesPace 3 (some .boolean) : Cond) ∈ lw_good := List.mem_filter.mpr ⟨List.mem_of_getElem? (i := 487) rfl, rfl⟩
theorem zw_484 : (Cond.methodLink RX2 62 yX2_takesPace : Cond) ∈ lw_good := List.mem_filter.mpr ⟨List.mem_of_getElem? (i := 484) (by decide +kernel), rfl⟩
theorem zw_486 : (Cond.instanceMethod yX2_takesPace : Cond) ∈ lw_good := List.mem_filter.mpr ⟨List.mem_of_getElem? (i := 486) (by decide +kernel), rfl⟩
theorem zw_6 : (Cond.selects RX2 yX2_takesPace yX2_takesPace : Cond) ∈ lw_good := List.mem_filter.mpr ⟨List.mem_of_getElem? (i := 6) (by decide +kernel), rfl⟩
set_option maxRecDepth 100000 in
theorem zw_453 : (Cond.code yX1_clearDraft cX1_clearDraft 1 none : Cond) ∈ lw_good := List.mem_filter.mpr ⟨List.mem_of_getElem? (i := 453) rfl, rfl⟩
theorem zw_450 : (Cond.methodLink RX2 27 yX1_clearDraft : Cond) ∈ lw_good := List.mem_filter.mpr ⟨List.mem_of_getElem? (i := 450) (by decide +kernel), rfl⟩
theorem zw_451 : (Cond.instanceMethod yX1_clearDraft : Cond) ∈ lw_good := List.mem_filter.mpr ⟨List.mem_of_getElem? (i := 451) (by decide +kernel), rfl⟩
theorem zw_452 : (Cond.selects RX1 yX1_clearDraft yX1_clearDraft : Cond) ∈ lw_good := List.mem_filter.mpr ⟨List.mem_of_getElem? (i := 452) (by decide +kernel), rfl⟩
theorem zw_142 : (Cond.fieldLink RX2 32 "BunchRace$Tape" "length" "I" : Cond) ∈ lw_good := List.mem_filter.mpr ⟨List.mem_of_getElem? (i := 142) (by decide +kernel), rfl⟩
theorem zw_145 : (Cond.fieldLink RX2 37 "BunchRace$Tape" "bytes" "[I" : Cond) ∈ lw_good := List.mem_filter.mpr ⟨List.mem_of_getElem? (i := 145) (by decide +kernel), rfl⟩
set_option maxRecDepth 100000 in
theorem zw_457 : (Cond.code yX2_goesOn cX2_goesOn 3 (some .boolean) : Cond) ∈ lw_good := List.mem_filter.mpr ⟨List.mem_of_getElem? (i := 457) rfl, rfl⟩
theorem zw_454 : (Cond.methodLink RX2 41 yX2_goesOn : Cond) ∈ lw_good := List.mem_filter.mpr ⟨List.mem_of_getElem? (i := 454) (by decide +kernel), rfl⟩
theorem zw_456 : (Cond.instanceMethod yX2_goesOn : Cond) ∈ lw_good := List.mem_filter.mpr ⟨List.mem_of_getElem? (i := 456) (by decide +kernel), rfl⟩
theorem zw_0 : (Cond.selects RX2 yX2_goesOn yX2_goesOn : Cond) ∈ lw_good := List.mem_filter.mpr ⟨List.mem_of_getElem? (i := 0) (by decide +kernel), rfl⟩
theorem zi_X0 : ∀ w ∈ wsX00, w ∈ lw_good := zz_ins _ [217, 219, 221, 223, 225] (by decide +kernel) (by decide +kernel)
theorem zi_X1 : ∀ w ∈ wsX10, w ∈ lw_good := zz_ins _ [162, 164, 166, 168, 170] (by decide +kernel) (by decide +kernel)
theorem zi_X2 : ∀ w ∈ wsX20, w ∈ lw_good := zz_ins _ [184, 186, 188, 190, 192] (by decide +kernel) (by decide +kernel)
theorem zi_X8 : ∀ w ∈ wsX80, w ∈ lw_good := zz_ins _ [146, 148] (by decide +kernel) (by decide +kernel)
