theorem zw_207 : (Cond.fieldLink RX0 9 "BunchRace$Bunches" "onRoad" "I" : Cond) ∈ lw_good := List.mem_filter.mpr ⟨List.mem_of_getElem? (i := 207) (by decide +kernel), rfl⟩
theorem zw_209 : (Cond.fieldLink RX0 15 "BunchRace$Bunches" "number" "I" : Cond) ∈ lw_good := List.mem_filter.mpr ⟨List.mem_of_getElem? (i := 209) (by decide +kernel), rfl⟩
theorem zw_211 : (Cond.fieldLink RX0 18 "BunchRace$Bunches" "order" "[I" : Cond) ∈ lw_good := List.mem_filter.mpr ⟨List.mem_of_getElem? (i := 211) (by decide +kernel), rfl⟩
theorem zw_215 : (Cond.fieldLink RX0 25 "BunchRace$Bunches" "sizes" "[I" : Cond) ∈ lw_good := List.mem_filter.mpr ⟨List.mem_of_getElem? (i := 215) (by decide +kernel), rfl⟩
theorem zw_213 : (Cond.fieldLink RX0 22 "BunchRace$Bunches" "places" "[I" : Cond) ∈ lw_good := List.mem_filter.mpr ⟨List.mem_of_getElem? (i := 213) (by decide +kernel), rfl⟩
set_option maxRecDepth 100000 in
theorem zw_535 : (Cond.code yX0_close cX0_close 4 none : Cond) ∈ lw_good := List.mem_filter.mpr ⟨List.mem_of_getElem? (i := 535) rfl, rfl⟩
theorem zw_55 : (Cond.initialized RX0 : Cond) ∈ lw_good := List.mem_filter.mpr ⟨List.mem_of_getElem? (i := 55) (by decide +kernel), rfl⟩
theorem zw_532 : (Cond.methodLink RX0 28 yX0_close : Cond) ∈ lw_good := List.mem_filter.mpr ⟨List.mem_of_getElem? (i := 532) (by decide +kernel), rfl⟩
theorem zw_534 : (Cond.instanceMethod yX0_close : Cond) ∈ lw_good := List.mem_filter.mpr ⟨List.mem_of_getElem? (i := 534) (by decide +kernel), rfl⟩
theorem zw_8 : (Cond.selects RX0 yX0_close yX0_close : Cond) ∈ lw_good := List.mem_filter.mpr ⟨List.mem_of_getElem? (i := 8) (by decide +kernel), rfl⟩
theorem zw_157 : (Cond.fieldLink RX1 9 "BunchRace$OrderBook" "clauses" "[I" : Cond) ∈ lw_good := List.mem_filter.mpr ⟨List.mem_of_getElem? (i := 157) (by decide +kernel), rfl⟩
theorem zw_158 : (Cond.fieldLink RX1 15 "BunchRace$OrderBook" "asked" "[I" : Cond) ∈ lw_good := List.mem_filter.mpr ⟨List.mem_of_getElem? (i := 158) (by decide +kernel), rfl⟩
theorem zw_159 : (Cond.fieldLink RX1 18 "BunchRace$OrderBook" "signs" "[I" : Cond) ∈ lw_good := List.mem_filter.mpr ⟨List.mem_of_getElem? (i := 159) (by decide +kernel), rfl⟩
theorem zw_160 : (Cond.fieldLink RX1 21 "BunchRace$OrderBook" "numbers" "[I" : Cond) ∈ lw_good := List.mem_filter.mpr ⟨List.mem_of_getElem? (i := 160) (by decide +kernel), rfl⟩
theorem zw_161 : (Cond.fieldLink RX1 24 "BunchRace$OrderBook" "paces" "[I" : Cond) ∈ lw_good := List.mem_filter.mpr ⟨List.mem_of_getElem? (i := 161) (by decide +kernel), rfl⟩
set_option maxRecDepth 100000 in
theorem zw_573 : (Cond.code yX1_holds cX1_holds 3 (some .boolean) : Cond) ∈ lw_good := List.mem_filter.mpr ⟨List.mem_of_getElem? (i := 573) rfl, rfl⟩
theorem zw_52 : (Cond.initialized RX1 : Cond) ∈ lw_good := List.mem_filter.mpr ⟨List.mem_of_getElem? (i := 52) (by decide +kernel), rfl⟩
theorem zw_570 : (Cond.methodLink RX1 27 yX1_holds : Cond) ∈ lw_good := List.mem_filter.mpr ⟨List.mem_of_getElem? (i := 570) (by decide +kernel), rfl⟩
theorem zw_572 : (Cond.instanceMethod yX1_holds : Cond) ∈ lw_good := List.mem_filter.mpr ⟨List.mem_of_getElem? (i := 572) (by decide +kernel), rfl⟩
theorem zw_12 : (Cond.selects RX1 yX1_holds yX1_holds : Cond) ∈ lw_good := List.mem_filter.mpr ⟨List.mem_of_getElem? (i := 12) (by decide +kernel), rfl⟩
set_option maxRecDepth 100000 in
theorem zw_433 : (Cond.code yX8_byteOf cX8_byteOf 3 (some .int) : Cond) ∈ lw_good := List.mem_filter.mpr ⟨List.mem_of_getElem? (i := 433) rfl, rfl⟩
theorem zw_51 : (Cond.initialized RX8 : Cond) ∈ lw_good := List.mem_filter.mpr ⟨List.mem_of_getElem? (i := 51) (by decide +kernel), rfl⟩
theorem zw_430 : (Cond.methodLink RX8 19 yX8_byteOf : Cond) ∈ lw_good := List.mem_filter.mpr ⟨List.mem_of_getElem? (i := 430) (by decide +kernel), rfl⟩
theorem zw_431 : (Cond.instanceMethod yX8_byteOf : Cond) ∈ lw_good := List.mem_filter.mpr ⟨List.mem_of_getElem? (i := 431) (by decide +kernel), rfl⟩
theorem zw_432 : (Cond.selects RX8 yX8_byteOf yX8_byteOf : Cond) ∈ lw_good := List.mem_filter.mpr ⟨List.mem_of_getElem? (i := 432) (by decide +kernel), rfl⟩
theorem zw_141 : (Cond.fieldLink RX8 9 "BunchRace$Tape" "length" "I" : Cond) ∈ lw_good := List.mem_filter.mpr ⟨List.mem_of_getElem? (i := 141) (by decide +kernel), rfl⟩
theorem zw_144 : (Cond.fieldLink RX8 15 "BunchRace$Tape" "bytes" "[I" : Cond) ∈ lw_good := List.mem_filter.mpr ⟨List.mem_of_getElem? (i := 144) (by decide +kernel), rfl⟩
set_option maxRecDepth 100000 in
theorem zw_464 : (Cond.code yX2_askedBy cX2_askedBy 1 (some .int) : Cond) ∈ lw_good := List.mem_filter.mpr ⟨List.mem_of_getElem? (i := 464) rfl, rfl⟩
theorem zw_53 : (Cond.initialized RX2 : Cond) ∈ lw_good := List.mem_filter.mpr ⟨List.mem_of_getElem? (i := 53) (by decide +kernel), rfl⟩
theorem zw_462 : (Cond.methodLink RX2 65 yX2_askedBy : Cond) ∈ lw_good := List.mem_filter.mpr ⟨List.mem_of_getElem? (i := 462) (by decide +kernel), rfl⟩
theorem zw_463 : (Cond.static yX2_askedBy : Cond) ∈ lw_good := List.mem_filter.mpr ⟨List.mem_of_getElem? (i := 463) (by decide +kernel), rfl⟩
theorem zw_180 : (Cond.fieldLink RX2 15 "BunchRace$OrderReader" "askedNow" "I" : Cond) ∈ lw_good := List.mem_filter.mpr ⟨List.mem_of_getElem? (i := 180) (by decide +kernel), rfl⟩
theorem zw_179 : (Cond.fieldLink RX2 11 "BunchRace$OrderReader" "awaited" "I" : Cond) ∈ lw_good := List.mem_filter.mpr ⟨List.mem_of_getElem? (i := 179) (by decide +kernel), rfl⟩
theorem zw_181 : (Cond.fieldLink RX2 18 "BunchRace$OrderReader" "signNow" "I" : Cond) ∈ lw_good := List.mem_filter.mpr ⟨List.mem_of_getElem? (i := 181) (by decide +kernel), rfl⟩
set_option maxRecDepth 100000 in
theorem zw_479 : (Cond.code yX2_isDigit cX2_isDigit 1 (some .boolean) : Cond) ∈ lw_good := List.mem_filter.mpr ⟨List.mem_of_getElem? (i := 479) rfl, rfl⟩
theorem zw_477 : (Cond.methodLink RX2 69 yX2_isDigit : Cond) ∈ lw_good := List.mem_filter.mpr ⟨List.mem_of_getElem? (i := 477) (by decide +kernel), rfl⟩
theorem zw_478 : (Cond.static yX2_isDigit : Cond) ∈ lw_good := List.mem_filter.mpr ⟨List.mem_of_getElem? (i := 478) (by decide +kernel), rfl⟩
theorem zw_183 : (Cond.fieldLink RX2 24 "BunchRace$OrderReader" "digitsNow" "I" : Cond) ∈ lw_good := List.mem_filter.mpr ⟨List.mem_of_getElem? (i := 183) (by decide +kernel), rfl⟩
theorem zw_182 : (Cond.fieldLink RX2 21 "BunchRace$OrderReader" "numberNow" "I" : Cond) ∈ lw_good := List.mem_filter.mpr ⟨List.mem_of_getElem? (i := 182) (by decide +kernel), rfl⟩
set_option maxRecDepth 100000 in
theorem zw_476 : (Cond.code yX2_takesDigit cX2_takesDigit 2 (some .boolean) : Cond) ∈ lw_good := List.mem_filter.mpr ⟨List.mem_of_getElem? (i := 476) rfl, rfl⟩
theorem zw_473 : (Cond.methodLink RX2 55 yX2_takesDigit : Cond) ∈ lw_good := List.mem_filter.mpr ⟨List.mem_of_getElem? (i := 473) (by decide +kernel), rfl⟩
theorem zw_475 : (Cond.instanceMethod yX2_takesDigit : Cond) ∈ lw_good := List.mem_filter.mpr ⟨List.mem_of_getElem? (i := 475) (by decide +kernel), rfl⟩
theorem zw_4 : (Cond.selects RX2 yX2_takesDigit yX2_takesDigit : Cond) ∈ lw_good := List.mem_filter.mpr ⟨List.mem_of_getElem? (i := 4) (by decide +kernel), rfl⟩
set_option maxRecDepth 100000 in
theorem zw_491 : (Cond.code yX1_draftClause cX1_draftClause 6 none : Cond) ∈ lw_good := List.mem_filter.mpr ⟨List.mem_of_getElem? (i := 491) rfl, rfl⟩
theorem zw_488 : (Cond.methodLink RX2 72 yX1_draftClause : Cond) ∈ lw_good := List.mem_filter.mpr ⟨List.mem_of_getElem? (i := 488) (by decide +kernel), rfl⟩
theorem zw_489 : (Cond.instanceMethod yX1_draftClause : Cond) ∈ lw_good := List.mem_filter.mpr ⟨List.mem_of_getElem? (i := 489) (by decide +kernel), rfl⟩
theorem zw_490 : (Cond.selects RX1 yX1_draftClause yX1_draftClause : Cond) ∈ lw_good := List.mem_filter.mpr ⟨List.mem_of_getElem? (i := 490) (by decide +kernel), rfl⟩
set_option maxRecDepth 100000 in
theorem zw_483 : (Cond.code yX2_takesMark cX2_takesMark 4 (some .boolean) : Cond) ∈ lw_good := List.mem_filter.mpr ⟨List.mem_of_getElem? (i := 483) rfl, rfl⟩
theorem zw_480 : (Cond.methodLink RX2 58 yX2_takesMark : Cond) ∈ lw_good := List.mem_filter.mpr ⟨List.mem_of_getElem? (i := 480) (by decide +kernel), rfl⟩
theorem zw_482 : (Cond.instanceMethod yX2_takesMark : Cond) ∈ lw_good := List.mem_filter.mpr ⟨List.mem_of_getElem? (i := 482) (by decide +kernel), rfl⟩
theorem zw_5 : (Cond.selects RX2 yX2_takesMark yX2_takesMark : Cond) ∈ lw_good := List.mem_filter.mpr ⟨List.mem_of_getElem? (i := 5) (by decide +kernel), rfl⟩
set_option maxRecDepth 100000 in
theorem zw_461 : (Cond.code yX2_takesLetter cX2_takesLetter 3 (some .boolean) : Cond) ∈ lw_good := List.mem_filter.mpr ⟨List.mem_of_getElem? (i := 461) rfl, rfl⟩
theorem zw_458 : (Cond.methodLink RX2 45 yX2_takesLetter : Cond) ∈ lw_good := List.mem_filter.mpr ⟨List.mem_of_getElem? (i := 458) (by decide +kernel), rfl⟩
theorem zw_460 : (Cond.instanceMethod yX2_takesLetter : Cond) ∈ lw_good := List.mem_filter.mpr ⟨List.mem_of_getElem? (i := 460) (by decide +kernel), rfl⟩
theorem zw_1 : (Cond.selects RX2 yX2_takesLetter yX2_takesLetter : Cond) ∈ lw_good := List.mem_filter.mpr ⟨List.mem_of_getElem? (i := 1) (by decide +kernel), rfl⟩
set_option maxRecDepth 100000 in
theorem zw_468 : (Cond.code yX2_takesSign cX2_takesSign 2 (some .boolean) : Cond) ∈ lw_good := List.mem_filter.mpr ⟨List.mem_of_getElem? (i := 468) rfl, rfl⟩
theorem zw_465 : (Cond.methodLink RX2 49 yX2_takesSign : Cond) ∈ lw_good := List.mem_filter.mpr ⟨List.mem_of_getElem? (i := 465) (by decide +kernel), rfl⟩
theorem zw_467 : (Cond.instanceMethod yX2_takesSign : Cond) ∈ lw_good := List.mem_filter.mpr ⟨List.mem_of_getElem? (i := 467) (by decide +kernel), rfl⟩
theorem zw_2 : (Cond.selects RX2 yX2_takesSign yX2_takesSign : Cond) ∈ lw_good := List.mem_filter.mpr ⟨List.mem_of_getElem? (i := 2) (by decide +kernel), rfl⟩
set_option maxRecDepth 100000 in
theorem zw_472 : (Cond.code yX2_takesFirstDigit cX2_takesFirstDigit 2 (some .boolean) : Cond) ∈ lw_good := List.mem_filter.mpr ⟨List.mem_of_getElem? (i := 472) rfl, rfl⟩
theorem zw_469 : (Cond.methodLink RX2 52 yX2_takesFirstDigit : Cond) ∈ lw_good := List.mem_filter.mpr ⟨List.mem_of_getElem? (i := 469) (by decide +kernel), rfl⟩
theorem zw_471 : (Cond.instanceMethod yX2_takesFirstDigit : Cond) ∈ lw_good := List.mem_filter.mpr ⟨List.mem_of_getElem? (i := 471) (by decide +kernel), rfl⟩
theorem zw_3 : (Cond.selects RX2 yX2_takesFirstDigit yX2_takesFirstDigit : Cond) ∈ lw_good := List.mem_filter.mpr ⟨List.mem_of_getElem? (i := 3) (by decide +kernel), rfl⟩
set_option maxRecDepth 100000 in
theorem zw_487 : (Cond.code yX2_takesPace cX2_takesPace 3 (some .boolean) : Cond) ∈ lw_good := List.mem_filter.mpr ⟨List.mem_of_getElem? (i := 487) rfl, rfl⟩
theorem zw_484 : (Cond.methodLink RX2 62 yX2_takesPace : Cond) ∈ lw_good := List.mem_filter.mpr ⟨List.mem_of_getElem? (i := 484) (by decide +kernel), rfl⟩
theorem zw_486 : (Cond.instanceMethod yX2_takesPace : Cond) ∈ lw_good := List.mem_filter.mpr ⟨List.mem_of_getElem? (i := 486) (by decide +kernel), rfl⟩
theorem zw_6 : (Cond.selects RX2 yX2_takesPace yX2_takesPace : Cond) ∈ lw_good := List.mem_filter.mpr ⟨List.mem_of_getElem? (i := 6) (by decide +kernel), rfl⟩
set_option maxRecDepth 100000 in
theorem zw_453 : (Cond.code yX1_clearDraft cX1_clearDraft 1 none : Cond) ∈ lw_good := List.mem_filter.mpr ⟨List.mem_of_getElem? (i := 453) rfl, rfl⟩
theorem zw_450 : (Cond.methodLink RX2 27 yX1_clearDraft : Cond) ∈ lw_good := List.mem_filter.mpr ⟨List.mem_of_getElem? (i := 450) (by decide +kernel), rfl⟩
theorem zw_451 : (Cond.instanceMethod yX1_clearDraft : Cond) ∈ lw_good := List.mem_filter.mpr ⟨List.mem_of_getElem? (i := 451) (by decide +kernel), rfl⟩
theorem zw_452 : (Cond.selects RX1 yX1_clearDraft yX1_clearDraft : Cond) ∈ lw_good := List.mem_filter.mpr ⟨List.mem_of_getElem? (i := 452) (by decide +kernel), rfl⟩
theorem zw_142 : (Cond.fieldLink RX2 32 "BunchRace$Tape" "length" "I" : Cond) ∈ lw_good := List.mem_filter.mpr ⟨List.mem_of_getElem? (i := 142) (by decide +kernel), rfl⟩
theorem zw_145 : (Cond.fieldLink RX2 37 "BunchRace$Tape" "bytes" "[I" : Cond) ∈ lw_good := List.mem_filter.mpr ⟨List.mem_of_getElem? (i := 145) (by decide +kernel), rfl⟩
set_option maxRecDepth 100000 in
theorem zw_457 : (Cond.code yX2_goesOn cX2_goesOn 3 (some .boolean) : Cond) ∈ lw_good := List.mem_filter.mpr ⟨List.mem_of_getElem? (i := 457) rfl, rfl⟩
theorem zw_454 : (Cond.methodLink RX2 41 yX2_goesOn : Cond) ∈ lw_good := List.mem_filter.mpr ⟨List.mem_of_getElem? (i := 454) (by decide +kernel), rfl⟩
theorem zw_456 : (Cond.instanceMethod yX2_goesOn : Cond) ∈ lw_good := List.mem_filter.mpr ⟨List.mem_of_getElem? (i := 456) (by decide +kernel), rfl⟩
theorem zw_0 : (Cond.selects RX2 yX2_goesOn yX2_goesOn : Cond) ∈ lw_good := List.mem_filter.mpr ⟨List.mem_of_getElem? (i := 0) (by decide +kernel), rfl⟩
theorem zw_105 : (Cond.fieldLink RX6 9 "BunchRace$Road" "kilometres" "I" : Cond) ∈ lw_good := List.mem_filter.mpr ⟨List.mem_of_getElem? (i := 105) (by decide +kernel), rfl⟩
set_option maxRecDepth 100000 in
theorem zw_413 : (Cond.code yX6_length cX6_length 1 (some .int) : Cond) ∈ lw_good := List.mem_filter.mpr ⟨List.mem_of_getElem? (i := 413) rfl, rfl⟩
theorem zw_50 : (Cond.initialized RX6 : Cond) ∈ lw_good := List.mem_filter.mpr ⟨List.mem_of_getElem? (i := 50) (by decide +kernel), rfl⟩
theorem zw_410 : (Cond.methodLink RX6 34 yX6_length : Cond) ∈ lw_good := List.mem_filter.mpr ⟨List.mem_of_getElem? (i := 410) (by decide +kernel), rfl⟩
theorem zw_411 : (Cond.instanceMethod yX6_length : Cond) ∈ lw_good := List.mem_filter.mpr ⟨List.mem_of_getElem? (i := 411) (by decide +kernel), rfl⟩
theorem zw_412 : (Cond.selects RX6 yX6_length yX6_length : Cond) ∈ lw_good := List.mem_filter.mpr ⟨List.mem_of_getElem? (i := 412) (by decide +kernel), rfl⟩
theorem zw_111 : (Cond.fieldLink RX6 22 "BunchRace$Road" "primes" "I" : Cond) ∈ lw_good := List.mem_filter.mpr ⟨List.mem_of_getElem? (i := 111) (by decide +kernel), rfl⟩
theorem zw_116 : (Cond.fieldLink RX6 28 "BunchRace$Road" "crashMetre" "I" : Cond) ∈ lw_good := List.mem_filter.mpr ⟨List.mem_of_getElem? (i := 116) (by decide +kernel), rfl⟩
theorem zw_118 : (Cond.fieldLink RX6 31 "BunchRace$Road" "crashPart" "I" : Cond) ∈ lw_good := List.mem_filter.mpr ⟨List.mem_of_getElem? (i := 118) (by decide +kernel), rfl⟩
theorem zw_107 : (Cond.fieldLink RX6 15 "BunchRace$Road" "rises" "[I" : Cond) ∈ lw_good := List.mem_filter.mpr ⟨List.mem_of_getElem? (i := 107) (by decide +kernel), rfl⟩
theorem zw_109 : (Cond.fieldLink RX6 19 "BunchRace$Road" "winds" "[I" : Cond) ∈ lw_good := List.mem_filter.mpr ⟨List.mem_of_getElem? (i := 109) (by decide +kernel), rfl⟩
set_option maxRecDepth 100000 in
theorem zw_409 : (Cond.code yX6_isBetweenEnds cX6_isBetweenEnds 2 (some .boolean) : Cond) ∈ lw_good := List.mem_filter.mpr ⟨List.mem_of_getElem? (i := 409) rfl, rfl⟩
theorem zw_406 : (Cond.methodLink RX6 38 yX6_isBetweenEnds : Cond) ∈ lw_good := List.mem_filter.mpr ⟨List.mem_of_getElem? (i := 406) (by decide +kernel), rfl⟩
theorem zw_407 : (Cond.instanceMethod yX6_isBetweenEnds : Cond) ∈ lw_good := List.mem_filter.mpr ⟨List.mem_of_getElem? (i := 407) (by decide +kernel), rfl⟩
theorem zw_408 : (Cond.selects RX6 yX6_isBetweenEnds yX6_isBetweenEnds : Cond) ∈ lw_good := List.mem_filter.mpr ⟨List.mem_of_getElem? (i := 408) (by decide +kernel), rfl⟩
theorem zw_114 : (Cond.fieldLink RX6 25 "BunchRace$Road" "primeMetres" "[I" : Cond) ∈ lw_good := List.mem_filter.mpr ⟨List.mem_of_getElem? (i := 114) (by decide +kernel), rfl⟩
theorem zw_74 : (Cond.fieldLink RX5 9 "BunchRace$Riders" "number" "I" : Cond) ∈ lw_good := List.mem_filter.mpr ⟨List.mem_of_getElem? (i := 74) (by decide +kernel), rfl⟩
set_option maxRecDepth 100000 in
theorem zw_381 : (Cond.code yX9_isTeam cX9_isTeam 1 (some .boolean) : Cond) ∈ lw_good := List.mem_filter.mpr ⟨List.mem_of_getElem? (i := 381) rfl, rfl⟩
theorem zw_48 : (Cond.initialized RX9 : Cond) ∈ lw_good := List.mem_filter.mpr ⟨List.mem_of_getElem? (i := 48) (by decide +kernel), rfl⟩
theorem zw_380 : (Cond.static yX9_isTeam : Cond) ∈ lw_good := List.mem_filter.mpr ⟨List.mem_of_getElem? (i := 380) (by decide +kernel), rfl⟩
theorem zw_78 : (Cond.fieldLink RX5 15 "BunchRace$Riders" "teams" "[I" : Cond) ∈ lw_good := List.mem_filter.mpr ⟨List.mem_of_getElem? (i := 78) (by decide +kernel), rfl⟩
theorem zw_81 : (Cond.fieldLink RX5 19 "BunchRace$Riders" "steady" "[I" : Cond) ∈ lw_good := List.mem_filter.mpr ⟨List.mem_of_getElem? (i := 81) (by decide +kernel), rfl⟩
theorem zw_83 : (Cond.fieldLink RX5 22 "BunchRace$Riders" "full" "[I" : Cond) ∈ lw_good := List.mem_filter.mpr ⟨List.mem_of_getElem? (i := 83) (by decide +kernel), rfl⟩
theorem zw_85 : (Cond.fieldLink RX5 25 "BunchRace$Riders" "climb" "[I" : Cond) ∈ lw_good := List.mem_filter.mpr ⟨List.mem_of_getElem? (i := 85) (by decide +kernel), rfl⟩
theorem zw_521 : (Cond.methodLink RX3 97 Lib.Math.max.name : Cond) ∈ lw_good := List.mem_filter.mpr ⟨List.mem_of_getElem? (i := 521) (by decide +kernel), rfl⟩
theorem zw_522 : (Cond.static Lib.Math.max.name : Cond) ∈ lw_good := List.mem_filter.mpr ⟨List.mem_of_getElem? (i := 522) (by decide +kernel), rfl⟩
theorem zw_59 : (Cond.initialized "java/lang/Math" : Cond) ∈ lw_good := List.mem_filter.mpr ⟨List.mem_of_getElem? (i := 59) (by decide +kernel), rfl⟩
set_option maxRecDepth 100000 in
theorem zw_523 : (Cond.code Lib.Math.max.name Lib.Math.max.code 2 (some .int) : Cond) ∈ lw_good := List.mem_filter.mpr ⟨List.mem_of_getElem? (i := 523) rfl, rfl⟩
theorem zw_229 : (Cond.fieldLink RX3 9 "BunchRace$Race" "minute" "I" : Cond) ∈ lw_good := List.mem_filter.mpr ⟨List.mem_of_getElem? (i := 229) (by decide +kernel), rfl⟩
theorem zw_236 : (Cond.fieldLink RX3 21 "BunchRace$Race" "lot" "J" : Cond) ∈ lw_good := List.mem_filter.mpr ⟨List.mem_of_getElem? (i := 236) (by decide +kernel), rfl⟩
theorem zw_588 : (Cond.constantLong RX3 182 6364136223846793005 : Cond) ∈ lw_good := List.mem_filter.mpr ⟨List.mem_of_getElem? (i := 588) (by decide +kernel), rfl⟩
theorem zw_589 : (Cond.constantLong RX3 184 1442695040888963407 : Cond) ∈ lw_good := List.mem_filter.mpr ⟨List.mem_of_getElem? (i := 589) (by decide +kernel), rfl⟩
theorem zw_590 : (Cond.constantLong RX3 186 100 : Cond) ∈ lw_good := List.mem_filter.mpr ⟨List.mem_of_getElem? (i := 590) (by decide +kernel), rfl⟩
set_option maxRecDepth 100000 in
theorem zw_609 : (Cond.code yX3_placeIn cX3_placeIn 7 (some .int) : Cond) ∈ lw_good := List.mem_filter.mpr ⟨List.mem_of_getElem? (i := 609) rfl, rfl⟩
theorem zw_54 : (Cond.initialized RX3 : Cond) ∈ lw_good := List.mem_filter.mpr ⟨List.mem_of_getElem? (i := 54) (by decide +kernel), rfl⟩
theorem zw_607 : (Cond.methodLink RX3 188 yX3_placeIn : Cond) ∈ lw_good := List.mem_filter.mpr ⟨List.mem_of_getElem? (i := 607) (by decide +kernel), rfl⟩
theorem zw_608 : (Cond.static yX3_placeIn : Cond) ∈ lw_good := List.mem_filter.mpr ⟨List.mem_of_getElem? (i := 608) (by decide +kernel), rfl⟩
theorem zw_245 : (Cond.fieldLink RX3 39 "BunchRace$Race" "seconds" "[I" : Cond) ∈ lw_good := List.mem_filter.mpr ⟨List.mem_of_getElem? (i := 245) (by decide +kernel), rfl⟩
set_option maxRecDepth 100000 in
theorem zw_624 : (Cond.code yX3_riderIn cX3_riderIn 4 (some .int) : Cond) ∈ lw_good := List.mem_filter.mpr ⟨List.mem_of_getElem? (i := 624) rfl, rfl⟩
theorem zw_622 : (Cond.methodLink RX3 192 yX3_riderIn : Cond) ∈ lw_good := List.mem_filter.mpr ⟨List.mem_of_getElem? (i := 622) (by decide +kernel), rfl⟩
theorem zw_623 : (Cond.static yX3_riderIn : Cond) ∈ lw_good := List.mem_filter.mpr ⟨List.mem_of_getElem? (i := 623) (by decide +kernel), rfl⟩
theorem zw_253 : (Cond.fieldLink RX3 51 "BunchRace$Race" "primeSeconds" "[I" : Cond) ∈ lw_good := List.mem_filter.mpr ⟨List.mem_of_getElem? (i := 253) (by decide +kernel), rfl⟩
theorem zw_234 : (Cond.fieldLink RX3 18 "BunchRace$Race" "primes" "I" : Cond) ∈ lw_good := List.mem_filter.mpr ⟨List.mem_of_getElem? (i := 234) (by decide +kernel), rfl⟩
theorem zw_238 : (Cond.fieldLink RX3 28 "BunchRace$Race" "rides" "[Z" : Cond) ∈ lw_good := List.mem_filter.mpr ⟨List.mem_of_getElem? (i := 238) (by decide +kernel), rfl⟩
theorem zw_79 : (Cond.fieldLink RX3 143 "BunchRace$Riders" "teams" "[I" : Cond) ∈ lw_good := List.mem_filter.mpr ⟨List.mem_of_getElem? (i := 79) (by decide +kernel), rfl⟩
theorem zw_240 : (Cond.fieldLink RX3 32 "BunchRace$Race" "metres" "[I" : Cond) ∈ lw_good := List.mem_filter.mpr ⟨List.mem_of_getElem? (i := 240) (by decide +kernel), rfl⟩
set_option maxRecDepth 100000 in
theorem zw_621 : (Cond.code yX3_riderAt cX3_riderAt 2 (some .int) : Cond) ∈ lw_good := List.mem_filter.mpr ⟨List.mem_of_getElem? (i := 621) rfl, rfl⟩
theorem zw_718 : (Cond.methodLink RX3 195 yX3_riderAt : Cond) ∈ lw_good := List.mem_filter.mpr ⟨List.mem_of_getElem? (i := 718) (by decide +kernel), rfl⟩
theorem zw_619 : (Cond.instanceMethod yX3_riderAt : Cond) ∈ lw_good := List.mem_filter.mpr ⟨List.mem_of_getElem? (i := 619) (by decide +kernel), rfl⟩
theorem zw_620 : (Cond.selects RX3 yX3_riderAt yX3_riderAt : Cond) ∈ lw_good := List.mem_filter.mpr ⟨List.mem_of_getElem? (i := 620) (by decide +kernel), rfl⟩
theorem zw_252 : (Cond.fieldLink RX3 48 "BunchRace$Race" "heldFor" "[I" : Cond) ∈ lw_good := List.mem_filter.mpr ⟨List.mem_of_getElem? (i := 252) (by decide +kernel), rfl⟩
theorem zw_256 : (Cond.fieldLink RX3 60 "BunchRace$Race" "bunches" "LBunchRace$Bunches;" : Cond) ∈ lw_good := List.mem_filter.mpr ⟨List.mem_of_getElem? (i := 256) (by decide +kernel), rfl⟩
set_option maxRecDepth 100000 in
theorem zw_520 : (Cond.code yX0_clear cX0_clear 1 none : Cond) ∈ lw_good := List.mem_filter.mpr ⟨List.mem_of_getElem? (i := 520) rfl, rfl⟩
theorem zw_517 : (Cond.methodLink RX3 94 yX0_clear : Cond) ∈ lw_good := List.mem_filter.mpr ⟨List.mem_of_getElem? (i := 517) (by decide +kernel), rfl⟩
theorem zw_518 : (Cond.instanceMethod yX0_clear : Cond) ∈ lw_good := List.mem_filter.mpr ⟨List.mem_of_getElem? (i := 518) (by decide +kernel), rfl⟩
theorem zw_519 : (Cond.selects RX0 yX0_clear yX0_clear : Cond) ∈ lw_good := List.mem_filter.mpr ⟨List.mem_of_getElem? (i := 519) (by decide +kernel), rfl⟩
theorem zw_232 : (Cond.fieldLink RX3 15 "BunchRace$Race" "left" "I" : Cond) ∈ lw_good := List.mem_filter.mpr ⟨List.mem_of_getElem? (i := 232) (by decide +kernel), rfl⟩
theorem zw_237 : (Cond.fieldLink RX3 25 "BunchRace$Race" "foremost" "I" : Cond) ∈ lw_good := List.mem_filter.mpr ⟨List.mem_of_getElem? (i := 237) (by decide +kernel), rfl⟩
set_option maxRecDepth 100000 in
theorem zw_531 : (Cond.code yX0_part cX0_part 5 none : Cond) ∈ lw_good := List.mem_filter.mpr ⟨List.mem_of_getElem? (i := 531) rfl, rfl⟩
theorem zw_528 : (Cond.methodLink RX3 107 yX0_part : Cond) ∈ lw_good := List.mem_filter.mpr ⟨List.mem_of_getElem? (i := 528) (by decide +kernel), rfl⟩
theorem zw_529 : (Cond.instanceMethod yX0_part : Cond) ∈ lw_good := List.mem_filter.mpr ⟨List.mem_of_getElem? (i := 529) (by decide +kernel), rfl⟩
theorem zw_530 : (Cond.selects RX0 yX0_part yX0_part : Cond) ∈ lw_good := List.mem_filter.mpr ⟨List.mem_of_getElem? (i := 530) (by decide +kernel), rfl⟩
set_option maxRecDepth 100000 in
theorem zw_527 : (Cond.code yX0_stand cX0_stand 4 none : Cond) ∈ lw_good := List.mem_filter.mpr ⟨List.mem_of_getElem? (i := 527) rfl, rfl⟩
theorem zw_524 : (Cond.methodLink RX3 103 yX0_stand : Cond) ∈ lw_good := List.mem_filter.mpr ⟨List.mem_of_getElem? (i := 524) (by decide +kernel), rfl⟩
theorem zw_525 : (Cond.instanceMethod yX0_stand : Cond) ∈ lw_good := List.mem_filter.mpr ⟨List.mem_of_getElem? (i := 525) (by decide +kernel), rfl⟩
theorem zw_526 : (Cond.selects RX0 yX0_stand yX0_stand : Cond) ∈ lw_good := List.mem_filter.mpr ⟨List.mem_of_getElem? (i := 526) (by decide +kernel), rfl⟩
theorem zw_258 : (Cond.fieldLink RX3 64 "BunchRace$Race" "values" "[I" : Cond) ∈ lw_good := List.mem_filter.mpr ⟨List.mem_of_getElem? (i := 258) (by decide +kernel), rfl⟩
theorem zw_243 : (Cond.fieldLink RX3 36 "BunchRace$Race" "store" "[I" : Cond) ∈ lw_good := List.mem_filter.mpr ⟨List.mem_of_getElem? (i := 243) (by decide +kernel), rfl⟩
theorem zw_216 : (Cond.fieldLink RX3 163 "BunchRace$Bunches" "sizes" "[I" : Cond) ∈ lw_good := List.mem_filter.mpr ⟨List.mem_of_getElem? (i := 216) (by decide +kernel), rfl⟩
theorem zw_214 : (Cond.fieldLink RX3 123 "BunchRace$Bunches" "places" "[I" : Cond) ∈ lw_good := List.mem_filter.mpr ⟨List.mem_of_getElem? (i := 214) (by decide +kernel), rfl⟩
theorem zw_117 : (Cond.fieldLink RX3 166 "BunchRace$Road" "crashMetre" "I" : Cond) ∈ lw_good := List.mem_filter.mpr ⟨List.mem_of_getElem? (i := 117) (by decide +kernel), rfl⟩
theorem zw_561 : (Cond.methodLink RX3 135 yX6_length : Cond) ∈ lw_good := List.mem_filter.mpr ⟨List.mem_of_getElem? (i := 561) (by decide +kernel), rfl⟩
set_option maxRecDepth 100000 in
theorem zw_594 : (Cond.code yX3_secondsAfter cX3_secondsAfter 4 (some .int) : Cond) ∈ lw_good := List.mem_filter.mpr ⟨List.mem_of_getElem? (i := 594) rfl, rfl⟩
theorem zw_591 : (Cond.methodLink RX3 179 yX3_secondsAfter : Cond) ∈ lw_good := List.mem_filter.mpr ⟨List.mem_of_getElem? (i := 591) (by decide +kernel), rfl⟩
theorem zw_593 : (Cond.instanceMethod yX3_secondsAfter : Cond) ∈ lw_good := List.mem_filter.mpr ⟨List.mem_of_getElem? (i := 593) (by decide +kernel), rfl⟩
theorem zw_15 : (Cond.selects RX3 yX3_secondsAfter yX3_secondsAfter : Cond) ∈ lw_good := List.mem_filter.mpr ⟨List.mem_of_getElem? (i := 15) (by decide +kernel), rfl⟩
theorem zw_115 : (Cond.fieldLink RX3 176 "BunchRace$Road" "primeMetres" "[I" : Cond) ∈ lw_good := List.mem_filter.mpr ⟨List.mem_of_getElem? (i := 115) (by decide +kernel), rfl⟩
theorem zw_119 : (Cond.fieldLink RX3 169 "BunchRace$Road" "crashPart" "I" : Cond) ∈ lw_good := List.mem_filter.mpr ⟨List.mem_of_getElem? (i := 119) (by decide +kernel), rfl⟩
set_option maxRecDepth 100000 in
theorem zw_587 : (Cond.code yX3_drawsCrash cX3_drawsCrash 2 (some .boolean) : Cond) ∈ lw_good := List.mem_filter.mpr ⟨List.mem_of_getElem? (i := 587) rfl, rfl⟩
theorem zw_584 : (Cond.methodLink RX3 172 yX3_drawsCrash : Cond) ∈ lw_good := List.mem_filter.mpr ⟨List.mem_of_getElem? (i := 584) (by decide +kernel), rfl⟩
theorem zw_586 : (Cond.instanceMethod yX3_drawsCrash : Cond) ∈ lw_good := List.mem_filter.mpr ⟨List.mem_of_getElem? (i := 586) (by decide +kernel), rfl⟩
theorem zw_14 : (Cond.selects RX3 yX3_drawsCrash yX3_drawsCrash : Cond) ∈ lw_good := List.mem_filter.mpr ⟨List.mem_of_getElem? (i := 14) (by decide +kernel), rfl⟩
theorem zw_248 : (Cond.fieldLink RX3 42 "BunchRace$Race" "timesHeld" "[I" : Cond) ∈ lw_good := List.mem_filter.mpr ⟨List.mem_of_getElem? (i := 248) (by decide +kernel), rfl⟩
theorem zw_552 : (Cond.methodLink RX3 111 Lib.Math.min.name : Cond) ∈ lw_good := List.mem_filter.mpr ⟨List.mem_of_getElem? (i := 552) (by decide +kernel), rfl⟩
theorem zw_553 : (Cond.static Lib.Math.min.name : Cond) ∈ lw_good := List.mem_filter.mpr ⟨List.mem_of_getElem? (i := 553) (by decide +kernel), rfl⟩
set_option maxRecDepth 100000 in
theorem zw_554 : (Cond.code Lib.Math.min.name Lib.Math.min.code 2 (some .int) : Cond) ∈ lw_good := List.mem_filter.mpr ⟨List.mem_of_getElem? (i := 554) rfl, rfl⟩
theorem zw_108 : (Cond.fieldLink RX3 114 "BunchRace$Road" "rises" "[I" : Cond) ∈ lw_good := List.mem_filter.mpr ⟨List.mem_of_getElem? (i := 108) (by decide +kernel), rfl⟩
theorem zw_86 : (Cond.fieldLink RX3 117 "BunchRace$Riders" "climb" "[I" : Cond) ∈ lw_good := List.mem_filter.mpr ⟨List.mem_of_getElem? (i := 86) (by decide +kernel), rfl⟩
set_option maxRecDepth 100000 in
theorem zw_557 : (Cond.code yX3_slopePower cX3_slopePower 3 (some .int) : Cond) ∈ lw_good := List.mem_filter.mpr ⟨List.mem_of_getElem? (i := 557) rfl, rfl⟩
theorem zw_555 : (Cond.methodLink RX3 120 yX3_slopePower : Cond) ∈ lw_good := List.mem_filter.mpr ⟨List.mem_of_getElem? (i := 555) (by decide +kernel), rfl⟩
theorem zw_556 : (Cond.static yX3_slopePower : Cond) ∈ lw_good := List.mem_filter.mpr ⟨List.mem_of_getElem? (i := 556) (by decide +kernel), rfl⟩
theorem zw_110 : (Cond.fieldLink RX3 126 "BunchRace$Road" "winds" "[I" : Cond) ∈ lw_good := List.mem_filter.mpr ⟨List.mem_of_getElem? (i := 110) (by decide +kernel), rfl⟩
set_option maxRecDepth 100000 in
theorem zw_560 : (Cond.code yX3_shareOf cX3_shareOf 2 (some .int) : Cond) ∈ lw_good := List.mem_filter.mpr ⟨List.mem_of_getElem? (i := 560) rfl, rfl⟩
theorem zw_558 : (Cond.methodLink RX3 129 yX3_shareOf : Cond) ∈ lw_good := List.mem_filter.mpr ⟨List.mem_of_getElem? (i := 558) (by decide +kernel), rfl⟩
theorem zw_559 : (Cond.static yX3_shareOf : Cond) ∈ lw_good := List.mem_filter.mpr ⟨List.mem_of_getElem? (i := 559) (by decide +kernel), rfl⟩
theorem zw_82 : (Cond.fieldLink RX3 132 "BunchRace$Riders" "steady" "[I" : Cond) ∈ lw_good := List.mem_filter.mpr ⟨List.mem_of_getElem? (i := 82) (by decide +kernel), rfl⟩
theorem zw_84 : (Cond.fieldLink RX3 75 "BunchRace$Riders" "full" "[I" : Cond) ∈ lw_good := List.mem_filter.mpr ⟨List.mem_of_getElem? (i := 84) (by decide +kernel), rfl⟩
set_option maxRecDepth 100000 in
theorem zw_565 : (Cond.code yX3_look cX3_look 4 none : Cond) ∈ lw_good := List.mem_filter.mpr ⟨List.mem_of_getElem? (i := 565) rfl, rfl⟩
theorem zw_562 : (Cond.methodLink RX3 139 yX3_look : Cond) ∈ lw_good := List.mem_filter.mpr ⟨List.mem_of_getElem? (i := 562) (by decide +kernel), rfl⟩
theorem zw_564 : (Cond.instanceMethod yX3_look : Cond) ∈ lw_good := List.mem_filter.mpr ⟨List.mem_of_getElem? (i := 564) (by decide +kernel), rfl⟩
theorem zw_11 : (Cond.selects RX3 yX3_look yX3_look : Cond) ∈ lw_good := List.mem_filter.mpr ⟨List.mem_of_getElem? (i := 11) (by decide +kernel), rfl⟩
theorem zw_254 : (Cond.fieldLink RX3 54 "BunchRace$Race" "orderRows" "[I" : Cond) ∈ lw_good := List.mem_filter.mpr ⟨List.mem_of_getElem? (i := 254) (by decide +kernel), rfl⟩
set_option maxRecDepth 100000 in
theorem zw_569 : (Cond.code yX1_paceBy cX1_paceBy 5 (some .int) : Cond) ∈ lw_good := List.mem_filter.mpr ⟨List.mem_of_getElem? (i := 569) rfl, rfl⟩
theorem zw_566 : (Cond.methodLink RX3 146 yX1_paceBy : Cond) ∈ lw_good := List.mem_filter.mpr ⟨List.mem_of_getElem? (i := 566) (by decide +kernel), rfl⟩
theorem zw_567 : (Cond.instanceMethod yX1_paceBy : Cond) ∈ lw_good := List.mem_filter.mpr ⟨List.mem_of_getElem? (i := 567) (by decide +kernel), rfl⟩
theorem zw_568 : (Cond.selects RX1 yX1_paceBy yX1_paceBy : Cond) ∈ lw_good := List.mem_filter.mpr ⟨List.mem_of_getElem? (i := 568) (by decide +kernel), rfl⟩
set_option maxRecDepth 100000 in
theorem zw_576 : (Cond.code yX3_powerOf cX3_powerOf 3 (some .int) : Cond) ∈ lw_good := List.mem_filter.mpr ⟨List.mem_of_getElem? (i := 576) rfl, rfl⟩
theorem zw_574 : (Cond.methodLink RX3 152 yX3_powerOf : Cond) ∈ lw_good := List.mem_filter.mpr ⟨List.mem_of_getElem? (i := 574) (by decide +kernel), rfl⟩
theorem zw_575 : (Cond.static yX3_powerOf : Cond) ∈ lw_good := List.mem_filter.mpr ⟨List.mem_of_getElem? (i := 575) (by decide +kernel), rfl⟩
theorem zw_250 : (Cond.fieldLink RX3 45 "BunchRace$Race" "work" "[I" : Cond) ∈ lw_good := List.mem_filter.mpr ⟨List.mem_of_getElem? (i := 250) (by decide +kernel), rfl⟩
set_option maxRecDepth 100000 in
theorem zw_579 : (Cond.code yX3_metresOf cX3_metresOf 2 (some .int) : Cond) ∈ lw_good := List.mem_filter.mpr ⟨List.mem_of_getElem? (i := 579) rfl, rfl⟩
theorem zw_577 : (Cond.methodLink RX3 156 yX3_metresOf : Cond) ∈ lw_good := List.mem_filter.mpr ⟨List.mem_of_getElem? (i := 577) (by decide +kernel), rfl⟩
theorem zw_578 : (Cond.static yX3_metresOf : Cond) ∈ lw_good := List.mem_filter.mpr ⟨List.mem_of_getElem? (i := 578) (by decide +kernel), rfl⟩
set_option maxRecDepth 100000 in
theorem zw_583 : (Cond.code yX3_advance cX3_advance 8 none : Cond) ∈ lw_good := List.mem_filter.mpr ⟨List.mem_of_getElem? (i := 583) rfl, rfl⟩
theorem zw_580 : (Cond.methodLink RX3 159 yX3_advance : Cond) ∈ lw_good := List.mem_filter.mpr ⟨List.mem_of_getElem? (i := 580) (by decide +kernel), rfl⟩
theorem zw_582 : (Cond.instanceMethod yX3_advance : Cond) ∈ lw_good := List.mem_filter.mpr ⟨List.mem_of_getElem? (i := 582) (by decide +kernel), rfl⟩
theorem zw_13 : (Cond.selects RX3 yX3_advance yX3_advance : Cond) ∈ lw_good := List.mem_filter.mpr ⟨List.mem_of_getElem? (i := 13) (by decide +kernel), rfl⟩
set_option maxRecDepth 100000 in
theorem zw_547 : (Cond.code yX3_lessenHolds cX3_lessenHolds 2 none : Cond) ∈ lw_good := List.mem_filter.mpr ⟨List.mem_of_getElem? (i := 547) rfl, rfl⟩
theorem zw_544 : (Cond.methodLink RX3 81 yX3_lessenHolds : Cond) ∈ lw_good := List.mem_filter.mpr ⟨List.mem_of_getElem? (i := 544) (by decide +kernel), rfl⟩
theorem zw_546 : (Cond.instanceMethod yX3_lessenHolds : Cond) ∈ lw_good := List.mem_filter.mpr ⟨List.mem_of_getElem? (i := 546) (by decide +kernel), rfl⟩
theorem zw_9 : (Cond.selects RX3 yX3_lessenHolds yX3_lessenHolds : Cond) ∈ lw_good := List.mem_filter.mpr ⟨List.mem_of_getElem? (i := 9) (by decide +kernel), rfl⟩
theorem zw_208 : (Cond.fieldLink RX3 84 "BunchRace$Bunches" "onRoad" "I" : Cond) ∈ lw_good := List.mem_filter.mpr ⟨List.mem_of_getElem? (i := 208) (by decide +kernel), rfl⟩
set_option maxRecDepth 100000 in
theorem zw_516 : (Cond.code yX3_lineUp cX3_lineUp 2 none : Cond) ∈ lw_good := List.mem_filter.mpr ⟨List.mem_of_getElem? (i := 516) rfl, rfl⟩
theorem zw_513 : (Cond.methodLink RX3 78 yX3_lineUp : Cond) ∈ lw_good := List.mem_filter.mpr ⟨List.mem_of_getElem? (i := 513) (by decide +kernel), rfl⟩
theorem zw_515 : (Cond.instanceMethod yX3_lineUp : Cond) ∈ lw_good := List.mem_filter.mpr ⟨List.mem_of_getElem? (i := 515) (by decide +kernel), rfl⟩
theorem zw_7 : (Cond.selects RX3 yX3_lineUp yX3_lineUp : Cond) ∈ lw_good := List.mem_filter.mpr ⟨List.mem_of_getElem? (i := 7) (by decide +kernel), rfl⟩
theorem zw_212 : (Cond.fieldLink RX3 87 "BunchRace$Bunches" "order" "[I" : Cond) ∈ lw_good := List.mem_filter.mpr ⟨List.mem_of_getElem? (i := 212) (by decide +kernel), rfl⟩
set_option maxRecDepth 100000 in
theorem zw_551 : (Cond.code yX3_rideOne cX3_rideOne 12 none : Cond) ∈ lw_good := List.mem_filter.mpr ⟨List.mem_of_getElem? (i := 551) rfl, rfl⟩
theorem zw_548 : (Cond.methodLink RX3 90 yX3_rideOne : Cond) ∈ lw_good := List.mem_filter.mpr ⟨List.mem_of_getElem? (i := 548) (by decide +kernel), rfl⟩
theorem zw_550 : (Cond.instanceMethod yX3_rideOne : Cond) ∈ lw_good := List.mem_filter.mpr ⟨List.mem_of_getElem? (i := 550) (by decide +kernel), rfl⟩
theorem zw_10 : (Cond.selects RX3 yX3_rideOne yX3_rideOne : Cond) ∈ lw_good := List.mem_filter.mpr ⟨List.mem_of_getElem? (i := 10) (by decide +kernel), rfl⟩
theorem zw_112 : (Cond.fieldLink RX3 67 "BunchRace$Road" "primes" "I" : Cond) ∈ lw_good := List.mem_filter.mpr ⟨List.mem_of_getElem? (i := 112) (by decide +kernel), rfl⟩
theorem zw_75 : (Cond.fieldLink RX3 70 "BunchRace$Riders" "number" "I" : Cond) ∈ lw_good := List.mem_filter.mpr ⟨List.mem_of_getElem? (i := 75) (by decide +kernel), rfl⟩
theorem zw_230 : (Cond.fieldLink RX4 18 "BunchRace$Race" "minute" "I" : Cond) ∈ lw_good := List.mem_filter.mpr ⟨List.mem_of_getElem? (i := 230) (by decide +kernel), rfl⟩
theorem zw_300 : (Cond.fieldLink RX4 15 "BunchRace$RaceLog" "groups" "[I" : Cond) ∈ lw_good := List.mem_filter.mpr ⟨List.mem_of_getElem? (i := 300) (by decide +kernel), rfl⟩
theorem zw_257 : (Cond.fieldLink RX4 25 "BunchRace$Race" "bunches" "LBunchRace$Bunches;" : Cond) ∈ lw_good := List.mem_filter.mpr ⟨List.mem_of_getElem? (i := 257) (by decide +kernel), rfl⟩
theorem zw_210 : (Cond.fieldLink RX4 29 "BunchRace$Bunches" "number" "I" : Cond) ∈ lw_good := List.mem_filter.mpr ⟨List.mem_of_getElem? (i := 210) (by decide +kernel), rfl⟩
theorem zw_298 : (Cond.fieldLink RX4 9 "BunchRace$RaceLog" "metres" "[I" : Cond) ∈ lw_good := List.mem_filter.mpr ⟨List.mem_of_getElem? (i := 298) (by decide +kernel), rfl⟩
theorem zw_241 : (Cond.fieldLink RX4 24 "BunchRace$Race" "metres" "[I" : Cond) ∈ lw_good := List.mem_filter.mpr ⟨List.mem_of_getElem? (i := 241) (by decide +kernel), rfl⟩
theorem zi_X0 : ∀ w ∈ wsX00, w ∈ lw_good := zz_ins _ [217, 219, 221, 223, 225] (by decide +kernel) (by decide +kernel)
theorem zi_X1 : ∀ w ∈ wsX10, w ∈ lw_good := zz_ins _ [162, 164, 166, 168, 170] (by decide +kernel) (by decide +kernel)
theorem zi_X2 : ∀ w ∈ wsX20, w ∈ lw_good := zz_ins _ [184, 186, 188, 190, 192] (by decide +kernel) (by decide +kernel)
theorem zi_X3 : ∀ w ∈ wsX30, w ∈ lw_good := zz_ins _ [259, 261, 263, 265, 267, 269, 271, 273, 275, 277, 279, 281, 283, 285, 287, 289] (by decide +kernel) (by decide +kernel)
theorem zi_X4 : ∀ w ∈ wsX40, w ∈ lw_good := zz_ins _ [302, 304] (by decide +kernel) (by decide +kernel)
theorem zi_X5 : ∀ w ∈ wsX50, w ∈ lw_good := zz_ins _ [87, 89, 91, 93, 95] (by decide +kernel) (by decide +kernel)
theorem zi_X6 : ∀ w ∈ wsX60, w ∈ lw_good := zz_ins _ [120, 122, 124, 126, 128, 130, 132] (by decide +kernel) (by decide +kernel)
theorem zi_X8 : ∀ w ∈ wsX80, w ∈ lw_good := zz_ins _ [146, 148] (by decide +kernel) (by decide +kernel)
