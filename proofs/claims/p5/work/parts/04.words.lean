theorem zw_202 : (Cond.instantiable RX0 5 : Cond) ∈ lw_good := List.mem_filter.mpr ⟨List.mem_of_getElem? (i := 202) (by decide +kernel), rfl⟩
theorem zw_55 : (Cond.initialized RX0 : Cond) ∈ lw_good := List.mem_filter.mpr ⟨List.mem_of_getElem? (i := 55) (by decide +kernel), rfl⟩
theorem zw_152 : (Cond.instantiable RX1 5 : Cond) ∈ lw_good := List.mem_filter.mpr ⟨List.mem_of_getElem? (i := 152) (by decide +kernel), rfl⟩
theorem zw_52 : (Cond.initialized RX1 : Cond) ∈ lw_good := List.mem_filter.mpr ⟨List.mem_of_getElem? (i := 52) (by decide +kernel), rfl⟩
theorem zw_174 : (Cond.instantiable RX2 5 : Cond) ∈ lw_good := List.mem_filter.mpr ⟨List.mem_of_getElem? (i := 174) (by decide +kernel), rfl⟩
theorem zw_53 : (Cond.initialized RX2 : Cond) ∈ lw_good := List.mem_filter.mpr ⟨List.mem_of_getElem? (i := 53) (by decide +kernel), rfl⟩
theorem zw_196 : (Cond.instantiable RX3 16 : Cond) ∈ lw_good := List.mem_filter.mpr ⟨List.mem_of_getElem? (i := 196) (by decide +kernel), rfl⟩
theorem zw_54 : (Cond.initialized RX3 : Cond) ∈ lw_good := List.mem_filter.mpr ⟨List.mem_of_getElem? (i := 54) (by decide +kernel), rfl⟩
theorem zw_293 : (Cond.instantiable RX4 2 : Cond) ∈ lw_good := List.mem_filter.mpr ⟨List.mem_of_getElem? (i := 293) (by decide +kernel), rfl⟩
theorem zw_56 : (Cond.initialized RX4 : Cond) ∈ lw_good := List.mem_filter.mpr ⟨List.mem_of_getElem? (i := 56) (by decide +kernel), rfl⟩
theorem zw_69 : (Cond.instantiable RX5 5 : Cond) ∈ lw_good := List.mem_filter.mpr ⟨List.mem_of_getElem? (i := 69) (by decide +kernel), rfl⟩
theorem zw_49 : (Cond.initialized RX5 : Cond) ∈ lw_good := List.mem_filter.mpr ⟨List.mem_of_getElem? (i := 49) (by decide +kernel), rfl⟩
theorem zw_100 : (Cond.instantiable RX6 7 : Cond) ∈ lw_good := List.mem_filter.mpr ⟨List.mem_of_getElem? (i := 100) (by decide +kernel), rfl⟩
theorem zw_50 : (Cond.initialized RX6 : Cond) ∈ lw_good := List.mem_filter.mpr ⟨List.mem_of_getElem? (i := 50) (by decide +kernel), rfl⟩
theorem zw_308 : (Cond.instantiable RX7 5 : Cond) ∈ lw_good := List.mem_filter.mpr ⟨List.mem_of_getElem? (i := 308) (by decide +kernel), rfl⟩
theorem zw_57 : (Cond.initialized RX7 : Cond) ∈ lw_good := List.mem_filter.mpr ⟨List.mem_of_getElem? (i := 57) (by decide +kernel), rfl⟩
theorem zw_136 : (Cond.instantiable RX8 2 : Cond) ∈ lw_good := List.mem_filter.mpr ⟨List.mem_of_getElem? (i := 136) (by decide +kernel), rfl⟩
theorem zw_51 : (Cond.initialized RX8 : Cond) ∈ lw_good := List.mem_filter.mpr ⟨List.mem_of_getElem? (i := 51) (by decide +kernel), rfl⟩
theorem zw_61 : (Cond.instantiable RX9 12 : Cond) ∈ lw_good := List.mem_filter.mpr ⟨List.mem_of_getElem? (i := 61) (by decide +kernel), rfl⟩
theorem zw_48 : (Cond.initialized RX9 : Cond) ∈ lw_good := List.mem_filter.mpr ⟨List.mem_of_getElem? (i := 48) (by decide +kernel), rfl⟩
theorem zw_732 : (Cond.instantiable RX10 52 : Cond) ∈ lw_good := List.mem_filter.mpr ⟨List.mem_of_getElem? (i := 732) (by decide +kernel), rfl⟩
theorem zw_58 : (Cond.initialized RX10 : Cond) ∈ lw_good := List.mem_filter.mpr ⟨List.mem_of_getElem? (i := 58) (by decide +kernel), rfl⟩
theorem zw_98 : (Cond.arrayClass .int : Cond) ∈ lw_good := List.mem_filter.mpr ⟨List.mem_of_getElem? (i := 98) (by decide +kernel), rfl⟩
theorem zw_228 : (Cond.arrayClass .boolean : Cond) ∈ lw_good := List.mem_filter.mpr ⟨List.mem_of_getElem? (i := 228) (by decide +kernel), rfl⟩
theorem zw_66 : (Cond.instanceMethod objectInit : Cond) ∈ lw_good := List.mem_filter.mpr ⟨List.mem_of_getElem? (i := 66) (by decide +kernel), rfl⟩
set_option maxRecDepth 100000 in
theorem zw_67 : (Cond.code objectInit ⟨#[0xb1]⟩ 1 none : Cond) ∈ lw_good := List.mem_filter.mpr ⟨List.mem_of_getElem? (i := 67) rfl, rfl⟩
theorem zw_59 : (Cond.initialized "java/lang/Math" : Cond) ∈ lw_good := List.mem_filter.mpr ⟨List.mem_of_getElem? (i := 59) (by decide +kernel), rfl⟩
theorem zw_522 : (Cond.static Lib.Math.max.name : Cond) ∈ lw_good := List.mem_filter.mpr ⟨List.mem_of_getElem? (i := 522) (by decide +kernel), rfl⟩
set_option maxRecDepth 100000 in
theorem zw_523 : (Cond.code Lib.Math.max.name Lib.Math.max.code 2 (some .int) : Cond) ∈ lw_good := List.mem_filter.mpr ⟨List.mem_of_getElem? (i := 523) rfl, rfl⟩
theorem zw_553 : (Cond.static Lib.Math.min.name : Cond) ∈ lw_good := List.mem_filter.mpr ⟨List.mem_of_getElem? (i := 553) (by decide +kernel), rfl⟩
set_option maxRecDepth 100000 in
theorem zw_554 : (Cond.code Lib.Math.min.name Lib.Math.min.code 2 (some .int) : Cond) ∈ lw_good := List.mem_filter.mpr ⟨List.mem_of_getElem? (i := 554) rfl, rfl⟩
set_option maxRecDepth 100000 in
theorem zw_205 : (Cond.code yX0_init cX0_init 1 none : Cond) ∈ lw_good := List.mem_filter.mpr ⟨List.mem_of_getElem? (i := 205) rfl, rfl⟩
theorem zw_204 : (Cond.instanceMethod yX0_init : Cond) ∈ lw_good := List.mem_filter.mpr ⟨List.mem_of_getElem? (i := 204) (by decide +kernel), rfl⟩
theorem zw_206 : (Cond.methodLink RX0 3 objectInit : Cond) ∈ lw_good := List.mem_filter.mpr ⟨List.mem_of_getElem? (i := 206) (by decide +kernel), rfl⟩
theorem zw_207 : (Cond.fieldLink RX0 9 "BunchRace$Bunches" "onRoad" "I" : Cond) ∈ lw_good := List.mem_filter.mpr ⟨List.mem_of_getElem? (i := 207) (by decide +kernel), rfl⟩
theorem zw_209 : (Cond.fieldLink RX0 15 "BunchRace$Bunches" "number" "I" : Cond) ∈ lw_good := List.mem_filter.mpr ⟨List.mem_of_getElem? (i := 209) (by decide +kernel), rfl⟩
theorem zw_211 : (Cond.fieldLink RX0 18 "BunchRace$Bunches" "order" "[I" : Cond) ∈ lw_good := List.mem_filter.mpr ⟨List.mem_of_getElem? (i := 211) (by decide +kernel), rfl⟩
theorem zw_213 : (Cond.fieldLink RX0 22 "BunchRace$Bunches" "places" "[I" : Cond) ∈ lw_good := List.mem_filter.mpr ⟨List.mem_of_getElem? (i := 213) (by decide +kernel), rfl⟩
theorem zw_215 : (Cond.fieldLink RX0 25 "BunchRace$Bunches" "sizes" "[I" : Cond) ∈ lw_good := List.mem_filter.mpr ⟨List.mem_of_getElem? (i := 215) (by decide +kernel), rfl⟩
set_option maxRecDepth 100000 in
theorem zw_520 : (Cond.code yX0_clear cX0_clear 1 none : Cond) ∈ lw_good := List.mem_filter.mpr ⟨List.mem_of_getElem? (i := 520) rfl, rfl⟩
theorem zw_518 : (Cond.instanceMethod yX0_clear : Cond) ∈ lw_good := List.mem_filter.mpr ⟨List.mem_of_getElem? (i := 518) (by decide +kernel), rfl⟩
theorem zw_519 : (Cond.selects RX0 yX0_clear yX0_clear : Cond) ∈ lw_good := List.mem_filter.mpr ⟨List.mem_of_getElem? (i := 519) (by decide +kernel), rfl⟩
set_option maxRecDepth 100000 in
theorem zw_527 : (Cond.code yX0_stand cX0_stand 4 none : Cond) ∈ lw_good := List.mem_filter.mpr ⟨List.mem_of_getElem? (i := 527) rfl, rfl⟩
theorem zw_525 : (Cond.instanceMethod yX0_stand : Cond) ∈ lw_good := List.mem_filter.mpr ⟨List.mem_of_getElem? (i := 525) (by decide +kernel), rfl⟩
theorem zw_526 : (Cond.selects RX0 yX0_stand yX0_stand : Cond) ∈ lw_good := List.mem_filter.mpr ⟨List.mem_of_getElem? (i := 526) (by decide +kernel), rfl⟩
set_option maxRecDepth 100000 in
theorem zw_531 : (Cond.code yX0_part cX0_part 5 none : Cond) ∈ lw_good := List.mem_filter.mpr ⟨List.mem_of_getElem? (i := 531) rfl, rfl⟩
theorem zw_529 : (Cond.instanceMethod yX0_part : Cond) ∈ lw_good := List.mem_filter.mpr ⟨List.mem_of_getElem? (i := 529) (by decide +kernel), rfl⟩
theorem zw_530 : (Cond.selects RX0 yX0_part yX0_part : Cond) ∈ lw_good := List.mem_filter.mpr ⟨List.mem_of_getElem? (i := 530) (by decide +kernel), rfl⟩
theorem zw_532 : (Cond.methodLink RX0 28 yX0_close : Cond) ∈ lw_good := List.mem_filter.mpr ⟨List.mem_of_getElem? (i := 532) (by decide +kernel), rfl⟩
set_option maxRecDepth 100000 in
theorem zw_535 : (Cond.code yX0_close cX0_close 4 none : Cond) ∈ lw_good := List.mem_filter.mpr ⟨List.mem_of_getElem? (i := 535) rfl, rfl⟩
theorem zw_534 : (Cond.instanceMethod yX0_close : Cond) ∈ lw_good := List.mem_filter.mpr ⟨List.mem_of_getElem? (i := 534) (by decide +kernel), rfl⟩
theorem zw_8 : (Cond.selects RX0 yX0_close yX0_close : Cond) ∈ lw_good := List.mem_filter.mpr ⟨List.mem_of_getElem? (i := 8) (by decide +kernel), rfl⟩
set_option maxRecDepth 100000 in
theorem zw_155 : (Cond.code yX1_init cX1_init 1 none : Cond) ∈ lw_good := List.mem_filter.mpr ⟨List.mem_of_getElem? (i := 155) rfl, rfl⟩
theorem zw_154 : (Cond.instanceMethod yX1_init : Cond) ∈ lw_good := List.mem_filter.mpr ⟨List.mem_of_getElem? (i := 154) (by decide +kernel), rfl⟩
theorem zw_156 : (Cond.methodLink RX1 3 objectInit : Cond) ∈ lw_good := List.mem_filter.mpr ⟨List.mem_of_getElem? (i := 156) (by decide +kernel), rfl⟩
theorem zw_157 : (Cond.fieldLink RX1 9 "BunchRace$OrderBook" "clauses" "[I" : Cond) ∈ lw_good := List.mem_filter.mpr ⟨List.mem_of_getElem? (i := 157) (by decide +kernel), rfl⟩
theorem zw_158 : (Cond.fieldLink RX1 15 "BunchRace$OrderBook" "asked" "[I" : Cond) ∈ lw_good := List.mem_filter.mpr ⟨List.mem_of_getElem? (i := 158) (by decide +kernel), rfl⟩
theorem zw_159 : (Cond.fieldLink RX1 18 "BunchRace$OrderBook" "signs" "[I" : Cond) ∈ lw_good := List.mem_filter.mpr ⟨List.mem_of_getElem? (i := 159) (by decide +kernel), rfl⟩
theorem zw_160 : (Cond.fieldLink RX1 21 "BunchRace$OrderBook" "numbers" "[I" : Cond) ∈ lw_good := List.mem_filter.mpr ⟨List.mem_of_getElem? (i := 160) (by decide +kernel), rfl⟩
theorem zw_161 : (Cond.fieldLink RX1 24 "BunchRace$OrderBook" "paces" "[I" : Cond) ∈ lw_good := List.mem_filter.mpr ⟨List.mem_of_getElem? (i := 161) (by decide +kernel), rfl⟩
set_option maxRecDepth 100000 in
theorem zw_453 : (Cond.code yX1_clearDraft cX1_clearDraft 1 none : Cond) ∈ lw_good := List.mem_filter.mpr ⟨List.mem_of_getElem? (i := 453) rfl, rfl⟩
theorem zw_451 : (Cond.instanceMethod yX1_clearDraft : Cond) ∈ lw_good := List.mem_filter.mpr ⟨List.mem_of_getElem? (i := 451) (by decide +kernel), rfl⟩
theorem zw_452 : (Cond.selects RX1 yX1_clearDraft yX1_clearDraft : Cond) ∈ lw_good := List.mem_filter.mpr ⟨List.mem_of_getElem? (i := 452) (by decide +kernel), rfl⟩
set_option maxRecDepth 100000 in
theorem zw_491 : (Cond.code yX1_draftClause cX1_draftClause 6 none : Cond) ∈ lw_good := List.mem_filter.mpr ⟨List.mem_of_getElem? (i := 491) rfl, rfl⟩
theorem zw_489 : (Cond.instanceMethod yX1_draftClause : Cond) ∈ lw_good := List.mem_filter.mpr ⟨List.mem_of_getElem? (i := 489) (by decide +kernel), rfl⟩
theorem zw_490 : (Cond.selects RX1 yX1_draftClause yX1_draftClause : Cond) ∈ lw_good := List.mem_filter.mpr ⟨List.mem_of_getElem? (i := 490) (by decide +kernel), rfl⟩
set_option maxRecDepth 100000 in
theorem zw_500 : (Cond.code yX1_takeDraft cX1_takeDraft 5 none : Cond) ∈ lw_good := List.mem_filter.mpr ⟨List.mem_of_getElem? (i := 500) rfl, rfl⟩
theorem zw_498 : (Cond.instanceMethod yX1_takeDraft : Cond) ∈ lw_good := List.mem_filter.mpr ⟨List.mem_of_getElem? (i := 498) (by decide +kernel), rfl⟩
theorem zw_499 : (Cond.selects RX1 yX1_takeDraft yX1_takeDraft : Cond) ∈ lw_good := List.mem_filter.mpr ⟨List.mem_of_getElem? (i := 499) (by decide +kernel), rfl⟩
set_option maxRecDepth 100000 in
theorem zw_569 : (Cond.code yX1_paceBy cX1_paceBy 5 (some .int) : Cond) ∈ lw_good := List.mem_filter.mpr ⟨List.mem_of_getElem? (i := 569) rfl, rfl⟩
theorem zw_567 : (Cond.instanceMethod yX1_paceBy : Cond) ∈ lw_good := List.mem_filter.mpr ⟨List.mem_of_getElem? (i := 567) (by decide +kernel), rfl⟩
theorem zw_568 : (Cond.selects RX1 yX1_paceBy yX1_paceBy : Cond) ∈ lw_good := List.mem_filter.mpr ⟨List.mem_of_getElem? (i := 568) (by decide +kernel), rfl⟩
theorem zw_570 : (Cond.methodLink RX1 27 yX1_holds : Cond) ∈ lw_good := List.mem_filter.mpr ⟨List.mem_of_getElem? (i := 570) (by decide +kernel), rfl⟩
set_option maxRecDepth 100000 in
theorem zw_573 : (Cond.code yX1_holds cX1_holds 3 (some .boolean) : Cond) ∈ lw_good := List.mem_filter.mpr ⟨List.mem_of_getElem? (i := 573) rfl, rfl⟩
theorem zw_572 : (Cond.instanceMethod yX1_holds : Cond) ∈ lw_good := List.mem_filter.mpr ⟨List.mem_of_getElem? (i := 572) (by decide +kernel), rfl⟩
theorem zw_12 : (Cond.selects RX1 yX1_holds yX1_holds : Cond) ∈ lw_good := List.mem_filter.mpr ⟨List.mem_of_getElem? (i := 12) (by decide +kernel), rfl⟩
set_option maxRecDepth 100000 in
theorem zw_177 : (Cond.code yX2_init cX2_init 1 none : Cond) ∈ lw_good := List.mem_filter.mpr ⟨List.mem_of_getElem? (i := 177) rfl, rfl⟩
theorem zw_176 : (Cond.instanceMethod yX2_init : Cond) ∈ lw_good := List.mem_filter.mpr ⟨List.mem_of_getElem? (i := 176) (by decide +kernel), rfl⟩
theorem zw_178 : (Cond.methodLink RX2 3 objectInit : Cond) ∈ lw_good := List.mem_filter.mpr ⟨List.mem_of_getElem? (i := 178) (by decide +kernel), rfl⟩
theorem zw_179 : (Cond.fieldLink RX2 11 "BunchRace$OrderReader" "awaited" "I" : Cond) ∈ lw_good := List.mem_filter.mpr ⟨List.mem_of_getElem? (i := 179) (by decide +kernel), rfl⟩
theorem zw_180 : (Cond.fieldLink RX2 15 "BunchRace$OrderReader" "askedNow" "I" : Cond) ∈ lw_good := List.mem_filter.mpr ⟨List.mem_of_getElem? (i := 180) (by decide +kernel), rfl⟩
theorem zw_181 : (Cond.fieldLink RX2 18 "BunchRace$OrderReader" "signNow" "I" : Cond) ∈ lw_good := List.mem_filter.mpr ⟨List.mem_of_getElem? (i := 181) (by decide +kernel), rfl⟩
theorem zw_182 : (Cond.fieldLink RX2 21 "BunchRace$OrderReader" "numberNow" "I" : Cond) ∈ lw_good := List.mem_filter.mpr ⟨List.mem_of_getElem? (i := 182) (by decide +kernel), rfl⟩
theorem zw_183 : (Cond.fieldLink RX2 24 "BunchRace$OrderReader" "digitsNow" "I" : Cond) ∈ lw_good := List.mem_filter.mpr ⟨List.mem_of_getElem? (i := 183) (by decide +kernel), rfl⟩
set_option maxRecDepth 100000 in
theorem zw_449 : (Cond.code yX2_faultOf cX2_faultOf 4 (some .int) : Cond) ∈ lw_good := List.mem_filter.mpr ⟨List.mem_of_getElem? (i := 449) rfl, rfl⟩
theorem zw_447 : (Cond.instanceMethod yX2_faultOf : Cond) ∈ lw_good := List.mem_filter.mpr ⟨List.mem_of_getElem? (i := 447) (by decide +kernel), rfl⟩
theorem zw_448 : (Cond.selects RX2 yX2_faultOf yX2_faultOf : Cond) ∈ lw_good := List.mem_filter.mpr ⟨List.mem_of_getElem? (i := 448) (by decide +kernel), rfl⟩
theorem zw_450 : (Cond.methodLink RX2 27 yX1_clearDraft : Cond) ∈ lw_good := List.mem_filter.mpr ⟨List.mem_of_getElem? (i := 450) (by decide +kernel), rfl⟩
theorem zw_142 : (Cond.fieldLink RX2 32 "BunchRace$Tape" "length" "I" : Cond) ∈ lw_good := List.mem_filter.mpr ⟨List.mem_of_getElem? (i := 142) (by decide +kernel), rfl⟩
theorem zw_145 : (Cond.fieldLink RX2 37 "BunchRace$Tape" "bytes" "[I" : Cond) ∈ lw_good := List.mem_filter.mpr ⟨List.mem_of_getElem? (i := 145) (by decide +kernel), rfl⟩
theorem zw_454 : (Cond.methodLink RX2 41 yX2_goesOn : Cond) ∈ lw_good := List.mem_filter.mpr ⟨List.mem_of_getElem? (i := 454) (by decide +kernel), rfl⟩
set_option maxRecDepth 100000 in
theorem zw_457 : (Cond.code yX2_goesOn cX2_goesOn 3 (some .boolean) : Cond) ∈ lw_good := List.mem_filter.mpr ⟨List.mem_of_getElem? (i := 457) rfl, rfl⟩
theorem zw_456 : (Cond.instanceMethod yX2_goesOn : Cond) ∈ lw_good := List.mem_filter.mpr ⟨List.mem_of_getElem? (i := 456) (by decide +kernel), rfl⟩
theorem zw_0 : (Cond.selects RX2 yX2_goesOn yX2_goesOn : Cond) ∈ lw_good := List.mem_filter.mpr ⟨List.mem_of_getElem? (i := 0) (by decide +kernel), rfl⟩
theorem zw_458 : (Cond.methodLink RX2 45 yX2_takesLetter : Cond) ∈ lw_good := List.mem_filter.mpr ⟨List.mem_of_getElem? (i := 458) (by decide +kernel), rfl⟩
theorem zw_465 : (Cond.methodLink RX2 49 yX2_takesSign : Cond) ∈ lw_good := List.mem_filter.mpr ⟨List.mem_of_getElem? (i := 465) (by decide +kernel), rfl⟩
theorem zw_469 : (Cond.methodLink RX2 52 yX2_takesFirstDigit : Cond) ∈ lw_good := List.mem_filter.mpr ⟨List.mem_of_getElem? (i := 469) (by decide +kernel), rfl⟩
theorem zw_473 : (Cond.methodLink RX2 55 yX2_takesDigit : Cond) ∈ lw_good := List.mem_filter.mpr ⟨List.mem_of_getElem? (i := 473) (by decide +kernel), rfl⟩
theorem zw_480 : (Cond.methodLink RX2 58 yX2_takesMark : Cond) ∈ lw_good := List.mem_filter.mpr ⟨List.mem_of_getElem? (i := 480) (by decide +kernel), rfl⟩
theorem zw_484 : (Cond.methodLink RX2 62 yX2_takesPace : Cond) ∈ lw_good := List.mem_filter.mpr ⟨List.mem_of_getElem? (i := 484) (by decide +kernel), rfl⟩
set_option maxRecDepth 100000 in
theorem zw_461 : (Cond.code yX2_takesLetter cX2_takesLetter 3 (some .boolean) : Cond) ∈ lw_good := List.mem_filter.mpr ⟨List.mem_of_getElem? (i := 461) rfl, rfl⟩
theorem zw_460 : (Cond.instanceMethod yX2_takesLetter : Cond) ∈ lw_good := List.mem_filter.mpr ⟨List.mem_of_getElem? (i := 460) (by decide +kernel), rfl⟩
theorem zw_1 : (Cond.selects RX2 yX2_takesLetter yX2_takesLetter : Cond) ∈ lw_good := List.mem_filter.mpr ⟨List.mem_of_getElem? (i := 1) (by decide +kernel), rfl⟩
theorem zw_462 : (Cond.methodLink RX2 65 yX2_askedBy : Cond) ∈ lw_good := List.mem_filter.mpr ⟨List.mem_of_getElem? (i := 462) (by decide +kernel), rfl⟩
set_option maxRecDepth 100000 in
theorem zw_464 : (Cond.code yX2_askedBy cX2_askedBy 1 (some .int) : Cond) ∈ lw_good := List.mem_filter.mpr ⟨List.mem_of_getElem? (i := 464) rfl, rfl⟩
theorem zw_463 : (Cond.static yX2_askedBy : Cond) ∈ lw_good := List.mem_filter.mpr ⟨List.mem_of_getElem? (i := 463) (by decide +kernel), rfl⟩
set_option maxRecDepth 100000 in
theorem zw_468 : (Cond.code yX2_takesSign cX2_takesSign 2 (some .boolean) : Cond) ∈ lw_good := List.mem_filter.mpr ⟨List.mem_of_getElem? (i := 468) rfl, rfl⟩
theorem zw_467 : (Cond.instanceMethod yX2_takesSign : Cond) ∈ lw_good := List.mem_filter.mpr ⟨List.mem_of_getElem? (i := 467) (by decide +kernel), rfl⟩
theorem zw_2 : (Cond.selects RX2 yX2_takesSign yX2_takesSign : Cond) ∈ lw_good := List.mem_filter.mpr ⟨List.mem_of_getElem? (i := 2) (by decide +kernel), rfl⟩
set_option maxRecDepth 100000 in
theorem zw_472 : (Cond.code yX2_takesFirstDigit cX2_takesFirstDigit 2 (some .boolean) : Cond) ∈ lw_good := List.mem_filter.mpr ⟨List.mem_of_getElem? (i := 472) rfl, rfl⟩
theorem zw_471 : (Cond.instanceMethod yX2_takesFirstDigit : Cond) ∈ lw_good := List.mem_filter.mpr ⟨List.mem_of_getElem? (i := 471) (by decide +kernel), rfl⟩
theorem zw_3 : (Cond.selects RX2 yX2_takesFirstDigit yX2_takesFirstDigit : Cond) ∈ lw_good := List.mem_filter.mpr ⟨List.mem_of_getElem? (i := 3) (by decide +kernel), rfl⟩
set_option maxRecDepth 100000 in
theorem zw_476 : (Cond.code yX2_takesDigit cX2_takesDigit 2 (some .boolean) : Cond) ∈ lw_good := List.mem_filter.mpr ⟨List.mem_of_getElem? (i := 476) rfl, rfl⟩
theorem zw_475 : (Cond.instanceMethod yX2_takesDigit : Cond) ∈ lw_good := List.mem_filter.mpr ⟨List.mem_of_getElem? (i := 475) (by decide +kernel), rfl⟩
theorem zw_4 : (Cond.selects RX2 yX2_takesDigit yX2_takesDigit : Cond) ∈ lw_good := List.mem_filter.mpr ⟨List.mem_of_getElem? (i := 4) (by decide +kernel), rfl⟩
theorem zw_477 : (Cond.methodLink RX2 69 yX2_isDigit : Cond) ∈ lw_good := List.mem_filter.mpr ⟨List.mem_of_getElem? (i := 477) (by decide +kernel), rfl⟩
set_option maxRecDepth 100000 in
theorem zw_487 : (Cond.code yX2_takesPace cX2_takesPace 3 (some .boolean) : Cond) ∈ lw_good := List.mem_filter.mpr ⟨List.mem_of_getElem? (i := 487) rfl, rfl⟩
theorem zw_486 : (Cond.instanceMethod yX2_takesPace : Cond) ∈ lw_good := List.mem_filter.mpr ⟨List.mem_of_getElem? (i := 486) (by decide +kernel), rfl⟩
theorem zw_6 : (Cond.selects RX2 yX2_takesPace yX2_takesPace : Cond) ∈ lw_good := List.mem_filter.mpr ⟨List.mem_of_getElem? (i := 6) (by decide +kernel), rfl⟩
theorem zw_488 : (Cond.methodLink RX2 72 yX1_draftClause : Cond) ∈ lw_good := List.mem_filter.mpr ⟨List.mem_of_getElem? (i := 488) (by decide +kernel), rfl⟩
set_option maxRecDepth 100000 in
theorem zw_483 : (Cond.code yX2_takesMark cX2_takesMark 4 (some .boolean) : Cond) ∈ lw_good := List.mem_filter.mpr ⟨List.mem_of_getElem? (i := 483) rfl, rfl⟩
theorem zw_482 : (Cond.instanceMethod yX2_takesMark : Cond) ∈ lw_good := List.mem_filter.mpr ⟨List.mem_of_getElem? (i := 482) (by decide +kernel), rfl⟩
theorem zw_5 : (Cond.selects RX2 yX2_takesMark yX2_takesMark : Cond) ∈ lw_good := List.mem_filter.mpr ⟨List.mem_of_getElem? (i := 5) (by decide +kernel), rfl⟩
set_option maxRecDepth 100000 in
theorem zw_479 : (Cond.code yX2_isDigit cX2_isDigit 1 (some .boolean) : Cond) ∈ lw_good := List.mem_filter.mpr ⟨List.mem_of_getElem? (i := 479) rfl, rfl⟩
theorem zw_478 : (Cond.static yX2_isDigit : Cond) ∈ lw_good := List.mem_filter.mpr ⟨List.mem_of_getElem? (i := 478) (by decide +kernel), rfl⟩
set_option maxRecDepth 100000 in
theorem zw_199 : (Cond.code yX3_init cX3_init 1 none : Cond) ∈ lw_good := List.mem_filter.mpr ⟨List.mem_of_getElem? (i := 199) rfl, rfl⟩
theorem zw_198 : (Cond.instanceMethod yX3_init : Cond) ∈ lw_good := List.mem_filter.mpr ⟨List.mem_of_getElem? (i := 198) (by decide +kernel), rfl⟩
theorem zw_200 : (Cond.methodLink RX3 3 objectInit : Cond) ∈ lw_good := List.mem_filter.mpr ⟨List.mem_of_getElem? (i := 200) (by decide +kernel), rfl⟩
theorem zw_229 : (Cond.fieldLink RX3 9 "BunchRace$Race" "minute" "I" : Cond) ∈ lw_good := List.mem_filter.mpr ⟨List.mem_of_getElem? (i := 229) (by decide +kernel), rfl⟩
theorem zw_232 : (Cond.fieldLink RX3 15 "BunchRace$Race" "left" "I" : Cond) ∈ lw_good := List.mem_filter.mpr ⟨List.mem_of_getElem? (i := 232) (by decide +kernel), rfl⟩
theorem zw_234 : (Cond.fieldLink RX3 18 "BunchRace$Race" "primes" "I" : Cond) ∈ lw_good := List.mem_filter.mpr ⟨List.mem_of_getElem? (i := 234) (by decide +kernel), rfl⟩
theorem zw_236 : (Cond.fieldLink RX3 21 "BunchRace$Race" "lot" "J" : Cond) ∈ lw_good := List.mem_filter.mpr ⟨List.mem_of_getElem? (i := 236) (by decide +kernel), rfl⟩
theorem zw_237 : (Cond.fieldLink RX3 25 "BunchRace$Race" "foremost" "I" : Cond) ∈ lw_good := List.mem_filter.mpr ⟨List.mem_of_getElem? (i := 237) (by decide +kernel), rfl⟩
theorem zw_238 : (Cond.fieldLink RX3 28 "BunchRace$Race" "rides" "[Z" : Cond) ∈ lw_good := List.mem_filter.mpr ⟨List.mem_of_getElem? (i := 238) (by decide +kernel), rfl⟩
theorem zw_240 : (Cond.fieldLink RX3 32 "BunchRace$Race" "metres" "[I" : Cond) ∈ lw_good := List.mem_filter.mpr ⟨List.mem_of_getElem? (i := 240) (by decide +kernel), rfl⟩
theorem zw_243 : (Cond.fieldLink RX3 36 "BunchRace$Race" "store" "[I" : Cond) ∈ lw_good := List.mem_filter.mpr ⟨List.mem_of_getElem? (i := 243) (by decide +kernel), rfl⟩
theorem zw_245 : (Cond.fieldLink RX3 39 "BunchRace$Race" "seconds" "[I" : Cond) ∈ lw_good := List.mem_filter.mpr ⟨List.mem_of_getElem? (i := 245) (by decide +kernel), rfl⟩
theorem zw_248 : (Cond.fieldLink RX3 42 "BunchRace$Race" "timesHeld" "[I" : Cond) ∈ lw_good := List.mem_filter.mpr ⟨List.mem_of_getElem? (i := 248) (by decide +kernel), rfl⟩
theorem zw_250 : (Cond.fieldLink RX3 45 "BunchRace$Race" "work" "[I" : Cond) ∈ lw_good := List.mem_filter.mpr ⟨List.mem_of_getElem? (i := 250) (by decide +kernel), rfl⟩
theorem zw_252 : (Cond.fieldLink RX3 48 "BunchRace$Race" "heldFor" "[I" : Cond) ∈ lw_good := List.mem_filter.mpr ⟨List.mem_of_getElem? (i := 252) (by decide +kernel), rfl⟩
theorem zw_253 : (Cond.fieldLink RX3 51 "BunchRace$Race" "primeSeconds" "[I" : Cond) ∈ lw_good := List.mem_filter.mpr ⟨List.mem_of_getElem? (i := 253) (by decide +kernel), rfl⟩
theorem zw_254 : (Cond.fieldLink RX3 54 "BunchRace$Race" "orderRows" "[I" : Cond) ∈ lw_good := List.mem_filter.mpr ⟨List.mem_of_getElem? (i := 254) (by decide +kernel), rfl⟩
theorem zw_201 : (Cond.classLink RX3 57 RX0 : Cond) ∈ lw_good := List.mem_filter.mpr ⟨List.mem_of_getElem? (i := 201) (by decide +kernel), rfl⟩
theorem zw_256 : (Cond.fieldLink RX3 60 "BunchRace$Race" "bunches" "LBunchRace$Bunches;" : Cond) ∈ lw_good := List.mem_filter.mpr ⟨List.mem_of_getElem? (i := 256) (by decide +kernel), rfl⟩
theorem zw_258 : (Cond.fieldLink RX3 64 "BunchRace$Race" "values" "[I" : Cond) ∈ lw_good := List.mem_filter.mpr ⟨List.mem_of_getElem? (i := 258) (by decide +kernel), rfl⟩
set_option maxRecDepth 100000 in
theorem zw_512 : (Cond.code yX3_begin cX3_begin 7 none : Cond) ∈ lw_good := List.mem_filter.mpr ⟨List.mem_of_getElem? (i := 512) rfl, rfl⟩
theorem zw_510 : (Cond.instanceMethod yX3_begin : Cond) ∈ lw_good := List.mem_filter.mpr ⟨List.mem_of_getElem? (i := 510) (by decide +kernel), rfl⟩
theorem zw_511 : (Cond.selects RX3 yX3_begin yX3_begin : Cond) ∈ lw_good := List.mem_filter.mpr ⟨List.mem_of_getElem? (i := 511) (by decide +kernel), rfl⟩
theorem zw_112 : (Cond.fieldLink RX3 67 "BunchRace$Road" "primes" "I" : Cond) ∈ lw_good := List.mem_filter.mpr ⟨List.mem_of_getElem? (i := 112) (by decide +kernel), rfl⟩
theorem zw_75 : (Cond.fieldLink RX3 70 "BunchRace$Riders" "number" "I" : Cond) ∈ lw_good := List.mem_filter.mpr ⟨List.mem_of_getElem? (i := 75) (by decide +kernel), rfl⟩
theorem zw_84 : (Cond.fieldLink RX3 75 "BunchRace$Riders" "full" "[I" : Cond) ∈ lw_good := List.mem_filter.mpr ⟨List.mem_of_getElem? (i := 84) (by decide +kernel), rfl⟩
theorem zw_513 : (Cond.methodLink RX3 78 yX3_lineUp : Cond) ∈ lw_good := List.mem_filter.mpr ⟨List.mem_of_getElem? (i := 513) (by decide +kernel), rfl⟩
set_option maxRecDepth 100000 in
theorem zw_543 : (Cond.code yX3_rideMinute cX3_rideMinute 5 none : Cond) ∈ lw_good := List.mem_filter.mpr ⟨List.mem_of_getElem? (i := 543) rfl, rfl⟩
theorem zw_541 : (Cond.instanceMethod yX3_rideMinute : Cond) ∈ lw_good := List.mem_filter.mpr ⟨List.mem_of_getElem? (i := 541) (by decide +kernel), rfl⟩
theorem zw_542 : (Cond.selects RX3 yX3_rideMinute yX3_rideMinute : Cond) ∈ lw_good := List.mem_filter.mpr ⟨List.mem_of_getElem? (i := 542) (by decide +kernel), rfl⟩
theorem zw_544 : (Cond.methodLink RX3 81 yX3_lessenHolds : Cond) ∈ lw_good := List.mem_filter.mpr ⟨List.mem_of_getElem? (i := 544) (by decide +kernel), rfl⟩
theorem zw_208 : (Cond.fieldLink RX3 84 "BunchRace$Bunches" "onRoad" "I" : Cond) ∈ lw_good := List.mem_filter.mpr ⟨List.mem_of_getElem? (i := 208) (by decide +kernel), rfl⟩
theorem zw_212 : (Cond.fieldLink RX3 87 "BunchRace$Bunches" "order" "[I" : Cond) ∈ lw_good := List.mem_filter.mpr ⟨List.mem_of_getElem? (i := 212) (by decide +kernel), rfl⟩
theorem zw_548 : (Cond.methodLink RX3 90 yX3_rideOne : Cond) ∈ lw_good := List.mem_filter.mpr ⟨List.mem_of_getElem? (i := 548) (by decide +kernel), rfl⟩
set_option maxRecDepth 100000 in
theorem zw_516 : (Cond.code yX3_lineUp cX3_lineUp 2 none : Cond) ∈ lw_good := List.mem_filter.mpr ⟨List.mem_of_getElem? (i := 516) rfl, rfl⟩
theorem zw_515 : (Cond.instanceMethod yX3_lineUp : Cond) ∈ lw_good := List.mem_filter.mpr ⟨List.mem_of_getElem? (i := 515) (by decide +kernel), rfl⟩
theorem zw_7 : (Cond.selects RX3 yX3_lineUp yX3_lineUp : Cond) ∈ lw_good := List.mem_filter.mpr ⟨List.mem_of_getElem? (i := 7) (by decide +kernel), rfl⟩
theorem zw_517 : (Cond.methodLink RX3 94 yX0_clear : Cond) ∈ lw_good := List.mem_filter.mpr ⟨List.mem_of_getElem? (i := 517) (by decide +kernel), rfl⟩
theorem zw_521 : (Cond.methodLink RX3 97 Lib.Math.max.name : Cond) ∈ lw_good := List.mem_filter.mpr ⟨List.mem_of_getElem? (i := 521) (by decide +kernel), rfl⟩
theorem zw_524 : (Cond.methodLink RX3 103 yX0_stand : Cond) ∈ lw_good := List.mem_filter.mpr ⟨List.mem_of_getElem? (i := 524) (by decide +kernel), rfl⟩
theorem zw_528 : (Cond.methodLink RX3 107 yX0_part : Cond) ∈ lw_good := List.mem_filter.mpr ⟨List.mem_of_getElem? (i := 528) (by decide +kernel), rfl⟩
set_option maxRecDepth 100000 in
theorem zw_547 : (Cond.code yX3_lessenHolds cX3_lessenHolds 2 none : Cond) ∈ lw_good := List.mem_filter.mpr ⟨List.mem_of_getElem? (i := 547) rfl, rfl⟩
theorem zw_546 : (Cond.instanceMethod yX3_lessenHolds : Cond) ∈ lw_good := List.mem_filter.mpr ⟨List.mem_of_getElem? (i := 546) (by decide +kernel), rfl⟩
theorem zw_9 : (Cond.selects RX3 yX3_lessenHolds yX3_lessenHolds : Cond) ∈ lw_good := List.mem_filter.mpr ⟨List.mem_of_getElem? (i := 9) (by decide +kernel), rfl⟩
set_option maxRecDepth 100000 in
theorem zw_551 : (Cond.code yX3_rideOne cX3_rideOne 12 none : Cond) ∈ lw_good := List.mem_filter.mpr ⟨List.mem_of_getElem? (i := 551) rfl, rfl⟩
theorem zw_550 : (Cond.instanceMethod yX3_rideOne : Cond) ∈ lw_good := List.mem_filter.mpr ⟨List.mem_of_getElem? (i := 550) (by decide +kernel), rfl⟩
theorem zw_10 : (Cond.selects RX3 yX3_rideOne yX3_rideOne : Cond) ∈ lw_good := List.mem_filter.mpr ⟨List.mem_of_getElem? (i := 10) (by decide +kernel), rfl⟩
theorem zw_552 : (Cond.methodLink RX3 111 Lib.Math.min.name : Cond) ∈ lw_good := List.mem_filter.mpr ⟨List.mem_of_getElem? (i := 552) (by decide +kernel), rfl⟩
theorem zw_108 : (Cond.fieldLink RX3 114 "BunchRace$Road" "rises" "[I" : Cond) ∈ lw_good := List.mem_filter.mpr ⟨List.mem_of_getElem? (i := 108) (by decide +kernel), rfl⟩
theorem zw_86 : (Cond.fieldLink RX3 117 "BunchRace$Riders" "climb" "[I" : Cond) ∈ lw_good := List.mem_filter.mpr ⟨List.mem_of_getElem? (i := 86) (by decide +kernel), rfl⟩
theorem zw_555 : (Cond.methodLink RX3 120 yX3_slopePower : Cond) ∈ lw_good := List.mem_filter.mpr ⟨List.mem_of_getElem? (i := 555) (by decide +kernel), rfl⟩
theorem zw_214 : (Cond.fieldLink RX3 123 "BunchRace$Bunches" "places" "[I" : Cond) ∈ lw_good := List.mem_filter.mpr ⟨List.mem_of_getElem? (i := 214) (by decide +kernel), rfl⟩
theorem zw_110 : (Cond.fieldLink RX3 126 "BunchRace$Road" "winds" "[I" : Cond) ∈ lw_good := List.mem_filter.mpr ⟨List.mem_of_getElem? (i := 110) (by decide +kernel), rfl⟩
theorem zw_558 : (Cond.methodLink RX3 129 yX3_shareOf : Cond) ∈ lw_good := List.mem_filter.mpr ⟨List.mem_of_getElem? (i := 558) (by decide +kernel), rfl⟩
theorem zw_82 : (Cond.fieldLink RX3 132 "BunchRace$Riders" "steady" "[I" : Cond) ∈ lw_good := List.mem_filter.mpr ⟨List.mem_of_getElem? (i := 82) (by decide +kernel), rfl⟩
theorem zw_561 : (Cond.methodLink RX3 135 yX6_length : Cond) ∈ lw_good := List.mem_filter.mpr ⟨List.mem_of_getElem? (i := 561) (by decide +kernel), rfl⟩
theorem zw_562 : (Cond.methodLink RX3 139 yX3_look : Cond) ∈ lw_good := List.mem_filter.mpr ⟨List.mem_of_getElem? (i := 562) (by decide +kernel), rfl⟩
theorem zw_79 : (Cond.fieldLink RX3 143 "BunchRace$Riders" "teams" "[I" : Cond) ∈ lw_good := List.mem_filter.mpr ⟨List.mem_of_getElem? (i := 79) (by decide +kernel), rfl⟩
theorem zw_566 : (Cond.methodLink RX3 146 yX1_paceBy : Cond) ∈ lw_good := List.mem_filter.mpr ⟨List.mem_of_getElem? (i := 566) (by decide +kernel), rfl⟩
theorem zw_574 : (Cond.methodLink RX3 152 yX3_powerOf : Cond) ∈ lw_good := List.mem_filter.mpr ⟨List.mem_of_getElem? (i := 574) (by decide +kernel), rfl⟩
theorem zw_577 : (Cond.methodLink RX3 156 yX3_metresOf : Cond) ∈ lw_good := List.mem_filter.mpr ⟨List.mem_of_getElem? (i := 577) (by decide +kernel), rfl⟩
theorem zw_580 : (Cond.methodLink RX3 159 yX3_advance : Cond) ∈ lw_good := List.mem_filter.mpr ⟨List.mem_of_getElem? (i := 580) (by decide +kernel), rfl⟩
set_option maxRecDepth 100000 in
theorem zw_565 : (Cond.code yX3_look cX3_look 4 none : Cond) ∈ lw_good := List.mem_filter.mpr ⟨List.mem_of_getElem? (i := 565) rfl, rfl⟩
theorem zw_564 : (Cond.instanceMethod yX3_look : Cond) ∈ lw_good := List.mem_filter.mpr ⟨List.mem_of_getElem? (i := 564) (by decide +kernel), rfl⟩
theorem zw_11 : (Cond.selects RX3 yX3_look yX3_look : Cond) ∈ lw_good := List.mem_filter.mpr ⟨List.mem_of_getElem? (i := 11) (by decide +kernel), rfl⟩
theorem zw_216 : (Cond.fieldLink RX3 163 "BunchRace$Bunches" "sizes" "[I" : Cond) ∈ lw_good := List.mem_filter.mpr ⟨List.mem_of_getElem? (i := 216) (by decide +kernel), rfl⟩
set_option maxRecDepth 100000 in
theorem zw_557 : (Cond.code yX3_slopePower cX3_slopePower 3 (some .int) : Cond) ∈ lw_good := List.mem_filter.mpr ⟨List.mem_of_getElem? (i := 557) rfl, rfl⟩
theorem zw_556 : (Cond.static yX3_slopePower : Cond) ∈ lw_good := List.mem_filter.mpr ⟨List.mem_of_getElem? (i := 556) (by decide +kernel), rfl⟩
set_option maxRecDepth 100000 in
theorem zw_560 : (Cond.code yX3_shareOf cX3_shareOf 2 (some .int) : Cond) ∈ lw_good := List.mem_filter.mpr ⟨List.mem_of_getElem? (i := 560) rfl, rfl⟩
theorem zw_559 : (Cond.static yX3_shareOf : Cond) ∈ lw_good := List.mem_filter.mpr ⟨List.mem_of_getElem? (i := 559) (by decide +kernel), rfl⟩
set_option maxRecDepth 100000 in
theorem zw_576 : (Cond.code yX3_powerOf cX3_powerOf 3 (some .int) : Cond) ∈ lw_good := List.mem_filter.mpr ⟨List.mem_of_getElem? (i := 576) rfl, rfl⟩
theorem zw_575 : (Cond.static yX3_powerOf : Cond) ∈ lw_good := List.mem_filter.mpr ⟨List.mem_of_getElem? (i := 575) (by decide +kernel), rfl⟩
set_option maxRecDepth 100000 in
theorem zw_579 : (Cond.code yX3_metresOf cX3_metresOf 2 (some .int) : Cond) ∈ lw_good := List.mem_filter.mpr ⟨List.mem_of_getElem? (i := 579) rfl, rfl⟩
theorem zw_578 : (Cond.static yX3_metresOf : Cond) ∈ lw_good := List.mem_filter.mpr ⟨List.mem_of_getElem? (i := 578) (by decide +kernel), rfl⟩
set_option maxRecDepth 100000 in
theorem zw_583 : (Cond.code yX3_advance cX3_advance 8 none : Cond) ∈ lw_good := List.mem_filter.mpr ⟨List.mem_of_getElem? (i := 583) rfl, rfl⟩
theorem zw_582 : (Cond.instanceMethod yX3_advance : Cond) ∈ lw_good := List.mem_filter.mpr ⟨List.mem_of_getElem? (i := 582) (by decide +kernel), rfl⟩
theorem zw_13 : (Cond.selects RX3 yX3_advance yX3_advance : Cond) ∈ lw_good := List.mem_filter.mpr ⟨List.mem_of_getElem? (i := 13) (by decide +kernel), rfl⟩
theorem zw_117 : (Cond.fieldLink RX3 166 "BunchRace$Road" "crashMetre" "I" : Cond) ∈ lw_good := List.mem_filter.mpr ⟨List.mem_of_getElem? (i := 117) (by decide +kernel), rfl⟩
theorem zw_119 : (Cond.fieldLink RX3 169 "BunchRace$Road" "crashPart" "I" : Cond) ∈ lw_good := List.mem_filter.mpr ⟨List.mem_of_getElem? (i := 119) (by decide +kernel), rfl⟩
theorem zw_584 : (Cond.methodLink RX3 172 yX3_drawsCrash : Cond) ∈ lw_good := List.mem_filter.mpr ⟨List.mem_of_getElem? (i := 584) (by decide +kernel), rfl⟩
theorem zw_115 : (Cond.fieldLink RX3 176 "BunchRace$Road" "primeMetres" "[I" : Cond) ∈ lw_good := List.mem_filter.mpr ⟨List.mem_of_getElem? (i := 115) (by decide +kernel), rfl⟩
theorem zw_591 : (Cond.methodLink RX3 179 yX3_secondsAfter : Cond) ∈ lw_good := List.mem_filter.mpr ⟨List.mem_of_getElem? (i := 591) (by decide +kernel), rfl⟩
set_option maxRecDepth 100000 in
theorem zw_587 : (Cond.code yX3_drawsCrash cX3_drawsCrash 2 (some .boolean) : Cond) ∈ lw_good := List.mem_filter.mpr ⟨List.mem_of_getElem? (i := 587) rfl, rfl⟩
theorem zw_586 : (Cond.instanceMethod yX3_drawsCrash : Cond) ∈ lw_good := List.mem_filter.mpr ⟨List.mem_of_getElem? (i := 586) (by decide +kernel), rfl⟩
theorem zw_14 : (Cond.selects RX3 yX3_drawsCrash yX3_drawsCrash : Cond) ∈ lw_good := List.mem_filter.mpr ⟨List.mem_of_getElem? (i := 14) (by decide +kernel), rfl⟩
theorem zw_588 : (Cond.constantLong RX3 182 6364136223846793005 : Cond) ∈ lw_good := List.mem_filter.mpr ⟨List.mem_of_getElem? (i := 588) (by decide +kernel), rfl⟩
theorem zw_589 : (Cond.constantLong RX3 184 1442695040888963407 : Cond) ∈ lw_good := List.mem_filter.mpr ⟨List.mem_of_getElem? (i := 589) (by decide +kernel), rfl⟩
theorem zw_590 : (Cond.constantLong RX3 186 100 : Cond) ∈ lw_good := List.mem_filter.mpr ⟨List.mem_of_getElem? (i := 590) (by decide +kernel), rfl⟩
set_option maxRecDepth 100000 in
theorem zw_594 : (Cond.code yX3_secondsAfter cX3_secondsAfter 4 (some .int) : Cond) ∈ lw_good := List.mem_filter.mpr ⟨List.mem_of_getElem? (i := 594) rfl, rfl⟩
theorem zw_593 : (Cond.instanceMethod yX3_secondsAfter : Cond) ∈ lw_good := List.mem_filter.mpr ⟨List.mem_of_getElem? (i := 593) (by decide +kernel), rfl⟩
theorem zw_15 : (Cond.selects RX3 yX3_secondsAfter yX3_secondsAfter : Cond) ∈ lw_good := List.mem_filter.mpr ⟨List.mem_of_getElem? (i := 15) (by decide +kernel), rfl⟩
set_option maxRecDepth 100000 in
theorem zw_609 : (Cond.code yX3_placeIn cX3_placeIn 7 (some .int) : Cond) ∈ lw_good := List.mem_filter.mpr ⟨List.mem_of_getElem? (i := 609) rfl, rfl⟩
theorem zw_608 : (Cond.static yX3_placeIn : Cond) ∈ lw_good := List.mem_filter.mpr ⟨List.mem_of_getElem? (i := 608) (by decide +kernel), rfl⟩
set_option maxRecDepth 100000 in
theorem zw_624 : (Cond.code yX3_riderIn cX3_riderIn 4 (some .int) : Cond) ∈ lw_good := List.mem_filter.mpr ⟨List.mem_of_getElem? (i := 624) rfl, rfl⟩
theorem zw_623 : (Cond.static yX3_riderIn : Cond) ∈ lw_good := List.mem_filter.mpr ⟨List.mem_of_getElem? (i := 623) (by decide +kernel), rfl⟩
theorem zw_607 : (Cond.methodLink RX3 188 yX3_placeIn : Cond) ∈ lw_good := List.mem_filter.mpr ⟨List.mem_of_getElem? (i := 607) (by decide +kernel), rfl⟩
set_option maxRecDepth 100000 in
theorem zw_606 : (Cond.code yX3_placeOf cX3_placeOf 2 (some .int) : Cond) ∈ lw_good := List.mem_filter.mpr ⟨List.mem_of_getElem? (i := 606) rfl, rfl⟩
theorem zw_604 : (Cond.instanceMethod yX3_placeOf : Cond) ∈ lw_good := List.mem_filter.mpr ⟨List.mem_of_getElem? (i := 604) (by decide +kernel), rfl⟩
theorem zw_605 : (Cond.selects RX3 yX3_placeOf yX3_placeOf : Cond) ∈ lw_good := List.mem_filter.mpr ⟨List.mem_of_getElem? (i := 605) (by decide +kernel), rfl⟩
set_option maxRecDepth 100000 in
theorem zw_621 : (Cond.code yX3_riderAt cX3_riderAt 2 (some .int) : Cond) ∈ lw_good := List.mem_filter.mpr ⟨List.mem_of_getElem? (i := 621) rfl, rfl⟩
theorem zw_619 : (Cond.instanceMethod yX3_riderAt : Cond) ∈ lw_good := List.mem_filter.mpr ⟨List.mem_of_getElem? (i := 619) (by decide +kernel), rfl⟩
theorem zw_620 : (Cond.selects RX3 yX3_riderAt yX3_riderAt : Cond) ∈ lw_good := List.mem_filter.mpr ⟨List.mem_of_getElem? (i := 620) (by decide +kernel), rfl⟩
theorem zw_622 : (Cond.methodLink RX3 192 yX3_riderIn : Cond) ∈ lw_good := List.mem_filter.mpr ⟨List.mem_of_getElem? (i := 622) (by decide +kernel), rfl⟩
set_option maxRecDepth 100000 in
theorem zw_632 : (Cond.code yX3_riderAtPrime cX3_riderAtPrime 3 (some .int) : Cond) ∈ lw_good := List.mem_filter.mpr ⟨List.mem_of_getElem? (i := 632) rfl, rfl⟩
theorem zw_630 : (Cond.instanceMethod yX3_riderAtPrime : Cond) ∈ lw_good := List.mem_filter.mpr ⟨List.mem_of_getElem? (i := 630) (by decide +kernel), rfl⟩
theorem zw_631 : (Cond.selects RX3 yX3_riderAtPrime yX3_riderAtPrime : Cond) ∈ lw_good := List.mem_filter.mpr ⟨List.mem_of_getElem? (i := 631) (by decide +kernel), rfl⟩
set_option maxRecDepth 100000 in
theorem zw_613 : (Cond.code yX3_primePointsOf cX3_primePointsOf 5 (some .int) : Cond) ∈ lw_good := List.mem_filter.mpr ⟨List.mem_of_getElem? (i := 613) rfl, rfl⟩
theorem zw_611 : (Cond.instanceMethod yX3_primePointsOf : Cond) ∈ lw_good := List.mem_filter.mpr ⟨List.mem_of_getElem? (i := 611) (by decide +kernel), rfl⟩
theorem zw_612 : (Cond.selects RX3 yX3_primePointsOf yX3_primePointsOf : Cond) ∈ lw_good := List.mem_filter.mpr ⟨List.mem_of_getElem? (i := 612) (by decide +kernel), rfl⟩
set_option maxRecDepth 100000 in
theorem zw_713 : (Cond.code yX3_foremostOf cX3_foremostOf 5 (some .int) : Cond) ∈ lw_good := List.mem_filter.mpr ⟨List.mem_of_getElem? (i := 713) rfl, rfl⟩
theorem zw_711 : (Cond.instanceMethod yX3_foremostOf : Cond) ∈ lw_good := List.mem_filter.mpr ⟨List.mem_of_getElem? (i := 711) (by decide +kernel), rfl⟩
theorem zw_712 : (Cond.selects RX3 yX3_foremostOf yX3_foremostOf : Cond) ∈ lw_good := List.mem_filter.mpr ⟨List.mem_of_getElem? (i := 712) (by decide +kernel), rfl⟩
set_option maxRecDepth 100000 in
theorem zw_717 : (Cond.code yX3_scoreOf cX3_scoreOf 7 (some .int) : Cond) ∈ lw_good := List.mem_filter.mpr ⟨List.mem_of_getElem? (i := 717) rfl, rfl⟩
theorem zw_715 : (Cond.instanceMethod yX3_scoreOf : Cond) ∈ lw_good := List.mem_filter.mpr ⟨List.mem_of_getElem? (i := 715) (by decide +kernel), rfl⟩
theorem zw_716 : (Cond.selects RX3 yX3_scoreOf yX3_scoreOf : Cond) ∈ lw_good := List.mem_filter.mpr ⟨List.mem_of_getElem? (i := 716) (by decide +kernel), rfl⟩
theorem zw_718 : (Cond.methodLink RX3 195 yX3_riderAt : Cond) ∈ lw_good := List.mem_filter.mpr ⟨List.mem_of_getElem? (i := 718) (by decide +kernel), rfl⟩
set_option maxRecDepth 100000 in
theorem zw_296 : (Cond.code yX4_init cX4_init 1 none : Cond) ∈ lw_good := List.mem_filter.mpr ⟨List.mem_of_getElem? (i := 296) rfl, rfl⟩
theorem zw_295 : (Cond.instanceMethod yX4_init : Cond) ∈ lw_good := List.mem_filter.mpr ⟨List.mem_of_getElem? (i := 295) (by decide +kernel), rfl⟩
theorem zw_297 : (Cond.methodLink RX4 3 objectInit : Cond) ∈ lw_good := List.mem_filter.mpr ⟨List.mem_of_getElem? (i := 297) (by decide +kernel), rfl⟩
theorem zw_298 : (Cond.fieldLink RX4 9 "BunchRace$RaceLog" "metres" "[I" : Cond) ∈ lw_good := List.mem_filter.mpr ⟨List.mem_of_getElem? (i := 298) (by decide +kernel), rfl⟩
theorem zw_300 : (Cond.fieldLink RX4 15 "BunchRace$RaceLog" "groups" "[I" : Cond) ∈ lw_good := List.mem_filter.mpr ⟨List.mem_of_getElem? (i := 300) (by decide +kernel), rfl⟩
set_option maxRecDepth 100000 in
theorem zw_539 : (Cond.code yX4_note cX4_note 4 none : Cond) ∈ lw_good := List.mem_filter.mpr ⟨List.mem_of_getElem? (i := 539) rfl, rfl⟩
theorem zw_537 : (Cond.instanceMethod yX4_note : Cond) ∈ lw_good := List.mem_filter.mpr ⟨List.mem_of_getElem? (i := 537) (by decide +kernel), rfl⟩
theorem zw_538 : (Cond.selects RX4 yX4_note yX4_note : Cond) ∈ lw_good := List.mem_filter.mpr ⟨List.mem_of_getElem? (i := 538) (by decide +kernel), rfl⟩
theorem zw_230 : (Cond.fieldLink RX4 18 "BunchRace$Race" "minute" "I" : Cond) ∈ lw_good := List.mem_filter.mpr ⟨List.mem_of_getElem? (i := 230) (by decide +kernel), rfl⟩
theorem zw_241 : (Cond.fieldLink RX4 24 "BunchRace$Race" "metres" "[I" : Cond) ∈ lw_good := List.mem_filter.mpr ⟨List.mem_of_getElem? (i := 241) (by decide +kernel), rfl⟩
theorem zw_257 : (Cond.fieldLink RX4 25 "BunchRace$Race" "bunches" "LBunchRace$Bunches;" : Cond) ∈ lw_good := List.mem_filter.mpr ⟨List.mem_of_getElem? (i := 257) (by decide +kernel), rfl⟩
theorem zw_210 : (Cond.fieldLink RX4 29 "BunchRace$Bunches" "number" "I" : Cond) ∈ lw_good := List.mem_filter.mpr ⟨List.mem_of_getElem? (i := 210) (by decide +kernel), rfl⟩
set_option maxRecDepth 100000 in
theorem zw_72 : (Cond.code yX5_init cX5_init 1 none : Cond) ∈ lw_good := List.mem_filter.mpr ⟨List.mem_of_getElem? (i := 72) rfl, rfl⟩
theorem zw_71 : (Cond.instanceMethod yX5_init : Cond) ∈ lw_good := List.mem_filter.mpr ⟨List.mem_of_getElem? (i := 71) (by decide +kernel), rfl⟩
theorem zw_73 : (Cond.methodLink RX5 3 objectInit : Cond) ∈ lw_good := List.mem_filter.mpr ⟨List.mem_of_getElem? (i := 73) (by decide +kernel), rfl⟩
theorem zw_74 : (Cond.fieldLink RX5 9 "BunchRace$Riders" "number" "I" : Cond) ∈ lw_good := List.mem_filter.mpr ⟨List.mem_of_getElem? (i := 74) (by decide +kernel), rfl⟩
theorem zw_78 : (Cond.fieldLink RX5 15 "BunchRace$Riders" "teams" "[I" : Cond) ∈ lw_good := List.mem_filter.mpr ⟨List.mem_of_getElem? (i := 78) (by decide +kernel), rfl⟩
theorem zw_81 : (Cond.fieldLink RX5 19 "BunchRace$Riders" "steady" "[I" : Cond) ∈ lw_good := List.mem_filter.mpr ⟨List.mem_of_getElem? (i := 81) (by decide +kernel), rfl⟩
theorem zw_83 : (Cond.fieldLink RX5 22 "BunchRace$Riders" "full" "[I" : Cond) ∈ lw_good := List.mem_filter.mpr ⟨List.mem_of_getElem? (i := 83) (by decide +kernel), rfl⟩
theorem zw_85 : (Cond.fieldLink RX5 25 "BunchRace$Riders" "climb" "[I" : Cond) ∈ lw_good := List.mem_filter.mpr ⟨List.mem_of_getElem? (i := 85) (by decide +kernel), rfl⟩
set_option maxRecDepth 100000 in
theorem zw_378 : (Cond.code yX5_add cX5_add 5 (some .int) : Cond) ∈ lw_good := List.mem_filter.mpr ⟨List.mem_of_getElem? (i := 378) rfl, rfl⟩
theorem zw_376 : (Cond.instanceMethod yX5_add : Cond) ∈ lw_good := List.mem_filter.mpr ⟨List.mem_of_getElem? (i := 376) (by decide +kernel), rfl⟩
theorem zw_377 : (Cond.selects RX5 yX5_add yX5_add : Cond) ∈ lw_good := List.mem_filter.mpr ⟨List.mem_of_getElem? (i := 377) (by decide +kernel), rfl⟩
set_option maxRecDepth 100000 in
theorem zw_103 : (Cond.code yX6_init cX6_init 1 none : Cond) ∈ lw_good := List.mem_filter.mpr ⟨List.mem_of_getElem? (i := 103) rfl, rfl⟩
theorem zw_102 : (Cond.instanceMethod yX6_init : Cond) ∈ lw_good := List.mem_filter.mpr ⟨List.mem_of_getElem? (i := 102) (by decide +kernel), rfl⟩
theorem zw_104 : (Cond.methodLink RX6 3 objectInit : Cond) ∈ lw_good := List.mem_filter.mpr ⟨List.mem_of_getElem? (i := 104) (by decide +kernel), rfl⟩
theorem zw_105 : (Cond.fieldLink RX6 9 "BunchRace$Road" "kilometres" "I" : Cond) ∈ lw_good := List.mem_filter.mpr ⟨List.mem_of_getElem? (i := 105) (by decide +kernel), rfl⟩
theorem zw_107 : (Cond.fieldLink RX6 15 "BunchRace$Road" "rises" "[I" : Cond) ∈ lw_good := List.mem_filter.mpr ⟨List.mem_of_getElem? (i := 107) (by decide +kernel), rfl⟩
theorem zw_109 : (Cond.fieldLink RX6 19 "BunchRace$Road" "winds" "[I" : Cond) ∈ lw_good := List.mem_filter.mpr ⟨List.mem_of_getElem? (i := 109) (by decide +kernel), rfl⟩
theorem zw_111 : (Cond.fieldLink RX6 22 "BunchRace$Road" "primes" "I" : Cond) ∈ lw_good := List.mem_filter.mpr ⟨List.mem_of_getElem? (i := 111) (by decide +kernel), rfl⟩
theorem zw_114 : (Cond.fieldLink RX6 25 "BunchRace$Road" "primeMetres" "[I" : Cond) ∈ lw_good := List.mem_filter.mpr ⟨List.mem_of_getElem? (i := 114) (by decide +kernel), rfl⟩
theorem zw_116 : (Cond.fieldLink RX6 28 "BunchRace$Road" "crashMetre" "I" : Cond) ∈ lw_good := List.mem_filter.mpr ⟨List.mem_of_getElem? (i := 116) (by decide +kernel), rfl⟩
theorem zw_118 : (Cond.fieldLink RX6 31 "BunchRace$Road" "crashPart" "I" : Cond) ∈ lw_good := List.mem_filter.mpr ⟨List.mem_of_getElem? (i := 118) (by decide +kernel), rfl⟩
set_option maxRecDepth 100000 in
theorem zw_413 : (Cond.code yX6_length cX6_length 1 (some .int) : Cond) ∈ lw_good := List.mem_filter.mpr ⟨List.mem_of_getElem? (i := 413) rfl, rfl⟩
theorem zw_411 : (Cond.instanceMethod yX6_length : Cond) ∈ lw_good := List.mem_filter.mpr ⟨List.mem_of_getElem? (i := 411) (by decide +kernel), rfl⟩
theorem zw_412 : (Cond.selects RX6 yX6_length yX6_length : Cond) ∈ lw_good := List.mem_filter.mpr ⟨List.mem_of_getElem? (i := 412) (by decide +kernel), rfl⟩
set_option maxRecDepth 100000 in
theorem zw_409 : (Cond.code yX6_isBetweenEnds cX6_isBetweenEnds 2 (some .boolean) : Cond) ∈ lw_good := List.mem_filter.mpr ⟨List.mem_of_getElem? (i := 409) rfl, rfl⟩
theorem zw_407 : (Cond.instanceMethod yX6_isBetweenEnds : Cond) ∈ lw_good := List.mem_filter.mpr ⟨List.mem_of_getElem? (i := 407) (by decide +kernel), rfl⟩
theorem zw_408 : (Cond.selects RX6 yX6_isBetweenEnds yX6_isBetweenEnds : Cond) ∈ lw_good := List.mem_filter.mpr ⟨List.mem_of_getElem? (i := 408) (by decide +kernel), rfl⟩
theorem zw_410 : (Cond.methodLink RX6 34 yX6_length : Cond) ∈ lw_good := List.mem_filter.mpr ⟨List.mem_of_getElem? (i := 410) (by decide +kernel), rfl⟩
set_option maxRecDepth 100000 in
theorem zw_389 : (Cond.code yX6_renew cX6_renew 3 (some .boolean) : Cond) ∈ lw_good := List.mem_filter.mpr ⟨List.mem_of_getElem? (i := 389) rfl, rfl⟩
theorem zw_387 : (Cond.instanceMethod yX6_renew : Cond) ∈ lw_good := List.mem_filter.mpr ⟨List.mem_of_getElem? (i := 387) (by decide +kernel), rfl⟩
theorem zw_388 : (Cond.selects RX6 yX6_renew yX6_renew : Cond) ∈ lw_good := List.mem_filter.mpr ⟨List.mem_of_getElem? (i := 388) (by decide +kernel), rfl⟩
set_option maxRecDepth 100000 in
theorem zw_397 : (Cond.code yX6_shape cX6_shape 4 (some .boolean) : Cond) ∈ lw_good := List.mem_filter.mpr ⟨List.mem_of_getElem? (i := 397) rfl, rfl⟩
theorem zw_395 : (Cond.instanceMethod yX6_shape : Cond) ∈ lw_good := List.mem_filter.mpr ⟨List.mem_of_getElem? (i := 395) (by decide +kernel), rfl⟩
theorem zw_396 : (Cond.selects RX6 yX6_shape yX6_shape : Cond) ∈ lw_good := List.mem_filter.mpr ⟨List.mem_of_getElem? (i := 396) (by decide +kernel), rfl⟩
set_option maxRecDepth 100000 in
theorem zw_405 : (Cond.code yX6_addPrime cX6_addPrime 2 (some .int) : Cond) ∈ lw_good := List.mem_filter.mpr ⟨List.mem_of_getElem? (i := 405) rfl, rfl⟩
theorem zw_403 : (Cond.instanceMethod yX6_addPrime : Cond) ∈ lw_good := List.mem_filter.mpr ⟨List.mem_of_getElem? (i := 403) (by decide +kernel), rfl⟩
theorem zw_404 : (Cond.selects RX6 yX6_addPrime yX6_addPrime : Cond) ∈ lw_good := List.mem_filter.mpr ⟨List.mem_of_getElem? (i := 404) (by decide +kernel), rfl⟩
theorem zw_406 : (Cond.methodLink RX6 38 yX6_isBetweenEnds : Cond) ∈ lw_good := List.mem_filter.mpr ⟨List.mem_of_getElem? (i := 406) (by decide +kernel), rfl⟩
set_option maxRecDepth 100000 in
theorem zw_421 : (Cond.code yX6_putCrash cX6_putCrash 3 (some .boolean) : Cond) ∈ lw_good := List.mem_filter.mpr ⟨List.mem_of_getElem? (i := 421) rfl, rfl⟩
theorem zw_419 : (Cond.instanceMethod yX6_putCrash : Cond) ∈ lw_good := List.mem_filter.mpr ⟨List.mem_of_getElem? (i := 419) (by decide +kernel), rfl⟩
theorem zw_420 : (Cond.selects RX6 yX6_putCrash yX6_putCrash : Cond) ∈ lw_good := List.mem_filter.mpr ⟨List.mem_of_getElem? (i := 420) (by decide +kernel), rfl⟩
set_option maxRecDepth 100000 in
theorem zw_311 : (Cond.code yX7_init cX7_init 1 none : Cond) ∈ lw_good := List.mem_filter.mpr ⟨List.mem_of_getElem? (i := 311) rfl, rfl⟩
theorem zw_310 : (Cond.instanceMethod yX7_init : Cond) ∈ lw_good := List.mem_filter.mpr ⟨List.mem_of_getElem? (i := 310) (by decide +kernel), rfl⟩
theorem zw_312 : (Cond.methodLink RX7 3 objectInit : Cond) ∈ lw_good := List.mem_filter.mpr ⟨List.mem_of_getElem? (i := 312) (by decide +kernel), rfl⟩
theorem zw_313 : (Cond.fieldLink RX7 9 "BunchRace$Stages" "number" "I" : Cond) ∈ lw_good := List.mem_filter.mpr ⟨List.mem_of_getElem? (i := 313) (by decide +kernel), rfl⟩
theorem zw_315 : (Cond.fieldLink RX7 15 "BunchRace$Stages" "limit" "I" : Cond) ∈ lw_good := List.mem_filter.mpr ⟨List.mem_of_getElem? (i := 315) (by decide +kernel), rfl⟩
theorem zw_317 : (Cond.fieldLink RX7 18 "BunchRace$Stages" "totals" "[I" : Cond) ∈ lw_good := List.mem_filter.mpr ⟨List.mem_of_getElem? (i := 317) (by decide +kernel), rfl⟩
theorem zw_319 : (Cond.fieldLink RX7 22 "BunchRace$Stages" "points" "[I" : Cond) ∈ lw_good := List.mem_filter.mpr ⟨List.mem_of_getElem? (i := 319) (by decide +kernel), rfl⟩
theorem zw_321 : (Cond.fieldLink RX7 25 "BunchRace$Stages" "out" "[Z" : Cond) ∈ lw_good := List.mem_filter.mpr ⟨List.mem_of_getElem? (i := 321) (by decide +kernel), rfl⟩
set_option maxRecDepth 100000 in
theorem zw_652 : (Cond.code yX7_addStage cX7_addStage 8 none : Cond) ∈ lw_good := List.mem_filter.mpr ⟨List.mem_of_getElem? (i := 652) rfl, rfl⟩
theorem zw_650 : (Cond.instanceMethod yX7_addStage : Cond) ∈ lw_good := List.mem_filter.mpr ⟨List.mem_of_getElem? (i := 650) (by decide +kernel), rfl⟩
theorem zw_651 : (Cond.selects RX7 yX7_addStage yX7_addStage : Cond) ∈ lw_good := List.mem_filter.mpr ⟨List.mem_of_getElem? (i := 651) (by decide +kernel), rfl⟩
theorem zw_653 : (Cond.methodLink RX7 29 yX3_riderAt : Cond) ∈ lw_good := List.mem_filter.mpr ⟨List.mem_of_getElem? (i := 653) (by decide +kernel), rfl⟩
theorem zw_246 : (Cond.fieldLink RX7 35 "BunchRace$Race" "seconds" "[I" : Cond) ∈ lw_good := List.mem_filter.mpr ⟨List.mem_of_getElem? (i := 246) (by decide +kernel), rfl⟩
theorem zw_654 : (Cond.methodLink RX7 38 yX3_primePointsOf : Cond) ∈ lw_good := List.mem_filter.mpr ⟨List.mem_of_getElem? (i := 654) (by decide +kernel), rfl⟩
theorem zw_655 : (Cond.methodLink RX7 41 yX3_placeOf : Cond) ∈ lw_good := List.mem_filter.mpr ⟨List.mem_of_getElem? (i := 655) (by decide +kernel), rfl⟩
theorem zw_656 : (Cond.methodLink RX7 44 yX7_stagePoints : Cond) ∈ lw_good := List.mem_filter.mpr ⟨List.mem_of_getElem? (i := 656) (by decide +kernel), rfl⟩
set_option maxRecDepth 100000 in
theorem zw_658 : (Cond.code yX7_stagePoints cX7_stagePoints 1 (some .int) : Cond) ∈ lw_good := List.mem_filter.mpr ⟨List.mem_of_getElem? (i := 658) rfl, rfl⟩
theorem zw_657 : (Cond.static yX7_stagePoints : Cond) ∈ lw_good := List.mem_filter.mpr ⟨List.mem_of_getElem? (i := 657) (by decide +kernel), rfl⟩
set_option maxRecDepth 100000 in
theorem zw_730 : (Cond.code yX7_howManyOut cX7_howManyOut 4 (some .int) : Cond) ∈ lw_good := List.mem_filter.mpr ⟨List.mem_of_getElem? (i := 730) rfl, rfl⟩
theorem zw_728 : (Cond.instanceMethod yX7_howManyOut : Cond) ∈ lw_good := List.mem_filter.mpr ⟨List.mem_of_getElem? (i := 728) (by decide +kernel), rfl⟩
theorem zw_729 : (Cond.selects RX7 yX7_howManyOut yX7_howManyOut : Cond) ∈ lw_good := List.mem_filter.mpr ⟨List.mem_of_getElem? (i := 729) (by decide +kernel), rfl⟩
set_option maxRecDepth 100000 in
theorem zw_672 : (Cond.code yX7_standingOf cX7_standingOf 5 (some .int) : Cond) ∈ lw_good := List.mem_filter.mpr ⟨List.mem_of_getElem? (i := 672) rfl, rfl⟩
theorem zw_670 : (Cond.instanceMethod yX7_standingOf : Cond) ∈ lw_good := List.mem_filter.mpr ⟨List.mem_of_getElem? (i := 670) (by decide +kernel), rfl⟩
theorem zw_671 : (Cond.selects RX7 yX7_standingOf yX7_standingOf : Cond) ∈ lw_good := List.mem_filter.mpr ⟨List.mem_of_getElem? (i := 671) (by decide +kernel), rfl⟩
theorem zw_673 : (Cond.methodLink RX7 50 yX7_standsAhead : Cond) ∈ lw_good := List.mem_filter.mpr ⟨List.mem_of_getElem? (i := 673) (by decide +kernel), rfl⟩
set_option maxRecDepth 100000 in
theorem zw_676 : (Cond.code yX7_standsAhead cX7_standsAhead 3 (some .boolean) : Cond) ∈ lw_good := List.mem_filter.mpr ⟨List.mem_of_getElem? (i := 676) rfl, rfl⟩
theorem zw_675 : (Cond.instanceMethod yX7_standsAhead : Cond) ∈ lw_good := List.mem_filter.mpr ⟨List.mem_of_getElem? (i := 675) (by decide +kernel), rfl⟩
theorem zw_18 : (Cond.selects RX7 yX7_standsAhead yX7_standsAhead : Cond) ∈ lw_good := List.mem_filter.mpr ⟨List.mem_of_getElem? (i := 18) (by decide +kernel), rfl⟩
set_option maxRecDepth 100000 in
theorem zw_684 : (Cond.code yX7_lowestThreeOf cX7_lowestThreeOf 6 (some .int) : Cond) ∈ lw_good := List.mem_filter.mpr ⟨List.mem_of_getElem? (i := 684) rfl, rfl⟩
theorem zw_682 : (Cond.instanceMethod yX7_lowestThreeOf : Cond) ∈ lw_good := List.mem_filter.mpr ⟨List.mem_of_getElem? (i := 682) (by decide +kernel), rfl⟩
theorem zw_683 : (Cond.selects RX7 yX7_lowestThreeOf yX7_lowestThreeOf : Cond) ∈ lw_good := List.mem_filter.mpr ⟨List.mem_of_getElem? (i := 683) (by decide +kernel), rfl⟩
theorem zw_76 : (Cond.fieldLink RX7 54 "BunchRace$Riders" "number" "I" : Cond) ∈ lw_good := List.mem_filter.mpr ⟨List.mem_of_getElem? (i := 76) (by decide +kernel), rfl⟩
theorem zw_685 : (Cond.methodLink RX7 57 yX7_countsFor : Cond) ∈ lw_good := List.mem_filter.mpr ⟨List.mem_of_getElem? (i := 685) (by decide +kernel), rfl⟩
theorem zw_689 : (Cond.methodLink RX7 61 yX7_matesAhead : Cond) ∈ lw_good := List.mem_filter.mpr ⟨List.mem_of_getElem? (i := 689) (by decide +kernel), rfl⟩
set_option maxRecDepth 100000 in
theorem zw_688 : (Cond.code yX7_countsFor cX7_countsFor 4 (some .boolean) : Cond) ∈ lw_good := List.mem_filter.mpr ⟨List.mem_of_getElem? (i := 688) rfl, rfl⟩
theorem zw_687 : (Cond.instanceMethod yX7_countsFor : Cond) ∈ lw_good := List.mem_filter.mpr ⟨List.mem_of_getElem? (i := 687) (by decide +kernel), rfl⟩
theorem zw_19 : (Cond.selects RX7 yX7_countsFor yX7_countsFor : Cond) ∈ lw_good := List.mem_filter.mpr ⟨List.mem_of_getElem? (i := 19) (by decide +kernel), rfl⟩
theorem zw_80 : (Cond.fieldLink RX7 65 "BunchRace$Riders" "teams" "[I" : Cond) ∈ lw_good := List.mem_filter.mpr ⟨List.mem_of_getElem? (i := 80) (by decide +kernel), rfl⟩
set_option maxRecDepth 100000 in
theorem zw_692 : (Cond.code yX7_matesAhead cX7_matesAhead 6 (some .int) : Cond) ∈ lw_good := List.mem_filter.mpr ⟨List.mem_of_getElem? (i := 692) rfl, rfl⟩
theorem zw_691 : (Cond.instanceMethod yX7_matesAhead : Cond) ∈ lw_good := List.mem_filter.mpr ⟨List.mem_of_getElem? (i := 691) (by decide +kernel), rfl⟩
theorem zw_20 : (Cond.selects RX7 yX7_matesAhead yX7_matesAhead : Cond) ∈ lw_good := List.mem_filter.mpr ⟨List.mem_of_getElem? (i := 20) (by decide +kernel), rfl⟩
set_option maxRecDepth 100000 in
theorem zw_139 : (Cond.code yX8_init cX8_init 1 none : Cond) ∈ lw_good := List.mem_filter.mpr ⟨List.mem_of_getElem? (i := 139) rfl, rfl⟩
theorem zw_138 : (Cond.instanceMethod yX8_init : Cond) ∈ lw_good := List.mem_filter.mpr ⟨List.mem_of_getElem? (i := 138) (by decide +kernel), rfl⟩
theorem zw_140 : (Cond.methodLink RX8 3 objectInit : Cond) ∈ lw_good := List.mem_filter.mpr ⟨List.mem_of_getElem? (i := 140) (by decide +kernel), rfl⟩
theorem zw_141 : (Cond.fieldLink RX8 9 "BunchRace$Tape" "length" "I" : Cond) ∈ lw_good := List.mem_filter.mpr ⟨List.mem_of_getElem? (i := 141) (by decide +kernel), rfl⟩
theorem zw_144 : (Cond.fieldLink RX8 15 "BunchRace$Tape" "bytes" "[I" : Cond) ∈ lw_good := List.mem_filter.mpr ⟨List.mem_of_getElem? (i := 144) (by decide +kernel), rfl⟩
set_option maxRecDepth 100000 in
theorem zw_433 : (Cond.code yX8_byteOf cX8_byteOf 3 (some .int) : Cond) ∈ lw_good := List.mem_filter.mpr ⟨List.mem_of_getElem? (i := 433) rfl, rfl⟩
theorem zw_431 : (Cond.instanceMethod yX8_byteOf : Cond) ∈ lw_good := List.mem_filter.mpr ⟨List.mem_of_getElem? (i := 431) (by decide +kernel), rfl⟩
theorem zw_432 : (Cond.selects RX8 yX8_byteOf yX8_byteOf : Cond) ∈ lw_good := List.mem_filter.mpr ⟨List.mem_of_getElem? (i := 432) (by decide +kernel), rfl⟩
set_option maxRecDepth 100000 in
theorem zw_429 : (Cond.code yX8_bytesIn cX8_bytesIn 4 (some .int) : Cond) ∈ lw_good := List.mem_filter.mpr ⟨List.mem_of_getElem? (i := 429) rfl, rfl⟩
theorem zw_427 : (Cond.instanceMethod yX8_bytesIn : Cond) ∈ lw_good := List.mem_filter.mpr ⟨List.mem_of_getElem? (i := 427) (by decide +kernel), rfl⟩
theorem zw_428 : (Cond.selects RX8 yX8_bytesIn yX8_bytesIn : Cond) ∈ lw_good := List.mem_filter.mpr ⟨List.mem_of_getElem? (i := 428) (by decide +kernel), rfl⟩
theorem zw_430 : (Cond.methodLink RX8 19 yX8_byteOf : Cond) ∈ lw_good := List.mem_filter.mpr ⟨List.mem_of_getElem? (i := 430) (by decide +kernel), rfl⟩
set_option maxRecDepth 100000 in
theorem zw_437 : (Cond.code yX8_append cX8_append 4 none : Cond) ∈ lw_good := List.mem_filter.mpr ⟨List.mem_of_getElem? (i := 437) rfl, rfl⟩
theorem zw_435 : (Cond.instanceMethod yX8_append : Cond) ∈ lw_good := List.mem_filter.mpr ⟨List.mem_of_getElem? (i := 435) (by decide +kernel), rfl⟩
theorem zw_436 : (Cond.selects RX8 yX8_append yX8_append : Cond) ∈ lw_good := List.mem_filter.mpr ⟨List.mem_of_getElem? (i := 436) (by decide +kernel), rfl⟩
set_option maxRecDepth 100000 in
theorem zw_64 : (Cond.code yX9_init cX9_init 1 none : Cond) ∈ lw_good := List.mem_filter.mpr ⟨List.mem_of_getElem? (i := 64) rfl, rfl⟩
theorem zw_63 : (Cond.instanceMethod yX9_init : Cond) ∈ lw_good := List.mem_filter.mpr ⟨List.mem_of_getElem? (i := 63) (by decide +kernel), rfl⟩
theorem zw_65 : (Cond.methodLink RX9 3 objectInit : Cond) ∈ lw_good := List.mem_filter.mpr ⟨List.mem_of_getElem? (i := 65) (by decide +kernel), rfl⟩
theorem zw_68 : (Cond.classLink RX9 9 RX5 : Cond) ∈ lw_good := List.mem_filter.mpr ⟨List.mem_of_getElem? (i := 68) (by decide +kernel), rfl⟩
theorem zw_334 : (Cond.fieldLink RX9 12 "BunchRace" "riders" "LBunchRace$Riders;" : Cond) ∈ lw_good := List.mem_filter.mpr ⟨List.mem_of_getElem? (i := 334) (by decide +kernel), rfl⟩
theorem zw_99 : (Cond.classLink RX9 16 RX6 : Cond) ∈ lw_good := List.mem_filter.mpr ⟨List.mem_of_getElem? (i := 99) (by decide +kernel), rfl⟩
theorem zw_335 : (Cond.fieldLink RX9 19 "BunchRace" "road" "LBunchRace$Road;" : Cond) ∈ lw_good := List.mem_filter.mpr ⟨List.mem_of_getElem? (i := 335) (by decide +kernel), rfl⟩
theorem zw_135 : (Cond.classLink RX9 23 RX8 : Cond) ∈ lw_good := List.mem_filter.mpr ⟨List.mem_of_getElem? (i := 135) (by decide +kernel), rfl⟩
theorem zw_336 : (Cond.fieldLink RX9 26 "BunchRace" "tape" "LBunchRace$Tape;" : Cond) ∈ lw_good := List.mem_filter.mpr ⟨List.mem_of_getElem? (i := 336) (by decide +kernel), rfl⟩
theorem zw_151 : (Cond.classLink RX9 30 RX1 : Cond) ∈ lw_good := List.mem_filter.mpr ⟨List.mem_of_getElem? (i := 151) (by decide +kernel), rfl⟩
theorem zw_337 : (Cond.fieldLink RX9 33 "BunchRace" "book" "LBunchRace$OrderBook;" : Cond) ∈ lw_good := List.mem_filter.mpr ⟨List.mem_of_getElem? (i := 337) (by decide +kernel), rfl⟩
theorem zw_173 : (Cond.classLink RX9 37 RX2 : Cond) ∈ lw_good := List.mem_filter.mpr ⟨List.mem_of_getElem? (i := 173) (by decide +kernel), rfl⟩
theorem zw_338 : (Cond.fieldLink RX9 40 "BunchRace" "reader" "LBunchRace$OrderReader;" : Cond) ∈ lw_good := List.mem_filter.mpr ⟨List.mem_of_getElem? (i := 338) (by decide +kernel), rfl⟩
theorem zw_195 : (Cond.classLink RX9 44 RX3 : Cond) ∈ lw_good := List.mem_filter.mpr ⟨List.mem_of_getElem? (i := 195) (by decide +kernel), rfl⟩
theorem zw_339 : (Cond.fieldLink RX9 47 "BunchRace" "latest" "LBunchRace$Race;" : Cond) ∈ lw_good := List.mem_filter.mpr ⟨List.mem_of_getElem? (i := 339) (by decide +kernel), rfl⟩
theorem zw_292 : (Cond.classLink RX9 51 RX4 : Cond) ∈ lw_good := List.mem_filter.mpr ⟨List.mem_of_getElem? (i := 292) (by decide +kernel), rfl⟩
theorem zw_340 : (Cond.fieldLink RX9 54 "BunchRace" "log" "LBunchRace$RaceLog;" : Cond) ∈ lw_good := List.mem_filter.mpr ⟨List.mem_of_getElem? (i := 340) (by decide +kernel), rfl⟩
theorem zw_341 : (Cond.fieldLink RX9 58 "BunchRace" "trial" "LBunchRace$Race;" : Cond) ∈ lw_good := List.mem_filter.mpr ⟨List.mem_of_getElem? (i := 341) (by decide +kernel), rfl⟩
theorem zw_307 : (Cond.classLink RX9 61 RX7 : Cond) ∈ lw_good := List.mem_filter.mpr ⟨List.mem_of_getElem? (i := 307) (by decide +kernel), rfl⟩
theorem zw_342 : (Cond.fieldLink RX9 64 "BunchRace" "stages" "LBunchRace$Stages;" : Cond) ∈ lw_good := List.mem_filter.mpr ⟨List.mem_of_getElem? (i := 342) (by decide +kernel), rfl⟩
theorem zw_343 : (Cond.fieldLink RX9 68 "BunchRace" "choices" "I" : Cond) ∈ lw_good := List.mem_filter.mpr ⟨List.mem_of_getElem? (i := 343) (by decide +kernel), rfl⟩
theorem zw_344 : (Cond.fieldLink RX9 72 "BunchRace" "raced" "Z" : Cond) ∈ lw_good := List.mem_filter.mpr ⟨List.mem_of_getElem? (i := 344) (by decide +kernel), rfl⟩
theorem zw_345 : (Cond.fieldLink RX9 76 "BunchRace" "kept" "Z" : Cond) ∈ lw_good := List.mem_filter.mpr ⟨List.mem_of_getElem? (i := 345) (by decide +kernel), rfl⟩
set_option maxRecDepth 100000 in
theorem zw_374 : (Cond.code yX9_rider cX9_rider 5 (some .int) : Cond) ∈ lw_good := List.mem_filter.mpr ⟨List.mem_of_getElem? (i := 374) rfl, rfl⟩
theorem zw_372 : (Cond.instanceMethod yX9_rider : Cond) ∈ lw_good := List.mem_filter.mpr ⟨List.mem_of_getElem? (i := 372) (by decide +kernel), rfl⟩
theorem zw_373 : (Cond.selects RX9 yX9_rider yX9_rider : Cond) ∈ lw_good := List.mem_filter.mpr ⟨List.mem_of_getElem? (i := 373) (by decide +kernel), rfl⟩
theorem zw_314 : (Cond.fieldLink RX9 79 "BunchRace$Stages" "number" "I" : Cond) ∈ lw_good := List.mem_filter.mpr ⟨List.mem_of_getElem? (i := 314) (by decide +kernel), rfl⟩
theorem zw_375 : (Cond.methodLink RX9 82 yX5_add : Cond) ∈ lw_good := List.mem_filter.mpr ⟨List.mem_of_getElem? (i := 375) (by decide +kernel), rfl⟩
set_option maxRecDepth 100000 in
theorem zw_385 : (Cond.code yX9_road cX9_road 2 (some .boolean) : Cond) ∈ lw_good := List.mem_filter.mpr ⟨List.mem_of_getElem? (i := 385) rfl, rfl⟩
theorem zw_383 : (Cond.instanceMethod yX9_road : Cond) ∈ lw_good := List.mem_filter.mpr ⟨List.mem_of_getElem? (i := 383) (by decide +kernel), rfl⟩
theorem zw_384 : (Cond.selects RX9 yX9_road yX9_road : Cond) ∈ lw_good := List.mem_filter.mpr ⟨List.mem_of_getElem? (i := 384) (by decide +kernel), rfl⟩
theorem zw_386 : (Cond.methodLink RX9 86 yX6_renew : Cond) ∈ lw_good := List.mem_filter.mpr ⟨List.mem_of_getElem? (i := 386) (by decide +kernel), rfl⟩
set_option maxRecDepth 100000 in
theorem zw_393 : (Cond.code yX9_rise cX9_rise 4 (some .boolean) : Cond) ∈ lw_good := List.mem_filter.mpr ⟨List.mem_of_getElem? (i := 393) rfl, rfl⟩
theorem zw_391 : (Cond.instanceMethod yX9_rise : Cond) ∈ lw_good := List.mem_filter.mpr ⟨List.mem_of_getElem? (i := 391) (by decide +kernel), rfl⟩
theorem zw_392 : (Cond.selects RX9 yX9_rise yX9_rise : Cond) ∈ lw_good := List.mem_filter.mpr ⟨List.mem_of_getElem? (i := 392) (by decide +kernel), rfl⟩
theorem zw_394 : (Cond.methodLink RX9 90 yX6_shape : Cond) ∈ lw_good := List.mem_filter.mpr ⟨List.mem_of_getElem? (i := 394) (by decide +kernel), rfl⟩
set_option maxRecDepth 100000 in
theorem zw_401 : (Cond.code yX9_prime cX9_prime 2 (some .int) : Cond) ∈ lw_good := List.mem_filter.mpr ⟨List.mem_of_getElem? (i := 401) rfl, rfl⟩
theorem zw_399 : (Cond.instanceMethod yX9_prime : Cond) ∈ lw_good := List.mem_filter.mpr ⟨List.mem_of_getElem? (i := 399) (by decide +kernel), rfl⟩
theorem zw_400 : (Cond.selects RX9 yX9_prime yX9_prime : Cond) ∈ lw_good := List.mem_filter.mpr ⟨List.mem_of_getElem? (i := 400) (by decide +kernel), rfl⟩
theorem zw_402 : (Cond.methodLink RX9 94 yX6_addPrime : Cond) ∈ lw_good := List.mem_filter.mpr ⟨List.mem_of_getElem? (i := 402) (by decide +kernel), rfl⟩
set_option maxRecDepth 100000 in
theorem zw_417 : (Cond.code yX9_crash cX9_crash 3 (some .boolean) : Cond) ∈ lw_good := List.mem_filter.mpr ⟨List.mem_of_getElem? (i := 417) rfl, rfl⟩
theorem zw_415 : (Cond.instanceMethod yX9_crash : Cond) ∈ lw_good := List.mem_filter.mpr ⟨List.mem_of_getElem? (i := 415) (by decide +kernel), rfl⟩
theorem zw_416 : (Cond.selects RX9 yX9_crash yX9_crash : Cond) ∈ lw_good := List.mem_filter.mpr ⟨List.mem_of_getElem? (i := 416) (by decide +kernel), rfl⟩
theorem zw_418 : (Cond.methodLink RX9 98 yX6_putCrash : Cond) ∈ lw_good := List.mem_filter.mpr ⟨List.mem_of_getElem? (i := 418) (by decide +kernel), rfl⟩
set_option maxRecDepth 100000 in
theorem zw_425 : (Cond.code yX9_feed cX9_feed 7 (some .int) : Cond) ∈ lw_good := List.mem_filter.mpr ⟨List.mem_of_getElem? (i := 425) rfl, rfl⟩
theorem zw_423 : (Cond.instanceMethod yX9_feed : Cond) ∈ lw_good := List.mem_filter.mpr ⟨List.mem_of_getElem? (i := 423) (by decide +kernel), rfl⟩
theorem zw_424 : (Cond.selects RX9 yX9_feed yX9_feed : Cond) ∈ lw_good := List.mem_filter.mpr ⟨List.mem_of_getElem? (i := 424) (by decide +kernel), rfl⟩
theorem zw_426 : (Cond.methodLink RX9 102 yX8_bytesIn : Cond) ∈ lw_good := List.mem_filter.mpr ⟨List.mem_of_getElem? (i := 426) (by decide +kernel), rfl⟩
theorem zw_143 : (Cond.fieldLink RX9 105 "BunchRace$Tape" "length" "I" : Cond) ∈ lw_good := List.mem_filter.mpr ⟨List.mem_of_getElem? (i := 143) (by decide +kernel), rfl⟩
theorem zw_434 : (Cond.methodLink RX9 108 yX8_append : Cond) ∈ lw_good := List.mem_filter.mpr ⟨List.mem_of_getElem? (i := 434) (by decide +kernel), rfl⟩
set_option maxRecDepth 100000 in
theorem zw_441 : (Cond.code yX9_end cX9_end 2 (some .boolean) : Cond) ∈ lw_good := List.mem_filter.mpr ⟨List.mem_of_getElem? (i := 441) rfl, rfl⟩
theorem zw_439 : (Cond.instanceMethod yX9_end : Cond) ∈ lw_good := List.mem_filter.mpr ⟨List.mem_of_getElem? (i := 439) (by decide +kernel), rfl⟩
theorem zw_440 : (Cond.selects RX9 yX9_end yX9_end : Cond) ∈ lw_good := List.mem_filter.mpr ⟨List.mem_of_getElem? (i := 440) (by decide +kernel), rfl⟩
set_option maxRecDepth 100000 in
theorem zw_445 : (Cond.code yX9_fault cX9_fault 1 (some .int) : Cond) ∈ lw_good := List.mem_filter.mpr ⟨List.mem_of_getElem? (i := 445) rfl, rfl⟩
theorem zw_443 : (Cond.instanceMethod yX9_fault : Cond) ∈ lw_good := List.mem_filter.mpr ⟨List.mem_of_getElem? (i := 443) (by decide +kernel), rfl⟩
theorem zw_444 : (Cond.selects RX9 yX9_fault yX9_fault : Cond) ∈ lw_good := List.mem_filter.mpr ⟨List.mem_of_getElem? (i := 444) (by decide +kernel), rfl⟩
theorem zw_446 : (Cond.methodLink RX9 112 yX2_faultOf : Cond) ∈ lw_good := List.mem_filter.mpr ⟨List.mem_of_getElem? (i := 446) (by decide +kernel), rfl⟩
set_option maxRecDepth 100000 in
theorem zw_495 : (Cond.code yX9_orders cX9_orders 2 (some .boolean) : Cond) ∈ lw_good := List.mem_filter.mpr ⟨List.mem_of_getElem? (i := 495) rfl, rfl⟩
theorem zw_493 : (Cond.instanceMethod yX9_orders : Cond) ∈ lw_good := List.mem_filter.mpr ⟨List.mem_of_getElem? (i := 493) (by decide +kernel), rfl⟩
theorem zw_494 : (Cond.selects RX9 yX9_orders yX9_orders : Cond) ∈ lw_good := List.mem_filter.mpr ⟨List.mem_of_getElem? (i := 494) (by decide +kernel), rfl⟩
theorem zw_496 : (Cond.methodLink RX9 116 yX9_isTeam : Cond) ∈ lw_good := List.mem_filter.mpr ⟨List.mem_of_getElem? (i := 496) (by decide +kernel), rfl⟩
theorem zw_497 : (Cond.methodLink RX9 119 yX1_takeDraft : Cond) ∈ lw_good := List.mem_filter.mpr ⟨List.mem_of_getElem? (i := 497) (by decide +kernel), rfl⟩
set_option maxRecDepth 100000 in
theorem zw_504 : (Cond.code yX9_choice cX9_choice 1 (some .int) : Cond) ∈ lw_good := List.mem_filter.mpr ⟨List.mem_of_getElem? (i := 504) rfl, rfl⟩
theorem zw_502 : (Cond.instanceMethod yX9_choice : Cond) ∈ lw_good := List.mem_filter.mpr ⟨List.mem_of_getElem? (i := 502) (by decide +kernel), rfl⟩
theorem zw_503 : (Cond.selects RX9 yX9_choice yX9_choice : Cond) ∈ lw_good := List.mem_filter.mpr ⟨List.mem_of_getElem? (i := 503) (by decide +kernel), rfl⟩
set_option maxRecDepth 100000 in
theorem zw_508 : (Cond.code yX9_race cX9_race 4 (some .int) : Cond) ∈ lw_good := List.mem_filter.mpr ⟨List.mem_of_getElem? (i := 508) rfl, rfl⟩
theorem zw_506 : (Cond.instanceMethod yX9_race : Cond) ∈ lw_good := List.mem_filter.mpr ⟨List.mem_of_getElem? (i := 506) (by decide +kernel), rfl⟩
theorem zw_507 : (Cond.selects RX9 yX9_race yX9_race : Cond) ∈ lw_good := List.mem_filter.mpr ⟨List.mem_of_getElem? (i := 507) (by decide +kernel), rfl⟩
theorem zw_77 : (Cond.fieldLink RX9 122 "BunchRace$Riders" "number" "I" : Cond) ∈ lw_good := List.mem_filter.mpr ⟨List.mem_of_getElem? (i := 77) (by decide +kernel), rfl⟩
theorem zw_322 : (Cond.fieldLink RX9 123 "BunchRace$Stages" "out" "[Z" : Cond) ∈ lw_good := List.mem_filter.mpr ⟨List.mem_of_getElem? (i := 322) (by decide +kernel), rfl⟩
theorem zw_509 : (Cond.methodLink RX9 127 yX3_begin : Cond) ∈ lw_good := List.mem_filter.mpr ⟨List.mem_of_getElem? (i := 509) (by decide +kernel), rfl⟩
theorem zw_536 : (Cond.methodLink RX9 131 yX4_note : Cond) ∈ lw_good := List.mem_filter.mpr ⟨List.mem_of_getElem? (i := 536) (by decide +kernel), rfl⟩
theorem zw_233 : (Cond.fieldLink RX9 135 "BunchRace$Race" "left" "I" : Cond) ∈ lw_good := List.mem_filter.mpr ⟨List.mem_of_getElem? (i := 233) (by decide +kernel), rfl⟩
theorem zw_540 : (Cond.methodLink RX9 138 yX3_rideMinute : Cond) ∈ lw_good := List.mem_filter.mpr ⟨List.mem_of_getElem? (i := 540) (by decide +kernel), rfl⟩
theorem zw_231 : (Cond.fieldLink RX9 142 "BunchRace$Race" "minute" "I" : Cond) ∈ lw_good := List.mem_filter.mpr ⟨List.mem_of_getElem? (i := 231) (by decide +kernel), rfl⟩
set_option maxRecDepth 100000 in
theorem zw_598 : (Cond.code yX9_told cX9_told 3 (some .int) : Cond) ∈ lw_good := List.mem_filter.mpr ⟨List.mem_of_getElem? (i := 598) rfl, rfl⟩
theorem zw_596 : (Cond.instanceMethod yX9_told : Cond) ∈ lw_good := List.mem_filter.mpr ⟨List.mem_of_getElem? (i := 596) (by decide +kernel), rfl⟩
theorem zw_597 : (Cond.selects RX9 yX9_told yX9_told : Cond) ∈ lw_good := List.mem_filter.mpr ⟨List.mem_of_getElem? (i := 597) (by decide +kernel), rfl⟩
theorem zw_599 : (Cond.methodLink RX9 145 yX9_rodeLatest : Cond) ∈ lw_good := List.mem_filter.mpr ⟨List.mem_of_getElem? (i := 599) (by decide +kernel), rfl⟩
theorem zw_247 : (Cond.fieldLink RX9 148 "BunchRace$Race" "seconds" "[I" : Cond) ∈ lw_good := List.mem_filter.mpr ⟨List.mem_of_getElem? (i := 247) (by decide +kernel), rfl⟩
theorem zw_603 : (Cond.methodLink RX9 152 yX3_placeOf : Cond) ∈ lw_good := List.mem_filter.mpr ⟨List.mem_of_getElem? (i := 603) (by decide +kernel), rfl⟩
theorem zw_242 : (Cond.fieldLink RX9 155 "BunchRace$Race" "metres" "[I" : Cond) ∈ lw_good := List.mem_filter.mpr ⟨List.mem_of_getElem? (i := 242) (by decide +kernel), rfl⟩
theorem zw_244 : (Cond.fieldLink RX9 158 "BunchRace$Race" "store" "[I" : Cond) ∈ lw_good := List.mem_filter.mpr ⟨List.mem_of_getElem? (i := 244) (by decide +kernel), rfl⟩
theorem zw_610 : (Cond.methodLink RX9 161 yX3_primePointsOf : Cond) ∈ lw_good := List.mem_filter.mpr ⟨List.mem_of_getElem? (i := 610) (by decide +kernel), rfl⟩
theorem zw_249 : (Cond.fieldLink RX9 164 "BunchRace$Race" "timesHeld" "[I" : Cond) ∈ lw_good := List.mem_filter.mpr ⟨List.mem_of_getElem? (i := 249) (by decide +kernel), rfl⟩
theorem zw_251 : (Cond.fieldLink RX9 167 "BunchRace$Race" "work" "[I" : Cond) ∈ lw_good := List.mem_filter.mpr ⟨List.mem_of_getElem? (i := 251) (by decide +kernel), rfl⟩
set_option maxRecDepth 100000 in
theorem zw_617 : (Cond.code yX9_at cX9_at 2 (some .int) : Cond) ∈ lw_good := List.mem_filter.mpr ⟨List.mem_of_getElem? (i := 617) rfl, rfl⟩
theorem zw_615 : (Cond.instanceMethod yX9_at : Cond) ∈ lw_good := List.mem_filter.mpr ⟨List.mem_of_getElem? (i := 615) (by decide +kernel), rfl⟩
theorem zw_616 : (Cond.selects RX9 yX9_at yX9_at : Cond) ∈ lw_good := List.mem_filter.mpr ⟨List.mem_of_getElem? (i := 616) (by decide +kernel), rfl⟩
theorem zw_618 : (Cond.methodLink RX9 170 yX3_riderAt : Cond) ∈ lw_good := List.mem_filter.mpr ⟨List.mem_of_getElem? (i := 618) (by decide +kernel), rfl⟩
set_option maxRecDepth 100000 in
theorem zw_628 : (Cond.code yX9_passed cX9_passed 3 (some .int) : Cond) ∈ lw_good := List.mem_filter.mpr ⟨List.mem_of_getElem? (i := 628) rfl, rfl⟩
theorem zw_626 : (Cond.instanceMethod yX9_passed : Cond) ∈ lw_good := List.mem_filter.mpr ⟨List.mem_of_getElem? (i := 626) (by decide +kernel), rfl⟩
theorem zw_627 : (Cond.selects RX9 yX9_passed yX9_passed : Cond) ∈ lw_good := List.mem_filter.mpr ⟨List.mem_of_getElem? (i := 627) (by decide +kernel), rfl⟩
theorem zw_235 : (Cond.fieldLink RX9 173 "BunchRace$Race" "primes" "I" : Cond) ∈ lw_good := List.mem_filter.mpr ⟨List.mem_of_getElem? (i := 235) (by decide +kernel), rfl⟩
theorem zw_629 : (Cond.methodLink RX9 176 yX3_riderAtPrime : Cond) ∈ lw_good := List.mem_filter.mpr ⟨List.mem_of_getElem? (i := 629) (by decide +kernel), rfl⟩
set_option maxRecDepth 100000 in
theorem zw_636 : (Cond.code yX9_metres cX9_metres 3 (some .int) : Cond) ∈ lw_good := List.mem_filter.mpr ⟨List.mem_of_getElem? (i := 636) rfl, rfl⟩
theorem zw_634 : (Cond.instanceMethod yX9_metres : Cond) ∈ lw_good := List.mem_filter.mpr ⟨List.mem_of_getElem? (i := 634) (by decide +kernel), rfl⟩
theorem zw_635 : (Cond.selects RX9 yX9_metres yX9_metres : Cond) ∈ lw_good := List.mem_filter.mpr ⟨List.mem_of_getElem? (i := 635) (by decide +kernel), rfl⟩
theorem zw_637 : (Cond.methodLink RX9 180 yX9_isLatestMinute : Cond) ∈ lw_good := List.mem_filter.mpr ⟨List.mem_of_getElem? (i := 637) (by decide +kernel), rfl⟩
theorem zw_299 : (Cond.fieldLink RX9 183 "BunchRace$RaceLog" "metres" "[I" : Cond) ∈ lw_good := List.mem_filter.mpr ⟨List.mem_of_getElem? (i := 299) (by decide +kernel), rfl⟩
set_option maxRecDepth 100000 in
theorem zw_644 : (Cond.code yX9_groups cX9_groups 2 (some .int) : Cond) ∈ lw_good := List.mem_filter.mpr ⟨List.mem_of_getElem? (i := 644) rfl, rfl⟩
theorem zw_642 : (Cond.instanceMethod yX9_groups : Cond) ∈ lw_good := List.mem_filter.mpr ⟨List.mem_of_getElem? (i := 642) (by decide +kernel), rfl⟩
theorem zw_643 : (Cond.selects RX9 yX9_groups yX9_groups : Cond) ∈ lw_good := List.mem_filter.mpr ⟨List.mem_of_getElem? (i := 643) (by decide +kernel), rfl⟩
theorem zw_301 : (Cond.fieldLink RX9 184 "BunchRace$RaceLog" "groups" "[I" : Cond) ∈ lw_good := List.mem_filter.mpr ⟨List.mem_of_getElem? (i := 301) (by decide +kernel), rfl⟩
set_option maxRecDepth 100000 in
theorem zw_648 : (Cond.code yX9_keep cX9_keep 1 (some .int) : Cond) ∈ lw_good := List.mem_filter.mpr ⟨List.mem_of_getElem? (i := 648) rfl, rfl⟩
theorem zw_646 : (Cond.instanceMethod yX9_keep : Cond) ∈ lw_good := List.mem_filter.mpr ⟨List.mem_of_getElem? (i := 646) (by decide +kernel), rfl⟩
theorem zw_647 : (Cond.selects RX9 yX9_keep yX9_keep : Cond) ∈ lw_good := List.mem_filter.mpr ⟨List.mem_of_getElem? (i := 647) (by decide +kernel), rfl⟩
theorem zw_649 : (Cond.methodLink RX9 187 yX7_addStage : Cond) ∈ lw_good := List.mem_filter.mpr ⟨List.mem_of_getElem? (i := 649) (by decide +kernel), rfl⟩
set_option maxRecDepth 100000 in
theorem zw_664 : (Cond.code yX9_limit cX9_limit 2 (some .boolean) : Cond) ∈ lw_good := List.mem_filter.mpr ⟨List.mem_of_getElem? (i := 664) rfl, rfl⟩
theorem zw_662 : (Cond.instanceMethod yX9_limit : Cond) ∈ lw_good := List.mem_filter.mpr ⟨List.mem_of_getElem? (i := 662) (by decide +kernel), rfl⟩
theorem zw_663 : (Cond.selects RX9 yX9_limit yX9_limit : Cond) ∈ lw_good := List.mem_filter.mpr ⟨List.mem_of_getElem? (i := 663) (by decide +kernel), rfl⟩
theorem zw_316 : (Cond.fieldLink RX9 191 "BunchRace$Stages" "limit" "I" : Cond) ∈ lw_good := List.mem_filter.mpr ⟨List.mem_of_getElem? (i := 316) (by decide +kernel), rfl⟩
set_option maxRecDepth 100000 in
theorem zw_668 : (Cond.code yX9_sum cX9_sum 3 (some .int) : Cond) ∈ lw_good := List.mem_filter.mpr ⟨List.mem_of_getElem? (i := 668) rfl, rfl⟩
theorem zw_666 : (Cond.instanceMethod yX9_sum : Cond) ∈ lw_good := List.mem_filter.mpr ⟨List.mem_of_getElem? (i := 666) (by decide +kernel), rfl⟩
theorem zw_667 : (Cond.selects RX9 yX9_sum yX9_sum : Cond) ∈ lw_good := List.mem_filter.mpr ⟨List.mem_of_getElem? (i := 667) (by decide +kernel), rfl⟩
theorem zw_318 : (Cond.fieldLink RX9 194 "BunchRace$Stages" "totals" "[I" : Cond) ∈ lw_good := List.mem_filter.mpr ⟨List.mem_of_getElem? (i := 318) (by decide +kernel), rfl⟩
theorem zw_320 : (Cond.fieldLink RX9 197 "BunchRace$Stages" "points" "[I" : Cond) ∈ lw_good := List.mem_filter.mpr ⟨List.mem_of_getElem? (i := 320) (by decide +kernel), rfl⟩
theorem zw_669 : (Cond.methodLink RX9 200 yX7_standingOf : Cond) ∈ lw_good := List.mem_filter.mpr ⟨List.mem_of_getElem? (i := 669) (by decide +kernel), rfl⟩
set_option maxRecDepth 100000 in
theorem zw_680 : (Cond.code yX9_team cX9_team 2 (some .int) : Cond) ∈ lw_good := List.mem_filter.mpr ⟨List.mem_of_getElem? (i := 680) rfl, rfl⟩
theorem zw_678 : (Cond.instanceMethod yX9_team : Cond) ∈ lw_good := List.mem_filter.mpr ⟨List.mem_of_getElem? (i := 678) (by decide +kernel), rfl⟩
theorem zw_679 : (Cond.selects RX9 yX9_team yX9_team : Cond) ∈ lw_good := List.mem_filter.mpr ⟨List.mem_of_getElem? (i := 679) (by decide +kernel), rfl⟩
theorem zw_681 : (Cond.methodLink RX9 203 yX7_lowestThreeOf : Cond) ∈ lw_good := List.mem_filter.mpr ⟨List.mem_of_getElem? (i := 681) (by decide +kernel), rfl⟩
set_option maxRecDepth 100000 in
theorem zw_696 : (Cond.code yX9_attempt cX9_attempt 7 (some .int) : Cond) ∈ lw_good := List.mem_filter.mpr ⟨List.mem_of_getElem? (i := 696) rfl, rfl⟩
theorem zw_694 : (Cond.instanceMethod yX9_attempt : Cond) ∈ lw_good := List.mem_filter.mpr ⟨List.mem_of_getElem? (i := 694) (by decide +kernel), rfl⟩
theorem zw_695 : (Cond.selects RX9 yX9_attempt yX9_attempt : Cond) ∈ lw_good := List.mem_filter.mpr ⟨List.mem_of_getElem? (i := 695) (by decide +kernel), rfl⟩
theorem zw_697 : (Cond.methodLink RX9 207 yX9_canTry : Cond) ∈ lw_good := List.mem_filter.mpr ⟨List.mem_of_getElem? (i := 697) (by decide +kernel), rfl⟩
theorem zw_702 : (Cond.methodLink RX9 210 yX9_isChoice : Cond) ∈ lw_good := List.mem_filter.mpr ⟨List.mem_of_getElem? (i := 702) (by decide +kernel), rfl⟩
theorem zw_706 : (Cond.methodLink RX9 213 yX9_scoreOfPair : Cond) ∈ lw_good := List.mem_filter.mpr ⟨List.mem_of_getElem? (i := 706) (by decide +kernel), rfl⟩
set_option maxRecDepth 100000 in
theorem zw_722 : (Cond.code yX9_best cX9_best 10 (some .int) : Cond) ∈ lw_good := List.mem_filter.mpr ⟨List.mem_of_getElem? (i := 722) rfl, rfl⟩
theorem zw_720 : (Cond.instanceMethod yX9_best : Cond) ∈ lw_good := List.mem_filter.mpr ⟨List.mem_of_getElem? (i := 720) (by decide +kernel), rfl⟩
theorem zw_721 : (Cond.selects RX9 yX9_best yX9_best : Cond) ∈ lw_good := List.mem_filter.mpr ⟨List.mem_of_getElem? (i := 721) (by decide +kernel), rfl⟩
set_option maxRecDepth 100000 in
theorem zw_726 : (Cond.code yX9_count cX9_count 2 (some .int) : Cond) ∈ lw_good := List.mem_filter.mpr ⟨List.mem_of_getElem? (i := 726) rfl, rfl⟩
theorem zw_724 : (Cond.instanceMethod yX9_count : Cond) ∈ lw_good := List.mem_filter.mpr ⟨List.mem_of_getElem? (i := 724) (by decide +kernel), rfl⟩
theorem zw_725 : (Cond.selects RX9 yX9_count yX9_count : Cond) ∈ lw_good := List.mem_filter.mpr ⟨List.mem_of_getElem? (i := 725) (by decide +kernel), rfl⟩
theorem zw_106 : (Cond.fieldLink RX9 217 "BunchRace$Road" "kilometres" "I" : Cond) ∈ lw_good := List.mem_filter.mpr ⟨List.mem_of_getElem? (i := 106) (by decide +kernel), rfl⟩
theorem zw_113 : (Cond.fieldLink RX9 220 "BunchRace$Road" "primes" "I" : Cond) ∈ lw_good := List.mem_filter.mpr ⟨List.mem_of_getElem? (i := 113) (by decide +kernel), rfl⟩
theorem zw_727 : (Cond.methodLink RX9 221 yX7_howManyOut : Cond) ∈ lw_good := List.mem_filter.mpr ⟨List.mem_of_getElem? (i := 727) (by decide +kernel), rfl⟩
set_option maxRecDepth 100000 in
theorem zw_381 : (Cond.code yX9_isTeam cX9_isTeam 1 (some .boolean) : Cond) ∈ lw_good := List.mem_filter.mpr ⟨List.mem_of_getElem? (i := 381) rfl, rfl⟩
theorem zw_380 : (Cond.static yX9_isTeam : Cond) ∈ lw_good := List.mem_filter.mpr ⟨List.mem_of_getElem? (i := 380) (by decide +kernel), rfl⟩
set_option maxRecDepth 100000 in
theorem zw_705 : (Cond.code yX9_isChoice cX9_isChoice 2 (some .boolean) : Cond) ∈ lw_good := List.mem_filter.mpr ⟨List.mem_of_getElem? (i := 705) rfl, rfl⟩
theorem zw_704 : (Cond.instanceMethod yX9_isChoice : Cond) ∈ lw_good := List.mem_filter.mpr ⟨List.mem_of_getElem? (i := 704) (by decide +kernel), rfl⟩
theorem zw_22 : (Cond.selects RX9 yX9_isChoice yX9_isChoice : Cond) ∈ lw_good := List.mem_filter.mpr ⟨List.mem_of_getElem? (i := 22) (by decide +kernel), rfl⟩
set_option maxRecDepth 100000 in
theorem zw_700 : (Cond.code yX9_canTry cX9_canTry 3 (some .boolean) : Cond) ∈ lw_good := List.mem_filter.mpr ⟨List.mem_of_getElem? (i := 700) rfl, rfl⟩
theorem zw_699 : (Cond.instanceMethod yX9_canTry : Cond) ∈ lw_good := List.mem_filter.mpr ⟨List.mem_of_getElem? (i := 699) (by decide +kernel), rfl⟩
theorem zw_21 : (Cond.selects RX9 yX9_canTry yX9_canTry : Cond) ∈ lw_good := List.mem_filter.mpr ⟨List.mem_of_getElem? (i := 21) (by decide +kernel), rfl⟩
theorem zw_701 : (Cond.methodLink RX9 224 yX6_isBetweenEnds : Cond) ∈ lw_good := List.mem_filter.mpr ⟨List.mem_of_getElem? (i := 701) (by decide +kernel), rfl⟩
set_option maxRecDepth 100000 in
theorem zw_602 : (Cond.code yX9_rodeLatest cX9_rodeLatest 2 (some .boolean) : Cond) ∈ lw_good := List.mem_filter.mpr ⟨List.mem_of_getElem? (i := 602) rfl, rfl⟩
theorem zw_601 : (Cond.instanceMethod yX9_rodeLatest : Cond) ∈ lw_good := List.mem_filter.mpr ⟨List.mem_of_getElem? (i := 601) (by decide +kernel), rfl⟩
theorem zw_16 : (Cond.selects RX9 yX9_rodeLatest yX9_rodeLatest : Cond) ∈ lw_good := List.mem_filter.mpr ⟨List.mem_of_getElem? (i := 16) (by decide +kernel), rfl⟩
theorem zw_239 : (Cond.fieldLink RX9 227 "BunchRace$Race" "rides" "[Z" : Cond) ∈ lw_good := List.mem_filter.mpr ⟨List.mem_of_getElem? (i := 239) (by decide +kernel), rfl⟩
set_option maxRecDepth 100000 in
theorem zw_640 : (Cond.code yX9_isLatestMinute cX9_isLatestMinute 2 (some .boolean) : Cond) ∈ lw_good := List.mem_filter.mpr ⟨List.mem_of_getElem? (i := 640) rfl, rfl⟩
theorem zw_639 : (Cond.instanceMethod yX9_isLatestMinute : Cond) ∈ lw_good := List.mem_filter.mpr ⟨List.mem_of_getElem? (i := 639) (by decide +kernel), rfl⟩
theorem zw_17 : (Cond.selects RX9 yX9_isLatestMinute yX9_isLatestMinute : Cond) ∈ lw_good := List.mem_filter.mpr ⟨List.mem_of_getElem? (i := 17) (by decide +kernel), rfl⟩
set_option maxRecDepth 100000 in
theorem zw_709 : (Cond.code yX9_scoreOfPair cX9_scoreOfPair 8 (some .int) : Cond) ∈ lw_good := List.mem_filter.mpr ⟨List.mem_of_getElem? (i := 709) rfl, rfl⟩
theorem zw_708 : (Cond.instanceMethod yX9_scoreOfPair : Cond) ∈ lw_good := List.mem_filter.mpr ⟨List.mem_of_getElem? (i := 708) (by decide +kernel), rfl⟩
theorem zw_23 : (Cond.selects RX9 yX9_scoreOfPair yX9_scoreOfPair : Cond) ∈ lw_good := List.mem_filter.mpr ⟨List.mem_of_getElem? (i := 23) (by decide +kernel), rfl⟩
theorem zw_255 : (Cond.fieldLink RX9 230 "BunchRace$Race" "orderRows" "[I" : Cond) ∈ lw_good := List.mem_filter.mpr ⟨List.mem_of_getElem? (i := 255) (by decide +kernel), rfl⟩
theorem zw_710 : (Cond.methodLink RX9 233 yX3_foremostOf : Cond) ∈ lw_good := List.mem_filter.mpr ⟨List.mem_of_getElem? (i := 710) (by decide +kernel), rfl⟩
theorem zw_714 : (Cond.methodLink RX9 236 yX3_scoreOf : Cond) ∈ lw_good := List.mem_filter.mpr ⟨List.mem_of_getElem? (i := 714) (by decide +kernel), rfl⟩
set_option maxRecDepth 100000 in
theorem zw_900 : (Cond.code yX10_in cX10_in 3 (some .boolean) : Cond) ∈ lw_good := List.mem_filter.mpr ⟨List.mem_of_getElem? (i := 900) rfl, rfl⟩
theorem zw_899 : (Cond.static yX10_in : Cond) ∈ lw_good := List.mem_filter.mpr ⟨List.mem_of_getElem? (i := 899) (by decide +kernel), rfl⟩
set_option maxRecDepth 100000 in
theorem zw_735 : (Cond.code yX10_init cX10_init 1 none : Cond) ∈ lw_good := List.mem_filter.mpr ⟨List.mem_of_getElem? (i := 735) rfl, rfl⟩
theorem zw_734 : (Cond.instanceMethod yX10_init : Cond) ∈ lw_good := List.mem_filter.mpr ⟨List.mem_of_getElem? (i := 734) (by decide +kernel), rfl⟩
theorem zw_736 : (Cond.methodLink RX10 3 objectInit : Cond) ∈ lw_good := List.mem_filter.mpr ⟨List.mem_of_getElem? (i := 736) (by decide +kernel), rfl⟩
theorem zw_738 : (Cond.fieldLink RX10 9 "BunchRaceModel" "kms" "I" : Cond) ∈ lw_good := List.mem_filter.mpr ⟨List.mem_of_getElem? (i := 738) (by decide +kernel), rfl⟩
theorem zw_740 : (Cond.fieldLink RX10 13 "BunchRaceModel" "crash" "I" : Cond) ∈ lw_good := List.mem_filter.mpr ⟨List.mem_of_getElem? (i := 740) (by decide +kernel), rfl⟩
theorem zw_744 : (Cond.fieldLink RX10 16 "BunchRaceModel" "limit" "I" : Cond) ∈ lw_good := List.mem_filter.mpr ⟨List.mem_of_getElem? (i := 744) (by decide +kernel), rfl⟩
theorem zw_745 : (Cond.fieldLink RX10 19 "BunchRaceModel" "teamOf" "[I" : Cond) ∈ lw_good := List.mem_filter.mpr ⟨List.mem_of_getElem? (i := 745) (by decide +kernel), rfl⟩
theorem zw_746 : (Cond.fieldLink RX10 23 "BunchRaceModel" "steady" "[I" : Cond) ∈ lw_good := List.mem_filter.mpr ⟨List.mem_of_getElem? (i := 746) (by decide +kernel), rfl⟩
theorem zw_747 : (Cond.fieldLink RX10 26 "BunchRaceModel" "full" "[I" : Cond) ∈ lw_good := List.mem_filter.mpr ⟨List.mem_of_getElem? (i := 747) (by decide +kernel), rfl⟩
theorem zw_748 : (Cond.fieldLink RX10 29 "BunchRaceModel" "climb" "[I" : Cond) ∈ lw_good := List.mem_filter.mpr ⟨List.mem_of_getElem? (i := 748) (by decide +kernel), rfl⟩
theorem zw_749 : (Cond.fieldLink RX10 32 "BunchRaceModel" "rises" "[I" : Cond) ∈ lw_good := List.mem_filter.mpr ⟨List.mem_of_getElem? (i := 749) (by decide +kernel), rfl⟩
theorem zw_750 : (Cond.fieldLink RX10 35 "BunchRaceModel" "winds" "[I" : Cond) ∈ lw_good := List.mem_filter.mpr ⟨List.mem_of_getElem? (i := 750) (by decide +kernel), rfl⟩
theorem zw_751 : (Cond.fieldLink RX10 38 "BunchRaceModel" "primeAt" "[I" : Cond) ∈ lw_good := List.mem_filter.mpr ⟨List.mem_of_getElem? (i := 751) (by decide +kernel), rfl⟩
theorem zw_752 : (Cond.fieldLink RX10 41 "BunchRaceModel" "tape" "[I" : Cond) ∈ lw_good := List.mem_filter.mpr ⟨List.mem_of_getElem? (i := 752) (by decide +kernel), rfl⟩
theorem zw_756 : (Cond.fieldLink RX10 44 "BunchRaceModel" "clauses" "[I" : Cond) ∈ lw_good := List.mem_filter.mpr ⟨List.mem_of_getElem? (i := 756) (by decide +kernel), rfl⟩
theorem zw_757 : (Cond.fieldLink RX10 47 "BunchRaceModel" "letter" "[I" : Cond) ∈ lw_good := List.mem_filter.mpr ⟨List.mem_of_getElem? (i := 757) (by decide +kernel), rfl⟩
theorem zw_758 : (Cond.fieldLink RX10 50 "BunchRaceModel" "sign" "[I" : Cond) ∈ lw_good := List.mem_filter.mpr ⟨List.mem_of_getElem? (i := 758) (by decide +kernel), rfl⟩
theorem zw_759 : (Cond.fieldLink RX10 53 "BunchRaceModel" "bar" "[I" : Cond) ∈ lw_good := List.mem_filter.mpr ⟨List.mem_of_getElem? (i := 759) (by decide +kernel), rfl⟩
theorem zw_760 : (Cond.fieldLink RX10 56 "BunchRaceModel" "pace" "[I" : Cond) ∈ lw_good := List.mem_filter.mpr ⟨List.mem_of_getElem? (i := 760) (by decide +kernel), rfl⟩
theorem zw_761 : (Cond.fieldLink RX10 59 "BunchRaceModel" "rides" "[Z" : Cond) ∈ lw_good := List.mem_filter.mpr ⟨List.mem_of_getElem? (i := 761) (by decide +kernel), rfl⟩
theorem zw_762 : (Cond.fieldLink RX10 63 "BunchRaceModel" "isOut" "[Z" : Cond) ∈ lw_good := List.mem_filter.mpr ⟨List.mem_of_getElem? (i := 762) (by decide +kernel), rfl⟩
theorem zw_763 : (Cond.fieldLink RX10 66 "BunchRaceModel" "metre" "[I" : Cond) ∈ lw_good := List.mem_filter.mpr ⟨List.mem_of_getElem? (i := 763) (by decide +kernel), rfl⟩
theorem zw_764 : (Cond.fieldLink RX10 69 "BunchRaceModel" "charge" "[I" : Cond) ∈ lw_good := List.mem_filter.mpr ⟨List.mem_of_getElem? (i := 764) (by decide +kernel), rfl⟩
theorem zw_765 : (Cond.fieldLink RX10 72 "BunchRaceModel" "held" "[I" : Cond) ∈ lw_good := List.mem_filter.mpr ⟨List.mem_of_getElem? (i := 765) (by decide +kernel), rfl⟩
theorem zw_766 : (Cond.fieldLink RX10 75 "BunchRaceModel" "seconds" "[I" : Cond) ∈ lw_good := List.mem_filter.mpr ⟨List.mem_of_getElem? (i := 766) (by decide +kernel), rfl⟩
theorem zw_767 : (Cond.fieldLink RX10 78 "BunchRaceModel" "heldOften" "[I" : Cond) ∈ lw_good := List.mem_filter.mpr ⟨List.mem_of_getElem? (i := 767) (by decide +kernel), rfl⟩
theorem zw_768 : (Cond.fieldLink RX10 81 "BunchRaceModel" "work" "[I" : Cond) ∈ lw_good := List.mem_filter.mpr ⟨List.mem_of_getElem? (i := 768) (by decide +kernel), rfl⟩
theorem zw_769 : (Cond.fieldLink RX10 84 "BunchRaceModel" "primeSeconds" "[I" : Cond) ∈ lw_good := List.mem_filter.mpr ⟨List.mem_of_getElem? (i := 769) (by decide +kernel), rfl⟩
theorem zw_772 : (Cond.fieldLink RX10 87 "BunchRaceModel" "row" "[I" : Cond) ∈ lw_good := List.mem_filter.mpr ⟨List.mem_of_getElem? (i := 772) (by decide +kernel), rfl⟩
theorem zw_774 : (Cond.fieldLink RX10 90 "BunchRaceModel" "groupSize" "[I" : Cond) ∈ lw_good := List.mem_filter.mpr ⟨List.mem_of_getElem? (i := 774) (by decide +kernel), rfl⟩
theorem zw_775 : (Cond.fieldLink RX10 93 "BunchRaceModel" "place" "[I" : Cond) ∈ lw_good := List.mem_filter.mpr ⟨List.mem_of_getElem? (i := 775) (by decide +kernel), rfl⟩
theorem zw_776 : (Cond.fieldLink RX10 96 "BunchRaceModel" "stood" "[I" : Cond) ∈ lw_good := List.mem_filter.mpr ⟨List.mem_of_getElem? (i := 776) (by decide +kernel), rfl⟩
theorem zw_777 : (Cond.fieldLink RX10 99 "BunchRaceModel" "history" "[I" : Cond) ∈ lw_good := List.mem_filter.mpr ⟨List.mem_of_getElem? (i := 777) (by decide +kernel), rfl⟩
theorem zw_778 : (Cond.fieldLink RX10 102 "BunchRaceModel" "groupHistory" "[I" : Cond) ∈ lw_good := List.mem_filter.mpr ⟨List.mem_of_getElem? (i := 778) (by decide +kernel), rfl⟩
theorem zw_783 : (Cond.fieldLink RX10 105 "BunchRaceModel" "didRide" "[Z" : Cond) ∈ lw_good := List.mem_filter.mpr ⟨List.mem_of_getElem? (i := 783) (by decide +kernel), rfl⟩
theorem zw_784 : (Cond.fieldLink RX10 108 "BunchRaceModel" "toldRow" "[I" : Cond) ∈ lw_good := List.mem_filter.mpr ⟨List.mem_of_getElem? (i := 784) (by decide +kernel), rfl⟩
theorem zw_785 : (Cond.fieldLink RX10 111 "BunchRaceModel" "passedBy" "[I" : Cond) ∈ lw_good := List.mem_filter.mpr ⟨List.mem_of_getElem? (i := 785) (by decide +kernel), rfl⟩
theorem zw_786 : (Cond.fieldLink RX10 114 "BunchRaceModel" "total" "[I" : Cond) ∈ lw_good := List.mem_filter.mpr ⟨List.mem_of_getElem? (i := 786) (by decide +kernel), rfl⟩
theorem zw_787 : (Cond.fieldLink RX10 117 "BunchRaceModel" "points" "[I" : Cond) ∈ lw_good := List.mem_filter.mpr ⟨List.mem_of_getElem? (i := 787) (by decide +kernel), rfl⟩
theorem zw_788 : (Cond.fieldLink RX10 120 "BunchRaceModel" "used" "[Z" : Cond) ∈ lw_good := List.mem_filter.mpr ⟨List.mem_of_getElem? (i := 788) (by decide +kernel), rfl⟩
set_option maxRecDepth 100000 in
theorem zw_1032 : (Cond.code yX10_isRider cX10_isRider 2 (some .boolean) : Cond) ∈ lw_good := List.mem_filter.mpr ⟨List.mem_of_getElem? (i := 1032) rfl, rfl⟩
theorem zw_1031 : (Cond.instanceMethod yX10_isRider : Cond) ∈ lw_good := List.mem_filter.mpr ⟨List.mem_of_getElem? (i := 1031) (by decide +kernel), rfl⟩
theorem zw_42 : (Cond.selects RX10 yX10_isRider yX10_isRider : Cond) ∈ lw_good := List.mem_filter.mpr ⟨List.mem_of_getElem? (i := 42) (by decide +kernel), rfl⟩
theorem zw_737 : (Cond.fieldLink RX10 123 "BunchRaceModel" "riders" "I" : Cond) ∈ lw_good := List.mem_filter.mpr ⟨List.mem_of_getElem? (i := 737) (by decide +kernel), rfl⟩
theorem zw_898 : (Cond.methodLink RX10 126 yX10_in : Cond) ∈ lw_good := List.mem_filter.mpr ⟨List.mem_of_getElem? (i := 898) (by decide +kernel), rfl⟩
set_option maxRecDepth 100000 in
theorem zw_897 : (Cond.code yX10_rider cX10_rider 5 (some .int) : Cond) ∈ lw_good := List.mem_filter.mpr ⟨List.mem_of_getElem? (i := 897) rfl, rfl⟩
theorem zw_895 : (Cond.instanceMethod yX10_rider : Cond) ∈ lw_good := List.mem_filter.mpr ⟨List.mem_of_getElem? (i := 895) (by decide +kernel), rfl⟩
theorem zw_896 : (Cond.selects RX10 yX10_rider yX10_rider : Cond) ∈ lw_good := List.mem_filter.mpr ⟨List.mem_of_getElem? (i := 896) (by decide +kernel), rfl⟩
theorem zw_743 : (Cond.fieldLink RX10 130 "BunchRaceModel" "stages" "I" : Cond) ∈ lw_good := List.mem_filter.mpr ⟨List.mem_of_getElem? (i := 743) (by decide +kernel), rfl⟩
set_option maxRecDepth 100000 in
theorem zw_904 : (Cond.code yX10_road cX10_road 3 (some .boolean) : Cond) ∈ lw_good := List.mem_filter.mpr ⟨List.mem_of_getElem? (i := 904) rfl, rfl⟩
theorem zw_902 : (Cond.instanceMethod yX10_road : Cond) ∈ lw_good := List.mem_filter.mpr ⟨List.mem_of_getElem? (i := 902) (by decide +kernel), rfl⟩
theorem zw_903 : (Cond.selects RX10 yX10_road yX10_road : Cond) ∈ lw_good := List.mem_filter.mpr ⟨List.mem_of_getElem? (i := 903) (by decide +kernel), rfl⟩
theorem zw_739 : (Cond.fieldLink RX10 133 "BunchRaceModel" "primes" "I" : Cond) ∈ lw_good := List.mem_filter.mpr ⟨List.mem_of_getElem? (i := 739) (by decide +kernel), rfl⟩
set_option maxRecDepth 100000 in
theorem zw_908 : (Cond.code yX10_rise cX10_rise 4 (some .boolean) : Cond) ∈ lw_good := List.mem_filter.mpr ⟨List.mem_of_getElem? (i := 908) rfl, rfl⟩
theorem zw_906 : (Cond.instanceMethod yX10_rise : Cond) ∈ lw_good := List.mem_filter.mpr ⟨List.mem_of_getElem? (i := 906) (by decide +kernel), rfl⟩
theorem zw_907 : (Cond.selects RX10 yX10_rise yX10_rise : Cond) ∈ lw_good := List.mem_filter.mpr ⟨List.mem_of_getElem? (i := 907) (by decide +kernel), rfl⟩
set_option maxRecDepth 100000 in
theorem zw_916 : (Cond.code yX10_isMetre cX10_isMetre 2 (some .boolean) : Cond) ∈ lw_good := List.mem_filter.mpr ⟨List.mem_of_getElem? (i := 916) rfl, rfl⟩
theorem zw_915 : (Cond.instanceMethod yX10_isMetre : Cond) ∈ lw_good := List.mem_filter.mpr ⟨List.mem_of_getElem? (i := 915) (by decide +kernel), rfl⟩
theorem zw_24 : (Cond.selects RX10 yX10_isMetre yX10_isMetre : Cond) ∈ lw_good := List.mem_filter.mpr ⟨List.mem_of_getElem? (i := 24) (by decide +kernel), rfl⟩
set_option maxRecDepth 100000 in
theorem zw_912 : (Cond.code yX10_prime cX10_prime 2 (some .int) : Cond) ∈ lw_good := List.mem_filter.mpr ⟨List.mem_of_getElem? (i := 912) rfl, rfl⟩
theorem zw_910 : (Cond.instanceMethod yX10_prime : Cond) ∈ lw_good := List.mem_filter.mpr ⟨List.mem_of_getElem? (i := 910) (by decide +kernel), rfl⟩
theorem zw_911 : (Cond.selects RX10 yX10_prime yX10_prime : Cond) ∈ lw_good := List.mem_filter.mpr ⟨List.mem_of_getElem? (i := 911) (by decide +kernel), rfl⟩
theorem zw_913 : (Cond.methodLink RX10 136 yX10_isMetre : Cond) ∈ lw_good := List.mem_filter.mpr ⟨List.mem_of_getElem? (i := 913) (by decide +kernel), rfl⟩
set_option maxRecDepth 100000 in
theorem zw_920 : (Cond.code yX10_crash cX10_crash 3 (some .boolean) : Cond) ∈ lw_good := List.mem_filter.mpr ⟨List.mem_of_getElem? (i := 920) rfl, rfl⟩
theorem zw_918 : (Cond.instanceMethod yX10_crash : Cond) ∈ lw_good := List.mem_filter.mpr ⟨List.mem_of_getElem? (i := 918) (by decide +kernel), rfl⟩
theorem zw_919 : (Cond.selects RX10 yX10_crash yX10_crash : Cond) ∈ lw_good := List.mem_filter.mpr ⟨List.mem_of_getElem? (i := 919) (by decide +kernel), rfl⟩
theorem zw_741 : (Cond.fieldLink RX10 140 "BunchRaceModel" "crashPart" "I" : Cond) ∈ lw_good := List.mem_filter.mpr ⟨List.mem_of_getElem? (i := 741) (by decide +kernel), rfl⟩
set_option maxRecDepth 100000 in
theorem zw_927 : (Cond.code yX10_byteOf cX10_byteOf 7 (some .int) : Cond) ∈ lw_good := List.mem_filter.mpr ⟨List.mem_of_getElem? (i := 927) rfl, rfl⟩
theorem zw_926 : (Cond.static yX10_byteOf : Cond) ∈ lw_good := List.mem_filter.mpr ⟨List.mem_of_getElem? (i := 926) (by decide +kernel), rfl⟩
set_option maxRecDepth 100000 in
theorem zw_924 : (Cond.code yX10_feed cX10_feed 9 (some .int) : Cond) ∈ lw_good := List.mem_filter.mpr ⟨List.mem_of_getElem? (i := 924) rfl, rfl⟩
theorem zw_922 : (Cond.instanceMethod yX10_feed : Cond) ∈ lw_good := List.mem_filter.mpr ⟨List.mem_of_getElem? (i := 922) (by decide +kernel), rfl⟩
theorem zw_923 : (Cond.selects RX10 yX10_feed yX10_feed : Cond) ∈ lw_good := List.mem_filter.mpr ⟨List.mem_of_getElem? (i := 923) (by decide +kernel), rfl⟩
theorem zw_925 : (Cond.methodLink RX10 143 yX10_byteOf : Cond) ∈ lw_good := List.mem_filter.mpr ⟨List.mem_of_getElem? (i := 925) (by decide +kernel), rfl⟩
theorem zw_753 : (Cond.fieldLink RX10 147 "BunchRaceModel" "size" "I" : Cond) ∈ lw_good := List.mem_filter.mpr ⟨List.mem_of_getElem? (i := 753) (by decide +kernel), rfl⟩
set_option maxRecDepth 100000 in
theorem zw_931 : (Cond.code yX10_end cX10_end 2 (some .boolean) : Cond) ∈ lw_good := List.mem_filter.mpr ⟨List.mem_of_getElem? (i := 931) rfl, rfl⟩
theorem zw_929 : (Cond.instanceMethod yX10_end : Cond) ∈ lw_good := List.mem_filter.mpr ⟨List.mem_of_getElem? (i := 929) (by decide +kernel), rfl⟩
theorem zw_930 : (Cond.selects RX10 yX10_end yX10_end : Cond) ∈ lw_good := List.mem_filter.mpr ⟨List.mem_of_getElem? (i := 930) (by decide +kernel), rfl⟩
set_option maxRecDepth 100000 in
theorem zw_939 : (Cond.code yX10_look cX10_look 1 (some .int) : Cond) ∈ lw_good := List.mem_filter.mpr ⟨List.mem_of_getElem? (i := 939) rfl, rfl⟩
theorem zw_938 : (Cond.instanceMethod yX10_look : Cond) ∈ lw_good := List.mem_filter.mpr ⟨List.mem_of_getElem? (i := 938) (by decide +kernel), rfl⟩
theorem zw_25 : (Cond.selects RX10 yX10_look yX10_look : Cond) ∈ lw_good := List.mem_filter.mpr ⟨List.mem_of_getElem? (i := 25) (by decide +kernel), rfl⟩
theorem zw_754 : (Cond.fieldLink RX10 150 "BunchRaceModel" "at" "I" : Cond) ∈ lw_good := List.mem_filter.mpr ⟨List.mem_of_getElem? (i := 754) (by decide +kernel), rfl⟩
set_option maxRecDepth 100000 in
theorem zw_946 : (Cond.code yX10_isDigit cX10_isDigit 1 (some .boolean) : Cond) ∈ lw_good := List.mem_filter.mpr ⟨List.mem_of_getElem? (i := 946) rfl, rfl⟩
theorem zw_945 : (Cond.static yX10_isDigit : Cond) ∈ lw_good := List.mem_filter.mpr ⟨List.mem_of_getElem? (i := 945) (by decide +kernel), rfl⟩
set_option maxRecDepth 100000 in
theorem zw_943 : (Cond.code yX10_clause cX10_clause 7 (some .boolean) : Cond) ∈ lw_good := List.mem_filter.mpr ⟨List.mem_of_getElem? (i := 943) rfl, rfl⟩
theorem zw_942 : (Cond.instanceMethod yX10_clause : Cond) ∈ lw_good := List.mem_filter.mpr ⟨List.mem_of_getElem? (i := 942) (by decide +kernel), rfl⟩
theorem zw_26 : (Cond.selects RX10 yX10_clause yX10_clause : Cond) ∈ lw_good := List.mem_filter.mpr ⟨List.mem_of_getElem? (i := 26) (by decide +kernel), rfl⟩
theorem zw_936 : (Cond.methodLink RX10 153 yX10_look : Cond) ∈ lw_good := List.mem_filter.mpr ⟨List.mem_of_getElem? (i := 936) (by decide +kernel), rfl⟩
theorem zw_944 : (Cond.methodLink RX10 157 yX10_isDigit : Cond) ∈ lw_good := List.mem_filter.mpr ⟨List.mem_of_getElem? (i := 944) (by decide +kernel), rfl⟩
theorem zw_755 : (Cond.fieldLink RX10 160 "BunchRaceModel" "readMany" "I" : Cond) ∈ lw_good := List.mem_filter.mpr ⟨List.mem_of_getElem? (i := 755) (by decide +kernel), rfl⟩
set_option maxRecDepth 100000 in
theorem zw_935 : (Cond.code yX10_fault cX10_fault 2 (some .int) : Cond) ∈ lw_good := List.mem_filter.mpr ⟨List.mem_of_getElem? (i := 935) rfl, rfl⟩
theorem zw_933 : (Cond.instanceMethod yX10_fault : Cond) ∈ lw_good := List.mem_filter.mpr ⟨List.mem_of_getElem? (i := 933) (by decide +kernel), rfl⟩
theorem zw_934 : (Cond.selects RX10 yX10_fault yX10_fault : Cond) ∈ lw_good := List.mem_filter.mpr ⟨List.mem_of_getElem? (i := 934) (by decide +kernel), rfl⟩
theorem zw_940 : (Cond.methodLink RX10 163 yX10_clause : Cond) ∈ lw_good := List.mem_filter.mpr ⟨List.mem_of_getElem? (i := 940) (by decide +kernel), rfl⟩
set_option maxRecDepth 100000 in
theorem zw_955 : (Cond.code yX10_store cX10_store 5 none : Cond) ∈ lw_good := List.mem_filter.mpr ⟨List.mem_of_getElem? (i := 955) rfl, rfl⟩
theorem zw_954 : (Cond.instanceMethod yX10_store : Cond) ∈ lw_good := List.mem_filter.mpr ⟨List.mem_of_getElem? (i := 954) (by decide +kernel), rfl⟩
theorem zw_27 : (Cond.selects RX10 yX10_store yX10_store : Cond) ∈ lw_good := List.mem_filter.mpr ⟨List.mem_of_getElem? (i := 27) (by decide +kernel), rfl⟩
set_option maxRecDepth 100000 in
theorem zw_950 : (Cond.code yX10_orders cX10_orders 2 (some .boolean) : Cond) ∈ lw_good := List.mem_filter.mpr ⟨List.mem_of_getElem? (i := 950) rfl, rfl⟩
theorem zw_948 : (Cond.instanceMethod yX10_orders : Cond) ∈ lw_good := List.mem_filter.mpr ⟨List.mem_of_getElem? (i := 948) (by decide +kernel), rfl⟩
theorem zw_949 : (Cond.selects RX10 yX10_orders yX10_orders : Cond) ∈ lw_good := List.mem_filter.mpr ⟨List.mem_of_getElem? (i := 949) (by decide +kernel), rfl⟩
theorem zw_951 : (Cond.methodLink RX10 167 yX10_fault : Cond) ∈ lw_good := List.mem_filter.mpr ⟨List.mem_of_getElem? (i := 951) (by decide +kernel), rfl⟩
theorem zw_952 : (Cond.methodLink RX10 170 yX10_store : Cond) ∈ lw_good := List.mem_filter.mpr ⟨List.mem_of_getElem? (i := 952) (by decide +kernel), rfl⟩
set_option maxRecDepth 100000 in
theorem zw_959 : (Cond.code yX10_choice cX10_choice 1 (some .int) : Cond) ∈ lw_good := List.mem_filter.mpr ⟨List.mem_of_getElem? (i := 959) rfl, rfl⟩
theorem zw_957 : (Cond.instanceMethod yX10_choice : Cond) ∈ lw_good := List.mem_filter.mpr ⟨List.mem_of_getElem? (i := 957) (by decide +kernel), rfl⟩
theorem zw_958 : (Cond.selects RX10 yX10_choice yX10_choice : Cond) ∈ lw_good := List.mem_filter.mpr ⟨List.mem_of_getElem? (i := 958) (by decide +kernel), rfl⟩
theorem zw_742 : (Cond.fieldLink RX10 174 "BunchRaceModel" "choices" "I" : Cond) ∈ lw_good := List.mem_filter.mpr ⟨List.mem_of_getElem? (i := 742) (by decide +kernel), rfl⟩
set_option maxRecDepth 100000 in
theorem zw_979 : (Cond.code yX10_isAhead cX10_isAhead 3 (some .boolean) : Cond) ∈ lw_good := List.mem_filter.mpr ⟨List.mem_of_getElem? (i := 979) rfl, rfl⟩
theorem zw_978 : (Cond.instanceMethod yX10_isAhead : Cond) ∈ lw_good := List.mem_filter.mpr ⟨List.mem_of_getElem? (i := 978) (by decide +kernel), rfl⟩
theorem zw_31 : (Cond.selects RX10 yX10_isAhead yX10_isAhead : Cond) ∈ lw_good := List.mem_filter.mpr ⟨List.mem_of_getElem? (i := 31) (by decide +kernel), rfl⟩
set_option maxRecDepth 100000 in
theorem zw_975 : (Cond.code yX10_line cX10_line 6 (some .int) : Cond) ∈ lw_good := List.mem_filter.mpr ⟨List.mem_of_getElem? (i := 975) rfl, rfl⟩
theorem zw_974 : (Cond.instanceMethod yX10_line : Cond) ∈ lw_good := List.mem_filter.mpr ⟨List.mem_of_getElem? (i := 974) (by decide +kernel), rfl⟩
theorem zw_30 : (Cond.selects RX10 yX10_line yX10_line : Cond) ∈ lw_good := List.mem_filter.mpr ⟨List.mem_of_getElem? (i := 30) (by decide +kernel), rfl⟩
theorem zw_773 : (Cond.fieldLink RX10 177 "BunchRaceModel" "rowMany" "I" : Cond) ∈ lw_good := List.mem_filter.mpr ⟨List.mem_of_getElem? (i := 773) (by decide +kernel), rfl⟩
theorem zw_976 : (Cond.methodLink RX10 180 yX10_isAhead : Cond) ∈ lw_good := List.mem_filter.mpr ⟨List.mem_of_getElem? (i := 976) (by decide +kernel), rfl⟩
set_option maxRecDepth 100000 in
theorem zw_1000 : (Cond.code yX10_valueOf cX10_valueOf 4 (some .int) : Cond) ∈ lw_good := List.mem_filter.mpr ⟨List.mem_of_getElem? (i := 1000) rfl, rfl⟩
theorem zw_999 : (Cond.instanceMethod yX10_valueOf : Cond) ∈ lw_good := List.mem_filter.mpr ⟨List.mem_of_getElem? (i := 999) (by decide +kernel), rfl⟩
theorem zw_36 : (Cond.selects RX10 yX10_valueOf yX10_valueOf : Cond) ∈ lw_good := List.mem_filter.mpr ⟨List.mem_of_getElem? (i := 36) (by decide +kernel), rfl⟩
set_option maxRecDepth 100000 in
theorem zw_996 : (Cond.code yX10_paceBy cX10_paceBy 6 (some .int) : Cond) ∈ lw_good := List.mem_filter.mpr ⟨List.mem_of_getElem? (i := 996) rfl, rfl⟩
theorem zw_995 : (Cond.instanceMethod yX10_paceBy : Cond) ∈ lw_good := List.mem_filter.mpr ⟨List.mem_of_getElem? (i := 995) (by decide +kernel), rfl⟩
theorem zw_35 : (Cond.selects RX10 yX10_paceBy yX10_paceBy : Cond) ∈ lw_good := List.mem_filter.mpr ⟨List.mem_of_getElem? (i := 35) (by decide +kernel), rfl⟩
theorem zw_997 : (Cond.methodLink RX10 184 yX10_valueOf : Cond) ∈ lw_good := List.mem_filter.mpr ⟨List.mem_of_getElem? (i := 997) (by decide +kernel), rfl⟩
set_option maxRecDepth 100000 in
theorem zw_1004 : (Cond.code yX10_powerOf cX10_powerOf 6 (some .int) : Cond) ∈ lw_good := List.mem_filter.mpr ⟨List.mem_of_getElem? (i := 1004) rfl, rfl⟩
theorem zw_1003 : (Cond.instanceMethod yX10_powerOf : Cond) ∈ lw_good := List.mem_filter.mpr ⟨List.mem_of_getElem? (i := 1003) (by decide +kernel), rfl⟩
theorem zw_37 : (Cond.selects RX10 yX10_powerOf yX10_powerOf : Cond) ∈ lw_good := List.mem_filter.mpr ⟨List.mem_of_getElem? (i := 37) (by decide +kernel), rfl⟩
theorem zw_988 : (Cond.methodLink RX10 188 Lib.Math.max.name : Cond) ∈ lw_good := List.mem_filter.mpr ⟨List.mem_of_getElem? (i := 988) (by decide +kernel), rfl⟩
set_option maxRecDepth 100000 in
theorem zw_992 : (Cond.code yX10_ride cX10_ride 12 none : Cond) ∈ lw_good := List.mem_filter.mpr ⟨List.mem_of_getElem? (i := 992) rfl, rfl⟩
theorem zw_991 : (Cond.instanceMethod yX10_ride : Cond) ∈ lw_good := List.mem_filter.mpr ⟨List.mem_of_getElem? (i := 991) (by decide +kernel), rfl⟩
theorem zw_34 : (Cond.selects RX10 yX10_ride yX10_ride : Cond) ∈ lw_good := List.mem_filter.mpr ⟨List.mem_of_getElem? (i := 34) (by decide +kernel), rfl⟩
theorem zw_993 : (Cond.methodLink RX10 194 yX10_paceBy : Cond) ∈ lw_good := List.mem_filter.mpr ⟨List.mem_of_getElem? (i := 993) (by decide +kernel), rfl⟩
theorem zw_1001 : (Cond.methodLink RX10 197 yX10_powerOf : Cond) ∈ lw_good := List.mem_filter.mpr ⟨List.mem_of_getElem? (i := 1001) (by decide +kernel), rfl⟩
theorem zw_1005 : (Cond.methodLink RX10 200 Lib.Math.min.name : Cond) ∈ lw_good := List.mem_filter.mpr ⟨List.mem_of_getElem? (i := 1005) (by decide +kernel), rfl⟩
theorem zw_771 : (Cond.fieldLink RX10 203 "BunchRaceModel" "lots" "J" : Cond) ∈ lw_good := List.mem_filter.mpr ⟨List.mem_of_getElem? (i := 771) (by decide +kernel), rfl⟩
theorem zw_1006 : (Cond.constantLong RX10 207 6364136223846793005 : Cond) ∈ lw_good := List.mem_filter.mpr ⟨List.mem_of_getElem? (i := 1006) (by decide +kernel), rfl⟩
theorem zw_1007 : (Cond.constantLong RX10 209 1442695040888963407 : Cond) ∈ lw_good := List.mem_filter.mpr ⟨List.mem_of_getElem? (i := 1007) (by decide +kernel), rfl⟩
theorem zw_1008 : (Cond.constantLong RX10 211 100 : Cond) ∈ lw_good := List.mem_filter.mpr ⟨List.mem_of_getElem? (i := 1008) (by decide +kernel), rfl⟩
theorem zw_770 : (Cond.fieldLink RX10 213 "BunchRaceModel" "minute" "I" : Cond) ∈ lw_good := List.mem_filter.mpr ⟨List.mem_of_getElem? (i := 770) (by decide +kernel), rfl⟩
set_option maxRecDepth 100000 in
theorem zw_971 : (Cond.code yX10_note cX10_note 2 none : Cond) ∈ lw_good := List.mem_filter.mpr ⟨List.mem_of_getElem? (i := 971) rfl, rfl⟩
theorem zw_970 : (Cond.instanceMethod yX10_note : Cond) ∈ lw_good := List.mem_filter.mpr ⟨List.mem_of_getElem? (i := 970) (by decide +kernel), rfl⟩
theorem zw_29 : (Cond.selects RX10 yX10_note yX10_note : Cond) ∈ lw_good := List.mem_filter.mpr ⟨List.mem_of_getElem? (i := 29) (by decide +kernel), rfl⟩
theorem zw_972 : (Cond.methodLink RX10 216 yX10_line : Cond) ∈ lw_good := List.mem_filter.mpr ⟨List.mem_of_getElem? (i := 972) (by decide +kernel), rfl⟩
set_option maxRecDepth 100000 in
theorem zw_983 : (Cond.code yX10_isGoing cX10_isGoing 2 (some .boolean) : Cond) ∈ lw_good := List.mem_filter.mpr ⟨List.mem_of_getElem? (i := 983) rfl, rfl⟩
theorem zw_982 : (Cond.instanceMethod yX10_isGoing : Cond) ∈ lw_good := List.mem_filter.mpr ⟨List.mem_of_getElem? (i := 982) (by decide +kernel), rfl⟩
theorem zw_32 : (Cond.selects RX10 yX10_isGoing yX10_isGoing : Cond) ∈ lw_good := List.mem_filter.mpr ⟨List.mem_of_getElem? (i := 32) (by decide +kernel), rfl⟩
set_option maxRecDepth 100000 in
theorem zw_987 : (Cond.code yX10_foremostOf cX10_foremostOf 4 (some .int) : Cond) ∈ lw_good := List.mem_filter.mpr ⟨List.mem_of_getElem? (i := 987) rfl, rfl⟩
theorem zw_986 : (Cond.instanceMethod yX10_foremostOf : Cond) ∈ lw_good := List.mem_filter.mpr ⟨List.mem_of_getElem? (i := 986) (by decide +kernel), rfl⟩
theorem zw_33 : (Cond.selects RX10 yX10_foremostOf yX10_foremostOf : Cond) ∈ lw_good := List.mem_filter.mpr ⟨List.mem_of_getElem? (i := 33) (by decide +kernel), rfl⟩
set_option maxRecDepth 100000 in
theorem zw_967 : (Cond.code yX10_run cX10_run 16 (some .boolean) : Cond) ∈ lw_good := List.mem_filter.mpr ⟨List.mem_of_getElem? (i := 967) rfl, rfl⟩
theorem zw_966 : (Cond.instanceMethod yX10_run : Cond) ∈ lw_good := List.mem_filter.mpr ⟨List.mem_of_getElem? (i := 966) (by decide +kernel), rfl⟩
theorem zw_28 : (Cond.selects RX10 yX10_run yX10_run : Cond) ∈ lw_good := List.mem_filter.mpr ⟨List.mem_of_getElem? (i := 28) (by decide +kernel), rfl⟩
theorem zw_968 : (Cond.methodLink RX10 219 yX10_note : Cond) ∈ lw_good := List.mem_filter.mpr ⟨List.mem_of_getElem? (i := 968) (by decide +kernel), rfl⟩
theorem zw_980 : (Cond.methodLink RX10 222 yX10_isGoing : Cond) ∈ lw_good := List.mem_filter.mpr ⟨List.mem_of_getElem? (i := 980) (by decide +kernel), rfl⟩
theorem zw_984 : (Cond.methodLink RX10 225 yX10_foremostOf : Cond) ∈ lw_good := List.mem_filter.mpr ⟨List.mem_of_getElem? (i := 984) (by decide +kernel), rfl⟩
theorem zw_989 : (Cond.methodLink RX10 229 yX10_ride : Cond) ∈ lw_good := List.mem_filter.mpr ⟨List.mem_of_getElem? (i := 989) (by decide +kernel), rfl⟩
set_option maxRecDepth 100000 in
theorem zw_1016 : (Cond.code yX10_isBefore cX10_isBefore 3 (some .boolean) : Cond) ∈ lw_good := List.mem_filter.mpr ⟨List.mem_of_getElem? (i := 1016) rfl, rfl⟩
theorem zw_1015 : (Cond.instanceMethod yX10_isBefore : Cond) ∈ lw_good := List.mem_filter.mpr ⟨List.mem_of_getElem? (i := 1015) (by decide +kernel), rfl⟩
theorem zw_39 : (Cond.selects RX10 yX10_isBefore yX10_isBefore : Cond) ∈ lw_good := List.mem_filter.mpr ⟨List.mem_of_getElem? (i := 39) (by decide +kernel), rfl⟩
set_option maxRecDepth 100000 in
theorem zw_1012 : (Cond.code yX10_placeIn cX10_placeIn 4 (some .int) : Cond) ∈ lw_good := List.mem_filter.mpr ⟨List.mem_of_getElem? (i := 1012) rfl, rfl⟩
theorem zw_1011 : (Cond.instanceMethod yX10_placeIn : Cond) ∈ lw_good := List.mem_filter.mpr ⟨List.mem_of_getElem? (i := 1011) (by decide +kernel), rfl⟩
theorem zw_38 : (Cond.selects RX10 yX10_placeIn yX10_placeIn : Cond) ∈ lw_good := List.mem_filter.mpr ⟨List.mem_of_getElem? (i := 38) (by decide +kernel), rfl⟩
theorem zw_1013 : (Cond.methodLink RX10 233 yX10_isBefore : Cond) ∈ lw_good := List.mem_filter.mpr ⟨List.mem_of_getElem? (i := 1013) (by decide +kernel), rfl⟩
set_option maxRecDepth 100000 in
theorem zw_1024 : (Cond.code yX10_placeAt cX10_placeAt 7 (some .int) : Cond) ∈ lw_good := List.mem_filter.mpr ⟨List.mem_of_getElem? (i := 1024) rfl, rfl⟩
theorem zw_1023 : (Cond.instanceMethod yX10_placeAt : Cond) ∈ lw_good := List.mem_filter.mpr ⟨List.mem_of_getElem? (i := 1023) (by decide +kernel), rfl⟩
theorem zw_41 : (Cond.selects RX10 yX10_placeAt yX10_placeAt : Cond) ∈ lw_good := List.mem_filter.mpr ⟨List.mem_of_getElem? (i := 41) (by decide +kernel), rfl⟩
set_option maxRecDepth 100000 in
theorem zw_1020 : (Cond.code yX10_pointsOf cX10_pointsOf 6 (some .int) : Cond) ∈ lw_good := List.mem_filter.mpr ⟨List.mem_of_getElem? (i := 1020) rfl, rfl⟩
theorem zw_1019 : (Cond.instanceMethod yX10_pointsOf : Cond) ∈ lw_good := List.mem_filter.mpr ⟨List.mem_of_getElem? (i := 1019) (by decide +kernel), rfl⟩
theorem zw_40 : (Cond.selects RX10 yX10_pointsOf yX10_pointsOf : Cond) ∈ lw_good := List.mem_filter.mpr ⟨List.mem_of_getElem? (i := 40) (by decide +kernel), rfl⟩
theorem zw_1021 : (Cond.methodLink RX10 236 yX10_placeAt : Cond) ∈ lw_good := List.mem_filter.mpr ⟨List.mem_of_getElem? (i := 1021) (by decide +kernel), rfl⟩
set_option maxRecDepth 100000 in
theorem zw_963 : (Cond.code yX10_race cX10_race 6 (some .int) : Cond) ∈ lw_good := List.mem_filter.mpr ⟨List.mem_of_getElem? (i := 963) rfl, rfl⟩
theorem zw_961 : (Cond.instanceMethod yX10_race : Cond) ∈ lw_good := List.mem_filter.mpr ⟨List.mem_of_getElem? (i := 961) (by decide +kernel), rfl⟩
theorem zw_962 : (Cond.selects RX10 yX10_race yX10_race : Cond) ∈ lw_good := List.mem_filter.mpr ⟨List.mem_of_getElem? (i := 962) (by decide +kernel), rfl⟩
theorem zw_964 : (Cond.methodLink RX10 239 yX10_run : Cond) ∈ lw_good := List.mem_filter.mpr ⟨List.mem_of_getElem? (i := 964) (by decide +kernel), rfl⟩
theorem zw_779 : (Cond.fieldLink RX10 243 "BunchRaceModel" "raced" "Z" : Cond) ∈ lw_good := List.mem_filter.mpr ⟨List.mem_of_getElem? (i := 779) (by decide +kernel), rfl⟩
theorem zw_780 : (Cond.fieldLink RX10 247 "BunchRaceModel" "kept" "Z" : Cond) ∈ lw_good := List.mem_filter.mpr ⟨List.mem_of_getElem? (i := 780) (by decide +kernel), rfl⟩
theorem zw_781 : (Cond.fieldLink RX10 250 "BunchRaceModel" "lastMinutes" "I" : Cond) ∈ lw_good := List.mem_filter.mpr ⟨List.mem_of_getElem? (i := 781) (by decide +kernel), rfl⟩
theorem zw_782 : (Cond.fieldLink RX10 253 "BunchRaceModel" "lastPrimes" "I" : Cond) ∈ lw_good := List.mem_filter.mpr ⟨List.mem_of_getElem? (i := 782) (by decide +kernel), rfl⟩
theorem zw_1009 : (Cond.methodLink RX10 256 yX10_placeIn : Cond) ∈ lw_good := List.mem_filter.mpr ⟨List.mem_of_getElem? (i := 1009) (by decide +kernel), rfl⟩
theorem zw_1017 : (Cond.methodLink RX10 259 yX10_pointsOf : Cond) ∈ lw_good := List.mem_filter.mpr ⟨List.mem_of_getElem? (i := 1017) (by decide +kernel), rfl⟩
set_option maxRecDepth 100000 in
theorem zw_1028 : (Cond.code yX10_told cX10_told 3 (some .int) : Cond) ∈ lw_good := List.mem_filter.mpr ⟨List.mem_of_getElem? (i := 1028) rfl, rfl⟩
theorem zw_1026 : (Cond.instanceMethod yX10_told : Cond) ∈ lw_good := List.mem_filter.mpr ⟨List.mem_of_getElem? (i := 1026) (by decide +kernel), rfl⟩
theorem zw_1027 : (Cond.selects RX10 yX10_told yX10_told : Cond) ∈ lw_good := List.mem_filter.mpr ⟨List.mem_of_getElem? (i := 1027) (by decide +kernel), rfl⟩
theorem zw_1029 : (Cond.methodLink RX10 262 yX10_isRider : Cond) ∈ lw_good := List.mem_filter.mpr ⟨List.mem_of_getElem? (i := 1029) (by decide +kernel), rfl⟩
set_option maxRecDepth 100000 in
theorem zw_1036 : (Cond.code yX10_at cX10_at 3 (some .int) : Cond) ∈ lw_good := List.mem_filter.mpr ⟨List.mem_of_getElem? (i := 1036) rfl, rfl⟩
theorem zw_1034 : (Cond.instanceMethod yX10_at : Cond) ∈ lw_good := List.mem_filter.mpr ⟨List.mem_of_getElem? (i := 1034) (by decide +kernel), rfl⟩
theorem zw_1035 : (Cond.selects RX10 yX10_at yX10_at : Cond) ∈ lw_good := List.mem_filter.mpr ⟨List.mem_of_getElem? (i := 1035) (by decide +kernel), rfl⟩
set_option maxRecDepth 100000 in
theorem zw_1040 : (Cond.code yX10_passed cX10_passed 3 (some .int) : Cond) ∈ lw_good := List.mem_filter.mpr ⟨List.mem_of_getElem? (i := 1040) rfl, rfl⟩
theorem zw_1038 : (Cond.instanceMethod yX10_passed : Cond) ∈ lw_good := List.mem_filter.mpr ⟨List.mem_of_getElem? (i := 1038) (by decide +kernel), rfl⟩
theorem zw_1039 : (Cond.selects RX10 yX10_passed yX10_passed : Cond) ∈ lw_good := List.mem_filter.mpr ⟨List.mem_of_getElem? (i := 1039) (by decide +kernel), rfl⟩
set_option maxRecDepth 100000 in
theorem zw_1044 : (Cond.code yX10_metres cX10_metres 3 (some .int) : Cond) ∈ lw_good := List.mem_filter.mpr ⟨List.mem_of_getElem? (i := 1044) rfl, rfl⟩
theorem zw_1042 : (Cond.instanceMethod yX10_metres : Cond) ∈ lw_good := List.mem_filter.mpr ⟨List.mem_of_getElem? (i := 1042) (by decide +kernel), rfl⟩
theorem zw_1043 : (Cond.selects RX10 yX10_metres yX10_metres : Cond) ∈ lw_good := List.mem_filter.mpr ⟨List.mem_of_getElem? (i := 1043) (by decide +kernel), rfl⟩
set_option maxRecDepth 100000 in
theorem zw_1048 : (Cond.code yX10_groups cX10_groups 2 (some .int) : Cond) ∈ lw_good := List.mem_filter.mpr ⟨List.mem_of_getElem? (i := 1048) rfl, rfl⟩
theorem zw_1046 : (Cond.instanceMethod yX10_groups : Cond) ∈ lw_good := List.mem_filter.mpr ⟨List.mem_of_getElem? (i := 1046) (by decide +kernel), rfl⟩
theorem zw_1047 : (Cond.selects RX10 yX10_groups yX10_groups : Cond) ∈ lw_good := List.mem_filter.mpr ⟨List.mem_of_getElem? (i := 1047) (by decide +kernel), rfl⟩
set_option maxRecDepth 100000 in
theorem zw_1052 : (Cond.code yX10_keep cX10_keep 5 (some .int) : Cond) ∈ lw_good := List.mem_filter.mpr ⟨List.mem_of_getElem? (i := 1052) rfl, rfl⟩
theorem zw_1050 : (Cond.instanceMethod yX10_keep : Cond) ∈ lw_good := List.mem_filter.mpr ⟨List.mem_of_getElem? (i := 1050) (by decide +kernel), rfl⟩
theorem zw_1051 : (Cond.selects RX10 yX10_keep yX10_keep : Cond) ∈ lw_good := List.mem_filter.mpr ⟨List.mem_of_getElem? (i := 1051) (by decide +kernel), rfl⟩
set_option maxRecDepth 100000 in
theorem zw_1056 : (Cond.code yX10_limit cX10_limit 2 (some .boolean) : Cond) ∈ lw_good := List.mem_filter.mpr ⟨List.mem_of_getElem? (i := 1056) rfl, rfl⟩
theorem zw_1054 : (Cond.instanceMethod yX10_limit : Cond) ∈ lw_good := List.mem_filter.mpr ⟨List.mem_of_getElem? (i := 1054) (by decide +kernel), rfl⟩
theorem zw_1055 : (Cond.selects RX10 yX10_limit yX10_limit : Cond) ∈ lw_good := List.mem_filter.mpr ⟨List.mem_of_getElem? (i := 1055) (by decide +kernel), rfl⟩
set_option maxRecDepth 100000 in
theorem zw_1068 : (Cond.code yX10_isBetter cX10_isBetter 3 (some .boolean) : Cond) ∈ lw_good := List.mem_filter.mpr ⟨List.mem_of_getElem? (i := 1068) rfl, rfl⟩
theorem zw_1067 : (Cond.instanceMethod yX10_isBetter : Cond) ∈ lw_good := List.mem_filter.mpr ⟨List.mem_of_getElem? (i := 1067) (by decide +kernel), rfl⟩
theorem zw_44 : (Cond.selects RX10 yX10_isBetter yX10_isBetter : Cond) ∈ lw_good := List.mem_filter.mpr ⟨List.mem_of_getElem? (i := 44) (by decide +kernel), rfl⟩
set_option maxRecDepth 100000 in
theorem zw_1064 : (Cond.code yX10_standing cX10_standing 4 (some .int) : Cond) ∈ lw_good := List.mem_filter.mpr ⟨List.mem_of_getElem? (i := 1064) rfl, rfl⟩
theorem zw_1063 : (Cond.instanceMethod yX10_standing : Cond) ∈ lw_good := List.mem_filter.mpr ⟨List.mem_of_getElem? (i := 1063) (by decide +kernel), rfl⟩
theorem zw_43 : (Cond.selects RX10 yX10_standing yX10_standing : Cond) ∈ lw_good := List.mem_filter.mpr ⟨List.mem_of_getElem? (i := 43) (by decide +kernel), rfl⟩
theorem zw_1065 : (Cond.methodLink RX10 265 yX10_isBetter : Cond) ∈ lw_good := List.mem_filter.mpr ⟨List.mem_of_getElem? (i := 1065) (by decide +kernel), rfl⟩
set_option maxRecDepth 100000 in
theorem zw_1060 : (Cond.code yX10_sum cX10_sum 3 (some .int) : Cond) ∈ lw_good := List.mem_filter.mpr ⟨List.mem_of_getElem? (i := 1060) rfl, rfl⟩
theorem zw_1058 : (Cond.instanceMethod yX10_sum : Cond) ∈ lw_good := List.mem_filter.mpr ⟨List.mem_of_getElem? (i := 1058) (by decide +kernel), rfl⟩
theorem zw_1059 : (Cond.selects RX10 yX10_sum yX10_sum : Cond) ∈ lw_good := List.mem_filter.mpr ⟨List.mem_of_getElem? (i := 1059) (by decide +kernel), rfl⟩
theorem zw_1061 : (Cond.methodLink RX10 268 yX10_standing : Cond) ∈ lw_good := List.mem_filter.mpr ⟨List.mem_of_getElem? (i := 1061) (by decide +kernel), rfl⟩
set_option maxRecDepth 100000 in
theorem zw_1072 : (Cond.code yX10_team cX10_team 6 (some .int) : Cond) ∈ lw_good := List.mem_filter.mpr ⟨List.mem_of_getElem? (i := 1072) rfl, rfl⟩
theorem zw_1070 : (Cond.instanceMethod yX10_team : Cond) ∈ lw_good := List.mem_filter.mpr ⟨List.mem_of_getElem? (i := 1070) (by decide +kernel), rfl⟩
theorem zw_1071 : (Cond.selects RX10 yX10_team yX10_team : Cond) ∈ lw_good := List.mem_filter.mpr ⟨List.mem_of_getElem? (i := 1071) (by decide +kernel), rfl⟩
set_option maxRecDepth 100000 in
theorem zw_1084 : (Cond.code yX10_score cX10_score 11 (some .int) : Cond) ∈ lw_good := List.mem_filter.mpr ⟨List.mem_of_getElem? (i := 1084) rfl, rfl⟩
theorem zw_1083 : (Cond.instanceMethod yX10_score : Cond) ∈ lw_good := List.mem_filter.mpr ⟨List.mem_of_getElem? (i := 1083) (by decide +kernel), rfl⟩
theorem zw_46 : (Cond.selects RX10 yX10_score yX10_score : Cond) ∈ lw_good := List.mem_filter.mpr ⟨List.mem_of_getElem? (i := 46) (by decide +kernel), rfl⟩
set_option maxRecDepth 100000 in
theorem zw_1080 : (Cond.code yX10_mayTry cX10_mayTry 3 (some .boolean) : Cond) ∈ lw_good := List.mem_filter.mpr ⟨List.mem_of_getElem? (i := 1080) rfl, rfl⟩
theorem zw_1079 : (Cond.instanceMethod yX10_mayTry : Cond) ∈ lw_good := List.mem_filter.mpr ⟨List.mem_of_getElem? (i := 1079) (by decide +kernel), rfl⟩
theorem zw_45 : (Cond.selects RX10 yX10_mayTry yX10_mayTry : Cond) ∈ lw_good := List.mem_filter.mpr ⟨List.mem_of_getElem? (i := 45) (by decide +kernel), rfl⟩
set_option maxRecDepth 100000 in
theorem zw_1076 : (Cond.code yX10_attempt cX10_attempt 7 (some .int) : Cond) ∈ lw_good := List.mem_filter.mpr ⟨List.mem_of_getElem? (i := 1076) rfl, rfl⟩
theorem zw_1074 : (Cond.instanceMethod yX10_attempt : Cond) ∈ lw_good := List.mem_filter.mpr ⟨List.mem_of_getElem? (i := 1074) (by decide +kernel), rfl⟩
theorem zw_1075 : (Cond.selects RX10 yX10_attempt yX10_attempt : Cond) ∈ lw_good := List.mem_filter.mpr ⟨List.mem_of_getElem? (i := 1075) (by decide +kernel), rfl⟩
theorem zw_1077 : (Cond.methodLink RX10 271 yX10_mayTry : Cond) ∈ lw_good := List.mem_filter.mpr ⟨List.mem_of_getElem? (i := 1077) (by decide +kernel), rfl⟩
theorem zw_1081 : (Cond.methodLink RX10 274 yX10_score : Cond) ∈ lw_good := List.mem_filter.mpr ⟨List.mem_of_getElem? (i := 1081) (by decide +kernel), rfl⟩
set_option maxRecDepth 100000 in
theorem zw_1088 : (Cond.code yX10_best cX10_best 10 (some .int) : Cond) ∈ lw_good := List.mem_filter.mpr ⟨List.mem_of_getElem? (i := 1088) rfl, rfl⟩
theorem zw_1086 : (Cond.instanceMethod yX10_best : Cond) ∈ lw_good := List.mem_filter.mpr ⟨List.mem_of_getElem? (i := 1086) (by decide +kernel), rfl⟩
theorem zw_1087 : (Cond.selects RX10 yX10_best yX10_best : Cond) ∈ lw_good := List.mem_filter.mpr ⟨List.mem_of_getElem? (i := 1087) (by decide +kernel), rfl⟩
set_option maxRecDepth 100000 in
theorem zw_1092 : (Cond.code yX10_count cX10_count 4 (some .int) : Cond) ∈ lw_good := List.mem_filter.mpr ⟨List.mem_of_getElem? (i := 1092) rfl, rfl⟩
theorem zw_1090 : (Cond.instanceMethod yX10_count : Cond) ∈ lw_good := List.mem_filter.mpr ⟨List.mem_of_getElem? (i := 1090) (by decide +kernel), rfl⟩
theorem zw_1091 : (Cond.selects RX10 yX10_count yX10_count : Cond) ∈ lw_good := List.mem_filter.mpr ⟨List.mem_of_getElem? (i := 1091) (by decide +kernel), rfl⟩
theorem zw_60 : (Cond.classLink RL 7 RX9 : Cond) ∈ lw_good := List.mem_filter.mpr ⟨List.mem_of_getElem? (i := 60) (by decide +kernel), rfl⟩
theorem zw_62 : (Cond.methodLink RL 9 yX9_init : Cond) ∈ lw_good := List.mem_filter.mpr ⟨List.mem_of_getElem? (i := 62) (by decide +kernel), rfl⟩
theorem zw_731 : (Cond.classLink RL 10 RX10 : Cond) ∈ lw_good := List.mem_filter.mpr ⟨List.mem_of_getElem? (i := 731) (by decide +kernel), rfl⟩
theorem zw_733 : (Cond.methodLink RL 12 yX10_init : Cond) ∈ lw_good := List.mem_filter.mpr ⟨List.mem_of_getElem? (i := 733) (by decide +kernel), rfl⟩
theorem zw_371 : (Cond.methodLink RL 13 yX9_rider : Cond) ∈ lw_good := List.mem_filter.mpr ⟨List.mem_of_getElem? (i := 371) (by decide +kernel), rfl⟩
theorem zw_894 : (Cond.methodLink RL 17 yX10_rider : Cond) ∈ lw_good := List.mem_filter.mpr ⟨List.mem_of_getElem? (i := 894) (by decide +kernel), rfl⟩
theorem zw_382 : (Cond.methodLink RL 18 yX9_road : Cond) ∈ lw_good := List.mem_filter.mpr ⟨List.mem_of_getElem? (i := 382) (by decide +kernel), rfl⟩
theorem zw_901 : (Cond.methodLink RL 22 yX10_road : Cond) ∈ lw_good := List.mem_filter.mpr ⟨List.mem_of_getElem? (i := 901) (by decide +kernel), rfl⟩
theorem zw_390 : (Cond.methodLink RL 23 yX9_rise : Cond) ∈ lw_good := List.mem_filter.mpr ⟨List.mem_of_getElem? (i := 390) (by decide +kernel), rfl⟩
theorem zw_905 : (Cond.methodLink RL 27 yX10_rise : Cond) ∈ lw_good := List.mem_filter.mpr ⟨List.mem_of_getElem? (i := 905) (by decide +kernel), rfl⟩
theorem zw_398 : (Cond.methodLink RL 28 yX9_prime : Cond) ∈ lw_good := List.mem_filter.mpr ⟨List.mem_of_getElem? (i := 398) (by decide +kernel), rfl⟩
theorem zw_909 : (Cond.methodLink RL 32 yX10_prime : Cond) ∈ lw_good := List.mem_filter.mpr ⟨List.mem_of_getElem? (i := 909) (by decide +kernel), rfl⟩
theorem zw_414 : (Cond.methodLink RL 33 yX9_crash : Cond) ∈ lw_good := List.mem_filter.mpr ⟨List.mem_of_getElem? (i := 414) (by decide +kernel), rfl⟩
theorem zw_917 : (Cond.methodLink RL 37 yX10_crash : Cond) ∈ lw_good := List.mem_filter.mpr ⟨List.mem_of_getElem? (i := 917) (by decide +kernel), rfl⟩
theorem zw_422 : (Cond.methodLink RL 38 yX9_feed : Cond) ∈ lw_good := List.mem_filter.mpr ⟨List.mem_of_getElem? (i := 422) (by decide +kernel), rfl⟩
theorem zw_921 : (Cond.methodLink RL 42 yX10_feed : Cond) ∈ lw_good := List.mem_filter.mpr ⟨List.mem_of_getElem? (i := 921) (by decide +kernel), rfl⟩
theorem zw_438 : (Cond.methodLink RL 43 yX9_end : Cond) ∈ lw_good := List.mem_filter.mpr ⟨List.mem_of_getElem? (i := 438) (by decide +kernel), rfl⟩
theorem zw_928 : (Cond.methodLink RL 46 yX10_end : Cond) ∈ lw_good := List.mem_filter.mpr ⟨List.mem_of_getElem? (i := 928) (by decide +kernel), rfl⟩
theorem zw_442 : (Cond.methodLink RL 47 yX9_fault : Cond) ∈ lw_good := List.mem_filter.mpr ⟨List.mem_of_getElem? (i := 442) (by decide +kernel), rfl⟩
theorem zw_932 : (Cond.methodLink RL 51 yX10_fault : Cond) ∈ lw_good := List.mem_filter.mpr ⟨List.mem_of_getElem? (i := 932) (by decide +kernel), rfl⟩
theorem zw_492 : (Cond.methodLink RL 52 yX9_orders : Cond) ∈ lw_good := List.mem_filter.mpr ⟨List.mem_of_getElem? (i := 492) (by decide +kernel), rfl⟩
theorem zw_947 : (Cond.methodLink RL 55 yX10_orders : Cond) ∈ lw_good := List.mem_filter.mpr ⟨List.mem_of_getElem? (i := 947) (by decide +kernel), rfl⟩
theorem zw_501 : (Cond.methodLink RL 56 yX9_choice : Cond) ∈ lw_good := List.mem_filter.mpr ⟨List.mem_of_getElem? (i := 501) (by decide +kernel), rfl⟩
theorem zw_956 : (Cond.methodLink RL 59 yX10_choice : Cond) ∈ lw_good := List.mem_filter.mpr ⟨List.mem_of_getElem? (i := 956) (by decide +kernel), rfl⟩
theorem zw_1093 : (Cond.constantLong RL 60 4294967295 : Cond) ∈ lw_good := List.mem_filter.mpr ⟨List.mem_of_getElem? (i := 1093) (by decide +kernel), rfl⟩
theorem zw_505 : (Cond.methodLink RL 62 yX9_race : Cond) ∈ lw_good := List.mem_filter.mpr ⟨List.mem_of_getElem? (i := 505) (by decide +kernel), rfl⟩
theorem zw_960 : (Cond.methodLink RL 66 yX10_race : Cond) ∈ lw_good := List.mem_filter.mpr ⟨List.mem_of_getElem? (i := 960) (by decide +kernel), rfl⟩
theorem zw_595 : (Cond.methodLink RL 67 yX9_told : Cond) ∈ lw_good := List.mem_filter.mpr ⟨List.mem_of_getElem? (i := 595) (by decide +kernel), rfl⟩
theorem zw_1025 : (Cond.methodLink RL 71 yX10_told : Cond) ∈ lw_good := List.mem_filter.mpr ⟨List.mem_of_getElem? (i := 1025) (by decide +kernel), rfl⟩
theorem zw_614 : (Cond.methodLink RL 72 yX9_at : Cond) ∈ lw_good := List.mem_filter.mpr ⟨List.mem_of_getElem? (i := 614) (by decide +kernel), rfl⟩
theorem zw_1033 : (Cond.methodLink RL 75 yX10_at : Cond) ∈ lw_good := List.mem_filter.mpr ⟨List.mem_of_getElem? (i := 1033) (by decide +kernel), rfl⟩
theorem zw_625 : (Cond.methodLink RL 76 yX9_passed : Cond) ∈ lw_good := List.mem_filter.mpr ⟨List.mem_of_getElem? (i := 625) (by decide +kernel), rfl⟩
theorem zw_1037 : (Cond.methodLink RL 79 yX10_passed : Cond) ∈ lw_good := List.mem_filter.mpr ⟨List.mem_of_getElem? (i := 1037) (by decide +kernel), rfl⟩
theorem zw_633 : (Cond.methodLink RL 80 yX9_metres : Cond) ∈ lw_good := List.mem_filter.mpr ⟨List.mem_of_getElem? (i := 633) (by decide +kernel), rfl⟩
theorem zw_1041 : (Cond.methodLink RL 83 yX10_metres : Cond) ∈ lw_good := List.mem_filter.mpr ⟨List.mem_of_getElem? (i := 1041) (by decide +kernel), rfl⟩
theorem zw_641 : (Cond.methodLink RL 84 yX9_groups : Cond) ∈ lw_good := List.mem_filter.mpr ⟨List.mem_of_getElem? (i := 641) (by decide +kernel), rfl⟩
theorem zw_1045 : (Cond.methodLink RL 87 yX10_groups : Cond) ∈ lw_good := List.mem_filter.mpr ⟨List.mem_of_getElem? (i := 1045) (by decide +kernel), rfl⟩
theorem zw_645 : (Cond.methodLink RL 88 yX9_keep : Cond) ∈ lw_good := List.mem_filter.mpr ⟨List.mem_of_getElem? (i := 645) (by decide +kernel), rfl⟩
theorem zw_1049 : (Cond.methodLink RL 91 yX10_keep : Cond) ∈ lw_good := List.mem_filter.mpr ⟨List.mem_of_getElem? (i := 1049) (by decide +kernel), rfl⟩
theorem zw_661 : (Cond.methodLink RL 92 yX9_limit : Cond) ∈ lw_good := List.mem_filter.mpr ⟨List.mem_of_getElem? (i := 661) (by decide +kernel), rfl⟩
theorem zw_1053 : (Cond.methodLink RL 95 yX10_limit : Cond) ∈ lw_good := List.mem_filter.mpr ⟨List.mem_of_getElem? (i := 1053) (by decide +kernel), rfl⟩
theorem zw_665 : (Cond.methodLink RL 96 yX9_sum : Cond) ∈ lw_good := List.mem_filter.mpr ⟨List.mem_of_getElem? (i := 665) (by decide +kernel), rfl⟩
theorem zw_1057 : (Cond.methodLink RL 99 yX10_sum : Cond) ∈ lw_good := List.mem_filter.mpr ⟨List.mem_of_getElem? (i := 1057) (by decide +kernel), rfl⟩
theorem zw_677 : (Cond.methodLink RL 100 yX9_team : Cond) ∈ lw_good := List.mem_filter.mpr ⟨List.mem_of_getElem? (i := 677) (by decide +kernel), rfl⟩
theorem zw_1069 : (Cond.methodLink RL 103 yX10_team : Cond) ∈ lw_good := List.mem_filter.mpr ⟨List.mem_of_getElem? (i := 1069) (by decide +kernel), rfl⟩
theorem zw_693 : (Cond.methodLink RL 104 yX9_attempt : Cond) ∈ lw_good := List.mem_filter.mpr ⟨List.mem_of_getElem? (i := 693) (by decide +kernel), rfl⟩
theorem zw_1073 : (Cond.methodLink RL 108 yX10_attempt : Cond) ∈ lw_good := List.mem_filter.mpr ⟨List.mem_of_getElem? (i := 1073) (by decide +kernel), rfl⟩
theorem zw_719 : (Cond.methodLink RL 109 yX9_best : Cond) ∈ lw_good := List.mem_filter.mpr ⟨List.mem_of_getElem? (i := 719) (by decide +kernel), rfl⟩
theorem zw_1085 : (Cond.methodLink RL 113 yX10_best : Cond) ∈ lw_good := List.mem_filter.mpr ⟨List.mem_of_getElem? (i := 1085) (by decide +kernel), rfl⟩
theorem zw_723 : (Cond.methodLink RL 114 yX9_count : Cond) ∈ lw_good := List.mem_filter.mpr ⟨List.mem_of_getElem? (i := 723) (by decide +kernel), rfl⟩
theorem zw_1089 : (Cond.methodLink RL 117 yX10_count : Cond) ∈ lw_good := List.mem_filter.mpr ⟨List.mem_of_getElem? (i := 1089) (by decide +kernel), rfl⟩
theorem zi_X0 : ∀ w ∈ wsX00, w ∈ lw_good := zz_ins _ [217, 219, 221, 223, 225] (by decide +kernel) (by decide +kernel)
theorem zi_X1 : ∀ w ∈ wsX10, w ∈ lw_good := zz_ins _ [162, 164, 166, 168, 170] (by decide +kernel) (by decide +kernel)
theorem zi_X2 : ∀ w ∈ wsX20, w ∈ lw_good := zz_ins _ [184, 186, 188, 190, 192] (by decide +kernel) (by decide +kernel)
theorem zi_X3 : ∀ w ∈ wsX30, w ∈ lw_good := zz_ins _ [259, 261, 263, 265, 267, 269, 271, 273, 275, 277, 279, 281, 283, 285, 287, 289] (by decide +kernel) (by decide +kernel)
theorem zi_X4 : ∀ w ∈ wsX40, w ∈ lw_good := zz_ins _ [302, 304] (by decide +kernel) (by decide +kernel)
theorem zi_X5 : ∀ w ∈ wsX50, w ∈ lw_good := zz_ins _ [87, 89, 91, 93, 95] (by decide +kernel) (by decide +kernel)
theorem zi_X6 : ∀ w ∈ wsX60, w ∈ lw_good := zz_ins _ [120, 122, 124, 126, 128, 130, 132] (by decide +kernel) (by decide +kernel)
theorem zi_X7 : ∀ w ∈ wsX70, w ∈ lw_good := zz_ins _ [323, 325, 327, 329, 331] (by decide +kernel) (by decide +kernel)
theorem zi_X8 : ∀ w ∈ wsX80, w ∈ lw_good := zz_ins _ [146, 148] (by decide +kernel) (by decide +kernel)
theorem zi_X9 : ∀ w ∈ wsX90, w ∈ lw_good := zz_ins _ [346, 348, 350, 352, 354, 356, 358, 360, 362, 364, 366, 368] (by decide +kernel) (by decide +kernel)
theorem zi_X10 : ∀ w ∈ wsX100, w ∈ lw_good := zz_ins _ [789, 791, 793, 795, 797, 799, 801, 803, 805, 807, 809, 811, 813, 815, 817, 819, 821, 823, 825, 827, 829, 831, 833, 835, 837, 839, 841, 843, 845, 847, 849, 851, 853, 855, 857, 859, 861, 863, 865, 867, 869, 871, 873, 875, 877, 879, 881, 883, 885, 887, 889, 891] (by decide +kernel) (by decide +kernel)
