theorem zw_206 : (Cond.methodLink RX0 3 objectInit : Cond) ∈ lw_good := List.mem_filter.mpr ⟨List.mem_of_getElem? (i := 206) (by decide +kernel), rfl⟩
theorem zw_66 : (Cond.instanceMethod objectInit : Cond) ∈ lw_good := List.mem_filter.mpr ⟨List.mem_of_getElem? (i := 66) (by decide +kernel), rfl⟩
set_option maxRecDepth 100000 in
theorem zw_67 : (Cond.code objectInit ⟨#[0xb1]⟩ 1 none : Cond) ∈ lw_good := List.mem_filter.mpr ⟨List.mem_of_getElem? (i := 67) rfl, rfl⟩
theorem zw_207 : (Cond.fieldLink RX0 9 "BunchRace$Bunches" "onRoad" "I" : Cond) ∈ lw_good := List.mem_filter.mpr ⟨List.mem_of_getElem? (i := 207) (by decide +kernel), rfl⟩
theorem zw_209 : (Cond.fieldLink RX0 15 "BunchRace$Bunches" "number" "I" : Cond) ∈ lw_good := List.mem_filter.mpr ⟨List.mem_of_getElem? (i := 209) (by decide +kernel), rfl⟩
theorem zw_98 : (Cond.arrayClass .int : Cond) ∈ lw_good := List.mem_filter.mpr ⟨List.mem_of_getElem? (i := 98) (by decide +kernel), rfl⟩
theorem zw_211 : (Cond.fieldLink RX0 18 "BunchRace$Bunches" "order" "[I" : Cond) ∈ lw_good := List.mem_filter.mpr ⟨List.mem_of_getElem? (i := 211) (by decide +kernel), rfl⟩
theorem zw_213 : (Cond.fieldLink RX0 22 "BunchRace$Bunches" "places" "[I" : Cond) ∈ lw_good := List.mem_filter.mpr ⟨List.mem_of_getElem? (i := 213) (by decide +kernel), rfl⟩
theorem zw_215 : (Cond.fieldLink RX0 25 "BunchRace$Bunches" "sizes" "[I" : Cond) ∈ lw_good := List.mem_filter.mpr ⟨List.mem_of_getElem? (i := 215) (by decide +kernel), rfl⟩
theorem zw_156 : (Cond.methodLink RX1 3 objectInit : Cond) ∈ lw_good := List.mem_filter.mpr ⟨List.mem_of_getElem? (i := 156) (by decide +kernel), rfl⟩
theorem zw_157 : (Cond.fieldLink RX1 9 "BunchRace$OrderBook" "clauses" "[I" : Cond) ∈ lw_good := List.mem_filter.mpr ⟨List.mem_of_getElem? (i := 157) (by decide +kernel), rfl⟩
theorem zw_158 : (Cond.fieldLink RX1 15 "BunchRace$OrderBook" "asked" "[I" : Cond) ∈ lw_good := List.mem_filter.mpr ⟨List.mem_of_getElem? (i := 158) (by decide +kernel), rfl⟩
theorem zw_159 : (Cond.fieldLink RX1 18 "BunchRace$OrderBook" "signs" "[I" : Cond) ∈ lw_good := List.mem_filter.mpr ⟨List.mem_of_getElem? (i := 159) (by decide +kernel), rfl⟩
theorem zw_160 : (Cond.fieldLink RX1 21 "BunchRace$OrderBook" "numbers" "[I" : Cond) ∈ lw_good := List.mem_filter.mpr ⟨List.mem_of_getElem? (i := 160) (by decide +kernel), rfl⟩
theorem zw_161 : (Cond.fieldLink RX1 24 "BunchRace$OrderBook" "paces" "[I" : Cond) ∈ lw_good := List.mem_filter.mpr ⟨List.mem_of_getElem? (i := 161) (by decide +kernel), rfl⟩
theorem zw_178 : (Cond.methodLink RX2 3 objectInit : Cond) ∈ lw_good := List.mem_filter.mpr ⟨List.mem_of_getElem? (i := 178) (by decide +kernel), rfl⟩
theorem zw_179 : (Cond.fieldLink RX2 11 "BunchRace$OrderReader" "awaited" "I" : Cond) ∈ lw_good := List.mem_filter.mpr ⟨List.mem_of_getElem? (i := 179) (by decide +kernel), rfl⟩
theorem zw_180 : (Cond.fieldLink RX2 15 "BunchRace$OrderReader" "askedNow" "I" : Cond) ∈ lw_good := List.mem_filter.mpr ⟨List.mem_of_getElem? (i := 180) (by decide +kernel), rfl⟩
theorem zw_181 : (Cond.fieldLink RX2 18 "BunchRace$OrderReader" "signNow" "I" : Cond) ∈ lw_good := List.mem_filter.mpr ⟨List.mem_of_getElem? (i := 181) (by decide +kernel), rfl⟩
theorem zw_182 : (Cond.fieldLink RX2 21 "BunchRace$OrderReader" "numberNow" "I" : Cond) ∈ lw_good := List.mem_filter.mpr ⟨List.mem_of_getElem? (i := 182) (by decide +kernel), rfl⟩
theorem zw_183 : (Cond.fieldLink RX2 24 "BunchRace$OrderReader" "digitsNow" "I" : Cond) ∈ lw_good := List.mem_filter.mpr ⟨List.mem_of_getElem? (i := 183) (by decide +kernel), rfl⟩
theorem zw_297 : (Cond.methodLink RX4 3 objectInit : Cond) ∈ lw_good := List.mem_filter.mpr ⟨List.mem_of_getElem? (i := 297) (by decide +kernel), rfl⟩
theorem zw_298 : (Cond.fieldLink RX4 9 "BunchRace$RaceLog" "metres" "[I" : Cond) ∈ lw_good := List.mem_filter.mpr ⟨List.mem_of_getElem? (i := 298) (by decide +kernel), rfl⟩
theorem zw_300 : (Cond.fieldLink RX4 15 "BunchRace$RaceLog" "groups" "[I" : Cond) ∈ lw_good := List.mem_filter.mpr ⟨List.mem_of_getElem? (i := 300) (by decide +kernel), rfl⟩
theorem zw_73 : (Cond.methodLink RX5 3 objectInit : Cond) ∈ lw_good := List.mem_filter.mpr ⟨List.mem_of_getElem? (i := 73) (by decide +kernel), rfl⟩
theorem zw_74 : (Cond.fieldLink RX5 9 "BunchRace$Riders" "number" "I" : Cond) ∈ lw_good := List.mem_filter.mpr ⟨List.mem_of_getElem? (i := 74) (by decide +kernel), rfl⟩
theorem zw_78 : (Cond.fieldLink RX5 15 "BunchRace$Riders" "teams" "[I" : Cond) ∈ lw_good := List.mem_filter.mpr ⟨List.mem_of_getElem? (i := 78) (by decide +kernel), rfl⟩
theorem zw_81 : (Cond.fieldLink RX5 19 "BunchRace$Riders" "steady" "[I" : Cond) ∈ lw_good := List.mem_filter.mpr ⟨List.mem_of_getElem? (i := 81) (by decide +kernel), rfl⟩
theorem zw_83 : (Cond.fieldLink RX5 22 "BunchRace$Riders" "full" "[I" : Cond) ∈ lw_good := List.mem_filter.mpr ⟨List.mem_of_getElem? (i := 83) (by decide +kernel), rfl⟩
theorem zw_85 : (Cond.fieldLink RX5 25 "BunchRace$Riders" "climb" "[I" : Cond) ∈ lw_good := List.mem_filter.mpr ⟨List.mem_of_getElem? (i := 85) (by decide +kernel), rfl⟩
theorem zw_104 : (Cond.methodLink RX6 3 objectInit : Cond) ∈ lw_good := List.mem_filter.mpr ⟨List.mem_of_getElem? (i := 104) (by decide +kernel), rfl⟩
theorem zw_105 : (Cond.fieldLink RX6 9 "BunchRace$Road" "kilometres" "I" : Cond) ∈ lw_good := List.mem_filter.mpr ⟨List.mem_of_getElem? (i := 105) (by decide +kernel), rfl⟩
theorem zw_107 : (Cond.fieldLink RX6 15 "BunchRace$Road" "rises" "[I" : Cond) ∈ lw_good := List.mem_filter.mpr ⟨List.mem_of_getElem? (i := 107) (by decide +kernel), rfl⟩
theorem zw_109 : (Cond.fieldLink RX6 19 "BunchRace$Road" "winds" "[I" : Cond) ∈ lw_good := List.mem_filter.mpr ⟨List.mem_of_getElem? (i := 109) (by decide +kernel), rfl⟩
theorem zw_111 : (Cond.fieldLink RX6 22 "BunchRace$Road" "primes" "I" : Cond) ∈ lw_good := List.mem_filter.mpr ⟨List.mem_of_getElem? (i := 111) (by decide +kernel), rfl⟩
theorem zw_114 : (Cond.fieldLink RX6 25 "BunchRace$Road" "primeMetres" "[I" : Cond) ∈ lw_good := List.mem_filter.mpr ⟨List.mem_of_getElem? (i := 114) (by decide +kernel), rfl⟩
theorem zw_116 : (Cond.fieldLink RX6 28 "BunchRace$Road" "crashMetre" "I" : Cond) ∈ lw_good := List.mem_filter.mpr ⟨List.mem_of_getElem? (i := 116) (by decide +kernel), rfl⟩
theorem zw_118 : (Cond.fieldLink RX6 31 "BunchRace$Road" "crashPart" "I" : Cond) ∈ lw_good := List.mem_filter.mpr ⟨List.mem_of_getElem? (i := 118) (by decide +kernel), rfl⟩
theorem zw_312 : (Cond.methodLink RX7 3 objectInit : Cond) ∈ lw_good := List.mem_filter.mpr ⟨List.mem_of_getElem? (i := 312) (by decide +kernel), rfl⟩
theorem zw_313 : (Cond.fieldLink RX7 9 "BunchRace$Stages" "number" "I" : Cond) ∈ lw_good := List.mem_filter.mpr ⟨List.mem_of_getElem? (i := 313) (by decide +kernel), rfl⟩
theorem zw_315 : (Cond.fieldLink RX7 15 "BunchRace$Stages" "limit" "I" : Cond) ∈ lw_good := List.mem_filter.mpr ⟨List.mem_of_getElem? (i := 315) (by decide +kernel), rfl⟩
theorem zw_317 : (Cond.fieldLink RX7 18 "BunchRace$Stages" "totals" "[I" : Cond) ∈ lw_good := List.mem_filter.mpr ⟨List.mem_of_getElem? (i := 317) (by decide +kernel), rfl⟩
theorem zw_319 : (Cond.fieldLink RX7 22 "BunchRace$Stages" "points" "[I" : Cond) ∈ lw_good := List.mem_filter.mpr ⟨List.mem_of_getElem? (i := 319) (by decide +kernel), rfl⟩
theorem zw_228 : (Cond.arrayClass .boolean : Cond) ∈ lw_good := List.mem_filter.mpr ⟨List.mem_of_getElem? (i := 228) (by decide +kernel), rfl⟩
theorem zw_321 : (Cond.fieldLink RX7 25 "BunchRace$Stages" "out" "[Z" : Cond) ∈ lw_good := List.mem_filter.mpr ⟨List.mem_of_getElem? (i := 321) (by decide +kernel), rfl⟩
theorem zw_140 : (Cond.methodLink RX8 3 objectInit : Cond) ∈ lw_good := List.mem_filter.mpr ⟨List.mem_of_getElem? (i := 140) (by decide +kernel), rfl⟩
theorem zw_141 : (Cond.fieldLink RX8 9 "BunchRace$Tape" "length" "I" : Cond) ∈ lw_good := List.mem_filter.mpr ⟨List.mem_of_getElem? (i := 141) (by decide +kernel), rfl⟩
theorem zw_144 : (Cond.fieldLink RX8 15 "BunchRace$Tape" "bytes" "[I" : Cond) ∈ lw_good := List.mem_filter.mpr ⟨List.mem_of_getElem? (i := 144) (by decide +kernel), rfl⟩
theorem zw_200 : (Cond.methodLink RX3 3 objectInit : Cond) ∈ lw_good := List.mem_filter.mpr ⟨List.mem_of_getElem? (i := 200) (by decide +kernel), rfl⟩
theorem zw_229 : (Cond.fieldLink RX3 9 "BunchRace$Race" "minute" "I" : Cond) ∈ lw_good := List.mem_filter.mpr ⟨List.mem_of_getElem? (i := 229) (by decide +kernel), rfl⟩
theorem zw_232 : (Cond.fieldLink RX3 15 "BunchRace$Race" "left" "I" : Cond) ∈ lw_good := List.mem_filter.mpr ⟨List.mem_of_getElem? (i := 232) (by decide +kernel), rfl⟩
theorem zw_234 : (Cond.fieldLink RX3 18 "BunchRace$Race" "primes" "I" : Cond) ∈ lw_good := List.mem_filter.mpr ⟨List.mem_of_getElem? (i := 234) (by decide +kernel), rfl⟩
theorem zw_236 : (Cond.fieldLink RX3 21 "BunchRace$Race" "lot" "J" : Cond) ∈ lw_good := List.mem_filter.mpr ⟨List.mem_of_getElem? (i := 236) (by decide +kernel), rfl⟩
theorem zw_237 : (Cond.fieldLink RX3 25 "BunchRace$Race" "foremost" "I" : Cond) ∈ lw_good := List.mem_filter.mpr ⟨List.mem_of_getElem? (i := 237) (by decide +kernel), rfl⟩
theorem zw_238 : (Cond.fieldLink RX3 28 "BunchRace$Race" "rides" "[Z" : Cond) ∈ lw_good := List.mem_filter.mpr ⟨List.mem_of_getElem? (i := 238) (by decide +kernel), rfl⟩
theorem zw_240 : (Cond.fieldLink RX3 32 "BunchRace$Race" "metres" "[I" : Cond) ∈ lw_good := List.mem_filter.mpr ⟨List.mem_of_getElem? (i := 240) (by decide +kernel), rfl⟩
theorem zw_243 : (Cond.fieldLink RX3 36 "BunchRace$Race" "store" "[I" : Cond) ∈ lw_good := List.mem_filter.mpr ⟨List.mem_of_getElem? (i := 243) (by decide +kernel), rfl⟩
theorem zw_245 : (Cond.fieldLink RX3 39 "BunchRace$Race" "seconds" "[I" : Cond) ∈ lw_good := List.mem_filter.mpr ⟨List.mem_of_getElem? (i := 245) (by decide +kernel), rfl⟩
theorem zw_248 : (Cond.fieldLink RX3 42 "BunchRace$Race" "timesHeld" "[I" : Cond) ∈ lw_good := List.mem_filter.mpr ⟨List.mem_of_getElem? (i := 248) (by decide +kernel), rfl⟩
theorem zw_250 : (Cond.fieldLink RX3 45 "BunchRace$Race" "work" "[I" : Cond) ∈ lw_good := List.mem_filter.mpr ⟨List.mem_of_getElem? (i := 250) (by decide +kernel), rfl⟩
theorem zw_252 : (Cond.fieldLink RX3 48 "BunchRace$Race" "heldFor" "[I" : Cond) ∈ lw_good := List.mem_filter.mpr ⟨List.mem_of_getElem? (i := 252) (by decide +kernel), rfl⟩
theorem zw_253 : (Cond.fieldLink RX3 51 "BunchRace$Race" "primeSeconds" "[I" : Cond) ∈ lw_good := List.mem_filter.mpr ⟨List.mem_of_getElem? (i := 253) (by decide +kernel), rfl⟩
theorem zw_254 : (Cond.fieldLink RX3 54 "BunchRace$Race" "orderRows" "[I" : Cond) ∈ lw_good := List.mem_filter.mpr ⟨List.mem_of_getElem? (i := 254) (by decide +kernel), rfl⟩
theorem zw_201 : (Cond.classLink RX3 57 RX0 : Cond) ∈ lw_good := List.mem_filter.mpr ⟨List.mem_of_getElem? (i := 201) (by decide +kernel), rfl⟩
theorem zw_202 : (Cond.instantiable RX0 5 : Cond) ∈ lw_good := List.mem_filter.mpr ⟨List.mem_of_getElem? (i := 202) (by decide +kernel), rfl⟩
theorem zw_55 : (Cond.initialized RX0 : Cond) ∈ lw_good := List.mem_filter.mpr ⟨List.mem_of_getElem? (i := 55) (by decide +kernel), rfl⟩
set_option maxRecDepth 100000 in
theorem zw_205 : (Cond.code yX0_init cX0_init 1 none : Cond) ∈ lw_good := List.mem_filter.mpr ⟨List.mem_of_getElem? (i := 205) rfl, rfl⟩
theorem zw_204 : (Cond.instanceMethod yX0_init : Cond) ∈ lw_good := List.mem_filter.mpr ⟨List.mem_of_getElem? (i := 204) (by decide +kernel), rfl⟩
theorem zw_256 : (Cond.fieldLink RX3 60 "BunchRace$Race" "bunches" "LBunchRace$Bunches;" : Cond) ∈ lw_good := List.mem_filter.mpr ⟨List.mem_of_getElem? (i := 256) (by decide +kernel), rfl⟩
theorem zw_258 : (Cond.fieldLink RX3 64 "BunchRace$Race" "values" "[I" : Cond) ∈ lw_good := List.mem_filter.mpr ⟨List.mem_of_getElem? (i := 258) (by decide +kernel), rfl⟩
theorem zw_65 : (Cond.methodLink RX9 3 objectInit : Cond) ∈ lw_good := List.mem_filter.mpr ⟨List.mem_of_getElem? (i := 65) (by decide +kernel), rfl⟩
theorem zw_68 : (Cond.classLink RX9 9 RX5 : Cond) ∈ lw_good := List.mem_filter.mpr ⟨List.mem_of_getElem? (i := 68) (by decide +kernel), rfl⟩
theorem zw_69 : (Cond.instantiable RX5 5 : Cond) ∈ lw_good := List.mem_filter.mpr ⟨List.mem_of_getElem? (i := 69) (by decide +kernel), rfl⟩
theorem zw_49 : (Cond.initialized RX5 : Cond) ∈ lw_good := List.mem_filter.mpr ⟨List.mem_of_getElem? (i := 49) (by decide +kernel), rfl⟩
set_option maxRecDepth 100000 in
theorem zw_72 : (Cond.code yX5_init cX5_init 1 none : Cond) ∈ lw_good := List.mem_filter.mpr ⟨List.mem_of_getElem? (i := 72) rfl, rfl⟩
theorem zw_71 : (Cond.instanceMethod yX5_init : Cond) ∈ lw_good := List.mem_filter.mpr ⟨List.mem_of_getElem? (i := 71) (by decide +kernel), rfl⟩
theorem zw_334 : (Cond.fieldLink RX9 12 "BunchRace" "riders" "LBunchRace$Riders;" : Cond) ∈ lw_good := List.mem_filter.mpr ⟨List.mem_of_getElem? (i := 334) (by decide +kernel), rfl⟩
theorem zw_99 : (Cond.classLink RX9 16 RX6 : Cond) ∈ lw_good := List.mem_filter.mpr ⟨List.mem_of_getElem? (i := 99) (by decide +kernel), rfl⟩
theorem zw_100 : (Cond.instantiable RX6 7 : Cond) ∈ lw_good := List.mem_filter.mpr ⟨List.mem_of_getElem? (i := 100) (by decide +kernel), rfl⟩
theorem zw_50 : (Cond.initialized RX6 : Cond) ∈ lw_good := List.mem_filter.mpr ⟨List.mem_of_getElem? (i := 50) (by decide +kernel), rfl⟩
set_option maxRecDepth 100000 in
theorem zw_103 : (Cond.code yX6_init cX6_init 1 none : Cond) ∈ lw_good := List.mem_filter.mpr ⟨List.mem_of_getElem? (i := 103) rfl, rfl⟩
theorem zw_102 : (Cond.instanceMethod yX6_init : Cond) ∈ lw_good := List.mem_filter.mpr ⟨List.mem_of_getElem? (i := 102) (by decide +kernel), rfl⟩
theorem zw_335 : (Cond.fieldLink RX9 19 "BunchRace" "road" "LBunchRace$Road;" : Cond) ∈ lw_good := List.mem_filter.mpr ⟨List.mem_of_getElem? (i := 335) (by decide +kernel), rfl⟩
theorem zw_135 : (Cond.classLink RX9 23 RX8 : Cond) ∈ lw_good := List.mem_filter.mpr ⟨List.mem_of_getElem? (i := 135) (by decide +kernel), rfl⟩
theorem zw_136 : (Cond.instantiable RX8 2 : Cond) ∈ lw_good := List.mem_filter.mpr ⟨List.mem_of_getElem? (i := 136) (by decide +kernel), rfl⟩
theorem zw_51 : (Cond.initialized RX8 : Cond) ∈ lw_good := List.mem_filter.mpr ⟨List.mem_of_getElem? (i := 51) (by decide +kernel), rfl⟩
set_option maxRecDepth 100000 in
theorem zw_139 : (Cond.code yX8_init cX8_init 1 none : Cond) ∈ lw_good := List.mem_filter.mpr ⟨List.mem_of_getElem? (i := 139) rfl, rfl⟩
theorem zw_138 : (Cond.instanceMethod yX8_init : Cond) ∈ lw_good := List.mem_filter.mpr ⟨List.mem_of_getElem? (i := 138) (by decide +kernel), rfl⟩
theorem zw_336 : (Cond.fieldLink RX9 26 "BunchRace" "tape" "LBunchRace$Tape;" : Cond) ∈ lw_good := List.mem_filter.mpr ⟨List.mem_of_getElem? (i := 336) (by decide +kernel), rfl⟩
theorem zw_151 : (Cond.classLink RX9 30 RX1 : Cond) ∈ lw_good := List.mem_filter.mpr ⟨List.mem_of_getElem? (i := 151) (by decide +kernel), rfl⟩
theorem zw_152 : (Cond.instantiable RX1 5 : Cond) ∈ lw_good := List.mem_filter.mpr ⟨List.mem_of_getElem? (i := 152) (by decide +kernel), rfl⟩
theorem zw_52 : (Cond.initialized RX1 : Cond) ∈ lw_good := List.mem_filter.mpr ⟨List.mem_of_getElem? (i := 52) (by decide +kernel), rfl⟩
set_option maxRecDepth 100000 in
theorem zw_155 : (Cond.code yX1_init cX1_init 1 none : Cond) ∈ lw_good := List.mem_filter.mpr ⟨List.mem_of_getElem? (i := 155) rfl, rfl⟩
theorem zw_154 : (Cond.instanceMethod yX1_init : Cond) ∈ lw_good := List.mem_filter.mpr ⟨List.mem_of_getElem? (i := 154) (by decide +kernel), rfl⟩
theorem zw_337 : (Cond.fieldLink RX9 33 "BunchRace" "book" "LBunchRace$OrderBook;" : Cond) ∈ lw_good := List.mem_filter.mpr ⟨List.mem_of_getElem? (i := 337) (by decide +kernel), rfl⟩
theorem zw_173 : (Cond.classLink RX9 37 RX2 : Cond) ∈ lw_good := List.mem_filter.mpr ⟨List.mem_of_getElem? (i := 173) (by decide +kernel), rfl⟩
theorem zw_174 : (Cond.instantiable RX2 5 : Cond) ∈ lw_good := List.mem_filter.mpr ⟨List.mem_of_getElem? (i := 174) (by decide +kernel), rfl⟩
theorem zw_53 : (Cond.initialized RX2 : Cond) ∈ lw_good := List.mem_filter.mpr ⟨List.mem_of_getElem? (i := 53) (by decide +kernel), rfl⟩
set_option maxRecDepth 100000 in
theorem zw_177 : (Cond.code yX2_init cX2_init 1 none : Cond) ∈ lw_good := List.mem_filter.mpr ⟨List.mem_of_getElem? (i := 177) rfl, rfl⟩
theorem zw_176 : (Cond.instanceMethod yX2_init : Cond) ∈ lw_good := List.mem_filter.mpr ⟨List.mem_of_getElem? (i := 176) (by decide +kernel), rfl⟩
theorem zw_338 : (Cond.fieldLink RX9 40 "BunchRace" "reader" "LBunchRace$OrderReader;" : Cond) ∈ lw_good := List.mem_filter.mpr ⟨List.mem_of_getElem? (i := 338) (by decide +kernel), rfl⟩
theorem zw_195 : (Cond.classLink RX9 44 RX3 : Cond) ∈ lw_good := List.mem_filter.mpr ⟨List.mem_of_getElem? (i := 195) (by decide +kernel), rfl⟩
theorem zw_196 : (Cond.instantiable RX3 16 : Cond) ∈ lw_good := List.mem_filter.mpr ⟨List.mem_of_getElem? (i := 196) (by decide +kernel), rfl⟩
theorem zw_54 : (Cond.initialized RX3 : Cond) ∈ lw_good := List.mem_filter.mpr ⟨List.mem_of_getElem? (i := 54) (by decide +kernel), rfl⟩
set_option maxRecDepth 100000 in
theorem zw_199 : (Cond.code yX3_init cX3_init 1 none : Cond) ∈ lw_good := List.mem_filter.mpr ⟨List.mem_of_getElem? (i := 199) rfl, rfl⟩
theorem zw_198 : (Cond.instanceMethod yX3_init : Cond) ∈ lw_good := List.mem_filter.mpr ⟨List.mem_of_getElem? (i := 198) (by decide +kernel), rfl⟩
theorem zw_339 : (Cond.fieldLink RX9 47 "BunchRace" "latest" "LBunchRace$Race;" : Cond) ∈ lw_good := List.mem_filter.mpr ⟨List.mem_of_getElem? (i := 339) (by decide +kernel), rfl⟩
theorem zw_292 : (Cond.classLink RX9 51 RX4 : Cond) ∈ lw_good := List.mem_filter.mpr ⟨List.mem_of_getElem? (i := 292) (by decide +kernel), rfl⟩
theorem zw_293 : (Cond.instantiable RX4 2 : Cond) ∈ lw_good := List.mem_filter.mpr ⟨List.mem_of_getElem? (i := 293) (by decide +kernel), rfl⟩
theorem zw_56 : (Cond.initialized RX4 : Cond) ∈ lw_good := List.mem_filter.mpr ⟨List.mem_of_getElem? (i := 56) (by decide +kernel), rfl⟩
set_option maxRecDepth 100000 in
theorem zw_296 : (Cond.code yX4_init cX4_init 1 none : Cond) ∈ lw_good := List.mem_filter.mpr ⟨List.mem_of_getElem? (i := 296) rfl, rfl⟩
theorem zw_295 : (Cond.instanceMethod yX4_init : Cond) ∈ lw_good := List.mem_filter.mpr ⟨List.mem_of_getElem? (i := 295) (by decide +kernel), rfl⟩
theorem zw_340 : (Cond.fieldLink RX9 54 "BunchRace" "log" "LBunchRace$RaceLog;" : Cond) ∈ lw_good := List.mem_filter.mpr ⟨List.mem_of_getElem? (i := 340) (by decide +kernel), rfl⟩
theorem zw_341 : (Cond.fieldLink RX9 58 "BunchRace" "trial" "LBunchRace$Race;" : Cond) ∈ lw_good := List.mem_filter.mpr ⟨List.mem_of_getElem? (i := 341) (by decide +kernel), rfl⟩
theorem zw_307 : (Cond.classLink RX9 61 RX7 : Cond) ∈ lw_good := List.mem_filter.mpr ⟨List.mem_of_getElem? (i := 307) (by decide +kernel), rfl⟩
theorem zw_308 : (Cond.instantiable RX7 5 : Cond) ∈ lw_good := List.mem_filter.mpr ⟨List.mem_of_getElem? (i := 308) (by decide +kernel), rfl⟩
theorem zw_57 : (Cond.initialized RX7 : Cond) ∈ lw_good := List.mem_filter.mpr ⟨List.mem_of_getElem? (i := 57) (by decide +kernel), rfl⟩
set_option maxRecDepth 100000 in
theorem zw_311 : (Cond.code yX7_init cX7_init 1 none : Cond) ∈ lw_good := List.mem_filter.mpr ⟨List.mem_of_getElem? (i := 311) rfl, rfl⟩
theorem zw_310 : (Cond.instanceMethod yX7_init : Cond) ∈ lw_good := List.mem_filter.mpr ⟨List.mem_of_getElem? (i := 310) (by decide +kernel), rfl⟩
theorem zw_342 : (Cond.fieldLink RX9 64 "BunchRace" "stages" "LBunchRace$Stages;" : Cond) ∈ lw_good := List.mem_filter.mpr ⟨List.mem_of_getElem? (i := 342) (by decide +kernel), rfl⟩
theorem zw_343 : (Cond.fieldLink RX9 68 "BunchRace" "choices" "I" : Cond) ∈ lw_good := List.mem_filter.mpr ⟨List.mem_of_getElem? (i := 343) (by decide +kernel), rfl⟩
theorem zw_344 : (Cond.fieldLink RX9 72 "BunchRace" "raced" "Z" : Cond) ∈ lw_good := List.mem_filter.mpr ⟨List.mem_of_getElem? (i := 344) (by decide +kernel), rfl⟩
theorem zw_345 : (Cond.fieldLink RX9 76 "BunchRace" "kept" "Z" : Cond) ∈ lw_good := List.mem_filter.mpr ⟨List.mem_of_getElem? (i := 345) (by decide +kernel), rfl⟩
theorem zw_736 : (Cond.methodLink RX10 3 objectInit : Cond) ∈ lw_good := List.mem_filter.mpr ⟨List.mem_of_getElem? (i := 736) (by decide +kernel), rfl⟩
theorem zw_738 : (Cond.fieldLink RX10 9 "BunchRaceModel" "kms" "I" : Cond) ∈ lw_good := List.mem_filter.mpr ⟨List.mem_of_getElem? (i := 738) (by decide +kernel), rfl⟩
theorem zw_740 : (Cond.fieldLink RX10 13 "BunchRaceModel" "crash" "I" : Cond) ∈ lw_good := List.mem_filter.mpr ⟨List.mem_of_getElem? (i := 740) (by decide +kernel), rfl⟩
theorem zw_744 : (Cond.fieldLink RX10 16 "BunchRaceModel" "limit" "I" : Cond) ∈ lw_good := List.mem_filter.mpr ⟨List.mem_of_getElem? (i := 744) (by decide +kernel), rfl⟩
theorem zw_745 : (Cond.fieldLink RX10 19 "BunchRaceModel" "teamOf" "[I" : Cond) ∈ lw_good := List.mem_filter.mpr ⟨List.mem_of_getElem? (i := 745) (by decide +kernel), rfl⟩
theorem zw_746 : (Cond.fieldLink RX10 23 "BunchRaceModel" "steady" "[I" : Cond) ∈ lw_good := List.mem_filter.mpr ⟨List.mem_of_getElem? (i := 746) (by decide +kernel), rfl⟩
theorem zw_747 : (Cond.fieldLink RX10 26 "BunchRaceModel" "full" "[I" : Cond) ∈ lw_good := List.mem_filter.mpr ⟨List.mem_of_getElem? (i := 747) (by decide +kernel), rfl⟩
theorem zw_748 : (Cond.fieldLink RX10 29 "BunchRaceModel" "climb" "[I" : Cond) ∈ lw_good := List.mem_filter.mpr ⟨List.mem_of_getElem? (i := 748) (by decide +kernel), rfl⟩
theorem zw_749 : (Cond.fieldLink RX10 32 "BunchRaceModel" "rises" "[I" : Cond) ∈ lw_good := List.mem_filter.mpr ⟨List.mem_of_getElem? (i := 749) (by decide +kernel), rfl⟩
theorem zw_750 : (Cond.fieldLink RX10 35 "BunchRaceModel" "winds" "[I" : Cond) ∈ lw_good := List.mem_filter.mpr ⟨List.mem_of_getElem? (i := 750) (by decide +kernel), rfl⟩
theorem zw_751 : (Cond.fieldLink RX10 38 "BunchRaceModel" "primeAt" "[I" : Cond) ∈ lw_good := List.mem_filter.mpr ⟨List.mem_of_getElem? (i := 751) (by decide +kernel), rfl⟩
theorem zw_752 : (Cond.fieldLink RX10 41 "BunchRaceModel" "tape" "[I" : Cond) ∈ lw_good := List.mem_filter.mpr ⟨List.mem_of_getElem? (i := 752) (by decide +kernel), rfl⟩
theorem zw_756 : (Cond.fieldLink RX10 44 "BunchRaceModel" "clauses" "[I" : Cond) ∈ lw_good := List.mem_filter.mpr ⟨List.mem_of_getElem? (i := 756) (by decide +kernel), rfl⟩
theorem zw_757 : (Cond.fieldLink RX10 47 "BunchRaceModel" "letter" "[I" : Cond) ∈ lw_good := List.mem_filter.mpr ⟨List.mem_of_getElem? (i := 757) (by decide +kernel), rfl⟩
theorem zw_758 : (Cond.fieldLink RX10 50 "BunchRaceModel" "sign" "[I" : Cond) ∈ lw_good := List.mem_filter.mpr ⟨List.mem_of_getElem? (i := 758) (by decide +kernel), rfl⟩
theorem zw_759 : (Cond.fieldLink RX10 53 "BunchRaceModel" "bar" "[I" : Cond) ∈ lw_good := List.mem_filter.mpr ⟨List.mem_of_getElem? (i := 759) (by decide +kernel), rfl⟩
theorem zw_760 : (Cond.fieldLink RX10 56 "BunchRaceModel" "pace" "[I" : Cond) ∈ lw_good := List.mem_filter.mpr ⟨List.mem_of_getElem? (i := 760) (by decide +kernel), rfl⟩
theorem zw_761 : (Cond.fieldLink RX10 59 "BunchRaceModel" "rides" "[Z" : Cond) ∈ lw_good := List.mem_filter.mpr ⟨List.mem_of_getElem? (i := 761) (by decide +kernel), rfl⟩
theorem zw_762 : (Cond.fieldLink RX10 63 "BunchRaceModel" "isOut" "[Z" : Cond) ∈ lw_good := List.mem_filter.mpr ⟨List.mem_of_getElem? (i := 762) (by decide +kernel), rfl⟩
theorem zw_763 : (Cond.fieldLink RX10 66 "BunchRaceModel" "metre" "[I" : Cond) ∈ lw_good := List.mem_filter.mpr ⟨List.mem_of_getElem? (i := 763) (by decide +kernel), rfl⟩
theorem zw_764 : (Cond.fieldLink RX10 69 "BunchRaceModel" "charge" "[I" : Cond) ∈ lw_good := List.mem_filter.mpr ⟨List.mem_of_getElem? (i := 764) (by decide +kernel), rfl⟩
theorem zw_765 : (Cond.fieldLink RX10 72 "BunchRaceModel" "held" "[I" : Cond) ∈ lw_good := List.mem_filter.mpr ⟨List.mem_of_getElem? (i := 765) (by decide +kernel), rfl⟩
theorem zw_766 : (Cond.fieldLink RX10 75 "BunchRaceModel" "seconds" "[I" : Cond) ∈ lw_good := List.mem_filter.mpr ⟨List.mem_of_getElem? (i := 766) (by decide +kernel), rfl⟩
theorem zw_767 : (Cond.fieldLink RX10 78 "BunchRaceModel" "heldOften" "[I" : Cond) ∈ lw_good := List.mem_filter.mpr ⟨List.mem_of_getElem? (i := 767) (by decide +kernel), rfl⟩
theorem zw_768 : (Cond.fieldLink RX10 81 "BunchRaceModel" "work" "[I" : Cond) ∈ lw_good := List.mem_filter.mpr ⟨List.mem_of_getElem? (i := 768) (by decide +kernel), rfl⟩
theorem zw_769 : (Cond.fieldLink RX10 84 "BunchRaceModel" "primeSeconds" "[I" : Cond) ∈ lw_good := List.mem_filter.mpr ⟨List.mem_of_getElem? (i := 769) (by decide +kernel), rfl⟩
theorem zw_772 : (Cond.fieldLink RX10 87 "BunchRaceModel" "row" "[I" : Cond) ∈ lw_good := List.mem_filter.mpr ⟨List.mem_of_getElem? (i := 772) (by decide +kernel), rfl⟩
theorem zw_774 : (Cond.fieldLink RX10 90 "BunchRaceModel" "groupSize" "[I" : Cond) ∈ lw_good := List.mem_filter.mpr ⟨List.mem_of_getElem? (i := 774) (by decide +kernel), rfl⟩
theorem zw_775 : (Cond.fieldLink RX10 93 "BunchRaceModel" "place" "[I" : Cond) ∈ lw_good := List.mem_filter.mpr ⟨List.mem_of_getElem? (i := 775) (by decide +kernel), rfl⟩
theorem zw_776 : (Cond.fieldLink RX10 96 "BunchRaceModel" "stood" "[I" : Cond) ∈ lw_good := List.mem_filter.mpr ⟨List.mem_of_getElem? (i := 776) (by decide +kernel), rfl⟩
theorem zw_777 : (Cond.fieldLink RX10 99 "BunchRaceModel" "history" "[I" : Cond) ∈ lw_good := List.mem_filter.mpr ⟨List.mem_of_getElem? (i := 777) (by decide +kernel), rfl⟩
theorem zw_778 : (Cond.fieldLink RX10 102 "BunchRaceModel" "groupHistory" "[I" : Cond) ∈ lw_good := List.mem_filter.mpr ⟨List.mem_of_getElem? (i := 778) (by decide +kernel), rfl⟩
theorem zw_783 : (Cond.fieldLink RX10 105 "BunchRaceModel" "didRide" "[Z" : Cond) ∈ lw_good := List.mem_filter.mpr ⟨List.mem_of_getElem? (i := 783) (by decide +kernel), rfl⟩
theorem zw_784 : (Cond.fieldLink RX10 108 "BunchRaceModel" "toldRow" "[I" : Cond) ∈ lw_good := List.mem_filter.mpr ⟨List.mem_of_getElem? (i := 784) (by decide +kernel), rfl⟩
theorem zw_785 : (Cond.fieldLink RX10 111 "BunchRaceModel" "passedBy" "[I" : Cond) ∈ lw_good := List.mem_filter.mpr ⟨List.mem_of_getElem? (i := 785) (by decide +kernel), rfl⟩
theorem zw_786 : (Cond.fieldLink RX10 114 "BunchRaceModel" "total" "[I" : Cond) ∈ lw_good := List.mem_filter.mpr ⟨List.mem_of_getElem? (i := 786) (by decide +kernel), rfl⟩
theorem zw_787 : (Cond.fieldLink RX10 117 "BunchRaceModel" "points" "[I" : Cond) ∈ lw_good := List.mem_filter.mpr ⟨List.mem_of_getElem? (i := 787) (by decide +kernel), rfl⟩
theorem zw_788 : (Cond.fieldLink RX10 120 "BunchRaceModel" "used" "[Z" : Cond) ∈ lw_good := List.mem_filter.mpr ⟨List.mem_of_getElem? (i := 788) (by decide +kernel), rfl⟩
set_option maxRecDepth 100000 in
theorem zw_381 : (Cond.code yX9_isTeam cX9_isTeam 1 (some .boolean) : Cond) ∈ lw_good := List.mem_filter.mpr ⟨List.mem_of_getElem? (i := 381) rfl, rfl⟩
theorem zw_48 : (Cond.initialized RX9 : Cond) ∈ lw_good := List.mem_filter.mpr ⟨List.mem_of_getElem? (i := 48) (by decide +kernel), rfl⟩
theorem zw_380 : (Cond.static yX9_isTeam : Cond) ∈ lw_good := List.mem_filter.mpr ⟨List.mem_of_getElem? (i := 380) (by decide +kernel), rfl⟩
theorem zw_314 : (Cond.fieldLink RX9 79 "BunchRace$Stages" "number" "I" : Cond) ∈ lw_good := List.mem_filter.mpr ⟨List.mem_of_getElem? (i := 314) (by decide +kernel), rfl⟩
set_option maxRecDepth 100000 in
theorem zw_378 : (Cond.code yX5_add cX5_add 5 (some .int) : Cond) ∈ lw_good := List.mem_filter.mpr ⟨List.mem_of_getElem? (i := 378) rfl, rfl⟩
theorem zw_375 : (Cond.methodLink RX9 82 yX5_add : Cond) ∈ lw_good := List.mem_filter.mpr ⟨List.mem_of_getElem? (i := 375) (by decide +kernel), rfl⟩
theorem zw_376 : (Cond.instanceMethod yX5_add : Cond) ∈ lw_good := List.mem_filter.mpr ⟨List.mem_of_getElem? (i := 376) (by decide +kernel), rfl⟩
theorem zw_377 : (Cond.selects RX5 yX5_add yX5_add : Cond) ∈ lw_good := List.mem_filter.mpr ⟨List.mem_of_getElem? (i := 377) (by decide +kernel), rfl⟩
set_option maxRecDepth 100000 in
theorem zw_389 : (Cond.code yX6_renew cX6_renew 3 (some .boolean) : Cond) ∈ lw_good := List.mem_filter.mpr ⟨List.mem_of_getElem? (i := 389) rfl, rfl⟩
theorem zw_386 : (Cond.methodLink RX9 86 yX6_renew : Cond) ∈ lw_good := List.mem_filter.mpr ⟨List.mem_of_getElem? (i := 386) (by decide +kernel), rfl⟩
theorem zw_387 : (Cond.instanceMethod yX6_renew : Cond) ∈ lw_good := List.mem_filter.mpr ⟨List.mem_of_getElem? (i := 387) (by decide +kernel), rfl⟩
theorem zw_388 : (Cond.selects RX6 yX6_renew yX6_renew : Cond) ∈ lw_good := List.mem_filter.mpr ⟨List.mem_of_getElem? (i := 388) (by decide +kernel), rfl⟩
set_option maxRecDepth 100000 in
theorem zw_397 : (Cond.code yX6_shape cX6_shape 4 (some .boolean) : Cond) ∈ lw_good := List.mem_filter.mpr ⟨List.mem_of_getElem? (i := 397) rfl, rfl⟩
theorem zw_394 : (Cond.methodLink RX9 90 yX6_shape : Cond) ∈ lw_good := List.mem_filter.mpr ⟨List.mem_of_getElem? (i := 394) (by decide +kernel), rfl⟩
theorem zw_395 : (Cond.instanceMethod yX6_shape : Cond) ∈ lw_good := List.mem_filter.mpr ⟨List.mem_of_getElem? (i := 395) (by decide +kernel), rfl⟩
theorem zw_396 : (Cond.selects RX6 yX6_shape yX6_shape : Cond) ∈ lw_good := List.mem_filter.mpr ⟨List.mem_of_getElem? (i := 396) (by decide +kernel), rfl⟩
set_option maxRecDepth 100000 in
theorem zw_413 : (Cond.code yX6_length cX6_length 1 (some .int) : Cond) ∈ lw_good := List.mem_filter.mpr ⟨List.mem_of_getElem? (i := 413) rfl, rfl⟩
theorem zw_410 : (Cond.methodLink RX6 34 yX6_length : Cond) ∈ lw_good := List.mem_filter.mpr ⟨List.mem_of_getElem? (i := 410) (by decide +kernel), rfl⟩
theorem zw_411 : (Cond.instanceMethod yX6_length : Cond) ∈ lw_good := List.mem_filter.mpr ⟨List.mem_of_getElem? (i := 411) (by decide +kernel), rfl⟩
theorem zw_412 : (Cond.selects RX6 yX6_length yX6_length : Cond) ∈ lw_good := List.mem_filter.mpr ⟨List.mem_of_getElem? (i := 412) (by decide +kernel), rfl⟩
set_option maxRecDepth 100000 in
theorem zw_409 : (Cond.code yX6_isBetweenEnds cX6_isBetweenEnds 2 (some .boolean) : Cond) ∈ lw_good := List.mem_filter.mpr ⟨List.mem_of_getElem? (i := 409) rfl, rfl⟩
theorem zw_406 : (Cond.methodLink RX6 38 yX6_isBetweenEnds : Cond) ∈ lw_good := List.mem_filter.mpr ⟨List.mem_of_getElem? (i := 406) (by decide +kernel), rfl⟩
theorem zw_407 : (Cond.instanceMethod yX6_isBetweenEnds : Cond) ∈ lw_good := List.mem_filter.mpr ⟨List.mem_of_getElem? (i := 407) (by decide +kernel), rfl⟩
theorem zw_408 : (Cond.selects RX6 yX6_isBetweenEnds yX6_isBetweenEnds : Cond) ∈ lw_good := List.mem_filter.mpr ⟨List.mem_of_getElem? (i := 408) (by decide +kernel), rfl⟩
set_option maxRecDepth 100000 in
theorem zw_405 : (Cond.code yX6_addPrime cX6_addPrime 2 (some .int) : Cond) ∈ lw_good := List.mem_filter.mpr ⟨List.mem_of_getElem? (i := 405) rfl, rfl⟩
theorem zw_402 : (Cond.methodLink RX9 94 yX6_addPrime : Cond) ∈ lw_good := List.mem_filter.mpr ⟨List.mem_of_getElem? (i := 402) (by decide +kernel), rfl⟩
theorem zw_403 : (Cond.instanceMethod yX6_addPrime : Cond) ∈ lw_good := List.mem_filter.mpr ⟨List.mem_of_getElem? (i := 403) (by decide +kernel), rfl⟩
theorem zw_404 : (Cond.selects RX6 yX6_addPrime yX6_addPrime : Cond) ∈ lw_good := List.mem_filter.mpr ⟨List.mem_of_getElem? (i := 404) (by decide +kernel), rfl⟩
set_option maxRecDepth 100000 in
theorem zw_421 : (Cond.code yX6_putCrash cX6_putCrash 3 (some .boolean) : Cond) ∈ lw_good := List.mem_filter.mpr ⟨List.mem_of_getElem? (i := 421) rfl, rfl⟩
theorem zw_418 : (Cond.methodLink RX9 98 yX6_putCrash : Cond) ∈ lw_good := List.mem_filter.mpr ⟨List.mem_of_getElem? (i := 418) (by decide +kernel), rfl⟩
theorem zw_419 : (Cond.instanceMethod yX6_putCrash : Cond) ∈ lw_good := List.mem_filter.mpr ⟨List.mem_of_getElem? (i := 419) (by decide +kernel), rfl⟩
theorem zw_420 : (Cond.selects RX6 yX6_putCrash yX6_putCrash : Cond) ∈ lw_good := List.mem_filter.mpr ⟨List.mem_of_getElem? (i := 420) (by decide +kernel), rfl⟩
set_option maxRecDepth 100000 in
theorem zw_433 : (Cond.code yX8_byteOf cX8_byteOf 3 (some .int) : Cond) ∈ lw_good := List.mem_filter.mpr ⟨List.mem_of_getElem? (i := 433) rfl, rfl⟩
theorem zw_430 : (Cond.methodLink RX8 19 yX8_byteOf : Cond) ∈ lw_good := List.mem_filter.mpr ⟨List.mem_of_getElem? (i := 430) (by decide +kernel), rfl⟩
theorem zw_431 : (Cond.instanceMethod yX8_byteOf : Cond) ∈ lw_good := List.mem_filter.mpr ⟨List.mem_of_getElem? (i := 431) (by decide +kernel), rfl⟩
theorem zw_432 : (Cond.selects RX8 yX8_byteOf yX8_byteOf : Cond) ∈ lw_good := List.mem_filter.mpr ⟨List.mem_of_getElem? (i := 432) (by decide +kernel), rfl⟩
set_option maxRecDepth 100000 in
theorem zw_429 : (Cond.code yX8_bytesIn cX8_bytesIn 4 (some .int) : Cond) ∈ lw_good := List.mem_filter.mpr ⟨List.mem_of_getElem? (i := 429) rfl, rfl⟩
theorem zw_426 : (Cond.methodLink RX9 102 yX8_bytesIn : Cond) ∈ lw_good := List.mem_filter.mpr ⟨List.mem_of_getElem? (i := 426) (by decide +kernel), rfl⟩
theorem zw_427 : (Cond.instanceMethod yX8_bytesIn : Cond) ∈ lw_good := List.mem_filter.mpr ⟨List.mem_of_getElem? (i := 427) (by decide +kernel), rfl⟩
theorem zw_428 : (Cond.selects RX8 yX8_bytesIn yX8_bytesIn : Cond) ∈ lw_good := List.mem_filter.mpr ⟨List.mem_of_getElem? (i := 428) (by decide +kernel), rfl⟩
theorem zw_143 : (Cond.fieldLink RX9 105 "BunchRace$Tape" "length" "I" : Cond) ∈ lw_good := List.mem_filter.mpr ⟨List.mem_of_getElem? (i := 143) (by decide +kernel), rfl⟩
set_option maxRecDepth 100000 in
theorem zw_437 : (Cond.code yX8_append cX8_append 4 none : Cond) ∈ lw_good := List.mem_filter.mpr ⟨List.mem_of_getElem? (i := 437) rfl, rfl⟩
theorem zw_434 : (Cond.methodLink RX9 108 yX8_append : Cond) ∈ lw_good := List.mem_filter.mpr ⟨List.mem_of_getElem? (i := 434) (by decide +kernel), rfl⟩
theorem zw_435 : (Cond.instanceMethod yX8_append : Cond) ∈ lw_good := List.mem_filter.mpr ⟨List.mem_of_getElem? (i := 435) (by decide +kernel), rfl⟩
theorem zw_436 : (Cond.selects RX8 yX8_append yX8_append : Cond) ∈ lw_good := List.mem_filter.mpr ⟨List.mem_of_getElem? (i := 436) (by decide +kernel), rfl⟩
set_option maxRecDepth 100000 in
theorem zw_453 : (Cond.code yX1_clearDraft cX1_clearDraft 1 none : Cond) ∈ lw_good := List.mem_filter.mpr ⟨List.mem_of_getElem? (i := 453) rfl, rfl⟩
theorem zw_450 : (Cond.methodLink RX2 27 yX1_clearDraft : Cond) ∈ lw_good := List.mem_filter.mpr ⟨List.mem_of_getElem? (i := 450) (by decide +kernel), rfl⟩
theorem zw_451 : (Cond.instanceMethod yX1_clearDraft : Cond) ∈ lw_good := List.mem_filter.mpr ⟨List.mem_of_getElem? (i := 451) (by decide +kernel), rfl⟩
theorem zw_452 : (Cond.selects RX1 yX1_clearDraft yX1_clearDraft : Cond) ∈ lw_good := List.mem_filter.mpr ⟨List.mem_of_getElem? (i := 452) (by decide +kernel), rfl⟩
theorem zw_142 : (Cond.fieldLink RX2 32 "BunchRace$Tape" "length" "I" : Cond) ∈ lw_good := List.mem_filter.mpr ⟨List.mem_of_getElem? (i := 142) (by decide +kernel), rfl⟩
set_option maxRecDepth 100000 in
theorem zw_449 : (Cond.code yX2_faultOf cX2_faultOf 4 (some .int) : Cond) ∈ lw_good := List.mem_filter.mpr ⟨List.mem_of_getElem? (i := 449) rfl, rfl⟩
theorem zw_446 : (Cond.methodLink RX9 112 yX2_faultOf : Cond) ∈ lw_good := List.mem_filter.mpr ⟨List.mem_of_getElem? (i := 446) (by decide +kernel), rfl⟩
theorem zw_447 : (Cond.instanceMethod yX2_faultOf : Cond) ∈ lw_good := List.mem_filter.mpr ⟨List.mem_of_getElem? (i := 447) (by decide +kernel), rfl⟩
theorem zw_448 : (Cond.selects RX2 yX2_faultOf yX2_faultOf : Cond) ∈ lw_good := List.mem_filter.mpr ⟨List.mem_of_getElem? (i := 448) (by decide +kernel), rfl⟩
theorem zw_496 : (Cond.methodLink RX9 116 yX9_isTeam : Cond) ∈ lw_good := List.mem_filter.mpr ⟨List.mem_of_getElem? (i := 496) (by decide +kernel), rfl⟩
set_option maxRecDepth 100000 in
theorem zw_500 : (Cond.code yX1_takeDraft cX1_takeDraft 5 none : Cond) ∈ lw_good := List.mem_filter.mpr ⟨List.mem_of_getElem? (i := 500) rfl, rfl⟩
theorem zw_497 : (Cond.methodLink RX9 119 yX1_takeDraft : Cond) ∈ lw_good := List.mem_filter.mpr ⟨List.mem_of_getElem? (i := 497) (by decide +kernel), rfl⟩
theorem zw_498 : (Cond.instanceMethod yX1_takeDraft : Cond) ∈ lw_good := List.mem_filter.mpr ⟨List.mem_of_getElem? (i := 498) (by decide +kernel), rfl⟩
theorem zw_499 : (Cond.selects RX1 yX1_takeDraft yX1_takeDraft : Cond) ∈ lw_good := List.mem_filter.mpr ⟨List.mem_of_getElem? (i := 499) (by decide +kernel), rfl⟩
theorem zw_77 : (Cond.fieldLink RX9 122 "BunchRace$Riders" "number" "I" : Cond) ∈ lw_good := List.mem_filter.mpr ⟨List.mem_of_getElem? (i := 77) (by decide +kernel), rfl⟩
set_option maxRecDepth 100000 in
theorem zw_602 : (Cond.code yX9_rodeLatest cX9_rodeLatest 2 (some .boolean) : Cond) ∈ lw_good := List.mem_filter.mpr ⟨List.mem_of_getElem? (i := 602) rfl, rfl⟩
theorem zw_599 : (Cond.methodLink RX9 145 yX9_rodeLatest : Cond) ∈ lw_good := List.mem_filter.mpr ⟨List.mem_of_getElem? (i := 599) (by decide +kernel), rfl⟩
theorem zw_601 : (Cond.instanceMethod yX9_rodeLatest : Cond) ∈ lw_good := List.mem_filter.mpr ⟨List.mem_of_getElem? (i := 601) (by decide +kernel), rfl⟩
theorem zw_16 : (Cond.selects RX9 yX9_rodeLatest yX9_rodeLatest : Cond) ∈ lw_good := List.mem_filter.mpr ⟨List.mem_of_getElem? (i := 16) (by decide +kernel), rfl⟩
theorem zw_316 : (Cond.fieldLink RX9 191 "BunchRace$Stages" "limit" "I" : Cond) ∈ lw_good := List.mem_filter.mpr ⟨List.mem_of_getElem? (i := 316) (by decide +kernel), rfl⟩
theorem zw_76 : (Cond.fieldLink RX7 54 "BunchRace$Riders" "number" "I" : Cond) ∈ lw_good := List.mem_filter.mpr ⟨List.mem_of_getElem? (i := 76) (by decide +kernel), rfl⟩
set_option maxRecDepth 100000 in
theorem zw_684 : (Cond.code yX7_lowestThreeOf cX7_lowestThreeOf 6 (some .int) : Cond) ∈ lw_good := List.mem_filter.mpr ⟨List.mem_of_getElem? (i := 684) rfl, rfl⟩
theorem zw_681 : (Cond.methodLink RX9 203 yX7_lowestThreeOf : Cond) ∈ lw_good := List.mem_filter.mpr ⟨List.mem_of_getElem? (i := 681) (by decide +kernel), rfl⟩
theorem zw_682 : (Cond.instanceMethod yX7_lowestThreeOf : Cond) ∈ lw_good := List.mem_filter.mpr ⟨List.mem_of_getElem? (i := 682) (by decide +kernel), rfl⟩
theorem zw_683 : (Cond.selects RX7 yX7_lowestThreeOf yX7_lowestThreeOf : Cond) ∈ lw_good := List.mem_filter.mpr ⟨List.mem_of_getElem? (i := 683) (by decide +kernel), rfl⟩
theorem zw_701 : (Cond.methodLink RX9 224 yX6_isBetweenEnds : Cond) ∈ lw_good := List.mem_filter.mpr ⟨List.mem_of_getElem? (i := 701) (by decide +kernel), rfl⟩
set_option maxRecDepth 100000 in
theorem zw_700 : (Cond.code yX9_canTry cX9_canTry 3 (some .boolean) : Cond) ∈ lw_good := List.mem_filter.mpr ⟨List.mem_of_getElem? (i := 700) rfl, rfl⟩
theorem zw_697 : (Cond.methodLink RX9 207 yX9_canTry : Cond) ∈ lw_good := List.mem_filter.mpr ⟨List.mem_of_getElem? (i := 697) (by decide +kernel), rfl⟩
theorem zw_699 : (Cond.instanceMethod yX9_canTry : Cond) ∈ lw_good := List.mem_filter.mpr ⟨List.mem_of_getElem? (i := 699) (by decide +kernel), rfl⟩
theorem zw_21 : (Cond.selects RX9 yX9_canTry yX9_canTry : Cond) ∈ lw_good := List.mem_filter.mpr ⟨List.mem_of_getElem? (i := 21) (by decide +kernel), rfl⟩
theorem zw_106 : (Cond.fieldLink RX9 217 "BunchRace$Road" "kilometres" "I" : Cond) ∈ lw_good := List.mem_filter.mpr ⟨List.mem_of_getElem? (i := 106) (by decide +kernel), rfl⟩
theorem zw_113 : (Cond.fieldLink RX9 220 "BunchRace$Road" "primes" "I" : Cond) ∈ lw_good := List.mem_filter.mpr ⟨List.mem_of_getElem? (i := 113) (by decide +kernel), rfl⟩
set_option maxRecDepth 100000 in
theorem zw_730 : (Cond.code yX7_howManyOut cX7_howManyOut 4 (some .int) : Cond) ∈ lw_good := List.mem_filter.mpr ⟨List.mem_of_getElem? (i := 730) rfl, rfl⟩
theorem zw_727 : (Cond.methodLink RX9 221 yX7_howManyOut : Cond) ∈ lw_good := List.mem_filter.mpr ⟨List.mem_of_getElem? (i := 727) (by decide +kernel), rfl⟩
theorem zw_728 : (Cond.instanceMethod yX7_howManyOut : Cond) ∈ lw_good := List.mem_filter.mpr ⟨List.mem_of_getElem? (i := 728) (by decide +kernel), rfl⟩
theorem zw_729 : (Cond.selects RX7 yX7_howManyOut yX7_howManyOut : Cond) ∈ lw_good := List.mem_filter.mpr ⟨List.mem_of_getElem? (i := 729) (by decide +kernel), rfl⟩
theorem zw_737 : (Cond.fieldLink RX10 123 "BunchRaceModel" "riders" "I" : Cond) ∈ lw_good := List.mem_filter.mpr ⟨List.mem_of_getElem? (i := 737) (by decide +kernel), rfl⟩
set_option maxRecDepth 100000 in
theorem zw_900 : (Cond.code yX10_in cX10_in 3 (some .boolean) : Cond) ∈ lw_good := List.mem_filter.mpr ⟨List.mem_of_getElem? (i := 900) rfl, rfl⟩
theorem zw_58 : (Cond.initialized RX10 : Cond) ∈ lw_good := List.mem_filter.mpr ⟨List.mem_of_getElem? (i := 58) (by decide +kernel), rfl⟩
theorem zw_898 : (Cond.methodLink RX10 126 yX10_in : Cond) ∈ lw_good := List.mem_filter.mpr ⟨List.mem_of_getElem? (i := 898) (by decide +kernel), rfl⟩
theorem zw_899 : (Cond.static yX10_in : Cond) ∈ lw_good := List.mem_filter.mpr ⟨List.mem_of_getElem? (i := 899) (by decide +kernel), rfl⟩
theorem zw_743 : (Cond.fieldLink RX10 130 "BunchRaceModel" "stages" "I" : Cond) ∈ lw_good := List.mem_filter.mpr ⟨List.mem_of_getElem? (i := 743) (by decide +kernel), rfl⟩
theorem zw_739 : (Cond.fieldLink RX10 133 "BunchRaceModel" "primes" "I" : Cond) ∈ lw_good := List.mem_filter.mpr ⟨List.mem_of_getElem? (i := 739) (by decide +kernel), rfl⟩
set_option maxRecDepth 100000 in
theorem zw_916 : (Cond.code yX10_isMetre cX10_isMetre 2 (some .boolean) : Cond) ∈ lw_good := List.mem_filter.mpr ⟨List.mem_of_getElem? (i := 916) rfl, rfl⟩
theorem zw_913 : (Cond.methodLink RX10 136 yX10_isMetre : Cond) ∈ lw_good := List.mem_filter.mpr ⟨List.mem_of_getElem? (i := 913) (by decide +kernel), rfl⟩
theorem zw_915 : (Cond.instanceMethod yX10_isMetre : Cond) ∈ lw_good := List.mem_filter.mpr ⟨List.mem_of_getElem? (i := 915) (by decide +kernel), rfl⟩
theorem zw_24 : (Cond.selects RX10 yX10_isMetre yX10_isMetre : Cond) ∈ lw_good := List.mem_filter.mpr ⟨List.mem_of_getElem? (i := 24) (by decide +kernel), rfl⟩
theorem zw_741 : (Cond.fieldLink RX10 140 "BunchRaceModel" "crashPart" "I" : Cond) ∈ lw_good := List.mem_filter.mpr ⟨List.mem_of_getElem? (i := 741) (by decide +kernel), rfl⟩
theorem zw_753 : (Cond.fieldLink RX10 147 "BunchRaceModel" "size" "I" : Cond) ∈ lw_good := List.mem_filter.mpr ⟨List.mem_of_getElem? (i := 753) (by decide +kernel), rfl⟩
set_option maxRecDepth 100000 in
theorem zw_927 : (Cond.code yX10_byteOf cX10_byteOf 7 (some .int) : Cond) ∈ lw_good := List.mem_filter.mpr ⟨List.mem_of_getElem? (i := 927) rfl, rfl⟩
theorem zw_925 : (Cond.methodLink RX10 143 yX10_byteOf : Cond) ∈ lw_good := List.mem_filter.mpr ⟨List.mem_of_getElem? (i := 925) (by decide +kernel), rfl⟩
theorem zw_926 : (Cond.static yX10_byteOf : Cond) ∈ lw_good := List.mem_filter.mpr ⟨List.mem_of_getElem? (i := 926) (by decide +kernel), rfl⟩
theorem zw_754 : (Cond.fieldLink RX10 150 "BunchRaceModel" "at" "I" : Cond) ∈ lw_good := List.mem_filter.mpr ⟨List.mem_of_getElem? (i := 754) (by decide +kernel), rfl⟩
theorem zw_755 : (Cond.fieldLink RX10 160 "BunchRaceModel" "readMany" "I" : Cond) ∈ lw_good := List.mem_filter.mpr ⟨List.mem_of_getElem? (i := 755) (by decide +kernel), rfl⟩
set_option maxRecDepth 100000 in
theorem zw_939 : (Cond.code yX10_look cX10_look 1 (some .int) : Cond) ∈ lw_good := List.mem_filter.mpr ⟨List.mem_of_getElem? (i := 939) rfl, rfl⟩
theorem zw_936 : (Cond.methodLink RX10 153 yX10_look : Cond) ∈ lw_good := List.mem_filter.mpr ⟨List.mem_of_getElem? (i := 936) (by decide +kernel), rfl⟩
theorem zw_938 : (Cond.instanceMethod yX10_look : Cond) ∈ lw_good := List.mem_filter.mpr ⟨List.mem_of_getElem? (i := 938) (by decide +kernel), rfl⟩
theorem zw_25 : (Cond.selects RX10 yX10_look yX10_look : Cond) ∈ lw_good := List.mem_filter.mpr ⟨List.mem_of_getElem? (i := 25) (by decide +kernel), rfl⟩
set_option maxRecDepth 100000 in
theorem zw_935 : (Cond.code yX10_fault cX10_fault 2 (some .int) : Cond) ∈ lw_good := List.mem_filter.mpr ⟨List.mem_of_getElem? (i := 935) rfl, rfl⟩
theorem zw_951 : (Cond.methodLink RX10 167 yX10_fault : Cond) ∈ lw_good := List.mem_filter.mpr ⟨List.mem_of_getElem? (i := 951) (by decide +kernel), rfl⟩
theorem zw_933 : (Cond.instanceMethod yX10_fault : Cond) ∈ lw_good := List.mem_filter.mpr ⟨List.mem_of_getElem? (i := 933) (by decide +kernel), rfl⟩
theorem zw_934 : (Cond.selects RX10 yX10_fault yX10_fault : Cond) ∈ lw_good := List.mem_filter.mpr ⟨List.mem_of_getElem? (i := 934) (by decide +kernel), rfl⟩
set_option maxRecDepth 100000 in
theorem zw_955 : (Cond.code yX10_store cX10_store 5 none : Cond) ∈ lw_good := List.mem_filter.mpr ⟨List.mem_of_getElem? (i := 955) rfl, rfl⟩
theorem zw_952 : (Cond.methodLink RX10 170 yX10_store : Cond) ∈ lw_good := List.mem_filter.mpr ⟨List.mem_of_getElem? (i := 952) (by decide +kernel), rfl⟩
theorem zw_954 : (Cond.instanceMethod yX10_store : Cond) ∈ lw_good := List.mem_filter.mpr ⟨List.mem_of_getElem? (i := 954) (by decide +kernel), rfl⟩
theorem zw_27 : (Cond.selects RX10 yX10_store yX10_store : Cond) ∈ lw_good := List.mem_filter.mpr ⟨List.mem_of_getElem? (i := 27) (by decide +kernel), rfl⟩
theorem zw_742 : (Cond.fieldLink RX10 174 "BunchRaceModel" "choices" "I" : Cond) ∈ lw_good := List.mem_filter.mpr ⟨List.mem_of_getElem? (i := 742) (by decide +kernel), rfl⟩
set_option maxRecDepth 100000 in
theorem zw_967 : (Cond.code yX10_run cX10_run 16 (some .boolean) : Cond) ∈ lw_good := List.mem_filter.mpr ⟨List.mem_of_getElem? (i := 967) rfl, rfl⟩
theorem zw_964 : (Cond.methodLink RX10 239 yX10_run : Cond) ∈ lw_good := List.mem_filter.mpr ⟨List.mem_of_getElem? (i := 964) (by decide +kernel), rfl⟩
theorem zw_966 : (Cond.instanceMethod yX10_run : Cond) ∈ lw_good := List.mem_filter.mpr ⟨List.mem_of_getElem? (i := 966) (by decide +kernel), rfl⟩
theorem zw_28 : (Cond.selects RX10 yX10_run yX10_run : Cond) ∈ lw_good := List.mem_filter.mpr ⟨List.mem_of_getElem? (i := 28) (by decide +kernel), rfl⟩
theorem zw_779 : (Cond.fieldLink RX10 243 "BunchRaceModel" "raced" "Z" : Cond) ∈ lw_good := List.mem_filter.mpr ⟨List.mem_of_getElem? (i := 779) (by decide +kernel), rfl⟩
set_option maxRecDepth 100000 in
theorem zw_1032 : (Cond.code yX10_isRider cX10_isRider 2 (some .boolean) : Cond) ∈ lw_good := List.mem_filter.mpr ⟨List.mem_of_getElem? (i := 1032) rfl, rfl⟩
theorem zw_1029 : (Cond.methodLink RX10 262 yX10_isRider : Cond) ∈ lw_good := List.mem_filter.mpr ⟨List.mem_of_getElem? (i := 1029) (by decide +kernel), rfl⟩
theorem zw_1031 : (Cond.instanceMethod yX10_isRider : Cond) ∈ lw_good := List.mem_filter.mpr ⟨List.mem_of_getElem? (i := 1031) (by decide +kernel), rfl⟩
theorem zw_42 : (Cond.selects RX10 yX10_isRider yX10_isRider : Cond) ∈ lw_good := List.mem_filter.mpr ⟨List.mem_of_getElem? (i := 42) (by decide +kernel), rfl⟩
set_option maxRecDepth 100000 in
theorem zw_1080 : (Cond.code yX10_mayTry cX10_mayTry 3 (some .boolean) : Cond) ∈ lw_good := List.mem_filter.mpr ⟨List.mem_of_getElem? (i := 1080) rfl, rfl⟩
theorem zw_1077 : (Cond.methodLink RX10 271 yX10_mayTry : Cond) ∈ lw_good := List.mem_filter.mpr ⟨List.mem_of_getElem? (i := 1077) (by decide +kernel), rfl⟩
theorem zw_1079 : (Cond.instanceMethod yX10_mayTry : Cond) ∈ lw_good := List.mem_filter.mpr ⟨List.mem_of_getElem? (i := 1079) (by decide +kernel), rfl⟩
theorem zw_45 : (Cond.selects RX10 yX10_mayTry yX10_mayTry : Cond) ∈ lw_good := List.mem_filter.mpr ⟨List.mem_of_getElem? (i := 45) (by decide +kernel), rfl⟩
theorem zi_X0 : ∀ w ∈ wsX00, w ∈ lw_good := zz_ins _ [217, 219, 221, 223, 225] (by decide +kernel) (by decide +kernel)
theorem zi_X1 : ∀ w ∈ wsX10, w ∈ lw_good := zz_ins _ [162, 164, 166, 168, 170] (by decide +kernel) (by decide +kernel)
theorem zi_X2 : ∀ w ∈ wsX20, w ∈ lw_good := zz_ins _ [184, 186, 188, 190, 192] (by decide +kernel) (by decide +kernel)
theorem zi_X3 : ∀ w ∈ wsX30, w ∈ lw_good := zz_ins _ [259, 261, 263, 265, 267, 269, 271, 273, 275, 277, 279, 281, 283, 285, 287, 289] (by decide +kernel) (by decide +kernel)
theorem zi_X4 : ∀ w ∈ wsX40, w ∈ lw_good := zz_ins _ [302, 304] (by decide +kernel) (by decide +kernel)
theorem zi_X5 : ∀ w ∈ wsX50, w ∈ lw_good := zz_ins _ [87, 89, 91, 93, 95] (by decide +kernel) (by decide +kernel)
theorem zi_X6 : ∀ w ∈ wsX60, w ∈ lw_good := zz_ins _ [120, 122, 124, 126, 128, 130, 132] (by decide +kernel) (by decide +kernel)
theorem zi_X7 : ∀ w ∈ wsX70, w ∈ lw_good := zz_ins _ [323, 325, 327, 329, 331] (by decide +kernel) (by decide +kernel)
theorem zi_X8 : ∀ w ∈ wsX80, w ∈ lw_good := zz_ins _ [146, 148] (by decide +kernel) (by decide +kernel)
theorem zi_X9 : ∀ w ∈ wsX90, w ∈ lw_good := zz_ins _ [346, 348, 350, 352, 354, 356, 358, 360, 362, 364, 366, 368] (by decide +kernel) (by decide +kernel)
theorem zi_X10 : ∀ w ∈ wsX100, w ∈ lw_good := zz_ins _ [789, 791, 793, 795, 797, 799, 801, 803, 805, 807, 809, 811, 813, 815, 817, 819, 821, 823, 825, 827, 829, 831, 833, 835, 837, 839, 841, 843, 845, 847, 849, 851, 853, 855, 857, 859, 861, 863, 865, 867, 869, 871, 873, 875, 877, 879, 881, 883, 885, 887, 889, 891] (by decide +kernel) (by decide +kernel)
