theorem dL_law_0 : decode cL_law 0 = .ok (.new 7, 3) := by decide +kernel
theorem dL_law_3 : decode cL_law 3 = .ok (.dup, 1) := by decide +kernel
theorem dL_law_4 : decode cL_law 4 = .ok (.invokespecial 9, 3) := by decide +kernel
theorem dL_law_7 : decode cL_law 7 = .ok (.astore_n 1, 1) := by decide +kernel
theorem dL_law_8 : decode cL_law 8 = .ok (.new 10, 3) := by decide +kernel
theorem dL_law_11 : decode cL_law 11 = .ok (.dup, 1) := by decide +kernel
theorem dL_law_12 : decode cL_law 12 = .ok (.invokespecial 12, 3) := by decide +kernel
theorem dL_law_15 : decode cL_law 15 = .ok (.astore_n 2, 1) := by decide +kernel
theorem dL_law_16 : decode cL_law 16 = .ok (.iconst 0, 1) := by decide +kernel
theorem dL_law_17 : decode cL_law 17 = .ok (.istore_n 3, 1) := by decide +kernel
theorem dL_law_18 : decode cL_law 18 = .ok (.iload_n 3, 1) := by decide +kernel
theorem dL_law_19 : decode cL_law 19 = .ok (.aload_n 0, 1) := by decide +kernel
theorem dL_law_20 : decode cL_law 20 = .ok (.arraylength, 1) := by decide +kernel
theorem dL_law_21 : decode cL_law 21 = .ok (.bipush 7, 2) := by decide +kernel
theorem dL_law_23 : decode cL_law 23 = .ok (.isub, 1) := by decide +kernel
theorem dL_law_24 : decode cL_law 24 = .ok (.if_icmp .gt 913, 3) := by decide +kernel
theorem dL_law_27 : decode cL_law 27 = .ok (.aload_n 0, 1) := by decide +kernel
theorem dL_law_28 : decode cL_law 28 = .ok (.iload_n 3, 1) := by decide +kernel
theorem dL_law_29 : decode cL_law 29 = .ok (.iaload, 1) := by decide +kernel
theorem dL_law_30 : decode cL_law 30 = .ok (.bipush 31, 2) := by decide +kernel
theorem dL_law_32 : decode cL_law 32 = .ok (.iand, 1) := by decide +kernel
theorem dL_law_33 : decode cL_law 33 = .ok (.tableswitch 898 0 22 #[107, 160, 183, 226, 249, 282, 345, 368, 381, 404, 417, 470, 503, 526, 559, 592, 615, 628, 651, 684, 707, 802, 875], 107) := by decide +kernel
theorem dL_law_140 : decode cL_law 140 = .ok (.aload_n 1, 1) := by decide +kernel
theorem dL_law_141 : decode cL_law 141 = .ok (.aload_n 0, 1) := by decide +kernel
theorem dL_law_142 : decode cL_law 142 = .ok (.iload_n 3, 1) := by decide +kernel
theorem dL_law_143 : decode cL_law 143 = .ok (.iconst 1, 1) := by decide +kernel
theorem dL_law_144 : decode cL_law 144 = .ok (.iadd, 1) := by decide +kernel
theorem dL_law_145 : decode cL_law 145 = .ok (.iaload, 1) := by decide +kernel
theorem dL_law_146 : decode cL_law 146 = .ok (.aload_n 0, 1) := by decide +kernel
theorem dL_law_147 : decode cL_law 147 = .ok (.iload_n 3, 1) := by decide +kernel
theorem dL_law_148 : decode cL_law 148 = .ok (.iconst 2, 1) := by decide +kernel
theorem dL_law_149 : decode cL_law 149 = .ok (.iadd, 1) := by decide +kernel
theorem dL_law_150 : decode cL_law 150 = .ok (.iaload, 1) := by decide +kernel
theorem dL_law_151 : decode cL_law 151 = .ok (.aload_n 0, 1) := by decide +kernel
theorem dL_law_152 : decode cL_law 152 = .ok (.iload_n 3, 1) := by decide +kernel
theorem dL_law_153 : decode cL_law 153 = .ok (.iconst 3, 1) := by decide +kernel
theorem dL_law_154 : decode cL_law 154 = .ok (.iadd, 1) := by decide +kernel
theorem dL_law_155 : decode cL_law 155 = .ok (.iaload, 1) := by decide +kernel
theorem dL_law_156 : decode cL_law 156 = .ok (.aload_n 0, 1) := by decide +kernel
theorem dL_law_157 : decode cL_law 157 = .ok (.iload_n 3, 1) := by decide +kernel
theorem dL_law_158 : decode cL_law 158 = .ok (.iconst 4, 1) := by decide +kernel
theorem dL_law_159 : decode cL_law 159 = .ok (.iadd, 1) := by decide +kernel
theorem dL_law_160 : decode cL_law 160 = .ok (.iaload, 1) := by decide +kernel
theorem dL_law_161 : decode cL_law 161 = .ok (.invokevirtual 13, 3) := by decide +kernel
theorem dL_law_164 : decode cL_law 164 = .ok (.pop, 1) := by decide +kernel
theorem dL_law_165 : decode cL_law 165 = .ok (.aload_n 2, 1) := by decide +kernel
theorem dL_law_166 : decode cL_law 166 = .ok (.aload_n 0, 1) := by decide +kernel
theorem dL_law_167 : decode cL_law 167 = .ok (.iload_n 3, 1) := by decide +kernel
theorem dL_law_168 : decode cL_law 168 = .ok (.iconst 1, 1) := by decide +kernel
theorem dL_law_169 : decode cL_law 169 = .ok (.iadd, 1) := by decide +kernel
theorem dL_law_170 : decode cL_law 170 = .ok (.iaload, 1) := by decide +kernel
theorem dL_law_171 : decode cL_law 171 = .ok (.aload_n 0, 1) := by decide +kernel
theorem dL_law_172 : decode cL_law 172 = .ok (.iload_n 3, 1) := by decide +kernel
theorem dL_law_173 : decode cL_law 173 = .ok (.iconst 2, 1) := by decide +kernel
theorem dL_law_174 : decode cL_law 174 = .ok (.iadd, 1) := by decide +kernel
theorem dL_law_175 : decode cL_law 175 = .ok (.iaload, 1) := by decide +kernel
theorem dL_law_176 : decode cL_law 176 = .ok (.aload_n 0, 1) := by decide +kernel
theorem dL_law_177 : decode cL_law 177 = .ok (.iload_n 3, 1) := by decide +kernel
theorem dL_law_178 : decode cL_law 178 = .ok (.iconst 3, 1) := by decide +kernel
theorem dL_law_179 : decode cL_law 179 = .ok (.iadd, 1) := by decide +kernel
theorem dL_law_180 : decode cL_law 180 = .ok (.iaload, 1) := by decide +kernel
theorem dL_law_181 : decode cL_law 181 = .ok (.aload_n 0, 1) := by decide +kernel
theorem dL_law_182 : decode cL_law 182 = .ok (.iload_n 3, 1) := by decide +kernel
theorem dL_law_183 : decode cL_law 183 = .ok (.iconst 4, 1) := by decide +kernel
theorem dL_law_184 : decode cL_law 184 = .ok (.iadd, 1) := by decide +kernel
theorem dL_law_185 : decode cL_law 185 = .ok (.iaload, 1) := by decide +kernel
theorem dL_law_186 : decode cL_law 186 = .ok (.invokevirtual 17, 3) := by decide +kernel
theorem dL_law_189 : decode cL_law 189 = .ok (.pop, 1) := by decide +kernel
theorem dL_law_190 : decode cL_law 190 = .ok (.goto 741, 3) := by decide +kernel
theorem dL_law_193 : decode cL_law 193 = .ok (.aload_n 1, 1) := by decide +kernel
theorem dL_law_194 : decode cL_law 194 = .ok (.aload_n 0, 1) := by decide +kernel
theorem dL_law_195 : decode cL_law 195 = .ok (.iload_n 3, 1) := by decide +kernel
theorem dL_law_196 : decode cL_law 196 = .ok (.iconst 1, 1) := by decide +kernel
theorem dL_law_197 : decode cL_law 197 = .ok (.iadd, 1) := by decide +kernel
theorem dL_law_198 : decode cL_law 198 = .ok (.iaload, 1) := by decide +kernel
theorem dL_law_199 : decode cL_law 199 = .ok (.invokevirtual 18, 3) := by decide +kernel
theorem dL_law_202 : decode cL_law 202 = .ok (.pop, 1) := by decide +kernel
theorem dL_law_203 : decode cL_law 203 = .ok (.aload_n 2, 1) := by decide +kernel
theorem dL_law_204 : decode cL_law 204 = .ok (.aload_n 0, 1) := by decide +kernel
theorem dL_law_205 : decode cL_law 205 = .ok (.iload_n 3, 1) := by decide +kernel
theorem dL_law_206 : decode cL_law 206 = .ok (.iconst 1, 1) := by decide +kernel
theorem dL_law_207 : decode cL_law 207 = .ok (.iadd, 1) := by decide +kernel
theorem dL_law_208 : decode cL_law 208 = .ok (.iaload, 1) := by decide +kernel
theorem dL_law_209 : decode cL_law 209 = .ok (.invokevirtual 22, 3) := by decide +kernel
theorem dL_law_212 : decode cL_law 212 = .ok (.pop, 1) := by decide +kernel
theorem dL_law_213 : decode cL_law 213 = .ok (.goto 718, 3) := by decide +kernel
theorem dL_law_216 : decode cL_law 216 = .ok (.aload_n 1, 1) := by decide +kernel
theorem dL_law_217 : decode cL_law 217 = .ok (.aload_n 0, 1) := by decide +kernel
theorem dL_law_218 : decode cL_law 218 = .ok (.iload_n 3, 1) := by decide +kernel
theorem dL_law_219 : decode cL_law 219 = .ok (.iconst 1, 1) := by decide +kernel
theorem dL_law_220 : decode cL_law 220 = .ok (.iadd, 1) := by decide +kernel
theorem dL_law_221 : decode cL_law 221 = .ok (.iaload, 1) := by decide +kernel
theorem dL_law_222 : decode cL_law 222 = .ok (.aload_n 0, 1) := by decide +kernel
theorem dL_law_223 : decode cL_law 223 = .ok (.iload_n 3, 1) := by decide +kernel
theorem dL_law_224 : decode cL_law 224 = .ok (.iconst 2, 1) := by decide +kernel
theorem dL_law_225 : decode cL_law 225 = .ok (.iadd, 1) := by decide +kernel
theorem dL_law_226 : decode cL_law 226 = .ok (.iaload, 1) := by decide +kernel
theorem dL_law_227 : decode cL_law 227 = .ok (.aload_n 0, 1) := by decide +kernel
theorem dL_law_228 : decode cL_law 228 = .ok (.iload_n 3, 1) := by decide +kernel
theorem dL_law_229 : decode cL_law 229 = .ok (.iconst 3, 1) := by decide +kernel
theorem dL_law_230 : decode cL_law 230 = .ok (.iadd, 1) := by decide +kernel
theorem dL_law_231 : decode cL_law 231 = .ok (.iaload, 1) := by decide +kernel
theorem dL_law_232 : decode cL_law 232 = .ok (.invokevirtual 23, 3) := by decide +kernel
theorem dL_law_235 : decode cL_law 235 = .ok (.pop, 1) := by decide +kernel
theorem dL_law_236 : decode cL_law 236 = .ok (.aload_n 2, 1) := by decide +kernel
theorem dL_law_237 : decode cL_law 237 = .ok (.aload_n 0, 1) := by decide +kernel
theorem dL_law_238 : decode cL_law 238 = .ok (.iload_n 3, 1) := by decide +kernel
theorem dL_law_239 : decode cL_law 239 = .ok (.iconst 1, 1) := by decide +kernel
theorem dL_law_240 : decode cL_law 240 = .ok (.iadd, 1) := by decide +kernel
theorem dL_law_241 : decode cL_law 241 = .ok (.iaload, 1) := by decide +kernel
theorem dL_law_242 : decode cL_law 242 = .ok (.aload_n 0, 1) := by decide +kernel
theorem dL_law_243 : decode cL_law 243 = .ok (.iload_n 3, 1) := by decide +kernel
theorem dL_law_244 : decode cL_law 244 = .ok (.iconst 2, 1) := by decide +kernel
theorem dL_law_245 : decode cL_law 245 = .ok (.iadd, 1) := by decide +kernel
theorem dL_law_246 : decode cL_law 246 = .ok (.iaload, 1) := by decide +kernel
theorem dL_law_247 : decode cL_law 247 = .ok (.aload_n 0, 1) := by decide +kernel
theorem dL_law_248 : decode cL_law 248 = .ok (.iload_n 3, 1) := by decide +kernel
theorem dL_law_249 : decode cL_law 249 = .ok (.iconst 3, 1) := by decide +kernel
theorem dL_law_250 : decode cL_law 250 = .ok (.iadd, 1) := by decide +kernel
theorem dL_law_251 : decode cL_law 251 = .ok (.iaload, 1) := by decide +kernel
theorem dL_law_252 : decode cL_law 252 = .ok (.invokevirtual 27, 3) := by decide +kernel
theorem dL_law_255 : decode cL_law 255 = .ok (.pop, 1) := by decide +kernel
theorem dL_law_256 : decode cL_law 256 = .ok (.goto 675, 3) := by decide +kernel
theorem dL_law_259 : decode cL_law 259 = .ok (.aload_n 1, 1) := by decide +kernel
theorem dL_law_260 : decode cL_law 260 = .ok (.aload_n 0, 1) := by decide +kernel
theorem dL_law_261 : decode cL_law 261 = .ok (.iload_n 3, 1) := by decide +kernel
theorem dL_law_262 : decode cL_law 262 = .ok (.iconst 1, 1) := by decide +kernel
theorem dL_law_263 : decode cL_law 263 = .ok (.iadd, 1) := by decide +kernel
theorem dL_law_264 : decode cL_law 264 = .ok (.iaload, 1) := by decide +kernel
theorem dL_law_265 : decode cL_law 265 = .ok (.invokevirtual 28, 3) := by decide +kernel
theorem dL_law_268 : decode cL_law 268 = .ok (.aload_n 2, 1) := by decide +kernel
theorem dL_law_269 : decode cL_law 269 = .ok (.aload_n 0, 1) := by decide +kernel
theorem dL_law_270 : decode cL_law 270 = .ok (.iload_n 3, 1) := by decide +kernel
theorem dL_law_271 : decode cL_law 271 = .ok (.iconst 1, 1) := by decide +kernel
theorem dL_law_272 : decode cL_law 272 = .ok (.iadd, 1) := by decide +kernel
theorem dL_law_273 : decode cL_law 273 = .ok (.iaload, 1) := by decide +kernel
theorem dL_law_274 : decode cL_law 274 = .ok (.invokevirtual 32, 3) := by decide +kernel
theorem dL_law_277 : decode cL_law 277 = .ok (.if_icmp .eq 654, 3) := by decide +kernel
theorem dL_law_280 : decode cL_law 280 = .ok (.iconst 0, 1) := by decide +kernel
theorem dL_law_281 : decode cL_law 281 = .ok (.ireturn, 1) := by decide +kernel
theorem dL_law_282 : decode cL_law 282 = .ok (.aload_n 1, 1) := by decide +kernel
theorem dL_law_283 : decode cL_law 283 = .ok (.aload_n 0, 1) := by decide +kernel
theorem dL_law_284 : decode cL_law 284 = .ok (.iload_n 3, 1) := by decide +kernel
theorem dL_law_285 : decode cL_law 285 = .ok (.iconst 1, 1) := by decide +kernel
theorem dL_law_286 : decode cL_law 286 = .ok (.iadd, 1) := by decide +kernel
theorem dL_law_287 : decode cL_law 287 = .ok (.iaload, 1) := by decide +kernel
theorem dL_law_288 : decode cL_law 288 = .ok (.aload_n 0, 1) := by decide +kernel
theorem dL_law_289 : decode cL_law 289 = .ok (.iload_n 3, 1) := by decide +kernel
theorem dL_law_290 : decode cL_law 290 = .ok (.iconst 2, 1) := by decide +kernel
theorem dL_law_291 : decode cL_law 291 = .ok (.iadd, 1) := by decide +kernel
theorem dL_law_292 : decode cL_law 292 = .ok (.iaload, 1) := by decide +kernel
theorem dL_law_293 : decode cL_law 293 = .ok (.invokevirtual 33, 3) := by decide +kernel
theorem dL_law_296 : decode cL_law 296 = .ok (.pop, 1) := by decide +kernel
theorem dL_law_297 : decode cL_law 297 = .ok (.aload_n 2, 1) := by decide +kernel
theorem dL_law_298 : decode cL_law 298 = .ok (.aload_n 0, 1) := by decide +kernel
theorem dL_law_299 : decode cL_law 299 = .ok (.iload_n 3, 1) := by decide +kernel
theorem dL_law_300 : decode cL_law 300 = .ok (.iconst 1, 1) := by decide +kernel
theorem dL_law_301 : decode cL_law 301 = .ok (.iadd, 1) := by decide +kernel
theorem dL_law_302 : decode cL_law 302 = .ok (.iaload, 1) := by decide +kernel
theorem dL_law_303 : decode cL_law 303 = .ok (.aload_n 0, 1) := by decide +kernel
theorem dL_law_304 : decode cL_law 304 = .ok (.iload_n 3, 1) := by decide +kernel
theorem dL_law_305 : decode cL_law 305 = .ok (.iconst 2, 1) := by decide +kernel
theorem dL_law_306 : decode cL_law 306 = .ok (.iadd, 1) := by decide +kernel
theorem dL_law_307 : decode cL_law 307 = .ok (.iaload, 1) := by decide +kernel
theorem dL_law_308 : decode cL_law 308 = .ok (.invokevirtual 37, 3) := by decide +kernel
theorem dL_law_311 : decode cL_law 311 = .ok (.pop, 1) := by decide +kernel
theorem dL_law_312 : decode cL_law 312 = .ok (.goto 619, 3) := by decide +kernel
theorem dL_law_315 : decode cL_law 315 = .ok (.aload_n 1, 1) := by decide +kernel
theorem dL_law_316 : decode cL_law 316 = .ok (.aload_n 0, 1) := by decide +kernel
theorem dL_law_317 : decode cL_law 317 = .ok (.iload_n 3, 1) := by decide +kernel
theorem dL_law_318 : decode cL_law 318 = .ok (.iconst 1, 1) := by decide +kernel
theorem dL_law_319 : decode cL_law 319 = .ok (.iadd, 1) := by decide +kernel
theorem dL_law_320 : decode cL_law 320 = .ok (.iaload, 1) := by decide +kernel
theorem dL_law_321 : decode cL_law 321 = .ok (.aload_n 0, 1) := by decide +kernel
theorem dL_law_322 : decode cL_law 322 = .ok (.iload_n 3, 1) := by decide +kernel
theorem dL_law_323 : decode cL_law 323 = .ok (.iconst 2, 1) := by decide +kernel
theorem dL_law_324 : decode cL_law 324 = .ok (.iadd, 1) := by decide +kernel
theorem dL_law_325 : decode cL_law 325 = .ok (.iaload, 1) := by decide +kernel
theorem dL_law_326 : decode cL_law 326 = .ok (.aload_n 0, 1) := by decide +kernel
theorem dL_law_327 : decode cL_law 327 = .ok (.iload_n 3, 1) := by decide +kernel
theorem dL_law_328 : decode cL_law 328 = .ok (.iconst 3, 1) := by decide +kernel
theorem dL_law_329 : decode cL_law 329 = .ok (.iadd, 1) := by decide +kernel
theorem dL_law_330 : decode cL_law 330 = .ok (.iaload, 1) := by decide +kernel
theorem dL_law_331 : decode cL_law 331 = .ok (.aload_n 0, 1) := by decide +kernel
theorem dL_law_332 : decode cL_law 332 = .ok (.iload_n 3, 1) := by decide +kernel
theorem dL_law_333 : decode cL_law 333 = .ok (.iconst 4, 1) := by decide +kernel
theorem dL_law_334 : decode cL_law 334 = .ok (.iadd, 1) := by decide +kernel
theorem dL_law_335 : decode cL_law 335 = .ok (.iaload, 1) := by decide +kernel
theorem dL_law_336 : decode cL_law 336 = .ok (.aload_n 0, 1) := by decide +kernel
theorem dL_law_337 : decode cL_law 337 = .ok (.iload_n 3, 1) := by decide +kernel
theorem dL_law_338 : decode cL_law 338 = .ok (.iconst 5, 1) := by decide +kernel
theorem dL_law_339 : decode cL_law 339 = .ok (.iadd, 1) := by decide +kernel
theorem dL_law_340 : decode cL_law 340 = .ok (.iaload, 1) := by decide +kernel
theorem dL_law_341 : decode cL_law 341 = .ok (.invokevirtual 38, 3) := by decide +kernel
theorem dL_law_344 : decode cL_law 344 = .ok (.pop, 1) := by decide +kernel
theorem dL_law_345 : decode cL_law 345 = .ok (.aload_n 2, 1) := by decide +kernel
theorem dL_law_346 : decode cL_law 346 = .ok (.aload_n 0, 1) := by decide +kernel
theorem dL_law_347 : decode cL_law 347 = .ok (.iload_n 3, 1) := by decide +kernel
theorem dL_law_348 : decode cL_law 348 = .ok (.iconst 1, 1) := by decide +kernel
theorem dL_law_349 : decode cL_law 349 = .ok (.iadd, 1) := by decide +kernel
theorem dL_law_350 : decode cL_law 350 = .ok (.iaload, 1) := by decide +kernel
theorem dL_law_351 : decode cL_law 351 = .ok (.aload_n 0, 1) := by decide +kernel
theorem dL_law_352 : decode cL_law 352 = .ok (.iload_n 3, 1) := by decide +kernel
theorem dL_law_353 : decode cL_law 353 = .ok (.iconst 2, 1) := by decide +kernel
theorem dL_law_354 : decode cL_law 354 = .ok (.iadd, 1) := by decide +kernel
theorem dL_law_355 : decode cL_law 355 = .ok (.iaload, 1) := by decide +kernel
theorem dL_law_356 : decode cL_law 356 = .ok (.aload_n 0, 1) := by decide +kernel
theorem dL_law_357 : decode cL_law 357 = .ok (.iload_n 3, 1) := by decide +kernel
theorem dL_law_358 : decode cL_law 358 = .ok (.iconst 3, 1) := by decide +kernel
theorem dL_law_359 : decode cL_law 359 = .ok (.iadd, 1) := by decide +kernel
theorem dL_law_360 : decode cL_law 360 = .ok (.iaload, 1) := by decide +kernel
theorem dL_law_361 : decode cL_law 361 = .ok (.aload_n 0, 1) := by decide +kernel
theorem dL_law_362 : decode cL_law 362 = .ok (.iload_n 3, 1) := by decide +kernel
theorem dL_law_363 : decode cL_law 363 = .ok (.iconst 4, 1) := by decide +kernel
theorem dL_law_364 : decode cL_law 364 = .ok (.iadd, 1) := by decide +kernel
theorem dL_law_365 : decode cL_law 365 = .ok (.iaload, 1) := by decide +kernel
theorem dL_law_366 : decode cL_law 366 = .ok (.aload_n 0, 1) := by decide +kernel
theorem dL_law_367 : decode cL_law 367 = .ok (.iload_n 3, 1) := by decide +kernel
theorem dL_law_368 : decode cL_law 368 = .ok (.iconst 5, 1) := by decide +kernel
theorem dL_law_369 : decode cL_law 369 = .ok (.iadd, 1) := by decide +kernel
theorem dL_law_370 : decode cL_law 370 = .ok (.iaload, 1) := by decide +kernel
theorem dL_law_371 : decode cL_law 371 = .ok (.invokevirtual 42, 3) := by decide +kernel
theorem dL_law_374 : decode cL_law 374 = .ok (.pop, 1) := by decide +kernel
theorem dL_law_375 : decode cL_law 375 = .ok (.goto 556, 3) := by decide +kernel
theorem dL_law_378 : decode cL_law 378 = .ok (.aload_n 1, 1) := by decide +kernel
theorem dL_law_379 : decode cL_law 379 = .ok (.aload_n 0, 1) := by decide +kernel
theorem dL_law_380 : decode cL_law 380 = .ok (.iload_n 3, 1) := by decide +kernel
theorem dL_law_381 : decode cL_law 381 = .ok (.iconst 1, 1) := by decide +kernel
theorem dL_law_382 : decode cL_law 382 = .ok (.iadd, 1) := by decide +kernel
theorem dL_law_383 : decode cL_law 383 = .ok (.iaload, 1) := by decide +kernel
theorem dL_law_384 : decode cL_law 384 = .ok (.invokevirtual 43, 3) := by decide +kernel
theorem dL_law_387 : decode cL_law 387 = .ok (.pop, 1) := by decide +kernel
theorem dL_law_388 : decode cL_law 388 = .ok (.aload_n 2, 1) := by decide +kernel
theorem dL_law_389 : decode cL_law 389 = .ok (.aload_n 0, 1) := by decide +kernel
theorem dL_law_390 : decode cL_law 390 = .ok (.iload_n 3, 1) := by decide +kernel
theorem dL_law_391 : decode cL_law 391 = .ok (.iconst 1, 1) := by decide +kernel
theorem dL_law_392 : decode cL_law 392 = .ok (.iadd, 1) := by decide +kernel
theorem dL_law_393 : decode cL_law 393 = .ok (.iaload, 1) := by decide +kernel
theorem dL_law_394 : decode cL_law 394 = .ok (.invokevirtual 46, 3) := by decide +kernel
theorem dL_law_397 : decode cL_law 397 = .ok (.pop, 1) := by decide +kernel
theorem dL_law_398 : decode cL_law 398 = .ok (.goto 533, 3) := by decide +kernel
theorem dL_law_401 : decode cL_law 401 = .ok (.aload_n 1, 1) := by decide +kernel
theorem dL_law_402 : decode cL_law 402 = .ok (.invokevirtual 47, 3) := by decide +kernel
theorem dL_law_405 : decode cL_law 405 = .ok (.pop, 1) := by decide +kernel
theorem dL_law_406 : decode cL_law 406 = .ok (.aload_n 2, 1) := by decide +kernel
theorem dL_law_407 : decode cL_law 407 = .ok (.invokevirtual 51, 3) := by decide +kernel
theorem dL_law_410 : decode cL_law 410 = .ok (.pop, 1) := by decide +kernel
theorem dL_law_411 : decode cL_law 411 = .ok (.goto 520, 3) := by decide +kernel
theorem dL_law_414 : decode cL_law 414 = .ok (.aload_n 1, 1) := by decide +kernel
theorem dL_law_415 : decode cL_law 415 = .ok (.aload_n 0, 1) := by decide +kernel
theorem dL_law_416 : decode cL_law 416 = .ok (.iload_n 3, 1) := by decide +kernel
theorem dL_law_417 : decode cL_law 417 = .ok (.iconst 1, 1) := by decide +kernel
theorem dL_law_418 : decode cL_law 418 = .ok (.iadd, 1) := by decide +kernel
theorem dL_law_419 : decode cL_law 419 = .ok (.iaload, 1) := by decide +kernel
theorem dL_law_420 : decode cL_law 420 = .ok (.invokevirtual 52, 3) := by decide +kernel
theorem dL_law_423 : decode cL_law 423 = .ok (.pop, 1) := by decide +kernel
theorem dL_law_424 : decode cL_law 424 = .ok (.aload_n 2, 1) := by decide +kernel
theorem dL_law_425 : decode cL_law 425 = .ok (.aload_n 0, 1) := by decide +kernel
theorem dL_law_426 : decode cL_law 426 = .ok (.iload_n 3, 1) := by decide +kernel
theorem dL_law_427 : decode cL_law 427 = .ok (.iconst 1, 1) := by decide +kernel
theorem dL_law_428 : decode cL_law 428 = .ok (.iadd, 1) := by decide +kernel
theorem dL_law_429 : decode cL_law 429 = .ok (.iaload, 1) := by decide +kernel
theorem dL_law_430 : decode cL_law 430 = .ok (.invokevirtual 55, 3) := by decide +kernel
theorem dL_law_433 : decode cL_law 433 = .ok (.pop, 1) := by decide +kernel
theorem dL_law_434 : decode cL_law 434 = .ok (.goto 497, 3) := by decide +kernel
theorem dL_law_437 : decode cL_law 437 = .ok (.aload_n 1, 1) := by decide +kernel
theorem dL_law_438 : decode cL_law 438 = .ok (.invokevirtual 56, 3) := by decide +kernel
theorem dL_law_441 : decode cL_law 441 = .ok (.pop, 1) := by decide +kernel
theorem dL_law_442 : decode cL_law 442 = .ok (.aload_n 2, 1) := by decide +kernel
theorem dL_law_443 : decode cL_law 443 = .ok (.invokevirtual 59, 3) := by decide +kernel
theorem dL_law_446 : decode cL_law 446 = .ok (.pop, 1) := by decide +kernel
theorem dL_law_447 : decode cL_law 447 = .ok (.goto 484, 3) := by decide +kernel
theorem dL_law_450 : decode cL_law 450 = .ok (.aload_n 1, 1) := by decide +kernel
theorem dL_law_451 : decode cL_law 451 = .ok (.aload_n 0, 1) := by decide +kernel
theorem dL_law_452 : decode cL_law 452 = .ok (.iload_n 3, 1) := by decide +kernel
theorem dL_law_453 : decode cL_law 453 = .ok (.iconst 1, 1) := by decide +kernel
theorem dL_law_454 : decode cL_law 454 = .ok (.iadd, 1) := by decide +kernel
theorem dL_law_455 : decode cL_law 455 = .ok (.iaload, 1) := by decide +kernel
theorem dL_law_456 : decode cL_law 456 = .ok (.i2l, 1) := by decide +kernel
theorem dL_law_457 : decode cL_law 457 = .ok (.bipush 32, 2) := by decide +kernel
theorem dL_law_459 : decode cL_law 459 = .ok (.lshl, 1) := by decide +kernel
theorem dL_law_460 : decode cL_law 460 = .ok (.aload_n 0, 1) := by decide +kernel
theorem dL_law_461 : decode cL_law 461 = .ok (.iload_n 3, 1) := by decide +kernel
theorem dL_law_462 : decode cL_law 462 = .ok (.iconst 2, 1) := by decide +kernel
theorem dL_law_463 : decode cL_law 463 = .ok (.iadd, 1) := by decide +kernel
theorem dL_law_464 : decode cL_law 464 = .ok (.iaload, 1) := by decide +kernel
theorem dL_law_465 : decode cL_law 465 = .ok (.i2l, 1) := by decide +kernel
theorem dL_law_466 : decode cL_law 466 = .ok (.ldc2_w 60, 3) := by decide +kernel
theorem dL_law_469 : decode cL_law 469 = .ok (.land, 1) := by decide +kernel
theorem dL_law_470 : decode cL_law 470 = .ok (.lor, 1) := by decide +kernel
theorem dL_law_471 : decode cL_law 471 = .ok (.invokevirtual 62, 3) := by decide +kernel
theorem dL_law_474 : decode cL_law 474 = .ok (.pop, 1) := by decide +kernel
theorem dL_law_475 : decode cL_law 475 = .ok (.aload_n 2, 1) := by decide +kernel
theorem dL_law_476 : decode cL_law 476 = .ok (.aload_n 0, 1) := by decide +kernel
theorem dL_law_477 : decode cL_law 477 = .ok (.iload_n 3, 1) := by decide +kernel
theorem dL_law_478 : decode cL_law 478 = .ok (.iconst 1, 1) := by decide +kernel
theorem dL_law_479 : decode cL_law 479 = .ok (.iadd, 1) := by decide +kernel
theorem dL_law_480 : decode cL_law 480 = .ok (.iaload, 1) := by decide +kernel
theorem dL_law_481 : decode cL_law 481 = .ok (.i2l, 1) := by decide +kernel
theorem dL_law_482 : decode cL_law 482 = .ok (.bipush 32, 2) := by decide +kernel
theorem dL_law_484 : decode cL_law 484 = .ok (.lshl, 1) := by decide +kernel
theorem dL_law_485 : decode cL_law 485 = .ok (.aload_n 0, 1) := by decide +kernel
theorem dL_law_486 : decode cL_law 486 = .ok (.iload_n 3, 1) := by decide +kernel
theorem dL_law_487 : decode cL_law 487 = .ok (.iconst 2, 1) := by decide +kernel
theorem dL_law_488 : decode cL_law 488 = .ok (.iadd, 1) := by decide +kernel
theorem dL_law_489 : decode cL_law 489 = .ok (.iaload, 1) := by decide +kernel
theorem dL_law_490 : decode cL_law 490 = .ok (.i2l, 1) := by decide +kernel
theorem dL_law_491 : decode cL_law 491 = .ok (.ldc2_w 60, 3) := by decide +kernel
theorem dL_law_494 : decode cL_law 494 = .ok (.land, 1) := by decide +kernel
theorem dL_law_495 : decode cL_law 495 = .ok (.lor, 1) := by decide +kernel
theorem dL_law_496 : decode cL_law 496 = .ok (.invokevirtual 66, 3) := by decide +kernel
theorem dL_law_499 : decode cL_law 499 = .ok (.pop, 1) := by decide +kernel
theorem dL_law_500 : decode cL_law 500 = .ok (.goto 431, 3) := by decide +kernel
theorem dL_law_503 : decode cL_law 503 = .ok (.aload_n 1, 1) := by decide +kernel
theorem dL_law_504 : decode cL_law 504 = .ok (.aload_n 0, 1) := by decide +kernel
theorem dL_law_505 : decode cL_law 505 = .ok (.iload_n 3, 1) := by decide +kernel
theorem dL_law_506 : decode cL_law 506 = .ok (.iconst 1, 1) := by decide +kernel
theorem dL_law_507 : decode cL_law 507 = .ok (.iadd, 1) := by decide +kernel
theorem dL_law_508 : decode cL_law 508 = .ok (.iaload, 1) := by decide +kernel
theorem dL_law_509 : decode cL_law 509 = .ok (.aload_n 0, 1) := by decide +kernel
theorem dL_law_510 : decode cL_law 510 = .ok (.iload_n 3, 1) := by decide +kernel
theorem dL_law_511 : decode cL_law 511 = .ok (.iconst 2, 1) := by decide +kernel
theorem dL_law_512 : decode cL_law 512 = .ok (.iadd, 1) := by decide +kernel
theorem dL_law_513 : decode cL_law 513 = .ok (.iaload, 1) := by decide +kernel
theorem dL_law_514 : decode cL_law 514 = .ok (.invokevirtual 67, 3) := by decide +kernel
theorem dL_law_517 : decode cL_law 517 = .ok (.pop, 1) := by decide +kernel
theorem dL_law_518 : decode cL_law 518 = .ok (.aload_n 2, 1) := by decide +kernel
theorem dL_law_519 : decode cL_law 519 = .ok (.aload_n 0, 1) := by decide +kernel
theorem dL_law_520 : decode cL_law 520 = .ok (.iload_n 3, 1) := by decide +kernel
theorem dL_law_521 : decode cL_law 521 = .ok (.iconst 1, 1) := by decide +kernel
theorem dL_law_522 : decode cL_law 522 = .ok (.iadd, 1) := by decide +kernel
theorem dL_law_523 : decode cL_law 523 = .ok (.iaload, 1) := by decide +kernel
theorem dL_law_524 : decode cL_law 524 = .ok (.aload_n 0, 1) := by decide +kernel
theorem dL_law_525 : decode cL_law 525 = .ok (.iload_n 3, 1) := by decide +kernel
theorem dL_law_526 : decode cL_law 526 = .ok (.iconst 2, 1) := by decide +kernel
theorem dL_law_527 : decode cL_law 527 = .ok (.iadd, 1) := by decide +kernel
theorem dL_law_528 : decode cL_law 528 = .ok (.iaload, 1) := by decide +kernel
theorem dL_law_529 : decode cL_law 529 = .ok (.invokevirtual 71, 3) := by decide +kernel
theorem dL_law_532 : decode cL_law 532 = .ok (.pop, 1) := by decide +kernel
theorem dL_law_533 : decode cL_law 533 = .ok (.goto 398, 3) := by decide +kernel
theorem dL_law_536 : decode cL_law 536 = .ok (.aload_n 1, 1) := by decide +kernel
theorem dL_law_537 : decode cL_law 537 = .ok (.aload_n 0, 1) := by decide +kernel
theorem dL_law_538 : decode cL_law 538 = .ok (.iload_n 3, 1) := by decide +kernel
theorem dL_law_539 : decode cL_law 539 = .ok (.iconst 1, 1) := by decide +kernel
theorem dL_law_540 : decode cL_law 540 = .ok (.iadd, 1) := by decide +kernel
theorem dL_law_541 : decode cL_law 541 = .ok (.iaload, 1) := by decide +kernel
theorem dL_law_542 : decode cL_law 542 = .ok (.invokevirtual 72, 3) := by decide +kernel
theorem dL_law_545 : decode cL_law 545 = .ok (.pop, 1) := by decide +kernel
theorem dL_law_546 : decode cL_law 546 = .ok (.aload_n 2, 1) := by decide +kernel
theorem dL_law_547 : decode cL_law 547 = .ok (.aload_n 0, 1) := by decide +kernel
theorem dL_law_548 : decode cL_law 548 = .ok (.iload_n 3, 1) := by decide +kernel
theorem dL_law_549 : decode cL_law 549 = .ok (.iconst 1, 1) := by decide +kernel
theorem dL_law_550 : decode cL_law 550 = .ok (.iadd, 1) := by decide +kernel
theorem dL_law_551 : decode cL_law 551 = .ok (.iaload, 1) := by decide +kernel
theorem dL_law_552 : decode cL_law 552 = .ok (.invokevirtual 75, 3) := by decide +kernel
theorem dL_law_555 : decode cL_law 555 = .ok (.pop, 1) := by decide +kernel
theorem dL_law_556 : decode cL_law 556 = .ok (.goto 375, 3) := by decide +kernel
theorem dL_law_559 : decode cL_law 559 = .ok (.aload_n 1, 1) := by decide +kernel
theorem dL_law_560 : decode cL_law 560 = .ok (.aload_n 0, 1) := by decide +kernel
theorem dL_law_561 : decode cL_law 561 = .ok (.iload_n 3, 1) := by decide +kernel
theorem dL_law_562 : decode cL_law 562 = .ok (.iconst 1, 1) := by decide +kernel
theorem dL_law_563 : decode cL_law 563 = .ok (.iadd, 1) := by decide +kernel
theorem dL_law_564 : decode cL_law 564 = .ok (.iaload, 1) := by decide +kernel
theorem dL_law_565 : decode cL_law 565 = .ok (.aload_n 0, 1) := by decide +kernel
theorem dL_law_566 : decode cL_law 566 = .ok (.iload_n 3, 1) := by decide +kernel
theorem dL_law_567 : decode cL_law 567 = .ok (.iconst 2, 1) := by decide +kernel
theorem dL_law_568 : decode cL_law 568 = .ok (.iadd, 1) := by decide +kernel
theorem dL_law_569 : decode cL_law 569 = .ok (.iaload, 1) := by decide +kernel
theorem dL_law_570 : decode cL_law 570 = .ok (.invokevirtual 76, 3) := by decide +kernel
theorem dL_law_573 : decode cL_law 573 = .ok (.pop, 1) := by decide +kernel
theorem dL_law_574 : decode cL_law 574 = .ok (.aload_n 2, 1) := by decide +kernel
theorem dL_law_575 : decode cL_law 575 = .ok (.aload_n 0, 1) := by decide +kernel
theorem dL_law_576 : decode cL_law 576 = .ok (.iload_n 3, 1) := by decide +kernel
theorem dL_law_577 : decode cL_law 577 = .ok (.iconst 1, 1) := by decide +kernel
theorem dL_law_578 : decode cL_law 578 = .ok (.iadd, 1) := by decide +kernel
theorem dL_law_579 : decode cL_law 579 = .ok (.iaload, 1) := by decide +kernel
theorem dL_law_580 : decode cL_law 580 = .ok (.aload_n 0, 1) := by decide +kernel
theorem dL_law_581 : decode cL_law 581 = .ok (.iload_n 3, 1) := by decide +kernel
theorem dL_law_582 : decode cL_law 582 = .ok (.iconst 2, 1) := by decide +kernel
theorem dL_law_583 : decode cL_law 583 = .ok (.iadd, 1) := by decide +kernel
theorem dL_law_584 : decode cL_law 584 = .ok (.iaload, 1) := by decide +kernel
theorem dL_law_585 : decode cL_law 585 = .ok (.invokevirtual 79, 3) := by decide +kernel
theorem dL_law_588 : decode cL_law 588 = .ok (.pop, 1) := by decide +kernel
theorem dL_law_589 : decode cL_law 589 = .ok (.goto 342, 3) := by decide +kernel
theorem dL_law_592 : decode cL_law 592 = .ok (.aload_n 1, 1) := by decide +kernel
theorem dL_law_593 : decode cL_law 593 = .ok (.aload_n 0, 1) := by decide +kernel
theorem dL_law_594 : decode cL_law 594 = .ok (.iload_n 3, 1) := by decide +kernel
theorem dL_law_595 : decode cL_law 595 = .ok (.iconst 1, 1) := by decide +kernel
theorem dL_law_596 : decode cL_law 596 = .ok (.iadd, 1) := by decide +kernel
theorem dL_law_597 : decode cL_law 597 = .ok (.iaload, 1) := by decide +kernel
theorem dL_law_598 : decode cL_law 598 = .ok (.aload_n 0, 1) := by decide +kernel
theorem dL_law_599 : decode cL_law 599 = .ok (.iload_n 3, 1) := by decide +kernel
theorem dL_law_600 : decode cL_law 600 = .ok (.iconst 2, 1) := by decide +kernel
theorem dL_law_601 : decode cL_law 601 = .ok (.iadd, 1) := by decide +kernel
theorem dL_law_602 : decode cL_law 602 = .ok (.iaload, 1) := by decide +kernel
theorem dL_law_603 : decode cL_law 603 = .ok (.invokevirtual 80, 3) := by decide +kernel
theorem dL_law_606 : decode cL_law 606 = .ok (.pop, 1) := by decide +kernel
theorem dL_law_607 : decode cL_law 607 = .ok (.aload_n 2, 1) := by decide +kernel
theorem dL_law_608 : decode cL_law 608 = .ok (.aload_n 0, 1) := by decide +kernel
theorem dL_law_609 : decode cL_law 609 = .ok (.iload_n 3, 1) := by decide +kernel
theorem dL_law_610 : decode cL_law 610 = .ok (.iconst 1, 1) := by decide +kernel
theorem dL_law_611 : decode cL_law 611 = .ok (.iadd, 1) := by decide +kernel
theorem dL_law_612 : decode cL_law 612 = .ok (.iaload, 1) := by decide +kernel
theorem dL_law_613 : decode cL_law 613 = .ok (.aload_n 0, 1) := by decide +kernel
theorem dL_law_614 : decode cL_law 614 = .ok (.iload_n 3, 1) := by decide +kernel
theorem dL_law_615 : decode cL_law 615 = .ok (.iconst 2, 1) := by decide +kernel
theorem dL_law_616 : decode cL_law 616 = .ok (.iadd, 1) := by decide +kernel
theorem dL_law_617 : decode cL_law 617 = .ok (.iaload, 1) := by decide +kernel
theorem dL_law_618 : decode cL_law 618 = .ok (.invokevirtual 83, 3) := by decide +kernel
theorem dL_law_621 : decode cL_law 621 = .ok (.pop, 1) := by decide +kernel
theorem dL_law_622 : decode cL_law 622 = .ok (.goto 309, 3) := by decide +kernel
theorem dL_law_625 : decode cL_law 625 = .ok (.aload_n 1, 1) := by decide +kernel
theorem dL_law_626 : decode cL_law 626 = .ok (.aload_n 0, 1) := by decide +kernel
theorem dL_law_627 : decode cL_law 627 = .ok (.iload_n 3, 1) := by decide +kernel
theorem dL_law_628 : decode cL_law 628 = .ok (.iconst 1, 1) := by decide +kernel
theorem dL_law_629 : decode cL_law 629 = .ok (.iadd, 1) := by decide +kernel
theorem dL_law_630 : decode cL_law 630 = .ok (.iaload, 1) := by decide +kernel
theorem dL_law_631 : decode cL_law 631 = .ok (.invokevirtual 84, 3) := by decide +kernel
theorem dL_law_634 : decode cL_law 634 = .ok (.pop, 1) := by decide +kernel
theorem dL_law_635 : decode cL_law 635 = .ok (.aload_n 2, 1) := by decide +kernel
theorem dL_law_636 : decode cL_law 636 = .ok (.aload_n 0, 1) := by decide +kernel
theorem dL_law_637 : decode cL_law 637 = .ok (.iload_n 3, 1) := by decide +kernel
theorem dL_law_638 : decode cL_law 638 = .ok (.iconst 1, 1) := by decide +kernel
theorem dL_law_639 : decode cL_law 639 = .ok (.iadd, 1) := by decide +kernel
theorem dL_law_640 : decode cL_law 640 = .ok (.iaload, 1) := by decide +kernel
theorem dL_law_641 : decode cL_law 641 = .ok (.invokevirtual 87, 3) := by decide +kernel
theorem dL_law_644 : decode cL_law 644 = .ok (.pop, 1) := by decide +kernel
theorem dL_law_645 : decode cL_law 645 = .ok (.goto 286, 3) := by decide +kernel
theorem dL_law_648 : decode cL_law 648 = .ok (.aload_n 1, 1) := by decide +kernel
theorem dL_law_649 : decode cL_law 649 = .ok (.invokevirtual 88, 3) := by decide +kernel
theorem dL_law_652 : decode cL_law 652 = .ok (.pop, 1) := by decide +kernel
theorem dL_law_653 : decode cL_law 653 = .ok (.aload_n 2, 1) := by decide +kernel
theorem dL_law_654 : decode cL_law 654 = .ok (.invokevirtual 91, 3) := by decide +kernel
theorem dL_law_657 : decode cL_law 657 = .ok (.pop, 1) := by decide +kernel
theorem dL_law_658 : decode cL_law 658 = .ok (.goto 273, 3) := by decide +kernel
theorem dL_law_661 : decode cL_law 661 = .ok (.aload_n 1, 1) := by decide +kernel
theorem dL_law_662 : decode cL_law 662 = .ok (.aload_n 0, 1) := by decide +kernel
theorem dL_law_663 : decode cL_law 663 = .ok (.iload_n 3, 1) := by decide +kernel
theorem dL_law_664 : decode cL_law 664 = .ok (.iconst 1, 1) := by decide +kernel
theorem dL_law_665 : decode cL_law 665 = .ok (.iadd, 1) := by decide +kernel
theorem dL_law_666 : decode cL_law 666 = .ok (.iaload, 1) := by decide +kernel
theorem dL_law_667 : decode cL_law 667 = .ok (.invokevirtual 92, 3) := by decide +kernel
theorem dL_law_670 : decode cL_law 670 = .ok (.pop, 1) := by decide +kernel
theorem dL_law_671 : decode cL_law 671 = .ok (.aload_n 2, 1) := by decide +kernel
theorem dL_law_672 : decode cL_law 672 = .ok (.aload_n 0, 1) := by decide +kernel
theorem dL_law_673 : decode cL_law 673 = .ok (.iload_n 3, 1) := by decide +kernel
theorem dL_law_674 : decode cL_law 674 = .ok (.iconst 1, 1) := by decide +kernel
theorem dL_law_675 : decode cL_law 675 = .ok (.iadd, 1) := by decide +kernel
theorem dL_law_676 : decode cL_law 676 = .ok (.iaload, 1) := by decide +kernel
theorem dL_law_677 : decode cL_law 677 = .ok (.invokevirtual 95, 3) := by decide +kernel
theorem dL_law_680 : decode cL_law 680 = .ok (.pop, 1) := by decide +kernel
theorem dL_law_681 : decode cL_law 681 = .ok (.goto 250, 3) := by decide +kernel
theorem dL_law_684 : decode cL_law 684 = .ok (.aload_n 1, 1) := by decide +kernel
theorem dL_law_685 : decode cL_law 685 = .ok (.aload_n 0, 1) := by decide +kernel
theorem dL_law_686 : decode cL_law 686 = .ok (.iload_n 3, 1) := by decide +kernel
theorem dL_law_687 : decode cL_law 687 = .ok (.iconst 1, 1) := by decide +kernel
theorem dL_law_688 : decode cL_law 688 = .ok (.iadd, 1) := by decide +kernel
theorem dL_law_689 : decode cL_law 689 = .ok (.iaload, 1) := by decide +kernel
theorem dL_law_690 : decode cL_law 690 = .ok (.aload_n 0, 1) := by decide +kernel
theorem dL_law_691 : decode cL_law 691 = .ok (.iload_n 3, 1) := by decide +kernel
theorem dL_law_692 : decode cL_law 692 = .ok (.iconst 2, 1) := by decide +kernel
theorem dL_law_693 : decode cL_law 693 = .ok (.iadd, 1) := by decide +kernel
theorem dL_law_694 : decode cL_law 694 = .ok (.iaload, 1) := by decide +kernel
theorem dL_law_695 : decode cL_law 695 = .ok (.invokevirtual 96, 3) := by decide +kernel
theorem dL_law_698 : decode cL_law 698 = .ok (.pop, 1) := by decide +kernel
theorem dL_law_699 : decode cL_law 699 = .ok (.aload_n 2, 1) := by decide +kernel
theorem dL_law_700 : decode cL_law 700 = .ok (.aload_n 0, 1) := by decide +kernel
theorem dL_law_701 : decode cL_law 701 = .ok (.iload_n 3, 1) := by decide +kernel
theorem dL_law_702 : decode cL_law 702 = .ok (.iconst 1, 1) := by decide +kernel
theorem dL_law_703 : decode cL_law 703 = .ok (.iadd, 1) := by decide +kernel
theorem dL_law_704 : decode cL_law 704 = .ok (.iaload, 1) := by decide +kernel
theorem dL_law_705 : decode cL_law 705 = .ok (.aload_n 0, 1) := by decide +kernel
theorem dL_law_706 : decode cL_law 706 = .ok (.iload_n 3, 1) := by decide +kernel
theorem dL_law_707 : decode cL_law 707 = .ok (.iconst 2, 1) := by decide +kernel
theorem dL_law_708 : decode cL_law 708 = .ok (.iadd, 1) := by decide +kernel
theorem dL_law_709 : decode cL_law 709 = .ok (.iaload, 1) := by decide +kernel
theorem dL_law_710 : decode cL_law 710 = .ok (.invokevirtual 99, 3) := by decide +kernel
theorem dL_law_713 : decode cL_law 713 = .ok (.pop, 1) := by decide +kernel
theorem dL_law_714 : decode cL_law 714 = .ok (.goto 217, 3) := by decide +kernel
theorem dL_law_717 : decode cL_law 717 = .ok (.aload_n 1, 1) := by decide +kernel
theorem dL_law_718 : decode cL_law 718 = .ok (.aload_n 0, 1) := by decide +kernel
theorem dL_law_719 : decode cL_law 719 = .ok (.iload_n 3, 1) := by decide +kernel
theorem dL_law_720 : decode cL_law 720 = .ok (.iconst 1, 1) := by decide +kernel
theorem dL_law_721 : decode cL_law 721 = .ok (.iadd, 1) := by decide +kernel
theorem dL_law_722 : decode cL_law 722 = .ok (.iaload, 1) := by decide +kernel
theorem dL_law_723 : decode cL_law 723 = .ok (.invokevirtual 100, 3) := by decide +kernel
theorem dL_law_726 : decode cL_law 726 = .ok (.pop, 1) := by decide +kernel
theorem dL_law_727 : decode cL_law 727 = .ok (.aload_n 2, 1) := by decide +kernel
theorem dL_law_728 : decode cL_law 728 = .ok (.aload_n 0, 1) := by decide +kernel
theorem dL_law_729 : decode cL_law 729 = .ok (.iload_n 3, 1) := by decide +kernel
theorem dL_law_730 : decode cL_law 730 = .ok (.iconst 1, 1) := by decide +kernel
theorem dL_law_731 : decode cL_law 731 = .ok (.iadd, 1) := by decide +kernel
theorem dL_law_732 : decode cL_law 732 = .ok (.iaload, 1) := by decide +kernel
theorem dL_law_733 : decode cL_law 733 = .ok (.invokevirtual 103, 3) := by decide +kernel
theorem dL_law_736 : decode cL_law 736 = .ok (.pop, 1) := by decide +kernel
theorem dL_law_737 : decode cL_law 737 = .ok (.goto 194, 3) := by decide +kernel
theorem dL_law_740 : decode cL_law 740 = .ok (.aload_n 1, 1) := by decide +kernel
theorem dL_law_741 : decode cL_law 741 = .ok (.aload_n 0, 1) := by decide +kernel
theorem dL_law_742 : decode cL_law 742 = .ok (.iload_n 3, 1) := by decide +kernel
theorem dL_law_743 : decode cL_law 743 = .ok (.iconst 1, 1) := by decide +kernel
theorem dL_law_744 : decode cL_law 744 = .ok (.iadd, 1) := by decide +kernel
theorem dL_law_745 : decode cL_law 745 = .ok (.iaload, 1) := by decide +kernel
theorem dL_law_746 : decode cL_law 746 = .ok (.aload_n 0, 1) := by decide +kernel
theorem dL_law_747 : decode cL_law 747 = .ok (.iload_n 3, 1) := by decide +kernel
theorem dL_law_748 : decode cL_law 748 = .ok (.iconst 2, 1) := by decide +kernel
theorem dL_law_749 : decode cL_law 749 = .ok (.iadd, 1) := by decide +kernel
theorem dL_law_750 : decode cL_law 750 = .ok (.iaload, 1) := by decide +kernel
theorem dL_law_751 : decode cL_law 751 = .ok (.aload_n 0, 1) := by decide +kernel
theorem dL_law_752 : decode cL_law 752 = .ok (.iload_n 3, 1) := by decide +kernel
theorem dL_law_753 : decode cL_law 753 = .ok (.iconst 3, 1) := by decide +kernel
theorem dL_law_754 : decode cL_law 754 = .ok (.iadd, 1) := by decide +kernel
theorem dL_law_755 : decode cL_law 755 = .ok (.iaload, 1) := by decide +kernel
theorem dL_law_756 : decode cL_law 756 = .ok (.aload_n 0, 1) := by decide +kernel
theorem dL_law_757 : decode cL_law 757 = .ok (.iload_n 3, 1) := by decide +kernel
theorem dL_law_758 : decode cL_law 758 = .ok (.iconst 4, 1) := by decide +kernel
theorem dL_law_759 : decode cL_law 759 = .ok (.iadd, 1) := by decide +kernel
theorem dL_law_760 : decode cL_law 760 = .ok (.iaload, 1) := by decide +kernel
theorem dL_law_761 : decode cL_law 761 = .ok (.aload_n 0, 1) := by decide +kernel
theorem dL_law_762 : decode cL_law 762 = .ok (.iload_n 3, 1) := by decide +kernel
theorem dL_law_763 : decode cL_law 763 = .ok (.iconst 5, 1) := by decide +kernel
theorem dL_law_764 : decode cL_law 764 = .ok (.iadd, 1) := by decide +kernel
theorem dL_law_765 : decode cL_law 765 = .ok (.iaload, 1) := by decide +kernel
theorem dL_law_766 : decode cL_law 766 = .ok (.i2l, 1) := by decide +kernel
theorem dL_law_767 : decode cL_law 767 = .ok (.bipush 32, 2) := by decide +kernel
theorem dL_law_769 : decode cL_law 769 = .ok (.lshl, 1) := by decide +kernel
theorem dL_law_770 : decode cL_law 770 = .ok (.aload_n 0, 1) := by decide +kernel
theorem dL_law_771 : decode cL_law 771 = .ok (.iload_n 3, 1) := by decide +kernel
theorem dL_law_772 : decode cL_law 772 = .ok (.bipush 6, 2) := by decide +kernel
theorem dL_law_774 : decode cL_law 774 = .ok (.iadd, 1) := by decide +kernel
theorem dL_law_775 : decode cL_law 775 = .ok (.iaload, 1) := by decide +kernel
theorem dL_law_776 : decode cL_law 776 = .ok (.i2l, 1) := by decide +kernel
theorem dL_law_777 : decode cL_law 777 = .ok (.ldc2_w 60, 3) := by decide +kernel
theorem dL_law_780 : decode cL_law 780 = .ok (.land, 1) := by decide +kernel
theorem dL_law_781 : decode cL_law 781 = .ok (.lor, 1) := by decide +kernel
theorem dL_law_782 : decode cL_law 782 = .ok (.invokevirtual 104, 3) := by decide +kernel
theorem dL_law_785 : decode cL_law 785 = .ok (.pop, 1) := by decide +kernel
theorem dL_law_786 : decode cL_law 786 = .ok (.aload_n 2, 1) := by decide +kernel
theorem dL_law_787 : decode cL_law 787 = .ok (.aload_n 0, 1) := by decide +kernel
theorem dL_law_788 : decode cL_law 788 = .ok (.iload_n 3, 1) := by decide +kernel
theorem dL_law_789 : decode cL_law 789 = .ok (.iconst 1, 1) := by decide +kernel
theorem dL_law_790 : decode cL_law 790 = .ok (.iadd, 1) := by decide +kernel
theorem dL_law_791 : decode cL_law 791 = .ok (.iaload, 1) := by decide +kernel
theorem dL_law_792 : decode cL_law 792 = .ok (.aload_n 0, 1) := by decide +kernel
theorem dL_law_793 : decode cL_law 793 = .ok (.iload_n 3, 1) := by decide +kernel
theorem dL_law_794 : decode cL_law 794 = .ok (.iconst 2, 1) := by decide +kernel
theorem dL_law_795 : decode cL_law 795 = .ok (.iadd, 1) := by decide +kernel
theorem dL_law_796 : decode cL_law 796 = .ok (.iaload, 1) := by decide +kernel
theorem dL_law_797 : decode cL_law 797 = .ok (.aload_n 0, 1) := by decide +kernel
theorem dL_law_798 : decode cL_law 798 = .ok (.iload_n 3, 1) := by decide +kernel
theorem dL_law_799 : decode cL_law 799 = .ok (.iconst 3, 1) := by decide +kernel
theorem dL_law_800 : decode cL_law 800 = .ok (.iadd, 1) := by decide +kernel
theorem dL_law_801 : decode cL_law 801 = .ok (.iaload, 1) := by decide +kernel
theorem dL_law_802 : decode cL_law 802 = .ok (.aload_n 0, 1) := by decide +kernel
theorem dL_law_803 : decode cL_law 803 = .ok (.iload_n 3, 1) := by decide +kernel
theorem dL_law_804 : decode cL_law 804 = .ok (.iconst 4, 1) := by decide +kernel
theorem dL_law_805 : decode cL_law 805 = .ok (.iadd, 1) := by decide +kernel
theorem dL_law_806 : decode cL_law 806 = .ok (.iaload, 1) := by decide +kernel
theorem dL_law_807 : decode cL_law 807 = .ok (.aload_n 0, 1) := by decide +kernel
theorem dL_law_808 : decode cL_law 808 = .ok (.iload_n 3, 1) := by decide +kernel
theorem dL_law_809 : decode cL_law 809 = .ok (.iconst 5, 1) := by decide +kernel
theorem dL_law_810 : decode cL_law 810 = .ok (.iadd, 1) := by decide +kernel
theorem dL_law_811 : decode cL_law 811 = .ok (.iaload, 1) := by decide +kernel
theorem dL_law_812 : decode cL_law 812 = .ok (.i2l, 1) := by decide +kernel
theorem dL_law_813 : decode cL_law 813 = .ok (.bipush 32, 2) := by decide +kernel
theorem dL_law_815 : decode cL_law 815 = .ok (.lshl, 1) := by decide +kernel
theorem dL_law_816 : decode cL_law 816 = .ok (.aload_n 0, 1) := by decide +kernel
theorem dL_law_817 : decode cL_law 817 = .ok (.iload_n 3, 1) := by decide +kernel
theorem dL_law_818 : decode cL_law 818 = .ok (.bipush 6, 2) := by decide +kernel
theorem dL_law_820 : decode cL_law 820 = .ok (.iadd, 1) := by decide +kernel
theorem dL_law_821 : decode cL_law 821 = .ok (.iaload, 1) := by decide +kernel
theorem dL_law_822 : decode cL_law 822 = .ok (.i2l, 1) := by decide +kernel
theorem dL_law_823 : decode cL_law 823 = .ok (.ldc2_w 60, 3) := by decide +kernel
theorem dL_law_826 : decode cL_law 826 = .ok (.land, 1) := by decide +kernel
theorem dL_law_827 : decode cL_law 827 = .ok (.lor, 1) := by decide +kernel
theorem dL_law_828 : decode cL_law 828 = .ok (.invokevirtual 108, 3) := by decide +kernel
theorem dL_law_831 : decode cL_law 831 = .ok (.pop, 1) := by decide +kernel
theorem dL_law_832 : decode cL_law 832 = .ok (.goto 99, 3) := by decide +kernel
theorem dL_law_835 : decode cL_law 835 = .ok (.aload_n 1, 1) := by decide +kernel
theorem dL_law_836 : decode cL_law 836 = .ok (.aload_n 0, 1) := by decide +kernel
theorem dL_law_837 : decode cL_law 837 = .ok (.iload_n 3, 1) := by decide +kernel
theorem dL_law_838 : decode cL_law 838 = .ok (.iconst 1, 1) := by decide +kernel
theorem dL_law_839 : decode cL_law 839 = .ok (.iadd, 1) := by decide +kernel
theorem dL_law_840 : decode cL_law 840 = .ok (.iaload, 1) := by decide +kernel
theorem dL_law_841 : decode cL_law 841 = .ok (.aload_n 0, 1) := by decide +kernel
theorem dL_law_842 : decode cL_law 842 = .ok (.iload_n 3, 1) := by decide +kernel
theorem dL_law_843 : decode cL_law 843 = .ok (.iconst 2, 1) := by decide +kernel
theorem dL_law_844 : decode cL_law 844 = .ok (.iadd, 1) := by decide +kernel
theorem dL_law_845 : decode cL_law 845 = .ok (.iaload, 1) := by decide +kernel
theorem dL_law_846 : decode cL_law 846 = .ok (.aload_n 0, 1) := by decide +kernel
theorem dL_law_847 : decode cL_law 847 = .ok (.iload_n 3, 1) := by decide +kernel
theorem dL_law_848 : decode cL_law 848 = .ok (.iconst 3, 1) := by decide +kernel
theorem dL_law_849 : decode cL_law 849 = .ok (.iadd, 1) := by decide +kernel
theorem dL_law_850 : decode cL_law 850 = .ok (.iaload, 1) := by decide +kernel
theorem dL_law_851 : decode cL_law 851 = .ok (.i2l, 1) := by decide +kernel
theorem dL_law_852 : decode cL_law 852 = .ok (.bipush 32, 2) := by decide +kernel
theorem dL_law_854 : decode cL_law 854 = .ok (.lshl, 1) := by decide +kernel
theorem dL_law_855 : decode cL_law 855 = .ok (.aload_n 0, 1) := by decide +kernel
theorem dL_law_856 : decode cL_law 856 = .ok (.iload_n 3, 1) := by decide +kernel
theorem dL_law_857 : decode cL_law 857 = .ok (.iconst 4, 1) := by decide +kernel
theorem dL_law_858 : decode cL_law 858 = .ok (.iadd, 1) := by decide +kernel
theorem dL_law_859 : decode cL_law 859 = .ok (.iaload, 1) := by decide +kernel
theorem dL_law_860 : decode cL_law 860 = .ok (.i2l, 1) := by decide +kernel
theorem dL_law_861 : decode cL_law 861 = .ok (.ldc2_w 60, 3) := by decide +kernel
theorem dL_law_864 : decode cL_law 864 = .ok (.land, 1) := by decide +kernel
theorem dL_law_865 : decode cL_law 865 = .ok (.lor, 1) := by decide +kernel
theorem dL_law_866 : decode cL_law 866 = .ok (.invokevirtual 109, 3) := by decide +kernel
theorem dL_law_869 : decode cL_law 869 = .ok (.pop, 1) := by decide +kernel
theorem dL_law_870 : decode cL_law 870 = .ok (.aload_n 2, 1) := by decide +kernel
theorem dL_law_871 : decode cL_law 871 = .ok (.aload_n 0, 1) := by decide +kernel
theorem dL_law_872 : decode cL_law 872 = .ok (.iload_n 3, 1) := by decide +kernel
theorem dL_law_873 : decode cL_law 873 = .ok (.iconst 1, 1) := by decide +kernel
theorem dL_law_874 : decode cL_law 874 = .ok (.iadd, 1) := by decide +kernel
theorem dL_law_875 : decode cL_law 875 = .ok (.iaload, 1) := by decide +kernel
theorem dL_law_876 : decode cL_law 876 = .ok (.aload_n 0, 1) := by decide +kernel
theorem dL_law_877 : decode cL_law 877 = .ok (.iload_n 3, 1) := by decide +kernel
theorem dL_law_878 : decode cL_law 878 = .ok (.iconst 2, 1) := by decide +kernel
theorem dL_law_879 : decode cL_law 879 = .ok (.iadd, 1) := by decide +kernel
theorem dL_law_880 : decode cL_law 880 = .ok (.iaload, 1) := by decide +kernel
theorem dL_law_881 : decode cL_law 881 = .ok (.aload_n 0, 1) := by decide +kernel
theorem dL_law_882 : decode cL_law 882 = .ok (.iload_n 3, 1) := by decide +kernel
theorem dL_law_883 : decode cL_law 883 = .ok (.iconst 3, 1) := by decide +kernel
theorem dL_law_884 : decode cL_law 884 = .ok (.iadd, 1) := by decide +kernel
theorem dL_law_885 : decode cL_law 885 = .ok (.iaload, 1) := by decide +kernel
theorem dL_law_886 : decode cL_law 886 = .ok (.i2l, 1) := by decide +kernel
theorem dL_law_887 : decode cL_law 887 = .ok (.bipush 32, 2) := by decide +kernel
theorem dL_law_889 : decode cL_law 889 = .ok (.lshl, 1) := by decide +kernel
theorem dL_law_890 : decode cL_law 890 = .ok (.aload_n 0, 1) := by decide +kernel
theorem dL_law_891 : decode cL_law 891 = .ok (.iload_n 3, 1) := by decide +kernel
theorem dL_law_892 : decode cL_law 892 = .ok (.iconst 4, 1) := by decide +kernel
theorem dL_law_893 : decode cL_law 893 = .ok (.iadd, 1) := by decide +kernel
theorem dL_law_894 : decode cL_law 894 = .ok (.iaload, 1) := by decide +kernel
theorem dL_law_895 : decode cL_law 895 = .ok (.i2l, 1) := by decide +kernel
theorem dL_law_896 : decode cL_law 896 = .ok (.ldc2_w 60, 3) := by decide +kernel
theorem dL_law_899 : decode cL_law 899 = .ok (.land, 1) := by decide +kernel
theorem dL_law_900 : decode cL_law 900 = .ok (.lor, 1) := by decide +kernel
theorem dL_law_901 : decode cL_law 901 = .ok (.invokevirtual 113, 3) := by decide +kernel
theorem dL_law_904 : decode cL_law 904 = .ok (.pop, 1) := by decide +kernel
theorem dL_law_905 : decode cL_law 905 = .ok (.goto 26, 3) := by decide +kernel
theorem dL_law_908 : decode cL_law 908 = .ok (.aload_n 1, 1) := by decide +kernel
theorem dL_law_909 : decode cL_law 909 = .ok (.aload_n 0, 1) := by decide +kernel
theorem dL_law_910 : decode cL_law 910 = .ok (.iload_n 3, 1) := by decide +kernel
theorem dL_law_911 : decode cL_law 911 = .ok (.iconst 1, 1) := by decide +kernel
theorem dL_law_912 : decode cL_law 912 = .ok (.iadd, 1) := by decide +kernel
theorem dL_law_913 : decode cL_law 913 = .ok (.iaload, 1) := by decide +kernel
theorem dL_law_914 : decode cL_law 914 = .ok (.invokevirtual 114, 3) := by decide +kernel
theorem dL_law_917 : decode cL_law 917 = .ok (.pop, 1) := by decide +kernel
theorem dL_law_918 : decode cL_law 918 = .ok (.aload_n 2, 1) := by decide +kernel
theorem dL_law_919 : decode cL_law 919 = .ok (.aload_n 0, 1) := by decide +kernel
theorem dL_law_920 : decode cL_law 920 = .ok (.iload_n 3, 1) := by decide +kernel
theorem dL_law_921 : decode cL_law 921 = .ok (.iconst 1, 1) := by decide +kernel
theorem dL_law_922 : decode cL_law 922 = .ok (.iadd, 1) := by decide +kernel
theorem dL_law_923 : decode cL_law 923 = .ok (.iaload, 1) := by decide +kernel
theorem dL_law_924 : decode cL_law 924 = .ok (.invokevirtual 117, 3) := by decide +kernel
theorem dL_law_927 : decode cL_law 927 = .ok (.pop, 1) := by decide +kernel
theorem dL_law_928 : decode cL_law 928 = .ok (.goto 3, 3) := by decide +kernel
theorem dL_law_931 : decode cL_law 931 = .ok (.iinc 3 7, 3) := by decide +kernel
theorem dL_law_934 : decode cL_law 934 = .ok (.goto (-916), 3) := by decide +kernel
theorem dL_law_937 : decode cL_law 937 = .ok (.iconst 1, 1) := by decide +kernel
theorem dL_law_938 : decode cL_law 938 = .ok (.ireturn, 1) := by decide +kernel
theorem dX0_clear_0 : decode cX0_clear 0 = .ok (.aload_n 0, 1) := by decide +kernel
theorem dX0_clear_1 : decode cX0_clear 1 = .ok (.iconst 0, 1) := by decide +kernel
theorem dX0_clear_2 : decode cX0_clear 2 = .ok (.putfield 9, 3) := by decide +kernel
theorem dX0_clear_5 : decode cX0_clear 5 = .ok (.aload_n 0, 1) := by decide +kernel
theorem dX0_clear_6 : decode cX0_clear 6 = .ok (.iconst 0, 1) := by decide +kernel
theorem dX0_clear_7 : decode cX0_clear 7 = .ok (.putfield 15, 3) := by decide +kernel
theorem dX0_clear_10 : decode cX0_clear 10 = .ok (.return_, 1) := by decide +kernel
theorem dX0_close_0 : decode cX0_close 0 = .ok (.iload_n 1, 1) := by decide +kernel
theorem dX0_close_1 : decode cX0_close 1 = .ok (.istore_n 3, 1) := by decide +kernel
theorem dX0_close_2 : decode cX0_close 2 = .ok (.iload_n 3, 1) := by decide +kernel
theorem dX0_close_3 : decode cX0_close 3 = .ok (.iload_n 2, 1) := by decide +kernel
theorem dX0_close_4 : decode cX0_close 4 = .ok (.if_icmp .gt 25, 3) := by decide +kernel
theorem dX0_close_7 : decode cX0_close 7 = .ok (.aload_n 0, 1) := by decide +kernel
theorem dX0_close_8 : decode cX0_close 8 = .ok (.getfield 25, 3) := by decide +kernel
theorem dX0_close_11 : decode cX0_close 11 = .ok (.aload_n 0, 1) := by decide +kernel
theorem dX0_close_12 : decode cX0_close 12 = .ok (.getfield 18, 3) := by decide +kernel
theorem dX0_close_15 : decode cX0_close 15 = .ok (.iload_n 3, 1) := by decide +kernel
theorem dX0_close_16 : decode cX0_close 16 = .ok (.iaload, 1) := by decide +kernel
theorem dX0_close_17 : decode cX0_close 17 = .ok (.iload_n 2, 1) := by decide +kernel
theorem dX0_close_18 : decode cX0_close 18 = .ok (.iload_n 1, 1) := by decide +kernel
theorem dX0_close_19 : decode cX0_close 19 = .ok (.isub, 1) := by decide +kernel
theorem dX0_close_20 : decode cX0_close 20 = .ok (.iconst 1, 1) := by decide +kernel
theorem dX0_close_21 : decode cX0_close 21 = .ok (.iadd, 1) := by decide +kernel
theorem dX0_close_22 : decode cX0_close 22 = .ok (.iastore, 1) := by decide +kernel
theorem dX0_close_23 : decode cX0_close 23 = .ok (.iinc 3 1, 3) := by decide +kernel
theorem dX0_close_26 : decode cX0_close 26 = .ok (.goto (-24), 3) := by decide +kernel
theorem dX0_close_29 : decode cX0_close 29 = .ok (.aload_n 0, 1) := by decide +kernel
theorem dX0_close_30 : decode cX0_close 30 = .ok (.dup, 1) := by decide +kernel
theorem dX0_close_31 : decode cX0_close 31 = .ok (.getfield 15, 3) := by decide +kernel
theorem dX0_close_34 : decode cX0_close 34 = .ok (.iconst 1, 1) := by decide +kernel
theorem dX0_close_35 : decode cX0_close 35 = .ok (.iadd, 1) := by decide +kernel
theorem dX0_close_36 : decode cX0_close 36 = .ok (.putfield 15, 3) := by decide +kernel
theorem dX0_close_39 : decode cX0_close 39 = .ok (.return_, 1) := by decide +kernel
theorem dX0_init_0 : decode cX0_init 0 = .ok (.aload_n 0, 1) := by decide +kernel
theorem dX0_init_1 : decode cX0_init 1 = .ok (.invokespecial 3, 3) := by decide +kernel
theorem dX0_init_4 : decode cX0_init 4 = .ok (.aload_n 0, 1) := by decide +kernel
theorem dX0_init_5 : decode cX0_init 5 = .ok (.iconst 0, 1) := by decide +kernel
theorem dX0_init_6 : decode cX0_init 6 = .ok (.putfield 9, 3) := by decide +kernel
theorem dX0_init_9 : decode cX0_init 9 = .ok (.aload_n 0, 1) := by decide +kernel
theorem dX0_init_10 : decode cX0_init 10 = .ok (.iconst 0, 1) := by decide +kernel
theorem dX0_init_11 : decode cX0_init 11 = .ok (.putfield 15, 3) := by decide +kernel
theorem dX0_init_14 : decode cX0_init 14 = .ok (.aload_n 0, 1) := by decide +kernel
theorem dX0_init_15 : decode cX0_init 15 = .ok (.bipush 20, 2) := by decide +kernel
theorem dX0_init_17 : decode cX0_init 17 = .ok (.newarray .int, 2) := by decide +kernel
theorem dX0_init_19 : decode cX0_init 19 = .ok (.putfield 18, 3) := by decide +kernel
theorem dX0_init_22 : decode cX0_init 22 = .ok (.aload_n 0, 1) := by decide +kernel
theorem dX0_init_23 : decode cX0_init 23 = .ok (.bipush 20, 2) := by decide +kernel
theorem dX0_init_25 : decode cX0_init 25 = .ok (.newarray .int, 2) := by decide +kernel
theorem dX0_init_27 : decode cX0_init 27 = .ok (.putfield 22, 3) := by decide +kernel
theorem dX0_init_30 : decode cX0_init 30 = .ok (.aload_n 0, 1) := by decide +kernel
theorem dX0_init_31 : decode cX0_init 31 = .ok (.bipush 20, 2) := by decide +kernel
theorem dX0_init_33 : decode cX0_init 33 = .ok (.newarray .int, 2) := by decide +kernel
theorem dX0_init_35 : decode cX0_init 35 = .ok (.putfield 25, 3) := by decide +kernel
theorem dX0_init_38 : decode cX0_init 38 = .ok (.return_, 1) := by decide +kernel
theorem dX0_part_0 : decode cX0_part 0 = .ok (.iconst 0, 1) := by decide +kernel
theorem dX0_part_1 : decode cX0_part 1 = .ok (.istore_n 2, 1) := by decide +kernel
theorem dX0_part_2 : decode cX0_part 2 = .ok (.iconst 0, 1) := by decide +kernel
theorem dX0_part_3 : decode cX0_part 3 = .ok (.istore_n 3, 1) := by decide +kernel
theorem dX0_part_4 : decode cX0_part 4 = .ok (.iload_n 3, 1) := by decide +kernel
theorem dX0_part_5 : decode cX0_part 5 = .ok (.aload_n 0, 1) := by decide +kernel
theorem dX0_part_6 : decode cX0_part 6 = .ok (.getfield 9, 3) := by decide +kernel
theorem dX0_part_9 : decode cX0_part 9 = .ok (.if_icmp .ge 81, 3) := by decide +kernel
theorem dX0_part_12 : decode cX0_part 12 = .ok (.aload_n 0, 1) := by decide +kernel
theorem dX0_part_13 : decode cX0_part 13 = .ok (.getfield 22, 3) := by decide +kernel
theorem dX0_part_16 : decode cX0_part 16 = .ok (.aload_n 0, 1) := by decide +kernel
theorem dX0_part_17 : decode cX0_part 17 = .ok (.getfield 18, 3) := by decide +kernel
theorem dX0_part_20 : decode cX0_part 20 = .ok (.iload_n 3, 1) := by decide +kernel
theorem dX0_part_21 : decode cX0_part 21 = .ok (.iaload, 1) := by decide +kernel
theorem dX0_part_22 : decode cX0_part 22 = .ok (.iload_n 3, 1) := by decide +kernel
theorem dX0_part_23 : decode cX0_part 23 = .ok (.iload_n 2, 1) := by decide +kernel
theorem dX0_part_24 : decode cX0_part 24 = .ok (.isub, 1) := by decide +kernel
theorem dX0_part_25 : decode cX0_part 25 = .ok (.iconst 1, 1) := by decide +kernel
theorem dX0_part_26 : decode cX0_part 26 = .ok (.iadd, 1) := by decide +kernel
theorem dX0_part_27 : decode cX0_part 27 = .ok (.iastore, 1) := by decide +kernel
theorem dX0_part_28 : decode cX0_part 28 = .ok (.iload_n 3, 1) := by decide +kernel
theorem dX0_part_29 : decode cX0_part 29 = .ok (.iconst 1, 1) := by decide +kernel
theorem dX0_part_30 : decode cX0_part 30 = .ok (.iadd, 1) := by decide +kernel
theorem dX0_part_31 : decode cX0_part 31 = .ok (.aload_n 0, 1) := by decide +kernel
theorem dX0_part_32 : decode cX0_part 32 = .ok (.getfield 9, 3) := by decide +kernel
theorem dX0_part_35 : decode cX0_part 35 = .ok (.if_icmp .ge 27, 3) := by decide +kernel
theorem dX0_part_38 : decode cX0_part 38 = .ok (.aload_n 1, 1) := by decide +kernel
theorem dX0_part_39 : decode cX0_part 39 = .ok (.aload_n 0, 1) := by decide +kernel
theorem dX0_part_40 : decode cX0_part 40 = .ok (.getfield 18, 3) := by decide +kernel
theorem dX0_part_43 : decode cX0_part 43 = .ok (.iload_n 3, 1) := by decide +kernel
theorem dX0_part_44 : decode cX0_part 44 = .ok (.iaload, 1) := by decide +kernel
theorem dX0_part_45 : decode cX0_part 45 = .ok (.iaload, 1) := by decide +kernel
theorem dX0_part_46 : decode cX0_part 46 = .ok (.aload_n 1, 1) := by decide +kernel
theorem dX0_part_47 : decode cX0_part 47 = .ok (.aload_n 0, 1) := by decide +kernel
theorem dX0_part_48 : decode cX0_part 48 = .ok (.getfield 18, 3) := by decide +kernel
theorem dX0_part_51 : decode cX0_part 51 = .ok (.iload_n 3, 1) := by decide +kernel
theorem dX0_part_52 : decode cX0_part 52 = .ok (.iconst 1, 1) := by decide +kernel
theorem dX0_part_53 : decode cX0_part 53 = .ok (.iadd, 1) := by decide +kernel
theorem dX0_part_54 : decode cX0_part 54 = .ok (.iaload, 1) := by decide +kernel
theorem dX0_part_55 : decode cX0_part 55 = .ok (.iaload, 1) := by decide +kernel
theorem dX0_part_56 : decode cX0_part 56 = .ok (.isub, 1) := by decide +kernel
theorem dX0_part_57 : decode cX0_part 57 = .ok (.bipush 20, 2) := by decide +kernel
theorem dX0_part_59 : decode cX0_part 59 = .ok (.if_icmp .le 7, 3) := by decide +kernel
theorem dX0_part_62 : decode cX0_part 62 = .ok (.iconst 1, 1) := by decide +kernel
theorem dX0_part_63 : decode cX0_part 63 = .ok (.goto 4, 3) := by decide +kernel
theorem dX0_part_66 : decode cX0_part 66 = .ok (.iconst 0, 1) := by decide +kernel
theorem dX0_part_67 : decode cX0_part 67 = .ok (.istore 4, 2) := by decide +kernel
theorem dX0_part_69 : decode cX0_part 69 = .ok (.iload 4, 2) := by decide +kernel
theorem dX0_part_71 : decode cX0_part 71 = .ok (.ifCond .eq 13, 3) := by decide +kernel
theorem dX0_part_74 : decode cX0_part 74 = .ok (.aload_n 0, 1) := by decide +kernel
theorem dX0_part_75 : decode cX0_part 75 = .ok (.iload_n 2, 1) := by decide +kernel
theorem dX0_part_76 : decode cX0_part 76 = .ok (.iload_n 3, 1) := by decide +kernel
theorem dX0_part_77 : decode cX0_part 77 = .ok (.invokevirtual 28, 3) := by decide +kernel
theorem dX0_part_80 : decode cX0_part 80 = .ok (.iload_n 3, 1) := by decide +kernel
theorem dX0_part_81 : decode cX0_part 81 = .ok (.iconst 1, 1) := by decide +kernel
theorem dX0_part_82 : decode cX0_part 82 = .ok (.iadd, 1) := by decide +kernel
theorem dX0_part_83 : decode cX0_part 83 = .ok (.istore_n 2, 1) := by decide +kernel
theorem dX0_part_84 : decode cX0_part 84 = .ok (.iinc 3 1, 3) := by decide +kernel
theorem dX0_part_87 : decode cX0_part 87 = .ok (.goto (-83), 3) := by decide +kernel
theorem dX0_part_90 : decode cX0_part 90 = .ok (.return_, 1) := by decide +kernel
theorem dX0_stand_0 : decode cX0_stand 0 = .ok (.aload_n 0, 1) := by decide +kernel
theorem dX0_stand_1 : decode cX0_stand 1 = .ok (.getfield 9, 3) := by decide +kernel
theorem dX0_stand_4 : decode cX0_stand 4 = .ok (.bipush 20, 2) := by decide +kernel
theorem dX0_stand_6 : decode cX0_stand 6 = .ok (.if_icmp .lt 4, 3) := by decide +kernel
theorem dX0_stand_9 : decode cX0_stand 9 = .ok (.return_, 1) := by decide +kernel
theorem dX0_stand_10 : decode cX0_stand 10 = .ok (.aload_n 0, 1) := by decide +kernel
theorem dX0_stand_11 : decode cX0_stand 11 = .ok (.getfield 9, 3) := by decide +kernel
theorem dX0_stand_14 : decode cX0_stand 14 = .ok (.istore_n 3, 1) := by decide +kernel
theorem dX0_stand_15 : decode cX0_stand 15 = .ok (.iload_n 3, 1) := by decide +kernel
theorem dX0_stand_16 : decode cX0_stand 16 = .ok (.ifCond .le 39, 3) := by decide +kernel
theorem dX0_stand_19 : decode cX0_stand 19 = .ok (.aload_n 2, 1) := by decide +kernel
theorem dX0_stand_20 : decode cX0_stand 20 = .ok (.aload_n 0, 1) := by decide +kernel
theorem dX0_stand_21 : decode cX0_stand 21 = .ok (.getfield 18, 3) := by decide +kernel
theorem dX0_stand_24 : decode cX0_stand 24 = .ok (.iload_n 3, 1) := by decide +kernel
theorem dX0_stand_25 : decode cX0_stand 25 = .ok (.iconst 1, 1) := by decide +kernel
theorem dX0_stand_26 : decode cX0_stand 26 = .ok (.isub, 1) := by decide +kernel
theorem dX0_stand_27 : decode cX0_stand 27 = .ok (.iaload, 1) := by decide +kernel
theorem dX0_stand_28 : decode cX0_stand 28 = .ok (.iaload, 1) := by decide +kernel
theorem dX0_stand_29 : decode cX0_stand 29 = .ok (.aload_n 2, 1) := by decide +kernel
theorem dX0_stand_30 : decode cX0_stand 30 = .ok (.iload_n 1, 1) := by decide +kernel
theorem dX0_stand_31 : decode cX0_stand 31 = .ok (.iaload, 1) := by decide +kernel
theorem dX0_stand_32 : decode cX0_stand 32 = .ok (.if_icmp .ge 23, 3) := by decide +kernel
theorem dX0_stand_35 : decode cX0_stand 35 = .ok (.aload_n 0, 1) := by decide +kernel
theorem dX0_stand_36 : decode cX0_stand 36 = .ok (.getfield 18, 3) := by decide +kernel
theorem dX0_stand_39 : decode cX0_stand 39 = .ok (.iload_n 3, 1) := by decide +kernel
theorem dX0_stand_40 : decode cX0_stand 40 = .ok (.aload_n 0, 1) := by decide +kernel
theorem dX0_stand_41 : decode cX0_stand 41 = .ok (.getfield 18, 3) := by decide +kernel
theorem dX0_stand_44 : decode cX0_stand 44 = .ok (.iload_n 3, 1) := by decide +kernel
theorem dX0_stand_45 : decode cX0_stand 45 = .ok (.iconst 1, 1) := by decide +kernel
theorem dX0_stand_46 : decode cX0_stand 46 = .ok (.isub, 1) := by decide +kernel
theorem dX0_stand_47 : decode cX0_stand 47 = .ok (.iaload, 1) := by decide +kernel
theorem dX0_stand_48 : decode cX0_stand 48 = .ok (.iastore, 1) := by decide +kernel
theorem dX0_stand_49 : decode cX0_stand 49 = .ok (.iinc 3 (-1), 3) := by decide +kernel
theorem dX0_stand_52 : decode cX0_stand 52 = .ok (.goto (-37), 3) := by decide +kernel
theorem dX0_stand_55 : decode cX0_stand 55 = .ok (.aload_n 0, 1) := by decide +kernel
theorem dX0_stand_56 : decode cX0_stand 56 = .ok (.getfield 18, 3) := by decide +kernel
theorem dX0_stand_59 : decode cX0_stand 59 = .ok (.iload_n 3, 1) := by decide +kernel
theorem dX0_stand_60 : decode cX0_stand 60 = .ok (.iload_n 1, 1) := by decide +kernel
theorem dX0_stand_61 : decode cX0_stand 61 = .ok (.iastore, 1) := by decide +kernel
theorem dX0_stand_62 : decode cX0_stand 62 = .ok (.aload_n 0, 1) := by decide +kernel
theorem dX0_stand_63 : decode cX0_stand 63 = .ok (.dup, 1) := by decide +kernel
theorem dX0_stand_64 : decode cX0_stand 64 = .ok (.getfield 9, 3) := by decide +kernel
theorem dX0_stand_67 : decode cX0_stand 67 = .ok (.iconst 1, 1) := by decide +kernel
theorem dX0_stand_68 : decode cX0_stand 68 = .ok (.iadd, 1) := by decide +kernel
theorem dX0_stand_69 : decode cX0_stand 69 = .ok (.putfield 9, 3) := by decide +kernel
theorem dX0_stand_72 : decode cX0_stand 72 = .ok (.return_, 1) := by decide +kernel
theorem dX10_at_0 : decode cX10_at 0 = .ok (.iconst 0, 1) := by decide +kernel
theorem dX10_at_1 : decode cX10_at 1 = .ok (.istore_n 2, 1) := by decide +kernel
theorem dX10_at_2 : decode cX10_at 2 = .ok (.iload_n 2, 1) := by decide +kernel
theorem dX10_at_3 : decode cX10_at 3 = .ok (.aload_n 0, 1) := by decide +kernel
theorem dX10_at_4 : decode cX10_at 4 = .ok (.getfield 123, 3) := by decide +kernel
theorem dX10_at_7 : decode cX10_at 7 = .ok (.if_icmp .ge 46, 3) := by decide +kernel
theorem dX10_at_10 : decode cX10_at 10 = .ok (.aload_n 0, 1) := by decide +kernel
theorem dX10_at_11 : decode cX10_at 11 = .ok (.getfield 243, 3) := by decide +kernel
theorem dX10_at_14 : decode cX10_at 14 = .ok (.ifCond .eq 39, 3) := by decide +kernel
theorem dX10_at_17 : decode cX10_at 17 = .ok (.iload_n 1, 1) := by decide +kernel
theorem dX10_at_18 : decode cX10_at 18 = .ok (.ifCond .le 35, 3) := by decide +kernel
theorem dX10_at_21 : decode cX10_at 21 = .ok (.aload_n 0, 1) := by decide +kernel
theorem dX10_at_22 : decode cX10_at 22 = .ok (.getfield 105, 3) := by decide +kernel
theorem dX10_at_25 : decode cX10_at 25 = .ok (.iload_n 2, 1) := by decide +kernel
theorem dX10_at_26 : decode cX10_at 26 = .ok (.baload, 1) := by decide +kernel
theorem dX10_at_27 : decode cX10_at 27 = .ok (.ifCond .eq 20, 3) := by decide +kernel
theorem dX10_at_30 : decode cX10_at 30 = .ok (.aload_n 0, 1) := by decide +kernel
theorem dX10_at_31 : decode cX10_at 31 = .ok (.getfield 108, 3) := by decide +kernel
theorem dX10_at_34 : decode cX10_at 34 = .ok (.bipush 8, 2) := by decide +kernel
theorem dX10_at_36 : decode cX10_at 36 = .ok (.iload_n 2, 1) := by decide +kernel
theorem dX10_at_37 : decode cX10_at 37 = .ok (.imul, 1) := by decide +kernel
theorem dX10_at_38 : decode cX10_at 38 = .ok (.iconst 2, 1) := by decide +kernel
theorem dX10_at_39 : decode cX10_at 39 = .ok (.iadd, 1) := by decide +kernel
theorem dX10_at_40 : decode cX10_at 40 = .ok (.iaload, 1) := by decide +kernel
theorem dX10_at_41 : decode cX10_at 41 = .ok (.iload_n 1, 1) := by decide +kernel
theorem dX10_at_42 : decode cX10_at 42 = .ok (.if_icmp .ne 5, 3) := by decide +kernel
theorem dX10_at_45 : decode cX10_at 45 = .ok (.iload_n 2, 1) := by decide +kernel
theorem dX10_at_46 : decode cX10_at 46 = .ok (.ireturn, 1) := by decide +kernel
theorem dX10_at_47 : decode cX10_at 47 = .ok (.iinc 2 1, 3) := by decide +kernel
theorem dX10_at_50 : decode cX10_at 50 = .ok (.goto (-48), 3) := by decide +kernel
theorem dX10_at_53 : decode cX10_at 53 = .ok (.iconst (-1), 1) := by decide +kernel
theorem dX10_at_54 : decode cX10_at 54 = .ok (.ireturn, 1) := by decide +kernel
theorem dX10_attempt_0 : decode cX10_attempt 0 = .ok (.aload_n 0, 1) := by decide +kernel
theorem dX10_attempt_1 : decode cX10_attempt 1 = .ok (.iload_n 1, 1) := by decide +kernel
theorem dX10_attempt_2 : decode cX10_attempt 2 = .ok (.iload_n 2, 1) := by decide +kernel
theorem dX10_attempt_3 : decode cX10_attempt 3 = .ok (.invokevirtual 271, 3) := by decide +kernel
theorem dX10_attempt_6 : decode cX10_attempt 6 = .ok (.ifCond .eq 32, 3) := by decide +kernel
theorem dX10_attempt_9 : decode cX10_attempt 9 = .ok (.iload_n 3, 1) := by decide +kernel
theorem dX10_attempt_10 : decode cX10_attempt 10 = .ok (.iconst 0, 1) := by decide +kernel
theorem dX10_attempt_11 : decode cX10_attempt 11 = .ok (.aload_n 0, 1) := by decide +kernel
theorem dX10_attempt_12 : decode cX10_attempt 12 = .ok (.getfield 174, 3) := by decide +kernel
theorem dX10_attempt_15 : decode cX10_attempt 15 = .ok (.iconst 1, 1) := by decide +kernel
theorem dX10_attempt_16 : decode cX10_attempt 16 = .ok (.isub, 1) := by decide +kernel
theorem dX10_attempt_17 : decode cX10_attempt 17 = .ok (.invokestatic 126, 3) := by decide +kernel
theorem dX10_attempt_20 : decode cX10_attempt 20 = .ok (.ifCond .eq 18, 3) := by decide +kernel
theorem dX10_attempt_23 : decode cX10_attempt 23 = .ok (.iload 4, 2) := by decide +kernel
theorem dX10_attempt_25 : decode cX10_attempt 25 = .ok (.iconst 0, 1) := by decide +kernel
theorem dX10_attempt_26 : decode cX10_attempt 26 = .ok (.aload_n 0, 1) := by decide +kernel
theorem dX10_attempt_27 : decode cX10_attempt 27 = .ok (.getfield 174, 3) := by decide +kernel
theorem dX10_attempt_30 : decode cX10_attempt 30 = .ok (.iconst 1, 1) := by decide +kernel
theorem dX10_attempt_31 : decode cX10_attempt 31 = .ok (.isub, 1) := by decide +kernel
theorem dX10_attempt_32 : decode cX10_attempt 32 = .ok (.invokestatic 126, 3) := by decide +kernel
theorem dX10_attempt_35 : decode cX10_attempt 35 = .ok (.ifCond .ne 5, 3) := by decide +kernel
theorem dX10_attempt_38 : decode cX10_attempt 38 = .ok (.iconst (-1), 1) := by decide +kernel
theorem dX10_attempt_39 : decode cX10_attempt 39 = .ok (.ireturn, 1) := by decide +kernel
theorem dX10_attempt_40 : decode cX10_attempt 40 = .ok (.aload_n 0, 1) := by decide +kernel
theorem dX10_attempt_41 : decode cX10_attempt 41 = .ok (.iload_n 1, 1) := by decide +kernel
theorem dX10_attempt_42 : decode cX10_attempt 42 = .ok (.iload_n 2, 1) := by decide +kernel
theorem dX10_attempt_43 : decode cX10_attempt 43 = .ok (.iload_n 3, 1) := by decide +kernel
theorem dX10_attempt_44 : decode cX10_attempt 44 = .ok (.iload 4, 2) := by decide +kernel
theorem dX10_attempt_46 : decode cX10_attempt 46 = .ok (.lload 5, 2) := by decide +kernel
theorem dX10_attempt_48 : decode cX10_attempt 48 = .ok (.invokevirtual 274, 3) := by decide +kernel
theorem dX10_attempt_51 : decode cX10_attempt 51 = .ok (.ireturn, 1) := by decide +kernel
theorem dX10_best_0 : decode cX10_best 0 = .ok (.aload_n 0, 1) := by decide +kernel
theorem dX10_best_1 : decode cX10_best 1 = .ok (.iload_n 1, 1) := by decide +kernel
theorem dX10_best_2 : decode cX10_best 2 = .ok (.iload_n 2, 1) := by decide +kernel
theorem dX10_best_3 : decode cX10_best 3 = .ok (.invokevirtual 271, 3) := by decide +kernel
theorem dX10_best_6 : decode cX10_best 6 = .ok (.ifCond .ne 5, 3) := by decide +kernel
theorem dX10_best_9 : decode cX10_best 9 = .ok (.iconst (-1), 1) := by decide +kernel
theorem dX10_best_10 : decode cX10_best 10 = .ok (.ireturn, 1) := by decide +kernel
theorem dX10_best_11 : decode cX10_best 11 = .ok (.iconst (-1), 1) := by decide +kernel
theorem dX10_best_12 : decode cX10_best 12 = .ok (.istore 5, 2) := by decide +kernel
theorem dX10_best_14 : decode cX10_best 14 = .ok (.iconst (-1), 1) := by decide +kernel
theorem dX10_best_15 : decode cX10_best 15 = .ok (.istore 6, 2) := by decide +kernel
theorem dX10_best_17 : decode cX10_best 17 = .ok (.iconst 0, 1) := by decide +kernel
theorem dX10_best_18 : decode cX10_best 18 = .ok (.istore 7, 2) := by decide +kernel
theorem dX10_best_20 : decode cX10_best 20 = .ok (.iload 7, 2) := by decide +kernel
theorem dX10_best_22 : decode cX10_best 22 = .ok (.aload_n 0, 1) := by decide +kernel
theorem dX10_best_23 : decode cX10_best 23 = .ok (.getfield 174, 3) := by decide +kernel
theorem dX10_best_26 : decode cX10_best 26 = .ok (.if_icmp .ge 73, 3) := by decide +kernel
theorem dX10_best_29 : decode cX10_best 29 = .ok (.iconst 0, 1) := by decide +kernel
theorem dX10_best_30 : decode cX10_best 30 = .ok (.istore 8, 2) := by decide +kernel
theorem dX10_best_32 : decode cX10_best 32 = .ok (.iload 8, 2) := by decide +kernel
theorem dX10_best_34 : decode cX10_best 34 = .ok (.aload_n 0, 1) := by decide +kernel
theorem dX10_best_35 : decode cX10_best 35 = .ok (.getfield 174, 3) := by decide +kernel
theorem dX10_best_38 : decode cX10_best 38 = .ok (.if_icmp .ge 55, 3) := by decide +kernel
theorem dX10_best_41 : decode cX10_best 41 = .ok (.aload_n 0, 1) := by decide +kernel
theorem dX10_best_42 : decode cX10_best 42 = .ok (.iload_n 1, 1) := by decide +kernel
theorem dX10_best_43 : decode cX10_best 43 = .ok (.iload_n 2, 1) := by decide +kernel
theorem dX10_best_44 : decode cX10_best 44 = .ok (.iload 7, 2) := by decide +kernel
theorem dX10_best_46 : decode cX10_best 46 = .ok (.iload 8, 2) := by decide +kernel
theorem dX10_best_48 : decode cX10_best 48 = .ok (.lload_n 3, 1) := by decide +kernel
theorem dX10_best_49 : decode cX10_best 49 = .ok (.invokevirtual 274, 3) := by decide +kernel
theorem dX10_best_52 : decode cX10_best 52 = .ok (.istore 9, 2) := by decide +kernel
theorem dX10_best_54 : decode cX10_best 54 = .ok (.iload 9, 2) := by decide +kernel
theorem dX10_best_56 : decode cX10_best 56 = .ok (.iconst (-1), 1) := by decide +kernel
theorem dX10_best_57 : decode cX10_best 57 = .ok (.if_icmp .eq 30, 3) := by decide +kernel
theorem dX10_best_60 : decode cX10_best 60 = .ok (.iload 6, 2) := by decide +kernel
theorem dX10_best_62 : decode cX10_best 62 = .ok (.iconst (-1), 1) := by decide +kernel
theorem dX10_best_63 : decode cX10_best 63 = .ok (.if_icmp .eq 10, 3) := by decide +kernel
theorem dX10_best_66 : decode cX10_best 66 = .ok (.iload 9, 2) := by decide +kernel
theorem dX10_best_68 : decode cX10_best 68 = .ok (.iload 5, 2) := by decide +kernel
theorem dX10_best_70 : decode cX10_best 70 = .ok (.if_icmp .ge 17, 3) := by decide +kernel
theorem dX10_best_73 : decode cX10_best 73 = .ok (.iload 9, 2) := by decide +kernel
theorem dX10_best_75 : decode cX10_best 75 = .ok (.istore 5, 2) := by decide +kernel
theorem dX10_best_77 : decode cX10_best 77 = .ok (.bipush 10, 2) := by decide +kernel
theorem dX10_best_79 : decode cX10_best 79 = .ok (.iload 7, 2) := by decide +kernel
theorem dX10_best_81 : decode cX10_best 81 = .ok (.imul, 1) := by decide +kernel
theorem dX10_best_82 : decode cX10_best 82 = .ok (.iload 8, 2) := by decide +kernel
theorem dX10_best_84 : decode cX10_best 84 = .ok (.iadd, 1) := by decide +kernel
theorem dX10_best_85 : decode cX10_best 85 = .ok (.istore 6, 2) := by decide +kernel
theorem dX10_best_87 : decode cX10_best 87 = .ok (.iinc 8 1, 3) := by decide +kernel
theorem dX10_best_90 : decode cX10_best 90 = .ok (.goto (-58), 3) := by decide +kernel
theorem dX10_best_93 : decode cX10_best 93 = .ok (.iinc 7 1, 3) := by decide +kernel
theorem dX10_best_96 : decode cX10_best 96 = .ok (.goto (-76), 3) := by decide +kernel
theorem dX10_best_99 : decode cX10_best 99 = .ok (.iload 6, 2) := by decide +kernel
theorem dX10_best_101 : decode cX10_best 101 = .ok (.ireturn, 1) := by decide +kernel
theorem dX10_byteOf_0 : decode cX10_byteOf 0 = .ok (.iload 5, 2) := by decide +kernel
theorem dX10_byteOf_2 : decode cX10_byteOf 2 = .ok (.iconst 4, 1) := by decide +kernel
theorem dX10_byteOf_3 : decode cX10_byteOf 3 = .ok (.if_icmp .ge 7, 3) := by decide +kernel
theorem dX10_byteOf_6 : decode cX10_byteOf 6 = .ok (.iload_n 0, 1) := by decide +kernel
theorem dX10_byteOf_7 : decode cX10_byteOf 7 = .ok (.goto 38, 3) := by decide +kernel
theorem dX10_byteOf_10 : decode cX10_byteOf 10 = .ok (.iload 5, 2) := by decide +kernel
theorem dX10_byteOf_12 : decode cX10_byteOf 12 = .ok (.bipush 8, 2) := by decide +kernel
theorem dX10_byteOf_14 : decode cX10_byteOf 14 = .ok (.if_icmp .ge 7, 3) := by decide +kernel
theorem dX10_byteOf_17 : decode cX10_byteOf 17 = .ok (.iload_n 1, 1) := by decide +kernel
theorem dX10_byteOf_18 : decode cX10_byteOf 18 = .ok (.goto 27, 3) := by decide +kernel
theorem dX10_byteOf_21 : decode cX10_byteOf 21 = .ok (.iload 5, 2) := by decide +kernel
theorem dX10_byteOf_23 : decode cX10_byteOf 23 = .ok (.bipush 12, 2) := by decide +kernel
theorem dX10_byteOf_25 : decode cX10_byteOf 25 = .ok (.if_icmp .ge 7, 3) := by decide +kernel
theorem dX10_byteOf_28 : decode cX10_byteOf 28 = .ok (.iload_n 2, 1) := by decide +kernel
theorem dX10_byteOf_29 : decode cX10_byteOf 29 = .ok (.goto 16, 3) := by decide +kernel
theorem dX10_byteOf_32 : decode cX10_byteOf 32 = .ok (.iload 5, 2) := by decide +kernel
theorem dX10_byteOf_34 : decode cX10_byteOf 34 = .ok (.bipush 16, 2) := by decide +kernel
theorem dX10_byteOf_36 : decode cX10_byteOf 36 = .ok (.if_icmp .ge 7, 3) := by decide +kernel
theorem dX10_byteOf_39 : decode cX10_byteOf 39 = .ok (.iload_n 3, 1) := by decide +kernel
theorem dX10_byteOf_40 : decode cX10_byteOf 40 = .ok (.goto 5, 3) := by decide +kernel
theorem dX10_byteOf_43 : decode cX10_byteOf 43 = .ok (.iload 4, 2) := by decide +kernel
theorem dX10_byteOf_45 : decode cX10_byteOf 45 = .ok (.istore 6, 2) := by decide +kernel
theorem dX10_byteOf_47 : decode cX10_byteOf 47 = .ok (.iload 6, 2) := by decide +kernel
theorem dX10_byteOf_49 : decode cX10_byteOf 49 = .ok (.bipush 24, 2) := by decide +kernel
theorem dX10_byteOf_51 : decode cX10_byteOf 51 = .ok (.bipush 8, 2) := by decide +kernel
theorem dX10_byteOf_53 : decode cX10_byteOf 53 = .ok (.iload 5, 2) := by decide +kernel
theorem dX10_byteOf_55 : decode cX10_byteOf 55 = .ok (.iconst 4, 1) := by decide +kernel
theorem dX10_byteOf_56 : decode cX10_byteOf 56 = .ok (.irem, 1) := by decide +kernel
theorem dX10_byteOf_57 : decode cX10_byteOf 57 = .ok (.imul, 1) := by decide +kernel
theorem dX10_byteOf_58 : decode cX10_byteOf 58 = .ok (.isub, 1) := by decide +kernel
theorem dX10_byteOf_59 : decode cX10_byteOf 59 = .ok (.ishr, 1) := by decide +kernel
theorem dX10_byteOf_60 : decode cX10_byteOf 60 = .ok (.sipush 255, 3) := by decide +kernel
theorem dX10_byteOf_63 : decode cX10_byteOf 63 = .ok (.iand, 1) := by decide +kernel
theorem dX10_byteOf_64 : decode cX10_byteOf 64 = .ok (.ireturn, 1) := by decide +kernel
theorem dX10_choice_0 : decode cX10_choice 0 = .ok (.aload_n 0, 1) := by decide +kernel
theorem dX10_choice_1 : decode cX10_choice 1 = .ok (.getfield 174, 3) := by decide +kernel
theorem dX10_choice_4 : decode cX10_choice 4 = .ok (.iconst 4, 1) := by decide +kernel
theorem dX10_choice_5 : decode cX10_choice 5 = .ok (.if_icmp .eq 11, 3) := by decide +kernel
theorem dX10_choice_8 : decode cX10_choice 8 = .ok (.aload_n 0, 1) := by decide +kernel
theorem dX10_choice_9 : decode cX10_choice 9 = .ok (.invokevirtual 167, 3) := by decide +kernel
theorem dX10_choice_12 : decode cX10_choice 12 = .ok (.iconst (-1), 1) := by decide +kernel
theorem dX10_choice_13 : decode cX10_choice 13 = .ok (.if_icmp .eq 5, 3) := by decide +kernel
theorem dX10_choice_16 : decode cX10_choice 16 = .ok (.iconst (-1), 1) := by decide +kernel
theorem dX10_choice_17 : decode cX10_choice 17 = .ok (.ireturn, 1) := by decide +kernel
theorem dX10_choice_18 : decode cX10_choice 18 = .ok (.aload_n 0, 1) := by decide +kernel
theorem dX10_choice_19 : decode cX10_choice 19 = .ok (.iconst 5, 1) := by decide +kernel
theorem dX10_choice_20 : decode cX10_choice 20 = .ok (.aload_n 0, 1) := by decide +kernel
theorem dX10_choice_21 : decode cX10_choice 21 = .ok (.getfield 174, 3) := by decide +kernel
theorem dX10_choice_24 : decode cX10_choice 24 = .ok (.iadd, 1) := by decide +kernel
theorem dX10_choice_25 : decode cX10_choice 25 = .ok (.invokevirtual 170, 3) := by decide +kernel
theorem dX10_choice_28 : decode cX10_choice 28 = .ok (.aload_n 0, 1) := by decide +kernel
theorem dX10_choice_29 : decode cX10_choice 29 = .ok (.dup, 1) := by decide +kernel
theorem dX10_choice_30 : decode cX10_choice 30 = .ok (.getfield 174, 3) := by decide +kernel
theorem dX10_choice_33 : decode cX10_choice 33 = .ok (.iconst 1, 1) := by decide +kernel
theorem dX10_choice_34 : decode cX10_choice 34 = .ok (.iadd, 1) := by decide +kernel
theorem dX10_choice_35 : decode cX10_choice 35 = .ok (.putfield 174, 3) := by decide +kernel
theorem dX10_choice_38 : decode cX10_choice 38 = .ok (.aload_n 0, 1) := by decide +kernel
theorem dX10_choice_39 : decode cX10_choice 39 = .ok (.getfield 174, 3) := by decide +kernel
theorem dX10_choice_42 : decode cX10_choice 42 = .ok (.iconst 1, 1) := by decide +kernel
theorem dX10_choice_43 : decode cX10_choice 43 = .ok (.isub, 1) := by decide +kernel
theorem dX10_choice_44 : decode cX10_choice 44 = .ok (.ireturn, 1) := by decide +kernel
theorem dX10_clause_0 : decode cX10_clause 0 = .ok (.aload_n 0, 1) := by decide +kernel
theorem dX10_clause_1 : decode cX10_clause 1 = .ok (.invokevirtual 153, 3) := by decide +kernel
theorem dX10_clause_4 : decode cX10_clause 4 = .ok (.istore_n 1, 1) := by decide +kernel
theorem dX10_clause_5 : decode cX10_clause 5 = .ok (.iload_n 1, 1) := by decide +kernel
theorem dX10_clause_6 : decode cX10_clause 6 = .ok (.bipush 115, 2) := by decide +kernel
theorem dX10_clause_8 : decode cX10_clause 8 = .ok (.if_icmp .eq 29, 3) := by decide +kernel
theorem dX10_clause_11 : decode cX10_clause 11 = .ok (.iload_n 1, 1) := by decide +kernel
theorem dX10_clause_12 : decode cX10_clause 12 = .ok (.bipush 107, 2) := by decide +kernel
theorem dX10_clause_14 : decode cX10_clause 14 = .ok (.if_icmp .eq 23, 3) := by decide +kernel
theorem dX10_clause_17 : decode cX10_clause 17 = .ok (.iload_n 1, 1) := by decide +kernel
theorem dX10_clause_18 : decode cX10_clause 18 = .ok (.bipush 103, 2) := by decide +kernel
theorem dX10_clause_20 : decode cX10_clause 20 = .ok (.if_icmp .eq 17, 3) := by decide +kernel
theorem dX10_clause_23 : decode cX10_clause 23 = .ok (.iload_n 1, 1) := by decide +kernel
theorem dX10_clause_24 : decode cX10_clause 24 = .ok (.bipush 110, 2) := by decide +kernel
theorem dX10_clause_26 : decode cX10_clause 26 = .ok (.if_icmp .eq 11, 3) := by decide +kernel
theorem dX10_clause_29 : decode cX10_clause 29 = .ok (.iload_n 1, 1) := by decide +kernel
theorem dX10_clause_30 : decode cX10_clause 30 = .ok (.bipush 112, 2) := by decide +kernel
theorem dX10_clause_32 : decode cX10_clause 32 = .ok (.if_icmp .eq 5, 3) := by decide +kernel
theorem dX10_clause_35 : decode cX10_clause 35 = .ok (.iconst 0, 1) := by decide +kernel
theorem dX10_clause_36 : decode cX10_clause 36 = .ok (.ireturn, 1) := by decide +kernel
theorem dX10_clause_37 : decode cX10_clause 37 = .ok (.aload_n 0, 1) := by decide +kernel
theorem dX10_clause_38 : decode cX10_clause 38 = .ok (.dup, 1) := by decide +kernel
theorem dX10_clause_39 : decode cX10_clause 39 = .ok (.getfield 150, 3) := by decide +kernel
theorem dX10_clause_42 : decode cX10_clause 42 = .ok (.iconst 1, 1) := by decide +kernel
theorem dX10_clause_43 : decode cX10_clause 43 = .ok (.iadd, 1) := by decide +kernel
theorem dX10_clause_44 : decode cX10_clause 44 = .ok (.putfield 150, 3) := by decide +kernel
theorem dX10_clause_47 : decode cX10_clause 47 = .ok (.aload_n 0, 1) := by decide +kernel
theorem dX10_clause_48 : decode cX10_clause 48 = .ok (.invokevirtual 153, 3) := by decide +kernel
theorem dX10_clause_51 : decode cX10_clause 51 = .ok (.istore_n 2, 1) := by decide +kernel
theorem dX10_clause_52 : decode cX10_clause 52 = .ok (.iload_n 2, 1) := by decide +kernel
theorem dX10_clause_53 : decode cX10_clause 53 = .ok (.bipush 61, 2) := by decide +kernel
theorem dX10_clause_55 : decode cX10_clause 55 = .ok (.if_icmp .eq 17, 3) := by decide +kernel
theorem dX10_clause_58 : decode cX10_clause 58 = .ok (.iload_n 2, 1) := by decide +kernel
theorem dX10_clause_59 : decode cX10_clause 59 = .ok (.bipush 60, 2) := by decide +kernel
theorem dX10_clause_61 : decode cX10_clause 61 = .ok (.if_icmp .eq 11, 3) := by decide +kernel
theorem dX10_clause_64 : decode cX10_clause 64 = .ok (.iload_n 2, 1) := by decide +kernel
theorem dX10_clause_65 : decode cX10_clause 65 = .ok (.bipush 62, 2) := by decide +kernel
theorem dX10_clause_67 : decode cX10_clause 67 = .ok (.if_icmp .eq 5, 3) := by decide +kernel
theorem dX10_clause_70 : decode cX10_clause 70 = .ok (.iconst 0, 1) := by decide +kernel
theorem dX10_clause_71 : decode cX10_clause 71 = .ok (.ireturn, 1) := by decide +kernel
theorem dX10_clause_72 : decode cX10_clause 72 = .ok (.aload_n 0, 1) := by decide +kernel
theorem dX10_clause_73 : decode cX10_clause 73 = .ok (.dup, 1) := by decide +kernel
theorem dX10_clause_74 : decode cX10_clause 74 = .ok (.getfield 150, 3) := by decide +kernel
theorem dX10_clause_77 : decode cX10_clause 77 = .ok (.iconst 1, 1) := by decide +kernel
theorem dX10_clause_78 : decode cX10_clause 78 = .ok (.iadd, 1) := by decide +kernel
theorem dX10_clause_79 : decode cX10_clause 79 = .ok (.putfield 150, 3) := by decide +kernel
theorem dX10_clause_82 : decode cX10_clause 82 = .ok (.aload_n 0, 1) := by decide +kernel
theorem dX10_clause_83 : decode cX10_clause 83 = .ok (.invokevirtual 153, 3) := by decide +kernel
theorem dX10_clause_86 : decode cX10_clause 86 = .ok (.invokestatic 157, 3) := by decide +kernel
theorem dX10_clause_89 : decode cX10_clause 89 = .ok (.ifCond .ne 5, 3) := by decide +kernel
theorem dX10_clause_92 : decode cX10_clause 92 = .ok (.iconst 0, 1) := by decide +kernel
theorem dX10_clause_93 : decode cX10_clause 93 = .ok (.ireturn, 1) := by decide +kernel
theorem dX10_clause_94 : decode cX10_clause 94 = .ok (.iconst 0, 1) := by decide +kernel
theorem dX10_clause_95 : decode cX10_clause 95 = .ok (.istore_n 3, 1) := by decide +kernel
theorem dX10_clause_96 : decode cX10_clause 96 = .ok (.iconst 0, 1) := by decide +kernel
theorem dX10_clause_97 : decode cX10_clause 97 = .ok (.istore 4, 2) := by decide +kernel
theorem dX10_clause_99 : decode cX10_clause 99 = .ok (.aload_n 0, 1) := by decide +kernel
theorem dX10_clause_100 : decode cX10_clause 100 = .ok (.getfield 150, 3) := by decide +kernel
theorem dX10_clause_103 : decode cX10_clause 103 = .ok (.aload_n 0, 1) := by decide +kernel
theorem dX10_clause_104 : decode cX10_clause 104 = .ok (.getfield 147, 3) := by decide +kernel
theorem dX10_clause_107 : decode cX10_clause 107 = .ok (.if_icmp .ge 60, 3) := by decide +kernel
theorem dX10_clause_110 : decode cX10_clause 110 = .ok (.aload_n 0, 1) := by decide +kernel
theorem dX10_clause_111 : decode cX10_clause 111 = .ok (.getfield 41, 3) := by decide +kernel
theorem dX10_clause_114 : decode cX10_clause 114 = .ok (.aload_n 0, 1) := by decide +kernel
theorem dX10_clause_115 : decode cX10_clause 115 = .ok (.getfield 150, 3) := by decide +kernel
theorem dX10_clause_118 : decode cX10_clause 118 = .ok (.iaload, 1) := by decide +kernel
theorem dX10_clause_119 : decode cX10_clause 119 = .ok (.invokestatic 157, 3) := by decide +kernel
theorem dX10_clause_122 : decode cX10_clause 122 = .ok (.ifCond .eq 45, 3) := by decide +kernel
theorem dX10_clause_125 : decode cX10_clause 125 = .ok (.iload 4, 2) := by decide +kernel
theorem dX10_clause_127 : decode cX10_clause 127 = .ok (.iconst 3, 1) := by decide +kernel
theorem dX10_clause_128 : decode cX10_clause 128 = .ok (.if_icmp .ne 5, 3) := by decide +kernel
theorem dX10_clause_131 : decode cX10_clause 131 = .ok (.iconst 0, 1) := by decide +kernel
theorem dX10_clause_132 : decode cX10_clause 132 = .ok (.ireturn, 1) := by decide +kernel
theorem dX10_clause_133 : decode cX10_clause 133 = .ok (.bipush 10, 2) := by decide +kernel
theorem dX10_clause_135 : decode cX10_clause 135 = .ok (.iload_n 3, 1) := by decide +kernel
theorem dX10_clause_136 : decode cX10_clause 136 = .ok (.imul, 1) := by decide +kernel
theorem dX10_clause_137 : decode cX10_clause 137 = .ok (.aload_n 0, 1) := by decide +kernel
theorem dX10_clause_138 : decode cX10_clause 138 = .ok (.getfield 41, 3) := by decide +kernel
theorem dX10_clause_141 : decode cX10_clause 141 = .ok (.aload_n 0, 1) := by decide +kernel
theorem dX10_clause_142 : decode cX10_clause 142 = .ok (.getfield 150, 3) := by decide +kernel
theorem dX10_clause_145 : decode cX10_clause 145 = .ok (.iaload, 1) := by decide +kernel
theorem dX10_clause_146 : decode cX10_clause 146 = .ok (.iadd, 1) := by decide +kernel
theorem dX10_clause_147 : decode cX10_clause 147 = .ok (.bipush 48, 2) := by decide +kernel
theorem dX10_clause_149 : decode cX10_clause 149 = .ok (.isub, 1) := by decide +kernel
theorem dX10_clause_150 : decode cX10_clause 150 = .ok (.istore_n 3, 1) := by decide +kernel
theorem dX10_clause_151 : decode cX10_clause 151 = .ok (.iinc 4 1, 3) := by decide +kernel
theorem dX10_clause_154 : decode cX10_clause 154 = .ok (.aload_n 0, 1) := by decide +kernel
theorem dX10_clause_155 : decode cX10_clause 155 = .ok (.dup, 1) := by decide +kernel
theorem dX10_clause_156 : decode cX10_clause 156 = .ok (.getfield 150, 3) := by decide +kernel
theorem dX10_clause_159 : decode cX10_clause 159 = .ok (.iconst 1, 1) := by decide +kernel
theorem dX10_clause_160 : decode cX10_clause 160 = .ok (.iadd, 1) := by decide +kernel
theorem dX10_clause_161 : decode cX10_clause 161 = .ok (.putfield 150, 3) := by decide +kernel
theorem dX10_clause_164 : decode cX10_clause 164 = .ok (.goto (-65), 3) := by decide +kernel
theorem dX10_clause_167 : decode cX10_clause 167 = .ok (.aload_n 0, 1) := by decide +kernel
theorem dX10_clause_168 : decode cX10_clause 168 = .ok (.invokevirtual 153, 3) := by decide +kernel
theorem dX10_clause_171 : decode cX10_clause 171 = .ok (.bipush 58, 2) := by decide +kernel
theorem dX10_clause_173 : decode cX10_clause 173 = .ok (.if_icmp .eq 5, 3) := by decide +kernel
theorem dX10_clause_176 : decode cX10_clause 176 = .ok (.iconst 0, 1) := by decide +kernel
theorem dX10_clause_177 : decode cX10_clause 177 = .ok (.ireturn, 1) := by decide +kernel
theorem dX10_clause_178 : decode cX10_clause 178 = .ok (.aload_n 0, 1) := by decide +kernel
theorem dX10_clause_179 : decode cX10_clause 179 = .ok (.dup, 1) := by decide +kernel
theorem dX10_clause_180 : decode cX10_clause 180 = .ok (.getfield 150, 3) := by decide +kernel
theorem dX10_clause_183 : decode cX10_clause 183 = .ok (.iconst 1, 1) := by decide +kernel
theorem dX10_clause_184 : decode cX10_clause 184 = .ok (.iadd, 1) := by decide +kernel
theorem dX10_clause_185 : decode cX10_clause 185 = .ok (.putfield 150, 3) := by decide +kernel
theorem dX10_clause_188 : decode cX10_clause 188 = .ok (.aload_n 0, 1) := by decide +kernel
theorem dX10_clause_189 : decode cX10_clause 189 = .ok (.invokevirtual 153, 3) := by decide +kernel
theorem dX10_clause_192 : decode cX10_clause 192 = .ok (.istore 5, 2) := by decide +kernel
theorem dX10_clause_194 : decode cX10_clause 194 = .ok (.iload 5, 2) := by decide +kernel
theorem dX10_clause_196 : decode cX10_clause 196 = .ok (.invokestatic 157, 3) := by decide +kernel
theorem dX10_clause_199 : decode cX10_clause 199 = .ok (.ifCond .ne 5, 3) := by decide +kernel
theorem dX10_clause_202 : decode cX10_clause 202 = .ok (.iconst 0, 1) := by decide +kernel
theorem dX10_clause_203 : decode cX10_clause 203 = .ok (.ireturn, 1) := by decide +kernel
theorem dX10_clause_204 : decode cX10_clause 204 = .ok (.aload_n 0, 1) := by decide +kernel
theorem dX10_clause_205 : decode cX10_clause 205 = .ok (.dup, 1) := by decide +kernel
theorem dX10_clause_206 : decode cX10_clause 206 = .ok (.getfield 150, 3) := by decide +kernel
theorem dX10_clause_209 : decode cX10_clause 209 = .ok (.iconst 1, 1) := by decide +kernel
theorem dX10_clause_210 : decode cX10_clause 210 = .ok (.iadd, 1) := by decide +kernel
theorem dX10_clause_211 : decode cX10_clause 211 = .ok (.putfield 150, 3) := by decide +kernel
theorem dX10_clause_214 : decode cX10_clause 214 = .ok (.sipush 216, 3) := by decide +kernel
theorem dX10_clause_217 : decode cX10_clause 217 = .ok (.aload_n 0, 1) := by decide +kernel
theorem dX10_clause_218 : decode cX10_clause 218 = .ok (.getfield 160, 3) := by decide +kernel
theorem dX10_clause_221 : decode cX10_clause 221 = .ok (.iadd, 1) := by decide +kernel
theorem dX10_clause_222 : decode cX10_clause 222 = .ok (.istore 6, 2) := by decide +kernel
theorem dX10_clause_224 : decode cX10_clause 224 = .ok (.aload_n 0, 1) := by decide +kernel
theorem dX10_clause_225 : decode cX10_clause 225 = .ok (.getfield 47, 3) := by decide +kernel
theorem dX10_clause_228 : decode cX10_clause 228 = .ok (.iload 6, 2) := by decide +kernel
theorem dX10_clause_230 : decode cX10_clause 230 = .ok (.iload_n 1, 1) := by decide +kernel
theorem dX10_clause_231 : decode cX10_clause 231 = .ok (.iastore, 1) := by decide +kernel
theorem dX10_clause_232 : decode cX10_clause 232 = .ok (.aload_n 0, 1) := by decide +kernel
theorem dX10_clause_233 : decode cX10_clause 233 = .ok (.getfield 50, 3) := by decide +kernel
theorem dX10_clause_236 : decode cX10_clause 236 = .ok (.iload 6, 2) := by decide +kernel
theorem dX10_clause_238 : decode cX10_clause 238 = .ok (.iload_n 2, 1) := by decide +kernel
theorem dX10_clause_239 : decode cX10_clause 239 = .ok (.iastore, 1) := by decide +kernel
theorem dX10_clause_240 : decode cX10_clause 240 = .ok (.aload_n 0, 1) := by decide +kernel
theorem dX10_clause_241 : decode cX10_clause 241 = .ok (.getfield 53, 3) := by decide +kernel
theorem dX10_clause_244 : decode cX10_clause 244 = .ok (.iload 6, 2) := by decide +kernel
theorem dX10_clause_246 : decode cX10_clause 246 = .ok (.iload_n 3, 1) := by decide +kernel
theorem dX10_clause_247 : decode cX10_clause 247 = .ok (.iastore, 1) := by decide +kernel
theorem dX10_clause_248 : decode cX10_clause 248 = .ok (.aload_n 0, 1) := by decide +kernel
theorem dX10_clause_249 : decode cX10_clause 249 = .ok (.getfield 56, 3) := by decide +kernel
theorem dX10_clause_252 : decode cX10_clause 252 = .ok (.iload 6, 2) := by decide +kernel
theorem dX10_clause_254 : decode cX10_clause 254 = .ok (.iload 5, 2) := by decide +kernel
theorem dX10_clause_256 : decode cX10_clause 256 = .ok (.bipush 48, 2) := by decide +kernel
theorem dX10_clause_258 : decode cX10_clause 258 = .ok (.isub, 1) := by decide +kernel
theorem dX10_clause_259 : decode cX10_clause 259 = .ok (.iastore, 1) := by decide +kernel
theorem dX10_clause_260 : decode cX10_clause 260 = .ok (.aload_n 0, 1) := by decide +kernel
theorem dX10_clause_261 : decode cX10_clause 261 = .ok (.dup, 1) := by decide +kernel
theorem dX10_clause_262 : decode cX10_clause 262 = .ok (.getfield 160, 3) := by decide +kernel
theorem dX10_clause_265 : decode cX10_clause 265 = .ok (.iconst 1, 1) := by decide +kernel
theorem dX10_clause_266 : decode cX10_clause 266 = .ok (.iadd, 1) := by decide +kernel
theorem dX10_clause_267 : decode cX10_clause 267 = .ok (.putfield 160, 3) := by decide +kernel
theorem dX10_clause_270 : decode cX10_clause 270 = .ok (.iconst 1, 1) := by decide +kernel
theorem dX10_clause_271 : decode cX10_clause 271 = .ok (.ireturn, 1) := by decide +kernel
theorem dX10_count_0 : decode cX10_count 0 = .ok (.iconst 0, 1) := by decide +kernel
theorem dX10_count_1 : decode cX10_count 1 = .ok (.istore_n 2, 1) := by decide +kernel
theorem dX10_count_2 : decode cX10_count 2 = .ok (.iconst 0, 1) := by decide +kernel
theorem dX10_count_3 : decode cX10_count 3 = .ok (.istore_n 3, 1) := by decide +kernel
theorem dX10_count_4 : decode cX10_count 4 = .ok (.iload_n 3, 1) := by decide +kernel
theorem dX10_count_5 : decode cX10_count 5 = .ok (.aload_n 0, 1) := by decide +kernel
theorem dX10_count_6 : decode cX10_count 6 = .ok (.getfield 123, 3) := by decide +kernel
theorem dX10_count_9 : decode cX10_count 9 = .ok (.if_icmp .ge 26, 3) := by decide +kernel
theorem dX10_count_12 : decode cX10_count 12 = .ok (.iload_n 2, 1) := by decide +kernel
theorem dX10_count_13 : decode cX10_count 13 = .ok (.aload_n 0, 1) := by decide +kernel
theorem dX10_count_14 : decode cX10_count 14 = .ok (.getfield 63, 3) := by decide +kernel
theorem dX10_count_17 : decode cX10_count 17 = .ok (.iload_n 3, 1) := by decide +kernel
theorem dX10_count_18 : decode cX10_count 18 = .ok (.baload, 1) := by decide +kernel
theorem dX10_count_19 : decode cX10_count 19 = .ok (.ifCond .eq 7, 3) := by decide +kernel
theorem dX10_count_22 : decode cX10_count 22 = .ok (.iconst 1, 1) := by decide +kernel
theorem dX10_count_23 : decode cX10_count 23 = .ok (.goto 4, 3) := by decide +kernel
theorem dX10_count_26 : decode cX10_count 26 = .ok (.iconst 0, 1) := by decide +kernel
theorem dX10_count_27 : decode cX10_count 27 = .ok (.iadd, 1) := by decide +kernel
theorem dX10_count_28 : decode cX10_count 28 = .ok (.istore_n 2, 1) := by decide +kernel
theorem dX10_count_29 : decode cX10_count 29 = .ok (.iinc 3 1, 3) := by decide +kernel
theorem dX10_count_32 : decode cX10_count 32 = .ok (.goto (-28), 3) := by decide +kernel
theorem dX10_count_35 : decode cX10_count 35 = .ok (.iload_n 1, 1) := by decide +kernel
theorem dX10_count_36 : decode cX10_count 36 = .ok (.tableswitch 96 0 7 #[48, 53, 58, 63, 68, 73, 78, 80], 48) := by decide +kernel
theorem dX10_count_84 : decode cX10_count 84 = .ok (.aload_n 0, 1) := by decide +kernel
theorem dX10_count_85 : decode cX10_count 85 = .ok (.getfield 123, 3) := by decide +kernel
theorem dX10_count_88 : decode cX10_count 88 = .ok (.ireturn, 1) := by decide +kernel
theorem dX10_count_89 : decode cX10_count 89 = .ok (.aload_n 0, 1) := by decide +kernel
theorem dX10_count_90 : decode cX10_count 90 = .ok (.getfield 9, 3) := by decide +kernel
theorem dX10_count_93 : decode cX10_count 93 = .ok (.ireturn, 1) := by decide +kernel
theorem dX10_count_94 : decode cX10_count 94 = .ok (.aload_n 0, 1) := by decide +kernel
theorem dX10_count_95 : decode cX10_count 95 = .ok (.getfield 133, 3) := by decide +kernel
theorem dX10_count_98 : decode cX10_count 98 = .ok (.ireturn, 1) := by decide +kernel
theorem dX10_count_99 : decode cX10_count 99 = .ok (.aload_n 0, 1) := by decide +kernel
theorem dX10_count_100 : decode cX10_count 100 = .ok (.getfield 130, 3) := by decide +kernel
theorem dX10_count_103 : decode cX10_count 103 = .ok (.ireturn, 1) := by decide +kernel
theorem dX10_count_104 : decode cX10_count 104 = .ok (.aload_n 0, 1) := by decide +kernel
theorem dX10_count_105 : decode cX10_count 105 = .ok (.getfield 174, 3) := by decide +kernel
theorem dX10_count_108 : decode cX10_count 108 = .ok (.ireturn, 1) := by decide +kernel
theorem dX10_count_109 : decode cX10_count 109 = .ok (.aload_n 0, 1) := by decide +kernel
theorem dX10_count_110 : decode cX10_count 110 = .ok (.getfield 147, 3) := by decide +kernel
theorem dX10_count_113 : decode cX10_count 113 = .ok (.ireturn, 1) := by decide +kernel
theorem dX10_count_114 : decode cX10_count 114 = .ok (.iload_n 2, 1) := by decide +kernel
theorem dX10_count_115 : decode cX10_count 115 = .ok (.ireturn, 1) := by decide +kernel
theorem dX10_count_116 : decode cX10_count 116 = .ok (.aload_n 0, 1) := by decide +kernel
theorem dX10_count_117 : decode cX10_count 117 = .ok (.getfield 243, 3) := by decide +kernel
theorem dX10_count_120 : decode cX10_count 120 = .ok (.ifCond .eq 10, 3) := by decide +kernel
theorem dX10_count_123 : decode cX10_count 123 = .ok (.aload_n 0, 1) := by decide +kernel
theorem dX10_count_124 : decode cX10_count 124 = .ok (.getfield 250, 3) := by decide +kernel
theorem dX10_count_127 : decode cX10_count 127 = .ok (.goto 4, 3) := by decide +kernel
theorem dX10_count_130 : decode cX10_count 130 = .ok (.iconst (-1), 1) := by decide +kernel
theorem dX10_count_131 : decode cX10_count 131 = .ok (.ireturn, 1) := by decide +kernel
theorem dX10_count_132 : decode cX10_count 132 = .ok (.iconst (-1), 1) := by decide +kernel
theorem dX10_count_133 : decode cX10_count 133 = .ok (.ireturn, 1) := by decide +kernel
theorem dX10_crash_0 : decode cX10_crash 0 = .ok (.aload_n 0, 1) := by decide +kernel
theorem dX10_crash_1 : decode cX10_crash 1 = .ok (.iload_n 1, 1) := by decide +kernel
theorem dX10_crash_2 : decode cX10_crash 2 = .ok (.invokevirtual 136, 3) := by decide +kernel
theorem dX10_crash_5 : decode cX10_crash 5 = .ok (.ifCond .eq 13, 3) := by decide +kernel
theorem dX10_crash_8 : decode cX10_crash 8 = .ok (.iload_n 2, 1) := by decide +kernel
theorem dX10_crash_9 : decode cX10_crash 9 = .ok (.iconst 0, 1) := by decide +kernel
theorem dX10_crash_10 : decode cX10_crash 10 = .ok (.bipush 100, 2) := by decide +kernel
theorem dX10_crash_12 : decode cX10_crash 12 = .ok (.invokestatic 126, 3) := by decide +kernel
theorem dX10_crash_15 : decode cX10_crash 15 = .ok (.ifCond .ne 5, 3) := by decide +kernel
theorem dX10_crash_18 : decode cX10_crash 18 = .ok (.iconst 0, 1) := by decide +kernel
theorem dX10_crash_19 : decode cX10_crash 19 = .ok (.ireturn, 1) := by decide +kernel
theorem dX10_crash_20 : decode cX10_crash 20 = .ok (.aload_n 0, 1) := by decide +kernel
theorem dX10_crash_21 : decode cX10_crash 21 = .ok (.iload_n 1, 1) := by decide +kernel
theorem dX10_crash_22 : decode cX10_crash 22 = .ok (.putfield 13, 3) := by decide +kernel
theorem dX10_crash_25 : decode cX10_crash 25 = .ok (.aload_n 0, 1) := by decide +kernel
theorem dX10_crash_26 : decode cX10_crash 26 = .ok (.iload_n 2, 1) := by decide +kernel
theorem dX10_crash_27 : decode cX10_crash 27 = .ok (.putfield 140, 3) := by decide +kernel
theorem dX10_crash_30 : decode cX10_crash 30 = .ok (.iconst 1, 1) := by decide +kernel
theorem dX10_crash_31 : decode cX10_crash 31 = .ok (.ireturn, 1) := by decide +kernel
theorem dX10_end_0 : decode cX10_end 0 = .ok (.iload_n 1, 1) := by decide +kernel
theorem dX10_end_1 : decode cX10_end 1 = .ok (.ifCond .lt 11, 3) := by decide +kernel
theorem dX10_end_4 : decode cX10_end 4 = .ok (.iload_n 1, 1) := by decide +kernel
theorem dX10_end_5 : decode cX10_end 5 = .ok (.aload_n 0, 1) := by decide +kernel
theorem dX10_end_6 : decode cX10_end 6 = .ok (.getfield 147, 3) := by decide +kernel
theorem dX10_end_9 : decode cX10_end 9 = .ok (.if_icmp .le 5, 3) := by decide +kernel
theorem dX10_end_12 : decode cX10_end 12 = .ok (.iconst 0, 1) := by decide +kernel
theorem dX10_end_13 : decode cX10_end 13 = .ok (.ireturn, 1) := by decide +kernel
theorem dX10_end_14 : decode cX10_end 14 = .ok (.aload_n 0, 1) := by decide +kernel
theorem dX10_end_15 : decode cX10_end 15 = .ok (.iload_n 1, 1) := by decide +kernel
theorem dX10_end_16 : decode cX10_end 16 = .ok (.putfield 147, 3) := by decide +kernel
theorem dX10_end_19 : decode cX10_end 19 = .ok (.iconst 1, 1) := by decide +kernel
theorem dX10_end_20 : decode cX10_end 20 = .ok (.ireturn, 1) := by decide +kernel
theorem dX10_fault_0 : decode cX10_fault 0 = .ok (.aload_n 0, 1) := by decide +kernel
theorem dX10_fault_1 : decode cX10_fault 1 = .ok (.iconst 0, 1) := by decide +kernel
theorem dX10_fault_2 : decode cX10_fault 2 = .ok (.putfield 150, 3) := by decide +kernel
theorem dX10_fault_5 : decode cX10_fault 5 = .ok (.aload_n 0, 1) := by decide +kernel
theorem dX10_fault_6 : decode cX10_fault 6 = .ok (.iconst 0, 1) := by decide +kernel
theorem dX10_fault_7 : decode cX10_fault 7 = .ok (.putfield 160, 3) := by decide +kernel
theorem dX10_fault_10 : decode cX10_fault 10 = .ok (.aload_n 0, 1) := by decide +kernel
theorem dX10_fault_11 : decode cX10_fault 11 = .ok (.invokevirtual 153, 3) := by decide +kernel
theorem dX10_fault_14 : decode cX10_fault 14 = .ok (.iconst (-1), 1) := by decide +kernel
theorem dX10_fault_15 : decode cX10_fault 15 = .ok (.if_icmp .ne 5, 3) := by decide +kernel
theorem dX10_fault_18 : decode cX10_fault 18 = .ok (.iconst (-1), 1) := by decide +kernel
theorem dX10_fault_19 : decode cX10_fault 19 = .ok (.ireturn, 1) := by decide +kernel
theorem dX10_fault_20 : decode cX10_fault 20 = .ok (.aload_n 0, 1) := by decide +kernel
theorem dX10_fault_21 : decode cX10_fault 21 = .ok (.invokevirtual 163, 3) := by decide +kernel
theorem dX10_fault_24 : decode cX10_fault 24 = .ok (.ifCond .ne 8, 3) := by decide +kernel
theorem dX10_fault_27 : decode cX10_fault 27 = .ok (.aload_n 0, 1) := by decide +kernel
theorem dX10_fault_28 : decode cX10_fault 28 = .ok (.getfield 150, 3) := by decide +kernel
theorem dX10_fault_31 : decode cX10_fault 31 = .ok (.ireturn, 1) := by decide +kernel
theorem dX10_fault_32 : decode cX10_fault 32 = .ok (.aload_n 0, 1) := by decide +kernel
theorem dX10_fault_33 : decode cX10_fault 33 = .ok (.invokevirtual 153, 3) := by decide +kernel
theorem dX10_fault_36 : decode cX10_fault 36 = .ok (.istore_n 1, 1) := by decide +kernel
theorem dX10_fault_37 : decode cX10_fault 37 = .ok (.iload_n 1, 1) := by decide +kernel
theorem dX10_fault_38 : decode cX10_fault 38 = .ok (.iconst (-1), 1) := by decide +kernel
theorem dX10_fault_39 : decode cX10_fault 39 = .ok (.if_icmp .ne 5, 3) := by decide +kernel
theorem dX10_fault_42 : decode cX10_fault 42 = .ok (.iconst (-1), 1) := by decide +kernel
theorem dX10_fault_43 : decode cX10_fault 43 = .ok (.ireturn, 1) := by decide +kernel
theorem dX10_fault_44 : decode cX10_fault 44 = .ok (.iload_n 1, 1) := by decide +kernel
theorem dX10_fault_45 : decode cX10_fault 45 = .ok (.bipush 59, 2) := by decide +kernel
theorem dX10_fault_47 : decode cX10_fault 47 = .ok (.if_icmp .eq 8, 3) := by decide +kernel
theorem dX10_fault_50 : decode cX10_fault 50 = .ok (.aload_n 0, 1) := by decide +kernel
theorem dX10_fault_51 : decode cX10_fault 51 = .ok (.getfield 150, 3) := by decide +kernel
theorem dX10_fault_54 : decode cX10_fault 54 = .ok (.ireturn, 1) := by decide +kernel
theorem dX10_fault_55 : decode cX10_fault 55 = .ok (.aload_n 0, 1) := by decide +kernel
theorem dX10_fault_56 : decode cX10_fault 56 = .ok (.dup, 1) := by decide +kernel
theorem dX10_fault_57 : decode cX10_fault 57 = .ok (.getfield 150, 3) := by decide +kernel
theorem dX10_fault_60 : decode cX10_fault 60 = .ok (.iconst 1, 1) := by decide +kernel
theorem dX10_fault_61 : decode cX10_fault 61 = .ok (.iadd, 1) := by decide +kernel
theorem dX10_fault_62 : decode cX10_fault 62 = .ok (.putfield 150, 3) := by decide +kernel
theorem dX10_fault_65 : decode cX10_fault 65 = .ok (.goto (-45), 3) := by decide +kernel
theorem dX10_feed_0 : decode cX10_feed 0 = .ok (.iconst 0, 1) := by decide +kernel
theorem dX10_feed_1 : decode cX10_feed 1 = .ok (.istore 6, 2) := by decide +kernel
theorem dX10_feed_3 : decode cX10_feed 3 = .ok (.iconst 0, 1) := by decide +kernel
theorem dX10_feed_4 : decode cX10_feed 4 = .ok (.istore 7, 2) := by decide +kernel
theorem dX10_feed_6 : decode cX10_feed 6 = .ok (.iload 7, 2) := by decide +kernel
theorem dX10_feed_8 : decode cX10_feed 8 = .ok (.bipush 20, 2) := by decide +kernel
theorem dX10_feed_10 : decode cX10_feed 10 = .ok (.if_icmp .ge 34, 3) := by decide +kernel
theorem dX10_feed_13 : decode cX10_feed 13 = .ok (.iload 6, 2) := by decide +kernel
theorem dX10_feed_15 : decode cX10_feed 15 = .ok (.iload_n 1, 1) := by decide +kernel
theorem dX10_feed_16 : decode cX10_feed 16 = .ok (.iload_n 2, 1) := by decide +kernel
theorem dX10_feed_17 : decode cX10_feed 17 = .ok (.iload_n 3, 1) := by decide +kernel
theorem dX10_feed_18 : decode cX10_feed 18 = .ok (.iload 4, 2) := by decide +kernel
theorem dX10_feed_20 : decode cX10_feed 20 = .ok (.iload 5, 2) := by decide +kernel
theorem dX10_feed_22 : decode cX10_feed 22 = .ok (.iload 7, 2) := by decide +kernel
theorem dX10_feed_24 : decode cX10_feed 24 = .ok (.invokestatic 143, 3) := by decide +kernel
theorem dX10_feed_27 : decode cX10_feed 27 = .ok (.ifCond .eq 7, 3) := by decide +kernel
theorem dX10_feed_30 : decode cX10_feed 30 = .ok (.iconst 1, 1) := by decide +kernel
theorem dX10_feed_31 : decode cX10_feed 31 = .ok (.goto 4, 3) := by decide +kernel
theorem dX10_feed_34 : decode cX10_feed 34 = .ok (.iconst 0, 1) := by decide +kernel
theorem dX10_feed_35 : decode cX10_feed 35 = .ok (.iadd, 1) := by decide +kernel
theorem dX10_feed_36 : decode cX10_feed 36 = .ok (.istore 6, 2) := by decide +kernel
theorem dX10_feed_38 : decode cX10_feed 38 = .ok (.iinc 7 1, 3) := by decide +kernel
theorem dX10_feed_41 : decode cX10_feed 41 = .ok (.goto (-35), 3) := by decide +kernel
theorem dX10_feed_44 : decode cX10_feed 44 = .ok (.aload_n 0, 1) := by decide +kernel
theorem dX10_feed_45 : decode cX10_feed 45 = .ok (.getfield 147, 3) := by decide +kernel
theorem dX10_feed_48 : decode cX10_feed 48 = .ok (.iload 6, 2) := by decide +kernel
theorem dX10_feed_50 : decode cX10_feed 50 = .ok (.iadd, 1) := by decide +kernel
theorem dX10_feed_51 : decode cX10_feed 51 = .ok (.bipush 100, 2) := by decide +kernel
theorem dX10_feed_53 : decode cX10_feed 53 = .ok (.if_icmp .le 5, 3) := by decide +kernel
theorem dX10_feed_56 : decode cX10_feed 56 = .ok (.iconst (-1), 1) := by decide +kernel
theorem dX10_feed_57 : decode cX10_feed 57 = .ok (.ireturn, 1) := by decide +kernel
theorem dX10_feed_58 : decode cX10_feed 58 = .ok (.iconst 0, 1) := by decide +kernel
theorem dX10_feed_59 : decode cX10_feed 59 = .ok (.istore 7, 2) := by decide +kernel
theorem dX10_feed_61 : decode cX10_feed 61 = .ok (.iload 7, 2) := by decide +kernel
theorem dX10_feed_63 : decode cX10_feed 63 = .ok (.bipush 20, 2) := by decide +kernel
theorem dX10_feed_65 : decode cX10_feed 65 = .ok (.if_icmp .ge 49, 3) := by decide +kernel
theorem dX10_feed_68 : decode cX10_feed 68 = .ok (.iload_n 1, 1) := by decide +kernel
theorem dX10_feed_69 : decode cX10_feed 69 = .ok (.iload_n 2, 1) := by decide +kernel
theorem dX10_feed_70 : decode cX10_feed 70 = .ok (.iload_n 3, 1) := by decide +kernel
theorem dX10_feed_71 : decode cX10_feed 71 = .ok (.iload 4, 2) := by decide +kernel
theorem dX10_feed_73 : decode cX10_feed 73 = .ok (.iload 5, 2) := by decide +kernel
theorem dX10_feed_75 : decode cX10_feed 75 = .ok (.iload 7, 2) := by decide +kernel
theorem dX10_feed_77 : decode cX10_feed 77 = .ok (.invokestatic 143, 3) := by decide +kernel
theorem dX10_feed_80 : decode cX10_feed 80 = .ok (.istore 8, 2) := by decide +kernel
theorem dX10_feed_82 : decode cX10_feed 82 = .ok (.iload 8, 2) := by decide +kernel
theorem dX10_feed_84 : decode cX10_feed 84 = .ok (.ifCond .eq 24, 3) := by decide +kernel
theorem dX10_feed_87 : decode cX10_feed 87 = .ok (.aload_n 0, 1) := by decide +kernel
theorem dX10_feed_88 : decode cX10_feed 88 = .ok (.getfield 41, 3) := by decide +kernel
theorem dX10_feed_91 : decode cX10_feed 91 = .ok (.aload_n 0, 1) := by decide +kernel
theorem dX10_feed_92 : decode cX10_feed 92 = .ok (.getfield 147, 3) := by decide +kernel
theorem dX10_feed_95 : decode cX10_feed 95 = .ok (.iload 8, 2) := by decide +kernel
theorem dX10_feed_97 : decode cX10_feed 97 = .ok (.iastore, 1) := by decide +kernel
theorem dX10_feed_98 : decode cX10_feed 98 = .ok (.aload_n 0, 1) := by decide +kernel
theorem dX10_feed_99 : decode cX10_feed 99 = .ok (.dup, 1) := by decide +kernel
theorem dX10_feed_100 : decode cX10_feed 100 = .ok (.getfield 147, 3) := by decide +kernel
theorem dX10_feed_103 : decode cX10_feed 103 = .ok (.iconst 1, 1) := by decide +kernel
theorem dX10_feed_104 : decode cX10_feed 104 = .ok (.iadd, 1) := by decide +kernel
theorem dX10_feed_105 : decode cX10_feed 105 = .ok (.putfield 147, 3) := by decide +kernel
theorem dX10_feed_108 : decode cX10_feed 108 = .ok (.iinc 7 1, 3) := by decide +kernel
theorem dX10_feed_111 : decode cX10_feed 111 = .ok (.goto (-50), 3) := by decide +kernel
theorem dX10_feed_114 : decode cX10_feed 114 = .ok (.aload_n 0, 1) := by decide +kernel
theorem dX10_feed_115 : decode cX10_feed 115 = .ok (.getfield 147, 3) := by decide +kernel
theorem dX10_feed_118 : decode cX10_feed 118 = .ok (.ireturn, 1) := by decide +kernel
theorem dX10_foremostOf_0 : decode cX10_foremostOf 0 = .ok (.iconst 0, 1) := by decide +kernel
theorem dX10_foremostOf_1 : decode cX10_foremostOf 1 = .ok (.istore_n 2, 1) := by decide +kernel
theorem dX10_foremostOf_2 : decode cX10_foremostOf 2 = .ok (.iconst 0, 1) := by decide +kernel
theorem dX10_foremostOf_3 : decode cX10_foremostOf 3 = .ok (.istore_n 3, 1) := by decide +kernel
theorem dX10_foremostOf_4 : decode cX10_foremostOf 4 = .ok (.iload_n 3, 1) := by decide +kernel
theorem dX10_foremostOf_5 : decode cX10_foremostOf 5 = .ok (.aload_n 0, 1) := by decide +kernel
theorem dX10_foremostOf_6 : decode cX10_foremostOf 6 = .ok (.getfield 123, 3) := by decide +kernel
theorem dX10_foremostOf_9 : decode cX10_foremostOf 9 = .ok (.if_icmp .ge 39, 3) := by decide +kernel
theorem dX10_foremostOf_12 : decode cX10_foremostOf 12 = .ok (.aload_n 0, 1) := by decide +kernel
theorem dX10_foremostOf_13 : decode cX10_foremostOf 13 = .ok (.getfield 59, 3) := by decide +kernel
theorem dX10_foremostOf_16 : decode cX10_foremostOf 16 = .ok (.iload_n 3, 1) := by decide +kernel
theorem dX10_foremostOf_17 : decode cX10_foremostOf 17 = .ok (.baload, 1) := by decide +kernel
theorem dX10_foremostOf_18 : decode cX10_foremostOf 18 = .ok (.ifCond .eq 24, 3) := by decide +kernel
theorem dX10_foremostOf_21 : decode cX10_foremostOf 21 = .ok (.aload_n 0, 1) := by decide +kernel
theorem dX10_foremostOf_22 : decode cX10_foremostOf 22 = .ok (.getfield 19, 3) := by decide +kernel
theorem dX10_foremostOf_25 : decode cX10_foremostOf 25 = .ok (.iload_n 3, 1) := by decide +kernel
theorem dX10_foremostOf_26 : decode cX10_foremostOf 26 = .ok (.iaload, 1) := by decide +kernel
theorem dX10_foremostOf_27 : decode cX10_foremostOf 27 = .ok (.iload_n 1, 1) := by decide +kernel
theorem dX10_foremostOf_28 : decode cX10_foremostOf 28 = .ok (.if_icmp .ne 14, 3) := by decide +kernel
theorem dX10_foremostOf_31 : decode cX10_foremostOf 31 = .ok (.iload_n 2, 1) := by decide +kernel
theorem dX10_foremostOf_32 : decode cX10_foremostOf 32 = .ok (.aload_n 0, 1) := by decide +kernel
theorem dX10_foremostOf_33 : decode cX10_foremostOf 33 = .ok (.getfield 66, 3) := by decide +kernel
theorem dX10_foremostOf_36 : decode cX10_foremostOf 36 = .ok (.iload_n 3, 1) := by decide +kernel
theorem dX10_foremostOf_37 : decode cX10_foremostOf 37 = .ok (.iaload, 1) := by decide +kernel
theorem dX10_foremostOf_38 : decode cX10_foremostOf 38 = .ok (.invokestatic 188, 3) := by decide +kernel
theorem dX10_foremostOf_41 : decode cX10_foremostOf 41 = .ok (.istore_n 2, 1) := by decide +kernel
theorem dX10_foremostOf_42 : decode cX10_foremostOf 42 = .ok (.iinc 3 1, 3) := by decide +kernel
theorem dX10_foremostOf_45 : decode cX10_foremostOf 45 = .ok (.goto (-41), 3) := by decide +kernel
theorem dX10_foremostOf_48 : decode cX10_foremostOf 48 = .ok (.iload_n 2, 1) := by decide +kernel
theorem dX10_foremostOf_49 : decode cX10_foremostOf 49 = .ok (.ireturn, 1) := by decide +kernel
theorem dX10_groups_0 : decode cX10_groups 0 = .ok (.aload_n 0, 1) := by decide +kernel
theorem dX10_groups_1 : decode cX10_groups 1 = .ok (.getfield 243, 3) := by decide +kernel
theorem dX10_groups_4 : decode cX10_groups 4 = .ok (.ifCond .eq 24, 3) := by decide +kernel
theorem dX10_groups_7 : decode cX10_groups 7 = .ok (.iload_n 1, 1) := by decide +kernel
theorem dX10_groups_8 : decode cX10_groups 8 = .ok (.iconst 0, 1) := by decide +kernel
theorem dX10_groups_9 : decode cX10_groups 9 = .ok (.aload_n 0, 1) := by decide +kernel
theorem dX10_groups_10 : decode cX10_groups 10 = .ok (.getfield 250, 3) := by decide +kernel
theorem dX10_groups_13 : decode cX10_groups 13 = .ok (.invokestatic 126, 3) := by decide +kernel
theorem dX10_groups_16 : decode cX10_groups 16 = .ok (.ifCond .eq 12, 3) := by decide +kernel
theorem dX10_groups_19 : decode cX10_groups 19 = .ok (.aload_n 0, 1) := by decide +kernel
theorem dX10_groups_20 : decode cX10_groups 20 = .ok (.getfield 102, 3) := by decide +kernel
theorem dX10_groups_23 : decode cX10_groups 23 = .ok (.iload_n 1, 1) := by decide +kernel
theorem dX10_groups_24 : decode cX10_groups 24 = .ok (.iaload, 1) := by decide +kernel
theorem dX10_groups_25 : decode cX10_groups 25 = .ok (.goto 4, 3) := by decide +kernel
theorem dX10_groups_28 : decode cX10_groups 28 = .ok (.iconst (-1), 1) := by decide +kernel
theorem dX10_groups_29 : decode cX10_groups 29 = .ok (.ireturn, 1) := by decide +kernel
theorem dX10_in_0 : decode cX10_in 0 = .ok (.iload_n 0, 1) := by decide +kernel
theorem dX10_in_1 : decode cX10_in 1 = .ok (.iload_n 1, 1) := by decide +kernel
theorem dX10_in_2 : decode cX10_in 2 = .ok (.if_icmp .lt 12, 3) := by decide +kernel
theorem dX10_in_5 : decode cX10_in 5 = .ok (.iload_n 0, 1) := by decide +kernel
theorem dX10_in_6 : decode cX10_in 6 = .ok (.iload_n 2, 1) := by decide +kernel
theorem dX10_in_7 : decode cX10_in 7 = .ok (.if_icmp .gt 7, 3) := by decide +kernel
theorem dX10_in_10 : decode cX10_in 10 = .ok (.iconst 1, 1) := by decide +kernel
theorem dX10_in_11 : decode cX10_in 11 = .ok (.goto 4, 3) := by decide +kernel
theorem dX10_in_14 : decode cX10_in 14 = .ok (.iconst 0, 1) := by decide +kernel
theorem dX10_in_15 : decode cX10_in 15 = .ok (.ireturn, 1) := by decide +kernel
theorem dX10_init_0 : decode cX10_init 0 = .ok (.aload_n 0, 1) := by decide +kernel
theorem dX10_init_1 : decode cX10_init 1 = .ok (.invokespecial 3, 3) := by decide +kernel
theorem dX10_init_4 : decode cX10_init 4 = .ok (.aload_n 0, 1) := by decide +kernel
theorem dX10_init_5 : decode cX10_init 5 = .ok (.iconst 1, 1) := by decide +kernel
theorem dX10_init_6 : decode cX10_init 6 = .ok (.putfield 9, 3) := by decide +kernel
theorem dX10_init_9 : decode cX10_init 9 = .ok (.aload_n 0, 1) := by decide +kernel
theorem dX10_init_10 : decode cX10_init 10 = .ok (.iconst (-1), 1) := by decide +kernel
theorem dX10_init_11 : decode cX10_init 11 = .ok (.putfield 13, 3) := by decide +kernel
theorem dX10_init_14 : decode cX10_init 14 = .ok (.aload_n 0, 1) := by decide +kernel
theorem dX10_init_15 : decode cX10_init 15 = .ok (.bipush 20, 2) := by decide +kernel
theorem dX10_init_17 : decode cX10_init 17 = .ok (.putfield 16, 3) := by decide +kernel
theorem dX10_init_20 : decode cX10_init 20 = .ok (.aload_n 0, 1) := by decide +kernel
theorem dX10_init_21 : decode cX10_init 21 = .ok (.bipush 20, 2) := by decide +kernel
theorem dX10_init_23 : decode cX10_init 23 = .ok (.newarray .int, 2) := by decide +kernel
theorem dX10_init_25 : decode cX10_init 25 = .ok (.putfield 19, 3) := by decide +kernel
theorem dX10_init_28 : decode cX10_init 28 = .ok (.aload_n 0, 1) := by decide +kernel
theorem dX10_init_29 : decode cX10_init 29 = .ok (.bipush 20, 2) := by decide +kernel
theorem dX10_init_31 : decode cX10_init 31 = .ok (.newarray .int, 2) := by decide +kernel
theorem dX10_init_33 : decode cX10_init 33 = .ok (.putfield 23, 3) := by decide +kernel
theorem dX10_init_36 : decode cX10_init 36 = .ok (.aload_n 0, 1) := by decide +kernel
theorem dX10_init_37 : decode cX10_init 37 = .ok (.bipush 20, 2) := by decide +kernel
theorem dX10_init_39 : decode cX10_init 39 = .ok (.newarray .int, 2) := by decide +kernel
theorem dX10_init_41 : decode cX10_init 41 = .ok (.putfield 26, 3) := by decide +kernel
theorem dX10_init_44 : decode cX10_init 44 = .ok (.aload_n 0, 1) := by decide +kernel
theorem dX10_init_45 : decode cX10_init 45 = .ok (.bipush 20, 2) := by decide +kernel
theorem dX10_init_47 : decode cX10_init 47 = .ok (.newarray .int, 2) := by decide +kernel
theorem dX10_init_49 : decode cX10_init 49 = .ok (.putfield 29, 3) := by decide +kernel
theorem dX10_init_52 : decode cX10_init 52 = .ok (.aload_n 0, 1) := by decide +kernel
theorem dX10_init_53 : decode cX10_init 53 = .ok (.bipush 30, 2) := by decide +kernel
theorem dX10_init_55 : decode cX10_init 55 = .ok (.newarray .int, 2) := by decide +kernel
theorem dX10_init_57 : decode cX10_init 57 = .ok (.putfield 32, 3) := by decide +kernel
theorem dX10_init_60 : decode cX10_init 60 = .ok (.aload_n 0, 1) := by decide +kernel
theorem dX10_init_61 : decode cX10_init 61 = .ok (.bipush 30, 2) := by decide +kernel
theorem dX10_init_63 : decode cX10_init 63 = .ok (.newarray .int, 2) := by decide +kernel
theorem dX10_init_65 : decode cX10_init 65 = .ok (.putfield 35, 3) := by decide +kernel
theorem dX10_init_68 : decode cX10_init 68 = .ok (.aload_n 0, 1) := by decide +kernel
theorem dX10_init_69 : decode cX10_init 69 = .ok (.iconst 5, 1) := by decide +kernel
theorem dX10_init_70 : decode cX10_init 70 = .ok (.newarray .int, 2) := by decide +kernel
theorem dX10_init_72 : decode cX10_init 72 = .ok (.putfield 38, 3) := by decide +kernel
theorem dX10_init_75 : decode cX10_init 75 = .ok (.aload_n 0, 1) := by decide +kernel
theorem dX10_init_76 : decode cX10_init 76 = .ok (.bipush 100, 2) := by decide +kernel
theorem dX10_init_78 : decode cX10_init 78 = .ok (.newarray .int, 2) := by decide +kernel
theorem dX10_init_80 : decode cX10_init 80 = .ok (.putfield 41, 3) := by decide +kernel
theorem dX10_init_83 : decode cX10_init 83 = .ok (.aload_n 0, 1) := by decide +kernel
theorem dX10_init_84 : decode cX10_init 84 = .ok (.bipush 10, 2) := by decide +kernel
theorem dX10_init_86 : decode cX10_init 86 = .ok (.newarray .int, 2) := by decide +kernel
theorem dX10_init_88 : decode cX10_init 88 = .ok (.putfield 44, 3) := by decide +kernel
theorem dX10_init_91 : decode cX10_init 91 = .ok (.aload_n 0, 1) := by decide +kernel
theorem dX10_init_92 : decode cX10_init 92 = .ok (.sipush 240, 3) := by decide +kernel
theorem dX10_init_95 : decode cX10_init 95 = .ok (.newarray .int, 2) := by decide +kernel
theorem dX10_init_97 : decode cX10_init 97 = .ok (.putfield 47, 3) := by decide +kernel
theorem dX10_init_100 : decode cX10_init 100 = .ok (.aload_n 0, 1) := by decide +kernel
theorem dX10_init_101 : decode cX10_init 101 = .ok (.sipush 240, 3) := by decide +kernel
theorem dX10_init_104 : decode cX10_init 104 = .ok (.newarray .int, 2) := by decide +kernel
theorem dX10_init_106 : decode cX10_init 106 = .ok (.putfield 50, 3) := by decide +kernel
theorem dX10_init_109 : decode cX10_init 109 = .ok (.aload_n 0, 1) := by decide +kernel
theorem dX10_init_110 : decode cX10_init 110 = .ok (.sipush 240, 3) := by decide +kernel
theorem dX10_init_113 : decode cX10_init 113 = .ok (.newarray .int, 2) := by decide +kernel
theorem dX10_init_115 : decode cX10_init 115 = .ok (.putfield 53, 3) := by decide +kernel
theorem dX10_init_118 : decode cX10_init 118 = .ok (.aload_n 0, 1) := by decide +kernel
theorem dX10_init_119 : decode cX10_init 119 = .ok (.sipush 240, 3) := by decide +kernel
theorem dX10_init_122 : decode cX10_init 122 = .ok (.newarray .int, 2) := by decide +kernel
theorem dX10_init_124 : decode cX10_init 124 = .ok (.putfield 56, 3) := by decide +kernel
theorem dX10_init_127 : decode cX10_init 127 = .ok (.aload_n 0, 1) := by decide +kernel
theorem dX10_init_128 : decode cX10_init 128 = .ok (.bipush 20, 2) := by decide +kernel
theorem dX10_init_130 : decode cX10_init 130 = .ok (.newarray .boolean, 2) := by decide +kernel
theorem dX10_init_132 : decode cX10_init 132 = .ok (.putfield 59, 3) := by decide +kernel
theorem dX10_init_135 : decode cX10_init 135 = .ok (.aload_n 0, 1) := by decide +kernel
theorem dX10_init_136 : decode cX10_init 136 = .ok (.bipush 20, 2) := by decide +kernel
theorem dX10_init_138 : decode cX10_init 138 = .ok (.newarray .boolean, 2) := by decide +kernel
theorem dX10_init_140 : decode cX10_init 140 = .ok (.putfield 63, 3) := by decide +kernel
theorem dX10_init_143 : decode cX10_init 143 = .ok (.aload_n 0, 1) := by decide +kernel
theorem dX10_init_144 : decode cX10_init 144 = .ok (.bipush 20, 2) := by decide +kernel
theorem dX10_init_146 : decode cX10_init 146 = .ok (.newarray .int, 2) := by decide +kernel
theorem dX10_init_148 : decode cX10_init 148 = .ok (.putfield 66, 3) := by decide +kernel
theorem dX10_init_151 : decode cX10_init 151 = .ok (.aload_n 0, 1) := by decide +kernel
theorem dX10_init_152 : decode cX10_init 152 = .ok (.bipush 20, 2) := by decide +kernel
theorem dX10_init_154 : decode cX10_init 154 = .ok (.newarray .int, 2) := by decide +kernel
theorem dX10_init_156 : decode cX10_init 156 = .ok (.putfield 69, 3) := by decide +kernel
theorem dX10_init_159 : decode cX10_init 159 = .ok (.aload_n 0, 1) := by decide +kernel
theorem dX10_init_160 : decode cX10_init 160 = .ok (.bipush 20, 2) := by decide +kernel
theorem dX10_init_162 : decode cX10_init 162 = .ok (.newarray .int, 2) := by decide +kernel
theorem dX10_init_164 : decode cX10_init 164 = .ok (.putfield 72, 3) := by decide +kernel
theorem dX10_init_167 : decode cX10_init 167 = .ok (.aload_n 0, 1) := by decide +kernel
theorem dX10_init_168 : decode cX10_init 168 = .ok (.bipush 20, 2) := by decide +kernel
theorem dX10_init_170 : decode cX10_init 170 = .ok (.newarray .int, 2) := by decide +kernel
theorem dX10_init_172 : decode cX10_init 172 = .ok (.putfield 75, 3) := by decide +kernel
theorem dX10_init_175 : decode cX10_init 175 = .ok (.aload_n 0, 1) := by decide +kernel
theorem dX10_init_176 : decode cX10_init 176 = .ok (.bipush 20, 2) := by decide +kernel
theorem dX10_init_178 : decode cX10_init 178 = .ok (.newarray .int, 2) := by decide +kernel
theorem dX10_init_180 : decode cX10_init 180 = .ok (.putfield 78, 3) := by decide +kernel
theorem dX10_init_183 : decode cX10_init 183 = .ok (.aload_n 0, 1) := by decide +kernel
theorem dX10_init_184 : decode cX10_init 184 = .ok (.bipush 20, 2) := by decide +kernel
theorem dX10_init_186 : decode cX10_init 186 = .ok (.newarray .int, 2) := by decide +kernel
theorem dX10_init_188 : decode cX10_init 188 = .ok (.putfield 81, 3) := by decide +kernel
theorem dX10_init_191 : decode cX10_init 191 = .ok (.aload_n 0, 1) := by decide +kernel
theorem dX10_init_192 : decode cX10_init 192 = .ok (.bipush 100, 2) := by decide +kernel
theorem dX10_init_194 : decode cX10_init 194 = .ok (.newarray .int, 2) := by decide +kernel
theorem dX10_init_196 : decode cX10_init 196 = .ok (.putfield 84, 3) := by decide +kernel
theorem dX10_init_199 : decode cX10_init 199 = .ok (.aload_n 0, 1) := by decide +kernel
theorem dX10_init_200 : decode cX10_init 200 = .ok (.bipush 20, 2) := by decide +kernel
theorem dX10_init_202 : decode cX10_init 202 = .ok (.newarray .int, 2) := by decide +kernel
theorem dX10_init_204 : decode cX10_init 204 = .ok (.putfield 87, 3) := by decide +kernel
theorem dX10_init_207 : decode cX10_init 207 = .ok (.aload_n 0, 1) := by decide +kernel
theorem dX10_init_208 : decode cX10_init 208 = .ok (.bipush 20, 2) := by decide +kernel
theorem dX10_init_210 : decode cX10_init 210 = .ok (.newarray .int, 2) := by decide +kernel
theorem dX10_init_212 : decode cX10_init 212 = .ok (.putfield 90, 3) := by decide +kernel
theorem dX10_init_215 : decode cX10_init 215 = .ok (.aload_n 0, 1) := by decide +kernel
theorem dX10_init_216 : decode cX10_init 216 = .ok (.bipush 20, 2) := by decide +kernel
theorem dX10_init_218 : decode cX10_init 218 = .ok (.newarray .int, 2) := by decide +kernel
theorem dX10_init_220 : decode cX10_init 220 = .ok (.putfield 93, 3) := by decide +kernel
theorem dX10_init_223 : decode cX10_init 223 = .ok (.aload_n 0, 1) := by decide +kernel
theorem dX10_init_224 : decode cX10_init 224 = .ok (.bipush 20, 2) := by decide +kernel
theorem dX10_init_226 : decode cX10_init 226 = .ok (.newarray .int, 2) := by decide +kernel
theorem dX10_init_228 : decode cX10_init 228 = .ok (.putfield 96, 3) := by decide +kernel
theorem dX10_init_231 : decode cX10_init 231 = .ok (.aload_n 0, 1) := by decide +kernel
theorem dX10_init_232 : decode cX10_init 232 = .ok (.sipush 8020, 3) := by decide +kernel
theorem dX10_init_235 : decode cX10_init 235 = .ok (.newarray .int, 2) := by decide +kernel
theorem dX10_init_237 : decode cX10_init 237 = .ok (.putfield 99, 3) := by decide +kernel
theorem dX10_init_240 : decode cX10_init 240 = .ok (.aload_n 0, 1) := by decide +kernel
theorem dX10_init_241 : decode cX10_init 241 = .ok (.sipush 401, 3) := by decide +kernel
theorem dX10_init_244 : decode cX10_init 244 = .ok (.newarray .int, 2) := by decide +kernel
theorem dX10_init_246 : decode cX10_init 246 = .ok (.putfield 102, 3) := by decide +kernel
theorem dX10_init_249 : decode cX10_init 249 = .ok (.aload_n 0, 1) := by decide +kernel
theorem dX10_init_250 : decode cX10_init 250 = .ok (.bipush 20, 2) := by decide +kernel
theorem dX10_init_252 : decode cX10_init 252 = .ok (.newarray .boolean, 2) := by decide +kernel
theorem dX10_init_254 : decode cX10_init 254 = .ok (.putfield 105, 3) := by decide +kernel
theorem dX10_init_257 : decode cX10_init 257 = .ok (.aload_n 0, 1) := by decide +kernel
theorem dX10_init_258 : decode cX10_init 258 = .ok (.sipush 160, 3) := by decide +kernel
theorem dX10_init_261 : decode cX10_init 261 = .ok (.newarray .int, 2) := by decide +kernel
theorem dX10_init_263 : decode cX10_init 263 = .ok (.putfield 108, 3) := by decide +kernel
theorem dX10_init_266 : decode cX10_init 266 = .ok (.aload_n 0, 1) := by decide +kernel
theorem dX10_init_267 : decode cX10_init 267 = .ok (.bipush 15, 2) := by decide +kernel
theorem dX10_init_269 : decode cX10_init 269 = .ok (.newarray .int, 2) := by decide +kernel
theorem dX10_init_271 : decode cX10_init 271 = .ok (.putfield 111, 3) := by decide +kernel
theorem dX10_init_274 : decode cX10_init 274 = .ok (.aload_n 0, 1) := by decide +kernel
theorem dX10_init_275 : decode cX10_init 275 = .ok (.bipush 20, 2) := by decide +kernel
theorem dX10_init_277 : decode cX10_init 277 = .ok (.newarray .int, 2) := by decide +kernel
theorem dX10_init_279 : decode cX10_init 279 = .ok (.putfield 114, 3) := by decide +kernel
theorem dX10_init_282 : decode cX10_init 282 = .ok (.aload_n 0, 1) := by decide +kernel
theorem dX10_init_283 : decode cX10_init 283 = .ok (.bipush 20, 2) := by decide +kernel
theorem dX10_init_285 : decode cX10_init 285 = .ok (.newarray .int, 2) := by decide +kernel
theorem dX10_init_287 : decode cX10_init 287 = .ok (.putfield 117, 3) := by decide +kernel
theorem dX10_init_290 : decode cX10_init 290 = .ok (.aload_n 0, 1) := by decide +kernel
theorem dX10_init_291 : decode cX10_init 291 = .ok (.bipush 20, 2) := by decide +kernel
theorem dX10_init_293 : decode cX10_init 293 = .ok (.newarray .boolean, 2) := by decide +kernel
theorem dX10_init_295 : decode cX10_init 295 = .ok (.putfield 120, 3) := by decide +kernel
theorem dX10_init_298 : decode cX10_init 298 = .ok (.return_, 1) := by decide +kernel
theorem dX10_isAhead_0 : decode cX10_isAhead 0 = .ok (.aload_n 0, 1) := by decide +kernel
theorem dX10_isAhead_1 : decode cX10_isAhead 1 = .ok (.getfield 66, 3) := by decide +kernel
theorem dX10_isAhead_4 : decode cX10_isAhead 4 = .ok (.iload_n 1, 1) := by decide +kernel
theorem dX10_isAhead_5 : decode cX10_isAhead 5 = .ok (.iaload, 1) := by decide +kernel
theorem dX10_isAhead_6 : decode cX10_isAhead 6 = .ok (.aload_n 0, 1) := by decide +kernel
theorem dX10_isAhead_7 : decode cX10_isAhead 7 = .ok (.getfield 66, 3) := by decide +kernel
theorem dX10_isAhead_10 : decode cX10_isAhead 10 = .ok (.iload_n 2, 1) := by decide +kernel
theorem dX10_isAhead_11 : decode cX10_isAhead 11 = .ok (.iaload, 1) := by decide +kernel
theorem dX10_isAhead_12 : decode cX10_isAhead 12 = .ok (.if_icmp .gt 23, 3) := by decide +kernel
theorem dX10_isAhead_15 : decode cX10_isAhead 15 = .ok (.aload_n 0, 1) := by decide +kernel
theorem dX10_isAhead_16 : decode cX10_isAhead 16 = .ok (.getfield 66, 3) := by decide +kernel
theorem dX10_isAhead_19 : decode cX10_isAhead 19 = .ok (.iload_n 1, 1) := by decide +kernel
theorem dX10_isAhead_20 : decode cX10_isAhead 20 = .ok (.iaload, 1) := by decide +kernel
theorem dX10_isAhead_21 : decode cX10_isAhead 21 = .ok (.aload_n 0, 1) := by decide +kernel
theorem dX10_isAhead_22 : decode cX10_isAhead 22 = .ok (.getfield 66, 3) := by decide +kernel
theorem dX10_isAhead_25 : decode cX10_isAhead 25 = .ok (.iload_n 2, 1) := by decide +kernel
theorem dX10_isAhead_26 : decode cX10_isAhead 26 = .ok (.iaload, 1) := by decide +kernel
theorem dX10_isAhead_27 : decode cX10_isAhead 27 = .ok (.if_icmp .ne 12, 3) := by decide +kernel
theorem dX10_isAhead_30 : decode cX10_isAhead 30 = .ok (.iload_n 1, 1) := by decide +kernel
theorem dX10_isAhead_31 : decode cX10_isAhead 31 = .ok (.iload_n 2, 1) := by decide +kernel
theorem dX10_isAhead_32 : decode cX10_isAhead 32 = .ok (.if_icmp .ge 7, 3) := by decide +kernel
theorem dX10_isAhead_35 : decode cX10_isAhead 35 = .ok (.iconst 1, 1) := by decide +kernel
theorem dX10_isAhead_36 : decode cX10_isAhead 36 = .ok (.goto 4, 3) := by decide +kernel
theorem dX10_isAhead_39 : decode cX10_isAhead 39 = .ok (.iconst 0, 1) := by decide +kernel
theorem dX10_isAhead_40 : decode cX10_isAhead 40 = .ok (.ireturn, 1) := by decide +kernel
theorem dX10_isBefore_0 : decode cX10_isBefore 0 = .ok (.aload_n 0, 1) := by decide +kernel
theorem dX10_isBefore_1 : decode cX10_isBefore 1 = .ok (.getfield 75, 3) := by decide +kernel
theorem dX10_isBefore_4 : decode cX10_isBefore 4 = .ok (.iload_n 1, 1) := by decide +kernel
theorem dX10_isBefore_5 : decode cX10_isBefore 5 = .ok (.iaload, 1) := by decide +kernel
theorem dX10_isBefore_6 : decode cX10_isBefore 6 = .ok (.aload_n 0, 1) := by decide +kernel
theorem dX10_isBefore_7 : decode cX10_isBefore 7 = .ok (.getfield 75, 3) := by decide +kernel
theorem dX10_isBefore_10 : decode cX10_isBefore 10 = .ok (.iload_n 2, 1) := by decide +kernel
theorem dX10_isBefore_11 : decode cX10_isBefore 11 = .ok (.iaload, 1) := by decide +kernel
theorem dX10_isBefore_12 : decode cX10_isBefore 12 = .ok (.if_icmp .lt 23, 3) := by decide +kernel
theorem dX10_isBefore_15 : decode cX10_isBefore 15 = .ok (.aload_n 0, 1) := by decide +kernel
theorem dX10_isBefore_16 : decode cX10_isBefore 16 = .ok (.getfield 75, 3) := by decide +kernel
theorem dX10_isBefore_19 : decode cX10_isBefore 19 = .ok (.iload_n 1, 1) := by decide +kernel
theorem dX10_isBefore_20 : decode cX10_isBefore 20 = .ok (.iaload, 1) := by decide +kernel
theorem dX10_isBefore_21 : decode cX10_isBefore 21 = .ok (.aload_n 0, 1) := by decide +kernel
theorem dX10_isBefore_22 : decode cX10_isBefore 22 = .ok (.getfield 75, 3) := by decide +kernel
theorem dX10_isBefore_25 : decode cX10_isBefore 25 = .ok (.iload_n 2, 1) := by decide +kernel
theorem dX10_isBefore_26 : decode cX10_isBefore 26 = .ok (.iaload, 1) := by decide +kernel
theorem dX10_isBefore_27 : decode cX10_isBefore 27 = .ok (.if_icmp .ne 12, 3) := by decide +kernel
theorem dX10_isBefore_30 : decode cX10_isBefore 30 = .ok (.iload_n 1, 1) := by decide +kernel
theorem dX10_isBefore_31 : decode cX10_isBefore 31 = .ok (.iload_n 2, 1) := by decide +kernel
theorem dX10_isBefore_32 : decode cX10_isBefore 32 = .ok (.if_icmp .ge 7, 3) := by decide +kernel
theorem dX10_isBefore_35 : decode cX10_isBefore 35 = .ok (.iconst 1, 1) := by decide +kernel
theorem dX10_isBefore_36 : decode cX10_isBefore 36 = .ok (.goto 4, 3) := by decide +kernel
theorem dX10_isBefore_39 : decode cX10_isBefore 39 = .ok (.iconst 0, 1) := by decide +kernel
theorem dX10_isBefore_40 : decode cX10_isBefore 40 = .ok (.ireturn, 1) := by decide +kernel
theorem dX10_isBetter_0 : decode cX10_isBetter 0 = .ok (.aload_n 0, 1) := by decide +kernel
theorem dX10_isBetter_1 : decode cX10_isBetter 1 = .ok (.getfield 114, 3) := by decide +kernel
theorem dX10_isBetter_4 : decode cX10_isBetter 4 = .ok (.iload_n 1, 1) := by decide +kernel
theorem dX10_isBetter_5 : decode cX10_isBetter 5 = .ok (.iaload, 1) := by decide +kernel
theorem dX10_isBetter_6 : decode cX10_isBetter 6 = .ok (.aload_n 0, 1) := by decide +kernel
theorem dX10_isBetter_7 : decode cX10_isBetter 7 = .ok (.getfield 114, 3) := by decide +kernel
theorem dX10_isBetter_10 : decode cX10_isBetter 10 = .ok (.iload_n 2, 1) := by decide +kernel
theorem dX10_isBetter_11 : decode cX10_isBetter 11 = .ok (.iaload, 1) := by decide +kernel
theorem dX10_isBetter_12 : decode cX10_isBetter 12 = .ok (.if_icmp .eq 24, 3) := by decide +kernel
theorem dX10_isBetter_15 : decode cX10_isBetter 15 = .ok (.aload_n 0, 1) := by decide +kernel
theorem dX10_isBetter_16 : decode cX10_isBetter 16 = .ok (.getfield 114, 3) := by decide +kernel
theorem dX10_isBetter_19 : decode cX10_isBetter 19 = .ok (.iload_n 1, 1) := by decide +kernel
theorem dX10_isBetter_20 : decode cX10_isBetter 20 = .ok (.iaload, 1) := by decide +kernel
theorem dX10_isBetter_21 : decode cX10_isBetter 21 = .ok (.aload_n 0, 1) := by decide +kernel
theorem dX10_isBetter_22 : decode cX10_isBetter 22 = .ok (.getfield 114, 3) := by decide +kernel
theorem dX10_isBetter_25 : decode cX10_isBetter 25 = .ok (.iload_n 2, 1) := by decide +kernel
theorem dX10_isBetter_26 : decode cX10_isBetter 26 = .ok (.iaload, 1) := by decide +kernel
theorem dX10_isBetter_27 : decode cX10_isBetter 27 = .ok (.if_icmp .ge 7, 3) := by decide +kernel
theorem dX10_isBetter_30 : decode cX10_isBetter 30 = .ok (.iconst 1, 1) := by decide +kernel
theorem dX10_isBetter_31 : decode cX10_isBetter 31 = .ok (.goto 4, 3) := by decide +kernel
theorem dX10_isBetter_34 : decode cX10_isBetter 34 = .ok (.iconst 0, 1) := by decide +kernel
theorem dX10_isBetter_35 : decode cX10_isBetter 35 = .ok (.ireturn, 1) := by decide +kernel
theorem dX10_isBetter_36 : decode cX10_isBetter 36 = .ok (.aload_n 0, 1) := by decide +kernel
theorem dX10_isBetter_37 : decode cX10_isBetter 37 = .ok (.getfield 117, 3) := by decide +kernel
theorem dX10_isBetter_40 : decode cX10_isBetter 40 = .ok (.iload_n 1, 1) := by decide +kernel
theorem dX10_isBetter_41 : decode cX10_isBetter 41 = .ok (.iaload, 1) := by decide +kernel
theorem dX10_isBetter_42 : decode cX10_isBetter 42 = .ok (.aload_n 0, 1) := by decide +kernel
theorem dX10_isBetter_43 : decode cX10_isBetter 43 = .ok (.getfield 117, 3) := by decide +kernel
theorem dX10_isBetter_46 : decode cX10_isBetter 46 = .ok (.iload_n 2, 1) := by decide +kernel
theorem dX10_isBetter_47 : decode cX10_isBetter 47 = .ok (.iaload, 1) := by decide +kernel
theorem dX10_isBetter_48 : decode cX10_isBetter 48 = .ok (.if_icmp .gt 23, 3) := by decide +kernel
theorem dX10_isBetter_51 : decode cX10_isBetter 51 = .ok (.aload_n 0, 1) := by decide +kernel
theorem dX10_isBetter_52 : decode cX10_isBetter 52 = .ok (.getfield 117, 3) := by decide +kernel
theorem dX10_isBetter_55 : decode cX10_isBetter 55 = .ok (.iload_n 1, 1) := by decide +kernel
theorem dX10_isBetter_56 : decode cX10_isBetter 56 = .ok (.iaload, 1) := by decide +kernel
theorem dX10_isBetter_57 : decode cX10_isBetter 57 = .ok (.aload_n 0, 1) := by decide +kernel
theorem dX10_isBetter_58 : decode cX10_isBetter 58 = .ok (.getfield 117, 3) := by decide +kernel
theorem dX10_isBetter_61 : decode cX10_isBetter 61 = .ok (.iload_n 2, 1) := by decide +kernel
theorem dX10_isBetter_62 : decode cX10_isBetter 62 = .ok (.iaload, 1) := by decide +kernel
theorem dX10_isBetter_63 : decode cX10_isBetter 63 = .ok (.if_icmp .ne 12, 3) := by decide +kernel
theorem dX10_isBetter_66 : decode cX10_isBetter 66 = .ok (.iload_n 1, 1) := by decide +kernel
theorem dX10_isBetter_67 : decode cX10_isBetter 67 = .ok (.iload_n 2, 1) := by decide +kernel
theorem dX10_isBetter_68 : decode cX10_isBetter 68 = .ok (.if_icmp .ge 7, 3) := by decide +kernel
theorem dX10_isBetter_71 : decode cX10_isBetter 71 = .ok (.iconst 1, 1) := by decide +kernel
theorem dX10_isBetter_72 : decode cX10_isBetter 72 = .ok (.goto 4, 3) := by decide +kernel
theorem dX10_isBetter_75 : decode cX10_isBetter 75 = .ok (.iconst 0, 1) := by decide +kernel
theorem dX10_isBetter_76 : decode cX10_isBetter 76 = .ok (.ireturn, 1) := by decide +kernel
theorem dX10_isDigit_0 : decode cX10_isDigit 0 = .ok (.iload_n 0, 1) := by decide +kernel
theorem dX10_isDigit_1 : decode cX10_isDigit 1 = .ok (.bipush 48, 2) := by decide +kernel
theorem dX10_isDigit_3 : decode cX10_isDigit 3 = .ok (.if_icmp .lt 13, 3) := by decide +kernel
theorem dX10_isDigit_6 : decode cX10_isDigit 6 = .ok (.iload_n 0, 1) := by decide +kernel
theorem dX10_isDigit_7 : decode cX10_isDigit 7 = .ok (.bipush 57, 2) := by decide +kernel
theorem dX10_isDigit_9 : decode cX10_isDigit 9 = .ok (.if_icmp .gt 7, 3) := by decide +kernel
theorem dX10_isDigit_12 : decode cX10_isDigit 12 = .ok (.iconst 1, 1) := by decide +kernel
theorem dX10_isDigit_13 : decode cX10_isDigit 13 = .ok (.goto 4, 3) := by decide +kernel
theorem dX10_isDigit_16 : decode cX10_isDigit 16 = .ok (.iconst 0, 1) := by decide +kernel
theorem dX10_isDigit_17 : decode cX10_isDigit 17 = .ok (.ireturn, 1) := by decide +kernel
theorem dX10_isGoing_0 : decode cX10_isGoing 0 = .ok (.iconst 0, 1) := by decide +kernel
theorem dX10_isGoing_1 : decode cX10_isGoing 1 = .ok (.istore_n 1, 1) := by decide +kernel
theorem dX10_isGoing_2 : decode cX10_isGoing 2 = .ok (.iload_n 1, 1) := by decide +kernel
theorem dX10_isGoing_3 : decode cX10_isGoing 3 = .ok (.aload_n 0, 1) := by decide +kernel
theorem dX10_isGoing_4 : decode cX10_isGoing 4 = .ok (.getfield 123, 3) := by decide +kernel
theorem dX10_isGoing_7 : decode cX10_isGoing 7 = .ok (.if_icmp .ge 30, 3) := by decide +kernel
theorem dX10_isGoing_10 : decode cX10_isGoing 10 = .ok (.aload_n 0, 1) := by decide +kernel
theorem dX10_isGoing_11 : decode cX10_isGoing 11 = .ok (.getfield 59, 3) := by decide +kernel
theorem dX10_isGoing_14 : decode cX10_isGoing 14 = .ok (.iload_n 1, 1) := by decide +kernel
theorem dX10_isGoing_15 : decode cX10_isGoing 15 = .ok (.baload, 1) := by decide +kernel
theorem dX10_isGoing_16 : decode cX10_isGoing 16 = .ok (.ifCond .eq 15, 3) := by decide +kernel
theorem dX10_isGoing_19 : decode cX10_isGoing 19 = .ok (.aload_n 0, 1) := by decide +kernel
theorem dX10_isGoing_20 : decode cX10_isGoing 20 = .ok (.getfield 75, 3) := by decide +kernel
theorem dX10_isGoing_23 : decode cX10_isGoing 23 = .ok (.iload_n 1, 1) := by decide +kernel
theorem dX10_isGoing_24 : decode cX10_isGoing 24 = .ok (.iaload, 1) := by decide +kernel
theorem dX10_isGoing_25 : decode cX10_isGoing 25 = .ok (.iconst (-1), 1) := by decide +kernel
theorem dX10_isGoing_26 : decode cX10_isGoing 26 = .ok (.if_icmp .ne 5, 3) := by decide +kernel
theorem dX10_isGoing_29 : decode cX10_isGoing 29 = .ok (.iconst 1, 1) := by decide +kernel
theorem dX10_isGoing_30 : decode cX10_isGoing 30 = .ok (.ireturn, 1) := by decide +kernel
theorem dX10_isGoing_31 : decode cX10_isGoing 31 = .ok (.iinc 1 1, 3) := by decide +kernel
theorem dX10_isGoing_34 : decode cX10_isGoing 34 = .ok (.goto (-32), 3) := by decide +kernel
theorem dX10_isGoing_37 : decode cX10_isGoing 37 = .ok (.iconst 0, 1) := by decide +kernel
theorem dX10_isGoing_38 : decode cX10_isGoing 38 = .ok (.ireturn, 1) := by decide +kernel
theorem dX10_isMetre_0 : decode cX10_isMetre 0 = .ok (.iload_n 1, 1) := by decide +kernel
theorem dX10_isMetre_1 : decode cX10_isMetre 1 = .ok (.iconst 1, 1) := by decide +kernel
theorem dX10_isMetre_2 : decode cX10_isMetre 2 = .ok (.sipush 1000, 3) := by decide +kernel
theorem dX10_isMetre_5 : decode cX10_isMetre 5 = .ok (.aload_n 0, 1) := by decide +kernel
theorem dX10_isMetre_6 : decode cX10_isMetre 6 = .ok (.getfield 9, 3) := by decide +kernel
theorem dX10_isMetre_9 : decode cX10_isMetre 9 = .ok (.imul, 1) := by decide +kernel
theorem dX10_isMetre_10 : decode cX10_isMetre 10 = .ok (.iconst 1, 1) := by decide +kernel
theorem dX10_isMetre_11 : decode cX10_isMetre 11 = .ok (.isub, 1) := by decide +kernel
theorem dX10_isMetre_12 : decode cX10_isMetre 12 = .ok (.invokestatic 126, 3) := by decide +kernel
theorem dX10_isMetre_15 : decode cX10_isMetre 15 = .ok (.ireturn, 1) := by decide +kernel
theorem dX10_isRider_0 : decode cX10_isRider 0 = .ok (.iload_n 1, 1) := by decide +kernel
theorem dX10_isRider_1 : decode cX10_isRider 1 = .ok (.iconst 0, 1) := by decide +kernel
theorem dX10_isRider_2 : decode cX10_isRider 2 = .ok (.aload_n 0, 1) := by decide +kernel
theorem dX10_isRider_3 : decode cX10_isRider 3 = .ok (.getfield 123, 3) := by decide +kernel
theorem dX10_isRider_6 : decode cX10_isRider 6 = .ok (.iconst 1, 1) := by decide +kernel
theorem dX10_isRider_7 : decode cX10_isRider 7 = .ok (.isub, 1) := by decide +kernel
theorem dX10_isRider_8 : decode cX10_isRider 8 = .ok (.invokestatic 126, 3) := by decide +kernel
theorem dX10_isRider_11 : decode cX10_isRider 11 = .ok (.ireturn, 1) := by decide +kernel
theorem dX10_keep_0 : decode cX10_keep 0 = .ok (.aload_n 0, 1) := by decide +kernel
theorem dX10_keep_1 : decode cX10_keep 1 = .ok (.getfield 243, 3) := by decide +kernel
theorem dX10_keep_4 : decode cX10_keep 4 = .ok (.ifCond .eq 19, 3) := by decide +kernel
theorem dX10_keep_7 : decode cX10_keep 7 = .ok (.aload_n 0, 1) := by decide +kernel
theorem dX10_keep_8 : decode cX10_keep 8 = .ok (.getfield 247, 3) := by decide +kernel
theorem dX10_keep_11 : decode cX10_keep 11 = .ok (.ifCond .ne 12, 3) := by decide +kernel
theorem dX10_keep_14 : decode cX10_keep 14 = .ok (.aload_n 0, 1) := by decide +kernel
theorem dX10_keep_15 : decode cX10_keep 15 = .ok (.getfield 130, 3) := by decide +kernel
theorem dX10_keep_18 : decode cX10_keep 18 = .ok (.bipush 20, 2) := by decide +kernel
theorem dX10_keep_20 : decode cX10_keep 20 = .ok (.if_icmp .ne 5, 3) := by decide +kernel
theorem dX10_keep_23 : decode cX10_keep 23 = .ok (.iconst (-1), 1) := by decide +kernel
theorem dX10_keep_24 : decode cX10_keep 24 = .ok (.ireturn, 1) := by decide +kernel
theorem dX10_keep_25 : decode cX10_keep 25 = .ok (.aload_n 0, 1) := by decide +kernel
theorem dX10_keep_26 : decode cX10_keep 26 = .ok (.iconst 1, 1) := by decide +kernel
theorem dX10_keep_27 : decode cX10_keep 27 = .ok (.putfield 247, 3) := by decide +kernel
theorem dX10_keep_30 : decode cX10_keep 30 = .ok (.iconst (-1), 1) := by decide +kernel
theorem dX10_keep_31 : decode cX10_keep 31 = .ok (.istore_n 1, 1) := by decide +kernel
theorem dX10_keep_32 : decode cX10_keep 32 = .ok (.iconst 0, 1) := by decide +kernel
theorem dX10_keep_33 : decode cX10_keep 33 = .ok (.istore_n 2, 1) := by decide +kernel
theorem dX10_keep_34 : decode cX10_keep 34 = .ok (.iload_n 2, 1) := by decide +kernel
theorem dX10_keep_35 : decode cX10_keep 35 = .ok (.aload_n 0, 1) := by decide +kernel
theorem dX10_keep_36 : decode cX10_keep 36 = .ok (.getfield 123, 3) := by decide +kernel
theorem dX10_keep_39 : decode cX10_keep 39 = .ok (.if_icmp .ge 45, 3) := by decide +kernel
theorem dX10_keep_42 : decode cX10_keep 42 = .ok (.aload_n 0, 1) := by decide +kernel
theorem dX10_keep_43 : decode cX10_keep 43 = .ok (.getfield 105, 3) := by decide +kernel
theorem dX10_keep_46 : decode cX10_keep 46 = .ok (.iload_n 2, 1) := by decide +kernel
theorem dX10_keep_47 : decode cX10_keep 47 = .ok (.baload, 1) := by decide +kernel
theorem dX10_keep_48 : decode cX10_keep 48 = .ok (.ifCond .eq 30, 3) := by decide +kernel
theorem dX10_keep_51 : decode cX10_keep 51 = .ok (.aload_n 0, 1) := by decide +kernel
theorem dX10_keep_52 : decode cX10_keep 52 = .ok (.getfield 108, 3) := by decide +kernel
theorem dX10_keep_55 : decode cX10_keep 55 = .ok (.bipush 8, 2) := by decide +kernel
theorem dX10_keep_57 : decode cX10_keep 57 = .ok (.iload_n 2, 1) := by decide +kernel
theorem dX10_keep_58 : decode cX10_keep 58 = .ok (.imul, 1) := by decide +kernel
theorem dX10_keep_59 : decode cX10_keep 59 = .ok (.iconst 2, 1) := by decide +kernel
theorem dX10_keep_60 : decode cX10_keep 60 = .ok (.iadd, 1) := by decide +kernel
theorem dX10_keep_61 : decode cX10_keep 61 = .ok (.iaload, 1) := by decide +kernel
theorem dX10_keep_62 : decode cX10_keep 62 = .ok (.iconst 1, 1) := by decide +kernel
theorem dX10_keep_63 : decode cX10_keep 63 = .ok (.if_icmp .ne 15, 3) := by decide +kernel
theorem dX10_keep_66 : decode cX10_keep 66 = .ok (.aload_n 0, 1) := by decide +kernel
theorem dX10_keep_67 : decode cX10_keep 67 = .ok (.getfield 108, 3) := by decide +kernel
theorem dX10_keep_70 : decode cX10_keep 70 = .ok (.bipush 8, 2) := by decide +kernel
theorem dX10_keep_72 : decode cX10_keep 72 = .ok (.iload_n 2, 1) := by decide +kernel
theorem dX10_keep_73 : decode cX10_keep 73 = .ok (.imul, 1) := by decide +kernel
theorem dX10_keep_74 : decode cX10_keep 74 = .ok (.iconst 1, 1) := by decide +kernel
theorem dX10_keep_75 : decode cX10_keep 75 = .ok (.iadd, 1) := by decide +kernel
theorem dX10_keep_76 : decode cX10_keep 76 = .ok (.iaload, 1) := by decide +kernel
theorem dX10_keep_77 : decode cX10_keep 77 = .ok (.istore_n 1, 1) := by decide +kernel
theorem dX10_keep_78 : decode cX10_keep 78 = .ok (.iinc 2 1, 3) := by decide +kernel
theorem dX10_keep_81 : decode cX10_keep 81 = .ok (.goto (-47), 3) := by decide +kernel
theorem dX10_keep_84 : decode cX10_keep 84 = .ok (.iconst 0, 1) := by decide +kernel
theorem dX10_keep_85 : decode cX10_keep 85 = .ok (.istore_n 2, 1) := by decide +kernel
theorem dX10_keep_86 : decode cX10_keep 86 = .ok (.iload_n 2, 1) := by decide +kernel
theorem dX10_keep_87 : decode cX10_keep 87 = .ok (.aload_n 0, 1) := by decide +kernel
theorem dX10_keep_88 : decode cX10_keep 88 = .ok (.getfield 123, 3) := by decide +kernel
theorem dX10_keep_91 : decode cX10_keep 91 = .ok (.if_icmp .ge 173, 3) := by decide +kernel
theorem dX10_keep_94 : decode cX10_keep 94 = .ok (.aload_n 0, 1) := by decide +kernel
theorem dX10_keep_95 : decode cX10_keep 95 = .ok (.getfield 105, 3) := by decide +kernel
theorem dX10_keep_98 : decode cX10_keep 98 = .ok (.iload_n 2, 1) := by decide +kernel
theorem dX10_keep_99 : decode cX10_keep 99 = .ok (.baload, 1) := by decide +kernel
theorem dX10_keep_100 : decode cX10_keep 100 = .ok (.ifCond .ne 6, 3) := by decide +kernel
theorem dX10_keep_103 : decode cX10_keep 103 = .ok (.goto 155, 3) := by decide +kernel
theorem dX10_keep_106 : decode cX10_keep 106 = .ok (.aload_n 0, 1) := by decide +kernel
theorem dX10_keep_107 : decode cX10_keep 107 = .ok (.getfield 108, 3) := by decide +kernel
theorem dX10_keep_110 : decode cX10_keep 110 = .ok (.bipush 8, 2) := by decide +kernel
theorem dX10_keep_112 : decode cX10_keep 112 = .ok (.iload_n 2, 1) := by decide +kernel
theorem dX10_keep_113 : decode cX10_keep 113 = .ok (.imul, 1) := by decide +kernel
theorem dX10_keep_114 : decode cX10_keep 114 = .ok (.iconst 2, 1) := by decide +kernel
theorem dX10_keep_115 : decode cX10_keep 115 = .ok (.iadd, 1) := by decide +kernel
theorem dX10_keep_116 : decode cX10_keep 116 = .ok (.iaload, 1) := by decide +kernel
theorem dX10_keep_117 : decode cX10_keep 117 = .ok (.istore_n 3, 1) := by decide +kernel
theorem dX10_keep_118 : decode cX10_keep 118 = .ok (.aload_n 0, 1) := by decide +kernel
theorem dX10_keep_119 : decode cX10_keep 119 = .ok (.getfield 108, 3) := by decide +kernel
theorem dX10_keep_122 : decode cX10_keep 122 = .ok (.bipush 8, 2) := by decide +kernel
theorem dX10_keep_124 : decode cX10_keep 124 = .ok (.iload_n 2, 1) := by decide +kernel
theorem dX10_keep_125 : decode cX10_keep 125 = .ok (.imul, 1) := by decide +kernel
theorem dX10_keep_126 : decode cX10_keep 126 = .ok (.iconst 1, 1) := by decide +kernel
theorem dX10_keep_127 : decode cX10_keep 127 = .ok (.iadd, 1) := by decide +kernel
theorem dX10_keep_128 : decode cX10_keep 128 = .ok (.iaload, 1) := by decide +kernel
theorem dX10_keep_129 : decode cX10_keep 129 = .ok (.istore 4, 2) := by decide +kernel
theorem dX10_keep_131 : decode cX10_keep 131 = .ok (.aload_n 0, 1) := by decide +kernel
theorem dX10_keep_132 : decode cX10_keep 132 = .ok (.getfield 117, 3) := by decide +kernel
theorem dX10_keep_135 : decode cX10_keep 135 = .ok (.iload_n 2, 1) := by decide +kernel
theorem dX10_keep_136 : decode cX10_keep 136 = .ok (.dup2, 1) := by decide +kernel
theorem dX10_keep_137 : decode cX10_keep 137 = .ok (.iaload, 1) := by decide +kernel
theorem dX10_keep_138 : decode cX10_keep 138 = .ok (.aload_n 0, 1) := by decide +kernel
theorem dX10_keep_139 : decode cX10_keep 139 = .ok (.getfield 108, 3) := by decide +kernel
theorem dX10_keep_142 : decode cX10_keep 142 = .ok (.bipush 8, 2) := by decide +kernel
theorem dX10_keep_144 : decode cX10_keep 144 = .ok (.iload_n 2, 1) := by decide +kernel
theorem dX10_keep_145 : decode cX10_keep 145 = .ok (.imul, 1) := by decide +kernel
theorem dX10_keep_146 : decode cX10_keep 146 = .ok (.iconst 5, 1) := by decide +kernel
theorem dX10_keep_147 : decode cX10_keep 147 = .ok (.iadd, 1) := by decide +kernel
theorem dX10_keep_148 : decode cX10_keep 148 = .ok (.iaload, 1) := by decide +kernel
theorem dX10_keep_149 : decode cX10_keep 149 = .ok (.iload_n 3, 1) := by decide +kernel
theorem dX10_keep_150 : decode cX10_keep 150 = .ok (.iconst 1, 1) := by decide +kernel
theorem dX10_keep_151 : decode cX10_keep 151 = .ok (.if_icmp .ne 8, 3) := by decide +kernel
theorem dX10_keep_154 : decode cX10_keep 154 = .ok (.bipush 10, 2) := by decide +kernel
theorem dX10_keep_156 : decode cX10_keep 156 = .ok (.goto 23, 3) := by decide +kernel
theorem dX10_keep_159 : decode cX10_keep 159 = .ok (.iload_n 3, 1) := by decide +kernel
theorem dX10_keep_160 : decode cX10_keep 160 = .ok (.iconst 2, 1) := by decide +kernel
theorem dX10_keep_161 : decode cX10_keep 161 = .ok (.if_icmp .ne 8, 3) := by decide +kernel
theorem dX10_keep_164 : decode cX10_keep 164 = .ok (.bipush 6, 2) := by decide +kernel
theorem dX10_keep_166 : decode cX10_keep 166 = .ok (.goto 13, 3) := by decide +kernel
theorem dX10_keep_169 : decode cX10_keep 169 = .ok (.iload_n 3, 1) := by decide +kernel
theorem dX10_keep_170 : decode cX10_keep 170 = .ok (.iconst 3, 1) := by decide +kernel
theorem dX10_keep_171 : decode cX10_keep 171 = .ok (.if_icmp .ne 7, 3) := by decide +kernel
theorem dX10_keep_174 : decode cX10_keep 174 = .ok (.iconst 4, 1) := by decide +kernel
theorem dX10_keep_175 : decode cX10_keep 175 = .ok (.goto 4, 3) := by decide +kernel
theorem dX10_keep_178 : decode cX10_keep 178 = .ok (.iconst 0, 1) := by decide +kernel
theorem dX10_keep_179 : decode cX10_keep 179 = .ok (.iadd, 1) := by decide +kernel
theorem dX10_keep_180 : decode cX10_keep 180 = .ok (.iadd, 1) := by decide +kernel
theorem dX10_keep_181 : decode cX10_keep 181 = .ok (.iastore, 1) := by decide +kernel
theorem dX10_keep_182 : decode cX10_keep 182 = .ok (.iload 4, 2) := by decide +kernel
theorem dX10_keep_184 : decode cX10_keep 184 = .ok (.iconst (-1), 1) := by decide +kernel
theorem dX10_keep_185 : decode cX10_keep 185 = .ok (.if_icmp .ne 13, 3) := by decide +kernel
theorem dX10_keep_188 : decode cX10_keep 188 = .ok (.aload_n 0, 1) := by decide +kernel
theorem dX10_keep_189 : decode cX10_keep 189 = .ok (.getfield 63, 3) := by decide +kernel
theorem dX10_keep_192 : decode cX10_keep 192 = .ok (.iload_n 2, 1) := by decide +kernel
theorem dX10_keep_193 : decode cX10_keep 193 = .ok (.iconst 1, 1) := by decide +kernel
theorem dX10_keep_194 : decode cX10_keep 194 = .ok (.bastore, 1) := by decide +kernel
theorem dX10_keep_195 : decode cX10_keep 195 = .ok (.goto 63, 3) := by decide +kernel
theorem dX10_keep_198 : decode cX10_keep 198 = .ok (.aload_n 0, 1) := by decide +kernel
theorem dX10_keep_199 : decode cX10_keep 199 = .ok (.getfield 114, 3) := by decide +kernel
theorem dX10_keep_202 : decode cX10_keep 202 = .ok (.iload_n 2, 1) := by decide +kernel
theorem dX10_keep_203 : decode cX10_keep 203 = .ok (.dup2, 1) := by decide +kernel
theorem dX10_keep_204 : decode cX10_keep 204 = .ok (.iaload, 1) := by decide +kernel
theorem dX10_keep_205 : decode cX10_keep 205 = .ok (.iload 4, 2) := by decide +kernel
theorem dX10_keep_207 : decode cX10_keep 207 = .ok (.aload_n 0, 1) := by decide +kernel
theorem dX10_keep_208 : decode cX10_keep 208 = .ok (.getfield 108, 3) := by decide +kernel
theorem dX10_keep_211 : decode cX10_keep 211 = .ok (.bipush 8, 2) := by decide +kernel
theorem dX10_keep_213 : decode cX10_keep 213 = .ok (.iload_n 2, 1) := by decide +kernel
theorem dX10_keep_214 : decode cX10_keep 214 = .ok (.imul, 1) := by decide +kernel
theorem dX10_keep_215 : decode cX10_keep 215 = .ok (.iconst 5, 1) := by decide +kernel
theorem dX10_keep_216 : decode cX10_keep 216 = .ok (.iadd, 1) := by decide +kernel
theorem dX10_keep_217 : decode cX10_keep 217 = .ok (.iaload, 1) := by decide +kernel
theorem dX10_keep_218 : decode cX10_keep 218 = .ok (.isub, 1) := by decide +kernel
theorem dX10_keep_219 : decode cX10_keep 219 = .ok (.iadd, 1) := by decide +kernel
theorem dX10_keep_220 : decode cX10_keep 220 = .ok (.iastore, 1) := by decide +kernel
theorem dX10_keep_221 : decode cX10_keep 221 = .ok (.aload_n 0, 1) := by decide +kernel
theorem dX10_keep_222 : decode cX10_keep 222 = .ok (.getfield 63, 3) := by decide +kernel
theorem dX10_keep_225 : decode cX10_keep 225 = .ok (.iload_n 2, 1) := by decide +kernel
theorem dX10_keep_226 : decode cX10_keep 226 = .ok (.aload_n 0, 1) := by decide +kernel
theorem dX10_keep_227 : decode cX10_keep 227 = .ok (.getfield 63, 3) := by decide +kernel
theorem dX10_keep_230 : decode cX10_keep 230 = .ok (.iload_n 2, 1) := by decide +kernel
theorem dX10_keep_231 : decode cX10_keep 231 = .ok (.baload, 1) := by decide +kernel
theorem dX10_keep_232 : decode cX10_keep 232 = .ok (.ifCond .ne 20, 3) := by decide +kernel
theorem dX10_keep_235 : decode cX10_keep 235 = .ok (.bipush 100, 2) := by decide +kernel
theorem dX10_keep_237 : decode cX10_keep 237 = .ok (.iload 4, 2) := by decide +kernel
theorem dX10_keep_239 : decode cX10_keep 239 = .ok (.imul, 1) := by decide +kernel
theorem dX10_keep_240 : decode cX10_keep 240 = .ok (.bipush 100, 2) := by decide +kernel
theorem dX10_keep_242 : decode cX10_keep 242 = .ok (.aload_n 0, 1) := by decide +kernel
theorem dX10_keep_243 : decode cX10_keep 243 = .ok (.getfield 16, 3) := by decide +kernel
theorem dX10_keep_246 : decode cX10_keep 246 = .ok (.iadd, 1) := by decide +kernel
theorem dX10_keep_247 : decode cX10_keep 247 = .ok (.iload_n 1, 1) := by decide +kernel
theorem dX10_keep_248 : decode cX10_keep 248 = .ok (.imul, 1) := by decide +kernel
theorem dX10_keep_249 : decode cX10_keep 249 = .ok (.if_icmp .le 7, 3) := by decide +kernel
theorem dX10_keep_252 : decode cX10_keep 252 = .ok (.iconst 1, 1) := by decide +kernel
theorem dX10_keep_253 : decode cX10_keep 253 = .ok (.goto 4, 3) := by decide +kernel
theorem dX10_keep_256 : decode cX10_keep 256 = .ok (.iconst 0, 1) := by decide +kernel
theorem dX10_keep_257 : decode cX10_keep 257 = .ok (.bastore, 1) := by decide +kernel
theorem dX10_keep_258 : decode cX10_keep 258 = .ok (.iinc 2 1, 3) := by decide +kernel
theorem dX10_keep_261 : decode cX10_keep 261 = .ok (.goto (-175), 3) := by decide +kernel
theorem dX10_keep_264 : decode cX10_keep 264 = .ok (.aload_n 0, 1) := by decide +kernel
theorem dX10_keep_265 : decode cX10_keep 265 = .ok (.dup, 1) := by decide +kernel
theorem dX10_keep_266 : decode cX10_keep 266 = .ok (.getfield 130, 3) := by decide +kernel
theorem dX10_keep_269 : decode cX10_keep 269 = .ok (.iconst 1, 1) := by decide +kernel
theorem dX10_keep_270 : decode cX10_keep 270 = .ok (.iadd, 1) := by decide +kernel
theorem dX10_keep_271 : decode cX10_keep 271 = .ok (.putfield 130, 3) := by decide +kernel
theorem dX10_keep_274 : decode cX10_keep 274 = .ok (.aload_n 0, 1) := by decide +kernel
theorem dX10_keep_275 : decode cX10_keep 275 = .ok (.getfield 130, 3) := by decide +kernel
theorem dX10_keep_278 : decode cX10_keep 278 = .ok (.iconst 1, 1) := by decide +kernel
theorem dX10_keep_279 : decode cX10_keep 279 = .ok (.isub, 1) := by decide +kernel
theorem dX10_keep_280 : decode cX10_keep 280 = .ok (.ireturn, 1) := by decide +kernel
theorem dX10_limit_0 : decode cX10_limit 0 = .ok (.iload_n 1, 1) := by decide +kernel
theorem dX10_limit_1 : decode cX10_limit 1 = .ok (.iconst 1, 1) := by decide +kernel
theorem dX10_limit_2 : decode cX10_limit 2 = .ok (.bipush 100, 2) := by decide +kernel
theorem dX10_limit_4 : decode cX10_limit 4 = .ok (.invokestatic 126, 3) := by decide +kernel
theorem dX10_limit_7 : decode cX10_limit 7 = .ok (.ifCond .ne 5, 3) := by decide +kernel
theorem dX10_limit_10 : decode cX10_limit 10 = .ok (.iconst 0, 1) := by decide +kernel
theorem dX10_limit_11 : decode cX10_limit 11 = .ok (.ireturn, 1) := by decide +kernel
theorem dX10_limit_12 : decode cX10_limit 12 = .ok (.aload_n 0, 1) := by decide +kernel
theorem dX10_limit_13 : decode cX10_limit 13 = .ok (.iload_n 1, 1) := by decide +kernel
theorem dX10_limit_14 : decode cX10_limit 14 = .ok (.putfield 16, 3) := by decide +kernel
theorem dX10_limit_17 : decode cX10_limit 17 = .ok (.iconst 1, 1) := by decide +kernel
theorem dX10_limit_18 : decode cX10_limit 18 = .ok (.ireturn, 1) := by decide +kernel
theorem dX10_line_0 : decode cX10_line 0 = .ok (.aload_n 0, 1) := by decide +kernel
theorem dX10_line_1 : decode cX10_line 1 = .ok (.iconst 0, 1) := by decide +kernel
theorem dX10_line_2 : decode cX10_line 2 = .ok (.putfield 177, 3) := by decide +kernel
theorem dX10_line_5 : decode cX10_line 5 = .ok (.iconst 0, 1) := by decide +kernel
theorem dX10_line_6 : decode cX10_line 6 = .ok (.istore_n 1, 1) := by decide +kernel
theorem dX10_line_7 : decode cX10_line 7 = .ok (.iload_n 1, 1) := by decide +kernel
theorem dX10_line_8 : decode cX10_line 8 = .ok (.aload_n 0, 1) := by decide +kernel
theorem dX10_line_9 : decode cX10_line 9 = .ok (.getfield 123, 3) := by decide +kernel
theorem dX10_line_12 : decode cX10_line 12 = .ok (.if_icmp .ge 102, 3) := by decide +kernel
theorem dX10_line_15 : decode cX10_line 15 = .ok (.aload_n 0, 1) := by decide +kernel
theorem dX10_line_16 : decode cX10_line 16 = .ok (.getfield 59, 3) := by decide +kernel
theorem dX10_line_19 : decode cX10_line 19 = .ok (.iload_n 1, 1) := by decide +kernel
theorem dX10_line_20 : decode cX10_line 20 = .ok (.baload, 1) := by decide +kernel
theorem dX10_line_21 : decode cX10_line 21 = .ok (.ifCond .eq 87, 3) := by decide +kernel
theorem dX10_line_24 : decode cX10_line 24 = .ok (.aload_n 0, 1) := by decide +kernel
theorem dX10_line_25 : decode cX10_line 25 = .ok (.getfield 75, 3) := by decide +kernel
theorem dX10_line_28 : decode cX10_line 28 = .ok (.iload_n 1, 1) := by decide +kernel
theorem dX10_line_29 : decode cX10_line 29 = .ok (.iaload, 1) := by decide +kernel
theorem dX10_line_30 : decode cX10_line 30 = .ok (.iconst (-1), 1) := by decide +kernel
theorem dX10_line_31 : decode cX10_line 31 = .ok (.if_icmp .ne 77, 3) := by decide +kernel
theorem dX10_line_34 : decode cX10_line 34 = .ok (.aload_n 0, 1) := by decide +kernel
theorem dX10_line_35 : decode cX10_line 35 = .ok (.getfield 72, 3) := by decide +kernel
theorem dX10_line_38 : decode cX10_line 38 = .ok (.iload_n 1, 1) := by decide +kernel
theorem dX10_line_39 : decode cX10_line 39 = .ok (.iaload, 1) := by decide +kernel
theorem dX10_line_40 : decode cX10_line 40 = .ok (.ifCond .le 6, 3) := by decide +kernel
theorem dX10_line_43 : decode cX10_line 43 = .ok (.goto 65, 3) := by decide +kernel
theorem dX10_line_46 : decode cX10_line 46 = .ok (.aload_n 0, 1) := by decide +kernel
theorem dX10_line_47 : decode cX10_line 47 = .ok (.getfield 177, 3) := by decide +kernel
theorem dX10_line_50 : decode cX10_line 50 = .ok (.istore_n 2, 1) := by decide +kernel
theorem dX10_line_51 : decode cX10_line 51 = .ok (.iload_n 2, 1) := by decide +kernel
theorem dX10_line_52 : decode cX10_line 52 = .ok (.ifCond .le 39, 3) := by decide +kernel
theorem dX10_line_55 : decode cX10_line 55 = .ok (.aload_n 0, 1) := by decide +kernel
theorem dX10_line_56 : decode cX10_line 56 = .ok (.iload_n 1, 1) := by decide +kernel
theorem dX10_line_57 : decode cX10_line 57 = .ok (.aload_n 0, 1) := by decide +kernel
theorem dX10_line_58 : decode cX10_line 58 = .ok (.getfield 87, 3) := by decide +kernel
theorem dX10_line_61 : decode cX10_line 61 = .ok (.iload_n 2, 1) := by decide +kernel
theorem dX10_line_62 : decode cX10_line 62 = .ok (.iconst 1, 1) := by decide +kernel
theorem dX10_line_63 : decode cX10_line 63 = .ok (.isub, 1) := by decide +kernel
theorem dX10_line_64 : decode cX10_line 64 = .ok (.iaload, 1) := by decide +kernel
theorem dX10_line_65 : decode cX10_line 65 = .ok (.invokevirtual 180, 3) := by decide +kernel
theorem dX10_line_68 : decode cX10_line 68 = .ok (.ifCond .eq 23, 3) := by decide +kernel
theorem dX10_line_71 : decode cX10_line 71 = .ok (.aload_n 0, 1) := by decide +kernel
theorem dX10_line_72 : decode cX10_line 72 = .ok (.getfield 87, 3) := by decide +kernel
theorem dX10_line_75 : decode cX10_line 75 = .ok (.iload_n 2, 1) := by decide +kernel
theorem dX10_line_76 : decode cX10_line 76 = .ok (.aload_n 0, 1) := by decide +kernel
theorem dX10_line_77 : decode cX10_line 77 = .ok (.getfield 87, 3) := by decide +kernel
theorem dX10_line_80 : decode cX10_line 80 = .ok (.iload_n 2, 1) := by decide +kernel
theorem dX10_line_81 : decode cX10_line 81 = .ok (.iconst 1, 1) := by decide +kernel
theorem dX10_line_82 : decode cX10_line 82 = .ok (.isub, 1) := by decide +kernel
theorem dX10_line_83 : decode cX10_line 83 = .ok (.iaload, 1) := by decide +kernel
theorem dX10_line_84 : decode cX10_line 84 = .ok (.iastore, 1) := by decide +kernel
theorem dX10_line_85 : decode cX10_line 85 = .ok (.iinc 2 (-1), 3) := by decide +kernel
theorem dX10_line_88 : decode cX10_line 88 = .ok (.goto (-37), 3) := by decide +kernel
theorem dX10_line_91 : decode cX10_line 91 = .ok (.aload_n 0, 1) := by decide +kernel
theorem dX10_line_92 : decode cX10_line 92 = .ok (.getfield 87, 3) := by decide +kernel
theorem dX10_line_95 : decode cX10_line 95 = .ok (.iload_n 2, 1) := by decide +kernel
theorem dX10_line_96 : decode cX10_line 96 = .ok (.iload_n 1, 1) := by decide +kernel
theorem dX10_line_97 : decode cX10_line 97 = .ok (.iastore, 1) := by decide +kernel
theorem dX10_line_98 : decode cX10_line 98 = .ok (.aload_n 0, 1) := by decide +kernel
theorem dX10_line_99 : decode cX10_line 99 = .ok (.dup, 1) := by decide +kernel
theorem dX10_line_100 : decode cX10_line 100 = .ok (.getfield 177, 3) := by decide +kernel
theorem dX10_line_103 : decode cX10_line 103 = .ok (.iconst 1, 1) := by decide +kernel
theorem dX10_line_104 : decode cX10_line 104 = .ok (.iadd, 1) := by decide +kernel
theorem dX10_line_105 : decode cX10_line 105 = .ok (.putfield 177, 3) := by decide +kernel
theorem dX10_line_108 : decode cX10_line 108 = .ok (.iinc 1 1, 3) := by decide +kernel
theorem dX10_line_111 : decode cX10_line 111 = .ok (.goto (-104), 3) := by decide +kernel
theorem dX10_line_114 : decode cX10_line 114 = .ok (.iconst 0, 1) := by decide +kernel
theorem dX10_line_115 : decode cX10_line 115 = .ok (.istore_n 1, 1) := by decide +kernel
theorem dX10_line_116 : decode cX10_line 116 = .ok (.iconst 0, 1) := by decide +kernel
theorem dX10_line_117 : decode cX10_line 117 = .ok (.istore_n 2, 1) := by decide +kernel
theorem dX10_line_118 : decode cX10_line 118 = .ok (.iconst 0, 1) := by decide +kernel
theorem dX10_line_119 : decode cX10_line 119 = .ok (.istore_n 3, 1) := by decide +kernel
theorem dX10_line_120 : decode cX10_line 120 = .ok (.iload_n 3, 1) := by decide +kernel
theorem dX10_line_121 : decode cX10_line 121 = .ok (.aload_n 0, 1) := by decide +kernel
theorem dX10_line_122 : decode cX10_line 122 = .ok (.getfield 177, 3) := by decide +kernel
theorem dX10_line_125 : decode cX10_line 125 = .ok (.if_icmp .ge 108, 3) := by decide +kernel
theorem dX10_line_128 : decode cX10_line 128 = .ok (.iload_n 3, 1) := by decide +kernel
theorem dX10_line_129 : decode cX10_line 129 = .ok (.ifCond .eq 33, 3) := by decide +kernel
theorem dX10_line_132 : decode cX10_line 132 = .ok (.aload_n 0, 1) := by decide +kernel
theorem dX10_line_133 : decode cX10_line 133 = .ok (.getfield 66, 3) := by decide +kernel
theorem dX10_line_136 : decode cX10_line 136 = .ok (.aload_n 0, 1) := by decide +kernel
theorem dX10_line_137 : decode cX10_line 137 = .ok (.getfield 87, 3) := by decide +kernel
theorem dX10_line_140 : decode cX10_line 140 = .ok (.iload_n 3, 1) := by decide +kernel
theorem dX10_line_141 : decode cX10_line 141 = .ok (.iconst 1, 1) := by decide +kernel
theorem dX10_line_142 : decode cX10_line 142 = .ok (.isub, 1) := by decide +kernel
theorem dX10_line_143 : decode cX10_line 143 = .ok (.iaload, 1) := by decide +kernel
theorem dX10_line_144 : decode cX10_line 144 = .ok (.iaload, 1) := by decide +kernel
theorem dX10_line_145 : decode cX10_line 145 = .ok (.aload_n 0, 1) := by decide +kernel
theorem dX10_line_146 : decode cX10_line 146 = .ok (.getfield 66, 3) := by decide +kernel
theorem dX10_line_149 : decode cX10_line 149 = .ok (.aload_n 0, 1) := by decide +kernel
theorem dX10_line_150 : decode cX10_line 150 = .ok (.getfield 87, 3) := by decide +kernel
theorem dX10_line_153 : decode cX10_line 153 = .ok (.iload_n 3, 1) := by decide +kernel
theorem dX10_line_154 : decode cX10_line 154 = .ok (.iaload, 1) := by decide +kernel
theorem dX10_line_155 : decode cX10_line 155 = .ok (.iaload, 1) := by decide +kernel
theorem dX10_line_156 : decode cX10_line 156 = .ok (.isub, 1) := by decide +kernel
theorem dX10_line_157 : decode cX10_line 157 = .ok (.bipush 20, 2) := by decide +kernel
theorem dX10_line_159 : decode cX10_line 159 = .ok (.if_icmp .le 7, 3) := by decide +kernel
theorem dX10_line_162 : decode cX10_line 162 = .ok (.iconst 1, 1) := by decide +kernel
theorem dX10_line_163 : decode cX10_line 163 = .ok (.goto 4, 3) := by decide +kernel
theorem dX10_line_166 : decode cX10_line 166 = .ok (.iconst 0, 1) := by decide +kernel
theorem dX10_line_167 : decode cX10_line 167 = .ok (.istore 4, 2) := by decide +kernel
theorem dX10_line_169 : decode cX10_line 169 = .ok (.iload 4, 2) := by decide +kernel
theorem dX10_line_171 : decode cX10_line 171 = .ok (.ifCond .eq 8, 3) := by decide +kernel
theorem dX10_line_174 : decode cX10_line 174 = .ok (.iinc 1 1, 3) := by decide +kernel
theorem dX10_line_177 : decode cX10_line 177 = .ok (.iload_n 3, 1) := by decide +kernel
theorem dX10_line_178 : decode cX10_line 178 = .ok (.istore_n 2, 1) := by decide +kernel
theorem dX10_line_179 : decode cX10_line 179 = .ok (.aload_n 0, 1) := by decide +kernel
theorem dX10_line_180 : decode cX10_line 180 = .ok (.getfield 93, 3) := by decide +kernel
theorem dX10_line_183 : decode cX10_line 183 = .ok (.aload_n 0, 1) := by decide +kernel
theorem dX10_line_184 : decode cX10_line 184 = .ok (.getfield 87, 3) := by decide +kernel
theorem dX10_line_187 : decode cX10_line 187 = .ok (.iload_n 3, 1) := by decide +kernel
theorem dX10_line_188 : decode cX10_line 188 = .ok (.iaload, 1) := by decide +kernel
theorem dX10_line_189 : decode cX10_line 189 = .ok (.iload_n 3, 1) := by decide +kernel
theorem dX10_line_190 : decode cX10_line 190 = .ok (.iload_n 2, 1) := by decide +kernel
theorem dX10_line_191 : decode cX10_line 191 = .ok (.isub, 1) := by decide +kernel
theorem dX10_line_192 : decode cX10_line 192 = .ok (.iconst 1, 1) := by decide +kernel
theorem dX10_line_193 : decode cX10_line 193 = .ok (.iadd, 1) := by decide +kernel
theorem dX10_line_194 : decode cX10_line 194 = .ok (.iastore, 1) := by decide +kernel
theorem dX10_line_195 : decode cX10_line 195 = .ok (.iload_n 2, 1) := by decide +kernel
theorem dX10_line_196 : decode cX10_line 196 = .ok (.istore 5, 2) := by decide +kernel
theorem dX10_line_198 : decode cX10_line 198 = .ok (.iload 5, 2) := by decide +kernel
theorem dX10_line_200 : decode cX10_line 200 = .ok (.iload_n 3, 1) := by decide +kernel
theorem dX10_line_201 : decode cX10_line 201 = .ok (.if_icmp .gt 26, 3) := by decide +kernel
theorem dX10_line_204 : decode cX10_line 204 = .ok (.aload_n 0, 1) := by decide +kernel
theorem dX10_line_205 : decode cX10_line 205 = .ok (.getfield 90, 3) := by decide +kernel
theorem dX10_line_208 : decode cX10_line 208 = .ok (.aload_n 0, 1) := by decide +kernel
theorem dX10_line_209 : decode cX10_line 209 = .ok (.getfield 87, 3) := by decide +kernel
theorem dX10_line_212 : decode cX10_line 212 = .ok (.iload 5, 2) := by decide +kernel
theorem dX10_line_214 : decode cX10_line 214 = .ok (.iaload, 1) := by decide +kernel
theorem dX10_line_215 : decode cX10_line 215 = .ok (.iload_n 3, 1) := by decide +kernel
theorem dX10_line_216 : decode cX10_line 216 = .ok (.iload_n 2, 1) := by decide +kernel
theorem dX10_line_217 : decode cX10_line 217 = .ok (.isub, 1) := by decide +kernel
theorem dX10_line_218 : decode cX10_line 218 = .ok (.iconst 1, 1) := by decide +kernel
theorem dX10_line_219 : decode cX10_line 219 = .ok (.iadd, 1) := by decide +kernel
theorem dX10_line_220 : decode cX10_line 220 = .ok (.iastore, 1) := by decide +kernel
theorem dX10_line_221 : decode cX10_line 221 = .ok (.iinc 5 1, 3) := by decide +kernel
theorem dX10_line_224 : decode cX10_line 224 = .ok (.goto (-26), 3) := by decide +kernel
theorem dX10_line_227 : decode cX10_line 227 = .ok (.iinc 3 1, 3) := by decide +kernel
theorem dX10_line_230 : decode cX10_line 230 = .ok (.goto (-110), 3) := by decide +kernel
theorem dX10_line_233 : decode cX10_line 233 = .ok (.iload_n 1, 1) := by decide +kernel
theorem dX10_line_234 : decode cX10_line 234 = .ok (.ireturn, 1) := by decide +kernel
theorem dX10_look_0 : decode cX10_look 0 = .ok (.aload_n 0, 1) := by decide +kernel
theorem dX10_look_1 : decode cX10_look 1 = .ok (.getfield 150, 3) := by decide +kernel
theorem dX10_look_4 : decode cX10_look 4 = .ok (.aload_n 0, 1) := by decide +kernel
theorem dX10_look_5 : decode cX10_look 5 = .ok (.getfield 147, 3) := by decide +kernel
theorem dX10_look_8 : decode cX10_look 8 = .ok (.if_icmp .ge 30, 3) := by decide +kernel
theorem dX10_look_11 : decode cX10_look 11 = .ok (.aload_n 0, 1) := by decide +kernel
theorem dX10_look_12 : decode cX10_look 12 = .ok (.getfield 41, 3) := by decide +kernel
theorem dX10_look_15 : decode cX10_look 15 = .ok (.aload_n 0, 1) := by decide +kernel
theorem dX10_look_16 : decode cX10_look 16 = .ok (.getfield 150, 3) := by decide +kernel
theorem dX10_look_19 : decode cX10_look 19 = .ok (.iaload, 1) := by decide +kernel
theorem dX10_look_20 : decode cX10_look 20 = .ok (.bipush 32, 2) := by decide +kernel
theorem dX10_look_22 : decode cX10_look 22 = .ok (.if_icmp .ne 16, 3) := by decide +kernel
theorem dX10_look_25 : decode cX10_look 25 = .ok (.aload_n 0, 1) := by decide +kernel
theorem dX10_look_26 : decode cX10_look 26 = .ok (.dup, 1) := by decide +kernel
theorem dX10_look_27 : decode cX10_look 27 = .ok (.getfield 150, 3) := by decide +kernel
theorem dX10_look_30 : decode cX10_look 30 = .ok (.iconst 1, 1) := by decide +kernel
theorem dX10_look_31 : decode cX10_look 31 = .ok (.iadd, 1) := by decide +kernel
theorem dX10_look_32 : decode cX10_look 32 = .ok (.putfield 150, 3) := by decide +kernel
theorem dX10_look_35 : decode cX10_look 35 = .ok (.goto (-35), 3) := by decide +kernel
theorem dX10_look_38 : decode cX10_look 38 = .ok (.aload_n 0, 1) := by decide +kernel
theorem dX10_look_39 : decode cX10_look 39 = .ok (.getfield 150, 3) := by decide +kernel
theorem dX10_look_42 : decode cX10_look 42 = .ok (.aload_n 0, 1) := by decide +kernel
theorem dX10_look_43 : decode cX10_look 43 = .ok (.getfield 147, 3) := by decide +kernel
theorem dX10_look_46 : decode cX10_look 46 = .ok (.if_icmp .ge 15, 3) := by decide +kernel
theorem dX10_look_49 : decode cX10_look 49 = .ok (.aload_n 0, 1) := by decide +kernel
theorem dX10_look_50 : decode cX10_look 50 = .ok (.getfield 41, 3) := by decide +kernel
theorem dX10_look_53 : decode cX10_look 53 = .ok (.aload_n 0, 1) := by decide +kernel
theorem dX10_look_54 : decode cX10_look 54 = .ok (.getfield 150, 3) := by decide +kernel
theorem dX10_look_57 : decode cX10_look 57 = .ok (.iaload, 1) := by decide +kernel
theorem dX10_look_58 : decode cX10_look 58 = .ok (.goto 4, 3) := by decide +kernel
theorem dX10_look_61 : decode cX10_look 61 = .ok (.iconst (-1), 1) := by decide +kernel
theorem dX10_look_62 : decode cX10_look 62 = .ok (.ireturn, 1) := by decide +kernel
theorem dX10_mayTry_0 : decode cX10_mayTry 0 = .ok (.iload_n 1, 1) := by decide +kernel
theorem dX10_mayTry_1 : decode cX10_mayTry 1 = .ok (.iconst 0, 1) := by decide +kernel
theorem dX10_mayTry_2 : decode cX10_mayTry 2 = .ok (.iconst 4, 1) := by decide +kernel
theorem dX10_mayTry_3 : decode cX10_mayTry 3 = .ok (.invokestatic 126, 3) := by decide +kernel
theorem dX10_mayTry_6 : decode cX10_mayTry 6 = .ok (.ifCond .eq 15, 3) := by decide +kernel
theorem dX10_mayTry_9 : decode cX10_mayTry 9 = .ok (.aload_n 0, 1) := by decide +kernel
theorem dX10_mayTry_10 : decode cX10_mayTry 10 = .ok (.iload_n 2, 1) := by decide +kernel
theorem dX10_mayTry_11 : decode cX10_mayTry 11 = .ok (.invokevirtual 136, 3) := by decide +kernel
theorem dX10_mayTry_14 : decode cX10_mayTry 14 = .ok (.ifCond .eq 7, 3) := by decide +kernel
theorem dX10_mayTry_17 : decode cX10_mayTry 17 = .ok (.iconst 1, 1) := by decide +kernel
theorem dX10_mayTry_18 : decode cX10_mayTry 18 = .ok (.goto 4, 3) := by decide +kernel
theorem dX10_mayTry_21 : decode cX10_mayTry 21 = .ok (.iconst 0, 1) := by decide +kernel
theorem dX10_mayTry_22 : decode cX10_mayTry 22 = .ok (.ireturn, 1) := by decide +kernel
theorem dX10_metres_0 : decode cX10_metres 0 = .ok (.aload_n 0, 1) := by decide +kernel
theorem dX10_metres_1 : decode cX10_metres 1 = .ok (.getfield 243, 3) := by decide +kernel
theorem dX10_metres_4 : decode cX10_metres 4 = .ok (.ifCond .eq 47, 3) := by decide +kernel
theorem dX10_metres_7 : decode cX10_metres 7 = .ok (.aload_n 0, 1) := by decide +kernel
theorem dX10_metres_8 : decode cX10_metres 8 = .ok (.iload_n 1, 1) := by decide +kernel
theorem dX10_metres_9 : decode cX10_metres 9 = .ok (.invokevirtual 262, 3) := by decide +kernel
theorem dX10_metres_12 : decode cX10_metres 12 = .ok (.ifCond .eq 39, 3) := by decide +kernel
theorem dX10_metres_15 : decode cX10_metres 15 = .ok (.aload_n 0, 1) := by decide +kernel
theorem dX10_metres_16 : decode cX10_metres 16 = .ok (.getfield 105, 3) := by decide +kernel
theorem dX10_metres_19 : decode cX10_metres 19 = .ok (.iload_n 1, 1) := by decide +kernel
theorem dX10_metres_20 : decode cX10_metres 20 = .ok (.baload, 1) := by decide +kernel
theorem dX10_metres_21 : decode cX10_metres 21 = .ok (.ifCond .eq 30, 3) := by decide +kernel
theorem dX10_metres_24 : decode cX10_metres 24 = .ok (.iload_n 2, 1) := by decide +kernel
theorem dX10_metres_25 : decode cX10_metres 25 = .ok (.iconst 0, 1) := by decide +kernel
theorem dX10_metres_26 : decode cX10_metres 26 = .ok (.aload_n 0, 1) := by decide +kernel
theorem dX10_metres_27 : decode cX10_metres 27 = .ok (.getfield 250, 3) := by decide +kernel
theorem dX10_metres_30 : decode cX10_metres 30 = .ok (.invokestatic 126, 3) := by decide +kernel
theorem dX10_metres_33 : decode cX10_metres 33 = .ok (.ifCond .eq 18, 3) := by decide +kernel
theorem dX10_metres_36 : decode cX10_metres 36 = .ok (.aload_n 0, 1) := by decide +kernel
theorem dX10_metres_37 : decode cX10_metres 37 = .ok (.getfield 99, 3) := by decide +kernel
theorem dX10_metres_40 : decode cX10_metres 40 = .ok (.sipush 401, 3) := by decide +kernel
theorem dX10_metres_43 : decode cX10_metres 43 = .ok (.iload_n 1, 1) := by decide +kernel
theorem dX10_metres_44 : decode cX10_metres 44 = .ok (.imul, 1) := by decide +kernel
theorem dX10_metres_45 : decode cX10_metres 45 = .ok (.iload_n 2, 1) := by decide +kernel
theorem dX10_metres_46 : decode cX10_metres 46 = .ok (.iadd, 1) := by decide +kernel
theorem dX10_metres_47 : decode cX10_metres 47 = .ok (.iaload, 1) := by decide +kernel
theorem dX10_metres_48 : decode cX10_metres 48 = .ok (.goto 4, 3) := by decide +kernel
theorem dX10_metres_51 : decode cX10_metres 51 = .ok (.iconst (-1), 1) := by decide +kernel
theorem dX10_metres_52 : decode cX10_metres 52 = .ok (.ireturn, 1) := by decide +kernel
theorem dX10_note_0 : decode cX10_note 0 = .ok (.aload_n 0, 1) := by decide +kernel
theorem dX10_note_1 : decode cX10_note 1 = .ok (.getfield 102, 3) := by decide +kernel
theorem dX10_note_4 : decode cX10_note 4 = .ok (.aload_n 0, 1) := by decide +kernel
theorem dX10_note_5 : decode cX10_note 5 = .ok (.getfield 213, 3) := by decide +kernel
theorem dX10_note_8 : decode cX10_note 8 = .ok (.aload_n 0, 1) := by decide +kernel
theorem dX10_note_9 : decode cX10_note 9 = .ok (.invokevirtual 216, 3) := by decide +kernel
theorem dX10_note_12 : decode cX10_note 12 = .ok (.iastore, 1) := by decide +kernel
theorem dX10_note_13 : decode cX10_note 13 = .ok (.iconst 0, 1) := by decide +kernel
theorem dX10_note_14 : decode cX10_note 14 = .ok (.istore_n 1, 1) := by decide +kernel
theorem dX10_note_15 : decode cX10_note 15 = .ok (.iload_n 1, 1) := by decide +kernel
theorem dX10_note_16 : decode cX10_note 16 = .ok (.aload_n 0, 1) := by decide +kernel
theorem dX10_note_17 : decode cX10_note 17 = .ok (.getfield 123, 3) := by decide +kernel
theorem dX10_note_20 : decode cX10_note 20 = .ok (.if_icmp .ge 30, 3) := by decide +kernel
theorem dX10_note_23 : decode cX10_note 23 = .ok (.aload_n 0, 1) := by decide +kernel
theorem dX10_note_24 : decode cX10_note 24 = .ok (.getfield 99, 3) := by decide +kernel
theorem dX10_note_27 : decode cX10_note 27 = .ok (.sipush 401, 3) := by decide +kernel
theorem dX10_note_30 : decode cX10_note 30 = .ok (.iload_n 1, 1) := by decide +kernel
theorem dX10_note_31 : decode cX10_note 31 = .ok (.imul, 1) := by decide +kernel
theorem dX10_note_32 : decode cX10_note 32 = .ok (.aload_n 0, 1) := by decide +kernel
theorem dX10_note_33 : decode cX10_note 33 = .ok (.getfield 213, 3) := by decide +kernel
theorem dX10_note_36 : decode cX10_note 36 = .ok (.iadd, 1) := by decide +kernel
theorem dX10_note_37 : decode cX10_note 37 = .ok (.aload_n 0, 1) := by decide +kernel
theorem dX10_note_38 : decode cX10_note 38 = .ok (.getfield 66, 3) := by decide +kernel
theorem dX10_note_41 : decode cX10_note 41 = .ok (.iload_n 1, 1) := by decide +kernel
theorem dX10_note_42 : decode cX10_note 42 = .ok (.iaload, 1) := by decide +kernel
theorem dX10_note_43 : decode cX10_note 43 = .ok (.iastore, 1) := by decide +kernel
theorem dX10_note_44 : decode cX10_note 44 = .ok (.iinc 1 1, 3) := by decide +kernel
theorem dX10_note_47 : decode cX10_note 47 = .ok (.goto (-32), 3) := by decide +kernel
theorem dX10_note_50 : decode cX10_note 50 = .ok (.return_, 1) := by decide +kernel
theorem dX10_orders_0 : decode cX10_orders 0 = .ok (.iload_n 1, 1) := by decide +kernel
theorem dX10_orders_1 : decode cX10_orders 1 = .ok (.iconst 0, 1) := by decide +kernel
theorem dX10_orders_2 : decode cX10_orders 2 = .ok (.iconst 4, 1) := by decide +kernel
theorem dX10_orders_3 : decode cX10_orders 3 = .ok (.invokestatic 126, 3) := by decide +kernel
theorem dX10_orders_6 : decode cX10_orders 6 = .ok (.ifCond .eq 11, 3) := by decide +kernel
theorem dX10_orders_9 : decode cX10_orders 9 = .ok (.aload_n 0, 1) := by decide +kernel
theorem dX10_orders_10 : decode cX10_orders 10 = .ok (.invokevirtual 167, 3) := by decide +kernel
theorem dX10_orders_13 : decode cX10_orders 13 = .ok (.iconst (-1), 1) := by decide +kernel
theorem dX10_orders_14 : decode cX10_orders 14 = .ok (.if_icmp .eq 5, 3) := by decide +kernel
theorem dX10_orders_17 : decode cX10_orders 17 = .ok (.iconst 0, 1) := by decide +kernel
theorem dX10_orders_18 : decode cX10_orders 18 = .ok (.ireturn, 1) := by decide +kernel
theorem dX10_orders_19 : decode cX10_orders 19 = .ok (.aload_n 0, 1) := by decide +kernel
theorem dX10_orders_20 : decode cX10_orders 20 = .ok (.iload_n 1, 1) := by decide +kernel
theorem dX10_orders_21 : decode cX10_orders 21 = .ok (.invokevirtual 170, 3) := by decide +kernel
theorem dX10_orders_24 : decode cX10_orders 24 = .ok (.iconst 1, 1) := by decide +kernel
theorem dX10_orders_25 : decode cX10_orders 25 = .ok (.ireturn, 1) := by decide +kernel
theorem dX10_paceBy_0 : decode cX10_paceBy 0 = .ok (.bipush 24, 2) := by decide +kernel
theorem dX10_paceBy_2 : decode cX10_paceBy 2 = .ok (.iload_n 1, 1) := by decide +kernel
theorem dX10_paceBy_3 : decode cX10_paceBy 3 = .ok (.imul, 1) := by decide +kernel
theorem dX10_paceBy_4 : decode cX10_paceBy 4 = .ok (.istore 4, 2) := by decide +kernel
theorem dX10_paceBy_6 : decode cX10_paceBy 6 = .ok (.iload 4, 2) := by decide +kernel
theorem dX10_paceBy_8 : decode cX10_paceBy 8 = .ok (.bipush 24, 2) := by decide +kernel
theorem dX10_paceBy_10 : decode cX10_paceBy 10 = .ok (.iload_n 1, 1) := by decide +kernel
theorem dX10_paceBy_11 : decode cX10_paceBy 11 = .ok (.imul, 1) := by decide +kernel
theorem dX10_paceBy_12 : decode cX10_paceBy 12 = .ok (.aload_n 0, 1) := by decide +kernel
theorem dX10_paceBy_13 : decode cX10_paceBy 13 = .ok (.getfield 44, 3) := by decide +kernel
theorem dX10_paceBy_16 : decode cX10_paceBy 16 = .ok (.iload_n 1, 1) := by decide +kernel
theorem dX10_paceBy_17 : decode cX10_paceBy 17 = .ok (.iaload, 1) := by decide +kernel
theorem dX10_paceBy_18 : decode cX10_paceBy 18 = .ok (.iadd, 1) := by decide +kernel
theorem dX10_paceBy_19 : decode cX10_paceBy 19 = .ok (.if_icmp .ge 98, 3) := by decide +kernel
theorem dX10_paceBy_22 : decode cX10_paceBy 22 = .ok (.aload_n 0, 1) := by decide +kernel
theorem dX10_paceBy_23 : decode cX10_paceBy 23 = .ok (.aload_n 0, 1) := by decide +kernel
theorem dX10_paceBy_24 : decode cX10_paceBy 24 = .ok (.getfield 47, 3) := by decide +kernel
theorem dX10_paceBy_27 : decode cX10_paceBy 27 = .ok (.iload 4, 2) := by decide +kernel
theorem dX10_paceBy_29 : decode cX10_paceBy 29 = .ok (.iaload, 1) := by decide +kernel
theorem dX10_paceBy_30 : decode cX10_paceBy 30 = .ok (.iload_n 2, 1) := by decide +kernel
theorem dX10_paceBy_31 : decode cX10_paceBy 31 = .ok (.iload_n 3, 1) := by decide +kernel
theorem dX10_paceBy_32 : decode cX10_paceBy 32 = .ok (.invokevirtual 184, 3) := by decide +kernel
theorem dX10_paceBy_35 : decode cX10_paceBy 35 = .ok (.istore 5, 2) := by decide +kernel
theorem dX10_paceBy_37 : decode cX10_paceBy 37 = .ok (.aload_n 0, 1) := by decide +kernel
theorem dX10_paceBy_38 : decode cX10_paceBy 38 = .ok (.getfield 50, 3) := by decide +kernel
theorem dX10_paceBy_41 : decode cX10_paceBy 41 = .ok (.iload 4, 2) := by decide +kernel
theorem dX10_paceBy_43 : decode cX10_paceBy 43 = .ok (.iaload, 1) := by decide +kernel
theorem dX10_paceBy_44 : decode cX10_paceBy 44 = .ok (.bipush 61, 2) := by decide +kernel
theorem dX10_paceBy_46 : decode cX10_paceBy 46 = .ok (.if_icmp .ne 18, 3) := by decide +kernel
theorem dX10_paceBy_49 : decode cX10_paceBy 49 = .ok (.iload 5, 2) := by decide +kernel
theorem dX10_paceBy_51 : decode cX10_paceBy 51 = .ok (.aload_n 0, 1) := by decide +kernel
theorem dX10_paceBy_52 : decode cX10_paceBy 52 = .ok (.getfield 53, 3) := by decide +kernel
theorem dX10_paceBy_55 : decode cX10_paceBy 55 = .ok (.iload 4, 2) := by decide +kernel
theorem dX10_paceBy_57 : decode cX10_paceBy 57 = .ok (.iaload, 1) := by decide +kernel
theorem dX10_paceBy_58 : decode cX10_paceBy 58 = .ok (.if_icmp .ne 53, 3) := by decide +kernel
theorem dX10_paceBy_61 : decode cX10_paceBy 61 = .ok (.goto 42, 3) := by decide +kernel
theorem dX10_paceBy_64 : decode cX10_paceBy 64 = .ok (.aload_n 0, 1) := by decide +kernel
theorem dX10_paceBy_65 : decode cX10_paceBy 65 = .ok (.getfield 50, 3) := by decide +kernel
theorem dX10_paceBy_68 : decode cX10_paceBy 68 = .ok (.iload 4, 2) := by decide +kernel
theorem dX10_paceBy_70 : decode cX10_paceBy 70 = .ok (.iaload, 1) := by decide +kernel
theorem dX10_paceBy_71 : decode cX10_paceBy 71 = .ok (.bipush 60, 2) := by decide +kernel
theorem dX10_paceBy_73 : decode cX10_paceBy 73 = .ok (.if_icmp .ne 18, 3) := by decide +kernel
theorem dX10_paceBy_76 : decode cX10_paceBy 76 = .ok (.iload 5, 2) := by decide +kernel
theorem dX10_paceBy_78 : decode cX10_paceBy 78 = .ok (.aload_n 0, 1) := by decide +kernel
theorem dX10_paceBy_79 : decode cX10_paceBy 79 = .ok (.getfield 53, 3) := by decide +kernel
theorem dX10_paceBy_82 : decode cX10_paceBy 82 = .ok (.iload 4, 2) := by decide +kernel
theorem dX10_paceBy_84 : decode cX10_paceBy 84 = .ok (.iaload, 1) := by decide +kernel
theorem dX10_paceBy_85 : decode cX10_paceBy 85 = .ok (.if_icmp .ge 26, 3) := by decide +kernel
theorem dX10_paceBy_88 : decode cX10_paceBy 88 = .ok (.goto 15, 3) := by decide +kernel
theorem dX10_paceBy_91 : decode cX10_paceBy 91 = .ok (.iload 5, 2) := by decide +kernel
theorem dX10_paceBy_93 : decode cX10_paceBy 93 = .ok (.aload_n 0, 1) := by decide +kernel
theorem dX10_paceBy_94 : decode cX10_paceBy 94 = .ok (.getfield 53, 3) := by decide +kernel
theorem dX10_paceBy_97 : decode cX10_paceBy 97 = .ok (.iload 4, 2) := by decide +kernel
theorem dX10_paceBy_99 : decode cX10_paceBy 99 = .ok (.iaload, 1) := by decide +kernel
theorem dX10_paceBy_100 : decode cX10_paceBy 100 = .ok (.if_icmp .le 11, 3) := by decide +kernel
theorem dX10_paceBy_103 : decode cX10_paceBy 103 = .ok (.aload_n 0, 1) := by decide +kernel
theorem dX10_paceBy_104 : decode cX10_paceBy 104 = .ok (.getfield 56, 3) := by decide +kernel
theorem dX10_paceBy_107 : decode cX10_paceBy 107 = .ok (.iload 4, 2) := by decide +kernel
theorem dX10_paceBy_109 : decode cX10_paceBy 109 = .ok (.iaload, 1) := by decide +kernel
theorem dX10_paceBy_110 : decode cX10_paceBy 110 = .ok (.ireturn, 1) := by decide +kernel
theorem dX10_paceBy_111 : decode cX10_paceBy 111 = .ok (.iinc 4 1, 3) := by decide +kernel
theorem dX10_paceBy_114 : decode cX10_paceBy 114 = .ok (.goto (-108), 3) := by decide +kernel
theorem dX10_paceBy_117 : decode cX10_paceBy 117 = .ok (.iconst 4, 1) := by decide +kernel
theorem dX10_paceBy_118 : decode cX10_paceBy 118 = .ok (.ireturn, 1) := by decide +kernel
theorem dX10_passed_0 : decode cX10_passed 0 = .ok (.aload_n 0, 1) := by decide +kernel
theorem dX10_passed_1 : decode cX10_passed 1 = .ok (.getfield 243, 3) := by decide +kernel
theorem dX10_passed_4 : decode cX10_passed 4 = .ok (.ifCond .eq 41, 3) := by decide +kernel
theorem dX10_passed_7 : decode cX10_passed 7 = .ok (.iload_n 1, 1) := by decide +kernel
theorem dX10_passed_8 : decode cX10_passed 8 = .ok (.iconst 0, 1) := by decide +kernel
theorem dX10_passed_9 : decode cX10_passed 9 = .ok (.aload_n 0, 1) := by decide +kernel
theorem dX10_passed_10 : decode cX10_passed 10 = .ok (.getfield 253, 3) := by decide +kernel
theorem dX10_passed_13 : decode cX10_passed 13 = .ok (.iconst 1, 1) := by decide +kernel
theorem dX10_passed_14 : decode cX10_passed 14 = .ok (.isub, 1) := by decide +kernel
theorem dX10_passed_15 : decode cX10_passed 15 = .ok (.invokestatic 126, 3) := by decide +kernel
theorem dX10_passed_18 : decode cX10_passed 18 = .ok (.ifCond .eq 27, 3) := by decide +kernel
theorem dX10_passed_21 : decode cX10_passed 21 = .ok (.iload_n 2, 1) := by decide +kernel
theorem dX10_passed_22 : decode cX10_passed 22 = .ok (.iconst 1, 1) := by decide +kernel
theorem dX10_passed_23 : decode cX10_passed 23 = .ok (.iconst 3, 1) := by decide +kernel
theorem dX10_passed_24 : decode cX10_passed 24 = .ok (.invokestatic 126, 3) := by decide +kernel
theorem dX10_passed_27 : decode cX10_passed 27 = .ok (.ifCond .eq 18, 3) := by decide +kernel
theorem dX10_passed_30 : decode cX10_passed 30 = .ok (.aload_n 0, 1) := by decide +kernel
theorem dX10_passed_31 : decode cX10_passed 31 = .ok (.getfield 111, 3) := by decide +kernel
theorem dX10_passed_34 : decode cX10_passed 34 = .ok (.iconst 3, 1) := by decide +kernel
theorem dX10_passed_35 : decode cX10_passed 35 = .ok (.iload_n 1, 1) := by decide +kernel
theorem dX10_passed_36 : decode cX10_passed 36 = .ok (.imul, 1) := by decide +kernel
theorem dX10_passed_37 : decode cX10_passed 37 = .ok (.iload_n 2, 1) := by decide +kernel
theorem dX10_passed_38 : decode cX10_passed 38 = .ok (.iadd, 1) := by decide +kernel
theorem dX10_passed_39 : decode cX10_passed 39 = .ok (.iconst 1, 1) := by decide +kernel
theorem dX10_passed_40 : decode cX10_passed 40 = .ok (.isub, 1) := by decide +kernel
theorem dX10_passed_41 : decode cX10_passed 41 = .ok (.iaload, 1) := by decide +kernel
theorem dX10_passed_42 : decode cX10_passed 42 = .ok (.goto 4, 3) := by decide +kernel
theorem dX10_passed_45 : decode cX10_passed 45 = .ok (.iconst (-1), 1) := by decide +kernel
theorem dX10_passed_46 : decode cX10_passed 46 = .ok (.ireturn, 1) := by decide +kernel
theorem dX10_placeAt_0 : decode cX10_placeAt 0 = .ok (.aload_n 0, 1) := by decide +kernel
theorem dX10_placeAt_1 : decode cX10_placeAt 1 = .ok (.getfield 84, 3) := by decide +kernel
theorem dX10_placeAt_4 : decode cX10_placeAt 4 = .ok (.iconst 5, 1) := by decide +kernel
theorem dX10_placeAt_5 : decode cX10_placeAt 5 = .ok (.iload_n 1, 1) := by decide +kernel
theorem dX10_placeAt_6 : decode cX10_placeAt 6 = .ok (.imul, 1) := by decide +kernel
theorem dX10_placeAt_7 : decode cX10_placeAt 7 = .ok (.iload_n 2, 1) := by decide +kernel
theorem dX10_placeAt_8 : decode cX10_placeAt 8 = .ok (.iadd, 1) := by decide +kernel
theorem dX10_placeAt_9 : decode cX10_placeAt 9 = .ok (.iaload, 1) := by decide +kernel
theorem dX10_placeAt_10 : decode cX10_placeAt 10 = .ok (.istore_n 3, 1) := by decide +kernel
theorem dX10_placeAt_11 : decode cX10_placeAt 11 = .ok (.aload_n 0, 1) := by decide +kernel
theorem dX10_placeAt_12 : decode cX10_placeAt 12 = .ok (.getfield 59, 3) := by decide +kernel
theorem dX10_placeAt_15 : decode cX10_placeAt 15 = .ok (.iload_n 1, 1) := by decide +kernel
theorem dX10_placeAt_16 : decode cX10_placeAt 16 = .ok (.baload, 1) := by decide +kernel
theorem dX10_placeAt_17 : decode cX10_placeAt 17 = .ok (.ifCond .eq 8, 3) := by decide +kernel
theorem dX10_placeAt_20 : decode cX10_placeAt 20 = .ok (.iload_n 3, 1) := by decide +kernel
theorem dX10_placeAt_21 : decode cX10_placeAt 21 = .ok (.iconst (-1), 1) := by decide +kernel
theorem dX10_placeAt_22 : decode cX10_placeAt 22 = .ok (.if_icmp .ne 5, 3) := by decide +kernel
theorem dX10_placeAt_25 : decode cX10_placeAt 25 = .ok (.iconst 0, 1) := by decide +kernel
theorem dX10_placeAt_26 : decode cX10_placeAt 26 = .ok (.ireturn, 1) := by decide +kernel
theorem dX10_placeAt_27 : decode cX10_placeAt 27 = .ok (.iconst 1, 1) := by decide +kernel
theorem dX10_placeAt_28 : decode cX10_placeAt 28 = .ok (.istore 4, 2) := by decide +kernel
theorem dX10_placeAt_30 : decode cX10_placeAt 30 = .ok (.iconst 0, 1) := by decide +kernel
theorem dX10_placeAt_31 : decode cX10_placeAt 31 = .ok (.istore 5, 2) := by decide +kernel
theorem dX10_placeAt_33 : decode cX10_placeAt 33 = .ok (.iload 5, 2) := by decide +kernel
theorem dX10_placeAt_35 : decode cX10_placeAt 35 = .ok (.aload_n 0, 1) := by decide +kernel
theorem dX10_placeAt_36 : decode cX10_placeAt 36 = .ok (.getfield 123, 3) := by decide +kernel
theorem dX10_placeAt_39 : decode cX10_placeAt 39 = .ok (.if_icmp .ge 72, 3) := by decide +kernel
theorem dX10_placeAt_42 : decode cX10_placeAt 42 = .ok (.aload_n 0, 1) := by decide +kernel
theorem dX10_placeAt_43 : decode cX10_placeAt 43 = .ok (.getfield 84, 3) := by decide +kernel
theorem dX10_placeAt_46 : decode cX10_placeAt 46 = .ok (.iconst 5, 1) := by decide +kernel
theorem dX10_placeAt_47 : decode cX10_placeAt 47 = .ok (.iload 5, 2) := by decide +kernel
theorem dX10_placeAt_49 : decode cX10_placeAt 49 = .ok (.imul, 1) := by decide +kernel
theorem dX10_placeAt_50 : decode cX10_placeAt 50 = .ok (.iload_n 2, 1) := by decide +kernel
theorem dX10_placeAt_51 : decode cX10_placeAt 51 = .ok (.iadd, 1) := by decide +kernel
theorem dX10_placeAt_52 : decode cX10_placeAt 52 = .ok (.iaload, 1) := by decide +kernel
theorem dX10_placeAt_53 : decode cX10_placeAt 53 = .ok (.istore 6, 2) := by decide +kernel
theorem dX10_placeAt_55 : decode cX10_placeAt 55 = .ok (.iload 4, 2) := by decide +kernel
theorem dX10_placeAt_57 : decode cX10_placeAt 57 = .ok (.iload 5, 2) := by decide +kernel
theorem dX10_placeAt_59 : decode cX10_placeAt 59 = .ok (.iload_n 1, 1) := by decide +kernel
theorem dX10_placeAt_60 : decode cX10_placeAt 60 = .ok (.if_icmp .eq 41, 3) := by decide +kernel
theorem dX10_placeAt_63 : decode cX10_placeAt 63 = .ok (.aload_n 0, 1) := by decide +kernel
theorem dX10_placeAt_64 : decode cX10_placeAt 64 = .ok (.getfield 59, 3) := by decide +kernel
theorem dX10_placeAt_67 : decode cX10_placeAt 67 = .ok (.iload 5, 2) := by decide +kernel
theorem dX10_placeAt_69 : decode cX10_placeAt 69 = .ok (.baload, 1) := by decide +kernel
theorem dX10_placeAt_70 : decode cX10_placeAt 70 = .ok (.ifCond .eq 31, 3) := by decide +kernel
theorem dX10_placeAt_73 : decode cX10_placeAt 73 = .ok (.iload 6, 2) := by decide +kernel
theorem dX10_placeAt_75 : decode cX10_placeAt 75 = .ok (.iconst (-1), 1) := by decide +kernel
theorem dX10_placeAt_76 : decode cX10_placeAt 76 = .ok (.if_icmp .eq 25, 3) := by decide +kernel
theorem dX10_placeAt_79 : decode cX10_placeAt 79 = .ok (.iload 6, 2) := by decide +kernel
theorem dX10_placeAt_81 : decode cX10_placeAt 81 = .ok (.iload_n 3, 1) := by decide +kernel
theorem dX10_placeAt_82 : decode cX10_placeAt 82 = .ok (.if_icmp .lt 15, 3) := by decide +kernel
theorem dX10_placeAt_85 : decode cX10_placeAt 85 = .ok (.iload 6, 2) := by decide +kernel
theorem dX10_placeAt_87 : decode cX10_placeAt 87 = .ok (.iload_n 3, 1) := by decide +kernel
theorem dX10_placeAt_88 : decode cX10_placeAt 88 = .ok (.if_icmp .ne 13, 3) := by decide +kernel
theorem dX10_placeAt_91 : decode cX10_placeAt 91 = .ok (.iload 5, 2) := by decide +kernel
theorem dX10_placeAt_93 : decode cX10_placeAt 93 = .ok (.iload_n 1, 1) := by decide +kernel
theorem dX10_placeAt_94 : decode cX10_placeAt 94 = .ok (.if_icmp .ge 7, 3) := by decide +kernel
theorem dX10_placeAt_97 : decode cX10_placeAt 97 = .ok (.iconst 1, 1) := by decide +kernel
theorem dX10_placeAt_98 : decode cX10_placeAt 98 = .ok (.goto 4, 3) := by decide +kernel
theorem dX10_placeAt_101 : decode cX10_placeAt 101 = .ok (.iconst 0, 1) := by decide +kernel
theorem dX10_placeAt_102 : decode cX10_placeAt 102 = .ok (.iadd, 1) := by decide +kernel
theorem dX10_placeAt_103 : decode cX10_placeAt 103 = .ok (.istore 4, 2) := by decide +kernel
theorem dX10_placeAt_105 : decode cX10_placeAt 105 = .ok (.iinc 5 1, 3) := by decide +kernel
theorem dX10_placeAt_108 : decode cX10_placeAt 108 = .ok (.goto (-75), 3) := by decide +kernel
theorem dX10_placeAt_111 : decode cX10_placeAt 111 = .ok (.iload 4, 2) := by decide +kernel
theorem dX10_placeAt_113 : decode cX10_placeAt 113 = .ok (.ireturn, 1) := by decide +kernel
theorem dX10_placeIn_0 : decode cX10_placeIn 0 = .ok (.aload_n 0, 1) := by decide +kernel
theorem dX10_placeIn_1 : decode cX10_placeIn 1 = .ok (.getfield 59, 3) := by decide +kernel
theorem dX10_placeIn_4 : decode cX10_placeIn 4 = .ok (.iload_n 1, 1) := by decide +kernel
theorem dX10_placeIn_5 : decode cX10_placeIn 5 = .ok (.baload, 1) := by decide +kernel
theorem dX10_placeIn_6 : decode cX10_placeIn 6 = .ok (.ifCond .eq 13, 3) := by decide +kernel
theorem dX10_placeIn_9 : decode cX10_placeIn 9 = .ok (.aload_n 0, 1) := by decide +kernel
theorem dX10_placeIn_10 : decode cX10_placeIn 10 = .ok (.getfield 75, 3) := by decide +kernel
theorem dX10_placeIn_13 : decode cX10_placeIn 13 = .ok (.iload_n 1, 1) := by decide +kernel
theorem dX10_placeIn_14 : decode cX10_placeIn 14 = .ok (.iaload, 1) := by decide +kernel
theorem dX10_placeIn_15 : decode cX10_placeIn 15 = .ok (.iconst (-1), 1) := by decide +kernel
theorem dX10_placeIn_16 : decode cX10_placeIn 16 = .ok (.if_icmp .ne 5, 3) := by decide +kernel
theorem dX10_placeIn_19 : decode cX10_placeIn 19 = .ok (.iconst 0, 1) := by decide +kernel
theorem dX10_placeIn_20 : decode cX10_placeIn 20 = .ok (.ireturn, 1) := by decide +kernel
theorem dX10_placeIn_21 : decode cX10_placeIn 21 = .ok (.iconst 1, 1) := by decide +kernel
theorem dX10_placeIn_22 : decode cX10_placeIn 22 = .ok (.istore_n 2, 1) := by decide +kernel
theorem dX10_placeIn_23 : decode cX10_placeIn 23 = .ok (.iconst 0, 1) := by decide +kernel
theorem dX10_placeIn_24 : decode cX10_placeIn 24 = .ok (.istore_n 3, 1) := by decide +kernel
theorem dX10_placeIn_25 : decode cX10_placeIn 25 = .ok (.iload_n 3, 1) := by decide +kernel
theorem dX10_placeIn_26 : decode cX10_placeIn 26 = .ok (.aload_n 0, 1) := by decide +kernel
theorem dX10_placeIn_27 : decode cX10_placeIn 27 = .ok (.getfield 123, 3) := by decide +kernel
theorem dX10_placeIn_30 : decode cX10_placeIn 30 = .ok (.if_icmp .ge 50, 3) := by decide +kernel
theorem dX10_placeIn_33 : decode cX10_placeIn 33 = .ok (.iload_n 2, 1) := by decide +kernel
theorem dX10_placeIn_34 : decode cX10_placeIn 34 = .ok (.iload_n 3, 1) := by decide +kernel
theorem dX10_placeIn_35 : decode cX10_placeIn 35 = .ok (.iload_n 1, 1) := by decide +kernel
theorem dX10_placeIn_36 : decode cX10_placeIn 36 = .ok (.if_icmp .eq 35, 3) := by decide +kernel
theorem dX10_placeIn_39 : decode cX10_placeIn 39 = .ok (.aload_n 0, 1) := by decide +kernel
theorem dX10_placeIn_40 : decode cX10_placeIn 40 = .ok (.getfield 59, 3) := by decide +kernel
theorem dX10_placeIn_43 : decode cX10_placeIn 43 = .ok (.iload_n 3, 1) := by decide +kernel
theorem dX10_placeIn_44 : decode cX10_placeIn 44 = .ok (.baload, 1) := by decide +kernel
theorem dX10_placeIn_45 : decode cX10_placeIn 45 = .ok (.ifCond .eq 26, 3) := by decide +kernel
theorem dX10_placeIn_48 : decode cX10_placeIn 48 = .ok (.aload_n 0, 1) := by decide +kernel
theorem dX10_placeIn_49 : decode cX10_placeIn 49 = .ok (.getfield 75, 3) := by decide +kernel
theorem dX10_placeIn_52 : decode cX10_placeIn 52 = .ok (.iload_n 3, 1) := by decide +kernel
theorem dX10_placeIn_53 : decode cX10_placeIn 53 = .ok (.iaload, 1) := by decide +kernel
theorem dX10_placeIn_54 : decode cX10_placeIn 54 = .ok (.iconst (-1), 1) := by decide +kernel
theorem dX10_placeIn_55 : decode cX10_placeIn 55 = .ok (.if_icmp .eq 16, 3) := by decide +kernel
theorem dX10_placeIn_58 : decode cX10_placeIn 58 = .ok (.aload_n 0, 1) := by decide +kernel
theorem dX10_placeIn_59 : decode cX10_placeIn 59 = .ok (.iload_n 3, 1) := by decide +kernel
theorem dX10_placeIn_60 : decode cX10_placeIn 60 = .ok (.iload_n 1, 1) := by decide +kernel
theorem dX10_placeIn_61 : decode cX10_placeIn 61 = .ok (.invokevirtual 233, 3) := by decide +kernel
theorem dX10_placeIn_64 : decode cX10_placeIn 64 = .ok (.ifCond .eq 7, 3) := by decide +kernel
theorem dX10_placeIn_67 : decode cX10_placeIn 67 = .ok (.iconst 1, 1) := by decide +kernel
theorem dX10_placeIn_68 : decode cX10_placeIn 68 = .ok (.goto 4, 3) := by decide +kernel
theorem dX10_placeIn_71 : decode cX10_placeIn 71 = .ok (.iconst 0, 1) := by decide +kernel
theorem dX10_placeIn_72 : decode cX10_placeIn 72 = .ok (.iadd, 1) := by decide +kernel
theorem dX10_placeIn_73 : decode cX10_placeIn 73 = .ok (.istore_n 2, 1) := by decide +kernel
theorem dX10_placeIn_74 : decode cX10_placeIn 74 = .ok (.iinc 3 1, 3) := by decide +kernel
theorem dX10_placeIn_77 : decode cX10_placeIn 77 = .ok (.goto (-52), 3) := by decide +kernel
theorem dX10_placeIn_80 : decode cX10_placeIn 80 = .ok (.iload_n 2, 1) := by decide +kernel
theorem dX10_placeIn_81 : decode cX10_placeIn 81 = .ok (.ireturn, 1) := by decide +kernel
theorem dX10_pointsOf_0 : decode cX10_pointsOf 0 = .ok (.iconst 0, 1) := by decide +kernel
theorem dX10_pointsOf_1 : decode cX10_pointsOf 1 = .ok (.istore_n 3, 1) := by decide +kernel
theorem dX10_pointsOf_2 : decode cX10_pointsOf 2 = .ok (.iconst 0, 1) := by decide +kernel
theorem dX10_pointsOf_3 : decode cX10_pointsOf 3 = .ok (.istore 4, 2) := by decide +kernel
theorem dX10_pointsOf_5 : decode cX10_pointsOf 5 = .ok (.iload 4, 2) := by decide +kernel
theorem dX10_pointsOf_7 : decode cX10_pointsOf 7 = .ok (.iload_n 2, 1) := by decide +kernel
theorem dX10_pointsOf_8 : decode cX10_pointsOf 8 = .ok (.if_icmp .ge 39, 3) := by decide +kernel
theorem dX10_pointsOf_11 : decode cX10_pointsOf 11 = .ok (.aload_n 0, 1) := by decide +kernel
theorem dX10_pointsOf_12 : decode cX10_pointsOf 12 = .ok (.iload_n 1, 1) := by decide +kernel
theorem dX10_pointsOf_13 : decode cX10_pointsOf 13 = .ok (.iload 4, 2) := by decide +kernel
theorem dX10_pointsOf_15 : decode cX10_pointsOf 15 = .ok (.invokevirtual 236, 3) := by decide +kernel
theorem dX10_pointsOf_18 : decode cX10_pointsOf 18 = .ok (.istore 5, 2) := by decide +kernel
theorem dX10_pointsOf_20 : decode cX10_pointsOf 20 = .ok (.iload_n 3, 1) := by decide +kernel
theorem dX10_pointsOf_21 : decode cX10_pointsOf 21 = .ok (.iload 5, 2) := by decide +kernel
theorem dX10_pointsOf_23 : decode cX10_pointsOf 23 = .ok (.iconst 1, 1) := by decide +kernel
theorem dX10_pointsOf_24 : decode cX10_pointsOf 24 = .ok (.iconst 3, 1) := by decide +kernel
theorem dX10_pointsOf_25 : decode cX10_pointsOf 25 = .ok (.invokestatic 126, 3) := by decide +kernel
theorem dX10_pointsOf_28 : decode cX10_pointsOf 28 = .ok (.ifCond .eq 10, 3) := by decide +kernel
theorem dX10_pointsOf_31 : decode cX10_pointsOf 31 = .ok (.iconst 4, 1) := by decide +kernel
theorem dX10_pointsOf_32 : decode cX10_pointsOf 32 = .ok (.iload 5, 2) := by decide +kernel
theorem dX10_pointsOf_34 : decode cX10_pointsOf 34 = .ok (.isub, 1) := by decide +kernel
theorem dX10_pointsOf_35 : decode cX10_pointsOf 35 = .ok (.goto 4, 3) := by decide +kernel
theorem dX10_pointsOf_38 : decode cX10_pointsOf 38 = .ok (.iconst 0, 1) := by decide +kernel
theorem dX10_pointsOf_39 : decode cX10_pointsOf 39 = .ok (.iadd, 1) := by decide +kernel
theorem dX10_pointsOf_40 : decode cX10_pointsOf 40 = .ok (.istore_n 3, 1) := by decide +kernel
theorem dX10_pointsOf_41 : decode cX10_pointsOf 41 = .ok (.iinc 4 1, 3) := by decide +kernel
theorem dX10_pointsOf_44 : decode cX10_pointsOf 44 = .ok (.goto (-39), 3) := by decide +kernel
theorem dX10_pointsOf_47 : decode cX10_pointsOf 47 = .ok (.iload_n 3, 1) := by decide +kernel
theorem dX10_pointsOf_48 : decode cX10_pointsOf 48 = .ok (.ireturn, 1) := by decide +kernel
theorem dX10_powerOf_0 : decode cX10_powerOf 0 = .ok (.aload_n 0, 1) := by decide +kernel
theorem dX10_powerOf_1 : decode cX10_powerOf 1 = .ok (.getfield 96, 3) := by decide +kernel
theorem dX10_powerOf_4 : decode cX10_powerOf 4 = .ok (.iload_n 1, 1) := by decide +kernel
theorem dX10_powerOf_5 : decode cX10_powerOf 5 = .ok (.iaload, 1) := by decide +kernel
theorem dX10_powerOf_6 : decode cX10_powerOf 6 = .ok (.sipush 1000, 3) := by decide +kernel
theorem dX10_powerOf_9 : decode cX10_powerOf 9 = .ok (.idiv, 1) := by decide +kernel
theorem dX10_powerOf_10 : decode cX10_powerOf 10 = .ok (.istore_n 3, 1) := by decide +kernel
theorem dX10_powerOf_11 : decode cX10_powerOf 11 = .ok (.iconst 3, 1) := by decide +kernel
theorem dX10_powerOf_12 : decode cX10_powerOf 12 = .ok (.aload_n 0, 1) := by decide +kernel
theorem dX10_powerOf_13 : decode cX10_powerOf 13 = .ok (.getfield 32, 3) := by decide +kernel
theorem dX10_powerOf_16 : decode cX10_powerOf 16 = .ok (.iload_n 3, 1) := by decide +kernel
theorem dX10_powerOf_17 : decode cX10_powerOf 17 = .ok (.iaload, 1) := by decide +kernel
theorem dX10_powerOf_18 : decode cX10_powerOf 18 = .ok (.imul, 1) := by decide +kernel
theorem dX10_powerOf_19 : decode cX10_powerOf 19 = .ok (.istore 4, 2) := by decide +kernel
theorem dX10_powerOf_21 : decode cX10_powerOf 21 = .ok (.iload 4, 2) := by decide +kernel
theorem dX10_powerOf_23 : decode cX10_powerOf 23 = .ok (.iload 4, 2) := by decide +kernel
theorem dX10_powerOf_25 : decode cX10_powerOf 25 = .ok (.ifCond .le 18, 3) := by decide +kernel
theorem dX10_powerOf_28 : decode cX10_powerOf 28 = .ok (.iload 4, 2) := by decide +kernel
theorem dX10_powerOf_30 : decode cX10_powerOf 30 = .ok (.aload_n 0, 1) := by decide +kernel
theorem dX10_powerOf_31 : decode cX10_powerOf 31 = .ok (.getfield 29, 3) := by decide +kernel
theorem dX10_powerOf_34 : decode cX10_powerOf 34 = .ok (.iload_n 1, 1) := by decide +kernel
theorem dX10_powerOf_35 : decode cX10_powerOf 35 = .ok (.iaload, 1) := by decide +kernel
theorem dX10_powerOf_36 : decode cX10_powerOf 36 = .ok (.imul, 1) := by decide +kernel
theorem dX10_powerOf_37 : decode cX10_powerOf 37 = .ok (.bipush 100, 2) := by decide +kernel
theorem dX10_powerOf_39 : decode cX10_powerOf 39 = .ok (.idiv, 1) := by decide +kernel
theorem dX10_powerOf_40 : decode cX10_powerOf 40 = .ok (.goto 4, 3) := by decide +kernel
theorem dX10_powerOf_43 : decode cX10_powerOf 43 = .ok (.iconst 0, 1) := by decide +kernel
theorem dX10_powerOf_44 : decode cX10_powerOf 44 = .ok (.isub, 1) := by decide +kernel
theorem dX10_powerOf_45 : decode cX10_powerOf 45 = .ok (.istore 4, 2) := by decide +kernel
theorem dX10_powerOf_47 : decode cX10_powerOf 47 = .ok (.aload_n 0, 1) := by decide +kernel
theorem dX10_powerOf_48 : decode cX10_powerOf 48 = .ok (.getfield 93, 3) := by decide +kernel
theorem dX10_powerOf_51 : decode cX10_powerOf 51 = .ok (.iload_n 1, 1) := by decide +kernel
theorem dX10_powerOf_52 : decode cX10_powerOf 52 = .ok (.iaload, 1) := by decide +kernel
theorem dX10_powerOf_53 : decode cX10_powerOf 53 = .ok (.iconst 1, 1) := by decide +kernel
theorem dX10_powerOf_54 : decode cX10_powerOf 54 = .ok (.if_icmp .ne 17, 3) := by decide +kernel
theorem dX10_powerOf_57 : decode cX10_powerOf 57 = .ok (.bipush 100, 2) := by decide +kernel
theorem dX10_powerOf_59 : decode cX10_powerOf 59 = .ok (.iconst 4, 1) := by decide +kernel
theorem dX10_powerOf_60 : decode cX10_powerOf 60 = .ok (.aload_n 0, 1) := by decide +kernel
theorem dX10_powerOf_61 : decode cX10_powerOf 61 = .ok (.getfield 35, 3) := by decide +kernel
theorem dX10_powerOf_64 : decode cX10_powerOf 64 = .ok (.iload_n 3, 1) := by decide +kernel
theorem dX10_powerOf_65 : decode cX10_powerOf 65 = .ok (.iaload, 1) := by decide +kernel
theorem dX10_powerOf_66 : decode cX10_powerOf 66 = .ok (.imul, 1) := by decide +kernel
theorem dX10_powerOf_67 : decode cX10_powerOf 67 = .ok (.iadd, 1) := by decide +kernel
theorem dX10_powerOf_68 : decode cX10_powerOf 68 = .ok (.goto 26, 3) := by decide +kernel
theorem dX10_powerOf_71 : decode cX10_powerOf 71 = .ok (.bipush 60, 2) := by decide +kernel
theorem dX10_powerOf_73 : decode cX10_powerOf 73 = .ok (.iconst 2, 1) := by decide +kernel
theorem dX10_powerOf_74 : decode cX10_powerOf 74 = .ok (.aload_n 0, 1) := by decide +kernel
theorem dX10_powerOf_75 : decode cX10_powerOf 75 = .ok (.getfield 35, 3) := by decide +kernel
theorem dX10_powerOf_78 : decode cX10_powerOf 78 = .ok (.iload_n 3, 1) := by decide +kernel
theorem dX10_powerOf_79 : decode cX10_powerOf 79 = .ok (.iaload, 1) := by decide +kernel
theorem dX10_powerOf_80 : decode cX10_powerOf 80 = .ok (.imul, 1) := by decide +kernel
theorem dX10_powerOf_81 : decode cX10_powerOf 81 = .ok (.iadd, 1) := by decide +kernel
theorem dX10_powerOf_82 : decode cX10_powerOf 82 = .ok (.bipush 20, 2) := by decide +kernel
theorem dX10_powerOf_84 : decode cX10_powerOf 84 = .ok (.aload_n 0, 1) := by decide +kernel
theorem dX10_powerOf_85 : decode cX10_powerOf 85 = .ok (.getfield 93, 3) := by decide +kernel
theorem dX10_powerOf_88 : decode cX10_powerOf 88 = .ok (.iload_n 1, 1) := by decide +kernel
theorem dX10_powerOf_89 : decode cX10_powerOf 89 = .ok (.iaload, 1) := by decide +kernel
theorem dX10_powerOf_90 : decode cX10_powerOf 90 = .ok (.iconst 1, 1) := by decide +kernel
theorem dX10_powerOf_91 : decode cX10_powerOf 91 = .ok (.isub, 1) := by decide +kernel
theorem dX10_powerOf_92 : decode cX10_powerOf 92 = .ok (.idiv, 1) := by decide +kernel
theorem dX10_powerOf_93 : decode cX10_powerOf 93 = .ok (.iadd, 1) := by decide +kernel
theorem dX10_powerOf_94 : decode cX10_powerOf 94 = .ok (.istore 5, 2) := by decide +kernel
theorem dX10_powerOf_96 : decode cX10_powerOf 96 = .ok (.iconst 0, 1) := by decide +kernel
theorem dX10_powerOf_97 : decode cX10_powerOf 97 = .ok (.bipush 10, 2) := by decide +kernel
theorem dX10_powerOf_99 : decode cX10_powerOf 99 = .ok (.bipush 8, 2) := by decide +kernel
theorem dX10_powerOf_101 : decode cX10_powerOf 101 = .ok (.iload_n 2, 1) := by decide +kernel
theorem dX10_powerOf_102 : decode cX10_powerOf 102 = .ok (.imul, 1) := by decide +kernel
theorem dX10_powerOf_103 : decode cX10_powerOf 103 = .ok (.iadd, 1) := by decide +kernel
theorem dX10_powerOf_104 : decode cX10_powerOf 104 = .ok (.iload 4, 2) := by decide +kernel
theorem dX10_powerOf_106 : decode cX10_powerOf 106 = .ok (.iadd, 1) := by decide +kernel
theorem dX10_powerOf_107 : decode cX10_powerOf 107 = .ok (.iload 5, 2) := by decide +kernel
theorem dX10_powerOf_109 : decode cX10_powerOf 109 = .ok (.imul, 1) := by decide +kernel
theorem dX10_powerOf_110 : decode cX10_powerOf 110 = .ok (.bipush 100, 2) := by decide +kernel
theorem dX10_powerOf_112 : decode cX10_powerOf 112 = .ok (.idiv, 1) := by decide +kernel
theorem dX10_powerOf_113 : decode cX10_powerOf 113 = .ok (.invokestatic 188, 3) := by decide +kernel
theorem dX10_powerOf_116 : decode cX10_powerOf 116 = .ok (.ireturn, 1) := by decide +kernel
theorem dX10_prime_0 : decode cX10_prime 0 = .ok (.aload_n 0, 1) := by decide +kernel
theorem dX10_prime_1 : decode cX10_prime 1 = .ok (.iload_n 1, 1) := by decide +kernel
theorem dX10_prime_2 : decode cX10_prime 2 = .ok (.invokevirtual 136, 3) := by decide +kernel
theorem dX10_prime_5 : decode cX10_prime 5 = .ok (.ifCond .eq 11, 3) := by decide +kernel
theorem dX10_prime_8 : decode cX10_prime 8 = .ok (.aload_n 0, 1) := by decide +kernel
theorem dX10_prime_9 : decode cX10_prime 9 = .ok (.getfield 133, 3) := by decide +kernel
theorem dX10_prime_12 : decode cX10_prime 12 = .ok (.iconst 5, 1) := by decide +kernel
theorem dX10_prime_13 : decode cX10_prime 13 = .ok (.if_icmp .ne 5, 3) := by decide +kernel
theorem dX10_prime_16 : decode cX10_prime 16 = .ok (.iconst (-1), 1) := by decide +kernel
theorem dX10_prime_17 : decode cX10_prime 17 = .ok (.ireturn, 1) := by decide +kernel
theorem dX10_prime_18 : decode cX10_prime 18 = .ok (.aload_n 0, 1) := by decide +kernel
theorem dX10_prime_19 : decode cX10_prime 19 = .ok (.getfield 38, 3) := by decide +kernel
theorem dX10_prime_22 : decode cX10_prime 22 = .ok (.aload_n 0, 1) := by decide +kernel
theorem dX10_prime_23 : decode cX10_prime 23 = .ok (.getfield 133, 3) := by decide +kernel
theorem dX10_prime_26 : decode cX10_prime 26 = .ok (.iload_n 1, 1) := by decide +kernel
theorem dX10_prime_27 : decode cX10_prime 27 = .ok (.iastore, 1) := by decide +kernel
theorem dX10_prime_28 : decode cX10_prime 28 = .ok (.aload_n 0, 1) := by decide +kernel
theorem dX10_prime_29 : decode cX10_prime 29 = .ok (.dup, 1) := by decide +kernel
theorem dX10_prime_30 : decode cX10_prime 30 = .ok (.getfield 133, 3) := by decide +kernel
theorem dX10_prime_33 : decode cX10_prime 33 = .ok (.iconst 1, 1) := by decide +kernel
theorem dX10_prime_34 : decode cX10_prime 34 = .ok (.iadd, 1) := by decide +kernel
theorem dX10_prime_35 : decode cX10_prime 35 = .ok (.putfield 133, 3) := by decide +kernel
theorem dX10_prime_38 : decode cX10_prime 38 = .ok (.aload_n 0, 1) := by decide +kernel
theorem dX10_prime_39 : decode cX10_prime 39 = .ok (.getfield 133, 3) := by decide +kernel
theorem dX10_prime_42 : decode cX10_prime 42 = .ok (.iconst 1, 1) := by decide +kernel
theorem dX10_prime_43 : decode cX10_prime 43 = .ok (.isub, 1) := by decide +kernel
theorem dX10_prime_44 : decode cX10_prime 44 = .ok (.ireturn, 1) := by decide +kernel
theorem dX10_race_0 : decode cX10_race 0 = .ok (.aload_n 0, 1) := by decide +kernel
theorem dX10_race_1 : decode cX10_race 1 = .ok (.lload_n 1, 1) := by decide +kernel
theorem dX10_race_2 : decode cX10_race 2 = .ok (.iconst (-1), 1) := by decide +kernel
theorem dX10_race_3 : decode cX10_race 3 = .ok (.iconst 0, 1) := by decide +kernel
theorem dX10_race_4 : decode cX10_race 4 = .ok (.iconst 0, 1) := by decide +kernel
theorem dX10_race_5 : decode cX10_race 5 = .ok (.iconst 0, 1) := by decide +kernel
theorem dX10_race_6 : decode cX10_race 6 = .ok (.iconst 1, 1) := by decide +kernel
theorem dX10_race_7 : decode cX10_race 7 = .ok (.invokevirtual 239, 3) := by decide +kernel
theorem dX10_race_10 : decode cX10_race 10 = .ok (.ifCond .ne 5, 3) := by decide +kernel
theorem dX10_race_13 : decode cX10_race 13 = .ok (.iconst (-1), 1) := by decide +kernel
theorem dX10_race_14 : decode cX10_race 14 = .ok (.ireturn, 1) := by decide +kernel
theorem dX10_race_15 : decode cX10_race 15 = .ok (.aload_n 0, 1) := by decide +kernel
theorem dX10_race_16 : decode cX10_race 16 = .ok (.iconst 1, 1) := by decide +kernel
theorem dX10_race_17 : decode cX10_race 17 = .ok (.putfield 243, 3) := by decide +kernel
theorem dX10_race_20 : decode cX10_race 20 = .ok (.aload_n 0, 1) := by decide +kernel
theorem dX10_race_21 : decode cX10_race 21 = .ok (.iconst 0, 1) := by decide +kernel
theorem dX10_race_22 : decode cX10_race 22 = .ok (.putfield 247, 3) := by decide +kernel
theorem dX10_race_25 : decode cX10_race 25 = .ok (.aload_n 0, 1) := by decide +kernel
theorem dX10_race_26 : decode cX10_race 26 = .ok (.aload_n 0, 1) := by decide +kernel
theorem dX10_race_27 : decode cX10_race 27 = .ok (.getfield 213, 3) := by decide +kernel
theorem dX10_race_30 : decode cX10_race 30 = .ok (.putfield 250, 3) := by decide +kernel
theorem dX10_race_33 : decode cX10_race 33 = .ok (.aload_n 0, 1) := by decide +kernel
theorem dX10_race_34 : decode cX10_race 34 = .ok (.aload_n 0, 1) := by decide +kernel
theorem dX10_race_35 : decode cX10_race 35 = .ok (.getfield 133, 3) := by decide +kernel
theorem dX10_race_38 : decode cX10_race 38 = .ok (.putfield 253, 3) := by decide +kernel
theorem dX10_race_41 : decode cX10_race 41 = .ok (.iconst 0, 1) := by decide +kernel
theorem dX10_race_42 : decode cX10_race 42 = .ok (.istore_n 3, 1) := by decide +kernel
theorem dX10_race_43 : decode cX10_race 43 = .ok (.iload_n 3, 1) := by decide +kernel
theorem dX10_race_44 : decode cX10_race 44 = .ok (.bipush 15, 2) := by decide +kernel
theorem dX10_race_46 : decode cX10_race 46 = .ok (.if_icmp .ge 16, 3) := by decide +kernel
theorem dX10_race_49 : decode cX10_race 49 = .ok (.aload_n 0, 1) := by decide +kernel
theorem dX10_race_50 : decode cX10_race 50 = .ok (.getfield 111, 3) := by decide +kernel
theorem dX10_race_53 : decode cX10_race 53 = .ok (.iload_n 3, 1) := by decide +kernel
theorem dX10_race_54 : decode cX10_race 54 = .ok (.iconst (-1), 1) := by decide +kernel
theorem dX10_race_55 : decode cX10_race 55 = .ok (.iastore, 1) := by decide +kernel
theorem dX10_race_56 : decode cX10_race 56 = .ok (.iinc 3 1, 3) := by decide +kernel
theorem dX10_race_59 : decode cX10_race 59 = .ok (.goto (-16), 3) := by decide +kernel
theorem dX10_race_62 : decode cX10_race 62 = .ok (.iconst 0, 1) := by decide +kernel
theorem dX10_race_63 : decode cX10_race 63 = .ok (.istore_n 3, 1) := by decide +kernel
theorem dX10_race_64 : decode cX10_race 64 = .ok (.iload_n 3, 1) := by decide +kernel
theorem dX10_race_65 : decode cX10_race 65 = .ok (.aload_n 0, 1) := by decide +kernel
theorem dX10_race_66 : decode cX10_race 66 = .ok (.getfield 123, 3) := by decide +kernel
theorem dX10_race_69 : decode cX10_race 69 = .ok (.if_icmp .ge 220, 3) := by decide +kernel
theorem dX10_race_72 : decode cX10_race 72 = .ok (.aload_n 0, 1) := by decide +kernel
theorem dX10_race_73 : decode cX10_race 73 = .ok (.getfield 105, 3) := by decide +kernel
theorem dX10_race_76 : decode cX10_race 76 = .ok (.iload_n 3, 1) := by decide +kernel
theorem dX10_race_77 : decode cX10_race 77 = .ok (.aload_n 0, 1) := by decide +kernel
theorem dX10_race_78 : decode cX10_race 78 = .ok (.getfield 59, 3) := by decide +kernel
theorem dX10_race_81 : decode cX10_race 81 = .ok (.iload_n 3, 1) := by decide +kernel
theorem dX10_race_82 : decode cX10_race 82 = .ok (.baload, 1) := by decide +kernel
theorem dX10_race_83 : decode cX10_race 83 = .ok (.bastore, 1) := by decide +kernel
theorem dX10_race_84 : decode cX10_race 84 = .ok (.aload_n 0, 1) := by decide +kernel
theorem dX10_race_85 : decode cX10_race 85 = .ok (.getfield 108, 3) := by decide +kernel
theorem dX10_race_88 : decode cX10_race 88 = .ok (.bipush 8, 2) := by decide +kernel
theorem dX10_race_90 : decode cX10_race 90 = .ok (.iload_n 3, 1) := by decide +kernel
theorem dX10_race_91 : decode cX10_race 91 = .ok (.imul, 1) := by decide +kernel
theorem dX10_race_92 : decode cX10_race 92 = .ok (.aload_n 0, 1) := by decide +kernel
theorem dX10_race_93 : decode cX10_race 93 = .ok (.getfield 75, 3) := by decide +kernel
theorem dX10_race_96 : decode cX10_race 96 = .ok (.iload_n 3, 1) := by decide +kernel
theorem dX10_race_97 : decode cX10_race 97 = .ok (.iaload, 1) := by decide +kernel
theorem dX10_race_98 : decode cX10_race 98 = .ok (.iconst (-1), 1) := by decide +kernel
theorem dX10_race_99 : decode cX10_race 99 = .ok (.if_icmp .eq 7, 3) := by decide +kernel
theorem dX10_race_102 : decode cX10_race 102 = .ok (.iconst 1, 1) := by decide +kernel
theorem dX10_race_103 : decode cX10_race 103 = .ok (.goto 4, 3) := by decide +kernel
theorem dX10_race_106 : decode cX10_race 106 = .ok (.iconst 0, 1) := by decide +kernel
theorem dX10_race_107 : decode cX10_race 107 = .ok (.iastore, 1) := by decide +kernel
theorem dX10_race_108 : decode cX10_race 108 = .ok (.aload_n 0, 1) := by decide +kernel
theorem dX10_race_109 : decode cX10_race 109 = .ok (.getfield 108, 3) := by decide +kernel
theorem dX10_race_112 : decode cX10_race 112 = .ok (.bipush 8, 2) := by decide +kernel
theorem dX10_race_114 : decode cX10_race 114 = .ok (.iload_n 3, 1) := by decide +kernel
theorem dX10_race_115 : decode cX10_race 115 = .ok (.imul, 1) := by decide +kernel
theorem dX10_race_116 : decode cX10_race 116 = .ok (.iconst 1, 1) := by decide +kernel
theorem dX10_race_117 : decode cX10_race 117 = .ok (.iadd, 1) := by decide +kernel
theorem dX10_race_118 : decode cX10_race 118 = .ok (.aload_n 0, 1) := by decide +kernel
theorem dX10_race_119 : decode cX10_race 119 = .ok (.getfield 75, 3) := by decide +kernel
theorem dX10_race_122 : decode cX10_race 122 = .ok (.iload_n 3, 1) := by decide +kernel
theorem dX10_race_123 : decode cX10_race 123 = .ok (.iaload, 1) := by decide +kernel
theorem dX10_race_124 : decode cX10_race 124 = .ok (.iastore, 1) := by decide +kernel
theorem dX10_race_125 : decode cX10_race 125 = .ok (.aload_n 0, 1) := by decide +kernel
theorem dX10_race_126 : decode cX10_race 126 = .ok (.getfield 108, 3) := by decide +kernel
theorem dX10_race_129 : decode cX10_race 129 = .ok (.bipush 8, 2) := by decide +kernel
theorem dX10_race_131 : decode cX10_race 131 = .ok (.iload_n 3, 1) := by decide +kernel
theorem dX10_race_132 : decode cX10_race 132 = .ok (.imul, 1) := by decide +kernel
theorem dX10_race_133 : decode cX10_race 133 = .ok (.iconst 2, 1) := by decide +kernel
theorem dX10_race_134 : decode cX10_race 134 = .ok (.iadd, 1) := by decide +kernel
theorem dX10_race_135 : decode cX10_race 135 = .ok (.aload_n 0, 1) := by decide +kernel
theorem dX10_race_136 : decode cX10_race 136 = .ok (.iload_n 3, 1) := by decide +kernel
theorem dX10_race_137 : decode cX10_race 137 = .ok (.invokevirtual 256, 3) := by decide +kernel
theorem dX10_race_140 : decode cX10_race 140 = .ok (.iastore, 1) := by decide +kernel
theorem dX10_race_141 : decode cX10_race 141 = .ok (.aload_n 0, 1) := by decide +kernel
theorem dX10_race_142 : decode cX10_race 142 = .ok (.getfield 108, 3) := by decide +kernel
theorem dX10_race_145 : decode cX10_race 145 = .ok (.bipush 8, 2) := by decide +kernel
theorem dX10_race_147 : decode cX10_race 147 = .ok (.iload_n 3, 1) := by decide +kernel
theorem dX10_race_148 : decode cX10_race 148 = .ok (.imul, 1) := by decide +kernel
theorem dX10_race_149 : decode cX10_race 149 = .ok (.iconst 3, 1) := by decide +kernel
theorem dX10_race_150 : decode cX10_race 150 = .ok (.iadd, 1) := by decide +kernel
theorem dX10_race_151 : decode cX10_race 151 = .ok (.aload_n 0, 1) := by decide +kernel
theorem dX10_race_152 : decode cX10_race 152 = .ok (.getfield 66, 3) := by decide +kernel
theorem dX10_race_155 : decode cX10_race 155 = .ok (.iload_n 3, 1) := by decide +kernel
theorem dX10_race_156 : decode cX10_race 156 = .ok (.iaload, 1) := by decide +kernel
theorem dX10_race_157 : decode cX10_race 157 = .ok (.iastore, 1) := by decide +kernel
theorem dX10_race_158 : decode cX10_race 158 = .ok (.aload_n 0, 1) := by decide +kernel
theorem dX10_race_159 : decode cX10_race 159 = .ok (.getfield 108, 3) := by decide +kernel
theorem dX10_race_162 : decode cX10_race 162 = .ok (.bipush 8, 2) := by decide +kernel
theorem dX10_race_164 : decode cX10_race 164 = .ok (.iload_n 3, 1) := by decide +kernel
theorem dX10_race_165 : decode cX10_race 165 = .ok (.imul, 1) := by decide +kernel
theorem dX10_race_166 : decode cX10_race 166 = .ok (.iconst 4, 1) := by decide +kernel
theorem dX10_race_167 : decode cX10_race 167 = .ok (.iadd, 1) := by decide +kernel
theorem dX10_race_168 : decode cX10_race 168 = .ok (.aload_n 0, 1) := by decide +kernel
theorem dX10_race_169 : decode cX10_race 169 = .ok (.getfield 69, 3) := by decide +kernel
theorem dX10_race_172 : decode cX10_race 172 = .ok (.iload_n 3, 1) := by decide +kernel
theorem dX10_race_173 : decode cX10_race 173 = .ok (.iaload, 1) := by decide +kernel
theorem dX10_race_174 : decode cX10_race 174 = .ok (.iastore, 1) := by decide +kernel
theorem dX10_race_175 : decode cX10_race 175 = .ok (.aload_n 0, 1) := by decide +kernel
theorem dX10_race_176 : decode cX10_race 176 = .ok (.getfield 108, 3) := by decide +kernel
theorem dX10_race_179 : decode cX10_race 179 = .ok (.bipush 8, 2) := by decide +kernel
theorem dX10_race_181 : decode cX10_race 181 = .ok (.iload_n 3, 1) := by decide +kernel
theorem dX10_race_182 : decode cX10_race 182 = .ok (.imul, 1) := by decide +kernel
theorem dX10_race_183 : decode cX10_race 183 = .ok (.iconst 5, 1) := by decide +kernel
theorem dX10_race_184 : decode cX10_race 184 = .ok (.iadd, 1) := by decide +kernel
theorem dX10_race_185 : decode cX10_race 185 = .ok (.aload_n 0, 1) := by decide +kernel
theorem dX10_race_186 : decode cX10_race 186 = .ok (.iload_n 3, 1) := by decide +kernel
theorem dX10_race_187 : decode cX10_race 187 = .ok (.aload_n 0, 1) := by decide +kernel
theorem dX10_race_188 : decode cX10_race 188 = .ok (.getfield 133, 3) := by decide +kernel
theorem dX10_race_191 : decode cX10_race 191 = .ok (.invokevirtual 259, 3) := by decide +kernel
theorem dX10_race_194 : decode cX10_race 194 = .ok (.iastore, 1) := by decide +kernel
theorem dX10_race_195 : decode cX10_race 195 = .ok (.aload_n 0, 1) := by decide +kernel
theorem dX10_race_196 : decode cX10_race 196 = .ok (.getfield 108, 3) := by decide +kernel
theorem dX10_race_199 : decode cX10_race 199 = .ok (.bipush 8, 2) := by decide +kernel
theorem dX10_race_201 : decode cX10_race 201 = .ok (.iload_n 3, 1) := by decide +kernel
theorem dX10_race_202 : decode cX10_race 202 = .ok (.imul, 1) := by decide +kernel
theorem dX10_race_203 : decode cX10_race 203 = .ok (.bipush 6, 2) := by decide +kernel
theorem dX10_race_205 : decode cX10_race 205 = .ok (.iadd, 1) := by decide +kernel
theorem dX10_race_206 : decode cX10_race 206 = .ok (.aload_n 0, 1) := by decide +kernel
theorem dX10_race_207 : decode cX10_race 207 = .ok (.getfield 78, 3) := by decide +kernel
theorem dX10_race_210 : decode cX10_race 210 = .ok (.iload_n 3, 1) := by decide +kernel
theorem dX10_race_211 : decode cX10_race 211 = .ok (.iaload, 1) := by decide +kernel
theorem dX10_race_212 : decode cX10_race 212 = .ok (.iastore, 1) := by decide +kernel
theorem dX10_race_213 : decode cX10_race 213 = .ok (.aload_n 0, 1) := by decide +kernel
theorem dX10_race_214 : decode cX10_race 214 = .ok (.getfield 108, 3) := by decide +kernel
theorem dX10_race_217 : decode cX10_race 217 = .ok (.bipush 8, 2) := by decide +kernel
theorem dX10_race_219 : decode cX10_race 219 = .ok (.iload_n 3, 1) := by decide +kernel
theorem dX10_race_220 : decode cX10_race 220 = .ok (.imul, 1) := by decide +kernel
theorem dX10_race_221 : decode cX10_race 221 = .ok (.bipush 7, 2) := by decide +kernel
theorem dX10_race_223 : decode cX10_race 223 = .ok (.iadd, 1) := by decide +kernel
theorem dX10_race_224 : decode cX10_race 224 = .ok (.aload_n 0, 1) := by decide +kernel
theorem dX10_race_225 : decode cX10_race 225 = .ok (.getfield 81, 3) := by decide +kernel
theorem dX10_race_228 : decode cX10_race 228 = .ok (.iload_n 3, 1) := by decide +kernel
theorem dX10_race_229 : decode cX10_race 229 = .ok (.iaload, 1) := by decide +kernel
theorem dX10_race_230 : decode cX10_race 230 = .ok (.iastore, 1) := by decide +kernel
theorem dX10_race_231 : decode cX10_race 231 = .ok (.iconst 0, 1) := by decide +kernel
theorem dX10_race_232 : decode cX10_race 232 = .ok (.istore 4, 2) := by decide +kernel
theorem dX10_race_234 : decode cX10_race 234 = .ok (.iload 4, 2) := by decide +kernel
theorem dX10_race_236 : decode cX10_race 236 = .ok (.aload_n 0, 1) := by decide +kernel
theorem dX10_race_237 : decode cX10_race 237 = .ok (.getfield 133, 3) := by decide +kernel
theorem dX10_race_240 : decode cX10_race 240 = .ok (.if_icmp .ge 43, 3) := by decide +kernel
theorem dX10_race_243 : decode cX10_race 243 = .ok (.aload_n 0, 1) := by decide +kernel
theorem dX10_race_244 : decode cX10_race 244 = .ok (.iload_n 3, 1) := by decide +kernel
theorem dX10_race_245 : decode cX10_race 245 = .ok (.iload 4, 2) := by decide +kernel
theorem dX10_race_247 : decode cX10_race 247 = .ok (.invokevirtual 236, 3) := by decide +kernel
theorem dX10_race_250 : decode cX10_race 250 = .ok (.istore 5, 2) := by decide +kernel
theorem dX10_race_252 : decode cX10_race 252 = .ok (.iload 5, 2) := by decide +kernel
theorem dX10_race_254 : decode cX10_race 254 = .ok (.iconst 1, 1) := by decide +kernel
theorem dX10_race_255 : decode cX10_race 255 = .ok (.iconst 3, 1) := by decide +kernel
theorem dX10_race_256 : decode cX10_race 256 = .ok (.invokestatic 126, 3) := by decide +kernel
theorem dX10_race_259 : decode cX10_race 259 = .ok (.ifCond .eq 18, 3) := by decide +kernel
theorem dX10_race_262 : decode cX10_race 262 = .ok (.aload_n 0, 1) := by decide +kernel
theorem dX10_race_263 : decode cX10_race 263 = .ok (.getfield 111, 3) := by decide +kernel
theorem dX10_race_266 : decode cX10_race 266 = .ok (.iconst 3, 1) := by decide +kernel
theorem dX10_race_267 : decode cX10_race 267 = .ok (.iload 4, 2) := by decide +kernel
theorem dX10_race_269 : decode cX10_race 269 = .ok (.imul, 1) := by decide +kernel
theorem dX10_race_270 : decode cX10_race 270 = .ok (.iload 5, 2) := by decide +kernel
theorem dX10_race_272 : decode cX10_race 272 = .ok (.iadd, 1) := by decide +kernel
theorem dX10_race_273 : decode cX10_race 273 = .ok (.iconst 1, 1) := by decide +kernel
theorem dX10_race_274 : decode cX10_race 274 = .ok (.isub, 1) := by decide +kernel
theorem dX10_race_275 : decode cX10_race 275 = .ok (.iload_n 3, 1) := by decide +kernel
theorem dX10_race_276 : decode cX10_race 276 = .ok (.iastore, 1) := by decide +kernel
theorem dX10_race_277 : decode cX10_race 277 = .ok (.iinc 4 1, 3) := by decide +kernel
theorem dX10_race_280 : decode cX10_race 280 = .ok (.goto (-46), 3) := by decide +kernel
theorem dX10_race_283 : decode cX10_race 283 = .ok (.iinc 3 1, 3) := by decide +kernel
theorem dX10_race_286 : decode cX10_race 286 = .ok (.goto (-222), 3) := by decide +kernel
theorem dX10_race_289 : decode cX10_race 289 = .ok (.aload_n 0, 1) := by decide +kernel
theorem dX10_race_290 : decode cX10_race 290 = .ok (.getfield 123, 3) := by decide +kernel
theorem dX10_race_293 : decode cX10_race 293 = .ok (.istore_n 3, 1) := by decide +kernel
theorem dX10_race_294 : decode cX10_race 294 = .ok (.iload_n 3, 1) := by decide +kernel
theorem dX10_race_295 : decode cX10_race 295 = .ok (.bipush 20, 2) := by decide +kernel
theorem dX10_race_297 : decode cX10_race 297 = .ok (.if_icmp .ge 16, 3) := by decide +kernel
theorem dX10_race_300 : decode cX10_race 300 = .ok (.aload_n 0, 1) := by decide +kernel
theorem dX10_race_301 : decode cX10_race 301 = .ok (.getfield 105, 3) := by decide +kernel
theorem dX10_race_304 : decode cX10_race 304 = .ok (.iload_n 3, 1) := by decide +kernel
theorem dX10_race_305 : decode cX10_race 305 = .ok (.iconst 0, 1) := by decide +kernel
theorem dX10_race_306 : decode cX10_race 306 = .ok (.bastore, 1) := by decide +kernel
theorem dX10_race_307 : decode cX10_race 307 = .ok (.iinc 3 1, 3) := by decide +kernel
theorem dX10_race_310 : decode cX10_race 310 = .ok (.goto (-16), 3) := by decide +kernel
theorem dX10_race_313 : decode cX10_race 313 = .ok (.aload_n 0, 1) := by decide +kernel
theorem dX10_race_314 : decode cX10_race 314 = .ok (.getfield 213, 3) := by decide +kernel
theorem dX10_race_317 : decode cX10_race 317 = .ok (.ireturn, 1) := by decide +kernel
theorem dX10_ride_0 : decode cX10_ride 0 = .ok (.aload_n 0, 1) := by decide +kernel
theorem dX10_ride_1 : decode cX10_ride 1 = .ok (.iload_n 2, 1) := by decide +kernel
theorem dX10_ride_2 : decode cX10_ride 2 = .ok (.iload_n 1, 1) := by decide +kernel
theorem dX10_ride_3 : decode cX10_ride 3 = .ok (.iload_n 3, 1) := by decide +kernel
theorem dX10_ride_4 : decode cX10_ride 4 = .ok (.invokevirtual 194, 3) := by decide +kernel
theorem dX10_ride_7 : decode cX10_ride 7 = .ok (.istore 4, 2) := by decide +kernel
theorem dX10_ride_9 : decode cX10_ride 9 = .ok (.iload 4, 2) := by decide +kernel
theorem dX10_ride_11 : decode cX10_ride 11 = .ok (.ifCond .le 32, 3) := by decide +kernel
theorem dX10_ride_14 : decode cX10_ride 14 = .ok (.aload_n 0, 1) := by decide +kernel
theorem dX10_ride_15 : decode cX10_ride 15 = .ok (.iload_n 1, 1) := by decide +kernel
theorem dX10_ride_16 : decode cX10_ride 16 = .ok (.iload 4, 2) := by decide +kernel
theorem dX10_ride_18 : decode cX10_ride 18 = .ok (.invokevirtual 197, 3) := by decide +kernel
theorem dX10_ride_21 : decode cX10_ride 21 = .ok (.aload_n 0, 1) := by decide +kernel
theorem dX10_ride_22 : decode cX10_ride 22 = .ok (.getfield 23, 3) := by decide +kernel
theorem dX10_ride_25 : decode cX10_ride 25 = .ok (.iload_n 1, 1) := by decide +kernel
theorem dX10_ride_26 : decode cX10_ride 26 = .ok (.iaload, 1) := by decide +kernel
theorem dX10_ride_27 : decode cX10_ride 27 = .ok (.isub, 1) := by decide +kernel
theorem dX10_ride_28 : decode cX10_ride 28 = .ok (.aload_n 0, 1) := by decide +kernel
theorem dX10_ride_29 : decode cX10_ride 29 = .ok (.getfield 69, 3) := by decide +kernel
theorem dX10_ride_32 : decode cX10_ride 32 = .ok (.iload_n 1, 1) := by decide +kernel
theorem dX10_ride_33 : decode cX10_ride 33 = .ok (.iaload, 1) := by decide +kernel
theorem dX10_ride_34 : decode cX10_ride 34 = .ok (.if_icmp .le 9, 3) := by decide +kernel
theorem dX10_ride_37 : decode cX10_ride 37 = .ok (.iinc 4 (-1), 3) := by decide +kernel
theorem dX10_ride_40 : decode cX10_ride 40 = .ok (.goto (-31), 3) := by decide +kernel
theorem dX10_ride_43 : decode cX10_ride 43 = .ok (.aload_n 0, 1) := by decide +kernel
theorem dX10_ride_44 : decode cX10_ride 44 = .ok (.iload_n 1, 1) := by decide +kernel
theorem dX10_ride_45 : decode cX10_ride 45 = .ok (.iload 4, 2) := by decide +kernel
theorem dX10_ride_47 : decode cX10_ride 47 = .ok (.invokevirtual 197, 3) := by decide +kernel
theorem dX10_ride_50 : decode cX10_ride 50 = .ok (.istore 5, 2) := by decide +kernel
theorem dX10_ride_52 : decode cX10_ride 52 = .ok (.aload_n 0, 1) := by decide +kernel
theorem dX10_ride_53 : decode cX10_ride 53 = .ok (.getfield 69, 3) := by decide +kernel
theorem dX10_ride_56 : decode cX10_ride 56 = .ok (.iload_n 1, 1) := by decide +kernel
theorem dX10_ride_57 : decode cX10_ride 57 = .ok (.iconst 0, 1) := by decide +kernel
theorem dX10_ride_58 : decode cX10_ride 58 = .ok (.aload_n 0, 1) := by decide +kernel
theorem dX10_ride_59 : decode cX10_ride 59 = .ok (.getfield 26, 3) := by decide +kernel
theorem dX10_ride_62 : decode cX10_ride 62 = .ok (.iload_n 1, 1) := by decide +kernel
theorem dX10_ride_63 : decode cX10_ride 63 = .ok (.iaload, 1) := by decide +kernel
theorem dX10_ride_64 : decode cX10_ride 64 = .ok (.aload_n 0, 1) := by decide +kernel
theorem dX10_ride_65 : decode cX10_ride 65 = .ok (.getfield 69, 3) := by decide +kernel
theorem dX10_ride_68 : decode cX10_ride 68 = .ok (.iload_n 1, 1) := by decide +kernel
theorem dX10_ride_69 : decode cX10_ride 69 = .ok (.iaload, 1) := by decide +kernel
theorem dX10_ride_70 : decode cX10_ride 70 = .ok (.iload 5, 2) := by decide +kernel
theorem dX10_ride_72 : decode cX10_ride 72 = .ok (.isub, 1) := by decide +kernel
theorem dX10_ride_73 : decode cX10_ride 73 = .ok (.aload_n 0, 1) := by decide +kernel
theorem dX10_ride_74 : decode cX10_ride 74 = .ok (.getfield 23, 3) := by decide +kernel
theorem dX10_ride_77 : decode cX10_ride 77 = .ok (.iload_n 1, 1) := by decide +kernel
theorem dX10_ride_78 : decode cX10_ride 78 = .ok (.iaload, 1) := by decide +kernel
theorem dX10_ride_79 : decode cX10_ride 79 = .ok (.iadd, 1) := by decide +kernel
theorem dX10_ride_80 : decode cX10_ride 80 = .ok (.invokestatic 200, 3) := by decide +kernel
theorem dX10_ride_83 : decode cX10_ride 83 = .ok (.invokestatic 188, 3) := by decide +kernel
theorem dX10_ride_86 : decode cX10_ride 86 = .ok (.iastore, 1) := by decide +kernel
theorem dX10_ride_87 : decode cX10_ride 87 = .ok (.aload_n 0, 1) := by decide +kernel
theorem dX10_ride_88 : decode cX10_ride 88 = .ok (.getfield 81, 3) := by decide +kernel
theorem dX10_ride_91 : decode cX10_ride 91 = .ok (.iload_n 1, 1) := by decide +kernel
theorem dX10_ride_92 : decode cX10_ride 92 = .ok (.dup2, 1) := by decide +kernel
theorem dX10_ride_93 : decode cX10_ride 93 = .ok (.iaload, 1) := by decide +kernel
theorem dX10_ride_94 : decode cX10_ride 94 = .ok (.iload 5, 2) := by decide +kernel
theorem dX10_ride_96 : decode cX10_ride 96 = .ok (.iadd, 1) := by decide +kernel
theorem dX10_ride_97 : decode cX10_ride 97 = .ok (.iastore, 1) := by decide +kernel
theorem dX10_ride_98 : decode cX10_ride 98 = .ok (.bipush 100, 2) := by decide +kernel
theorem dX10_ride_100 : decode cX10_ride 100 = .ok (.sipush 300, 3) := by decide +kernel
theorem dX10_ride_103 : decode cX10_ride 103 = .ok (.bipush 40, 2) := by decide +kernel
theorem dX10_ride_105 : decode cX10_ride 105 = .ok (.iload 4, 2) := by decide +kernel
theorem dX10_ride_107 : decode cX10_ride 107 = .ok (.imul, 1) := by decide +kernel
theorem dX10_ride_108 : decode cX10_ride 108 = .ok (.iadd, 1) := by decide +kernel
theorem dX10_ride_109 : decode cX10_ride 109 = .ok (.bipush 15, 2) := by decide +kernel
theorem dX10_ride_111 : decode cX10_ride 111 = .ok (.aload_n 0, 1) := by decide +kernel
theorem dX10_ride_112 : decode cX10_ride 112 = .ok (.getfield 32, 3) := by decide +kernel
theorem dX10_ride_115 : decode cX10_ride 115 = .ok (.aload_n 0, 1) := by decide +kernel
theorem dX10_ride_116 : decode cX10_ride 116 = .ok (.getfield 96, 3) := by decide +kernel
theorem dX10_ride_119 : decode cX10_ride 119 = .ok (.iload_n 1, 1) := by decide +kernel
theorem dX10_ride_120 : decode cX10_ride 120 = .ok (.iaload, 1) := by decide +kernel
theorem dX10_ride_121 : decode cX10_ride 121 = .ok (.sipush 1000, 3) := by decide +kernel
theorem dX10_ride_124 : decode cX10_ride 124 = .ok (.idiv, 1) := by decide +kernel
theorem dX10_ride_125 : decode cX10_ride 125 = .ok (.iaload, 1) := by decide +kernel
theorem dX10_ride_126 : decode cX10_ride 126 = .ok (.imul, 1) := by decide +kernel
theorem dX10_ride_127 : decode cX10_ride 127 = .ok (.isub, 1) := by decide +kernel
theorem dX10_ride_128 : decode cX10_ride 128 = .ok (.invokestatic 188, 3) := by decide +kernel
theorem dX10_ride_131 : decode cX10_ride 131 = .ok (.istore 6, 2) := by decide +kernel
theorem dX10_ride_133 : decode cX10_ride 133 = .ok (.sipush 1000, 3) := by decide +kernel
theorem dX10_ride_136 : decode cX10_ride 136 = .ok (.aload_n 0, 1) := by decide +kernel
theorem dX10_ride_137 : decode cX10_ride 137 = .ok (.getfield 9, 3) := by decide +kernel
theorem dX10_ride_140 : decode cX10_ride 140 = .ok (.imul, 1) := by decide +kernel
theorem dX10_ride_141 : decode cX10_ride 141 = .ok (.istore 7, 2) := by decide +kernel
theorem dX10_ride_143 : decode cX10_ride 143 = .ok (.aload_n 0, 1) := by decide +kernel
theorem dX10_ride_144 : decode cX10_ride 144 = .ok (.getfield 96, 3) := by decide +kernel
theorem dX10_ride_147 : decode cX10_ride 147 = .ok (.iload_n 1, 1) := by decide +kernel
theorem dX10_ride_148 : decode cX10_ride 148 = .ok (.iaload, 1) := by decide +kernel
theorem dX10_ride_149 : decode cX10_ride 149 = .ok (.iload 6, 2) := by decide +kernel
theorem dX10_ride_151 : decode cX10_ride 151 = .ok (.iadd, 1) := by decide +kernel
theorem dX10_ride_152 : decode cX10_ride 152 = .ok (.istore 8, 2) := by decide +kernel
theorem dX10_ride_154 : decode cX10_ride 154 = .ok (.iload 8, 2) := by decide +kernel
theorem dX10_ride_156 : decode cX10_ride 156 = .ok (.iload 7, 2) := by decide +kernel
theorem dX10_ride_158 : decode cX10_ride 158 = .ok (.invokestatic 200, 3) := by decide +kernel
theorem dX10_ride_161 : decode cX10_ride 161 = .ok (.istore 9, 2) := by decide +kernel
theorem dX10_ride_163 : decode cX10_ride 163 = .ok (.iconst 0, 1) := by decide +kernel
theorem dX10_ride_164 : decode cX10_ride 164 = .ok (.istore 10, 2) := by decide +kernel
theorem dX10_ride_166 : decode cX10_ride 166 = .ok (.aload_n 0, 1) := by decide +kernel
theorem dX10_ride_167 : decode cX10_ride 167 = .ok (.getfield 13, 3) := by decide +kernel
theorem dX10_ride_170 : decode cX10_ride 170 = .ok (.iconst (-1), 1) := by decide +kernel
theorem dX10_ride_171 : decode cX10_ride 171 = .ok (.if_icmp .eq 70, 3) := by decide +kernel
theorem dX10_ride_174 : decode cX10_ride 174 = .ok (.aload_n 0, 1) := by decide +kernel
theorem dX10_ride_175 : decode cX10_ride 175 = .ok (.getfield 96, 3) := by decide +kernel
theorem dX10_ride_178 : decode cX10_ride 178 = .ok (.iload_n 1, 1) := by decide +kernel
theorem dX10_ride_179 : decode cX10_ride 179 = .ok (.iaload, 1) := by decide +kernel
theorem dX10_ride_180 : decode cX10_ride 180 = .ok (.aload_n 0, 1) := by decide +kernel
theorem dX10_ride_181 : decode cX10_ride 181 = .ok (.getfield 13, 3) := by decide +kernel
theorem dX10_ride_184 : decode cX10_ride 184 = .ok (.if_icmp .ge 57, 3) := by decide +kernel
theorem dX10_ride_187 : decode cX10_ride 187 = .ok (.iload 8, 2) := by decide +kernel
theorem dX10_ride_189 : decode cX10_ride 189 = .ok (.aload_n 0, 1) := by decide +kernel
theorem dX10_ride_190 : decode cX10_ride 190 = .ok (.getfield 13, 3) := by decide +kernel
theorem dX10_ride_193 : decode cX10_ride 193 = .ok (.if_icmp .lt 48, 3) := by decide +kernel
theorem dX10_ride_196 : decode cX10_ride 196 = .ok (.aload_n 0, 1) := by decide +kernel
theorem dX10_ride_197 : decode cX10_ride 197 = .ok (.aload_n 0, 1) := by decide +kernel
theorem dX10_ride_198 : decode cX10_ride 198 = .ok (.getfield 203, 3) := by decide +kernel
theorem dX10_ride_201 : decode cX10_ride 201 = .ok (.ldc2_w 207, 3) := by decide +kernel
theorem dX10_ride_204 : decode cX10_ride 204 = .ok (.lmul, 1) := by decide +kernel
theorem dX10_ride_205 : decode cX10_ride 205 = .ok (.ldc2_w 209, 3) := by decide +kernel
theorem dX10_ride_208 : decode cX10_ride 208 = .ok (.ladd, 1) := by decide +kernel
theorem dX10_ride_209 : decode cX10_ride 209 = .ok (.putfield 203, 3) := by decide +kernel
theorem dX10_ride_212 : decode cX10_ride 212 = .ok (.aload_n 0, 1) := by decide +kernel
theorem dX10_ride_213 : decode cX10_ride 213 = .ok (.getfield 203, 3) := by decide +kernel
theorem dX10_ride_216 : decode cX10_ride 216 = .ok (.bipush 33, 2) := by decide +kernel
theorem dX10_ride_218 : decode cX10_ride 218 = .ok (.lushr, 1) := by decide +kernel
theorem dX10_ride_219 : decode cX10_ride 219 = .ok (.ldc2_w 211, 3) := by decide +kernel
theorem dX10_ride_222 : decode cX10_ride 222 = .ok (.lrem, 1) := by decide +kernel
theorem dX10_ride_223 : decode cX10_ride 223 = .ok (.aload_n 0, 1) := by decide +kernel
theorem dX10_ride_224 : decode cX10_ride 224 = .ok (.getfield 140, 3) := by decide +kernel
theorem dX10_ride_227 : decode cX10_ride 227 = .ok (.i2l, 1) := by decide +kernel
theorem dX10_ride_228 : decode cX10_ride 228 = .ok (.lcmp, 1) := by decide +kernel
theorem dX10_ride_229 : decode cX10_ride 229 = .ok (.ifCond .ge 12, 3) := by decide +kernel
theorem dX10_ride_232 : decode cX10_ride 232 = .ok (.iconst 1, 1) := by decide +kernel
theorem dX10_ride_233 : decode cX10_ride 233 = .ok (.istore 10, 2) := by decide +kernel
theorem dX10_ride_235 : decode cX10_ride 235 = .ok (.aload_n 0, 1) := by decide +kernel
theorem dX10_ride_236 : decode cX10_ride 236 = .ok (.getfield 13, 3) := by decide +kernel
theorem dX10_ride_239 : decode cX10_ride 239 = .ok (.istore 9, 2) := by decide +kernel
theorem dX10_ride_241 : decode cX10_ride 241 = .ok (.iconst 0, 1) := by decide +kernel
theorem dX10_ride_242 : decode cX10_ride 242 = .ok (.istore 11, 2) := by decide +kernel
theorem dX10_ride_244 : decode cX10_ride 244 = .ok (.iload 11, 2) := by decide +kernel
theorem dX10_ride_246 : decode cX10_ride 246 = .ok (.aload_n 0, 1) := by decide +kernel
theorem dX10_ride_247 : decode cX10_ride 247 = .ok (.getfield 133, 3) := by decide +kernel
theorem dX10_ride_250 : decode cX10_ride 250 = .ok (.if_icmp .ge 83, 3) := by decide +kernel
theorem dX10_ride_253 : decode cX10_ride 253 = .ok (.aload_n 0, 1) := by decide +kernel
theorem dX10_ride_254 : decode cX10_ride 254 = .ok (.getfield 96, 3) := by decide +kernel
theorem dX10_ride_257 : decode cX10_ride 257 = .ok (.iload_n 1, 1) := by decide +kernel
theorem dX10_ride_258 : decode cX10_ride 258 = .ok (.iaload, 1) := by decide +kernel
theorem dX10_ride_259 : decode cX10_ride 259 = .ok (.aload_n 0, 1) := by decide +kernel
theorem dX10_ride_260 : decode cX10_ride 260 = .ok (.getfield 38, 3) := by decide +kernel
theorem dX10_ride_263 : decode cX10_ride 263 = .ok (.iload 11, 2) := by decide +kernel
theorem dX10_ride_265 : decode cX10_ride 265 = .ok (.iaload, 1) := by decide +kernel
theorem dX10_ride_266 : decode cX10_ride 266 = .ok (.if_icmp .ge 61, 3) := by decide +kernel
theorem dX10_ride_269 : decode cX10_ride 269 = .ok (.iload 9, 2) := by decide +kernel
theorem dX10_ride_271 : decode cX10_ride 271 = .ok (.aload_n 0, 1) := by decide +kernel
theorem dX10_ride_272 : decode cX10_ride 272 = .ok (.getfield 38, 3) := by decide +kernel
theorem dX10_ride_275 : decode cX10_ride 275 = .ok (.iload 11, 2) := by decide +kernel
theorem dX10_ride_277 : decode cX10_ride 277 = .ok (.iaload, 1) := by decide +kernel
theorem dX10_ride_278 : decode cX10_ride 278 = .ok (.if_icmp .lt 49, 3) := by decide +kernel
theorem dX10_ride_281 : decode cX10_ride 281 = .ok (.aload_n 0, 1) := by decide +kernel
theorem dX10_ride_282 : decode cX10_ride 282 = .ok (.getfield 84, 3) := by decide +kernel
theorem dX10_ride_285 : decode cX10_ride 285 = .ok (.iconst 5, 1) := by decide +kernel
theorem dX10_ride_286 : decode cX10_ride 286 = .ok (.iload_n 1, 1) := by decide +kernel
theorem dX10_ride_287 : decode cX10_ride 287 = .ok (.imul, 1) := by decide +kernel
theorem dX10_ride_288 : decode cX10_ride 288 = .ok (.iload 11, 2) := by decide +kernel
theorem dX10_ride_290 : decode cX10_ride 290 = .ok (.iadd, 1) := by decide +kernel
theorem dX10_ride_291 : decode cX10_ride 291 = .ok (.bipush 60, 2) := by decide +kernel
theorem dX10_ride_293 : decode cX10_ride 293 = .ok (.aload_n 0, 1) := by decide +kernel
theorem dX10_ride_294 : decode cX10_ride 294 = .ok (.getfield 213, 3) := by decide +kernel
theorem dX10_ride_297 : decode cX10_ride 297 = .ok (.iconst 1, 1) := by decide +kernel
theorem dX10_ride_298 : decode cX10_ride 298 = .ok (.isub, 1) := by decide +kernel
theorem dX10_ride_299 : decode cX10_ride 299 = .ok (.imul, 1) := by decide +kernel
theorem dX10_ride_300 : decode cX10_ride 300 = .ok (.bipush 60, 2) := by decide +kernel
theorem dX10_ride_302 : decode cX10_ride 302 = .ok (.aload_n 0, 1) := by decide +kernel
theorem dX10_ride_303 : decode cX10_ride 303 = .ok (.getfield 38, 3) := by decide +kernel
theorem dX10_ride_306 : decode cX10_ride 306 = .ok (.iload 11, 2) := by decide +kernel
theorem dX10_ride_308 : decode cX10_ride 308 = .ok (.iaload, 1) := by decide +kernel
theorem dX10_ride_309 : decode cX10_ride 309 = .ok (.aload_n 0, 1) := by decide +kernel
theorem dX10_ride_310 : decode cX10_ride 310 = .ok (.getfield 96, 3) := by decide +kernel
theorem dX10_ride_313 : decode cX10_ride 313 = .ok (.iload_n 1, 1) := by decide +kernel
theorem dX10_ride_314 : decode cX10_ride 314 = .ok (.iaload, 1) := by decide +kernel
theorem dX10_ride_315 : decode cX10_ride 315 = .ok (.isub, 1) := by decide +kernel
theorem dX10_ride_316 : decode cX10_ride 316 = .ok (.imul, 1) := by decide +kernel
theorem dX10_ride_317 : decode cX10_ride 317 = .ok (.iload 6, 2) := by decide +kernel
theorem dX10_ride_319 : decode cX10_ride 319 = .ok (.iadd, 1) := by decide +kernel
theorem dX10_ride_320 : decode cX10_ride 320 = .ok (.iconst 1, 1) := by decide +kernel
theorem dX10_ride_321 : decode cX10_ride 321 = .ok (.isub, 1) := by decide +kernel
theorem dX10_ride_322 : decode cX10_ride 322 = .ok (.iload 6, 2) := by decide +kernel
theorem dX10_ride_324 : decode cX10_ride 324 = .ok (.idiv, 1) := by decide +kernel
theorem dX10_ride_325 : decode cX10_ride 325 = .ok (.iadd, 1) := by decide +kernel
theorem dX10_ride_326 : decode cX10_ride 326 = .ok (.iastore, 1) := by decide +kernel
theorem dX10_ride_327 : decode cX10_ride 327 = .ok (.iinc 11 1, 3) := by decide +kernel
theorem dX10_ride_330 : decode cX10_ride 330 = .ok (.goto (-86), 3) := by decide +kernel
theorem dX10_ride_333 : decode cX10_ride 333 = .ok (.aload_n 0, 1) := by decide +kernel
theorem dX10_ride_334 : decode cX10_ride 334 = .ok (.getfield 66, 3) := by decide +kernel
theorem dX10_ride_337 : decode cX10_ride 337 = .ok (.iload_n 1, 1) := by decide +kernel
theorem dX10_ride_338 : decode cX10_ride 338 = .ok (.iload 9, 2) := by decide +kernel
theorem dX10_ride_340 : decode cX10_ride 340 = .ok (.iastore, 1) := by decide +kernel
theorem dX10_ride_341 : decode cX10_ride 341 = .ok (.iload 10, 2) := by decide +kernel
theorem dX10_ride_343 : decode cX10_ride 343 = .ok (.ifCond .eq 23, 3) := by decide +kernel
theorem dX10_ride_346 : decode cX10_ride 346 = .ok (.aload_n 0, 1) := by decide +kernel
theorem dX10_ride_347 : decode cX10_ride 347 = .ok (.getfield 72, 3) := by decide +kernel
theorem dX10_ride_350 : decode cX10_ride 350 = .ok (.iload_n 1, 1) := by decide +kernel
theorem dX10_ride_351 : decode cX10_ride 351 = .ok (.iconst 3, 1) := by decide +kernel
theorem dX10_ride_352 : decode cX10_ride 352 = .ok (.iastore, 1) := by decide +kernel
theorem dX10_ride_353 : decode cX10_ride 353 = .ok (.aload_n 0, 1) := by decide +kernel
theorem dX10_ride_354 : decode cX10_ride 354 = .ok (.getfield 78, 3) := by decide +kernel
theorem dX10_ride_357 : decode cX10_ride 357 = .ok (.iload_n 1, 1) := by decide +kernel
theorem dX10_ride_358 : decode cX10_ride 358 = .ok (.dup2, 1) := by decide +kernel
theorem dX10_ride_359 : decode cX10_ride 359 = .ok (.iaload, 1) := by decide +kernel
theorem dX10_ride_360 : decode cX10_ride 360 = .ok (.iconst 1, 1) := by decide +kernel
theorem dX10_ride_361 : decode cX10_ride 361 = .ok (.iadd, 1) := by decide +kernel
theorem dX10_ride_362 : decode cX10_ride 362 = .ok (.iastore, 1) := by decide +kernel
theorem dX10_ride_363 : decode cX10_ride 363 = .ok (.goto 46, 3) := by decide +kernel
theorem dX10_ride_366 : decode cX10_ride 366 = .ok (.iload 9, 2) := by decide +kernel
theorem dX10_ride_368 : decode cX10_ride 368 = .ok (.iload 7, 2) := by decide +kernel
theorem dX10_ride_370 : decode cX10_ride 370 = .ok (.if_icmp .ne 39, 3) := by decide +kernel
theorem dX10_ride_373 : decode cX10_ride 373 = .ok (.aload_n 0, 1) := by decide +kernel
theorem dX10_ride_374 : decode cX10_ride 374 = .ok (.getfield 75, 3) := by decide +kernel
theorem dX10_ride_377 : decode cX10_ride 377 = .ok (.iload_n 1, 1) := by decide +kernel
theorem dX10_ride_378 : decode cX10_ride 378 = .ok (.bipush 60, 2) := by decide +kernel
theorem dX10_ride_380 : decode cX10_ride 380 = .ok (.aload_n 0, 1) := by decide +kernel
theorem dX10_ride_381 : decode cX10_ride 381 = .ok (.getfield 213, 3) := by decide +kernel
theorem dX10_ride_384 : decode cX10_ride 384 = .ok (.iconst 1, 1) := by decide +kernel
theorem dX10_ride_385 : decode cX10_ride 385 = .ok (.isub, 1) := by decide +kernel
theorem dX10_ride_386 : decode cX10_ride 386 = .ok (.imul, 1) := by decide +kernel
theorem dX10_ride_387 : decode cX10_ride 387 = .ok (.bipush 60, 2) := by decide +kernel
theorem dX10_ride_389 : decode cX10_ride 389 = .ok (.iload 7, 2) := by decide +kernel
theorem dX10_ride_391 : decode cX10_ride 391 = .ok (.aload_n 0, 1) := by decide +kernel
theorem dX10_ride_392 : decode cX10_ride 392 = .ok (.getfield 96, 3) := by decide +kernel
theorem dX10_ride_395 : decode cX10_ride 395 = .ok (.iload_n 1, 1) := by decide +kernel
theorem dX10_ride_396 : decode cX10_ride 396 = .ok (.iaload, 1) := by decide +kernel
theorem dX10_ride_397 : decode cX10_ride 397 = .ok (.isub, 1) := by decide +kernel
theorem dX10_ride_398 : decode cX10_ride 398 = .ok (.imul, 1) := by decide +kernel
theorem dX10_ride_399 : decode cX10_ride 399 = .ok (.iload 6, 2) := by decide +kernel
theorem dX10_ride_401 : decode cX10_ride 401 = .ok (.iadd, 1) := by decide +kernel
theorem dX10_ride_402 : decode cX10_ride 402 = .ok (.iconst 1, 1) := by decide +kernel
theorem dX10_ride_403 : decode cX10_ride 403 = .ok (.isub, 1) := by decide +kernel
theorem dX10_ride_404 : decode cX10_ride 404 = .ok (.iload 6, 2) := by decide +kernel
theorem dX10_ride_406 : decode cX10_ride 406 = .ok (.idiv, 1) := by decide +kernel
theorem dX10_ride_407 : decode cX10_ride 407 = .ok (.iadd, 1) := by decide +kernel
theorem dX10_ride_408 : decode cX10_ride 408 = .ok (.iastore, 1) := by decide +kernel
theorem dX10_ride_409 : decode cX10_ride 409 = .ok (.return_, 1) := by decide +kernel
theorem dX10_rider_0 : decode cX10_rider 0 = .ok (.aload_n 0, 1) := by decide +kernel
theorem dX10_rider_1 : decode cX10_rider 1 = .ok (.getfield 130, 3) := by decide +kernel
theorem dX10_rider_4 : decode cX10_rider 4 = .ok (.ifCond .gt 53, 3) := by decide +kernel
theorem dX10_rider_7 : decode cX10_rider 7 = .ok (.aload_n 0, 1) := by decide +kernel
theorem dX10_rider_8 : decode cX10_rider 8 = .ok (.getfield 123, 3) := by decide +kernel
theorem dX10_rider_11 : decode cX10_rider 11 = .ok (.bipush 20, 2) := by decide +kernel
theorem dX10_rider_13 : decode cX10_rider 13 = .ok (.if_icmp .eq 44, 3) := by decide +kernel
theorem dX10_rider_16 : decode cX10_rider 16 = .ok (.iload_n 1, 1) := by decide +kernel
theorem dX10_rider_17 : decode cX10_rider 17 = .ok (.iconst 0, 1) := by decide +kernel
theorem dX10_rider_18 : decode cX10_rider 18 = .ok (.iconst 4, 1) := by decide +kernel
theorem dX10_rider_19 : decode cX10_rider 19 = .ok (.invokestatic 126, 3) := by decide +kernel
theorem dX10_rider_22 : decode cX10_rider 22 = .ok (.ifCond .eq 35, 3) := by decide +kernel
theorem dX10_rider_25 : decode cX10_rider 25 = .ok (.iload_n 2, 1) := by decide +kernel
theorem dX10_rider_26 : decode cX10_rider 26 = .ok (.iconst 1, 1) := by decide +kernel
theorem dX10_rider_27 : decode cX10_rider 27 = .ok (.bipush 60, 2) := by decide +kernel
theorem dX10_rider_29 : decode cX10_rider 29 = .ok (.invokestatic 126, 3) := by decide +kernel
theorem dX10_rider_32 : decode cX10_rider 32 = .ok (.ifCond .eq 25, 3) := by decide +kernel
theorem dX10_rider_35 : decode cX10_rider 35 = .ok (.iload_n 3, 1) := by decide +kernel
theorem dX10_rider_36 : decode cX10_rider 36 = .ok (.iconst 0, 1) := by decide +kernel
theorem dX10_rider_37 : decode cX10_rider 37 = .ok (.sipush 2000, 3) := by decide +kernel
theorem dX10_rider_40 : decode cX10_rider 40 = .ok (.invokestatic 126, 3) := by decide +kernel
theorem dX10_rider_43 : decode cX10_rider 43 = .ok (.ifCond .eq 14, 3) := by decide +kernel
theorem dX10_rider_46 : decode cX10_rider 46 = .ok (.iload 4, 2) := by decide +kernel
theorem dX10_rider_48 : decode cX10_rider 48 = .ok (.iconst 0, 1) := by decide +kernel
theorem dX10_rider_49 : decode cX10_rider 49 = .ok (.bipush 50, 2) := by decide +kernel
theorem dX10_rider_51 : decode cX10_rider 51 = .ok (.invokestatic 126, 3) := by decide +kernel
theorem dX10_rider_54 : decode cX10_rider 54 = .ok (.ifCond .ne 5, 3) := by decide +kernel
theorem dX10_rider_57 : decode cX10_rider 57 = .ok (.iconst (-1), 1) := by decide +kernel
theorem dX10_rider_58 : decode cX10_rider 58 = .ok (.ireturn, 1) := by decide +kernel
theorem dX10_rider_59 : decode cX10_rider 59 = .ok (.aload_n 0, 1) := by decide +kernel
theorem dX10_rider_60 : decode cX10_rider 60 = .ok (.getfield 19, 3) := by decide +kernel
theorem dX10_rider_63 : decode cX10_rider 63 = .ok (.aload_n 0, 1) := by decide +kernel
theorem dX10_rider_64 : decode cX10_rider 64 = .ok (.getfield 123, 3) := by decide +kernel
theorem dX10_rider_67 : decode cX10_rider 67 = .ok (.iload_n 1, 1) := by decide +kernel
theorem dX10_rider_68 : decode cX10_rider 68 = .ok (.iastore, 1) := by decide +kernel
theorem dX10_rider_69 : decode cX10_rider 69 = .ok (.aload_n 0, 1) := by decide +kernel
theorem dX10_rider_70 : decode cX10_rider 70 = .ok (.getfield 23, 3) := by decide +kernel
theorem dX10_rider_73 : decode cX10_rider 73 = .ok (.aload_n 0, 1) := by decide +kernel
theorem dX10_rider_74 : decode cX10_rider 74 = .ok (.getfield 123, 3) := by decide +kernel
theorem dX10_rider_77 : decode cX10_rider 77 = .ok (.iload_n 2, 1) := by decide +kernel
theorem dX10_rider_78 : decode cX10_rider 78 = .ok (.iastore, 1) := by decide +kernel
theorem dX10_rider_79 : decode cX10_rider 79 = .ok (.aload_n 0, 1) := by decide +kernel
theorem dX10_rider_80 : decode cX10_rider 80 = .ok (.getfield 26, 3) := by decide +kernel
theorem dX10_rider_83 : decode cX10_rider 83 = .ok (.aload_n 0, 1) := by decide +kernel
theorem dX10_rider_84 : decode cX10_rider 84 = .ok (.getfield 123, 3) := by decide +kernel
theorem dX10_rider_87 : decode cX10_rider 87 = .ok (.iload_n 3, 1) := by decide +kernel
theorem dX10_rider_88 : decode cX10_rider 88 = .ok (.iastore, 1) := by decide +kernel
theorem dX10_rider_89 : decode cX10_rider 89 = .ok (.aload_n 0, 1) := by decide +kernel
theorem dX10_rider_90 : decode cX10_rider 90 = .ok (.getfield 29, 3) := by decide +kernel
theorem dX10_rider_93 : decode cX10_rider 93 = .ok (.aload_n 0, 1) := by decide +kernel
theorem dX10_rider_94 : decode cX10_rider 94 = .ok (.getfield 123, 3) := by decide +kernel
theorem dX10_rider_97 : decode cX10_rider 97 = .ok (.iload 4, 2) := by decide +kernel
theorem dX10_rider_99 : decode cX10_rider 99 = .ok (.iastore, 1) := by decide +kernel
theorem dX10_rider_100 : decode cX10_rider 100 = .ok (.aload_n 0, 1) := by decide +kernel
theorem dX10_rider_101 : decode cX10_rider 101 = .ok (.dup, 1) := by decide +kernel
theorem dX10_rider_102 : decode cX10_rider 102 = .ok (.getfield 123, 3) := by decide +kernel
theorem dX10_rider_105 : decode cX10_rider 105 = .ok (.iconst 1, 1) := by decide +kernel
theorem dX10_rider_106 : decode cX10_rider 106 = .ok (.iadd, 1) := by decide +kernel
theorem dX10_rider_107 : decode cX10_rider 107 = .ok (.putfield 123, 3) := by decide +kernel
theorem dX10_rider_110 : decode cX10_rider 110 = .ok (.aload_n 0, 1) := by decide +kernel
theorem dX10_rider_111 : decode cX10_rider 111 = .ok (.getfield 123, 3) := by decide +kernel
theorem dX10_rider_114 : decode cX10_rider 114 = .ok (.iconst 1, 1) := by decide +kernel
theorem dX10_rider_115 : decode cX10_rider 115 = .ok (.isub, 1) := by decide +kernel
theorem dX10_rider_116 : decode cX10_rider 116 = .ok (.ireturn, 1) := by decide +kernel
theorem dX10_rise_0 : decode cX10_rise 0 = .ok (.iload_n 1, 1) := by decide +kernel
theorem dX10_rise_1 : decode cX10_rise 1 = .ok (.iconst 0, 1) := by decide +kernel
theorem dX10_rise_2 : decode cX10_rise 2 = .ok (.aload_n 0, 1) := by decide +kernel
theorem dX10_rise_3 : decode cX10_rise 3 = .ok (.getfield 9, 3) := by decide +kernel
theorem dX10_rise_6 : decode cX10_rise 6 = .ok (.iconst 1, 1) := by decide +kernel
theorem dX10_rise_7 : decode cX10_rise 7 = .ok (.isub, 1) := by decide +kernel
theorem dX10_rise_8 : decode cX10_rise 8 = .ok (.invokestatic 126, 3) := by decide +kernel
theorem dX10_rise_11 : decode cX10_rise 11 = .ok (.ifCond .eq 25, 3) := by decide +kernel
theorem dX10_rise_14 : decode cX10_rise 14 = .ok (.iload_n 2, 1) := by decide +kernel
theorem dX10_rise_15 : decode cX10_rise 15 = .ok (.bipush (-5), 2) := by decide +kernel
theorem dX10_rise_17 : decode cX10_rise 17 = .ok (.bipush 10, 2) := by decide +kernel
theorem dX10_rise_19 : decode cX10_rise 19 = .ok (.invokestatic 126, 3) := by decide +kernel
theorem dX10_rise_22 : decode cX10_rise 22 = .ok (.ifCond .eq 14, 3) := by decide +kernel
theorem dX10_rise_25 : decode cX10_rise 25 = .ok (.iload_n 3, 1) := by decide +kernel
theorem dX10_rise_26 : decode cX10_rise 26 = .ok (.bipush (-3), 2) := by decide +kernel
theorem dX10_rise_28 : decode cX10_rise 28 = .ok (.bipush 9, 2) := by decide +kernel
theorem dX10_rise_30 : decode cX10_rise 30 = .ok (.invokestatic 126, 3) := by decide +kernel
theorem dX10_rise_33 : decode cX10_rise 33 = .ok (.ifCond .ne 5, 3) := by decide +kernel
theorem dX10_rise_36 : decode cX10_rise 36 = .ok (.iconst 0, 1) := by decide +kernel
theorem dX10_rise_37 : decode cX10_rise 37 = .ok (.ireturn, 1) := by decide +kernel
theorem dX10_rise_38 : decode cX10_rise 38 = .ok (.aload_n 0, 1) := by decide +kernel
theorem dX10_rise_39 : decode cX10_rise 39 = .ok (.getfield 32, 3) := by decide +kernel
theorem dX10_rise_42 : decode cX10_rise 42 = .ok (.iload_n 1, 1) := by decide +kernel
theorem dX10_rise_43 : decode cX10_rise 43 = .ok (.iload_n 2, 1) := by decide +kernel
theorem dX10_rise_44 : decode cX10_rise 44 = .ok (.iastore, 1) := by decide +kernel
theorem dX10_rise_45 : decode cX10_rise 45 = .ok (.aload_n 0, 1) := by decide +kernel
theorem dX10_rise_46 : decode cX10_rise 46 = .ok (.getfield 35, 3) := by decide +kernel
theorem dX10_rise_49 : decode cX10_rise 49 = .ok (.iload_n 1, 1) := by decide +kernel
theorem dX10_rise_50 : decode cX10_rise 50 = .ok (.iload_n 3, 1) := by decide +kernel
theorem dX10_rise_51 : decode cX10_rise 51 = .ok (.iastore, 1) := by decide +kernel
theorem dX10_rise_52 : decode cX10_rise 52 = .ok (.iconst 1, 1) := by decide +kernel
theorem dX10_rise_53 : decode cX10_rise 53 = .ok (.ireturn, 1) := by decide +kernel
theorem dX10_road_0 : decode cX10_road 0 = .ok (.iload_n 1, 1) := by decide +kernel
theorem dX10_road_1 : decode cX10_road 1 = .ok (.iconst 1, 1) := by decide +kernel
theorem dX10_road_2 : decode cX10_road 2 = .ok (.bipush 30, 2) := by decide +kernel
theorem dX10_road_4 : decode cX10_road 4 = .ok (.invokestatic 126, 3) := by decide +kernel
theorem dX10_road_7 : decode cX10_road 7 = .ok (.ifCond .ne 5, 3) := by decide +kernel
theorem dX10_road_10 : decode cX10_road 10 = .ok (.iconst 0, 1) := by decide +kernel
theorem dX10_road_11 : decode cX10_road 11 = .ok (.ireturn, 1) := by decide +kernel
theorem dX10_road_12 : decode cX10_road 12 = .ok (.aload_n 0, 1) := by decide +kernel
theorem dX10_road_13 : decode cX10_road 13 = .ok (.iload_n 1, 1) := by decide +kernel
theorem dX10_road_14 : decode cX10_road 14 = .ok (.putfield 9, 3) := by decide +kernel
theorem dX10_road_17 : decode cX10_road 17 = .ok (.aload_n 0, 1) := by decide +kernel
theorem dX10_road_18 : decode cX10_road 18 = .ok (.iconst 0, 1) := by decide +kernel
theorem dX10_road_19 : decode cX10_road 19 = .ok (.putfield 133, 3) := by decide +kernel
theorem dX10_road_22 : decode cX10_road 22 = .ok (.aload_n 0, 1) := by decide +kernel
theorem dX10_road_23 : decode cX10_road 23 = .ok (.iconst (-1), 1) := by decide +kernel
theorem dX10_road_24 : decode cX10_road 24 = .ok (.putfield 13, 3) := by decide +kernel
theorem dX10_road_27 : decode cX10_road 27 = .ok (.iconst 0, 1) := by decide +kernel
theorem dX10_road_28 : decode cX10_road 28 = .ok (.istore_n 2, 1) := by decide +kernel
theorem dX10_road_29 : decode cX10_road 29 = .ok (.iload_n 2, 1) := by decide +kernel
theorem dX10_road_30 : decode cX10_road 30 = .ok (.bipush 30, 2) := by decide +kernel
theorem dX10_road_32 : decode cX10_road 32 = .ok (.if_icmp .ge 23, 3) := by decide +kernel
theorem dX10_road_35 : decode cX10_road 35 = .ok (.aload_n 0, 1) := by decide +kernel
theorem dX10_road_36 : decode cX10_road 36 = .ok (.getfield 32, 3) := by decide +kernel
theorem dX10_road_39 : decode cX10_road 39 = .ok (.iload_n 2, 1) := by decide +kernel
theorem dX10_road_40 : decode cX10_road 40 = .ok (.iconst 0, 1) := by decide +kernel
theorem dX10_road_41 : decode cX10_road 41 = .ok (.iastore, 1) := by decide +kernel
theorem dX10_road_42 : decode cX10_road 42 = .ok (.aload_n 0, 1) := by decide +kernel
theorem dX10_road_43 : decode cX10_road 43 = .ok (.getfield 35, 3) := by decide +kernel
theorem dX10_road_46 : decode cX10_road 46 = .ok (.iload_n 2, 1) := by decide +kernel
theorem dX10_road_47 : decode cX10_road 47 = .ok (.iconst 0, 1) := by decide +kernel
theorem dX10_road_48 : decode cX10_road 48 = .ok (.iastore, 1) := by decide +kernel
theorem dX10_road_49 : decode cX10_road 49 = .ok (.iinc 2 1, 3) := by decide +kernel
theorem dX10_road_52 : decode cX10_road 52 = .ok (.goto (-23), 3) := by decide +kernel
theorem dX10_road_55 : decode cX10_road 55 = .ok (.iconst 1, 1) := by decide +kernel
theorem dX10_road_56 : decode cX10_road 56 = .ok (.ireturn, 1) := by decide +kernel
theorem dX10_run_0 : decode cX10_run 0 = .ok (.iconst 0, 1) := by decide +kernel
theorem dX10_run_1 : decode cX10_run 1 = .ok (.istore 8, 2) := by decide +kernel
theorem dX10_run_3 : decode cX10_run 3 = .ok (.iconst 0, 1) := by decide +kernel
theorem dX10_run_4 : decode cX10_run 4 = .ok (.istore 9, 2) := by decide +kernel
theorem dX10_run_6 : decode cX10_run 6 = .ok (.iload 9, 2) := by decide +kernel
theorem dX10_run_8 : decode cX10_run 8 = .ok (.aload_n 0, 1) := by decide +kernel
theorem dX10_run_9 : decode cX10_run 9 = .ok (.getfield 123, 3) := by decide +kernel
theorem dX10_run_12 : decode cX10_run 12 = .ok (.if_icmp .ge 135, 3) := by decide +kernel
theorem dX10_run_15 : decode cX10_run 15 = .ok (.aload_n 0, 1) := by decide +kernel
theorem dX10_run_16 : decode cX10_run 16 = .ok (.getfield 59, 3) := by decide +kernel
theorem dX10_run_19 : decode cX10_run 19 = .ok (.iload 9, 2) := by decide +kernel
theorem dX10_run_21 : decode cX10_run 21 = .ok (.aload_n 0, 1) := by decide +kernel
theorem dX10_run_22 : decode cX10_run 22 = .ok (.getfield 63, 3) := by decide +kernel
theorem dX10_run_25 : decode cX10_run 25 = .ok (.iload 9, 2) := by decide +kernel
theorem dX10_run_27 : decode cX10_run 27 = .ok (.baload, 1) := by decide +kernel
theorem dX10_run_28 : decode cX10_run 28 = .ok (.ifCond .ne 7, 3) := by decide +kernel
theorem dX10_run_31 : decode cX10_run 31 = .ok (.iconst 1, 1) := by decide +kernel
theorem dX10_run_32 : decode cX10_run 32 = .ok (.goto 4, 3) := by decide +kernel
theorem dX10_run_35 : decode cX10_run 35 = .ok (.iconst 0, 1) := by decide +kernel
theorem dX10_run_36 : decode cX10_run 36 = .ok (.bastore, 1) := by decide +kernel
theorem dX10_run_37 : decode cX10_run 37 = .ok (.iload 8, 2) := by decide +kernel
theorem dX10_run_39 : decode cX10_run 39 = .ok (.ifCond .ne 13, 3) := by decide +kernel
theorem dX10_run_42 : decode cX10_run 42 = .ok (.aload_n 0, 1) := by decide +kernel
theorem dX10_run_43 : decode cX10_run 43 = .ok (.getfield 59, 3) := by decide +kernel
theorem dX10_run_46 : decode cX10_run 46 = .ok (.iload 9, 2) := by decide +kernel
theorem dX10_run_48 : decode cX10_run 48 = .ok (.baload, 1) := by decide +kernel
theorem dX10_run_49 : decode cX10_run 49 = .ok (.ifCond .eq 7, 3) := by decide +kernel
theorem dX10_run_52 : decode cX10_run 52 = .ok (.iconst 1, 1) := by decide +kernel
theorem dX10_run_53 : decode cX10_run 53 = .ok (.goto 4, 3) := by decide +kernel
theorem dX10_run_56 : decode cX10_run 56 = .ok (.iconst 0, 1) := by decide +kernel
theorem dX10_run_57 : decode cX10_run 57 = .ok (.istore 8, 2) := by decide +kernel
theorem dX10_run_59 : decode cX10_run 59 = .ok (.aload_n 0, 1) := by decide +kernel
theorem dX10_run_60 : decode cX10_run 60 = .ok (.getfield 66, 3) := by decide +kernel
theorem dX10_run_63 : decode cX10_run 63 = .ok (.iload 9, 2) := by decide +kernel
theorem dX10_run_65 : decode cX10_run 65 = .ok (.iconst 0, 1) := by decide +kernel
theorem dX10_run_66 : decode cX10_run 66 = .ok (.iastore, 1) := by decide +kernel
theorem dX10_run_67 : decode cX10_run 67 = .ok (.aload_n 0, 1) := by decide +kernel
theorem dX10_run_68 : decode cX10_run 68 = .ok (.getfield 69, 3) := by decide +kernel
theorem dX10_run_71 : decode cX10_run 71 = .ok (.iload 9, 2) := by decide +kernel
theorem dX10_run_73 : decode cX10_run 73 = .ok (.aload_n 0, 1) := by decide +kernel
theorem dX10_run_74 : decode cX10_run 74 = .ok (.getfield 26, 3) := by decide +kernel
theorem dX10_run_77 : decode cX10_run 77 = .ok (.iload 9, 2) := by decide +kernel
theorem dX10_run_79 : decode cX10_run 79 = .ok (.iaload, 1) := by decide +kernel
theorem dX10_run_80 : decode cX10_run 80 = .ok (.iastore, 1) := by decide +kernel
theorem dX10_run_81 : decode cX10_run 81 = .ok (.aload_n 0, 1) := by decide +kernel
theorem dX10_run_82 : decode cX10_run 82 = .ok (.getfield 72, 3) := by decide +kernel
theorem dX10_run_85 : decode cX10_run 85 = .ok (.iload 9, 2) := by decide +kernel
theorem dX10_run_87 : decode cX10_run 87 = .ok (.iconst 0, 1) := by decide +kernel
theorem dX10_run_88 : decode cX10_run 88 = .ok (.iastore, 1) := by decide +kernel
theorem dX10_run_89 : decode cX10_run 89 = .ok (.aload_n 0, 1) := by decide +kernel
theorem dX10_run_90 : decode cX10_run 90 = .ok (.getfield 75, 3) := by decide +kernel
theorem dX10_run_93 : decode cX10_run 93 = .ok (.iload 9, 2) := by decide +kernel
theorem dX10_run_95 : decode cX10_run 95 = .ok (.iconst (-1), 1) := by decide +kernel
theorem dX10_run_96 : decode cX10_run 96 = .ok (.iastore, 1) := by decide +kernel
theorem dX10_run_97 : decode cX10_run 97 = .ok (.aload_n 0, 1) := by decide +kernel
theorem dX10_run_98 : decode cX10_run 98 = .ok (.getfield 78, 3) := by decide +kernel
theorem dX10_run_101 : decode cX10_run 101 = .ok (.iload 9, 2) := by decide +kernel
theorem dX10_run_103 : decode cX10_run 103 = .ok (.iconst 0, 1) := by decide +kernel
theorem dX10_run_104 : decode cX10_run 104 = .ok (.iastore, 1) := by decide +kernel
theorem dX10_run_105 : decode cX10_run 105 = .ok (.aload_n 0, 1) := by decide +kernel
theorem dX10_run_106 : decode cX10_run 106 = .ok (.getfield 81, 3) := by decide +kernel
theorem dX10_run_109 : decode cX10_run 109 = .ok (.iload 9, 2) := by decide +kernel
theorem dX10_run_111 : decode cX10_run 111 = .ok (.iconst 0, 1) := by decide +kernel
theorem dX10_run_112 : decode cX10_run 112 = .ok (.iastore, 1) := by decide +kernel
theorem dX10_run_113 : decode cX10_run 113 = .ok (.iconst 0, 1) := by decide +kernel
theorem dX10_run_114 : decode cX10_run 114 = .ok (.istore 10, 2) := by decide +kernel
theorem dX10_run_116 : decode cX10_run 116 = .ok (.iload 10, 2) := by decide +kernel
theorem dX10_run_118 : decode cX10_run 118 = .ok (.iconst 5, 1) := by decide +kernel
theorem dX10_run_119 : decode cX10_run 119 = .ok (.if_icmp .ge 22, 3) := by decide +kernel
theorem dX10_run_122 : decode cX10_run 122 = .ok (.aload_n 0, 1) := by decide +kernel
theorem dX10_run_123 : decode cX10_run 123 = .ok (.getfield 84, 3) := by decide +kernel
theorem dX10_run_126 : decode cX10_run 126 = .ok (.iconst 5, 1) := by decide +kernel
theorem dX10_run_127 : decode cX10_run 127 = .ok (.iload 9, 2) := by decide +kernel
theorem dX10_run_129 : decode cX10_run 129 = .ok (.imul, 1) := by decide +kernel
theorem dX10_run_130 : decode cX10_run 130 = .ok (.iload 10, 2) := by decide +kernel
theorem dX10_run_132 : decode cX10_run 132 = .ok (.iadd, 1) := by decide +kernel
theorem dX10_run_133 : decode cX10_run 133 = .ok (.iconst (-1), 1) := by decide +kernel
theorem dX10_run_134 : decode cX10_run 134 = .ok (.iastore, 1) := by decide +kernel
theorem dX10_run_135 : decode cX10_run 135 = .ok (.iinc 10 1, 3) := by decide +kernel
theorem dX10_run_138 : decode cX10_run 138 = .ok (.goto (-22), 3) := by decide +kernel
theorem dX10_run_141 : decode cX10_run 141 = .ok (.iinc 9 1, 3) := by decide +kernel
theorem dX10_run_144 : decode cX10_run 144 = .ok (.goto (-138), 3) := by decide +kernel
theorem dX10_run_147 : decode cX10_run 147 = .ok (.iload 8, 2) := by decide +kernel
theorem dX10_run_149 : decode cX10_run 149 = .ok (.ifCond .ne 5, 3) := by decide +kernel
theorem dX10_run_152 : decode cX10_run 152 = .ok (.iconst 0, 1) := by decide +kernel
theorem dX10_run_153 : decode cX10_run 153 = .ok (.ireturn, 1) := by decide +kernel
theorem dX10_run_154 : decode cX10_run 154 = .ok (.aload_n 0, 1) := by decide +kernel
theorem dX10_run_155 : decode cX10_run 155 = .ok (.iconst 0, 1) := by decide +kernel
theorem dX10_run_156 : decode cX10_run 156 = .ok (.putfield 213, 3) := by decide +kernel
theorem dX10_run_159 : decode cX10_run 159 = .ok (.aload_n 0, 1) := by decide +kernel
theorem dX10_run_160 : decode cX10_run 160 = .ok (.lload_n 1, 1) := by decide +kernel
theorem dX10_run_161 : decode cX10_run 161 = .ok (.putfield 203, 3) := by decide +kernel
theorem dX10_run_164 : decode cX10_run 164 = .ok (.iload 7, 2) := by decide +kernel
theorem dX10_run_166 : decode cX10_run 166 = .ok (.ifCond .eq 7, 3) := by decide +kernel
theorem dX10_run_169 : decode cX10_run 169 = .ok (.aload_n 0, 1) := by decide +kernel
theorem dX10_run_170 : decode cX10_run 170 = .ok (.invokevirtual 219, 3) := by decide +kernel
theorem dX10_run_173 : decode cX10_run 173 = .ok (.aload_n 0, 1) := by decide +kernel
theorem dX10_run_174 : decode cX10_run 174 = .ok (.invokevirtual 222, 3) := by decide +kernel
theorem dX10_run_177 : decode cX10_run 177 = .ok (.ifCond .eq 255, 3) := by decide +kernel
theorem dX10_run_180 : decode cX10_run 180 = .ok (.aload_n 0, 1) := by decide +kernel
theorem dX10_run_181 : decode cX10_run 181 = .ok (.getfield 213, 3) := by decide +kernel
theorem dX10_run_184 : decode cX10_run 184 = .ok (.sipush 400, 3) := by decide +kernel
theorem dX10_run_187 : decode cX10_run 187 = .ok (.if_icmp .ge 245, 3) := by decide +kernel
theorem dX10_run_190 : decode cX10_run 190 = .ok (.aload_n 0, 1) := by decide +kernel
theorem dX10_run_191 : decode cX10_run 191 = .ok (.invokevirtual 216, 3) := by decide +kernel
theorem dX10_run_194 : decode cX10_run 194 = .ok (.istore 9, 2) := by decide +kernel
theorem dX10_run_196 : decode cX10_run 196 = .ok (.iconst 0, 1) := by decide +kernel
theorem dX10_run_197 : decode cX10_run 197 = .ok (.istore 10, 2) := by decide +kernel
theorem dX10_run_199 : decode cX10_run 199 = .ok (.iload_n 3, 1) := by decide +kernel
theorem dX10_run_200 : decode cX10_run 200 = .ok (.iconst (-1), 1) := by decide +kernel
theorem dX10_run_201 : decode cX10_run 201 = .ok (.if_icmp .ne 7, 3) := by decide +kernel
theorem dX10_run_204 : decode cX10_run 204 = .ok (.iconst 0, 1) := by decide +kernel
theorem dX10_run_205 : decode cX10_run 205 = .ok (.goto 8, 3) := by decide +kernel
theorem dX10_run_208 : decode cX10_run 208 = .ok (.aload_n 0, 1) := by decide +kernel
theorem dX10_run_209 : decode cX10_run 209 = .ok (.iload_n 3, 1) := by decide +kernel
theorem dX10_run_210 : decode cX10_run 210 = .ok (.invokevirtual 225, 3) := by decide +kernel
theorem dX10_run_213 : decode cX10_run 213 = .ok (.istore 11, 2) := by decide +kernel
theorem dX10_run_215 : decode cX10_run 215 = .ok (.iconst 0, 1) := by decide +kernel
theorem dX10_run_216 : decode cX10_run 216 = .ok (.istore 12, 2) := by decide +kernel
theorem dX10_run_218 : decode cX10_run 218 = .ok (.iload 12, 2) := by decide +kernel
theorem dX10_run_220 : decode cX10_run 220 = .ok (.aload_n 0, 1) := by decide +kernel
theorem dX10_run_221 : decode cX10_run 221 = .ok (.getfield 123, 3) := by decide +kernel
theorem dX10_run_224 : decode cX10_run 224 = .ok (.if_icmp .ge 58, 3) := by decide +kernel
theorem dX10_run_227 : decode cX10_run 227 = .ok (.aload_n 0, 1) := by decide +kernel
theorem dX10_run_228 : decode cX10_run 228 = .ok (.getfield 96, 3) := by decide +kernel
theorem dX10_run_231 : decode cX10_run 231 = .ok (.iload 12, 2) := by decide +kernel
theorem dX10_run_233 : decode cX10_run 233 = .ok (.aload_n 0, 1) := by decide +kernel
theorem dX10_run_234 : decode cX10_run 234 = .ok (.getfield 66, 3) := by decide +kernel
theorem dX10_run_237 : decode cX10_run 237 = .ok (.iload 12, 2) := by decide +kernel
theorem dX10_run_239 : decode cX10_run 239 = .ok (.iaload, 1) := by decide +kernel
theorem dX10_run_240 : decode cX10_run 240 = .ok (.iastore, 1) := by decide +kernel
theorem dX10_run_241 : decode cX10_run 241 = .ok (.aload_n 0, 1) := by decide +kernel
theorem dX10_run_242 : decode cX10_run 242 = .ok (.getfield 59, 3) := by decide +kernel
theorem dX10_run_245 : decode cX10_run 245 = .ok (.iload 12, 2) := by decide +kernel
theorem dX10_run_247 : decode cX10_run 247 = .ok (.baload, 1) := by decide +kernel
theorem dX10_run_248 : decode cX10_run 248 = .ok (.ifCond .eq 28, 3) := by decide +kernel
theorem dX10_run_251 : decode cX10_run 251 = .ok (.aload_n 0, 1) := by decide +kernel
theorem dX10_run_252 : decode cX10_run 252 = .ok (.getfield 75, 3) := by decide +kernel
theorem dX10_run_255 : decode cX10_run 255 = .ok (.iload 12, 2) := by decide +kernel
theorem dX10_run_257 : decode cX10_run 257 = .ok (.iaload, 1) := by decide +kernel
theorem dX10_run_258 : decode cX10_run 258 = .ok (.iconst (-1), 1) := by decide +kernel
theorem dX10_run_259 : decode cX10_run 259 = .ok (.if_icmp .ne 17, 3) := by decide +kernel
theorem dX10_run_262 : decode cX10_run 262 = .ok (.iload 10, 2) := by decide +kernel
theorem dX10_run_264 : decode cX10_run 264 = .ok (.aload_n 0, 1) := by decide +kernel
theorem dX10_run_265 : decode cX10_run 265 = .ok (.getfield 66, 3) := by decide +kernel
theorem dX10_run_268 : decode cX10_run 268 = .ok (.iload 12, 2) := by decide +kernel
theorem dX10_run_270 : decode cX10_run 270 = .ok (.iaload, 1) := by decide +kernel
theorem dX10_run_271 : decode cX10_run 271 = .ok (.invokestatic 188, 3) := by decide +kernel
theorem dX10_run_274 : decode cX10_run 274 = .ok (.istore 10, 2) := by decide +kernel
theorem dX10_run_276 : decode cX10_run 276 = .ok (.iinc 12 1, 3) := by decide +kernel
theorem dX10_run_279 : decode cX10_run 279 = .ok (.goto (-61), 3) := by decide +kernel
theorem dX10_run_282 : decode cX10_run 282 = .ok (.aload_n 0, 1) := by decide +kernel
theorem dX10_run_283 : decode cX10_run 283 = .ok (.dup, 1) := by decide +kernel
theorem dX10_run_284 : decode cX10_run 284 = .ok (.getfield 213, 3) := by decide +kernel
theorem dX10_run_287 : decode cX10_run 287 = .ok (.iconst 1, 1) := by decide +kernel
theorem dX10_run_288 : decode cX10_run 288 = .ok (.iadd, 1) := by decide +kernel
theorem dX10_run_289 : decode cX10_run 289 = .ok (.putfield 213, 3) := by decide +kernel
theorem dX10_run_292 : decode cX10_run 292 = .ok (.iconst 0, 1) := by decide +kernel
theorem dX10_run_293 : decode cX10_run 293 = .ok (.istore 12, 2) := by decide +kernel
theorem dX10_run_295 : decode cX10_run 295 = .ok (.iload 12, 2) := by decide +kernel
theorem dX10_run_297 : decode cX10_run 297 = .ok (.aload_n 0, 1) := by decide +kernel
theorem dX10_run_298 : decode cX10_run 298 = .ok (.getfield 123, 3) := by decide +kernel
theorem dX10_run_301 : decode cX10_run 301 = .ok (.if_icmp .ge 34, 3) := by decide +kernel
theorem dX10_run_304 : decode cX10_run 304 = .ok (.aload_n 0, 1) := by decide +kernel
theorem dX10_run_305 : decode cX10_run 305 = .ok (.getfield 72, 3) := by decide +kernel
theorem dX10_run_308 : decode cX10_run 308 = .ok (.iload 12, 2) := by decide +kernel
theorem dX10_run_310 : decode cX10_run 310 = .ok (.dup2, 1) := by decide +kernel
theorem dX10_run_311 : decode cX10_run 311 = .ok (.iaload, 1) := by decide +kernel
theorem dX10_run_312 : decode cX10_run 312 = .ok (.aload_n 0, 1) := by decide +kernel
theorem dX10_run_313 : decode cX10_run 313 = .ok (.getfield 72, 3) := by decide +kernel
theorem dX10_run_316 : decode cX10_run 316 = .ok (.iload 12, 2) := by decide +kernel
theorem dX10_run_318 : decode cX10_run 318 = .ok (.iaload, 1) := by decide +kernel
theorem dX10_run_319 : decode cX10_run 319 = .ok (.ifCond .le 7, 3) := by decide +kernel
theorem dX10_run_322 : decode cX10_run 322 = .ok (.iconst 1, 1) := by decide +kernel
theorem dX10_run_323 : decode cX10_run 323 = .ok (.goto 4, 3) := by decide +kernel
theorem dX10_run_326 : decode cX10_run 326 = .ok (.iconst 0, 1) := by decide +kernel
theorem dX10_run_327 : decode cX10_run 327 = .ok (.isub, 1) := by decide +kernel
theorem dX10_run_328 : decode cX10_run 328 = .ok (.iastore, 1) := by decide +kernel
theorem dX10_run_329 : decode cX10_run 329 = .ok (.iinc 12 1, 3) := by decide +kernel
theorem dX10_run_332 : decode cX10_run 332 = .ok (.goto (-37), 3) := by decide +kernel
theorem dX10_run_335 : decode cX10_run 335 = .ok (.aload_n 0, 1) := by decide +kernel
theorem dX10_run_336 : decode cX10_run 336 = .ok (.getfield 177, 3) := by decide +kernel
theorem dX10_run_339 : decode cX10_run 339 = .ok (.istore 12, 2) := by decide +kernel
theorem dX10_run_341 : decode cX10_run 341 = .ok (.iconst 0, 1) := by decide +kernel
theorem dX10_run_342 : decode cX10_run 342 = .ok (.istore 13, 2) := by decide +kernel
theorem dX10_run_344 : decode cX10_run 344 = .ok (.iload 13, 2) := by decide +kernel
theorem dX10_run_346 : decode cX10_run 346 = .ok (.iload 12, 2) := by decide +kernel
theorem dX10_run_348 : decode cX10_run 348 = .ok (.if_icmp .ge 72, 3) := by decide +kernel
theorem dX10_run_351 : decode cX10_run 351 = .ok (.iload 9, 2) := by decide +kernel
theorem dX10_run_353 : decode cX10_run 353 = .ok (.ifCond .le 67, 3) := by decide +kernel
theorem dX10_run_356 : decode cX10_run 356 = .ok (.aload_n 0, 1) := by decide +kernel
theorem dX10_run_357 : decode cX10_run 357 = .ok (.getfield 87, 3) := by decide +kernel
theorem dX10_run_360 : decode cX10_run 360 = .ok (.iload 13, 2) := by decide +kernel
theorem dX10_run_362 : decode cX10_run 362 = .ok (.iaload, 1) := by decide +kernel
theorem dX10_run_363 : decode cX10_run 363 = .ok (.istore 14, 2) := by decide +kernel
theorem dX10_run_365 : decode cX10_run 365 = .ok (.aload_n 0, 1) := by decide +kernel
theorem dX10_run_366 : decode cX10_run 366 = .ok (.getfield 19, 3) := by decide +kernel
theorem dX10_run_369 : decode cX10_run 369 = .ok (.iload 14, 2) := by decide +kernel
theorem dX10_run_371 : decode cX10_run 371 = .ok (.iaload, 1) := by decide +kernel
theorem dX10_run_372 : decode cX10_run 372 = .ok (.iload_n 3, 1) := by decide +kernel
theorem dX10_run_373 : decode cX10_run 373 = .ok (.if_icmp .eq 13, 3) := by decide +kernel
theorem dX10_run_376 : decode cX10_run 376 = .ok (.aload_n 0, 1) := by decide +kernel
theorem dX10_run_377 : decode cX10_run 377 = .ok (.getfield 19, 3) := by decide +kernel
theorem dX10_run_380 : decode cX10_run 380 = .ok (.iload 14, 2) := by decide +kernel
theorem dX10_run_382 : decode cX10_run 382 = .ok (.iaload, 1) := by decide +kernel
theorem dX10_run_383 : decode cX10_run 383 = .ok (.goto 19, 3) := by decide +kernel
theorem dX10_run_386 : decode cX10_run 386 = .ok (.iconst 5, 1) := by decide +kernel
theorem dX10_run_387 : decode cX10_run 387 = .ok (.iload 11, 2) := by decide +kernel
theorem dX10_run_389 : decode cX10_run 389 = .ok (.iload 6, 2) := by decide +kernel
theorem dX10_run_391 : decode cX10_run 391 = .ok (.if_icmp .lt 8, 3) := by decide +kernel
theorem dX10_run_394 : decode cX10_run 394 = .ok (.iload 5, 2) := by decide +kernel
theorem dX10_run_396 : decode cX10_run 396 = .ok (.goto 5, 3) := by decide +kernel
theorem dX10_run_399 : decode cX10_run 399 = .ok (.iload 4, 2) := by decide +kernel
theorem dX10_run_401 : decode cX10_run 401 = .ok (.iadd, 1) := by decide +kernel
theorem dX10_run_402 : decode cX10_run 402 = .ok (.istore 15, 2) := by decide +kernel
theorem dX10_run_404 : decode cX10_run 404 = .ok (.aload_n 0, 1) := by decide +kernel
theorem dX10_run_405 : decode cX10_run 405 = .ok (.iload 14, 2) := by decide +kernel
theorem dX10_run_407 : decode cX10_run 407 = .ok (.iload 15, 2) := by decide +kernel
theorem dX10_run_409 : decode cX10_run 409 = .ok (.iload 10, 2) := by decide +kernel
theorem dX10_run_411 : decode cX10_run 411 = .ok (.invokevirtual 229, 3) := by decide +kernel
theorem dX10_run_414 : decode cX10_run 414 = .ok (.iinc 13 1, 3) := by decide +kernel
theorem dX10_run_417 : decode cX10_run 417 = .ok (.goto (-73), 3) := by decide +kernel
theorem dX10_run_420 : decode cX10_run 420 = .ok (.iload 7, 2) := by decide +kernel
theorem dX10_run_422 : decode cX10_run 422 = .ok (.ifCond .eq 7, 3) := by decide +kernel
theorem dX10_run_425 : decode cX10_run 425 = .ok (.aload_n 0, 1) := by decide +kernel
theorem dX10_run_426 : decode cX10_run 426 = .ok (.invokevirtual 219, 3) := by decide +kernel
theorem dX10_run_429 : decode cX10_run 429 = .ok (.goto (-256), 3) := by decide +kernel
theorem dX10_run_432 : decode cX10_run 432 = .ok (.iconst 1, 1) := by decide +kernel
theorem dX10_run_433 : decode cX10_run 433 = .ok (.ireturn, 1) := by decide +kernel
theorem dX10_score_0 : decode cX10_score 0 = .ok (.aload_n 0, 1) := by decide +kernel
theorem dX10_score_1 : decode cX10_score 1 = .ok (.lload 5, 2) := by decide +kernel
theorem dX10_score_3 : decode cX10_score 3 = .ok (.iload_n 1, 1) := by decide +kernel
theorem dX10_score_4 : decode cX10_score 4 = .ok (.iload_n 3, 1) := by decide +kernel
theorem dX10_score_5 : decode cX10_score 5 = .ok (.iload 4, 2) := by decide +kernel
theorem dX10_score_7 : decode cX10_score 7 = .ok (.iload_n 2, 1) := by decide +kernel
theorem dX10_score_8 : decode cX10_score 8 = .ok (.iconst 0, 1) := by decide +kernel
theorem dX10_score_9 : decode cX10_score 9 = .ok (.invokevirtual 239, 3) := by decide +kernel
theorem dX10_score_12 : decode cX10_score 12 = .ok (.ifCond .ne 5, 3) := by decide +kernel
theorem dX10_score_15 : decode cX10_score 15 = .ok (.iconst (-1), 1) := by decide +kernel
theorem dX10_score_16 : decode cX10_score 16 = .ok (.ireturn, 1) := by decide +kernel
theorem dX10_score_17 : decode cX10_score 17 = .ok (.iconst 0, 1) := by decide +kernel
theorem dX10_score_18 : decode cX10_score 18 = .ok (.istore 7, 2) := by decide +kernel
theorem dX10_score_20 : decode cX10_score 20 = .ok (.iconst 0, 1) := by decide +kernel
theorem dX10_score_21 : decode cX10_score 21 = .ok (.istore 8, 2) := by decide +kernel
theorem dX10_score_23 : decode cX10_score 23 = .ok (.iconst 1, 1) := by decide +kernel
theorem dX10_score_24 : decode cX10_score 24 = .ok (.istore 9, 2) := by decide +kernel
theorem dX10_score_26 : decode cX10_score 26 = .ok (.iload 9, 2) := by decide +kernel
theorem dX10_score_28 : decode cX10_score 28 = .ok (.bipush 20, 2) := by decide +kernel
theorem dX10_score_30 : decode cX10_score 30 = .ok (.if_icmp .gt 71, 3) := by decide +kernel
theorem dX10_score_33 : decode cX10_score 33 = .ok (.iload 8, 2) := by decide +kernel
theorem dX10_score_35 : decode cX10_score 35 = .ok (.iconst 3, 1) := by decide +kernel
theorem dX10_score_36 : decode cX10_score 36 = .ok (.if_icmp .ge 65, 3) := by decide +kernel
theorem dX10_score_39 : decode cX10_score 39 = .ok (.iconst 0, 1) := by decide +kernel
theorem dX10_score_40 : decode cX10_score 40 = .ok (.istore 10, 2) := by decide +kernel
theorem dX10_score_42 : decode cX10_score 42 = .ok (.iload 10, 2) := by decide +kernel
theorem dX10_score_44 : decode cX10_score 44 = .ok (.aload_n 0, 1) := by decide +kernel
theorem dX10_score_45 : decode cX10_score 45 = .ok (.getfield 123, 3) := by decide +kernel
theorem dX10_score_48 : decode cX10_score 48 = .ok (.if_icmp .ge 47, 3) := by decide +kernel
theorem dX10_score_51 : decode cX10_score 51 = .ok (.aload_n 0, 1) := by decide +kernel
theorem dX10_score_52 : decode cX10_score 52 = .ok (.getfield 19, 3) := by decide +kernel
theorem dX10_score_55 : decode cX10_score 55 = .ok (.iload 10, 2) := by decide +kernel
theorem dX10_score_57 : decode cX10_score 57 = .ok (.iaload, 1) := by decide +kernel
theorem dX10_score_58 : decode cX10_score 58 = .ok (.iload_n 1, 1) := by decide +kernel
theorem dX10_score_59 : decode cX10_score 59 = .ok (.if_icmp .ne 30, 3) := by decide +kernel
theorem dX10_score_62 : decode cX10_score 62 = .ok (.iload 8, 2) := by decide +kernel
theorem dX10_score_64 : decode cX10_score 64 = .ok (.iconst 3, 1) := by decide +kernel
theorem dX10_score_65 : decode cX10_score 65 = .ok (.if_icmp .ge 24, 3) := by decide +kernel
theorem dX10_score_68 : decode cX10_score 68 = .ok (.aload_n 0, 1) := by decide +kernel
theorem dX10_score_69 : decode cX10_score 69 = .ok (.iload 10, 2) := by decide +kernel
theorem dX10_score_71 : decode cX10_score 71 = .ok (.invokevirtual 256, 3) := by decide +kernel
theorem dX10_score_74 : decode cX10_score 74 = .ok (.iload 9, 2) := by decide +kernel
theorem dX10_score_76 : decode cX10_score 76 = .ok (.if_icmp .ne 13, 3) := by decide +kernel
theorem dX10_score_79 : decode cX10_score 79 = .ok (.iload 7, 2) := by decide +kernel
theorem dX10_score_81 : decode cX10_score 81 = .ok (.iload 9, 2) := by decide +kernel
theorem dX10_score_83 : decode cX10_score 83 = .ok (.iadd, 1) := by decide +kernel
theorem dX10_score_84 : decode cX10_score 84 = .ok (.istore 7, 2) := by decide +kernel
theorem dX10_score_86 : decode cX10_score 86 = .ok (.iinc 8 1, 3) := by decide +kernel
theorem dX10_score_89 : decode cX10_score 89 = .ok (.iinc 10 1, 3) := by decide +kernel
theorem dX10_score_92 : decode cX10_score 92 = .ok (.goto (-50), 3) := by decide +kernel
theorem dX10_score_95 : decode cX10_score 95 = .ok (.iinc 9 1, 3) := by decide +kernel
theorem dX10_score_98 : decode cX10_score 98 = .ok (.goto (-72), 3) := by decide +kernel
theorem dX10_score_101 : decode cX10_score 101 = .ok (.iload 7, 2) := by decide +kernel
theorem dX10_score_103 : decode cX10_score 103 = .ok (.bipush 40, 2) := by decide +kernel
theorem dX10_score_105 : decode cX10_score 105 = .ok (.iconst 3, 1) := by decide +kernel
theorem dX10_score_106 : decode cX10_score 106 = .ok (.iload 8, 2) := by decide +kernel
theorem dX10_score_108 : decode cX10_score 108 = .ok (.isub, 1) := by decide +kernel
theorem dX10_score_109 : decode cX10_score 109 = .ok (.imul, 1) := by decide +kernel
theorem dX10_score_110 : decode cX10_score 110 = .ok (.iadd, 1) := by decide +kernel
theorem dX10_score_111 : decode cX10_score 111 = .ok (.ireturn, 1) := by decide +kernel
theorem dX10_standing_0 : decode cX10_standing 0 = .ok (.aload_n 0, 1) := by decide +kernel
theorem dX10_standing_1 : decode cX10_standing 1 = .ok (.getfield 63, 3) := by decide +kernel
theorem dX10_standing_4 : decode cX10_standing 4 = .ok (.iload_n 1, 1) := by decide +kernel
theorem dX10_standing_5 : decode cX10_standing 5 = .ok (.baload, 1) := by decide +kernel
theorem dX10_standing_6 : decode cX10_standing 6 = .ok (.ifCond .eq 5, 3) := by decide +kernel
theorem dX10_standing_9 : decode cX10_standing 9 = .ok (.iconst 0, 1) := by decide +kernel
theorem dX10_standing_10 : decode cX10_standing 10 = .ok (.ireturn, 1) := by decide +kernel
theorem dX10_standing_11 : decode cX10_standing 11 = .ok (.iconst 1, 1) := by decide +kernel
theorem dX10_standing_12 : decode cX10_standing 12 = .ok (.istore_n 2, 1) := by decide +kernel
theorem dX10_standing_13 : decode cX10_standing 13 = .ok (.iconst 0, 1) := by decide +kernel
theorem dX10_standing_14 : decode cX10_standing 14 = .ok (.istore_n 3, 1) := by decide +kernel
theorem dX10_standing_15 : decode cX10_standing 15 = .ok (.iload_n 3, 1) := by decide +kernel
theorem dX10_standing_16 : decode cX10_standing 16 = .ok (.aload_n 0, 1) := by decide +kernel
theorem dX10_standing_17 : decode cX10_standing 17 = .ok (.getfield 123, 3) := by decide +kernel
theorem dX10_standing_20 : decode cX10_standing 20 = .ok (.if_icmp .ge 40, 3) := by decide +kernel
theorem dX10_standing_23 : decode cX10_standing 23 = .ok (.iload_n 2, 1) := by decide +kernel
theorem dX10_standing_24 : decode cX10_standing 24 = .ok (.iload_n 3, 1) := by decide +kernel
theorem dX10_standing_25 : decode cX10_standing 25 = .ok (.iload_n 1, 1) := by decide +kernel
theorem dX10_standing_26 : decode cX10_standing 26 = .ok (.if_icmp .eq 25, 3) := by decide +kernel
theorem dX10_standing_29 : decode cX10_standing 29 = .ok (.aload_n 0, 1) := by decide +kernel
theorem dX10_standing_30 : decode cX10_standing 30 = .ok (.getfield 63, 3) := by decide +kernel
theorem dX10_standing_33 : decode cX10_standing 33 = .ok (.iload_n 3, 1) := by decide +kernel
theorem dX10_standing_34 : decode cX10_standing 34 = .ok (.baload, 1) := by decide +kernel
theorem dX10_standing_35 : decode cX10_standing 35 = .ok (.ifCond .ne 16, 3) := by decide +kernel
theorem dX10_standing_38 : decode cX10_standing 38 = .ok (.aload_n 0, 1) := by decide +kernel
theorem dX10_standing_39 : decode cX10_standing 39 = .ok (.iload_n 3, 1) := by decide +kernel
theorem dX10_standing_40 : decode cX10_standing 40 = .ok (.iload_n 1, 1) := by decide +kernel
theorem dX10_standing_41 : decode cX10_standing 41 = .ok (.invokevirtual 265, 3) := by decide +kernel
theorem dX10_standing_44 : decode cX10_standing 44 = .ok (.ifCond .eq 7, 3) := by decide +kernel
theorem dX10_standing_47 : decode cX10_standing 47 = .ok (.iconst 1, 1) := by decide +kernel
theorem dX10_standing_48 : decode cX10_standing 48 = .ok (.goto 4, 3) := by decide +kernel
theorem dX10_standing_51 : decode cX10_standing 51 = .ok (.iconst 0, 1) := by decide +kernel
theorem dX10_standing_52 : decode cX10_standing 52 = .ok (.iadd, 1) := by decide +kernel
theorem dX10_standing_53 : decode cX10_standing 53 = .ok (.istore_n 2, 1) := by decide +kernel
theorem dX10_standing_54 : decode cX10_standing 54 = .ok (.iinc 3 1, 3) := by decide +kernel
theorem dX10_standing_57 : decode cX10_standing 57 = .ok (.goto (-42), 3) := by decide +kernel
theorem dX10_standing_60 : decode cX10_standing 60 = .ok (.iload_n 2, 1) := by decide +kernel
theorem dX10_standing_61 : decode cX10_standing 61 = .ok (.ireturn, 1) := by decide +kernel
theorem dX10_store_0 : decode cX10_store 0 = .ok (.iconst 0, 1) := by decide +kernel
theorem dX10_store_1 : decode cX10_store 1 = .ok (.istore_n 2, 1) := by decide +kernel
theorem dX10_store_2 : decode cX10_store 2 = .ok (.iload_n 2, 1) := by decide +kernel
theorem dX10_store_3 : decode cX10_store 3 = .ok (.aload_n 0, 1) := by decide +kernel
theorem dX10_store_4 : decode cX10_store 4 = .ok (.getfield 160, 3) := by decide +kernel
theorem dX10_store_7 : decode cX10_store 7 = .ok (.if_icmp .ge 75, 3) := by decide +kernel
theorem dX10_store_10 : decode cX10_store 10 = .ok (.sipush 216, 3) := by decide +kernel
theorem dX10_store_13 : decode cX10_store 13 = .ok (.iload_n 2, 1) := by decide +kernel
theorem dX10_store_14 : decode cX10_store 14 = .ok (.iadd, 1) := by decide +kernel
theorem dX10_store_15 : decode cX10_store 15 = .ok (.istore_n 3, 1) := by decide +kernel
theorem dX10_store_16 : decode cX10_store 16 = .ok (.bipush 24, 2) := by decide +kernel
theorem dX10_store_18 : decode cX10_store 18 = .ok (.iload_n 1, 1) := by decide +kernel
theorem dX10_store_19 : decode cX10_store 19 = .ok (.imul, 1) := by decide +kernel
theorem dX10_store_20 : decode cX10_store 20 = .ok (.iload_n 2, 1) := by decide +kernel
theorem dX10_store_21 : decode cX10_store 21 = .ok (.iadd, 1) := by decide +kernel
theorem dX10_store_22 : decode cX10_store 22 = .ok (.istore 4, 2) := by decide +kernel
theorem dX10_store_24 : decode cX10_store 24 = .ok (.aload_n 0, 1) := by decide +kernel
theorem dX10_store_25 : decode cX10_store 25 = .ok (.getfield 47, 3) := by decide +kernel
theorem dX10_store_28 : decode cX10_store 28 = .ok (.iload 4, 2) := by decide +kernel
theorem dX10_store_30 : decode cX10_store 30 = .ok (.aload_n 0, 1) := by decide +kernel
theorem dX10_store_31 : decode cX10_store 31 = .ok (.getfield 47, 3) := by decide +kernel
theorem dX10_store_34 : decode cX10_store 34 = .ok (.iload_n 3, 1) := by decide +kernel
theorem dX10_store_35 : decode cX10_store 35 = .ok (.iaload, 1) := by decide +kernel
theorem dX10_store_36 : decode cX10_store 36 = .ok (.iastore, 1) := by decide +kernel
theorem dX10_store_37 : decode cX10_store 37 = .ok (.aload_n 0, 1) := by decide +kernel
theorem dX10_store_38 : decode cX10_store 38 = .ok (.getfield 50, 3) := by decide +kernel
theorem dX10_store_41 : decode cX10_store 41 = .ok (.iload 4, 2) := by decide +kernel
theorem dX10_store_43 : decode cX10_store 43 = .ok (.aload_n 0, 1) := by decide +kernel
theorem dX10_store_44 : decode cX10_store 44 = .ok (.getfield 50, 3) := by decide +kernel
theorem dX10_store_47 : decode cX10_store 47 = .ok (.iload_n 3, 1) := by decide +kernel
theorem dX10_store_48 : decode cX10_store 48 = .ok (.iaload, 1) := by decide +kernel
theorem dX10_store_49 : decode cX10_store 49 = .ok (.iastore, 1) := by decide +kernel
theorem dX10_store_50 : decode cX10_store 50 = .ok (.aload_n 0, 1) := by decide +kernel
theorem dX10_store_51 : decode cX10_store 51 = .ok (.getfield 53, 3) := by decide +kernel
theorem dX10_store_54 : decode cX10_store 54 = .ok (.iload 4, 2) := by decide +kernel
theorem dX10_store_56 : decode cX10_store 56 = .ok (.aload_n 0, 1) := by decide +kernel
theorem dX10_store_57 : decode cX10_store 57 = .ok (.getfield 53, 3) := by decide +kernel
theorem dX10_store_60 : decode cX10_store 60 = .ok (.iload_n 3, 1) := by decide +kernel
theorem dX10_store_61 : decode cX10_store 61 = .ok (.iaload, 1) := by decide +kernel
theorem dX10_store_62 : decode cX10_store 62 = .ok (.iastore, 1) := by decide +kernel
theorem dX10_store_63 : decode cX10_store 63 = .ok (.aload_n 0, 1) := by decide +kernel
theorem dX10_store_64 : decode cX10_store 64 = .ok (.getfield 56, 3) := by decide +kernel
theorem dX10_store_67 : decode cX10_store 67 = .ok (.iload 4, 2) := by decide +kernel
theorem dX10_store_69 : decode cX10_store 69 = .ok (.aload_n 0, 1) := by decide +kernel
theorem dX10_store_70 : decode cX10_store 70 = .ok (.getfield 56, 3) := by decide +kernel
theorem dX10_store_73 : decode cX10_store 73 = .ok (.iload_n 3, 1) := by decide +kernel
theorem dX10_store_74 : decode cX10_store 74 = .ok (.iaload, 1) := by decide +kernel
theorem dX10_store_75 : decode cX10_store 75 = .ok (.iastore, 1) := by decide +kernel
theorem dX10_store_76 : decode cX10_store 76 = .ok (.iinc 2 1, 3) := by decide +kernel
theorem dX10_store_79 : decode cX10_store 79 = .ok (.goto (-77), 3) := by decide +kernel
theorem dX10_store_82 : decode cX10_store 82 = .ok (.aload_n 0, 1) := by decide +kernel
theorem dX10_store_83 : decode cX10_store 83 = .ok (.getfield 44, 3) := by decide +kernel
theorem dX10_store_86 : decode cX10_store 86 = .ok (.iload_n 1, 1) := by decide +kernel
theorem dX10_store_87 : decode cX10_store 87 = .ok (.aload_n 0, 1) := by decide +kernel
theorem dX10_store_88 : decode cX10_store 88 = .ok (.getfield 160, 3) := by decide +kernel
theorem dX10_store_91 : decode cX10_store 91 = .ok (.iastore, 1) := by decide +kernel
theorem dX10_store_92 : decode cX10_store 92 = .ok (.aload_n 0, 1) := by decide +kernel
theorem dX10_store_93 : decode cX10_store 93 = .ok (.iconst 0, 1) := by decide +kernel
theorem dX10_store_94 : decode cX10_store 94 = .ok (.putfield 147, 3) := by decide +kernel
theorem dX10_store_97 : decode cX10_store 97 = .ok (.return_, 1) := by decide +kernel
theorem dX10_sum_0 : decode cX10_sum 0 = .ok (.aload_n 0, 1) := by decide +kernel
theorem dX10_sum_1 : decode cX10_sum 1 = .ok (.iload_n 1, 1) := by decide +kernel
theorem dX10_sum_2 : decode cX10_sum 2 = .ok (.invokevirtual 262, 3) := by decide +kernel
theorem dX10_sum_5 : decode cX10_sum 5 = .ok (.ifCond .ne 5, 3) := by decide +kernel
theorem dX10_sum_8 : decode cX10_sum 8 = .ok (.iconst (-1), 1) := by decide +kernel
theorem dX10_sum_9 : decode cX10_sum 9 = .ok (.ireturn, 1) := by decide +kernel
theorem dX10_sum_10 : decode cX10_sum 10 = .ok (.iload_n 2, 1) := by decide +kernel
theorem dX10_sum_11 : decode cX10_sum 11 = .ok (.tableswitch 64 0 3 #[29, 36, 43, 58], 29) := by decide +kernel
theorem dX10_sum_40 : decode cX10_sum 40 = .ok (.aload_n 0, 1) := by decide +kernel
theorem dX10_sum_41 : decode cX10_sum 41 = .ok (.getfield 114, 3) := by decide +kernel
theorem dX10_sum_44 : decode cX10_sum 44 = .ok (.iload_n 1, 1) := by decide +kernel
theorem dX10_sum_45 : decode cX10_sum 45 = .ok (.iaload, 1) := by decide +kernel
theorem dX10_sum_46 : decode cX10_sum 46 = .ok (.ireturn, 1) := by decide +kernel
theorem dX10_sum_47 : decode cX10_sum 47 = .ok (.aload_n 0, 1) := by decide +kernel
theorem dX10_sum_48 : decode cX10_sum 48 = .ok (.getfield 117, 3) := by decide +kernel
theorem dX10_sum_51 : decode cX10_sum 51 = .ok (.iload_n 1, 1) := by decide +kernel
theorem dX10_sum_52 : decode cX10_sum 52 = .ok (.iaload, 1) := by decide +kernel
theorem dX10_sum_53 : decode cX10_sum 53 = .ok (.ireturn, 1) := by decide +kernel
theorem dX10_sum_54 : decode cX10_sum 54 = .ok (.aload_n 0, 1) := by decide +kernel
theorem dX10_sum_55 : decode cX10_sum 55 = .ok (.getfield 63, 3) := by decide +kernel
theorem dX10_sum_58 : decode cX10_sum 58 = .ok (.iload_n 1, 1) := by decide +kernel
theorem dX10_sum_59 : decode cX10_sum 59 = .ok (.baload, 1) := by decide +kernel
theorem dX10_sum_60 : decode cX10_sum 60 = .ok (.ifCond .eq 7, 3) := by decide +kernel
theorem dX10_sum_63 : decode cX10_sum 63 = .ok (.iconst 1, 1) := by decide +kernel
theorem dX10_sum_64 : decode cX10_sum 64 = .ok (.goto 4, 3) := by decide +kernel
theorem dX10_sum_67 : decode cX10_sum 67 = .ok (.iconst 0, 1) := by decide +kernel
theorem dX10_sum_68 : decode cX10_sum 68 = .ok (.ireturn, 1) := by decide +kernel
theorem dX10_sum_69 : decode cX10_sum 69 = .ok (.aload_n 0, 1) := by decide +kernel
theorem dX10_sum_70 : decode cX10_sum 70 = .ok (.iload_n 1, 1) := by decide +kernel
theorem dX10_sum_71 : decode cX10_sum 71 = .ok (.invokevirtual 268, 3) := by decide +kernel
theorem dX10_sum_74 : decode cX10_sum 74 = .ok (.ireturn, 1) := by decide +kernel
theorem dX10_sum_75 : decode cX10_sum 75 = .ok (.iconst (-1), 1) := by decide +kernel
theorem dX10_sum_76 : decode cX10_sum 76 = .ok (.ireturn, 1) := by decide +kernel
theorem dX10_team_0 : decode cX10_team 0 = .ok (.iload_n 1, 1) := by decide +kernel
theorem dX10_team_1 : decode cX10_team 1 = .ok (.iconst 0, 1) := by decide +kernel
theorem dX10_team_2 : decode cX10_team 2 = .ok (.iconst 4, 1) := by decide +kernel
theorem dX10_team_3 : decode cX10_team 3 = .ok (.invokestatic 126, 3) := by decide +kernel
theorem dX10_team_6 : decode cX10_team 6 = .ok (.ifCond .ne 5, 3) := by decide +kernel
theorem dX10_team_9 : decode cX10_team 9 = .ok (.iconst (-1), 1) := by decide +kernel
theorem dX10_team_10 : decode cX10_team 10 = .ok (.ireturn, 1) := by decide +kernel
theorem dX10_team_11 : decode cX10_team 11 = .ok (.iconst 0, 1) := by decide +kernel
theorem dX10_team_12 : decode cX10_team 12 = .ok (.istore_n 2, 1) := by decide +kernel
theorem dX10_team_13 : decode cX10_team 13 = .ok (.iconst 0, 1) := by decide +kernel
theorem dX10_team_14 : decode cX10_team 14 = .ok (.istore_n 3, 1) := by decide +kernel
theorem dX10_team_15 : decode cX10_team 15 = .ok (.iconst 0, 1) := by decide +kernel
theorem dX10_team_16 : decode cX10_team 16 = .ok (.istore 4, 2) := by decide +kernel
theorem dX10_team_18 : decode cX10_team 18 = .ok (.iload 4, 2) := by decide +kernel
theorem dX10_team_20 : decode cX10_team 20 = .ok (.bipush 20, 2) := by decide +kernel
theorem dX10_team_22 : decode cX10_team 22 = .ok (.if_icmp .ge 17, 3) := by decide +kernel
theorem dX10_team_25 : decode cX10_team 25 = .ok (.aload_n 0, 1) := by decide +kernel
theorem dX10_team_26 : decode cX10_team 26 = .ok (.getfield 120, 3) := by decide +kernel
theorem dX10_team_29 : decode cX10_team 29 = .ok (.iload 4, 2) := by decide +kernel
theorem dX10_team_31 : decode cX10_team 31 = .ok (.iconst 0, 1) := by decide +kernel
theorem dX10_team_32 : decode cX10_team 32 = .ok (.bastore, 1) := by decide +kernel
theorem dX10_team_33 : decode cX10_team 33 = .ok (.iinc 4 1, 3) := by decide +kernel
theorem dX10_team_36 : decode cX10_team 36 = .ok (.goto (-18), 3) := by decide +kernel
theorem dX10_team_39 : decode cX10_team 39 = .ok (.iload_n 3, 1) := by decide +kernel
theorem dX10_team_40 : decode cX10_team 40 = .ok (.iconst 3, 1) := by decide +kernel
theorem dX10_team_41 : decode cX10_team 41 = .ok (.if_icmp .ge 114, 3) := by decide +kernel
theorem dX10_team_44 : decode cX10_team 44 = .ok (.iconst (-1), 1) := by decide +kernel
theorem dX10_team_45 : decode cX10_team 45 = .ok (.istore 4, 2) := by decide +kernel
theorem dX10_team_47 : decode cX10_team 47 = .ok (.iconst 0, 1) := by decide +kernel
theorem dX10_team_48 : decode cX10_team 48 = .ok (.istore 5, 2) := by decide +kernel
theorem dX10_team_50 : decode cX10_team 50 = .ok (.iload 5, 2) := by decide +kernel
theorem dX10_team_52 : decode cX10_team 52 = .ok (.aload_n 0, 1) := by decide +kernel
theorem dX10_team_53 : decode cX10_team 53 = .ok (.getfield 123, 3) := by decide +kernel
theorem dX10_team_56 : decode cX10_team 56 = .ok (.if_icmp .ge 67, 3) := by decide +kernel
theorem dX10_team_59 : decode cX10_team 59 = .ok (.aload_n 0, 1) := by decide +kernel
theorem dX10_team_60 : decode cX10_team 60 = .ok (.getfield 19, 3) := by decide +kernel
theorem dX10_team_63 : decode cX10_team 63 = .ok (.iload 5, 2) := by decide +kernel
theorem dX10_team_65 : decode cX10_team 65 = .ok (.iaload, 1) := by decide +kernel
theorem dX10_team_66 : decode cX10_team 66 = .ok (.iload_n 1, 1) := by decide +kernel
theorem dX10_team_67 : decode cX10_team 67 = .ok (.if_icmp .ne 50, 3) := by decide +kernel
theorem dX10_team_70 : decode cX10_team 70 = .ok (.aload_n 0, 1) := by decide +kernel
theorem dX10_team_71 : decode cX10_team 71 = .ok (.getfield 63, 3) := by decide +kernel
theorem dX10_team_74 : decode cX10_team 74 = .ok (.iload 5, 2) := by decide +kernel
theorem dX10_team_76 : decode cX10_team 76 = .ok (.baload, 1) := by decide +kernel
theorem dX10_team_77 : decode cX10_team 77 = .ok (.ifCond .ne 40, 3) := by decide +kernel
theorem dX10_team_80 : decode cX10_team 80 = .ok (.aload_n 0, 1) := by decide +kernel
theorem dX10_team_81 : decode cX10_team 81 = .ok (.getfield 120, 3) := by decide +kernel
theorem dX10_team_84 : decode cX10_team 84 = .ok (.iload 5, 2) := by decide +kernel
theorem dX10_team_86 : decode cX10_team 86 = .ok (.baload, 1) := by decide +kernel
theorem dX10_team_87 : decode cX10_team 87 = .ok (.ifCond .ne 30, 3) := by decide +kernel
theorem dX10_team_90 : decode cX10_team 90 = .ok (.iload 4, 2) := by decide +kernel
theorem dX10_team_92 : decode cX10_team 92 = .ok (.iconst (-1), 1) := by decide +kernel
theorem dX10_team_93 : decode cX10_team 93 = .ok (.if_icmp .eq 20, 3) := by decide +kernel
theorem dX10_team_96 : decode cX10_team 96 = .ok (.aload_n 0, 1) := by decide +kernel
theorem dX10_team_97 : decode cX10_team 97 = .ok (.getfield 114, 3) := by decide +kernel
theorem dX10_team_100 : decode cX10_team 100 = .ok (.iload 5, 2) := by decide +kernel
theorem dX10_team_102 : decode cX10_team 102 = .ok (.iaload, 1) := by decide +kernel
theorem dX10_team_103 : decode cX10_team 103 = .ok (.aload_n 0, 1) := by decide +kernel
theorem dX10_team_104 : decode cX10_team 104 = .ok (.getfield 114, 3) := by decide +kernel
theorem dX10_team_107 : decode cX10_team 107 = .ok (.iload 4, 2) := by decide +kernel
theorem dX10_team_109 : decode cX10_team 109 = .ok (.iaload, 1) := by decide +kernel
theorem dX10_team_110 : decode cX10_team 110 = .ok (.if_icmp .ge 7, 3) := by decide +kernel
theorem dX10_team_113 : decode cX10_team 113 = .ok (.iload 5, 2) := by decide +kernel
theorem dX10_team_115 : decode cX10_team 115 = .ok (.istore 4, 2) := by decide +kernel
theorem dX10_team_117 : decode cX10_team 117 = .ok (.iinc 5 1, 3) := by decide +kernel
theorem dX10_team_120 : decode cX10_team 120 = .ok (.goto (-70), 3) := by decide +kernel
theorem dX10_team_123 : decode cX10_team 123 = .ok (.iload 4, 2) := by decide +kernel
theorem dX10_team_125 : decode cX10_team 125 = .ok (.iconst (-1), 1) := by decide +kernel
theorem dX10_team_126 : decode cX10_team 126 = .ok (.if_icmp .ne 5, 3) := by decide +kernel
theorem dX10_team_129 : decode cX10_team 129 = .ok (.iconst (-1), 1) := by decide +kernel
theorem dX10_team_130 : decode cX10_team 130 = .ok (.ireturn, 1) := by decide +kernel
theorem dX10_team_131 : decode cX10_team 131 = .ok (.aload_n 0, 1) := by decide +kernel
theorem dX10_team_132 : decode cX10_team 132 = .ok (.getfield 120, 3) := by decide +kernel
theorem dX10_team_135 : decode cX10_team 135 = .ok (.iload 4, 2) := by decide +kernel
theorem dX10_team_137 : decode cX10_team 137 = .ok (.iconst 1, 1) := by decide +kernel
theorem dX10_team_138 : decode cX10_team 138 = .ok (.bastore, 1) := by decide +kernel
theorem dX10_team_139 : decode cX10_team 139 = .ok (.iload_n 2, 1) := by decide +kernel
theorem dX10_team_140 : decode cX10_team 140 = .ok (.aload_n 0, 1) := by decide +kernel
theorem dX10_team_141 : decode cX10_team 141 = .ok (.getfield 114, 3) := by decide +kernel
theorem dX10_team_144 : decode cX10_team 144 = .ok (.iload 4, 2) := by decide +kernel
theorem dX10_team_146 : decode cX10_team 146 = .ok (.iaload, 1) := by decide +kernel
theorem dX10_team_147 : decode cX10_team 147 = .ok (.iadd, 1) := by decide +kernel
theorem dX10_team_148 : decode cX10_team 148 = .ok (.istore_n 2, 1) := by decide +kernel
theorem dX10_team_149 : decode cX10_team 149 = .ok (.iinc 3 1, 3) := by decide +kernel
theorem dX10_team_152 : decode cX10_team 152 = .ok (.goto (-113), 3) := by decide +kernel
theorem dX10_team_155 : decode cX10_team 155 = .ok (.iload_n 2, 1) := by decide +kernel
theorem dX10_team_156 : decode cX10_team 156 = .ok (.ireturn, 1) := by decide +kernel
theorem dX10_told_0 : decode cX10_told 0 = .ok (.aload_n 0, 1) := by decide +kernel
theorem dX10_told_1 : decode cX10_told 1 = .ok (.getfield 243, 3) := by decide +kernel
theorem dX10_told_4 : decode cX10_told 4 = .ok (.ifCond .eq 44, 3) := by decide +kernel
theorem dX10_told_7 : decode cX10_told 7 = .ok (.aload_n 0, 1) := by decide +kernel
theorem dX10_told_8 : decode cX10_told 8 = .ok (.iload_n 1, 1) := by decide +kernel
theorem dX10_told_9 : decode cX10_told 9 = .ok (.invokevirtual 262, 3) := by decide +kernel
theorem dX10_told_12 : decode cX10_told 12 = .ok (.ifCond .eq 36, 3) := by decide +kernel
theorem dX10_told_15 : decode cX10_told 15 = .ok (.aload_n 0, 1) := by decide +kernel
theorem dX10_told_16 : decode cX10_told 16 = .ok (.getfield 105, 3) := by decide +kernel
theorem dX10_told_19 : decode cX10_told 19 = .ok (.iload_n 1, 1) := by decide +kernel
theorem dX10_told_20 : decode cX10_told 20 = .ok (.baload, 1) := by decide +kernel
theorem dX10_told_21 : decode cX10_told 21 = .ok (.ifCond .eq 27, 3) := by decide +kernel
theorem dX10_told_24 : decode cX10_told 24 = .ok (.iload_n 2, 1) := by decide +kernel
theorem dX10_told_25 : decode cX10_told 25 = .ok (.iconst 0, 1) := by decide +kernel
theorem dX10_told_26 : decode cX10_told 26 = .ok (.bipush 7, 2) := by decide +kernel
theorem dX10_told_28 : decode cX10_told 28 = .ok (.invokestatic 126, 3) := by decide +kernel
theorem dX10_told_31 : decode cX10_told 31 = .ok (.ifCond .eq 17, 3) := by decide +kernel
theorem dX10_told_34 : decode cX10_told 34 = .ok (.aload_n 0, 1) := by decide +kernel
theorem dX10_told_35 : decode cX10_told 35 = .ok (.getfield 108, 3) := by decide +kernel
theorem dX10_told_38 : decode cX10_told 38 = .ok (.bipush 8, 2) := by decide +kernel
theorem dX10_told_40 : decode cX10_told 40 = .ok (.iload_n 1, 1) := by decide +kernel
theorem dX10_told_41 : decode cX10_told 41 = .ok (.imul, 1) := by decide +kernel
theorem dX10_told_42 : decode cX10_told 42 = .ok (.iload_n 2, 1) := by decide +kernel
theorem dX10_told_43 : decode cX10_told 43 = .ok (.iadd, 1) := by decide +kernel
theorem dX10_told_44 : decode cX10_told 44 = .ok (.iaload, 1) := by decide +kernel
theorem dX10_told_45 : decode cX10_told 45 = .ok (.goto 4, 3) := by decide +kernel
theorem dX10_told_48 : decode cX10_told 48 = .ok (.iconst (-1), 1) := by decide +kernel
theorem dX10_told_49 : decode cX10_told 49 = .ok (.ireturn, 1) := by decide +kernel
theorem dX10_valueOf_0 : decode cX10_valueOf 0 = .ok (.iload_n 1, 1) := by decide +kernel
theorem dX10_valueOf_1 : decode cX10_valueOf 1 = .ok (.lookupswitch 112 #[(103, 93), (107, 73), (110, 105), (115, 43)], 43) := by decide +kernel
theorem dX10_valueOf_44 : decode cX10_valueOf 44 = .ok (.aload_n 0, 1) := by decide +kernel
theorem dX10_valueOf_45 : decode cX10_valueOf 45 = .ok (.getfield 26, 3) := by decide +kernel
theorem dX10_valueOf_48 : decode cX10_valueOf 48 = .ok (.iload_n 2, 1) := by decide +kernel
theorem dX10_valueOf_49 : decode cX10_valueOf 49 = .ok (.iaload, 1) := by decide +kernel
theorem dX10_valueOf_50 : decode cX10_valueOf 50 = .ok (.ifCond .ne 7, 3) := by decide +kernel
theorem dX10_valueOf_53 : decode cX10_valueOf 53 = .ok (.iconst 0, 1) := by decide +kernel
theorem dX10_valueOf_54 : decode cX10_valueOf 54 = .ok (.goto 19, 3) := by decide +kernel
theorem dX10_valueOf_57 : decode cX10_valueOf 57 = .ok (.aload_n 0, 1) := by decide +kernel
theorem dX10_valueOf_58 : decode cX10_valueOf 58 = .ok (.getfield 69, 3) := by decide +kernel
theorem dX10_valueOf_61 : decode cX10_valueOf 61 = .ok (.iload_n 2, 1) := by decide +kernel
theorem dX10_valueOf_62 : decode cX10_valueOf 62 = .ok (.iaload, 1) := by decide +kernel
theorem dX10_valueOf_63 : decode cX10_valueOf 63 = .ok (.bipush 100, 2) := by decide +kernel
theorem dX10_valueOf_65 : decode cX10_valueOf 65 = .ok (.imul, 1) := by decide +kernel
theorem dX10_valueOf_66 : decode cX10_valueOf 66 = .ok (.aload_n 0, 1) := by decide +kernel
theorem dX10_valueOf_67 : decode cX10_valueOf 67 = .ok (.getfield 26, 3) := by decide +kernel
theorem dX10_valueOf_70 : decode cX10_valueOf 70 = .ok (.iload_n 2, 1) := by decide +kernel
theorem dX10_valueOf_71 : decode cX10_valueOf 71 = .ok (.iaload, 1) := by decide +kernel
theorem dX10_valueOf_72 : decode cX10_valueOf 72 = .ok (.idiv, 1) := by decide +kernel
theorem dX10_valueOf_73 : decode cX10_valueOf 73 = .ok (.ireturn, 1) := by decide +kernel
theorem dX10_valueOf_74 : decode cX10_valueOf 74 = .ok (.sipush 1000, 3) := by decide +kernel
theorem dX10_valueOf_77 : decode cX10_valueOf 77 = .ok (.aload_n 0, 1) := by decide +kernel
theorem dX10_valueOf_78 : decode cX10_valueOf 78 = .ok (.getfield 9, 3) := by decide +kernel
theorem dX10_valueOf_81 : decode cX10_valueOf 81 = .ok (.imul, 1) := by decide +kernel
theorem dX10_valueOf_82 : decode cX10_valueOf 82 = .ok (.aload_n 0, 1) := by decide +kernel
theorem dX10_valueOf_83 : decode cX10_valueOf 83 = .ok (.getfield 96, 3) := by decide +kernel
theorem dX10_valueOf_86 : decode cX10_valueOf 86 = .ok (.iload_n 2, 1) := by decide +kernel
theorem dX10_valueOf_87 : decode cX10_valueOf 87 = .ok (.iaload, 1) := by decide +kernel
theorem dX10_valueOf_88 : decode cX10_valueOf 88 = .ok (.isub, 1) := by decide +kernel
theorem dX10_valueOf_89 : decode cX10_valueOf 89 = .ok (.sipush 1000, 3) := by decide +kernel
theorem dX10_valueOf_92 : decode cX10_valueOf 92 = .ok (.idiv, 1) := by decide +kernel
theorem dX10_valueOf_93 : decode cX10_valueOf 93 = .ok (.ireturn, 1) := by decide +kernel
theorem dX10_valueOf_94 : decode cX10_valueOf 94 = .ok (.iload_n 3, 1) := by decide +kernel
theorem dX10_valueOf_95 : decode cX10_valueOf 95 = .ok (.aload_n 0, 1) := by decide +kernel
theorem dX10_valueOf_96 : decode cX10_valueOf 96 = .ok (.getfield 96, 3) := by decide +kernel
theorem dX10_valueOf_99 : decode cX10_valueOf 99 = .ok (.iload_n 2, 1) := by decide +kernel
theorem dX10_valueOf_100 : decode cX10_valueOf 100 = .ok (.iaload, 1) := by decide +kernel
theorem dX10_valueOf_101 : decode cX10_valueOf 101 = .ok (.isub, 1) := by decide +kernel
theorem dX10_valueOf_102 : decode cX10_valueOf 102 = .ok (.bipush 10, 2) := by decide +kernel
theorem dX10_valueOf_104 : decode cX10_valueOf 104 = .ok (.idiv, 1) := by decide +kernel
theorem dX10_valueOf_105 : decode cX10_valueOf 105 = .ok (.ireturn, 1) := by decide +kernel
theorem dX10_valueOf_106 : decode cX10_valueOf 106 = .ok (.aload_n 0, 1) := by decide +kernel
theorem dX10_valueOf_107 : decode cX10_valueOf 107 = .ok (.getfield 90, 3) := by decide +kernel
theorem dX10_valueOf_110 : decode cX10_valueOf 110 = .ok (.iload_n 2, 1) := by decide +kernel
theorem dX10_valueOf_111 : decode cX10_valueOf 111 = .ok (.iaload, 1) := by decide +kernel
theorem dX10_valueOf_112 : decode cX10_valueOf 112 = .ok (.ireturn, 1) := by decide +kernel
theorem dX10_valueOf_113 : decode cX10_valueOf 113 = .ok (.aload_n 0, 1) := by decide +kernel
theorem dX10_valueOf_114 : decode cX10_valueOf 114 = .ok (.getfield 93, 3) := by decide +kernel
theorem dX10_valueOf_117 : decode cX10_valueOf 117 = .ok (.iload_n 2, 1) := by decide +kernel
theorem dX10_valueOf_118 : decode cX10_valueOf 118 = .ok (.iaload, 1) := by decide +kernel
theorem dX10_valueOf_119 : decode cX10_valueOf 119 = .ok (.ireturn, 1) := by decide +kernel
theorem dX1_clearDraft_0 : decode cX1_clearDraft 0 = .ok (.aload_n 0, 1) := by decide +kernel
theorem dX1_clearDraft_1 : decode cX1_clearDraft 1 = .ok (.getfield 9, 3) := by decide +kernel
theorem dX1_clearDraft_4 : decode cX1_clearDraft 4 = .ok (.bipush 9, 2) := by decide +kernel
theorem dX1_clearDraft_6 : decode cX1_clearDraft 6 = .ok (.iconst 0, 1) := by decide +kernel
theorem dX1_clearDraft_7 : decode cX1_clearDraft 7 = .ok (.iastore, 1) := by decide +kernel
theorem dX1_clearDraft_8 : decode cX1_clearDraft 8 = .ok (.return_, 1) := by decide +kernel
theorem dX1_draftClause_0 : decode cX1_draftClause 0 = .ok (.aload_n 0, 1) := by decide +kernel
theorem dX1_draftClause_1 : decode cX1_draftClause 1 = .ok (.getfield 9, 3) := by decide +kernel
theorem dX1_draftClause_4 : decode cX1_draftClause 4 = .ok (.bipush 9, 2) := by decide +kernel
theorem dX1_draftClause_6 : decode cX1_draftClause 6 = .ok (.iaload, 1) := by decide +kernel
theorem dX1_draftClause_7 : decode cX1_draftClause 7 = .ok (.bipush 16, 2) := by decide +kernel
theorem dX1_draftClause_9 : decode cX1_draftClause 9 = .ok (.if_icmp .lt 4, 3) := by decide +kernel
theorem dX1_draftClause_12 : decode cX1_draftClause 12 = .ok (.return_, 1) := by decide +kernel
theorem dX1_draftClause_13 : decode cX1_draftClause 13 = .ok (.sipush 144, 3) := by decide +kernel
theorem dX1_draftClause_16 : decode cX1_draftClause 16 = .ok (.aload_n 0, 1) := by decide +kernel
theorem dX1_draftClause_17 : decode cX1_draftClause 17 = .ok (.getfield 9, 3) := by decide +kernel
theorem dX1_draftClause_20 : decode cX1_draftClause 20 = .ok (.bipush 9, 2) := by decide +kernel
theorem dX1_draftClause_22 : decode cX1_draftClause 22 = .ok (.iaload, 1) := by decide +kernel
theorem dX1_draftClause_23 : decode cX1_draftClause 23 = .ok (.iadd, 1) := by decide +kernel
theorem dX1_draftClause_24 : decode cX1_draftClause 24 = .ok (.istore 5, 2) := by decide +kernel
theorem dX1_draftClause_26 : decode cX1_draftClause 26 = .ok (.aload_n 0, 1) := by decide +kernel
theorem dX1_draftClause_27 : decode cX1_draftClause 27 = .ok (.getfield 15, 3) := by decide +kernel
theorem dX1_draftClause_30 : decode cX1_draftClause 30 = .ok (.iload 5, 2) := by decide +kernel
theorem dX1_draftClause_32 : decode cX1_draftClause 32 = .ok (.iload_n 1, 1) := by decide +kernel
theorem dX1_draftClause_33 : decode cX1_draftClause 33 = .ok (.iastore, 1) := by decide +kernel
theorem dX1_draftClause_34 : decode cX1_draftClause 34 = .ok (.aload_n 0, 1) := by decide +kernel
theorem dX1_draftClause_35 : decode cX1_draftClause 35 = .ok (.getfield 18, 3) := by decide +kernel
theorem dX1_draftClause_38 : decode cX1_draftClause 38 = .ok (.iload 5, 2) := by decide +kernel
theorem dX1_draftClause_40 : decode cX1_draftClause 40 = .ok (.iload_n 2, 1) := by decide +kernel
theorem dX1_draftClause_41 : decode cX1_draftClause 41 = .ok (.iastore, 1) := by decide +kernel
theorem dX1_draftClause_42 : decode cX1_draftClause 42 = .ok (.aload_n 0, 1) := by decide +kernel
theorem dX1_draftClause_43 : decode cX1_draftClause 43 = .ok (.getfield 21, 3) := by decide +kernel
theorem dX1_draftClause_46 : decode cX1_draftClause 46 = .ok (.iload 5, 2) := by decide +kernel
theorem dX1_draftClause_48 : decode cX1_draftClause 48 = .ok (.iload_n 3, 1) := by decide +kernel
theorem dX1_draftClause_49 : decode cX1_draftClause 49 = .ok (.iastore, 1) := by decide +kernel
theorem dX1_draftClause_50 : decode cX1_draftClause 50 = .ok (.aload_n 0, 1) := by decide +kernel
theorem dX1_draftClause_51 : decode cX1_draftClause 51 = .ok (.getfield 24, 3) := by decide +kernel
theorem dX1_draftClause_54 : decode cX1_draftClause 54 = .ok (.iload 5, 2) := by decide +kernel
theorem dX1_draftClause_56 : decode cX1_draftClause 56 = .ok (.iload 4, 2) := by decide +kernel
theorem dX1_draftClause_58 : decode cX1_draftClause 58 = .ok (.iastore, 1) := by decide +kernel
theorem dX1_draftClause_59 : decode cX1_draftClause 59 = .ok (.aload_n 0, 1) := by decide +kernel
theorem dX1_draftClause_60 : decode cX1_draftClause 60 = .ok (.getfield 9, 3) := by decide +kernel
theorem dX1_draftClause_63 : decode cX1_draftClause 63 = .ok (.bipush 9, 2) := by decide +kernel
theorem dX1_draftClause_65 : decode cX1_draftClause 65 = .ok (.dup2, 1) := by decide +kernel
theorem dX1_draftClause_66 : decode cX1_draftClause 66 = .ok (.iaload, 1) := by decide +kernel
theorem dX1_draftClause_67 : decode cX1_draftClause 67 = .ok (.iconst 1, 1) := by decide +kernel
theorem dX1_draftClause_68 : decode cX1_draftClause 68 = .ok (.iadd, 1) := by decide +kernel
theorem dX1_draftClause_69 : decode cX1_draftClause 69 = .ok (.iastore, 1) := by decide +kernel
theorem dX1_draftClause_70 : decode cX1_draftClause 70 = .ok (.return_, 1) := by decide +kernel
theorem dX1_holds_0 : decode cX1_holds 0 = .ok (.aload_n 0, 1) := by decide +kernel
theorem dX1_holds_1 : decode cX1_holds 1 = .ok (.getfield 18, 3) := by decide +kernel
theorem dX1_holds_4 : decode cX1_holds 4 = .ok (.iload_n 1, 1) := by decide +kernel
theorem dX1_holds_5 : decode cX1_holds 5 = .ok (.iaload, 1) := by decide +kernel
theorem dX1_holds_6 : decode cX1_holds 6 = .ok (.lookupswitch 58 #[(60, 26), (62, 42)], 26) := by decide +kernel
theorem dX1_holds_32 : decode cX1_holds 32 = .ok (.iload_n 2, 1) := by decide +kernel
theorem dX1_holds_33 : decode cX1_holds 33 = .ok (.aload_n 0, 1) := by decide +kernel
theorem dX1_holds_34 : decode cX1_holds 34 = .ok (.getfield 21, 3) := by decide +kernel
theorem dX1_holds_37 : decode cX1_holds 37 = .ok (.iload_n 1, 1) := by decide +kernel
theorem dX1_holds_38 : decode cX1_holds 38 = .ok (.iaload, 1) := by decide +kernel
theorem dX1_holds_39 : decode cX1_holds 39 = .ok (.if_icmp .ge 7, 3) := by decide +kernel
theorem dX1_holds_42 : decode cX1_holds 42 = .ok (.iconst 1, 1) := by decide +kernel
theorem dX1_holds_43 : decode cX1_holds 43 = .ok (.goto 4, 3) := by decide +kernel
theorem dX1_holds_46 : decode cX1_holds 46 = .ok (.iconst 0, 1) := by decide +kernel
theorem dX1_holds_47 : decode cX1_holds 47 = .ok (.ireturn, 1) := by decide +kernel
theorem dX1_holds_48 : decode cX1_holds 48 = .ok (.iload_n 2, 1) := by decide +kernel
theorem dX1_holds_49 : decode cX1_holds 49 = .ok (.aload_n 0, 1) := by decide +kernel
theorem dX1_holds_50 : decode cX1_holds 50 = .ok (.getfield 21, 3) := by decide +kernel
theorem dX1_holds_53 : decode cX1_holds 53 = .ok (.iload_n 1, 1) := by decide +kernel
theorem dX1_holds_54 : decode cX1_holds 54 = .ok (.iaload, 1) := by decide +kernel
theorem dX1_holds_55 : decode cX1_holds 55 = .ok (.if_icmp .le 7, 3) := by decide +kernel
theorem dX1_holds_58 : decode cX1_holds 58 = .ok (.iconst 1, 1) := by decide +kernel
theorem dX1_holds_59 : decode cX1_holds 59 = .ok (.goto 4, 3) := by decide +kernel
theorem dX1_holds_62 : decode cX1_holds 62 = .ok (.iconst 0, 1) := by decide +kernel
theorem dX1_holds_63 : decode cX1_holds 63 = .ok (.ireturn, 1) := by decide +kernel
theorem dX1_holds_64 : decode cX1_holds 64 = .ok (.iload_n 2, 1) := by decide +kernel
theorem dX1_holds_65 : decode cX1_holds 65 = .ok (.aload_n 0, 1) := by decide +kernel
theorem dX1_holds_66 : decode cX1_holds 66 = .ok (.getfield 21, 3) := by decide +kernel
theorem dX1_holds_69 : decode cX1_holds 69 = .ok (.iload_n 1, 1) := by decide +kernel
theorem dX1_holds_70 : decode cX1_holds 70 = .ok (.iaload, 1) := by decide +kernel
theorem dX1_holds_71 : decode cX1_holds 71 = .ok (.if_icmp .ne 7, 3) := by decide +kernel
theorem dX1_holds_74 : decode cX1_holds 74 = .ok (.iconst 1, 1) := by decide +kernel
theorem dX1_holds_75 : decode cX1_holds 75 = .ok (.goto 4, 3) := by decide +kernel
theorem dX1_holds_78 : decode cX1_holds 78 = .ok (.iconst 0, 1) := by decide +kernel
theorem dX1_holds_79 : decode cX1_holds 79 = .ok (.ireturn, 1) := by decide +kernel
theorem dX1_init_0 : decode cX1_init 0 = .ok (.aload_n 0, 1) := by decide +kernel
theorem dX1_init_1 : decode cX1_init 1 = .ok (.invokespecial 3, 3) := by decide +kernel
theorem dX1_init_4 : decode cX1_init 4 = .ok (.aload_n 0, 1) := by decide +kernel
theorem dX1_init_5 : decode cX1_init 5 = .ok (.bipush 10, 2) := by decide +kernel
theorem dX1_init_7 : decode cX1_init 7 = .ok (.newarray .int, 2) := by decide +kernel
theorem dX1_init_9 : decode cX1_init 9 = .ok (.putfield 9, 3) := by decide +kernel
theorem dX1_init_12 : decode cX1_init 12 = .ok (.aload_n 0, 1) := by decide +kernel
theorem dX1_init_13 : decode cX1_init 13 = .ok (.sipush 160, 3) := by decide +kernel
theorem dX1_init_16 : decode cX1_init 16 = .ok (.newarray .int, 2) := by decide +kernel
theorem dX1_init_18 : decode cX1_init 18 = .ok (.putfield 15, 3) := by decide +kernel
theorem dX1_init_21 : decode cX1_init 21 = .ok (.aload_n 0, 1) := by decide +kernel
theorem dX1_init_22 : decode cX1_init 22 = .ok (.sipush 160, 3) := by decide +kernel
theorem dX1_init_25 : decode cX1_init 25 = .ok (.newarray .int, 2) := by decide +kernel
theorem dX1_init_27 : decode cX1_init 27 = .ok (.putfield 18, 3) := by decide +kernel
theorem dX1_init_30 : decode cX1_init 30 = .ok (.aload_n 0, 1) := by decide +kernel
theorem dX1_init_31 : decode cX1_init 31 = .ok (.sipush 160, 3) := by decide +kernel
theorem dX1_init_34 : decode cX1_init 34 = .ok (.newarray .int, 2) := by decide +kernel
theorem dX1_init_36 : decode cX1_init 36 = .ok (.putfield 21, 3) := by decide +kernel
theorem dX1_init_39 : decode cX1_init 39 = .ok (.aload_n 0, 1) := by decide +kernel
theorem dX1_init_40 : decode cX1_init 40 = .ok (.sipush 160, 3) := by decide +kernel
theorem dX1_init_43 : decode cX1_init 43 = .ok (.newarray .int, 2) := by decide +kernel
theorem dX1_init_45 : decode cX1_init 45 = .ok (.putfield 24, 3) := by decide +kernel
theorem dX1_init_48 : decode cX1_init 48 = .ok (.return_, 1) := by decide +kernel
theorem dX1_paceBy_0 : decode cX1_paceBy 0 = .ok (.iload_n 1, 1) := by decide +kernel
theorem dX1_paceBy_1 : decode cX1_paceBy 1 = .ok (.bipush 16, 2) := by decide +kernel
theorem dX1_paceBy_3 : decode cX1_paceBy 3 = .ok (.imul, 1) := by decide +kernel
theorem dX1_paceBy_4 : decode cX1_paceBy 4 = .ok (.istore_n 3, 1) := by decide +kernel
theorem dX1_paceBy_5 : decode cX1_paceBy 5 = .ok (.iconst 0, 1) := by decide +kernel
theorem dX1_paceBy_6 : decode cX1_paceBy 6 = .ok (.istore 4, 2) := by decide +kernel
theorem dX1_paceBy_8 : decode cX1_paceBy 8 = .ok (.iload 4, 2) := by decide +kernel
theorem dX1_paceBy_10 : decode cX1_paceBy 10 = .ok (.aload_n 0, 1) := by decide +kernel
theorem dX1_paceBy_11 : decode cX1_paceBy 11 = .ok (.getfield 9, 3) := by decide +kernel
theorem dX1_paceBy_14 : decode cX1_paceBy 14 = .ok (.iload_n 1, 1) := by decide +kernel
theorem dX1_paceBy_15 : decode cX1_paceBy 15 = .ok (.iaload, 1) := by decide +kernel
theorem dX1_paceBy_16 : decode cX1_paceBy 16 = .ok (.if_icmp .ge 41, 3) := by decide +kernel
theorem dX1_paceBy_19 : decode cX1_paceBy 19 = .ok (.aload_n 0, 1) := by decide +kernel
theorem dX1_paceBy_20 : decode cX1_paceBy 20 = .ok (.iload_n 3, 1) := by decide +kernel
theorem dX1_paceBy_21 : decode cX1_paceBy 21 = .ok (.iload 4, 2) := by decide +kernel
theorem dX1_paceBy_23 : decode cX1_paceBy 23 = .ok (.iadd, 1) := by decide +kernel
theorem dX1_paceBy_24 : decode cX1_paceBy 24 = .ok (.aload_n 2, 1) := by decide +kernel
theorem dX1_paceBy_25 : decode cX1_paceBy 25 = .ok (.aload_n 0, 1) := by decide +kernel
theorem dX1_paceBy_26 : decode cX1_paceBy 26 = .ok (.getfield 15, 3) := by decide +kernel
theorem dX1_paceBy_29 : decode cX1_paceBy 29 = .ok (.iload_n 3, 1) := by decide +kernel
theorem dX1_paceBy_30 : decode cX1_paceBy 30 = .ok (.iload 4, 2) := by decide +kernel
theorem dX1_paceBy_32 : decode cX1_paceBy 32 = .ok (.iadd, 1) := by decide +kernel
theorem dX1_paceBy_33 : decode cX1_paceBy 33 = .ok (.iaload, 1) := by decide +kernel
theorem dX1_paceBy_34 : decode cX1_paceBy 34 = .ok (.iaload, 1) := by decide +kernel
theorem dX1_paceBy_35 : decode cX1_paceBy 35 = .ok (.invokevirtual 27, 3) := by decide +kernel
theorem dX1_paceBy_38 : decode cX1_paceBy 38 = .ok (.ifCond .eq 13, 3) := by decide +kernel
theorem dX1_paceBy_41 : decode cX1_paceBy 41 = .ok (.aload_n 0, 1) := by decide +kernel
theorem dX1_paceBy_42 : decode cX1_paceBy 42 = .ok (.getfield 24, 3) := by decide +kernel
theorem dX1_paceBy_45 : decode cX1_paceBy 45 = .ok (.iload_n 3, 1) := by decide +kernel
theorem dX1_paceBy_46 : decode cX1_paceBy 46 = .ok (.iload 4, 2) := by decide +kernel
theorem dX1_paceBy_48 : decode cX1_paceBy 48 = .ok (.iadd, 1) := by decide +kernel
theorem dX1_paceBy_49 : decode cX1_paceBy 49 = .ok (.iaload, 1) := by decide +kernel
theorem dX1_paceBy_50 : decode cX1_paceBy 50 = .ok (.ireturn, 1) := by decide +kernel
theorem dX1_paceBy_51 : decode cX1_paceBy 51 = .ok (.iinc 4 1, 3) := by decide +kernel
theorem dX1_paceBy_54 : decode cX1_paceBy 54 = .ok (.goto (-46), 3) := by decide +kernel
theorem dX1_paceBy_57 : decode cX1_paceBy 57 = .ok (.iconst 4, 1) := by decide +kernel
theorem dX1_paceBy_58 : decode cX1_paceBy 58 = .ok (.ireturn, 1) := by decide +kernel
theorem dX1_takeDraft_0 : decode cX1_takeDraft 0 = .ok (.sipush 144, 3) := by decide +kernel
theorem dX1_takeDraft_3 : decode cX1_takeDraft 3 = .ok (.istore_n 2, 1) := by decide +kernel
theorem dX1_takeDraft_4 : decode cX1_takeDraft 4 = .ok (.iload_n 1, 1) := by decide +kernel
theorem dX1_takeDraft_5 : decode cX1_takeDraft 5 = .ok (.bipush 16, 2) := by decide +kernel
theorem dX1_takeDraft_7 : decode cX1_takeDraft 7 = .ok (.imul, 1) := by decide +kernel
theorem dX1_takeDraft_8 : decode cX1_takeDraft 8 = .ok (.istore_n 3, 1) := by decide +kernel
theorem dX1_takeDraft_9 : decode cX1_takeDraft 9 = .ok (.iconst 0, 1) := by decide +kernel
theorem dX1_takeDraft_10 : decode cX1_takeDraft 10 = .ok (.istore 4, 2) := by decide +kernel
theorem dX1_takeDraft_12 : decode cX1_takeDraft 12 = .ok (.iload 4, 2) := by decide +kernel
theorem dX1_takeDraft_14 : decode cX1_takeDraft 14 = .ok (.bipush 16, 2) := by decide +kernel
theorem dX1_takeDraft_16 : decode cX1_takeDraft 16 = .ok (.if_icmp .ge 81, 3) := by decide +kernel
theorem dX1_takeDraft_19 : decode cX1_takeDraft 19 = .ok (.aload_n 0, 1) := by decide +kernel
theorem dX1_takeDraft_20 : decode cX1_takeDraft 20 = .ok (.getfield 15, 3) := by decide +kernel
theorem dX1_takeDraft_23 : decode cX1_takeDraft 23 = .ok (.iload_n 3, 1) := by decide +kernel
theorem dX1_takeDraft_24 : decode cX1_takeDraft 24 = .ok (.iload 4, 2) := by decide +kernel
theorem dX1_takeDraft_26 : decode cX1_takeDraft 26 = .ok (.iadd, 1) := by decide +kernel
theorem dX1_takeDraft_27 : decode cX1_takeDraft 27 = .ok (.aload_n 0, 1) := by decide +kernel
theorem dX1_takeDraft_28 : decode cX1_takeDraft 28 = .ok (.getfield 15, 3) := by decide +kernel
theorem dX1_takeDraft_31 : decode cX1_takeDraft 31 = .ok (.iload_n 2, 1) := by decide +kernel
theorem dX1_takeDraft_32 : decode cX1_takeDraft 32 = .ok (.iload 4, 2) := by decide +kernel
theorem dX1_takeDraft_34 : decode cX1_takeDraft 34 = .ok (.iadd, 1) := by decide +kernel
theorem dX1_takeDraft_35 : decode cX1_takeDraft 35 = .ok (.iaload, 1) := by decide +kernel
theorem dX1_takeDraft_36 : decode cX1_takeDraft 36 = .ok (.iastore, 1) := by decide +kernel
theorem dX1_takeDraft_37 : decode cX1_takeDraft 37 = .ok (.aload_n 0, 1) := by decide +kernel
theorem dX1_takeDraft_38 : decode cX1_takeDraft 38 = .ok (.getfield 18, 3) := by decide +kernel
theorem dX1_takeDraft_41 : decode cX1_takeDraft 41 = .ok (.iload_n 3, 1) := by decide +kernel
theorem dX1_takeDraft_42 : decode cX1_takeDraft 42 = .ok (.iload 4, 2) := by decide +kernel
theorem dX1_takeDraft_44 : decode cX1_takeDraft 44 = .ok (.iadd, 1) := by decide +kernel
theorem dX1_takeDraft_45 : decode cX1_takeDraft 45 = .ok (.aload_n 0, 1) := by decide +kernel
theorem dX1_takeDraft_46 : decode cX1_takeDraft 46 = .ok (.getfield 18, 3) := by decide +kernel
theorem dX1_takeDraft_49 : decode cX1_takeDraft 49 = .ok (.iload_n 2, 1) := by decide +kernel
theorem dX1_takeDraft_50 : decode cX1_takeDraft 50 = .ok (.iload 4, 2) := by decide +kernel
theorem dX1_takeDraft_52 : decode cX1_takeDraft 52 = .ok (.iadd, 1) := by decide +kernel
theorem dX1_takeDraft_53 : decode cX1_takeDraft 53 = .ok (.iaload, 1) := by decide +kernel
theorem dX1_takeDraft_54 : decode cX1_takeDraft 54 = .ok (.iastore, 1) := by decide +kernel
theorem dX1_takeDraft_55 : decode cX1_takeDraft 55 = .ok (.aload_n 0, 1) := by decide +kernel
theorem dX1_takeDraft_56 : decode cX1_takeDraft 56 = .ok (.getfield 21, 3) := by decide +kernel
theorem dX1_takeDraft_59 : decode cX1_takeDraft 59 = .ok (.iload_n 3, 1) := by decide +kernel
theorem dX1_takeDraft_60 : decode cX1_takeDraft 60 = .ok (.iload 4, 2) := by decide +kernel
theorem dX1_takeDraft_62 : decode cX1_takeDraft 62 = .ok (.iadd, 1) := by decide +kernel
theorem dX1_takeDraft_63 : decode cX1_takeDraft 63 = .ok (.aload_n 0, 1) := by decide +kernel
theorem dX1_takeDraft_64 : decode cX1_takeDraft 64 = .ok (.getfield 21, 3) := by decide +kernel
theorem dX1_takeDraft_67 : decode cX1_takeDraft 67 = .ok (.iload_n 2, 1) := by decide +kernel
theorem dX1_takeDraft_68 : decode cX1_takeDraft 68 = .ok (.iload 4, 2) := by decide +kernel
theorem dX1_takeDraft_70 : decode cX1_takeDraft 70 = .ok (.iadd, 1) := by decide +kernel
theorem dX1_takeDraft_71 : decode cX1_takeDraft 71 = .ok (.iaload, 1) := by decide +kernel
theorem dX1_takeDraft_72 : decode cX1_takeDraft 72 = .ok (.iastore, 1) := by decide +kernel
theorem dX1_takeDraft_73 : decode cX1_takeDraft 73 = .ok (.aload_n 0, 1) := by decide +kernel
theorem dX1_takeDraft_74 : decode cX1_takeDraft 74 = .ok (.getfield 24, 3) := by decide +kernel
theorem dX1_takeDraft_77 : decode cX1_takeDraft 77 = .ok (.iload_n 3, 1) := by decide +kernel
theorem dX1_takeDraft_78 : decode cX1_takeDraft 78 = .ok (.iload 4, 2) := by decide +kernel
theorem dX1_takeDraft_80 : decode cX1_takeDraft 80 = .ok (.iadd, 1) := by decide +kernel
theorem dX1_takeDraft_81 : decode cX1_takeDraft 81 = .ok (.aload_n 0, 1) := by decide +kernel
theorem dX1_takeDraft_82 : decode cX1_takeDraft 82 = .ok (.getfield 24, 3) := by decide +kernel
theorem dX1_takeDraft_85 : decode cX1_takeDraft 85 = .ok (.iload_n 2, 1) := by decide +kernel
theorem dX1_takeDraft_86 : decode cX1_takeDraft 86 = .ok (.iload 4, 2) := by decide +kernel
theorem dX1_takeDraft_88 : decode cX1_takeDraft 88 = .ok (.iadd, 1) := by decide +kernel
theorem dX1_takeDraft_89 : decode cX1_takeDraft 89 = .ok (.iaload, 1) := by decide +kernel
theorem dX1_takeDraft_90 : decode cX1_takeDraft 90 = .ok (.iastore, 1) := by decide +kernel
theorem dX1_takeDraft_91 : decode cX1_takeDraft 91 = .ok (.iinc 4 1, 3) := by decide +kernel
theorem dX1_takeDraft_94 : decode cX1_takeDraft 94 = .ok (.goto (-82), 3) := by decide +kernel
theorem dX1_takeDraft_97 : decode cX1_takeDraft 97 = .ok (.aload_n 0, 1) := by decide +kernel
theorem dX1_takeDraft_98 : decode cX1_takeDraft 98 = .ok (.getfield 9, 3) := by decide +kernel
theorem dX1_takeDraft_101 : decode cX1_takeDraft 101 = .ok (.iload_n 1, 1) := by decide +kernel
theorem dX1_takeDraft_102 : decode cX1_takeDraft 102 = .ok (.aload_n 0, 1) := by decide +kernel
theorem dX1_takeDraft_103 : decode cX1_takeDraft 103 = .ok (.getfield 9, 3) := by decide +kernel
theorem dX1_takeDraft_106 : decode cX1_takeDraft 106 = .ok (.bipush 9, 2) := by decide +kernel
theorem dX1_takeDraft_108 : decode cX1_takeDraft 108 = .ok (.iaload, 1) := by decide +kernel
theorem dX1_takeDraft_109 : decode cX1_takeDraft 109 = .ok (.iastore, 1) := by decide +kernel
theorem dX1_takeDraft_110 : decode cX1_takeDraft 110 = .ok (.return_, 1) := by decide +kernel
theorem dX2_askedBy_0 : decode cX2_askedBy 0 = .ok (.iload_n 0, 1) := by decide +kernel
theorem dX2_askedBy_1 : decode cX2_askedBy 1 = .ok (.tableswitch 77 103 115 #[71, 77, 77, 77, 69, 77, 77, 73, 77, 75, 77, 77, 67], 67) := by decide +kernel
theorem dX2_askedBy_68 : decode cX2_askedBy 68 = .ok (.iconst 0, 1) := by decide +kernel
theorem dX2_askedBy_69 : decode cX2_askedBy 69 = .ok (.ireturn, 1) := by decide +kernel
theorem dX2_askedBy_70 : decode cX2_askedBy 70 = .ok (.iconst 1, 1) := by decide +kernel
theorem dX2_askedBy_71 : decode cX2_askedBy 71 = .ok (.ireturn, 1) := by decide +kernel
theorem dX2_askedBy_72 : decode cX2_askedBy 72 = .ok (.iconst 2, 1) := by decide +kernel
theorem dX2_askedBy_73 : decode cX2_askedBy 73 = .ok (.ireturn, 1) := by decide +kernel
theorem dX2_askedBy_74 : decode cX2_askedBy 74 = .ok (.iconst 3, 1) := by decide +kernel
theorem dX2_askedBy_75 : decode cX2_askedBy 75 = .ok (.ireturn, 1) := by decide +kernel
theorem dX2_askedBy_76 : decode cX2_askedBy 76 = .ok (.iconst 4, 1) := by decide +kernel
theorem dX2_askedBy_77 : decode cX2_askedBy 77 = .ok (.ireturn, 1) := by decide +kernel
theorem dX2_askedBy_78 : decode cX2_askedBy 78 = .ok (.iconst (-1), 1) := by decide +kernel
theorem dX2_askedBy_79 : decode cX2_askedBy 79 = .ok (.ireturn, 1) := by decide +kernel
theorem dX2_faultOf_0 : decode cX2_faultOf 0 = .ok (.aload_n 2, 1) := by decide +kernel
theorem dX2_faultOf_1 : decode cX2_faultOf 1 = .ok (.invokevirtual 27, 3) := by decide +kernel
theorem dX2_faultOf_4 : decode cX2_faultOf 4 = .ok (.aload_n 0, 1) := by decide +kernel
theorem dX2_faultOf_5 : decode cX2_faultOf 5 = .ok (.iconst 0, 1) := by decide +kernel
theorem dX2_faultOf_6 : decode cX2_faultOf 6 = .ok (.putfield 11, 3) := by decide +kernel
theorem dX2_faultOf_9 : decode cX2_faultOf 9 = .ok (.iconst 0, 1) := by decide +kernel
theorem dX2_faultOf_10 : decode cX2_faultOf 10 = .ok (.istore_n 3, 1) := by decide +kernel
theorem dX2_faultOf_11 : decode cX2_faultOf 11 = .ok (.iload_n 3, 1) := by decide +kernel
theorem dX2_faultOf_12 : decode cX2_faultOf 12 = .ok (.aload_n 1, 1) := by decide +kernel
theorem dX2_faultOf_13 : decode cX2_faultOf 13 = .ok (.getfield 32, 3) := by decide +kernel
theorem dX2_faultOf_16 : decode cX2_faultOf 16 = .ok (.if_icmp .ge 25, 3) := by decide +kernel
theorem dX2_faultOf_19 : decode cX2_faultOf 19 = .ok (.aload_n 0, 1) := by decide +kernel
theorem dX2_faultOf_20 : decode cX2_faultOf 20 = .ok (.aload_n 1, 1) := by decide +kernel
theorem dX2_faultOf_21 : decode cX2_faultOf 21 = .ok (.getfield 37, 3) := by decide +kernel
theorem dX2_faultOf_24 : decode cX2_faultOf 24 = .ok (.iload_n 3, 1) := by decide +kernel
theorem dX2_faultOf_25 : decode cX2_faultOf 25 = .ok (.iaload, 1) := by decide +kernel
theorem dX2_faultOf_26 : decode cX2_faultOf 26 = .ok (.aload_n 2, 1) := by decide +kernel
theorem dX2_faultOf_27 : decode cX2_faultOf 27 = .ok (.invokevirtual 41, 3) := by decide +kernel
theorem dX2_faultOf_30 : decode cX2_faultOf 30 = .ok (.ifCond .ne 5, 3) := by decide +kernel
theorem dX2_faultOf_33 : decode cX2_faultOf 33 = .ok (.iload_n 3, 1) := by decide +kernel
theorem dX2_faultOf_34 : decode cX2_faultOf 34 = .ok (.ireturn, 1) := by decide +kernel
theorem dX2_faultOf_35 : decode cX2_faultOf 35 = .ok (.iinc 3 1, 3) := by decide +kernel
theorem dX2_faultOf_38 : decode cX2_faultOf 38 = .ok (.goto (-27), 3) := by decide +kernel
theorem dX2_faultOf_41 : decode cX2_faultOf 41 = .ok (.aload_n 0, 1) := by decide +kernel
theorem dX2_faultOf_42 : decode cX2_faultOf 42 = .ok (.getfield 11, 3) := by decide +kernel
theorem dX2_faultOf_45 : decode cX2_faultOf 45 = .ok (.ifCond .eq 12, 3) := by decide +kernel
theorem dX2_faultOf_48 : decode cX2_faultOf 48 = .ok (.aload_n 0, 1) := by decide +kernel
theorem dX2_faultOf_49 : decode cX2_faultOf 49 = .ok (.getfield 11, 3) := by decide +kernel
theorem dX2_faultOf_52 : decode cX2_faultOf 52 = .ok (.bipush 7, 2) := by decide +kernel
theorem dX2_faultOf_54 : decode cX2_faultOf 54 = .ok (.if_icmp .ne 7, 3) := by decide +kernel
theorem dX2_faultOf_57 : decode cX2_faultOf 57 = .ok (.iconst (-1), 1) := by decide +kernel
theorem dX2_faultOf_58 : decode cX2_faultOf 58 = .ok (.goto 7, 3) := by decide +kernel
theorem dX2_faultOf_61 : decode cX2_faultOf 61 = .ok (.aload_n 1, 1) := by decide +kernel
theorem dX2_faultOf_62 : decode cX2_faultOf 62 = .ok (.getfield 32, 3) := by decide +kernel
theorem dX2_faultOf_65 : decode cX2_faultOf 65 = .ok (.ireturn, 1) := by decide +kernel
theorem dX2_goesOn_0 : decode cX2_goesOn 0 = .ok (.iload_n 1, 1) := by decide +kernel
theorem dX2_goesOn_1 : decode cX2_goesOn 1 = .ok (.bipush 32, 2) := by decide +kernel
theorem dX2_goesOn_3 : decode cX2_goesOn 3 = .ok (.if_icmp .ne 18, 3) := by decide +kernel
theorem dX2_goesOn_6 : decode cX2_goesOn 6 = .ok (.aload_n 0, 1) := by decide +kernel
theorem dX2_goesOn_7 : decode cX2_goesOn 7 = .ok (.getfield 11, 3) := by decide +kernel
theorem dX2_goesOn_10 : decode cX2_goesOn 10 = .ok (.iconst 4, 1) := by decide +kernel
theorem dX2_goesOn_11 : decode cX2_goesOn 11 = .ok (.if_icmp .ne 8, 3) := by decide +kernel
theorem dX2_goesOn_14 : decode cX2_goesOn 14 = .ok (.aload_n 0, 1) := by decide +kernel
theorem dX2_goesOn_15 : decode cX2_goesOn 15 = .ok (.iconst 5, 1) := by decide +kernel
theorem dX2_goesOn_16 : decode cX2_goesOn 16 = .ok (.putfield 11, 3) := by decide +kernel
theorem dX2_goesOn_19 : decode cX2_goesOn 19 = .ok (.iconst 1, 1) := by decide +kernel
theorem dX2_goesOn_20 : decode cX2_goesOn 20 = .ok (.ireturn, 1) := by decide +kernel
theorem dX2_goesOn_21 : decode cX2_goesOn 21 = .ok (.aload_n 0, 1) := by decide +kernel
theorem dX2_goesOn_22 : decode cX2_goesOn 22 = .ok (.getfield 11, 3) := by decide +kernel
theorem dX2_goesOn_25 : decode cX2_goesOn 25 = .ok (.tableswitch 104 0 6 #[43, 43, 49, 55, 61, 87, 97], 43) := by decide +kernel
theorem dX2_goesOn_68 : decode cX2_goesOn 68 = .ok (.aload_n 0, 1) := by decide +kernel
theorem dX2_goesOn_69 : decode cX2_goesOn 69 = .ok (.iload_n 1, 1) := by decide +kernel
theorem dX2_goesOn_70 : decode cX2_goesOn 70 = .ok (.invokevirtual 45, 3) := by decide +kernel
theorem dX2_goesOn_73 : decode cX2_goesOn 73 = .ok (.ireturn, 1) := by decide +kernel
theorem dX2_goesOn_74 : decode cX2_goesOn 74 = .ok (.aload_n 0, 1) := by decide +kernel
theorem dX2_goesOn_75 : decode cX2_goesOn 75 = .ok (.iload_n 1, 1) := by decide +kernel
theorem dX2_goesOn_76 : decode cX2_goesOn 76 = .ok (.invokevirtual 49, 3) := by decide +kernel
theorem dX2_goesOn_79 : decode cX2_goesOn 79 = .ok (.ireturn, 1) := by decide +kernel
theorem dX2_goesOn_80 : decode cX2_goesOn 80 = .ok (.aload_n 0, 1) := by decide +kernel
theorem dX2_goesOn_81 : decode cX2_goesOn 81 = .ok (.iload_n 1, 1) := by decide +kernel
theorem dX2_goesOn_82 : decode cX2_goesOn 82 = .ok (.invokevirtual 52, 3) := by decide +kernel
theorem dX2_goesOn_85 : decode cX2_goesOn 85 = .ok (.ireturn, 1) := by decide +kernel
theorem dX2_goesOn_86 : decode cX2_goesOn 86 = .ok (.aload_n 0, 1) := by decide +kernel
theorem dX2_goesOn_87 : decode cX2_goesOn 87 = .ok (.iload_n 1, 1) := by decide +kernel
theorem dX2_goesOn_88 : decode cX2_goesOn 88 = .ok (.invokevirtual 55, 3) := by decide +kernel
theorem dX2_goesOn_91 : decode cX2_goesOn 91 = .ok (.ifCond .ne 15, 3) := by decide +kernel
theorem dX2_goesOn_94 : decode cX2_goesOn 94 = .ok (.aload_n 0, 1) := by decide +kernel
theorem dX2_goesOn_95 : decode cX2_goesOn 95 = .ok (.iload_n 1, 1) := by decide +kernel
theorem dX2_goesOn_96 : decode cX2_goesOn 96 = .ok (.bipush 58, 2) := by decide +kernel
theorem dX2_goesOn_98 : decode cX2_goesOn 98 = .ok (.bipush 6, 2) := by decide +kernel
theorem dX2_goesOn_100 : decode cX2_goesOn 100 = .ok (.invokevirtual 58, 3) := by decide +kernel
theorem dX2_goesOn_103 : decode cX2_goesOn 103 = .ok (.ifCond .eq 7, 3) := by decide +kernel
theorem dX2_goesOn_106 : decode cX2_goesOn 106 = .ok (.iconst 1, 1) := by decide +kernel
theorem dX2_goesOn_107 : decode cX2_goesOn 107 = .ok (.goto 4, 3) := by decide +kernel
theorem dX2_goesOn_110 : decode cX2_goesOn 110 = .ok (.iconst 0, 1) := by decide +kernel
theorem dX2_goesOn_111 : decode cX2_goesOn 111 = .ok (.ireturn, 1) := by decide +kernel
theorem dX2_goesOn_112 : decode cX2_goesOn 112 = .ok (.aload_n 0, 1) := by decide +kernel
theorem dX2_goesOn_113 : decode cX2_goesOn 113 = .ok (.iload_n 1, 1) := by decide +kernel
theorem dX2_goesOn_114 : decode cX2_goesOn 114 = .ok (.bipush 58, 2) := by decide +kernel
theorem dX2_goesOn_116 : decode cX2_goesOn 116 = .ok (.bipush 6, 2) := by decide +kernel
theorem dX2_goesOn_118 : decode cX2_goesOn 118 = .ok (.invokevirtual 58, 3) := by decide +kernel
theorem dX2_goesOn_121 : decode cX2_goesOn 121 = .ok (.ireturn, 1) := by decide +kernel
theorem dX2_goesOn_122 : decode cX2_goesOn 122 = .ok (.aload_n 0, 1) := by decide +kernel
theorem dX2_goesOn_123 : decode cX2_goesOn 123 = .ok (.iload_n 1, 1) := by decide +kernel
theorem dX2_goesOn_124 : decode cX2_goesOn 124 = .ok (.aload_n 2, 1) := by decide +kernel
theorem dX2_goesOn_125 : decode cX2_goesOn 125 = .ok (.invokevirtual 62, 3) := by decide +kernel
theorem dX2_goesOn_128 : decode cX2_goesOn 128 = .ok (.ireturn, 1) := by decide +kernel
theorem dX2_goesOn_129 : decode cX2_goesOn 129 = .ok (.aload_n 0, 1) := by decide +kernel
theorem dX2_goesOn_130 : decode cX2_goesOn 130 = .ok (.iload_n 1, 1) := by decide +kernel
theorem dX2_goesOn_131 : decode cX2_goesOn 131 = .ok (.bipush 59, 2) := by decide +kernel
theorem dX2_goesOn_133 : decode cX2_goesOn 133 = .ok (.iconst 1, 1) := by decide +kernel
theorem dX2_goesOn_134 : decode cX2_goesOn 134 = .ok (.invokevirtual 58, 3) := by decide +kernel
theorem dX2_goesOn_137 : decode cX2_goesOn 137 = .ok (.ireturn, 1) := by decide +kernel
theorem dX2_init_0 : decode cX2_init 0 = .ok (.aload_n 0, 1) := by decide +kernel
theorem dX2_init_1 : decode cX2_init 1 = .ok (.invokespecial 3, 3) := by decide +kernel
theorem dX2_init_4 : decode cX2_init 4 = .ok (.aload_n 0, 1) := by decide +kernel
theorem dX2_init_5 : decode cX2_init 5 = .ok (.iconst 0, 1) := by decide +kernel
theorem dX2_init_6 : decode cX2_init 6 = .ok (.putfield 11, 3) := by decide +kernel
theorem dX2_init_9 : decode cX2_init 9 = .ok (.aload_n 0, 1) := by decide +kernel
theorem dX2_init_10 : decode cX2_init 10 = .ok (.iconst 0, 1) := by decide +kernel
theorem dX2_init_11 : decode cX2_init 11 = .ok (.putfield 15, 3) := by decide +kernel
theorem dX2_init_14 : decode cX2_init 14 = .ok (.aload_n 0, 1) := by decide +kernel
theorem dX2_init_15 : decode cX2_init 15 = .ok (.iconst 0, 1) := by decide +kernel
theorem dX2_init_16 : decode cX2_init 16 = .ok (.putfield 18, 3) := by decide +kernel
theorem dX2_init_19 : decode cX2_init 19 = .ok (.aload_n 0, 1) := by decide +kernel
theorem dX2_init_20 : decode cX2_init 20 = .ok (.iconst 0, 1) := by decide +kernel
theorem dX2_init_21 : decode cX2_init 21 = .ok (.putfield 21, 3) := by decide +kernel
theorem dX2_init_24 : decode cX2_init 24 = .ok (.aload_n 0, 1) := by decide +kernel
theorem dX2_init_25 : decode cX2_init 25 = .ok (.iconst 0, 1) := by decide +kernel
theorem dX2_init_26 : decode cX2_init 26 = .ok (.putfield 24, 3) := by decide +kernel
theorem dX2_init_29 : decode cX2_init 29 = .ok (.return_, 1) := by decide +kernel
theorem dX2_isDigit_0 : decode cX2_isDigit 0 = .ok (.iload_n 0, 1) := by decide +kernel
theorem dX2_isDigit_1 : decode cX2_isDigit 1 = .ok (.bipush 48, 2) := by decide +kernel
theorem dX2_isDigit_3 : decode cX2_isDigit 3 = .ok (.if_icmp .lt 13, 3) := by decide +kernel
theorem dX2_isDigit_6 : decode cX2_isDigit 6 = .ok (.iload_n 0, 1) := by decide +kernel
theorem dX2_isDigit_7 : decode cX2_isDigit 7 = .ok (.bipush 57, 2) := by decide +kernel
theorem dX2_isDigit_9 : decode cX2_isDigit 9 = .ok (.if_icmp .gt 7, 3) := by decide +kernel
theorem dX2_isDigit_12 : decode cX2_isDigit 12 = .ok (.iconst 1, 1) := by decide +kernel
theorem dX2_isDigit_13 : decode cX2_isDigit 13 = .ok (.goto 4, 3) := by decide +kernel
theorem dX2_isDigit_16 : decode cX2_isDigit 16 = .ok (.iconst 0, 1) := by decide +kernel
theorem dX2_isDigit_17 : decode cX2_isDigit 17 = .ok (.ireturn, 1) := by decide +kernel
theorem dX2_takesDigit_0 : decode cX2_takesDigit 0 = .ok (.iload_n 1, 1) := by decide +kernel
theorem dX2_takesDigit_1 : decode cX2_takesDigit 1 = .ok (.invokestatic 69, 3) := by decide +kernel
theorem dX2_takesDigit_4 : decode cX2_takesDigit 4 = .ok (.ifCond .eq 11, 3) := by decide +kernel
theorem dX2_takesDigit_7 : decode cX2_takesDigit 7 = .ok (.aload_n 0, 1) := by decide +kernel
theorem dX2_takesDigit_8 : decode cX2_takesDigit 8 = .ok (.getfield 24, 3) := by decide +kernel
theorem dX2_takesDigit_11 : decode cX2_takesDigit 11 = .ok (.iconst 3, 1) := by decide +kernel
theorem dX2_takesDigit_12 : decode cX2_takesDigit 12 = .ok (.if_icmp .lt 5, 3) := by decide +kernel
theorem dX2_takesDigit_15 : decode cX2_takesDigit 15 = .ok (.iconst 0, 1) := by decide +kernel
theorem dX2_takesDigit_16 : decode cX2_takesDigit 16 = .ok (.ireturn, 1) := by decide +kernel
theorem dX2_takesDigit_17 : decode cX2_takesDigit 17 = .ok (.aload_n 0, 1) := by decide +kernel
theorem dX2_takesDigit_18 : decode cX2_takesDigit 18 = .ok (.bipush 10, 2) := by decide +kernel
theorem dX2_takesDigit_20 : decode cX2_takesDigit 20 = .ok (.aload_n 0, 1) := by decide +kernel
theorem dX2_takesDigit_21 : decode cX2_takesDigit 21 = .ok (.getfield 21, 3) := by decide +kernel
theorem dX2_takesDigit_24 : decode cX2_takesDigit 24 = .ok (.imul, 1) := by decide +kernel
theorem dX2_takesDigit_25 : decode cX2_takesDigit 25 = .ok (.iload_n 1, 1) := by decide +kernel
theorem dX2_takesDigit_26 : decode cX2_takesDigit 26 = .ok (.iadd, 1) := by decide +kernel
theorem dX2_takesDigit_27 : decode cX2_takesDigit 27 = .ok (.bipush 48, 2) := by decide +kernel
theorem dX2_takesDigit_29 : decode cX2_takesDigit 29 = .ok (.isub, 1) := by decide +kernel
theorem dX2_takesDigit_30 : decode cX2_takesDigit 30 = .ok (.putfield 21, 3) := by decide +kernel
theorem dX2_takesDigit_33 : decode cX2_takesDigit 33 = .ok (.aload_n 0, 1) := by decide +kernel
theorem dX2_takesDigit_34 : decode cX2_takesDigit 34 = .ok (.dup, 1) := by decide +kernel
theorem dX2_takesDigit_35 : decode cX2_takesDigit 35 = .ok (.getfield 24, 3) := by decide +kernel
theorem dX2_takesDigit_38 : decode cX2_takesDigit 38 = .ok (.iconst 1, 1) := by decide +kernel
theorem dX2_takesDigit_39 : decode cX2_takesDigit 39 = .ok (.iadd, 1) := by decide +kernel
theorem dX2_takesDigit_40 : decode cX2_takesDigit 40 = .ok (.putfield 24, 3) := by decide +kernel
theorem dX2_takesDigit_43 : decode cX2_takesDigit 43 = .ok (.aload_n 0, 1) := by decide +kernel
theorem dX2_takesDigit_44 : decode cX2_takesDigit 44 = .ok (.iconst 4, 1) := by decide +kernel
theorem dX2_takesDigit_45 : decode cX2_takesDigit 45 = .ok (.putfield 11, 3) := by decide +kernel
theorem dX2_takesDigit_48 : decode cX2_takesDigit 48 = .ok (.iconst 1, 1) := by decide +kernel
theorem dX2_takesDigit_49 : decode cX2_takesDigit 49 = .ok (.ireturn, 1) := by decide +kernel
theorem dX2_takesFirstDigit_0 : decode cX2_takesFirstDigit 0 = .ok (.aload_n 0, 1) := by decide +kernel
theorem dX2_takesFirstDigit_1 : decode cX2_takesFirstDigit 1 = .ok (.iconst 0, 1) := by decide +kernel
theorem dX2_takesFirstDigit_2 : decode cX2_takesFirstDigit 2 = .ok (.putfield 21, 3) := by decide +kernel
theorem dX2_takesFirstDigit_5 : decode cX2_takesFirstDigit 5 = .ok (.aload_n 0, 1) := by decide +kernel
theorem dX2_takesFirstDigit_6 : decode cX2_takesFirstDigit 6 = .ok (.iconst 0, 1) := by decide +kernel
theorem dX2_takesFirstDigit_7 : decode cX2_takesFirstDigit 7 = .ok (.putfield 24, 3) := by decide +kernel
theorem dX2_takesFirstDigit_10 : decode cX2_takesFirstDigit 10 = .ok (.aload_n 0, 1) := by decide +kernel
theorem dX2_takesFirstDigit_11 : decode cX2_takesFirstDigit 11 = .ok (.iload_n 1, 1) := by decide +kernel
theorem dX2_takesFirstDigit_12 : decode cX2_takesFirstDigit 12 = .ok (.invokevirtual 55, 3) := by decide +kernel
theorem dX2_takesFirstDigit_15 : decode cX2_takesFirstDigit 15 = .ok (.ireturn, 1) := by decide +kernel
theorem dX2_takesLetter_0 : decode cX2_takesLetter 0 = .ok (.iload_n 1, 1) := by decide +kernel
theorem dX2_takesLetter_1 : decode cX2_takesLetter 1 = .ok (.invokestatic 65, 3) := by decide +kernel
theorem dX2_takesLetter_4 : decode cX2_takesLetter 4 = .ok (.istore_n 2, 1) := by decide +kernel
theorem dX2_takesLetter_5 : decode cX2_takesLetter 5 = .ok (.iload_n 2, 1) := by decide +kernel
theorem dX2_takesLetter_6 : decode cX2_takesLetter 6 = .ok (.iconst (-1), 1) := by decide +kernel
theorem dX2_takesLetter_7 : decode cX2_takesLetter 7 = .ok (.if_icmp .ne 5, 3) := by decide +kernel
theorem dX2_takesLetter_10 : decode cX2_takesLetter 10 = .ok (.iconst 0, 1) := by decide +kernel
theorem dX2_takesLetter_11 : decode cX2_takesLetter 11 = .ok (.ireturn, 1) := by decide +kernel
theorem dX2_takesLetter_12 : decode cX2_takesLetter 12 = .ok (.aload_n 0, 1) := by decide +kernel
theorem dX2_takesLetter_13 : decode cX2_takesLetter 13 = .ok (.iload_n 2, 1) := by decide +kernel
theorem dX2_takesLetter_14 : decode cX2_takesLetter 14 = .ok (.putfield 15, 3) := by decide +kernel
theorem dX2_takesLetter_17 : decode cX2_takesLetter 17 = .ok (.aload_n 0, 1) := by decide +kernel
theorem dX2_takesLetter_18 : decode cX2_takesLetter 18 = .ok (.iconst 2, 1) := by decide +kernel
theorem dX2_takesLetter_19 : decode cX2_takesLetter 19 = .ok (.putfield 11, 3) := by decide +kernel
theorem dX2_takesLetter_22 : decode cX2_takesLetter 22 = .ok (.iconst 1, 1) := by decide +kernel
theorem dX2_takesLetter_23 : decode cX2_takesLetter 23 = .ok (.ireturn, 1) := by decide +kernel
theorem dX2_takesMark_0 : decode cX2_takesMark 0 = .ok (.iload_n 1, 1) := by decide +kernel
theorem dX2_takesMark_1 : decode cX2_takesMark 1 = .ok (.iload_n 2, 1) := by decide +kernel
theorem dX2_takesMark_2 : decode cX2_takesMark 2 = .ok (.if_icmp .eq 5, 3) := by decide +kernel
theorem dX2_takesMark_5 : decode cX2_takesMark 5 = .ok (.iconst 0, 1) := by decide +kernel
theorem dX2_takesMark_6 : decode cX2_takesMark 6 = .ok (.ireturn, 1) := by decide +kernel
theorem dX2_takesMark_7 : decode cX2_takesMark 7 = .ok (.aload_n 0, 1) := by decide +kernel
theorem dX2_takesMark_8 : decode cX2_takesMark 8 = .ok (.iload_n 3, 1) := by decide +kernel
theorem dX2_takesMark_9 : decode cX2_takesMark 9 = .ok (.putfield 11, 3) := by decide +kernel
theorem dX2_takesMark_12 : decode cX2_takesMark 12 = .ok (.iconst 1, 1) := by decide +kernel
theorem dX2_takesMark_13 : decode cX2_takesMark 13 = .ok (.ireturn, 1) := by decide +kernel
theorem dX2_takesPace_0 : decode cX2_takesPace 0 = .ok (.iload_n 1, 1) := by decide +kernel
theorem dX2_takesPace_1 : decode cX2_takesPace 1 = .ok (.invokestatic 69, 3) := by decide +kernel
theorem dX2_takesPace_4 : decode cX2_takesPace 4 = .ok (.ifCond .ne 5, 3) := by decide +kernel
theorem dX2_takesPace_7 : decode cX2_takesPace 7 = .ok (.iconst 0, 1) := by decide +kernel
theorem dX2_takesPace_8 : decode cX2_takesPace 8 = .ok (.ireturn, 1) := by decide +kernel
theorem dX2_takesPace_9 : decode cX2_takesPace 9 = .ok (.aload_n 2, 1) := by decide +kernel
theorem dX2_takesPace_10 : decode cX2_takesPace 10 = .ok (.aload_n 0, 1) := by decide +kernel
theorem dX2_takesPace_11 : decode cX2_takesPace 11 = .ok (.getfield 15, 3) := by decide +kernel
theorem dX2_takesPace_14 : decode cX2_takesPace 14 = .ok (.aload_n 0, 1) := by decide +kernel
theorem dX2_takesPace_15 : decode cX2_takesPace 15 = .ok (.getfield 18, 3) := by decide +kernel
theorem dX2_takesPace_18 : decode cX2_takesPace 18 = .ok (.aload_n 0, 1) := by decide +kernel
theorem dX2_takesPace_19 : decode cX2_takesPace 19 = .ok (.getfield 21, 3) := by decide +kernel
theorem dX2_takesPace_22 : decode cX2_takesPace 22 = .ok (.iload_n 1, 1) := by decide +kernel
theorem dX2_takesPace_23 : decode cX2_takesPace 23 = .ok (.bipush 48, 2) := by decide +kernel
theorem dX2_takesPace_25 : decode cX2_takesPace 25 = .ok (.isub, 1) := by decide +kernel
theorem dX2_takesPace_26 : decode cX2_takesPace 26 = .ok (.invokevirtual 72, 3) := by decide +kernel
theorem dX2_takesPace_29 : decode cX2_takesPace 29 = .ok (.aload_n 0, 1) := by decide +kernel
theorem dX2_takesPace_30 : decode cX2_takesPace 30 = .ok (.bipush 7, 2) := by decide +kernel
theorem dX2_takesPace_32 : decode cX2_takesPace 32 = .ok (.putfield 11, 3) := by decide +kernel
theorem dX2_takesPace_35 : decode cX2_takesPace 35 = .ok (.iconst 1, 1) := by decide +kernel
theorem dX2_takesPace_36 : decode cX2_takesPace 36 = .ok (.ireturn, 1) := by decide +kernel
theorem dX2_takesSign_0 : decode cX2_takesSign 0 = .ok (.iload_n 1, 1) := by decide +kernel
theorem dX2_takesSign_1 : decode cX2_takesSign 1 = .ok (.bipush 61, 2) := by decide +kernel
theorem dX2_takesSign_3 : decode cX2_takesSign 3 = .ok (.if_icmp .eq 17, 3) := by decide +kernel
theorem dX2_takesSign_6 : decode cX2_takesSign 6 = .ok (.iload_n 1, 1) := by decide +kernel
theorem dX2_takesSign_7 : decode cX2_takesSign 7 = .ok (.bipush 60, 2) := by decide +kernel
theorem dX2_takesSign_9 : decode cX2_takesSign 9 = .ok (.if_icmp .eq 11, 3) := by decide +kernel
theorem dX2_takesSign_12 : decode cX2_takesSign 12 = .ok (.iload_n 1, 1) := by decide +kernel
theorem dX2_takesSign_13 : decode cX2_takesSign 13 = .ok (.bipush 62, 2) := by decide +kernel
theorem dX2_takesSign_15 : decode cX2_takesSign 15 = .ok (.if_icmp .eq 5, 3) := by decide +kernel
theorem dX2_takesSign_18 : decode cX2_takesSign 18 = .ok (.iconst 0, 1) := by decide +kernel
theorem dX2_takesSign_19 : decode cX2_takesSign 19 = .ok (.ireturn, 1) := by decide +kernel
theorem dX2_takesSign_20 : decode cX2_takesSign 20 = .ok (.aload_n 0, 1) := by decide +kernel
theorem dX2_takesSign_21 : decode cX2_takesSign 21 = .ok (.iload_n 1, 1) := by decide +kernel
theorem dX2_takesSign_22 : decode cX2_takesSign 22 = .ok (.putfield 18, 3) := by decide +kernel
theorem dX2_takesSign_25 : decode cX2_takesSign 25 = .ok (.aload_n 0, 1) := by decide +kernel
theorem dX2_takesSign_26 : decode cX2_takesSign 26 = .ok (.iconst 3, 1) := by decide +kernel
theorem dX2_takesSign_27 : decode cX2_takesSign 27 = .ok (.putfield 11, 3) := by decide +kernel
theorem dX2_takesSign_30 : decode cX2_takesSign 30 = .ok (.iconst 1, 1) := by decide +kernel
theorem dX2_takesSign_31 : decode cX2_takesSign 31 = .ok (.ireturn, 1) := by decide +kernel
theorem dX3_advance_0 : decode cX3_advance 0 = .ok (.aload_n 0, 1) := by decide +kernel
theorem dX3_advance_1 : decode cX3_advance 1 = .ok (.getfield 32, 3) := by decide +kernel
theorem dX3_advance_4 : decode cX3_advance 4 = .ok (.iload_n 1, 1) := by decide +kernel
theorem dX3_advance_5 : decode cX3_advance 5 = .ok (.iaload, 1) := by decide +kernel
theorem dX3_advance_6 : decode cX3_advance 6 = .ok (.istore 4, 2) := by decide +kernel
theorem dX3_advance_8 : decode cX3_advance 8 = .ok (.iload 4, 2) := by decide +kernel
theorem dX3_advance_10 : decode cX3_advance 10 = .ok (.iload_n 2, 1) := by decide +kernel
theorem dX3_advance_11 : decode cX3_advance 11 = .ok (.iadd, 1) := by decide +kernel
theorem dX3_advance_12 : decode cX3_advance 12 = .ok (.istore 5, 2) := by decide +kernel
theorem dX3_advance_14 : decode cX3_advance 14 = .ok (.aload_n 3, 1) := by decide +kernel
theorem dX3_advance_15 : decode cX3_advance 15 = .ok (.getfield 166, 3) := by decide +kernel
theorem dX3_advance_18 : decode cX3_advance 18 = .ok (.iload 4, 2) := by decide +kernel
theorem dX3_advance_20 : decode cX3_advance 20 = .ok (.if_icmp .le 46, 3) := by decide +kernel
theorem dX3_advance_23 : decode cX3_advance 23 = .ok (.aload_n 3, 1) := by decide +kernel
theorem dX3_advance_24 : decode cX3_advance 24 = .ok (.getfield 166, 3) := by decide +kernel
theorem dX3_advance_27 : decode cX3_advance 27 = .ok (.iload 5, 2) := by decide +kernel
theorem dX3_advance_29 : decode cX3_advance 29 = .ok (.if_icmp .gt 37, 3) := by decide +kernel
theorem dX3_advance_32 : decode cX3_advance 32 = .ok (.aload_n 0, 1) := by decide +kernel
theorem dX3_advance_33 : decode cX3_advance 33 = .ok (.aload_n 3, 1) := by decide +kernel
theorem dX3_advance_34 : decode cX3_advance 34 = .ok (.getfield 169, 3) := by decide +kernel
theorem dX3_advance_37 : decode cX3_advance 37 = .ok (.invokevirtual 172, 3) := by decide +kernel
theorem dX3_advance_40 : decode cX3_advance 40 = .ok (.ifCond .eq 26, 3) := by decide +kernel
theorem dX3_advance_43 : decode cX3_advance 43 = .ok (.aload_n 3, 1) := by decide +kernel
theorem dX3_advance_44 : decode cX3_advance 44 = .ok (.getfield 166, 3) := by decide +kernel
theorem dX3_advance_47 : decode cX3_advance 47 = .ok (.istore 5, 2) := by decide +kernel
theorem dX3_advance_49 : decode cX3_advance 49 = .ok (.aload_n 0, 1) := by decide +kernel
theorem dX3_advance_50 : decode cX3_advance 50 = .ok (.getfield 48, 3) := by decide +kernel
theorem dX3_advance_53 : decode cX3_advance 53 = .ok (.iload_n 1, 1) := by decide +kernel
theorem dX3_advance_54 : decode cX3_advance 54 = .ok (.iconst 3, 1) := by decide +kernel
theorem dX3_advance_55 : decode cX3_advance 55 = .ok (.iastore, 1) := by decide +kernel
theorem dX3_advance_56 : decode cX3_advance 56 = .ok (.aload_n 0, 1) := by decide +kernel
theorem dX3_advance_57 : decode cX3_advance 57 = .ok (.getfield 42, 3) := by decide +kernel
theorem dX3_advance_60 : decode cX3_advance 60 = .ok (.iload_n 1, 1) := by decide +kernel
theorem dX3_advance_61 : decode cX3_advance 61 = .ok (.dup2, 1) := by decide +kernel
theorem dX3_advance_62 : decode cX3_advance 62 = .ok (.iaload, 1) := by decide +kernel
theorem dX3_advance_63 : decode cX3_advance 63 = .ok (.iconst 1, 1) := by decide +kernel
theorem dX3_advance_64 : decode cX3_advance 64 = .ok (.iadd, 1) := by decide +kernel
theorem dX3_advance_65 : decode cX3_advance 65 = .ok (.iastore, 1) := by decide +kernel
theorem dX3_advance_66 : decode cX3_advance 66 = .ok (.iconst 0, 1) := by decide +kernel
theorem dX3_advance_67 : decode cX3_advance 67 = .ok (.istore 6, 2) := by decide +kernel
theorem dX3_advance_69 : decode cX3_advance 69 = .ok (.iload 6, 2) := by decide +kernel
theorem dX3_advance_71 : decode cX3_advance 71 = .ok (.aload_n 0, 1) := by decide +kernel
theorem dX3_advance_72 : decode cX3_advance 72 = .ok (.getfield 18, 3) := by decide +kernel
theorem dX3_advance_75 : decode cX3_advance 75 = .ok (.if_icmp .ge 54, 3) := by decide +kernel
theorem dX3_advance_78 : decode cX3_advance 78 = .ok (.aload_n 3, 1) := by decide +kernel
theorem dX3_advance_79 : decode cX3_advance 79 = .ok (.getfield 176, 3) := by decide +kernel
theorem dX3_advance_82 : decode cX3_advance 82 = .ok (.iload 6, 2) := by decide +kernel
theorem dX3_advance_84 : decode cX3_advance 84 = .ok (.iaload, 1) := by decide +kernel
theorem dX3_advance_85 : decode cX3_advance 85 = .ok (.istore 7, 2) := by decide +kernel
theorem dX3_advance_87 : decode cX3_advance 87 = .ok (.iload 7, 2) := by decide +kernel
theorem dX3_advance_89 : decode cX3_advance 89 = .ok (.iload 4, 2) := by decide +kernel
theorem dX3_advance_91 : decode cX3_advance 91 = .ok (.if_icmp .le 32, 3) := by decide +kernel
theorem dX3_advance_94 : decode cX3_advance 94 = .ok (.iload 7, 2) := by decide +kernel
theorem dX3_advance_96 : decode cX3_advance 96 = .ok (.iload 5, 2) := by decide +kernel
theorem dX3_advance_98 : decode cX3_advance 98 = .ok (.if_icmp .gt 25, 3) := by decide +kernel
theorem dX3_advance_101 : decode cX3_advance 101 = .ok (.aload_n 0, 1) := by decide +kernel
theorem dX3_advance_102 : decode cX3_advance 102 = .ok (.getfield 51, 3) := by decide +kernel
theorem dX3_advance_105 : decode cX3_advance 105 = .ok (.iload 6, 2) := by decide +kernel
theorem dX3_advance_107 : decode cX3_advance 107 = .ok (.bipush 20, 2) := by decide +kernel
theorem dX3_advance_109 : decode cX3_advance 109 = .ok (.imul, 1) := by decide +kernel
theorem dX3_advance_110 : decode cX3_advance 110 = .ok (.iload_n 1, 1) := by decide +kernel
theorem dX3_advance_111 : decode cX3_advance 111 = .ok (.iadd, 1) := by decide +kernel
theorem dX3_advance_112 : decode cX3_advance 112 = .ok (.aload_n 0, 1) := by decide +kernel
theorem dX3_advance_113 : decode cX3_advance 113 = .ok (.iload 7, 2) := by decide +kernel
theorem dX3_advance_115 : decode cX3_advance 115 = .ok (.iload 4, 2) := by decide +kernel
theorem dX3_advance_117 : decode cX3_advance 117 = .ok (.isub, 1) := by decide +kernel
theorem dX3_advance_118 : decode cX3_advance 118 = .ok (.iload_n 2, 1) := by decide +kernel
theorem dX3_advance_119 : decode cX3_advance 119 = .ok (.invokevirtual 179, 3) := by decide +kernel
theorem dX3_advance_122 : decode cX3_advance 122 = .ok (.iastore, 1) := by decide +kernel
theorem dX3_advance_123 : decode cX3_advance 123 = .ok (.iinc 6 1, 3) := by decide +kernel
theorem dX3_advance_126 : decode cX3_advance 126 = .ok (.goto (-57), 3) := by decide +kernel
theorem dX3_advance_129 : decode cX3_advance 129 = .ok (.iload 5, 2) := by decide +kernel
theorem dX3_advance_131 : decode cX3_advance 131 = .ok (.aload_n 3, 1) := by decide +kernel
theorem dX3_advance_132 : decode cX3_advance 132 = .ok (.invokevirtual 135, 3) := by decide +kernel
theorem dX3_advance_135 : decode cX3_advance 135 = .ok (.if_icmp .lt 25, 3) := by decide +kernel
theorem dX3_advance_138 : decode cX3_advance 138 = .ok (.aload_n 3, 1) := by decide +kernel
theorem dX3_advance_139 : decode cX3_advance 139 = .ok (.invokevirtual 135, 3) := by decide +kernel
theorem dX3_advance_142 : decode cX3_advance 142 = .ok (.istore 5, 2) := by decide +kernel
theorem dX3_advance_144 : decode cX3_advance 144 = .ok (.aload_n 0, 1) := by decide +kernel
theorem dX3_advance_145 : decode cX3_advance 145 = .ok (.getfield 39, 3) := by decide +kernel
theorem dX3_advance_148 : decode cX3_advance 148 = .ok (.iload_n 1, 1) := by decide +kernel
theorem dX3_advance_149 : decode cX3_advance 149 = .ok (.aload_n 0, 1) := by decide +kernel
theorem dX3_advance_150 : decode cX3_advance 150 = .ok (.iload 5, 2) := by decide +kernel
theorem dX3_advance_152 : decode cX3_advance 152 = .ok (.iload 4, 2) := by decide +kernel
theorem dX3_advance_154 : decode cX3_advance 154 = .ok (.isub, 1) := by decide +kernel
theorem dX3_advance_155 : decode cX3_advance 155 = .ok (.iload_n 2, 1) := by decide +kernel
theorem dX3_advance_156 : decode cX3_advance 156 = .ok (.invokevirtual 179, 3) := by decide +kernel
theorem dX3_advance_159 : decode cX3_advance 159 = .ok (.iastore, 1) := by decide +kernel
theorem dX3_advance_160 : decode cX3_advance 160 = .ok (.aload_n 0, 1) := by decide +kernel
theorem dX3_advance_161 : decode cX3_advance 161 = .ok (.getfield 32, 3) := by decide +kernel
theorem dX3_advance_164 : decode cX3_advance 164 = .ok (.iload_n 1, 1) := by decide +kernel
theorem dX3_advance_165 : decode cX3_advance 165 = .ok (.iload 5, 2) := by decide +kernel
theorem dX3_advance_167 : decode cX3_advance 167 = .ok (.iastore, 1) := by decide +kernel
theorem dX3_advance_168 : decode cX3_advance 168 = .ok (.return_, 1) := by decide +kernel
theorem dX3_begin_0 : decode cX3_begin 0 = .ok (.aload_n 0, 1) := by decide +kernel
theorem dX3_begin_1 : decode cX3_begin 1 = .ok (.iconst 0, 1) := by decide +kernel
theorem dX3_begin_2 : decode cX3_begin 2 = .ok (.putfield 9, 3) := by decide +kernel
theorem dX3_begin_5 : decode cX3_begin 5 = .ok (.aload_n 0, 1) := by decide +kernel
theorem dX3_begin_6 : decode cX3_begin 6 = .ok (.aload_n 2, 1) := by decide +kernel
theorem dX3_begin_7 : decode cX3_begin 7 = .ok (.getfield 67, 3) := by decide +kernel
theorem dX3_begin_10 : decode cX3_begin 10 = .ok (.putfield 18, 3) := by decide +kernel
theorem dX3_begin_13 : decode cX3_begin 13 = .ok (.aload_n 0, 1) := by decide +kernel
theorem dX3_begin_14 : decode cX3_begin 14 = .ok (.lload 4, 2) := by decide +kernel
theorem dX3_begin_16 : decode cX3_begin 16 = .ok (.putfield 21, 3) := by decide +kernel
theorem dX3_begin_19 : decode cX3_begin 19 = .ok (.iconst 0, 1) := by decide +kernel
theorem dX3_begin_20 : decode cX3_begin 20 = .ok (.istore 6, 2) := by decide +kernel
theorem dX3_begin_22 : decode cX3_begin 22 = .ok (.iload 6, 2) := by decide +kernel
theorem dX3_begin_24 : decode cX3_begin 24 = .ok (.iconst 5, 1) := by decide +kernel
theorem dX3_begin_25 : decode cX3_begin 25 = .ok (.if_icmp .ge 18, 3) := by decide +kernel
theorem dX3_begin_28 : decode cX3_begin 28 = .ok (.aload_n 0, 1) := by decide +kernel
theorem dX3_begin_29 : decode cX3_begin 29 = .ok (.getfield 54, 3) := by decide +kernel
theorem dX3_begin_32 : decode cX3_begin 32 = .ok (.iload 6, 2) := by decide +kernel
theorem dX3_begin_34 : decode cX3_begin 34 = .ok (.iload 6, 2) := by decide +kernel
theorem dX3_begin_36 : decode cX3_begin 36 = .ok (.iastore, 1) := by decide +kernel
theorem dX3_begin_37 : decode cX3_begin 37 = .ok (.iinc 6 1, 3) := by decide +kernel
theorem dX3_begin_40 : decode cX3_begin 40 = .ok (.goto (-18), 3) := by decide +kernel
theorem dX3_begin_43 : decode cX3_begin 43 = .ok (.iconst 0, 1) := by decide +kernel
theorem dX3_begin_44 : decode cX3_begin 44 = .ok (.istore 6, 2) := by decide +kernel
theorem dX3_begin_46 : decode cX3_begin 46 = .ok (.iload 6, 2) := by decide +kernel
theorem dX3_begin_48 : decode cX3_begin 48 = .ok (.bipush 20, 2) := by decide +kernel
theorem dX3_begin_50 : decode cX3_begin 50 = .ok (.if_icmp .ge 91, 3) := by decide +kernel
theorem dX3_begin_53 : decode cX3_begin 53 = .ok (.aload_n 0, 1) := by decide +kernel
theorem dX3_begin_54 : decode cX3_begin 54 = .ok (.getfield 28, 3) := by decide +kernel
theorem dX3_begin_57 : decode cX3_begin 57 = .ok (.iload 6, 2) := by decide +kernel
theorem dX3_begin_59 : decode cX3_begin 59 = .ok (.iload 6, 2) := by decide +kernel
theorem dX3_begin_61 : decode cX3_begin 61 = .ok (.aload_n 1, 1) := by decide +kernel
theorem dX3_begin_62 : decode cX3_begin 62 = .ok (.getfield 70, 3) := by decide +kernel
theorem dX3_begin_65 : decode cX3_begin 65 = .ok (.if_icmp .ge 14, 3) := by decide +kernel
theorem dX3_begin_68 : decode cX3_begin 68 = .ok (.aload_n 3, 1) := by decide +kernel
theorem dX3_begin_69 : decode cX3_begin 69 = .ok (.iload 6, 2) := by decide +kernel
theorem dX3_begin_71 : decode cX3_begin 71 = .ok (.baload, 1) := by decide +kernel
theorem dX3_begin_72 : decode cX3_begin 72 = .ok (.ifCond .ne 7, 3) := by decide +kernel
theorem dX3_begin_75 : decode cX3_begin 75 = .ok (.iconst 1, 1) := by decide +kernel
theorem dX3_begin_76 : decode cX3_begin 76 = .ok (.goto 4, 3) := by decide +kernel
theorem dX3_begin_79 : decode cX3_begin 79 = .ok (.iconst 0, 1) := by decide +kernel
theorem dX3_begin_80 : decode cX3_begin 80 = .ok (.bastore, 1) := by decide +kernel
theorem dX3_begin_81 : decode cX3_begin 81 = .ok (.aload_n 0, 1) := by decide +kernel
theorem dX3_begin_82 : decode cX3_begin 82 = .ok (.getfield 32, 3) := by decide +kernel
theorem dX3_begin_85 : decode cX3_begin 85 = .ok (.iload 6, 2) := by decide +kernel
theorem dX3_begin_87 : decode cX3_begin 87 = .ok (.iconst 0, 1) := by decide +kernel
theorem dX3_begin_88 : decode cX3_begin 88 = .ok (.iastore, 1) := by decide +kernel
theorem dX3_begin_89 : decode cX3_begin 89 = .ok (.aload_n 0, 1) := by decide +kernel
theorem dX3_begin_90 : decode cX3_begin 90 = .ok (.getfield 36, 3) := by decide +kernel
theorem dX3_begin_93 : decode cX3_begin 93 = .ok (.iload 6, 2) := by decide +kernel
theorem dX3_begin_95 : decode cX3_begin 95 = .ok (.aload_n 1, 1) := by decide +kernel
theorem dX3_begin_96 : decode cX3_begin 96 = .ok (.getfield 75, 3) := by decide +kernel
theorem dX3_begin_99 : decode cX3_begin 99 = .ok (.iload 6, 2) := by decide +kernel
theorem dX3_begin_101 : decode cX3_begin 101 = .ok (.iaload, 1) := by decide +kernel
theorem dX3_begin_102 : decode cX3_begin 102 = .ok (.iastore, 1) := by decide +kernel
theorem dX3_begin_103 : decode cX3_begin 103 = .ok (.aload_n 0, 1) := by decide +kernel
theorem dX3_begin_104 : decode cX3_begin 104 = .ok (.getfield 39, 3) := by decide +kernel
theorem dX3_begin_107 : decode cX3_begin 107 = .ok (.iload 6, 2) := by decide +kernel
theorem dX3_begin_109 : decode cX3_begin 109 = .ok (.iconst (-1), 1) := by decide +kernel
theorem dX3_begin_110 : decode cX3_begin 110 = .ok (.iastore, 1) := by decide +kernel
theorem dX3_begin_111 : decode cX3_begin 111 = .ok (.aload_n 0, 1) := by decide +kernel
theorem dX3_begin_112 : decode cX3_begin 112 = .ok (.getfield 42, 3) := by decide +kernel
theorem dX3_begin_115 : decode cX3_begin 115 = .ok (.iload 6, 2) := by decide +kernel
theorem dX3_begin_117 : decode cX3_begin 117 = .ok (.iconst 0, 1) := by decide +kernel
theorem dX3_begin_118 : decode cX3_begin 118 = .ok (.iastore, 1) := by decide +kernel
theorem dX3_begin_119 : decode cX3_begin 119 = .ok (.aload_n 0, 1) := by decide +kernel
theorem dX3_begin_120 : decode cX3_begin 120 = .ok (.getfield 45, 3) := by decide +kernel
theorem dX3_begin_123 : decode cX3_begin 123 = .ok (.iload 6, 2) := by decide +kernel
theorem dX3_begin_125 : decode cX3_begin 125 = .ok (.iconst 0, 1) := by decide +kernel
theorem dX3_begin_126 : decode cX3_begin 126 = .ok (.iastore, 1) := by decide +kernel
theorem dX3_begin_127 : decode cX3_begin 127 = .ok (.aload_n 0, 1) := by decide +kernel
theorem dX3_begin_128 : decode cX3_begin 128 = .ok (.getfield 48, 3) := by decide +kernel
theorem dX3_begin_131 : decode cX3_begin 131 = .ok (.iload 6, 2) := by decide +kernel
theorem dX3_begin_133 : decode cX3_begin 133 = .ok (.iconst 0, 1) := by decide +kernel
theorem dX3_begin_134 : decode cX3_begin 134 = .ok (.iastore, 1) := by decide +kernel
theorem dX3_begin_135 : decode cX3_begin 135 = .ok (.iinc 6 1, 3) := by decide +kernel
theorem dX3_begin_138 : decode cX3_begin 138 = .ok (.goto (-92), 3) := by decide +kernel
theorem dX3_begin_141 : decode cX3_begin 141 = .ok (.iconst 0, 1) := by decide +kernel
theorem dX3_begin_142 : decode cX3_begin 142 = .ok (.istore 6, 2) := by decide +kernel
theorem dX3_begin_144 : decode cX3_begin 144 = .ok (.iload 6, 2) := by decide +kernel
theorem dX3_begin_146 : decode cX3_begin 146 = .ok (.bipush 100, 2) := by decide +kernel
theorem dX3_begin_148 : decode cX3_begin 148 = .ok (.if_icmp .ge 17, 3) := by decide +kernel
theorem dX3_begin_151 : decode cX3_begin 151 = .ok (.aload_n 0, 1) := by decide +kernel
theorem dX3_begin_152 : decode cX3_begin 152 = .ok (.getfield 51, 3) := by decide +kernel
theorem dX3_begin_155 : decode cX3_begin 155 = .ok (.iload 6, 2) := by decide +kernel
theorem dX3_begin_157 : decode cX3_begin 157 = .ok (.iconst (-1), 1) := by decide +kernel
theorem dX3_begin_158 : decode cX3_begin 158 = .ok (.iastore, 1) := by decide +kernel
theorem dX3_begin_159 : decode cX3_begin 159 = .ok (.iinc 6 1, 3) := by decide +kernel
theorem dX3_begin_162 : decode cX3_begin 162 = .ok (.goto (-18), 3) := by decide +kernel
theorem dX3_begin_165 : decode cX3_begin 165 = .ok (.aload_n 0, 1) := by decide +kernel
theorem dX3_begin_166 : decode cX3_begin 166 = .ok (.invokevirtual 78, 3) := by decide +kernel
theorem dX3_begin_169 : decode cX3_begin 169 = .ok (.return_, 1) := by decide +kernel
theorem dX3_drawsCrash_0 : decode cX3_drawsCrash 0 = .ok (.aload_n 0, 1) := by decide +kernel
theorem dX3_drawsCrash_1 : decode cX3_drawsCrash 1 = .ok (.aload_n 0, 1) := by decide +kernel
theorem dX3_drawsCrash_2 : decode cX3_drawsCrash 2 = .ok (.getfield 21, 3) := by decide +kernel
theorem dX3_drawsCrash_5 : decode cX3_drawsCrash 5 = .ok (.ldc2_w 182, 3) := by decide +kernel
theorem dX3_drawsCrash_8 : decode cX3_drawsCrash 8 = .ok (.lmul, 1) := by decide +kernel
theorem dX3_drawsCrash_9 : decode cX3_drawsCrash 9 = .ok (.ldc2_w 184, 3) := by decide +kernel
theorem dX3_drawsCrash_12 : decode cX3_drawsCrash 12 = .ok (.ladd, 1) := by decide +kernel
theorem dX3_drawsCrash_13 : decode cX3_drawsCrash 13 = .ok (.putfield 21, 3) := by decide +kernel
theorem dX3_drawsCrash_16 : decode cX3_drawsCrash 16 = .ok (.aload_n 0, 1) := by decide +kernel
theorem dX3_drawsCrash_17 : decode cX3_drawsCrash 17 = .ok (.getfield 21, 3) := by decide +kernel
theorem dX3_drawsCrash_20 : decode cX3_drawsCrash 20 = .ok (.bipush 33, 2) := by decide +kernel
theorem dX3_drawsCrash_22 : decode cX3_drawsCrash 22 = .ok (.lushr, 1) := by decide +kernel
theorem dX3_drawsCrash_23 : decode cX3_drawsCrash 23 = .ok (.ldc2_w 186, 3) := by decide +kernel
theorem dX3_drawsCrash_26 : decode cX3_drawsCrash 26 = .ok (.lrem, 1) := by decide +kernel
theorem dX3_drawsCrash_27 : decode cX3_drawsCrash 27 = .ok (.iload_n 1, 1) := by decide +kernel
theorem dX3_drawsCrash_28 : decode cX3_drawsCrash 28 = .ok (.i2l, 1) := by decide +kernel
theorem dX3_drawsCrash_29 : decode cX3_drawsCrash 29 = .ok (.lcmp, 1) := by decide +kernel
theorem dX3_drawsCrash_30 : decode cX3_drawsCrash 30 = .ok (.ifCond .ge 7, 3) := by decide +kernel
theorem dX3_drawsCrash_33 : decode cX3_drawsCrash 33 = .ok (.iconst 1, 1) := by decide +kernel
theorem dX3_drawsCrash_34 : decode cX3_drawsCrash 34 = .ok (.goto 4, 3) := by decide +kernel
theorem dX3_drawsCrash_37 : decode cX3_drawsCrash 37 = .ok (.iconst 0, 1) := by decide +kernel
theorem dX3_drawsCrash_38 : decode cX3_drawsCrash 38 = .ok (.ireturn, 1) := by decide +kernel
theorem dX3_foremostOf_0 : decode cX3_foremostOf 0 = .ok (.iconst 0, 1) := by decide +kernel
theorem dX3_foremostOf_1 : decode cX3_foremostOf 1 = .ok (.istore_n 3, 1) := by decide +kernel
theorem dX3_foremostOf_2 : decode cX3_foremostOf 2 = .ok (.iconst 0, 1) := by decide +kernel
theorem dX3_foremostOf_3 : decode cX3_foremostOf 3 = .ok (.istore 4, 2) := by decide +kernel
theorem dX3_foremostOf_5 : decode cX3_foremostOf 5 = .ok (.iload 4, 2) := by decide +kernel
theorem dX3_foremostOf_7 : decode cX3_foremostOf 7 = .ok (.bipush 20, 2) := by decide +kernel
theorem dX3_foremostOf_9 : decode cX3_foremostOf 9 = .ok (.if_icmp .ge 42, 3) := by decide +kernel
theorem dX3_foremostOf_12 : decode cX3_foremostOf 12 = .ok (.aload_n 0, 1) := by decide +kernel
theorem dX3_foremostOf_13 : decode cX3_foremostOf 13 = .ok (.getfield 28, 3) := by decide +kernel
theorem dX3_foremostOf_16 : decode cX3_foremostOf 16 = .ok (.iload 4, 2) := by decide +kernel
theorem dX3_foremostOf_18 : decode cX3_foremostOf 18 = .ok (.baload, 1) := by decide +kernel
theorem dX3_foremostOf_19 : decode cX3_foremostOf 19 = .ok (.ifCond .eq 26, 3) := by decide +kernel
theorem dX3_foremostOf_22 : decode cX3_foremostOf 22 = .ok (.aload_n 2, 1) := by decide +kernel
theorem dX3_foremostOf_23 : decode cX3_foremostOf 23 = .ok (.getfield 143, 3) := by decide +kernel
theorem dX3_foremostOf_26 : decode cX3_foremostOf 26 = .ok (.iload 4, 2) := by decide +kernel
theorem dX3_foremostOf_28 : decode cX3_foremostOf 28 = .ok (.iaload, 1) := by decide +kernel
theorem dX3_foremostOf_29 : decode cX3_foremostOf 29 = .ok (.iload_n 1, 1) := by decide +kernel
theorem dX3_foremostOf_30 : decode cX3_foremostOf 30 = .ok (.if_icmp .ne 15, 3) := by decide +kernel
theorem dX3_foremostOf_33 : decode cX3_foremostOf 33 = .ok (.iload_n 3, 1) := by decide +kernel
theorem dX3_foremostOf_34 : decode cX3_foremostOf 34 = .ok (.aload_n 0, 1) := by decide +kernel
theorem dX3_foremostOf_35 : decode cX3_foremostOf 35 = .ok (.getfield 32, 3) := by decide +kernel
theorem dX3_foremostOf_38 : decode cX3_foremostOf 38 = .ok (.iload 4, 2) := by decide +kernel
theorem dX3_foremostOf_40 : decode cX3_foremostOf 40 = .ok (.iaload, 1) := by decide +kernel
theorem dX3_foremostOf_41 : decode cX3_foremostOf 41 = .ok (.invokestatic 97, 3) := by decide +kernel
theorem dX3_foremostOf_44 : decode cX3_foremostOf 44 = .ok (.istore_n 3, 1) := by decide +kernel
theorem dX3_foremostOf_45 : decode cX3_foremostOf 45 = .ok (.iinc 4 1, 3) := by decide +kernel
theorem dX3_foremostOf_48 : decode cX3_foremostOf 48 = .ok (.goto (-43), 3) := by decide +kernel
theorem dX3_foremostOf_51 : decode cX3_foremostOf 51 = .ok (.iload_n 3, 1) := by decide +kernel
theorem dX3_foremostOf_52 : decode cX3_foremostOf 52 = .ok (.ireturn, 1) := by decide +kernel
theorem dX3_init_0 : decode cX3_init 0 = .ok (.aload_n 0, 1) := by decide +kernel
theorem dX3_init_1 : decode cX3_init 1 = .ok (.invokespecial 3, 3) := by decide +kernel
theorem dX3_init_4 : decode cX3_init 4 = .ok (.aload_n 0, 1) := by decide +kernel
theorem dX3_init_5 : decode cX3_init 5 = .ok (.iconst 0, 1) := by decide +kernel
theorem dX3_init_6 : decode cX3_init 6 = .ok (.putfield 9, 3) := by decide +kernel
theorem dX3_init_9 : decode cX3_init 9 = .ok (.aload_n 0, 1) := by decide +kernel
theorem dX3_init_10 : decode cX3_init 10 = .ok (.iconst 0, 1) := by decide +kernel
theorem dX3_init_11 : decode cX3_init 11 = .ok (.putfield 15, 3) := by decide +kernel
theorem dX3_init_14 : decode cX3_init 14 = .ok (.aload_n 0, 1) := by decide +kernel
theorem dX3_init_15 : decode cX3_init 15 = .ok (.iconst 0, 1) := by decide +kernel
theorem dX3_init_16 : decode cX3_init 16 = .ok (.putfield 18, 3) := by decide +kernel
theorem dX3_init_19 : decode cX3_init 19 = .ok (.aload_n 0, 1) := by decide +kernel
theorem dX3_init_20 : decode cX3_init 20 = .ok (.lconst 0, 1) := by decide +kernel
theorem dX3_init_21 : decode cX3_init 21 = .ok (.putfield 21, 3) := by decide +kernel
theorem dX3_init_24 : decode cX3_init 24 = .ok (.aload_n 0, 1) := by decide +kernel
theorem dX3_init_25 : decode cX3_init 25 = .ok (.iconst 0, 1) := by decide +kernel
theorem dX3_init_26 : decode cX3_init 26 = .ok (.putfield 25, 3) := by decide +kernel
theorem dX3_init_29 : decode cX3_init 29 = .ok (.aload_n 0, 1) := by decide +kernel
theorem dX3_init_30 : decode cX3_init 30 = .ok (.bipush 20, 2) := by decide +kernel
theorem dX3_init_32 : decode cX3_init 32 = .ok (.newarray .boolean, 2) := by decide +kernel
theorem dX3_init_34 : decode cX3_init 34 = .ok (.putfield 28, 3) := by decide +kernel
theorem dX3_init_37 : decode cX3_init 37 = .ok (.aload_n 0, 1) := by decide +kernel
theorem dX3_init_38 : decode cX3_init 38 = .ok (.bipush 20, 2) := by decide +kernel
theorem dX3_init_40 : decode cX3_init 40 = .ok (.newarray .int, 2) := by decide +kernel
theorem dX3_init_42 : decode cX3_init 42 = .ok (.putfield 32, 3) := by decide +kernel
theorem dX3_init_45 : decode cX3_init 45 = .ok (.aload_n 0, 1) := by decide +kernel
theorem dX3_init_46 : decode cX3_init 46 = .ok (.bipush 20, 2) := by decide +kernel
theorem dX3_init_48 : decode cX3_init 48 = .ok (.newarray .int, 2) := by decide +kernel
theorem dX3_init_50 : decode cX3_init 50 = .ok (.putfield 36, 3) := by decide +kernel
theorem dX3_init_53 : decode cX3_init 53 = .ok (.aload_n 0, 1) := by decide +kernel
theorem dX3_init_54 : decode cX3_init 54 = .ok (.bipush 20, 2) := by decide +kernel
theorem dX3_init_56 : decode cX3_init 56 = .ok (.newarray .int, 2) := by decide +kernel
theorem dX3_init_58 : decode cX3_init 58 = .ok (.putfield 39, 3) := by decide +kernel
theorem dX3_init_61 : decode cX3_init 61 = .ok (.aload_n 0, 1) := by decide +kernel
theorem dX3_init_62 : decode cX3_init 62 = .ok (.bipush 20, 2) := by decide +kernel
theorem dX3_init_64 : decode cX3_init 64 = .ok (.newarray .int, 2) := by decide +kernel
theorem dX3_init_66 : decode cX3_init 66 = .ok (.putfield 42, 3) := by decide +kernel
theorem dX3_init_69 : decode cX3_init 69 = .ok (.aload_n 0, 1) := by decide +kernel
theorem dX3_init_70 : decode cX3_init 70 = .ok (.bipush 20, 2) := by decide +kernel
theorem dX3_init_72 : decode cX3_init 72 = .ok (.newarray .int, 2) := by decide +kernel
theorem dX3_init_74 : decode cX3_init 74 = .ok (.putfield 45, 3) := by decide +kernel
theorem dX3_init_77 : decode cX3_init 77 = .ok (.aload_n 0, 1) := by decide +kernel
theorem dX3_init_78 : decode cX3_init 78 = .ok (.bipush 20, 2) := by decide +kernel
theorem dX3_init_80 : decode cX3_init 80 = .ok (.newarray .int, 2) := by decide +kernel
theorem dX3_init_82 : decode cX3_init 82 = .ok (.putfield 48, 3) := by decide +kernel
theorem dX3_init_85 : decode cX3_init 85 = .ok (.aload_n 0, 1) := by decide +kernel
theorem dX3_init_86 : decode cX3_init 86 = .ok (.bipush 100, 2) := by decide +kernel
theorem dX3_init_88 : decode cX3_init 88 = .ok (.newarray .int, 2) := by decide +kernel
theorem dX3_init_90 : decode cX3_init 90 = .ok (.putfield 51, 3) := by decide +kernel
theorem dX3_init_93 : decode cX3_init 93 = .ok (.aload_n 0, 1) := by decide +kernel
theorem dX3_init_94 : decode cX3_init 94 = .ok (.iconst 5, 1) := by decide +kernel
theorem dX3_init_95 : decode cX3_init 95 = .ok (.newarray .int, 2) := by decide +kernel
theorem dX3_init_97 : decode cX3_init 97 = .ok (.putfield 54, 3) := by decide +kernel
theorem dX3_init_100 : decode cX3_init 100 = .ok (.aload_n 0, 1) := by decide +kernel
theorem dX3_init_101 : decode cX3_init 101 = .ok (.new 57, 3) := by decide +kernel
theorem dX3_init_104 : decode cX3_init 104 = .ok (.dup, 1) := by decide +kernel
theorem dX3_init_105 : decode cX3_init 105 = .ok (.invokespecial 59, 3) := by decide +kernel
theorem dX3_init_108 : decode cX3_init 108 = .ok (.putfield 60, 3) := by decide +kernel
theorem dX3_init_111 : decode cX3_init 111 = .ok (.aload_n 0, 1) := by decide +kernel
theorem dX3_init_112 : decode cX3_init 112 = .ok (.iconst 5, 1) := by decide +kernel
theorem dX3_init_113 : decode cX3_init 113 = .ok (.newarray .int, 2) := by decide +kernel
theorem dX3_init_115 : decode cX3_init 115 = .ok (.putfield 64, 3) := by decide +kernel
theorem dX3_init_118 : decode cX3_init 118 = .ok (.return_, 1) := by decide +kernel
theorem dX3_lessenHolds_0 : decode cX3_lessenHolds 0 = .ok (.iconst 0, 1) := by decide +kernel
theorem dX3_lessenHolds_1 : decode cX3_lessenHolds 1 = .ok (.istore_n 1, 1) := by decide +kernel
theorem dX3_lessenHolds_2 : decode cX3_lessenHolds 2 = .ok (.iload_n 1, 1) := by decide +kernel
theorem dX3_lessenHolds_3 : decode cX3_lessenHolds 3 = .ok (.bipush 20, 2) := by decide +kernel
theorem dX3_lessenHolds_5 : decode cX3_lessenHolds 5 = .ok (.if_icmp .ge 28, 3) := by decide +kernel
theorem dX3_lessenHolds_8 : decode cX3_lessenHolds 8 = .ok (.aload_n 0, 1) := by decide +kernel
theorem dX3_lessenHolds_9 : decode cX3_lessenHolds 9 = .ok (.getfield 48, 3) := by decide +kernel
theorem dX3_lessenHolds_12 : decode cX3_lessenHolds 12 = .ok (.iload_n 1, 1) := by decide +kernel
theorem dX3_lessenHolds_13 : decode cX3_lessenHolds 13 = .ok (.iaload, 1) := by decide +kernel
theorem dX3_lessenHolds_14 : decode cX3_lessenHolds 14 = .ok (.ifCond .le 13, 3) := by decide +kernel
theorem dX3_lessenHolds_17 : decode cX3_lessenHolds 17 = .ok (.aload_n 0, 1) := by decide +kernel
theorem dX3_lessenHolds_18 : decode cX3_lessenHolds 18 = .ok (.getfield 48, 3) := by decide +kernel
theorem dX3_lessenHolds_21 : decode cX3_lessenHolds 21 = .ok (.iload_n 1, 1) := by decide +kernel
theorem dX3_lessenHolds_22 : decode cX3_lessenHolds 22 = .ok (.dup2, 1) := by decide +kernel
theorem dX3_lessenHolds_23 : decode cX3_lessenHolds 23 = .ok (.iaload, 1) := by decide +kernel
theorem dX3_lessenHolds_24 : decode cX3_lessenHolds 24 = .ok (.iconst 1, 1) := by decide +kernel
theorem dX3_lessenHolds_25 : decode cX3_lessenHolds 25 = .ok (.isub, 1) := by decide +kernel
theorem dX3_lessenHolds_26 : decode cX3_lessenHolds 26 = .ok (.iastore, 1) := by decide +kernel
theorem dX3_lessenHolds_27 : decode cX3_lessenHolds 27 = .ok (.iinc 1 1, 3) := by decide +kernel
theorem dX3_lessenHolds_30 : decode cX3_lessenHolds 30 = .ok (.goto (-28), 3) := by decide +kernel
theorem dX3_lessenHolds_33 : decode cX3_lessenHolds 33 = .ok (.return_, 1) := by decide +kernel
theorem dX3_lineUp_0 : decode cX3_lineUp 0 = .ok (.aload_n 0, 1) := by decide +kernel
theorem dX3_lineUp_1 : decode cX3_lineUp 1 = .ok (.getfield 60, 3) := by decide +kernel
theorem dX3_lineUp_4 : decode cX3_lineUp 4 = .ok (.invokevirtual 94, 3) := by decide +kernel
theorem dX3_lineUp_7 : decode cX3_lineUp 7 = .ok (.aload_n 0, 1) := by decide +kernel
theorem dX3_lineUp_8 : decode cX3_lineUp 8 = .ok (.iconst 0, 1) := by decide +kernel
theorem dX3_lineUp_9 : decode cX3_lineUp 9 = .ok (.putfield 15, 3) := by decide +kernel
theorem dX3_lineUp_12 : decode cX3_lineUp 12 = .ok (.aload_n 0, 1) := by decide +kernel
theorem dX3_lineUp_13 : decode cX3_lineUp 13 = .ok (.iconst 0, 1) := by decide +kernel
theorem dX3_lineUp_14 : decode cX3_lineUp 14 = .ok (.putfield 25, 3) := by decide +kernel
theorem dX3_lineUp_17 : decode cX3_lineUp 17 = .ok (.iconst 0, 1) := by decide +kernel
theorem dX3_lineUp_18 : decode cX3_lineUp 18 = .ok (.istore_n 1, 1) := by decide +kernel
theorem dX3_lineUp_19 : decode cX3_lineUp 19 = .ok (.iload_n 1, 1) := by decide +kernel
theorem dX3_lineUp_20 : decode cX3_lineUp 20 = .ok (.bipush 20, 2) := by decide +kernel
theorem dX3_lineUp_22 : decode cX3_lineUp 22 = .ok (.if_icmp .ge 76, 3) := by decide +kernel
theorem dX3_lineUp_25 : decode cX3_lineUp 25 = .ok (.aload_n 0, 1) := by decide +kernel
theorem dX3_lineUp_26 : decode cX3_lineUp 26 = .ok (.getfield 28, 3) := by decide +kernel
theorem dX3_lineUp_29 : decode cX3_lineUp 29 = .ok (.iload_n 1, 1) := by decide +kernel
theorem dX3_lineUp_30 : decode cX3_lineUp 30 = .ok (.baload, 1) := by decide +kernel
theorem dX3_lineUp_31 : decode cX3_lineUp 31 = .ok (.ifCond .eq 61, 3) := by decide +kernel
theorem dX3_lineUp_34 : decode cX3_lineUp 34 = .ok (.aload_n 0, 1) := by decide +kernel
theorem dX3_lineUp_35 : decode cX3_lineUp 35 = .ok (.getfield 39, 3) := by decide +kernel
theorem dX3_lineUp_38 : decode cX3_lineUp 38 = .ok (.iload_n 1, 1) := by decide +kernel
theorem dX3_lineUp_39 : decode cX3_lineUp 39 = .ok (.iaload, 1) := by decide +kernel
theorem dX3_lineUp_40 : decode cX3_lineUp 40 = .ok (.iconst (-1), 1) := by decide +kernel
theorem dX3_lineUp_41 : decode cX3_lineUp 41 = .ok (.if_icmp .ne 51, 3) := by decide +kernel
theorem dX3_lineUp_44 : decode cX3_lineUp 44 = .ok (.aload_n 0, 1) := by decide +kernel
theorem dX3_lineUp_45 : decode cX3_lineUp 45 = .ok (.dup, 1) := by decide +kernel
theorem dX3_lineUp_46 : decode cX3_lineUp 46 = .ok (.getfield 15, 3) := by decide +kernel
theorem dX3_lineUp_49 : decode cX3_lineUp 49 = .ok (.iconst 1, 1) := by decide +kernel
theorem dX3_lineUp_50 : decode cX3_lineUp 50 = .ok (.iadd, 1) := by decide +kernel
theorem dX3_lineUp_51 : decode cX3_lineUp 51 = .ok (.putfield 15, 3) := by decide +kernel
theorem dX3_lineUp_54 : decode cX3_lineUp 54 = .ok (.aload_n 0, 1) := by decide +kernel
theorem dX3_lineUp_55 : decode cX3_lineUp 55 = .ok (.aload_n 0, 1) := by decide +kernel
theorem dX3_lineUp_56 : decode cX3_lineUp 56 = .ok (.getfield 25, 3) := by decide +kernel
theorem dX3_lineUp_59 : decode cX3_lineUp 59 = .ok (.aload_n 0, 1) := by decide +kernel
theorem dX3_lineUp_60 : decode cX3_lineUp 60 = .ok (.getfield 32, 3) := by decide +kernel
theorem dX3_lineUp_63 : decode cX3_lineUp 63 = .ok (.iload_n 1, 1) := by decide +kernel
theorem dX3_lineUp_64 : decode cX3_lineUp 64 = .ok (.iaload, 1) := by decide +kernel
theorem dX3_lineUp_65 : decode cX3_lineUp 65 = .ok (.invokestatic 97, 3) := by decide +kernel
theorem dX3_lineUp_68 : decode cX3_lineUp 68 = .ok (.putfield 25, 3) := by decide +kernel
theorem dX3_lineUp_71 : decode cX3_lineUp 71 = .ok (.aload_n 0, 1) := by decide +kernel
theorem dX3_lineUp_72 : decode cX3_lineUp 72 = .ok (.getfield 48, 3) := by decide +kernel
theorem dX3_lineUp_75 : decode cX3_lineUp 75 = .ok (.iload_n 1, 1) := by decide +kernel
theorem dX3_lineUp_76 : decode cX3_lineUp 76 = .ok (.iaload, 1) := by decide +kernel
theorem dX3_lineUp_77 : decode cX3_lineUp 77 = .ok (.ifCond .ne 15, 3) := by decide +kernel
theorem dX3_lineUp_80 : decode cX3_lineUp 80 = .ok (.aload_n 0, 1) := by decide +kernel
theorem dX3_lineUp_81 : decode cX3_lineUp 81 = .ok (.getfield 60, 3) := by decide +kernel
theorem dX3_lineUp_84 : decode cX3_lineUp 84 = .ok (.iload_n 1, 1) := by decide +kernel
theorem dX3_lineUp_85 : decode cX3_lineUp 85 = .ok (.aload_n 0, 1) := by decide +kernel
theorem dX3_lineUp_86 : decode cX3_lineUp 86 = .ok (.getfield 32, 3) := by decide +kernel
theorem dX3_lineUp_89 : decode cX3_lineUp 89 = .ok (.invokevirtual 103, 3) := by decide +kernel
theorem dX3_lineUp_92 : decode cX3_lineUp 92 = .ok (.iinc 1 1, 3) := by decide +kernel
theorem dX3_lineUp_95 : decode cX3_lineUp 95 = .ok (.goto (-76), 3) := by decide +kernel
theorem dX3_lineUp_98 : decode cX3_lineUp 98 = .ok (.aload_n 0, 1) := by decide +kernel
theorem dX3_lineUp_99 : decode cX3_lineUp 99 = .ok (.getfield 60, 3) := by decide +kernel
theorem dX3_lineUp_102 : decode cX3_lineUp 102 = .ok (.aload_n 0, 1) := by decide +kernel
theorem dX3_lineUp_103 : decode cX3_lineUp 103 = .ok (.getfield 32, 3) := by decide +kernel
theorem dX3_lineUp_106 : decode cX3_lineUp 106 = .ok (.invokevirtual 107, 3) := by decide +kernel
theorem dX3_lineUp_109 : decode cX3_lineUp 109 = .ok (.return_, 1) := by decide +kernel
theorem dX3_look_0 : decode cX3_look 0 = .ok (.aload_n 0, 1) := by decide +kernel
theorem dX3_look_1 : decode cX3_look 1 = .ok (.getfield 64, 3) := by decide +kernel
theorem dX3_look_4 : decode cX3_look 4 = .ok (.iconst 0, 1) := by decide +kernel
theorem dX3_look_5 : decode cX3_look 5 = .ok (.iload_n 2, 1) := by decide +kernel
theorem dX3_look_6 : decode cX3_look 6 = .ok (.ifCond .ne 7, 3) := by decide +kernel
theorem dX3_look_9 : decode cX3_look 9 = .ok (.iconst 0, 1) := by decide +kernel
theorem dX3_look_10 : decode cX3_look 10 = .ok (.goto 14, 3) := by decide +kernel
theorem dX3_look_13 : decode cX3_look 13 = .ok (.aload_n 0, 1) := by decide +kernel
theorem dX3_look_14 : decode cX3_look 14 = .ok (.getfield 36, 3) := by decide +kernel
theorem dX3_look_17 : decode cX3_look 17 = .ok (.iload_n 1, 1) := by decide +kernel
theorem dX3_look_18 : decode cX3_look 18 = .ok (.iaload, 1) := by decide +kernel
theorem dX3_look_19 : decode cX3_look 19 = .ok (.bipush 100, 2) := by decide +kernel
theorem dX3_look_21 : decode cX3_look 21 = .ok (.imul, 1) := by decide +kernel
theorem dX3_look_22 : decode cX3_look 22 = .ok (.iload_n 2, 1) := by decide +kernel
theorem dX3_look_23 : decode cX3_look 23 = .ok (.idiv, 1) := by decide +kernel
theorem dX3_look_24 : decode cX3_look 24 = .ok (.iastore, 1) := by decide +kernel
theorem dX3_look_25 : decode cX3_look 25 = .ok (.aload_n 0, 1) := by decide +kernel
theorem dX3_look_26 : decode cX3_look 26 = .ok (.getfield 64, 3) := by decide +kernel
theorem dX3_look_29 : decode cX3_look 29 = .ok (.iconst 1, 1) := by decide +kernel
theorem dX3_look_30 : decode cX3_look 30 = .ok (.iload_n 3, 1) := by decide +kernel
theorem dX3_look_31 : decode cX3_look 31 = .ok (.aload_n 0, 1) := by decide +kernel
theorem dX3_look_32 : decode cX3_look 32 = .ok (.getfield 32, 3) := by decide +kernel
theorem dX3_look_35 : decode cX3_look 35 = .ok (.iload_n 1, 1) := by decide +kernel
theorem dX3_look_36 : decode cX3_look 36 = .ok (.iaload, 1) := by decide +kernel
theorem dX3_look_37 : decode cX3_look 37 = .ok (.isub, 1) := by decide +kernel
theorem dX3_look_38 : decode cX3_look 38 = .ok (.sipush 1000, 3) := by decide +kernel
theorem dX3_look_41 : decode cX3_look 41 = .ok (.idiv, 1) := by decide +kernel
theorem dX3_look_42 : decode cX3_look 42 = .ok (.iastore, 1) := by decide +kernel
theorem dX3_look_43 : decode cX3_look 43 = .ok (.aload_n 0, 1) := by decide +kernel
theorem dX3_look_44 : decode cX3_look 44 = .ok (.getfield 64, 3) := by decide +kernel
theorem dX3_look_47 : decode cX3_look 47 = .ok (.iconst 2, 1) := by decide +kernel
theorem dX3_look_48 : decode cX3_look 48 = .ok (.aload_n 0, 1) := by decide +kernel
theorem dX3_look_49 : decode cX3_look 49 = .ok (.getfield 25, 3) := by decide +kernel
theorem dX3_look_52 : decode cX3_look 52 = .ok (.aload_n 0, 1) := by decide +kernel
theorem dX3_look_53 : decode cX3_look 53 = .ok (.getfield 32, 3) := by decide +kernel
theorem dX3_look_56 : decode cX3_look 56 = .ok (.iload_n 1, 1) := by decide +kernel
theorem dX3_look_57 : decode cX3_look 57 = .ok (.iaload, 1) := by decide +kernel
theorem dX3_look_58 : decode cX3_look 58 = .ok (.isub, 1) := by decide +kernel
theorem dX3_look_59 : decode cX3_look 59 = .ok (.bipush 10, 2) := by decide +kernel
theorem dX3_look_61 : decode cX3_look 61 = .ok (.idiv, 1) := by decide +kernel
theorem dX3_look_62 : decode cX3_look 62 = .ok (.iastore, 1) := by decide +kernel
theorem dX3_look_63 : decode cX3_look 63 = .ok (.aload_n 0, 1) := by decide +kernel
theorem dX3_look_64 : decode cX3_look 64 = .ok (.getfield 64, 3) := by decide +kernel
theorem dX3_look_67 : decode cX3_look 67 = .ok (.iconst 3, 1) := by decide +kernel
theorem dX3_look_68 : decode cX3_look 68 = .ok (.aload_n 0, 1) := by decide +kernel
theorem dX3_look_69 : decode cX3_look 69 = .ok (.getfield 60, 3) := by decide +kernel
theorem dX3_look_72 : decode cX3_look 72 = .ok (.getfield 163, 3) := by decide +kernel
theorem dX3_look_75 : decode cX3_look 75 = .ok (.iload_n 1, 1) := by decide +kernel
theorem dX3_look_76 : decode cX3_look 76 = .ok (.iaload, 1) := by decide +kernel
theorem dX3_look_77 : decode cX3_look 77 = .ok (.iastore, 1) := by decide +kernel
theorem dX3_look_78 : decode cX3_look 78 = .ok (.aload_n 0, 1) := by decide +kernel
theorem dX3_look_79 : decode cX3_look 79 = .ok (.getfield 64, 3) := by decide +kernel
theorem dX3_look_82 : decode cX3_look 82 = .ok (.iconst 4, 1) := by decide +kernel
theorem dX3_look_83 : decode cX3_look 83 = .ok (.aload_n 0, 1) := by decide +kernel
theorem dX3_look_84 : decode cX3_look 84 = .ok (.getfield 60, 3) := by decide +kernel
theorem dX3_look_87 : decode cX3_look 87 = .ok (.getfield 123, 3) := by decide +kernel
theorem dX3_look_90 : decode cX3_look 90 = .ok (.iload_n 1, 1) := by decide +kernel
theorem dX3_look_91 : decode cX3_look 91 = .ok (.iaload, 1) := by decide +kernel
theorem dX3_look_92 : decode cX3_look 92 = .ok (.iastore, 1) := by decide +kernel
theorem dX3_look_93 : decode cX3_look 93 = .ok (.return_, 1) := by decide +kernel
theorem dX3_metresOf_0 : decode cX3_metresOf 0 = .ok (.bipush 100, 2) := by decide +kernel
theorem dX3_metresOf_2 : decode cX3_metresOf 2 = .ok (.sipush 300, 3) := by decide +kernel
theorem dX3_metresOf_5 : decode cX3_metresOf 5 = .ok (.bipush 40, 2) := by decide +kernel
theorem dX3_metresOf_7 : decode cX3_metresOf 7 = .ok (.iload_n 0, 1) := by decide +kernel
theorem dX3_metresOf_8 : decode cX3_metresOf 8 = .ok (.imul, 1) := by decide +kernel
theorem dX3_metresOf_9 : decode cX3_metresOf 9 = .ok (.iadd, 1) := by decide +kernel
theorem dX3_metresOf_10 : decode cX3_metresOf 10 = .ok (.bipush 15, 2) := by decide +kernel
theorem dX3_metresOf_12 : decode cX3_metresOf 12 = .ok (.iload_n 1, 1) := by decide +kernel
theorem dX3_metresOf_13 : decode cX3_metresOf 13 = .ok (.imul, 1) := by decide +kernel
theorem dX3_metresOf_14 : decode cX3_metresOf 14 = .ok (.isub, 1) := by decide +kernel
theorem dX3_metresOf_15 : decode cX3_metresOf 15 = .ok (.invokestatic 97, 3) := by decide +kernel
theorem dX3_metresOf_18 : decode cX3_metresOf 18 = .ok (.ireturn, 1) := by decide +kernel
theorem dX3_placeIn_0 : decode cX3_placeIn 0 = .ok (.aload_n 0, 1) := by decide +kernel
theorem dX3_placeIn_1 : decode cX3_placeIn 1 = .ok (.iload_n 1, 1) := by decide +kernel
theorem dX3_placeIn_2 : decode cX3_placeIn 2 = .ok (.iload_n 2, 1) := by decide +kernel
theorem dX3_placeIn_3 : decode cX3_placeIn 3 = .ok (.iadd, 1) := by decide +kernel
theorem dX3_placeIn_4 : decode cX3_placeIn 4 = .ok (.iaload, 1) := by decide +kernel
theorem dX3_placeIn_5 : decode cX3_placeIn 5 = .ok (.istore_n 3, 1) := by decide +kernel
theorem dX3_placeIn_6 : decode cX3_placeIn 6 = .ok (.iload_n 3, 1) := by decide +kernel
theorem dX3_placeIn_7 : decode cX3_placeIn 7 = .ok (.iconst (-1), 1) := by decide +kernel
theorem dX3_placeIn_8 : decode cX3_placeIn 8 = .ok (.if_icmp .ne 5, 3) := by decide +kernel
theorem dX3_placeIn_11 : decode cX3_placeIn 11 = .ok (.iconst 0, 1) := by decide +kernel
theorem dX3_placeIn_12 : decode cX3_placeIn 12 = .ok (.ireturn, 1) := by decide +kernel
theorem dX3_placeIn_13 : decode cX3_placeIn 13 = .ok (.iconst 1, 1) := by decide +kernel
theorem dX3_placeIn_14 : decode cX3_placeIn 14 = .ok (.istore 4, 2) := by decide +kernel
theorem dX3_placeIn_16 : decode cX3_placeIn 16 = .ok (.iconst 0, 1) := by decide +kernel
theorem dX3_placeIn_17 : decode cX3_placeIn 17 = .ok (.istore 5, 2) := by decide +kernel
theorem dX3_placeIn_19 : decode cX3_placeIn 19 = .ok (.iload 5, 2) := by decide +kernel
theorem dX3_placeIn_21 : decode cX3_placeIn 21 = .ok (.bipush 20, 2) := by decide +kernel
theorem dX3_placeIn_23 : decode cX3_placeIn 23 = .ok (.if_icmp .ge 44, 3) := by decide +kernel
theorem dX3_placeIn_26 : decode cX3_placeIn 26 = .ok (.aload_n 0, 1) := by decide +kernel
theorem dX3_placeIn_27 : decode cX3_placeIn 27 = .ok (.iload_n 1, 1) := by decide +kernel
theorem dX3_placeIn_28 : decode cX3_placeIn 28 = .ok (.iload 5, 2) := by decide +kernel
theorem dX3_placeIn_30 : decode cX3_placeIn 30 = .ok (.iadd, 1) := by decide +kernel
theorem dX3_placeIn_31 : decode cX3_placeIn 31 = .ok (.iaload, 1) := by decide +kernel
theorem dX3_placeIn_32 : decode cX3_placeIn 32 = .ok (.istore 6, 2) := by decide +kernel
theorem dX3_placeIn_34 : decode cX3_placeIn 34 = .ok (.iload 6, 2) := by decide +kernel
theorem dX3_placeIn_36 : decode cX3_placeIn 36 = .ok (.iconst (-1), 1) := by decide +kernel
theorem dX3_placeIn_37 : decode cX3_placeIn 37 = .ok (.if_icmp .eq 24, 3) := by decide +kernel
theorem dX3_placeIn_40 : decode cX3_placeIn 40 = .ok (.iload 6, 2) := by decide +kernel
theorem dX3_placeIn_42 : decode cX3_placeIn 42 = .ok (.iload_n 3, 1) := by decide +kernel
theorem dX3_placeIn_43 : decode cX3_placeIn 43 = .ok (.if_icmp .lt 15, 3) := by decide +kernel
theorem dX3_placeIn_46 : decode cX3_placeIn 46 = .ok (.iload 6, 2) := by decide +kernel
theorem dX3_placeIn_48 : decode cX3_placeIn 48 = .ok (.iload_n 3, 1) := by decide +kernel
theorem dX3_placeIn_49 : decode cX3_placeIn 49 = .ok (.if_icmp .ne 12, 3) := by decide +kernel
theorem dX3_placeIn_52 : decode cX3_placeIn 52 = .ok (.iload 5, 2) := by decide +kernel
theorem dX3_placeIn_54 : decode cX3_placeIn 54 = .ok (.iload_n 2, 1) := by decide +kernel
theorem dX3_placeIn_55 : decode cX3_placeIn 55 = .ok (.if_icmp .ge 6, 3) := by decide +kernel
theorem dX3_placeIn_58 : decode cX3_placeIn 58 = .ok (.iinc 4 1, 3) := by decide +kernel
theorem dX3_placeIn_61 : decode cX3_placeIn 61 = .ok (.iinc 5 1, 3) := by decide +kernel
theorem dX3_placeIn_64 : decode cX3_placeIn 64 = .ok (.goto (-45), 3) := by decide +kernel
theorem dX3_placeIn_67 : decode cX3_placeIn 67 = .ok (.iload 4, 2) := by decide +kernel
theorem dX3_placeIn_69 : decode cX3_placeIn 69 = .ok (.ireturn, 1) := by decide +kernel
theorem dX3_placeOf_0 : decode cX3_placeOf 0 = .ok (.aload_n 0, 1) := by decide +kernel
theorem dX3_placeOf_1 : decode cX3_placeOf 1 = .ok (.getfield 39, 3) := by decide +kernel
theorem dX3_placeOf_4 : decode cX3_placeOf 4 = .ok (.iconst 0, 1) := by decide +kernel
theorem dX3_placeOf_5 : decode cX3_placeOf 5 = .ok (.iload_n 1, 1) := by decide +kernel
theorem dX3_placeOf_6 : decode cX3_placeOf 6 = .ok (.invokestatic 188, 3) := by decide +kernel
theorem dX3_placeOf_9 : decode cX3_placeOf 9 = .ok (.ireturn, 1) := by decide +kernel
theorem dX3_powerOf_0 : decode cX3_powerOf 0 = .ok (.iconst 0, 1) := by decide +kernel
theorem dX3_powerOf_1 : decode cX3_powerOf 1 = .ok (.bipush 10, 2) := by decide +kernel
theorem dX3_powerOf_3 : decode cX3_powerOf 3 = .ok (.bipush 8, 2) := by decide +kernel
theorem dX3_powerOf_5 : decode cX3_powerOf 5 = .ok (.iload_n 0, 1) := by decide +kernel
theorem dX3_powerOf_6 : decode cX3_powerOf 6 = .ok (.imul, 1) := by decide +kernel
theorem dX3_powerOf_7 : decode cX3_powerOf 7 = .ok (.iadd, 1) := by decide +kernel
theorem dX3_powerOf_8 : decode cX3_powerOf 8 = .ok (.iload_n 1, 1) := by decide +kernel
theorem dX3_powerOf_9 : decode cX3_powerOf 9 = .ok (.iadd, 1) := by decide +kernel
theorem dX3_powerOf_10 : decode cX3_powerOf 10 = .ok (.iload_n 2, 1) := by decide +kernel
theorem dX3_powerOf_11 : decode cX3_powerOf 11 = .ok (.imul, 1) := by decide +kernel
theorem dX3_powerOf_12 : decode cX3_powerOf 12 = .ok (.bipush 100, 2) := by decide +kernel
theorem dX3_powerOf_14 : decode cX3_powerOf 14 = .ok (.idiv, 1) := by decide +kernel
theorem dX3_powerOf_15 : decode cX3_powerOf 15 = .ok (.invokestatic 97, 3) := by decide +kernel
theorem dX3_powerOf_18 : decode cX3_powerOf 18 = .ok (.ireturn, 1) := by decide +kernel
theorem dX3_primePointsOf_0 : decode cX3_primePointsOf 0 = .ok (.iconst 0, 1) := by decide +kernel
theorem dX3_primePointsOf_1 : decode cX3_primePointsOf 1 = .ok (.istore_n 2, 1) := by decide +kernel
theorem dX3_primePointsOf_2 : decode cX3_primePointsOf 2 = .ok (.iconst 0, 1) := by decide +kernel
theorem dX3_primePointsOf_3 : decode cX3_primePointsOf 3 = .ok (.istore_n 3, 1) := by decide +kernel
theorem dX3_primePointsOf_4 : decode cX3_primePointsOf 4 = .ok (.iload_n 3, 1) := by decide +kernel
theorem dX3_primePointsOf_5 : decode cX3_primePointsOf 5 = .ok (.aload_n 0, 1) := by decide +kernel
theorem dX3_primePointsOf_6 : decode cX3_primePointsOf 6 = .ok (.getfield 18, 3) := by decide +kernel
theorem dX3_primePointsOf_9 : decode cX3_primePointsOf 9 = .ok (.if_icmp .ge 42, 3) := by decide +kernel
theorem dX3_primePointsOf_12 : decode cX3_primePointsOf 12 = .ok (.aload_n 0, 1) := by decide +kernel
theorem dX3_primePointsOf_13 : decode cX3_primePointsOf 13 = .ok (.getfield 51, 3) := by decide +kernel
theorem dX3_primePointsOf_16 : decode cX3_primePointsOf 16 = .ok (.iload_n 3, 1) := by decide +kernel
theorem dX3_primePointsOf_17 : decode cX3_primePointsOf 17 = .ok (.bipush 20, 2) := by decide +kernel
theorem dX3_primePointsOf_19 : decode cX3_primePointsOf 19 = .ok (.imul, 1) := by decide +kernel
theorem dX3_primePointsOf_20 : decode cX3_primePointsOf 20 = .ok (.iload_n 1, 1) := by decide +kernel
theorem dX3_primePointsOf_21 : decode cX3_primePointsOf 21 = .ok (.invokestatic 188, 3) := by decide +kernel
theorem dX3_primePointsOf_24 : decode cX3_primePointsOf 24 = .ok (.istore 4, 2) := by decide +kernel
theorem dX3_primePointsOf_26 : decode cX3_primePointsOf 26 = .ok (.iload 4, 2) := by decide +kernel
theorem dX3_primePointsOf_28 : decode cX3_primePointsOf 28 = .ok (.iconst 1, 1) := by decide +kernel
theorem dX3_primePointsOf_29 : decode cX3_primePointsOf 29 = .ok (.if_icmp .lt 16, 3) := by decide +kernel
theorem dX3_primePointsOf_32 : decode cX3_primePointsOf 32 = .ok (.iload 4, 2) := by decide +kernel
theorem dX3_primePointsOf_34 : decode cX3_primePointsOf 34 = .ok (.iconst 3, 1) := by decide +kernel
theorem dX3_primePointsOf_35 : decode cX3_primePointsOf 35 = .ok (.if_icmp .gt 10, 3) := by decide +kernel
theorem dX3_primePointsOf_38 : decode cX3_primePointsOf 38 = .ok (.iload_n 2, 1) := by decide +kernel
theorem dX3_primePointsOf_39 : decode cX3_primePointsOf 39 = .ok (.iconst 4, 1) := by decide +kernel
theorem dX3_primePointsOf_40 : decode cX3_primePointsOf 40 = .ok (.iload 4, 2) := by decide +kernel
theorem dX3_primePointsOf_42 : decode cX3_primePointsOf 42 = .ok (.isub, 1) := by decide +kernel
theorem dX3_primePointsOf_43 : decode cX3_primePointsOf 43 = .ok (.iadd, 1) := by decide +kernel
theorem dX3_primePointsOf_44 : decode cX3_primePointsOf 44 = .ok (.istore_n 2, 1) := by decide +kernel
theorem dX3_primePointsOf_45 : decode cX3_primePointsOf 45 = .ok (.iinc 3 1, 3) := by decide +kernel
theorem dX3_primePointsOf_48 : decode cX3_primePointsOf 48 = .ok (.goto (-44), 3) := by decide +kernel
theorem dX3_primePointsOf_51 : decode cX3_primePointsOf 51 = .ok (.iload_n 2, 1) := by decide +kernel
theorem dX3_primePointsOf_52 : decode cX3_primePointsOf 52 = .ok (.ireturn, 1) := by decide +kernel
theorem dX3_rideMinute_0 : decode cX3_rideMinute 0 = .ok (.aload_n 0, 1) := by decide +kernel
theorem dX3_rideMinute_1 : decode cX3_rideMinute 1 = .ok (.invokevirtual 81, 3) := by decide +kernel
theorem dX3_rideMinute_4 : decode cX3_rideMinute 4 = .ok (.iconst 0, 1) := by decide +kernel
theorem dX3_rideMinute_5 : decode cX3_rideMinute 5 = .ok (.istore 4, 2) := by decide +kernel
theorem dX3_rideMinute_7 : decode cX3_rideMinute 7 = .ok (.iload 4, 2) := by decide +kernel
theorem dX3_rideMinute_9 : decode cX3_rideMinute 9 = .ok (.aload_n 0, 1) := by decide +kernel
theorem dX3_rideMinute_10 : decode cX3_rideMinute 10 = .ok (.getfield 60, 3) := by decide +kernel
theorem dX3_rideMinute_13 : decode cX3_rideMinute 13 = .ok (.getfield 84, 3) := by decide +kernel
theorem dX3_rideMinute_16 : decode cX3_rideMinute 16 = .ok (.if_icmp .ge 26, 3) := by decide +kernel
theorem dX3_rideMinute_19 : decode cX3_rideMinute 19 = .ok (.aload_n 0, 1) := by decide +kernel
theorem dX3_rideMinute_20 : decode cX3_rideMinute 20 = .ok (.aload_n 0, 1) := by decide +kernel
theorem dX3_rideMinute_21 : decode cX3_rideMinute 21 = .ok (.getfield 60, 3) := by decide +kernel
theorem dX3_rideMinute_24 : decode cX3_rideMinute 24 = .ok (.getfield 87, 3) := by decide +kernel
theorem dX3_rideMinute_27 : decode cX3_rideMinute 27 = .ok (.iload 4, 2) := by decide +kernel
theorem dX3_rideMinute_29 : decode cX3_rideMinute 29 = .ok (.iaload, 1) := by decide +kernel
theorem dX3_rideMinute_30 : decode cX3_rideMinute 30 = .ok (.aload_n 1, 1) := by decide +kernel
theorem dX3_rideMinute_31 : decode cX3_rideMinute 31 = .ok (.aload_n 2, 1) := by decide +kernel
theorem dX3_rideMinute_32 : decode cX3_rideMinute 32 = .ok (.aload_n 3, 1) := by decide +kernel
theorem dX3_rideMinute_33 : decode cX3_rideMinute 33 = .ok (.invokevirtual 90, 3) := by decide +kernel
theorem dX3_rideMinute_36 : decode cX3_rideMinute 36 = .ok (.iinc 4 1, 3) := by decide +kernel
theorem dX3_rideMinute_39 : decode cX3_rideMinute 39 = .ok (.goto (-32), 3) := by decide +kernel
theorem dX3_rideMinute_42 : decode cX3_rideMinute 42 = .ok (.aload_n 0, 1) := by decide +kernel
theorem dX3_rideMinute_43 : decode cX3_rideMinute 43 = .ok (.dup, 1) := by decide +kernel
theorem dX3_rideMinute_44 : decode cX3_rideMinute 44 = .ok (.getfield 9, 3) := by decide +kernel
theorem dX3_rideMinute_47 : decode cX3_rideMinute 47 = .ok (.iconst 1, 1) := by decide +kernel
theorem dX3_rideMinute_48 : decode cX3_rideMinute 48 = .ok (.iadd, 1) := by decide +kernel
theorem dX3_rideMinute_49 : decode cX3_rideMinute 49 = .ok (.putfield 9, 3) := by decide +kernel
theorem dX3_rideMinute_52 : decode cX3_rideMinute 52 = .ok (.aload_n 0, 1) := by decide +kernel
theorem dX3_rideMinute_53 : decode cX3_rideMinute 53 = .ok (.invokevirtual 78, 3) := by decide +kernel
theorem dX3_rideMinute_56 : decode cX3_rideMinute 56 = .ok (.return_, 1) := by decide +kernel
theorem dX3_rideOne_0 : decode cX3_rideOne 0 = .ok (.aload_n 0, 1) := by decide +kernel
theorem dX3_rideOne_1 : decode cX3_rideOne 1 = .ok (.getfield 32, 3) := by decide +kernel
theorem dX3_rideOne_4 : decode cX3_rideOne 4 = .ok (.iload_n 1, 1) := by decide +kernel
theorem dX3_rideOne_5 : decode cX3_rideOne 5 = .ok (.iaload, 1) := by decide +kernel
theorem dX3_rideOne_6 : decode cX3_rideOne 6 = .ok (.sipush 1000, 3) := by decide +kernel
theorem dX3_rideOne_9 : decode cX3_rideOne 9 = .ok (.idiv, 1) := by decide +kernel
theorem dX3_rideOne_10 : decode cX3_rideOne 10 = .ok (.bipush 29, 2) := by decide +kernel
theorem dX3_rideOne_12 : decode cX3_rideOne 12 = .ok (.invokestatic 111, 3) := by decide +kernel
theorem dX3_rideOne_15 : decode cX3_rideOne 15 = .ok (.istore 5, 2) := by decide +kernel
theorem dX3_rideOne_17 : decode cX3_rideOne 17 = .ok (.aload_n 3, 1) := by decide +kernel
theorem dX3_rideOne_18 : decode cX3_rideOne 18 = .ok (.getfield 114, 3) := by decide +kernel
theorem dX3_rideOne_21 : decode cX3_rideOne 21 = .ok (.iload 5, 2) := by decide +kernel
theorem dX3_rideOne_23 : decode cX3_rideOne 23 = .ok (.iaload, 1) := by decide +kernel
theorem dX3_rideOne_24 : decode cX3_rideOne 24 = .ok (.istore 6, 2) := by decide +kernel
theorem dX3_rideOne_26 : decode cX3_rideOne 26 = .ok (.iload 6, 2) := by decide +kernel
theorem dX3_rideOne_28 : decode cX3_rideOne 28 = .ok (.aload_n 2, 1) := by decide +kernel
theorem dX3_rideOne_29 : decode cX3_rideOne 29 = .ok (.getfield 117, 3) := by decide +kernel
theorem dX3_rideOne_32 : decode cX3_rideOne 32 = .ok (.iload_n 1, 1) := by decide +kernel
theorem dX3_rideOne_33 : decode cX3_rideOne 33 = .ok (.iaload, 1) := by decide +kernel
theorem dX3_rideOne_34 : decode cX3_rideOne 34 = .ok (.invokestatic 120, 3) := by decide +kernel
theorem dX3_rideOne_37 : decode cX3_rideOne 37 = .ok (.istore 7, 2) := by decide +kernel
theorem dX3_rideOne_39 : decode cX3_rideOne 39 = .ok (.aload_n 0, 1) := by decide +kernel
theorem dX3_rideOne_40 : decode cX3_rideOne 40 = .ok (.getfield 60, 3) := by decide +kernel
theorem dX3_rideOne_43 : decode cX3_rideOne 43 = .ok (.getfield 123, 3) := by decide +kernel
theorem dX3_rideOne_46 : decode cX3_rideOne 46 = .ok (.iload_n 1, 1) := by decide +kernel
theorem dX3_rideOne_47 : decode cX3_rideOne 47 = .ok (.iaload, 1) := by decide +kernel
theorem dX3_rideOne_48 : decode cX3_rideOne 48 = .ok (.aload_n 3, 1) := by decide +kernel
theorem dX3_rideOne_49 : decode cX3_rideOne 49 = .ok (.getfield 126, 3) := by decide +kernel
theorem dX3_rideOne_52 : decode cX3_rideOne 52 = .ok (.iload 5, 2) := by decide +kernel
theorem dX3_rideOne_54 : decode cX3_rideOne 54 = .ok (.iaload, 1) := by decide +kernel
theorem dX3_rideOne_55 : decode cX3_rideOne 55 = .ok (.invokestatic 129, 3) := by decide +kernel
theorem dX3_rideOne_58 : decode cX3_rideOne 58 = .ok (.istore 8, 2) := by decide +kernel
theorem dX3_rideOne_60 : decode cX3_rideOne 60 = .ok (.aload_n 0, 1) := by decide +kernel
theorem dX3_rideOne_61 : decode cX3_rideOne 61 = .ok (.getfield 36, 3) := by decide +kernel
theorem dX3_rideOne_64 : decode cX3_rideOne 64 = .ok (.iload_n 1, 1) := by decide +kernel
theorem dX3_rideOne_65 : decode cX3_rideOne 65 = .ok (.iaload, 1) := by decide +kernel
theorem dX3_rideOne_66 : decode cX3_rideOne 66 = .ok (.aload_n 2, 1) := by decide +kernel
theorem dX3_rideOne_67 : decode cX3_rideOne 67 = .ok (.getfield 132, 3) := by decide +kernel
theorem dX3_rideOne_70 : decode cX3_rideOne 70 = .ok (.iload_n 1, 1) := by decide +kernel
theorem dX3_rideOne_71 : decode cX3_rideOne 71 = .ok (.iaload, 1) := by decide +kernel
theorem dX3_rideOne_72 : decode cX3_rideOne 72 = .ok (.iadd, 1) := by decide +kernel
theorem dX3_rideOne_73 : decode cX3_rideOne 73 = .ok (.istore 9, 2) := by decide +kernel
theorem dX3_rideOne_75 : decode cX3_rideOne 75 = .ok (.aload_n 0, 1) := by decide +kernel
theorem dX3_rideOne_76 : decode cX3_rideOne 76 = .ok (.iload_n 1, 1) := by decide +kernel
theorem dX3_rideOne_77 : decode cX3_rideOne 77 = .ok (.aload_n 2, 1) := by decide +kernel
theorem dX3_rideOne_78 : decode cX3_rideOne 78 = .ok (.getfield 75, 3) := by decide +kernel
theorem dX3_rideOne_81 : decode cX3_rideOne 81 = .ok (.iload_n 1, 1) := by decide +kernel
theorem dX3_rideOne_82 : decode cX3_rideOne 82 = .ok (.iaload, 1) := by decide +kernel
theorem dX3_rideOne_83 : decode cX3_rideOne 83 = .ok (.aload_n 3, 1) := by decide +kernel
theorem dX3_rideOne_84 : decode cX3_rideOne 84 = .ok (.invokevirtual 135, 3) := by decide +kernel
theorem dX3_rideOne_87 : decode cX3_rideOne 87 = .ok (.invokevirtual 139, 3) := by decide +kernel
theorem dX3_rideOne_90 : decode cX3_rideOne 90 = .ok (.aload 4, 2) := by decide +kernel
theorem dX3_rideOne_92 : decode cX3_rideOne 92 = .ok (.aload_n 0, 1) := by decide +kernel
theorem dX3_rideOne_93 : decode cX3_rideOne 93 = .ok (.getfield 54, 3) := by decide +kernel
theorem dX3_rideOne_96 : decode cX3_rideOne 96 = .ok (.aload_n 2, 1) := by decide +kernel
theorem dX3_rideOne_97 : decode cX3_rideOne 97 = .ok (.getfield 143, 3) := by decide +kernel
theorem dX3_rideOne_100 : decode cX3_rideOne 100 = .ok (.iload_n 1, 1) := by decide +kernel
theorem dX3_rideOne_101 : decode cX3_rideOne 101 = .ok (.iaload, 1) := by decide +kernel
theorem dX3_rideOne_102 : decode cX3_rideOne 102 = .ok (.iaload, 1) := by decide +kernel
theorem dX3_rideOne_103 : decode cX3_rideOne 103 = .ok (.aload_n 0, 1) := by decide +kernel
theorem dX3_rideOne_104 : decode cX3_rideOne 104 = .ok (.getfield 64, 3) := by decide +kernel
theorem dX3_rideOne_107 : decode cX3_rideOne 107 = .ok (.invokevirtual 146, 3) := by decide +kernel
theorem dX3_rideOne_110 : decode cX3_rideOne 110 = .ok (.istore 10, 2) := by decide +kernel
theorem dX3_rideOne_112 : decode cX3_rideOne 112 = .ok (.iload 10, 2) := by decide +kernel
theorem dX3_rideOne_114 : decode cX3_rideOne 114 = .ok (.ifCond .le 23, 3) := by decide +kernel
theorem dX3_rideOne_117 : decode cX3_rideOne 117 = .ok (.iload 10, 2) := by decide +kernel
theorem dX3_rideOne_119 : decode cX3_rideOne 119 = .ok (.iload 7, 2) := by decide +kernel
theorem dX3_rideOne_121 : decode cX3_rideOne 121 = .ok (.iload 8, 2) := by decide +kernel
theorem dX3_rideOne_123 : decode cX3_rideOne 123 = .ok (.invokestatic 152, 3) := by decide +kernel
theorem dX3_rideOne_126 : decode cX3_rideOne 126 = .ok (.iload 9, 2) := by decide +kernel
theorem dX3_rideOne_128 : decode cX3_rideOne 128 = .ok (.if_icmp .le 9, 3) := by decide +kernel
theorem dX3_rideOne_131 : decode cX3_rideOne 131 = .ok (.iinc 10 (-1), 3) := by decide +kernel
theorem dX3_rideOne_134 : decode cX3_rideOne 134 = .ok (.goto (-22), 3) := by decide +kernel
theorem dX3_rideOne_137 : decode cX3_rideOne 137 = .ok (.iload 10, 2) := by decide +kernel
theorem dX3_rideOne_139 : decode cX3_rideOne 139 = .ok (.iload 7, 2) := by decide +kernel
theorem dX3_rideOne_141 : decode cX3_rideOne 141 = .ok (.iload 8, 2) := by decide +kernel
theorem dX3_rideOne_143 : decode cX3_rideOne 143 = .ok (.invokestatic 152, 3) := by decide +kernel
theorem dX3_rideOne_146 : decode cX3_rideOne 146 = .ok (.istore 11, 2) := by decide +kernel
theorem dX3_rideOne_148 : decode cX3_rideOne 148 = .ok (.aload_n 0, 1) := by decide +kernel
theorem dX3_rideOne_149 : decode cX3_rideOne 149 = .ok (.getfield 45, 3) := by decide +kernel
theorem dX3_rideOne_152 : decode cX3_rideOne 152 = .ok (.iload_n 1, 1) := by decide +kernel
theorem dX3_rideOne_153 : decode cX3_rideOne 153 = .ok (.dup2, 1) := by decide +kernel
theorem dX3_rideOne_154 : decode cX3_rideOne 154 = .ok (.iaload, 1) := by decide +kernel
theorem dX3_rideOne_155 : decode cX3_rideOne 155 = .ok (.iload 11, 2) := by decide +kernel
theorem dX3_rideOne_157 : decode cX3_rideOne 157 = .ok (.iadd, 1) := by decide +kernel
theorem dX3_rideOne_158 : decode cX3_rideOne 158 = .ok (.iastore, 1) := by decide +kernel
theorem dX3_rideOne_159 : decode cX3_rideOne 159 = .ok (.aload_n 0, 1) := by decide +kernel
theorem dX3_rideOne_160 : decode cX3_rideOne 160 = .ok (.getfield 36, 3) := by decide +kernel
theorem dX3_rideOne_163 : decode cX3_rideOne 163 = .ok (.iload_n 1, 1) := by decide +kernel
theorem dX3_rideOne_164 : decode cX3_rideOne 164 = .ok (.iconst 0, 1) := by decide +kernel
theorem dX3_rideOne_165 : decode cX3_rideOne 165 = .ok (.aload_n 2, 1) := by decide +kernel
theorem dX3_rideOne_166 : decode cX3_rideOne 166 = .ok (.getfield 75, 3) := by decide +kernel
theorem dX3_rideOne_169 : decode cX3_rideOne 169 = .ok (.iload_n 1, 1) := by decide +kernel
theorem dX3_rideOne_170 : decode cX3_rideOne 170 = .ok (.iaload, 1) := by decide +kernel
theorem dX3_rideOne_171 : decode cX3_rideOne 171 = .ok (.iload 9, 2) := by decide +kernel
theorem dX3_rideOne_173 : decode cX3_rideOne 173 = .ok (.iload 11, 2) := by decide +kernel
theorem dX3_rideOne_175 : decode cX3_rideOne 175 = .ok (.isub, 1) := by decide +kernel
theorem dX3_rideOne_176 : decode cX3_rideOne 176 = .ok (.invokestatic 111, 3) := by decide +kernel
theorem dX3_rideOne_179 : decode cX3_rideOne 179 = .ok (.invokestatic 97, 3) := by decide +kernel
theorem dX3_rideOne_182 : decode cX3_rideOne 182 = .ok (.iastore, 1) := by decide +kernel
theorem dX3_rideOne_183 : decode cX3_rideOne 183 = .ok (.aload_n 0, 1) := by decide +kernel
theorem dX3_rideOne_184 : decode cX3_rideOne 184 = .ok (.iload_n 1, 1) := by decide +kernel
theorem dX3_rideOne_185 : decode cX3_rideOne 185 = .ok (.iload 10, 2) := by decide +kernel
theorem dX3_rideOne_187 : decode cX3_rideOne 187 = .ok (.iload 6, 2) := by decide +kernel
theorem dX3_rideOne_189 : decode cX3_rideOne 189 = .ok (.invokestatic 156, 3) := by decide +kernel
theorem dX3_rideOne_192 : decode cX3_rideOne 192 = .ok (.aload_n 3, 1) := by decide +kernel
theorem dX3_rideOne_193 : decode cX3_rideOne 193 = .ok (.invokevirtual 159, 3) := by decide +kernel
theorem dX3_rideOne_196 : decode cX3_rideOne 196 = .ok (.return_, 1) := by decide +kernel
theorem dX3_riderAt_0 : decode cX3_riderAt 0 = .ok (.aload_n 0, 1) := by decide +kernel
theorem dX3_riderAt_1 : decode cX3_riderAt 1 = .ok (.getfield 39, 3) := by decide +kernel
theorem dX3_riderAt_4 : decode cX3_riderAt 4 = .ok (.iconst 0, 1) := by decide +kernel
theorem dX3_riderAt_5 : decode cX3_riderAt 5 = .ok (.iload_n 1, 1) := by decide +kernel
theorem dX3_riderAt_6 : decode cX3_riderAt 6 = .ok (.invokestatic 192, 3) := by decide +kernel
theorem dX3_riderAt_9 : decode cX3_riderAt 9 = .ok (.ireturn, 1) := by decide +kernel
theorem dX3_riderAtPrime_0 : decode cX3_riderAtPrime 0 = .ok (.aload_n 0, 1) := by decide +kernel
theorem dX3_riderAtPrime_1 : decode cX3_riderAtPrime 1 = .ok (.getfield 51, 3) := by decide +kernel
theorem dX3_riderAtPrime_4 : decode cX3_riderAtPrime 4 = .ok (.iload_n 1, 1) := by decide +kernel
theorem dX3_riderAtPrime_5 : decode cX3_riderAtPrime 5 = .ok (.bipush 20, 2) := by decide +kernel
theorem dX3_riderAtPrime_7 : decode cX3_riderAtPrime 7 = .ok (.imul, 1) := by decide +kernel
theorem dX3_riderAtPrime_8 : decode cX3_riderAtPrime 8 = .ok (.iload_n 2, 1) := by decide +kernel
theorem dX3_riderAtPrime_9 : decode cX3_riderAtPrime 9 = .ok (.invokestatic 192, 3) := by decide +kernel
theorem dX3_riderAtPrime_12 : decode cX3_riderAtPrime 12 = .ok (.ireturn, 1) := by decide +kernel
theorem dX3_riderIn_0 : decode cX3_riderIn 0 = .ok (.iconst 0, 1) := by decide +kernel
theorem dX3_riderIn_1 : decode cX3_riderIn 1 = .ok (.istore_n 3, 1) := by decide +kernel
theorem dX3_riderIn_2 : decode cX3_riderIn 2 = .ok (.iload_n 3, 1) := by decide +kernel
theorem dX3_riderIn_3 : decode cX3_riderIn 3 = .ok (.bipush 20, 2) := by decide +kernel
theorem dX3_riderIn_5 : decode cX3_riderIn 5 = .ok (.if_icmp .ge 21, 3) := by decide +kernel
theorem dX3_riderIn_8 : decode cX3_riderIn 8 = .ok (.aload_n 0, 1) := by decide +kernel
theorem dX3_riderIn_9 : decode cX3_riderIn 9 = .ok (.iload_n 1, 1) := by decide +kernel
theorem dX3_riderIn_10 : decode cX3_riderIn 10 = .ok (.iload_n 3, 1) := by decide +kernel
theorem dX3_riderIn_11 : decode cX3_riderIn 11 = .ok (.invokestatic 188, 3) := by decide +kernel
theorem dX3_riderIn_14 : decode cX3_riderIn 14 = .ok (.iload_n 2, 1) := by decide +kernel
theorem dX3_riderIn_15 : decode cX3_riderIn 15 = .ok (.if_icmp .ne 5, 3) := by decide +kernel
theorem dX3_riderIn_18 : decode cX3_riderIn 18 = .ok (.iload_n 3, 1) := by decide +kernel
theorem dX3_riderIn_19 : decode cX3_riderIn 19 = .ok (.ireturn, 1) := by decide +kernel
theorem dX3_riderIn_20 : decode cX3_riderIn 20 = .ok (.iinc 3 1, 3) := by decide +kernel
theorem dX3_riderIn_23 : decode cX3_riderIn 23 = .ok (.goto (-21), 3) := by decide +kernel
theorem dX3_riderIn_26 : decode cX3_riderIn 26 = .ok (.iconst (-1), 1) := by decide +kernel
theorem dX3_riderIn_27 : decode cX3_riderIn 27 = .ok (.ireturn, 1) := by decide +kernel
theorem dX3_scoreOf_0 : decode cX3_scoreOf 0 = .ok (.iconst 0, 1) := by decide +kernel
theorem dX3_scoreOf_1 : decode cX3_scoreOf 1 = .ok (.istore_n 3, 1) := by decide +kernel
theorem dX3_scoreOf_2 : decode cX3_scoreOf 2 = .ok (.iconst 0, 1) := by decide +kernel
theorem dX3_scoreOf_3 : decode cX3_scoreOf 3 = .ok (.istore 4, 2) := by decide +kernel
theorem dX3_scoreOf_5 : decode cX3_scoreOf 5 = .ok (.iconst 1, 1) := by decide +kernel
theorem dX3_scoreOf_6 : decode cX3_scoreOf 6 = .ok (.istore 5, 2) := by decide +kernel
theorem dX3_scoreOf_8 : decode cX3_scoreOf 8 = .ok (.iload 5, 2) := by decide +kernel
theorem dX3_scoreOf_10 : decode cX3_scoreOf 10 = .ok (.bipush 20, 2) := by decide +kernel
theorem dX3_scoreOf_12 : decode cX3_scoreOf 12 = .ok (.if_icmp .gt 48, 3) := by decide +kernel
theorem dX3_scoreOf_15 : decode cX3_scoreOf 15 = .ok (.iload 4, 2) := by decide +kernel
theorem dX3_scoreOf_17 : decode cX3_scoreOf 17 = .ok (.iconst 3, 1) := by decide +kernel
theorem dX3_scoreOf_18 : decode cX3_scoreOf 18 = .ok (.if_icmp .ge 42, 3) := by decide +kernel
theorem dX3_scoreOf_21 : decode cX3_scoreOf 21 = .ok (.aload_n 0, 1) := by decide +kernel
theorem dX3_scoreOf_22 : decode cX3_scoreOf 22 = .ok (.iload 5, 2) := by decide +kernel
theorem dX3_scoreOf_24 : decode cX3_scoreOf 24 = .ok (.invokevirtual 195, 3) := by decide +kernel
theorem dX3_scoreOf_27 : decode cX3_scoreOf 27 = .ok (.istore 6, 2) := by decide +kernel
theorem dX3_scoreOf_29 : decode cX3_scoreOf 29 = .ok (.iload 6, 2) := by decide +kernel
theorem dX3_scoreOf_31 : decode cX3_scoreOf 31 = .ok (.iconst (-1), 1) := by decide +kernel
theorem dX3_scoreOf_32 : decode cX3_scoreOf 32 = .ok (.if_icmp .eq 22, 3) := by decide +kernel
theorem dX3_scoreOf_35 : decode cX3_scoreOf 35 = .ok (.aload_n 2, 1) := by decide +kernel
theorem dX3_scoreOf_36 : decode cX3_scoreOf 36 = .ok (.getfield 143, 3) := by decide +kernel
theorem dX3_scoreOf_39 : decode cX3_scoreOf 39 = .ok (.iload 6, 2) := by decide +kernel
theorem dX3_scoreOf_41 : decode cX3_scoreOf 41 = .ok (.iaload, 1) := by decide +kernel
theorem dX3_scoreOf_42 : decode cX3_scoreOf 42 = .ok (.iload_n 1, 1) := by decide +kernel
theorem dX3_scoreOf_43 : decode cX3_scoreOf 43 = .ok (.if_icmp .ne 11, 3) := by decide +kernel
theorem dX3_scoreOf_46 : decode cX3_scoreOf 46 = .ok (.iload_n 3, 1) := by decide +kernel
theorem dX3_scoreOf_47 : decode cX3_scoreOf 47 = .ok (.iload 5, 2) := by decide +kernel
theorem dX3_scoreOf_49 : decode cX3_scoreOf 49 = .ok (.iadd, 1) := by decide +kernel
theorem dX3_scoreOf_50 : decode cX3_scoreOf 50 = .ok (.istore_n 3, 1) := by decide +kernel
theorem dX3_scoreOf_51 : decode cX3_scoreOf 51 = .ok (.iinc 4 1, 3) := by decide +kernel
theorem dX3_scoreOf_54 : decode cX3_scoreOf 54 = .ok (.iinc 5 1, 3) := by decide +kernel
theorem dX3_scoreOf_57 : decode cX3_scoreOf 57 = .ok (.goto (-49), 3) := by decide +kernel
theorem dX3_scoreOf_60 : decode cX3_scoreOf 60 = .ok (.iload_n 3, 1) := by decide +kernel
theorem dX3_scoreOf_61 : decode cX3_scoreOf 61 = .ok (.bipush 40, 2) := by decide +kernel
theorem dX3_scoreOf_63 : decode cX3_scoreOf 63 = .ok (.iconst 3, 1) := by decide +kernel
theorem dX3_scoreOf_64 : decode cX3_scoreOf 64 = .ok (.iload 4, 2) := by decide +kernel
theorem dX3_scoreOf_66 : decode cX3_scoreOf 66 = .ok (.isub, 1) := by decide +kernel
theorem dX3_scoreOf_67 : decode cX3_scoreOf 67 = .ok (.imul, 1) := by decide +kernel
theorem dX3_scoreOf_68 : decode cX3_scoreOf 68 = .ok (.iadd, 1) := by decide +kernel
theorem dX3_scoreOf_69 : decode cX3_scoreOf 69 = .ok (.ireturn, 1) := by decide +kernel
theorem dX3_secondsAfter_0 : decode cX3_secondsAfter 0 = .ok (.bipush 100, 2) := by decide +kernel
theorem dX3_secondsAfter_2 : decode cX3_secondsAfter 2 = .ok (.iload_n 2, 1) := by decide +kernel
theorem dX3_secondsAfter_3 : decode cX3_secondsAfter 3 = .ok (.invokestatic 97, 3) := by decide +kernel
theorem dX3_secondsAfter_6 : decode cX3_secondsAfter 6 = .ok (.istore_n 3, 1) := by decide +kernel
theorem dX3_secondsAfter_7 : decode cX3_secondsAfter 7 = .ok (.bipush 60, 2) := by decide +kernel
theorem dX3_secondsAfter_9 : decode cX3_secondsAfter 9 = .ok (.aload_n 0, 1) := by decide +kernel
theorem dX3_secondsAfter_10 : decode cX3_secondsAfter 10 = .ok (.getfield 9, 3) := by decide +kernel
theorem dX3_secondsAfter_13 : decode cX3_secondsAfter 13 = .ok (.imul, 1) := by decide +kernel
theorem dX3_secondsAfter_14 : decode cX3_secondsAfter 14 = .ok (.bipush 60, 2) := by decide +kernel
theorem dX3_secondsAfter_16 : decode cX3_secondsAfter 16 = .ok (.iload_n 1, 1) := by decide +kernel
theorem dX3_secondsAfter_17 : decode cX3_secondsAfter 17 = .ok (.imul, 1) := by decide +kernel
theorem dX3_secondsAfter_18 : decode cX3_secondsAfter 18 = .ok (.iload_n 3, 1) := by decide +kernel
theorem dX3_secondsAfter_19 : decode cX3_secondsAfter 19 = .ok (.iadd, 1) := by decide +kernel
theorem dX3_secondsAfter_20 : decode cX3_secondsAfter 20 = .ok (.iconst 1, 1) := by decide +kernel
theorem dX3_secondsAfter_21 : decode cX3_secondsAfter 21 = .ok (.isub, 1) := by decide +kernel
theorem dX3_secondsAfter_22 : decode cX3_secondsAfter 22 = .ok (.iload_n 3, 1) := by decide +kernel
theorem dX3_secondsAfter_23 : decode cX3_secondsAfter 23 = .ok (.idiv, 1) := by decide +kernel
theorem dX3_secondsAfter_24 : decode cX3_secondsAfter 24 = .ok (.iadd, 1) := by decide +kernel
theorem dX3_secondsAfter_25 : decode cX3_secondsAfter 25 = .ok (.ireturn, 1) := by decide +kernel
theorem dX3_shareOf_0 : decode cX3_shareOf 0 = .ok (.iload_n 0, 1) := by decide +kernel
theorem dX3_shareOf_1 : decode cX3_shareOf 1 = .ok (.iconst 2, 1) := by decide +kernel
theorem dX3_shareOf_2 : decode cX3_shareOf 2 = .ok (.if_icmp .ge 10, 3) := by decide +kernel
theorem dX3_shareOf_5 : decode cX3_shareOf 5 = .ok (.bipush 100, 2) := by decide +kernel
theorem dX3_shareOf_7 : decode cX3_shareOf 7 = .ok (.iconst 4, 1) := by decide +kernel
theorem dX3_shareOf_8 : decode cX3_shareOf 8 = .ok (.iload_n 1, 1) := by decide +kernel
theorem dX3_shareOf_9 : decode cX3_shareOf 9 = .ok (.imul, 1) := by decide +kernel
theorem dX3_shareOf_10 : decode cX3_shareOf 10 = .ok (.iadd, 1) := by decide +kernel
theorem dX3_shareOf_11 : decode cX3_shareOf 11 = .ok (.ireturn, 1) := by decide +kernel
theorem dX3_shareOf_12 : decode cX3_shareOf 12 = .ok (.bipush 60, 2) := by decide +kernel
theorem dX3_shareOf_14 : decode cX3_shareOf 14 = .ok (.iconst 2, 1) := by decide +kernel
theorem dX3_shareOf_15 : decode cX3_shareOf 15 = .ok (.iload_n 1, 1) := by decide +kernel
theorem dX3_shareOf_16 : decode cX3_shareOf 16 = .ok (.imul, 1) := by decide +kernel
theorem dX3_shareOf_17 : decode cX3_shareOf 17 = .ok (.iadd, 1) := by decide +kernel
theorem dX3_shareOf_18 : decode cX3_shareOf 18 = .ok (.bipush 20, 2) := by decide +kernel
theorem dX3_shareOf_20 : decode cX3_shareOf 20 = .ok (.iload_n 0, 1) := by decide +kernel
theorem dX3_shareOf_21 : decode cX3_shareOf 21 = .ok (.iconst 1, 1) := by decide +kernel
theorem dX3_shareOf_22 : decode cX3_shareOf 22 = .ok (.isub, 1) := by decide +kernel
theorem dX3_shareOf_23 : decode cX3_shareOf 23 = .ok (.idiv, 1) := by decide +kernel
theorem dX3_shareOf_24 : decode cX3_shareOf 24 = .ok (.iadd, 1) := by decide +kernel
theorem dX3_shareOf_25 : decode cX3_shareOf 25 = .ok (.ireturn, 1) := by decide +kernel
theorem dX3_slopePower_0 : decode cX3_slopePower 0 = .ok (.iconst 3, 1) := by decide +kernel
theorem dX3_slopePower_1 : decode cX3_slopePower 1 = .ok (.iload_n 0, 1) := by decide +kernel
theorem dX3_slopePower_2 : decode cX3_slopePower 2 = .ok (.imul, 1) := by decide +kernel
theorem dX3_slopePower_3 : decode cX3_slopePower 3 = .ok (.istore_n 2, 1) := by decide +kernel
theorem dX3_slopePower_4 : decode cX3_slopePower 4 = .ok (.iload_n 0, 1) := by decide +kernel
theorem dX3_slopePower_5 : decode cX3_slopePower 5 = .ok (.ifCond .le 14, 3) := by decide +kernel
theorem dX3_slopePower_8 : decode cX3_slopePower 8 = .ok (.iload_n 2, 1) := by decide +kernel
theorem dX3_slopePower_9 : decode cX3_slopePower 9 = .ok (.iload_n 2, 1) := by decide +kernel
theorem dX3_slopePower_10 : decode cX3_slopePower 10 = .ok (.iload_n 1, 1) := by decide +kernel
theorem dX3_slopePower_11 : decode cX3_slopePower 11 = .ok (.imul, 1) := by decide +kernel
theorem dX3_slopePower_12 : decode cX3_slopePower 12 = .ok (.bipush 100, 2) := by decide +kernel
theorem dX3_slopePower_14 : decode cX3_slopePower 14 = .ok (.idiv, 1) := by decide +kernel
theorem dX3_slopePower_15 : decode cX3_slopePower 15 = .ok (.isub, 1) := by decide +kernel
theorem dX3_slopePower_16 : decode cX3_slopePower 16 = .ok (.goto 4, 3) := by decide +kernel
theorem dX3_slopePower_19 : decode cX3_slopePower 19 = .ok (.iload_n 2, 1) := by decide +kernel
theorem dX3_slopePower_20 : decode cX3_slopePower 20 = .ok (.ireturn, 1) := by decide +kernel
theorem dX4_init_0 : decode cX4_init 0 = .ok (.aload_n 0, 1) := by decide +kernel
theorem dX4_init_1 : decode cX4_init 1 = .ok (.invokespecial 3, 3) := by decide +kernel
theorem dX4_init_4 : decode cX4_init 4 = .ok (.aload_n 0, 1) := by decide +kernel
theorem dX4_init_5 : decode cX4_init 5 = .ok (.sipush 8020, 3) := by decide +kernel
theorem dX4_init_8 : decode cX4_init 8 = .ok (.newarray .int, 2) := by decide +kernel
theorem dX4_init_10 : decode cX4_init 10 = .ok (.putfield 9, 3) := by decide +kernel
theorem dX4_init_13 : decode cX4_init 13 = .ok (.aload_n 0, 1) := by decide +kernel
theorem dX4_init_14 : decode cX4_init 14 = .ok (.sipush 401, 3) := by decide +kernel
theorem dX4_init_17 : decode cX4_init 17 = .ok (.newarray .int, 2) := by decide +kernel
theorem dX4_init_19 : decode cX4_init 19 = .ok (.putfield 15, 3) := by decide +kernel
theorem dX4_init_22 : decode cX4_init 22 = .ok (.return_, 1) := by decide +kernel
theorem dX4_note_0 : decode cX4_note 0 = .ok (.aload_n 1, 1) := by decide +kernel
theorem dX4_note_1 : decode cX4_note 1 = .ok (.getfield 18, 3) := by decide +kernel
theorem dX4_note_4 : decode cX4_note 4 = .ok (.ifCond .lt 13, 3) := by decide +kernel
theorem dX4_note_7 : decode cX4_note 7 = .ok (.aload_n 1, 1) := by decide +kernel
theorem dX4_note_8 : decode cX4_note 8 = .ok (.getfield 18, 3) := by decide +kernel
theorem dX4_note_11 : decode cX4_note 11 = .ok (.sipush 400, 3) := by decide +kernel
theorem dX4_note_14 : decode cX4_note 14 = .ok (.if_icmp .le 4, 3) := by decide +kernel
theorem dX4_note_17 : decode cX4_note 17 = .ok (.return_, 1) := by decide +kernel
theorem dX4_note_18 : decode cX4_note 18 = .ok (.aload_n 1, 1) := by decide +kernel
theorem dX4_note_19 : decode cX4_note 19 = .ok (.getfield 18, 3) := by decide +kernel
theorem dX4_note_22 : decode cX4_note 22 = .ok (.bipush 20, 2) := by decide +kernel
theorem dX4_note_24 : decode cX4_note 24 = .ok (.imul, 1) := by decide +kernel
theorem dX4_note_25 : decode cX4_note 25 = .ok (.istore_n 2, 1) := by decide +kernel
theorem dX4_note_26 : decode cX4_note 26 = .ok (.iconst 0, 1) := by decide +kernel
theorem dX4_note_27 : decode cX4_note 27 = .ok (.istore_n 3, 1) := by decide +kernel
theorem dX4_note_28 : decode cX4_note 28 = .ok (.iload_n 3, 1) := by decide +kernel
theorem dX4_note_29 : decode cX4_note 29 = .ok (.bipush 20, 2) := by decide +kernel
theorem dX4_note_31 : decode cX4_note 31 = .ok (.if_icmp .ge 23, 3) := by decide +kernel
theorem dX4_note_34 : decode cX4_note 34 = .ok (.aload_n 0, 1) := by decide +kernel
theorem dX4_note_35 : decode cX4_note 35 = .ok (.getfield 9, 3) := by decide +kernel
theorem dX4_note_38 : decode cX4_note 38 = .ok (.iload_n 2, 1) := by decide +kernel
theorem dX4_note_39 : decode cX4_note 39 = .ok (.iload_n 3, 1) := by decide +kernel
theorem dX4_note_40 : decode cX4_note 40 = .ok (.iadd, 1) := by decide +kernel
theorem dX4_note_41 : decode cX4_note 41 = .ok (.aload_n 1, 1) := by decide +kernel
theorem dX4_note_42 : decode cX4_note 42 = .ok (.getfield 24, 3) := by decide +kernel
theorem dX4_note_45 : decode cX4_note 45 = .ok (.iload_n 3, 1) := by decide +kernel
theorem dX4_note_46 : decode cX4_note 46 = .ok (.iaload, 1) := by decide +kernel
theorem dX4_note_47 : decode cX4_note 47 = .ok (.iastore, 1) := by decide +kernel
theorem dX4_note_48 : decode cX4_note 48 = .ok (.iinc 3 1, 3) := by decide +kernel
theorem dX4_note_51 : decode cX4_note 51 = .ok (.goto (-23), 3) := by decide +kernel
theorem dX4_note_54 : decode cX4_note 54 = .ok (.aload_n 0, 1) := by decide +kernel
theorem dX4_note_55 : decode cX4_note 55 = .ok (.getfield 15, 3) := by decide +kernel
theorem dX4_note_58 : decode cX4_note 58 = .ok (.aload_n 1, 1) := by decide +kernel
theorem dX4_note_59 : decode cX4_note 59 = .ok (.getfield 18, 3) := by decide +kernel
theorem dX4_note_62 : decode cX4_note 62 = .ok (.aload_n 1, 1) := by decide +kernel
theorem dX4_note_63 : decode cX4_note 63 = .ok (.getfield 25, 3) := by decide +kernel
theorem dX4_note_66 : decode cX4_note 66 = .ok (.getfield 29, 3) := by decide +kernel
theorem dX4_note_69 : decode cX4_note 69 = .ok (.iastore, 1) := by decide +kernel
theorem dX4_note_70 : decode cX4_note 70 = .ok (.return_, 1) := by decide +kernel
theorem dX5_add_0 : decode cX5_add 0 = .ok (.aload_n 0, 1) := by decide +kernel
theorem dX5_add_1 : decode cX5_add 1 = .ok (.getfield 9, 3) := by decide +kernel
theorem dX5_add_4 : decode cX5_add 4 = .ok (.bipush 20, 2) := by decide +kernel
theorem dX5_add_6 : decode cX5_add 6 = .ok (.if_icmp .ge 44, 3) := by decide +kernel
theorem dX5_add_9 : decode cX5_add 9 = .ok (.iload_n 1, 1) := by decide +kernel
theorem dX5_add_10 : decode cX5_add 10 = .ok (.invokestatic 28, 3) := by decide +kernel
theorem dX5_add_13 : decode cX5_add 13 = .ok (.ifCond .eq 37, 3) := by decide +kernel
theorem dX5_add_16 : decode cX5_add 16 = .ok (.iload_n 2, 1) := by decide +kernel
theorem dX5_add_17 : decode cX5_add 17 = .ok (.iconst 1, 1) := by decide +kernel
theorem dX5_add_18 : decode cX5_add 18 = .ok (.if_icmp .lt 32, 3) := by decide +kernel
theorem dX5_add_21 : decode cX5_add 21 = .ok (.iload_n 2, 1) := by decide +kernel
theorem dX5_add_22 : decode cX5_add 22 = .ok (.bipush 60, 2) := by decide +kernel
theorem dX5_add_24 : decode cX5_add 24 = .ok (.if_icmp .gt 26, 3) := by decide +kernel
theorem dX5_add_27 : decode cX5_add 27 = .ok (.iload_n 3, 1) := by decide +kernel
theorem dX5_add_28 : decode cX5_add 28 = .ok (.ifCond .lt 22, 3) := by decide +kernel
theorem dX5_add_31 : decode cX5_add 31 = .ok (.iload_n 3, 1) := by decide +kernel
theorem dX5_add_32 : decode cX5_add 32 = .ok (.sipush 2000, 3) := by decide +kernel
theorem dX5_add_35 : decode cX5_add 35 = .ok (.if_icmp .gt 15, 3) := by decide +kernel
theorem dX5_add_38 : decode cX5_add 38 = .ok (.iload 4, 2) := by decide +kernel
theorem dX5_add_40 : decode cX5_add 40 = .ok (.ifCond .lt 10, 3) := by decide +kernel
theorem dX5_add_43 : decode cX5_add 43 = .ok (.iload 4, 2) := by decide +kernel
theorem dX5_add_45 : decode cX5_add 45 = .ok (.bipush 50, 2) := by decide +kernel
theorem dX5_add_47 : decode cX5_add 47 = .ok (.if_icmp .le 5, 3) := by decide +kernel
theorem dX5_add_50 : decode cX5_add 50 = .ok (.iconst (-1), 1) := by decide +kernel
theorem dX5_add_51 : decode cX5_add 51 = .ok (.ireturn, 1) := by decide +kernel
theorem dX5_add_52 : decode cX5_add 52 = .ok (.aload_n 0, 1) := by decide +kernel
theorem dX5_add_53 : decode cX5_add 53 = .ok (.getfield 15, 3) := by decide +kernel
theorem dX5_add_56 : decode cX5_add 56 = .ok (.aload_n 0, 1) := by decide +kernel
theorem dX5_add_57 : decode cX5_add 57 = .ok (.getfield 9, 3) := by decide +kernel
theorem dX5_add_60 : decode cX5_add 60 = .ok (.iload_n 1, 1) := by decide +kernel
theorem dX5_add_61 : decode cX5_add 61 = .ok (.iastore, 1) := by decide +kernel
theorem dX5_add_62 : decode cX5_add 62 = .ok (.aload_n 0, 1) := by decide +kernel
theorem dX5_add_63 : decode cX5_add 63 = .ok (.getfield 19, 3) := by decide +kernel
theorem dX5_add_66 : decode cX5_add 66 = .ok (.aload_n 0, 1) := by decide +kernel
theorem dX5_add_67 : decode cX5_add 67 = .ok (.getfield 9, 3) := by decide +kernel
theorem dX5_add_70 : decode cX5_add 70 = .ok (.iload_n 2, 1) := by decide +kernel
theorem dX5_add_71 : decode cX5_add 71 = .ok (.iastore, 1) := by decide +kernel
theorem dX5_add_72 : decode cX5_add 72 = .ok (.aload_n 0, 1) := by decide +kernel
theorem dX5_add_73 : decode cX5_add 73 = .ok (.getfield 22, 3) := by decide +kernel
theorem dX5_add_76 : decode cX5_add 76 = .ok (.aload_n 0, 1) := by decide +kernel
theorem dX5_add_77 : decode cX5_add 77 = .ok (.getfield 9, 3) := by decide +kernel
theorem dX5_add_80 : decode cX5_add 80 = .ok (.iload_n 3, 1) := by decide +kernel
theorem dX5_add_81 : decode cX5_add 81 = .ok (.iastore, 1) := by decide +kernel
theorem dX5_add_82 : decode cX5_add 82 = .ok (.aload_n 0, 1) := by decide +kernel
theorem dX5_add_83 : decode cX5_add 83 = .ok (.getfield 25, 3) := by decide +kernel
theorem dX5_add_86 : decode cX5_add 86 = .ok (.aload_n 0, 1) := by decide +kernel
theorem dX5_add_87 : decode cX5_add 87 = .ok (.getfield 9, 3) := by decide +kernel
theorem dX5_add_90 : decode cX5_add 90 = .ok (.iload 4, 2) := by decide +kernel
theorem dX5_add_92 : decode cX5_add 92 = .ok (.iastore, 1) := by decide +kernel
theorem dX5_add_93 : decode cX5_add 93 = .ok (.aload_n 0, 1) := by decide +kernel
theorem dX5_add_94 : decode cX5_add 94 = .ok (.dup, 1) := by decide +kernel
theorem dX5_add_95 : decode cX5_add 95 = .ok (.getfield 9, 3) := by decide +kernel
theorem dX5_add_98 : decode cX5_add 98 = .ok (.iconst 1, 1) := by decide +kernel
theorem dX5_add_99 : decode cX5_add 99 = .ok (.iadd, 1) := by decide +kernel
theorem dX5_add_100 : decode cX5_add 100 = .ok (.putfield 9, 3) := by decide +kernel
theorem dX5_add_103 : decode cX5_add 103 = .ok (.aload_n 0, 1) := by decide +kernel
theorem dX5_add_104 : decode cX5_add 104 = .ok (.getfield 9, 3) := by decide +kernel
theorem dX5_add_107 : decode cX5_add 107 = .ok (.iconst 1, 1) := by decide +kernel
theorem dX5_add_108 : decode cX5_add 108 = .ok (.isub, 1) := by decide +kernel
theorem dX5_add_109 : decode cX5_add 109 = .ok (.ireturn, 1) := by decide +kernel
theorem dX5_init_0 : decode cX5_init 0 = .ok (.aload_n 0, 1) := by decide +kernel
theorem dX5_init_1 : decode cX5_init 1 = .ok (.invokespecial 3, 3) := by decide +kernel
theorem dX5_init_4 : decode cX5_init 4 = .ok (.aload_n 0, 1) := by decide +kernel
theorem dX5_init_5 : decode cX5_init 5 = .ok (.iconst 0, 1) := by decide +kernel
theorem dX5_init_6 : decode cX5_init 6 = .ok (.putfield 9, 3) := by decide +kernel
theorem dX5_init_9 : decode cX5_init 9 = .ok (.aload_n 0, 1) := by decide +kernel
theorem dX5_init_10 : decode cX5_init 10 = .ok (.bipush 20, 2) := by decide +kernel
theorem dX5_init_12 : decode cX5_init 12 = .ok (.newarray .int, 2) := by decide +kernel
theorem dX5_init_14 : decode cX5_init 14 = .ok (.putfield 15, 3) := by decide +kernel
theorem dX5_init_17 : decode cX5_init 17 = .ok (.aload_n 0, 1) := by decide +kernel
theorem dX5_init_18 : decode cX5_init 18 = .ok (.bipush 20, 2) := by decide +kernel
theorem dX5_init_20 : decode cX5_init 20 = .ok (.newarray .int, 2) := by decide +kernel
theorem dX5_init_22 : decode cX5_init 22 = .ok (.putfield 19, 3) := by decide +kernel
theorem dX5_init_25 : decode cX5_init 25 = .ok (.aload_n 0, 1) := by decide +kernel
theorem dX5_init_26 : decode cX5_init 26 = .ok (.bipush 20, 2) := by decide +kernel
theorem dX5_init_28 : decode cX5_init 28 = .ok (.newarray .int, 2) := by decide +kernel
theorem dX5_init_30 : decode cX5_init 30 = .ok (.putfield 22, 3) := by decide +kernel
theorem dX5_init_33 : decode cX5_init 33 = .ok (.aload_n 0, 1) := by decide +kernel
theorem dX5_init_34 : decode cX5_init 34 = .ok (.bipush 20, 2) := by decide +kernel
theorem dX5_init_36 : decode cX5_init 36 = .ok (.newarray .int, 2) := by decide +kernel
theorem dX5_init_38 : decode cX5_init 38 = .ok (.putfield 25, 3) := by decide +kernel
theorem dX5_init_41 : decode cX5_init 41 = .ok (.return_, 1) := by decide +kernel
theorem dX6_addPrime_0 : decode cX6_addPrime 0 = .ok (.aload_n 0, 1) := by decide +kernel
theorem dX6_addPrime_1 : decode cX6_addPrime 1 = .ok (.getfield 22, 3) := by decide +kernel
theorem dX6_addPrime_4 : decode cX6_addPrime 4 = .ok (.iconst 5, 1) := by decide +kernel
theorem dX6_addPrime_5 : decode cX6_addPrime 5 = .ok (.if_icmp .ge 11, 3) := by decide +kernel
theorem dX6_addPrime_8 : decode cX6_addPrime 8 = .ok (.aload_n 0, 1) := by decide +kernel
theorem dX6_addPrime_9 : decode cX6_addPrime 9 = .ok (.iload_n 1, 1) := by decide +kernel
theorem dX6_addPrime_10 : decode cX6_addPrime 10 = .ok (.invokevirtual 38, 3) := by decide +kernel
theorem dX6_addPrime_13 : decode cX6_addPrime 13 = .ok (.ifCond .ne 5, 3) := by decide +kernel
theorem dX6_addPrime_16 : decode cX6_addPrime 16 = .ok (.iconst (-1), 1) := by decide +kernel
theorem dX6_addPrime_17 : decode cX6_addPrime 17 = .ok (.ireturn, 1) := by decide +kernel
theorem dX6_addPrime_18 : decode cX6_addPrime 18 = .ok (.aload_n 0, 1) := by decide +kernel
theorem dX6_addPrime_19 : decode cX6_addPrime 19 = .ok (.getfield 25, 3) := by decide +kernel
theorem dX6_addPrime_22 : decode cX6_addPrime 22 = .ok (.aload_n 0, 1) := by decide +kernel
theorem dX6_addPrime_23 : decode cX6_addPrime 23 = .ok (.getfield 22, 3) := by decide +kernel
theorem dX6_addPrime_26 : decode cX6_addPrime 26 = .ok (.iload_n 1, 1) := by decide +kernel
theorem dX6_addPrime_27 : decode cX6_addPrime 27 = .ok (.iastore, 1) := by decide +kernel
theorem dX6_addPrime_28 : decode cX6_addPrime 28 = .ok (.aload_n 0, 1) := by decide +kernel
theorem dX6_addPrime_29 : decode cX6_addPrime 29 = .ok (.dup, 1) := by decide +kernel
theorem dX6_addPrime_30 : decode cX6_addPrime 30 = .ok (.getfield 22, 3) := by decide +kernel
theorem dX6_addPrime_33 : decode cX6_addPrime 33 = .ok (.iconst 1, 1) := by decide +kernel
theorem dX6_addPrime_34 : decode cX6_addPrime 34 = .ok (.iadd, 1) := by decide +kernel
theorem dX6_addPrime_35 : decode cX6_addPrime 35 = .ok (.putfield 22, 3) := by decide +kernel
theorem dX6_addPrime_38 : decode cX6_addPrime 38 = .ok (.aload_n 0, 1) := by decide +kernel
theorem dX6_addPrime_39 : decode cX6_addPrime 39 = .ok (.getfield 22, 3) := by decide +kernel
theorem dX6_addPrime_42 : decode cX6_addPrime 42 = .ok (.iconst 1, 1) := by decide +kernel
theorem dX6_addPrime_43 : decode cX6_addPrime 43 = .ok (.isub, 1) := by decide +kernel
theorem dX6_addPrime_44 : decode cX6_addPrime 44 = .ok (.ireturn, 1) := by decide +kernel
theorem dX6_init_0 : decode cX6_init 0 = .ok (.aload_n 0, 1) := by decide +kernel
theorem dX6_init_1 : decode cX6_init 1 = .ok (.invokespecial 3, 3) := by decide +kernel
theorem dX6_init_4 : decode cX6_init 4 = .ok (.aload_n 0, 1) := by decide +kernel
theorem dX6_init_5 : decode cX6_init 5 = .ok (.iconst 1, 1) := by decide +kernel
theorem dX6_init_6 : decode cX6_init 6 = .ok (.putfield 9, 3) := by decide +kernel
theorem dX6_init_9 : decode cX6_init 9 = .ok (.aload_n 0, 1) := by decide +kernel
theorem dX6_init_10 : decode cX6_init 10 = .ok (.bipush 30, 2) := by decide +kernel
theorem dX6_init_12 : decode cX6_init 12 = .ok (.newarray .int, 2) := by decide +kernel
theorem dX6_init_14 : decode cX6_init 14 = .ok (.putfield 15, 3) := by decide +kernel
theorem dX6_init_17 : decode cX6_init 17 = .ok (.aload_n 0, 1) := by decide +kernel
theorem dX6_init_18 : decode cX6_init 18 = .ok (.bipush 30, 2) := by decide +kernel
theorem dX6_init_20 : decode cX6_init 20 = .ok (.newarray .int, 2) := by decide +kernel
theorem dX6_init_22 : decode cX6_init 22 = .ok (.putfield 19, 3) := by decide +kernel
theorem dX6_init_25 : decode cX6_init 25 = .ok (.aload_n 0, 1) := by decide +kernel
theorem dX6_init_26 : decode cX6_init 26 = .ok (.iconst 0, 1) := by decide +kernel
theorem dX6_init_27 : decode cX6_init 27 = .ok (.putfield 22, 3) := by decide +kernel
theorem dX6_init_30 : decode cX6_init 30 = .ok (.aload_n 0, 1) := by decide +kernel
theorem dX6_init_31 : decode cX6_init 31 = .ok (.iconst 5, 1) := by decide +kernel
theorem dX6_init_32 : decode cX6_init 32 = .ok (.newarray .int, 2) := by decide +kernel
theorem dX6_init_34 : decode cX6_init 34 = .ok (.putfield 25, 3) := by decide +kernel
theorem dX6_init_37 : decode cX6_init 37 = .ok (.aload_n 0, 1) := by decide +kernel
theorem dX6_init_38 : decode cX6_init 38 = .ok (.iconst 0, 1) := by decide +kernel
theorem dX6_init_39 : decode cX6_init 39 = .ok (.putfield 28, 3) := by decide +kernel
theorem dX6_init_42 : decode cX6_init 42 = .ok (.aload_n 0, 1) := by decide +kernel
theorem dX6_init_43 : decode cX6_init 43 = .ok (.iconst 0, 1) := by decide +kernel
theorem dX6_init_44 : decode cX6_init 44 = .ok (.putfield 31, 3) := by decide +kernel
theorem dX6_init_47 : decode cX6_init 47 = .ok (.return_, 1) := by decide +kernel
theorem dX6_isBetweenEnds_0 : decode cX6_isBetweenEnds 0 = .ok (.iload_n 1, 1) := by decide +kernel
theorem dX6_isBetweenEnds_1 : decode cX6_isBetweenEnds 1 = .ok (.iconst 1, 1) := by decide +kernel
theorem dX6_isBetweenEnds_2 : decode cX6_isBetweenEnds 2 = .ok (.if_icmp .lt 15, 3) := by decide +kernel
theorem dX6_isBetweenEnds_5 : decode cX6_isBetweenEnds 5 = .ok (.iload_n 1, 1) := by decide +kernel
theorem dX6_isBetweenEnds_6 : decode cX6_isBetweenEnds 6 = .ok (.aload_n 0, 1) := by decide +kernel
theorem dX6_isBetweenEnds_7 : decode cX6_isBetweenEnds 7 = .ok (.invokevirtual 34, 3) := by decide +kernel
theorem dX6_isBetweenEnds_10 : decode cX6_isBetweenEnds 10 = .ok (.if_icmp .ge 7, 3) := by decide +kernel
theorem dX6_isBetweenEnds_13 : decode cX6_isBetweenEnds 13 = .ok (.iconst 1, 1) := by decide +kernel
theorem dX6_isBetweenEnds_14 : decode cX6_isBetweenEnds 14 = .ok (.goto 4, 3) := by decide +kernel
theorem dX6_isBetweenEnds_17 : decode cX6_isBetweenEnds 17 = .ok (.iconst 0, 1) := by decide +kernel
theorem dX6_isBetweenEnds_18 : decode cX6_isBetweenEnds 18 = .ok (.ireturn, 1) := by decide +kernel
theorem dX6_length_0 : decode cX6_length 0 = .ok (.aload_n 0, 1) := by decide +kernel
theorem dX6_length_1 : decode cX6_length 1 = .ok (.getfield 9, 3) := by decide +kernel
theorem dX6_length_4 : decode cX6_length 4 = .ok (.sipush 1000, 3) := by decide +kernel
theorem dX6_length_7 : decode cX6_length 7 = .ok (.imul, 1) := by decide +kernel
theorem dX6_length_8 : decode cX6_length 8 = .ok (.ireturn, 1) := by decide +kernel
theorem dX6_putCrash_0 : decode cX6_putCrash 0 = .ok (.aload_n 0, 1) := by decide +kernel
theorem dX6_putCrash_1 : decode cX6_putCrash 1 = .ok (.iload_n 1, 1) := by decide +kernel
theorem dX6_putCrash_2 : decode cX6_putCrash 2 = .ok (.invokevirtual 38, 3) := by decide +kernel
theorem dX6_putCrash_5 : decode cX6_putCrash 5 = .ok (.ifCond .eq 13, 3) := by decide +kernel
theorem dX6_putCrash_8 : decode cX6_putCrash 8 = .ok (.iload_n 2, 1) := by decide +kernel
theorem dX6_putCrash_9 : decode cX6_putCrash 9 = .ok (.ifCond .lt 9, 3) := by decide +kernel
theorem dX6_putCrash_12 : decode cX6_putCrash 12 = .ok (.iload_n 2, 1) := by decide +kernel
theorem dX6_putCrash_13 : decode cX6_putCrash 13 = .ok (.bipush 100, 2) := by decide +kernel
theorem dX6_putCrash_15 : decode cX6_putCrash 15 = .ok (.if_icmp .le 5, 3) := by decide +kernel
theorem dX6_putCrash_18 : decode cX6_putCrash 18 = .ok (.iconst 0, 1) := by decide +kernel
theorem dX6_putCrash_19 : decode cX6_putCrash 19 = .ok (.ireturn, 1) := by decide +kernel
theorem dX6_putCrash_20 : decode cX6_putCrash 20 = .ok (.aload_n 0, 1) := by decide +kernel
theorem dX6_putCrash_21 : decode cX6_putCrash 21 = .ok (.iload_n 1, 1) := by decide +kernel
theorem dX6_putCrash_22 : decode cX6_putCrash 22 = .ok (.putfield 28, 3) := by decide +kernel
theorem dX6_putCrash_25 : decode cX6_putCrash 25 = .ok (.aload_n 0, 1) := by decide +kernel
theorem dX6_putCrash_26 : decode cX6_putCrash 26 = .ok (.iload_n 2, 1) := by decide +kernel
theorem dX6_putCrash_27 : decode cX6_putCrash 27 = .ok (.putfield 31, 3) := by decide +kernel
theorem dX6_putCrash_30 : decode cX6_putCrash 30 = .ok (.iconst 1, 1) := by decide +kernel
theorem dX6_putCrash_31 : decode cX6_putCrash 31 = .ok (.ireturn, 1) := by decide +kernel
theorem dX6_renew_0 : decode cX6_renew 0 = .ok (.iload_n 1, 1) := by decide +kernel
theorem dX6_renew_1 : decode cX6_renew 1 = .ok (.iconst 1, 1) := by decide +kernel
theorem dX6_renew_2 : decode cX6_renew 2 = .ok (.if_icmp .lt 9, 3) := by decide +kernel
theorem dX6_renew_5 : decode cX6_renew 5 = .ok (.iload_n 1, 1) := by decide +kernel
theorem dX6_renew_6 : decode cX6_renew 6 = .ok (.bipush 30, 2) := by decide +kernel
theorem dX6_renew_8 : decode cX6_renew 8 = .ok (.if_icmp .le 5, 3) := by decide +kernel
theorem dX6_renew_11 : decode cX6_renew 11 = .ok (.iconst 0, 1) := by decide +kernel
theorem dX6_renew_12 : decode cX6_renew 12 = .ok (.ireturn, 1) := by decide +kernel
theorem dX6_renew_13 : decode cX6_renew 13 = .ok (.aload_n 0, 1) := by decide +kernel
theorem dX6_renew_14 : decode cX6_renew 14 = .ok (.iload_n 1, 1) := by decide +kernel
theorem dX6_renew_15 : decode cX6_renew 15 = .ok (.putfield 9, 3) := by decide +kernel
theorem dX6_renew_18 : decode cX6_renew 18 = .ok (.iconst 0, 1) := by decide +kernel
theorem dX6_renew_19 : decode cX6_renew 19 = .ok (.istore_n 2, 1) := by decide +kernel
theorem dX6_renew_20 : decode cX6_renew 20 = .ok (.iload_n 2, 1) := by decide +kernel
theorem dX6_renew_21 : decode cX6_renew 21 = .ok (.bipush 30, 2) := by decide +kernel
theorem dX6_renew_23 : decode cX6_renew 23 = .ok (.if_icmp .ge 23, 3) := by decide +kernel
theorem dX6_renew_26 : decode cX6_renew 26 = .ok (.aload_n 0, 1) := by decide +kernel
theorem dX6_renew_27 : decode cX6_renew 27 = .ok (.getfield 15, 3) := by decide +kernel
theorem dX6_renew_30 : decode cX6_renew 30 = .ok (.iload_n 2, 1) := by decide +kernel
theorem dX6_renew_31 : decode cX6_renew 31 = .ok (.iconst 0, 1) := by decide +kernel
theorem dX6_renew_32 : decode cX6_renew 32 = .ok (.iastore, 1) := by decide +kernel
theorem dX6_renew_33 : decode cX6_renew 33 = .ok (.aload_n 0, 1) := by decide +kernel
theorem dX6_renew_34 : decode cX6_renew 34 = .ok (.getfield 19, 3) := by decide +kernel
theorem dX6_renew_37 : decode cX6_renew 37 = .ok (.iload_n 2, 1) := by decide +kernel
theorem dX6_renew_38 : decode cX6_renew 38 = .ok (.iconst 0, 1) := by decide +kernel
theorem dX6_renew_39 : decode cX6_renew 39 = .ok (.iastore, 1) := by decide +kernel
theorem dX6_renew_40 : decode cX6_renew 40 = .ok (.iinc 2 1, 3) := by decide +kernel
theorem dX6_renew_43 : decode cX6_renew 43 = .ok (.goto (-23), 3) := by decide +kernel
theorem dX6_renew_46 : decode cX6_renew 46 = .ok (.aload_n 0, 1) := by decide +kernel
theorem dX6_renew_47 : decode cX6_renew 47 = .ok (.iconst 0, 1) := by decide +kernel
theorem dX6_renew_48 : decode cX6_renew 48 = .ok (.putfield 22, 3) := by decide +kernel
theorem dX6_renew_51 : decode cX6_renew 51 = .ok (.aload_n 0, 1) := by decide +kernel
theorem dX6_renew_52 : decode cX6_renew 52 = .ok (.iconst 0, 1) := by decide +kernel
theorem dX6_renew_53 : decode cX6_renew 53 = .ok (.putfield 28, 3) := by decide +kernel
theorem dX6_renew_56 : decode cX6_renew 56 = .ok (.aload_n 0, 1) := by decide +kernel
theorem dX6_renew_57 : decode cX6_renew 57 = .ok (.iconst 0, 1) := by decide +kernel
theorem dX6_renew_58 : decode cX6_renew 58 = .ok (.putfield 31, 3) := by decide +kernel
theorem dX6_renew_61 : decode cX6_renew 61 = .ok (.iconst 1, 1) := by decide +kernel
theorem dX6_renew_62 : decode cX6_renew 62 = .ok (.ireturn, 1) := by decide +kernel
theorem dX6_shape_0 : decode cX6_shape 0 = .ok (.iload_n 1, 1) := by decide +kernel
theorem dX6_shape_1 : decode cX6_shape 1 = .ok (.ifCond .lt 35, 3) := by decide +kernel
theorem dX6_shape_4 : decode cX6_shape 4 = .ok (.iload_n 1, 1) := by decide +kernel
theorem dX6_shape_5 : decode cX6_shape 5 = .ok (.aload_n 0, 1) := by decide +kernel
theorem dX6_shape_6 : decode cX6_shape 6 = .ok (.getfield 9, 3) := by decide +kernel
theorem dX6_shape_9 : decode cX6_shape 9 = .ok (.if_icmp .ge 27, 3) := by decide +kernel
theorem dX6_shape_12 : decode cX6_shape 12 = .ok (.iload_n 2, 1) := by decide +kernel
theorem dX6_shape_13 : decode cX6_shape 13 = .ok (.bipush (-5), 2) := by decide +kernel
theorem dX6_shape_15 : decode cX6_shape 15 = .ok (.if_icmp .lt 21, 3) := by decide +kernel
theorem dX6_shape_18 : decode cX6_shape 18 = .ok (.iload_n 2, 1) := by decide +kernel
theorem dX6_shape_19 : decode cX6_shape 19 = .ok (.bipush 10, 2) := by decide +kernel
theorem dX6_shape_21 : decode cX6_shape 21 = .ok (.if_icmp .gt 15, 3) := by decide +kernel
theorem dX6_shape_24 : decode cX6_shape 24 = .ok (.iload_n 3, 1) := by decide +kernel
theorem dX6_shape_25 : decode cX6_shape 25 = .ok (.bipush (-3), 2) := by decide +kernel
theorem dX6_shape_27 : decode cX6_shape 27 = .ok (.if_icmp .lt 9, 3) := by decide +kernel
theorem dX6_shape_30 : decode cX6_shape 30 = .ok (.iload_n 3, 1) := by decide +kernel
theorem dX6_shape_31 : decode cX6_shape 31 = .ok (.bipush 9, 2) := by decide +kernel
theorem dX6_shape_33 : decode cX6_shape 33 = .ok (.if_icmp .le 5, 3) := by decide +kernel
theorem dX6_shape_36 : decode cX6_shape 36 = .ok (.iconst 0, 1) := by decide +kernel
theorem dX6_shape_37 : decode cX6_shape 37 = .ok (.ireturn, 1) := by decide +kernel
theorem dX6_shape_38 : decode cX6_shape 38 = .ok (.aload_n 0, 1) := by decide +kernel
theorem dX6_shape_39 : decode cX6_shape 39 = .ok (.getfield 15, 3) := by decide +kernel
theorem dX6_shape_42 : decode cX6_shape 42 = .ok (.iload_n 1, 1) := by decide +kernel
theorem dX6_shape_43 : decode cX6_shape 43 = .ok (.iload_n 2, 1) := by decide +kernel
theorem dX6_shape_44 : decode cX6_shape 44 = .ok (.iastore, 1) := by decide +kernel
theorem dX6_shape_45 : decode cX6_shape 45 = .ok (.aload_n 0, 1) := by decide +kernel
theorem dX6_shape_46 : decode cX6_shape 46 = .ok (.getfield 19, 3) := by decide +kernel
theorem dX6_shape_49 : decode cX6_shape 49 = .ok (.iload_n 1, 1) := by decide +kernel
theorem dX6_shape_50 : decode cX6_shape 50 = .ok (.iload_n 3, 1) := by decide +kernel
theorem dX6_shape_51 : decode cX6_shape 51 = .ok (.iastore, 1) := by decide +kernel
theorem dX6_shape_52 : decode cX6_shape 52 = .ok (.iconst 1, 1) := by decide +kernel
theorem dX6_shape_53 : decode cX6_shape 53 = .ok (.ireturn, 1) := by decide +kernel
theorem dX7_addStage_0 : decode cX7_addStage 0 = .ok (.aload_n 1, 1) := by decide +kernel
theorem dX7_addStage_1 : decode cX7_addStage 1 = .ok (.iconst 1, 1) := by decide +kernel
theorem dX7_addStage_2 : decode cX7_addStage 2 = .ok (.invokevirtual 29, 3) := by decide +kernel
theorem dX7_addStage_5 : decode cX7_addStage 5 = .ok (.istore_n 3, 1) := by decide +kernel
theorem dX7_addStage_6 : decode cX7_addStage 6 = .ok (.iload_n 3, 1) := by decide +kernel
theorem dX7_addStage_7 : decode cX7_addStage 7 = .ok (.iconst (-1), 1) := by decide +kernel
theorem dX7_addStage_8 : decode cX7_addStage 8 = .ok (.if_icmp .ne 7, 3) := by decide +kernel
theorem dX7_addStage_11 : decode cX7_addStage 11 = .ok (.iconst 0, 1) := by decide +kernel
theorem dX7_addStage_12 : decode cX7_addStage 12 = .ok (.goto 17, 3) := by decide +kernel
theorem dX7_addStage_15 : decode cX7_addStage 15 = .ok (.aload_n 1, 1) := by decide +kernel
theorem dX7_addStage_16 : decode cX7_addStage 16 = .ok (.getfield 35, 3) := by decide +kernel
theorem dX7_addStage_19 : decode cX7_addStage 19 = .ok (.iload_n 3, 1) := by decide +kernel
theorem dX7_addStage_20 : decode cX7_addStage 20 = .ok (.iaload, 1) := by decide +kernel
theorem dX7_addStage_21 : decode cX7_addStage 21 = .ok (.bipush 100, 2) := by decide +kernel
theorem dX7_addStage_23 : decode cX7_addStage 23 = .ok (.aload_n 0, 1) := by decide +kernel
theorem dX7_addStage_24 : decode cX7_addStage 24 = .ok (.getfield 15, 3) := by decide +kernel
theorem dX7_addStage_27 : decode cX7_addStage 27 = .ok (.iadd, 1) := by decide +kernel
theorem dX7_addStage_28 : decode cX7_addStage 28 = .ok (.imul, 1) := by decide +kernel
theorem dX7_addStage_29 : decode cX7_addStage 29 = .ok (.istore 4, 2) := by decide +kernel
theorem dX7_addStage_31 : decode cX7_addStage 31 = .ok (.iconst 0, 1) := by decide +kernel
theorem dX7_addStage_32 : decode cX7_addStage 32 = .ok (.istore 5, 2) := by decide +kernel
theorem dX7_addStage_34 : decode cX7_addStage 34 = .ok (.iload 5, 2) := by decide +kernel
theorem dX7_addStage_36 : decode cX7_addStage 36 = .ok (.iload_n 2, 1) := by decide +kernel
theorem dX7_addStage_37 : decode cX7_addStage 37 = .ok (.if_icmp .ge 100, 3) := by decide +kernel
theorem dX7_addStage_40 : decode cX7_addStage 40 = .ok (.iload 5, 2) := by decide +kernel
theorem dX7_addStage_42 : decode cX7_addStage 42 = .ok (.bipush 20, 2) := by decide +kernel
theorem dX7_addStage_44 : decode cX7_addStage 44 = .ok (.if_icmp .ge 93, 3) := by decide +kernel
theorem dX7_addStage_47 : decode cX7_addStage 47 = .ok (.aload_n 1, 1) := by decide +kernel
theorem dX7_addStage_48 : decode cX7_addStage 48 = .ok (.getfield 35, 3) := by decide +kernel
theorem dX7_addStage_51 : decode cX7_addStage 51 = .ok (.iload 5, 2) := by decide +kernel
theorem dX7_addStage_53 : decode cX7_addStage 53 = .ok (.iaload, 1) := by decide +kernel
theorem dX7_addStage_54 : decode cX7_addStage 54 = .ok (.istore 6, 2) := by decide +kernel
theorem dX7_addStage_56 : decode cX7_addStage 56 = .ok (.aload_n 1, 1) := by decide +kernel
theorem dX7_addStage_57 : decode cX7_addStage 57 = .ok (.iload 5, 2) := by decide +kernel
theorem dX7_addStage_59 : decode cX7_addStage 59 = .ok (.invokevirtual 38, 3) := by decide +kernel
theorem dX7_addStage_62 : decode cX7_addStage 62 = .ok (.istore 7, 2) := by decide +kernel
theorem dX7_addStage_64 : decode cX7_addStage 64 = .ok (.aload_n 0, 1) := by decide +kernel
theorem dX7_addStage_65 : decode cX7_addStage 65 = .ok (.getfield 22, 3) := by decide +kernel
theorem dX7_addStage_68 : decode cX7_addStage 68 = .ok (.iload 5, 2) := by decide +kernel
theorem dX7_addStage_70 : decode cX7_addStage 70 = .ok (.dup2, 1) := by decide +kernel
theorem dX7_addStage_71 : decode cX7_addStage 71 = .ok (.iaload, 1) := by decide +kernel
theorem dX7_addStage_72 : decode cX7_addStage 72 = .ok (.iload 7, 2) := by decide +kernel
theorem dX7_addStage_74 : decode cX7_addStage 74 = .ok (.aload_n 1, 1) := by decide +kernel
theorem dX7_addStage_75 : decode cX7_addStage 75 = .ok (.iload 5, 2) := by decide +kernel
theorem dX7_addStage_77 : decode cX7_addStage 77 = .ok (.invokevirtual 41, 3) := by decide +kernel
theorem dX7_addStage_80 : decode cX7_addStage 80 = .ok (.invokestatic 44, 3) := by decide +kernel
theorem dX7_addStage_83 : decode cX7_addStage 83 = .ok (.iadd, 1) := by decide +kernel
theorem dX7_addStage_84 : decode cX7_addStage 84 = .ok (.iadd, 1) := by decide +kernel
theorem dX7_addStage_85 : decode cX7_addStage 85 = .ok (.iastore, 1) := by decide +kernel
theorem dX7_addStage_86 : decode cX7_addStage 86 = .ok (.iload 6, 2) := by decide +kernel
theorem dX7_addStage_88 : decode cX7_addStage 88 = .ok (.iconst (-1), 1) := by decide +kernel
theorem dX7_addStage_89 : decode cX7_addStage 89 = .ok (.if_icmp .eq 18, 3) := by decide +kernel
theorem dX7_addStage_92 : decode cX7_addStage 92 = .ok (.aload_n 0, 1) := by decide +kernel
theorem dX7_addStage_93 : decode cX7_addStage 93 = .ok (.getfield 18, 3) := by decide +kernel
theorem dX7_addStage_96 : decode cX7_addStage 96 = .ok (.iload 5, 2) := by decide +kernel
theorem dX7_addStage_98 : decode cX7_addStage 98 = .ok (.dup2, 1) := by decide +kernel
theorem dX7_addStage_99 : decode cX7_addStage 99 = .ok (.iaload, 1) := by decide +kernel
theorem dX7_addStage_100 : decode cX7_addStage 100 = .ok (.iload 6, 2) := by decide +kernel
theorem dX7_addStage_102 : decode cX7_addStage 102 = .ok (.iload 7, 2) := by decide +kernel
theorem dX7_addStage_104 : decode cX7_addStage 104 = .ok (.isub, 1) := by decide +kernel
theorem dX7_addStage_105 : decode cX7_addStage 105 = .ok (.iadd, 1) := by decide +kernel
theorem dX7_addStage_106 : decode cX7_addStage 106 = .ok (.iastore, 1) := by decide +kernel
theorem dX7_addStage_107 : decode cX7_addStage 107 = .ok (.iload 6, 2) := by decide +kernel
theorem dX7_addStage_109 : decode cX7_addStage 109 = .ok (.iconst (-1), 1) := by decide +kernel
theorem dX7_addStage_110 : decode cX7_addStage 110 = .ok (.if_icmp .eq 13, 3) := by decide +kernel
theorem dX7_addStage_113 : decode cX7_addStage 113 = .ok (.iload 6, 2) := by decide +kernel
theorem dX7_addStage_115 : decode cX7_addStage 115 = .ok (.bipush 100, 2) := by decide +kernel
theorem dX7_addStage_117 : decode cX7_addStage 117 = .ok (.imul, 1) := by decide +kernel
theorem dX7_addStage_118 : decode cX7_addStage 118 = .ok (.iload 4, 2) := by decide +kernel
theorem dX7_addStage_120 : decode cX7_addStage 120 = .ok (.if_icmp .le 11, 3) := by decide +kernel
theorem dX7_addStage_123 : decode cX7_addStage 123 = .ok (.aload_n 0, 1) := by decide +kernel
theorem dX7_addStage_124 : decode cX7_addStage 124 = .ok (.getfield 25, 3) := by decide +kernel
theorem dX7_addStage_127 : decode cX7_addStage 127 = .ok (.iload 5, 2) := by decide +kernel
theorem dX7_addStage_129 : decode cX7_addStage 129 = .ok (.iconst 1, 1) := by decide +kernel
theorem dX7_addStage_130 : decode cX7_addStage 130 = .ok (.bastore, 1) := by decide +kernel
theorem dX7_addStage_131 : decode cX7_addStage 131 = .ok (.iinc 5 1, 3) := by decide +kernel
theorem dX7_addStage_134 : decode cX7_addStage 134 = .ok (.goto (-100), 3) := by decide +kernel
theorem dX7_addStage_137 : decode cX7_addStage 137 = .ok (.aload_n 0, 1) := by decide +kernel
theorem dX7_addStage_138 : decode cX7_addStage 138 = .ok (.dup, 1) := by decide +kernel
theorem dX7_addStage_139 : decode cX7_addStage 139 = .ok (.getfield 9, 3) := by decide +kernel
theorem dX7_addStage_142 : decode cX7_addStage 142 = .ok (.iconst 1, 1) := by decide +kernel
theorem dX7_addStage_143 : decode cX7_addStage 143 = .ok (.iadd, 1) := by decide +kernel
theorem dX7_addStage_144 : decode cX7_addStage 144 = .ok (.putfield 9, 3) := by decide +kernel
theorem dX7_addStage_147 : decode cX7_addStage 147 = .ok (.return_, 1) := by decide +kernel
theorem dX7_countsFor_0 : decode cX7_countsFor 0 = .ok (.aload_n 3, 1) := by decide +kernel
theorem dX7_countsFor_1 : decode cX7_countsFor 1 = .ok (.getfield 65, 3) := by decide +kernel
theorem dX7_countsFor_4 : decode cX7_countsFor 4 = .ok (.iload_n 2, 1) := by decide +kernel
theorem dX7_countsFor_5 : decode cX7_countsFor 5 = .ok (.iaload, 1) := by decide +kernel
theorem dX7_countsFor_6 : decode cX7_countsFor 6 = .ok (.iload_n 1, 1) := by decide +kernel
theorem dX7_countsFor_7 : decode cX7_countsFor 7 = .ok (.if_icmp .ne 16, 3) := by decide +kernel
theorem dX7_countsFor_10 : decode cX7_countsFor 10 = .ok (.aload_n 0, 1) := by decide +kernel
theorem dX7_countsFor_11 : decode cX7_countsFor 11 = .ok (.getfield 25, 3) := by decide +kernel
theorem dX7_countsFor_14 : decode cX7_countsFor 14 = .ok (.iload_n 2, 1) := by decide +kernel
theorem dX7_countsFor_15 : decode cX7_countsFor 15 = .ok (.baload, 1) := by decide +kernel
theorem dX7_countsFor_16 : decode cX7_countsFor 16 = .ok (.ifCond .ne 7, 3) := by decide +kernel
theorem dX7_countsFor_19 : decode cX7_countsFor 19 = .ok (.iconst 1, 1) := by decide +kernel
theorem dX7_countsFor_20 : decode cX7_countsFor 20 = .ok (.goto 4, 3) := by decide +kernel
theorem dX7_countsFor_23 : decode cX7_countsFor 23 = .ok (.iconst 0, 1) := by decide +kernel
theorem dX7_countsFor_24 : decode cX7_countsFor 24 = .ok (.ireturn, 1) := by decide +kernel
theorem dX7_howManyOut_0 : decode cX7_howManyOut 0 = .ok (.iconst 0, 1) := by decide +kernel
theorem dX7_howManyOut_1 : decode cX7_howManyOut 1 = .ok (.istore_n 2, 1) := by decide +kernel
theorem dX7_howManyOut_2 : decode cX7_howManyOut 2 = .ok (.iconst 0, 1) := by decide +kernel
theorem dX7_howManyOut_3 : decode cX7_howManyOut 3 = .ok (.istore_n 3, 1) := by decide +kernel
theorem dX7_howManyOut_4 : decode cX7_howManyOut 4 = .ok (.iload_n 3, 1) := by decide +kernel
theorem dX7_howManyOut_5 : decode cX7_howManyOut 5 = .ok (.iload_n 1, 1) := by decide +kernel
theorem dX7_howManyOut_6 : decode cX7_howManyOut 6 = .ok (.if_icmp .ge 27, 3) := by decide +kernel
theorem dX7_howManyOut_9 : decode cX7_howManyOut 9 = .ok (.iload_n 3, 1) := by decide +kernel
theorem dX7_howManyOut_10 : decode cX7_howManyOut 10 = .ok (.bipush 20, 2) := by decide +kernel
theorem dX7_howManyOut_12 : decode cX7_howManyOut 12 = .ok (.if_icmp .ge 21, 3) := by decide +kernel
theorem dX7_howManyOut_15 : decode cX7_howManyOut 15 = .ok (.aload_n 0, 1) := by decide +kernel
theorem dX7_howManyOut_16 : decode cX7_howManyOut 16 = .ok (.getfield 25, 3) := by decide +kernel
theorem dX7_howManyOut_19 : decode cX7_howManyOut 19 = .ok (.iload_n 3, 1) := by decide +kernel
theorem dX7_howManyOut_20 : decode cX7_howManyOut 20 = .ok (.baload, 1) := by decide +kernel
theorem dX7_howManyOut_21 : decode cX7_howManyOut 21 = .ok (.ifCond .eq 6, 3) := by decide +kernel
theorem dX7_howManyOut_24 : decode cX7_howManyOut 24 = .ok (.iinc 2 1, 3) := by decide +kernel
theorem dX7_howManyOut_27 : decode cX7_howManyOut 27 = .ok (.iinc 3 1, 3) := by decide +kernel
theorem dX7_howManyOut_30 : decode cX7_howManyOut 30 = .ok (.goto (-26), 3) := by decide +kernel
theorem dX7_howManyOut_33 : decode cX7_howManyOut 33 = .ok (.iload_n 2, 1) := by decide +kernel
theorem dX7_howManyOut_34 : decode cX7_howManyOut 34 = .ok (.ireturn, 1) := by decide +kernel
theorem dX7_init_0 : decode cX7_init 0 = .ok (.aload_n 0, 1) := by decide +kernel
theorem dX7_init_1 : decode cX7_init 1 = .ok (.invokespecial 3, 3) := by decide +kernel
theorem dX7_init_4 : decode cX7_init 4 = .ok (.aload_n 0, 1) := by decide +kernel
theorem dX7_init_5 : decode cX7_init 5 = .ok (.iconst 0, 1) := by decide +kernel
theorem dX7_init_6 : decode cX7_init 6 = .ok (.putfield 9, 3) := by decide +kernel
theorem dX7_init_9 : decode cX7_init 9 = .ok (.aload_n 0, 1) := by decide +kernel
theorem dX7_init_10 : decode cX7_init 10 = .ok (.bipush 20, 2) := by decide +kernel
theorem dX7_init_12 : decode cX7_init 12 = .ok (.putfield 15, 3) := by decide +kernel
theorem dX7_init_15 : decode cX7_init 15 = .ok (.aload_n 0, 1) := by decide +kernel
theorem dX7_init_16 : decode cX7_init 16 = .ok (.bipush 20, 2) := by decide +kernel
theorem dX7_init_18 : decode cX7_init 18 = .ok (.newarray .int, 2) := by decide +kernel
theorem dX7_init_20 : decode cX7_init 20 = .ok (.putfield 18, 3) := by decide +kernel
theorem dX7_init_23 : decode cX7_init 23 = .ok (.aload_n 0, 1) := by decide +kernel
theorem dX7_init_24 : decode cX7_init 24 = .ok (.bipush 20, 2) := by decide +kernel
theorem dX7_init_26 : decode cX7_init 26 = .ok (.newarray .int, 2) := by decide +kernel
theorem dX7_init_28 : decode cX7_init 28 = .ok (.putfield 22, 3) := by decide +kernel
theorem dX7_init_31 : decode cX7_init 31 = .ok (.aload_n 0, 1) := by decide +kernel
theorem dX7_init_32 : decode cX7_init 32 = .ok (.bipush 20, 2) := by decide +kernel
theorem dX7_init_34 : decode cX7_init 34 = .ok (.newarray .boolean, 2) := by decide +kernel
theorem dX7_init_36 : decode cX7_init 36 = .ok (.putfield 25, 3) := by decide +kernel
theorem dX7_init_39 : decode cX7_init 39 = .ok (.return_, 1) := by decide +kernel
theorem dX7_lowestThreeOf_0 : decode cX7_lowestThreeOf 0 = .ok (.iconst 0, 1) := by decide +kernel
theorem dX7_lowestThreeOf_1 : decode cX7_lowestThreeOf 1 = .ok (.istore_n 3, 1) := by decide +kernel
theorem dX7_lowestThreeOf_2 : decode cX7_lowestThreeOf 2 = .ok (.iconst 0, 1) := by decide +kernel
theorem dX7_lowestThreeOf_3 : decode cX7_lowestThreeOf 3 = .ok (.istore 4, 2) := by decide +kernel
theorem dX7_lowestThreeOf_5 : decode cX7_lowestThreeOf 5 = .ok (.iconst 0, 1) := by decide +kernel
theorem dX7_lowestThreeOf_6 : decode cX7_lowestThreeOf 6 = .ok (.istore 5, 2) := by decide +kernel
theorem dX7_lowestThreeOf_8 : decode cX7_lowestThreeOf 8 = .ok (.iload 5, 2) := by decide +kernel
theorem dX7_lowestThreeOf_10 : decode cX7_lowestThreeOf 10 = .ok (.aload_n 2, 1) := by decide +kernel
theorem dX7_lowestThreeOf_11 : decode cX7_lowestThreeOf 11 = .ok (.getfield 54, 3) := by decide +kernel
theorem dX7_lowestThreeOf_14 : decode cX7_lowestThreeOf 14 = .ok (.if_icmp .ge 47, 3) := by decide +kernel
theorem dX7_lowestThreeOf_17 : decode cX7_lowestThreeOf 17 = .ok (.aload_n 0, 1) := by decide +kernel
theorem dX7_lowestThreeOf_18 : decode cX7_lowestThreeOf 18 = .ok (.iload_n 1, 1) := by decide +kernel
theorem dX7_lowestThreeOf_19 : decode cX7_lowestThreeOf 19 = .ok (.iload 5, 2) := by decide +kernel
theorem dX7_lowestThreeOf_21 : decode cX7_lowestThreeOf 21 = .ok (.aload_n 2, 1) := by decide +kernel
theorem dX7_lowestThreeOf_22 : decode cX7_lowestThreeOf 22 = .ok (.invokevirtual 57, 3) := by decide +kernel
theorem dX7_lowestThreeOf_25 : decode cX7_lowestThreeOf 25 = .ok (.ifCond .eq 30, 3) := by decide +kernel
theorem dX7_lowestThreeOf_28 : decode cX7_lowestThreeOf 28 = .ok (.aload_n 0, 1) := by decide +kernel
theorem dX7_lowestThreeOf_29 : decode cX7_lowestThreeOf 29 = .ok (.iload_n 1, 1) := by decide +kernel
theorem dX7_lowestThreeOf_30 : decode cX7_lowestThreeOf 30 = .ok (.iload 5, 2) := by decide +kernel
theorem dX7_lowestThreeOf_32 : decode cX7_lowestThreeOf 32 = .ok (.aload_n 2, 1) := by decide +kernel
theorem dX7_lowestThreeOf_33 : decode cX7_lowestThreeOf 33 = .ok (.invokevirtual 61, 3) := by decide +kernel
theorem dX7_lowestThreeOf_36 : decode cX7_lowestThreeOf 36 = .ok (.iconst 3, 1) := by decide +kernel
theorem dX7_lowestThreeOf_37 : decode cX7_lowestThreeOf 37 = .ok (.if_icmp .ge 18, 3) := by decide +kernel
theorem dX7_lowestThreeOf_40 : decode cX7_lowestThreeOf 40 = .ok (.iload 4, 2) := by decide +kernel
theorem dX7_lowestThreeOf_42 : decode cX7_lowestThreeOf 42 = .ok (.aload_n 0, 1) := by decide +kernel
theorem dX7_lowestThreeOf_43 : decode cX7_lowestThreeOf 43 = .ok (.getfield 18, 3) := by decide +kernel
theorem dX7_lowestThreeOf_46 : decode cX7_lowestThreeOf 46 = .ok (.iload 5, 2) := by decide +kernel
theorem dX7_lowestThreeOf_48 : decode cX7_lowestThreeOf 48 = .ok (.iaload, 1) := by decide +kernel
theorem dX7_lowestThreeOf_49 : decode cX7_lowestThreeOf 49 = .ok (.iadd, 1) := by decide +kernel
theorem dX7_lowestThreeOf_50 : decode cX7_lowestThreeOf 50 = .ok (.istore 4, 2) := by decide +kernel
theorem dX7_lowestThreeOf_52 : decode cX7_lowestThreeOf 52 = .ok (.iinc 3 1, 3) := by decide +kernel
theorem dX7_lowestThreeOf_55 : decode cX7_lowestThreeOf 55 = .ok (.iinc 5 1, 3) := by decide +kernel
theorem dX7_lowestThreeOf_58 : decode cX7_lowestThreeOf 58 = .ok (.goto (-50), 3) := by decide +kernel
theorem dX7_lowestThreeOf_61 : decode cX7_lowestThreeOf 61 = .ok (.iload_n 3, 1) := by decide +kernel
theorem dX7_lowestThreeOf_62 : decode cX7_lowestThreeOf 62 = .ok (.iconst 3, 1) := by decide +kernel
theorem dX7_lowestThreeOf_63 : decode cX7_lowestThreeOf 63 = .ok (.if_icmp .ge 7, 3) := by decide +kernel
theorem dX7_lowestThreeOf_66 : decode cX7_lowestThreeOf 66 = .ok (.iconst (-1), 1) := by decide +kernel
theorem dX7_lowestThreeOf_67 : decode cX7_lowestThreeOf 67 = .ok (.goto 5, 3) := by decide +kernel
theorem dX7_lowestThreeOf_70 : decode cX7_lowestThreeOf 70 = .ok (.iload 4, 2) := by decide +kernel
theorem dX7_lowestThreeOf_72 : decode cX7_lowestThreeOf 72 = .ok (.ireturn, 1) := by decide +kernel
theorem dX7_matesAhead_0 : decode cX7_matesAhead 0 = .ok (.iconst 0, 1) := by decide +kernel
theorem dX7_matesAhead_1 : decode cX7_matesAhead 1 = .ok (.istore 4, 2) := by decide +kernel
theorem dX7_matesAhead_3 : decode cX7_matesAhead 3 = .ok (.iconst 0, 1) := by decide +kernel
theorem dX7_matesAhead_4 : decode cX7_matesAhead 4 = .ok (.istore 5, 2) := by decide +kernel
theorem dX7_matesAhead_6 : decode cX7_matesAhead 6 = .ok (.iload 5, 2) := by decide +kernel
theorem dX7_matesAhead_8 : decode cX7_matesAhead 8 = .ok (.aload_n 3, 1) := by decide +kernel
theorem dX7_matesAhead_9 : decode cX7_matesAhead 9 = .ok (.getfield 54, 3) := by decide +kernel
theorem dX7_matesAhead_12 : decode cX7_matesAhead 12 = .ok (.if_icmp .ge 33, 3) := by decide +kernel
theorem dX7_matesAhead_15 : decode cX7_matesAhead 15 = .ok (.aload_n 0, 1) := by decide +kernel
theorem dX7_matesAhead_16 : decode cX7_matesAhead 16 = .ok (.iload_n 1, 1) := by decide +kernel
theorem dX7_matesAhead_17 : decode cX7_matesAhead 17 = .ok (.iload 5, 2) := by decide +kernel
theorem dX7_matesAhead_19 : decode cX7_matesAhead 19 = .ok (.aload_n 3, 1) := by decide +kernel
theorem dX7_matesAhead_20 : decode cX7_matesAhead 20 = .ok (.invokevirtual 57, 3) := by decide +kernel
theorem dX7_matesAhead_23 : decode cX7_matesAhead 23 = .ok (.ifCond .eq 16, 3) := by decide +kernel
theorem dX7_matesAhead_26 : decode cX7_matesAhead 26 = .ok (.aload_n 0, 1) := by decide +kernel
theorem dX7_matesAhead_27 : decode cX7_matesAhead 27 = .ok (.iload 5, 2) := by decide +kernel
theorem dX7_matesAhead_29 : decode cX7_matesAhead 29 = .ok (.iload_n 2, 1) := by decide +kernel
theorem dX7_matesAhead_30 : decode cX7_matesAhead 30 = .ok (.invokevirtual 50, 3) := by decide +kernel
theorem dX7_matesAhead_33 : decode cX7_matesAhead 33 = .ok (.ifCond .eq 6, 3) := by decide +kernel
theorem dX7_matesAhead_36 : decode cX7_matesAhead 36 = .ok (.iinc 4 1, 3) := by decide +kernel
theorem dX7_matesAhead_39 : decode cX7_matesAhead 39 = .ok (.iinc 5 1, 3) := by decide +kernel
theorem dX7_matesAhead_42 : decode cX7_matesAhead 42 = .ok (.goto (-36), 3) := by decide +kernel
theorem dX7_matesAhead_45 : decode cX7_matesAhead 45 = .ok (.iload 4, 2) := by decide +kernel
theorem dX7_matesAhead_47 : decode cX7_matesAhead 47 = .ok (.ireturn, 1) := by decide +kernel
theorem dX7_stagePoints_0 : decode cX7_stagePoints 0 = .ok (.iload_n 0, 1) := by decide +kernel
theorem dX7_stagePoints_1 : decode cX7_stagePoints 1 = .ok (.iconst 1, 1) := by decide +kernel
theorem dX7_stagePoints_2 : decode cX7_stagePoints 2 = .ok (.if_icmp .lt 21, 3) := by decide +kernel
theorem dX7_stagePoints_5 : decode cX7_stagePoints 5 = .ok (.iload_n 0, 1) := by decide +kernel
theorem dX7_stagePoints_6 : decode cX7_stagePoints 6 = .ok (.getstatic 47, 3) := by decide +kernel
theorem dX7_stagePoints_9 : decode cX7_stagePoints 9 = .ok (.arraylength, 1) := by decide +kernel
theorem dX7_stagePoints_10 : decode cX7_stagePoints 10 = .ok (.if_icmp .gt 13, 3) := by decide +kernel
theorem dX7_stagePoints_13 : decode cX7_stagePoints 13 = .ok (.getstatic 47, 3) := by decide +kernel
theorem dX7_stagePoints_16 : decode cX7_stagePoints 16 = .ok (.iload_n 0, 1) := by decide +kernel
theorem dX7_stagePoints_17 : decode cX7_stagePoints 17 = .ok (.iconst 1, 1) := by decide +kernel
theorem dX7_stagePoints_18 : decode cX7_stagePoints 18 = .ok (.isub, 1) := by decide +kernel
theorem dX7_stagePoints_19 : decode cX7_stagePoints 19 = .ok (.iaload, 1) := by decide +kernel
theorem dX7_stagePoints_20 : decode cX7_stagePoints 20 = .ok (.goto 4, 3) := by decide +kernel
theorem dX7_stagePoints_23 : decode cX7_stagePoints 23 = .ok (.iconst 0, 1) := by decide +kernel
theorem dX7_stagePoints_24 : decode cX7_stagePoints 24 = .ok (.ireturn, 1) := by decide +kernel
theorem dX7_standingOf_0 : decode cX7_standingOf 0 = .ok (.aload_n 0, 1) := by decide +kernel
theorem dX7_standingOf_1 : decode cX7_standingOf 1 = .ok (.getfield 25, 3) := by decide +kernel
theorem dX7_standingOf_4 : decode cX7_standingOf 4 = .ok (.iload_n 1, 1) := by decide +kernel
theorem dX7_standingOf_5 : decode cX7_standingOf 5 = .ok (.baload, 1) := by decide +kernel
theorem dX7_standingOf_6 : decode cX7_standingOf 6 = .ok (.ifCond .eq 5, 3) := by decide +kernel
theorem dX7_standingOf_9 : decode cX7_standingOf 9 = .ok (.iconst 0, 1) := by decide +kernel
theorem dX7_standingOf_10 : decode cX7_standingOf 10 = .ok (.ireturn, 1) := by decide +kernel
theorem dX7_standingOf_11 : decode cX7_standingOf 11 = .ok (.iconst 1, 1) := by decide +kernel
theorem dX7_standingOf_12 : decode cX7_standingOf 12 = .ok (.istore_n 3, 1) := by decide +kernel
theorem dX7_standingOf_13 : decode cX7_standingOf 13 = .ok (.iconst 0, 1) := by decide +kernel
theorem dX7_standingOf_14 : decode cX7_standingOf 14 = .ok (.istore 4, 2) := by decide +kernel
theorem dX7_standingOf_16 : decode cX7_standingOf 16 = .ok (.iload 4, 2) := by decide +kernel
theorem dX7_standingOf_18 : decode cX7_standingOf 18 = .ok (.iload_n 2, 1) := by decide +kernel
theorem dX7_standingOf_19 : decode cX7_standingOf 19 = .ok (.if_icmp .ge 39, 3) := by decide +kernel
theorem dX7_standingOf_22 : decode cX7_standingOf 22 = .ok (.iload 4, 2) := by decide +kernel
theorem dX7_standingOf_24 : decode cX7_standingOf 24 = .ok (.bipush 20, 2) := by decide +kernel
theorem dX7_standingOf_26 : decode cX7_standingOf 26 = .ok (.if_icmp .ge 32, 3) := by decide +kernel
theorem dX7_standingOf_29 : decode cX7_standingOf 29 = .ok (.aload_n 0, 1) := by decide +kernel
theorem dX7_standingOf_30 : decode cX7_standingOf 30 = .ok (.getfield 25, 3) := by decide +kernel
theorem dX7_standingOf_33 : decode cX7_standingOf 33 = .ok (.iload 4, 2) := by decide +kernel
theorem dX7_standingOf_35 : decode cX7_standingOf 35 = .ok (.baload, 1) := by decide +kernel
theorem dX7_standingOf_36 : decode cX7_standingOf 36 = .ok (.ifCond .ne 16, 3) := by decide +kernel
theorem dX7_standingOf_39 : decode cX7_standingOf 39 = .ok (.aload_n 0, 1) := by decide +kernel
theorem dX7_standingOf_40 : decode cX7_standingOf 40 = .ok (.iload 4, 2) := by decide +kernel
theorem dX7_standingOf_42 : decode cX7_standingOf 42 = .ok (.iload_n 1, 1) := by decide +kernel
theorem dX7_standingOf_43 : decode cX7_standingOf 43 = .ok (.invokevirtual 50, 3) := by decide +kernel
theorem dX7_standingOf_46 : decode cX7_standingOf 46 = .ok (.ifCond .eq 6, 3) := by decide +kernel
theorem dX7_standingOf_49 : decode cX7_standingOf 49 = .ok (.iinc 3 1, 3) := by decide +kernel
theorem dX7_standingOf_52 : decode cX7_standingOf 52 = .ok (.iinc 4 1, 3) := by decide +kernel
theorem dX7_standingOf_55 : decode cX7_standingOf 55 = .ok (.goto (-39), 3) := by decide +kernel
theorem dX7_standingOf_58 : decode cX7_standingOf 58 = .ok (.iload_n 3, 1) := by decide +kernel
theorem dX7_standingOf_59 : decode cX7_standingOf 59 = .ok (.ireturn, 1) := by decide +kernel
theorem dX7_standsAhead_0 : decode cX7_standsAhead 0 = .ok (.aload_n 0, 1) := by decide +kernel
theorem dX7_standsAhead_1 : decode cX7_standsAhead 1 = .ok (.getfield 18, 3) := by decide +kernel
theorem dX7_standsAhead_4 : decode cX7_standsAhead 4 = .ok (.iload_n 1, 1) := by decide +kernel
theorem dX7_standsAhead_5 : decode cX7_standsAhead 5 = .ok (.iaload, 1) := by decide +kernel
theorem dX7_standsAhead_6 : decode cX7_standsAhead 6 = .ok (.aload_n 0, 1) := by decide +kernel
theorem dX7_standsAhead_7 : decode cX7_standsAhead 7 = .ok (.getfield 18, 3) := by decide +kernel
theorem dX7_standsAhead_10 : decode cX7_standsAhead 10 = .ok (.iload_n 2, 1) := by decide +kernel
theorem dX7_standsAhead_11 : decode cX7_standsAhead 11 = .ok (.iaload, 1) := by decide +kernel
theorem dX7_standsAhead_12 : decode cX7_standsAhead 12 = .ok (.if_icmp .eq 24, 3) := by decide +kernel
theorem dX7_standsAhead_15 : decode cX7_standsAhead 15 = .ok (.aload_n 0, 1) := by decide +kernel
theorem dX7_standsAhead_16 : decode cX7_standsAhead 16 = .ok (.getfield 18, 3) := by decide +kernel
theorem dX7_standsAhead_19 : decode cX7_standsAhead 19 = .ok (.iload_n 1, 1) := by decide +kernel
theorem dX7_standsAhead_20 : decode cX7_standsAhead 20 = .ok (.iaload, 1) := by decide +kernel
theorem dX7_standsAhead_21 : decode cX7_standsAhead 21 = .ok (.aload_n 0, 1) := by decide +kernel
theorem dX7_standsAhead_22 : decode cX7_standsAhead 22 = .ok (.getfield 18, 3) := by decide +kernel
theorem dX7_standsAhead_25 : decode cX7_standsAhead 25 = .ok (.iload_n 2, 1) := by decide +kernel
theorem dX7_standsAhead_26 : decode cX7_standsAhead 26 = .ok (.iaload, 1) := by decide +kernel
theorem dX7_standsAhead_27 : decode cX7_standsAhead 27 = .ok (.if_icmp .ge 7, 3) := by decide +kernel
theorem dX7_standsAhead_30 : decode cX7_standsAhead 30 = .ok (.iconst 1, 1) := by decide +kernel
theorem dX7_standsAhead_31 : decode cX7_standsAhead 31 = .ok (.goto 4, 3) := by decide +kernel
theorem dX7_standsAhead_34 : decode cX7_standsAhead 34 = .ok (.iconst 0, 1) := by decide +kernel
theorem dX7_standsAhead_35 : decode cX7_standsAhead 35 = .ok (.ireturn, 1) := by decide +kernel
theorem dX7_standsAhead_36 : decode cX7_standsAhead 36 = .ok (.aload_n 0, 1) := by decide +kernel
theorem dX7_standsAhead_37 : decode cX7_standsAhead 37 = .ok (.getfield 22, 3) := by decide +kernel
theorem dX7_standsAhead_40 : decode cX7_standsAhead 40 = .ok (.iload_n 1, 1) := by decide +kernel
theorem dX7_standsAhead_41 : decode cX7_standsAhead 41 = .ok (.iaload, 1) := by decide +kernel
theorem dX7_standsAhead_42 : decode cX7_standsAhead 42 = .ok (.aload_n 0, 1) := by decide +kernel
theorem dX7_standsAhead_43 : decode cX7_standsAhead 43 = .ok (.getfield 22, 3) := by decide +kernel
theorem dX7_standsAhead_46 : decode cX7_standsAhead 46 = .ok (.iload_n 2, 1) := by decide +kernel
theorem dX7_standsAhead_47 : decode cX7_standsAhead 47 = .ok (.iaload, 1) := by decide +kernel
theorem dX7_standsAhead_48 : decode cX7_standsAhead 48 = .ok (.if_icmp .eq 24, 3) := by decide +kernel
theorem dX7_standsAhead_51 : decode cX7_standsAhead 51 = .ok (.aload_n 0, 1) := by decide +kernel
theorem dX7_standsAhead_52 : decode cX7_standsAhead 52 = .ok (.getfield 22, 3) := by decide +kernel
theorem dX7_standsAhead_55 : decode cX7_standsAhead 55 = .ok (.iload_n 1, 1) := by decide +kernel
theorem dX7_standsAhead_56 : decode cX7_standsAhead 56 = .ok (.iaload, 1) := by decide +kernel
theorem dX7_standsAhead_57 : decode cX7_standsAhead 57 = .ok (.aload_n 0, 1) := by decide +kernel
theorem dX7_standsAhead_58 : decode cX7_standsAhead 58 = .ok (.getfield 22, 3) := by decide +kernel
theorem dX7_standsAhead_61 : decode cX7_standsAhead 61 = .ok (.iload_n 2, 1) := by decide +kernel
theorem dX7_standsAhead_62 : decode cX7_standsAhead 62 = .ok (.iaload, 1) := by decide +kernel
theorem dX7_standsAhead_63 : decode cX7_standsAhead 63 = .ok (.if_icmp .le 7, 3) := by decide +kernel
theorem dX7_standsAhead_66 : decode cX7_standsAhead 66 = .ok (.iconst 1, 1) := by decide +kernel
theorem dX7_standsAhead_67 : decode cX7_standsAhead 67 = .ok (.goto 4, 3) := by decide +kernel
theorem dX7_standsAhead_70 : decode cX7_standsAhead 70 = .ok (.iconst 0, 1) := by decide +kernel
theorem dX7_standsAhead_71 : decode cX7_standsAhead 71 = .ok (.ireturn, 1) := by decide +kernel
theorem dX7_standsAhead_72 : decode cX7_standsAhead 72 = .ok (.iload_n 1, 1) := by decide +kernel
theorem dX7_standsAhead_73 : decode cX7_standsAhead 73 = .ok (.iload_n 2, 1) := by decide +kernel
theorem dX7_standsAhead_74 : decode cX7_standsAhead 74 = .ok (.if_icmp .ge 7, 3) := by decide +kernel
theorem dX7_standsAhead_77 : decode cX7_standsAhead 77 = .ok (.iconst 1, 1) := by decide +kernel
theorem dX7_standsAhead_78 : decode cX7_standsAhead 78 = .ok (.goto 4, 3) := by decide +kernel
theorem dX7_standsAhead_81 : decode cX7_standsAhead 81 = .ok (.iconst 0, 1) := by decide +kernel
theorem dX7_standsAhead_82 : decode cX7_standsAhead 82 = .ok (.ireturn, 1) := by decide +kernel
theorem dX8_append_0 : decode cX8_append 0 = .ok (.iconst 0, 1) := by decide +kernel
theorem dX8_append_1 : decode cX8_append 1 = .ok (.istore_n 2, 1) := by decide +kernel
theorem dX8_append_2 : decode cX8_append 2 = .ok (.iload_n 2, 1) := by decide +kernel
theorem dX8_append_3 : decode cX8_append 3 = .ok (.iconst 4, 1) := by decide +kernel
theorem dX8_append_4 : decode cX8_append 4 = .ok (.if_icmp .ge 49, 3) := by decide +kernel
theorem dX8_append_7 : decode cX8_append 7 = .ok (.aload_n 0, 1) := by decide +kernel
theorem dX8_append_8 : decode cX8_append 8 = .ok (.iload_n 1, 1) := by decide +kernel
theorem dX8_append_9 : decode cX8_append 9 = .ok (.iload_n 2, 1) := by decide +kernel
theorem dX8_append_10 : decode cX8_append 10 = .ok (.invokevirtual 19, 3) := by decide +kernel
theorem dX8_append_13 : decode cX8_append 13 = .ok (.istore_n 3, 1) := by decide +kernel
theorem dX8_append_14 : decode cX8_append 14 = .ok (.iload_n 3, 1) := by decide +kernel
theorem dX8_append_15 : decode cX8_append 15 = .ok (.ifCond .eq 32, 3) := by decide +kernel
theorem dX8_append_18 : decode cX8_append 18 = .ok (.aload_n 0, 1) := by decide +kernel
theorem dX8_append_19 : decode cX8_append 19 = .ok (.getfield 9, 3) := by decide +kernel
theorem dX8_append_22 : decode cX8_append 22 = .ok (.bipush 100, 2) := by decide +kernel
theorem dX8_append_24 : decode cX8_append 24 = .ok (.if_icmp .ge 23, 3) := by decide +kernel
theorem dX8_append_27 : decode cX8_append 27 = .ok (.aload_n 0, 1) := by decide +kernel
theorem dX8_append_28 : decode cX8_append 28 = .ok (.getfield 15, 3) := by decide +kernel
theorem dX8_append_31 : decode cX8_append 31 = .ok (.aload_n 0, 1) := by decide +kernel
theorem dX8_append_32 : decode cX8_append 32 = .ok (.getfield 9, 3) := by decide +kernel
theorem dX8_append_35 : decode cX8_append 35 = .ok (.iload_n 3, 1) := by decide +kernel
theorem dX8_append_36 : decode cX8_append 36 = .ok (.iastore, 1) := by decide +kernel
theorem dX8_append_37 : decode cX8_append 37 = .ok (.aload_n 0, 1) := by decide +kernel
theorem dX8_append_38 : decode cX8_append 38 = .ok (.dup, 1) := by decide +kernel
theorem dX8_append_39 : decode cX8_append 39 = .ok (.getfield 9, 3) := by decide +kernel
theorem dX8_append_42 : decode cX8_append 42 = .ok (.iconst 1, 1) := by decide +kernel
theorem dX8_append_43 : decode cX8_append 43 = .ok (.iadd, 1) := by decide +kernel
theorem dX8_append_44 : decode cX8_append 44 = .ok (.putfield 9, 3) := by decide +kernel
theorem dX8_append_47 : decode cX8_append 47 = .ok (.iinc 2 1, 3) := by decide +kernel
theorem dX8_append_50 : decode cX8_append 50 = .ok (.goto (-48), 3) := by decide +kernel
theorem dX8_append_53 : decode cX8_append 53 = .ok (.return_, 1) := by decide +kernel
theorem dX8_byteOf_0 : decode cX8_byteOf 0 = .ok (.iload_n 1, 1) := by decide +kernel
theorem dX8_byteOf_1 : decode cX8_byteOf 1 = .ok (.bipush 8, 2) := by decide +kernel
theorem dX8_byteOf_3 : decode cX8_byteOf 3 = .ok (.iconst 3, 1) := by decide +kernel
theorem dX8_byteOf_4 : decode cX8_byteOf 4 = .ok (.iload_n 2, 1) := by decide +kernel
theorem dX8_byteOf_5 : decode cX8_byteOf 5 = .ok (.isub, 1) := by decide +kernel
theorem dX8_byteOf_6 : decode cX8_byteOf 6 = .ok (.imul, 1) := by decide +kernel
theorem dX8_byteOf_7 : decode cX8_byteOf 7 = .ok (.iushr, 1) := by decide +kernel
theorem dX8_byteOf_8 : decode cX8_byteOf 8 = .ok (.sipush 255, 3) := by decide +kernel
theorem dX8_byteOf_11 : decode cX8_byteOf 11 = .ok (.iand, 1) := by decide +kernel
theorem dX8_byteOf_12 : decode cX8_byteOf 12 = .ok (.ireturn, 1) := by decide +kernel
theorem dX8_bytesIn_0 : decode cX8_bytesIn 0 = .ok (.iconst 0, 1) := by decide +kernel
theorem dX8_bytesIn_1 : decode cX8_bytesIn 1 = .ok (.istore_n 2, 1) := by decide +kernel
theorem dX8_bytesIn_2 : decode cX8_bytesIn 2 = .ok (.iconst 0, 1) := by decide +kernel
theorem dX8_bytesIn_3 : decode cX8_bytesIn 3 = .ok (.istore_n 3, 1) := by decide +kernel
theorem dX8_bytesIn_4 : decode cX8_bytesIn 4 = .ok (.iload_n 3, 1) := by decide +kernel
theorem dX8_bytesIn_5 : decode cX8_bytesIn 5 = .ok (.iconst 4, 1) := by decide +kernel
theorem dX8_bytesIn_6 : decode cX8_bytesIn 6 = .ok (.if_icmp .ge 21, 3) := by decide +kernel
theorem dX8_bytesIn_9 : decode cX8_bytesIn 9 = .ok (.aload_n 0, 1) := by decide +kernel
theorem dX8_bytesIn_10 : decode cX8_bytesIn 10 = .ok (.iload_n 1, 1) := by decide +kernel
theorem dX8_bytesIn_11 : decode cX8_bytesIn 11 = .ok (.iload_n 3, 1) := by decide +kernel
theorem dX8_bytesIn_12 : decode cX8_bytesIn 12 = .ok (.invokevirtual 19, 3) := by decide +kernel
theorem dX8_bytesIn_15 : decode cX8_bytesIn 15 = .ok (.ifCond .eq 6, 3) := by decide +kernel
theorem dX8_bytesIn_18 : decode cX8_bytesIn 18 = .ok (.iinc 2 1, 3) := by decide +kernel
theorem dX8_bytesIn_21 : decode cX8_bytesIn 21 = .ok (.iinc 3 1, 3) := by decide +kernel
theorem dX8_bytesIn_24 : decode cX8_bytesIn 24 = .ok (.goto (-20), 3) := by decide +kernel
theorem dX8_bytesIn_27 : decode cX8_bytesIn 27 = .ok (.iload_n 2, 1) := by decide +kernel
theorem dX8_bytesIn_28 : decode cX8_bytesIn 28 = .ok (.ireturn, 1) := by decide +kernel
theorem dX8_init_0 : decode cX8_init 0 = .ok (.aload_n 0, 1) := by decide +kernel
theorem dX8_init_1 : decode cX8_init 1 = .ok (.invokespecial 3, 3) := by decide +kernel
theorem dX8_init_4 : decode cX8_init 4 = .ok (.aload_n 0, 1) := by decide +kernel
theorem dX8_init_5 : decode cX8_init 5 = .ok (.iconst 0, 1) := by decide +kernel
theorem dX8_init_6 : decode cX8_init 6 = .ok (.putfield 9, 3) := by decide +kernel
theorem dX8_init_9 : decode cX8_init 9 = .ok (.aload_n 0, 1) := by decide +kernel
theorem dX8_init_10 : decode cX8_init 10 = .ok (.bipush 100, 2) := by decide +kernel
theorem dX8_init_12 : decode cX8_init 12 = .ok (.newarray .int, 2) := by decide +kernel
theorem dX8_init_14 : decode cX8_init 14 = .ok (.putfield 15, 3) := by decide +kernel
theorem dX8_init_17 : decode cX8_init 17 = .ok (.return_, 1) := by decide +kernel
theorem dX9_at_0 : decode cX9_at 0 = .ok (.aload_n 0, 1) := by decide +kernel
theorem dX9_at_1 : decode cX9_at 1 = .ok (.getfield 72, 3) := by decide +kernel
theorem dX9_at_4 : decode cX9_at 4 = .ok (.ifCond .eq 8, 3) := by decide +kernel
theorem dX9_at_7 : decode cX9_at 7 = .ok (.iload_n 1, 1) := by decide +kernel
theorem dX9_at_8 : decode cX9_at 8 = .ok (.iconst 1, 1) := by decide +kernel
theorem dX9_at_9 : decode cX9_at 9 = .ok (.if_icmp .ge 5, 3) := by decide +kernel
theorem dX9_at_12 : decode cX9_at 12 = .ok (.iconst (-1), 1) := by decide +kernel
theorem dX9_at_13 : decode cX9_at 13 = .ok (.ireturn, 1) := by decide +kernel
theorem dX9_at_14 : decode cX9_at 14 = .ok (.aload_n 0, 1) := by decide +kernel
theorem dX9_at_15 : decode cX9_at 15 = .ok (.getfield 47, 3) := by decide +kernel
theorem dX9_at_18 : decode cX9_at 18 = .ok (.iload_n 1, 1) := by decide +kernel
theorem dX9_at_19 : decode cX9_at 19 = .ok (.invokevirtual 170, 3) := by decide +kernel
theorem dX9_at_22 : decode cX9_at 22 = .ok (.ireturn, 1) := by decide +kernel
theorem dX9_attempt_0 : decode cX9_attempt 0 = .ok (.aload_n 0, 1) := by decide +kernel
theorem dX9_attempt_1 : decode cX9_attempt 1 = .ok (.iload_n 1, 1) := by decide +kernel
theorem dX9_attempt_2 : decode cX9_attempt 2 = .ok (.iload_n 2, 1) := by decide +kernel
theorem dX9_attempt_3 : decode cX9_attempt 3 = .ok (.invokevirtual 207, 3) := by decide +kernel
theorem dX9_attempt_6 : decode cX9_attempt 6 = .ok (.ifCond .eq 20, 3) := by decide +kernel
theorem dX9_attempt_9 : decode cX9_attempt 9 = .ok (.aload_n 0, 1) := by decide +kernel
theorem dX9_attempt_10 : decode cX9_attempt 10 = .ok (.iload_n 3, 1) := by decide +kernel
theorem dX9_attempt_11 : decode cX9_attempt 11 = .ok (.invokevirtual 210, 3) := by decide +kernel
theorem dX9_attempt_14 : decode cX9_attempt 14 = .ok (.ifCond .eq 12, 3) := by decide +kernel
theorem dX9_attempt_17 : decode cX9_attempt 17 = .ok (.aload_n 0, 1) := by decide +kernel
theorem dX9_attempt_18 : decode cX9_attempt 18 = .ok (.iload 4, 2) := by decide +kernel
theorem dX9_attempt_20 : decode cX9_attempt 20 = .ok (.invokevirtual 210, 3) := by decide +kernel
theorem dX9_attempt_23 : decode cX9_attempt 23 = .ok (.ifCond .ne 5, 3) := by decide +kernel
theorem dX9_attempt_26 : decode cX9_attempt 26 = .ok (.iconst (-1), 1) := by decide +kernel
theorem dX9_attempt_27 : decode cX9_attempt 27 = .ok (.ireturn, 1) := by decide +kernel
theorem dX9_attempt_28 : decode cX9_attempt 28 = .ok (.aload_n 0, 1) := by decide +kernel
theorem dX9_attempt_29 : decode cX9_attempt 29 = .ok (.iload_n 1, 1) := by decide +kernel
theorem dX9_attempt_30 : decode cX9_attempt 30 = .ok (.iload_n 2, 1) := by decide +kernel
theorem dX9_attempt_31 : decode cX9_attempt 31 = .ok (.iload_n 3, 1) := by decide +kernel
theorem dX9_attempt_32 : decode cX9_attempt 32 = .ok (.iload 4, 2) := by decide +kernel
theorem dX9_attempt_34 : decode cX9_attempt 34 = .ok (.lload 5, 2) := by decide +kernel
theorem dX9_attempt_36 : decode cX9_attempt 36 = .ok (.invokevirtual 213, 3) := by decide +kernel
theorem dX9_attempt_39 : decode cX9_attempt 39 = .ok (.ireturn, 1) := by decide +kernel
theorem dX9_best_0 : decode cX9_best 0 = .ok (.aload_n 0, 1) := by decide +kernel
theorem dX9_best_1 : decode cX9_best 1 = .ok (.iload_n 1, 1) := by decide +kernel
theorem dX9_best_2 : decode cX9_best 2 = .ok (.iload_n 2, 1) := by decide +kernel
theorem dX9_best_3 : decode cX9_best 3 = .ok (.invokevirtual 207, 3) := by decide +kernel
theorem dX9_best_6 : decode cX9_best 6 = .ok (.ifCond .eq 10, 3) := by decide +kernel
theorem dX9_best_9 : decode cX9_best 9 = .ok (.aload_n 0, 1) := by decide +kernel
theorem dX9_best_10 : decode cX9_best 10 = .ok (.getfield 68, 3) := by decide +kernel
theorem dX9_best_13 : decode cX9_best 13 = .ok (.ifCond .ne 5, 3) := by decide +kernel
theorem dX9_best_16 : decode cX9_best 16 = .ok (.iconst (-1), 1) := by decide +kernel
theorem dX9_best_17 : decode cX9_best 17 = .ok (.ireturn, 1) := by decide +kernel
theorem dX9_best_18 : decode cX9_best 18 = .ok (.iconst (-1), 1) := by decide +kernel
theorem dX9_best_19 : decode cX9_best 19 = .ok (.istore 5, 2) := by decide +kernel
theorem dX9_best_21 : decode cX9_best 21 = .ok (.iconst 0, 1) := by decide +kernel
theorem dX9_best_22 : decode cX9_best 22 = .ok (.istore 6, 2) := by decide +kernel
theorem dX9_best_24 : decode cX9_best 24 = .ok (.iconst 0, 1) := by decide +kernel
theorem dX9_best_25 : decode cX9_best 25 = .ok (.istore 7, 2) := by decide +kernel
theorem dX9_best_27 : decode cX9_best 27 = .ok (.iload 7, 2) := by decide +kernel
theorem dX9_best_29 : decode cX9_best 29 = .ok (.aload_n 0, 1) := by decide +kernel
theorem dX9_best_30 : decode cX9_best 30 = .ok (.getfield 68, 3) := by decide +kernel
theorem dX9_best_33 : decode cX9_best 33 = .ok (.if_icmp .ge 67, 3) := by decide +kernel
theorem dX9_best_36 : decode cX9_best 36 = .ok (.iconst 0, 1) := by decide +kernel
theorem dX9_best_37 : decode cX9_best 37 = .ok (.istore 8, 2) := by decide +kernel
theorem dX9_best_39 : decode cX9_best 39 = .ok (.iload 8, 2) := by decide +kernel
theorem dX9_best_41 : decode cX9_best 41 = .ok (.aload_n 0, 1) := by decide +kernel
theorem dX9_best_42 : decode cX9_best 42 = .ok (.getfield 68, 3) := by decide +kernel
theorem dX9_best_45 : decode cX9_best 45 = .ok (.if_icmp .ge 49, 3) := by decide +kernel
theorem dX9_best_48 : decode cX9_best 48 = .ok (.aload_n 0, 1) := by decide +kernel
theorem dX9_best_49 : decode cX9_best 49 = .ok (.iload_n 1, 1) := by decide +kernel
theorem dX9_best_50 : decode cX9_best 50 = .ok (.iload_n 2, 1) := by decide +kernel
theorem dX9_best_51 : decode cX9_best 51 = .ok (.iload 7, 2) := by decide +kernel
theorem dX9_best_53 : decode cX9_best 53 = .ok (.iload 8, 2) := by decide +kernel
theorem dX9_best_55 : decode cX9_best 55 = .ok (.lload_n 3, 1) := by decide +kernel
theorem dX9_best_56 : decode cX9_best 56 = .ok (.invokevirtual 213, 3) := by decide +kernel
theorem dX9_best_59 : decode cX9_best 59 = .ok (.istore 9, 2) := by decide +kernel
theorem dX9_best_61 : decode cX9_best 61 = .ok (.iload 5, 2) := by decide +kernel
theorem dX9_best_63 : decode cX9_best 63 = .ok (.iconst (-1), 1) := by decide +kernel
theorem dX9_best_64 : decode cX9_best 64 = .ok (.if_icmp .eq 10, 3) := by decide +kernel
theorem dX9_best_67 : decode cX9_best 67 = .ok (.iload 9, 2) := by decide +kernel
theorem dX9_best_69 : decode cX9_best 69 = .ok (.iload 6, 2) := by decide +kernel
theorem dX9_best_71 : decode cX9_best 71 = .ok (.if_icmp .ge 17, 3) := by decide +kernel
theorem dX9_best_74 : decode cX9_best 74 = .ok (.bipush 10, 2) := by decide +kernel
theorem dX9_best_76 : decode cX9_best 76 = .ok (.iload 7, 2) := by decide +kernel
theorem dX9_best_78 : decode cX9_best 78 = .ok (.imul, 1) := by decide +kernel
theorem dX9_best_79 : decode cX9_best 79 = .ok (.iload 8, 2) := by decide +kernel
theorem dX9_best_81 : decode cX9_best 81 = .ok (.iadd, 1) := by decide +kernel
theorem dX9_best_82 : decode cX9_best 82 = .ok (.istore 5, 2) := by decide +kernel
theorem dX9_best_84 : decode cX9_best 84 = .ok (.iload 9, 2) := by decide +kernel
theorem dX9_best_86 : decode cX9_best 86 = .ok (.istore 6, 2) := by decide +kernel
theorem dX9_best_88 : decode cX9_best 88 = .ok (.iinc 8 1, 3) := by decide +kernel
theorem dX9_best_91 : decode cX9_best 91 = .ok (.goto (-52), 3) := by decide +kernel
theorem dX9_best_94 : decode cX9_best 94 = .ok (.iinc 7 1, 3) := by decide +kernel
theorem dX9_best_97 : decode cX9_best 97 = .ok (.goto (-70), 3) := by decide +kernel
theorem dX9_best_100 : decode cX9_best 100 = .ok (.iload 5, 2) := by decide +kernel
theorem dX9_best_102 : decode cX9_best 102 = .ok (.ireturn, 1) := by decide +kernel
theorem dX9_canTry_0 : decode cX9_canTry 0 = .ok (.iload_n 1, 1) := by decide +kernel
theorem dX9_canTry_1 : decode cX9_canTry 1 = .ok (.invokestatic 116, 3) := by decide +kernel
theorem dX9_canTry_4 : decode cX9_canTry 4 = .ok (.ifCond .eq 28, 3) := by decide +kernel
theorem dX9_canTry_7 : decode cX9_canTry 7 = .ok (.aload_n 0, 1) := by decide +kernel
theorem dX9_canTry_8 : decode cX9_canTry 8 = .ok (.getfield 19, 3) := by decide +kernel
theorem dX9_canTry_11 : decode cX9_canTry 11 = .ok (.iload_n 2, 1) := by decide +kernel
theorem dX9_canTry_12 : decode cX9_canTry 12 = .ok (.invokevirtual 224, 3) := by decide +kernel
theorem dX9_canTry_15 : decode cX9_canTry 15 = .ok (.ifCond .eq 17, 3) := by decide +kernel
theorem dX9_canTry_18 : decode cX9_canTry 18 = .ok (.aload_n 0, 1) := by decide +kernel
theorem dX9_canTry_19 : decode cX9_canTry 19 = .ok (.getfield 12, 3) := by decide +kernel
theorem dX9_canTry_22 : decode cX9_canTry 22 = .ok (.getfield 122, 3) := by decide +kernel
theorem dX9_canTry_25 : decode cX9_canTry 25 = .ok (.ifCond .le 7, 3) := by decide +kernel
theorem dX9_canTry_28 : decode cX9_canTry 28 = .ok (.iconst 1, 1) := by decide +kernel
theorem dX9_canTry_29 : decode cX9_canTry 29 = .ok (.goto 4, 3) := by decide +kernel
theorem dX9_canTry_32 : decode cX9_canTry 32 = .ok (.iconst 0, 1) := by decide +kernel
theorem dX9_canTry_33 : decode cX9_canTry 33 = .ok (.ireturn, 1) := by decide +kernel
theorem dX9_choice_0 : decode cX9_choice 0 = .ok (.aload_n 0, 1) := by decide +kernel
theorem dX9_choice_1 : decode cX9_choice 1 = .ok (.getfield 68, 3) := by decide +kernel
theorem dX9_choice_4 : decode cX9_choice 4 = .ok (.iconst 4, 1) := by decide +kernel
theorem dX9_choice_5 : decode cX9_choice 5 = .ok (.if_icmp .ge 22, 3) := by decide +kernel
theorem dX9_choice_8 : decode cX9_choice 8 = .ok (.aload_n 0, 1) := by decide +kernel
theorem dX9_choice_9 : decode cX9_choice 9 = .ok (.getfield 40, 3) := by decide +kernel
theorem dX9_choice_12 : decode cX9_choice 12 = .ok (.aload_n 0, 1) := by decide +kernel
theorem dX9_choice_13 : decode cX9_choice 13 = .ok (.getfield 26, 3) := by decide +kernel
theorem dX9_choice_16 : decode cX9_choice 16 = .ok (.aload_n 0, 1) := by decide +kernel
theorem dX9_choice_17 : decode cX9_choice 17 = .ok (.getfield 33, 3) := by decide +kernel
theorem dX9_choice_20 : decode cX9_choice 20 = .ok (.invokevirtual 112, 3) := by decide +kernel
theorem dX9_choice_23 : decode cX9_choice 23 = .ok (.iconst (-1), 1) := by decide +kernel
theorem dX9_choice_24 : decode cX9_choice 24 = .ok (.if_icmp .eq 5, 3) := by decide +kernel
theorem dX9_choice_27 : decode cX9_choice 27 = .ok (.iconst (-1), 1) := by decide +kernel
theorem dX9_choice_28 : decode cX9_choice 28 = .ok (.ireturn, 1) := by decide +kernel
theorem dX9_choice_29 : decode cX9_choice 29 = .ok (.aload_n 0, 1) := by decide +kernel
theorem dX9_choice_30 : decode cX9_choice 30 = .ok (.getfield 33, 3) := by decide +kernel
theorem dX9_choice_33 : decode cX9_choice 33 = .ok (.iconst 5, 1) := by decide +kernel
theorem dX9_choice_34 : decode cX9_choice 34 = .ok (.aload_n 0, 1) := by decide +kernel
theorem dX9_choice_35 : decode cX9_choice 35 = .ok (.getfield 68, 3) := by decide +kernel
theorem dX9_choice_38 : decode cX9_choice 38 = .ok (.iadd, 1) := by decide +kernel
theorem dX9_choice_39 : decode cX9_choice 39 = .ok (.invokevirtual 119, 3) := by decide +kernel
theorem dX9_choice_42 : decode cX9_choice 42 = .ok (.aload_n 0, 1) := by decide +kernel
theorem dX9_choice_43 : decode cX9_choice 43 = .ok (.getfield 26, 3) := by decide +kernel
theorem dX9_choice_46 : decode cX9_choice 46 = .ok (.iconst 0, 1) := by decide +kernel
theorem dX9_choice_47 : decode cX9_choice 47 = .ok (.putfield 105, 3) := by decide +kernel
theorem dX9_choice_50 : decode cX9_choice 50 = .ok (.aload_n 0, 1) := by decide +kernel
theorem dX9_choice_51 : decode cX9_choice 51 = .ok (.dup, 1) := by decide +kernel
theorem dX9_choice_52 : decode cX9_choice 52 = .ok (.getfield 68, 3) := by decide +kernel
theorem dX9_choice_55 : decode cX9_choice 55 = .ok (.iconst 1, 1) := by decide +kernel
theorem dX9_choice_56 : decode cX9_choice 56 = .ok (.iadd, 1) := by decide +kernel
theorem dX9_choice_57 : decode cX9_choice 57 = .ok (.putfield 68, 3) := by decide +kernel
theorem dX9_choice_60 : decode cX9_choice 60 = .ok (.aload_n 0, 1) := by decide +kernel
theorem dX9_choice_61 : decode cX9_choice 61 = .ok (.getfield 68, 3) := by decide +kernel
theorem dX9_choice_64 : decode cX9_choice 64 = .ok (.iconst 1, 1) := by decide +kernel
theorem dX9_choice_65 : decode cX9_choice 65 = .ok (.isub, 1) := by decide +kernel
theorem dX9_choice_66 : decode cX9_choice 66 = .ok (.ireturn, 1) := by decide +kernel
theorem dX9_count_0 : decode cX9_count 0 = .ok (.iload_n 1, 1) := by decide +kernel
theorem dX9_count_1 : decode cX9_count 1 = .ok (.tableswitch 126 0 7 #[47, 55, 63, 71, 79, 84, 92, 107], 47) := by decide +kernel
theorem dX9_count_48 : decode cX9_count 48 = .ok (.aload_n 0, 1) := by decide +kernel
theorem dX9_count_49 : decode cX9_count 49 = .ok (.getfield 12, 3) := by decide +kernel
theorem dX9_count_52 : decode cX9_count 52 = .ok (.getfield 122, 3) := by decide +kernel
theorem dX9_count_55 : decode cX9_count 55 = .ok (.ireturn, 1) := by decide +kernel
theorem dX9_count_56 : decode cX9_count 56 = .ok (.aload_n 0, 1) := by decide +kernel
theorem dX9_count_57 : decode cX9_count 57 = .ok (.getfield 19, 3) := by decide +kernel
theorem dX9_count_60 : decode cX9_count 60 = .ok (.getfield 217, 3) := by decide +kernel
theorem dX9_count_63 : decode cX9_count 63 = .ok (.ireturn, 1) := by decide +kernel
theorem dX9_count_64 : decode cX9_count 64 = .ok (.aload_n 0, 1) := by decide +kernel
theorem dX9_count_65 : decode cX9_count 65 = .ok (.getfield 19, 3) := by decide +kernel
theorem dX9_count_68 : decode cX9_count 68 = .ok (.getfield 220, 3) := by decide +kernel
theorem dX9_count_71 : decode cX9_count 71 = .ok (.ireturn, 1) := by decide +kernel
theorem dX9_count_72 : decode cX9_count 72 = .ok (.aload_n 0, 1) := by decide +kernel
theorem dX9_count_73 : decode cX9_count 73 = .ok (.getfield 64, 3) := by decide +kernel
theorem dX9_count_76 : decode cX9_count 76 = .ok (.getfield 79, 3) := by decide +kernel
theorem dX9_count_79 : decode cX9_count 79 = .ok (.ireturn, 1) := by decide +kernel
theorem dX9_count_80 : decode cX9_count 80 = .ok (.aload_n 0, 1) := by decide +kernel
theorem dX9_count_81 : decode cX9_count 81 = .ok (.getfield 68, 3) := by decide +kernel
theorem dX9_count_84 : decode cX9_count 84 = .ok (.ireturn, 1) := by decide +kernel
theorem dX9_count_85 : decode cX9_count 85 = .ok (.aload_n 0, 1) := by decide +kernel
theorem dX9_count_86 : decode cX9_count 86 = .ok (.getfield 26, 3) := by decide +kernel
theorem dX9_count_89 : decode cX9_count 89 = .ok (.getfield 105, 3) := by decide +kernel
theorem dX9_count_92 : decode cX9_count 92 = .ok (.ireturn, 1) := by decide +kernel
theorem dX9_count_93 : decode cX9_count 93 = .ok (.aload_n 0, 1) := by decide +kernel
theorem dX9_count_94 : decode cX9_count 94 = .ok (.getfield 64, 3) := by decide +kernel
theorem dX9_count_97 : decode cX9_count 97 = .ok (.aload_n 0, 1) := by decide +kernel
theorem dX9_count_98 : decode cX9_count 98 = .ok (.getfield 12, 3) := by decide +kernel
theorem dX9_count_101 : decode cX9_count 101 = .ok (.getfield 122, 3) := by decide +kernel
theorem dX9_count_104 : decode cX9_count 104 = .ok (.invokevirtual 221, 3) := by decide +kernel
theorem dX9_count_107 : decode cX9_count 107 = .ok (.ireturn, 1) := by decide +kernel
theorem dX9_count_108 : decode cX9_count 108 = .ok (.aload_n 0, 1) := by decide +kernel
theorem dX9_count_109 : decode cX9_count 109 = .ok (.getfield 72, 3) := by decide +kernel
theorem dX9_count_112 : decode cX9_count 112 = .ok (.ifCond .eq 13, 3) := by decide +kernel
theorem dX9_count_115 : decode cX9_count 115 = .ok (.aload_n 0, 1) := by decide +kernel
theorem dX9_count_116 : decode cX9_count 116 = .ok (.getfield 47, 3) := by decide +kernel
theorem dX9_count_119 : decode cX9_count 119 = .ok (.getfield 142, 3) := by decide +kernel
theorem dX9_count_122 : decode cX9_count 122 = .ok (.goto 4, 3) := by decide +kernel
theorem dX9_count_125 : decode cX9_count 125 = .ok (.iconst (-1), 1) := by decide +kernel
theorem dX9_count_126 : decode cX9_count 126 = .ok (.ireturn, 1) := by decide +kernel
theorem dX9_count_127 : decode cX9_count 127 = .ok (.iconst (-1), 1) := by decide +kernel
theorem dX9_count_128 : decode cX9_count 128 = .ok (.ireturn, 1) := by decide +kernel
theorem dX9_crash_0 : decode cX9_crash 0 = .ok (.aload_n 0, 1) := by decide +kernel
theorem dX9_crash_1 : decode cX9_crash 1 = .ok (.getfield 19, 3) := by decide +kernel
theorem dX9_crash_4 : decode cX9_crash 4 = .ok (.iload_n 1, 1) := by decide +kernel
theorem dX9_crash_5 : decode cX9_crash 5 = .ok (.iload_n 2, 1) := by decide +kernel
theorem dX9_crash_6 : decode cX9_crash 6 = .ok (.invokevirtual 98, 3) := by decide +kernel
theorem dX9_crash_9 : decode cX9_crash 9 = .ok (.ireturn, 1) := by decide +kernel
theorem dX9_end_0 : decode cX9_end 0 = .ok (.iload_n 1, 1) := by decide +kernel
theorem dX9_end_1 : decode cX9_end 1 = .ok (.ifCond .lt 14, 3) := by decide +kernel
theorem dX9_end_4 : decode cX9_end 4 = .ok (.iload_n 1, 1) := by decide +kernel
theorem dX9_end_5 : decode cX9_end 5 = .ok (.aload_n 0, 1) := by decide +kernel
theorem dX9_end_6 : decode cX9_end 6 = .ok (.getfield 26, 3) := by decide +kernel
theorem dX9_end_9 : decode cX9_end 9 = .ok (.getfield 105, 3) := by decide +kernel
theorem dX9_end_12 : decode cX9_end 12 = .ok (.if_icmp .le 5, 3) := by decide +kernel
theorem dX9_end_15 : decode cX9_end 15 = .ok (.iconst 0, 1) := by decide +kernel
theorem dX9_end_16 : decode cX9_end 16 = .ok (.ireturn, 1) := by decide +kernel
theorem dX9_end_17 : decode cX9_end 17 = .ok (.aload_n 0, 1) := by decide +kernel
theorem dX9_end_18 : decode cX9_end 18 = .ok (.getfield 26, 3) := by decide +kernel
theorem dX9_end_21 : decode cX9_end 21 = .ok (.iload_n 1, 1) := by decide +kernel
theorem dX9_end_22 : decode cX9_end 22 = .ok (.putfield 105, 3) := by decide +kernel
theorem dX9_end_25 : decode cX9_end 25 = .ok (.iconst 1, 1) := by decide +kernel
theorem dX9_end_26 : decode cX9_end 26 = .ok (.ireturn, 1) := by decide +kernel
theorem dX9_fault_0 : decode cX9_fault 0 = .ok (.aload_n 0, 1) := by decide +kernel
theorem dX9_fault_1 : decode cX9_fault 1 = .ok (.getfield 40, 3) := by decide +kernel
theorem dX9_fault_4 : decode cX9_fault 4 = .ok (.aload_n 0, 1) := by decide +kernel
theorem dX9_fault_5 : decode cX9_fault 5 = .ok (.getfield 26, 3) := by decide +kernel
theorem dX9_fault_8 : decode cX9_fault 8 = .ok (.aload_n 0, 1) := by decide +kernel
theorem dX9_fault_9 : decode cX9_fault 9 = .ok (.getfield 33, 3) := by decide +kernel
theorem dX9_fault_12 : decode cX9_fault 12 = .ok (.invokevirtual 112, 3) := by decide +kernel
theorem dX9_fault_15 : decode cX9_fault 15 = .ok (.ireturn, 1) := by decide +kernel
theorem dX9_feed_0 : decode cX9_feed 0 = .ok (.aload_n 0, 1) := by decide +kernel
theorem dX9_feed_1 : decode cX9_feed 1 = .ok (.getfield 26, 3) := by decide +kernel
theorem dX9_feed_4 : decode cX9_feed 4 = .ok (.iload_n 1, 1) := by decide +kernel
theorem dX9_feed_5 : decode cX9_feed 5 = .ok (.invokevirtual 102, 3) := by decide +kernel
theorem dX9_feed_8 : decode cX9_feed 8 = .ok (.aload_n 0, 1) := by decide +kernel
theorem dX9_feed_9 : decode cX9_feed 9 = .ok (.getfield 26, 3) := by decide +kernel
theorem dX9_feed_12 : decode cX9_feed 12 = .ok (.iload_n 2, 1) := by decide +kernel
theorem dX9_feed_13 : decode cX9_feed 13 = .ok (.invokevirtual 102, 3) := by decide +kernel
theorem dX9_feed_16 : decode cX9_feed 16 = .ok (.iadd, 1) := by decide +kernel
theorem dX9_feed_17 : decode cX9_feed 17 = .ok (.aload_n 0, 1) := by decide +kernel
theorem dX9_feed_18 : decode cX9_feed 18 = .ok (.getfield 26, 3) := by decide +kernel
theorem dX9_feed_21 : decode cX9_feed 21 = .ok (.iload_n 3, 1) := by decide +kernel
theorem dX9_feed_22 : decode cX9_feed 22 = .ok (.invokevirtual 102, 3) := by decide +kernel
theorem dX9_feed_25 : decode cX9_feed 25 = .ok (.iadd, 1) := by decide +kernel
theorem dX9_feed_26 : decode cX9_feed 26 = .ok (.aload_n 0, 1) := by decide +kernel
theorem dX9_feed_27 : decode cX9_feed 27 = .ok (.getfield 26, 3) := by decide +kernel
theorem dX9_feed_30 : decode cX9_feed 30 = .ok (.iload 4, 2) := by decide +kernel
theorem dX9_feed_32 : decode cX9_feed 32 = .ok (.invokevirtual 102, 3) := by decide +kernel
theorem dX9_feed_35 : decode cX9_feed 35 = .ok (.iadd, 1) := by decide +kernel
theorem dX9_feed_36 : decode cX9_feed 36 = .ok (.aload_n 0, 1) := by decide +kernel
theorem dX9_feed_37 : decode cX9_feed 37 = .ok (.getfield 26, 3) := by decide +kernel
theorem dX9_feed_40 : decode cX9_feed 40 = .ok (.iload 5, 2) := by decide +kernel
theorem dX9_feed_42 : decode cX9_feed 42 = .ok (.invokevirtual 102, 3) := by decide +kernel
theorem dX9_feed_45 : decode cX9_feed 45 = .ok (.iadd, 1) := by decide +kernel
theorem dX9_feed_46 : decode cX9_feed 46 = .ok (.istore 6, 2) := by decide +kernel
theorem dX9_feed_48 : decode cX9_feed 48 = .ok (.aload_n 0, 1) := by decide +kernel
theorem dX9_feed_49 : decode cX9_feed 49 = .ok (.getfield 26, 3) := by decide +kernel
theorem dX9_feed_52 : decode cX9_feed 52 = .ok (.getfield 105, 3) := by decide +kernel
theorem dX9_feed_55 : decode cX9_feed 55 = .ok (.iload 6, 2) := by decide +kernel
theorem dX9_feed_57 : decode cX9_feed 57 = .ok (.iadd, 1) := by decide +kernel
theorem dX9_feed_58 : decode cX9_feed 58 = .ok (.bipush 100, 2) := by decide +kernel
theorem dX9_feed_60 : decode cX9_feed 60 = .ok (.if_icmp .le 5, 3) := by decide +kernel
theorem dX9_feed_63 : decode cX9_feed 63 = .ok (.iconst (-1), 1) := by decide +kernel
theorem dX9_feed_64 : decode cX9_feed 64 = .ok (.ireturn, 1) := by decide +kernel
theorem dX9_feed_65 : decode cX9_feed 65 = .ok (.aload_n 0, 1) := by decide +kernel
theorem dX9_feed_66 : decode cX9_feed 66 = .ok (.getfield 26, 3) := by decide +kernel
theorem dX9_feed_69 : decode cX9_feed 69 = .ok (.iload_n 1, 1) := by decide +kernel
theorem dX9_feed_70 : decode cX9_feed 70 = .ok (.invokevirtual 108, 3) := by decide +kernel
theorem dX9_feed_73 : decode cX9_feed 73 = .ok (.aload_n 0, 1) := by decide +kernel
theorem dX9_feed_74 : decode cX9_feed 74 = .ok (.getfield 26, 3) := by decide +kernel
theorem dX9_feed_77 : decode cX9_feed 77 = .ok (.iload_n 2, 1) := by decide +kernel
theorem dX9_feed_78 : decode cX9_feed 78 = .ok (.invokevirtual 108, 3) := by decide +kernel
theorem dX9_feed_81 : decode cX9_feed 81 = .ok (.aload_n 0, 1) := by decide +kernel
theorem dX9_feed_82 : decode cX9_feed 82 = .ok (.getfield 26, 3) := by decide +kernel
theorem dX9_feed_85 : decode cX9_feed 85 = .ok (.iload_n 3, 1) := by decide +kernel
theorem dX9_feed_86 : decode cX9_feed 86 = .ok (.invokevirtual 108, 3) := by decide +kernel
theorem dX9_feed_89 : decode cX9_feed 89 = .ok (.aload_n 0, 1) := by decide +kernel
theorem dX9_feed_90 : decode cX9_feed 90 = .ok (.getfield 26, 3) := by decide +kernel
theorem dX9_feed_93 : decode cX9_feed 93 = .ok (.iload 4, 2) := by decide +kernel
theorem dX9_feed_95 : decode cX9_feed 95 = .ok (.invokevirtual 108, 3) := by decide +kernel
theorem dX9_feed_98 : decode cX9_feed 98 = .ok (.aload_n 0, 1) := by decide +kernel
theorem dX9_feed_99 : decode cX9_feed 99 = .ok (.getfield 26, 3) := by decide +kernel
theorem dX9_feed_102 : decode cX9_feed 102 = .ok (.iload 5, 2) := by decide +kernel
theorem dX9_feed_104 : decode cX9_feed 104 = .ok (.invokevirtual 108, 3) := by decide +kernel
theorem dX9_feed_107 : decode cX9_feed 107 = .ok (.aload_n 0, 1) := by decide +kernel
theorem dX9_feed_108 : decode cX9_feed 108 = .ok (.getfield 26, 3) := by decide +kernel
theorem dX9_feed_111 : decode cX9_feed 111 = .ok (.getfield 105, 3) := by decide +kernel
theorem dX9_feed_114 : decode cX9_feed 114 = .ok (.ireturn, 1) := by decide +kernel
theorem dX9_groups_0 : decode cX9_groups 0 = .ok (.aload_n 0, 1) := by decide +kernel
theorem dX9_groups_1 : decode cX9_groups 1 = .ok (.getfield 72, 3) := by decide +kernel
theorem dX9_groups_4 : decode cX9_groups 4 = .ok (.ifCond .eq 11, 3) := by decide +kernel
theorem dX9_groups_7 : decode cX9_groups 7 = .ok (.aload_n 0, 1) := by decide +kernel
theorem dX9_groups_8 : decode cX9_groups 8 = .ok (.iload_n 1, 1) := by decide +kernel
theorem dX9_groups_9 : decode cX9_groups 9 = .ok (.invokevirtual 180, 3) := by decide +kernel
theorem dX9_groups_12 : decode cX9_groups 12 = .ok (.ifCond .ne 5, 3) := by decide +kernel
theorem dX9_groups_15 : decode cX9_groups 15 = .ok (.iconst (-1), 1) := by decide +kernel
theorem dX9_groups_16 : decode cX9_groups 16 = .ok (.ireturn, 1) := by decide +kernel
theorem dX9_groups_17 : decode cX9_groups 17 = .ok (.aload_n 0, 1) := by decide +kernel
theorem dX9_groups_18 : decode cX9_groups 18 = .ok (.getfield 54, 3) := by decide +kernel
theorem dX9_groups_21 : decode cX9_groups 21 = .ok (.getfield 184, 3) := by decide +kernel
theorem dX9_groups_24 : decode cX9_groups 24 = .ok (.iload_n 1, 1) := by decide +kernel
theorem dX9_groups_25 : decode cX9_groups 25 = .ok (.iaload, 1) := by decide +kernel
theorem dX9_groups_26 : decode cX9_groups 26 = .ok (.ireturn, 1) := by decide +kernel
theorem dX9_init_0 : decode cX9_init 0 = .ok (.aload_n 0, 1) := by decide +kernel
theorem dX9_init_1 : decode cX9_init 1 = .ok (.invokespecial 3, 3) := by decide +kernel
theorem dX9_init_4 : decode cX9_init 4 = .ok (.aload_n 0, 1) := by decide +kernel
theorem dX9_init_5 : decode cX9_init 5 = .ok (.new 9, 3) := by decide +kernel
theorem dX9_init_8 : decode cX9_init 8 = .ok (.dup, 1) := by decide +kernel
theorem dX9_init_9 : decode cX9_init 9 = .ok (.invokespecial 11, 3) := by decide +kernel
theorem dX9_init_12 : decode cX9_init 12 = .ok (.putfield 12, 3) := by decide +kernel
theorem dX9_init_15 : decode cX9_init 15 = .ok (.aload_n 0, 1) := by decide +kernel
theorem dX9_init_16 : decode cX9_init 16 = .ok (.new 16, 3) := by decide +kernel
theorem dX9_init_19 : decode cX9_init 19 = .ok (.dup, 1) := by decide +kernel
theorem dX9_init_20 : decode cX9_init 20 = .ok (.invokespecial 18, 3) := by decide +kernel
theorem dX9_init_23 : decode cX9_init 23 = .ok (.putfield 19, 3) := by decide +kernel
theorem dX9_init_26 : decode cX9_init 26 = .ok (.aload_n 0, 1) := by decide +kernel
theorem dX9_init_27 : decode cX9_init 27 = .ok (.new 23, 3) := by decide +kernel
theorem dX9_init_30 : decode cX9_init 30 = .ok (.dup, 1) := by decide +kernel
theorem dX9_init_31 : decode cX9_init 31 = .ok (.invokespecial 25, 3) := by decide +kernel
theorem dX9_init_34 : decode cX9_init 34 = .ok (.putfield 26, 3) := by decide +kernel
theorem dX9_init_37 : decode cX9_init 37 = .ok (.aload_n 0, 1) := by decide +kernel
theorem dX9_init_38 : decode cX9_init 38 = .ok (.new 30, 3) := by decide +kernel
theorem dX9_init_41 : decode cX9_init 41 = .ok (.dup, 1) := by decide +kernel
theorem dX9_init_42 : decode cX9_init 42 = .ok (.invokespecial 32, 3) := by decide +kernel
theorem dX9_init_45 : decode cX9_init 45 = .ok (.putfield 33, 3) := by decide +kernel
theorem dX9_init_48 : decode cX9_init 48 = .ok (.aload_n 0, 1) := by decide +kernel
theorem dX9_init_49 : decode cX9_init 49 = .ok (.new 37, 3) := by decide +kernel
theorem dX9_init_52 : decode cX9_init 52 = .ok (.dup, 1) := by decide +kernel
theorem dX9_init_53 : decode cX9_init 53 = .ok (.invokespecial 39, 3) := by decide +kernel
theorem dX9_init_56 : decode cX9_init 56 = .ok (.putfield 40, 3) := by decide +kernel
theorem dX9_init_59 : decode cX9_init 59 = .ok (.aload_n 0, 1) := by decide +kernel
theorem dX9_init_60 : decode cX9_init 60 = .ok (.new 44, 3) := by decide +kernel
theorem dX9_init_63 : decode cX9_init 63 = .ok (.dup, 1) := by decide +kernel
theorem dX9_init_64 : decode cX9_init 64 = .ok (.invokespecial 46, 3) := by decide +kernel
theorem dX9_init_67 : decode cX9_init 67 = .ok (.putfield 47, 3) := by decide +kernel
theorem dX9_init_70 : decode cX9_init 70 = .ok (.aload_n 0, 1) := by decide +kernel
theorem dX9_init_71 : decode cX9_init 71 = .ok (.new 51, 3) := by decide +kernel
theorem dX9_init_74 : decode cX9_init 74 = .ok (.dup, 1) := by decide +kernel
theorem dX9_init_75 : decode cX9_init 75 = .ok (.invokespecial 53, 3) := by decide +kernel
theorem dX9_init_78 : decode cX9_init 78 = .ok (.putfield 54, 3) := by decide +kernel
theorem dX9_init_81 : decode cX9_init 81 = .ok (.aload_n 0, 1) := by decide +kernel
theorem dX9_init_82 : decode cX9_init 82 = .ok (.new 44, 3) := by decide +kernel
theorem dX9_init_85 : decode cX9_init 85 = .ok (.dup, 1) := by decide +kernel
theorem dX9_init_86 : decode cX9_init 86 = .ok (.invokespecial 46, 3) := by decide +kernel
theorem dX9_init_89 : decode cX9_init 89 = .ok (.putfield 58, 3) := by decide +kernel
theorem dX9_init_92 : decode cX9_init 92 = .ok (.aload_n 0, 1) := by decide +kernel
theorem dX9_init_93 : decode cX9_init 93 = .ok (.new 61, 3) := by decide +kernel
theorem dX9_init_96 : decode cX9_init 96 = .ok (.dup, 1) := by decide +kernel
theorem dX9_init_97 : decode cX9_init 97 = .ok (.invokespecial 63, 3) := by decide +kernel
theorem dX9_init_100 : decode cX9_init 100 = .ok (.putfield 64, 3) := by decide +kernel
theorem dX9_init_103 : decode cX9_init 103 = .ok (.aload_n 0, 1) := by decide +kernel
theorem dX9_init_104 : decode cX9_init 104 = .ok (.iconst 0, 1) := by decide +kernel
theorem dX9_init_105 : decode cX9_init 105 = .ok (.putfield 68, 3) := by decide +kernel
theorem dX9_init_108 : decode cX9_init 108 = .ok (.aload_n 0, 1) := by decide +kernel
theorem dX9_init_109 : decode cX9_init 109 = .ok (.iconst 0, 1) := by decide +kernel
theorem dX9_init_110 : decode cX9_init 110 = .ok (.putfield 72, 3) := by decide +kernel
theorem dX9_init_113 : decode cX9_init 113 = .ok (.aload_n 0, 1) := by decide +kernel
theorem dX9_init_114 : decode cX9_init 114 = .ok (.iconst 0, 1) := by decide +kernel
theorem dX9_init_115 : decode cX9_init 115 = .ok (.putfield 76, 3) := by decide +kernel
theorem dX9_init_118 : decode cX9_init 118 = .ok (.return_, 1) := by decide +kernel
theorem dX9_isChoice_0 : decode cX9_isChoice 0 = .ok (.iload_n 1, 1) := by decide +kernel
theorem dX9_isChoice_1 : decode cX9_isChoice 1 = .ok (.ifCond .lt 15, 3) := by decide +kernel
theorem dX9_isChoice_4 : decode cX9_isChoice 4 = .ok (.iload_n 1, 1) := by decide +kernel
theorem dX9_isChoice_5 : decode cX9_isChoice 5 = .ok (.aload_n 0, 1) := by decide +kernel
theorem dX9_isChoice_6 : decode cX9_isChoice 6 = .ok (.getfield 68, 3) := by decide +kernel
theorem dX9_isChoice_9 : decode cX9_isChoice 9 = .ok (.if_icmp .ge 7, 3) := by decide +kernel
theorem dX9_isChoice_12 : decode cX9_isChoice 12 = .ok (.iconst 1, 1) := by decide +kernel
theorem dX9_isChoice_13 : decode cX9_isChoice 13 = .ok (.goto 4, 3) := by decide +kernel
theorem dX9_isChoice_16 : decode cX9_isChoice 16 = .ok (.iconst 0, 1) := by decide +kernel
theorem dX9_isChoice_17 : decode cX9_isChoice 17 = .ok (.ireturn, 1) := by decide +kernel
theorem dX9_isLatestMinute_0 : decode cX9_isLatestMinute 0 = .ok (.iload_n 1, 1) := by decide +kernel
theorem dX9_isLatestMinute_1 : decode cX9_isLatestMinute 1 = .ok (.ifCond .lt 25, 3) := by decide +kernel
theorem dX9_isLatestMinute_4 : decode cX9_isLatestMinute 4 = .ok (.iload_n 1, 1) := by decide +kernel
theorem dX9_isLatestMinute_5 : decode cX9_isLatestMinute 5 = .ok (.aload_n 0, 1) := by decide +kernel
theorem dX9_isLatestMinute_6 : decode cX9_isLatestMinute 6 = .ok (.getfield 47, 3) := by decide +kernel
theorem dX9_isLatestMinute_9 : decode cX9_isLatestMinute 9 = .ok (.getfield 142, 3) := by decide +kernel
theorem dX9_isLatestMinute_12 : decode cX9_isLatestMinute 12 = .ok (.if_icmp .gt 14, 3) := by decide +kernel
theorem dX9_isLatestMinute_15 : decode cX9_isLatestMinute 15 = .ok (.iload_n 1, 1) := by decide +kernel
theorem dX9_isLatestMinute_16 : decode cX9_isLatestMinute 16 = .ok (.sipush 400, 3) := by decide +kernel
theorem dX9_isLatestMinute_19 : decode cX9_isLatestMinute 19 = .ok (.if_icmp .gt 7, 3) := by decide +kernel
theorem dX9_isLatestMinute_22 : decode cX9_isLatestMinute 22 = .ok (.iconst 1, 1) := by decide +kernel
theorem dX9_isLatestMinute_23 : decode cX9_isLatestMinute 23 = .ok (.goto 4, 3) := by decide +kernel
theorem dX9_isLatestMinute_26 : decode cX9_isLatestMinute 26 = .ok (.iconst 0, 1) := by decide +kernel
theorem dX9_isLatestMinute_27 : decode cX9_isLatestMinute 27 = .ok (.ireturn, 1) := by decide +kernel
theorem dX9_isTeam_0 : decode cX9_isTeam 0 = .ok (.iload_n 0, 1) := by decide +kernel
theorem dX9_isTeam_1 : decode cX9_isTeam 1 = .ok (.ifCond .lt 12, 3) := by decide +kernel
theorem dX9_isTeam_4 : decode cX9_isTeam 4 = .ok (.iload_n 0, 1) := by decide +kernel
theorem dX9_isTeam_5 : decode cX9_isTeam 5 = .ok (.iconst 5, 1) := by decide +kernel
theorem dX9_isTeam_6 : decode cX9_isTeam 6 = .ok (.if_icmp .ge 7, 3) := by decide +kernel
theorem dX9_isTeam_9 : decode cX9_isTeam 9 = .ok (.iconst 1, 1) := by decide +kernel
theorem dX9_isTeam_10 : decode cX9_isTeam 10 = .ok (.goto 4, 3) := by decide +kernel
theorem dX9_isTeam_13 : decode cX9_isTeam 13 = .ok (.iconst 0, 1) := by decide +kernel
theorem dX9_isTeam_14 : decode cX9_isTeam 14 = .ok (.ireturn, 1) := by decide +kernel
theorem dX9_keep_0 : decode cX9_keep 0 = .ok (.aload_n 0, 1) := by decide +kernel
theorem dX9_keep_1 : decode cX9_keep 1 = .ok (.getfield 72, 3) := by decide +kernel
theorem dX9_keep_4 : decode cX9_keep 4 = .ok (.ifCond .eq 22, 3) := by decide +kernel
theorem dX9_keep_7 : decode cX9_keep 7 = .ok (.aload_n 0, 1) := by decide +kernel
theorem dX9_keep_8 : decode cX9_keep 8 = .ok (.getfield 76, 3) := by decide +kernel
theorem dX9_keep_11 : decode cX9_keep 11 = .ok (.ifCond .ne 15, 3) := by decide +kernel
theorem dX9_keep_14 : decode cX9_keep 14 = .ok (.aload_n 0, 1) := by decide +kernel
theorem dX9_keep_15 : decode cX9_keep 15 = .ok (.getfield 64, 3) := by decide +kernel
theorem dX9_keep_18 : decode cX9_keep 18 = .ok (.getfield 79, 3) := by decide +kernel
theorem dX9_keep_21 : decode cX9_keep 21 = .ok (.bipush 20, 2) := by decide +kernel
theorem dX9_keep_23 : decode cX9_keep 23 = .ok (.if_icmp .lt 5, 3) := by decide +kernel
theorem dX9_keep_26 : decode cX9_keep 26 = .ok (.iconst (-1), 1) := by decide +kernel
theorem dX9_keep_27 : decode cX9_keep 27 = .ok (.ireturn, 1) := by decide +kernel
theorem dX9_keep_28 : decode cX9_keep 28 = .ok (.aload_n 0, 1) := by decide +kernel
theorem dX9_keep_29 : decode cX9_keep 29 = .ok (.iconst 1, 1) := by decide +kernel
theorem dX9_keep_30 : decode cX9_keep 30 = .ok (.putfield 76, 3) := by decide +kernel
theorem dX9_keep_33 : decode cX9_keep 33 = .ok (.aload_n 0, 1) := by decide +kernel
theorem dX9_keep_34 : decode cX9_keep 34 = .ok (.getfield 64, 3) := by decide +kernel
theorem dX9_keep_37 : decode cX9_keep 37 = .ok (.aload_n 0, 1) := by decide +kernel
theorem dX9_keep_38 : decode cX9_keep 38 = .ok (.getfield 47, 3) := by decide +kernel
theorem dX9_keep_41 : decode cX9_keep 41 = .ok (.aload_n 0, 1) := by decide +kernel
theorem dX9_keep_42 : decode cX9_keep 42 = .ok (.getfield 12, 3) := by decide +kernel
theorem dX9_keep_45 : decode cX9_keep 45 = .ok (.getfield 122, 3) := by decide +kernel
theorem dX9_keep_48 : decode cX9_keep 48 = .ok (.invokevirtual 187, 3) := by decide +kernel
theorem dX9_keep_51 : decode cX9_keep 51 = .ok (.aload_n 0, 1) := by decide +kernel
theorem dX9_keep_52 : decode cX9_keep 52 = .ok (.getfield 64, 3) := by decide +kernel
theorem dX9_keep_55 : decode cX9_keep 55 = .ok (.getfield 79, 3) := by decide +kernel
theorem dX9_keep_58 : decode cX9_keep 58 = .ok (.iconst 1, 1) := by decide +kernel
theorem dX9_keep_59 : decode cX9_keep 59 = .ok (.isub, 1) := by decide +kernel
theorem dX9_keep_60 : decode cX9_keep 60 = .ok (.ireturn, 1) := by decide +kernel
theorem dX9_limit_0 : decode cX9_limit 0 = .ok (.iload_n 1, 1) := by decide +kernel
theorem dX9_limit_1 : decode cX9_limit 1 = .ok (.iconst 1, 1) := by decide +kernel
theorem dX9_limit_2 : decode cX9_limit 2 = .ok (.if_icmp .lt 9, 3) := by decide +kernel
theorem dX9_limit_5 : decode cX9_limit 5 = .ok (.iload_n 1, 1) := by decide +kernel
theorem dX9_limit_6 : decode cX9_limit 6 = .ok (.bipush 100, 2) := by decide +kernel
theorem dX9_limit_8 : decode cX9_limit 8 = .ok (.if_icmp .le 5, 3) := by decide +kernel
theorem dX9_limit_11 : decode cX9_limit 11 = .ok (.iconst 0, 1) := by decide +kernel
theorem dX9_limit_12 : decode cX9_limit 12 = .ok (.ireturn, 1) := by decide +kernel
theorem dX9_limit_13 : decode cX9_limit 13 = .ok (.aload_n 0, 1) := by decide +kernel
theorem dX9_limit_14 : decode cX9_limit 14 = .ok (.getfield 64, 3) := by decide +kernel
theorem dX9_limit_17 : decode cX9_limit 17 = .ok (.iload_n 1, 1) := by decide +kernel
theorem dX9_limit_18 : decode cX9_limit 18 = .ok (.putfield 191, 3) := by decide +kernel
theorem dX9_limit_21 : decode cX9_limit 21 = .ok (.iconst 1, 1) := by decide +kernel
theorem dX9_limit_22 : decode cX9_limit 22 = .ok (.ireturn, 1) := by decide +kernel
theorem dX9_metres_0 : decode cX9_metres 0 = .ok (.aload_n 0, 1) := by decide +kernel
theorem dX9_metres_1 : decode cX9_metres 1 = .ok (.iload_n 1, 1) := by decide +kernel
theorem dX9_metres_2 : decode cX9_metres 2 = .ok (.invokevirtual 145, 3) := by decide +kernel
theorem dX9_metres_5 : decode cX9_metres 5 = .ok (.ifCond .eq 11, 3) := by decide +kernel
theorem dX9_metres_8 : decode cX9_metres 8 = .ok (.aload_n 0, 1) := by decide +kernel
theorem dX9_metres_9 : decode cX9_metres 9 = .ok (.iload_n 2, 1) := by decide +kernel
theorem dX9_metres_10 : decode cX9_metres 10 = .ok (.invokevirtual 180, 3) := by decide +kernel
theorem dX9_metres_13 : decode cX9_metres 13 = .ok (.ifCond .ne 5, 3) := by decide +kernel
theorem dX9_metres_16 : decode cX9_metres 16 = .ok (.iconst (-1), 1) := by decide +kernel
theorem dX9_metres_17 : decode cX9_metres 17 = .ok (.ireturn, 1) := by decide +kernel
theorem dX9_metres_18 : decode cX9_metres 18 = .ok (.aload_n 0, 1) := by decide +kernel
theorem dX9_metres_19 : decode cX9_metres 19 = .ok (.getfield 54, 3) := by decide +kernel
theorem dX9_metres_22 : decode cX9_metres 22 = .ok (.getfield 183, 3) := by decide +kernel
theorem dX9_metres_25 : decode cX9_metres 25 = .ok (.iload_n 2, 1) := by decide +kernel
theorem dX9_metres_26 : decode cX9_metres 26 = .ok (.bipush 20, 2) := by decide +kernel
theorem dX9_metres_28 : decode cX9_metres 28 = .ok (.imul, 1) := by decide +kernel
theorem dX9_metres_29 : decode cX9_metres 29 = .ok (.iload_n 1, 1) := by decide +kernel
theorem dX9_metres_30 : decode cX9_metres 30 = .ok (.iadd, 1) := by decide +kernel
theorem dX9_metres_31 : decode cX9_metres 31 = .ok (.iaload, 1) := by decide +kernel
theorem dX9_metres_32 : decode cX9_metres 32 = .ok (.ireturn, 1) := by decide +kernel
theorem dX9_orders_0 : decode cX9_orders 0 = .ok (.iload_n 1, 1) := by decide +kernel
theorem dX9_orders_1 : decode cX9_orders 1 = .ok (.invokestatic 116, 3) := by decide +kernel
theorem dX9_orders_4 : decode cX9_orders 4 = .ok (.ifCond .eq 22, 3) := by decide +kernel
theorem dX9_orders_7 : decode cX9_orders 7 = .ok (.aload_n 0, 1) := by decide +kernel
theorem dX9_orders_8 : decode cX9_orders 8 = .ok (.getfield 40, 3) := by decide +kernel
theorem dX9_orders_11 : decode cX9_orders 11 = .ok (.aload_n 0, 1) := by decide +kernel
theorem dX9_orders_12 : decode cX9_orders 12 = .ok (.getfield 26, 3) := by decide +kernel
theorem dX9_orders_15 : decode cX9_orders 15 = .ok (.aload_n 0, 1) := by decide +kernel
theorem dX9_orders_16 : decode cX9_orders 16 = .ok (.getfield 33, 3) := by decide +kernel
theorem dX9_orders_19 : decode cX9_orders 19 = .ok (.invokevirtual 112, 3) := by decide +kernel
theorem dX9_orders_22 : decode cX9_orders 22 = .ok (.iconst (-1), 1) := by decide +kernel
theorem dX9_orders_23 : decode cX9_orders 23 = .ok (.if_icmp .eq 5, 3) := by decide +kernel
theorem dX9_orders_26 : decode cX9_orders 26 = .ok (.iconst 0, 1) := by decide +kernel
theorem dX9_orders_27 : decode cX9_orders 27 = .ok (.ireturn, 1) := by decide +kernel
theorem dX9_orders_28 : decode cX9_orders 28 = .ok (.aload_n 0, 1) := by decide +kernel
theorem dX9_orders_29 : decode cX9_orders 29 = .ok (.getfield 33, 3) := by decide +kernel
theorem dX9_orders_32 : decode cX9_orders 32 = .ok (.iload_n 1, 1) := by decide +kernel
theorem dX9_orders_33 : decode cX9_orders 33 = .ok (.invokevirtual 119, 3) := by decide +kernel
theorem dX9_orders_36 : decode cX9_orders 36 = .ok (.aload_n 0, 1) := by decide +kernel
theorem dX9_orders_37 : decode cX9_orders 37 = .ok (.getfield 26, 3) := by decide +kernel
theorem dX9_orders_40 : decode cX9_orders 40 = .ok (.iconst 0, 1) := by decide +kernel
theorem dX9_orders_41 : decode cX9_orders 41 = .ok (.putfield 105, 3) := by decide +kernel
theorem dX9_orders_44 : decode cX9_orders 44 = .ok (.iconst 1, 1) := by decide +kernel
theorem dX9_orders_45 : decode cX9_orders 45 = .ok (.ireturn, 1) := by decide +kernel
theorem dX9_passed_0 : decode cX9_passed 0 = .ok (.aload_n 0, 1) := by decide +kernel
theorem dX9_passed_1 : decode cX9_passed 1 = .ok (.getfield 72, 3) := by decide +kernel
theorem dX9_passed_4 : decode cX9_passed 4 = .ok (.ifCond .eq 28, 3) := by decide +kernel
theorem dX9_passed_7 : decode cX9_passed 7 = .ok (.iload_n 1, 1) := by decide +kernel
theorem dX9_passed_8 : decode cX9_passed 8 = .ok (.ifCond .lt 24, 3) := by decide +kernel
theorem dX9_passed_11 : decode cX9_passed 11 = .ok (.iload_n 1, 1) := by decide +kernel
theorem dX9_passed_12 : decode cX9_passed 12 = .ok (.aload_n 0, 1) := by decide +kernel
theorem dX9_passed_13 : decode cX9_passed 13 = .ok (.getfield 47, 3) := by decide +kernel
theorem dX9_passed_16 : decode cX9_passed 16 = .ok (.getfield 173, 3) := by decide +kernel
theorem dX9_passed_19 : decode cX9_passed 19 = .ok (.if_icmp .ge 13, 3) := by decide +kernel
theorem dX9_passed_22 : decode cX9_passed 22 = .ok (.iload_n 2, 1) := by decide +kernel
theorem dX9_passed_23 : decode cX9_passed 23 = .ok (.iconst 1, 1) := by decide +kernel
theorem dX9_passed_24 : decode cX9_passed 24 = .ok (.if_icmp .lt 8, 3) := by decide +kernel
theorem dX9_passed_27 : decode cX9_passed 27 = .ok (.iload_n 2, 1) := by decide +kernel
theorem dX9_passed_28 : decode cX9_passed 28 = .ok (.iconst 3, 1) := by decide +kernel
theorem dX9_passed_29 : decode cX9_passed 29 = .ok (.if_icmp .le 5, 3) := by decide +kernel
theorem dX9_passed_32 : decode cX9_passed 32 = .ok (.iconst (-1), 1) := by decide +kernel
theorem dX9_passed_33 : decode cX9_passed 33 = .ok (.ireturn, 1) := by decide +kernel
theorem dX9_passed_34 : decode cX9_passed 34 = .ok (.aload_n 0, 1) := by decide +kernel
theorem dX9_passed_35 : decode cX9_passed 35 = .ok (.getfield 47, 3) := by decide +kernel
theorem dX9_passed_38 : decode cX9_passed 38 = .ok (.iload_n 1, 1) := by decide +kernel
theorem dX9_passed_39 : decode cX9_passed 39 = .ok (.iload_n 2, 1) := by decide +kernel
theorem dX9_passed_40 : decode cX9_passed 40 = .ok (.invokevirtual 176, 3) := by decide +kernel
theorem dX9_passed_43 : decode cX9_passed 43 = .ok (.ireturn, 1) := by decide +kernel
theorem dX9_prime_0 : decode cX9_prime 0 = .ok (.aload_n 0, 1) := by decide +kernel
theorem dX9_prime_1 : decode cX9_prime 1 = .ok (.getfield 19, 3) := by decide +kernel
theorem dX9_prime_4 : decode cX9_prime 4 = .ok (.iload_n 1, 1) := by decide +kernel
theorem dX9_prime_5 : decode cX9_prime 5 = .ok (.invokevirtual 94, 3) := by decide +kernel
theorem dX9_prime_8 : decode cX9_prime 8 = .ok (.ireturn, 1) := by decide +kernel
theorem dX9_race_0 : decode cX9_race 0 = .ok (.aload_n 0, 1) := by decide +kernel
theorem dX9_race_1 : decode cX9_race 1 = .ok (.getfield 12, 3) := by decide +kernel
theorem dX9_race_4 : decode cX9_race 4 = .ok (.getfield 122, 3) := by decide +kernel
theorem dX9_race_7 : decode cX9_race 7 = .ok (.ifCond .ne 5, 3) := by decide +kernel
theorem dX9_race_10 : decode cX9_race 10 = .ok (.iconst (-1), 1) := by decide +kernel
theorem dX9_race_11 : decode cX9_race 11 = .ok (.ireturn, 1) := by decide +kernel
theorem dX9_race_12 : decode cX9_race 12 = .ok (.aload_n 0, 1) := by decide +kernel
theorem dX9_race_13 : decode cX9_race 13 = .ok (.getfield 47, 3) := by decide +kernel
theorem dX9_race_16 : decode cX9_race 16 = .ok (.aload_n 0, 1) := by decide +kernel
theorem dX9_race_17 : decode cX9_race 17 = .ok (.getfield 12, 3) := by decide +kernel
theorem dX9_race_20 : decode cX9_race 20 = .ok (.aload_n 0, 1) := by decide +kernel
theorem dX9_race_21 : decode cX9_race 21 = .ok (.getfield 19, 3) := by decide +kernel
theorem dX9_race_24 : decode cX9_race 24 = .ok (.aload_n 0, 1) := by decide +kernel
theorem dX9_race_25 : decode cX9_race 25 = .ok (.getfield 64, 3) := by decide +kernel
theorem dX9_race_28 : decode cX9_race 28 = .ok (.getfield 123, 3) := by decide +kernel
theorem dX9_race_31 : decode cX9_race 31 = .ok (.lload_n 1, 1) := by decide +kernel
theorem dX9_race_32 : decode cX9_race 32 = .ok (.invokevirtual 127, 3) := by decide +kernel
theorem dX9_race_35 : decode cX9_race 35 = .ok (.aload_n 0, 1) := by decide +kernel
theorem dX9_race_36 : decode cX9_race 36 = .ok (.getfield 54, 3) := by decide +kernel
theorem dX9_race_39 : decode cX9_race 39 = .ok (.aload_n 0, 1) := by decide +kernel
theorem dX9_race_40 : decode cX9_race 40 = .ok (.getfield 47, 3) := by decide +kernel
theorem dX9_race_43 : decode cX9_race 43 = .ok (.invokevirtual 131, 3) := by decide +kernel
theorem dX9_race_46 : decode cX9_race 46 = .ok (.iconst 0, 1) := by decide +kernel
theorem dX9_race_47 : decode cX9_race 47 = .ok (.istore_n 3, 1) := by decide +kernel
theorem dX9_race_48 : decode cX9_race 48 = .ok (.iload_n 3, 1) := by decide +kernel
theorem dX9_race_49 : decode cX9_race 49 = .ok (.sipush 400, 3) := by decide +kernel
theorem dX9_race_52 : decode cX9_race 52 = .ok (.if_icmp .ge 49, 3) := by decide +kernel
theorem dX9_race_55 : decode cX9_race 55 = .ok (.aload_n 0, 1) := by decide +kernel
theorem dX9_race_56 : decode cX9_race 56 = .ok (.getfield 47, 3) := by decide +kernel
theorem dX9_race_59 : decode cX9_race 59 = .ok (.getfield 135, 3) := by decide +kernel
theorem dX9_race_62 : decode cX9_race 62 = .ok (.ifCond .le 39, 3) := by decide +kernel
theorem dX9_race_65 : decode cX9_race 65 = .ok (.aload_n 0, 1) := by decide +kernel
theorem dX9_race_66 : decode cX9_race 66 = .ok (.getfield 47, 3) := by decide +kernel
theorem dX9_race_69 : decode cX9_race 69 = .ok (.aload_n 0, 1) := by decide +kernel
theorem dX9_race_70 : decode cX9_race 70 = .ok (.getfield 12, 3) := by decide +kernel
theorem dX9_race_73 : decode cX9_race 73 = .ok (.aload_n 0, 1) := by decide +kernel
theorem dX9_race_74 : decode cX9_race 74 = .ok (.getfield 19, 3) := by decide +kernel
theorem dX9_race_77 : decode cX9_race 77 = .ok (.aload_n 0, 1) := by decide +kernel
theorem dX9_race_78 : decode cX9_race 78 = .ok (.getfield 33, 3) := by decide +kernel
theorem dX9_race_81 : decode cX9_race 81 = .ok (.invokevirtual 138, 3) := by decide +kernel
theorem dX9_race_84 : decode cX9_race 84 = .ok (.aload_n 0, 1) := by decide +kernel
theorem dX9_race_85 : decode cX9_race 85 = .ok (.getfield 54, 3) := by decide +kernel
theorem dX9_race_88 : decode cX9_race 88 = .ok (.aload_n 0, 1) := by decide +kernel
theorem dX9_race_89 : decode cX9_race 89 = .ok (.getfield 47, 3) := by decide +kernel
theorem dX9_race_92 : decode cX9_race 92 = .ok (.invokevirtual 131, 3) := by decide +kernel
theorem dX9_race_95 : decode cX9_race 95 = .ok (.iinc 3 1, 3) := by decide +kernel
theorem dX9_race_98 : decode cX9_race 98 = .ok (.goto (-50), 3) := by decide +kernel
theorem dX9_race_101 : decode cX9_race 101 = .ok (.aload_n 0, 1) := by decide +kernel
theorem dX9_race_102 : decode cX9_race 102 = .ok (.iconst 1, 1) := by decide +kernel
theorem dX9_race_103 : decode cX9_race 103 = .ok (.putfield 72, 3) := by decide +kernel
theorem dX9_race_106 : decode cX9_race 106 = .ok (.aload_n 0, 1) := by decide +kernel
theorem dX9_race_107 : decode cX9_race 107 = .ok (.iconst 0, 1) := by decide +kernel
theorem dX9_race_108 : decode cX9_race 108 = .ok (.putfield 76, 3) := by decide +kernel
theorem dX9_race_111 : decode cX9_race 111 = .ok (.aload_n 0, 1) := by decide +kernel
theorem dX9_race_112 : decode cX9_race 112 = .ok (.getfield 47, 3) := by decide +kernel
theorem dX9_race_115 : decode cX9_race 115 = .ok (.getfield 142, 3) := by decide +kernel
theorem dX9_race_118 : decode cX9_race 118 = .ok (.ireturn, 1) := by decide +kernel
theorem dX9_rider_0 : decode cX9_rider 0 = .ok (.aload_n 0, 1) := by decide +kernel
theorem dX9_rider_1 : decode cX9_rider 1 = .ok (.getfield 64, 3) := by decide +kernel
theorem dX9_rider_4 : decode cX9_rider 4 = .ok (.getfield 79, 3) := by decide +kernel
theorem dX9_rider_7 : decode cX9_rider 7 = .ok (.ifCond .le 5, 3) := by decide +kernel
theorem dX9_rider_10 : decode cX9_rider 10 = .ok (.iconst (-1), 1) := by decide +kernel
theorem dX9_rider_11 : decode cX9_rider 11 = .ok (.ireturn, 1) := by decide +kernel
theorem dX9_rider_12 : decode cX9_rider 12 = .ok (.aload_n 0, 1) := by decide +kernel
theorem dX9_rider_13 : decode cX9_rider 13 = .ok (.getfield 12, 3) := by decide +kernel
theorem dX9_rider_16 : decode cX9_rider 16 = .ok (.iload_n 1, 1) := by decide +kernel
theorem dX9_rider_17 : decode cX9_rider 17 = .ok (.iload_n 2, 1) := by decide +kernel
theorem dX9_rider_18 : decode cX9_rider 18 = .ok (.iload_n 3, 1) := by decide +kernel
theorem dX9_rider_19 : decode cX9_rider 19 = .ok (.iload 4, 2) := by decide +kernel
theorem dX9_rider_21 : decode cX9_rider 21 = .ok (.invokevirtual 82, 3) := by decide +kernel
theorem dX9_rider_24 : decode cX9_rider 24 = .ok (.ireturn, 1) := by decide +kernel
theorem dX9_rise_0 : decode cX9_rise 0 = .ok (.aload_n 0, 1) := by decide +kernel
theorem dX9_rise_1 : decode cX9_rise 1 = .ok (.getfield 19, 3) := by decide +kernel
theorem dX9_rise_4 : decode cX9_rise 4 = .ok (.iload_n 1, 1) := by decide +kernel
theorem dX9_rise_5 : decode cX9_rise 5 = .ok (.iload_n 2, 1) := by decide +kernel
theorem dX9_rise_6 : decode cX9_rise 6 = .ok (.iload_n 3, 1) := by decide +kernel
theorem dX9_rise_7 : decode cX9_rise 7 = .ok (.invokevirtual 90, 3) := by decide +kernel
theorem dX9_rise_10 : decode cX9_rise 10 = .ok (.ireturn, 1) := by decide +kernel
theorem dX9_road_0 : decode cX9_road 0 = .ok (.aload_n 0, 1) := by decide +kernel
theorem dX9_road_1 : decode cX9_road 1 = .ok (.getfield 19, 3) := by decide +kernel
theorem dX9_road_4 : decode cX9_road 4 = .ok (.iload_n 1, 1) := by decide +kernel
theorem dX9_road_5 : decode cX9_road 5 = .ok (.invokevirtual 86, 3) := by decide +kernel
theorem dX9_road_8 : decode cX9_road 8 = .ok (.ireturn, 1) := by decide +kernel
theorem dX9_rodeLatest_0 : decode cX9_rodeLatest 0 = .ok (.aload_n 0, 1) := by decide +kernel
theorem dX9_rodeLatest_1 : decode cX9_rodeLatest 1 = .ok (.getfield 72, 3) := by decide +kernel
theorem dX9_rodeLatest_4 : decode cX9_rodeLatest 4 = .ok (.ifCond .eq 29, 3) := by decide +kernel
theorem dX9_rodeLatest_7 : decode cX9_rodeLatest 7 = .ok (.iload_n 1, 1) := by decide +kernel
theorem dX9_rodeLatest_8 : decode cX9_rodeLatest 8 = .ok (.ifCond .lt 25, 3) := by decide +kernel
theorem dX9_rodeLatest_11 : decode cX9_rodeLatest 11 = .ok (.iload_n 1, 1) := by decide +kernel
theorem dX9_rodeLatest_12 : decode cX9_rodeLatest 12 = .ok (.bipush 20, 2) := by decide +kernel
theorem dX9_rodeLatest_14 : decode cX9_rodeLatest 14 = .ok (.if_icmp .ge 19, 3) := by decide +kernel
theorem dX9_rodeLatest_17 : decode cX9_rodeLatest 17 = .ok (.aload_n 0, 1) := by decide +kernel
theorem dX9_rodeLatest_18 : decode cX9_rodeLatest 18 = .ok (.getfield 47, 3) := by decide +kernel
theorem dX9_rodeLatest_21 : decode cX9_rodeLatest 21 = .ok (.getfield 227, 3) := by decide +kernel
theorem dX9_rodeLatest_24 : decode cX9_rodeLatest 24 = .ok (.iload_n 1, 1) := by decide +kernel
theorem dX9_rodeLatest_25 : decode cX9_rodeLatest 25 = .ok (.baload, 1) := by decide +kernel
theorem dX9_rodeLatest_26 : decode cX9_rodeLatest 26 = .ok (.ifCond .eq 7, 3) := by decide +kernel
theorem dX9_rodeLatest_29 : decode cX9_rodeLatest 29 = .ok (.iconst 1, 1) := by decide +kernel
theorem dX9_rodeLatest_30 : decode cX9_rodeLatest 30 = .ok (.goto 4, 3) := by decide +kernel
theorem dX9_rodeLatest_33 : decode cX9_rodeLatest 33 = .ok (.iconst 0, 1) := by decide +kernel
theorem dX9_rodeLatest_34 : decode cX9_rodeLatest 34 = .ok (.ireturn, 1) := by decide +kernel
theorem dX9_scoreOfPair_0 : decode cX9_scoreOfPair 0 = .ok (.aload_n 0, 1) := by decide +kernel
theorem dX9_scoreOfPair_1 : decode cX9_scoreOfPair 1 = .ok (.getfield 58, 3) := by decide +kernel
theorem dX9_scoreOfPair_4 : decode cX9_scoreOfPair 4 = .ok (.aload_n 0, 1) := by decide +kernel
theorem dX9_scoreOfPair_5 : decode cX9_scoreOfPair 5 = .ok (.getfield 12, 3) := by decide +kernel
theorem dX9_scoreOfPair_8 : decode cX9_scoreOfPair 8 = .ok (.aload_n 0, 1) := by decide +kernel
theorem dX9_scoreOfPair_9 : decode cX9_scoreOfPair 9 = .ok (.getfield 19, 3) := by decide +kernel
theorem dX9_scoreOfPair_12 : decode cX9_scoreOfPair 12 = .ok (.aload_n 0, 1) := by decide +kernel
theorem dX9_scoreOfPair_13 : decode cX9_scoreOfPair 13 = .ok (.getfield 64, 3) := by decide +kernel
theorem dX9_scoreOfPair_16 : decode cX9_scoreOfPair 16 = .ok (.getfield 123, 3) := by decide +kernel
theorem dX9_scoreOfPair_19 : decode cX9_scoreOfPair 19 = .ok (.lload 5, 2) := by decide +kernel
theorem dX9_scoreOfPair_21 : decode cX9_scoreOfPair 21 = .ok (.invokevirtual 127, 3) := by decide +kernel
theorem dX9_scoreOfPair_24 : decode cX9_scoreOfPair 24 = .ok (.aload_n 0, 1) := by decide +kernel
theorem dX9_scoreOfPair_25 : decode cX9_scoreOfPair 25 = .ok (.getfield 58, 3) := by decide +kernel
theorem dX9_scoreOfPair_28 : decode cX9_scoreOfPair 28 = .ok (.getfield 230, 3) := by decide +kernel
theorem dX9_scoreOfPair_31 : decode cX9_scoreOfPair 31 = .ok (.iload_n 1, 1) := by decide +kernel
theorem dX9_scoreOfPair_32 : decode cX9_scoreOfPair 32 = .ok (.iconst 5, 1) := by decide +kernel
theorem dX9_scoreOfPair_33 : decode cX9_scoreOfPair 33 = .ok (.iload_n 3, 1) := by decide +kernel
theorem dX9_scoreOfPair_34 : decode cX9_scoreOfPair 34 = .ok (.iadd, 1) := by decide +kernel
theorem dX9_scoreOfPair_35 : decode cX9_scoreOfPair 35 = .ok (.iastore, 1) := by decide +kernel
theorem dX9_scoreOfPair_36 : decode cX9_scoreOfPair 36 = .ok (.iconst 0, 1) := by decide +kernel
theorem dX9_scoreOfPair_37 : decode cX9_scoreOfPair 37 = .ok (.istore 7, 2) := by decide +kernel
theorem dX9_scoreOfPair_39 : decode cX9_scoreOfPair 39 = .ok (.iload 7, 2) := by decide +kernel
theorem dX9_scoreOfPair_41 : decode cX9_scoreOfPair 41 = .ok (.sipush 400, 3) := by decide +kernel
theorem dX9_scoreOfPair_44 : decode cX9_scoreOfPair 44 = .ok (.if_icmp .ge 67, 3) := by decide +kernel
theorem dX9_scoreOfPair_47 : decode cX9_scoreOfPair 47 = .ok (.aload_n 0, 1) := by decide +kernel
theorem dX9_scoreOfPair_48 : decode cX9_scoreOfPair 48 = .ok (.getfield 58, 3) := by decide +kernel
theorem dX9_scoreOfPair_51 : decode cX9_scoreOfPair 51 = .ok (.getfield 135, 3) := by decide +kernel
theorem dX9_scoreOfPair_54 : decode cX9_scoreOfPair 54 = .ok (.ifCond .le 57, 3) := by decide +kernel
theorem dX9_scoreOfPair_57 : decode cX9_scoreOfPair 57 = .ok (.aload_n 0, 1) := by decide +kernel
theorem dX9_scoreOfPair_58 : decode cX9_scoreOfPair 58 = .ok (.getfield 58, 3) := by decide +kernel
theorem dX9_scoreOfPair_61 : decode cX9_scoreOfPair 61 = .ok (.iload_n 1, 1) := by decide +kernel
theorem dX9_scoreOfPair_62 : decode cX9_scoreOfPair 62 = .ok (.aload_n 0, 1) := by decide +kernel
theorem dX9_scoreOfPair_63 : decode cX9_scoreOfPair 63 = .ok (.getfield 12, 3) := by decide +kernel
theorem dX9_scoreOfPair_66 : decode cX9_scoreOfPair 66 = .ok (.invokevirtual 233, 3) := by decide +kernel
theorem dX9_scoreOfPair_69 : decode cX9_scoreOfPair 69 = .ok (.iload_n 2, 1) := by decide +kernel
theorem dX9_scoreOfPair_70 : decode cX9_scoreOfPair 70 = .ok (.if_icmp .lt 16, 3) := by decide +kernel
theorem dX9_scoreOfPair_73 : decode cX9_scoreOfPair 73 = .ok (.aload_n 0, 1) := by decide +kernel
theorem dX9_scoreOfPair_74 : decode cX9_scoreOfPair 74 = .ok (.getfield 58, 3) := by decide +kernel
theorem dX9_scoreOfPair_77 : decode cX9_scoreOfPair 77 = .ok (.getfield 230, 3) := by decide +kernel
theorem dX9_scoreOfPair_80 : decode cX9_scoreOfPair 80 = .ok (.iload_n 1, 1) := by decide +kernel
theorem dX9_scoreOfPair_81 : decode cX9_scoreOfPair 81 = .ok (.iconst 5, 1) := by decide +kernel
theorem dX9_scoreOfPair_82 : decode cX9_scoreOfPair 82 = .ok (.iload 4, 2) := by decide +kernel
theorem dX9_scoreOfPair_84 : decode cX9_scoreOfPair 84 = .ok (.iadd, 1) := by decide +kernel
theorem dX9_scoreOfPair_85 : decode cX9_scoreOfPair 85 = .ok (.iastore, 1) := by decide +kernel
theorem dX9_scoreOfPair_86 : decode cX9_scoreOfPair 86 = .ok (.aload_n 0, 1) := by decide +kernel
theorem dX9_scoreOfPair_87 : decode cX9_scoreOfPair 87 = .ok (.getfield 58, 3) := by decide +kernel
theorem dX9_scoreOfPair_90 : decode cX9_scoreOfPair 90 = .ok (.aload_n 0, 1) := by decide +kernel
theorem dX9_scoreOfPair_91 : decode cX9_scoreOfPair 91 = .ok (.getfield 12, 3) := by decide +kernel
theorem dX9_scoreOfPair_94 : decode cX9_scoreOfPair 94 = .ok (.aload_n 0, 1) := by decide +kernel
theorem dX9_scoreOfPair_95 : decode cX9_scoreOfPair 95 = .ok (.getfield 19, 3) := by decide +kernel
theorem dX9_scoreOfPair_98 : decode cX9_scoreOfPair 98 = .ok (.aload_n 0, 1) := by decide +kernel
theorem dX9_scoreOfPair_99 : decode cX9_scoreOfPair 99 = .ok (.getfield 33, 3) := by decide +kernel
theorem dX9_scoreOfPair_102 : decode cX9_scoreOfPair 102 = .ok (.invokevirtual 138, 3) := by decide +kernel
theorem dX9_scoreOfPair_105 : decode cX9_scoreOfPair 105 = .ok (.iinc 7 1, 3) := by decide +kernel
theorem dX9_scoreOfPair_108 : decode cX9_scoreOfPair 108 = .ok (.goto (-69), 3) := by decide +kernel
theorem dX9_scoreOfPair_111 : decode cX9_scoreOfPair 111 = .ok (.aload_n 0, 1) := by decide +kernel
theorem dX9_scoreOfPair_112 : decode cX9_scoreOfPair 112 = .ok (.getfield 58, 3) := by decide +kernel
theorem dX9_scoreOfPair_115 : decode cX9_scoreOfPair 115 = .ok (.iload_n 1, 1) := by decide +kernel
theorem dX9_scoreOfPair_116 : decode cX9_scoreOfPair 116 = .ok (.aload_n 0, 1) := by decide +kernel
theorem dX9_scoreOfPair_117 : decode cX9_scoreOfPair 117 = .ok (.getfield 12, 3) := by decide +kernel
theorem dX9_scoreOfPair_120 : decode cX9_scoreOfPair 120 = .ok (.invokevirtual 236, 3) := by decide +kernel
theorem dX9_scoreOfPair_123 : decode cX9_scoreOfPair 123 = .ok (.ireturn, 1) := by decide +kernel
theorem dX9_sum_0 : decode cX9_sum 0 = .ok (.iload_n 1, 1) := by decide +kernel
theorem dX9_sum_1 : decode cX9_sum 1 = .ok (.ifCond .lt 14, 3) := by decide +kernel
theorem dX9_sum_4 : decode cX9_sum 4 = .ok (.iload_n 1, 1) := by decide +kernel
theorem dX9_sum_5 : decode cX9_sum 5 = .ok (.aload_n 0, 1) := by decide +kernel
theorem dX9_sum_6 : decode cX9_sum 6 = .ok (.getfield 12, 3) := by decide +kernel
theorem dX9_sum_9 : decode cX9_sum 9 = .ok (.getfield 122, 3) := by decide +kernel
theorem dX9_sum_12 : decode cX9_sum 12 = .ok (.if_icmp .lt 5, 3) := by decide +kernel
theorem dX9_sum_15 : decode cX9_sum 15 = .ok (.iconst (-1), 1) := by decide +kernel
theorem dX9_sum_16 : decode cX9_sum 16 = .ok (.ireturn, 1) := by decide +kernel
theorem dX9_sum_17 : decode cX9_sum 17 = .ok (.iload_n 2, 1) := by decide +kernel
theorem dX9_sum_18 : decode cX9_sum 18 = .ok (.tableswitch 84 0 3 #[30, 40, 50, 68], 30) := by decide +kernel
theorem dX9_sum_48 : decode cX9_sum 48 = .ok (.aload_n 0, 1) := by decide +kernel
theorem dX9_sum_49 : decode cX9_sum 49 = .ok (.getfield 64, 3) := by decide +kernel
theorem dX9_sum_52 : decode cX9_sum 52 = .ok (.getfield 194, 3) := by decide +kernel
theorem dX9_sum_55 : decode cX9_sum 55 = .ok (.iload_n 1, 1) := by decide +kernel
theorem dX9_sum_56 : decode cX9_sum 56 = .ok (.iaload, 1) := by decide +kernel
theorem dX9_sum_57 : decode cX9_sum 57 = .ok (.ireturn, 1) := by decide +kernel
theorem dX9_sum_58 : decode cX9_sum 58 = .ok (.aload_n 0, 1) := by decide +kernel
theorem dX9_sum_59 : decode cX9_sum 59 = .ok (.getfield 64, 3) := by decide +kernel
theorem dX9_sum_62 : decode cX9_sum 62 = .ok (.getfield 197, 3) := by decide +kernel
theorem dX9_sum_65 : decode cX9_sum 65 = .ok (.iload_n 1, 1) := by decide +kernel
theorem dX9_sum_66 : decode cX9_sum 66 = .ok (.iaload, 1) := by decide +kernel
theorem dX9_sum_67 : decode cX9_sum 67 = .ok (.ireturn, 1) := by decide +kernel
theorem dX9_sum_68 : decode cX9_sum 68 = .ok (.aload_n 0, 1) := by decide +kernel
theorem dX9_sum_69 : decode cX9_sum 69 = .ok (.getfield 64, 3) := by decide +kernel
theorem dX9_sum_72 : decode cX9_sum 72 = .ok (.getfield 123, 3) := by decide +kernel
theorem dX9_sum_75 : decode cX9_sum 75 = .ok (.iload_n 1, 1) := by decide +kernel
theorem dX9_sum_76 : decode cX9_sum 76 = .ok (.baload, 1) := by decide +kernel
theorem dX9_sum_77 : decode cX9_sum 77 = .ok (.ifCond .eq 7, 3) := by decide +kernel
theorem dX9_sum_80 : decode cX9_sum 80 = .ok (.iconst 1, 1) := by decide +kernel
theorem dX9_sum_81 : decode cX9_sum 81 = .ok (.goto 4, 3) := by decide +kernel
theorem dX9_sum_84 : decode cX9_sum 84 = .ok (.iconst 0, 1) := by decide +kernel
theorem dX9_sum_85 : decode cX9_sum 85 = .ok (.ireturn, 1) := by decide +kernel
theorem dX9_sum_86 : decode cX9_sum 86 = .ok (.aload_n 0, 1) := by decide +kernel
theorem dX9_sum_87 : decode cX9_sum 87 = .ok (.getfield 64, 3) := by decide +kernel
theorem dX9_sum_90 : decode cX9_sum 90 = .ok (.iload_n 1, 1) := by decide +kernel
theorem dX9_sum_91 : decode cX9_sum 91 = .ok (.aload_n 0, 1) := by decide +kernel
theorem dX9_sum_92 : decode cX9_sum 92 = .ok (.getfield 12, 3) := by decide +kernel
theorem dX9_sum_95 : decode cX9_sum 95 = .ok (.getfield 122, 3) := by decide +kernel
theorem dX9_sum_98 : decode cX9_sum 98 = .ok (.invokevirtual 200, 3) := by decide +kernel
theorem dX9_sum_101 : decode cX9_sum 101 = .ok (.ireturn, 1) := by decide +kernel
theorem dX9_sum_102 : decode cX9_sum 102 = .ok (.iconst (-1), 1) := by decide +kernel
theorem dX9_sum_103 : decode cX9_sum 103 = .ok (.ireturn, 1) := by decide +kernel
theorem dX9_team_0 : decode cX9_team 0 = .ok (.iload_n 1, 1) := by decide +kernel
theorem dX9_team_1 : decode cX9_team 1 = .ok (.invokestatic 116, 3) := by decide +kernel
theorem dX9_team_4 : decode cX9_team 4 = .ok (.ifCond .ne 5, 3) := by decide +kernel
theorem dX9_team_7 : decode cX9_team 7 = .ok (.iconst (-1), 1) := by decide +kernel
theorem dX9_team_8 : decode cX9_team 8 = .ok (.ireturn, 1) := by decide +kernel
theorem dX9_team_9 : decode cX9_team 9 = .ok (.aload_n 0, 1) := by decide +kernel
theorem dX9_team_10 : decode cX9_team 10 = .ok (.getfield 64, 3) := by decide +kernel
theorem dX9_team_13 : decode cX9_team 13 = .ok (.iload_n 1, 1) := by decide +kernel
theorem dX9_team_14 : decode cX9_team 14 = .ok (.aload_n 0, 1) := by decide +kernel
theorem dX9_team_15 : decode cX9_team 15 = .ok (.getfield 12, 3) := by decide +kernel
theorem dX9_team_18 : decode cX9_team 18 = .ok (.invokevirtual 203, 3) := by decide +kernel
theorem dX9_team_21 : decode cX9_team 21 = .ok (.ireturn, 1) := by decide +kernel
theorem dX9_told_0 : decode cX9_told 0 = .ok (.aload_n 0, 1) := by decide +kernel
theorem dX9_told_1 : decode cX9_told 1 = .ok (.iload_n 1, 1) := by decide +kernel
theorem dX9_told_2 : decode cX9_told 2 = .ok (.invokevirtual 145, 3) := by decide +kernel
theorem dX9_told_5 : decode cX9_told 5 = .ok (.ifCond .ne 5, 3) := by decide +kernel
theorem dX9_told_8 : decode cX9_told 8 = .ok (.iconst (-1), 1) := by decide +kernel
theorem dX9_told_9 : decode cX9_told 9 = .ok (.ireturn, 1) := by decide +kernel
theorem dX9_told_10 : decode cX9_told 10 = .ok (.iload_n 2, 1) := by decide +kernel
theorem dX9_told_11 : decode cX9_told 11 = .ok (.tableswitch 132 0 7 #[45, 64, 74, 83, 93, 103, 112, 122], 45) := by decide +kernel
theorem dX9_told_56 : decode cX9_told 56 = .ok (.aload_n 0, 1) := by decide +kernel
theorem dX9_told_57 : decode cX9_told 57 = .ok (.getfield 47, 3) := by decide +kernel
theorem dX9_told_60 : decode cX9_told 60 = .ok (.getfield 148, 3) := by decide +kernel
theorem dX9_told_63 : decode cX9_told 63 = .ok (.iload_n 1, 1) := by decide +kernel
theorem dX9_told_64 : decode cX9_told 64 = .ok (.iaload, 1) := by decide +kernel
theorem dX9_told_65 : decode cX9_told 65 = .ok (.iconst (-1), 1) := by decide +kernel
theorem dX9_told_66 : decode cX9_told 66 = .ok (.if_icmp .ne 7, 3) := by decide +kernel
theorem dX9_told_69 : decode cX9_told 69 = .ok (.iconst 0, 1) := by decide +kernel
theorem dX9_told_70 : decode cX9_told 70 = .ok (.goto 4, 3) := by decide +kernel
theorem dX9_told_73 : decode cX9_told 73 = .ok (.iconst 1, 1) := by decide +kernel
theorem dX9_told_74 : decode cX9_told 74 = .ok (.ireturn, 1) := by decide +kernel
theorem dX9_told_75 : decode cX9_told 75 = .ok (.aload_n 0, 1) := by decide +kernel
theorem dX9_told_76 : decode cX9_told 76 = .ok (.getfield 47, 3) := by decide +kernel
theorem dX9_told_79 : decode cX9_told 79 = .ok (.getfield 148, 3) := by decide +kernel
theorem dX9_told_82 : decode cX9_told 82 = .ok (.iload_n 1, 1) := by decide +kernel
theorem dX9_told_83 : decode cX9_told 83 = .ok (.iaload, 1) := by decide +kernel
theorem dX9_told_84 : decode cX9_told 84 = .ok (.ireturn, 1) := by decide +kernel
theorem dX9_told_85 : decode cX9_told 85 = .ok (.aload_n 0, 1) := by decide +kernel
theorem dX9_told_86 : decode cX9_told 86 = .ok (.getfield 47, 3) := by decide +kernel
theorem dX9_told_89 : decode cX9_told 89 = .ok (.iload_n 1, 1) := by decide +kernel
theorem dX9_told_90 : decode cX9_told 90 = .ok (.invokevirtual 152, 3) := by decide +kernel
theorem dX9_told_93 : decode cX9_told 93 = .ok (.ireturn, 1) := by decide +kernel
theorem dX9_told_94 : decode cX9_told 94 = .ok (.aload_n 0, 1) := by decide +kernel
theorem dX9_told_95 : decode cX9_told 95 = .ok (.getfield 47, 3) := by decide +kernel
theorem dX9_told_98 : decode cX9_told 98 = .ok (.getfield 155, 3) := by decide +kernel
theorem dX9_told_101 : decode cX9_told 101 = .ok (.iload_n 1, 1) := by decide +kernel
theorem dX9_told_102 : decode cX9_told 102 = .ok (.iaload, 1) := by decide +kernel
theorem dX9_told_103 : decode cX9_told 103 = .ok (.ireturn, 1) := by decide +kernel
theorem dX9_told_104 : decode cX9_told 104 = .ok (.aload_n 0, 1) := by decide +kernel
theorem dX9_told_105 : decode cX9_told 105 = .ok (.getfield 47, 3) := by decide +kernel
theorem dX9_told_108 : decode cX9_told 108 = .ok (.getfield 158, 3) := by decide +kernel
theorem dX9_told_111 : decode cX9_told 111 = .ok (.iload_n 1, 1) := by decide +kernel
theorem dX9_told_112 : decode cX9_told 112 = .ok (.iaload, 1) := by decide +kernel
theorem dX9_told_113 : decode cX9_told 113 = .ok (.ireturn, 1) := by decide +kernel
theorem dX9_told_114 : decode cX9_told 114 = .ok (.aload_n 0, 1) := by decide +kernel
theorem dX9_told_115 : decode cX9_told 115 = .ok (.getfield 47, 3) := by decide +kernel
theorem dX9_told_118 : decode cX9_told 118 = .ok (.iload_n 1, 1) := by decide +kernel
theorem dX9_told_119 : decode cX9_told 119 = .ok (.invokevirtual 161, 3) := by decide +kernel
theorem dX9_told_122 : decode cX9_told 122 = .ok (.ireturn, 1) := by decide +kernel
theorem dX9_told_123 : decode cX9_told 123 = .ok (.aload_n 0, 1) := by decide +kernel
theorem dX9_told_124 : decode cX9_told 124 = .ok (.getfield 47, 3) := by decide +kernel
theorem dX9_told_127 : decode cX9_told 127 = .ok (.getfield 164, 3) := by decide +kernel
theorem dX9_told_130 : decode cX9_told 130 = .ok (.iload_n 1, 1) := by decide +kernel
theorem dX9_told_131 : decode cX9_told 131 = .ok (.iaload, 1) := by decide +kernel
theorem dX9_told_132 : decode cX9_told 132 = .ok (.ireturn, 1) := by decide +kernel
theorem dX9_told_133 : decode cX9_told 133 = .ok (.aload_n 0, 1) := by decide +kernel
theorem dX9_told_134 : decode cX9_told 134 = .ok (.getfield 47, 3) := by decide +kernel
theorem dX9_told_137 : decode cX9_told 137 = .ok (.getfield 167, 3) := by decide +kernel
theorem dX9_told_140 : decode cX9_told 140 = .ok (.iload_n 1, 1) := by decide +kernel
theorem dX9_told_141 : decode cX9_told 141 = .ok (.iaload, 1) := by decide +kernel
theorem dX9_told_142 : decode cX9_told 142 = .ok (.ireturn, 1) := by decide +kernel
theorem dX9_told_143 : decode cX9_told 143 = .ok (.iconst (-1), 1) := by decide +kernel
theorem dX9_told_144 : decode cX9_told 144 = .ok (.ireturn, 1) := by decide +kernel
