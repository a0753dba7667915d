theorem dL_law_0 : decode cL_law 0 = .ok (.new 7, 3) := by decide +kernel
theorem dL_law_3 : decode cL_law 3 = .ok (.dup, 1) := by decide +kernel
theorem dL_law_4 : decode cL_law 4 = .ok (.invokespecial 9, 3) := by decide +kernel
theorem dL_law_7 : decode cL_law 7 = .ok (.astore_n 1, 1) := by decide +kernel
theorem dL_law_8 : decode cL_law 8 = .ok (.new 10, 3) := by decide +kernel
theorem dL_law_11 : decode cL_law 11 = .ok (.dup, 1) := by decide +kernel
theorem dL_law_12 : decode cL_law 12 = .ok (.invokespecial 12, 3) := by decide +kernel
theorem dL_law_15 : decode cL_law 15 = .ok (.astore_n 2, 1) := by decide +kernel
theorem dL_law_16 : decode cL_law 16 = .ok (.iconst 0, 1) := by decide +kernel
theorem dL_law_17 : decode cL_law 17 = .ok (.istore_n 3, 1) := by decide +kernel
theorem dL_law_18 : decode cL_law 18 = .ok (.iload_n 3, 1) := by decide +kernel
theorem dL_law_19 : decode cL_law 19 = .ok (.aload_n 0, 1) := by decide +kernel
theorem dL_law_20 : decode cL_law 20 = .ok (.arraylength, 1) := by decide +kernel
theorem dL_law_21 : decode cL_law 21 = .ok (.bipush 7, 2) := by decide +kernel
theorem dL_law_23 : decode cL_law 23 = .ok (.isub, 1) := by decide +kernel
theorem dL_law_24 : decode cL_law 24 = .ok (.if_icmp .gt 913, 3) := by decide +kernel
theorem dL_law_27 : decode cL_law 27 = .ok (.aload_n 0, 1) := by decide +kernel
theorem dL_law_28 : decode cL_law 28 = .ok (.iload_n 3, 1) := by decide +kernel
theorem dL_law_29 : decode cL_law 29 = .ok (.iaload, 1) := by decide +kernel
theorem dL_law_30 : decode cL_law 30 = .ok (.bipush 31, 2) := by decide +kernel
theorem dL_law_32 : decode cL_law 32 = .ok (.iand, 1) := by decide +kernel
theorem dL_law_33 : decode cL_law 33 = .ok (.tableswitch 898 0 22 #[107, 160, 183, 226, 249, 282, 345, 368, 381, 404, 417, 470, 503, 526, 559, 592, 615, 628, 651, 684, 707, 802, 875], 107) := by decide +kernel
theorem dL_law_140 : decode cL_law 140 = .ok (.aload_n 1, 1) := by decide +kernel
theorem dL_law_141 : decode cL_law 141 = .ok (.aload_n 0, 1) := by decide +kernel
theorem dL_law_142 : decode cL_law 142 = .ok (.iload_n 3, 1) := by decide +kernel
theorem dL_law_143 : decode cL_law 143 = .ok (.iconst 1, 1) := by decide +kernel
theorem dL_law_144 : decode cL_law 144 = .ok (.iadd, 1) := by decide +kernel
theorem dL_law_145 : decode cL_law 145 = .ok (.iaload, 1) := by decide +kernel
theorem dL_law_146 : decode cL_law 146 = .ok (.aload_n 0, 1) := by decide +kernel
theorem dL_law_147 : decode cL_law 147 = .ok (.iload_n 3, 1) := by decide +kernel
theorem dL_law_148 : decode cL_law 148 = .ok (.iconst 2, 1) := by decide +kernel
theorem dL_law_149 : decode cL_law 149 = .ok (.iadd, 1) := by decide +kernel
theorem dL_law_150 : decode cL_law 150 = .ok (.iaload, 1) := by decide +kernel
theorem dL_law_151 : decode cL_law 151 = .ok (.aload_n 0, 1) := by decide +kernel
theorem dL_law_152 : decode cL_law 152 = .ok (.iload_n 3, 1) := by decide +kernel
theorem dL_law_153 : decode cL_law 153 = .ok (.iconst 3, 1) := by decide +kernel
theorem dL_law_154 : decode cL_law 154 = .ok (.iadd, 1) := by decide +kernel
theorem dL_law_155 : decode cL_law 155 = .ok (.iaload, 1) := by decide +kernel
theorem dL_law_156 : decode cL_law 156 = .ok (.aload_n 0, 1) := by decide +kernel
theorem dL_law_157 : decode cL_law 157 = .ok (.iload_n 3, 1) := by decide +kernel
theorem dL_law_158 : decode cL_law 158 = .ok (.iconst 4, 1) := by decide +kernel
theorem dL_law_159 : decode cL_law 159 = .ok (.iadd, 1) := by decide +kernel
theorem dL_law_160 : decode cL_law 160 = .ok (.iaload, 1) := by decide +kernel
theorem dL_law_161 : decode cL_law 161 = .ok (.invokevirtual 13, 3) := by decide +kernel
theorem dL_law_164 : decode cL_law 164 = .ok (.aload_n 2, 1) := by decide +kernel
theorem dL_law_165 : decode cL_law 165 = .ok (.aload_n 0, 1) := by decide +kernel
theorem dL_law_166 : decode cL_law 166 = .ok (.iload_n 3, 1) := by decide +kernel
theorem dL_law_167 : decode cL_law 167 = .ok (.iconst 1, 1) := by decide +kernel
theorem dL_law_168 : decode cL_law 168 = .ok (.iadd, 1) := by decide +kernel
theorem dL_law_169 : decode cL_law 169 = .ok (.iaload, 1) := by decide +kernel
theorem dL_law_170 : decode cL_law 170 = .ok (.aload_n 0, 1) := by decide +kernel
theorem dL_law_171 : decode cL_law 171 = .ok (.iload_n 3, 1) := by decide +kernel
theorem dL_law_172 : decode cL_law 172 = .ok (.iconst 2, 1) := by decide +kernel
theorem dL_law_173 : decode cL_law 173 = .ok (.iadd, 1) := by decide +kernel
theorem dL_law_174 : decode cL_law 174 = .ok (.iaload, 1) := by decide +kernel
theorem dL_law_175 : decode cL_law 175 = .ok (.aload_n 0, 1) := by decide +kernel
theorem dL_law_176 : decode cL_law 176 = .ok (.iload_n 3, 1) := by decide +kernel
theorem dL_law_177 : decode cL_law 177 = .ok (.iconst 3, 1) := by decide +kernel
theorem dL_law_178 : decode cL_law 178 = .ok (.iadd, 1) := by decide +kernel
theorem dL_law_179 : decode cL_law 179 = .ok (.iaload, 1) := by decide +kernel
theorem dL_law_180 : decode cL_law 180 = .ok (.aload_n 0, 1) := by decide +kernel
theorem dL_law_181 : decode cL_law 181 = .ok (.iload_n 3, 1) := by decide +kernel
theorem dL_law_182 : decode cL_law 182 = .ok (.iconst 4, 1) := by decide +kernel
theorem dL_law_183 : decode cL_law 183 = .ok (.iadd, 1) := by decide +kernel
theorem dL_law_184 : decode cL_law 184 = .ok (.iaload, 1) := by decide +kernel
theorem dL_law_185 : decode cL_law 185 = .ok (.invokevirtual 17, 3) := by decide +kernel
theorem dL_law_188 : decode cL_law 188 = .ok (.if_icmp .eq 743, 3) := by decide +kernel
theorem dL_law_193 : decode cL_law 193 = .ok (.aload_n 1, 1) := by decide +kernel
theorem dL_law_194 : decode cL_law 194 = .ok (.aload_n 0, 1) := by decide +kernel
theorem dL_law_195 : decode cL_law 195 = .ok (.iload_n 3, 1) := by decide +kernel
theorem dL_law_196 : decode cL_law 196 = .ok (.iconst 1, 1) := by decide +kernel
theorem dL_law_197 : decode cL_law 197 = .ok (.iadd, 1) := by decide +kernel
theorem dL_law_198 : decode cL_law 198 = .ok (.iaload, 1) := by decide +kernel
theorem dL_law_199 : decode cL_law 199 = .ok (.invokevirtual 18, 3) := by decide +kernel
theorem dL_law_202 : decode cL_law 202 = .ok (.aload_n 2, 1) := by decide +kernel
theorem dL_law_203 : decode cL_law 203 = .ok (.aload_n 0, 1) := by decide +kernel
theorem dL_law_204 : decode cL_law 204 = .ok (.iload_n 3, 1) := by decide +kernel
theorem dL_law_205 : decode cL_law 205 = .ok (.iconst 1, 1) := by decide +kernel
theorem dL_law_206 : decode cL_law 206 = .ok (.iadd, 1) := by decide +kernel
theorem dL_law_207 : decode cL_law 207 = .ok (.iaload, 1) := by decide +kernel
theorem dL_law_208 : decode cL_law 208 = .ok (.invokevirtual 22, 3) := by decide +kernel
theorem dL_law_211 : decode cL_law 211 = .ok (.if_icmp .eq 720, 3) := by decide +kernel
theorem dL_law_216 : decode cL_law 216 = .ok (.aload_n 1, 1) := by decide +kernel
theorem dL_law_217 : decode cL_law 217 = .ok (.aload_n 0, 1) := by decide +kernel
theorem dL_law_218 : decode cL_law 218 = .ok (.iload_n 3, 1) := by decide +kernel
theorem dL_law_219 : decode cL_law 219 = .ok (.iconst 1, 1) := by decide +kernel
theorem dL_law_220 : decode cL_law 220 = .ok (.iadd, 1) := by decide +kernel
theorem dL_law_221 : decode cL_law 221 = .ok (.iaload, 1) := by decide +kernel
theorem dL_law_222 : decode cL_law 222 = .ok (.aload_n 0, 1) := by decide +kernel
theorem dL_law_223 : decode cL_law 223 = .ok (.iload_n 3, 1) := by decide +kernel
theorem dL_law_224 : decode cL_law 224 = .ok (.iconst 2, 1) := by decide +kernel
theorem dL_law_225 : decode cL_law 225 = .ok (.iadd, 1) := by decide +kernel
theorem dL_law_226 : decode cL_law 226 = .ok (.iaload, 1) := by decide +kernel
theorem dL_law_227 : decode cL_law 227 = .ok (.aload_n 0, 1) := by decide +kernel
theorem dL_law_228 : decode cL_law 228 = .ok (.iload_n 3, 1) := by decide +kernel
theorem dL_law_229 : decode cL_law 229 = .ok (.iconst 3, 1) := by decide +kernel
theorem dL_law_230 : decode cL_law 230 = .ok (.iadd, 1) := by decide +kernel
theorem dL_law_231 : decode cL_law 231 = .ok (.iaload, 1) := by decide +kernel
theorem dL_law_232 : decode cL_law 232 = .ok (.invokevirtual 23, 3) := by decide +kernel
theorem dL_law_235 : decode cL_law 235 = .ok (.aload_n 2, 1) := by decide +kernel
theorem dL_law_236 : decode cL_law 236 = .ok (.aload_n 0, 1) := by decide +kernel
theorem dL_law_237 : decode cL_law 237 = .ok (.iload_n 3, 1) := by decide +kernel
theorem dL_law_238 : decode cL_law 238 = .ok (.iconst 1, 1) := by decide +kernel
theorem dL_law_239 : decode cL_law 239 = .ok (.iadd, 1) := by decide +kernel
theorem dL_law_240 : decode cL_law 240 = .ok (.iaload, 1) := by decide +kernel
theorem dL_law_241 : decode cL_law 241 = .ok (.aload_n 0, 1) := by decide +kernel
theorem dL_law_242 : decode cL_law 242 = .ok (.iload_n 3, 1) := by decide +kernel
theorem dL_law_243 : decode cL_law 243 = .ok (.iconst 2, 1) := by decide +kernel
theorem dL_law_244 : decode cL_law 244 = .ok (.iadd, 1) := by decide +kernel
theorem dL_law_245 : decode cL_law 245 = .ok (.iaload, 1) := by decide +kernel
theorem dL_law_246 : decode cL_law 246 = .ok (.aload_n 0, 1) := by decide +kernel
theorem dL_law_247 : decode cL_law 247 = .ok (.iload_n 3, 1) := by decide +kernel
theorem dL_law_248 : decode cL_law 248 = .ok (.iconst 3, 1) := by decide +kernel
theorem dL_law_249 : decode cL_law 249 = .ok (.iadd, 1) := by decide +kernel
theorem dL_law_250 : decode cL_law 250 = .ok (.iaload, 1) := by decide +kernel
theorem dL_law_251 : decode cL_law 251 = .ok (.invokevirtual 27, 3) := by decide +kernel
theorem dL_law_254 : decode cL_law 254 = .ok (.if_icmp .eq 677, 3) := by decide +kernel
theorem dL_law_259 : decode cL_law 259 = .ok (.aload_n 1, 1) := by decide +kernel
theorem dL_law_260 : decode cL_law 260 = .ok (.aload_n 0, 1) := by decide +kernel
theorem dL_law_261 : decode cL_law 261 = .ok (.iload_n 3, 1) := by decide +kernel
theorem dL_law_262 : decode cL_law 262 = .ok (.iconst 1, 1) := by decide +kernel
theorem dL_law_263 : decode cL_law 263 = .ok (.iadd, 1) := by decide +kernel
theorem dL_law_264 : decode cL_law 264 = .ok (.iaload, 1) := by decide +kernel
theorem dL_law_265 : decode cL_law 265 = .ok (.invokevirtual 28, 3) := by decide +kernel
theorem dL_law_268 : decode cL_law 268 = .ok (.aload_n 2, 1) := by decide +kernel
theorem dL_law_269 : decode cL_law 269 = .ok (.aload_n 0, 1) := by decide +kernel
theorem dL_law_270 : decode cL_law 270 = .ok (.iload_n 3, 1) := by decide +kernel
theorem dL_law_271 : decode cL_law 271 = .ok (.iconst 1, 1) := by decide +kernel
theorem dL_law_272 : decode cL_law 272 = .ok (.iadd, 1) := by decide +kernel
theorem dL_law_273 : decode cL_law 273 = .ok (.iaload, 1) := by decide +kernel
theorem dL_law_274 : decode cL_law 274 = .ok (.invokevirtual 32, 3) := by decide +kernel
theorem dL_law_277 : decode cL_law 277 = .ok (.if_icmp .eq 654, 3) := by decide +kernel
theorem dL_law_282 : decode cL_law 282 = .ok (.aload_n 1, 1) := by decide +kernel
theorem dL_law_283 : decode cL_law 283 = .ok (.aload_n 0, 1) := by decide +kernel
theorem dL_law_284 : decode cL_law 284 = .ok (.iload_n 3, 1) := by decide +kernel
theorem dL_law_285 : decode cL_law 285 = .ok (.iconst 1, 1) := by decide +kernel
theorem dL_law_286 : decode cL_law 286 = .ok (.iadd, 1) := by decide +kernel
theorem dL_law_287 : decode cL_law 287 = .ok (.iaload, 1) := by decide +kernel
theorem dL_law_288 : decode cL_law 288 = .ok (.aload_n 0, 1) := by decide +kernel
theorem dL_law_289 : decode cL_law 289 = .ok (.iload_n 3, 1) := by decide +kernel
theorem dL_law_290 : decode cL_law 290 = .ok (.iconst 2, 1) := by decide +kernel
theorem dL_law_291 : decode cL_law 291 = .ok (.iadd, 1) := by decide +kernel
theorem dL_law_292 : decode cL_law 292 = .ok (.iaload, 1) := by decide +kernel
theorem dL_law_293 : decode cL_law 293 = .ok (.invokevirtual 33, 3) := by decide +kernel
theorem dL_law_296 : decode cL_law 296 = .ok (.aload_n 2, 1) := by decide +kernel
theorem dL_law_297 : decode cL_law 297 = .ok (.aload_n 0, 1) := by decide +kernel
theorem dL_law_298 : decode cL_law 298 = .ok (.iload_n 3, 1) := by decide +kernel
theorem dL_law_299 : decode cL_law 299 = .ok (.iconst 1, 1) := by decide +kernel
theorem dL_law_300 : decode cL_law 300 = .ok (.iadd, 1) := by decide +kernel
theorem dL_law_301 : decode cL_law 301 = .ok (.iaload, 1) := by decide +kernel
theorem dL_law_302 : decode cL_law 302 = .ok (.aload_n 0, 1) := by decide +kernel
theorem dL_law_303 : decode cL_law 303 = .ok (.iload_n 3, 1) := by decide +kernel
theorem dL_law_304 : decode cL_law 304 = .ok (.iconst 2, 1) := by decide +kernel
theorem dL_law_305 : decode cL_law 305 = .ok (.iadd, 1) := by decide +kernel
theorem dL_law_306 : decode cL_law 306 = .ok (.iaload, 1) := by decide +kernel
theorem dL_law_307 : decode cL_law 307 = .ok (.invokevirtual 37, 3) := by decide +kernel
theorem dL_law_310 : decode cL_law 310 = .ok (.if_icmp .eq 621, 3) := by decide +kernel
theorem dL_law_315 : decode cL_law 315 = .ok (.aload_n 1, 1) := by decide +kernel
theorem dL_law_316 : decode cL_law 316 = .ok (.aload_n 0, 1) := by decide +kernel
theorem dL_law_317 : decode cL_law 317 = .ok (.iload_n 3, 1) := by decide +kernel
theorem dL_law_318 : decode cL_law 318 = .ok (.iconst 1, 1) := by decide +kernel
theorem dL_law_319 : decode cL_law 319 = .ok (.iadd, 1) := by decide +kernel
theorem dL_law_320 : decode cL_law 320 = .ok (.iaload, 1) := by decide +kernel
theorem dL_law_321 : decode cL_law 321 = .ok (.aload_n 0, 1) := by decide +kernel
theorem dL_law_322 : decode cL_law 322 = .ok (.iload_n 3, 1) := by decide +kernel
theorem dL_law_323 : decode cL_law 323 = .ok (.iconst 2, 1) := by decide +kernel
theorem dL_law_324 : decode cL_law 324 = .ok (.iadd, 1) := by decide +kernel
theorem dL_law_325 : decode cL_law 325 = .ok (.iaload, 1) := by decide +kernel
theorem dL_law_326 : decode cL_law 326 = .ok (.aload_n 0, 1) := by decide +kernel
theorem dL_law_327 : decode cL_law 327 = .ok (.iload_n 3, 1) := by decide +kernel
theorem dL_law_328 : decode cL_law 328 = .ok (.iconst 3, 1) := by decide +kernel
theorem dL_law_329 : decode cL_law 329 = .ok (.iadd, 1) := by decide +kernel
theorem dL_law_330 : decode cL_law 330 = .ok (.iaload, 1) := by decide +kernel
theorem dL_law_331 : decode cL_law 331 = .ok (.aload_n 0, 1) := by decide +kernel
theorem dL_law_332 : decode cL_law 332 = .ok (.iload_n 3, 1) := by decide +kernel
theorem dL_law_333 : decode cL_law 333 = .ok (.iconst 4, 1) := by decide +kernel
theorem dL_law_334 : decode cL_law 334 = .ok (.iadd, 1) := by decide +kernel
theorem dL_law_335 : decode cL_law 335 = .ok (.iaload, 1) := by decide +kernel
theorem dL_law_336 : decode cL_law 336 = .ok (.aload_n 0, 1) := by decide +kernel
theorem dL_law_337 : decode cL_law 337 = .ok (.iload_n 3, 1) := by decide +kernel
theorem dL_law_338 : decode cL_law 338 = .ok (.iconst 5, 1) := by decide +kernel
theorem dL_law_339 : decode cL_law 339 = .ok (.iadd, 1) := by decide +kernel
theorem dL_law_340 : decode cL_law 340 = .ok (.iaload, 1) := by decide +kernel
theorem dL_law_341 : decode cL_law 341 = .ok (.invokevirtual 38, 3) := by decide +kernel
theorem dL_law_344 : decode cL_law 344 = .ok (.aload_n 2, 1) := by decide +kernel
theorem dL_law_345 : decode cL_law 345 = .ok (.aload_n 0, 1) := by decide +kernel
theorem dL_law_346 : decode cL_law 346 = .ok (.iload_n 3, 1) := by decide +kernel
theorem dL_law_347 : decode cL_law 347 = .ok (.iconst 1, 1) := by decide +kernel
theorem dL_law_348 : decode cL_law 348 = .ok (.iadd, 1) := by decide +kernel
theorem dL_law_349 : decode cL_law 349 = .ok (.iaload, 1) := by decide +kernel
theorem dL_law_350 : decode cL_law 350 = .ok (.aload_n 0, 1) := by decide +kernel
theorem dL_law_351 : decode cL_law 351 = .ok (.iload_n 3, 1) := by decide +kernel
theorem dL_law_352 : decode cL_law 352 = .ok (.iconst 2, 1) := by decide +kernel
theorem dL_law_353 : decode cL_law 353 = .ok (.iadd, 1) := by decide +kernel
theorem dL_law_354 : decode cL_law 354 = .ok (.iaload, 1) := by decide +kernel
theorem dL_law_355 : decode cL_law 355 = .ok (.aload_n 0, 1) := by decide +kernel
theorem dL_law_356 : decode cL_law 356 = .ok (.iload_n 3, 1) := by decide +kernel
theorem dL_law_357 : decode cL_law 357 = .ok (.iconst 3, 1) := by decide +kernel
theorem dL_law_358 : decode cL_law 358 = .ok (.iadd, 1) := by decide +kernel
theorem dL_law_359 : decode cL_law 359 = .ok (.iaload, 1) := by decide +kernel
theorem dL_law_360 : decode cL_law 360 = .ok (.aload_n 0, 1) := by decide +kernel
theorem dL_law_361 : decode cL_law 361 = .ok (.iload_n 3, 1) := by decide +kernel
theorem dL_law_362 : decode cL_law 362 = .ok (.iconst 4, 1) := by decide +kernel
theorem dL_law_363 : decode cL_law 363 = .ok (.iadd, 1) := by decide +kernel
theorem dL_law_364 : decode cL_law 364 = .ok (.iaload, 1) := by decide +kernel
theorem dL_law_365 : decode cL_law 365 = .ok (.aload_n 0, 1) := by decide +kernel
theorem dL_law_366 : decode cL_law 366 = .ok (.iload_n 3, 1) := by decide +kernel
theorem dL_law_367 : decode cL_law 367 = .ok (.iconst 5, 1) := by decide +kernel
theorem dL_law_368 : decode cL_law 368 = .ok (.iadd, 1) := by decide +kernel
theorem dL_law_369 : decode cL_law 369 = .ok (.iaload, 1) := by decide +kernel
theorem dL_law_370 : decode cL_law 370 = .ok (.invokevirtual 42, 3) := by decide +kernel
theorem dL_law_373 : decode cL_law 373 = .ok (.if_icmp .eq 558, 3) := by decide +kernel
theorem dL_law_378 : decode cL_law 378 = .ok (.aload_n 1, 1) := by decide +kernel
theorem dL_law_379 : decode cL_law 379 = .ok (.aload_n 0, 1) := by decide +kernel
theorem dL_law_380 : decode cL_law 380 = .ok (.iload_n 3, 1) := by decide +kernel
theorem dL_law_381 : decode cL_law 381 = .ok (.iconst 1, 1) := by decide +kernel
theorem dL_law_382 : decode cL_law 382 = .ok (.iadd, 1) := by decide +kernel
theorem dL_law_383 : decode cL_law 383 = .ok (.iaload, 1) := by decide +kernel
theorem dL_law_384 : decode cL_law 384 = .ok (.invokevirtual 43, 3) := by decide +kernel
theorem dL_law_387 : decode cL_law 387 = .ok (.aload_n 2, 1) := by decide +kernel
theorem dL_law_388 : decode cL_law 388 = .ok (.aload_n 0, 1) := by decide +kernel
theorem dL_law_389 : decode cL_law 389 = .ok (.iload_n 3, 1) := by decide +kernel
theorem dL_law_390 : decode cL_law 390 = .ok (.iconst 1, 1) := by decide +kernel
theorem dL_law_391 : decode cL_law 391 = .ok (.iadd, 1) := by decide +kernel
theorem dL_law_392 : decode cL_law 392 = .ok (.iaload, 1) := by decide +kernel
theorem dL_law_393 : decode cL_law 393 = .ok (.invokevirtual 46, 3) := by decide +kernel
theorem dL_law_396 : decode cL_law 396 = .ok (.if_icmp .eq 535, 3) := by decide +kernel
theorem dL_law_401 : decode cL_law 401 = .ok (.aload_n 1, 1) := by decide +kernel
theorem dL_law_402 : decode cL_law 402 = .ok (.invokevirtual 47, 3) := by decide +kernel
theorem dL_law_405 : decode cL_law 405 = .ok (.aload_n 2, 1) := by decide +kernel
theorem dL_law_406 : decode cL_law 406 = .ok (.invokevirtual 51, 3) := by decide +kernel
theorem dL_law_409 : decode cL_law 409 = .ok (.if_icmp .eq 522, 3) := by decide +kernel
theorem dL_law_414 : decode cL_law 414 = .ok (.aload_n 1, 1) := by decide +kernel
theorem dL_law_415 : decode cL_law 415 = .ok (.aload_n 0, 1) := by decide +kernel
theorem dL_law_416 : decode cL_law 416 = .ok (.iload_n 3, 1) := by decide +kernel
theorem dL_law_417 : decode cL_law 417 = .ok (.iconst 1, 1) := by decide +kernel
theorem dL_law_418 : decode cL_law 418 = .ok (.iadd, 1) := by decide +kernel
theorem dL_law_419 : decode cL_law 419 = .ok (.iaload, 1) := by decide +kernel
theorem dL_law_420 : decode cL_law 420 = .ok (.invokevirtual 52, 3) := by decide +kernel
theorem dL_law_423 : decode cL_law 423 = .ok (.aload_n 2, 1) := by decide +kernel
theorem dL_law_424 : decode cL_law 424 = .ok (.aload_n 0, 1) := by decide +kernel
theorem dL_law_425 : decode cL_law 425 = .ok (.iload_n 3, 1) := by decide +kernel
theorem dL_law_426 : decode cL_law 426 = .ok (.iconst 1, 1) := by decide +kernel
theorem dL_law_427 : decode cL_law 427 = .ok (.iadd, 1) := by decide +kernel
theorem dL_law_428 : decode cL_law 428 = .ok (.iaload, 1) := by decide +kernel
theorem dL_law_429 : decode cL_law 429 = .ok (.invokevirtual 55, 3) := by decide +kernel
theorem dL_law_432 : decode cL_law 432 = .ok (.if_icmp .eq 499, 3) := by decide +kernel
theorem dL_law_437 : decode cL_law 437 = .ok (.aload_n 1, 1) := by decide +kernel
theorem dL_law_438 : decode cL_law 438 = .ok (.invokevirtual 56, 3) := by decide +kernel
theorem dL_law_441 : decode cL_law 441 = .ok (.aload_n 2, 1) := by decide +kernel
theorem dL_law_442 : decode cL_law 442 = .ok (.invokevirtual 59, 3) := by decide +kernel
theorem dL_law_445 : decode cL_law 445 = .ok (.if_icmp .eq 486, 3) := by decide +kernel
theorem dL_law_450 : decode cL_law 450 = .ok (.aload_n 1, 1) := by decide +kernel
theorem dL_law_451 : decode cL_law 451 = .ok (.aload_n 0, 1) := by decide +kernel
theorem dL_law_452 : decode cL_law 452 = .ok (.iload_n 3, 1) := by decide +kernel
theorem dL_law_453 : decode cL_law 453 = .ok (.iconst 1, 1) := by decide +kernel
theorem dL_law_454 : decode cL_law 454 = .ok (.iadd, 1) := by decide +kernel
theorem dL_law_455 : decode cL_law 455 = .ok (.iaload, 1) := by decide +kernel
theorem dL_law_456 : decode cL_law 456 = .ok (.i2l, 1) := by decide +kernel
theorem dL_law_457 : decode cL_law 457 = .ok (.bipush 32, 2) := by decide +kernel
theorem dL_law_459 : decode cL_law 459 = .ok (.lshl, 1) := by decide +kernel
theorem dL_law_460 : decode cL_law 460 = .ok (.aload_n 0, 1) := by decide +kernel
theorem dL_law_461 : decode cL_law 461 = .ok (.iload_n 3, 1) := by decide +kernel
theorem dL_law_462 : decode cL_law 462 = .ok (.iconst 2, 1) := by decide +kernel
theorem dL_law_463 : decode cL_law 463 = .ok (.iadd, 1) := by decide +kernel
theorem dL_law_464 : decode cL_law 464 = .ok (.iaload, 1) := by decide +kernel
theorem dL_law_465 : decode cL_law 465 = .ok (.i2l, 1) := by decide +kernel
theorem dL_law_466 : decode cL_law 466 = .ok (.ldc2_w 60, 3) := by decide +kernel
theorem dL_law_469 : decode cL_law 469 = .ok (.land, 1) := by decide +kernel
theorem dL_law_470 : decode cL_law 470 = .ok (.lor, 1) := by decide +kernel
theorem dL_law_471 : decode cL_law 471 = .ok (.invokevirtual 62, 3) := by decide +kernel
theorem dL_law_474 : decode cL_law 474 = .ok (.aload_n 2, 1) := by decide +kernel
theorem dL_law_475 : decode cL_law 475 = .ok (.aload_n 0, 1) := by decide +kernel
theorem dL_law_476 : decode cL_law 476 = .ok (.iload_n 3, 1) := by decide +kernel
theorem dL_law_477 : decode cL_law 477 = .ok (.iconst 1, 1) := by decide +kernel
theorem dL_law_478 : decode cL_law 478 = .ok (.iadd, 1) := by decide +kernel
theorem dL_law_479 : decode cL_law 479 = .ok (.iaload, 1) := by decide +kernel
theorem dL_law_480 : decode cL_law 480 = .ok (.i2l, 1) := by decide +kernel
theorem dL_law_481 : decode cL_law 481 = .ok (.bipush 32, 2) := by decide +kernel
theorem dL_law_483 : decode cL_law 483 = .ok (.lshl, 1) := by decide +kernel
theorem dL_law_484 : decode cL_law 484 = .ok (.aload_n 0, 1) := by decide +kernel
theorem dL_law_485 : decode cL_law 485 = .ok (.iload_n 3, 1) := by decide +kernel
theorem dL_law_486 : decode cL_law 486 = .ok (.iconst 2, 1) := by decide +kernel
theorem dL_law_487 : decode cL_law 487 = .ok (.iadd, 1) := by decide +kernel
theorem dL_law_488 : decode cL_law 488 = .ok (.iaload, 1) := by decide +kernel
theorem dL_law_489 : decode cL_law 489 = .ok (.i2l, 1) := by decide +kernel
theorem dL_law_490 : decode cL_law 490 = .ok (.ldc2_w 60, 3) := by decide +kernel
theorem dL_law_493 : decode cL_law 493 = .ok (.land, 1) := by decide +kernel
theorem dL_law_494 : decode cL_law 494 = .ok (.lor, 1) := by decide +kernel
theorem dL_law_495 : decode cL_law 495 = .ok (.invokevirtual 66, 3) := by decide +kernel
theorem dL_law_498 : decode cL_law 498 = .ok (.if_icmp .eq 433, 3) := by decide +kernel
theorem dL_law_503 : decode cL_law 503 = .ok (.aload_n 1, 1) := by decide +kernel
theorem dL_law_504 : decode cL_law 504 = .ok (.aload_n 0, 1) := by decide +kernel
theorem dL_law_505 : decode cL_law 505 = .ok (.iload_n 3, 1) := by decide +kernel
theorem dL_law_506 : decode cL_law 506 = .ok (.iconst 1, 1) := by decide +kernel
theorem dL_law_507 : decode cL_law 507 = .ok (.iadd, 1) := by decide +kernel
theorem dL_law_508 : decode cL_law 508 = .ok (.iaload, 1) := by decide +kernel
theorem dL_law_509 : decode cL_law 509 = .ok (.aload_n 0, 1) := by decide +kernel
theorem dL_law_510 : decode cL_law 510 = .ok (.iload_n 3, 1) := by decide +kernel
theorem dL_law_511 : decode cL_law 511 = .ok (.iconst 2, 1) := by decide +kernel
theorem dL_law_512 : decode cL_law 512 = .ok (.iadd, 1) := by decide +kernel
theorem dL_law_513 : decode cL_law 513 = .ok (.iaload, 1) := by decide +kernel
theorem dL_law_514 : decode cL_law 514 = .ok (.invokevirtual 67, 3) := by decide +kernel
theorem dL_law_517 : decode cL_law 517 = .ok (.aload_n 2, 1) := by decide +kernel
theorem dL_law_518 : decode cL_law 518 = .ok (.aload_n 0, 1) := by decide +kernel
theorem dL_law_519 : decode cL_law 519 = .ok (.iload_n 3, 1) := by decide +kernel
theorem dL_law_520 : decode cL_law 520 = .ok (.iconst 1, 1) := by decide +kernel
theorem dL_law_521 : decode cL_law 521 = .ok (.iadd, 1) := by decide +kernel
theorem dL_law_522 : decode cL_law 522 = .ok (.iaload, 1) := by decide +kernel
theorem dL_law_523 : decode cL_law 523 = .ok (.aload_n 0, 1) := by decide +kernel
theorem dL_law_524 : decode cL_law 524 = .ok (.iload_n 3, 1) := by decide +kernel
theorem dL_law_525 : decode cL_law 525 = .ok (.iconst 2, 1) := by decide +kernel
theorem dL_law_526 : decode cL_law 526 = .ok (.iadd, 1) := by decide +kernel
theorem dL_law_527 : decode cL_law 527 = .ok (.iaload, 1) := by decide +kernel
theorem dL_law_528 : decode cL_law 528 = .ok (.invokevirtual 71, 3) := by decide +kernel
theorem dL_law_531 : decode cL_law 531 = .ok (.if_icmp .eq 400, 3) := by decide +kernel
theorem dL_law_536 : decode cL_law 536 = .ok (.aload_n 1, 1) := by decide +kernel
theorem dL_law_537 : decode cL_law 537 = .ok (.aload_n 0, 1) := by decide +kernel
theorem dL_law_538 : decode cL_law 538 = .ok (.iload_n 3, 1) := by decide +kernel
theorem dL_law_539 : decode cL_law 539 = .ok (.iconst 1, 1) := by decide +kernel
theorem dL_law_540 : decode cL_law 540 = .ok (.iadd, 1) := by decide +kernel
theorem dL_law_541 : decode cL_law 541 = .ok (.iaload, 1) := by decide +kernel
theorem dL_law_542 : decode cL_law 542 = .ok (.invokevirtual 72, 3) := by decide +kernel
theorem dL_law_545 : decode cL_law 545 = .ok (.aload_n 2, 1) := by decide +kernel
theorem dL_law_546 : decode cL_law 546 = .ok (.aload_n 0, 1) := by decide +kernel
theorem dL_law_547 : decode cL_law 547 = .ok (.iload_n 3, 1) := by decide +kernel
theorem dL_law_548 : decode cL_law 548 = .ok (.iconst 1, 1) := by decide +kernel
theorem dL_law_549 : decode cL_law 549 = .ok (.iadd, 1) := by decide +kernel
theorem dL_law_550 : decode cL_law 550 = .ok (.iaload, 1) := by decide +kernel
theorem dL_law_551 : decode cL_law 551 = .ok (.invokevirtual 75, 3) := by decide +kernel
theorem dL_law_554 : decode cL_law 554 = .ok (.if_icmp .eq 377, 3) := by decide +kernel
theorem dL_law_559 : decode cL_law 559 = .ok (.aload_n 1, 1) := by decide +kernel
theorem dL_law_560 : decode cL_law 560 = .ok (.aload_n 0, 1) := by decide +kernel
theorem dL_law_561 : decode cL_law 561 = .ok (.iload_n 3, 1) := by decide +kernel
theorem dL_law_562 : decode cL_law 562 = .ok (.iconst 1, 1) := by decide +kernel
theorem dL_law_563 : decode cL_law 563 = .ok (.iadd, 1) := by decide +kernel
theorem dL_law_564 : decode cL_law 564 = .ok (.iaload, 1) := by decide +kernel
theorem dL_law_565 : decode cL_law 565 = .ok (.aload_n 0, 1) := by decide +kernel
theorem dL_law_566 : decode cL_law 566 = .ok (.iload_n 3, 1) := by decide +kernel
theorem dL_law_567 : decode cL_law 567 = .ok (.iconst 2, 1) := by decide +kernel
theorem dL_law_568 : decode cL_law 568 = .ok (.iadd, 1) := by decide +kernel
theorem dL_law_569 : decode cL_law 569 = .ok (.iaload, 1) := by decide +kernel
theorem dL_law_570 : decode cL_law 570 = .ok (.invokevirtual 76, 3) := by decide +kernel
theorem dL_law_573 : decode cL_law 573 = .ok (.aload_n 2, 1) := by decide +kernel
theorem dL_law_574 : decode cL_law 574 = .ok (.aload_n 0, 1) := by decide +kernel
theorem dL_law_575 : decode cL_law 575 = .ok (.iload_n 3, 1) := by decide +kernel
theorem dL_law_576 : decode cL_law 576 = .ok (.iconst 1, 1) := by decide +kernel
theorem dL_law_577 : decode cL_law 577 = .ok (.iadd, 1) := by decide +kernel
theorem dL_law_578 : decode cL_law 578 = .ok (.iaload, 1) := by decide +kernel
theorem dL_law_579 : decode cL_law 579 = .ok (.aload_n 0, 1) := by decide +kernel
theorem dL_law_580 : decode cL_law 580 = .ok (.iload_n 3, 1) := by decide +kernel
theorem dL_law_581 : decode cL_law 581 = .ok (.iconst 2, 1) := by decide +kernel
theorem dL_law_582 : decode cL_law 582 = .ok (.iadd, 1) := by decide +kernel
theorem dL_law_583 : decode cL_law 583 = .ok (.iaload, 1) := by decide +kernel
theorem dL_law_584 : decode cL_law 584 = .ok (.invokevirtual 79, 3) := by decide +kernel
theorem dL_law_587 : decode cL_law 587 = .ok (.if_icmp .eq 344, 3) := by decide +kernel
theorem dL_law_592 : decode cL_law 592 = .ok (.aload_n 1, 1) := by decide +kernel
theorem dL_law_593 : decode cL_law 593 = .ok (.aload_n 0, 1) := by decide +kernel
theorem dL_law_594 : decode cL_law 594 = .ok (.iload_n 3, 1) := by decide +kernel
theorem dL_law_595 : decode cL_law 595 = .ok (.iconst 1, 1) := by decide +kernel
theorem dL_law_596 : decode cL_law 596 = .ok (.iadd, 1) := by decide +kernel
theorem dL_law_597 : decode cL_law 597 = .ok (.iaload, 1) := by decide +kernel
theorem dL_law_598 : decode cL_law 598 = .ok (.aload_n 0, 1) := by decide +kernel
theorem dL_law_599 : decode cL_law 599 = .ok (.iload_n 3, 1) := by decide +kernel
theorem dL_law_600 : decode cL_law 600 = .ok (.iconst 2, 1) := by decide +kernel
theorem dL_law_601 : decode cL_law 601 = .ok (.iadd, 1) := by decide +kernel
theorem dL_law_602 : decode cL_law 602 = .ok (.iaload, 1) := by decide +kernel
theorem dL_law_603 : decode cL_law 603 = .ok (.invokevirtual 80, 3) := by decide +kernel
theorem dL_law_606 : decode cL_law 606 = .ok (.aload_n 2, 1) := by decide +kernel
theorem dL_law_607 : decode cL_law 607 = .ok (.aload_n 0, 1) := by decide +kernel
theorem dL_law_608 : decode cL_law 608 = .ok (.iload_n 3, 1) := by decide +kernel
theorem dL_law_609 : decode cL_law 609 = .ok (.iconst 1, 1) := by decide +kernel
theorem dL_law_610 : decode cL_law 610 = .ok (.iadd, 1) := by decide +kernel
theorem dL_law_611 : decode cL_law 611 = .ok (.iaload, 1) := by decide +kernel
theorem dL_law_612 : decode cL_law 612 = .ok (.aload_n 0, 1) := by decide +kernel
theorem dL_law_613 : decode cL_law 613 = .ok (.iload_n 3, 1) := by decide +kernel
theorem dL_law_614 : decode cL_law 614 = .ok (.iconst 2, 1) := by decide +kernel
theorem dL_law_615 : decode cL_law 615 = .ok (.iadd, 1) := by decide +kernel
theorem dL_law_616 : decode cL_law 616 = .ok (.iaload, 1) := by decide +kernel
theorem dL_law_617 : decode cL_law 617 = .ok (.invokevirtual 83, 3) := by decide +kernel
theorem dL_law_620 : decode cL_law 620 = .ok (.if_icmp .eq 311, 3) := by decide +kernel
theorem dL_law_625 : decode cL_law 625 = .ok (.aload_n 1, 1) := by decide +kernel
theorem dL_law_626 : decode cL_law 626 = .ok (.aload_n 0, 1) := by decide +kernel
theorem dL_law_627 : decode cL_law 627 = .ok (.iload_n 3, 1) := by decide +kernel
theorem dL_law_628 : decode cL_law 628 = .ok (.iconst 1, 1) := by decide +kernel
theorem dL_law_629 : decode cL_law 629 = .ok (.iadd, 1) := by decide +kernel
theorem dL_law_630 : decode cL_law 630 = .ok (.iaload, 1) := by decide +kernel
theorem dL_law_631 : decode cL_law 631 = .ok (.invokevirtual 84, 3) := by decide +kernel
theorem dL_law_634 : decode cL_law 634 = .ok (.aload_n 2, 1) := by decide +kernel
theorem dL_law_635 : decode cL_law 635 = .ok (.aload_n 0, 1) := by decide +kernel
theorem dL_law_636 : decode cL_law 636 = .ok (.iload_n 3, 1) := by decide +kernel
theorem dL_law_637 : decode cL_law 637 = .ok (.iconst 1, 1) := by decide +kernel
theorem dL_law_638 : decode cL_law 638 = .ok (.iadd, 1) := by decide +kernel
theorem dL_law_639 : decode cL_law 639 = .ok (.iaload, 1) := by decide +kernel
theorem dL_law_640 : decode cL_law 640 = .ok (.invokevirtual 87, 3) := by decide +kernel
theorem dL_law_643 : decode cL_law 643 = .ok (.if_icmp .eq 288, 3) := by decide +kernel
theorem dL_law_648 : decode cL_law 648 = .ok (.aload_n 1, 1) := by decide +kernel
theorem dL_law_649 : decode cL_law 649 = .ok (.invokevirtual 88, 3) := by decide +kernel
theorem dL_law_652 : decode cL_law 652 = .ok (.aload_n 2, 1) := by decide +kernel
theorem dL_law_653 : decode cL_law 653 = .ok (.invokevirtual 91, 3) := by decide +kernel
theorem dL_law_656 : decode cL_law 656 = .ok (.if_icmp .eq 275, 3) := by decide +kernel
theorem dL_law_661 : decode cL_law 661 = .ok (.aload_n 1, 1) := by decide +kernel
theorem dL_law_662 : decode cL_law 662 = .ok (.aload_n 0, 1) := by decide +kernel
theorem dL_law_663 : decode cL_law 663 = .ok (.iload_n 3, 1) := by decide +kernel
theorem dL_law_664 : decode cL_law 664 = .ok (.iconst 1, 1) := by decide +kernel
theorem dL_law_665 : decode cL_law 665 = .ok (.iadd, 1) := by decide +kernel
theorem dL_law_666 : decode cL_law 666 = .ok (.iaload, 1) := by decide +kernel
theorem dL_law_667 : decode cL_law 667 = .ok (.invokevirtual 92, 3) := by decide +kernel
theorem dL_law_670 : decode cL_law 670 = .ok (.aload_n 2, 1) := by decide +kernel
theorem dL_law_671 : decode cL_law 671 = .ok (.aload_n 0, 1) := by decide +kernel
theorem dL_law_672 : decode cL_law 672 = .ok (.iload_n 3, 1) := by decide +kernel
theorem dL_law_673 : decode cL_law 673 = .ok (.iconst 1, 1) := by decide +kernel
theorem dL_law_674 : decode cL_law 674 = .ok (.iadd, 1) := by decide +kernel
theorem dL_law_675 : decode cL_law 675 = .ok (.iaload, 1) := by decide +kernel
theorem dL_law_676 : decode cL_law 676 = .ok (.invokevirtual 95, 3) := by decide +kernel
theorem dL_law_679 : decode cL_law 679 = .ok (.if_icmp .eq 252, 3) := by decide +kernel
theorem dL_law_684 : decode cL_law 684 = .ok (.aload_n 1, 1) := by decide +kernel
theorem dL_law_685 : decode cL_law 685 = .ok (.aload_n 0, 1) := by decide +kernel
theorem dL_law_686 : decode cL_law 686 = .ok (.iload_n 3, 1) := by decide +kernel
theorem dL_law_687 : decode cL_law 687 = .ok (.iconst 1, 1) := by decide +kernel
theorem dL_law_688 : decode cL_law 688 = .ok (.iadd, 1) := by decide +kernel
theorem dL_law_689 : decode cL_law 689 = .ok (.iaload, 1) := by decide +kernel
theorem dL_law_690 : decode cL_law 690 = .ok (.aload_n 0, 1) := by decide +kernel
theorem dL_law_691 : decode cL_law 691 = .ok (.iload_n 3, 1) := by decide +kernel
theorem dL_law_692 : decode cL_law 692 = .ok (.iconst 2, 1) := by decide +kernel
theorem dL_law_693 : decode cL_law 693 = .ok (.iadd, 1) := by decide +kernel
theorem dL_law_694 : decode cL_law 694 = .ok (.iaload, 1) := by decide +kernel
theorem dL_law_695 : decode cL_law 695 = .ok (.invokevirtual 96, 3) := by decide +kernel
theorem dL_law_698 : decode cL_law 698 = .ok (.aload_n 2, 1) := by decide +kernel
theorem dL_law_699 : decode cL_law 699 = .ok (.aload_n 0, 1) := by decide +kernel
theorem dL_law_700 : decode cL_law 700 = .ok (.iload_n 3, 1) := by decide +kernel
theorem dL_law_701 : decode cL_law 701 = .ok (.iconst 1, 1) := by decide +kernel
theorem dL_law_702 : decode cL_law 702 = .ok (.iadd, 1) := by decide +kernel
theorem dL_law_703 : decode cL_law 703 = .ok (.iaload, 1) := by decide +kernel
theorem dL_law_704 : decode cL_law 704 = .ok (.aload_n 0, 1) := by decide +kernel
theorem dL_law_705 : decode cL_law 705 = .ok (.iload_n 3, 1) := by decide +kernel
theorem dL_law_706 : decode cL_law 706 = .ok (.iconst 2, 1) := by decide +kernel
theorem dL_law_707 : decode cL_law 707 = .ok (.iadd, 1) := by decide +kernel
theorem dL_law_708 : decode cL_law 708 = .ok (.iaload, 1) := by decide +kernel
theorem dL_law_709 : decode cL_law 709 = .ok (.invokevirtual 99, 3) := by decide +kernel
theorem dL_law_712 : decode cL_law 712 = .ok (.if_icmp .eq 219, 3) := by decide +kernel
theorem dL_law_717 : decode cL_law 717 = .ok (.aload_n 1, 1) := by decide +kernel
theorem dL_law_718 : decode cL_law 718 = .ok (.aload_n 0, 1) := by decide +kernel
theorem dL_law_719 : decode cL_law 719 = .ok (.iload_n 3, 1) := by decide +kernel
theorem dL_law_720 : decode cL_law 720 = .ok (.iconst 1, 1) := by decide +kernel
theorem dL_law_721 : decode cL_law 721 = .ok (.iadd, 1) := by decide +kernel
theorem dL_law_722 : decode cL_law 722 = .ok (.iaload, 1) := by decide +kernel
theorem dL_law_723 : decode cL_law 723 = .ok (.invokevirtual 100, 3) := by decide +kernel
theorem dL_law_726 : decode cL_law 726 = .ok (.aload_n 2, 1) := by decide +kernel
theorem dL_law_727 : decode cL_law 727 = .ok (.aload_n 0, 1) := by decide +kernel
theorem dL_law_728 : decode cL_law 728 = .ok (.iload_n 3, 1) := by decide +kernel
theorem dL_law_729 : decode cL_law 729 = .ok (.iconst 1, 1) := by decide +kernel
theorem dL_law_730 : decode cL_law 730 = .ok (.iadd, 1) := by decide +kernel
theorem dL_law_731 : decode cL_law 731 = .ok (.iaload, 1) := by decide +kernel
theorem dL_law_732 : decode cL_law 732 = .ok (.invokevirtual 103, 3) := by decide +kernel
theorem dL_law_735 : decode cL_law 735 = .ok (.if_icmp .eq 196, 3) := by decide +kernel
theorem dL_law_740 : decode cL_law 740 = .ok (.aload_n 1, 1) := by decide +kernel
theorem dL_law_741 : decode cL_law 741 = .ok (.aload_n 0, 1) := by decide +kernel
theorem dL_law_742 : decode cL_law 742 = .ok (.iload_n 3, 1) := by decide +kernel
theorem dL_law_743 : decode cL_law 743 = .ok (.iconst 1, 1) := by decide +kernel
theorem dL_law_744 : decode cL_law 744 = .ok (.iadd, 1) := by decide +kernel
theorem dL_law_745 : decode cL_law 745 = .ok (.iaload, 1) := by decide +kernel
theorem dL_law_746 : decode cL_law 746 = .ok (.aload_n 0, 1) := by decide +kernel
theorem dL_law_747 : decode cL_law 747 = .ok (.iload_n 3, 1) := by decide +kernel
theorem dL_law_748 : decode cL_law 748 = .ok (.iconst 2, 1) := by decide +kernel
theorem dL_law_749 : decode cL_law 749 = .ok (.iadd, 1) := by decide +kernel
theorem dL_law_750 : decode cL_law 750 = .ok (.iaload, 1) := by decide +kernel
theorem dL_law_751 : decode cL_law 751 = .ok (.aload_n 0, 1) := by decide +kernel
theorem dL_law_752 : decode cL_law 752 = .ok (.iload_n 3, 1) := by decide +kernel
theorem dL_law_753 : decode cL_law 753 = .ok (.iconst 3, 1) := by decide +kernel
theorem dL_law_754 : decode cL_law 754 = .ok (.iadd, 1) := by decide +kernel
theorem dL_law_755 : decode cL_law 755 = .ok (.iaload, 1) := by decide +kernel
theorem dL_law_756 : decode cL_law 756 = .ok (.aload_n 0, 1) := by decide +kernel
theorem dL_law_757 : decode cL_law 757 = .ok (.iload_n 3, 1) := by decide +kernel
theorem dL_law_758 : decode cL_law 758 = .ok (.iconst 4, 1) := by decide +kernel
theorem dL_law_759 : decode cL_law 759 = .ok (.iadd, 1) := by decide +kernel
theorem dL_law_760 : decode cL_law 760 = .ok (.iaload, 1) := by decide +kernel
theorem dL_law_761 : decode cL_law 761 = .ok (.aload_n 0, 1) := by decide +kernel
theorem dL_law_762 : decode cL_law 762 = .ok (.iload_n 3, 1) := by decide +kernel
theorem dL_law_763 : decode cL_law 763 = .ok (.iconst 5, 1) := by decide +kernel
theorem dL_law_764 : decode cL_law 764 = .ok (.iadd, 1) := by decide +kernel
theorem dL_law_765 : decode cL_law 765 = .ok (.iaload, 1) := by decide +kernel
theorem dL_law_766 : decode cL_law 766 = .ok (.i2l, 1) := by decide +kernel
theorem dL_law_767 : decode cL_law 767 = .ok (.bipush 32, 2) := by decide +kernel
theorem dL_law_769 : decode cL_law 769 = .ok (.lshl, 1) := by decide +kernel
theorem dL_law_770 : decode cL_law 770 = .ok (.aload_n 0, 1) := by decide +kernel
theorem dL_law_771 : decode cL_law 771 = .ok (.iload_n 3, 1) := by decide +kernel
theorem dL_law_772 : decode cL_law 772 = .ok (.bipush 6, 2) := by decide +kernel
theorem dL_law_774 : decode cL_law 774 = .ok (.iadd, 1) := by decide +kernel
theorem dL_law_775 : decode cL_law 775 = .ok (.iaload, 1) := by decide +kernel
theorem dL_law_776 : decode cL_law 776 = .ok (.i2l, 1) := by decide +kernel
theorem dL_law_777 : decode cL_law 777 = .ok (.ldc2_w 60, 3) := by decide +kernel
theorem dL_law_780 : decode cL_law 780 = .ok (.land, 1) := by decide +kernel
theorem dL_law_781 : decode cL_law 781 = .ok (.lor, 1) := by decide +kernel
theorem dL_law_782 : decode cL_law 782 = .ok (.invokevirtual 104, 3) := by decide +kernel
theorem dL_law_785 : decode cL_law 785 = .ok (.aload_n 2, 1) := by decide +kernel
theorem dL_law_786 : decode cL_law 786 = .ok (.aload_n 0, 1) := by decide +kernel
theorem dL_law_787 : decode cL_law 787 = .ok (.iload_n 3, 1) := by decide +kernel
theorem dL_law_788 : decode cL_law 788 = .ok (.iconst 1, 1) := by decide +kernel
theorem dL_law_789 : decode cL_law 789 = .ok (.iadd, 1) := by decide +kernel
theorem dL_law_790 : decode cL_law 790 = .ok (.iaload, 1) := by decide +kernel
theorem dL_law_791 : decode cL_law 791 = .ok (.aload_n 0, 1) := by decide +kernel
theorem dL_law_792 : decode cL_law 792 = .ok (.iload_n 3, 1) := by decide +kernel
theorem dL_law_793 : decode cL_law 793 = .ok (.iconst 2, 1) := by decide +kernel
theorem dL_law_794 : decode cL_law 794 = .ok (.iadd, 1) := by decide +kernel
theorem dL_law_795 : decode cL_law 795 = .ok (.iaload, 1) := by decide +kernel
theorem dL_law_796 : decode cL_law 796 = .ok (.aload_n 0, 1) := by decide +kernel
theorem dL_law_797 : decode cL_law 797 = .ok (.iload_n 3, 1) := by decide +kernel
theorem dL_law_798 : decode cL_law 798 = .ok (.iconst 3, 1) := by decide +kernel
theorem dL_law_799 : decode cL_law 799 = .ok (.iadd, 1) := by decide +kernel
theorem dL_law_800 : decode cL_law 800 = .ok (.iaload, 1) := by decide +kernel
theorem dL_law_801 : decode cL_law 801 = .ok (.aload_n 0, 1) := by decide +kernel
theorem dL_law_802 : decode cL_law 802 = .ok (.iload_n 3, 1) := by decide +kernel
theorem dL_law_803 : decode cL_law 803 = .ok (.iconst 4, 1) := by decide +kernel
theorem dL_law_804 : decode cL_law 804 = .ok (.iadd, 1) := by decide +kernel
theorem dL_law_805 : decode cL_law 805 = .ok (.iaload, 1) := by decide +kernel
theorem dL_law_806 : decode cL_law 806 = .ok (.aload_n 0, 1) := by decide +kernel
theorem dL_law_807 : decode cL_law 807 = .ok (.iload_n 3, 1) := by decide +kernel
theorem dL_law_808 : decode cL_law 808 = .ok (.iconst 5, 1) := by decide +kernel
theorem dL_law_809 : decode cL_law 809 = .ok (.iadd, 1) := by decide +kernel
theorem dL_law_810 : decode cL_law 810 = .ok (.iaload, 1) := by decide +kernel
theorem dL_law_811 : decode cL_law 811 = .ok (.i2l, 1) := by decide +kernel
theorem dL_law_812 : decode cL_law 812 = .ok (.bipush 32, 2) := by decide +kernel
theorem dL_law_814 : decode cL_law 814 = .ok (.lshl, 1) := by decide +kernel
theorem dL_law_815 : decode cL_law 815 = .ok (.aload_n 0, 1) := by decide +kernel
theorem dL_law_816 : decode cL_law 816 = .ok (.iload_n 3, 1) := by decide +kernel
theorem dL_law_817 : decode cL_law 817 = .ok (.bipush 6, 2) := by decide +kernel
theorem dL_law_819 : decode cL_law 819 = .ok (.iadd, 1) := by decide +kernel
theorem dL_law_820 : decode cL_law 820 = .ok (.iaload, 1) := by decide +kernel
theorem dL_law_821 : decode cL_law 821 = .ok (.i2l, 1) := by decide +kernel
theorem dL_law_822 : decode cL_law 822 = .ok (.ldc2_w 60, 3) := by decide +kernel
theorem dL_law_825 : decode cL_law 825 = .ok (.land, 1) := by decide +kernel
theorem dL_law_826 : decode cL_law 826 = .ok (.lor, 1) := by decide +kernel
theorem dL_law_827 : decode cL_law 827 = .ok (.invokevirtual 108, 3) := by decide +kernel
theorem dL_law_830 : decode cL_law 830 = .ok (.if_icmp .eq 101, 3) := by decide +kernel
theorem dL_law_835 : decode cL_law 835 = .ok (.aload_n 1, 1) := by decide +kernel
theorem dL_law_836 : decode cL_law 836 = .ok (.aload_n 0, 1) := by decide +kernel
theorem dL_law_837 : decode cL_law 837 = .ok (.iload_n 3, 1) := by decide +kernel
theorem dL_law_838 : decode cL_law 838 = .ok (.iconst 1, 1) := by decide +kernel
theorem dL_law_839 : decode cL_law 839 = .ok (.iadd, 1) := by decide +kernel
theorem dL_law_840 : decode cL_law 840 = .ok (.iaload, 1) := by decide +kernel
theorem dL_law_841 : decode cL_law 841 = .ok (.aload_n 0, 1) := by decide +kernel
theorem dL_law_842 : decode cL_law 842 = .ok (.iload_n 3, 1) := by decide +kernel
theorem dL_law_843 : decode cL_law 843 = .ok (.iconst 2, 1) := by decide +kernel
theorem dL_law_844 : decode cL_law 844 = .ok (.iadd, 1) := by decide +kernel
theorem dL_law_845 : decode cL_law 845 = .ok (.iaload, 1) := by decide +kernel
theorem dL_law_846 : decode cL_law 846 = .ok (.aload_n 0, 1) := by decide +kernel
theorem dL_law_847 : decode cL_law 847 = .ok (.iload_n 3, 1) := by decide +kernel
theorem dL_law_848 : decode cL_law 848 = .ok (.iconst 3, 1) := by decide +kernel
theorem dL_law_849 : decode cL_law 849 = .ok (.iadd, 1) := by decide +kernel
theorem dL_law_850 : decode cL_law 850 = .ok (.iaload, 1) := by decide +kernel
theorem dL_law_851 : decode cL_law 851 = .ok (.i2l, 1) := by decide +kernel
theorem dL_law_852 : decode cL_law 852 = .ok (.bipush 32, 2) := by decide +kernel
theorem dL_law_854 : decode cL_law 854 = .ok (.lshl, 1) := by decide +kernel
theorem dL_law_855 : decode cL_law 855 = .ok (.aload_n 0, 1) := by decide +kernel
theorem dL_law_856 : decode cL_law 856 = .ok (.iload_n 3, 1) := by decide +kernel
theorem dL_law_857 : decode cL_law 857 = .ok (.iconst 4, 1) := by decide +kernel
theorem dL_law_858 : decode cL_law 858 = .ok (.iadd, 1) := by decide +kernel
theorem dL_law_859 : decode cL_law 859 = .ok (.iaload, 1) := by decide +kernel
theorem dL_law_860 : decode cL_law 860 = .ok (.i2l, 1) := by decide +kernel
theorem dL_law_861 : decode cL_law 861 = .ok (.ldc2_w 60, 3) := by decide +kernel
theorem dL_law_864 : decode cL_law 864 = .ok (.land, 1) := by decide +kernel
theorem dL_law_865 : decode cL_law 865 = .ok (.lor, 1) := by decide +kernel
theorem dL_law_866 : decode cL_law 866 = .ok (.invokevirtual 109, 3) := by decide +kernel
theorem dL_law_869 : decode cL_law 869 = .ok (.aload_n 2, 1) := by decide +kernel
theorem dL_law_870 : decode cL_law 870 = .ok (.aload_n 0, 1) := by decide +kernel
theorem dL_law_871 : decode cL_law 871 = .ok (.iload_n 3, 1) := by decide +kernel
theorem dL_law_872 : decode cL_law 872 = .ok (.iconst 1, 1) := by decide +kernel
theorem dL_law_873 : decode cL_law 873 = .ok (.iadd, 1) := by decide +kernel
theorem dL_law_874 : decode cL_law 874 = .ok (.iaload, 1) := by decide +kernel
theorem dL_law_875 : decode cL_law 875 = .ok (.aload_n 0, 1) := by decide +kernel
theorem dL_law_876 : decode cL_law 876 = .ok (.iload_n 3, 1) := by decide +kernel
theorem dL_law_877 : decode cL_law 877 = .ok (.iconst 2, 1) := by decide +kernel
theorem dL_law_878 : decode cL_law 878 = .ok (.iadd, 1) := by decide +kernel
theorem dL_law_879 : decode cL_law 879 = .ok (.iaload, 1) := by decide +kernel
theorem dL_law_880 : decode cL_law 880 = .ok (.aload_n 0, 1) := by decide +kernel
theorem dL_law_881 : decode cL_law 881 = .ok (.iload_n 3, 1) := by decide +kernel
theorem dL_law_882 : decode cL_law 882 = .ok (.iconst 3, 1) := by decide +kernel
theorem dL_law_883 : decode cL_law 883 = .ok (.iadd, 1) := by decide +kernel
theorem dL_law_884 : decode cL_law 884 = .ok (.iaload, 1) := by decide +kernel
theorem dL_law_885 : decode cL_law 885 = .ok (.i2l, 1) := by decide +kernel
theorem dL_law_886 : decode cL_law 886 = .ok (.bipush 32, 2) := by decide +kernel
theorem dL_law_888 : decode cL_law 888 = .ok (.lshl, 1) := by decide +kernel
theorem dL_law_889 : decode cL_law 889 = .ok (.aload_n 0, 1) := by decide +kernel
theorem dL_law_890 : decode cL_law 890 = .ok (.iload_n 3, 1) := by decide +kernel
theorem dL_law_891 : decode cL_law 891 = .ok (.iconst 4, 1) := by decide +kernel
theorem dL_law_892 : decode cL_law 892 = .ok (.iadd, 1) := by decide +kernel
theorem dL_law_893 : decode cL_law 893 = .ok (.iaload, 1) := by decide +kernel
theorem dL_law_894 : decode cL_law 894 = .ok (.i2l, 1) := by decide +kernel
theorem dL_law_895 : decode cL_law 895 = .ok (.ldc2_w 60, 3) := by decide +kernel
theorem dL_law_898 : decode cL_law 898 = .ok (.land, 1) := by decide +kernel
theorem dL_law_899 : decode cL_law 899 = .ok (.lor, 1) := by decide +kernel
theorem dL_law_900 : decode cL_law 900 = .ok (.invokevirtual 113, 3) := by decide +kernel
theorem dL_law_903 : decode cL_law 903 = .ok (.if_icmp .eq 28, 3) := by decide +kernel
theorem dL_law_908 : decode cL_law 908 = .ok (.aload_n 1, 1) := by decide +kernel
theorem dL_law_909 : decode cL_law 909 = .ok (.aload_n 0, 1) := by decide +kernel
theorem dL_law_910 : decode cL_law 910 = .ok (.iload_n 3, 1) := by decide +kernel
theorem dL_law_911 : decode cL_law 911 = .ok (.iconst 1, 1) := by decide +kernel
theorem dL_law_912 : decode cL_law 912 = .ok (.iadd, 1) := by decide +kernel
theorem dL_law_913 : decode cL_law 913 = .ok (.iaload, 1) := by decide +kernel
theorem dL_law_914 : decode cL_law 914 = .ok (.invokevirtual 114, 3) := by decide +kernel
theorem dL_law_917 : decode cL_law 917 = .ok (.aload_n 2, 1) := by decide +kernel
theorem dL_law_918 : decode cL_law 918 = .ok (.aload_n 0, 1) := by decide +kernel
theorem dL_law_919 : decode cL_law 919 = .ok (.iload_n 3, 1) := by decide +kernel
theorem dL_law_920 : decode cL_law 920 = .ok (.iconst 1, 1) := by decide +kernel
theorem dL_law_921 : decode cL_law 921 = .ok (.iadd, 1) := by decide +kernel
theorem dL_law_922 : decode cL_law 922 = .ok (.iaload, 1) := by decide +kernel
theorem dL_law_923 : decode cL_law 923 = .ok (.invokevirtual 117, 3) := by decide +kernel
theorem dL_law_926 : decode cL_law 926 = .ok (.if_icmp .eq 5, 3) := by decide +kernel
theorem dL_law_931 : decode cL_law 931 = .ok (.iinc 3 7, 3) := by decide +kernel
theorem dL_law_934 : decode cL_law 934 = .ok (.goto (-916), 3) := by decide +kernel
theorem dL_law_937 : decode cL_law 937 = .ok (.iconst 1, 1) := by decide +kernel
theorem dL_law_938 : decode cL_law 938 = .ok (.ireturn, 1) := by decide +kernel
theorem dX0_init_0 : decode cX0_init 0 = .ok (.aload_n 0, 1) := by decide +kernel
theorem dX0_init_1 : decode cX0_init 1 = .ok (.invokespecial 3, 3) := by decide +kernel
theorem dX0_init_4 : decode cX0_init 4 = .ok (.aload_n 0, 1) := by decide +kernel
theorem dX0_init_5 : decode cX0_init 5 = .ok (.iconst 0, 1) := by decide +kernel
theorem dX0_init_6 : decode cX0_init 6 = .ok (.putfield 9, 3) := by decide +kernel
theorem dX0_init_9 : decode cX0_init 9 = .ok (.aload_n 0, 1) := by decide +kernel
theorem dX0_init_10 : decode cX0_init 10 = .ok (.iconst 0, 1) := by decide +kernel
theorem dX0_init_11 : decode cX0_init 11 = .ok (.putfield 15, 3) := by decide +kernel
theorem dX0_init_14 : decode cX0_init 14 = .ok (.aload_n 0, 1) := by decide +kernel
theorem dX0_init_15 : decode cX0_init 15 = .ok (.bipush 20, 2) := by decide +kernel
theorem dX0_init_17 : decode cX0_init 17 = .ok (.newarray .int, 2) := by decide +kernel
theorem dX0_init_19 : decode cX0_init 19 = .ok (.putfield 18, 3) := by decide +kernel
theorem dX0_init_22 : decode cX0_init 22 = .ok (.aload_n 0, 1) := by decide +kernel
theorem dX0_init_23 : decode cX0_init 23 = .ok (.bipush 20, 2) := by decide +kernel
theorem dX0_init_25 : decode cX0_init 25 = .ok (.newarray .int, 2) := by decide +kernel
theorem dX0_init_27 : decode cX0_init 27 = .ok (.putfield 22, 3) := by decide +kernel
theorem dX0_init_30 : decode cX0_init 30 = .ok (.aload_n 0, 1) := by decide +kernel
theorem dX0_init_31 : decode cX0_init 31 = .ok (.bipush 20, 2) := by decide +kernel
theorem dX0_init_33 : decode cX0_init 33 = .ok (.newarray .int, 2) := by decide +kernel
theorem dX0_init_35 : decode cX0_init 35 = .ok (.putfield 25, 3) := by decide +kernel
theorem dX0_init_38 : decode cX0_init 38 = .ok (.return_, 1) := by decide +kernel
theorem dX10_at_0 : decode cX10_at 0 = .ok (.iconst 0, 1) := by decide +kernel
theorem dX10_at_1 : decode cX10_at 1 = .ok (.istore_n 2, 1) := by decide +kernel
theorem dX10_at_2 : decode cX10_at 2 = .ok (.iload_n 2, 1) := by decide +kernel
theorem dX10_at_3 : decode cX10_at 3 = .ok (.aload_n 0, 1) := by decide +kernel
theorem dX10_at_4 : decode cX10_at 4 = .ok (.getfield 123, 3) := by decide +kernel
theorem dX10_at_7 : decode cX10_at 7 = .ok (.if_icmp .ge 46, 3) := by decide +kernel
theorem dX10_at_53 : decode cX10_at 53 = .ok (.iconst (-1), 1) := by decide +kernel
theorem dX10_at_54 : decode cX10_at 54 = .ok (.ireturn, 1) := by decide +kernel
theorem dX10_attempt_0 : decode cX10_attempt 0 = .ok (.aload_n 0, 1) := by decide +kernel
theorem dX10_attempt_1 : decode cX10_attempt 1 = .ok (.iload_n 1, 1) := by decide +kernel
theorem dX10_attempt_2 : decode cX10_attempt 2 = .ok (.iload_n 2, 1) := by decide +kernel
theorem dX10_attempt_3 : decode cX10_attempt 3 = .ok (.invokevirtual 271, 3) := by decide +kernel
theorem dX10_attempt_6 : decode cX10_attempt 6 = .ok (.ifCond .eq 32, 3) := by decide +kernel
theorem dX10_attempt_9 : decode cX10_attempt 9 = .ok (.iload_n 3, 1) := by decide +kernel
theorem dX10_attempt_10 : decode cX10_attempt 10 = .ok (.iconst 0, 1) := by decide +kernel
theorem dX10_attempt_11 : decode cX10_attempt 11 = .ok (.aload_n 0, 1) := by decide +kernel
theorem dX10_attempt_12 : decode cX10_attempt 12 = .ok (.getfield 174, 3) := by decide +kernel
theorem dX10_attempt_15 : decode cX10_attempt 15 = .ok (.iconst 1, 1) := by decide +kernel
theorem dX10_attempt_16 : decode cX10_attempt 16 = .ok (.isub, 1) := by decide +kernel
theorem dX10_attempt_17 : decode cX10_attempt 17 = .ok (.invokestatic 126, 3) := by decide +kernel
theorem dX10_attempt_20 : decode cX10_attempt 20 = .ok (.ifCond .eq 18, 3) := by decide +kernel
theorem dX10_attempt_38 : decode cX10_attempt 38 = .ok (.iconst (-1), 1) := by decide +kernel
theorem dX10_attempt_39 : decode cX10_attempt 39 = .ok (.ireturn, 1) := by decide +kernel
theorem dX10_best_0 : decode cX10_best 0 = .ok (.aload_n 0, 1) := by decide +kernel
theorem dX10_best_1 : decode cX10_best 1 = .ok (.iload_n 1, 1) := by decide +kernel
theorem dX10_best_2 : decode cX10_best 2 = .ok (.iload_n 2, 1) := by decide +kernel
theorem dX10_best_3 : decode cX10_best 3 = .ok (.invokevirtual 271, 3) := by decide +kernel
theorem dX10_best_6 : decode cX10_best 6 = .ok (.ifCond .ne 5, 3) := by decide +kernel
theorem dX10_best_9 : decode cX10_best 9 = .ok (.iconst (-1), 1) := by decide +kernel
theorem dX10_best_10 : decode cX10_best 10 = .ok (.ireturn, 1) := by decide +kernel
theorem dX10_best_11 : decode cX10_best 11 = .ok (.iconst (-1), 1) := by decide +kernel
theorem dX10_best_12 : decode cX10_best 12 = .ok (.istore 5, 2) := by decide +kernel
theorem dX10_best_14 : decode cX10_best 14 = .ok (.iconst (-1), 1) := by decide +kernel
theorem dX10_best_15 : decode cX10_best 15 = .ok (.istore 6, 2) := by decide +kernel
theorem dX10_best_17 : decode cX10_best 17 = .ok (.iconst 0, 1) := by decide +kernel
theorem dX10_best_18 : decode cX10_best 18 = .ok (.istore 7, 2) := by decide +kernel
theorem dX10_best_20 : decode cX10_best 20 = .ok (.iload 7, 2) := by decide +kernel
theorem dX10_best_22 : decode cX10_best 22 = .ok (.aload_n 0, 1) := by decide +kernel
theorem dX10_best_23 : decode cX10_best 23 = .ok (.getfield 174, 3) := by decide +kernel
theorem dX10_best_26 : decode cX10_best 26 = .ok (.if_icmp .ge 73, 3) := by decide +kernel
theorem dX10_best_99 : decode cX10_best 99 = .ok (.iload 6, 2) := by decide +kernel
theorem dX10_best_101 : decode cX10_best 101 = .ok (.ireturn, 1) := by decide +kernel
theorem dX10_byteOf_0 : decode cX10_byteOf 0 = .ok (.iload 5, 2) := by decide +kernel
theorem dX10_byteOf_2 : decode cX10_byteOf 2 = .ok (.iconst 4, 1) := by decide +kernel
theorem dX10_byteOf_3 : decode cX10_byteOf 3 = .ok (.if_icmp .ge 7, 3) := by decide +kernel
theorem dX10_byteOf_6 : decode cX10_byteOf 6 = .ok (.iload_n 0, 1) := by decide +kernel
theorem dX10_byteOf_7 : decode cX10_byteOf 7 = .ok (.goto 38, 3) := by decide +kernel
theorem dX10_byteOf_10 : decode cX10_byteOf 10 = .ok (.iload 5, 2) := by decide +kernel
theorem dX10_byteOf_12 : decode cX10_byteOf 12 = .ok (.bipush 8, 2) := by decide +kernel
theorem dX10_byteOf_14 : decode cX10_byteOf 14 = .ok (.if_icmp .ge 7, 3) := by decide +kernel
theorem dX10_byteOf_17 : decode cX10_byteOf 17 = .ok (.iload_n 1, 1) := by decide +kernel
theorem dX10_byteOf_18 : decode cX10_byteOf 18 = .ok (.goto 27, 3) := by decide +kernel
theorem dX10_byteOf_21 : decode cX10_byteOf 21 = .ok (.iload 5, 2) := by decide +kernel
theorem dX10_byteOf_23 : decode cX10_byteOf 23 = .ok (.bipush 12, 2) := by decide +kernel
theorem dX10_byteOf_25 : decode cX10_byteOf 25 = .ok (.if_icmp .ge 7, 3) := by decide +kernel
theorem dX10_byteOf_28 : decode cX10_byteOf 28 = .ok (.iload_n 2, 1) := by decide +kernel
theorem dX10_byteOf_29 : decode cX10_byteOf 29 = .ok (.goto 16, 3) := by decide +kernel
theorem dX10_byteOf_32 : decode cX10_byteOf 32 = .ok (.iload 5, 2) := by decide +kernel
theorem dX10_byteOf_34 : decode cX10_byteOf 34 = .ok (.bipush 16, 2) := by decide +kernel
theorem dX10_byteOf_36 : decode cX10_byteOf 36 = .ok (.if_icmp .ge 7, 3) := by decide +kernel
theorem dX10_byteOf_39 : decode cX10_byteOf 39 = .ok (.iload_n 3, 1) := by decide +kernel
theorem dX10_byteOf_40 : decode cX10_byteOf 40 = .ok (.goto 5, 3) := by decide +kernel
theorem dX10_byteOf_43 : decode cX10_byteOf 43 = .ok (.iload 4, 2) := by decide +kernel
theorem dX10_byteOf_45 : decode cX10_byteOf 45 = .ok (.istore 6, 2) := by decide +kernel
theorem dX10_byteOf_47 : decode cX10_byteOf 47 = .ok (.iload 6, 2) := by decide +kernel
theorem dX10_byteOf_49 : decode cX10_byteOf 49 = .ok (.bipush 24, 2) := by decide +kernel
theorem dX10_byteOf_51 : decode cX10_byteOf 51 = .ok (.bipush 8, 2) := by decide +kernel
theorem dX10_byteOf_53 : decode cX10_byteOf 53 = .ok (.iload 5, 2) := by decide +kernel
theorem dX10_byteOf_55 : decode cX10_byteOf 55 = .ok (.iconst 4, 1) := by decide +kernel
theorem dX10_byteOf_56 : decode cX10_byteOf 56 = .ok (.irem, 1) := by decide +kernel
theorem dX10_byteOf_57 : decode cX10_byteOf 57 = .ok (.imul, 1) := by decide +kernel
theorem dX10_byteOf_58 : decode cX10_byteOf 58 = .ok (.isub, 1) := by decide +kernel
theorem dX10_byteOf_59 : decode cX10_byteOf 59 = .ok (.ishr, 1) := by decide +kernel
theorem dX10_byteOf_60 : decode cX10_byteOf 60 = .ok (.sipush 255, 3) := by decide +kernel
theorem dX10_byteOf_63 : decode cX10_byteOf 63 = .ok (.iand, 1) := by decide +kernel
theorem dX10_byteOf_64 : decode cX10_byteOf 64 = .ok (.ireturn, 1) := by decide +kernel
theorem dX10_choice_0 : decode cX10_choice 0 = .ok (.aload_n 0, 1) := by decide +kernel
theorem dX10_choice_1 : decode cX10_choice 1 = .ok (.getfield 174, 3) := by decide +kernel
theorem dX10_choice_4 : decode cX10_choice 4 = .ok (.iconst 4, 1) := by decide +kernel
theorem dX10_choice_5 : decode cX10_choice 5 = .ok (.if_icmp .eq 11, 3) := by decide +kernel
theorem dX10_choice_8 : decode cX10_choice 8 = .ok (.aload_n 0, 1) := by decide +kernel
theorem dX10_choice_9 : decode cX10_choice 9 = .ok (.invokevirtual 167, 3) := by decide +kernel
theorem dX10_choice_12 : decode cX10_choice 12 = .ok (.iconst (-1), 1) := by decide +kernel
theorem dX10_choice_13 : decode cX10_choice 13 = .ok (.if_icmp .eq 5, 3) := by decide +kernel
theorem dX10_choice_18 : decode cX10_choice 18 = .ok (.aload_n 0, 1) := by decide +kernel
theorem dX10_choice_19 : decode cX10_choice 19 = .ok (.iconst 5, 1) := by decide +kernel
theorem dX10_choice_20 : decode cX10_choice 20 = .ok (.aload_n 0, 1) := by decide +kernel
theorem dX10_choice_21 : decode cX10_choice 21 = .ok (.getfield 174, 3) := by decide +kernel
theorem dX10_choice_24 : decode cX10_choice 24 = .ok (.iadd, 1) := by decide +kernel
theorem dX10_choice_25 : decode cX10_choice 25 = .ok (.invokevirtual 170, 3) := by decide +kernel
theorem dX10_choice_28 : decode cX10_choice 28 = .ok (.aload_n 0, 1) := by decide +kernel
theorem dX10_choice_29 : decode cX10_choice 29 = .ok (.dup, 1) := by decide +kernel
theorem dX10_choice_30 : decode cX10_choice 30 = .ok (.getfield 174, 3) := by decide +kernel
theorem dX10_choice_33 : decode cX10_choice 33 = .ok (.iconst 1, 1) := by decide +kernel
theorem dX10_choice_34 : decode cX10_choice 34 = .ok (.iadd, 1) := by decide +kernel
theorem dX10_choice_35 : decode cX10_choice 35 = .ok (.putfield 174, 3) := by decide +kernel
theorem dX10_choice_38 : decode cX10_choice 38 = .ok (.aload_n 0, 1) := by decide +kernel
theorem dX10_choice_39 : decode cX10_choice 39 = .ok (.getfield 174, 3) := by decide +kernel
theorem dX10_choice_42 : decode cX10_choice 42 = .ok (.iconst 1, 1) := by decide +kernel
theorem dX10_choice_43 : decode cX10_choice 43 = .ok (.isub, 1) := by decide +kernel
theorem dX10_choice_44 : decode cX10_choice 44 = .ok (.ireturn, 1) := by decide +kernel
theorem dX10_count_0 : decode cX10_count 0 = .ok (.iconst 0, 1) := by decide +kernel
theorem dX10_count_1 : decode cX10_count 1 = .ok (.istore_n 2, 1) := by decide +kernel
theorem dX10_count_2 : decode cX10_count 2 = .ok (.iconst 0, 1) := by decide +kernel
theorem dX10_count_3 : decode cX10_count 3 = .ok (.istore_n 3, 1) := by decide +kernel
theorem dX10_count_4 : decode cX10_count 4 = .ok (.iload_n 3, 1) := by decide +kernel
theorem dX10_count_5 : decode cX10_count 5 = .ok (.aload_n 0, 1) := by decide +kernel
theorem dX10_count_6 : decode cX10_count 6 = .ok (.getfield 123, 3) := by decide +kernel
theorem dX10_count_9 : decode cX10_count 9 = .ok (.if_icmp .ge 26, 3) := by decide +kernel
theorem dX10_count_35 : decode cX10_count 35 = .ok (.iload_n 1, 1) := by decide +kernel
theorem dX10_count_36 : decode cX10_count 36 = .ok (.tableswitch 96 0 7 #[48, 53, 58, 63, 68, 73, 78, 80], 48) := by decide +kernel
theorem dX10_count_84 : decode cX10_count 84 = .ok (.aload_n 0, 1) := by decide +kernel
theorem dX10_count_85 : decode cX10_count 85 = .ok (.getfield 123, 3) := by decide +kernel
theorem dX10_count_88 : decode cX10_count 88 = .ok (.ireturn, 1) := by decide +kernel
theorem dX10_count_89 : decode cX10_count 89 = .ok (.aload_n 0, 1) := by decide +kernel
theorem dX10_count_90 : decode cX10_count 90 = .ok (.getfield 9, 3) := by decide +kernel
theorem dX10_count_93 : decode cX10_count 93 = .ok (.ireturn, 1) := by decide +kernel
theorem dX10_count_94 : decode cX10_count 94 = .ok (.aload_n 0, 1) := by decide +kernel
theorem dX10_count_95 : decode cX10_count 95 = .ok (.getfield 133, 3) := by decide +kernel
theorem dX10_count_98 : decode cX10_count 98 = .ok (.ireturn, 1) := by decide +kernel
theorem dX10_count_99 : decode cX10_count 99 = .ok (.aload_n 0, 1) := by decide +kernel
theorem dX10_count_100 : decode cX10_count 100 = .ok (.getfield 130, 3) := by decide +kernel
theorem dX10_count_103 : decode cX10_count 103 = .ok (.ireturn, 1) := by decide +kernel
theorem dX10_count_104 : decode cX10_count 104 = .ok (.aload_n 0, 1) := by decide +kernel
theorem dX10_count_105 : decode cX10_count 105 = .ok (.getfield 174, 3) := by decide +kernel
theorem dX10_count_108 : decode cX10_count 108 = .ok (.ireturn, 1) := by decide +kernel
theorem dX10_count_109 : decode cX10_count 109 = .ok (.aload_n 0, 1) := by decide +kernel
theorem dX10_count_110 : decode cX10_count 110 = .ok (.getfield 147, 3) := by decide +kernel
theorem dX10_count_113 : decode cX10_count 113 = .ok (.ireturn, 1) := by decide +kernel
theorem dX10_count_114 : decode cX10_count 114 = .ok (.iload_n 2, 1) := by decide +kernel
theorem dX10_count_115 : decode cX10_count 115 = .ok (.ireturn, 1) := by decide +kernel
theorem dX10_count_116 : decode cX10_count 116 = .ok (.aload_n 0, 1) := by decide +kernel
theorem dX10_count_117 : decode cX10_count 117 = .ok (.getfield 243, 3) := by decide +kernel
theorem dX10_count_120 : decode cX10_count 120 = .ok (.ifCond .eq 10, 3) := by decide +kernel
theorem dX10_count_130 : decode cX10_count 130 = .ok (.iconst (-1), 1) := by decide +kernel
theorem dX10_count_131 : decode cX10_count 131 = .ok (.ireturn, 1) := by decide +kernel
theorem dX10_count_132 : decode cX10_count 132 = .ok (.iconst (-1), 1) := by decide +kernel
theorem dX10_count_133 : decode cX10_count 133 = .ok (.ireturn, 1) := by decide +kernel
theorem dX10_crash_0 : decode cX10_crash 0 = .ok (.aload_n 0, 1) := by decide +kernel
theorem dX10_crash_1 : decode cX10_crash 1 = .ok (.iload_n 1, 1) := by decide +kernel
theorem dX10_crash_2 : decode cX10_crash 2 = .ok (.invokevirtual 136, 3) := by decide +kernel
theorem dX10_crash_5 : decode cX10_crash 5 = .ok (.ifCond .eq 13, 3) := by decide +kernel
theorem dX10_crash_8 : decode cX10_crash 8 = .ok (.iload_n 2, 1) := by decide +kernel
theorem dX10_crash_9 : decode cX10_crash 9 = .ok (.iconst 0, 1) := by decide +kernel
theorem dX10_crash_10 : decode cX10_crash 10 = .ok (.bipush 100, 2) := by decide +kernel
theorem dX10_crash_12 : decode cX10_crash 12 = .ok (.invokestatic 126, 3) := by decide +kernel
theorem dX10_crash_15 : decode cX10_crash 15 = .ok (.ifCond .ne 5, 3) := by decide +kernel
theorem dX10_crash_18 : decode cX10_crash 18 = .ok (.iconst 0, 1) := by decide +kernel
theorem dX10_crash_19 : decode cX10_crash 19 = .ok (.ireturn, 1) := by decide +kernel
theorem dX10_crash_20 : decode cX10_crash 20 = .ok (.aload_n 0, 1) := by decide +kernel
theorem dX10_crash_21 : decode cX10_crash 21 = .ok (.iload_n 1, 1) := by decide +kernel
theorem dX10_crash_22 : decode cX10_crash 22 = .ok (.putfield 13, 3) := by decide +kernel
theorem dX10_crash_25 : decode cX10_crash 25 = .ok (.aload_n 0, 1) := by decide +kernel
theorem dX10_crash_26 : decode cX10_crash 26 = .ok (.iload_n 2, 1) := by decide +kernel
theorem dX10_crash_27 : decode cX10_crash 27 = .ok (.putfield 140, 3) := by decide +kernel
theorem dX10_crash_30 : decode cX10_crash 30 = .ok (.iconst 1, 1) := by decide +kernel
theorem dX10_crash_31 : decode cX10_crash 31 = .ok (.ireturn, 1) := by decide +kernel
theorem dX10_end_0 : decode cX10_end 0 = .ok (.iload_n 1, 1) := by decide +kernel
theorem dX10_end_1 : decode cX10_end 1 = .ok (.ifCond .lt 11, 3) := by decide +kernel
theorem dX10_end_4 : decode cX10_end 4 = .ok (.iload_n 1, 1) := by decide +kernel
theorem dX10_end_5 : decode cX10_end 5 = .ok (.aload_n 0, 1) := by decide +kernel
theorem dX10_end_6 : decode cX10_end 6 = .ok (.getfield 147, 3) := by decide +kernel
theorem dX10_end_9 : decode cX10_end 9 = .ok (.if_icmp .le 5, 3) := by decide +kernel
theorem dX10_end_12 : decode cX10_end 12 = .ok (.iconst 0, 1) := by decide +kernel
theorem dX10_end_13 : decode cX10_end 13 = .ok (.ireturn, 1) := by decide +kernel
theorem dX10_end_14 : decode cX10_end 14 = .ok (.aload_n 0, 1) := by decide +kernel
theorem dX10_end_15 : decode cX10_end 15 = .ok (.iload_n 1, 1) := by decide +kernel
theorem dX10_end_16 : decode cX10_end 16 = .ok (.putfield 147, 3) := by decide +kernel
theorem dX10_end_19 : decode cX10_end 19 = .ok (.iconst 1, 1) := by decide +kernel
theorem dX10_end_20 : decode cX10_end 20 = .ok (.ireturn, 1) := by decide +kernel
theorem dX10_fault_0 : decode cX10_fault 0 = .ok (.aload_n 0, 1) := by decide +kernel
theorem dX10_fault_1 : decode cX10_fault 1 = .ok (.iconst 0, 1) := by decide +kernel
theorem dX10_fault_2 : decode cX10_fault 2 = .ok (.putfield 150, 3) := by decide +kernel
theorem dX10_fault_5 : decode cX10_fault 5 = .ok (.aload_n 0, 1) := by decide +kernel
theorem dX10_fault_6 : decode cX10_fault 6 = .ok (.iconst 0, 1) := by decide +kernel
theorem dX10_fault_7 : decode cX10_fault 7 = .ok (.putfield 160, 3) := by decide +kernel
theorem dX10_fault_10 : decode cX10_fault 10 = .ok (.aload_n 0, 1) := by decide +kernel
theorem dX10_fault_11 : decode cX10_fault 11 = .ok (.invokevirtual 153, 3) := by decide +kernel
theorem dX10_fault_14 : decode cX10_fault 14 = .ok (.iconst (-1), 1) := by decide +kernel
theorem dX10_fault_15 : decode cX10_fault 15 = .ok (.if_icmp .ne 5, 3) := by decide +kernel
theorem dX10_fault_18 : decode cX10_fault 18 = .ok (.iconst (-1), 1) := by decide +kernel
theorem dX10_fault_19 : decode cX10_fault 19 = .ok (.ireturn, 1) := by decide +kernel
theorem dX10_feed_0 : decode cX10_feed 0 = .ok (.iconst 0, 1) := by decide +kernel
theorem dX10_feed_1 : decode cX10_feed 1 = .ok (.istore 6, 2) := by decide +kernel
theorem dX10_feed_3 : decode cX10_feed 3 = .ok (.iconst 0, 1) := by decide +kernel
theorem dX10_feed_4 : decode cX10_feed 4 = .ok (.istore 7, 2) := by decide +kernel
theorem dX10_feed_6 : decode cX10_feed 6 = .ok (.iload 7, 2) := by decide +kernel
theorem dX10_feed_8 : decode cX10_feed 8 = .ok (.bipush 20, 2) := by decide +kernel
theorem dX10_feed_10 : decode cX10_feed 10 = .ok (.if_icmp .ge 34, 3) := by decide +kernel
theorem dX10_feed_13 : decode cX10_feed 13 = .ok (.iload 6, 2) := by decide +kernel
theorem dX10_feed_15 : decode cX10_feed 15 = .ok (.iload_n 1, 1) := by decide +kernel
theorem dX10_feed_16 : decode cX10_feed 16 = .ok (.iload_n 2, 1) := by decide +kernel
theorem dX10_feed_17 : decode cX10_feed 17 = .ok (.iload_n 3, 1) := by decide +kernel
theorem dX10_feed_18 : decode cX10_feed 18 = .ok (.iload 4, 2) := by decide +kernel
theorem dX10_feed_20 : decode cX10_feed 20 = .ok (.iload 5, 2) := by decide +kernel
theorem dX10_feed_22 : decode cX10_feed 22 = .ok (.iload 7, 2) := by decide +kernel
theorem dX10_feed_24 : decode cX10_feed 24 = .ok (.invokestatic 143, 3) := by decide +kernel
theorem dX10_feed_27 : decode cX10_feed 27 = .ok (.ifCond .eq 7, 3) := by decide +kernel
theorem dX10_feed_30 : decode cX10_feed 30 = .ok (.iconst 1, 1) := by decide +kernel
theorem dX10_feed_31 : decode cX10_feed 31 = .ok (.goto 4, 3) := by decide +kernel
theorem dX10_feed_34 : decode cX10_feed 34 = .ok (.iconst 0, 1) := by decide +kernel
theorem dX10_feed_35 : decode cX10_feed 35 = .ok (.iadd, 1) := by decide +kernel
theorem dX10_feed_36 : decode cX10_feed 36 = .ok (.istore 6, 2) := by decide +kernel
theorem dX10_feed_38 : decode cX10_feed 38 = .ok (.iinc 7 1, 3) := by decide +kernel
theorem dX10_feed_41 : decode cX10_feed 41 = .ok (.goto (-35), 3) := by decide +kernel
theorem dX10_feed_44 : decode cX10_feed 44 = .ok (.aload_n 0, 1) := by decide +kernel
theorem dX10_feed_45 : decode cX10_feed 45 = .ok (.getfield 147, 3) := by decide +kernel
theorem dX10_feed_48 : decode cX10_feed 48 = .ok (.iload 6, 2) := by decide +kernel
theorem dX10_feed_50 : decode cX10_feed 50 = .ok (.iadd, 1) := by decide +kernel
theorem dX10_feed_51 : decode cX10_feed 51 = .ok (.bipush 100, 2) := by decide +kernel
theorem dX10_feed_53 : decode cX10_feed 53 = .ok (.if_icmp .le 5, 3) := by decide +kernel
theorem dX10_feed_58 : decode cX10_feed 58 = .ok (.iconst 0, 1) := by decide +kernel
theorem dX10_feed_59 : decode cX10_feed 59 = .ok (.istore 7, 2) := by decide +kernel
theorem dX10_feed_61 : decode cX10_feed 61 = .ok (.iload 7, 2) := by decide +kernel
theorem dX10_feed_63 : decode cX10_feed 63 = .ok (.bipush 20, 2) := by decide +kernel
theorem dX10_feed_65 : decode cX10_feed 65 = .ok (.if_icmp .ge 49, 3) := by decide +kernel
theorem dX10_feed_68 : decode cX10_feed 68 = .ok (.iload_n 1, 1) := by decide +kernel
theorem dX10_feed_69 : decode cX10_feed 69 = .ok (.iload_n 2, 1) := by decide +kernel
theorem dX10_feed_70 : decode cX10_feed 70 = .ok (.iload_n 3, 1) := by decide +kernel
theorem dX10_feed_71 : decode cX10_feed 71 = .ok (.iload 4, 2) := by decide +kernel
theorem dX10_feed_73 : decode cX10_feed 73 = .ok (.iload 5, 2) := by decide +kernel
theorem dX10_feed_75 : decode cX10_feed 75 = .ok (.iload 7, 2) := by decide +kernel
theorem dX10_feed_77 : decode cX10_feed 77 = .ok (.invokestatic 143, 3) := by decide +kernel
theorem dX10_feed_80 : decode cX10_feed 80 = .ok (.istore 8, 2) := by decide +kernel
theorem dX10_feed_82 : decode cX10_feed 82 = .ok (.iload 8, 2) := by decide +kernel
theorem dX10_feed_84 : decode cX10_feed 84 = .ok (.ifCond .eq 24, 3) := by decide +kernel
theorem dX10_feed_87 : decode cX10_feed 87 = .ok (.aload_n 0, 1) := by decide +kernel
theorem dX10_feed_88 : decode cX10_feed 88 = .ok (.getfield 41, 3) := by decide +kernel
theorem dX10_feed_91 : decode cX10_feed 91 = .ok (.aload_n 0, 1) := by decide +kernel
theorem dX10_feed_92 : decode cX10_feed 92 = .ok (.getfield 147, 3) := by decide +kernel
theorem dX10_feed_95 : decode cX10_feed 95 = .ok (.iload 8, 2) := by decide +kernel
theorem dX10_feed_97 : decode cX10_feed 97 = .ok (.iastore, 1) := by decide +kernel
theorem dX10_feed_98 : decode cX10_feed 98 = .ok (.aload_n 0, 1) := by decide +kernel
theorem dX10_feed_99 : decode cX10_feed 99 = .ok (.dup, 1) := by decide +kernel
theorem dX10_feed_100 : decode cX10_feed 100 = .ok (.getfield 147, 3) := by decide +kernel
theorem dX10_feed_103 : decode cX10_feed 103 = .ok (.iconst 1, 1) := by decide +kernel
theorem dX10_feed_104 : decode cX10_feed 104 = .ok (.iadd, 1) := by decide +kernel
theorem dX10_feed_105 : decode cX10_feed 105 = .ok (.putfield 147, 3) := by decide +kernel
theorem dX10_feed_108 : decode cX10_feed 108 = .ok (.iinc 7 1, 3) := by decide +kernel
theorem dX10_feed_111 : decode cX10_feed 111 = .ok (.goto (-50), 3) := by decide +kernel
theorem dX10_feed_114 : decode cX10_feed 114 = .ok (.aload_n 0, 1) := by decide +kernel
theorem dX10_feed_115 : decode cX10_feed 115 = .ok (.getfield 147, 3) := by decide +kernel
theorem dX10_feed_118 : decode cX10_feed 118 = .ok (.ireturn, 1) := by decide +kernel
theorem dX10_groups_0 : decode cX10_groups 0 = .ok (.aload_n 0, 1) := by decide +kernel
theorem dX10_groups_1 : decode cX10_groups 1 = .ok (.getfield 243, 3) := by decide +kernel
theorem dX10_groups_4 : decode cX10_groups 4 = .ok (.ifCond .eq 24, 3) := by decide +kernel
theorem dX10_groups_28 : decode cX10_groups 28 = .ok (.iconst (-1), 1) := by decide +kernel
theorem dX10_groups_29 : decode cX10_groups 29 = .ok (.ireturn, 1) := by decide +kernel
theorem dX10_in_0 : decode cX10_in 0 = .ok (.iload_n 0, 1) := by decide +kernel
theorem dX10_in_1 : decode cX10_in 1 = .ok (.iload_n 1, 1) := by decide +kernel
theorem dX10_in_2 : decode cX10_in 2 = .ok (.if_icmp .lt 12, 3) := by decide +kernel
theorem dX10_in_5 : decode cX10_in 5 = .ok (.iload_n 0, 1) := by decide +kernel
theorem dX10_in_6 : decode cX10_in 6 = .ok (.iload_n 2, 1) := by decide +kernel
theorem dX10_in_7 : decode cX10_in 7 = .ok (.if_icmp .gt 7, 3) := by decide +kernel
theorem dX10_in_10 : decode cX10_in 10 = .ok (.iconst 1, 1) := by decide +kernel
theorem dX10_in_11 : decode cX10_in 11 = .ok (.goto 4, 3) := by decide +kernel
theorem dX10_in_14 : decode cX10_in 14 = .ok (.iconst 0, 1) := by decide +kernel
theorem dX10_in_15 : decode cX10_in 15 = .ok (.ireturn, 1) := by decide +kernel
theorem dX10_init_0 : decode cX10_init 0 = .ok (.aload_n 0, 1) := by decide +kernel
theorem dX10_init_1 : decode cX10_init 1 = .ok (.invokespecial 3, 3) := by decide +kernel
theorem dX10_init_4 : decode cX10_init 4 = .ok (.aload_n 0, 1) := by decide +kernel
theorem dX10_init_5 : decode cX10_init 5 = .ok (.iconst 1, 1) := by decide +kernel
theorem dX10_init_6 : decode cX10_init 6 = .ok (.putfield 9, 3) := by decide +kernel
theorem dX10_init_9 : decode cX10_init 9 = .ok (.aload_n 0, 1) := by decide +kernel
theorem dX10_init_10 : decode cX10_init 10 = .ok (.iconst (-1), 1) := by decide +kernel
theorem dX10_init_11 : decode cX10_init 11 = .ok (.putfield 13, 3) := by decide +kernel
theorem dX10_init_14 : decode cX10_init 14 = .ok (.aload_n 0, 1) := by decide +kernel
theorem dX10_init_15 : decode cX10_init 15 = .ok (.bipush 20, 2) := by decide +kernel
theorem dX10_init_17 : decode cX10_init 17 = .ok (.putfield 16, 3) := by decide +kernel
theorem dX10_init_20 : decode cX10_init 20 = .ok (.aload_n 0, 1) := by decide +kernel
theorem dX10_init_21 : decode cX10_init 21 = .ok (.bipush 20, 2) := by decide +kernel
theorem dX10_init_23 : decode cX10_init 23 = .ok (.newarray .int, 2) := by decide +kernel
theorem dX10_init_25 : decode cX10_init 25 = .ok (.putfield 19, 3) := by decide +kernel
theorem dX10_init_28 : decode cX10_init 28 = .ok (.aload_n 0, 1) := by decide +kernel
theorem dX10_init_29 : decode cX10_init 29 = .ok (.bipush 20, 2) := by decide +kernel
theorem dX10_init_31 : decode cX10_init 31 = .ok (.newarray .int, 2) := by decide +kernel
theorem dX10_init_33 : decode cX10_init 33 = .ok (.putfield 23, 3) := by decide +kernel
theorem dX10_init_36 : decode cX10_init 36 = .ok (.aload_n 0, 1) := by decide +kernel
theorem dX10_init_37 : decode cX10_init 37 = .ok (.bipush 20, 2) := by decide +kernel
theorem dX10_init_39 : decode cX10_init 39 = .ok (.newarray .int, 2) := by decide +kernel
theorem dX10_init_41 : decode cX10_init 41 = .ok (.putfield 26, 3) := by decide +kernel
theorem dX10_init_44 : decode cX10_init 44 = .ok (.aload_n 0, 1) := by decide +kernel
theorem dX10_init_45 : decode cX10_init 45 = .ok (.bipush 20, 2) := by decide +kernel
theorem dX10_init_47 : decode cX10_init 47 = .ok (.newarray .int, 2) := by decide +kernel
theorem dX10_init_49 : decode cX10_init 49 = .ok (.putfield 29, 3) := by decide +kernel
theorem dX10_init_52 : decode cX10_init 52 = .ok (.aload_n 0, 1) := by decide +kernel
theorem dX10_init_53 : decode cX10_init 53 = .ok (.bipush 30, 2) := by decide +kernel
theorem dX10_init_55 : decode cX10_init 55 = .ok (.newarray .int, 2) := by decide +kernel
theorem dX10_init_57 : decode cX10_init 57 = .ok (.putfield 32, 3) := by decide +kernel
theorem dX10_init_60 : decode cX10_init 60 = .ok (.aload_n 0, 1) := by decide +kernel
theorem dX10_init_61 : decode cX10_init 61 = .ok (.bipush 30, 2) := by decide +kernel
theorem dX10_init_63 : decode cX10_init 63 = .ok (.newarray .int, 2) := by decide +kernel
theorem dX10_init_65 : decode cX10_init 65 = .ok (.putfield 35, 3) := by decide +kernel
theorem dX10_init_68 : decode cX10_init 68 = .ok (.aload_n 0, 1) := by decide +kernel
theorem dX10_init_69 : decode cX10_init 69 = .ok (.iconst 5, 1) := by decide +kernel
theorem dX10_init_70 : decode cX10_init 70 = .ok (.newarray .int, 2) := by decide +kernel
theorem dX10_init_72 : decode cX10_init 72 = .ok (.putfield 38, 3) := by decide +kernel
theorem dX10_init_75 : decode cX10_init 75 = .ok (.aload_n 0, 1) := by decide +kernel
theorem dX10_init_76 : decode cX10_init 76 = .ok (.bipush 100, 2) := by decide +kernel
theorem dX10_init_78 : decode cX10_init 78 = .ok (.newarray .int, 2) := by decide +kernel
theorem dX10_init_80 : decode cX10_init 80 = .ok (.putfield 41, 3) := by decide +kernel
theorem dX10_init_83 : decode cX10_init 83 = .ok (.aload_n 0, 1) := by decide +kernel
theorem dX10_init_84 : decode cX10_init 84 = .ok (.bipush 10, 2) := by decide +kernel
theorem dX10_init_86 : decode cX10_init 86 = .ok (.newarray .int, 2) := by decide +kernel
theorem dX10_init_88 : decode cX10_init 88 = .ok (.putfield 44, 3) := by decide +kernel
theorem dX10_init_91 : decode cX10_init 91 = .ok (.aload_n 0, 1) := by decide +kernel
theorem dX10_init_92 : decode cX10_init 92 = .ok (.sipush 240, 3) := by decide +kernel
theorem dX10_init_95 : decode cX10_init 95 = .ok (.newarray .int, 2) := by decide +kernel
theorem dX10_init_97 : decode cX10_init 97 = .ok (.putfield 47, 3) := by decide +kernel
theorem dX10_init_100 : decode cX10_init 100 = .ok (.aload_n 0, 1) := by decide +kernel
theorem dX10_init_101 : decode cX10_init 101 = .ok (.sipush 240, 3) := by decide +kernel
theorem dX10_init_104 : decode cX10_init 104 = .ok (.newarray .int, 2) := by decide +kernel
theorem dX10_init_106 : decode cX10_init 106 = .ok (.putfield 50, 3) := by decide +kernel
theorem dX10_init_109 : decode cX10_init 109 = .ok (.aload_n 0, 1) := by decide +kernel
theorem dX10_init_110 : decode cX10_init 110 = .ok (.sipush 240, 3) := by decide +kernel
theorem dX10_init_113 : decode cX10_init 113 = .ok (.newarray .int, 2) := by decide +kernel
theorem dX10_init_115 : decode cX10_init 115 = .ok (.putfield 53, 3) := by decide +kernel
theorem dX10_init_118 : decode cX10_init 118 = .ok (.aload_n 0, 1) := by decide +kernel
theorem dX10_init_119 : decode cX10_init 119 = .ok (.sipush 240, 3) := by decide +kernel
theorem dX10_init_122 : decode cX10_init 122 = .ok (.newarray .int, 2) := by decide +kernel
theorem dX10_init_124 : decode cX10_init 124 = .ok (.putfield 56, 3) := by decide +kernel
theorem dX10_init_127 : decode cX10_init 127 = .ok (.aload_n 0, 1) := by decide +kernel
theorem dX10_init_128 : decode cX10_init 128 = .ok (.bipush 20, 2) := by decide +kernel
theorem dX10_init_130 : decode cX10_init 130 = .ok (.newarray .boolean, 2) := by decide +kernel
theorem dX10_init_132 : decode cX10_init 132 = .ok (.putfield 59, 3) := by decide +kernel
theorem dX10_init_135 : decode cX10_init 135 = .ok (.aload_n 0, 1) := by decide +kernel
theorem dX10_init_136 : decode cX10_init 136 = .ok (.bipush 20, 2) := by decide +kernel
theorem dX10_init_138 : decode cX10_init 138 = .ok (.newarray .boolean, 2) := by decide +kernel
theorem dX10_init_140 : decode cX10_init 140 = .ok (.putfield 63, 3) := by decide +kernel
theorem dX10_init_143 : decode cX10_init 143 = .ok (.aload_n 0, 1) := by decide +kernel
theorem dX10_init_144 : decode cX10_init 144 = .ok (.bipush 20, 2) := by decide +kernel
theorem dX10_init_146 : decode cX10_init 146 = .ok (.newarray .int, 2) := by decide +kernel
theorem dX10_init_148 : decode cX10_init 148 = .ok (.putfield 66, 3) := by decide +kernel
theorem dX10_init_151 : decode cX10_init 151 = .ok (.aload_n 0, 1) := by decide +kernel
theorem dX10_init_152 : decode cX10_init 152 = .ok (.bipush 20, 2) := by decide +kernel
theorem dX10_init_154 : decode cX10_init 154 = .ok (.newarray .int, 2) := by decide +kernel
theorem dX10_init_156 : decode cX10_init 156 = .ok (.putfield 69, 3) := by decide +kernel
theorem dX10_init_159 : decode cX10_init 159 = .ok (.aload_n 0, 1) := by decide +kernel
theorem dX10_init_160 : decode cX10_init 160 = .ok (.bipush 20, 2) := by decide +kernel
theorem dX10_init_162 : decode cX10_init 162 = .ok (.newarray .int, 2) := by decide +kernel
theorem dX10_init_164 : decode cX10_init 164 = .ok (.putfield 72, 3) := by decide +kernel
theorem dX10_init_167 : decode cX10_init 167 = .ok (.aload_n 0, 1) := by decide +kernel
theorem dX10_init_168 : decode cX10_init 168 = .ok (.bipush 20, 2) := by decide +kernel
theorem dX10_init_170 : decode cX10_init 170 = .ok (.newarray .int, 2) := by decide +kernel
theorem dX10_init_172 : decode cX10_init 172 = .ok (.putfield 75, 3) := by decide +kernel
theorem dX10_init_175 : decode cX10_init 175 = .ok (.aload_n 0, 1) := by decide +kernel
theorem dX10_init_176 : decode cX10_init 176 = .ok (.bipush 20, 2) := by decide +kernel
theorem dX10_init_178 : decode cX10_init 178 = .ok (.newarray .int, 2) := by decide +kernel
theorem dX10_init_180 : decode cX10_init 180 = .ok (.putfield 78, 3) := by decide +kernel
theorem dX10_init_183 : decode cX10_init 183 = .ok (.aload_n 0, 1) := by decide +kernel
theorem dX10_init_184 : decode cX10_init 184 = .ok (.bipush 20, 2) := by decide +kernel
theorem dX10_init_186 : decode cX10_init 186 = .ok (.newarray .int, 2) := by decide +kernel
theorem dX10_init_188 : decode cX10_init 188 = .ok (.putfield 81, 3) := by decide +kernel
theorem dX10_init_191 : decode cX10_init 191 = .ok (.aload_n 0, 1) := by decide +kernel
theorem dX10_init_192 : decode cX10_init 192 = .ok (.bipush 100, 2) := by decide +kernel
theorem dX10_init_194 : decode cX10_init 194 = .ok (.newarray .int, 2) := by decide +kernel
theorem dX10_init_196 : decode cX10_init 196 = .ok (.putfield 84, 3) := by decide +kernel
theorem dX10_init_199 : decode cX10_init 199 = .ok (.aload_n 0, 1) := by decide +kernel
theorem dX10_init_200 : decode cX10_init 200 = .ok (.bipush 20, 2) := by decide +kernel
theorem dX10_init_202 : decode cX10_init 202 = .ok (.newarray .int, 2) := by decide +kernel
theorem dX10_init_204 : decode cX10_init 204 = .ok (.putfield 87, 3) := by decide +kernel
theorem dX10_init_207 : decode cX10_init 207 = .ok (.aload_n 0, 1) := by decide +kernel
theorem dX10_init_208 : decode cX10_init 208 = .ok (.bipush 20, 2) := by decide +kernel
theorem dX10_init_210 : decode cX10_init 210 = .ok (.newarray .int, 2) := by decide +kernel
theorem dX10_init_212 : decode cX10_init 212 = .ok (.putfield 90, 3) := by decide +kernel
theorem dX10_init_215 : decode cX10_init 215 = .ok (.aload_n 0, 1) := by decide +kernel
theorem dX10_init_216 : decode cX10_init 216 = .ok (.bipush 20, 2) := by decide +kernel
theorem dX10_init_218 : decode cX10_init 218 = .ok (.newarray .int, 2) := by decide +kernel
theorem dX10_init_220 : decode cX10_init 220 = .ok (.putfield 93, 3) := by decide +kernel
theorem dX10_init_223 : decode cX10_init 223 = .ok (.aload_n 0, 1) := by decide +kernel
theorem dX10_init_224 : decode cX10_init 224 = .ok (.bipush 20, 2) := by decide +kernel
theorem dX10_init_226 : decode cX10_init 226 = .ok (.newarray .int, 2) := by decide +kernel
theorem dX10_init_228 : decode cX10_init 228 = .ok (.putfield 96, 3) := by decide +kernel
theorem dX10_init_231 : decode cX10_init 231 = .ok (.aload_n 0, 1) := by decide +kernel
theorem dX10_init_232 : decode cX10_init 232 = .ok (.sipush 8020, 3) := by decide +kernel
theorem dX10_init_235 : decode cX10_init 235 = .ok (.newarray .int, 2) := by decide +kernel
theorem dX10_init_237 : decode cX10_init 237 = .ok (.putfield 99, 3) := by decide +kernel
theorem dX10_init_240 : decode cX10_init 240 = .ok (.aload_n 0, 1) := by decide +kernel
theorem dX10_init_241 : decode cX10_init 241 = .ok (.sipush 401, 3) := by decide +kernel
theorem dX10_init_244 : decode cX10_init 244 = .ok (.newarray .int, 2) := by decide +kernel
theorem dX10_init_246 : decode cX10_init 246 = .ok (.putfield 102, 3) := by decide +kernel
theorem dX10_init_249 : decode cX10_init 249 = .ok (.aload_n 0, 1) := by decide +kernel
theorem dX10_init_250 : decode cX10_init 250 = .ok (.bipush 20, 2) := by decide +kernel
theorem dX10_init_252 : decode cX10_init 252 = .ok (.newarray .boolean, 2) := by decide +kernel
theorem dX10_init_254 : decode cX10_init 254 = .ok (.putfield 105, 3) := by decide +kernel
theorem dX10_init_257 : decode cX10_init 257 = .ok (.aload_n 0, 1) := by decide +kernel
theorem dX10_init_258 : decode cX10_init 258 = .ok (.sipush 160, 3) := by decide +kernel
theorem dX10_init_261 : decode cX10_init 261 = .ok (.newarray .int, 2) := by decide +kernel
theorem dX10_init_263 : decode cX10_init 263 = .ok (.putfield 108, 3) := by decide +kernel
theorem dX10_init_266 : decode cX10_init 266 = .ok (.aload_n 0, 1) := by decide +kernel
theorem dX10_init_267 : decode cX10_init 267 = .ok (.bipush 15, 2) := by decide +kernel
theorem dX10_init_269 : decode cX10_init 269 = .ok (.newarray .int, 2) := by decide +kernel
theorem dX10_init_271 : decode cX10_init 271 = .ok (.putfield 111, 3) := by decide +kernel
theorem dX10_init_274 : decode cX10_init 274 = .ok (.aload_n 0, 1) := by decide +kernel
theorem dX10_init_275 : decode cX10_init 275 = .ok (.bipush 20, 2) := by decide +kernel
theorem dX10_init_277 : decode cX10_init 277 = .ok (.newarray .int, 2) := by decide +kernel
theorem dX10_init_279 : decode cX10_init 279 = .ok (.putfield 114, 3) := by decide +kernel
theorem dX10_init_282 : decode cX10_init 282 = .ok (.aload_n 0, 1) := by decide +kernel
theorem dX10_init_283 : decode cX10_init 283 = .ok (.bipush 20, 2) := by decide +kernel
theorem dX10_init_285 : decode cX10_init 285 = .ok (.newarray .int, 2) := by decide +kernel
theorem dX10_init_287 : decode cX10_init 287 = .ok (.putfield 117, 3) := by decide +kernel
theorem dX10_init_290 : decode cX10_init 290 = .ok (.aload_n 0, 1) := by decide +kernel
theorem dX10_init_291 : decode cX10_init 291 = .ok (.bipush 20, 2) := by decide +kernel
theorem dX10_init_293 : decode cX10_init 293 = .ok (.newarray .boolean, 2) := by decide +kernel
theorem dX10_init_295 : decode cX10_init 295 = .ok (.putfield 120, 3) := by decide +kernel
theorem dX10_init_298 : decode cX10_init 298 = .ok (.return_, 1) := by decide +kernel
theorem dX10_isMetre_0 : decode cX10_isMetre 0 = .ok (.iload_n 1, 1) := by decide +kernel
theorem dX10_isMetre_1 : decode cX10_isMetre 1 = .ok (.iconst 1, 1) := by decide +kernel
theorem dX10_isMetre_2 : decode cX10_isMetre 2 = .ok (.sipush 1000, 3) := by decide +kernel
theorem dX10_isMetre_5 : decode cX10_isMetre 5 = .ok (.aload_n 0, 1) := by decide +kernel
theorem dX10_isMetre_6 : decode cX10_isMetre 6 = .ok (.getfield 9, 3) := by decide +kernel
theorem dX10_isMetre_9 : decode cX10_isMetre 9 = .ok (.imul, 1) := by decide +kernel
theorem dX10_isMetre_10 : decode cX10_isMetre 10 = .ok (.iconst 1, 1) := by decide +kernel
theorem dX10_isMetre_11 : decode cX10_isMetre 11 = .ok (.isub, 1) := by decide +kernel
theorem dX10_isMetre_12 : decode cX10_isMetre 12 = .ok (.invokestatic 126, 3) := by decide +kernel
theorem dX10_isMetre_15 : decode cX10_isMetre 15 = .ok (.ireturn, 1) := by decide +kernel
theorem dX10_isRider_0 : decode cX10_isRider 0 = .ok (.iload_n 1, 1) := by decide +kernel
theorem dX10_isRider_1 : decode cX10_isRider 1 = .ok (.iconst 0, 1) := by decide +kernel
theorem dX10_isRider_2 : decode cX10_isRider 2 = .ok (.aload_n 0, 1) := by decide +kernel
theorem dX10_isRider_3 : decode cX10_isRider 3 = .ok (.getfield 123, 3) := by decide +kernel
theorem dX10_isRider_6 : decode cX10_isRider 6 = .ok (.iconst 1, 1) := by decide +kernel
theorem dX10_isRider_7 : decode cX10_isRider 7 = .ok (.isub, 1) := by decide +kernel
theorem dX10_isRider_8 : decode cX10_isRider 8 = .ok (.invokestatic 126, 3) := by decide +kernel
theorem dX10_isRider_11 : decode cX10_isRider 11 = .ok (.ireturn, 1) := by decide +kernel
theorem dX10_keep_0 : decode cX10_keep 0 = .ok (.aload_n 0, 1) := by decide +kernel
theorem dX10_keep_1 : decode cX10_keep 1 = .ok (.getfield 243, 3) := by decide +kernel
theorem dX10_keep_4 : decode cX10_keep 4 = .ok (.ifCond .eq 19, 3) := by decide +kernel
theorem dX10_keep_23 : decode cX10_keep 23 = .ok (.iconst (-1), 1) := by decide +kernel
theorem dX10_keep_24 : decode cX10_keep 24 = .ok (.ireturn, 1) := by decide +kernel
theorem dX10_limit_0 : decode cX10_limit 0 = .ok (.iload_n 1, 1) := by decide +kernel
theorem dX10_limit_1 : decode cX10_limit 1 = .ok (.iconst 1, 1) := by decide +kernel
theorem dX10_limit_2 : decode cX10_limit 2 = .ok (.bipush 100, 2) := by decide +kernel
theorem dX10_limit_4 : decode cX10_limit 4 = .ok (.invokestatic 126, 3) := by decide +kernel
theorem dX10_limit_7 : decode cX10_limit 7 = .ok (.ifCond .ne 5, 3) := by decide +kernel
theorem dX10_limit_10 : decode cX10_limit 10 = .ok (.iconst 0, 1) := by decide +kernel
theorem dX10_limit_11 : decode cX10_limit 11 = .ok (.ireturn, 1) := by decide +kernel
theorem dX10_limit_12 : decode cX10_limit 12 = .ok (.aload_n 0, 1) := by decide +kernel
theorem dX10_limit_13 : decode cX10_limit 13 = .ok (.iload_n 1, 1) := by decide +kernel
theorem dX10_limit_14 : decode cX10_limit 14 = .ok (.putfield 16, 3) := by decide +kernel
theorem dX10_limit_17 : decode cX10_limit 17 = .ok (.iconst 1, 1) := by decide +kernel
theorem dX10_limit_18 : decode cX10_limit 18 = .ok (.ireturn, 1) := by decide +kernel
theorem dX10_look_0 : decode cX10_look 0 = .ok (.aload_n 0, 1) := by decide +kernel
theorem dX10_look_1 : decode cX10_look 1 = .ok (.getfield 150, 3) := by decide +kernel
theorem dX10_look_4 : decode cX10_look 4 = .ok (.aload_n 0, 1) := by decide +kernel
theorem dX10_look_5 : decode cX10_look 5 = .ok (.getfield 147, 3) := by decide +kernel
theorem dX10_look_8 : decode cX10_look 8 = .ok (.if_icmp .ge 30, 3) := by decide +kernel
theorem dX10_look_38 : decode cX10_look 38 = .ok (.aload_n 0, 1) := by decide +kernel
theorem dX10_look_39 : decode cX10_look 39 = .ok (.getfield 150, 3) := by decide +kernel
theorem dX10_look_42 : decode cX10_look 42 = .ok (.aload_n 0, 1) := by decide +kernel
theorem dX10_look_43 : decode cX10_look 43 = .ok (.getfield 147, 3) := by decide +kernel
theorem dX10_look_46 : decode cX10_look 46 = .ok (.if_icmp .ge 15, 3) := by decide +kernel
theorem dX10_look_61 : decode cX10_look 61 = .ok (.iconst (-1), 1) := by decide +kernel
theorem dX10_look_62 : decode cX10_look 62 = .ok (.ireturn, 1) := by decide +kernel
theorem dX10_mayTry_0 : decode cX10_mayTry 0 = .ok (.iload_n 1, 1) := by decide +kernel
theorem dX10_mayTry_1 : decode cX10_mayTry 1 = .ok (.iconst 0, 1) := by decide +kernel
theorem dX10_mayTry_2 : decode cX10_mayTry 2 = .ok (.iconst 4, 1) := by decide +kernel
theorem dX10_mayTry_3 : decode cX10_mayTry 3 = .ok (.invokestatic 126, 3) := by decide +kernel
theorem dX10_mayTry_6 : decode cX10_mayTry 6 = .ok (.ifCond .eq 15, 3) := by decide +kernel
theorem dX10_mayTry_9 : decode cX10_mayTry 9 = .ok (.aload_n 0, 1) := by decide +kernel
theorem dX10_mayTry_10 : decode cX10_mayTry 10 = .ok (.iload_n 2, 1) := by decide +kernel
theorem dX10_mayTry_11 : decode cX10_mayTry 11 = .ok (.invokevirtual 136, 3) := by decide +kernel
theorem dX10_mayTry_14 : decode cX10_mayTry 14 = .ok (.ifCond .eq 7, 3) := by decide +kernel
theorem dX10_mayTry_17 : decode cX10_mayTry 17 = .ok (.iconst 1, 1) := by decide +kernel
theorem dX10_mayTry_18 : decode cX10_mayTry 18 = .ok (.goto 4, 3) := by decide +kernel
theorem dX10_mayTry_21 : decode cX10_mayTry 21 = .ok (.iconst 0, 1) := by decide +kernel
theorem dX10_mayTry_22 : decode cX10_mayTry 22 = .ok (.ireturn, 1) := by decide +kernel
theorem dX10_metres_0 : decode cX10_metres 0 = .ok (.aload_n 0, 1) := by decide +kernel
theorem dX10_metres_1 : decode cX10_metres 1 = .ok (.getfield 243, 3) := by decide +kernel
theorem dX10_metres_4 : decode cX10_metres 4 = .ok (.ifCond .eq 47, 3) := by decide +kernel
theorem dX10_metres_51 : decode cX10_metres 51 = .ok (.iconst (-1), 1) := by decide +kernel
theorem dX10_metres_52 : decode cX10_metres 52 = .ok (.ireturn, 1) := by decide +kernel
theorem dX10_orders_0 : decode cX10_orders 0 = .ok (.iload_n 1, 1) := by decide +kernel
theorem dX10_orders_1 : decode cX10_orders 1 = .ok (.iconst 0, 1) := by decide +kernel
theorem dX10_orders_2 : decode cX10_orders 2 = .ok (.iconst 4, 1) := by decide +kernel
theorem dX10_orders_3 : decode cX10_orders 3 = .ok (.invokestatic 126, 3) := by decide +kernel
theorem dX10_orders_6 : decode cX10_orders 6 = .ok (.ifCond .eq 11, 3) := by decide +kernel
theorem dX10_orders_9 : decode cX10_orders 9 = .ok (.aload_n 0, 1) := by decide +kernel
theorem dX10_orders_10 : decode cX10_orders 10 = .ok (.invokevirtual 167, 3) := by decide +kernel
theorem dX10_orders_13 : decode cX10_orders 13 = .ok (.iconst (-1), 1) := by decide +kernel
theorem dX10_orders_14 : decode cX10_orders 14 = .ok (.if_icmp .eq 5, 3) := by decide +kernel
theorem dX10_orders_17 : decode cX10_orders 17 = .ok (.iconst 0, 1) := by decide +kernel
theorem dX10_orders_18 : decode cX10_orders 18 = .ok (.ireturn, 1) := by decide +kernel
theorem dX10_orders_19 : decode cX10_orders 19 = .ok (.aload_n 0, 1) := by decide +kernel
theorem dX10_orders_20 : decode cX10_orders 20 = .ok (.iload_n 1, 1) := by decide +kernel
theorem dX10_orders_21 : decode cX10_orders 21 = .ok (.invokevirtual 170, 3) := by decide +kernel
theorem dX10_orders_24 : decode cX10_orders 24 = .ok (.iconst 1, 1) := by decide +kernel
theorem dX10_orders_25 : decode cX10_orders 25 = .ok (.ireturn, 1) := by decide +kernel
theorem dX10_passed_0 : decode cX10_passed 0 = .ok (.aload_n 0, 1) := by decide +kernel
theorem dX10_passed_1 : decode cX10_passed 1 = .ok (.getfield 243, 3) := by decide +kernel
theorem dX10_passed_4 : decode cX10_passed 4 = .ok (.ifCond .eq 41, 3) := by decide +kernel
theorem dX10_passed_45 : decode cX10_passed 45 = .ok (.iconst (-1), 1) := by decide +kernel
theorem dX10_passed_46 : decode cX10_passed 46 = .ok (.ireturn, 1) := by decide +kernel
theorem dX10_prime_0 : decode cX10_prime 0 = .ok (.aload_n 0, 1) := by decide +kernel
theorem dX10_prime_1 : decode cX10_prime 1 = .ok (.iload_n 1, 1) := by decide +kernel
theorem dX10_prime_2 : decode cX10_prime 2 = .ok (.invokevirtual 136, 3) := by decide +kernel
theorem dX10_prime_5 : decode cX10_prime 5 = .ok (.ifCond .eq 11, 3) := by decide +kernel
theorem dX10_prime_8 : decode cX10_prime 8 = .ok (.aload_n 0, 1) := by decide +kernel
theorem dX10_prime_9 : decode cX10_prime 9 = .ok (.getfield 133, 3) := by decide +kernel
theorem dX10_prime_12 : decode cX10_prime 12 = .ok (.iconst 5, 1) := by decide +kernel
theorem dX10_prime_13 : decode cX10_prime 13 = .ok (.if_icmp .ne 5, 3) := by decide +kernel
theorem dX10_prime_16 : decode cX10_prime 16 = .ok (.iconst (-1), 1) := by decide +kernel
theorem dX10_prime_17 : decode cX10_prime 17 = .ok (.ireturn, 1) := by decide +kernel
theorem dX10_prime_18 : decode cX10_prime 18 = .ok (.aload_n 0, 1) := by decide +kernel
theorem dX10_prime_19 : decode cX10_prime 19 = .ok (.getfield 38, 3) := by decide +kernel
theorem dX10_prime_22 : decode cX10_prime 22 = .ok (.aload_n 0, 1) := by decide +kernel
theorem dX10_prime_23 : decode cX10_prime 23 = .ok (.getfield 133, 3) := by decide +kernel
theorem dX10_prime_26 : decode cX10_prime 26 = .ok (.iload_n 1, 1) := by decide +kernel
theorem dX10_prime_27 : decode cX10_prime 27 = .ok (.iastore, 1) := by decide +kernel
theorem dX10_prime_28 : decode cX10_prime 28 = .ok (.aload_n 0, 1) := by decide +kernel
theorem dX10_prime_29 : decode cX10_prime 29 = .ok (.dup, 1) := by decide +kernel
theorem dX10_prime_30 : decode cX10_prime 30 = .ok (.getfield 133, 3) := by decide +kernel
theorem dX10_prime_33 : decode cX10_prime 33 = .ok (.iconst 1, 1) := by decide +kernel
theorem dX10_prime_34 : decode cX10_prime 34 = .ok (.iadd, 1) := by decide +kernel
theorem dX10_prime_35 : decode cX10_prime 35 = .ok (.putfield 133, 3) := by decide +kernel
theorem dX10_prime_38 : decode cX10_prime 38 = .ok (.aload_n 0, 1) := by decide +kernel
theorem dX10_prime_39 : decode cX10_prime 39 = .ok (.getfield 133, 3) := by decide +kernel
theorem dX10_prime_42 : decode cX10_prime 42 = .ok (.iconst 1, 1) := by decide +kernel
theorem dX10_prime_43 : decode cX10_prime 43 = .ok (.isub, 1) := by decide +kernel
theorem dX10_prime_44 : decode cX10_prime 44 = .ok (.ireturn, 1) := by decide +kernel
theorem dX10_race_0 : decode cX10_race 0 = .ok (.aload_n 0, 1) := by decide +kernel
theorem dX10_race_1 : decode cX10_race 1 = .ok (.lload_n 1, 1) := by decide +kernel
theorem dX10_race_2 : decode cX10_race 2 = .ok (.iconst (-1), 1) := by decide +kernel
theorem dX10_race_3 : decode cX10_race 3 = .ok (.iconst 0, 1) := by decide +kernel
theorem dX10_race_4 : decode cX10_race 4 = .ok (.iconst 0, 1) := by decide +kernel
theorem dX10_race_5 : decode cX10_race 5 = .ok (.iconst 0, 1) := by decide +kernel
theorem dX10_race_6 : decode cX10_race 6 = .ok (.iconst 1, 1) := by decide +kernel
theorem dX10_race_7 : decode cX10_race 7 = .ok (.invokevirtual 239, 3) := by decide +kernel
theorem dX10_race_10 : decode cX10_race 10 = .ok (.ifCond .ne 5, 3) := by decide +kernel
theorem dX10_race_13 : decode cX10_race 13 = .ok (.iconst (-1), 1) := by decide +kernel
theorem dX10_race_14 : decode cX10_race 14 = .ok (.ireturn, 1) := by decide +kernel
theorem dX10_rider_0 : decode cX10_rider 0 = .ok (.aload_n 0, 1) := by decide +kernel
theorem dX10_rider_1 : decode cX10_rider 1 = .ok (.getfield 130, 3) := by decide +kernel
theorem dX10_rider_4 : decode cX10_rider 4 = .ok (.ifCond .gt 53, 3) := by decide +kernel
theorem dX10_rider_7 : decode cX10_rider 7 = .ok (.aload_n 0, 1) := by decide +kernel
theorem dX10_rider_8 : decode cX10_rider 8 = .ok (.getfield 123, 3) := by decide +kernel
theorem dX10_rider_11 : decode cX10_rider 11 = .ok (.bipush 20, 2) := by decide +kernel
theorem dX10_rider_13 : decode cX10_rider 13 = .ok (.if_icmp .eq 44, 3) := by decide +kernel
theorem dX10_rider_16 : decode cX10_rider 16 = .ok (.iload_n 1, 1) := by decide +kernel
theorem dX10_rider_17 : decode cX10_rider 17 = .ok (.iconst 0, 1) := by decide +kernel
theorem dX10_rider_18 : decode cX10_rider 18 = .ok (.iconst 4, 1) := by decide +kernel
theorem dX10_rider_19 : decode cX10_rider 19 = .ok (.invokestatic 126, 3) := by decide +kernel
theorem dX10_rider_22 : decode cX10_rider 22 = .ok (.ifCond .eq 35, 3) := by decide +kernel
theorem dX10_rider_25 : decode cX10_rider 25 = .ok (.iload_n 2, 1) := by decide +kernel
theorem dX10_rider_26 : decode cX10_rider 26 = .ok (.iconst 1, 1) := by decide +kernel
theorem dX10_rider_27 : decode cX10_rider 27 = .ok (.bipush 60, 2) := by decide +kernel
theorem dX10_rider_29 : decode cX10_rider 29 = .ok (.invokestatic 126, 3) := by decide +kernel
theorem dX10_rider_32 : decode cX10_rider 32 = .ok (.ifCond .eq 25, 3) := by decide +kernel
theorem dX10_rider_35 : decode cX10_rider 35 = .ok (.iload_n 3, 1) := by decide +kernel
theorem dX10_rider_36 : decode cX10_rider 36 = .ok (.iconst 0, 1) := by decide +kernel
theorem dX10_rider_37 : decode cX10_rider 37 = .ok (.sipush 2000, 3) := by decide +kernel
theorem dX10_rider_40 : decode cX10_rider 40 = .ok (.invokestatic 126, 3) := by decide +kernel
theorem dX10_rider_43 : decode cX10_rider 43 = .ok (.ifCond .eq 14, 3) := by decide +kernel
theorem dX10_rider_46 : decode cX10_rider 46 = .ok (.iload 4, 2) := by decide +kernel
theorem dX10_rider_48 : decode cX10_rider 48 = .ok (.iconst 0, 1) := by decide +kernel
theorem dX10_rider_49 : decode cX10_rider 49 = .ok (.bipush 50, 2) := by decide +kernel
theorem dX10_rider_51 : decode cX10_rider 51 = .ok (.invokestatic 126, 3) := by decide +kernel
theorem dX10_rider_54 : decode cX10_rider 54 = .ok (.ifCond .ne 5, 3) := by decide +kernel
theorem dX10_rider_57 : decode cX10_rider 57 = .ok (.iconst (-1), 1) := by decide +kernel
theorem dX10_rider_58 : decode cX10_rider 58 = .ok (.ireturn, 1) := by decide +kernel
theorem dX10_rider_59 : decode cX10_rider 59 = .ok (.aload_n 0, 1) := by decide +kernel
theorem dX10_rider_60 : decode cX10_rider 60 = .ok (.getfield 19, 3) := by decide +kernel
theorem dX10_rider_63 : decode cX10_rider 63 = .ok (.aload_n 0, 1) := by decide +kernel
theorem dX10_rider_64 : decode cX10_rider 64 = .ok (.getfield 123, 3) := by decide +kernel
theorem dX10_rider_67 : decode cX10_rider 67 = .ok (.iload_n 1, 1) := by decide +kernel
theorem dX10_rider_68 : decode cX10_rider 68 = .ok (.iastore, 1) := by decide +kernel
theorem dX10_rider_69 : decode cX10_rider 69 = .ok (.aload_n 0, 1) := by decide +kernel
theorem dX10_rider_70 : decode cX10_rider 70 = .ok (.getfield 23, 3) := by decide +kernel
theorem dX10_rider_73 : decode cX10_rider 73 = .ok (.aload_n 0, 1) := by decide +kernel
theorem dX10_rider_74 : decode cX10_rider 74 = .ok (.getfield 123, 3) := by decide +kernel
theorem dX10_rider_77 : decode cX10_rider 77 = .ok (.iload_n 2, 1) := by decide +kernel
theorem dX10_rider_78 : decode cX10_rider 78 = .ok (.iastore, 1) := by decide +kernel
theorem dX10_rider_79 : decode cX10_rider 79 = .ok (.aload_n 0, 1) := by decide +kernel
theorem dX10_rider_80 : decode cX10_rider 80 = .ok (.getfield 26, 3) := by decide +kernel
theorem dX10_rider_83 : decode cX10_rider 83 = .ok (.aload_n 0, 1) := by decide +kernel
theorem dX10_rider_84 : decode cX10_rider 84 = .ok (.getfield 123, 3) := by decide +kernel
theorem dX10_rider_87 : decode cX10_rider 87 = .ok (.iload_n 3, 1) := by decide +kernel
theorem dX10_rider_88 : decode cX10_rider 88 = .ok (.iastore, 1) := by decide +kernel
theorem dX10_rider_89 : decode cX10_rider 89 = .ok (.aload_n 0, 1) := by decide +kernel
theorem dX10_rider_90 : decode cX10_rider 90 = .ok (.getfield 29, 3) := by decide +kernel
theorem dX10_rider_93 : decode cX10_rider 93 = .ok (.aload_n 0, 1) := by decide +kernel
theorem dX10_rider_94 : decode cX10_rider 94 = .ok (.getfield 123, 3) := by decide +kernel
theorem dX10_rider_97 : decode cX10_rider 97 = .ok (.iload 4, 2) := by decide +kernel
theorem dX10_rider_99 : decode cX10_rider 99 = .ok (.iastore, 1) := by decide +kernel
theorem dX10_rider_100 : decode cX10_rider 100 = .ok (.aload_n 0, 1) := by decide +kernel
theorem dX10_rider_101 : decode cX10_rider 101 = .ok (.dup, 1) := by decide +kernel
theorem dX10_rider_102 : decode cX10_rider 102 = .ok (.getfield 123, 3) := by decide +kernel
theorem dX10_rider_105 : decode cX10_rider 105 = .ok (.iconst 1, 1) := by decide +kernel
theorem dX10_rider_106 : decode cX10_rider 106 = .ok (.iadd, 1) := by decide +kernel
theorem dX10_rider_107 : decode cX10_rider 107 = .ok (.putfield 123, 3) := by decide +kernel
theorem dX10_rider_110 : decode cX10_rider 110 = .ok (.aload_n 0, 1) := by decide +kernel
theorem dX10_rider_111 : decode cX10_rider 111 = .ok (.getfield 123, 3) := by decide +kernel
theorem dX10_rider_114 : decode cX10_rider 114 = .ok (.iconst 1, 1) := by decide +kernel
theorem dX10_rider_115 : decode cX10_rider 115 = .ok (.isub, 1) := by decide +kernel
theorem dX10_rider_116 : decode cX10_rider 116 = .ok (.ireturn, 1) := by decide +kernel
theorem dX10_rise_0 : decode cX10_rise 0 = .ok (.iload_n 1, 1) := by decide +kernel
theorem dX10_rise_1 : decode cX10_rise 1 = .ok (.iconst 0, 1) := by decide +kernel
theorem dX10_rise_2 : decode cX10_rise 2 = .ok (.aload_n 0, 1) := by decide +kernel
theorem dX10_rise_3 : decode cX10_rise 3 = .ok (.getfield 9, 3) := by decide +kernel
theorem dX10_rise_6 : decode cX10_rise 6 = .ok (.iconst 1, 1) := by decide +kernel
theorem dX10_rise_7 : decode cX10_rise 7 = .ok (.isub, 1) := by decide +kernel
theorem dX10_rise_8 : decode cX10_rise 8 = .ok (.invokestatic 126, 3) := by decide +kernel
theorem dX10_rise_11 : decode cX10_rise 11 = .ok (.ifCond .eq 25, 3) := by decide +kernel
theorem dX10_rise_14 : decode cX10_rise 14 = .ok (.iload_n 2, 1) := by decide +kernel
theorem dX10_rise_15 : decode cX10_rise 15 = .ok (.bipush (-5), 2) := by decide +kernel
theorem dX10_rise_17 : decode cX10_rise 17 = .ok (.bipush 10, 2) := by decide +kernel
theorem dX10_rise_19 : decode cX10_rise 19 = .ok (.invokestatic 126, 3) := by decide +kernel
theorem dX10_rise_22 : decode cX10_rise 22 = .ok (.ifCond .eq 14, 3) := by decide +kernel
theorem dX10_rise_25 : decode cX10_rise 25 = .ok (.iload_n 3, 1) := by decide +kernel
theorem dX10_rise_26 : decode cX10_rise 26 = .ok (.bipush (-3), 2) := by decide +kernel
theorem dX10_rise_28 : decode cX10_rise 28 = .ok (.bipush 9, 2) := by decide +kernel
theorem dX10_rise_30 : decode cX10_rise 30 = .ok (.invokestatic 126, 3) := by decide +kernel
theorem dX10_rise_33 : decode cX10_rise 33 = .ok (.ifCond .ne 5, 3) := by decide +kernel
theorem dX10_rise_36 : decode cX10_rise 36 = .ok (.iconst 0, 1) := by decide +kernel
theorem dX10_rise_37 : decode cX10_rise 37 = .ok (.ireturn, 1) := by decide +kernel
theorem dX10_rise_38 : decode cX10_rise 38 = .ok (.aload_n 0, 1) := by decide +kernel
theorem dX10_rise_39 : decode cX10_rise 39 = .ok (.getfield 32, 3) := by decide +kernel
theorem dX10_rise_42 : decode cX10_rise 42 = .ok (.iload_n 1, 1) := by decide +kernel
theorem dX10_rise_43 : decode cX10_rise 43 = .ok (.iload_n 2, 1) := by decide +kernel
theorem dX10_rise_44 : decode cX10_rise 44 = .ok (.iastore, 1) := by decide +kernel
theorem dX10_rise_45 : decode cX10_rise 45 = .ok (.aload_n 0, 1) := by decide +kernel
theorem dX10_rise_46 : decode cX10_rise 46 = .ok (.getfield 35, 3) := by decide +kernel
theorem dX10_rise_49 : decode cX10_rise 49 = .ok (.iload_n 1, 1) := by decide +kernel
theorem dX10_rise_50 : decode cX10_rise 50 = .ok (.iload_n 3, 1) := by decide +kernel
theorem dX10_rise_51 : decode cX10_rise 51 = .ok (.iastore, 1) := by decide +kernel
theorem dX10_rise_52 : decode cX10_rise 52 = .ok (.iconst 1, 1) := by decide +kernel
theorem dX10_rise_53 : decode cX10_rise 53 = .ok (.ireturn, 1) := by decide +kernel
theorem dX10_road_0 : decode cX10_road 0 = .ok (.iload_n 1, 1) := by decide +kernel
theorem dX10_road_1 : decode cX10_road 1 = .ok (.iconst 1, 1) := by decide +kernel
theorem dX10_road_2 : decode cX10_road 2 = .ok (.bipush 30, 2) := by decide +kernel
theorem dX10_road_4 : decode cX10_road 4 = .ok (.invokestatic 126, 3) := by decide +kernel
theorem dX10_road_7 : decode cX10_road 7 = .ok (.ifCond .ne 5, 3) := by decide +kernel
theorem dX10_road_10 : decode cX10_road 10 = .ok (.iconst 0, 1) := by decide +kernel
theorem dX10_road_11 : decode cX10_road 11 = .ok (.ireturn, 1) := by decide +kernel
theorem dX10_road_12 : decode cX10_road 12 = .ok (.aload_n 0, 1) := by decide +kernel
theorem dX10_road_13 : decode cX10_road 13 = .ok (.iload_n 1, 1) := by decide +kernel
theorem dX10_road_14 : decode cX10_road 14 = .ok (.putfield 9, 3) := by decide +kernel
theorem dX10_road_17 : decode cX10_road 17 = .ok (.aload_n 0, 1) := by decide +kernel
theorem dX10_road_18 : decode cX10_road 18 = .ok (.iconst 0, 1) := by decide +kernel
theorem dX10_road_19 : decode cX10_road 19 = .ok (.putfield 133, 3) := by decide +kernel
theorem dX10_road_22 : decode cX10_road 22 = .ok (.aload_n 0, 1) := by decide +kernel
theorem dX10_road_23 : decode cX10_road 23 = .ok (.iconst (-1), 1) := by decide +kernel
theorem dX10_road_24 : decode cX10_road 24 = .ok (.putfield 13, 3) := by decide +kernel
theorem dX10_road_27 : decode cX10_road 27 = .ok (.iconst 0, 1) := by decide +kernel
theorem dX10_road_28 : decode cX10_road 28 = .ok (.istore_n 2, 1) := by decide +kernel
theorem dX10_road_29 : decode cX10_road 29 = .ok (.iload_n 2, 1) := by decide +kernel
theorem dX10_road_30 : decode cX10_road 30 = .ok (.bipush 30, 2) := by decide +kernel
theorem dX10_road_32 : decode cX10_road 32 = .ok (.if_icmp .ge 23, 3) := by decide +kernel
theorem dX10_road_35 : decode cX10_road 35 = .ok (.aload_n 0, 1) := by decide +kernel
theorem dX10_road_36 : decode cX10_road 36 = .ok (.getfield 32, 3) := by decide +kernel
theorem dX10_road_39 : decode cX10_road 39 = .ok (.iload_n 2, 1) := by decide +kernel
theorem dX10_road_40 : decode cX10_road 40 = .ok (.iconst 0, 1) := by decide +kernel
theorem dX10_road_41 : decode cX10_road 41 = .ok (.iastore, 1) := by decide +kernel
theorem dX10_road_42 : decode cX10_road 42 = .ok (.aload_n 0, 1) := by decide +kernel
theorem dX10_road_43 : decode cX10_road 43 = .ok (.getfield 35, 3) := by decide +kernel
theorem dX10_road_46 : decode cX10_road 46 = .ok (.iload_n 2, 1) := by decide +kernel
theorem dX10_road_47 : decode cX10_road 47 = .ok (.iconst 0, 1) := by decide +kernel
theorem dX10_road_48 : decode cX10_road 48 = .ok (.iastore, 1) := by decide +kernel
theorem dX10_road_49 : decode cX10_road 49 = .ok (.iinc 2 1, 3) := by decide +kernel
theorem dX10_road_52 : decode cX10_road 52 = .ok (.goto (-23), 3) := by decide +kernel
theorem dX10_road_55 : decode cX10_road 55 = .ok (.iconst 1, 1) := by decide +kernel
theorem dX10_road_56 : decode cX10_road 56 = .ok (.ireturn, 1) := by decide +kernel
theorem dX10_run_0 : decode cX10_run 0 = .ok (.iconst 0, 1) := by decide +kernel
theorem dX10_run_1 : decode cX10_run 1 = .ok (.istore 8, 2) := by decide +kernel
theorem dX10_run_3 : decode cX10_run 3 = .ok (.iconst 0, 1) := by decide +kernel
theorem dX10_run_4 : decode cX10_run 4 = .ok (.istore 9, 2) := by decide +kernel
theorem dX10_run_6 : decode cX10_run 6 = .ok (.iload 9, 2) := by decide +kernel
theorem dX10_run_8 : decode cX10_run 8 = .ok (.aload_n 0, 1) := by decide +kernel
theorem dX10_run_9 : decode cX10_run 9 = .ok (.getfield 123, 3) := by decide +kernel
theorem dX10_run_12 : decode cX10_run 12 = .ok (.if_icmp .ge 135, 3) := by decide +kernel
theorem dX10_run_147 : decode cX10_run 147 = .ok (.iload 8, 2) := by decide +kernel
theorem dX10_run_149 : decode cX10_run 149 = .ok (.ifCond .ne 5, 3) := by decide +kernel
theorem dX10_run_152 : decode cX10_run 152 = .ok (.iconst 0, 1) := by decide +kernel
theorem dX10_run_153 : decode cX10_run 153 = .ok (.ireturn, 1) := by decide +kernel
theorem dX10_store_0 : decode cX10_store 0 = .ok (.iconst 0, 1) := by decide +kernel
theorem dX10_store_1 : decode cX10_store 1 = .ok (.istore_n 2, 1) := by decide +kernel
theorem dX10_store_2 : decode cX10_store 2 = .ok (.iload_n 2, 1) := by decide +kernel
theorem dX10_store_3 : decode cX10_store 3 = .ok (.aload_n 0, 1) := by decide +kernel
theorem dX10_store_4 : decode cX10_store 4 = .ok (.getfield 160, 3) := by decide +kernel
theorem dX10_store_7 : decode cX10_store 7 = .ok (.if_icmp .ge 75, 3) := by decide +kernel
theorem dX10_store_82 : decode cX10_store 82 = .ok (.aload_n 0, 1) := by decide +kernel
theorem dX10_store_83 : decode cX10_store 83 = .ok (.getfield 44, 3) := by decide +kernel
theorem dX10_store_86 : decode cX10_store 86 = .ok (.iload_n 1, 1) := by decide +kernel
theorem dX10_store_87 : decode cX10_store 87 = .ok (.aload_n 0, 1) := by decide +kernel
theorem dX10_store_88 : decode cX10_store 88 = .ok (.getfield 160, 3) := by decide +kernel
theorem dX10_store_91 : decode cX10_store 91 = .ok (.iastore, 1) := by decide +kernel
theorem dX10_store_92 : decode cX10_store 92 = .ok (.aload_n 0, 1) := by decide +kernel
theorem dX10_store_93 : decode cX10_store 93 = .ok (.iconst 0, 1) := by decide +kernel
theorem dX10_store_94 : decode cX10_store 94 = .ok (.putfield 147, 3) := by decide +kernel
theorem dX10_store_97 : decode cX10_store 97 = .ok (.return_, 1) := by decide +kernel
theorem dX10_sum_0 : decode cX10_sum 0 = .ok (.aload_n 0, 1) := by decide +kernel
theorem dX10_sum_1 : decode cX10_sum 1 = .ok (.iload_n 1, 1) := by decide +kernel
theorem dX10_sum_2 : decode cX10_sum 2 = .ok (.invokevirtual 262, 3) := by decide +kernel
theorem dX10_sum_5 : decode cX10_sum 5 = .ok (.ifCond .ne 5, 3) := by decide +kernel
theorem dX10_sum_8 : decode cX10_sum 8 = .ok (.iconst (-1), 1) := by decide +kernel
theorem dX10_sum_9 : decode cX10_sum 9 = .ok (.ireturn, 1) := by decide +kernel
theorem dX10_team_0 : decode cX10_team 0 = .ok (.iload_n 1, 1) := by decide +kernel
theorem dX10_team_1 : decode cX10_team 1 = .ok (.iconst 0, 1) := by decide +kernel
theorem dX10_team_2 : decode cX10_team 2 = .ok (.iconst 4, 1) := by decide +kernel
theorem dX10_team_3 : decode cX10_team 3 = .ok (.invokestatic 126, 3) := by decide +kernel
theorem dX10_team_6 : decode cX10_team 6 = .ok (.ifCond .ne 5, 3) := by decide +kernel
theorem dX10_team_9 : decode cX10_team 9 = .ok (.iconst (-1), 1) := by decide +kernel
theorem dX10_team_10 : decode cX10_team 10 = .ok (.ireturn, 1) := by decide +kernel
theorem dX10_team_11 : decode cX10_team 11 = .ok (.iconst 0, 1) := by decide +kernel
theorem dX10_team_12 : decode cX10_team 12 = .ok (.istore_n 2, 1) := by decide +kernel
theorem dX10_team_13 : decode cX10_team 13 = .ok (.iconst 0, 1) := by decide +kernel
theorem dX10_team_14 : decode cX10_team 14 = .ok (.istore_n 3, 1) := by decide +kernel
theorem dX10_team_15 : decode cX10_team 15 = .ok (.iconst 0, 1) := by decide +kernel
theorem dX10_team_16 : decode cX10_team 16 = .ok (.istore 4, 2) := by decide +kernel
theorem dX10_team_18 : decode cX10_team 18 = .ok (.iload 4, 2) := by decide +kernel
theorem dX10_team_20 : decode cX10_team 20 = .ok (.bipush 20, 2) := by decide +kernel
theorem dX10_team_22 : decode cX10_team 22 = .ok (.if_icmp .ge 17, 3) := by decide +kernel
theorem dX10_team_25 : decode cX10_team 25 = .ok (.aload_n 0, 1) := by decide +kernel
theorem dX10_team_26 : decode cX10_team 26 = .ok (.getfield 120, 3) := by decide +kernel
theorem dX10_team_29 : decode cX10_team 29 = .ok (.iload 4, 2) := by decide +kernel
theorem dX10_team_31 : decode cX10_team 31 = .ok (.iconst 0, 1) := by decide +kernel
theorem dX10_team_32 : decode cX10_team 32 = .ok (.bastore, 1) := by decide +kernel
theorem dX10_team_33 : decode cX10_team 33 = .ok (.iinc 4 1, 3) := by decide +kernel
theorem dX10_team_36 : decode cX10_team 36 = .ok (.goto (-18), 3) := by decide +kernel
theorem dX10_team_39 : decode cX10_team 39 = .ok (.iload_n 3, 1) := by decide +kernel
theorem dX10_team_40 : decode cX10_team 40 = .ok (.iconst 3, 1) := by decide +kernel
theorem dX10_team_41 : decode cX10_team 41 = .ok (.if_icmp .ge 114, 3) := by decide +kernel
theorem dX10_team_44 : decode cX10_team 44 = .ok (.iconst (-1), 1) := by decide +kernel
theorem dX10_team_45 : decode cX10_team 45 = .ok (.istore 4, 2) := by decide +kernel
theorem dX10_team_47 : decode cX10_team 47 = .ok (.iconst 0, 1) := by decide +kernel
theorem dX10_team_48 : decode cX10_team 48 = .ok (.istore 5, 2) := by decide +kernel
theorem dX10_team_50 : decode cX10_team 50 = .ok (.iload 5, 2) := by decide +kernel
theorem dX10_team_52 : decode cX10_team 52 = .ok (.aload_n 0, 1) := by decide +kernel
theorem dX10_team_53 : decode cX10_team 53 = .ok (.getfield 123, 3) := by decide +kernel
theorem dX10_team_56 : decode cX10_team 56 = .ok (.if_icmp .ge 67, 3) := by decide +kernel
theorem dX10_team_123 : decode cX10_team 123 = .ok (.iload 4, 2) := by decide +kernel
theorem dX10_team_125 : decode cX10_team 125 = .ok (.iconst (-1), 1) := by decide +kernel
theorem dX10_team_126 : decode cX10_team 126 = .ok (.if_icmp .ne 5, 3) := by decide +kernel
theorem dX10_team_129 : decode cX10_team 129 = .ok (.iconst (-1), 1) := by decide +kernel
theorem dX10_team_130 : decode cX10_team 130 = .ok (.ireturn, 1) := by decide +kernel
theorem dX10_told_0 : decode cX10_told 0 = .ok (.aload_n 0, 1) := by decide +kernel
theorem dX10_told_1 : decode cX10_told 1 = .ok (.getfield 243, 3) := by decide +kernel
theorem dX10_told_4 : decode cX10_told 4 = .ok (.ifCond .eq 44, 3) := by decide +kernel
theorem dX10_told_48 : decode cX10_told 48 = .ok (.iconst (-1), 1) := by decide +kernel
theorem dX10_told_49 : decode cX10_told 49 = .ok (.ireturn, 1) := by decide +kernel
theorem dX1_clearDraft_0 : decode cX1_clearDraft 0 = .ok (.aload_n 0, 1) := by decide +kernel
theorem dX1_clearDraft_1 : decode cX1_clearDraft 1 = .ok (.getfield 9, 3) := by decide +kernel
theorem dX1_clearDraft_4 : decode cX1_clearDraft 4 = .ok (.bipush 9, 2) := by decide +kernel
theorem dX1_clearDraft_6 : decode cX1_clearDraft 6 = .ok (.iconst 0, 1) := by decide +kernel
theorem dX1_clearDraft_7 : decode cX1_clearDraft 7 = .ok (.iastore, 1) := by decide +kernel
theorem dX1_clearDraft_8 : decode cX1_clearDraft 8 = .ok (.return_, 1) := by decide +kernel
theorem dX1_init_0 : decode cX1_init 0 = .ok (.aload_n 0, 1) := by decide +kernel
theorem dX1_init_1 : decode cX1_init 1 = .ok (.invokespecial 3, 3) := by decide +kernel
theorem dX1_init_4 : decode cX1_init 4 = .ok (.aload_n 0, 1) := by decide +kernel
theorem dX1_init_5 : decode cX1_init 5 = .ok (.bipush 10, 2) := by decide +kernel
theorem dX1_init_7 : decode cX1_init 7 = .ok (.newarray .int, 2) := by decide +kernel
theorem dX1_init_9 : decode cX1_init 9 = .ok (.putfield 9, 3) := by decide +kernel
theorem dX1_init_12 : decode cX1_init 12 = .ok (.aload_n 0, 1) := by decide +kernel
theorem dX1_init_13 : decode cX1_init 13 = .ok (.sipush 160, 3) := by decide +kernel
theorem dX1_init_16 : decode cX1_init 16 = .ok (.newarray .int, 2) := by decide +kernel
theorem dX1_init_18 : decode cX1_init 18 = .ok (.putfield 15, 3) := by decide +kernel
theorem dX1_init_21 : decode cX1_init 21 = .ok (.aload_n 0, 1) := by decide +kernel
theorem dX1_init_22 : decode cX1_init 22 = .ok (.sipush 160, 3) := by decide +kernel
theorem dX1_init_25 : decode cX1_init 25 = .ok (.newarray .int, 2) := by decide +kernel
theorem dX1_init_27 : decode cX1_init 27 = .ok (.putfield 18, 3) := by decide +kernel
theorem dX1_init_30 : decode cX1_init 30 = .ok (.aload_n 0, 1) := by decide +kernel
theorem dX1_init_31 : decode cX1_init 31 = .ok (.sipush 160, 3) := by decide +kernel
theorem dX1_init_34 : decode cX1_init 34 = .ok (.newarray .int, 2) := by decide +kernel
theorem dX1_init_36 : decode cX1_init 36 = .ok (.putfield 21, 3) := by decide +kernel
theorem dX1_init_39 : decode cX1_init 39 = .ok (.aload_n 0, 1) := by decide +kernel
theorem dX1_init_40 : decode cX1_init 40 = .ok (.sipush 160, 3) := by decide +kernel
theorem dX1_init_43 : decode cX1_init 43 = .ok (.newarray .int, 2) := by decide +kernel
theorem dX1_init_45 : decode cX1_init 45 = .ok (.putfield 24, 3) := by decide +kernel
theorem dX1_init_48 : decode cX1_init 48 = .ok (.return_, 1) := by decide +kernel
theorem dX1_takeDraft_0 : decode cX1_takeDraft 0 = .ok (.sipush 144, 3) := by decide +kernel
theorem dX1_takeDraft_3 : decode cX1_takeDraft 3 = .ok (.istore_n 2, 1) := by decide +kernel
theorem dX1_takeDraft_4 : decode cX1_takeDraft 4 = .ok (.iload_n 1, 1) := by decide +kernel
theorem dX1_takeDraft_5 : decode cX1_takeDraft 5 = .ok (.bipush 16, 2) := by decide +kernel
theorem dX1_takeDraft_7 : decode cX1_takeDraft 7 = .ok (.imul, 1) := by decide +kernel
theorem dX1_takeDraft_8 : decode cX1_takeDraft 8 = .ok (.istore_n 3, 1) := by decide +kernel
theorem dX1_takeDraft_9 : decode cX1_takeDraft 9 = .ok (.iconst 0, 1) := by decide +kernel
theorem dX1_takeDraft_10 : decode cX1_takeDraft 10 = .ok (.istore 4, 2) := by decide +kernel
theorem dX1_takeDraft_12 : decode cX1_takeDraft 12 = .ok (.iload 4, 2) := by decide +kernel
theorem dX1_takeDraft_14 : decode cX1_takeDraft 14 = .ok (.bipush 16, 2) := by decide +kernel
theorem dX1_takeDraft_16 : decode cX1_takeDraft 16 = .ok (.if_icmp .ge 81, 3) := by decide +kernel
theorem dX1_takeDraft_19 : decode cX1_takeDraft 19 = .ok (.aload_n 0, 1) := by decide +kernel
theorem dX1_takeDraft_20 : decode cX1_takeDraft 20 = .ok (.getfield 15, 3) := by decide +kernel
theorem dX1_takeDraft_23 : decode cX1_takeDraft 23 = .ok (.iload_n 3, 1) := by decide +kernel
theorem dX1_takeDraft_24 : decode cX1_takeDraft 24 = .ok (.iload 4, 2) := by decide +kernel
theorem dX1_takeDraft_26 : decode cX1_takeDraft 26 = .ok (.iadd, 1) := by decide +kernel
theorem dX1_takeDraft_27 : decode cX1_takeDraft 27 = .ok (.aload_n 0, 1) := by decide +kernel
theorem dX1_takeDraft_28 : decode cX1_takeDraft 28 = .ok (.getfield 15, 3) := by decide +kernel
theorem dX1_takeDraft_31 : decode cX1_takeDraft 31 = .ok (.iload_n 2, 1) := by decide +kernel
theorem dX1_takeDraft_32 : decode cX1_takeDraft 32 = .ok (.iload 4, 2) := by decide +kernel
theorem dX1_takeDraft_34 : decode cX1_takeDraft 34 = .ok (.iadd, 1) := by decide +kernel
theorem dX1_takeDraft_35 : decode cX1_takeDraft 35 = .ok (.iaload, 1) := by decide +kernel
theorem dX1_takeDraft_36 : decode cX1_takeDraft 36 = .ok (.iastore, 1) := by decide +kernel
theorem dX1_takeDraft_37 : decode cX1_takeDraft 37 = .ok (.aload_n 0, 1) := by decide +kernel
theorem dX1_takeDraft_38 : decode cX1_takeDraft 38 = .ok (.getfield 18, 3) := by decide +kernel
theorem dX1_takeDraft_41 : decode cX1_takeDraft 41 = .ok (.iload_n 3, 1) := by decide +kernel
theorem dX1_takeDraft_42 : decode cX1_takeDraft 42 = .ok (.iload 4, 2) := by decide +kernel
theorem dX1_takeDraft_44 : decode cX1_takeDraft 44 = .ok (.iadd, 1) := by decide +kernel
theorem dX1_takeDraft_45 : decode cX1_takeDraft 45 = .ok (.aload_n 0, 1) := by decide +kernel
theorem dX1_takeDraft_46 : decode cX1_takeDraft 46 = .ok (.getfield 18, 3) := by decide +kernel
theorem dX1_takeDraft_49 : decode cX1_takeDraft 49 = .ok (.iload_n 2, 1) := by decide +kernel
theorem dX1_takeDraft_50 : decode cX1_takeDraft 50 = .ok (.iload 4, 2) := by decide +kernel
theorem dX1_takeDraft_52 : decode cX1_takeDraft 52 = .ok (.iadd, 1) := by decide +kernel
theorem dX1_takeDraft_53 : decode cX1_takeDraft 53 = .ok (.iaload, 1) := by decide +kernel
theorem dX1_takeDraft_54 : decode cX1_takeDraft 54 = .ok (.iastore, 1) := by decide +kernel
theorem dX1_takeDraft_55 : decode cX1_takeDraft 55 = .ok (.aload_n 0, 1) := by decide +kernel
theorem dX1_takeDraft_56 : decode cX1_takeDraft 56 = .ok (.getfield 21, 3) := by decide +kernel
theorem dX1_takeDraft_59 : decode cX1_takeDraft 59 = .ok (.iload_n 3, 1) := by decide +kernel
theorem dX1_takeDraft_60 : decode cX1_takeDraft 60 = .ok (.iload 4, 2) := by decide +kernel
theorem dX1_takeDraft_62 : decode cX1_takeDraft 62 = .ok (.iadd, 1) := by decide +kernel
theorem dX1_takeDraft_63 : decode cX1_takeDraft 63 = .ok (.aload_n 0, 1) := by decide +kernel
theorem dX1_takeDraft_64 : decode cX1_takeDraft 64 = .ok (.getfield 21, 3) := by decide +kernel
theorem dX1_takeDraft_67 : decode cX1_takeDraft 67 = .ok (.iload_n 2, 1) := by decide +kernel
theorem dX1_takeDraft_68 : decode cX1_takeDraft 68 = .ok (.iload 4, 2) := by decide +kernel
theorem dX1_takeDraft_70 : decode cX1_takeDraft 70 = .ok (.iadd, 1) := by decide +kernel
theorem dX1_takeDraft_71 : decode cX1_takeDraft 71 = .ok (.iaload, 1) := by decide +kernel
theorem dX1_takeDraft_72 : decode cX1_takeDraft 72 = .ok (.iastore, 1) := by decide +kernel
theorem dX1_takeDraft_73 : decode cX1_takeDraft 73 = .ok (.aload_n 0, 1) := by decide +kernel
theorem dX1_takeDraft_74 : decode cX1_takeDraft 74 = .ok (.getfield 24, 3) := by decide +kernel
theorem dX1_takeDraft_77 : decode cX1_takeDraft 77 = .ok (.iload_n 3, 1) := by decide +kernel
theorem dX1_takeDraft_78 : decode cX1_takeDraft 78 = .ok (.iload 4, 2) := by decide +kernel
theorem dX1_takeDraft_80 : decode cX1_takeDraft 80 = .ok (.iadd, 1) := by decide +kernel
theorem dX1_takeDraft_81 : decode cX1_takeDraft 81 = .ok (.aload_n 0, 1) := by decide +kernel
theorem dX1_takeDraft_82 : decode cX1_takeDraft 82 = .ok (.getfield 24, 3) := by decide +kernel
theorem dX1_takeDraft_85 : decode cX1_takeDraft 85 = .ok (.iload_n 2, 1) := by decide +kernel
theorem dX1_takeDraft_86 : decode cX1_takeDraft 86 = .ok (.iload 4, 2) := by decide +kernel
theorem dX1_takeDraft_88 : decode cX1_takeDraft 88 = .ok (.iadd, 1) := by decide +kernel
theorem dX1_takeDraft_89 : decode cX1_takeDraft 89 = .ok (.iaload, 1) := by decide +kernel
theorem dX1_takeDraft_90 : decode cX1_takeDraft 90 = .ok (.iastore, 1) := by decide +kernel
theorem dX1_takeDraft_91 : decode cX1_takeDraft 91 = .ok (.iinc 4 1, 3) := by decide +kernel
theorem dX1_takeDraft_94 : decode cX1_takeDraft 94 = .ok (.goto (-82), 3) := by decide +kernel
theorem dX1_takeDraft_97 : decode cX1_takeDraft 97 = .ok (.aload_n 0, 1) := by decide +kernel
theorem dX1_takeDraft_98 : decode cX1_takeDraft 98 = .ok (.getfield 9, 3) := by decide +kernel
theorem dX1_takeDraft_101 : decode cX1_takeDraft 101 = .ok (.iload_n 1, 1) := by decide +kernel
theorem dX1_takeDraft_102 : decode cX1_takeDraft 102 = .ok (.aload_n 0, 1) := by decide +kernel
theorem dX1_takeDraft_103 : decode cX1_takeDraft 103 = .ok (.getfield 9, 3) := by decide +kernel
theorem dX1_takeDraft_106 : decode cX1_takeDraft 106 = .ok (.bipush 9, 2) := by decide +kernel
theorem dX1_takeDraft_108 : decode cX1_takeDraft 108 = .ok (.iaload, 1) := by decide +kernel
theorem dX1_takeDraft_109 : decode cX1_takeDraft 109 = .ok (.iastore, 1) := by decide +kernel
theorem dX1_takeDraft_110 : decode cX1_takeDraft 110 = .ok (.return_, 1) := by decide +kernel
theorem dX2_faultOf_0 : decode cX2_faultOf 0 = .ok (.aload_n 2, 1) := by decide +kernel
theorem dX2_faultOf_1 : decode cX2_faultOf 1 = .ok (.invokevirtual 27, 3) := by decide +kernel
theorem dX2_faultOf_4 : decode cX2_faultOf 4 = .ok (.aload_n 0, 1) := by decide +kernel
theorem dX2_faultOf_5 : decode cX2_faultOf 5 = .ok (.iconst 0, 1) := by decide +kernel
theorem dX2_faultOf_6 : decode cX2_faultOf 6 = .ok (.putfield 11, 3) := by decide +kernel
theorem dX2_faultOf_9 : decode cX2_faultOf 9 = .ok (.iconst 0, 1) := by decide +kernel
theorem dX2_faultOf_10 : decode cX2_faultOf 10 = .ok (.istore_n 3, 1) := by decide +kernel
theorem dX2_faultOf_11 : decode cX2_faultOf 11 = .ok (.iload_n 3, 1) := by decide +kernel
theorem dX2_faultOf_12 : decode cX2_faultOf 12 = .ok (.aload_n 1, 1) := by decide +kernel
theorem dX2_faultOf_13 : decode cX2_faultOf 13 = .ok (.getfield 32, 3) := by decide +kernel
theorem dX2_faultOf_16 : decode cX2_faultOf 16 = .ok (.if_icmp .ge 25, 3) := by decide +kernel
theorem dX2_faultOf_41 : decode cX2_faultOf 41 = .ok (.aload_n 0, 1) := by decide +kernel
theorem dX2_faultOf_42 : decode cX2_faultOf 42 = .ok (.getfield 11, 3) := by decide +kernel
theorem dX2_faultOf_45 : decode cX2_faultOf 45 = .ok (.ifCond .eq 12, 3) := by decide +kernel
theorem dX2_faultOf_57 : decode cX2_faultOf 57 = .ok (.iconst (-1), 1) := by decide +kernel
theorem dX2_faultOf_58 : decode cX2_faultOf 58 = .ok (.goto 7, 3) := by decide +kernel
theorem dX2_faultOf_65 : decode cX2_faultOf 65 = .ok (.ireturn, 1) := by decide +kernel
theorem dX2_init_0 : decode cX2_init 0 = .ok (.aload_n 0, 1) := by decide +kernel
theorem dX2_init_1 : decode cX2_init 1 = .ok (.invokespecial 3, 3) := by decide +kernel
theorem dX2_init_4 : decode cX2_init 4 = .ok (.aload_n 0, 1) := by decide +kernel
theorem dX2_init_5 : decode cX2_init 5 = .ok (.iconst 0, 1) := by decide +kernel
theorem dX2_init_6 : decode cX2_init 6 = .ok (.putfield 11, 3) := by decide +kernel
theorem dX2_init_9 : decode cX2_init 9 = .ok (.aload_n 0, 1) := by decide +kernel
theorem dX2_init_10 : decode cX2_init 10 = .ok (.iconst 0, 1) := by decide +kernel
theorem dX2_init_11 : decode cX2_init 11 = .ok (.putfield 15, 3) := by decide +kernel
theorem dX2_init_14 : decode cX2_init 14 = .ok (.aload_n 0, 1) := by decide +kernel
theorem dX2_init_15 : decode cX2_init 15 = .ok (.iconst 0, 1) := by decide +kernel
theorem dX2_init_16 : decode cX2_init 16 = .ok (.putfield 18, 3) := by decide +kernel
theorem dX2_init_19 : decode cX2_init 19 = .ok (.aload_n 0, 1) := by decide +kernel
theorem dX2_init_20 : decode cX2_init 20 = .ok (.iconst 0, 1) := by decide +kernel
theorem dX2_init_21 : decode cX2_init 21 = .ok (.putfield 21, 3) := by decide +kernel
theorem dX2_init_24 : decode cX2_init 24 = .ok (.aload_n 0, 1) := by decide +kernel
theorem dX2_init_25 : decode cX2_init 25 = .ok (.iconst 0, 1) := by decide +kernel
theorem dX2_init_26 : decode cX2_init 26 = .ok (.putfield 24, 3) := by decide +kernel
theorem dX2_init_29 : decode cX2_init 29 = .ok (.return_, 1) := by decide +kernel
theorem dX3_init_0 : decode cX3_init 0 = .ok (.aload_n 0, 1) := by decide +kernel
theorem dX3_init_1 : decode cX3_init 1 = .ok (.invokespecial 3, 3) := by decide +kernel
theorem dX3_init_4 : decode cX3_init 4 = .ok (.aload_n 0, 1) := by decide +kernel
theorem dX3_init_5 : decode cX3_init 5 = .ok (.iconst 0, 1) := by decide +kernel
theorem dX3_init_6 : decode cX3_init 6 = .ok (.putfield 9, 3) := by decide +kernel
theorem dX3_init_9 : decode cX3_init 9 = .ok (.aload_n 0, 1) := by decide +kernel
theorem dX3_init_10 : decode cX3_init 10 = .ok (.iconst 0, 1) := by decide +kernel
theorem dX3_init_11 : decode cX3_init 11 = .ok (.putfield 15, 3) := by decide +kernel
theorem dX3_init_14 : decode cX3_init 14 = .ok (.aload_n 0, 1) := by decide +kernel
theorem dX3_init_15 : decode cX3_init 15 = .ok (.iconst 0, 1) := by decide +kernel
theorem dX3_init_16 : decode cX3_init 16 = .ok (.putfield 18, 3) := by decide +kernel
theorem dX3_init_19 : decode cX3_init 19 = .ok (.aload_n 0, 1) := by decide +kernel
theorem dX3_init_20 : decode cX3_init 20 = .ok (.lconst 0, 1) := by decide +kernel
theorem dX3_init_21 : decode cX3_init 21 = .ok (.putfield 21, 3) := by decide +kernel
theorem dX3_init_24 : decode cX3_init 24 = .ok (.aload_n 0, 1) := by decide +kernel
theorem dX3_init_25 : decode cX3_init 25 = .ok (.iconst 0, 1) := by decide +kernel
theorem dX3_init_26 : decode cX3_init 26 = .ok (.putfield 25, 3) := by decide +kernel
theorem dX3_init_29 : decode cX3_init 29 = .ok (.aload_n 0, 1) := by decide +kernel
theorem dX3_init_30 : decode cX3_init 30 = .ok (.bipush 20, 2) := by decide +kernel
theorem dX3_init_32 : decode cX3_init 32 = .ok (.newarray .boolean, 2) := by decide +kernel
theorem dX3_init_34 : decode cX3_init 34 = .ok (.putfield 28, 3) := by decide +kernel
theorem dX3_init_37 : decode cX3_init 37 = .ok (.aload_n 0, 1) := by decide +kernel
theorem dX3_init_38 : decode cX3_init 38 = .ok (.bipush 20, 2) := by decide +kernel
theorem dX3_init_40 : decode cX3_init 40 = .ok (.newarray .int, 2) := by decide +kernel
theorem dX3_init_42 : decode cX3_init 42 = .ok (.putfield 32, 3) := by decide +kernel
theorem dX3_init_45 : decode cX3_init 45 = .ok (.aload_n 0, 1) := by decide +kernel
theorem dX3_init_46 : decode cX3_init 46 = .ok (.bipush 20, 2) := by decide +kernel
theorem dX3_init_48 : decode cX3_init 48 = .ok (.newarray .int, 2) := by decide +kernel
theorem dX3_init_50 : decode cX3_init 50 = .ok (.putfield 36, 3) := by decide +kernel
theorem dX3_init_53 : decode cX3_init 53 = .ok (.aload_n 0, 1) := by decide +kernel
theorem dX3_init_54 : decode cX3_init 54 = .ok (.bipush 20, 2) := by decide +kernel
theorem dX3_init_56 : decode cX3_init 56 = .ok (.newarray .int, 2) := by decide +kernel
theorem dX3_init_58 : decode cX3_init 58 = .ok (.putfield 39, 3) := by decide +kernel
theorem dX3_init_61 : decode cX3_init 61 = .ok (.aload_n 0, 1) := by decide +kernel
theorem dX3_init_62 : decode cX3_init 62 = .ok (.bipush 20, 2) := by decide +kernel
theorem dX3_init_64 : decode cX3_init 64 = .ok (.newarray .int, 2) := by decide +kernel
theorem dX3_init_66 : decode cX3_init 66 = .ok (.putfield 42, 3) := by decide +kernel
theorem dX3_init_69 : decode cX3_init 69 = .ok (.aload_n 0, 1) := by decide +kernel
theorem dX3_init_70 : decode cX3_init 70 = .ok (.bipush 20, 2) := by decide +kernel
theorem dX3_init_72 : decode cX3_init 72 = .ok (.newarray .int, 2) := by decide +kernel
theorem dX3_init_74 : decode cX3_init 74 = .ok (.putfield 45, 3) := by decide +kernel
theorem dX3_init_77 : decode cX3_init 77 = .ok (.aload_n 0, 1) := by decide +kernel
theorem dX3_init_78 : decode cX3_init 78 = .ok (.bipush 20, 2) := by decide +kernel
theorem dX3_init_80 : decode cX3_init 80 = .ok (.newarray .int, 2) := by decide +kernel
theorem dX3_init_82 : decode cX3_init 82 = .ok (.putfield 48, 3) := by decide +kernel
theorem dX3_init_85 : decode cX3_init 85 = .ok (.aload_n 0, 1) := by decide +kernel
theorem dX3_init_86 : decode cX3_init 86 = .ok (.bipush 100, 2) := by decide +kernel
theorem dX3_init_88 : decode cX3_init 88 = .ok (.newarray .int, 2) := by decide +kernel
theorem dX3_init_90 : decode cX3_init 90 = .ok (.putfield 51, 3) := by decide +kernel
theorem dX3_init_93 : decode cX3_init 93 = .ok (.aload_n 0, 1) := by decide +kernel
theorem dX3_init_94 : decode cX3_init 94 = .ok (.iconst 5, 1) := by decide +kernel
theorem dX3_init_95 : decode cX3_init 95 = .ok (.newarray .int, 2) := by decide +kernel
theorem dX3_init_97 : decode cX3_init 97 = .ok (.putfield 54, 3) := by decide +kernel
theorem dX3_init_100 : decode cX3_init 100 = .ok (.aload_n 0, 1) := by decide +kernel
theorem dX3_init_101 : decode cX3_init 101 = .ok (.new 57, 3) := by decide +kernel
theorem dX3_init_104 : decode cX3_init 104 = .ok (.dup, 1) := by decide +kernel
theorem dX3_init_105 : decode cX3_init 105 = .ok (.invokespecial 59, 3) := by decide +kernel
theorem dX3_init_108 : decode cX3_init 108 = .ok (.putfield 60, 3) := by decide +kernel
theorem dX3_init_111 : decode cX3_init 111 = .ok (.aload_n 0, 1) := by decide +kernel
theorem dX3_init_112 : decode cX3_init 112 = .ok (.iconst 5, 1) := by decide +kernel
theorem dX3_init_113 : decode cX3_init 113 = .ok (.newarray .int, 2) := by decide +kernel
theorem dX3_init_115 : decode cX3_init 115 = .ok (.putfield 64, 3) := by decide +kernel
theorem dX3_init_118 : decode cX3_init 118 = .ok (.return_, 1) := by decide +kernel
theorem dX4_init_0 : decode cX4_init 0 = .ok (.aload_n 0, 1) := by decide +kernel
theorem dX4_init_1 : decode cX4_init 1 = .ok (.invokespecial 3, 3) := by decide +kernel
theorem dX4_init_4 : decode cX4_init 4 = .ok (.aload_n 0, 1) := by decide +kernel
theorem dX4_init_5 : decode cX4_init 5 = .ok (.sipush 8020, 3) := by decide +kernel
theorem dX4_init_8 : decode cX4_init 8 = .ok (.newarray .int, 2) := by decide +kernel
theorem dX4_init_10 : decode cX4_init 10 = .ok (.putfield 9, 3) := by decide +kernel
theorem dX4_init_13 : decode cX4_init 13 = .ok (.aload_n 0, 1) := by decide +kernel
theorem dX4_init_14 : decode cX4_init 14 = .ok (.sipush 401, 3) := by decide +kernel
theorem dX4_init_17 : decode cX4_init 17 = .ok (.newarray .int, 2) := by decide +kernel
theorem dX4_init_19 : decode cX4_init 19 = .ok (.putfield 15, 3) := by decide +kernel
theorem dX4_init_22 : decode cX4_init 22 = .ok (.return_, 1) := by decide +kernel
theorem dX5_add_0 : decode cX5_add 0 = .ok (.aload_n 0, 1) := by decide +kernel
theorem dX5_add_1 : decode cX5_add 1 = .ok (.getfield 9, 3) := by decide +kernel
theorem dX5_add_4 : decode cX5_add 4 = .ok (.bipush 20, 2) := by decide +kernel
theorem dX5_add_6 : decode cX5_add 6 = .ok (.if_icmp .ge 44, 3) := by decide +kernel
theorem dX5_add_9 : decode cX5_add 9 = .ok (.iload_n 1, 1) := by decide +kernel
theorem dX5_add_10 : decode cX5_add 10 = .ok (.invokestatic 28, 3) := by decide +kernel
theorem dX5_add_13 : decode cX5_add 13 = .ok (.ifCond .eq 37, 3) := by decide +kernel
theorem dX5_add_16 : decode cX5_add 16 = .ok (.iload_n 2, 1) := by decide +kernel
theorem dX5_add_17 : decode cX5_add 17 = .ok (.iconst 1, 1) := by decide +kernel
theorem dX5_add_18 : decode cX5_add 18 = .ok (.if_icmp .lt 32, 3) := by decide +kernel
theorem dX5_add_21 : decode cX5_add 21 = .ok (.iload_n 2, 1) := by decide +kernel
theorem dX5_add_22 : decode cX5_add 22 = .ok (.bipush 60, 2) := by decide +kernel
theorem dX5_add_24 : decode cX5_add 24 = .ok (.if_icmp .gt 26, 3) := by decide +kernel
theorem dX5_add_27 : decode cX5_add 27 = .ok (.iload_n 3, 1) := by decide +kernel
theorem dX5_add_28 : decode cX5_add 28 = .ok (.ifCond .lt 22, 3) := by decide +kernel
theorem dX5_add_31 : decode cX5_add 31 = .ok (.iload_n 3, 1) := by decide +kernel
theorem dX5_add_32 : decode cX5_add 32 = .ok (.sipush 2000, 3) := by decide +kernel
theorem dX5_add_35 : decode cX5_add 35 = .ok (.if_icmp .gt 15, 3) := by decide +kernel
theorem dX5_add_38 : decode cX5_add 38 = .ok (.iload 4, 2) := by decide +kernel
theorem dX5_add_40 : decode cX5_add 40 = .ok (.ifCond .lt 10, 3) := by decide +kernel
theorem dX5_add_43 : decode cX5_add 43 = .ok (.iload 4, 2) := by decide +kernel
theorem dX5_add_45 : decode cX5_add 45 = .ok (.bipush 50, 2) := by decide +kernel
theorem dX5_add_47 : decode cX5_add 47 = .ok (.if_icmp .le 5, 3) := by decide +kernel
theorem dX5_add_50 : decode cX5_add 50 = .ok (.iconst (-1), 1) := by decide +kernel
theorem dX5_add_51 : decode cX5_add 51 = .ok (.ireturn, 1) := by decide +kernel
theorem dX5_add_52 : decode cX5_add 52 = .ok (.aload_n 0, 1) := by decide +kernel
theorem dX5_add_53 : decode cX5_add 53 = .ok (.getfield 15, 3) := by decide +kernel
theorem dX5_add_56 : decode cX5_add 56 = .ok (.aload_n 0, 1) := by decide +kernel
theorem dX5_add_57 : decode cX5_add 57 = .ok (.getfield 9, 3) := by decide +kernel
theorem dX5_add_60 : decode cX5_add 60 = .ok (.iload_n 1, 1) := by decide +kernel
theorem dX5_add_61 : decode cX5_add 61 = .ok (.iastore, 1) := by decide +kernel
theorem dX5_add_62 : decode cX5_add 62 = .ok (.aload_n 0, 1) := by decide +kernel
theorem dX5_add_63 : decode cX5_add 63 = .ok (.getfield 19, 3) := by decide +kernel
theorem dX5_add_66 : decode cX5_add 66 = .ok (.aload_n 0, 1) := by decide +kernel
theorem dX5_add_67 : decode cX5_add 67 = .ok (.getfield 9, 3) := by decide +kernel
theorem dX5_add_70 : decode cX5_add 70 = .ok (.iload_n 2, 1) := by decide +kernel
theorem dX5_add_71 : decode cX5_add 71 = .ok (.iastore, 1) := by decide +kernel
theorem dX5_add_72 : decode cX5_add 72 = .ok (.aload_n 0, 1) := by decide +kernel
theorem dX5_add_73 : decode cX5_add 73 = .ok (.getfield 22, 3) := by decide +kernel
theorem dX5_add_76 : decode cX5_add 76 = .ok (.aload_n 0, 1) := by decide +kernel
theorem dX5_add_77 : decode cX5_add 77 = .ok (.getfield 9, 3) := by decide +kernel
theorem dX5_add_80 : decode cX5_add 80 = .ok (.iload_n 3, 1) := by decide +kernel
theorem dX5_add_81 : decode cX5_add 81 = .ok (.iastore, 1) := by decide +kernel
theorem dX5_add_82 : decode cX5_add 82 = .ok (.aload_n 0, 1) := by decide +kernel
theorem dX5_add_83 : decode cX5_add 83 = .ok (.getfield 25, 3) := by decide +kernel
theorem dX5_add_86 : decode cX5_add 86 = .ok (.aload_n 0, 1) := by decide +kernel
theorem dX5_add_87 : decode cX5_add 87 = .ok (.getfield 9, 3) := by decide +kernel
theorem dX5_add_90 : decode cX5_add 90 = .ok (.iload 4, 2) := by decide +kernel
theorem dX5_add_92 : decode cX5_add 92 = .ok (.iastore, 1) := by decide +kernel
theorem dX5_add_93 : decode cX5_add 93 = .ok (.aload_n 0, 1) := by decide +kernel
theorem dX5_add_94 : decode cX5_add 94 = .ok (.dup, 1) := by decide +kernel
theorem dX5_add_95 : decode cX5_add 95 = .ok (.getfield 9, 3) := by decide +kernel
theorem dX5_add_98 : decode cX5_add 98 = .ok (.iconst 1, 1) := by decide +kernel
theorem dX5_add_99 : decode cX5_add 99 = .ok (.iadd, 1) := by decide +kernel
theorem dX5_add_100 : decode cX5_add 100 = .ok (.putfield 9, 3) := by decide +kernel
theorem dX5_add_103 : decode cX5_add 103 = .ok (.aload_n 0, 1) := by decide +kernel
theorem dX5_add_104 : decode cX5_add 104 = .ok (.getfield 9, 3) := by decide +kernel
theorem dX5_add_107 : decode cX5_add 107 = .ok (.iconst 1, 1) := by decide +kernel
theorem dX5_add_108 : decode cX5_add 108 = .ok (.isub, 1) := by decide +kernel
theorem dX5_add_109 : decode cX5_add 109 = .ok (.ireturn, 1) := by decide +kernel
theorem dX5_init_0 : decode cX5_init 0 = .ok (.aload_n 0, 1) := by decide +kernel
theorem dX5_init_1 : decode cX5_init 1 = .ok (.invokespecial 3, 3) := by decide +kernel
theorem dX5_init_4 : decode cX5_init 4 = .ok (.aload_n 0, 1) := by decide +kernel
theorem dX5_init_5 : decode cX5_init 5 = .ok (.iconst 0, 1) := by decide +kernel
theorem dX5_init_6 : decode cX5_init 6 = .ok (.putfield 9, 3) := by decide +kernel
theorem dX5_init_9 : decode cX5_init 9 = .ok (.aload_n 0, 1) := by decide +kernel
theorem dX5_init_10 : decode cX5_init 10 = .ok (.bipush 20, 2) := by decide +kernel
theorem dX5_init_12 : decode cX5_init 12 = .ok (.newarray .int, 2) := by decide +kernel
theorem dX5_init_14 : decode cX5_init 14 = .ok (.putfield 15, 3) := by decide +kernel
theorem dX5_init_17 : decode cX5_init 17 = .ok (.aload_n 0, 1) := by decide +kernel
theorem dX5_init_18 : decode cX5_init 18 = .ok (.bipush 20, 2) := by decide +kernel
theorem dX5_init_20 : decode cX5_init 20 = .ok (.newarray .int, 2) := by decide +kernel
theorem dX5_init_22 : decode cX5_init 22 = .ok (.putfield 19, 3) := by decide +kernel
theorem dX5_init_25 : decode cX5_init 25 = .ok (.aload_n 0, 1) := by decide +kernel
theorem dX5_init_26 : decode cX5_init 26 = .ok (.bipush 20, 2) := by decide +kernel
theorem dX5_init_28 : decode cX5_init 28 = .ok (.newarray .int, 2) := by decide +kernel
theorem dX5_init_30 : decode cX5_init 30 = .ok (.putfield 22, 3) := by decide +kernel
theorem dX5_init_33 : decode cX5_init 33 = .ok (.aload_n 0, 1) := by decide +kernel
theorem dX5_init_34 : decode cX5_init 34 = .ok (.bipush 20, 2) := by decide +kernel
theorem dX5_init_36 : decode cX5_init 36 = .ok (.newarray .int, 2) := by decide +kernel
theorem dX5_init_38 : decode cX5_init 38 = .ok (.putfield 25, 3) := by decide +kernel
theorem dX5_init_41 : decode cX5_init 41 = .ok (.return_, 1) := by decide +kernel
theorem dX6_addPrime_0 : decode cX6_addPrime 0 = .ok (.aload_n 0, 1) := by decide +kernel
theorem dX6_addPrime_1 : decode cX6_addPrime 1 = .ok (.getfield 22, 3) := by decide +kernel
theorem dX6_addPrime_4 : decode cX6_addPrime 4 = .ok (.iconst 5, 1) := by decide +kernel
theorem dX6_addPrime_5 : decode cX6_addPrime 5 = .ok (.if_icmp .ge 11, 3) := by decide +kernel
theorem dX6_addPrime_8 : decode cX6_addPrime 8 = .ok (.aload_n 0, 1) := by decide +kernel
theorem dX6_addPrime_9 : decode cX6_addPrime 9 = .ok (.iload_n 1, 1) := by decide +kernel
theorem dX6_addPrime_10 : decode cX6_addPrime 10 = .ok (.invokevirtual 38, 3) := by decide +kernel
theorem dX6_addPrime_13 : decode cX6_addPrime 13 = .ok (.ifCond .ne 5, 3) := by decide +kernel
theorem dX6_addPrime_16 : decode cX6_addPrime 16 = .ok (.iconst (-1), 1) := by decide +kernel
theorem dX6_addPrime_17 : decode cX6_addPrime 17 = .ok (.ireturn, 1) := by decide +kernel
theorem dX6_addPrime_18 : decode cX6_addPrime 18 = .ok (.aload_n 0, 1) := by decide +kernel
theorem dX6_addPrime_19 : decode cX6_addPrime 19 = .ok (.getfield 25, 3) := by decide +kernel
theorem dX6_addPrime_22 : decode cX6_addPrime 22 = .ok (.aload_n 0, 1) := by decide +kernel
theorem dX6_addPrime_23 : decode cX6_addPrime 23 = .ok (.getfield 22, 3) := by decide +kernel
theorem dX6_addPrime_26 : decode cX6_addPrime 26 = .ok (.iload_n 1, 1) := by decide +kernel
theorem dX6_addPrime_27 : decode cX6_addPrime 27 = .ok (.iastore, 1) := by decide +kernel
theorem dX6_addPrime_28 : decode cX6_addPrime 28 = .ok (.aload_n 0, 1) := by decide +kernel
theorem dX6_addPrime_29 : decode cX6_addPrime 29 = .ok (.dup, 1) := by decide +kernel
theorem dX6_addPrime_30 : decode cX6_addPrime 30 = .ok (.getfield 22, 3) := by decide +kernel
theorem dX6_addPrime_33 : decode cX6_addPrime 33 = .ok (.iconst 1, 1) := by decide +kernel
theorem dX6_addPrime_34 : decode cX6_addPrime 34 = .ok (.iadd, 1) := by decide +kernel
theorem dX6_addPrime_35 : decode cX6_addPrime 35 = .ok (.putfield 22, 3) := by decide +kernel
theorem dX6_addPrime_38 : decode cX6_addPrime 38 = .ok (.aload_n 0, 1) := by decide +kernel
theorem dX6_addPrime_39 : decode cX6_addPrime 39 = .ok (.getfield 22, 3) := by decide +kernel
theorem dX6_addPrime_42 : decode cX6_addPrime 42 = .ok (.iconst 1, 1) := by decide +kernel
theorem dX6_addPrime_43 : decode cX6_addPrime 43 = .ok (.isub, 1) := by decide +kernel
theorem dX6_addPrime_44 : decode cX6_addPrime 44 = .ok (.ireturn, 1) := by decide +kernel
theorem dX6_init_0 : decode cX6_init 0 = .ok (.aload_n 0, 1) := by decide +kernel
theorem dX6_init_1 : decode cX6_init 1 = .ok (.invokespecial 3, 3) := by decide +kernel
theorem dX6_init_4 : decode cX6_init 4 = .ok (.aload_n 0, 1) := by decide +kernel
theorem dX6_init_5 : decode cX6_init 5 = .ok (.iconst 1, 1) := by decide +kernel
theorem dX6_init_6 : decode cX6_init 6 = .ok (.putfield 9, 3) := by decide +kernel
theorem dX6_init_9 : decode cX6_init 9 = .ok (.aload_n 0, 1) := by decide +kernel
theorem dX6_init_10 : decode cX6_init 10 = .ok (.bipush 30, 2) := by decide +kernel
theorem dX6_init_12 : decode cX6_init 12 = .ok (.newarray .int, 2) := by decide +kernel
theorem dX6_init_14 : decode cX6_init 14 = .ok (.putfield 15, 3) := by decide +kernel
theorem dX6_init_17 : decode cX6_init 17 = .ok (.aload_n 0, 1) := by decide +kernel
theorem dX6_init_18 : decode cX6_init 18 = .ok (.bipush 30, 2) := by decide +kernel
theorem dX6_init_20 : decode cX6_init 20 = .ok (.newarray .int, 2) := by decide +kernel
theorem dX6_init_22 : decode cX6_init 22 = .ok (.putfield 19, 3) := by decide +kernel
theorem dX6_init_25 : decode cX6_init 25 = .ok (.aload_n 0, 1) := by decide +kernel
theorem dX6_init_26 : decode cX6_init 26 = .ok (.iconst 0, 1) := by decide +kernel
theorem dX6_init_27 : decode cX6_init 27 = .ok (.putfield 22, 3) := by decide +kernel
theorem dX6_init_30 : decode cX6_init 30 = .ok (.aload_n 0, 1) := by decide +kernel
theorem dX6_init_31 : decode cX6_init 31 = .ok (.iconst 5, 1) := by decide +kernel
theorem dX6_init_32 : decode cX6_init 32 = .ok (.newarray .int, 2) := by decide +kernel
theorem dX6_init_34 : decode cX6_init 34 = .ok (.putfield 25, 3) := by decide +kernel
theorem dX6_init_37 : decode cX6_init 37 = .ok (.aload_n 0, 1) := by decide +kernel
theorem dX6_init_38 : decode cX6_init 38 = .ok (.iconst 0, 1) := by decide +kernel
theorem dX6_init_39 : decode cX6_init 39 = .ok (.putfield 28, 3) := by decide +kernel
theorem dX6_init_42 : decode cX6_init 42 = .ok (.aload_n 0, 1) := by decide +kernel
theorem dX6_init_43 : decode cX6_init 43 = .ok (.iconst 0, 1) := by decide +kernel
theorem dX6_init_44 : decode cX6_init 44 = .ok (.putfield 31, 3) := by decide +kernel
theorem dX6_init_47 : decode cX6_init 47 = .ok (.return_, 1) := by decide +kernel
theorem dX6_isBetweenEnds_0 : decode cX6_isBetweenEnds 0 = .ok (.iload_n 1, 1) := by decide +kernel
theorem dX6_isBetweenEnds_1 : decode cX6_isBetweenEnds 1 = .ok (.iconst 1, 1) := by decide +kernel
theorem dX6_isBetweenEnds_2 : decode cX6_isBetweenEnds 2 = .ok (.if_icmp .lt 15, 3) := by decide +kernel
theorem dX6_isBetweenEnds_5 : decode cX6_isBetweenEnds 5 = .ok (.iload_n 1, 1) := by decide +kernel
theorem dX6_isBetweenEnds_6 : decode cX6_isBetweenEnds 6 = .ok (.aload_n 0, 1) := by decide +kernel
theorem dX6_isBetweenEnds_7 : decode cX6_isBetweenEnds 7 = .ok (.invokevirtual 34, 3) := by decide +kernel
theorem dX6_isBetweenEnds_10 : decode cX6_isBetweenEnds 10 = .ok (.if_icmp .ge 7, 3) := by decide +kernel
theorem dX6_isBetweenEnds_13 : decode cX6_isBetweenEnds 13 = .ok (.iconst 1, 1) := by decide +kernel
theorem dX6_isBetweenEnds_14 : decode cX6_isBetweenEnds 14 = .ok (.goto 4, 3) := by decide +kernel
theorem dX6_isBetweenEnds_17 : decode cX6_isBetweenEnds 17 = .ok (.iconst 0, 1) := by decide +kernel
theorem dX6_isBetweenEnds_18 : decode cX6_isBetweenEnds 18 = .ok (.ireturn, 1) := by decide +kernel
theorem dX6_length_0 : decode cX6_length 0 = .ok (.aload_n 0, 1) := by decide +kernel
theorem dX6_length_1 : decode cX6_length 1 = .ok (.getfield 9, 3) := by decide +kernel
theorem dX6_length_4 : decode cX6_length 4 = .ok (.sipush 1000, 3) := by decide +kernel
theorem dX6_length_7 : decode cX6_length 7 = .ok (.imul, 1) := by decide +kernel
theorem dX6_length_8 : decode cX6_length 8 = .ok (.ireturn, 1) := by decide +kernel
theorem dX6_putCrash_0 : decode cX6_putCrash 0 = .ok (.aload_n 0, 1) := by decide +kernel
theorem dX6_putCrash_1 : decode cX6_putCrash 1 = .ok (.iload_n 1, 1) := by decide +kernel
theorem dX6_putCrash_2 : decode cX6_putCrash 2 = .ok (.invokevirtual 38, 3) := by decide +kernel
theorem dX6_putCrash_5 : decode cX6_putCrash 5 = .ok (.ifCond .eq 13, 3) := by decide +kernel
theorem dX6_putCrash_8 : decode cX6_putCrash 8 = .ok (.iload_n 2, 1) := by decide +kernel
theorem dX6_putCrash_9 : decode cX6_putCrash 9 = .ok (.ifCond .lt 9, 3) := by decide +kernel
theorem dX6_putCrash_12 : decode cX6_putCrash 12 = .ok (.iload_n 2, 1) := by decide +kernel
theorem dX6_putCrash_13 : decode cX6_putCrash 13 = .ok (.bipush 100, 2) := by decide +kernel
theorem dX6_putCrash_15 : decode cX6_putCrash 15 = .ok (.if_icmp .le 5, 3) := by decide +kernel
theorem dX6_putCrash_18 : decode cX6_putCrash 18 = .ok (.iconst 0, 1) := by decide +kernel
theorem dX6_putCrash_19 : decode cX6_putCrash 19 = .ok (.ireturn, 1) := by decide +kernel
theorem dX6_putCrash_20 : decode cX6_putCrash 20 = .ok (.aload_n 0, 1) := by decide +kernel
theorem dX6_putCrash_21 : decode cX6_putCrash 21 = .ok (.iload_n 1, 1) := by decide +kernel
theorem dX6_putCrash_22 : decode cX6_putCrash 22 = .ok (.putfield 28, 3) := by decide +kernel
theorem dX6_putCrash_25 : decode cX6_putCrash 25 = .ok (.aload_n 0, 1) := by decide +kernel
theorem dX6_putCrash_26 : decode cX6_putCrash 26 = .ok (.iload_n 2, 1) := by decide +kernel
theorem dX6_putCrash_27 : decode cX6_putCrash 27 = .ok (.putfield 31, 3) := by decide +kernel
theorem dX6_putCrash_30 : decode cX6_putCrash 30 = .ok (.iconst 1, 1) := by decide +kernel
theorem dX6_putCrash_31 : decode cX6_putCrash 31 = .ok (.ireturn, 1) := by decide +kernel
theorem dX6_renew_0 : decode cX6_renew 0 = .ok (.iload_n 1, 1) := by decide +kernel
theorem dX6_renew_1 : decode cX6_renew 1 = .ok (.iconst 1, 1) := by decide +kernel
theorem dX6_renew_2 : decode cX6_renew 2 = .ok (.if_icmp .lt 9, 3) := by decide +kernel
theorem dX6_renew_5 : decode cX6_renew 5 = .ok (.iload_n 1, 1) := by decide +kernel
theorem dX6_renew_6 : decode cX6_renew 6 = .ok (.bipush 30, 2) := by decide +kernel
theorem dX6_renew_8 : decode cX6_renew 8 = .ok (.if_icmp .le 5, 3) := by decide +kernel
theorem dX6_renew_11 : decode cX6_renew 11 = .ok (.iconst 0, 1) := by decide +kernel
theorem dX6_renew_12 : decode cX6_renew 12 = .ok (.ireturn, 1) := by decide +kernel
theorem dX6_renew_13 : decode cX6_renew 13 = .ok (.aload_n 0, 1) := by decide +kernel
theorem dX6_renew_14 : decode cX6_renew 14 = .ok (.iload_n 1, 1) := by decide +kernel
theorem dX6_renew_15 : decode cX6_renew 15 = .ok (.putfield 9, 3) := by decide +kernel
theorem dX6_renew_18 : decode cX6_renew 18 = .ok (.iconst 0, 1) := by decide +kernel
theorem dX6_renew_19 : decode cX6_renew 19 = .ok (.istore_n 2, 1) := by decide +kernel
theorem dX6_renew_20 : decode cX6_renew 20 = .ok (.iload_n 2, 1) := by decide +kernel
theorem dX6_renew_21 : decode cX6_renew 21 = .ok (.bipush 30, 2) := by decide +kernel
theorem dX6_renew_23 : decode cX6_renew 23 = .ok (.if_icmp .ge 23, 3) := by decide +kernel
theorem dX6_renew_26 : decode cX6_renew 26 = .ok (.aload_n 0, 1) := by decide +kernel
theorem dX6_renew_27 : decode cX6_renew 27 = .ok (.getfield 15, 3) := by decide +kernel
theorem dX6_renew_30 : decode cX6_renew 30 = .ok (.iload_n 2, 1) := by decide +kernel
theorem dX6_renew_31 : decode cX6_renew 31 = .ok (.iconst 0, 1) := by decide +kernel
theorem dX6_renew_32 : decode cX6_renew 32 = .ok (.iastore, 1) := by decide +kernel
theorem dX6_renew_33 : decode cX6_renew 33 = .ok (.aload_n 0, 1) := by decide +kernel
theorem dX6_renew_34 : decode cX6_renew 34 = .ok (.getfield 19, 3) := by decide +kernel
theorem dX6_renew_37 : decode cX6_renew 37 = .ok (.iload_n 2, 1) := by decide +kernel
theorem dX6_renew_38 : decode cX6_renew 38 = .ok (.iconst 0, 1) := by decide +kernel
theorem dX6_renew_39 : decode cX6_renew 39 = .ok (.iastore, 1) := by decide +kernel
theorem dX6_renew_40 : decode cX6_renew 40 = .ok (.iinc 2 1, 3) := by decide +kernel
theorem dX6_renew_43 : decode cX6_renew 43 = .ok (.goto (-23), 3) := by decide +kernel
theorem dX6_renew_46 : decode cX6_renew 46 = .ok (.aload_n 0, 1) := by decide +kernel
theorem dX6_renew_47 : decode cX6_renew 47 = .ok (.iconst 0, 1) := by decide +kernel
theorem dX6_renew_48 : decode cX6_renew 48 = .ok (.putfield 22, 3) := by decide +kernel
theorem dX6_renew_51 : decode cX6_renew 51 = .ok (.aload_n 0, 1) := by decide +kernel
theorem dX6_renew_52 : decode cX6_renew 52 = .ok (.iconst 0, 1) := by decide +kernel
theorem dX6_renew_53 : decode cX6_renew 53 = .ok (.putfield 28, 3) := by decide +kernel
theorem dX6_renew_56 : decode cX6_renew 56 = .ok (.aload_n 0, 1) := by decide +kernel
theorem dX6_renew_57 : decode cX6_renew 57 = .ok (.iconst 0, 1) := by decide +kernel
theorem dX6_renew_58 : decode cX6_renew 58 = .ok (.putfield 31, 3) := by decide +kernel
theorem dX6_renew_61 : decode cX6_renew 61 = .ok (.iconst 1, 1) := by decide +kernel
theorem dX6_renew_62 : decode cX6_renew 62 = .ok (.ireturn, 1) := by decide +kernel
theorem dX6_shape_0 : decode cX6_shape 0 = .ok (.iload_n 1, 1) := by decide +kernel
theorem dX6_shape_1 : decode cX6_shape 1 = .ok (.ifCond .lt 35, 3) := by decide +kernel
theorem dX6_shape_4 : decode cX6_shape 4 = .ok (.iload_n 1, 1) := by decide +kernel
theorem dX6_shape_5 : decode cX6_shape 5 = .ok (.aload_n 0, 1) := by decide +kernel
theorem dX6_shape_6 : decode cX6_shape 6 = .ok (.getfield 9, 3) := by decide +kernel
theorem dX6_shape_9 : decode cX6_shape 9 = .ok (.if_icmp .ge 27, 3) := by decide +kernel
theorem dX6_shape_12 : decode cX6_shape 12 = .ok (.iload_n 2, 1) := by decide +kernel
theorem dX6_shape_13 : decode cX6_shape 13 = .ok (.bipush (-5), 2) := by decide +kernel
theorem dX6_shape_15 : decode cX6_shape 15 = .ok (.if_icmp .lt 21, 3) := by decide +kernel
theorem dX6_shape_18 : decode cX6_shape 18 = .ok (.iload_n 2, 1) := by decide +kernel
theorem dX6_shape_19 : decode cX6_shape 19 = .ok (.bipush 10, 2) := by decide +kernel
theorem dX6_shape_21 : decode cX6_shape 21 = .ok (.if_icmp .gt 15, 3) := by decide +kernel
theorem dX6_shape_24 : decode cX6_shape 24 = .ok (.iload_n 3, 1) := by decide +kernel
theorem dX6_shape_25 : decode cX6_shape 25 = .ok (.bipush (-3), 2) := by decide +kernel
theorem dX6_shape_27 : decode cX6_shape 27 = .ok (.if_icmp .lt 9, 3) := by decide +kernel
theorem dX6_shape_30 : decode cX6_shape 30 = .ok (.iload_n 3, 1) := by decide +kernel
theorem dX6_shape_31 : decode cX6_shape 31 = .ok (.bipush 9, 2) := by decide +kernel
theorem dX6_shape_33 : decode cX6_shape 33 = .ok (.if_icmp .le 5, 3) := by decide +kernel
theorem dX6_shape_36 : decode cX6_shape 36 = .ok (.iconst 0, 1) := by decide +kernel
theorem dX6_shape_37 : decode cX6_shape 37 = .ok (.ireturn, 1) := by decide +kernel
theorem dX6_shape_38 : decode cX6_shape 38 = .ok (.aload_n 0, 1) := by decide +kernel
theorem dX6_shape_39 : decode cX6_shape 39 = .ok (.getfield 15, 3) := by decide +kernel
theorem dX6_shape_42 : decode cX6_shape 42 = .ok (.iload_n 1, 1) := by decide +kernel
theorem dX6_shape_43 : decode cX6_shape 43 = .ok (.iload_n 2, 1) := by decide +kernel
theorem dX6_shape_44 : decode cX6_shape 44 = .ok (.iastore, 1) := by decide +kernel
theorem dX6_shape_45 : decode cX6_shape 45 = .ok (.aload_n 0, 1) := by decide +kernel
theorem dX6_shape_46 : decode cX6_shape 46 = .ok (.getfield 19, 3) := by decide +kernel
theorem dX6_shape_49 : decode cX6_shape 49 = .ok (.iload_n 1, 1) := by decide +kernel
theorem dX6_shape_50 : decode cX6_shape 50 = .ok (.iload_n 3, 1) := by decide +kernel
theorem dX6_shape_51 : decode cX6_shape 51 = .ok (.iastore, 1) := by decide +kernel
theorem dX6_shape_52 : decode cX6_shape 52 = .ok (.iconst 1, 1) := by decide +kernel
theorem dX6_shape_53 : decode cX6_shape 53 = .ok (.ireturn, 1) := by decide +kernel
theorem dX7_howManyOut_0 : decode cX7_howManyOut 0 = .ok (.iconst 0, 1) := by decide +kernel
theorem dX7_howManyOut_1 : decode cX7_howManyOut 1 = .ok (.istore_n 2, 1) := by decide +kernel
theorem dX7_howManyOut_2 : decode cX7_howManyOut 2 = .ok (.iconst 0, 1) := by decide +kernel
theorem dX7_howManyOut_3 : decode cX7_howManyOut 3 = .ok (.istore_n 3, 1) := by decide +kernel
theorem dX7_howManyOut_4 : decode cX7_howManyOut 4 = .ok (.iload_n 3, 1) := by decide +kernel
theorem dX7_howManyOut_5 : decode cX7_howManyOut 5 = .ok (.iload_n 1, 1) := by decide +kernel
theorem dX7_howManyOut_6 : decode cX7_howManyOut 6 = .ok (.if_icmp .ge 27, 3) := by decide +kernel
theorem dX7_howManyOut_33 : decode cX7_howManyOut 33 = .ok (.iload_n 2, 1) := by decide +kernel
theorem dX7_howManyOut_34 : decode cX7_howManyOut 34 = .ok (.ireturn, 1) := by decide +kernel
theorem dX7_init_0 : decode cX7_init 0 = .ok (.aload_n 0, 1) := by decide +kernel
theorem dX7_init_1 : decode cX7_init 1 = .ok (.invokespecial 3, 3) := by decide +kernel
theorem dX7_init_4 : decode cX7_init 4 = .ok (.aload_n 0, 1) := by decide +kernel
theorem dX7_init_5 : decode cX7_init 5 = .ok (.iconst 0, 1) := by decide +kernel
theorem dX7_init_6 : decode cX7_init 6 = .ok (.putfield 9, 3) := by decide +kernel
theorem dX7_init_9 : decode cX7_init 9 = .ok (.aload_n 0, 1) := by decide +kernel
theorem dX7_init_10 : decode cX7_init 10 = .ok (.bipush 20, 2) := by decide +kernel
theorem dX7_init_12 : decode cX7_init 12 = .ok (.putfield 15, 3) := by decide +kernel
theorem dX7_init_15 : decode cX7_init 15 = .ok (.aload_n 0, 1) := by decide +kernel
theorem dX7_init_16 : decode cX7_init 16 = .ok (.bipush 20, 2) := by decide +kernel
theorem dX7_init_18 : decode cX7_init 18 = .ok (.newarray .int, 2) := by decide +kernel
theorem dX7_init_20 : decode cX7_init 20 = .ok (.putfield 18, 3) := by decide +kernel
theorem dX7_init_23 : decode cX7_init 23 = .ok (.aload_n 0, 1) := by decide +kernel
theorem dX7_init_24 : decode cX7_init 24 = .ok (.bipush 20, 2) := by decide +kernel
theorem dX7_init_26 : decode cX7_init 26 = .ok (.newarray .int, 2) := by decide +kernel
theorem dX7_init_28 : decode cX7_init 28 = .ok (.putfield 22, 3) := by decide +kernel
theorem dX7_init_31 : decode cX7_init 31 = .ok (.aload_n 0, 1) := by decide +kernel
theorem dX7_init_32 : decode cX7_init 32 = .ok (.bipush 20, 2) := by decide +kernel
theorem dX7_init_34 : decode cX7_init 34 = .ok (.newarray .boolean, 2) := by decide +kernel
theorem dX7_init_36 : decode cX7_init 36 = .ok (.putfield 25, 3) := by decide +kernel
theorem dX7_init_39 : decode cX7_init 39 = .ok (.return_, 1) := by decide +kernel
theorem dX7_lowestThreeOf_0 : decode cX7_lowestThreeOf 0 = .ok (.iconst 0, 1) := by decide +kernel
theorem dX7_lowestThreeOf_1 : decode cX7_lowestThreeOf 1 = .ok (.istore_n 3, 1) := by decide +kernel
theorem dX7_lowestThreeOf_2 : decode cX7_lowestThreeOf 2 = .ok (.iconst 0, 1) := by decide +kernel
theorem dX7_lowestThreeOf_3 : decode cX7_lowestThreeOf 3 = .ok (.istore 4, 2) := by decide +kernel
theorem dX7_lowestThreeOf_5 : decode cX7_lowestThreeOf 5 = .ok (.iconst 0, 1) := by decide +kernel
theorem dX7_lowestThreeOf_6 : decode cX7_lowestThreeOf 6 = .ok (.istore 5, 2) := by decide +kernel
theorem dX7_lowestThreeOf_8 : decode cX7_lowestThreeOf 8 = .ok (.iload 5, 2) := by decide +kernel
theorem dX7_lowestThreeOf_10 : decode cX7_lowestThreeOf 10 = .ok (.aload_n 2, 1) := by decide +kernel
theorem dX7_lowestThreeOf_11 : decode cX7_lowestThreeOf 11 = .ok (.getfield 54, 3) := by decide +kernel
theorem dX7_lowestThreeOf_14 : decode cX7_lowestThreeOf 14 = .ok (.if_icmp .ge 47, 3) := by decide +kernel
theorem dX7_lowestThreeOf_61 : decode cX7_lowestThreeOf 61 = .ok (.iload_n 3, 1) := by decide +kernel
theorem dX7_lowestThreeOf_62 : decode cX7_lowestThreeOf 62 = .ok (.iconst 3, 1) := by decide +kernel
theorem dX7_lowestThreeOf_63 : decode cX7_lowestThreeOf 63 = .ok (.if_icmp .ge 7, 3) := by decide +kernel
theorem dX7_lowestThreeOf_66 : decode cX7_lowestThreeOf 66 = .ok (.iconst (-1), 1) := by decide +kernel
theorem dX7_lowestThreeOf_67 : decode cX7_lowestThreeOf 67 = .ok (.goto 5, 3) := by decide +kernel
theorem dX7_lowestThreeOf_72 : decode cX7_lowestThreeOf 72 = .ok (.ireturn, 1) := by decide +kernel
theorem dX8_append_0 : decode cX8_append 0 = .ok (.iconst 0, 1) := by decide +kernel
theorem dX8_append_1 : decode cX8_append 1 = .ok (.istore_n 2, 1) := by decide +kernel
theorem dX8_append_2 : decode cX8_append 2 = .ok (.iload_n 2, 1) := by decide +kernel
theorem dX8_append_3 : decode cX8_append 3 = .ok (.iconst 4, 1) := by decide +kernel
theorem dX8_append_4 : decode cX8_append 4 = .ok (.if_icmp .ge 49, 3) := by decide +kernel
theorem dX8_append_7 : decode cX8_append 7 = .ok (.aload_n 0, 1) := by decide +kernel
theorem dX8_append_8 : decode cX8_append 8 = .ok (.iload_n 1, 1) := by decide +kernel
theorem dX8_append_9 : decode cX8_append 9 = .ok (.iload_n 2, 1) := by decide +kernel
theorem dX8_append_10 : decode cX8_append 10 = .ok (.invokevirtual 19, 3) := by decide +kernel
theorem dX8_append_13 : decode cX8_append 13 = .ok (.istore_n 3, 1) := by decide +kernel
theorem dX8_append_14 : decode cX8_append 14 = .ok (.iload_n 3, 1) := by decide +kernel
theorem dX8_append_15 : decode cX8_append 15 = .ok (.ifCond .eq 32, 3) := by decide +kernel
theorem dX8_append_18 : decode cX8_append 18 = .ok (.aload_n 0, 1) := by decide +kernel
theorem dX8_append_19 : decode cX8_append 19 = .ok (.getfield 9, 3) := by decide +kernel
theorem dX8_append_22 : decode cX8_append 22 = .ok (.bipush 100, 2) := by decide +kernel
theorem dX8_append_24 : decode cX8_append 24 = .ok (.if_icmp .ge 23, 3) := by decide +kernel
theorem dX8_append_27 : decode cX8_append 27 = .ok (.aload_n 0, 1) := by decide +kernel
theorem dX8_append_28 : decode cX8_append 28 = .ok (.getfield 15, 3) := by decide +kernel
theorem dX8_append_31 : decode cX8_append 31 = .ok (.aload_n 0, 1) := by decide +kernel
theorem dX8_append_32 : decode cX8_append 32 = .ok (.getfield 9, 3) := by decide +kernel
theorem dX8_append_35 : decode cX8_append 35 = .ok (.iload_n 3, 1) := by decide +kernel
theorem dX8_append_36 : decode cX8_append 36 = .ok (.iastore, 1) := by decide +kernel
theorem dX8_append_37 : decode cX8_append 37 = .ok (.aload_n 0, 1) := by decide +kernel
theorem dX8_append_38 : decode cX8_append 38 = .ok (.dup, 1) := by decide +kernel
theorem dX8_append_39 : decode cX8_append 39 = .ok (.getfield 9, 3) := by decide +kernel
theorem dX8_append_42 : decode cX8_append 42 = .ok (.iconst 1, 1) := by decide +kernel
theorem dX8_append_43 : decode cX8_append 43 = .ok (.iadd, 1) := by decide +kernel
theorem dX8_append_44 : decode cX8_append 44 = .ok (.putfield 9, 3) := by decide +kernel
theorem dX8_append_47 : decode cX8_append 47 = .ok (.iinc 2 1, 3) := by decide +kernel
theorem dX8_append_50 : decode cX8_append 50 = .ok (.goto (-48), 3) := by decide +kernel
theorem dX8_append_53 : decode cX8_append 53 = .ok (.return_, 1) := by decide +kernel
theorem dX8_byteOf_0 : decode cX8_byteOf 0 = .ok (.iload_n 1, 1) := by decide +kernel
theorem dX8_byteOf_1 : decode cX8_byteOf 1 = .ok (.bipush 8, 2) := by decide +kernel
theorem dX8_byteOf_3 : decode cX8_byteOf 3 = .ok (.iconst 3, 1) := by decide +kernel
theorem dX8_byteOf_4 : decode cX8_byteOf 4 = .ok (.iload_n 2, 1) := by decide +kernel
theorem dX8_byteOf_5 : decode cX8_byteOf 5 = .ok (.isub, 1) := by decide +kernel
theorem dX8_byteOf_6 : decode cX8_byteOf 6 = .ok (.imul, 1) := by decide +kernel
theorem dX8_byteOf_7 : decode cX8_byteOf 7 = .ok (.iushr, 1) := by decide +kernel
theorem dX8_byteOf_8 : decode cX8_byteOf 8 = .ok (.sipush 255, 3) := by decide +kernel
theorem dX8_byteOf_11 : decode cX8_byteOf 11 = .ok (.iand, 1) := by decide +kernel
theorem dX8_byteOf_12 : decode cX8_byteOf 12 = .ok (.ireturn, 1) := by decide +kernel
theorem dX8_bytesIn_0 : decode cX8_bytesIn 0 = .ok (.iconst 0, 1) := by decide +kernel
theorem dX8_bytesIn_1 : decode cX8_bytesIn 1 = .ok (.istore_n 2, 1) := by decide +kernel
theorem dX8_bytesIn_2 : decode cX8_bytesIn 2 = .ok (.iconst 0, 1) := by decide +kernel
theorem dX8_bytesIn_3 : decode cX8_bytesIn 3 = .ok (.istore_n 3, 1) := by decide +kernel
theorem dX8_bytesIn_4 : decode cX8_bytesIn 4 = .ok (.iload_n 3, 1) := by decide +kernel
theorem dX8_bytesIn_5 : decode cX8_bytesIn 5 = .ok (.iconst 4, 1) := by decide +kernel
theorem dX8_bytesIn_6 : decode cX8_bytesIn 6 = .ok (.if_icmp .ge 21, 3) := by decide +kernel
theorem dX8_bytesIn_9 : decode cX8_bytesIn 9 = .ok (.aload_n 0, 1) := by decide +kernel
theorem dX8_bytesIn_10 : decode cX8_bytesIn 10 = .ok (.iload_n 1, 1) := by decide +kernel
theorem dX8_bytesIn_11 : decode cX8_bytesIn 11 = .ok (.iload_n 3, 1) := by decide +kernel
theorem dX8_bytesIn_12 : decode cX8_bytesIn 12 = .ok (.invokevirtual 19, 3) := by decide +kernel
theorem dX8_bytesIn_15 : decode cX8_bytesIn 15 = .ok (.ifCond .eq 6, 3) := by decide +kernel
theorem dX8_bytesIn_18 : decode cX8_bytesIn 18 = .ok (.iinc 2 1, 3) := by decide +kernel
theorem dX8_bytesIn_21 : decode cX8_bytesIn 21 = .ok (.iinc 3 1, 3) := by decide +kernel
theorem dX8_bytesIn_24 : decode cX8_bytesIn 24 = .ok (.goto (-20), 3) := by decide +kernel
theorem dX8_bytesIn_27 : decode cX8_bytesIn 27 = .ok (.iload_n 2, 1) := by decide +kernel
theorem dX8_bytesIn_28 : decode cX8_bytesIn 28 = .ok (.ireturn, 1) := by decide +kernel
theorem dX8_init_0 : decode cX8_init 0 = .ok (.aload_n 0, 1) := by decide +kernel
theorem dX8_init_1 : decode cX8_init 1 = .ok (.invokespecial 3, 3) := by decide +kernel
theorem dX8_init_4 : decode cX8_init 4 = .ok (.aload_n 0, 1) := by decide +kernel
theorem dX8_init_5 : decode cX8_init 5 = .ok (.iconst 0, 1) := by decide +kernel
theorem dX8_init_6 : decode cX8_init 6 = .ok (.putfield 9, 3) := by decide +kernel
theorem dX8_init_9 : decode cX8_init 9 = .ok (.aload_n 0, 1) := by decide +kernel
theorem dX8_init_10 : decode cX8_init 10 = .ok (.bipush 100, 2) := by decide +kernel
theorem dX8_init_12 : decode cX8_init 12 = .ok (.newarray .int, 2) := by decide +kernel
theorem dX8_init_14 : decode cX8_init 14 = .ok (.putfield 15, 3) := by decide +kernel
theorem dX8_init_17 : decode cX8_init 17 = .ok (.return_, 1) := by decide +kernel
theorem dX9_at_0 : decode cX9_at 0 = .ok (.aload_n 0, 1) := by decide +kernel
theorem dX9_at_1 : decode cX9_at 1 = .ok (.getfield 72, 3) := by decide +kernel
theorem dX9_at_4 : decode cX9_at 4 = .ok (.ifCond .eq 8, 3) := by decide +kernel
theorem dX9_at_12 : decode cX9_at 12 = .ok (.iconst (-1), 1) := by decide +kernel
theorem dX9_at_13 : decode cX9_at 13 = .ok (.ireturn, 1) := by decide +kernel
theorem dX9_attempt_0 : decode cX9_attempt 0 = .ok (.aload_n 0, 1) := by decide +kernel
theorem dX9_attempt_1 : decode cX9_attempt 1 = .ok (.iload_n 1, 1) := by decide +kernel
theorem dX9_attempt_2 : decode cX9_attempt 2 = .ok (.iload_n 2, 1) := by decide +kernel
theorem dX9_attempt_3 : decode cX9_attempt 3 = .ok (.invokevirtual 207, 3) := by decide +kernel
theorem dX9_attempt_6 : decode cX9_attempt 6 = .ok (.ifCond .eq 20, 3) := by decide +kernel
theorem dX9_attempt_26 : decode cX9_attempt 26 = .ok (.iconst (-1), 1) := by decide +kernel
theorem dX9_attempt_27 : decode cX9_attempt 27 = .ok (.ireturn, 1) := by decide +kernel
theorem dX9_best_0 : decode cX9_best 0 = .ok (.aload_n 0, 1) := by decide +kernel
theorem dX9_best_1 : decode cX9_best 1 = .ok (.iload_n 1, 1) := by decide +kernel
theorem dX9_best_2 : decode cX9_best 2 = .ok (.iload_n 2, 1) := by decide +kernel
theorem dX9_best_3 : decode cX9_best 3 = .ok (.invokevirtual 207, 3) := by decide +kernel
theorem dX9_best_6 : decode cX9_best 6 = .ok (.ifCond .eq 10, 3) := by decide +kernel
theorem dX9_best_16 : decode cX9_best 16 = .ok (.iconst (-1), 1) := by decide +kernel
theorem dX9_best_17 : decode cX9_best 17 = .ok (.ireturn, 1) := by decide +kernel
theorem dX9_canTry_0 : decode cX9_canTry 0 = .ok (.iload_n 1, 1) := by decide +kernel
theorem dX9_canTry_1 : decode cX9_canTry 1 = .ok (.invokestatic 116, 3) := by decide +kernel
theorem dX9_canTry_4 : decode cX9_canTry 4 = .ok (.ifCond .eq 28, 3) := by decide +kernel
theorem dX9_canTry_7 : decode cX9_canTry 7 = .ok (.aload_n 0, 1) := by decide +kernel
theorem dX9_canTry_8 : decode cX9_canTry 8 = .ok (.getfield 19, 3) := by decide +kernel
theorem dX9_canTry_11 : decode cX9_canTry 11 = .ok (.iload_n 2, 1) := by decide +kernel
theorem dX9_canTry_12 : decode cX9_canTry 12 = .ok (.invokevirtual 224, 3) := by decide +kernel
theorem dX9_canTry_15 : decode cX9_canTry 15 = .ok (.ifCond .eq 17, 3) := by decide +kernel
theorem dX9_canTry_18 : decode cX9_canTry 18 = .ok (.aload_n 0, 1) := by decide +kernel
theorem dX9_canTry_19 : decode cX9_canTry 19 = .ok (.getfield 12, 3) := by decide +kernel
theorem dX9_canTry_22 : decode cX9_canTry 22 = .ok (.getfield 122, 3) := by decide +kernel
theorem dX9_canTry_25 : decode cX9_canTry 25 = .ok (.ifCond .le 7, 3) := by decide +kernel
theorem dX9_canTry_32 : decode cX9_canTry 32 = .ok (.iconst 0, 1) := by decide +kernel
theorem dX9_canTry_33 : decode cX9_canTry 33 = .ok (.ireturn, 1) := by decide +kernel
theorem dX9_choice_0 : decode cX9_choice 0 = .ok (.aload_n 0, 1) := by decide +kernel
theorem dX9_choice_1 : decode cX9_choice 1 = .ok (.getfield 68, 3) := by decide +kernel
theorem dX9_choice_4 : decode cX9_choice 4 = .ok (.iconst 4, 1) := by decide +kernel
theorem dX9_choice_5 : decode cX9_choice 5 = .ok (.if_icmp .ge 22, 3) := by decide +kernel
theorem dX9_choice_8 : decode cX9_choice 8 = .ok (.aload_n 0, 1) := by decide +kernel
theorem dX9_choice_9 : decode cX9_choice 9 = .ok (.getfield 40, 3) := by decide +kernel
theorem dX9_choice_12 : decode cX9_choice 12 = .ok (.aload_n 0, 1) := by decide +kernel
theorem dX9_choice_13 : decode cX9_choice 13 = .ok (.getfield 26, 3) := by decide +kernel
theorem dX9_choice_16 : decode cX9_choice 16 = .ok (.aload_n 0, 1) := by decide +kernel
theorem dX9_choice_17 : decode cX9_choice 17 = .ok (.getfield 33, 3) := by decide +kernel
theorem dX9_choice_20 : decode cX9_choice 20 = .ok (.invokevirtual 112, 3) := by decide +kernel
theorem dX9_choice_23 : decode cX9_choice 23 = .ok (.iconst (-1), 1) := by decide +kernel
theorem dX9_choice_24 : decode cX9_choice 24 = .ok (.if_icmp .eq 5, 3) := by decide +kernel
theorem dX9_choice_29 : decode cX9_choice 29 = .ok (.aload_n 0, 1) := by decide +kernel
theorem dX9_choice_30 : decode cX9_choice 30 = .ok (.getfield 33, 3) := by decide +kernel
theorem dX9_choice_33 : decode cX9_choice 33 = .ok (.iconst 5, 1) := by decide +kernel
theorem dX9_choice_34 : decode cX9_choice 34 = .ok (.aload_n 0, 1) := by decide +kernel
theorem dX9_choice_35 : decode cX9_choice 35 = .ok (.getfield 68, 3) := by decide +kernel
theorem dX9_choice_38 : decode cX9_choice 38 = .ok (.iadd, 1) := by decide +kernel
theorem dX9_choice_39 : decode cX9_choice 39 = .ok (.invokevirtual 119, 3) := by decide +kernel
theorem dX9_choice_42 : decode cX9_choice 42 = .ok (.aload_n 0, 1) := by decide +kernel
theorem dX9_choice_43 : decode cX9_choice 43 = .ok (.getfield 26, 3) := by decide +kernel
theorem dX9_choice_46 : decode cX9_choice 46 = .ok (.iconst 0, 1) := by decide +kernel
theorem dX9_choice_47 : decode cX9_choice 47 = .ok (.putfield 105, 3) := by decide +kernel
theorem dX9_choice_50 : decode cX9_choice 50 = .ok (.aload_n 0, 1) := by decide +kernel
theorem dX9_choice_51 : decode cX9_choice 51 = .ok (.dup, 1) := by decide +kernel
theorem dX9_choice_52 : decode cX9_choice 52 = .ok (.getfield 68, 3) := by decide +kernel
theorem dX9_choice_55 : decode cX9_choice 55 = .ok (.iconst 1, 1) := by decide +kernel
theorem dX9_choice_56 : decode cX9_choice 56 = .ok (.iadd, 1) := by decide +kernel
theorem dX9_choice_57 : decode cX9_choice 57 = .ok (.putfield 68, 3) := by decide +kernel
theorem dX9_choice_60 : decode cX9_choice 60 = .ok (.aload_n 0, 1) := by decide +kernel
theorem dX9_choice_61 : decode cX9_choice 61 = .ok (.getfield 68, 3) := by decide +kernel
theorem dX9_choice_64 : decode cX9_choice 64 = .ok (.iconst 1, 1) := by decide +kernel
theorem dX9_choice_65 : decode cX9_choice 65 = .ok (.isub, 1) := by decide +kernel
theorem dX9_choice_66 : decode cX9_choice 66 = .ok (.ireturn, 1) := by decide +kernel
theorem dX9_count_0 : decode cX9_count 0 = .ok (.iload_n 1, 1) := by decide +kernel
theorem dX9_count_1 : decode cX9_count 1 = .ok (.tableswitch 126 0 7 #[47, 55, 63, 71, 79, 84, 92, 107], 47) := by decide +kernel
theorem dX9_count_48 : decode cX9_count 48 = .ok (.aload_n 0, 1) := by decide +kernel
theorem dX9_count_49 : decode cX9_count 49 = .ok (.getfield 12, 3) := by decide +kernel
theorem dX9_count_52 : decode cX9_count 52 = .ok (.getfield 122, 3) := by decide +kernel
theorem dX9_count_55 : decode cX9_count 55 = .ok (.ireturn, 1) := by decide +kernel
theorem dX9_count_56 : decode cX9_count 56 = .ok (.aload_n 0, 1) := by decide +kernel
theorem dX9_count_57 : decode cX9_count 57 = .ok (.getfield 19, 3) := by decide +kernel
theorem dX9_count_60 : decode cX9_count 60 = .ok (.getfield 217, 3) := by decide +kernel
theorem dX9_count_63 : decode cX9_count 63 = .ok (.ireturn, 1) := by decide +kernel
theorem dX9_count_64 : decode cX9_count 64 = .ok (.aload_n 0, 1) := by decide +kernel
theorem dX9_count_65 : decode cX9_count 65 = .ok (.getfield 19, 3) := by decide +kernel
theorem dX9_count_68 : decode cX9_count 68 = .ok (.getfield 220, 3) := by decide +kernel
theorem dX9_count_71 : decode cX9_count 71 = .ok (.ireturn, 1) := by decide +kernel
theorem dX9_count_72 : decode cX9_count 72 = .ok (.aload_n 0, 1) := by decide +kernel
theorem dX9_count_73 : decode cX9_count 73 = .ok (.getfield 64, 3) := by decide +kernel
theorem dX9_count_76 : decode cX9_count 76 = .ok (.getfield 79, 3) := by decide +kernel
theorem dX9_count_79 : decode cX9_count 79 = .ok (.ireturn, 1) := by decide +kernel
theorem dX9_count_80 : decode cX9_count 80 = .ok (.aload_n 0, 1) := by decide +kernel
theorem dX9_count_81 : decode cX9_count 81 = .ok (.getfield 68, 3) := by decide +kernel
theorem dX9_count_84 : decode cX9_count 84 = .ok (.ireturn, 1) := by decide +kernel
theorem dX9_count_85 : decode cX9_count 85 = .ok (.aload_n 0, 1) := by decide +kernel
theorem dX9_count_86 : decode cX9_count 86 = .ok (.getfield 26, 3) := by decide +kernel
theorem dX9_count_89 : decode cX9_count 89 = .ok (.getfield 105, 3) := by decide +kernel
theorem dX9_count_92 : decode cX9_count 92 = .ok (.ireturn, 1) := by decide +kernel
theorem dX9_count_93 : decode cX9_count 93 = .ok (.aload_n 0, 1) := by decide +kernel
theorem dX9_count_94 : decode cX9_count 94 = .ok (.getfield 64, 3) := by decide +kernel
theorem dX9_count_97 : decode cX9_count 97 = .ok (.aload_n 0, 1) := by decide +kernel
theorem dX9_count_98 : decode cX9_count 98 = .ok (.getfield 12, 3) := by decide +kernel
theorem dX9_count_101 : decode cX9_count 101 = .ok (.getfield 122, 3) := by decide +kernel
theorem dX9_count_104 : decode cX9_count 104 = .ok (.invokevirtual 221, 3) := by decide +kernel
theorem dX9_count_107 : decode cX9_count 107 = .ok (.ireturn, 1) := by decide +kernel
theorem dX9_count_108 : decode cX9_count 108 = .ok (.aload_n 0, 1) := by decide +kernel
theorem dX9_count_109 : decode cX9_count 109 = .ok (.getfield 72, 3) := by decide +kernel
theorem dX9_count_112 : decode cX9_count 112 = .ok (.ifCond .eq 13, 3) := by decide +kernel
theorem dX9_count_125 : decode cX9_count 125 = .ok (.iconst (-1), 1) := by decide +kernel
theorem dX9_count_126 : decode cX9_count 126 = .ok (.ireturn, 1) := by decide +kernel
theorem dX9_count_127 : decode cX9_count 127 = .ok (.iconst (-1), 1) := by decide +kernel
theorem dX9_count_128 : decode cX9_count 128 = .ok (.ireturn, 1) := by decide +kernel
theorem dX9_crash_0 : decode cX9_crash 0 = .ok (.aload_n 0, 1) := by decide +kernel
theorem dX9_crash_1 : decode cX9_crash 1 = .ok (.getfield 19, 3) := by decide +kernel
theorem dX9_crash_4 : decode cX9_crash 4 = .ok (.iload_n 1, 1) := by decide +kernel
theorem dX9_crash_5 : decode cX9_crash 5 = .ok (.iload_n 2, 1) := by decide +kernel
theorem dX9_crash_6 : decode cX9_crash 6 = .ok (.invokevirtual 98, 3) := by decide +kernel
theorem dX9_crash_9 : decode cX9_crash 9 = .ok (.ireturn, 1) := by decide +kernel
theorem dX9_end_0 : decode cX9_end 0 = .ok (.iload_n 1, 1) := by decide +kernel
theorem dX9_end_1 : decode cX9_end 1 = .ok (.ifCond .lt 14, 3) := by decide +kernel
theorem dX9_end_4 : decode cX9_end 4 = .ok (.iload_n 1, 1) := by decide +kernel
theorem dX9_end_5 : decode cX9_end 5 = .ok (.aload_n 0, 1) := by decide +kernel
theorem dX9_end_6 : decode cX9_end 6 = .ok (.getfield 26, 3) := by decide +kernel
theorem dX9_end_9 : decode cX9_end 9 = .ok (.getfield 105, 3) := by decide +kernel
theorem dX9_end_12 : decode cX9_end 12 = .ok (.if_icmp .le 5, 3) := by decide +kernel
theorem dX9_end_15 : decode cX9_end 15 = .ok (.iconst 0, 1) := by decide +kernel
theorem dX9_end_16 : decode cX9_end 16 = .ok (.ireturn, 1) := by decide +kernel
theorem dX9_end_17 : decode cX9_end 17 = .ok (.aload_n 0, 1) := by decide +kernel
theorem dX9_end_18 : decode cX9_end 18 = .ok (.getfield 26, 3) := by decide +kernel
theorem dX9_end_21 : decode cX9_end 21 = .ok (.iload_n 1, 1) := by decide +kernel
theorem dX9_end_22 : decode cX9_end 22 = .ok (.putfield 105, 3) := by decide +kernel
theorem dX9_end_25 : decode cX9_end 25 = .ok (.iconst 1, 1) := by decide +kernel
theorem dX9_end_26 : decode cX9_end 26 = .ok (.ireturn, 1) := by decide +kernel
theorem dX9_fault_0 : decode cX9_fault 0 = .ok (.aload_n 0, 1) := by decide +kernel
theorem dX9_fault_1 : decode cX9_fault 1 = .ok (.getfield 40, 3) := by decide +kernel
theorem dX9_fault_4 : decode cX9_fault 4 = .ok (.aload_n 0, 1) := by decide +kernel
theorem dX9_fault_5 : decode cX9_fault 5 = .ok (.getfield 26, 3) := by decide +kernel
theorem dX9_fault_8 : decode cX9_fault 8 = .ok (.aload_n 0, 1) := by decide +kernel
theorem dX9_fault_9 : decode cX9_fault 9 = .ok (.getfield 33, 3) := by decide +kernel
theorem dX9_fault_12 : decode cX9_fault 12 = .ok (.invokevirtual 112, 3) := by decide +kernel
theorem dX9_fault_15 : decode cX9_fault 15 = .ok (.ireturn, 1) := by decide +kernel
theorem dX9_feed_0 : decode cX9_feed 0 = .ok (.aload_n 0, 1) := by decide +kernel
theorem dX9_feed_1 : decode cX9_feed 1 = .ok (.getfield 26, 3) := by decide +kernel
theorem dX9_feed_4 : decode cX9_feed 4 = .ok (.iload_n 1, 1) := by decide +kernel
theorem dX9_feed_5 : decode cX9_feed 5 = .ok (.invokevirtual 102, 3) := by decide +kernel
theorem dX9_feed_8 : decode cX9_feed 8 = .ok (.aload_n 0, 1) := by decide +kernel
theorem dX9_feed_9 : decode cX9_feed 9 = .ok (.getfield 26, 3) := by decide +kernel
theorem dX9_feed_12 : decode cX9_feed 12 = .ok (.iload_n 2, 1) := by decide +kernel
theorem dX9_feed_13 : decode cX9_feed 13 = .ok (.invokevirtual 102, 3) := by decide +kernel
theorem dX9_feed_16 : decode cX9_feed 16 = .ok (.iadd, 1) := by decide +kernel
theorem dX9_feed_17 : decode cX9_feed 17 = .ok (.aload_n 0, 1) := by decide +kernel
theorem dX9_feed_18 : decode cX9_feed 18 = .ok (.getfield 26, 3) := by decide +kernel
theorem dX9_feed_21 : decode cX9_feed 21 = .ok (.iload_n 3, 1) := by decide +kernel
theorem dX9_feed_22 : decode cX9_feed 22 = .ok (.invokevirtual 102, 3) := by decide +kernel
theorem dX9_feed_25 : decode cX9_feed 25 = .ok (.iadd, 1) := by decide +kernel
theorem dX9_feed_26 : decode cX9_feed 26 = .ok (.aload_n 0, 1) := by decide +kernel
theorem dX9_feed_27 : decode cX9_feed 27 = .ok (.getfield 26, 3) := by decide +kernel
theorem dX9_feed_30 : decode cX9_feed 30 = .ok (.iload 4, 2) := by decide +kernel
theorem dX9_feed_32 : decode cX9_feed 32 = .ok (.invokevirtual 102, 3) := by decide +kernel
theorem dX9_feed_35 : decode cX9_feed 35 = .ok (.iadd, 1) := by decide +kernel
theorem dX9_feed_36 : decode cX9_feed 36 = .ok (.aload_n 0, 1) := by decide +kernel
theorem dX9_feed_37 : decode cX9_feed 37 = .ok (.getfield 26, 3) := by decide +kernel
theorem dX9_feed_40 : decode cX9_feed 40 = .ok (.iload 5, 2) := by decide +kernel
theorem dX9_feed_42 : decode cX9_feed 42 = .ok (.invokevirtual 102, 3) := by decide +kernel
theorem dX9_feed_45 : decode cX9_feed 45 = .ok (.iadd, 1) := by decide +kernel
theorem dX9_feed_46 : decode cX9_feed 46 = .ok (.istore 6, 2) := by decide +kernel
theorem dX9_feed_48 : decode cX9_feed 48 = .ok (.aload_n 0, 1) := by decide +kernel
theorem dX9_feed_49 : decode cX9_feed 49 = .ok (.getfield 26, 3) := by decide +kernel
theorem dX9_feed_52 : decode cX9_feed 52 = .ok (.getfield 105, 3) := by decide +kernel
theorem dX9_feed_55 : decode cX9_feed 55 = .ok (.iload 6, 2) := by decide +kernel
theorem dX9_feed_57 : decode cX9_feed 57 = .ok (.iadd, 1) := by decide +kernel
theorem dX9_feed_58 : decode cX9_feed 58 = .ok (.bipush 100, 2) := by decide +kernel
theorem dX9_feed_60 : decode cX9_feed 60 = .ok (.if_icmp .le 5, 3) := by decide +kernel
theorem dX9_feed_65 : decode cX9_feed 65 = .ok (.aload_n 0, 1) := by decide +kernel
theorem dX9_feed_66 : decode cX9_feed 66 = .ok (.getfield 26, 3) := by decide +kernel
theorem dX9_feed_69 : decode cX9_feed 69 = .ok (.iload_n 1, 1) := by decide +kernel
theorem dX9_feed_70 : decode cX9_feed 70 = .ok (.invokevirtual 108, 3) := by decide +kernel
theorem dX9_feed_73 : decode cX9_feed 73 = .ok (.aload_n 0, 1) := by decide +kernel
theorem dX9_feed_74 : decode cX9_feed 74 = .ok (.getfield 26, 3) := by decide +kernel
theorem dX9_feed_77 : decode cX9_feed 77 = .ok (.iload_n 2, 1) := by decide +kernel
theorem dX9_feed_78 : decode cX9_feed 78 = .ok (.invokevirtual 108, 3) := by decide +kernel
theorem dX9_feed_81 : decode cX9_feed 81 = .ok (.aload_n 0, 1) := by decide +kernel
theorem dX9_feed_82 : decode cX9_feed 82 = .ok (.getfield 26, 3) := by decide +kernel
theorem dX9_feed_85 : decode cX9_feed 85 = .ok (.iload_n 3, 1) := by decide +kernel
theorem dX9_feed_86 : decode cX9_feed 86 = .ok (.invokevirtual 108, 3) := by decide +kernel
theorem dX9_feed_89 : decode cX9_feed 89 = .ok (.aload_n 0, 1) := by decide +kernel
theorem dX9_feed_90 : decode cX9_feed 90 = .ok (.getfield 26, 3) := by decide +kernel
theorem dX9_feed_93 : decode cX9_feed 93 = .ok (.iload 4, 2) := by decide +kernel
theorem dX9_feed_95 : decode cX9_feed 95 = .ok (.invokevirtual 108, 3) := by decide +kernel
theorem dX9_feed_98 : decode cX9_feed 98 = .ok (.aload_n 0, 1) := by decide +kernel
theorem dX9_feed_99 : decode cX9_feed 99 = .ok (.getfield 26, 3) := by decide +kernel
theorem dX9_feed_102 : decode cX9_feed 102 = .ok (.iload 5, 2) := by decide +kernel
theorem dX9_feed_104 : decode cX9_feed 104 = .ok (.invokevirtual 108, 3) := by decide +kernel
theorem dX9_feed_107 : decode cX9_feed 107 = .ok (.aload_n 0, 1) := by decide +kernel
theorem dX9_feed_108 : decode cX9_feed 108 = .ok (.getfield 26, 3) := by decide +kernel
theorem dX9_feed_111 : decode cX9_feed 111 = .ok (.getfield 105, 3) := by decide +kernel
theorem dX9_feed_114 : decode cX9_feed 114 = .ok (.ireturn, 1) := by decide +kernel
theorem dX9_groups_0 : decode cX9_groups 0 = .ok (.aload_n 0, 1) := by decide +kernel
theorem dX9_groups_1 : decode cX9_groups 1 = .ok (.getfield 72, 3) := by decide +kernel
theorem dX9_groups_4 : decode cX9_groups 4 = .ok (.ifCond .eq 11, 3) := by decide +kernel
theorem dX9_groups_15 : decode cX9_groups 15 = .ok (.iconst (-1), 1) := by decide +kernel
theorem dX9_groups_16 : decode cX9_groups 16 = .ok (.ireturn, 1) := by decide +kernel
theorem dX9_init_0 : decode cX9_init 0 = .ok (.aload_n 0, 1) := by decide +kernel
theorem dX9_init_1 : decode cX9_init 1 = .ok (.invokespecial 3, 3) := by decide +kernel
theorem dX9_init_4 : decode cX9_init 4 = .ok (.aload_n 0, 1) := by decide +kernel
theorem dX9_init_5 : decode cX9_init 5 = .ok (.new 9, 3) := by decide +kernel
theorem dX9_init_8 : decode cX9_init 8 = .ok (.dup, 1) := by decide +kernel
theorem dX9_init_9 : decode cX9_init 9 = .ok (.invokespecial 11, 3) := by decide +kernel
theorem dX9_init_12 : decode cX9_init 12 = .ok (.putfield 12, 3) := by decide +kernel
theorem dX9_init_15 : decode cX9_init 15 = .ok (.aload_n 0, 1) := by decide +kernel
theorem dX9_init_16 : decode cX9_init 16 = .ok (.new 16, 3) := by decide +kernel
theorem dX9_init_19 : decode cX9_init 19 = .ok (.dup, 1) := by decide +kernel
theorem dX9_init_20 : decode cX9_init 20 = .ok (.invokespecial 18, 3) := by decide +kernel
theorem dX9_init_23 : decode cX9_init 23 = .ok (.putfield 19, 3) := by decide +kernel
theorem dX9_init_26 : decode cX9_init 26 = .ok (.aload_n 0, 1) := by decide +kernel
theorem dX9_init_27 : decode cX9_init 27 = .ok (.new 23, 3) := by decide +kernel
theorem dX9_init_30 : decode cX9_init 30 = .ok (.dup, 1) := by decide +kernel
theorem dX9_init_31 : decode cX9_init 31 = .ok (.invokespecial 25, 3) := by decide +kernel
theorem dX9_init_34 : decode cX9_init 34 = .ok (.putfield 26, 3) := by decide +kernel
theorem dX9_init_37 : decode cX9_init 37 = .ok (.aload_n 0, 1) := by decide +kernel
theorem dX9_init_38 : decode cX9_init 38 = .ok (.new 30, 3) := by decide +kernel
theorem dX9_init_41 : decode cX9_init 41 = .ok (.dup, 1) := by decide +kernel
theorem dX9_init_42 : decode cX9_init 42 = .ok (.invokespecial 32, 3) := by decide +kernel
theorem dX9_init_45 : decode cX9_init 45 = .ok (.putfield 33, 3) := by decide +kernel
theorem dX9_init_48 : decode cX9_init 48 = .ok (.aload_n 0, 1) := by decide +kernel
theorem dX9_init_49 : decode cX9_init 49 = .ok (.new 37, 3) := by decide +kernel
theorem dX9_init_52 : decode cX9_init 52 = .ok (.dup, 1) := by decide +kernel
theorem dX9_init_53 : decode cX9_init 53 = .ok (.invokespecial 39, 3) := by decide +kernel
theorem dX9_init_56 : decode cX9_init 56 = .ok (.putfield 40, 3) := by decide +kernel
theorem dX9_init_59 : decode cX9_init 59 = .ok (.aload_n 0, 1) := by decide +kernel
theorem dX9_init_60 : decode cX9_init 60 = .ok (.new 44, 3) := by decide +kernel
theorem dX9_init_63 : decode cX9_init 63 = .ok (.dup, 1) := by decide +kernel
theorem dX9_init_64 : decode cX9_init 64 = .ok (.invokespecial 46, 3) := by decide +kernel
theorem dX9_init_67 : decode cX9_init 67 = .ok (.putfield 47, 3) := by decide +kernel
theorem dX9_init_70 : decode cX9_init 70 = .ok (.aload_n 0, 1) := by decide +kernel
theorem dX9_init_71 : decode cX9_init 71 = .ok (.new 51, 3) := by decide +kernel
theorem dX9_init_74 : decode cX9_init 74 = .ok (.dup, 1) := by decide +kernel
theorem dX9_init_75 : decode cX9_init 75 = .ok (.invokespecial 53, 3) := by decide +kernel
theorem dX9_init_78 : decode cX9_init 78 = .ok (.putfield 54, 3) := by decide +kernel
theorem dX9_init_81 : decode cX9_init 81 = .ok (.aload_n 0, 1) := by decide +kernel
theorem dX9_init_82 : decode cX9_init 82 = .ok (.new 44, 3) := by decide +kernel
theorem dX9_init_85 : decode cX9_init 85 = .ok (.dup, 1) := by decide +kernel
theorem dX9_init_86 : decode cX9_init 86 = .ok (.invokespecial 46, 3) := by decide +kernel
theorem dX9_init_89 : decode cX9_init 89 = .ok (.putfield 58, 3) := by decide +kernel
theorem dX9_init_92 : decode cX9_init 92 = .ok (.aload_n 0, 1) := by decide +kernel
theorem dX9_init_93 : decode cX9_init 93 = .ok (.new 61, 3) := by decide +kernel
theorem dX9_init_96 : decode cX9_init 96 = .ok (.dup, 1) := by decide +kernel
theorem dX9_init_97 : decode cX9_init 97 = .ok (.invokespecial 63, 3) := by decide +kernel
theorem dX9_init_100 : decode cX9_init 100 = .ok (.putfield 64, 3) := by decide +kernel
theorem dX9_init_103 : decode cX9_init 103 = .ok (.aload_n 0, 1) := by decide +kernel
theorem dX9_init_104 : decode cX9_init 104 = .ok (.iconst 0, 1) := by decide +kernel
theorem dX9_init_105 : decode cX9_init 105 = .ok (.putfield 68, 3) := by decide +kernel
theorem dX9_init_108 : decode cX9_init 108 = .ok (.aload_n 0, 1) := by decide +kernel
theorem dX9_init_109 : decode cX9_init 109 = .ok (.iconst 0, 1) := by decide +kernel
theorem dX9_init_110 : decode cX9_init 110 = .ok (.putfield 72, 3) := by decide +kernel
theorem dX9_init_113 : decode cX9_init 113 = .ok (.aload_n 0, 1) := by decide +kernel
theorem dX9_init_114 : decode cX9_init 114 = .ok (.iconst 0, 1) := by decide +kernel
theorem dX9_init_115 : decode cX9_init 115 = .ok (.putfield 76, 3) := by decide +kernel
theorem dX9_init_118 : decode cX9_init 118 = .ok (.return_, 1) := by decide +kernel
theorem dX9_isTeam_0 : decode cX9_isTeam 0 = .ok (.iload_n 0, 1) := by decide +kernel
theorem dX9_isTeam_1 : decode cX9_isTeam 1 = .ok (.ifCond .lt 12, 3) := by decide +kernel
theorem dX9_isTeam_4 : decode cX9_isTeam 4 = .ok (.iload_n 0, 1) := by decide +kernel
theorem dX9_isTeam_5 : decode cX9_isTeam 5 = .ok (.iconst 5, 1) := by decide +kernel
theorem dX9_isTeam_6 : decode cX9_isTeam 6 = .ok (.if_icmp .ge 7, 3) := by decide +kernel
theorem dX9_isTeam_9 : decode cX9_isTeam 9 = .ok (.iconst 1, 1) := by decide +kernel
theorem dX9_isTeam_10 : decode cX9_isTeam 10 = .ok (.goto 4, 3) := by decide +kernel
theorem dX9_isTeam_13 : decode cX9_isTeam 13 = .ok (.iconst 0, 1) := by decide +kernel
theorem dX9_isTeam_14 : decode cX9_isTeam 14 = .ok (.ireturn, 1) := by decide +kernel
theorem dX9_keep_0 : decode cX9_keep 0 = .ok (.aload_n 0, 1) := by decide +kernel
theorem dX9_keep_1 : decode cX9_keep 1 = .ok (.getfield 72, 3) := by decide +kernel
theorem dX9_keep_4 : decode cX9_keep 4 = .ok (.ifCond .eq 22, 3) := by decide +kernel
theorem dX9_keep_26 : decode cX9_keep 26 = .ok (.iconst (-1), 1) := by decide +kernel
theorem dX9_keep_27 : decode cX9_keep 27 = .ok (.ireturn, 1) := by decide +kernel
theorem dX9_limit_0 : decode cX9_limit 0 = .ok (.iload_n 1, 1) := by decide +kernel
theorem dX9_limit_1 : decode cX9_limit 1 = .ok (.iconst 1, 1) := by decide +kernel
theorem dX9_limit_2 : decode cX9_limit 2 = .ok (.if_icmp .lt 9, 3) := by decide +kernel
theorem dX9_limit_5 : decode cX9_limit 5 = .ok (.iload_n 1, 1) := by decide +kernel
theorem dX9_limit_6 : decode cX9_limit 6 = .ok (.bipush 100, 2) := by decide +kernel
theorem dX9_limit_8 : decode cX9_limit 8 = .ok (.if_icmp .le 5, 3) := by decide +kernel
theorem dX9_limit_11 : decode cX9_limit 11 = .ok (.iconst 0, 1) := by decide +kernel
theorem dX9_limit_12 : decode cX9_limit 12 = .ok (.ireturn, 1) := by decide +kernel
theorem dX9_limit_13 : decode cX9_limit 13 = .ok (.aload_n 0, 1) := by decide +kernel
theorem dX9_limit_14 : decode cX9_limit 14 = .ok (.getfield 64, 3) := by decide +kernel
theorem dX9_limit_17 : decode cX9_limit 17 = .ok (.iload_n 1, 1) := by decide +kernel
theorem dX9_limit_18 : decode cX9_limit 18 = .ok (.putfield 191, 3) := by decide +kernel
theorem dX9_limit_21 : decode cX9_limit 21 = .ok (.iconst 1, 1) := by decide +kernel
theorem dX9_limit_22 : decode cX9_limit 22 = .ok (.ireturn, 1) := by decide +kernel
theorem dX9_metres_0 : decode cX9_metres 0 = .ok (.aload_n 0, 1) := by decide +kernel
theorem dX9_metres_1 : decode cX9_metres 1 = .ok (.iload_n 1, 1) := by decide +kernel
theorem dX9_metres_2 : decode cX9_metres 2 = .ok (.invokevirtual 145, 3) := by decide +kernel
theorem dX9_metres_5 : decode cX9_metres 5 = .ok (.ifCond .eq 11, 3) := by decide +kernel
theorem dX9_metres_16 : decode cX9_metres 16 = .ok (.iconst (-1), 1) := by decide +kernel
theorem dX9_metres_17 : decode cX9_metres 17 = .ok (.ireturn, 1) := by decide +kernel
theorem dX9_orders_0 : decode cX9_orders 0 = .ok (.iload_n 1, 1) := by decide +kernel
theorem dX9_orders_1 : decode cX9_orders 1 = .ok (.invokestatic 116, 3) := by decide +kernel
theorem dX9_orders_4 : decode cX9_orders 4 = .ok (.ifCond .eq 22, 3) := by decide +kernel
theorem dX9_orders_7 : decode cX9_orders 7 = .ok (.aload_n 0, 1) := by decide +kernel
theorem dX9_orders_8 : decode cX9_orders 8 = .ok (.getfield 40, 3) := by decide +kernel
theorem dX9_orders_11 : decode cX9_orders 11 = .ok (.aload_n 0, 1) := by decide +kernel
theorem dX9_orders_12 : decode cX9_orders 12 = .ok (.getfield 26, 3) := by decide +kernel
theorem dX9_orders_15 : decode cX9_orders 15 = .ok (.aload_n 0, 1) := by decide +kernel
theorem dX9_orders_16 : decode cX9_orders 16 = .ok (.getfield 33, 3) := by decide +kernel
theorem dX9_orders_19 : decode cX9_orders 19 = .ok (.invokevirtual 112, 3) := by decide +kernel
theorem dX9_orders_22 : decode cX9_orders 22 = .ok (.iconst (-1), 1) := by decide +kernel
theorem dX9_orders_23 : decode cX9_orders 23 = .ok (.if_icmp .eq 5, 3) := by decide +kernel
theorem dX9_orders_26 : decode cX9_orders 26 = .ok (.iconst 0, 1) := by decide +kernel
theorem dX9_orders_27 : decode cX9_orders 27 = .ok (.ireturn, 1) := by decide +kernel
theorem dX9_orders_28 : decode cX9_orders 28 = .ok (.aload_n 0, 1) := by decide +kernel
theorem dX9_orders_29 : decode cX9_orders 29 = .ok (.getfield 33, 3) := by decide +kernel
theorem dX9_orders_32 : decode cX9_orders 32 = .ok (.iload_n 1, 1) := by decide +kernel
theorem dX9_orders_33 : decode cX9_orders 33 = .ok (.invokevirtual 119, 3) := by decide +kernel
theorem dX9_orders_36 : decode cX9_orders 36 = .ok (.aload_n 0, 1) := by decide +kernel
theorem dX9_orders_37 : decode cX9_orders 37 = .ok (.getfield 26, 3) := by decide +kernel
theorem dX9_orders_40 : decode cX9_orders 40 = .ok (.iconst 0, 1) := by decide +kernel
theorem dX9_orders_41 : decode cX9_orders 41 = .ok (.putfield 105, 3) := by decide +kernel
theorem dX9_orders_44 : decode cX9_orders 44 = .ok (.iconst 1, 1) := by decide +kernel
theorem dX9_orders_45 : decode cX9_orders 45 = .ok (.ireturn, 1) := by decide +kernel
theorem dX9_passed_0 : decode cX9_passed 0 = .ok (.aload_n 0, 1) := by decide +kernel
theorem dX9_passed_1 : decode cX9_passed 1 = .ok (.getfield 72, 3) := by decide +kernel
theorem dX9_passed_4 : decode cX9_passed 4 = .ok (.ifCond .eq 28, 3) := by decide +kernel
theorem dX9_passed_32 : decode cX9_passed 32 = .ok (.iconst (-1), 1) := by decide +kernel
theorem dX9_passed_33 : decode cX9_passed 33 = .ok (.ireturn, 1) := by decide +kernel
theorem dX9_prime_0 : decode cX9_prime 0 = .ok (.aload_n 0, 1) := by decide +kernel
theorem dX9_prime_1 : decode cX9_prime 1 = .ok (.getfield 19, 3) := by decide +kernel
theorem dX9_prime_4 : decode cX9_prime 4 = .ok (.iload_n 1, 1) := by decide +kernel
theorem dX9_prime_5 : decode cX9_prime 5 = .ok (.invokevirtual 94, 3) := by decide +kernel
theorem dX9_prime_8 : decode cX9_prime 8 = .ok (.ireturn, 1) := by decide +kernel
theorem dX9_race_0 : decode cX9_race 0 = .ok (.aload_n 0, 1) := by decide +kernel
theorem dX9_race_1 : decode cX9_race 1 = .ok (.getfield 12, 3) := by decide +kernel
theorem dX9_race_4 : decode cX9_race 4 = .ok (.getfield 122, 3) := by decide +kernel
theorem dX9_race_7 : decode cX9_race 7 = .ok (.ifCond .ne 5, 3) := by decide +kernel
theorem dX9_race_10 : decode cX9_race 10 = .ok (.iconst (-1), 1) := by decide +kernel
theorem dX9_race_11 : decode cX9_race 11 = .ok (.ireturn, 1) := by decide +kernel
theorem dX9_rider_0 : decode cX9_rider 0 = .ok (.aload_n 0, 1) := by decide +kernel
theorem dX9_rider_1 : decode cX9_rider 1 = .ok (.getfield 64, 3) := by decide +kernel
theorem dX9_rider_4 : decode cX9_rider 4 = .ok (.getfield 79, 3) := by decide +kernel
theorem dX9_rider_7 : decode cX9_rider 7 = .ok (.ifCond .le 5, 3) := by decide +kernel
theorem dX9_rider_12 : decode cX9_rider 12 = .ok (.aload_n 0, 1) := by decide +kernel
theorem dX9_rider_13 : decode cX9_rider 13 = .ok (.getfield 12, 3) := by decide +kernel
theorem dX9_rider_16 : decode cX9_rider 16 = .ok (.iload_n 1, 1) := by decide +kernel
theorem dX9_rider_17 : decode cX9_rider 17 = .ok (.iload_n 2, 1) := by decide +kernel
theorem dX9_rider_18 : decode cX9_rider 18 = .ok (.iload_n 3, 1) := by decide +kernel
theorem dX9_rider_19 : decode cX9_rider 19 = .ok (.iload 4, 2) := by decide +kernel
theorem dX9_rider_21 : decode cX9_rider 21 = .ok (.invokevirtual 82, 3) := by decide +kernel
theorem dX9_rider_24 : decode cX9_rider 24 = .ok (.ireturn, 1) := by decide +kernel
theorem dX9_rise_0 : decode cX9_rise 0 = .ok (.aload_n 0, 1) := by decide +kernel
theorem dX9_rise_1 : decode cX9_rise 1 = .ok (.getfield 19, 3) := by decide +kernel
theorem dX9_rise_4 : decode cX9_rise 4 = .ok (.iload_n 1, 1) := by decide +kernel
theorem dX9_rise_5 : decode cX9_rise 5 = .ok (.iload_n 2, 1) := by decide +kernel
theorem dX9_rise_6 : decode cX9_rise 6 = .ok (.iload_n 3, 1) := by decide +kernel
theorem dX9_rise_7 : decode cX9_rise 7 = .ok (.invokevirtual 90, 3) := by decide +kernel
theorem dX9_rise_10 : decode cX9_rise 10 = .ok (.ireturn, 1) := by decide +kernel
theorem dX9_road_0 : decode cX9_road 0 = .ok (.aload_n 0, 1) := by decide +kernel
theorem dX9_road_1 : decode cX9_road 1 = .ok (.getfield 19, 3) := by decide +kernel
theorem dX9_road_4 : decode cX9_road 4 = .ok (.iload_n 1, 1) := by decide +kernel
theorem dX9_road_5 : decode cX9_road 5 = .ok (.invokevirtual 86, 3) := by decide +kernel
theorem dX9_road_8 : decode cX9_road 8 = .ok (.ireturn, 1) := by decide +kernel
theorem dX9_rodeLatest_0 : decode cX9_rodeLatest 0 = .ok (.aload_n 0, 1) := by decide +kernel
theorem dX9_rodeLatest_1 : decode cX9_rodeLatest 1 = .ok (.getfield 72, 3) := by decide +kernel
theorem dX9_rodeLatest_4 : decode cX9_rodeLatest 4 = .ok (.ifCond .eq 29, 3) := by decide +kernel
theorem dX9_rodeLatest_33 : decode cX9_rodeLatest 33 = .ok (.iconst 0, 1) := by decide +kernel
theorem dX9_rodeLatest_34 : decode cX9_rodeLatest 34 = .ok (.ireturn, 1) := by decide +kernel
theorem dX9_sum_0 : decode cX9_sum 0 = .ok (.iload_n 1, 1) := by decide +kernel
theorem dX9_sum_1 : decode cX9_sum 1 = .ok (.ifCond .lt 14, 3) := by decide +kernel
theorem dX9_sum_4 : decode cX9_sum 4 = .ok (.iload_n 1, 1) := by decide +kernel
theorem dX9_sum_5 : decode cX9_sum 5 = .ok (.aload_n 0, 1) := by decide +kernel
theorem dX9_sum_6 : decode cX9_sum 6 = .ok (.getfield 12, 3) := by decide +kernel
theorem dX9_sum_9 : decode cX9_sum 9 = .ok (.getfield 122, 3) := by decide +kernel
theorem dX9_sum_12 : decode cX9_sum 12 = .ok (.if_icmp .lt 5, 3) := by decide +kernel
theorem dX9_sum_15 : decode cX9_sum 15 = .ok (.iconst (-1), 1) := by decide +kernel
theorem dX9_sum_16 : decode cX9_sum 16 = .ok (.ireturn, 1) := by decide +kernel
theorem dX9_team_0 : decode cX9_team 0 = .ok (.iload_n 1, 1) := by decide +kernel
theorem dX9_team_1 : decode cX9_team 1 = .ok (.invokestatic 116, 3) := by decide +kernel
theorem dX9_team_4 : decode cX9_team 4 = .ok (.ifCond .ne 5, 3) := by decide +kernel
theorem dX9_team_7 : decode cX9_team 7 = .ok (.iconst (-1), 1) := by decide +kernel
theorem dX9_team_8 : decode cX9_team 8 = .ok (.ireturn, 1) := by decide +kernel
theorem dX9_team_9 : decode cX9_team 9 = .ok (.aload_n 0, 1) := by decide +kernel
theorem dX9_team_10 : decode cX9_team 10 = .ok (.getfield 64, 3) := by decide +kernel
theorem dX9_team_13 : decode cX9_team 13 = .ok (.iload_n 1, 1) := by decide +kernel
theorem dX9_team_14 : decode cX9_team 14 = .ok (.aload_n 0, 1) := by decide +kernel
theorem dX9_team_15 : decode cX9_team 15 = .ok (.getfield 12, 3) := by decide +kernel
theorem dX9_team_18 : decode cX9_team 18 = .ok (.invokevirtual 203, 3) := by decide +kernel
theorem dX9_team_21 : decode cX9_team 21 = .ok (.ireturn, 1) := by decide +kernel
theorem dX9_told_0 : decode cX9_told 0 = .ok (.aload_n 0, 1) := by decide +kernel
theorem dX9_told_1 : decode cX9_told 1 = .ok (.iload_n 1, 1) := by decide +kernel
theorem dX9_told_2 : decode cX9_told 2 = .ok (.invokevirtual 145, 3) := by decide +kernel
theorem dX9_told_5 : decode cX9_told 5 = .ok (.ifCond .ne 5, 3) := by decide +kernel
theorem dX9_told_8 : decode cX9_told 8 = .ok (.iconst (-1), 1) := by decide +kernel
theorem dX9_told_9 : decode cX9_told 9 = .ok (.ireturn, 1) := by decide +kernel
