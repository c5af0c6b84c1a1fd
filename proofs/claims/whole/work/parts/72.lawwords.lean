/-! The law: decoding, links, the cell of the script (printed by gen/law2.py) -/
theorem dm_Law_0 : decode code 0 = .ok (.new 7, 3) := by decide +kernel
theorem dm_Law_3 : decode code 3 = .ok (.dup, 1) := by decide +kernel
theorem dm_Law_4 : decode code 4 = .ok (.aload_n 0, 1) := by decide +kernel
theorem dm_Law_5 : decode code 5 = .ok (.iconst 0, 1) := by decide +kernel
theorem dm_Law_6 : decode code 6 = .ok (.invokestatic 9, 3) := by decide +kernel
theorem dm_Law_9 : decode code 9 = .ok (.invokespecial 15, 3) := by decide +kernel
theorem dm_Law_12 : decode code 12 = .ok (.astore_n 1, 1) := by decide +kernel
theorem dm_Law_13 : decode code 13 = .ok (.new 18, 3) := by decide +kernel
theorem dm_Law_16 : decode code 16 = .ok (.dup, 1) := by decide +kernel
theorem dm_Law_17 : decode code 17 = .ok (.aload_n 0, 1) := by decide +kernel
theorem dm_Law_18 : decode code 18 = .ok (.iconst 0, 1) := by decide +kernel
theorem dm_Law_19 : decode code 19 = .ok (.invokestatic 9, 3) := by decide +kernel
theorem dm_Law_22 : decode code 22 = .ok (.invokespecial 20, 3) := by decide +kernel
theorem dm_Law_25 : decode code 25 = .ok (.astore_n 2, 1) := by decide +kernel
theorem dm_Law_26 : decode code 26 = .ok (.iconst 1, 1) := by decide +kernel
theorem dm_Law_27 : decode code 27 = .ok (.istore_n 3, 1) := by decide +kernel
theorem dm_Law_28 : decode code 28 = .ok (.iload_n 3, 1) := by decide +kernel
theorem dm_Law_29 : decode code 29 = .ok (.aload_n 0, 1) := by decide +kernel
theorem dm_Law_30 : decode code 30 = .ok (.arraylength, 1) := by decide +kernel
theorem dm_Law_31 : decode code 31 = .ok (.bipush 6, 2) := by decide +kernel
theorem dm_Law_33 : decode code 33 = .ok (.isub, 1) := by decide +kernel
theorem dm_Law_34 : decode code 34 = .ok (.if_icmp .gt 844, 3) := by decide +kernel
theorem dm_Law_37 : decode code 37 = .ok (.aload_n 0, 1) := by decide +kernel
theorem dm_Law_38 : decode code 38 = .ok (.iload_n 3, 1) := by decide +kernel
theorem dm_Law_39 : decode code 39 = .ok (.iaload, 1) := by decide +kernel
theorem dm_Law_40 : decode code 40 = .ok (.bipush 31, 2) := by decide +kernel
theorem dm_Law_42 : decode code 42 = .ok (.iand, 1) := by decide +kernel
theorem dm_Law_43 : decode code 43 = .ok (.tableswitch 829 0 19 #[93, 106, 149, 182, 205, 238, 291, 334, 387, 430, 513, 546, 569, 592, 625, 658, 681, 704, 747, 780], 93) := by decide +kernel
theorem dm_Law_136 : decode code 136 = .ok (.aload_n 1, 1) := by decide +kernel
theorem dm_Law_137 : decode code 137 = .ok (.invokevirtual 21, 3) := by decide +kernel
theorem dm_Law_140 : decode code 140 = .ok (.aload_n 2, 1) := by decide +kernel
theorem dm_Law_141 : decode code 141 = .ok (.invokevirtual 25, 3) := by decide +kernel
theorem dm_Law_144 : decode code 144 = .ok (.if_icmp .eq 728, 3) := by decide +kernel
theorem dm_Law_147 : decode code 147 = .ok (.iconst 0, 1) := by decide +kernel
theorem dm_Law_148 : decode code 148 = .ok (.ireturn, 1) := by decide +kernel
theorem dm_Law_149 : decode code 149 = .ok (.aload_n 1, 1) := by decide +kernel
theorem dm_Law_150 : decode code 150 = .ok (.aload_n 0, 1) := by decide +kernel
theorem dm_Law_151 : decode code 151 = .ok (.iload_n 3, 1) := by decide +kernel
theorem dm_Law_152 : decode code 152 = .ok (.iconst 1, 1) := by decide +kernel
theorem dm_Law_153 : decode code 153 = .ok (.iadd, 1) := by decide +kernel
theorem dm_Law_154 : decode code 154 = .ok (.iaload, 1) := by decide +kernel
theorem dm_Law_155 : decode code 155 = .ok (.aload_n 0, 1) := by decide +kernel
theorem dm_Law_156 : decode code 156 = .ok (.iload_n 3, 1) := by decide +kernel
theorem dm_Law_157 : decode code 157 = .ok (.iconst 2, 1) := by decide +kernel
theorem dm_Law_158 : decode code 158 = .ok (.iadd, 1) := by decide +kernel
theorem dm_Law_159 : decode code 159 = .ok (.iaload, 1) := by decide +kernel
theorem dm_Law_160 : decode code 160 = .ok (.aload_n 0, 1) := by decide +kernel
theorem dm_Law_161 : decode code 161 = .ok (.iload_n 3, 1) := by decide +kernel
theorem dm_Law_162 : decode code 162 = .ok (.iconst 3, 1) := by decide +kernel
theorem dm_Law_163 : decode code 163 = .ok (.iadd, 1) := by decide +kernel
theorem dm_Law_164 : decode code 164 = .ok (.iaload, 1) := by decide +kernel
theorem dm_Law_165 : decode code 165 = .ok (.invokevirtual 26, 3) := by decide +kernel
theorem dm_Law_168 : decode code 168 = .ok (.aload_n 2, 1) := by decide +kernel
theorem dm_Law_169 : decode code 169 = .ok (.aload_n 0, 1) := by decide +kernel
theorem dm_Law_170 : decode code 170 = .ok (.iload_n 3, 1) := by decide +kernel
theorem dm_Law_171 : decode code 171 = .ok (.iconst 1, 1) := by decide +kernel
theorem dm_Law_172 : decode code 172 = .ok (.iadd, 1) := by decide +kernel
theorem dm_Law_173 : decode code 173 = .ok (.iaload, 1) := by decide +kernel
theorem dm_Law_174 : decode code 174 = .ok (.aload_n 0, 1) := by decide +kernel
theorem dm_Law_175 : decode code 175 = .ok (.iload_n 3, 1) := by decide +kernel
theorem dm_Law_176 : decode code 176 = .ok (.iconst 2, 1) := by decide +kernel
theorem dm_Law_177 : decode code 177 = .ok (.iadd, 1) := by decide +kernel
theorem dm_Law_178 : decode code 178 = .ok (.iaload, 1) := by decide +kernel
theorem dm_Law_179 : decode code 179 = .ok (.aload_n 0, 1) := by decide +kernel
theorem dm_Law_180 : decode code 180 = .ok (.iload_n 3, 1) := by decide +kernel
theorem dm_Law_181 : decode code 181 = .ok (.iconst 3, 1) := by decide +kernel
theorem dm_Law_182 : decode code 182 = .ok (.iadd, 1) := by decide +kernel
theorem dm_Law_183 : decode code 183 = .ok (.iaload, 1) := by decide +kernel
theorem dm_Law_184 : decode code 184 = .ok (.invokevirtual 30, 3) := by decide +kernel
theorem dm_Law_187 : decode code 187 = .ok (.if_icmp .eq 685, 3) := by decide +kernel
theorem dm_Law_190 : decode code 190 = .ok (.iconst 0, 1) := by decide +kernel
theorem dm_Law_191 : decode code 191 = .ok (.ireturn, 1) := by decide +kernel
theorem dm_Law_192 : decode code 192 = .ok (.aload_n 1, 1) := by decide +kernel
theorem dm_Law_193 : decode code 193 = .ok (.aload_n 0, 1) := by decide +kernel
theorem dm_Law_194 : decode code 194 = .ok (.iload_n 3, 1) := by decide +kernel
theorem dm_Law_195 : decode code 195 = .ok (.iconst 1, 1) := by decide +kernel
theorem dm_Law_196 : decode code 196 = .ok (.iadd, 1) := by decide +kernel
theorem dm_Law_197 : decode code 197 = .ok (.iaload, 1) := by decide +kernel
theorem dm_Law_198 : decode code 198 = .ok (.aload_n 0, 1) := by decide +kernel
theorem dm_Law_199 : decode code 199 = .ok (.iload_n 3, 1) := by decide +kernel
theorem dm_Law_200 : decode code 200 = .ok (.iconst 2, 1) := by decide +kernel
theorem dm_Law_201 : decode code 201 = .ok (.iadd, 1) := by decide +kernel
theorem dm_Law_202 : decode code 202 = .ok (.iaload, 1) := by decide +kernel
theorem dm_Law_203 : decode code 203 = .ok (.invokevirtual 31, 3) := by decide +kernel
theorem dm_Law_206 : decode code 206 = .ok (.aload_n 2, 1) := by decide +kernel
theorem dm_Law_207 : decode code 207 = .ok (.aload_n 0, 1) := by decide +kernel
theorem dm_Law_208 : decode code 208 = .ok (.iload_n 3, 1) := by decide +kernel
theorem dm_Law_209 : decode code 209 = .ok (.iconst 1, 1) := by decide +kernel
theorem dm_Law_210 : decode code 210 = .ok (.iadd, 1) := by decide +kernel
theorem dm_Law_211 : decode code 211 = .ok (.iaload, 1) := by decide +kernel
theorem dm_Law_212 : decode code 212 = .ok (.aload_n 0, 1) := by decide +kernel
theorem dm_Law_213 : decode code 213 = .ok (.iload_n 3, 1) := by decide +kernel
theorem dm_Law_214 : decode code 214 = .ok (.iconst 2, 1) := by decide +kernel
theorem dm_Law_215 : decode code 215 = .ok (.iadd, 1) := by decide +kernel
theorem dm_Law_216 : decode code 216 = .ok (.iaload, 1) := by decide +kernel
theorem dm_Law_217 : decode code 217 = .ok (.invokevirtual 35, 3) := by decide +kernel
theorem dm_Law_220 : decode code 220 = .ok (.if_icmp .eq 652, 3) := by decide +kernel
theorem dm_Law_223 : decode code 223 = .ok (.iconst 0, 1) := by decide +kernel
theorem dm_Law_224 : decode code 224 = .ok (.ireturn, 1) := by decide +kernel
theorem dm_Law_225 : decode code 225 = .ok (.aload_n 1, 1) := by decide +kernel
theorem dm_Law_226 : decode code 226 = .ok (.aload_n 0, 1) := by decide +kernel
theorem dm_Law_227 : decode code 227 = .ok (.iload_n 3, 1) := by decide +kernel
theorem dm_Law_228 : decode code 228 = .ok (.iconst 1, 1) := by decide +kernel
theorem dm_Law_229 : decode code 229 = .ok (.iadd, 1) := by decide +kernel
theorem dm_Law_230 : decode code 230 = .ok (.iaload, 1) := by decide +kernel
theorem dm_Law_231 : decode code 231 = .ok (.invokevirtual 36, 3) := by decide +kernel
theorem dm_Law_234 : decode code 234 = .ok (.aload_n 2, 1) := by decide +kernel
theorem dm_Law_235 : decode code 235 = .ok (.aload_n 0, 1) := by decide +kernel
theorem dm_Law_236 : decode code 236 = .ok (.iload_n 3, 1) := by decide +kernel
theorem dm_Law_237 : decode code 237 = .ok (.iconst 1, 1) := by decide +kernel
theorem dm_Law_238 : decode code 238 = .ok (.iadd, 1) := by decide +kernel
theorem dm_Law_239 : decode code 239 = .ok (.iaload, 1) := by decide +kernel
theorem dm_Law_240 : decode code 240 = .ok (.invokevirtual 40, 3) := by decide +kernel
theorem dm_Law_243 : decode code 243 = .ok (.if_icmp .eq 629, 3) := by decide +kernel
theorem dm_Law_246 : decode code 246 = .ok (.iconst 0, 1) := by decide +kernel
theorem dm_Law_247 : decode code 247 = .ok (.ireturn, 1) := by decide +kernel
theorem dm_Law_248 : decode code 248 = .ok (.aload_n 1, 1) := by decide +kernel
theorem dm_Law_249 : decode code 249 = .ok (.aload_n 0, 1) := by decide +kernel
theorem dm_Law_250 : decode code 250 = .ok (.iload_n 3, 1) := by decide +kernel
theorem dm_Law_251 : decode code 251 = .ok (.iconst 1, 1) := by decide +kernel
theorem dm_Law_252 : decode code 252 = .ok (.iadd, 1) := by decide +kernel
theorem dm_Law_253 : decode code 253 = .ok (.iaload, 1) := by decide +kernel
theorem dm_Law_254 : decode code 254 = .ok (.aload_n 0, 1) := by decide +kernel
theorem dm_Law_255 : decode code 255 = .ok (.iload_n 3, 1) := by decide +kernel
theorem dm_Law_256 : decode code 256 = .ok (.iconst 2, 1) := by decide +kernel
theorem dm_Law_257 : decode code 257 = .ok (.iadd, 1) := by decide +kernel
theorem dm_Law_258 : decode code 258 = .ok (.iaload, 1) := by decide +kernel
theorem dm_Law_259 : decode code 259 = .ok (.invokevirtual 41, 3) := by decide +kernel
theorem dm_Law_262 : decode code 262 = .ok (.aload_n 2, 1) := by decide +kernel
theorem dm_Law_263 : decode code 263 = .ok (.aload_n 0, 1) := by decide +kernel
theorem dm_Law_264 : decode code 264 = .ok (.iload_n 3, 1) := by decide +kernel
theorem dm_Law_265 : decode code 265 = .ok (.iconst 1, 1) := by decide +kernel
theorem dm_Law_266 : decode code 266 = .ok (.iadd, 1) := by decide +kernel
theorem dm_Law_267 : decode code 267 = .ok (.iaload, 1) := by decide +kernel
theorem dm_Law_268 : decode code 268 = .ok (.aload_n 0, 1) := by decide +kernel
theorem dm_Law_269 : decode code 269 = .ok (.iload_n 3, 1) := by decide +kernel
theorem dm_Law_270 : decode code 270 = .ok (.iconst 2, 1) := by decide +kernel
theorem dm_Law_271 : decode code 271 = .ok (.iadd, 1) := by decide +kernel
theorem dm_Law_272 : decode code 272 = .ok (.iaload, 1) := by decide +kernel
theorem dm_Law_273 : decode code 273 = .ok (.invokevirtual 44, 3) := by decide +kernel
theorem dm_Law_276 : decode code 276 = .ok (.if_icmp .eq 596, 3) := by decide +kernel
theorem dm_Law_279 : decode code 279 = .ok (.iconst 0, 1) := by decide +kernel
theorem dm_Law_280 : decode code 280 = .ok (.ireturn, 1) := by decide +kernel
theorem dm_Law_281 : decode code 281 = .ok (.aload_n 1, 1) := by decide +kernel
theorem dm_Law_282 : decode code 282 = .ok (.aload_n 0, 1) := by decide +kernel
theorem dm_Law_283 : decode code 283 = .ok (.iload_n 3, 1) := by decide +kernel
theorem dm_Law_284 : decode code 284 = .ok (.iconst 1, 1) := by decide +kernel
theorem dm_Law_285 : decode code 285 = .ok (.iadd, 1) := by decide +kernel
theorem dm_Law_286 : decode code 286 = .ok (.iaload, 1) := by decide +kernel
theorem dm_Law_287 : decode code 287 = .ok (.aload_n 0, 1) := by decide +kernel
theorem dm_Law_288 : decode code 288 = .ok (.iload_n 3, 1) := by decide +kernel
theorem dm_Law_289 : decode code 289 = .ok (.iconst 2, 1) := by decide +kernel
theorem dm_Law_290 : decode code 290 = .ok (.iadd, 1) := by decide +kernel
theorem dm_Law_291 : decode code 291 = .ok (.iaload, 1) := by decide +kernel
theorem dm_Law_292 : decode code 292 = .ok (.aload_n 0, 1) := by decide +kernel
theorem dm_Law_293 : decode code 293 = .ok (.iload_n 3, 1) := by decide +kernel
theorem dm_Law_294 : decode code 294 = .ok (.iconst 3, 1) := by decide +kernel
theorem dm_Law_295 : decode code 295 = .ok (.iadd, 1) := by decide +kernel
theorem dm_Law_296 : decode code 296 = .ok (.iaload, 1) := by decide +kernel
theorem dm_Law_297 : decode code 297 = .ok (.aload_n 0, 1) := by decide +kernel
theorem dm_Law_298 : decode code 298 = .ok (.iload_n 3, 1) := by decide +kernel
theorem dm_Law_299 : decode code 299 = .ok (.iconst 4, 1) := by decide +kernel
theorem dm_Law_300 : decode code 300 = .ok (.iadd, 1) := by decide +kernel
theorem dm_Law_301 : decode code 301 = .ok (.iaload, 1) := by decide +kernel
theorem dm_Law_302 : decode code 302 = .ok (.invokevirtual 45, 3) := by decide +kernel
theorem dm_Law_305 : decode code 305 = .ok (.aload_n 2, 1) := by decide +kernel
theorem dm_Law_306 : decode code 306 = .ok (.aload_n 0, 1) := by decide +kernel
theorem dm_Law_307 : decode code 307 = .ok (.iload_n 3, 1) := by decide +kernel
theorem dm_Law_308 : decode code 308 = .ok (.iconst 1, 1) := by decide +kernel
theorem dm_Law_309 : decode code 309 = .ok (.iadd, 1) := by decide +kernel
theorem dm_Law_310 : decode code 310 = .ok (.iaload, 1) := by decide +kernel
theorem dm_Law_311 : decode code 311 = .ok (.aload_n 0, 1) := by decide +kernel
theorem dm_Law_312 : decode code 312 = .ok (.iload_n 3, 1) := by decide +kernel
theorem dm_Law_313 : decode code 313 = .ok (.iconst 2, 1) := by decide +kernel
theorem dm_Law_314 : decode code 314 = .ok (.iadd, 1) := by decide +kernel
theorem dm_Law_315 : decode code 315 = .ok (.iaload, 1) := by decide +kernel
theorem dm_Law_316 : decode code 316 = .ok (.aload_n 0, 1) := by decide +kernel
theorem dm_Law_317 : decode code 317 = .ok (.iload_n 3, 1) := by decide +kernel
theorem dm_Law_318 : decode code 318 = .ok (.iconst 3, 1) := by decide +kernel
theorem dm_Law_319 : decode code 319 = .ok (.iadd, 1) := by decide +kernel
theorem dm_Law_320 : decode code 320 = .ok (.iaload, 1) := by decide +kernel
theorem dm_Law_321 : decode code 321 = .ok (.aload_n 0, 1) := by decide +kernel
theorem dm_Law_322 : decode code 322 = .ok (.iload_n 3, 1) := by decide +kernel
theorem dm_Law_323 : decode code 323 = .ok (.iconst 4, 1) := by decide +kernel
theorem dm_Law_324 : decode code 324 = .ok (.iadd, 1) := by decide +kernel
theorem dm_Law_325 : decode code 325 = .ok (.iaload, 1) := by decide +kernel
theorem dm_Law_326 : decode code 326 = .ok (.invokevirtual 49, 3) := by decide +kernel
theorem dm_Law_329 : decode code 329 = .ok (.if_icmp .eq 543, 3) := by decide +kernel
theorem dm_Law_332 : decode code 332 = .ok (.iconst 0, 1) := by decide +kernel
theorem dm_Law_333 : decode code 333 = .ok (.ireturn, 1) := by decide +kernel
theorem dm_Law_334 : decode code 334 = .ok (.aload_n 1, 1) := by decide +kernel
theorem dm_Law_335 : decode code 335 = .ok (.aload_n 0, 1) := by decide +kernel
theorem dm_Law_336 : decode code 336 = .ok (.iload_n 3, 1) := by decide +kernel
theorem dm_Law_337 : decode code 337 = .ok (.iconst 1, 1) := by decide +kernel
theorem dm_Law_338 : decode code 338 = .ok (.iadd, 1) := by decide +kernel
theorem dm_Law_339 : decode code 339 = .ok (.iaload, 1) := by decide +kernel
theorem dm_Law_340 : decode code 340 = .ok (.aload_n 0, 1) := by decide +kernel
theorem dm_Law_341 : decode code 341 = .ok (.iload_n 3, 1) := by decide +kernel
theorem dm_Law_342 : decode code 342 = .ok (.iconst 2, 1) := by decide +kernel
theorem dm_Law_343 : decode code 343 = .ok (.iadd, 1) := by decide +kernel
theorem dm_Law_344 : decode code 344 = .ok (.iaload, 1) := by decide +kernel
theorem dm_Law_345 : decode code 345 = .ok (.aload_n 0, 1) := by decide +kernel
theorem dm_Law_346 : decode code 346 = .ok (.iload_n 3, 1) := by decide +kernel
theorem dm_Law_347 : decode code 347 = .ok (.iconst 3, 1) := by decide +kernel
theorem dm_Law_348 : decode code 348 = .ok (.iadd, 1) := by decide +kernel
theorem dm_Law_349 : decode code 349 = .ok (.iaload, 1) := by decide +kernel
theorem dm_Law_350 : decode code 350 = .ok (.invokevirtual 50, 3) := by decide +kernel
theorem dm_Law_353 : decode code 353 = .ok (.aload_n 2, 1) := by decide +kernel
theorem dm_Law_354 : decode code 354 = .ok (.aload_n 0, 1) := by decide +kernel
theorem dm_Law_355 : decode code 355 = .ok (.iload_n 3, 1) := by decide +kernel
theorem dm_Law_356 : decode code 356 = .ok (.iconst 1, 1) := by decide +kernel
theorem dm_Law_357 : decode code 357 = .ok (.iadd, 1) := by decide +kernel
theorem dm_Law_358 : decode code 358 = .ok (.iaload, 1) := by decide +kernel
theorem dm_Law_359 : decode code 359 = .ok (.aload_n 0, 1) := by decide +kernel
theorem dm_Law_360 : decode code 360 = .ok (.iload_n 3, 1) := by decide +kernel
theorem dm_Law_361 : decode code 361 = .ok (.iconst 2, 1) := by decide +kernel
theorem dm_Law_362 : decode code 362 = .ok (.iadd, 1) := by decide +kernel
theorem dm_Law_363 : decode code 363 = .ok (.iaload, 1) := by decide +kernel
theorem dm_Law_364 : decode code 364 = .ok (.aload_n 0, 1) := by decide +kernel
theorem dm_Law_365 : decode code 365 = .ok (.iload_n 3, 1) := by decide +kernel
theorem dm_Law_366 : decode code 366 = .ok (.iconst 3, 1) := by decide +kernel
theorem dm_Law_367 : decode code 367 = .ok (.iadd, 1) := by decide +kernel
theorem dm_Law_368 : decode code 368 = .ok (.iaload, 1) := by decide +kernel
theorem dm_Law_369 : decode code 369 = .ok (.invokevirtual 53, 3) := by decide +kernel
theorem dm_Law_372 : decode code 372 = .ok (.if_icmp .eq 500, 3) := by decide +kernel
theorem dm_Law_375 : decode code 375 = .ok (.iconst 0, 1) := by decide +kernel
theorem dm_Law_376 : decode code 376 = .ok (.ireturn, 1) := by decide +kernel
theorem dm_Law_377 : decode code 377 = .ok (.aload_n 1, 1) := by decide +kernel
theorem dm_Law_378 : decode code 378 = .ok (.aload_n 0, 1) := by decide +kernel
theorem dm_Law_379 : decode code 379 = .ok (.iload_n 3, 1) := by decide +kernel
theorem dm_Law_380 : decode code 380 = .ok (.iconst 1, 1) := by decide +kernel
theorem dm_Law_381 : decode code 381 = .ok (.iadd, 1) := by decide +kernel
theorem dm_Law_382 : decode code 382 = .ok (.iaload, 1) := by decide +kernel
theorem dm_Law_383 : decode code 383 = .ok (.aload_n 0, 1) := by decide +kernel
theorem dm_Law_384 : decode code 384 = .ok (.iload_n 3, 1) := by decide +kernel
theorem dm_Law_385 : decode code 385 = .ok (.iconst 2, 1) := by decide +kernel
theorem dm_Law_386 : decode code 386 = .ok (.iadd, 1) := by decide +kernel
theorem dm_Law_387 : decode code 387 = .ok (.iaload, 1) := by decide +kernel
theorem dm_Law_388 : decode code 388 = .ok (.aload_n 0, 1) := by decide +kernel
theorem dm_Law_389 : decode code 389 = .ok (.iload_n 3, 1) := by decide +kernel
theorem dm_Law_390 : decode code 390 = .ok (.iconst 3, 1) := by decide +kernel
theorem dm_Law_391 : decode code 391 = .ok (.iadd, 1) := by decide +kernel
theorem dm_Law_392 : decode code 392 = .ok (.iaload, 1) := by decide +kernel
theorem dm_Law_393 : decode code 393 = .ok (.aload_n 0, 1) := by decide +kernel
theorem dm_Law_394 : decode code 394 = .ok (.iload_n 3, 1) := by decide +kernel
theorem dm_Law_395 : decode code 395 = .ok (.iconst 4, 1) := by decide +kernel
theorem dm_Law_396 : decode code 396 = .ok (.iadd, 1) := by decide +kernel
theorem dm_Law_397 : decode code 397 = .ok (.iaload, 1) := by decide +kernel
theorem dm_Law_398 : decode code 398 = .ok (.invokevirtual 54, 3) := by decide +kernel
theorem dm_Law_401 : decode code 401 = .ok (.aload_n 2, 1) := by decide +kernel
theorem dm_Law_402 : decode code 402 = .ok (.aload_n 0, 1) := by decide +kernel
theorem dm_Law_403 : decode code 403 = .ok (.iload_n 3, 1) := by decide +kernel
theorem dm_Law_404 : decode code 404 = .ok (.iconst 1, 1) := by decide +kernel
theorem dm_Law_405 : decode code 405 = .ok (.iadd, 1) := by decide +kernel
theorem dm_Law_406 : decode code 406 = .ok (.iaload, 1) := by decide +kernel
theorem dm_Law_407 : decode code 407 = .ok (.aload_n 0, 1) := by decide +kernel
theorem dm_Law_408 : decode code 408 = .ok (.iload_n 3, 1) := by decide +kernel
theorem dm_Law_409 : decode code 409 = .ok (.iconst 2, 1) := by decide +kernel
theorem dm_Law_410 : decode code 410 = .ok (.iadd, 1) := by decide +kernel
theorem dm_Law_411 : decode code 411 = .ok (.iaload, 1) := by decide +kernel
theorem dm_Law_412 : decode code 412 = .ok (.aload_n 0, 1) := by decide +kernel
theorem dm_Law_413 : decode code 413 = .ok (.iload_n 3, 1) := by decide +kernel
theorem dm_Law_414 : decode code 414 = .ok (.iconst 3, 1) := by decide +kernel
theorem dm_Law_415 : decode code 415 = .ok (.iadd, 1) := by decide +kernel
theorem dm_Law_416 : decode code 416 = .ok (.iaload, 1) := by decide +kernel
theorem dm_Law_417 : decode code 417 = .ok (.aload_n 0, 1) := by decide +kernel
theorem dm_Law_418 : decode code 418 = .ok (.iload_n 3, 1) := by decide +kernel
theorem dm_Law_419 : decode code 419 = .ok (.iconst 4, 1) := by decide +kernel
theorem dm_Law_420 : decode code 420 = .ok (.iadd, 1) := by decide +kernel
theorem dm_Law_421 : decode code 421 = .ok (.iaload, 1) := by decide +kernel
theorem dm_Law_422 : decode code 422 = .ok (.invokevirtual 57, 3) := by decide +kernel
theorem dm_Law_425 : decode code 425 = .ok (.if_icmp .eq 447, 3) := by decide +kernel
theorem dm_Law_428 : decode code 428 = .ok (.iconst 0, 1) := by decide +kernel
theorem dm_Law_429 : decode code 429 = .ok (.ireturn, 1) := by decide +kernel
theorem dm_Law_430 : decode code 430 = .ok (.aload_n 1, 1) := by decide +kernel
theorem dm_Law_431 : decode code 431 = .ok (.aload_n 0, 1) := by decide +kernel
theorem dm_Law_432 : decode code 432 = .ok (.iload_n 3, 1) := by decide +kernel
theorem dm_Law_433 : decode code 433 = .ok (.iconst 1, 1) := by decide +kernel
theorem dm_Law_434 : decode code 434 = .ok (.iadd, 1) := by decide +kernel
theorem dm_Law_435 : decode code 435 = .ok (.iaload, 1) := by decide +kernel
theorem dm_Law_436 : decode code 436 = .ok (.aload_n 0, 1) := by decide +kernel
theorem dm_Law_437 : decode code 437 = .ok (.iload_n 3, 1) := by decide +kernel
theorem dm_Law_438 : decode code 438 = .ok (.iconst 2, 1) := by decide +kernel
theorem dm_Law_439 : decode code 439 = .ok (.iadd, 1) := by decide +kernel
theorem dm_Law_440 : decode code 440 = .ok (.iaload, 1) := by decide +kernel
theorem dm_Law_441 : decode code 441 = .ok (.aload_n 0, 1) := by decide +kernel
theorem dm_Law_442 : decode code 442 = .ok (.iload_n 3, 1) := by decide +kernel
theorem dm_Law_443 : decode code 443 = .ok (.iconst 3, 1) := by decide +kernel
theorem dm_Law_444 : decode code 444 = .ok (.iadd, 1) := by decide +kernel
theorem dm_Law_445 : decode code 445 = .ok (.iaload, 1) := by decide +kernel
theorem dm_Law_446 : decode code 446 = .ok (.invokevirtual 58, 3) := by decide +kernel
theorem dm_Law_449 : decode code 449 = .ok (.aload_n 2, 1) := by decide +kernel
theorem dm_Law_450 : decode code 450 = .ok (.aload_n 0, 1) := by decide +kernel
theorem dm_Law_451 : decode code 451 = .ok (.iload_n 3, 1) := by decide +kernel
theorem dm_Law_452 : decode code 452 = .ok (.iconst 1, 1) := by decide +kernel
theorem dm_Law_453 : decode code 453 = .ok (.iadd, 1) := by decide +kernel
theorem dm_Law_454 : decode code 454 = .ok (.iaload, 1) := by decide +kernel
theorem dm_Law_455 : decode code 455 = .ok (.aload_n 0, 1) := by decide +kernel
theorem dm_Law_456 : decode code 456 = .ok (.iload_n 3, 1) := by decide +kernel
theorem dm_Law_457 : decode code 457 = .ok (.iconst 2, 1) := by decide +kernel
theorem dm_Law_458 : decode code 458 = .ok (.iadd, 1) := by decide +kernel
theorem dm_Law_459 : decode code 459 = .ok (.iaload, 1) := by decide +kernel
theorem dm_Law_460 : decode code 460 = .ok (.aload_n 0, 1) := by decide +kernel
theorem dm_Law_461 : decode code 461 = .ok (.iload_n 3, 1) := by decide +kernel
theorem dm_Law_462 : decode code 462 = .ok (.iconst 3, 1) := by decide +kernel
theorem dm_Law_463 : decode code 463 = .ok (.iadd, 1) := by decide +kernel
theorem dm_Law_464 : decode code 464 = .ok (.iaload, 1) := by decide +kernel
theorem dm_Law_465 : decode code 465 = .ok (.invokevirtual 61, 3) := by decide +kernel
theorem dm_Law_468 : decode code 468 = .ok (.if_icmp .eq 404, 3) := by decide +kernel
theorem dm_Law_471 : decode code 471 = .ok (.iconst 0, 1) := by decide +kernel
theorem dm_Law_472 : decode code 472 = .ok (.ireturn, 1) := by decide +kernel
theorem dm_Law_473 : decode code 473 = .ok (.aload_n 1, 1) := by decide +kernel
theorem dm_Law_474 : decode code 474 = .ok (.aload_n 0, 1) := by decide +kernel
theorem dm_Law_475 : decode code 475 = .ok (.iload_n 3, 1) := by decide +kernel
theorem dm_Law_476 : decode code 476 = .ok (.iconst 1, 1) := by decide +kernel
theorem dm_Law_477 : decode code 477 = .ok (.iadd, 1) := by decide +kernel
theorem dm_Law_478 : decode code 478 = .ok (.iaload, 1) := by decide +kernel
theorem dm_Law_479 : decode code 479 = .ok (.aload_n 0, 1) := by decide +kernel
theorem dm_Law_480 : decode code 480 = .ok (.iload_n 3, 1) := by decide +kernel
theorem dm_Law_481 : decode code 481 = .ok (.iconst 2, 1) := by decide +kernel
theorem dm_Law_482 : decode code 482 = .ok (.iadd, 1) := by decide +kernel
theorem dm_Law_483 : decode code 483 = .ok (.iaload, 1) := by decide +kernel
theorem dm_Law_484 : decode code 484 = .ok (.aload_n 0, 1) := by decide +kernel
theorem dm_Law_485 : decode code 485 = .ok (.iload_n 3, 1) := by decide +kernel
theorem dm_Law_486 : decode code 486 = .ok (.iconst 3, 1) := by decide +kernel
theorem dm_Law_487 : decode code 487 = .ok (.iadd, 1) := by decide +kernel
theorem dm_Law_488 : decode code 488 = .ok (.iaload, 1) := by decide +kernel
theorem dm_Law_489 : decode code 489 = .ok (.i2l, 1) := by decide +kernel
theorem dm_Law_490 : decode code 490 = .ok (.bipush 32, 2) := by decide +kernel
theorem dm_Law_492 : decode code 492 = .ok (.lshl, 1) := by decide +kernel
theorem dm_Law_493 : decode code 493 = .ok (.aload_n 0, 1) := by decide +kernel
theorem dm_Law_494 : decode code 494 = .ok (.iload_n 3, 1) := by decide +kernel
theorem dm_Law_495 : decode code 495 = .ok (.iconst 4, 1) := by decide +kernel
theorem dm_Law_496 : decode code 496 = .ok (.iadd, 1) := by decide +kernel
theorem dm_Law_497 : decode code 497 = .ok (.iaload, 1) := by decide +kernel
theorem dm_Law_498 : decode code 498 = .ok (.i2l, 1) := by decide +kernel
theorem dm_Law_499 : decode code 499 = .ok (.ldc2_w 62, 3) := by decide +kernel
theorem dm_Law_502 : decode code 502 = .ok (.land, 1) := by decide +kernel
theorem dm_Law_503 : decode code 503 = .ok (.lor, 1) := by decide +kernel
theorem dm_Law_504 : decode code 504 = .ok (.aload_n 0, 1) := by decide +kernel
theorem dm_Law_505 : decode code 505 = .ok (.iload_n 3, 1) := by decide +kernel
theorem dm_Law_506 : decode code 506 = .ok (.iconst 5, 1) := by decide +kernel
theorem dm_Law_507 : decode code 507 = .ok (.iadd, 1) := by decide +kernel
theorem dm_Law_508 : decode code 508 = .ok (.iaload, 1) := by decide +kernel
theorem dm_Law_509 : decode code 509 = .ok (.invokevirtual 64, 3) := by decide +kernel
theorem dm_Law_512 : decode code 512 = .ok (.aload_n 2, 1) := by decide +kernel
theorem dm_Law_513 : decode code 513 = .ok (.aload_n 0, 1) := by decide +kernel
theorem dm_Law_514 : decode code 514 = .ok (.iload_n 3, 1) := by decide +kernel
theorem dm_Law_515 : decode code 515 = .ok (.iconst 1, 1) := by decide +kernel
theorem dm_Law_516 : decode code 516 = .ok (.iadd, 1) := by decide +kernel
theorem dm_Law_517 : decode code 517 = .ok (.iaload, 1) := by decide +kernel
theorem dm_Law_518 : decode code 518 = .ok (.aload_n 0, 1) := by decide +kernel
theorem dm_Law_519 : decode code 519 = .ok (.iload_n 3, 1) := by decide +kernel
theorem dm_Law_520 : decode code 520 = .ok (.iconst 2, 1) := by decide +kernel
theorem dm_Law_521 : decode code 521 = .ok (.iadd, 1) := by decide +kernel
theorem dm_Law_522 : decode code 522 = .ok (.iaload, 1) := by decide +kernel
theorem dm_Law_523 : decode code 523 = .ok (.aload_n 0, 1) := by decide +kernel
theorem dm_Law_524 : decode code 524 = .ok (.iload_n 3, 1) := by decide +kernel
theorem dm_Law_525 : decode code 525 = .ok (.iconst 3, 1) := by decide +kernel
theorem dm_Law_526 : decode code 526 = .ok (.iadd, 1) := by decide +kernel
theorem dm_Law_527 : decode code 527 = .ok (.iaload, 1) := by decide +kernel
theorem dm_Law_528 : decode code 528 = .ok (.i2l, 1) := by decide +kernel
theorem dm_Law_529 : decode code 529 = .ok (.bipush 32, 2) := by decide +kernel
theorem dm_Law_531 : decode code 531 = .ok (.lshl, 1) := by decide +kernel
theorem dm_Law_532 : decode code 532 = .ok (.aload_n 0, 1) := by decide +kernel
theorem dm_Law_533 : decode code 533 = .ok (.iload_n 3, 1) := by decide +kernel
theorem dm_Law_534 : decode code 534 = .ok (.iconst 4, 1) := by decide +kernel
theorem dm_Law_535 : decode code 535 = .ok (.iadd, 1) := by decide +kernel
theorem dm_Law_536 : decode code 536 = .ok (.iaload, 1) := by decide +kernel
theorem dm_Law_537 : decode code 537 = .ok (.i2l, 1) := by decide +kernel
theorem dm_Law_538 : decode code 538 = .ok (.ldc2_w 62, 3) := by decide +kernel
theorem dm_Law_541 : decode code 541 = .ok (.land, 1) := by decide +kernel
theorem dm_Law_542 : decode code 542 = .ok (.lor, 1) := by decide +kernel
theorem dm_Law_543 : decode code 543 = .ok (.aload_n 0, 1) := by decide +kernel
theorem dm_Law_544 : decode code 544 = .ok (.iload_n 3, 1) := by decide +kernel
theorem dm_Law_545 : decode code 545 = .ok (.iconst 5, 1) := by decide +kernel
theorem dm_Law_546 : decode code 546 = .ok (.iadd, 1) := by decide +kernel
theorem dm_Law_547 : decode code 547 = .ok (.iaload, 1) := by decide +kernel
theorem dm_Law_548 : decode code 548 = .ok (.invokevirtual 68, 3) := by decide +kernel
theorem dm_Law_551 : decode code 551 = .ok (.if_icmp .eq 321, 3) := by decide +kernel
theorem dm_Law_554 : decode code 554 = .ok (.iconst 0, 1) := by decide +kernel
theorem dm_Law_555 : decode code 555 = .ok (.ireturn, 1) := by decide +kernel
theorem dm_Law_556 : decode code 556 = .ok (.aload_n 1, 1) := by decide +kernel
theorem dm_Law_557 : decode code 557 = .ok (.aload_n 0, 1) := by decide +kernel
theorem dm_Law_558 : decode code 558 = .ok (.iload_n 3, 1) := by decide +kernel
theorem dm_Law_559 : decode code 559 = .ok (.iconst 1, 1) := by decide +kernel
theorem dm_Law_560 : decode code 560 = .ok (.iadd, 1) := by decide +kernel
theorem dm_Law_561 : decode code 561 = .ok (.iaload, 1) := by decide +kernel
theorem dm_Law_562 : decode code 562 = .ok (.aload_n 0, 1) := by decide +kernel
theorem dm_Law_563 : decode code 563 = .ok (.iload_n 3, 1) := by decide +kernel
theorem dm_Law_564 : decode code 564 = .ok (.iconst 2, 1) := by decide +kernel
theorem dm_Law_565 : decode code 565 = .ok (.iadd, 1) := by decide +kernel
theorem dm_Law_566 : decode code 566 = .ok (.iaload, 1) := by decide +kernel
theorem dm_Law_567 : decode code 567 = .ok (.invokevirtual 69, 3) := by decide +kernel
theorem dm_Law_570 : decode code 570 = .ok (.aload_n 2, 1) := by decide +kernel
theorem dm_Law_571 : decode code 571 = .ok (.aload_n 0, 1) := by decide +kernel
theorem dm_Law_572 : decode code 572 = .ok (.iload_n 3, 1) := by decide +kernel
theorem dm_Law_573 : decode code 573 = .ok (.iconst 1, 1) := by decide +kernel
theorem dm_Law_574 : decode code 574 = .ok (.iadd, 1) := by decide +kernel
theorem dm_Law_575 : decode code 575 = .ok (.iaload, 1) := by decide +kernel
theorem dm_Law_576 : decode code 576 = .ok (.aload_n 0, 1) := by decide +kernel
theorem dm_Law_577 : decode code 577 = .ok (.iload_n 3, 1) := by decide +kernel
theorem dm_Law_578 : decode code 578 = .ok (.iconst 2, 1) := by decide +kernel
theorem dm_Law_579 : decode code 579 = .ok (.iadd, 1) := by decide +kernel
theorem dm_Law_580 : decode code 580 = .ok (.iaload, 1) := by decide +kernel
theorem dm_Law_581 : decode code 581 = .ok (.invokevirtual 72, 3) := by decide +kernel
theorem dm_Law_584 : decode code 584 = .ok (.if_icmp .eq 288, 3) := by decide +kernel
theorem dm_Law_587 : decode code 587 = .ok (.iconst 0, 1) := by decide +kernel
theorem dm_Law_588 : decode code 588 = .ok (.ireturn, 1) := by decide +kernel
theorem dm_Law_589 : decode code 589 = .ok (.aload_n 1, 1) := by decide +kernel
theorem dm_Law_590 : decode code 590 = .ok (.aload_n 0, 1) := by decide +kernel
theorem dm_Law_591 : decode code 591 = .ok (.iload_n 3, 1) := by decide +kernel
theorem dm_Law_592 : decode code 592 = .ok (.iconst 1, 1) := by decide +kernel
theorem dm_Law_593 : decode code 593 = .ok (.iadd, 1) := by decide +kernel
theorem dm_Law_594 : decode code 594 = .ok (.iaload, 1) := by decide +kernel
theorem dm_Law_595 : decode code 595 = .ok (.invokevirtual 73, 3) := by decide +kernel
theorem dm_Law_598 : decode code 598 = .ok (.aload_n 2, 1) := by decide +kernel
theorem dm_Law_599 : decode code 599 = .ok (.aload_n 0, 1) := by decide +kernel
theorem dm_Law_600 : decode code 600 = .ok (.iload_n 3, 1) := by decide +kernel
theorem dm_Law_601 : decode code 601 = .ok (.iconst 1, 1) := by decide +kernel
theorem dm_Law_602 : decode code 602 = .ok (.iadd, 1) := by decide +kernel
theorem dm_Law_603 : decode code 603 = .ok (.iaload, 1) := by decide +kernel
theorem dm_Law_604 : decode code 604 = .ok (.invokevirtual 76, 3) := by decide +kernel
theorem dm_Law_607 : decode code 607 = .ok (.if_icmp .eq 265, 3) := by decide +kernel
theorem dm_Law_610 : decode code 610 = .ok (.iconst 0, 1) := by decide +kernel
theorem dm_Law_611 : decode code 611 = .ok (.ireturn, 1) := by decide +kernel
theorem dm_Law_612 : decode code 612 = .ok (.aload_n 1, 1) := by decide +kernel
theorem dm_Law_613 : decode code 613 = .ok (.aload_n 0, 1) := by decide +kernel
theorem dm_Law_614 : decode code 614 = .ok (.iload_n 3, 1) := by decide +kernel
theorem dm_Law_615 : decode code 615 = .ok (.iconst 1, 1) := by decide +kernel
theorem dm_Law_616 : decode code 616 = .ok (.iadd, 1) := by decide +kernel
theorem dm_Law_617 : decode code 617 = .ok (.iaload, 1) := by decide +kernel
theorem dm_Law_618 : decode code 618 = .ok (.invokevirtual 77, 3) := by decide +kernel
theorem dm_Law_621 : decode code 621 = .ok (.aload_n 2, 1) := by decide +kernel
theorem dm_Law_622 : decode code 622 = .ok (.aload_n 0, 1) := by decide +kernel
theorem dm_Law_623 : decode code 623 = .ok (.iload_n 3, 1) := by decide +kernel
theorem dm_Law_624 : decode code 624 = .ok (.iconst 1, 1) := by decide +kernel
theorem dm_Law_625 : decode code 625 = .ok (.iadd, 1) := by decide +kernel
theorem dm_Law_626 : decode code 626 = .ok (.iaload, 1) := by decide +kernel
theorem dm_Law_627 : decode code 627 = .ok (.invokevirtual 80, 3) := by decide +kernel
theorem dm_Law_630 : decode code 630 = .ok (.if_icmp .eq 242, 3) := by decide +kernel
theorem dm_Law_633 : decode code 633 = .ok (.iconst 0, 1) := by decide +kernel
theorem dm_Law_634 : decode code 634 = .ok (.ireturn, 1) := by decide +kernel
theorem dm_Law_635 : decode code 635 = .ok (.aload_n 1, 1) := by decide +kernel
theorem dm_Law_636 : decode code 636 = .ok (.aload_n 0, 1) := by decide +kernel
theorem dm_Law_637 : decode code 637 = .ok (.iload_n 3, 1) := by decide +kernel
theorem dm_Law_638 : decode code 638 = .ok (.iconst 1, 1) := by decide +kernel
theorem dm_Law_639 : decode code 639 = .ok (.iadd, 1) := by decide +kernel
theorem dm_Law_640 : decode code 640 = .ok (.iaload, 1) := by decide +kernel
theorem dm_Law_641 : decode code 641 = .ok (.aload_n 0, 1) := by decide +kernel
theorem dm_Law_642 : decode code 642 = .ok (.iload_n 3, 1) := by decide +kernel
theorem dm_Law_643 : decode code 643 = .ok (.iconst 2, 1) := by decide +kernel
theorem dm_Law_644 : decode code 644 = .ok (.iadd, 1) := by decide +kernel
theorem dm_Law_645 : decode code 645 = .ok (.iaload, 1) := by decide +kernel
theorem dm_Law_646 : decode code 646 = .ok (.invokevirtual 81, 3) := by decide +kernel
theorem dm_Law_649 : decode code 649 = .ok (.aload_n 2, 1) := by decide +kernel
theorem dm_Law_650 : decode code 650 = .ok (.aload_n 0, 1) := by decide +kernel
theorem dm_Law_651 : decode code 651 = .ok (.iload_n 3, 1) := by decide +kernel
theorem dm_Law_652 : decode code 652 = .ok (.iconst 1, 1) := by decide +kernel
theorem dm_Law_653 : decode code 653 = .ok (.iadd, 1) := by decide +kernel
theorem dm_Law_654 : decode code 654 = .ok (.iaload, 1) := by decide +kernel
theorem dm_Law_655 : decode code 655 = .ok (.aload_n 0, 1) := by decide +kernel
theorem dm_Law_656 : decode code 656 = .ok (.iload_n 3, 1) := by decide +kernel
theorem dm_Law_657 : decode code 657 = .ok (.iconst 2, 1) := by decide +kernel
theorem dm_Law_658 : decode code 658 = .ok (.iadd, 1) := by decide +kernel
theorem dm_Law_659 : decode code 659 = .ok (.iaload, 1) := by decide +kernel
theorem dm_Law_660 : decode code 660 = .ok (.invokevirtual 84, 3) := by decide +kernel
theorem dm_Law_663 : decode code 663 = .ok (.if_icmp .eq 209, 3) := by decide +kernel
theorem dm_Law_666 : decode code 666 = .ok (.iconst 0, 1) := by decide +kernel
theorem dm_Law_667 : decode code 667 = .ok (.ireturn, 1) := by decide +kernel
theorem dm_Law_668 : decode code 668 = .ok (.aload_n 1, 1) := by decide +kernel
theorem dm_Law_669 : decode code 669 = .ok (.aload_n 0, 1) := by decide +kernel
theorem dm_Law_670 : decode code 670 = .ok (.iload_n 3, 1) := by decide +kernel
theorem dm_Law_671 : decode code 671 = .ok (.iconst 1, 1) := by decide +kernel
theorem dm_Law_672 : decode code 672 = .ok (.iadd, 1) := by decide +kernel
theorem dm_Law_673 : decode code 673 = .ok (.iaload, 1) := by decide +kernel
theorem dm_Law_674 : decode code 674 = .ok (.aload_n 0, 1) := by decide +kernel
theorem dm_Law_675 : decode code 675 = .ok (.iload_n 3, 1) := by decide +kernel
theorem dm_Law_676 : decode code 676 = .ok (.iconst 2, 1) := by decide +kernel
theorem dm_Law_677 : decode code 677 = .ok (.iadd, 1) := by decide +kernel
theorem dm_Law_678 : decode code 678 = .ok (.iaload, 1) := by decide +kernel
theorem dm_Law_679 : decode code 679 = .ok (.invokevirtual 85, 3) := by decide +kernel
theorem dm_Law_682 : decode code 682 = .ok (.aload_n 2, 1) := by decide +kernel
theorem dm_Law_683 : decode code 683 = .ok (.aload_n 0, 1) := by decide +kernel
theorem dm_Law_684 : decode code 684 = .ok (.iload_n 3, 1) := by decide +kernel
theorem dm_Law_685 : decode code 685 = .ok (.iconst 1, 1) := by decide +kernel
theorem dm_Law_686 : decode code 686 = .ok (.iadd, 1) := by decide +kernel
theorem dm_Law_687 : decode code 687 = .ok (.iaload, 1) := by decide +kernel
theorem dm_Law_688 : decode code 688 = .ok (.aload_n 0, 1) := by decide +kernel
theorem dm_Law_689 : decode code 689 = .ok (.iload_n 3, 1) := by decide +kernel
theorem dm_Law_690 : decode code 690 = .ok (.iconst 2, 1) := by decide +kernel
theorem dm_Law_691 : decode code 691 = .ok (.iadd, 1) := by decide +kernel
theorem dm_Law_692 : decode code 692 = .ok (.iaload, 1) := by decide +kernel
theorem dm_Law_693 : decode code 693 = .ok (.invokevirtual 88, 3) := by decide +kernel
theorem dm_Law_696 : decode code 696 = .ok (.if_icmp .eq 176, 3) := by decide +kernel
theorem dm_Law_699 : decode code 699 = .ok (.iconst 0, 1) := by decide +kernel
theorem dm_Law_700 : decode code 700 = .ok (.ireturn, 1) := by decide +kernel
theorem dm_Law_701 : decode code 701 = .ok (.aload_n 1, 1) := by decide +kernel
theorem dm_Law_702 : decode code 702 = .ok (.aload_n 0, 1) := by decide +kernel
theorem dm_Law_703 : decode code 703 = .ok (.iload_n 3, 1) := by decide +kernel
theorem dm_Law_704 : decode code 704 = .ok (.iconst 1, 1) := by decide +kernel
theorem dm_Law_705 : decode code 705 = .ok (.iadd, 1) := by decide +kernel
theorem dm_Law_706 : decode code 706 = .ok (.iaload, 1) := by decide +kernel
theorem dm_Law_707 : decode code 707 = .ok (.invokevirtual 89, 3) := by decide +kernel
theorem dm_Law_710 : decode code 710 = .ok (.aload_n 2, 1) := by decide +kernel
theorem dm_Law_711 : decode code 711 = .ok (.aload_n 0, 1) := by decide +kernel
theorem dm_Law_712 : decode code 712 = .ok (.iload_n 3, 1) := by decide +kernel
theorem dm_Law_713 : decode code 713 = .ok (.iconst 1, 1) := by decide +kernel
theorem dm_Law_714 : decode code 714 = .ok (.iadd, 1) := by decide +kernel
theorem dm_Law_715 : decode code 715 = .ok (.iaload, 1) := by decide +kernel
theorem dm_Law_716 : decode code 716 = .ok (.invokevirtual 92, 3) := by decide +kernel
theorem dm_Law_719 : decode code 719 = .ok (.if_icmp .eq 153, 3) := by decide +kernel
theorem dm_Law_722 : decode code 722 = .ok (.iconst 0, 1) := by decide +kernel
theorem dm_Law_723 : decode code 723 = .ok (.ireturn, 1) := by decide +kernel
theorem dm_Law_724 : decode code 724 = .ok (.aload_n 1, 1) := by decide +kernel
theorem dm_Law_725 : decode code 725 = .ok (.aload_n 0, 1) := by decide +kernel
theorem dm_Law_726 : decode code 726 = .ok (.iload_n 3, 1) := by decide +kernel
theorem dm_Law_727 : decode code 727 = .ok (.iconst 1, 1) := by decide +kernel
theorem dm_Law_728 : decode code 728 = .ok (.iadd, 1) := by decide +kernel
theorem dm_Law_729 : decode code 729 = .ok (.iaload, 1) := by decide +kernel
theorem dm_Law_730 : decode code 730 = .ok (.invokevirtual 93, 3) := by decide +kernel
theorem dm_Law_733 : decode code 733 = .ok (.aload_n 2, 1) := by decide +kernel
theorem dm_Law_734 : decode code 734 = .ok (.aload_n 0, 1) := by decide +kernel
theorem dm_Law_735 : decode code 735 = .ok (.iload_n 3, 1) := by decide +kernel
theorem dm_Law_736 : decode code 736 = .ok (.iconst 1, 1) := by decide +kernel
theorem dm_Law_737 : decode code 737 = .ok (.iadd, 1) := by decide +kernel
theorem dm_Law_738 : decode code 738 = .ok (.iaload, 1) := by decide +kernel
theorem dm_Law_739 : decode code 739 = .ok (.invokevirtual 96, 3) := by decide +kernel
theorem dm_Law_742 : decode code 742 = .ok (.if_icmp .eq 130, 3) := by decide +kernel
theorem dm_Law_745 : decode code 745 = .ok (.iconst 0, 1) := by decide +kernel
theorem dm_Law_746 : decode code 746 = .ok (.ireturn, 1) := by decide +kernel
theorem dm_Law_747 : decode code 747 = .ok (.aload_n 1, 1) := by decide +kernel
theorem dm_Law_748 : decode code 748 = .ok (.aload_n 0, 1) := by decide +kernel
theorem dm_Law_749 : decode code 749 = .ok (.iload_n 3, 1) := by decide +kernel
theorem dm_Law_750 : decode code 750 = .ok (.iconst 1, 1) := by decide +kernel
theorem dm_Law_751 : decode code 751 = .ok (.iadd, 1) := by decide +kernel
theorem dm_Law_752 : decode code 752 = .ok (.iaload, 1) := by decide +kernel
theorem dm_Law_753 : decode code 753 = .ok (.aload_n 0, 1) := by decide +kernel
theorem dm_Law_754 : decode code 754 = .ok (.iload_n 3, 1) := by decide +kernel
theorem dm_Law_755 : decode code 755 = .ok (.iconst 2, 1) := by decide +kernel
theorem dm_Law_756 : decode code 756 = .ok (.iadd, 1) := by decide +kernel
theorem dm_Law_757 : decode code 757 = .ok (.iaload, 1) := by decide +kernel
theorem dm_Law_758 : decode code 758 = .ok (.aload_n 0, 1) := by decide +kernel
theorem dm_Law_759 : decode code 759 = .ok (.iload_n 3, 1) := by decide +kernel
theorem dm_Law_760 : decode code 760 = .ok (.iconst 3, 1) := by decide +kernel
theorem dm_Law_761 : decode code 761 = .ok (.iadd, 1) := by decide +kernel
theorem dm_Law_762 : decode code 762 = .ok (.iaload, 1) := by decide +kernel
theorem dm_Law_763 : decode code 763 = .ok (.invokevirtual 97, 3) := by decide +kernel
theorem dm_Law_766 : decode code 766 = .ok (.aload_n 2, 1) := by decide +kernel
theorem dm_Law_767 : decode code 767 = .ok (.aload_n 0, 1) := by decide +kernel
theorem dm_Law_768 : decode code 768 = .ok (.iload_n 3, 1) := by decide +kernel
theorem dm_Law_769 : decode code 769 = .ok (.iconst 1, 1) := by decide +kernel
theorem dm_Law_770 : decode code 770 = .ok (.iadd, 1) := by decide +kernel
theorem dm_Law_771 : decode code 771 = .ok (.iaload, 1) := by decide +kernel
theorem dm_Law_772 : decode code 772 = .ok (.aload_n 0, 1) := by decide +kernel
theorem dm_Law_773 : decode code 773 = .ok (.iload_n 3, 1) := by decide +kernel
theorem dm_Law_774 : decode code 774 = .ok (.iconst 2, 1) := by decide +kernel
theorem dm_Law_775 : decode code 775 = .ok (.iadd, 1) := by decide +kernel
theorem dm_Law_776 : decode code 776 = .ok (.iaload, 1) := by decide +kernel
theorem dm_Law_777 : decode code 777 = .ok (.aload_n 0, 1) := by decide +kernel
theorem dm_Law_778 : decode code 778 = .ok (.iload_n 3, 1) := by decide +kernel
theorem dm_Law_779 : decode code 779 = .ok (.iconst 3, 1) := by decide +kernel
theorem dm_Law_780 : decode code 780 = .ok (.iadd, 1) := by decide +kernel
theorem dm_Law_781 : decode code 781 = .ok (.iaload, 1) := by decide +kernel
theorem dm_Law_782 : decode code 782 = .ok (.invokevirtual 100, 3) := by decide +kernel
theorem dm_Law_785 : decode code 785 = .ok (.if_icmp .eq 87, 3) := by decide +kernel
theorem dm_Law_788 : decode code 788 = .ok (.iconst 0, 1) := by decide +kernel
theorem dm_Law_789 : decode code 789 = .ok (.ireturn, 1) := by decide +kernel
theorem dm_Law_790 : decode code 790 = .ok (.aload_n 1, 1) := by decide +kernel
theorem dm_Law_791 : decode code 791 = .ok (.aload_n 0, 1) := by decide +kernel
theorem dm_Law_792 : decode code 792 = .ok (.iload_n 3, 1) := by decide +kernel
theorem dm_Law_793 : decode code 793 = .ok (.iconst 1, 1) := by decide +kernel
theorem dm_Law_794 : decode code 794 = .ok (.iadd, 1) := by decide +kernel
theorem dm_Law_795 : decode code 795 = .ok (.iaload, 1) := by decide +kernel
theorem dm_Law_796 : decode code 796 = .ok (.aload_n 0, 1) := by decide +kernel
theorem dm_Law_797 : decode code 797 = .ok (.iload_n 3, 1) := by decide +kernel
theorem dm_Law_798 : decode code 798 = .ok (.iconst 2, 1) := by decide +kernel
theorem dm_Law_799 : decode code 799 = .ok (.iadd, 1) := by decide +kernel
theorem dm_Law_800 : decode code 800 = .ok (.iaload, 1) := by decide +kernel
theorem dm_Law_801 : decode code 801 = .ok (.invokevirtual 101, 3) := by decide +kernel
theorem dm_Law_804 : decode code 804 = .ok (.aload_n 2, 1) := by decide +kernel
theorem dm_Law_805 : decode code 805 = .ok (.aload_n 0, 1) := by decide +kernel
theorem dm_Law_806 : decode code 806 = .ok (.iload_n 3, 1) := by decide +kernel
theorem dm_Law_807 : decode code 807 = .ok (.iconst 1, 1) := by decide +kernel
theorem dm_Law_808 : decode code 808 = .ok (.iadd, 1) := by decide +kernel
theorem dm_Law_809 : decode code 809 = .ok (.iaload, 1) := by decide +kernel
theorem dm_Law_810 : decode code 810 = .ok (.aload_n 0, 1) := by decide +kernel
theorem dm_Law_811 : decode code 811 = .ok (.iload_n 3, 1) := by decide +kernel
theorem dm_Law_812 : decode code 812 = .ok (.iconst 2, 1) := by decide +kernel
theorem dm_Law_813 : decode code 813 = .ok (.iadd, 1) := by decide +kernel
theorem dm_Law_814 : decode code 814 = .ok (.iaload, 1) := by decide +kernel
theorem dm_Law_815 : decode code 815 = .ok (.invokevirtual 104, 3) := by decide +kernel
theorem dm_Law_818 : decode code 818 = .ok (.if_icmp .eq 54, 3) := by decide +kernel
theorem dm_Law_821 : decode code 821 = .ok (.iconst 0, 1) := by decide +kernel
theorem dm_Law_822 : decode code 822 = .ok (.ireturn, 1) := by decide +kernel
theorem dm_Law_823 : decode code 823 = .ok (.aload_n 1, 1) := by decide +kernel
theorem dm_Law_824 : decode code 824 = .ok (.aload_n 0, 1) := by decide +kernel
theorem dm_Law_825 : decode code 825 = .ok (.iload_n 3, 1) := by decide +kernel
theorem dm_Law_826 : decode code 826 = .ok (.iconst 1, 1) := by decide +kernel
theorem dm_Law_827 : decode code 827 = .ok (.iadd, 1) := by decide +kernel
theorem dm_Law_828 : decode code 828 = .ok (.iaload, 1) := by decide +kernel
theorem dm_Law_829 : decode code 829 = .ok (.aload_n 0, 1) := by decide +kernel
theorem dm_Law_830 : decode code 830 = .ok (.iload_n 3, 1) := by decide +kernel
theorem dm_Law_831 : decode code 831 = .ok (.iconst 2, 1) := by decide +kernel
theorem dm_Law_832 : decode code 832 = .ok (.iadd, 1) := by decide +kernel
theorem dm_Law_833 : decode code 833 = .ok (.iaload, 1) := by decide +kernel
theorem dm_Law_834 : decode code 834 = .ok (.ifCond .eq 7, 3) := by decide +kernel
theorem dm_Law_837 : decode code 837 = .ok (.iconst 1, 1) := by decide +kernel
theorem dm_Law_838 : decode code 838 = .ok (.goto 4, 3) := by decide +kernel
theorem dm_Law_841 : decode code 841 = .ok (.iconst 0, 1) := by decide +kernel
theorem dm_Law_842 : decode code 842 = .ok (.invokevirtual 105, 3) := by decide +kernel
theorem dm_Law_845 : decode code 845 = .ok (.aload_n 2, 1) := by decide +kernel
theorem dm_Law_846 : decode code 846 = .ok (.aload_n 0, 1) := by decide +kernel
theorem dm_Law_847 : decode code 847 = .ok (.iload_n 3, 1) := by decide +kernel
theorem dm_Law_848 : decode code 848 = .ok (.iconst 1, 1) := by decide +kernel
theorem dm_Law_849 : decode code 849 = .ok (.iadd, 1) := by decide +kernel
theorem dm_Law_850 : decode code 850 = .ok (.iaload, 1) := by decide +kernel
theorem dm_Law_851 : decode code 851 = .ok (.aload_n 0, 1) := by decide +kernel
theorem dm_Law_852 : decode code 852 = .ok (.iload_n 3, 1) := by decide +kernel
theorem dm_Law_853 : decode code 853 = .ok (.iconst 2, 1) := by decide +kernel
theorem dm_Law_854 : decode code 854 = .ok (.iadd, 1) := by decide +kernel
theorem dm_Law_855 : decode code 855 = .ok (.iaload, 1) := by decide +kernel
theorem dm_Law_856 : decode code 856 = .ok (.ifCond .eq 7, 3) := by decide +kernel
theorem dm_Law_859 : decode code 859 = .ok (.iconst 1, 1) := by decide +kernel
theorem dm_Law_860 : decode code 860 = .ok (.goto 4, 3) := by decide +kernel
theorem dm_Law_863 : decode code 863 = .ok (.iconst 0, 1) := by decide +kernel
theorem dm_Law_864 : decode code 864 = .ok (.invokevirtual 109, 3) := by decide +kernel
theorem dm_Law_867 : decode code 867 = .ok (.if_icmp .eq 5, 3) := by decide +kernel
theorem dm_Law_870 : decode code 870 = .ok (.iconst 0, 1) := by decide +kernel
theorem dm_Law_871 : decode code 871 = .ok (.ireturn, 1) := by decide +kernel
theorem dm_Law_872 : decode code 872 = .ok (.iinc 3 6, 3) := by decide +kernel
theorem dm_Law_875 : decode code 875 = .ok (.goto (-847), 3) := by decide +kernel
theorem dm_Law_878 : decode code 878 = .ok (.iconst 1, 1) := by decide +kernel
theorem dm_Law_879 : decode code 879 = .ok (.ireturn, 1) := by decide +kernel
theorem dm_Law_cell_0 : decode bm_Law_cell 0 = .ok (.iload_n 1, 1) := by decide +kernel
theorem dm_Law_cell_1 : decode bm_Law_cell 1 = .ok (.aload_n 0, 1) := by decide +kernel
theorem dm_Law_cell_2 : decode bm_Law_cell 2 = .ok (.arraylength, 1) := by decide +kernel
theorem dm_Law_cell_3 : decode bm_Law_cell 3 = .ok (.if_icmp .ge 9, 3) := by decide +kernel
theorem dm_Law_cell_6 : decode bm_Law_cell 6 = .ok (.aload_n 0, 1) := by decide +kernel
theorem dm_Law_cell_7 : decode bm_Law_cell 7 = .ok (.iload_n 1, 1) := by decide +kernel
theorem dm_Law_cell_8 : decode bm_Law_cell 8 = .ok (.iaload, 1) := by decide +kernel
theorem dm_Law_cell_9 : decode bm_Law_cell 9 = .ok (.goto 4, 3) := by decide +kernel
theorem dm_Law_cell_12 : decode bm_Law_cell 12 = .ok (.iconst 0, 1) := by decide +kernel
theorem dm_Law_cell_13 : decode bm_Law_cell 13 = .ok (.ireturn, 1) := by decide +kernel
theorem cv_Law_9 {args : Array Value} {s : State} {R : Room} (ht : ∀ w ∈ wa_g, w.before args s = true) (hR : rm_Law_cell.frames + 1 ≤ R.frames ∧ 8 + (2 + 11) + rm_Law_cell.locals ≤ R.locals) : CallB R s args rc_Law 9 ym_Law_cell bm_Law_cell 2 (some .int) wm_Law_cell rm_Law_cell 0 0 2 ∧ (Cond.static ym_Law_cell).before args s = true := cwS 2 ht (wa_S (wa_in 549 (by decide +kernel) rfl) (wa_in 550 (by decide +kernel) rfl) (wa_in 0 (by decide +kernel) rfl) ci_Law_cell) rfl rfl rfl (by decide +kernel) hR
theorem cv_Law_21 {args : Array Value} {s : State} {R : Room} (ht : ∀ w ∈ wa_g, w.before args s = true) (hR : rm_PP_prime.frames + 1 ≤ R.frames ∧ 8 + (1 + 11) + rm_PP_prime.locals ≤ R.locals) : CallW R s args rc_Law rc_PP 21 ym_PP_prime bm_PP_prime 1 (some .int) wm_PP_prime rm_PP_prime 0 0 0 := cwV 0 ht (wa_V (wa_in 261 (by decide +kernel) rfl) (wa_in 262 (by decide +kernel) rfl) (wa_in 263 (by decide +kernel) rfl) (wa_in 1 (by decide +kernel) rfl) ci_PP_prime) rfl rfl rfl (by decide +kernel) hR
theorem cv_Law_25 {args : Array Value} {s : State} {R : Room} (ht : ∀ w ∈ wa_g, w.before args s = true) (hR : rm_Model_prime.frames + 1 ≤ R.frames ∧ 8 + (1 + 11) + rm_Model_prime.locals ≤ R.locals) : CallW R s args rc_Law rc_Model 25 ym_Model_prime bm_Model_prime 1 (some .int) wm_Model_prime rm_Model_prime 0 0 0 := cwV 0 ht (wa_V (wa_in 586 (by decide +kernel) rfl) (wa_in 587 (by decide +kernel) rfl) (wa_in 588 (by decide +kernel) rfl) (wa_in 9 (by decide +kernel) rfl) ci_Model_prime) rfl rfl rfl (by decide +kernel) hR
theorem cv_Law_26 {args : Array Value} {s : State} {R : Room} (ht : ∀ w ∈ wa_g, w.before args s = true) (hR : rm_PP_set.frames + 1 ≤ R.frames ∧ 8 + (4 + 11) + rm_PP_set.locals ≤ R.locals) : CallW R s args rc_Law rc_PP 26 ym_PP_set bm_PP_set 4 (some .int) wm_PP_set rm_PP_set 0 0 3 := cwV 3 ht (wa_V (wa_in 265 (by decide +kernel) rfl) (wa_in 266 (by decide +kernel) rfl) (wa_in 267 (by decide +kernel) rfl) (wa_in 1 (by decide +kernel) rfl) ci_PP_set) rfl rfl rfl (by decide +kernel) hR
theorem cv_Law_30 {args : Array Value} {s : State} {R : Room} (ht : ∀ w ∈ wa_g, w.before args s = true) (hR : rm_Model_set.frames + 1 ≤ R.frames ∧ 8 + (5 + 11) + rm_Model_set.locals ≤ R.locals) : CallW R s args rc_Law rc_Model 30 ym_Model_set bm_Model_set 5 (some .int) wm_Model_set rm_Model_set 0 0 3 := cwV 3 ht (wa_V (wa_in 590 (by decide +kernel) rfl) (wa_in 591 (by decide +kernel) rfl) (wa_in 592 (by decide +kernel) rfl) (wa_in 9 (by decide +kernel) rfl) ci_Model_set) rfl rfl rfl (by decide +kernel) hR
theorem cv_Law_31 {args : Array Value} {s : State} {R : Room} (ht : ∀ w ∈ wa_g, w.before args s = true) (hR : rm_PP_coefficient.frames + 1 ≤ R.frames ∧ 8 + (3 + 11) + rm_PP_coefficient.locals ≤ R.locals) : CallW R s args rc_Law rc_PP 31 ym_PP_coefficient bm_PP_coefficient 3 (some .int) wm_PP_coefficient rm_PP_coefficient 0 0 2 := cwV 2 ht (wa_V (wa_in 282 (by decide +kernel) rfl) (wa_in 283 (by decide +kernel) rfl) (wa_in 284 (by decide +kernel) rfl) (wa_in 1 (by decide +kernel) rfl) ci_PP_coefficient) rfl rfl rfl (by decide +kernel) hR
theorem cv_Law_35 {args : Array Value} {s : State} {R : Room} (ht : ∀ w ∈ wa_g, w.before args s = true) (hR : rm_Model_coefficient.frames + 1 ≤ R.frames ∧ 8 + (3 + 11) + rm_Model_coefficient.locals ≤ R.locals) : CallW R s args rc_Law rc_Model 35 ym_Model_coefficient bm_Model_coefficient 3 (some .int) wm_Model_coefficient rm_Model_coefficient 0 0 2 := cwV 2 ht (wa_V (wa_in 613 (by decide +kernel) rfl) (wa_in 614 (by decide +kernel) rfl) (wa_in 615 (by decide +kernel) rfl) (wa_in 9 (by decide +kernel) rfl) ci_Model_coefficient) rfl rfl rfl (by decide +kernel) hR
theorem cv_Law_36 {args : Array Value} {s : State} {R : Room} (ht : ∀ w ∈ wa_g, w.before args s = true) (hR : rm_PP_size.frames + 1 ≤ R.frames ∧ 8 + (2 + 11) + rm_PP_size.locals ≤ R.locals) : CallW R s args rc_Law rc_PP 36 ym_PP_size bm_PP_size 2 (some .int) wm_PP_size rm_PP_size 0 0 1 := cwV 1 ht (wa_V (wa_in 286 (by decide +kernel) rfl) (wa_in 287 (by decide +kernel) rfl) (wa_in 288 (by decide +kernel) rfl) (wa_in 1 (by decide +kernel) rfl) ci_PP_size) rfl rfl rfl (by decide +kernel) hR
theorem cv_Law_40 {args : Array Value} {s : State} {R : Room} (ht : ∀ w ∈ wa_g, w.before args s = true) (hR : rm_Model_size.frames + 1 ≤ R.frames ∧ 8 + (2 + 11) + rm_Model_size.locals ≤ R.locals) : CallW R s args rc_Law rc_Model 40 ym_Model_size bm_Model_size 2 (some .int) wm_Model_size rm_Model_size 0 0 1 := cwV 1 ht (wa_V (wa_in 617 (by decide +kernel) rfl) (wa_in 618 (by decide +kernel) rfl) (wa_in 619 (by decide +kernel) rfl) (wa_in 9 (by decide +kernel) rfl) ci_Model_size) rfl rfl rfl (by decide +kernel) hR
theorem cv_Law_41 {args : Array Value} {s : State} {R : Room} (ht : ∀ w ∈ wa_g, w.before args s = true) (hR : rm_PP_value.frames + 1 ≤ R.frames ∧ 8 + (3 + 11) + rm_PP_value.locals ≤ R.locals) : CallW R s args rc_Law rc_PP 41 ym_PP_value bm_PP_value 3 (some .int) wm_PP_value rm_PP_value 0 0 2 := cwV 2 ht (wa_V (wa_in 294 (by decide +kernel) rfl) (wa_in 295 (by decide +kernel) rfl) (wa_in 296 (by decide +kernel) rfl) (wa_in 1 (by decide +kernel) rfl) ci_PP_value) rfl rfl rfl (by decide +kernel) hR
theorem cv_Law_44 {args : Array Value} {s : State} {R : Room} (ht : ∀ w ∈ wa_g, w.before args s = true) (hR : rm_Model_value.frames + 1 ≤ R.frames ∧ 8 + (6 + 11) + rm_Model_value.locals ≤ R.locals) : CallW R s args rc_Law rc_Model 44 ym_Model_value bm_Model_value 6 (some .int) wm_Model_value rm_Model_value 0 0 2 := cwV 2 ht (wa_V (wa_in 625 (by decide +kernel) rfl) (wa_in 626 (by decide +kernel) rfl) (wa_in 627 (by decide +kernel) rfl) (wa_in 9 (by decide +kernel) rfl) ci_Model_value) rfl rfl rfl (by decide +kernel) hR
theorem cv_Law_45 {args : Array Value} {s : State} {R : Room} (ht : ∀ w ∈ wa_g, w.before args s = true) (hR : rm_PP_add.frames + 1 ≤ R.frames ∧ 8 + (5 + 11) + rm_PP_add.locals ≤ R.locals) : CallW R s args rc_Law rc_PP 45 ym_PP_add bm_PP_add 5 (some .int) wm_PP_add rm_PP_add 0 0 4 := cwV 4 ht (wa_V (wa_in 302 (by decide +kernel) rfl) (wa_in 303 (by decide +kernel) rfl) (wa_in 304 (by decide +kernel) rfl) (wa_in 1 (by decide +kernel) rfl) ci_PP_add) rfl rfl rfl (by decide +kernel) hR
theorem cv_Law_49 {args : Array Value} {s : State} {R : Room} (ht : ∀ w ∈ wa_g, w.before args s = true) (hR : rm_Model_add.frames + 1 ≤ R.frames ∧ 8 + (5 + 11) + rm_Model_add.locals ≤ R.locals) : CallW R s args rc_Law rc_Model 49 ym_Model_add bm_Model_add 5 (some .int) wm_Model_add rm_Model_add 0 0 4 := cwV 4 ht (wa_V (wa_in 629 (by decide +kernel) rfl) (wa_in 630 (by decide +kernel) rfl) (wa_in 631 (by decide +kernel) rfl) (wa_in 9 (by decide +kernel) rfl) ci_Model_add) rfl rfl rfl (by decide +kernel) hR
theorem cv_Law_50 {args : Array Value} {s : State} {R : Room} (ht : ∀ w ∈ wa_g, w.before args s = true) (hR : rm_PP_multiply.frames + 1 ≤ R.frames ∧ 8 + (4 + 11) + rm_PP_multiply.locals ≤ R.locals) : CallW R s args rc_Law rc_PP 50 ym_PP_multiply bm_PP_multiply 4 (some .int) wm_PP_multiply rm_PP_multiply 0 0 3 := cwV 3 ht (wa_V (wa_in 311 (by decide +kernel) rfl) (wa_in 312 (by decide +kernel) rfl) (wa_in 313 (by decide +kernel) rfl) (wa_in 1 (by decide +kernel) rfl) ci_PP_multiply) rfl rfl rfl (by decide +kernel) hR
theorem cv_Law_53 {args : Array Value} {s : State} {R : Room} (ht : ∀ w ∈ wa_g, w.before args s = true) (hR : rm_Model_multiply.frames + 1 ≤ R.frames ∧ 8 + (4 + 11) + rm_Model_multiply.locals ≤ R.locals) : CallW R s args rc_Law rc_Model 53 ym_Model_multiply bm_Model_multiply 4 (some .int) wm_Model_multiply rm_Model_multiply 0 0 3 := cwV 3 ht (wa_V (wa_in 641 (by decide +kernel) rfl) (wa_in 642 (by decide +kernel) rfl) (wa_in 643 (by decide +kernel) rfl) (wa_in 9 (by decide +kernel) rfl) ci_Model_multiply) rfl rfl rfl (by decide +kernel) hR
theorem cv_Law_54 {args : Array Value} {s : State} {R : Room} (ht : ∀ w ∈ wa_g, w.before args s = true) (hR : rm_PP_divide.frames + 1 ≤ R.frames ∧ 8 + (5 + 11) + rm_PP_divide.locals ≤ R.locals) : CallW R s args rc_Law rc_PP 54 ym_PP_divide bm_PP_divide 5 (some .int) wm_PP_divide rm_PP_divide 0 0 4 := cwV 4 ht (wa_V (wa_in 331 (by decide +kernel) rfl) (wa_in 332 (by decide +kernel) rfl) (wa_in 333 (by decide +kernel) rfl) (wa_in 1 (by decide +kernel) rfl) ci_PP_divide) rfl rfl rfl (by decide +kernel) hR
theorem cv_Law_57 {args : Array Value} {s : State} {R : Room} (ht : ∀ w ∈ wa_g, w.before args s = true) (hR : rm_Model_divide.frames + 1 ≤ R.frames ∧ 8 + (5 + 11) + rm_Model_divide.locals ≤ R.locals) : CallW R s args rc_Law rc_Model 57 ym_Model_divide bm_Model_divide 5 (some .int) wm_Model_divide rm_Model_divide 0 0 4 := cwV 4 ht (wa_V (wa_in 653 (by decide +kernel) rfl) (wa_in 654 (by decide +kernel) rfl) (wa_in 655 (by decide +kernel) rfl) (wa_in 9 (by decide +kernel) rfl) ci_Model_divide) rfl rfl rfl (by decide +kernel) hR
theorem cv_Law_58 {args : Array Value} {s : State} {R : Room} (ht : ∀ w ∈ wa_g, w.before args s = true) (hR : rm_PP_common.frames + 1 ≤ R.frames ∧ 8 + (4 + 11) + rm_PP_common.locals ≤ R.locals) : CallW R s args rc_Law rc_PP 58 ym_PP_common bm_PP_common 4 (some .int) wm_PP_common rm_PP_common 0 0 3 := cwV 3 ht (wa_V (wa_in 355 (by decide +kernel) rfl) (wa_in 356 (by decide +kernel) rfl) (wa_in 357 (by decide +kernel) rfl) (wa_in 1 (by decide +kernel) rfl) ci_PP_common) rfl rfl rfl (by decide +kernel) hR
theorem cv_Law_61 {args : Array Value} {s : State} {R : Room} (ht : ∀ w ∈ wa_g, w.before args s = true) (hR : rm_Model_common.frames + 1 ≤ R.frames ∧ 8 + (4 + 11) + rm_Model_common.locals ≤ R.locals) : CallW R s args rc_Law rc_Model 61 ym_Model_common bm_Model_common 4 (some .int) wm_Model_common rm_Model_common 0 0 3 := cwV 3 ht (wa_V (wa_in 669 (by decide +kernel) rfl) (wa_in 670 (by decide +kernel) rfl) (wa_in 671 (by decide +kernel) rfl) (wa_in 9 (by decide +kernel) rfl) ci_Model_common) rfl rfl rfl (by decide +kernel) hR
theorem cv_Law_64 {args : Array Value} {s : State} {R : Room} (ht : ∀ w ∈ wa_g, w.before args s = true) (hR : rm_PP_power.frames + 1 ≤ R.frames ∧ 8 + (6 + 11) + rm_PP_power.locals ≤ R.locals) : CallW R s args rc_Law rc_PP 64 ym_PP_power bm_PP_power 6 (some .int) wm_PP_power rm_PP_power 0 0 4 := cwV 4 ht (wa_V (wa_in 381 (by decide +kernel) rfl) (wa_in 382 (by decide +kernel) rfl) (wa_in 383 (by decide +kernel) rfl) (wa_in 1 (by decide +kernel) rfl) ci_PP_power) rfl rfl rfl (by decide +kernel) hR
theorem cv_Law_68 {args : Array Value} {s : State} {R : Room} (ht : ∀ w ∈ wa_g, w.before args s = true) (hR : rm_Model_power.frames + 1 ≤ R.frames ∧ 8 + (6 + 11) + rm_Model_power.locals ≤ R.locals) : CallW R s args rc_Law rc_Model 68 ym_Model_power bm_Model_power 6 (some .int) wm_Model_power rm_Model_power 0 0 4 := cwV 4 ht (wa_V (wa_in 681 (by decide +kernel) rfl) (wa_in 682 (by decide +kernel) rfl) (wa_in 683 (by decide +kernel) rfl) (wa_in 9 (by decide +kernel) rfl) ci_Model_power) rfl rfl rfl (by decide +kernel) hR
theorem cv_Law_69 {args : Array Value} {s : State} {R : Room} (ht : ∀ w ∈ wa_g, w.before args s = true) (hR : rm_PP_derive.frames + 1 ≤ R.frames ∧ 8 + (3 + 11) + rm_PP_derive.locals ≤ R.locals) : CallW R s args rc_Law rc_PP 69 ym_PP_derive bm_PP_derive 3 (some .int) wm_PP_derive rm_PP_derive 0 0 2 := cwV 2 ht (wa_V (wa_in 394 (by decide +kernel) rfl) (wa_in 395 (by decide +kernel) rfl) (wa_in 396 (by decide +kernel) rfl) (wa_in 1 (by decide +kernel) rfl) ci_PP_derive) rfl rfl rfl (by decide +kernel) hR
theorem cv_Law_72 {args : Array Value} {s : State} {R : Room} (ht : ∀ w ∈ wa_g, w.before args s = true) (hR : rm_Model_derive.frames + 1 ≤ R.frames ∧ 8 + (4 + 11) + rm_Model_derive.locals ≤ R.locals) : CallW R s args rc_Law rc_Model 72 ym_Model_derive bm_Model_derive 4 (some .int) wm_Model_derive rm_Model_derive 0 0 2 := cwV 2 ht (wa_V (wa_in 693 (by decide +kernel) rfl) (wa_in 694 (by decide +kernel) rfl) (wa_in 695 (by decide +kernel) rfl) (wa_in 9 (by decide +kernel) rfl) ci_Model_derive) rfl rfl rfl (by decide +kernel) hR
theorem cv_Law_73 {args : Array Value} {s : State} {R : Room} (ht : ∀ w ∈ wa_g, w.before args s = true) (hR : rm_PP_isPrime.frames + 1 ≤ R.frames ∧ 8 + (2 + 11) + rm_PP_isPrime.locals ≤ R.locals) : CallW R s args rc_Law rc_PP 73 ym_PP_isPrime bm_PP_isPrime 2 (some .int) wm_PP_isPrime rm_PP_isPrime 0 0 1 := cwV 1 ht (wa_V (wa_in 402 (by decide +kernel) rfl) (wa_in 403 (by decide +kernel) rfl) (wa_in 404 (by decide +kernel) rfl) (wa_in 1 (by decide +kernel) rfl) ci_PP_isPrime) rfl rfl rfl (by decide +kernel) hR
theorem cv_Law_76 {args : Array Value} {s : State} {R : Room} (ht : ∀ w ∈ wa_g, w.before args s = true) (hR : rm_Model_isPrime.frames + 1 ≤ R.frames ∧ 8 + (2 + 11) + rm_Model_isPrime.locals ≤ R.locals) : CallW R s args rc_Law rc_Model 76 ym_Model_isPrime bm_Model_isPrime 2 (some .int) wm_Model_isPrime rm_Model_isPrime 0 0 1 := cwV 1 ht (wa_V (wa_in 697 (by decide +kernel) rfl) (wa_in 698 (by decide +kernel) rfl) (wa_in 699 (by decide +kernel) rfl) (wa_in 9 (by decide +kernel) rfl) ci_Model_isPrime) rfl rfl rfl (by decide +kernel) hR
theorem cv_Law_77 {args : Array Value} {s : State} {R : Room} (ht : ∀ w ∈ wa_g, w.before args s = true) (hR : rm_PP_factor.frames + 1 ≤ R.frames ∧ 8 + (2 + 11) + rm_PP_factor.locals ≤ R.locals) : CallW R s args rc_Law rc_PP 77 ym_PP_factor bm_PP_factor 2 (some .int) wm_PP_factor rm_PP_factor 0 0 1 := cwV 1 ht (wa_V (wa_in 430 (by decide +kernel) rfl) (wa_in 431 (by decide +kernel) rfl) (wa_in 432 (by decide +kernel) rfl) (wa_in 1 (by decide +kernel) rfl) ci_PP_factor) rfl rfl rfl (by decide +kernel) hR
theorem cv_Law_80 {args : Array Value} {s : State} {R : Room} (ht : ∀ w ∈ wa_g, w.before args s = true) (hR : rm_Model_factor.frames + 1 ≤ R.frames ∧ 8 + (4 + 11) + rm_Model_factor.locals ≤ R.locals) : CallW R s args rc_Law rc_Model 80 ym_Model_factor bm_Model_factor 4 (some .int) wm_Model_factor rm_Model_factor 0 0 1 := cwV 1 ht (wa_V (wa_in 705 (by decide +kernel) rfl) (wa_in 706 (by decide +kernel) rfl) (wa_in 707 (by decide +kernel) rfl) (wa_in 9 (by decide +kernel) rfl) ci_Model_factor) rfl rfl rfl (by decide +kernel) hR
theorem cv_Law_81 {args : Array Value} {s : State} {R : Room} (ht : ∀ w ∈ wa_g, w.before args s = true) (hR : rm_PP_part.frames + 1 ≤ R.frames ∧ 8 + (4 + 11) + rm_PP_part.locals ≤ R.locals) : CallW R s args rc_Law rc_PP 81 ym_PP_part bm_PP_part 4 (some .int) wm_PP_part rm_PP_part 0 0 2 := cwV 2 ht (wa_V (wa_in 460 (by decide +kernel) rfl) (wa_in 461 (by decide +kernel) rfl) (wa_in 462 (by decide +kernel) rfl) (wa_in 1 (by decide +kernel) rfl) ci_PP_part) rfl rfl rfl (by decide +kernel) hR
theorem cv_Law_84 {args : Array Value} {s : State} {R : Room} (ht : ∀ w ∈ wa_g, w.before args s = true) (hR : rm_Model_part.frames + 1 ≤ R.frames ∧ 8 + (3 + 11) + rm_Model_part.locals ≤ R.locals) : CallW R s args rc_Law rc_Model 84 ym_Model_part bm_Model_part 3 (some .int) wm_Model_part rm_Model_part 0 0 2 := cwV 2 ht (wa_V (wa_in 721 (by decide +kernel) rfl) (wa_in 722 (by decide +kernel) rfl) (wa_in 723 (by decide +kernel) rfl) (wa_in 9 (by decide +kernel) rfl) ci_Model_part) rfl rfl rfl (by decide +kernel) hR
theorem cv_Law_85 {args : Array Value} {s : State} {R : Room} (ht : ∀ w ∈ wa_g, w.before args s = true) (hR : rm_PP_split.frames + 1 ≤ R.frames ∧ 8 + (3 + 11) + rm_PP_split.locals ≤ R.locals) : CallW R s args rc_Law rc_PP 85 ym_PP_split bm_PP_split 3 (some .int) wm_PP_split rm_PP_split 0 0 2 := cwV 2 ht (wa_V (wa_in 468 (by decide +kernel) rfl) (wa_in 469 (by decide +kernel) rfl) (wa_in 470 (by decide +kernel) rfl) (wa_in 1 (by decide +kernel) rfl) ci_PP_split) rfl rfl rfl (by decide +kernel) hR
theorem cv_Law_88 {args : Array Value} {s : State} {R : Room} (ht : ∀ w ∈ wa_g, w.before args s = true) (hR : rm_Model_split.frames + 1 ≤ R.frames ∧ 8 + (5 + 11) + rm_Model_split.locals ≤ R.locals) : CallW R s args rc_Law rc_Model 88 ym_Model_split bm_Model_split 5 (some .int) wm_Model_split rm_Model_split 0 0 2 := cwV 2 ht (wa_V (wa_in 729 (by decide +kernel) rfl) (wa_in 730 (by decide +kernel) rfl) (wa_in 731 (by decide +kernel) rfl) (wa_in 9 (by decide +kernel) rfl) ci_Model_split) rfl rfl rfl (by decide +kernel) hR
theorem cv_Law_89 {args : Array Value} {s : State} {R : Room} (ht : ∀ w ∈ wa_g, w.before args s = true) (hR : rm_PP_product.frames + 1 ≤ R.frames ∧ 8 + (2 + 11) + rm_PP_product.locals ≤ R.locals) : CallW R s args rc_Law rc_PP 89 ym_PP_product bm_PP_product 2 (some .int) wm_PP_product rm_PP_product 0 0 1 := cwV 1 ht (wa_V (wa_in 491 (by decide +kernel) rfl) (wa_in 492 (by decide +kernel) rfl) (wa_in 493 (by decide +kernel) rfl) (wa_in 1 (by decide +kernel) rfl) ci_PP_product) rfl rfl rfl (by decide +kernel) hR
theorem cv_Law_92 {args : Array Value} {s : State} {R : Room} (ht : ∀ w ∈ wa_g, w.before args s = true) (hR : rm_Model_product.frames + 1 ≤ R.frames ∧ 8 + (4 + 11) + rm_Model_product.locals ≤ R.locals) : CallW R s args rc_Law rc_Model 92 ym_Model_product bm_Model_product 4 (some .int) wm_Model_product rm_Model_product 0 0 1 := cwV 1 ht (wa_V (wa_in 737 (by decide +kernel) rfl) (wa_in 738 (by decide +kernel) rfl) (wa_in 739 (by decide +kernel) rfl) (wa_in 9 (by decide +kernel) rfl) ci_Model_product) rfl rfl rfl (by decide +kernel) hR
theorem cv_Law_93 {args : Array Value} {s : State} {R : Room} (ht : ∀ w ∈ wa_g, w.before args s = true) (hR : rm_PP_field.frames + 1 ≤ R.frames ∧ 8 + (3 + 11) + rm_PP_field.locals ≤ R.locals) : CallW R s args rc_Law rc_PP 93 ym_PP_field bm_PP_field 3 (some .int) wm_PP_field rm_PP_field 0 0 1 := cwV 1 ht (wa_V (wa_in 505 (by decide +kernel) rfl) (wa_in 506 (by decide +kernel) rfl) (wa_in 507 (by decide +kernel) rfl) (wa_in 1 (by decide +kernel) rfl) ci_PP_field) rfl rfl rfl (by decide +kernel) hR
theorem cv_Law_96 {args : Array Value} {s : State} {R : Room} (ht : ∀ w ∈ wa_g, w.before args s = true) (hR : rm_Model_field.frames + 1 ≤ R.frames ∧ 8 + (2 + 11) + rm_Model_field.locals ≤ R.locals) : CallW R s args rc_Law rc_Model 96 ym_Model_field bm_Model_field 2 (some .int) wm_Model_field rm_Model_field 0 0 1 := cwV 1 ht (wa_V (wa_in 741 (by decide +kernel) rfl) (wa_in 742 (by decide +kernel) rfl) (wa_in 743 (by decide +kernel) rfl) (wa_in 9 (by decide +kernel) rfl) ci_Model_field) rfl rfl rfl (by decide +kernel) hR
theorem cv_Law_97 {args : Array Value} {s : State} {R : Room} (ht : ∀ w ∈ wa_g, w.before args s = true) (hR : rm_PP_times.frames + 1 ≤ R.frames ∧ 8 + (4 + 11) + rm_PP_times.locals ≤ R.locals) : CallW R s args rc_Law rc_PP 97 ym_PP_times bm_PP_times 4 (some .int) wm_PP_times rm_PP_times 0 0 3 := cwV 3 ht (wa_V (wa_in 511 (by decide +kernel) rfl) (wa_in 512 (by decide +kernel) rfl) (wa_in 513 (by decide +kernel) rfl) (wa_in 1 (by decide +kernel) rfl) ci_PP_times) rfl rfl rfl (by decide +kernel) hR
theorem cv_Law_100 {args : Array Value} {s : State} {R : Room} (ht : ∀ w ∈ wa_g, w.before args s = true) (hR : rm_Model_times.frames + 1 ≤ R.frames ∧ 8 + (4 + 11) + rm_Model_times.locals ≤ R.locals) : CallW R s args rc_Law rc_Model 100 ym_Model_times bm_Model_times 4 (some .int) wm_Model_times rm_Model_times 0 0 3 := cwV 3 ht (wa_V (wa_in 745 (by decide +kernel) rfl) (wa_in 746 (by decide +kernel) rfl) (wa_in 747 (by decide +kernel) rfl) (wa_in 9 (by decide +kernel) rfl) ci_Model_times) rfl rfl rfl (by decide +kernel) hR
theorem cv_Law_101 {args : Array Value} {s : State} {R : Room} (ht : ∀ w ∈ wa_g, w.before args s = true) (hR : rm_PP_inverse.frames + 1 ≤ R.frames ∧ 8 + (3 + 11) + rm_PP_inverse.locals ≤ R.locals) : CallW R s args rc_Law rc_PP 101 ym_PP_inverse bm_PP_inverse 3 (some .int) wm_PP_inverse rm_PP_inverse 0 0 2 := cwV 2 ht (wa_V (wa_in 521 (by decide +kernel) rfl) (wa_in 522 (by decide +kernel) rfl) (wa_in 523 (by decide +kernel) rfl) (wa_in 1 (by decide +kernel) rfl) ci_PP_inverse) rfl rfl rfl (by decide +kernel) hR
theorem cv_Law_104 {args : Array Value} {s : State} {R : Room} (ht : ∀ w ∈ wa_g, w.before args s = true) (hR : rm_Model_inverse.frames + 1 ≤ R.frames ∧ 8 + (5 + 11) + rm_Model_inverse.locals ≤ R.locals) : CallW R s args rc_Law rc_Model 104 ym_Model_inverse bm_Model_inverse 5 (some .int) wm_Model_inverse rm_Model_inverse 0 0 2 := cwV 2 ht (wa_V (wa_in 749 (by decide +kernel) rfl) (wa_in 750 (by decide +kernel) rfl) (wa_in 751 (by decide +kernel) rfl) (wa_in 9 (by decide +kernel) rfl) ci_Model_inverse) rfl rfl rfl (by decide +kernel) hR
theorem cv_Law_105 {args : Array Value} {s : State} {R : Room} (ht : ∀ w ∈ wa_g, w.before args s = true) (hR : rm_PP_trace.frames + 1 ≤ R.frames ∧ 8 + (3 + 11) + rm_PP_trace.locals ≤ R.locals) : CallW R s args rc_Law rc_PP 105 ym_PP_trace bm_PP_trace 3 (some .int) wm_PP_trace rm_PP_trace 0 0 2 := cwV 2 ht (wa_V (wa_in 539 (by decide +kernel) rfl) (wa_in 540 (by decide +kernel) rfl) (wa_in 541 (by decide +kernel) rfl) (wa_in 1 (by decide +kernel) rfl) ci_PP_trace) rfl rfl rfl (by decide +kernel) hR
theorem cv_Law_109 {args : Array Value} {s : State} {R : Room} (ht : ∀ w ∈ wa_g, w.before args s = true) (hR : rm_Model_trace.frames + 1 ≤ R.frames ∧ 8 + (4 + 11) + rm_Model_trace.locals ≤ R.locals) : CallW R s args rc_Law rc_Model 109 ym_Model_trace bm_Model_trace 4 (some .int) wm_Model_trace rm_Model_trace 0 0 2 := cwV 2 ht (wa_V (wa_in 753 (by decide +kernel) rfl) (wa_in 754 (by decide +kernel) rfl) (wa_in 755 (by decide +kernel) rfl) (wa_in 9 (by decide +kernel) rfl) ci_Model_trace) rfl rfl rfl (by decide +kernel) hR
def cx_pre (D : va_G) (k : ClassId × ClassId × ClassId) (g : Nat → Nat) (N : Nat) (E : Nat → va_E) (b L : Nat) (xs : Nat → Int32) (sz : Nat) (U : State) : Prop := ct_pre D cl_s (ty_s k) g N E sz U ∧ va_X b L xs U U.heap ∧ b < U.heap.size
theorem cx_blind {D : va_G} {k : ClassId × ClassId × ClassId} {g : Nat → Nat} {N : Nat} {E : Nat → va_E} {b L : Nat} {xs : Nat → Int32} {sz : Nat} {As : List Value} : FrameBlind (va_Pc As (cx_pre D k g N E b L xs sz)) := fun a U g' mk q => by
  obtain ⟨q0, ⟨q1, qP, qK, qD⟩, qX, qb⟩ := q
  exact ⟨q0, ⟨q1, qP, va_K.moved (u := U) (U := U.calling g' mk a) (Vm.Alike.refl U.vm) qK, qD⟩, va_X.moved (u := U) (U := U.calling g' mk a) (Vm.Alike.refl U.vm) qX, qb⟩
set_option maxHeartbeats 4000000 in
theorem mm_Law_cell (l : Launch) (D : va_G) (k : ClassId × ClassId × ClassId) (g : Nat → Nat) (N : Nat) (E : Nat → va_E) (b L : Nat) (xs : Nat → Int32) (hL : L < 2147483648) (sz : Nat) : Met l ym_Law_cell wm_Law_cell rm_Law_cell (va_Pc [.ref b, .int (nI 0)] (cx_pre D k g N E b L xs sz)) (va_Qi (fun r (_ : Unit) => r = if 0 < L then xs 0 else 0) (ct_B D cl_s (ty_s k) g N (fun _ => E) (pw_A g N sz)) (pw_A g N sz)) 0 0 (pw_A g N sz) := by
  refine Met.ofW (cc := bm_Law_cell) (maxL := 2) (ret := some .int) (by decide) rfl ?_
  intro p e s m args below meth c s₁ B hml hv
  obtain ⟨rfl, ⟨hsz, hP, hK, hD0⟩, hX, hbl⟩ := hv
  have hx := B.exec
  have hb := B.bytes
  have hr := B.returns
  have hts := atoms_spec (ws := wm_Law_cell) B.pre
  have hown := findClass_of_methodNamed B.named
  have hlocks := B.notSynchronized
  subst hsz
  have hl := lv_entry [.ref b, .int (nI 0)] (n := 2) (Nat.le_of_ble_eq_true rfl)
  rw [lg_entry_eq]
  have S : pw_S p m c bm_Law_cell 2 s (([.ref b, .int (nI 0)] : List Value).toArray) wa_g rc_Law D cl_s (ty_s k) := ⟨⟨hx, hb, hml, hown, fun w h => hts w (List.mem_cons_of_mem _ h)⟩, hK⟩
  generalize ((lg_sl [.ref b, .int (nI 0)] ++ List.replicate (2 - (lg_sl [.ref b, .int (nI 0)]).length) Slot.unset).toArray) = ls at hl ⊢
  have hl : lv_has ls 2 [(0, .ref b), (1, .int (nI 0))] := hl
  have hret : ∀ (ls : Array Slot) (r : Int32), r = (if 0 < L then xs 0 else 0) → W p l e rm_Law_cell s m (([.ref b, .int (nI 0)] : List Value).toArray) below meth c s.heap [] 0 0 (MQ below (va_Qi (fun r (_ : Unit) => r = if 0 < L then xs 0 else 0) (ct_B D cl_s (ty_s k) g N (fun _ => E) (pw_A g N s.heap.size)) (pw_A g N s.heap.size)) (([.ref b, .int (nI 0)] : List Value).toArray) s 0 0 (pw_A g N s.heap.size)) (F0 m 13 ls [.int r]) := fun ls r hrr =>
    W.iret hx hb hr (fun t ht hWm => ⟨⟨r, (), rfl, hrr, by rw [ht]; exact hP, va_K.moved hWm.alike hK, pw_D_A hD0⟩, (va_S.rf (A := pw_A g N s.heap.size) (H0 := s.heap)).F ht⟩) (fun q h => by cases h) dm_Law_cell_13
  refine lv_iload_n hx hb dm_Law_cell_0 rfl (lv_at hl 1 rfl) ?_
  refine lv_aload_n hx hb dm_Law_cell_1 rfl (lv_at hl 0 rfl) ?_
  refine va_slen (A := fun _ => False) hx hb hX hbl (fun h => h) va_S.rf dm_Law_cell_2 ?_
  refine wi_icmp_ge (tgt := 12) S (nn_T (by decide)) (nn_T hL) dm_Law_cell_3 (by decide) (fun hc => ?_) (fun hc => ?_)
  · refine lv_iconst (v := nI (0)) hx hb dm_Law_cell_12 (by decide) ?_
    exact hret ls _ (by rw [if_neg (by omega)]; rfl)
  · refine lv_aload_n hx hb dm_Law_cell_6 rfl (lv_at hl 0 rfl) ?_
    refine lv_iload_n hx hb dm_Law_cell_7 rfl (lv_at hl 1 rfl) ?_
    refine va_sld (A := fun _ => False) hx hb hX hbl (fun h => h) va_S.rf (vp_in_nI (by omega) (by omega)) dm_Law_cell_8 ?_
    refine lv_goto (tgt := 13) hx hb dm_Law_cell_9 (by decide) ?_
    exact hret ls _ (by rw [if_pos (by omega)]; rfl)
section LCE
variable {p : Program} {l : Launch} {e : Env} {R : Room} {s : State} {m : MethodId} {args : Array Value} {below : List Frame} {meth : Method} {c : Code} {H : Heap} {locs : List Loc} {cells slots : Nat} {Q : State → Prop}
variable {cc : ByteArray} {pc nL : Nat} {ls : Array Slot} {rest : List Value} {D : va_G} {A : Nat → Prop} {g : Nat → Nat} {N b L : Nat} {xs : Nat → Int32} {k : ClassId × ClassId × ClassId} {E : Nat → va_E}
theorem lw_cell (S : pw_S p m c cc nL s args wa_g rc_Law D cl_s (ty_s k)) (hX : va_X b L xs s s.heap) (hbl : b < s.heap.size) (hbA : ¬ A b) (hL : L < 2147483648) (hW : pw_H D cl_s A s.heap g N E H locs) (hR : rm_Law_cell.frames + 1 ≤ R.frames ∧ 8 + (2 + 11) + rm_Law_cell.locals ≤ R.locals) (hsize : ls.size = nL) (hrest : (rest.map fun v => v.category).sum ≤ 8) (hf : cells ≤ R.cells ∧ slots ≤ R.slots) (hdg : decode cc pc = .ok (.invokestatic 9, 3))
    (kk : ∀ (H1 : Heap) (locs1 : List Loc), pw_H D cl_s A s.heap g N E H1 locs1 → W p l e R s m args below meth c H1 locs1 cells slots Q (F0 m (pc + 3) ls (.int (if 0 < L then xs 0 else 0) :: rest))) : W p l e R s m args below meth c H locs cells slots Q (F0 m pc ls (.int (nI 0) :: .ref b :: rest)) := by
  have hXH : va_X b L xs s H := hX.kept (hW.2.2.1.2.1 b hbl hbA)
  have hbH : b < H.size := Nat.lt_of_lt_of_le hbl hW.2.2.1.1
  refine va_calli (va_runS (As := [.ref b, .int (nI 0)]) (rest := rest) S.1 (mm_Law_cell l D k g N E b L xs hL H.size) (cv_Law_9 S.1.2.2.2.2 hR) ⟨cx_blind, fun U hU hWm => ⟨rfl, ⟨by rw [hU], by rw [hU]; exact hW.1, va_K.moved hWm.alike S.2, hW.2.1.weaken (fun _ _ _ _ => trivial)⟩, by rw [hU]; exact va_X.moved hWm.alike hXH, by rw [hU]; exact hbH⟩⟩ rfl rfl hsize rfl (lv_room hrest) hdg hf) hW.2.2.1 (fun q _ h => pw_sub hW q h) (fun q h => pw_sub hW q h) (fun r u' t H1 locs1 ht _ hp hB _ _ hS => ?_)
  rw [hp]
  exact kk H1 locs1 (pw_back (en := fun (_ : Unit) => E) (u := ()) hW ht hB hS)
end LCE
/-! what the calls ask of the state, out of the relation -/
section PCM
variable {P ld : Nat} {σ : st_T} {R : Nat → Nat → Nat} {F : Nat → Nat} {L : List pv_T}
theorem pc_rg (hA : ab_ok P R F L ld) (hc : hc_ok P σ R F L ld) : ∀ n, n < 8 → σ 200 (133 + 2 * n) ≤ 16 := fun n hn => by
  rw [(hc.1.2 _ (kd_rg hn)).2, hc.2.2.2.1 n hn]
  exact (hA.1 n hn).2
theorem pc_cc (hA : ab_ok P R F L ld) (hc : hc_ok P σ R F L ld) : σ 203 1 ≤ 15 := by
  rw [← pl_v_len σ, hc.2.2.2.2.2.1]
  exact ab_len5 hA
theorem pc_mem (hc : hc_ok P σ R F L ld) {t : Nat} (ht : t < σ 203 1) : pv_t σ t ∈ L := by
  rw [← hc.2.2.2.2.2.1]
  exact List.mem_of_getElem? (pl_v_at σ ht)
theorem pc_pt (hA : ab_ok P R F L ld) (hc : hc_ok P σ R F L ld) : ∀ t, t < σ 203 1 → 1 < sp_sz (pv_t σ t).2.2 31 ∧ sp_sz (pv_t σ t).2.2 31 ≤ 16 ∧ 1 ≤ (pv_t σ t).2.1 ∧ (pv_t σ t).2.1 ≤ 31 ∧ (2 < sp_sz (pv_t σ t).2.2 31 → σ 203 1 < 15) := fun t ht => by
  have hm := pc_mem hc ht
  obtain ⟨-, o2, o3, -, o5, o6⟩ := hA.2.2.2.1 _ hm
  refine ⟨o5, o6, o2, o3, fun h2 => ?_⟩
  have h3 := ab_len2 hA.2.2.2.1 _ hm h2
  have h4 := hA.2.2.2.2.1
  rw [← pl_v_len σ, hc.2.2.2.2.2.1]
  omega
theorem pc_of (hA : ab_ok P R F L ld) (hc : hc_ok P σ R F L ld) : ∀ t, t < σ 203 1 → (pv_t σ t).1 ≤ 15 := fun t ht => Nat.le_trans (ab_of hA.2.2.2.1 _ (pc_mem hc ht)) hA.2.2.2.2.1
theorem pc_pos (hA : ab_ok P R F L ld) (hc : hc_ok P σ R F L ld) : ∀ t, t < σ 203 1 → 0 < sp_sz (pv_t σ t).2.2 31 := fun t ht => by
  have := (pc_pt hA hc t ht).1
  omega
theorem pc_ld (hA : ab_ok P R F L ld) (hc : hc_ok P σ R F L ld) : σ 203 2 < P := by
  rw [hc.2.2.2.2.2.2]
  exact hA.2.2.2.2.2
theorem pc_sz (hA : ab_ok P R F L ld) (hc : hc_ok P σ R F L ld) : 1 + wh_s (pl_v σ) ≤ 16 := by
  rw [hc.2.2.2.2.2.1]
  have := hA.2.2.2.2.1
  omega
theorem pc_fd (hA : ab_ok P R F L ld) (hc : hc_ok P σ R F L ld) : 0 < sp_sz (σ 118) 31 → 1 < sp_sz (σ 118) 31 ∧ sp_sz (σ 118) 31 ≤ 16 ∧ pz_ir P (sp_sz (σ 118) 31 - 1) (pe_f (σ 118)) := by
  rw [hc.2.2.2.2.1]
  exact hA.2.2.1
theorem pc_fd2 (hA : ab_ok P R F L ld) (hc : hc_ok P σ R F L ld) : 0 < sp_sz (σ 118) 31 → 1 < sp_sz (σ 118) 31 ∧ sp_sz (σ 118) 31 ≤ 16 := fun h => ⟨(pc_fd hA hc h).1, (pc_fd hA hc h).2.1⟩
theorem pc_f16 (hA : ab_ok P R F L ld) (hc : hc_ok P σ R F L ld) : σ 200 118 ≤ 16 := by
  rw [(hc.1.2 118 rfl).2]
  by_cases h : 0 < sp_sz (σ 118) 31
  · exact (pc_fd hA hc h).2.1
  · omega
theorem pm_rg (hA : ab_ok P R F L ld) (hm : hm_ok P σ R F L ld) : ∀ n, n < 8 → sp_sz (σ (300 + n)) 31 ≤ 16 := fun n hn => by
  rw [hm.2.1 n hn]
  exact (hA.1 n hn).2
theorem pm_cc (hA : ab_ok P R F L ld) (hm : hm_ok P σ R F L ld) : σ 205 1 ≤ 15 := by
  rw [← ml_v_len σ, hm.2.2.2.2.1]
  exact ab_len5 hA
theorem pm_mem (hm : hm_ok P σ R F L ld) {t : Nat} (ht : t < σ 205 1) : mv_t σ t ∈ L := by
  rw [← hm.2.2.2.2.1]
  exact List.mem_of_getElem? (ml_v_at σ ht)
theorem pm_pt (hA : ab_ok P R F L ld) (hm : hm_ok P σ R F L ld) : ∀ t, t < σ 205 1 → 1 < sp_sz (mv_t σ t).2.2 31 ∧ sp_sz (mv_t σ t).2.2 31 ≤ 16 ∧ 1 ≤ (mv_t σ t).2.1 ∧ (mv_t σ t).2.1 ≤ 31 := fun t ht => by
  obtain ⟨-, o2, o3, -, o5, o6⟩ := hA.2.2.2.1 _ (pm_mem hm ht)
  exact ⟨o5, o6, o2, o3⟩
theorem pm_of (hA : ab_ok P R F L ld) (hm : hm_ok P σ R F L ld) : ∀ t, t < σ 205 1 → (mv_t σ t).1 ≤ 15 := fun t ht => Nat.le_trans (ab_of hA.2.2.2.1 _ (pm_mem hm ht)) hA.2.2.2.2.1
theorem pm_pos (hA : ab_ok P R F L ld) (hm : hm_ok P σ R F L ld) : ∀ t, t < σ 205 1 → 0 < sp_sz (mv_t σ t).2.2 31 := fun t ht => by
  have := (pm_pt hA hm t ht).1
  omega
theorem pm_ld (hA : ab_ok P R F L ld) (hm : hm_ok P σ R F L ld) : σ 205 3 < P := by
  rw [hm.2.2.2.2.2.1]
  exact hA.2.2.2.2.2
theorem pm_fc (hm : hm_ok P σ R F L ld) : σ 205 2 < 2 := by
  rw [hm.2.2.2.2.2.2]
  split <;> omega
theorem pm_sz (hA : ab_ok P R F L ld) (hm : hm_ok P σ R F L ld) : 1 + wh_s (ml_v σ) ≤ 16 := by
  rw [hm.2.2.2.2.1]
  have := hA.2.2.2.2.1
  omega
theorem pm_k (hm : hm_ok P σ R F L ld) : σ 205 4 < 2147483648 := by
  rw [hm.2.2.2.1]
  have := sp_sz_le F 31
  omega
theorem pm_fd (hA : ab_ok P R F L ld) (hm : hm_ok P σ R F L ld) : σ 205 4 ≠ 0 → 1 < sp_sz (σ (300 + 24)) 31 ∧ sp_sz (σ (300 + 24)) 31 ≤ 16 ∧ σ 205 4 = sp_sz (σ (300 + 24)) 31 - 1 ∧ pz_ir P (sp_sz (σ (300 + 24)) 31 - 1) (pe_f (σ (300 + 24))) := by
  rw [hm.2.2.1, hm.2.2.2.1]
  intro h
  have h1 := hA.2.2.1 (by omega)
  exact ⟨h1.1, h1.2.1, rfl, h1.2.2⟩
theorem pm_fd2 (hA : ab_ok P R F L ld) (hm : hm_ok P σ R F L ld) : σ 205 4 ≠ 0 → 1 < sp_sz (σ (300 + 24)) 31 ∧ sp_sz (σ (300 + 24)) 31 ≤ 16 := fun h => ⟨(pm_fd hA hm h).1, (pm_fd hA hm h).2.1⟩
theorem pm_fd3 (hA : ab_ok P R F L ld) (hm : hm_ok P σ R F L ld) : σ 205 4 ≠ 0 → 1 < sp_sz (σ (300 + 24)) 31 ∧ sp_sz (σ (300 + 24)) 31 ≤ 16 ∧ σ 205 4 = sp_sz (σ (300 + 24)) 31 - 1 := fun h => ⟨(pm_fd hA hm h).1, (pm_fd hA hm h).2.1, (pm_fd hA hm h).2.2.1⟩
end PCM
