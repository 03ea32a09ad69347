/-! the law's instructions are simulated (written by wip/whole/mklaw.py) -/
theorem dL_law_0 : decode cL_law 0 = .ok (.new 7, 3) := by decide +kernel
theorem dL_law_3 : decode cL_law 3 = .ok (.dup, 1) := by decide +kernel
theorem dL_law_4 : decode cL_law 4 = .ok (.invokespecial 9, 3) := by decide +kernel
theorem dL_law_7 : decode cL_law 7 = .ok (.astore_n 1, 1) := by decide +kernel
theorem dL_law_8 : decode cL_law 8 = .ok (.new 10, 3) := by decide +kernel
theorem dL_law_11 : decode cL_law 11 = .ok (.dup, 1) := by decide +kernel
theorem dL_law_12 : decode cL_law 12 = .ok (.invokespecial 12, 3) := by decide +kernel
theorem dL_law_15 : decode cL_law 15 = .ok (.astore_n 2, 1) := by decide +kernel
theorem dL_law_16 : decode cL_law 16 = .ok (.iconst 0, 1) := by decide +kernel
theorem dL_law_17 : decode cL_law 17 = .ok (.istore_n 3, 1) := by decide +kernel
theorem dL_law_18 : decode cL_law 18 = .ok (.iload_n 3, 1) := by decide +kernel
theorem dL_law_19 : decode cL_law 19 = .ok (.aload_n 0, 1) := by decide +kernel
theorem dL_law_20 : decode cL_law 20 = .ok (.arraylength, 1) := by decide +kernel
theorem dL_law_21 : decode cL_law 21 = .ok (.bipush 6, 2) := by decide +kernel
theorem dL_law_23 : decode cL_law 23 = .ok (.isub, 1) := by decide +kernel
theorem dL_law_24 : decode cL_law 24 = .ok (.if_icmp .gt 1158, 3) := by decide +kernel
theorem dL_law_27 : decode cL_law 27 = .ok (.aload_n 0, 1) := by decide +kernel
theorem dL_law_28 : decode cL_law 28 = .ok (.iload_n 3, 1) := by decide +kernel
theorem dL_law_29 : decode cL_law 29 = .ok (.iaload, 1) := by decide +kernel
theorem dL_law_30 : decode cL_law 30 = .ok (.bipush 31, 2) := by decide +kernel
theorem dL_law_32 : decode cL_law 32 = .ok (.iand, 1) := by decide +kernel
theorem dL_law_33 : decode cL_law 33 = .ok (.tableswitch 1143 0 27 #[127, 170, 203, 236, 279, 302, 315, 338, 381, 394, 427, 480, 523, 556, 589, 622, 666, 719, 772, 805, 859, 872, 885, 908, 951, 994, 1057, 1110], 127) := by decide +kernel
theorem dL_law_160 : decode cL_law 160 = .ok (.aload_n 1, 1) := by decide +kernel
theorem dL_law_161 : decode cL_law 161 = .ok (.aload_n 0, 1) := by decide +kernel
theorem dL_law_162 : decode cL_law 162 = .ok (.iload_n 3, 1) := by decide +kernel
theorem dL_law_163 : decode cL_law 163 = .ok (.iconst 1, 1) := by decide +kernel
theorem dL_law_164 : decode cL_law 164 = .ok (.iadd, 1) := by decide +kernel
theorem dL_law_165 : decode cL_law 165 = .ok (.iaload, 1) := by decide +kernel
theorem dL_law_166 : decode cL_law 166 = .ok (.aload_n 0, 1) := by decide +kernel
theorem dL_law_167 : decode cL_law 167 = .ok (.iload_n 3, 1) := by decide +kernel
theorem dL_law_168 : decode cL_law 168 = .ok (.iconst 2, 1) := by decide +kernel
theorem dL_law_169 : decode cL_law 169 = .ok (.iadd, 1) := by decide +kernel
theorem dL_law_170 : decode cL_law 170 = .ok (.iaload, 1) := by decide +kernel
theorem dL_law_171 : decode cL_law 171 = .ok (.aload_n 0, 1) := by decide +kernel
theorem dL_law_172 : decode cL_law 172 = .ok (.iload_n 3, 1) := by decide +kernel
theorem dL_law_173 : decode cL_law 173 = .ok (.iconst 3, 1) := by decide +kernel
theorem dL_law_174 : decode cL_law 174 = .ok (.iadd, 1) := by decide +kernel
theorem dL_law_175 : decode cL_law 175 = .ok (.iaload, 1) := by decide +kernel
theorem dL_law_176 : decode cL_law 176 = .ok (.invokevirtual 13, 3) := by decide +kernel
theorem dL_law_179 : decode cL_law 179 = .ok (.aload_n 2, 1) := by decide +kernel
theorem dL_law_180 : decode cL_law 180 = .ok (.aload_n 0, 1) := by decide +kernel
theorem dL_law_181 : decode cL_law 181 = .ok (.iload_n 3, 1) := by decide +kernel
theorem dL_law_182 : decode cL_law 182 = .ok (.iconst 1, 1) := by decide +kernel
theorem dL_law_183 : decode cL_law 183 = .ok (.iadd, 1) := by decide +kernel
theorem dL_law_184 : decode cL_law 184 = .ok (.iaload, 1) := by decide +kernel
theorem dL_law_185 : decode cL_law 185 = .ok (.aload_n 0, 1) := by decide +kernel
theorem dL_law_186 : decode cL_law 186 = .ok (.iload_n 3, 1) := by decide +kernel
theorem dL_law_187 : decode cL_law 187 = .ok (.iconst 2, 1) := by decide +kernel
theorem dL_law_188 : decode cL_law 188 = .ok (.iadd, 1) := by decide +kernel
theorem dL_law_189 : decode cL_law 189 = .ok (.iaload, 1) := by decide +kernel
theorem dL_law_190 : decode cL_law 190 = .ok (.aload_n 0, 1) := by decide +kernel
theorem dL_law_191 : decode cL_law 191 = .ok (.iload_n 3, 1) := by decide +kernel
theorem dL_law_192 : decode cL_law 192 = .ok (.iconst 3, 1) := by decide +kernel
theorem dL_law_193 : decode cL_law 193 = .ok (.iadd, 1) := by decide +kernel
theorem dL_law_194 : decode cL_law 194 = .ok (.iaload, 1) := by decide +kernel
theorem dL_law_195 : decode cL_law 195 = .ok (.invokevirtual 17, 3) := by decide +kernel
theorem dL_law_198 : decode cL_law 198 = .ok (.if_icmp .eq 978, 3) := by decide +kernel
theorem dL_law_201 : decode cL_law 201 = .ok (.iconst 0, 1) := by decide +kernel
theorem dL_law_202 : decode cL_law 202 = .ok (.ireturn, 1) := by decide +kernel
theorem dL_law_203 : decode cL_law 203 = .ok (.aload_n 1, 1) := by decide +kernel
theorem dL_law_204 : decode cL_law 204 = .ok (.aload_n 0, 1) := by decide +kernel
theorem dL_law_205 : decode cL_law 205 = .ok (.iload_n 3, 1) := by decide +kernel
theorem dL_law_206 : decode cL_law 206 = .ok (.iconst 1, 1) := by decide +kernel
theorem dL_law_207 : decode cL_law 207 = .ok (.iadd, 1) := by decide +kernel
theorem dL_law_208 : decode cL_law 208 = .ok (.iaload, 1) := by decide +kernel
theorem dL_law_209 : decode cL_law 209 = .ok (.aload_n 0, 1) := by decide +kernel
theorem dL_law_210 : decode cL_law 210 = .ok (.iload_n 3, 1) := by decide +kernel
theorem dL_law_211 : decode cL_law 211 = .ok (.iconst 2, 1) := by decide +kernel
theorem dL_law_212 : decode cL_law 212 = .ok (.iadd, 1) := by decide +kernel
theorem dL_law_213 : decode cL_law 213 = .ok (.iaload, 1) := by decide +kernel
theorem dL_law_214 : decode cL_law 214 = .ok (.invokevirtual 18, 3) := by decide +kernel
theorem dL_law_217 : decode cL_law 217 = .ok (.aload_n 2, 1) := by decide +kernel
theorem dL_law_218 : decode cL_law 218 = .ok (.aload_n 0, 1) := by decide +kernel
theorem dL_law_219 : decode cL_law 219 = .ok (.iload_n 3, 1) := by decide +kernel
theorem dL_law_220 : decode cL_law 220 = .ok (.iconst 1, 1) := by decide +kernel
theorem dL_law_221 : decode cL_law 221 = .ok (.iadd, 1) := by decide +kernel
theorem dL_law_222 : decode cL_law 222 = .ok (.iaload, 1) := by decide +kernel
theorem dL_law_223 : decode cL_law 223 = .ok (.aload_n 0, 1) := by decide +kernel
theorem dL_law_224 : decode cL_law 224 = .ok (.iload_n 3, 1) := by decide +kernel
theorem dL_law_225 : decode cL_law 225 = .ok (.iconst 2, 1) := by decide +kernel
theorem dL_law_226 : decode cL_law 226 = .ok (.iadd, 1) := by decide +kernel
theorem dL_law_227 : decode cL_law 227 = .ok (.iaload, 1) := by decide +kernel
theorem dL_law_228 : decode cL_law 228 = .ok (.invokevirtual 22, 3) := by decide +kernel
theorem dL_law_231 : decode cL_law 231 = .ok (.if_icmp .eq 945, 3) := by decide +kernel
theorem dL_law_234 : decode cL_law 234 = .ok (.iconst 0, 1) := by decide +kernel
theorem dL_law_235 : decode cL_law 235 = .ok (.ireturn, 1) := by decide +kernel
theorem dL_law_236 : decode cL_law 236 = .ok (.aload_n 1, 1) := by decide +kernel
theorem dL_law_237 : decode cL_law 237 = .ok (.aload_n 0, 1) := by decide +kernel
theorem dL_law_238 : decode cL_law 238 = .ok (.iload_n 3, 1) := by decide +kernel
theorem dL_law_239 : decode cL_law 239 = .ok (.iconst 1, 1) := by decide +kernel
theorem dL_law_240 : decode cL_law 240 = .ok (.iadd, 1) := by decide +kernel
theorem dL_law_241 : decode cL_law 241 = .ok (.iaload, 1) := by decide +kernel
theorem dL_law_242 : decode cL_law 242 = .ok (.aload_n 0, 1) := by decide +kernel
theorem dL_law_243 : decode cL_law 243 = .ok (.iload_n 3, 1) := by decide +kernel
theorem dL_law_244 : decode cL_law 244 = .ok (.iconst 2, 1) := by decide +kernel
theorem dL_law_245 : decode cL_law 245 = .ok (.iadd, 1) := by decide +kernel
theorem dL_law_246 : decode cL_law 246 = .ok (.iaload, 1) := by decide +kernel
theorem dL_law_247 : decode cL_law 247 = .ok (.invokevirtual 23, 3) := by decide +kernel
theorem dL_law_250 : decode cL_law 250 = .ok (.aload_n 2, 1) := by decide +kernel
theorem dL_law_251 : decode cL_law 251 = .ok (.aload_n 0, 1) := by decide +kernel
theorem dL_law_252 : decode cL_law 252 = .ok (.iload_n 3, 1) := by decide +kernel
theorem dL_law_253 : decode cL_law 253 = .ok (.iconst 1, 1) := by decide +kernel
theorem dL_law_254 : decode cL_law 254 = .ok (.iadd, 1) := by decide +kernel
theorem dL_law_255 : decode cL_law 255 = .ok (.iaload, 1) := by decide +kernel
theorem dL_law_256 : decode cL_law 256 = .ok (.aload_n 0, 1) := by decide +kernel
theorem dL_law_257 : decode cL_law 257 = .ok (.iload_n 3, 1) := by decide +kernel
theorem dL_law_258 : decode cL_law 258 = .ok (.iconst 2, 1) := by decide +kernel
theorem dL_law_259 : decode cL_law 259 = .ok (.iadd, 1) := by decide +kernel
theorem dL_law_260 : decode cL_law 260 = .ok (.iaload, 1) := by decide +kernel
theorem dL_law_261 : decode cL_law 261 = .ok (.invokevirtual 26, 3) := by decide +kernel
theorem dL_law_264 : decode cL_law 264 = .ok (.if_icmp .eq 912, 3) := by decide +kernel
theorem dL_law_267 : decode cL_law 267 = .ok (.iconst 0, 1) := by decide +kernel
theorem dL_law_268 : decode cL_law 268 = .ok (.ireturn, 1) := by decide +kernel
theorem dL_law_269 : decode cL_law 269 = .ok (.aload_n 1, 1) := by decide +kernel
theorem dL_law_270 : decode cL_law 270 = .ok (.aload_n 0, 1) := by decide +kernel
theorem dL_law_271 : decode cL_law 271 = .ok (.iload_n 3, 1) := by decide +kernel
theorem dL_law_272 : decode cL_law 272 = .ok (.iconst 1, 1) := by decide +kernel
theorem dL_law_273 : decode cL_law 273 = .ok (.iadd, 1) := by decide +kernel
theorem dL_law_274 : decode cL_law 274 = .ok (.iaload, 1) := by decide +kernel
theorem dL_law_275 : decode cL_law 275 = .ok (.aload_n 0, 1) := by decide +kernel
theorem dL_law_276 : decode cL_law 276 = .ok (.iload_n 3, 1) := by decide +kernel
theorem dL_law_277 : decode cL_law 277 = .ok (.iconst 2, 1) := by decide +kernel
theorem dL_law_278 : decode cL_law 278 = .ok (.iadd, 1) := by decide +kernel
theorem dL_law_279 : decode cL_law 279 = .ok (.iaload, 1) := by decide +kernel
theorem dL_law_280 : decode cL_law 280 = .ok (.aload_n 0, 1) := by decide +kernel
theorem dL_law_281 : decode cL_law 281 = .ok (.iload_n 3, 1) := by decide +kernel
theorem dL_law_282 : decode cL_law 282 = .ok (.iconst 3, 1) := by decide +kernel
theorem dL_law_283 : decode cL_law 283 = .ok (.iadd, 1) := by decide +kernel
theorem dL_law_284 : decode cL_law 284 = .ok (.iaload, 1) := by decide +kernel
theorem dL_law_285 : decode cL_law 285 = .ok (.invokevirtual 27, 3) := by decide +kernel
theorem dL_law_288 : decode cL_law 288 = .ok (.aload_n 2, 1) := by decide +kernel
theorem dL_law_289 : decode cL_law 289 = .ok (.aload_n 0, 1) := by decide +kernel
theorem dL_law_290 : decode cL_law 290 = .ok (.iload_n 3, 1) := by decide +kernel
theorem dL_law_291 : decode cL_law 291 = .ok (.iconst 1, 1) := by decide +kernel
theorem dL_law_292 : decode cL_law 292 = .ok (.iadd, 1) := by decide +kernel
theorem dL_law_293 : decode cL_law 293 = .ok (.iaload, 1) := by decide +kernel
theorem dL_law_294 : decode cL_law 294 = .ok (.aload_n 0, 1) := by decide +kernel
theorem dL_law_295 : decode cL_law 295 = .ok (.iload_n 3, 1) := by decide +kernel
theorem dL_law_296 : decode cL_law 296 = .ok (.iconst 2, 1) := by decide +kernel
theorem dL_law_297 : decode cL_law 297 = .ok (.iadd, 1) := by decide +kernel
theorem dL_law_298 : decode cL_law 298 = .ok (.iaload, 1) := by decide +kernel
theorem dL_law_299 : decode cL_law 299 = .ok (.aload_n 0, 1) := by decide +kernel
theorem dL_law_300 : decode cL_law 300 = .ok (.iload_n 3, 1) := by decide +kernel
theorem dL_law_301 : decode cL_law 301 = .ok (.iconst 3, 1) := by decide +kernel
theorem dL_law_302 : decode cL_law 302 = .ok (.iadd, 1) := by decide +kernel
theorem dL_law_303 : decode cL_law 303 = .ok (.iaload, 1) := by decide +kernel
theorem dL_law_304 : decode cL_law 304 = .ok (.invokevirtual 30, 3) := by decide +kernel
theorem dL_law_307 : decode cL_law 307 = .ok (.if_icmp .eq 869, 3) := by decide +kernel
theorem dL_law_310 : decode cL_law 310 = .ok (.iconst 0, 1) := by decide +kernel
theorem dL_law_311 : decode cL_law 311 = .ok (.ireturn, 1) := by decide +kernel
theorem dL_law_312 : decode cL_law 312 = .ok (.aload_n 1, 1) := by decide +kernel
theorem dL_law_313 : decode cL_law 313 = .ok (.aload_n 0, 1) := by decide +kernel
theorem dL_law_314 : decode cL_law 314 = .ok (.iload_n 3, 1) := by decide +kernel
theorem dL_law_315 : decode cL_law 315 = .ok (.iconst 1, 1) := by decide +kernel
theorem dL_law_316 : decode cL_law 316 = .ok (.iadd, 1) := by decide +kernel
theorem dL_law_317 : decode cL_law 317 = .ok (.iaload, 1) := by decide +kernel
theorem dL_law_318 : decode cL_law 318 = .ok (.invokevirtual 31, 3) := by decide +kernel
theorem dL_law_321 : decode cL_law 321 = .ok (.aload_n 2, 1) := by decide +kernel
theorem dL_law_322 : decode cL_law 322 = .ok (.aload_n 0, 1) := by decide +kernel
theorem dL_law_323 : decode cL_law 323 = .ok (.iload_n 3, 1) := by decide +kernel
theorem dL_law_324 : decode cL_law 324 = .ok (.iconst 1, 1) := by decide +kernel
theorem dL_law_325 : decode cL_law 325 = .ok (.iadd, 1) := by decide +kernel
theorem dL_law_326 : decode cL_law 326 = .ok (.iaload, 1) := by decide +kernel
theorem dL_law_327 : decode cL_law 327 = .ok (.invokevirtual 35, 3) := by decide +kernel
theorem dL_law_330 : decode cL_law 330 = .ok (.if_icmp .eq 846, 3) := by decide +kernel
theorem dL_law_333 : decode cL_law 333 = .ok (.iconst 0, 1) := by decide +kernel
theorem dL_law_334 : decode cL_law 334 = .ok (.ireturn, 1) := by decide +kernel
theorem dL_law_335 : decode cL_law 335 = .ok (.aload_n 1, 1) := by decide +kernel
theorem dL_law_336 : decode cL_law 336 = .ok (.invokevirtual 36, 3) := by decide +kernel
theorem dL_law_339 : decode cL_law 339 = .ok (.aload_n 2, 1) := by decide +kernel
theorem dL_law_340 : decode cL_law 340 = .ok (.invokevirtual 40, 3) := by decide +kernel
theorem dL_law_343 : decode cL_law 343 = .ok (.if_icmp .eq 833, 3) := by decide +kernel
theorem dL_law_346 : decode cL_law 346 = .ok (.iconst 0, 1) := by decide +kernel
theorem dL_law_347 : decode cL_law 347 = .ok (.ireturn, 1) := by decide +kernel
theorem dL_law_348 : decode cL_law 348 = .ok (.aload_n 1, 1) := by decide +kernel
theorem dL_law_349 : decode cL_law 349 = .ok (.aload_n 0, 1) := by decide +kernel
theorem dL_law_350 : decode cL_law 350 = .ok (.iload_n 3, 1) := by decide +kernel
theorem dL_law_351 : decode cL_law 351 = .ok (.iconst 1, 1) := by decide +kernel
theorem dL_law_352 : decode cL_law 352 = .ok (.iadd, 1) := by decide +kernel
theorem dL_law_353 : decode cL_law 353 = .ok (.iaload, 1) := by decide +kernel
theorem dL_law_354 : decode cL_law 354 = .ok (.invokevirtual 41, 3) := by decide +kernel
theorem dL_law_357 : decode cL_law 357 = .ok (.aload_n 2, 1) := by decide +kernel
theorem dL_law_358 : decode cL_law 358 = .ok (.aload_n 0, 1) := by decide +kernel
theorem dL_law_359 : decode cL_law 359 = .ok (.iload_n 3, 1) := by decide +kernel
theorem dL_law_360 : decode cL_law 360 = .ok (.iconst 1, 1) := by decide +kernel
theorem dL_law_361 : decode cL_law 361 = .ok (.iadd, 1) := by decide +kernel
theorem dL_law_362 : decode cL_law 362 = .ok (.iaload, 1) := by decide +kernel
theorem dL_law_363 : decode cL_law 363 = .ok (.invokevirtual 44, 3) := by decide +kernel
theorem dL_law_366 : decode cL_law 366 = .ok (.if_icmp .eq 810, 3) := by decide +kernel
theorem dL_law_369 : decode cL_law 369 = .ok (.iconst 0, 1) := by decide +kernel
theorem dL_law_370 : decode cL_law 370 = .ok (.ireturn, 1) := by decide +kernel
theorem dL_law_371 : decode cL_law 371 = .ok (.aload_n 1, 1) := by decide +kernel
theorem dL_law_372 : decode cL_law 372 = .ok (.aload_n 0, 1) := by decide +kernel
theorem dL_law_373 : decode cL_law 373 = .ok (.iload_n 3, 1) := by decide +kernel
theorem dL_law_374 : decode cL_law 374 = .ok (.iconst 1, 1) := by decide +kernel
theorem dL_law_375 : decode cL_law 375 = .ok (.iadd, 1) := by decide +kernel
theorem dL_law_376 : decode cL_law 376 = .ok (.iaload, 1) := by decide +kernel
theorem dL_law_377 : decode cL_law 377 = .ok (.aload_n 0, 1) := by decide +kernel
theorem dL_law_378 : decode cL_law 378 = .ok (.iload_n 3, 1) := by decide +kernel
theorem dL_law_379 : decode cL_law 379 = .ok (.iconst 2, 1) := by decide +kernel
theorem dL_law_380 : decode cL_law 380 = .ok (.iadd, 1) := by decide +kernel
theorem dL_law_381 : decode cL_law 381 = .ok (.iaload, 1) := by decide +kernel
theorem dL_law_382 : decode cL_law 382 = .ok (.aload_n 0, 1) := by decide +kernel
theorem dL_law_383 : decode cL_law 383 = .ok (.iload_n 3, 1) := by decide +kernel
theorem dL_law_384 : decode cL_law 384 = .ok (.iconst 3, 1) := by decide +kernel
theorem dL_law_385 : decode cL_law 385 = .ok (.iadd, 1) := by decide +kernel
theorem dL_law_386 : decode cL_law 386 = .ok (.iaload, 1) := by decide +kernel
theorem dL_law_387 : decode cL_law 387 = .ok (.invokevirtual 45, 3) := by decide +kernel
theorem dL_law_390 : decode cL_law 390 = .ok (.aload_n 2, 1) := by decide +kernel
theorem dL_law_391 : decode cL_law 391 = .ok (.aload_n 0, 1) := by decide +kernel
theorem dL_law_392 : decode cL_law 392 = .ok (.iload_n 3, 1) := by decide +kernel
theorem dL_law_393 : decode cL_law 393 = .ok (.iconst 1, 1) := by decide +kernel
theorem dL_law_394 : decode cL_law 394 = .ok (.iadd, 1) := by decide +kernel
theorem dL_law_395 : decode cL_law 395 = .ok (.iaload, 1) := by decide +kernel
theorem dL_law_396 : decode cL_law 396 = .ok (.aload_n 0, 1) := by decide +kernel
theorem dL_law_397 : decode cL_law 397 = .ok (.iload_n 3, 1) := by decide +kernel
theorem dL_law_398 : decode cL_law 398 = .ok (.iconst 2, 1) := by decide +kernel
theorem dL_law_399 : decode cL_law 399 = .ok (.iadd, 1) := by decide +kernel
theorem dL_law_400 : decode cL_law 400 = .ok (.iaload, 1) := by decide +kernel
theorem dL_law_401 : decode cL_law 401 = .ok (.aload_n 0, 1) := by decide +kernel
theorem dL_law_402 : decode cL_law 402 = .ok (.iload_n 3, 1) := by decide +kernel
theorem dL_law_403 : decode cL_law 403 = .ok (.iconst 3, 1) := by decide +kernel
theorem dL_law_404 : decode cL_law 404 = .ok (.iadd, 1) := by decide +kernel
theorem dL_law_405 : decode cL_law 405 = .ok (.iaload, 1) := by decide +kernel
theorem dL_law_406 : decode cL_law 406 = .ok (.invokevirtual 48, 3) := by decide +kernel
theorem dL_law_409 : decode cL_law 409 = .ok (.if_icmp .eq 767, 3) := by decide +kernel
theorem dL_law_412 : decode cL_law 412 = .ok (.iconst 0, 1) := by decide +kernel
theorem dL_law_413 : decode cL_law 413 = .ok (.ireturn, 1) := by decide +kernel
theorem dL_law_414 : decode cL_law 414 = .ok (.aload_n 1, 1) := by decide +kernel
theorem dL_law_415 : decode cL_law 415 = .ok (.invokevirtual 49, 3) := by decide +kernel
theorem dL_law_418 : decode cL_law 418 = .ok (.aload_n 2, 1) := by decide +kernel
theorem dL_law_419 : decode cL_law 419 = .ok (.invokevirtual 52, 3) := by decide +kernel
theorem dL_law_422 : decode cL_law 422 = .ok (.if_icmp .eq 754, 3) := by decide +kernel
theorem dL_law_425 : decode cL_law 425 = .ok (.iconst 0, 1) := by decide +kernel
theorem dL_law_426 : decode cL_law 426 = .ok (.ireturn, 1) := by decide +kernel
theorem dL_law_427 : decode cL_law 427 = .ok (.aload_n 1, 1) := by decide +kernel
theorem dL_law_428 : decode cL_law 428 = .ok (.aload_n 0, 1) := by decide +kernel
theorem dL_law_429 : decode cL_law 429 = .ok (.iload_n 3, 1) := by decide +kernel
theorem dL_law_430 : decode cL_law 430 = .ok (.iconst 1, 1) := by decide +kernel
theorem dL_law_431 : decode cL_law 431 = .ok (.iadd, 1) := by decide +kernel
theorem dL_law_432 : decode cL_law 432 = .ok (.iaload, 1) := by decide +kernel
theorem dL_law_433 : decode cL_law 433 = .ok (.aload_n 0, 1) := by decide +kernel
theorem dL_law_434 : decode cL_law 434 = .ok (.iload_n 3, 1) := by decide +kernel
theorem dL_law_435 : decode cL_law 435 = .ok (.iconst 2, 1) := by decide +kernel
theorem dL_law_436 : decode cL_law 436 = .ok (.iadd, 1) := by decide +kernel
theorem dL_law_437 : decode cL_law 437 = .ok (.iaload, 1) := by decide +kernel
theorem dL_law_438 : decode cL_law 438 = .ok (.invokevirtual 53, 3) := by decide +kernel
theorem dL_law_441 : decode cL_law 441 = .ok (.aload_n 2, 1) := by decide +kernel
theorem dL_law_442 : decode cL_law 442 = .ok (.aload_n 0, 1) := by decide +kernel
theorem dL_law_443 : decode cL_law 443 = .ok (.iload_n 3, 1) := by decide +kernel
theorem dL_law_444 : decode cL_law 444 = .ok (.iconst 1, 1) := by decide +kernel
theorem dL_law_445 : decode cL_law 445 = .ok (.iadd, 1) := by decide +kernel
theorem dL_law_446 : decode cL_law 446 = .ok (.iaload, 1) := by decide +kernel
theorem dL_law_447 : decode cL_law 447 = .ok (.aload_n 0, 1) := by decide +kernel
theorem dL_law_448 : decode cL_law 448 = .ok (.iload_n 3, 1) := by decide +kernel
theorem dL_law_449 : decode cL_law 449 = .ok (.iconst 2, 1) := by decide +kernel
theorem dL_law_450 : decode cL_law 450 = .ok (.iadd, 1) := by decide +kernel
theorem dL_law_451 : decode cL_law 451 = .ok (.iaload, 1) := by decide +kernel
theorem dL_law_452 : decode cL_law 452 = .ok (.invokevirtual 56, 3) := by decide +kernel
theorem dL_law_455 : decode cL_law 455 = .ok (.if_icmp .eq 721, 3) := by decide +kernel
theorem dL_law_458 : decode cL_law 458 = .ok (.iconst 0, 1) := by decide +kernel
theorem dL_law_459 : decode cL_law 459 = .ok (.ireturn, 1) := by decide +kernel
theorem dL_law_460 : decode cL_law 460 = .ok (.aload_n 1, 1) := by decide +kernel
theorem dL_law_461 : decode cL_law 461 = .ok (.aload_n 0, 1) := by decide +kernel
theorem dL_law_462 : decode cL_law 462 = .ok (.iload_n 3, 1) := by decide +kernel
theorem dL_law_463 : decode cL_law 463 = .ok (.iconst 1, 1) := by decide +kernel
theorem dL_law_464 : decode cL_law 464 = .ok (.iadd, 1) := by decide +kernel
theorem dL_law_465 : decode cL_law 465 = .ok (.iaload, 1) := by decide +kernel
theorem dL_law_466 : decode cL_law 466 = .ok (.aload_n 0, 1) := by decide +kernel
theorem dL_law_467 : decode cL_law 467 = .ok (.iload_n 3, 1) := by decide +kernel
theorem dL_law_468 : decode cL_law 468 = .ok (.iconst 2, 1) := by decide +kernel
theorem dL_law_469 : decode cL_law 469 = .ok (.iadd, 1) := by decide +kernel
theorem dL_law_470 : decode cL_law 470 = .ok (.iaload, 1) := by decide +kernel
theorem dL_law_471 : decode cL_law 471 = .ok (.aload_n 0, 1) := by decide +kernel
theorem dL_law_472 : decode cL_law 472 = .ok (.iload_n 3, 1) := by decide +kernel
theorem dL_law_473 : decode cL_law 473 = .ok (.iconst 3, 1) := by decide +kernel
theorem dL_law_474 : decode cL_law 474 = .ok (.iadd, 1) := by decide +kernel
theorem dL_law_475 : decode cL_law 475 = .ok (.iaload, 1) := by decide +kernel
theorem dL_law_476 : decode cL_law 476 = .ok (.aload_n 0, 1) := by decide +kernel
theorem dL_law_477 : decode cL_law 477 = .ok (.iload_n 3, 1) := by decide +kernel
theorem dL_law_478 : decode cL_law 478 = .ok (.iconst 4, 1) := by decide +kernel
theorem dL_law_479 : decode cL_law 479 = .ok (.iadd, 1) := by decide +kernel
theorem dL_law_480 : decode cL_law 480 = .ok (.iaload, 1) := by decide +kernel
theorem dL_law_481 : decode cL_law 481 = .ok (.invokevirtual 57, 3) := by decide +kernel
theorem dL_law_484 : decode cL_law 484 = .ok (.aload_n 2, 1) := by decide +kernel
theorem dL_law_485 : decode cL_law 485 = .ok (.aload_n 0, 1) := by decide +kernel
theorem dL_law_486 : decode cL_law 486 = .ok (.iload_n 3, 1) := by decide +kernel
theorem dL_law_487 : decode cL_law 487 = .ok (.iconst 1, 1) := by decide +kernel
theorem dL_law_488 : decode cL_law 488 = .ok (.iadd, 1) := by decide +kernel
theorem dL_law_489 : decode cL_law 489 = .ok (.iaload, 1) := by decide +kernel
theorem dL_law_490 : decode cL_law 490 = .ok (.aload_n 0, 1) := by decide +kernel
theorem dL_law_491 : decode cL_law 491 = .ok (.iload_n 3, 1) := by decide +kernel
theorem dL_law_492 : decode cL_law 492 = .ok (.iconst 2, 1) := by decide +kernel
theorem dL_law_493 : decode cL_law 493 = .ok (.iadd, 1) := by decide +kernel
theorem dL_law_494 : decode cL_law 494 = .ok (.iaload, 1) := by decide +kernel
theorem dL_law_495 : decode cL_law 495 = .ok (.aload_n 0, 1) := by decide +kernel
theorem dL_law_496 : decode cL_law 496 = .ok (.iload_n 3, 1) := by decide +kernel
theorem dL_law_497 : decode cL_law 497 = .ok (.iconst 3, 1) := by decide +kernel
theorem dL_law_498 : decode cL_law 498 = .ok (.iadd, 1) := by decide +kernel
theorem dL_law_499 : decode cL_law 499 = .ok (.iaload, 1) := by decide +kernel
theorem dL_law_500 : decode cL_law 500 = .ok (.aload_n 0, 1) := by decide +kernel
theorem dL_law_501 : decode cL_law 501 = .ok (.iload_n 3, 1) := by decide +kernel
theorem dL_law_502 : decode cL_law 502 = .ok (.iconst 4, 1) := by decide +kernel
theorem dL_law_503 : decode cL_law 503 = .ok (.iadd, 1) := by decide +kernel
theorem dL_law_504 : decode cL_law 504 = .ok (.iaload, 1) := by decide +kernel
theorem dL_law_505 : decode cL_law 505 = .ok (.invokevirtual 61, 3) := by decide +kernel
theorem dL_law_508 : decode cL_law 508 = .ok (.if_icmp .eq 668, 3) := by decide +kernel
theorem dL_law_511 : decode cL_law 511 = .ok (.iconst 0, 1) := by decide +kernel
theorem dL_law_512 : decode cL_law 512 = .ok (.ireturn, 1) := by decide +kernel
theorem dL_law_513 : decode cL_law 513 = .ok (.aload_n 1, 1) := by decide +kernel
theorem dL_law_514 : decode cL_law 514 = .ok (.aload_n 0, 1) := by decide +kernel
theorem dL_law_515 : decode cL_law 515 = .ok (.iload_n 3, 1) := by decide +kernel
theorem dL_law_516 : decode cL_law 516 = .ok (.iconst 1, 1) := by decide +kernel
theorem dL_law_517 : decode cL_law 517 = .ok (.iadd, 1) := by decide +kernel
theorem dL_law_518 : decode cL_law 518 = .ok (.iaload, 1) := by decide +kernel
theorem dL_law_519 : decode cL_law 519 = .ok (.aload_n 0, 1) := by decide +kernel
theorem dL_law_520 : decode cL_law 520 = .ok (.iload_n 3, 1) := by decide +kernel
theorem dL_law_521 : decode cL_law 521 = .ok (.iconst 2, 1) := by decide +kernel
theorem dL_law_522 : decode cL_law 522 = .ok (.iadd, 1) := by decide +kernel
theorem dL_law_523 : decode cL_law 523 = .ok (.iaload, 1) := by decide +kernel
theorem dL_law_524 : decode cL_law 524 = .ok (.aload_n 0, 1) := by decide +kernel
theorem dL_law_525 : decode cL_law 525 = .ok (.iload_n 3, 1) := by decide +kernel
theorem dL_law_526 : decode cL_law 526 = .ok (.iconst 3, 1) := by decide +kernel
theorem dL_law_527 : decode cL_law 527 = .ok (.iadd, 1) := by decide +kernel
theorem dL_law_528 : decode cL_law 528 = .ok (.iaload, 1) := by decide +kernel
theorem dL_law_529 : decode cL_law 529 = .ok (.invokevirtual 62, 3) := by decide +kernel
theorem dL_law_532 : decode cL_law 532 = .ok (.aload_n 2, 1) := by decide +kernel
theorem dL_law_533 : decode cL_law 533 = .ok (.aload_n 0, 1) := by decide +kernel
theorem dL_law_534 : decode cL_law 534 = .ok (.iload_n 3, 1) := by decide +kernel
theorem dL_law_535 : decode cL_law 535 = .ok (.iconst 1, 1) := by decide +kernel
theorem dL_law_536 : decode cL_law 536 = .ok (.iadd, 1) := by decide +kernel
theorem dL_law_537 : decode cL_law 537 = .ok (.iaload, 1) := by decide +kernel
theorem dL_law_538 : decode cL_law 538 = .ok (.aload_n 0, 1) := by decide +kernel
theorem dL_law_539 : decode cL_law 539 = .ok (.iload_n 3, 1) := by decide +kernel
theorem dL_law_540 : decode cL_law 540 = .ok (.iconst 2, 1) := by decide +kernel
theorem dL_law_541 : decode cL_law 541 = .ok (.iadd, 1) := by decide +kernel
theorem dL_law_542 : decode cL_law 542 = .ok (.iaload, 1) := by decide +kernel
theorem dL_law_543 : decode cL_law 543 = .ok (.aload_n 0, 1) := by decide +kernel
theorem dL_law_544 : decode cL_law 544 = .ok (.iload_n 3, 1) := by decide +kernel
theorem dL_law_545 : decode cL_law 545 = .ok (.iconst 3, 1) := by decide +kernel
theorem dL_law_546 : decode cL_law 546 = .ok (.iadd, 1) := by decide +kernel
theorem dL_law_547 : decode cL_law 547 = .ok (.iaload, 1) := by decide +kernel
theorem dL_law_548 : decode cL_law 548 = .ok (.invokevirtual 65, 3) := by decide +kernel
theorem dL_law_551 : decode cL_law 551 = .ok (.if_icmp .eq 625, 3) := by decide +kernel
theorem dL_law_554 : decode cL_law 554 = .ok (.iconst 0, 1) := by decide +kernel
theorem dL_law_555 : decode cL_law 555 = .ok (.ireturn, 1) := by decide +kernel
theorem dL_law_556 : decode cL_law 556 = .ok (.aload_n 1, 1) := by decide +kernel
theorem dL_law_557 : decode cL_law 557 = .ok (.aload_n 0, 1) := by decide +kernel
theorem dL_law_558 : decode cL_law 558 = .ok (.iload_n 3, 1) := by decide +kernel
theorem dL_law_559 : decode cL_law 559 = .ok (.iconst 1, 1) := by decide +kernel
theorem dL_law_560 : decode cL_law 560 = .ok (.iadd, 1) := by decide +kernel
theorem dL_law_561 : decode cL_law 561 = .ok (.iaload, 1) := by decide +kernel
theorem dL_law_562 : decode cL_law 562 = .ok (.aload_n 0, 1) := by decide +kernel
theorem dL_law_563 : decode cL_law 563 = .ok (.iload_n 3, 1) := by decide +kernel
theorem dL_law_564 : decode cL_law 564 = .ok (.iconst 2, 1) := by decide +kernel
theorem dL_law_565 : decode cL_law 565 = .ok (.iadd, 1) := by decide +kernel
theorem dL_law_566 : decode cL_law 566 = .ok (.iaload, 1) := by decide +kernel
theorem dL_law_567 : decode cL_law 567 = .ok (.invokevirtual 66, 3) := by decide +kernel
theorem dL_law_570 : decode cL_law 570 = .ok (.aload_n 2, 1) := by decide +kernel
theorem dL_law_571 : decode cL_law 571 = .ok (.aload_n 0, 1) := by decide +kernel
theorem dL_law_572 : decode cL_law 572 = .ok (.iload_n 3, 1) := by decide +kernel
theorem dL_law_573 : decode cL_law 573 = .ok (.iconst 1, 1) := by decide +kernel
theorem dL_law_574 : decode cL_law 574 = .ok (.iadd, 1) := by decide +kernel
theorem dL_law_575 : decode cL_law 575 = .ok (.iaload, 1) := by decide +kernel
theorem dL_law_576 : decode cL_law 576 = .ok (.aload_n 0, 1) := by decide +kernel
theorem dL_law_577 : decode cL_law 577 = .ok (.iload_n 3, 1) := by decide +kernel
theorem dL_law_578 : decode cL_law 578 = .ok (.iconst 2, 1) := by decide +kernel
theorem dL_law_579 : decode cL_law 579 = .ok (.iadd, 1) := by decide +kernel
theorem dL_law_580 : decode cL_law 580 = .ok (.iaload, 1) := by decide +kernel
theorem dL_law_581 : decode cL_law 581 = .ok (.invokevirtual 69, 3) := by decide +kernel
theorem dL_law_584 : decode cL_law 584 = .ok (.if_icmp .eq 592, 3) := by decide +kernel
theorem dL_law_587 : decode cL_law 587 = .ok (.iconst 0, 1) := by decide +kernel
theorem dL_law_588 : decode cL_law 588 = .ok (.ireturn, 1) := by decide +kernel
theorem dL_law_589 : decode cL_law 589 = .ok (.aload_n 1, 1) := by decide +kernel
theorem dL_law_590 : decode cL_law 590 = .ok (.aload_n 0, 1) := by decide +kernel
theorem dL_law_591 : decode cL_law 591 = .ok (.iload_n 3, 1) := by decide +kernel
theorem dL_law_592 : decode cL_law 592 = .ok (.iconst 1, 1) := by decide +kernel
theorem dL_law_593 : decode cL_law 593 = .ok (.iadd, 1) := by decide +kernel
theorem dL_law_594 : decode cL_law 594 = .ok (.iaload, 1) := by decide +kernel
theorem dL_law_595 : decode cL_law 595 = .ok (.aload_n 0, 1) := by decide +kernel
theorem dL_law_596 : decode cL_law 596 = .ok (.iload_n 3, 1) := by decide +kernel
theorem dL_law_597 : decode cL_law 597 = .ok (.iconst 2, 1) := by decide +kernel
theorem dL_law_598 : decode cL_law 598 = .ok (.iadd, 1) := by decide +kernel
theorem dL_law_599 : decode cL_law 599 = .ok (.iaload, 1) := by decide +kernel
theorem dL_law_600 : decode cL_law 600 = .ok (.invokevirtual 70, 3) := by decide +kernel
theorem dL_law_603 : decode cL_law 603 = .ok (.aload_n 2, 1) := by decide +kernel
theorem dL_law_604 : decode cL_law 604 = .ok (.aload_n 0, 1) := by decide +kernel
theorem dL_law_605 : decode cL_law 605 = .ok (.iload_n 3, 1) := by decide +kernel
theorem dL_law_606 : decode cL_law 606 = .ok (.iconst 1, 1) := by decide +kernel
theorem dL_law_607 : decode cL_law 607 = .ok (.iadd, 1) := by decide +kernel
theorem dL_law_608 : decode cL_law 608 = .ok (.iaload, 1) := by decide +kernel
theorem dL_law_609 : decode cL_law 609 = .ok (.aload_n 0, 1) := by decide +kernel
theorem dL_law_610 : decode cL_law 610 = .ok (.iload_n 3, 1) := by decide +kernel
theorem dL_law_611 : decode cL_law 611 = .ok (.iconst 2, 1) := by decide +kernel
theorem dL_law_612 : decode cL_law 612 = .ok (.iadd, 1) := by decide +kernel
theorem dL_law_613 : decode cL_law 613 = .ok (.iaload, 1) := by decide +kernel
theorem dL_law_614 : decode cL_law 614 = .ok (.invokevirtual 73, 3) := by decide +kernel
theorem dL_law_617 : decode cL_law 617 = .ok (.if_icmp .eq 559, 3) := by decide +kernel
theorem dL_law_620 : decode cL_law 620 = .ok (.iconst 0, 1) := by decide +kernel
theorem dL_law_621 : decode cL_law 621 = .ok (.ireturn, 1) := by decide +kernel
theorem dL_law_622 : decode cL_law 622 = .ok (.aload_n 1, 1) := by decide +kernel
theorem dL_law_623 : decode cL_law 623 = .ok (.aload_n 0, 1) := by decide +kernel
theorem dL_law_624 : decode cL_law 624 = .ok (.iload_n 3, 1) := by decide +kernel
theorem dL_law_625 : decode cL_law 625 = .ok (.iconst 1, 1) := by decide +kernel
theorem dL_law_626 : decode cL_law 626 = .ok (.iadd, 1) := by decide +kernel
theorem dL_law_627 : decode cL_law 627 = .ok (.iaload, 1) := by decide +kernel
theorem dL_law_628 : decode cL_law 628 = .ok (.aload_n 0, 1) := by decide +kernel
theorem dL_law_629 : decode cL_law 629 = .ok (.iload_n 3, 1) := by decide +kernel
theorem dL_law_630 : decode cL_law 630 = .ok (.iconst 2, 1) := by decide +kernel
theorem dL_law_631 : decode cL_law 631 = .ok (.iadd, 1) := by decide +kernel
theorem dL_law_632 : decode cL_law 632 = .ok (.iaload, 1) := by decide +kernel
theorem dL_law_633 : decode cL_law 633 = .ok (.invokevirtual 74, 3) := by decide +kernel
theorem dL_law_636 : decode cL_law 636 = .ok (.aload_n 2, 1) := by decide +kernel
theorem dL_law_637 : decode cL_law 637 = .ok (.aload_n 0, 1) := by decide +kernel
theorem dL_law_638 : decode cL_law 638 = .ok (.iload_n 3, 1) := by decide +kernel
theorem dL_law_639 : decode cL_law 639 = .ok (.iconst 1, 1) := by decide +kernel
theorem dL_law_640 : decode cL_law 640 = .ok (.iadd, 1) := by decide +kernel
theorem dL_law_641 : decode cL_law 641 = .ok (.iaload, 1) := by decide +kernel
theorem dL_law_642 : decode cL_law 642 = .ok (.aload_n 0, 1) := by decide +kernel
theorem dL_law_643 : decode cL_law 643 = .ok (.iload_n 3, 1) := by decide +kernel
theorem dL_law_644 : decode cL_law 644 = .ok (.iconst 2, 1) := by decide +kernel
theorem dL_law_645 : decode cL_law 645 = .ok (.iadd, 1) := by decide +kernel
theorem dL_law_646 : decode cL_law 646 = .ok (.iaload, 1) := by decide +kernel
theorem dL_law_647 : decode cL_law 647 = .ok (.invokevirtual 77, 3) := by decide +kernel
theorem dL_law_650 : decode cL_law 650 = .ok (.if_icmp .eq 526, 3) := by decide +kernel
theorem dL_law_653 : decode cL_law 653 = .ok (.iconst 0, 1) := by decide +kernel
theorem dL_law_654 : decode cL_law 654 = .ok (.ireturn, 1) := by decide +kernel
theorem dL_law_655 : decode cL_law 655 = .ok (.aload_n 1, 1) := by decide +kernel
theorem dL_law_656 : decode cL_law 656 = .ok (.aload_n 0, 1) := by decide +kernel
theorem dL_law_657 : decode cL_law 657 = .ok (.iload_n 3, 1) := by decide +kernel
theorem dL_law_658 : decode cL_law 658 = .ok (.iconst 1, 1) := by decide +kernel
theorem dL_law_659 : decode cL_law 659 = .ok (.iadd, 1) := by decide +kernel
theorem dL_law_660 : decode cL_law 660 = .ok (.iaload, 1) := by decide +kernel
theorem dL_law_661 : decode cL_law 661 = .ok (.aload_n 0, 1) := by decide +kernel
theorem dL_law_662 : decode cL_law 662 = .ok (.iload_n 3, 1) := by decide +kernel
theorem dL_law_663 : decode cL_law 663 = .ok (.iconst 2, 1) := by decide +kernel
theorem dL_law_664 : decode cL_law 664 = .ok (.iadd, 1) := by decide +kernel
theorem dL_law_665 : decode cL_law 665 = .ok (.iaload, 1) := by decide +kernel
theorem dL_law_666 : decode cL_law 666 = .ok (.aload_n 0, 1) := by decide +kernel
theorem dL_law_667 : decode cL_law 667 = .ok (.iload_n 3, 1) := by decide +kernel
theorem dL_law_668 : decode cL_law 668 = .ok (.iconst 3, 1) := by decide +kernel
theorem dL_law_669 : decode cL_law 669 = .ok (.iadd, 1) := by decide +kernel
theorem dL_law_670 : decode cL_law 670 = .ok (.iaload, 1) := by decide +kernel
theorem dL_law_671 : decode cL_law 671 = .ok (.invokevirtual 78, 3) := by decide +kernel
theorem dL_law_674 : decode cL_law 674 = .ok (.aload_n 2, 1) := by decide +kernel
theorem dL_law_675 : decode cL_law 675 = .ok (.aload_n 0, 1) := by decide +kernel
theorem dL_law_676 : decode cL_law 676 = .ok (.iload_n 3, 1) := by decide +kernel
theorem dL_law_677 : decode cL_law 677 = .ok (.iconst 1, 1) := by decide +kernel
theorem dL_law_678 : decode cL_law 678 = .ok (.iadd, 1) := by decide +kernel
theorem dL_law_679 : decode cL_law 679 = .ok (.iaload, 1) := by decide +kernel
theorem dL_law_680 : decode cL_law 680 = .ok (.aload_n 0, 1) := by decide +kernel
theorem dL_law_681 : decode cL_law 681 = .ok (.iload_n 3, 1) := by decide +kernel
theorem dL_law_682 : decode cL_law 682 = .ok (.iconst 2, 1) := by decide +kernel
theorem dL_law_683 : decode cL_law 683 = .ok (.iadd, 1) := by decide +kernel
theorem dL_law_684 : decode cL_law 684 = .ok (.iaload, 1) := by decide +kernel
theorem dL_law_685 : decode cL_law 685 = .ok (.aload_n 0, 1) := by decide +kernel
theorem dL_law_686 : decode cL_law 686 = .ok (.iload_n 3, 1) := by decide +kernel
theorem dL_law_687 : decode cL_law 687 = .ok (.iconst 3, 1) := by decide +kernel
theorem dL_law_688 : decode cL_law 688 = .ok (.iadd, 1) := by decide +kernel
theorem dL_law_689 : decode cL_law 689 = .ok (.iaload, 1) := by decide +kernel
theorem dL_law_690 : decode cL_law 690 = .ok (.invokevirtual 82, 3) := by decide +kernel
theorem dL_law_693 : decode cL_law 693 = .ok (.lcmp, 1) := by decide +kernel
theorem dL_law_694 : decode cL_law 694 = .ok (.ifCond .eq 482, 3) := by decide +kernel
theorem dL_law_697 : decode cL_law 697 = .ok (.iconst 0, 1) := by decide +kernel
theorem dL_law_698 : decode cL_law 698 = .ok (.ireturn, 1) := by decide +kernel
theorem dL_law_699 : decode cL_law 699 = .ok (.aload_n 1, 1) := by decide +kernel
theorem dL_law_700 : decode cL_law 700 = .ok (.aload_n 0, 1) := by decide +kernel
theorem dL_law_701 : decode cL_law 701 = .ok (.iload_n 3, 1) := by decide +kernel
theorem dL_law_702 : decode cL_law 702 = .ok (.iconst 1, 1) := by decide +kernel
theorem dL_law_703 : decode cL_law 703 = .ok (.iadd, 1) := by decide +kernel
theorem dL_law_704 : decode cL_law 704 = .ok (.iaload, 1) := by decide +kernel
theorem dL_law_705 : decode cL_law 705 = .ok (.aload_n 0, 1) := by decide +kernel
theorem dL_law_706 : decode cL_law 706 = .ok (.iload_n 3, 1) := by decide +kernel
theorem dL_law_707 : decode cL_law 707 = .ok (.iconst 2, 1) := by decide +kernel
theorem dL_law_708 : decode cL_law 708 = .ok (.iadd, 1) := by decide +kernel
theorem dL_law_709 : decode cL_law 709 = .ok (.iaload, 1) := by decide +kernel
theorem dL_law_710 : decode cL_law 710 = .ok (.aload_n 0, 1) := by decide +kernel
theorem dL_law_711 : decode cL_law 711 = .ok (.iload_n 3, 1) := by decide +kernel
theorem dL_law_712 : decode cL_law 712 = .ok (.iconst 3, 1) := by decide +kernel
theorem dL_law_713 : decode cL_law 713 = .ok (.iadd, 1) := by decide +kernel
theorem dL_law_714 : decode cL_law 714 = .ok (.iaload, 1) := by decide +kernel
theorem dL_law_715 : decode cL_law 715 = .ok (.aload_n 0, 1) := by decide +kernel
theorem dL_law_716 : decode cL_law 716 = .ok (.iload_n 3, 1) := by decide +kernel
theorem dL_law_717 : decode cL_law 717 = .ok (.iconst 4, 1) := by decide +kernel
theorem dL_law_718 : decode cL_law 718 = .ok (.iadd, 1) := by decide +kernel
theorem dL_law_719 : decode cL_law 719 = .ok (.iaload, 1) := by decide +kernel
theorem dL_law_720 : decode cL_law 720 = .ok (.invokevirtual 83, 3) := by decide +kernel
theorem dL_law_723 : decode cL_law 723 = .ok (.aload_n 2, 1) := by decide +kernel
theorem dL_law_724 : decode cL_law 724 = .ok (.aload_n 0, 1) := by decide +kernel
theorem dL_law_725 : decode cL_law 725 = .ok (.iload_n 3, 1) := by decide +kernel
theorem dL_law_726 : decode cL_law 726 = .ok (.iconst 1, 1) := by decide +kernel
theorem dL_law_727 : decode cL_law 727 = .ok (.iadd, 1) := by decide +kernel
theorem dL_law_728 : decode cL_law 728 = .ok (.iaload, 1) := by decide +kernel
theorem dL_law_729 : decode cL_law 729 = .ok (.aload_n 0, 1) := by decide +kernel
theorem dL_law_730 : decode cL_law 730 = .ok (.iload_n 3, 1) := by decide +kernel
theorem dL_law_731 : decode cL_law 731 = .ok (.iconst 2, 1) := by decide +kernel
theorem dL_law_732 : decode cL_law 732 = .ok (.iadd, 1) := by decide +kernel
theorem dL_law_733 : decode cL_law 733 = .ok (.iaload, 1) := by decide +kernel
theorem dL_law_734 : decode cL_law 734 = .ok (.aload_n 0, 1) := by decide +kernel
theorem dL_law_735 : decode cL_law 735 = .ok (.iload_n 3, 1) := by decide +kernel
theorem dL_law_736 : decode cL_law 736 = .ok (.iconst 3, 1) := by decide +kernel
theorem dL_law_737 : decode cL_law 737 = .ok (.iadd, 1) := by decide +kernel
theorem dL_law_738 : decode cL_law 738 = .ok (.iaload, 1) := by decide +kernel
theorem dL_law_739 : decode cL_law 739 = .ok (.aload_n 0, 1) := by decide +kernel
theorem dL_law_740 : decode cL_law 740 = .ok (.iload_n 3, 1) := by decide +kernel
theorem dL_law_741 : decode cL_law 741 = .ok (.iconst 4, 1) := by decide +kernel
theorem dL_law_742 : decode cL_law 742 = .ok (.iadd, 1) := by decide +kernel
theorem dL_law_743 : decode cL_law 743 = .ok (.iaload, 1) := by decide +kernel
theorem dL_law_744 : decode cL_law 744 = .ok (.invokevirtual 86, 3) := by decide +kernel
theorem dL_law_747 : decode cL_law 747 = .ok (.if_icmp .eq 429, 3) := by decide +kernel
theorem dL_law_750 : decode cL_law 750 = .ok (.iconst 0, 1) := by decide +kernel
theorem dL_law_751 : decode cL_law 751 = .ok (.ireturn, 1) := by decide +kernel
theorem dL_law_752 : decode cL_law 752 = .ok (.aload_n 1, 1) := by decide +kernel
theorem dL_law_753 : decode cL_law 753 = .ok (.aload_n 0, 1) := by decide +kernel
theorem dL_law_754 : decode cL_law 754 = .ok (.iload_n 3, 1) := by decide +kernel
theorem dL_law_755 : decode cL_law 755 = .ok (.iconst 1, 1) := by decide +kernel
theorem dL_law_756 : decode cL_law 756 = .ok (.iadd, 1) := by decide +kernel
theorem dL_law_757 : decode cL_law 757 = .ok (.iaload, 1) := by decide +kernel
theorem dL_law_758 : decode cL_law 758 = .ok (.aload_n 0, 1) := by decide +kernel
theorem dL_law_759 : decode cL_law 759 = .ok (.iload_n 3, 1) := by decide +kernel
theorem dL_law_760 : decode cL_law 760 = .ok (.iconst 2, 1) := by decide +kernel
theorem dL_law_761 : decode cL_law 761 = .ok (.iadd, 1) := by decide +kernel
theorem dL_law_762 : decode cL_law 762 = .ok (.iaload, 1) := by decide +kernel
theorem dL_law_763 : decode cL_law 763 = .ok (.aload_n 0, 1) := by decide +kernel
theorem dL_law_764 : decode cL_law 764 = .ok (.iload_n 3, 1) := by decide +kernel
theorem dL_law_765 : decode cL_law 765 = .ok (.iconst 3, 1) := by decide +kernel
theorem dL_law_766 : decode cL_law 766 = .ok (.iadd, 1) := by decide +kernel
theorem dL_law_767 : decode cL_law 767 = .ok (.iaload, 1) := by decide +kernel
theorem dL_law_768 : decode cL_law 768 = .ok (.aload_n 0, 1) := by decide +kernel
theorem dL_law_769 : decode cL_law 769 = .ok (.iload_n 3, 1) := by decide +kernel
theorem dL_law_770 : decode cL_law 770 = .ok (.iconst 4, 1) := by decide +kernel
theorem dL_law_771 : decode cL_law 771 = .ok (.iadd, 1) := by decide +kernel
theorem dL_law_772 : decode cL_law 772 = .ok (.iaload, 1) := by decide +kernel
theorem dL_law_773 : decode cL_law 773 = .ok (.invokevirtual 87, 3) := by decide +kernel
theorem dL_law_776 : decode cL_law 776 = .ok (.aload_n 2, 1) := by decide +kernel
theorem dL_law_777 : decode cL_law 777 = .ok (.aload_n 0, 1) := by decide +kernel
theorem dL_law_778 : decode cL_law 778 = .ok (.iload_n 3, 1) := by decide +kernel
theorem dL_law_779 : decode cL_law 779 = .ok (.iconst 1, 1) := by decide +kernel
theorem dL_law_780 : decode cL_law 780 = .ok (.iadd, 1) := by decide +kernel
theorem dL_law_781 : decode cL_law 781 = .ok (.iaload, 1) := by decide +kernel
theorem dL_law_782 : decode cL_law 782 = .ok (.aload_n 0, 1) := by decide +kernel
theorem dL_law_783 : decode cL_law 783 = .ok (.iload_n 3, 1) := by decide +kernel
theorem dL_law_784 : decode cL_law 784 = .ok (.iconst 2, 1) := by decide +kernel
theorem dL_law_785 : decode cL_law 785 = .ok (.iadd, 1) := by decide +kernel
theorem dL_law_786 : decode cL_law 786 = .ok (.iaload, 1) := by decide +kernel
theorem dL_law_787 : decode cL_law 787 = .ok (.aload_n 0, 1) := by decide +kernel
theorem dL_law_788 : decode cL_law 788 = .ok (.iload_n 3, 1) := by decide +kernel
theorem dL_law_789 : decode cL_law 789 = .ok (.iconst 3, 1) := by decide +kernel
theorem dL_law_790 : decode cL_law 790 = .ok (.iadd, 1) := by decide +kernel
theorem dL_law_791 : decode cL_law 791 = .ok (.iaload, 1) := by decide +kernel
theorem dL_law_792 : decode cL_law 792 = .ok (.aload_n 0, 1) := by decide +kernel
theorem dL_law_793 : decode cL_law 793 = .ok (.iload_n 3, 1) := by decide +kernel
theorem dL_law_794 : decode cL_law 794 = .ok (.iconst 4, 1) := by decide +kernel
theorem dL_law_795 : decode cL_law 795 = .ok (.iadd, 1) := by decide +kernel
theorem dL_law_796 : decode cL_law 796 = .ok (.iaload, 1) := by decide +kernel
theorem dL_law_797 : decode cL_law 797 = .ok (.invokevirtual 90, 3) := by decide +kernel
theorem dL_law_800 : decode cL_law 800 = .ok (.if_icmp .eq 376, 3) := by decide +kernel
theorem dL_law_803 : decode cL_law 803 = .ok (.iconst 0, 1) := by decide +kernel
theorem dL_law_804 : decode cL_law 804 = .ok (.ireturn, 1) := by decide +kernel
theorem dL_law_805 : decode cL_law 805 = .ok (.aload_n 1, 1) := by decide +kernel
theorem dL_law_806 : decode cL_law 806 = .ok (.aload_n 0, 1) := by decide +kernel
theorem dL_law_807 : decode cL_law 807 = .ok (.iload_n 3, 1) := by decide +kernel
theorem dL_law_808 : decode cL_law 808 = .ok (.iconst 1, 1) := by decide +kernel
theorem dL_law_809 : decode cL_law 809 = .ok (.iadd, 1) := by decide +kernel
theorem dL_law_810 : decode cL_law 810 = .ok (.iaload, 1) := by decide +kernel
theorem dL_law_811 : decode cL_law 811 = .ok (.aload_n 0, 1) := by decide +kernel
theorem dL_law_812 : decode cL_law 812 = .ok (.iload_n 3, 1) := by decide +kernel
theorem dL_law_813 : decode cL_law 813 = .ok (.iconst 2, 1) := by decide +kernel
theorem dL_law_814 : decode cL_law 814 = .ok (.iadd, 1) := by decide +kernel
theorem dL_law_815 : decode cL_law 815 = .ok (.iaload, 1) := by decide +kernel
theorem dL_law_816 : decode cL_law 816 = .ok (.invokevirtual 91, 3) := by decide +kernel
theorem dL_law_819 : decode cL_law 819 = .ok (.aload_n 2, 1) := by decide +kernel
theorem dL_law_820 : decode cL_law 820 = .ok (.aload_n 0, 1) := by decide +kernel
theorem dL_law_821 : decode cL_law 821 = .ok (.iload_n 3, 1) := by decide +kernel
theorem dL_law_822 : decode cL_law 822 = .ok (.iconst 1, 1) := by decide +kernel
theorem dL_law_823 : decode cL_law 823 = .ok (.iadd, 1) := by decide +kernel
theorem dL_law_824 : decode cL_law 824 = .ok (.iaload, 1) := by decide +kernel
theorem dL_law_825 : decode cL_law 825 = .ok (.aload_n 0, 1) := by decide +kernel
theorem dL_law_826 : decode cL_law 826 = .ok (.iload_n 3, 1) := by decide +kernel
theorem dL_law_827 : decode cL_law 827 = .ok (.iconst 2, 1) := by decide +kernel
theorem dL_law_828 : decode cL_law 828 = .ok (.iadd, 1) := by decide +kernel
theorem dL_law_829 : decode cL_law 829 = .ok (.iaload, 1) := by decide +kernel
theorem dL_law_830 : decode cL_law 830 = .ok (.invokevirtual 94, 3) := by decide +kernel
theorem dL_law_833 : decode cL_law 833 = .ok (.if_icmp .eq 343, 3) := by decide +kernel
theorem dL_law_836 : decode cL_law 836 = .ok (.iconst 0, 1) := by decide +kernel
theorem dL_law_837 : decode cL_law 837 = .ok (.ireturn, 1) := by decide +kernel
theorem dL_law_838 : decode cL_law 838 = .ok (.aload_n 1, 1) := by decide +kernel
theorem dL_law_839 : decode cL_law 839 = .ok (.aload_n 0, 1) := by decide +kernel
theorem dL_law_840 : decode cL_law 840 = .ok (.iload_n 3, 1) := by decide +kernel
theorem dL_law_841 : decode cL_law 841 = .ok (.iconst 1, 1) := by decide +kernel
theorem dL_law_842 : decode cL_law 842 = .ok (.iadd, 1) := by decide +kernel
theorem dL_law_843 : decode cL_law 843 = .ok (.iaload, 1) := by decide +kernel
theorem dL_law_844 : decode cL_law 844 = .ok (.aload_n 0, 1) := by decide +kernel
theorem dL_law_845 : decode cL_law 845 = .ok (.iload_n 3, 1) := by decide +kernel
theorem dL_law_846 : decode cL_law 846 = .ok (.iconst 2, 1) := by decide +kernel
theorem dL_law_847 : decode cL_law 847 = .ok (.iadd, 1) := by decide +kernel
theorem dL_law_848 : decode cL_law 848 = .ok (.iaload, 1) := by decide +kernel
theorem dL_law_849 : decode cL_law 849 = .ok (.aload_n 0, 1) := by decide +kernel
theorem dL_law_850 : decode cL_law 850 = .ok (.iload_n 3, 1) := by decide +kernel
theorem dL_law_851 : decode cL_law 851 = .ok (.iconst 3, 1) := by decide +kernel
theorem dL_law_852 : decode cL_law 852 = .ok (.iadd, 1) := by decide +kernel
theorem dL_law_853 : decode cL_law 853 = .ok (.iaload, 1) := by decide +kernel
theorem dL_law_854 : decode cL_law 854 = .ok (.aload_n 0, 1) := by decide +kernel
theorem dL_law_855 : decode cL_law 855 = .ok (.iload_n 3, 1) := by decide +kernel
theorem dL_law_856 : decode cL_law 856 = .ok (.iconst 4, 1) := by decide +kernel
theorem dL_law_857 : decode cL_law 857 = .ok (.iadd, 1) := by decide +kernel
theorem dL_law_858 : decode cL_law 858 = .ok (.iaload, 1) := by decide +kernel
theorem dL_law_859 : decode cL_law 859 = .ok (.invokevirtual 95, 3) := by decide +kernel
theorem dL_law_862 : decode cL_law 862 = .ok (.aload_n 2, 1) := by decide +kernel
theorem dL_law_863 : decode cL_law 863 = .ok (.aload_n 0, 1) := by decide +kernel
theorem dL_law_864 : decode cL_law 864 = .ok (.iload_n 3, 1) := by decide +kernel
theorem dL_law_865 : decode cL_law 865 = .ok (.iconst 1, 1) := by decide +kernel
theorem dL_law_866 : decode cL_law 866 = .ok (.iadd, 1) := by decide +kernel
theorem dL_law_867 : decode cL_law 867 = .ok (.iaload, 1) := by decide +kernel
theorem dL_law_868 : decode cL_law 868 = .ok (.aload_n 0, 1) := by decide +kernel
theorem dL_law_869 : decode cL_law 869 = .ok (.iload_n 3, 1) := by decide +kernel
theorem dL_law_870 : decode cL_law 870 = .ok (.iconst 2, 1) := by decide +kernel
theorem dL_law_871 : decode cL_law 871 = .ok (.iadd, 1) := by decide +kernel
theorem dL_law_872 : decode cL_law 872 = .ok (.iaload, 1) := by decide +kernel
theorem dL_law_873 : decode cL_law 873 = .ok (.aload_n 0, 1) := by decide +kernel
theorem dL_law_874 : decode cL_law 874 = .ok (.iload_n 3, 1) := by decide +kernel
theorem dL_law_875 : decode cL_law 875 = .ok (.iconst 3, 1) := by decide +kernel
theorem dL_law_876 : decode cL_law 876 = .ok (.iadd, 1) := by decide +kernel
theorem dL_law_877 : decode cL_law 877 = .ok (.iaload, 1) := by decide +kernel
theorem dL_law_878 : decode cL_law 878 = .ok (.aload_n 0, 1) := by decide +kernel
theorem dL_law_879 : decode cL_law 879 = .ok (.iload_n 3, 1) := by decide +kernel
theorem dL_law_880 : decode cL_law 880 = .ok (.iconst 4, 1) := by decide +kernel
theorem dL_law_881 : decode cL_law 881 = .ok (.iadd, 1) := by decide +kernel
theorem dL_law_882 : decode cL_law 882 = .ok (.iaload, 1) := by decide +kernel
theorem dL_law_883 : decode cL_law 883 = .ok (.invokevirtual 99, 3) := by decide +kernel
theorem dL_law_886 : decode cL_law 886 = .ok (.lcmp, 1) := by decide +kernel
theorem dL_law_887 : decode cL_law 887 = .ok (.ifCond .eq 289, 3) := by decide +kernel
theorem dL_law_890 : decode cL_law 890 = .ok (.iconst 0, 1) := by decide +kernel
theorem dL_law_891 : decode cL_law 891 = .ok (.ireturn, 1) := by decide +kernel
theorem dL_law_892 : decode cL_law 892 = .ok (.aload_n 1, 1) := by decide +kernel
theorem dL_law_893 : decode cL_law 893 = .ok (.invokevirtual 100, 3) := by decide +kernel
theorem dL_law_896 : decode cL_law 896 = .ok (.aload_n 2, 1) := by decide +kernel
theorem dL_law_897 : decode cL_law 897 = .ok (.invokevirtual 103, 3) := by decide +kernel
theorem dL_law_900 : decode cL_law 900 = .ok (.if_icmp .eq 276, 3) := by decide +kernel
theorem dL_law_903 : decode cL_law 903 = .ok (.iconst 0, 1) := by decide +kernel
theorem dL_law_904 : decode cL_law 904 = .ok (.ireturn, 1) := by decide +kernel
theorem dL_law_905 : decode cL_law 905 = .ok (.aload_n 1, 1) := by decide +kernel
theorem dL_law_906 : decode cL_law 906 = .ok (.invokevirtual 104, 3) := by decide +kernel
theorem dL_law_909 : decode cL_law 909 = .ok (.aload_n 2, 1) := by decide +kernel
theorem dL_law_910 : decode cL_law 910 = .ok (.invokevirtual 107, 3) := by decide +kernel
theorem dL_law_913 : decode cL_law 913 = .ok (.if_icmp .eq 263, 3) := by decide +kernel
theorem dL_law_916 : decode cL_law 916 = .ok (.iconst 0, 1) := by decide +kernel
theorem dL_law_917 : decode cL_law 917 = .ok (.ireturn, 1) := by decide +kernel
theorem dL_law_918 : decode cL_law 918 = .ok (.aload_n 1, 1) := by decide +kernel
theorem dL_law_919 : decode cL_law 919 = .ok (.aload_n 0, 1) := by decide +kernel
theorem dL_law_920 : decode cL_law 920 = .ok (.iload_n 3, 1) := by decide +kernel
theorem dL_law_921 : decode cL_law 921 = .ok (.iconst 1, 1) := by decide +kernel
theorem dL_law_922 : decode cL_law 922 = .ok (.iadd, 1) := by decide +kernel
theorem dL_law_923 : decode cL_law 923 = .ok (.iaload, 1) := by decide +kernel
theorem dL_law_924 : decode cL_law 924 = .ok (.invokevirtual 108, 3) := by decide +kernel
theorem dL_law_927 : decode cL_law 927 = .ok (.aload_n 2, 1) := by decide +kernel
theorem dL_law_928 : decode cL_law 928 = .ok (.aload_n 0, 1) := by decide +kernel
theorem dL_law_929 : decode cL_law 929 = .ok (.iload_n 3, 1) := by decide +kernel
theorem dL_law_930 : decode cL_law 930 = .ok (.iconst 1, 1) := by decide +kernel
theorem dL_law_931 : decode cL_law 931 = .ok (.iadd, 1) := by decide +kernel
theorem dL_law_932 : decode cL_law 932 = .ok (.iaload, 1) := by decide +kernel
theorem dL_law_933 : decode cL_law 933 = .ok (.invokevirtual 111, 3) := by decide +kernel
theorem dL_law_936 : decode cL_law 936 = .ok (.if_icmp .eq 240, 3) := by decide +kernel
theorem dL_law_939 : decode cL_law 939 = .ok (.iconst 0, 1) := by decide +kernel
theorem dL_law_940 : decode cL_law 940 = .ok (.ireturn, 1) := by decide +kernel
theorem dL_law_941 : decode cL_law 941 = .ok (.aload_n 1, 1) := by decide +kernel
theorem dL_law_942 : decode cL_law 942 = .ok (.aload_n 0, 1) := by decide +kernel
theorem dL_law_943 : decode cL_law 943 = .ok (.iload_n 3, 1) := by decide +kernel
theorem dL_law_944 : decode cL_law 944 = .ok (.iconst 1, 1) := by decide +kernel
theorem dL_law_945 : decode cL_law 945 = .ok (.iadd, 1) := by decide +kernel
theorem dL_law_946 : decode cL_law 946 = .ok (.iaload, 1) := by decide +kernel
theorem dL_law_947 : decode cL_law 947 = .ok (.aload_n 0, 1) := by decide +kernel
theorem dL_law_948 : decode cL_law 948 = .ok (.iload_n 3, 1) := by decide +kernel
theorem dL_law_949 : decode cL_law 949 = .ok (.iconst 2, 1) := by decide +kernel
theorem dL_law_950 : decode cL_law 950 = .ok (.iadd, 1) := by decide +kernel
theorem dL_law_951 : decode cL_law 951 = .ok (.iaload, 1) := by decide +kernel
theorem dL_law_952 : decode cL_law 952 = .ok (.aload_n 0, 1) := by decide +kernel
theorem dL_law_953 : decode cL_law 953 = .ok (.iload_n 3, 1) := by decide +kernel
theorem dL_law_954 : decode cL_law 954 = .ok (.iconst 3, 1) := by decide +kernel
theorem dL_law_955 : decode cL_law 955 = .ok (.iadd, 1) := by decide +kernel
theorem dL_law_956 : decode cL_law 956 = .ok (.iaload, 1) := by decide +kernel
theorem dL_law_957 : decode cL_law 957 = .ok (.invokevirtual 112, 3) := by decide +kernel
theorem dL_law_960 : decode cL_law 960 = .ok (.aload_n 2, 1) := by decide +kernel
theorem dL_law_961 : decode cL_law 961 = .ok (.aload_n 0, 1) := by decide +kernel
theorem dL_law_962 : decode cL_law 962 = .ok (.iload_n 3, 1) := by decide +kernel
theorem dL_law_963 : decode cL_law 963 = .ok (.iconst 1, 1) := by decide +kernel
theorem dL_law_964 : decode cL_law 964 = .ok (.iadd, 1) := by decide +kernel
theorem dL_law_965 : decode cL_law 965 = .ok (.iaload, 1) := by decide +kernel
theorem dL_law_966 : decode cL_law 966 = .ok (.aload_n 0, 1) := by decide +kernel
theorem dL_law_967 : decode cL_law 967 = .ok (.iload_n 3, 1) := by decide +kernel
theorem dL_law_968 : decode cL_law 968 = .ok (.iconst 2, 1) := by decide +kernel
theorem dL_law_969 : decode cL_law 969 = .ok (.iadd, 1) := by decide +kernel
theorem dL_law_970 : decode cL_law 970 = .ok (.iaload, 1) := by decide +kernel
theorem dL_law_971 : decode cL_law 971 = .ok (.aload_n 0, 1) := by decide +kernel
theorem dL_law_972 : decode cL_law 972 = .ok (.iload_n 3, 1) := by decide +kernel
theorem dL_law_973 : decode cL_law 973 = .ok (.iconst 3, 1) := by decide +kernel
theorem dL_law_974 : decode cL_law 974 = .ok (.iadd, 1) := by decide +kernel
theorem dL_law_975 : decode cL_law 975 = .ok (.iaload, 1) := by decide +kernel
theorem dL_law_976 : decode cL_law 976 = .ok (.invokevirtual 115, 3) := by decide +kernel
theorem dL_law_979 : decode cL_law 979 = .ok (.if_icmp .eq 197, 3) := by decide +kernel
theorem dL_law_982 : decode cL_law 982 = .ok (.iconst 0, 1) := by decide +kernel
theorem dL_law_983 : decode cL_law 983 = .ok (.ireturn, 1) := by decide +kernel
theorem dL_law_984 : decode cL_law 984 = .ok (.aload_n 1, 1) := by decide +kernel
theorem dL_law_985 : decode cL_law 985 = .ok (.aload_n 0, 1) := by decide +kernel
theorem dL_law_986 : decode cL_law 986 = .ok (.iload_n 3, 1) := by decide +kernel
theorem dL_law_987 : decode cL_law 987 = .ok (.iconst 1, 1) := by decide +kernel
theorem dL_law_988 : decode cL_law 988 = .ok (.iadd, 1) := by decide +kernel
theorem dL_law_989 : decode cL_law 989 = .ok (.iaload, 1) := by decide +kernel
theorem dL_law_990 : decode cL_law 990 = .ok (.aload_n 0, 1) := by decide +kernel
theorem dL_law_991 : decode cL_law 991 = .ok (.iload_n 3, 1) := by decide +kernel
theorem dL_law_992 : decode cL_law 992 = .ok (.iconst 2, 1) := by decide +kernel
theorem dL_law_993 : decode cL_law 993 = .ok (.iadd, 1) := by decide +kernel
theorem dL_law_994 : decode cL_law 994 = .ok (.iaload, 1) := by decide +kernel
theorem dL_law_995 : decode cL_law 995 = .ok (.aload_n 0, 1) := by decide +kernel
theorem dL_law_996 : decode cL_law 996 = .ok (.iload_n 3, 1) := by decide +kernel
theorem dL_law_997 : decode cL_law 997 = .ok (.iconst 3, 1) := by decide +kernel
theorem dL_law_998 : decode cL_law 998 = .ok (.iadd, 1) := by decide +kernel
theorem dL_law_999 : decode cL_law 999 = .ok (.iaload, 1) := by decide +kernel
theorem dL_law_1000 : decode cL_law 1000 = .ok (.invokevirtual 116, 3) := by decide +kernel
theorem dL_law_1003 : decode cL_law 1003 = .ok (.aload_n 2, 1) := by decide +kernel
theorem dL_law_1004 : decode cL_law 1004 = .ok (.aload_n 0, 1) := by decide +kernel
theorem dL_law_1005 : decode cL_law 1005 = .ok (.iload_n 3, 1) := by decide +kernel
theorem dL_law_1006 : decode cL_law 1006 = .ok (.iconst 1, 1) := by decide +kernel
theorem dL_law_1007 : decode cL_law 1007 = .ok (.iadd, 1) := by decide +kernel
theorem dL_law_1008 : decode cL_law 1008 = .ok (.iaload, 1) := by decide +kernel
theorem dL_law_1009 : decode cL_law 1009 = .ok (.aload_n 0, 1) := by decide +kernel
theorem dL_law_1010 : decode cL_law 1010 = .ok (.iload_n 3, 1) := by decide +kernel
theorem dL_law_1011 : decode cL_law 1011 = .ok (.iconst 2, 1) := by decide +kernel
theorem dL_law_1012 : decode cL_law 1012 = .ok (.iadd, 1) := by decide +kernel
theorem dL_law_1013 : decode cL_law 1013 = .ok (.iaload, 1) := by decide +kernel
theorem dL_law_1014 : decode cL_law 1014 = .ok (.aload_n 0, 1) := by decide +kernel
theorem dL_law_1015 : decode cL_law 1015 = .ok (.iload_n 3, 1) := by decide +kernel
theorem dL_law_1016 : decode cL_law 1016 = .ok (.iconst 3, 1) := by decide +kernel
theorem dL_law_1017 : decode cL_law 1017 = .ok (.iadd, 1) := by decide +kernel
theorem dL_law_1018 : decode cL_law 1018 = .ok (.iaload, 1) := by decide +kernel
theorem dL_law_1019 : decode cL_law 1019 = .ok (.invokevirtual 119, 3) := by decide +kernel
theorem dL_law_1022 : decode cL_law 1022 = .ok (.if_icmp .eq 154, 3) := by decide +kernel
theorem dL_law_1025 : decode cL_law 1025 = .ok (.iconst 0, 1) := by decide +kernel
theorem dL_law_1026 : decode cL_law 1026 = .ok (.ireturn, 1) := by decide +kernel
theorem dL_law_1027 : decode cL_law 1027 = .ok (.aload_n 1, 1) := by decide +kernel
theorem dL_law_1028 : decode cL_law 1028 = .ok (.aload_n 0, 1) := by decide +kernel
theorem dL_law_1029 : decode cL_law 1029 = .ok (.iload_n 3, 1) := by decide +kernel
theorem dL_law_1030 : decode cL_law 1030 = .ok (.iconst 1, 1) := by decide +kernel
theorem dL_law_1031 : decode cL_law 1031 = .ok (.iadd, 1) := by decide +kernel
theorem dL_law_1032 : decode cL_law 1032 = .ok (.iaload, 1) := by decide +kernel
theorem dL_law_1033 : decode cL_law 1033 = .ok (.aload_n 0, 1) := by decide +kernel
theorem dL_law_1034 : decode cL_law 1034 = .ok (.iload_n 3, 1) := by decide +kernel
theorem dL_law_1035 : decode cL_law 1035 = .ok (.iconst 2, 1) := by decide +kernel
theorem dL_law_1036 : decode cL_law 1036 = .ok (.iadd, 1) := by decide +kernel
theorem dL_law_1037 : decode cL_law 1037 = .ok (.iaload, 1) := by decide +kernel
theorem dL_law_1038 : decode cL_law 1038 = .ok (.aload_n 0, 1) := by decide +kernel
theorem dL_law_1039 : decode cL_law 1039 = .ok (.iload_n 3, 1) := by decide +kernel
theorem dL_law_1040 : decode cL_law 1040 = .ok (.iconst 3, 1) := by decide +kernel
theorem dL_law_1041 : decode cL_law 1041 = .ok (.iadd, 1) := by decide +kernel
theorem dL_law_1042 : decode cL_law 1042 = .ok (.iaload, 1) := by decide +kernel
theorem dL_law_1043 : decode cL_law 1043 = .ok (.aload_n 0, 1) := by decide +kernel
theorem dL_law_1044 : decode cL_law 1044 = .ok (.iload_n 3, 1) := by decide +kernel
theorem dL_law_1045 : decode cL_law 1045 = .ok (.iconst 4, 1) := by decide +kernel
theorem dL_law_1046 : decode cL_law 1046 = .ok (.iadd, 1) := by decide +kernel
theorem dL_law_1047 : decode cL_law 1047 = .ok (.iaload, 1) := by decide +kernel
theorem dL_law_1048 : decode cL_law 1048 = .ok (.aload_n 0, 1) := by decide +kernel
theorem dL_law_1049 : decode cL_law 1049 = .ok (.iload_n 3, 1) := by decide +kernel
theorem dL_law_1050 : decode cL_law 1050 = .ok (.iconst 5, 1) := by decide +kernel
theorem dL_law_1051 : decode cL_law 1051 = .ok (.iadd, 1) := by decide +kernel
theorem dL_law_1052 : decode cL_law 1052 = .ok (.iaload, 1) := by decide +kernel
theorem dL_law_1053 : decode cL_law 1053 = .ok (.invokevirtual 120, 3) := by decide +kernel
theorem dL_law_1056 : decode cL_law 1056 = .ok (.aload_n 2, 1) := by decide +kernel
theorem dL_law_1057 : decode cL_law 1057 = .ok (.aload_n 0, 1) := by decide +kernel
theorem dL_law_1058 : decode cL_law 1058 = .ok (.iload_n 3, 1) := by decide +kernel
theorem dL_law_1059 : decode cL_law 1059 = .ok (.iconst 1, 1) := by decide +kernel
theorem dL_law_1060 : decode cL_law 1060 = .ok (.iadd, 1) := by decide +kernel
theorem dL_law_1061 : decode cL_law 1061 = .ok (.iaload, 1) := by decide +kernel
theorem dL_law_1062 : decode cL_law 1062 = .ok (.aload_n 0, 1) := by decide +kernel
theorem dL_law_1063 : decode cL_law 1063 = .ok (.iload_n 3, 1) := by decide +kernel
theorem dL_law_1064 : decode cL_law 1064 = .ok (.iconst 2, 1) := by decide +kernel
theorem dL_law_1065 : decode cL_law 1065 = .ok (.iadd, 1) := by decide +kernel
theorem dL_law_1066 : decode cL_law 1066 = .ok (.iaload, 1) := by decide +kernel
theorem dL_law_1067 : decode cL_law 1067 = .ok (.aload_n 0, 1) := by decide +kernel
theorem dL_law_1068 : decode cL_law 1068 = .ok (.iload_n 3, 1) := by decide +kernel
theorem dL_law_1069 : decode cL_law 1069 = .ok (.iconst 3, 1) := by decide +kernel
theorem dL_law_1070 : decode cL_law 1070 = .ok (.iadd, 1) := by decide +kernel
theorem dL_law_1071 : decode cL_law 1071 = .ok (.iaload, 1) := by decide +kernel
theorem dL_law_1072 : decode cL_law 1072 = .ok (.aload_n 0, 1) := by decide +kernel
theorem dL_law_1073 : decode cL_law 1073 = .ok (.iload_n 3, 1) := by decide +kernel
theorem dL_law_1074 : decode cL_law 1074 = .ok (.iconst 4, 1) := by decide +kernel
theorem dL_law_1075 : decode cL_law 1075 = .ok (.iadd, 1) := by decide +kernel
theorem dL_law_1076 : decode cL_law 1076 = .ok (.iaload, 1) := by decide +kernel
theorem dL_law_1077 : decode cL_law 1077 = .ok (.aload_n 0, 1) := by decide +kernel
theorem dL_law_1078 : decode cL_law 1078 = .ok (.iload_n 3, 1) := by decide +kernel
theorem dL_law_1079 : decode cL_law 1079 = .ok (.iconst 5, 1) := by decide +kernel
theorem dL_law_1080 : decode cL_law 1080 = .ok (.iadd, 1) := by decide +kernel
theorem dL_law_1081 : decode cL_law 1081 = .ok (.iaload, 1) := by decide +kernel
theorem dL_law_1082 : decode cL_law 1082 = .ok (.invokevirtual 124, 3) := by decide +kernel
theorem dL_law_1085 : decode cL_law 1085 = .ok (.if_icmp .eq 91, 3) := by decide +kernel
theorem dL_law_1088 : decode cL_law 1088 = .ok (.iconst 0, 1) := by decide +kernel
theorem dL_law_1089 : decode cL_law 1089 = .ok (.ireturn, 1) := by decide +kernel
theorem dL_law_1090 : decode cL_law 1090 = .ok (.aload_n 1, 1) := by decide +kernel
theorem dL_law_1091 : decode cL_law 1091 = .ok (.aload_n 0, 1) := by decide +kernel
theorem dL_law_1092 : decode cL_law 1092 = .ok (.iload_n 3, 1) := by decide +kernel
theorem dL_law_1093 : decode cL_law 1093 = .ok (.iconst 1, 1) := by decide +kernel
theorem dL_law_1094 : decode cL_law 1094 = .ok (.iadd, 1) := by decide +kernel
theorem dL_law_1095 : decode cL_law 1095 = .ok (.iaload, 1) := by decide +kernel
theorem dL_law_1096 : decode cL_law 1096 = .ok (.aload_n 0, 1) := by decide +kernel
theorem dL_law_1097 : decode cL_law 1097 = .ok (.iload_n 3, 1) := by decide +kernel
theorem dL_law_1098 : decode cL_law 1098 = .ok (.iconst 2, 1) := by decide +kernel
theorem dL_law_1099 : decode cL_law 1099 = .ok (.iadd, 1) := by decide +kernel
theorem dL_law_1100 : decode cL_law 1100 = .ok (.iaload, 1) := by decide +kernel
theorem dL_law_1101 : decode cL_law 1101 = .ok (.aload_n 0, 1) := by decide +kernel
theorem dL_law_1102 : decode cL_law 1102 = .ok (.iload_n 3, 1) := by decide +kernel
theorem dL_law_1103 : decode cL_law 1103 = .ok (.iconst 3, 1) := by decide +kernel
theorem dL_law_1104 : decode cL_law 1104 = .ok (.iadd, 1) := by decide +kernel
theorem dL_law_1105 : decode cL_law 1105 = .ok (.iaload, 1) := by decide +kernel
theorem dL_law_1106 : decode cL_law 1106 = .ok (.aload_n 0, 1) := by decide +kernel
theorem dL_law_1107 : decode cL_law 1107 = .ok (.iload_n 3, 1) := by decide +kernel
theorem dL_law_1108 : decode cL_law 1108 = .ok (.iconst 4, 1) := by decide +kernel
theorem dL_law_1109 : decode cL_law 1109 = .ok (.iadd, 1) := by decide +kernel
theorem dL_law_1110 : decode cL_law 1110 = .ok (.iaload, 1) := by decide +kernel
theorem dL_law_1111 : decode cL_law 1111 = .ok (.invokevirtual 125, 3) := by decide +kernel
theorem dL_law_1114 : decode cL_law 1114 = .ok (.aload_n 2, 1) := by decide +kernel
theorem dL_law_1115 : decode cL_law 1115 = .ok (.aload_n 0, 1) := by decide +kernel
theorem dL_law_1116 : decode cL_law 1116 = .ok (.iload_n 3, 1) := by decide +kernel
theorem dL_law_1117 : decode cL_law 1117 = .ok (.iconst 1, 1) := by decide +kernel
theorem dL_law_1118 : decode cL_law 1118 = .ok (.iadd, 1) := by decide +kernel
theorem dL_law_1119 : decode cL_law 1119 = .ok (.iaload, 1) := by decide +kernel
theorem dL_law_1120 : decode cL_law 1120 = .ok (.aload_n 0, 1) := by decide +kernel
theorem dL_law_1121 : decode cL_law 1121 = .ok (.iload_n 3, 1) := by decide +kernel
theorem dL_law_1122 : decode cL_law 1122 = .ok (.iconst 2, 1) := by decide +kernel
theorem dL_law_1123 : decode cL_law 1123 = .ok (.iadd, 1) := by decide +kernel
theorem dL_law_1124 : decode cL_law 1124 = .ok (.iaload, 1) := by decide +kernel
theorem dL_law_1125 : decode cL_law 1125 = .ok (.aload_n 0, 1) := by decide +kernel
theorem dL_law_1126 : decode cL_law 1126 = .ok (.iload_n 3, 1) := by decide +kernel
theorem dL_law_1127 : decode cL_law 1127 = .ok (.iconst 3, 1) := by decide +kernel
theorem dL_law_1128 : decode cL_law 1128 = .ok (.iadd, 1) := by decide +kernel
theorem dL_law_1129 : decode cL_law 1129 = .ok (.iaload, 1) := by decide +kernel
theorem dL_law_1130 : decode cL_law 1130 = .ok (.aload_n 0, 1) := by decide +kernel
theorem dL_law_1131 : decode cL_law 1131 = .ok (.iload_n 3, 1) := by decide +kernel
theorem dL_law_1132 : decode cL_law 1132 = .ok (.iconst 4, 1) := by decide +kernel
theorem dL_law_1133 : decode cL_law 1133 = .ok (.iadd, 1) := by decide +kernel
theorem dL_law_1134 : decode cL_law 1134 = .ok (.iaload, 1) := by decide +kernel
theorem dL_law_1135 : decode cL_law 1135 = .ok (.invokevirtual 128, 3) := by decide +kernel
theorem dL_law_1138 : decode cL_law 1138 = .ok (.if_icmp .eq 38, 3) := by decide +kernel
theorem dL_law_1141 : decode cL_law 1141 = .ok (.iconst 0, 1) := by decide +kernel
theorem dL_law_1142 : decode cL_law 1142 = .ok (.ireturn, 1) := by decide +kernel
theorem dL_law_1143 : decode cL_law 1143 = .ok (.aload_n 1, 1) := by decide +kernel
theorem dL_law_1144 : decode cL_law 1144 = .ok (.aload_n 0, 1) := by decide +kernel
theorem dL_law_1145 : decode cL_law 1145 = .ok (.iload_n 3, 1) := by decide +kernel
theorem dL_law_1146 : decode cL_law 1146 = .ok (.iconst 1, 1) := by decide +kernel
theorem dL_law_1147 : decode cL_law 1147 = .ok (.iadd, 1) := by decide +kernel
theorem dL_law_1148 : decode cL_law 1148 = .ok (.iaload, 1) := by decide +kernel
theorem dL_law_1149 : decode cL_law 1149 = .ok (.aload_n 0, 1) := by decide +kernel
theorem dL_law_1150 : decode cL_law 1150 = .ok (.iload_n 3, 1) := by decide +kernel
theorem dL_law_1151 : decode cL_law 1151 = .ok (.iconst 2, 1) := by decide +kernel
theorem dL_law_1152 : decode cL_law 1152 = .ok (.iadd, 1) := by decide +kernel
theorem dL_law_1153 : decode cL_law 1153 = .ok (.iaload, 1) := by decide +kernel
theorem dL_law_1154 : decode cL_law 1154 = .ok (.invokevirtual 129, 3) := by decide +kernel
theorem dL_law_1157 : decode cL_law 1157 = .ok (.aload_n 2, 1) := by decide +kernel
theorem dL_law_1158 : decode cL_law 1158 = .ok (.aload_n 0, 1) := by decide +kernel
theorem dL_law_1159 : decode cL_law 1159 = .ok (.iload_n 3, 1) := by decide +kernel
theorem dL_law_1160 : decode cL_law 1160 = .ok (.iconst 1, 1) := by decide +kernel
theorem dL_law_1161 : decode cL_law 1161 = .ok (.iadd, 1) := by decide +kernel
theorem dL_law_1162 : decode cL_law 1162 = .ok (.iaload, 1) := by decide +kernel
theorem dL_law_1163 : decode cL_law 1163 = .ok (.aload_n 0, 1) := by decide +kernel
theorem dL_law_1164 : decode cL_law 1164 = .ok (.iload_n 3, 1) := by decide +kernel
theorem dL_law_1165 : decode cL_law 1165 = .ok (.iconst 2, 1) := by decide +kernel
theorem dL_law_1166 : decode cL_law 1166 = .ok (.iadd, 1) := by decide +kernel
theorem dL_law_1167 : decode cL_law 1167 = .ok (.iaload, 1) := by decide +kernel
theorem dL_law_1168 : decode cL_law 1168 = .ok (.invokevirtual 132, 3) := by decide +kernel
theorem dL_law_1171 : decode cL_law 1171 = .ok (.if_icmp .eq 5, 3) := by decide +kernel
theorem dL_law_1174 : decode cL_law 1174 = .ok (.iconst 0, 1) := by decide +kernel
theorem dL_law_1175 : decode cL_law 1175 = .ok (.ireturn, 1) := by decide +kernel
theorem dL_law_1176 : decode cL_law 1176 = .ok (.iinc 3 6, 3) := by decide +kernel
theorem dL_law_1179 : decode cL_law 1179 = .ok (.goto (-1161), 3) := by decide +kernel
theorem dL_law_1182 : decode cL_law 1182 = .ok (.iconst 1, 1) := by decide +kernel
theorem dL_law_1183 : decode cL_law 1183 = .ok (.ireturn, 1) := by decide +kernel
section SIM
variable {p : Program} {l : Launch} {e : Env} {s : State} {m : MethodId} {below : List Frame} {meth : Method} {c : Code} {D : va_G} {cA : Nat → ClassId} {ad : Nat → Nat} {bs d b : Nat} {H0 : Heap} {hf : aM} {E : Nat → List Value → aM → Option Value → aM → Prop} {X : aXt × Value}

set_option maxHeartbeats 4000000 in
set_option maxRecDepth 20000 in
theorem sm_L_law_0 (hC : aC p s m #[Value.ref b] c cL_law 4 RL D cA ad bs 0 H0 X) (hcap : hf.1.1 ≤ 600000 ∧ hf.1.2.1 ≤ 7302250 + 0) (hF : ∀ ml, ml ≤ 41 → aFit room_1 d ml) (hE : aCalls l D cA ad bs X d E) (hr : meth.sig.returnType = ret) (hlk : meth.locks = false) : aSims (fun f i => aSim p l e room_1 s m #[Value.ref b] below meth c (lw_Z below #[Value.ref b] s) 4 D cA ad bs 0 0 H0 (apc pc_L_law) (some (.int 1)) hf E f i) (cd_L_law_0 X) 0 := by
  unfold cd_L_law_0
  refine aSims_c (i := 0) (s_new hC dL_law_0 rfl rfl w_111 w_112 w_96 rfl rfl inB6 tyX6_ok okX6) ?_
  refine aSims_c (i := 1) (s_dup hC dL_law_3 rfl rfl) ?_
  refine aSims_c (i := 2) (s_callI (n := 0) hC dL_law_4 rfl rfl (hE 65 _ _ _ _ rfl) (hF _ (by decide)) w_115 w_113 w_114 w_96 rfl (by decide +kernel)) ?_
  refine aSims_c (i := 3) (s_astore_n hC dL_law_7 rfl rfl) ?_
  refine aSims_c (i := 4) (s_new hC dL_law_8 rfl rfl w_833 w_834 w_109 rfl rfl inB7 tyX7_ok okX7) ?_
  refine aSims_c (i := 5) (s_dup hC dL_law_11 rfl rfl) ?_
  refine aSims_c (i := 6) (s_callI (n := 0) hC dL_law_12 rfl rfl (hE 113 _ _ _ _ rfl) (hF _ (by decide)) w_837 w_835 w_836 w_109 rfl (by decide +kernel)) ?_
  refine aSims_c (i := 7) (s_astore_n hC dL_law_15 rfl rfl) ?_
  refine aSims_c (i := 8) (s_iconst hC dL_law_16 rfl rfl rfl) ?_
  refine aSims_c (i := 9) (s_istore_n hC dL_law_17 rfl rfl) ?_
  refine aSims_c (i := 10) (s_iload_n hC dL_law_18 rfl rfl) ?_
  refine aSims_c (i := 11) (s_aload_n hC dL_law_19 rfl rfl) ?_
  refine aSims_c (i := 12) (s_arraylength hC hXX dL_law_20 rfl rfl) ?_
  refine aSims_c (i := 13) (s_bipush hC dL_law_21 rfl rfl rfl) ?_
  refine aSims_c (i := 14) (s_isub hC dL_law_23 rfl rfl) ?_
  refine aSims_c (i := 15) (s_icmp_gt hC dL_law_24 rfl rfl rfl) ?_
  refine aSims_c (i := 16) (s_aload_n hC dL_law_27 rfl rfl) ?_
  refine aSims_c (i := 17) (s_iload_n hC dL_law_28 rfl rfl) ?_
  refine aSims_c (i := 18) (s_iaload hC hXX dL_law_29 rfl rfl) ?_
  refine aSims_c (i := 19) (s_bipush hC dL_law_30 rfl rfl rfl) ?_
  refine aSims_c (i := 20) (s_iand hC dL_law_32 rfl rfl) ?_
  refine aSims_c (i := 21) (s_switch hC dL_law_33 rfl rfl rfl rfl (aSw_in (by decide +kernel)) (fun j hj => anth_none hj)) ?_
  refine aSims_c (i := 22) (s_aload_n hC dL_law_160 rfl rfl) ?_
  refine aSims_c (i := 23) (s_aload_n hC dL_law_161 rfl rfl) ?_
  refine aSims_c (i := 24) (s_iload_n hC dL_law_162 rfl rfl) ?_
  refine aSims_c (i := 25) (s_iconst hC dL_law_163 rfl rfl rfl) ?_
  refine aSims_c (i := 26) (s_iadd hC dL_law_164 rfl rfl) ?_
  refine aSims_c (i := 27) (s_iaload hC hXX dL_law_165 rfl rfl) ?_
  refine aSims_c (i := 28) (s_aload_n hC dL_law_166 rfl rfl) ?_
  refine aSims_c (i := 29) (s_iload_n hC dL_law_167 rfl rfl) ?_
  refine aSims_c (i := 30) (s_iconst hC dL_law_168 rfl rfl rfl) ?_
  refine aSims_c (i := 31) (s_iadd hC dL_law_169 rfl rfl) ?_
  refine aSims_c (i := 32) (s_iaload hC hXX dL_law_170 rfl rfl) ?_
  refine aSims_c (i := 33) (s_aload_n hC dL_law_171 rfl rfl) ?_
  refine aSims_c (i := 34) (s_iload_n hC dL_law_172 rfl rfl) ?_
  refine aSims_c (i := 35) (s_iconst hC dL_law_173 rfl rfl rfl) ?_
  refine aSims_c (i := 36) (s_iadd hC dL_law_174 rfl rfl) ?_
  refine aSims_c (i := 37) (s_iaload hC hXX dL_law_175 rfl rfl) ?_
  refine aSims_c (i := 38) (s_callV (n := 3) hC dL_law_176 rfl rfl (hE 66 _ _ _ _ rfl) (hF _ (by decide)) w_478 w_475 w_476 w_477 w_96 rfl (by decide +kernel)) ?_
  refine aSims_c (i := 39) (s_aload_n hC dL_law_179 rfl rfl) ?_
  refine aSims_c (i := 40) (s_aload_n hC dL_law_180 rfl rfl) ?_
  refine aSims_c (i := 41) (s_iload_n hC dL_law_181 rfl rfl) ?_
  refine aSims_c (i := 42) (s_iconst hC dL_law_182 rfl rfl rfl) ?_
  refine aSims_c (i := 43) (s_iadd hC dL_law_183 rfl rfl) ?_
  refine aSims_c (i := 44) (s_iaload hC hXX dL_law_184 rfl rfl) ?_
  refine aSims_c (i := 45) (s_aload_n hC dL_law_185 rfl rfl) ?_
  refine aSims_c (i := 46) (s_iload_n hC dL_law_186 rfl rfl) ?_
  refine aSims_c (i := 47) (s_iconst hC dL_law_187 rfl rfl rfl) ?_
  refine aSims_c (i := 48) (s_iadd hC dL_law_188 rfl rfl) ?_
  refine aSims_c (i := 49) (s_iaload hC hXX dL_law_189 rfl rfl) ?_
  refine aSims_c (i := 50) (s_aload_n hC dL_law_190 rfl rfl) ?_
  refine aSims_c (i := 51) (s_iload_n hC dL_law_191 rfl rfl) ?_
  refine aSims_c (i := 52) (s_iconst hC dL_law_192 rfl rfl rfl) ?_
  refine aSims_c (i := 53) (s_iadd hC dL_law_193 rfl rfl) ?_
  refine aSims_c (i := 54) (s_iaload hC hXX dL_law_194 rfl rfl) ?_
  refine aSims_c (i := 55) (s_callV (n := 3) hC dL_law_195 rfl rfl (hE 120 _ _ _ _ rfl) (hF _ (by decide)) w_970 w_967 w_968 w_969 w_109 rfl (by decide +kernel)) ?_
  refine aSims_c (i := 56) (s_icmp_eq hC dL_law_198 rfl rfl rfl) ?_
  refine aSims_c (i := 57) (s_iconst hC dL_law_201 rfl rfl rfl) ?_
  refine aSims_c (i := 58) (s_lawret hC hcap dL_law_202 rfl hr hlk) ?_
  refine aSims_c (i := 59) (s_aload_n hC dL_law_203 rfl rfl) ?_
  refine aSims_c (i := 60) (s_aload_n hC dL_law_204 rfl rfl) ?_
  refine aSims_c (i := 61) (s_iload_n hC dL_law_205 rfl rfl) ?_
  refine aSims_c (i := 62) (s_iconst hC dL_law_206 rfl rfl rfl) ?_
  refine aSims_c (i := 63) (s_iadd hC dL_law_207 rfl rfl) ?_
  refine aSims_c (i := 64) (s_iaload hC hXX dL_law_208 rfl rfl) ?_
  refine aSims_c (i := 65) (s_aload_n hC dL_law_209 rfl rfl) ?_
  refine aSims_c (i := 66) (s_iload_n hC dL_law_210 rfl rfl) ?_
  refine aSims_c (i := 67) (s_iconst hC dL_law_211 rfl rfl rfl) ?_
  refine aSims_c (i := 68) (s_iadd hC dL_law_212 rfl rfl) ?_
  refine aSims_c (i := 69) (s_iaload hC hXX dL_law_213 rfl rfl) ?_
  refine aSims_c (i := 70) (s_callV (n := 2) hC dL_law_214 rfl rfl (hE 69 _ _ _ _ rfl) (hF _ (by decide)) w_509 w_506 w_507 w_508 w_96 rfl (by decide +kernel)) ?_
  refine aSims_c (i := 71) (s_aload_n hC dL_law_217 rfl rfl) ?_
  refine aSims_c (i := 72) (s_aload_n hC dL_law_218 rfl rfl) ?_
  refine aSims_c (i := 73) (s_iload_n hC dL_law_219 rfl rfl) ?_
  refine aSims_c (i := 74) (s_iconst hC dL_law_220 rfl rfl rfl) ?_
  refine aSims_c (i := 75) (s_iadd hC dL_law_221 rfl rfl) ?_
  refine aSims_c (i := 76) (s_iaload hC hXX dL_law_222 rfl rfl) ?_
  refine aSims_c (i := 77) (s_aload_n hC dL_law_223 rfl rfl) ?_
  refine aSims_c (i := 78) (s_iload_n hC dL_law_224 rfl rfl) ?_
  refine aSims_c (i := 79) (s_iconst hC dL_law_225 rfl rfl rfl) ?_
  refine aSims_c (i := 80) (s_iadd hC dL_law_226 rfl rfl) ?_
  refine aSims_c (i := 81) (s_iaload hC hXX dL_law_227 rfl rfl) ?_
  refine aSims_c (i := 82) (s_callV (n := 2) hC dL_law_228 rfl rfl (hE 122 _ _ _ _ rfl) (hF _ (by decide)) w_1221 w_1218 w_1219 w_1220 w_109 rfl (by decide +kernel)) ?_
  refine aSims_c (i := 83) (s_icmp_eq hC dL_law_231 rfl rfl rfl) ?_
  refine aSims_c (i := 84) (s_iconst hC dL_law_234 rfl rfl rfl) ?_
  refine aSims_c (i := 85) (s_lawret hC hcap dL_law_235 rfl hr hlk) ?_
  refine aSims_c (i := 86) (s_aload_n hC dL_law_236 rfl rfl) ?_
  refine aSims_c (i := 87) (s_aload_n hC dL_law_237 rfl rfl) ?_
  refine aSims_c (i := 88) (s_iload_n hC dL_law_238 rfl rfl) ?_
  refine aSims_c (i := 89) (s_iconst hC dL_law_239 rfl rfl rfl) ?_
  refine aSims_c (i := 90) (s_iadd hC dL_law_240 rfl rfl) ?_
  refine aSims_c (i := 91) (s_iaload hC hXX dL_law_241 rfl rfl) ?_
  refine aSims_c (i := 92) (s_aload_n hC dL_law_242 rfl rfl) ?_
  refine aSims_c (i := 93) (s_iload_n hC dL_law_243 rfl rfl) ?_
  refine aSims_c (i := 94) (s_iconst hC dL_law_244 rfl rfl rfl) ?_
  refine aSims_c (i := 95) (s_iadd hC dL_law_245 rfl rfl) ?_
  refine aSims_c (i := 96) (s_iaload hC hXX dL_law_246 rfl rfl) ?_
  refine aSims_c (i := 97) (s_callV (n := 2) hC dL_law_247 rfl rfl (hE 71 _ _ _ _ rfl) (hF _ (by decide)) w_522 w_519 w_520 w_521 w_96 rfl (by decide +kernel)) ?_
  refine aSims_c (i := 98) (s_aload_n hC dL_law_250 rfl rfl) ?_
  refine aSims_c (i := 99) (s_aload_n hC dL_law_251 rfl rfl) ?_
  exact aSims_n
set_option maxHeartbeats 4000000 in
set_option maxRecDepth 20000 in
theorem sm_L_law_1 (hC : aC p s m #[Value.ref b] c cL_law 4 RL D cA ad bs 0 H0 X) (hcap : hf.1.1 ≤ 600000 ∧ hf.1.2.1 ≤ 7302250 + 0) (hF : ∀ ml, ml ≤ 41 → aFit room_1 d ml) (hE : aCalls l D cA ad bs X d E) (hr : meth.sig.returnType = ret) (hlk : meth.locks = false) : aSims (fun f i => aSim p l e room_1 s m #[Value.ref b] below meth c (lw_Z below #[Value.ref b] s) 4 D cA ad bs 0 0 H0 (apc pc_L_law) (some (.int 1)) hf E f i) (cd_L_law_1 X) 100 := by
  unfold cd_L_law_1
  refine aSims_c (i := 100) (s_iload_n hC dL_law_252 rfl rfl) ?_
  refine aSims_c (i := 101) (s_iconst hC dL_law_253 rfl rfl rfl) ?_
  refine aSims_c (i := 102) (s_iadd hC dL_law_254 rfl rfl) ?_
  refine aSims_c (i := 103) (s_iaload hC hXX dL_law_255 rfl rfl) ?_
  refine aSims_c (i := 104) (s_aload_n hC dL_law_256 rfl rfl) ?_
  refine aSims_c (i := 105) (s_iload_n hC dL_law_257 rfl rfl) ?_
  refine aSims_c (i := 106) (s_iconst hC dL_law_258 rfl rfl rfl) ?_
  refine aSims_c (i := 107) (s_iadd hC dL_law_259 rfl rfl) ?_
  refine aSims_c (i := 108) (s_iaload hC hXX dL_law_260 rfl rfl) ?_
  refine aSims_c (i := 109) (s_callV (n := 2) hC dL_law_261 rfl rfl (hE 123 _ _ _ _ rfl) (hF _ (by decide)) w_995 w_1224 w_993 w_994 w_109 rfl (by decide +kernel)) ?_
  refine aSims_c (i := 110) (s_icmp_eq hC dL_law_264 rfl rfl rfl) ?_
  refine aSims_c (i := 111) (s_iconst hC dL_law_267 rfl rfl rfl) ?_
  refine aSims_c (i := 112) (s_lawret hC hcap dL_law_268 rfl hr hlk) ?_
  refine aSims_c (i := 113) (s_aload_n hC dL_law_269 rfl rfl) ?_
  refine aSims_c (i := 114) (s_aload_n hC dL_law_270 rfl rfl) ?_
  refine aSims_c (i := 115) (s_iload_n hC dL_law_271 rfl rfl) ?_
  refine aSims_c (i := 116) (s_iconst hC dL_law_272 rfl rfl rfl) ?_
  refine aSims_c (i := 117) (s_iadd hC dL_law_273 rfl rfl) ?_
  refine aSims_c (i := 118) (s_iaload hC hXX dL_law_274 rfl rfl) ?_
  refine aSims_c (i := 119) (s_aload_n hC dL_law_275 rfl rfl) ?_
  refine aSims_c (i := 120) (s_iload_n hC dL_law_276 rfl rfl) ?_
  refine aSims_c (i := 121) (s_iconst hC dL_law_277 rfl rfl rfl) ?_
  refine aSims_c (i := 122) (s_iadd hC dL_law_278 rfl rfl) ?_
  refine aSims_c (i := 123) (s_iaload hC hXX dL_law_279 rfl rfl) ?_
  refine aSims_c (i := 124) (s_aload_n hC dL_law_280 rfl rfl) ?_
  refine aSims_c (i := 125) (s_iload_n hC dL_law_281 rfl rfl) ?_
  refine aSims_c (i := 126) (s_iconst hC dL_law_282 rfl rfl rfl) ?_
  refine aSims_c (i := 127) (s_iadd hC dL_law_283 rfl rfl) ?_
  refine aSims_c (i := 128) (s_iaload hC hXX dL_law_284 rfl rfl) ?_
  refine aSims_c (i := 129) (s_callV (n := 3) hC dL_law_285 rfl rfl (hE 72 _ _ _ _ rfl) (hF _ (by decide)) w_571 w_568 w_569 w_570 w_96 rfl (by decide +kernel)) ?_
  refine aSims_c (i := 130) (s_aload_n hC dL_law_288 rfl rfl) ?_
  refine aSims_c (i := 131) (s_aload_n hC dL_law_289 rfl rfl) ?_
  refine aSims_c (i := 132) (s_iload_n hC dL_law_290 rfl rfl) ?_
  refine aSims_c (i := 133) (s_iconst hC dL_law_291 rfl rfl rfl) ?_
  refine aSims_c (i := 134) (s_iadd hC dL_law_292 rfl rfl) ?_
  refine aSims_c (i := 135) (s_iaload hC hXX dL_law_293 rfl rfl) ?_
  refine aSims_c (i := 136) (s_aload_n hC dL_law_294 rfl rfl) ?_
  refine aSims_c (i := 137) (s_iload_n hC dL_law_295 rfl rfl) ?_
  refine aSims_c (i := 138) (s_iconst hC dL_law_296 rfl rfl rfl) ?_
  refine aSims_c (i := 139) (s_iadd hC dL_law_297 rfl rfl) ?_
  refine aSims_c (i := 140) (s_iaload hC hXX dL_law_298 rfl rfl) ?_
  refine aSims_c (i := 141) (s_aload_n hC dL_law_299 rfl rfl) ?_
  refine aSims_c (i := 142) (s_iload_n hC dL_law_300 rfl rfl) ?_
  refine aSims_c (i := 143) (s_iconst hC dL_law_301 rfl rfl rfl) ?_
  refine aSims_c (i := 144) (s_iadd hC dL_law_302 rfl rfl) ?_
  refine aSims_c (i := 145) (s_iaload hC hXX dL_law_303 rfl rfl) ?_
  refine aSims_c (i := 146) (s_callV (n := 3) hC dL_law_304 rfl rfl (hE 180 _ _ _ _ rfl) (hF _ (by decide)) w_1241 w_1238 w_1239 w_1240 w_109 rfl (by decide +kernel)) ?_
  refine aSims_c (i := 147) (s_icmp_eq hC dL_law_307 rfl rfl rfl) ?_
  refine aSims_c (i := 148) (s_iconst hC dL_law_310 rfl rfl rfl) ?_
  refine aSims_c (i := 149) (s_lawret hC hcap dL_law_311 rfl hr hlk) ?_
  refine aSims_c (i := 150) (s_aload_n hC dL_law_312 rfl rfl) ?_
  refine aSims_c (i := 151) (s_aload_n hC dL_law_313 rfl rfl) ?_
  refine aSims_c (i := 152) (s_iload_n hC dL_law_314 rfl rfl) ?_
  refine aSims_c (i := 153) (s_iconst hC dL_law_315 rfl rfl rfl) ?_
  refine aSims_c (i := 154) (s_iadd hC dL_law_316 rfl rfl) ?_
  refine aSims_c (i := 155) (s_iaload hC hXX dL_law_317 rfl rfl) ?_
  refine aSims_c (i := 156) (s_callV (n := 1) hC dL_law_318 rfl rfl (hE 73 _ _ _ _ rfl) (hF _ (by decide)) w_593 w_590 w_591 w_592 w_96 rfl (by decide +kernel)) ?_
  refine aSims_c (i := 157) (s_aload_n hC dL_law_321 rfl rfl) ?_
  refine aSims_c (i := 158) (s_aload_n hC dL_law_322 rfl rfl) ?_
  refine aSims_c (i := 159) (s_iload_n hC dL_law_323 rfl rfl) ?_
  refine aSims_c (i := 160) (s_iconst hC dL_law_324 rfl rfl rfl) ?_
  refine aSims_c (i := 161) (s_iadd hC dL_law_325 rfl rfl) ?_
  refine aSims_c (i := 162) (s_iaload hC hXX dL_law_326 rfl rfl) ?_
  refine aSims_c (i := 163) (s_callV (n := 1) hC dL_law_327 rfl rfl (hE 124 _ _ _ _ rfl) (hF _ (by decide)) w_1228 w_1225 w_1226 w_1227 w_109 rfl (by decide +kernel)) ?_
  refine aSims_c (i := 164) (s_icmp_eq hC dL_law_330 rfl rfl rfl) ?_
  refine aSims_c (i := 165) (s_iconst hC dL_law_333 rfl rfl rfl) ?_
  refine aSims_c (i := 166) (s_lawret hC hcap dL_law_334 rfl hr hlk) ?_
  refine aSims_c (i := 167) (s_aload_n hC dL_law_335 rfl rfl) ?_
  refine aSims_c (i := 168) (s_callV (n := 0) hC dL_law_336 rfl rfl (hE 74 _ _ _ _ rfl) (hF _ (by decide)) w_597 w_594 w_595 w_596 w_96 rfl (by decide +kernel)) ?_
  refine aSims_c (i := 169) (s_aload_n hC dL_law_339 rfl rfl) ?_
  refine aSims_c (i := 170) (s_callV (n := 0) hC dL_law_340 rfl rfl (hE 171 _ _ _ _ rfl) (hF _ (by decide)) w_1233 w_1230 w_1231 w_1232 w_109 rfl (by decide +kernel)) ?_
  refine aSims_c (i := 171) (s_icmp_eq hC dL_law_343 rfl rfl rfl) ?_
  refine aSims_c (i := 172) (s_iconst hC dL_law_346 rfl rfl rfl) ?_
  refine aSims_c (i := 173) (s_lawret hC hcap dL_law_347 rfl hr hlk) ?_
  refine aSims_c (i := 174) (s_aload_n hC dL_law_348 rfl rfl) ?_
  refine aSims_c (i := 175) (s_aload_n hC dL_law_349 rfl rfl) ?_
  refine aSims_c (i := 176) (s_iload_n hC dL_law_350 rfl rfl) ?_
  refine aSims_c (i := 177) (s_iconst hC dL_law_351 rfl rfl rfl) ?_
  refine aSims_c (i := 178) (s_iadd hC dL_law_352 rfl rfl) ?_
  refine aSims_c (i := 179) (s_iaload hC hXX dL_law_353 rfl rfl) ?_
  refine aSims_c (i := 180) (s_callV (n := 1) hC dL_law_354 rfl rfl (hE 75 _ _ _ _ rfl) (hF _ (by decide)) w_601 w_598 w_599 w_600 w_96 rfl (by decide +kernel)) ?_
  refine aSims_c (i := 181) (s_aload_n hC dL_law_357 rfl rfl) ?_
  refine aSims_c (i := 182) (s_aload_n hC dL_law_358 rfl rfl) ?_
  refine aSims_c (i := 183) (s_iload_n hC dL_law_359 rfl rfl) ?_
  refine aSims_c (i := 184) (s_iconst hC dL_law_360 rfl rfl rfl) ?_
  refine aSims_c (i := 185) (s_iadd hC dL_law_361 rfl rfl) ?_
  refine aSims_c (i := 186) (s_iaload hC hXX dL_law_362 rfl rfl) ?_
  refine aSims_c (i := 187) (s_callV (n := 1) hC dL_law_363 rfl rfl (hE 172 _ _ _ _ rfl) (hF _ (by decide)) w_1237 w_1234 w_1235 w_1236 w_109 rfl (by decide +kernel)) ?_
  refine aSims_c (i := 188) (s_icmp_eq hC dL_law_366 rfl rfl rfl) ?_
  refine aSims_c (i := 189) (s_iconst hC dL_law_369 rfl rfl rfl) ?_
  refine aSims_c (i := 190) (s_lawret hC hcap dL_law_370 rfl hr hlk) ?_
  refine aSims_c (i := 191) (s_aload_n hC dL_law_371 rfl rfl) ?_
  refine aSims_c (i := 192) (s_aload_n hC dL_law_372 rfl rfl) ?_
  refine aSims_c (i := 193) (s_iload_n hC dL_law_373 rfl rfl) ?_
  refine aSims_c (i := 194) (s_iconst hC dL_law_374 rfl rfl rfl) ?_
  refine aSims_c (i := 195) (s_iadd hC dL_law_375 rfl rfl) ?_
  refine aSims_c (i := 196) (s_iaload hC hXX dL_law_376 rfl rfl) ?_
  refine aSims_c (i := 197) (s_aload_n hC dL_law_377 rfl rfl) ?_
  refine aSims_c (i := 198) (s_iload_n hC dL_law_378 rfl rfl) ?_
  refine aSims_c (i := 199) (s_iconst hC dL_law_379 rfl rfl rfl) ?_
  exact aSims_n
set_option maxHeartbeats 4000000 in
set_option maxRecDepth 20000 in
theorem sm_L_law_2 (hC : aC p s m #[Value.ref b] c cL_law 4 RL D cA ad bs 0 H0 X) (hcap : hf.1.1 ≤ 600000 ∧ hf.1.2.1 ≤ 7302250 + 0) (hF : ∀ ml, ml ≤ 41 → aFit room_1 d ml) (hE : aCalls l D cA ad bs X d E) (hr : meth.sig.returnType = ret) (hlk : meth.locks = false) : aSims (fun f i => aSim p l e room_1 s m #[Value.ref b] below meth c (lw_Z below #[Value.ref b] s) 4 D cA ad bs 0 0 H0 (apc pc_L_law) (some (.int 1)) hf E f i) (cd_L_law_2 X) 200 := by
  unfold cd_L_law_2
  refine aSims_c (i := 200) (s_iadd hC dL_law_380 rfl rfl) ?_
  refine aSims_c (i := 201) (s_iaload hC hXX dL_law_381 rfl rfl) ?_
  refine aSims_c (i := 202) (s_aload_n hC dL_law_382 rfl rfl) ?_
  refine aSims_c (i := 203) (s_iload_n hC dL_law_383 rfl rfl) ?_
  refine aSims_c (i := 204) (s_iconst hC dL_law_384 rfl rfl rfl) ?_
  refine aSims_c (i := 205) (s_iadd hC dL_law_385 rfl rfl) ?_
  refine aSims_c (i := 206) (s_iaload hC hXX dL_law_386 rfl rfl) ?_
  refine aSims_c (i := 207) (s_callV (n := 3) hC dL_law_387 rfl rfl (hE 76 _ _ _ _ rfl) (hF _ (by decide)) w_609 w_606 w_607 w_608 w_96 rfl (by decide +kernel)) ?_
  refine aSims_c (i := 208) (s_aload_n hC dL_law_390 rfl rfl) ?_
  refine aSims_c (i := 209) (s_aload_n hC dL_law_391 rfl rfl) ?_
  refine aSims_c (i := 210) (s_iload_n hC dL_law_392 rfl rfl) ?_
  refine aSims_c (i := 211) (s_iconst hC dL_law_393 rfl rfl rfl) ?_
  refine aSims_c (i := 212) (s_iadd hC dL_law_394 rfl rfl) ?_
  refine aSims_c (i := 213) (s_iaload hC hXX dL_law_395 rfl rfl) ?_
  refine aSims_c (i := 214) (s_aload_n hC dL_law_396 rfl rfl) ?_
  refine aSims_c (i := 215) (s_iload_n hC dL_law_397 rfl rfl) ?_
  refine aSims_c (i := 216) (s_iconst hC dL_law_398 rfl rfl rfl) ?_
  refine aSims_c (i := 217) (s_iadd hC dL_law_399 rfl rfl) ?_
  refine aSims_c (i := 218) (s_iaload hC hXX dL_law_400 rfl rfl) ?_
  refine aSims_c (i := 219) (s_aload_n hC dL_law_401 rfl rfl) ?_
  refine aSims_c (i := 220) (s_iload_n hC dL_law_402 rfl rfl) ?_
  refine aSims_c (i := 221) (s_iconst hC dL_law_403 rfl rfl rfl) ?_
  refine aSims_c (i := 222) (s_iadd hC dL_law_404 rfl rfl) ?_
  refine aSims_c (i := 223) (s_iaload hC hXX dL_law_405 rfl rfl) ?_
  refine aSims_c (i := 224) (s_callV (n := 3) hC dL_law_406 rfl rfl (hE 182 _ _ _ _ rfl) (hF _ (by decide)) w_1253 w_1250 w_1251 w_1252 w_109 rfl (by decide +kernel)) ?_
  refine aSims_c (i := 225) (s_icmp_eq hC dL_law_409 rfl rfl rfl) ?_
  refine aSims_c (i := 226) (s_iconst hC dL_law_412 rfl rfl rfl) ?_
  refine aSims_c (i := 227) (s_lawret hC hcap dL_law_413 rfl hr hlk) ?_
  refine aSims_c (i := 228) (s_aload_n hC dL_law_414 rfl rfl) ?_
  refine aSims_c (i := 229) (s_callV (n := 0) hC dL_law_415 rfl rfl (hE 77 _ _ _ _ rfl) (hF _ (by decide)) w_622 w_619 w_620 w_621 w_96 rfl (by decide +kernel)) ?_
  refine aSims_c (i := 230) (s_aload_n hC dL_law_418 rfl rfl) ?_
  refine aSims_c (i := 231) (s_callV (n := 0) hC dL_law_419 rfl rfl (hE 185 _ _ _ _ rfl) (hF _ (by decide)) w_1262 w_1259 w_1260 w_1261 w_109 rfl (by decide +kernel)) ?_
  refine aSims_c (i := 232) (s_icmp_eq hC dL_law_422 rfl rfl rfl) ?_
  refine aSims_c (i := 233) (s_iconst hC dL_law_425 rfl rfl rfl) ?_
  refine aSims_c (i := 234) (s_lawret hC hcap dL_law_426 rfl hr hlk) ?_
  refine aSims_c (i := 235) (s_aload_n hC dL_law_427 rfl rfl) ?_
  refine aSims_c (i := 236) (s_aload_n hC dL_law_428 rfl rfl) ?_
  refine aSims_c (i := 237) (s_iload_n hC dL_law_429 rfl rfl) ?_
  refine aSims_c (i := 238) (s_iconst hC dL_law_430 rfl rfl rfl) ?_
  refine aSims_c (i := 239) (s_iadd hC dL_law_431 rfl rfl) ?_
  refine aSims_c (i := 240) (s_iaload hC hXX dL_law_432 rfl rfl) ?_
  refine aSims_c (i := 241) (s_aload_n hC dL_law_433 rfl rfl) ?_
  refine aSims_c (i := 242) (s_iload_n hC dL_law_434 rfl rfl) ?_
  refine aSims_c (i := 243) (s_iconst hC dL_law_435 rfl rfl rfl) ?_
  refine aSims_c (i := 244) (s_iadd hC dL_law_436 rfl rfl) ?_
  refine aSims_c (i := 245) (s_iaload hC hXX dL_law_437 rfl rfl) ?_
  refine aSims_c (i := 246) (s_callV (n := 2) hC dL_law_438 rfl rfl (hE 79 _ _ _ _ rfl) (hF _ (by decide)) w_636 w_633 w_634 w_635 w_96 rfl (by decide +kernel)) ?_
  refine aSims_c (i := 247) (s_aload_n hC dL_law_441 rfl rfl) ?_
  refine aSims_c (i := 248) (s_aload_n hC dL_law_442 rfl rfl) ?_
  refine aSims_c (i := 249) (s_iload_n hC dL_law_443 rfl rfl) ?_
  refine aSims_c (i := 250) (s_iconst hC dL_law_444 rfl rfl rfl) ?_
  refine aSims_c (i := 251) (s_iadd hC dL_law_445 rfl rfl) ?_
  refine aSims_c (i := 252) (s_iaload hC hXX dL_law_446 rfl rfl) ?_
  refine aSims_c (i := 253) (s_aload_n hC dL_law_447 rfl rfl) ?_
  refine aSims_c (i := 254) (s_iload_n hC dL_law_448 rfl rfl) ?_
  refine aSims_c (i := 255) (s_iconst hC dL_law_449 rfl rfl rfl) ?_
  refine aSims_c (i := 256) (s_iadd hC dL_law_450 rfl rfl) ?_
  refine aSims_c (i := 257) (s_iaload hC hXX dL_law_451 rfl rfl) ?_
  refine aSims_c (i := 258) (s_callV (n := 2) hC dL_law_452 rfl rfl (hE 189 _ _ _ _ rfl) (hF _ (by decide)) w_1274 w_1271 w_1272 w_1273 w_109 rfl (by decide +kernel)) ?_
  refine aSims_c (i := 259) (s_icmp_eq hC dL_law_455 rfl rfl rfl) ?_
  refine aSims_c (i := 260) (s_iconst hC dL_law_458 rfl rfl rfl) ?_
  refine aSims_c (i := 261) (s_lawret hC hcap dL_law_459 rfl hr hlk) ?_
  refine aSims_c (i := 262) (s_aload_n hC dL_law_460 rfl rfl) ?_
  refine aSims_c (i := 263) (s_aload_n hC dL_law_461 rfl rfl) ?_
  refine aSims_c (i := 264) (s_iload_n hC dL_law_462 rfl rfl) ?_
  refine aSims_c (i := 265) (s_iconst hC dL_law_463 rfl rfl rfl) ?_
  refine aSims_c (i := 266) (s_iadd hC dL_law_464 rfl rfl) ?_
  refine aSims_c (i := 267) (s_iaload hC hXX dL_law_465 rfl rfl) ?_
  refine aSims_c (i := 268) (s_aload_n hC dL_law_466 rfl rfl) ?_
  refine aSims_c (i := 269) (s_iload_n hC dL_law_467 rfl rfl) ?_
  refine aSims_c (i := 270) (s_iconst hC dL_law_468 rfl rfl rfl) ?_
  refine aSims_c (i := 271) (s_iadd hC dL_law_469 rfl rfl) ?_
  refine aSims_c (i := 272) (s_iaload hC hXX dL_law_470 rfl rfl) ?_
  refine aSims_c (i := 273) (s_aload_n hC dL_law_471 rfl rfl) ?_
  refine aSims_c (i := 274) (s_iload_n hC dL_law_472 rfl rfl) ?_
  refine aSims_c (i := 275) (s_iconst hC dL_law_473 rfl rfl rfl) ?_
  refine aSims_c (i := 276) (s_iadd hC dL_law_474 rfl rfl) ?_
  refine aSims_c (i := 277) (s_iaload hC hXX dL_law_475 rfl rfl) ?_
  refine aSims_c (i := 278) (s_aload_n hC dL_law_476 rfl rfl) ?_
  refine aSims_c (i := 279) (s_iload_n hC dL_law_477 rfl rfl) ?_
  refine aSims_c (i := 280) (s_iconst hC dL_law_478 rfl rfl rfl) ?_
  refine aSims_c (i := 281) (s_iadd hC dL_law_479 rfl rfl) ?_
  refine aSims_c (i := 282) (s_iaload hC hXX dL_law_480 rfl rfl) ?_
  refine aSims_c (i := 283) (s_callV (n := 4) hC dL_law_481 rfl rfl (hE 80 _ _ _ _ rfl) (hF _ (by decide)) w_663 w_660 w_661 w_662 w_96 rfl (by decide +kernel)) ?_
  refine aSims_c (i := 284) (s_aload_n hC dL_law_484 rfl rfl) ?_
  refine aSims_c (i := 285) (s_aload_n hC dL_law_485 rfl rfl) ?_
  refine aSims_c (i := 286) (s_iload_n hC dL_law_486 rfl rfl) ?_
  refine aSims_c (i := 287) (s_iconst hC dL_law_487 rfl rfl rfl) ?_
  refine aSims_c (i := 288) (s_iadd hC dL_law_488 rfl rfl) ?_
  refine aSims_c (i := 289) (s_iaload hC hXX dL_law_489 rfl rfl) ?_
  refine aSims_c (i := 290) (s_aload_n hC dL_law_490 rfl rfl) ?_
  refine aSims_c (i := 291) (s_iload_n hC dL_law_491 rfl rfl) ?_
  refine aSims_c (i := 292) (s_iconst hC dL_law_492 rfl rfl rfl) ?_
  refine aSims_c (i := 293) (s_iadd hC dL_law_493 rfl rfl) ?_
  refine aSims_c (i := 294) (s_iaload hC hXX dL_law_494 rfl rfl) ?_
  refine aSims_c (i := 295) (s_aload_n hC dL_law_495 rfl rfl) ?_
  refine aSims_c (i := 296) (s_iload_n hC dL_law_496 rfl rfl) ?_
  refine aSims_c (i := 297) (s_iconst hC dL_law_497 rfl rfl rfl) ?_
  refine aSims_c (i := 298) (s_iadd hC dL_law_498 rfl rfl) ?_
  refine aSims_c (i := 299) (s_iaload hC hXX dL_law_499 rfl rfl) ?_
  exact aSims_n
set_option maxHeartbeats 4000000 in
set_option maxRecDepth 20000 in
theorem sm_L_law_3 (hC : aC p s m #[Value.ref b] c cL_law 4 RL D cA ad bs 0 H0 X) (hcap : hf.1.1 ≤ 600000 ∧ hf.1.2.1 ≤ 7302250 + 0) (hF : ∀ ml, ml ≤ 41 → aFit room_1 d ml) (hE : aCalls l D cA ad bs X d E) (hr : meth.sig.returnType = ret) (hlk : meth.locks = false) : aSims (fun f i => aSim p l e room_1 s m #[Value.ref b] below meth c (lw_Z below #[Value.ref b] s) 4 D cA ad bs 0 0 H0 (apc pc_L_law) (some (.int 1)) hf E f i) (cd_L_law_3 X) 300 := by
  unfold cd_L_law_3
  refine aSims_c (i := 300) (s_aload_n hC dL_law_500 rfl rfl) ?_
  refine aSims_c (i := 301) (s_iload_n hC dL_law_501 rfl rfl) ?_
  refine aSims_c (i := 302) (s_iconst hC dL_law_502 rfl rfl rfl) ?_
  refine aSims_c (i := 303) (s_iadd hC dL_law_503 rfl rfl) ?_
  refine aSims_c (i := 304) (s_iaload hC hXX dL_law_504 rfl rfl) ?_
  refine aSims_c (i := 305) (s_callV (n := 4) hC dL_law_505 rfl rfl (hE 190 _ _ _ _ rfl) (hF _ (by decide)) w_1290 w_1287 w_1288 w_1289 w_109 rfl (by decide +kernel)) ?_
  refine aSims_c (i := 306) (s_icmp_eq hC dL_law_508 rfl rfl rfl) ?_
  refine aSims_c (i := 307) (s_iconst hC dL_law_511 rfl rfl rfl) ?_
  refine aSims_c (i := 308) (s_lawret hC hcap dL_law_512 rfl hr hlk) ?_
  refine aSims_c (i := 309) (s_aload_n hC dL_law_513 rfl rfl) ?_
  refine aSims_c (i := 310) (s_aload_n hC dL_law_514 rfl rfl) ?_
  refine aSims_c (i := 311) (s_iload_n hC dL_law_515 rfl rfl) ?_
  refine aSims_c (i := 312) (s_iconst hC dL_law_516 rfl rfl rfl) ?_
  refine aSims_c (i := 313) (s_iadd hC dL_law_517 rfl rfl) ?_
  refine aSims_c (i := 314) (s_iaload hC hXX dL_law_518 rfl rfl) ?_
  refine aSims_c (i := 315) (s_aload_n hC dL_law_519 rfl rfl) ?_
  refine aSims_c (i := 316) (s_iload_n hC dL_law_520 rfl rfl) ?_
  refine aSims_c (i := 317) (s_iconst hC dL_law_521 rfl rfl rfl) ?_
  refine aSims_c (i := 318) (s_iadd hC dL_law_522 rfl rfl) ?_
  refine aSims_c (i := 319) (s_iaload hC hXX dL_law_523 rfl rfl) ?_
  refine aSims_c (i := 320) (s_aload_n hC dL_law_524 rfl rfl) ?_
  refine aSims_c (i := 321) (s_iload_n hC dL_law_525 rfl rfl) ?_
  refine aSims_c (i := 322) (s_iconst hC dL_law_526 rfl rfl rfl) ?_
  refine aSims_c (i := 323) (s_iadd hC dL_law_527 rfl rfl) ?_
  refine aSims_c (i := 324) (s_iaload hC hXX dL_law_528 rfl rfl) ?_
  refine aSims_c (i := 325) (s_callV (n := 3) hC dL_law_529 rfl rfl (hE 81 _ _ _ _ rfl) (hF _ (by decide)) w_677 w_674 w_675 w_676 w_96 rfl (by decide +kernel)) ?_
  refine aSims_c (i := 326) (s_aload_n hC dL_law_532 rfl rfl) ?_
  refine aSims_c (i := 327) (s_aload_n hC dL_law_533 rfl rfl) ?_
  refine aSims_c (i := 328) (s_iload_n hC dL_law_534 rfl rfl) ?_
  refine aSims_c (i := 329) (s_iconst hC dL_law_535 rfl rfl rfl) ?_
  refine aSims_c (i := 330) (s_iadd hC dL_law_536 rfl rfl) ?_
  refine aSims_c (i := 331) (s_iaload hC hXX dL_law_537 rfl rfl) ?_
  refine aSims_c (i := 332) (s_aload_n hC dL_law_538 rfl rfl) ?_
  refine aSims_c (i := 333) (s_iload_n hC dL_law_539 rfl rfl) ?_
  refine aSims_c (i := 334) (s_iconst hC dL_law_540 rfl rfl rfl) ?_
  refine aSims_c (i := 335) (s_iadd hC dL_law_541 rfl rfl) ?_
  refine aSims_c (i := 336) (s_iaload hC hXX dL_law_542 rfl rfl) ?_
  refine aSims_c (i := 337) (s_aload_n hC dL_law_543 rfl rfl) ?_
  refine aSims_c (i := 338) (s_iload_n hC dL_law_544 rfl rfl) ?_
  refine aSims_c (i := 339) (s_iconst hC dL_law_545 rfl rfl rfl) ?_
  refine aSims_c (i := 340) (s_iadd hC dL_law_546 rfl rfl) ?_
  refine aSims_c (i := 341) (s_iaload hC hXX dL_law_547 rfl rfl) ?_
  refine aSims_c (i := 342) (s_callV (n := 3) hC dL_law_548 rfl rfl (hE 192 _ _ _ _ rfl) (hF _ (by decide)) w_1295 w_1292 w_1293 w_1294 w_109 rfl (by decide +kernel)) ?_
  refine aSims_c (i := 343) (s_icmp_eq hC dL_law_551 rfl rfl rfl) ?_
  refine aSims_c (i := 344) (s_iconst hC dL_law_554 rfl rfl rfl) ?_
  refine aSims_c (i := 345) (s_lawret hC hcap dL_law_555 rfl hr hlk) ?_
  refine aSims_c (i := 346) (s_aload_n hC dL_law_556 rfl rfl) ?_
  refine aSims_c (i := 347) (s_aload_n hC dL_law_557 rfl rfl) ?_
  refine aSims_c (i := 348) (s_iload_n hC dL_law_558 rfl rfl) ?_
  refine aSims_c (i := 349) (s_iconst hC dL_law_559 rfl rfl rfl) ?_
  refine aSims_c (i := 350) (s_iadd hC dL_law_560 rfl rfl) ?_
  refine aSims_c (i := 351) (s_iaload hC hXX dL_law_561 rfl rfl) ?_
  refine aSims_c (i := 352) (s_aload_n hC dL_law_562 rfl rfl) ?_
  refine aSims_c (i := 353) (s_iload_n hC dL_law_563 rfl rfl) ?_
  refine aSims_c (i := 354) (s_iconst hC dL_law_564 rfl rfl rfl) ?_
  refine aSims_c (i := 355) (s_iadd hC dL_law_565 rfl rfl) ?_
  refine aSims_c (i := 356) (s_iaload hC hXX dL_law_566 rfl rfl) ?_
  refine aSims_c (i := 357) (s_callV (n := 2) hC dL_law_567 rfl rfl (hE 82 _ _ _ _ rfl) (hF _ (by decide)) w_695 w_692 w_693 w_694 w_96 rfl (by decide +kernel)) ?_
  refine aSims_c (i := 358) (s_aload_n hC dL_law_570 rfl rfl) ?_
  refine aSims_c (i := 359) (s_aload_n hC dL_law_571 rfl rfl) ?_
  refine aSims_c (i := 360) (s_iload_n hC dL_law_572 rfl rfl) ?_
  refine aSims_c (i := 361) (s_iconst hC dL_law_573 rfl rfl rfl) ?_
  refine aSims_c (i := 362) (s_iadd hC dL_law_574 rfl rfl) ?_
  refine aSims_c (i := 363) (s_iaload hC hXX dL_law_575 rfl rfl) ?_
  refine aSims_c (i := 364) (s_aload_n hC dL_law_576 rfl rfl) ?_
  refine aSims_c (i := 365) (s_iload_n hC dL_law_577 rfl rfl) ?_
  refine aSims_c (i := 366) (s_iconst hC dL_law_578 rfl rfl rfl) ?_
  refine aSims_c (i := 367) (s_iadd hC dL_law_579 rfl rfl) ?_
  refine aSims_c (i := 368) (s_iaload hC hXX dL_law_580 rfl rfl) ?_
  refine aSims_c (i := 369) (s_callV (n := 2) hC dL_law_581 rfl rfl (hE 193 _ _ _ _ rfl) (hF _ (by decide)) w_1303 w_1300 w_1301 w_1302 w_109 rfl (by decide +kernel)) ?_
  refine aSims_c (i := 370) (s_icmp_eq hC dL_law_584 rfl rfl rfl) ?_
  refine aSims_c (i := 371) (s_iconst hC dL_law_587 rfl rfl rfl) ?_
  refine aSims_c (i := 372) (s_lawret hC hcap dL_law_588 rfl hr hlk) ?_
  refine aSims_c (i := 373) (s_aload_n hC dL_law_589 rfl rfl) ?_
  refine aSims_c (i := 374) (s_aload_n hC dL_law_590 rfl rfl) ?_
  refine aSims_c (i := 375) (s_iload_n hC dL_law_591 rfl rfl) ?_
  refine aSims_c (i := 376) (s_iconst hC dL_law_592 rfl rfl rfl) ?_
  refine aSims_c (i := 377) (s_iadd hC dL_law_593 rfl rfl) ?_
  refine aSims_c (i := 378) (s_iaload hC hXX dL_law_594 rfl rfl) ?_
  refine aSims_c (i := 379) (s_aload_n hC dL_law_595 rfl rfl) ?_
  refine aSims_c (i := 380) (s_iload_n hC dL_law_596 rfl rfl) ?_
  refine aSims_c (i := 381) (s_iconst hC dL_law_597 rfl rfl rfl) ?_
  refine aSims_c (i := 382) (s_iadd hC dL_law_598 rfl rfl) ?_
  refine aSims_c (i := 383) (s_iaload hC hXX dL_law_599 rfl rfl) ?_
  refine aSims_c (i := 384) (s_callV (n := 2) hC dL_law_600 rfl rfl (hE 83 _ _ _ _ rfl) (hF _ (by decide)) w_704 w_701 w_702 w_703 w_96 rfl (by decide +kernel)) ?_
  refine aSims_c (i := 385) (s_aload_n hC dL_law_603 rfl rfl) ?_
  refine aSims_c (i := 386) (s_aload_n hC dL_law_604 rfl rfl) ?_
  refine aSims_c (i := 387) (s_iload_n hC dL_law_605 rfl rfl) ?_
  refine aSims_c (i := 388) (s_iconst hC dL_law_606 rfl rfl rfl) ?_
  refine aSims_c (i := 389) (s_iadd hC dL_law_607 rfl rfl) ?_
  refine aSims_c (i := 390) (s_iaload hC hXX dL_law_608 rfl rfl) ?_
  refine aSims_c (i := 391) (s_aload_n hC dL_law_609 rfl rfl) ?_
  refine aSims_c (i := 392) (s_iload_n hC dL_law_610 rfl rfl) ?_
  refine aSims_c (i := 393) (s_iconst hC dL_law_611 rfl rfl rfl) ?_
  refine aSims_c (i := 394) (s_iadd hC dL_law_612 rfl rfl) ?_
  refine aSims_c (i := 395) (s_iaload hC hXX dL_law_613 rfl rfl) ?_
  refine aSims_c (i := 396) (s_callV (n := 2) hC dL_law_614 rfl rfl (hE 194 _ _ _ _ rfl) (hF _ (by decide)) w_1307 w_1304 w_1305 w_1306 w_109 rfl (by decide +kernel)) ?_
  refine aSims_c (i := 397) (s_icmp_eq hC dL_law_617 rfl rfl rfl) ?_
  refine aSims_c (i := 398) (s_iconst hC dL_law_620 rfl rfl rfl) ?_
  refine aSims_c (i := 399) (s_lawret hC hcap dL_law_621 rfl hr hlk) ?_
  exact aSims_n
set_option maxHeartbeats 4000000 in
set_option maxRecDepth 20000 in
theorem sm_L_law_4 (hC : aC p s m #[Value.ref b] c cL_law 4 RL D cA ad bs 0 H0 X) (hcap : hf.1.1 ≤ 600000 ∧ hf.1.2.1 ≤ 7302250 + 0) (hF : ∀ ml, ml ≤ 41 → aFit room_1 d ml) (hE : aCalls l D cA ad bs X d E) (hr : meth.sig.returnType = ret) (hlk : meth.locks = false) : aSims (fun f i => aSim p l e room_1 s m #[Value.ref b] below meth c (lw_Z below #[Value.ref b] s) 4 D cA ad bs 0 0 H0 (apc pc_L_law) (some (.int 1)) hf E f i) (cd_L_law_4 X) 400 := by
  unfold cd_L_law_4
  refine aSims_c (i := 400) (s_aload_n hC dL_law_622 rfl rfl) ?_
  refine aSims_c (i := 401) (s_aload_n hC dL_law_623 rfl rfl) ?_
  refine aSims_c (i := 402) (s_iload_n hC dL_law_624 rfl rfl) ?_
  refine aSims_c (i := 403) (s_iconst hC dL_law_625 rfl rfl rfl) ?_
  refine aSims_c (i := 404) (s_iadd hC dL_law_626 rfl rfl) ?_
  refine aSims_c (i := 405) (s_iaload hC hXX dL_law_627 rfl rfl) ?_
  refine aSims_c (i := 406) (s_aload_n hC dL_law_628 rfl rfl) ?_
  refine aSims_c (i := 407) (s_iload_n hC dL_law_629 rfl rfl) ?_
  refine aSims_c (i := 408) (s_iconst hC dL_law_630 rfl rfl rfl) ?_
  refine aSims_c (i := 409) (s_iadd hC dL_law_631 rfl rfl) ?_
  refine aSims_c (i := 410) (s_iaload hC hXX dL_law_632 rfl rfl) ?_
  refine aSims_c (i := 411) (s_callV (n := 2) hC dL_law_633 rfl rfl (hE 84 _ _ _ _ rfl) (hF _ (by decide)) w_712 w_709 w_710 w_711 w_96 rfl (by decide +kernel)) ?_
  refine aSims_c (i := 412) (s_aload_n hC dL_law_636 rfl rfl) ?_
  refine aSims_c (i := 413) (s_aload_n hC dL_law_637 rfl rfl) ?_
  refine aSims_c (i := 414) (s_iload_n hC dL_law_638 rfl rfl) ?_
  refine aSims_c (i := 415) (s_iconst hC dL_law_639 rfl rfl rfl) ?_
  refine aSims_c (i := 416) (s_iadd hC dL_law_640 rfl rfl) ?_
  refine aSims_c (i := 417) (s_iaload hC hXX dL_law_641 rfl rfl) ?_
  refine aSims_c (i := 418) (s_aload_n hC dL_law_642 rfl rfl) ?_
  refine aSims_c (i := 419) (s_iload_n hC dL_law_643 rfl rfl) ?_
  refine aSims_c (i := 420) (s_iconst hC dL_law_644 rfl rfl rfl) ?_
  refine aSims_c (i := 421) (s_iadd hC dL_law_645 rfl rfl) ?_
  refine aSims_c (i := 422) (s_iaload hC hXX dL_law_646 rfl rfl) ?_
  refine aSims_c (i := 423) (s_callV (n := 2) hC dL_law_647 rfl rfl (hE 195 _ _ _ _ rfl) (hF _ (by decide)) w_1311 w_1308 w_1309 w_1310 w_109 rfl (by decide +kernel)) ?_
  refine aSims_c (i := 424) (s_icmp_eq hC dL_law_650 rfl rfl rfl) ?_
  refine aSims_c (i := 425) (s_iconst hC dL_law_653 rfl rfl rfl) ?_
  refine aSims_c (i := 426) (s_lawret hC hcap dL_law_654 rfl hr hlk) ?_
  refine aSims_c (i := 427) (s_aload_n hC dL_law_655 rfl rfl) ?_
  refine aSims_c (i := 428) (s_aload_n hC dL_law_656 rfl rfl) ?_
  refine aSims_c (i := 429) (s_iload_n hC dL_law_657 rfl rfl) ?_
  refine aSims_c (i := 430) (s_iconst hC dL_law_658 rfl rfl rfl) ?_
  refine aSims_c (i := 431) (s_iadd hC dL_law_659 rfl rfl) ?_
  refine aSims_c (i := 432) (s_iaload hC hXX dL_law_660 rfl rfl) ?_
  refine aSims_c (i := 433) (s_aload_n hC dL_law_661 rfl rfl) ?_
  refine aSims_c (i := 434) (s_iload_n hC dL_law_662 rfl rfl) ?_
  refine aSims_c (i := 435) (s_iconst hC dL_law_663 rfl rfl rfl) ?_
  refine aSims_c (i := 436) (s_iadd hC dL_law_664 rfl rfl) ?_
  refine aSims_c (i := 437) (s_iaload hC hXX dL_law_665 rfl rfl) ?_
  refine aSims_c (i := 438) (s_aload_n hC dL_law_666 rfl rfl) ?_
  refine aSims_c (i := 439) (s_iload_n hC dL_law_667 rfl rfl) ?_
  refine aSims_c (i := 440) (s_iconst hC dL_law_668 rfl rfl rfl) ?_
  refine aSims_c (i := 441) (s_iadd hC dL_law_669 rfl rfl) ?_
  refine aSims_c (i := 442) (s_iaload hC hXX dL_law_670 rfl rfl) ?_
  refine aSims_c (i := 443) (s_callV (n := 3) hC dL_law_671 rfl rfl (hE 85 _ _ _ _ rfl) (hF _ (by decide)) w_720 w_717 w_718 w_719 w_96 rfl (by decide +kernel)) ?_
  refine aSims_c (i := 444) (s_aload_n hC dL_law_674 rfl rfl) ?_
  refine aSims_c (i := 445) (s_aload_n hC dL_law_675 rfl rfl) ?_
  refine aSims_c (i := 446) (s_iload_n hC dL_law_676 rfl rfl) ?_
  refine aSims_c (i := 447) (s_iconst hC dL_law_677 rfl rfl rfl) ?_
  refine aSims_c (i := 448) (s_iadd hC dL_law_678 rfl rfl) ?_
  refine aSims_c (i := 449) (s_iaload hC hXX dL_law_679 rfl rfl) ?_
  refine aSims_c (i := 450) (s_aload_n hC dL_law_680 rfl rfl) ?_
  refine aSims_c (i := 451) (s_iload_n hC dL_law_681 rfl rfl) ?_
  refine aSims_c (i := 452) (s_iconst hC dL_law_682 rfl rfl rfl) ?_
  refine aSims_c (i := 453) (s_iadd hC dL_law_683 rfl rfl) ?_
  refine aSims_c (i := 454) (s_iaload hC hXX dL_law_684 rfl rfl) ?_
  refine aSims_c (i := 455) (s_aload_n hC dL_law_685 rfl rfl) ?_
  refine aSims_c (i := 456) (s_iload_n hC dL_law_686 rfl rfl) ?_
  refine aSims_c (i := 457) (s_iconst hC dL_law_687 rfl rfl rfl) ?_
  refine aSims_c (i := 458) (s_iadd hC dL_law_688 rfl rfl) ?_
  refine aSims_c (i := 459) (s_iaload hC hXX dL_law_689 rfl rfl) ?_
  refine aSims_c (i := 460) (s_callV (n := 3) hC dL_law_690 rfl rfl (hE 197 _ _ _ _ rfl) (hF _ (by decide)) w_1316 w_1313 w_1314 w_1315 w_109 rfl (by decide +kernel)) ?_
  refine aSims_c (i := 461) (s_lcmp hC dL_law_693 rfl rfl) ?_
  refine aSims_c (i := 462) (s_if_eq hC dL_law_694 rfl rfl rfl) ?_
  refine aSims_c (i := 463) (s_iconst hC dL_law_697 rfl rfl rfl) ?_
  refine aSims_c (i := 464) (s_lawret hC hcap dL_law_698 rfl hr hlk) ?_
  refine aSims_c (i := 465) (s_aload_n hC dL_law_699 rfl rfl) ?_
  refine aSims_c (i := 466) (s_aload_n hC dL_law_700 rfl rfl) ?_
  refine aSims_c (i := 467) (s_iload_n hC dL_law_701 rfl rfl) ?_
  refine aSims_c (i := 468) (s_iconst hC dL_law_702 rfl rfl rfl) ?_
  refine aSims_c (i := 469) (s_iadd hC dL_law_703 rfl rfl) ?_
  refine aSims_c (i := 470) (s_iaload hC hXX dL_law_704 rfl rfl) ?_
  refine aSims_c (i := 471) (s_aload_n hC dL_law_705 rfl rfl) ?_
  refine aSims_c (i := 472) (s_iload_n hC dL_law_706 rfl rfl) ?_
  refine aSims_c (i := 473) (s_iconst hC dL_law_707 rfl rfl rfl) ?_
  refine aSims_c (i := 474) (s_iadd hC dL_law_708 rfl rfl) ?_
  refine aSims_c (i := 475) (s_iaload hC hXX dL_law_709 rfl rfl) ?_
  refine aSims_c (i := 476) (s_aload_n hC dL_law_710 rfl rfl) ?_
  refine aSims_c (i := 477) (s_iload_n hC dL_law_711 rfl rfl) ?_
  refine aSims_c (i := 478) (s_iconst hC dL_law_712 rfl rfl rfl) ?_
  refine aSims_c (i := 479) (s_iadd hC dL_law_713 rfl rfl) ?_
  refine aSims_c (i := 480) (s_iaload hC hXX dL_law_714 rfl rfl) ?_
  refine aSims_c (i := 481) (s_aload_n hC dL_law_715 rfl rfl) ?_
  refine aSims_c (i := 482) (s_iload_n hC dL_law_716 rfl rfl) ?_
  refine aSims_c (i := 483) (s_iconst hC dL_law_717 rfl rfl rfl) ?_
  refine aSims_c (i := 484) (s_iadd hC dL_law_718 rfl rfl) ?_
  refine aSims_c (i := 485) (s_iaload hC hXX dL_law_719 rfl rfl) ?_
  refine aSims_c (i := 486) (s_callV (n := 4) hC dL_law_720 rfl rfl (hE 86 _ _ _ _ rfl) (hF _ (by decide)) w_729 w_726 w_727 w_728 w_96 rfl (by decide +kernel)) ?_
  refine aSims_c (i := 487) (s_aload_n hC dL_law_723 rfl rfl) ?_
  refine aSims_c (i := 488) (s_aload_n hC dL_law_724 rfl rfl) ?_
  refine aSims_c (i := 489) (s_iload_n hC dL_law_725 rfl rfl) ?_
  refine aSims_c (i := 490) (s_iconst hC dL_law_726 rfl rfl rfl) ?_
  refine aSims_c (i := 491) (s_iadd hC dL_law_727 rfl rfl) ?_
  refine aSims_c (i := 492) (s_iaload hC hXX dL_law_728 rfl rfl) ?_
  refine aSims_c (i := 493) (s_aload_n hC dL_law_729 rfl rfl) ?_
  refine aSims_c (i := 494) (s_iload_n hC dL_law_730 rfl rfl) ?_
  refine aSims_c (i := 495) (s_iconst hC dL_law_731 rfl rfl rfl) ?_
  refine aSims_c (i := 496) (s_iadd hC dL_law_732 rfl rfl) ?_
  refine aSims_c (i := 497) (s_iaload hC hXX dL_law_733 rfl rfl) ?_
  refine aSims_c (i := 498) (s_aload_n hC dL_law_734 rfl rfl) ?_
  refine aSims_c (i := 499) (s_iload_n hC dL_law_735 rfl rfl) ?_
  exact aSims_n
set_option maxHeartbeats 4000000 in
set_option maxRecDepth 20000 in
theorem sm_L_law_5 (hC : aC p s m #[Value.ref b] c cL_law 4 RL D cA ad bs 0 H0 X) (hcap : hf.1.1 ≤ 600000 ∧ hf.1.2.1 ≤ 7302250 + 0) (hF : ∀ ml, ml ≤ 41 → aFit room_1 d ml) (hE : aCalls l D cA ad bs X d E) (hr : meth.sig.returnType = ret) (hlk : meth.locks = false) : aSims (fun f i => aSim p l e room_1 s m #[Value.ref b] below meth c (lw_Z below #[Value.ref b] s) 4 D cA ad bs 0 0 H0 (apc pc_L_law) (some (.int 1)) hf E f i) (cd_L_law_5 X) 500 := by
  unfold cd_L_law_5
  refine aSims_c (i := 500) (s_iconst hC dL_law_736 rfl rfl rfl) ?_
  refine aSims_c (i := 501) (s_iadd hC dL_law_737 rfl rfl) ?_
  refine aSims_c (i := 502) (s_iaload hC hXX dL_law_738 rfl rfl) ?_
  refine aSims_c (i := 503) (s_aload_n hC dL_law_739 rfl rfl) ?_
  refine aSims_c (i := 504) (s_iload_n hC dL_law_740 rfl rfl) ?_
  refine aSims_c (i := 505) (s_iconst hC dL_law_741 rfl rfl rfl) ?_
  refine aSims_c (i := 506) (s_iadd hC dL_law_742 rfl rfl) ?_
  refine aSims_c (i := 507) (s_iaload hC hXX dL_law_743 rfl rfl) ?_
  refine aSims_c (i := 508) (s_callV (n := 4) hC dL_law_744 rfl rfl (hE 201 _ _ _ _ rfl) (hF _ (by decide)) w_1325 w_1322 w_1323 w_1324 w_109 rfl (by decide +kernel)) ?_
  refine aSims_c (i := 509) (s_icmp_eq hC dL_law_747 rfl rfl rfl) ?_
  refine aSims_c (i := 510) (s_iconst hC dL_law_750 rfl rfl rfl) ?_
  refine aSims_c (i := 511) (s_lawret hC hcap dL_law_751 rfl hr hlk) ?_
  refine aSims_c (i := 512) (s_aload_n hC dL_law_752 rfl rfl) ?_
  refine aSims_c (i := 513) (s_aload_n hC dL_law_753 rfl rfl) ?_
  refine aSims_c (i := 514) (s_iload_n hC dL_law_754 rfl rfl) ?_
  refine aSims_c (i := 515) (s_iconst hC dL_law_755 rfl rfl rfl) ?_
  refine aSims_c (i := 516) (s_iadd hC dL_law_756 rfl rfl) ?_
  refine aSims_c (i := 517) (s_iaload hC hXX dL_law_757 rfl rfl) ?_
  refine aSims_c (i := 518) (s_aload_n hC dL_law_758 rfl rfl) ?_
  refine aSims_c (i := 519) (s_iload_n hC dL_law_759 rfl rfl) ?_
  refine aSims_c (i := 520) (s_iconst hC dL_law_760 rfl rfl rfl) ?_
  refine aSims_c (i := 521) (s_iadd hC dL_law_761 rfl rfl) ?_
  refine aSims_c (i := 522) (s_iaload hC hXX dL_law_762 rfl rfl) ?_
  refine aSims_c (i := 523) (s_aload_n hC dL_law_763 rfl rfl) ?_
  refine aSims_c (i := 524) (s_iload_n hC dL_law_764 rfl rfl) ?_
  refine aSims_c (i := 525) (s_iconst hC dL_law_765 rfl rfl rfl) ?_
  refine aSims_c (i := 526) (s_iadd hC dL_law_766 rfl rfl) ?_
  refine aSims_c (i := 527) (s_iaload hC hXX dL_law_767 rfl rfl) ?_
  refine aSims_c (i := 528) (s_aload_n hC dL_law_768 rfl rfl) ?_
  refine aSims_c (i := 529) (s_iload_n hC dL_law_769 rfl rfl) ?_
  refine aSims_c (i := 530) (s_iconst hC dL_law_770 rfl rfl rfl) ?_
  refine aSims_c (i := 531) (s_iadd hC dL_law_771 rfl rfl) ?_
  refine aSims_c (i := 532) (s_iaload hC hXX dL_law_772 rfl rfl) ?_
  refine aSims_c (i := 533) (s_callV (n := 4) hC dL_law_773 rfl rfl (hE 89 _ _ _ _ rfl) (hF _ (by decide)) w_753 w_750 w_751 w_752 w_96 rfl (by decide +kernel)) ?_
  refine aSims_c (i := 534) (s_aload_n hC dL_law_776 rfl rfl) ?_
  refine aSims_c (i := 535) (s_aload_n hC dL_law_777 rfl rfl) ?_
  refine aSims_c (i := 536) (s_iload_n hC dL_law_778 rfl rfl) ?_
  refine aSims_c (i := 537) (s_iconst hC dL_law_779 rfl rfl rfl) ?_
  refine aSims_c (i := 538) (s_iadd hC dL_law_780 rfl rfl) ?_
  refine aSims_c (i := 539) (s_iaload hC hXX dL_law_781 rfl rfl) ?_
  refine aSims_c (i := 540) (s_aload_n hC dL_law_782 rfl rfl) ?_
  refine aSims_c (i := 541) (s_iload_n hC dL_law_783 rfl rfl) ?_
  refine aSims_c (i := 542) (s_iconst hC dL_law_784 rfl rfl rfl) ?_
  refine aSims_c (i := 543) (s_iadd hC dL_law_785 rfl rfl) ?_
  refine aSims_c (i := 544) (s_iaload hC hXX dL_law_786 rfl rfl) ?_
  refine aSims_c (i := 545) (s_aload_n hC dL_law_787 rfl rfl) ?_
  refine aSims_c (i := 546) (s_iload_n hC dL_law_788 rfl rfl) ?_
  refine aSims_c (i := 547) (s_iconst hC dL_law_789 rfl rfl rfl) ?_
  refine aSims_c (i := 548) (s_iadd hC dL_law_790 rfl rfl) ?_
  refine aSims_c (i := 549) (s_iaload hC hXX dL_law_791 rfl rfl) ?_
  refine aSims_c (i := 550) (s_aload_n hC dL_law_792 rfl rfl) ?_
  refine aSims_c (i := 551) (s_iload_n hC dL_law_793 rfl rfl) ?_
  refine aSims_c (i := 552) (s_iconst hC dL_law_794 rfl rfl rfl) ?_
  refine aSims_c (i := 553) (s_iadd hC dL_law_795 rfl rfl) ?_
  refine aSims_c (i := 554) (s_iaload hC hXX dL_law_796 rfl rfl) ?_
  refine aSims_c (i := 555) (s_callV (n := 4) hC dL_law_797 rfl rfl (hE 202 _ _ _ _ rfl) (hF _ (by decide)) w_1345 w_1342 w_1343 w_1344 w_109 rfl (by decide +kernel)) ?_
  refine aSims_c (i := 556) (s_icmp_eq hC dL_law_800 rfl rfl rfl) ?_
  refine aSims_c (i := 557) (s_iconst hC dL_law_803 rfl rfl rfl) ?_
  refine aSims_c (i := 558) (s_lawret hC hcap dL_law_804 rfl hr hlk) ?_
  refine aSims_c (i := 559) (s_aload_n hC dL_law_805 rfl rfl) ?_
  refine aSims_c (i := 560) (s_aload_n hC dL_law_806 rfl rfl) ?_
  refine aSims_c (i := 561) (s_iload_n hC dL_law_807 rfl rfl) ?_
  refine aSims_c (i := 562) (s_iconst hC dL_law_808 rfl rfl rfl) ?_
  refine aSims_c (i := 563) (s_iadd hC dL_law_809 rfl rfl) ?_
  refine aSims_c (i := 564) (s_iaload hC hXX dL_law_810 rfl rfl) ?_
  refine aSims_c (i := 565) (s_aload_n hC dL_law_811 rfl rfl) ?_
  refine aSims_c (i := 566) (s_iload_n hC dL_law_812 rfl rfl) ?_
  refine aSims_c (i := 567) (s_iconst hC dL_law_813 rfl rfl rfl) ?_
  refine aSims_c (i := 568) (s_iadd hC dL_law_814 rfl rfl) ?_
  refine aSims_c (i := 569) (s_iaload hC hXX dL_law_815 rfl rfl) ?_
  refine aSims_c (i := 570) (s_callV (n := 2) hC dL_law_816 rfl rfl (hE 90 _ _ _ _ rfl) (hF _ (by decide)) w_771 w_768 w_769 w_770 w_96 rfl (by decide +kernel)) ?_
  refine aSims_c (i := 571) (s_aload_n hC dL_law_819 rfl rfl) ?_
  refine aSims_c (i := 572) (s_aload_n hC dL_law_820 rfl rfl) ?_
  refine aSims_c (i := 573) (s_iload_n hC dL_law_821 rfl rfl) ?_
  refine aSims_c (i := 574) (s_iconst hC dL_law_822 rfl rfl rfl) ?_
  refine aSims_c (i := 575) (s_iadd hC dL_law_823 rfl rfl) ?_
  refine aSims_c (i := 576) (s_iaload hC hXX dL_law_824 rfl rfl) ?_
  refine aSims_c (i := 577) (s_aload_n hC dL_law_825 rfl rfl) ?_
  refine aSims_c (i := 578) (s_iload_n hC dL_law_826 rfl rfl) ?_
  refine aSims_c (i := 579) (s_iconst hC dL_law_827 rfl rfl rfl) ?_
  refine aSims_c (i := 580) (s_iadd hC dL_law_828 rfl rfl) ?_
  refine aSims_c (i := 581) (s_iaload hC hXX dL_law_829 rfl rfl) ?_
  refine aSims_c (i := 582) (s_callV (n := 2) hC dL_law_830 rfl rfl (hE 204 _ _ _ _ rfl) (hF _ (by decide)) w_1354 w_1351 w_1352 w_1353 w_109 rfl (by decide +kernel)) ?_
  refine aSims_c (i := 583) (s_icmp_eq hC dL_law_833 rfl rfl rfl) ?_
  refine aSims_c (i := 584) (s_iconst hC dL_law_836 rfl rfl rfl) ?_
  refine aSims_c (i := 585) (s_lawret hC hcap dL_law_837 rfl hr hlk) ?_
  refine aSims_c (i := 586) (s_aload_n hC dL_law_838 rfl rfl) ?_
  refine aSims_c (i := 587) (s_aload_n hC dL_law_839 rfl rfl) ?_
  refine aSims_c (i := 588) (s_iload_n hC dL_law_840 rfl rfl) ?_
  refine aSims_c (i := 589) (s_iconst hC dL_law_841 rfl rfl rfl) ?_
  refine aSims_c (i := 590) (s_iadd hC dL_law_842 rfl rfl) ?_
  refine aSims_c (i := 591) (s_iaload hC hXX dL_law_843 rfl rfl) ?_
  refine aSims_c (i := 592) (s_aload_n hC dL_law_844 rfl rfl) ?_
  refine aSims_c (i := 593) (s_iload_n hC dL_law_845 rfl rfl) ?_
  refine aSims_c (i := 594) (s_iconst hC dL_law_846 rfl rfl rfl) ?_
  refine aSims_c (i := 595) (s_iadd hC dL_law_847 rfl rfl) ?_
  refine aSims_c (i := 596) (s_iaload hC hXX dL_law_848 rfl rfl) ?_
  refine aSims_c (i := 597) (s_aload_n hC dL_law_849 rfl rfl) ?_
  refine aSims_c (i := 598) (s_iload_n hC dL_law_850 rfl rfl) ?_
  refine aSims_c (i := 599) (s_iconst hC dL_law_851 rfl rfl rfl) ?_
  exact aSims_n
set_option maxHeartbeats 4000000 in
set_option maxRecDepth 20000 in
theorem sm_L_law_6 (hC : aC p s m #[Value.ref b] c cL_law 4 RL D cA ad bs 0 H0 X) (hcap : hf.1.1 ≤ 600000 ∧ hf.1.2.1 ≤ 7302250 + 0) (hF : ∀ ml, ml ≤ 41 → aFit room_1 d ml) (hE : aCalls l D cA ad bs X d E) (hr : meth.sig.returnType = ret) (hlk : meth.locks = false) : aSims (fun f i => aSim p l e room_1 s m #[Value.ref b] below meth c (lw_Z below #[Value.ref b] s) 4 D cA ad bs 0 0 H0 (apc pc_L_law) (some (.int 1)) hf E f i) (cd_L_law_6 X) 600 := by
  unfold cd_L_law_6
  refine aSims_c (i := 600) (s_iadd hC dL_law_852 rfl rfl) ?_
  refine aSims_c (i := 601) (s_iaload hC hXX dL_law_853 rfl rfl) ?_
  refine aSims_c (i := 602) (s_aload_n hC dL_law_854 rfl rfl) ?_
  refine aSims_c (i := 603) (s_iload_n hC dL_law_855 rfl rfl) ?_
  refine aSims_c (i := 604) (s_iconst hC dL_law_856 rfl rfl rfl) ?_
  refine aSims_c (i := 605) (s_iadd hC dL_law_857 rfl rfl) ?_
  refine aSims_c (i := 606) (s_iaload hC hXX dL_law_858 rfl rfl) ?_
  refine aSims_c (i := 607) (s_callV (n := 4) hC dL_law_859 rfl rfl (hE 91 _ _ _ _ rfl) (hF _ (by decide)) w_782 w_779 w_780 w_781 w_96 rfl (by decide +kernel)) ?_
  refine aSims_c (i := 608) (s_aload_n hC dL_law_862 rfl rfl) ?_
  refine aSims_c (i := 609) (s_aload_n hC dL_law_863 rfl rfl) ?_
  refine aSims_c (i := 610) (s_iload_n hC dL_law_864 rfl rfl) ?_
  refine aSims_c (i := 611) (s_iconst hC dL_law_865 rfl rfl rfl) ?_
  refine aSims_c (i := 612) (s_iadd hC dL_law_866 rfl rfl) ?_
  refine aSims_c (i := 613) (s_iaload hC hXX dL_law_867 rfl rfl) ?_
  refine aSims_c (i := 614) (s_aload_n hC dL_law_868 rfl rfl) ?_
  refine aSims_c (i := 615) (s_iload_n hC dL_law_869 rfl rfl) ?_
  refine aSims_c (i := 616) (s_iconst hC dL_law_870 rfl rfl rfl) ?_
  refine aSims_c (i := 617) (s_iadd hC dL_law_871 rfl rfl) ?_
  refine aSims_c (i := 618) (s_iaload hC hXX dL_law_872 rfl rfl) ?_
  refine aSims_c (i := 619) (s_aload_n hC dL_law_873 rfl rfl) ?_
  refine aSims_c (i := 620) (s_iload_n hC dL_law_874 rfl rfl) ?_
  refine aSims_c (i := 621) (s_iconst hC dL_law_875 rfl rfl rfl) ?_
  refine aSims_c (i := 622) (s_iadd hC dL_law_876 rfl rfl) ?_
  refine aSims_c (i := 623) (s_iaload hC hXX dL_law_877 rfl rfl) ?_
  refine aSims_c (i := 624) (s_aload_n hC dL_law_878 rfl rfl) ?_
  refine aSims_c (i := 625) (s_iload_n hC dL_law_879 rfl rfl) ?_
  refine aSims_c (i := 626) (s_iconst hC dL_law_880 rfl rfl rfl) ?_
  refine aSims_c (i := 627) (s_iadd hC dL_law_881 rfl rfl) ?_
  refine aSims_c (i := 628) (s_iaload hC hXX dL_law_882 rfl rfl) ?_
  refine aSims_c (i := 629) (s_callV (n := 4) hC dL_law_883 rfl rfl (hE 205 _ _ _ _ rfl) (hF _ (by decide)) w_1363 w_1360 w_1361 w_1362 w_109 rfl (by decide +kernel)) ?_
  refine aSims_c (i := 630) (s_lcmp hC dL_law_886 rfl rfl) ?_
  refine aSims_c (i := 631) (s_if_eq hC dL_law_887 rfl rfl rfl) ?_
  refine aSims_c (i := 632) (s_iconst hC dL_law_890 rfl rfl rfl) ?_
  refine aSims_c (i := 633) (s_lawret hC hcap dL_law_891 rfl hr hlk) ?_
  refine aSims_c (i := 634) (s_aload_n hC dL_law_892 rfl rfl) ?_
  refine aSims_c (i := 635) (s_callV (n := 0) hC dL_law_893 rfl rfl (hE 94 _ _ _ _ rfl) (hF _ (by decide)) w_786 w_783 w_784 w_785 w_96 rfl (by decide +kernel)) ?_
  refine aSims_c (i := 636) (s_aload_n hC dL_law_896 rfl rfl) ?_
  refine aSims_c (i := 637) (s_callV (n := 0) hC dL_law_897 rfl rfl (hE 206 _ _ _ _ rfl) (hF _ (by decide)) w_1367 w_1364 w_1365 w_1366 w_109 rfl (by decide +kernel)) ?_
  refine aSims_c (i := 638) (s_icmp_eq hC dL_law_900 rfl rfl rfl) ?_
  refine aSims_c (i := 639) (s_iconst hC dL_law_903 rfl rfl rfl) ?_
  refine aSims_c (i := 640) (s_lawret hC hcap dL_law_904 rfl hr hlk) ?_
  refine aSims_c (i := 641) (s_aload_n hC dL_law_905 rfl rfl) ?_
  refine aSims_c (i := 642) (s_callV (n := 0) hC dL_law_906 rfl rfl (hE 95 _ _ _ _ rfl) (hF _ (by decide)) w_792 w_789 w_790 w_791 w_96 rfl (by decide +kernel)) ?_
  refine aSims_c (i := 643) (s_aload_n hC dL_law_909 rfl rfl) ?_
  refine aSims_c (i := 644) (s_callV (n := 0) hC dL_law_910 rfl rfl (hE 207 _ _ _ _ rfl) (hF _ (by decide)) w_1371 w_1368 w_1369 w_1370 w_109 rfl (by decide +kernel)) ?_
  refine aSims_c (i := 645) (s_icmp_eq hC dL_law_913 rfl rfl rfl) ?_
  refine aSims_c (i := 646) (s_iconst hC dL_law_916 rfl rfl rfl) ?_
  refine aSims_c (i := 647) (s_lawret hC hcap dL_law_917 rfl hr hlk) ?_
  refine aSims_c (i := 648) (s_aload_n hC dL_law_918 rfl rfl) ?_
  refine aSims_c (i := 649) (s_aload_n hC dL_law_919 rfl rfl) ?_
  refine aSims_c (i := 650) (s_iload_n hC dL_law_920 rfl rfl) ?_
  refine aSims_c (i := 651) (s_iconst hC dL_law_921 rfl rfl rfl) ?_
  refine aSims_c (i := 652) (s_iadd hC dL_law_922 rfl rfl) ?_
  refine aSims_c (i := 653) (s_iaload hC hXX dL_law_923 rfl rfl) ?_
  refine aSims_c (i := 654) (s_callV (n := 1) hC dL_law_924 rfl rfl (hE 96 _ _ _ _ rfl) (hF _ (by decide)) w_796 w_793 w_794 w_795 w_96 rfl (by decide +kernel)) ?_
  refine aSims_c (i := 655) (s_aload_n hC dL_law_927 rfl rfl) ?_
  refine aSims_c (i := 656) (s_aload_n hC dL_law_928 rfl rfl) ?_
  refine aSims_c (i := 657) (s_iload_n hC dL_law_929 rfl rfl) ?_
  refine aSims_c (i := 658) (s_iconst hC dL_law_930 rfl rfl rfl) ?_
  refine aSims_c (i := 659) (s_iadd hC dL_law_931 rfl rfl) ?_
  refine aSims_c (i := 660) (s_iaload hC hXX dL_law_932 rfl rfl) ?_
  refine aSims_c (i := 661) (s_callV (n := 1) hC dL_law_933 rfl rfl (hE 208 _ _ _ _ rfl) (hF _ (by decide)) w_1375 w_1372 w_1373 w_1374 w_109 rfl (by decide +kernel)) ?_
  refine aSims_c (i := 662) (s_icmp_eq hC dL_law_936 rfl rfl rfl) ?_
  refine aSims_c (i := 663) (s_iconst hC dL_law_939 rfl rfl rfl) ?_
  refine aSims_c (i := 664) (s_lawret hC hcap dL_law_940 rfl hr hlk) ?_
  refine aSims_c (i := 665) (s_aload_n hC dL_law_941 rfl rfl) ?_
  refine aSims_c (i := 666) (s_aload_n hC dL_law_942 rfl rfl) ?_
  refine aSims_c (i := 667) (s_iload_n hC dL_law_943 rfl rfl) ?_
  refine aSims_c (i := 668) (s_iconst hC dL_law_944 rfl rfl rfl) ?_
  refine aSims_c (i := 669) (s_iadd hC dL_law_945 rfl rfl) ?_
  refine aSims_c (i := 670) (s_iaload hC hXX dL_law_946 rfl rfl) ?_
  refine aSims_c (i := 671) (s_aload_n hC dL_law_947 rfl rfl) ?_
  refine aSims_c (i := 672) (s_iload_n hC dL_law_948 rfl rfl) ?_
  refine aSims_c (i := 673) (s_iconst hC dL_law_949 rfl rfl rfl) ?_
  refine aSims_c (i := 674) (s_iadd hC dL_law_950 rfl rfl) ?_
  refine aSims_c (i := 675) (s_iaload hC hXX dL_law_951 rfl rfl) ?_
  refine aSims_c (i := 676) (s_aload_n hC dL_law_952 rfl rfl) ?_
  refine aSims_c (i := 677) (s_iload_n hC dL_law_953 rfl rfl) ?_
  refine aSims_c (i := 678) (s_iconst hC dL_law_954 rfl rfl rfl) ?_
  refine aSims_c (i := 679) (s_iadd hC dL_law_955 rfl rfl) ?_
  refine aSims_c (i := 680) (s_iaload hC hXX dL_law_956 rfl rfl) ?_
  refine aSims_c (i := 681) (s_callV (n := 3) hC dL_law_957 rfl rfl (hE 98 _ _ _ _ rfl) (hF _ (by decide)) w_804 w_801 w_802 w_803 w_96 rfl (by decide +kernel)) ?_
  refine aSims_c (i := 682) (s_aload_n hC dL_law_960 rfl rfl) ?_
  refine aSims_c (i := 683) (s_aload_n hC dL_law_961 rfl rfl) ?_
  refine aSims_c (i := 684) (s_iload_n hC dL_law_962 rfl rfl) ?_
  refine aSims_c (i := 685) (s_iconst hC dL_law_963 rfl rfl rfl) ?_
  refine aSims_c (i := 686) (s_iadd hC dL_law_964 rfl rfl) ?_
  refine aSims_c (i := 687) (s_iaload hC hXX dL_law_965 rfl rfl) ?_
  refine aSims_c (i := 688) (s_aload_n hC dL_law_966 rfl rfl) ?_
  refine aSims_c (i := 689) (s_iload_n hC dL_law_967 rfl rfl) ?_
  refine aSims_c (i := 690) (s_iconst hC dL_law_968 rfl rfl rfl) ?_
  refine aSims_c (i := 691) (s_iadd hC dL_law_969 rfl rfl) ?_
  refine aSims_c (i := 692) (s_iaload hC hXX dL_law_970 rfl rfl) ?_
  refine aSims_c (i := 693) (s_aload_n hC dL_law_971 rfl rfl) ?_
  refine aSims_c (i := 694) (s_iload_n hC dL_law_972 rfl rfl) ?_
  refine aSims_c (i := 695) (s_iconst hC dL_law_973 rfl rfl rfl) ?_
  refine aSims_c (i := 696) (s_iadd hC dL_law_974 rfl rfl) ?_
  refine aSims_c (i := 697) (s_iaload hC hXX dL_law_975 rfl rfl) ?_
  refine aSims_c (i := 698) (s_callV (n := 3) hC dL_law_976 rfl rfl (hE 210 _ _ _ _ rfl) (hF _ (by decide)) w_1349 w_1377 w_1347 w_1348 w_109 rfl (by decide +kernel)) ?_
  refine aSims_c (i := 699) (s_icmp_eq hC dL_law_979 rfl rfl rfl) ?_
  exact aSims_n
set_option maxHeartbeats 4000000 in
set_option maxRecDepth 20000 in
theorem sm_L_law_7 (hC : aC p s m #[Value.ref b] c cL_law 4 RL D cA ad bs 0 H0 X) (hcap : hf.1.1 ≤ 600000 ∧ hf.1.2.1 ≤ 7302250 + 0) (hF : ∀ ml, ml ≤ 41 → aFit room_1 d ml) (hE : aCalls l D cA ad bs X d E) (hr : meth.sig.returnType = ret) (hlk : meth.locks = false) : aSims (fun f i => aSim p l e room_1 s m #[Value.ref b] below meth c (lw_Z below #[Value.ref b] s) 4 D cA ad bs 0 0 H0 (apc pc_L_law) (some (.int 1)) hf E f i) (cd_L_law_7 X) 700 := by
  unfold cd_L_law_7
  refine aSims_c (i := 700) (s_iconst hC dL_law_982 rfl rfl rfl) ?_
  refine aSims_c (i := 701) (s_lawret hC hcap dL_law_983 rfl hr hlk) ?_
  refine aSims_c (i := 702) (s_aload_n hC dL_law_984 rfl rfl) ?_
  refine aSims_c (i := 703) (s_aload_n hC dL_law_985 rfl rfl) ?_
  refine aSims_c (i := 704) (s_iload_n hC dL_law_986 rfl rfl) ?_
  refine aSims_c (i := 705) (s_iconst hC dL_law_987 rfl rfl rfl) ?_
  refine aSims_c (i := 706) (s_iadd hC dL_law_988 rfl rfl) ?_
  refine aSims_c (i := 707) (s_iaload hC hXX dL_law_989 rfl rfl) ?_
  refine aSims_c (i := 708) (s_aload_n hC dL_law_990 rfl rfl) ?_
  refine aSims_c (i := 709) (s_iload_n hC dL_law_991 rfl rfl) ?_
  refine aSims_c (i := 710) (s_iconst hC dL_law_992 rfl rfl rfl) ?_
  refine aSims_c (i := 711) (s_iadd hC dL_law_993 rfl rfl) ?_
  refine aSims_c (i := 712) (s_iaload hC hXX dL_law_994 rfl rfl) ?_
  refine aSims_c (i := 713) (s_aload_n hC dL_law_995 rfl rfl) ?_
  refine aSims_c (i := 714) (s_iload_n hC dL_law_996 rfl rfl) ?_
  refine aSims_c (i := 715) (s_iconst hC dL_law_997 rfl rfl rfl) ?_
  refine aSims_c (i := 716) (s_iadd hC dL_law_998 rfl rfl) ?_
  refine aSims_c (i := 717) (s_iaload hC hXX dL_law_999 rfl rfl) ?_
  refine aSims_c (i := 718) (s_callV (n := 3) hC dL_law_1000 rfl rfl (hE 99 _ _ _ _ rfl) (hF _ (by decide)) w_808 w_805 w_806 w_807 w_96 rfl (by decide +kernel)) ?_
  refine aSims_c (i := 719) (s_aload_n hC dL_law_1003 rfl rfl) ?_
  refine aSims_c (i := 720) (s_aload_n hC dL_law_1004 rfl rfl) ?_
  refine aSims_c (i := 721) (s_iload_n hC dL_law_1005 rfl rfl) ?_
  refine aSims_c (i := 722) (s_iconst hC dL_law_1006 rfl rfl rfl) ?_
  refine aSims_c (i := 723) (s_iadd hC dL_law_1007 rfl rfl) ?_
  refine aSims_c (i := 724) (s_iaload hC hXX dL_law_1008 rfl rfl) ?_
  refine aSims_c (i := 725) (s_aload_n hC dL_law_1009 rfl rfl) ?_
  refine aSims_c (i := 726) (s_iload_n hC dL_law_1010 rfl rfl) ?_
  refine aSims_c (i := 727) (s_iconst hC dL_law_1011 rfl rfl rfl) ?_
  refine aSims_c (i := 728) (s_iadd hC dL_law_1012 rfl rfl) ?_
  refine aSims_c (i := 729) (s_iaload hC hXX dL_law_1013 rfl rfl) ?_
  refine aSims_c (i := 730) (s_aload_n hC dL_law_1014 rfl rfl) ?_
  refine aSims_c (i := 731) (s_iload_n hC dL_law_1015 rfl rfl) ?_
  refine aSims_c (i := 732) (s_iconst hC dL_law_1016 rfl rfl rfl) ?_
  refine aSims_c (i := 733) (s_iadd hC dL_law_1017 rfl rfl) ?_
  refine aSims_c (i := 734) (s_iaload hC hXX dL_law_1018 rfl rfl) ?_
  refine aSims_c (i := 735) (s_callV (n := 3) hC dL_law_1019 rfl rfl (hE 211 _ _ _ _ rfl) (hF _ (by decide)) w_1381 w_1378 w_1379 w_1380 w_109 rfl (by decide +kernel)) ?_
  refine aSims_c (i := 736) (s_icmp_eq hC dL_law_1022 rfl rfl rfl) ?_
  refine aSims_c (i := 737) (s_iconst hC dL_law_1025 rfl rfl rfl) ?_
  refine aSims_c (i := 738) (s_lawret hC hcap dL_law_1026 rfl hr hlk) ?_
  refine aSims_c (i := 739) (s_aload_n hC dL_law_1027 rfl rfl) ?_
  refine aSims_c (i := 740) (s_aload_n hC dL_law_1028 rfl rfl) ?_
  refine aSims_c (i := 741) (s_iload_n hC dL_law_1029 rfl rfl) ?_
  refine aSims_c (i := 742) (s_iconst hC dL_law_1030 rfl rfl rfl) ?_
  refine aSims_c (i := 743) (s_iadd hC dL_law_1031 rfl rfl) ?_
  refine aSims_c (i := 744) (s_iaload hC hXX dL_law_1032 rfl rfl) ?_
  refine aSims_c (i := 745) (s_aload_n hC dL_law_1033 rfl rfl) ?_
  refine aSims_c (i := 746) (s_iload_n hC dL_law_1034 rfl rfl) ?_
  refine aSims_c (i := 747) (s_iconst hC dL_law_1035 rfl rfl rfl) ?_
  refine aSims_c (i := 748) (s_iadd hC dL_law_1036 rfl rfl) ?_
  refine aSims_c (i := 749) (s_iaload hC hXX dL_law_1037 rfl rfl) ?_
  refine aSims_c (i := 750) (s_aload_n hC dL_law_1038 rfl rfl) ?_
  refine aSims_c (i := 751) (s_iload_n hC dL_law_1039 rfl rfl) ?_
  refine aSims_c (i := 752) (s_iconst hC dL_law_1040 rfl rfl rfl) ?_
  refine aSims_c (i := 753) (s_iadd hC dL_law_1041 rfl rfl) ?_
  refine aSims_c (i := 754) (s_iaload hC hXX dL_law_1042 rfl rfl) ?_
  refine aSims_c (i := 755) (s_aload_n hC dL_law_1043 rfl rfl) ?_
  refine aSims_c (i := 756) (s_iload_n hC dL_law_1044 rfl rfl) ?_
  refine aSims_c (i := 757) (s_iconst hC dL_law_1045 rfl rfl rfl) ?_
  refine aSims_c (i := 758) (s_iadd hC dL_law_1046 rfl rfl) ?_
  refine aSims_c (i := 759) (s_iaload hC hXX dL_law_1047 rfl rfl) ?_
  refine aSims_c (i := 760) (s_aload_n hC dL_law_1048 rfl rfl) ?_
  refine aSims_c (i := 761) (s_iload_n hC dL_law_1049 rfl rfl) ?_
  refine aSims_c (i := 762) (s_iconst hC dL_law_1050 rfl rfl rfl) ?_
  refine aSims_c (i := 763) (s_iadd hC dL_law_1051 rfl rfl) ?_
  refine aSims_c (i := 764) (s_iaload hC hXX dL_law_1052 rfl rfl) ?_
  refine aSims_c (i := 765) (s_callV (n := 5) hC dL_law_1053 rfl rfl (hE 100 _ _ _ _ rfl) (hF _ (by decide)) w_813 w_810 w_811 w_812 w_96 rfl (by decide +kernel)) ?_
  refine aSims_c (i := 766) (s_aload_n hC dL_law_1056 rfl rfl) ?_
  refine aSims_c (i := 767) (s_aload_n hC dL_law_1057 rfl rfl) ?_
  refine aSims_c (i := 768) (s_iload_n hC dL_law_1058 rfl rfl) ?_
  refine aSims_c (i := 769) (s_iconst hC dL_law_1059 rfl rfl rfl) ?_
  refine aSims_c (i := 770) (s_iadd hC dL_law_1060 rfl rfl) ?_
  refine aSims_c (i := 771) (s_iaload hC hXX dL_law_1061 rfl rfl) ?_
  refine aSims_c (i := 772) (s_aload_n hC dL_law_1062 rfl rfl) ?_
  refine aSims_c (i := 773) (s_iload_n hC dL_law_1063 rfl rfl) ?_
  refine aSims_c (i := 774) (s_iconst hC dL_law_1064 rfl rfl rfl) ?_
  refine aSims_c (i := 775) (s_iadd hC dL_law_1065 rfl rfl) ?_
  refine aSims_c (i := 776) (s_iaload hC hXX dL_law_1066 rfl rfl) ?_
  refine aSims_c (i := 777) (s_aload_n hC dL_law_1067 rfl rfl) ?_
  refine aSims_c (i := 778) (s_iload_n hC dL_law_1068 rfl rfl) ?_
  refine aSims_c (i := 779) (s_iconst hC dL_law_1069 rfl rfl rfl) ?_
  refine aSims_c (i := 780) (s_iadd hC dL_law_1070 rfl rfl) ?_
  refine aSims_c (i := 781) (s_iaload hC hXX dL_law_1071 rfl rfl) ?_
  refine aSims_c (i := 782) (s_aload_n hC dL_law_1072 rfl rfl) ?_
  refine aSims_c (i := 783) (s_iload_n hC dL_law_1073 rfl rfl) ?_
  refine aSims_c (i := 784) (s_iconst hC dL_law_1074 rfl rfl rfl) ?_
  refine aSims_c (i := 785) (s_iadd hC dL_law_1075 rfl rfl) ?_
  refine aSims_c (i := 786) (s_iaload hC hXX dL_law_1076 rfl rfl) ?_
  refine aSims_c (i := 787) (s_aload_n hC dL_law_1077 rfl rfl) ?_
  refine aSims_c (i := 788) (s_iload_n hC dL_law_1078 rfl rfl) ?_
  refine aSims_c (i := 789) (s_iconst hC dL_law_1079 rfl rfl rfl) ?_
  refine aSims_c (i := 790) (s_iadd hC dL_law_1080 rfl rfl) ?_
  refine aSims_c (i := 791) (s_iaload hC hXX dL_law_1081 rfl rfl) ?_
  refine aSims_c (i := 792) (s_callV (n := 5) hC dL_law_1082 rfl rfl (hE 212 _ _ _ _ rfl) (hF _ (by decide)) w_1385 w_1382 w_1383 w_1384 w_109 rfl (by decide +kernel)) ?_
  refine aSims_c (i := 793) (s_icmp_eq hC dL_law_1085 rfl rfl rfl) ?_
  refine aSims_c (i := 794) (s_iconst hC dL_law_1088 rfl rfl rfl) ?_
  refine aSims_c (i := 795) (s_lawret hC hcap dL_law_1089 rfl hr hlk) ?_
  refine aSims_c (i := 796) (s_aload_n hC dL_law_1090 rfl rfl) ?_
  refine aSims_c (i := 797) (s_aload_n hC dL_law_1091 rfl rfl) ?_
  refine aSims_c (i := 798) (s_iload_n hC dL_law_1092 rfl rfl) ?_
  refine aSims_c (i := 799) (s_iconst hC dL_law_1093 rfl rfl rfl) ?_
  exact aSims_n
set_option maxHeartbeats 4000000 in
set_option maxRecDepth 20000 in
theorem sm_L_law_8 (hC : aC p s m #[Value.ref b] c cL_law 4 RL D cA ad bs 0 H0 X) (hcap : hf.1.1 ≤ 600000 ∧ hf.1.2.1 ≤ 7302250 + 0) (hF : ∀ ml, ml ≤ 41 → aFit room_1 d ml) (hE : aCalls l D cA ad bs X d E) (hr : meth.sig.returnType = ret) (hlk : meth.locks = false) : aSims (fun f i => aSim p l e room_1 s m #[Value.ref b] below meth c (lw_Z below #[Value.ref b] s) 4 D cA ad bs 0 0 H0 (apc pc_L_law) (some (.int 1)) hf E f i) (cd_L_law_8 X) 800 := by
  unfold cd_L_law_8
  refine aSims_c (i := 800) (s_iadd hC dL_law_1094 rfl rfl) ?_
  refine aSims_c (i := 801) (s_iaload hC hXX dL_law_1095 rfl rfl) ?_
  refine aSims_c (i := 802) (s_aload_n hC dL_law_1096 rfl rfl) ?_
  refine aSims_c (i := 803) (s_iload_n hC dL_law_1097 rfl rfl) ?_
  refine aSims_c (i := 804) (s_iconst hC dL_law_1098 rfl rfl rfl) ?_
  refine aSims_c (i := 805) (s_iadd hC dL_law_1099 rfl rfl) ?_
  refine aSims_c (i := 806) (s_iaload hC hXX dL_law_1100 rfl rfl) ?_
  refine aSims_c (i := 807) (s_aload_n hC dL_law_1101 rfl rfl) ?_
  refine aSims_c (i := 808) (s_iload_n hC dL_law_1102 rfl rfl) ?_
  refine aSims_c (i := 809) (s_iconst hC dL_law_1103 rfl rfl rfl) ?_
  refine aSims_c (i := 810) (s_iadd hC dL_law_1104 rfl rfl) ?_
  refine aSims_c (i := 811) (s_iaload hC hXX dL_law_1105 rfl rfl) ?_
  refine aSims_c (i := 812) (s_aload_n hC dL_law_1106 rfl rfl) ?_
  refine aSims_c (i := 813) (s_iload_n hC dL_law_1107 rfl rfl) ?_
  refine aSims_c (i := 814) (s_iconst hC dL_law_1108 rfl rfl rfl) ?_
  refine aSims_c (i := 815) (s_iadd hC dL_law_1109 rfl rfl) ?_
  refine aSims_c (i := 816) (s_iaload hC hXX dL_law_1110 rfl rfl) ?_
  refine aSims_c (i := 817) (s_callV (n := 4) hC dL_law_1111 rfl rfl (hE 101 _ _ _ _ rfl) (hF _ (by decide)) w_822 w_819 w_820 w_821 w_96 rfl (by decide +kernel)) ?_
  refine aSims_c (i := 818) (s_aload_n hC dL_law_1114 rfl rfl) ?_
  refine aSims_c (i := 819) (s_aload_n hC dL_law_1115 rfl rfl) ?_
  refine aSims_c (i := 820) (s_iload_n hC dL_law_1116 rfl rfl) ?_
  refine aSims_c (i := 821) (s_iconst hC dL_law_1117 rfl rfl rfl) ?_
  refine aSims_c (i := 822) (s_iadd hC dL_law_1118 rfl rfl) ?_
  refine aSims_c (i := 823) (s_iaload hC hXX dL_law_1119 rfl rfl) ?_
  refine aSims_c (i := 824) (s_aload_n hC dL_law_1120 rfl rfl) ?_
  refine aSims_c (i := 825) (s_iload_n hC dL_law_1121 rfl rfl) ?_
  refine aSims_c (i := 826) (s_iconst hC dL_law_1122 rfl rfl rfl) ?_
  refine aSims_c (i := 827) (s_iadd hC dL_law_1123 rfl rfl) ?_
  refine aSims_c (i := 828) (s_iaload hC hXX dL_law_1124 rfl rfl) ?_
  refine aSims_c (i := 829) (s_aload_n hC dL_law_1125 rfl rfl) ?_
  refine aSims_c (i := 830) (s_iload_n hC dL_law_1126 rfl rfl) ?_
  refine aSims_c (i := 831) (s_iconst hC dL_law_1127 rfl rfl rfl) ?_
  refine aSims_c (i := 832) (s_iadd hC dL_law_1128 rfl rfl) ?_
  refine aSims_c (i := 833) (s_iaload hC hXX dL_law_1129 rfl rfl) ?_
  refine aSims_c (i := 834) (s_aload_n hC dL_law_1130 rfl rfl) ?_
  refine aSims_c (i := 835) (s_iload_n hC dL_law_1131 rfl rfl) ?_
  refine aSims_c (i := 836) (s_iconst hC dL_law_1132 rfl rfl rfl) ?_
  refine aSims_c (i := 837) (s_iadd hC dL_law_1133 rfl rfl) ?_
  refine aSims_c (i := 838) (s_iaload hC hXX dL_law_1134 rfl rfl) ?_
  refine aSims_c (i := 839) (s_callV (n := 4) hC dL_law_1135 rfl rfl (hE 213 _ _ _ _ rfl) (hF _ (by decide)) w_1389 w_1386 w_1387 w_1388 w_109 rfl (by decide +kernel)) ?_
  refine aSims_c (i := 840) (s_icmp_eq hC dL_law_1138 rfl rfl rfl) ?_
  refine aSims_c (i := 841) (s_iconst hC dL_law_1141 rfl rfl rfl) ?_
  refine aSims_c (i := 842) (s_lawret hC hcap dL_law_1142 rfl hr hlk) ?_
  refine aSims_c (i := 843) (s_aload_n hC dL_law_1143 rfl rfl) ?_
  refine aSims_c (i := 844) (s_aload_n hC dL_law_1144 rfl rfl) ?_
  refine aSims_c (i := 845) (s_iload_n hC dL_law_1145 rfl rfl) ?_
  refine aSims_c (i := 846) (s_iconst hC dL_law_1146 rfl rfl rfl) ?_
  refine aSims_c (i := 847) (s_iadd hC dL_law_1147 rfl rfl) ?_
  refine aSims_c (i := 848) (s_iaload hC hXX dL_law_1148 rfl rfl) ?_
  refine aSims_c (i := 849) (s_aload_n hC dL_law_1149 rfl rfl) ?_
  refine aSims_c (i := 850) (s_iload_n hC dL_law_1150 rfl rfl) ?_
  refine aSims_c (i := 851) (s_iconst hC dL_law_1151 rfl rfl rfl) ?_
  refine aSims_c (i := 852) (s_iadd hC dL_law_1152 rfl rfl) ?_
  refine aSims_c (i := 853) (s_iaload hC hXX dL_law_1153 rfl rfl) ?_
  refine aSims_c (i := 854) (s_callV (n := 2) hC dL_law_1154 rfl rfl (hE 102 _ _ _ _ rfl) (hF _ (by decide)) w_826 w_823 w_824 w_825 w_96 rfl (by decide +kernel)) ?_
  refine aSims_c (i := 855) (s_aload_n hC dL_law_1157 rfl rfl) ?_
  refine aSims_c (i := 856) (s_aload_n hC dL_law_1158 rfl rfl) ?_
  refine aSims_c (i := 857) (s_iload_n hC dL_law_1159 rfl rfl) ?_
  refine aSims_c (i := 858) (s_iconst hC dL_law_1160 rfl rfl rfl) ?_
  refine aSims_c (i := 859) (s_iadd hC dL_law_1161 rfl rfl) ?_
  refine aSims_c (i := 860) (s_iaload hC hXX dL_law_1162 rfl rfl) ?_
  refine aSims_c (i := 861) (s_aload_n hC dL_law_1163 rfl rfl) ?_
  refine aSims_c (i := 862) (s_iload_n hC dL_law_1164 rfl rfl) ?_
  refine aSims_c (i := 863) (s_iconst hC dL_law_1165 rfl rfl rfl) ?_
  refine aSims_c (i := 864) (s_iadd hC dL_law_1166 rfl rfl) ?_
  refine aSims_c (i := 865) (s_iaload hC hXX dL_law_1167 rfl rfl) ?_
  refine aSims_c (i := 866) (s_callV (n := 2) hC dL_law_1168 rfl rfl (hE 215 _ _ _ _ rfl) (hF _ (by decide)) w_1394 w_1391 w_1392 w_1393 w_109 rfl (by decide +kernel)) ?_
  refine aSims_c (i := 867) (s_icmp_eq hC dL_law_1171 rfl rfl rfl) ?_
  refine aSims_c (i := 868) (s_iconst hC dL_law_1174 rfl rfl rfl) ?_
  refine aSims_c (i := 869) (s_lawret hC hcap dL_law_1175 rfl hr hlk) ?_
  refine aSims_c (i := 870) (s_iinc hC dL_law_1176 rfl rfl) ?_
  refine aSims_c (i := 871) (s_goto hC dL_law_1179 rfl rfl) ?_
  refine aSims_c (i := 872) (s_iconst hC dL_law_1182 rfl rfl rfl) ?_
  refine aSims_c (i := 873) (s_lawret hC hcap dL_law_1183 rfl hr hlk) ?_
  exact aSims_n
end SIM
