theorem dc_LW_law_174 : decode cd_LW_law 174 = .ok (.iconst 2, 1) := by decide +kernel
theorem dc_LW_law_175 : decode cd_LW_law 175 = .ok (.iadd, 1) := by decide +kernel
theorem dc_LW_law_176 : decode cd_LW_law 176 = .ok (.iaload, 1) := by decide +kernel
theorem dc_LW_law_177 : decode cd_LW_law 177 = .ok (.invokevirtual 26, 3) := by decide +kernel
theorem dc_LW_law_180 : decode cd_LW_law 180 = .ok (.if_icmp .eq 253, 3) := by decide +kernel
theorem dc_LW_law_183 : decode cd_LW_law 183 = .ok (.iconst 0, 1) := by decide +kernel
theorem dc_LW_law_184 : decode cd_LW_law 184 = .ok (.ireturn, 1) := by decide +kernel
theorem dc_LW_law_185 : decode cd_LW_law 185 = .ok (.aload_n 1, 1) := by decide +kernel
theorem dc_LW_law_186 : decode cd_LW_law 186 = .ok (.aload_n 0, 1) := by decide +kernel
theorem dc_LW_law_187 : decode cd_LW_law 187 = .ok (.iload_n 3, 1) := by decide +kernel
theorem dc_LW_law_188 : decode cd_LW_law 188 = .ok (.iconst 1, 1) := by decide +kernel
theorem dc_LW_law_189 : decode cd_LW_law 189 = .ok (.iadd, 1) := by decide +kernel
theorem dc_LW_law_190 : decode cd_LW_law 190 = .ok (.iaload, 1) := by decide +kernel
theorem dc_LW_law_191 : decode cd_LW_law 191 = .ok (.aload_n 0, 1) := by decide +kernel
theorem dc_LW_law_192 : decode cd_LW_law 192 = .ok (.iload_n 3, 1) := by decide +kernel
theorem dc_LW_law_193 : decode cd_LW_law 193 = .ok (.iconst 2, 1) := by decide +kernel
theorem dc_LW_law_194 : decode cd_LW_law 194 = .ok (.iadd, 1) := by decide +kernel
theorem dc_LW_law_195 : decode cd_LW_law 195 = .ok (.iaload, 1) := by decide +kernel
theorem dc_LW_law_196 : decode cd_LW_law 196 = .ok (.invokevirtual 27, 3) := by decide +kernel
theorem dc_LW_law_199 : decode cd_LW_law 199 = .ok (.aload_n 2, 1) := by decide +kernel
theorem dc_LW_law_200 : decode cd_LW_law 200 = .ok (.aload_n 0, 1) := by decide +kernel
theorem dc_LW_law_201 : decode cd_LW_law 201 = .ok (.iload_n 3, 1) := by decide +kernel
theorem dc_LW_law_202 : decode cd_LW_law 202 = .ok (.iconst 1, 1) := by decide +kernel
theorem dc_LW_law_203 : decode cd_LW_law 203 = .ok (.iadd, 1) := by decide +kernel
theorem dc_LW_law_204 : decode cd_LW_law 204 = .ok (.iaload, 1) := by decide +kernel
theorem dc_LW_law_205 : decode cd_LW_law 205 = .ok (.aload_n 0, 1) := by decide +kernel
theorem dc_LW_law_206 : decode cd_LW_law 206 = .ok (.iload_n 3, 1) := by decide +kernel
theorem dc_LW_law_207 : decode cd_LW_law 207 = .ok (.iconst 2, 1) := by decide +kernel
theorem dc_LW_law_208 : decode cd_LW_law 208 = .ok (.iadd, 1) := by decide +kernel
theorem dc_LW_law_209 : decode cd_LW_law 209 = .ok (.iaload, 1) := by decide +kernel
theorem dc_LW_law_210 : decode cd_LW_law 210 = .ok (.invokevirtual 30, 3) := by decide +kernel
theorem dc_LW_law_213 : decode cd_LW_law 213 = .ok (.if_icmp .eq 220, 3) := by decide +kernel
theorem dc_LW_law_216 : decode cd_LW_law 216 = .ok (.iconst 0, 1) := by decide +kernel
theorem dc_LW_law_217 : decode cd_LW_law 217 = .ok (.ireturn, 1) := by decide +kernel
theorem dc_LW_law_218 : decode cd_LW_law 218 = .ok (.aload_n 1, 1) := by decide +kernel
theorem dc_LW_law_219 : decode cd_LW_law 219 = .ok (.aload_n 0, 1) := by decide +kernel
theorem dc_LW_law_220 : decode cd_LW_law 220 = .ok (.iload_n 3, 1) := by decide +kernel
theorem dc_LW_law_221 : decode cd_LW_law 221 = .ok (.iconst 1, 1) := by decide +kernel
theorem dc_LW_law_222 : decode cd_LW_law 222 = .ok (.iadd, 1) := by decide +kernel
theorem dc_LW_law_223 : decode cd_LW_law 223 = .ok (.iaload, 1) := by decide +kernel
theorem dc_LW_law_224 : decode cd_LW_law 224 = .ok (.aload_n 0, 1) := by decide +kernel
theorem dc_LW_law_225 : decode cd_LW_law 225 = .ok (.iload_n 3, 1) := by decide +kernel
theorem dc_LW_law_226 : decode cd_LW_law 226 = .ok (.iconst 2, 1) := by decide +kernel
theorem dc_LW_law_227 : decode cd_LW_law 227 = .ok (.iadd, 1) := by decide +kernel
theorem dc_LW_law_228 : decode cd_LW_law 228 = .ok (.iaload, 1) := by decide +kernel
theorem dc_LW_law_229 : decode cd_LW_law 229 = .ok (.aload_n 0, 1) := by decide +kernel
theorem dc_LW_law_230 : decode cd_LW_law 230 = .ok (.iload_n 3, 1) := by decide +kernel
theorem dc_LW_law_231 : decode cd_LW_law 231 = .ok (.iconst 3, 1) := by decide +kernel
theorem dc_LW_law_232 : decode cd_LW_law 232 = .ok (.iadd, 1) := by decide +kernel
theorem dc_LW_law_233 : decode cd_LW_law 233 = .ok (.iaload, 1) := by decide +kernel
theorem dc_LW_law_234 : decode cd_LW_law 234 = .ok (.invokevirtual 31, 3) := by decide +kernel
theorem dc_LW_law_237 : decode cd_LW_law 237 = .ok (.aload_n 2, 1) := by decide +kernel
theorem dc_LW_law_238 : decode cd_LW_law 238 = .ok (.aload_n 0, 1) := by decide +kernel
theorem dc_LW_law_239 : decode cd_LW_law 239 = .ok (.iload_n 3, 1) := by decide +kernel
theorem dc_LW_law_240 : decode cd_LW_law 240 = .ok (.iconst 1, 1) := by decide +kernel
theorem dc_LW_law_241 : decode cd_LW_law 241 = .ok (.iadd, 1) := by decide +kernel
theorem dc_LW_law_242 : decode cd_LW_law 242 = .ok (.iaload, 1) := by decide +kernel
theorem dc_LW_law_243 : decode cd_LW_law 243 = .ok (.aload_n 0, 1) := by decide +kernel
theorem dc_LW_law_244 : decode cd_LW_law 244 = .ok (.iload_n 3, 1) := by decide +kernel
theorem dc_LW_law_245 : decode cd_LW_law 245 = .ok (.iconst 2, 1) := by decide +kernel
theorem dc_LW_law_246 : decode cd_LW_law 246 = .ok (.iadd, 1) := by decide +kernel
theorem dc_LW_law_247 : decode cd_LW_law 247 = .ok (.iaload, 1) := by decide +kernel
theorem dc_LW_law_248 : decode cd_LW_law 248 = .ok (.aload_n 0, 1) := by decide +kernel
theorem dc_LW_law_249 : decode cd_LW_law 249 = .ok (.iload_n 3, 1) := by decide +kernel
theorem dc_LW_law_250 : decode cd_LW_law 250 = .ok (.iconst 3, 1) := by decide +kernel
theorem dc_LW_law_251 : decode cd_LW_law 251 = .ok (.iadd, 1) := by decide +kernel
theorem dc_LW_law_252 : decode cd_LW_law 252 = .ok (.iaload, 1) := by decide +kernel
theorem dc_LW_law_253 : decode cd_LW_law 253 = .ok (.invokevirtual 35, 3) := by decide +kernel
theorem dc_LW_law_256 : decode cd_LW_law 256 = .ok (.if_icmp .eq 177, 3) := by decide +kernel
theorem dc_LW_law_259 : decode cd_LW_law 259 = .ok (.iconst 0, 1) := by decide +kernel
theorem dc_LW_law_260 : decode cd_LW_law 260 = .ok (.ireturn, 1) := by decide +kernel
theorem dc_LW_law_261 : decode cd_LW_law 261 = .ok (.aload_n 1, 1) := by decide +kernel
theorem dc_LW_law_262 : decode cd_LW_law 262 = .ok (.aload_n 0, 1) := by decide +kernel
theorem dc_LW_law_263 : decode cd_LW_law 263 = .ok (.iload_n 3, 1) := by decide +kernel
theorem dc_LW_law_264 : decode cd_LW_law 264 = .ok (.iconst 1, 1) := by decide +kernel
theorem dc_LW_law_265 : decode cd_LW_law 265 = .ok (.iadd, 1) := by decide +kernel
theorem dc_LW_law_266 : decode cd_LW_law 266 = .ok (.iaload, 1) := by decide +kernel
theorem dc_LW_law_267 : decode cd_LW_law 267 = .ok (.aload_n 0, 1) := by decide +kernel
theorem dc_LW_law_268 : decode cd_LW_law 268 = .ok (.iload_n 3, 1) := by decide +kernel
theorem dc_LW_law_269 : decode cd_LW_law 269 = .ok (.iconst 2, 1) := by decide +kernel
theorem dc_LW_law_270 : decode cd_LW_law 270 = .ok (.iadd, 1) := by decide +kernel
theorem dc_LW_law_271 : decode cd_LW_law 271 = .ok (.iaload, 1) := by decide +kernel
theorem dc_LW_law_272 : decode cd_LW_law 272 = .ok (.invokevirtual 36, 3) := by decide +kernel
theorem dc_LW_law_275 : decode cd_LW_law 275 = .ok (.aload_n 2, 1) := by decide +kernel
theorem dc_LW_law_276 : decode cd_LW_law 276 = .ok (.aload_n 0, 1) := by decide +kernel
theorem dc_LW_law_277 : decode cd_LW_law 277 = .ok (.iload_n 3, 1) := by decide +kernel
theorem dc_LW_law_278 : decode cd_LW_law 278 = .ok (.iconst 1, 1) := by decide +kernel
theorem dc_LW_law_279 : decode cd_LW_law 279 = .ok (.iadd, 1) := by decide +kernel
theorem dc_LW_law_280 : decode cd_LW_law 280 = .ok (.iaload, 1) := by decide +kernel
theorem dc_LW_law_281 : decode cd_LW_law 281 = .ok (.aload_n 0, 1) := by decide +kernel
theorem dc_LW_law_282 : decode cd_LW_law 282 = .ok (.iload_n 3, 1) := by decide +kernel
theorem dc_LW_law_283 : decode cd_LW_law 283 = .ok (.iconst 2, 1) := by decide +kernel
theorem dc_LW_law_284 : decode cd_LW_law 284 = .ok (.iadd, 1) := by decide +kernel
theorem dc_LW_law_285 : decode cd_LW_law 285 = .ok (.iaload, 1) := by decide +kernel
theorem dc_LW_law_286 : decode cd_LW_law 286 = .ok (.invokevirtual 39, 3) := by decide +kernel
theorem dc_LW_law_289 : decode cd_LW_law 289 = .ok (.if_icmp .eq 144, 3) := by decide +kernel
theorem dc_LW_law_292 : decode cd_LW_law 292 = .ok (.iconst 0, 1) := by decide +kernel
theorem dc_LW_law_293 : decode cd_LW_law 293 = .ok (.ireturn, 1) := by decide +kernel
theorem dc_LW_law_294 : decode cd_LW_law 294 = .ok (.aload_n 1, 1) := by decide +kernel
theorem dc_LW_law_295 : decode cd_LW_law 295 = .ok (.aload_n 0, 1) := by decide +kernel
theorem dc_LW_law_296 : decode cd_LW_law 296 = .ok (.iload_n 3, 1) := by decide +kernel
theorem dc_LW_law_297 : decode cd_LW_law 297 = .ok (.iconst 1, 1) := by decide +kernel
theorem dc_LW_law_298 : decode cd_LW_law 298 = .ok (.iadd, 1) := by decide +kernel
theorem dc_LW_law_299 : decode cd_LW_law 299 = .ok (.iaload, 1) := by decide +kernel
theorem dc_LW_law_300 : decode cd_LW_law 300 = .ok (.aload_n 0, 1) := by decide +kernel
theorem dc_LW_law_301 : decode cd_LW_law 301 = .ok (.iload_n 3, 1) := by decide +kernel
theorem dc_LW_law_302 : decode cd_LW_law 302 = .ok (.iconst 2, 1) := by decide +kernel
theorem dc_LW_law_303 : decode cd_LW_law 303 = .ok (.iadd, 1) := by decide +kernel
theorem dc_LW_law_304 : decode cd_LW_law 304 = .ok (.iaload, 1) := by decide +kernel
theorem dc_LW_law_305 : decode cd_LW_law 305 = .ok (.invokevirtual 40, 3) := by decide +kernel
theorem dc_LW_law_308 : decode cd_LW_law 308 = .ok (.aload_n 2, 1) := by decide +kernel
theorem dc_LW_law_309 : decode cd_LW_law 309 = .ok (.aload_n 0, 1) := by decide +kernel
theorem dc_LW_law_310 : decode cd_LW_law 310 = .ok (.iload_n 3, 1) := by decide +kernel
theorem dc_LW_law_311 : decode cd_LW_law 311 = .ok (.iconst 1, 1) := by decide +kernel
theorem dc_LW_law_312 : decode cd_LW_law 312 = .ok (.iadd, 1) := by decide +kernel
theorem dc_LW_law_313 : decode cd_LW_law 313 = .ok (.iaload, 1) := by decide +kernel
theorem dc_LW_law_314 : decode cd_LW_law 314 = .ok (.aload_n 0, 1) := by decide +kernel
theorem dc_LW_law_315 : decode cd_LW_law 315 = .ok (.iload_n 3, 1) := by decide +kernel
theorem dc_LW_law_316 : decode cd_LW_law 316 = .ok (.iconst 2, 1) := by decide +kernel
theorem dc_LW_law_317 : decode cd_LW_law 317 = .ok (.iadd, 1) := by decide +kernel
theorem dc_LW_law_318 : decode cd_LW_law 318 = .ok (.iaload, 1) := by decide +kernel
theorem dc_LW_law_319 : decode cd_LW_law 319 = .ok (.invokevirtual 44, 3) := by decide +kernel
theorem dc_LW_law_322 : decode cd_LW_law 322 = .ok (.lcmp, 1) := by decide +kernel
theorem dc_LW_law_323 : decode cd_LW_law 323 = .ok (.ifCond .eq 110, 3) := by decide +kernel
theorem dc_LW_law_326 : decode cd_LW_law 326 = .ok (.iconst 0, 1) := by decide +kernel
theorem dc_LW_law_327 : decode cd_LW_law 327 = .ok (.ireturn, 1) := by decide +kernel
theorem dc_LW_law_328 : decode cd_LW_law 328 = .ok (.aload_n 1, 1) := by decide +kernel
theorem dc_LW_law_329 : decode cd_LW_law 329 = .ok (.aload_n 0, 1) := by decide +kernel
theorem dc_LW_law_330 : decode cd_LW_law 330 = .ok (.iload_n 3, 1) := by decide +kernel
theorem dc_LW_law_331 : decode cd_LW_law 331 = .ok (.iconst 1, 1) := by decide +kernel
theorem dc_LW_law_332 : decode cd_LW_law 332 = .ok (.iadd, 1) := by decide +kernel
theorem dc_LW_law_333 : decode cd_LW_law 333 = .ok (.iaload, 1) := by decide +kernel
theorem dc_LW_law_334 : decode cd_LW_law 334 = .ok (.invokevirtual 45, 3) := by decide +kernel
theorem dc_LW_law_337 : decode cd_LW_law 337 = .ok (.aload_n 2, 1) := by decide +kernel
theorem dc_LW_law_338 : decode cd_LW_law 338 = .ok (.aload_n 0, 1) := by decide +kernel
theorem dc_LW_law_339 : decode cd_LW_law 339 = .ok (.iload_n 3, 1) := by decide +kernel
theorem dc_LW_law_340 : decode cd_LW_law 340 = .ok (.iconst 1, 1) := by decide +kernel
theorem dc_LW_law_341 : decode cd_LW_law 341 = .ok (.iadd, 1) := by decide +kernel
theorem dc_LW_law_342 : decode cd_LW_law 342 = .ok (.iaload, 1) := by decide +kernel
theorem dc_LW_law_343 : decode cd_LW_law 343 = .ok (.invokevirtual 48, 3) := by decide +kernel
theorem dc_LW_law_346 : decode cd_LW_law 346 = .ok (.if_icmp .eq 87, 3) := by decide +kernel
theorem dc_LW_law_349 : decode cd_LW_law 349 = .ok (.iconst 0, 1) := by decide +kernel
theorem dc_LW_law_350 : decode cd_LW_law 350 = .ok (.ireturn, 1) := by decide +kernel
theorem dc_LW_law_351 : decode cd_LW_law 351 = .ok (.aload_n 1, 1) := by decide +kernel
theorem dc_LW_law_352 : decode cd_LW_law 352 = .ok (.aload_n 0, 1) := by decide +kernel
theorem dc_LW_law_353 : decode cd_LW_law 353 = .ok (.iload_n 3, 1) := by decide +kernel
theorem dc_LW_law_354 : decode cd_LW_law 354 = .ok (.iconst 1, 1) := by decide +kernel
theorem dc_LW_law_355 : decode cd_LW_law 355 = .ok (.iadd, 1) := by decide +kernel
theorem dc_LW_law_356 : decode cd_LW_law 356 = .ok (.iaload, 1) := by decide +kernel
theorem dc_LW_law_357 : decode cd_LW_law 357 = .ok (.invokevirtual 49, 3) := by decide +kernel
theorem dc_LW_law_360 : decode cd_LW_law 360 = .ok (.aload_n 2, 1) := by decide +kernel
theorem dc_LW_law_361 : decode cd_LW_law 361 = .ok (.aload_n 0, 1) := by decide +kernel
theorem dc_LW_law_362 : decode cd_LW_law 362 = .ok (.iload_n 3, 1) := by decide +kernel
theorem dc_LW_law_363 : decode cd_LW_law 363 = .ok (.iconst 1, 1) := by decide +kernel
theorem dc_LW_law_364 : decode cd_LW_law 364 = .ok (.iadd, 1) := by decide +kernel
theorem dc_LW_law_365 : decode cd_LW_law 365 = .ok (.iaload, 1) := by decide +kernel
theorem dc_LW_law_366 : decode cd_LW_law 366 = .ok (.invokevirtual 52, 3) := by decide +kernel
theorem dc_LW_law_369 : decode cd_LW_law 369 = .ok (.if_icmp .eq 64, 3) := by decide +kernel
theorem dc_LW_law_372 : decode cd_LW_law 372 = .ok (.iconst 0, 1) := by decide +kernel
theorem dc_LW_law_373 : decode cd_LW_law 373 = .ok (.ireturn, 1) := by decide +kernel
theorem dc_LW_law_374 : decode cd_LW_law 374 = .ok (.aload_n 1, 1) := by decide +kernel
theorem dc_LW_law_375 : decode cd_LW_law 375 = .ok (.aload_n 0, 1) := by decide +kernel
theorem dc_LW_law_376 : decode cd_LW_law 376 = .ok (.iload_n 3, 1) := by decide +kernel
theorem dc_LW_law_377 : decode cd_LW_law 377 = .ok (.iconst 1, 1) := by decide +kernel
theorem dc_LW_law_378 : decode cd_LW_law 378 = .ok (.iadd, 1) := by decide +kernel
theorem dc_LW_law_379 : decode cd_LW_law 379 = .ok (.iaload, 1) := by decide +kernel
theorem dc_LW_law_380 : decode cd_LW_law 380 = .ok (.invokevirtual 53, 3) := by decide +kernel
theorem dc_LW_law_383 : decode cd_LW_law 383 = .ok (.aload_n 2, 1) := by decide +kernel
theorem dc_LW_law_384 : decode cd_LW_law 384 = .ok (.aload_n 0, 1) := by decide +kernel
theorem dc_LW_law_385 : decode cd_LW_law 385 = .ok (.iload_n 3, 1) := by decide +kernel
theorem dc_LW_law_386 : decode cd_LW_law 386 = .ok (.iconst 1, 1) := by decide +kernel
theorem dc_LW_law_387 : decode cd_LW_law 387 = .ok (.iadd, 1) := by decide +kernel
theorem dc_LW_law_388 : decode cd_LW_law 388 = .ok (.iaload, 1) := by decide +kernel
theorem dc_LW_law_389 : decode cd_LW_law 389 = .ok (.invokevirtual 56, 3) := by decide +kernel
theorem dc_LW_law_392 : decode cd_LW_law 392 = .ok (.if_icmp .eq 41, 3) := by decide +kernel
theorem dc_LW_law_395 : decode cd_LW_law 395 = .ok (.iconst 0, 1) := by decide +kernel
theorem dc_LW_law_396 : decode cd_LW_law 396 = .ok (.ireturn, 1) := by decide +kernel
theorem dc_LW_law_397 : decode cd_LW_law 397 = .ok (.aload_n 1, 1) := by decide +kernel
theorem dc_LW_law_398 : decode cd_LW_law 398 = .ok (.invokevirtual 57, 3) := by decide +kernel
theorem dc_LW_law_401 : decode cd_LW_law 401 = .ok (.aload_n 2, 1) := by decide +kernel
theorem dc_LW_law_402 : decode cd_LW_law 402 = .ok (.invokevirtual 61, 3) := by decide +kernel
theorem dc_LW_law_405 : decode cd_LW_law 405 = .ok (.if_icmp .eq 28, 3) := by decide +kernel
theorem dc_LW_law_408 : decode cd_LW_law 408 = .ok (.iconst 0, 1) := by decide +kernel
theorem dc_LW_law_409 : decode cd_LW_law 409 = .ok (.ireturn, 1) := by decide +kernel
theorem dc_LW_law_410 : decode cd_LW_law 410 = .ok (.aload_n 1, 1) := by decide +kernel
theorem dc_LW_law_411 : decode cd_LW_law 411 = .ok (.aload_n 0, 1) := by decide +kernel
theorem dc_LW_law_412 : decode cd_LW_law 412 = .ok (.iload_n 3, 1) := by decide +kernel
theorem dc_LW_law_413 : decode cd_LW_law 413 = .ok (.iconst 1, 1) := by decide +kernel
theorem dc_LW_law_414 : decode cd_LW_law 414 = .ok (.iadd, 1) := by decide +kernel
theorem dc_LW_law_415 : decode cd_LW_law 415 = .ok (.iaload, 1) := by decide +kernel
theorem dc_LW_law_416 : decode cd_LW_law 416 = .ok (.invokevirtual 62, 3) := by decide +kernel
theorem dc_LW_law_419 : decode cd_LW_law 419 = .ok (.aload_n 2, 1) := by decide +kernel
theorem dc_LW_law_420 : decode cd_LW_law 420 = .ok (.aload_n 0, 1) := by decide +kernel
theorem dc_LW_law_421 : decode cd_LW_law 421 = .ok (.iload_n 3, 1) := by decide +kernel
theorem dc_LW_law_422 : decode cd_LW_law 422 = .ok (.iconst 1, 1) := by decide +kernel
theorem dc_LW_law_423 : decode cd_LW_law 423 = .ok (.iadd, 1) := by decide +kernel
theorem dc_LW_law_424 : decode cd_LW_law 424 = .ok (.iaload, 1) := by decide +kernel
theorem dc_LW_law_425 : decode cd_LW_law 425 = .ok (.invokevirtual 65, 3) := by decide +kernel
theorem dc_LW_law_428 : decode cd_LW_law 428 = .ok (.if_icmp .eq 5, 3) := by decide +kernel
theorem dc_LW_law_431 : decode cd_LW_law 431 = .ok (.iconst 0, 1) := by decide +kernel
theorem dc_LW_law_432 : decode cd_LW_law 432 = .ok (.ireturn, 1) := by decide +kernel
theorem dc_LW_law_433 : decode cd_LW_law 433 = .ok (.iinc 3 4, 3) := by decide +kernel
theorem dc_LW_law_436 : decode cd_LW_law 436 = .ok (.goto (-418), 3) := by decide +kernel
theorem dc_LW_law_439 : decode cd_LW_law 439 = .ok (.iconst 1, 1) := by decide +kernel
theorem dc_LW_law_440 : decode cd_LW_law 440 = .ok (.ireturn, 1) := by decide +kernel
