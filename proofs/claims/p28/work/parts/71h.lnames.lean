theorem dL_isActed_225 : decode cL_isActed 225 = .ok (.aload_n 1, 1) := by decide +kernel
theorem dL_isActed_226 : decode cL_isActed 226 = .ok (.aload_n 2, 1) := by decide +kernel
theorem dL_isActed_227 : decode cL_isActed 227 = .ok (.aload_n 3, 1) := by decide +kernel
theorem dL_isActed_228 : decode cL_isActed 228 = .ok (.aload 4, 2) := by decide +kernel
theorem dL_isActed_230 : decode cL_isActed 230 = .ok (.aload 5, 2) := by decide +kernel
theorem dL_isActed_232 : decode cL_isActed 232 = .ok (.aload 6, 2) := by decide +kernel
theorem dL_isActed_234 : decode cL_isActed 234 = .ok (.iload 9, 2) := by decide +kernel
theorem dL_isActed_236 : decode cL_isActed 236 = .ok (.invokestatic 95, 3) := by decide +kernel
theorem dL_isActed_239 : decode cL_isActed 239 = .ok (.istore 10, 2) := by decide +kernel
theorem dL_isActed_241 : decode cL_isActed 241 = .ok (.aload_n 0, 1) := by decide +kernel
theorem dL_isActed_242 : decode cL_isActed 242 = .ok (.iload 9, 2) := by decide +kernel
theorem dL_isActed_244 : decode cL_isActed 244 = .ok (.invokevirtual 99, 3) := by decide +kernel
theorem dL_isActed_247 : decode cL_isActed 247 = .ok (.iload 10, 2) := by decide +kernel
theorem dL_isActed_249 : decode cL_isActed 249 = .ok (.if_icmp .ne 7, 3) := by decide +kernel
theorem dL_isActed_252 : decode cL_isActed 252 = .ok (.iconst 1, 1) := by decide +kernel
theorem dL_isActed_253 : decode cL_isActed 253 = .ok (.goto 4, 3) := by decide +kernel
theorem dL_isActed_256 : decode cL_isActed 256 = .ok (.iconst 0, 1) := by decide +kernel
theorem dL_isActed_257 : decode cL_isActed 257 = .ok (.ireturn, 1) := by decide +kernel
theorem dL_isActed_258 : decode cL_isActed 258 = .ok (.iload 7, 2) := by decide +kernel
theorem dL_isActed_260 : decode cL_isActed 260 = .ok (.bipush 19, 2) := by decide +kernel
theorem dL_isActed_262 : decode cL_isActed 262 = .ok (.if_icmp .ge 34, 3) := by decide +kernel
theorem dL_isActed_265 : decode cL_isActed 265 = .ok (.aload_n 1, 1) := by decide +kernel
theorem dL_isActed_266 : decode cL_isActed 266 = .ok (.bipush 8, 2) := by decide +kernel
theorem dL_isActed_268 : decode cL_isActed 268 = .ok (.iaload, 1) := by decide +kernel
theorem dL_isActed_269 : decode cL_isActed 269 = .ok (.istore 9, 2) := by decide +kernel
theorem dL_isActed_271 : decode cL_isActed 271 = .ok (.aload_n 1, 1) := by decide +kernel
theorem dL_isActed_272 : decode cL_isActed 272 = .ok (.bipush 7, 2) := by decide +kernel
theorem dL_isActed_274 : decode cL_isActed 274 = .ok (.iconst 0, 1) := by decide +kernel
theorem dL_isActed_275 : decode cL_isActed 275 = .ok (.iastore, 1) := by decide +kernel
theorem dL_isActed_276 : decode cL_isActed 276 = .ok (.aload_n 1, 1) := by decide +kernel
theorem dL_isActed_277 : decode cL_isActed 277 = .ok (.bipush 8, 2) := by decide +kernel
theorem dL_isActed_279 : decode cL_isActed 279 = .ok (.iconst 0, 1) := by decide +kernel
theorem dL_isActed_280 : decode cL_isActed 280 = .ok (.iastore, 1) := by decide +kernel
theorem dL_isActed_281 : decode cL_isActed 281 = .ok (.aload_n 0, 1) := by decide +kernel
theorem dL_isActed_282 : decode cL_isActed 282 = .ok (.invokevirtual 102, 3) := by decide +kernel
theorem dL_isActed_285 : decode cL_isActed 285 = .ok (.iload 9, 2) := by decide +kernel
theorem dL_isActed_287 : decode cL_isActed 287 = .ok (.if_icmp .ne 7, 3) := by decide +kernel
theorem dL_isActed_290 : decode cL_isActed 290 = .ok (.iconst 1, 1) := by decide +kernel
theorem dL_isActed_291 : decode cL_isActed 291 = .ok (.goto 4, 3) := by decide +kernel
theorem dL_isActed_294 : decode cL_isActed 294 = .ok (.iconst 0, 1) := by decide +kernel
theorem dL_isActed_295 : decode cL_isActed 295 = .ok (.ireturn, 1) := by decide +kernel
theorem dL_isActed_296 : decode cL_isActed 296 = .ok (.iload 7, 2) := by decide +kernel
theorem dL_isActed_298 : decode cL_isActed 298 = .ok (.bipush 19, 2) := by decide +kernel
theorem dL_isActed_300 : decode cL_isActed 300 = .ok (.if_icmp .ne 36, 3) := by decide +kernel
theorem dL_isActed_303 : decode cL_isActed 303 = .ok (.iload 8, 2) := by decide +kernel
theorem dL_isActed_305 : decode cL_isActed 305 = .ok (.iconst 3, 1) := by decide +kernel
theorem dL_isActed_306 : decode cL_isActed 306 = .ok (.irem, 1) := by decide +kernel
theorem dL_isActed_307 : decode cL_isActed 307 = .ok (.ifCond .ne 29, 3) := by decide +kernel
theorem dL_isActed_310 : decode cL_isActed 310 = .ok (.aload_n 1, 1) := by decide +kernel
theorem dL_isActed_311 : decode cL_isActed 311 = .ok (.aload 4, 2) := by decide +kernel
theorem dL_isActed_313 : decode cL_isActed 313 = .ok (.aload 5, 2) := by decide +kernel
theorem dL_isActed_315 : decode cL_isActed 315 = .ok (.iconst (-1), 1) := by decide +kernel
theorem dL_isActed_316 : decode cL_isActed 316 = .ok (.invokestatic 35, 3) := by decide +kernel
theorem dL_isActed_319 : decode cL_isActed 319 = .ok (.istore 9, 2) := by decide +kernel
theorem dL_isActed_321 : decode cL_isActed 321 = .ok (.aload_n 0, 1) := by decide +kernel
theorem dL_isActed_322 : decode cL_isActed 322 = .ok (.invokevirtual 106, 3) := by decide +kernel
theorem dL_isActed_325 : decode cL_isActed 325 = .ok (.iload 9, 2) := by decide +kernel
theorem dL_isActed_327 : decode cL_isActed 327 = .ok (.if_icmp .ne 7, 3) := by decide +kernel
theorem dL_isActed_330 : decode cL_isActed 330 = .ok (.iconst 1, 1) := by decide +kernel
theorem dL_isActed_331 : decode cL_isActed 331 = .ok (.goto 4, 3) := by decide +kernel
theorem dL_isActed_334 : decode cL_isActed 334 = .ok (.iconst 0, 1) := by decide +kernel
theorem dL_isActed_335 : decode cL_isActed 335 = .ok (.ireturn, 1) := by decide +kernel
theorem dL_isActed_336 : decode cL_isActed 336 = .ok (.aload_n 0, 1) := by decide +kernel
theorem dL_isActed_337 : decode cL_isActed 337 = .ok (.aload_n 1, 1) := by decide +kernel
theorem dL_isActed_338 : decode cL_isActed 338 = .ok (.aload_n 2, 1) := by decide +kernel
theorem dL_isActed_339 : decode cL_isActed 339 = .ok (.aload 4, 2) := by decide +kernel
theorem dL_isActed_341 : decode cL_isActed 341 = .ok (.aload 5, 2) := by decide +kernel
theorem dL_isActed_343 : decode cL_isActed 343 = .ok (.aload 6, 2) := by decide +kernel
theorem dL_isActed_345 : decode cL_isActed 345 = .ok (.iload 8, 2) := by decide +kernel
theorem dL_isActed_347 : decode cL_isActed 347 = .ok (.iconst 5, 1) := by decide +kernel
theorem dL_isActed_348 : decode cL_isActed 348 = .ok (.irem, 1) := by decide +kernel
theorem dL_isActed_349 : decode cL_isActed 349 = .ok (.iload 8, 2) := by decide +kernel
theorem dL_isActed_351 : decode cL_isActed 351 = .ok (.iconst 5, 1) := by decide +kernel
theorem dL_isActed_352 : decode cL_isActed 352 = .ok (.idiv, 1) := by decide +kernel
theorem dL_isActed_353 : decode cL_isActed 353 = .ok (.invokestatic 109, 3) := by decide +kernel
theorem dL_isActed_356 : decode cL_isActed 356 = .ok (.ireturn, 1) := by decide +kernel
