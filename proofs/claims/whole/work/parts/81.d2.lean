/-! law: decode rows -/
theorem dLW_law_214 : decode cLW_law 214 = .ok (.iaload, 1) := by decide +kernel
theorem dLW_law_215 : decode cLW_law 215 = .ok (.aload_n 3, 1) := by decide +kernel
theorem dLW_law_216 : decode cLW_law 216 = .ok (.invokestatic 80, 3) := by decide +kernel
theorem dLW_law_219 : decode cLW_law 219 = .ok (.istore 5, 2) := by decide +kernel
theorem dLW_law_221 : decode cLW_law 221 = .ok (.aload_n 2, 1) := by decide +kernel
theorem dLW_law_222 : decode cLW_law 222 = .ok (.aload_n 0, 1) := by decide +kernel
theorem dLW_law_223 : decode cLW_law 223 = .ok (.iload 4, 2) := by decide +kernel
theorem dLW_law_225 : decode cLW_law 225 = .ok (.iconst 1, 1) := by decide +kernel
theorem dLW_law_226 : decode cLW_law 226 = .ok (.iadd, 1) := by decide +kernel
theorem dLW_law_227 : decode cLW_law 227 = .ok (.iaload, 1) := by decide +kernel
theorem dLW_law_228 : decode cLW_law 228 = .ok (.invokevirtual 83, 3) := by decide +kernel
theorem dLW_law_231 : decode cLW_law 231 = .ok (.istore 6, 2) := by decide +kernel
theorem dLW_law_233 : decode cLW_law 233 = .ok (.aload_n 2, 1) := by decide +kernel
theorem dLW_law_234 : decode cLW_law 234 = .ok (.invokevirtual 76, 3) := by decide +kernel
theorem dLW_law_237 : decode cLW_law 237 = .ok (.iload 5, 2) := by decide +kernel
theorem dLW_law_239 : decode cLW_law 239 = .ok (.if_icmp .eq 5, 3) := by decide +kernel
theorem dLW_law_242 : decode cLW_law 242 = .ok (.iconst 0, 1) := by decide +kernel
theorem dLW_law_243 : decode cLW_law 243 = .ok (.ireturn, 1) := by decide +kernel
theorem dLW_law_244 : decode cLW_law 244 = .ok (.iload 5, 2) := by decide +kernel
theorem dLW_law_246 : decode cLW_law 246 = .ok (.ifCond .ne 15, 3) := by decide +kernel
theorem dLW_law_249 : decode cLW_law 249 = .ok (.aload_n 3, 1) := by decide +kernel
theorem dLW_law_250 : decode cLW_law 250 = .ok (.iconst 0, 1) := by decide +kernel
theorem dLW_law_251 : decode cLW_law 251 = .ok (.laload, 1) := by decide +kernel
theorem dLW_law_252 : decode cLW_law 252 = .ok (.iload 6, 2) := by decide +kernel
theorem dLW_law_254 : decode cLW_law 254 = .ok (.i2l, 1) := by decide +kernel
theorem dLW_law_255 : decode cLW_law 255 = .ok (.lcmp, 1) := by decide +kernel
theorem dLW_law_256 : decode cLW_law 256 = .ok (.ifCond .eq 5, 3) := by decide +kernel
theorem dLW_law_259 : decode cLW_law 259 = .ok (.iconst 0, 1) := by decide +kernel
theorem dLW_law_260 : decode cLW_law 260 = .ok (.ireturn, 1) := by decide +kernel
theorem dLW_law_261 : decode cLW_law 261 = .ok (.goto 1081, 3) := by decide +kernel
theorem dLW_law_264 : decode cLW_law 264 = .ok (.aload_n 1, 1) := by decide +kernel
theorem dLW_law_265 : decode cLW_law 265 = .ok (.aload_n 0, 1) := by decide +kernel
theorem dLW_law_266 : decode cLW_law 266 = .ok (.iload 4, 2) := by decide +kernel
theorem dLW_law_268 : decode cLW_law 268 = .ok (.iconst 1, 1) := by decide +kernel
theorem dLW_law_269 : decode cLW_law 269 = .ok (.iadd, 1) := by decide +kernel
theorem dLW_law_270 : decode cLW_law 270 = .ok (.iaload, 1) := by decide +kernel
theorem dLW_law_271 : decode cLW_law 271 = .ok (.aload_n 0, 1) := by decide +kernel
theorem dLW_law_272 : decode cLW_law 272 = .ok (.iload 4, 2) := by decide +kernel
theorem dLW_law_274 : decode cLW_law 274 = .ok (.iconst 2, 1) := by decide +kernel
theorem dLW_law_275 : decode cLW_law 275 = .ok (.iadd, 1) := by decide +kernel
theorem dLW_law_276 : decode cLW_law 276 = .ok (.iaload, 1) := by decide +kernel
theorem dLW_law_277 : decode cLW_law 277 = .ok (.i2l, 1) := by decide +kernel
theorem dLW_law_278 : decode cLW_law 278 = .ok (.bipush 32, 2) := by decide +kernel
theorem dLW_law_280 : decode cLW_law 280 = .ok (.lshl, 1) := by decide +kernel
theorem dLW_law_281 : decode cLW_law 281 = .ok (.aload_n 0, 1) := by decide +kernel
theorem dLW_law_282 : decode cLW_law 282 = .ok (.iload 4, 2) := by decide +kernel
theorem dLW_law_284 : decode cLW_law 284 = .ok (.iconst 3, 1) := by decide +kernel
theorem dLW_law_285 : decode cLW_law 285 = .ok (.iadd, 1) := by decide +kernel
theorem dLW_law_286 : decode cLW_law 286 = .ok (.iaload, 1) := by decide +kernel
theorem dLW_law_287 : decode cLW_law 287 = .ok (.i2l, 1) := by decide +kernel
theorem dLW_law_288 : decode cLW_law 288 = .ok (.ldc2_w 68, 3) := by decide +kernel
theorem dLW_law_291 : decode cLW_law 291 = .ok (.land, 1) := by decide +kernel
theorem dLW_law_292 : decode cLW_law 292 = .ok (.lor, 1) := by decide +kernel
theorem dLW_law_293 : decode cLW_law 293 = .ok (.aload_n 0, 1) := by decide +kernel
theorem dLW_law_294 : decode cLW_law 294 = .ok (.iload 4, 2) := by decide +kernel
theorem dLW_law_296 : decode cLW_law 296 = .ok (.iconst 4, 1) := by decide +kernel
theorem dLW_law_297 : decode cLW_law 297 = .ok (.iadd, 1) := by decide +kernel
theorem dLW_law_298 : decode cLW_law 298 = .ok (.iaload, 1) := by decide +kernel
theorem dLW_law_299 : decode cLW_law 299 = .ok (.i2l, 1) := by decide +kernel
theorem dLW_law_300 : decode cLW_law 300 = .ok (.bipush 32, 2) := by decide +kernel
theorem dLW_law_302 : decode cLW_law 302 = .ok (.lshl, 1) := by decide +kernel
theorem dLW_law_303 : decode cLW_law 303 = .ok (.aload_n 0, 1) := by decide +kernel
theorem dLW_law_304 : decode cLW_law 304 = .ok (.iload 4, 2) := by decide +kernel
theorem dLW_law_306 : decode cLW_law 306 = .ok (.iconst 5, 1) := by decide +kernel
theorem dLW_law_307 : decode cLW_law 307 = .ok (.iadd, 1) := by decide +kernel
theorem dLW_law_308 : decode cLW_law 308 = .ok (.iaload, 1) := by decide +kernel
theorem dLW_law_309 : decode cLW_law 309 = .ok (.i2l, 1) := by decide +kernel
theorem dLW_law_310 : decode cLW_law 310 = .ok (.ldc2_w 68, 3) := by decide +kernel
theorem dLW_law_313 : decode cLW_law 313 = .ok (.land, 1) := by decide +kernel
theorem dLW_law_314 : decode cLW_law 314 = .ok (.lor, 1) := by decide +kernel
theorem dLW_law_315 : decode cLW_law 315 = .ok (.aload_n 0, 1) := by decide +kernel
theorem dLW_law_316 : decode cLW_law 316 = .ok (.iload 4, 2) := by decide +kernel
theorem dLW_law_318 : decode cLW_law 318 = .ok (.bipush 6, 2) := by decide +kernel
theorem dLW_law_320 : decode cLW_law 320 = .ok (.iadd, 1) := by decide +kernel
theorem dLW_law_321 : decode cLW_law 321 = .ok (.iaload, 1) := by decide +kernel
theorem dLW_law_322 : decode cLW_law 322 = .ok (.i2l, 1) := by decide +kernel
theorem dLW_law_323 : decode cLW_law 323 = .ok (.bipush 32, 2) := by decide +kernel
theorem dLW_law_325 : decode cLW_law 325 = .ok (.lshl, 1) := by decide +kernel
theorem dLW_law_326 : decode cLW_law 326 = .ok (.aload_n 0, 1) := by decide +kernel
theorem dLW_law_327 : decode cLW_law 327 = .ok (.iload 4, 2) := by decide +kernel
theorem dLW_law_329 : decode cLW_law 329 = .ok (.bipush 7, 2) := by decide +kernel
theorem dLW_law_331 : decode cLW_law 331 = .ok (.iadd, 1) := by decide +kernel
theorem dLW_law_332 : decode cLW_law 332 = .ok (.iaload, 1) := by decide +kernel
theorem dLW_law_333 : decode cLW_law 333 = .ok (.i2l, 1) := by decide +kernel
theorem dLW_law_334 : decode cLW_law 334 = .ok (.ldc2_w 68, 3) := by decide +kernel
theorem dLW_law_337 : decode cLW_law 337 = .ok (.land, 1) := by decide +kernel
theorem dLW_law_338 : decode cLW_law 338 = .ok (.lor, 1) := by decide +kernel
theorem dLW_law_339 : decode cLW_law 339 = .ok (.aload_n 0, 1) := by decide +kernel
theorem dLW_law_340 : decode cLW_law 340 = .ok (.iload 4, 2) := by decide +kernel
theorem dLW_law_342 : decode cLW_law 342 = .ok (.bipush 8, 2) := by decide +kernel
theorem dLW_law_344 : decode cLW_law 344 = .ok (.iadd, 1) := by decide +kernel
theorem dLW_law_345 : decode cLW_law 345 = .ok (.iaload, 1) := by decide +kernel
theorem dLW_law_346 : decode cLW_law 346 = .ok (.i2l, 1) := by decide +kernel
theorem dLW_law_347 : decode cLW_law 347 = .ok (.bipush 32, 2) := by decide +kernel
theorem dLW_law_349 : decode cLW_law 349 = .ok (.lshl, 1) := by decide +kernel
theorem dLW_law_350 : decode cLW_law 350 = .ok (.aload_n 0, 1) := by decide +kernel
