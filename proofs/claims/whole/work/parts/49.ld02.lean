theorem d_LW_law_249 : decode b_LW_law 249 = .ok (.aload_n 3, 1) := by decide +kernel
theorem d_LW_law_250 : decode b_LW_law 250 = .ok (.invokestatic 89, 3) := by decide +kernel
theorem d_LW_law_253 : decode b_LW_law 253 = .ok (.istore 5, 2) := by decide +kernel
theorem d_LW_law_255 : decode b_LW_law 255 = .ok (.aload_n 2, 1) := by decide +kernel
theorem d_LW_law_256 : decode b_LW_law 256 = .ok (.aload_n 0, 1) := by decide +kernel
theorem d_LW_law_257 : decode b_LW_law 257 = .ok (.iload 4, 2) := by decide +kernel
theorem d_LW_law_259 : decode b_LW_law 259 = .ok (.iconst 1, 1) := by decide +kernel
theorem d_LW_law_260 : decode b_LW_law 260 = .ok (.iadd, 1) := by decide +kernel
theorem d_LW_law_261 : decode b_LW_law 261 = .ok (.iaload, 1) := by decide +kernel
theorem d_LW_law_262 : decode b_LW_law 262 = .ok (.aload_n 0, 1) := by decide +kernel
theorem d_LW_law_263 : decode b_LW_law 263 = .ok (.iload 4, 2) := by decide +kernel
theorem d_LW_law_265 : decode b_LW_law 265 = .ok (.iconst 2, 1) := by decide +kernel
theorem d_LW_law_266 : decode b_LW_law 266 = .ok (.iadd, 1) := by decide +kernel
theorem d_LW_law_267 : decode b_LW_law 267 = .ok (.iaload, 1) := by decide +kernel
theorem d_LW_law_268 : decode b_LW_law 268 = .ok (.aload_n 0, 1) := by decide +kernel
theorem d_LW_law_269 : decode b_LW_law 269 = .ok (.iload 4, 2) := by decide +kernel
theorem d_LW_law_271 : decode b_LW_law 271 = .ok (.iconst 3, 1) := by decide +kernel
theorem d_LW_law_272 : decode b_LW_law 272 = .ok (.iadd, 1) := by decide +kernel
theorem d_LW_law_273 : decode b_LW_law 273 = .ok (.iaload, 1) := by decide +kernel
theorem d_LW_law_274 : decode b_LW_law 274 = .ok (.aload_n 0, 1) := by decide +kernel
theorem d_LW_law_275 : decode b_LW_law 275 = .ok (.iload 4, 2) := by decide +kernel
theorem d_LW_law_277 : decode b_LW_law 277 = .ok (.iconst 4, 1) := by decide +kernel
theorem d_LW_law_278 : decode b_LW_law 278 = .ok (.iadd, 1) := by decide +kernel
theorem d_LW_law_279 : decode b_LW_law 279 = .ok (.iaload, 1) := by decide +kernel
theorem d_LW_law_280 : decode b_LW_law 280 = .ok (.invokevirtual 92, 3) := by decide +kernel
theorem d_LW_law_283 : decode b_LW_law 283 = .ok (.istore 6, 2) := by decide +kernel
theorem d_LW_law_285 : decode b_LW_law 285 = .ok (.aload_n 2, 1) := by decide +kernel
theorem d_LW_law_286 : decode b_LW_law 286 = .ok (.invokevirtual 81, 3) := by decide +kernel
theorem d_LW_law_289 : decode b_LW_law 289 = .ok (.iload 5, 2) := by decide +kernel
theorem d_LW_law_291 : decode b_LW_law 291 = .ok (.if_icmp .eq 5, 3) := by decide +kernel
theorem d_LW_law_294 : decode b_LW_law 294 = .ok (.iconst 0, 1) := by decide +kernel
theorem d_LW_law_295 : decode b_LW_law 295 = .ok (.ireturn, 1) := by decide +kernel
theorem d_LW_law_296 : decode b_LW_law 296 = .ok (.iload 5, 2) := by decide +kernel
theorem d_LW_law_298 : decode b_LW_law 298 = .ok (.ifCond .ne 15, 3) := by decide +kernel
theorem d_LW_law_301 : decode b_LW_law 301 = .ok (.aload_n 3, 1) := by decide +kernel
theorem d_LW_law_302 : decode b_LW_law 302 = .ok (.iconst 0, 1) := by decide +kernel
theorem d_LW_law_303 : decode b_LW_law 303 = .ok (.laload, 1) := by decide +kernel
theorem d_LW_law_304 : decode b_LW_law 304 = .ok (.iload 6, 2) := by decide +kernel
theorem d_LW_law_306 : decode b_LW_law 306 = .ok (.i2l, 1) := by decide +kernel
theorem d_LW_law_307 : decode b_LW_law 307 = .ok (.lcmp, 1) := by decide +kernel
theorem d_LW_law_308 : decode b_LW_law 308 = .ok (.ifCond .eq 5, 3) := by decide +kernel
theorem d_LW_law_311 : decode b_LW_law 311 = .ok (.iconst 0, 1) := by decide +kernel
theorem d_LW_law_312 : decode b_LW_law 312 = .ok (.ireturn, 1) := by decide +kernel
theorem d_LW_law_313 : decode b_LW_law 313 = .ok (.goto 838, 3) := by decide +kernel
theorem d_LW_law_316 : decode b_LW_law 316 = .ok (.aload_n 1, 1) := by decide +kernel
theorem d_LW_law_317 : decode b_LW_law 317 = .ok (.aload_n 0, 1) := by decide +kernel
theorem d_LW_law_318 : decode b_LW_law 318 = .ok (.iload 4, 2) := by decide +kernel
theorem d_LW_law_320 : decode b_LW_law 320 = .ok (.iconst 1, 1) := by decide +kernel
theorem d_LW_law_321 : decode b_LW_law 321 = .ok (.iadd, 1) := by decide +kernel
theorem d_LW_law_322 : decode b_LW_law 322 = .ok (.iaload, 1) := by decide +kernel
theorem d_LW_law_323 : decode b_LW_law 323 = .ok (.aload_n 3, 1) := by decide +kernel
theorem d_LW_law_324 : decode b_LW_law 324 = .ok (.invokestatic 93, 3) := by decide +kernel
theorem d_LW_law_327 : decode b_LW_law 327 = .ok (.istore 5, 2) := by decide +kernel
theorem d_LW_law_329 : decode b_LW_law 329 = .ok (.aload_n 2, 1) := by decide +kernel
theorem d_LW_law_330 : decode b_LW_law 330 = .ok (.aload_n 0, 1) := by decide +kernel
theorem d_LW_law_331 : decode b_LW_law 331 = .ok (.iload 4, 2) := by decide +kernel
theorem d_LW_law_333 : decode b_LW_law 333 = .ok (.iconst 1, 1) := by decide +kernel
theorem d_LW_law_334 : decode b_LW_law 334 = .ok (.iadd, 1) := by decide +kernel
theorem d_LW_law_335 : decode b_LW_law 335 = .ok (.iaload, 1) := by decide +kernel
theorem d_LW_law_336 : decode b_LW_law 336 = .ok (.invokevirtual 96, 3) := by decide +kernel
