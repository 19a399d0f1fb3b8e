abbrev m_LW_law : fw_M := (⟨"FolderRightsLaw", "law", "([I)Z"⟩, code, 7, some .boolean, { frames := 12, cells := 601024, slots := 7293034, locals := 460 }, [])
theorem d_LW_law_0 : decode m_LW_law.2.1 0 = .ok (.new 8, 3) := by decide +kernel
theorem d_LW_law_3 : decode m_LW_law.2.1 3 = .ok (.dup, 1) := by decide +kernel
theorem d_LW_law_4 : decode m_LW_law.2.1 4 = .ok (.invokespecial 82, 3) := by decide +kernel
theorem d_LW_law_7 : decode m_LW_law.2.1 7 = .ok (.astore_n 1, 1) := by decide +kernel
theorem d_LW_law_8 : decode m_LW_law.2.1 8 = .ok (.new 83, 3) := by decide +kernel
theorem d_LW_law_11 : decode m_LW_law.2.1 11 = .ok (.dup, 1) := by decide +kernel
theorem d_LW_law_12 : decode m_LW_law.2.1 12 = .ok (.invokespecial 85, 3) := by decide +kernel
theorem d_LW_law_15 : decode m_LW_law.2.1 15 = .ok (.astore_n 2, 1) := by decide +kernel
theorem d_LW_law_16 : decode m_LW_law.2.1 16 = .ok (.iconst 1, 1) := by decide +kernel
theorem d_LW_law_17 : decode m_LW_law.2.1 17 = .ok (.newarray .long, 2) := by decide +kernel
theorem d_LW_law_19 : decode m_LW_law.2.1 19 = .ok (.astore_n 3, 1) := by decide +kernel
theorem d_LW_law_20 : decode m_LW_law.2.1 20 = .ok (.iconst 0, 1) := by decide +kernel
theorem d_LW_law_21 : decode m_LW_law.2.1 21 = .ok (.istore 4, 2) := by decide +kernel
theorem d_LW_law_23 : decode m_LW_law.2.1 23 = .ok (.iload 4, 2) := by decide +kernel
theorem d_LW_law_25 : decode m_LW_law.2.1 25 = .ok (.aload_n 0, 1) := by decide +kernel
theorem d_LW_law_26 : decode m_LW_law.2.1 26 = .ok (.arraylength, 1) := by decide +kernel
theorem d_LW_law_27 : decode m_LW_law.2.1 27 = .ok (.bipush 8, 2) := by decide +kernel
theorem d_LW_law_29 : decode m_LW_law.2.1 29 = .ok (.isub, 1) := by decide +kernel
theorem d_LW_law_30 : decode m_LW_law.2.1 30 = .ok (.if_icmp .gt 1641, 3) := by decide +kernel
theorem d_LW_law_33 : decode m_LW_law.2.1 33 = .ok (.aload_n 0, 1) := by decide +kernel
theorem d_LW_law_34 : decode m_LW_law.2.1 34 = .ok (.iload 4, 2) := by decide +kernel
theorem d_LW_law_36 : decode m_LW_law.2.1 36 = .ok (.iaload, 1) := by decide +kernel
theorem d_LW_law_37 : decode m_LW_law.2.1 37 = .ok (.bipush 31, 2) := by decide +kernel
theorem d_LW_law_39 : decode m_LW_law.2.1 39 = .ok (.iand, 1) := by decide +kernel
theorem d_LW_law_40 : decode m_LW_law.2.1 40 = .ok (.tableswitch 1625 0 20 #[100, 144, 188, 291, 394, 490, 558, 614, 778, 846, 937, 1005, 1073, 1165, 1245, 1325, 1400, 1413, 1426, 1501, 1569], 100) := by decide +kernel
theorem d_LW_law_140 : decode m_LW_law.2.1 140 = .ok (.aload_n 1, 1) := by decide +kernel
theorem d_LW_law_141 : decode m_LW_law.2.1 141 = .ok (.aload_n 3, 1) := by decide +kernel
theorem d_LW_law_142 : decode m_LW_law.2.1 142 = .ok (.invokestatic 86, 3) := by decide +kernel
theorem d_LW_law_145 : decode m_LW_law.2.1 145 = .ok (.istore 5, 2) := by decide +kernel
theorem d_LW_law_147 : decode m_LW_law.2.1 147 = .ok (.aload_n 2, 1) := by decide +kernel
theorem d_LW_law_148 : decode m_LW_law.2.1 148 = .ok (.invokevirtual 91, 3) := by decide +kernel
theorem d_LW_law_151 : decode m_LW_law.2.1 151 = .ok (.istore 6, 2) := by decide +kernel
theorem d_LW_law_153 : decode m_LW_law.2.1 153 = .ok (.aload_n 2, 1) := by decide +kernel
theorem d_LW_law_154 : decode m_LW_law.2.1 154 = .ok (.invokevirtual 92, 3) := by decide +kernel
theorem d_LW_law_157 : decode m_LW_law.2.1 157 = .ok (.iload 5, 2) := by decide +kernel
theorem d_LW_law_159 : decode m_LW_law.2.1 159 = .ok (.if_icmp .eq 5, 3) := by decide +kernel
theorem d_LW_law_162 : decode m_LW_law.2.1 162 = .ok (.iconst 0, 1) := by decide +kernel
theorem d_LW_law_163 : decode m_LW_law.2.1 163 = .ok (.ireturn, 1) := by decide +kernel
theorem d_LW_law_164 : decode m_LW_law.2.1 164 = .ok (.iload 5, 2) := by decide +kernel
theorem d_LW_law_166 : decode m_LW_law.2.1 166 = .ok (.ifCond .ne 15, 3) := by decide +kernel
theorem d_LW_law_169 : decode m_LW_law.2.1 169 = .ok (.aload_n 3, 1) := by decide +kernel
theorem d_LW_law_170 : decode m_LW_law.2.1 170 = .ok (.iconst 0, 1) := by decide +kernel
theorem d_LW_law_171 : decode m_LW_law.2.1 171 = .ok (.laload, 1) := by decide +kernel
theorem d_LW_law_172 : decode m_LW_law.2.1 172 = .ok (.iload 6, 2) := by decide +kernel
theorem d_LW_law_174 : decode m_LW_law.2.1 174 = .ok (.i2l, 1) := by decide +kernel
theorem d_LW_law_175 : decode m_LW_law.2.1 175 = .ok (.lcmp, 1) := by decide +kernel
theorem d_LW_law_176 : decode m_LW_law.2.1 176 = .ok (.ifCond .eq 5, 3) := by decide +kernel
theorem d_LW_law_179 : decode m_LW_law.2.1 179 = .ok (.iconst 0, 1) := by decide +kernel
theorem d_LW_law_180 : decode m_LW_law.2.1 180 = .ok (.ireturn, 1) := by decide +kernel
theorem d_LW_law_181 : decode m_LW_law.2.1 181 = .ok (.goto 1484, 3) := by decide +kernel
theorem d_LW_law_184 : decode m_LW_law.2.1 184 = .ok (.aload_n 1, 1) := by decide +kernel
theorem d_LW_law_185 : decode m_LW_law.2.1 185 = .ok (.aload_n 3, 1) := by decide +kernel
theorem d_LW_law_186 : decode m_LW_law.2.1 186 = .ok (.invokestatic 95, 3) := by decide +kernel
theorem d_LW_law_189 : decode m_LW_law.2.1 189 = .ok (.istore 5, 2) := by decide +kernel
theorem d_LW_law_191 : decode m_LW_law.2.1 191 = .ok (.aload_n 2, 1) := by decide +kernel
theorem d_LW_law_192 : decode m_LW_law.2.1 192 = .ok (.invokevirtual 97, 3) := by decide +kernel
theorem d_LW_law_195 : decode m_LW_law.2.1 195 = .ok (.istore 6, 2) := by decide +kernel
theorem d_LW_law_197 : decode m_LW_law.2.1 197 = .ok (.aload_n 2, 1) := by decide +kernel
theorem d_LW_law_198 : decode m_LW_law.2.1 198 = .ok (.invokevirtual 92, 3) := by decide +kernel
theorem d_LW_law_201 : decode m_LW_law.2.1 201 = .ok (.iload 5, 2) := by decide +kernel
theorem d_LW_law_203 : decode m_LW_law.2.1 203 = .ok (.if_icmp .eq 5, 3) := by decide +kernel
theorem d_LW_law_206 : decode m_LW_law.2.1 206 = .ok (.iconst 0, 1) := by decide +kernel
theorem d_LW_law_207 : decode m_LW_law.2.1 207 = .ok (.ireturn, 1) := by decide +kernel
theorem d_LW_law_208 : decode m_LW_law.2.1 208 = .ok (.iload 5, 2) := by decide +kernel
theorem d_LW_law_210 : decode m_LW_law.2.1 210 = .ok (.ifCond .ne 15, 3) := by decide +kernel
theorem d_LW_law_213 : decode m_LW_law.2.1 213 = .ok (.aload_n 3, 1) := by decide +kernel
theorem d_LW_law_214 : decode m_LW_law.2.1 214 = .ok (.iconst 0, 1) := by decide +kernel
theorem d_LW_law_215 : decode m_LW_law.2.1 215 = .ok (.laload, 1) := by decide +kernel
theorem d_LW_law_216 : decode m_LW_law.2.1 216 = .ok (.iload 6, 2) := by decide +kernel
theorem d_LW_law_218 : decode m_LW_law.2.1 218 = .ok (.i2l, 1) := by decide +kernel
theorem d_LW_law_219 : decode m_LW_law.2.1 219 = .ok (.lcmp, 1) := by decide +kernel
theorem d_LW_law_220 : decode m_LW_law.2.1 220 = .ok (.ifCond .eq 5, 3) := by decide +kernel
theorem d_LW_law_223 : decode m_LW_law.2.1 223 = .ok (.iconst 0, 1) := by decide +kernel
theorem d_LW_law_224 : decode m_LW_law.2.1 224 = .ok (.ireturn, 1) := by decide +kernel
theorem d_LW_law_225 : decode m_LW_law.2.1 225 = .ok (.goto 1440, 3) := by decide +kernel
theorem d_LW_law_228 : decode m_LW_law.2.1 228 = .ok (.aload_n 1, 1) := by decide +kernel
theorem d_LW_law_229 : decode m_LW_law.2.1 229 = .ok (.aload_n 0, 1) := by decide +kernel
theorem d_LW_law_230 : decode m_LW_law.2.1 230 = .ok (.iload 4, 2) := by decide +kernel
theorem d_LW_law_232 : decode m_LW_law.2.1 232 = .ok (.iconst 1, 1) := by decide +kernel
theorem d_LW_law_233 : decode m_LW_law.2.1 233 = .ok (.iadd, 1) := by decide +kernel
theorem d_LW_law_234 : decode m_LW_law.2.1 234 = .ok (.iaload, 1) := by decide +kernel
theorem d_LW_law_235 : decode m_LW_law.2.1 235 = .ok (.aload_n 0, 1) := by decide +kernel
theorem d_LW_law_236 : decode m_LW_law.2.1 236 = .ok (.iload 4, 2) := by decide +kernel
theorem d_LW_law_238 : decode m_LW_law.2.1 238 = .ok (.iconst 2, 1) := by decide +kernel
theorem d_LW_law_239 : decode m_LW_law.2.1 239 = .ok (.iadd, 1) := by decide +kernel
theorem d_LW_law_240 : decode m_LW_law.2.1 240 = .ok (.iaload, 1) := by decide +kernel
theorem d_LW_law_241 : decode m_LW_law.2.1 241 = .ok (.aload_n 0, 1) := by decide +kernel
theorem d_LW_law_242 : decode m_LW_law.2.1 242 = .ok (.iload 4, 2) := by decide +kernel
theorem d_LW_law_244 : decode m_LW_law.2.1 244 = .ok (.iconst 3, 1) := by decide +kernel
theorem d_LW_law_245 : decode m_LW_law.2.1 245 = .ok (.iadd, 1) := by decide +kernel
theorem d_LW_law_246 : decode m_LW_law.2.1 246 = .ok (.iaload, 1) := by decide +kernel
theorem d_LW_law_247 : decode m_LW_law.2.1 247 = .ok (.ifCond .eq 7, 3) := by decide +kernel
theorem d_LW_law_250 : decode m_LW_law.2.1 250 = .ok (.iconst 1, 1) := by decide +kernel
theorem d_LW_law_251 : decode m_LW_law.2.1 251 = .ok (.goto 4, 3) := by decide +kernel
theorem d_LW_law_254 : decode m_LW_law.2.1 254 = .ok (.iconst 0, 1) := by decide +kernel
theorem d_LW_law_255 : decode m_LW_law.2.1 255 = .ok (.aload_n 3, 1) := by decide +kernel
theorem d_LW_law_256 : decode m_LW_law.2.1 256 = .ok (.invokestatic 98, 3) := by decide +kernel
theorem d_LW_law_259 : decode m_LW_law.2.1 259 = .ok (.istore 5, 2) := by decide +kernel
theorem d_LW_law_261 : decode m_LW_law.2.1 261 = .ok (.aload_n 2, 1) := by decide +kernel
theorem d_LW_law_262 : decode m_LW_law.2.1 262 = .ok (.aload_n 0, 1) := by decide +kernel
theorem d_LW_law_263 : decode m_LW_law.2.1 263 = .ok (.iload 4, 2) := by decide +kernel
theorem d_LW_law_265 : decode m_LW_law.2.1 265 = .ok (.iconst 1, 1) := by decide +kernel
theorem d_LW_law_266 : decode m_LW_law.2.1 266 = .ok (.iadd, 1) := by decide +kernel
theorem d_LW_law_267 : decode m_LW_law.2.1 267 = .ok (.iaload, 1) := by decide +kernel
theorem d_LW_law_268 : decode m_LW_law.2.1 268 = .ok (.aload_n 0, 1) := by decide +kernel
theorem d_LW_law_269 : decode m_LW_law.2.1 269 = .ok (.iload 4, 2) := by decide +kernel
theorem d_LW_law_271 : decode m_LW_law.2.1 271 = .ok (.iconst 2, 1) := by decide +kernel
theorem d_LW_law_272 : decode m_LW_law.2.1 272 = .ok (.iadd, 1) := by decide +kernel
theorem d_LW_law_273 : decode m_LW_law.2.1 273 = .ok (.iaload, 1) := by decide +kernel
theorem d_LW_law_274 : decode m_LW_law.2.1 274 = .ok (.aload_n 0, 1) := by decide +kernel
theorem d_LW_law_275 : decode m_LW_law.2.1 275 = .ok (.iload 4, 2) := by decide +kernel
theorem d_LW_law_277 : decode m_LW_law.2.1 277 = .ok (.iconst 3, 1) := by decide +kernel
theorem d_LW_law_278 : decode m_LW_law.2.1 278 = .ok (.iadd, 1) := by decide +kernel
theorem d_LW_law_279 : decode m_LW_law.2.1 279 = .ok (.iaload, 1) := by decide +kernel
theorem d_LW_law_280 : decode m_LW_law.2.1 280 = .ok (.ifCond .eq 7, 3) := by decide +kernel
theorem d_LW_law_283 : decode m_LW_law.2.1 283 = .ok (.iconst 1, 1) := by decide +kernel
theorem d_LW_law_284 : decode m_LW_law.2.1 284 = .ok (.goto 4, 3) := by decide +kernel
theorem d_LW_law_287 : decode m_LW_law.2.1 287 = .ok (.iconst 0, 1) := by decide +kernel
theorem d_LW_law_288 : decode m_LW_law.2.1 288 = .ok (.invokevirtual 101, 3) := by decide +kernel
theorem d_LW_law_291 : decode m_LW_law.2.1 291 = .ok (.istore 6, 2) := by decide +kernel
theorem d_LW_law_293 : decode m_LW_law.2.1 293 = .ok (.aload_n 2, 1) := by decide +kernel
theorem d_LW_law_294 : decode m_LW_law.2.1 294 = .ok (.invokevirtual 92, 3) := by decide +kernel
theorem d_LW_law_297 : decode m_LW_law.2.1 297 = .ok (.iload 5, 2) := by decide +kernel
theorem d_LW_law_299 : decode m_LW_law.2.1 299 = .ok (.if_icmp .eq 5, 3) := by decide +kernel
theorem d_LW_law_302 : decode m_LW_law.2.1 302 = .ok (.iconst 0, 1) := by decide +kernel
theorem d_LW_law_303 : decode m_LW_law.2.1 303 = .ok (.ireturn, 1) := by decide +kernel
theorem d_LW_law_304 : decode m_LW_law.2.1 304 = .ok (.iload 5, 2) := by decide +kernel
theorem d_LW_law_306 : decode m_LW_law.2.1 306 = .ok (.ifCond .ne 22, 3) := by decide +kernel
theorem d_LW_law_309 : decode m_LW_law.2.1 309 = .ok (.aload_n 3, 1) := by decide +kernel
theorem d_LW_law_310 : decode m_LW_law.2.1 310 = .ok (.iconst 0, 1) := by decide +kernel
theorem d_LW_law_311 : decode m_LW_law.2.1 311 = .ok (.laload, 1) := by decide +kernel
theorem d_LW_law_312 : decode m_LW_law.2.1 312 = .ok (.iload 6, 2) := by decide +kernel
theorem d_LW_law_314 : decode m_LW_law.2.1 314 = .ok (.ifCond .eq 7, 3) := by decide +kernel
theorem d_LW_law_317 : decode m_LW_law.2.1 317 = .ok (.lconst 1, 1) := by decide +kernel
theorem d_LW_law_318 : decode m_LW_law.2.1 318 = .ok (.goto 4, 3) := by decide +kernel
theorem d_LW_law_321 : decode m_LW_law.2.1 321 = .ok (.lconst 0, 1) := by decide +kernel
theorem d_LW_law_322 : decode m_LW_law.2.1 322 = .ok (.lcmp, 1) := by decide +kernel
theorem d_LW_law_323 : decode m_LW_law.2.1 323 = .ok (.ifCond .eq 5, 3) := by decide +kernel
theorem d_LW_law_326 : decode m_LW_law.2.1 326 = .ok (.iconst 0, 1) := by decide +kernel
theorem d_LW_law_327 : decode m_LW_law.2.1 327 = .ok (.ireturn, 1) := by decide +kernel
theorem d_LW_law_328 : decode m_LW_law.2.1 328 = .ok (.goto 1337, 3) := by decide +kernel
theorem d_LW_law_331 : decode m_LW_law.2.1 331 = .ok (.aload_n 1, 1) := by decide +kernel
theorem d_LW_law_332 : decode m_LW_law.2.1 332 = .ok (.aload_n 0, 1) := by decide +kernel
theorem d_LW_law_333 : decode m_LW_law.2.1 333 = .ok (.iload 4, 2) := by decide +kernel
theorem d_LW_law_335 : decode m_LW_law.2.1 335 = .ok (.iconst 1, 1) := by decide +kernel
theorem d_LW_law_336 : decode m_LW_law.2.1 336 = .ok (.iadd, 1) := by decide +kernel
theorem d_LW_law_337 : decode m_LW_law.2.1 337 = .ok (.iaload, 1) := by decide +kernel
theorem d_LW_law_338 : decode m_LW_law.2.1 338 = .ok (.aload_n 0, 1) := by decide +kernel
theorem d_LW_law_339 : decode m_LW_law.2.1 339 = .ok (.iload 4, 2) := by decide +kernel
theorem d_LW_law_341 : decode m_LW_law.2.1 341 = .ok (.iconst 2, 1) := by decide +kernel
theorem d_LW_law_342 : decode m_LW_law.2.1 342 = .ok (.iadd, 1) := by decide +kernel
theorem d_LW_law_343 : decode m_LW_law.2.1 343 = .ok (.iaload, 1) := by decide +kernel
theorem d_LW_law_344 : decode m_LW_law.2.1 344 = .ok (.aload_n 0, 1) := by decide +kernel
theorem d_LW_law_345 : decode m_LW_law.2.1 345 = .ok (.iload 4, 2) := by decide +kernel
theorem d_LW_law_347 : decode m_LW_law.2.1 347 = .ok (.iconst 3, 1) := by decide +kernel
theorem d_LW_law_348 : decode m_LW_law.2.1 348 = .ok (.iadd, 1) := by decide +kernel
theorem d_LW_law_349 : decode m_LW_law.2.1 349 = .ok (.iaload, 1) := by decide +kernel
theorem d_LW_law_350 : decode m_LW_law.2.1 350 = .ok (.ifCond .eq 7, 3) := by decide +kernel
theorem d_LW_law_353 : decode m_LW_law.2.1 353 = .ok (.iconst 1, 1) := by decide +kernel
theorem d_LW_law_354 : decode m_LW_law.2.1 354 = .ok (.goto 4, 3) := by decide +kernel
theorem d_LW_law_357 : decode m_LW_law.2.1 357 = .ok (.iconst 0, 1) := by decide +kernel
theorem d_LW_law_358 : decode m_LW_law.2.1 358 = .ok (.aload_n 3, 1) := by decide +kernel
theorem d_LW_law_359 : decode m_LW_law.2.1 359 = .ok (.invokestatic 102, 3) := by decide +kernel
theorem d_LW_law_362 : decode m_LW_law.2.1 362 = .ok (.istore 5, 2) := by decide +kernel
theorem d_LW_law_364 : decode m_LW_law.2.1 364 = .ok (.aload_n 2, 1) := by decide +kernel
theorem d_LW_law_365 : decode m_LW_law.2.1 365 = .ok (.aload_n 0, 1) := by decide +kernel
theorem d_LW_law_366 : decode m_LW_law.2.1 366 = .ok (.iload 4, 2) := by decide +kernel
theorem d_LW_law_368 : decode m_LW_law.2.1 368 = .ok (.iconst 1, 1) := by decide +kernel
theorem d_LW_law_369 : decode m_LW_law.2.1 369 = .ok (.iadd, 1) := by decide +kernel
theorem d_LW_law_370 : decode m_LW_law.2.1 370 = .ok (.iaload, 1) := by decide +kernel
theorem d_LW_law_371 : decode m_LW_law.2.1 371 = .ok (.aload_n 0, 1) := by decide +kernel
theorem d_LW_law_372 : decode m_LW_law.2.1 372 = .ok (.iload 4, 2) := by decide +kernel
theorem d_LW_law_374 : decode m_LW_law.2.1 374 = .ok (.iconst 2, 1) := by decide +kernel
theorem d_LW_law_375 : decode m_LW_law.2.1 375 = .ok (.iadd, 1) := by decide +kernel
theorem d_LW_law_376 : decode m_LW_law.2.1 376 = .ok (.iaload, 1) := by decide +kernel
theorem d_LW_law_377 : decode m_LW_law.2.1 377 = .ok (.aload_n 0, 1) := by decide +kernel
theorem d_LW_law_378 : decode m_LW_law.2.1 378 = .ok (.iload 4, 2) := by decide +kernel
theorem d_LW_law_380 : decode m_LW_law.2.1 380 = .ok (.iconst 3, 1) := by decide +kernel
theorem d_LW_law_381 : decode m_LW_law.2.1 381 = .ok (.iadd, 1) := by decide +kernel
theorem d_LW_law_382 : decode m_LW_law.2.1 382 = .ok (.iaload, 1) := by decide +kernel
theorem d_LW_law_383 : decode m_LW_law.2.1 383 = .ok (.ifCond .eq 7, 3) := by decide +kernel
theorem d_LW_law_386 : decode m_LW_law.2.1 386 = .ok (.iconst 1, 1) := by decide +kernel
theorem d_LW_law_387 : decode m_LW_law.2.1 387 = .ok (.goto 4, 3) := by decide +kernel
theorem d_LW_law_390 : decode m_LW_law.2.1 390 = .ok (.iconst 0, 1) := by decide +kernel
theorem d_LW_law_391 : decode m_LW_law.2.1 391 = .ok (.invokevirtual 104, 3) := by decide +kernel
theorem d_LW_law_394 : decode m_LW_law.2.1 394 = .ok (.istore 6, 2) := by decide +kernel
theorem d_LW_law_396 : decode m_LW_law.2.1 396 = .ok (.aload_n 2, 1) := by decide +kernel
theorem d_LW_law_397 : decode m_LW_law.2.1 397 = .ok (.invokevirtual 92, 3) := by decide +kernel
theorem d_LW_law_400 : decode m_LW_law.2.1 400 = .ok (.iload 5, 2) := by decide +kernel
theorem d_LW_law_402 : decode m_LW_law.2.1 402 = .ok (.if_icmp .eq 5, 3) := by decide +kernel
theorem d_LW_law_405 : decode m_LW_law.2.1 405 = .ok (.iconst 0, 1) := by decide +kernel
theorem d_LW_law_406 : decode m_LW_law.2.1 406 = .ok (.ireturn, 1) := by decide +kernel
theorem d_LW_law_407 : decode m_LW_law.2.1 407 = .ok (.iload 5, 2) := by decide +kernel
theorem d_LW_law_409 : decode m_LW_law.2.1 409 = .ok (.ifCond .ne 22, 3) := by decide +kernel
theorem d_LW_law_412 : decode m_LW_law.2.1 412 = .ok (.aload_n 3, 1) := by decide +kernel
theorem d_LW_law_413 : decode m_LW_law.2.1 413 = .ok (.iconst 0, 1) := by decide +kernel
theorem d_LW_law_414 : decode m_LW_law.2.1 414 = .ok (.laload, 1) := by decide +kernel
theorem d_LW_law_415 : decode m_LW_law.2.1 415 = .ok (.iload 6, 2) := by decide +kernel
theorem d_LW_law_417 : decode m_LW_law.2.1 417 = .ok (.ifCond .eq 7, 3) := by decide +kernel
theorem d_LW_law_420 : decode m_LW_law.2.1 420 = .ok (.lconst 1, 1) := by decide +kernel
theorem d_LW_law_421 : decode m_LW_law.2.1 421 = .ok (.goto 4, 3) := by decide +kernel
theorem d_LW_law_424 : decode m_LW_law.2.1 424 = .ok (.lconst 0, 1) := by decide +kernel
theorem d_LW_law_425 : decode m_LW_law.2.1 425 = .ok (.lcmp, 1) := by decide +kernel
theorem d_LW_law_426 : decode m_LW_law.2.1 426 = .ok (.ifCond .eq 5, 3) := by decide +kernel
theorem d_LW_law_429 : decode m_LW_law.2.1 429 = .ok (.iconst 0, 1) := by decide +kernel
theorem d_LW_law_430 : decode m_LW_law.2.1 430 = .ok (.ireturn, 1) := by decide +kernel
theorem d_LW_law_431 : decode m_LW_law.2.1 431 = .ok (.goto 1234, 3) := by decide +kernel
theorem d_LW_law_434 : decode m_LW_law.2.1 434 = .ok (.aload_n 1, 1) := by decide +kernel
theorem d_LW_law_435 : decode m_LW_law.2.1 435 = .ok (.aload_n 0, 1) := by decide +kernel
theorem d_LW_law_436 : decode m_LW_law.2.1 436 = .ok (.iload 4, 2) := by decide +kernel
theorem d_LW_law_438 : decode m_LW_law.2.1 438 = .ok (.iconst 1, 1) := by decide +kernel
theorem d_LW_law_439 : decode m_LW_law.2.1 439 = .ok (.iadd, 1) := by decide +kernel
theorem d_LW_law_440 : decode m_LW_law.2.1 440 = .ok (.iaload, 1) := by decide +kernel
theorem d_LW_law_441 : decode m_LW_law.2.1 441 = .ok (.aload_n 0, 1) := by decide +kernel
theorem d_LW_law_442 : decode m_LW_law.2.1 442 = .ok (.iload 4, 2) := by decide +kernel
theorem d_LW_law_444 : decode m_LW_law.2.1 444 = .ok (.iconst 2, 1) := by decide +kernel
theorem d_LW_law_445 : decode m_LW_law.2.1 445 = .ok (.iadd, 1) := by decide +kernel
theorem d_LW_law_446 : decode m_LW_law.2.1 446 = .ok (.iaload, 1) := by decide +kernel
theorem d_LW_law_447 : decode m_LW_law.2.1 447 = .ok (.ifCond .eq 7, 3) := by decide +kernel
theorem d_LW_law_450 : decode m_LW_law.2.1 450 = .ok (.iconst 1, 1) := by decide +kernel
theorem d_LW_law_451 : decode m_LW_law.2.1 451 = .ok (.goto 4, 3) := by decide +kernel
theorem d_LW_law_454 : decode m_LW_law.2.1 454 = .ok (.iconst 0, 1) := by decide +kernel
theorem d_LW_law_455 : decode m_LW_law.2.1 455 = .ok (.aload_n 0, 1) := by decide +kernel
theorem d_LW_law_456 : decode m_LW_law.2.1 456 = .ok (.iload 4, 2) := by decide +kernel
theorem d_LW_law_458 : decode m_LW_law.2.1 458 = .ok (.iconst 3, 1) := by decide +kernel
theorem d_LW_law_459 : decode m_LW_law.2.1 459 = .ok (.iadd, 1) := by decide +kernel
theorem d_LW_law_460 : decode m_LW_law.2.1 460 = .ok (.iaload, 1) := by decide +kernel
theorem d_LW_law_461 : decode m_LW_law.2.1 461 = .ok (.aload_n 3, 1) := by decide +kernel
theorem d_LW_law_462 : decode m_LW_law.2.1 462 = .ok (.invokestatic 105, 3) := by decide +kernel
theorem d_LW_law_465 : decode m_LW_law.2.1 465 = .ok (.istore 5, 2) := by decide +kernel
theorem d_LW_law_467 : decode m_LW_law.2.1 467 = .ok (.aload_n 2, 1) := by decide +kernel
theorem d_LW_law_468 : decode m_LW_law.2.1 468 = .ok (.aload_n 0, 1) := by decide +kernel
theorem d_LW_law_469 : decode m_LW_law.2.1 469 = .ok (.iload 4, 2) := by decide +kernel
theorem d_LW_law_471 : decode m_LW_law.2.1 471 = .ok (.iconst 1, 1) := by decide +kernel
theorem d_LW_law_472 : decode m_LW_law.2.1 472 = .ok (.iadd, 1) := by decide +kernel
theorem d_LW_law_473 : decode m_LW_law.2.1 473 = .ok (.iaload, 1) := by decide +kernel
theorem d_LW_law_474 : decode m_LW_law.2.1 474 = .ok (.aload_n 0, 1) := by decide +kernel
theorem d_LW_law_475 : decode m_LW_law.2.1 475 = .ok (.iload 4, 2) := by decide +kernel
theorem d_LW_law_477 : decode m_LW_law.2.1 477 = .ok (.iconst 2, 1) := by decide +kernel
theorem d_LW_law_478 : decode m_LW_law.2.1 478 = .ok (.iadd, 1) := by decide +kernel
theorem d_LW_law_479 : decode m_LW_law.2.1 479 = .ok (.iaload, 1) := by decide +kernel
theorem d_LW_law_480 : decode m_LW_law.2.1 480 = .ok (.ifCond .eq 7, 3) := by decide +kernel
theorem d_LW_law_483 : decode m_LW_law.2.1 483 = .ok (.iconst 1, 1) := by decide +kernel
theorem d_LW_law_484 : decode m_LW_law.2.1 484 = .ok (.goto 4, 3) := by decide +kernel
theorem d_LW_law_487 : decode m_LW_law.2.1 487 = .ok (.iconst 0, 1) := by decide +kernel
theorem d_LW_law_488 : decode m_LW_law.2.1 488 = .ok (.aload_n 0, 1) := by decide +kernel
theorem d_LW_law_489 : decode m_LW_law.2.1 489 = .ok (.iload 4, 2) := by decide +kernel
theorem d_LW_law_491 : decode m_LW_law.2.1 491 = .ok (.iconst 3, 1) := by decide +kernel
theorem d_LW_law_492 : decode m_LW_law.2.1 492 = .ok (.iadd, 1) := by decide +kernel
theorem d_LW_law_493 : decode m_LW_law.2.1 493 = .ok (.iaload, 1) := by decide +kernel
theorem d_LW_law_494 : decode m_LW_law.2.1 494 = .ok (.invokevirtual 108, 3) := by decide +kernel
theorem d_LW_law_497 : decode m_LW_law.2.1 497 = .ok (.istore 6, 2) := by decide +kernel
theorem d_LW_law_499 : decode m_LW_law.2.1 499 = .ok (.aload_n 2, 1) := by decide +kernel
theorem d_LW_law_500 : decode m_LW_law.2.1 500 = .ok (.invokevirtual 92, 3) := by decide +kernel
theorem d_LW_law_503 : decode m_LW_law.2.1 503 = .ok (.iload 5, 2) := by decide +kernel
theorem d_LW_law_505 : decode m_LW_law.2.1 505 = .ok (.if_icmp .eq 5, 3) := by decide +kernel
