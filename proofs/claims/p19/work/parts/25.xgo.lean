theorem dX11_go_0 : decode cX11_go 0 = .ok (.aload_n 0, 1) := by decide +kernel
theorem dX11_go_1 : decode cX11_go 1 = .ok (.getfield 21, 3) := by decide +kernel
theorem dX11_go_4 : decode cX11_go 4 = .ok (.aload_n 0, 1) := by decide +kernel
theorem dX11_go_5 : decode cX11_go 5 = .ok (.getfield 18, 3) := by decide +kernel
theorem dX11_go_8 : decode cX11_go 8 = .ok (.if_icmp .ge 44, 3) := by decide +kernel
theorem dX11_go_11 : decode cX11_go 11 = .ok (.aload_n 0, 1) := by decide +kernel
theorem dX11_go_12 : decode cX11_go 12 = .ok (.getfield 7, 3) := by decide +kernel
theorem dX11_go_15 : decode cX11_go 15 = .ok (.aload_n 0, 1) := by decide +kernel
theorem dX11_go_16 : decode cX11_go 16 = .ok (.getfield 21, 3) := by decide +kernel
theorem dX11_go_19 : decode cX11_go 19 = .ok (.iaload, 1) := by decide +kernel
theorem dX11_go_20 : decode cX11_go 20 = .ok (.bipush 32, 2) := by decide +kernel
theorem dX11_go_22 : decode cX11_go 22 = .ok (.if_icmp .eq 17, 3) := by decide +kernel
theorem dX11_go_25 : decode cX11_go 25 = .ok (.aload_n 0, 1) := by decide +kernel
theorem dX11_go_26 : decode cX11_go 26 = .ok (.getfield 7, 3) := by decide +kernel
theorem dX11_go_29 : decode cX11_go 29 = .ok (.aload_n 0, 1) := by decide +kernel
theorem dX11_go_30 : decode cX11_go 30 = .ok (.getfield 21, 3) := by decide +kernel
theorem dX11_go_33 : decode cX11_go 33 = .ok (.iaload, 1) := by decide +kernel
theorem dX11_go_34 : decode cX11_go 34 = .ok (.bipush 10, 2) := by decide +kernel
theorem dX11_go_36 : decode cX11_go 36 = .ok (.if_icmp .ne 16, 3) := by decide +kernel
theorem dX11_go_39 : decode cX11_go 39 = .ok (.aload_n 0, 1) := by decide +kernel
theorem dX11_go_40 : decode cX11_go 40 = .ok (.dup, 1) := by decide +kernel
theorem dX11_go_41 : decode cX11_go 41 = .ok (.getfield 21, 3) := by decide +kernel
theorem dX11_go_44 : decode cX11_go 44 = .ok (.iconst 1, 1) := by decide +kernel
theorem dX11_go_45 : decode cX11_go 45 = .ok (.iadd, 1) := by decide +kernel
theorem dX11_go_46 : decode cX11_go 46 = .ok (.putfield 21, 3) := by decide +kernel
theorem dX11_go_49 : decode cX11_go 49 = .ok (.goto (-49), 3) := by decide +kernel
theorem dX11_go_52 : decode cX11_go 52 = .ok (.aload_n 0, 1) := by decide +kernel
theorem dX11_go_53 : decode cX11_go 53 = .ok (.aload_n 0, 1) := by decide +kernel
theorem dX11_go_54 : decode cX11_go 54 = .ok (.getfield 21, 3) := by decide +kernel
theorem dX11_go_57 : decode cX11_go 57 = .ok (.putfield 24, 3) := by decide +kernel
theorem dX11_go_60 : decode cX11_go 60 = .ok (.aload_n 0, 1) := by decide +kernel
theorem dX11_go_61 : decode cX11_go 61 = .ok (.getfield 18, 3) := by decide +kernel
theorem dX11_go_64 : decode cX11_go 64 = .ok (.aload_n 0, 1) := by decide +kernel
theorem dX11_go_65 : decode cX11_go 65 = .ok (.getfield 27, 3) := by decide +kernel
theorem dX11_go_68 : decode cX11_go 68 = .ok (.if_icmp .le 28, 3) := by decide +kernel
theorem dX11_go_71 : decode cX11_go 71 = .ok (.aload_n 0, 1) := by decide +kernel
theorem dX11_go_72 : decode cX11_go 72 = .ok (.getfield 24, 3) := by decide +kernel
theorem dX11_go_75 : decode cX11_go 75 = .ok (.aload_n 0, 1) := by decide +kernel
theorem dX11_go_76 : decode cX11_go 76 = .ok (.getfield 27, 3) := by decide +kernel
theorem dX11_go_79 : decode cX11_go 79 = .ok (.if_icmp .lt 17, 3) := by decide +kernel
theorem dX11_go_82 : decode cX11_go 82 = .ok (.aload_n 0, 1) := by decide +kernel
theorem dX11_go_83 : decode cX11_go 83 = .ok (.aload_n 0, 1) := by decide +kernel
theorem dX11_go_84 : decode cX11_go 84 = .ok (.getfield 27, 3) := by decide +kernel
theorem dX11_go_87 : decode cX11_go 87 = .ok (.putfield 24, 3) := by decide +kernel
theorem dX11_go_90 : decode cX11_go 90 = .ok (.aload_n 0, 1) := by decide +kernel
theorem dX11_go_91 : decode cX11_go 91 = .ok (.iconst 1, 1) := by decide +kernel
theorem dX11_go_92 : decode cX11_go 92 = .ok (.putfield 30, 3) := by decide +kernel
theorem dX11_go_95 : decode cX11_go 95 = .ok (.return_, 1) := by decide +kernel
theorem dX11_go_96 : decode cX11_go 96 = .ok (.aload_n 0, 1) := by decide +kernel
theorem dX11_go_97 : decode cX11_go 97 = .ok (.getfield 21, 3) := by decide +kernel
theorem dX11_go_100 : decode cX11_go 100 = .ok (.aload_n 0, 1) := by decide +kernel
theorem dX11_go_101 : decode cX11_go 101 = .ok (.getfield 18, 3) := by decide +kernel
theorem dX11_go_104 : decode cX11_go 104 = .ok (.if_icmp .lt 9, 3) := by decide +kernel
theorem dX11_go_113 : decode cX11_go 113 = .ok (.aload_n 0, 1) := by decide +kernel
theorem dX11_go_114 : decode cX11_go 114 = .ok (.getfield 7, 3) := by decide +kernel
theorem dX11_go_117 : decode cX11_go 117 = .ok (.aload_n 0, 1) := by decide +kernel
theorem dX11_go_118 : decode cX11_go 118 = .ok (.getfield 21, 3) := by decide +kernel
theorem dX11_go_121 : decode cX11_go 121 = .ok (.iaload, 1) := by decide +kernel
theorem dX11_go_122 : decode cX11_go 122 = .ok (.istore_n 1, 1) := by decide +kernel
theorem dX11_go_123 : decode cX11_go 123 = .ok (.iload_n 1, 1) := by decide +kernel
theorem dX11_go_124 : decode cX11_go 124 = .ok (.invokestatic 33, 3) := by decide +kernel
theorem mwX11_isLetter : MwS yX11_isLetter cX11_isLetter 1 (some .boolean) 1 := ⟨⟨kw1345, kw15, by decide +kernel⟩, kw1344⟩
theorem dX11_go_127 : decode cX11_go 127 = .ok (.ifCond .ne 71, 3) := by decide +kernel
theorem dX11_go_130 : decode cX11_go 130 = .ok (.iload_n 1, 1) := by decide +kernel
theorem dX11_go_131 : decode cX11_go 131 = .ok (.invokestatic 37, 3) := by decide +kernel
theorem mwX11_isDigit : MwS yX11_isDigit cX11_isDigit 1 (some .boolean) 1 := ⟨⟨kw1348, kw15, by decide +kernel⟩, kw1347⟩
theorem dX11_go_134 : decode cX11_go 134 = .ok (.ifCond .ne 64, 3) := by decide +kernel
theorem dX11_go_137 : decode cX11_go 137 = .ok (.aload_n 0, 1) := by decide +kernel
theorem dX11_go_138 : decode cX11_go 138 = .ok (.iload_n 1, 1) := by decide +kernel
theorem dX11_go_139 : decode cX11_go 139 = .ok (.bipush 59, 2) := by decide +kernel
theorem dX11_go_141 : decode cX11_go 141 = .ok (.if_icmp .eq 33, 3) := by decide +kernel
theorem dX11_go_144 : decode cX11_go 144 = .ok (.iload_n 1, 1) := by decide +kernel
theorem dX11_go_145 : decode cX11_go 145 = .ok (.bipush 60, 2) := by decide +kernel
theorem dX11_go_147 : decode cX11_go 147 = .ok (.if_icmp .eq 27, 3) := by decide +kernel
theorem dX11_go_150 : decode cX11_go 150 = .ok (.iload_n 1, 1) := by decide +kernel
theorem dX11_go_151 : decode cX11_go 151 = .ok (.bipush 61, 2) := by decide +kernel
theorem dX11_go_153 : decode cX11_go 153 = .ok (.if_icmp .eq 21, 3) := by decide +kernel
theorem dX11_go_156 : decode cX11_go 156 = .ok (.iload_n 1, 1) := by decide +kernel
theorem dX11_go_157 : decode cX11_go 157 = .ok (.bipush 62, 2) := by decide +kernel
theorem dX11_go_159 : decode cX11_go 159 = .ok (.if_icmp .eq 15, 3) := by decide +kernel
theorem dX11_go_162 : decode cX11_go 162 = .ok (.iload_n 1, 1) := by decide +kernel
theorem dX11_go_163 : decode cX11_go 163 = .ok (.bipush 40, 2) := by decide +kernel
theorem dX11_go_165 : decode cX11_go 165 = .ok (.if_icmp .eq 9, 3) := by decide +kernel
theorem dX11_go_168 : decode cX11_go 168 = .ok (.iload_n 1, 1) := by decide +kernel
theorem dX11_go_169 : decode cX11_go 169 = .ok (.bipush 41, 2) := by decide +kernel
theorem dX11_go_171 : decode cX11_go 171 = .ok (.if_icmp .ne 7, 3) := by decide +kernel
theorem dX11_go_178 : decode cX11_go 178 = .ok (.iconst 1, 1) := by decide +kernel
theorem dX11_go_179 : decode cX11_go 179 = .ok (.putfield 30, 3) := by decide +kernel
theorem dX11_go_182 : decode cX11_go 182 = .ok (.aload_n 0, 1) := by decide +kernel
theorem dX11_go_183 : decode cX11_go 183 = .ok (.iload_n 1, 1) := by decide +kernel
theorem dX11_go_184 : decode cX11_go 184 = .ok (.putfield 40, 3) := by decide +kernel
theorem dX11_go_187 : decode cX11_go 187 = .ok (.aload_n 0, 1) := by decide +kernel
theorem dX11_go_188 : decode cX11_go 188 = .ok (.dup, 1) := by decide +kernel
theorem dX11_go_189 : decode cX11_go 189 = .ok (.getfield 21, 3) := by decide +kernel
theorem dX11_go_192 : decode cX11_go 192 = .ok (.iconst 1, 1) := by decide +kernel
theorem dX11_go_193 : decode cX11_go 193 = .ok (.iadd, 1) := by decide +kernel
theorem dX11_go_194 : decode cX11_go 194 = .ok (.putfield 21, 3) := by decide +kernel
theorem dX11_go_197 : decode cX11_go 197 = .ok (.return_, 1) := by decide +kernel
theorem dX11_go_174 : decode cX11_go 174 = .ok (.iconst 4, 1) := by decide +kernel
theorem dX11_go_175 : decode cX11_go 175 = .ok (.goto 4, 3) := by decide +kernel
theorem dX11_go_198 : decode cX11_go 198 = .ok (.iload_n 1, 1) := by decide +kernel
theorem dX11_go_199 : decode cX11_go 199 = .ok (.invokestatic 33, 3) := by decide +kernel
theorem dX11_go_202 : decode cX11_go 202 = .ok (.istore_n 2, 1) := by decide +kernel
theorem dX11_go_203 : decode cX11_go 203 = .ok (.iconst 1, 1) := by decide +kernel
theorem dX11_go_204 : decode cX11_go 204 = .ok (.istore_n 3, 1) := by decide +kernel
theorem dX11_go_205 : decode cX11_go 205 = .ok (.aload_n 0, 1) := by decide +kernel
theorem dX11_go_206 : decode cX11_go 206 = .ok (.lconst 0, 1) := by decide +kernel
theorem dX11_go_207 : decode cX11_go 207 = .ok (.putfield 43, 3) := by decide +kernel
theorem dX11_go_210 : decode cX11_go 210 = .ok (.aload_n 0, 1) := by decide +kernel
theorem dX11_go_211 : decode cX11_go 211 = .ok (.iconst 0, 1) := by decide +kernel
theorem dX11_go_212 : decode cX11_go 212 = .ok (.putfield 47, 3) := by decide +kernel
theorem dX11_go_215 : decode cX11_go 215 = .ok (.aload_n 0, 1) := by decide +kernel
theorem dX11_go_216 : decode cX11_go 216 = .ok (.aload_n 0, 1) := by decide +kernel
theorem dX11_go_217 : decode cX11_go 217 = .ok (.getfield 21, 3) := by decide +kernel
theorem dX11_go_220 : decode cX11_go 220 = .ok (.invokevirtual 50, 3) := by decide +kernel
theorem mwX11_tapeAt : MwV yX11_tapeAt cX11_tapeAt 2 (some .int) 1 := ⟨⟨kw1352, kw15, by decide +kernel⟩, kw1351, kS48⟩
theorem dX11_go_223 : decode cX11_go 223 = .ok (.invokestatic 33, 3) := by decide +kernel
theorem dX11_go_226 : decode cX11_go 226 = .ok (.ifCond .ne 17, 3) := by decide +kernel
theorem dX11_go_229 : decode cX11_go 229 = .ok (.aload_n 0, 1) := by decide +kernel
theorem dX11_go_230 : decode cX11_go 230 = .ok (.aload_n 0, 1) := by decide +kernel
theorem dX11_go_231 : decode cX11_go 231 = .ok (.getfield 21, 3) := by decide +kernel
theorem dX11_go_234 : decode cX11_go 234 = .ok (.invokevirtual 50, 3) := by decide +kernel
theorem dX11_go_237 : decode cX11_go 237 = .ok (.invokestatic 37, 3) := by decide +kernel
theorem dX11_go_240 : decode cX11_go 240 = .ok (.ifCond .eq 110, 3) := by decide +kernel
theorem dX11_go_243 : decode cX11_go 243 = .ok (.aload_n 0, 1) := by decide +kernel
theorem dX11_go_244 : decode cX11_go 244 = .ok (.getfield 7, 3) := by decide +kernel
theorem dX11_go_247 : decode cX11_go 247 = .ok (.aload_n 0, 1) := by decide +kernel
theorem dX11_go_248 : decode cX11_go 248 = .ok (.getfield 21, 3) := by decide +kernel
theorem dX11_go_251 : decode cX11_go 251 = .ok (.iaload, 1) := by decide +kernel
theorem dX11_go_252 : decode cX11_go 252 = .ok (.istore 4, 2) := by decide +kernel
theorem dX11_go_254 : decode cX11_go 254 = .ok (.iload_n 3, 1) := by decide +kernel
theorem dX11_go_255 : decode cX11_go 255 = .ok (.ifCond .eq 16, 3) := by decide +kernel
theorem dX11_go_258 : decode cX11_go 258 = .ok (.iload 4, 2) := by decide +kernel
theorem dX11_go_260 : decode cX11_go 260 = .ok (.invokestatic 33, 3) := by decide +kernel
theorem dX11_go_263 : decode cX11_go 263 = .ok (.iload_n 2, 1) := by decide +kernel
theorem dX11_go_264 : decode cX11_go 264 = .ok (.if_icmp .ne 7, 3) := by decide +kernel
theorem dX11_go_267 : decode cX11_go 267 = .ok (.iconst 1, 1) := by decide +kernel
theorem dX11_go_268 : decode cX11_go 268 = .ok (.goto 4, 3) := by decide +kernel
theorem dX11_go_272 : decode cX11_go 272 = .ok (.istore_n 3, 1) := by decide +kernel
theorem dX11_go_273 : decode cX11_go 273 = .ok (.aload_n 0, 1) := by decide +kernel
theorem dX11_go_274 : decode cX11_go 274 = .ok (.getfield 21, 3) := by decide +kernel
theorem dX11_go_277 : decode cX11_go 277 = .ok (.aload_n 0, 1) := by decide +kernel
theorem dX11_go_278 : decode cX11_go 278 = .ok (.getfield 24, 3) := by decide +kernel
theorem dX11_go_281 : decode cX11_go 281 = .ok (.isub, 1) := by decide +kernel
theorem dX11_go_282 : decode cX11_go 282 = .ok (.bipush 7, 2) := by decide +kernel
theorem dX11_go_284 : decode cX11_go 284 = .ok (.if_icmp .ge 23, 3) := by decide +kernel
theorem dX11_go_287 : decode cX11_go 287 = .ok (.aload_n 0, 1) := by decide +kernel
theorem dX11_go_288 : decode cX11_go 288 = .ok (.ldc2_w 54, 3) := by decide +kernel
theorem dX11_go_291 : decode cX11_go 291 = .ok (.aload_n 0, 1) := by decide +kernel
theorem dX11_go_292 : decode cX11_go 292 = .ok (.getfield 43, 3) := by decide +kernel
theorem dX11_go_295 : decode cX11_go 295 = .ok (.lmul, 1) := by decide +kernel
theorem dX11_go_296 : decode cX11_go 296 = .ok (.iload 4, 2) := by decide +kernel
theorem dX11_go_298 : decode cX11_go 298 = .ok (.i2l, 1) := by decide +kernel
theorem dX11_go_299 : decode cX11_go 299 = .ok (.ladd, 1) := by decide +kernel
theorem dX11_go_300 : decode cX11_go 300 = .ok (.ldc2_w 56, 3) := by decide +kernel
theorem dX11_go_303 : decode cX11_go 303 = .ok (.lsub, 1) := by decide +kernel
theorem dX11_go_304 : decode cX11_go 304 = .ok (.putfield 43, 3) := by decide +kernel
theorem dX11_go_307 : decode cX11_go 307 = .ok (.aload_n 0, 1) := by decide +kernel
theorem dX11_go_308 : decode cX11_go 308 = .ok (.getfield 21, 3) := by decide +kernel
theorem dX11_go_311 : decode cX11_go 311 = .ok (.aload_n 0, 1) := by decide +kernel
theorem dX11_go_312 : decode cX11_go 312 = .ok (.getfield 24, 3) := by decide +kernel
theorem dX11_go_315 : decode cX11_go 315 = .ok (.isub, 1) := by decide +kernel
theorem dX11_go_316 : decode cX11_go 316 = .ok (.iconst 3, 1) := by decide +kernel
theorem dX11_go_317 : decode cX11_go 317 = .ok (.if_icmp .ge 20, 3) := by decide +kernel
theorem dX11_go_320 : decode cX11_go 320 = .ok (.aload_n 0, 1) := by decide +kernel
theorem dX11_go_321 : decode cX11_go 321 = .ok (.bipush 10, 2) := by decide +kernel
theorem dX11_go_323 : decode cX11_go 323 = .ok (.aload_n 0, 1) := by decide +kernel
theorem dX11_go_324 : decode cX11_go 324 = .ok (.getfield 47, 3) := by decide +kernel
theorem dX11_go_327 : decode cX11_go 327 = .ok (.imul, 1) := by decide +kernel
theorem dX11_go_328 : decode cX11_go 328 = .ok (.iload 4, 2) := by decide +kernel
theorem dX11_go_330 : decode cX11_go 330 = .ok (.iadd, 1) := by decide +kernel
theorem dX11_go_331 : decode cX11_go 331 = .ok (.bipush 48, 2) := by decide +kernel
theorem dX11_go_333 : decode cX11_go 333 = .ok (.isub, 1) := by decide +kernel
theorem dX11_go_334 : decode cX11_go 334 = .ok (.putfield 47, 3) := by decide +kernel
theorem dX11_go_337 : decode cX11_go 337 = .ok (.aload_n 0, 1) := by decide +kernel
theorem dX11_go_338 : decode cX11_go 338 = .ok (.dup, 1) := by decide +kernel
theorem dX11_go_339 : decode cX11_go 339 = .ok (.getfield 21, 3) := by decide +kernel
theorem dX11_go_342 : decode cX11_go 342 = .ok (.iconst 1, 1) := by decide +kernel
theorem dX11_go_343 : decode cX11_go 343 = .ok (.iadd, 1) := by decide +kernel
theorem dX11_go_344 : decode cX11_go 344 = .ok (.putfield 21, 3) := by decide +kernel
theorem dX11_go_347 : decode cX11_go 347 = .ok (.goto (-132), 3) := by decide +kernel
theorem dX11_go_271 : decode cX11_go 271 = .ok (.iconst 0, 1) := by decide +kernel
theorem dX11_go_350 : decode cX11_go 350 = .ok (.aload_n 0, 1) := by decide +kernel
theorem dX11_go_351 : decode cX11_go 351 = .ok (.iload_n 3, 1) := by decide +kernel
theorem dX11_go_352 : decode cX11_go 352 = .ok (.ifCond .eq 25, 3) := by decide +kernel
theorem dX11_go_377 : decode cX11_go 377 = .ok (.iconst 1, 1) := by decide +kernel
theorem dX11_go_378 : decode cX11_go 378 = .ok (.goto 12, 3) := by decide +kernel
theorem dX11_go_390 : decode cX11_go 390 = .ok (.putfield 30, 3) := by decide +kernel
theorem dX11_go_393 : decode cX11_go 393 = .ok (.return_, 1) := by decide +kernel
theorem dX11_go_355 : decode cX11_go 355 = .ok (.aload_n 0, 1) := by decide +kernel
theorem dX11_go_356 : decode cX11_go 356 = .ok (.getfield 21, 3) := by decide +kernel
theorem dX11_go_359 : decode cX11_go 359 = .ok (.aload_n 0, 1) := by decide +kernel
theorem dX11_go_360 : decode cX11_go 360 = .ok (.getfield 24, 3) := by decide +kernel
theorem dX11_go_363 : decode cX11_go 363 = .ok (.isub, 1) := by decide +kernel
theorem dX11_go_364 : decode cX11_go 364 = .ok (.iload_n 2, 1) := by decide +kernel
theorem dX11_go_365 : decode cX11_go 365 = .ok (.ifCond .eq 8, 3) := by decide +kernel
theorem dX11_go_373 : decode cX11_go 373 = .ok (.iconst 3, 1) := by decide +kernel
theorem dX11_go_374 : decode cX11_go 374 = .ok (.if_icmp .le 7, 3) := by decide +kernel
theorem dX11_go_381 : decode cX11_go 381 = .ok (.iload_n 2, 1) := by decide +kernel
theorem dX11_go_382 : decode cX11_go 382 = .ok (.ifCond .eq 7, 3) := by decide +kernel
theorem dX11_go_389 : decode cX11_go 389 = .ok (.iconst 3, 1) := by decide +kernel
theorem dX11_go_368 : decode cX11_go 368 = .ok (.bipush 7, 2) := by decide +kernel
theorem dX11_go_370 : decode cX11_go 370 = .ok (.goto 4, 3) := by decide +kernel
theorem dX11_go_385 : decode cX11_go 385 = .ok (.iconst 2, 1) := by decide +kernel
theorem dX11_go_386 : decode cX11_go 386 = .ok (.goto 4, 3) := by decide +kernel
theorem dX11_go_107 : decode cX11_go 107 = .ok (.aload_n 0, 1) := by decide +kernel
theorem dX11_go_108 : decode cX11_go 108 = .ok (.iconst 0, 1) := by decide +kernel
theorem dX11_go_109 : decode cX11_go 109 = .ok (.putfield 30, 3) := by decide +kernel
theorem dX11_go_112 : decode cX11_go 112 = .ok (.return_, 1) := by decide +kernel
set_option maxHeartbeats 4000000 in
set_option maxRecDepth 100000 in
theorem e_X11_go {l : Launch} {G : Gc} (qm : Nat) (qm_thrown : Int32) (qm_tape : Nat) (qm_taped : Int32) (qm_size : Int32) (qm_limit : Int32) (qm_to : Int32) (qm_from : Int32) (qm_kind : Int32) (qm_number : Int32) (qm_sign : Int32) (qm_fault : Int32) (qm_place : Int32) (qm_word : Int64) (qm_told : Int32) (qm_now : Nat) (qm_read : Nat) (qm_kept : Nat) (qm_snaps : Nat) (qm_aside : Nat) (qm_name : Nat) (qm_readName : Nat) (qm_keptName : Nat) (qm_isKept : Nat) (qm_onces : Nat) (qm_snapMany : Int32) (qm_order : Nat) (qm_ordered : Nat) (qm_orderMany : Int32) (qm_orderMost : Int32) (qm_passing : Int32) (qm_movedWho : Int32) (qm_scratched : Int32) (qm_text : Nat) (qm_texts : Int32) (qm_seed : Int32) (qm_line : Nat) (qm_written : Nat) (qm_lineMany : Int32) (qm_hasWritten : Int32) (qm_node : Nat) (qm_nodes : Int32) (qm_onesMany : Int32) (qm_within : Int32) (qm_top : Int32) (qm_tape_c : Nat → Int32) (b : Int → Int) (hi_qm_limit : 0 ≤ qm_limit.toInt ∧ qm_limit.toInt ≤ 900) (hi_qm_size : 0 ≤ qm_size.toInt ∧ qm_size.toInt ≤ 940) (hi_qm_to : 0 ≤ qm_to.toInt ∧ qm_to.toInt ≤ 940) (hr_0 : tbR b qm_tape_c qm_size) : Cv l yX11_go cX11_go 5 1 0 0 G [.ref qm] [(qm, .inr (10, [.int qm_thrown, .ref qm_tape, .int qm_taped, .int qm_size, .int qm_limit, .int qm_to, .int qm_from, .int qm_kind, .int qm_number, .int qm_sign, .int qm_fault, .int qm_place, .long qm_word, .int qm_told, .ref qm_now, .ref qm_read, .ref qm_kept, .ref qm_snaps, .ref qm_aside, .ref qm_name, .ref qm_readName, .ref qm_keptName, .ref qm_isKept, .ref qm_onces, .int qm_snapMany, .ref qm_order, .ref qm_ordered, .int qm_orderMany, .int qm_orderMost, .int qm_passing, .int qm_movedWho, .int qm_scratched, .ref qm_text, .int qm_texts, .int qm_seed, .ref qm_line, .ref qm_written, .int qm_lineMany, .int qm_hasWritten, .ref qm_node, .int qm_nodes, .int qm_onesMany, .int qm_within, .int qm_top])), (qm_tape, eI G 940 qm_tape_c)] (fun (u9 : va_W) => ∃ (x0_qm_to : Int32) (x1_qm_from : Int32) (x2_qm_kind : Int32) (x3_qm_number : Int32) (x4_qm_sign : Int32) (x5_qm_word : Int64), u9 = [(qm, .inr (10, [.int qm_thrown, .ref qm_tape, .int qm_taped, .int qm_size, .int qm_limit, .int x0_qm_to, .int x1_qm_from, .int x2_qm_kind, .int x3_qm_number, .int x4_qm_sign, .int qm_fault, .int qm_place, .long x5_qm_word, .int qm_told, .ref qm_now, .ref qm_read, .ref qm_kept, .ref qm_snaps, .ref qm_aside, .ref qm_name, .ref qm_readName, .ref qm_keptName, .ref qm_isKept, .ref qm_onces, .int qm_snapMany, .ref qm_order, .ref qm_ordered, .int qm_orderMany, .int qm_orderMost, .int qm_passing, .int qm_movedWho, .int qm_scratched, .ref qm_text, .int qm_texts, .int qm_seed, .ref qm_line, .ref qm_written, .int qm_lineMany, .int qm_hasWritten, .ref qm_node, .int qm_nodes, .int qm_onesMany, .int qm_within, .int qm_top])), (qm_tape, eI G 940 qm_tape_c)] ∧ (0 ≤ x0_qm_to.toInt ∧ x0_qm_to.toInt ≤ 940) ∧ (0 ≤ x1_qm_from.toInt ∧ x1_qm_from.toInt ≤ 940) ∧ (0 ≤ x2_qm_kind.toInt ∧ x2_qm_kind.toInt ≤ 4) ∧ (x0_qm_to.toInt = tkX b qm_size.toInt qm_limit.toInt qm_to.toInt) ∧ (x1_qm_from.toInt = tkP b qm_size.toInt qm_limit.toInt qm_to.toInt) ∧ (x2_qm_kind.toInt = tkK b qm_size.toInt qm_limit.toInt qm_to.toInt) ∧ (tkV b qm_size.toInt qm_limit.toInt qm_to.toInt x3_qm_number x4_qm_sign x5_qm_word)) := by
  refine Cv.ofQ (by decide) (Nat.le_of_ble_eq_true rfl) ?_
  intro p e s m below meth c ls A args Q hQ B hw hl
  have C : CallFix p m c cX11_go 5 s args gw "LanternStateModel" := B.1
  have hl : lv_has ls 5 [(0, .ref qm)] := hl
  have loopJ10 : ∀ (n9 : Nat) (j9 : Int32), (2147483647 - j9.toInt).toNat < n9 → (0 ≤ j9.toInt ∧ j9.toInt ≤ 940) → (sc (blB b) qm_size.toInt j9.toInt = sc (blB b) qm_size.toInt qm_to.toInt) → (qm_to.toInt ≤ j9.toInt ∧ (qm_to.toInt ≤ qm_size.toInt → j9.toInt ≤ qm_size.toInt)) → ∀ (H : Heap) (locs : List Loc) (ls : Array Slot), Wd G s A [(qm, .inr (10, [.int qm_thrown, .ref qm_tape, .int qm_taped, .int qm_size, .int qm_limit, .int j9, .int qm_from, .int qm_kind, .int qm_number, .int qm_sign, .int qm_fault, .int qm_place, .long qm_word, .int qm_told, .ref qm_now, .ref qm_read, .ref qm_kept, .ref qm_snaps, .ref qm_aside, .ref qm_name, .ref qm_readName, .ref qm_keptName, .ref qm_isKept, .ref qm_onces, .int qm_snapMany, .ref qm_order, .ref qm_ordered, .int qm_orderMany, .int qm_orderMost, .int qm_passing, .int qm_movedWho, .int qm_scratched, .ref qm_text, .int qm_texts, .int qm_seed, .ref qm_line, .ref qm_written, .int qm_lineMany, .int qm_hasWritten, .ref qm_node, .int qm_nodes, .int qm_onesMany, .int qm_within, .int qm_top])), (qm_tape, eI G 940 qm_tape_c)] H locs → lv_has ls 5 [(0, .ref qm)] → W p l e (rmD 1 0 0) s m args below meth c H locs 0 0 Q (F0 m 0 ls []) := by
    intro n9
    induction n9 with
    | zero => intro j9 h9; exact absurd h9 (Nat.not_lt_zero _)
    | succ n9 ihJ10 =>
      intro j9 h9J10 hJ10_0 hJ10_1 hJ10_2 H locs ls hw hl
      have hbj9 := i_bd j9
      refine lv_aload_n C.1 C.2.1 dX11_go_0 rfl (lv_at hl 0 rfl) ?_
      refine x_get C hw iwX11 10 rfl 0 rfl 5 (by decide) kw1198 rfl dX11_go_1 ?_
      refine lv_aload_n C.1 C.2.1 dX11_go_4 rfl (lv_at hl 0 rfl) ?_
      refine x_get C hw iwX11 10 rfl 0 rfl 3 (by decide) kw1196 rfl dX11_go_5 ?_
      have J27 : (tkS b qm_size.toInt qm_to.toInt = j9.toInt) → ∀ (H : Heap) (locs : List Loc) (ls : Array Slot), Wd G s A [(qm, .inr (10, [.int qm_thrown, .ref qm_tape, .int qm_taped, .int qm_size, .int qm_limit, .int j9, .int qm_from, .int qm_kind, .int qm_number, .int qm_sign, .int qm_fault, .int qm_place, .long qm_word, .int qm_told, .ref qm_now, .ref qm_read, .ref qm_kept, .ref qm_snaps, .ref qm_aside, .ref qm_name, .ref qm_readName, .ref qm_keptName, .ref qm_isKept, .ref qm_onces, .int qm_snapMany, .ref qm_order, .ref qm_ordered, .int qm_orderMany, .int qm_orderMost, .int qm_passing, .int qm_movedWho, .int qm_scratched, .ref qm_text, .int qm_texts, .int qm_seed, .ref qm_line, .ref qm_written, .int qm_lineMany, .int qm_hasWritten, .ref qm_node, .int qm_nodes, .int qm_onesMany, .int qm_within, .int qm_top])), (qm_tape, eI G 940 qm_tape_c)] H locs → lv_has ls 5 [(0, .ref qm)] → W p l e (rmD 1 0 0) s m args below meth c H locs 0 0 Q (F0 m 52 ls []) := by
        intro  hJ27_0 H locs ls hw hl
        have hS : tkS b qm_size.toInt qm_to.toInt = j9.toInt := by first | assumption | exact (show sc (blB b) qm_size.toInt j9.toInt = sc (blB b) qm_size.toInt qm_to.toInt by assumption).symm.trans (sc_stop (fun h9 => blB_f (by omega)))
        refine lv_aload_n C.1 C.2.1 dX11_go_52 rfl (lv_at hl 0 rfl) ?_
        refine lv_aload_n C.1 C.2.1 dX11_go_53 rfl (lv_at hl 0 rfl) ?_
        refine x_get C hw iwX11 10 rfl 0 rfl 5 (by decide) kw1198 rfl dX11_go_54 ?_
        refine x_put (w' := [(qm, .inr (10, [.int qm_thrown, .ref qm_tape, .int qm_taped, .int qm_size, .int qm_limit, .int j9, .int j9, .int qm_kind, .int qm_number, .int qm_sign, .int qm_fault, .int qm_place, .long qm_word, .int qm_told, .ref qm_now, .ref qm_read, .ref qm_kept, .ref qm_snaps, .ref qm_aside, .ref qm_name, .ref qm_readName, .ref qm_keptName, .ref qm_isKept, .ref qm_onces, .int qm_snapMany, .ref qm_order, .ref qm_ordered, .int qm_orderMany, .int qm_orderMost, .int qm_passing, .int qm_movedWho, .int qm_scratched, .ref qm_text, .int qm_texts, .int qm_seed, .ref qm_line, .ref qm_written, .int qm_lineMany, .int qm_hasWritten, .ref qm_node, .int qm_nodes, .int qm_onesMany, .int qm_within, .int qm_top])), (qm_tape, eI G 940 qm_tape_c)]) C hw iwX11 tyX11_ok nmX11 10 rfl 0 rfl 6 (by decide) kw1199 rfl rfl rfl (Nat.le_of_ble_eq_true rfl) rfl dX11_go_57 (fun H locs hw => ?_)
        refine lv_aload_n C.1 C.2.1 dX11_go_60 rfl (lv_at hl 0 rfl) ?_
        refine x_get C hw iwX11 10 rfl 0 rfl 3 (by decide) kw1196 rfl dX11_go_61 ?_
        refine lv_aload_n C.1 C.2.1 dX11_go_64 rfl (lv_at hl 0 rfl) ?_
        refine x_get C hw iwX11 10 rfl 0 rfl 4 (by decide) kw1197 rfl dX11_go_65 ?_
        have J473 : (qm_size.toInt ≤ qm_limit.toInt ∨ j9.toInt < qm_limit.toInt) → ∀ (H : Heap) (locs : List Loc) (ls : Array Slot), Wd G s A [(qm, .inr (10, [.int qm_thrown, .ref qm_tape, .int qm_taped, .int qm_size, .int qm_limit, .int j9, .int j9, .int qm_kind, .int qm_number, .int qm_sign, .int qm_fault, .int qm_place, .long qm_word, .int qm_told, .ref qm_now, .ref qm_read, .ref qm_kept, .ref qm_snaps, .ref qm_aside, .ref qm_name, .ref qm_readName, .ref qm_keptName, .ref qm_isKept, .ref qm_onces, .int qm_snapMany, .ref qm_order, .ref qm_ordered, .int qm_orderMany, .int qm_orderMost, .int qm_passing, .int qm_movedWho, .int qm_scratched, .ref qm_text, .int qm_texts, .int qm_seed, .ref qm_line, .ref qm_written, .int qm_lineMany, .int qm_hasWritten, .ref qm_node, .int qm_nodes, .int qm_onesMany, .int qm_within, .int qm_top])), (qm_tape, eI G 940 qm_tape_c)] H locs → lv_has ls 5 [(0, .ref qm)] → W p l e (rmD 1 0 0) s m args below meth c H locs 0 0 Q (F0 m 96 ls []) := by
          intro  hJ473_0 H locs ls hw hl
          refine lv_aload_n C.1 C.2.1 dX11_go_96 rfl (lv_at hl 0 rfl) ?_
          refine x_get C hw iwX11 10 rfl 0 rfl 5 (by decide) kw1198 rfl dX11_go_97 ?_
          refine lv_aload_n C.1 C.2.1 dX11_go_100 rfl (lv_at hl 0 rfl) ?_
          refine x_get C hw iwX11 10 rfl 0 rfl 3 (by decide) kw1196 rfl dX11_go_101 ?_
          refine lv_icmp_lt (tgt := 113) C.1 C.2.1 dX11_go_104 (by decide) (fun c914 => ?_) (fun c914 => ?_)
          · skip
            have c914 : j9.toInt < qm_size.toInt := i_ltT (X := j9.toInt) (Y := qm_size.toInt) rfl rfl c914
            refine lv_aload_n C.1 C.2.1 dX11_go_113 rfl (lv_at hl 0 rfl) ?_
            refine x_get C hw iwX11 10 rfl 0 rfl 1 (by decide) kw1194 rfl dX11_go_114 ?_
            refine lv_aload_n C.1 C.2.1 dX11_go_117 rfl (lv_at hl 0 rfl) ?_
            refine x_get C hw iwX11 10 rfl 0 rfl 5 (by decide) kw1198 rfl dX11_go_118 ?_
            refine x_iald (v := (qm_tape_c j9.toNatClampNeg)) C hw 1 rfl (i_in (by omega) (by omega)) rfl dX11_go_121 (x_genP (fun z : Int32 => (z.toInt = b j9.toInt) ∧ z = qm_tape_c (j9.toInt.toNat) ∧ z.toInt = (qm_tape_c (j9.toInt.toNat)).toInt) ⟨(hr_0 j9.toInt (by omega) (by omega)).symm, rfl, rfl⟩ (fun v915 hv915 => ?_))
            refine lv_istore_n (lv' := [(1, .int v915), (0, .ref qm)]) C.1 C.2.1 dX11_go_122 rfl hl (by decide) rfl (fun ls hl => ?_)
            refine lv_iload_n C.1 C.2.1 dX11_go_123 rfl (lv_at hl 0 rfl) ?_
            refine x_calliS (As := [.int v915]) (rest := []) (wr := [(qm, .inr (10, [.int qm_thrown, .ref qm_tape, .int qm_taped, .int qm_size, .int qm_limit, .int j9, .int j9, .int qm_kind, .int qm_number, .int qm_sign, .int qm_fault, .int qm_place, .long qm_word, .int qm_told, .ref qm_now, .ref qm_read, .ref qm_kept, .ref qm_snaps, .ref qm_aside, .ref qm_name, .ref qm_readName, .ref qm_keptName, .ref qm_isKept, .ref qm_onces, .int qm_snapMany, .ref qm_order, .ref qm_ordered, .int qm_orderMany, .int qm_orderMost, .int qm_passing, .int qm_movedWho, .int qm_scratched, .ref qm_text, .int qm_texts, .int qm_seed, .ref qm_line, .ref qm_written, .int qm_lineMany, .int qm_hasWritten, .ref qm_node, .int qm_nodes, .int qm_onesMany, .int qm_within, .int qm_top])), (qm_tape, eI G 940 qm_tape_c)]) C hw (e_X11_isLetter v915) mwX11_isLetter kw1343 [] [0, 1] rfl rfl rfl rfl (by decide) rfl hl.1 rfl (Nat.le_of_ble_eq_true rfl) ⟨(Nat.le_of_ble_eq_true rfl), (Nat.le_of_ble_eq_true rfl)⟩ ⟨(Nat.le_of_ble_eq_true rfl), (Nat.le_of_ble_eq_true rfl)⟩ dX11_go_124 (fun r916 u9 H locs hp9 hw => ?_)
            rcases hp9 with ⟨rfl, rfl, hf917⟩ | ⟨rfl, rfl, hf918⟩
            · skip
              have hw : Wd G s A [(qm, .inr (10, [.int qm_thrown, .ref qm_tape, .int qm_taped, .int qm_size, .int qm_limit, .int j9, .int j9, .int qm_kind, .int qm_number, .int qm_sign, .int qm_fault, .int qm_place, .long qm_word, .int qm_told, .ref qm_now, .ref qm_read, .ref qm_kept, .ref qm_snaps, .ref qm_aside, .ref qm_name, .ref qm_readName, .ref qm_keptName, .ref qm_isKept, .ref qm_onces, .int qm_snapMany, .ref qm_order, .ref qm_ordered, .int qm_orderMany, .int qm_orderMost, .int qm_passing, .int qm_movedWho, .int qm_scratched, .ref qm_text, .int qm_texts, .int qm_seed, .ref qm_line, .ref qm_written, .int qm_lineMany, .int qm_hasWritten, .ref qm_node, .int qm_nodes, .int qm_onesMany, .int qm_within, .int qm_top])), (qm_tape, eI G 940 qm_tape_c)] H _ := hw
              refine lv_if_ne (tgt := 198) C.1 C.2.1 dX11_go_127 (by decide) (fun h9 => absurd (by decide) h9) (fun _ => ?_)
              refine lv_iload_n C.1 C.2.1 dX11_go_130 rfl (lv_at hl 0 rfl) ?_
              refine x_calliS (As := [.int v915]) (rest := []) (wr := [(qm, .inr (10, [.int qm_thrown, .ref qm_tape, .int qm_taped, .int qm_size, .int qm_limit, .int j9, .int j9, .int qm_kind, .int qm_number, .int qm_sign, .int qm_fault, .int qm_place, .long qm_word, .int qm_told, .ref qm_now, .ref qm_read, .ref qm_kept, .ref qm_snaps, .ref qm_aside, .ref qm_name, .ref qm_readName, .ref qm_keptName, .ref qm_isKept, .ref qm_onces, .int qm_snapMany, .ref qm_order, .ref qm_ordered, .int qm_orderMany, .int qm_orderMost, .int qm_passing, .int qm_movedWho, .int qm_scratched, .ref qm_text, .int qm_texts, .int qm_seed, .ref qm_line, .ref qm_written, .int qm_lineMany, .int qm_hasWritten, .ref qm_node, .int qm_nodes, .int qm_onesMany, .int qm_within, .int qm_top])), (qm_tape, eI G 940 qm_tape_c)]) C hw (e_X11_isDigit v915) mwX11_isDigit kw1346 [] [0, 1] rfl rfl rfl rfl (by decide) rfl hl.1 rfl (Nat.le_of_ble_eq_true rfl) ⟨(Nat.le_of_ble_eq_true rfl), (Nat.le_of_ble_eq_true rfl)⟩ ⟨(Nat.le_of_ble_eq_true rfl), (Nat.le_of_ble_eq_true rfl)⟩ dX11_go_131 (fun r919 u9 H locs hp9 hw => ?_)
              rcases hp9 with ⟨rfl, rfl, hf920⟩ | ⟨rfl, rfl, hf921⟩
              · skip
                have hw : Wd G s A [(qm, .inr (10, [.int qm_thrown, .ref qm_tape, .int qm_taped, .int qm_size, .int qm_limit, .int j9, .int j9, .int qm_kind, .int qm_number, .int qm_sign, .int qm_fault, .int qm_place, .long qm_word, .int qm_told, .ref qm_now, .ref qm_read, .ref qm_kept, .ref qm_snaps, .ref qm_aside, .ref qm_name, .ref qm_readName, .ref qm_keptName, .ref qm_isKept, .ref qm_onces, .int qm_snapMany, .ref qm_order, .ref qm_ordered, .int qm_orderMany, .int qm_orderMost, .int qm_passing, .int qm_movedWho, .int qm_scratched, .ref qm_text, .int qm_texts, .int qm_seed, .ref qm_line, .ref qm_written, .int qm_lineMany, .int qm_hasWritten, .ref qm_node, .int qm_nodes, .int qm_onesMany, .int qm_within, .int qm_top])), (qm_tape, eI G 940 qm_tape_c)] H _ := hw
                refine lv_if_ne (tgt := 198) C.1 C.2.1 dX11_go_134 (by decide) (fun h9 => absurd (by decide) h9) (fun _ => ?_)
                refine lv_aload_n C.1 C.2.1 dX11_go_137 rfl (lv_at hl 1 rfl) ?_
                refine lv_iload_n C.1 C.2.1 dX11_go_138 rfl (lv_at hl 0 rfl) ?_
                refine lv_bipush (v := 59) C.1 C.2.1 dX11_go_139 (by decide) ?_
                have J929 : ((59 ≤ v915.toInt ∧ v915.toInt ≤ 62) ∨ v915.toInt = 40 ∨ v915.toInt = 41) → ∀ (H : Heap) (locs : List Loc) (ls : Array Slot), Wd G s A [(qm, .inr (10, [.int qm_thrown, .ref qm_tape, .int qm_taped, .int qm_size, .int qm_limit, .int j9, .int j9, .int qm_kind, .int qm_number, .int qm_sign, .int qm_fault, .int qm_place, .long qm_word, .int qm_told, .ref qm_now, .ref qm_read, .ref qm_kept, .ref qm_snaps, .ref qm_aside, .ref qm_name, .ref qm_readName, .ref qm_keptName, .ref qm_isKept, .ref qm_onces, .int qm_snapMany, .ref qm_order, .ref qm_ordered, .int qm_orderMany, .int qm_orderMost, .int qm_passing, .int qm_movedWho, .int qm_scratched, .ref qm_text, .int qm_texts, .int qm_seed, .ref qm_line, .ref qm_written, .int qm_lineMany, .int qm_hasWritten, .ref qm_node, .int qm_nodes, .int qm_onesMany, .int qm_within, .int qm_top])), (qm_tape, eI G 940 qm_tape_c)] H locs → lv_has ls 5 [(1, .int v915), (0, .ref qm)] → W p l e (rmD 1 0 0) s m args below meth c H locs 0 0 Q (F0 m 174 ls [.ref qm]) := by
                  intro  hJ929_0 H locs ls hw hl
                  refine lv_iconst (v := 4) C.1 C.2.1 dX11_go_174 (by decide) ?_
                  refine lv_goto (tgt := 179) C.1 C.2.1 dX11_go_175 (by decide) ?_
                  refine x_put (w' := [(qm, .inr (10, [.int qm_thrown, .ref qm_tape, .int qm_taped, .int qm_size, .int qm_limit, .int j9, .int j9, .int 4, .int qm_number, .int qm_sign, .int qm_fault, .int qm_place, .long qm_word, .int qm_told, .ref qm_now, .ref qm_read, .ref qm_kept, .ref qm_snaps, .ref qm_aside, .ref qm_name, .ref qm_readName, .ref qm_keptName, .ref qm_isKept, .ref qm_onces, .int qm_snapMany, .ref qm_order, .ref qm_ordered, .int qm_orderMany, .int qm_orderMost, .int qm_passing, .int qm_movedWho, .int qm_scratched, .ref qm_text, .int qm_texts, .int qm_seed, .ref qm_line, .ref qm_written, .int qm_lineMany, .int qm_hasWritten, .ref qm_node, .int qm_nodes, .int qm_onesMany, .int qm_within, .int qm_top])), (qm_tape, eI G 940 qm_tape_c)]) C hw iwX11 tyX11_ok nmX11 10 rfl 0 rfl 7 (by decide) kw1200 rfl rfl rfl (Nat.le_of_ble_eq_true rfl) rfl dX11_go_179 (fun H locs hw => ?_)
                  refine lv_aload_n C.1 C.2.1 dX11_go_182 rfl (lv_at hl 1 rfl) ?_
                  refine lv_iload_n C.1 C.2.1 dX11_go_183 rfl (lv_at hl 0 rfl) ?_
                  refine x_put (w' := [(qm, .inr (10, [.int qm_thrown, .ref qm_tape, .int qm_taped, .int qm_size, .int qm_limit, .int j9, .int j9, .int 4, .int qm_number, .int v915, .int qm_fault, .int qm_place, .long qm_word, .int qm_told, .ref qm_now, .ref qm_read, .ref qm_kept, .ref qm_snaps, .ref qm_aside, .ref qm_name, .ref qm_readName, .ref qm_keptName, .ref qm_isKept, .ref qm_onces, .int qm_snapMany, .ref qm_order, .ref qm_ordered, .int qm_orderMany, .int qm_orderMost, .int qm_passing, .int qm_movedWho, .int qm_scratched, .ref qm_text, .int qm_texts, .int qm_seed, .ref qm_line, .ref qm_written, .int qm_lineMany, .int qm_hasWritten, .ref qm_node, .int qm_nodes, .int qm_onesMany, .int qm_within, .int qm_top])), (qm_tape, eI G 940 qm_tape_c)]) C hw iwX11 tyX11_ok nmX11 10 rfl 0 rfl 9 (by decide) kw1202 rfl rfl rfl (Nat.le_of_ble_eq_true rfl) rfl dX11_go_184 (fun H locs hw => ?_)
                  refine lv_aload_n C.1 C.2.1 dX11_go_187 rfl (lv_at hl 1 rfl) ?_
                  refine lv_dup C.1 C.2.1 dX11_go_188 rfl ?_
                  refine x_get C hw iwX11 10 rfl 0 rfl 5 (by decide) kw1198 rfl dX11_go_189 ?_
                  refine lv_iconst (v := 1) C.1 C.2.1 dX11_go_192 (by decide) ?_
                  refine lv_iadd C.1 C.2.1 dX11_go_193 (x_genP (fun z : Int32 => z.toInt = j9.toInt + 1) (i_add (X := j9.toInt) (Y := 1) rfl rfl (by omega) (by omega)) (fun v931 hv931 => ?_))
                  refine x_put (w' := [(qm, .inr (10, [.int qm_thrown, .ref qm_tape, .int qm_taped, .int qm_size, .int qm_limit, .int v931, .int j9, .int 4, .int qm_number, .int v915, .int qm_fault, .int qm_place, .long qm_word, .int qm_told, .ref qm_now, .ref qm_read, .ref qm_kept, .ref qm_snaps, .ref qm_aside, .ref qm_name, .ref qm_readName, .ref qm_keptName, .ref qm_isKept, .ref qm_onces, .int qm_snapMany, .ref qm_order, .ref qm_ordered, .int qm_orderMany, .int qm_orderMost, .int qm_passing, .int qm_movedWho, .int qm_scratched, .ref qm_text, .int qm_texts, .int qm_seed, .ref qm_line, .ref qm_written, .int qm_lineMany, .int qm_hasWritten, .ref qm_node, .int qm_nodes, .int qm_onesMany, .int qm_within, .int qm_top])), (qm_tape, eI G 940 qm_tape_c)]) C hw iwX11 tyX11_ok nmX11 10 rfl 0 rfl 5 (by decide) kw1198 rfl rfl rfl (Nat.le_of_ble_eq_true rfl) rfl dX11_go_194 (fun H locs hw => ?_)
                  have hK : tkK b qm_size.toInt qm_limit.toInt qm_to.toInt = 4 := by unfold tkK; rw [hS]; rw [if_neg (by omega), if_neg (by omega), if_neg (by omega), if_pos (by omega)]
                  have hG : tkG b qm_size.toInt qm_to.toInt = v915.toInt := by unfold tkG; rw [hS]; omega
                  have hX : tkX b qm_size.toInt qm_limit.toInt qm_to.toInt = v931.toInt := by unfold tkX; rw [hS]; rw [if_neg (by omega), if_neg (by omega), if_neg (by omega)]; all_goals (first | rfl | omega)
                  have hP : tkP b qm_size.toInt qm_limit.toInt qm_to.toInt = j9.toInt := by unfold tkP; rw [hS]; rw [if_neg (by omega)]; all_goals (first | rfl | omega)
                  exact x_retvQ hQ B hw ⟨v931, j9, 4, qm_number, v915, qm_word, rfl, (by omega), (by omega), (by decide), (by have e0 : (4 : Int32).toInt = 4 := rfl; first | omega), (by have e0 : (4 : Int32).toInt = 4 := rfl; first | omega), (by have e0 : (4 : Int32).toInt = 4 := rfl; first | omega), ⟨fun h9 => by omega, fun h9 => by omega, fun h9 => by omega⟩⟩ (Nat.le_of_ble_eq_true rfl) (Nat.le_of_ble_eq_true rfl) dX11_go_197
                refine lv_icmp_eq (tgt := 174) C.1 C.2.1 dX11_go_141 (by decide) (fun c922 => ?_) (fun c922 => ?_)
                · skip
                  have c922 : v915.toInt = 59 := i_eqT (X := v915.toInt) (Y := 59) rfl rfl c922
                  have bc922_v915 := i_bd v915
                  exact J929   (by first | assumption | omega) _ _ _ hw (lv_sub hl [0, 1] rfl)
                · skip
                  have c922 : v915.toInt ≠ 59 := i_eqF (X := v915.toInt) (Y := 59) rfl rfl c922
                  have bc922_v915 := i_bd v915
                  refine lv_iload_n C.1 C.2.1 dX11_go_144 rfl (lv_at hl 0 rfl) ?_
                  refine lv_bipush (v := 60) C.1 C.2.1 dX11_go_145 (by decide) ?_
                  refine lv_icmp_eq (tgt := 174) C.1 C.2.1 dX11_go_147 (by decide) (fun c932 => ?_) (fun c932 => ?_)
                  · skip
                    have c932 : v915.toInt = 60 := i_eqT (X := v915.toInt) (Y := 60) rfl rfl c932
                    have bc932_v915 := i_bd v915
                    exact J929   (by first | assumption | omega) _ _ _ hw (lv_sub hl [0, 1] rfl)
                  · skip
                    have c932 : v915.toInt ≠ 60 := i_eqF (X := v915.toInt) (Y := 60) rfl rfl c932
                    have bc932_v915 := i_bd v915
                    refine lv_iload_n C.1 C.2.1 dX11_go_150 rfl (lv_at hl 0 rfl) ?_
                    refine lv_bipush (v := 61) C.1 C.2.1 dX11_go_151 (by decide) ?_
                    refine lv_icmp_eq (tgt := 174) C.1 C.2.1 dX11_go_153 (by decide) (fun c933 => ?_) (fun c933 => ?_)
                    · skip
                      have c933 : v915.toInt = 61 := i_eqT (X := v915.toInt) (Y := 61) rfl rfl c933
                      have bc933_v915 := i_bd v915
                      exact J929   (by first | assumption | omega) _ _ _ hw (lv_sub hl [0, 1] rfl)
                    · skip
                      have c933 : v915.toInt ≠ 61 := i_eqF (X := v915.toInt) (Y := 61) rfl rfl c933
                      have bc933_v915 := i_bd v915
                      refine lv_iload_n C.1 C.2.1 dX11_go_156 rfl (lv_at hl 0 rfl) ?_
                      refine lv_bipush (v := 62) C.1 C.2.1 dX11_go_157 (by decide) ?_
                      refine lv_icmp_eq (tgt := 174) C.1 C.2.1 dX11_go_159 (by decide) (fun c934 => ?_) (fun c934 => ?_)
                      · skip
                        have c934 : v915.toInt = 62 := i_eqT (X := v915.toInt) (Y := 62) rfl rfl c934
                        have bc934_v915 := i_bd v915
                        exact J929   (by first | assumption | omega) _ _ _ hw (lv_sub hl [0, 1] rfl)
                      · skip
                        have c934 : v915.toInt ≠ 62 := i_eqF (X := v915.toInt) (Y := 62) rfl rfl c934
                        have bc934_v915 := i_bd v915
                        refine lv_iload_n C.1 C.2.1 dX11_go_162 rfl (lv_at hl 0 rfl) ?_
                        refine lv_bipush (v := 40) C.1 C.2.1 dX11_go_163 (by decide) ?_
                        refine lv_icmp_eq (tgt := 174) C.1 C.2.1 dX11_go_165 (by decide) (fun c935 => ?_) (fun c935 => ?_)
                        · skip
                          have c935 : v915.toInt = 40 := i_eqT (X := v915.toInt) (Y := 40) rfl rfl c935
                          have bc935_v915 := i_bd v915
                          exact J929   (by first | assumption | omega) _ _ _ hw (lv_sub hl [0, 1] rfl)
                        · skip
                          have c935 : v915.toInt ≠ 40 := i_eqF (X := v915.toInt) (Y := 40) rfl rfl c935
                          have bc935_v915 := i_bd v915
                          refine lv_iload_n C.1 C.2.1 dX11_go_168 rfl (lv_at hl 0 rfl) ?_
                          refine lv_bipush (v := 41) C.1 C.2.1 dX11_go_169 (by decide) ?_
                          refine lv_icmp_ne (tgt := 178) C.1 C.2.1 dX11_go_171 (by decide) (fun c936 => ?_) (fun c936 => ?_)
                          · skip
                            have c936 : v915.toInt ≠ 41 := i_eqF (X := v915.toInt) (Y := 41) rfl rfl c936
                            have bc936_v915 := i_bd v915
                            refine lv_iconst (v := 1) C.1 C.2.1 dX11_go_178 (by decide) ?_
                            refine x_put (w' := [(qm, .inr (10, [.int qm_thrown, .ref qm_tape, .int qm_taped, .int qm_size, .int qm_limit, .int j9, .int j9, .int 1, .int qm_number, .int qm_sign, .int qm_fault, .int qm_place, .long qm_word, .int qm_told, .ref qm_now, .ref qm_read, .ref qm_kept, .ref qm_snaps, .ref qm_aside, .ref qm_name, .ref qm_readName, .ref qm_keptName, .ref qm_isKept, .ref qm_onces, .int qm_snapMany, .ref qm_order, .ref qm_ordered, .int qm_orderMany, .int qm_orderMost, .int qm_passing, .int qm_movedWho, .int qm_scratched, .ref qm_text, .int qm_texts, .int qm_seed, .ref qm_line, .ref qm_written, .int qm_lineMany, .int qm_hasWritten, .ref qm_node, .int qm_nodes, .int qm_onesMany, .int qm_within, .int qm_top])), (qm_tape, eI G 940 qm_tape_c)]) C hw iwX11 tyX11_ok nmX11 10 rfl 0 rfl 7 (by decide) kw1200 rfl rfl rfl (Nat.le_of_ble_eq_true rfl) rfl dX11_go_179 (fun H locs hw => ?_)
                            refine lv_aload_n C.1 C.2.1 dX11_go_182 rfl (lv_at hl 1 rfl) ?_
                            refine lv_iload_n C.1 C.2.1 dX11_go_183 rfl (lv_at hl 0 rfl) ?_
                            refine x_put (w' := [(qm, .inr (10, [.int qm_thrown, .ref qm_tape, .int qm_taped, .int qm_size, .int qm_limit, .int j9, .int j9, .int 1, .int qm_number, .int v915, .int qm_fault, .int qm_place, .long qm_word, .int qm_told, .ref qm_now, .ref qm_read, .ref qm_kept, .ref qm_snaps, .ref qm_aside, .ref qm_name, .ref qm_readName, .ref qm_keptName, .ref qm_isKept, .ref qm_onces, .int qm_snapMany, .ref qm_order, .ref qm_ordered, .int qm_orderMany, .int qm_orderMost, .int qm_passing, .int qm_movedWho, .int qm_scratched, .ref qm_text, .int qm_texts, .int qm_seed, .ref qm_line, .ref qm_written, .int qm_lineMany, .int qm_hasWritten, .ref qm_node, .int qm_nodes, .int qm_onesMany, .int qm_within, .int qm_top])), (qm_tape, eI G 940 qm_tape_c)]) C hw iwX11 tyX11_ok nmX11 10 rfl 0 rfl 9 (by decide) kw1202 rfl rfl rfl (Nat.le_of_ble_eq_true rfl) rfl dX11_go_184 (fun H locs hw => ?_)
                            refine lv_aload_n C.1 C.2.1 dX11_go_187 rfl (lv_at hl 1 rfl) ?_
                            refine lv_dup C.1 C.2.1 dX11_go_188 rfl ?_
                            refine x_get C hw iwX11 10 rfl 0 rfl 5 (by decide) kw1198 rfl dX11_go_189 ?_
                            refine lv_iconst (v := 1) C.1 C.2.1 dX11_go_192 (by decide) ?_
                            refine lv_iadd C.1 C.2.1 dX11_go_193 (x_genP (fun z : Int32 => z.toInt = j9.toInt + 1) (i_add (X := j9.toInt) (Y := 1) rfl rfl (by omega) (by omega)) (fun v937 hv937 => ?_))
                            refine x_put (w' := [(qm, .inr (10, [.int qm_thrown, .ref qm_tape, .int qm_taped, .int qm_size, .int qm_limit, .int v937, .int j9, .int 1, .int qm_number, .int v915, .int qm_fault, .int qm_place, .long qm_word, .int qm_told, .ref qm_now, .ref qm_read, .ref qm_kept, .ref qm_snaps, .ref qm_aside, .ref qm_name, .ref qm_readName, .ref qm_keptName, .ref qm_isKept, .ref qm_onces, .int qm_snapMany, .ref qm_order, .ref qm_ordered, .int qm_orderMany, .int qm_orderMost, .int qm_passing, .int qm_movedWho, .int qm_scratched, .ref qm_text, .int qm_texts, .int qm_seed, .ref qm_line, .ref qm_written, .int qm_lineMany, .int qm_hasWritten, .ref qm_node, .int qm_nodes, .int qm_onesMany, .int qm_within, .int qm_top])), (qm_tape, eI G 940 qm_tape_c)]) C hw iwX11 tyX11_ok nmX11 10 rfl 0 rfl 5 (by decide) kw1198 rfl rfl rfl (Nat.le_of_ble_eq_true rfl) rfl dX11_go_194 (fun H locs hw => ?_)
                            have hK : tkK b qm_size.toInt qm_limit.toInt qm_to.toInt = 1 := by unfold tkK; rw [hS]; rw [if_neg (by omega), if_neg (by omega), if_neg (by omega), if_neg (by omega)]
                            have hX : tkX b qm_size.toInt qm_limit.toInt qm_to.toInt = v937.toInt := by unfold tkX; rw [hS]; rw [if_neg (by omega), if_neg (by omega), if_neg (by omega)]; all_goals (first | rfl | omega)
                            have hP : tkP b qm_size.toInt qm_limit.toInt qm_to.toInt = j9.toInt := by unfold tkP; rw [hS]; rw [if_neg (by omega)]; all_goals (first | rfl | omega)
                            exact x_retvQ hQ B hw ⟨v937, j9, 1, qm_number, v915, qm_word, rfl, (by omega), (by omega), (by decide), (by have e0 : (1 : Int32).toInt = 1 := rfl; first | omega), (by have e0 : (1 : Int32).toInt = 1 := rfl; first | omega), (by have e0 : (1 : Int32).toInt = 1 := rfl; first | omega), ⟨fun h9 => by omega, fun h9 => by omega, fun h9 => by omega⟩⟩ (Nat.le_of_ble_eq_true rfl) (Nat.le_of_ble_eq_true rfl) dX11_go_197
                          · skip
                            have c936 : v915.toInt = 41 := i_eqT (X := v915.toInt) (Y := 41) rfl rfl c936
                            have bc936_v915 := i_bd v915
                            exact J929   (by first | assumption | omega) _ _ _ hw (lv_sub hl [0, 1] rfl)
              · skip
                have hw : Wd G s A [(qm, .inr (10, [.int qm_thrown, .ref qm_tape, .int qm_taped, .int qm_size, .int qm_limit, .int j9, .int j9, .int qm_kind, .int qm_number, .int qm_sign, .int qm_fault, .int qm_place, .long qm_word, .int qm_told, .ref qm_now, .ref qm_read, .ref qm_kept, .ref qm_snaps, .ref qm_aside, .ref qm_name, .ref qm_readName, .ref qm_keptName, .ref qm_isKept, .ref qm_onces, .int qm_snapMany, .ref qm_order, .ref qm_ordered, .int qm_orderMany, .int qm_orderMost, .int qm_passing, .int qm_movedWho, .int qm_scratched, .ref qm_text, .int qm_texts, .int qm_seed, .ref qm_line, .ref qm_written, .int qm_lineMany, .int qm_hasWritten, .ref qm_node, .int qm_nodes, .int qm_onesMany, .int qm_within, .int qm_top])), (qm_tape, eI G 940 qm_tape_c)] H _ := hw
                refine lv_if_ne (tgt := 198) C.1 C.2.1 dX11_go_134 (by decide) (fun _ => ?_) (fun h9 => absurd h9 (by decide))
                refine lv_iload_n C.1 C.2.1 dX11_go_198 rfl (lv_at hl 0 rfl) ?_
                refine x_calliS (As := [.int v915]) (rest := []) (wr := [(qm, .inr (10, [.int qm_thrown, .ref qm_tape, .int qm_taped, .int qm_size, .int qm_limit, .int j9, .int j9, .int qm_kind, .int qm_number, .int qm_sign, .int qm_fault, .int qm_place, .long qm_word, .int qm_told, .ref qm_now, .ref qm_read, .ref qm_kept, .ref qm_snaps, .ref qm_aside, .ref qm_name, .ref qm_readName, .ref qm_keptName, .ref qm_isKept, .ref qm_onces, .int qm_snapMany, .ref qm_order, .ref qm_ordered, .int qm_orderMany, .int qm_orderMost, .int qm_passing, .int qm_movedWho, .int qm_scratched, .ref qm_text, .int qm_texts, .int qm_seed, .ref qm_line, .ref qm_written, .int qm_lineMany, .int qm_hasWritten, .ref qm_node, .int qm_nodes, .int qm_onesMany, .int qm_within, .int qm_top])), (qm_tape, eI G 940 qm_tape_c)]) C hw (e_X11_isLetter v915) mwX11_isLetter kw1343 [] [0, 1] rfl rfl rfl rfl (by decide) rfl hl.1 rfl (Nat.le_of_ble_eq_true rfl) ⟨(Nat.le_of_ble_eq_true rfl), (Nat.le_of_ble_eq_true rfl)⟩ ⟨(Nat.le_of_ble_eq_true rfl), (Nat.le_of_ble_eq_true rfl)⟩ dX11_go_199 (fun r938 u9 H locs hp9 hw => ?_)
                rcases hp9 with ⟨rfl, rfl, hf939⟩ | ⟨rfl, rfl, hf940⟩
                · skip
                  have hw : Wd G s A [(qm, .inr (10, [.int qm_thrown, .ref qm_tape, .int qm_taped, .int qm_size, .int qm_limit, .int j9, .int j9, .int qm_kind, .int qm_number, .int qm_sign, .int qm_fault, .int qm_place, .long qm_word, .int qm_told, .ref qm_now, .ref qm_read, .ref qm_kept, .ref qm_snaps, .ref qm_aside, .ref qm_name, .ref qm_readName, .ref qm_keptName, .ref qm_isKept, .ref qm_onces, .int qm_snapMany, .ref qm_order, .ref qm_ordered, .int qm_orderMany, .int qm_orderMost, .int qm_passing, .int qm_movedWho, .int qm_scratched, .ref qm_text, .int qm_texts, .int qm_seed, .ref qm_line, .ref qm_written, .int qm_lineMany, .int qm_hasWritten, .ref qm_node, .int qm_nodes, .int qm_onesMany, .int qm_within, .int qm_top])), (qm_tape, eI G 940 qm_tape_c)] H _ := hw
                  refine lv_istore_n (lv' := [(2, .int 0), (1, .int v915), (0, .ref qm)]) C.1 C.2.1 dX11_go_202 rfl hl (by decide) rfl (fun ls hl => ?_)
                  refine lv_iconst (v := 1) C.1 C.2.1 dX11_go_203 (by decide) ?_
                  refine lv_istore_n (lv' := [(3, .int 1), (2, .int 0), (1, .int v915), (0, .ref qm)]) C.1 C.2.1 dX11_go_204 rfl hl (by decide) rfl (fun ls hl => ?_)
                  refine lv_aload_n C.1 C.2.1 dX11_go_205 rfl (lv_at hl 3 rfl) ?_
                  refine lv_lconst (v := 0) C.1 C.2.1 dX11_go_206 (by decide) ?_
                  refine x_put (w' := [(qm, .inr (10, [.int qm_thrown, .ref qm_tape, .int qm_taped, .int qm_size, .int qm_limit, .int j9, .int j9, .int qm_kind, .int qm_number, .int qm_sign, .int qm_fault, .int qm_place, .long 0, .int qm_told, .ref qm_now, .ref qm_read, .ref qm_kept, .ref qm_snaps, .ref qm_aside, .ref qm_name, .ref qm_readName, .ref qm_keptName, .ref qm_isKept, .ref qm_onces, .int qm_snapMany, .ref qm_order, .ref qm_ordered, .int qm_orderMany, .int qm_orderMost, .int qm_passing, .int qm_movedWho, .int qm_scratched, .ref qm_text, .int qm_texts, .int qm_seed, .ref qm_line, .ref qm_written, .int qm_lineMany, .int qm_hasWritten, .ref qm_node, .int qm_nodes, .int qm_onesMany, .int qm_within, .int qm_top])), (qm_tape, eI G 940 qm_tape_c)]) C hw iwX11 tyX11_ok nmX11 10 rfl 0 rfl 12 (by decide) kw1205 rfl rfl rfl (Nat.le_of_ble_eq_true rfl) rfl dX11_go_207 (fun H locs hw => ?_)
                  refine lv_aload_n C.1 C.2.1 dX11_go_210 rfl (lv_at hl 3 rfl) ?_
                  refine lv_iconst (v := 0) C.1 C.2.1 dX11_go_211 (by decide) ?_
                  refine x_put (w' := [(qm, .inr (10, [.int qm_thrown, .ref qm_tape, .int qm_taped, .int qm_size, .int qm_limit, .int j9, .int j9, .int qm_kind, .int 0, .int qm_sign, .int qm_fault, .int qm_place, .long 0, .int qm_told, .ref qm_now, .ref qm_read, .ref qm_kept, .ref qm_snaps, .ref qm_aside, .ref qm_name, .ref qm_readName, .ref qm_keptName, .ref qm_isKept, .ref qm_onces, .int qm_snapMany, .ref qm_order, .ref qm_ordered, .int qm_orderMany, .int qm_orderMost, .int qm_passing, .int qm_movedWho, .int qm_scratched, .ref qm_text, .int qm_texts, .int qm_seed, .ref qm_line, .ref qm_written, .int qm_lineMany, .int qm_hasWritten, .ref qm_node, .int qm_nodes, .int qm_onesMany, .int qm_within, .int qm_top])), (qm_tape, eI G 940 qm_tape_c)]) C hw iwX11 tyX11_ok nmX11 10 rfl 0 rfl 8 (by decide) kw1201 rfl rfl rfl (Nat.le_of_ble_eq_true rfl) rfl dX11_go_212 (fun H locs hw => ?_)
                  have loopJ993 : ∀ (n9 : Nat) (j989 : Int32) (j990 : Int32) (j991 : Int32) (j992 : Int64), (2147483647 - j990.toInt).toNat < n9 → (0 ≤ j989.toInt ∧ j989.toInt ≤ 1) → (0 ≤ j990.toInt ∧ j990.toInt ≤ 940) → (goI0 b qm_size.toInt j9.toInt j990.toInt j989 j992 j991) → ∀ (H : Heap) (locs : List Loc) (ls : Array Slot), Wd G s A [(qm, .inr (10, [.int qm_thrown, .ref qm_tape, .int qm_taped, .int qm_size, .int qm_limit, .int j990, .int j9, .int qm_kind, .int j991, .int qm_sign, .int qm_fault, .int qm_place, .long j992, .int qm_told, .ref qm_now, .ref qm_read, .ref qm_kept, .ref qm_snaps, .ref qm_aside, .ref qm_name, .ref qm_readName, .ref qm_keptName, .ref qm_isKept, .ref qm_onces, .int qm_snapMany, .ref qm_order, .ref qm_ordered, .int qm_orderMany, .int qm_orderMost, .int qm_passing, .int qm_movedWho, .int qm_scratched, .ref qm_text, .int qm_texts, .int qm_seed, .ref qm_line, .ref qm_written, .int qm_lineMany, .int qm_hasWritten, .ref qm_node, .int qm_nodes, .int qm_onesMany, .int qm_within, .int qm_top])), (qm_tape, eI G 940 qm_tape_c)] H locs → lv_has ls 5 [(3, .int j989), (2, .int 0), (0, .ref qm)] → W p l e (rmD 1 0 0) s m args below meth c H locs 0 0 Q (F0 m 215 ls []) := by
                    intro n9
                    induction n9 with
                    | zero => intro j989 j990 j991 j992 h9; exact absurd h9 (Nat.not_lt_zero _)
                    | succ n9 ihJ993 =>
                      intro j989 j990 j991 j992 h9J993 hJ993_0 hJ993_1 hJ993_2 H locs ls hw hl
                      have hbj990 := i_bd j990
                      refine lv_aload_n C.1 C.2.1 dX11_go_215 rfl (lv_at hl 2 rfl) ?_
                      refine lv_aload_n C.1 C.2.1 dX11_go_216 rfl (lv_at hl 2 rfl) ?_
                      refine x_get C hw iwX11 10 rfl 0 rfl 5 (by decide) kw1198 rfl dX11_go_217 ?_
                      refine x_calliV (As := [.int j990]) (rest := []) (wr := []) C hw (e_X11_tapeAt qm j990 qm_thrown qm_tape qm_taped qm_size qm_limit j990 j9 qm_kind j991 qm_sign qm_fault qm_place j992 qm_told qm_now qm_read qm_kept qm_snaps qm_aside qm_name qm_readName qm_keptName qm_isKept qm_onces qm_snapMany qm_order qm_ordered qm_orderMany qm_orderMost qm_passing qm_movedWho qm_scratched qm_text qm_texts qm_seed qm_line qm_written qm_lineMany qm_hasWritten qm_node qm_nodes qm_onesMany qm_within qm_top qm_tape_c b (by omega) (by omega) hr_0) mwX11_tapeAt kw1349 [0, 1] [] rfl rfl rfl rfl (by decide) 0 rfl rfl rfl rfl hl.1 rfl (Nat.le_of_ble_eq_true rfl) ⟨(Nat.le_of_ble_eq_true rfl), (Nat.le_of_ble_eq_true rfl)⟩ ⟨(Nat.le_of_ble_eq_true rfl), (Nat.le_of_ble_eq_true rfl)⟩ dX11_go_220 (fun r1038 u9 H locs hp9 hw => ?_)
                      obtain ⟨x1039, rfl, rfl, hf1040, hf1041⟩ := hp9
                      have hw : Wd G s A [(qm, .inr (10, [.int qm_thrown, .ref qm_tape, .int qm_taped, .int qm_size, .int qm_limit, .int j990, .int j9, .int qm_kind, .int j991, .int qm_sign, .int qm_fault, .int qm_place, .long j992, .int qm_told, .ref qm_now, .ref qm_read, .ref qm_kept, .ref qm_snaps, .ref qm_aside, .ref qm_name, .ref qm_readName, .ref qm_keptName, .ref qm_isKept, .ref qm_onces, .int qm_snapMany, .ref qm_order, .ref qm_ordered, .int qm_orderMany, .int qm_orderMost, .int qm_passing, .int qm_movedWho, .int qm_scratched, .ref qm_text, .int qm_texts, .int qm_seed, .ref qm_line, .ref qm_written, .int qm_lineMany, .int qm_hasWritten, .ref qm_node, .int qm_nodes, .int qm_onesMany, .int qm_within, .int qm_top])), (qm_tape, eI G 940 qm_tape_c)] H _ := hw
                      refine x_calliS (As := [.int r1038]) (rest := []) (wr := [(qm, .inr (10, [.int qm_thrown, .ref qm_tape, .int qm_taped, .int qm_size, .int qm_limit, .int j990, .int j9, .int qm_kind, .int j991, .int qm_sign, .int qm_fault, .int qm_place, .long j992, .int qm_told, .ref qm_now, .ref qm_read, .ref qm_kept, .ref qm_snaps, .ref qm_aside, .ref qm_name, .ref qm_readName, .ref qm_keptName, .ref qm_isKept, .ref qm_onces, .int qm_snapMany, .ref qm_order, .ref qm_ordered, .int qm_orderMany, .int qm_orderMost, .int qm_passing, .int qm_movedWho, .int qm_scratched, .ref qm_text, .int qm_texts, .int qm_seed, .ref qm_line, .ref qm_written, .int qm_lineMany, .int qm_hasWritten, .ref qm_node, .int qm_nodes, .int qm_onesMany, .int qm_within, .int qm_top])), (qm_tape, eI G 940 qm_tape_c)]) C hw (e_X11_isLetter r1038) mwX11_isLetter kw1343 [] [0, 1] rfl rfl rfl rfl (by decide) rfl hl.1 rfl (Nat.le_of_ble_eq_true rfl) ⟨(Nat.le_of_ble_eq_true rfl), (Nat.le_of_ble_eq_true rfl)⟩ ⟨(Nat.le_of_ble_eq_true rfl), (Nat.le_of_ble_eq_true rfl)⟩ dX11_go_223 (fun r1042 u9 H locs hp9 hw => ?_)
                      have J1055 : (j990.toInt < qm_size.toInt) → ((97 ≤ b j990.toInt ∧ b j990.toInt ≤ 122) ∨ (48 ≤ b j990.toInt ∧ b j990.toInt ≤ 57)) → ∀ (H : Heap) (locs : List Loc) (ls : Array Slot), Wd G s A [(qm, .inr (10, [.int qm_thrown, .ref qm_tape, .int qm_taped, .int qm_size, .int qm_limit, .int j990, .int j9, .int qm_kind, .int j991, .int qm_sign, .int qm_fault, .int qm_place, .long j992, .int qm_told, .ref qm_now, .ref qm_read, .ref qm_kept, .ref qm_snaps, .ref qm_aside, .ref qm_name, .ref qm_readName, .ref qm_keptName, .ref qm_isKept, .ref qm_onces, .int qm_snapMany, .ref qm_order, .ref qm_ordered, .int qm_orderMany, .int qm_orderMost, .int qm_passing, .int qm_movedWho, .int qm_scratched, .ref qm_text, .int qm_texts, .int qm_seed, .ref qm_line, .ref qm_written, .int qm_lineMany, .int qm_hasWritten, .ref qm_node, .int qm_nodes, .int qm_onesMany, .int qm_within, .int qm_top])), (qm_tape, eI G 940 qm_tape_c)] H locs → lv_has ls 5 [(3, .int j989), (2, .int 0), (0, .ref qm)] → W p l e (rmD 1 0 0) s m args below meth c H locs 0 0 Q (F0 m 243 ls []) := by
                        intro  hJ1055_0 hJ1055_1 H locs ls hw hl
                        refine lv_aload_n C.1 C.2.1 dX11_go_243 rfl (lv_at hl 2 rfl) ?_
                        refine x_get C hw iwX11 10 rfl 0 rfl 1 (by decide) kw1194 rfl dX11_go_244 ?_
                        refine lv_aload_n C.1 C.2.1 dX11_go_247 rfl (lv_at hl 2 rfl) ?_
                        refine x_get C hw iwX11 10 rfl 0 rfl 5 (by decide) kw1198 rfl dX11_go_248 ?_
                        refine x_iald (v := (qm_tape_c j990.toNatClampNeg)) C hw 1 rfl (i_in (by omega) (by omega)) rfl dX11_go_251 (x_genP (fun z : Int32 => (z.toInt = b j990.toInt) ∧ z = qm_tape_c (j990.toInt.toNat) ∧ z.toInt = (qm_tape_c (j990.toInt.toNat)).toInt) ⟨(hr_0 j990.toInt (by omega) (by omega)).symm, rfl, rfl⟩ (fun v1080 hv1080 => ?_))
                        refine lv_istore (lv' := [(4, .int v1080), (3, .int j989), (2, .int 0), (0, .ref qm)]) C.1 C.2.1 dX11_go_252 hl (by decide) rfl (fun ls hl => ?_)
                        refine lv_iload_n C.1 C.2.1 dX11_go_254 rfl (lv_at hl 1 rfl) ?_
                        have J1087 : ∀ (j1086 : Int32), (0 ≤ j1086.toInt ∧ j1086.toInt ≤ 1) → ((j1086.toInt = 1 ∧ j989.toInt ≠ 0 ∧ (48 ≤ b j990.toInt ∧ b j990.toInt ≤ 57)) ∨ (j1086.toInt = 0 ∧ (j989.toInt = 0 ∨ ¬ (48 ≤ b j990.toInt ∧ b j990.toInt ≤ 57)))) → ∀ (H : Heap) (locs : List Loc) (ls : Array Slot), Wd G s A [(qm, .inr (10, [.int qm_thrown, .ref qm_tape, .int qm_taped, .int qm_size, .int qm_limit, .int j990, .int j9, .int qm_kind, .int j991, .int qm_sign, .int qm_fault, .int qm_place, .long j992, .int qm_told, .ref qm_now, .ref qm_read, .ref qm_kept, .ref qm_snaps, .ref qm_aside, .ref qm_name, .ref qm_readName, .ref qm_keptName, .ref qm_isKept, .ref qm_onces, .int qm_snapMany, .ref qm_order, .ref qm_ordered, .int qm_orderMany, .int qm_orderMost, .int qm_passing, .int qm_movedWho, .int qm_scratched, .ref qm_text, .int qm_texts, .int qm_seed, .ref qm_line, .ref qm_written, .int qm_lineMany, .int qm_hasWritten, .ref qm_node, .int qm_nodes, .int qm_onesMany, .int qm_within, .int qm_top])), (qm_tape, eI G 940 qm_tape_c)] H locs → lv_has ls 5 [(4, .int v1080), (2, .int 0), (0, .ref qm)] → W p l e (rmD 1 0 0) s m args below meth c H locs 0 0 Q (F0 m 272 ls [.int j1086]) := by
                          intro j1086 hJ1087_0 hJ1087_1 H locs ls hw hl
                          refine lv_istore_n (lv' := [(3, .int j1086), (4, .int v1080), (2, .int 0), (0, .ref qm)]) C.1 C.2.1 dX11_go_272 rfl hl (by decide) rfl (fun ls hl => ?_)
                          refine lv_aload_n C.1 C.2.1 dX11_go_273 rfl (lv_at hl 3 rfl) ?_
                          refine x_get C hw iwX11 10 rfl 0 rfl 5 (by decide) kw1198 rfl dX11_go_274 ?_
                          refine lv_aload_n C.1 C.2.1 dX11_go_277 rfl (lv_at hl 3 rfl) ?_
                          refine x_get C hw iwX11 10 rfl 0 rfl 6 (by decide) kw1199 rfl dX11_go_278 ?_
                          refine lv_isub C.1 C.2.1 dX11_go_281 (x_genP (fun z : Int32 => z.toInt = j990.toInt - j9.toInt) (i_sub (X := j990.toInt) (Y := j9.toInt) rfl rfl (by omega) (by omega)) (fun v1104 hv1104 => ?_))
                          refine lv_bipush (v := 7) C.1 C.2.1 dX11_go_282 (by decide) ?_
                          have J1111 : ∀ (j1110 : Int64), (wstI j9.toInt j990.toInt (b j990.toInt) j992 j1110) → ∀ (H : Heap) (locs : List Loc) (ls : Array Slot), Wd G s A [(qm, .inr (10, [.int qm_thrown, .ref qm_tape, .int qm_taped, .int qm_size, .int qm_limit, .int j990, .int j9, .int qm_kind, .int j991, .int qm_sign, .int qm_fault, .int qm_place, .long j1110, .int qm_told, .ref qm_now, .ref qm_read, .ref qm_kept, .ref qm_snaps, .ref qm_aside, .ref qm_name, .ref qm_readName, .ref qm_keptName, .ref qm_isKept, .ref qm_onces, .int qm_snapMany, .ref qm_order, .ref qm_ordered, .int qm_orderMany, .int qm_orderMost, .int qm_passing, .int qm_movedWho, .int qm_scratched, .ref qm_text, .int qm_texts, .int qm_seed, .ref qm_line, .ref qm_written, .int qm_lineMany, .int qm_hasWritten, .ref qm_node, .int qm_nodes, .int qm_onesMany, .int qm_within, .int qm_top])), (qm_tape, eI G 940 qm_tape_c)] H locs → lv_has ls 5 [(3, .int j1086), (4, .int v1080), (2, .int 0), (0, .ref qm)] → W p l e (rmD 1 0 0) s m args below meth c H locs 0 0 Q (F0 m 307 ls []) := by
                            intro j1110 hJ1111_0 H locs ls hw hl
                            refine lv_aload_n C.1 C.2.1 dX11_go_307 rfl (lv_at hl 3 rfl) ?_
                            refine x_get C hw iwX11 10 rfl 0 rfl 5 (by decide) kw1198 rfl dX11_go_308 ?_
                            refine lv_aload_n C.1 C.2.1 dX11_go_311 rfl (lv_at hl 3 rfl) ?_
                            refine x_get C hw iwX11 10 rfl 0 rfl 6 (by decide) kw1199 rfl dX11_go_312 ?_
                            refine lv_isub C.1 C.2.1 dX11_go_315 (x_genP (fun z : Int32 => z.toInt = j990.toInt - j9.toInt) (i_sub (X := j990.toInt) (Y := j9.toInt) rfl rfl (by omega) (by omega)) (fun v1120 hv1120 => ?_))
                            refine lv_iconst (v := 3) C.1 C.2.1 dX11_go_316 (by decide) ?_
                            have J1126 : ∀ (j1125 : Int32), (nstI j9.toInt j990.toInt (b j990.toInt) j991 j1125) → ∀ (H : Heap) (locs : List Loc) (ls : Array Slot), Wd G s A [(qm, .inr (10, [.int qm_thrown, .ref qm_tape, .int qm_taped, .int qm_size, .int qm_limit, .int j990, .int j9, .int qm_kind, .int j1125, .int qm_sign, .int qm_fault, .int qm_place, .long j1110, .int qm_told, .ref qm_now, .ref qm_read, .ref qm_kept, .ref qm_snaps, .ref qm_aside, .ref qm_name, .ref qm_readName, .ref qm_keptName, .ref qm_isKept, .ref qm_onces, .int qm_snapMany, .ref qm_order, .ref qm_ordered, .int qm_orderMany, .int qm_orderMost, .int qm_passing, .int qm_movedWho, .int qm_scratched, .ref qm_text, .int qm_texts, .int qm_seed, .ref qm_line, .ref qm_written, .int qm_lineMany, .int qm_hasWritten, .ref qm_node, .int qm_nodes, .int qm_onesMany, .int qm_within, .int qm_top])), (qm_tape, eI G 940 qm_tape_c)] H locs → lv_has ls 5 [(3, .int j1086), (2, .int 0), (0, .ref qm)] → W p l e (rmD 1 0 0) s m args below meth c H locs 0 0 Q (F0 m 337 ls []) := by
                              intro j1125 hJ1126_0 H locs ls hw hl
                              refine lv_aload_n C.1 C.2.1 dX11_go_337 rfl (lv_at hl 2 rfl) ?_
                              refine lv_dup C.1 C.2.1 dX11_go_338 rfl ?_
                              refine x_get C hw iwX11 10 rfl 0 rfl 5 (by decide) kw1198 rfl dX11_go_339 ?_
                              refine lv_iconst (v := 1) C.1 C.2.1 dX11_go_342 (by decide) ?_
                              refine lv_iadd C.1 C.2.1 dX11_go_343 (x_genP (fun z : Int32 => z.toInt = j990.toInt + 1) (i_add (X := j990.toInt) (Y := 1) rfl rfl (by omega) (by omega)) (fun v1128 hv1128 => ?_))
                              refine x_put (w' := [(qm, .inr (10, [.int qm_thrown, .ref qm_tape, .int qm_taped, .int qm_size, .int qm_limit, .int v1128, .int j9, .int qm_kind, .int j1125, .int qm_sign, .int qm_fault, .int qm_place, .long j1110, .int qm_told, .ref qm_now, .ref qm_read, .ref qm_kept, .ref qm_snaps, .ref qm_aside, .ref qm_name, .ref qm_readName, .ref qm_keptName, .ref qm_isKept, .ref qm_onces, .int qm_snapMany, .ref qm_order, .ref qm_ordered, .int qm_orderMany, .int qm_orderMost, .int qm_passing, .int qm_movedWho, .int qm_scratched, .ref qm_text, .int qm_texts, .int qm_seed, .ref qm_line, .ref qm_written, .int qm_lineMany, .int qm_hasWritten, .ref qm_node, .int qm_nodes, .int qm_onesMany, .int qm_within, .int qm_top])), (qm_tape, eI G 940 qm_tape_c)]) C hw iwX11 tyX11_ok nmX11 10 rfl 0 rfl 5 (by decide) kw1198 rfl rfl rfl (Nat.le_of_ble_eq_true rfl) rfl dX11_go_344 (fun H locs hw => ?_)
                              refine lv_goto (tgt := 215) C.1 C.2.1 dX11_go_347 (by decide) ?_
                              exact ihJ993 j1086 v1128 j1125 j1110 (by omega) (by omega) (by omega) (goI0_s (show goI0 b qm_size.toInt j9.toInt j990.toInt j989 j992 j991 by assumption) (by omega) (by omega) (by assumption) (by assumption) (by assumption) (by assumption) hv1128) _ _ _ hw (lv_sub hl [0, 1, 2] rfl)
                            refine lv_icmp_ge (tgt := 337) C.1 C.2.1 dX11_go_317 (by decide) (fun c1121 => ?_) (fun c1121 => ?_)
                            · skip
                              have c1121 : 3 ≤ v1120.toInt := i_leT (X := 3) (Y := v1120.toInt) rfl rfl c1121
                              exact J1126 j991  (fun h9 => absurd h9 (by omega)) _ _ _ hw (lv_sub hl [0, 2, 3] rfl)
                            · skip
                              have c1121 : v1120.toInt < 3 := i_leF (X := 3) (Y := v1120.toInt) rfl rfl c1121
                              refine lv_aload_n C.1 C.2.1 dX11_go_320 rfl (lv_at hl 3 rfl) ?_
                              refine lv_bipush (v := 10) C.1 C.2.1 dX11_go_321 (by decide) ?_
                              refine lv_aload_n C.1 C.2.1 dX11_go_323 rfl (lv_at hl 3 rfl) ?_
                              refine x_get C hw iwX11 10 rfl 0 rfl 8 (by decide) kw1201 rfl dX11_go_324 ?_
                              refine lv_imul C.1 C.2.1 dX11_go_327 (x_genP (fun z : Int32 => z = 10 * j991) rfl (fun v1129 hv1129 => ?_))
                              refine lv_iload C.1 C.2.1 dX11_go_328 (lv_at hl 1 rfl) ?_
                              refine lv_iadd C.1 C.2.1 dX11_go_330 (x_genP (fun z : Int32 => z = v1129 + v1080) rfl (fun v1130 hv1130 => ?_))
                              refine lv_bipush (v := 48) C.1 C.2.1 dX11_go_331 (by decide) ?_
                              refine lv_isub C.1 C.2.1 dX11_go_333 (x_genP (fun z : Int32 => z = v1130 - 48) rfl (fun v1131 hv1131 => ?_))
                              refine x_put (w' := [(qm, .inr (10, [.int qm_thrown, .ref qm_tape, .int qm_taped, .int qm_size, .int qm_limit, .int j990, .int j9, .int qm_kind, .int v1131, .int qm_sign, .int qm_fault, .int qm_place, .long j1110, .int qm_told, .ref qm_now, .ref qm_read, .ref qm_kept, .ref qm_snaps, .ref qm_aside, .ref qm_name, .ref qm_readName, .ref qm_keptName, .ref qm_isKept, .ref qm_onces, .int qm_snapMany, .ref qm_order, .ref qm_ordered, .int qm_orderMany, .int qm_orderMost, .int qm_passing, .int qm_movedWho, .int qm_scratched, .ref qm_text, .int qm_texts, .int qm_seed, .ref qm_line, .ref qm_written, .int qm_lineMany, .int qm_hasWritten, .ref qm_node, .int qm_nodes, .int qm_onesMany, .int qm_within, .int qm_top])), (qm_tape, eI G 940 qm_tape_c)]) C hw iwX11 tyX11_ok nmX11 10 rfl 0 rfl 8 (by decide) kw1201 rfl rfl rfl (Nat.le_of_ble_eq_true rfl) rfl dX11_go_334 (fun H locs hw => ?_)
                              exact J1126 v1131  (fun _ => ⟨v1080, by omega, by rw [hv1131, hv1130, hv1129]⟩) _ _ _ hw (lv_sub hl [0, 2, 3] rfl)
                          refine lv_icmp_ge (tgt := 307) C.1 C.2.1 dX11_go_284 (by decide) (fun c1105 => ?_) (fun c1105 => ?_)
                          · skip
                            have c1105 : 7 ≤ v1104.toInt := i_leT (X := 7) (Y := v1104.toInt) rfl rfl c1105
                            exact J1111 j992  (fun h9 => absurd h9 (by omega)) _ _ _ hw (lv_sub hl [0, 1, 2, 3] rfl)
                          · skip
                            have c1105 : v1104.toInt < 7 := i_leF (X := 7) (Y := v1104.toInt) rfl rfl c1105
                            refine lv_aload_n C.1 C.2.1 dX11_go_287 rfl (lv_at hl 3 rfl) ?_
                            refine lv_ldc2 (v := 27) C.1 C.2.1 C.2.2.2.1 (C.2.2.2.2 _ kw1353) dX11_go_288 ?_
                            refine lv_aload_n C.1 C.2.1 dX11_go_291 rfl (lv_at hl 3 rfl) ?_
                            refine x_get C hw iwX11 10 rfl 0 rfl 12 (by decide) kw1205 rfl dX11_go_292 ?_
                            refine lv_lmul C.1 C.2.1 dX11_go_295 (x_genlP (fun z : Int64 => z = (27 : Int64) * j992) rfl (fun v1132 hv1132 => ?_))
                            refine lv_iload C.1 C.2.1 dX11_go_296 (lv_at hl 1 rfl) ?_
                            refine lv_i2l (v := v1080.toInt64) C.1 C.2.1 dX11_go_298 rfl (x_genlP (fun z : Int64 => z.toInt = v1080.toInt ∧ z = v1080.toInt64) ⟨l_i2l _, rfl⟩ (fun v1133 hv1133 => ?_))
                            refine lv_ladd C.1 C.2.1 dX11_go_299 (x_genlP (fun z : Int64 => z = v1132 + v1133) rfl (fun v1134 hv1134 => ?_))
                            refine lv_ldc2 (v := 96) C.1 C.2.1 C.2.2.2.1 (C.2.2.2.2 _ kw1354) dX11_go_300 ?_
                            refine lv_lsub C.1 C.2.1 dX11_go_303 (x_genlP (fun z : Int64 => z = v1134 - (96 : Int64)) rfl (fun v1135 hv1135 => ?_))
                            refine x_put (w' := [(qm, .inr (10, [.int qm_thrown, .ref qm_tape, .int qm_taped, .int qm_size, .int qm_limit, .int j990, .int j9, .int qm_kind, .int j991, .int qm_sign, .int qm_fault, .int qm_place, .long v1135, .int qm_told, .ref qm_now, .ref qm_read, .ref qm_kept, .ref qm_snaps, .ref qm_aside, .ref qm_name, .ref qm_readName, .ref qm_keptName, .ref qm_isKept, .ref qm_onces, .int qm_snapMany, .ref qm_order, .ref qm_ordered, .int qm_orderMany, .int qm_orderMost, .int qm_passing, .int qm_movedWho, .int qm_scratched, .ref qm_text, .int qm_texts, .int qm_seed, .ref qm_line, .ref qm_written, .int qm_lineMany, .int qm_hasWritten, .ref qm_node, .int qm_nodes, .int qm_onesMany, .int qm_within, .int qm_top])), (qm_tape, eI G 940 qm_tape_c)]) C hw iwX11 tyX11_ok nmX11 10 rfl 0 rfl 12 (by decide) kw1205 rfl rfl rfl (Nat.le_of_ble_eq_true rfl) rfl dX11_go_304 (fun H locs hw => ?_)
                            exact J1111 v1135  (fun _ => ⟨v1133, by omega, by rw [hv1135, hv1134, hv1132]⟩) _ _ _ hw (lv_sub hl [0, 1, 2, 3] rfl)
                        have J1085 : (j989.toInt = 0 ∨ ¬ (48 ≤ b j990.toInt ∧ b j990.toInt ≤ 57)) → ∀ (H : Heap) (locs : List Loc) (ls : Array Slot), Wd G s A [(qm, .inr (10, [.int qm_thrown, .ref qm_tape, .int qm_taped, .int qm_size, .int qm_limit, .int j990, .int j9, .int qm_kind, .int j991, .int qm_sign, .int qm_fault, .int qm_place, .long j992, .int qm_told, .ref qm_now, .ref qm_read, .ref qm_kept, .ref qm_snaps, .ref qm_aside, .ref qm_name, .ref qm_readName, .ref qm_keptName, .ref qm_isKept, .ref qm_onces, .int qm_snapMany, .ref qm_order, .ref qm_ordered, .int qm_orderMany, .int qm_orderMost, .int qm_passing, .int qm_movedWho, .int qm_scratched, .ref qm_text, .int qm_texts, .int qm_seed, .ref qm_line, .ref qm_written, .int qm_lineMany, .int qm_hasWritten, .ref qm_node, .int qm_nodes, .int qm_onesMany, .int qm_within, .int qm_top])), (qm_tape, eI G 940 qm_tape_c)] H locs → lv_has ls 5 [(4, .int v1080), (2, .int 0), (0, .ref qm)] → W p l e (rmD 1 0 0) s m args below meth c H locs 0 0 Q (F0 m 271 ls []) := by
                          intro  hJ1085_0 H locs ls hw hl
                          refine lv_iconst (v := 0) C.1 C.2.1 dX11_go_271 (by decide) ?_
                          exact J1087 0  (by decide) (by have e0 : (0 : Int32).toInt = 0 := rfl; first | assumption | omega) _ _ _ hw (lv_sub hl [0, 1, 2] rfl)
                        refine lv_if_eq (tgt := 271) C.1 C.2.1 dX11_go_255 (by decide) (fun c1081 => ?_) (fun c1081 => ?_)
                        · skip
                          have c1081 : j989.toInt = 0 := i_eqT (X := j989.toInt) (Y := 0) rfl rfl c1081
                          exact J1085   (by first | assumption | omega) _ _ _ hw (lv_sub hl [0, 2, 3] rfl)
                        · skip
                          have c1081 : j989.toInt ≠ 0 := i_eqF (X := j989.toInt) (Y := 0) rfl rfl c1081
                          refine lv_iload C.1 C.2.1 dX11_go_258 (lv_at hl 0 rfl) ?_
                          refine x_calliS (As := [.int v1080]) (rest := []) (wr := [(qm, .inr (10, [.int qm_thrown, .ref qm_tape, .int qm_taped, .int qm_size, .int qm_limit, .int j990, .int j9, .int qm_kind, .int j991, .int qm_sign, .int qm_fault, .int qm_place, .long j992, .int qm_told, .ref qm_now, .ref qm_read, .ref qm_kept, .ref qm_snaps, .ref qm_aside, .ref qm_name, .ref qm_readName, .ref qm_keptName, .ref qm_isKept, .ref qm_onces, .int qm_snapMany, .ref qm_order, .ref qm_ordered, .int qm_orderMany, .int qm_orderMost, .int qm_passing, .int qm_movedWho, .int qm_scratched, .ref qm_text, .int qm_texts, .int qm_seed, .ref qm_line, .ref qm_written, .int qm_lineMany, .int qm_hasWritten, .ref qm_node, .int qm_nodes, .int qm_onesMany, .int qm_within, .int qm_top])), (qm_tape, eI G 940 qm_tape_c)]) C hw (e_X11_isLetter v1080) mwX11_isLetter kw1343 [] [0, 1] rfl rfl rfl rfl (by decide) rfl hl.1 rfl (Nat.le_of_ble_eq_true rfl) ⟨(Nat.le_of_ble_eq_true rfl), (Nat.le_of_ble_eq_true rfl)⟩ ⟨(Nat.le_of_ble_eq_true rfl), (Nat.le_of_ble_eq_true rfl)⟩ dX11_go_260 (fun r1136 u9 H locs hp9 hw => ?_)
                          rcases hp9 with ⟨rfl, rfl, hf1137⟩ | ⟨rfl, rfl, hf1138⟩
                          · skip
                            have hw : Wd G s A [(qm, .inr (10, [.int qm_thrown, .ref qm_tape, .int qm_taped, .int qm_size, .int qm_limit, .int j990, .int j9, .int qm_kind, .int j991, .int qm_sign, .int qm_fault, .int qm_place, .long j992, .int qm_told, .ref qm_now, .ref qm_read, .ref qm_kept, .ref qm_snaps, .ref qm_aside, .ref qm_name, .ref qm_readName, .ref qm_keptName, .ref qm_isKept, .ref qm_onces, .int qm_snapMany, .ref qm_order, .ref qm_ordered, .int qm_orderMany, .int qm_orderMost, .int qm_passing, .int qm_movedWho, .int qm_scratched, .ref qm_text, .int qm_texts, .int qm_seed, .ref qm_line, .ref qm_written, .int qm_lineMany, .int qm_hasWritten, .ref qm_node, .int qm_nodes, .int qm_onesMany, .int qm_within, .int qm_top])), (qm_tape, eI G 940 qm_tape_c)] H _ := hw
                            refine lv_iload_n C.1 C.2.1 dX11_go_263 rfl (lv_at hl 2 rfl) ?_
                            refine lv_icmp_ne (tgt := 271) C.1 C.2.1 dX11_go_264 (by decide) (fun h9 => absurd (by decide) h9) (fun _ => ?_)
                            refine lv_iconst (v := 1) C.1 C.2.1 dX11_go_267 (by decide) ?_
                            refine lv_goto (tgt := 272) C.1 C.2.1 dX11_go_268 (by decide) ?_
                            exact J1087 1  (by decide) (by have e0 : (1 : Int32).toInt = 1 := rfl; first | assumption | omega) _ _ _ hw (lv_sub hl [0, 2, 3] rfl)
                          · skip
                            have hw : Wd G s A [(qm, .inr (10, [.int qm_thrown, .ref qm_tape, .int qm_taped, .int qm_size, .int qm_limit, .int j990, .int j9, .int qm_kind, .int j991, .int qm_sign, .int qm_fault, .int qm_place, .long j992, .int qm_told, .ref qm_now, .ref qm_read, .ref qm_kept, .ref qm_snaps, .ref qm_aside, .ref qm_name, .ref qm_readName, .ref qm_keptName, .ref qm_isKept, .ref qm_onces, .int qm_snapMany, .ref qm_order, .ref qm_ordered, .int qm_orderMany, .int qm_orderMost, .int qm_passing, .int qm_movedWho, .int qm_scratched, .ref qm_text, .int qm_texts, .int qm_seed, .ref qm_line, .ref qm_written, .int qm_lineMany, .int qm_hasWritten, .ref qm_node, .int qm_nodes, .int qm_onesMany, .int qm_within, .int qm_top])), (qm_tape, eI G 940 qm_tape_c)] H _ := hw
                            refine lv_iload_n C.1 C.2.1 dX11_go_263 rfl (lv_at hl 2 rfl) ?_
                            refine lv_icmp_ne (tgt := 271) C.1 C.2.1 dX11_go_264 (by decide) (fun _ => ?_) (fun h9 => absurd h9 (by decide))
                            exact J1085   (by first | assumption | omega) _ _ _ hw (lv_sub hl [0, 2, 3] rfl)
                      rcases hp9 with ⟨rfl, rfl, hf1043⟩ | ⟨rfl, rfl, hf1044⟩
                      · skip
                        have hw : Wd G s A [(qm, .inr (10, [.int qm_thrown, .ref qm_tape, .int qm_taped, .int qm_size, .int qm_limit, .int j990, .int j9, .int qm_kind, .int j991, .int qm_sign, .int qm_fault, .int qm_place, .long j992, .int qm_told, .ref qm_now, .ref qm_read, .ref qm_kept, .ref qm_snaps, .ref qm_aside, .ref qm_name, .ref qm_readName, .ref qm_keptName, .ref qm_isKept, .ref qm_onces, .int qm_snapMany, .ref qm_order, .ref qm_ordered, .int qm_orderMany, .int qm_orderMost, .int qm_passing, .int qm_movedWho, .int qm_scratched, .ref qm_text, .int qm_texts, .int qm_seed, .ref qm_line, .ref qm_written, .int qm_lineMany, .int qm_hasWritten, .ref qm_node, .int qm_nodes, .int qm_onesMany, .int qm_within, .int qm_top])), (qm_tape, eI G 940 qm_tape_c)] H _ := hw
                        refine lv_if_ne (tgt := 243) C.1 C.2.1 dX11_go_226 (by decide) (fun h9 => absurd (by decide) h9) (fun _ => ?_)
                        refine lv_aload_n C.1 C.2.1 dX11_go_229 rfl (lv_at hl 2 rfl) ?_
                        refine lv_aload_n C.1 C.2.1 dX11_go_230 rfl (lv_at hl 2 rfl) ?_
                        refine x_get C hw iwX11 10 rfl 0 rfl 5 (by decide) kw1198 rfl dX11_go_231 ?_
                        refine x_calliV (As := [.int j990]) (rest := []) (wr := []) C hw (e_X11_tapeAt qm j990 qm_thrown qm_tape qm_taped qm_size qm_limit j990 j9 qm_kind j991 qm_sign qm_fault qm_place j992 qm_told qm_now qm_read qm_kept qm_snaps qm_aside qm_name qm_readName qm_keptName qm_isKept qm_onces qm_snapMany qm_order qm_ordered qm_orderMany qm_orderMost qm_passing qm_movedWho qm_scratched qm_text qm_texts qm_seed qm_line qm_written qm_lineMany qm_hasWritten qm_node qm_nodes qm_onesMany qm_within qm_top qm_tape_c b (by omega) (by omega) hr_0) mwX11_tapeAt kw1349 [0, 1] [] rfl rfl rfl rfl (by decide) 0 rfl rfl rfl rfl hl.1 rfl (Nat.le_of_ble_eq_true rfl) ⟨(Nat.le_of_ble_eq_true rfl), (Nat.le_of_ble_eq_true rfl)⟩ ⟨(Nat.le_of_ble_eq_true rfl), (Nat.le_of_ble_eq_true rfl)⟩ dX11_go_234 (fun r1139 u9 H locs hp9 hw => ?_)
                        obtain ⟨x1140, rfl, rfl, hf1141, hf1142⟩ := hp9
                        have hw : Wd G s A [(qm, .inr (10, [.int qm_thrown, .ref qm_tape, .int qm_taped, .int qm_size, .int qm_limit, .int j990, .int j9, .int qm_kind, .int j991, .int qm_sign, .int qm_fault, .int qm_place, .long j992, .int qm_told, .ref qm_now, .ref qm_read, .ref qm_kept, .ref qm_snaps, .ref qm_aside, .ref qm_name, .ref qm_readName, .ref qm_keptName, .ref qm_isKept, .ref qm_onces, .int qm_snapMany, .ref qm_order, .ref qm_ordered, .int qm_orderMany, .int qm_orderMost, .int qm_passing, .int qm_movedWho, .int qm_scratched, .ref qm_text, .int qm_texts, .int qm_seed, .ref qm_line, .ref qm_written, .int qm_lineMany, .int qm_hasWritten, .ref qm_node, .int qm_nodes, .int qm_onesMany, .int qm_within, .int qm_top])), (qm_tape, eI G 940 qm_tape_c)] H _ := hw
                        refine x_calliS (As := [.int r1139]) (rest := []) (wr := [(qm, .inr (10, [.int qm_thrown, .ref qm_tape, .int qm_taped, .int qm_size, .int qm_limit, .int j990, .int j9, .int qm_kind, .int j991, .int qm_sign, .int qm_fault, .int qm_place, .long j992, .int qm_told, .ref qm_now, .ref qm_read, .ref qm_kept, .ref qm_snaps, .ref qm_aside, .ref qm_name, .ref qm_readName, .ref qm_keptName, .ref qm_isKept, .ref qm_onces, .int qm_snapMany, .ref qm_order, .ref qm_ordered, .int qm_orderMany, .int qm_orderMost, .int qm_passing, .int qm_movedWho, .int qm_scratched, .ref qm_text, .int qm_texts, .int qm_seed, .ref qm_line, .ref qm_written, .int qm_lineMany, .int qm_hasWritten, .ref qm_node, .int qm_nodes, .int qm_onesMany, .int qm_within, .int qm_top])), (qm_tape, eI G 940 qm_tape_c)]) C hw (e_X11_isDigit r1139) mwX11_isDigit kw1346 [] [0, 1] rfl rfl rfl rfl (by decide) rfl hl.1 rfl (Nat.le_of_ble_eq_true rfl) ⟨(Nat.le_of_ble_eq_true rfl), (Nat.le_of_ble_eq_true rfl)⟩ ⟨(Nat.le_of_ble_eq_true rfl), (Nat.le_of_ble_eq_true rfl)⟩ dX11_go_237 (fun r1143 u9 H locs hp9 hw => ?_)
                        rcases hp9 with ⟨rfl, rfl, hf1144⟩ | ⟨rfl, rfl, hf1145⟩
                        · skip
                          have hw : Wd G s A [(qm, .inr (10, [.int qm_thrown, .ref qm_tape, .int qm_taped, .int qm_size, .int qm_limit, .int j990, .int j9, .int qm_kind, .int j991, .int qm_sign, .int qm_fault, .int qm_place, .long j992, .int qm_told, .ref qm_now, .ref qm_read, .ref qm_kept, .ref qm_snaps, .ref qm_aside, .ref qm_name, .ref qm_readName, .ref qm_keptName, .ref qm_isKept, .ref qm_onces, .int qm_snapMany, .ref qm_order, .ref qm_ordered, .int qm_orderMany, .int qm_orderMost, .int qm_passing, .int qm_movedWho, .int qm_scratched, .ref qm_text, .int qm_texts, .int qm_seed, .ref qm_line, .ref qm_written, .int qm_lineMany, .int qm_hasWritten, .ref qm_node, .int qm_nodes, .int qm_onesMany, .int qm_within, .int qm_top])), (qm_tape, eI G 940 qm_tape_c)] H _ := hw
                          refine lv_if_eq (tgt := 350) C.1 C.2.1 dX11_go_240 (by decide) (fun _ => ?_) (fun h9 => absurd (by decide) h9)
                          obtain ⟨hX, hP, hKa, hKb⟩ := goI0_e (m := qm_limit.toInt) (show goI0 b qm_size.toInt j9.toInt j990.toInt j989 j992 j991 by assumption) hS (by omega) (by first | assumption | omega) (by omega) (fun h9 => by omega)
                          refine lv_aload_n C.1 C.2.1 dX11_go_350 rfl (lv_at hl 2 rfl) ?_
                          refine lv_iload_n C.1 C.2.1 dX11_go_351 rfl (lv_at hl 0 rfl) ?_
                          refine lv_if_eq (tgt := 377) C.1 C.2.1 dX11_go_352 (by decide) (fun c1146 => ?_) (fun c1146 => ?_)
                          · skip
                            have c1146 : j989.toInt = 0 := i_eqT (X := j989.toInt) (Y := 0) rfl rfl c1146
                            refine lv_iconst (v := 1) C.1 C.2.1 dX11_go_377 (by decide) ?_
                            refine lv_goto (tgt := 390) C.1 C.2.1 dX11_go_378 (by decide) ?_
                            refine x_put (w' := [(qm, .inr (10, [.int qm_thrown, .ref qm_tape, .int qm_taped, .int qm_size, .int qm_limit, .int j990, .int j9, .int 1, .int j991, .int qm_sign, .int qm_fault, .int qm_place, .long j992, .int qm_told, .ref qm_now, .ref qm_read, .ref qm_kept, .ref qm_snaps, .ref qm_aside, .ref qm_name, .ref qm_readName, .ref qm_keptName, .ref qm_isKept, .ref qm_onces, .int qm_snapMany, .ref qm_order, .ref qm_ordered, .int qm_orderMany, .int qm_orderMost, .int qm_passing, .int qm_movedWho, .int qm_scratched, .ref qm_text, .int qm_texts, .int qm_seed, .ref qm_line, .ref qm_written, .int qm_lineMany, .int qm_hasWritten, .ref qm_node, .int qm_nodes, .int qm_onesMany, .int qm_within, .int qm_top])), (qm_tape, eI G 940 qm_tape_c)]) C hw iwX11 tyX11_ok nmX11 10 rfl 0 rfl 7 (by decide) kw1200 rfl rfl rfl (Nat.le_of_ble_eq_true rfl) rfl dX11_go_390 (fun H locs hw => ?_)
                            have hK : tkK b qm_size.toInt qm_limit.toInt qm_to.toInt = 1 := hKb (by omega)
                            exact x_retvQ hQ B hw ⟨j990, j9, 1, j991, qm_sign, j992, rfl, (by omega), (by omega), (by decide), (by have e0 : (1 : Int32).toInt = 1 := rfl; first | omega), (by have e0 : (1 : Int32).toInt = 1 := rfl; first | omega), (by have e0 : (1 : Int32).toInt = 1 := rfl; first | omega), ⟨fun h9 => by omega, fun h9 => by omega, fun h9 => by omega⟩⟩ (Nat.le_of_ble_eq_true rfl) (Nat.le_of_ble_eq_true rfl) dX11_go_393
                          · skip
                            have c1146 : j989.toInt ≠ 0 := i_eqF (X := j989.toInt) (Y := 0) rfl rfl c1146
                            refine lv_aload_n C.1 C.2.1 dX11_go_355 rfl (lv_at hl 2 rfl) ?_
                            refine x_get C hw iwX11 10 rfl 0 rfl 5 (by decide) kw1198 rfl dX11_go_356 ?_
                            refine lv_aload_n C.1 C.2.1 dX11_go_359 rfl (lv_at hl 2 rfl) ?_
                            refine x_get C hw iwX11 10 rfl 0 rfl 6 (by decide) kw1199 rfl dX11_go_360 ?_
                            refine lv_isub C.1 C.2.1 dX11_go_363 (x_genP (fun z : Int32 => z.toInt = j990.toInt - j9.toInt) (i_sub (X := j990.toInt) (Y := j9.toInt) rfl rfl (by omega) (by omega)) (fun v1147 hv1147 => ?_))
                            refine lv_iload_n C.1 C.2.1 dX11_go_364 rfl (lv_at hl 1 rfl) ?_
                            refine lv_if_eq (tgt := 373) C.1 C.2.1 dX11_go_365 (by decide) (fun _ => ?_) (fun h9 => absurd (by decide) h9)
                            refine lv_iconst (v := 3) C.1 C.2.1 dX11_go_373 (by decide) ?_
                            refine lv_icmp_le (tgt := 381) C.1 C.2.1 dX11_go_374 (by decide) (fun c1148 => ?_) (fun c1148 => ?_)
                            · skip
                              have c1148 : v1147.toInt ≤ 3 := i_leT (X := v1147.toInt) (Y := 3) rfl rfl c1148
                              refine lv_iload_n C.1 C.2.1 dX11_go_381 rfl (lv_at hl 1 rfl) ?_
                              refine lv_if_eq (tgt := 389) C.1 C.2.1 dX11_go_382 (by decide) (fun _ => ?_) (fun h9 => absurd (by decide) h9)
                              refine lv_iconst (v := 3) C.1 C.2.1 dX11_go_389 (by decide) ?_
                              refine x_put (w' := [(qm, .inr (10, [.int qm_thrown, .ref qm_tape, .int qm_taped, .int qm_size, .int qm_limit, .int j990, .int j9, .int 3, .int j991, .int qm_sign, .int qm_fault, .int qm_place, .long j992, .int qm_told, .ref qm_now, .ref qm_read, .ref qm_kept, .ref qm_snaps, .ref qm_aside, .ref qm_name, .ref qm_readName, .ref qm_keptName, .ref qm_isKept, .ref qm_onces, .int qm_snapMany, .ref qm_order, .ref qm_ordered, .int qm_orderMany, .int qm_orderMost, .int qm_passing, .int qm_movedWho, .int qm_scratched, .ref qm_text, .int qm_texts, .int qm_seed, .ref qm_line, .ref qm_written, .int qm_lineMany, .int qm_hasWritten, .ref qm_node, .int qm_nodes, .int qm_onesMany, .int qm_within, .int qm_top])), (qm_tape, eI G 940 qm_tape_c)]) C hw iwX11 tyX11_ok nmX11 10 rfl 0 rfl 7 (by decide) kw1200 rfl rfl rfl (Nat.le_of_ble_eq_true rfl) rfl dX11_go_390 (fun H locs hw => ?_)
                              obtain ⟨hK, hVl⟩ := hKa (by omega) (by omega)
                              exact x_retvQ hQ B hw ⟨j990, j9, 3, j991, qm_sign, j992, rfl, (by omega), (by omega), (by decide), (by have e0 : (3 : Int32).toInt = 3 := rfl; first | omega), (by have e0 : (3 : Int32).toInt = 3 := rfl; first | omega), (by have e0 : (3 : Int32).toInt = 3 := rfl; first | omega), ⟨fun h9 => by omega, fun h9 => by omega, fun h9 => by omega⟩⟩ (Nat.le_of_ble_eq_true rfl) (Nat.le_of_ble_eq_true rfl) dX11_go_393
                            · skip
                              have c1148 : 3 < v1147.toInt := i_leF (X := v1147.toInt) (Y := 3) rfl rfl c1148
                              refine lv_iconst (v := 1) C.1 C.2.1 dX11_go_377 (by decide) ?_
                              refine lv_goto (tgt := 390) C.1 C.2.1 dX11_go_378 (by decide) ?_
                              refine x_put (w' := [(qm, .inr (10, [.int qm_thrown, .ref qm_tape, .int qm_taped, .int qm_size, .int qm_limit, .int j990, .int j9, .int 1, .int j991, .int qm_sign, .int qm_fault, .int qm_place, .long j992, .int qm_told, .ref qm_now, .ref qm_read, .ref qm_kept, .ref qm_snaps, .ref qm_aside, .ref qm_name, .ref qm_readName, .ref qm_keptName, .ref qm_isKept, .ref qm_onces, .int qm_snapMany, .ref qm_order, .ref qm_ordered, .int qm_orderMany, .int qm_orderMost, .int qm_passing, .int qm_movedWho, .int qm_scratched, .ref qm_text, .int qm_texts, .int qm_seed, .ref qm_line, .ref qm_written, .int qm_lineMany, .int qm_hasWritten, .ref qm_node, .int qm_nodes, .int qm_onesMany, .int qm_within, .int qm_top])), (qm_tape, eI G 940 qm_tape_c)]) C hw iwX11 tyX11_ok nmX11 10 rfl 0 rfl 7 (by decide) kw1200 rfl rfl rfl (Nat.le_of_ble_eq_true rfl) rfl dX11_go_390 (fun H locs hw => ?_)
                              have hK : tkK b qm_size.toInt qm_limit.toInt qm_to.toInt = 1 := hKb (by omega)
                              exact x_retvQ hQ B hw ⟨j990, j9, 1, j991, qm_sign, j992, rfl, (by omega), (by omega), (by decide), (by have e0 : (1 : Int32).toInt = 1 := rfl; first | omega), (by have e0 : (1 : Int32).toInt = 1 := rfl; first | omega), (by have e0 : (1 : Int32).toInt = 1 := rfl; first | omega), ⟨fun h9 => by omega, fun h9 => by omega, fun h9 => by omega⟩⟩ (Nat.le_of_ble_eq_true rfl) (Nat.le_of_ble_eq_true rfl) dX11_go_393
                        · skip
                          have hw : Wd G s A [(qm, .inr (10, [.int qm_thrown, .ref qm_tape, .int qm_taped, .int qm_size, .int qm_limit, .int j990, .int j9, .int qm_kind, .int j991, .int qm_sign, .int qm_fault, .int qm_place, .long j992, .int qm_told, .ref qm_now, .ref qm_read, .ref qm_kept, .ref qm_snaps, .ref qm_aside, .ref qm_name, .ref qm_readName, .ref qm_keptName, .ref qm_isKept, .ref qm_onces, .int qm_snapMany, .ref qm_order, .ref qm_ordered, .int qm_orderMany, .int qm_orderMost, .int qm_passing, .int qm_movedWho, .int qm_scratched, .ref qm_text, .int qm_texts, .int qm_seed, .ref qm_line, .ref qm_written, .int qm_lineMany, .int qm_hasWritten, .ref qm_node, .int qm_nodes, .int qm_onesMany, .int qm_within, .int qm_top])), (qm_tape, eI G 940 qm_tape_c)] H _ := hw
                          refine lv_if_eq (tgt := 350) C.1 C.2.1 dX11_go_240 (by decide) (fun h9 => absurd h9 (by decide)) (fun _ => ?_)
                          exact J1055   (by first | assumption | omega) (by first | assumption | omega) _ _ _ hw (lv_sub hl [0, 1, 2] rfl)
                      · skip
                        have hw : Wd G s A [(qm, .inr (10, [.int qm_thrown, .ref qm_tape, .int qm_taped, .int qm_size, .int qm_limit, .int j990, .int j9, .int qm_kind, .int j991, .int qm_sign, .int qm_fault, .int qm_place, .long j992, .int qm_told, .ref qm_now, .ref qm_read, .ref qm_kept, .ref qm_snaps, .ref qm_aside, .ref qm_name, .ref qm_readName, .ref qm_keptName, .ref qm_isKept, .ref qm_onces, .int qm_snapMany, .ref qm_order, .ref qm_ordered, .int qm_orderMany, .int qm_orderMost, .int qm_passing, .int qm_movedWho, .int qm_scratched, .ref qm_text, .int qm_texts, .int qm_seed, .ref qm_line, .ref qm_written, .int qm_lineMany, .int qm_hasWritten, .ref qm_node, .int qm_nodes, .int qm_onesMany, .int qm_within, .int qm_top])), (qm_tape, eI G 940 qm_tape_c)] H _ := hw
                        refine lv_if_ne (tgt := 243) C.1 C.2.1 dX11_go_226 (by decide) (fun _ => ?_) (fun h9 => absurd h9 (by decide))
                        exact J1055   (by first | assumption | omega) (by first | assumption | omega) _ _ _ hw (lv_sub hl [0, 1, 2] rfl)
                  exact loopJ993 _ 1 j9 0 0 (Nat.lt_succ_self _) (by decide) (by omega) (goI0_0 (by omega)) _ _ _ hw (lv_sub hl [0, 1, 3] rfl)
                · skip
                  have hw : Wd G s A [(qm, .inr (10, [.int qm_thrown, .ref qm_tape, .int qm_taped, .int qm_size, .int qm_limit, .int j9, .int j9, .int qm_kind, .int qm_number, .int qm_sign, .int qm_fault, .int qm_place, .long qm_word, .int qm_told, .ref qm_now, .ref qm_read, .ref qm_kept, .ref qm_snaps, .ref qm_aside, .ref qm_name, .ref qm_readName, .ref qm_keptName, .ref qm_isKept, .ref qm_onces, .int qm_snapMany, .ref qm_order, .ref qm_ordered, .int qm_orderMany, .int qm_orderMost, .int qm_passing, .int qm_movedWho, .int qm_scratched, .ref qm_text, .int qm_texts, .int qm_seed, .ref qm_line, .ref qm_written, .int qm_lineMany, .int qm_hasWritten, .ref qm_node, .int qm_nodes, .int qm_onesMany, .int qm_within, .int qm_top])), (qm_tape, eI G 940 qm_tape_c)] H _ := hw
                  exfalso; omega
            · skip
              have hw : Wd G s A [(qm, .inr (10, [.int qm_thrown, .ref qm_tape, .int qm_taped, .int qm_size, .int qm_limit, .int j9, .int j9, .int qm_kind, .int qm_number, .int qm_sign, .int qm_fault, .int qm_place, .long qm_word, .int qm_told, .ref qm_now, .ref qm_read, .ref qm_kept, .ref qm_snaps, .ref qm_aside, .ref qm_name, .ref qm_readName, .ref qm_keptName, .ref qm_isKept, .ref qm_onces, .int qm_snapMany, .ref qm_order, .ref qm_ordered, .int qm_orderMany, .int qm_orderMost, .int qm_passing, .int qm_movedWho, .int qm_scratched, .ref qm_text, .int qm_texts, .int qm_seed, .ref qm_line, .ref qm_written, .int qm_lineMany, .int qm_hasWritten, .ref qm_node, .int qm_nodes, .int qm_onesMany, .int qm_within, .int qm_top])), (qm_tape, eI G 940 qm_tape_c)] H _ := hw
              refine lv_if_ne (tgt := 198) C.1 C.2.1 dX11_go_127 (by decide) (fun _ => ?_) (fun h9 => absurd h9 (by decide))
              refine lv_iload_n C.1 C.2.1 dX11_go_198 rfl (lv_at hl 0 rfl) ?_
              refine x_calliS (As := [.int v915]) (rest := []) (wr := [(qm, .inr (10, [.int qm_thrown, .ref qm_tape, .int qm_taped, .int qm_size, .int qm_limit, .int j9, .int j9, .int qm_kind, .int qm_number, .int qm_sign, .int qm_fault, .int qm_place, .long qm_word, .int qm_told, .ref qm_now, .ref qm_read, .ref qm_kept, .ref qm_snaps, .ref qm_aside, .ref qm_name, .ref qm_readName, .ref qm_keptName, .ref qm_isKept, .ref qm_onces, .int qm_snapMany, .ref qm_order, .ref qm_ordered, .int qm_orderMany, .int qm_orderMost, .int qm_passing, .int qm_movedWho, .int qm_scratched, .ref qm_text, .int qm_texts, .int qm_seed, .ref qm_line, .ref qm_written, .int qm_lineMany, .int qm_hasWritten, .ref qm_node, .int qm_nodes, .int qm_onesMany, .int qm_within, .int qm_top])), (qm_tape, eI G 940 qm_tape_c)]) C hw (e_X11_isLetter v915) mwX11_isLetter kw1343 [] [0, 1] rfl rfl rfl rfl (by decide) rfl hl.1 rfl (Nat.le_of_ble_eq_true rfl) ⟨(Nat.le_of_ble_eq_true rfl), (Nat.le_of_ble_eq_true rfl)⟩ ⟨(Nat.le_of_ble_eq_true rfl), (Nat.le_of_ble_eq_true rfl)⟩ dX11_go_199 (fun r1149 u9 H locs hp9 hw => ?_)
              rcases hp9 with ⟨rfl, rfl, hf1150⟩ | ⟨rfl, rfl, hf1151⟩
              · skip
                have hw : Wd G s A [(qm, .inr (10, [.int qm_thrown, .ref qm_tape, .int qm_taped, .int qm_size, .int qm_limit, .int j9, .int j9, .int qm_kind, .int qm_number, .int qm_sign, .int qm_fault, .int qm_place, .long qm_word, .int qm_told, .ref qm_now, .ref qm_read, .ref qm_kept, .ref qm_snaps, .ref qm_aside, .ref qm_name, .ref qm_readName, .ref qm_keptName, .ref qm_isKept, .ref qm_onces, .int qm_snapMany, .ref qm_order, .ref qm_ordered, .int qm_orderMany, .int qm_orderMost, .int qm_passing, .int qm_movedWho, .int qm_scratched, .ref qm_text, .int qm_texts, .int qm_seed, .ref qm_line, .ref qm_written, .int qm_lineMany, .int qm_hasWritten, .ref qm_node, .int qm_nodes, .int qm_onesMany, .int qm_within, .int qm_top])), (qm_tape, eI G 940 qm_tape_c)] H _ := hw
                refine lv_istore_n (lv' := [(2, .int 0), (1, .int v915), (0, .ref qm)]) C.1 C.2.1 dX11_go_202 rfl hl (by decide) rfl (fun ls hl => ?_)
                refine lv_iconst (v := 1) C.1 C.2.1 dX11_go_203 (by decide) ?_
                refine lv_istore_n (lv' := [(3, .int 1), (2, .int 0), (1, .int v915), (0, .ref qm)]) C.1 C.2.1 dX11_go_204 rfl hl (by decide) rfl (fun ls hl => ?_)
                refine lv_aload_n C.1 C.2.1 dX11_go_205 rfl (lv_at hl 3 rfl) ?_
                refine lv_lconst (v := 0) C.1 C.2.1 dX11_go_206 (by decide) ?_
                refine x_put (w' := [(qm, .inr (10, [.int qm_thrown, .ref qm_tape, .int qm_taped, .int qm_size, .int qm_limit, .int j9, .int j9, .int qm_kind, .int qm_number, .int qm_sign, .int qm_fault, .int qm_place, .long 0, .int qm_told, .ref qm_now, .ref qm_read, .ref qm_kept, .ref qm_snaps, .ref qm_aside, .ref qm_name, .ref qm_readName, .ref qm_keptName, .ref qm_isKept, .ref qm_onces, .int qm_snapMany, .ref qm_order, .ref qm_ordered, .int qm_orderMany, .int qm_orderMost, .int qm_passing, .int qm_movedWho, .int qm_scratched, .ref qm_text, .int qm_texts, .int qm_seed, .ref qm_line, .ref qm_written, .int qm_lineMany, .int qm_hasWritten, .ref qm_node, .int qm_nodes, .int qm_onesMany, .int qm_within, .int qm_top])), (qm_tape, eI G 940 qm_tape_c)]) C hw iwX11 tyX11_ok nmX11 10 rfl 0 rfl 12 (by decide) kw1205 rfl rfl rfl (Nat.le_of_ble_eq_true rfl) rfl dX11_go_207 (fun H locs hw => ?_)
                refine lv_aload_n C.1 C.2.1 dX11_go_210 rfl (lv_at hl 3 rfl) ?_
                refine lv_iconst (v := 0) C.1 C.2.1 dX11_go_211 (by decide) ?_
                refine x_put (w' := [(qm, .inr (10, [.int qm_thrown, .ref qm_tape, .int qm_taped, .int qm_size, .int qm_limit, .int j9, .int j9, .int qm_kind, .int 0, .int qm_sign, .int qm_fault, .int qm_place, .long 0, .int qm_told, .ref qm_now, .ref qm_read, .ref qm_kept, .ref qm_snaps, .ref qm_aside, .ref qm_name, .ref qm_readName, .ref qm_keptName, .ref qm_isKept, .ref qm_onces, .int qm_snapMany, .ref qm_order, .ref qm_ordered, .int qm_orderMany, .int qm_orderMost, .int qm_passing, .int qm_movedWho, .int qm_scratched, .ref qm_text, .int qm_texts, .int qm_seed, .ref qm_line, .ref qm_written, .int qm_lineMany, .int qm_hasWritten, .ref qm_node, .int qm_nodes, .int qm_onesMany, .int qm_within, .int qm_top])), (qm_tape, eI G 940 qm_tape_c)]) C hw iwX11 tyX11_ok nmX11 10 rfl 0 rfl 8 (by decide) kw1201 rfl rfl rfl (Nat.le_of_ble_eq_true rfl) rfl dX11_go_212 (fun H locs hw => ?_)
                have loopJ1204 : ∀ (n9 : Nat) (j1200 : Int32) (j1201 : Int32) (j1202 : Int32) (j1203 : Int64), (2147483647 - j1201.toInt).toNat < n9 → (0 ≤ j1200.toInt ∧ j1200.toInt ≤ 1) → (0 ≤ j1201.toInt ∧ j1201.toInt ≤ 940) → (goI0 b qm_size.toInt j9.toInt j1201.toInt j1200 j1203 j1202) → ∀ (H : Heap) (locs : List Loc) (ls : Array Slot), Wd G s A [(qm, .inr (10, [.int qm_thrown, .ref qm_tape, .int qm_taped, .int qm_size, .int qm_limit, .int j1201, .int j9, .int qm_kind, .int j1202, .int qm_sign, .int qm_fault, .int qm_place, .long j1203, .int qm_told, .ref qm_now, .ref qm_read, .ref qm_kept, .ref qm_snaps, .ref qm_aside, .ref qm_name, .ref qm_readName, .ref qm_keptName, .ref qm_isKept, .ref qm_onces, .int qm_snapMany, .ref qm_order, .ref qm_ordered, .int qm_orderMany, .int qm_orderMost, .int qm_passing, .int qm_movedWho, .int qm_scratched, .ref qm_text, .int qm_texts, .int qm_seed, .ref qm_line, .ref qm_written, .int qm_lineMany, .int qm_hasWritten, .ref qm_node, .int qm_nodes, .int qm_onesMany, .int qm_within, .int qm_top])), (qm_tape, eI G 940 qm_tape_c)] H locs → lv_has ls 5 [(3, .int j1200), (2, .int 0), (0, .ref qm)] → W p l e (rmD 1 0 0) s m args below meth c H locs 0 0 Q (F0 m 215 ls []) := by
                  intro n9
                  induction n9 with
                  | zero => intro j1200 j1201 j1202 j1203 h9; exact absurd h9 (Nat.not_lt_zero _)
                  | succ n9 ihJ1204 =>
                    intro j1200 j1201 j1202 j1203 h9J1204 hJ1204_0 hJ1204_1 hJ1204_2 H locs ls hw hl
                    have hbj1201 := i_bd j1201
                    refine lv_aload_n C.1 C.2.1 dX11_go_215 rfl (lv_at hl 2 rfl) ?_
                    refine lv_aload_n C.1 C.2.1 dX11_go_216 rfl (lv_at hl 2 rfl) ?_
                    refine x_get C hw iwX11 10 rfl 0 rfl 5 (by decide) kw1198 rfl dX11_go_217 ?_
                    refine x_calliV (As := [.int j1201]) (rest := []) (wr := []) C hw (e_X11_tapeAt qm j1201 qm_thrown qm_tape qm_taped qm_size qm_limit j1201 j9 qm_kind j1202 qm_sign qm_fault qm_place j1203 qm_told qm_now qm_read qm_kept qm_snaps qm_aside qm_name qm_readName qm_keptName qm_isKept qm_onces qm_snapMany qm_order qm_ordered qm_orderMany qm_orderMost qm_passing qm_movedWho qm_scratched qm_text qm_texts qm_seed qm_line qm_written qm_lineMany qm_hasWritten qm_node qm_nodes qm_onesMany qm_within qm_top qm_tape_c b (by omega) (by omega) hr_0) mwX11_tapeAt kw1349 [0, 1] [] rfl rfl rfl rfl (by decide) 0 rfl rfl rfl rfl hl.1 rfl (Nat.le_of_ble_eq_true rfl) ⟨(Nat.le_of_ble_eq_true rfl), (Nat.le_of_ble_eq_true rfl)⟩ ⟨(Nat.le_of_ble_eq_true rfl), (Nat.le_of_ble_eq_true rfl)⟩ dX11_go_220 (fun r1249 u9 H locs hp9 hw => ?_)
                    obtain ⟨x1250, rfl, rfl, hf1251, hf1252⟩ := hp9
                    have hw : Wd G s A [(qm, .inr (10, [.int qm_thrown, .ref qm_tape, .int qm_taped, .int qm_size, .int qm_limit, .int j1201, .int j9, .int qm_kind, .int j1202, .int qm_sign, .int qm_fault, .int qm_place, .long j1203, .int qm_told, .ref qm_now, .ref qm_read, .ref qm_kept, .ref qm_snaps, .ref qm_aside, .ref qm_name, .ref qm_readName, .ref qm_keptName, .ref qm_isKept, .ref qm_onces, .int qm_snapMany, .ref qm_order, .ref qm_ordered, .int qm_orderMany, .int qm_orderMost, .int qm_passing, .int qm_movedWho, .int qm_scratched, .ref qm_text, .int qm_texts, .int qm_seed, .ref qm_line, .ref qm_written, .int qm_lineMany, .int qm_hasWritten, .ref qm_node, .int qm_nodes, .int qm_onesMany, .int qm_within, .int qm_top])), (qm_tape, eI G 940 qm_tape_c)] H _ := hw
                    refine x_calliS (As := [.int r1249]) (rest := []) (wr := [(qm, .inr (10, [.int qm_thrown, .ref qm_tape, .int qm_taped, .int qm_size, .int qm_limit, .int j1201, .int j9, .int qm_kind, .int j1202, .int qm_sign, .int qm_fault, .int qm_place, .long j1203, .int qm_told, .ref qm_now, .ref qm_read, .ref qm_kept, .ref qm_snaps, .ref qm_aside, .ref qm_name, .ref qm_readName, .ref qm_keptName, .ref qm_isKept, .ref qm_onces, .int qm_snapMany, .ref qm_order, .ref qm_ordered, .int qm_orderMany, .int qm_orderMost, .int qm_passing, .int qm_movedWho, .int qm_scratched, .ref qm_text, .int qm_texts, .int qm_seed, .ref qm_line, .ref qm_written, .int qm_lineMany, .int qm_hasWritten, .ref qm_node, .int qm_nodes, .int qm_onesMany, .int qm_within, .int qm_top])), (qm_tape, eI G 940 qm_tape_c)]) C hw (e_X11_isLetter r1249) mwX11_isLetter kw1343 [] [0, 1] rfl rfl rfl rfl (by decide) rfl hl.1 rfl (Nat.le_of_ble_eq_true rfl) ⟨(Nat.le_of_ble_eq_true rfl), (Nat.le_of_ble_eq_true rfl)⟩ ⟨(Nat.le_of_ble_eq_true rfl), (Nat.le_of_ble_eq_true rfl)⟩ dX11_go_223 (fun r1253 u9 H locs hp9 hw => ?_)
                    have J1266 : (j1201.toInt < qm_size.toInt) → ((97 ≤ b j1201.toInt ∧ b j1201.toInt ≤ 122) ∨ (48 ≤ b j1201.toInt ∧ b j1201.toInt ≤ 57)) → ∀ (H : Heap) (locs : List Loc) (ls : Array Slot), Wd G s A [(qm, .inr (10, [.int qm_thrown, .ref qm_tape, .int qm_taped, .int qm_size, .int qm_limit, .int j1201, .int j9, .int qm_kind, .int j1202, .int qm_sign, .int qm_fault, .int qm_place, .long j1203, .int qm_told, .ref qm_now, .ref qm_read, .ref qm_kept, .ref qm_snaps, .ref qm_aside, .ref qm_name, .ref qm_readName, .ref qm_keptName, .ref qm_isKept, .ref qm_onces, .int qm_snapMany, .ref qm_order, .ref qm_ordered, .int qm_orderMany, .int qm_orderMost, .int qm_passing, .int qm_movedWho, .int qm_scratched, .ref qm_text, .int qm_texts, .int qm_seed, .ref qm_line, .ref qm_written, .int qm_lineMany, .int qm_hasWritten, .ref qm_node, .int qm_nodes, .int qm_onesMany, .int qm_within, .int qm_top])), (qm_tape, eI G 940 qm_tape_c)] H locs → lv_has ls 5 [(3, .int j1200), (2, .int 0), (0, .ref qm)] → W p l e (rmD 1 0 0) s m args below meth c H locs 0 0 Q (F0 m 243 ls []) := by
                      intro  hJ1266_0 hJ1266_1 H locs ls hw hl
                      refine lv_aload_n C.1 C.2.1 dX11_go_243 rfl (lv_at hl 2 rfl) ?_
                      refine x_get C hw iwX11 10 rfl 0 rfl 1 (by decide) kw1194 rfl dX11_go_244 ?_
                      refine lv_aload_n C.1 C.2.1 dX11_go_247 rfl (lv_at hl 2 rfl) ?_
                      refine x_get C hw iwX11 10 rfl 0 rfl 5 (by decide) kw1198 rfl dX11_go_248 ?_
                      refine x_iald (v := (qm_tape_c j1201.toNatClampNeg)) C hw 1 rfl (i_in (by omega) (by omega)) rfl dX11_go_251 (x_genP (fun z : Int32 => (z.toInt = b j1201.toInt) ∧ z = qm_tape_c (j1201.toInt.toNat) ∧ z.toInt = (qm_tape_c (j1201.toInt.toNat)).toInt) ⟨(hr_0 j1201.toInt (by omega) (by omega)).symm, rfl, rfl⟩ (fun v1291 hv1291 => ?_))
                      refine lv_istore (lv' := [(4, .int v1291), (3, .int j1200), (2, .int 0), (0, .ref qm)]) C.1 C.2.1 dX11_go_252 hl (by decide) rfl (fun ls hl => ?_)
                      refine lv_iload_n C.1 C.2.1 dX11_go_254 rfl (lv_at hl 1 rfl) ?_
                      have J1298 : ∀ (j1297 : Int32), (0 ≤ j1297.toInt ∧ j1297.toInt ≤ 1) → ((j1297.toInt = 1 ∧ j1200.toInt ≠ 0 ∧ (48 ≤ b j1201.toInt ∧ b j1201.toInt ≤ 57)) ∨ (j1297.toInt = 0 ∧ (j1200.toInt = 0 ∨ ¬ (48 ≤ b j1201.toInt ∧ b j1201.toInt ≤ 57)))) → ∀ (H : Heap) (locs : List Loc) (ls : Array Slot), Wd G s A [(qm, .inr (10, [.int qm_thrown, .ref qm_tape, .int qm_taped, .int qm_size, .int qm_limit, .int j1201, .int j9, .int qm_kind, .int j1202, .int qm_sign, .int qm_fault, .int qm_place, .long j1203, .int qm_told, .ref qm_now, .ref qm_read, .ref qm_kept, .ref qm_snaps, .ref qm_aside, .ref qm_name, .ref qm_readName, .ref qm_keptName, .ref qm_isKept, .ref qm_onces, .int qm_snapMany, .ref qm_order, .ref qm_ordered, .int qm_orderMany, .int qm_orderMost, .int qm_passing, .int qm_movedWho, .int qm_scratched, .ref qm_text, .int qm_texts, .int qm_seed, .ref qm_line, .ref qm_written, .int qm_lineMany, .int qm_hasWritten, .ref qm_node, .int qm_nodes, .int qm_onesMany, .int qm_within, .int qm_top])), (qm_tape, eI G 940 qm_tape_c)] H locs → lv_has ls 5 [(4, .int v1291), (2, .int 0), (0, .ref qm)] → W p l e (rmD 1 0 0) s m args below meth c H locs 0 0 Q (F0 m 272 ls [.int j1297]) := by
                        intro j1297 hJ1298_0 hJ1298_1 H locs ls hw hl
                        refine lv_istore_n (lv' := [(3, .int j1297), (4, .int v1291), (2, .int 0), (0, .ref qm)]) C.1 C.2.1 dX11_go_272 rfl hl (by decide) rfl (fun ls hl => ?_)
                        refine lv_aload_n C.1 C.2.1 dX11_go_273 rfl (lv_at hl 3 rfl) ?_
                        refine x_get C hw iwX11 10 rfl 0 rfl 5 (by decide) kw1198 rfl dX11_go_274 ?_
                        refine lv_aload_n C.1 C.2.1 dX11_go_277 rfl (lv_at hl 3 rfl) ?_
                        refine x_get C hw iwX11 10 rfl 0 rfl 6 (by decide) kw1199 rfl dX11_go_278 ?_
                        refine lv_isub C.1 C.2.1 dX11_go_281 (x_genP (fun z : Int32 => z.toInt = j1201.toInt - j9.toInt) (i_sub (X := j1201.toInt) (Y := j9.toInt) rfl rfl (by omega) (by omega)) (fun v1315 hv1315 => ?_))
                        refine lv_bipush (v := 7) C.1 C.2.1 dX11_go_282 (by decide) ?_
                        have J1322 : ∀ (j1321 : Int64), (wstI j9.toInt j1201.toInt (b j1201.toInt) j1203 j1321) → ∀ (H : Heap) (locs : List Loc) (ls : Array Slot), Wd G s A [(qm, .inr (10, [.int qm_thrown, .ref qm_tape, .int qm_taped, .int qm_size, .int qm_limit, .int j1201, .int j9, .int qm_kind, .int j1202, .int qm_sign, .int qm_fault, .int qm_place, .long j1321, .int qm_told, .ref qm_now, .ref qm_read, .ref qm_kept, .ref qm_snaps, .ref qm_aside, .ref qm_name, .ref qm_readName, .ref qm_keptName, .ref qm_isKept, .ref qm_onces, .int qm_snapMany, .ref qm_order, .ref qm_ordered, .int qm_orderMany, .int qm_orderMost, .int qm_passing, .int qm_movedWho, .int qm_scratched, .ref qm_text, .int qm_texts, .int qm_seed, .ref qm_line, .ref qm_written, .int qm_lineMany, .int qm_hasWritten, .ref qm_node, .int qm_nodes, .int qm_onesMany, .int qm_within, .int qm_top])), (qm_tape, eI G 940 qm_tape_c)] H locs → lv_has ls 5 [(3, .int j1297), (4, .int v1291), (2, .int 0), (0, .ref qm)] → W p l e (rmD 1 0 0) s m args below meth c H locs 0 0 Q (F0 m 307 ls []) := by
                          intro j1321 hJ1322_0 H locs ls hw hl
                          refine lv_aload_n C.1 C.2.1 dX11_go_307 rfl (lv_at hl 3 rfl) ?_
                          refine x_get C hw iwX11 10 rfl 0 rfl 5 (by decide) kw1198 rfl dX11_go_308 ?_
                          refine lv_aload_n C.1 C.2.1 dX11_go_311 rfl (lv_at hl 3 rfl) ?_
                          refine x_get C hw iwX11 10 rfl 0 rfl 6 (by decide) kw1199 rfl dX11_go_312 ?_
                          refine lv_isub C.1 C.2.1 dX11_go_315 (x_genP (fun z : Int32 => z.toInt = j1201.toInt - j9.toInt) (i_sub (X := j1201.toInt) (Y := j9.toInt) rfl rfl (by omega) (by omega)) (fun v1331 hv1331 => ?_))
                          refine lv_iconst (v := 3) C.1 C.2.1 dX11_go_316 (by decide) ?_
                          have J1337 : ∀ (j1336 : Int32), (nstI j9.toInt j1201.toInt (b j1201.toInt) j1202 j1336) → ∀ (H : Heap) (locs : List Loc) (ls : Array Slot), Wd G s A [(qm, .inr (10, [.int qm_thrown, .ref qm_tape, .int qm_taped, .int qm_size, .int qm_limit, .int j1201, .int j9, .int qm_kind, .int j1336, .int qm_sign, .int qm_fault, .int qm_place, .long j1321, .int qm_told, .ref qm_now, .ref qm_read, .ref qm_kept, .ref qm_snaps, .ref qm_aside, .ref qm_name, .ref qm_readName, .ref qm_keptName, .ref qm_isKept, .ref qm_onces, .int qm_snapMany, .ref qm_order, .ref qm_ordered, .int qm_orderMany, .int qm_orderMost, .int qm_passing, .int qm_movedWho, .int qm_scratched, .ref qm_text, .int qm_texts, .int qm_seed, .ref qm_line, .ref qm_written, .int qm_lineMany, .int qm_hasWritten, .ref qm_node, .int qm_nodes, .int qm_onesMany, .int qm_within, .int qm_top])), (qm_tape, eI G 940 qm_tape_c)] H locs → lv_has ls 5 [(3, .int j1297), (2, .int 0), (0, .ref qm)] → W p l e (rmD 1 0 0) s m args below meth c H locs 0 0 Q (F0 m 337 ls []) := by
                            intro j1336 hJ1337_0 H locs ls hw hl
                            refine lv_aload_n C.1 C.2.1 dX11_go_337 rfl (lv_at hl 2 rfl) ?_
                            refine lv_dup C.1 C.2.1 dX11_go_338 rfl ?_
                            refine x_get C hw iwX11 10 rfl 0 rfl 5 (by decide) kw1198 rfl dX11_go_339 ?_
                            refine lv_iconst (v := 1) C.1 C.2.1 dX11_go_342 (by decide) ?_
                            refine lv_iadd C.1 C.2.1 dX11_go_343 (x_genP (fun z : Int32 => z.toInt = j1201.toInt + 1) (i_add (X := j1201.toInt) (Y := 1) rfl rfl (by omega) (by omega)) (fun v1339 hv1339 => ?_))
                            refine x_put (w' := [(qm, .inr (10, [.int qm_thrown, .ref qm_tape, .int qm_taped, .int qm_size, .int qm_limit, .int v1339, .int j9, .int qm_kind, .int j1336, .int qm_sign, .int qm_fault, .int qm_place, .long j1321, .int qm_told, .ref qm_now, .ref qm_read, .ref qm_kept, .ref qm_snaps, .ref qm_aside, .ref qm_name, .ref qm_readName, .ref qm_keptName, .ref qm_isKept, .ref qm_onces, .int qm_snapMany, .ref qm_order, .ref qm_ordered, .int qm_orderMany, .int qm_orderMost, .int qm_passing, .int qm_movedWho, .int qm_scratched, .ref qm_text, .int qm_texts, .int qm_seed, .ref qm_line, .ref qm_written, .int qm_lineMany, .int qm_hasWritten, .ref qm_node, .int qm_nodes, .int qm_onesMany, .int qm_within, .int qm_top])), (qm_tape, eI G 940 qm_tape_c)]) C hw iwX11 tyX11_ok nmX11 10 rfl 0 rfl 5 (by decide) kw1198 rfl rfl rfl (Nat.le_of_ble_eq_true rfl) rfl dX11_go_344 (fun H locs hw => ?_)
                            refine lv_goto (tgt := 215) C.1 C.2.1 dX11_go_347 (by decide) ?_
                            exact ihJ1204 j1297 v1339 j1336 j1321 (by omega) (by omega) (by omega) (goI0_s (show goI0 b qm_size.toInt j9.toInt j1201.toInt j1200 j1203 j1202 by assumption) (by omega) (by omega) (by assumption) (by assumption) (by assumption) (by assumption) hv1339) _ _ _ hw (lv_sub hl [0, 1, 2] rfl)
                          refine lv_icmp_ge (tgt := 337) C.1 C.2.1 dX11_go_317 (by decide) (fun c1332 => ?_) (fun c1332 => ?_)
                          · skip
                            have c1332 : 3 ≤ v1331.toInt := i_leT (X := 3) (Y := v1331.toInt) rfl rfl c1332
                            exact J1337 j1202  (fun h9 => absurd h9 (by omega)) _ _ _ hw (lv_sub hl [0, 2, 3] rfl)
                          · skip
                            have c1332 : v1331.toInt < 3 := i_leF (X := 3) (Y := v1331.toInt) rfl rfl c1332
                            refine lv_aload_n C.1 C.2.1 dX11_go_320 rfl (lv_at hl 3 rfl) ?_
                            refine lv_bipush (v := 10) C.1 C.2.1 dX11_go_321 (by decide) ?_
                            refine lv_aload_n C.1 C.2.1 dX11_go_323 rfl (lv_at hl 3 rfl) ?_
                            refine x_get C hw iwX11 10 rfl 0 rfl 8 (by decide) kw1201 rfl dX11_go_324 ?_
                            refine lv_imul C.1 C.2.1 dX11_go_327 (x_genP (fun z : Int32 => z = 10 * j1202) rfl (fun v1340 hv1340 => ?_))
                            refine lv_iload C.1 C.2.1 dX11_go_328 (lv_at hl 1 rfl) ?_
                            refine lv_iadd C.1 C.2.1 dX11_go_330 (x_genP (fun z : Int32 => z = v1340 + v1291) rfl (fun v1341 hv1341 => ?_))
                            refine lv_bipush (v := 48) C.1 C.2.1 dX11_go_331 (by decide) ?_
                            refine lv_isub C.1 C.2.1 dX11_go_333 (x_genP (fun z : Int32 => z = v1341 - 48) rfl (fun v1342 hv1342 => ?_))
                            refine x_put (w' := [(qm, .inr (10, [.int qm_thrown, .ref qm_tape, .int qm_taped, .int qm_size, .int qm_limit, .int j1201, .int j9, .int qm_kind, .int v1342, .int qm_sign, .int qm_fault, .int qm_place, .long j1321, .int qm_told, .ref qm_now, .ref qm_read, .ref qm_kept, .ref qm_snaps, .ref qm_aside, .ref qm_name, .ref qm_readName, .ref qm_keptName, .ref qm_isKept, .ref qm_onces, .int qm_snapMany, .ref qm_order, .ref qm_ordered, .int qm_orderMany, .int qm_orderMost, .int qm_passing, .int qm_movedWho, .int qm_scratched, .ref qm_text, .int qm_texts, .int qm_seed, .ref qm_line, .ref qm_written, .int qm_lineMany, .int qm_hasWritten, .ref qm_node, .int qm_nodes, .int qm_onesMany, .int qm_within, .int qm_top])), (qm_tape, eI G 940 qm_tape_c)]) C hw iwX11 tyX11_ok nmX11 10 rfl 0 rfl 8 (by decide) kw1201 rfl rfl rfl (Nat.le_of_ble_eq_true rfl) rfl dX11_go_334 (fun H locs hw => ?_)
                            exact J1337 v1342  (fun _ => ⟨v1291, by omega, by rw [hv1342, hv1341, hv1340]⟩) _ _ _ hw (lv_sub hl [0, 2, 3] rfl)
                        refine lv_icmp_ge (tgt := 307) C.1 C.2.1 dX11_go_284 (by decide) (fun c1316 => ?_) (fun c1316 => ?_)
                        · skip
                          have c1316 : 7 ≤ v1315.toInt := i_leT (X := 7) (Y := v1315.toInt) rfl rfl c1316
                          exact J1322 j1203  (fun h9 => absurd h9 (by omega)) _ _ _ hw (lv_sub hl [0, 1, 2, 3] rfl)
                        · skip
                          have c1316 : v1315.toInt < 7 := i_leF (X := 7) (Y := v1315.toInt) rfl rfl c1316
                          refine lv_aload_n C.1 C.2.1 dX11_go_287 rfl (lv_at hl 3 rfl) ?_
                          refine lv_ldc2 (v := 27) C.1 C.2.1 C.2.2.2.1 (C.2.2.2.2 _ kw1353) dX11_go_288 ?_
                          refine lv_aload_n C.1 C.2.1 dX11_go_291 rfl (lv_at hl 3 rfl) ?_
                          refine x_get C hw iwX11 10 rfl 0 rfl 12 (by decide) kw1205 rfl dX11_go_292 ?_
                          refine lv_lmul C.1 C.2.1 dX11_go_295 (x_genlP (fun z : Int64 => z = (27 : Int64) * j1203) rfl (fun v1343 hv1343 => ?_))
                          refine lv_iload C.1 C.2.1 dX11_go_296 (lv_at hl 1 rfl) ?_
                          refine lv_i2l (v := v1291.toInt64) C.1 C.2.1 dX11_go_298 rfl (x_genlP (fun z : Int64 => z.toInt = v1291.toInt ∧ z = v1291.toInt64) ⟨l_i2l _, rfl⟩ (fun v1344 hv1344 => ?_))
                          refine lv_ladd C.1 C.2.1 dX11_go_299 (x_genlP (fun z : Int64 => z = v1343 + v1344) rfl (fun v1345 hv1345 => ?_))
                          refine lv_ldc2 (v := 96) C.1 C.2.1 C.2.2.2.1 (C.2.2.2.2 _ kw1354) dX11_go_300 ?_
                          refine lv_lsub C.1 C.2.1 dX11_go_303 (x_genlP (fun z : Int64 => z = v1345 - (96 : Int64)) rfl (fun v1346 hv1346 => ?_))
                          refine x_put (w' := [(qm, .inr (10, [.int qm_thrown, .ref qm_tape, .int qm_taped, .int qm_size, .int qm_limit, .int j1201, .int j9, .int qm_kind, .int j1202, .int qm_sign, .int qm_fault, .int qm_place, .long v1346, .int qm_told, .ref qm_now, .ref qm_read, .ref qm_kept, .ref qm_snaps, .ref qm_aside, .ref qm_name, .ref qm_readName, .ref qm_keptName, .ref qm_isKept, .ref qm_onces, .int qm_snapMany, .ref qm_order, .ref qm_ordered, .int qm_orderMany, .int qm_orderMost, .int qm_passing, .int qm_movedWho, .int qm_scratched, .ref qm_text, .int qm_texts, .int qm_seed, .ref qm_line, .ref qm_written, .int qm_lineMany, .int qm_hasWritten, .ref qm_node, .int qm_nodes, .int qm_onesMany, .int qm_within, .int qm_top])), (qm_tape, eI G 940 qm_tape_c)]) C hw iwX11 tyX11_ok nmX11 10 rfl 0 rfl 12 (by decide) kw1205 rfl rfl rfl (Nat.le_of_ble_eq_true rfl) rfl dX11_go_304 (fun H locs hw => ?_)
                          exact J1322 v1346  (fun _ => ⟨v1344, by omega, by rw [hv1346, hv1345, hv1343]⟩) _ _ _ hw (lv_sub hl [0, 1, 2, 3] rfl)
                      have J1296 : (j1200.toInt = 0 ∨ ¬ (48 ≤ b j1201.toInt ∧ b j1201.toInt ≤ 57)) → ∀ (H : Heap) (locs : List Loc) (ls : Array Slot), Wd G s A [(qm, .inr (10, [.int qm_thrown, .ref qm_tape, .int qm_taped, .int qm_size, .int qm_limit, .int j1201, .int j9, .int qm_kind, .int j1202, .int qm_sign, .int qm_fault, .int qm_place, .long j1203, .int qm_told, .ref qm_now, .ref qm_read, .ref qm_kept, .ref qm_snaps, .ref qm_aside, .ref qm_name, .ref qm_readName, .ref qm_keptName, .ref qm_isKept, .ref qm_onces, .int qm_snapMany, .ref qm_order, .ref qm_ordered, .int qm_orderMany, .int qm_orderMost, .int qm_passing, .int qm_movedWho, .int qm_scratched, .ref qm_text, .int qm_texts, .int qm_seed, .ref qm_line, .ref qm_written, .int qm_lineMany, .int qm_hasWritten, .ref qm_node, .int qm_nodes, .int qm_onesMany, .int qm_within, .int qm_top])), (qm_tape, eI G 940 qm_tape_c)] H locs → lv_has ls 5 [(4, .int v1291), (2, .int 0), (0, .ref qm)] → W p l e (rmD 1 0 0) s m args below meth c H locs 0 0 Q (F0 m 271 ls []) := by
                        intro  hJ1296_0 H locs ls hw hl
                        refine lv_iconst (v := 0) C.1 C.2.1 dX11_go_271 (by decide) ?_
                        exact J1298 0  (by decide) (by have e0 : (0 : Int32).toInt = 0 := rfl; first | assumption | omega) _ _ _ hw (lv_sub hl [0, 1, 2] rfl)
                      refine lv_if_eq (tgt := 271) C.1 C.2.1 dX11_go_255 (by decide) (fun c1292 => ?_) (fun c1292 => ?_)
                      · skip
                        have c1292 : j1200.toInt = 0 := i_eqT (X := j1200.toInt) (Y := 0) rfl rfl c1292
                        exact J1296   (by first | assumption | omega) _ _ _ hw (lv_sub hl [0, 2, 3] rfl)
                      · skip
                        have c1292 : j1200.toInt ≠ 0 := i_eqF (X := j1200.toInt) (Y := 0) rfl rfl c1292
                        refine lv_iload C.1 C.2.1 dX11_go_258 (lv_at hl 0 rfl) ?_
                        refine x_calliS (As := [.int v1291]) (rest := []) (wr := [(qm, .inr (10, [.int qm_thrown, .ref qm_tape, .int qm_taped, .int qm_size, .int qm_limit, .int j1201, .int j9, .int qm_kind, .int j1202, .int qm_sign, .int qm_fault, .int qm_place, .long j1203, .int qm_told, .ref qm_now, .ref qm_read, .ref qm_kept, .ref qm_snaps, .ref qm_aside, .ref qm_name, .ref qm_readName, .ref qm_keptName, .ref qm_isKept, .ref qm_onces, .int qm_snapMany, .ref qm_order, .ref qm_ordered, .int qm_orderMany, .int qm_orderMost, .int qm_passing, .int qm_movedWho, .int qm_scratched, .ref qm_text, .int qm_texts, .int qm_seed, .ref qm_line, .ref qm_written, .int qm_lineMany, .int qm_hasWritten, .ref qm_node, .int qm_nodes, .int qm_onesMany, .int qm_within, .int qm_top])), (qm_tape, eI G 940 qm_tape_c)]) C hw (e_X11_isLetter v1291) mwX11_isLetter kw1343 [] [0, 1] rfl rfl rfl rfl (by decide) rfl hl.1 rfl (Nat.le_of_ble_eq_true rfl) ⟨(Nat.le_of_ble_eq_true rfl), (Nat.le_of_ble_eq_true rfl)⟩ ⟨(Nat.le_of_ble_eq_true rfl), (Nat.le_of_ble_eq_true rfl)⟩ dX11_go_260 (fun r1347 u9 H locs hp9 hw => ?_)
                        rcases hp9 with ⟨rfl, rfl, hf1348⟩ | ⟨rfl, rfl, hf1349⟩
                        · skip
                          have hw : Wd G s A [(qm, .inr (10, [.int qm_thrown, .ref qm_tape, .int qm_taped, .int qm_size, .int qm_limit, .int j1201, .int j9, .int qm_kind, .int j1202, .int qm_sign, .int qm_fault, .int qm_place, .long j1203, .int qm_told, .ref qm_now, .ref qm_read, .ref qm_kept, .ref qm_snaps, .ref qm_aside, .ref qm_name, .ref qm_readName, .ref qm_keptName, .ref qm_isKept, .ref qm_onces, .int qm_snapMany, .ref qm_order, .ref qm_ordered, .int qm_orderMany, .int qm_orderMost, .int qm_passing, .int qm_movedWho, .int qm_scratched, .ref qm_text, .int qm_texts, .int qm_seed, .ref qm_line, .ref qm_written, .int qm_lineMany, .int qm_hasWritten, .ref qm_node, .int qm_nodes, .int qm_onesMany, .int qm_within, .int qm_top])), (qm_tape, eI G 940 qm_tape_c)] H _ := hw
                          refine lv_iload_n C.1 C.2.1 dX11_go_263 rfl (lv_at hl 2 rfl) ?_
                          refine lv_icmp_ne (tgt := 271) C.1 C.2.1 dX11_go_264 (by decide) (fun h9 => absurd (by decide) h9) (fun _ => ?_)
                          refine lv_iconst (v := 1) C.1 C.2.1 dX11_go_267 (by decide) ?_
                          refine lv_goto (tgt := 272) C.1 C.2.1 dX11_go_268 (by decide) ?_
                          exact J1298 1  (by decide) (by have e0 : (1 : Int32).toInt = 1 := rfl; first | assumption | omega) _ _ _ hw (lv_sub hl [0, 2, 3] rfl)
                        · skip
                          have hw : Wd G s A [(qm, .inr (10, [.int qm_thrown, .ref qm_tape, .int qm_taped, .int qm_size, .int qm_limit, .int j1201, .int j9, .int qm_kind, .int j1202, .int qm_sign, .int qm_fault, .int qm_place, .long j1203, .int qm_told, .ref qm_now, .ref qm_read, .ref qm_kept, .ref qm_snaps, .ref qm_aside, .ref qm_name, .ref qm_readName, .ref qm_keptName, .ref qm_isKept, .ref qm_onces, .int qm_snapMany, .ref qm_order, .ref qm_ordered, .int qm_orderMany, .int qm_orderMost, .int qm_passing, .int qm_movedWho, .int qm_scratched, .ref qm_text, .int qm_texts, .int qm_seed, .ref qm_line, .ref qm_written, .int qm_lineMany, .int qm_hasWritten, .ref qm_node, .int qm_nodes, .int qm_onesMany, .int qm_within, .int qm_top])), (qm_tape, eI G 940 qm_tape_c)] H _ := hw
                          refine lv_iload_n C.1 C.2.1 dX11_go_263 rfl (lv_at hl 2 rfl) ?_
                          refine lv_icmp_ne (tgt := 271) C.1 C.2.1 dX11_go_264 (by decide) (fun _ => ?_) (fun h9 => absurd h9 (by decide))
                          exact J1296   (by first | assumption | omega) _ _ _ hw (lv_sub hl [0, 2, 3] rfl)
                    rcases hp9 with ⟨rfl, rfl, hf1254⟩ | ⟨rfl, rfl, hf1255⟩
                    · skip
                      have hw : Wd G s A [(qm, .inr (10, [.int qm_thrown, .ref qm_tape, .int qm_taped, .int qm_size, .int qm_limit, .int j1201, .int j9, .int qm_kind, .int j1202, .int qm_sign, .int qm_fault, .int qm_place, .long j1203, .int qm_told, .ref qm_now, .ref qm_read, .ref qm_kept, .ref qm_snaps, .ref qm_aside, .ref qm_name, .ref qm_readName, .ref qm_keptName, .ref qm_isKept, .ref qm_onces, .int qm_snapMany, .ref qm_order, .ref qm_ordered, .int qm_orderMany, .int qm_orderMost, .int qm_passing, .int qm_movedWho, .int qm_scratched, .ref qm_text, .int qm_texts, .int qm_seed, .ref qm_line, .ref qm_written, .int qm_lineMany, .int qm_hasWritten, .ref qm_node, .int qm_nodes, .int qm_onesMany, .int qm_within, .int qm_top])), (qm_tape, eI G 940 qm_tape_c)] H _ := hw
                      refine lv_if_ne (tgt := 243) C.1 C.2.1 dX11_go_226 (by decide) (fun h9 => absurd (by decide) h9) (fun _ => ?_)
                      refine lv_aload_n C.1 C.2.1 dX11_go_229 rfl (lv_at hl 2 rfl) ?_
                      refine lv_aload_n C.1 C.2.1 dX11_go_230 rfl (lv_at hl 2 rfl) ?_
                      refine x_get C hw iwX11 10 rfl 0 rfl 5 (by decide) kw1198 rfl dX11_go_231 ?_
                      refine x_calliV (As := [.int j1201]) (rest := []) (wr := []) C hw (e_X11_tapeAt qm j1201 qm_thrown qm_tape qm_taped qm_size qm_limit j1201 j9 qm_kind j1202 qm_sign qm_fault qm_place j1203 qm_told qm_now qm_read qm_kept qm_snaps qm_aside qm_name qm_readName qm_keptName qm_isKept qm_onces qm_snapMany qm_order qm_ordered qm_orderMany qm_orderMost qm_passing qm_movedWho qm_scratched qm_text qm_texts qm_seed qm_line qm_written qm_lineMany qm_hasWritten qm_node qm_nodes qm_onesMany qm_within qm_top qm_tape_c b (by omega) (by omega) hr_0) mwX11_tapeAt kw1349 [0, 1] [] rfl rfl rfl rfl (by decide) 0 rfl rfl rfl rfl hl.1 rfl (Nat.le_of_ble_eq_true rfl) ⟨(Nat.le_of_ble_eq_true rfl), (Nat.le_of_ble_eq_true rfl)⟩ ⟨(Nat.le_of_ble_eq_true rfl), (Nat.le_of_ble_eq_true rfl)⟩ dX11_go_234 (fun r1350 u9 H locs hp9 hw => ?_)
                      obtain ⟨x1351, rfl, rfl, hf1352, hf1353⟩ := hp9
                      have hw : Wd G s A [(qm, .inr (10, [.int qm_thrown, .ref qm_tape, .int qm_taped, .int qm_size, .int qm_limit, .int j1201, .int j9, .int qm_kind, .int j1202, .int qm_sign, .int qm_fault, .int qm_place, .long j1203, .int qm_told, .ref qm_now, .ref qm_read, .ref qm_kept, .ref qm_snaps, .ref qm_aside, .ref qm_name, .ref qm_readName, .ref qm_keptName, .ref qm_isKept, .ref qm_onces, .int qm_snapMany, .ref qm_order, .ref qm_ordered, .int qm_orderMany, .int qm_orderMost, .int qm_passing, .int qm_movedWho, .int qm_scratched, .ref qm_text, .int qm_texts, .int qm_seed, .ref qm_line, .ref qm_written, .int qm_lineMany, .int qm_hasWritten, .ref qm_node, .int qm_nodes, .int qm_onesMany, .int qm_within, .int qm_top])), (qm_tape, eI G 940 qm_tape_c)] H _ := hw
                      refine x_calliS (As := [.int r1350]) (rest := []) (wr := [(qm, .inr (10, [.int qm_thrown, .ref qm_tape, .int qm_taped, .int qm_size, .int qm_limit, .int j1201, .int j9, .int qm_kind, .int j1202, .int qm_sign, .int qm_fault, .int qm_place, .long j1203, .int qm_told, .ref qm_now, .ref qm_read, .ref qm_kept, .ref qm_snaps, .ref qm_aside, .ref qm_name, .ref qm_readName, .ref qm_keptName, .ref qm_isKept, .ref qm_onces, .int qm_snapMany, .ref qm_order, .ref qm_ordered, .int qm_orderMany, .int qm_orderMost, .int qm_passing, .int qm_movedWho, .int qm_scratched, .ref qm_text, .int qm_texts, .int qm_seed, .ref qm_line, .ref qm_written, .int qm_lineMany, .int qm_hasWritten, .ref qm_node, .int qm_nodes, .int qm_onesMany, .int qm_within, .int qm_top])), (qm_tape, eI G 940 qm_tape_c)]) C hw (e_X11_isDigit r1350) mwX11_isDigit kw1346 [] [0, 1] rfl rfl rfl rfl (by decide) rfl hl.1 rfl (Nat.le_of_ble_eq_true rfl) ⟨(Nat.le_of_ble_eq_true rfl), (Nat.le_of_ble_eq_true rfl)⟩ ⟨(Nat.le_of_ble_eq_true rfl), (Nat.le_of_ble_eq_true rfl)⟩ dX11_go_237 (fun r1354 u9 H locs hp9 hw => ?_)
                      rcases hp9 with ⟨rfl, rfl, hf1355⟩ | ⟨rfl, rfl, hf1356⟩
                      · skip
                        have hw : Wd G s A [(qm, .inr (10, [.int qm_thrown, .ref qm_tape, .int qm_taped, .int qm_size, .int qm_limit, .int j1201, .int j9, .int qm_kind, .int j1202, .int qm_sign, .int qm_fault, .int qm_place, .long j1203, .int qm_told, .ref qm_now, .ref qm_read, .ref qm_kept, .ref qm_snaps, .ref qm_aside, .ref qm_name, .ref qm_readName, .ref qm_keptName, .ref qm_isKept, .ref qm_onces, .int qm_snapMany, .ref qm_order, .ref qm_ordered, .int qm_orderMany, .int qm_orderMost, .int qm_passing, .int qm_movedWho, .int qm_scratched, .ref qm_text, .int qm_texts, .int qm_seed, .ref qm_line, .ref qm_written, .int qm_lineMany, .int qm_hasWritten, .ref qm_node, .int qm_nodes, .int qm_onesMany, .int qm_within, .int qm_top])), (qm_tape, eI G 940 qm_tape_c)] H _ := hw
                        refine lv_if_eq (tgt := 350) C.1 C.2.1 dX11_go_240 (by decide) (fun _ => ?_) (fun h9 => absurd (by decide) h9)
                        obtain ⟨hX, hP, hKa, hKb⟩ := goI0_e (m := qm_limit.toInt) (show goI0 b qm_size.toInt j9.toInt j1201.toInt j1200 j1203 j1202 by assumption) hS (by omega) (by first | assumption | omega) (by omega) (fun h9 => by omega)
                        refine lv_aload_n C.1 C.2.1 dX11_go_350 rfl (lv_at hl 2 rfl) ?_
                        refine lv_iload_n C.1 C.2.1 dX11_go_351 rfl (lv_at hl 0 rfl) ?_
                        refine lv_if_eq (tgt := 377) C.1 C.2.1 dX11_go_352 (by decide) (fun c1357 => ?_) (fun c1357 => ?_)
                        · skip
                          have c1357 : j1200.toInt = 0 := i_eqT (X := j1200.toInt) (Y := 0) rfl rfl c1357
                          refine lv_iconst (v := 1) C.1 C.2.1 dX11_go_377 (by decide) ?_
                          refine lv_goto (tgt := 390) C.1 C.2.1 dX11_go_378 (by decide) ?_
                          refine x_put (w' := [(qm, .inr (10, [.int qm_thrown, .ref qm_tape, .int qm_taped, .int qm_size, .int qm_limit, .int j1201, .int j9, .int 1, .int j1202, .int qm_sign, .int qm_fault, .int qm_place, .long j1203, .int qm_told, .ref qm_now, .ref qm_read, .ref qm_kept, .ref qm_snaps, .ref qm_aside, .ref qm_name, .ref qm_readName, .ref qm_keptName, .ref qm_isKept, .ref qm_onces, .int qm_snapMany, .ref qm_order, .ref qm_ordered, .int qm_orderMany, .int qm_orderMost, .int qm_passing, .int qm_movedWho, .int qm_scratched, .ref qm_text, .int qm_texts, .int qm_seed, .ref qm_line, .ref qm_written, .int qm_lineMany, .int qm_hasWritten, .ref qm_node, .int qm_nodes, .int qm_onesMany, .int qm_within, .int qm_top])), (qm_tape, eI G 940 qm_tape_c)]) C hw iwX11 tyX11_ok nmX11 10 rfl 0 rfl 7 (by decide) kw1200 rfl rfl rfl (Nat.le_of_ble_eq_true rfl) rfl dX11_go_390 (fun H locs hw => ?_)
                          have hK : tkK b qm_size.toInt qm_limit.toInt qm_to.toInt = 1 := hKb (by omega)
                          exact x_retvQ hQ B hw ⟨j1201, j9, 1, j1202, qm_sign, j1203, rfl, (by omega), (by omega), (by decide), (by have e0 : (1 : Int32).toInt = 1 := rfl; first | omega), (by have e0 : (1 : Int32).toInt = 1 := rfl; first | omega), (by have e0 : (1 : Int32).toInt = 1 := rfl; first | omega), ⟨fun h9 => by omega, fun h9 => by omega, fun h9 => by omega⟩⟩ (Nat.le_of_ble_eq_true rfl) (Nat.le_of_ble_eq_true rfl) dX11_go_393
                        · skip
                          have c1357 : j1200.toInt ≠ 0 := i_eqF (X := j1200.toInt) (Y := 0) rfl rfl c1357
                          refine lv_aload_n C.1 C.2.1 dX11_go_355 rfl (lv_at hl 2 rfl) ?_
                          refine x_get C hw iwX11 10 rfl 0 rfl 5 (by decide) kw1198 rfl dX11_go_356 ?_
                          refine lv_aload_n C.1 C.2.1 dX11_go_359 rfl (lv_at hl 2 rfl) ?_
                          refine x_get C hw iwX11 10 rfl 0 rfl 6 (by decide) kw1199 rfl dX11_go_360 ?_
                          refine lv_isub C.1 C.2.1 dX11_go_363 (x_genP (fun z : Int32 => z.toInt = j1201.toInt - j9.toInt) (i_sub (X := j1201.toInt) (Y := j9.toInt) rfl rfl (by omega) (by omega)) (fun v1358 hv1358 => ?_))
                          refine lv_iload_n C.1 C.2.1 dX11_go_364 rfl (lv_at hl 1 rfl) ?_
                          refine lv_if_eq (tgt := 373) C.1 C.2.1 dX11_go_365 (by decide) (fun _ => ?_) (fun h9 => absurd (by decide) h9)
                          refine lv_iconst (v := 3) C.1 C.2.1 dX11_go_373 (by decide) ?_
                          refine lv_icmp_le (tgt := 381) C.1 C.2.1 dX11_go_374 (by decide) (fun c1359 => ?_) (fun c1359 => ?_)
                          · skip
                            have c1359 : v1358.toInt ≤ 3 := i_leT (X := v1358.toInt) (Y := 3) rfl rfl c1359
                            refine lv_iload_n C.1 C.2.1 dX11_go_381 rfl (lv_at hl 1 rfl) ?_
                            refine lv_if_eq (tgt := 389) C.1 C.2.1 dX11_go_382 (by decide) (fun _ => ?_) (fun h9 => absurd (by decide) h9)
                            refine lv_iconst (v := 3) C.1 C.2.1 dX11_go_389 (by decide) ?_
                            refine x_put (w' := [(qm, .inr (10, [.int qm_thrown, .ref qm_tape, .int qm_taped, .int qm_size, .int qm_limit, .int j1201, .int j9, .int 3, .int j1202, .int qm_sign, .int qm_fault, .int qm_place, .long j1203, .int qm_told, .ref qm_now, .ref qm_read, .ref qm_kept, .ref qm_snaps, .ref qm_aside, .ref qm_name, .ref qm_readName, .ref qm_keptName, .ref qm_isKept, .ref qm_onces, .int qm_snapMany, .ref qm_order, .ref qm_ordered, .int qm_orderMany, .int qm_orderMost, .int qm_passing, .int qm_movedWho, .int qm_scratched, .ref qm_text, .int qm_texts, .int qm_seed, .ref qm_line, .ref qm_written, .int qm_lineMany, .int qm_hasWritten, .ref qm_node, .int qm_nodes, .int qm_onesMany, .int qm_within, .int qm_top])), (qm_tape, eI G 940 qm_tape_c)]) C hw iwX11 tyX11_ok nmX11 10 rfl 0 rfl 7 (by decide) kw1200 rfl rfl rfl (Nat.le_of_ble_eq_true rfl) rfl dX11_go_390 (fun H locs hw => ?_)
                            obtain ⟨hK, hVl⟩ := hKa (by omega) (by omega)
                            exact x_retvQ hQ B hw ⟨j1201, j9, 3, j1202, qm_sign, j1203, rfl, (by omega), (by omega), (by decide), (by have e0 : (3 : Int32).toInt = 3 := rfl; first | omega), (by have e0 : (3 : Int32).toInt = 3 := rfl; first | omega), (by have e0 : (3 : Int32).toInt = 3 := rfl; first | omega), ⟨fun h9 => by omega, fun h9 => by omega, fun h9 => by omega⟩⟩ (Nat.le_of_ble_eq_true rfl) (Nat.le_of_ble_eq_true rfl) dX11_go_393
                          · skip
                            have c1359 : 3 < v1358.toInt := i_leF (X := v1358.toInt) (Y := 3) rfl rfl c1359
                            refine lv_iconst (v := 1) C.1 C.2.1 dX11_go_377 (by decide) ?_
                            refine lv_goto (tgt := 390) C.1 C.2.1 dX11_go_378 (by decide) ?_
                            refine x_put (w' := [(qm, .inr (10, [.int qm_thrown, .ref qm_tape, .int qm_taped, .int qm_size, .int qm_limit, .int j1201, .int j9, .int 1, .int j1202, .int qm_sign, .int qm_fault, .int qm_place, .long j1203, .int qm_told, .ref qm_now, .ref qm_read, .ref qm_kept, .ref qm_snaps, .ref qm_aside, .ref qm_name, .ref qm_readName, .ref qm_keptName, .ref qm_isKept, .ref qm_onces, .int qm_snapMany, .ref qm_order, .ref qm_ordered, .int qm_orderMany, .int qm_orderMost, .int qm_passing, .int qm_movedWho, .int qm_scratched, .ref qm_text, .int qm_texts, .int qm_seed, .ref qm_line, .ref qm_written, .int qm_lineMany, .int qm_hasWritten, .ref qm_node, .int qm_nodes, .int qm_onesMany, .int qm_within, .int qm_top])), (qm_tape, eI G 940 qm_tape_c)]) C hw iwX11 tyX11_ok nmX11 10 rfl 0 rfl 7 (by decide) kw1200 rfl rfl rfl (Nat.le_of_ble_eq_true rfl) rfl dX11_go_390 (fun H locs hw => ?_)
                            have hK : tkK b qm_size.toInt qm_limit.toInt qm_to.toInt = 1 := hKb (by omega)
                            exact x_retvQ hQ B hw ⟨j1201, j9, 1, j1202, qm_sign, j1203, rfl, (by omega), (by omega), (by decide), (by have e0 : (1 : Int32).toInt = 1 := rfl; first | omega), (by have e0 : (1 : Int32).toInt = 1 := rfl; first | omega), (by have e0 : (1 : Int32).toInt = 1 := rfl; first | omega), ⟨fun h9 => by omega, fun h9 => by omega, fun h9 => by omega⟩⟩ (Nat.le_of_ble_eq_true rfl) (Nat.le_of_ble_eq_true rfl) dX11_go_393
                      · skip
                        have hw : Wd G s A [(qm, .inr (10, [.int qm_thrown, .ref qm_tape, .int qm_taped, .int qm_size, .int qm_limit, .int j1201, .int j9, .int qm_kind, .int j1202, .int qm_sign, .int qm_fault, .int qm_place, .long j1203, .int qm_told, .ref qm_now, .ref qm_read, .ref qm_kept, .ref qm_snaps, .ref qm_aside, .ref qm_name, .ref qm_readName, .ref qm_keptName, .ref qm_isKept, .ref qm_onces, .int qm_snapMany, .ref qm_order, .ref qm_ordered, .int qm_orderMany, .int qm_orderMost, .int qm_passing, .int qm_movedWho, .int qm_scratched, .ref qm_text, .int qm_texts, .int qm_seed, .ref qm_line, .ref qm_written, .int qm_lineMany, .int qm_hasWritten, .ref qm_node, .int qm_nodes, .int qm_onesMany, .int qm_within, .int qm_top])), (qm_tape, eI G 940 qm_tape_c)] H _ := hw
                        refine lv_if_eq (tgt := 350) C.1 C.2.1 dX11_go_240 (by decide) (fun h9 => absurd h9 (by decide)) (fun _ => ?_)
                        exact J1266   (by first | assumption | omega) (by first | assumption | omega) _ _ _ hw (lv_sub hl [0, 1, 2] rfl)
                    · skip
                      have hw : Wd G s A [(qm, .inr (10, [.int qm_thrown, .ref qm_tape, .int qm_taped, .int qm_size, .int qm_limit, .int j1201, .int j9, .int qm_kind, .int j1202, .int qm_sign, .int qm_fault, .int qm_place, .long j1203, .int qm_told, .ref qm_now, .ref qm_read, .ref qm_kept, .ref qm_snaps, .ref qm_aside, .ref qm_name, .ref qm_readName, .ref qm_keptName, .ref qm_isKept, .ref qm_onces, .int qm_snapMany, .ref qm_order, .ref qm_ordered, .int qm_orderMany, .int qm_orderMost, .int qm_passing, .int qm_movedWho, .int qm_scratched, .ref qm_text, .int qm_texts, .int qm_seed, .ref qm_line, .ref qm_written, .int qm_lineMany, .int qm_hasWritten, .ref qm_node, .int qm_nodes, .int qm_onesMany, .int qm_within, .int qm_top])), (qm_tape, eI G 940 qm_tape_c)] H _ := hw
                      refine lv_if_ne (tgt := 243) C.1 C.2.1 dX11_go_226 (by decide) (fun _ => ?_) (fun h9 => absurd h9 (by decide))
                      exact J1266   (by first | assumption | omega) (by first | assumption | omega) _ _ _ hw (lv_sub hl [0, 1, 2] rfl)
                exact loopJ1204 _ 1 j9 0 0 (Nat.lt_succ_self _) (by decide) (by omega) (goI0_0 (by omega)) _ _ _ hw (lv_sub hl [0, 1, 3] rfl)
              · skip
                have hw : Wd G s A [(qm, .inr (10, [.int qm_thrown, .ref qm_tape, .int qm_taped, .int qm_size, .int qm_limit, .int j9, .int j9, .int qm_kind, .int qm_number, .int qm_sign, .int qm_fault, .int qm_place, .long qm_word, .int qm_told, .ref qm_now, .ref qm_read, .ref qm_kept, .ref qm_snaps, .ref qm_aside, .ref qm_name, .ref qm_readName, .ref qm_keptName, .ref qm_isKept, .ref qm_onces, .int qm_snapMany, .ref qm_order, .ref qm_ordered, .int qm_orderMany, .int qm_orderMost, .int qm_passing, .int qm_movedWho, .int qm_scratched, .ref qm_text, .int qm_texts, .int qm_seed, .ref qm_line, .ref qm_written, .int qm_lineMany, .int qm_hasWritten, .ref qm_node, .int qm_nodes, .int qm_onesMany, .int qm_within, .int qm_top])), (qm_tape, eI G 940 qm_tape_c)] H _ := hw
                refine lv_istore_n (lv' := [(2, .int 1), (1, .int v915), (0, .ref qm)]) C.1 C.2.1 dX11_go_202 rfl hl (by decide) rfl (fun ls hl => ?_)
                refine lv_iconst (v := 1) C.1 C.2.1 dX11_go_203 (by decide) ?_
                refine lv_istore_n (lv' := [(3, .int 1), (2, .int 1), (1, .int v915), (0, .ref qm)]) C.1 C.2.1 dX11_go_204 rfl hl (by decide) rfl (fun ls hl => ?_)
                refine lv_aload_n C.1 C.2.1 dX11_go_205 rfl (lv_at hl 3 rfl) ?_
                refine lv_lconst (v := 0) C.1 C.2.1 dX11_go_206 (by decide) ?_
                refine x_put (w' := [(qm, .inr (10, [.int qm_thrown, .ref qm_tape, .int qm_taped, .int qm_size, .int qm_limit, .int j9, .int j9, .int qm_kind, .int qm_number, .int qm_sign, .int qm_fault, .int qm_place, .long 0, .int qm_told, .ref qm_now, .ref qm_read, .ref qm_kept, .ref qm_snaps, .ref qm_aside, .ref qm_name, .ref qm_readName, .ref qm_keptName, .ref qm_isKept, .ref qm_onces, .int qm_snapMany, .ref qm_order, .ref qm_ordered, .int qm_orderMany, .int qm_orderMost, .int qm_passing, .int qm_movedWho, .int qm_scratched, .ref qm_text, .int qm_texts, .int qm_seed, .ref qm_line, .ref qm_written, .int qm_lineMany, .int qm_hasWritten, .ref qm_node, .int qm_nodes, .int qm_onesMany, .int qm_within, .int qm_top])), (qm_tape, eI G 940 qm_tape_c)]) C hw iwX11 tyX11_ok nmX11 10 rfl 0 rfl 12 (by decide) kw1205 rfl rfl rfl (Nat.le_of_ble_eq_true rfl) rfl dX11_go_207 (fun H locs hw => ?_)
                refine lv_aload_n C.1 C.2.1 dX11_go_210 rfl (lv_at hl 3 rfl) ?_
                refine lv_iconst (v := 0) C.1 C.2.1 dX11_go_211 (by decide) ?_
                refine x_put (w' := [(qm, .inr (10, [.int qm_thrown, .ref qm_tape, .int qm_taped, .int qm_size, .int qm_limit, .int j9, .int j9, .int qm_kind, .int 0, .int qm_sign, .int qm_fault, .int qm_place, .long 0, .int qm_told, .ref qm_now, .ref qm_read, .ref qm_kept, .ref qm_snaps, .ref qm_aside, .ref qm_name, .ref qm_readName, .ref qm_keptName, .ref qm_isKept, .ref qm_onces, .int qm_snapMany, .ref qm_order, .ref qm_ordered, .int qm_orderMany, .int qm_orderMost, .int qm_passing, .int qm_movedWho, .int qm_scratched, .ref qm_text, .int qm_texts, .int qm_seed, .ref qm_line, .ref qm_written, .int qm_lineMany, .int qm_hasWritten, .ref qm_node, .int qm_nodes, .int qm_onesMany, .int qm_within, .int qm_top])), (qm_tape, eI G 940 qm_tape_c)]) C hw iwX11 tyX11_ok nmX11 10 rfl 0 rfl 8 (by decide) kw1201 rfl rfl rfl (Nat.le_of_ble_eq_true rfl) rfl dX11_go_212 (fun H locs hw => ?_)
                have loopJ1412 : ∀ (n9 : Nat) (j1408 : Int32) (j1409 : Int32) (j1410 : Int32) (j1411 : Int64), (2147483647 - j1409.toInt).toNat < n9 → (0 ≤ j1408.toInt ∧ j1408.toInt ≤ 1) → (0 ≤ j1409.toInt ∧ j1409.toInt ≤ 940) → (goI1 b qm_size.toInt j9.toInt j1409.toInt j1408 j1411 j1410) → ∀ (H : Heap) (locs : List Loc) (ls : Array Slot), Wd G s A [(qm, .inr (10, [.int qm_thrown, .ref qm_tape, .int qm_taped, .int qm_size, .int qm_limit, .int j1409, .int j9, .int qm_kind, .int j1410, .int qm_sign, .int qm_fault, .int qm_place, .long j1411, .int qm_told, .ref qm_now, .ref qm_read, .ref qm_kept, .ref qm_snaps, .ref qm_aside, .ref qm_name, .ref qm_readName, .ref qm_keptName, .ref qm_isKept, .ref qm_onces, .int qm_snapMany, .ref qm_order, .ref qm_ordered, .int qm_orderMany, .int qm_orderMost, .int qm_passing, .int qm_movedWho, .int qm_scratched, .ref qm_text, .int qm_texts, .int qm_seed, .ref qm_line, .ref qm_written, .int qm_lineMany, .int qm_hasWritten, .ref qm_node, .int qm_nodes, .int qm_onesMany, .int qm_within, .int qm_top])), (qm_tape, eI G 940 qm_tape_c)] H locs → lv_has ls 5 [(3, .int j1408), (2, .int 1), (0, .ref qm)] → W p l e (rmD 1 0 0) s m args below meth c H locs 0 0 Q (F0 m 215 ls []) := by
                  intro n9
                  induction n9 with
                  | zero => intro j1408 j1409 j1410 j1411 h9; exact absurd h9 (Nat.not_lt_zero _)
                  | succ n9 ihJ1412 =>
                    intro j1408 j1409 j1410 j1411 h9J1412 hJ1412_0 hJ1412_1 hJ1412_2 H locs ls hw hl
                    have hbj1409 := i_bd j1409
                    refine lv_aload_n C.1 C.2.1 dX11_go_215 rfl (lv_at hl 2 rfl) ?_
                    refine lv_aload_n C.1 C.2.1 dX11_go_216 rfl (lv_at hl 2 rfl) ?_
                    refine x_get C hw iwX11 10 rfl 0 rfl 5 (by decide) kw1198 rfl dX11_go_217 ?_
                    refine x_calliV (As := [.int j1409]) (rest := []) (wr := []) C hw (e_X11_tapeAt qm j1409 qm_thrown qm_tape qm_taped qm_size qm_limit j1409 j9 qm_kind j1410 qm_sign qm_fault qm_place j1411 qm_told qm_now qm_read qm_kept qm_snaps qm_aside qm_name qm_readName qm_keptName qm_isKept qm_onces qm_snapMany qm_order qm_ordered qm_orderMany qm_orderMost qm_passing qm_movedWho qm_scratched qm_text qm_texts qm_seed qm_line qm_written qm_lineMany qm_hasWritten qm_node qm_nodes qm_onesMany qm_within qm_top qm_tape_c b (by omega) (by omega) hr_0) mwX11_tapeAt kw1349 [0, 1] [] rfl rfl rfl rfl (by decide) 0 rfl rfl rfl rfl hl.1 rfl (Nat.le_of_ble_eq_true rfl) ⟨(Nat.le_of_ble_eq_true rfl), (Nat.le_of_ble_eq_true rfl)⟩ ⟨(Nat.le_of_ble_eq_true rfl), (Nat.le_of_ble_eq_true rfl)⟩ dX11_go_220 (fun r1457 u9 H locs hp9 hw => ?_)
                    obtain ⟨x1458, rfl, rfl, hf1459, hf1460⟩ := hp9
                    have hw : Wd G s A [(qm, .inr (10, [.int qm_thrown, .ref qm_tape, .int qm_taped, .int qm_size, .int qm_limit, .int j1409, .int j9, .int qm_kind, .int j1410, .int qm_sign, .int qm_fault, .int qm_place, .long j1411, .int qm_told, .ref qm_now, .ref qm_read, .ref qm_kept, .ref qm_snaps, .ref qm_aside, .ref qm_name, .ref qm_readName, .ref qm_keptName, .ref qm_isKept, .ref qm_onces, .int qm_snapMany, .ref qm_order, .ref qm_ordered, .int qm_orderMany, .int qm_orderMost, .int qm_passing, .int qm_movedWho, .int qm_scratched, .ref qm_text, .int qm_texts, .int qm_seed, .ref qm_line, .ref qm_written, .int qm_lineMany, .int qm_hasWritten, .ref qm_node, .int qm_nodes, .int qm_onesMany, .int qm_within, .int qm_top])), (qm_tape, eI G 940 qm_tape_c)] H _ := hw
                    refine x_calliS (As := [.int r1457]) (rest := []) (wr := [(qm, .inr (10, [.int qm_thrown, .ref qm_tape, .int qm_taped, .int qm_size, .int qm_limit, .int j1409, .int j9, .int qm_kind, .int j1410, .int qm_sign, .int qm_fault, .int qm_place, .long j1411, .int qm_told, .ref qm_now, .ref qm_read, .ref qm_kept, .ref qm_snaps, .ref qm_aside, .ref qm_name, .ref qm_readName, .ref qm_keptName, .ref qm_isKept, .ref qm_onces, .int qm_snapMany, .ref qm_order, .ref qm_ordered, .int qm_orderMany, .int qm_orderMost, .int qm_passing, .int qm_movedWho, .int qm_scratched, .ref qm_text, .int qm_texts, .int qm_seed, .ref qm_line, .ref qm_written, .int qm_lineMany, .int qm_hasWritten, .ref qm_node, .int qm_nodes, .int qm_onesMany, .int qm_within, .int qm_top])), (qm_tape, eI G 940 qm_tape_c)]) C hw (e_X11_isLetter r1457) mwX11_isLetter kw1343 [] [0, 1] rfl rfl rfl rfl (by decide) rfl hl.1 rfl (Nat.le_of_ble_eq_true rfl) ⟨(Nat.le_of_ble_eq_true rfl), (Nat.le_of_ble_eq_true rfl)⟩ ⟨(Nat.le_of_ble_eq_true rfl), (Nat.le_of_ble_eq_true rfl)⟩ dX11_go_223 (fun r1461 u9 H locs hp9 hw => ?_)
                    have J1474 : (j1409.toInt < qm_size.toInt) → ((97 ≤ b j1409.toInt ∧ b j1409.toInt ≤ 122) ∨ (48 ≤ b j1409.toInt ∧ b j1409.toInt ≤ 57)) → ∀ (H : Heap) (locs : List Loc) (ls : Array Slot), Wd G s A [(qm, .inr (10, [.int qm_thrown, .ref qm_tape, .int qm_taped, .int qm_size, .int qm_limit, .int j1409, .int j9, .int qm_kind, .int j1410, .int qm_sign, .int qm_fault, .int qm_place, .long j1411, .int qm_told, .ref qm_now, .ref qm_read, .ref qm_kept, .ref qm_snaps, .ref qm_aside, .ref qm_name, .ref qm_readName, .ref qm_keptName, .ref qm_isKept, .ref qm_onces, .int qm_snapMany, .ref qm_order, .ref qm_ordered, .int qm_orderMany, .int qm_orderMost, .int qm_passing, .int qm_movedWho, .int qm_scratched, .ref qm_text, .int qm_texts, .int qm_seed, .ref qm_line, .ref qm_written, .int qm_lineMany, .int qm_hasWritten, .ref qm_node, .int qm_nodes, .int qm_onesMany, .int qm_within, .int qm_top])), (qm_tape, eI G 940 qm_tape_c)] H locs → lv_has ls 5 [(3, .int j1408), (2, .int 1), (0, .ref qm)] → W p l e (rmD 1 0 0) s m args below meth c H locs 0 0 Q (F0 m 243 ls []) := by
                      intro  hJ1474_0 hJ1474_1 H locs ls hw hl
                      refine lv_aload_n C.1 C.2.1 dX11_go_243 rfl (lv_at hl 2 rfl) ?_
                      refine x_get C hw iwX11 10 rfl 0 rfl 1 (by decide) kw1194 rfl dX11_go_244 ?_
                      refine lv_aload_n C.1 C.2.1 dX11_go_247 rfl (lv_at hl 2 rfl) ?_
                      refine x_get C hw iwX11 10 rfl 0 rfl 5 (by decide) kw1198 rfl dX11_go_248 ?_
                      refine x_iald (v := (qm_tape_c j1409.toNatClampNeg)) C hw 1 rfl (i_in (by omega) (by omega)) rfl dX11_go_251 (x_genP (fun z : Int32 => (z.toInt = b j1409.toInt) ∧ z = qm_tape_c (j1409.toInt.toNat) ∧ z.toInt = (qm_tape_c (j1409.toInt.toNat)).toInt) ⟨(hr_0 j1409.toInt (by omega) (by omega)).symm, rfl, rfl⟩ (fun v1499 hv1499 => ?_))
                      refine lv_istore (lv' := [(4, .int v1499), (3, .int j1408), (2, .int 1), (0, .ref qm)]) C.1 C.2.1 dX11_go_252 hl (by decide) rfl (fun ls hl => ?_)
                      refine lv_iload_n C.1 C.2.1 dX11_go_254 rfl (lv_at hl 1 rfl) ?_
                      have J1506 : ∀ (j1505 : Int32), (0 ≤ j1505.toInt ∧ j1505.toInt ≤ 1) → ((j1505.toInt = 1 ∧ j1408.toInt ≠ 0 ∧ (97 ≤ b j1409.toInt ∧ b j1409.toInt ≤ 122)) ∨ (j1505.toInt = 0 ∧ (j1408.toInt = 0 ∨ ¬ (97 ≤ b j1409.toInt ∧ b j1409.toInt ≤ 122)))) → ∀ (H : Heap) (locs : List Loc) (ls : Array Slot), Wd G s A [(qm, .inr (10, [.int qm_thrown, .ref qm_tape, .int qm_taped, .int qm_size, .int qm_limit, .int j1409, .int j9, .int qm_kind, .int j1410, .int qm_sign, .int qm_fault, .int qm_place, .long j1411, .int qm_told, .ref qm_now, .ref qm_read, .ref qm_kept, .ref qm_snaps, .ref qm_aside, .ref qm_name, .ref qm_readName, .ref qm_keptName, .ref qm_isKept, .ref qm_onces, .int qm_snapMany, .ref qm_order, .ref qm_ordered, .int qm_orderMany, .int qm_orderMost, .int qm_passing, .int qm_movedWho, .int qm_scratched, .ref qm_text, .int qm_texts, .int qm_seed, .ref qm_line, .ref qm_written, .int qm_lineMany, .int qm_hasWritten, .ref qm_node, .int qm_nodes, .int qm_onesMany, .int qm_within, .int qm_top])), (qm_tape, eI G 940 qm_tape_c)] H locs → lv_has ls 5 [(4, .int v1499), (2, .int 1), (0, .ref qm)] → W p l e (rmD 1 0 0) s m args below meth c H locs 0 0 Q (F0 m 272 ls [.int j1505]) := by
                        intro j1505 hJ1506_0 hJ1506_1 H locs ls hw hl
                        refine lv_istore_n (lv' := [(3, .int j1505), (4, .int v1499), (2, .int 1), (0, .ref qm)]) C.1 C.2.1 dX11_go_272 rfl hl (by decide) rfl (fun ls hl => ?_)
                        refine lv_aload_n C.1 C.2.1 dX11_go_273 rfl (lv_at hl 3 rfl) ?_
                        refine x_get C hw iwX11 10 rfl 0 rfl 5 (by decide) kw1198 rfl dX11_go_274 ?_
                        refine lv_aload_n C.1 C.2.1 dX11_go_277 rfl (lv_at hl 3 rfl) ?_
                        refine x_get C hw iwX11 10 rfl 0 rfl 6 (by decide) kw1199 rfl dX11_go_278 ?_
                        refine lv_isub C.1 C.2.1 dX11_go_281 (x_genP (fun z : Int32 => z.toInt = j1409.toInt - j9.toInt) (i_sub (X := j1409.toInt) (Y := j9.toInt) rfl rfl (by omega) (by omega)) (fun v1523 hv1523 => ?_))
                        refine lv_bipush (v := 7) C.1 C.2.1 dX11_go_282 (by decide) ?_
                        have J1530 : ∀ (j1529 : Int64), (wstI j9.toInt j1409.toInt (b j1409.toInt) j1411 j1529) → ∀ (H : Heap) (locs : List Loc) (ls : Array Slot), Wd G s A [(qm, .inr (10, [.int qm_thrown, .ref qm_tape, .int qm_taped, .int qm_size, .int qm_limit, .int j1409, .int j9, .int qm_kind, .int j1410, .int qm_sign, .int qm_fault, .int qm_place, .long j1529, .int qm_told, .ref qm_now, .ref qm_read, .ref qm_kept, .ref qm_snaps, .ref qm_aside, .ref qm_name, .ref qm_readName, .ref qm_keptName, .ref qm_isKept, .ref qm_onces, .int qm_snapMany, .ref qm_order, .ref qm_ordered, .int qm_orderMany, .int qm_orderMost, .int qm_passing, .int qm_movedWho, .int qm_scratched, .ref qm_text, .int qm_texts, .int qm_seed, .ref qm_line, .ref qm_written, .int qm_lineMany, .int qm_hasWritten, .ref qm_node, .int qm_nodes, .int qm_onesMany, .int qm_within, .int qm_top])), (qm_tape, eI G 940 qm_tape_c)] H locs → lv_has ls 5 [(3, .int j1505), (4, .int v1499), (2, .int 1), (0, .ref qm)] → W p l e (rmD 1 0 0) s m args below meth c H locs 0 0 Q (F0 m 307 ls []) := by
                          intro j1529 hJ1530_0 H locs ls hw hl
                          refine lv_aload_n C.1 C.2.1 dX11_go_307 rfl (lv_at hl 3 rfl) ?_
                          refine x_get C hw iwX11 10 rfl 0 rfl 5 (by decide) kw1198 rfl dX11_go_308 ?_
                          refine lv_aload_n C.1 C.2.1 dX11_go_311 rfl (lv_at hl 3 rfl) ?_
                          refine x_get C hw iwX11 10 rfl 0 rfl 6 (by decide) kw1199 rfl dX11_go_312 ?_
                          refine lv_isub C.1 C.2.1 dX11_go_315 (x_genP (fun z : Int32 => z.toInt = j1409.toInt - j9.toInt) (i_sub (X := j1409.toInt) (Y := j9.toInt) rfl rfl (by omega) (by omega)) (fun v1539 hv1539 => ?_))
                          refine lv_iconst (v := 3) C.1 C.2.1 dX11_go_316 (by decide) ?_
                          have J1545 : ∀ (j1544 : Int32), (nstI j9.toInt j1409.toInt (b j1409.toInt) j1410 j1544) → ∀ (H : Heap) (locs : List Loc) (ls : Array Slot), Wd G s A [(qm, .inr (10, [.int qm_thrown, .ref qm_tape, .int qm_taped, .int qm_size, .int qm_limit, .int j1409, .int j9, .int qm_kind, .int j1544, .int qm_sign, .int qm_fault, .int qm_place, .long j1529, .int qm_told, .ref qm_now, .ref qm_read, .ref qm_kept, .ref qm_snaps, .ref qm_aside, .ref qm_name, .ref qm_readName, .ref qm_keptName, .ref qm_isKept, .ref qm_onces, .int qm_snapMany, .ref qm_order, .ref qm_ordered, .int qm_orderMany, .int qm_orderMost, .int qm_passing, .int qm_movedWho, .int qm_scratched, .ref qm_text, .int qm_texts, .int qm_seed, .ref qm_line, .ref qm_written, .int qm_lineMany, .int qm_hasWritten, .ref qm_node, .int qm_nodes, .int qm_onesMany, .int qm_within, .int qm_top])), (qm_tape, eI G 940 qm_tape_c)] H locs → lv_has ls 5 [(3, .int j1505), (2, .int 1), (0, .ref qm)] → W p l e (rmD 1 0 0) s m args below meth c H locs 0 0 Q (F0 m 337 ls []) := by
                            intro j1544 hJ1545_0 H locs ls hw hl
                            refine lv_aload_n C.1 C.2.1 dX11_go_337 rfl (lv_at hl 2 rfl) ?_
                            refine lv_dup C.1 C.2.1 dX11_go_338 rfl ?_
                            refine x_get C hw iwX11 10 rfl 0 rfl 5 (by decide) kw1198 rfl dX11_go_339 ?_
                            refine lv_iconst (v := 1) C.1 C.2.1 dX11_go_342 (by decide) ?_
                            refine lv_iadd C.1 C.2.1 dX11_go_343 (x_genP (fun z : Int32 => z.toInt = j1409.toInt + 1) (i_add (X := j1409.toInt) (Y := 1) rfl rfl (by omega) (by omega)) (fun v1547 hv1547 => ?_))
                            refine x_put (w' := [(qm, .inr (10, [.int qm_thrown, .ref qm_tape, .int qm_taped, .int qm_size, .int qm_limit, .int v1547, .int j9, .int qm_kind, .int j1544, .int qm_sign, .int qm_fault, .int qm_place, .long j1529, .int qm_told, .ref qm_now, .ref qm_read, .ref qm_kept, .ref qm_snaps, .ref qm_aside, .ref qm_name, .ref qm_readName, .ref qm_keptName, .ref qm_isKept, .ref qm_onces, .int qm_snapMany, .ref qm_order, .ref qm_ordered, .int qm_orderMany, .int qm_orderMost, .int qm_passing, .int qm_movedWho, .int qm_scratched, .ref qm_text, .int qm_texts, .int qm_seed, .ref qm_line, .ref qm_written, .int qm_lineMany, .int qm_hasWritten, .ref qm_node, .int qm_nodes, .int qm_onesMany, .int qm_within, .int qm_top])), (qm_tape, eI G 940 qm_tape_c)]) C hw iwX11 tyX11_ok nmX11 10 rfl 0 rfl 5 (by decide) kw1198 rfl rfl rfl (Nat.le_of_ble_eq_true rfl) rfl dX11_go_344 (fun H locs hw => ?_)
                            refine lv_goto (tgt := 215) C.1 C.2.1 dX11_go_347 (by decide) ?_
                            exact ihJ1412 j1505 v1547 j1544 j1529 (by omega) (by omega) (by omega) (goI1_s (show goI1 b qm_size.toInt j9.toInt j1409.toInt j1408 j1411 j1410 by assumption) (by omega) (by omega) (by assumption) (by assumption) (by assumption) (by assumption) hv1547) _ _ _ hw (lv_sub hl [0, 1, 2] rfl)
                          refine lv_icmp_ge (tgt := 337) C.1 C.2.1 dX11_go_317 (by decide) (fun c1540 => ?_) (fun c1540 => ?_)
                          · skip
                            have c1540 : 3 ≤ v1539.toInt := i_leT (X := 3) (Y := v1539.toInt) rfl rfl c1540
                            exact J1545 j1410  (fun h9 => absurd h9 (by omega)) _ _ _ hw (lv_sub hl [0, 2, 3] rfl)
                          · skip
                            have c1540 : v1539.toInt < 3 := i_leF (X := 3) (Y := v1539.toInt) rfl rfl c1540
                            refine lv_aload_n C.1 C.2.1 dX11_go_320 rfl (lv_at hl 3 rfl) ?_
                            refine lv_bipush (v := 10) C.1 C.2.1 dX11_go_321 (by decide) ?_
                            refine lv_aload_n C.1 C.2.1 dX11_go_323 rfl (lv_at hl 3 rfl) ?_
                            refine x_get C hw iwX11 10 rfl 0 rfl 8 (by decide) kw1201 rfl dX11_go_324 ?_
                            refine lv_imul C.1 C.2.1 dX11_go_327 (x_genP (fun z : Int32 => z = 10 * j1410) rfl (fun v1548 hv1548 => ?_))
                            refine lv_iload C.1 C.2.1 dX11_go_328 (lv_at hl 1 rfl) ?_
                            refine lv_iadd C.1 C.2.1 dX11_go_330 (x_genP (fun z : Int32 => z = v1548 + v1499) rfl (fun v1549 hv1549 => ?_))
                            refine lv_bipush (v := 48) C.1 C.2.1 dX11_go_331 (by decide) ?_
                            refine lv_isub C.1 C.2.1 dX11_go_333 (x_genP (fun z : Int32 => z = v1549 - 48) rfl (fun v1550 hv1550 => ?_))
                            refine x_put (w' := [(qm, .inr (10, [.int qm_thrown, .ref qm_tape, .int qm_taped, .int qm_size, .int qm_limit, .int j1409, .int j9, .int qm_kind, .int v1550, .int qm_sign, .int qm_fault, .int qm_place, .long j1529, .int qm_told, .ref qm_now, .ref qm_read, .ref qm_kept, .ref qm_snaps, .ref qm_aside, .ref qm_name, .ref qm_readName, .ref qm_keptName, .ref qm_isKept, .ref qm_onces, .int qm_snapMany, .ref qm_order, .ref qm_ordered, .int qm_orderMany, .int qm_orderMost, .int qm_passing, .int qm_movedWho, .int qm_scratched, .ref qm_text, .int qm_texts, .int qm_seed, .ref qm_line, .ref qm_written, .int qm_lineMany, .int qm_hasWritten, .ref qm_node, .int qm_nodes, .int qm_onesMany, .int qm_within, .int qm_top])), (qm_tape, eI G 940 qm_tape_c)]) C hw iwX11 tyX11_ok nmX11 10 rfl 0 rfl 8 (by decide) kw1201 rfl rfl rfl (Nat.le_of_ble_eq_true rfl) rfl dX11_go_334 (fun H locs hw => ?_)
                            exact J1545 v1550  (fun _ => ⟨v1499, by omega, by rw [hv1550, hv1549, hv1548]⟩) _ _ _ hw (lv_sub hl [0, 2, 3] rfl)
                        refine lv_icmp_ge (tgt := 307) C.1 C.2.1 dX11_go_284 (by decide) (fun c1524 => ?_) (fun c1524 => ?_)
                        · skip
                          have c1524 : 7 ≤ v1523.toInt := i_leT (X := 7) (Y := v1523.toInt) rfl rfl c1524
                          exact J1530 j1411  (fun h9 => absurd h9 (by omega)) _ _ _ hw (lv_sub hl [0, 1, 2, 3] rfl)
                        · skip
                          have c1524 : v1523.toInt < 7 := i_leF (X := 7) (Y := v1523.toInt) rfl rfl c1524
                          refine lv_aload_n C.1 C.2.1 dX11_go_287 rfl (lv_at hl 3 rfl) ?_
                          refine lv_ldc2 (v := 27) C.1 C.2.1 C.2.2.2.1 (C.2.2.2.2 _ kw1353) dX11_go_288 ?_
                          refine lv_aload_n C.1 C.2.1 dX11_go_291 rfl (lv_at hl 3 rfl) ?_
                          refine x_get C hw iwX11 10 rfl 0 rfl 12 (by decide) kw1205 rfl dX11_go_292 ?_
                          refine lv_lmul C.1 C.2.1 dX11_go_295 (x_genlP (fun z : Int64 => z = (27 : Int64) * j1411) rfl (fun v1551 hv1551 => ?_))
                          refine lv_iload C.1 C.2.1 dX11_go_296 (lv_at hl 1 rfl) ?_
                          refine lv_i2l (v := v1499.toInt64) C.1 C.2.1 dX11_go_298 rfl (x_genlP (fun z : Int64 => z.toInt = v1499.toInt ∧ z = v1499.toInt64) ⟨l_i2l _, rfl⟩ (fun v1552 hv1552 => ?_))
                          refine lv_ladd C.1 C.2.1 dX11_go_299 (x_genlP (fun z : Int64 => z = v1551 + v1552) rfl (fun v1553 hv1553 => ?_))
                          refine lv_ldc2 (v := 96) C.1 C.2.1 C.2.2.2.1 (C.2.2.2.2 _ kw1354) dX11_go_300 ?_
                          refine lv_lsub C.1 C.2.1 dX11_go_303 (x_genlP (fun z : Int64 => z = v1553 - (96 : Int64)) rfl (fun v1554 hv1554 => ?_))
                          refine x_put (w' := [(qm, .inr (10, [.int qm_thrown, .ref qm_tape, .int qm_taped, .int qm_size, .int qm_limit, .int j1409, .int j9, .int qm_kind, .int j1410, .int qm_sign, .int qm_fault, .int qm_place, .long v1554, .int qm_told, .ref qm_now, .ref qm_read, .ref qm_kept, .ref qm_snaps, .ref qm_aside, .ref qm_name, .ref qm_readName, .ref qm_keptName, .ref qm_isKept, .ref qm_onces, .int qm_snapMany, .ref qm_order, .ref qm_ordered, .int qm_orderMany, .int qm_orderMost, .int qm_passing, .int qm_movedWho, .int qm_scratched, .ref qm_text, .int qm_texts, .int qm_seed, .ref qm_line, .ref qm_written, .int qm_lineMany, .int qm_hasWritten, .ref qm_node, .int qm_nodes, .int qm_onesMany, .int qm_within, .int qm_top])), (qm_tape, eI G 940 qm_tape_c)]) C hw iwX11 tyX11_ok nmX11 10 rfl 0 rfl 12 (by decide) kw1205 rfl rfl rfl (Nat.le_of_ble_eq_true rfl) rfl dX11_go_304 (fun H locs hw => ?_)
                          exact J1530 v1554  (fun _ => ⟨v1552, by omega, by rw [hv1554, hv1553, hv1551]⟩) _ _ _ hw (lv_sub hl [0, 1, 2, 3] rfl)
                      have J1504 : (j1408.toInt = 0 ∨ ¬ (97 ≤ b j1409.toInt ∧ b j1409.toInt ≤ 122)) → ∀ (H : Heap) (locs : List Loc) (ls : Array Slot), Wd G s A [(qm, .inr (10, [.int qm_thrown, .ref qm_tape, .int qm_taped, .int qm_size, .int qm_limit, .int j1409, .int j9, .int qm_kind, .int j1410, .int qm_sign, .int qm_fault, .int qm_place, .long j1411, .int qm_told, .ref qm_now, .ref qm_read, .ref qm_kept, .ref qm_snaps, .ref qm_aside, .ref qm_name, .ref qm_readName, .ref qm_keptName, .ref qm_isKept, .ref qm_onces, .int qm_snapMany, .ref qm_order, .ref qm_ordered, .int qm_orderMany, .int qm_orderMost, .int qm_passing, .int qm_movedWho, .int qm_scratched, .ref qm_text, .int qm_texts, .int qm_seed, .ref qm_line, .ref qm_written, .int qm_lineMany, .int qm_hasWritten, .ref qm_node, .int qm_nodes, .int qm_onesMany, .int qm_within, .int qm_top])), (qm_tape, eI G 940 qm_tape_c)] H locs → lv_has ls 5 [(4, .int v1499), (2, .int 1), (0, .ref qm)] → W p l e (rmD 1 0 0) s m args below meth c H locs 0 0 Q (F0 m 271 ls []) := by
                        intro  hJ1504_0 H locs ls hw hl
                        refine lv_iconst (v := 0) C.1 C.2.1 dX11_go_271 (by decide) ?_
                        exact J1506 0  (by decide) (by have e0 : (0 : Int32).toInt = 0 := rfl; first | assumption | omega) _ _ _ hw (lv_sub hl [0, 1, 2] rfl)
                      refine lv_if_eq (tgt := 271) C.1 C.2.1 dX11_go_255 (by decide) (fun c1500 => ?_) (fun c1500 => ?_)
                      · skip
                        have c1500 : j1408.toInt = 0 := i_eqT (X := j1408.toInt) (Y := 0) rfl rfl c1500
                        exact J1504   (by first | assumption | omega) _ _ _ hw (lv_sub hl [0, 2, 3] rfl)
                      · skip
                        have c1500 : j1408.toInt ≠ 0 := i_eqF (X := j1408.toInt) (Y := 0) rfl rfl c1500
                        refine lv_iload C.1 C.2.1 dX11_go_258 (lv_at hl 0 rfl) ?_
                        refine x_calliS (As := [.int v1499]) (rest := []) (wr := [(qm, .inr (10, [.int qm_thrown, .ref qm_tape, .int qm_taped, .int qm_size, .int qm_limit, .int j1409, .int j9, .int qm_kind, .int j1410, .int qm_sign, .int qm_fault, .int qm_place, .long j1411, .int qm_told, .ref qm_now, .ref qm_read, .ref qm_kept, .ref qm_snaps, .ref qm_aside, .ref qm_name, .ref qm_readName, .ref qm_keptName, .ref qm_isKept, .ref qm_onces, .int qm_snapMany, .ref qm_order, .ref qm_ordered, .int qm_orderMany, .int qm_orderMost, .int qm_passing, .int qm_movedWho, .int qm_scratched, .ref qm_text, .int qm_texts, .int qm_seed, .ref qm_line, .ref qm_written, .int qm_lineMany, .int qm_hasWritten, .ref qm_node, .int qm_nodes, .int qm_onesMany, .int qm_within, .int qm_top])), (qm_tape, eI G 940 qm_tape_c)]) C hw (e_X11_isLetter v1499) mwX11_isLetter kw1343 [] [0, 1] rfl rfl rfl rfl (by decide) rfl hl.1 rfl (Nat.le_of_ble_eq_true rfl) ⟨(Nat.le_of_ble_eq_true rfl), (Nat.le_of_ble_eq_true rfl)⟩ ⟨(Nat.le_of_ble_eq_true rfl), (Nat.le_of_ble_eq_true rfl)⟩ dX11_go_260 (fun r1555 u9 H locs hp9 hw => ?_)
                        rcases hp9 with ⟨rfl, rfl, hf1556⟩ | ⟨rfl, rfl, hf1557⟩
                        · skip
                          have hw : Wd G s A [(qm, .inr (10, [.int qm_thrown, .ref qm_tape, .int qm_taped, .int qm_size, .int qm_limit, .int j1409, .int j9, .int qm_kind, .int j1410, .int qm_sign, .int qm_fault, .int qm_place, .long j1411, .int qm_told, .ref qm_now, .ref qm_read, .ref qm_kept, .ref qm_snaps, .ref qm_aside, .ref qm_name, .ref qm_readName, .ref qm_keptName, .ref qm_isKept, .ref qm_onces, .int qm_snapMany, .ref qm_order, .ref qm_ordered, .int qm_orderMany, .int qm_orderMost, .int qm_passing, .int qm_movedWho, .int qm_scratched, .ref qm_text, .int qm_texts, .int qm_seed, .ref qm_line, .ref qm_written, .int qm_lineMany, .int qm_hasWritten, .ref qm_node, .int qm_nodes, .int qm_onesMany, .int qm_within, .int qm_top])), (qm_tape, eI G 940 qm_tape_c)] H _ := hw
                          refine lv_iload_n C.1 C.2.1 dX11_go_263 rfl (lv_at hl 2 rfl) ?_
                          refine lv_icmp_ne (tgt := 271) C.1 C.2.1 dX11_go_264 (by decide) (fun _ => ?_) (fun h9 => absurd h9 (by decide))
                          exact J1504   (by first | assumption | omega) _ _ _ hw (lv_sub hl [0, 2, 3] rfl)
                        · skip
                          have hw : Wd G s A [(qm, .inr (10, [.int qm_thrown, .ref qm_tape, .int qm_taped, .int qm_size, .int qm_limit, .int j1409, .int j9, .int qm_kind, .int j1410, .int qm_sign, .int qm_fault, .int qm_place, .long j1411, .int qm_told, .ref qm_now, .ref qm_read, .ref qm_kept, .ref qm_snaps, .ref qm_aside, .ref qm_name, .ref qm_readName, .ref qm_keptName, .ref qm_isKept, .ref qm_onces, .int qm_snapMany, .ref qm_order, .ref qm_ordered, .int qm_orderMany, .int qm_orderMost, .int qm_passing, .int qm_movedWho, .int qm_scratched, .ref qm_text, .int qm_texts, .int qm_seed, .ref qm_line, .ref qm_written, .int qm_lineMany, .int qm_hasWritten, .ref qm_node, .int qm_nodes, .int qm_onesMany, .int qm_within, .int qm_top])), (qm_tape, eI G 940 qm_tape_c)] H _ := hw
                          refine lv_iload_n C.1 C.2.1 dX11_go_263 rfl (lv_at hl 2 rfl) ?_
                          refine lv_icmp_ne (tgt := 271) C.1 C.2.1 dX11_go_264 (by decide) (fun h9 => absurd (by decide) h9) (fun _ => ?_)
                          refine lv_iconst (v := 1) C.1 C.2.1 dX11_go_267 (by decide) ?_
                          refine lv_goto (tgt := 272) C.1 C.2.1 dX11_go_268 (by decide) ?_
                          exact J1506 1  (by decide) (by have e0 : (1 : Int32).toInt = 1 := rfl; first | assumption | omega) _ _ _ hw (lv_sub hl [0, 2, 3] rfl)
                    rcases hp9 with ⟨rfl, rfl, hf1462⟩ | ⟨rfl, rfl, hf1463⟩
                    · skip
                      have hw : Wd G s A [(qm, .inr (10, [.int qm_thrown, .ref qm_tape, .int qm_taped, .int qm_size, .int qm_limit, .int j1409, .int j9, .int qm_kind, .int j1410, .int qm_sign, .int qm_fault, .int qm_place, .long j1411, .int qm_told, .ref qm_now, .ref qm_read, .ref qm_kept, .ref qm_snaps, .ref qm_aside, .ref qm_name, .ref qm_readName, .ref qm_keptName, .ref qm_isKept, .ref qm_onces, .int qm_snapMany, .ref qm_order, .ref qm_ordered, .int qm_orderMany, .int qm_orderMost, .int qm_passing, .int qm_movedWho, .int qm_scratched, .ref qm_text, .int qm_texts, .int qm_seed, .ref qm_line, .ref qm_written, .int qm_lineMany, .int qm_hasWritten, .ref qm_node, .int qm_nodes, .int qm_onesMany, .int qm_within, .int qm_top])), (qm_tape, eI G 940 qm_tape_c)] H _ := hw
                      refine lv_if_ne (tgt := 243) C.1 C.2.1 dX11_go_226 (by decide) (fun h9 => absurd (by decide) h9) (fun _ => ?_)
                      refine lv_aload_n C.1 C.2.1 dX11_go_229 rfl (lv_at hl 2 rfl) ?_
                      refine lv_aload_n C.1 C.2.1 dX11_go_230 rfl (lv_at hl 2 rfl) ?_
                      refine x_get C hw iwX11 10 rfl 0 rfl 5 (by decide) kw1198 rfl dX11_go_231 ?_
                      refine x_calliV (As := [.int j1409]) (rest := []) (wr := []) C hw (e_X11_tapeAt qm j1409 qm_thrown qm_tape qm_taped qm_size qm_limit j1409 j9 qm_kind j1410 qm_sign qm_fault qm_place j1411 qm_told qm_now qm_read qm_kept qm_snaps qm_aside qm_name qm_readName qm_keptName qm_isKept qm_onces qm_snapMany qm_order qm_ordered qm_orderMany qm_orderMost qm_passing qm_movedWho qm_scratched qm_text qm_texts qm_seed qm_line qm_written qm_lineMany qm_hasWritten qm_node qm_nodes qm_onesMany qm_within qm_top qm_tape_c b (by omega) (by omega) hr_0) mwX11_tapeAt kw1349 [0, 1] [] rfl rfl rfl rfl (by decide) 0 rfl rfl rfl rfl hl.1 rfl (Nat.le_of_ble_eq_true rfl) ⟨(Nat.le_of_ble_eq_true rfl), (Nat.le_of_ble_eq_true rfl)⟩ ⟨(Nat.le_of_ble_eq_true rfl), (Nat.le_of_ble_eq_true rfl)⟩ dX11_go_234 (fun r1558 u9 H locs hp9 hw => ?_)
                      obtain ⟨x1559, rfl, rfl, hf1560, hf1561⟩ := hp9
                      have hw : Wd G s A [(qm, .inr (10, [.int qm_thrown, .ref qm_tape, .int qm_taped, .int qm_size, .int qm_limit, .int j1409, .int j9, .int qm_kind, .int j1410, .int qm_sign, .int qm_fault, .int qm_place, .long j1411, .int qm_told, .ref qm_now, .ref qm_read, .ref qm_kept, .ref qm_snaps, .ref qm_aside, .ref qm_name, .ref qm_readName, .ref qm_keptName, .ref qm_isKept, .ref qm_onces, .int qm_snapMany, .ref qm_order, .ref qm_ordered, .int qm_orderMany, .int qm_orderMost, .int qm_passing, .int qm_movedWho, .int qm_scratched, .ref qm_text, .int qm_texts, .int qm_seed, .ref qm_line, .ref qm_written, .int qm_lineMany, .int qm_hasWritten, .ref qm_node, .int qm_nodes, .int qm_onesMany, .int qm_within, .int qm_top])), (qm_tape, eI G 940 qm_tape_c)] H _ := hw
                      refine x_calliS (As := [.int r1558]) (rest := []) (wr := [(qm, .inr (10, [.int qm_thrown, .ref qm_tape, .int qm_taped, .int qm_size, .int qm_limit, .int j1409, .int j9, .int qm_kind, .int j1410, .int qm_sign, .int qm_fault, .int qm_place, .long j1411, .int qm_told, .ref qm_now, .ref qm_read, .ref qm_kept, .ref qm_snaps, .ref qm_aside, .ref qm_name, .ref qm_readName, .ref qm_keptName, .ref qm_isKept, .ref qm_onces, .int qm_snapMany, .ref qm_order, .ref qm_ordered, .int qm_orderMany, .int qm_orderMost, .int qm_passing, .int qm_movedWho, .int qm_scratched, .ref qm_text, .int qm_texts, .int qm_seed, .ref qm_line, .ref qm_written, .int qm_lineMany, .int qm_hasWritten, .ref qm_node, .int qm_nodes, .int qm_onesMany, .int qm_within, .int qm_top])), (qm_tape, eI G 940 qm_tape_c)]) C hw (e_X11_isDigit r1558) mwX11_isDigit kw1346 [] [0, 1] rfl rfl rfl rfl (by decide) rfl hl.1 rfl (Nat.le_of_ble_eq_true rfl) ⟨(Nat.le_of_ble_eq_true rfl), (Nat.le_of_ble_eq_true rfl)⟩ ⟨(Nat.le_of_ble_eq_true rfl), (Nat.le_of_ble_eq_true rfl)⟩ dX11_go_237 (fun r1562 u9 H locs hp9 hw => ?_)
                      rcases hp9 with ⟨rfl, rfl, hf1563⟩ | ⟨rfl, rfl, hf1564⟩
                      · skip
                        have hw : Wd G s A [(qm, .inr (10, [.int qm_thrown, .ref qm_tape, .int qm_taped, .int qm_size, .int qm_limit, .int j1409, .int j9, .int qm_kind, .int j1410, .int qm_sign, .int qm_fault, .int qm_place, .long j1411, .int qm_told, .ref qm_now, .ref qm_read, .ref qm_kept, .ref qm_snaps, .ref qm_aside, .ref qm_name, .ref qm_readName, .ref qm_keptName, .ref qm_isKept, .ref qm_onces, .int qm_snapMany, .ref qm_order, .ref qm_ordered, .int qm_orderMany, .int qm_orderMost, .int qm_passing, .int qm_movedWho, .int qm_scratched, .ref qm_text, .int qm_texts, .int qm_seed, .ref qm_line, .ref qm_written, .int qm_lineMany, .int qm_hasWritten, .ref qm_node, .int qm_nodes, .int qm_onesMany, .int qm_within, .int qm_top])), (qm_tape, eI G 940 qm_tape_c)] H _ := hw
                        refine lv_if_eq (tgt := 350) C.1 C.2.1 dX11_go_240 (by decide) (fun _ => ?_) (fun h9 => absurd (by decide) h9)
                        obtain ⟨hX, hP, hKa, hKb⟩ := goI1_e (m := qm_limit.toInt) (show goI1 b qm_size.toInt j9.toInt j1409.toInt j1408 j1411 j1410 by assumption) hS (by omega) (by first | assumption | omega) (by omega) (fun h9 => by omega)
                        refine lv_aload_n C.1 C.2.1 dX11_go_350 rfl (lv_at hl 2 rfl) ?_
                        refine lv_iload_n C.1 C.2.1 dX11_go_351 rfl (lv_at hl 0 rfl) ?_
                        refine lv_if_eq (tgt := 377) C.1 C.2.1 dX11_go_352 (by decide) (fun c1565 => ?_) (fun c1565 => ?_)
                        · skip
                          have c1565 : j1408.toInt = 0 := i_eqT (X := j1408.toInt) (Y := 0) rfl rfl c1565
                          refine lv_iconst (v := 1) C.1 C.2.1 dX11_go_377 (by decide) ?_
                          refine lv_goto (tgt := 390) C.1 C.2.1 dX11_go_378 (by decide) ?_
                          refine x_put (w' := [(qm, .inr (10, [.int qm_thrown, .ref qm_tape, .int qm_taped, .int qm_size, .int qm_limit, .int j1409, .int j9, .int 1, .int j1410, .int qm_sign, .int qm_fault, .int qm_place, .long j1411, .int qm_told, .ref qm_now, .ref qm_read, .ref qm_kept, .ref qm_snaps, .ref qm_aside, .ref qm_name, .ref qm_readName, .ref qm_keptName, .ref qm_isKept, .ref qm_onces, .int qm_snapMany, .ref qm_order, .ref qm_ordered, .int qm_orderMany, .int qm_orderMost, .int qm_passing, .int qm_movedWho, .int qm_scratched, .ref qm_text, .int qm_texts, .int qm_seed, .ref qm_line, .ref qm_written, .int qm_lineMany, .int qm_hasWritten, .ref qm_node, .int qm_nodes, .int qm_onesMany, .int qm_within, .int qm_top])), (qm_tape, eI G 940 qm_tape_c)]) C hw iwX11 tyX11_ok nmX11 10 rfl 0 rfl 7 (by decide) kw1200 rfl rfl rfl (Nat.le_of_ble_eq_true rfl) rfl dX11_go_390 (fun H locs hw => ?_)
                          have hK : tkK b qm_size.toInt qm_limit.toInt qm_to.toInt = 1 := hKb (by omega)
                          exact x_retvQ hQ B hw ⟨j1409, j9, 1, j1410, qm_sign, j1411, rfl, (by omega), (by omega), (by decide), (by have e0 : (1 : Int32).toInt = 1 := rfl; first | omega), (by have e0 : (1 : Int32).toInt = 1 := rfl; first | omega), (by have e0 : (1 : Int32).toInt = 1 := rfl; first | omega), ⟨fun h9 => by omega, fun h9 => by omega, fun h9 => by omega⟩⟩ (Nat.le_of_ble_eq_true rfl) (Nat.le_of_ble_eq_true rfl) dX11_go_393
                        · skip
                          have c1565 : j1408.toInt ≠ 0 := i_eqF (X := j1408.toInt) (Y := 0) rfl rfl c1565
                          refine lv_aload_n C.1 C.2.1 dX11_go_355 rfl (lv_at hl 2 rfl) ?_
                          refine x_get C hw iwX11 10 rfl 0 rfl 5 (by decide) kw1198 rfl dX11_go_356 ?_
                          refine lv_aload_n C.1 C.2.1 dX11_go_359 rfl (lv_at hl 2 rfl) ?_
                          refine x_get C hw iwX11 10 rfl 0 rfl 6 (by decide) kw1199 rfl dX11_go_360 ?_
                          refine lv_isub C.1 C.2.1 dX11_go_363 (x_genP (fun z : Int32 => z.toInt = j1409.toInt - j9.toInt) (i_sub (X := j1409.toInt) (Y := j9.toInt) rfl rfl (by omega) (by omega)) (fun v1566 hv1566 => ?_))
                          refine lv_iload_n C.1 C.2.1 dX11_go_364 rfl (lv_at hl 1 rfl) ?_
                          refine lv_if_eq (tgt := 373) C.1 C.2.1 dX11_go_365 (by decide) (fun h9 => absurd h9 (by decide)) (fun _ => ?_)
                          refine lv_bipush (v := 7) C.1 C.2.1 dX11_go_368 (by decide) ?_
                          refine lv_goto (tgt := 374) C.1 C.2.1 dX11_go_370 (by decide) ?_
                          refine lv_icmp_le (tgt := 381) C.1 C.2.1 dX11_go_374 (by decide) (fun c1567 => ?_) (fun c1567 => ?_)
                          · skip
                            have c1567 : v1566.toInt ≤ 7 := i_leT (X := v1566.toInt) (Y := 7) rfl rfl c1567
                            refine lv_iload_n C.1 C.2.1 dX11_go_381 rfl (lv_at hl 1 rfl) ?_
                            refine lv_if_eq (tgt := 389) C.1 C.2.1 dX11_go_382 (by decide) (fun h9 => absurd h9 (by decide)) (fun _ => ?_)
                            refine lv_iconst (v := 2) C.1 C.2.1 dX11_go_385 (by decide) ?_
                            refine lv_goto (tgt := 390) C.1 C.2.1 dX11_go_386 (by decide) ?_
                            refine x_put (w' := [(qm, .inr (10, [.int qm_thrown, .ref qm_tape, .int qm_taped, .int qm_size, .int qm_limit, .int j1409, .int j9, .int 2, .int j1410, .int qm_sign, .int qm_fault, .int qm_place, .long j1411, .int qm_told, .ref qm_now, .ref qm_read, .ref qm_kept, .ref qm_snaps, .ref qm_aside, .ref qm_name, .ref qm_readName, .ref qm_keptName, .ref qm_isKept, .ref qm_onces, .int qm_snapMany, .ref qm_order, .ref qm_ordered, .int qm_orderMany, .int qm_orderMost, .int qm_passing, .int qm_movedWho, .int qm_scratched, .ref qm_text, .int qm_texts, .int qm_seed, .ref qm_line, .ref qm_written, .int qm_lineMany, .int qm_hasWritten, .ref qm_node, .int qm_nodes, .int qm_onesMany, .int qm_within, .int qm_top])), (qm_tape, eI G 940 qm_tape_c)]) C hw iwX11 tyX11_ok nmX11 10 rfl 0 rfl 7 (by decide) kw1200 rfl rfl rfl (Nat.le_of_ble_eq_true rfl) rfl dX11_go_390 (fun H locs hw => ?_)
                            obtain ⟨hK, hVl⟩ := hKa (by omega) (by omega)
                            exact x_retvQ hQ B hw ⟨j1409, j9, 2, j1410, qm_sign, j1411, rfl, (by omega), (by omega), (by decide), (by have e0 : (2 : Int32).toInt = 2 := rfl; first | omega), (by have e0 : (2 : Int32).toInt = 2 := rfl; first | omega), (by have e0 : (2 : Int32).toInt = 2 := rfl; first | omega), ⟨fun h9 => by omega, fun h9 => by omega, fun h9 => by omega⟩⟩ (Nat.le_of_ble_eq_true rfl) (Nat.le_of_ble_eq_true rfl) dX11_go_393
                          · skip
                            have c1567 : 7 < v1566.toInt := i_leF (X := v1566.toInt) (Y := 7) rfl rfl c1567
                            refine lv_iconst (v := 1) C.1 C.2.1 dX11_go_377 (by decide) ?_
                            refine lv_goto (tgt := 390) C.1 C.2.1 dX11_go_378 (by decide) ?_
                            refine x_put (w' := [(qm, .inr (10, [.int qm_thrown, .ref qm_tape, .int qm_taped, .int qm_size, .int qm_limit, .int j1409, .int j9, .int 1, .int j1410, .int qm_sign, .int qm_fault, .int qm_place, .long j1411, .int qm_told, .ref qm_now, .ref qm_read, .ref qm_kept, .ref qm_snaps, .ref qm_aside, .ref qm_name, .ref qm_readName, .ref qm_keptName, .ref qm_isKept, .ref qm_onces, .int qm_snapMany, .ref qm_order, .ref qm_ordered, .int qm_orderMany, .int qm_orderMost, .int qm_passing, .int qm_movedWho, .int qm_scratched, .ref qm_text, .int qm_texts, .int qm_seed, .ref qm_line, .ref qm_written, .int qm_lineMany, .int qm_hasWritten, .ref qm_node, .int qm_nodes, .int qm_onesMany, .int qm_within, .int qm_top])), (qm_tape, eI G 940 qm_tape_c)]) C hw iwX11 tyX11_ok nmX11 10 rfl 0 rfl 7 (by decide) kw1200 rfl rfl rfl (Nat.le_of_ble_eq_true rfl) rfl dX11_go_390 (fun H locs hw => ?_)
                            have hK : tkK b qm_size.toInt qm_limit.toInt qm_to.toInt = 1 := hKb (by omega)
                            exact x_retvQ hQ B hw ⟨j1409, j9, 1, j1410, qm_sign, j1411, rfl, (by omega), (by omega), (by decide), (by have e0 : (1 : Int32).toInt = 1 := rfl; first | omega), (by have e0 : (1 : Int32).toInt = 1 := rfl; first | omega), (by have e0 : (1 : Int32).toInt = 1 := rfl; first | omega), ⟨fun h9 => by omega, fun h9 => by omega, fun h9 => by omega⟩⟩ (Nat.le_of_ble_eq_true rfl) (Nat.le_of_ble_eq_true rfl) dX11_go_393
                      · skip
                        have hw : Wd G s A [(qm, .inr (10, [.int qm_thrown, .ref qm_tape, .int qm_taped, .int qm_size, .int qm_limit, .int j1409, .int j9, .int qm_kind, .int j1410, .int qm_sign, .int qm_fault, .int qm_place, .long j1411, .int qm_told, .ref qm_now, .ref qm_read, .ref qm_kept, .ref qm_snaps, .ref qm_aside, .ref qm_name, .ref qm_readName, .ref qm_keptName, .ref qm_isKept, .ref qm_onces, .int qm_snapMany, .ref qm_order, .ref qm_ordered, .int qm_orderMany, .int qm_orderMost, .int qm_passing, .int qm_movedWho, .int qm_scratched, .ref qm_text, .int qm_texts, .int qm_seed, .ref qm_line, .ref qm_written, .int qm_lineMany, .int qm_hasWritten, .ref qm_node, .int qm_nodes, .int qm_onesMany, .int qm_within, .int qm_top])), (qm_tape, eI G 940 qm_tape_c)] H _ := hw
                        refine lv_if_eq (tgt := 350) C.1 C.2.1 dX11_go_240 (by decide) (fun h9 => absurd h9 (by decide)) (fun _ => ?_)
                        exact J1474   (by first | assumption | omega) (by first | assumption | omega) _ _ _ hw (lv_sub hl [0, 1, 2] rfl)
                    · skip
                      have hw : Wd G s A [(qm, .inr (10, [.int qm_thrown, .ref qm_tape, .int qm_taped, .int qm_size, .int qm_limit, .int j1409, .int j9, .int qm_kind, .int j1410, .int qm_sign, .int qm_fault, .int qm_place, .long j1411, .int qm_told, .ref qm_now, .ref qm_read, .ref qm_kept, .ref qm_snaps, .ref qm_aside, .ref qm_name, .ref qm_readName, .ref qm_keptName, .ref qm_isKept, .ref qm_onces, .int qm_snapMany, .ref qm_order, .ref qm_ordered, .int qm_orderMany, .int qm_orderMost, .int qm_passing, .int qm_movedWho, .int qm_scratched, .ref qm_text, .int qm_texts, .int qm_seed, .ref qm_line, .ref qm_written, .int qm_lineMany, .int qm_hasWritten, .ref qm_node, .int qm_nodes, .int qm_onesMany, .int qm_within, .int qm_top])), (qm_tape, eI G 940 qm_tape_c)] H _ := hw
                      refine lv_if_ne (tgt := 243) C.1 C.2.1 dX11_go_226 (by decide) (fun _ => ?_) (fun h9 => absurd h9 (by decide))
                      exact J1474   (by first | assumption | omega) (by first | assumption | omega) _ _ _ hw (lv_sub hl [0, 1, 2] rfl)
                exact loopJ1412 _ 1 j9 0 0 (Nat.lt_succ_self _) (by decide) (by omega) (goI1_0 (by omega)) _ _ _ hw (lv_sub hl [0, 1, 3] rfl)
          · skip
            have c914 : qm_size.toInt ≤ j9.toInt := i_ltF (X := j9.toInt) (Y := qm_size.toInt) rfl rfl c914
            refine lv_aload_n C.1 C.2.1 dX11_go_107 rfl (lv_at hl 0 rfl) ?_
            refine lv_iconst (v := 0) C.1 C.2.1 dX11_go_108 (by decide) ?_
            refine x_put (w' := [(qm, .inr (10, [.int qm_thrown, .ref qm_tape, .int qm_taped, .int qm_size, .int qm_limit, .int j9, .int j9, .int 0, .int qm_number, .int qm_sign, .int qm_fault, .int qm_place, .long qm_word, .int qm_told, .ref qm_now, .ref qm_read, .ref qm_kept, .ref qm_snaps, .ref qm_aside, .ref qm_name, .ref qm_readName, .ref qm_keptName, .ref qm_isKept, .ref qm_onces, .int qm_snapMany, .ref qm_order, .ref qm_ordered, .int qm_orderMany, .int qm_orderMost, .int qm_passing, .int qm_movedWho, .int qm_scratched, .ref qm_text, .int qm_texts, .int qm_seed, .ref qm_line, .ref qm_written, .int qm_lineMany, .int qm_hasWritten, .ref qm_node, .int qm_nodes, .int qm_onesMany, .int qm_within, .int qm_top])), (qm_tape, eI G 940 qm_tape_c)]) C hw iwX11 tyX11_ok nmX11 10 rfl 0 rfl 7 (by decide) kw1200 rfl rfl rfl (Nat.le_of_ble_eq_true rfl) rfl dX11_go_109 (fun H locs hw => ?_)
            have hK : tkK b qm_size.toInt qm_limit.toInt qm_to.toInt = 0 := by unfold tkK; rw [hS]; rw [if_neg (by omega), if_pos (by omega)]
            have hX : tkX b qm_size.toInt qm_limit.toInt qm_to.toInt = j9.toInt := by unfold tkX; rw [hS]; rw [if_neg (by omega), if_pos (by omega)]; all_goals (first | rfl | omega)
            have hP : tkP b qm_size.toInt qm_limit.toInt qm_to.toInt = j9.toInt := by unfold tkP; rw [hS]; rw [if_neg (by omega)]; all_goals (first | rfl | omega)
            exact x_retvQ hQ B hw ⟨j9, j9, 0, qm_number, qm_sign, qm_word, rfl, (by omega), (by omega), (by decide), (by have e0 : (0 : Int32).toInt = 0 := rfl; first | omega), (by have e0 : (0 : Int32).toInt = 0 := rfl; first | omega), (by have e0 : (0 : Int32).toInt = 0 := rfl; first | omega), ⟨fun h9 => by omega, fun h9 => by omega, fun h9 => by omega⟩⟩ (Nat.le_of_ble_eq_true rfl) (Nat.le_of_ble_eq_true rfl) dX11_go_112
        refine lv_icmp_le (tgt := 96) C.1 C.2.1 dX11_go_68 (by decide) (fun c471 => ?_) (fun c471 => ?_)
        · skip
          have c471 : qm_size.toInt ≤ qm_limit.toInt := i_leT (X := qm_size.toInt) (Y := qm_limit.toInt) rfl rfl c471
          exact J473   (by first | assumption | omega) _ _ _ hw (lv_sub hl [0] rfl)
        · skip
          have c471 : qm_limit.toInt < qm_size.toInt := i_leF (X := qm_size.toInt) (Y := qm_limit.toInt) rfl rfl c471
          refine lv_aload_n C.1 C.2.1 dX11_go_71 rfl (lv_at hl 0 rfl) ?_
          refine x_get C hw iwX11 10 rfl 0 rfl 6 (by decide) kw1199 rfl dX11_go_72 ?_
          refine lv_aload_n C.1 C.2.1 dX11_go_75 rfl (lv_at hl 0 rfl) ?_
          refine x_get C hw iwX11 10 rfl 0 rfl 4 (by decide) kw1197 rfl dX11_go_76 ?_
          refine lv_icmp_lt (tgt := 96) C.1 C.2.1 dX11_go_79 (by decide) (fun c1568 => ?_) (fun c1568 => ?_)
          · skip
            have c1568 : j9.toInt < qm_limit.toInt := i_ltT (X := j9.toInt) (Y := qm_limit.toInt) rfl rfl c1568
            exact J473   (by first | assumption | omega) _ _ _ hw (lv_sub hl [0] rfl)
          · skip
            have c1568 : qm_limit.toInt ≤ j9.toInt := i_ltF (X := j9.toInt) (Y := qm_limit.toInt) rfl rfl c1568
            refine lv_aload_n C.1 C.2.1 dX11_go_82 rfl (lv_at hl 0 rfl) ?_
            refine lv_aload_n C.1 C.2.1 dX11_go_83 rfl (lv_at hl 0 rfl) ?_
            refine x_get C hw iwX11 10 rfl 0 rfl 4 (by decide) kw1197 rfl dX11_go_84 ?_
            refine x_put (w' := [(qm, .inr (10, [.int qm_thrown, .ref qm_tape, .int qm_taped, .int qm_size, .int qm_limit, .int j9, .int qm_limit, .int qm_kind, .int qm_number, .int qm_sign, .int qm_fault, .int qm_place, .long qm_word, .int qm_told, .ref qm_now, .ref qm_read, .ref qm_kept, .ref qm_snaps, .ref qm_aside, .ref qm_name, .ref qm_readName, .ref qm_keptName, .ref qm_isKept, .ref qm_onces, .int qm_snapMany, .ref qm_order, .ref qm_ordered, .int qm_orderMany, .int qm_orderMost, .int qm_passing, .int qm_movedWho, .int qm_scratched, .ref qm_text, .int qm_texts, .int qm_seed, .ref qm_line, .ref qm_written, .int qm_lineMany, .int qm_hasWritten, .ref qm_node, .int qm_nodes, .int qm_onesMany, .int qm_within, .int qm_top])), (qm_tape, eI G 940 qm_tape_c)]) C hw iwX11 tyX11_ok nmX11 10 rfl 0 rfl 6 (by decide) kw1199 rfl rfl rfl (Nat.le_of_ble_eq_true rfl) rfl dX11_go_87 (fun H locs hw => ?_)
            refine lv_aload_n C.1 C.2.1 dX11_go_90 rfl (lv_at hl 0 rfl) ?_
            refine lv_iconst (v := 1) C.1 C.2.1 dX11_go_91 (by decide) ?_
            refine x_put (w' := [(qm, .inr (10, [.int qm_thrown, .ref qm_tape, .int qm_taped, .int qm_size, .int qm_limit, .int j9, .int qm_limit, .int 1, .int qm_number, .int qm_sign, .int qm_fault, .int qm_place, .long qm_word, .int qm_told, .ref qm_now, .ref qm_read, .ref qm_kept, .ref qm_snaps, .ref qm_aside, .ref qm_name, .ref qm_readName, .ref qm_keptName, .ref qm_isKept, .ref qm_onces, .int qm_snapMany, .ref qm_order, .ref qm_ordered, .int qm_orderMany, .int qm_orderMost, .int qm_passing, .int qm_movedWho, .int qm_scratched, .ref qm_text, .int qm_texts, .int qm_seed, .ref qm_line, .ref qm_written, .int qm_lineMany, .int qm_hasWritten, .ref qm_node, .int qm_nodes, .int qm_onesMany, .int qm_within, .int qm_top])), (qm_tape, eI G 940 qm_tape_c)]) C hw iwX11 tyX11_ok nmX11 10 rfl 0 rfl 7 (by decide) kw1200 rfl rfl rfl (Nat.le_of_ble_eq_true rfl) rfl dX11_go_92 (fun H locs hw => ?_)
            have hK : tkK b qm_size.toInt qm_limit.toInt qm_to.toInt = 1 := by unfold tkK; rw [hS]; rw [if_pos (by omega)]
            have hX : tkX b qm_size.toInt qm_limit.toInt qm_to.toInt = j9.toInt := by unfold tkX; rw [hS]; rw [if_pos (by omega)]; all_goals (first | rfl | omega)
            have hP : tkP b qm_size.toInt qm_limit.toInt qm_to.toInt = qm_limit.toInt := by unfold tkP; rw [hS]; rw [if_pos (by omega)]; all_goals (first | rfl | omega)
            exact x_retvQ hQ B hw ⟨j9, qm_limit, 1, qm_number, qm_sign, qm_word, rfl, (by omega), (by omega), (by decide), (by have e0 : (1 : Int32).toInt = 1 := rfl; first | omega), (by have e0 : (1 : Int32).toInt = 1 := rfl; first | omega), (by have e0 : (1 : Int32).toInt = 1 := rfl; first | omega), ⟨fun h9 => by omega, fun h9 => by omega, fun h9 => by omega⟩⟩ (Nat.le_of_ble_eq_true rfl) (Nat.le_of_ble_eq_true rfl) dX11_go_95
      refine lv_icmp_ge (tgt := 52) C.1 C.2.1 dX11_go_8 (by decide) (fun c20 => ?_) (fun c20 => ?_)
      · skip
        have c20 : qm_size.toInt ≤ j9.toInt := i_leT (X := qm_size.toInt) (Y := j9.toInt) rfl rfl c20
        exact J27   (by first | assumption | omega | (exact (show sc (blB b) qm_size.toInt j9.toInt = sc (blB b) qm_size.toInt qm_to.toInt by assumption).symm.trans (sc_stop (fun h9 => blB_f (by omega))))) _ _ _ hw (lv_sub hl [0] rfl)
      · skip
        have c20 : j9.toInt < qm_size.toInt := i_leF (X := qm_size.toInt) (Y := j9.toInt) rfl rfl c20
        refine lv_aload_n C.1 C.2.1 dX11_go_11 rfl (lv_at hl 0 rfl) ?_
        refine x_get C hw iwX11 10 rfl 0 rfl 1 (by decide) kw1194 rfl dX11_go_12 ?_
        refine lv_aload_n C.1 C.2.1 dX11_go_15 rfl (lv_at hl 0 rfl) ?_
        refine x_get C hw iwX11 10 rfl 0 rfl 5 (by decide) kw1198 rfl dX11_go_16 ?_
        refine x_iald (v := (qm_tape_c j9.toNatClampNeg)) C hw 1 rfl (i_in (by omega) (by omega)) rfl dX11_go_19 (x_genP (fun z : Int32 => (z.toInt = b j9.toInt) ∧ z = qm_tape_c (j9.toInt.toNat) ∧ z.toInt = (qm_tape_c (j9.toInt.toNat)).toInt) ⟨(hr_0 j9.toInt (by omega) (by omega)).symm, rfl, rfl⟩ (fun v1569 hv1569 => ?_))
        refine lv_bipush (v := 32) C.1 C.2.1 dX11_go_20 (by decide) ?_
        have J1573 : ((b j9.toInt = 32 ∨ b j9.toInt = 10) ∧ j9.toInt < qm_size.toInt) → ∀ (H : Heap) (locs : List Loc) (ls : Array Slot), Wd G s A [(qm, .inr (10, [.int qm_thrown, .ref qm_tape, .int qm_taped, .int qm_size, .int qm_limit, .int j9, .int qm_from, .int qm_kind, .int qm_number, .int qm_sign, .int qm_fault, .int qm_place, .long qm_word, .int qm_told, .ref qm_now, .ref qm_read, .ref qm_kept, .ref qm_snaps, .ref qm_aside, .ref qm_name, .ref qm_readName, .ref qm_keptName, .ref qm_isKept, .ref qm_onces, .int qm_snapMany, .ref qm_order, .ref qm_ordered, .int qm_orderMany, .int qm_orderMost, .int qm_passing, .int qm_movedWho, .int qm_scratched, .ref qm_text, .int qm_texts, .int qm_seed, .ref qm_line, .ref qm_written, .int qm_lineMany, .int qm_hasWritten, .ref qm_node, .int qm_nodes, .int qm_onesMany, .int qm_within, .int qm_top])), (qm_tape, eI G 940 qm_tape_c)] H locs → lv_has ls 5 [(0, .ref qm)] → W p l e (rmD 1 0 0) s m args below meth c H locs 0 0 Q (F0 m 39 ls []) := by
          intro  hJ1573_0 H locs ls hw hl
          refine lv_aload_n C.1 C.2.1 dX11_go_39 rfl (lv_at hl 0 rfl) ?_
          refine lv_dup C.1 C.2.1 dX11_go_40 rfl ?_
          refine x_get C hw iwX11 10 rfl 0 rfl 5 (by decide) kw1198 rfl dX11_go_41 ?_
          refine lv_iconst (v := 1) C.1 C.2.1 dX11_go_44 (by decide) ?_
          refine lv_iadd C.1 C.2.1 dX11_go_45 (x_genP (fun z : Int32 => z.toInt = j9.toInt + 1) (i_add (X := j9.toInt) (Y := 1) rfl rfl (by omega) (by omega)) (fun v1575 hv1575 => ?_))
          refine x_put (w' := [(qm, .inr (10, [.int qm_thrown, .ref qm_tape, .int qm_taped, .int qm_size, .int qm_limit, .int v1575, .int qm_from, .int qm_kind, .int qm_number, .int qm_sign, .int qm_fault, .int qm_place, .long qm_word, .int qm_told, .ref qm_now, .ref qm_read, .ref qm_kept, .ref qm_snaps, .ref qm_aside, .ref qm_name, .ref qm_readName, .ref qm_keptName, .ref qm_isKept, .ref qm_onces, .int qm_snapMany, .ref qm_order, .ref qm_ordered, .int qm_orderMany, .int qm_orderMost, .int qm_passing, .int qm_movedWho, .int qm_scratched, .ref qm_text, .int qm_texts, .int qm_seed, .ref qm_line, .ref qm_written, .int qm_lineMany, .int qm_hasWritten, .ref qm_node, .int qm_nodes, .int qm_onesMany, .int qm_within, .int qm_top])), (qm_tape, eI G 940 qm_tape_c)]) C hw iwX11 tyX11_ok nmX11 10 rfl 0 rfl 5 (by decide) kw1198 rfl rfl rfl (Nat.le_of_ble_eq_true rfl) rfl dX11_go_46 (fun H locs hw => ?_)
          refine lv_goto (tgt := 0) C.1 C.2.1 dX11_go_49 (by decide) ?_
          exact ihJ10 v1575 (by omega) (by omega) (by first | assumption | omega | (rfl) | (rw [hv1575, sc_step (by omega) (blB_t (by omega))]; assumption)) (by first | assumption | omega) _ _ _ hw (lv_sub hl [0] rfl)
        refine lv_icmp_eq (tgt := 39) C.1 C.2.1 dX11_go_22 (by decide) (fun c1570 => ?_) (fun c1570 => ?_)
        · skip
          have c1570 : v1569.toInt = 32 := i_eqT (X := v1569.toInt) (Y := 32) rfl rfl c1570
          have bc1570_v1569 := i_bd v1569
          exact J1573   (by first | assumption | omega) _ _ _ hw (lv_sub hl [0] rfl)
        · skip
          have c1570 : v1569.toInt ≠ 32 := i_eqF (X := v1569.toInt) (Y := 32) rfl rfl c1570
          have bc1570_v1569 := i_bd v1569
          refine lv_aload_n C.1 C.2.1 dX11_go_25 rfl (lv_at hl 0 rfl) ?_
          refine x_get C hw iwX11 10 rfl 0 rfl 1 (by decide) kw1194 rfl dX11_go_26 ?_
          refine lv_aload_n C.1 C.2.1 dX11_go_29 rfl (lv_at hl 0 rfl) ?_
          refine x_get C hw iwX11 10 rfl 0 rfl 5 (by decide) kw1198 rfl dX11_go_30 ?_
          refine x_iald (v := (qm_tape_c j9.toNatClampNeg)) C hw 1 rfl (i_in (by omega) (by omega)) rfl dX11_go_33 (x_genP (fun z : Int32 => (z.toInt = b j9.toInt) ∧ z = qm_tape_c (j9.toInt.toNat) ∧ z.toInt = (qm_tape_c (j9.toInt.toNat)).toInt) ⟨(hr_0 j9.toInt (by omega) (by omega)).symm, rfl, rfl⟩ (fun v1576 hv1576 => ?_))
          refine lv_bipush (v := 10) C.1 C.2.1 dX11_go_34 (by decide) ?_
          refine lv_icmp_ne (tgt := 52) C.1 C.2.1 dX11_go_36 (by decide) (fun c1577 => ?_) (fun c1577 => ?_)
          · skip
            have c1577 : v1576.toInt ≠ 10 := i_eqF (X := v1576.toInt) (Y := 10) rfl rfl c1577
            have bc1577_v1576 := i_bd v1576
            exact J27   (by first | assumption | omega | (exact (show sc (blB b) qm_size.toInt j9.toInt = sc (blB b) qm_size.toInt qm_to.toInt by assumption).symm.trans (sc_stop (fun h9 => blB_f (by omega))))) _ _ _ hw (lv_sub hl [0] rfl)
          · skip
            have c1577 : v1576.toInt = 10 := i_eqT (X := v1576.toInt) (Y := 10) rfl rfl c1577
            have bc1577_v1576 := i_bd v1576
            exact J1573   (by first | assumption | omega) _ _ _ hw (lv_sub hl [0] rfl)
  exact loopJ10 _ qm_to (Nat.lt_succ_self _) (by omega) (by first | assumption | omega | (rfl) | (rw [hqm_to, sc_step (by omega) (blB_t (by omega))]; assumption)) (by first | assumption | omega) _ _ _ hw (lv_sub hl [0] rfl)
