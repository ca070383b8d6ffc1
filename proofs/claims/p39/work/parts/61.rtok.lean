-- needs: 08 6
theorem dX11_go_0 : decode cX11_go 0 = .ok (.aload_n 0, 1) := by decide +kernel
theorem dX11_go_1 : decode cX11_go 1 = .ok (.getfield 21, 3) := by decide +kernel
theorem dX11_go_4 : decode cX11_go 4 = .ok (.aload_n 0, 1) := by decide +kernel
theorem dX11_go_5 : decode cX11_go 5 = .ok (.getfield 18, 3) := by decide +kernel
theorem dX11_go_8 : decode cX11_go 8 = .ok (.if_icmp .ge 44, 3) := by decide +kernel
theorem dX11_go_11 : decode cX11_go 11 = .ok (.aload_n 0, 1) := by decide +kernel
theorem dX11_go_12 : decode cX11_go 12 = .ok (.getfield 7, 3) := by decide +kernel
theorem dX11_go_15 : decode cX11_go 15 = .ok (.aload_n 0, 1) := by decide +kernel
theorem dX11_go_16 : decode cX11_go 16 = .ok (.getfield 21, 3) := by decide +kernel
theorem dX11_go_19 : decode cX11_go 19 = .ok (.iaload, 1) := by decide +kernel
theorem dX11_go_20 : decode cX11_go 20 = .ok (.bipush 32, 2) := by decide +kernel
theorem dX11_go_22 : decode cX11_go 22 = .ok (.if_icmp .eq 17, 3) := by decide +kernel
theorem dX11_go_25 : decode cX11_go 25 = .ok (.aload_n 0, 1) := by decide +kernel
theorem dX11_go_26 : decode cX11_go 26 = .ok (.getfield 7, 3) := by decide +kernel
theorem dX11_go_29 : decode cX11_go 29 = .ok (.aload_n 0, 1) := by decide +kernel
theorem dX11_go_30 : decode cX11_go 30 = .ok (.getfield 21, 3) := by decide +kernel
theorem dX11_go_33 : decode cX11_go 33 = .ok (.iaload, 1) := by decide +kernel
theorem dX11_go_34 : decode cX11_go 34 = .ok (.bipush 10, 2) := by decide +kernel
theorem dX11_go_36 : decode cX11_go 36 = .ok (.if_icmp .ne 16, 3) := by decide +kernel
theorem dX11_go_39 : decode cX11_go 39 = .ok (.aload_n 0, 1) := by decide +kernel
theorem dX11_go_40 : decode cX11_go 40 = .ok (.dup, 1) := by decide +kernel
theorem dX11_go_41 : decode cX11_go 41 = .ok (.getfield 21, 3) := by decide +kernel
theorem dX11_go_44 : decode cX11_go 44 = .ok (.iconst 1, 1) := by decide +kernel
theorem dX11_go_45 : decode cX11_go 45 = .ok (.iadd, 1) := by decide +kernel
theorem dX11_go_46 : decode cX11_go 46 = .ok (.putfield 21, 3) := by decide +kernel
theorem dX11_go_49 : decode cX11_go 49 = .ok (.goto (-49), 3) := by decide +kernel
theorem dX11_go_52 : decode cX11_go 52 = .ok (.aload_n 0, 1) := by decide +kernel
theorem dX11_go_53 : decode cX11_go 53 = .ok (.aload_n 0, 1) := by decide +kernel
theorem dX11_go_54 : decode cX11_go 54 = .ok (.getfield 21, 3) := by decide +kernel
theorem dX11_go_57 : decode cX11_go 57 = .ok (.putfield 24, 3) := by decide +kernel
theorem dX11_go_60 : decode cX11_go 60 = .ok (.aload_n 0, 1) := by decide +kernel
theorem dX11_go_61 : decode cX11_go 61 = .ok (.getfield 18, 3) := by decide +kernel
theorem dX11_go_64 : decode cX11_go 64 = .ok (.aload_n 0, 1) := by decide +kernel
theorem dX11_go_65 : decode cX11_go 65 = .ok (.getfield 27, 3) := by decide +kernel
theorem dX11_go_68 : decode cX11_go 68 = .ok (.if_icmp .le 28, 3) := by decide +kernel
theorem dX11_go_71 : decode cX11_go 71 = .ok (.aload_n 0, 1) := by decide +kernel
theorem dX11_go_72 : decode cX11_go 72 = .ok (.getfield 24, 3) := by decide +kernel
theorem dX11_go_75 : decode cX11_go 75 = .ok (.aload_n 0, 1) := by decide +kernel
theorem dX11_go_76 : decode cX11_go 76 = .ok (.getfield 27, 3) := by decide +kernel
theorem dX11_go_79 : decode cX11_go 79 = .ok (.if_icmp .lt 17, 3) := by decide +kernel
theorem dX11_go_82 : decode cX11_go 82 = .ok (.aload_n 0, 1) := by decide +kernel
theorem dX11_go_83 : decode cX11_go 83 = .ok (.aload_n 0, 1) := by decide +kernel
theorem dX11_go_84 : decode cX11_go 84 = .ok (.getfield 27, 3) := by decide +kernel
theorem dX11_go_87 : decode cX11_go 87 = .ok (.putfield 24, 3) := by decide +kernel
theorem dX11_go_90 : decode cX11_go 90 = .ok (.aload_n 0, 1) := by decide +kernel
theorem dX11_go_91 : decode cX11_go 91 = .ok (.iconst 1, 1) := by decide +kernel
theorem dX11_go_92 : decode cX11_go 92 = .ok (.putfield 30, 3) := by decide +kernel
theorem dX11_go_95 : decode cX11_go 95 = .ok (.return_, 1) := by decide +kernel
theorem dX11_go_96 : decode cX11_go 96 = .ok (.aload_n 0, 1) := by decide +kernel
theorem dX11_go_97 : decode cX11_go 97 = .ok (.getfield 21, 3) := by decide +kernel
theorem dX11_go_100 : decode cX11_go 100 = .ok (.aload_n 0, 1) := by decide +kernel
theorem dX11_go_101 : decode cX11_go 101 = .ok (.getfield 18, 3) := by decide +kernel
theorem dX11_go_104 : decode cX11_go 104 = .ok (.if_icmp .lt 9, 3) := by decide +kernel
theorem dX11_go_113 : decode cX11_go 113 = .ok (.aload_n 0, 1) := by decide +kernel
theorem dX11_go_114 : decode cX11_go 114 = .ok (.getfield 7, 3) := by decide +kernel
theorem dX11_go_117 : decode cX11_go 117 = .ok (.aload_n 0, 1) := by decide +kernel
theorem dX11_go_118 : decode cX11_go 118 = .ok (.getfield 21, 3) := by decide +kernel
theorem dX11_go_121 : decode cX11_go 121 = .ok (.iaload, 1) := by decide +kernel
theorem dX11_go_122 : decode cX11_go 122 = .ok (.istore_n 1, 1) := by decide +kernel
theorem dX11_go_123 : decode cX11_go 123 = .ok (.iload_n 1, 1) := by decide +kernel
theorem dX11_go_124 : decode cX11_go 124 = .ok (.invokestatic 33, 3) := by decide +kernel
theorem mwX11_isLetter : MwS yX11_isLetter cX11_isLetter 1 (some .boolean) 1 := ⟨⟨kw1345, kw15, by decide +kernel⟩, kw1344⟩
theorem dX11_go_127 : decode cX11_go 127 = .ok (.ifCond .ne 71, 3) := by decide +kernel
theorem dX11_go_130 : decode cX11_go 130 = .ok (.iload_n 1, 1) := by decide +kernel
theorem dX11_go_131 : decode cX11_go 131 = .ok (.invokestatic 37, 3) := by decide +kernel
theorem mwX11_isDigit : MwS yX11_isDigit cX11_isDigit 1 (some .boolean) 1 := ⟨⟨kw1348, kw15, by decide +kernel⟩, kw1347⟩
theorem dX11_go_134 : decode cX11_go 134 = .ok (.ifCond .ne 64, 3) := by decide +kernel
theorem dX11_go_137 : decode cX11_go 137 = .ok (.aload_n 0, 1) := by decide +kernel
theorem dX11_go_138 : decode cX11_go 138 = .ok (.iload_n 1, 1) := by decide +kernel
theorem dX11_go_139 : decode cX11_go 139 = .ok (.bipush 59, 2) := by decide +kernel
theorem dX11_go_141 : decode cX11_go 141 = .ok (.if_icmp .eq 33, 3) := by decide +kernel
theorem dX11_go_144 : decode cX11_go 144 = .ok (.iload_n 1, 1) := by decide +kernel
theorem dX11_go_145 : decode cX11_go 145 = .ok (.bipush 60, 2) := by decide +kernel
theorem dX11_go_147 : decode cX11_go 147 = .ok (.if_icmp .eq 27, 3) := by decide +kernel
theorem dX11_go_150 : decode cX11_go 150 = .ok (.iload_n 1, 1) := by decide +kernel
theorem dX11_go_151 : decode cX11_go 151 = .ok (.bipush 61, 2) := by decide +kernel
theorem dX11_go_153 : decode cX11_go 153 = .ok (.if_icmp .eq 21, 3) := by decide +kernel
theorem dX11_go_156 : decode cX11_go 156 = .ok (.iload_n 1, 1) := by decide +kernel
theorem dX11_go_157 : decode cX11_go 157 = .ok (.bipush 62, 2) := by decide +kernel
theorem dX11_go_159 : decode cX11_go 159 = .ok (.if_icmp .eq 15, 3) := by decide +kernel
theorem dX11_go_162 : decode cX11_go 162 = .ok (.iload_n 1, 1) := by decide +kernel
theorem dX11_go_163 : decode cX11_go 163 = .ok (.bipush 40, 2) := by decide +kernel
theorem dX11_go_165 : decode cX11_go 165 = .ok (.if_icmp .eq 9, 3) := by decide +kernel
theorem dX11_go_168 : decode cX11_go 168 = .ok (.iload_n 1, 1) := by decide +kernel
theorem dX11_go_169 : decode cX11_go 169 = .ok (.bipush 41, 2) := by decide +kernel
theorem dX11_go_171 : decode cX11_go 171 = .ok (.if_icmp .ne 7, 3) := by decide +kernel
theorem dX11_go_178 : decode cX11_go 178 = .ok (.iconst 1, 1) := by decide +kernel
theorem dX11_go_174 : decode cX11_go 174 = .ok (.iconst 4, 1) := by decide +kernel
theorem dX11_go_175 : decode cX11_go 175 = .ok (.goto 4, 3) := by decide +kernel
theorem dX11_go_179 : decode cX11_go 179 = .ok (.putfield 30, 3) := by decide +kernel
theorem dX11_go_182 : decode cX11_go 182 = .ok (.aload_n 0, 1) := by decide +kernel
theorem dX11_go_183 : decode cX11_go 183 = .ok (.iload_n 1, 1) := by decide +kernel
theorem dX11_go_184 : decode cX11_go 184 = .ok (.putfield 40, 3) := by decide +kernel
theorem dX11_go_187 : decode cX11_go 187 = .ok (.aload_n 0, 1) := by decide +kernel
theorem dX11_go_188 : decode cX11_go 188 = .ok (.dup, 1) := by decide +kernel
theorem dX11_go_189 : decode cX11_go 189 = .ok (.getfield 21, 3) := by decide +kernel
theorem dX11_go_192 : decode cX11_go 192 = .ok (.iconst 1, 1) := by decide +kernel
theorem dX11_go_193 : decode cX11_go 193 = .ok (.iadd, 1) := by decide +kernel
theorem dX11_go_194 : decode cX11_go 194 = .ok (.putfield 21, 3) := by decide +kernel
theorem dX11_go_197 : decode cX11_go 197 = .ok (.return_, 1) := by decide +kernel
theorem dX11_go_198 : decode cX11_go 198 = .ok (.iload_n 1, 1) := by decide +kernel
theorem dX11_go_199 : decode cX11_go 199 = .ok (.invokestatic 33, 3) := by decide +kernel
theorem dX11_go_202 : decode cX11_go 202 = .ok (.istore_n 2, 1) := by decide +kernel
theorem dX11_go_203 : decode cX11_go 203 = .ok (.iconst 1, 1) := by decide +kernel
theorem dX11_go_204 : decode cX11_go 204 = .ok (.istore_n 3, 1) := by decide +kernel
theorem dX11_go_205 : decode cX11_go 205 = .ok (.aload_n 0, 1) := by decide +kernel
theorem dX11_go_206 : decode cX11_go 206 = .ok (.lconst 0, 1) := by decide +kernel
theorem dX11_go_207 : decode cX11_go 207 = .ok (.putfield 43, 3) := by decide +kernel
theorem dX11_go_210 : decode cX11_go 210 = .ok (.aload_n 0, 1) := by decide +kernel
theorem dX11_go_211 : decode cX11_go 211 = .ok (.iconst 0, 1) := by decide +kernel
theorem dX11_go_212 : decode cX11_go 212 = .ok (.putfield 47, 3) := by decide +kernel
theorem dX11_go_215 : decode cX11_go 215 = .ok (.aload_n 0, 1) := by decide +kernel
theorem dX11_go_216 : decode cX11_go 216 = .ok (.aload_n 0, 1) := by decide +kernel
theorem dX11_go_217 : decode cX11_go 217 = .ok (.getfield 21, 3) := by decide +kernel
theorem dX11_go_220 : decode cX11_go 220 = .ok (.invokevirtual 50, 3) := by decide +kernel
theorem mwX11_tapeAt : MwV yX11_tapeAt cX11_tapeAt 2 (some .int) 1 := ⟨⟨kw1352, kw15, by decide +kernel⟩, kw1351, kS48⟩
theorem dX11_go_223 : decode cX11_go 223 = .ok (.invokestatic 33, 3) := by decide +kernel
theorem dX11_go_226 : decode cX11_go 226 = .ok (.ifCond .ne 17, 3) := by decide +kernel
theorem dX11_go_229 : decode cX11_go 229 = .ok (.aload_n 0, 1) := by decide +kernel
theorem dX11_go_230 : decode cX11_go 230 = .ok (.aload_n 0, 1) := by decide +kernel
theorem dX11_go_231 : decode cX11_go 231 = .ok (.getfield 21, 3) := by decide +kernel
theorem dX11_go_234 : decode cX11_go 234 = .ok (.invokevirtual 50, 3) := by decide +kernel
theorem dX11_go_237 : decode cX11_go 237 = .ok (.invokestatic 37, 3) := by decide +kernel
theorem dX11_go_240 : decode cX11_go 240 = .ok (.ifCond .eq 110, 3) := by decide +kernel
theorem dX11_go_243 : decode cX11_go 243 = .ok (.aload_n 0, 1) := by decide +kernel
theorem dX11_go_244 : decode cX11_go 244 = .ok (.getfield 7, 3) := by decide +kernel
theorem dX11_go_247 : decode cX11_go 247 = .ok (.aload_n 0, 1) := by decide +kernel
theorem dX11_go_248 : decode cX11_go 248 = .ok (.getfield 21, 3) := by decide +kernel
theorem dX11_go_251 : decode cX11_go 251 = .ok (.iaload, 1) := by decide +kernel
theorem dX11_go_252 : decode cX11_go 252 = .ok (.istore 4, 2) := by decide +kernel
theorem dX11_go_254 : decode cX11_go 254 = .ok (.iload_n 3, 1) := by decide +kernel
theorem dX11_go_255 : decode cX11_go 255 = .ok (.ifCond .eq 16, 3) := by decide +kernel
theorem dX11_go_258 : decode cX11_go 258 = .ok (.iload 4, 2) := by decide +kernel
theorem dX11_go_260 : decode cX11_go 260 = .ok (.invokestatic 33, 3) := by decide +kernel
theorem dX11_go_263 : decode cX11_go 263 = .ok (.iload_n 2, 1) := by decide +kernel
theorem dX11_go_264 : decode cX11_go 264 = .ok (.if_icmp .ne 7, 3) := by decide +kernel
theorem dX11_go_267 : decode cX11_go 267 = .ok (.iconst 1, 1) := by decide +kernel
theorem dX11_go_268 : decode cX11_go 268 = .ok (.goto 4, 3) := by decide +kernel
theorem dX11_go_272 : decode cX11_go 272 = .ok (.istore_n 3, 1) := by decide +kernel
theorem dX11_go_273 : decode cX11_go 273 = .ok (.aload_n 0, 1) := by decide +kernel
theorem dX11_go_274 : decode cX11_go 274 = .ok (.getfield 21, 3) := by decide +kernel
theorem dX11_go_277 : decode cX11_go 277 = .ok (.aload_n 0, 1) := by decide +kernel
theorem dX11_go_278 : decode cX11_go 278 = .ok (.getfield 24, 3) := by decide +kernel
theorem dX11_go_281 : decode cX11_go 281 = .ok (.isub, 1) := by decide +kernel
theorem dX11_go_282 : decode cX11_go 282 = .ok (.bipush 7, 2) := by decide +kernel
theorem dX11_go_284 : decode cX11_go 284 = .ok (.if_icmp .ge 23, 3) := by decide +kernel
theorem dX11_go_287 : decode cX11_go 287 = .ok (.aload_n 0, 1) := by decide +kernel
theorem dX11_go_288 : decode cX11_go 288 = .ok (.ldc2_w 54, 3) := by decide +kernel
theorem dX11_go_291 : decode cX11_go 291 = .ok (.aload_n 0, 1) := by decide +kernel
theorem dX11_go_292 : decode cX11_go 292 = .ok (.getfield 43, 3) := by decide +kernel
theorem dX11_go_295 : decode cX11_go 295 = .ok (.lmul, 1) := by decide +kernel
theorem dX11_go_296 : decode cX11_go 296 = .ok (.iload 4, 2) := by decide +kernel
theorem dX11_go_298 : decode cX11_go 298 = .ok (.i2l, 1) := by decide +kernel
theorem dX11_go_299 : decode cX11_go 299 = .ok (.ladd, 1) := by decide +kernel
theorem dX11_go_300 : decode cX11_go 300 = .ok (.ldc2_w 56, 3) := by decide +kernel
theorem dX11_go_303 : decode cX11_go 303 = .ok (.lsub, 1) := by decide +kernel
theorem dX11_go_304 : decode cX11_go 304 = .ok (.putfield 43, 3) := by decide +kernel
theorem dX11_go_307 : decode cX11_go 307 = .ok (.aload_n 0, 1) := by decide +kernel
theorem dX11_go_308 : decode cX11_go 308 = .ok (.getfield 21, 3) := by decide +kernel
theorem dX11_go_311 : decode cX11_go 311 = .ok (.aload_n 0, 1) := by decide +kernel
theorem dX11_go_312 : decode cX11_go 312 = .ok (.getfield 24, 3) := by decide +kernel
theorem dX11_go_315 : decode cX11_go 315 = .ok (.isub, 1) := by decide +kernel
theorem dX11_go_316 : decode cX11_go 316 = .ok (.iconst 3, 1) := by decide +kernel
theorem dX11_go_317 : decode cX11_go 317 = .ok (.if_icmp .ge 20, 3) := by decide +kernel
theorem dX11_go_320 : decode cX11_go 320 = .ok (.aload_n 0, 1) := by decide +kernel
theorem dX11_go_321 : decode cX11_go 321 = .ok (.bipush 10, 2) := by decide +kernel
theorem dX11_go_323 : decode cX11_go 323 = .ok (.aload_n 0, 1) := by decide +kernel
theorem dX11_go_324 : decode cX11_go 324 = .ok (.getfield 47, 3) := by decide +kernel
theorem dX11_go_327 : decode cX11_go 327 = .ok (.imul, 1) := by decide +kernel
theorem dX11_go_328 : decode cX11_go 328 = .ok (.iload 4, 2) := by decide +kernel
theorem dX11_go_330 : decode cX11_go 330 = .ok (.iadd, 1) := by decide +kernel
theorem dX11_go_331 : decode cX11_go 331 = .ok (.bipush 48, 2) := by decide +kernel
theorem dX11_go_333 : decode cX11_go 333 = .ok (.isub, 1) := by decide +kernel
theorem dX11_go_334 : decode cX11_go 334 = .ok (.putfield 47, 3) := by decide +kernel
theorem dX11_go_337 : decode cX11_go 337 = .ok (.aload_n 0, 1) := by decide +kernel
theorem dX11_go_338 : decode cX11_go 338 = .ok (.dup, 1) := by decide +kernel
theorem dX11_go_339 : decode cX11_go 339 = .ok (.getfield 21, 3) := by decide +kernel
theorem dX11_go_342 : decode cX11_go 342 = .ok (.iconst 1, 1) := by decide +kernel
theorem dX11_go_343 : decode cX11_go 343 = .ok (.iadd, 1) := by decide +kernel
theorem dX11_go_344 : decode cX11_go 344 = .ok (.putfield 21, 3) := by decide +kernel
theorem dX11_go_347 : decode cX11_go 347 = .ok (.goto (-132), 3) := by decide +kernel
theorem dX11_go_271 : decode cX11_go 271 = .ok (.iconst 0, 1) := by decide +kernel
theorem dX11_go_350 : decode cX11_go 350 = .ok (.aload_n 0, 1) := by decide +kernel
theorem dX11_go_351 : decode cX11_go 351 = .ok (.iload_n 3, 1) := by decide +kernel
theorem dX11_go_352 : decode cX11_go 352 = .ok (.ifCond .eq 25, 3) := by decide +kernel
theorem dX11_go_377 : decode cX11_go 377 = .ok (.iconst 1, 1) := by decide +kernel
theorem dX11_go_378 : decode cX11_go 378 = .ok (.goto 12, 3) := by decide +kernel
theorem dX11_go_390 : decode cX11_go 390 = .ok (.putfield 30, 3) := by decide +kernel
theorem dX11_go_393 : decode cX11_go 393 = .ok (.return_, 1) := by decide +kernel
theorem dX11_go_355 : decode cX11_go 355 = .ok (.aload_n 0, 1) := by decide +kernel
theorem dX11_go_356 : decode cX11_go 356 = .ok (.getfield 21, 3) := by decide +kernel
theorem dX11_go_359 : decode cX11_go 359 = .ok (.aload_n 0, 1) := by decide +kernel
theorem dX11_go_360 : decode cX11_go 360 = .ok (.getfield 24, 3) := by decide +kernel
theorem dX11_go_363 : decode cX11_go 363 = .ok (.isub, 1) := by decide +kernel
theorem dX11_go_364 : decode cX11_go 364 = .ok (.iload_n 2, 1) := by decide +kernel
theorem dX11_go_365 : decode cX11_go 365 = .ok (.ifCond .eq 8, 3) := by decide +kernel
theorem dX11_go_373 : decode cX11_go 373 = .ok (.iconst 3, 1) := by decide +kernel
theorem dX11_go_374 : decode cX11_go 374 = .ok (.if_icmp .le 7, 3) := by decide +kernel
theorem dX11_go_381 : decode cX11_go 381 = .ok (.iload_n 2, 1) := by decide +kernel
theorem dX11_go_382 : decode cX11_go 382 = .ok (.ifCond .eq 7, 3) := by decide +kernel
theorem dX11_go_389 : decode cX11_go 389 = .ok (.iconst 3, 1) := by decide +kernel
theorem dX11_go_368 : decode cX11_go 368 = .ok (.bipush 7, 2) := by decide +kernel
theorem dX11_go_370 : decode cX11_go 370 = .ok (.goto 4, 3) := by decide +kernel
theorem dX11_go_385 : decode cX11_go 385 = .ok (.iconst 2, 1) := by decide +kernel
theorem dX11_go_386 : decode cX11_go 386 = .ok (.goto 4, 3) := by decide +kernel
theorem dX11_go_107 : decode cX11_go 107 = .ok (.aload_n 0, 1) := by decide +kernel
theorem dX11_go_108 : decode cX11_go 108 = .ok (.iconst 0, 1) := by decide +kernel
theorem dX11_go_109 : decode cX11_go 109 = .ok (.putfield 30, 3) := by decide +kernel
theorem dX11_go_112 : decode cX11_go 112 = .ok (.return_, 1) := by decide +kernel
set_option maxHeartbeats 4000000 in
set_option maxRecDepth 100000 in
theorem s_X11_go {l : Launch} {G : Gc} (qm : Nat) (qm_thrown : Int32) (qm_tape : Nat) (qm_taped : Int32) (qm_size : Int32) (qm_limit : Int32) (qm_to : Int32) (qm_from : Int32) (qm_kind : Int32) (qm_number : Int32) (qm_sign : Int32) (qm_fault : Int32) (qm_place : Int32) (qm_word : Int64) (qm_told : Int32) (qm_now : Nat) (qm_read : Nat) (qm_kept : Nat) (qm_snaps : Nat) (qm_aside : Nat) (qm_name : Nat) (qm_readName : Nat) (qm_keptName : Nat) (qm_isKept : Nat) (qm_onces : Nat) (qm_snapMany : Int32) (qm_order : Nat) (qm_ordered : Nat) (qm_orderMany : Int32) (qm_orderMost : Int32) (qm_passing : Int32) (qm_movedWho : Int32) (qm_scratched : Int32) (qm_text : Nat) (qm_texts : Int32) (qm_seed : Int32) (qm_line : Nat) (qm_written : Nat) (qm_lineMany : Int32) (qm_hasWritten : Int32) (qm_node : Nat) (qm_nodes : Int32) (qm_onesMany : Int32) (qm_within : Int32) (qm_top : Int32) (qm_tape_c : Nat → Int32) (hi_qm_size : 0 ≤ qm_size.toInt ∧ qm_size.toInt ≤ 940) (hi_qm_to : 0 ≤ qm_to.toInt ∧ qm_to.toInt ≤ 940) : Cv l yX11_go cX11_go 5 1 0 0 G [.ref qm] [(qm, .inr (10, [.int qm_thrown, .ref qm_tape, .int qm_taped, .int qm_size, .int qm_limit, .int qm_to, .int qm_from, .int qm_kind, .int qm_number, .int qm_sign, .int qm_fault, .int qm_place, .long qm_word, .int qm_told, .ref qm_now, .ref qm_read, .ref qm_kept, .ref qm_snaps, .ref qm_aside, .ref qm_name, .ref qm_readName, .ref qm_keptName, .ref qm_isKept, .ref qm_onces, .int qm_snapMany, .ref qm_order, .ref qm_ordered, .int qm_orderMany, .int qm_orderMost, .int qm_passing, .int qm_movedWho, .int qm_scratched, .ref qm_text, .int qm_texts, .int qm_seed, .ref qm_line, .ref qm_written, .int qm_lineMany, .int qm_hasWritten, .ref qm_node, .int qm_nodes, .int qm_onesMany, .int qm_within, .int qm_top])), (qm_tape, eI G 940 qm_tape_c)] (fun (u9 : va_W) => ∃ (x0_qm_to : Int32) (x1_qm_from : Int32) (x2_qm_kind : Int32) (x3_qm_number : Int32) (x4_qm_sign : Int32) (x5_qm_word : Int64), u9 = [(qm, .inr (10, [.int qm_thrown, .ref qm_tape, .int qm_taped, .int qm_size, .int qm_limit, .int x0_qm_to, .int x1_qm_from, .int x2_qm_kind, .int x3_qm_number, .int x4_qm_sign, .int qm_fault, .int qm_place, .long x5_qm_word, .int qm_told, .ref qm_now, .ref qm_read, .ref qm_kept, .ref qm_snaps, .ref qm_aside, .ref qm_name, .ref qm_readName, .ref qm_keptName, .ref qm_isKept, .ref qm_onces, .int qm_snapMany, .ref qm_order, .ref qm_ordered, .int qm_orderMany, .int qm_orderMost, .int qm_passing, .int qm_movedWho, .int qm_scratched, .ref qm_text, .int qm_texts, .int qm_seed, .ref qm_line, .ref qm_written, .int qm_lineMany, .int qm_hasWritten, .ref qm_node, .int qm_nodes, .int qm_onesMany, .int qm_within, .int qm_top])), (qm_tape, eI G 940 qm_tape_c)] ∧ (0 ≤ x0_qm_to.toInt ∧ x0_qm_to.toInt ≤ 940) ∧ (x1_qm_from.toInt ≤ 940) ∧ (0 ≤ x2_qm_kind.toInt ∧ x2_qm_kind.toInt ≤ 4) ∧ (qm_to.toInt ≤ x0_qm_to.toInt) ∧ (x2_qm_kind.toInt = 4 → qm_to.toInt < x0_qm_to.toInt)) := by
  refine Cv.ofQ (by decide) (Nat.le_of_ble_eq_true rfl) ?_
  intro p e s m below meth c ls A args Q hQ B hw hl
  have C : CallFix p m c cX11_go 5 s args gw "LanternStateModel" := B.1
  have hl : lv_has ls 5 [(0, .ref qm)] := hl
  have loopJ10 : ∀ (n9 : Nat) (j9 : Int32), (2147483647 - j9.toInt).toNat < n9 → (0 ≤ j9.toInt ∧ j9.toInt ≤ 940) → (qm_to.toInt ≤ j9.toInt) → ∀ (H : Heap) (locs : List Loc) (ls : Array Slot), Wd G s A [(qm, .inr (10, [.int qm_thrown, .ref qm_tape, .int qm_taped, .int qm_size, .int qm_limit, .int j9, .int qm_from, .int qm_kind, .int qm_number, .int qm_sign, .int qm_fault, .int qm_place, .long qm_word, .int qm_told, .ref qm_now, .ref qm_read, .ref qm_kept, .ref qm_snaps, .ref qm_aside, .ref qm_name, .ref qm_readName, .ref qm_keptName, .ref qm_isKept, .ref qm_onces, .int qm_snapMany, .ref qm_order, .ref qm_ordered, .int qm_orderMany, .int qm_orderMost, .int qm_passing, .int qm_movedWho, .int qm_scratched, .ref qm_text, .int qm_texts, .int qm_seed, .ref qm_line, .ref qm_written, .int qm_lineMany, .int qm_hasWritten, .ref qm_node, .int qm_nodes, .int qm_onesMany, .int qm_within, .int qm_top])), (qm_tape, eI G 940 qm_tape_c)] H locs → lv_has ls 5 [(0, .ref qm)] → W p l e (rmD 1 0 0) s m args below meth c H locs 0 0 Q (F0 m 0 ls []) := by
    intro n9
    induction n9 with
    | zero => intro j9 h9; exact absurd h9 (Nat.not_lt_zero _)
    | succ n9 ihJ10 =>
      intro j9 h9J10 hJ10_0 hJ10_1 H locs ls hw hl
      have hbj9 := i_bd j9
      refine lv_aload_n C.1 C.2.1 dX11_go_0 rfl (lv_at hl 0 rfl) ?_
      refine x_get C hw iwX11 10 rfl 0 rfl 5 (by decide) kw1198 rfl dX11_go_1 ?_
      refine lv_aload_n C.1 C.2.1 dX11_go_4 rfl (lv_at hl 0 rfl) ?_
      refine x_get C hw iwX11 10 rfl 0 rfl 3 (by decide) kw1196 rfl dX11_go_5 ?_
      have J27 : (qm_to.toInt ≤ j9.toInt) → ∀ (H : Heap) (locs : List Loc) (ls : Array Slot), Wd G s A [(qm, .inr (10, [.int qm_thrown, .ref qm_tape, .int qm_taped, .int qm_size, .int qm_limit, .int j9, .int qm_from, .int qm_kind, .int qm_number, .int qm_sign, .int qm_fault, .int qm_place, .long qm_word, .int qm_told, .ref qm_now, .ref qm_read, .ref qm_kept, .ref qm_snaps, .ref qm_aside, .ref qm_name, .ref qm_readName, .ref qm_keptName, .ref qm_isKept, .ref qm_onces, .int qm_snapMany, .ref qm_order, .ref qm_ordered, .int qm_orderMany, .int qm_orderMost, .int qm_passing, .int qm_movedWho, .int qm_scratched, .ref qm_text, .int qm_texts, .int qm_seed, .ref qm_line, .ref qm_written, .int qm_lineMany, .int qm_hasWritten, .ref qm_node, .int qm_nodes, .int qm_onesMany, .int qm_within, .int qm_top])), (qm_tape, eI G 940 qm_tape_c)] H locs → lv_has ls 5 [(0, .ref qm)] → W p l e (rmD 1 0 0) s m args below meth c H locs 0 0 Q (F0 m 52 ls []) := by
        intro  hJ27_0 H locs ls hw hl
        refine lv_aload_n C.1 C.2.1 dX11_go_52 rfl (lv_at hl 0 rfl) ?_
        refine lv_aload_n C.1 C.2.1 dX11_go_53 rfl (lv_at hl 0 rfl) ?_
        refine x_get C hw iwX11 10 rfl 0 rfl 5 (by decide) kw1198 rfl dX11_go_54 ?_
        refine x_put (w' := [(qm, .inr (10, [.int qm_thrown, .ref qm_tape, .int qm_taped, .int qm_size, .int qm_limit, .int j9, .int j9, .int qm_kind, .int qm_number, .int qm_sign, .int qm_fault, .int qm_place, .long qm_word, .int qm_told, .ref qm_now, .ref qm_read, .ref qm_kept, .ref qm_snaps, .ref qm_aside, .ref qm_name, .ref qm_readName, .ref qm_keptName, .ref qm_isKept, .ref qm_onces, .int qm_snapMany, .ref qm_order, .ref qm_ordered, .int qm_orderMany, .int qm_orderMost, .int qm_passing, .int qm_movedWho, .int qm_scratched, .ref qm_text, .int qm_texts, .int qm_seed, .ref qm_line, .ref qm_written, .int qm_lineMany, .int qm_hasWritten, .ref qm_node, .int qm_nodes, .int qm_onesMany, .int qm_within, .int qm_top])), (qm_tape, eI G 940 qm_tape_c)]) C hw iwX11 tyX11_ok nmX11 10 rfl 0 rfl 6 (by decide) kw1199 rfl rfl rfl (Nat.le_of_ble_eq_true rfl) rfl dX11_go_57 (fun H locs hw => ?_)
        refine lv_aload_n C.1 C.2.1 dX11_go_60 rfl (lv_at hl 0 rfl) ?_
        refine x_get C hw iwX11 10 rfl 0 rfl 3 (by decide) kw1196 rfl dX11_go_61 ?_
        refine lv_aload_n C.1 C.2.1 dX11_go_64 rfl (lv_at hl 0 rfl) ?_
        refine x_get C hw iwX11 10 rfl 0 rfl 4 (by decide) kw1197 rfl dX11_go_65 ?_
        have J304 : (qm_to.toInt ≤ j9.toInt) → ∀ (H : Heap) (locs : List Loc) (ls : Array Slot), Wd G s A [(qm, .inr (10, [.int qm_thrown, .ref qm_tape, .int qm_taped, .int qm_size, .int qm_limit, .int j9, .int j9, .int qm_kind, .int qm_number, .int qm_sign, .int qm_fault, .int qm_place, .long qm_word, .int qm_told, .ref qm_now, .ref qm_read, .ref qm_kept, .ref qm_snaps, .ref qm_aside, .ref qm_name, .ref qm_readName, .ref qm_keptName, .ref qm_isKept, .ref qm_onces, .int qm_snapMany, .ref qm_order, .ref qm_ordered, .int qm_orderMany, .int qm_orderMost, .int qm_passing, .int qm_movedWho, .int qm_scratched, .ref qm_text, .int qm_texts, .int qm_seed, .ref qm_line, .ref qm_written, .int qm_lineMany, .int qm_hasWritten, .ref qm_node, .int qm_nodes, .int qm_onesMany, .int qm_within, .int qm_top])), (qm_tape, eI G 940 qm_tape_c)] H locs → lv_has ls 5 [(0, .ref qm)] → W p l e (rmD 1 0 0) s m args below meth c H locs 0 0 Q (F0 m 96 ls []) := by
          intro  hJ304_0 H locs ls hw hl
          refine lv_aload_n C.1 C.2.1 dX11_go_96 rfl (lv_at hl 0 rfl) ?_
          refine x_get C hw iwX11 10 rfl 0 rfl 5 (by decide) kw1198 rfl dX11_go_97 ?_
          refine lv_aload_n C.1 C.2.1 dX11_go_100 rfl (lv_at hl 0 rfl) ?_
          refine x_get C hw iwX11 10 rfl 0 rfl 3 (by decide) kw1196 rfl dX11_go_101 ?_
          refine lv_icmp_lt (tgt := 113) C.1 C.2.1 dX11_go_104 (by decide) (fun c576 => ?_) (fun c576 => ?_)
          · skip
            have c576 : j9.toInt < qm_size.toInt := i_ltT (X := j9.toInt) (Y := qm_size.toInt) rfl rfl c576
            refine lv_aload_n C.1 C.2.1 dX11_go_113 rfl (lv_at hl 0 rfl) ?_
            refine x_get C hw iwX11 10 rfl 0 rfl 1 (by decide) kw1194 rfl dX11_go_114 ?_
            refine lv_aload_n C.1 C.2.1 dX11_go_117 rfl (lv_at hl 0 rfl) ?_
            refine x_get C hw iwX11 10 rfl 0 rfl 5 (by decide) kw1198 rfl dX11_go_118 ?_
            refine x_iald (v := (qm_tape_c j9.toNatClampNeg)) C hw 1 rfl (i_in (by omega) (by omega)) rfl dX11_go_121 (x_gen (fun v577 => ?_))
            refine lv_istore_n (lv' := [(1, .int v577), (0, .ref qm)]) C.1 C.2.1 dX11_go_122 rfl hl (by decide) rfl (fun ls hl => ?_)
            refine lv_iload_n C.1 C.2.1 dX11_go_123 rfl (lv_at hl 0 rfl) ?_
            refine x_calliS (As := [.int v577]) (rest := []) (wr := [(qm, .inr (10, [.int qm_thrown, .ref qm_tape, .int qm_taped, .int qm_size, .int qm_limit, .int j9, .int j9, .int qm_kind, .int qm_number, .int qm_sign, .int qm_fault, .int qm_place, .long qm_word, .int qm_told, .ref qm_now, .ref qm_read, .ref qm_kept, .ref qm_snaps, .ref qm_aside, .ref qm_name, .ref qm_readName, .ref qm_keptName, .ref qm_isKept, .ref qm_onces, .int qm_snapMany, .ref qm_order, .ref qm_ordered, .int qm_orderMany, .int qm_orderMost, .int qm_passing, .int qm_movedWho, .int qm_scratched, .ref qm_text, .int qm_texts, .int qm_seed, .ref qm_line, .ref qm_written, .int qm_lineMany, .int qm_hasWritten, .ref qm_node, .int qm_nodes, .int qm_onesMany, .int qm_within, .int qm_top])), (qm_tape, eI G 940 qm_tape_c)]) C hw (s_X11_isLetter v577) mwX11_isLetter kw1343 [] [0, 1] rfl rfl rfl rfl (by decide) rfl hl.1 rfl (Nat.le_of_ble_eq_true rfl) ⟨(Nat.le_of_ble_eq_true rfl), (Nat.le_of_ble_eq_true rfl)⟩ ⟨(Nat.le_of_ble_eq_true rfl), (Nat.le_of_ble_eq_true rfl)⟩ dX11_go_124 (fun r578 u9 H locs hp9 hw => ?_)
            have J592 : (qm_to.toInt ≤ j9.toInt) → ∀ (H : Heap) (locs : List Loc) (ls : Array Slot), Wd G s A [(qm, .inr (10, [.int qm_thrown, .ref qm_tape, .int qm_taped, .int qm_size, .int qm_limit, .int j9, .int j9, .int qm_kind, .int qm_number, .int qm_sign, .int qm_fault, .int qm_place, .long qm_word, .int qm_told, .ref qm_now, .ref qm_read, .ref qm_kept, .ref qm_snaps, .ref qm_aside, .ref qm_name, .ref qm_readName, .ref qm_keptName, .ref qm_isKept, .ref qm_onces, .int qm_snapMany, .ref qm_order, .ref qm_ordered, .int qm_orderMany, .int qm_orderMost, .int qm_passing, .int qm_movedWho, .int qm_scratched, .ref qm_text, .int qm_texts, .int qm_seed, .ref qm_line, .ref qm_written, .int qm_lineMany, .int qm_hasWritten, .ref qm_node, .int qm_nodes, .int qm_onesMany, .int qm_within, .int qm_top])), (qm_tape, eI G 940 qm_tape_c)] H locs → lv_has ls 5 [(1, .int v577), (0, .ref qm)] → W p l e (rmD 1 0 0) s m args below meth c H locs 0 0 Q (F0 m 198 ls []) := by
              intro  hJ592_0 H locs ls hw hl
              refine lv_iload_n C.1 C.2.1 dX11_go_198 rfl (lv_at hl 0 rfl) ?_
              refine x_calliS (As := [.int v577]) (rest := []) (wr := [(qm, .inr (10, [.int qm_thrown, .ref qm_tape, .int qm_taped, .int qm_size, .int qm_limit, .int j9, .int j9, .int qm_kind, .int qm_number, .int qm_sign, .int qm_fault, .int qm_place, .long qm_word, .int qm_told, .ref qm_now, .ref qm_read, .ref qm_kept, .ref qm_snaps, .ref qm_aside, .ref qm_name, .ref qm_readName, .ref qm_keptName, .ref qm_isKept, .ref qm_onces, .int qm_snapMany, .ref qm_order, .ref qm_ordered, .int qm_orderMany, .int qm_orderMost, .int qm_passing, .int qm_movedWho, .int qm_scratched, .ref qm_text, .int qm_texts, .int qm_seed, .ref qm_line, .ref qm_written, .int qm_lineMany, .int qm_hasWritten, .ref qm_node, .int qm_nodes, .int qm_onesMany, .int qm_within, .int qm_top])), (qm_tape, eI G 940 qm_tape_c)]) C hw (s_X11_isLetter v577) mwX11_isLetter kw1343 [] [0, 1] rfl rfl rfl rfl (by decide) rfl hl.1 rfl (Nat.le_of_ble_eq_true rfl) ⟨(Nat.le_of_ble_eq_true rfl), (Nat.le_of_ble_eq_true rfl)⟩ ⟨(Nat.le_of_ble_eq_true rfl), (Nat.le_of_ble_eq_true rfl)⟩ dX11_go_199 (fun r847 u9 H locs hp9 hw => ?_)
              rcases hp9 with ⟨rfl, rfl⟩ | ⟨rfl, rfl, hf848⟩
              · skip
                have hw : Wd G s A [(qm, .inr (10, [.int qm_thrown, .ref qm_tape, .int qm_taped, .int qm_size, .int qm_limit, .int j9, .int j9, .int qm_kind, .int qm_number, .int qm_sign, .int qm_fault, .int qm_place, .long qm_word, .int qm_told, .ref qm_now, .ref qm_read, .ref qm_kept, .ref qm_snaps, .ref qm_aside, .ref qm_name, .ref qm_readName, .ref qm_keptName, .ref qm_isKept, .ref qm_onces, .int qm_snapMany, .ref qm_order, .ref qm_ordered, .int qm_orderMany, .int qm_orderMost, .int qm_passing, .int qm_movedWho, .int qm_scratched, .ref qm_text, .int qm_texts, .int qm_seed, .ref qm_line, .ref qm_written, .int qm_lineMany, .int qm_hasWritten, .ref qm_node, .int qm_nodes, .int qm_onesMany, .int qm_within, .int qm_top])), (qm_tape, eI G 940 qm_tape_c)] H _ := hw
                refine lv_istore_n (lv' := [(2, .int 0), (1, .int v577), (0, .ref qm)]) C.1 C.2.1 dX11_go_202 rfl hl (by decide) rfl (fun ls hl => ?_)
                refine lv_iconst (v := 1) C.1 C.2.1 dX11_go_203 (by decide) ?_
                refine lv_istore_n (lv' := [(3, .int 1), (2, .int 0), (1, .int v577), (0, .ref qm)]) C.1 C.2.1 dX11_go_204 rfl hl (by decide) rfl (fun ls hl => ?_)
                refine lv_aload_n C.1 C.2.1 dX11_go_205 rfl (lv_at hl 3 rfl) ?_
                refine lv_lconst (v := 0) C.1 C.2.1 dX11_go_206 (by decide) ?_
                refine x_put (w' := [(qm, .inr (10, [.int qm_thrown, .ref qm_tape, .int qm_taped, .int qm_size, .int qm_limit, .int j9, .int j9, .int qm_kind, .int qm_number, .int qm_sign, .int qm_fault, .int qm_place, .long 0, .int qm_told, .ref qm_now, .ref qm_read, .ref qm_kept, .ref qm_snaps, .ref qm_aside, .ref qm_name, .ref qm_readName, .ref qm_keptName, .ref qm_isKept, .ref qm_onces, .int qm_snapMany, .ref qm_order, .ref qm_ordered, .int qm_orderMany, .int qm_orderMost, .int qm_passing, .int qm_movedWho, .int qm_scratched, .ref qm_text, .int qm_texts, .int qm_seed, .ref qm_line, .ref qm_written, .int qm_lineMany, .int qm_hasWritten, .ref qm_node, .int qm_nodes, .int qm_onesMany, .int qm_within, .int qm_top])), (qm_tape, eI G 940 qm_tape_c)]) C hw iwX11 tyX11_ok nmX11 10 rfl 0 rfl 12 (by decide) kw1205 rfl rfl rfl (Nat.le_of_ble_eq_true rfl) rfl dX11_go_207 (fun H locs hw => ?_)
                refine lv_aload_n C.1 C.2.1 dX11_go_210 rfl (lv_at hl 3 rfl) ?_
                refine lv_iconst (v := 0) C.1 C.2.1 dX11_go_211 (by decide) ?_
                refine x_put (w' := [(qm, .inr (10, [.int qm_thrown, .ref qm_tape, .int qm_taped, .int qm_size, .int qm_limit, .int j9, .int j9, .int qm_kind, .int 0, .int qm_sign, .int qm_fault, .int qm_place, .long 0, .int qm_told, .ref qm_now, .ref qm_read, .ref qm_kept, .ref qm_snaps, .ref qm_aside, .ref qm_name, .ref qm_readName, .ref qm_keptName, .ref qm_isKept, .ref qm_onces, .int qm_snapMany, .ref qm_order, .ref qm_ordered, .int qm_orderMany, .int qm_orderMost, .int qm_passing, .int qm_movedWho, .int qm_scratched, .ref qm_text, .int qm_texts, .int qm_seed, .ref qm_line, .ref qm_written, .int qm_lineMany, .int qm_hasWritten, .ref qm_node, .int qm_nodes, .int qm_onesMany, .int qm_within, .int qm_top])), (qm_tape, eI G 940 qm_tape_c)]) C hw iwX11 tyX11_ok nmX11 10 rfl 0 rfl 8 (by decide) kw1201 rfl rfl rfl (Nat.le_of_ble_eq_true rfl) rfl dX11_go_212 (fun H locs hw => ?_)
                have loopJ898 : ∀ (n9 : Nat) (j894 : Int32) (j895 : Int32) (j896 : Int32) (j897 : Int64), (2147483647 - j895.toInt).toNat < n9 → (0 ≤ j894.toInt ∧ j894.toInt ≤ 1) → (0 ≤ j895.toInt ∧ j895.toInt ≤ 940) → (qm_to.toInt ≤ j895.toInt) → ∀ (H : Heap) (locs : List Loc) (ls : Array Slot), Wd G s A [(qm, .inr (10, [.int qm_thrown, .ref qm_tape, .int qm_taped, .int qm_size, .int qm_limit, .int j895, .int j9, .int qm_kind, .int j896, .int qm_sign, .int qm_fault, .int qm_place, .long j897, .int qm_told, .ref qm_now, .ref qm_read, .ref qm_kept, .ref qm_snaps, .ref qm_aside, .ref qm_name, .ref qm_readName, .ref qm_keptName, .ref qm_isKept, .ref qm_onces, .int qm_snapMany, .ref qm_order, .ref qm_ordered, .int qm_orderMany, .int qm_orderMost, .int qm_passing, .int qm_movedWho, .int qm_scratched, .ref qm_text, .int qm_texts, .int qm_seed, .ref qm_line, .ref qm_written, .int qm_lineMany, .int qm_hasWritten, .ref qm_node, .int qm_nodes, .int qm_onesMany, .int qm_within, .int qm_top])), (qm_tape, eI G 940 qm_tape_c)] H locs → lv_has ls 5 [(3, .int j894), (2, .int 0), (0, .ref qm)] → W p l e (rmD 1 0 0) s m args below meth c H locs 0 0 Q (F0 m 215 ls []) := by
                  intro n9
                  induction n9 with
                  | zero => intro j894 j895 j896 j897 h9; exact absurd h9 (Nat.not_lt_zero _)
                  | succ n9 ihJ898 =>
                    intro j894 j895 j896 j897 h9J898 hJ898_0 hJ898_1 hJ898_2 H locs ls hw hl
                    have hbj895 := i_bd j895
                    refine lv_aload_n C.1 C.2.1 dX11_go_215 rfl (lv_at hl 2 rfl) ?_
                    refine lv_aload_n C.1 C.2.1 dX11_go_216 rfl (lv_at hl 2 rfl) ?_
                    refine x_get C hw iwX11 10 rfl 0 rfl 5 (by decide) kw1198 rfl dX11_go_217 ?_
                    refine x_calliV (As := [.int j895]) (rest := []) (wr := []) C hw (s_X11_tapeAt qm j895 qm_thrown qm_tape qm_taped qm_size qm_limit j895 j9 qm_kind j896 qm_sign qm_fault qm_place j897 qm_told qm_now qm_read qm_kept qm_snaps qm_aside qm_name qm_readName qm_keptName qm_isKept qm_onces qm_snapMany qm_order qm_ordered qm_orderMany qm_orderMost qm_passing qm_movedWho qm_scratched qm_text qm_texts qm_seed qm_line qm_written qm_lineMany qm_hasWritten qm_node qm_nodes qm_onesMany qm_within qm_top qm_tape_c (by omega) (by omega)) mwX11_tapeAt kw1349 [0, 1] [] rfl rfl rfl rfl (by decide) 0 rfl rfl rfl rfl hl.1 rfl (Nat.le_of_ble_eq_true rfl) ⟨(Nat.le_of_ble_eq_true rfl), (Nat.le_of_ble_eq_true rfl)⟩ ⟨(Nat.le_of_ble_eq_true rfl), (Nat.le_of_ble_eq_true rfl)⟩ dX11_go_220 (fun r938 u9 H locs hp9 hw => ?_)
                    obtain ⟨x939, rfl, rfl, hf940⟩ := hp9
                    have hw : Wd G s A [(qm, .inr (10, [.int qm_thrown, .ref qm_tape, .int qm_taped, .int qm_size, .int qm_limit, .int j895, .int j9, .int qm_kind, .int j896, .int qm_sign, .int qm_fault, .int qm_place, .long j897, .int qm_told, .ref qm_now, .ref qm_read, .ref qm_kept, .ref qm_snaps, .ref qm_aside, .ref qm_name, .ref qm_readName, .ref qm_keptName, .ref qm_isKept, .ref qm_onces, .int qm_snapMany, .ref qm_order, .ref qm_ordered, .int qm_orderMany, .int qm_orderMost, .int qm_passing, .int qm_movedWho, .int qm_scratched, .ref qm_text, .int qm_texts, .int qm_seed, .ref qm_line, .ref qm_written, .int qm_lineMany, .int qm_hasWritten, .ref qm_node, .int qm_nodes, .int qm_onesMany, .int qm_within, .int qm_top])), (qm_tape, eI G 940 qm_tape_c)] H _ := hw
                    refine x_calliS (As := [.int r938]) (rest := []) (wr := [(qm, .inr (10, [.int qm_thrown, .ref qm_tape, .int qm_taped, .int qm_size, .int qm_limit, .int j895, .int j9, .int qm_kind, .int j896, .int qm_sign, .int qm_fault, .int qm_place, .long j897, .int qm_told, .ref qm_now, .ref qm_read, .ref qm_kept, .ref qm_snaps, .ref qm_aside, .ref qm_name, .ref qm_readName, .ref qm_keptName, .ref qm_isKept, .ref qm_onces, .int qm_snapMany, .ref qm_order, .ref qm_ordered, .int qm_orderMany, .int qm_orderMost, .int qm_passing, .int qm_movedWho, .int qm_scratched, .ref qm_text, .int qm_texts, .int qm_seed, .ref qm_line, .ref qm_written, .int qm_lineMany, .int qm_hasWritten, .ref qm_node, .int qm_nodes, .int qm_onesMany, .int qm_within, .int qm_top])), (qm_tape, eI G 940 qm_tape_c)]) C hw (s_X11_isLetter r938) mwX11_isLetter kw1343 [] [0, 1] rfl rfl rfl rfl (by decide) rfl hl.1 rfl (Nat.le_of_ble_eq_true rfl) ⟨(Nat.le_of_ble_eq_true rfl), (Nat.le_of_ble_eq_true rfl)⟩ ⟨(Nat.le_of_ble_eq_true rfl), (Nat.le_of_ble_eq_true rfl)⟩ dX11_go_223 (fun r941 u9 H locs hp9 hw => ?_)
                    have J951 : (qm_to.toInt ≤ j895.toInt) → (j895.toInt < qm_size.toInt) → ∀ (H : Heap) (locs : List Loc) (ls : Array Slot), Wd G s A [(qm, .inr (10, [.int qm_thrown, .ref qm_tape, .int qm_taped, .int qm_size, .int qm_limit, .int j895, .int j9, .int qm_kind, .int j896, .int qm_sign, .int qm_fault, .int qm_place, .long j897, .int qm_told, .ref qm_now, .ref qm_read, .ref qm_kept, .ref qm_snaps, .ref qm_aside, .ref qm_name, .ref qm_readName, .ref qm_keptName, .ref qm_isKept, .ref qm_onces, .int qm_snapMany, .ref qm_order, .ref qm_ordered, .int qm_orderMany, .int qm_orderMost, .int qm_passing, .int qm_movedWho, .int qm_scratched, .ref qm_text, .int qm_texts, .int qm_seed, .ref qm_line, .ref qm_written, .int qm_lineMany, .int qm_hasWritten, .ref qm_node, .int qm_nodes, .int qm_onesMany, .int qm_within, .int qm_top])), (qm_tape, eI G 940 qm_tape_c)] H locs → lv_has ls 5 [(3, .int j894), (2, .int 0), (0, .ref qm)] → W p l e (rmD 1 0 0) s m args below meth c H locs 0 0 Q (F0 m 243 ls []) := by
                      intro  hJ951_0 hJ951_1 H locs ls hw hl
                      refine lv_aload_n C.1 C.2.1 dX11_go_243 rfl (lv_at hl 2 rfl) ?_
                      refine x_get C hw iwX11 10 rfl 0 rfl 1 (by decide) kw1194 rfl dX11_go_244 ?_
                      refine lv_aload_n C.1 C.2.1 dX11_go_247 rfl (lv_at hl 2 rfl) ?_
                      refine x_get C hw iwX11 10 rfl 0 rfl 5 (by decide) kw1198 rfl dX11_go_248 ?_
                      refine x_iald (v := (qm_tape_c j895.toNatClampNeg)) C hw 1 rfl (i_in (by omega) (by omega)) rfl dX11_go_251 (x_gen (fun v975 => ?_))
                      refine lv_istore (lv' := [(4, .int v975), (3, .int j894), (2, .int 0), (0, .ref qm)]) C.1 C.2.1 dX11_go_252 hl (by decide) rfl (fun ls hl => ?_)
                      refine lv_iload_n C.1 C.2.1 dX11_go_254 rfl (lv_at hl 1 rfl) ?_
                      have J981 : ∀ (j980 : Int32), (0 ≤ j980.toInt ∧ j980.toInt ≤ 1) → (qm_to.toInt ≤ j895.toInt) → ∀ (H : Heap) (locs : List Loc) (ls : Array Slot), Wd G s A [(qm, .inr (10, [.int qm_thrown, .ref qm_tape, .int qm_taped, .int qm_size, .int qm_limit, .int j895, .int j9, .int qm_kind, .int j896, .int qm_sign, .int qm_fault, .int qm_place, .long j897, .int qm_told, .ref qm_now, .ref qm_read, .ref qm_kept, .ref qm_snaps, .ref qm_aside, .ref qm_name, .ref qm_readName, .ref qm_keptName, .ref qm_isKept, .ref qm_onces, .int qm_snapMany, .ref qm_order, .ref qm_ordered, .int qm_orderMany, .int qm_orderMost, .int qm_passing, .int qm_movedWho, .int qm_scratched, .ref qm_text, .int qm_texts, .int qm_seed, .ref qm_line, .ref qm_written, .int qm_lineMany, .int qm_hasWritten, .ref qm_node, .int qm_nodes, .int qm_onesMany, .int qm_within, .int qm_top])), (qm_tape, eI G 940 qm_tape_c)] H locs → lv_has ls 5 [(4, .int v975), (2, .int 0), (0, .ref qm)] → W p l e (rmD 1 0 0) s m args below meth c H locs 0 0 Q (F0 m 272 ls [.int j980]) := by
                        intro j980 hJ981_0 hJ981_1 H locs ls hw hl
                        refine lv_istore_n (lv' := [(3, .int j980), (4, .int v975), (2, .int 0), (0, .ref qm)]) C.1 C.2.1 dX11_go_272 rfl hl (by decide) rfl (fun ls hl => ?_)
                        refine lv_aload_n C.1 C.2.1 dX11_go_273 rfl (lv_at hl 3 rfl) ?_
                        refine x_get C hw iwX11 10 rfl 0 rfl 5 (by decide) kw1198 rfl dX11_go_274 ?_
                        refine lv_aload_n C.1 C.2.1 dX11_go_277 rfl (lv_at hl 3 rfl) ?_
                        refine x_get C hw iwX11 10 rfl 0 rfl 6 (by decide) kw1199 rfl dX11_go_278 ?_
                        refine lv_isub C.1 C.2.1 dX11_go_281 (x_genP (fun z : Int32 => z.toInt = j895.toInt - j9.toInt) (i_sub (X := j895.toInt) (Y := j9.toInt) rfl rfl (by omega) (by omega)) (fun v998 hv998 => ?_))
                        refine lv_bipush (v := 7) C.1 C.2.1 dX11_go_282 (by decide) ?_
                        have J1005 : ∀ (j1004 : Int64), (qm_to.toInt ≤ j895.toInt) → ∀ (H : Heap) (locs : List Loc) (ls : Array Slot), Wd G s A [(qm, .inr (10, [.int qm_thrown, .ref qm_tape, .int qm_taped, .int qm_size, .int qm_limit, .int j895, .int j9, .int qm_kind, .int j896, .int qm_sign, .int qm_fault, .int qm_place, .long j1004, .int qm_told, .ref qm_now, .ref qm_read, .ref qm_kept, .ref qm_snaps, .ref qm_aside, .ref qm_name, .ref qm_readName, .ref qm_keptName, .ref qm_isKept, .ref qm_onces, .int qm_snapMany, .ref qm_order, .ref qm_ordered, .int qm_orderMany, .int qm_orderMost, .int qm_passing, .int qm_movedWho, .int qm_scratched, .ref qm_text, .int qm_texts, .int qm_seed, .ref qm_line, .ref qm_written, .int qm_lineMany, .int qm_hasWritten, .ref qm_node, .int qm_nodes, .int qm_onesMany, .int qm_within, .int qm_top])), (qm_tape, eI G 940 qm_tape_c)] H locs → lv_has ls 5 [(3, .int j980), (4, .int v975), (2, .int 0), (0, .ref qm)] → W p l e (rmD 1 0 0) s m args below meth c H locs 0 0 Q (F0 m 307 ls []) := by
                          intro j1004 hJ1005_0 H locs ls hw hl
                          refine lv_aload_n C.1 C.2.1 dX11_go_307 rfl (lv_at hl 3 rfl) ?_
                          refine x_get C hw iwX11 10 rfl 0 rfl 5 (by decide) kw1198 rfl dX11_go_308 ?_
                          refine lv_aload_n C.1 C.2.1 dX11_go_311 rfl (lv_at hl 3 rfl) ?_
                          refine x_get C hw iwX11 10 rfl 0 rfl 6 (by decide) kw1199 rfl dX11_go_312 ?_
                          refine lv_isub C.1 C.2.1 dX11_go_315 (x_genP (fun z : Int32 => z.toInt = j895.toInt - j9.toInt) (i_sub (X := j895.toInt) (Y := j9.toInt) rfl rfl (by omega) (by omega)) (fun v1014 hv1014 => ?_))
                          refine lv_iconst (v := 3) C.1 C.2.1 dX11_go_316 (by decide) ?_
                          have J1020 : ∀ (j1019 : Int32), (qm_to.toInt ≤ j895.toInt) → ∀ (H : Heap) (locs : List Loc) (ls : Array Slot), Wd G s A [(qm, .inr (10, [.int qm_thrown, .ref qm_tape, .int qm_taped, .int qm_size, .int qm_limit, .int j895, .int j9, .int qm_kind, .int j1019, .int qm_sign, .int qm_fault, .int qm_place, .long j1004, .int qm_told, .ref qm_now, .ref qm_read, .ref qm_kept, .ref qm_snaps, .ref qm_aside, .ref qm_name, .ref qm_readName, .ref qm_keptName, .ref qm_isKept, .ref qm_onces, .int qm_snapMany, .ref qm_order, .ref qm_ordered, .int qm_orderMany, .int qm_orderMost, .int qm_passing, .int qm_movedWho, .int qm_scratched, .ref qm_text, .int qm_texts, .int qm_seed, .ref qm_line, .ref qm_written, .int qm_lineMany, .int qm_hasWritten, .ref qm_node, .int qm_nodes, .int qm_onesMany, .int qm_within, .int qm_top])), (qm_tape, eI G 940 qm_tape_c)] H locs → lv_has ls 5 [(3, .int j980), (2, .int 0), (0, .ref qm)] → W p l e (rmD 1 0 0) s m args below meth c H locs 0 0 Q (F0 m 337 ls []) := by
                            intro j1019 hJ1020_0 H locs ls hw hl
                            refine lv_aload_n C.1 C.2.1 dX11_go_337 rfl (lv_at hl 2 rfl) ?_
                            refine lv_dup C.1 C.2.1 dX11_go_338 rfl ?_
                            refine x_get C hw iwX11 10 rfl 0 rfl 5 (by decide) kw1198 rfl dX11_go_339 ?_
                            refine lv_iconst (v := 1) C.1 C.2.1 dX11_go_342 (by decide) ?_
                            refine lv_iadd C.1 C.2.1 dX11_go_343 (x_genP (fun z : Int32 => z.toInt = j895.toInt + 1) (i_add (X := j895.toInt) (Y := 1) rfl rfl (by omega) (by omega)) (fun v1022 hv1022 => ?_))
                            refine x_put (w' := [(qm, .inr (10, [.int qm_thrown, .ref qm_tape, .int qm_taped, .int qm_size, .int qm_limit, .int v1022, .int j9, .int qm_kind, .int j1019, .int qm_sign, .int qm_fault, .int qm_place, .long j1004, .int qm_told, .ref qm_now, .ref qm_read, .ref qm_kept, .ref qm_snaps, .ref qm_aside, .ref qm_name, .ref qm_readName, .ref qm_keptName, .ref qm_isKept, .ref qm_onces, .int qm_snapMany, .ref qm_order, .ref qm_ordered, .int qm_orderMany, .int qm_orderMost, .int qm_passing, .int qm_movedWho, .int qm_scratched, .ref qm_text, .int qm_texts, .int qm_seed, .ref qm_line, .ref qm_written, .int qm_lineMany, .int qm_hasWritten, .ref qm_node, .int qm_nodes, .int qm_onesMany, .int qm_within, .int qm_top])), (qm_tape, eI G 940 qm_tape_c)]) C hw iwX11 tyX11_ok nmX11 10 rfl 0 rfl 5 (by decide) kw1198 rfl rfl rfl (Nat.le_of_ble_eq_true rfl) rfl dX11_go_344 (fun H locs hw => ?_)
                            refine lv_goto (tgt := 215) C.1 C.2.1 dX11_go_347 (by decide) ?_
                            exact ihJ898 j980 v1022 j1019 j1004 (by omega) (by omega) (by omega) (by omega) _ _ _ hw (lv_sub hl [0, 1, 2] rfl)
                          refine lv_icmp_ge (tgt := 337) C.1 C.2.1 dX11_go_317 (by decide) (fun c1015 => ?_) (fun c1015 => ?_)
                          · skip
                            have c1015 : 3 ≤ v1014.toInt := i_leT (X := 3) (Y := v1014.toInt) rfl rfl c1015
                            exact J1020 j896  (by omega) _ _ _ hw (lv_sub hl [0, 2, 3] rfl)
                          · skip
                            have c1015 : v1014.toInt < 3 := i_leF (X := 3) (Y := v1014.toInt) rfl rfl c1015
                            refine lv_aload_n C.1 C.2.1 dX11_go_320 rfl (lv_at hl 3 rfl) ?_
                            refine lv_bipush (v := 10) C.1 C.2.1 dX11_go_321 (by decide) ?_
                            refine lv_aload_n C.1 C.2.1 dX11_go_323 rfl (lv_at hl 3 rfl) ?_
                            refine x_get C hw iwX11 10 rfl 0 rfl 8 (by decide) kw1201 rfl dX11_go_324 ?_
                            refine lv_imul C.1 C.2.1 dX11_go_327 (x_gen (fun v1023 => ?_))
                            refine lv_iload C.1 C.2.1 dX11_go_328 (lv_at hl 1 rfl) ?_
                            refine lv_iadd C.1 C.2.1 dX11_go_330 (x_gen (fun v1024 => ?_))
                            refine lv_bipush (v := 48) C.1 C.2.1 dX11_go_331 (by decide) ?_
                            refine lv_isub C.1 C.2.1 dX11_go_333 (x_gen (fun v1025 => ?_))
                            refine x_put (w' := [(qm, .inr (10, [.int qm_thrown, .ref qm_tape, .int qm_taped, .int qm_size, .int qm_limit, .int j895, .int j9, .int qm_kind, .int v1025, .int qm_sign, .int qm_fault, .int qm_place, .long j1004, .int qm_told, .ref qm_now, .ref qm_read, .ref qm_kept, .ref qm_snaps, .ref qm_aside, .ref qm_name, .ref qm_readName, .ref qm_keptName, .ref qm_isKept, .ref qm_onces, .int qm_snapMany, .ref qm_order, .ref qm_ordered, .int qm_orderMany, .int qm_orderMost, .int qm_passing, .int qm_movedWho, .int qm_scratched, .ref qm_text, .int qm_texts, .int qm_seed, .ref qm_line, .ref qm_written, .int qm_lineMany, .int qm_hasWritten, .ref qm_node, .int qm_nodes, .int qm_onesMany, .int qm_within, .int qm_top])), (qm_tape, eI G 940 qm_tape_c)]) C hw iwX11 tyX11_ok nmX11 10 rfl 0 rfl 8 (by decide) kw1201 rfl rfl rfl (Nat.le_of_ble_eq_true rfl) rfl dX11_go_334 (fun H locs hw => ?_)
                            exact J1020 v1025  (by omega) _ _ _ hw (lv_sub hl [0, 2, 3] rfl)
                        refine lv_icmp_ge (tgt := 307) C.1 C.2.1 dX11_go_284 (by decide) (fun c999 => ?_) (fun c999 => ?_)
                        · skip
                          have c999 : 7 ≤ v998.toInt := i_leT (X := 7) (Y := v998.toInt) rfl rfl c999
                          exact J1005 j897  (by omega) _ _ _ hw (lv_sub hl [0, 1, 2, 3] rfl)
                        · skip
                          have c999 : v998.toInt < 7 := i_leF (X := 7) (Y := v998.toInt) rfl rfl c999
                          refine lv_aload_n C.1 C.2.1 dX11_go_287 rfl (lv_at hl 3 rfl) ?_
                          refine lv_ldc2 (v := 27) C.1 C.2.1 C.2.2.2.1 (C.2.2.2.2 _ kw1353) dX11_go_288 ?_
                          refine lv_aload_n C.1 C.2.1 dX11_go_291 rfl (lv_at hl 3 rfl) ?_
                          refine x_get C hw iwX11 10 rfl 0 rfl 12 (by decide) kw1205 rfl dX11_go_292 ?_
                          refine lv_lmul C.1 C.2.1 dX11_go_295 (x_genl (fun v1026 => ?_))
                          refine lv_iload C.1 C.2.1 dX11_go_296 (lv_at hl 1 rfl) ?_
                          refine lv_i2l (v := v975.toInt64) C.1 C.2.1 dX11_go_298 rfl (x_genl (fun v1027 => ?_))
                          refine lv_ladd C.1 C.2.1 dX11_go_299 (x_genl (fun v1028 => ?_))
                          refine lv_ldc2 (v := 96) C.1 C.2.1 C.2.2.2.1 (C.2.2.2.2 _ kw1354) dX11_go_300 ?_
                          refine lv_lsub C.1 C.2.1 dX11_go_303 (x_genl (fun v1029 => ?_))
                          refine x_put (w' := [(qm, .inr (10, [.int qm_thrown, .ref qm_tape, .int qm_taped, .int qm_size, .int qm_limit, .int j895, .int j9, .int qm_kind, .int j896, .int qm_sign, .int qm_fault, .int qm_place, .long v1029, .int qm_told, .ref qm_now, .ref qm_read, .ref qm_kept, .ref qm_snaps, .ref qm_aside, .ref qm_name, .ref qm_readName, .ref qm_keptName, .ref qm_isKept, .ref qm_onces, .int qm_snapMany, .ref qm_order, .ref qm_ordered, .int qm_orderMany, .int qm_orderMost, .int qm_passing, .int qm_movedWho, .int qm_scratched, .ref qm_text, .int qm_texts, .int qm_seed, .ref qm_line, .ref qm_written, .int qm_lineMany, .int qm_hasWritten, .ref qm_node, .int qm_nodes, .int qm_onesMany, .int qm_within, .int qm_top])), (qm_tape, eI G 940 qm_tape_c)]) C hw iwX11 tyX11_ok nmX11 10 rfl 0 rfl 12 (by decide) kw1205 rfl rfl rfl (Nat.le_of_ble_eq_true rfl) rfl dX11_go_304 (fun H locs hw => ?_)
                          exact J1005 v1029  (by omega) _ _ _ hw (lv_sub hl [0, 1, 2, 3] rfl)
                      have J979 : (qm_to.toInt ≤ j895.toInt) → ∀ (H : Heap) (locs : List Loc) (ls : Array Slot), Wd G s A [(qm, .inr (10, [.int qm_thrown, .ref qm_tape, .int qm_taped, .int qm_size, .int qm_limit, .int j895, .int j9, .int qm_kind, .int j896, .int qm_sign, .int qm_fault, .int qm_place, .long j897, .int qm_told, .ref qm_now, .ref qm_read, .ref qm_kept, .ref qm_snaps, .ref qm_aside, .ref qm_name, .ref qm_readName, .ref qm_keptName, .ref qm_isKept, .ref qm_onces, .int qm_snapMany, .ref qm_order, .ref qm_ordered, .int qm_orderMany, .int qm_orderMost, .int qm_passing, .int qm_movedWho, .int qm_scratched, .ref qm_text, .int qm_texts, .int qm_seed, .ref qm_line, .ref qm_written, .int qm_lineMany, .int qm_hasWritten, .ref qm_node, .int qm_nodes, .int qm_onesMany, .int qm_within, .int qm_top])), (qm_tape, eI G 940 qm_tape_c)] H locs → lv_has ls 5 [(4, .int v975), (2, .int 0), (0, .ref qm)] → W p l e (rmD 1 0 0) s m args below meth c H locs 0 0 Q (F0 m 271 ls []) := by
                        intro  hJ979_0 H locs ls hw hl
                        refine lv_iconst (v := 0) C.1 C.2.1 dX11_go_271 (by decide) ?_
                        exact J981 0  (by decide) (by omega) _ _ _ hw (lv_sub hl [0, 1, 2] rfl)
                      refine lv_if_eq (tgt := 271) C.1 C.2.1 dX11_go_255 (by decide) (fun c976 => ?_) (fun c976 => ?_)
                      · skip
                        have c976 : j894.toInt = 0 := i_eqT (X := j894.toInt) (Y := 0) rfl rfl c976
                        exact J979   (by omega) _ _ _ hw (lv_sub hl [0, 2, 3] rfl)
                      · skip
                        have c976 : j894.toInt ≠ 0 := i_eqF (X := j894.toInt) (Y := 0) rfl rfl c976
                        refine lv_iload C.1 C.2.1 dX11_go_258 (lv_at hl 0 rfl) ?_
                        refine x_calliS (As := [.int v975]) (rest := []) (wr := [(qm, .inr (10, [.int qm_thrown, .ref qm_tape, .int qm_taped, .int qm_size, .int qm_limit, .int j895, .int j9, .int qm_kind, .int j896, .int qm_sign, .int qm_fault, .int qm_place, .long j897, .int qm_told, .ref qm_now, .ref qm_read, .ref qm_kept, .ref qm_snaps, .ref qm_aside, .ref qm_name, .ref qm_readName, .ref qm_keptName, .ref qm_isKept, .ref qm_onces, .int qm_snapMany, .ref qm_order, .ref qm_ordered, .int qm_orderMany, .int qm_orderMost, .int qm_passing, .int qm_movedWho, .int qm_scratched, .ref qm_text, .int qm_texts, .int qm_seed, .ref qm_line, .ref qm_written, .int qm_lineMany, .int qm_hasWritten, .ref qm_node, .int qm_nodes, .int qm_onesMany, .int qm_within, .int qm_top])), (qm_tape, eI G 940 qm_tape_c)]) C hw (s_X11_isLetter v975) mwX11_isLetter kw1343 [] [0, 1] rfl rfl rfl rfl (by decide) rfl hl.1 rfl (Nat.le_of_ble_eq_true rfl) ⟨(Nat.le_of_ble_eq_true rfl), (Nat.le_of_ble_eq_true rfl)⟩ ⟨(Nat.le_of_ble_eq_true rfl), (Nat.le_of_ble_eq_true rfl)⟩ dX11_go_260 (fun r1030 u9 H locs hp9 hw => ?_)
                        rcases hp9 with ⟨rfl, rfl⟩ | ⟨rfl, rfl, hf1031⟩
                        · skip
                          have hw : Wd G s A [(qm, .inr (10, [.int qm_thrown, .ref qm_tape, .int qm_taped, .int qm_size, .int qm_limit, .int j895, .int j9, .int qm_kind, .int j896, .int qm_sign, .int qm_fault, .int qm_place, .long j897, .int qm_told, .ref qm_now, .ref qm_read, .ref qm_kept, .ref qm_snaps, .ref qm_aside, .ref qm_name, .ref qm_readName, .ref qm_keptName, .ref qm_isKept, .ref qm_onces, .int qm_snapMany, .ref qm_order, .ref qm_ordered, .int qm_orderMany, .int qm_orderMost, .int qm_passing, .int qm_movedWho, .int qm_scratched, .ref qm_text, .int qm_texts, .int qm_seed, .ref qm_line, .ref qm_written, .int qm_lineMany, .int qm_hasWritten, .ref qm_node, .int qm_nodes, .int qm_onesMany, .int qm_within, .int qm_top])), (qm_tape, eI G 940 qm_tape_c)] H _ := hw
                          refine lv_iload_n C.1 C.2.1 dX11_go_263 rfl (lv_at hl 2 rfl) ?_
                          refine lv_icmp_ne (tgt := 271) C.1 C.2.1 dX11_go_264 (by decide) (fun h9 => absurd (by decide) h9) (fun _ => ?_)
                          refine lv_iconst (v := 1) C.1 C.2.1 dX11_go_267 (by decide) ?_
                          refine lv_goto (tgt := 272) C.1 C.2.1 dX11_go_268 (by decide) ?_
                          exact J981 1  (by decide) (by omega) _ _ _ hw (lv_sub hl [0, 2, 3] rfl)
                        · skip
                          have hw : Wd G s A [(qm, .inr (10, [.int qm_thrown, .ref qm_tape, .int qm_taped, .int qm_size, .int qm_limit, .int j895, .int j9, .int qm_kind, .int j896, .int qm_sign, .int qm_fault, .int qm_place, .long j897, .int qm_told, .ref qm_now, .ref qm_read, .ref qm_kept, .ref qm_snaps, .ref qm_aside, .ref qm_name, .ref qm_readName, .ref qm_keptName, .ref qm_isKept, .ref qm_onces, .int qm_snapMany, .ref qm_order, .ref qm_ordered, .int qm_orderMany, .int qm_orderMost, .int qm_passing, .int qm_movedWho, .int qm_scratched, .ref qm_text, .int qm_texts, .int qm_seed, .ref qm_line, .ref qm_written, .int qm_lineMany, .int qm_hasWritten, .ref qm_node, .int qm_nodes, .int qm_onesMany, .int qm_within, .int qm_top])), (qm_tape, eI G 940 qm_tape_c)] H _ := hw
                          refine lv_iload_n C.1 C.2.1 dX11_go_263 rfl (lv_at hl 2 rfl) ?_
                          refine lv_icmp_ne (tgt := 271) C.1 C.2.1 dX11_go_264 (by decide) (fun _ => ?_) (fun h9 => absurd h9 (by decide))
                          exact J979   (by omega) _ _ _ hw (lv_sub hl [0, 2, 3] rfl)
                    rcases hp9 with ⟨rfl, rfl⟩ | ⟨rfl, rfl, hf942⟩
                    · skip
                      have hw : Wd G s A [(qm, .inr (10, [.int qm_thrown, .ref qm_tape, .int qm_taped, .int qm_size, .int qm_limit, .int j895, .int j9, .int qm_kind, .int j896, .int qm_sign, .int qm_fault, .int qm_place, .long j897, .int qm_told, .ref qm_now, .ref qm_read, .ref qm_kept, .ref qm_snaps, .ref qm_aside, .ref qm_name, .ref qm_readName, .ref qm_keptName, .ref qm_isKept, .ref qm_onces, .int qm_snapMany, .ref qm_order, .ref qm_ordered, .int qm_orderMany, .int qm_orderMost, .int qm_passing, .int qm_movedWho, .int qm_scratched, .ref qm_text, .int qm_texts, .int qm_seed, .ref qm_line, .ref qm_written, .int qm_lineMany, .int qm_hasWritten, .ref qm_node, .int qm_nodes, .int qm_onesMany, .int qm_within, .int qm_top])), (qm_tape, eI G 940 qm_tape_c)] H _ := hw
                      refine lv_if_ne (tgt := 243) C.1 C.2.1 dX11_go_226 (by decide) (fun h9 => absurd (by decide) h9) (fun _ => ?_)
                      refine lv_aload_n C.1 C.2.1 dX11_go_229 rfl (lv_at hl 2 rfl) ?_
                      refine lv_aload_n C.1 C.2.1 dX11_go_230 rfl (lv_at hl 2 rfl) ?_
                      refine x_get C hw iwX11 10 rfl 0 rfl 5 (by decide) kw1198 rfl dX11_go_231 ?_
                      refine x_calliV (As := [.int j895]) (rest := []) (wr := []) C hw (s_X11_tapeAt qm j895 qm_thrown qm_tape qm_taped qm_size qm_limit j895 j9 qm_kind j896 qm_sign qm_fault qm_place j897 qm_told qm_now qm_read qm_kept qm_snaps qm_aside qm_name qm_readName qm_keptName qm_isKept qm_onces qm_snapMany qm_order qm_ordered qm_orderMany qm_orderMost qm_passing qm_movedWho qm_scratched qm_text qm_texts qm_seed qm_line qm_written qm_lineMany qm_hasWritten qm_node qm_nodes qm_onesMany qm_within qm_top qm_tape_c (by omega) (by omega)) mwX11_tapeAt kw1349 [0, 1] [] rfl rfl rfl rfl (by decide) 0 rfl rfl rfl rfl hl.1 rfl (Nat.le_of_ble_eq_true rfl) ⟨(Nat.le_of_ble_eq_true rfl), (Nat.le_of_ble_eq_true rfl)⟩ ⟨(Nat.le_of_ble_eq_true rfl), (Nat.le_of_ble_eq_true rfl)⟩ dX11_go_234 (fun r1032 u9 H locs hp9 hw => ?_)
                      obtain ⟨x1033, rfl, rfl, hf1034⟩ := hp9
                      have hw : Wd G s A [(qm, .inr (10, [.int qm_thrown, .ref qm_tape, .int qm_taped, .int qm_size, .int qm_limit, .int j895, .int j9, .int qm_kind, .int j896, .int qm_sign, .int qm_fault, .int qm_place, .long j897, .int qm_told, .ref qm_now, .ref qm_read, .ref qm_kept, .ref qm_snaps, .ref qm_aside, .ref qm_name, .ref qm_readName, .ref qm_keptName, .ref qm_isKept, .ref qm_onces, .int qm_snapMany, .ref qm_order, .ref qm_ordered, .int qm_orderMany, .int qm_orderMost, .int qm_passing, .int qm_movedWho, .int qm_scratched, .ref qm_text, .int qm_texts, .int qm_seed, .ref qm_line, .ref qm_written, .int qm_lineMany, .int qm_hasWritten, .ref qm_node, .int qm_nodes, .int qm_onesMany, .int qm_within, .int qm_top])), (qm_tape, eI G 940 qm_tape_c)] H _ := hw
                      refine x_calliS (As := [.int r1032]) (rest := []) (wr := [(qm, .inr (10, [.int qm_thrown, .ref qm_tape, .int qm_taped, .int qm_size, .int qm_limit, .int j895, .int j9, .int qm_kind, .int j896, .int qm_sign, .int qm_fault, .int qm_place, .long j897, .int qm_told, .ref qm_now, .ref qm_read, .ref qm_kept, .ref qm_snaps, .ref qm_aside, .ref qm_name, .ref qm_readName, .ref qm_keptName, .ref qm_isKept, .ref qm_onces, .int qm_snapMany, .ref qm_order, .ref qm_ordered, .int qm_orderMany, .int qm_orderMost, .int qm_passing, .int qm_movedWho, .int qm_scratched, .ref qm_text, .int qm_texts, .int qm_seed, .ref qm_line, .ref qm_written, .int qm_lineMany, .int qm_hasWritten, .ref qm_node, .int qm_nodes, .int qm_onesMany, .int qm_within, .int qm_top])), (qm_tape, eI G 940 qm_tape_c)]) C hw (s_X11_isDigit r1032) mwX11_isDigit kw1346 [] [0, 1] rfl rfl rfl rfl (by decide) rfl hl.1 rfl (Nat.le_of_ble_eq_true rfl) ⟨(Nat.le_of_ble_eq_true rfl), (Nat.le_of_ble_eq_true rfl)⟩ ⟨(Nat.le_of_ble_eq_true rfl), (Nat.le_of_ble_eq_true rfl)⟩ dX11_go_237 (fun r1035 u9 H locs hp9 hw => ?_)
                      rcases hp9 with ⟨rfl, rfl⟩ | ⟨rfl, rfl, hf1036⟩
                      · skip
                        have hw : Wd G s A [(qm, .inr (10, [.int qm_thrown, .ref qm_tape, .int qm_taped, .int qm_size, .int qm_limit, .int j895, .int j9, .int qm_kind, .int j896, .int qm_sign, .int qm_fault, .int qm_place, .long j897, .int qm_told, .ref qm_now, .ref qm_read, .ref qm_kept, .ref qm_snaps, .ref qm_aside, .ref qm_name, .ref qm_readName, .ref qm_keptName, .ref qm_isKept, .ref qm_onces, .int qm_snapMany, .ref qm_order, .ref qm_ordered, .int qm_orderMany, .int qm_orderMost, .int qm_passing, .int qm_movedWho, .int qm_scratched, .ref qm_text, .int qm_texts, .int qm_seed, .ref qm_line, .ref qm_written, .int qm_lineMany, .int qm_hasWritten, .ref qm_node, .int qm_nodes, .int qm_onesMany, .int qm_within, .int qm_top])), (qm_tape, eI G 940 qm_tape_c)] H _ := hw
                        refine lv_if_eq (tgt := 350) C.1 C.2.1 dX11_go_240 (by decide) (fun _ => ?_) (fun h9 => absurd (by decide) h9)
                        refine lv_aload_n C.1 C.2.1 dX11_go_350 rfl (lv_at hl 2 rfl) ?_
                        refine lv_iload_n C.1 C.2.1 dX11_go_351 rfl (lv_at hl 0 rfl) ?_
                        refine lv_if_eq (tgt := 377) C.1 C.2.1 dX11_go_352 (by decide) (fun c1037 => ?_) (fun c1037 => ?_)
                        · skip
                          have c1037 : j894.toInt = 0 := i_eqT (X := j894.toInt) (Y := 0) rfl rfl c1037
                          refine lv_iconst (v := 1) C.1 C.2.1 dX11_go_377 (by decide) ?_
                          refine lv_goto (tgt := 390) C.1 C.2.1 dX11_go_378 (by decide) ?_
                          refine x_put (w' := [(qm, .inr (10, [.int qm_thrown, .ref qm_tape, .int qm_taped, .int qm_size, .int qm_limit, .int j895, .int j9, .int 1, .int j896, .int qm_sign, .int qm_fault, .int qm_place, .long j897, .int qm_told, .ref qm_now, .ref qm_read, .ref qm_kept, .ref qm_snaps, .ref qm_aside, .ref qm_name, .ref qm_readName, .ref qm_keptName, .ref qm_isKept, .ref qm_onces, .int qm_snapMany, .ref qm_order, .ref qm_ordered, .int qm_orderMany, .int qm_orderMost, .int qm_passing, .int qm_movedWho, .int qm_scratched, .ref qm_text, .int qm_texts, .int qm_seed, .ref qm_line, .ref qm_written, .int qm_lineMany, .int qm_hasWritten, .ref qm_node, .int qm_nodes, .int qm_onesMany, .int qm_within, .int qm_top])), (qm_tape, eI G 940 qm_tape_c)]) C hw iwX11 tyX11_ok nmX11 10 rfl 0 rfl 7 (by decide) kw1200 rfl rfl rfl (Nat.le_of_ble_eq_true rfl) rfl dX11_go_390 (fun H locs hw => ?_)
                          exact x_retvQ hQ B hw ⟨j895, j9, 1, j896, qm_sign, j897, rfl, (by omega), (by omega), (by decide), (by omega), (by have e0 : (1 : Int32).toInt = 1 := rfl; omega)⟩ (Nat.le_of_ble_eq_true rfl) (Nat.le_of_ble_eq_true rfl) dX11_go_393
                        · skip
                          have c1037 : j894.toInt ≠ 0 := i_eqF (X := j894.toInt) (Y := 0) rfl rfl c1037
                          refine lv_aload_n C.1 C.2.1 dX11_go_355 rfl (lv_at hl 2 rfl) ?_
                          refine x_get C hw iwX11 10 rfl 0 rfl 5 (by decide) kw1198 rfl dX11_go_356 ?_
                          refine lv_aload_n C.1 C.2.1 dX11_go_359 rfl (lv_at hl 2 rfl) ?_
                          refine x_get C hw iwX11 10 rfl 0 rfl 6 (by decide) kw1199 rfl dX11_go_360 ?_
                          refine lv_isub C.1 C.2.1 dX11_go_363 (x_genP (fun z : Int32 => z.toInt = j895.toInt - j9.toInt) (i_sub (X := j895.toInt) (Y := j9.toInt) rfl rfl (by omega) (by omega)) (fun v1038 hv1038 => ?_))
                          refine lv_iload_n C.1 C.2.1 dX11_go_364 rfl (lv_at hl 1 rfl) ?_
                          refine lv_if_eq (tgt := 373) C.1 C.2.1 dX11_go_365 (by decide) (fun _ => ?_) (fun h9 => absurd (by decide) h9)
                          refine lv_iconst (v := 3) C.1 C.2.1 dX11_go_373 (by decide) ?_
                          refine lv_icmp_le (tgt := 381) C.1 C.2.1 dX11_go_374 (by decide) (fun c1039 => ?_) (fun c1039 => ?_)
                          · skip
                            have c1039 : v1038.toInt ≤ 3 := i_leT (X := v1038.toInt) (Y := 3) rfl rfl c1039
                            refine lv_iload_n C.1 C.2.1 dX11_go_381 rfl (lv_at hl 1 rfl) ?_
                            refine lv_if_eq (tgt := 389) C.1 C.2.1 dX11_go_382 (by decide) (fun _ => ?_) (fun h9 => absurd (by decide) h9)
                            refine lv_iconst (v := 3) C.1 C.2.1 dX11_go_389 (by decide) ?_
                            refine x_put (w' := [(qm, .inr (10, [.int qm_thrown, .ref qm_tape, .int qm_taped, .int qm_size, .int qm_limit, .int j895, .int j9, .int 3, .int j896, .int qm_sign, .int qm_fault, .int qm_place, .long j897, .int qm_told, .ref qm_now, .ref qm_read, .ref qm_kept, .ref qm_snaps, .ref qm_aside, .ref qm_name, .ref qm_readName, .ref qm_keptName, .ref qm_isKept, .ref qm_onces, .int qm_snapMany, .ref qm_order, .ref qm_ordered, .int qm_orderMany, .int qm_orderMost, .int qm_passing, .int qm_movedWho, .int qm_scratched, .ref qm_text, .int qm_texts, .int qm_seed, .ref qm_line, .ref qm_written, .int qm_lineMany, .int qm_hasWritten, .ref qm_node, .int qm_nodes, .int qm_onesMany, .int qm_within, .int qm_top])), (qm_tape, eI G 940 qm_tape_c)]) C hw iwX11 tyX11_ok nmX11 10 rfl 0 rfl 7 (by decide) kw1200 rfl rfl rfl (Nat.le_of_ble_eq_true rfl) rfl dX11_go_390 (fun H locs hw => ?_)
                            exact x_retvQ hQ B hw ⟨j895, j9, 3, j896, qm_sign, j897, rfl, (by omega), (by omega), (by decide), (by omega), (by have e0 : (3 : Int32).toInt = 3 := rfl; omega)⟩ (Nat.le_of_ble_eq_true rfl) (Nat.le_of_ble_eq_true rfl) dX11_go_393
                          · skip
                            have c1039 : 3 < v1038.toInt := i_leF (X := v1038.toInt) (Y := 3) rfl rfl c1039
                            refine lv_iconst (v := 1) C.1 C.2.1 dX11_go_377 (by decide) ?_
                            refine lv_goto (tgt := 390) C.1 C.2.1 dX11_go_378 (by decide) ?_
                            refine x_put (w' := [(qm, .inr (10, [.int qm_thrown, .ref qm_tape, .int qm_taped, .int qm_size, .int qm_limit, .int j895, .int j9, .int 1, .int j896, .int qm_sign, .int qm_fault, .int qm_place, .long j897, .int qm_told, .ref qm_now, .ref qm_read, .ref qm_kept, .ref qm_snaps, .ref qm_aside, .ref qm_name, .ref qm_readName, .ref qm_keptName, .ref qm_isKept, .ref qm_onces, .int qm_snapMany, .ref qm_order, .ref qm_ordered, .int qm_orderMany, .int qm_orderMost, .int qm_passing, .int qm_movedWho, .int qm_scratched, .ref qm_text, .int qm_texts, .int qm_seed, .ref qm_line, .ref qm_written, .int qm_lineMany, .int qm_hasWritten, .ref qm_node, .int qm_nodes, .int qm_onesMany, .int qm_within, .int qm_top])), (qm_tape, eI G 940 qm_tape_c)]) C hw iwX11 tyX11_ok nmX11 10 rfl 0 rfl 7 (by decide) kw1200 rfl rfl rfl (Nat.le_of_ble_eq_true rfl) rfl dX11_go_390 (fun H locs hw => ?_)
                            exact x_retvQ hQ B hw ⟨j895, j9, 1, j896, qm_sign, j897, rfl, (by omega), (by omega), (by decide), (by omega), (by have e0 : (1 : Int32).toInt = 1 := rfl; omega)⟩ (Nat.le_of_ble_eq_true rfl) (Nat.le_of_ble_eq_true rfl) dX11_go_393
                      · skip
                        have hw : Wd G s A [(qm, .inr (10, [.int qm_thrown, .ref qm_tape, .int qm_taped, .int qm_size, .int qm_limit, .int j895, .int j9, .int qm_kind, .int j896, .int qm_sign, .int qm_fault, .int qm_place, .long j897, .int qm_told, .ref qm_now, .ref qm_read, .ref qm_kept, .ref qm_snaps, .ref qm_aside, .ref qm_name, .ref qm_readName, .ref qm_keptName, .ref qm_isKept, .ref qm_onces, .int qm_snapMany, .ref qm_order, .ref qm_ordered, .int qm_orderMany, .int qm_orderMost, .int qm_passing, .int qm_movedWho, .int qm_scratched, .ref qm_text, .int qm_texts, .int qm_seed, .ref qm_line, .ref qm_written, .int qm_lineMany, .int qm_hasWritten, .ref qm_node, .int qm_nodes, .int qm_onesMany, .int qm_within, .int qm_top])), (qm_tape, eI G 940 qm_tape_c)] H _ := hw
                        refine lv_if_eq (tgt := 350) C.1 C.2.1 dX11_go_240 (by decide) (fun h9 => absurd h9 (by decide)) (fun _ => ?_)
                        exact J951   (by omega) (by omega) _ _ _ hw (lv_sub hl [0, 1, 2] rfl)
                    · skip
                      have hw : Wd G s A [(qm, .inr (10, [.int qm_thrown, .ref qm_tape, .int qm_taped, .int qm_size, .int qm_limit, .int j895, .int j9, .int qm_kind, .int j896, .int qm_sign, .int qm_fault, .int qm_place, .long j897, .int qm_told, .ref qm_now, .ref qm_read, .ref qm_kept, .ref qm_snaps, .ref qm_aside, .ref qm_name, .ref qm_readName, .ref qm_keptName, .ref qm_isKept, .ref qm_onces, .int qm_snapMany, .ref qm_order, .ref qm_ordered, .int qm_orderMany, .int qm_orderMost, .int qm_passing, .int qm_movedWho, .int qm_scratched, .ref qm_text, .int qm_texts, .int qm_seed, .ref qm_line, .ref qm_written, .int qm_lineMany, .int qm_hasWritten, .ref qm_node, .int qm_nodes, .int qm_onesMany, .int qm_within, .int qm_top])), (qm_tape, eI G 940 qm_tape_c)] H _ := hw
                      refine lv_if_ne (tgt := 243) C.1 C.2.1 dX11_go_226 (by decide) (fun _ => ?_) (fun h9 => absurd h9 (by decide))
                      exact J951   (by omega) (by omega) _ _ _ hw (lv_sub hl [0, 1, 2] rfl)
                exact loopJ898 _ 1 j9 0 0 (Nat.lt_succ_self _) (by decide) (by omega) (by omega) _ _ _ hw (lv_sub hl [0, 1, 3] rfl)
              · skip
                have hw : Wd G s A [(qm, .inr (10, [.int qm_thrown, .ref qm_tape, .int qm_taped, .int qm_size, .int qm_limit, .int j9, .int j9, .int qm_kind, .int qm_number, .int qm_sign, .int qm_fault, .int qm_place, .long qm_word, .int qm_told, .ref qm_now, .ref qm_read, .ref qm_kept, .ref qm_snaps, .ref qm_aside, .ref qm_name, .ref qm_readName, .ref qm_keptName, .ref qm_isKept, .ref qm_onces, .int qm_snapMany, .ref qm_order, .ref qm_ordered, .int qm_orderMany, .int qm_orderMost, .int qm_passing, .int qm_movedWho, .int qm_scratched, .ref qm_text, .int qm_texts, .int qm_seed, .ref qm_line, .ref qm_written, .int qm_lineMany, .int qm_hasWritten, .ref qm_node, .int qm_nodes, .int qm_onesMany, .int qm_within, .int qm_top])), (qm_tape, eI G 940 qm_tape_c)] H _ := hw
                refine lv_istore_n (lv' := [(2, .int 1), (1, .int v577), (0, .ref qm)]) C.1 C.2.1 dX11_go_202 rfl hl (by decide) rfl (fun ls hl => ?_)
                refine lv_iconst (v := 1) C.1 C.2.1 dX11_go_203 (by decide) ?_
                refine lv_istore_n (lv' := [(3, .int 1), (2, .int 1), (1, .int v577), (0, .ref qm)]) C.1 C.2.1 dX11_go_204 rfl hl (by decide) rfl (fun ls hl => ?_)
                refine lv_aload_n C.1 C.2.1 dX11_go_205 rfl (lv_at hl 3 rfl) ?_
                refine lv_lconst (v := 0) C.1 C.2.1 dX11_go_206 (by decide) ?_
                refine x_put (w' := [(qm, .inr (10, [.int qm_thrown, .ref qm_tape, .int qm_taped, .int qm_size, .int qm_limit, .int j9, .int j9, .int qm_kind, .int qm_number, .int qm_sign, .int qm_fault, .int qm_place, .long 0, .int qm_told, .ref qm_now, .ref qm_read, .ref qm_kept, .ref qm_snaps, .ref qm_aside, .ref qm_name, .ref qm_readName, .ref qm_keptName, .ref qm_isKept, .ref qm_onces, .int qm_snapMany, .ref qm_order, .ref qm_ordered, .int qm_orderMany, .int qm_orderMost, .int qm_passing, .int qm_movedWho, .int qm_scratched, .ref qm_text, .int qm_texts, .int qm_seed, .ref qm_line, .ref qm_written, .int qm_lineMany, .int qm_hasWritten, .ref qm_node, .int qm_nodes, .int qm_onesMany, .int qm_within, .int qm_top])), (qm_tape, eI G 940 qm_tape_c)]) C hw iwX11 tyX11_ok nmX11 10 rfl 0 rfl 12 (by decide) kw1205 rfl rfl rfl (Nat.le_of_ble_eq_true rfl) rfl dX11_go_207 (fun H locs hw => ?_)
                refine lv_aload_n C.1 C.2.1 dX11_go_210 rfl (lv_at hl 3 rfl) ?_
                refine lv_iconst (v := 0) C.1 C.2.1 dX11_go_211 (by decide) ?_
                refine x_put (w' := [(qm, .inr (10, [.int qm_thrown, .ref qm_tape, .int qm_taped, .int qm_size, .int qm_limit, .int j9, .int j9, .int qm_kind, .int 0, .int qm_sign, .int qm_fault, .int qm_place, .long 0, .int qm_told, .ref qm_now, .ref qm_read, .ref qm_kept, .ref qm_snaps, .ref qm_aside, .ref qm_name, .ref qm_readName, .ref qm_keptName, .ref qm_isKept, .ref qm_onces, .int qm_snapMany, .ref qm_order, .ref qm_ordered, .int qm_orderMany, .int qm_orderMost, .int qm_passing, .int qm_movedWho, .int qm_scratched, .ref qm_text, .int qm_texts, .int qm_seed, .ref qm_line, .ref qm_written, .int qm_lineMany, .int qm_hasWritten, .ref qm_node, .int qm_nodes, .int qm_onesMany, .int qm_within, .int qm_top])), (qm_tape, eI G 940 qm_tape_c)]) C hw iwX11 tyX11_ok nmX11 10 rfl 0 rfl 8 (by decide) kw1201 rfl rfl rfl (Nat.le_of_ble_eq_true rfl) rfl dX11_go_212 (fun H locs hw => ?_)
                have loopJ1089 : ∀ (n9 : Nat) (j1085 : Int32) (j1086 : Int32) (j1087 : Int32) (j1088 : Int64), (2147483647 - j1086.toInt).toNat < n9 → (0 ≤ j1085.toInt ∧ j1085.toInt ≤ 1) → (0 ≤ j1086.toInt ∧ j1086.toInt ≤ 940) → (qm_to.toInt ≤ j1086.toInt) → ∀ (H : Heap) (locs : List Loc) (ls : Array Slot), Wd G s A [(qm, .inr (10, [.int qm_thrown, .ref qm_tape, .int qm_taped, .int qm_size, .int qm_limit, .int j1086, .int j9, .int qm_kind, .int j1087, .int qm_sign, .int qm_fault, .int qm_place, .long j1088, .int qm_told, .ref qm_now, .ref qm_read, .ref qm_kept, .ref qm_snaps, .ref qm_aside, .ref qm_name, .ref qm_readName, .ref qm_keptName, .ref qm_isKept, .ref qm_onces, .int qm_snapMany, .ref qm_order, .ref qm_ordered, .int qm_orderMany, .int qm_orderMost, .int qm_passing, .int qm_movedWho, .int qm_scratched, .ref qm_text, .int qm_texts, .int qm_seed, .ref qm_line, .ref qm_written, .int qm_lineMany, .int qm_hasWritten, .ref qm_node, .int qm_nodes, .int qm_onesMany, .int qm_within, .int qm_top])), (qm_tape, eI G 940 qm_tape_c)] H locs → lv_has ls 5 [(3, .int j1085), (2, .int 1), (0, .ref qm)] → W p l e (rmD 1 0 0) s m args below meth c H locs 0 0 Q (F0 m 215 ls []) := by
                  intro n9
                  induction n9 with
                  | zero => intro j1085 j1086 j1087 j1088 h9; exact absurd h9 (Nat.not_lt_zero _)
                  | succ n9 ihJ1089 =>
                    intro j1085 j1086 j1087 j1088 h9J1089 hJ1089_0 hJ1089_1 hJ1089_2 H locs ls hw hl
                    have hbj1086 := i_bd j1086
                    refine lv_aload_n C.1 C.2.1 dX11_go_215 rfl (lv_at hl 2 rfl) ?_
                    refine lv_aload_n C.1 C.2.1 dX11_go_216 rfl (lv_at hl 2 rfl) ?_
                    refine x_get C hw iwX11 10 rfl 0 rfl 5 (by decide) kw1198 rfl dX11_go_217 ?_
                    refine x_calliV (As := [.int j1086]) (rest := []) (wr := []) C hw (s_X11_tapeAt qm j1086 qm_thrown qm_tape qm_taped qm_size qm_limit j1086 j9 qm_kind j1087 qm_sign qm_fault qm_place j1088 qm_told qm_now qm_read qm_kept qm_snaps qm_aside qm_name qm_readName qm_keptName qm_isKept qm_onces qm_snapMany qm_order qm_ordered qm_orderMany qm_orderMost qm_passing qm_movedWho qm_scratched qm_text qm_texts qm_seed qm_line qm_written qm_lineMany qm_hasWritten qm_node qm_nodes qm_onesMany qm_within qm_top qm_tape_c (by omega) (by omega)) mwX11_tapeAt kw1349 [0, 1] [] rfl rfl rfl rfl (by decide) 0 rfl rfl rfl rfl hl.1 rfl (Nat.le_of_ble_eq_true rfl) ⟨(Nat.le_of_ble_eq_true rfl), (Nat.le_of_ble_eq_true rfl)⟩ ⟨(Nat.le_of_ble_eq_true rfl), (Nat.le_of_ble_eq_true rfl)⟩ dX11_go_220 (fun r1129 u9 H locs hp9 hw => ?_)
                    obtain ⟨x1130, rfl, rfl, hf1131⟩ := hp9
                    have hw : Wd G s A [(qm, .inr (10, [.int qm_thrown, .ref qm_tape, .int qm_taped, .int qm_size, .int qm_limit, .int j1086, .int j9, .int qm_kind, .int j1087, .int qm_sign, .int qm_fault, .int qm_place, .long j1088, .int qm_told, .ref qm_now, .ref qm_read, .ref qm_kept, .ref qm_snaps, .ref qm_aside, .ref qm_name, .ref qm_readName, .ref qm_keptName, .ref qm_isKept, .ref qm_onces, .int qm_snapMany, .ref qm_order, .ref qm_ordered, .int qm_orderMany, .int qm_orderMost, .int qm_passing, .int qm_movedWho, .int qm_scratched, .ref qm_text, .int qm_texts, .int qm_seed, .ref qm_line, .ref qm_written, .int qm_lineMany, .int qm_hasWritten, .ref qm_node, .int qm_nodes, .int qm_onesMany, .int qm_within, .int qm_top])), (qm_tape, eI G 940 qm_tape_c)] H _ := hw
                    refine x_calliS (As := [.int r1129]) (rest := []) (wr := [(qm, .inr (10, [.int qm_thrown, .ref qm_tape, .int qm_taped, .int qm_size, .int qm_limit, .int j1086, .int j9, .int qm_kind, .int j1087, .int qm_sign, .int qm_fault, .int qm_place, .long j1088, .int qm_told, .ref qm_now, .ref qm_read, .ref qm_kept, .ref qm_snaps, .ref qm_aside, .ref qm_name, .ref qm_readName, .ref qm_keptName, .ref qm_isKept, .ref qm_onces, .int qm_snapMany, .ref qm_order, .ref qm_ordered, .int qm_orderMany, .int qm_orderMost, .int qm_passing, .int qm_movedWho, .int qm_scratched, .ref qm_text, .int qm_texts, .int qm_seed, .ref qm_line, .ref qm_written, .int qm_lineMany, .int qm_hasWritten, .ref qm_node, .int qm_nodes, .int qm_onesMany, .int qm_within, .int qm_top])), (qm_tape, eI G 940 qm_tape_c)]) C hw (s_X11_isLetter r1129) mwX11_isLetter kw1343 [] [0, 1] rfl rfl rfl rfl (by decide) rfl hl.1 rfl (Nat.le_of_ble_eq_true rfl) ⟨(Nat.le_of_ble_eq_true rfl), (Nat.le_of_ble_eq_true rfl)⟩ ⟨(Nat.le_of_ble_eq_true rfl), (Nat.le_of_ble_eq_true rfl)⟩ dX11_go_223 (fun r1132 u9 H locs hp9 hw => ?_)
                    have J1142 : (qm_to.toInt ≤ j1086.toInt) → (j1086.toInt < qm_size.toInt) → ∀ (H : Heap) (locs : List Loc) (ls : Array Slot), Wd G s A [(qm, .inr (10, [.int qm_thrown, .ref qm_tape, .int qm_taped, .int qm_size, .int qm_limit, .int j1086, .int j9, .int qm_kind, .int j1087, .int qm_sign, .int qm_fault, .int qm_place, .long j1088, .int qm_told, .ref qm_now, .ref qm_read, .ref qm_kept, .ref qm_snaps, .ref qm_aside, .ref qm_name, .ref qm_readName, .ref qm_keptName, .ref qm_isKept, .ref qm_onces, .int qm_snapMany, .ref qm_order, .ref qm_ordered, .int qm_orderMany, .int qm_orderMost, .int qm_passing, .int qm_movedWho, .int qm_scratched, .ref qm_text, .int qm_texts, .int qm_seed, .ref qm_line, .ref qm_written, .int qm_lineMany, .int qm_hasWritten, .ref qm_node, .int qm_nodes, .int qm_onesMany, .int qm_within, .int qm_top])), (qm_tape, eI G 940 qm_tape_c)] H locs → lv_has ls 5 [(3, .int j1085), (2, .int 1), (0, .ref qm)] → W p l e (rmD 1 0 0) s m args below meth c H locs 0 0 Q (F0 m 243 ls []) := by
                      intro  hJ1142_0 hJ1142_1 H locs ls hw hl
                      refine lv_aload_n C.1 C.2.1 dX11_go_243 rfl (lv_at hl 2 rfl) ?_
                      refine x_get C hw iwX11 10 rfl 0 rfl 1 (by decide) kw1194 rfl dX11_go_244 ?_
                      refine lv_aload_n C.1 C.2.1 dX11_go_247 rfl (lv_at hl 2 rfl) ?_
                      refine x_get C hw iwX11 10 rfl 0 rfl 5 (by decide) kw1198 rfl dX11_go_248 ?_
                      refine x_iald (v := (qm_tape_c j1086.toNatClampNeg)) C hw 1 rfl (i_in (by omega) (by omega)) rfl dX11_go_251 (x_gen (fun v1166 => ?_))
                      refine lv_istore (lv' := [(4, .int v1166), (3, .int j1085), (2, .int 1), (0, .ref qm)]) C.1 C.2.1 dX11_go_252 hl (by decide) rfl (fun ls hl => ?_)
                      refine lv_iload_n C.1 C.2.1 dX11_go_254 rfl (lv_at hl 1 rfl) ?_
                      have J1172 : ∀ (j1171 : Int32), (0 ≤ j1171.toInt ∧ j1171.toInt ≤ 1) → (qm_to.toInt ≤ j1086.toInt) → ∀ (H : Heap) (locs : List Loc) (ls : Array Slot), Wd G s A [(qm, .inr (10, [.int qm_thrown, .ref qm_tape, .int qm_taped, .int qm_size, .int qm_limit, .int j1086, .int j9, .int qm_kind, .int j1087, .int qm_sign, .int qm_fault, .int qm_place, .long j1088, .int qm_told, .ref qm_now, .ref qm_read, .ref qm_kept, .ref qm_snaps, .ref qm_aside, .ref qm_name, .ref qm_readName, .ref qm_keptName, .ref qm_isKept, .ref qm_onces, .int qm_snapMany, .ref qm_order, .ref qm_ordered, .int qm_orderMany, .int qm_orderMost, .int qm_passing, .int qm_movedWho, .int qm_scratched, .ref qm_text, .int qm_texts, .int qm_seed, .ref qm_line, .ref qm_written, .int qm_lineMany, .int qm_hasWritten, .ref qm_node, .int qm_nodes, .int qm_onesMany, .int qm_within, .int qm_top])), (qm_tape, eI G 940 qm_tape_c)] H locs → lv_has ls 5 [(4, .int v1166), (2, .int 1), (0, .ref qm)] → W p l e (rmD 1 0 0) s m args below meth c H locs 0 0 Q (F0 m 272 ls [.int j1171]) := by
                        intro j1171 hJ1172_0 hJ1172_1 H locs ls hw hl
                        refine lv_istore_n (lv' := [(3, .int j1171), (4, .int v1166), (2, .int 1), (0, .ref qm)]) C.1 C.2.1 dX11_go_272 rfl hl (by decide) rfl (fun ls hl => ?_)
                        refine lv_aload_n C.1 C.2.1 dX11_go_273 rfl (lv_at hl 3 rfl) ?_
                        refine x_get C hw iwX11 10 rfl 0 rfl 5 (by decide) kw1198 rfl dX11_go_274 ?_
                        refine lv_aload_n C.1 C.2.1 dX11_go_277 rfl (lv_at hl 3 rfl) ?_
                        refine x_get C hw iwX11 10 rfl 0 rfl 6 (by decide) kw1199 rfl dX11_go_278 ?_
                        refine lv_isub C.1 C.2.1 dX11_go_281 (x_genP (fun z : Int32 => z.toInt = j1086.toInt - j9.toInt) (i_sub (X := j1086.toInt) (Y := j9.toInt) rfl rfl (by omega) (by omega)) (fun v1189 hv1189 => ?_))
                        refine lv_bipush (v := 7) C.1 C.2.1 dX11_go_282 (by decide) ?_
                        have J1196 : ∀ (j1195 : Int64), (qm_to.toInt ≤ j1086.toInt) → ∀ (H : Heap) (locs : List Loc) (ls : Array Slot), Wd G s A [(qm, .inr (10, [.int qm_thrown, .ref qm_tape, .int qm_taped, .int qm_size, .int qm_limit, .int j1086, .int j9, .int qm_kind, .int j1087, .int qm_sign, .int qm_fault, .int qm_place, .long j1195, .int qm_told, .ref qm_now, .ref qm_read, .ref qm_kept, .ref qm_snaps, .ref qm_aside, .ref qm_name, .ref qm_readName, .ref qm_keptName, .ref qm_isKept, .ref qm_onces, .int qm_snapMany, .ref qm_order, .ref qm_ordered, .int qm_orderMany, .int qm_orderMost, .int qm_passing, .int qm_movedWho, .int qm_scratched, .ref qm_text, .int qm_texts, .int qm_seed, .ref qm_line, .ref qm_written, .int qm_lineMany, .int qm_hasWritten, .ref qm_node, .int qm_nodes, .int qm_onesMany, .int qm_within, .int qm_top])), (qm_tape, eI G 940 qm_tape_c)] H locs → lv_has ls 5 [(3, .int j1171), (4, .int v1166), (2, .int 1), (0, .ref qm)] → W p l e (rmD 1 0 0) s m args below meth c H locs 0 0 Q (F0 m 307 ls []) := by
                          intro j1195 hJ1196_0 H locs ls hw hl
                          refine lv_aload_n C.1 C.2.1 dX11_go_307 rfl (lv_at hl 3 rfl) ?_
                          refine x_get C hw iwX11 10 rfl 0 rfl 5 (by decide) kw1198 rfl dX11_go_308 ?_
                          refine lv_aload_n C.1 C.2.1 dX11_go_311 rfl (lv_at hl 3 rfl) ?_
                          refine x_get C hw iwX11 10 rfl 0 rfl 6 (by decide) kw1199 rfl dX11_go_312 ?_
                          refine lv_isub C.1 C.2.1 dX11_go_315 (x_genP (fun z : Int32 => z.toInt = j1086.toInt - j9.toInt) (i_sub (X := j1086.toInt) (Y := j9.toInt) rfl rfl (by omega) (by omega)) (fun v1205 hv1205 => ?_))
                          refine lv_iconst (v := 3) C.1 C.2.1 dX11_go_316 (by decide) ?_
                          have J1211 : ∀ (j1210 : Int32), (qm_to.toInt ≤ j1086.toInt) → ∀ (H : Heap) (locs : List Loc) (ls : Array Slot), Wd G s A [(qm, .inr (10, [.int qm_thrown, .ref qm_tape, .int qm_taped, .int qm_size, .int qm_limit, .int j1086, .int j9, .int qm_kind, .int j1210, .int qm_sign, .int qm_fault, .int qm_place, .long j1195, .int qm_told, .ref qm_now, .ref qm_read, .ref qm_kept, .ref qm_snaps, .ref qm_aside, .ref qm_name, .ref qm_readName, .ref qm_keptName, .ref qm_isKept, .ref qm_onces, .int qm_snapMany, .ref qm_order, .ref qm_ordered, .int qm_orderMany, .int qm_orderMost, .int qm_passing, .int qm_movedWho, .int qm_scratched, .ref qm_text, .int qm_texts, .int qm_seed, .ref qm_line, .ref qm_written, .int qm_lineMany, .int qm_hasWritten, .ref qm_node, .int qm_nodes, .int qm_onesMany, .int qm_within, .int qm_top])), (qm_tape, eI G 940 qm_tape_c)] H locs → lv_has ls 5 [(3, .int j1171), (2, .int 1), (0, .ref qm)] → W p l e (rmD 1 0 0) s m args below meth c H locs 0 0 Q (F0 m 337 ls []) := by
                            intro j1210 hJ1211_0 H locs ls hw hl
                            refine lv_aload_n C.1 C.2.1 dX11_go_337 rfl (lv_at hl 2 rfl) ?_
                            refine lv_dup C.1 C.2.1 dX11_go_338 rfl ?_
                            refine x_get C hw iwX11 10 rfl 0 rfl 5 (by decide) kw1198 rfl dX11_go_339 ?_
                            refine lv_iconst (v := 1) C.1 C.2.1 dX11_go_342 (by decide) ?_
                            refine lv_iadd C.1 C.2.1 dX11_go_343 (x_genP (fun z : Int32 => z.toInt = j1086.toInt + 1) (i_add (X := j1086.toInt) (Y := 1) rfl rfl (by omega) (by omega)) (fun v1213 hv1213 => ?_))
                            refine x_put (w' := [(qm, .inr (10, [.int qm_thrown, .ref qm_tape, .int qm_taped, .int qm_size, .int qm_limit, .int v1213, .int j9, .int qm_kind, .int j1210, .int qm_sign, .int qm_fault, .int qm_place, .long j1195, .int qm_told, .ref qm_now, .ref qm_read, .ref qm_kept, .ref qm_snaps, .ref qm_aside, .ref qm_name, .ref qm_readName, .ref qm_keptName, .ref qm_isKept, .ref qm_onces, .int qm_snapMany, .ref qm_order, .ref qm_ordered, .int qm_orderMany, .int qm_orderMost, .int qm_passing, .int qm_movedWho, .int qm_scratched, .ref qm_text, .int qm_texts, .int qm_seed, .ref qm_line, .ref qm_written, .int qm_lineMany, .int qm_hasWritten, .ref qm_node, .int qm_nodes, .int qm_onesMany, .int qm_within, .int qm_top])), (qm_tape, eI G 940 qm_tape_c)]) C hw iwX11 tyX11_ok nmX11 10 rfl 0 rfl 5 (by decide) kw1198 rfl rfl rfl (Nat.le_of_ble_eq_true rfl) rfl dX11_go_344 (fun H locs hw => ?_)
                            refine lv_goto (tgt := 215) C.1 C.2.1 dX11_go_347 (by decide) ?_
                            exact ihJ1089 j1171 v1213 j1210 j1195 (by omega) (by omega) (by omega) (by omega) _ _ _ hw (lv_sub hl [0, 1, 2] rfl)
                          refine lv_icmp_ge (tgt := 337) C.1 C.2.1 dX11_go_317 (by decide) (fun c1206 => ?_) (fun c1206 => ?_)
                          · skip
                            have c1206 : 3 ≤ v1205.toInt := i_leT (X := 3) (Y := v1205.toInt) rfl rfl c1206
                            exact J1211 j1087  (by omega) _ _ _ hw (lv_sub hl [0, 2, 3] rfl)
                          · skip
                            have c1206 : v1205.toInt < 3 := i_leF (X := 3) (Y := v1205.toInt) rfl rfl c1206
                            refine lv_aload_n C.1 C.2.1 dX11_go_320 rfl (lv_at hl 3 rfl) ?_
                            refine lv_bipush (v := 10) C.1 C.2.1 dX11_go_321 (by decide) ?_
                            refine lv_aload_n C.1 C.2.1 dX11_go_323 rfl (lv_at hl 3 rfl) ?_
                            refine x_get C hw iwX11 10 rfl 0 rfl 8 (by decide) kw1201 rfl dX11_go_324 ?_
                            refine lv_imul C.1 C.2.1 dX11_go_327 (x_gen (fun v1214 => ?_))
                            refine lv_iload C.1 C.2.1 dX11_go_328 (lv_at hl 1 rfl) ?_
                            refine lv_iadd C.1 C.2.1 dX11_go_330 (x_gen (fun v1215 => ?_))
                            refine lv_bipush (v := 48) C.1 C.2.1 dX11_go_331 (by decide) ?_
                            refine lv_isub C.1 C.2.1 dX11_go_333 (x_gen (fun v1216 => ?_))
                            refine x_put (w' := [(qm, .inr (10, [.int qm_thrown, .ref qm_tape, .int qm_taped, .int qm_size, .int qm_limit, .int j1086, .int j9, .int qm_kind, .int v1216, .int qm_sign, .int qm_fault, .int qm_place, .long j1195, .int qm_told, .ref qm_now, .ref qm_read, .ref qm_kept, .ref qm_snaps, .ref qm_aside, .ref qm_name, .ref qm_readName, .ref qm_keptName, .ref qm_isKept, .ref qm_onces, .int qm_snapMany, .ref qm_order, .ref qm_ordered, .int qm_orderMany, .int qm_orderMost, .int qm_passing, .int qm_movedWho, .int qm_scratched, .ref qm_text, .int qm_texts, .int qm_seed, .ref qm_line, .ref qm_written, .int qm_lineMany, .int qm_hasWritten, .ref qm_node, .int qm_nodes, .int qm_onesMany, .int qm_within, .int qm_top])), (qm_tape, eI G 940 qm_tape_c)]) C hw iwX11 tyX11_ok nmX11 10 rfl 0 rfl 8 (by decide) kw1201 rfl rfl rfl (Nat.le_of_ble_eq_true rfl) rfl dX11_go_334 (fun H locs hw => ?_)
                            exact J1211 v1216  (by omega) _ _ _ hw (lv_sub hl [0, 2, 3] rfl)
                        refine lv_icmp_ge (tgt := 307) C.1 C.2.1 dX11_go_284 (by decide) (fun c1190 => ?_) (fun c1190 => ?_)
                        · skip
                          have c1190 : 7 ≤ v1189.toInt := i_leT (X := 7) (Y := v1189.toInt) rfl rfl c1190
                          exact J1196 j1088  (by omega) _ _ _ hw (lv_sub hl [0, 1, 2, 3] rfl)
                        · skip
                          have c1190 : v1189.toInt < 7 := i_leF (X := 7) (Y := v1189.toInt) rfl rfl c1190
                          refine lv_aload_n C.1 C.2.1 dX11_go_287 rfl (lv_at hl 3 rfl) ?_
                          refine lv_ldc2 (v := 27) C.1 C.2.1 C.2.2.2.1 (C.2.2.2.2 _ kw1353) dX11_go_288 ?_
                          refine lv_aload_n C.1 C.2.1 dX11_go_291 rfl (lv_at hl 3 rfl) ?_
                          refine x_get C hw iwX11 10 rfl 0 rfl 12 (by decide) kw1205 rfl dX11_go_292 ?_
                          refine lv_lmul C.1 C.2.1 dX11_go_295 (x_genl (fun v1217 => ?_))
                          refine lv_iload C.1 C.2.1 dX11_go_296 (lv_at hl 1 rfl) ?_
                          refine lv_i2l (v := v1166.toInt64) C.1 C.2.1 dX11_go_298 rfl (x_genl (fun v1218 => ?_))
                          refine lv_ladd C.1 C.2.1 dX11_go_299 (x_genl (fun v1219 => ?_))
                          refine lv_ldc2 (v := 96) C.1 C.2.1 C.2.2.2.1 (C.2.2.2.2 _ kw1354) dX11_go_300 ?_
                          refine lv_lsub C.1 C.2.1 dX11_go_303 (x_genl (fun v1220 => ?_))
                          refine x_put (w' := [(qm, .inr (10, [.int qm_thrown, .ref qm_tape, .int qm_taped, .int qm_size, .int qm_limit, .int j1086, .int j9, .int qm_kind, .int j1087, .int qm_sign, .int qm_fault, .int qm_place, .long v1220, .int qm_told, .ref qm_now, .ref qm_read, .ref qm_kept, .ref qm_snaps, .ref qm_aside, .ref qm_name, .ref qm_readName, .ref qm_keptName, .ref qm_isKept, .ref qm_onces, .int qm_snapMany, .ref qm_order, .ref qm_ordered, .int qm_orderMany, .int qm_orderMost, .int qm_passing, .int qm_movedWho, .int qm_scratched, .ref qm_text, .int qm_texts, .int qm_seed, .ref qm_line, .ref qm_written, .int qm_lineMany, .int qm_hasWritten, .ref qm_node, .int qm_nodes, .int qm_onesMany, .int qm_within, .int qm_top])), (qm_tape, eI G 940 qm_tape_c)]) C hw iwX11 tyX11_ok nmX11 10 rfl 0 rfl 12 (by decide) kw1205 rfl rfl rfl (Nat.le_of_ble_eq_true rfl) rfl dX11_go_304 (fun H locs hw => ?_)
                          exact J1196 v1220  (by omega) _ _ _ hw (lv_sub hl [0, 1, 2, 3] rfl)
                      have J1170 : (qm_to.toInt ≤ j1086.toInt) → ∀ (H : Heap) (locs : List Loc) (ls : Array Slot), Wd G s A [(qm, .inr (10, [.int qm_thrown, .ref qm_tape, .int qm_taped, .int qm_size, .int qm_limit, .int j1086, .int j9, .int qm_kind, .int j1087, .int qm_sign, .int qm_fault, .int qm_place, .long j1088, .int qm_told, .ref qm_now, .ref qm_read, .ref qm_kept, .ref qm_snaps, .ref qm_aside, .ref qm_name, .ref qm_readName, .ref qm_keptName, .ref qm_isKept, .ref qm_onces, .int qm_snapMany, .ref qm_order, .ref qm_ordered, .int qm_orderMany, .int qm_orderMost, .int qm_passing, .int qm_movedWho, .int qm_scratched, .ref qm_text, .int qm_texts, .int qm_seed, .ref qm_line, .ref qm_written, .int qm_lineMany, .int qm_hasWritten, .ref qm_node, .int qm_nodes, .int qm_onesMany, .int qm_within, .int qm_top])), (qm_tape, eI G 940 qm_tape_c)] H locs → lv_has ls 5 [(4, .int v1166), (2, .int 1), (0, .ref qm)] → W p l e (rmD 1 0 0) s m args below meth c H locs 0 0 Q (F0 m 271 ls []) := by
                        intro  hJ1170_0 H locs ls hw hl
                        refine lv_iconst (v := 0) C.1 C.2.1 dX11_go_271 (by decide) ?_
                        exact J1172 0  (by decide) (by omega) _ _ _ hw (lv_sub hl [0, 1, 2] rfl)
                      refine lv_if_eq (tgt := 271) C.1 C.2.1 dX11_go_255 (by decide) (fun c1167 => ?_) (fun c1167 => ?_)
                      · skip
                        have c1167 : j1085.toInt = 0 := i_eqT (X := j1085.toInt) (Y := 0) rfl rfl c1167
                        exact J1170   (by omega) _ _ _ hw (lv_sub hl [0, 2, 3] rfl)
                      · skip
                        have c1167 : j1085.toInt ≠ 0 := i_eqF (X := j1085.toInt) (Y := 0) rfl rfl c1167
                        refine lv_iload C.1 C.2.1 dX11_go_258 (lv_at hl 0 rfl) ?_
                        refine x_calliS (As := [.int v1166]) (rest := []) (wr := [(qm, .inr (10, [.int qm_thrown, .ref qm_tape, .int qm_taped, .int qm_size, .int qm_limit, .int j1086, .int j9, .int qm_kind, .int j1087, .int qm_sign, .int qm_fault, .int qm_place, .long j1088, .int qm_told, .ref qm_now, .ref qm_read, .ref qm_kept, .ref qm_snaps, .ref qm_aside, .ref qm_name, .ref qm_readName, .ref qm_keptName, .ref qm_isKept, .ref qm_onces, .int qm_snapMany, .ref qm_order, .ref qm_ordered, .int qm_orderMany, .int qm_orderMost, .int qm_passing, .int qm_movedWho, .int qm_scratched, .ref qm_text, .int qm_texts, .int qm_seed, .ref qm_line, .ref qm_written, .int qm_lineMany, .int qm_hasWritten, .ref qm_node, .int qm_nodes, .int qm_onesMany, .int qm_within, .int qm_top])), (qm_tape, eI G 940 qm_tape_c)]) C hw (s_X11_isLetter v1166) mwX11_isLetter kw1343 [] [0, 1] rfl rfl rfl rfl (by decide) rfl hl.1 rfl (Nat.le_of_ble_eq_true rfl) ⟨(Nat.le_of_ble_eq_true rfl), (Nat.le_of_ble_eq_true rfl)⟩ ⟨(Nat.le_of_ble_eq_true rfl), (Nat.le_of_ble_eq_true rfl)⟩ dX11_go_260 (fun r1221 u9 H locs hp9 hw => ?_)
                        rcases hp9 with ⟨rfl, rfl⟩ | ⟨rfl, rfl, hf1222⟩
                        · skip
                          have hw : Wd G s A [(qm, .inr (10, [.int qm_thrown, .ref qm_tape, .int qm_taped, .int qm_size, .int qm_limit, .int j1086, .int j9, .int qm_kind, .int j1087, .int qm_sign, .int qm_fault, .int qm_place, .long j1088, .int qm_told, .ref qm_now, .ref qm_read, .ref qm_kept, .ref qm_snaps, .ref qm_aside, .ref qm_name, .ref qm_readName, .ref qm_keptName, .ref qm_isKept, .ref qm_onces, .int qm_snapMany, .ref qm_order, .ref qm_ordered, .int qm_orderMany, .int qm_orderMost, .int qm_passing, .int qm_movedWho, .int qm_scratched, .ref qm_text, .int qm_texts, .int qm_seed, .ref qm_line, .ref qm_written, .int qm_lineMany, .int qm_hasWritten, .ref qm_node, .int qm_nodes, .int qm_onesMany, .int qm_within, .int qm_top])), (qm_tape, eI G 940 qm_tape_c)] H _ := hw
                          refine lv_iload_n C.1 C.2.1 dX11_go_263 rfl (lv_at hl 2 rfl) ?_
                          refine lv_icmp_ne (tgt := 271) C.1 C.2.1 dX11_go_264 (by decide) (fun _ => ?_) (fun h9 => absurd h9 (by decide))
                          exact J1170   (by omega) _ _ _ hw (lv_sub hl [0, 2, 3] rfl)
                        · skip
                          have hw : Wd G s A [(qm, .inr (10, [.int qm_thrown, .ref qm_tape, .int qm_taped, .int qm_size, .int qm_limit, .int j1086, .int j9, .int qm_kind, .int j1087, .int qm_sign, .int qm_fault, .int qm_place, .long j1088, .int qm_told, .ref qm_now, .ref qm_read, .ref qm_kept, .ref qm_snaps, .ref qm_aside, .ref qm_name, .ref qm_readName, .ref qm_keptName, .ref qm_isKept, .ref qm_onces, .int qm_snapMany, .ref qm_order, .ref qm_ordered, .int qm_orderMany, .int qm_orderMost, .int qm_passing, .int qm_movedWho, .int qm_scratched, .ref qm_text, .int qm_texts, .int qm_seed, .ref qm_line, .ref qm_written, .int qm_lineMany, .int qm_hasWritten, .ref qm_node, .int qm_nodes, .int qm_onesMany, .int qm_within, .int qm_top])), (qm_tape, eI G 940 qm_tape_c)] H _ := hw
                          refine lv_iload_n C.1 C.2.1 dX11_go_263 rfl (lv_at hl 2 rfl) ?_
                          refine lv_icmp_ne (tgt := 271) C.1 C.2.1 dX11_go_264 (by decide) (fun h9 => absurd (by decide) h9) (fun _ => ?_)
                          refine lv_iconst (v := 1) C.1 C.2.1 dX11_go_267 (by decide) ?_
                          refine lv_goto (tgt := 272) C.1 C.2.1 dX11_go_268 (by decide) ?_
                          exact J1172 1  (by decide) (by omega) _ _ _ hw (lv_sub hl [0, 2, 3] rfl)
                    rcases hp9 with ⟨rfl, rfl⟩ | ⟨rfl, rfl, hf1133⟩
                    · skip
                      have hw : Wd G s A [(qm, .inr (10, [.int qm_thrown, .ref qm_tape, .int qm_taped, .int qm_size, .int qm_limit, .int j1086, .int j9, .int qm_kind, .int j1087, .int qm_sign, .int qm_fault, .int qm_place, .long j1088, .int qm_told, .ref qm_now, .ref qm_read, .ref qm_kept, .ref qm_snaps, .ref qm_aside, .ref qm_name, .ref qm_readName, .ref qm_keptName, .ref qm_isKept, .ref qm_onces, .int qm_snapMany, .ref qm_order, .ref qm_ordered, .int qm_orderMany, .int qm_orderMost, .int qm_passing, .int qm_movedWho, .int qm_scratched, .ref qm_text, .int qm_texts, .int qm_seed, .ref qm_line, .ref qm_written, .int qm_lineMany, .int qm_hasWritten, .ref qm_node, .int qm_nodes, .int qm_onesMany, .int qm_within, .int qm_top])), (qm_tape, eI G 940 qm_tape_c)] H _ := hw
                      refine lv_if_ne (tgt := 243) C.1 C.2.1 dX11_go_226 (by decide) (fun h9 => absurd (by decide) h9) (fun _ => ?_)
                      refine lv_aload_n C.1 C.2.1 dX11_go_229 rfl (lv_at hl 2 rfl) ?_
                      refine lv_aload_n C.1 C.2.1 dX11_go_230 rfl (lv_at hl 2 rfl) ?_
                      refine x_get C hw iwX11 10 rfl 0 rfl 5 (by decide) kw1198 rfl dX11_go_231 ?_
                      refine x_calliV (As := [.int j1086]) (rest := []) (wr := []) C hw (s_X11_tapeAt qm j1086 qm_thrown qm_tape qm_taped qm_size qm_limit j1086 j9 qm_kind j1087 qm_sign qm_fault qm_place j1088 qm_told qm_now qm_read qm_kept qm_snaps qm_aside qm_name qm_readName qm_keptName qm_isKept qm_onces qm_snapMany qm_order qm_ordered qm_orderMany qm_orderMost qm_passing qm_movedWho qm_scratched qm_text qm_texts qm_seed qm_line qm_written qm_lineMany qm_hasWritten qm_node qm_nodes qm_onesMany qm_within qm_top qm_tape_c (by omega) (by omega)) mwX11_tapeAt kw1349 [0, 1] [] rfl rfl rfl rfl (by decide) 0 rfl rfl rfl rfl hl.1 rfl (Nat.le_of_ble_eq_true rfl) ⟨(Nat.le_of_ble_eq_true rfl), (Nat.le_of_ble_eq_true rfl)⟩ ⟨(Nat.le_of_ble_eq_true rfl), (Nat.le_of_ble_eq_true rfl)⟩ dX11_go_234 (fun r1223 u9 H locs hp9 hw => ?_)
                      obtain ⟨x1224, rfl, rfl, hf1225⟩ := hp9
                      have hw : Wd G s A [(qm, .inr (10, [.int qm_thrown, .ref qm_tape, .int qm_taped, .int qm_size, .int qm_limit, .int j1086, .int j9, .int qm_kind, .int j1087, .int qm_sign, .int qm_fault, .int qm_place, .long j1088, .int qm_told, .ref qm_now, .ref qm_read, .ref qm_kept, .ref qm_snaps, .ref qm_aside, .ref qm_name, .ref qm_readName, .ref qm_keptName, .ref qm_isKept, .ref qm_onces, .int qm_snapMany, .ref qm_order, .ref qm_ordered, .int qm_orderMany, .int qm_orderMost, .int qm_passing, .int qm_movedWho, .int qm_scratched, .ref qm_text, .int qm_texts, .int qm_seed, .ref qm_line, .ref qm_written, .int qm_lineMany, .int qm_hasWritten, .ref qm_node, .int qm_nodes, .int qm_onesMany, .int qm_within, .int qm_top])), (qm_tape, eI G 940 qm_tape_c)] H _ := hw
                      refine x_calliS (As := [.int r1223]) (rest := []) (wr := [(qm, .inr (10, [.int qm_thrown, .ref qm_tape, .int qm_taped, .int qm_size, .int qm_limit, .int j1086, .int j9, .int qm_kind, .int j1087, .int qm_sign, .int qm_fault, .int qm_place, .long j1088, .int qm_told, .ref qm_now, .ref qm_read, .ref qm_kept, .ref qm_snaps, .ref qm_aside, .ref qm_name, .ref qm_readName, .ref qm_keptName, .ref qm_isKept, .ref qm_onces, .int qm_snapMany, .ref qm_order, .ref qm_ordered, .int qm_orderMany, .int qm_orderMost, .int qm_passing, .int qm_movedWho, .int qm_scratched, .ref qm_text, .int qm_texts, .int qm_seed, .ref qm_line, .ref qm_written, .int qm_lineMany, .int qm_hasWritten, .ref qm_node, .int qm_nodes, .int qm_onesMany, .int qm_within, .int qm_top])), (qm_tape, eI G 940 qm_tape_c)]) C hw (s_X11_isDigit r1223) mwX11_isDigit kw1346 [] [0, 1] rfl rfl rfl rfl (by decide) rfl hl.1 rfl (Nat.le_of_ble_eq_true rfl) ⟨(Nat.le_of_ble_eq_true rfl), (Nat.le_of_ble_eq_true rfl)⟩ ⟨(Nat.le_of_ble_eq_true rfl), (Nat.le_of_ble_eq_true rfl)⟩ dX11_go_237 (fun r1226 u9 H locs hp9 hw => ?_)
                      rcases hp9 with ⟨rfl, rfl⟩ | ⟨rfl, rfl, hf1227⟩
                      · skip
                        have hw : Wd G s A [(qm, .inr (10, [.int qm_thrown, .ref qm_tape, .int qm_taped, .int qm_size, .int qm_limit, .int j1086, .int j9, .int qm_kind, .int j1087, .int qm_sign, .int qm_fault, .int qm_place, .long j1088, .int qm_told, .ref qm_now, .ref qm_read, .ref qm_kept, .ref qm_snaps, .ref qm_aside, .ref qm_name, .ref qm_readName, .ref qm_keptName, .ref qm_isKept, .ref qm_onces, .int qm_snapMany, .ref qm_order, .ref qm_ordered, .int qm_orderMany, .int qm_orderMost, .int qm_passing, .int qm_movedWho, .int qm_scratched, .ref qm_text, .int qm_texts, .int qm_seed, .ref qm_line, .ref qm_written, .int qm_lineMany, .int qm_hasWritten, .ref qm_node, .int qm_nodes, .int qm_onesMany, .int qm_within, .int qm_top])), (qm_tape, eI G 940 qm_tape_c)] H _ := hw
                        refine lv_if_eq (tgt := 350) C.1 C.2.1 dX11_go_240 (by decide) (fun _ => ?_) (fun h9 => absurd (by decide) h9)
                        refine lv_aload_n C.1 C.2.1 dX11_go_350 rfl (lv_at hl 2 rfl) ?_
                        refine lv_iload_n C.1 C.2.1 dX11_go_351 rfl (lv_at hl 0 rfl) ?_
                        refine lv_if_eq (tgt := 377) C.1 C.2.1 dX11_go_352 (by decide) (fun c1228 => ?_) (fun c1228 => ?_)
                        · skip
                          have c1228 : j1085.toInt = 0 := i_eqT (X := j1085.toInt) (Y := 0) rfl rfl c1228
                          refine lv_iconst (v := 1) C.1 C.2.1 dX11_go_377 (by decide) ?_
                          refine lv_goto (tgt := 390) C.1 C.2.1 dX11_go_378 (by decide) ?_
                          refine x_put (w' := [(qm, .inr (10, [.int qm_thrown, .ref qm_tape, .int qm_taped, .int qm_size, .int qm_limit, .int j1086, .int j9, .int 1, .int j1087, .int qm_sign, .int qm_fault, .int qm_place, .long j1088, .int qm_told, .ref qm_now, .ref qm_read, .ref qm_kept, .ref qm_snaps, .ref qm_aside, .ref qm_name, .ref qm_readName, .ref qm_keptName, .ref qm_isKept, .ref qm_onces, .int qm_snapMany, .ref qm_order, .ref qm_ordered, .int qm_orderMany, .int qm_orderMost, .int qm_passing, .int qm_movedWho, .int qm_scratched, .ref qm_text, .int qm_texts, .int qm_seed, .ref qm_line, .ref qm_written, .int qm_lineMany, .int qm_hasWritten, .ref qm_node, .int qm_nodes, .int qm_onesMany, .int qm_within, .int qm_top])), (qm_tape, eI G 940 qm_tape_c)]) C hw iwX11 tyX11_ok nmX11 10 rfl 0 rfl 7 (by decide) kw1200 rfl rfl rfl (Nat.le_of_ble_eq_true rfl) rfl dX11_go_390 (fun H locs hw => ?_)
                          exact x_retvQ hQ B hw ⟨j1086, j9, 1, j1087, qm_sign, j1088, rfl, (by omega), (by omega), (by decide), (by omega), (by have e0 : (1 : Int32).toInt = 1 := rfl; omega)⟩ (Nat.le_of_ble_eq_true rfl) (Nat.le_of_ble_eq_true rfl) dX11_go_393
                        · skip
                          have c1228 : j1085.toInt ≠ 0 := i_eqF (X := j1085.toInt) (Y := 0) rfl rfl c1228
                          refine lv_aload_n C.1 C.2.1 dX11_go_355 rfl (lv_at hl 2 rfl) ?_
                          refine x_get C hw iwX11 10 rfl 0 rfl 5 (by decide) kw1198 rfl dX11_go_356 ?_
                          refine lv_aload_n C.1 C.2.1 dX11_go_359 rfl (lv_at hl 2 rfl) ?_
                          refine x_get C hw iwX11 10 rfl 0 rfl 6 (by decide) kw1199 rfl dX11_go_360 ?_
                          refine lv_isub C.1 C.2.1 dX11_go_363 (x_genP (fun z : Int32 => z.toInt = j1086.toInt - j9.toInt) (i_sub (X := j1086.toInt) (Y := j9.toInt) rfl rfl (by omega) (by omega)) (fun v1229 hv1229 => ?_))
                          refine lv_iload_n C.1 C.2.1 dX11_go_364 rfl (lv_at hl 1 rfl) ?_
                          refine lv_if_eq (tgt := 373) C.1 C.2.1 dX11_go_365 (by decide) (fun h9 => absurd h9 (by decide)) (fun _ => ?_)
                          refine lv_bipush (v := 7) C.1 C.2.1 dX11_go_368 (by decide) ?_
                          refine lv_goto (tgt := 374) C.1 C.2.1 dX11_go_370 (by decide) ?_
                          refine lv_icmp_le (tgt := 381) C.1 C.2.1 dX11_go_374 (by decide) (fun c1230 => ?_) (fun c1230 => ?_)
                          · skip
                            have c1230 : v1229.toInt ≤ 7 := i_leT (X := v1229.toInt) (Y := 7) rfl rfl c1230
                            refine lv_iload_n C.1 C.2.1 dX11_go_381 rfl (lv_at hl 1 rfl) ?_
                            refine lv_if_eq (tgt := 389) C.1 C.2.1 dX11_go_382 (by decide) (fun h9 => absurd h9 (by decide)) (fun _ => ?_)
                            refine lv_iconst (v := 2) C.1 C.2.1 dX11_go_385 (by decide) ?_
                            refine lv_goto (tgt := 390) C.1 C.2.1 dX11_go_386 (by decide) ?_
                            refine x_put (w' := [(qm, .inr (10, [.int qm_thrown, .ref qm_tape, .int qm_taped, .int qm_size, .int qm_limit, .int j1086, .int j9, .int 2, .int j1087, .int qm_sign, .int qm_fault, .int qm_place, .long j1088, .int qm_told, .ref qm_now, .ref qm_read, .ref qm_kept, .ref qm_snaps, .ref qm_aside, .ref qm_name, .ref qm_readName, .ref qm_keptName, .ref qm_isKept, .ref qm_onces, .int qm_snapMany, .ref qm_order, .ref qm_ordered, .int qm_orderMany, .int qm_orderMost, .int qm_passing, .int qm_movedWho, .int qm_scratched, .ref qm_text, .int qm_texts, .int qm_seed, .ref qm_line, .ref qm_written, .int qm_lineMany, .int qm_hasWritten, .ref qm_node, .int qm_nodes, .int qm_onesMany, .int qm_within, .int qm_top])), (qm_tape, eI G 940 qm_tape_c)]) C hw iwX11 tyX11_ok nmX11 10 rfl 0 rfl 7 (by decide) kw1200 rfl rfl rfl (Nat.le_of_ble_eq_true rfl) rfl dX11_go_390 (fun H locs hw => ?_)
                            exact x_retvQ hQ B hw ⟨j1086, j9, 2, j1087, qm_sign, j1088, rfl, (by omega), (by omega), (by decide), (by omega), (by have e0 : (2 : Int32).toInt = 2 := rfl; omega)⟩ (Nat.le_of_ble_eq_true rfl) (Nat.le_of_ble_eq_true rfl) dX11_go_393
                          · skip
                            have c1230 : 7 < v1229.toInt := i_leF (X := v1229.toInt) (Y := 7) rfl rfl c1230
                            refine lv_iconst (v := 1) C.1 C.2.1 dX11_go_377 (by decide) ?_
                            refine lv_goto (tgt := 390) C.1 C.2.1 dX11_go_378 (by decide) ?_
                            refine x_put (w' := [(qm, .inr (10, [.int qm_thrown, .ref qm_tape, .int qm_taped, .int qm_size, .int qm_limit, .int j1086, .int j9, .int 1, .int j1087, .int qm_sign, .int qm_fault, .int qm_place, .long j1088, .int qm_told, .ref qm_now, .ref qm_read, .ref qm_kept, .ref qm_snaps, .ref qm_aside, .ref qm_name, .ref qm_readName, .ref qm_keptName, .ref qm_isKept, .ref qm_onces, .int qm_snapMany, .ref qm_order, .ref qm_ordered, .int qm_orderMany, .int qm_orderMost, .int qm_passing, .int qm_movedWho, .int qm_scratched, .ref qm_text, .int qm_texts, .int qm_seed, .ref qm_line, .ref qm_written, .int qm_lineMany, .int qm_hasWritten, .ref qm_node, .int qm_nodes, .int qm_onesMany, .int qm_within, .int qm_top])), (qm_tape, eI G 940 qm_tape_c)]) C hw iwX11 tyX11_ok nmX11 10 rfl 0 rfl 7 (by decide) kw1200 rfl rfl rfl (Nat.le_of_ble_eq_true rfl) rfl dX11_go_390 (fun H locs hw => ?_)
                            exact x_retvQ hQ B hw ⟨j1086, j9, 1, j1087, qm_sign, j1088, rfl, (by omega), (by omega), (by decide), (by omega), (by have e0 : (1 : Int32).toInt = 1 := rfl; omega)⟩ (Nat.le_of_ble_eq_true rfl) (Nat.le_of_ble_eq_true rfl) dX11_go_393
                      · skip
                        have hw : Wd G s A [(qm, .inr (10, [.int qm_thrown, .ref qm_tape, .int qm_taped, .int qm_size, .int qm_limit, .int j1086, .int j9, .int qm_kind, .int j1087, .int qm_sign, .int qm_fault, .int qm_place, .long j1088, .int qm_told, .ref qm_now, .ref qm_read, .ref qm_kept, .ref qm_snaps, .ref qm_aside, .ref qm_name, .ref qm_readName, .ref qm_keptName, .ref qm_isKept, .ref qm_onces, .int qm_snapMany, .ref qm_order, .ref qm_ordered, .int qm_orderMany, .int qm_orderMost, .int qm_passing, .int qm_movedWho, .int qm_scratched, .ref qm_text, .int qm_texts, .int qm_seed, .ref qm_line, .ref qm_written, .int qm_lineMany, .int qm_hasWritten, .ref qm_node, .int qm_nodes, .int qm_onesMany, .int qm_within, .int qm_top])), (qm_tape, eI G 940 qm_tape_c)] H _ := hw
                        refine lv_if_eq (tgt := 350) C.1 C.2.1 dX11_go_240 (by decide) (fun h9 => absurd h9 (by decide)) (fun _ => ?_)
                        exact J1142   (by omega) (by omega) _ _ _ hw (lv_sub hl [0, 1, 2] rfl)
                    · skip
                      have hw : Wd G s A [(qm, .inr (10, [.int qm_thrown, .ref qm_tape, .int qm_taped, .int qm_size, .int qm_limit, .int j1086, .int j9, .int qm_kind, .int j1087, .int qm_sign, .int qm_fault, .int qm_place, .long j1088, .int qm_told, .ref qm_now, .ref qm_read, .ref qm_kept, .ref qm_snaps, .ref qm_aside, .ref qm_name, .ref qm_readName, .ref qm_keptName, .ref qm_isKept, .ref qm_onces, .int qm_snapMany, .ref qm_order, .ref qm_ordered, .int qm_orderMany, .int qm_orderMost, .int qm_passing, .int qm_movedWho, .int qm_scratched, .ref qm_text, .int qm_texts, .int qm_seed, .ref qm_line, .ref qm_written, .int qm_lineMany, .int qm_hasWritten, .ref qm_node, .int qm_nodes, .int qm_onesMany, .int qm_within, .int qm_top])), (qm_tape, eI G 940 qm_tape_c)] H _ := hw
                      refine lv_if_ne (tgt := 243) C.1 C.2.1 dX11_go_226 (by decide) (fun _ => ?_) (fun h9 => absurd h9 (by decide))
                      exact J1142   (by omega) (by omega) _ _ _ hw (lv_sub hl [0, 1, 2] rfl)
                exact loopJ1089 _ 1 j9 0 0 (Nat.lt_succ_self _) (by decide) (by omega) (by omega) _ _ _ hw (lv_sub hl [0, 1, 3] rfl)
            rcases hp9 with ⟨rfl, rfl⟩ | ⟨rfl, rfl, hf579⟩
            · skip
              have hw : Wd G s A [(qm, .inr (10, [.int qm_thrown, .ref qm_tape, .int qm_taped, .int qm_size, .int qm_limit, .int j9, .int j9, .int qm_kind, .int qm_number, .int qm_sign, .int qm_fault, .int qm_place, .long qm_word, .int qm_told, .ref qm_now, .ref qm_read, .ref qm_kept, .ref qm_snaps, .ref qm_aside, .ref qm_name, .ref qm_readName, .ref qm_keptName, .ref qm_isKept, .ref qm_onces, .int qm_snapMany, .ref qm_order, .ref qm_ordered, .int qm_orderMany, .int qm_orderMost, .int qm_passing, .int qm_movedWho, .int qm_scratched, .ref qm_text, .int qm_texts, .int qm_seed, .ref qm_line, .ref qm_written, .int qm_lineMany, .int qm_hasWritten, .ref qm_node, .int qm_nodes, .int qm_onesMany, .int qm_within, .int qm_top])), (qm_tape, eI G 940 qm_tape_c)] H _ := hw
              refine lv_if_ne (tgt := 198) C.1 C.2.1 dX11_go_127 (by decide) (fun h9 => absurd (by decide) h9) (fun _ => ?_)
              refine lv_iload_n C.1 C.2.1 dX11_go_130 rfl (lv_at hl 0 rfl) ?_
              refine x_calliS (As := [.int v577]) (rest := []) (wr := [(qm, .inr (10, [.int qm_thrown, .ref qm_tape, .int qm_taped, .int qm_size, .int qm_limit, .int j9, .int j9, .int qm_kind, .int qm_number, .int qm_sign, .int qm_fault, .int qm_place, .long qm_word, .int qm_told, .ref qm_now, .ref qm_read, .ref qm_kept, .ref qm_snaps, .ref qm_aside, .ref qm_name, .ref qm_readName, .ref qm_keptName, .ref qm_isKept, .ref qm_onces, .int qm_snapMany, .ref qm_order, .ref qm_ordered, .int qm_orderMany, .int qm_orderMost, .int qm_passing, .int qm_movedWho, .int qm_scratched, .ref qm_text, .int qm_texts, .int qm_seed, .ref qm_line, .ref qm_written, .int qm_lineMany, .int qm_hasWritten, .ref qm_node, .int qm_nodes, .int qm_onesMany, .int qm_within, .int qm_top])), (qm_tape, eI G 940 qm_tape_c)]) C hw (s_X11_isDigit v577) mwX11_isDigit kw1346 [] [0, 1] rfl rfl rfl rfl (by decide) rfl hl.1 rfl (Nat.le_of_ble_eq_true rfl) ⟨(Nat.le_of_ble_eq_true rfl), (Nat.le_of_ble_eq_true rfl)⟩ ⟨(Nat.le_of_ble_eq_true rfl), (Nat.le_of_ble_eq_true rfl)⟩ dX11_go_131 (fun r1231 u9 H locs hp9 hw => ?_)
              rcases hp9 with ⟨rfl, rfl⟩ | ⟨rfl, rfl, hf1232⟩
              · skip
                have hw : Wd G s A [(qm, .inr (10, [.int qm_thrown, .ref qm_tape, .int qm_taped, .int qm_size, .int qm_limit, .int j9, .int j9, .int qm_kind, .int qm_number, .int qm_sign, .int qm_fault, .int qm_place, .long qm_word, .int qm_told, .ref qm_now, .ref qm_read, .ref qm_kept, .ref qm_snaps, .ref qm_aside, .ref qm_name, .ref qm_readName, .ref qm_keptName, .ref qm_isKept, .ref qm_onces, .int qm_snapMany, .ref qm_order, .ref qm_ordered, .int qm_orderMany, .int qm_orderMost, .int qm_passing, .int qm_movedWho, .int qm_scratched, .ref qm_text, .int qm_texts, .int qm_seed, .ref qm_line, .ref qm_written, .int qm_lineMany, .int qm_hasWritten, .ref qm_node, .int qm_nodes, .int qm_onesMany, .int qm_within, .int qm_top])), (qm_tape, eI G 940 qm_tape_c)] H _ := hw
                refine lv_if_ne (tgt := 198) C.1 C.2.1 dX11_go_134 (by decide) (fun h9 => absurd (by decide) h9) (fun _ => ?_)
                refine lv_aload_n C.1 C.2.1 dX11_go_137 rfl (lv_at hl 1 rfl) ?_
                refine lv_iload_n C.1 C.2.1 dX11_go_138 rfl (lv_at hl 0 rfl) ?_
                refine lv_bipush (v := 59) C.1 C.2.1 dX11_go_139 (by decide) ?_
                have J1241 : ∀ (j1240 : Int32), (1 ≤ j1240.toInt ∧ j1240.toInt ≤ 4) → (qm_to.toInt ≤ j9.toInt) → ∀ (H : Heap) (locs : List Loc) (ls : Array Slot), Wd G s A [(qm, .inr (10, [.int qm_thrown, .ref qm_tape, .int qm_taped, .int qm_size, .int qm_limit, .int j9, .int j9, .int qm_kind, .int qm_number, .int qm_sign, .int qm_fault, .int qm_place, .long qm_word, .int qm_told, .ref qm_now, .ref qm_read, .ref qm_kept, .ref qm_snaps, .ref qm_aside, .ref qm_name, .ref qm_readName, .ref qm_keptName, .ref qm_isKept, .ref qm_onces, .int qm_snapMany, .ref qm_order, .ref qm_ordered, .int qm_orderMany, .int qm_orderMost, .int qm_passing, .int qm_movedWho, .int qm_scratched, .ref qm_text, .int qm_texts, .int qm_seed, .ref qm_line, .ref qm_written, .int qm_lineMany, .int qm_hasWritten, .ref qm_node, .int qm_nodes, .int qm_onesMany, .int qm_within, .int qm_top])), (qm_tape, eI G 940 qm_tape_c)] H locs → lv_has ls 5 [(1, .int v577), (0, .ref qm)] → W p l e (rmD 1 0 0) s m args below meth c H locs 0 0 Q (F0 m 179 ls [.int j1240, .ref qm]) := by
                  intro j1240 hJ1241_0 hJ1241_1 H locs ls hw hl
                  refine x_put (w' := [(qm, .inr (10, [.int qm_thrown, .ref qm_tape, .int qm_taped, .int qm_size, .int qm_limit, .int j9, .int j9, .int j1240, .int qm_number, .int qm_sign, .int qm_fault, .int qm_place, .long qm_word, .int qm_told, .ref qm_now, .ref qm_read, .ref qm_kept, .ref qm_snaps, .ref qm_aside, .ref qm_name, .ref qm_readName, .ref qm_keptName, .ref qm_isKept, .ref qm_onces, .int qm_snapMany, .ref qm_order, .ref qm_ordered, .int qm_orderMany, .int qm_orderMost, .int qm_passing, .int qm_movedWho, .int qm_scratched, .ref qm_text, .int qm_texts, .int qm_seed, .ref qm_line, .ref qm_written, .int qm_lineMany, .int qm_hasWritten, .ref qm_node, .int qm_nodes, .int qm_onesMany, .int qm_within, .int qm_top])), (qm_tape, eI G 940 qm_tape_c)]) C hw iwX11 tyX11_ok nmX11 10 rfl 0 rfl 7 (by decide) kw1200 rfl rfl rfl (Nat.le_of_ble_eq_true rfl) rfl dX11_go_179 (fun H locs hw => ?_)
                  refine lv_aload_n C.1 C.2.1 dX11_go_182 rfl (lv_at hl 1 rfl) ?_
                  refine lv_iload_n C.1 C.2.1 dX11_go_183 rfl (lv_at hl 0 rfl) ?_
                  refine x_put (w' := [(qm, .inr (10, [.int qm_thrown, .ref qm_tape, .int qm_taped, .int qm_size, .int qm_limit, .int j9, .int j9, .int j1240, .int qm_number, .int v577, .int qm_fault, .int qm_place, .long qm_word, .int qm_told, .ref qm_now, .ref qm_read, .ref qm_kept, .ref qm_snaps, .ref qm_aside, .ref qm_name, .ref qm_readName, .ref qm_keptName, .ref qm_isKept, .ref qm_onces, .int qm_snapMany, .ref qm_order, .ref qm_ordered, .int qm_orderMany, .int qm_orderMost, .int qm_passing, .int qm_movedWho, .int qm_scratched, .ref qm_text, .int qm_texts, .int qm_seed, .ref qm_line, .ref qm_written, .int qm_lineMany, .int qm_hasWritten, .ref qm_node, .int qm_nodes, .int qm_onesMany, .int qm_within, .int qm_top])), (qm_tape, eI G 940 qm_tape_c)]) C hw iwX11 tyX11_ok nmX11 10 rfl 0 rfl 9 (by decide) kw1202 rfl rfl rfl (Nat.le_of_ble_eq_true rfl) rfl dX11_go_184 (fun H locs hw => ?_)
                  refine lv_aload_n C.1 C.2.1 dX11_go_187 rfl (lv_at hl 1 rfl) ?_
                  refine lv_dup C.1 C.2.1 dX11_go_188 rfl ?_
                  refine x_get C hw iwX11 10 rfl 0 rfl 5 (by decide) kw1198 rfl dX11_go_189 ?_
                  refine lv_iconst (v := 1) C.1 C.2.1 dX11_go_192 (by decide) ?_
                  refine lv_iadd C.1 C.2.1 dX11_go_193 (x_genP (fun z : Int32 => z.toInt = j9.toInt + 1) (i_add (X := j9.toInt) (Y := 1) rfl rfl (by omega) (by omega)) (fun v1243 hv1243 => ?_))
                  refine x_put (w' := [(qm, .inr (10, [.int qm_thrown, .ref qm_tape, .int qm_taped, .int qm_size, .int qm_limit, .int v1243, .int j9, .int j1240, .int qm_number, .int v577, .int qm_fault, .int qm_place, .long qm_word, .int qm_told, .ref qm_now, .ref qm_read, .ref qm_kept, .ref qm_snaps, .ref qm_aside, .ref qm_name, .ref qm_readName, .ref qm_keptName, .ref qm_isKept, .ref qm_onces, .int qm_snapMany, .ref qm_order, .ref qm_ordered, .int qm_orderMany, .int qm_orderMost, .int qm_passing, .int qm_movedWho, .int qm_scratched, .ref qm_text, .int qm_texts, .int qm_seed, .ref qm_line, .ref qm_written, .int qm_lineMany, .int qm_hasWritten, .ref qm_node, .int qm_nodes, .int qm_onesMany, .int qm_within, .int qm_top])), (qm_tape, eI G 940 qm_tape_c)]) C hw iwX11 tyX11_ok nmX11 10 rfl 0 rfl 5 (by decide) kw1198 rfl rfl rfl (Nat.le_of_ble_eq_true rfl) rfl dX11_go_194 (fun H locs hw => ?_)
                  exact x_retvQ hQ B hw ⟨v1243, j9, j1240, qm_number, v577, qm_word, rfl, (by omega), (by omega), (by omega), (by omega), (by omega)⟩ (Nat.le_of_ble_eq_true rfl) (Nat.le_of_ble_eq_true rfl) dX11_go_197
                have J1239 : (qm_to.toInt ≤ j9.toInt) → ∀ (H : Heap) (locs : List Loc) (ls : Array Slot), Wd G s A [(qm, .inr (10, [.int qm_thrown, .ref qm_tape, .int qm_taped, .int qm_size, .int qm_limit, .int j9, .int j9, .int qm_kind, .int qm_number, .int qm_sign, .int qm_fault, .int qm_place, .long qm_word, .int qm_told, .ref qm_now, .ref qm_read, .ref qm_kept, .ref qm_snaps, .ref qm_aside, .ref qm_name, .ref qm_readName, .ref qm_keptName, .ref qm_isKept, .ref qm_onces, .int qm_snapMany, .ref qm_order, .ref qm_ordered, .int qm_orderMany, .int qm_orderMost, .int qm_passing, .int qm_movedWho, .int qm_scratched, .ref qm_text, .int qm_texts, .int qm_seed, .ref qm_line, .ref qm_written, .int qm_lineMany, .int qm_hasWritten, .ref qm_node, .int qm_nodes, .int qm_onesMany, .int qm_within, .int qm_top])), (qm_tape, eI G 940 qm_tape_c)] H locs → lv_has ls 5 [(1, .int v577), (0, .ref qm)] → W p l e (rmD 1 0 0) s m args below meth c H locs 0 0 Q (F0 m 174 ls [.ref qm]) := by
                  intro  hJ1239_0 H locs ls hw hl
                  refine lv_iconst (v := 4) C.1 C.2.1 dX11_go_174 (by decide) ?_
                  refine lv_goto (tgt := 179) C.1 C.2.1 dX11_go_175 (by decide) ?_
                  exact J1241 4  (by decide) (by omega) _ _ _ hw (lv_sub hl [0, 1] rfl)
                refine lv_icmp_eq (tgt := 174) C.1 C.2.1 dX11_go_141 (by decide) (fun c1233 => ?_) (fun c1233 => ?_)
                · skip
                  have c1233 : v577.toInt = 59 := i_eqT (X := v577.toInt) (Y := 59) rfl rfl c1233
                  have bc1233_v577 := i_bd v577
                  exact J1239   (by omega) _ _ _ hw (lv_sub hl [0, 1] rfl)
                · skip
                  have c1233 : v577.toInt ≠ 59 := i_eqF (X := v577.toInt) (Y := 59) rfl rfl c1233
                  have bc1233_v577 := i_bd v577
                  refine lv_iload_n C.1 C.2.1 dX11_go_144 rfl (lv_at hl 0 rfl) ?_
                  refine lv_bipush (v := 60) C.1 C.2.1 dX11_go_145 (by decide) ?_
                  refine lv_icmp_eq (tgt := 174) C.1 C.2.1 dX11_go_147 (by decide) (fun c1244 => ?_) (fun c1244 => ?_)
                  · skip
                    have c1244 : v577.toInt = 60 := i_eqT (X := v577.toInt) (Y := 60) rfl rfl c1244
                    have bc1244_v577 := i_bd v577
                    exact J1239   (by omega) _ _ _ hw (lv_sub hl [0, 1] rfl)
                  · skip
                    have c1244 : v577.toInt ≠ 60 := i_eqF (X := v577.toInt) (Y := 60) rfl rfl c1244
                    have bc1244_v577 := i_bd v577
                    refine lv_iload_n C.1 C.2.1 dX11_go_150 rfl (lv_at hl 0 rfl) ?_
                    refine lv_bipush (v := 61) C.1 C.2.1 dX11_go_151 (by decide) ?_
                    refine lv_icmp_eq (tgt := 174) C.1 C.2.1 dX11_go_153 (by decide) (fun c1245 => ?_) (fun c1245 => ?_)
                    · skip
                      have c1245 : v577.toInt = 61 := i_eqT (X := v577.toInt) (Y := 61) rfl rfl c1245
                      have bc1245_v577 := i_bd v577
                      exact J1239   (by omega) _ _ _ hw (lv_sub hl [0, 1] rfl)
                    · skip
                      have c1245 : v577.toInt ≠ 61 := i_eqF (X := v577.toInt) (Y := 61) rfl rfl c1245
                      have bc1245_v577 := i_bd v577
                      refine lv_iload_n C.1 C.2.1 dX11_go_156 rfl (lv_at hl 0 rfl) ?_
                      refine lv_bipush (v := 62) C.1 C.2.1 dX11_go_157 (by decide) ?_
                      refine lv_icmp_eq (tgt := 174) C.1 C.2.1 dX11_go_159 (by decide) (fun c1246 => ?_) (fun c1246 => ?_)
                      · skip
                        have c1246 : v577.toInt = 62 := i_eqT (X := v577.toInt) (Y := 62) rfl rfl c1246
                        have bc1246_v577 := i_bd v577
                        exact J1239   (by omega) _ _ _ hw (lv_sub hl [0, 1] rfl)
                      · skip
                        have c1246 : v577.toInt ≠ 62 := i_eqF (X := v577.toInt) (Y := 62) rfl rfl c1246
                        have bc1246_v577 := i_bd v577
                        refine lv_iload_n C.1 C.2.1 dX11_go_162 rfl (lv_at hl 0 rfl) ?_
                        refine lv_bipush (v := 40) C.1 C.2.1 dX11_go_163 (by decide) ?_
                        refine lv_icmp_eq (tgt := 174) C.1 C.2.1 dX11_go_165 (by decide) (fun c1247 => ?_) (fun c1247 => ?_)
                        · skip
                          have c1247 : v577.toInt = 40 := i_eqT (X := v577.toInt) (Y := 40) rfl rfl c1247
                          have bc1247_v577 := i_bd v577
                          exact J1239   (by omega) _ _ _ hw (lv_sub hl [0, 1] rfl)
                        · skip
                          have c1247 : v577.toInt ≠ 40 := i_eqF (X := v577.toInt) (Y := 40) rfl rfl c1247
                          have bc1247_v577 := i_bd v577
                          refine lv_iload_n C.1 C.2.1 dX11_go_168 rfl (lv_at hl 0 rfl) ?_
                          refine lv_bipush (v := 41) C.1 C.2.1 dX11_go_169 (by decide) ?_
                          refine lv_icmp_ne (tgt := 178) C.1 C.2.1 dX11_go_171 (by decide) (fun c1248 => ?_) (fun c1248 => ?_)
                          · skip
                            have c1248 : v577.toInt ≠ 41 := i_eqF (X := v577.toInt) (Y := 41) rfl rfl c1248
                            have bc1248_v577 := i_bd v577
                            refine lv_iconst (v := 1) C.1 C.2.1 dX11_go_178 (by decide) ?_
                            exact J1241 1  (by decide) (by omega) _ _ _ hw (lv_sub hl [0, 1] rfl)
                          · skip
                            have c1248 : v577.toInt = 41 := i_eqT (X := v577.toInt) (Y := 41) rfl rfl c1248
                            have bc1248_v577 := i_bd v577
                            exact J1239   (by omega) _ _ _ hw (lv_sub hl [0, 1] rfl)
              · skip
                have hw : Wd G s A [(qm, .inr (10, [.int qm_thrown, .ref qm_tape, .int qm_taped, .int qm_size, .int qm_limit, .int j9, .int j9, .int qm_kind, .int qm_number, .int qm_sign, .int qm_fault, .int qm_place, .long qm_word, .int qm_told, .ref qm_now, .ref qm_read, .ref qm_kept, .ref qm_snaps, .ref qm_aside, .ref qm_name, .ref qm_readName, .ref qm_keptName, .ref qm_isKept, .ref qm_onces, .int qm_snapMany, .ref qm_order, .ref qm_ordered, .int qm_orderMany, .int qm_orderMost, .int qm_passing, .int qm_movedWho, .int qm_scratched, .ref qm_text, .int qm_texts, .int qm_seed, .ref qm_line, .ref qm_written, .int qm_lineMany, .int qm_hasWritten, .ref qm_node, .int qm_nodes, .int qm_onesMany, .int qm_within, .int qm_top])), (qm_tape, eI G 940 qm_tape_c)] H _ := hw
                refine lv_if_ne (tgt := 198) C.1 C.2.1 dX11_go_134 (by decide) (fun _ => ?_) (fun h9 => absurd h9 (by decide))
                exact J592   (by omega) _ _ _ hw (lv_sub hl [0, 1] rfl)
            · skip
              have hw : Wd G s A [(qm, .inr (10, [.int qm_thrown, .ref qm_tape, .int qm_taped, .int qm_size, .int qm_limit, .int j9, .int j9, .int qm_kind, .int qm_number, .int qm_sign, .int qm_fault, .int qm_place, .long qm_word, .int qm_told, .ref qm_now, .ref qm_read, .ref qm_kept, .ref qm_snaps, .ref qm_aside, .ref qm_name, .ref qm_readName, .ref qm_keptName, .ref qm_isKept, .ref qm_onces, .int qm_snapMany, .ref qm_order, .ref qm_ordered, .int qm_orderMany, .int qm_orderMost, .int qm_passing, .int qm_movedWho, .int qm_scratched, .ref qm_text, .int qm_texts, .int qm_seed, .ref qm_line, .ref qm_written, .int qm_lineMany, .int qm_hasWritten, .ref qm_node, .int qm_nodes, .int qm_onesMany, .int qm_within, .int qm_top])), (qm_tape, eI G 940 qm_tape_c)] H _ := hw
              refine lv_if_ne (tgt := 198) C.1 C.2.1 dX11_go_127 (by decide) (fun _ => ?_) (fun h9 => absurd h9 (by decide))
              exact J592   (by omega) _ _ _ hw (lv_sub hl [0, 1] rfl)
          · skip
            have c576 : qm_size.toInt ≤ j9.toInt := i_ltF (X := j9.toInt) (Y := qm_size.toInt) rfl rfl c576
            refine lv_aload_n C.1 C.2.1 dX11_go_107 rfl (lv_at hl 0 rfl) ?_
            refine lv_iconst (v := 0) C.1 C.2.1 dX11_go_108 (by decide) ?_
            refine x_put (w' := [(qm, .inr (10, [.int qm_thrown, .ref qm_tape, .int qm_taped, .int qm_size, .int qm_limit, .int j9, .int j9, .int 0, .int qm_number, .int qm_sign, .int qm_fault, .int qm_place, .long qm_word, .int qm_told, .ref qm_now, .ref qm_read, .ref qm_kept, .ref qm_snaps, .ref qm_aside, .ref qm_name, .ref qm_readName, .ref qm_keptName, .ref qm_isKept, .ref qm_onces, .int qm_snapMany, .ref qm_order, .ref qm_ordered, .int qm_orderMany, .int qm_orderMost, .int qm_passing, .int qm_movedWho, .int qm_scratched, .ref qm_text, .int qm_texts, .int qm_seed, .ref qm_line, .ref qm_written, .int qm_lineMany, .int qm_hasWritten, .ref qm_node, .int qm_nodes, .int qm_onesMany, .int qm_within, .int qm_top])), (qm_tape, eI G 940 qm_tape_c)]) C hw iwX11 tyX11_ok nmX11 10 rfl 0 rfl 7 (by decide) kw1200 rfl rfl rfl (Nat.le_of_ble_eq_true rfl) rfl dX11_go_109 (fun H locs hw => ?_)
            exact x_retvQ hQ B hw ⟨j9, j9, 0, qm_number, qm_sign, qm_word, rfl, (by omega), (by omega), (by decide), (by omega), (by have e0 : (0 : Int32).toInt = 0 := rfl; omega)⟩ (Nat.le_of_ble_eq_true rfl) (Nat.le_of_ble_eq_true rfl) dX11_go_112
        refine lv_icmp_le (tgt := 96) C.1 C.2.1 dX11_go_68 (by decide) (fun c302 => ?_) (fun c302 => ?_)
        · skip
          have c302 : qm_size.toInt ≤ qm_limit.toInt := i_leT (X := qm_size.toInt) (Y := qm_limit.toInt) rfl rfl c302
          have bc302_qm_limit := i_bd qm_limit
          exact J304   (by omega) _ _ _ hw (lv_sub hl [0] rfl)
        · skip
          have c302 : qm_limit.toInt < qm_size.toInt := i_leF (X := qm_size.toInt) (Y := qm_limit.toInt) rfl rfl c302
          have bc302_qm_limit := i_bd qm_limit
          refine lv_aload_n C.1 C.2.1 dX11_go_71 rfl (lv_at hl 0 rfl) ?_
          refine x_get C hw iwX11 10 rfl 0 rfl 6 (by decide) kw1199 rfl dX11_go_72 ?_
          refine lv_aload_n C.1 C.2.1 dX11_go_75 rfl (lv_at hl 0 rfl) ?_
          refine x_get C hw iwX11 10 rfl 0 rfl 4 (by decide) kw1197 rfl dX11_go_76 ?_
          refine lv_icmp_lt (tgt := 96) C.1 C.2.1 dX11_go_79 (by decide) (fun c1249 => ?_) (fun c1249 => ?_)
          · skip
            have c1249 : j9.toInt < qm_limit.toInt := i_ltT (X := j9.toInt) (Y := qm_limit.toInt) rfl rfl c1249
            have bc1249_qm_limit := i_bd qm_limit
            exact J304   (by omega) _ _ _ hw (lv_sub hl [0] rfl)
          · skip
            have c1249 : qm_limit.toInt ≤ j9.toInt := i_ltF (X := j9.toInt) (Y := qm_limit.toInt) rfl rfl c1249
            have bc1249_qm_limit := i_bd qm_limit
            refine lv_aload_n C.1 C.2.1 dX11_go_82 rfl (lv_at hl 0 rfl) ?_
            refine lv_aload_n C.1 C.2.1 dX11_go_83 rfl (lv_at hl 0 rfl) ?_
            refine x_get C hw iwX11 10 rfl 0 rfl 4 (by decide) kw1197 rfl dX11_go_84 ?_
            refine x_put (w' := [(qm, .inr (10, [.int qm_thrown, .ref qm_tape, .int qm_taped, .int qm_size, .int qm_limit, .int j9, .int qm_limit, .int qm_kind, .int qm_number, .int qm_sign, .int qm_fault, .int qm_place, .long qm_word, .int qm_told, .ref qm_now, .ref qm_read, .ref qm_kept, .ref qm_snaps, .ref qm_aside, .ref qm_name, .ref qm_readName, .ref qm_keptName, .ref qm_isKept, .ref qm_onces, .int qm_snapMany, .ref qm_order, .ref qm_ordered, .int qm_orderMany, .int qm_orderMost, .int qm_passing, .int qm_movedWho, .int qm_scratched, .ref qm_text, .int qm_texts, .int qm_seed, .ref qm_line, .ref qm_written, .int qm_lineMany, .int qm_hasWritten, .ref qm_node, .int qm_nodes, .int qm_onesMany, .int qm_within, .int qm_top])), (qm_tape, eI G 940 qm_tape_c)]) C hw iwX11 tyX11_ok nmX11 10 rfl 0 rfl 6 (by decide) kw1199 rfl rfl rfl (Nat.le_of_ble_eq_true rfl) rfl dX11_go_87 (fun H locs hw => ?_)
            refine lv_aload_n C.1 C.2.1 dX11_go_90 rfl (lv_at hl 0 rfl) ?_
            refine lv_iconst (v := 1) C.1 C.2.1 dX11_go_91 (by decide) ?_
            refine x_put (w' := [(qm, .inr (10, [.int qm_thrown, .ref qm_tape, .int qm_taped, .int qm_size, .int qm_limit, .int j9, .int qm_limit, .int 1, .int qm_number, .int qm_sign, .int qm_fault, .int qm_place, .long qm_word, .int qm_told, .ref qm_now, .ref qm_read, .ref qm_kept, .ref qm_snaps, .ref qm_aside, .ref qm_name, .ref qm_readName, .ref qm_keptName, .ref qm_isKept, .ref qm_onces, .int qm_snapMany, .ref qm_order, .ref qm_ordered, .int qm_orderMany, .int qm_orderMost, .int qm_passing, .int qm_movedWho, .int qm_scratched, .ref qm_text, .int qm_texts, .int qm_seed, .ref qm_line, .ref qm_written, .int qm_lineMany, .int qm_hasWritten, .ref qm_node, .int qm_nodes, .int qm_onesMany, .int qm_within, .int qm_top])), (qm_tape, eI G 940 qm_tape_c)]) C hw iwX11 tyX11_ok nmX11 10 rfl 0 rfl 7 (by decide) kw1200 rfl rfl rfl (Nat.le_of_ble_eq_true rfl) rfl dX11_go_92 (fun H locs hw => ?_)
            exact x_retvQ hQ B hw ⟨j9, qm_limit, 1, qm_number, qm_sign, qm_word, rfl, (by omega), (by omega), (by decide), (by omega), (by have e0 : (1 : Int32).toInt = 1 := rfl; omega)⟩ (Nat.le_of_ble_eq_true rfl) (Nat.le_of_ble_eq_true rfl) dX11_go_95
      refine lv_icmp_ge (tgt := 52) C.1 C.2.1 dX11_go_8 (by decide) (fun c20 => ?_) (fun c20 => ?_)
      · skip
        have c20 : qm_size.toInt ≤ j9.toInt := i_leT (X := qm_size.toInt) (Y := j9.toInt) rfl rfl c20
        exact J27   (by omega) _ _ _ hw (lv_sub hl [0] rfl)
      · skip
        have c20 : j9.toInt < qm_size.toInt := i_leF (X := qm_size.toInt) (Y := j9.toInt) rfl rfl c20
        refine lv_aload_n C.1 C.2.1 dX11_go_11 rfl (lv_at hl 0 rfl) ?_
        refine x_get C hw iwX11 10 rfl 0 rfl 1 (by decide) kw1194 rfl dX11_go_12 ?_
        refine lv_aload_n C.1 C.2.1 dX11_go_15 rfl (lv_at hl 0 rfl) ?_
        refine x_get C hw iwX11 10 rfl 0 rfl 5 (by decide) kw1198 rfl dX11_go_16 ?_
        refine x_iald (v := (qm_tape_c j9.toNatClampNeg)) C hw 1 rfl (i_in (by omega) (by omega)) rfl dX11_go_19 (x_gen (fun v1250 => ?_))
        refine lv_bipush (v := 32) C.1 C.2.1 dX11_go_20 (by decide) ?_
        have J1254 : (qm_to.toInt ≤ j9.toInt) → ∀ (H : Heap) (locs : List Loc) (ls : Array Slot), Wd G s A [(qm, .inr (10, [.int qm_thrown, .ref qm_tape, .int qm_taped, .int qm_size, .int qm_limit, .int j9, .int qm_from, .int qm_kind, .int qm_number, .int qm_sign, .int qm_fault, .int qm_place, .long qm_word, .int qm_told, .ref qm_now, .ref qm_read, .ref qm_kept, .ref qm_snaps, .ref qm_aside, .ref qm_name, .ref qm_readName, .ref qm_keptName, .ref qm_isKept, .ref qm_onces, .int qm_snapMany, .ref qm_order, .ref qm_ordered, .int qm_orderMany, .int qm_orderMost, .int qm_passing, .int qm_movedWho, .int qm_scratched, .ref qm_text, .int qm_texts, .int qm_seed, .ref qm_line, .ref qm_written, .int qm_lineMany, .int qm_hasWritten, .ref qm_node, .int qm_nodes, .int qm_onesMany, .int qm_within, .int qm_top])), (qm_tape, eI G 940 qm_tape_c)] H locs → lv_has ls 5 [(0, .ref qm)] → W p l e (rmD 1 0 0) s m args below meth c H locs 0 0 Q (F0 m 39 ls []) := by
          intro  hJ1254_0 H locs ls hw hl
          refine lv_aload_n C.1 C.2.1 dX11_go_39 rfl (lv_at hl 0 rfl) ?_
          refine lv_dup C.1 C.2.1 dX11_go_40 rfl ?_
          refine x_get C hw iwX11 10 rfl 0 rfl 5 (by decide) kw1198 rfl dX11_go_41 ?_
          refine lv_iconst (v := 1) C.1 C.2.1 dX11_go_44 (by decide) ?_
          refine lv_iadd C.1 C.2.1 dX11_go_45 (x_genP (fun z : Int32 => z.toInt = j9.toInt + 1) (i_add (X := j9.toInt) (Y := 1) rfl rfl (by omega) (by omega)) (fun v1256 hv1256 => ?_))
          refine x_put (w' := [(qm, .inr (10, [.int qm_thrown, .ref qm_tape, .int qm_taped, .int qm_size, .int qm_limit, .int v1256, .int qm_from, .int qm_kind, .int qm_number, .int qm_sign, .int qm_fault, .int qm_place, .long qm_word, .int qm_told, .ref qm_now, .ref qm_read, .ref qm_kept, .ref qm_snaps, .ref qm_aside, .ref qm_name, .ref qm_readName, .ref qm_keptName, .ref qm_isKept, .ref qm_onces, .int qm_snapMany, .ref qm_order, .ref qm_ordered, .int qm_orderMany, .int qm_orderMost, .int qm_passing, .int qm_movedWho, .int qm_scratched, .ref qm_text, .int qm_texts, .int qm_seed, .ref qm_line, .ref qm_written, .int qm_lineMany, .int qm_hasWritten, .ref qm_node, .int qm_nodes, .int qm_onesMany, .int qm_within, .int qm_top])), (qm_tape, eI G 940 qm_tape_c)]) C hw iwX11 tyX11_ok nmX11 10 rfl 0 rfl 5 (by decide) kw1198 rfl rfl rfl (Nat.le_of_ble_eq_true rfl) rfl dX11_go_46 (fun H locs hw => ?_)
          refine lv_goto (tgt := 0) C.1 C.2.1 dX11_go_49 (by decide) ?_
          exact ihJ10 v1256 (by omega) (by omega) (by omega) _ _ _ hw (lv_sub hl [0] rfl)
        refine lv_icmp_eq (tgt := 39) C.1 C.2.1 dX11_go_22 (by decide) (fun c1251 => ?_) (fun c1251 => ?_)
        · skip
          have c1251 : v1250.toInt = 32 := i_eqT (X := v1250.toInt) (Y := 32) rfl rfl c1251
          have bc1251_v1250 := i_bd v1250
          exact J1254   (by omega) _ _ _ hw (lv_sub hl [0] rfl)
        · skip
          have c1251 : v1250.toInt ≠ 32 := i_eqF (X := v1250.toInt) (Y := 32) rfl rfl c1251
          have bc1251_v1250 := i_bd v1250
          refine lv_aload_n C.1 C.2.1 dX11_go_25 rfl (lv_at hl 0 rfl) ?_
          refine x_get C hw iwX11 10 rfl 0 rfl 1 (by decide) kw1194 rfl dX11_go_26 ?_
          refine lv_aload_n C.1 C.2.1 dX11_go_29 rfl (lv_at hl 0 rfl) ?_
          refine x_get C hw iwX11 10 rfl 0 rfl 5 (by decide) kw1198 rfl dX11_go_30 ?_
          refine x_iald (v := (qm_tape_c j9.toNatClampNeg)) C hw 1 rfl (i_in (by omega) (by omega)) rfl dX11_go_33 (x_gen (fun v1257 => ?_))
          refine lv_bipush (v := 10) C.1 C.2.1 dX11_go_34 (by decide) ?_
          refine lv_icmp_ne (tgt := 52) C.1 C.2.1 dX11_go_36 (by decide) (fun c1258 => ?_) (fun c1258 => ?_)
          · skip
            have c1258 : v1257.toInt ≠ 10 := i_eqF (X := v1257.toInt) (Y := 10) rfl rfl c1258
            have bc1258_v1257 := i_bd v1257
            exact J27   (by omega) _ _ _ hw (lv_sub hl [0] rfl)
          · skip
            have c1258 : v1257.toInt = 10 := i_eqT (X := v1257.toInt) (Y := 10) rfl rfl c1258
            have bc1258_v1257 := i_bd v1257
            exact J1254   (by omega) _ _ _ hw (lv_sub hl [0] rfl)
  exact loopJ10 _ qm_to (Nat.lt_succ_self _) (by omega) (by omega) _ _ _ hw (lv_sub hl [0] rfl)
