-- needs: 08 6 7 12 14 16 17 18 20 09 10
theorem dX11_holds_0 : decode cX11_holds 0 = .ok (.bipush 99, 2) := by decide +kernel
theorem dX11_holds_2 : decode cX11_holds 2 = .ok (.iconst 4, 1) := by decide +kernel
theorem dX11_holds_3 : decode cX11_holds 3 = .ok (.iload_n 1, 1) := by decide +kernel
theorem dX11_holds_4 : decode cX11_holds 4 = .ok (.imul, 1) := by decide +kernel
theorem dX11_holds_5 : decode cX11_holds 5 = .ok (.iadd, 1) := by decide +kernel
theorem dX11_holds_6 : decode cX11_holds 6 = .ok (.istore_n 3, 1) := by decide +kernel
theorem dX11_holds_7 : decode cX11_holds 7 = .ok (.aload_n 0, 1) := by decide +kernel
theorem dX11_holds_8 : decode cX11_holds 8 = .ok (.getfield 98, 3) := by decide +kernel
theorem dX11_holds_11 : decode cX11_holds 11 = .ok (.iload_n 3, 1) := by decide +kernel
theorem dX11_holds_12 : decode cX11_holds 12 = .ok (.iconst 1, 1) := by decide +kernel
theorem dX11_holds_13 : decode cX11_holds 13 = .ok (.iadd, 1) := by decide +kernel
theorem dX11_holds_14 : decode cX11_holds 14 = .ok (.iaload, 1) := by decide +kernel
theorem dX11_holds_15 : decode cX11_holds 15 = .ok (.istore 4, 2) := by decide +kernel
theorem dX11_holds_17 : decode cX11_holds 17 = .ok (.aload_n 0, 1) := by decide +kernel
theorem dX11_holds_18 : decode cX11_holds 18 = .ok (.getfield 98, 3) := by decide +kernel
theorem dX11_holds_21 : decode cX11_holds 21 = .ok (.iload_n 3, 1) := by decide +kernel
theorem dX11_holds_22 : decode cX11_holds 22 = .ok (.iconst 2, 1) := by decide +kernel
theorem dX11_holds_23 : decode cX11_holds 23 = .ok (.iadd, 1) := by decide +kernel
theorem dX11_holds_24 : decode cX11_holds 24 = .ok (.iaload, 1) := by decide +kernel
theorem dX11_holds_25 : decode cX11_holds 25 = .ok (.istore 5, 2) := by decide +kernel
theorem dX11_holds_27 : decode cX11_holds 27 = .ok (.aload_n 0, 1) := by decide +kernel
theorem dX11_holds_28 : decode cX11_holds 28 = .ok (.getfield 98, 3) := by decide +kernel
theorem dX11_holds_31 : decode cX11_holds 31 = .ok (.iload_n 3, 1) := by decide +kernel
theorem dX11_holds_32 : decode cX11_holds 32 = .ok (.iaload, 1) := by decide +kernel
theorem dX11_holds_33 : decode cX11_holds 33 = .ok (.lookupswitch 201 #[(1, 67), (2, 83), (3, 109), (69, 135), (70, 141), (71, 147), (72, 178)], 67) := by decide +kernel
theorem dX11_holds_100 : decode cX11_holds 100 = .ok (.aload_n 0, 1) := by decide +kernel
theorem dX11_holds_101 : decode cX11_holds 101 = .ok (.iload 4, 2) := by decide +kernel
theorem dX11_holds_103 : decode cX11_holds 103 = .ok (.iload_n 2, 1) := by decide +kernel
theorem dX11_holds_104 : decode cX11_holds 104 = .ok (.invokevirtual 431, 3) := by decide +kernel
theorem mwX11_holds : MwV yX11_holds cX11_holds 8 (some .boolean) 2 := ⟨⟨kw1795, kw15, by decide +kernel⟩, kw1794, kS115⟩
theorem dX11_holds_116 : decode cX11_holds 116 = .ok (.aload_n 0, 1) := by decide +kernel
theorem dX11_holds_117 : decode cX11_holds 117 = .ok (.iload 4, 2) := by decide +kernel
theorem dX11_holds_119 : decode cX11_holds 119 = .ok (.iload_n 2, 1) := by decide +kernel
theorem dX11_holds_120 : decode cX11_holds 120 = .ok (.invokevirtual 431, 3) := by decide +kernel
theorem dX11_holds_142 : decode cX11_holds 142 = .ok (.aload_n 0, 1) := by decide +kernel
theorem dX11_holds_143 : decode cX11_holds 143 = .ok (.iload 4, 2) := by decide +kernel
theorem dX11_holds_145 : decode cX11_holds 145 = .ok (.iload_n 2, 1) := by decide +kernel
theorem dX11_holds_146 : decode cX11_holds 146 = .ok (.invokevirtual 431, 3) := by decide +kernel
theorem dX11_holds_168 : decode cX11_holds 168 = .ok (.aload_n 0, 1) := by decide +kernel
theorem dX11_holds_169 : decode cX11_holds 169 = .ok (.iload_n 2, 1) := by decide +kernel
theorem dX11_holds_170 : decode cX11_holds 170 = .ok (.invokevirtual 246, 3) := by decide +kernel
theorem dX11_holds_173 : decode cX11_holds 173 = .ok (.ireturn, 1) := by decide +kernel
theorem dX11_holds_174 : decode cX11_holds 174 = .ok (.aload_n 0, 1) := by decide +kernel
theorem dX11_holds_175 : decode cX11_holds 175 = .ok (.iload_n 2, 1) := by decide +kernel
theorem dX11_holds_176 : decode cX11_holds 176 = .ok (.invokevirtual 249, 3) := by decide +kernel
theorem dX11_holds_179 : decode cX11_holds 179 = .ok (.ireturn, 1) := by decide +kernel
theorem dX11_holds_180 : decode cX11_holds 180 = .ok (.aload_n 0, 1) := by decide +kernel
theorem dX11_holds_181 : decode cX11_holds 181 = .ok (.getfield 98, 3) := by decide +kernel
theorem dX11_holds_184 : decode cX11_holds 184 = .ok (.bipush 69, 2) := by decide +kernel
theorem dX11_holds_186 : decode cX11_holds 186 = .ok (.iload_n 2, 1) := by decide +kernel
theorem dX11_holds_187 : decode cX11_holds 187 = .ok (.iadd, 1) := by decide +kernel
theorem dX11_holds_188 : decode cX11_holds 188 = .ok (.iaload, 1) := by decide +kernel
theorem dX11_holds_189 : decode cX11_holds 189 = .ok (.iconst 2, 1) := by decide +kernel
theorem dX11_holds_190 : decode cX11_holds 190 = .ok (.invokestatic 234, 3) := by decide +kernel
theorem dX11_holds_193 : decode cX11_holds 193 = .ok (.aload_n 0, 1) := by decide +kernel
theorem dX11_holds_194 : decode cX11_holds 194 = .ok (.getfield 98, 3) := by decide +kernel
theorem dX11_holds_197 : decode cX11_holds 197 = .ok (.bipush 69, 2) := by decide +kernel
theorem dX11_holds_199 : decode cX11_holds 199 = .ok (.iload_n 2, 1) := by decide +kernel
theorem dX11_holds_200 : decode cX11_holds 200 = .ok (.iadd, 1) := by decide +kernel
theorem dX11_holds_201 : decode cX11_holds 201 = .ok (.iaload, 1) := by decide +kernel
theorem dX11_holds_202 : decode cX11_holds 202 = .ok (.if_icmp .ne 7, 3) := by decide +kernel
theorem dX11_holds_209 : decode cX11_holds 209 = .ok (.iconst 0, 1) := by decide +kernel
theorem dX11_holds_210 : decode cX11_holds 210 = .ok (.ireturn, 1) := by decide +kernel
theorem dX11_holds_205 : decode cX11_holds 205 = .ok (.iconst 1, 1) := by decide +kernel
theorem dX11_holds_206 : decode cX11_holds 206 = .ok (.goto 4, 3) := by decide +kernel
theorem dX11_holds_211 : decode cX11_holds 211 = .ok (.aload_n 0, 1) := by decide +kernel
theorem dX11_holds_212 : decode cX11_holds 212 = .ok (.getfield 98, 3) := by decide +kernel
theorem dX11_holds_215 : decode cX11_holds 215 = .ok (.bipush 69, 2) := by decide +kernel
theorem dX11_holds_217 : decode cX11_holds 217 = .ok (.iload_n 2, 1) := by decide +kernel
theorem dX11_holds_218 : decode cX11_holds 218 = .ok (.iadd, 1) := by decide +kernel
theorem dX11_holds_219 : decode cX11_holds 219 = .ok (.iaload, 1) := by decide +kernel
theorem dX11_holds_220 : decode cX11_holds 220 = .ok (.aload_n 0, 1) := by decide +kernel
theorem dX11_holds_221 : decode cX11_holds 221 = .ok (.getfield 98, 3) := by decide +kernel
theorem dX11_holds_224 : decode cX11_holds 224 = .ok (.bipush 69, 2) := by decide +kernel
theorem dX11_holds_226 : decode cX11_holds 226 = .ok (.iload 4, 2) := by decide +kernel
theorem dX11_holds_228 : decode cX11_holds 228 = .ok (.iadd, 1) := by decide +kernel
theorem dX11_holds_229 : decode cX11_holds 229 = .ok (.iaload, 1) := by decide +kernel
theorem dX11_holds_230 : decode cX11_holds 230 = .ok (.invokestatic 325, 3) := by decide +kernel
theorem dX11_holds_233 : decode cX11_holds 233 = .ok (.ireturn, 1) := by decide +kernel
theorem dX11_holds_234 : decode cX11_holds 234 = .ok (.aload_n 0, 1) := by decide +kernel
theorem dX11_holds_235 : decode cX11_holds 235 = .ok (.getfield 98, 3) := by decide +kernel
theorem dX11_holds_238 : decode cX11_holds 238 = .ok (.iload_n 3, 1) := by decide +kernel
theorem dX11_holds_239 : decode cX11_holds 239 = .ok (.iaload, 1) := by decide +kernel
theorem dX11_holds_240 : decode cX11_holds 240 = .ok (.bipush 50, 2) := by decide +kernel
theorem dX11_holds_242 : decode cX11_holds 242 = .ok (.isub, 1) := by decide +kernel
theorem dX11_holds_243 : decode cX11_holds 243 = .ok (.istore 6, 2) := by decide +kernel
theorem dX11_holds_245 : decode cX11_holds 245 = .ok (.iload 6, 2) := by decide +kernel
theorem dX11_holds_247 : decode cX11_holds 247 = .ok (.bipush 23, 2) := by decide +kernel
theorem dX11_holds_249 : decode cX11_holds 249 = .ok (.if_icmp .ne 18, 3) := by decide +kernel
theorem dX11_holds_267 : decode cX11_holds 267 = .ok (.iload 6, 2) := by decide +kernel
theorem dX11_holds_269 : decode cX11_holds 269 = .ok (.bipush 24, 2) := by decide +kernel
theorem dX11_holds_271 : decode cX11_holds 271 = .ok (.if_icmp .ne 15, 3) := by decide +kernel
theorem dX11_holds_286 : decode cX11_holds 286 = .ok (.iload 6, 2) := by decide +kernel
theorem dX11_holds_288 : decode cX11_holds 288 = .ok (.bipush 25, 2) := by decide +kernel
theorem dX11_holds_290 : decode cX11_holds 290 = .ok (.if_icmp .ne 15, 3) := by decide +kernel
theorem dX11_holds_305 : decode cX11_holds 305 = .ok (.iload_n 2, 1) := by decide +kernel
theorem dX11_holds_293 : decode cX11_holds 293 = .ok (.aload_n 0, 1) := by decide +kernel
theorem dX11_holds_294 : decode cX11_holds 294 = .ok (.iload_n 2, 1) := by decide +kernel
theorem dX11_holds_295 : decode cX11_holds 295 = .ok (.iconst 0, 1) := by decide +kernel
theorem dX11_holds_296 : decode cX11_holds 296 = .ok (.invokevirtual 276, 3) := by decide +kernel
theorem dX11_holds_299 : decode cX11_holds 299 = .ok (.invokestatic 252, 3) := by decide +kernel
theorem dX11_holds_302 : decode cX11_holds 302 = .ok (.goto 4, 3) := by decide +kernel
theorem dX11_holds_274 : decode cX11_holds 274 = .ok (.aload_n 0, 1) := by decide +kernel
theorem dX11_holds_275 : decode cX11_holds 275 = .ok (.getfield 98, 3) := by decide +kernel
theorem dX11_holds_278 : decode cX11_holds 278 = .ok (.bipush 12, 2) := by decide +kernel
theorem dX11_holds_280 : decode cX11_holds 280 = .ok (.iload_n 2, 1) := by decide +kernel
theorem dX11_holds_281 : decode cX11_holds 281 = .ok (.iadd, 1) := by decide +kernel
theorem dX11_holds_282 : decode cX11_holds 282 = .ok (.iaload, 1) := by decide +kernel
theorem dX11_holds_283 : decode cX11_holds 283 = .ok (.goto 23, 3) := by decide +kernel
theorem dX11_holds_252 : decode cX11_holds 252 = .ok (.aload_n 0, 1) := by decide +kernel
theorem dX11_holds_253 : decode cX11_holds 253 = .ok (.getfield 98, 3) := by decide +kernel
theorem dX11_holds_256 : decode cX11_holds 256 = .ok (.bipush 69, 2) := by decide +kernel
theorem dX11_holds_258 : decode cX11_holds 258 = .ok (.iload_n 2, 1) := by decide +kernel
theorem dX11_holds_259 : decode cX11_holds 259 = .ok (.iadd, 1) := by decide +kernel
theorem dX11_holds_260 : decode cX11_holds 260 = .ok (.iaload, 1) := by decide +kernel
theorem dX11_holds_261 : decode cX11_holds 261 = .ok (.invokestatic 252, 3) := by decide +kernel
theorem dX11_holds_264 : decode cX11_holds 264 = .ok (.goto 42, 3) := by decide +kernel
theorem dX11_holds_306 : decode cX11_holds 306 = .ok (.istore 7, 2) := by decide +kernel
theorem dX11_holds_308 : decode cX11_holds 308 = .ok (.aload_n 0, 1) := by decide +kernel
theorem dX11_holds_309 : decode cX11_holds 309 = .ok (.getfield 98, 3) := by decide +kernel
theorem dX11_holds_312 : decode cX11_holds 312 = .ok (.iload_n 3, 1) := by decide +kernel
theorem dX11_holds_313 : decode cX11_holds 313 = .ok (.iconst 3, 1) := by decide +kernel
theorem dX11_holds_314 : decode cX11_holds 314 = .ok (.iadd, 1) := by decide +kernel
theorem dX11_holds_315 : decode cX11_holds 315 = .ok (.iaload, 1) := by decide +kernel
theorem dX11_holds_316 : decode cX11_holds 316 = .ok (.bipush 60, 2) := by decide +kernel
theorem dX11_holds_318 : decode cX11_holds 318 = .ok (.if_icmp .ne 18, 3) := by decide +kernel
theorem dX11_holds_336 : decode cX11_holds 336 = .ok (.aload_n 0, 1) := by decide +kernel
theorem dX11_holds_337 : decode cX11_holds 337 = .ok (.getfield 98, 3) := by decide +kernel
theorem dX11_holds_340 : decode cX11_holds 340 = .ok (.iload_n 3, 1) := by decide +kernel
theorem dX11_holds_341 : decode cX11_holds 341 = .ok (.iconst 3, 1) := by decide +kernel
theorem dX11_holds_342 : decode cX11_holds 342 = .ok (.iadd, 1) := by decide +kernel
theorem dX11_holds_343 : decode cX11_holds 343 = .ok (.iaload, 1) := by decide +kernel
theorem dX11_holds_344 : decode cX11_holds 344 = .ok (.bipush 61, 2) := by decide +kernel
theorem dX11_holds_346 : decode cX11_holds 346 = .ok (.if_icmp .ne 18, 3) := by decide +kernel
theorem dX11_holds_364 : decode cX11_holds 364 = .ok (.iload 7, 2) := by decide +kernel
theorem dX11_holds_366 : decode cX11_holds 366 = .ok (.iload 5, 2) := by decide +kernel
theorem dX11_holds_368 : decode cX11_holds 368 = .ok (.if_icmp .le 7, 3) := by decide +kernel
theorem dX11_holds_375 : decode cX11_holds 375 = .ok (.iconst 0, 1) := by decide +kernel
theorem dX11_holds_376 : decode cX11_holds 376 = .ok (.ireturn, 1) := by decide +kernel
theorem dX11_holds_371 : decode cX11_holds 371 = .ok (.iconst 1, 1) := by decide +kernel
theorem dX11_holds_372 : decode cX11_holds 372 = .ok (.goto 4, 3) := by decide +kernel
theorem dX11_holds_349 : decode cX11_holds 349 = .ok (.iload 7, 2) := by decide +kernel
theorem dX11_holds_351 : decode cX11_holds 351 = .ok (.iload 5, 2) := by decide +kernel
theorem dX11_holds_353 : decode cX11_holds 353 = .ok (.if_icmp .ne 7, 3) := by decide +kernel
theorem dX11_holds_360 : decode cX11_holds 360 = .ok (.iconst 0, 1) := by decide +kernel
theorem dX11_holds_361 : decode cX11_holds 361 = .ok (.goto 15, 3) := by decide +kernel
theorem dX11_holds_356 : decode cX11_holds 356 = .ok (.iconst 1, 1) := by decide +kernel
theorem dX11_holds_357 : decode cX11_holds 357 = .ok (.goto 19, 3) := by decide +kernel
theorem dX11_holds_321 : decode cX11_holds 321 = .ok (.iload 7, 2) := by decide +kernel
theorem dX11_holds_323 : decode cX11_holds 323 = .ok (.iload 5, 2) := by decide +kernel
theorem dX11_holds_325 : decode cX11_holds 325 = .ok (.if_icmp .ge 7, 3) := by decide +kernel
theorem dX11_holds_332 : decode cX11_holds 332 = .ok (.iconst 0, 1) := by decide +kernel
theorem dX11_holds_333 : decode cX11_holds 333 = .ok (.goto 43, 3) := by decide +kernel
theorem dX11_holds_328 : decode cX11_holds 328 = .ok (.iconst 1, 1) := by decide +kernel
theorem dX11_holds_329 : decode cX11_holds 329 = .ok (.goto 47, 3) := by decide +kernel
theorem dX11_holds_107 : decode cX11_holds 107 = .ok (.ifCond .ne 7, 3) := by decide +kernel
theorem dX11_holds_110 : decode cX11_holds 110 = .ok (.iconst 1, 1) := by decide +kernel
theorem dX11_holds_111 : decode cX11_holds 111 = .ok (.goto 4, 3) := by decide +kernel
theorem dX11_holds_115 : decode cX11_holds 115 = .ok (.ireturn, 1) := by decide +kernel
theorem dX11_holds_114 : decode cX11_holds 114 = .ok (.iconst 0, 1) := by decide +kernel
theorem dX11_holds_123 : decode cX11_holds 123 = .ok (.ifCond .eq 17, 3) := by decide +kernel
theorem dX11_holds_140 : decode cX11_holds 140 = .ok (.iconst 0, 1) := by decide +kernel
theorem dX11_holds_141 : decode cX11_holds 141 = .ok (.ireturn, 1) := by decide +kernel
theorem dX11_holds_126 : decode cX11_holds 126 = .ok (.aload_n 0, 1) := by decide +kernel
theorem dX11_holds_127 : decode cX11_holds 127 = .ok (.iload 5, 2) := by decide +kernel
theorem dX11_holds_129 : decode cX11_holds 129 = .ok (.iload_n 2, 1) := by decide +kernel
theorem dX11_holds_130 : decode cX11_holds 130 = .ok (.invokevirtual 431, 3) := by decide +kernel
theorem dX11_holds_133 : decode cX11_holds 133 = .ok (.ifCond .eq 7, 3) := by decide +kernel
theorem dX11_holds_136 : decode cX11_holds 136 = .ok (.iconst 1, 1) := by decide +kernel
theorem dX11_holds_137 : decode cX11_holds 137 = .ok (.goto 4, 3) := by decide +kernel
theorem dX11_holds_149 : decode cX11_holds 149 = .ok (.ifCond .ne 13, 3) := by decide +kernel
theorem dX11_holds_152 : decode cX11_holds 152 = .ok (.aload_n 0, 1) := by decide +kernel
theorem dX11_holds_153 : decode cX11_holds 153 = .ok (.iload 5, 2) := by decide +kernel
theorem dX11_holds_155 : decode cX11_holds 155 = .ok (.iload_n 2, 1) := by decide +kernel
theorem dX11_holds_156 : decode cX11_holds 156 = .ok (.invokevirtual 431, 3) := by decide +kernel
theorem dX11_holds_159 : decode cX11_holds 159 = .ok (.ifCond .eq 7, 3) := by decide +kernel
theorem dX11_holds_166 : decode cX11_holds 166 = .ok (.iconst 0, 1) := by decide +kernel
theorem dX11_holds_167 : decode cX11_holds 167 = .ok (.ireturn, 1) := by decide +kernel
theorem dX11_holds_162 : decode cX11_holds 162 = .ok (.iconst 1, 1) := by decide +kernel
theorem dX11_holds_163 : decode cX11_holds 163 = .ok (.goto 4, 3) := by decide +kernel
set_option maxHeartbeats 4000000 in
set_option maxRecDepth 100000 in
theorem s_X11_holds_n {l : Launch} {G : Gc} (n : Nat) : ∀ (qm : Nat) (a1 : Int32) (a2 : Int32) (qm_thrown : Int32) (qm_tape : Nat) (qm_taped : Int32) (qm_size : Int32) (qm_limit : Int32) (qm_to : Int32) (qm_from : Int32) (qm_kind : Int32) (qm_number : Int32) (qm_sign : Int32) (qm_fault : Int32) (qm_place : Int32) (qm_word : Int64) (qm_told : Int32) (qm_now : Nat) (qm_read : Nat) (qm_kept : Nat) (qm_snaps : Nat) (qm_aside : Nat) (qm_name : Nat) (qm_readName : Nat) (qm_keptName : Nat) (qm_isKept : Nat) (qm_onces : Nat) (qm_snapMany : Int32) (qm_order : Nat) (qm_ordered : Nat) (qm_orderMany : Int32) (qm_orderMost : Int32) (qm_passing : Int32) (qm_movedWho : Int32) (qm_scratched : Int32) (qm_text : Nat) (qm_texts : Int32) (qm_seed : Int32) (qm_line : Nat) (qm_written : Nat) (qm_lineMany : Int32) (qm_hasWritten : Int32) (qm_node : Nat) (qm_nodes : Int32) (qm_onesMany : Int32) (qm_within : Int32) (qm_top : Int32) (qm_now_c : Nat → Int32), (0 ≤ a1.toInt ∧ a1.toInt ≤ 59) → (0 ≤ a2.toInt ∧ a2.toInt ≤ 5) → (0 ≤ qm_taped.toInt ∧ qm_taped.toInt ≤ 940) → (0 ≤ qm_size.toInt ∧ qm_size.toInt ≤ 940) → (0 ≤ qm_to.toInt ∧ qm_to.toInt ≤ 940) → (slI qm_now_c) → (trI qm_now_c) → (0 ≤ qm_snapMany.toInt ∧ qm_snapMany.toInt ≤ 8) → (0 ≤ qm_orderMany.toInt ∧ qm_orderMany.toInt ≤ 6) → (0 ≤ qm_texts.toInt ∧ qm_texts.toInt ≤ 64) → (0 ≤ qm_lineMany.toInt ∧ qm_lineMany.toInt ≤ 40) → (0 ≤ qm_hasWritten.toInt ∧ qm_hasWritten.toInt ≤ 1) → (0 ≤ qm_nodes.toInt ∧ qm_nodes.toInt ≤ 40) → (0 ≤ qm_onesMany.toInt ∧ qm_onesMany.toInt ≤ 20) → (0 ≤ qm_within.toInt ∧ qm_within.toInt ≤ 8) → (a1.toInt < (n : Int)) → Ci l yX11_holds cX11_holds 8 (some .boolean) (5 + 1 * n) 0 0 G [.ref qm, .int a1, .int a2] [(qm, .inr (10, [.int qm_thrown, .ref qm_tape, .int qm_taped, .int qm_size, .int qm_limit, .int qm_to, .int qm_from, .int qm_kind, .int qm_number, .int qm_sign, .int qm_fault, .int qm_place, .long qm_word, .int qm_told, .ref qm_now, .ref qm_read, .ref qm_kept, .ref qm_snaps, .ref qm_aside, .ref qm_name, .ref qm_readName, .ref qm_keptName, .ref qm_isKept, .ref qm_onces, .int qm_snapMany, .ref qm_order, .ref qm_ordered, .int qm_orderMany, .int qm_orderMost, .int qm_passing, .int qm_movedWho, .int qm_scratched, .ref qm_text, .int qm_texts, .int qm_seed, .ref qm_line, .ref qm_written, .int qm_lineMany, .int qm_hasWritten, .ref qm_node, .int qm_nodes, .int qm_onesMany, .int qm_within, .int qm_top])), (qm_now, eI G 339 qm_now_c)] (fun (r9 : Int32) (u9 : va_W) => (r9 = 0 ∧ u9 = [(qm, .inr (10, [.int qm_thrown, .ref qm_tape, .int qm_taped, .int qm_size, .int qm_limit, .int qm_to, .int qm_from, .int qm_kind, .int qm_number, .int qm_sign, .int qm_fault, .int qm_place, .long qm_word, .int qm_told, .ref qm_now, .ref qm_read, .ref qm_kept, .ref qm_snaps, .ref qm_aside, .ref qm_name, .ref qm_readName, .ref qm_keptName, .ref qm_isKept, .ref qm_onces, .int qm_snapMany, .ref qm_order, .ref qm_ordered, .int qm_orderMany, .int qm_orderMost, .int qm_passing, .int qm_movedWho, .int qm_scratched, .ref qm_text, .int qm_texts, .int qm_seed, .ref qm_line, .ref qm_written, .int qm_lineMany, .int qm_hasWritten, .ref qm_node, .int qm_nodes, .int qm_onesMany, .int qm_within, .int qm_top])), (qm_now, eI G 339 qm_now_c)]) ∨ (r9 = 1 ∧ u9 = [(qm, .inr (10, [.int qm_thrown, .ref qm_tape, .int qm_taped, .int qm_size, .int qm_limit, .int qm_to, .int qm_from, .int qm_kind, .int qm_number, .int qm_sign, .int qm_fault, .int qm_place, .long qm_word, .int qm_told, .ref qm_now, .ref qm_read, .ref qm_kept, .ref qm_snaps, .ref qm_aside, .ref qm_name, .ref qm_readName, .ref qm_keptName, .ref qm_isKept, .ref qm_onces, .int qm_snapMany, .ref qm_order, .ref qm_ordered, .int qm_orderMany, .int qm_orderMost, .int qm_passing, .int qm_movedWho, .int qm_scratched, .ref qm_text, .int qm_texts, .int qm_seed, .ref qm_line, .ref qm_written, .int qm_lineMany, .int qm_hasWritten, .ref qm_node, .int qm_nodes, .int qm_onesMany, .int qm_within, .int qm_top])), (qm_now, eI G 339 qm_now_c)])) := by
  induction n with
  | zero => intro qm a1 a2 qm_thrown qm_tape qm_taped qm_size qm_limit qm_to qm_from qm_kind qm_number qm_sign qm_fault qm_place qm_word qm_told qm_now qm_read qm_kept qm_snaps qm_aside qm_name qm_readName qm_keptName qm_isKept qm_onces qm_snapMany qm_order qm_ordered qm_orderMany qm_orderMost qm_passing qm_movedWho qm_scratched qm_text qm_texts qm_seed qm_line qm_written qm_lineMany qm_hasWritten qm_node qm_nodes qm_onesMany qm_within qm_top qm_now_c hi_a1 hi_a2 hi_qm_taped hi_qm_size hi_qm_to hf_qm_now_c hf1_qm_now_c hi_qm_snapMany hi_qm_orderMany hi_qm_texts hi_qm_lineMany hi_qm_hasWritten hi_qm_nodes hi_qm_onesMany hi_qm_within hme; exfalso; omega
  | succ n ih =>
    intro qm a1 a2 qm_thrown qm_tape qm_taped qm_size qm_limit qm_to qm_from qm_kind qm_number qm_sign qm_fault qm_place qm_word qm_told qm_now qm_read qm_kept qm_snaps qm_aside qm_name qm_readName qm_keptName qm_isKept qm_onces qm_snapMany qm_order qm_ordered qm_orderMany qm_orderMost qm_passing qm_movedWho qm_scratched qm_text qm_texts qm_seed qm_line qm_written qm_lineMany qm_hasWritten qm_node qm_nodes qm_onesMany qm_within qm_top qm_now_c hi_a1 hi_a2 hi_qm_taped hi_qm_size hi_qm_to hf_qm_now_c hf1_qm_now_c hi_qm_snapMany hi_qm_orderMany hi_qm_texts hi_qm_lineMany hi_qm_hasWritten hi_qm_nodes hi_qm_onesMany hi_qm_within hme
    refine Ci.ofQ (by decide) (Nat.le_of_ble_eq_true rfl) ?_
    intro p e s m below meth c ls A args Q hQ B hw hl
    have C : CallFix p m c cX11_holds 8 s args gw "LanternStateModel" := B.1
    have hl : lv_has ls 8 [(0, .ref qm), (1, .int a1), (2, .int a2)] := hl
    obtain ⟨q1, q2, q3⟩ := trI_at hf1_qm_now_c (K := a1.toInt.toNat) (by omega)
    refine lv_bipush (v := 99) C.1 C.2.1 dX11_holds_0 (by decide) ?_
    refine lv_iconst (v := 4) C.1 C.2.1 dX11_holds_2 (by decide) ?_
    refine lv_iload_n C.1 C.2.1 dX11_holds_3 rfl (lv_at hl 1 rfl) ?_
    refine lv_imul C.1 C.2.1 dX11_holds_4 (x_genP (fun z : Int32 => z.toInt = 4 * a1.toInt) (i_mul (X := 4) (Y := a1.toInt) rfl rfl (by omega) (by omega)) (fun v1 hv1 => ?_))
    refine lv_iadd C.1 C.2.1 dX11_holds_5 (x_genP (fun z : Int32 => z.toInt = 99 + v1.toInt) (i_add (X := 99) (Y := v1.toInt) rfl rfl (by omega) (by omega)) (fun v2 hv2 => ?_))
    refine lv_istore_n (lv' := [(3, .int v2), (0, .ref qm), (1, .int a1), (2, .int a2)]) C.1 C.2.1 dX11_holds_6 rfl hl (by decide) rfl (fun ls hl => ?_)
    refine lv_aload_n C.1 C.2.1 dX11_holds_7 rfl (lv_at hl 1 rfl) ?_
    refine x_get C hw iwX11 10 rfl 0 rfl 14 (by decide) kw1207 rfl dX11_holds_8 ?_
    refine lv_iload_n C.1 C.2.1 dX11_holds_11 rfl (lv_at hl 0 rfl) ?_
    refine lv_iconst (v := 1) C.1 C.2.1 dX11_holds_12 (by decide) ?_
    refine lv_iadd C.1 C.2.1 dX11_holds_13 (x_genP (fun z : Int32 => z.toInt = v2.toInt + 1) (i_add (X := v2.toInt) (Y := 1) rfl rfl (by omega) (by omega)) (fun v3 hv3 => ?_))
    refine x_iald (v := (qm_now_c v3.toNatClampNeg)) C hw 1 rfl (i_in (by omega) (by omega)) rfl dX11_holds_14 (x_genP (fun z : Int32 => z.toInt = (qm_now_c (99 + (4 * a1.toInt.toNat + 1))).toInt) (by rw [show v3.toNatClampNeg = (99 + (4 * a1.toInt.toNat + 1)) by rw [i_cn]; omega]) (fun v4 hv4 => ?_))
    refine lv_istore (lv' := [(4, .int v4), (3, .int v2), (0, .ref qm), (1, .int a1), (2, .int a2)]) C.1 C.2.1 dX11_holds_15 hl (by decide) rfl (fun ls hl => ?_)
    refine lv_aload_n C.1 C.2.1 dX11_holds_17 rfl (lv_at hl 2 rfl) ?_
    refine x_get C hw iwX11 10 rfl 0 rfl 14 (by decide) kw1207 rfl dX11_holds_18 ?_
    refine lv_iload_n C.1 C.2.1 dX11_holds_21 rfl (lv_at hl 1 rfl) ?_
    refine lv_iconst (v := 2) C.1 C.2.1 dX11_holds_22 (by decide) ?_
    refine lv_iadd C.1 C.2.1 dX11_holds_23 (x_genP (fun z : Int32 => z.toInt = v2.toInt + 2) (i_add (X := v2.toInt) (Y := 2) rfl rfl (by omega) (by omega)) (fun v5 hv5 => ?_))
    refine x_iald (v := (qm_now_c v5.toNatClampNeg)) C hw 1 rfl (i_in (by omega) (by omega)) rfl dX11_holds_24 (x_genP (fun z : Int32 => z.toInt = (qm_now_c (99 + (4 * a1.toInt.toNat + 2))).toInt) (by rw [show v5.toNatClampNeg = (99 + (4 * a1.toInt.toNat + 2)) by rw [i_cn]; omega]) (fun v6 hv6 => ?_))
    refine lv_istore (lv' := [(5, .int v6), (4, .int v4), (3, .int v2), (0, .ref qm), (1, .int a1), (2, .int a2)]) C.1 C.2.1 dX11_holds_25 hl (by decide) rfl (fun ls hl => ?_)
    refine lv_aload_n C.1 C.2.1 dX11_holds_27 rfl (lv_at hl 3 rfl) ?_
    refine x_get C hw iwX11 10 rfl 0 rfl 14 (by decide) kw1207 rfl dX11_holds_28 ?_
    refine lv_iload_n C.1 C.2.1 dX11_holds_31 rfl (lv_at hl 2 rfl) ?_
    refine x_iald (v := (qm_now_c v2.toNatClampNeg)) C hw 1 rfl (i_in (by omega) (by omega)) rfl dX11_holds_32 (x_genP (fun z : Int32 => z.toInt = (qm_now_c (99 + 4 * a1.toInt.toNat)).toInt) (by rw [show v2.toNatClampNeg = (99 + 4 * a1.toInt.toNat) by rw [i_cn]; omega]) (fun v7 hv7 => ?_))
    have k8 : v7.toInt = 1 ∨ v7.toInt = 2 ∨ v7.toInt = 3 ∨ v7.toInt = 69 ∨ v7.toInt = 70 ∨ v7.toInt = 71 ∨ v7.toInt = 72 ∨ (v7.toInt ≠ 1 ∧ v7.toInt ≠ 2 ∧ v7.toInt ≠ 3 ∧ v7.toInt ≠ 69 ∧ v7.toInt ≠ 70 ∧ v7.toInt ≠ 71 ∧ v7.toInt ≠ 72) := by omega
    rcases k8 with k8 | k8 | k8 | k8 | k8 | k8 | k8 | k8
    · skip
      have k8 : v7 = 1 := Int32.toInt_inj.mp (by rw [k8]; rfl)
      refine x_topi (z := 1) k8 ?_
      refine lv_lookup (off := 67) (tgt := 100) C.1 C.2.1 dX11_holds_33 (by decide) (by decide) (by decide) ?_
      have hv7_ := congrArg Int32.toInt k8
      have hv7_ : v7.toInt = 1 := hv7_
      refine lv_aload_n C.1 C.2.1 dX11_holds_100 rfl (lv_at hl 3 rfl) ?_
      refine lv_iload C.1 C.2.1 dX11_holds_101 (lv_at hl 1 rfl) ?_
      refine lv_iload_n C.1 C.2.1 dX11_holds_103 rfl (lv_at hl 5 rfl) ?_
      refine x_calliV (As := [.int v4, .int a2]) (rest := []) (wr := []) C hw (ih qm v4 a2 qm_thrown qm_tape qm_taped qm_size qm_limit qm_to qm_from qm_kind qm_number qm_sign qm_fault qm_place qm_word qm_told qm_now qm_read qm_kept qm_snaps qm_aside qm_name qm_readName qm_keptName qm_isKept qm_onces qm_snapMany qm_order qm_ordered qm_orderMany qm_orderMost qm_passing qm_movedWho qm_scratched qm_text qm_texts qm_seed qm_line qm_written qm_lineMany qm_hasWritten qm_node qm_nodes qm_onesMany qm_within qm_top qm_now_c (by omega) (by omega) (by omega) (by omega) (by omega) hf_qm_now_c hf1_qm_now_c (by omega) (by omega) (by omega) (by omega) (by omega) (by omega) (by omega) (by omega) (by omega)) mwX11_holds kw1792 [0, 1] [] rfl rfl rfl rfl (by decide) 0 rfl rfl rfl rfl hl.1 rfl (Nat.le_of_ble_eq_true rfl) ⟨(by dsimp only [rmD]; omega), (by dsimp only [rmD]; omega)⟩ ⟨(Nat.le_of_ble_eq_true rfl), (Nat.le_of_ble_eq_true rfl)⟩ dX11_holds_104 (fun r9 u9 H locs hp9 hw => ?_)
      rcases hp9 with ⟨rfl, rfl⟩ | ⟨rfl, rfl⟩
      · skip
        have hw : Wd G s A [(qm, .inr (10, [.int qm_thrown, .ref qm_tape, .int qm_taped, .int qm_size, .int qm_limit, .int qm_to, .int qm_from, .int qm_kind, .int qm_number, .int qm_sign, .int qm_fault, .int qm_place, .long qm_word, .int qm_told, .ref qm_now, .ref qm_read, .ref qm_kept, .ref qm_snaps, .ref qm_aside, .ref qm_name, .ref qm_readName, .ref qm_keptName, .ref qm_isKept, .ref qm_onces, .int qm_snapMany, .ref qm_order, .ref qm_ordered, .int qm_orderMany, .int qm_orderMost, .int qm_passing, .int qm_movedWho, .int qm_scratched, .ref qm_text, .int qm_texts, .int qm_seed, .ref qm_line, .ref qm_written, .int qm_lineMany, .int qm_hasWritten, .ref qm_node, .int qm_nodes, .int qm_onesMany, .int qm_within, .int qm_top])), (qm_now, eI G 339 qm_now_c)] H _ := hw
        refine lv_if_ne (tgt := 114) C.1 C.2.1 dX11_holds_107 (by decide) (fun h9 => absurd (by decide) h9) (fun _ => ?_)
        refine lv_iconst (v := 1) C.1 C.2.1 dX11_holds_110 (by decide) ?_
        refine lv_goto (tgt := 115) C.1 C.2.1 dX11_holds_111 (by decide) ?_
        exact x_retzQ hQ B hw rfl (Or.inr ⟨rfl, rfl⟩) (Nat.le_of_ble_eq_true rfl) (Nat.le_of_ble_eq_true rfl) dX11_holds_115
      · skip
        have hw : Wd G s A [(qm, .inr (10, [.int qm_thrown, .ref qm_tape, .int qm_taped, .int qm_size, .int qm_limit, .int qm_to, .int qm_from, .int qm_kind, .int qm_number, .int qm_sign, .int qm_fault, .int qm_place, .long qm_word, .int qm_told, .ref qm_now, .ref qm_read, .ref qm_kept, .ref qm_snaps, .ref qm_aside, .ref qm_name, .ref qm_readName, .ref qm_keptName, .ref qm_isKept, .ref qm_onces, .int qm_snapMany, .ref qm_order, .ref qm_ordered, .int qm_orderMany, .int qm_orderMost, .int qm_passing, .int qm_movedWho, .int qm_scratched, .ref qm_text, .int qm_texts, .int qm_seed, .ref qm_line, .ref qm_written, .int qm_lineMany, .int qm_hasWritten, .ref qm_node, .int qm_nodes, .int qm_onesMany, .int qm_within, .int qm_top])), (qm_now, eI G 339 qm_now_c)] H _ := hw
        refine lv_if_ne (tgt := 114) C.1 C.2.1 dX11_holds_107 (by decide) (fun _ => ?_) (fun h9 => absurd h9 (by decide))
        refine lv_iconst (v := 0) C.1 C.2.1 dX11_holds_114 (by decide) ?_
        exact x_retzQ hQ B hw rfl (Or.inl ⟨rfl, rfl⟩) (Nat.le_of_ble_eq_true rfl) (Nat.le_of_ble_eq_true rfl) dX11_holds_115
    · skip
      have k8 : v7 = 2 := Int32.toInt_inj.mp (by rw [k8]; rfl)
      refine x_topi (z := 2) k8 ?_
      refine lv_lookup (off := 83) (tgt := 116) C.1 C.2.1 dX11_holds_33 (by decide) (by decide) (by decide) ?_
      have hv7_ := congrArg Int32.toInt k8
      have hv7_ : v7.toInt = 2 := hv7_
      refine lv_aload_n C.1 C.2.1 dX11_holds_116 rfl (lv_at hl 3 rfl) ?_
      refine lv_iload C.1 C.2.1 dX11_holds_117 (lv_at hl 1 rfl) ?_
      refine lv_iload_n C.1 C.2.1 dX11_holds_119 rfl (lv_at hl 5 rfl) ?_
      refine x_calliV (As := [.int v4, .int a2]) (rest := []) (wr := []) C hw (ih qm v4 a2 qm_thrown qm_tape qm_taped qm_size qm_limit qm_to qm_from qm_kind qm_number qm_sign qm_fault qm_place qm_word qm_told qm_now qm_read qm_kept qm_snaps qm_aside qm_name qm_readName qm_keptName qm_isKept qm_onces qm_snapMany qm_order qm_ordered qm_orderMany qm_orderMost qm_passing qm_movedWho qm_scratched qm_text qm_texts qm_seed qm_line qm_written qm_lineMany qm_hasWritten qm_node qm_nodes qm_onesMany qm_within qm_top qm_now_c (by omega) (by omega) (by omega) (by omega) (by omega) hf_qm_now_c hf1_qm_now_c (by omega) (by omega) (by omega) (by omega) (by omega) (by omega) (by omega) (by omega) (by omega)) mwX11_holds kw1792 [0, 1] [] rfl rfl rfl rfl (by decide) 0 rfl rfl rfl rfl hl.1 rfl (Nat.le_of_ble_eq_true rfl) ⟨(by dsimp only [rmD]; omega), (by dsimp only [rmD]; omega)⟩ ⟨(Nat.le_of_ble_eq_true rfl), (Nat.le_of_ble_eq_true rfl)⟩ dX11_holds_120 (fun r10 u9 H locs hp9 hw => ?_)
      rcases hp9 with ⟨rfl, rfl⟩ | ⟨rfl, rfl⟩
      · skip
        have hw : Wd G s A [(qm, .inr (10, [.int qm_thrown, .ref qm_tape, .int qm_taped, .int qm_size, .int qm_limit, .int qm_to, .int qm_from, .int qm_kind, .int qm_number, .int qm_sign, .int qm_fault, .int qm_place, .long qm_word, .int qm_told, .ref qm_now, .ref qm_read, .ref qm_kept, .ref qm_snaps, .ref qm_aside, .ref qm_name, .ref qm_readName, .ref qm_keptName, .ref qm_isKept, .ref qm_onces, .int qm_snapMany, .ref qm_order, .ref qm_ordered, .int qm_orderMany, .int qm_orderMost, .int qm_passing, .int qm_movedWho, .int qm_scratched, .ref qm_text, .int qm_texts, .int qm_seed, .ref qm_line, .ref qm_written, .int qm_lineMany, .int qm_hasWritten, .ref qm_node, .int qm_nodes, .int qm_onesMany, .int qm_within, .int qm_top])), (qm_now, eI G 339 qm_now_c)] H _ := hw
        refine lv_if_eq (tgt := 140) C.1 C.2.1 dX11_holds_123 (by decide) (fun _ => ?_) (fun h9 => absurd (by decide) h9)
        refine lv_iconst (v := 0) C.1 C.2.1 dX11_holds_140 (by decide) ?_
        exact x_retzQ hQ B hw rfl (Or.inl ⟨rfl, rfl⟩) (Nat.le_of_ble_eq_true rfl) (Nat.le_of_ble_eq_true rfl) dX11_holds_141
      · skip
        have hw : Wd G s A [(qm, .inr (10, [.int qm_thrown, .ref qm_tape, .int qm_taped, .int qm_size, .int qm_limit, .int qm_to, .int qm_from, .int qm_kind, .int qm_number, .int qm_sign, .int qm_fault, .int qm_place, .long qm_word, .int qm_told, .ref qm_now, .ref qm_read, .ref qm_kept, .ref qm_snaps, .ref qm_aside, .ref qm_name, .ref qm_readName, .ref qm_keptName, .ref qm_isKept, .ref qm_onces, .int qm_snapMany, .ref qm_order, .ref qm_ordered, .int qm_orderMany, .int qm_orderMost, .int qm_passing, .int qm_movedWho, .int qm_scratched, .ref qm_text, .int qm_texts, .int qm_seed, .ref qm_line, .ref qm_written, .int qm_lineMany, .int qm_hasWritten, .ref qm_node, .int qm_nodes, .int qm_onesMany, .int qm_within, .int qm_top])), (qm_now, eI G 339 qm_now_c)] H _ := hw
        refine lv_if_eq (tgt := 140) C.1 C.2.1 dX11_holds_123 (by decide) (fun h9 => absurd h9 (by decide)) (fun _ => ?_)
        refine lv_aload_n C.1 C.2.1 dX11_holds_126 rfl (lv_at hl 3 rfl) ?_
        refine lv_iload C.1 C.2.1 dX11_holds_127 (lv_at hl 0 rfl) ?_
        refine lv_iload_n C.1 C.2.1 dX11_holds_129 rfl (lv_at hl 5 rfl) ?_
        refine x_calliV (As := [.int v6, .int a2]) (rest := []) (wr := []) C hw (ih qm v6 a2 qm_thrown qm_tape qm_taped qm_size qm_limit qm_to qm_from qm_kind qm_number qm_sign qm_fault qm_place qm_word qm_told qm_now qm_read qm_kept qm_snaps qm_aside qm_name qm_readName qm_keptName qm_isKept qm_onces qm_snapMany qm_order qm_ordered qm_orderMany qm_orderMost qm_passing qm_movedWho qm_scratched qm_text qm_texts qm_seed qm_line qm_written qm_lineMany qm_hasWritten qm_node qm_nodes qm_onesMany qm_within qm_top qm_now_c (by omega) (by omega) (by omega) (by omega) (by omega) hf_qm_now_c hf1_qm_now_c (by omega) (by omega) (by omega) (by omega) (by omega) (by omega) (by omega) (by omega) (by omega)) mwX11_holds kw1792 [0, 1] [] rfl rfl rfl rfl (by decide) 0 rfl rfl rfl rfl hl.1 rfl (Nat.le_of_ble_eq_true rfl) ⟨(by dsimp only [rmD]; omega), (by dsimp only [rmD]; omega)⟩ ⟨(Nat.le_of_ble_eq_true rfl), (Nat.le_of_ble_eq_true rfl)⟩ dX11_holds_130 (fun r11 u9 H locs hp9 hw => ?_)
        rcases hp9 with ⟨rfl, rfl⟩ | ⟨rfl, rfl⟩
        · skip
          have hw : Wd G s A [(qm, .inr (10, [.int qm_thrown, .ref qm_tape, .int qm_taped, .int qm_size, .int qm_limit, .int qm_to, .int qm_from, .int qm_kind, .int qm_number, .int qm_sign, .int qm_fault, .int qm_place, .long qm_word, .int qm_told, .ref qm_now, .ref qm_read, .ref qm_kept, .ref qm_snaps, .ref qm_aside, .ref qm_name, .ref qm_readName, .ref qm_keptName, .ref qm_isKept, .ref qm_onces, .int qm_snapMany, .ref qm_order, .ref qm_ordered, .int qm_orderMany, .int qm_orderMost, .int qm_passing, .int qm_movedWho, .int qm_scratched, .ref qm_text, .int qm_texts, .int qm_seed, .ref qm_line, .ref qm_written, .int qm_lineMany, .int qm_hasWritten, .ref qm_node, .int qm_nodes, .int qm_onesMany, .int qm_within, .int qm_top])), (qm_now, eI G 339 qm_now_c)] H _ := hw
          refine lv_if_eq (tgt := 140) C.1 C.2.1 dX11_holds_133 (by decide) (fun _ => ?_) (fun h9 => absurd (by decide) h9)
          refine lv_iconst (v := 0) C.1 C.2.1 dX11_holds_140 (by decide) ?_
          exact x_retzQ hQ B hw rfl (Or.inl ⟨rfl, rfl⟩) (Nat.le_of_ble_eq_true rfl) (Nat.le_of_ble_eq_true rfl) dX11_holds_141
        · skip
          have hw : Wd G s A [(qm, .inr (10, [.int qm_thrown, .ref qm_tape, .int qm_taped, .int qm_size, .int qm_limit, .int qm_to, .int qm_from, .int qm_kind, .int qm_number, .int qm_sign, .int qm_fault, .int qm_place, .long qm_word, .int qm_told, .ref qm_now, .ref qm_read, .ref qm_kept, .ref qm_snaps, .ref qm_aside, .ref qm_name, .ref qm_readName, .ref qm_keptName, .ref qm_isKept, .ref qm_onces, .int qm_snapMany, .ref qm_order, .ref qm_ordered, .int qm_orderMany, .int qm_orderMost, .int qm_passing, .int qm_movedWho, .int qm_scratched, .ref qm_text, .int qm_texts, .int qm_seed, .ref qm_line, .ref qm_written, .int qm_lineMany, .int qm_hasWritten, .ref qm_node, .int qm_nodes, .int qm_onesMany, .int qm_within, .int qm_top])), (qm_now, eI G 339 qm_now_c)] H _ := hw
          refine lv_if_eq (tgt := 140) C.1 C.2.1 dX11_holds_133 (by decide) (fun h9 => absurd h9 (by decide)) (fun _ => ?_)
          refine lv_iconst (v := 1) C.1 C.2.1 dX11_holds_136 (by decide) ?_
          refine lv_goto (tgt := 141) C.1 C.2.1 dX11_holds_137 (by decide) ?_
          exact x_retzQ hQ B hw rfl (Or.inr ⟨rfl, rfl⟩) (Nat.le_of_ble_eq_true rfl) (Nat.le_of_ble_eq_true rfl) dX11_holds_141
    · skip
      have k8 : v7 = 3 := Int32.toInt_inj.mp (by rw [k8]; rfl)
      refine x_topi (z := 3) k8 ?_
      refine lv_lookup (off := 109) (tgt := 142) C.1 C.2.1 dX11_holds_33 (by decide) (by decide) (by decide) ?_
      have hv7_ := congrArg Int32.toInt k8
      have hv7_ : v7.toInt = 3 := hv7_
      refine lv_aload_n C.1 C.2.1 dX11_holds_142 rfl (lv_at hl 3 rfl) ?_
      refine lv_iload C.1 C.2.1 dX11_holds_143 (lv_at hl 1 rfl) ?_
      refine lv_iload_n C.1 C.2.1 dX11_holds_145 rfl (lv_at hl 5 rfl) ?_
      refine x_calliV (As := [.int v4, .int a2]) (rest := []) (wr := []) C hw (ih qm v4 a2 qm_thrown qm_tape qm_taped qm_size qm_limit qm_to qm_from qm_kind qm_number qm_sign qm_fault qm_place qm_word qm_told qm_now qm_read qm_kept qm_snaps qm_aside qm_name qm_readName qm_keptName qm_isKept qm_onces qm_snapMany qm_order qm_ordered qm_orderMany qm_orderMost qm_passing qm_movedWho qm_scratched qm_text qm_texts qm_seed qm_line qm_written qm_lineMany qm_hasWritten qm_node qm_nodes qm_onesMany qm_within qm_top qm_now_c (by omega) (by omega) (by omega) (by omega) (by omega) hf_qm_now_c hf1_qm_now_c (by omega) (by omega) (by omega) (by omega) (by omega) (by omega) (by omega) (by omega) (by omega)) mwX11_holds kw1792 [0, 1] [] rfl rfl rfl rfl (by decide) 0 rfl rfl rfl rfl hl.1 rfl (Nat.le_of_ble_eq_true rfl) ⟨(by dsimp only [rmD]; omega), (by dsimp only [rmD]; omega)⟩ ⟨(Nat.le_of_ble_eq_true rfl), (Nat.le_of_ble_eq_true rfl)⟩ dX11_holds_146 (fun r12 u9 H locs hp9 hw => ?_)
      rcases hp9 with ⟨rfl, rfl⟩ | ⟨rfl, rfl⟩
      · skip
        have hw : Wd G s A [(qm, .inr (10, [.int qm_thrown, .ref qm_tape, .int qm_taped, .int qm_size, .int qm_limit, .int qm_to, .int qm_from, .int qm_kind, .int qm_number, .int qm_sign, .int qm_fault, .int qm_place, .long qm_word, .int qm_told, .ref qm_now, .ref qm_read, .ref qm_kept, .ref qm_snaps, .ref qm_aside, .ref qm_name, .ref qm_readName, .ref qm_keptName, .ref qm_isKept, .ref qm_onces, .int qm_snapMany, .ref qm_order, .ref qm_ordered, .int qm_orderMany, .int qm_orderMost, .int qm_passing, .int qm_movedWho, .int qm_scratched, .ref qm_text, .int qm_texts, .int qm_seed, .ref qm_line, .ref qm_written, .int qm_lineMany, .int qm_hasWritten, .ref qm_node, .int qm_nodes, .int qm_onesMany, .int qm_within, .int qm_top])), (qm_now, eI G 339 qm_now_c)] H _ := hw
        refine lv_if_ne (tgt := 162) C.1 C.2.1 dX11_holds_149 (by decide) (fun h9 => absurd (by decide) h9) (fun _ => ?_)
        refine lv_aload_n C.1 C.2.1 dX11_holds_152 rfl (lv_at hl 3 rfl) ?_
        refine lv_iload C.1 C.2.1 dX11_holds_153 (lv_at hl 0 rfl) ?_
        refine lv_iload_n C.1 C.2.1 dX11_holds_155 rfl (lv_at hl 5 rfl) ?_
        refine x_calliV (As := [.int v6, .int a2]) (rest := []) (wr := []) C hw (ih qm v6 a2 qm_thrown qm_tape qm_taped qm_size qm_limit qm_to qm_from qm_kind qm_number qm_sign qm_fault qm_place qm_word qm_told qm_now qm_read qm_kept qm_snaps qm_aside qm_name qm_readName qm_keptName qm_isKept qm_onces qm_snapMany qm_order qm_ordered qm_orderMany qm_orderMost qm_passing qm_movedWho qm_scratched qm_text qm_texts qm_seed qm_line qm_written qm_lineMany qm_hasWritten qm_node qm_nodes qm_onesMany qm_within qm_top qm_now_c (by omega) (by omega) (by omega) (by omega) (by omega) hf_qm_now_c hf1_qm_now_c (by omega) (by omega) (by omega) (by omega) (by omega) (by omega) (by omega) (by omega) (by omega)) mwX11_holds kw1792 [0, 1] [] rfl rfl rfl rfl (by decide) 0 rfl rfl rfl rfl hl.1 rfl (Nat.le_of_ble_eq_true rfl) ⟨(by dsimp only [rmD]; omega), (by dsimp only [rmD]; omega)⟩ ⟨(Nat.le_of_ble_eq_true rfl), (Nat.le_of_ble_eq_true rfl)⟩ dX11_holds_156 (fun r13 u9 H locs hp9 hw => ?_)
        rcases hp9 with ⟨rfl, rfl⟩ | ⟨rfl, rfl⟩
        · skip
          have hw : Wd G s A [(qm, .inr (10, [.int qm_thrown, .ref qm_tape, .int qm_taped, .int qm_size, .int qm_limit, .int qm_to, .int qm_from, .int qm_kind, .int qm_number, .int qm_sign, .int qm_fault, .int qm_place, .long qm_word, .int qm_told, .ref qm_now, .ref qm_read, .ref qm_kept, .ref qm_snaps, .ref qm_aside, .ref qm_name, .ref qm_readName, .ref qm_keptName, .ref qm_isKept, .ref qm_onces, .int qm_snapMany, .ref qm_order, .ref qm_ordered, .int qm_orderMany, .int qm_orderMost, .int qm_passing, .int qm_movedWho, .int qm_scratched, .ref qm_text, .int qm_texts, .int qm_seed, .ref qm_line, .ref qm_written, .int qm_lineMany, .int qm_hasWritten, .ref qm_node, .int qm_nodes, .int qm_onesMany, .int qm_within, .int qm_top])), (qm_now, eI G 339 qm_now_c)] H _ := hw
          refine lv_if_eq (tgt := 166) C.1 C.2.1 dX11_holds_159 (by decide) (fun _ => ?_) (fun h9 => absurd (by decide) h9)
          refine lv_iconst (v := 0) C.1 C.2.1 dX11_holds_166 (by decide) ?_
          exact x_retzQ hQ B hw rfl (Or.inl ⟨rfl, rfl⟩) (Nat.le_of_ble_eq_true rfl) (Nat.le_of_ble_eq_true rfl) dX11_holds_167
        · skip
          have hw : Wd G s A [(qm, .inr (10, [.int qm_thrown, .ref qm_tape, .int qm_taped, .int qm_size, .int qm_limit, .int qm_to, .int qm_from, .int qm_kind, .int qm_number, .int qm_sign, .int qm_fault, .int qm_place, .long qm_word, .int qm_told, .ref qm_now, .ref qm_read, .ref qm_kept, .ref qm_snaps, .ref qm_aside, .ref qm_name, .ref qm_readName, .ref qm_keptName, .ref qm_isKept, .ref qm_onces, .int qm_snapMany, .ref qm_order, .ref qm_ordered, .int qm_orderMany, .int qm_orderMost, .int qm_passing, .int qm_movedWho, .int qm_scratched, .ref qm_text, .int qm_texts, .int qm_seed, .ref qm_line, .ref qm_written, .int qm_lineMany, .int qm_hasWritten, .ref qm_node, .int qm_nodes, .int qm_onesMany, .int qm_within, .int qm_top])), (qm_now, eI G 339 qm_now_c)] H _ := hw
          refine lv_if_eq (tgt := 166) C.1 C.2.1 dX11_holds_159 (by decide) (fun h9 => absurd h9 (by decide)) (fun _ => ?_)
          refine lv_iconst (v := 1) C.1 C.2.1 dX11_holds_162 (by decide) ?_
          refine lv_goto (tgt := 167) C.1 C.2.1 dX11_holds_163 (by decide) ?_
          exact x_retzQ hQ B hw rfl (Or.inr ⟨rfl, rfl⟩) (Nat.le_of_ble_eq_true rfl) (Nat.le_of_ble_eq_true rfl) dX11_holds_167
      · skip
        have hw : Wd G s A [(qm, .inr (10, [.int qm_thrown, .ref qm_tape, .int qm_taped, .int qm_size, .int qm_limit, .int qm_to, .int qm_from, .int qm_kind, .int qm_number, .int qm_sign, .int qm_fault, .int qm_place, .long qm_word, .int qm_told, .ref qm_now, .ref qm_read, .ref qm_kept, .ref qm_snaps, .ref qm_aside, .ref qm_name, .ref qm_readName, .ref qm_keptName, .ref qm_isKept, .ref qm_onces, .int qm_snapMany, .ref qm_order, .ref qm_ordered, .int qm_orderMany, .int qm_orderMost, .int qm_passing, .int qm_movedWho, .int qm_scratched, .ref qm_text, .int qm_texts, .int qm_seed, .ref qm_line, .ref qm_written, .int qm_lineMany, .int qm_hasWritten, .ref qm_node, .int qm_nodes, .int qm_onesMany, .int qm_within, .int qm_top])), (qm_now, eI G 339 qm_now_c)] H _ := hw
        refine lv_if_ne (tgt := 162) C.1 C.2.1 dX11_holds_149 (by decide) (fun _ => ?_) (fun h9 => absurd h9 (by decide))
        refine lv_iconst (v := 1) C.1 C.2.1 dX11_holds_162 (by decide) ?_
        refine lv_goto (tgt := 167) C.1 C.2.1 dX11_holds_163 (by decide) ?_
        exact x_retzQ hQ B hw rfl (Or.inr ⟨rfl, rfl⟩) (Nat.le_of_ble_eq_true rfl) (Nat.le_of_ble_eq_true rfl) dX11_holds_167
    · skip
      have k8 : v7 = 69 := Int32.toInt_inj.mp (by rw [k8]; rfl)
      refine x_topi (z := 69) k8 ?_
      refine lv_lookup (off := 135) (tgt := 168) C.1 C.2.1 dX11_holds_33 (by decide) (by decide) (by decide) ?_
      have hv7_ := congrArg Int32.toInt k8
      have hv7_ : v7.toInt = 69 := hv7_
      refine lv_aload_n C.1 C.2.1 dX11_holds_168 rfl (lv_at hl 3 rfl) ?_
      refine lv_iload_n C.1 C.2.1 dX11_holds_169 rfl (lv_at hl 5 rfl) ?_
      refine x_calliV (As := [.int a2]) (rest := []) (wr := []) C hw (s_X11_isSo qm a2 qm_thrown qm_tape qm_taped qm_size qm_limit qm_to qm_from qm_kind qm_number qm_sign qm_fault qm_place qm_word qm_told qm_now qm_read qm_kept qm_snaps qm_aside qm_name qm_readName qm_keptName qm_isKept qm_onces qm_snapMany qm_order qm_ordered qm_orderMany qm_orderMost qm_passing qm_movedWho qm_scratched qm_text qm_texts qm_seed qm_line qm_written qm_lineMany qm_hasWritten qm_node qm_nodes qm_onesMany qm_within qm_top qm_now_c hf_qm_now_c hf1_qm_now_c) mwX11_isSo kw1476 [0, 1] [] rfl rfl rfl rfl (by decide) 0 rfl rfl rfl rfl hl.1 rfl (Nat.le_of_ble_eq_true rfl) ⟨(by dsimp only [rmD]; omega), (by dsimp only [rmD]; omega)⟩ ⟨(Nat.le_of_ble_eq_true rfl), (Nat.le_of_ble_eq_true rfl)⟩ dX11_holds_170 (fun r14 u9 H locs hp9 hw => ?_)
      rcases hp9 with ⟨rfl, rfl⟩ | ⟨rfl, rfl⟩
      · skip
        have hw : Wd G s A [(qm, .inr (10, [.int qm_thrown, .ref qm_tape, .int qm_taped, .int qm_size, .int qm_limit, .int qm_to, .int qm_from, .int qm_kind, .int qm_number, .int qm_sign, .int qm_fault, .int qm_place, .long qm_word, .int qm_told, .ref qm_now, .ref qm_read, .ref qm_kept, .ref qm_snaps, .ref qm_aside, .ref qm_name, .ref qm_readName, .ref qm_keptName, .ref qm_isKept, .ref qm_onces, .int qm_snapMany, .ref qm_order, .ref qm_ordered, .int qm_orderMany, .int qm_orderMost, .int qm_passing, .int qm_movedWho, .int qm_scratched, .ref qm_text, .int qm_texts, .int qm_seed, .ref qm_line, .ref qm_written, .int qm_lineMany, .int qm_hasWritten, .ref qm_node, .int qm_nodes, .int qm_onesMany, .int qm_within, .int qm_top])), (qm_now, eI G 339 qm_now_c)] H _ := hw
        exact x_retzQ hQ B hw rfl (Or.inl ⟨rfl, rfl⟩) (Nat.le_of_ble_eq_true rfl) (Nat.le_of_ble_eq_true rfl) dX11_holds_173
      · skip
        have hw : Wd G s A [(qm, .inr (10, [.int qm_thrown, .ref qm_tape, .int qm_taped, .int qm_size, .int qm_limit, .int qm_to, .int qm_from, .int qm_kind, .int qm_number, .int qm_sign, .int qm_fault, .int qm_place, .long qm_word, .int qm_told, .ref qm_now, .ref qm_read, .ref qm_kept, .ref qm_snaps, .ref qm_aside, .ref qm_name, .ref qm_readName, .ref qm_keptName, .ref qm_isKept, .ref qm_onces, .int qm_snapMany, .ref qm_order, .ref qm_ordered, .int qm_orderMany, .int qm_orderMost, .int qm_passing, .int qm_movedWho, .int qm_scratched, .ref qm_text, .int qm_texts, .int qm_seed, .ref qm_line, .ref qm_written, .int qm_lineMany, .int qm_hasWritten, .ref qm_node, .int qm_nodes, .int qm_onesMany, .int qm_within, .int qm_top])), (qm_now, eI G 339 qm_now_c)] H _ := hw
        exact x_retzQ hQ B hw rfl (Or.inr ⟨rfl, rfl⟩) (Nat.le_of_ble_eq_true rfl) (Nat.le_of_ble_eq_true rfl) dX11_holds_173
    · skip
      have k8 : v7 = 70 := Int32.toInt_inj.mp (by rw [k8]; rfl)
      refine x_topi (z := 70) k8 ?_
      refine lv_lookup (off := 141) (tgt := 174) C.1 C.2.1 dX11_holds_33 (by decide) (by decide) (by decide) ?_
      have hv7_ := congrArg Int32.toInt k8
      have hv7_ : v7.toInt = 70 := hv7_
      refine lv_aload_n C.1 C.2.1 dX11_holds_174 rfl (lv_at hl 3 rfl) ?_
      refine lv_iload_n C.1 C.2.1 dX11_holds_175 rfl (lv_at hl 5 rfl) ?_
      refine x_calliV (As := [.int a2]) (rest := []) (wr := []) C hw (s_X11_isCracked qm a2 qm_thrown qm_tape qm_taped qm_size qm_limit qm_to qm_from qm_kind qm_number qm_sign qm_fault qm_place qm_word qm_told qm_now qm_read qm_kept qm_snaps qm_aside qm_name qm_readName qm_keptName qm_isKept qm_onces qm_snapMany qm_order qm_ordered qm_orderMany qm_orderMost qm_passing qm_movedWho qm_scratched qm_text qm_texts qm_seed qm_line qm_written qm_lineMany qm_hasWritten qm_node qm_nodes qm_onesMany qm_within qm_top qm_now_c hf_qm_now_c hf1_qm_now_c) mwX11_isCracked kw1480 [0, 1] [] rfl rfl rfl rfl (by decide) 0 rfl rfl rfl rfl hl.1 rfl (Nat.le_of_ble_eq_true rfl) ⟨(by dsimp only [rmD]; omega), (by dsimp only [rmD]; omega)⟩ ⟨(Nat.le_of_ble_eq_true rfl), (Nat.le_of_ble_eq_true rfl)⟩ dX11_holds_176 (fun r15 u9 H locs hp9 hw => ?_)
      rcases hp9 with ⟨rfl, rfl⟩ | ⟨rfl, rfl⟩
      · skip
        have hw : Wd G s A [(qm, .inr (10, [.int qm_thrown, .ref qm_tape, .int qm_taped, .int qm_size, .int qm_limit, .int qm_to, .int qm_from, .int qm_kind, .int qm_number, .int qm_sign, .int qm_fault, .int qm_place, .long qm_word, .int qm_told, .ref qm_now, .ref qm_read, .ref qm_kept, .ref qm_snaps, .ref qm_aside, .ref qm_name, .ref qm_readName, .ref qm_keptName, .ref qm_isKept, .ref qm_onces, .int qm_snapMany, .ref qm_order, .ref qm_ordered, .int qm_orderMany, .int qm_orderMost, .int qm_passing, .int qm_movedWho, .int qm_scratched, .ref qm_text, .int qm_texts, .int qm_seed, .ref qm_line, .ref qm_written, .int qm_lineMany, .int qm_hasWritten, .ref qm_node, .int qm_nodes, .int qm_onesMany, .int qm_within, .int qm_top])), (qm_now, eI G 339 qm_now_c)] H _ := hw
        exact x_retzQ hQ B hw rfl (Or.inl ⟨rfl, rfl⟩) (Nat.le_of_ble_eq_true rfl) (Nat.le_of_ble_eq_true rfl) dX11_holds_179
      · skip
        have hw : Wd G s A [(qm, .inr (10, [.int qm_thrown, .ref qm_tape, .int qm_taped, .int qm_size, .int qm_limit, .int qm_to, .int qm_from, .int qm_kind, .int qm_number, .int qm_sign, .int qm_fault, .int qm_place, .long qm_word, .int qm_told, .ref qm_now, .ref qm_read, .ref qm_kept, .ref qm_snaps, .ref qm_aside, .ref qm_name, .ref qm_readName, .ref qm_keptName, .ref qm_isKept, .ref qm_onces, .int qm_snapMany, .ref qm_order, .ref qm_ordered, .int qm_orderMany, .int qm_orderMost, .int qm_passing, .int qm_movedWho, .int qm_scratched, .ref qm_text, .int qm_texts, .int qm_seed, .ref qm_line, .ref qm_written, .int qm_lineMany, .int qm_hasWritten, .ref qm_node, .int qm_nodes, .int qm_onesMany, .int qm_within, .int qm_top])), (qm_now, eI G 339 qm_now_c)] H _ := hw
        exact x_retzQ hQ B hw rfl (Or.inr ⟨rfl, rfl⟩) (Nat.le_of_ble_eq_true rfl) (Nat.le_of_ble_eq_true rfl) dX11_holds_179
    · skip
      have k8 : v7 = 71 := Int32.toInt_inj.mp (by rw [k8]; rfl)
      refine x_topi (z := 71) k8 ?_
      refine lv_lookup (off := 147) (tgt := 180) C.1 C.2.1 dX11_holds_33 (by decide) (by decide) (by decide) ?_
      have hv7_ := congrArg Int32.toInt k8
      have hv7_ : v7.toInt = 71 := hv7_
      refine lv_aload_n C.1 C.2.1 dX11_holds_180 rfl (lv_at hl 3 rfl) ?_
      refine x_get C hw iwX11 10 rfl 0 rfl 14 (by decide) kw1207 rfl dX11_holds_181 ?_
      refine lv_bipush (v := 69) C.1 C.2.1 dX11_holds_184 (by decide) ?_
      refine lv_iload_n C.1 C.2.1 dX11_holds_186 rfl (lv_at hl 5 rfl) ?_
      refine lv_iadd C.1 C.2.1 dX11_holds_187 (x_genP (fun z : Int32 => z.toInt = 69 + a2.toInt) (i_add (X := 69) (Y := a2.toInt) rfl rfl (by omega) (by omega)) (fun v16 hv16 => ?_))
      refine x_iald (v := (qm_now_c v16.toNatClampNeg)) C hw 1 rfl (i_in (by omega) (by omega)) rfl dX11_holds_188 (x_gen (fun v17 => ?_))
      refine lv_iconst (v := 2) C.1 C.2.1 dX11_holds_189 (by decide) ?_
      refine x_calliS (As := [.int v17, .int 2]) (rest := []) (wr := [(qm, .inr (10, [.int qm_thrown, .ref qm_tape, .int qm_taped, .int qm_size, .int qm_limit, .int qm_to, .int qm_from, .int qm_kind, .int qm_number, .int qm_sign, .int qm_fault, .int qm_place, .long qm_word, .int qm_told, .ref qm_now, .ref qm_read, .ref qm_kept, .ref qm_snaps, .ref qm_aside, .ref qm_name, .ref qm_readName, .ref qm_keptName, .ref qm_isKept, .ref qm_onces, .int qm_snapMany, .ref qm_order, .ref qm_ordered, .int qm_orderMany, .int qm_orderMost, .int qm_passing, .int qm_movedWho, .int qm_scratched, .ref qm_text, .int qm_texts, .int qm_seed, .ref qm_line, .ref qm_written, .int qm_lineMany, .int qm_hasWritten, .ref qm_node, .int qm_nodes, .int qm_onesMany, .int qm_within, .int qm_top])), (qm_now, eI G 339 qm_now_c)]) C hw (s_X11_turned v17 2) mwX11_turned kw1491 [] [0, 1] rfl rfl rfl rfl (by decide) rfl hl.1 rfl (Nat.le_of_ble_eq_true rfl) ⟨(by dsimp only [rmD]; omega), (by dsimp only [rmD]; omega)⟩ ⟨(Nat.le_of_ble_eq_true rfl), (Nat.le_of_ble_eq_true rfl)⟩ dX11_holds_190 (fun r18 u9 H locs hp9 hw => ?_)
      obtain ⟨x19, rfl, rfl⟩ := hp9
      have hw : Wd G s A [(qm, .inr (10, [.int qm_thrown, .ref qm_tape, .int qm_taped, .int qm_size, .int qm_limit, .int qm_to, .int qm_from, .int qm_kind, .int qm_number, .int qm_sign, .int qm_fault, .int qm_place, .long qm_word, .int qm_told, .ref qm_now, .ref qm_read, .ref qm_kept, .ref qm_snaps, .ref qm_aside, .ref qm_name, .ref qm_readName, .ref qm_keptName, .ref qm_isKept, .ref qm_onces, .int qm_snapMany, .ref qm_order, .ref qm_ordered, .int qm_orderMany, .int qm_orderMost, .int qm_passing, .int qm_movedWho, .int qm_scratched, .ref qm_text, .int qm_texts, .int qm_seed, .ref qm_line, .ref qm_written, .int qm_lineMany, .int qm_hasWritten, .ref qm_node, .int qm_nodes, .int qm_onesMany, .int qm_within, .int qm_top])), (qm_now, eI G 339 qm_now_c)] H _ := hw
      refine lv_aload_n C.1 C.2.1 dX11_holds_193 rfl (lv_at hl 3 rfl) ?_
      refine x_get C hw iwX11 10 rfl 0 rfl 14 (by decide) kw1207 rfl dX11_holds_194 ?_
      refine lv_bipush (v := 69) C.1 C.2.1 dX11_holds_197 (by decide) ?_
      refine lv_iload_n C.1 C.2.1 dX11_holds_199 rfl (lv_at hl 5 rfl) ?_
      refine lv_iadd C.1 C.2.1 dX11_holds_200 (x_genP (fun z : Int32 => z.toInt = 69 + a2.toInt) (i_add (X := 69) (Y := a2.toInt) rfl rfl (by omega) (by omega)) (fun v20 hv20 => ?_))
      refine x_iald (v := (qm_now_c v20.toNatClampNeg)) C hw 1 rfl (i_in (by omega) (by omega)) rfl dX11_holds_201 (x_gen (fun v21 => ?_))
      refine lv_icmp_ne (tgt := 209) C.1 C.2.1 dX11_holds_202 (by decide) (fun c22 => ?_) (fun c22 => ?_)
      · skip
        have c22 : r18.toInt ≠ v21.toInt := i_eqF (X := r18.toInt) (Y := v21.toInt) rfl rfl c22
        have bc22_r18 := i_bd r18
        have bc22_v21 := i_bd v21
        refine lv_iconst (v := 0) C.1 C.2.1 dX11_holds_209 (by decide) ?_
        exact x_retzQ hQ B hw rfl (Or.inl ⟨rfl, rfl⟩) (Nat.le_of_ble_eq_true rfl) (Nat.le_of_ble_eq_true rfl) dX11_holds_210
      · skip
        have c22 : r18.toInt = v21.toInt := i_eqT (X := r18.toInt) (Y := v21.toInt) rfl rfl c22
        have bc22_r18 := i_bd r18
        have bc22_v21 := i_bd v21
        refine lv_iconst (v := 1) C.1 C.2.1 dX11_holds_205 (by decide) ?_
        refine lv_goto (tgt := 210) C.1 C.2.1 dX11_holds_206 (by decide) ?_
        exact x_retzQ hQ B hw rfl (Or.inr ⟨rfl, rfl⟩) (Nat.le_of_ble_eq_true rfl) (Nat.le_of_ble_eq_true rfl) dX11_holds_210
    · skip
      have k8 : v7 = 72 := Int32.toInt_inj.mp (by rw [k8]; rfl)
      refine x_topi (z := 72) k8 ?_
      refine lv_lookup (off := 178) (tgt := 211) C.1 C.2.1 dX11_holds_33 (by decide) (by decide) (by decide) ?_
      have hv7_ := congrArg Int32.toInt k8
      have hv7_ : v7.toInt = 72 := hv7_
      refine lv_aload_n C.1 C.2.1 dX11_holds_211 rfl (lv_at hl 3 rfl) ?_
      refine x_get C hw iwX11 10 rfl 0 rfl 14 (by decide) kw1207 rfl dX11_holds_212 ?_
      refine lv_bipush (v := 69) C.1 C.2.1 dX11_holds_215 (by decide) ?_
      refine lv_iload_n C.1 C.2.1 dX11_holds_217 rfl (lv_at hl 5 rfl) ?_
      refine lv_iadd C.1 C.2.1 dX11_holds_218 (x_genP (fun z : Int32 => z.toInt = 69 + a2.toInt) (i_add (X := 69) (Y := a2.toInt) rfl rfl (by omega) (by omega)) (fun v23 hv23 => ?_))
      refine x_iald (v := (qm_now_c v23.toNatClampNeg)) C hw 1 rfl (i_in (by omega) (by omega)) rfl dX11_holds_219 (x_gen (fun v24 => ?_))
      refine lv_aload_n C.1 C.2.1 dX11_holds_220 rfl (lv_at hl 3 rfl) ?_
      refine x_get C hw iwX11 10 rfl 0 rfl 14 (by decide) kw1207 rfl dX11_holds_221 ?_
      refine lv_bipush (v := 69) C.1 C.2.1 dX11_holds_224 (by decide) ?_
      refine lv_iload C.1 C.2.1 dX11_holds_226 (lv_at hl 1 rfl) ?_
      refine lv_iadd C.1 C.2.1 dX11_holds_228 (x_genP (fun z : Int32 => z.toInt = 69 + v4.toInt) (i_add (X := 69) (Y := v4.toInt) rfl rfl (by omega) (by omega)) (fun v25 hv25 => ?_))
      refine x_iald (v := (qm_now_c v25.toNatClampNeg)) C hw 1 rfl (i_in (by omega) (by omega)) rfl dX11_holds_229 (x_gen (fun v26 => ?_))
      refine x_calliS (As := [.int v24, .int v26]) (rest := []) (wr := [(qm, .inr (10, [.int qm_thrown, .ref qm_tape, .int qm_taped, .int qm_size, .int qm_limit, .int qm_to, .int qm_from, .int qm_kind, .int qm_number, .int qm_sign, .int qm_fault, .int qm_place, .long qm_word, .int qm_told, .ref qm_now, .ref qm_read, .ref qm_kept, .ref qm_snaps, .ref qm_aside, .ref qm_name, .ref qm_readName, .ref qm_keptName, .ref qm_isKept, .ref qm_onces, .int qm_snapMany, .ref qm_order, .ref qm_ordered, .int qm_orderMany, .int qm_orderMost, .int qm_passing, .int qm_movedWho, .int qm_scratched, .ref qm_text, .int qm_texts, .int qm_seed, .ref qm_line, .ref qm_written, .int qm_lineMany, .int qm_hasWritten, .ref qm_node, .int qm_nodes, .int qm_onesMany, .int qm_within, .int qm_top])), (qm_now, eI G 339 qm_now_c)]) C hw (s_X11_looksLike v24 v26) mwX11_looksLike kw1649 [] [0, 1] rfl rfl rfl rfl (by decide) rfl hl.1 rfl (Nat.le_of_ble_eq_true rfl) ⟨(by dsimp only [rmD]; omega), (by dsimp only [rmD]; omega)⟩ ⟨(Nat.le_of_ble_eq_true rfl), (Nat.le_of_ble_eq_true rfl)⟩ dX11_holds_230 (fun r27 u9 H locs hp9 hw => ?_)
      rcases hp9 with ⟨rfl, rfl⟩ | ⟨rfl, rfl⟩
      · skip
        have hw : Wd G s A [(qm, .inr (10, [.int qm_thrown, .ref qm_tape, .int qm_taped, .int qm_size, .int qm_limit, .int qm_to, .int qm_from, .int qm_kind, .int qm_number, .int qm_sign, .int qm_fault, .int qm_place, .long qm_word, .int qm_told, .ref qm_now, .ref qm_read, .ref qm_kept, .ref qm_snaps, .ref qm_aside, .ref qm_name, .ref qm_readName, .ref qm_keptName, .ref qm_isKept, .ref qm_onces, .int qm_snapMany, .ref qm_order, .ref qm_ordered, .int qm_orderMany, .int qm_orderMost, .int qm_passing, .int qm_movedWho, .int qm_scratched, .ref qm_text, .int qm_texts, .int qm_seed, .ref qm_line, .ref qm_written, .int qm_lineMany, .int qm_hasWritten, .ref qm_node, .int qm_nodes, .int qm_onesMany, .int qm_within, .int qm_top])), (qm_now, eI G 339 qm_now_c)] H _ := hw
        exact x_retzQ hQ B hw rfl (Or.inl ⟨rfl, rfl⟩) (Nat.le_of_ble_eq_true rfl) (Nat.le_of_ble_eq_true rfl) dX11_holds_233
      · skip
        have hw : Wd G s A [(qm, .inr (10, [.int qm_thrown, .ref qm_tape, .int qm_taped, .int qm_size, .int qm_limit, .int qm_to, .int qm_from, .int qm_kind, .int qm_number, .int qm_sign, .int qm_fault, .int qm_place, .long qm_word, .int qm_told, .ref qm_now, .ref qm_read, .ref qm_kept, .ref qm_snaps, .ref qm_aside, .ref qm_name, .ref qm_readName, .ref qm_keptName, .ref qm_isKept, .ref qm_onces, .int qm_snapMany, .ref qm_order, .ref qm_ordered, .int qm_orderMany, .int qm_orderMost, .int qm_passing, .int qm_movedWho, .int qm_scratched, .ref qm_text, .int qm_texts, .int qm_seed, .ref qm_line, .ref qm_written, .int qm_lineMany, .int qm_hasWritten, .ref qm_node, .int qm_nodes, .int qm_onesMany, .int qm_within, .int qm_top])), (qm_now, eI G 339 qm_now_c)] H _ := hw
        exact x_retzQ hQ B hw rfl (Or.inr ⟨rfl, rfl⟩) (Nat.le_of_ble_eq_true rfl) (Nat.le_of_ble_eq_true rfl) dX11_holds_233
    · skip
      refine lv_lookup (off := 201) (tgt := 234) C.1 C.2.1 dX11_holds_33 (by decide) (i_lk (by omega) (i_lk (by omega) (i_lk (by omega) (i_lk (by omega) (i_lk (by omega) (i_lk (by omega) (i_lk (by omega) rfl))))))) (by decide) ?_
      refine lv_aload_n C.1 C.2.1 dX11_holds_234 rfl (lv_at hl 3 rfl) ?_
      refine x_get C hw iwX11 10 rfl 0 rfl 14 (by decide) kw1207 rfl dX11_holds_235 ?_
      refine lv_iload_n C.1 C.2.1 dX11_holds_238 rfl (lv_at hl 2 rfl) ?_
      refine x_iald (v := (qm_now_c v2.toNatClampNeg)) C hw 1 rfl (i_in (by omega) (by omega)) rfl dX11_holds_239 (x_gen (fun v28 => ?_))
      refine lv_bipush (v := 50) C.1 C.2.1 dX11_holds_240 (by decide) ?_
      refine lv_isub C.1 C.2.1 dX11_holds_242 (x_gen (fun v29 => ?_))
      refine lv_istore (lv' := [(6, .int v29), (5, .int v6), (4, .int v4), (3, .int v2), (0, .ref qm), (1, .int a1), (2, .int a2)]) C.1 C.2.1 dX11_holds_243 hl (by decide) rfl (fun ls hl => ?_)
      refine lv_iload C.1 C.2.1 dX11_holds_245 (lv_at hl 0 rfl) ?_
      refine lv_bipush (v := 23) C.1 C.2.1 dX11_holds_247 (by decide) ?_
      have J44 : ∀ (j43 : Int32), ∀ (H : Heap) (locs : List Loc) (ls : Array Slot), Wd G s A [(qm, .inr (10, [.int qm_thrown, .ref qm_tape, .int qm_taped, .int qm_size, .int qm_limit, .int qm_to, .int qm_from, .int qm_kind, .int qm_number, .int qm_sign, .int qm_fault, .int qm_place, .long qm_word, .int qm_told, .ref qm_now, .ref qm_read, .ref qm_kept, .ref qm_snaps, .ref qm_aside, .ref qm_name, .ref qm_readName, .ref qm_keptName, .ref qm_isKept, .ref qm_onces, .int qm_snapMany, .ref qm_order, .ref qm_ordered, .int qm_orderMany, .int qm_orderMost, .int qm_passing, .int qm_movedWho, .int qm_scratched, .ref qm_text, .int qm_texts, .int qm_seed, .ref qm_line, .ref qm_written, .int qm_lineMany, .int qm_hasWritten, .ref qm_node, .int qm_nodes, .int qm_onesMany, .int qm_within, .int qm_top])), (qm_now, eI G 339 qm_now_c)] H locs → lv_has ls 8 [(5, .int v6), (3, .int v2), (0, .ref qm)] → W p l e (rmD (5 + 1 * (n + 1)) 0 0) s m args below meth c H locs 0 0 Q (F0 m 306 ls [.int j43]) := by
        intro j43  H locs ls hw hl
        refine lv_istore (lv' := [(7, .int j43), (5, .int v6), (3, .int v2), (0, .ref qm)]) C.1 C.2.1 dX11_holds_306 hl (by decide) rfl (fun ls hl => ?_)
        refine lv_aload_n C.1 C.2.1 dX11_holds_308 rfl (lv_at hl 3 rfl) ?_
        refine x_get C hw iwX11 10 rfl 0 rfl 14 (by decide) kw1207 rfl dX11_holds_309 ?_
        refine lv_iload_n C.1 C.2.1 dX11_holds_312 rfl (lv_at hl 2 rfl) ?_
        refine lv_iconst (v := 3) C.1 C.2.1 dX11_holds_313 (by decide) ?_
        refine lv_iadd C.1 C.2.1 dX11_holds_314 (x_genP (fun z : Int32 => z.toInt = v2.toInt + 3) (i_add (X := v2.toInt) (Y := 3) rfl rfl (by omega) (by omega)) (fun v54 hv54 => ?_))
        refine x_iald (v := (qm_now_c v54.toNatClampNeg)) C hw 1 rfl (i_in (by omega) (by omega)) rfl dX11_holds_315 (x_gen (fun v55 => ?_))
        refine lv_bipush (v := 60) C.1 C.2.1 dX11_holds_316 (by decide) ?_
        refine lv_icmp_ne (tgt := 336) C.1 C.2.1 dX11_holds_318 (by decide) (fun c56 => ?_) (fun c56 => ?_)
        · skip
          have c56 : v55.toInt ≠ 60 := i_eqF (X := v55.toInt) (Y := 60) rfl rfl c56
          have bc56_v55 := i_bd v55
          refine lv_aload_n C.1 C.2.1 dX11_holds_336 rfl (lv_at hl 3 rfl) ?_
          refine x_get C hw iwX11 10 rfl 0 rfl 14 (by decide) kw1207 rfl dX11_holds_337 ?_
          refine lv_iload_n C.1 C.2.1 dX11_holds_340 rfl (lv_at hl 2 rfl) ?_
          refine lv_iconst (v := 3) C.1 C.2.1 dX11_holds_341 (by decide) ?_
          refine lv_iadd C.1 C.2.1 dX11_holds_342 (x_genP (fun z : Int32 => z.toInt = v2.toInt + 3) (i_add (X := v2.toInt) (Y := 3) rfl rfl (by omega) (by omega)) (fun v57 hv57 => ?_))
          refine x_iald (v := (qm_now_c v57.toNatClampNeg)) C hw 1 rfl (i_in (by omega) (by omega)) rfl dX11_holds_343 (x_gen (fun v58 => ?_))
          refine lv_bipush (v := 61) C.1 C.2.1 dX11_holds_344 (by decide) ?_
          refine lv_icmp_ne (tgt := 364) C.1 C.2.1 dX11_holds_346 (by decide) (fun c59 => ?_) (fun c59 => ?_)
          · skip
            have c59 : v58.toInt ≠ 61 := i_eqF (X := v58.toInt) (Y := 61) rfl rfl c59
            have bc59_v58 := i_bd v58
            refine lv_iload C.1 C.2.1 dX11_holds_364 (lv_at hl 0 rfl) ?_
            refine lv_iload C.1 C.2.1 dX11_holds_366 (lv_at hl 1 rfl) ?_
            refine lv_icmp_le (tgt := 375) C.1 C.2.1 dX11_holds_368 (by decide) (fun c60 => ?_) (fun c60 => ?_)
            · skip
              have c60 : j43.toInt ≤ v6.toInt := i_leT (X := j43.toInt) (Y := v6.toInt) rfl rfl c60
              have bc60_j43 := i_bd j43
              have bc60_v6 := i_bd v6
              refine lv_iconst (v := 0) C.1 C.2.1 dX11_holds_375 (by decide) ?_
              exact x_retzQ hQ B hw rfl (Or.inl ⟨rfl, rfl⟩) (Nat.le_of_ble_eq_true rfl) (Nat.le_of_ble_eq_true rfl) dX11_holds_376
            · skip
              have c60 : v6.toInt < j43.toInt := i_leF (X := j43.toInt) (Y := v6.toInt) rfl rfl c60
              have bc60_j43 := i_bd j43
              have bc60_v6 := i_bd v6
              refine lv_iconst (v := 1) C.1 C.2.1 dX11_holds_371 (by decide) ?_
              refine lv_goto (tgt := 376) C.1 C.2.1 dX11_holds_372 (by decide) ?_
              exact x_retzQ hQ B hw rfl (Or.inr ⟨rfl, rfl⟩) (Nat.le_of_ble_eq_true rfl) (Nat.le_of_ble_eq_true rfl) dX11_holds_376
          · skip
            have c59 : v58.toInt = 61 := i_eqT (X := v58.toInt) (Y := 61) rfl rfl c59
            have bc59_v58 := i_bd v58
            refine lv_iload C.1 C.2.1 dX11_holds_349 (lv_at hl 0 rfl) ?_
            refine lv_iload C.1 C.2.1 dX11_holds_351 (lv_at hl 1 rfl) ?_
            refine lv_icmp_ne (tgt := 360) C.1 C.2.1 dX11_holds_353 (by decide) (fun c61 => ?_) (fun c61 => ?_)
            · skip
              have c61 : j43.toInt ≠ v6.toInt := i_eqF (X := j43.toInt) (Y := v6.toInt) rfl rfl c61
              have bc61_j43 := i_bd j43
              have bc61_v6 := i_bd v6
              refine lv_iconst (v := 0) C.1 C.2.1 dX11_holds_360 (by decide) ?_
              refine lv_goto (tgt := 376) C.1 C.2.1 dX11_holds_361 (by decide) ?_
              exact x_retzQ hQ B hw rfl (Or.inl ⟨rfl, rfl⟩) (Nat.le_of_ble_eq_true rfl) (Nat.le_of_ble_eq_true rfl) dX11_holds_376
            · skip
              have c61 : j43.toInt = v6.toInt := i_eqT (X := j43.toInt) (Y := v6.toInt) rfl rfl c61
              have bc61_j43 := i_bd j43
              have bc61_v6 := i_bd v6
              refine lv_iconst (v := 1) C.1 C.2.1 dX11_holds_356 (by decide) ?_
              refine lv_goto (tgt := 376) C.1 C.2.1 dX11_holds_357 (by decide) ?_
              exact x_retzQ hQ B hw rfl (Or.inr ⟨rfl, rfl⟩) (Nat.le_of_ble_eq_true rfl) (Nat.le_of_ble_eq_true rfl) dX11_holds_376
        · skip
          have c56 : v55.toInt = 60 := i_eqT (X := v55.toInt) (Y := 60) rfl rfl c56
          have bc56_v55 := i_bd v55
          refine lv_iload C.1 C.2.1 dX11_holds_321 (lv_at hl 0 rfl) ?_
          refine lv_iload C.1 C.2.1 dX11_holds_323 (lv_at hl 1 rfl) ?_
          refine lv_icmp_ge (tgt := 332) C.1 C.2.1 dX11_holds_325 (by decide) (fun c62 => ?_) (fun c62 => ?_)
          · skip
            have c62 : v6.toInt ≤ j43.toInt := i_leT (X := v6.toInt) (Y := j43.toInt) rfl rfl c62
            have bc62_j43 := i_bd j43
            have bc62_v6 := i_bd v6
            refine lv_iconst (v := 0) C.1 C.2.1 dX11_holds_332 (by decide) ?_
            refine lv_goto (tgt := 376) C.1 C.2.1 dX11_holds_333 (by decide) ?_
            exact x_retzQ hQ B hw rfl (Or.inl ⟨rfl, rfl⟩) (Nat.le_of_ble_eq_true rfl) (Nat.le_of_ble_eq_true rfl) dX11_holds_376
          · skip
            have c62 : j43.toInt < v6.toInt := i_leF (X := v6.toInt) (Y := j43.toInt) rfl rfl c62
            have bc62_j43 := i_bd j43
            have bc62_v6 := i_bd v6
            refine lv_iconst (v := 1) C.1 C.2.1 dX11_holds_328 (by decide) ?_
            refine lv_goto (tgt := 376) C.1 C.2.1 dX11_holds_329 (by decide) ?_
            exact x_retzQ hQ B hw rfl (Or.inr ⟨rfl, rfl⟩) (Nat.le_of_ble_eq_true rfl) (Nat.le_of_ble_eq_true rfl) dX11_holds_376
      refine lv_icmp_ne (tgt := 267) C.1 C.2.1 dX11_holds_249 (by decide) (fun c30 => ?_) (fun c30 => ?_)
      · skip
        have c30 : v29.toInt ≠ 23 := i_eqF (X := v29.toInt) (Y := 23) rfl rfl c30
        have bc30_v29 := i_bd v29
        refine lv_iload C.1 C.2.1 dX11_holds_267 (lv_at hl 0 rfl) ?_
        refine lv_bipush (v := 24) C.1 C.2.1 dX11_holds_269 (by decide) ?_
        refine lv_icmp_ne (tgt := 286) C.1 C.2.1 dX11_holds_271 (by decide) (fun c63 => ?_) (fun c63 => ?_)
        · skip
          have c63 : v29.toInt ≠ 24 := i_eqF (X := v29.toInt) (Y := 24) rfl rfl c63
          have bc63_v29 := i_bd v29
          refine lv_iload C.1 C.2.1 dX11_holds_286 (lv_at hl 0 rfl) ?_
          refine lv_bipush (v := 25) C.1 C.2.1 dX11_holds_288 (by decide) ?_
          refine lv_icmp_ne (tgt := 305) C.1 C.2.1 dX11_holds_290 (by decide) (fun c64 => ?_) (fun c64 => ?_)
          · skip
            have c64 : v29.toInt ≠ 25 := i_eqF (X := v29.toInt) (Y := 25) rfl rfl c64
            have bc64_v29 := i_bd v29
            refine lv_iload_n C.1 C.2.1 dX11_holds_305 rfl (lv_at hl 6 rfl) ?_
            exact J44 a2   _ _ _ hw (lv_sub hl [1, 3, 4] rfl)
          · skip
            have c64 : v29.toInt = 25 := i_eqT (X := v29.toInt) (Y := 25) rfl rfl c64
            have bc64_v29 := i_bd v29
            refine lv_aload_n C.1 C.2.1 dX11_holds_293 rfl (lv_at hl 4 rfl) ?_
            refine lv_iload_n C.1 C.2.1 dX11_holds_294 rfl (lv_at hl 6 rfl) ?_
            refine lv_iconst (v := 0) C.1 C.2.1 dX11_holds_295 (by decide) ?_
            refine x_calliV (As := [.int a2, .int 0]) (rest := []) (wr := []) C hw (s_X11_sighsFor qm a2 0 qm_thrown qm_tape qm_taped qm_size qm_limit qm_to qm_from qm_kind qm_number qm_sign qm_fault qm_place qm_word qm_told qm_now qm_read qm_kept qm_snaps qm_aside qm_name qm_readName qm_keptName qm_isKept qm_onces qm_snapMany qm_order qm_ordered qm_orderMany qm_orderMost qm_passing qm_movedWho qm_scratched qm_text qm_texts qm_seed qm_line qm_written qm_lineMany qm_hasWritten qm_node qm_nodes qm_onesMany qm_within qm_top qm_now_c (by omega) hf_qm_now_c hf1_qm_now_c) mwX11_sighsFor kw1525 [0, 1] [] rfl rfl rfl rfl (by decide) 0 rfl rfl rfl rfl hl.1 rfl (Nat.le_of_ble_eq_true rfl) ⟨(by dsimp only [rmD]; omega), (by dsimp only [rmD]; omega)⟩ ⟨(Nat.le_of_ble_eq_true rfl), (Nat.le_of_ble_eq_true rfl)⟩ dX11_holds_296 (fun r65 u9 H locs hp9 hw => ?_)
            obtain ⟨x66, rfl, rfl⟩ := hp9
            have hw : Wd G s A [(qm, .inr (10, [.int qm_thrown, .ref qm_tape, .int qm_taped, .int qm_size, .int qm_limit, .int qm_to, .int qm_from, .int qm_kind, .int qm_number, .int qm_sign, .int qm_fault, .int qm_place, .long qm_word, .int qm_told, .ref qm_now, .ref qm_read, .ref qm_kept, .ref qm_snaps, .ref qm_aside, .ref qm_name, .ref qm_readName, .ref qm_keptName, .ref qm_isKept, .ref qm_onces, .int qm_snapMany, .ref qm_order, .ref qm_ordered, .int qm_orderMany, .int qm_orderMost, .int qm_passing, .int qm_movedWho, .int qm_scratched, .ref qm_text, .int qm_texts, .int qm_seed, .ref qm_line, .ref qm_written, .int qm_lineMany, .int qm_hasWritten, .ref qm_node, .int qm_nodes, .int qm_onesMany, .int qm_within, .int qm_top])), (qm_now, eI G 339 qm_now_c)] H _ := hw
            refine x_calliS (As := [.int r65]) (rest := []) (wr := [(qm, .inr (10, [.int qm_thrown, .ref qm_tape, .int qm_taped, .int qm_size, .int qm_limit, .int qm_to, .int qm_from, .int qm_kind, .int qm_number, .int qm_sign, .int qm_fault, .int qm_place, .long qm_word, .int qm_told, .ref qm_now, .ref qm_read, .ref qm_kept, .ref qm_snaps, .ref qm_aside, .ref qm_name, .ref qm_readName, .ref qm_keptName, .ref qm_isKept, .ref qm_onces, .int qm_snapMany, .ref qm_order, .ref qm_ordered, .int qm_orderMany, .int qm_orderMost, .int qm_passing, .int qm_movedWho, .int qm_scratched, .ref qm_text, .int qm_texts, .int qm_seed, .ref qm_line, .ref qm_written, .int qm_lineMany, .int qm_hasWritten, .ref qm_node, .int qm_nodes, .int qm_onesMany, .int qm_within, .int qm_top])), (qm_now, eI G 339 qm_now_c)]) C hw (s_X11_bits r65) mwX11_bits kw1484 [] [0, 1] rfl rfl rfl rfl (by decide) rfl hl.1 rfl (Nat.le_of_ble_eq_true rfl) ⟨(by dsimp only [rmD]; omega), (by dsimp only [rmD]; omega)⟩ ⟨(Nat.le_of_ble_eq_true rfl), (Nat.le_of_ble_eq_true rfl)⟩ dX11_holds_299 (fun r67 u9 H locs hp9 hw => ?_)
            obtain ⟨x68, rfl, rfl⟩ := hp9
            have hw : Wd G s A [(qm, .inr (10, [.int qm_thrown, .ref qm_tape, .int qm_taped, .int qm_size, .int qm_limit, .int qm_to, .int qm_from, .int qm_kind, .int qm_number, .int qm_sign, .int qm_fault, .int qm_place, .long qm_word, .int qm_told, .ref qm_now, .ref qm_read, .ref qm_kept, .ref qm_snaps, .ref qm_aside, .ref qm_name, .ref qm_readName, .ref qm_keptName, .ref qm_isKept, .ref qm_onces, .int qm_snapMany, .ref qm_order, .ref qm_ordered, .int qm_orderMany, .int qm_orderMost, .int qm_passing, .int qm_movedWho, .int qm_scratched, .ref qm_text, .int qm_texts, .int qm_seed, .ref qm_line, .ref qm_written, .int qm_lineMany, .int qm_hasWritten, .ref qm_node, .int qm_nodes, .int qm_onesMany, .int qm_within, .int qm_top])), (qm_now, eI G 339 qm_now_c)] H _ := hw
            refine lv_goto (tgt := 306) C.1 C.2.1 dX11_holds_302 (by decide) ?_
            exact J44 r67   _ _ _ hw (lv_sub hl [1, 3, 4] rfl)
        · skip
          have c63 : v29.toInt = 24 := i_eqT (X := v29.toInt) (Y := 24) rfl rfl c63
          have bc63_v29 := i_bd v29
          refine lv_aload_n C.1 C.2.1 dX11_holds_274 rfl (lv_at hl 4 rfl) ?_
          refine x_get C hw iwX11 10 rfl 0 rfl 14 (by decide) kw1207 rfl dX11_holds_275 ?_
          refine lv_bipush (v := 12) C.1 C.2.1 dX11_holds_278 (by decide) ?_
          refine lv_iload_n C.1 C.2.1 dX11_holds_280 rfl (lv_at hl 6 rfl) ?_
          refine lv_iadd C.1 C.2.1 dX11_holds_281 (x_genP (fun z : Int32 => z.toInt = 12 + a2.toInt) (i_add (X := 12) (Y := a2.toInt) rfl rfl (by omega) (by omega)) (fun v69 hv69 => ?_))
          refine x_iald (v := (qm_now_c v69.toNatClampNeg)) C hw 1 rfl (i_in (by omega) (by omega)) rfl dX11_holds_282 (x_gen (fun v70 => ?_))
          refine lv_goto (tgt := 306) C.1 C.2.1 dX11_holds_283 (by decide) ?_
          exact J44 v70   _ _ _ hw (lv_sub hl [1, 3, 4] rfl)
      · skip
        have c30 : v29.toInt = 23 := i_eqT (X := v29.toInt) (Y := 23) rfl rfl c30
        have bc30_v29 := i_bd v29
        refine lv_aload_n C.1 C.2.1 dX11_holds_252 rfl (lv_at hl 4 rfl) ?_
        refine x_get C hw iwX11 10 rfl 0 rfl 14 (by decide) kw1207 rfl dX11_holds_253 ?_
        refine lv_bipush (v := 69) C.1 C.2.1 dX11_holds_256 (by decide) ?_
        refine lv_iload_n C.1 C.2.1 dX11_holds_258 rfl (lv_at hl 6 rfl) ?_
        refine lv_iadd C.1 C.2.1 dX11_holds_259 (x_genP (fun z : Int32 => z.toInt = 69 + a2.toInt) (i_add (X := 69) (Y := a2.toInt) rfl rfl (by omega) (by omega)) (fun v71 hv71 => ?_))
        refine x_iald (v := (qm_now_c v71.toNatClampNeg)) C hw 1 rfl (i_in (by omega) (by omega)) rfl dX11_holds_260 (x_gen (fun v72 => ?_))
        refine x_calliS (As := [.int v72]) (rest := []) (wr := [(qm, .inr (10, [.int qm_thrown, .ref qm_tape, .int qm_taped, .int qm_size, .int qm_limit, .int qm_to, .int qm_from, .int qm_kind, .int qm_number, .int qm_sign, .int qm_fault, .int qm_place, .long qm_word, .int qm_told, .ref qm_now, .ref qm_read, .ref qm_kept, .ref qm_snaps, .ref qm_aside, .ref qm_name, .ref qm_readName, .ref qm_keptName, .ref qm_isKept, .ref qm_onces, .int qm_snapMany, .ref qm_order, .ref qm_ordered, .int qm_orderMany, .int qm_orderMost, .int qm_passing, .int qm_movedWho, .int qm_scratched, .ref qm_text, .int qm_texts, .int qm_seed, .ref qm_line, .ref qm_written, .int qm_lineMany, .int qm_hasWritten, .ref qm_node, .int qm_nodes, .int qm_onesMany, .int qm_within, .int qm_top])), (qm_now, eI G 339 qm_now_c)]) C hw (s_X11_bits v72) mwX11_bits kw1484 [] [0, 1] rfl rfl rfl rfl (by decide) rfl hl.1 rfl (Nat.le_of_ble_eq_true rfl) ⟨(by dsimp only [rmD]; omega), (by dsimp only [rmD]; omega)⟩ ⟨(Nat.le_of_ble_eq_true rfl), (Nat.le_of_ble_eq_true rfl)⟩ dX11_holds_261 (fun r73 u9 H locs hp9 hw => ?_)
        obtain ⟨x74, rfl, rfl⟩ := hp9
        have hw : Wd G s A [(qm, .inr (10, [.int qm_thrown, .ref qm_tape, .int qm_taped, .int qm_size, .int qm_limit, .int qm_to, .int qm_from, .int qm_kind, .int qm_number, .int qm_sign, .int qm_fault, .int qm_place, .long qm_word, .int qm_told, .ref qm_now, .ref qm_read, .ref qm_kept, .ref qm_snaps, .ref qm_aside, .ref qm_name, .ref qm_readName, .ref qm_keptName, .ref qm_isKept, .ref qm_onces, .int qm_snapMany, .ref qm_order, .ref qm_ordered, .int qm_orderMany, .int qm_orderMost, .int qm_passing, .int qm_movedWho, .int qm_scratched, .ref qm_text, .int qm_texts, .int qm_seed, .ref qm_line, .ref qm_written, .int qm_lineMany, .int qm_hasWritten, .ref qm_node, .int qm_nodes, .int qm_onesMany, .int qm_within, .int qm_top])), (qm_now, eI G 339 qm_now_c)] H _ := hw
        refine lv_goto (tgt := 306) C.1 C.2.1 dX11_holds_264 (by decide) ?_
        exact J44 r73   _ _ _ hw (lv_sub hl [1, 3, 4] rfl)
theorem s_X11_holds {l : Launch} {G : Gc} (qm : Nat) (a1 : Int32) (a2 : Int32) (qm_thrown : Int32) (qm_tape : Nat) (qm_taped : Int32) (qm_size : Int32) (qm_limit : Int32) (qm_to : Int32) (qm_from : Int32) (qm_kind : Int32) (qm_number : Int32) (qm_sign : Int32) (qm_fault : Int32) (qm_place : Int32) (qm_word : Int64) (qm_told : Int32) (qm_now : Nat) (qm_read : Nat) (qm_kept : Nat) (qm_snaps : Nat) (qm_aside : Nat) (qm_name : Nat) (qm_readName : Nat) (qm_keptName : Nat) (qm_isKept : Nat) (qm_onces : Nat) (qm_snapMany : Int32) (qm_order : Nat) (qm_ordered : Nat) (qm_orderMany : Int32) (qm_orderMost : Int32) (qm_passing : Int32) (qm_movedWho : Int32) (qm_scratched : Int32) (qm_text : Nat) (qm_texts : Int32) (qm_seed : Int32) (qm_line : Nat) (qm_written : Nat) (qm_lineMany : Int32) (qm_hasWritten : Int32) (qm_node : Nat) (qm_nodes : Int32) (qm_onesMany : Int32) (qm_within : Int32) (qm_top : Int32) (qm_now_c : Nat → Int32) (hi_a1 : 0 ≤ a1.toInt ∧ a1.toInt ≤ 59) (hi_a2 : 0 ≤ a2.toInt ∧ a2.toInt ≤ 5) (hi_qm_taped : 0 ≤ qm_taped.toInt ∧ qm_taped.toInt ≤ 940) (hi_qm_size : 0 ≤ qm_size.toInt ∧ qm_size.toInt ≤ 940) (hi_qm_to : 0 ≤ qm_to.toInt ∧ qm_to.toInt ≤ 940) (hf_qm_now_c : slI qm_now_c) (hf1_qm_now_c : trI qm_now_c) (hi_qm_snapMany : 0 ≤ qm_snapMany.toInt ∧ qm_snapMany.toInt ≤ 8) (hi_qm_orderMany : 0 ≤ qm_orderMany.toInt ∧ qm_orderMany.toInt ≤ 6) (hi_qm_texts : 0 ≤ qm_texts.toInt ∧ qm_texts.toInt ≤ 64) (hi_qm_lineMany : 0 ≤ qm_lineMany.toInt ∧ qm_lineMany.toInt ≤ 40) (hi_qm_hasWritten : 0 ≤ qm_hasWritten.toInt ∧ qm_hasWritten.toInt ≤ 1) (hi_qm_nodes : 0 ≤ qm_nodes.toInt ∧ qm_nodes.toInt ≤ 40) (hi_qm_onesMany : 0 ≤ qm_onesMany.toInt ∧ qm_onesMany.toInt ≤ 20) (hi_qm_within : 0 ≤ qm_within.toInt ∧ qm_within.toInt ≤ 8) : Ci l yX11_holds cX11_holds 8 (some .boolean) 65 0 0 G [.ref qm, .int a1, .int a2] [(qm, .inr (10, [.int qm_thrown, .ref qm_tape, .int qm_taped, .int qm_size, .int qm_limit, .int qm_to, .int qm_from, .int qm_kind, .int qm_number, .int qm_sign, .int qm_fault, .int qm_place, .long qm_word, .int qm_told, .ref qm_now, .ref qm_read, .ref qm_kept, .ref qm_snaps, .ref qm_aside, .ref qm_name, .ref qm_readName, .ref qm_keptName, .ref qm_isKept, .ref qm_onces, .int qm_snapMany, .ref qm_order, .ref qm_ordered, .int qm_orderMany, .int qm_orderMost, .int qm_passing, .int qm_movedWho, .int qm_scratched, .ref qm_text, .int qm_texts, .int qm_seed, .ref qm_line, .ref qm_written, .int qm_lineMany, .int qm_hasWritten, .ref qm_node, .int qm_nodes, .int qm_onesMany, .int qm_within, .int qm_top])), (qm_now, eI G 339 qm_now_c)] (fun (r9 : Int32) (u9 : va_W) => (r9 = 0 ∧ u9 = [(qm, .inr (10, [.int qm_thrown, .ref qm_tape, .int qm_taped, .int qm_size, .int qm_limit, .int qm_to, .int qm_from, .int qm_kind, .int qm_number, .int qm_sign, .int qm_fault, .int qm_place, .long qm_word, .int qm_told, .ref qm_now, .ref qm_read, .ref qm_kept, .ref qm_snaps, .ref qm_aside, .ref qm_name, .ref qm_readName, .ref qm_keptName, .ref qm_isKept, .ref qm_onces, .int qm_snapMany, .ref qm_order, .ref qm_ordered, .int qm_orderMany, .int qm_orderMost, .int qm_passing, .int qm_movedWho, .int qm_scratched, .ref qm_text, .int qm_texts, .int qm_seed, .ref qm_line, .ref qm_written, .int qm_lineMany, .int qm_hasWritten, .ref qm_node, .int qm_nodes, .int qm_onesMany, .int qm_within, .int qm_top])), (qm_now, eI G 339 qm_now_c)]) ∨ (r9 = 1 ∧ u9 = [(qm, .inr (10, [.int qm_thrown, .ref qm_tape, .int qm_taped, .int qm_size, .int qm_limit, .int qm_to, .int qm_from, .int qm_kind, .int qm_number, .int qm_sign, .int qm_fault, .int qm_place, .long qm_word, .int qm_told, .ref qm_now, .ref qm_read, .ref qm_kept, .ref qm_snaps, .ref qm_aside, .ref qm_name, .ref qm_readName, .ref qm_keptName, .ref qm_isKept, .ref qm_onces, .int qm_snapMany, .ref qm_order, .ref qm_ordered, .int qm_orderMany, .int qm_orderMost, .int qm_passing, .int qm_movedWho, .int qm_scratched, .ref qm_text, .int qm_texts, .int qm_seed, .ref qm_line, .ref qm_written, .int qm_lineMany, .int qm_hasWritten, .ref qm_node, .int qm_nodes, .int qm_onesMany, .int qm_within, .int qm_top])), (qm_now, eI G 339 qm_now_c)])) := s_X11_holds_n 60 qm a1 a2 qm_thrown qm_tape qm_taped qm_size qm_limit qm_to qm_from qm_kind qm_number qm_sign qm_fault qm_place qm_word qm_told qm_now qm_read qm_kept qm_snaps qm_aside qm_name qm_readName qm_keptName qm_isKept qm_onces qm_snapMany qm_order qm_ordered qm_orderMany qm_orderMost qm_passing qm_movedWho qm_scratched qm_text qm_texts qm_seed qm_line qm_written qm_lineMany qm_hasWritten qm_node qm_nodes qm_onesMany qm_within qm_top qm_now_c hi_a1 hi_a2 hi_qm_taped hi_qm_size hi_qm_to hf_qm_now_c hf1_qm_now_c hi_qm_snapMany hi_qm_orderMany hi_qm_texts hi_qm_lineMany hi_qm_hasWritten hi_qm_nodes hi_qm_onesMany hi_qm_within (by omega)
theorem dX11_said_0 : decode cX11_said 0 = .ok (.aload_n 0, 1) := by decide +kernel
theorem dX11_said_1 : decode cX11_said 1 = .ok (.iconst 0, 1) := by decide +kernel
theorem dX11_said_2 : decode cX11_said 2 = .ok (.putfield 1, 3) := by decide +kernel
theorem dX11_said_5 : decode cX11_said 5 = .ok (.aload_n 0, 1) := by decide +kernel
theorem dX11_said_6 : decode cX11_said 6 = .ok (.getfield 98, 3) := by decide +kernel
theorem dX11_said_9 : decode cX11_said 9 = .ok (.bipush 97, 2) := by decide +kernel
theorem dX11_said_11 : decode cX11_said 11 = .ok (.iaload, 1) := by decide +kernel
theorem dX11_said_12 : decode cX11_said 12 = .ok (.ifCond .ne 5, 3) := by decide +kernel
theorem dX11_said_17 : decode cX11_said 17 = .ok (.iconst 0, 1) := by decide +kernel
theorem dX11_said_18 : decode cX11_said 18 = .ok (.istore_n 2, 1) := by decide +kernel
theorem dX11_said_19 : decode cX11_said 19 = .ok (.iconst 0, 1) := by decide +kernel
theorem dX11_said_20 : decode cX11_said 20 = .ok (.istore_n 3, 1) := by decide +kernel
theorem dX11_said_21 : decode cX11_said 21 = .ok (.iload_n 3, 1) := by decide +kernel
theorem dX11_said_22 : decode cX11_said 22 = .ok (.aload_n 0, 1) := by decide +kernel
theorem dX11_said_23 : decode cX11_said 23 = .ok (.getfield 98, 3) := by decide +kernel
theorem dX11_said_26 : decode cX11_said 26 = .ok (.iconst 0, 1) := by decide +kernel
theorem dX11_said_27 : decode cX11_said 27 = .ok (.iaload, 1) := by decide +kernel
theorem dX11_said_28 : decode cX11_said 28 = .ok (.if_icmp .ge 37, 3) := by decide +kernel
theorem dX11_said_65 : decode cX11_said 65 = .ok (.iload_n 1, 1) := by decide +kernel
theorem dX11_said_66 : decode cX11_said 66 = .ok (.iconst (-1), 1) := by decide +kernel
theorem dX11_said_67 : decode cX11_said 67 = .ok (.if_icmp .ne 7, 3) := by decide +kernel
theorem dX11_said_74 : decode cX11_said 74 = .ok (.iconst (-1), 1) := by decide +kernel
theorem dX11_said_75 : decode cX11_said 75 = .ok (.ireturn, 1) := by decide +kernel
theorem dX11_said_70 : decode cX11_said 70 = .ok (.iload_n 2, 1) := by decide +kernel
theorem dX11_said_71 : decode cX11_said 71 = .ok (.goto 4, 3) := by decide +kernel
theorem dX11_said_31 : decode cX11_said 31 = .ok (.aload_n 0, 1) := by decide +kernel
theorem dX11_said_32 : decode cX11_said 32 = .ok (.aload_n 0, 1) := by decide +kernel
theorem dX11_said_33 : decode cX11_said 33 = .ok (.getfield 98, 3) := by decide +kernel
theorem dX11_said_36 : decode cX11_said 36 = .ok (.bipush 98, 2) := by decide +kernel
theorem dX11_said_38 : decode cX11_said 38 = .ok (.iaload, 1) := by decide +kernel
theorem dX11_said_39 : decode cX11_said 39 = .ok (.iload_n 3, 1) := by decide +kernel
theorem dX11_said_40 : decode cX11_said 40 = .ok (.invokevirtual 431, 3) := by decide +kernel
theorem dX11_said_43 : decode cX11_said 43 = .ok (.ifCond .ne 6, 3) := by decide +kernel
theorem dX11_said_46 : decode cX11_said 46 = .ok (.goto 13, 3) := by decide +kernel
theorem dX11_said_49 : decode cX11_said 49 = .ok (.iload_n 2, 1) := by decide +kernel
theorem dX11_said_50 : decode cX11_said 50 = .ok (.iload_n 1, 1) := by decide +kernel
theorem dX11_said_51 : decode cX11_said 51 = .ok (.if_icmp .ne 5, 3) := by decide +kernel
theorem dX11_said_56 : decode cX11_said 56 = .ok (.iinc 2 1, 3) := by decide +kernel
theorem dX11_said_54 : decode cX11_said 54 = .ok (.iload_n 3, 1) := by decide +kernel
theorem dX11_said_55 : decode cX11_said 55 = .ok (.ireturn, 1) := by decide +kernel
theorem dX11_said_59 : decode cX11_said 59 = .ok (.iinc 3 1, 3) := by decide +kernel
theorem dX11_said_62 : decode cX11_said 62 = .ok (.goto (-41), 3) := by decide +kernel
theorem dX11_said_15 : decode cX11_said 15 = .ok (.iconst (-1), 1) := by decide +kernel
theorem dX11_said_16 : decode cX11_said 16 = .ok (.ireturn, 1) := by decide +kernel
set_option maxHeartbeats 4000000 in
set_option maxRecDepth 100000 in
theorem s_X11_said {l : Launch} {G : Gc} (qm : Nat) (a1 : Int32) (qm_thrown : Int32) (qm_tape : Nat) (qm_taped : Int32) (qm_size : Int32) (qm_limit : Int32) (qm_to : Int32) (qm_from : Int32) (qm_kind : Int32) (qm_number : Int32) (qm_sign : Int32) (qm_fault : Int32) (qm_place : Int32) (qm_word : Int64) (qm_told : Int32) (qm_now : Nat) (qm_read : Nat) (qm_kept : Nat) (qm_snaps : Nat) (qm_aside : Nat) (qm_name : Nat) (qm_readName : Nat) (qm_keptName : Nat) (qm_isKept : Nat) (qm_onces : Nat) (qm_snapMany : Int32) (qm_order : Nat) (qm_ordered : Nat) (qm_orderMany : Int32) (qm_orderMost : Int32) (qm_passing : Int32) (qm_movedWho : Int32) (qm_scratched : Int32) (qm_text : Nat) (qm_texts : Int32) (qm_seed : Int32) (qm_line : Nat) (qm_written : Nat) (qm_lineMany : Int32) (qm_hasWritten : Int32) (qm_node : Nat) (qm_nodes : Int32) (qm_onesMany : Int32) (qm_within : Int32) (qm_top : Int32) (qm_now_c : Nat → Int32) (hi_qm_taped : 0 ≤ qm_taped.toInt ∧ qm_taped.toInt ≤ 940) (hi_qm_size : 0 ≤ qm_size.toInt ∧ qm_size.toInt ≤ 940) (hi_qm_to : 0 ≤ qm_to.toInt ∧ qm_to.toInt ≤ 940) (hf_qm_now_c : slI qm_now_c) (hf1_qm_now_c : trI qm_now_c) (hi_qm_snapMany : 0 ≤ qm_snapMany.toInt ∧ qm_snapMany.toInt ≤ 8) (hi_qm_orderMany : 0 ≤ qm_orderMany.toInt ∧ qm_orderMany.toInt ≤ 6) (hi_qm_texts : 0 ≤ qm_texts.toInt ∧ qm_texts.toInt ≤ 64) (hi_qm_lineMany : 0 ≤ qm_lineMany.toInt ∧ qm_lineMany.toInt ≤ 40) (hi_qm_hasWritten : 0 ≤ qm_hasWritten.toInt ∧ qm_hasWritten.toInt ≤ 1) (hi_qm_nodes : 0 ≤ qm_nodes.toInt ∧ qm_nodes.toInt ≤ 40) (hi_qm_onesMany : 0 ≤ qm_onesMany.toInt ∧ qm_onesMany.toInt ≤ 20) (hi_qm_within : 0 ≤ qm_within.toInt ∧ qm_within.toInt ≤ 8) : Ci l yX11_said cX11_said 4 (some .int) 66 0 0 G [.ref qm, .int a1] [(qm, .inr (10, [.int qm_thrown, .ref qm_tape, .int qm_taped, .int qm_size, .int qm_limit, .int qm_to, .int qm_from, .int qm_kind, .int qm_number, .int qm_sign, .int qm_fault, .int qm_place, .long qm_word, .int qm_told, .ref qm_now, .ref qm_read, .ref qm_kept, .ref qm_snaps, .ref qm_aside, .ref qm_name, .ref qm_readName, .ref qm_keptName, .ref qm_isKept, .ref qm_onces, .int qm_snapMany, .ref qm_order, .ref qm_ordered, .int qm_orderMany, .int qm_orderMost, .int qm_passing, .int qm_movedWho, .int qm_scratched, .ref qm_text, .int qm_texts, .int qm_seed, .ref qm_line, .ref qm_written, .int qm_lineMany, .int qm_hasWritten, .ref qm_node, .int qm_nodes, .int qm_onesMany, .int qm_within, .int qm_top])), (qm_now, eI G 339 qm_now_c)] (fun (r9 : Int32) (u9 : va_W) => ∃ (r_x : Int32), r9 = r_x ∧ u9 = [(qm, .inr (10, [.int 0, .ref qm_tape, .int qm_taped, .int qm_size, .int qm_limit, .int qm_to, .int qm_from, .int qm_kind, .int qm_number, .int qm_sign, .int qm_fault, .int qm_place, .long qm_word, .int qm_told, .ref qm_now, .ref qm_read, .ref qm_kept, .ref qm_snaps, .ref qm_aside, .ref qm_name, .ref qm_readName, .ref qm_keptName, .ref qm_isKept, .ref qm_onces, .int qm_snapMany, .ref qm_order, .ref qm_ordered, .int qm_orderMany, .int qm_orderMost, .int qm_passing, .int qm_movedWho, .int qm_scratched, .ref qm_text, .int qm_texts, .int qm_seed, .ref qm_line, .ref qm_written, .int qm_lineMany, .int qm_hasWritten, .ref qm_node, .int qm_nodes, .int qm_onesMany, .int qm_within, .int qm_top])), (qm_now, eI G 339 qm_now_c)]) := by
  refine Ci.ofQ (by decide) (Nat.le_of_ble_eq_true rfl) ?_
  intro p e s m below meth c ls A args Q hQ B hw hl
  have C : CallFix p m c cX11_said 4 s args gw "LanternStateModel" := B.1
  have hl : lv_has ls 4 [(0, .ref qm), (1, .int a1)] := hl
  refine lv_aload_n C.1 C.2.1 dX11_said_0 rfl (lv_at hl 0 rfl) ?_
  refine lv_iconst (v := 0) C.1 C.2.1 dX11_said_1 (by decide) ?_
  refine x_put (w' := [(qm, .inr (10, [.int 0, .ref qm_tape, .int qm_taped, .int qm_size, .int qm_limit, .int qm_to, .int qm_from, .int qm_kind, .int qm_number, .int qm_sign, .int qm_fault, .int qm_place, .long qm_word, .int qm_told, .ref qm_now, .ref qm_read, .ref qm_kept, .ref qm_snaps, .ref qm_aside, .ref qm_name, .ref qm_readName, .ref qm_keptName, .ref qm_isKept, .ref qm_onces, .int qm_snapMany, .ref qm_order, .ref qm_ordered, .int qm_orderMany, .int qm_orderMost, .int qm_passing, .int qm_movedWho, .int qm_scratched, .ref qm_text, .int qm_texts, .int qm_seed, .ref qm_line, .ref qm_written, .int qm_lineMany, .int qm_hasWritten, .ref qm_node, .int qm_nodes, .int qm_onesMany, .int qm_within, .int qm_top])), (qm_now, eI G 339 qm_now_c)]) C hw iwX11 tyX11_ok nmX11 10 rfl 0 rfl 0 (by decide) kw1193 rfl rfl rfl (Nat.le_of_ble_eq_true rfl) rfl dX11_said_2 (fun H locs hw => ?_)
  refine lv_aload_n C.1 C.2.1 dX11_said_5 rfl (lv_at hl 0 rfl) ?_
  refine x_get C hw iwX11 10 rfl 0 rfl 14 (by decide) kw1207 rfl dX11_said_6 ?_
  refine lv_bipush (v := 97) C.1 C.2.1 dX11_said_9 (by decide) ?_
  refine x_iald (v := (qm_now_c 97)) C hw 1 rfl (x_in rfl) rfl dX11_said_11 (x_gen (fun v1 => ?_))
  refine lv_if_ne (tgt := 17) C.1 C.2.1 dX11_said_12 (by decide) (fun c2 => ?_) (fun c2 => ?_)
  · skip
    have c2 : v1.toInt ≠ 0 := i_eqF (X := v1.toInt) (Y := 0) rfl rfl c2
    have bc2_v1 := i_bd v1
    refine lv_iconst (v := 0) C.1 C.2.1 dX11_said_17 (by decide) ?_
    refine lv_istore_n (lv' := [(2, .int 0), (0, .ref qm), (1, .int a1)]) C.1 C.2.1 dX11_said_18 rfl hl (by decide) rfl (fun ls hl => ?_)
    refine lv_iconst (v := 0) C.1 C.2.1 dX11_said_19 (by decide) ?_
    refine lv_istore_n (lv' := [(3, .int 0), (2, .int 0), (0, .ref qm), (1, .int a1)]) C.1 C.2.1 dX11_said_20 rfl hl (by decide) rfl (fun ls hl => ?_)
    have loopJ365 : ∀ (n9 : Nat) (j363 : Int32) (j364 : Int32), (2147483647 - j363.toInt).toNat < n9 → (0 ≤ j363.toInt ∧ j363.toInt ≤ 6) → ∀ (H : Heap) (locs : List Loc) (ls : Array Slot), Wd G s A [(qm, .inr (10, [.int 0, .ref qm_tape, .int qm_taped, .int qm_size, .int qm_limit, .int qm_to, .int qm_from, .int qm_kind, .int qm_number, .int qm_sign, .int qm_fault, .int qm_place, .long qm_word, .int qm_told, .ref qm_now, .ref qm_read, .ref qm_kept, .ref qm_snaps, .ref qm_aside, .ref qm_name, .ref qm_readName, .ref qm_keptName, .ref qm_isKept, .ref qm_onces, .int qm_snapMany, .ref qm_order, .ref qm_ordered, .int qm_orderMany, .int qm_orderMost, .int qm_passing, .int qm_movedWho, .int qm_scratched, .ref qm_text, .int qm_texts, .int qm_seed, .ref qm_line, .ref qm_written, .int qm_lineMany, .int qm_hasWritten, .ref qm_node, .int qm_nodes, .int qm_onesMany, .int qm_within, .int qm_top])), (qm_now, eI G 339 qm_now_c)] H locs → lv_has ls 4 [(3, .int j363), (2, .int j364), (0, .ref qm), (1, .int a1)] → W p l e (rmD 66 0 0) s m args below meth c H locs 0 0 Q (F0 m 21 ls []) := by
      intro n9
      induction n9 with
      | zero => intro j363 j364 h9; exact absurd h9 (Nat.not_lt_zero _)
      | succ n9 ihJ365 =>
        intro j363 j364 h9J365 hJ365_0 H locs ls hw hl
        have hbj363 := i_bd j363
        refine lv_iload_n C.1 C.2.1 dX11_said_21 rfl (lv_at hl 0 rfl) ?_
        refine lv_aload_n C.1 C.2.1 dX11_said_22 rfl (lv_at hl 2 rfl) ?_
        refine x_get C hw iwX11 10 rfl 0 rfl 14 (by decide) kw1207 rfl dX11_said_23 ?_
        refine lv_iconst (v := 0) C.1 C.2.1 dX11_said_26 (by decide) ?_
        have mm380 := hf_qm_now_c 0
        refine x_iald (v := (qm_now_c 0)) C hw 1 rfl (x_in rfl) rfl dX11_said_27 (x_genP (fun z : Int32 => z.toInt = (qm_now_c 0).toInt ∧ 0 ≤ z.toInt ∧ z.toInt ≤ 6) ⟨rfl, by omega⟩ (fun v381 hv381 => ?_))
        refine lv_icmp_ge (tgt := 65) C.1 C.2.1 dX11_said_28 (by decide) (fun c382 => ?_) (fun c382 => ?_)
        · skip
          have c382 : v381.toInt ≤ j363.toInt := i_leT (X := v381.toInt) (Y := j363.toInt) rfl rfl c382
          refine lv_iload_n C.1 C.2.1 dX11_said_65 rfl (lv_at hl 3 rfl) ?_
          refine lv_iconst (v := (-1)) C.1 C.2.1 dX11_said_66 (by decide) ?_
          refine lv_icmp_ne (tgt := 74) C.1 C.2.1 dX11_said_67 (by decide) (fun c383 => ?_) (fun c383 => ?_)
          · skip
            have c383 : a1.toInt ≠ (-1) := i_eqF (X := a1.toInt) (Y := (-1)) rfl rfl c383
            have bc383_a1 := i_bd a1
            refine lv_iconst (v := (-1)) C.1 C.2.1 dX11_said_74 (by decide) ?_
            exact x_retiQ hQ B hw ⟨(-1), rfl, rfl⟩ (Nat.le_of_ble_eq_true rfl) (Nat.le_of_ble_eq_true rfl) dX11_said_75
          · skip
            have c383 : a1.toInt = (-1) := i_eqT (X := a1.toInt) (Y := (-1)) rfl rfl c383
            have bc383_a1 := i_bd a1
            refine lv_iload_n C.1 C.2.1 dX11_said_70 rfl (lv_at hl 1 rfl) ?_
            refine lv_goto (tgt := 75) C.1 C.2.1 dX11_said_71 (by decide) ?_
            exact x_retiQ hQ B hw ⟨j364, rfl, rfl⟩ (Nat.le_of_ble_eq_true rfl) (Nat.le_of_ble_eq_true rfl) dX11_said_75
        · skip
          have c382 : j363.toInt < v381.toInt := i_leF (X := v381.toInt) (Y := j363.toInt) rfl rfl c382
          refine lv_aload_n C.1 C.2.1 dX11_said_31 rfl (lv_at hl 2 rfl) ?_
          refine lv_aload_n C.1 C.2.1 dX11_said_32 rfl (lv_at hl 2 rfl) ?_
          refine x_get C hw iwX11 10 rfl 0 rfl 14 (by decide) kw1207 rfl dX11_said_33 ?_
          refine lv_bipush (v := 98) C.1 C.2.1 dX11_said_36 (by decide) ?_
          refine x_iald (v := (qm_now_c 98)) C hw 1 rfl (x_in rfl) rfl dX11_said_38 (x_genP (fun z : Int32 => 0 ≤ z.toInt ∧ z.toInt ≤ 59) hf1_qm_now_c.1 (fun v384 hv384 => ?_))
          refine lv_iload_n C.1 C.2.1 dX11_said_39 rfl (lv_at hl 0 rfl) ?_
          refine x_calliV (As := [.int v384, .int j363]) (rest := []) (wr := []) C hw (s_X11_holds qm v384 j363 0 qm_tape qm_taped qm_size qm_limit qm_to qm_from qm_kind qm_number qm_sign qm_fault qm_place qm_word qm_told qm_now qm_read qm_kept qm_snaps qm_aside qm_name qm_readName qm_keptName qm_isKept qm_onces qm_snapMany qm_order qm_ordered qm_orderMany qm_orderMost qm_passing qm_movedWho qm_scratched qm_text qm_texts qm_seed qm_line qm_written qm_lineMany qm_hasWritten qm_node qm_nodes qm_onesMany qm_within qm_top qm_now_c (by omega) (by omega) (by omega) (by omega) (by omega) hf_qm_now_c hf1_qm_now_c (by omega) (by omega) (by omega) (by omega) (by omega) (by omega) (by omega) (by omega)) mwX11_holds kw1792 [0, 1] [] rfl rfl rfl rfl (by decide) 0 rfl rfl rfl rfl hl.1 rfl (Nat.le_of_ble_eq_true rfl) ⟨(Nat.le_of_ble_eq_true rfl), (Nat.le_of_ble_eq_true rfl)⟩ ⟨(Nat.le_of_ble_eq_true rfl), (Nat.le_of_ble_eq_true rfl)⟩ dX11_said_40 (fun r385 u9 H locs hp9 hw => ?_)
          have J389 : ∀ (j388 : Int32), ∀ (H : Heap) (locs : List Loc) (ls : Array Slot), Wd G s A [(qm, .inr (10, [.int 0, .ref qm_tape, .int qm_taped, .int qm_size, .int qm_limit, .int qm_to, .int qm_from, .int qm_kind, .int qm_number, .int qm_sign, .int qm_fault, .int qm_place, .long qm_word, .int qm_told, .ref qm_now, .ref qm_read, .ref qm_kept, .ref qm_snaps, .ref qm_aside, .ref qm_name, .ref qm_readName, .ref qm_keptName, .ref qm_isKept, .ref qm_onces, .int qm_snapMany, .ref qm_order, .ref qm_ordered, .int qm_orderMany, .int qm_orderMost, .int qm_passing, .int qm_movedWho, .int qm_scratched, .ref qm_text, .int qm_texts, .int qm_seed, .ref qm_line, .ref qm_written, .int qm_lineMany, .int qm_hasWritten, .ref qm_node, .int qm_nodes, .int qm_onesMany, .int qm_within, .int qm_top])), (qm_now, eI G 339 qm_now_c)] H locs → lv_has ls 4 [(3, .int j363), (2, .int j388), (0, .ref qm), (1, .int a1)] → W p l e (rmD 66 0 0) s m args below meth c H locs 0 0 Q (F0 m 59 ls []) := by
            intro j388  H locs ls hw hl
            obtain ⟨v391, ev391⟩ : ∃ z : Int32, j363 + 1 = z := ⟨_, rfl⟩
            have hv391 : v391.toInt = j363.toInt + 1 := by rw [← ev391]; exact i_add rfl rfl (by omega) (by omega)
            refine lv_iinc (v := v391) (lv' := [(3, .int v391), (2, .int j388), (0, .ref qm), (1, .int a1)]) C.1 C.2.1 dX11_said_59 hl (k := 0) rfl ev391 (by decide) rfl (fun ls hl => ?_)
            refine lv_goto (tgt := 21) C.1 C.2.1 dX11_said_62 (by decide) ?_
            exact ihJ365 v391 j388 (by omega) (by omega) _ _ _ hw (lv_sub hl [0, 1, 2, 3] rfl)
          rcases hp9 with ⟨rfl, rfl⟩ | ⟨rfl, rfl⟩
          · skip
            have hw : Wd G s A [(qm, .inr (10, [.int 0, .ref qm_tape, .int qm_taped, .int qm_size, .int qm_limit, .int qm_to, .int qm_from, .int qm_kind, .int qm_number, .int qm_sign, .int qm_fault, .int qm_place, .long qm_word, .int qm_told, .ref qm_now, .ref qm_read, .ref qm_kept, .ref qm_snaps, .ref qm_aside, .ref qm_name, .ref qm_readName, .ref qm_keptName, .ref qm_isKept, .ref qm_onces, .int qm_snapMany, .ref qm_order, .ref qm_ordered, .int qm_orderMany, .int qm_orderMost, .int qm_passing, .int qm_movedWho, .int qm_scratched, .ref qm_text, .int qm_texts, .int qm_seed, .ref qm_line, .ref qm_written, .int qm_lineMany, .int qm_hasWritten, .ref qm_node, .int qm_nodes, .int qm_onesMany, .int qm_within, .int qm_top])), (qm_now, eI G 339 qm_now_c)] H _ := hw
            refine lv_if_ne (tgt := 49) C.1 C.2.1 dX11_said_43 (by decide) (fun h9 => absurd (by decide) h9) (fun _ => ?_)
            refine lv_goto (tgt := 59) C.1 C.2.1 dX11_said_46 (by decide) ?_
            exact J389 j364   _ _ _ hw (lv_sub hl [0, 1, 2, 3] rfl)
          · skip
            have hw : Wd G s A [(qm, .inr (10, [.int 0, .ref qm_tape, .int qm_taped, .int qm_size, .int qm_limit, .int qm_to, .int qm_from, .int qm_kind, .int qm_number, .int qm_sign, .int qm_fault, .int qm_place, .long qm_word, .int qm_told, .ref qm_now, .ref qm_read, .ref qm_kept, .ref qm_snaps, .ref qm_aside, .ref qm_name, .ref qm_readName, .ref qm_keptName, .ref qm_isKept, .ref qm_onces, .int qm_snapMany, .ref qm_order, .ref qm_ordered, .int qm_orderMany, .int qm_orderMost, .int qm_passing, .int qm_movedWho, .int qm_scratched, .ref qm_text, .int qm_texts, .int qm_seed, .ref qm_line, .ref qm_written, .int qm_lineMany, .int qm_hasWritten, .ref qm_node, .int qm_nodes, .int qm_onesMany, .int qm_within, .int qm_top])), (qm_now, eI G 339 qm_now_c)] H _ := hw
            refine lv_if_ne (tgt := 49) C.1 C.2.1 dX11_said_43 (by decide) (fun _ => ?_) (fun h9 => absurd h9 (by decide))
            refine lv_iload_n C.1 C.2.1 dX11_said_49 rfl (lv_at hl 1 rfl) ?_
            refine lv_iload_n C.1 C.2.1 dX11_said_50 rfl (lv_at hl 3 rfl) ?_
            refine lv_icmp_ne (tgt := 56) C.1 C.2.1 dX11_said_51 (by decide) (fun c392 => ?_) (fun c392 => ?_)
            · skip
              have c392 : j364.toInt ≠ a1.toInt := i_eqF (X := j364.toInt) (Y := a1.toInt) rfl rfl c392
              have bc392_j364 := i_bd j364
              have bc392_a1 := i_bd a1
              obtain ⟨v393, ev393⟩ : ∃ z : Int32, j364 + 1 = z := ⟨_, rfl⟩
              refine lv_iinc (v := v393) (lv' := [(2, .int v393), (3, .int j363), (0, .ref qm), (1, .int a1)]) C.1 C.2.1 dX11_said_56 hl (k := 1) rfl ev393 (by decide) rfl (fun ls hl => ?_)
              exact J389 v393   _ _ _ hw (lv_sub hl [1, 0, 2, 3] rfl)
            · skip
              have c392 : j364.toInt = a1.toInt := i_eqT (X := j364.toInt) (Y := a1.toInt) rfl rfl c392
              have bc392_j364 := i_bd j364
              have bc392_a1 := i_bd a1
              refine lv_iload_n C.1 C.2.1 dX11_said_54 rfl (lv_at hl 0 rfl) ?_
              exact x_retiQ hQ B hw ⟨j363, rfl, rfl⟩ (Nat.le_of_ble_eq_true rfl) (Nat.le_of_ble_eq_true rfl) dX11_said_55
    exact loopJ365 _ 0 0 (Nat.lt_succ_self _) (by decide) _ _ _ hw (lv_sub hl [0, 1, 2, 3] rfl)
  · skip
    have c2 : v1.toInt = 0 := i_eqT (X := v1.toInt) (Y := 0) rfl rfl c2
    have bc2_v1 := i_bd v1
    refine lv_iconst (v := (-1)) C.1 C.2.1 dX11_said_15 (by decide) ?_
    exact x_retiQ hQ B hw ⟨(-1), rfl, rfl⟩ (Nat.le_of_ble_eq_true rfl) (Nat.le_of_ble_eq_true rfl) dX11_said_16
theorem dX11_sentence_0 : decode cX11_sentence 0 = .ok (.aload_n 0, 1) := by decide +kernel
theorem dX11_sentence_1 : decode cX11_sentence 1 = .ok (.sipush 200, 3) := by decide +kernel
theorem dX11_sentence_4 : decode cX11_sentence 4 = .ok (.invokevirtual 219, 3) := by decide +kernel
theorem dX11_sentence_7 : decode cX11_sentence 7 = .ok (.aload_n 0, 1) := by decide +kernel
theorem dX11_sentence_8 : decode cX11_sentence 8 = .ok (.iconst 0, 1) := by decide +kernel
theorem dX11_sentence_9 : decode cX11_sentence 9 = .ok (.putfield 394, 3) := by decide +kernel
theorem dX11_sentence_12 : decode cX11_sentence 12 = .ok (.aload_n 0, 1) := by decide +kernel
theorem dX11_sentence_13 : decode cX11_sentence 13 = .ok (.iconst 0, 1) := by decide +kernel
theorem dX11_sentence_14 : decode cX11_sentence 14 = .ok (.putfield 410, 3) := by decide +kernel
theorem dX11_sentence_17 : decode cX11_sentence 17 = .ok (.aload_n 0, 1) := by decide +kernel
theorem dX11_sentence_18 : decode cX11_sentence 18 = .ok (.iconst 0, 1) := by decide +kernel
theorem dX11_sentence_19 : decode cX11_sentence 19 = .ok (.putfield 413, 3) := by decide +kernel
theorem dX11_sentence_22 : decode cX11_sentence 22 = .ok (.aload_n 0, 1) := by decide +kernel
theorem dX11_sentence_23 : decode cX11_sentence 23 = .ok (.invokevirtual 428, 3) := by decide +kernel
theorem dX11_sentence_26 : decode cX11_sentence 26 = .ok (.ifCond .ne 10, 3) := by decide +kernel
theorem dX11_sentence_29 : decode cX11_sentence 29 = .ok (.iconst (-1), 1) := by decide +kernel
theorem dX11_sentence_30 : decode cX11_sentence 30 = .ok (.aload_n 0, 1) := by decide +kernel
theorem dX11_sentence_31 : decode cX11_sentence 31 = .ok (.getfield 69, 3) := by decide +kernel
theorem dX11_sentence_34 : decode cX11_sentence 34 = .ok (.isub, 1) := by decide +kernel
theorem dX11_sentence_35 : decode cX11_sentence 35 = .ok (.ireturn, 1) := by decide +kernel
theorem dX11_sentence_36 : decode cX11_sentence 36 = .ok (.aload_n 0, 1) := by decide +kernel
theorem dX11_sentence_37 : decode cX11_sentence 37 = .ok (.getfield 30, 3) := by decide +kernel
theorem dX11_sentence_40 : decode cX11_sentence 40 = .ok (.ifCond .eq 16, 3) := by decide +kernel
theorem dX11_sentence_56 : decode cX11_sentence 56 = .ok (.aload_n 0, 1) := by decide +kernel
theorem dX11_sentence_57 : decode cX11_sentence 57 = .ok (.getfield 98, 3) := by decide +kernel
theorem dX11_sentence_60 : decode cX11_sentence 60 = .ok (.bipush 97, 2) := by decide +kernel
theorem dX11_sentence_62 : decode cX11_sentence 62 = .ok (.iconst 1, 1) := by decide +kernel
theorem dX11_sentence_63 : decode cX11_sentence 63 = .ok (.iastore, 1) := by decide +kernel
theorem dX11_sentence_64 : decode cX11_sentence 64 = .ok (.aload_n 0, 1) := by decide +kernel
theorem dX11_sentence_65 : decode cX11_sentence 65 = .ok (.getfield 98, 3) := by decide +kernel
theorem dX11_sentence_68 : decode cX11_sentence 68 = .ok (.bipush 98, 2) := by decide +kernel
theorem dX11_sentence_70 : decode cX11_sentence 70 = .ok (.aload_n 0, 1) := by decide +kernel
theorem dX11_sentence_71 : decode cX11_sentence 71 = .ok (.getfield 400, 3) := by decide +kernel
theorem dX11_sentence_74 : decode cX11_sentence 74 = .ok (.iastore, 1) := by decide +kernel
theorem dX11_sentence_75 : decode cX11_sentence 75 = .ok (.iconst 0, 1) := by decide +kernel
theorem dX11_sentence_76 : decode cX11_sentence 76 = .ok (.istore_n 1, 1) := by decide +kernel
theorem dX11_sentence_77 : decode cX11_sentence 77 = .ok (.iload_n 1, 1) := by decide +kernel
theorem dX11_sentence_78 : decode cX11_sentence 78 = .ok (.sipush 240, 3) := by decide +kernel
theorem dX11_sentence_81 : decode cX11_sentence 81 = .ok (.if_icmp .ge 24, 3) := by decide +kernel
theorem dX11_sentence_84 : decode cX11_sentence 84 = .ok (.aload_n 0, 1) := by decide +kernel
theorem dX11_sentence_85 : decode cX11_sentence 85 = .ok (.getfield 98, 3) := by decide +kernel
theorem dX11_sentence_88 : decode cX11_sentence 88 = .ok (.bipush 99, 2) := by decide +kernel
theorem dX11_sentence_90 : decode cX11_sentence 90 = .ok (.iload_n 1, 1) := by decide +kernel
theorem dX11_sentence_91 : decode cX11_sentence 91 = .ok (.iadd, 1) := by decide +kernel
theorem dX11_sentence_92 : decode cX11_sentence 92 = .ok (.aload_n 0, 1) := by decide +kernel
theorem dX11_sentence_93 : decode cX11_sentence 93 = .ok (.getfield 151, 3) := by decide +kernel
theorem dX11_sentence_96 : decode cX11_sentence 96 = .ok (.iload_n 1, 1) := by decide +kernel
theorem dX11_sentence_97 : decode cX11_sentence 97 = .ok (.iaload, 1) := by decide +kernel
theorem dX11_sentence_98 : decode cX11_sentence 98 = .ok (.iastore, 1) := by decide +kernel
theorem dX11_sentence_99 : decode cX11_sentence 99 = .ok (.iinc 1 1, 3) := by decide +kernel
theorem dX11_sentence_102 : decode cX11_sentence 102 = .ok (.goto (-25), 3) := by decide +kernel
theorem dX11_sentence_105 : decode cX11_sentence 105 = .ok (.aload_n 0, 1) := by decide +kernel
theorem dX11_sentence_106 : decode cX11_sentence 106 = .ok (.getfield 410, 3) := by decide +kernel
theorem dX11_sentence_109 : decode cX11_sentence 109 = .ok (.ireturn, 1) := by decide +kernel
theorem dX11_sentence_43 : decode cX11_sentence 43 = .ok (.aload_n 0, 1) := by decide +kernel
theorem dX11_sentence_44 : decode cX11_sentence 44 = .ok (.iconst 1, 1) := by decide +kernel
theorem dX11_sentence_45 : decode cX11_sentence 45 = .ok (.invokevirtual 72, 3) := by decide +kernel
theorem dX11_sentence_48 : decode cX11_sentence 48 = .ok (.pop, 1) := by decide +kernel
theorem dX11_sentence_49 : decode cX11_sentence 49 = .ok (.iconst (-1), 1) := by decide +kernel
theorem dX11_sentence_50 : decode cX11_sentence 50 = .ok (.aload_n 0, 1) := by decide +kernel
theorem dX11_sentence_51 : decode cX11_sentence 51 = .ok (.getfield 69, 3) := by decide +kernel
theorem dX11_sentence_54 : decode cX11_sentence 54 = .ok (.isub, 1) := by decide +kernel
theorem dX11_sentence_55 : decode cX11_sentence 55 = .ok (.ireturn, 1) := by decide +kernel
set_option maxHeartbeats 4000000 in
set_option maxRecDepth 100000 in
theorem s_X11_sentence {l : Launch} {G : Gc} (qm : Nat) (qm_thrown : Int32) (qm_tape : Nat) (qm_taped : Int32) (qm_size : Int32) (qm_limit : Int32) (qm_to : Int32) (qm_from : Int32) (qm_kind : Int32) (qm_number : Int32) (qm_sign : Int32) (qm_fault : Int32) (qm_place : Int32) (qm_word : Int64) (qm_told : Int32) (qm_now : Nat) (qm_read : Nat) (qm_kept : Nat) (qm_snaps : Nat) (qm_aside : Nat) (qm_name : Nat) (qm_readName : Nat) (qm_keptName : Nat) (qm_isKept : Nat) (qm_onces : Nat) (qm_snapMany : Int32) (qm_order : Nat) (qm_ordered : Nat) (qm_orderMany : Int32) (qm_orderMost : Int32) (qm_passing : Int32) (qm_movedWho : Int32) (qm_scratched : Int32) (qm_text : Nat) (qm_texts : Int32) (qm_seed : Int32) (qm_line : Nat) (qm_written : Nat) (qm_lineMany : Int32) (qm_hasWritten : Int32) (qm_node : Nat) (qm_nodes : Int32) (qm_onesMany : Int32) (qm_within : Int32) (qm_top : Int32) (qm_tape_c : Nat → Int32) (qm_now_c : Nat → Int32) (qm_name_c : Nat → Int64) (qm_node_c : Nat → Int32) (hi_qm_taped : 0 ≤ qm_taped.toInt ∧ qm_taped.toInt ≤ 940) (hi_qm_to : 0 ≤ qm_to.toInt ∧ qm_to.toInt ≤ 940) (hf_qm_now_c : slI qm_now_c) (hf1_qm_now_c : trI qm_now_c) (hi_qm_snapMany : 0 ≤ qm_snapMany.toInt ∧ qm_snapMany.toInt ≤ 8) (hi_qm_orderMany : 0 ≤ qm_orderMany.toInt ∧ qm_orderMany.toInt ≤ 6) (hi_qm_texts : 0 ≤ qm_texts.toInt ∧ qm_texts.toInt ≤ 64) (hi_qm_lineMany : 0 ≤ qm_lineMany.toInt ∧ qm_lineMany.toInt ≤ 40) (hi_qm_hasWritten : 0 ≤ qm_hasWritten.toInt ∧ qm_hasWritten.toInt ≤ 1) (hf_qm_node_c : ndI qm_node_c) (hi_qm_nodes : 0 ≤ qm_nodes.toInt ∧ qm_nodes.toInt ≤ 40) (hi_qm_onesMany : 0 ≤ qm_onesMany.toInt ∧ qm_onesMany.toInt ≤ 20) (hi_qm_within : 0 ≤ qm_within.toInt ∧ qm_within.toInt ≤ 8) : Ci l yX11_sentence cX11_sentence 2 (some .int) 44 0 0 G [.ref qm] [(qm, .inr (10, [.int qm_thrown, .ref qm_tape, .int qm_taped, .int qm_size, .int qm_limit, .int qm_to, .int qm_from, .int qm_kind, .int qm_number, .int qm_sign, .int qm_fault, .int qm_place, .long qm_word, .int qm_told, .ref qm_now, .ref qm_read, .ref qm_kept, .ref qm_snaps, .ref qm_aside, .ref qm_name, .ref qm_readName, .ref qm_keptName, .ref qm_isKept, .ref qm_onces, .int qm_snapMany, .ref qm_order, .ref qm_ordered, .int qm_orderMany, .int qm_orderMost, .int qm_passing, .int qm_movedWho, .int qm_scratched, .ref qm_text, .int qm_texts, .int qm_seed, .ref qm_line, .ref qm_written, .int qm_lineMany, .int qm_hasWritten, .ref qm_node, .int qm_nodes, .int qm_onesMany, .int qm_within, .int qm_top])), (qm_tape, eI G 940 qm_tape_c), (qm_now, eI G 339 qm_now_c), (qm_name, eJ G 14 qm_name_c), (qm_node, eI G 240 qm_node_c)] (fun (r9 : Int32) (u9 : va_W) => ∃ (x0_qm_to : Int32) (x1_qm_from : Int32) (x2_qm_kind : Int32) (x3_qm_number : Int32) (x4_qm_sign : Int32) (x5_qm_fault : Int32) (x6_qm_place : Int32) (x7_qm_word : Int64) (x8_qm_told : Int32) (x9_qm_nodes : Int32) (x10_qm_onesMany : Int32) (x11_qm_within : Int32) (x12_qm_top : Int32) (x13_qm_now_c : Nat → Int32) (x14_qm_node_c : Nat → Int32) (r_x : Int32), r9 = r_x ∧ u9 = [(qm, .inr (10, [.int 0, .ref qm_tape, .int 0, .int qm_taped, .int 200, .int x0_qm_to, .int x1_qm_from, .int x2_qm_kind, .int x3_qm_number, .int x4_qm_sign, .int x5_qm_fault, .int x6_qm_place, .long x7_qm_word, .int x8_qm_told, .ref qm_now, .ref qm_read, .ref qm_kept, .ref qm_snaps, .ref qm_aside, .ref qm_name, .ref qm_readName, .ref qm_keptName, .ref qm_isKept, .ref qm_onces, .int qm_snapMany, .ref qm_order, .ref qm_ordered, .int qm_orderMany, .int qm_orderMost, .int qm_passing, .int qm_movedWho, .int qm_scratched, .ref qm_text, .int qm_texts, .int qm_seed, .ref qm_line, .ref qm_written, .int qm_lineMany, .int qm_hasWritten, .ref qm_node, .int x9_qm_nodes, .int x10_qm_onesMany, .int x11_qm_within, .int x12_qm_top])), (qm_tape, eI G 940 qm_tape_c), (qm_now, eI G 339 x13_qm_now_c), (qm_name, eJ G 14 qm_name_c), (qm_node, eI G 240 x14_qm_node_c)] ∧ (0 ≤ x0_qm_to.toInt ∧ x0_qm_to.toInt ≤ 940) ∧ (0 ≤ x9_qm_nodes.toInt ∧ x9_qm_nodes.toInt ≤ 40) ∧ (0 ≤ x10_qm_onesMany.toInt ∧ x10_qm_onesMany.toInt ≤ 20) ∧ (0 ≤ x11_qm_within.toInt ∧ x11_qm_within.toInt ≤ 8) ∧ (loW qm_now_c x13_qm_now_c) ∧ (ndI x14_qm_node_c) ∧ (slI x13_qm_now_c) ∧ (trI x13_qm_now_c)) := by
  refine Ci.ofQ (by decide) (Nat.le_of_ble_eq_true rfl) ?_
  intro p e s m below meth c ls A args Q hQ B hw hl
  have C : CallFix p m c cX11_sentence 2 s args gw "LanternStateModel" := B.1
  have hl : lv_has ls 2 [(0, .ref qm)] := hl
  refine lv_aload_n C.1 C.2.1 dX11_sentence_0 rfl (lv_at hl 0 rfl) ?_
  refine lv_sipush (v := 200) C.1 C.2.1 dX11_sentence_1 (by decide) ?_
  refine x_callvV (As := [.int 200]) (rest := []) (wr := [(qm_now, eI G 339 qm_now_c), (qm_name, eJ G 14 qm_name_c), (qm_node, eI G 240 qm_node_c)]) C hw (s_X11_begin qm 200 qm_thrown qm_tape qm_taped qm_size qm_limit qm_to qm_from qm_kind qm_number qm_sign qm_fault qm_place qm_word qm_told qm_now qm_read qm_kept qm_snaps qm_aside qm_name qm_readName qm_keptName qm_isKept qm_onces qm_snapMany qm_order qm_ordered qm_orderMany qm_orderMost qm_passing qm_movedWho qm_scratched qm_text qm_texts qm_seed qm_line qm_written qm_lineMany qm_hasWritten qm_node qm_nodes qm_onesMany qm_within qm_top qm_tape_c (by omega) (by omega)) mwX11_begin kw1331 [0, 1] [2, 3, 4] rfl rfl rfl rfl (by decide) 0 rfl rfl rfl rfl hl.1 rfl (Nat.le_of_ble_eq_true rfl) ⟨(Nat.le_of_ble_eq_true rfl), (Nat.le_of_ble_eq_true rfl)⟩ ⟨(Nat.le_of_ble_eq_true rfl), (Nat.le_of_ble_eq_true rfl)⟩ dX11_sentence_4 (fun  u9 H locs hp9 hw => ?_)
  obtain ⟨x1, x2, x3, x4, x5, x6, rfl, hf7, hf8, hf9⟩ := hp9
  have hw : Wd G s A [(qm_now, eI G 339 qm_now_c), (qm_name, eJ G 14 qm_name_c), (qm_node, eI G 240 qm_node_c), (qm, .inr (10, [.int 0, .ref qm_tape, .int 0, .int qm_taped, .int 200, .int x1, .int x2, .int x3, .int x4, .int x5, .int 0, .int qm_place, .long x6, .int qm_told, .ref qm_now, .ref qm_read, .ref qm_kept, .ref qm_snaps, .ref qm_aside, .ref qm_name, .ref qm_readName, .ref qm_keptName, .ref qm_isKept, .ref qm_onces, .int qm_snapMany, .ref qm_order, .ref qm_ordered, .int qm_orderMany, .int qm_orderMost, .int qm_passing, .int qm_movedWho, .int qm_scratched, .ref qm_text, .int qm_texts, .int qm_seed, .ref qm_line, .ref qm_written, .int qm_lineMany, .int qm_hasWritten, .ref qm_node, .int qm_nodes, .int qm_onesMany, .int qm_within, .int qm_top])), (qm_tape, eI G 940 qm_tape_c)] H _ := hw
  refine lv_aload_n C.1 C.2.1 dX11_sentence_7 rfl (lv_at hl 0 rfl) ?_
  refine lv_iconst (v := 0) C.1 C.2.1 dX11_sentence_8 (by decide) ?_
  refine x_put (w' := [(qm_now, eI G 339 qm_now_c), (qm_name, eJ G 14 qm_name_c), (qm_node, eI G 240 qm_node_c), (qm, .inr (10, [.int 0, .ref qm_tape, .int 0, .int qm_taped, .int 200, .int x1, .int x2, .int x3, .int x4, .int x5, .int 0, .int qm_place, .long x6, .int qm_told, .ref qm_now, .ref qm_read, .ref qm_kept, .ref qm_snaps, .ref qm_aside, .ref qm_name, .ref qm_readName, .ref qm_keptName, .ref qm_isKept, .ref qm_onces, .int qm_snapMany, .ref qm_order, .ref qm_ordered, .int qm_orderMany, .int qm_orderMost, .int qm_passing, .int qm_movedWho, .int qm_scratched, .ref qm_text, .int qm_texts, .int qm_seed, .ref qm_line, .ref qm_written, .int qm_lineMany, .int qm_hasWritten, .ref qm_node, .int 0, .int qm_onesMany, .int qm_within, .int qm_top])), (qm_tape, eI G 940 qm_tape_c)]) C hw iwX11 tyX11_ok nmX11 10 rfl 3 rfl 40 (by decide) kw1233 rfl rfl rfl (Nat.le_of_ble_eq_true rfl) rfl dX11_sentence_9 (fun H locs hw => ?_)
  refine lv_aload_n C.1 C.2.1 dX11_sentence_12 rfl (lv_at hl 0 rfl) ?_
  refine lv_iconst (v := 0) C.1 C.2.1 dX11_sentence_13 (by decide) ?_
  refine x_put (w' := [(qm_now, eI G 339 qm_now_c), (qm_name, eJ G 14 qm_name_c), (qm_node, eI G 240 qm_node_c), (qm, .inr (10, [.int 0, .ref qm_tape, .int 0, .int qm_taped, .int 200, .int x1, .int x2, .int x3, .int x4, .int x5, .int 0, .int qm_place, .long x6, .int qm_told, .ref qm_now, .ref qm_read, .ref qm_kept, .ref qm_snaps, .ref qm_aside, .ref qm_name, .ref qm_readName, .ref qm_keptName, .ref qm_isKept, .ref qm_onces, .int qm_snapMany, .ref qm_order, .ref qm_ordered, .int qm_orderMany, .int qm_orderMost, .int qm_passing, .int qm_movedWho, .int qm_scratched, .ref qm_text, .int qm_texts, .int qm_seed, .ref qm_line, .ref qm_written, .int qm_lineMany, .int qm_hasWritten, .ref qm_node, .int 0, .int 0, .int qm_within, .int qm_top])), (qm_tape, eI G 940 qm_tape_c)]) C hw iwX11 tyX11_ok nmX11 10 rfl 3 rfl 41 (by decide) kw1234 rfl rfl rfl (Nat.le_of_ble_eq_true rfl) rfl dX11_sentence_14 (fun H locs hw => ?_)
  refine lv_aload_n C.1 C.2.1 dX11_sentence_17 rfl (lv_at hl 0 rfl) ?_
  refine lv_iconst (v := 0) C.1 C.2.1 dX11_sentence_18 (by decide) ?_
  refine x_put (w' := [(qm_now, eI G 339 qm_now_c), (qm_name, eJ G 14 qm_name_c), (qm_node, eI G 240 qm_node_c), (qm, .inr (10, [.int 0, .ref qm_tape, .int 0, .int qm_taped, .int 200, .int x1, .int x2, .int x3, .int x4, .int x5, .int 0, .int qm_place, .long x6, .int qm_told, .ref qm_now, .ref qm_read, .ref qm_kept, .ref qm_snaps, .ref qm_aside, .ref qm_name, .ref qm_readName, .ref qm_keptName, .ref qm_isKept, .ref qm_onces, .int qm_snapMany, .ref qm_order, .ref qm_ordered, .int qm_orderMany, .int qm_orderMost, .int qm_passing, .int qm_movedWho, .int qm_scratched, .ref qm_text, .int qm_texts, .int qm_seed, .ref qm_line, .ref qm_written, .int qm_lineMany, .int qm_hasWritten, .ref qm_node, .int 0, .int 0, .int 0, .int qm_top])), (qm_tape, eI G 940 qm_tape_c)]) C hw iwX11 tyX11_ok nmX11 10 rfl 3 rfl 42 (by decide) kw1235 rfl rfl rfl (Nat.le_of_ble_eq_true rfl) rfl dX11_sentence_19 (fun H locs hw => ?_)
  refine lv_aload_n C.1 C.2.1 dX11_sentence_22 rfl (lv_at hl 0 rfl) ?_
  refine x_calliV (As := []) (rest := []) (wr := []) C hw (s_X11_readOrF qm 0 qm_tape 0 qm_taped 200 x1 x2 x3 x4 x5 0 qm_place x6 qm_told qm_now qm_read qm_kept qm_snaps qm_aside qm_name qm_readName qm_keptName qm_isKept qm_onces qm_snapMany qm_order qm_ordered qm_orderMany qm_orderMost qm_passing qm_movedWho qm_scratched qm_text qm_texts qm_seed qm_line qm_written qm_lineMany qm_hasWritten qm_node 0 0 0 qm_top qm_tape_c qm_now_c qm_name_c qm_node_c (by decide) (by omega) (by omega) hf_qm_now_c hf1_qm_now_c (by omega) (by omega) (by omega) (by omega) (by omega) hf_qm_node_c (by decide) (by decide) (by decide) (by have e0 : (0 : Int32).toInt = 0 := rfl; omega)) mwX11_readOr kw1756 [3, 4, 0, 1, 2] [] rfl rfl rfl rfl (by decide) 0 rfl rfl rfl rfl hl.1 rfl (Nat.le_of_ble_eq_true rfl) ⟨(Nat.le_of_ble_eq_true rfl), (Nat.le_of_ble_eq_true rfl)⟩ ⟨(Nat.le_of_ble_eq_true rfl), (Nat.le_of_ble_eq_true rfl)⟩ dX11_sentence_23 (fun r10 u9 H locs hp9 hw => ?_)
  rcases hp9 with ⟨x11, x12, x13, x14, x15, x16, x17, x18, x19, x20, x21, x22, x23, x24, rfl, rfl, hf25, hf26, hf27, hf28, hf29, hf30⟩ | ⟨x31, x32, x33, x34, x35, x36, x37, x38, x39, x40, x41, x42, rfl, rfl, hf43, hf44, hf45, hf46, hf47, hf48, hf49, hf50, hf51, hf52, hf53, hf54, hf55⟩
  · skip
    have hw : Wd G s A [(qm, .inr (10, [.int 0, .ref qm_tape, .int 0, .int qm_taped, .int 200, .int x11, .int x12, .int x13, .int x14, .int x15, .int x16, .int x17, .long x18, .int x19, .ref qm_now, .ref qm_read, .ref qm_kept, .ref qm_snaps, .ref qm_aside, .ref qm_name, .ref qm_readName, .ref qm_keptName, .ref qm_isKept, .ref qm_onces, .int qm_snapMany, .ref qm_order, .ref qm_ordered, .int qm_orderMany, .int qm_orderMost, .int qm_passing, .int qm_movedWho, .int qm_scratched, .ref qm_text, .int qm_texts, .int qm_seed, .ref qm_line, .ref qm_written, .int qm_lineMany, .int qm_hasWritten, .ref qm_node, .int x20, .int x21, .int x22, .int x23])), (qm_tape, eI G 940 qm_tape_c), (qm_now, eI G 339 qm_now_c), (qm_name, eJ G 14 qm_name_c), (qm_node, eI G 240 x24)] H _ := hw
    have hf30 : x22.toInt = 0 := by first | exact hf30 | (have e0 : (0 : Int32).toInt = 0 := rfl; omega)
    refine lv_if_ne (tgt := 36) C.1 C.2.1 dX11_sentence_26 (by decide) (fun h9 => absurd (by decide) h9) (fun _ => ?_)
    refine lv_iconst (v := (-1)) C.1 C.2.1 dX11_sentence_29 (by decide) ?_
    refine lv_aload_n C.1 C.2.1 dX11_sentence_30 rfl (lv_at hl 0 rfl) ?_
    refine x_get C hw iwX11 10 rfl 0 rfl 11 (by decide) kw1204 rfl dX11_sentence_31 ?_
    refine lv_isub C.1 C.2.1 dX11_sentence_34 (x_gen (fun v56 => ?_))
    exact x_retiQ hQ B hw ⟨x11, x12, x13, x14, x15, x16, x17, x18, x19, x20, x21, x22, x23, qm_now_c, x24, v56, rfl, rfl, (by omega), (by omega), (by omega), (by omega), (loW_rfl qm_now_c), hf29, hf_qm_now_c, hf1_qm_now_c⟩ (Nat.le_of_ble_eq_true rfl) (Nat.le_of_ble_eq_true rfl) dX11_sentence_35
  · skip
    have hw : Wd G s A [(qm, .inr (10, [.int 0, .ref qm_tape, .int 0, .int qm_taped, .int 200, .int x31, .int x32, .int x33, .int x34, .int x35, .int 0, .int qm_place, .long x36, .int x37, .ref qm_now, .ref qm_read, .ref qm_kept, .ref qm_snaps, .ref qm_aside, .ref qm_name, .ref qm_readName, .ref qm_keptName, .ref qm_isKept, .ref qm_onces, .int qm_snapMany, .ref qm_order, .ref qm_ordered, .int qm_orderMany, .int qm_orderMost, .int qm_passing, .int qm_movedWho, .int qm_scratched, .ref qm_text, .int qm_texts, .int qm_seed, .ref qm_line, .ref qm_written, .int qm_lineMany, .int qm_hasWritten, .ref qm_node, .int x38, .int x39, .int x40, .int x41])), (qm_tape, eI G 940 qm_tape_c), (qm_now, eI G 339 qm_now_c), (qm_name, eJ G 14 qm_name_c), (qm_node, eI G 240 x42)] H _ := hw
    have hf51 : x38.toInt ≤ 0 + 2 * (x39.toInt - 0) + -1 := by first | exact hf51 | (have e0 : (0 : Int32).toInt = 0 := rfl; omega)
    have hf53 : 0 ≤ x38.toInt := by first | exact hf53 | (have e0 : (0 : Int32).toInt = 0 := rfl; omega)
    have hf54 : 0 + 1 ≤ x39.toInt := by first | exact hf54 | (have e0 : (0 : Int32).toInt = 0 := rfl; omega)
    have hf55 : x40.toInt = 0 := by first | exact hf55 | (have e0 : (0 : Int32).toInt = 0 := rfl; omega)
    refine lv_if_ne (tgt := 36) C.1 C.2.1 dX11_sentence_26 (by decide) (fun _ => ?_) (fun h9 => absurd h9 (by decide))
    refine lv_aload_n C.1 C.2.1 dX11_sentence_36 rfl (lv_at hl 0 rfl) ?_
    refine x_get C hw iwX11 10 rfl 0 rfl 7 (by decide) kw1200 rfl dX11_sentence_37 ?_
    refine lv_if_eq (tgt := 56) C.1 C.2.1 dX11_sentence_40 (by decide) (fun c57 => ?_) (fun c57 => ?_)
    · skip
      have c57 : x33.toInt = 0 := i_eqT (X := x33.toInt) (Y := 0) rfl rfl c57
      refine lv_aload_n C.1 C.2.1 dX11_sentence_56 rfl (lv_at hl 0 rfl) ?_
      refine x_get C hw iwX11 10 rfl 0 rfl 14 (by decide) kw1207 rfl dX11_sentence_57 ?_
      refine lv_bipush (v := 97) C.1 C.2.1 dX11_sentence_60 (by decide) ?_
      refine lv_iconst (v := 1) C.1 C.2.1 dX11_sentence_62 (by decide) ?_
      obtain ⟨g58, eg58⟩ : ∃ z, upd qm_now_c 97 1 = z := ⟨_, rfl⟩
      have fs59 : slI g58 := eg58 ▸ slI_upd hf_qm_now_c (by have e0 : (1 : Int32).toInt = 1 := rfl; intro q; omega) (by have e0 : (1 : Int32).toInt = 1 := rfl; intro q; omega) (by have e0 : (1 : Int32).toInt = 1 := rfl; intro q; omega)
      have mm60 : (g58 0).toInt = (qm_now_c 0).toInt := by rw [← eg58, upd_ne (by omega)]
      have mm61 : (g58 1).toInt = (qm_now_c 1).toInt := by rw [← eg58, upd_ne (by omega)]
      have ft62 : trI g58 := eg58 ▸ trI_lo hf1_qm_now_c (by omega)
      have fw63 : loW qm_now_c g58 := eg58 ▸ loW_upd (loW_rfl qm_now_c) (by decide)
      refine x_iast (f' := g58) (w' := [(qm, .inr (10, [.int 0, .ref qm_tape, .int 0, .int qm_taped, .int 200, .int x31, .int x32, .int x33, .int x34, .int x35, .int 0, .int qm_place, .long x36, .int x37, .ref qm_now, .ref qm_read, .ref qm_kept, .ref qm_snaps, .ref qm_aside, .ref qm_name, .ref qm_readName, .ref qm_keptName, .ref qm_isKept, .ref qm_onces, .int qm_snapMany, .ref qm_order, .ref qm_ordered, .int qm_orderMany, .int qm_orderMost, .int qm_passing, .int qm_movedWho, .int qm_scratched, .ref qm_text, .int qm_texts, .int qm_seed, .ref qm_line, .ref qm_written, .int qm_lineMany, .int qm_hasWritten, .ref qm_node, .int x38, .int x39, .int x40, .int x41])), (qm_tape, eI G 940 qm_tape_c), (qm_now, eI G 339 g58), (qm_name, eJ G 14 qm_name_c), (qm_node, eI G 240 x42)]) C hw 2 rfl (x_in rfl) eg58 rfl dX11_sentence_63 (fun H locs hw => ?_)
      refine lv_aload_n C.1 C.2.1 dX11_sentence_64 rfl (lv_at hl 0 rfl) ?_
      refine x_get C hw iwX11 10 rfl 0 rfl 14 (by decide) kw1207 rfl dX11_sentence_65 ?_
      refine lv_bipush (v := 98) C.1 C.2.1 dX11_sentence_68 (by decide) ?_
      refine lv_aload_n C.1 C.2.1 dX11_sentence_70 rfl (lv_at hl 0 rfl) ?_
      refine x_get C hw iwX11 10 rfl 0 rfl 43 (by decide) kw1236 rfl dX11_sentence_71 ?_
      obtain ⟨g64, eg64⟩ : ∃ z, upd g58 98 x41 = z := ⟨_, rfl⟩
      have fs65 : slI g64 := eg64 ▸ slI_upd fs59 (by intro q; omega) (by intro q; omega) (by intro q; omega)
      have mm66 : (g64 0).toInt = (g58 0).toInt := by rw [← eg64, upd_ne (by omega)]
      have mm67 : (g64 1).toInt = (g58 1).toInt := by rw [← eg64, upd_ne (by omega)]
      have ft68 : trI g64 := eg64 ▸ trI_top ft62 (by omega)
      have fw69 : loW qm_now_c g64 := eg64 ▸ loW_upd fw63 (by decide)
      refine x_iast (f' := g64) (w' := [(qm, .inr (10, [.int 0, .ref qm_tape, .int 0, .int qm_taped, .int 200, .int x31, .int x32, .int x33, .int x34, .int x35, .int 0, .int qm_place, .long x36, .int x37, .ref qm_now, .ref qm_read, .ref qm_kept, .ref qm_snaps, .ref qm_aside, .ref qm_name, .ref qm_readName, .ref qm_keptName, .ref qm_isKept, .ref qm_onces, .int qm_snapMany, .ref qm_order, .ref qm_ordered, .int qm_orderMany, .int qm_orderMost, .int qm_passing, .int qm_movedWho, .int qm_scratched, .ref qm_text, .int qm_texts, .int qm_seed, .ref qm_line, .ref qm_written, .int qm_lineMany, .int qm_hasWritten, .ref qm_node, .int x38, .int x39, .int x40, .int x41])), (qm_tape, eI G 940 qm_tape_c), (qm_now, eI G 339 g64), (qm_name, eJ G 14 qm_name_c), (qm_node, eI G 240 x42)]) C hw 2 rfl (x_in rfl) eg64 rfl dX11_sentence_74 (fun H locs hw => ?_)
      have fc70 : cpJ 0 99 x42 g64 0 g64 := cpI_0
      refine lv_iconst (v := 0) C.1 C.2.1 dX11_sentence_75 (by decide) ?_
      refine lv_istore_n (lv' := [(1, .int 0), (0, .ref qm)]) C.1 C.2.1 dX11_sentence_76 rfl hl (by decide) rfl (fun ls hl => ?_)
      have loopJ308 : ∀ (n9 : Nat) (j306 : Int32) (j307 : Nat → Int32), (2147483647 - j306.toInt).toNat < n9 → (cpJ 0 99 x42 g64 j306 j307) → (loW qm_now_c j307) → (slI j307) → (0 ≤ j306.toInt ∧ j306.toInt ≤ 240) → ∀ (H : Heap) (locs : List Loc) (ls : Array Slot), Wd G s A [(qm, .inr (10, [.int 0, .ref qm_tape, .int 0, .int qm_taped, .int 200, .int x31, .int x32, .int x33, .int x34, .int x35, .int 0, .int qm_place, .long x36, .int x37, .ref qm_now, .ref qm_read, .ref qm_kept, .ref qm_snaps, .ref qm_aside, .ref qm_name, .ref qm_readName, .ref qm_keptName, .ref qm_isKept, .ref qm_onces, .int qm_snapMany, .ref qm_order, .ref qm_ordered, .int qm_orderMany, .int qm_orderMost, .int qm_passing, .int qm_movedWho, .int qm_scratched, .ref qm_text, .int qm_texts, .int qm_seed, .ref qm_line, .ref qm_written, .int qm_lineMany, .int qm_hasWritten, .ref qm_node, .int x38, .int x39, .int x40, .int x41])), (qm_tape, eI G 940 qm_tape_c), (qm_now, eI G 339 j307), (qm_name, eJ G 14 qm_name_c), (qm_node, eI G 240 x42)] H locs → lv_has ls 2 [(1, .int j306), (0, .ref qm)] → W p l e (rmD 44 0 0) s m args below meth c H locs 0 0 Q (F0 m 77 ls []) := by
        intro n9
        induction n9 with
        | zero => intro j306 j307 h9; exact absurd h9 (Nat.not_lt_zero _)
        | succ n9 ihJ308 =>
          intro j306 j307 h9J308 hJ308_0 hJ308_1 hJ308_2 hJ308_3 H locs ls hw hl
          have hbj306 := i_bd j306
          refine lv_iload_n C.1 C.2.1 dX11_sentence_77 rfl (lv_at hl 0 rfl) ?_
          refine lv_sipush (v := 240) C.1 C.2.1 dX11_sentence_78 (by decide) ?_
          refine lv_icmp_ge (tgt := 105) C.1 C.2.1 dX11_sentence_81 (by decide) (fun c321 => ?_) (fun c321 => ?_)
          · skip
            have c321 : 240 ≤ j306.toInt := i_leT (X := 240) (Y := j306.toInt) rfl rfl c321
            have ft322 : trI j307 := trI_cp hJ308_0 (by omega) hf50 ft68
            refine lv_aload_n C.1 C.2.1 dX11_sentence_105 rfl (lv_at hl 1 rfl) ?_
            refine x_get C hw iwX11 10 rfl 0 rfl 41 (by decide) kw1234 rfl dX11_sentence_106 ?_
            exact x_retiQ hQ B hw ⟨x31, x32, x33, x34, x35, 0, qm_place, x36, x37, x38, x39, x40, x41, j307, x42, x39, rfl, rfl, (by omega), (by omega), (by omega), (by omega), hJ308_1, hf50, hJ308_2, ft322⟩ (Nat.le_of_ble_eq_true rfl) (Nat.le_of_ble_eq_true rfl) dX11_sentence_109
          · skip
            have c321 : j306.toInt < 240 := i_leF (X := 240) (Y := j306.toInt) rfl rfl c321
            refine lv_aload_n C.1 C.2.1 dX11_sentence_84 rfl (lv_at hl 1 rfl) ?_
            refine x_get C hw iwX11 10 rfl 0 rfl 14 (by decide) kw1207 rfl dX11_sentence_85 ?_
            refine lv_bipush (v := 99) C.1 C.2.1 dX11_sentence_88 (by decide) ?_
            refine lv_iload_n C.1 C.2.1 dX11_sentence_90 rfl (lv_at hl 0 rfl) ?_
            refine lv_iadd C.1 C.2.1 dX11_sentence_91 (x_genP (fun z : Int32 => z.toInt = 99 + j306.toInt) (i_add (X := 99) (Y := j306.toInt) rfl rfl (by omega) (by omega)) (fun v323 hv323 => ?_))
            refine lv_aload_n C.1 C.2.1 dX11_sentence_92 rfl (lv_at hl 1 rfl) ?_
            refine x_get C hw iwX11 10 rfl 0 rfl 39 (by decide) kw1232 rfl dX11_sentence_93 ?_
            refine lv_iload_n C.1 C.2.1 dX11_sentence_96 rfl (lv_at hl 0 rfl) ?_
            refine x_iald (v := (x42 j306.toNatClampNeg)) C hw 4 rfl (i_in (by omega) (by omega)) rfl dX11_sentence_97 (x_genP (fun z : Int32 => x42 j306.toNatClampNeg = z) rfl (fun v324 hv324 => ?_))
            obtain ⟨g325, eg325⟩ : ∃ z, upd j307 (v323.toNatClampNeg) v324 = z := ⟨_, rfl⟩
            have mm326 := i_cn v323
            have fs327 : slI g325 := eg325 ▸ slI_upd hJ308_2 (by intro q; omega) (by intro q; omega) (by intro q; omega)
            have fw328 : loW qm_now_c g325 := eg325 ▸ loW_upd hJ308_1 (by rw [i_cn]; omega)
            refine x_iast (f' := g325) (w' := [(qm, .inr (10, [.int 0, .ref qm_tape, .int 0, .int qm_taped, .int 200, .int x31, .int x32, .int x33, .int x34, .int x35, .int 0, .int qm_place, .long x36, .int x37, .ref qm_now, .ref qm_read, .ref qm_kept, .ref qm_snaps, .ref qm_aside, .ref qm_name, .ref qm_readName, .ref qm_keptName, .ref qm_isKept, .ref qm_onces, .int qm_snapMany, .ref qm_order, .ref qm_ordered, .int qm_orderMany, .int qm_orderMost, .int qm_passing, .int qm_movedWho, .int qm_scratched, .ref qm_text, .int qm_texts, .int qm_seed, .ref qm_line, .ref qm_written, .int qm_lineMany, .int qm_hasWritten, .ref qm_node, .int x38, .int x39, .int x40, .int x41])), (qm_tape, eI G 940 qm_tape_c), (qm_now, eI G 339 g325), (qm_name, eJ G 14 qm_name_c), (qm_node, eI G 240 x42)]) C hw 2 rfl (i_in (by omega) (by omega)) eg325 rfl dX11_sentence_98 (fun H locs hw => ?_)
            obtain ⟨v329, ev329⟩ : ∃ z : Int32, j306 + 1 = z := ⟨_, rfl⟩
            have hv329 : v329.toInt = j306.toInt + 1 := by rw [← ev329]; exact i_add rfl rfl (by omega) (by omega)
            refine lv_iinc (v := v329) (lv' := [(1, .int v329), (0, .ref qm)]) C.1 C.2.1 dX11_sentence_99 hl (k := 0) rfl ev329 (by decide) rfl (fun ls hl => ?_)
            refine lv_goto (tgt := 77) C.1 C.2.1 dX11_sentence_102 (by decide) ?_
            have fc330 : cpJ 0 99 x42 g64 v329 g325 := by rw [← eg325]; exact cpI_s hJ308_0 (by omega) (by omega) (by have q := i_cn j306; omega) (by have q := i_cn v323; omega) hv324
            exact ihJ308 v329 g325 (by omega) fc330 fw328 fs327 (by omega) _ _ _ hw (lv_sub hl [0, 1] rfl)
      exact loopJ308 _ 0 g64 (Nat.lt_succ_self _) fc70 fw69 fs65 (by decide) _ _ _ hw (lv_sub hl [0, 1] rfl)
    · skip
      have c57 : x33.toInt ≠ 0 := i_eqF (X := x33.toInt) (Y := 0) rfl rfl c57
      refine lv_aload_n C.1 C.2.1 dX11_sentence_43 rfl (lv_at hl 0 rfl) ?_
      refine lv_iconst (v := 1) C.1 C.2.1 dX11_sentence_44 (by decide) ?_
      refine x_calliV (As := [.int 1]) (rest := []) (wr := [(qm_tape, eI G 940 qm_tape_c), (qm_now, eI G 339 qm_now_c), (qm_name, eJ G 14 qm_name_c), (qm_node, eI G 240 x42)]) C hw (s_X11_bad qm 1 0 qm_tape 0 qm_taped 200 x31 x32 x33 x34 x35 0 qm_place x36 x37 qm_now qm_read qm_kept qm_snaps qm_aside qm_name qm_readName qm_keptName qm_isKept qm_onces qm_snapMany qm_order qm_ordered qm_orderMany qm_orderMost qm_passing qm_movedWho qm_scratched qm_text qm_texts qm_seed qm_line qm_written qm_lineMany qm_hasWritten qm_node x38 x39 x40 x41) mwX11_bad kw1377 [0] [1, 2, 3, 4] rfl rfl rfl rfl (by decide) 0 rfl rfl rfl rfl hl.1 rfl (Nat.le_of_ble_eq_true rfl) ⟨(Nat.le_of_ble_eq_true rfl), (Nat.le_of_ble_eq_true rfl)⟩ ⟨(Nat.le_of_ble_eq_true rfl), (Nat.le_of_ble_eq_true rfl)⟩ dX11_sentence_45 (fun r331 u9 H locs hp9 hw => ?_)
      obtain ⟨x332, rfl, rfl⟩ := hp9
      have hw : Wd G s A [(qm_tape, eI G 940 qm_tape_c), (qm_now, eI G 339 qm_now_c), (qm_name, eJ G 14 qm_name_c), (qm_node, eI G 240 x42), (qm, .inr (10, [.int 0, .ref qm_tape, .int 0, .int qm_taped, .int 200, .int x31, .int x32, .int x33, .int x34, .int x35, .int x332, .int x32, .long x36, .int x37, .ref qm_now, .ref qm_read, .ref qm_kept, .ref qm_snaps, .ref qm_aside, .ref qm_name, .ref qm_readName, .ref qm_keptName, .ref qm_isKept, .ref qm_onces, .int qm_snapMany, .ref qm_order, .ref qm_ordered, .int qm_orderMany, .int qm_orderMost, .int qm_passing, .int qm_movedWho, .int qm_scratched, .ref qm_text, .int qm_texts, .int qm_seed, .ref qm_line, .ref qm_written, .int qm_lineMany, .int qm_hasWritten, .ref qm_node, .int x38, .int x39, .int x40, .int x41]))] H _ := hw
      refine lv_pop C.1 C.2.1 dX11_sentence_48 rfl ?_
      refine lv_iconst (v := (-1)) C.1 C.2.1 dX11_sentence_49 (by decide) ?_
      refine lv_aload_n C.1 C.2.1 dX11_sentence_50 rfl (lv_at hl 0 rfl) ?_
      refine x_get C hw iwX11 10 rfl 4 rfl 11 (by decide) kw1204 rfl dX11_sentence_51 ?_
      have bb333 := i_bd x32
      refine lv_isub C.1 C.2.1 dX11_sentence_54 (x_genP (fun z : Int32 => z.toInt = (-1) - x32.toInt) (i_sub (X := (-1)) (Y := x32.toInt) rfl rfl (by omega) (by omega)) (fun v334 hv334 => ?_))
      have hw := hw.sub (w' := [(qm, .inr (10, [.int 0, .ref qm_tape, .int 0, .int qm_taped, .int 200, .int x31, .int x32, .int x33, .int x34, .int x35, .int x332, .int x32, .long x36, .int x37, .ref qm_now, .ref qm_read, .ref qm_kept, .ref qm_snaps, .ref qm_aside, .ref qm_name, .ref qm_readName, .ref qm_keptName, .ref qm_isKept, .ref qm_onces, .int qm_snapMany, .ref qm_order, .ref qm_ordered, .int qm_orderMany, .int qm_orderMost, .int qm_passing, .int qm_movedWho, .int qm_scratched, .ref qm_text, .int qm_texts, .int qm_seed, .ref qm_line, .ref qm_written, .int qm_lineMany, .int qm_hasWritten, .ref qm_node, .int x38, .int x39, .int x40, .int x41])), (qm_tape, eI G 940 qm_tape_c), (qm_now, eI G 339 qm_now_c), (qm_name, eJ G 14 qm_name_c), (qm_node, eI G 240 x42)]) [4, 0, 1, 2, 3] rfl rfl
      exact x_retiQ hQ B hw ⟨x31, x32, x33, x34, x35, x332, x32, x36, x37, x38, x39, x40, x41, qm_now_c, x42, v334, rfl, rfl, (by omega), (by omega), (by omega), (by omega), (loW_rfl qm_now_c), hf50, hf_qm_now_c, hf1_qm_now_c⟩ (Nat.le_of_ble_eq_true rfl) (Nat.le_of_ble_eq_true rfl) dX11_sentence_55
