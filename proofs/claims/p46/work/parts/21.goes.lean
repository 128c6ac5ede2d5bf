theorem d_Law_goes_0 : decode b_Law_goes 0 = .ok (.aload_n 0, 1) := by decide +kernel
theorem d_Law_goes_1 : decode b_Law_goes 1 = .ok (.iconst 0, 1) := by decide +kernel
theorem d_Law_goes_2 : decode b_Law_goes 2 = .ok (.iaload, 1) := by decide +kernel
theorem d_Law_goes_3 : decode b_Law_goes 3 = .ok (.istore 6, 2) := by decide +kernel
theorem d_Law_goes_5 : decode b_Law_goes 5 = .ok (.aload_n 0, 1) := by decide +kernel
theorem wm_770 : Cond.methodLink "ThresholdRowLaw" 66 ⟨"[I", "clone", "()Ljava/lang/Object;"⟩ ∈ gT := gT_m (List.mem_of_getElem? (i := 770) (by decide +kernel)) (by decide +kernel)
theorem wm_771 : Cond.sameMethod "[I" "java/lang/Object" "clone" "()Ljava/lang/Object;" ∈ gT := gT_m (List.mem_of_getElem? (i := 771) (by decide +kernel)) (by decide +kernel)
theorem wm_772 : Cond.native ⟨"java/lang/Object", "clone", "()Ljava/lang/Object;"⟩ ∈ gT := gT_m (List.mem_of_getElem? (i := 772) (by decide +kernel)) (by decide +kernel)
theorem wm_773 : Cond.instanceMethod ⟨"java/lang/Object", "clone", "()Ljava/lang/Object;"⟩ ∈ gT := gT_m (List.mem_of_getElem? (i := 773) (by decide +kernel)) (by decide +kernel)
theorem wm_774 : Cond.selects "[I" ⟨"[I", "clone", "()Ljava/lang/Object;"⟩ ⟨"java/lang/Object", "clone", "()Ljava/lang/Object;"⟩ ∈ gT := gT_m (List.mem_of_getElem? (i := 774) (by decide +kernel)) (by decide +kernel)
theorem wq_775 : Cond.castable "[I" "java/lang/Cloneable" ∈ lw_tbl := List.mem_of_getElem? (i := 775) (by decide +kernel)
theorem d_Law_goes_6 : decode b_Law_goes 6 = .ok (.invokevirtual 66, 3) := by decide +kernel
theorem wm_776 : Cond.classLink "ThresholdRowLaw" 67 "[I" ∈ gT := gT_m (List.mem_of_getElem? (i := 776) (by decide +kernel)) (by decide +kernel)
theorem d_Law_goes_9 : decode b_Law_goes 9 = .ok (.checkcast 67, 3) := by decide +kernel
theorem d_Law_goes_12 : decode b_Law_goes 12 = .ok (.astore 7, 2) := by decide +kernel
theorem d_Law_goes_14 : decode b_Law_goes 14 = .ok (.iload 6, 2) := by decide +kernel
theorem d_Law_goes_16 : decode b_Law_goes 16 = .ok (.newarray .int, 2) := by decide +kernel
theorem d_Law_goes_18 : decode b_Law_goes 18 = .ok (.astore 8, 2) := by decide +kernel
theorem d_Law_goes_20 : decode b_Law_goes 20 = .ok (.iconst 1, 1) := by decide +kernel
theorem d_Law_goes_21 : decode b_Law_goes 21 = .ok (.istore 9, 2) := by decide +kernel
theorem d_Law_goes_386 : decode b_Law_goes 386 = .ok (.iload 9, 2) := by decide +kernel
theorem d_Law_goes_388 : decode b_Law_goes 388 = .ok (.ifCond .ge 7, 3) := by decide +kernel
theorem d_Law_goes_395 : decode b_Law_goes 395 = .ok (.iconst 0, 1) := by decide +kernel
theorem d_Law_goes_396 : decode b_Law_goes 396 = .ok (.ireturn, 1) := by decide +kernel
theorem d_Law_goes_391 : decode b_Law_goes 391 = .ok (.iconst 1, 1) := by decide +kernel
theorem d_Law_goes_392 : decode b_Law_goes 392 = .ok (.goto 4, 3) := by decide +kernel
theorem d_Law_goes_337 : decode b_Law_goes 337 = .ok (.iconst 1, 1) := by decide +kernel
theorem d_Law_goes_338 : decode b_Law_goes 338 = .ok (.istore 10, 2) := by decide +kernel
theorem d_Law_goes_340 : decode b_Law_goes 340 = .ok (.iload 10, 2) := by decide +kernel
theorem d_Law_goes_342 : decode b_Law_goes 342 = .ok (.iload 6, 2) := by decide +kernel
theorem d_Law_goes_344 : decode b_Law_goes 344 = .ok (.if_icmp .gt 42, 3) := by decide +kernel
theorem d_Law_goes_347 : decode b_Law_goes 347 = .ok (.aload_n 3, 1) := by decide +kernel
theorem d_Law_goes_348 : decode b_Law_goes 348 = .ok (.aload 7, 2) := by decide +kernel
theorem d_Law_goes_350 : decode b_Law_goes 350 = .ok (.iload 10, 2) := by decide +kernel
theorem d_Law_goes_352 : decode b_Law_goes 352 = .ok (.iaload, 1) := by decide +kernel
theorem d_Law_goes_353 : decode b_Law_goes 353 = .ok (.aload_n 3, 1) := by decide +kernel
theorem d_Law_goes_354 : decode b_Law_goes 354 = .ok (.aload 7, 2) := by decide +kernel
theorem d_Law_goes_356 : decode b_Law_goes 356 = .ok (.iload 10, 2) := by decide +kernel
theorem d_Law_goes_358 : decode b_Law_goes 358 = .ok (.iaload, 1) := by decide +kernel
theorem d_Law_goes_359 : decode b_Law_goes 359 = .ok (.iaload, 1) := by decide +kernel
theorem d_Law_goes_360 : decode b_Law_goes 360 = .ok (.bipush 97, 2) := by decide +kernel
theorem d_Law_goes_362 : decode b_Law_goes 362 = .ok (.if_icmp .le 8, 3) := by decide +kernel
theorem d_Law_goes_370 : decode b_Law_goes 370 = .ok (.aload_n 3, 1) := by decide +kernel
theorem d_Law_goes_371 : decode b_Law_goes 371 = .ok (.aload 7, 2) := by decide +kernel
theorem d_Law_goes_373 : decode b_Law_goes 373 = .ok (.iload 10, 2) := by decide +kernel
theorem d_Law_goes_375 : decode b_Law_goes 375 = .ok (.iaload, 1) := by decide +kernel
theorem d_Law_goes_376 : decode b_Law_goes 376 = .ok (.iaload, 1) := by decide +kernel
theorem d_Law_goes_377 : decode b_Law_goes 377 = .ok (.iconst 2, 1) := by decide +kernel
theorem d_Law_goes_378 : decode b_Law_goes 378 = .ok (.iadd, 1) := by decide +kernel
theorem d_Law_goes_379 : decode b_Law_goes 379 = .ok (.iastore, 1) := by decide +kernel
theorem d_Law_goes_380 : decode b_Law_goes 380 = .ok (.iinc 10 1, 3) := by decide +kernel
theorem d_Law_goes_383 : decode b_Law_goes 383 = .ok (.goto (-43), 3) := by decide +kernel
theorem d_Law_goes_365 : decode b_Law_goes 365 = .ok (.bipush 100, 2) := by decide +kernel
theorem d_Law_goes_367 : decode b_Law_goes 367 = .ok (.goto 12, 3) := by decide +kernel
theorem d_Law_goes_278 : decode b_Law_goes 278 = .ok (.iload 9, 2) := by decide +kernel
theorem d_Law_goes_280 : decode b_Law_goes 280 = .ok (.ifCond .lt 57, 3) := by decide +kernel
theorem d_Law_goes_283 : decode b_Law_goes 283 = .ok (.aload 5, 2) := by decide +kernel
theorem d_Law_goes_285 : decode b_Law_goes 285 = .ok (.iload 9, 2) := by decide +kernel
theorem d_Law_goes_287 : decode b_Law_goes 287 = .ok (.dup2, 1) := by decide +kernel
theorem d_Law_goes_288 : decode b_Law_goes 288 = .ok (.iaload, 1) := by decide +kernel
theorem d_Law_goes_289 : decode b_Law_goes 289 = .ok (.iconst 1, 1) := by decide +kernel
theorem d_Law_goes_290 : decode b_Law_goes 290 = .ok (.iadd, 1) := by decide +kernel
theorem d_Law_goes_291 : decode b_Law_goes 291 = .ok (.iastore, 1) := by decide +kernel
theorem d_Law_goes_292 : decode b_Law_goes 292 = .ok (.iconst 1, 1) := by decide +kernel
theorem d_Law_goes_293 : decode b_Law_goes 293 = .ok (.istore 10, 2) := by decide +kernel
theorem d_Law_goes_295 : decode b_Law_goes 295 = .ok (.iload 10, 2) := by decide +kernel
theorem d_Law_goes_297 : decode b_Law_goes 297 = .ok (.iload 6, 2) := by decide +kernel
theorem d_Law_goes_299 : decode b_Law_goes 299 = .ok (.if_icmp .gt 16, 3) := by decide +kernel
theorem d_Law_goes_315 : decode b_Law_goes 315 = .ok (.aload_n 3, 1) := by decide +kernel
theorem d_Law_goes_316 : decode b_Law_goes 316 = .ok (.iload 9, 2) := by decide +kernel
theorem d_Law_goes_318 : decode b_Law_goes 318 = .ok (.iaload, 1) := by decide +kernel
theorem d_Law_goes_319 : decode b_Law_goes 319 = .ok (.bipush 50, 2) := by decide +kernel
theorem d_Law_goes_321 : decode b_Law_goes 321 = .ok (.if_icmp .lt 16, 3) := by decide +kernel
theorem d_Law_goes_324 : decode b_Law_goes 324 = .ok (.aload 4, 2) := by decide +kernel
theorem d_Law_goes_326 : decode b_Law_goes 326 = .ok (.iload 9, 2) := by decide +kernel
theorem d_Law_goes_328 : decode b_Law_goes 328 = .ok (.bipush 7, 2) := by decide +kernel
theorem d_Law_goes_330 : decode b_Law_goes 330 = .ok (.iastore, 1) := by decide +kernel
theorem d_Law_goes_331 : decode b_Law_goes 331 = .ok (.aload_n 0, 1) := by decide +kernel
theorem d_Law_goes_332 : decode b_Law_goes 332 = .ok (.iload 9, 2) := by decide +kernel
theorem wm_782 : Cond.code ⟨"ThresholdRowLaw", "leaves", "([II)V"⟩ method_17_code 4 none ∈ gT := gT_m (List.mem_of_getElem? (i := 782) (by decide +kernel)) (by decide +kernel)
theorem wm_780 : Cond.methodLink "ThresholdRowLaw" 75 ⟨"ThresholdRowLaw", "leaves", "([II)V"⟩ ∈ gT := gT_m (List.mem_of_getElem? (i := 780) (by decide +kernel)) (by decide +kernel)
theorem d_Law_goes_334 : decode b_Law_goes 334 = .ok (.invokestatic 75, 3) := by decide +kernel
theorem wm_781 : Cond.static ⟨"ThresholdRowLaw", "leaves", "([II)V"⟩ ∈ gT := gT_m (List.mem_of_getElem? (i := 781) (by decide +kernel)) (by decide +kernel)
theorem d_Law_goes_302 : decode b_Law_goes 302 = .ok (.aload_n 2, 1) := by decide +kernel
theorem d_Law_goes_303 : decode b_Law_goes 303 = .ok (.aload_n 0, 1) := by decide +kernel
theorem d_Law_goes_304 : decode b_Law_goes 304 = .ok (.iload 10, 2) := by decide +kernel
theorem d_Law_goes_306 : decode b_Law_goes 306 = .ok (.iaload, 1) := by decide +kernel
theorem d_Law_goes_307 : decode b_Law_goes 307 = .ok (.iconst 0, 1) := by decide +kernel
theorem d_Law_goes_308 : decode b_Law_goes 308 = .ok (.iastore, 1) := by decide +kernel
theorem d_Law_goes_309 : decode b_Law_goes 309 = .ok (.iinc 10 1, 3) := by decide +kernel
theorem d_Law_goes_312 : decode b_Law_goes 312 = .ok (.goto (-17), 3) := by decide +kernel
theorem d_Law_goes_150 : decode b_Law_goes 150 = .ok (.iconst (-1), 1) := by decide +kernel
theorem d_Law_goes_151 : decode b_Law_goes 151 = .ok (.istore 9, 2) := by decide +kernel
theorem d_Law_goes_153 : decode b_Law_goes 153 = .ok (.iconst 1, 1) := by decide +kernel
theorem d_Law_goes_154 : decode b_Law_goes 154 = .ok (.istore 10, 2) := by decide +kernel
theorem d_Law_goes_156 : decode b_Law_goes 156 = .ok (.iload 10, 2) := by decide +kernel
theorem d_Law_goes_158 : decode b_Law_goes 158 = .ok (.iload 6, 2) := by decide +kernel
theorem d_Law_goes_160 : decode b_Law_goes 160 = .ok (.if_icmp .gt 118, 3) := by decide +kernel
theorem d_Law_goes_163 : decode b_Law_goes 163 = .ok (.iload 9, 2) := by decide +kernel
theorem d_Law_goes_165 : decode b_Law_goes 165 = .ok (.ifCond .ge 113, 3) := by decide +kernel
theorem d_Law_goes_168 : decode b_Law_goes 168 = .ok (.aload_n 0, 1) := by decide +kernel
theorem d_Law_goes_169 : decode b_Law_goes 169 = .ok (.iload 10, 2) := by decide +kernel
theorem d_Law_goes_171 : decode b_Law_goes 171 = .ok (.iaload, 1) := by decide +kernel
theorem d_Law_goes_172 : decode b_Law_goes 172 = .ok (.istore 11, 2) := by decide +kernel
theorem d_Law_goes_174 : decode b_Law_goes 174 = .ok (.aload_n 0, 1) := by decide +kernel
theorem d_Law_goes_175 : decode b_Law_goes 175 = .ok (.iload 10, 2) := by decide +kernel
theorem d_Law_goes_177 : decode b_Law_goes 177 = .ok (.iload 6, 2) := by decide +kernel
theorem d_Law_goes_179 : decode b_Law_goes 179 = .ok (.if_icmp .ne 7, 3) := by decide +kernel
theorem d_Law_goes_182 : decode b_Law_goes 182 = .ok (.iconst 1, 1) := by decide +kernel
theorem d_Law_goes_183 : decode b_Law_goes 183 = .ok (.goto 7, 3) := by decide +kernel
theorem d_Law_goes_190 : decode b_Law_goes 190 = .ok (.iaload, 1) := by decide +kernel
theorem d_Law_goes_191 : decode b_Law_goes 191 = .ok (.istore 12, 2) := by decide +kernel
theorem d_Law_goes_193 : decode b_Law_goes 193 = .ok (.bipush 60, 2) := by decide +kernel
theorem d_Law_goes_195 : decode b_Law_goes 195 = .ok (.iload 10, 2) := by decide +kernel
theorem d_Law_goes_197 : decode b_Law_goes 197 = .ok (.iconst 1, 1) := by decide +kernel
theorem d_Law_goes_198 : decode b_Law_goes 198 = .ok (.isub, 1) := by decide +kernel
theorem d_Law_goes_199 : decode b_Law_goes 199 = .ok (.imul, 1) := by decide +kernel
theorem d_Law_goes_200 : decode b_Law_goes 200 = .ok (.iload 6, 2) := by decide +kernel
theorem d_Law_goes_202 : decode b_Law_goes 202 = .ok (.idiv, 1) := by decide +kernel
theorem d_Law_goes_203 : decode b_Law_goes 203 = .ok (.aload_n 2, 1) := by decide +kernel
theorem d_Law_goes_204 : decode b_Law_goes 204 = .ok (.iload 11, 2) := by decide +kernel
theorem d_Law_goes_206 : decode b_Law_goes 206 = .ok (.iaload, 1) := by decide +kernel
theorem d_Law_goes_207 : decode b_Law_goes 207 = .ok (.iadd, 1) := by decide +kernel
theorem d_Law_goes_208 : decode b_Law_goes 208 = .ok (.istore 13, 2) := by decide +kernel
theorem d_Law_goes_210 : decode b_Law_goes 210 = .ok (.iload 10, 2) := by decide +kernel
theorem d_Law_goes_212 : decode b_Law_goes 212 = .ok (.iload 6, 2) := by decide +kernel
theorem d_Law_goes_214 : decode b_Law_goes 214 = .ok (.if_icmp .ne 8, 3) := by decide +kernel
theorem d_Law_goes_217 : decode b_Law_goes 217 = .ok (.bipush 60, 2) := by decide +kernel
theorem d_Law_goes_219 : decode b_Law_goes 219 = .ok (.goto 11, 3) := by decide +kernel
theorem d_Law_goes_230 : decode b_Law_goes 230 = .ok (.aload_n 2, 1) := by decide +kernel
theorem d_Law_goes_231 : decode b_Law_goes 231 = .ok (.iload 12, 2) := by decide +kernel
theorem d_Law_goes_233 : decode b_Law_goes 233 = .ok (.iaload, 1) := by decide +kernel
theorem d_Law_goes_234 : decode b_Law_goes 234 = .ok (.iadd, 1) := by decide +kernel
theorem d_Law_goes_235 : decode b_Law_goes 235 = .ok (.istore 14, 2) := by decide +kernel
theorem d_Law_goes_237 : decode b_Law_goes 237 = .ok (.iload 14, 2) := by decide +kernel
theorem d_Law_goes_239 : decode b_Law_goes 239 = .ok (.iload 13, 2) := by decide +kernel
theorem d_Law_goes_241 : decode b_Law_goes 241 = .ok (.iconst 4, 1) := by decide +kernel
theorem d_Law_goes_242 : decode b_Law_goes 242 = .ok (.iadd, 1) := by decide +kernel
theorem d_Law_goes_243 : decode b_Law_goes 243 = .ok (.if_icmp .ge 29, 3) := by decide +kernel
theorem d_Law_goes_272 : decode b_Law_goes 272 = .ok (.iinc 10 1, 3) := by decide +kernel
theorem d_Law_goes_275 : decode b_Law_goes 275 = .ok (.goto (-119), 3) := by decide +kernel
theorem d_Law_goes_246 : decode b_Law_goes 246 = .ok (.aload_n 2, 1) := by decide +kernel
theorem d_Law_goes_247 : decode b_Law_goes 247 = .ok (.iload 11, 2) := by decide +kernel
theorem d_Law_goes_249 : decode b_Law_goes 249 = .ok (.iaload, 1) := by decide +kernel
theorem wm_779 : Cond.code ⟨"ThresholdRowLaw", "amount", "(I)I"⟩ method_15_code 1 (some .int) ∈ gT := gT_m (List.mem_of_getElem? (i := 779) (by decide +kernel)) (by decide +kernel)
theorem wm_777 : Cond.methodLink "ThresholdRowLaw" 72 ⟨"ThresholdRowLaw", "amount", "(I)I"⟩ ∈ gT := gT_m (List.mem_of_getElem? (i := 777) (by decide +kernel)) (by decide +kernel)
theorem d_Law_goes_250 : decode b_Law_goes 250 = .ok (.invokestatic 72, 3) := by decide +kernel
theorem wm_778 : Cond.static ⟨"ThresholdRowLaw", "amount", "(I)I"⟩ ∈ gT := gT_m (List.mem_of_getElem? (i := 778) (by decide +kernel)) (by decide +kernel)
theorem d_Law_goes_253 : decode b_Law_goes 253 = .ok (.aload_n 2, 1) := by decide +kernel
theorem d_Law_goes_254 : decode b_Law_goes 254 = .ok (.iload 12, 2) := by decide +kernel
theorem d_Law_goes_256 : decode b_Law_goes 256 = .ok (.iaload, 1) := by decide +kernel
theorem d_Law_goes_257 : decode b_Law_goes 257 = .ok (.invokestatic 72, 3) := by decide +kernel
theorem d_Law_goes_260 : decode b_Law_goes 260 = .ok (.if_icmp .le 8, 3) := by decide +kernel
theorem d_Law_goes_268 : decode b_Law_goes 268 = .ok (.iload 12, 2) := by decide +kernel
theorem d_Law_goes_270 : decode b_Law_goes 270 = .ok (.istore 9, 2) := by decide +kernel
theorem d_Law_goes_263 : decode b_Law_goes 263 = .ok (.iload 11, 2) := by decide +kernel
theorem d_Law_goes_265 : decode b_Law_goes 265 = .ok (.goto 5, 3) := by decide +kernel
theorem d_Law_goes_186 : decode b_Law_goes 186 = .ok (.iload 10, 2) := by decide +kernel
theorem d_Law_goes_188 : decode b_Law_goes 188 = .ok (.iconst 1, 1) := by decide +kernel
theorem d_Law_goes_189 : decode b_Law_goes 189 = .ok (.iadd, 1) := by decide +kernel
theorem d_Law_goes_222 : decode b_Law_goes 222 = .ok (.bipush 60, 2) := by decide +kernel
theorem d_Law_goes_224 : decode b_Law_goes 224 = .ok (.iload 10, 2) := by decide +kernel
theorem d_Law_goes_226 : decode b_Law_goes 226 = .ok (.imul, 1) := by decide +kernel
theorem d_Law_goes_227 : decode b_Law_goes 227 = .ok (.iload 6, 2) := by decide +kernel
theorem d_Law_goes_229 : decode b_Law_goes 229 = .ok (.idiv, 1) := by decide +kernel
theorem d_Law_goes_121 : decode b_Law_goes 121 = .ok (.iconst 1, 1) := by decide +kernel
theorem d_Law_goes_122 : decode b_Law_goes 122 = .ok (.istore 9, 2) := by decide +kernel
theorem d_Law_goes_124 : decode b_Law_goes 124 = .ok (.iload 9, 2) := by decide +kernel
theorem d_Law_goes_126 : decode b_Law_goes 126 = .ok (.iload 6, 2) := by decide +kernel
theorem d_Law_goes_128 : decode b_Law_goes 128 = .ok (.if_icmp .gt 22, 3) := by decide +kernel
theorem d_Law_goes_131 : decode b_Law_goes 131 = .ok (.aload_n 2, 1) := by decide +kernel
theorem d_Law_goes_132 : decode b_Law_goes 132 = .ok (.aload_n 0, 1) := by decide +kernel
theorem d_Law_goes_133 : decode b_Law_goes 133 = .ok (.iload 9, 2) := by decide +kernel
theorem d_Law_goes_135 : decode b_Law_goes 135 = .ok (.iaload, 1) := by decide +kernel
theorem d_Law_goes_136 : decode b_Law_goes 136 = .ok (.aload 8, 2) := by decide +kernel
theorem d_Law_goes_138 : decode b_Law_goes 138 = .ok (.iload 9, 2) := by decide +kernel
theorem d_Law_goes_140 : decode b_Law_goes 140 = .ok (.iconst 1, 1) := by decide +kernel
theorem d_Law_goes_141 : decode b_Law_goes 141 = .ok (.isub, 1) := by decide +kernel
theorem d_Law_goes_142 : decode b_Law_goes 142 = .ok (.iaload, 1) := by decide +kernel
theorem d_Law_goes_143 : decode b_Law_goes 143 = .ok (.iastore, 1) := by decide +kernel
theorem d_Law_goes_144 : decode b_Law_goes 144 = .ok (.iinc 9 1, 3) := by decide +kernel
theorem d_Law_goes_147 : decode b_Law_goes 147 = .ok (.goto (-23), 3) := by decide +kernel
theorem d_Law_goes_23 : decode b_Law_goes 23 = .ok (.iload 9, 2) := by decide +kernel
theorem d_Law_goes_25 : decode b_Law_goes 25 = .ok (.iload 6, 2) := by decide +kernel
theorem d_Law_goes_27 : decode b_Law_goes 27 = .ok (.if_icmp .gt 94, 3) := by decide +kernel
theorem d_Law_goes_30 : decode b_Law_goes 30 = .ok (.aload_n 0, 1) := by decide +kernel
theorem d_Law_goes_31 : decode b_Law_goes 31 = .ok (.iload 9, 2) := by decide +kernel
theorem d_Law_goes_33 : decode b_Law_goes 33 = .ok (.iaload, 1) := by decide +kernel
theorem d_Law_goes_34 : decode b_Law_goes 34 = .ok (.istore 10, 2) := by decide +kernel
theorem d_Law_goes_36 : decode b_Law_goes 36 = .ok (.aload_n 0, 1) := by decide +kernel
theorem d_Law_goes_37 : decode b_Law_goes 37 = .ok (.iload 9, 2) := by decide +kernel
theorem d_Law_goes_39 : decode b_Law_goes 39 = .ok (.iconst 1, 1) := by decide +kernel
theorem d_Law_goes_53 : decode b_Law_goes 53 = .ok (.istore 11, 2) := by decide +kernel
theorem d_Law_goes_55 : decode b_Law_goes 55 = .ok (.aload 8, 2) := by decide +kernel
theorem d_Law_goes_57 : decode b_Law_goes 57 = .ok (.iload 9, 2) := by decide +kernel
theorem d_Law_goes_59 : decode b_Law_goes 59 = .ok (.iconst 1, 1) := by decide +kernel
theorem d_Law_goes_60 : decode b_Law_goes 60 = .ok (.isub, 1) := by decide +kernel
theorem d_Law_goes_61 : decode b_Law_goes 61 = .ok (.aload_n 2, 1) := by decide +kernel
theorem d_Law_goes_62 : decode b_Law_goes 62 = .ok (.iload 10, 2) := by decide +kernel
theorem d_Law_goes_64 : decode b_Law_goes 64 = .ok (.iaload, 1) := by decide +kernel
theorem d_Law_goes_65 : decode b_Law_goes 65 = .ok (.aload_n 2, 1) := by decide +kernel
theorem d_Law_goes_66 : decode b_Law_goes 66 = .ok (.iload 11, 2) := by decide +kernel
theorem d_Law_goes_68 : decode b_Law_goes 68 = .ok (.iaload, 1) := by decide +kernel
theorem d_Law_goes_69 : decode b_Law_goes 69 = .ok (.iadd, 1) := by decide +kernel
theorem d_Law_goes_70 : decode b_Law_goes 70 = .ok (.iconst 2, 1) := by decide +kernel
theorem d_Law_goes_71 : decode b_Law_goes 71 = .ok (.idiv, 1) := by decide +kernel
theorem d_Law_goes_72 : decode b_Law_goes 72 = .ok (.aload_n 1, 1) := by decide +kernel
theorem d_Law_goes_73 : decode b_Law_goes 73 = .ok (.iload 10, 2) := by decide +kernel
theorem d_Law_goes_75 : decode b_Law_goes 75 = .ok (.iaload, 1) := by decide +kernel
theorem d_Law_goes_76 : decode b_Law_goes 76 = .ok (.iadd, 1) := by decide +kernel
theorem d_Law_goes_77 : decode b_Law_goes 77 = .ok (.aload_n 1, 1) := by decide +kernel
theorem d_Law_goes_78 : decode b_Law_goes 78 = .ok (.iload 10, 2) := by decide +kernel
theorem d_Law_goes_80 : decode b_Law_goes 80 = .ok (.iaload, 1) := by decide +kernel
theorem d_Law_goes_81 : decode b_Law_goes 81 = .ok (.ifCond .le 13, 3) := by decide +kernel
theorem d_Law_goes_94 : decode b_Law_goes 94 = .ok (.aload_n 1, 1) := by decide +kernel
theorem d_Law_goes_95 : decode b_Law_goes 95 = .ok (.iload 10, 2) := by decide +kernel
theorem d_Law_goes_97 : decode b_Law_goes 97 = .ok (.iaload, 1) := by decide +kernel
theorem d_Law_goes_98 : decode b_Law_goes 98 = .ok (.ifCond .ge 14, 3) := by decide +kernel
theorem d_Law_goes_112 : decode b_Law_goes 112 = .ok (.iconst 0, 1) := by decide +kernel
theorem d_Law_goes_113 : decode b_Law_goes 113 = .ok (.iadd, 1) := by decide +kernel
theorem d_Law_goes_114 : decode b_Law_goes 114 = .ok (.iastore, 1) := by decide +kernel
theorem d_Law_goes_115 : decode b_Law_goes 115 = .ok (.iinc 9 1, 3) := by decide +kernel
theorem d_Law_goes_118 : decode b_Law_goes 118 = .ok (.goto (-95), 3) := by decide +kernel
theorem d_Law_goes_101 : decode b_Law_goes 101 = .ok (.aload_n 3, 1) := by decide +kernel
theorem d_Law_goes_102 : decode b_Law_goes 102 = .ok (.iload 10, 2) := by decide +kernel
theorem d_Law_goes_104 : decode b_Law_goes 104 = .ok (.iaload, 1) := by decide +kernel
theorem d_Law_goes_105 : decode b_Law_goes 105 = .ok (.bipush 20, 2) := by decide +kernel
theorem d_Law_goes_107 : decode b_Law_goes 107 = .ok (.idiv, 1) := by decide +kernel
theorem d_Law_goes_108 : decode b_Law_goes 108 = .ok (.ineg, 1) := by decide +kernel
theorem d_Law_goes_109 : decode b_Law_goes 109 = .ok (.goto 4, 3) := by decide +kernel
theorem d_Law_goes_84 : decode b_Law_goes 84 = .ok (.aload_n 3, 1) := by decide +kernel
theorem d_Law_goes_85 : decode b_Law_goes 85 = .ok (.iload 10, 2) := by decide +kernel
theorem d_Law_goes_87 : decode b_Law_goes 87 = .ok (.iaload, 1) := by decide +kernel
theorem d_Law_goes_88 : decode b_Law_goes 88 = .ok (.bipush 20, 2) := by decide +kernel
theorem d_Law_goes_90 : decode b_Law_goes 90 = .ok (.idiv, 1) := by decide +kernel
theorem d_Law_goes_91 : decode b_Law_goes 91 = .ok (.goto 22, 3) := by decide +kernel
theorem d_Law_goes_40 : decode b_Law_goes 40 = .ok (.if_icmp .ne 8, 3) := by decide +kernel
theorem d_Law_goes_43 : decode b_Law_goes 43 = .ok (.iload 6, 2) := by decide +kernel
theorem d_Law_goes_45 : decode b_Law_goes 45 = .ok (.goto 7, 3) := by decide +kernel
theorem d_Law_goes_52 : decode b_Law_goes 52 = .ok (.iaload, 1) := by decide +kernel
theorem d_Law_goes_48 : decode b_Law_goes 48 = .ok (.iload 9, 2) := by decide +kernel
theorem d_Law_goes_50 : decode b_Law_goes 50 = .ok (.iconst 1, 1) := by decide +kernel
theorem d_Law_goes_51 : decode b_Law_goes 51 = .ok (.isub, 1) := by decide +kernel
set_option maxHeartbeats 4000000 in
set_option maxRecDepth 100000 in
theorem c_Law_goes (l : Launch) (E : Nat) (D : va_G) (cI cO cZ : ClassId) (z0 : Nat) (M : gM) {A : Nat → Nat} {n B mm : Nat} {ord : Nat → Nat} {v : Nat → gH} (har : gw_ar cI M A n (mm + 1, ord, v)) (hiv : p_iv n B (mm + 1, ord, v)) (hB : B ≤ 100000) (hn : n < 1000) (hm : 1 ≤ mm) : Met l y_Law_goes (Cond.code y_Law_goes b_Law_goes 15 (some .boolean) :: gT) ({ frames := 1, cells := 2, slots := 16, locals := 23 }) (gw_Pc E D cI cO cZ z0 M [.ref (A 5), .ref (A 0), .ref (A 1), .ref (A 2), .ref (A 3), .ref (A 4)]) (gw_Qi E D (fun r M' => gw_gp cI M A n (mm + 1, ord, v) r M')) 2 16 (gw_A E) := by
  refine gw_ofW (cc := b_Law_goes) (maxL := 15) (ret := (some .boolean)) (by decide) rfl (Nat.le_of_ble_eq_true rfl) ?_
  intro p e s m args below meth c hx hb hr hml hts hown hlk hnm hF hG ls hl
  have hT : ∀ w ∈ gT, w.before args s = true := fun w h => hts w (List.mem_cons_of_mem _ h)
  have hK := hF.1
  have hl : lv_has ls 15 [(0, .ref (A 5)), (1, .ref (A 0)), (2, .ref (A 1)), (3, .ref (A 2)), (4, .ref (A 3)), (5, .ref (A 4))] := hl
  obtain ⟨hA, fb, fe, ff, fu, fl, fg, h6, hrp⟩ := har
  obtain ⟨r0, r1, r2, r3, r4, r5, r6⟩ := id hrp
  obtain ⟨h5, hord, hoi, hok, hmu⟩ := hiv
  have h5 : mm + 1 ≤ 5 := h5
  have hord : ∀ p, p < mm + 1 → ord p < n := hord
  have hoi : ∀ p q, p < mm + 1 → q < mm + 1 → ord p = ord q → p = q := hoi
  have r5 : fg 0 = nI (mm + 1) := r5
  have r6 : ∀ p, p < mm + 1 → fg (p + 1) = nI (ord p) := r6
  have r0 : ∀ i, i < n → fb i = (v i).2.1 := r0
  have r1 : ∀ i, i < n → fe i = (v i).2.2.2.2.2 := r1
  have r2 : ∀ i, i < n → ff i = (v i).2.2.1 := r2
  have r3 : ∀ i, i < n → fu i = (v i).2.2.2.1 := r3
  have r4 : ∀ i, i < n → fl i = (v i).2.2.2.2.1 := r4
  have hw : ∀ p, p < mm + 1 → p_ok B (v (ord p)) := fun p hp => hok _ (hord p hp)
  refine lv_aload_n hx hb d_Law_goes_0 rfl (lv_at hl 0 rfl) ?_
  refine lv_iconst (v := 0) hx hb d_Law_goes_1 (by decide) ?_
  refine gw_iald hx hb hK hG (h6.2.2.2.2.2) (vp_in_nI (n := 0) (by omega) (by decide)) d_Law_goes_2 ?_
  rw [show fg (0 : Int32).toNatClampNeg = nI (mm + 1) from r5]
  refine lv_istore (lv' := [(6, .int (nI (mm + 1))), (0, .ref (A 5)), (1, .ref (A 0)), (2, .ref (A 1)), (3, .ref (A 2)), (4, .ref (A 3)), (5, .ref (A 4))]) hx hb d_Law_goes_3 hl (by decide) rfl (fun ls hl => ?_)
  refine lv_aload_n hx hb d_Law_goes_5 rfl (lv_at hl 1 rfl) ?_
  refine gw_clone hx hb (hml.trans hl.1.symm) hown (hT _ wm_770) (hT _ wm_771) (hT _ wm_772) (hT _ wm_773) (hT _ wm_774) (gW_m hF.2.2.2.2.2.2 wq_775 rfl) hF hG h6.2.2.2.2.2 (Nat.le_of_ble_eq_true rfl) (Nat.le_of_ble_eq_true rfl) (Nat.le_of_ble_eq_true rfl) (Nat.le_of_ble_eq_true rfl) d_Law_goes_6 (fun qs H hqs hG => ?_)
  have hAs := h6.apart hqs
  obtain ⟨M1, e_M1⟩ : ∃ Y_ : gM, Y_ = gw_up M qs (.inl (cI, 8, .inl fg)) := ⟨_, rfl⟩
  replace hG := gw_nm e_M1 hG
  have h61 : gw_a6 cI M1 A n fb fe ff fu fl fg := by rw [e_M1]; exact h6.miss hAs
  have hs1 : M1 qs = some (.inl (cI, 8, .inl fg)) := by rw [e_M1]; exact gw_hit
  have hfr1 : gw_fr M M1 := by rw [e_M1]; exact gw_fr.rf.new hqs
  refine gw_castI hx hb hown (hT _ wm_776) hF hG hs1 d_Law_goes_9 ?_
  refine lv_astore (lv' := [(7, .ref qs), (6, .int (nI (mm + 1))), (0, .ref (A 5)), (1, .ref (A 0)), (2, .ref (A 1)), (3, .ref (A 2)), (4, .ref (A 3)), (5, .ref (A 4))]) hx hb d_Law_goes_12 hl (by decide) rfl (fun ls hl => ?_)
  refine lv_iload hx hb d_Law_goes_14 (lv_at hl 1 rfl) ?_
  refine gw_newI (N := mm + 1) hx hb (hT _ wm_173) hK hF.2.1 hG (nI_pos (by omega)) (nI_clamp (by omega)) (by omega) (Nat.le_of_ble_eq_true rfl) (show 0 + 8 + (mm + 1) ≤ 16 by omega) d_Law_goes_16 (fun qt H hqt hG => ?_)
  have hAt := h61.apart hqt
  have hst0 : qs ≠ qt := gw_neF hqt hs1
  obtain ⟨M2, e_M2⟩ : ∃ Y_ : gM, Y_ = gw_up M1 qt (.inl (cI, mm + 1, .inl (fun _ => 0))) := ⟨_, rfl⟩
  replace hG := gw_nm e_M2 hG
  have h62 : gw_a6 cI M2 A n fb fe ff fu fl fg := by rw [e_M2]; exact h61.miss hAt
  have hs2 : M2 qs = some (.inl (cI, 8, .inl fg)) := by rw [e_M2]; exact (gw_miss hst0).trans hs1
  have hfr2 : gw_fr M M2 := by rw [e_M2]; exact hfr1.new hqt
  have ht2 : M2 qt = some (.inl (cI, mm + 1, .inl (fun _ => 0))) := by rw [e_M2]; exact gw_hit
  refine W.widen (k := 2) (n := 16) (by omega) (by omega) ?_
  refine lv_astore (lv' := [(8, .ref qt), (7, .ref qs), (6, .int (nI (mm + 1))), (0, .ref (A 5)), (1, .ref (A 0)), (2, .ref (A 1)), (3, .ref (A 2)), (4, .ref (A 3)), (5, .ref (A 4))]) hx hb d_Law_goes_18 hl (by decide) rfl (fun ls hl => ?_)
  refine lv_iconst (v := 1) hx hb d_Law_goes_20 (by decide) ?_
  refine lv_istore (lv' := [(9, .int 1), (8, .ref qt), (7, .ref qs), (6, .int (nI (mm + 1))), (0, .ref (A 5)), (1, .ref (A 0)), (2, .ref (A 1)), (3, .ref (A 2)), (4, .ref (A 3)), (5, .ref (A 4))]) hx hb d_Law_goes_21 hl (by decide) rfl (fun ls hl => ?_)
  obtain ⟨v1, hv1⟩ : ∃ z, z = p_lean (mm + 1) (fun p => v (ord p)) := ⟨_, rfl⟩
  have hv1b : ∀ p, p < mm + 1 → -((B + 8 : Nat) : Int) ≤ (v1 p).2.2.2.2.2.toInt ∧ (v1 p).2.2.2.2.2.toInt ≤ ((B + 8 : Nat) : Int) := fun p hp => by rw [hv1]; exact p_lean_b (w := fun p => v (ord p)) hB hw hp
  have hR : p_rnd (mm + 1, ord, v) = p_rn mm ord v := rfl
  have hAsn : ∀ {k : Nat}, k < 6 → qs ≠ A k := fun h => (hAs _ h).symm
  have hAtn : ∀ {k : Nat}, k < 6 → qt ≠ A k := fun h => (hAt _ h).symm
  have K386 : ∀ (Y : gM) (lz rr : Int32) (H : Heap) (locs : List Loc) (ls : Array Slot), ((0 ≤ lz → rr = 0) ∧ (¬ 0 ≤ lz → rr = 1)) → gw_gp cI M A n (mm + 1, ord, v) rr Y → gw_H E D Y s H locs → lv_has ls 15 [(9, .int lz)] → W p l e ({ frames := 1, cells := 2, slots := 16, locals := 23 } : Room) s m args below meth c H locs 2 16 (MQ below (gw_Qi E D (fun r M' => gw_gp cI M A n (mm + 1, ord, v) r M')) args s 2 16 (gw_A E)) (F0 m 386 ls []) := by
    intro Y lz rr H locs ls hz hp hG hl
    refine lv_iload hx hb d_Law_goes_386 (lv_at hl 0 rfl) ?_
    refine lv_if_ge (tgt := 395) hx hb d_Law_goes_388 (by decide) (fun c_388 => ?_) (fun c_388 => ?_)
    · skip
      refine lv_iconst (v := 0) hx hb d_Law_goes_395 (by decide) ?_
      exact gw_zret (v := 0) hx hb hr hlk hG rfl (by rw [hz.1 c_388] at hp; exact hp) (by omega) (by omega) d_Law_goes_396
    · skip
      refine lv_iconst (v := 1) hx hb d_Law_goes_391 (by decide) ?_
      refine lv_goto (tgt := 396) hx hb d_Law_goes_392 (by decide) ?_
      exact gw_zret (v := 1) hx hb hr hlk hG rfl (by rw [hz.2 c_388] at hp; exact hp) (by omega) (by omega) d_Law_goes_396
  have K337 : ∀ (Y : gM) (lz rr : Int32) (fe' fu' fl' fg' : Nat → Int32) (H : Heap) (locs : List Loc) (ls : Array Slot), gw_a6 cI Y A n fb fe' ff fu' fl' fg' → Y qs = some (.inl (cI, 8, .inl fg)) → gw_fr M Y → ((0 ≤ lz → rr = 0) ∧ (¬ 0 ≤ lz → rr = 1)) → (∀ ff' : Nat → Int32, (∀ p, p < mm + 1 → ff' (ord p) = (p_tire (v (ord p))).2.2.1) → (∀ i, (∀ p, p < mm + 1 → ord p ≠ i) → ff' i = ff i) → rr = (p_rnd (mm + 1, ord, v)).1 ∧ gw_rp n (p_rnd (mm + 1, ord, v)).2 fb fe' ff' fu' fl' fg') → gw_H E D Y s H locs → lv_has ls 15 [(0, .ref (A 5)), (1, .ref (A 0)), (2, .ref (A 1)), (3, .ref (A 2)), (4, .ref (A 3)), (5, .ref (A 4)), (6, .int (nI (mm + 1))), (7, .ref qs), (9, .int lz)] → W p l e ({ frames := 1, cells := 2, slots := 16, locals := 23 } : Room) s m args below meth c H locs 2 16 (MQ below (gw_Qi E D (fun r M' => gw_gp cI M A n (mm + 1, ord, v) r M')) args s 2 16 (gw_A E)) (F0 m 337 ls []) := by
    intro Y lz rr fe' fu' fl' fg' H locs ls hY6 hYs hYf hz hfin hG hl
    refine lv_iconst (v := 1) hx hb d_Law_goes_337 (by decide) ?_
    refine lv_istore (lv' := [(10, .int 1), (0, .ref (A 5)), (1, .ref (A 0)), (2, .ref (A 1)), (3, .ref (A 2)), (4, .ref (A 3)), (5, .ref (A 4)), (6, .int (nI (mm + 1))), (7, .ref qs), (9, .int lz)]) hx hb d_Law_goes_338 hl (by decide) rfl (fun ls hl => ?_)
    have loop5 : ∀ (d p2 : Nat), p2 + d = mm + 1 → ∀ (X : gM) (H : Heap) (locs : List Loc) (ls : Array Slot), (∃ fX : Nat → Int32, X = gw_up Y (A 2) (.inl (cI, n, .inl fX)) ∧ (∀ p, p < p2 → fX (ord p) = (p_tire (v (ord p))).2.2.1) ∧ ∀ i, (∀ p, p < p2 → ord p ≠ i) → fX i = ff i) → gw_H E D X s H locs → lv_has ls 15 [(0, .ref (A 5)), (1, .ref (A 0)), (2, .ref (A 1)), (3, .ref (A 2)), (4, .ref (A 3)), (5, .ref (A 4)), (6, .int (nI (mm + 1))), (7, .ref qs), (9, .int lz), (10, .int (nI (p2 + 1)))] → W p l e ({ frames := 1, cells := 2, slots := 16, locals := 23 } : Room) s m args below meth c H locs 2 16 (MQ below (gw_Qi E D (fun r M' => gw_gp cI M A n (mm + 1, ord, v) r M')) args s 2 16 (gw_A E)) (F0 m 340 ls []) := by
      intro d
      induction d with
      | zero =>
        intro p2 hi X H locs ls hI hG hl
        obtain ⟨fX, hX, hXa, hXb⟩ := hI
        have h6X : gw_a6 cI X A n fb fe' fX fu' fl' fg' := by rw [hX]; exact hY6.s2 hA
        have hsX : X qs = some (.inl (cI, 8, .inl fg)) := by rw [hX]; exact (gw_miss (hAsn (by decide))).trans hYs
        refine lv_iload hx hb d_Law_goes_340 (lv_at hl 9 rfl) ?_
        refine lv_iload hx hb d_Law_goes_342 (lv_at hl 6 rfl) ?_
        refine lv_icmp_gt (tgt := 386) hx hb d_Law_goes_344 (by decide) (fun c_344 => ?_) (fun z_ => absurd (nI_lt (by omega) (by omega)) z_)
        have hpm : p2 = mm + 1 := by omega
        obtain ⟨hf1, hf2⟩ := hfin fX (fun p hp => hXa p (by omega)) (fun i hi2 => hXb i (fun p hp => hi2 p (by omega)))
        exact K386 X lz rr _ _ _ hz ⟨hf1, ⟨hA, _, _, _, _, _, _, h6X, hf2⟩, by rw [hX]; exact hYf.up hY6.2.2.1 gw_isI.mk⟩ hG (lv_sub hl [8] rfl)
      | succ d ih =>
        intro p2 hi X H locs ls hI hG hl
        obtain ⟨fX, hX, hXa, hXb⟩ := hI
        have h6X : gw_a6 cI X A n fb fe' fX fu' fl' fg' := by rw [hX]; exact hY6.s2 hA
        have hsX : X qs = some (.inl (cI, 8, .inl fg)) := by rw [hX]; exact (gw_miss (hAsn (by decide))).trans hYs
        refine lv_iload hx hb d_Law_goes_340 (lv_at hl 9 rfl) ?_
        refine lv_iload hx hb d_Law_goes_342 (lv_at hl 6 rfl) ?_
        refine lv_icmp_gt (tgt := 386) hx hb d_Law_goes_344 (by decide) (fun z_ => absurd z_ (nI_nlt (by omega) (by omega))) (fun c_344 => ?_)
        have ho2 := hord p2 (by omega)
        have eqs := r6 p2 (by omega)
        obtain ⟨f, hf, ef, et⟩ := p_tire_f (hw p2 (by omega))
        have eff : fX (ord p2) = nI f := ((u_old hoi (by omega) hXb).trans (r2 _ ho2)).trans ef
        have etv := p_tire_v hf
        refine lv_aload_n hx hb d_Law_goes_347 rfl (lv_at hl 3 rfl) ?_
        refine lv_aload hx hb d_Law_goes_348 (lv_at hl 7 rfl) ?_
        refine lv_iload hx hb d_Law_goes_350 (lv_at hl 9 rfl) ?_
        refine gw_iald hx hb hK hG (hsX) (vp_in_nI (by omega) (by omega)) d_Law_goes_352 ?_
        rw [nI_clamp (n := p2 + 1) (by omega), eqs]
        refine lv_aload_n hx hb d_Law_goes_353 rfl (lv_at hl 3 rfl) ?_
        refine lv_aload hx hb d_Law_goes_354 (lv_at hl 7 rfl) ?_
        refine lv_iload hx hb d_Law_goes_356 (lv_at hl 9 rfl) ?_
        refine gw_iald hx hb hK hG (hsX) (vp_in_nI (by omega) (by omega)) d_Law_goes_358 ?_
        rw [nI_clamp (n := p2 + 1) (by omega), eqs]
        refine gw_iald hx hb hK hG (h6X.2.2.1) (vp_in_nI (by omega) (by omega)) d_Law_goes_359 ?_
        rw [nI_clamp (n := ord p2) (by omega), eff]
        refine lv_bipush (v := 97) hx hb d_Law_goes_360 (by decide) ?_
        refine lv_icmp_le (tgt := 370) hx hb d_Law_goes_362 (by decide) (fun c_362 => ?_) (fun c_362 => ?_)
        · skip
          refine lv_aload_n hx hb d_Law_goes_370 rfl (lv_at hl 3 rfl) ?_
          refine lv_aload hx hb d_Law_goes_371 (lv_at hl 7 rfl) ?_
          refine lv_iload hx hb d_Law_goes_373 (lv_at hl 9 rfl) ?_
          refine gw_iald hx hb hK hG (hsX) (vp_in_nI (by omega) (by omega)) d_Law_goes_375 ?_
          rw [nI_clamp (n := p2 + 1) (by omega), eqs]
          refine gw_iald hx hb hK hG (h6X.2.2.1) (vp_in_nI (by omega) (by omega)) d_Law_goes_376 ?_
          rw [nI_clamp (n := ord p2) (by omega), eff]
          refine lv_iconst (v := 2) hx hb d_Law_goes_377 (by decide) ?_
          refine lv_iadd hx hb d_Law_goes_378 ?_
          have hval : nI f + 2 = (p_tire (v (ord p2))).2.2.1 := by rw [et]; exact etv.2.2 (Int32.not_lt.mpr c_362)
          refine gw_iast hx hb hK hG h6X.2.2.1 (vp_in_nI (by omega) (by omega)) d_Law_goes_379 (fun H locs hG => ?_)
          rw [nI_clamp (n := ord p2) (by omega)] at hG
          refine lv_iinc (v := nI (p2 + 2)) (lv' := [(10, .int (nI (p2 + 2))), (0, .ref (A 5)), (1, .ref (A 0)), (2, .ref (A 1)), (3, .ref (A 2)), (4, .ref (A 3)), (5, .ref (A 4)), (6, .int (nI (mm + 1))), (7, .ref qs), (9, .int lz)]) hx hb d_Law_goes_380 hl (k := 9) rfl (nI_succ (p2 + 1)).symm (by decide) rfl (fun ls hl => ?_)
          refine lv_goto (tgt := 340) hx hb d_Law_goes_383 (by decide) ?_
          obtain ⟨q1, q2⟩ := u_step (val := fun p => (p_tire (v (ord p))).2.2.1) hoi (by omega) hXa hXb hval
          exact ih (p2 + 1) (by omega) _ _ _ _ ⟨_, by rw [hX, gw_twice], q1, q2⟩ hG (lv_sub hl [1, 2, 3, 4, 5, 6, 7, 8, 9, 0] rfl)
        · skip
          refine lv_bipush (v := 100) hx hb d_Law_goes_365 (by decide) ?_
          refine lv_goto (tgt := 379) hx hb d_Law_goes_367 (by decide) ?_
          have hval : (100 : Int32) = (p_tire (v (ord p2))).2.2.1 := by rw [et]; exact etv.2.1 (Int32.not_le.mp c_362)
          refine gw_iast hx hb hK hG h6X.2.2.1 (vp_in_nI (by omega) (by omega)) d_Law_goes_379 (fun H locs hG => ?_)
          rw [nI_clamp (n := ord p2) (by omega)] at hG
          refine lv_iinc (v := nI (p2 + 2)) (lv' := [(10, .int (nI (p2 + 2))), (0, .ref (A 5)), (1, .ref (A 0)), (2, .ref (A 1)), (3, .ref (A 2)), (4, .ref (A 3)), (5, .ref (A 4)), (6, .int (nI (mm + 1))), (7, .ref qs), (9, .int lz)]) hx hb d_Law_goes_380 hl (k := 9) rfl (nI_succ (p2 + 1)).symm (by decide) rfl (fun ls hl => ?_)
          refine lv_goto (tgt := 340) hx hb d_Law_goes_383 (by decide) ?_
          obtain ⟨q1, q2⟩ := u_step (val := fun p => (p_tire (v (ord p))).2.2.1) hoi (by omega) hXa hXb hval
          exact ih (p2 + 1) (by omega) _ _ _ _ ⟨_, by rw [hX, gw_twice], q1, q2⟩ hG (lv_sub hl [1, 2, 3, 4, 5, 6, 7, 8, 9, 0] rfl)
    exact loop5 _ _ (Nat.zero_add (mm + 1)) Y _ _ _ ⟨ff, (gw_same hY6.2.2.1).symm, fun p hp => absurd hp (Nat.not_lt_zero p), fun _ _ => rfl⟩ hG (lv_sub hl [1, 2, 3, 4, 5, 6, 7, 8, 9, 0] rfl)
  have K278n : ∀ (Y : gM) (fE : Nat → Int32) (H : Heap) (locs : List Loc) (ls : Array Slot), gw_a6 cI Y A n fb fE ff fu fl fg → Y qs = some (.inl (cI, 8, .inl fg)) → gw_fr M Y → (∀ p, p < mm + 1 → fE (ord p) = (v1 p).2.2.2.2.2) → (∀ i, (∀ p, p < mm + 1 → ord p ≠ i) → fE i = fe i) → p_los mm v1 mm 0 = none → gw_H E D Y s H locs → lv_has ls 15 [(0, .ref (A 5)), (1, .ref (A 0)), (2, .ref (A 1)), (3, .ref (A 2)), (4, .ref (A 3)), (5, .ref (A 4)), (6, .int (nI (mm + 1))), (7, .ref qs), (9, .int (-1))] → W p l e ({ frames := 1, cells := 2, slots := 16, locals := 23 } : Room) s m args below meth c H locs 2 16 (MQ below (gw_Qi E D (fun r M' => gw_gp cI M A n (mm + 1, ord, v) r M')) args s 2 16 (gw_A E)) (F0 m 278 ls []) := by
    intro Y fE H locs ls hY6 hYs hYf hE1 hE2 hlo hG hl
    refine lv_iload hx hb d_Law_goes_278 (lv_at hl 8 rfl) ?_
    refine lv_if_lt (tgt := 337) hx hb d_Law_goes_280 (by decide) (fun c_280 => ?_) (fun z_ => absurd (by decide) z_)
    have e1 : p_rn mm ord v = (1, mm + 1, ord, p_put (mm + 1) ord (p_held mm (fun p => v (ord p))) v) := by unfold p_rn; rw [← hv1, hlo]
    refine K337 Y (-1) 1 fE fu fl fg _ _ _ hY6 hYs hYf ⟨fun z => absurd z (by decide), fun _ => rfl⟩ (fun ff' g1 g2 => ?_) hG (lv_sub hl [0, 1, 2, 3, 4, 5, 6, 7, 8] rfl)
    rw [hR, e1]
    refine ⟨rfl, hrp.fin (u := p_held mm (fun p => v (ord p))) hoi (fun p hp => ⟨rfl, ?_, g1 p hp, r3 _ (hord p hp), r4 _ (hord p hp)⟩) (fun i hi hno => ⟨hE2 i hno, g2 i hno, rfl, rfl⟩) r5 r6⟩
    rw [hE1 p hp, hv1]
    rfl
  have K278s : ∀ (Y : gM) (fE : Nat → Int32) (j : Nat) (H : Heap) (locs : List Loc) (ls : Array Slot), gw_a6 cI Y A n fb fE ff fu fl fg → Y qs = some (.inl (cI, 8, .inl fg)) → gw_fr M Y → (∀ p, p < mm + 1 → fE (ord p) = (v1 p).2.2.2.2.2) → (∀ i, (∀ p, p < mm + 1 → ord p ≠ i) → fE i = fe i) → p_los mm v1 mm 0 = some j → gw_H E D Y s H locs → lv_has ls 15 [(0, .ref (A 5)), (1, .ref (A 0)), (2, .ref (A 1)), (3, .ref (A 2)), (4, .ref (A 3)), (5, .ref (A 4)), (6, .int (nI (mm + 1))), (7, .ref qs), (9, .int (nI (ord j)))] → W p l e ({ frames := 1, cells := 2, slots := 16, locals := 23 } : Room) s m args below meth c H locs 2 16 (MQ below (gw_Qi E D (fun r M' => gw_gp cI M A n (mm + 1, ord, v) r M')) args s 2 16 (gw_A E)) (F0 m 278 ls []) := by
    intro Y fE j H locs ls hY6 hYs hYf hE1 hE2 hlo hG hl
    have hj : j < mm + 1 := Nat.lt_succ_of_le (p_los_le mm 0 (Nat.zero_add mm) hlo)
    have hoj := hord j hj
    have elj := r4 _ hoj
    have h0j : ∀ rr : Int32, rr = 0 → (0 ≤ nI (ord j) → rr = 0) ∧ (¬ 0 ≤ nI (ord j) → rr = 1) := fun rr h => ⟨fun _ => h, fun z => absurd (nI_pos' (by omega)) z⟩
    refine lv_iload hx hb d_Law_goes_278 (lv_at hl 8 rfl) ?_
    refine lv_if_lt (tgt := 337) hx hb d_Law_goes_280 (by decide) (fun z_ => absurd z_ (nI_pos (by omega))) (fun c_280 => ?_)
    refine lv_aload hx hb d_Law_goes_283 (lv_at hl 5 rfl) ?_
    refine lv_iload hx hb d_Law_goes_285 (lv_at hl 8 rfl) ?_
    refine lv_dup2_11 hx hb d_Law_goes_287 rfl rfl ?_
    refine gw_iald hx hb hK hG (hY6.2.2.2.2.1) (vp_in_nI (by omega) (by omega)) d_Law_goes_288 ?_
    rw [nI_clamp (n := ord j) (by omega), elj]
    refine lv_iconst (v := 1) hx hb d_Law_goes_289 (by decide) ?_
    refine lv_iadd hx hb d_Law_goes_290 ?_
    refine gw_iast hx hb hK hG hY6.2.2.2.2.1 (vp_in_nI (by omega) (by omega)) d_Law_goes_291 (fun H locs hG => ?_)
    rw [nI_clamp (n := ord j) (by omega)] at hG
    obtain ⟨fl2, hfl2⟩ : ∃ z, z = upd fl (ord j) ((v (ord j)).2.2.2.2.1 + 1) := ⟨_, rfl⟩
    rw [← hfl2] at hG
    obtain ⟨Y1, hY1⟩ : ∃ z : gM, z = gw_up Y (A 4) (.inl (cI, n, .inl fl2)) := ⟨_, rfl⟩
    replace hG := gw_nm hY1 hG
    have hY16 : gw_a6 cI Y1 A n fb fE ff fu fl2 fg := by rw [hY1]; exact hY6.s4 hA
    have hY1s : Y1 qs = some (.inl (cI, 8, .inl fg)) := by rw [hY1]; exact (gw_miss (hAsn (by decide))).trans hYs
    have hY1f : gw_fr M Y1 := by rw [hY1]; exact hYf.up hY6.2.2.2.2.1 gw_isI.mk
    refine lv_iconst (v := 1) hx hb d_Law_goes_292 (by decide) ?_
    refine lv_istore (lv' := [(10, .int 1), (0, .ref (A 5)), (1, .ref (A 0)), (2, .ref (A 1)), (3, .ref (A 2)), (4, .ref (A 3)), (5, .ref (A 4)), (6, .int (nI (mm + 1))), (7, .ref qs), (9, .int (nI (ord j)))]) hx hb d_Law_goes_293 hl (by decide) rfl (fun ls hl => ?_)
    have loop4 : ∀ (d p2 : Nat), p2 + d = mm + 1 → ∀ (X : gM) (H : Heap) (locs : List Loc) (ls : Array Slot), (∃ fX : Nat → Int32, X = gw_up Y1 (A 1) (.inl (cI, n, .inl fX)) ∧ (∀ p, p < p2 → fX (ord p) = 0) ∧ ∀ i, (∀ p, p < p2 → ord p ≠ i) → fX i = fE i) → gw_H E D X s H locs → lv_has ls 15 [(0, .ref (A 5)), (1, .ref (A 0)), (2, .ref (A 1)), (3, .ref (A 2)), (4, .ref (A 3)), (5, .ref (A 4)), (6, .int (nI (mm + 1))), (7, .ref qs), (9, .int (nI (ord j))), (10, .int (nI (p2 + 1)))] → W p l e ({ frames := 1, cells := 2, slots := 16, locals := 23 } : Room) s m args below meth c H locs 2 16 (MQ below (gw_Qi E D (fun r M' => gw_gp cI M A n (mm + 1, ord, v) r M')) args s 2 16 (gw_A E)) (F0 m 295 ls []) := by
      intro d
      induction d with
      | zero =>
        intro p2 hi X H locs ls hI hG hl
        obtain ⟨fX, hX, hXa, hXb⟩ := hI
        have h6X : gw_a6 cI X A n fb fX ff fu fl2 fg := by rw [hX]; exact hY16.s1 hA
        have hsX : X qs = some (.inl (cI, 8, .inl fg)) := by rw [hX]; exact (gw_miss (hAsn (by decide))).trans hY1s
        have hfX : gw_fr M X := by rw [hX]; exact hY1f.up hY16.2.1 gw_isI.mk
        refine lv_iload hx hb d_Law_goes_295 (lv_at hl 9 rfl) ?_
        refine lv_iload hx hb d_Law_goes_297 (lv_at hl 6 rfl) ?_
        refine lv_icmp_gt (tgt := 315) hx hb d_Law_goes_299 (by decide) (fun c_299 => ?_) (fun z_ => absurd (nI_lt (by omega) (by omega)) z_)
        refine lv_aload_n hx hb d_Law_goes_315 rfl (lv_at hl 3 rfl) ?_
        refine lv_iload hx hb d_Law_goes_316 (lv_at hl 8 rfl) ?_
        have eff := r2 _ hoj
        refine gw_iald hx hb hK hG (h6X.2.2.1) (vp_in_nI (by omega) (by omega)) d_Law_goes_318 ?_
        rw [nI_clamp (n := ord j) (by omega), eff]
        refine lv_bipush (v := 50) hx hb d_Law_goes_319 (by decide) ?_
        refine lv_icmp_lt (tgt := 337) hx hb d_Law_goes_321 (by decide) (fun c_321 => ?_) (fun c_321 => ?_)
        · skip
          have e1 : p_rn mm ord v = (0, mm + 1, ord, p_put (mm + 1) ord (p_lost mm (fun p => v (ord p)) j) v) := by unfold p_rn; rw [← hv1, hlo]; exact if_pos c_321
          refine K337 X (nI (ord j)) 0 fX fu fl2 fg _ _ _ h6X hsX hfX (h0j 0 rfl) (fun ff' g1 g2 => ?_) hG (lv_sub hl [0, 1, 2, 3, 4, 5, 6, 7, 8] rfl)
          rw [hR, e1]
          refine ⟨rfl, hrp.fin (u := p_lost mm (fun p => v (ord p)) j) hoi (fun p hp => ?_) (fun i hi hno => ⟨(hXb i (fun p hp => hno p (by omega))).trans (hE2 i hno), g2 i hno, rfl, by rw [hfl2, u_no (fun z => hno j hj z.symm)]⟩) r5 r6⟩
          have e2 : fX (ord p) = 0 := hXa p (by omega)
          by_cases hpj : p = j
          · subst hpj
            refine ⟨?_, ?_, ?_, ?_, ?_⟩
            · unfold p_lost; rw [if_pos rfl]; rfl
            · rw [e2]; unfold p_lost; rfl
            · rw [g1 p hp]; unfold p_lost; rw [if_pos rfl]; rfl
            · rw [r3 _ (hord p hp)]; unfold p_lost; rw [if_pos rfl]; rfl
            · rw [hfl2, u_at]; unfold p_lost; rw [if_pos rfl]; rfl
          · refine ⟨?_, ?_, ?_, ?_, ?_⟩
            · unfold p_lost; rw [if_neg hpj]; rfl
            · rw [e2]; unfold p_lost; rfl
            · rw [g1 p hp]; unfold p_lost; rw [if_neg hpj]; rfl
            · rw [r3 _ (hord p hp)]; unfold p_lost; rw [if_neg hpj]; rfl
            · rw [hfl2, u_no (fun z => hpj (hoi p j hp hj z)), r4 _ (hord p hp)]; unfold p_lost; rw [if_neg hpj]; rfl
        · skip
          refine lv_aload hx hb d_Law_goes_324 (lv_at hl 4 rfl) ?_
          refine lv_iload hx hb d_Law_goes_326 (lv_at hl 8 rfl) ?_
          refine lv_bipush (v := 7) hx hb d_Law_goes_328 (by decide) ?_
          refine gw_iast hx hb hK hG h6X.2.2.2.1 (vp_in_nI (by omega) (by omega)) d_Law_goes_330 (fun H locs hG => ?_)
          rw [nI_clamp (n := ord j) (by omega)] at hG
          obtain ⟨fu2, hfu2⟩ : ∃ z, z = upd fu (ord j) 7 := ⟨_, rfl⟩
          rw [← hfu2] at hG
          obtain ⟨X1, hX1⟩ : ∃ z : gM, z = gw_up X (A 3) (.inl (cI, n, .inl fu2)) := ⟨_, rfl⟩
          replace hG := gw_nm hX1 hG
          have h6X1 : gw_a6 cI X1 A n fb fX ff fu2 fl2 fg := by rw [hX1]; exact h6X.s3 hA
          have hsX1 : X1 qs = some (.inl (cI, 8, .inl fg)) := by rw [hX1]; exact (gw_miss (hAsn (by decide))).trans hsX
          have hfX1 : gw_fr M X1 := by rw [hX1]; exact hfX.up h6X.2.2.2.1 gw_isI.mk
          refine lv_aload_n hx hb d_Law_goes_331 rfl (lv_at hl 0 rfl) ?_
          refine lv_iload hx hb d_Law_goes_332 (lv_at hl 8 rfl) ?_
          refine gw_callv (gw_runS (As := [.ref (A 5), .int (nI (ord j))]) (rest := []) ⟨hx, hb, hml, hown, hts⟩ (c_Law_leaves l E D cI cO cZ z0 X1 (h6X1.2.2.2.2.2) (m1 := mm + 1) (ord := ord) (by omega) r5 r6 (fun p hp => Nat.lt_of_lt_of_le (hord p hp) (by omega)) (i := ord j) (J := j) (by omega) hoi (by omega) (fun p hp z => by have := hoi p j (by omega) hj z; omega) (fun _ => rfl)) (gw_cwS 2 hts (gT_gi wm_782) rfl rfl rfl (hT _ wm_22) (hT _ wm_780) (hT _ wm_781) (by decide +kernel) ⟨Nat.le_of_ble_eq_true rfl, Nat.le_of_ble_eq_true rfl⟩) hF hG rfl hl.1 rfl (Nat.le_of_ble_eq_true rfl) d_Law_goes_334 ⟨Nat.le_of_ble_eq_true rfl, Nat.le_of_ble_eq_true rfl⟩) hG (fun M3 H locs hp hG => ?_)
          obtain ⟨fg2, hM9, hg0, hgp⟩ := hp
          rw [if_pos hj] at hg0 hgp
          rw [show mm + 1 - 1 = mm from rfl] at hg0 hgp
          have h6X2 : gw_a6 cI M3 A n fb fX ff fu2 fl2 fg2 := by rw [hM9]; exact h6X1.s5 hA
          have hsX2 : M3 qs = some (.inl (cI, 8, .inl fg)) := by rw [hM9]; exact (gw_miss (hAsn (by decide))).trans hsX1
          have hfX2 : gw_fr M M3 := by rw [hM9]; exact hfX1.up h6X1.2.2.2.2.2 gw_isI.mk
          have e1 : p_rn mm ord v = (0, mm, skp j ord, p_put (mm + 1) ord (fun p => if p = j then hHu (p_lost mm (fun p => v (ord p)) j j) 7 else p_lost mm (fun p => v (ord p)) j p) v) := by unfold p_rn; rw [← hv1, hlo]; exact if_neg c_321
          refine K337 M3 (nI (ord j)) 0 fX fu2 fl2 fg2 _ _ _ h6X2 hsX2 hfX2 (h0j 0 rfl) (fun ff' g1 g2 => ?_) hG (lv_sub hl [0, 1, 2, 3, 4, 5, 6, 7, 8] rfl)
          rw [hR, e1]
          refine ⟨rfl, hrp.fin (u := fun p => if p = j then hHu (p_lost mm (fun p => v (ord p)) j j) 7 else p_lost mm (fun p => v (ord p)) j p) hoi (fun p hp => ?_) (fun i hi hno => ⟨(hXb i (fun p hp => hno p (by omega))).trans (hE2 i hno), g2 i hno, by rw [hfu2, u_no (fun z => hno j hj z.symm)], by rw [hfl2, u_no (fun z => hno j hj z.symm)]⟩) hg0 hgp⟩
          have e2 : fX (ord p) = 0 := hXa p (by omega)
          by_cases hpj : p = j
          · subst hpj
            rw [if_pos rfl]
            refine ⟨?_, ?_, ?_, ?_, ?_⟩
            · unfold p_lost; rw [if_pos rfl]; rfl
            · rw [e2]; unfold p_lost; rfl
            · rw [g1 p hp]; unfold p_lost; rw [if_pos rfl]; rfl
            · rw [hfu2, u_at]
            · rw [hfl2, u_at]; unfold p_lost; rw [if_pos rfl]; rfl
          · rw [if_neg hpj]
            refine ⟨?_, ?_, ?_, ?_, ?_⟩
            · unfold p_lost; rw [if_neg hpj]; rfl
            · rw [e2]; unfold p_lost; rfl
            · rw [g1 p hp]; unfold p_lost; rw [if_neg hpj]; rfl
            · rw [hfu2, u_no (fun z => hpj (hoi p j hp hj z)), r3 _ (hord p hp)]; unfold p_lost; rw [if_neg hpj]; rfl
            · rw [hfl2, u_no (fun z => hpj (hoi p j hp hj z)), r4 _ (hord p hp)]; unfold p_lost; rw [if_neg hpj]; rfl
      | succ d ih =>
        intro p2 hi X H locs ls hI hG hl
        obtain ⟨fX, hX, hXa, hXb⟩ := hI
        have h6X : gw_a6 cI X A n fb fX ff fu fl2 fg := by rw [hX]; exact hY16.s1 hA
        have hsX : X qs = some (.inl (cI, 8, .inl fg)) := by rw [hX]; exact (gw_miss (hAsn (by decide))).trans hY1s
        have hfX : gw_fr M X := by rw [hX]; exact hY1f.up hY16.2.1 gw_isI.mk
        refine lv_iload hx hb d_Law_goes_295 (lv_at hl 9 rfl) ?_
        refine lv_iload hx hb d_Law_goes_297 (lv_at hl 6 rfl) ?_
        refine lv_icmp_gt (tgt := 315) hx hb d_Law_goes_299 (by decide) (fun z_ => absurd z_ (nI_nlt (by omega) (by omega))) (fun c_299 => ?_)
        have ho2 := hord p2 (by omega)
        have eqs := r6 p2 (by omega)
        refine lv_aload_n hx hb d_Law_goes_302 rfl (lv_at hl 2 rfl) ?_
        refine lv_aload_n hx hb d_Law_goes_303 rfl (lv_at hl 0 rfl) ?_
        refine lv_iload hx hb d_Law_goes_304 (lv_at hl 9 rfl) ?_
        refine gw_iald hx hb hK hG (h6X.2.2.2.2.2) (vp_in_nI (by omega) (by omega)) d_Law_goes_306 ?_
        rw [nI_clamp (n := p2 + 1) (by omega), eqs]
        refine lv_iconst (v := 0) hx hb d_Law_goes_307 (by decide) ?_
        refine gw_iast hx hb hK hG h6X.2.1 (vp_in_nI (by omega) (by omega)) d_Law_goes_308 (fun H locs hG => ?_)
        rw [nI_clamp (n := ord p2) (by omega)] at hG
        refine lv_iinc (v := nI (p2 + 2)) (lv' := [(10, .int (nI (p2 + 2))), (0, .ref (A 5)), (1, .ref (A 0)), (2, .ref (A 1)), (3, .ref (A 2)), (4, .ref (A 3)), (5, .ref (A 4)), (6, .int (nI (mm + 1))), (7, .ref qs), (9, .int (nI (ord j)))]) hx hb d_Law_goes_309 hl (k := 9) rfl (nI_succ (p2 + 1)).symm (by decide) rfl (fun ls hl => ?_)
        refine lv_goto (tgt := 295) hx hb d_Law_goes_312 (by decide) ?_
        obtain ⟨q1, q2⟩ := u_step (val := fun _ => 0) hoi (by omega) hXa hXb rfl
        exact ih (p2 + 1) (by omega) _ _ _ _ ⟨_, by rw [hX, gw_twice], q1, q2⟩ hG (lv_sub hl [1, 2, 3, 4, 5, 6, 7, 8, 9, 0] rfl)
    exact loop4 _ _ (Nat.zero_add (mm + 1)) Y1 _ _ _ ⟨fE, (gw_same hY16.2.1).symm, fun p hp => absurd hp (Nat.not_lt_zero p), fun _ _ => rfl⟩ hG (lv_sub hl [1, 2, 3, 4, 5, 6, 7, 8, 9, 0] rfl)
  have K150 : ∀ (Y : gM) (fE : Nat → Int32) (H : Heap) (locs : List Loc) (ls : Array Slot), gw_a6 cI Y A n fb fE ff fu fl fg → Y qs = some (.inl (cI, 8, .inl fg)) → gw_fr M Y → (∀ p, p < mm + 1 → fE (ord p) = (v1 p).2.2.2.2.2) → (∀ i, (∀ p, p < mm + 1 → ord p ≠ i) → fE i = fe i) → gw_H E D Y s H locs → lv_has ls 15 [(0, .ref (A 5)), (1, .ref (A 0)), (2, .ref (A 1)), (3, .ref (A 2)), (4, .ref (A 3)), (5, .ref (A 4)), (6, .int (nI (mm + 1))), (7, .ref qs)] → W p l e ({ frames := 1, cells := 2, slots := 16, locals := 23 } : Room) s m args below meth c H locs 2 16 (MQ below (gw_Qi E D (fun r M' => gw_gp cI M A n (mm + 1, ord, v) r M')) args s 2 16 (gw_A E)) (F0 m 150 ls []) := by
    intro Y fE H locs ls hY6 hYs hYf hE1 hE2 hG hl
    refine lv_iconst (v := (-1)) hx hb d_Law_goes_150 (by decide) ?_
    refine lv_istore (lv' := [(9, .int (-1)), (0, .ref (A 5)), (1, .ref (A 0)), (2, .ref (A 1)), (3, .ref (A 2)), (4, .ref (A 3)), (5, .ref (A 4)), (6, .int (nI (mm + 1))), (7, .ref qs)]) hx hb d_Law_goes_151 hl (by decide) rfl (fun ls hl => ?_)
    refine lv_iconst (v := 1) hx hb d_Law_goes_153 (by decide) ?_
    refine lv_istore (lv' := [(10, .int 1), (9, .int (-1)), (0, .ref (A 5)), (1, .ref (A 0)), (2, .ref (A 1)), (3, .ref (A 2)), (4, .ref (A 3)), (5, .ref (A 4)), (6, .int (nI (mm + 1))), (7, .ref qs)]) hx hb d_Law_goes_154 hl (by decide) rfl (fun ls hl => ?_)
    have loop3 : ∀ (d p2 : Nat), p2 + d = mm + 1 → ∀ (X : gM) (H : Heap) (locs : List Loc) (ls : Array Slot), ((∀ d1, d = d1 + 1 → p_los mm v1 mm 0 = p_los mm v1 d1 p2) ∧ (d = 0 → p_los mm v1 mm 0 = none) ∧ X = Y) → gw_H E D X s H locs → lv_has ls 15 [(0, .ref (A 5)), (1, .ref (A 0)), (2, .ref (A 1)), (3, .ref (A 2)), (4, .ref (A 3)), (5, .ref (A 4)), (6, .int (nI (mm + 1))), (7, .ref qs), (9, .int (-1)), (10, .int (nI (p2 + 1)))] → W p l e ({ frames := 1, cells := 2, slots := 16, locals := 23 } : Room) s m args below meth c H locs 2 16 (MQ below (gw_Qi E D (fun r M' => gw_gp cI M A n (mm + 1, ord, v) r M')) args s 2 16 (gw_A E)) (F0 m 156 ls []) := by
      intro d
      induction d with
      | zero =>
        intro p2 hi X H locs ls hI hG hl
        obtain ⟨hP, hN, hX⟩ := hI
        replace hG := gw_nm hX.symm hG
        refine lv_iload hx hb d_Law_goes_156 (lv_at hl 9 rfl) ?_
        refine lv_iload hx hb d_Law_goes_158 (lv_at hl 6 rfl) ?_
        refine lv_icmp_gt (tgt := 278) hx hb d_Law_goes_160 (by decide) (fun c_160 => ?_) (fun z_ => absurd (nI_lt (by omega) (by omega)) z_)
        exact K278n Y fE _ _ _ hY6 hYs hYf hE1 hE2 (hN rfl) hG (lv_sub hl [0, 1, 2, 3, 4, 5, 6, 7, 8] rfl)
      | succ d ih =>
        intro p2 hi X H locs ls hI hG hl
        obtain ⟨hP, hN, hX⟩ := hI
        replace hG := gw_nm hX.symm hG
        refine lv_iload hx hb d_Law_goes_156 (lv_at hl 9 rfl) ?_
        refine lv_iload hx hb d_Law_goes_158 (lv_at hl 6 rfl) ?_
        refine lv_icmp_gt (tgt := 278) hx hb d_Law_goes_160 (by decide) (fun z_ => absurd z_ (nI_nlt (by omega) (by omega))) (fun c_160 => ?_)
        have hP := hP d rfl
        have ho2 := hord p2 (by omega)
        refine lv_iload hx hb d_Law_goes_163 (lv_at hl 8 rfl) ?_
        refine lv_if_ge (tgt := 278) hx hb d_Law_goes_165 (by decide) (fun z_ => absurd z_ (by decide)) (fun c_165 => ?_)
        refine lv_aload_n hx hb d_Law_goes_168 rfl (lv_at hl 0 rfl) ?_
        refine lv_iload hx hb d_Law_goes_169 (lv_at hl 9 rfl) ?_
        refine gw_iald hx hb hK hG (hY6.2.2.2.2.2) (vp_in_nI (by omega) (by omega)) d_Law_goes_171 ?_
        rw [nI_clamp (n := p2 + 1) (by omega), r6 p2 (by omega)]
        refine lv_istore (lv' := [(11, .int (nI (ord p2))), (0, .ref (A 5)), (1, .ref (A 0)), (2, .ref (A 1)), (3, .ref (A 2)), (4, .ref (A 3)), (5, .ref (A 4)), (6, .int (nI (mm + 1))), (7, .ref qs), (9, .int (-1)), (10, .int (nI (p2 + 1)))]) hx hb d_Law_goes_172 hl (by decide) rfl (fun ls hl => ?_)
        refine lv_aload_n hx hb d_Law_goes_174 rfl (lv_at hl 1 rfl) ?_
        refine lv_iload hx hb d_Law_goes_175 (lv_at hl 10 rfl) ?_
        refine lv_iload hx hb d_Law_goes_177 (lv_at hl 7 rfl) ?_
        cases d with
        | zero =>
          have hp2 : p2 = mm := by omega
          refine lv_icmp_ne (tgt := 186) hx hb d_Law_goes_179 (by decide) (fun z_ => absurd (by rw [hp2]) z_) (fun c_179 => ?_)
          refine lv_iconst (v := 1) hx hb d_Law_goes_182 (by decide) ?_
          refine lv_goto (tgt := 190) hx hb d_Law_goes_183 (by decide) ?_
          refine gw_iald hx hb hK hG (hY6.2.2.2.2.2) (vp_in_nI (n := 1) (by omega) (by decide)) d_Law_goes_190 ?_
          rw [show fg (1 : Int32).toNatClampNeg = nI (ord 0) from r6 0 (by omega)]
          have ho3 := hord 0 (by omega)
          refine lv_istore (lv' := [(12, .int (nI (ord 0))), (11, .int (nI (ord p2))), (0, .ref (A 5)), (1, .ref (A 0)), (2, .ref (A 1)), (3, .ref (A 2)), (4, .ref (A 3)), (5, .ref (A 4)), (6, .int (nI (mm + 1))), (7, .ref qs), (9, .int (-1)), (10, .int (nI (p2 + 1)))]) hx hb d_Law_goes_191 hl (by decide) rfl (fun ls hl => ?_)
          refine lv_bipush (v := 60) hx hb d_Law_goes_193 (by decide) ?_
          refine lv_iload hx hb d_Law_goes_195 (lv_at hl 11 rfl) ?_
          refine lv_iconst (v := 1) hx hb d_Law_goes_197 (by decide) ?_
          refine lv_isub hx hb d_Law_goes_198 ?_
          rw [show nI (p2 + 1) - 1 = (nI p2) from nI_pred p2]
          refine lv_imul hx hb d_Law_goes_199 ?_
          refine lv_iload hx hb d_Law_goes_200 (lv_at hl 8 rfl) ?_
          refine lv_idiv hx hb d_Law_goes_202 (nI_ne0 (by omega) (by omega)) ?_
          refine lv_aload_n hx hb d_Law_goes_203 rfl (lv_at hl 4 rfl) ?_
          refine lv_iload hx hb d_Law_goes_204 (lv_at hl 1 rfl) ?_
          refine gw_iald hx hb hK hG (hY6.2.1) (vp_in_nI (by omega) (by omega)) d_Law_goes_206 ?_
          rw [nI_clamp (n := ord p2) (by omega), hE1 p2 (by omega)]
          refine lv_iadd hx hb d_Law_goes_207 ?_
          obtain ⟨t1, ht1⟩ : ∃ z, z = p_tick (mm + 1) v1 p2 := ⟨_, rfl⟩
          rw [show 60 * nI p2 / nI (mm + 1) + (v1 p2).2.2.2.2.2 = t1 from ht1.symm]
          refine lv_istore (lv' := [(13, .int t1), (12, .int (nI (ord 0))), (11, .int (nI (ord p2))), (0, .ref (A 5)), (1, .ref (A 0)), (2, .ref (A 1)), (3, .ref (A 2)), (4, .ref (A 3)), (5, .ref (A 4)), (6, .int (nI (mm + 1))), (7, .ref qs), (9, .int (-1)), (10, .int (nI (p2 + 1)))]) hx hb d_Law_goes_208 hl (by decide) rfl (fun ls hl => ?_)
          refine lv_iload hx hb d_Law_goes_210 (lv_at hl 12 rfl) ?_
          refine lv_iload hx hb d_Law_goes_212 (lv_at hl 9 rfl) ?_
          refine lv_icmp_ne (tgt := 222) hx hb d_Law_goes_214 (by decide) (fun z_ => absurd (by rw [hp2]) z_) (fun c_214 => ?_)
          refine lv_bipush (v := 60) hx hb d_Law_goes_217 (by decide) ?_
          refine lv_goto (tgt := 230) hx hb d_Law_goes_219 (by decide) ?_
          refine lv_aload_n hx hb d_Law_goes_230 rfl (lv_at hl 5 rfl) ?_
          refine lv_iload hx hb d_Law_goes_231 (lv_at hl 1 rfl) ?_
          refine gw_iald hx hb hK hG (hY6.2.1) (vp_in_nI (by omega) (by omega)) d_Law_goes_233 ?_
          rw [nI_clamp (n := ord 0) (by omega), hE1 0 (by omega)]
          refine lv_iadd hx hb d_Law_goes_234 ?_
          obtain ⟨t2, ht2⟩ : ∃ z, z = p_tick (mm + 1) v1 0 + 60 := ⟨_, rfl⟩
          rw [show 60 + (v1 0).2.2.2.2.2 = t2 from (by rw [ht2, p_tick0 (by omega) (by omega)]; exact Int32.add_comm _ _)]
          have htb : -1000000000 ≤ t2.toInt ∧ t2.toInt ≤ 1000000000 := by rw [ht2, p_tick0 (by omega) (by omega)]; have := hv1b 0 (by omega); rw [i_add (by rw [show (60 : Int32).toInt = 60 by decide]; omega) (by rw [show (60 : Int32).toInt = 60 by decide]; omega), show (60 : Int32).toInt = 60 by decide]; omega
          have hta : -1000000000 ≤ t1.toInt ∧ t1.toInt ≤ 1000000000 := by rw [ht1]; have := p_tick_b (n := mm + 1) (p := p2) (by omega) (by omega) (by omega) (by omega) (hv1b p2 (by omega)).1 (hv1b p2 (by omega)).2; omega
          have hgap := i_gap hta htb
          refine lv_istore (lv' := [(14, .int t2), (13, .int t1), (12, .int (nI (ord 0))), (11, .int (nI (ord p2))), (0, .ref (A 5)), (1, .ref (A 0)), (2, .ref (A 1)), (3, .ref (A 2)), (4, .ref (A 3)), (5, .ref (A 4)), (6, .int (nI (mm + 1))), (7, .ref qs), (9, .int (-1)), (10, .int (nI (p2 + 1)))]) hx hb d_Law_goes_235 hl (by decide) rfl (fun ls hl => ?_)
          refine lv_iload hx hb d_Law_goes_237 (lv_at hl 0 rfl) ?_
          refine lv_iload hx hb d_Law_goes_239 (lv_at hl 1 rfl) ?_
          refine lv_iconst (v := 4) hx hb d_Law_goes_241 (by decide) ?_
          refine lv_iadd hx hb d_Law_goes_242 ?_
          refine lv_icmp_ge (tgt := 272) hx hb d_Law_goes_243 (by decide) (fun c_243 => ?_) (fun c_243 => ?_)
          · skip
            refine lv_iinc (v := nI (p2 + 2)) (lv' := [(10, .int (nI (p2 + 2))), (14, .int t2), (13, .int t1), (12, .int (nI (ord 0))), (11, .int (nI (ord p2))), (0, .ref (A 5)), (1, .ref (A 0)), (2, .ref (A 1)), (3, .ref (A 2)), (4, .ref (A 3)), (5, .ref (A 4)), (6, .int (nI (mm + 1))), (7, .ref qs), (9, .int (-1))]) hx hb d_Law_goes_272 hl (k := 13) rfl (nI_succ (p2 + 1)).symm (by decide) rfl (fun ls hl => ?_)
            refine lv_goto (tgt := 156) hx hb d_Law_goes_275 (by decide) ?_
            have hP2 : p_los mm v1 mm 0 = none := hP.trans (if_pos (by have := hgap.mp c_243; rw [ht2, ht1, hp2] at this; exact this))
            exact ih (p2 + 1) (by omega) Y _ _ _ ⟨fun d1 hd => absurd hd (Nat.succ_ne_zero d1).symm, fun _ => hP2, rfl⟩ hG (lv_sub hl [5, 6, 7, 8, 9, 10, 11, 12, 13, 0] rfl)
          · skip
            refine lv_aload_n hx hb d_Law_goes_246 rfl (lv_at hl 6 rfl) ?_
            refine lv_iload hx hb d_Law_goes_247 (lv_at hl 3 rfl) ?_
            refine gw_iald hx hb hK hG (hY6.2.1) (vp_in_nI (by omega) (by omega)) d_Law_goes_249 ?_
            rw [nI_clamp (n := ord p2) (by omega), hE1 p2 (by omega)]
            refine gw_calli (gw_runS (As := [.int ((v1 p2).2.2.2.2.2)]) (rest := []) ⟨hx, hb, hml, hown, hts⟩ (c_Law_amount l E D cI cO cZ z0 Y) (gw_cwS 1 hts (gT_gi wm_779) rfl rfl rfl (hT _ wm_22) (hT _ wm_777) (hT _ wm_778) (by decide +kernel) ⟨Nat.le_of_ble_eq_true rfl, Nat.le_of_ble_eq_true rfl⟩) hF hG rfl hl.1 rfl (Nat.le_of_ble_eq_true rfl) d_Law_goes_250 ⟨Nat.le_of_ble_eq_true rfl, Nat.le_of_ble_eq_true rfl⟩) hG (fun r M3 H locs hp hG => ?_)
            rw [hp.1]
            replace hG := gw_nm hp.2.symm hG
            refine lv_aload_n hx hb d_Law_goes_253 rfl (lv_at hl 6 rfl) ?_
            refine lv_iload hx hb d_Law_goes_254 (lv_at hl 2 rfl) ?_
            refine gw_iald hx hb hK hG (hY6.2.1) (vp_in_nI (by omega) (by omega)) d_Law_goes_256 ?_
            rw [nI_clamp (n := ord 0) (by omega), hE1 0 (by omega)]
            refine gw_calli (gw_runS (As := [.int ((v1 0).2.2.2.2.2)]) (rest := [.int (p_abs (v1 p2).2.2.2.2.2)]) ⟨hx, hb, hml, hown, hts⟩ (c_Law_amount l E D cI cO cZ z0 Y) (gw_cwS 1 hts (gT_gi wm_779) rfl rfl rfl (hT _ wm_22) (hT _ wm_777) (hT _ wm_778) (by decide +kernel) ⟨Nat.le_of_ble_eq_true rfl, Nat.le_of_ble_eq_true rfl⟩) hF hG rfl hl.1 rfl (Nat.le_of_ble_eq_true rfl) d_Law_goes_257 ⟨Nat.le_of_ble_eq_true rfl, Nat.le_of_ble_eq_true rfl⟩) hG (fun r M4 H locs hp hG => ?_)
            rw [hp.1]
            replace hG := gw_nm hp.2.symm hG
            have hP2 : p_los mm v1 mm 0 = some (p_worse v1 p2 0) := (hP.trans (if_neg (fun z => c_243 (hgap.mpr (by rw [ht2, ht1, hp2]; exact z))))).trans (by rw [hp2])
            refine lv_icmp_le (tgt := 268) hx hb d_Law_goes_260 (by decide) (fun c_260 => ?_) (fun c_260 => ?_)
            · skip
              refine lv_iload hx hb d_Law_goes_268 (lv_at hl 2 rfl) ?_
              refine lv_istore (lv' := [(9, .int (nI (ord 0))), (14, .int t2), (13, .int t1), (12, .int (nI (ord 0))), (11, .int (nI (ord p2))), (0, .ref (A 5)), (1, .ref (A 0)), (2, .ref (A 1)), (3, .ref (A 2)), (4, .ref (A 3)), (5, .ref (A 4)), (6, .int (nI (mm + 1))), (7, .ref qs), (10, .int (nI (p2 + 1)))]) hx hb d_Law_goes_270 hl (by decide) rfl (fun ls hl => ?_)
              have hP3 : p_los mm v1 mm 0 = some 0 := hP2.trans (congrArg some (show p_worse v1 p2 0 = 0 from if_pos c_260))
              refine lv_iinc (v := nI (p2 + 2)) (lv' := [(10, .int (nI (p2 + 2))), (9, .int (nI (ord 0))), (14, .int t2), (13, .int t1), (12, .int (nI (ord 0))), (11, .int (nI (ord p2))), (0, .ref (A 5)), (1, .ref (A 0)), (2, .ref (A 1)), (3, .ref (A 2)), (4, .ref (A 3)), (5, .ref (A 4)), (6, .int (nI (mm + 1))), (7, .ref qs)]) hx hb d_Law_goes_272 hl (k := 13) rfl (nI_succ (p2 + 1)).symm (by decide) rfl (fun ls hl => ?_)
              refine lv_goto (tgt := 156) hx hb d_Law_goes_275 (by decide) ?_
              refine lv_iload hx hb d_Law_goes_156 (lv_at hl 0 rfl) ?_
              refine lv_iload hx hb d_Law_goes_158 (lv_at hl 12 rfl) ?_
              refine lv_icmp_gt (tgt := 278) hx hb d_Law_goes_160 (by decide) (fun c_160 => ?_) (fun z_ => absurd (nI_lt (by omega) (by omega)) z_)
              exact K278s Y fE 0 _ _ _ hY6 hYs hYf hE1 hE2 hP3 hG (lv_sub hl [6, 7, 8, 9, 10, 11, 12, 13, 1] rfl)
            · skip
              refine lv_iload hx hb d_Law_goes_263 (lv_at hl 3 rfl) ?_
              refine lv_goto (tgt := 270) hx hb d_Law_goes_265 (by decide) ?_
              refine lv_istore (lv' := [(9, .int (nI (ord p2))), (14, .int t2), (13, .int t1), (12, .int (nI (ord 0))), (11, .int (nI (ord p2))), (0, .ref (A 5)), (1, .ref (A 0)), (2, .ref (A 1)), (3, .ref (A 2)), (4, .ref (A 3)), (5, .ref (A 4)), (6, .int (nI (mm + 1))), (7, .ref qs), (10, .int (nI (p2 + 1)))]) hx hb d_Law_goes_270 hl (by decide) rfl (fun ls hl => ?_)
              have hP3 : p_los mm v1 mm 0 = some p2 := hP2.trans (congrArg some (show p_worse v1 p2 0 = p2 from if_neg c_260))
              refine lv_iinc (v := nI (p2 + 2)) (lv' := [(10, .int (nI (p2 + 2))), (9, .int (nI (ord p2))), (14, .int t2), (13, .int t1), (12, .int (nI (ord 0))), (11, .int (nI (ord p2))), (0, .ref (A 5)), (1, .ref (A 0)), (2, .ref (A 1)), (3, .ref (A 2)), (4, .ref (A 3)), (5, .ref (A 4)), (6, .int (nI (mm + 1))), (7, .ref qs)]) hx hb d_Law_goes_272 hl (k := 13) rfl (nI_succ (p2 + 1)).symm (by decide) rfl (fun ls hl => ?_)
              refine lv_goto (tgt := 156) hx hb d_Law_goes_275 (by decide) ?_
              refine lv_iload hx hb d_Law_goes_156 (lv_at hl 0 rfl) ?_
              refine lv_iload hx hb d_Law_goes_158 (lv_at hl 12 rfl) ?_
              refine lv_icmp_gt (tgt := 278) hx hb d_Law_goes_160 (by decide) (fun c_160 => ?_) (fun z_ => absurd (nI_lt (by omega) (by omega)) z_)
              exact K278s Y fE p2 _ _ _ hY6 hYs hYf hE1 hE2 hP3 hG (lv_sub hl [6, 7, 8, 9, 10, 11, 12, 13, 1] rfl)
        | succ d1 =>
          refine lv_icmp_ne (tgt := 186) hx hb d_Law_goes_179 (by decide) (fun c_179 => ?_) (fun z_ => absurd z_ (fun z => absurd ((nI_eq (by omega) (by omega)).mp z) (by omega)))
          refine lv_iload hx hb d_Law_goes_186 (lv_at hl 10 rfl) ?_
          refine lv_iconst (v := 1) hx hb d_Law_goes_188 (by decide) ?_
          refine lv_iadd hx hb d_Law_goes_189 ?_
          rw [show nI (p2 + 1) + 1 = (nI (p2 + 2)) from (nI_succ (p2 + 1)).symm]
          refine gw_iald hx hb hK hG (hY6.2.2.2.2.2) (vp_in_nI (by omega) (by omega)) d_Law_goes_190 ?_
          rw [nI_clamp (n := p2 + 2) (by omega), r6 (p2 + 1) (by omega)]
          have ho3 := hord (p2 + 1) (by omega)
          refine lv_istore (lv' := [(12, .int (nI (ord (p2 + 1)))), (11, .int (nI (ord p2))), (0, .ref (A 5)), (1, .ref (A 0)), (2, .ref (A 1)), (3, .ref (A 2)), (4, .ref (A 3)), (5, .ref (A 4)), (6, .int (nI (mm + 1))), (7, .ref qs), (9, .int (-1)), (10, .int (nI (p2 + 1)))]) hx hb d_Law_goes_191 hl (by decide) rfl (fun ls hl => ?_)
          refine lv_bipush (v := 60) hx hb d_Law_goes_193 (by decide) ?_
          refine lv_iload hx hb d_Law_goes_195 (lv_at hl 11 rfl) ?_
          refine lv_iconst (v := 1) hx hb d_Law_goes_197 (by decide) ?_
          refine lv_isub hx hb d_Law_goes_198 ?_
          rw [show nI (p2 + 1) - 1 = (nI p2) from nI_pred p2]
          refine lv_imul hx hb d_Law_goes_199 ?_
          refine lv_iload hx hb d_Law_goes_200 (lv_at hl 8 rfl) ?_
          refine lv_idiv hx hb d_Law_goes_202 (nI_ne0 (by omega) (by omega)) ?_
          refine lv_aload_n hx hb d_Law_goes_203 rfl (lv_at hl 4 rfl) ?_
          refine lv_iload hx hb d_Law_goes_204 (lv_at hl 1 rfl) ?_
          refine gw_iald hx hb hK hG (hY6.2.1) (vp_in_nI (by omega) (by omega)) d_Law_goes_206 ?_
          rw [nI_clamp (n := ord p2) (by omega), hE1 p2 (by omega)]
          refine lv_iadd hx hb d_Law_goes_207 ?_
          obtain ⟨t1, ht1⟩ : ∃ z, z = p_tick (mm + 1) v1 p2 := ⟨_, rfl⟩
          rw [show 60 * nI p2 / nI (mm + 1) + (v1 p2).2.2.2.2.2 = t1 from ht1.symm]
          refine lv_istore (lv' := [(13, .int t1), (12, .int (nI (ord (p2 + 1)))), (11, .int (nI (ord p2))), (0, .ref (A 5)), (1, .ref (A 0)), (2, .ref (A 1)), (3, .ref (A 2)), (4, .ref (A 3)), (5, .ref (A 4)), (6, .int (nI (mm + 1))), (7, .ref qs), (9, .int (-1)), (10, .int (nI (p2 + 1)))]) hx hb d_Law_goes_208 hl (by decide) rfl (fun ls hl => ?_)
          refine lv_iload hx hb d_Law_goes_210 (lv_at hl 12 rfl) ?_
          refine lv_iload hx hb d_Law_goes_212 (lv_at hl 9 rfl) ?_
          refine lv_icmp_ne (tgt := 222) hx hb d_Law_goes_214 (by decide) (fun c_214 => ?_) (fun z_ => absurd z_ (fun z => absurd ((nI_eq (by omega) (by omega)).mp z) (by omega)))
          refine lv_bipush (v := 60) hx hb d_Law_goes_222 (by decide) ?_
          refine lv_iload hx hb d_Law_goes_224 (lv_at hl 12 rfl) ?_
          refine lv_imul hx hb d_Law_goes_226 ?_
          refine lv_iload hx hb d_Law_goes_227 (lv_at hl 9 rfl) ?_
          refine lv_idiv hx hb d_Law_goes_229 (nI_ne0 (by omega) (by omega)) ?_
          refine lv_aload_n hx hb d_Law_goes_230 rfl (lv_at hl 5 rfl) ?_
          refine lv_iload hx hb d_Law_goes_231 (lv_at hl 1 rfl) ?_
          refine gw_iald hx hb hK hG (hY6.2.1) (vp_in_nI (by omega) (by omega)) d_Law_goes_233 ?_
          rw [nI_clamp (n := ord (p2 + 1)) (by omega), hE1 (p2 + 1) (by omega)]
          refine lv_iadd hx hb d_Law_goes_234 ?_
          obtain ⟨t2, ht2⟩ : ∃ z, z = p_tick (mm + 1) v1 (p2 + 1) := ⟨_, rfl⟩
          rw [show 60 * nI (p2 + 1) / nI (mm + 1) + (v1 (p2 + 1)).2.2.2.2.2 = t2 from ht2.symm]
          have htb : -1000000000 ≤ t2.toInt ∧ t2.toInt ≤ 1000000000 := by rw [ht2]; have := p_tick_b (n := mm + 1) (p := p2 + 1) (by omega) (by omega) (by omega) (by omega) (hv1b (p2 + 1) (by omega)).1 (hv1b (p2 + 1) (by omega)).2; omega
          have hta : -1000000000 ≤ t1.toInt ∧ t1.toInt ≤ 1000000000 := by rw [ht1]; have := p_tick_b (n := mm + 1) (p := p2) (by omega) (by omega) (by omega) (by omega) (hv1b p2 (by omega)).1 (hv1b p2 (by omega)).2; omega
          have hgap := i_gap hta htb
          refine lv_istore (lv' := [(14, .int t2), (13, .int t1), (12, .int (nI (ord (p2 + 1)))), (11, .int (nI (ord p2))), (0, .ref (A 5)), (1, .ref (A 0)), (2, .ref (A 1)), (3, .ref (A 2)), (4, .ref (A 3)), (5, .ref (A 4)), (6, .int (nI (mm + 1))), (7, .ref qs), (9, .int (-1)), (10, .int (nI (p2 + 1)))]) hx hb d_Law_goes_235 hl (by decide) rfl (fun ls hl => ?_)
          refine lv_iload hx hb d_Law_goes_237 (lv_at hl 0 rfl) ?_
          refine lv_iload hx hb d_Law_goes_239 (lv_at hl 1 rfl) ?_
          refine lv_iconst (v := 4) hx hb d_Law_goes_241 (by decide) ?_
          refine lv_iadd hx hb d_Law_goes_242 ?_
          refine lv_icmp_ge (tgt := 272) hx hb d_Law_goes_243 (by decide) (fun c_243 => ?_) (fun c_243 => ?_)
          · skip
            refine lv_iinc (v := nI (p2 + 2)) (lv' := [(10, .int (nI (p2 + 2))), (14, .int t2), (13, .int t1), (12, .int (nI (ord (p2 + 1)))), (11, .int (nI (ord p2))), (0, .ref (A 5)), (1, .ref (A 0)), (2, .ref (A 1)), (3, .ref (A 2)), (4, .ref (A 3)), (5, .ref (A 4)), (6, .int (nI (mm + 1))), (7, .ref qs), (9, .int (-1))]) hx hb d_Law_goes_272 hl (k := 13) rfl (nI_succ (p2 + 1)).symm (by decide) rfl (fun ls hl => ?_)
            refine lv_goto (tgt := 156) hx hb d_Law_goes_275 (by decide) ?_
            have hP2 : p_los mm v1 mm 0 = p_los mm v1 d1 (p2 + 1) := hP.trans (if_pos (by have := hgap.mp c_243; rw [ht2, ht1] at this; exact this))
            exact ih (p2 + 1) (by omega) Y _ _ _ ⟨fun d2 hd => by cases hd; exact hP2, fun hd => absurd hd (Nat.succ_ne_zero d1), rfl⟩ hG (lv_sub hl [5, 6, 7, 8, 9, 10, 11, 12, 13, 0] rfl)
          · skip
            refine lv_aload_n hx hb d_Law_goes_246 rfl (lv_at hl 6 rfl) ?_
            refine lv_iload hx hb d_Law_goes_247 (lv_at hl 3 rfl) ?_
            refine gw_iald hx hb hK hG (hY6.2.1) (vp_in_nI (by omega) (by omega)) d_Law_goes_249 ?_
            rw [nI_clamp (n := ord p2) (by omega), hE1 p2 (by omega)]
            refine gw_calli (gw_runS (As := [.int ((v1 p2).2.2.2.2.2)]) (rest := []) ⟨hx, hb, hml, hown, hts⟩ (c_Law_amount l E D cI cO cZ z0 Y) (gw_cwS 1 hts (gT_gi wm_779) rfl rfl rfl (hT _ wm_22) (hT _ wm_777) (hT _ wm_778) (by decide +kernel) ⟨Nat.le_of_ble_eq_true rfl, Nat.le_of_ble_eq_true rfl⟩) hF hG rfl hl.1 rfl (Nat.le_of_ble_eq_true rfl) d_Law_goes_250 ⟨Nat.le_of_ble_eq_true rfl, Nat.le_of_ble_eq_true rfl⟩) hG (fun r M3 H locs hp hG => ?_)
            rw [hp.1]
            replace hG := gw_nm hp.2.symm hG
            refine lv_aload_n hx hb d_Law_goes_253 rfl (lv_at hl 6 rfl) ?_
            refine lv_iload hx hb d_Law_goes_254 (lv_at hl 2 rfl) ?_
            refine gw_iald hx hb hK hG (hY6.2.1) (vp_in_nI (by omega) (by omega)) d_Law_goes_256 ?_
            rw [nI_clamp (n := ord (p2 + 1)) (by omega), hE1 (p2 + 1) (by omega)]
            refine gw_calli (gw_runS (As := [.int ((v1 (p2 + 1)).2.2.2.2.2)]) (rest := [.int (p_abs (v1 p2).2.2.2.2.2)]) ⟨hx, hb, hml, hown, hts⟩ (c_Law_amount l E D cI cO cZ z0 Y) (gw_cwS 1 hts (gT_gi wm_779) rfl rfl rfl (hT _ wm_22) (hT _ wm_777) (hT _ wm_778) (by decide +kernel) ⟨Nat.le_of_ble_eq_true rfl, Nat.le_of_ble_eq_true rfl⟩) hF hG rfl hl.1 rfl (Nat.le_of_ble_eq_true rfl) d_Law_goes_257 ⟨Nat.le_of_ble_eq_true rfl, Nat.le_of_ble_eq_true rfl⟩) hG (fun r M4 H locs hp hG => ?_)
            rw [hp.1]
            replace hG := gw_nm hp.2.symm hG
            have hP2 : p_los mm v1 mm 0 = some (p_worse v1 p2 (p2 + 1)) := hP.trans (if_neg (fun z => c_243 (hgap.mpr (by rw [ht2, ht1]; exact z))))
            refine lv_icmp_le (tgt := 268) hx hb d_Law_goes_260 (by decide) (fun c_260 => ?_) (fun c_260 => ?_)
            · skip
              refine lv_iload hx hb d_Law_goes_268 (lv_at hl 2 rfl) ?_
              refine lv_istore (lv' := [(9, .int (nI (ord (p2 + 1)))), (14, .int t2), (13, .int t1), (12, .int (nI (ord (p2 + 1)))), (11, .int (nI (ord p2))), (0, .ref (A 5)), (1, .ref (A 0)), (2, .ref (A 1)), (3, .ref (A 2)), (4, .ref (A 3)), (5, .ref (A 4)), (6, .int (nI (mm + 1))), (7, .ref qs), (10, .int (nI (p2 + 1)))]) hx hb d_Law_goes_270 hl (by decide) rfl (fun ls hl => ?_)
              have hP3 : p_los mm v1 mm 0 = some (p2 + 1) := hP2.trans (congrArg some (show p_worse v1 p2 (p2 + 1) = (p2 + 1) from if_pos c_260))
              refine lv_iinc (v := nI (p2 + 2)) (lv' := [(10, .int (nI (p2 + 2))), (9, .int (nI (ord (p2 + 1)))), (14, .int t2), (13, .int t1), (12, .int (nI (ord (p2 + 1)))), (11, .int (nI (ord p2))), (0, .ref (A 5)), (1, .ref (A 0)), (2, .ref (A 1)), (3, .ref (A 2)), (4, .ref (A 3)), (5, .ref (A 4)), (6, .int (nI (mm + 1))), (7, .ref qs)]) hx hb d_Law_goes_272 hl (k := 13) rfl (nI_succ (p2 + 1)).symm (by decide) rfl (fun ls hl => ?_)
              refine lv_goto (tgt := 156) hx hb d_Law_goes_275 (by decide) ?_
              refine lv_iload hx hb d_Law_goes_156 (lv_at hl 0 rfl) ?_
              refine lv_iload hx hb d_Law_goes_158 (lv_at hl 12 rfl) ?_
              refine lv_icmp_gt (tgt := 278) hx hb d_Law_goes_160 (by decide) (fun z_ => absurd z_ (nI_nlt (by omega) (by omega))) (fun c_160 => ?_)
              refine lv_iload hx hb d_Law_goes_163 (lv_at hl 1 rfl) ?_
              refine lv_if_ge (tgt := 278) hx hb d_Law_goes_165 (by decide) (fun c_165 => ?_) (fun z_ => absurd (nI_pos' (by omega)) z_)
              exact K278s Y fE (p2 + 1) _ _ _ hY6 hYs hYf hE1 hE2 hP3 hG (lv_sub hl [6, 7, 8, 9, 10, 11, 12, 13, 1] rfl)
            · skip
              refine lv_iload hx hb d_Law_goes_263 (lv_at hl 3 rfl) ?_
              refine lv_goto (tgt := 270) hx hb d_Law_goes_265 (by decide) ?_
              refine lv_istore (lv' := [(9, .int (nI (ord p2))), (14, .int t2), (13, .int t1), (12, .int (nI (ord (p2 + 1)))), (11, .int (nI (ord p2))), (0, .ref (A 5)), (1, .ref (A 0)), (2, .ref (A 1)), (3, .ref (A 2)), (4, .ref (A 3)), (5, .ref (A 4)), (6, .int (nI (mm + 1))), (7, .ref qs), (10, .int (nI (p2 + 1)))]) hx hb d_Law_goes_270 hl (by decide) rfl (fun ls hl => ?_)
              have hP3 : p_los mm v1 mm 0 = some p2 := hP2.trans (congrArg some (show p_worse v1 p2 (p2 + 1) = p2 from if_neg c_260))
              refine lv_iinc (v := nI (p2 + 2)) (lv' := [(10, .int (nI (p2 + 2))), (9, .int (nI (ord p2))), (14, .int t2), (13, .int t1), (12, .int (nI (ord (p2 + 1)))), (11, .int (nI (ord p2))), (0, .ref (A 5)), (1, .ref (A 0)), (2, .ref (A 1)), (3, .ref (A 2)), (4, .ref (A 3)), (5, .ref (A 4)), (6, .int (nI (mm + 1))), (7, .ref qs)]) hx hb d_Law_goes_272 hl (k := 13) rfl (nI_succ (p2 + 1)).symm (by decide) rfl (fun ls hl => ?_)
              refine lv_goto (tgt := 156) hx hb d_Law_goes_275 (by decide) ?_
              refine lv_iload hx hb d_Law_goes_156 (lv_at hl 0 rfl) ?_
              refine lv_iload hx hb d_Law_goes_158 (lv_at hl 12 rfl) ?_
              refine lv_icmp_gt (tgt := 278) hx hb d_Law_goes_160 (by decide) (fun z_ => absurd z_ (nI_nlt (by omega) (by omega))) (fun c_160 => ?_)
              refine lv_iload hx hb d_Law_goes_163 (lv_at hl 1 rfl) ?_
              refine lv_if_ge (tgt := 278) hx hb d_Law_goes_165 (by decide) (fun c_165 => ?_) (fun z_ => absurd (nI_pos' (by omega)) z_)
              exact K278s Y fE p2 _ _ _ hY6 hYs hYf hE1 hE2 hP3 hG (lv_sub hl [6, 7, 8, 9, 10, 11, 12, 13, 1] rfl)
    exact loop3 _ _ (Nat.zero_add (mm + 1)) Y _ _ _ ⟨fun d1 hd => by cases hd; rfl, fun hd => absurd hd (Nat.succ_ne_zero mm), rfl⟩ hG (lv_sub hl [2, 3, 4, 5, 6, 7, 8, 9, 1, 0] rfl)
  have K121 : ∀ (Y : gM) (fT : Nat → Int32) (H : Heap) (locs : List Loc) (ls : Array Slot), gw_a6 cI Y A n fb fe ff fu fl fg → Y qs = some (.inl (cI, 8, .inl fg)) → Y qt = some (.inl (cI, mm + 1, .inl fT)) → gw_fr M Y → (∀ p, p < mm + 1 → fT p = (v1 p).2.2.2.2.2) → gw_H E D Y s H locs → lv_has ls 15 [(0, .ref (A 5)), (1, .ref (A 0)), (2, .ref (A 1)), (3, .ref (A 2)), (4, .ref (A 3)), (5, .ref (A 4)), (6, .int (nI (mm + 1))), (7, .ref qs), (8, .ref qt)] → W p l e ({ frames := 1, cells := 2, slots := 16, locals := 23 } : Room) s m args below meth c H locs 2 16 (MQ below (gw_Qi E D (fun r M' => gw_gp cI M A n (mm + 1, ord, v) r M')) args s 2 16 (gw_A E)) (F0 m 121 ls []) := by
    intro Y fT H locs ls hY6 hYs hYt hYf hT hG hl
    refine lv_iconst (v := 1) hx hb d_Law_goes_121 (by decide) ?_
    refine lv_istore (lv' := [(9, .int 1), (0, .ref (A 5)), (1, .ref (A 0)), (2, .ref (A 1)), (3, .ref (A 2)), (4, .ref (A 3)), (5, .ref (A 4)), (6, .int (nI (mm + 1))), (7, .ref qs), (8, .ref qt)]) hx hb d_Law_goes_122 hl (by decide) rfl (fun ls hl => ?_)
    have loop2 : ∀ (d p2 : Nat), p2 + d = mm + 1 → ∀ (X : gM) (H : Heap) (locs : List Loc) (ls : Array Slot), (∃ fX : Nat → Int32, X = gw_up Y (A 1) (.inl (cI, n, .inl fX)) ∧ (∀ p, p < p2 → fX (ord p) = (v1 p).2.2.2.2.2) ∧ ∀ i, (∀ p, p < p2 → ord p ≠ i) → fX i = fe i) → gw_H E D X s H locs → lv_has ls 15 [(0, .ref (A 5)), (1, .ref (A 0)), (2, .ref (A 1)), (3, .ref (A 2)), (4, .ref (A 3)), (5, .ref (A 4)), (6, .int (nI (mm + 1))), (7, .ref qs), (8, .ref qt), (9, .int (nI (p2 + 1)))] → W p l e ({ frames := 1, cells := 2, slots := 16, locals := 23 } : Room) s m args below meth c H locs 2 16 (MQ below (gw_Qi E D (fun r M' => gw_gp cI M A n (mm + 1, ord, v) r M')) args s 2 16 (gw_A E)) (F0 m 124 ls []) := by
      intro d
      induction d with
      | zero =>
        intro p2 hi X H locs ls hI hG hl
        obtain ⟨fX, hX, hXa, hXb⟩ := hI
        have h6X : gw_a6 cI X A n fb fX ff fu fl fg := by rw [hX]; exact hY6.s1 hA
        have hsX : X qs = some (.inl (cI, 8, .inl fg)) := by rw [hX]; exact (gw_miss (hAsn (by decide))).trans hYs
        have htX : X qt = some (.inl (cI, mm + 1, .inl fT)) := by rw [hX]; exact (gw_miss (hAtn (by decide))).trans hYt
        refine lv_iload hx hb d_Law_goes_124 (lv_at hl 9 rfl) ?_
        refine lv_iload hx hb d_Law_goes_126 (lv_at hl 6 rfl) ?_
        refine lv_icmp_gt (tgt := 150) hx hb d_Law_goes_128 (by decide) (fun c_128 => ?_) (fun z_ => absurd (nI_lt (by omega) (by omega)) z_)
        exact K150 X fX _ _ _ h6X hsX (by rw [hX]; exact hYf.up hY6.2.1 gw_isI.mk) (fun p hp => hXa p (by omega)) (fun i hi2 => hXb i (fun p hp => hi2 p (by omega))) hG (lv_sub hl [0, 1, 2, 3, 4, 5, 6, 7] rfl)
      | succ d ih =>
        intro p2 hi X H locs ls hI hG hl
        obtain ⟨fX, hX, hXa, hXb⟩ := hI
        have h6X : gw_a6 cI X A n fb fX ff fu fl fg := by rw [hX]; exact hY6.s1 hA
        have hsX : X qs = some (.inl (cI, 8, .inl fg)) := by rw [hX]; exact (gw_miss (hAsn (by decide))).trans hYs
        have htX : X qt = some (.inl (cI, mm + 1, .inl fT)) := by rw [hX]; exact (gw_miss (hAtn (by decide))).trans hYt
        refine lv_iload hx hb d_Law_goes_124 (lv_at hl 9 rfl) ?_
        refine lv_iload hx hb d_Law_goes_126 (lv_at hl 6 rfl) ?_
        refine lv_icmp_gt (tgt := 150) hx hb d_Law_goes_128 (by decide) (fun z_ => absurd z_ (nI_nlt (by omega) (by omega))) (fun c_128 => ?_)
        have ho2 := hord p2 (by omega)
        refine lv_aload_n hx hb d_Law_goes_131 rfl (lv_at hl 2 rfl) ?_
        refine lv_aload_n hx hb d_Law_goes_132 rfl (lv_at hl 0 rfl) ?_
        refine lv_iload hx hb d_Law_goes_133 (lv_at hl 9 rfl) ?_
        refine gw_iald hx hb hK hG (h6X.2.2.2.2.2) (vp_in_nI (by omega) (by omega)) d_Law_goes_135 ?_
        rw [nI_clamp (n := p2 + 1) (by omega), r6 p2 (by omega)]
        refine lv_aload hx hb d_Law_goes_136 (lv_at hl 8 rfl) ?_
        refine lv_iload hx hb d_Law_goes_138 (lv_at hl 9 rfl) ?_
        refine lv_iconst (v := 1) hx hb d_Law_goes_140 (by decide) ?_
        refine lv_isub hx hb d_Law_goes_141 ?_
        rw [show nI (p2 + 1) - 1 = (nI p2) from nI_pred p2]
        refine gw_iald hx hb hK hG (htX) (vp_in_nI (by omega) (by omega)) d_Law_goes_142 ?_
        rw [nI_clamp (n := p2) (by omega), hT p2 (by omega)]
        refine gw_iast hx hb hK hG h6X.2.1 (vp_in_nI (by omega) (by omega)) d_Law_goes_143 (fun H locs hG => ?_)
        rw [nI_clamp (n := ord p2) (by omega)] at hG
        refine lv_iinc (v := nI (p2 + 2)) (lv' := [(9, .int (nI (p2 + 2))), (0, .ref (A 5)), (1, .ref (A 0)), (2, .ref (A 1)), (3, .ref (A 2)), (4, .ref (A 3)), (5, .ref (A 4)), (6, .int (nI (mm + 1))), (7, .ref qs), (8, .ref qt)]) hx hb d_Law_goes_144 hl (k := 9) rfl (nI_succ (p2 + 1)).symm (by decide) rfl (fun ls hl => ?_)
        refine lv_goto (tgt := 124) hx hb d_Law_goes_147 (by decide) ?_
        obtain ⟨q1, q2⟩ := u_step (val := fun p => (v1 p).2.2.2.2.2) hoi (by omega) hXa hXb rfl
        exact ih (p2 + 1) (by omega) _ _ _ _ ⟨_, by rw [hX, gw_twice], q1, q2⟩ hG (lv_sub hl [1, 2, 3, 4, 5, 6, 7, 8, 9, 0] rfl)
    exact loop2 _ _ (Nat.zero_add (mm + 1)) Y _ _ _ ⟨fe, (gw_same hY6.2.1).symm, fun p hp => absurd hp (Nat.not_lt_zero p), fun _ _ => rfl⟩ hG (lv_sub hl [1, 2, 3, 4, 5, 6, 7, 8, 9, 0] rfl)
  have loop1 : ∀ (d p2 : Nat), p2 + d = mm + 1 → ∀ (X : gM) (H : Heap) (locs : List Loc) (ls : Array Slot), (∃ fX : Nat → Int32, X = gw_up M2 qt (.inl (cI, mm + 1, .inl fX)) ∧ ∀ p, p < p2 → fX p = (v1 p).2.2.2.2.2) → gw_H E D X s H locs → lv_has ls 15 [(0, .ref (A 5)), (1, .ref (A 0)), (2, .ref (A 1)), (3, .ref (A 2)), (4, .ref (A 3)), (5, .ref (A 4)), (6, .int (nI (mm + 1))), (7, .ref qs), (8, .ref qt), (9, .int (nI (p2 + 1)))] → W p l e ({ frames := 1, cells := 2, slots := 16, locals := 23 } : Room) s m args below meth c H locs 2 16 (MQ below (gw_Qi E D (fun r M' => gw_gp cI M A n (mm + 1, ord, v) r M')) args s 2 16 (gw_A E)) (F0 m 23 ls []) := by
    intro d
    induction d with
    | zero =>
      intro p2 hi X H locs ls hI hG hl
      obtain ⟨fX, hX, hXa⟩ := hI
      have h6X : gw_a6 cI X A n fb fe ff fu fl fg := by rw [hX]; exact h62.miss hAt
      have hsX : X qs = some (.inl (cI, 8, .inl fg)) := by rw [hX]; exact (gw_miss hst0).trans hs2
      have htX : X qt = some (.inl (cI, mm + 1, .inl fX)) := by rw [hX]; exact gw_hit
      refine lv_iload hx hb d_Law_goes_23 (lv_at hl 9 rfl) ?_
      refine lv_iload hx hb d_Law_goes_25 (lv_at hl 6 rfl) ?_
      refine lv_icmp_gt (tgt := 121) hx hb d_Law_goes_27 (by decide) (fun c_27 => ?_) (fun z_ => absurd (nI_lt (by omega) (by omega)) z_)
      exact K121 X fX _ _ _ h6X hsX htX (by rw [hX]; exact hfr2.up ht2 gw_isI.mk) (fun p hp => hXa p (by omega)) hG (lv_sub hl [0, 1, 2, 3, 4, 5, 6, 7, 8] rfl)
    | succ d ih =>
      intro p2 hi X H locs ls hI hG hl
      obtain ⟨fX, hX, hXa⟩ := hI
      have h6X : gw_a6 cI X A n fb fe ff fu fl fg := by rw [hX]; exact h62.miss hAt
      have hsX : X qs = some (.inl (cI, 8, .inl fg)) := by rw [hX]; exact (gw_miss hst0).trans hs2
      have htX : X qt = some (.inl (cI, mm + 1, .inl fX)) := by rw [hX]; exact gw_hit
      refine lv_iload hx hb d_Law_goes_23 (lv_at hl 9 rfl) ?_
      refine lv_iload hx hb d_Law_goes_25 (lv_at hl 6 rfl) ?_
      refine lv_icmp_gt (tgt := 121) hx hb d_Law_goes_27 (by decide) (fun z_ => absurd z_ (nI_nlt (by omega) (by omega))) (fun c_27 => ?_)
      have ho2 := hord p2 (by omega)
      have hpv : pv (mm + 1) p2 < mm + 1 := by unfold pv; split <;> omega
      have ho3 := hord _ hpv
      refine lv_aload_n hx hb d_Law_goes_30 rfl (lv_at hl 0 rfl) ?_
      refine lv_iload hx hb d_Law_goes_31 (lv_at hl 9 rfl) ?_
      refine gw_iald hx hb hK hG (h6X.2.2.2.2.2) (vp_in_nI (by omega) (by omega)) d_Law_goes_33 ?_
      rw [nI_clamp (n := p2 + 1) (by omega), r6 p2 (by omega)]
      refine lv_istore (lv' := [(10, .int (nI (ord p2))), (0, .ref (A 5)), (1, .ref (A 0)), (2, .ref (A 1)), (3, .ref (A 2)), (4, .ref (A 3)), (5, .ref (A 4)), (6, .int (nI (mm + 1))), (7, .ref qs), (8, .ref qt), (9, .int (nI (p2 + 1)))]) hx hb d_Law_goes_34 hl (by decide) rfl (fun ls hl => ?_)
      refine lv_aload_n hx hb d_Law_goes_36 rfl (lv_at hl 1 rfl) ?_
      refine lv_iload hx hb d_Law_goes_37 (lv_at hl 10 rfl) ?_
      refine lv_iconst (v := 1) hx hb d_Law_goes_39 (by decide) ?_
      have K53 : ∀ (H : Heap) (locs : List Loc) (ls : Array Slot), gw_H E D X s H locs → lv_has ls 15 [(10, .int (nI (ord p2))), (0, .ref (A 5)), (1, .ref (A 0)), (2, .ref (A 1)), (3, .ref (A 2)), (4, .ref (A 3)), (5, .ref (A 4)), (6, .int (nI (mm + 1))), (7, .ref qs), (8, .ref qt), (9, .int (nI (p2 + 1)))] → W p l e ({ frames := 1, cells := 2, slots := 16, locals := 23 } : Room) s m args below meth c H locs 2 16 (MQ below (gw_Qi E D (fun r M' => gw_gp cI M A n (mm + 1, ord, v) r M')) args s 2 16 (gw_A E)) (F0 m 53 ls [.int (nI (ord (pv (mm + 1) p2)))]) := by
        intro H locs ls hG hl
        refine lv_istore (lv' := [(11, .int (nI (ord (pv (mm + 1) p2)))), (10, .int (nI (ord p2))), (0, .ref (A 5)), (1, .ref (A 0)), (2, .ref (A 1)), (3, .ref (A 2)), (4, .ref (A 3)), (5, .ref (A 4)), (6, .int (nI (mm + 1))), (7, .ref qs), (8, .ref qt), (9, .int (nI (p2 + 1)))]) hx hb d_Law_goes_53 hl (by decide) rfl (fun ls hl => ?_)
        refine lv_aload hx hb d_Law_goes_55 (lv_at hl 10 rfl) ?_
        refine lv_iload hx hb d_Law_goes_57 (lv_at hl 11 rfl) ?_
        refine lv_iconst (v := 1) hx hb d_Law_goes_59 (by decide) ?_
        refine lv_isub hx hb d_Law_goes_60 ?_
        rw [show nI (p2 + 1) - 1 = (nI p2) from nI_pred p2]
        refine lv_aload_n hx hb d_Law_goes_61 rfl (lv_at hl 4 rfl) ?_
        refine lv_iload hx hb d_Law_goes_62 (lv_at hl 1 rfl) ?_
        refine gw_iald hx hb hK hG (h6X.2.1) (vp_in_nI (by omega) (by omega)) d_Law_goes_64 ?_
        rw [nI_clamp (n := ord p2) (by omega), r1 _ ho2]
        refine lv_aload_n hx hb d_Law_goes_65 rfl (lv_at hl 4 rfl) ?_
        refine lv_iload hx hb d_Law_goes_66 (lv_at hl 0 rfl) ?_
        refine gw_iald hx hb hK hG (h6X.2.1) (vp_in_nI (by omega) (by omega)) d_Law_goes_68 ?_
        rw [nI_clamp (n := ord (pv (mm + 1) p2)) (by omega), r1 _ ho3]
        refine lv_iadd hx hb d_Law_goes_69 ?_
        refine lv_iconst (v := 2) hx hb d_Law_goes_70 (by decide) ?_
        refine lv_idiv hx hb d_Law_goes_71 (by decide) ?_
        refine lv_aload_n hx hb d_Law_goes_72 rfl (lv_at hl 3 rfl) ?_
        refine lv_iload hx hb d_Law_goes_73 (lv_at hl 1 rfl) ?_
        refine gw_iald hx hb hK hG (h6X.1) (vp_in_nI (by omega) (by omega)) d_Law_goes_75 ?_
        rw [nI_clamp (n := ord p2) (by omega), r0 _ ho2]
        refine lv_iadd hx hb d_Law_goes_76 ?_
        refine lv_aload_n hx hb d_Law_goes_77 rfl (lv_at hl 3 rfl) ?_
        refine lv_iload hx hb d_Law_goes_78 (lv_at hl 1 rfl) ?_
        refine gw_iald hx hb hK hG (h6X.1) (vp_in_nI (by omega) (by omega)) d_Law_goes_80 ?_
        rw [nI_clamp (n := ord p2) (by omega), r0 _ ho2]
        refine lv_if_le (tgt := 94) hx hb d_Law_goes_81 (by decide) (fun c_81 => ?_) (fun c_81 => ?_)
        · skip
          refine lv_aload_n hx hb d_Law_goes_94 rfl (lv_at hl 3 rfl) ?_
          refine lv_iload hx hb d_Law_goes_95 (lv_at hl 1 rfl) ?_
          refine gw_iald hx hb hK hG (h6X.1) (vp_in_nI (by omega) (by omega)) d_Law_goes_97 ?_
          rw [nI_clamp (n := ord p2) (by omega), r0 _ ho2]
          refine lv_if_ge (tgt := 112) hx hb d_Law_goes_98 (by decide) (fun c_98 => ?_) (fun c_98 => ?_)
          · skip
            refine lv_iconst (v := 0) hx hb d_Law_goes_112 (by decide) ?_
            refine lv_iadd hx hb d_Law_goes_113 ?_
            rw [show (((((v (ord p2)).2.2.2.2.2 + (v (ord (pv (mm + 1) p2))).2.2.2.2.2) / 2) + ((v (ord p2)).2.1)) + 0) = (v1 p2).2.2.2.2.2 from (by rw [hv1]; exact p_lean_z (mm + 1) (fun p => v (ord p)) p2 c_81 c_98)]
            refine gw_iast hx hb hK hG htX (vp_in_nI (by omega) (by omega)) d_Law_goes_114 (fun H locs hG => ?_)
            rw [nI_clamp (n := p2) (by omega)] at hG
            refine lv_iinc (v := nI (p2 + 2)) (lv' := [(9, .int (nI (p2 + 2))), (11, .int (nI (ord (pv (mm + 1) p2)))), (10, .int (nI (ord p2))), (0, .ref (A 5)), (1, .ref (A 0)), (2, .ref (A 1)), (3, .ref (A 2)), (4, .ref (A 3)), (5, .ref (A 4)), (6, .int (nI (mm + 1))), (7, .ref qs), (8, .ref qt)]) hx hb d_Law_goes_115 hl (k := 11) rfl (nI_succ (p2 + 1)).symm (by decide) rfl (fun ls hl => ?_)
            refine lv_goto (tgt := 23) hx hb d_Law_goes_118 (by decide) ?_
            exact ih (p2 + 1) (by omega) _ _ _ _ ⟨_, by rw [hX, gw_twice], fun p hp => by by_cases hpp : p = p2; (subst hpp; exact u_at); (rw [u_no hpp]; exact hXa p (by omega))⟩ hG (lv_sub hl [3, 4, 5, 6, 7, 8, 9, 10, 11, 0] rfl)
          · skip
            refine lv_aload_n hx hb d_Law_goes_101 rfl (lv_at hl 5 rfl) ?_
            refine lv_iload hx hb d_Law_goes_102 (lv_at hl 1 rfl) ?_
            refine gw_iald hx hb hK hG (h6X.2.2.1) (vp_in_nI (by omega) (by omega)) d_Law_goes_104 ?_
            rw [nI_clamp (n := ord p2) (by omega), r2 _ ho2]
            refine lv_bipush (v := 20) hx hb d_Law_goes_105 (by decide) ?_
            refine lv_idiv hx hb d_Law_goes_107 (by decide) ?_
            refine lv_ineg hx hb d_Law_goes_108 ?_
            refine lv_goto (tgt := 113) hx hb d_Law_goes_109 (by decide) ?_
            refine lv_iadd hx hb d_Law_goes_113 ?_
            rw [show (((((v (ord p2)).2.2.2.2.2 + (v (ord (pv (mm + 1) p2))).2.2.2.2.2) / 2) + ((v (ord p2)).2.1)) + (-((v (ord p2)).2.2.1 / 20))) = (v1 p2).2.2.2.2.2 from (by rw [hv1]; exact p_lean_n (mm + 1) (fun p => v (ord p)) p2 c_81 c_98)]
            refine gw_iast hx hb hK hG htX (vp_in_nI (by omega) (by omega)) d_Law_goes_114 (fun H locs hG => ?_)
            rw [nI_clamp (n := p2) (by omega)] at hG
            refine lv_iinc (v := nI (p2 + 2)) (lv' := [(9, .int (nI (p2 + 2))), (11, .int (nI (ord (pv (mm + 1) p2)))), (10, .int (nI (ord p2))), (0, .ref (A 5)), (1, .ref (A 0)), (2, .ref (A 1)), (3, .ref (A 2)), (4, .ref (A 3)), (5, .ref (A 4)), (6, .int (nI (mm + 1))), (7, .ref qs), (8, .ref qt)]) hx hb d_Law_goes_115 hl (k := 11) rfl (nI_succ (p2 + 1)).symm (by decide) rfl (fun ls hl => ?_)
            refine lv_goto (tgt := 23) hx hb d_Law_goes_118 (by decide) ?_
            exact ih (p2 + 1) (by omega) _ _ _ _ ⟨_, by rw [hX, gw_twice], fun p hp => by by_cases hpp : p = p2; (subst hpp; exact u_at); (rw [u_no hpp]; exact hXa p (by omega))⟩ hG (lv_sub hl [3, 4, 5, 6, 7, 8, 9, 10, 11, 0] rfl)
        · skip
          refine lv_aload_n hx hb d_Law_goes_84 rfl (lv_at hl 5 rfl) ?_
          refine lv_iload hx hb d_Law_goes_85 (lv_at hl 1 rfl) ?_
          refine gw_iald hx hb hK hG (h6X.2.2.1) (vp_in_nI (by omega) (by omega)) d_Law_goes_87 ?_
          rw [nI_clamp (n := ord p2) (by omega), r2 _ ho2]
          refine lv_bipush (v := 20) hx hb d_Law_goes_88 (by decide) ?_
          refine lv_idiv hx hb d_Law_goes_90 (by decide) ?_
          refine lv_goto (tgt := 113) hx hb d_Law_goes_91 (by decide) ?_
          refine lv_iadd hx hb d_Law_goes_113 ?_
          rw [show (((((v (ord p2)).2.2.2.2.2 + (v (ord (pv (mm + 1) p2))).2.2.2.2.2) / 2) + ((v (ord p2)).2.1)) + ((v (ord p2)).2.2.1 / 20)) = (v1 p2).2.2.2.2.2 from (by rw [hv1]; exact p_lean_e (mm + 1) (fun p => v (ord p)) p2 (Int32.not_le.mp c_81))]
          refine gw_iast hx hb hK hG htX (vp_in_nI (by omega) (by omega)) d_Law_goes_114 (fun H locs hG => ?_)
          rw [nI_clamp (n := p2) (by omega)] at hG
          refine lv_iinc (v := nI (p2 + 2)) (lv' := [(9, .int (nI (p2 + 2))), (11, .int (nI (ord (pv (mm + 1) p2)))), (10, .int (nI (ord p2))), (0, .ref (A 5)), (1, .ref (A 0)), (2, .ref (A 1)), (3, .ref (A 2)), (4, .ref (A 3)), (5, .ref (A 4)), (6, .int (nI (mm + 1))), (7, .ref qs), (8, .ref qt)]) hx hb d_Law_goes_115 hl (k := 11) rfl (nI_succ (p2 + 1)).symm (by decide) rfl (fun ls hl => ?_)
          refine lv_goto (tgt := 23) hx hb d_Law_goes_118 (by decide) ?_
          exact ih (p2 + 1) (by omega) _ _ _ _ ⟨_, by rw [hX, gw_twice], fun p hp => by by_cases hpp : p = p2; (subst hpp; exact u_at); (rw [u_no hpp]; exact hXa p (by omega))⟩ hG (lv_sub hl [3, 4, 5, 6, 7, 8, 9, 10, 11, 0] rfl)
      by_cases hp0 : p2 = 0
      · skip
        refine lv_icmp_ne (tgt := 48) hx hb d_Law_goes_40 (by decide) (fun z_ => absurd (by rw [hp0]; rfl) z_) (fun c_40 => ?_)
        refine lv_iload hx hb d_Law_goes_43 (lv_at hl 7 rfl) ?_
        refine lv_goto (tgt := 52) hx hb d_Law_goes_45 (by decide) ?_
        refine gw_iald hx hb hK hG (h6X.2.2.2.2.2) (vp_in_nI (by omega) (by omega)) d_Law_goes_52 ?_
        rw [nI_clamp (n := mm + 1) (by omega), r6 mm (by omega)]
        have e53 : nI (ord mm) = nI (ord (pv (mm + 1) p2)) := by rw [hp0]; rfl
        rw [e53]
        exact K53 _ _ _ hG hl
      · skip
        refine lv_icmp_ne (tgt := 48) hx hb d_Law_goes_40 (by decide) (fun c_40 => ?_) (fun z_ => absurd z_ (fun z => absurd ((nI_eq (b := 1) (by omega) (by decide)).mp z) (by omega)))
        refine lv_iload hx hb d_Law_goes_48 (lv_at hl 10 rfl) ?_
        refine lv_iconst (v := 1) hx hb d_Law_goes_50 (by decide) ?_
        refine lv_isub hx hb d_Law_goes_51 ?_
        rw [show nI (p2 + 1) - 1 = (nI p2) from nI_pred p2]
        obtain ⟨p3, rfl⟩ : ∃ p3, p2 = p3 + 1 := ⟨p2 - 1, by omega⟩
        refine gw_iald hx hb hK hG (h6X.2.2.2.2.2) (vp_in_nI (by omega) (by omega)) d_Law_goes_52 ?_
        rw [nI_clamp (n := p3 + 1) (by omega), r6 p3 (by omega)]
        have e53 : nI (ord p3) = nI (ord (pv (mm + 1) (p3 + 1))) := by rw [pv_s]
        rw [e53]
        exact K53 _ _ _ hG hl
  exact loop1 _ _ (Nat.zero_add (mm + 1)) M2 _ _ _ ⟨fun _ => 0, (gw_same ht2).symm, fun p hp => absurd hp (Nat.not_lt_zero p)⟩ hG (lv_sub hl [4, 5, 6, 7, 8, 9, 3, 2, 1, 0] rfl)
