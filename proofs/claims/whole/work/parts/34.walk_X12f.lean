/-! RecordClaimsModel.does(I)Z -/
abbrev cX12_does : ByteArray := prog_14_method_73_code
def yX12_does : MethodName := ⟨RX12, "does", "(I)Z"⟩
theorem dX12_does_0 : decode cX12_does 0 = .ok (.aload_n 0, 1) := by decide +kernel
theorem dX12_does_1 : decode cX12_does 1 = .ok (.getfield 51, 3) := by decide +kernel
theorem dX12_does_4 : decode cX12_does 4 = .ok (.iload_n 1, 1) := by decide +kernel
theorem dX12_does_5 : decode cX12_does 5 = .ok (.iaload, 1) := by decide +kernel
theorem dX12_does_6 : decode cX12_does 6 = .ok (.tableswitch 390 3 19 #[82, 390, 132, 176, 233, 304, 390, 390, 390, 390, 390, 390, 390, 390, 390, 390, 361], 82) := by decide +kernel
theorem dX12_does_88 : decode cX12_does 88 = .ok (.aload_n 0, 1) := by decide +kernel
theorem dX12_does_89 : decode cX12_does 89 = .ok (.aload_n 0, 1) := by decide +kernel
theorem dX12_does_90 : decode cX12_does 90 = .ok (.iload_n 1, 1) := by decide +kernel
theorem dX12_does_91 : decode cX12_does 91 = .ok (.iconst 0, 1) := by decide +kernel
theorem dX12_does_92 : decode cX12_does 92 = .ok (.invokevirtual 342, 3) := by decide +kernel
theorem dX12_does_95 : decode cX12_does 95 = .ok (.aload_n 0, 1) := by decide +kernel
theorem dX12_does_96 : decode cX12_does 96 = .ok (.iload_n 1, 1) := by decide +kernel
theorem dX12_does_97 : decode cX12_does 97 = .ok (.iconst 1, 1) := by decide +kernel
theorem dX12_does_98 : decode cX12_does 98 = .ok (.invokevirtual 342, 3) := by decide +kernel
theorem dX12_does_101 : decode cX12_does 101 = .ok (.aload_n 0, 1) := by decide +kernel
theorem dX12_does_102 : decode cX12_does 102 = .ok (.iload_n 1, 1) := by decide +kernel
theorem dX12_does_103 : decode cX12_does 103 = .ok (.iconst 2, 1) := by decide +kernel
theorem dX12_does_104 : decode cX12_does 104 = .ok (.invokevirtual 342, 3) := by decide +kernel
theorem dX12_does_107 : decode cX12_does 107 = .ok (.aload_n 0, 1) := by decide +kernel
theorem dX12_does_108 : decode cX12_does 108 = .ok (.iload_n 1, 1) := by decide +kernel
theorem dX12_does_109 : decode cX12_does 109 = .ok (.iconst 3, 1) := by decide +kernel
theorem dX12_does_110 : decode cX12_does 110 = .ok (.invokevirtual 342, 3) := by decide +kernel
theorem dX12_does_113 : decode cX12_does 113 = .ok (.aload_n 0, 1) := by decide +kernel
theorem dX12_does_114 : decode cX12_does 114 = .ok (.iload_n 1, 1) := by decide +kernel
theorem dX12_does_115 : decode cX12_does 115 = .ok (.iconst 4, 1) := by decide +kernel
theorem dX12_does_116 : decode cX12_does 116 = .ok (.invokevirtual 342, 3) := by decide +kernel
theorem dX12_does_119 : decode cX12_does 119 = .ok (.aload_n 0, 1) := by decide +kernel
theorem dX12_does_120 : decode cX12_does 120 = .ok (.iload_n 1, 1) := by decide +kernel
theorem dX12_does_121 : decode cX12_does 121 = .ok (.iconst 5, 1) := by decide +kernel
theorem dX12_does_122 : decode cX12_does 122 = .ok (.invokevirtual 342, 3) := by decide +kernel
theorem dX12_does_125 : decode cX12_does 125 = .ok (.invokevirtual 345, 3) := by decide +kernel
theorem dX12_does_128 : decode cX12_does 128 = .ok (.iconst (-1), 1) := by decide +kernel
theorem dX12_does_129 : decode cX12_does 129 = .ok (.if_icmp .eq 7, 3) := by decide +kernel
theorem dX12_does_132 : decode cX12_does 132 = .ok (.iconst 1, 1) := by decide +kernel
theorem dX12_does_133 : decode cX12_does 133 = .ok (.goto 4, 3) := by decide +kernel
theorem dX12_does_136 : decode cX12_does 136 = .ok (.iconst 0, 1) := by decide +kernel
theorem dX12_does_137 : decode cX12_does 137 = .ok (.ireturn, 1) := by decide +kernel
theorem dX12_does_138 : decode cX12_does 138 = .ok (.aload_n 0, 1) := by decide +kernel
theorem dX12_does_139 : decode cX12_does 139 = .ok (.aload_n 0, 1) := by decide +kernel
theorem dX12_does_140 : decode cX12_does 140 = .ok (.iload_n 1, 1) := by decide +kernel
theorem dX12_does_141 : decode cX12_does 141 = .ok (.iconst 0, 1) := by decide +kernel
theorem dX12_does_142 : decode cX12_does 142 = .ok (.invokevirtual 342, 3) := by decide +kernel
theorem dX12_does_145 : decode cX12_does 145 = .ok (.aload_n 0, 1) := by decide +kernel
theorem dX12_does_146 : decode cX12_does 146 = .ok (.iload_n 1, 1) := by decide +kernel
theorem dX12_does_147 : decode cX12_does 147 = .ok (.iconst 1, 1) := by decide +kernel
theorem dX12_does_148 : decode cX12_does 148 = .ok (.invokevirtual 342, 3) := by decide +kernel
theorem dX12_does_151 : decode cX12_does 151 = .ok (.aload_n 0, 1) := by decide +kernel
theorem dX12_does_152 : decode cX12_does 152 = .ok (.iload_n 1, 1) := by decide +kernel
theorem dX12_does_153 : decode cX12_does 153 = .ok (.iconst 2, 1) := by decide +kernel
theorem dX12_does_154 : decode cX12_does 154 = .ok (.invokevirtual 342, 3) := by decide +kernel
theorem dX12_does_157 : decode cX12_does 157 = .ok (.aload_n 0, 1) := by decide +kernel
theorem dX12_does_158 : decode cX12_does 158 = .ok (.iload_n 1, 1) := by decide +kernel
theorem dX12_does_159 : decode cX12_does 159 = .ok (.iconst 3, 1) := by decide +kernel
theorem dX12_does_160 : decode cX12_does 160 = .ok (.invokevirtual 342, 3) := by decide +kernel
theorem dX12_does_163 : decode cX12_does 163 = .ok (.aload_n 0, 1) := by decide +kernel
theorem dX12_does_164 : decode cX12_does 164 = .ok (.iload_n 1, 1) := by decide +kernel
theorem dX12_does_165 : decode cX12_does 165 = .ok (.iconst 4, 1) := by decide +kernel
theorem dX12_does_166 : decode cX12_does 166 = .ok (.invokevirtual 342, 3) := by decide +kernel
theorem dX12_does_169 : decode cX12_does 169 = .ok (.invokevirtual 349, 3) := by decide +kernel
theorem dX12_does_172 : decode cX12_does 172 = .ok (.iconst (-1), 1) := by decide +kernel
theorem dX12_does_173 : decode cX12_does 173 = .ok (.if_icmp .eq 7, 3) := by decide +kernel
theorem dX12_does_176 : decode cX12_does 176 = .ok (.iconst 1, 1) := by decide +kernel
theorem dX12_does_177 : decode cX12_does 177 = .ok (.goto 4, 3) := by decide +kernel
theorem dX12_does_180 : decode cX12_does 180 = .ok (.iconst 0, 1) := by decide +kernel
theorem dX12_does_181 : decode cX12_does 181 = .ok (.ireturn, 1) := by decide +kernel
theorem dX12_does_182 : decode cX12_does 182 = .ok (.aload_n 0, 1) := by decide +kernel
theorem dX12_does_183 : decode cX12_does 183 = .ok (.aload_n 0, 1) := by decide +kernel
theorem dX12_does_184 : decode cX12_does 184 = .ok (.iload_n 1, 1) := by decide +kernel
theorem dX12_does_185 : decode cX12_does 185 = .ok (.iconst 0, 1) := by decide +kernel
theorem dX12_does_186 : decode cX12_does 186 = .ok (.invokevirtual 342, 3) := by decide +kernel
theorem dX12_does_189 : decode cX12_does 189 = .ok (.aload_n 0, 1) := by decide +kernel
theorem dX12_does_190 : decode cX12_does 190 = .ok (.iload_n 1, 1) := by decide +kernel
theorem dX12_does_191 : decode cX12_does 191 = .ok (.iconst 1, 1) := by decide +kernel
theorem dX12_does_192 : decode cX12_does 192 = .ok (.invokevirtual 342, 3) := by decide +kernel
theorem dX12_does_195 : decode cX12_does 195 = .ok (.aload_n 0, 1) := by decide +kernel
theorem dX12_does_196 : decode cX12_does 196 = .ok (.iload_n 1, 1) := by decide +kernel
theorem dX12_does_197 : decode cX12_does 197 = .ok (.iconst 2, 1) := by decide +kernel
theorem dX12_does_198 : decode cX12_does 198 = .ok (.invokevirtual 342, 3) := by decide +kernel
theorem dX12_does_201 : decode cX12_does 201 = .ok (.aload_n 0, 1) := by decide +kernel
theorem dX12_does_202 : decode cX12_does 202 = .ok (.iload_n 1, 1) := by decide +kernel
theorem dX12_does_203 : decode cX12_does 203 = .ok (.iconst 3, 1) := by decide +kernel
theorem dX12_does_204 : decode cX12_does 204 = .ok (.invokevirtual 342, 3) := by decide +kernel
theorem dX12_does_207 : decode cX12_does 207 = .ok (.aload_n 0, 1) := by decide +kernel
theorem dX12_does_208 : decode cX12_does 208 = .ok (.iload_n 1, 1) := by decide +kernel
theorem dX12_does_209 : decode cX12_does 209 = .ok (.iconst 4, 1) := by decide +kernel
theorem dX12_does_210 : decode cX12_does 210 = .ok (.invokevirtual 342, 3) := by decide +kernel
theorem dX12_does_213 : decode cX12_does 213 = .ok (.aload_n 0, 1) := by decide +kernel
theorem dX12_does_214 : decode cX12_does 214 = .ok (.iload_n 1, 1) := by decide +kernel
theorem dX12_does_215 : decode cX12_does 215 = .ok (.iconst 5, 1) := by decide +kernel
theorem dX12_does_216 : decode cX12_does 216 = .ok (.invokevirtual 342, 3) := by decide +kernel
theorem dX12_does_219 : decode cX12_does 219 = .ok (.aload_n 0, 1) := by decide +kernel
theorem dX12_does_220 : decode cX12_does 220 = .ok (.iload_n 1, 1) := by decide +kernel
theorem dX12_does_221 : decode cX12_does 221 = .ok (.bipush 6, 2) := by decide +kernel
theorem dX12_does_223 : decode cX12_does 223 = .ok (.invokevirtual 342, 3) := by decide +kernel
theorem dX12_does_226 : decode cX12_does 226 = .ok (.invokevirtual 352, 3) := by decide +kernel
theorem dX12_does_229 : decode cX12_does 229 = .ok (.iconst (-1), 1) := by decide +kernel
theorem dX12_does_230 : decode cX12_does 230 = .ok (.if_icmp .eq 7, 3) := by decide +kernel
theorem dX12_does_233 : decode cX12_does 233 = .ok (.iconst 1, 1) := by decide +kernel
theorem dX12_does_234 : decode cX12_does 234 = .ok (.goto 4, 3) := by decide +kernel
theorem dX12_does_237 : decode cX12_does 237 = .ok (.iconst 0, 1) := by decide +kernel
theorem dX12_does_238 : decode cX12_does 238 = .ok (.ireturn, 1) := by decide +kernel
theorem dX12_does_239 : decode cX12_does 239 = .ok (.aload_n 0, 1) := by decide +kernel
theorem dX12_does_240 : decode cX12_does 240 = .ok (.aload_n 0, 1) := by decide +kernel
theorem dX12_does_241 : decode cX12_does 241 = .ok (.iload_n 1, 1) := by decide +kernel
theorem dX12_does_242 : decode cX12_does 242 = .ok (.iconst 0, 1) := by decide +kernel
theorem dX12_does_243 : decode cX12_does 243 = .ok (.invokevirtual 342, 3) := by decide +kernel
theorem dX12_does_246 : decode cX12_does 246 = .ok (.aload_n 0, 1) := by decide +kernel
theorem dX12_does_247 : decode cX12_does 247 = .ok (.iload_n 1, 1) := by decide +kernel
theorem dX12_does_248 : decode cX12_does 248 = .ok (.iconst 1, 1) := by decide +kernel
theorem dX12_does_249 : decode cX12_does 249 = .ok (.invokevirtual 342, 3) := by decide +kernel
theorem dX12_does_252 : decode cX12_does 252 = .ok (.aload_n 0, 1) := by decide +kernel
theorem dX12_does_253 : decode cX12_does 253 = .ok (.iload_n 1, 1) := by decide +kernel
theorem dX12_does_254 : decode cX12_does 254 = .ok (.iconst 2, 1) := by decide +kernel
theorem dX12_does_255 : decode cX12_does 255 = .ok (.invokevirtual 342, 3) := by decide +kernel
theorem dX12_does_258 : decode cX12_does 258 = .ok (.aload_n 0, 1) := by decide +kernel
theorem dX12_does_259 : decode cX12_does 259 = .ok (.iload_n 1, 1) := by decide +kernel
theorem dX12_does_260 : decode cX12_does 260 = .ok (.iconst 3, 1) := by decide +kernel
theorem dX12_does_261 : decode cX12_does 261 = .ok (.invokevirtual 342, 3) := by decide +kernel
theorem dX12_does_264 : decode cX12_does 264 = .ok (.aload_n 0, 1) := by decide +kernel
theorem dX12_does_265 : decode cX12_does 265 = .ok (.iload_n 1, 1) := by decide +kernel
theorem dX12_does_266 : decode cX12_does 266 = .ok (.iconst 4, 1) := by decide +kernel
theorem dX12_does_267 : decode cX12_does 267 = .ok (.invokevirtual 342, 3) := by decide +kernel
theorem dX12_does_270 : decode cX12_does 270 = .ok (.aload_n 0, 1) := by decide +kernel
theorem dX12_does_271 : decode cX12_does 271 = .ok (.iload_n 1, 1) := by decide +kernel
theorem dX12_does_272 : decode cX12_does 272 = .ok (.iconst 5, 1) := by decide +kernel
theorem dX12_does_273 : decode cX12_does 273 = .ok (.invokevirtual 342, 3) := by decide +kernel
theorem dX12_does_276 : decode cX12_does 276 = .ok (.aload_n 0, 1) := by decide +kernel
theorem dX12_does_277 : decode cX12_does 277 = .ok (.iload_n 1, 1) := by decide +kernel
theorem dX12_does_278 : decode cX12_does 278 = .ok (.bipush 6, 2) := by decide +kernel
theorem dX12_does_280 : decode cX12_does 280 = .ok (.invokevirtual 342, 3) := by decide +kernel
theorem dX12_does_283 : decode cX12_does 283 = .ok (.aload_n 0, 1) := by decide +kernel
theorem dX12_does_284 : decode cX12_does 284 = .ok (.iload_n 1, 1) := by decide +kernel
theorem dX12_does_285 : decode cX12_does 285 = .ok (.bipush 7, 2) := by decide +kernel
theorem dX12_does_287 : decode cX12_does 287 = .ok (.invokevirtual 342, 3) := by decide +kernel
theorem dX12_does_290 : decode cX12_does 290 = .ok (.aload_n 0, 1) := by decide +kernel
theorem dX12_does_291 : decode cX12_does 291 = .ok (.iload_n 1, 1) := by decide +kernel
theorem dX12_does_292 : decode cX12_does 292 = .ok (.bipush 8, 2) := by decide +kernel
theorem dX12_does_294 : decode cX12_does 294 = .ok (.invokevirtual 342, 3) := by decide +kernel
theorem dX12_does_297 : decode cX12_does 297 = .ok (.invokevirtual 356, 3) := by decide +kernel
theorem dX12_does_300 : decode cX12_does 300 = .ok (.iconst (-1), 1) := by decide +kernel
theorem dX12_does_301 : decode cX12_does 301 = .ok (.if_icmp .eq 7, 3) := by decide +kernel
theorem dX12_does_304 : decode cX12_does 304 = .ok (.iconst 1, 1) := by decide +kernel
theorem dX12_does_305 : decode cX12_does 305 = .ok (.goto 4, 3) := by decide +kernel
theorem dX12_does_308 : decode cX12_does 308 = .ok (.iconst 0, 1) := by decide +kernel
theorem dX12_does_309 : decode cX12_does 309 = .ok (.ireturn, 1) := by decide +kernel
theorem dX12_does_310 : decode cX12_does 310 = .ok (.aload_n 0, 1) := by decide +kernel
theorem dX12_does_311 : decode cX12_does 311 = .ok (.aload_n 0, 1) := by decide +kernel
theorem dX12_does_312 : decode cX12_does 312 = .ok (.iload_n 1, 1) := by decide +kernel
theorem dX12_does_313 : decode cX12_does 313 = .ok (.iconst 0, 1) := by decide +kernel
theorem dX12_does_314 : decode cX12_does 314 = .ok (.invokevirtual 342, 3) := by decide +kernel
theorem dX12_does_317 : decode cX12_does 317 = .ok (.aload_n 0, 1) := by decide +kernel
theorem dX12_does_318 : decode cX12_does 318 = .ok (.iload_n 1, 1) := by decide +kernel
theorem dX12_does_319 : decode cX12_does 319 = .ok (.iconst 1, 1) := by decide +kernel
theorem dX12_does_320 : decode cX12_does 320 = .ok (.invokevirtual 342, 3) := by decide +kernel
theorem dX12_does_323 : decode cX12_does 323 = .ok (.aload_n 0, 1) := by decide +kernel
theorem dX12_does_324 : decode cX12_does 324 = .ok (.iload_n 1, 1) := by decide +kernel
theorem dX12_does_325 : decode cX12_does 325 = .ok (.iconst 2, 1) := by decide +kernel
theorem dX12_does_326 : decode cX12_does 326 = .ok (.invokevirtual 342, 3) := by decide +kernel
theorem dX12_does_329 : decode cX12_does 329 = .ok (.aload_n 0, 1) := by decide +kernel
theorem dX12_does_330 : decode cX12_does 330 = .ok (.iload_n 1, 1) := by decide +kernel
theorem dX12_does_331 : decode cX12_does 331 = .ok (.iconst 3, 1) := by decide +kernel
theorem dX12_does_332 : decode cX12_does 332 = .ok (.invokevirtual 342, 3) := by decide +kernel
theorem dX12_does_335 : decode cX12_does 335 = .ok (.aload_n 0, 1) := by decide +kernel
theorem dX12_does_336 : decode cX12_does 336 = .ok (.iload_n 1, 1) := by decide +kernel
theorem dX12_does_337 : decode cX12_does 337 = .ok (.iconst 4, 1) := by decide +kernel
theorem dX12_does_338 : decode cX12_does 338 = .ok (.invokevirtual 342, 3) := by decide +kernel
theorem dX12_does_341 : decode cX12_does 341 = .ok (.aload_n 0, 1) := by decide +kernel
theorem dX12_does_342 : decode cX12_does 342 = .ok (.iload_n 1, 1) := by decide +kernel
theorem dX12_does_343 : decode cX12_does 343 = .ok (.iconst 5, 1) := by decide +kernel
theorem dX12_does_344 : decode cX12_does 344 = .ok (.invokevirtual 342, 3) := by decide +kernel
theorem dX12_does_347 : decode cX12_does 347 = .ok (.aload_n 0, 1) := by decide +kernel
theorem dX12_does_348 : decode cX12_does 348 = .ok (.iload_n 1, 1) := by decide +kernel
theorem dX12_does_349 : decode cX12_does 349 = .ok (.bipush 6, 2) := by decide +kernel
theorem dX12_does_351 : decode cX12_does 351 = .ok (.invokevirtual 342, 3) := by decide +kernel
theorem dX12_does_354 : decode cX12_does 354 = .ok (.invokevirtual 360, 3) := by decide +kernel
theorem dX12_does_357 : decode cX12_does 357 = .ok (.iconst (-1), 1) := by decide +kernel
theorem dX12_does_358 : decode cX12_does 358 = .ok (.if_icmp .eq 7, 3) := by decide +kernel
theorem dX12_does_361 : decode cX12_does 361 = .ok (.iconst 1, 1) := by decide +kernel
theorem dX12_does_362 : decode cX12_does 362 = .ok (.goto 4, 3) := by decide +kernel
theorem dX12_does_365 : decode cX12_does 365 = .ok (.iconst 0, 1) := by decide +kernel
theorem dX12_does_366 : decode cX12_does 366 = .ok (.ireturn, 1) := by decide +kernel
theorem dX12_does_367 : decode cX12_does 367 = .ok (.aload_n 0, 1) := by decide +kernel
theorem dX12_does_368 : decode cX12_does 368 = .ok (.aload_n 0, 1) := by decide +kernel
theorem dX12_does_369 : decode cX12_does 369 = .ok (.iload_n 1, 1) := by decide +kernel
theorem dX12_does_370 : decode cX12_does 370 = .ok (.iconst 0, 1) := by decide +kernel
theorem dX12_does_371 : decode cX12_does 371 = .ok (.invokevirtual 342, 3) := by decide +kernel
theorem dX12_does_374 : decode cX12_does 374 = .ok (.aload_n 0, 1) := by decide +kernel
theorem dX12_does_375 : decode cX12_does 375 = .ok (.iload_n 1, 1) := by decide +kernel
theorem dX12_does_376 : decode cX12_does 376 = .ok (.iconst 1, 1) := by decide +kernel
theorem dX12_does_377 : decode cX12_does 377 = .ok (.invokevirtual 342, 3) := by decide +kernel
theorem dX12_does_380 : decode cX12_does 380 = .ok (.aload_n 0, 1) := by decide +kernel
theorem dX12_does_381 : decode cX12_does 381 = .ok (.iload_n 1, 1) := by decide +kernel
theorem dX12_does_382 : decode cX12_does 382 = .ok (.iconst 2, 1) := by decide +kernel
theorem dX12_does_383 : decode cX12_does 383 = .ok (.invokevirtual 342, 3) := by decide +kernel
theorem dX12_does_386 : decode cX12_does 386 = .ok (.aload_n 0, 1) := by decide +kernel
theorem dX12_does_387 : decode cX12_does 387 = .ok (.iload_n 1, 1) := by decide +kernel
theorem dX12_does_388 : decode cX12_does 388 = .ok (.iconst 3, 1) := by decide +kernel
theorem dX12_does_389 : decode cX12_does 389 = .ok (.invokevirtual 342, 3) := by decide +kernel
theorem dX12_does_392 : decode cX12_does 392 = .ok (.invokevirtual 363, 3) := by decide +kernel
theorem dX12_does_395 : decode cX12_does 395 = .ok (.ireturn, 1) := by decide +kernel
theorem dX12_does_396 : decode cX12_does 396 = .ok (.aload_n 0, 1) := by decide +kernel
theorem dX12_does_397 : decode cX12_does 397 = .ok (.aload_n 0, 1) := by decide +kernel
theorem dX12_does_398 : decode cX12_does 398 = .ok (.iload_n 1, 1) := by decide +kernel
theorem dX12_does_399 : decode cX12_does 399 = .ok (.iconst 0, 1) := by decide +kernel
theorem dX12_does_400 : decode cX12_does 400 = .ok (.invokevirtual 342, 3) := by decide +kernel
theorem dX12_does_403 : decode cX12_does 403 = .ok (.invokevirtual 366, 3) := by decide +kernel
theorem dX12_does_406 : decode cX12_does 406 = .ok (.ireturn, 1) := by decide +kernel
theorem fcX12_342 : q_LV RX12 342 yX12_a cX12_a 3 (some .int) 2 12 := ⟨q_tb 1491 (by decide +kernel) rfl, q_tb 1493 (by decide +kernel) rfl, q_tbs (q := (yX12_a, 35)) 78 (by decide +kernel) rfl, q_tb 13 (by decide +kernel) rfl, q_tb 1494 (by decide +kernel) rfl, ⟨by decide +kernel, by decide +kernel, by decide +kernel⟩, TX12, 35, rfl⟩
theorem fcX12_345 : q_LV RX12 345 yX12_trades cX12_trades 8 (some .int) 6 12 := ⟨q_tb 1495 (by decide +kernel) rfl, q_tb 1497 (by decide +kernel) rfl, q_tbs (q := (yX12_trades, 35)) 79 (by decide +kernel) rfl, q_tb 13 (by decide +kernel) rfl, q_tb 1498 (by decide +kernel) rfl, ⟨by decide +kernel, by decide +kernel, by decide +kernel⟩, TX12, 35, rfl⟩
theorem fcX12_366 : q_LV RX12 366 yX12_pass cX12_pass 3 (some .boolean) 1 12 := ⟨q_tb 1574 (by decide +kernel) rfl, q_tb 1576 (by decide +kernel) rfl, q_tbs (q := (yX12_pass, 35)) 97 (by decide +kernel) rfl, q_tb 13 (by decide +kernel) rfl, q_tb 1577 (by decide +kernel) rfl, ⟨by decide +kernel, by decide +kernel, by decide +kernel⟩, TX12, 35, rfl⟩
theorem fcX12_349 : q_LV RX12 349 yX12_pays cX12_pays 7 (some .int) 5 12 := ⟨q_tb 1523 (by decide +kernel) rfl, q_tb 1525 (by decide +kernel) rfl, q_tbs (q := (yX12_pays, 35)) 85 (by decide +kernel) rfl, q_tb 13 (by decide +kernel) rfl, q_tb 1526 (by decide +kernel) rfl, ⟨by decide +kernel, by decide +kernel, by decide +kernel⟩, TX12, 35, rfl⟩
theorem fcX12_352 : q_LV RX12 352 yX12_gives cX12_gives 9 (some .int) 7 12 := ⟨q_tb 1548 (by decide +kernel) rfl, q_tb 1550 (by decide +kernel) rfl, q_tbs (q := (yX12_gives, 35)) 91 (by decide +kernel) rfl, q_tb 13 (by decide +kernel) rfl, q_tb 1551 (by decide +kernel) rfl, ⟨by decide +kernel, by decide +kernel, by decide +kernel⟩, TX12, 35, rfl⟩
theorem fcX12_356 : q_LV RX12 356 yX12_offers cX12_offers 11 (some .int) 9 12 := ⟨q_tb 1552 (by decide +kernel) rfl, q_tb 1554 (by decide +kernel) rfl, q_tbs (q := (yX12_offers, 35)) 92 (by decide +kernel) rfl, q_tb 13 (by decide +kernel) rfl, q_tb 1555 (by decide +kernel) rfl, ⟨by decide +kernel, by decide +kernel, by decide +kernel⟩, TX12, 35, rfl⟩
theorem fcX12_360 : q_LV RX12 360 yX12_turns cX12_turns 9 (some .int) 7 12 := ⟨q_tb 1556 (by decide +kernel) rfl, q_tb 1558 (by decide +kernel) rfl, q_tbs (q := (yX12_turns, 35)) 93 (by decide +kernel) rfl, q_tb 13 (by decide +kernel) rfl, q_tb 1559 (by decide +kernel) rfl, ⟨by decide +kernel, by decide +kernel, by decide +kernel⟩, TX12, 35, rfl⟩
theorem fcX12_363 : q_LV RX12 363 yX12_chooses cX12_chooses 5 (some .boolean) 4 12 := ⟨q_tb 1560 (by decide +kernel) rfl, q_tb 1562 (by decide +kernel) rfl, q_tbs (q := (yX12_chooses, 35)) 94 (by decide +kernel) rfl, q_tb 13 (by decide +kernel) rfl, q_tb 1563 (by decide +kernel) rfl, ⟨by decide +kernel, by decide +kernel, by decide +kernel⟩, TX12, 35, rfl⟩
def fX12_does_L396 (n : Nat) (r0 : Nat) (v1 : Int32) (X : Mm) : Option (Int32 × Mm) :=
if mT X r0 = 12 then
bd (fX12_a r0 v1 (0 : Int32) X) fun w25 X400_26 =>
if mT X400_26 r0 = 12 then
bd (fX12_pass n r0 w25 X400_26) fun w28 X403_29 =>
if w28 = 0 ∨ w28 = 1 then some (w28, X403_29) else none
else none
else none
def fX12_does (n : Nat) (r0 : Nat) (v1 : Int32) (X : Mm) : Option (Int32 × Mm) :=
if mT X r0 = 12 then
if mR X r0 29 ≠ 0 then
if mT X (mR X r0 29) = 14 then
if q_b X (mR X r0 29) v1 then
if (mI X (mR X r0 29) (v1).toNatClampNeg) = (3 : Int32) then (
bd (fX12_a r0 v1 (0 : Int32) X) fun w5 X92_6 =>
if mT X92_6 r0 = 12 then
bd (fX12_a r0 v1 (1 : Int32) X92_6) fun w7 X98_8 =>
if mT X98_8 r0 = 12 then
bd (fX12_a r0 v1 (2 : Int32) X98_8) fun w10 X104_11 =>
if mT X104_11 r0 = 12 then
bd (fX12_a r0 v1 (3 : Int32) X104_11) fun w13 X110_14 =>
if mT X110_14 r0 = 12 then
bd (fX12_a r0 v1 (4 : Int32) X110_14) fun w16 X116_17 =>
if mT X116_17 r0 = 12 then
bd (fX12_a r0 v1 (5 : Int32) X116_17) fun w19 X122_20 =>
if mT X122_20 r0 = 12 then
bd (fX12_trades r0 w5 w7 w10 w13 w16 w19 X122_20) fun w22 X125_23 =>
if w22 = (-1 : Int32) then (
some (0, X125_23)
) else (
some (1, X125_23)
)
else none
else none
else none
else none
else none
else none
) else (
if (mI X (mR X r0 29) (v1).toNatClampNeg) = (4 : Int32) then (
fX12_does_L396 n r0 v1 X
) else (
if (mI X (mR X r0 29) (v1).toNatClampNeg) = (5 : Int32) then (
bd (fX12_a r0 v1 (0 : Int32) X) fun w31 X142_32 =>
if mT X142_32 r0 = 12 then
bd (fX12_a r0 v1 (1 : Int32) X142_32) fun w33 X148_34 =>
if mT X148_34 r0 = 12 then
bd (fX12_a r0 v1 (2 : Int32) X148_34) fun w36 X154_37 =>
if mT X154_37 r0 = 12 then
bd (fX12_a r0 v1 (3 : Int32) X154_37) fun w39 X160_40 =>
if mT X160_40 r0 = 12 then
bd (fX12_a r0 v1 (4 : Int32) X160_40) fun w42 X166_43 =>
if mT X166_43 r0 = 12 then
bd (fX12_pays n r0 w31 w33 w36 w39 w42 X166_43) fun w45 X169_46 =>
if w45 = (-1 : Int32) then (
some (0, X169_46)
) else (
some (1, X169_46)
)
else none
else none
else none
else none
else none
) else (
if (mI X (mR X r0 29) (v1).toNatClampNeg) = (6 : Int32) then (
bd (fX12_a r0 v1 (0 : Int32) X) fun w48 X186_49 =>
if mT X186_49 r0 = 12 then
bd (fX12_a r0 v1 (1 : Int32) X186_49) fun w50 X192_51 =>
if mT X192_51 r0 = 12 then
bd (fX12_a r0 v1 (2 : Int32) X192_51) fun w53 X198_54 =>
if mT X198_54 r0 = 12 then
bd (fX12_a r0 v1 (3 : Int32) X198_54) fun w56 X204_57 =>
if mT X204_57 r0 = 12 then
bd (fX12_a r0 v1 (4 : Int32) X204_57) fun w59 X210_60 =>
if mT X210_60 r0 = 12 then
bd (fX12_a r0 v1 (5 : Int32) X210_60) fun w62 X216_63 =>
if mT X216_63 r0 = 12 then
bd (fX12_a r0 v1 (6 : Int32) X216_63) fun w65 X223_66 =>
if mT X223_66 r0 = 12 then
bd (fX12_gives n r0 w48 w50 w53 w56 w59 w62 w65 X223_66) fun w68 X226_69 =>
if w68 = (-1 : Int32) then (
some (0, X226_69)
) else (
some (1, X226_69)
)
else none
else none
else none
else none
else none
else none
else none
) else (
if (mI X (mR X r0 29) (v1).toNatClampNeg) = (7 : Int32) then (
bd (fX12_a r0 v1 (0 : Int32) X) fun w71 X243_72 =>
if mT X243_72 r0 = 12 then
bd (fX12_a r0 v1 (1 : Int32) X243_72) fun w73 X249_74 =>
if mT X249_74 r0 = 12 then
bd (fX12_a r0 v1 (2 : Int32) X249_74) fun w76 X255_77 =>
if mT X255_77 r0 = 12 then
bd (fX12_a r0 v1 (3 : Int32) X255_77) fun w79 X261_80 =>
if mT X261_80 r0 = 12 then
bd (fX12_a r0 v1 (4 : Int32) X261_80) fun w82 X267_83 =>
if mT X267_83 r0 = 12 then
bd (fX12_a r0 v1 (5 : Int32) X267_83) fun w85 X273_86 =>
if mT X273_86 r0 = 12 then
bd (fX12_a r0 v1 (6 : Int32) X273_86) fun w88 X280_89 =>
if mT X280_89 r0 = 12 then
bd (fX12_a r0 v1 (7 : Int32) X280_89) fun w91 X287_92 =>
if mT X287_92 r0 = 12 then
bd (fX12_a r0 v1 (8 : Int32) X287_92) fun w94 X294_95 =>
if mT X294_95 r0 = 12 then
bd (fX12_offers n r0 w71 w73 w76 w79 w82 w85 w88 w91 w94 X294_95) fun w97 X297_98 =>
if w97 = (-1 : Int32) then (
some (0, X297_98)
) else (
some (1, X297_98)
)
else none
else none
else none
else none
else none
else none
else none
else none
else none
) else (
if (mI X (mR X r0 29) (v1).toNatClampNeg) = (8 : Int32) then (
bd (fX12_a r0 v1 (0 : Int32) X) fun w100 X314_101 =>
if mT X314_101 r0 = 12 then
bd (fX12_a r0 v1 (1 : Int32) X314_101) fun w102 X320_103 =>
if mT X320_103 r0 = 12 then
bd (fX12_a r0 v1 (2 : Int32) X320_103) fun w105 X326_106 =>
if mT X326_106 r0 = 12 then
bd (fX12_a r0 v1 (3 : Int32) X326_106) fun w108 X332_109 =>
if mT X332_109 r0 = 12 then
bd (fX12_a r0 v1 (4 : Int32) X332_109) fun w111 X338_112 =>
if mT X338_112 r0 = 12 then
bd (fX12_a r0 v1 (5 : Int32) X338_112) fun w114 X344_115 =>
if mT X344_115 r0 = 12 then
bd (fX12_a r0 v1 (6 : Int32) X344_115) fun w117 X351_118 =>
if mT X351_118 r0 = 12 then
bd (fX12_turns n r0 w100 w102 w105 w108 w111 w114 w117 X351_118) fun w120 X354_121 =>
if w120 = (-1 : Int32) then (
some (0, X354_121)
) else (
some (1, X354_121)
)
else none
else none
else none
else none
else none
else none
else none
) else (
if (mI X (mR X r0 29) (v1).toNatClampNeg) = (9 : Int32) then (
fX12_does_L396 n r0 v1 X
) else (
if (mI X (mR X r0 29) (v1).toNatClampNeg) = (10 : Int32) then (
fX12_does_L396 n r0 v1 X
) else (
if (mI X (mR X r0 29) (v1).toNatClampNeg) = (11 : Int32) then (
fX12_does_L396 n r0 v1 X
) else (
if (mI X (mR X r0 29) (v1).toNatClampNeg) = (12 : Int32) then (
fX12_does_L396 n r0 v1 X
) else (
if (mI X (mR X r0 29) (v1).toNatClampNeg) = (13 : Int32) then (
fX12_does_L396 n r0 v1 X
) else (
if (mI X (mR X r0 29) (v1).toNatClampNeg) = (14 : Int32) then (
fX12_does_L396 n r0 v1 X
) else (
if (mI X (mR X r0 29) (v1).toNatClampNeg) = (15 : Int32) then (
fX12_does_L396 n r0 v1 X
) else (
if (mI X (mR X r0 29) (v1).toNatClampNeg) = (16 : Int32) then (
fX12_does_L396 n r0 v1 X
) else (
if (mI X (mR X r0 29) (v1).toNatClampNeg) = (17 : Int32) then (
fX12_does_L396 n r0 v1 X
) else (
if (mI X (mR X r0 29) (v1).toNatClampNeg) = (18 : Int32) then (
fX12_does_L396 n r0 v1 X
) else (
if (mI X (mR X r0 29) (v1).toNatClampNeg) = (19 : Int32) then (
bd (fX12_a r0 v1 (0 : Int32) X) fun w123 X371_124 =>
if mT X371_124 r0 = 12 then
bd (fX12_a r0 v1 (1 : Int32) X371_124) fun w125 X377_126 =>
if mT X377_126 r0 = 12 then
bd (fX12_a r0 v1 (2 : Int32) X377_126) fun w128 X383_129 =>
if mT X383_129 r0 = 12 then
bd (fX12_a r0 v1 (3 : Int32) X383_129) fun w131 X389_132 =>
if mT X389_132 r0 = 12 then
bd (fX12_chooses r0 w123 w125 w128 w131 X389_132) fun w134 X392_135 =>
if w134 = 0 ∨ w134 = 1 then some (w134, X392_135) else none
else none
else none
else none
else none
) else (
fX12_does_L396 n r0 v1 X
)
)
)
)
)
)
)
)
)
)
)
)
)
)
)
)
)
else none
else none
else none
else none
theorem gX12_does_L396 {E : q_E} {X0 : Mm} (C : Cx E cX12_does RX12 2 (some .boolean) (q_rm 7 172 0 0) X0) (n : Nat) (r0 : Nat) (v1 : Int32) (X : Mm) : Sm E (q_fin E q_eI X0 0 0) 0 0 396 [(0, .ref (q_P E + r0)), (1, .int v1)] [] X (fX12_does_L396 n r0 v1 X) := by
  unfold fX12_does_L396
  refine q_aload_n C 0 dX12_does_396 rfl rfl ?_
  refine q_aload_n C 0 dX12_does_397 rfl rfl ?_
  refine q_iload_n C 1 dX12_does_398 rfl rfl ?_
  refine q_iconst C (0 : Int32) dX12_does_399 rfl ?_
  refine q_chk (fun h27 => ?_)
  refine q_cVI (As := (fun P => [.int v1, .int (0 : Int32)])) C [.ref (q_P E + r0)] (sX12_a r0 v1 (0 : Int32)) fcX12_342 rfl (fun _ => rfl) ⟨Nat.le_of_ble_eq_true rfl, Nat.le_of_ble_eq_true rfl⟩ ⟨Nat.le_of_ble_eq_true rfl, Nat.le_of_ble_eq_true rfl⟩ (Nat.le_of_ble_eq_true rfl) dX12_does_400 h27 (fun w25 X400_26 => ?_)
  refine q_chk (fun h30 => ?_)
  refine q_cVI (As := (fun P => [.int w25])) C [] (sX12_pass n r0 w25) fcX12_366 rfl (fun _ => rfl) ⟨Nat.le_of_ble_eq_true rfl, Nat.le_of_ble_eq_true rfl⟩ ⟨Nat.le_of_ble_eq_true rfl, Nat.le_of_ble_eq_true rfl⟩ (Nat.le_of_ble_eq_true rfl) dX12_does_403 h30 (fun w28 X403_29 => ?_)
  exact q_zret C dX12_does_406
theorem sX12_does (n : Nat) (r0 : Nat) (v1 : Int32) : q_Ct yX12_does cX12_does 2 (some .boolean) 7 172 0 0 q_eI (fun P => [.ref (P + r0), .int v1]) (fX12_does n r0 v1) := by
  refine q_meth (by decide +kernel) (fun P => Nat.le_of_ble_eq_true rfl) (fun E X C hn => ?_)
  show Sm E (q_fin E q_eI X 0 0) 0 0 0 [(0, .ref (q_P E + r0)), (1, .int v1)] [] X _
  unfold fX12_does
  refine q_aload_n C 0 dX12_does_0 rfl rfl ?_
  refine q_chk (fun h1 => ?_)
  refine q_chk (fun h2 => ?_)
  refine p_getR C fgX12_51 rfl dX12_does_1 h1 h2 ?_
  refine q_iload_n C 1 dX12_does_4 rfl rfl ?_
  refine q_chk (fun h3 => ?_)
  refine q_chk (fun h4 => ?_)
  refine p_iald C dX12_does_5 h3 h4 ?_
  refine q_ite (fun e3 => ?_) (fun e3 => ?_)
  · refine q_tabIn C (v := 3) 88 dX12_does_6 (by rw [e3]; rfl) (by decide) (by decide) rfl (by decide) ?_
    refine q_aload_n C 0 dX12_does_88 rfl rfl ?_
    refine q_aload_n C 0 dX12_does_89 rfl rfl ?_
    refine q_iload_n C 1 dX12_does_90 rfl rfl ?_
    refine q_iconst C (0 : Int32) dX12_does_91 rfl ?_
    refine q_cVI (As := (fun P => [.int v1, .int (0 : Int32)])) C [.ref (q_P E + r0)] (sX12_a r0 v1 (0 : Int32)) fcX12_342 rfl (fun _ => rfl) ⟨Nat.le_of_ble_eq_true rfl, Nat.le_of_ble_eq_true rfl⟩ ⟨Nat.le_of_ble_eq_true rfl, Nat.le_of_ble_eq_true rfl⟩ (Nat.le_of_ble_eq_true rfl) dX12_does_92 h1 (fun w5 X92_6 => ?_)
    refine q_aload_n C 0 dX12_does_95 rfl rfl ?_
    refine q_iload_n C 1 dX12_does_96 rfl rfl ?_
    refine q_iconst C (1 : Int32) dX12_does_97 rfl ?_
    refine q_chk (fun h9 => ?_)
    refine q_cVI (As := (fun P => [.int v1, .int (1 : Int32)])) C [.int w5, .ref (q_P E + r0)] (sX12_a r0 v1 (1 : Int32)) fcX12_342 rfl (fun _ => rfl) ⟨Nat.le_of_ble_eq_true rfl, Nat.le_of_ble_eq_true rfl⟩ ⟨Nat.le_of_ble_eq_true rfl, Nat.le_of_ble_eq_true rfl⟩ (Nat.le_of_ble_eq_true rfl) dX12_does_98 h9 (fun w7 X98_8 => ?_)
    refine q_aload_n C 0 dX12_does_101 rfl rfl ?_
    refine q_iload_n C 1 dX12_does_102 rfl rfl ?_
    refine q_iconst C (2 : Int32) dX12_does_103 rfl ?_
    refine q_chk (fun h12 => ?_)
    refine q_cVI (As := (fun P => [.int v1, .int (2 : Int32)])) C [.int w7, .int w5, .ref (q_P E + r0)] (sX12_a r0 v1 (2 : Int32)) fcX12_342 rfl (fun _ => rfl) ⟨Nat.le_of_ble_eq_true rfl, Nat.le_of_ble_eq_true rfl⟩ ⟨Nat.le_of_ble_eq_true rfl, Nat.le_of_ble_eq_true rfl⟩ (Nat.le_of_ble_eq_true rfl) dX12_does_104 h12 (fun w10 X104_11 => ?_)
    refine q_aload_n C 0 dX12_does_107 rfl rfl ?_
    refine q_iload_n C 1 dX12_does_108 rfl rfl ?_
    refine q_iconst C (3 : Int32) dX12_does_109 rfl ?_
    refine q_chk (fun h15 => ?_)
    refine q_cVI (As := (fun P => [.int v1, .int (3 : Int32)])) C [.int w10, .int w7, .int w5, .ref (q_P E + r0)] (sX12_a r0 v1 (3 : Int32)) fcX12_342 rfl (fun _ => rfl) ⟨Nat.le_of_ble_eq_true rfl, Nat.le_of_ble_eq_true rfl⟩ ⟨Nat.le_of_ble_eq_true rfl, Nat.le_of_ble_eq_true rfl⟩ (Nat.le_of_ble_eq_true rfl) dX12_does_110 h15 (fun w13 X110_14 => ?_)
    refine q_aload_n C 0 dX12_does_113 rfl rfl ?_
    refine q_iload_n C 1 dX12_does_114 rfl rfl ?_
    refine q_iconst C (4 : Int32) dX12_does_115 rfl ?_
    refine q_chk (fun h18 => ?_)
    refine q_cVI (As := (fun P => [.int v1, .int (4 : Int32)])) C [.int w13, .int w10, .int w7, .int w5, .ref (q_P E + r0)] (sX12_a r0 v1 (4 : Int32)) fcX12_342 rfl (fun _ => rfl) ⟨Nat.le_of_ble_eq_true rfl, Nat.le_of_ble_eq_true rfl⟩ ⟨Nat.le_of_ble_eq_true rfl, Nat.le_of_ble_eq_true rfl⟩ (Nat.le_of_ble_eq_true rfl) dX12_does_116 h18 (fun w16 X116_17 => ?_)
    refine q_aload_n C 0 dX12_does_119 rfl rfl ?_
    refine q_iload_n C 1 dX12_does_120 rfl rfl ?_
    refine q_iconst C (5 : Int32) dX12_does_121 rfl ?_
    refine q_chk (fun h21 => ?_)
    refine q_cVI (As := (fun P => [.int v1, .int (5 : Int32)])) C [.int w16, .int w13, .int w10, .int w7, .int w5, .ref (q_P E + r0)] (sX12_a r0 v1 (5 : Int32)) fcX12_342 rfl (fun _ => rfl) ⟨Nat.le_of_ble_eq_true rfl, Nat.le_of_ble_eq_true rfl⟩ ⟨Nat.le_of_ble_eq_true rfl, Nat.le_of_ble_eq_true rfl⟩ (Nat.le_of_ble_eq_true rfl) dX12_does_122 h21 (fun w19 X122_20 => ?_)
    refine q_chk (fun h24 => ?_)
    refine q_cVI (As := (fun P => [.int w5, .int w7, .int w10, .int w13, .int w16, .int w19])) C [] (sX12_trades r0 w5 w7 w10 w13 w16 w19) fcX12_345 rfl (fun _ => rfl) ⟨Nat.le_of_ble_eq_true rfl, Nat.le_of_ble_eq_true rfl⟩ ⟨Nat.le_of_ble_eq_true rfl, Nat.le_of_ble_eq_true rfl⟩ (Nat.le_of_ble_eq_true rfl) dX12_does_125 h24 (fun w22 X125_23 => ?_)
    refine q_iconst C (-1 : Int32) dX12_does_128 rfl ?_
    refine q_icmp_eq C 136 dX12_does_129 (by decide) (fun _ => ?_) (fun _ => ?_)
    · refine q_iconst C (0 : Int32) dX12_does_136 rfl ?_
      exact q_zret0 C dX12_does_137
    · refine q_iconst C (1 : Int32) dX12_does_132 rfl ?_
      refine q_goto C 137 dX12_does_133 (by decide) ?_
      exact q_zret1 C dX12_does_137
  · refine q_ite (fun e4 => ?_) (fun e4 => ?_)
    · refine q_tabIn C (v := 4) 396 dX12_does_6 (by rw [e4]; rfl) (by decide) (by decide) rfl (by decide) ?_
      exact gX12_does_L396 C n r0 v1 X
    · refine q_ite (fun e5 => ?_) (fun e5 => ?_)
      · refine q_tabIn C (v := 5) 138 dX12_does_6 (by rw [e5]; rfl) (by decide) (by decide) rfl (by decide) ?_
        refine q_aload_n C 0 dX12_does_138 rfl rfl ?_
        refine q_aload_n C 0 dX12_does_139 rfl rfl ?_
        refine q_iload_n C 1 dX12_does_140 rfl rfl ?_
        refine q_iconst C (0 : Int32) dX12_does_141 rfl ?_
        refine q_cVI (As := (fun P => [.int v1, .int (0 : Int32)])) C [.ref (q_P E + r0)] (sX12_a r0 v1 (0 : Int32)) fcX12_342 rfl (fun _ => rfl) ⟨Nat.le_of_ble_eq_true rfl, Nat.le_of_ble_eq_true rfl⟩ ⟨Nat.le_of_ble_eq_true rfl, Nat.le_of_ble_eq_true rfl⟩ (Nat.le_of_ble_eq_true rfl) dX12_does_142 h1 (fun w31 X142_32 => ?_)
        refine q_aload_n C 0 dX12_does_145 rfl rfl ?_
        refine q_iload_n C 1 dX12_does_146 rfl rfl ?_
        refine q_iconst C (1 : Int32) dX12_does_147 rfl ?_
        refine q_chk (fun h35 => ?_)
        refine q_cVI (As := (fun P => [.int v1, .int (1 : Int32)])) C [.int w31, .ref (q_P E + r0)] (sX12_a r0 v1 (1 : Int32)) fcX12_342 rfl (fun _ => rfl) ⟨Nat.le_of_ble_eq_true rfl, Nat.le_of_ble_eq_true rfl⟩ ⟨Nat.le_of_ble_eq_true rfl, Nat.le_of_ble_eq_true rfl⟩ (Nat.le_of_ble_eq_true rfl) dX12_does_148 h35 (fun w33 X148_34 => ?_)
        refine q_aload_n C 0 dX12_does_151 rfl rfl ?_
        refine q_iload_n C 1 dX12_does_152 rfl rfl ?_
        refine q_iconst C (2 : Int32) dX12_does_153 rfl ?_
        refine q_chk (fun h38 => ?_)
        refine q_cVI (As := (fun P => [.int v1, .int (2 : Int32)])) C [.int w33, .int w31, .ref (q_P E + r0)] (sX12_a r0 v1 (2 : Int32)) fcX12_342 rfl (fun _ => rfl) ⟨Nat.le_of_ble_eq_true rfl, Nat.le_of_ble_eq_true rfl⟩ ⟨Nat.le_of_ble_eq_true rfl, Nat.le_of_ble_eq_true rfl⟩ (Nat.le_of_ble_eq_true rfl) dX12_does_154 h38 (fun w36 X154_37 => ?_)
        refine q_aload_n C 0 dX12_does_157 rfl rfl ?_
        refine q_iload_n C 1 dX12_does_158 rfl rfl ?_
        refine q_iconst C (3 : Int32) dX12_does_159 rfl ?_
        refine q_chk (fun h41 => ?_)
        refine q_cVI (As := (fun P => [.int v1, .int (3 : Int32)])) C [.int w36, .int w33, .int w31, .ref (q_P E + r0)] (sX12_a r0 v1 (3 : Int32)) fcX12_342 rfl (fun _ => rfl) ⟨Nat.le_of_ble_eq_true rfl, Nat.le_of_ble_eq_true rfl⟩ ⟨Nat.le_of_ble_eq_true rfl, Nat.le_of_ble_eq_true rfl⟩ (Nat.le_of_ble_eq_true rfl) dX12_does_160 h41 (fun w39 X160_40 => ?_)
        refine q_aload_n C 0 dX12_does_163 rfl rfl ?_
        refine q_iload_n C 1 dX12_does_164 rfl rfl ?_
        refine q_iconst C (4 : Int32) dX12_does_165 rfl ?_
        refine q_chk (fun h44 => ?_)
        refine q_cVI (As := (fun P => [.int v1, .int (4 : Int32)])) C [.int w39, .int w36, .int w33, .int w31, .ref (q_P E + r0)] (sX12_a r0 v1 (4 : Int32)) fcX12_342 rfl (fun _ => rfl) ⟨Nat.le_of_ble_eq_true rfl, Nat.le_of_ble_eq_true rfl⟩ ⟨Nat.le_of_ble_eq_true rfl, Nat.le_of_ble_eq_true rfl⟩ (Nat.le_of_ble_eq_true rfl) dX12_does_166 h44 (fun w42 X166_43 => ?_)
        refine q_chk (fun h47 => ?_)
        refine q_cVI (As := (fun P => [.int w31, .int w33, .int w36, .int w39, .int w42])) C [] (sX12_pays n r0 w31 w33 w36 w39 w42) fcX12_349 rfl (fun _ => rfl) ⟨Nat.le_of_ble_eq_true rfl, Nat.le_of_ble_eq_true rfl⟩ ⟨Nat.le_of_ble_eq_true rfl, Nat.le_of_ble_eq_true rfl⟩ (Nat.le_of_ble_eq_true rfl) dX12_does_169 h47 (fun w45 X169_46 => ?_)
        refine q_iconst C (-1 : Int32) dX12_does_172 rfl ?_
        refine q_icmp_eq C 180 dX12_does_173 (by decide) (fun _ => ?_) (fun _ => ?_)
        · refine q_iconst C (0 : Int32) dX12_does_180 rfl ?_
          exact q_zret0 C dX12_does_181
        · refine q_iconst C (1 : Int32) dX12_does_176 rfl ?_
          refine q_goto C 181 dX12_does_177 (by decide) ?_
          exact q_zret1 C dX12_does_181
      · refine q_ite (fun e6 => ?_) (fun e6 => ?_)
        · refine q_tabIn C (v := 6) 182 dX12_does_6 (by rw [e6]; rfl) (by decide) (by decide) rfl (by decide) ?_
          refine q_aload_n C 0 dX12_does_182 rfl rfl ?_
          refine q_aload_n C 0 dX12_does_183 rfl rfl ?_
          refine q_iload_n C 1 dX12_does_184 rfl rfl ?_
          refine q_iconst C (0 : Int32) dX12_does_185 rfl ?_
          refine q_cVI (As := (fun P => [.int v1, .int (0 : Int32)])) C [.ref (q_P E + r0)] (sX12_a r0 v1 (0 : Int32)) fcX12_342 rfl (fun _ => rfl) ⟨Nat.le_of_ble_eq_true rfl, Nat.le_of_ble_eq_true rfl⟩ ⟨Nat.le_of_ble_eq_true rfl, Nat.le_of_ble_eq_true rfl⟩ (Nat.le_of_ble_eq_true rfl) dX12_does_186 h1 (fun w48 X186_49 => ?_)
          refine q_aload_n C 0 dX12_does_189 rfl rfl ?_
          refine q_iload_n C 1 dX12_does_190 rfl rfl ?_
          refine q_iconst C (1 : Int32) dX12_does_191 rfl ?_
          refine q_chk (fun h52 => ?_)
          refine q_cVI (As := (fun P => [.int v1, .int (1 : Int32)])) C [.int w48, .ref (q_P E + r0)] (sX12_a r0 v1 (1 : Int32)) fcX12_342 rfl (fun _ => rfl) ⟨Nat.le_of_ble_eq_true rfl, Nat.le_of_ble_eq_true rfl⟩ ⟨Nat.le_of_ble_eq_true rfl, Nat.le_of_ble_eq_true rfl⟩ (Nat.le_of_ble_eq_true rfl) dX12_does_192 h52 (fun w50 X192_51 => ?_)
          refine q_aload_n C 0 dX12_does_195 rfl rfl ?_
          refine q_iload_n C 1 dX12_does_196 rfl rfl ?_
          refine q_iconst C (2 : Int32) dX12_does_197 rfl ?_
          refine q_chk (fun h55 => ?_)
          refine q_cVI (As := (fun P => [.int v1, .int (2 : Int32)])) C [.int w50, .int w48, .ref (q_P E + r0)] (sX12_a r0 v1 (2 : Int32)) fcX12_342 rfl (fun _ => rfl) ⟨Nat.le_of_ble_eq_true rfl, Nat.le_of_ble_eq_true rfl⟩ ⟨Nat.le_of_ble_eq_true rfl, Nat.le_of_ble_eq_true rfl⟩ (Nat.le_of_ble_eq_true rfl) dX12_does_198 h55 (fun w53 X198_54 => ?_)
          refine q_aload_n C 0 dX12_does_201 rfl rfl ?_
          refine q_iload_n C 1 dX12_does_202 rfl rfl ?_
          refine q_iconst C (3 : Int32) dX12_does_203 rfl ?_
          refine q_chk (fun h58 => ?_)
          refine q_cVI (As := (fun P => [.int v1, .int (3 : Int32)])) C [.int w53, .int w50, .int w48, .ref (q_P E + r0)] (sX12_a r0 v1 (3 : Int32)) fcX12_342 rfl (fun _ => rfl) ⟨Nat.le_of_ble_eq_true rfl, Nat.le_of_ble_eq_true rfl⟩ ⟨Nat.le_of_ble_eq_true rfl, Nat.le_of_ble_eq_true rfl⟩ (Nat.le_of_ble_eq_true rfl) dX12_does_204 h58 (fun w56 X204_57 => ?_)
          refine q_aload_n C 0 dX12_does_207 rfl rfl ?_
          refine q_iload_n C 1 dX12_does_208 rfl rfl ?_
          refine q_iconst C (4 : Int32) dX12_does_209 rfl ?_
          refine q_chk (fun h61 => ?_)
          refine q_cVI (As := (fun P => [.int v1, .int (4 : Int32)])) C [.int w56, .int w53, .int w50, .int w48, .ref (q_P E + r0)] (sX12_a r0 v1 (4 : Int32)) fcX12_342 rfl (fun _ => rfl) ⟨Nat.le_of_ble_eq_true rfl, Nat.le_of_ble_eq_true rfl⟩ ⟨Nat.le_of_ble_eq_true rfl, Nat.le_of_ble_eq_true rfl⟩ (Nat.le_of_ble_eq_true rfl) dX12_does_210 h61 (fun w59 X210_60 => ?_)
          refine q_aload_n C 0 dX12_does_213 rfl rfl ?_
          refine q_iload_n C 1 dX12_does_214 rfl rfl ?_
          refine q_iconst C (5 : Int32) dX12_does_215 rfl ?_
          refine q_chk (fun h64 => ?_)
          refine q_cVI (As := (fun P => [.int v1, .int (5 : Int32)])) C [.int w59, .int w56, .int w53, .int w50, .int w48, .ref (q_P E + r0)] (sX12_a r0 v1 (5 : Int32)) fcX12_342 rfl (fun _ => rfl) ⟨Nat.le_of_ble_eq_true rfl, Nat.le_of_ble_eq_true rfl⟩ ⟨Nat.le_of_ble_eq_true rfl, Nat.le_of_ble_eq_true rfl⟩ (Nat.le_of_ble_eq_true rfl) dX12_does_216 h64 (fun w62 X216_63 => ?_)
          refine q_aload_n C 0 dX12_does_219 rfl rfl ?_
          refine q_iload_n C 1 dX12_does_220 rfl rfl ?_
          refine q_bipush C (6 : Int32) dX12_does_221 rfl ?_
          refine q_chk (fun h67 => ?_)
          refine q_cVI (As := (fun P => [.int v1, .int (6 : Int32)])) C [.int w62, .int w59, .int w56, .int w53, .int w50, .int w48, .ref (q_P E + r0)] (sX12_a r0 v1 (6 : Int32)) fcX12_342 rfl (fun _ => rfl) ⟨Nat.le_of_ble_eq_true rfl, Nat.le_of_ble_eq_true rfl⟩ ⟨Nat.le_of_ble_eq_true rfl, Nat.le_of_ble_eq_true rfl⟩ (Nat.le_of_ble_eq_true rfl) dX12_does_223 h67 (fun w65 X223_66 => ?_)
          refine q_chk (fun h70 => ?_)
          refine q_cVI (As := (fun P => [.int w48, .int w50, .int w53, .int w56, .int w59, .int w62, .int w65])) C [] (sX12_gives n r0 w48 w50 w53 w56 w59 w62 w65) fcX12_352 rfl (fun _ => rfl) ⟨Nat.le_of_ble_eq_true rfl, Nat.le_of_ble_eq_true rfl⟩ ⟨Nat.le_of_ble_eq_true rfl, Nat.le_of_ble_eq_true rfl⟩ (Nat.le_of_ble_eq_true rfl) dX12_does_226 h70 (fun w68 X226_69 => ?_)
          refine q_iconst C (-1 : Int32) dX12_does_229 rfl ?_
          refine q_icmp_eq C 237 dX12_does_230 (by decide) (fun _ => ?_) (fun _ => ?_)
          · refine q_iconst C (0 : Int32) dX12_does_237 rfl ?_
            exact q_zret0 C dX12_does_238
          · refine q_iconst C (1 : Int32) dX12_does_233 rfl ?_
            refine q_goto C 238 dX12_does_234 (by decide) ?_
            exact q_zret1 C dX12_does_238
        · refine q_ite (fun e7 => ?_) (fun e7 => ?_)
          · refine q_tabIn C (v := 7) 239 dX12_does_6 (by rw [e7]; rfl) (by decide) (by decide) rfl (by decide) ?_
            refine q_aload_n C 0 dX12_does_239 rfl rfl ?_
            refine q_aload_n C 0 dX12_does_240 rfl rfl ?_
            refine q_iload_n C 1 dX12_does_241 rfl rfl ?_
            refine q_iconst C (0 : Int32) dX12_does_242 rfl ?_
            refine q_cVI (As := (fun P => [.int v1, .int (0 : Int32)])) C [.ref (q_P E + r0)] (sX12_a r0 v1 (0 : Int32)) fcX12_342 rfl (fun _ => rfl) ⟨Nat.le_of_ble_eq_true rfl, Nat.le_of_ble_eq_true rfl⟩ ⟨Nat.le_of_ble_eq_true rfl, Nat.le_of_ble_eq_true rfl⟩ (Nat.le_of_ble_eq_true rfl) dX12_does_243 h1 (fun w71 X243_72 => ?_)
            refine q_aload_n C 0 dX12_does_246 rfl rfl ?_
            refine q_iload_n C 1 dX12_does_247 rfl rfl ?_
            refine q_iconst C (1 : Int32) dX12_does_248 rfl ?_
            refine q_chk (fun h75 => ?_)
            refine q_cVI (As := (fun P => [.int v1, .int (1 : Int32)])) C [.int w71, .ref (q_P E + r0)] (sX12_a r0 v1 (1 : Int32)) fcX12_342 rfl (fun _ => rfl) ⟨Nat.le_of_ble_eq_true rfl, Nat.le_of_ble_eq_true rfl⟩ ⟨Nat.le_of_ble_eq_true rfl, Nat.le_of_ble_eq_true rfl⟩ (Nat.le_of_ble_eq_true rfl) dX12_does_249 h75 (fun w73 X249_74 => ?_)
            refine q_aload_n C 0 dX12_does_252 rfl rfl ?_
            refine q_iload_n C 1 dX12_does_253 rfl rfl ?_
            refine q_iconst C (2 : Int32) dX12_does_254 rfl ?_
            refine q_chk (fun h78 => ?_)
            refine q_cVI (As := (fun P => [.int v1, .int (2 : Int32)])) C [.int w73, .int w71, .ref (q_P E + r0)] (sX12_a r0 v1 (2 : Int32)) fcX12_342 rfl (fun _ => rfl) ⟨Nat.le_of_ble_eq_true rfl, Nat.le_of_ble_eq_true rfl⟩ ⟨Nat.le_of_ble_eq_true rfl, Nat.le_of_ble_eq_true rfl⟩ (Nat.le_of_ble_eq_true rfl) dX12_does_255 h78 (fun w76 X255_77 => ?_)
            refine q_aload_n C 0 dX12_does_258 rfl rfl ?_
            refine q_iload_n C 1 dX12_does_259 rfl rfl ?_
            refine q_iconst C (3 : Int32) dX12_does_260 rfl ?_
            refine q_chk (fun h81 => ?_)
            refine q_cVI (As := (fun P => [.int v1, .int (3 : Int32)])) C [.int w76, .int w73, .int w71, .ref (q_P E + r0)] (sX12_a r0 v1 (3 : Int32)) fcX12_342 rfl (fun _ => rfl) ⟨Nat.le_of_ble_eq_true rfl, Nat.le_of_ble_eq_true rfl⟩ ⟨Nat.le_of_ble_eq_true rfl, Nat.le_of_ble_eq_true rfl⟩ (Nat.le_of_ble_eq_true rfl) dX12_does_261 h81 (fun w79 X261_80 => ?_)
            refine q_aload_n C 0 dX12_does_264 rfl rfl ?_
            refine q_iload_n C 1 dX12_does_265 rfl rfl ?_
            refine q_iconst C (4 : Int32) dX12_does_266 rfl ?_
            refine q_chk (fun h84 => ?_)
            refine q_cVI (As := (fun P => [.int v1, .int (4 : Int32)])) C [.int w79, .int w76, .int w73, .int w71, .ref (q_P E + r0)] (sX12_a r0 v1 (4 : Int32)) fcX12_342 rfl (fun _ => rfl) ⟨Nat.le_of_ble_eq_true rfl, Nat.le_of_ble_eq_true rfl⟩ ⟨Nat.le_of_ble_eq_true rfl, Nat.le_of_ble_eq_true rfl⟩ (Nat.le_of_ble_eq_true rfl) dX12_does_267 h84 (fun w82 X267_83 => ?_)
            refine q_aload_n C 0 dX12_does_270 rfl rfl ?_
            refine q_iload_n C 1 dX12_does_271 rfl rfl ?_
            refine q_iconst C (5 : Int32) dX12_does_272 rfl ?_
            refine q_chk (fun h87 => ?_)
            refine q_cVI (As := (fun P => [.int v1, .int (5 : Int32)])) C [.int w82, .int w79, .int w76, .int w73, .int w71, .ref (q_P E + r0)] (sX12_a r0 v1 (5 : Int32)) fcX12_342 rfl (fun _ => rfl) ⟨Nat.le_of_ble_eq_true rfl, Nat.le_of_ble_eq_true rfl⟩ ⟨Nat.le_of_ble_eq_true rfl, Nat.le_of_ble_eq_true rfl⟩ (Nat.le_of_ble_eq_true rfl) dX12_does_273 h87 (fun w85 X273_86 => ?_)
            refine q_aload_n C 0 dX12_does_276 rfl rfl ?_
            refine q_iload_n C 1 dX12_does_277 rfl rfl ?_
            refine q_bipush C (6 : Int32) dX12_does_278 rfl ?_
            refine q_chk (fun h90 => ?_)
            refine q_cVI (As := (fun P => [.int v1, .int (6 : Int32)])) C [.int w85, .int w82, .int w79, .int w76, .int w73, .int w71, .ref (q_P E + r0)] (sX12_a r0 v1 (6 : Int32)) fcX12_342 rfl (fun _ => rfl) ⟨Nat.le_of_ble_eq_true rfl, Nat.le_of_ble_eq_true rfl⟩ ⟨Nat.le_of_ble_eq_true rfl, Nat.le_of_ble_eq_true rfl⟩ (Nat.le_of_ble_eq_true rfl) dX12_does_280 h90 (fun w88 X280_89 => ?_)
            refine q_aload_n C 0 dX12_does_283 rfl rfl ?_
            refine q_iload_n C 1 dX12_does_284 rfl rfl ?_
            refine q_bipush C (7 : Int32) dX12_does_285 rfl ?_
            refine q_chk (fun h93 => ?_)
            refine q_cVI (As := (fun P => [.int v1, .int (7 : Int32)])) C [.int w88, .int w85, .int w82, .int w79, .int w76, .int w73, .int w71, .ref (q_P E + r0)] (sX12_a r0 v1 (7 : Int32)) fcX12_342 rfl (fun _ => rfl) ⟨Nat.le_of_ble_eq_true rfl, Nat.le_of_ble_eq_true rfl⟩ ⟨Nat.le_of_ble_eq_true rfl, Nat.le_of_ble_eq_true rfl⟩ (Nat.le_of_ble_eq_true rfl) dX12_does_287 h93 (fun w91 X287_92 => ?_)
            refine q_aload_n C 0 dX12_does_290 rfl rfl ?_
            refine q_iload_n C 1 dX12_does_291 rfl rfl ?_
            refine q_bipush C (8 : Int32) dX12_does_292 rfl ?_
            refine q_chk (fun h96 => ?_)
            refine q_cVI16 (As := (fun P => [.int v1, .int (8 : Int32)])) C [.int w91, .int w88, .int w85, .int w82, .int w79, .int w76, .int w73, .int w71, .ref (q_P E + r0)] (sX12_a r0 v1 (8 : Int32)) fcX12_342 rfl (fun _ => rfl) ⟨Nat.le_of_ble_eq_true rfl, Nat.le_of_ble_eq_true rfl⟩ ⟨Nat.le_of_ble_eq_true rfl, Nat.le_of_ble_eq_true rfl⟩ (Nat.le_of_ble_eq_true rfl) dX12_does_294 h96 (fun w94 X294_95 => ?_)
            refine q_chk (fun h99 => ?_)
            refine q_cVI (As := (fun P => [.int w71, .int w73, .int w76, .int w79, .int w82, .int w85, .int w88, .int w91, .int w94])) C [] (sX12_offers n r0 w71 w73 w76 w79 w82 w85 w88 w91 w94) fcX12_356 rfl (fun _ => rfl) ⟨Nat.le_of_ble_eq_true rfl, Nat.le_of_ble_eq_true rfl⟩ ⟨Nat.le_of_ble_eq_true rfl, Nat.le_of_ble_eq_true rfl⟩ (Nat.le_of_ble_eq_true rfl) dX12_does_297 h99 (fun w97 X297_98 => ?_)
            refine q_iconst C (-1 : Int32) dX12_does_300 rfl ?_
            refine q_icmp_eq C 308 dX12_does_301 (by decide) (fun _ => ?_) (fun _ => ?_)
            · refine q_iconst C (0 : Int32) dX12_does_308 rfl ?_
              exact q_zret0 C dX12_does_309
            · refine q_iconst C (1 : Int32) dX12_does_304 rfl ?_
              refine q_goto C 309 dX12_does_305 (by decide) ?_
              exact q_zret1 C dX12_does_309
          · refine q_ite (fun e8 => ?_) (fun e8 => ?_)
            · refine q_tabIn C (v := 8) 310 dX12_does_6 (by rw [e8]; rfl) (by decide) (by decide) rfl (by decide) ?_
              refine q_aload_n C 0 dX12_does_310 rfl rfl ?_
              refine q_aload_n C 0 dX12_does_311 rfl rfl ?_
              refine q_iload_n C 1 dX12_does_312 rfl rfl ?_
              refine q_iconst C (0 : Int32) dX12_does_313 rfl ?_
              refine q_cVI (As := (fun P => [.int v1, .int (0 : Int32)])) C [.ref (q_P E + r0)] (sX12_a r0 v1 (0 : Int32)) fcX12_342 rfl (fun _ => rfl) ⟨Nat.le_of_ble_eq_true rfl, Nat.le_of_ble_eq_true rfl⟩ ⟨Nat.le_of_ble_eq_true rfl, Nat.le_of_ble_eq_true rfl⟩ (Nat.le_of_ble_eq_true rfl) dX12_does_314 h1 (fun w100 X314_101 => ?_)
              refine q_aload_n C 0 dX12_does_317 rfl rfl ?_
              refine q_iload_n C 1 dX12_does_318 rfl rfl ?_
              refine q_iconst C (1 : Int32) dX12_does_319 rfl ?_
              refine q_chk (fun h104 => ?_)
              refine q_cVI (As := (fun P => [.int v1, .int (1 : Int32)])) C [.int w100, .ref (q_P E + r0)] (sX12_a r0 v1 (1 : Int32)) fcX12_342 rfl (fun _ => rfl) ⟨Nat.le_of_ble_eq_true rfl, Nat.le_of_ble_eq_true rfl⟩ ⟨Nat.le_of_ble_eq_true rfl, Nat.le_of_ble_eq_true rfl⟩ (Nat.le_of_ble_eq_true rfl) dX12_does_320 h104 (fun w102 X320_103 => ?_)
              refine q_aload_n C 0 dX12_does_323 rfl rfl ?_
              refine q_iload_n C 1 dX12_does_324 rfl rfl ?_
              refine q_iconst C (2 : Int32) dX12_does_325 rfl ?_
              refine q_chk (fun h107 => ?_)
              refine q_cVI (As := (fun P => [.int v1, .int (2 : Int32)])) C [.int w102, .int w100, .ref (q_P E + r0)] (sX12_a r0 v1 (2 : Int32)) fcX12_342 rfl (fun _ => rfl) ⟨Nat.le_of_ble_eq_true rfl, Nat.le_of_ble_eq_true rfl⟩ ⟨Nat.le_of_ble_eq_true rfl, Nat.le_of_ble_eq_true rfl⟩ (Nat.le_of_ble_eq_true rfl) dX12_does_326 h107 (fun w105 X326_106 => ?_)
              refine q_aload_n C 0 dX12_does_329 rfl rfl ?_
              refine q_iload_n C 1 dX12_does_330 rfl rfl ?_
              refine q_iconst C (3 : Int32) dX12_does_331 rfl ?_
              refine q_chk (fun h110 => ?_)
              refine q_cVI (As := (fun P => [.int v1, .int (3 : Int32)])) C [.int w105, .int w102, .int w100, .ref (q_P E + r0)] (sX12_a r0 v1 (3 : Int32)) fcX12_342 rfl (fun _ => rfl) ⟨Nat.le_of_ble_eq_true rfl, Nat.le_of_ble_eq_true rfl⟩ ⟨Nat.le_of_ble_eq_true rfl, Nat.le_of_ble_eq_true rfl⟩ (Nat.le_of_ble_eq_true rfl) dX12_does_332 h110 (fun w108 X332_109 => ?_)
              refine q_aload_n C 0 dX12_does_335 rfl rfl ?_
              refine q_iload_n C 1 dX12_does_336 rfl rfl ?_
              refine q_iconst C (4 : Int32) dX12_does_337 rfl ?_
              refine q_chk (fun h113 => ?_)
              refine q_cVI (As := (fun P => [.int v1, .int (4 : Int32)])) C [.int w108, .int w105, .int w102, .int w100, .ref (q_P E + r0)] (sX12_a r0 v1 (4 : Int32)) fcX12_342 rfl (fun _ => rfl) ⟨Nat.le_of_ble_eq_true rfl, Nat.le_of_ble_eq_true rfl⟩ ⟨Nat.le_of_ble_eq_true rfl, Nat.le_of_ble_eq_true rfl⟩ (Nat.le_of_ble_eq_true rfl) dX12_does_338 h113 (fun w111 X338_112 => ?_)
              refine q_aload_n C 0 dX12_does_341 rfl rfl ?_
              refine q_iload_n C 1 dX12_does_342 rfl rfl ?_
              refine q_iconst C (5 : Int32) dX12_does_343 rfl ?_
              refine q_chk (fun h116 => ?_)
              refine q_cVI (As := (fun P => [.int v1, .int (5 : Int32)])) C [.int w111, .int w108, .int w105, .int w102, .int w100, .ref (q_P E + r0)] (sX12_a r0 v1 (5 : Int32)) fcX12_342 rfl (fun _ => rfl) ⟨Nat.le_of_ble_eq_true rfl, Nat.le_of_ble_eq_true rfl⟩ ⟨Nat.le_of_ble_eq_true rfl, Nat.le_of_ble_eq_true rfl⟩ (Nat.le_of_ble_eq_true rfl) dX12_does_344 h116 (fun w114 X344_115 => ?_)
              refine q_aload_n C 0 dX12_does_347 rfl rfl ?_
              refine q_iload_n C 1 dX12_does_348 rfl rfl ?_
              refine q_bipush C (6 : Int32) dX12_does_349 rfl ?_
              refine q_chk (fun h119 => ?_)
              refine q_cVI (As := (fun P => [.int v1, .int (6 : Int32)])) C [.int w114, .int w111, .int w108, .int w105, .int w102, .int w100, .ref (q_P E + r0)] (sX12_a r0 v1 (6 : Int32)) fcX12_342 rfl (fun _ => rfl) ⟨Nat.le_of_ble_eq_true rfl, Nat.le_of_ble_eq_true rfl⟩ ⟨Nat.le_of_ble_eq_true rfl, Nat.le_of_ble_eq_true rfl⟩ (Nat.le_of_ble_eq_true rfl) dX12_does_351 h119 (fun w117 X351_118 => ?_)
              refine q_chk (fun h122 => ?_)
              refine q_cVI (As := (fun P => [.int w100, .int w102, .int w105, .int w108, .int w111, .int w114, .int w117])) C [] (sX12_turns n r0 w100 w102 w105 w108 w111 w114 w117) fcX12_360 rfl (fun _ => rfl) ⟨Nat.le_of_ble_eq_true rfl, Nat.le_of_ble_eq_true rfl⟩ ⟨Nat.le_of_ble_eq_true rfl, Nat.le_of_ble_eq_true rfl⟩ (Nat.le_of_ble_eq_true rfl) dX12_does_354 h122 (fun w120 X354_121 => ?_)
              refine q_iconst C (-1 : Int32) dX12_does_357 rfl ?_
              refine q_icmp_eq C 365 dX12_does_358 (by decide) (fun _ => ?_) (fun _ => ?_)
              · refine q_iconst C (0 : Int32) dX12_does_365 rfl ?_
                exact q_zret0 C dX12_does_366
              · refine q_iconst C (1 : Int32) dX12_does_361 rfl ?_
                refine q_goto C 366 dX12_does_362 (by decide) ?_
                exact q_zret1 C dX12_does_366
            · refine q_ite (fun e9 => ?_) (fun e9 => ?_)
              · refine q_tabIn C (v := 9) 396 dX12_does_6 (by rw [e9]; rfl) (by decide) (by decide) rfl (by decide) ?_
                exact gX12_does_L396 C n r0 v1 X
              · refine q_ite (fun e10 => ?_) (fun e10 => ?_)
                · refine q_tabIn C (v := 10) 396 dX12_does_6 (by rw [e10]; rfl) (by decide) (by decide) rfl (by decide) ?_
                  exact gX12_does_L396 C n r0 v1 X
                · refine q_ite (fun e11 => ?_) (fun e11 => ?_)
                  · refine q_tabIn C (v := 11) 396 dX12_does_6 (by rw [e11]; rfl) (by decide) (by decide) rfl (by decide) ?_
                    exact gX12_does_L396 C n r0 v1 X
                  · refine q_ite (fun e12 => ?_) (fun e12 => ?_)
                    · refine q_tabIn C (v := 12) 396 dX12_does_6 (by rw [e12]; rfl) (by decide) (by decide) rfl (by decide) ?_
                      exact gX12_does_L396 C n r0 v1 X
                    · refine q_ite (fun e13 => ?_) (fun e13 => ?_)
                      · refine q_tabIn C (v := 13) 396 dX12_does_6 (by rw [e13]; rfl) (by decide) (by decide) rfl (by decide) ?_
                        exact gX12_does_L396 C n r0 v1 X
                      · refine q_ite (fun e14 => ?_) (fun e14 => ?_)
                        · refine q_tabIn C (v := 14) 396 dX12_does_6 (by rw [e14]; rfl) (by decide) (by decide) rfl (by decide) ?_
                          exact gX12_does_L396 C n r0 v1 X
                        · refine q_ite (fun e15 => ?_) (fun e15 => ?_)
                          · refine q_tabIn C (v := 15) 396 dX12_does_6 (by rw [e15]; rfl) (by decide) (by decide) rfl (by decide) ?_
                            exact gX12_does_L396 C n r0 v1 X
                          · refine q_ite (fun e16 => ?_) (fun e16 => ?_)
                            · refine q_tabIn C (v := 16) 396 dX12_does_6 (by rw [e16]; rfl) (by decide) (by decide) rfl (by decide) ?_
                              exact gX12_does_L396 C n r0 v1 X
                            · refine q_ite (fun e17 => ?_) (fun e17 => ?_)
                              · refine q_tabIn C (v := 17) 396 dX12_does_6 (by rw [e17]; rfl) (by decide) (by decide) rfl (by decide) ?_
                                exact gX12_does_L396 C n r0 v1 X
                              · refine q_ite (fun e18 => ?_) (fun e18 => ?_)
                                · refine q_tabIn C (v := 18) 396 dX12_does_6 (by rw [e18]; rfl) (by decide) (by decide) rfl (by decide) ?_
                                  exact gX12_does_L396 C n r0 v1 X
                                · refine q_ite (fun e19 => ?_) (fun e19 => ?_)
                                  · refine q_tabIn C (v := 19) 367 dX12_does_6 (by rw [e19]; rfl) (by decide) (by decide) rfl (by decide) ?_
                                    refine q_aload_n C 0 dX12_does_367 rfl rfl ?_
                                    refine q_aload_n C 0 dX12_does_368 rfl rfl ?_
                                    refine q_iload_n C 1 dX12_does_369 rfl rfl ?_
                                    refine q_iconst C (0 : Int32) dX12_does_370 rfl ?_
                                    refine q_cVI (As := (fun P => [.int v1, .int (0 : Int32)])) C [.ref (q_P E + r0)] (sX12_a r0 v1 (0 : Int32)) fcX12_342 rfl (fun _ => rfl) ⟨Nat.le_of_ble_eq_true rfl, Nat.le_of_ble_eq_true rfl⟩ ⟨Nat.le_of_ble_eq_true rfl, Nat.le_of_ble_eq_true rfl⟩ (Nat.le_of_ble_eq_true rfl) dX12_does_371 h1 (fun w123 X371_124 => ?_)
                                    refine q_aload_n C 0 dX12_does_374 rfl rfl ?_
                                    refine q_iload_n C 1 dX12_does_375 rfl rfl ?_
                                    refine q_iconst C (1 : Int32) dX12_does_376 rfl ?_
                                    refine q_chk (fun h127 => ?_)
                                    refine q_cVI (As := (fun P => [.int v1, .int (1 : Int32)])) C [.int w123, .ref (q_P E + r0)] (sX12_a r0 v1 (1 : Int32)) fcX12_342 rfl (fun _ => rfl) ⟨Nat.le_of_ble_eq_true rfl, Nat.le_of_ble_eq_true rfl⟩ ⟨Nat.le_of_ble_eq_true rfl, Nat.le_of_ble_eq_true rfl⟩ (Nat.le_of_ble_eq_true rfl) dX12_does_377 h127 (fun w125 X377_126 => ?_)
                                    refine q_aload_n C 0 dX12_does_380 rfl rfl ?_
                                    refine q_iload_n C 1 dX12_does_381 rfl rfl ?_
                                    refine q_iconst C (2 : Int32) dX12_does_382 rfl ?_
                                    refine q_chk (fun h130 => ?_)
                                    refine q_cVI (As := (fun P => [.int v1, .int (2 : Int32)])) C [.int w125, .int w123, .ref (q_P E + r0)] (sX12_a r0 v1 (2 : Int32)) fcX12_342 rfl (fun _ => rfl) ⟨Nat.le_of_ble_eq_true rfl, Nat.le_of_ble_eq_true rfl⟩ ⟨Nat.le_of_ble_eq_true rfl, Nat.le_of_ble_eq_true rfl⟩ (Nat.le_of_ble_eq_true rfl) dX12_does_383 h130 (fun w128 X383_129 => ?_)
                                    refine q_aload_n C 0 dX12_does_386 rfl rfl ?_
                                    refine q_iload_n C 1 dX12_does_387 rfl rfl ?_
                                    refine q_iconst C (3 : Int32) dX12_does_388 rfl ?_
                                    refine q_chk (fun h133 => ?_)
                                    refine q_cVI (As := (fun P => [.int v1, .int (3 : Int32)])) C [.int w128, .int w125, .int w123, .ref (q_P E + r0)] (sX12_a r0 v1 (3 : Int32)) fcX12_342 rfl (fun _ => rfl) ⟨Nat.le_of_ble_eq_true rfl, Nat.le_of_ble_eq_true rfl⟩ ⟨Nat.le_of_ble_eq_true rfl, Nat.le_of_ble_eq_true rfl⟩ (Nat.le_of_ble_eq_true rfl) dX12_does_389 h133 (fun w131 X389_132 => ?_)
                                    refine q_chk (fun h136 => ?_)
                                    refine q_cVI (As := (fun P => [.int w123, .int w125, .int w128, .int w131])) C [] (sX12_chooses r0 w123 w125 w128 w131) fcX12_363 rfl (fun _ => rfl) ⟨Nat.le_of_ble_eq_true rfl, Nat.le_of_ble_eq_true rfl⟩ ⟨Nat.le_of_ble_eq_true rfl, Nat.le_of_ble_eq_true rfl⟩ (Nat.le_of_ble_eq_true rfl) dX12_does_392 h136 (fun w134 X392_135 => ?_)
                                    exact q_zret C dX12_does_395
                                  · have n3 := q_ne e3 (i := 3) rfl
                                    have n4 := q_ne e4 (i := 4) rfl
                                    have n5 := q_ne e5 (i := 5) rfl
                                    have n6 := q_ne e6 (i := 6) rfl
                                    have n7 := q_ne e7 (i := 7) rfl
                                    have n8 := q_ne e8 (i := 8) rfl
                                    have n9 := q_ne e9 (i := 9) rfl
                                    have n10 := q_ne e10 (i := 10) rfl
                                    have n11 := q_ne e11 (i := 11) rfl
                                    have n12 := q_ne e12 (i := 12) rfl
                                    have n13 := q_ne e13 (i := 13) rfl
                                    have n14 := q_ne e14 (i := 14) rfl
                                    have n15 := q_ne e15 (i := 15) rfl
                                    have n16 := q_ne e16 (i := 16) rfl
                                    have n17 := q_ne e17 (i := 17) rfl
                                    have n18 := q_ne e18 (i := 18) rfl
                                    have n19 := q_ne e19 (i := 19) rfl
                                    refine q_tabOut C 396 dX12_does_6 (by omega) (by decide) ?_
                                    exact gX12_does_L396 C n r0 v1 X
/-! RecordClaimsModel.deeds()I -/
abbrev cX12_deeds : ByteArray := prog_14_method_74_code
def yX12_deeds : MethodName := ⟨RX12, "deeds", "()I"⟩
theorem dX12_deeds_0 : decode cX12_deeds 0 = .ok (.aload_n 0, 1) := by decide +kernel
theorem dX12_deeds_1 : decode cX12_deeds 1 = .ok (.iconst 0, 1) := by decide +kernel
theorem dX12_deeds_2 : decode cX12_deeds 2 = .ok (.putfield 63, 3) := by decide +kernel
theorem dX12_deeds_5 : decode cX12_deeds 5 = .ok (.aload_n 0, 1) := by decide +kernel
theorem dX12_deeds_6 : decode cX12_deeds 6 = .ok (.iconst 0, 1) := by decide +kernel
theorem dX12_deeds_7 : decode cX12_deeds 7 = .ok (.putfield 327, 3) := by decide +kernel
theorem dX12_deeds_10 : decode cX12_deeds 10 = .ok (.aload_n 0, 1) := by decide +kernel
theorem dX12_deeds_11 : decode cX12_deeds 11 = .ok (.invokevirtual 318, 3) := by decide +kernel
theorem dX12_deeds_14 : decode cX12_deeds 14 = .ok (.aload_n 0, 1) := by decide +kernel
theorem dX12_deeds_15 : decode cX12_deeds 15 = .ok (.invokevirtual 274, 3) := by decide +kernel
theorem dX12_deeds_18 : decode cX12_deeds 18 = .ok (.ifCond .eq 21, 3) := by decide +kernel
theorem dX12_deeds_21 : decode cX12_deeds 21 = .ok (.aload_n 0, 1) := by decide +kernel
theorem dX12_deeds_22 : decode cX12_deeds 22 = .ok (.getfield 253, 3) := by decide +kernel
theorem dX12_deeds_25 : decode cX12_deeds 25 = .ok (.ifCond .eq 14, 3) := by decide +kernel
theorem dX12_deeds_28 : decode cX12_deeds 28 = .ok (.aload_n 0, 1) := by decide +kernel
theorem dX12_deeds_29 : decode cX12_deeds 29 = .ok (.invokevirtual 369, 3) := by decide +kernel
theorem dX12_deeds_32 : decode cX12_deeds 32 = .ok (.aload_n 0, 1) := by decide +kernel
theorem dX12_deeds_33 : decode cX12_deeds 33 = .ok (.invokevirtual 324, 3) := by decide +kernel
theorem dX12_deeds_36 : decode cX12_deeds 36 = .ok (.goto (-22), 3) := by decide +kernel
theorem dX12_deeds_39 : decode cX12_deeds 39 = .ok (.aload_n 0, 1) := by decide +kernel
theorem dX12_deeds_40 : decode cX12_deeds 40 = .ok (.invokevirtual 274, 3) := by decide +kernel
theorem dX12_deeds_43 : decode cX12_deeds 43 = .ok (.ifCond .ne 5, 3) := by decide +kernel
theorem dX12_deeds_46 : decode cX12_deeds 46 = .ok (.iconst (-1), 1) := by decide +kernel
theorem dX12_deeds_47 : decode cX12_deeds 47 = .ok (.ireturn, 1) := by decide +kernel
theorem dX12_deeds_48 : decode cX12_deeds 48 = .ok (.aload_n 0, 1) := by decide +kernel
theorem dX12_deeds_49 : decode cX12_deeds 49 = .ok (.aload_n 0, 1) := by decide +kernel
theorem dX12_deeds_50 : decode cX12_deeds 50 = .ok (.getfield 11, 3) := by decide +kernel
theorem dX12_deeds_53 : decode cX12_deeds 53 = .ok (.iconst 0, 1) := by decide +kernel
theorem dX12_deeds_54 : decode cX12_deeds 54 = .ok (.aload_n 0, 1) := by decide +kernel
theorem dX12_deeds_55 : decode cX12_deeds 55 = .ok (.getfield 15, 3) := by decide +kernel
theorem dX12_deeds_58 : decode cX12_deeds 58 = .ok (.iconst 0, 1) := by decide +kernel
theorem dX12_deeds_59 : decode cX12_deeds 59 = .ok (.invokevirtual 73, 3) := by decide +kernel
theorem dX12_deeds_62 : decode cX12_deeds 62 = .ok (.iconst 0, 1) := by decide +kernel
theorem dX12_deeds_63 : decode cX12_deeds 63 = .ok (.istore_n 1, 1) := by decide +kernel
theorem dX12_deeds_64 : decode cX12_deeds 64 = .ok (.iload_n 1, 1) := by decide +kernel
theorem dX12_deeds_65 : decode cX12_deeds 65 = .ok (.aload_n 0, 1) := by decide +kernel
theorem dX12_deeds_66 : decode cX12_deeds 66 = .ok (.getfield 327, 3) := by decide +kernel
theorem dX12_deeds_69 : decode cX12_deeds 69 = .ok (.if_icmp .ge 18, 3) := by decide +kernel
theorem dX12_deeds_72 : decode cX12_deeds 72 = .ok (.aload_n 0, 1) := by decide +kernel
theorem dX12_deeds_73 : decode cX12_deeds 73 = .ok (.iload_n 1, 1) := by decide +kernel
theorem dX12_deeds_74 : decode cX12_deeds 74 = .ok (.invokevirtual 372, 3) := by decide +kernel
theorem dX12_deeds_77 : decode cX12_deeds 77 = .ok (.ifCond .eq 10, 3) := by decide +kernel
theorem dX12_deeds_80 : decode cX12_deeds 80 = .ok (.iload_n 1, 1) := by decide +kernel
theorem dX12_deeds_81 : decode cX12_deeds 81 = .ok (.iconst 1, 1) := by decide +kernel
theorem dX12_deeds_82 : decode cX12_deeds 82 = .ok (.iadd, 1) := by decide +kernel
theorem dX12_deeds_83 : decode cX12_deeds 83 = .ok (.istore_n 1, 1) := by decide +kernel
theorem dX12_deeds_84 : decode cX12_deeds 84 = .ok (.goto (-20), 3) := by decide +kernel
theorem dX12_deeds_87 : decode cX12_deeds 87 = .ok (.iload_n 1, 1) := by decide +kernel
theorem dX12_deeds_88 : decode cX12_deeds 88 = .ok (.ifCond .le 7, 3) := by decide +kernel
theorem dX12_deeds_91 : decode cX12_deeds 91 = .ok (.aload_n 0, 1) := by decide +kernel
theorem dX12_deeds_92 : decode cX12_deeds 92 = .ok (.invokevirtual 375, 3) := by decide +kernel
theorem dX12_deeds_95 : decode cX12_deeds 95 = .ok (.iload_n 1, 1) := by decide +kernel
theorem dX12_deeds_96 : decode cX12_deeds 96 = .ok (.ireturn, 1) := by decide +kernel
theorem fcX12_375 : q_LV RX12 375 yX12_keepsBefore cX12_keepsBefore 2 none 0 12 := ⟨q_tb 1654 (by decide +kernel) rfl, q_tb 1656 (by decide +kernel) rfl, q_tbs (q := (yX12_keepsBefore, 35)) 116 (by decide +kernel) rfl, q_tb 13 (by decide +kernel) rfl, q_tb 1657 (by decide +kernel) rfl, ⟨by decide +kernel, by decide +kernel, by decide +kernel⟩, TX12, 35, rfl⟩
theorem fcX12_372 : q_LV RX12 372 yX12_does cX12_does 2 (some .boolean) 1 12 := ⟨q_tb 1487 (by decide +kernel) rfl, q_tb 1489 (by decide +kernel) rfl, q_tbs (q := (yX12_does, 35)) 77 (by decide +kernel) rfl, q_tb 13 (by decide +kernel) rfl, q_tb 1490 (by decide +kernel) rfl, ⟨by decide +kernel, by decide +kernel, by decide +kernel⟩, TX12, 35, rfl⟩
theorem fcX12_369 : q_LV RX12 369 yX12_readsDeed cX12_readsDeed 2 none 0 12 := ⟨q_tb 1459 (by decide +kernel) rfl, q_tb 1461 (by decide +kernel) rfl, q_tbs (q := (yX12_readsDeed, 35)) 70 (by decide +kernel) rfl, q_tb 13 (by decide +kernel) rfl, q_tb 1462 (by decide +kernel) rfl, ⟨by decide +kernel, by decide +kernel, by decide +kernel⟩, TX12, 35, rfl⟩
def fX12_deeds_L95 (n : Nat) (v1 : Int32) (X : Mm) : Option (Int32 × Mm) :=
some (v1, X)
def fX12_deeds_L87 (n : Nat) (r0 : Nat) (v1 : Int32) (X : Mm) : Option (Int32 × Mm) :=
if v1 ≤ 0 then (
fX12_deeds_L95 n v1 X
) else (
if mT X r0 = 12 then
bd (fX12_keepsBefore n r0 X) fun _ X92_21 =>
fX12_deeds_L95 n v1 X92_21
else none
)
def fX12_deeds_L64 (n : Nat) : Nat → Nat → Int32 → Mm → Option (Int32 × Mm)
| 0, _, _, _ => none
| j + 1, r0, v1, X =>
if mT X r0 = 12 then
if (mI X r0 31) ≤ v1 then (
fX12_deeds_L87 n r0 v1 X
) else (
bd (fX12_does n r0 v1 X) fun w23 X74_24 =>
if w23 = 0 then (
fX12_deeds_L87 n r0 v1 X74_24
) else (
nm ((v1 + (1 : Int32))) fun v1_83 =>
(fX12_deeds_L64 n j) r0 v1_83 X74_24
)
)
else none
def fX12_deeds_L39 (n : Nat) (r0 : Nat) (X : Mm) : Option (Int32 × Mm) :=
if mT X r0 = 12 then
bd (fX12_fine r0 X) fun w11 X40_12 =>
if w11 = 0 then (
some ((-1 : Int32), X40_12)
) else (
if mT X40_12 r0 = 12 then
if mR X40_12 r0 1 ≠ 0 then
if mR X40_12 r0 2 ≠ 0 then
bd (fX12_copies n r0 ((mR X40_12 r0 1)) (0 : Int32) ((mR X40_12 r0 2)) (0 : Int32) X40_12) fun _ X59_18 =>
fX12_deeds_L64 n n r0 (0 : Int32) X59_18
else none
else none
else none
)
else none
def fX12_deeds_L14 (n : Nat) : Nat → Nat → Mm → Option (Int32 × Mm)
| 0, _, _ => none
| j + 1, r0, X =>
if mT X r0 = 12 then
bd (fX12_fine r0 X) fun w8 X15_9 =>
if w8 = 0 then (
fX12_deeds_L39 n r0 X15_9
) else (
if mT X15_9 r0 = 12 then
if (mI X15_9 r0 16) = 0 then (
fX12_deeds_L39 n r0 X15_9
) else (
bd (fX12_readsDeed n r0 X15_9) fun _ X29_28 =>
if mT X29_28 r0 = 12 then
bd (fX12_asksEnd n r0 X29_28) fun _ X33_30 =>
(fX12_deeds_L14 n j) r0 X33_30
else none
)
else none
)
else none
def fX12_deeds (n : Nat) (r0 : Nat) (X : Mm) : Option (Int32 × Mm) :=
if mT X r0 = 12 then
nm (sI X r0 0 (0 : Int32)) fun X2_1 =>
if mT X2_1 r0 = 12 then
nm (sI X2_1 r0 31 (0 : Int32)) fun X7_3 =>
if mT X7_3 r0 = 12 then
bd (fX12_begins n r0 X7_3) fun _ X11_6 =>
fX12_deeds_L14 n n r0 X11_6
else none
else none
else none
theorem gX12_deeds_L95 {E : q_E} {X0 : Mm} (C : Cx E cX12_deeds RX12 2 (some .int) (q_rm 9 194 0 0) X0) (n : Nat) (v1 : Int32) (X : Mm) : Sm E (q_fin E q_eI X0 0 0) 0 0 95 [(1, .int v1)] [] X (fX12_deeds_L95 n v1 X) := by
  unfold fX12_deeds_L95
  refine q_iload_n C 0 dX12_deeds_95 rfl rfl ?_
  exact q_iret C dX12_deeds_96
theorem gX12_deeds_L87 {E : q_E} {X0 : Mm} (C : Cx E cX12_deeds RX12 2 (some .int) (q_rm 9 194 0 0) X0) (n : Nat) (r0 : Nat) (v1 : Int32) (X : Mm) : Sm E (q_fin E q_eI X0 0 0) 0 0 87 [(0, .ref (q_P E + r0)), (1, .int v1)] [] X (fX12_deeds_L87 n r0 v1 X) := by
  unfold fX12_deeds_L87
  refine q_iload_n C 1 dX12_deeds_87 rfl rfl ?_
  refine q_if_le C 95 dX12_deeds_88 (by decide) (fun _ => ?_) (fun _ => ?_)
  · refine q_sub C [(1, .int v1)] [1] rfl ?_
    exact gX12_deeds_L95 C n v1 X
  · refine q_aload_n C 0 dX12_deeds_91 rfl rfl ?_
    refine q_chk (fun h22 => ?_)
    refine q_cVV (As := (fun P => [])) C [] (sX12_keepsBefore n r0) fcX12_375 rfl (fun _ => rfl) ⟨Nat.le_of_ble_eq_true rfl, Nat.le_of_ble_eq_true rfl⟩ ⟨Nat.le_of_ble_eq_true rfl, Nat.le_of_ble_eq_true rfl⟩ (Nat.le_of_ble_eq_true rfl) dX12_deeds_92 h22 (fun _ X92_21 => ?_)
    refine q_sub C [(1, .int v1)] [1] rfl ?_
    exact gX12_deeds_L95 C n v1 X92_21
theorem gX12_deeds_L64 {E : q_E} {X0 : Mm} (C : Cx E cX12_deeds RX12 2 (some .int) (q_rm 9 194 0 0) X0) (n : Nat) : ∀ (j : Nat) (r0 : Nat) (v1 : Int32) (X : Mm), Sm E (q_fin E q_eI X0 0 0) 0 0 64 [(0, .ref (q_P E + r0)), (1, .int v1)] [] X (fX12_deeds_L64 n j r0 v1 X) := by
  intro j
  induction j with
  | zero => intros; exact Sm.none
  | succ j ih =>
    intro r0 v1 X
    rw [fX12_deeds_L64]
    refine q_iload_n C 1 dX12_deeds_64 rfl rfl ?_
    refine q_aload_n C 0 dX12_deeds_65 rfl rfl ?_
    refine q_chk (fun h19 => ?_)
    refine p_getI C fgX12_327 rfl dX12_deeds_66 h19 ?_
    refine q_icmp_ge C 87 dX12_deeds_69 (by decide) (fun _ => ?_) (fun _ => ?_)
    · exact gX12_deeds_L87 C n r0 v1 X
    · refine q_aload_n C 0 dX12_deeds_72 rfl rfl ?_
      refine q_iload_n C 1 dX12_deeds_73 rfl rfl ?_
      refine q_cVI (As := (fun P => [.int v1])) C [] (sX12_does n r0 v1) fcX12_372 rfl (fun _ => rfl) ⟨Nat.le_of_ble_eq_true rfl, Nat.le_of_ble_eq_true rfl⟩ ⟨Nat.le_of_ble_eq_true rfl, Nat.le_of_ble_eq_true rfl⟩ (Nat.le_of_ble_eq_true rfl) dX12_deeds_74 h19 (fun w23 X74_24 => ?_)
      refine q_if_eq C 87 dX12_deeds_77 (by decide) (fun _ => ?_) (fun _ => ?_)
      · exact gX12_deeds_L87 C n r0 v1 X74_24
      · refine q_iload_n C 1 dX12_deeds_80 rfl rfl ?_
        refine q_iconst C (1 : Int32) dX12_deeds_81 rfl ?_
        refine q_iadd C dX12_deeds_82 ?_
        refine q_nmi (fun v1_83 => ?_)
        refine q_istore_n C [(1, .int v1_83), (0, .ref (q_P E + r0))] dX12_deeds_83 rfl (Nat.le_of_ble_eq_true rfl) rfl ?_
        refine q_goto C 64 dX12_deeds_84 (by decide) ?_
        refine q_sub C [(0, .ref (q_P E + r0)), (1, .int v1_83)] [1, 0] rfl ?_
        exact ih r0 v1_83 X74_24
theorem gX12_deeds_L39 {E : q_E} {X0 : Mm} (C : Cx E cX12_deeds RX12 2 (some .int) (q_rm 9 194 0 0) X0) (n : Nat) (r0 : Nat) (X : Mm) : Sm E (q_fin E q_eI X0 0 0) 0 0 39 [(0, .ref (q_P E + r0))] [] X (fX12_deeds_L39 n r0 X) := by
  unfold fX12_deeds_L39
  refine q_aload_n C 0 dX12_deeds_39 rfl rfl ?_
  refine q_chk (fun h13 => ?_)
  refine q_cVI (As := (fun P => [])) C [] (sX12_fine r0) fcX12_274 rfl (fun _ => rfl) ⟨Nat.le_of_ble_eq_true rfl, Nat.le_of_ble_eq_true rfl⟩ ⟨Nat.le_of_ble_eq_true rfl, Nat.le_of_ble_eq_true rfl⟩ (Nat.le_of_ble_eq_true rfl) dX12_deeds_40 h13 (fun w11 X40_12 => ?_)
  refine q_if_ne C 48 dX12_deeds_43 (by decide) (fun _ => ?_) (fun _ => ?_)
  · refine q_iconst C (-1 : Int32) dX12_deeds_46 rfl ?_
    exact q_iret C dX12_deeds_47
  · refine q_aload_n C 0 dX12_deeds_48 rfl rfl ?_
    refine q_aload_n C 0 dX12_deeds_49 rfl rfl ?_
    refine q_chk (fun h14 => ?_)
    refine q_chk (fun h15 => ?_)
    refine p_getR C fgX12_11 rfl dX12_deeds_50 h14 h15 ?_
    refine q_iconst C (0 : Int32) dX12_deeds_53 rfl ?_
    refine q_aload_n C 0 dX12_deeds_54 rfl rfl ?_
    refine q_chk (fun h16 => ?_)
    refine p_getR C fgX12_15 rfl dX12_deeds_55 h14 h16 ?_
    refine q_iconst C (0 : Int32) dX12_deeds_58 rfl ?_
    refine q_cVV (As := (fun P => [.ref (P + (mR X40_12 r0 1)), .int (0 : Int32), .ref (P + (mR X40_12 r0 2)), .int (0 : Int32)])) C [] (sX12_copies n r0 ((mR X40_12 r0 1)) (0 : Int32) ((mR X40_12 r0 2)) (0 : Int32)) fcX12_73 rfl (fun _ => rfl) ⟨Nat.le_of_ble_eq_true rfl, Nat.le_of_ble_eq_true rfl⟩ ⟨Nat.le_of_ble_eq_true rfl, Nat.le_of_ble_eq_true rfl⟩ (Nat.le_of_ble_eq_true rfl) dX12_deeds_59 h14 (fun _ X59_18 => ?_)
    refine q_iconst C (0 : Int32) dX12_deeds_62 rfl ?_
    refine q_istore_n C [(1, .int (0 : Int32)), (0, .ref (q_P E + r0))] dX12_deeds_63 rfl (Nat.le_of_ble_eq_true rfl) rfl ?_
    refine q_sub C [(0, .ref (q_P E + r0)), (1, .int (0 : Int32))] [1, 0] rfl ?_
    exact gX12_deeds_L64 C n n r0 (0 : Int32) X59_18
theorem gX12_deeds_L14 {E : q_E} {X0 : Mm} (C : Cx E cX12_deeds RX12 2 (some .int) (q_rm 9 194 0 0) X0) (n : Nat) : ∀ (j : Nat) (r0 : Nat) (X : Mm), Sm E (q_fin E q_eI X0 0 0) 0 0 14 [(0, .ref (q_P E + r0))] [] X (fX12_deeds_L14 n j r0 X) := by
  intro j
  induction j with
  | zero => intros; exact Sm.none
  | succ j ih =>
    intro r0 X
    rw [fX12_deeds_L14]
    refine q_aload_n C 0 dX12_deeds_14 rfl rfl ?_
    refine q_chk (fun h10 => ?_)
    refine q_cVI (As := (fun P => [])) C [] (sX12_fine r0) fcX12_274 rfl (fun _ => rfl) ⟨Nat.le_of_ble_eq_true rfl, Nat.le_of_ble_eq_true rfl⟩ ⟨Nat.le_of_ble_eq_true rfl, Nat.le_of_ble_eq_true rfl⟩ (Nat.le_of_ble_eq_true rfl) dX12_deeds_15 h10 (fun w8 X15_9 => ?_)
    refine q_if_eq C 39 dX12_deeds_18 (by decide) (fun _ => ?_) (fun _ => ?_)
    · exact gX12_deeds_L39 C n r0 X15_9
    · refine q_aload_n C 0 dX12_deeds_21 rfl rfl ?_
      refine q_chk (fun h26 => ?_)
      refine p_getI C fgX12_253 rfl dX12_deeds_22 h26 ?_
      refine q_if_eq C 39 dX12_deeds_25 (by decide) (fun _ => ?_) (fun _ => ?_)
      · exact gX12_deeds_L39 C n r0 X15_9
      · refine q_aload_n C 0 dX12_deeds_28 rfl rfl ?_
        refine q_cVV (As := (fun P => [])) C [] (sX12_readsDeed n r0) fcX12_369 rfl (fun _ => rfl) ⟨Nat.le_of_ble_eq_true rfl, Nat.le_of_ble_eq_true rfl⟩ ⟨Nat.le_of_ble_eq_true rfl, Nat.le_of_ble_eq_true rfl⟩ (Nat.le_of_ble_eq_true rfl) dX12_deeds_29 h26 (fun _ X29_28 => ?_)
        refine q_aload_n C 0 dX12_deeds_32 rfl rfl ?_
        refine q_chk (fun h31 => ?_)
        refine q_cVV (As := (fun P => [])) C [] (sX12_asksEnd n r0) fcX12_324 rfl (fun _ => rfl) ⟨Nat.le_of_ble_eq_true rfl, Nat.le_of_ble_eq_true rfl⟩ ⟨Nat.le_of_ble_eq_true rfl, Nat.le_of_ble_eq_true rfl⟩ (Nat.le_of_ble_eq_true rfl) dX12_deeds_33 h31 (fun _ X33_30 => ?_)
        refine q_goto C 14 dX12_deeds_36 (by decide) ?_
        exact ih r0 X33_30
theorem sX12_deeds (n : Nat) (r0 : Nat) : q_Ct yX12_deeds cX12_deeds 2 (some .int) 9 194 0 0 q_eI (fun P => [.ref (P + r0)]) (fX12_deeds n r0) := by
  refine q_meth (by decide +kernel) (fun P => Nat.le_of_ble_eq_true rfl) (fun E X C hn => ?_)
  show Sm E (q_fin E q_eI X 0 0) 0 0 0 [(0, .ref (q_P E + r0))] [] X _
  unfold fX12_deeds
  refine q_aload_n C 0 dX12_deeds_0 rfl rfl ?_
  refine q_iconst C (0 : Int32) dX12_deeds_1 rfl ?_
  refine q_chk (fun h2 => ?_)
  refine p_putI C fpX12_63 rfl dX12_deeds_2 h2 ?_
  refine q_nmX (fun X2_1 => ?_)
  refine q_aload_n C 0 dX12_deeds_5 rfl rfl ?_
  refine q_iconst C (0 : Int32) dX12_deeds_6 rfl ?_
  refine q_chk (fun h4 => ?_)
  refine p_putI C fpX12_327 rfl dX12_deeds_7 h4 ?_
  refine q_nmX (fun X7_3 => ?_)
  refine q_aload_n C 0 dX12_deeds_10 rfl rfl ?_
  refine q_chk (fun h7 => ?_)
  refine q_cVV (As := (fun P => [])) C [] (sX12_begins n r0) fcX12_318 rfl (fun _ => rfl) ⟨Nat.le_of_ble_eq_true rfl, Nat.le_of_ble_eq_true rfl⟩ ⟨Nat.le_of_ble_eq_true rfl, Nat.le_of_ble_eq_true rfl⟩ (Nat.le_of_ble_eq_true rfl) dX12_deeds_11 h7 (fun _ X11_6 => ?_)
  exact gX12_deeds_L14 C n n r0 X11_6
/-! RecordClaimsModel.fault(I)I -/
abbrev cX12_fault : ByteArray := prog_14_method_75_code
def yX12_fault : MethodName := ⟨RX12, "fault", "(I)I"⟩
theorem dX12_fault_0 : decode cX12_fault 0 = .ok (.aload_n 0, 1) := by decide +kernel
theorem dX12_fault_1 : decode cX12_fault 1 = .ok (.iconst 0, 1) := by decide +kernel
theorem dX12_fault_2 : decode cX12_fault 2 = .ok (.putfield 63, 3) := by decide +kernel
theorem dX12_fault_5 : decode cX12_fault 5 = .ok (.iload_n 1, 1) := by decide +kernel
theorem dX12_fault_6 : decode cX12_fault 6 = .ok (.ifCond .ne 10, 3) := by decide +kernel
theorem dX12_fault_9 : decode cX12_fault 9 = .ok (.aload_n 0, 1) := by decide +kernel
theorem dX12_fault_10 : decode cX12_fault 10 = .ok (.getfield 231, 3) := by decide +kernel
theorem dX12_fault_13 : decode cX12_fault 13 = .ok (.goto 16, 3) := by decide +kernel
theorem dX12_fault_16 : decode cX12_fault 16 = .ok (.iload_n 1, 1) := by decide +kernel
theorem dX12_fault_17 : decode cX12_fault 17 = .ok (.iconst 1, 1) := by decide +kernel
theorem dX12_fault_18 : decode cX12_fault 18 = .ok (.if_icmp .ne 10, 3) := by decide +kernel
theorem dX12_fault_21 : decode cX12_fault 21 = .ok (.aload_n 0, 1) := by decide +kernel
theorem dX12_fault_22 : decode cX12_fault 22 = .ok (.getfield 37, 3) := by decide +kernel
theorem dX12_fault_25 : decode cX12_fault 25 = .ok (.goto 4, 3) := by decide +kernel
theorem dX12_fault_28 : decode cX12_fault 28 = .ok (.iconst (-1), 1) := by decide +kernel
theorem dX12_fault_29 : decode cX12_fault 29 = .ok (.ireturn, 1) := by decide +kernel
theorem fgX12_37 : q_Fg RX12 37 12 23 := q_Fg.of (C := RX12) (T := TX12) (N := 35) rfl (by decide) inX12 1274 (by decide +kernel) rfl rfl
def fX12_fault (r0 : Nat) (v1 : Int32) (X : Mm) : Option (Int32 × Mm) :=
if mT X r0 = 12 then
nm (sI X r0 0 (0 : Int32)) fun X2_1 =>
if v1 = 0 then (
if mT X2_1 r0 = 12 then
some ((mI X2_1 r0 22), X2_1)
else none
) else (
if v1 = (1 : Int32) then (
if mT X2_1 r0 = 12 then
some ((mI X2_1 r0 23), X2_1)
else none
) else (
some ((-1 : Int32), X2_1)
)
)
else none
theorem sX12_fault (r0 : Nat) (v1 : Int32) : q_Ct yX12_fault cX12_fault 2 (some .int) 0 0 0 0 q_eI (fun P => [.ref (P + r0), .int v1]) (fX12_fault r0 v1) := by
  refine q_meth (by decide +kernel) (fun P => Nat.le_of_ble_eq_true rfl) (fun E X C hn => ?_)
  show Sm E (q_fin E q_eI X 0 0) 0 0 0 [(0, .ref (q_P E + r0)), (1, .int v1)] [] X _
  unfold fX12_fault
  refine q_aload_n C 0 dX12_fault_0 rfl rfl ?_
  refine q_iconst C (0 : Int32) dX12_fault_1 rfl ?_
  refine q_chk (fun h2 => ?_)
  refine p_putI C fpX12_63 rfl dX12_fault_2 h2 ?_
  refine q_nmX (fun X2_1 => ?_)
  refine q_iload_n C 1 dX12_fault_5 rfl rfl ?_
  refine q_if_ne C 16 dX12_fault_6 (by decide) (fun _ => ?_) (fun _ => ?_)
  · refine q_aload_n C 0 dX12_fault_9 rfl rfl ?_
    refine q_chk (fun h3 => ?_)
    refine p_getI C fgX12_231 rfl dX12_fault_10 h3 ?_
    refine q_goto C 29 dX12_fault_13 (by decide) ?_
    exact q_iret C dX12_fault_29
  · refine q_iload_n C 1 dX12_fault_16 rfl rfl ?_
    refine q_iconst C (1 : Int32) dX12_fault_17 rfl ?_
    refine q_icmp_ne C 28 dX12_fault_18 (by decide) (fun _ => ?_) (fun _ => ?_)
    · refine q_aload_n C 0 dX12_fault_21 rfl rfl ?_
      refine q_chk (fun h4 => ?_)
      refine p_getI C fgX12_37 rfl dX12_fault_22 h4 ?_
      refine q_goto C 29 dX12_fault_25 (by decide) ?_
      exact q_iret C dX12_fault_29
    · refine q_iconst C (-1 : Int32) dX12_fault_28 rfl ?_
      exact q_iret C dX12_fault_29
/-! RecordClaimsModel.done(I)I -/
abbrev cX12_done : ByteArray := prog_14_method_76_code
def yX12_done : MethodName := ⟨RX12, "done", "(I)I"⟩
theorem dX12_done_0 : decode cX12_done 0 = .ok (.iload_n 1, 1) := by decide +kernel
theorem dX12_done_1 : decode cX12_done 1 = .ok (.iconst (-1), 1) := by decide +kernel
theorem dX12_done_2 : decode cX12_done 2 = .ok (.if_icmp .eq 7, 3) := by decide +kernel
theorem dX12_done_5 : decode cX12_done 5 = .ok (.aload_n 0, 1) := by decide +kernel
theorem dX12_done_6 : decode cX12_done 6 = .ok (.invokevirtual 375, 3) := by decide +kernel
theorem dX12_done_9 : decode cX12_done 9 = .ok (.iload_n 1, 1) := by decide +kernel
theorem dX12_done_10 : decode cX12_done 10 = .ok (.ireturn, 1) := by decide +kernel
def fX12_done_L9 (n : Nat) (v1 : Int32) (X : Mm) : Option (Int32 × Mm) :=
some (v1, X)
def fX12_done (n : Nat) (r0 : Nat) (v1 : Int32) (X : Mm) : Option (Int32 × Mm) :=
if v1 = (-1 : Int32) then (
fX12_done_L9 n v1 X
) else (
if mT X r0 = 12 then
bd (fX12_keepsBefore n r0 X) fun _ X6_2 =>
fX12_done_L9 n v1 X6_2
else none
)
theorem gX12_done_L9 {E : q_E} {X0 : Mm} (C : Cx E cX12_done RX12 2 (some .int) (q_rm 2 46 0 0) X0) (n : Nat) (v1 : Int32) (X : Mm) : Sm E (q_fin E q_eI X0 0 0) 0 0 9 [(1, .int v1)] [] X (fX12_done_L9 n v1 X) := by
  unfold fX12_done_L9
  refine q_iload_n C 0 dX12_done_9 rfl rfl ?_
  exact q_iret C dX12_done_10
theorem sX12_done (n : Nat) (r0 : Nat) (v1 : Int32) : q_Ct yX12_done cX12_done 2 (some .int) 2 46 0 0 q_eI (fun P => [.ref (P + r0), .int v1]) (fX12_done n r0 v1) := by
  refine q_meth (by decide +kernel) (fun P => Nat.le_of_ble_eq_true rfl) (fun E X C hn => ?_)
  show Sm E (q_fin E q_eI X 0 0) 0 0 0 [(0, .ref (q_P E + r0)), (1, .int v1)] [] X _
  unfold fX12_done
  refine q_iload_n C 1 dX12_done_0 rfl rfl ?_
  refine q_iconst C (-1 : Int32) dX12_done_1 rfl ?_
  refine q_icmp_eq C 9 dX12_done_2 (by decide) (fun _ => ?_) (fun _ => ?_)
  · refine q_sub C [(1, .int v1)] [1] rfl ?_
    exact gX12_done_L9 C n v1 X
  · refine q_aload_n C 0 dX12_done_5 rfl rfl ?_
    refine q_chk (fun h3 => ?_)
    refine q_cVV (As := (fun P => [])) C [] (sX12_keepsBefore n r0) fcX12_375 rfl (fun _ => rfl) ⟨Nat.le_of_ble_eq_true rfl, Nat.le_of_ble_eq_true rfl⟩ ⟨Nat.le_of_ble_eq_true rfl, Nat.le_of_ble_eq_true rfl⟩ (Nat.le_of_ble_eq_true rfl) dX12_done_6 h3 (fun _ X6_2 => ?_)
    refine q_sub C [(1, .int v1)] [1] rfl ?_
    exact gX12_done_L9 C n v1 X6_2
/-! RecordClaimsModel.trade(IIIIII)I -/
abbrev cX12_trade : ByteArray := prog_14_method_77_code
def yX12_trade : MethodName := ⟨RX12, "trade", "(IIIIII)I"⟩
theorem dX12_trade_0 : decode cX12_trade 0 = .ok (.aload_n 0, 1) := by decide +kernel
theorem dX12_trade_1 : decode cX12_trade 1 = .ok (.iconst 0, 1) := by decide +kernel
theorem dX12_trade_2 : decode cX12_trade 2 = .ok (.putfield 63, 3) := by decide +kernel
theorem dX12_trade_5 : decode cX12_trade 5 = .ok (.aload_n 0, 1) := by decide +kernel
theorem dX12_trade_6 : decode cX12_trade 6 = .ok (.aload_n 0, 1) := by decide +kernel
theorem dX12_trade_7 : decode cX12_trade 7 = .ok (.getfield 11, 3) := by decide +kernel
theorem dX12_trade_10 : decode cX12_trade 10 = .ok (.iconst 0, 1) := by decide +kernel
theorem dX12_trade_11 : decode cX12_trade 11 = .ok (.aload_n 0, 1) := by decide +kernel
theorem dX12_trade_12 : decode cX12_trade 12 = .ok (.getfield 15, 3) := by decide +kernel
theorem dX12_trade_15 : decode cX12_trade 15 = .ok (.iconst 0, 1) := by decide +kernel
theorem dX12_trade_16 : decode cX12_trade 16 = .ok (.invokevirtual 73, 3) := by decide +kernel
theorem dX12_trade_19 : decode cX12_trade 19 = .ok (.aload_n 0, 1) := by decide +kernel
theorem dX12_trade_20 : decode cX12_trade 20 = .ok (.aload_n 0, 1) := by decide +kernel
theorem dX12_trade_21 : decode cX12_trade 21 = .ok (.iload_n 1, 1) := by decide +kernel
theorem dX12_trade_22 : decode cX12_trade 22 = .ok (.iload_n 2, 1) := by decide +kernel
theorem dX12_trade_23 : decode cX12_trade 23 = .ok (.iload_n 3, 1) := by decide +kernel
theorem dX12_trade_24 : decode cX12_trade 24 = .ok (.iload 4, 2) := by decide +kernel
theorem dX12_trade_26 : decode cX12_trade 26 = .ok (.iload 5, 2) := by decide +kernel
theorem dX12_trade_28 : decode cX12_trade 28 = .ok (.iload 6, 2) := by decide +kernel
theorem dX12_trade_30 : decode cX12_trade 30 = .ok (.invokevirtual 345, 3) := by decide +kernel
theorem dX12_trade_33 : decode cX12_trade 33 = .ok (.invokevirtual 378, 3) := by decide +kernel
theorem dX12_trade_36 : decode cX12_trade 36 = .ok (.ireturn, 1) := by decide +kernel
theorem fcX12_378 : q_LV RX12 378 yX12_done cX12_done 2 (some .int) 1 12 := ⟨q_tb 1666 (by decide +kernel) rfl, q_tb 1668 (by decide +kernel) rfl, q_tbs (q := (yX12_done, 35)) 117 (by decide +kernel) rfl, q_tb 13 (by decide +kernel) rfl, q_tb 1669 (by decide +kernel) rfl, ⟨by decide +kernel, by decide +kernel, by decide +kernel⟩, TX12, 35, rfl⟩
def fX12_trade (n : Nat) (r0 : Nat) (v1 : Int32) (v2 : Int32) (v3 : Int32) (v4 : Int32) (v5 : Int32) (v6 : Int32) (X : Mm) : Option (Int32 × Mm) :=
if mT X r0 = 12 then
nm (sI X r0 0 (0 : Int32)) fun X2_1 =>
if mT X2_1 r0 = 12 then
if mR X2_1 r0 1 ≠ 0 then
if mR X2_1 r0 2 ≠ 0 then
bd (fX12_copies n r0 ((mR X2_1 r0 1)) (0 : Int32) ((mR X2_1 r0 2)) (0 : Int32) X2_1) fun _ X16_7 =>
if mT X16_7 r0 = 12 then
bd (fX12_trades r0 v1 v2 v3 v4 v5 v6 X16_7) fun w8 X30_9 =>
if mT X30_9 r0 = 12 then
bd (fX12_done n r0 w8 X30_9) fun w11 X33_12 =>
some (w11, X33_12)
else none
else none
else none
else none
else none
else none
theorem sX12_trade (n : Nat) (r0 : Nat) (v1 : Int32) (v2 : Int32) (v3 : Int32) (v4 : Int32) (v5 : Int32) (v6 : Int32) : q_Ct yX12_trade cX12_trade 7 (some .int) 3 74 0 0 q_eI (fun P => [.ref (P + r0), .int v1, .int v2, .int v3, .int v4, .int v5, .int v6]) (fX12_trade n r0 v1 v2 v3 v4 v5 v6) := by
  refine q_meth (by decide +kernel) (fun P => Nat.le_of_ble_eq_true rfl) (fun E X C hn => ?_)
  show Sm E (q_fin E q_eI X 0 0) 0 0 0 [(0, .ref (q_P E + r0)), (1, .int v1), (2, .int v2), (3, .int v3), (4, .int v4), (5, .int v5), (6, .int v6)] [] X _
  unfold fX12_trade
  refine q_aload_n C 0 dX12_trade_0 rfl rfl ?_
  refine q_iconst C (0 : Int32) dX12_trade_1 rfl ?_
  refine q_chk (fun h2 => ?_)
  refine p_putI C fpX12_63 rfl dX12_trade_2 h2 ?_
  refine q_nmX (fun X2_1 => ?_)
  refine q_aload_n C 0 dX12_trade_5 rfl rfl ?_
  refine q_aload_n C 0 dX12_trade_6 rfl rfl ?_
  refine q_chk (fun h3 => ?_)
  refine q_chk (fun h4 => ?_)
  refine p_getR C fgX12_11 rfl dX12_trade_7 h3 h4 ?_
  refine q_iconst C (0 : Int32) dX12_trade_10 rfl ?_
  refine q_aload_n C 0 dX12_trade_11 rfl rfl ?_
  refine q_chk (fun h5 => ?_)
  refine p_getR C fgX12_15 rfl dX12_trade_12 h3 h5 ?_
  refine q_iconst C (0 : Int32) dX12_trade_15 rfl ?_
  refine q_cVV (As := (fun P => [.ref (P + (mR X2_1 r0 1)), .int (0 : Int32), .ref (P + (mR X2_1 r0 2)), .int (0 : Int32)])) C [] (sX12_copies n r0 ((mR X2_1 r0 1)) (0 : Int32) ((mR X2_1 r0 2)) (0 : Int32)) fcX12_73 rfl (fun _ => rfl) ⟨Nat.le_of_ble_eq_true rfl, Nat.le_of_ble_eq_true rfl⟩ ⟨Nat.le_of_ble_eq_true rfl, Nat.le_of_ble_eq_true rfl⟩ (Nat.le_of_ble_eq_true rfl) dX12_trade_16 h3 (fun _ X16_7 => ?_)
  refine q_aload_n C 0 dX12_trade_19 rfl rfl ?_
  refine q_aload_n C 0 dX12_trade_20 rfl rfl ?_
  refine q_iload_n C 1 dX12_trade_21 rfl rfl ?_
  refine q_iload_n C 2 dX12_trade_22 rfl rfl ?_
  refine q_iload_n C 3 dX12_trade_23 rfl rfl ?_
  refine q_iload C 4 dX12_trade_24 rfl ?_
  refine q_iload C 5 dX12_trade_26 rfl ?_
  refine q_iload C 6 dX12_trade_28 rfl ?_
  refine q_chk (fun h10 => ?_)
  refine q_cVI (As := (fun P => [.int v1, .int v2, .int v3, .int v4, .int v5, .int v6])) C [.ref (q_P E + r0)] (sX12_trades r0 v1 v2 v3 v4 v5 v6) fcX12_345 rfl (fun _ => rfl) ⟨Nat.le_of_ble_eq_true rfl, Nat.le_of_ble_eq_true rfl⟩ ⟨Nat.le_of_ble_eq_true rfl, Nat.le_of_ble_eq_true rfl⟩ (Nat.le_of_ble_eq_true rfl) dX12_trade_30 h10 (fun w8 X30_9 => ?_)
  refine q_chk (fun h13 => ?_)
  refine q_cVI (As := (fun P => [.int w8])) C [] (sX12_done n r0 w8) fcX12_378 rfl (fun _ => rfl) ⟨Nat.le_of_ble_eq_true rfl, Nat.le_of_ble_eq_true rfl⟩ ⟨Nat.le_of_ble_eq_true rfl, Nat.le_of_ble_eq_true rfl⟩ (Nat.le_of_ble_eq_true rfl) dX12_trade_33 h13 (fun w11 X33_12 => ?_)
  exact q_iret C dX12_trade_36
/-! RecordClaimsModel.money(IIIII)I -/
abbrev cX12_money : ByteArray := prog_14_method_78_code
def yX12_money : MethodName := ⟨RX12, "money", "(IIIII)I"⟩
theorem dX12_money_0 : decode cX12_money 0 = .ok (.aload_n 0, 1) := by decide +kernel
theorem dX12_money_1 : decode cX12_money 1 = .ok (.iconst 0, 1) := by decide +kernel
theorem dX12_money_2 : decode cX12_money 2 = .ok (.putfield 63, 3) := by decide +kernel
theorem dX12_money_5 : decode cX12_money 5 = .ok (.aload_n 0, 1) := by decide +kernel
theorem dX12_money_6 : decode cX12_money 6 = .ok (.aload_n 0, 1) := by decide +kernel
theorem dX12_money_7 : decode cX12_money 7 = .ok (.getfield 11, 3) := by decide +kernel
theorem dX12_money_10 : decode cX12_money 10 = .ok (.iconst 0, 1) := by decide +kernel
theorem dX12_money_11 : decode cX12_money 11 = .ok (.aload_n 0, 1) := by decide +kernel
theorem dX12_money_12 : decode cX12_money 12 = .ok (.getfield 15, 3) := by decide +kernel
theorem dX12_money_15 : decode cX12_money 15 = .ok (.iconst 0, 1) := by decide +kernel
theorem dX12_money_16 : decode cX12_money 16 = .ok (.invokevirtual 73, 3) := by decide +kernel
theorem dX12_money_19 : decode cX12_money 19 = .ok (.aload_n 0, 1) := by decide +kernel
theorem dX12_money_20 : decode cX12_money 20 = .ok (.aload_n 0, 1) := by decide +kernel
theorem dX12_money_21 : decode cX12_money 21 = .ok (.iload_n 1, 1) := by decide +kernel
theorem dX12_money_22 : decode cX12_money 22 = .ok (.iload_n 2, 1) := by decide +kernel
theorem dX12_money_23 : decode cX12_money 23 = .ok (.iload_n 3, 1) := by decide +kernel
theorem dX12_money_24 : decode cX12_money 24 = .ok (.iload 4, 2) := by decide +kernel
theorem dX12_money_26 : decode cX12_money 26 = .ok (.iload 5, 2) := by decide +kernel
theorem dX12_money_28 : decode cX12_money 28 = .ok (.invokevirtual 349, 3) := by decide +kernel
theorem dX12_money_31 : decode cX12_money 31 = .ok (.invokevirtual 378, 3) := by decide +kernel
theorem dX12_money_34 : decode cX12_money 34 = .ok (.ireturn, 1) := by decide +kernel
def fX12_money (n : Nat) (r0 : Nat) (v1 : Int32) (v2 : Int32) (v3 : Int32) (v4 : Int32) (v5 : Int32) (X : Mm) : Option (Int32 × Mm) :=
if mT X r0 = 12 then
nm (sI X r0 0 (0 : Int32)) fun X2_1 =>
if mT X2_1 r0 = 12 then
if mR X2_1 r0 1 ≠ 0 then
if mR X2_1 r0 2 ≠ 0 then
bd (fX12_copies n r0 ((mR X2_1 r0 1)) (0 : Int32) ((mR X2_1 r0 2)) (0 : Int32) X2_1) fun _ X16_7 =>
if mT X16_7 r0 = 12 then
bd (fX12_pays n r0 v1 v2 v3 v4 v5 X16_7) fun w8 X28_9 =>
if mT X28_9 r0 = 12 then
bd (fX12_done n r0 w8 X28_9) fun w11 X31_12 =>
some (w11, X31_12)
else none
else none
else none
else none
else none
else none
theorem sX12_money (n : Nat) (r0 : Nat) (v1 : Int32) (v2 : Int32) (v3 : Int32) (v4 : Int32) (v5 : Int32) : q_Ct yX12_money cX12_money 6 (some .int) 4 97 0 0 q_eI (fun P => [.ref (P + r0), .int v1, .int v2, .int v3, .int v4, .int v5]) (fX12_money n r0 v1 v2 v3 v4 v5) := by
  refine q_meth (by decide +kernel) (fun P => Nat.le_of_ble_eq_true rfl) (fun E X C hn => ?_)
  show Sm E (q_fin E q_eI X 0 0) 0 0 0 [(0, .ref (q_P E + r0)), (1, .int v1), (2, .int v2), (3, .int v3), (4, .int v4), (5, .int v5)] [] X _
  unfold fX12_money
  refine q_aload_n C 0 dX12_money_0 rfl rfl ?_
  refine q_iconst C (0 : Int32) dX12_money_1 rfl ?_
  refine q_chk (fun h2 => ?_)
  refine p_putI C fpX12_63 rfl dX12_money_2 h2 ?_
  refine q_nmX (fun X2_1 => ?_)
  refine q_aload_n C 0 dX12_money_5 rfl rfl ?_
  refine q_aload_n C 0 dX12_money_6 rfl rfl ?_
  refine q_chk (fun h3 => ?_)
  refine q_chk (fun h4 => ?_)
  refine p_getR C fgX12_11 rfl dX12_money_7 h3 h4 ?_
  refine q_iconst C (0 : Int32) dX12_money_10 rfl ?_
  refine q_aload_n C 0 dX12_money_11 rfl rfl ?_
  refine q_chk (fun h5 => ?_)
  refine p_getR C fgX12_15 rfl dX12_money_12 h3 h5 ?_
  refine q_iconst C (0 : Int32) dX12_money_15 rfl ?_
  refine q_cVV (As := (fun P => [.ref (P + (mR X2_1 r0 1)), .int (0 : Int32), .ref (P + (mR X2_1 r0 2)), .int (0 : Int32)])) C [] (sX12_copies n r0 ((mR X2_1 r0 1)) (0 : Int32) ((mR X2_1 r0 2)) (0 : Int32)) fcX12_73 rfl (fun _ => rfl) ⟨Nat.le_of_ble_eq_true rfl, Nat.le_of_ble_eq_true rfl⟩ ⟨Nat.le_of_ble_eq_true rfl, Nat.le_of_ble_eq_true rfl⟩ (Nat.le_of_ble_eq_true rfl) dX12_money_16 h3 (fun _ X16_7 => ?_)
  refine q_aload_n C 0 dX12_money_19 rfl rfl ?_
  refine q_aload_n C 0 dX12_money_20 rfl rfl ?_
  refine q_iload_n C 1 dX12_money_21 rfl rfl ?_
  refine q_iload_n C 2 dX12_money_22 rfl rfl ?_
  refine q_iload_n C 3 dX12_money_23 rfl rfl ?_
  refine q_iload C 4 dX12_money_24 rfl ?_
  refine q_iload C 5 dX12_money_26 rfl ?_
  refine q_chk (fun h10 => ?_)
  refine q_cVI (As := (fun P => [.int v1, .int v2, .int v3, .int v4, .int v5])) C [.ref (q_P E + r0)] (sX12_pays n r0 v1 v2 v3 v4 v5) fcX12_349 rfl (fun _ => rfl) ⟨Nat.le_of_ble_eq_true rfl, Nat.le_of_ble_eq_true rfl⟩ ⟨Nat.le_of_ble_eq_true rfl, Nat.le_of_ble_eq_true rfl⟩ (Nat.le_of_ble_eq_true rfl) dX12_money_28 h10 (fun w8 X28_9 => ?_)
  refine q_chk (fun h13 => ?_)
  refine q_cVI (As := (fun P => [.int w8])) C [] (sX12_done n r0 w8) fcX12_378 rfl (fun _ => rfl) ⟨Nat.le_of_ble_eq_true rfl, Nat.le_of_ble_eq_true rfl⟩ ⟨Nat.le_of_ble_eq_true rfl, Nat.le_of_ble_eq_true rfl⟩ (Nat.le_of_ble_eq_true rfl) dX12_money_31 h13 (fun w11 X31_12 => ?_)
  exact q_iret C dX12_money_34
/-! RecordClaimsModel.gift(IIIIII)I -/
abbrev cX12_gift : ByteArray := prog_14_method_79_code
def yX12_gift : MethodName := ⟨RX12, "gift", "(IIIIII)I"⟩
theorem dX12_gift_0 : decode cX12_gift 0 = .ok (.aload_n 0, 1) := by decide +kernel
theorem dX12_gift_1 : decode cX12_gift 1 = .ok (.iconst 0, 1) := by decide +kernel
theorem dX12_gift_2 : decode cX12_gift 2 = .ok (.putfield 63, 3) := by decide +kernel
theorem dX12_gift_5 : decode cX12_gift 5 = .ok (.aload_n 0, 1) := by decide +kernel
theorem dX12_gift_6 : decode cX12_gift 6 = .ok (.aload_n 0, 1) := by decide +kernel
theorem dX12_gift_7 : decode cX12_gift 7 = .ok (.getfield 11, 3) := by decide +kernel
theorem dX12_gift_10 : decode cX12_gift 10 = .ok (.iconst 0, 1) := by decide +kernel
theorem dX12_gift_11 : decode cX12_gift 11 = .ok (.aload_n 0, 1) := by decide +kernel
theorem dX12_gift_12 : decode cX12_gift 12 = .ok (.getfield 15, 3) := by decide +kernel
theorem dX12_gift_15 : decode cX12_gift 15 = .ok (.iconst 0, 1) := by decide +kernel
theorem dX12_gift_16 : decode cX12_gift 16 = .ok (.invokevirtual 73, 3) := by decide +kernel
theorem dX12_gift_19 : decode cX12_gift 19 = .ok (.aload_n 0, 1) := by decide +kernel
theorem dX12_gift_20 : decode cX12_gift 20 = .ok (.aload_n 0, 1) := by decide +kernel
theorem dX12_gift_21 : decode cX12_gift 21 = .ok (.iload_n 1, 1) := by decide +kernel
theorem dX12_gift_22 : decode cX12_gift 22 = .ok (.iload_n 2, 1) := by decide +kernel
theorem dX12_gift_23 : decode cX12_gift 23 = .ok (.bipush 10, 2) := by decide +kernel
theorem dX12_gift_25 : decode cX12_gift 25 = .ok (.idiv, 1) := by decide +kernel
theorem dX12_gift_26 : decode cX12_gift 26 = .ok (.iload_n 2, 1) := by decide +kernel
theorem dX12_gift_27 : decode cX12_gift 27 = .ok (.bipush 10, 2) := by decide +kernel
theorem dX12_gift_29 : decode cX12_gift 29 = .ok (.irem, 1) := by decide +kernel
theorem dX12_gift_30 : decode cX12_gift 30 = .ok (.iload_n 3, 1) := by decide +kernel
theorem dX12_gift_31 : decode cX12_gift 31 = .ok (.iload 4, 2) := by decide +kernel
theorem dX12_gift_33 : decode cX12_gift 33 = .ok (.iload 5, 2) := by decide +kernel
theorem dX12_gift_35 : decode cX12_gift 35 = .ok (.iload 6, 2) := by decide +kernel
theorem dX12_gift_37 : decode cX12_gift 37 = .ok (.invokevirtual 352, 3) := by decide +kernel
theorem dX12_gift_40 : decode cX12_gift 40 = .ok (.invokevirtual 378, 3) := by decide +kernel
theorem dX12_gift_43 : decode cX12_gift 43 = .ok (.ireturn, 1) := by decide +kernel
def fX12_gift (n : Nat) (r0 : Nat) (v1 : Int32) (v2 : Int32) (v3 : Int32) (v4 : Int32) (v5 : Int32) (v6 : Int32) (X : Mm) : Option (Int32 × Mm) :=
if mT X r0 = 12 then
nm (sI X r0 0 (0 : Int32)) fun X2_1 =>
if mT X2_1 r0 = 12 then
if mR X2_1 r0 1 ≠ 0 then
if mR X2_1 r0 2 ≠ 0 then
bd (fX12_copies n r0 ((mR X2_1 r0 1)) (0 : Int32) ((mR X2_1 r0 2)) (0 : Int32) X2_1) fun _ X16_7 =>
if (10 : Int32) = 0 then none else
if (10 : Int32) = 0 then none else
if mT X16_7 r0 = 12 then
bd (fX12_gives n r0 v1 ((v2 / (10 : Int32))) ((v2 - v2 / (10 : Int32) * (10 : Int32))) v3 v4 v5 v6 X16_7) fun w8 X37_9 =>
if mT X37_9 r0 = 12 then
bd (fX12_done n r0 w8 X37_9) fun w11 X40_12 =>
some (w11, X40_12)
else none
else none
else none
else none
else none
else none
theorem sX12_gift (n : Nat) (r0 : Nat) (v1 : Int32) (v2 : Int32) (v3 : Int32) (v4 : Int32) (v5 : Int32) (v6 : Int32) : q_Ct yX12_gift cX12_gift 7 (some .int) 4 99 0 0 q_eI (fun P => [.ref (P + r0), .int v1, .int v2, .int v3, .int v4, .int v5, .int v6]) (fX12_gift n r0 v1 v2 v3 v4 v5 v6) := by
  refine q_meth (by decide +kernel) (fun P => Nat.le_of_ble_eq_true rfl) (fun E X C hn => ?_)
  show Sm E (q_fin E q_eI X 0 0) 0 0 0 [(0, .ref (q_P E + r0)), (1, .int v1), (2, .int v2), (3, .int v3), (4, .int v4), (5, .int v5), (6, .int v6)] [] X _
  unfold fX12_gift
  refine q_aload_n C 0 dX12_gift_0 rfl rfl ?_
  refine q_iconst C (0 : Int32) dX12_gift_1 rfl ?_
  refine q_chk (fun h2 => ?_)
  refine p_putI C fpX12_63 rfl dX12_gift_2 h2 ?_
  refine q_nmX (fun X2_1 => ?_)
  refine q_aload_n C 0 dX12_gift_5 rfl rfl ?_
  refine q_aload_n C 0 dX12_gift_6 rfl rfl ?_
  refine q_chk (fun h3 => ?_)
  refine q_chk (fun h4 => ?_)
  refine p_getR C fgX12_11 rfl dX12_gift_7 h3 h4 ?_
  refine q_iconst C (0 : Int32) dX12_gift_10 rfl ?_
  refine q_aload_n C 0 dX12_gift_11 rfl rfl ?_
  refine q_chk (fun h5 => ?_)
  refine p_getR C fgX12_15 rfl dX12_gift_12 h3 h5 ?_
  refine q_iconst C (0 : Int32) dX12_gift_15 rfl ?_
  refine q_cVV (As := (fun P => [.ref (P + (mR X2_1 r0 1)), .int (0 : Int32), .ref (P + (mR X2_1 r0 2)), .int (0 : Int32)])) C [] (sX12_copies n r0 ((mR X2_1 r0 1)) (0 : Int32) ((mR X2_1 r0 2)) (0 : Int32)) fcX12_73 rfl (fun _ => rfl) ⟨Nat.le_of_ble_eq_true rfl, Nat.le_of_ble_eq_true rfl⟩ ⟨Nat.le_of_ble_eq_true rfl, Nat.le_of_ble_eq_true rfl⟩ (Nat.le_of_ble_eq_true rfl) dX12_gift_16 h3 (fun _ X16_7 => ?_)
  refine q_aload_n C 0 dX12_gift_19 rfl rfl ?_
  refine q_aload_n C 0 dX12_gift_20 rfl rfl ?_
  refine q_iload_n C 1 dX12_gift_21 rfl rfl ?_
  refine q_iload_n C 2 dX12_gift_22 rfl rfl ?_
  refine q_bipush C (10 : Int32) dX12_gift_23 rfl ?_
  refine q_idiv C dX12_gift_25 ?_
  refine q_iload_n C 2 dX12_gift_26 rfl rfl ?_
  refine q_bipush C (10 : Int32) dX12_gift_27 rfl ?_
  refine q_irem C dX12_gift_29 ?_
  refine q_iload_n C 3 dX12_gift_30 rfl rfl ?_
  refine q_iload C 4 dX12_gift_31 rfl ?_
  refine q_iload C 5 dX12_gift_33 rfl ?_
  refine q_iload C 6 dX12_gift_35 rfl ?_
  refine q_chk (fun h10 => ?_)
  refine q_cVI (As := (fun P => [.int v1, .int (v2 / (10 : Int32)), .int (v2 - v2 / (10 : Int32) * (10 : Int32)), .int v3, .int v4, .int v5, .int v6])) C [.ref (q_P E + r0)] (sX12_gives n r0 v1 ((v2 / (10 : Int32))) ((v2 - v2 / (10 : Int32) * (10 : Int32))) v3 v4 v5 v6) fcX12_352 rfl (fun _ => rfl) ⟨Nat.le_of_ble_eq_true rfl, Nat.le_of_ble_eq_true rfl⟩ ⟨Nat.le_of_ble_eq_true rfl, Nat.le_of_ble_eq_true rfl⟩ (Nat.le_of_ble_eq_true rfl) dX12_gift_37 h10 (fun w8 X37_9 => ?_)
  refine q_chk (fun h13 => ?_)
  refine q_cVI (As := (fun P => [.int w8])) C [] (sX12_done n r0 w8) fcX12_378 rfl (fun _ => rfl) ⟨Nat.le_of_ble_eq_true rfl, Nat.le_of_ble_eq_true rfl⟩ ⟨Nat.le_of_ble_eq_true rfl, Nat.le_of_ble_eq_true rfl⟩ (Nat.le_of_ble_eq_true rfl) dX12_gift_40 h13 (fun w11 X40_12 => ?_)
  exact q_iret C dX12_gift_43
/-! RecordClaimsModel.rights(IIIIIII)I -/
abbrev cX12_rights : ByteArray := prog_14_method_80_code
def yX12_rights : MethodName := ⟨RX12, "rights", "(IIIIIII)I"⟩
theorem dX12_rights_0 : decode cX12_rights 0 = .ok (.aload_n 0, 1) := by decide +kernel
theorem dX12_rights_1 : decode cX12_rights 1 = .ok (.iconst 0, 1) := by decide +kernel
theorem dX12_rights_2 : decode cX12_rights 2 = .ok (.putfield 63, 3) := by decide +kernel
theorem dX12_rights_5 : decode cX12_rights 5 = .ok (.aload_n 0, 1) := by decide +kernel
theorem dX12_rights_6 : decode cX12_rights 6 = .ok (.aload_n 0, 1) := by decide +kernel
theorem dX12_rights_7 : decode cX12_rights 7 = .ok (.getfield 11, 3) := by decide +kernel
theorem dX12_rights_10 : decode cX12_rights 10 = .ok (.iconst 0, 1) := by decide +kernel
theorem dX12_rights_11 : decode cX12_rights 11 = .ok (.aload_n 0, 1) := by decide +kernel
theorem dX12_rights_12 : decode cX12_rights 12 = .ok (.getfield 15, 3) := by decide +kernel
theorem dX12_rights_15 : decode cX12_rights 15 = .ok (.iconst 0, 1) := by decide +kernel
theorem dX12_rights_16 : decode cX12_rights 16 = .ok (.invokevirtual 73, 3) := by decide +kernel
theorem dX12_rights_19 : decode cX12_rights 19 = .ok (.aload_n 0, 1) := by decide +kernel
theorem dX12_rights_20 : decode cX12_rights 20 = .ok (.aload_n 0, 1) := by decide +kernel
theorem dX12_rights_21 : decode cX12_rights 21 = .ok (.iload_n 1, 1) := by decide +kernel
theorem dX12_rights_22 : decode cX12_rights 22 = .ok (.iload_n 2, 1) := by decide +kernel
theorem dX12_rights_23 : decode cX12_rights 23 = .ok (.bipush 10, 2) := by decide +kernel
theorem dX12_rights_25 : decode cX12_rights 25 = .ok (.idiv, 1) := by decide +kernel
theorem dX12_rights_26 : decode cX12_rights 26 = .ok (.iload_n 2, 1) := by decide +kernel
theorem dX12_rights_27 : decode cX12_rights 27 = .ok (.bipush 10, 2) := by decide +kernel
theorem dX12_rights_29 : decode cX12_rights 29 = .ok (.irem, 1) := by decide +kernel
theorem dX12_rights_30 : decode cX12_rights 30 = .ok (.iload_n 3, 1) := by decide +kernel
theorem dX12_rights_31 : decode cX12_rights 31 = .ok (.sipush 1000, 3) := by decide +kernel
theorem dX12_rights_34 : decode cX12_rights 34 = .ok (.idiv, 1) := by decide +kernel
theorem dX12_rights_35 : decode cX12_rights 35 = .ok (.iload_n 3, 1) := by decide +kernel
theorem dX12_rights_36 : decode cX12_rights 36 = .ok (.sipush 1000, 3) := by decide +kernel
theorem dX12_rights_39 : decode cX12_rights 39 = .ok (.irem, 1) := by decide +kernel
theorem dX12_rights_40 : decode cX12_rights 40 = .ok (.iload 4, 2) := by decide +kernel
theorem dX12_rights_42 : decode cX12_rights 42 = .ok (.iload 5, 2) := by decide +kernel
theorem dX12_rights_44 : decode cX12_rights 44 = .ok (.iload 6, 2) := by decide +kernel
theorem dX12_rights_46 : decode cX12_rights 46 = .ok (.iload 7, 2) := by decide +kernel
theorem dX12_rights_48 : decode cX12_rights 48 = .ok (.invokevirtual 356, 3) := by decide +kernel
theorem dX12_rights_51 : decode cX12_rights 51 = .ok (.invokevirtual 378, 3) := by decide +kernel
theorem dX12_rights_54 : decode cX12_rights 54 = .ok (.ireturn, 1) := by decide +kernel
def fX12_rights (n : Nat) (r0 : Nat) (v1 : Int32) (v2 : Int32) (v3 : Int32) (v4 : Int32) (v5 : Int32) (v6 : Int32) (v7 : Int32) (X : Mm) : Option (Int32 × Mm) :=
if mT X r0 = 12 then
nm (sI X r0 0 (0 : Int32)) fun X2_1 =>
if mT X2_1 r0 = 12 then
if mR X2_1 r0 1 ≠ 0 then
if mR X2_1 r0 2 ≠ 0 then
bd (fX12_copies n r0 ((mR X2_1 r0 1)) (0 : Int32) ((mR X2_1 r0 2)) (0 : Int32) X2_1) fun _ X16_7 =>
if (10 : Int32) = 0 then none else
if (10 : Int32) = 0 then none else
if (1000 : Int32) = 0 then none else
if (1000 : Int32) = 0 then none else
if mT X16_7 r0 = 12 then
bd (fX12_offers n r0 v1 ((v2 / (10 : Int32))) ((v2 - v2 / (10 : Int32) * (10 : Int32))) ((v3 / (1000 : Int32))) ((v3 - v3 / (1000 : Int32) * (1000 : Int32))) v4 v5 v6 v7 X16_7) fun w8 X48_9 =>
if mT X48_9 r0 = 12 then
bd (fX12_done n r0 w8 X48_9) fun w11 X51_12 =>
some (w11, X51_12)
else none
else none
else none
else none
else none
else none
theorem sX12_rights (n : Nat) (r0 : Nat) (v1 : Int32) (v2 : Int32) (v3 : Int32) (v4 : Int32) (v5 : Int32) (v6 : Int32) (v7 : Int32) : q_Ct yX12_rights cX12_rights 8 (some .int) 4 101 0 0 q_eI (fun P => [.ref (P + r0), .int v1, .int v2, .int v3, .int v4, .int v5, .int v6, .int v7]) (fX12_rights n r0 v1 v2 v3 v4 v5 v6 v7) := by
  refine q_meth (by decide +kernel) (fun P => Nat.le_of_ble_eq_true rfl) (fun E X C hn => ?_)
  show Sm E (q_fin E q_eI X 0 0) 0 0 0 [(0, .ref (q_P E + r0)), (1, .int v1), (2, .int v2), (3, .int v3), (4, .int v4), (5, .int v5), (6, .int v6), (7, .int v7)] [] X _
  unfold fX12_rights
  refine q_aload_n C 0 dX12_rights_0 rfl rfl ?_
  refine q_iconst C (0 : Int32) dX12_rights_1 rfl ?_
  refine q_chk (fun h2 => ?_)
  refine p_putI C fpX12_63 rfl dX12_rights_2 h2 ?_
  refine q_nmX (fun X2_1 => ?_)
  refine q_aload_n C 0 dX12_rights_5 rfl rfl ?_
  refine q_aload_n C 0 dX12_rights_6 rfl rfl ?_
  refine q_chk (fun h3 => ?_)
  refine q_chk (fun h4 => ?_)
  refine p_getR C fgX12_11 rfl dX12_rights_7 h3 h4 ?_
  refine q_iconst C (0 : Int32) dX12_rights_10 rfl ?_
  refine q_aload_n C 0 dX12_rights_11 rfl rfl ?_
  refine q_chk (fun h5 => ?_)
  refine p_getR C fgX12_15 rfl dX12_rights_12 h3 h5 ?_
  refine q_iconst C (0 : Int32) dX12_rights_15 rfl ?_
  refine q_cVV (As := (fun P => [.ref (P + (mR X2_1 r0 1)), .int (0 : Int32), .ref (P + (mR X2_1 r0 2)), .int (0 : Int32)])) C [] (sX12_copies n r0 ((mR X2_1 r0 1)) (0 : Int32) ((mR X2_1 r0 2)) (0 : Int32)) fcX12_73 rfl (fun _ => rfl) ⟨Nat.le_of_ble_eq_true rfl, Nat.le_of_ble_eq_true rfl⟩ ⟨Nat.le_of_ble_eq_true rfl, Nat.le_of_ble_eq_true rfl⟩ (Nat.le_of_ble_eq_true rfl) dX12_rights_16 h3 (fun _ X16_7 => ?_)
  refine q_aload_n C 0 dX12_rights_19 rfl rfl ?_
  refine q_aload_n C 0 dX12_rights_20 rfl rfl ?_
  refine q_iload_n C 1 dX12_rights_21 rfl rfl ?_
  refine q_iload_n C 2 dX12_rights_22 rfl rfl ?_
  refine q_bipush C (10 : Int32) dX12_rights_23 rfl ?_
  refine q_idiv C dX12_rights_25 ?_
  refine q_iload_n C 2 dX12_rights_26 rfl rfl ?_
  refine q_bipush C (10 : Int32) dX12_rights_27 rfl ?_
  refine q_irem C dX12_rights_29 ?_
  refine q_iload_n C 3 dX12_rights_30 rfl rfl ?_
  refine q_sipush C (1000 : Int32) dX12_rights_31 rfl ?_
  refine q_idiv C dX12_rights_34 ?_
  refine q_iload_n C 3 dX12_rights_35 rfl rfl ?_
  refine q_sipush C (1000 : Int32) dX12_rights_36 rfl ?_
  refine q_irem C dX12_rights_39 ?_
  refine q_iload C 4 dX12_rights_40 rfl ?_
  refine q_iload C 5 dX12_rights_42 rfl ?_
  refine q_iload C 6 dX12_rights_44 rfl ?_
  refine q_iload C 7 dX12_rights_46 rfl ?_
  refine q_chk (fun h10 => ?_)
  refine q_cVI (As := (fun P => [.int v1, .int (v2 / (10 : Int32)), .int (v2 - v2 / (10 : Int32) * (10 : Int32)), .int (v3 / (1000 : Int32)), .int (v3 - v3 / (1000 : Int32) * (1000 : Int32)), .int v4, .int v5, .int v6, .int v7])) C [.ref (q_P E + r0)] (sX12_offers n r0 v1 ((v2 / (10 : Int32))) ((v2 - v2 / (10 : Int32) * (10 : Int32))) ((v3 / (1000 : Int32))) ((v3 - v3 / (1000 : Int32) * (1000 : Int32))) v4 v5 v6 v7) fcX12_356 rfl (fun _ => rfl) ⟨Nat.le_of_ble_eq_true rfl, Nat.le_of_ble_eq_true rfl⟩ ⟨Nat.le_of_ble_eq_true rfl, Nat.le_of_ble_eq_true rfl⟩ (Nat.le_of_ble_eq_true rfl) dX12_rights_48 h10 (fun w8 X48_9 => ?_)
  refine q_chk (fun h13 => ?_)
  refine q_cVI (As := (fun P => [.int w8])) C [] (sX12_done n r0 w8) fcX12_378 rfl (fun _ => rfl) ⟨Nat.le_of_ble_eq_true rfl, Nat.le_of_ble_eq_true rfl⟩ ⟨Nat.le_of_ble_eq_true rfl, Nat.le_of_ble_eq_true rfl⟩ (Nat.le_of_ble_eq_true rfl) dX12_rights_51 h13 (fun w11 X51_12 => ?_)
  exact q_iret C dX12_rights_54
/-! RecordClaimsModel.turn(IIIII)I -/
abbrev cX12_turn : ByteArray := prog_14_method_81_code
def yX12_turn : MethodName := ⟨RX12, "turn", "(IIIII)I"⟩
theorem dX12_turn_0 : decode cX12_turn 0 = .ok (.aload_n 0, 1) := by decide +kernel
theorem dX12_turn_1 : decode cX12_turn 1 = .ok (.iconst 0, 1) := by decide +kernel
theorem dX12_turn_2 : decode cX12_turn 2 = .ok (.putfield 63, 3) := by decide +kernel
theorem dX12_turn_5 : decode cX12_turn 5 = .ok (.aload_n 0, 1) := by decide +kernel
theorem dX12_turn_6 : decode cX12_turn 6 = .ok (.aload_n 0, 1) := by decide +kernel
theorem dX12_turn_7 : decode cX12_turn 7 = .ok (.getfield 11, 3) := by decide +kernel
theorem dX12_turn_10 : decode cX12_turn 10 = .ok (.iconst 0, 1) := by decide +kernel
theorem dX12_turn_11 : decode cX12_turn 11 = .ok (.aload_n 0, 1) := by decide +kernel
theorem dX12_turn_12 : decode cX12_turn 12 = .ok (.getfield 15, 3) := by decide +kernel
theorem dX12_turn_15 : decode cX12_turn 15 = .ok (.iconst 0, 1) := by decide +kernel
theorem dX12_turn_16 : decode cX12_turn 16 = .ok (.invokevirtual 73, 3) := by decide +kernel
theorem dX12_turn_19 : decode cX12_turn 19 = .ok (.aload_n 0, 1) := by decide +kernel
theorem dX12_turn_20 : decode cX12_turn 20 = .ok (.aload_n 0, 1) := by decide +kernel
theorem dX12_turn_21 : decode cX12_turn 21 = .ok (.iload_n 1, 1) := by decide +kernel
theorem dX12_turn_22 : decode cX12_turn 22 = .ok (.iload_n 2, 1) := by decide +kernel
theorem dX12_turn_23 : decode cX12_turn 23 = .ok (.iload_n 3, 1) := by decide +kernel
theorem dX12_turn_24 : decode cX12_turn 24 = .ok (.bipush 10, 2) := by decide +kernel
theorem dX12_turn_26 : decode cX12_turn 26 = .ok (.idiv, 1) := by decide +kernel
theorem dX12_turn_27 : decode cX12_turn 27 = .ok (.iload_n 3, 1) := by decide +kernel
theorem dX12_turn_28 : decode cX12_turn 28 = .ok (.bipush 10, 2) := by decide +kernel
theorem dX12_turn_30 : decode cX12_turn 30 = .ok (.irem, 1) := by decide +kernel
theorem dX12_turn_31 : decode cX12_turn 31 = .ok (.iload 4, 2) := by decide +kernel
theorem dX12_turn_33 : decode cX12_turn 33 = .ok (.sipush 1000, 3) := by decide +kernel
theorem dX12_turn_36 : decode cX12_turn 36 = .ok (.idiv, 1) := by decide +kernel
theorem dX12_turn_37 : decode cX12_turn 37 = .ok (.iload 4, 2) := by decide +kernel
theorem dX12_turn_39 : decode cX12_turn 39 = .ok (.sipush 1000, 3) := by decide +kernel
theorem dX12_turn_42 : decode cX12_turn 42 = .ok (.irem, 1) := by decide +kernel
theorem dX12_turn_43 : decode cX12_turn 43 = .ok (.iload 5, 2) := by decide +kernel
theorem dX12_turn_45 : decode cX12_turn 45 = .ok (.invokevirtual 360, 3) := by decide +kernel
theorem dX12_turn_48 : decode cX12_turn 48 = .ok (.invokevirtual 378, 3) := by decide +kernel
theorem dX12_turn_51 : decode cX12_turn 51 = .ok (.ireturn, 1) := by decide +kernel
def fX12_turn (n : Nat) (r0 : Nat) (v1 : Int32) (v2 : Int32) (v3 : Int32) (v4 : Int32) (v5 : Int32) (X : Mm) : Option (Int32 × Mm) :=
if mT X r0 = 12 then
nm (sI X r0 0 (0 : Int32)) fun X2_1 =>
if mT X2_1 r0 = 12 then
if mR X2_1 r0 1 ≠ 0 then
if mR X2_1 r0 2 ≠ 0 then
bd (fX12_copies n r0 ((mR X2_1 r0 1)) (0 : Int32) ((mR X2_1 r0 2)) (0 : Int32) X2_1) fun _ X16_7 =>
if (10 : Int32) = 0 then none else
if (10 : Int32) = 0 then none else
if (1000 : Int32) = 0 then none else
if (1000 : Int32) = 0 then none else
if mT X16_7 r0 = 12 then
bd (fX12_turns n r0 v1 v2 ((v3 / (10 : Int32))) ((v3 - v3 / (10 : Int32) * (10 : Int32))) ((v4 / (1000 : Int32))) ((v4 - v4 / (1000 : Int32) * (1000 : Int32))) v5 X16_7) fun w8 X45_9 =>
if mT X45_9 r0 = 12 then
bd (fX12_done n r0 w8 X45_9) fun w11 X48_12 =>
some (w11, X48_12)
else none
else none
else none
else none
else none
else none
theorem sX12_turn (n : Nat) (r0 : Nat) (v1 : Int32) (v2 : Int32) (v3 : Int32) (v4 : Int32) (v5 : Int32) : q_Ct yX12_turn cX12_turn 6 (some .int) 4 99 0 0 q_eI (fun P => [.ref (P + r0), .int v1, .int v2, .int v3, .int v4, .int v5]) (fX12_turn n r0 v1 v2 v3 v4 v5) := by
  refine q_meth (by decide +kernel) (fun P => Nat.le_of_ble_eq_true rfl) (fun E X C hn => ?_)
  show Sm E (q_fin E q_eI X 0 0) 0 0 0 [(0, .ref (q_P E + r0)), (1, .int v1), (2, .int v2), (3, .int v3), (4, .int v4), (5, .int v5)] [] X _
  unfold fX12_turn
  refine q_aload_n C 0 dX12_turn_0 rfl rfl ?_
  refine q_iconst C (0 : Int32) dX12_turn_1 rfl ?_
  refine q_chk (fun h2 => ?_)
  refine p_putI C fpX12_63 rfl dX12_turn_2 h2 ?_
  refine q_nmX (fun X2_1 => ?_)
  refine q_aload_n C 0 dX12_turn_5 rfl rfl ?_
  refine q_aload_n C 0 dX12_turn_6 rfl rfl ?_
  refine q_chk (fun h3 => ?_)
  refine q_chk (fun h4 => ?_)
  refine p_getR C fgX12_11 rfl dX12_turn_7 h3 h4 ?_
  refine q_iconst C (0 : Int32) dX12_turn_10 rfl ?_
  refine q_aload_n C 0 dX12_turn_11 rfl rfl ?_
  refine q_chk (fun h5 => ?_)
  refine p_getR C fgX12_15 rfl dX12_turn_12 h3 h5 ?_
  refine q_iconst C (0 : Int32) dX12_turn_15 rfl ?_
  refine q_cVV (As := (fun P => [.ref (P + (mR X2_1 r0 1)), .int (0 : Int32), .ref (P + (mR X2_1 r0 2)), .int (0 : Int32)])) C [] (sX12_copies n r0 ((mR X2_1 r0 1)) (0 : Int32) ((mR X2_1 r0 2)) (0 : Int32)) fcX12_73 rfl (fun _ => rfl) ⟨Nat.le_of_ble_eq_true rfl, Nat.le_of_ble_eq_true rfl⟩ ⟨Nat.le_of_ble_eq_true rfl, Nat.le_of_ble_eq_true rfl⟩ (Nat.le_of_ble_eq_true rfl) dX12_turn_16 h3 (fun _ X16_7 => ?_)
  refine q_aload_n C 0 dX12_turn_19 rfl rfl ?_
  refine q_aload_n C 0 dX12_turn_20 rfl rfl ?_
  refine q_iload_n C 1 dX12_turn_21 rfl rfl ?_
  refine q_iload_n C 2 dX12_turn_22 rfl rfl ?_
  refine q_iload_n C 3 dX12_turn_23 rfl rfl ?_
  refine q_bipush C (10 : Int32) dX12_turn_24 rfl ?_
  refine q_idiv C dX12_turn_26 ?_
  refine q_iload_n C 3 dX12_turn_27 rfl rfl ?_
  refine q_bipush C (10 : Int32) dX12_turn_28 rfl ?_
  refine q_irem C dX12_turn_30 ?_
  refine q_iload C 4 dX12_turn_31 rfl ?_
  refine q_sipush C (1000 : Int32) dX12_turn_33 rfl ?_
  refine q_idiv C dX12_turn_36 ?_
  refine q_iload C 4 dX12_turn_37 rfl ?_
  refine q_sipush C (1000 : Int32) dX12_turn_39 rfl ?_
  refine q_irem C dX12_turn_42 ?_
  refine q_iload C 5 dX12_turn_43 rfl ?_
  refine q_chk (fun h10 => ?_)
  refine q_cVI (As := (fun P => [.int v1, .int v2, .int (v3 / (10 : Int32)), .int (v3 - v3 / (10 : Int32) * (10 : Int32)), .int (v4 / (1000 : Int32)), .int (v4 - v4 / (1000 : Int32) * (1000 : Int32)), .int v5])) C [.ref (q_P E + r0)] (sX12_turns n r0 v1 v2 ((v3 / (10 : Int32))) ((v3 - v3 / (10 : Int32) * (10 : Int32))) ((v4 / (1000 : Int32))) ((v4 - v4 / (1000 : Int32) * (1000 : Int32))) v5) fcX12_360 rfl (fun _ => rfl) ⟨Nat.le_of_ble_eq_true rfl, Nat.le_of_ble_eq_true rfl⟩ ⟨Nat.le_of_ble_eq_true rfl, Nat.le_of_ble_eq_true rfl⟩ (Nat.le_of_ble_eq_true rfl) dX12_turn_45 h10 (fun w8 X45_9 => ?_)
  refine q_chk (fun h13 => ?_)
  refine q_cVI (As := (fun P => [.int w8])) C [] (sX12_done n r0 w8) fcX12_378 rfl (fun _ => rfl) ⟨Nat.le_of_ble_eq_true rfl, Nat.le_of_ble_eq_true rfl⟩ ⟨Nat.le_of_ble_eq_true rfl, Nat.le_of_ble_eq_true rfl⟩ (Nat.le_of_ble_eq_true rfl) dX12_turn_48 h13 (fun w11 X48_12 => ?_)
  exact q_iret C dX12_turn_51
/-! RecordClaimsModel.choose(IIII)Z -/
abbrev cX12_choose : ByteArray := prog_14_method_82_code
def yX12_choose : MethodName := ⟨RX12, "choose", "(IIII)Z"⟩
theorem dX12_choose_0 : decode cX12_choose 0 = .ok (.aload_n 0, 1) := by decide +kernel
theorem dX12_choose_1 : decode cX12_choose 1 = .ok (.iconst 0, 1) := by decide +kernel
theorem dX12_choose_2 : decode cX12_choose 2 = .ok (.putfield 63, 3) := by decide +kernel
theorem dX12_choose_5 : decode cX12_choose 5 = .ok (.aload_n 0, 1) := by decide +kernel
theorem dX12_choose_6 : decode cX12_choose 6 = .ok (.aload_n 0, 1) := by decide +kernel
theorem dX12_choose_7 : decode cX12_choose 7 = .ok (.getfield 11, 3) := by decide +kernel
theorem dX12_choose_10 : decode cX12_choose 10 = .ok (.iconst 0, 1) := by decide +kernel
theorem dX12_choose_11 : decode cX12_choose 11 = .ok (.aload_n 0, 1) := by decide +kernel
theorem dX12_choose_12 : decode cX12_choose 12 = .ok (.getfield 15, 3) := by decide +kernel
theorem dX12_choose_15 : decode cX12_choose 15 = .ok (.iconst 0, 1) := by decide +kernel
theorem dX12_choose_16 : decode cX12_choose 16 = .ok (.invokevirtual 73, 3) := by decide +kernel
theorem dX12_choose_19 : decode cX12_choose 19 = .ok (.aload_n 0, 1) := by decide +kernel
theorem dX12_choose_20 : decode cX12_choose 20 = .ok (.iload_n 1, 1) := by decide +kernel
theorem dX12_choose_21 : decode cX12_choose 21 = .ok (.iload_n 2, 1) := by decide +kernel
theorem dX12_choose_22 : decode cX12_choose 22 = .ok (.iload_n 3, 1) := by decide +kernel
theorem dX12_choose_23 : decode cX12_choose 23 = .ok (.iload 4, 2) := by decide +kernel
theorem dX12_choose_25 : decode cX12_choose 25 = .ok (.invokevirtual 363, 3) := by decide +kernel
theorem dX12_choose_28 : decode cX12_choose 28 = .ok (.istore 5, 2) := by decide +kernel
theorem dX12_choose_30 : decode cX12_choose 30 = .ok (.iload 5, 2) := by decide +kernel
theorem dX12_choose_32 : decode cX12_choose 32 = .ok (.ifCond .eq 7, 3) := by decide +kernel
theorem dX12_choose_35 : decode cX12_choose 35 = .ok (.aload_n 0, 1) := by decide +kernel
theorem dX12_choose_36 : decode cX12_choose 36 = .ok (.invokevirtual 375, 3) := by decide +kernel
theorem dX12_choose_39 : decode cX12_choose 39 = .ok (.iload 5, 2) := by decide +kernel
theorem dX12_choose_41 : decode cX12_choose 41 = .ok (.ireturn, 1) := by decide +kernel
def fX12_choose_L39 (n : Nat) (v5 : Int32) (X : Mm) : Option (Int32 × Mm) :=
if v5 = 0 ∨ v5 = 1 then some (v5, X) else none
def fX12_choose (n : Nat) (r0 : Nat) (v1 : Int32) (v2 : Int32) (v3 : Int32) (v4 : Int32) (X : Mm) : Option (Int32 × Mm) :=
if mT X r0 = 12 then
nm (sI X r0 0 (0 : Int32)) fun X2_1 =>
if mT X2_1 r0 = 12 then
if mR X2_1 r0 1 ≠ 0 then
if mR X2_1 r0 2 ≠ 0 then
bd (fX12_copies n r0 ((mR X2_1 r0 1)) (0 : Int32) ((mR X2_1 r0 2)) (0 : Int32) X2_1) fun _ X16_7 =>
if mT X16_7 r0 = 12 then
bd (fX12_chooses r0 v1 v2 v3 v4 X16_7) fun w8 X25_9 =>
if w8 = 0 then (
fX12_choose_L39 n w8 X25_9
) else (
if mT X25_9 r0 = 12 then
bd (fX12_keepsBefore n r0 X25_9) fun _ X36_12 =>
fX12_choose_L39 n w8 X36_12
else none
)
else none
else none
else none
else none
else none
theorem gX12_choose_L39 {E : q_E} {X0 : Mm} (C : Cx E cX12_choose RX12 6 (some .boolean) (q_rm 3 71 0 0) X0) (n : Nat) (v5 : Int32) (X : Mm) : Sm E (q_fin E q_eI X0 0 0) 0 0 39 [(5, .int v5)] [] X (fX12_choose_L39 n v5 X) := by
  unfold fX12_choose_L39
  refine q_iload C 0 dX12_choose_39 rfl ?_
  exact q_zret C dX12_choose_41
theorem sX12_choose (n : Nat) (r0 : Nat) (v1 : Int32) (v2 : Int32) (v3 : Int32) (v4 : Int32) : q_Ct yX12_choose cX12_choose 6 (some .boolean) 3 71 0 0 q_eI (fun P => [.ref (P + r0), .int v1, .int v2, .int v3, .int v4]) (fX12_choose n r0 v1 v2 v3 v4) := by
  refine q_meth (by decide +kernel) (fun P => Nat.le_of_ble_eq_true rfl) (fun E X C hn => ?_)
  show Sm E (q_fin E q_eI X 0 0) 0 0 0 [(0, .ref (q_P E + r0)), (1, .int v1), (2, .int v2), (3, .int v3), (4, .int v4)] [] X _
  unfold fX12_choose
  refine q_aload_n C 0 dX12_choose_0 rfl rfl ?_
  refine q_iconst C (0 : Int32) dX12_choose_1 rfl ?_
  refine q_chk (fun h2 => ?_)
  refine p_putI C fpX12_63 rfl dX12_choose_2 h2 ?_
  refine q_nmX (fun X2_1 => ?_)
  refine q_aload_n C 0 dX12_choose_5 rfl rfl ?_
  refine q_aload_n C 0 dX12_choose_6 rfl rfl ?_
  refine q_chk (fun h3 => ?_)
  refine q_chk (fun h4 => ?_)
  refine p_getR C fgX12_11 rfl dX12_choose_7 h3 h4 ?_
  refine q_iconst C (0 : Int32) dX12_choose_10 rfl ?_
  refine q_aload_n C 0 dX12_choose_11 rfl rfl ?_
  refine q_chk (fun h5 => ?_)
  refine p_getR C fgX12_15 rfl dX12_choose_12 h3 h5 ?_
  refine q_iconst C (0 : Int32) dX12_choose_15 rfl ?_
  refine q_cVV (As := (fun P => [.ref (P + (mR X2_1 r0 1)), .int (0 : Int32), .ref (P + (mR X2_1 r0 2)), .int (0 : Int32)])) C [] (sX12_copies n r0 ((mR X2_1 r0 1)) (0 : Int32) ((mR X2_1 r0 2)) (0 : Int32)) fcX12_73 rfl (fun _ => rfl) ⟨Nat.le_of_ble_eq_true rfl, Nat.le_of_ble_eq_true rfl⟩ ⟨Nat.le_of_ble_eq_true rfl, Nat.le_of_ble_eq_true rfl⟩ (Nat.le_of_ble_eq_true rfl) dX12_choose_16 h3 (fun _ X16_7 => ?_)
  refine q_aload_n C 0 dX12_choose_19 rfl rfl ?_
  refine q_iload_n C 1 dX12_choose_20 rfl rfl ?_
  refine q_iload_n C 2 dX12_choose_21 rfl rfl ?_
  refine q_iload_n C 3 dX12_choose_22 rfl rfl ?_
  refine q_iload C 4 dX12_choose_23 rfl ?_
  refine q_chk (fun h10 => ?_)
  refine q_cVI (As := (fun P => [.int v1, .int v2, .int v3, .int v4])) C [] (sX12_chooses r0 v1 v2 v3 v4) fcX12_363 rfl (fun _ => rfl) ⟨Nat.le_of_ble_eq_true rfl, Nat.le_of_ble_eq_true rfl⟩ ⟨Nat.le_of_ble_eq_true rfl, Nat.le_of_ble_eq_true rfl⟩ (Nat.le_of_ble_eq_true rfl) dX12_choose_25 h10 (fun w8 X25_9 => ?_)
  refine q_istore C [(5, .int w8), (0, .ref (q_P E + r0)), (1, .int v1), (2, .int v2), (3, .int v3), (4, .int v4)] dX12_choose_28 (Nat.le_of_ble_eq_true rfl) rfl ?_
  refine q_iload C 0 dX12_choose_30 rfl ?_
  refine q_if_eq C 39 dX12_choose_32 (by decide) (fun _ => ?_) (fun _ => ?_)
  · refine q_sub C [(5, .int w8)] [0] rfl ?_
    exact gX12_choose_L39 C n w8 X25_9
  · refine q_aload_n C 1 dX12_choose_35 rfl rfl ?_
    refine q_chk (fun h13 => ?_)
    refine q_cVV (As := (fun P => [])) C [] (sX12_keepsBefore n r0) fcX12_375 rfl (fun _ => rfl) ⟨Nat.le_of_ble_eq_true rfl, Nat.le_of_ble_eq_true rfl⟩ ⟨Nat.le_of_ble_eq_true rfl, Nat.le_of_ble_eq_true rfl⟩ (Nat.le_of_ble_eq_true rfl) dX12_choose_36 h13 (fun _ X36_12 => ?_)
    refine q_sub C [(5, .int w8)] [0] rfl ?_
    exact gX12_choose_L39 C n w8 X36_12
/-! RecordClaimsModel.days(I)I -/
abbrev cX12_days : ByteArray := prog_14_method_83_code
def yX12_days : MethodName := ⟨RX12, "days", "(I)I"⟩
theorem dX12_days_0 : decode cX12_days 0 = .ok (.aload_n 0, 1) := by decide +kernel
theorem dX12_days_1 : decode cX12_days 1 = .ok (.iconst 0, 1) := by decide +kernel
theorem dX12_days_2 : decode cX12_days 2 = .ok (.putfield 63, 3) := by decide +kernel
theorem dX12_days_5 : decode cX12_days 5 = .ok (.aload_n 0, 1) := by decide +kernel
theorem dX12_days_6 : decode cX12_days 6 = .ok (.aload_n 0, 1) := by decide +kernel
theorem dX12_days_7 : decode cX12_days 7 = .ok (.getfield 11, 3) := by decide +kernel
theorem dX12_days_10 : decode cX12_days 10 = .ok (.iconst 0, 1) := by decide +kernel
theorem dX12_days_11 : decode cX12_days 11 = .ok (.aload_n 0, 1) := by decide +kernel
theorem dX12_days_12 : decode cX12_days 12 = .ok (.getfield 15, 3) := by decide +kernel
theorem dX12_days_15 : decode cX12_days 15 = .ok (.iconst 0, 1) := by decide +kernel
theorem dX12_days_16 : decode cX12_days 16 = .ok (.invokevirtual 73, 3) := by decide +kernel
theorem dX12_days_19 : decode cX12_days 19 = .ok (.aload_n 0, 1) := by decide +kernel
theorem dX12_days_20 : decode cX12_days 20 = .ok (.iload_n 1, 1) := by decide +kernel
theorem dX12_days_21 : decode cX12_days 21 = .ok (.invokevirtual 366, 3) := by decide +kernel
theorem dX12_days_24 : decode cX12_days 24 = .ok (.ifCond .ne 5, 3) := by decide +kernel
theorem dX12_days_27 : decode cX12_days 27 = .ok (.iconst (-1), 1) := by decide +kernel
theorem dX12_days_28 : decode cX12_days 28 = .ok (.ireturn, 1) := by decide +kernel
theorem dX12_days_29 : decode cX12_days 29 = .ok (.aload_n 0, 1) := by decide +kernel
theorem dX12_days_30 : decode cX12_days 30 = .ok (.invokevirtual 375, 3) := by decide +kernel
theorem dX12_days_33 : decode cX12_days 33 = .ok (.aload_n 0, 1) := by decide +kernel
theorem dX12_days_34 : decode cX12_days 34 = .ok (.invokevirtual 114, 3) := by decide +kernel
theorem dX12_days_37 : decode cX12_days 37 = .ok (.ireturn, 1) := by decide +kernel
def fX12_days (n : Nat) (r0 : Nat) (v1 : Int32) (X : Mm) : Option (Int32 × Mm) :=
if mT X r0 = 12 then
nm (sI X r0 0 (0 : Int32)) fun X2_1 =>
if mT X2_1 r0 = 12 then
if mR X2_1 r0 1 ≠ 0 then
if mR X2_1 r0 2 ≠ 0 then
bd (fX12_copies n r0 ((mR X2_1 r0 1)) (0 : Int32) ((mR X2_1 r0 2)) (0 : Int32) X2_1) fun _ X16_7 =>
if mT X16_7 r0 = 12 then
bd (fX12_pass n r0 v1 X16_7) fun w8 X21_9 =>
if w8 = 0 then (
some ((-1 : Int32), X21_9)
) else (
if mT X21_9 r0 = 12 then
bd (fX12_keepsBefore n r0 X21_9) fun _ X30_12 =>
if mT X30_12 r0 = 12 then
bd (fX12_today r0 X30_12) fun w14 X34_15 =>
some (w14, X34_15)
else none
else none
)
else none
else none
else none
else none
else none
theorem sX12_days (n : Nat) (r0 : Nat) (v1 : Int32) : q_Ct yX12_days cX12_days 2 (some .int) 7 164 0 0 q_eI (fun P => [.ref (P + r0), .int v1]) (fX12_days n r0 v1) := by
  refine q_meth (by decide +kernel) (fun P => Nat.le_of_ble_eq_true rfl) (fun E X C hn => ?_)
  show Sm E (q_fin E q_eI X 0 0) 0 0 0 [(0, .ref (q_P E + r0)), (1, .int v1)] [] X _
  unfold fX12_days
  refine q_aload_n C 0 dX12_days_0 rfl rfl ?_
  refine q_iconst C (0 : Int32) dX12_days_1 rfl ?_
  refine q_chk (fun h2 => ?_)
  refine p_putI C fpX12_63 rfl dX12_days_2 h2 ?_
  refine q_nmX (fun X2_1 => ?_)
  refine q_aload_n C 0 dX12_days_5 rfl rfl ?_
  refine q_aload_n C 0 dX12_days_6 rfl rfl ?_
  refine q_chk (fun h3 => ?_)
  refine q_chk (fun h4 => ?_)
  refine p_getR C fgX12_11 rfl dX12_days_7 h3 h4 ?_
  refine q_iconst C (0 : Int32) dX12_days_10 rfl ?_
  refine q_aload_n C 0 dX12_days_11 rfl rfl ?_
  refine q_chk (fun h5 => ?_)
  refine p_getR C fgX12_15 rfl dX12_days_12 h3 h5 ?_
  refine q_iconst C (0 : Int32) dX12_days_15 rfl ?_
  refine q_cVV (As := (fun P => [.ref (P + (mR X2_1 r0 1)), .int (0 : Int32), .ref (P + (mR X2_1 r0 2)), .int (0 : Int32)])) C [] (sX12_copies n r0 ((mR X2_1 r0 1)) (0 : Int32) ((mR X2_1 r0 2)) (0 : Int32)) fcX12_73 rfl (fun _ => rfl) ⟨Nat.le_of_ble_eq_true rfl, Nat.le_of_ble_eq_true rfl⟩ ⟨Nat.le_of_ble_eq_true rfl, Nat.le_of_ble_eq_true rfl⟩ (Nat.le_of_ble_eq_true rfl) dX12_days_16 h3 (fun _ X16_7 => ?_)
  refine q_aload_n C 0 dX12_days_19 rfl rfl ?_
  refine q_iload_n C 1 dX12_days_20 rfl rfl ?_
  refine q_chk (fun h10 => ?_)
  refine q_cVI (As := (fun P => [.int v1])) C [] (sX12_pass n r0 v1) fcX12_366 rfl (fun _ => rfl) ⟨Nat.le_of_ble_eq_true rfl, Nat.le_of_ble_eq_true rfl⟩ ⟨Nat.le_of_ble_eq_true rfl, Nat.le_of_ble_eq_true rfl⟩ (Nat.le_of_ble_eq_true rfl) dX12_days_21 h10 (fun w8 X21_9 => ?_)
  refine q_if_ne C 29 dX12_days_24 (by decide) (fun _ => ?_) (fun _ => ?_)
  · refine q_iconst C (-1 : Int32) dX12_days_27 rfl ?_
    exact q_iret C dX12_days_28
  · refine q_aload_n C 0 dX12_days_29 rfl rfl ?_
    refine q_chk (fun h13 => ?_)
    refine q_cVV (As := (fun P => [])) C [] (sX12_keepsBefore n r0) fcX12_375 rfl (fun _ => rfl) ⟨Nat.le_of_ble_eq_true rfl, Nat.le_of_ble_eq_true rfl⟩ ⟨Nat.le_of_ble_eq_true rfl, Nat.le_of_ble_eq_true rfl⟩ (Nat.le_of_ble_eq_true rfl) dX12_days_30 h13 (fun _ X30_12 => ?_)
    refine q_aload_n C 0 dX12_days_33 rfl rfl ?_
    refine q_chk (fun h16 => ?_)
    refine q_cVI (As := (fun P => [])) C [] (sX12_today r0) fcX12_114 rfl (fun _ => rfl) ⟨Nat.le_of_ble_eq_true rfl, Nat.le_of_ble_eq_true rfl⟩ ⟨Nat.le_of_ble_eq_true rfl, Nat.le_of_ble_eq_true rfl⟩ (Nat.le_of_ble_eq_true rfl) dX12_days_34 h16 (fun w14 X34_15 => ?_)
    exact q_iret C dX12_days_37
/-! RecordClaimsModel.undo()I -/
abbrev cX12_undo : ByteArray := prog_14_method_84_code
def yX12_undo : MethodName := ⟨RX12, "undo", "()I"⟩
theorem dX12_undo_0 : decode cX12_undo 0 = .ok (.aload_n 0, 1) := by decide +kernel
theorem dX12_undo_1 : decode cX12_undo 1 = .ok (.iconst 0, 1) := by decide +kernel
theorem dX12_undo_2 : decode cX12_undo 2 = .ok (.putfield 63, 3) := by decide +kernel
theorem dX12_undo_5 : decode cX12_undo 5 = .ok (.aload_n 0, 1) := by decide +kernel
theorem dX12_undo_6 : decode cX12_undo 6 = .ok (.getfield 70, 3) := by decide +kernel
theorem dX12_undo_9 : decode cX12_undo 9 = .ok (.ifCond .ne 5, 3) := by decide +kernel
theorem dX12_undo_12 : decode cX12_undo 12 = .ok (.iconst (-1), 1) := by decide +kernel
theorem dX12_undo_13 : decode cX12_undo 13 = .ok (.ireturn, 1) := by decide +kernel
theorem dX12_undo_14 : decode cX12_undo 14 = .ok (.aload_n 0, 1) := by decide +kernel
theorem dX12_undo_15 : decode cX12_undo 15 = .ok (.aload_n 0, 1) := by decide +kernel
theorem dX12_undo_16 : decode cX12_undo 16 = .ok (.getfield 70, 3) := by decide +kernel
theorem dX12_undo_19 : decode cX12_undo 19 = .ok (.iconst 1, 1) := by decide +kernel
theorem dX12_undo_20 : decode cX12_undo 20 = .ok (.isub, 1) := by decide +kernel
theorem dX12_undo_21 : decode cX12_undo 21 = .ok (.putfield 70, 3) := by decide +kernel
theorem dX12_undo_24 : decode cX12_undo 24 = .ok (.aload_n 0, 1) := by decide +kernel
theorem dX12_undo_25 : decode cX12_undo 25 = .ok (.aload_n 0, 1) := by decide +kernel
theorem dX12_undo_26 : decode cX12_undo 26 = .ok (.getfield 21, 3) := by decide +kernel
theorem dX12_undo_29 : decode cX12_undo 29 = .ok (.sipush 4604, 3) := by decide +kernel
theorem dX12_undo_32 : decode cX12_undo 32 = .ok (.aload_n 0, 1) := by decide +kernel
theorem dX12_undo_33 : decode cX12_undo 33 = .ok (.getfield 70, 3) := by decide +kernel
theorem dX12_undo_36 : decode cX12_undo 36 = .ok (.imul, 1) := by decide +kernel
theorem dX12_undo_37 : decode cX12_undo 37 = .ok (.aload_n 0, 1) := by decide +kernel
theorem dX12_undo_38 : decode cX12_undo 38 = .ok (.getfield 11, 3) := by decide +kernel
theorem dX12_undo_41 : decode cX12_undo 41 = .ok (.iconst 0, 1) := by decide +kernel
theorem dX12_undo_42 : decode cX12_undo 42 = .ok (.invokevirtual 73, 3) := by decide +kernel
theorem dX12_undo_45 : decode cX12_undo 45 = .ok (.aload_n 0, 1) := by decide +kernel
theorem dX12_undo_46 : decode cX12_undo 46 = .ok (.getfield 70, 3) := by decide +kernel
theorem dX12_undo_49 : decode cX12_undo 49 = .ok (.ireturn, 1) := by decide +kernel
def fX12_undo (n : Nat) (r0 : Nat) (X : Mm) : Option (Int32 × Mm) :=
if mT X r0 = 12 then
nm (sI X r0 0 (0 : Int32)) fun X2_1 =>
if mT X2_1 r0 = 12 then
if (mI X2_1 r0 5) = 0 then (
some ((-1 : Int32), X2_1)
) else (
nm (sI X2_1 r0 5 ((mI X2_1 r0 5) - (1 : Int32))) fun X21_4 =>
if mT X21_4 r0 = 12 then
if mR X21_4 r0 4 ≠ 0 then
if mR X21_4 r0 1 ≠ 0 then
bd (fX12_copies n r0 ((mR X21_4 r0 4)) (((4604 : Int32) * (mI X21_4 r0 5))) ((mR X21_4 r0 1)) (0 : Int32) X21_4) fun _ X42_9 =>
if mT X42_9 r0 = 12 then
some ((mI X42_9 r0 5), X42_9)
else none
else none
else none
else none
)
else none
else none
theorem sX12_undo (n : Nat) (r0 : Nat) : q_Ct yX12_undo cX12_undo 1 (some .int) 1 25 0 0 q_eI (fun P => [.ref (P + r0)]) (fX12_undo n r0) := by
  refine q_meth (by decide +kernel) (fun P => Nat.le_of_ble_eq_true rfl) (fun E X C hn => ?_)
  show Sm E (q_fin E q_eI X 0 0) 0 0 0 [(0, .ref (q_P E + r0))] [] X _
  unfold fX12_undo
  refine q_aload_n C 0 dX12_undo_0 rfl rfl ?_
  refine q_iconst C (0 : Int32) dX12_undo_1 rfl ?_
  refine q_chk (fun h2 => ?_)
  refine p_putI C fpX12_63 rfl dX12_undo_2 h2 ?_
  refine q_nmX (fun X2_1 => ?_)
  refine q_aload_n C 0 dX12_undo_5 rfl rfl ?_
  refine q_chk (fun h3 => ?_)
  refine p_getI C fgX12_70 rfl dX12_undo_6 h3 ?_
  refine q_if_ne C 14 dX12_undo_9 (by decide) (fun _ => ?_) (fun _ => ?_)
  · refine q_iconst C (-1 : Int32) dX12_undo_12 rfl ?_
    exact q_iret C dX12_undo_13
  · refine q_aload_n C 0 dX12_undo_14 rfl rfl ?_
    refine q_aload_n C 0 dX12_undo_15 rfl rfl ?_
    refine p_getI C fgX12_70 rfl dX12_undo_16 h3 ?_
    refine q_iconst C (1 : Int32) dX12_undo_19 rfl ?_
    refine q_isub C dX12_undo_20 ?_
    refine p_putI C fpX12_70 rfl dX12_undo_21 h3 ?_
    refine q_nmX (fun X21_4 => ?_)
    refine q_aload_n C 0 dX12_undo_24 rfl rfl ?_
    refine q_aload_n C 0 dX12_undo_25 rfl rfl ?_
    refine q_chk (fun h5 => ?_)
    refine q_chk (fun h6 => ?_)
    refine p_getR C fgX12_21 rfl dX12_undo_26 h5 h6 ?_
    refine q_sipush C (4604 : Int32) dX12_undo_29 rfl ?_
    refine q_aload_n C 0 dX12_undo_32 rfl rfl ?_
    refine p_getI C fgX12_70 rfl dX12_undo_33 h5 ?_
    refine q_imul C dX12_undo_36 ?_
    refine q_aload_n C 0 dX12_undo_37 rfl rfl ?_
    refine q_chk (fun h7 => ?_)
    refine p_getR C fgX12_11 rfl dX12_undo_38 h5 h7 ?_
    refine q_iconst C (0 : Int32) dX12_undo_41 rfl ?_
    refine q_cVV (As := (fun P => [.ref (P + (mR X21_4 r0 4)), .int ((4604 : Int32) * (mI X21_4 r0 5)), .ref (P + (mR X21_4 r0 1)), .int (0 : Int32)])) C [] (sX12_copies n r0 ((mR X21_4 r0 4)) (((4604 : Int32) * (mI X21_4 r0 5))) ((mR X21_4 r0 1)) (0 : Int32)) fcX12_73 rfl (fun _ => rfl) ⟨Nat.le_of_ble_eq_true rfl, Nat.le_of_ble_eq_true rfl⟩ ⟨Nat.le_of_ble_eq_true rfl, Nat.le_of_ble_eq_true rfl⟩ (Nat.le_of_ble_eq_true rfl) dX12_undo_42 h5 (fun _ X42_9 => ?_)
    refine q_aload_n C 0 dX12_undo_45 rfl rfl ?_
    refine q_chk (fun h10 => ?_)
    refine p_getI C fgX12_70 rfl dX12_undo_46 h10 ?_
    exact q_iret C dX12_undo_49
/-! RecordClaimsModel.has(II)J -/
abbrev cX12_has : ByteArray := prog_14_method_85_code
def yX12_has : MethodName := ⟨RX12, "has", "(II)J"⟩
theorem dX12_has_0 : decode cX12_has 0 = .ok (.aload_n 0, 1) := by decide +kernel
theorem dX12_has_1 : decode cX12_has 1 = .ok (.iconst 0, 1) := by decide +kernel
theorem dX12_has_2 : decode cX12_has 2 = .ok (.putfield 63, 3) := by decide +kernel
theorem dX12_has_5 : decode cX12_has 5 = .ok (.aload_n 0, 1) := by decide +kernel
theorem dX12_has_6 : decode cX12_has 6 = .ok (.iload_n 1, 1) := by decide +kernel
theorem dX12_has_7 : decode cX12_has 7 = .ok (.invokevirtual 98, 3) := by decide +kernel
theorem dX12_has_10 : decode cX12_has 10 = .ok (.ifCond .eq 22, 3) := by decide +kernel
theorem dX12_has_13 : decode cX12_has 13 = .ok (.aload_n 0, 1) := by decide +kernel
theorem dX12_has_14 : decode cX12_has 14 = .ok (.iload_n 2, 1) := by decide +kernel
theorem dX12_has_15 : decode cX12_has 15 = .ok (.invokevirtual 102, 3) := by decide +kernel
theorem dX12_has_18 : decode cX12_has 18 = .ok (.ifCond .eq 14, 3) := by decide +kernel
theorem dX12_has_21 : decode cX12_has 21 = .ok (.aload_n 0, 1) := by decide +kernel
theorem dX12_has_22 : decode cX12_has 22 = .ok (.iload_n 1, 1) := by decide +kernel
theorem dX12_has_23 : decode cX12_has 23 = .ok (.i2l, 1) := by decide +kernel
theorem dX12_has_24 : decode cX12_has 24 = .ok (.iload_n 2, 1) := by decide +kernel
theorem dX12_has_25 : decode cX12_has 25 = .ok (.i2l, 1) := by decide +kernel
theorem dX12_has_26 : decode cX12_has 26 = .ok (.invokevirtual 171, 3) := by decide +kernel
theorem dX12_has_29 : decode cX12_has 29 = .ok (.goto 6, 3) := by decide +kernel
theorem dX12_has_32 : decode cX12_has 32 = .ok (.ldc2_w 117, 3) := by decide +kernel
theorem dX12_has_35 : decode cX12_has 35 = .ok (.lreturn, 1) := by decide +kernel
def fX12_has_L32 (X : Mm) : Option (Int64 × Mm) :=
some ((-1 : Int64), X)
def fX12_has (r0 : Nat) (v1 : Int32) (v2 : Int32) (X : Mm) : Option (Int64 × Mm) :=
if mT X r0 = 12 then
nm (sI X r0 0 (0 : Int32)) fun X2_1 =>
if mT X2_1 r0 = 12 then
bd (fX12_isHolder r0 v1 X2_1) fun w3 X7_4 =>
if w3 = 0 then (
fX12_has_L32 X7_4
) else (
if mT X7_4 r0 = 12 then
bd (fX12_isPaper r0 v2 X7_4) fun w6 X15_7 =>
if w6 = 0 then (
fX12_has_L32 X15_7
) else (
if mT X15_7 r0 = 12 then
bd (fX12_sharesOf r0 (((v1).toInt64)) (((v2).toInt64)) X15_7) fun w9 X26_10 =>
some (w9, X26_10)
else none
)
else none
)
else none
else none
theorem gX12_has_L32 {E : q_E} {X0 : Mm} (C : Cx E cX12_has RX12 3 (some .long) (q_rm 2 47 0 0) X0) (X : Mm) : Sm E (q_fin E q_eL X0 0 0) 0 0 32 [] [] X (fX12_has_L32  X) := by
  unfold fX12_has_L32
  refine q_ldc2 C dX12_has_32 fkX12_117 ?_
  exact q_lret C dX12_has_35
theorem sX12_has (r0 : Nat) (v1 : Int32) (v2 : Int32) : q_Ct yX12_has cX12_has 3 (some .long) 2 47 0 0 q_eL (fun P => [.ref (P + r0), .int v1, .int v2]) (fX12_has r0 v1 v2) := by
  refine q_meth (by decide +kernel) (fun P => Nat.le_of_ble_eq_true rfl) (fun E X C hn => ?_)
  show Sm E (q_fin E q_eL X 0 0) 0 0 0 [(0, .ref (q_P E + r0)), (1, .int v1), (2, .int v2)] [] X _
  unfold fX12_has
  refine q_aload_n C 0 dX12_has_0 rfl rfl ?_
  refine q_iconst C (0 : Int32) dX12_has_1 rfl ?_
  refine q_chk (fun h2 => ?_)
  refine p_putI C fpX12_63 rfl dX12_has_2 h2 ?_
  refine q_nmX (fun X2_1 => ?_)
  refine q_aload_n C 0 dX12_has_5 rfl rfl ?_
  refine q_iload_n C 1 dX12_has_6 rfl rfl ?_
  refine q_chk (fun h5 => ?_)
  refine q_cVI (As := (fun P => [.int v1])) C [] (sX12_isHolder r0 v1) fcX12_98 rfl (fun _ => rfl) ⟨Nat.le_of_ble_eq_true rfl, Nat.le_of_ble_eq_true rfl⟩ ⟨Nat.le_of_ble_eq_true rfl, Nat.le_of_ble_eq_true rfl⟩ (Nat.le_of_ble_eq_true rfl) dX12_has_7 h5 (fun w3 X7_4 => ?_)
  refine q_if_eq C 32 dX12_has_10 (by decide) (fun _ => ?_) (fun _ => ?_)
  · refine q_sub C [] [] rfl ?_
    exact gX12_has_L32 C X7_4
  · refine q_aload_n C 0 dX12_has_13 rfl rfl ?_
    refine q_iload_n C 2 dX12_has_14 rfl rfl ?_
    refine q_chk (fun h8 => ?_)
    refine q_cVI (As := (fun P => [.int v2])) C [] (sX12_isPaper r0 v2) fcX12_102 rfl (fun _ => rfl) ⟨Nat.le_of_ble_eq_true rfl, Nat.le_of_ble_eq_true rfl⟩ ⟨Nat.le_of_ble_eq_true rfl, Nat.le_of_ble_eq_true rfl⟩ (Nat.le_of_ble_eq_true rfl) dX12_has_15 h8 (fun w6 X15_7 => ?_)
    refine q_if_eq C 32 dX12_has_18 (by decide) (fun _ => ?_) (fun _ => ?_)
    · refine q_sub C [] [] rfl ?_
      exact gX12_has_L32 C X15_7
    · refine q_aload_n C 0 dX12_has_21 rfl rfl ?_
      refine q_iload_n C 1 dX12_has_22 rfl rfl ?_
      refine q_i2l C dX12_has_23 ?_
      refine q_iload_n C 2 dX12_has_24 rfl rfl ?_
      refine q_i2l C dX12_has_25 ?_
      refine q_chk (fun h11 => ?_)
      refine q_cVL (As := (fun P => [.long ((v1).toInt64), .long ((v2).toInt64)])) C [] (sX12_sharesOf r0 (((v1).toInt64)) (((v2).toInt64))) fcX12_171 rfl (fun _ => rfl) ⟨Nat.le_of_ble_eq_true rfl, Nat.le_of_ble_eq_true rfl⟩ ⟨Nat.le_of_ble_eq_true rfl, Nat.le_of_ble_eq_true rfl⟩ (Nat.le_of_ble_eq_true rfl) dX12_has_26 h11 (fun w9 X26_10 => ?_)
      refine q_goto C 35 dX12_has_29 (by decide) ?_
      exact q_lret C dX12_has_35
/-! RecordClaimsModel.purse(I)J -/
abbrev cX12_purse : ByteArray := prog_14_method_86_code
def yX12_purse : MethodName := ⟨RX12, "purse", "(I)J"⟩
theorem dX12_purse_0 : decode cX12_purse 0 = .ok (.aload_n 0, 1) := by decide +kernel
theorem dX12_purse_1 : decode cX12_purse 1 = .ok (.iconst 0, 1) := by decide +kernel
theorem dX12_purse_2 : decode cX12_purse 2 = .ok (.putfield 63, 3) := by decide +kernel
theorem dX12_purse_5 : decode cX12_purse 5 = .ok (.aload_n 0, 1) := by decide +kernel
theorem dX12_purse_6 : decode cX12_purse 6 = .ok (.iload_n 1, 1) := by decide +kernel
theorem dX12_purse_7 : decode cX12_purse 7 = .ok (.invokevirtual 98, 3) := by decide +kernel
theorem dX12_purse_10 : decode cX12_purse 10 = .ok (.ifCond .eq 15, 3) := by decide +kernel
theorem dX12_purse_13 : decode cX12_purse 13 = .ok (.aload_n 0, 1) := by decide +kernel
theorem dX12_purse_14 : decode cX12_purse 14 = .ok (.getfield 11, 3) := by decide +kernel
theorem dX12_purse_17 : decode cX12_purse 17 = .ok (.bipush 50, 2) := by decide +kernel
theorem dX12_purse_19 : decode cX12_purse 19 = .ok (.iload_n 1, 1) := by decide +kernel
theorem dX12_purse_20 : decode cX12_purse 20 = .ok (.iadd, 1) := by decide +kernel
theorem dX12_purse_21 : decode cX12_purse 21 = .ok (.laload, 1) := by decide +kernel
theorem dX12_purse_22 : decode cX12_purse 22 = .ok (.goto 6, 3) := by decide +kernel
theorem dX12_purse_25 : decode cX12_purse 25 = .ok (.ldc2_w 381, 3) := by decide +kernel
theorem dX12_purse_28 : decode cX12_purse 28 = .ok (.lreturn, 1) := by decide +kernel
theorem fkX12_381 : Cond.constantLong RX12 381 (-9223372036854775808 : Int64) ∈ q_tbl := q_tb 1706 (by decide +kernel) rfl
def fX12_purse (r0 : Nat) (v1 : Int32) (X : Mm) : Option (Int64 × Mm) :=
if mT X r0 = 12 then
nm (sI X r0 0 (0 : Int32)) fun X2_1 =>
if mT X2_1 r0 = 12 then
bd (fX12_isHolder r0 v1 X2_1) fun w3 X7_4 =>
if w3 = 0 then (
some ((-9223372036854775808 : Int64), X7_4)
) else (
if mT X7_4 r0 = 12 then
if mR X7_4 r0 1 ≠ 0 then
if mT X7_4 (mR X7_4 r0 1) = 15 then
if q_b X7_4 (mR X7_4 r0 1) ((50 : Int32) + v1) then
some ((mJ X7_4 (mR X7_4 r0 1) (((50 : Int32) + v1)).toNatClampNeg), X7_4)
else none
else none
else none
else none
)
else none
else none
theorem sX12_purse (r0 : Nat) (v1 : Int32) : q_Ct yX12_purse cX12_purse 2 (some .long) 2 47 0 0 q_eL (fun P => [.ref (P + r0), .int v1]) (fX12_purse r0 v1) := by
  refine q_meth (by decide +kernel) (fun P => Nat.le_of_ble_eq_true rfl) (fun E X C hn => ?_)
  show Sm E (q_fin E q_eL X 0 0) 0 0 0 [(0, .ref (q_P E + r0)), (1, .int v1)] [] X _
  unfold fX12_purse
  refine q_aload_n C 0 dX12_purse_0 rfl rfl ?_
  refine q_iconst C (0 : Int32) dX12_purse_1 rfl ?_
  refine q_chk (fun h2 => ?_)
  refine p_putI C fpX12_63 rfl dX12_purse_2 h2 ?_
  refine q_nmX (fun X2_1 => ?_)
  refine q_aload_n C 0 dX12_purse_5 rfl rfl ?_
  refine q_iload_n C 1 dX12_purse_6 rfl rfl ?_
  refine q_chk (fun h5 => ?_)
  refine q_cVI (As := (fun P => [.int v1])) C [] (sX12_isHolder r0 v1) fcX12_98 rfl (fun _ => rfl) ⟨Nat.le_of_ble_eq_true rfl, Nat.le_of_ble_eq_true rfl⟩ ⟨Nat.le_of_ble_eq_true rfl, Nat.le_of_ble_eq_true rfl⟩ (Nat.le_of_ble_eq_true rfl) dX12_purse_7 h5 (fun w3 X7_4 => ?_)
  refine q_if_eq C 25 dX12_purse_10 (by decide) (fun _ => ?_) (fun _ => ?_)
  · refine q_ldc2 C dX12_purse_25 fkX12_381 ?_
    exact q_lret C dX12_purse_28
  · refine q_aload_n C 0 dX12_purse_13 rfl rfl ?_
    refine q_chk (fun h6 => ?_)
    refine q_chk (fun h7 => ?_)
    refine p_getR C fgX12_11 rfl dX12_purse_14 h6 h7 ?_
    refine q_bipush C (50 : Int32) dX12_purse_17 rfl ?_
    refine q_iload_n C 1 dX12_purse_19 rfl rfl ?_
    refine q_iadd C dX12_purse_20 ?_
    refine q_chk (fun h8 => ?_)
    refine q_chk (fun h9 => ?_)
    refine p_lald C dX12_purse_21 h8 h9 ?_
    refine q_goto C 28 dX12_purse_22 (by decide) ?_
    exact q_lret C dX12_purse_28
/-! RecordClaimsModel.told(II)J -/
abbrev cX12_told : ByteArray := prog_14_method_87_code
def yX12_told : MethodName := ⟨RX12, "told", "(II)J"⟩
theorem dX12_told_0 : decode cX12_told 0 = .ok (.aload_n 0, 1) := by decide +kernel
theorem dX12_told_1 : decode cX12_told 1 = .ok (.iconst 0, 1) := by decide +kernel
theorem dX12_told_2 : decode cX12_told 2 = .ok (.putfield 63, 3) := by decide +kernel
theorem dX12_told_5 : decode cX12_told 5 = .ok (.aload_n 0, 1) := by decide +kernel
theorem dX12_told_6 : decode cX12_told 6 = .ok (.iload_n 1, 1) := by decide +kernel
theorem dX12_told_7 : decode cX12_told 7 = .ok (.invokevirtual 383, 3) := by decide +kernel
theorem dX12_told_10 : decode cX12_told 10 = .ok (.ifCond .eq 30, 3) := by decide +kernel
theorem dX12_told_13 : decode cX12_told 13 = .ok (.aload_n 0, 1) := by decide +kernel
theorem dX12_told_14 : decode cX12_told 14 = .ok (.iload_n 2, 1) := by decide +kernel
theorem dX12_told_15 : decode cX12_told 15 = .ok (.i2l, 1) := by decide +kernel
theorem dX12_told_16 : decode cX12_told 16 = .ok (.lconst 0, 1) := by decide +kernel
theorem dX12_told_17 : decode cX12_told 17 = .ok (.ldc2_w 386, 3) := by decide +kernel
theorem dX12_told_20 : decode cX12_told 20 = .ok (.invokevirtual 80, 3) := by decide +kernel
theorem dX12_told_23 : decode cX12_told 23 = .ok (.ifCond .eq 17, 3) := by decide +kernel
theorem dX12_told_26 : decode cX12_told 26 = .ok (.aload_n 0, 1) := by decide +kernel
theorem dX12_told_27 : decode cX12_told 27 = .ok (.getfield 11, 3) := by decide +kernel
theorem dX12_told_30 : decode cX12_told 30 = .ok (.aload_n 0, 1) := by decide +kernel
theorem dX12_told_31 : decode cX12_told 31 = .ok (.iload_n 1, 1) := by decide +kernel
theorem dX12_told_32 : decode cX12_told 32 = .ok (.iload_n 2, 1) := by decide +kernel
theorem dX12_told_33 : decode cX12_told 33 = .ok (.invokevirtual 111, 3) := by decide +kernel
theorem dX12_told_36 : decode cX12_told 36 = .ok (.laload, 1) := by decide +kernel
theorem dX12_told_37 : decode cX12_told 37 = .ok (.goto 6, 3) := by decide +kernel
theorem dX12_told_40 : decode cX12_told 40 = .ok (.ldc2_w 381, 3) := by decide +kernel
theorem dX12_told_43 : decode cX12_told 43 = .ok (.lreturn, 1) := by decide +kernel
theorem fcX12_383 : q_LV RX12 383 yX12_isTrade cX12_isTrade 2 (some .boolean) 1 12 := ⟨q_tb 1711 (by decide +kernel) rfl, q_tb 1713 (by decide +kernel) rfl, q_tbs (q := (yX12_isTrade, 35)) 118 (by decide +kernel) rfl, q_tb 13 (by decide +kernel) rfl, q_tb 1714 (by decide +kernel) rfl, ⟨by decide +kernel, by decide +kernel, by decide +kernel⟩, TX12, 35, rfl⟩
theorem fkX12_386 : Cond.constantLong RX12 386 (8 : Int64) ∈ q_tbl := q_tb 1715 (by decide +kernel) rfl
def fX12_told_L40 (X : Mm) : Option (Int64 × Mm) :=
some ((-9223372036854775808 : Int64), X)
def fX12_told (r0 : Nat) (v1 : Int32) (v2 : Int32) (X : Mm) : Option (Int64 × Mm) :=
if mT X r0 = 12 then
nm (sI X r0 0 (0 : Int32)) fun X2_1 =>
if mT X2_1 r0 = 12 then
bd (fX12_isTrade r0 v1 X2_1) fun w3 X7_4 =>
if w3 = 0 then (
fX12_told_L40 X7_4
) else (
if mT X7_4 r0 = 12 then
bd (fX12_isIn r0 (((v2).toInt64)) (0 : Int64) (8 : Int64) X7_4) fun w6 X20_7 =>
if w6 = 0 then (
fX12_told_L40 X20_7
) else (
if mT X20_7 r0 = 12 then
if mR X20_7 r0 1 ≠ 0 then
bd (fX12_at r0 v1 v2 X20_7) fun w11 X33_12 =>
if mT X33_12 (mR X20_7 r0 1) = 15 then
if q_b X33_12 (mR X20_7 r0 1) w11 then
some ((mJ X33_12 (mR X20_7 r0 1) (w11).toNatClampNeg), X33_12)
else none
else none
else none
else none
)
else none
)
else none
else none
theorem gX12_told_L40 {E : q_E} {X0 : Mm} (C : Cx E cX12_told RX12 3 (some .long) (q_rm 2 47 0 0) X0) (X : Mm) : Sm E (q_fin E q_eL X0 0 0) 0 0 40 [] [] X (fX12_told_L40  X) := by
  unfold fX12_told_L40
  refine q_ldc2 C dX12_told_40 fkX12_381 ?_
  exact q_lret C dX12_told_43
theorem sX12_told (r0 : Nat) (v1 : Int32) (v2 : Int32) : q_Ct yX12_told cX12_told 3 (some .long) 2 47 0 0 q_eL (fun P => [.ref (P + r0), .int v1, .int v2]) (fX12_told r0 v1 v2) := by
  refine q_meth (by decide +kernel) (fun P => Nat.le_of_ble_eq_true rfl) (fun E X C hn => ?_)
  show Sm E (q_fin E q_eL X 0 0) 0 0 0 [(0, .ref (q_P E + r0)), (1, .int v1), (2, .int v2)] [] X _
  unfold fX12_told
  refine q_aload_n C 0 dX12_told_0 rfl rfl ?_
  refine q_iconst C (0 : Int32) dX12_told_1 rfl ?_
  refine q_chk (fun h2 => ?_)
  refine p_putI C fpX12_63 rfl dX12_told_2 h2 ?_
  refine q_nmX (fun X2_1 => ?_)
  refine q_aload_n C 0 dX12_told_5 rfl rfl ?_
  refine q_iload_n C 1 dX12_told_6 rfl rfl ?_
  refine q_chk (fun h5 => ?_)
  refine q_cVI (As := (fun P => [.int v1])) C [] (sX12_isTrade r0 v1) fcX12_383 rfl (fun _ => rfl) ⟨Nat.le_of_ble_eq_true rfl, Nat.le_of_ble_eq_true rfl⟩ ⟨Nat.le_of_ble_eq_true rfl, Nat.le_of_ble_eq_true rfl⟩ (Nat.le_of_ble_eq_true rfl) dX12_told_7 h5 (fun w3 X7_4 => ?_)
  refine q_if_eq C 40 dX12_told_10 (by decide) (fun _ => ?_) (fun _ => ?_)
  · refine q_sub C [] [] rfl ?_
    exact gX12_told_L40 C X7_4
  · refine q_aload_n C 0 dX12_told_13 rfl rfl ?_
    refine q_iload_n C 2 dX12_told_14 rfl rfl ?_
    refine q_i2l C dX12_told_15 ?_
    refine q_lconst C (0 : Int64) dX12_told_16 rfl ?_
    refine q_ldc2 C dX12_told_17 fkX12_386 ?_
    refine q_chk (fun h8 => ?_)
    refine q_cVI (As := (fun P => [.long ((v2).toInt64), .long (0 : Int64), .long (8 : Int64)])) C [] (sX12_isIn r0 (((v2).toInt64)) (0 : Int64) (8 : Int64)) fcX12_80 rfl (fun _ => rfl) ⟨Nat.le_of_ble_eq_true rfl, Nat.le_of_ble_eq_true rfl⟩ ⟨Nat.le_of_ble_eq_true rfl, Nat.le_of_ble_eq_true rfl⟩ (Nat.le_of_ble_eq_true rfl) dX12_told_20 h8 (fun w6 X20_7 => ?_)
    refine q_if_eq C 40 dX12_told_23 (by decide) (fun _ => ?_) (fun _ => ?_)
    · refine q_sub C [] [] rfl ?_
      exact gX12_told_L40 C X20_7
    · refine q_aload_n C 0 dX12_told_26 rfl rfl ?_
      refine q_chk (fun h9 => ?_)
      refine q_chk (fun h10 => ?_)
      refine p_getR C fgX12_11 rfl dX12_told_27 h9 h10 ?_
      refine q_aload_n C 0 dX12_told_30 rfl rfl ?_
      refine q_iload_n C 1 dX12_told_31 rfl rfl ?_
      refine q_iload_n C 2 dX12_told_32 rfl rfl ?_
      refine q_cVI (As := (fun P => [.int v1, .int v2])) C [.ref (q_P E + (mR X20_7 r0 1))] (sX12_at r0 v1 v2) fcX12_111 rfl (fun _ => rfl) ⟨Nat.le_of_ble_eq_true rfl, Nat.le_of_ble_eq_true rfl⟩ ⟨Nat.le_of_ble_eq_true rfl, Nat.le_of_ble_eq_true rfl⟩ (Nat.le_of_ble_eq_true rfl) dX12_told_33 h9 (fun w11 X33_12 => ?_)
      refine q_chk (fun h13 => ?_)
      refine q_chk (fun h14 => ?_)
      refine p_lald C dX12_told_36 h13 h14 ?_
      refine q_goto C 43 dX12_told_37 (by decide) ?_
      exact q_lret C dX12_told_43
/-! RecordClaimsModel.waiting(I)I -/
abbrev cX12_waiting : ByteArray := prog_14_method_88_code
def yX12_waiting : MethodName := ⟨RX12, "waiting", "(I)I"⟩
theorem dX12_waiting_0 : decode cX12_waiting 0 = .ok (.iconst 0, 1) := by decide +kernel
theorem dX12_waiting_1 : decode cX12_waiting 1 = .ok (.istore_n 2, 1) := by decide +kernel
theorem dX12_waiting_2 : decode cX12_waiting 2 = .ok (.iconst 0, 1) := by decide +kernel
theorem dX12_waiting_3 : decode cX12_waiting 3 = .ok (.istore_n 3, 1) := by decide +kernel
theorem dX12_waiting_4 : decode cX12_waiting 4 = .ok (.iload_n 3, 1) := by decide +kernel
theorem dX12_waiting_5 : decode cX12_waiting 5 = .ok (.i2l, 1) := by decide +kernel
theorem dX12_waiting_6 : decode cX12_waiting 6 = .ok (.aload_n 0, 1) := by decide +kernel
theorem dX12_waiting_7 : decode cX12_waiting 7 = .ok (.getfield 11, 3) := by decide +kernel
theorem dX12_waiting_10 : decode cX12_waiting 10 = .ok (.aload_n 0, 1) := by decide +kernel
theorem dX12_waiting_11 : decode cX12_waiting 11 = .ok (.iload_n 1, 1) := by decide +kernel
theorem dX12_waiting_12 : decode cX12_waiting 12 = .ok (.bipush 6, 2) := by decide +kernel
theorem dX12_waiting_14 : decode cX12_waiting 14 = .ok (.invokevirtual 66, 3) := by decide +kernel
theorem dX12_waiting_17 : decode cX12_waiting 17 = .ok (.laload, 1) := by decide +kernel
theorem dX12_waiting_18 : decode cX12_waiting 18 = .ok (.lcmp, 1) := by decide +kernel
theorem dX12_waiting_19 : decode cX12_waiting 19 = .ok (.ifCond .ge 32, 3) := by decide +kernel
theorem dX12_waiting_22 : decode cX12_waiting 22 = .ok (.aload_n 0, 1) := by decide +kernel
theorem dX12_waiting_23 : decode cX12_waiting 23 = .ok (.getfield 11, 3) := by decide +kernel
theorem dX12_waiting_26 : decode cX12_waiting 26 = .ok (.aload_n 0, 1) := by decide +kernel
theorem dX12_waiting_27 : decode cX12_waiting 27 = .ok (.iload_n 1, 1) := by decide +kernel
theorem dX12_waiting_28 : decode cX12_waiting 28 = .ok (.iload_n 3, 1) := by decide +kernel
theorem dX12_waiting_29 : decode cX12_waiting 29 = .ok (.iconst 4, 1) := by decide +kernel
theorem dX12_waiting_30 : decode cX12_waiting 30 = .ok (.invokevirtual 164, 3) := by decide +kernel
theorem dX12_waiting_33 : decode cX12_waiting 33 = .ok (.laload, 1) := by decide +kernel
theorem dX12_waiting_34 : decode cX12_waiting 34 = .ok (.ldc2_w 136, 3) := by decide +kernel
theorem dX12_waiting_37 : decode cX12_waiting 37 = .ok (.lcmp, 1) := by decide +kernel
theorem dX12_waiting_38 : decode cX12_waiting 38 = .ok (.ifCond .ne 7, 3) := by decide +kernel
theorem dX12_waiting_41 : decode cX12_waiting 41 = .ok (.iload_n 2, 1) := by decide +kernel
theorem dX12_waiting_42 : decode cX12_waiting 42 = .ok (.iconst 1, 1) := by decide +kernel
theorem dX12_waiting_43 : decode cX12_waiting 43 = .ok (.iadd, 1) := by decide +kernel
theorem dX12_waiting_44 : decode cX12_waiting 44 = .ok (.istore_n 2, 1) := by decide +kernel
theorem dX12_waiting_45 : decode cX12_waiting 45 = .ok (.iinc 3 1, 3) := by decide +kernel
theorem dX12_waiting_48 : decode cX12_waiting 48 = .ok (.goto (-44), 3) := by decide +kernel
theorem dX12_waiting_51 : decode cX12_waiting 51 = .ok (.iload_n 2, 1) := by decide +kernel
theorem dX12_waiting_52 : decode cX12_waiting 52 = .ok (.ireturn, 1) := by decide +kernel
def fX12_waiting_L45 (n : Nat) (k4 : Nat → Int32 → Int32 → Int32 → Mm → Option (Int32 × Mm)) (r0 : Nat) (v1 : Int32) (v2 : Int32) (v3 : Int32) (X : Mm) : Option (Int32 × Mm) :=
nm (v3 + (1 : Int32)) fun v3_45 =>
k4 r0 v1 v2 v3_45 X
def fX12_waiting_L4 (n : Nat) : Nat → Nat → Int32 → Int32 → Int32 → Mm → Option (Int32 × Mm)
| 0, _, _, _, _, _ => none
| j + 1, r0, v1, v2, v3, X =>
if mT X r0 = 12 then
if mR X r0 1 ≠ 0 then
bd (fX12_of r0 v1 (6 : Int32) X) fun w3 X14_4 =>
if mT X14_4 (mR X r0 1) = 15 then
if q_b X14_4 (mR X r0 1) w3 then
if 0 ≤ (lg_cmp ((v3).toInt64) (mJ X14_4 (mR X r0 1) (w3).toNatClampNeg)) then (
some (v2, X14_4)
) else (
if mT X14_4 r0 = 12 then
if mR X14_4 r0 1 ≠ 0 then
bd (fX12_ofClaim r0 v1 v3 (4 : Int32) X14_4) fun w9 X30_10 =>
if mT X30_10 (mR X14_4 r0 1) = 15 then
if q_b X30_10 (mR X14_4 r0 1) w9 then
if (lg_cmp (mJ X30_10 (mR X14_4 r0 1) (w9).toNatClampNeg) (2 : Int64)) = 0 then (
nm ((v2 + (1 : Int32))) fun v2_44 =>
fX12_waiting_L45 n (fX12_waiting_L4 n j) r0 v1 v2_44 v3 X30_10
) else (
fX12_waiting_L45 n (fX12_waiting_L4 n j) r0 v1 v2 v3 X30_10
)
else none
else none
else none
else none
)
else none
else none
else none
else none
def fX12_waiting (n : Nat) (r0 : Nat) (v1 : Int32) (X : Mm) : Option (Int32 × Mm) :=
fX12_waiting_L4 n n r0 v1 (0 : Int32) (0 : Int32) X
theorem gX12_waiting_L45 {E : q_E} {X0 : Mm} (C : Cx E cX12_waiting RX12 4 (some .int) (q_rm 2 45 0 0) X0) (n : Nat) (k4 : Nat → Int32 → Int32 → Int32 → Mm → Option (Int32 × Mm)) (hk4 : ∀ (r0 : Nat) (v1 : Int32) (v2 : Int32) (v3 : Int32) (X : Mm), Sm E (q_fin E q_eI X0 0 0) 0 0 4 [(0, .ref (q_P E + r0)), (1, .int v1), (2, .int v2), (3, .int v3)] [] X (k4 r0 v1 v2 v3 X)) (r0 : Nat) (v1 : Int32) (v2 : Int32) (v3 : Int32) (X : Mm) : Sm E (q_fin E q_eI X0 0 0) 0 0 45 [(0, .ref (q_P E + r0)), (1, .int v1), (2, .int v2), (3, .int v3)] [] X (fX12_waiting_L45 n k4 r0 v1 v2 v3 X) := by
  unfold fX12_waiting_L45
  refine q_iincN C (1 : Int32) 3 (fun v3_45 => [(3, .int v3_45), (0, .ref (q_P E + r0)), (1, .int v1), (2, .int v2)]) dX12_waiting_45 rfl rfl (Nat.le_of_ble_eq_true rfl) (fun _ => rfl) (fun v3_45 => ?_)
  refine q_goto C 4 dX12_waiting_48 (by decide) ?_
  refine q_sub C [(0, .ref (q_P E + r0)), (1, .int v1), (2, .int v2), (3, .int v3_45)] [1, 2, 3, 0] rfl ?_
  exact hk4 r0 v1 v2 v3_45 X
theorem gX12_waiting_L4 {E : q_E} {X0 : Mm} (C : Cx E cX12_waiting RX12 4 (some .int) (q_rm 2 45 0 0) X0) (n : Nat) : ∀ (j : Nat) (r0 : Nat) (v1 : Int32) (v2 : Int32) (v3 : Int32) (X : Mm), Sm E (q_fin E q_eI X0 0 0) 0 0 4 [(0, .ref (q_P E + r0)), (1, .int v1), (2, .int v2), (3, .int v3)] [] X (fX12_waiting_L4 n j r0 v1 v2 v3 X) := by
  intro j
  induction j with
  | zero => intros; exact Sm.none
  | succ j ih =>
    intro r0 v1 v2 v3 X
    rw [fX12_waiting_L4]
    refine q_iload_n C 3 dX12_waiting_4 rfl rfl ?_
    refine q_i2l C dX12_waiting_5 ?_
    refine q_aload_n C 0 dX12_waiting_6 rfl rfl ?_
    refine q_chk (fun h1 => ?_)
    refine q_chk (fun h2 => ?_)
    refine p_getR C fgX12_11 rfl dX12_waiting_7 h1 h2 ?_
    refine q_aload_n C 0 dX12_waiting_10 rfl rfl ?_
    refine q_iload_n C 1 dX12_waiting_11 rfl rfl ?_
    refine q_bipush C (6 : Int32) dX12_waiting_12 rfl ?_
    refine q_cVI (As := (fun P => [.int v1, .int (6 : Int32)])) C [.ref (q_P E + (mR X r0 1)), .long ((v3).toInt64)] (sX12_of r0 v1 (6 : Int32)) fcX12_66 rfl (fun _ => rfl) ⟨Nat.le_of_ble_eq_true rfl, Nat.le_of_ble_eq_true rfl⟩ ⟨Nat.le_of_ble_eq_true rfl, Nat.le_of_ble_eq_true rfl⟩ (Nat.le_of_ble_eq_true rfl) dX12_waiting_14 h1 (fun w3 X14_4 => ?_)
    refine q_chk (fun h5 => ?_)
    refine q_chk (fun h6 => ?_)
    refine p_lald C dX12_waiting_17 h5 h6 ?_
    refine q_lcmp C dX12_waiting_18 ?_
    refine q_if_ge C 51 dX12_waiting_19 (by decide) (fun _ => ?_) (fun _ => ?_)
    · refine q_iload_n C 2 dX12_waiting_51 rfl rfl ?_
      exact q_iret C dX12_waiting_52
    · refine q_aload_n C 0 dX12_waiting_22 rfl rfl ?_
      refine q_chk (fun h7 => ?_)
      refine q_chk (fun h8 => ?_)
      refine p_getR C fgX12_11 rfl dX12_waiting_23 h7 h8 ?_
      refine q_aload_n C 0 dX12_waiting_26 rfl rfl ?_
      refine q_iload_n C 1 dX12_waiting_27 rfl rfl ?_
      refine q_iload_n C 3 dX12_waiting_28 rfl rfl ?_
      refine q_iconst C (4 : Int32) dX12_waiting_29 rfl ?_
      refine q_cVI (As := (fun P => [.int v1, .int v3, .int (4 : Int32)])) C [.ref (q_P E + (mR X14_4 r0 1))] (sX12_ofClaim r0 v1 v3 (4 : Int32)) fcX12_164 rfl (fun _ => rfl) ⟨Nat.le_of_ble_eq_true rfl, Nat.le_of_ble_eq_true rfl⟩ ⟨Nat.le_of_ble_eq_true rfl, Nat.le_of_ble_eq_true rfl⟩ (Nat.le_of_ble_eq_true rfl) dX12_waiting_30 h7 (fun w9 X30_10 => ?_)
      refine q_chk (fun h11 => ?_)
      refine q_chk (fun h12 => ?_)
      refine p_lald C dX12_waiting_33 h11 h12 ?_
      refine q_ldc2 C dX12_waiting_34 fkX12_136 ?_
      refine q_lcmp C dX12_waiting_37 ?_
      refine q_if_ne C 45 dX12_waiting_38 (by decide) (fun _ => ?_) (fun _ => ?_)
      · refine q_iload_n C 2 dX12_waiting_41 rfl rfl ?_
        refine q_iconst C (1 : Int32) dX12_waiting_42 rfl ?_
        refine q_iadd C dX12_waiting_43 ?_
        refine q_nmi (fun v2_44 => ?_)
        refine q_istore_n C [(2, .int v2_44), (0, .ref (q_P E + r0)), (1, .int v1), (3, .int v3)] dX12_waiting_44 rfl (Nat.le_of_ble_eq_true rfl) rfl ?_
        refine q_sub C [(0, .ref (q_P E + r0)), (1, .int v1), (2, .int v2_44), (3, .int v3)] [1, 2, 0, 3] rfl ?_
        exact gX12_waiting_L45 C n (fX12_waiting_L4 n j) ih r0 v1 v2_44 v3 X30_10
      · exact gX12_waiting_L45 C n (fX12_waiting_L4 n j) ih r0 v1 v2 v3 X30_10
theorem sX12_waiting (n : Nat) (r0 : Nat) (v1 : Int32) : q_Ct yX12_waiting cX12_waiting 4 (some .int) 2 45 0 0 q_eI (fun P => [.ref (P + r0), .int v1]) (fX12_waiting n r0 v1) := by
  refine q_meth (by decide +kernel) (fun P => Nat.le_of_ble_eq_true rfl) (fun E X C hn => ?_)
  show Sm E (q_fin E q_eI X 0 0) 0 0 0 [(0, .ref (q_P E + r0)), (1, .int v1)] [] X _
  unfold fX12_waiting
  refine q_iconst C (0 : Int32) dX12_waiting_0 rfl ?_
  refine q_istore_n C [(2, .int (0 : Int32)), (0, .ref (q_P E + r0)), (1, .int v1)] dX12_waiting_1 rfl (Nat.le_of_ble_eq_true rfl) rfl ?_
  refine q_iconst C (0 : Int32) dX12_waiting_2 rfl ?_
  refine q_istore_n C [(3, .int (0 : Int32)), (2, .int (0 : Int32)), (0, .ref (q_P E + r0)), (1, .int v1)] dX12_waiting_3 rfl (Nat.le_of_ble_eq_true rfl) rfl ?_
  refine q_sub C [(0, .ref (q_P E + r0)), (1, .int v1), (2, .int (0 : Int32)), (3, .int (0 : Int32))] [2, 3, 1, 0] rfl ?_
  exact gX12_waiting_L4 C n n r0 v1 (0 : Int32) (0 : Int32) X
/-! RecordClaimsModel.event(II)I -/
abbrev cX12_event : ByteArray := prog_14_method_89_code
def yX12_event : MethodName := ⟨RX12, "event", "(II)I"⟩
theorem dX12_event_0 : decode cX12_event 0 = .ok (.aload_n 0, 1) := by decide +kernel
theorem dX12_event_1 : decode cX12_event 1 = .ok (.iconst 0, 1) := by decide +kernel
theorem dX12_event_2 : decode cX12_event 2 = .ok (.putfield 63, 3) := by decide +kernel
theorem dX12_event_5 : decode cX12_event 5 = .ok (.aload_n 0, 1) := by decide +kernel
theorem dX12_event_6 : decode cX12_event 6 = .ok (.iload_n 1, 1) := by decide +kernel
theorem dX12_event_7 : decode cX12_event 7 = .ok (.invokevirtual 133, 3) := by decide +kernel
theorem dX12_event_10 : decode cX12_event 10 = .ok (.ifCond .ne 5, 3) := by decide +kernel
theorem dX12_event_13 : decode cX12_event 13 = .ok (.iconst (-1), 1) := by decide +kernel
theorem dX12_event_14 : decode cX12_event 14 = .ok (.ireturn, 1) := by decide +kernel
theorem dX12_event_15 : decode cX12_event 15 = .ok (.iload_n 2, 1) := by decide +kernel
theorem dX12_event_16 : decode cX12_event 16 = .ok (.bipush 7, 2) := by decide +kernel
theorem dX12_event_18 : decode cX12_event 18 = .ok (.if_icmp .ne 9, 3) := by decide +kernel
theorem dX12_event_21 : decode cX12_event 21 = .ok (.aload_n 0, 1) := by decide +kernel
theorem dX12_event_22 : decode cX12_event 22 = .ok (.iload_n 1, 1) := by decide +kernel
theorem dX12_event_23 : decode cX12_event 23 = .ok (.invokevirtual 388, 3) := by decide +kernel
theorem dX12_event_26 : decode cX12_event 26 = .ok (.ireturn, 1) := by decide +kernel
theorem dX12_event_27 : decode cX12_event 27 = .ok (.aload_n 0, 1) := by decide +kernel
theorem dX12_event_28 : decode cX12_event 28 = .ok (.iload_n 2, 1) := by decide +kernel
theorem dX12_event_29 : decode cX12_event 29 = .ok (.i2l, 1) := by decide +kernel
theorem dX12_event_30 : decode cX12_event 30 = .ok (.lconst 0, 1) := by decide +kernel
theorem dX12_event_31 : decode cX12_event 31 = .ok (.ldc2_w 391, 3) := by decide +kernel
theorem dX12_event_34 : decode cX12_event 34 = .ok (.invokevirtual 80, 3) := by decide +kernel
theorem dX12_event_37 : decode cX12_event 37 = .ok (.ifCond .eq 18, 3) := by decide +kernel
theorem dX12_event_40 : decode cX12_event 40 = .ok (.aload_n 0, 1) := by decide +kernel
theorem dX12_event_41 : decode cX12_event 41 = .ok (.getfield 11, 3) := by decide +kernel
theorem dX12_event_44 : decode cX12_event 44 = .ok (.aload_n 0, 1) := by decide +kernel
theorem dX12_event_45 : decode cX12_event 45 = .ok (.iload_n 1, 1) := by decide +kernel
theorem dX12_event_46 : decode cX12_event 46 = .ok (.iload_n 2, 1) := by decide +kernel
theorem dX12_event_47 : decode cX12_event 47 = .ok (.invokevirtual 66, 3) := by decide +kernel
theorem dX12_event_50 : decode cX12_event 50 = .ok (.laload, 1) := by decide +kernel
theorem dX12_event_51 : decode cX12_event 51 = .ok (.l2i, 1) := by decide +kernel
theorem dX12_event_52 : decode cX12_event 52 = .ok (.goto 4, 3) := by decide +kernel
theorem dX12_event_55 : decode cX12_event 55 = .ok (.iconst (-1), 1) := by decide +kernel
theorem dX12_event_56 : decode cX12_event 56 = .ok (.ireturn, 1) := by decide +kernel
theorem fcX12_388 : q_LV RX12 388 yX12_waiting cX12_waiting 4 (some .int) 1 12 := ⟨q_tb 1720 (by decide +kernel) rfl, q_tb 1722 (by decide +kernel) rfl, q_tbs (q := (yX12_waiting, 35)) 119 (by decide +kernel) rfl, q_tb 13 (by decide +kernel) rfl, q_tb 1723 (by decide +kernel) rfl, ⟨by decide +kernel, by decide +kernel, by decide +kernel⟩, TX12, 35, rfl⟩
theorem fkX12_391 : Cond.constantLong RX12 391 (6 : Int64) ∈ q_tbl := q_tb 1724 (by decide +kernel) rfl
def fX12_event (n : Nat) (r0 : Nat) (v1 : Int32) (v2 : Int32) (X : Mm) : Option (Int32 × Mm) :=
if mT X r0 = 12 then
nm (sI X r0 0 (0 : Int32)) fun X2_1 =>
if mT X2_1 r0 = 12 then
bd (fX12_isEvent r0 v1 X2_1) fun w3 X7_4 =>
if w3 = 0 then (
some ((-1 : Int32), X7_4)
) else (
if v2 = (7 : Int32) then (
if mT X7_4 r0 = 12 then
bd (fX12_waiting n r0 v1 X7_4) fun w6 X23_7 =>
some (w6, X23_7)
else none
) else (
if mT X7_4 r0 = 12 then
bd (fX12_isIn r0 (((v2).toInt64)) (0 : Int64) (6 : Int64) X7_4) fun w9 X34_10 =>
if w9 = 0 then (
some ((-1 : Int32), X34_10)
) else (
if mT X34_10 r0 = 12 then
if mR X34_10 r0 1 ≠ 0 then
bd (fX12_of r0 v1 v2 X34_10) fun w14 X47_15 =>
if mT X47_15 (mR X34_10 r0 1) = 15 then
if q_b X47_15 (mR X34_10 r0 1) w14 then
some ((((mJ X47_15 (mR X34_10 r0 1) (w14).toNatClampNeg)).toInt32), X47_15)
else none
else none
else none
else none
)
else none
)
)
else none
else none
theorem sX12_event (n : Nat) (r0 : Nat) (v1 : Int32) (v2 : Int32) : q_Ct yX12_event cX12_event 3 (some .int) 3 68 0 0 q_eI (fun P => [.ref (P + r0), .int v1, .int v2]) (fX12_event n r0 v1 v2) := by
  refine q_meth (by decide +kernel) (fun P => Nat.le_of_ble_eq_true rfl) (fun E X C hn => ?_)
  show Sm E (q_fin E q_eI X 0 0) 0 0 0 [(0, .ref (q_P E + r0)), (1, .int v1), (2, .int v2)] [] X _
  unfold fX12_event
  refine q_aload_n C 0 dX12_event_0 rfl rfl ?_
  refine q_iconst C (0 : Int32) dX12_event_1 rfl ?_
  refine q_chk (fun h2 => ?_)
  refine p_putI C fpX12_63 rfl dX12_event_2 h2 ?_
  refine q_nmX (fun X2_1 => ?_)
  refine q_aload_n C 0 dX12_event_5 rfl rfl ?_
  refine q_iload_n C 1 dX12_event_6 rfl rfl ?_
  refine q_chk (fun h5 => ?_)
  refine q_cVI (As := (fun P => [.int v1])) C [] (sX12_isEvent r0 v1) fcX12_133 rfl (fun _ => rfl) ⟨Nat.le_of_ble_eq_true rfl, Nat.le_of_ble_eq_true rfl⟩ ⟨Nat.le_of_ble_eq_true rfl, Nat.le_of_ble_eq_true rfl⟩ (Nat.le_of_ble_eq_true rfl) dX12_event_7 h5 (fun w3 X7_4 => ?_)
  refine q_if_ne C 15 dX12_event_10 (by decide) (fun _ => ?_) (fun _ => ?_)
  · refine q_iconst C (-1 : Int32) dX12_event_13 rfl ?_
    exact q_iret C dX12_event_14
  · refine q_iload_n C 2 dX12_event_15 rfl rfl ?_
    refine q_bipush C (7 : Int32) dX12_event_16 rfl ?_
    refine q_icmp_ne C 27 dX12_event_18 (by decide) (fun _ => ?_) (fun _ => ?_)
    · refine q_aload_n C 0 dX12_event_21 rfl rfl ?_
      refine q_iload_n C 1 dX12_event_22 rfl rfl ?_
      refine q_chk (fun h8 => ?_)
      refine q_cVI (As := (fun P => [.int v1])) C [] (sX12_waiting n r0 v1) fcX12_388 rfl (fun _ => rfl) ⟨Nat.le_of_ble_eq_true rfl, Nat.le_of_ble_eq_true rfl⟩ ⟨Nat.le_of_ble_eq_true rfl, Nat.le_of_ble_eq_true rfl⟩ (Nat.le_of_ble_eq_true rfl) dX12_event_23 h8 (fun w6 X23_7 => ?_)
      exact q_iret C dX12_event_26
    · refine q_aload_n C 0 dX12_event_27 rfl rfl ?_
      refine q_iload_n C 2 dX12_event_28 rfl rfl ?_
      refine q_i2l C dX12_event_29 ?_
      refine q_lconst C (0 : Int64) dX12_event_30 rfl ?_
      refine q_ldc2 C dX12_event_31 fkX12_391 ?_
      refine q_chk (fun h11 => ?_)
      refine q_cVI (As := (fun P => [.long ((v2).toInt64), .long (0 : Int64), .long (6 : Int64)])) C [] (sX12_isIn r0 (((v2).toInt64)) (0 : Int64) (6 : Int64)) fcX12_80 rfl (fun _ => rfl) ⟨Nat.le_of_ble_eq_true rfl, Nat.le_of_ble_eq_true rfl⟩ ⟨Nat.le_of_ble_eq_true rfl, Nat.le_of_ble_eq_true rfl⟩ (Nat.le_of_ble_eq_true rfl) dX12_event_34 h11 (fun w9 X34_10 => ?_)
      refine q_if_eq C 55 dX12_event_37 (by decide) (fun _ => ?_) (fun _ => ?_)
      · refine q_iconst C (-1 : Int32) dX12_event_55 rfl ?_
        exact q_iret C dX12_event_56
      · refine q_aload_n C 0 dX12_event_40 rfl rfl ?_
        refine q_chk (fun h12 => ?_)
        refine q_chk (fun h13 => ?_)
        refine p_getR C fgX12_11 rfl dX12_event_41 h12 h13 ?_
        refine q_aload_n C 0 dX12_event_44 rfl rfl ?_
        refine q_iload_n C 1 dX12_event_45 rfl rfl ?_
        refine q_iload_n C 2 dX12_event_46 rfl rfl ?_
        refine q_cVI (As := (fun P => [.int v1, .int v2])) C [.ref (q_P E + (mR X34_10 r0 1))] (sX12_of r0 v1 v2) fcX12_66 rfl (fun _ => rfl) ⟨Nat.le_of_ble_eq_true rfl, Nat.le_of_ble_eq_true rfl⟩ ⟨Nat.le_of_ble_eq_true rfl, Nat.le_of_ble_eq_true rfl⟩ (Nat.le_of_ble_eq_true rfl) dX12_event_47 h12 (fun w14 X47_15 => ?_)
        refine q_chk (fun h16 => ?_)
        refine q_chk (fun h17 => ?_)
        refine p_lald C dX12_event_50 h16 h17 ?_
        refine q_l2i C dX12_event_51 ?_
        refine q_goto C 56 dX12_event_52 (by decide) ?_
        exact q_iret C dX12_event_56
/-! RecordClaimsModel.claimedBy(II)J -/
abbrev cX12_claimedBy : ByteArray := prog_14_method_90_code
def yX12_claimedBy : MethodName := ⟨RX12, "claimedBy", "(II)J"⟩
theorem dX12_claimedBy_0 : decode cX12_claimedBy 0 = .ok (.lconst 0, 1) := by decide +kernel
theorem dX12_claimedBy_1 : decode cX12_claimedBy 1 = .ok (.lstore_n 3, 1) := by decide +kernel
theorem dX12_claimedBy_2 : decode cX12_claimedBy 2 = .ok (.iconst 0, 1) := by decide +kernel
theorem dX12_claimedBy_3 : decode cX12_claimedBy 3 = .ok (.istore 5, 2) := by decide +kernel
theorem dX12_claimedBy_5 : decode cX12_claimedBy 5 = .ok (.iload 5, 2) := by decide +kernel
theorem dX12_claimedBy_7 : decode cX12_claimedBy 7 = .ok (.i2l, 1) := by decide +kernel
theorem dX12_claimedBy_8 : decode cX12_claimedBy 8 = .ok (.aload_n 0, 1) := by decide +kernel
theorem dX12_claimedBy_9 : decode cX12_claimedBy 9 = .ok (.getfield 11, 3) := by decide +kernel
theorem dX12_claimedBy_12 : decode cX12_claimedBy 12 = .ok (.aload_n 0, 1) := by decide +kernel
theorem dX12_claimedBy_13 : decode cX12_claimedBy 13 = .ok (.iload_n 1, 1) := by decide +kernel
theorem dX12_claimedBy_14 : decode cX12_claimedBy 14 = .ok (.bipush 6, 2) := by decide +kernel
theorem dX12_claimedBy_16 : decode cX12_claimedBy 16 = .ok (.invokevirtual 66, 3) := by decide +kernel
theorem dX12_claimedBy_19 : decode cX12_claimedBy 19 = .ok (.laload, 1) := by decide +kernel
theorem dX12_claimedBy_20 : decode cX12_claimedBy 20 = .ok (.lcmp, 1) := by decide +kernel
theorem dX12_claimedBy_21 : decode cX12_claimedBy 21 = .ok (.ifCond .ge 79, 3) := by decide +kernel
theorem dX12_claimedBy_24 : decode cX12_claimedBy 24 = .ok (.aload_n 0, 1) := by decide +kernel
theorem dX12_claimedBy_25 : decode cX12_claimedBy 25 = .ok (.getfield 11, 3) := by decide +kernel
theorem dX12_claimedBy_28 : decode cX12_claimedBy 28 = .ok (.aload_n 0, 1) := by decide +kernel
theorem dX12_claimedBy_29 : decode cX12_claimedBy 29 = .ok (.iload_n 1, 1) := by decide +kernel
theorem dX12_claimedBy_30 : decode cX12_claimedBy 30 = .ok (.iload 5, 2) := by decide +kernel
theorem dX12_claimedBy_32 : decode cX12_claimedBy 32 = .ok (.iconst 1, 1) := by decide +kernel
theorem dX12_claimedBy_33 : decode cX12_claimedBy 33 = .ok (.invokevirtual 164, 3) := by decide +kernel
theorem dX12_claimedBy_36 : decode cX12_claimedBy 36 = .ok (.laload, 1) := by decide +kernel
theorem dX12_claimedBy_37 : decode cX12_claimedBy 37 = .ok (.iload_n 2, 1) := by decide +kernel
theorem dX12_claimedBy_38 : decode cX12_claimedBy 38 = .ok (.i2l, 1) := by decide +kernel
theorem dX12_claimedBy_39 : decode cX12_claimedBy 39 = .ok (.lcmp, 1) := by decide +kernel
theorem dX12_claimedBy_40 : decode cX12_claimedBy 40 = .ok (.ifCond .ne 19, 3) := by decide +kernel
theorem dX12_claimedBy_43 : decode cX12_claimedBy 43 = .ok (.lload_n 3, 1) := by decide +kernel
theorem dX12_claimedBy_44 : decode cX12_claimedBy 44 = .ok (.aload_n 0, 1) := by decide +kernel
theorem dX12_claimedBy_45 : decode cX12_claimedBy 45 = .ok (.getfield 11, 3) := by decide +kernel
theorem dX12_claimedBy_48 : decode cX12_claimedBy 48 = .ok (.aload_n 0, 1) := by decide +kernel
theorem dX12_claimedBy_49 : decode cX12_claimedBy 49 = .ok (.iload_n 1, 1) := by decide +kernel
theorem dX12_claimedBy_50 : decode cX12_claimedBy 50 = .ok (.iload 5, 2) := by decide +kernel
theorem dX12_claimedBy_52 : decode cX12_claimedBy 52 = .ok (.iconst 2, 1) := by decide +kernel
theorem dX12_claimedBy_53 : decode cX12_claimedBy 53 = .ok (.invokevirtual 164, 3) := by decide +kernel
theorem dX12_claimedBy_56 : decode cX12_claimedBy 56 = .ok (.laload, 1) := by decide +kernel
theorem dX12_claimedBy_57 : decode cX12_claimedBy 57 = .ok (.ladd, 1) := by decide +kernel
theorem dX12_claimedBy_58 : decode cX12_claimedBy 58 = .ok (.lstore_n 3, 1) := by decide +kernel
theorem dX12_claimedBy_59 : decode cX12_claimedBy 59 = .ok (.aload_n 0, 1) := by decide +kernel
theorem dX12_claimedBy_60 : decode cX12_claimedBy 60 = .ok (.getfield 11, 3) := by decide +kernel
theorem dX12_claimedBy_63 : decode cX12_claimedBy 63 = .ok (.aload_n 0, 1) := by decide +kernel
theorem dX12_claimedBy_64 : decode cX12_claimedBy 64 = .ok (.iload_n 1, 1) := by decide +kernel
theorem dX12_claimedBy_65 : decode cX12_claimedBy 65 = .ok (.iload 5, 2) := by decide +kernel
theorem dX12_claimedBy_67 : decode cX12_claimedBy 67 = .ok (.iconst 0, 1) := by decide +kernel
theorem dX12_claimedBy_68 : decode cX12_claimedBy 68 = .ok (.invokevirtual 164, 3) := by decide +kernel
theorem dX12_claimedBy_71 : decode cX12_claimedBy 71 = .ok (.laload, 1) := by decide +kernel
theorem dX12_claimedBy_72 : decode cX12_claimedBy 72 = .ok (.iload_n 2, 1) := by decide +kernel
theorem dX12_claimedBy_73 : decode cX12_claimedBy 73 = .ok (.i2l, 1) := by decide +kernel
theorem dX12_claimedBy_74 : decode cX12_claimedBy 74 = .ok (.lcmp, 1) := by decide +kernel
theorem dX12_claimedBy_75 : decode cX12_claimedBy 75 = .ok (.ifCond .ne 19, 3) := by decide +kernel
theorem dX12_claimedBy_78 : decode cX12_claimedBy 78 = .ok (.lload_n 3, 1) := by decide +kernel
theorem dX12_claimedBy_79 : decode cX12_claimedBy 79 = .ok (.aload_n 0, 1) := by decide +kernel
theorem dX12_claimedBy_80 : decode cX12_claimedBy 80 = .ok (.getfield 11, 3) := by decide +kernel
theorem dX12_claimedBy_83 : decode cX12_claimedBy 83 = .ok (.aload_n 0, 1) := by decide +kernel
theorem dX12_claimedBy_84 : decode cX12_claimedBy 84 = .ok (.iload_n 1, 1) := by decide +kernel
theorem dX12_claimedBy_85 : decode cX12_claimedBy 85 = .ok (.iload 5, 2) := by decide +kernel
theorem dX12_claimedBy_87 : decode cX12_claimedBy 87 = .ok (.iconst 2, 1) := by decide +kernel
theorem dX12_claimedBy_88 : decode cX12_claimedBy 88 = .ok (.invokevirtual 164, 3) := by decide +kernel
theorem dX12_claimedBy_91 : decode cX12_claimedBy 91 = .ok (.laload, 1) := by decide +kernel
theorem dX12_claimedBy_92 : decode cX12_claimedBy 92 = .ok (.lsub, 1) := by decide +kernel
theorem dX12_claimedBy_93 : decode cX12_claimedBy 93 = .ok (.lstore_n 3, 1) := by decide +kernel
theorem dX12_claimedBy_94 : decode cX12_claimedBy 94 = .ok (.iinc 5 1, 3) := by decide +kernel
theorem dX12_claimedBy_97 : decode cX12_claimedBy 97 = .ok (.goto (-92), 3) := by decide +kernel
theorem dX12_claimedBy_100 : decode cX12_claimedBy 100 = .ok (.lload_n 3, 1) := by decide +kernel
theorem dX12_claimedBy_101 : decode cX12_claimedBy 101 = .ok (.lreturn, 1) := by decide +kernel
def fX12_claimedBy_L94 (n : Nat) (k5 : Nat → Int32 → Int32 → Int64 → Int32 → Mm → Option (Int64 × Mm)) (r0 : Nat) (v1 : Int32) (v2 : Int32) (v3 : Int64) (v5 : Int32) (X : Mm) : Option (Int64 × Mm) :=
nm (v5 + (1 : Int32)) fun v5_94 =>
k5 r0 v1 v2 v3 v5_94 X
def fX12_claimedBy_L59 (n : Nat) (k5 : Nat → Int32 → Int32 → Int64 → Int32 → Mm → Option (Int64 × Mm)) (r0 : Nat) (v1 : Int32) (v2 : Int32) (v3 : Int64) (v5 : Int32) (X : Mm) : Option (Int64 × Mm) :=
if mT X r0 = 12 then
if mR X r0 1 ≠ 0 then
bd (fX12_ofClaim r0 v1 v5 (0 : Int32) X) fun w22 X68_23 =>
if mT X68_23 (mR X r0 1) = 15 then
if q_b X68_23 (mR X r0 1) w22 then
if (lg_cmp (mJ X68_23 (mR X r0 1) (w22).toNatClampNeg) ((v2).toInt64)) = 0 then (
if mT X68_23 r0 = 12 then
if mR X68_23 r0 1 ≠ 0 then
bd (fX12_ofClaim r0 v1 v5 (2 : Int32) X68_23) fun w28 X88_29 =>
if mT X88_29 (mR X68_23 r0 1) = 15 then
if q_b X88_29 (mR X68_23 r0 1) w28 then
nm ((v3 - (mJ X88_29 (mR X68_23 r0 1) (w28).toNatClampNeg))) fun v3_93 =>
fX12_claimedBy_L94 n k5 r0 v1 v2 v3_93 v5 X88_29
else none
else none
else none
else none
) else (
fX12_claimedBy_L94 n k5 r0 v1 v2 v3 v5 X68_23
)
else none
else none
else none
else none
def fX12_claimedBy_L5 (n : Nat) : Nat → Nat → Int32 → Int32 → Int64 → Int32 → Mm → Option (Int64 × Mm)
| 0, _, _, _, _, _, _ => none
| j + 1, r0, v1, v2, v3, v5, X =>
if mT X r0 = 12 then
if mR X r0 1 ≠ 0 then
bd (fX12_of r0 v1 (6 : Int32) X) fun w3 X16_4 =>
if mT X16_4 (mR X r0 1) = 15 then
if q_b X16_4 (mR X r0 1) w3 then
if 0 ≤ (lg_cmp ((v5).toInt64) (mJ X16_4 (mR X r0 1) (w3).toNatClampNeg)) then (
some (v3, X16_4)
) else (
if mT X16_4 r0 = 12 then
if mR X16_4 r0 1 ≠ 0 then
bd (fX12_ofClaim r0 v1 v5 (1 : Int32) X16_4) fun w9 X33_10 =>
if mT X33_10 (mR X16_4 r0 1) = 15 then
if q_b X33_10 (mR X16_4 r0 1) w9 then
if (lg_cmp (mJ X33_10 (mR X16_4 r0 1) (w9).toNatClampNeg) ((v2).toInt64)) = 0 then (
if mT X33_10 r0 = 12 then
if mR X33_10 r0 1 ≠ 0 then
bd (fX12_ofClaim r0 v1 v5 (2 : Int32) X33_10) fun w15 X53_16 =>
if mT X53_16 (mR X33_10 r0 1) = 15 then
if q_b X53_16 (mR X33_10 r0 1) w15 then
nm ((v3 + (mJ X53_16 (mR X33_10 r0 1) (w15).toNatClampNeg))) fun v3_58 =>
fX12_claimedBy_L59 n (fX12_claimedBy_L5 n j) r0 v1 v2 v3_58 v5 X53_16
else none
else none
else none
else none
) else (
fX12_claimedBy_L59 n (fX12_claimedBy_L5 n j) r0 v1 v2 v3 v5 X33_10
)
else none
else none
else none
else none
)
else none
else none
else none
else none
def fX12_claimedBy (n : Nat) (r0 : Nat) (v1 : Int32) (v2 : Int32) (X : Mm) : Option (Int64 × Mm) :=
fX12_claimedBy_L5 n n r0 v1 v2 (0 : Int64) (0 : Int32) X
theorem gX12_claimedBy_L94 {E : q_E} {X0 : Mm} (C : Cx E cX12_claimedBy RX12 6 (some .long) (q_rm 2 45 0 0) X0) (n : Nat) (k5 : Nat → Int32 → Int32 → Int64 → Int32 → Mm → Option (Int64 × Mm)) (hk5 : ∀ (r0 : Nat) (v1 : Int32) (v2 : Int32) (v3 : Int64) (v5 : Int32) (X : Mm), Sm E (q_fin E q_eL X0 0 0) 0 0 5 [(0, .ref (q_P E + r0)), (1, .int v1), (2, .int v2), (3, .long v3), (5, .int v5)] [] X (k5 r0 v1 v2 v3 v5 X)) (r0 : Nat) (v1 : Int32) (v2 : Int32) (v3 : Int64) (v5 : Int32) (X : Mm) : Sm E (q_fin E q_eL X0 0 0) 0 0 94 [(0, .ref (q_P E + r0)), (1, .int v1), (2, .int v2), (3, .long v3), (5, .int v5)] [] X (fX12_claimedBy_L94 n k5 r0 v1 v2 v3 v5 X) := by
  unfold fX12_claimedBy_L94
  refine q_iincN C (1 : Int32) 4 (fun v5_94 => [(5, .int v5_94), (0, .ref (q_P E + r0)), (1, .int v1), (2, .int v2), (3, .long v3)]) dX12_claimedBy_94 rfl rfl (Nat.le_of_ble_eq_true rfl) (fun _ => rfl) (fun v5_94 => ?_)
  refine q_goto C 5 dX12_claimedBy_97 (by decide) ?_
  refine q_sub C [(0, .ref (q_P E + r0)), (1, .int v1), (2, .int v2), (3, .long v3), (5, .int v5_94)] [1, 2, 3, 4, 0] rfl ?_
  exact hk5 r0 v1 v2 v3 v5_94 X
theorem gX12_claimedBy_L59 {E : q_E} {X0 : Mm} (C : Cx E cX12_claimedBy RX12 6 (some .long) (q_rm 2 45 0 0) X0) (n : Nat) (k5 : Nat → Int32 → Int32 → Int64 → Int32 → Mm → Option (Int64 × Mm)) (hk5 : ∀ (r0 : Nat) (v1 : Int32) (v2 : Int32) (v3 : Int64) (v5 : Int32) (X : Mm), Sm E (q_fin E q_eL X0 0 0) 0 0 5 [(0, .ref (q_P E + r0)), (1, .int v1), (2, .int v2), (3, .long v3), (5, .int v5)] [] X (k5 r0 v1 v2 v3 v5 X)) (r0 : Nat) (v1 : Int32) (v2 : Int32) (v3 : Int64) (v5 : Int32) (X : Mm) : Sm E (q_fin E q_eL X0 0 0) 0 0 59 [(0, .ref (q_P E + r0)), (1, .int v1), (2, .int v2), (3, .long v3), (5, .int v5)] [] X (fX12_claimedBy_L59 n k5 r0 v1 v2 v3 v5 X) := by
  unfold fX12_claimedBy_L59
  refine q_aload_n C 0 dX12_claimedBy_59 rfl rfl ?_
  refine q_chk (fun h20 => ?_)
  refine q_chk (fun h21 => ?_)
  refine p_getR C fgX12_11 rfl dX12_claimedBy_60 h20 h21 ?_
  refine q_aload_n C 0 dX12_claimedBy_63 rfl rfl ?_
  refine q_iload_n C 1 dX12_claimedBy_64 rfl rfl ?_
  refine q_iload C 4 dX12_claimedBy_65 rfl ?_
  refine q_iconst C (0 : Int32) dX12_claimedBy_67 rfl ?_
  refine q_cVI (As := (fun P => [.int v1, .int v5, .int (0 : Int32)])) C [.ref (q_P E + (mR X r0 1))] (sX12_ofClaim r0 v1 v5 (0 : Int32)) fcX12_164 rfl (fun _ => rfl) ⟨Nat.le_of_ble_eq_true rfl, Nat.le_of_ble_eq_true rfl⟩ ⟨Nat.le_of_ble_eq_true rfl, Nat.le_of_ble_eq_true rfl⟩ (Nat.le_of_ble_eq_true rfl) dX12_claimedBy_68 h20 (fun w22 X68_23 => ?_)
  refine q_chk (fun h24 => ?_)
  refine q_chk (fun h25 => ?_)
  refine p_lald C dX12_claimedBy_71 h24 h25 ?_
  refine q_iload_n C 2 dX12_claimedBy_72 rfl rfl ?_
  refine q_i2l C dX12_claimedBy_73 ?_
  refine q_lcmp C dX12_claimedBy_74 ?_
  refine q_if_ne C 94 dX12_claimedBy_75 (by decide) (fun _ => ?_) (fun _ => ?_)
  · refine q_lload_n C 3 dX12_claimedBy_78 rfl rfl ?_
    refine q_aload_n C 0 dX12_claimedBy_79 rfl rfl ?_
    refine q_chk (fun h26 => ?_)
    refine q_chk (fun h27 => ?_)
    refine p_getR C fgX12_11 rfl dX12_claimedBy_80 h26 h27 ?_
    refine q_aload_n C 0 dX12_claimedBy_83 rfl rfl ?_
    refine q_iload_n C 1 dX12_claimedBy_84 rfl rfl ?_
    refine q_iload C 4 dX12_claimedBy_85 rfl ?_
    refine q_iconst C (2 : Int32) dX12_claimedBy_87 rfl ?_
    refine q_cVI (As := (fun P => [.int v1, .int v5, .int (2 : Int32)])) C [.ref (q_P E + (mR X68_23 r0 1)), .long v3] (sX12_ofClaim r0 v1 v5 (2 : Int32)) fcX12_164 rfl (fun _ => rfl) ⟨Nat.le_of_ble_eq_true rfl, Nat.le_of_ble_eq_true rfl⟩ ⟨Nat.le_of_ble_eq_true rfl, Nat.le_of_ble_eq_true rfl⟩ (Nat.le_of_ble_eq_true rfl) dX12_claimedBy_88 h26 (fun w28 X88_29 => ?_)
    refine q_chk (fun h30 => ?_)
    refine q_chk (fun h31 => ?_)
    refine p_lald C dX12_claimedBy_91 h30 h31 ?_
    refine q_lsub C dX12_claimedBy_92 ?_
    refine q_nml (fun v3_93 => ?_)
    refine q_lstore_n C [(3, .long v3_93), (0, .ref (q_P E + r0)), (1, .int v1), (2, .int v2), (5, .int v5)] dX12_claimedBy_93 rfl (Nat.le_of_ble_eq_true rfl) rfl ?_
    refine q_sub C [(0, .ref (q_P E + r0)), (1, .int v1), (2, .int v2), (3, .long v3_93), (5, .int v5)] [1, 2, 3, 0, 4] rfl ?_
    exact gX12_claimedBy_L94 C n k5 hk5 r0 v1 v2 v3_93 v5 X88_29
  · exact gX12_claimedBy_L94 C n k5 hk5 r0 v1 v2 v3 v5 X68_23
theorem gX12_claimedBy_L5 {E : q_E} {X0 : Mm} (C : Cx E cX12_claimedBy RX12 6 (some .long) (q_rm 2 45 0 0) X0) (n : Nat) : ∀ (j : Nat) (r0 : Nat) (v1 : Int32) (v2 : Int32) (v3 : Int64) (v5 : Int32) (X : Mm), Sm E (q_fin E q_eL X0 0 0) 0 0 5 [(0, .ref (q_P E + r0)), (1, .int v1), (2, .int v2), (3, .long v3), (5, .int v5)] [] X (fX12_claimedBy_L5 n j r0 v1 v2 v3 v5 X) := by
  intro j
  induction j with
  | zero => intros; exact Sm.none
  | succ j ih =>
    intro r0 v1 v2 v3 v5 X
    rw [fX12_claimedBy_L5]
    refine q_iload C 4 dX12_claimedBy_5 rfl ?_
    refine q_i2l C dX12_claimedBy_7 ?_
    refine q_aload_n C 0 dX12_claimedBy_8 rfl rfl ?_
    refine q_chk (fun h1 => ?_)
    refine q_chk (fun h2 => ?_)
    refine p_getR C fgX12_11 rfl dX12_claimedBy_9 h1 h2 ?_
    refine q_aload_n C 0 dX12_claimedBy_12 rfl rfl ?_
    refine q_iload_n C 1 dX12_claimedBy_13 rfl rfl ?_
    refine q_bipush C (6 : Int32) dX12_claimedBy_14 rfl ?_
    refine q_cVI (As := (fun P => [.int v1, .int (6 : Int32)])) C [.ref (q_P E + (mR X r0 1)), .long ((v5).toInt64)] (sX12_of r0 v1 (6 : Int32)) fcX12_66 rfl (fun _ => rfl) ⟨Nat.le_of_ble_eq_true rfl, Nat.le_of_ble_eq_true rfl⟩ ⟨Nat.le_of_ble_eq_true rfl, Nat.le_of_ble_eq_true rfl⟩ (Nat.le_of_ble_eq_true rfl) dX12_claimedBy_16 h1 (fun w3 X16_4 => ?_)
    refine q_chk (fun h5 => ?_)
    refine q_chk (fun h6 => ?_)
    refine p_lald C dX12_claimedBy_19 h5 h6 ?_
    refine q_lcmp C dX12_claimedBy_20 ?_
    refine q_if_ge C 100 dX12_claimedBy_21 (by decide) (fun _ => ?_) (fun _ => ?_)
    · refine q_lload_n C 3 dX12_claimedBy_100 rfl rfl ?_
      exact q_lret C dX12_claimedBy_101
    · refine q_aload_n C 0 dX12_claimedBy_24 rfl rfl ?_
      refine q_chk (fun h7 => ?_)
      refine q_chk (fun h8 => ?_)
      refine p_getR C fgX12_11 rfl dX12_claimedBy_25 h7 h8 ?_
      refine q_aload_n C 0 dX12_claimedBy_28 rfl rfl ?_
      refine q_iload_n C 1 dX12_claimedBy_29 rfl rfl ?_
      refine q_iload C 4 dX12_claimedBy_30 rfl ?_
      refine q_iconst C (1 : Int32) dX12_claimedBy_32 rfl ?_
      refine q_cVI (As := (fun P => [.int v1, .int v5, .int (1 : Int32)])) C [.ref (q_P E + (mR X16_4 r0 1))] (sX12_ofClaim r0 v1 v5 (1 : Int32)) fcX12_164 rfl (fun _ => rfl) ⟨Nat.le_of_ble_eq_true rfl, Nat.le_of_ble_eq_true rfl⟩ ⟨Nat.le_of_ble_eq_true rfl, Nat.le_of_ble_eq_true rfl⟩ (Nat.le_of_ble_eq_true rfl) dX12_claimedBy_33 h7 (fun w9 X33_10 => ?_)
      refine q_chk (fun h11 => ?_)
      refine q_chk (fun h12 => ?_)
      refine p_lald C dX12_claimedBy_36 h11 h12 ?_
      refine q_iload_n C 2 dX12_claimedBy_37 rfl rfl ?_
      refine q_i2l C dX12_claimedBy_38 ?_
      refine q_lcmp C dX12_claimedBy_39 ?_
      refine q_if_ne C 59 dX12_claimedBy_40 (by decide) (fun _ => ?_) (fun _ => ?_)
      · refine q_lload_n C 3 dX12_claimedBy_43 rfl rfl ?_
        refine q_aload_n C 0 dX12_claimedBy_44 rfl rfl ?_
        refine q_chk (fun h13 => ?_)
        refine q_chk (fun h14 => ?_)
        refine p_getR C fgX12_11 rfl dX12_claimedBy_45 h13 h14 ?_
        refine q_aload_n C 0 dX12_claimedBy_48 rfl rfl ?_
        refine q_iload_n C 1 dX12_claimedBy_49 rfl rfl ?_
        refine q_iload C 4 dX12_claimedBy_50 rfl ?_
        refine q_iconst C (2 : Int32) dX12_claimedBy_52 rfl ?_
        refine q_cVI (As := (fun P => [.int v1, .int v5, .int (2 : Int32)])) C [.ref (q_P E + (mR X33_10 r0 1)), .long v3] (sX12_ofClaim r0 v1 v5 (2 : Int32)) fcX12_164 rfl (fun _ => rfl) ⟨Nat.le_of_ble_eq_true rfl, Nat.le_of_ble_eq_true rfl⟩ ⟨Nat.le_of_ble_eq_true rfl, Nat.le_of_ble_eq_true rfl⟩ (Nat.le_of_ble_eq_true rfl) dX12_claimedBy_53 h13 (fun w15 X53_16 => ?_)
        refine q_chk (fun h17 => ?_)
        refine q_chk (fun h18 => ?_)
        refine p_lald C dX12_claimedBy_56 h17 h18 ?_
        refine q_ladd C dX12_claimedBy_57 ?_
        refine q_nml (fun v3_58 => ?_)
        refine q_lstore_n C [(3, .long v3_58), (0, .ref (q_P E + r0)), (1, .int v1), (2, .int v2), (5, .int v5)] dX12_claimedBy_58 rfl (Nat.le_of_ble_eq_true rfl) rfl ?_
        refine q_sub C [(0, .ref (q_P E + r0)), (1, .int v1), (2, .int v2), (3, .long v3_58), (5, .int v5)] [1, 2, 3, 0, 4] rfl ?_
        exact gX12_claimedBy_L59 C n (fX12_claimedBy_L5 n j) ih r0 v1 v2 v3_58 v5 X53_16
      · exact gX12_claimedBy_L59 C n (fX12_claimedBy_L5 n j) ih r0 v1 v2 v3 v5 X33_10
theorem sX12_claimedBy (n : Nat) (r0 : Nat) (v1 : Int32) (v2 : Int32) : q_Ct yX12_claimedBy cX12_claimedBy 6 (some .long) 2 45 0 0 q_eL (fun P => [.ref (P + r0), .int v1, .int v2]) (fX12_claimedBy n r0 v1 v2) := by
  refine q_meth (by decide +kernel) (fun P => Nat.le_of_ble_eq_true rfl) (fun E X C hn => ?_)
  show Sm E (q_fin E q_eL X 0 0) 0 0 0 [(0, .ref (q_P E + r0)), (1, .int v1), (2, .int v2)] [] X _
  unfold fX12_claimedBy
  refine q_lconst C (0 : Int64) dX12_claimedBy_0 rfl ?_
  refine q_lstore_n C [(3, .long (0 : Int64)), (0, .ref (q_P E + r0)), (1, .int v1), (2, .int v2)] dX12_claimedBy_1 rfl (Nat.le_of_ble_eq_true rfl) rfl ?_
  refine q_iconst C (0 : Int32) dX12_claimedBy_2 rfl ?_
  refine q_istore C [(5, .int (0 : Int32)), (3, .long (0 : Int64)), (0, .ref (q_P E + r0)), (1, .int v1), (2, .int v2)] dX12_claimedBy_3 (Nat.le_of_ble_eq_true rfl) rfl ?_
  refine q_sub C [(0, .ref (q_P E + r0)), (1, .int v1), (2, .int v2), (3, .long (0 : Int64)), (5, .int (0 : Int32))] [2, 3, 4, 1, 0] rfl ?_
  exact gX12_claimedBy_L5 C n n r0 v1 v2 (0 : Int64) (0 : Int32) X
/-! RecordClaimsModel.written(III)J -/
abbrev cX12_written : ByteArray := prog_14_method_91_code
def yX12_written : MethodName := ⟨RX12, "written", "(III)J"⟩
theorem dX12_written_0 : decode cX12_written 0 = .ok (.aload_n 0, 1) := by decide +kernel
theorem dX12_written_1 : decode cX12_written 1 = .ok (.iconst 0, 1) := by decide +kernel
theorem dX12_written_2 : decode cX12_written 2 = .ok (.putfield 63, 3) := by decide +kernel
theorem dX12_written_5 : decode cX12_written 5 = .ok (.aload_n 0, 1) := by decide +kernel
theorem dX12_written_6 : decode cX12_written 6 = .ok (.iload_n 1, 1) := by decide +kernel
theorem dX12_written_7 : decode cX12_written 7 = .ok (.invokevirtual 133, 3) := by decide +kernel
theorem dX12_written_10 : decode cX12_written 10 = .ok (.ifCond .eq 11, 3) := by decide +kernel
theorem dX12_written_13 : decode cX12_written 13 = .ok (.aload_n 0, 1) := by decide +kernel
theorem dX12_written_14 : decode cX12_written 14 = .ok (.iload_n 2, 1) := by decide +kernel
theorem dX12_written_15 : decode cX12_written 15 = .ok (.invokevirtual 98, 3) := by decide +kernel
theorem dX12_written_18 : decode cX12_written 18 = .ok (.ifCond .ne 7, 3) := by decide +kernel
theorem dX12_written_21 : decode cX12_written 21 = .ok (.ldc2_w 381, 3) := by decide +kernel
theorem dX12_written_24 : decode cX12_written 24 = .ok (.lreturn, 1) := by decide +kernel
theorem dX12_written_25 : decode cX12_written 25 = .ok (.aload_n 0, 1) := by decide +kernel
theorem dX12_written_26 : decode cX12_written 26 = .ok (.getfield 11, 3) := by decide +kernel
theorem dX12_written_29 : decode cX12_written 29 = .ok (.aload_n 0, 1) := by decide +kernel
theorem dX12_written_30 : decode cX12_written 30 = .ok (.iload_n 1, 1) := by decide +kernel
theorem dX12_written_31 : decode cX12_written 31 = .ok (.iload_n 2, 1) := by decide +kernel
theorem dX12_written_32 : decode cX12_written 32 = .ok (.iconst 0, 1) := by decide +kernel
theorem dX12_written_33 : decode cX12_written 33 = .ok (.invokevirtual 140, 3) := by decide +kernel
theorem dX12_written_36 : decode cX12_written 36 = .ok (.laload, 1) := by decide +kernel
theorem dX12_written_37 : decode cX12_written 37 = .ok (.lstore 4, 2) := by decide +kernel
theorem dX12_written_39 : decode cX12_written 39 = .ok (.iload_n 3, 1) := by decide +kernel
theorem dX12_written_40 : decode cX12_written 40 = .ok (.ifCond .ne 6, 3) := by decide +kernel
theorem dX12_written_43 : decode cX12_written 43 = .ok (.lload 4, 2) := by decide +kernel
theorem dX12_written_45 : decode cX12_written 45 = .ok (.lreturn, 1) := by decide +kernel
theorem dX12_written_46 : decode cX12_written 46 = .ok (.iload_n 3, 1) := by decide +kernel
theorem dX12_written_47 : decode cX12_written 47 = .ok (.iconst 1, 1) := by decide +kernel
theorem dX12_written_48 : decode cX12_written 48 = .ok (.if_icmp .ne 13, 3) := by decide +kernel
theorem dX12_written_51 : decode cX12_written 51 = .ok (.lload 4, 2) := by decide +kernel
theorem dX12_written_53 : decode cX12_written 53 = .ok (.aload_n 0, 1) := by decide +kernel
theorem dX12_written_54 : decode cX12_written 54 = .ok (.iload_n 1, 1) := by decide +kernel
theorem dX12_written_55 : decode cX12_written 55 = .ok (.iload_n 2, 1) := by decide +kernel
theorem dX12_written_56 : decode cX12_written 56 = .ok (.invokevirtual 393, 3) := by decide +kernel
theorem dX12_written_59 : decode cX12_written 59 = .ok (.ladd, 1) := by decide +kernel
theorem dX12_written_60 : decode cX12_written 60 = .ok (.lreturn, 1) := by decide +kernel
theorem dX12_written_61 : decode cX12_written 61 = .ok (.aload_n 0, 1) := by decide +kernel
theorem dX12_written_62 : decode cX12_written 62 = .ok (.iload_n 3, 1) := by decide +kernel
theorem dX12_written_63 : decode cX12_written 63 = .ok (.i2l, 1) := by decide +kernel
theorem dX12_written_64 : decode cX12_written 64 = .ok (.ldc2_w 136, 3) := by decide +kernel
theorem dX12_written_67 : decode cX12_written 67 = .ok (.ldc2_w 391, 3) := by decide +kernel
theorem dX12_written_70 : decode cX12_written 70 = .ok (.invokevirtual 80, 3) := by decide +kernel
theorem dX12_written_73 : decode cX12_written 73 = .ok (.ifCond .eq 20, 3) := by decide +kernel
theorem dX12_written_76 : decode cX12_written 76 = .ok (.aload_n 0, 1) := by decide +kernel
theorem dX12_written_77 : decode cX12_written 77 = .ok (.getfield 11, 3) := by decide +kernel
theorem dX12_written_80 : decode cX12_written 80 = .ok (.aload_n 0, 1) := by decide +kernel
theorem dX12_written_81 : decode cX12_written 81 = .ok (.iload_n 1, 1) := by decide +kernel
theorem dX12_written_82 : decode cX12_written 82 = .ok (.iload_n 2, 1) := by decide +kernel
theorem dX12_written_83 : decode cX12_written 83 = .ok (.iload_n 3, 1) := by decide +kernel
theorem dX12_written_84 : decode cX12_written 84 = .ok (.iconst 1, 1) := by decide +kernel
theorem dX12_written_85 : decode cX12_written 85 = .ok (.isub, 1) := by decide +kernel
theorem dX12_written_86 : decode cX12_written 86 = .ok (.invokevirtual 140, 3) := by decide +kernel
theorem dX12_written_89 : decode cX12_written 89 = .ok (.laload, 1) := by decide +kernel
theorem dX12_written_90 : decode cX12_written 90 = .ok (.goto 6, 3) := by decide +kernel
theorem dX12_written_93 : decode cX12_written 93 = .ok (.ldc2_w 381, 3) := by decide +kernel
theorem dX12_written_96 : decode cX12_written 96 = .ok (.lreturn, 1) := by decide +kernel
theorem fcX12_393 : q_LV RX12 393 yX12_claimedBy cX12_claimedBy 6 (some .long) 2 12 := ⟨q_tb 1729 (by decide +kernel) rfl, q_tb 1731 (by decide +kernel) rfl, q_tbs (q := (yX12_claimedBy, 35)) 120 (by decide +kernel) rfl, q_tb 13 (by decide +kernel) rfl, q_tb 1732 (by decide +kernel) rfl, ⟨by decide +kernel, by decide +kernel, by decide +kernel⟩, TX12, 35, rfl⟩
def fX12_written_L21 (n : Nat) (X : Mm) : Option (Int64 × Mm) :=
some ((-9223372036854775808 : Int64), X)
def fX12_written (n : Nat) (r0 : Nat) (v1 : Int32) (v2 : Int32) (v3 : Int32) (X : Mm) : Option (Int64 × Mm) :=
if mT X r0 = 12 then
nm (sI X r0 0 (0 : Int32)) fun X2_1 =>
if mT X2_1 r0 = 12 then
bd (fX12_isEvent r0 v1 X2_1) fun w3 X7_4 =>
if w3 = 0 then (
fX12_written_L21 n X7_4
) else (
if mT X7_4 r0 = 12 then
bd (fX12_isHolder r0 v2 X7_4) fun w6 X15_7 =>
if w6 = 0 then (
fX12_written_L21 n X15_7
) else (
if mT X15_7 r0 = 12 then
if mR X15_7 r0 1 ≠ 0 then
bd (fX12_ofHolder r0 v1 v2 (0 : Int32) X15_7) fun w11 X33_12 =>
if mT X33_12 (mR X15_7 r0 1) = 15 then
if q_b X33_12 (mR X15_7 r0 1) w11 then
nm ((mJ X33_12 (mR X15_7 r0 1) (w11).toNatClampNeg)) fun v4_37 =>
if v3 = 0 then (
some (v4_37, X33_12)
) else (
if v3 = (1 : Int32) then (
if mT X33_12 r0 = 12 then
bd (fX12_claimedBy n r0 v1 v2 X33_12) fun w16 X56_17 =>
some ((v4_37 + w16), X56_17)
else none
) else (
if mT X33_12 r0 = 12 then
bd (fX12_isIn r0 (((v3).toInt64)) (2 : Int64) (6 : Int64) X33_12) fun w19 X70_20 =>
if w19 = 0 then (
some ((-9223372036854775808 : Int64), X70_20)
) else (
if mT X70_20 r0 = 12 then
if mR X70_20 r0 1 ≠ 0 then
bd (fX12_ofHolder r0 v1 v2 ((v3 - (1 : Int32))) X70_20) fun w24 X86_25 =>
if mT X86_25 (mR X70_20 r0 1) = 15 then
if q_b X86_25 (mR X70_20 r0 1) w24 then
some ((mJ X86_25 (mR X70_20 r0 1) (w24).toNatClampNeg), X86_25)
else none
else none
else none
else none
)
else none
)
)
else none
else none
else none
else none
)
else none
)
else none
else none
theorem gX12_written_L21 {E : q_E} {X0 : Mm} (C : Cx E cX12_written RX12 6 (some .long) (q_rm 3 70 0 0) X0) (n : Nat) (X : Mm) : Sm E (q_fin E q_eL X0 0 0) 0 0 21 [] [] X (fX12_written_L21 n  X) := by
  unfold fX12_written_L21
  refine q_ldc2 C dX12_written_21 fkX12_381 ?_
  exact q_lret C dX12_written_24
theorem sX12_written (n : Nat) (r0 : Nat) (v1 : Int32) (v2 : Int32) (v3 : Int32) : q_Ct yX12_written cX12_written 6 (some .long) 3 70 0 0 q_eL (fun P => [.ref (P + r0), .int v1, .int v2, .int v3]) (fX12_written n r0 v1 v2 v3) := by
  refine q_meth (by decide +kernel) (fun P => Nat.le_of_ble_eq_true rfl) (fun E X C hn => ?_)
  show Sm E (q_fin E q_eL X 0 0) 0 0 0 [(0, .ref (q_P E + r0)), (1, .int v1), (2, .int v2), (3, .int v3)] [] X _
  unfold fX12_written
  refine q_aload_n C 0 dX12_written_0 rfl rfl ?_
  refine q_iconst C (0 : Int32) dX12_written_1 rfl ?_
  refine q_chk (fun h2 => ?_)
  refine p_putI C fpX12_63 rfl dX12_written_2 h2 ?_
  refine q_nmX (fun X2_1 => ?_)
  refine q_aload_n C 0 dX12_written_5 rfl rfl ?_
  refine q_iload_n C 1 dX12_written_6 rfl rfl ?_
  refine q_chk (fun h5 => ?_)
  refine q_cVI (As := (fun P => [.int v1])) C [] (sX12_isEvent r0 v1) fcX12_133 rfl (fun _ => rfl) ⟨Nat.le_of_ble_eq_true rfl, Nat.le_of_ble_eq_true rfl⟩ ⟨Nat.le_of_ble_eq_true rfl, Nat.le_of_ble_eq_true rfl⟩ (Nat.le_of_ble_eq_true rfl) dX12_written_7 h5 (fun w3 X7_4 => ?_)
  refine q_if_eq C 21 dX12_written_10 (by decide) (fun _ => ?_) (fun _ => ?_)
  · refine q_sub C [] [] rfl ?_
    exact gX12_written_L21 C n X7_4
  · refine q_aload_n C 0 dX12_written_13 rfl rfl ?_
    refine q_iload_n C 2 dX12_written_14 rfl rfl ?_
    refine q_chk (fun h8 => ?_)
    refine q_cVI (As := (fun P => [.int v2])) C [] (sX12_isHolder r0 v2) fcX12_98 rfl (fun _ => rfl) ⟨Nat.le_of_ble_eq_true rfl, Nat.le_of_ble_eq_true rfl⟩ ⟨Nat.le_of_ble_eq_true rfl, Nat.le_of_ble_eq_true rfl⟩ (Nat.le_of_ble_eq_true rfl) dX12_written_15 h8 (fun w6 X15_7 => ?_)
    refine q_if_ne C 25 dX12_written_18 (by decide) (fun _ => ?_) (fun _ => ?_)
    · refine q_sub C [] [] rfl ?_
      exact gX12_written_L21 C n X15_7
    · refine q_aload_n C 0 dX12_written_25 rfl rfl ?_
      refine q_chk (fun h9 => ?_)
      refine q_chk (fun h10 => ?_)
      refine p_getR C fgX12_11 rfl dX12_written_26 h9 h10 ?_
      refine q_aload_n C 0 dX12_written_29 rfl rfl ?_
      refine q_iload_n C 1 dX12_written_30 rfl rfl ?_
      refine q_iload_n C 2 dX12_written_31 rfl rfl ?_
      refine q_iconst C (0 : Int32) dX12_written_32 rfl ?_
      refine q_cVI (As := (fun P => [.int v1, .int v2, .int (0 : Int32)])) C [.ref (q_P E + (mR X15_7 r0 1))] (sX12_ofHolder r0 v1 v2 (0 : Int32)) fcX12_140 rfl (fun _ => rfl) ⟨Nat.le_of_ble_eq_true rfl, Nat.le_of_ble_eq_true rfl⟩ ⟨Nat.le_of_ble_eq_true rfl, Nat.le_of_ble_eq_true rfl⟩ (Nat.le_of_ble_eq_true rfl) dX12_written_33 h9 (fun w11 X33_12 => ?_)
      refine q_chk (fun h13 => ?_)
      refine q_chk (fun h14 => ?_)
      refine p_lald C dX12_written_36 h13 h14 ?_
      refine q_nml (fun v4_37 => ?_)
      refine q_lstore C [(4, .long v4_37), (0, .ref (q_P E + r0)), (1, .int v1), (2, .int v2), (3, .int v3)] dX12_written_37 (Nat.le_of_ble_eq_true rfl) rfl ?_
      refine q_iload_n C 4 dX12_written_39 rfl rfl ?_
      refine q_if_ne C 46 dX12_written_40 (by decide) (fun _ => ?_) (fun _ => ?_)
      · refine q_lload C 0 dX12_written_43 rfl ?_
        exact q_lret C dX12_written_45
      · refine q_iload_n C 4 dX12_written_46 rfl rfl ?_
        refine q_iconst C (1 : Int32) dX12_written_47 rfl ?_
        refine q_icmp_ne C 61 dX12_written_48 (by decide) (fun _ => ?_) (fun _ => ?_)
        · refine q_lload C 0 dX12_written_51 rfl ?_
          refine q_aload_n C 1 dX12_written_53 rfl rfl ?_
          refine q_iload_n C 2 dX12_written_54 rfl rfl ?_
          refine q_iload_n C 3 dX12_written_55 rfl rfl ?_
          refine q_chk (fun h18 => ?_)
          refine q_cVL (As := (fun P => [.int v1, .int v2])) C [.long v4_37] (sX12_claimedBy n r0 v1 v2) fcX12_393 rfl (fun _ => rfl) ⟨Nat.le_of_ble_eq_true rfl, Nat.le_of_ble_eq_true rfl⟩ ⟨Nat.le_of_ble_eq_true rfl, Nat.le_of_ble_eq_true rfl⟩ (Nat.le_of_ble_eq_true rfl) dX12_written_56 h18 (fun w16 X56_17 => ?_)
          refine q_ladd C dX12_written_59 ?_
          exact q_lret C dX12_written_60
        · refine q_aload_n C 1 dX12_written_61 rfl rfl ?_
          refine q_iload_n C 4 dX12_written_62 rfl rfl ?_
          refine q_i2l C dX12_written_63 ?_
          refine q_ldc2 C dX12_written_64 fkX12_136 ?_
          refine q_ldc2 C dX12_written_67 fkX12_391 ?_
          refine q_chk (fun h21 => ?_)
          refine q_cVI (As := (fun P => [.long ((v3).toInt64), .long (2 : Int64), .long (6 : Int64)])) C [] (sX12_isIn r0 (((v3).toInt64)) (2 : Int64) (6 : Int64)) fcX12_80 rfl (fun _ => rfl) ⟨Nat.le_of_ble_eq_true rfl, Nat.le_of_ble_eq_true rfl⟩ ⟨Nat.le_of_ble_eq_true rfl, Nat.le_of_ble_eq_true rfl⟩ (Nat.le_of_ble_eq_true rfl) dX12_written_70 h21 (fun w19 X70_20 => ?_)
          refine q_if_eq C 93 dX12_written_73 (by decide) (fun _ => ?_) (fun _ => ?_)
          · refine q_ldc2 C dX12_written_93 fkX12_381 ?_
            exact q_lret C dX12_written_96
          · refine q_aload_n C 1 dX12_written_76 rfl rfl ?_
            refine q_chk (fun h22 => ?_)
            refine q_chk (fun h23 => ?_)
            refine p_getR C fgX12_11 rfl dX12_written_77 h22 h23 ?_
            refine q_aload_n C 1 dX12_written_80 rfl rfl ?_
            refine q_iload_n C 2 dX12_written_81 rfl rfl ?_
            refine q_iload_n C 3 dX12_written_82 rfl rfl ?_
            refine q_iload_n C 4 dX12_written_83 rfl rfl ?_
            refine q_iconst C (1 : Int32) dX12_written_84 rfl ?_
            refine q_isub C dX12_written_85 ?_
            refine q_cVI (As := (fun P => [.int v1, .int v2, .int (v3 - (1 : Int32))])) C [.ref (q_P E + (mR X70_20 r0 1))] (sX12_ofHolder r0 v1 v2 ((v3 - (1 : Int32)))) fcX12_140 rfl (fun _ => rfl) ⟨Nat.le_of_ble_eq_true rfl, Nat.le_of_ble_eq_true rfl⟩ ⟨Nat.le_of_ble_eq_true rfl, Nat.le_of_ble_eq_true rfl⟩ (Nat.le_of_ble_eq_true rfl) dX12_written_86 h22 (fun w24 X86_25 => ?_)
            refine q_chk (fun h26 => ?_)
            refine q_chk (fun h27 => ?_)
            refine p_lald C dX12_written_89 h26 h27 ?_
            refine q_goto C 96 dX12_written_90 (by decide) ?_
            exact q_lret C dX12_written_96
/-! RecordClaimsModel.claim(III)J -/
abbrev cX12_claim : ByteArray := prog_14_method_92_code
def yX12_claim : MethodName := ⟨RX12, "claim", "(III)J"⟩
theorem dX12_claim_0 : decode cX12_claim 0 = .ok (.aload_n 0, 1) := by decide +kernel
theorem dX12_claim_1 : decode cX12_claim 1 = .ok (.iconst 0, 1) := by decide +kernel
theorem dX12_claim_2 : decode cX12_claim 2 = .ok (.putfield 63, 3) := by decide +kernel
theorem dX12_claim_5 : decode cX12_claim 5 = .ok (.aload_n 0, 1) := by decide +kernel
theorem dX12_claim_6 : decode cX12_claim 6 = .ok (.iload_n 1, 1) := by decide +kernel
theorem dX12_claim_7 : decode cX12_claim 7 = .ok (.invokevirtual 133, 3) := by decide +kernel
theorem dX12_claim_10 : decode cX12_claim 10 = .ok (.ifCond .eq 27, 3) := by decide +kernel
theorem dX12_claim_13 : decode cX12_claim 13 = .ok (.aload_n 0, 1) := by decide +kernel
theorem dX12_claim_14 : decode cX12_claim 14 = .ok (.iload_n 2, 1) := by decide +kernel
theorem dX12_claim_15 : decode cX12_claim 15 = .ok (.i2l, 1) := by decide +kernel
theorem dX12_claim_16 : decode cX12_claim 16 = .ok (.lconst 0, 1) := by decide +kernel
theorem dX12_claim_17 : decode cX12_claim 17 = .ok (.aload_n 0, 1) := by decide +kernel
theorem dX12_claim_18 : decode cX12_claim 18 = .ok (.getfield 11, 3) := by decide +kernel
theorem dX12_claim_21 : decode cX12_claim 21 = .ok (.aload_n 0, 1) := by decide +kernel
theorem dX12_claim_22 : decode cX12_claim 22 = .ok (.iload_n 1, 1) := by decide +kernel
theorem dX12_claim_23 : decode cX12_claim 23 = .ok (.bipush 6, 2) := by decide +kernel
theorem dX12_claim_25 : decode cX12_claim 25 = .ok (.invokevirtual 66, 3) := by decide +kernel
theorem dX12_claim_28 : decode cX12_claim 28 = .ok (.laload, 1) := by decide +kernel
theorem dX12_claim_29 : decode cX12_claim 29 = .ok (.lconst 1, 1) := by decide +kernel
theorem dX12_claim_30 : decode cX12_claim 30 = .ok (.lsub, 1) := by decide +kernel
theorem dX12_claim_31 : decode cX12_claim 31 = .ok (.invokevirtual 80, 3) := by decide +kernel
theorem dX12_claim_34 : decode cX12_claim 34 = .ok (.ifCond .ne 7, 3) := by decide +kernel
theorem dX12_claim_37 : decode cX12_claim 37 = .ok (.ldc2_w 117, 3) := by decide +kernel
theorem dX12_claim_40 : decode cX12_claim 40 = .ok (.lreturn, 1) := by decide +kernel
theorem dX12_claim_41 : decode cX12_claim 41 = .ok (.aload_n 0, 1) := by decide +kernel
theorem dX12_claim_42 : decode cX12_claim 42 = .ok (.getfield 11, 3) := by decide +kernel
theorem dX12_claim_45 : decode cX12_claim 45 = .ok (.aload_n 0, 1) := by decide +kernel
theorem dX12_claim_46 : decode cX12_claim 46 = .ok (.iload_n 1, 1) := by decide +kernel
theorem dX12_claim_47 : decode cX12_claim 47 = .ok (.iload_n 2, 1) := by decide +kernel
theorem dX12_claim_48 : decode cX12_claim 48 = .ok (.iconst 2, 1) := by decide +kernel
theorem dX12_claim_49 : decode cX12_claim 49 = .ok (.invokevirtual 164, 3) := by decide +kernel
theorem dX12_claim_52 : decode cX12_claim 52 = .ok (.laload, 1) := by decide +kernel
theorem dX12_claim_53 : decode cX12_claim 53 = .ok (.lstore 4, 2) := by decide +kernel
theorem dX12_claim_55 : decode cX12_claim 55 = .ok (.aload_n 0, 1) := by decide +kernel
theorem dX12_claim_56 : decode cX12_claim 56 = .ok (.iload_n 3, 1) := by decide +kernel
theorem dX12_claim_57 : decode cX12_claim 57 = .ok (.i2l, 1) := by decide +kernel
theorem dX12_claim_58 : decode cX12_claim 58 = .ok (.lconst 0, 1) := by decide +kernel
theorem dX12_claim_59 : decode cX12_claim 59 = .ok (.ldc2_w 397, 3) := by decide +kernel
theorem dX12_claim_62 : decode cX12_claim 62 = .ok (.invokevirtual 80, 3) := by decide +kernel
theorem dX12_claim_65 : decode cX12_claim 65 = .ok (.ifCond .eq 16, 3) := by decide +kernel
theorem dX12_claim_68 : decode cX12_claim 68 = .ok (.aload_n 0, 1) := by decide +kernel
theorem dX12_claim_69 : decode cX12_claim 69 = .ok (.getfield 11, 3) := by decide +kernel
theorem dX12_claim_72 : decode cX12_claim 72 = .ok (.aload_n 0, 1) := by decide +kernel
theorem dX12_claim_73 : decode cX12_claim 73 = .ok (.iload_n 1, 1) := by decide +kernel
theorem dX12_claim_74 : decode cX12_claim 74 = .ok (.iload_n 2, 1) := by decide +kernel
theorem dX12_claim_75 : decode cX12_claim 75 = .ok (.iload_n 3, 1) := by decide +kernel
theorem dX12_claim_76 : decode cX12_claim 76 = .ok (.invokevirtual 164, 3) := by decide +kernel
theorem dX12_claim_79 : decode cX12_claim 79 = .ok (.laload, 1) := by decide +kernel
theorem dX12_claim_80 : decode cX12_claim 80 = .ok (.lreturn, 1) := by decide +kernel
theorem dX12_claim_81 : decode cX12_claim 81 = .ok (.iload_n 3, 1) := by decide +kernel
theorem dX12_claim_82 : decode cX12_claim 82 = .ok (.iconst 5, 1) := by decide +kernel
theorem dX12_claim_83 : decode cX12_claim 83 = .ok (.if_icmp .ne 11, 3) := by decide +kernel
theorem dX12_claim_86 : decode cX12_claim 86 = .ok (.aload_n 0, 1) := by decide +kernel
theorem dX12_claim_87 : decode cX12_claim 87 = .ok (.iload_n 1, 1) := by decide +kernel
theorem dX12_claim_88 : decode cX12_claim 88 = .ok (.lload 4, 2) := by decide +kernel
theorem dX12_claim_90 : decode cX12_claim 90 = .ok (.invokevirtual 194, 3) := by decide +kernel
theorem dX12_claim_93 : decode cX12_claim 93 = .ok (.lreturn, 1) := by decide +kernel
theorem dX12_claim_94 : decode cX12_claim 94 = .ok (.iload_n 3, 1) := by decide +kernel
theorem dX12_claim_95 : decode cX12_claim 95 = .ok (.bipush 6, 2) := by decide +kernel
theorem dX12_claim_97 : decode cX12_claim 97 = .ok (.if_icmp .eq 9, 3) := by decide +kernel
theorem dX12_claim_100 : decode cX12_claim 100 = .ok (.ldc2_w 117, 3) := by decide +kernel
theorem dX12_claim_103 : decode cX12_claim 103 = .ok (.goto 32, 3) := by decide +kernel
theorem dX12_claim_106 : decode cX12_claim 106 = .ok (.aload_n 0, 1) := by decide +kernel
theorem dX12_claim_107 : decode cX12_claim 107 = .ok (.getfield 11, 3) := by decide +kernel
theorem dX12_claim_110 : decode cX12_claim 110 = .ok (.aload_n 0, 1) := by decide +kernel
theorem dX12_claim_111 : decode cX12_claim 111 = .ok (.iload_n 1, 1) := by decide +kernel
theorem dX12_claim_112 : decode cX12_claim 112 = .ok (.iconst 0, 1) := by decide +kernel
theorem dX12_claim_113 : decode cX12_claim 113 = .ok (.invokevirtual 66, 3) := by decide +kernel
theorem dX12_claim_116 : decode cX12_claim 116 = .ok (.laload, 1) := by decide +kernel
theorem dX12_claim_117 : decode cX12_claim 117 = .ok (.ldc2_w 136, 3) := by decide +kernel
theorem dX12_claim_120 : decode cX12_claim 120 = .ok (.lcmp, 1) := by decide +kernel
theorem dX12_claim_121 : decode cX12_claim 121 = .ok (.ifCond .ne 7, 3) := by decide +kernel
theorem dX12_claim_124 : decode cX12_claim 124 = .ok (.lconst 0, 1) := by decide +kernel
theorem dX12_claim_125 : decode cX12_claim 125 = .ok (.goto 10, 3) := by decide +kernel
theorem dX12_claim_128 : decode cX12_claim 128 = .ok (.aload_n 0, 1) := by decide +kernel
theorem dX12_claim_129 : decode cX12_claim 129 = .ok (.iload_n 1, 1) := by decide +kernel
theorem dX12_claim_130 : decode cX12_claim 130 = .ok (.lload 4, 2) := by decide +kernel
theorem dX12_claim_132 : decode cX12_claim 132 = .ok (.invokevirtual 208, 3) := by decide +kernel
theorem dX12_claim_135 : decode cX12_claim 135 = .ok (.lreturn, 1) := by decide +kernel
theorem fkX12_397 : Cond.constantLong RX12 397 (4 : Int64) ∈ q_tbl := q_tb 1737 (by decide +kernel) rfl
def fX12_claim_L37 (X : Mm) : Option (Int64 × Mm) :=
some ((-1 : Int64), X)
def fX12_claim (r0 : Nat) (v1 : Int32) (v2 : Int32) (v3 : Int32) (X : Mm) : Option (Int64 × Mm) :=
if mT X r0 = 12 then
nm (sI X r0 0 (0 : Int32)) fun X2_1 =>
if mT X2_1 r0 = 12 then
bd (fX12_isEvent r0 v1 X2_1) fun w3 X7_4 =>
if w3 = 0 then (
fX12_claim_L37 X7_4
) else (
if mT X7_4 r0 = 12 then
if mR X7_4 r0 1 ≠ 0 then
bd (fX12_of r0 v1 (6 : Int32) X7_4) fun w8 X25_9 =>
if mT X25_9 (mR X7_4 r0 1) = 15 then
if q_b X25_9 (mR X7_4 r0 1) w8 then
if mT X25_9 r0 = 12 then
bd (fX12_isIn r0 (((v2).toInt64)) (0 : Int64) (((mJ X25_9 (mR X7_4 r0 1) (w8).toNatClampNeg) - (1 : Int64))) X25_9) fun w12 X31_13 =>
if w12 = 0 then (
fX12_claim_L37 X31_13
) else (
if mT X31_13 r0 = 12 then
if mR X31_13 r0 1 ≠ 0 then
bd (fX12_ofClaim r0 v1 v2 (2 : Int32) X31_13) fun w17 X49_18 =>
if mT X49_18 (mR X31_13 r0 1) = 15 then
if q_b X49_18 (mR X31_13 r0 1) w17 then
nm ((mJ X49_18 (mR X31_13 r0 1) (w17).toNatClampNeg)) fun v4_53 =>
if mT X49_18 r0 = 12 then
bd (fX12_isIn r0 (((v3).toInt64)) (0 : Int64) (4 : Int64) X49_18) fun w22 X62_23 =>
if w22 = 0 then (
if v3 = (5 : Int32) then (
if mT X62_23 r0 = 12 then
bd (fX12_wholeOf r0 v1 v4_53 X62_23) fun w25 X90_26 =>
some (w25, X90_26)
else none
) else (
if v3 = (6 : Int32) then (
if mT X62_23 r0 = 12 then
if mR X62_23 r0 1 ≠ 0 then
bd (fX12_of r0 v1 (0 : Int32) X62_23) fun w30 X113_31 =>
if mT X113_31 (mR X62_23 r0 1) = 15 then
if q_b X113_31 (mR X62_23 r0 1) w30 then
if (lg_cmp (mJ X113_31 (mR X62_23 r0 1) (w30).toNatClampNeg) (2 : Int64)) = 0 then (
some ((0 : Int64), X113_31)
) else (
if mT X113_31 r0 = 12 then
bd (fX12_moneyOf r0 v1 v4_53 X113_31) fun w34 X132_35 =>
some (w34, X132_35)
else none
)
else none
else none
else none
else none
) else (
some ((-1 : Int64), X62_23)
)
)
) else (
if mT X62_23 r0 = 12 then
if mR X62_23 r0 1 ≠ 0 then
bd (fX12_ofClaim r0 v1 v2 v3 X62_23) fun w39 X76_40 =>
if mT X76_40 (mR X62_23 r0 1) = 15 then
if q_b X76_40 (mR X62_23 r0 1) w39 then
some ((mJ X76_40 (mR X62_23 r0 1) (w39).toNatClampNeg), X76_40)
else none
else none
else none
else none
)
else none
else none
else none
else none
else none
)
else none
else none
else none
else none
else none
)
else none
else none
theorem gX12_claim_L37 {E : q_E} {X0 : Mm} (C : Cx E cX12_claim RX12 6 (some .long) (q_rm 3 68 0 0) X0) (X : Mm) : Sm E (q_fin E q_eL X0 0 0) 0 0 37 [] [] X (fX12_claim_L37  X) := by
  unfold fX12_claim_L37
  refine q_ldc2 C dX12_claim_37 fkX12_117 ?_
  exact q_lret C dX12_claim_40
theorem sX12_claim (r0 : Nat) (v1 : Int32) (v2 : Int32) (v3 : Int32) : q_Ct yX12_claim cX12_claim 6 (some .long) 3 68 0 0 q_eL (fun P => [.ref (P + r0), .int v1, .int v2, .int v3]) (fX12_claim r0 v1 v2 v3) := by
  refine q_meth (by decide +kernel) (fun P => Nat.le_of_ble_eq_true rfl) (fun E X C hn => ?_)
  show Sm E (q_fin E q_eL X 0 0) 0 0 0 [(0, .ref (q_P E + r0)), (1, .int v1), (2, .int v2), (3, .int v3)] [] X _
  unfold fX12_claim
  refine q_aload_n C 0 dX12_claim_0 rfl rfl ?_
  refine q_iconst C (0 : Int32) dX12_claim_1 rfl ?_
  refine q_chk (fun h2 => ?_)
  refine p_putI C fpX12_63 rfl dX12_claim_2 h2 ?_
  refine q_nmX (fun X2_1 => ?_)
  refine q_aload_n C 0 dX12_claim_5 rfl rfl ?_
  refine q_iload_n C 1 dX12_claim_6 rfl rfl ?_
  refine q_chk (fun h5 => ?_)
  refine q_cVI (As := (fun P => [.int v1])) C [] (sX12_isEvent r0 v1) fcX12_133 rfl (fun _ => rfl) ⟨Nat.le_of_ble_eq_true rfl, Nat.le_of_ble_eq_true rfl⟩ ⟨Nat.le_of_ble_eq_true rfl, Nat.le_of_ble_eq_true rfl⟩ (Nat.le_of_ble_eq_true rfl) dX12_claim_7 h5 (fun w3 X7_4 => ?_)
  refine q_if_eq C 37 dX12_claim_10 (by decide) (fun _ => ?_) (fun _ => ?_)
  · refine q_sub C [] [] rfl ?_
    exact gX12_claim_L37 C X7_4
  · refine q_aload_n C 0 dX12_claim_13 rfl rfl ?_
    refine q_iload_n C 2 dX12_claim_14 rfl rfl ?_
    refine q_i2l C dX12_claim_15 ?_
    refine q_lconst C (0 : Int64) dX12_claim_16 rfl ?_
    refine q_aload_n C 0 dX12_claim_17 rfl rfl ?_
    refine q_chk (fun h6 => ?_)
    refine q_chk (fun h7 => ?_)
    refine p_getR C fgX12_11 rfl dX12_claim_18 h6 h7 ?_
    refine q_aload_n C 0 dX12_claim_21 rfl rfl ?_
    refine q_iload_n C 1 dX12_claim_22 rfl rfl ?_
    refine q_bipush C (6 : Int32) dX12_claim_23 rfl ?_
    refine q_cVI (As := (fun P => [.int v1, .int (6 : Int32)])) C [.ref (q_P E + (mR X7_4 r0 1)), .long (0 : Int64), .long ((v2).toInt64), .ref (q_P E + r0)] (sX12_of r0 v1 (6 : Int32)) fcX12_66 rfl (fun _ => rfl) ⟨Nat.le_of_ble_eq_true rfl, Nat.le_of_ble_eq_true rfl⟩ ⟨Nat.le_of_ble_eq_true rfl, Nat.le_of_ble_eq_true rfl⟩ (Nat.le_of_ble_eq_true rfl) dX12_claim_25 h6 (fun w8 X25_9 => ?_)
    refine q_chk (fun h10 => ?_)
    refine q_chk (fun h11 => ?_)
    refine p_lald C dX12_claim_28 h10 h11 ?_
    refine q_lconst C (1 : Int64) dX12_claim_29 rfl ?_
    refine q_lsub C dX12_claim_30 ?_
    refine q_chk (fun h14 => ?_)
    refine q_cVI (As := (fun P => [.long ((v2).toInt64), .long (0 : Int64), .long ((mJ X25_9 (mR X7_4 r0 1) (w8).toNatClampNeg) - (1 : Int64))])) C [] (sX12_isIn r0 (((v2).toInt64)) (0 : Int64) (((mJ X25_9 (mR X7_4 r0 1) (w8).toNatClampNeg) - (1 : Int64)))) fcX12_80 rfl (fun _ => rfl) ⟨Nat.le_of_ble_eq_true rfl, Nat.le_of_ble_eq_true rfl⟩ ⟨Nat.le_of_ble_eq_true rfl, Nat.le_of_ble_eq_true rfl⟩ (Nat.le_of_ble_eq_true rfl) dX12_claim_31 h14 (fun w12 X31_13 => ?_)
    refine q_if_ne C 41 dX12_claim_34 (by decide) (fun _ => ?_) (fun _ => ?_)
    · refine q_sub C [] [] rfl ?_
      exact gX12_claim_L37 C X31_13
    · refine q_aload_n C 0 dX12_claim_41 rfl rfl ?_
      refine q_chk (fun h15 => ?_)
      refine q_chk (fun h16 => ?_)
      refine p_getR C fgX12_11 rfl dX12_claim_42 h15 h16 ?_
      refine q_aload_n C 0 dX12_claim_45 rfl rfl ?_
      refine q_iload_n C 1 dX12_claim_46 rfl rfl ?_
      refine q_iload_n C 2 dX12_claim_47 rfl rfl ?_
      refine q_iconst C (2 : Int32) dX12_claim_48 rfl ?_
      refine q_cVI (As := (fun P => [.int v1, .int v2, .int (2 : Int32)])) C [.ref (q_P E + (mR X31_13 r0 1))] (sX12_ofClaim r0 v1 v2 (2 : Int32)) fcX12_164 rfl (fun _ => rfl) ⟨Nat.le_of_ble_eq_true rfl, Nat.le_of_ble_eq_true rfl⟩ ⟨Nat.le_of_ble_eq_true rfl, Nat.le_of_ble_eq_true rfl⟩ (Nat.le_of_ble_eq_true rfl) dX12_claim_49 h15 (fun w17 X49_18 => ?_)
      refine q_chk (fun h19 => ?_)
      refine q_chk (fun h20 => ?_)
      refine p_lald C dX12_claim_52 h19 h20 ?_
      refine q_nml (fun v4_53 => ?_)
      refine q_lstore C [(4, .long v4_53), (0, .ref (q_P E + r0)), (1, .int v1), (2, .int v2), (3, .int v3)] dX12_claim_53 (Nat.le_of_ble_eq_true rfl) rfl ?_
      refine q_aload_n C 1 dX12_claim_55 rfl rfl ?_
      refine q_iload_n C 4 dX12_claim_56 rfl rfl ?_
      refine q_i2l C dX12_claim_57 ?_
      refine q_lconst C (0 : Int64) dX12_claim_58 rfl ?_
      refine q_ldc2 C dX12_claim_59 fkX12_397 ?_
      refine q_chk (fun h24 => ?_)
      refine q_cVI (As := (fun P => [.long ((v3).toInt64), .long (0 : Int64), .long (4 : Int64)])) C [] (sX12_isIn r0 (((v3).toInt64)) (0 : Int64) (4 : Int64)) fcX12_80 rfl (fun _ => rfl) ⟨Nat.le_of_ble_eq_true rfl, Nat.le_of_ble_eq_true rfl⟩ ⟨Nat.le_of_ble_eq_true rfl, Nat.le_of_ble_eq_true rfl⟩ (Nat.le_of_ble_eq_true rfl) dX12_claim_62 h24 (fun w22 X62_23 => ?_)
      refine q_if_eq C 81 dX12_claim_65 (by decide) (fun _ => ?_) (fun _ => ?_)
      · refine q_iload_n C 4 dX12_claim_81 rfl rfl ?_
        refine q_iconst C (5 : Int32) dX12_claim_82 rfl ?_
        refine q_icmp_ne C 94 dX12_claim_83 (by decide) (fun _ => ?_) (fun _ => ?_)
        · refine q_aload_n C 1 dX12_claim_86 rfl rfl ?_
          refine q_iload_n C 2 dX12_claim_87 rfl rfl ?_
          refine q_lload C 0 dX12_claim_88 rfl ?_
          refine q_chk (fun h27 => ?_)
          refine q_cVL (As := (fun P => [.int v1, .long v4_53])) C [] (sX12_wholeOf r0 v1 v4_53) fcX12_194 rfl (fun _ => rfl) ⟨Nat.le_of_ble_eq_true rfl, Nat.le_of_ble_eq_true rfl⟩ ⟨Nat.le_of_ble_eq_true rfl, Nat.le_of_ble_eq_true rfl⟩ (Nat.le_of_ble_eq_true rfl) dX12_claim_90 h27 (fun w25 X90_26 => ?_)
          exact q_lret C dX12_claim_93
        · refine q_iload_n C 4 dX12_claim_94 rfl rfl ?_
          refine q_bipush C (6 : Int32) dX12_claim_95 rfl ?_
          refine q_icmp_eq C 106 dX12_claim_97 (by decide) (fun _ => ?_) (fun _ => ?_)
          · refine q_aload_n C 1 dX12_claim_106 rfl rfl ?_
            refine q_chk (fun h28 => ?_)
            refine q_chk (fun h29 => ?_)
            refine p_getR C fgX12_11 rfl dX12_claim_107 h28 h29 ?_
            refine q_aload_n C 1 dX12_claim_110 rfl rfl ?_
            refine q_iload_n C 2 dX12_claim_111 rfl rfl ?_
            refine q_iconst C (0 : Int32) dX12_claim_112 rfl ?_
            refine q_cVI (As := (fun P => [.int v1, .int (0 : Int32)])) C [.ref (q_P E + (mR X62_23 r0 1))] (sX12_of r0 v1 (0 : Int32)) fcX12_66 rfl (fun _ => rfl) ⟨Nat.le_of_ble_eq_true rfl, Nat.le_of_ble_eq_true rfl⟩ ⟨Nat.le_of_ble_eq_true rfl, Nat.le_of_ble_eq_true rfl⟩ (Nat.le_of_ble_eq_true rfl) dX12_claim_113 h28 (fun w30 X113_31 => ?_)
            refine q_chk (fun h32 => ?_)
            refine q_chk (fun h33 => ?_)
            refine p_lald C dX12_claim_116 h32 h33 ?_
            refine q_ldc2 C dX12_claim_117 fkX12_136 ?_
            refine q_lcmp C dX12_claim_120 ?_
            refine q_if_ne C 128 dX12_claim_121 (by decide) (fun _ => ?_) (fun _ => ?_)
            · refine q_lconst C (0 : Int64) dX12_claim_124 rfl ?_
              refine q_goto C 135 dX12_claim_125 (by decide) ?_
              exact q_lret C dX12_claim_135
            · refine q_aload_n C 1 dX12_claim_128 rfl rfl ?_
              refine q_iload_n C 2 dX12_claim_129 rfl rfl ?_
              refine q_lload C 0 dX12_claim_130 rfl ?_
              refine q_chk (fun h36 => ?_)
              refine q_cVL (As := (fun P => [.int v1, .long v4_53])) C [] (sX12_moneyOf r0 v1 v4_53) fcX12_208 rfl (fun _ => rfl) ⟨Nat.le_of_ble_eq_true rfl, Nat.le_of_ble_eq_true rfl⟩ ⟨Nat.le_of_ble_eq_true rfl, Nat.le_of_ble_eq_true rfl⟩ (Nat.le_of_ble_eq_true rfl) dX12_claim_132 h36 (fun w34 X132_35 => ?_)
              exact q_lret C dX12_claim_135
          · refine q_ldc2 C dX12_claim_100 fkX12_117 ?_
            refine q_goto C 135 dX12_claim_103 (by decide) ?_
            exact q_lret C dX12_claim_135
      · refine q_aload_n C 1 dX12_claim_68 rfl rfl ?_
        refine q_chk (fun h37 => ?_)
        refine q_chk (fun h38 => ?_)
        refine p_getR C fgX12_11 rfl dX12_claim_69 h37 h38 ?_
        refine q_aload_n C 1 dX12_claim_72 rfl rfl ?_
        refine q_iload_n C 2 dX12_claim_73 rfl rfl ?_
        refine q_iload_n C 3 dX12_claim_74 rfl rfl ?_
        refine q_iload_n C 4 dX12_claim_75 rfl rfl ?_
        refine q_cVI (As := (fun P => [.int v1, .int v2, .int v3])) C [.ref (q_P E + (mR X62_23 r0 1))] (sX12_ofClaim r0 v1 v2 v3) fcX12_164 rfl (fun _ => rfl) ⟨Nat.le_of_ble_eq_true rfl, Nat.le_of_ble_eq_true rfl⟩ ⟨Nat.le_of_ble_eq_true rfl, Nat.le_of_ble_eq_true rfl⟩ (Nat.le_of_ble_eq_true rfl) dX12_claim_76 h37 (fun w39 X76_40 => ?_)
        refine q_chk (fun h41 => ?_)
        refine q_chk (fun h42 => ?_)
        refine p_lald C dX12_claim_79 h41 h42 ?_
        exact q_lret C dX12_claim_80
/-! RecordClaimsModel.issued(II)J -/
abbrev cX12_issued : ByteArray := prog_14_method_93_code
def yX12_issued : MethodName := ⟨RX12, "issued", "(II)J"⟩
theorem dX12_issued_0 : decode cX12_issued 0 = .ok (.aload_n 0, 1) := by decide +kernel
theorem dX12_issued_1 : decode cX12_issued 1 = .ok (.iconst 0, 1) := by decide +kernel
theorem dX12_issued_2 : decode cX12_issued 2 = .ok (.putfield 63, 3) := by decide +kernel
theorem dX12_issued_5 : decode cX12_issued 5 = .ok (.aload_n 0, 1) := by decide +kernel
theorem dX12_issued_6 : decode cX12_issued 6 = .ok (.iload_n 1, 1) := by decide +kernel
theorem dX12_issued_7 : decode cX12_issued 7 = .ok (.invokevirtual 133, 3) := by decide +kernel
theorem dX12_issued_10 : decode cX12_issued 10 = .ok (.ifCond .eq 31, 3) := by decide +kernel
theorem dX12_issued_13 : decode cX12_issued 13 = .ok (.aload_n 0, 1) := by decide +kernel
theorem dX12_issued_14 : decode cX12_issued 14 = .ok (.iload_n 2, 1) := by decide +kernel
theorem dX12_issued_15 : decode cX12_issued 15 = .ok (.i2l, 1) := by decide +kernel
theorem dX12_issued_16 : decode cX12_issued 16 = .ok (.lconst 0, 1) := by decide +kernel
theorem dX12_issued_17 : decode cX12_issued 17 = .ok (.lconst 1, 1) := by decide +kernel
theorem dX12_issued_18 : decode cX12_issued 18 = .ok (.invokevirtual 80, 3) := by decide +kernel
theorem dX12_issued_21 : decode cX12_issued 21 = .ok (.ifCond .eq 20, 3) := by decide +kernel
theorem dX12_issued_24 : decode cX12_issued 24 = .ok (.aload_n 0, 1) := by decide +kernel
theorem dX12_issued_25 : decode cX12_issued 25 = .ok (.getfield 11, 3) := by decide +kernel
theorem dX12_issued_28 : decode cX12_issued 28 = .ok (.aload_n 0, 1) := by decide +kernel
theorem dX12_issued_29 : decode cX12_issued 29 = .ok (.iload_n 1, 1) := by decide +kernel
theorem dX12_issued_30 : decode cX12_issued 30 = .ok (.bipush 13, 2) := by decide +kernel
theorem dX12_issued_32 : decode cX12_issued 32 = .ok (.iload_n 2, 1) := by decide +kernel
theorem dX12_issued_33 : decode cX12_issued 33 = .ok (.iadd, 1) := by decide +kernel
theorem dX12_issued_34 : decode cX12_issued 34 = .ok (.invokevirtual 66, 3) := by decide +kernel
theorem dX12_issued_37 : decode cX12_issued 37 = .ok (.laload, 1) := by decide +kernel
theorem dX12_issued_38 : decode cX12_issued 38 = .ok (.goto 6, 3) := by decide +kernel
theorem dX12_issued_41 : decode cX12_issued 41 = .ok (.ldc2_w 381, 3) := by decide +kernel
theorem dX12_issued_44 : decode cX12_issued 44 = .ok (.lreturn, 1) := by decide +kernel
def fX12_issued_L41 (X : Mm) : Option (Int64 × Mm) :=
some ((-9223372036854775808 : Int64), X)
def fX12_issued (r0 : Nat) (v1 : Int32) (v2 : Int32) (X : Mm) : Option (Int64 × Mm) :=
if mT X r0 = 12 then
nm (sI X r0 0 (0 : Int32)) fun X2_1 =>
if mT X2_1 r0 = 12 then
bd (fX12_isEvent r0 v1 X2_1) fun w3 X7_4 =>
if w3 = 0 then (
fX12_issued_L41 X7_4
) else (
if mT X7_4 r0 = 12 then
bd (fX12_isIn r0 (((v2).toInt64)) (0 : Int64) (1 : Int64) X7_4) fun w6 X18_7 =>
if w6 = 0 then (
fX12_issued_L41 X18_7
) else (
if mT X18_7 r0 = 12 then
if mR X18_7 r0 1 ≠ 0 then
bd (fX12_of r0 v1 (((13 : Int32) + v2)) X18_7) fun w11 X34_12 =>
if mT X34_12 (mR X18_7 r0 1) = 15 then
if q_b X34_12 (mR X18_7 r0 1) w11 then
some ((mJ X34_12 (mR X18_7 r0 1) (w11).toNatClampNeg), X34_12)
else none
else none
else none
else none
)
else none
)
else none
else none
theorem gX12_issued_L41 {E : q_E} {X0 : Mm} (C : Cx E cX12_issued RX12 3 (some .long) (q_rm 2 47 0 0) X0) (X : Mm) : Sm E (q_fin E q_eL X0 0 0) 0 0 41 [] [] X (fX12_issued_L41  X) := by
  unfold fX12_issued_L41
  refine q_ldc2 C dX12_issued_41 fkX12_381 ?_
  exact q_lret C dX12_issued_44
theorem sX12_issued (r0 : Nat) (v1 : Int32) (v2 : Int32) : q_Ct yX12_issued cX12_issued 3 (some .long) 2 47 0 0 q_eL (fun P => [.ref (P + r0), .int v1, .int v2]) (fX12_issued r0 v1 v2) := by
  refine q_meth (by decide +kernel) (fun P => Nat.le_of_ble_eq_true rfl) (fun E X C hn => ?_)
  show Sm E (q_fin E q_eL X 0 0) 0 0 0 [(0, .ref (q_P E + r0)), (1, .int v1), (2, .int v2)] [] X _
  unfold fX12_issued
  refine q_aload_n C 0 dX12_issued_0 rfl rfl ?_
  refine q_iconst C (0 : Int32) dX12_issued_1 rfl ?_
  refine q_chk (fun h2 => ?_)
  refine p_putI C fpX12_63 rfl dX12_issued_2 h2 ?_
  refine q_nmX (fun X2_1 => ?_)
  refine q_aload_n C 0 dX12_issued_5 rfl rfl ?_
  refine q_iload_n C 1 dX12_issued_6 rfl rfl ?_
  refine q_chk (fun h5 => ?_)
  refine q_cVI (As := (fun P => [.int v1])) C [] (sX12_isEvent r0 v1) fcX12_133 rfl (fun _ => rfl) ⟨Nat.le_of_ble_eq_true rfl, Nat.le_of_ble_eq_true rfl⟩ ⟨Nat.le_of_ble_eq_true rfl, Nat.le_of_ble_eq_true rfl⟩ (Nat.le_of_ble_eq_true rfl) dX12_issued_7 h5 (fun w3 X7_4 => ?_)
  refine q_if_eq C 41 dX12_issued_10 (by decide) (fun _ => ?_) (fun _ => ?_)
  · refine q_sub C [] [] rfl ?_
    exact gX12_issued_L41 C X7_4
  · refine q_aload_n C 0 dX12_issued_13 rfl rfl ?_
    refine q_iload_n C 2 dX12_issued_14 rfl rfl ?_
    refine q_i2l C dX12_issued_15 ?_
    refine q_lconst C (0 : Int64) dX12_issued_16 rfl ?_
    refine q_lconst C (1 : Int64) dX12_issued_17 rfl ?_
    refine q_chk (fun h8 => ?_)
    refine q_cVI (As := (fun P => [.long ((v2).toInt64), .long (0 : Int64), .long (1 : Int64)])) C [] (sX12_isIn r0 (((v2).toInt64)) (0 : Int64) (1 : Int64)) fcX12_80 rfl (fun _ => rfl) ⟨Nat.le_of_ble_eq_true rfl, Nat.le_of_ble_eq_true rfl⟩ ⟨Nat.le_of_ble_eq_true rfl, Nat.le_of_ble_eq_true rfl⟩ (Nat.le_of_ble_eq_true rfl) dX12_issued_18 h8 (fun w6 X18_7 => ?_)
    refine q_if_eq C 41 dX12_issued_21 (by decide) (fun _ => ?_) (fun _ => ?_)
    · refine q_sub C [] [] rfl ?_
      exact gX12_issued_L41 C X18_7
    · refine q_aload_n C 0 dX12_issued_24 rfl rfl ?_
      refine q_chk (fun h9 => ?_)
      refine q_chk (fun h10 => ?_)
      refine p_getR C fgX12_11 rfl dX12_issued_25 h9 h10 ?_
      refine q_aload_n C 0 dX12_issued_28 rfl rfl ?_
      refine q_iload_n C 1 dX12_issued_29 rfl rfl ?_
      refine q_bipush C (13 : Int32) dX12_issued_30 rfl ?_
      refine q_iload_n C 2 dX12_issued_32 rfl rfl ?_
      refine q_iadd C dX12_issued_33 ?_
      refine q_cVI (As := (fun P => [.int v1, .int ((13 : Int32) + v2)])) C [.ref (q_P E + (mR X18_7 r0 1))] (sX12_of r0 v1 (((13 : Int32) + v2))) fcX12_66 rfl (fun _ => rfl) ⟨Nat.le_of_ble_eq_true rfl, Nat.le_of_ble_eq_true rfl⟩ ⟨Nat.le_of_ble_eq_true rfl, Nat.le_of_ble_eq_true rfl⟩ (Nat.le_of_ble_eq_true rfl) dX12_issued_34 h9 (fun w11 X34_12 => ?_)
      refine q_chk (fun h13 => ?_)
      refine q_chk (fun h14 => ?_)
      refine p_lald C dX12_issued_37 h13 h14 ?_
      refine q_goto C 44 dX12_issued_38 (by decide) ?_
      exact q_lret C dX12_issued_44
