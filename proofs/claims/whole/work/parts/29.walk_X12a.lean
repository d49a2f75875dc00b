/-! RecordClaimsModel.<init>()V -/
abbrev cX12_init : ByteArray := prog_14_method_1_code
def yX12_init : MethodName := ⟨RX12, "<init>", "()V"⟩
theorem dX12_init_0 : decode cX12_init 0 = .ok (.aload_n 0, 1) := by decide +kernel
theorem dX12_init_1 : decode cX12_init 1 = .ok (.invokespecial 3, 3) := by decide +kernel
theorem dX12_init_4 : decode cX12_init 4 = .ok (.aload_n 0, 1) := by decide +kernel
theorem dX12_init_5 : decode cX12_init 5 = .ok (.sipush 4604, 3) := by decide +kernel
theorem dX12_init_8 : decode cX12_init 8 = .ok (.newarray .long, 2) := by decide +kernel
theorem dX12_init_10 : decode cX12_init 10 = .ok (.putfield 11, 3) := by decide +kernel
theorem dX12_init_13 : decode cX12_init 13 = .ok (.aload_n 0, 1) := by decide +kernel
theorem dX12_init_14 : decode cX12_init 14 = .ok (.sipush 4604, 3) := by decide +kernel
theorem dX12_init_17 : decode cX12_init 17 = .ok (.newarray .long, 2) := by decide +kernel
theorem dX12_init_19 : decode cX12_init 19 = .ok (.putfield 15, 3) := by decide +kernel
theorem dX12_init_22 : decode cX12_init 22 = .ok (.aload_n 0, 1) := by decide +kernel
theorem dX12_init_23 : decode cX12_init 23 = .ok (.sipush 4604, 3) := by decide +kernel
theorem dX12_init_26 : decode cX12_init 26 = .ok (.newarray .long, 2) := by decide +kernel
theorem dX12_init_28 : decode cX12_init 28 = .ok (.putfield 18, 3) := by decide +kernel
theorem dX12_init_31 : decode cX12_init 31 = .ok (.aload_n 0, 1) := by decide +kernel
theorem dX12_init_32 : decode cX12_init 32 = .ok (.sipush 27624, 3) := by decide +kernel
theorem dX12_init_35 : decode cX12_init 35 = .ok (.newarray .long, 2) := by decide +kernel
theorem dX12_init_37 : decode cX12_init 37 = .ok (.putfield 21, 3) := by decide +kernel
theorem dX12_init_40 : decode cX12_init 40 = .ok (.aload_n 0, 1) := by decide +kernel
theorem dX12_init_41 : decode cX12_init 41 = .ok (.bipush 10, 2) := by decide +kernel
theorem dX12_init_43 : decode cX12_init 43 = .ok (.newarray .long, 2) := by decide +kernel
theorem dX12_init_45 : decode cX12_init 45 = .ok (.putfield 24, 3) := by decide +kernel
theorem dX12_init_48 : decode cX12_init 48 = .ok (.aload_n 0, 1) := by decide +kernel
theorem dX12_init_49 : decode cX12_init 49 = .ok (.iconst 5, 1) := by decide +kernel
theorem dX12_init_50 : decode cX12_init 50 = .ok (.newarray .long, 2) := by decide +kernel
theorem dX12_init_52 : decode cX12_init 52 = .ok (.putfield 27, 3) := by decide +kernel
theorem dX12_init_55 : decode cX12_init 55 = .ok (.aload_n 0, 1) := by decide +kernel
theorem dX12_init_56 : decode cX12_init 56 = .ok (.bipush 113, 2) := by decide +kernel
theorem dX12_init_58 : decode cX12_init 58 = .ok (.newarray .byte, 2) := by decide +kernel
theorem dX12_init_60 : decode cX12_init 60 = .ok (.dup, 1) := by decide +kernel
theorem dX12_init_61 : decode cX12_init 61 = .ok (.iconst 0, 1) := by decide +kernel
theorem dX12_init_62 : decode cX12_init 62 = .ok (.bipush 104, 2) := by decide +kernel
theorem dX12_init_64 : decode cX12_init 64 = .ok (.bastore, 1) := by decide +kernel
theorem dX12_init_65 : decode cX12_init 65 = .ok (.dup, 1) := by decide +kernel
theorem dX12_init_66 : decode cX12_init 66 = .ok (.iconst 1, 1) := by decide +kernel
theorem dX12_init_67 : decode cX12_init 67 = .ok (.bipush 111, 2) := by decide +kernel
theorem dX12_init_69 : decode cX12_init 69 = .ok (.bastore, 1) := by decide +kernel
theorem dX12_init_70 : decode cX12_init 70 = .ok (.dup, 1) := by decide +kernel
theorem dX12_init_71 : decode cX12_init 71 = .ok (.iconst 2, 1) := by decide +kernel
theorem dX12_init_72 : decode cX12_init 72 = .ok (.bipush 108, 2) := by decide +kernel
theorem dX12_init_74 : decode cX12_init 74 = .ok (.bastore, 1) := by decide +kernel
theorem dX12_init_75 : decode cX12_init 75 = .ok (.dup, 1) := by decide +kernel
theorem dX12_init_76 : decode cX12_init 76 = .ok (.iconst 3, 1) := by decide +kernel
theorem dX12_init_77 : decode cX12_init 77 = .ok (.bipush 100, 2) := by decide +kernel
theorem dX12_init_79 : decode cX12_init 79 = .ok (.bastore, 1) := by decide +kernel
theorem dX12_init_80 : decode cX12_init 80 = .ok (.dup, 1) := by decide +kernel
theorem dX12_init_81 : decode cX12_init 81 = .ok (.iconst 4, 1) := by decide +kernel
theorem dX12_init_82 : decode cX12_init 82 = .ok (.bipush 101, 2) := by decide +kernel
theorem dX12_init_84 : decode cX12_init 84 = .ok (.bastore, 1) := by decide +kernel
theorem dX12_init_85 : decode cX12_init 85 = .ok (.dup, 1) := by decide +kernel
theorem dX12_init_86 : decode cX12_init 86 = .ok (.iconst 5, 1) := by decide +kernel
theorem dX12_init_87 : decode cX12_init 87 = .ok (.bipush 114, 2) := by decide +kernel
theorem dX12_init_89 : decode cX12_init 89 = .ok (.bastore, 1) := by decide +kernel
theorem dX12_init_90 : decode cX12_init 90 = .ok (.dup, 1) := by decide +kernel
theorem dX12_init_91 : decode cX12_init 91 = .ok (.bipush 6, 2) := by decide +kernel
theorem dX12_init_93 : decode cX12_init 93 = .ok (.bipush 32, 2) := by decide +kernel
theorem dX12_init_95 : decode cX12_init 95 = .ok (.bastore, 1) := by decide +kernel
theorem dX12_init_96 : decode cX12_init 96 = .ok (.dup, 1) := by decide +kernel
theorem dX12_init_97 : decode cX12_init 97 = .ok (.bipush 7, 2) := by decide +kernel
theorem dX12_init_99 : decode cX12_init 99 = .ok (.bipush 112, 2) := by decide +kernel
theorem dX12_init_101 : decode cX12_init 101 = .ok (.bastore, 1) := by decide +kernel
theorem dX12_init_102 : decode cX12_init 102 = .ok (.dup, 1) := by decide +kernel
theorem dX12_init_103 : decode cX12_init 103 = .ok (.bipush 8, 2) := by decide +kernel
theorem dX12_init_105 : decode cX12_init 105 = .ok (.bipush 97, 2) := by decide +kernel
theorem dX12_init_107 : decode cX12_init 107 = .ok (.bastore, 1) := by decide +kernel
theorem dX12_init_108 : decode cX12_init 108 = .ok (.dup, 1) := by decide +kernel
theorem dX12_init_109 : decode cX12_init 109 = .ok (.bipush 9, 2) := by decide +kernel
theorem dX12_init_111 : decode cX12_init 111 = .ok (.bipush 112, 2) := by decide +kernel
theorem dX12_init_113 : decode cX12_init 113 = .ok (.bastore, 1) := by decide +kernel
theorem dX12_init_114 : decode cX12_init 114 = .ok (.dup, 1) := by decide +kernel
theorem dX12_init_115 : decode cX12_init 115 = .ok (.bipush 10, 2) := by decide +kernel
theorem dX12_init_117 : decode cX12_init 117 = .ok (.bipush 101, 2) := by decide +kernel
theorem dX12_init_119 : decode cX12_init 119 = .ok (.bastore, 1) := by decide +kernel
theorem dX12_init_120 : decode cX12_init 120 = .ok (.dup, 1) := by decide +kernel
theorem dX12_init_121 : decode cX12_init 121 = .ok (.bipush 11, 2) := by decide +kernel
theorem dX12_init_123 : decode cX12_init 123 = .ok (.bipush 114, 2) := by decide +kernel
theorem dX12_init_125 : decode cX12_init 125 = .ok (.bastore, 1) := by decide +kernel
theorem dX12_init_126 : decode cX12_init 126 = .ok (.dup, 1) := by decide +kernel
theorem dX12_init_127 : decode cX12_init 127 = .ok (.bipush 12, 2) := by decide +kernel
theorem dX12_init_129 : decode cX12_init 129 = .ok (.bipush 32, 2) := by decide +kernel
theorem dX12_init_131 : decode cX12_init 131 = .ok (.bastore, 1) := by decide +kernel
theorem dX12_init_132 : decode cX12_init 132 = .ok (.dup, 1) := by decide +kernel
theorem dX12_init_133 : decode cX12_init 133 = .ok (.bipush 13, 2) := by decide +kernel
theorem dX12_init_135 : decode cX12_init 135 = .ok (.bipush 104, 2) := by decide +kernel
theorem dX12_init_137 : decode cX12_init 137 = .ok (.bastore, 1) := by decide +kernel
theorem dX12_init_138 : decode cX12_init 138 = .ok (.dup, 1) := by decide +kernel
theorem dX12_init_139 : decode cX12_init 139 = .ok (.bipush 14, 2) := by decide +kernel
theorem dX12_init_141 : decode cX12_init 141 = .ok (.bipush 97, 2) := by decide +kernel
theorem dX12_init_143 : decode cX12_init 143 = .ok (.bastore, 1) := by decide +kernel
theorem dX12_init_144 : decode cX12_init 144 = .ok (.dup, 1) := by decide +kernel
theorem dX12_init_145 : decode cX12_init 145 = .ok (.bipush 15, 2) := by decide +kernel
theorem dX12_init_147 : decode cX12_init 147 = .ok (.bipush 115, 2) := by decide +kernel
theorem dX12_init_149 : decode cX12_init 149 = .ok (.bastore, 1) := by decide +kernel
theorem dX12_init_150 : decode cX12_init 150 = .ok (.dup, 1) := by decide +kernel
theorem dX12_init_151 : decode cX12_init 151 = .ok (.bipush 16, 2) := by decide +kernel
theorem dX12_init_153 : decode cX12_init 153 = .ok (.bipush 32, 2) := by decide +kernel
theorem dX12_init_155 : decode cX12_init 155 = .ok (.bastore, 1) := by decide +kernel
theorem dX12_init_156 : decode cX12_init 156 = .ok (.dup, 1) := by decide +kernel
theorem dX12_init_157 : decode cX12_init 157 = .ok (.bipush 17, 2) := by decide +kernel
theorem dX12_init_159 : decode cX12_init 159 = .ok (.bipush 116, 2) := by decide +kernel
theorem dX12_init_161 : decode cX12_init 161 = .ok (.bastore, 1) := by decide +kernel
theorem dX12_init_162 : decode cX12_init 162 = .ok (.dup, 1) := by decide +kernel
theorem dX12_init_163 : decode cX12_init 163 = .ok (.bipush 18, 2) := by decide +kernel
theorem dX12_init_165 : decode cX12_init 165 = .ok (.bipush 114, 2) := by decide +kernel
theorem dX12_init_167 : decode cX12_init 167 = .ok (.bastore, 1) := by decide +kernel
theorem dX12_init_168 : decode cX12_init 168 = .ok (.dup, 1) := by decide +kernel
theorem dX12_init_169 : decode cX12_init 169 = .ok (.bipush 19, 2) := by decide +kernel
theorem dX12_init_171 : decode cX12_init 171 = .ok (.bipush 97, 2) := by decide +kernel
theorem dX12_init_173 : decode cX12_init 173 = .ok (.bastore, 1) := by decide +kernel
theorem dX12_init_174 : decode cX12_init 174 = .ok (.dup, 1) := by decide +kernel
theorem dX12_init_175 : decode cX12_init 175 = .ok (.bipush 20, 2) := by decide +kernel
theorem dX12_init_177 : decode cX12_init 177 = .ok (.bipush 100, 2) := by decide +kernel
theorem dX12_init_179 : decode cX12_init 179 = .ok (.bastore, 1) := by decide +kernel
theorem dX12_init_180 : decode cX12_init 180 = .ok (.dup, 1) := by decide +kernel
theorem dX12_init_181 : decode cX12_init 181 = .ok (.bipush 21, 2) := by decide +kernel
theorem dX12_init_183 : decode cX12_init 183 = .ok (.bipush 101, 2) := by decide +kernel
theorem dX12_init_185 : decode cX12_init 185 = .ok (.bastore, 1) := by decide +kernel
theorem dX12_init_186 : decode cX12_init 186 = .ok (.dup, 1) := by decide +kernel
theorem dX12_init_187 : decode cX12_init 187 = .ok (.bipush 22, 2) := by decide +kernel
theorem dX12_init_189 : decode cX12_init 189 = .ok (.bipush 32, 2) := by decide +kernel
theorem dX12_init_191 : decode cX12_init 191 = .ok (.bastore, 1) := by decide +kernel
theorem dX12_init_192 : decode cX12_init 192 = .ok (.dup, 1) := by decide +kernel
theorem dX12_init_193 : decode cX12_init 193 = .ok (.bipush 23, 2) := by decide +kernel
theorem dX12_init_195 : decode cX12_init 195 = .ok (.bipush 119, 2) := by decide +kernel
theorem dX12_init_197 : decode cX12_init 197 = .ok (.bastore, 1) := by decide +kernel
theorem dX12_init_198 : decode cX12_init 198 = .ok (.dup, 1) := by decide +kernel
theorem dX12_init_199 : decode cX12_init 199 = .ok (.bipush 24, 2) := by decide +kernel
theorem dX12_init_201 : decode cX12_init 201 = .ok (.bipush 105, 2) := by decide +kernel
theorem dX12_init_203 : decode cX12_init 203 = .ok (.bastore, 1) := by decide +kernel
theorem dX12_init_204 : decode cX12_init 204 = .ok (.dup, 1) := by decide +kernel
theorem dX12_init_205 : decode cX12_init 205 = .ok (.bipush 25, 2) := by decide +kernel
theorem dX12_init_207 : decode cX12_init 207 = .ok (.bipush 116, 2) := by decide +kernel
theorem dX12_init_209 : decode cX12_init 209 = .ok (.bastore, 1) := by decide +kernel
theorem dX12_init_210 : decode cX12_init 210 = .ok (.dup, 1) := by decide +kernel
theorem dX12_init_211 : decode cX12_init 211 = .ok (.bipush 26, 2) := by decide +kernel
theorem dX12_init_213 : decode cX12_init 213 = .ok (.bipush 104, 2) := by decide +kernel
theorem dX12_init_215 : decode cX12_init 215 = .ok (.bastore, 1) := by decide +kernel
theorem dX12_init_216 : decode cX12_init 216 = .ok (.dup, 1) := by decide +kernel
theorem dX12_init_217 : decode cX12_init 217 = .ok (.bipush 27, 2) := by decide +kernel
theorem dX12_init_219 : decode cX12_init 219 = .ok (.bipush 105, 2) := by decide +kernel
theorem dX12_init_221 : decode cX12_init 221 = .ok (.bastore, 1) := by decide +kernel
theorem dX12_init_222 : decode cX12_init 222 = .ok (.dup, 1) := by decide +kernel
theorem dX12_init_223 : decode cX12_init 223 = .ok (.bipush 28, 2) := by decide +kernel
theorem dX12_init_225 : decode cX12_init 225 = .ok (.bipush 110, 2) := by decide +kernel
theorem dX12_init_227 : decode cX12_init 227 = .ok (.bastore, 1) := by decide +kernel
theorem dX12_init_228 : decode cX12_init 228 = .ok (.dup, 1) := by decide +kernel
theorem dX12_init_229 : decode cX12_init 229 = .ok (.bipush 29, 2) := by decide +kernel
theorem dX12_init_231 : decode cX12_init 231 = .ok (.bipush 32, 2) := by decide +kernel
theorem dX12_init_233 : decode cX12_init 233 = .ok (.bastore, 1) := by decide +kernel
theorem dX12_init_234 : decode cX12_init 234 = .ok (.dup, 1) := by decide +kernel
theorem dX12_init_235 : decode cX12_init 235 = .ok (.bipush 30, 2) := by decide +kernel
theorem dX12_init_237 : decode cX12_init 237 = .ok (.bipush 109, 2) := by decide +kernel
theorem dX12_init_239 : decode cX12_init 239 = .ok (.bastore, 1) := by decide +kernel
theorem dX12_init_240 : decode cX12_init 240 = .ok (.dup, 1) := by decide +kernel
theorem dX12_init_241 : decode cX12_init 241 = .ok (.bipush 31, 2) := by decide +kernel
theorem dX12_init_243 : decode cX12_init 243 = .ok (.bipush 111, 2) := by decide +kernel
theorem dX12_init_245 : decode cX12_init 245 = .ok (.bastore, 1) := by decide +kernel
theorem dX12_init_246 : decode cX12_init 246 = .ok (.dup, 1) := by decide +kernel
theorem dX12_init_247 : decode cX12_init 247 = .ok (.bipush 32, 2) := by decide +kernel
theorem dX12_init_249 : decode cX12_init 249 = .ok (.bipush 110, 2) := by decide +kernel
theorem dX12_init_251 : decode cX12_init 251 = .ok (.bastore, 1) := by decide +kernel
theorem dX12_init_252 : decode cX12_init 252 = .ok (.dup, 1) := by decide +kernel
theorem dX12_init_253 : decode cX12_init 253 = .ok (.bipush 33, 2) := by decide +kernel
theorem dX12_init_255 : decode cX12_init 255 = .ok (.bipush 101, 2) := by decide +kernel
theorem dX12_init_257 : decode cX12_init 257 = .ok (.bastore, 1) := by decide +kernel
theorem dX12_init_258 : decode cX12_init 258 = .ok (.dup, 1) := by decide +kernel
theorem dX12_init_259 : decode cX12_init 259 = .ok (.bipush 34, 2) := by decide +kernel
theorem dX12_init_261 : decode cX12_init 261 = .ok (.bipush 121, 2) := by decide +kernel
theorem dX12_init_263 : decode cX12_init 263 = .ok (.bastore, 1) := by decide +kernel
theorem dX12_init_264 : decode cX12_init 264 = .ok (.dup, 1) := by decide +kernel
theorem dX12_init_265 : decode cX12_init 265 = .ok (.bipush 35, 2) := by decide +kernel
theorem dX12_init_267 : decode cX12_init 267 = .ok (.bipush 32, 2) := by decide +kernel
theorem dX12_init_269 : decode cX12_init 269 = .ok (.bastore, 1) := by decide +kernel
theorem dX12_init_270 : decode cX12_init 270 = .ok (.dup, 1) := by decide +kernel
theorem dX12_init_271 : decode cX12_init 271 = .ok (.bipush 36, 2) := by decide +kernel
theorem dX12_init_273 : decode cX12_init 273 = .ok (.bipush 103, 2) := by decide +kernel
theorem dX12_init_275 : decode cX12_init 275 = .ok (.bastore, 1) := by decide +kernel
theorem dX12_init_276 : decode cX12_init 276 = .ok (.dup, 1) := by decide +kernel
theorem dX12_init_277 : decode cX12_init 277 = .ok (.bipush 37, 2) := by decide +kernel
theorem dX12_init_279 : decode cX12_init 279 = .ok (.bipush 105, 2) := by decide +kernel
theorem dX12_init_281 : decode cX12_init 281 = .ok (.bastore, 1) := by decide +kernel
theorem dX12_init_282 : decode cX12_init 282 = .ok (.dup, 1) := by decide +kernel
theorem dX12_init_283 : decode cX12_init 283 = .ok (.bipush 38, 2) := by decide +kernel
theorem dX12_init_285 : decode cX12_init 285 = .ok (.bipush 102, 2) := by decide +kernel
theorem dX12_init_287 : decode cX12_init 287 = .ok (.bastore, 1) := by decide +kernel
theorem dX12_init_288 : decode cX12_init 288 = .ok (.dup, 1) := by decide +kernel
theorem dX12_init_289 : decode cX12_init 289 = .ok (.bipush 39, 2) := by decide +kernel
theorem dX12_init_291 : decode cX12_init 291 = .ok (.bipush 116, 2) := by decide +kernel
theorem dX12_init_293 : decode cX12_init 293 = .ok (.bastore, 1) := by decide +kernel
theorem dX12_init_294 : decode cX12_init 294 = .ok (.dup, 1) := by decide +kernel
theorem dX12_init_295 : decode cX12_init 295 = .ok (.bipush 40, 2) := by decide +kernel
theorem dX12_init_297 : decode cX12_init 297 = .ok (.bipush 32, 2) := by decide +kernel
theorem dX12_init_299 : decode cX12_init 299 = .ok (.bastore, 1) := by decide +kernel
theorem dX12_init_300 : decode cX12_init 300 = .ok (.dup, 1) := by decide +kernel
theorem dX12_init_301 : decode cX12_init 301 = .ok (.bipush 41, 2) := by decide +kernel
theorem dX12_init_303 : decode cX12_init 303 = .ok (.bipush 114, 2) := by decide +kernel
theorem dX12_init_305 : decode cX12_init 305 = .ok (.bastore, 1) := by decide +kernel
theorem dX12_init_306 : decode cX12_init 306 = .ok (.dup, 1) := by decide +kernel
theorem dX12_init_307 : decode cX12_init 307 = .ok (.bipush 42, 2) := by decide +kernel
theorem dX12_init_309 : decode cX12_init 309 = .ok (.bipush 105, 2) := by decide +kernel
theorem dX12_init_311 : decode cX12_init 311 = .ok (.bastore, 1) := by decide +kernel
theorem dX12_init_312 : decode cX12_init 312 = .ok (.dup, 1) := by decide +kernel
theorem dX12_init_313 : decode cX12_init 313 = .ok (.bipush 43, 2) := by decide +kernel
theorem dX12_init_315 : decode cX12_init 315 = .ok (.bipush 103, 2) := by decide +kernel
theorem dX12_init_317 : decode cX12_init 317 = .ok (.bastore, 1) := by decide +kernel
theorem dX12_init_318 : decode cX12_init 318 = .ok (.dup, 1) := by decide +kernel
theorem dX12_init_319 : decode cX12_init 319 = .ok (.bipush 44, 2) := by decide +kernel
theorem dX12_init_321 : decode cX12_init 321 = .ok (.bipush 104, 2) := by decide +kernel
theorem dX12_init_323 : decode cX12_init 323 = .ok (.bastore, 1) := by decide +kernel
theorem dX12_init_324 : decode cX12_init 324 = .ok (.dup, 1) := by decide +kernel
theorem dX12_init_325 : decode cX12_init 325 = .ok (.bipush 45, 2) := by decide +kernel
theorem dX12_init_327 : decode cX12_init 327 = .ok (.bipush 116, 2) := by decide +kernel
theorem dX12_init_329 : decode cX12_init 329 = .ok (.bastore, 1) := by decide +kernel
theorem dX12_init_330 : decode cX12_init 330 = .ok (.dup, 1) := by decide +kernel
theorem dX12_init_331 : decode cX12_init 331 = .ok (.bipush 46, 2) := by decide +kernel
theorem dX12_init_333 : decode cX12_init 333 = .ok (.bipush 115, 2) := by decide +kernel
theorem dX12_init_335 : decode cX12_init 335 = .ok (.bastore, 1) := by decide +kernel
theorem dX12_init_336 : decode cX12_init 336 = .ok (.dup, 1) := by decide +kernel
theorem dX12_init_337 : decode cX12_init 337 = .ok (.bipush 47, 2) := by decide +kernel
theorem dX12_init_339 : decode cX12_init 339 = .ok (.bipush 32, 2) := by decide +kernel
theorem dX12_init_341 : decode cX12_init 341 = .ok (.bastore, 1) := by decide +kernel
theorem dX12_init_342 : decode cX12_init 342 = .ok (.dup, 1) := by decide +kernel
theorem dX12_init_343 : decode cX12_init 343 = .ok (.bipush 48, 2) := by decide +kernel
theorem dX12_init_345 : decode cX12_init 345 = .ok (.bipush 116, 2) := by decide +kernel
theorem dX12_init_347 : decode cX12_init 347 = .ok (.bastore, 1) := by decide +kernel
theorem dX12_init_348 : decode cX12_init 348 = .ok (.dup, 1) := by decide +kernel
theorem dX12_init_349 : decode cX12_init 349 = .ok (.bipush 49, 2) := by decide +kernel
theorem dX12_init_351 : decode cX12_init 351 = .ok (.bipush 117, 2) := by decide +kernel
theorem dX12_init_353 : decode cX12_init 353 = .ok (.bastore, 1) := by decide +kernel
theorem dX12_init_354 : decode cX12_init 354 = .ok (.dup, 1) := by decide +kernel
theorem dX12_init_355 : decode cX12_init 355 = .ok (.bipush 50, 2) := by decide +kernel
theorem dX12_init_357 : decode cX12_init 357 = .ok (.bipush 114, 2) := by decide +kernel
theorem dX12_init_359 : decode cX12_init 359 = .ok (.bastore, 1) := by decide +kernel
theorem dX12_init_360 : decode cX12_init 360 = .ok (.dup, 1) := by decide +kernel
theorem dX12_init_361 : decode cX12_init 361 = .ok (.bipush 51, 2) := by decide +kernel
theorem dX12_init_363 : decode cX12_init 363 = .ok (.bipush 110, 2) := by decide +kernel
theorem dX12_init_365 : decode cX12_init 365 = .ok (.bastore, 1) := by decide +kernel
theorem dX12_init_366 : decode cX12_init 366 = .ok (.dup, 1) := by decide +kernel
theorem dX12_init_367 : decode cX12_init 367 = .ok (.bipush 52, 2) := by decide +kernel
theorem dX12_init_369 : decode cX12_init 369 = .ok (.bipush 32, 2) := by decide +kernel
theorem dX12_init_371 : decode cX12_init 371 = .ok (.bastore, 1) := by decide +kernel
theorem dX12_init_372 : decode cX12_init 372 = .ok (.dup, 1) := by decide +kernel
theorem dX12_init_373 : decode cX12_init 373 = .ok (.bipush 53, 2) := by decide +kernel
theorem dX12_init_375 : decode cX12_init 375 = .ok (.bipush 105, 2) := by decide +kernel
theorem dX12_init_377 : decode cX12_init 377 = .ok (.bastore, 1) := by decide +kernel
theorem dX12_init_378 : decode cX12_init 378 = .ok (.dup, 1) := by decide +kernel
theorem dX12_init_379 : decode cX12_init 379 = .ok (.bipush 54, 2) := by decide +kernel
theorem dX12_init_381 : decode cX12_init 381 = .ok (.bipush 110, 2) := by decide +kernel
theorem dX12_init_383 : decode cX12_init 383 = .ok (.bastore, 1) := by decide +kernel
theorem dX12_init_384 : decode cX12_init 384 = .ok (.dup, 1) := by decide +kernel
theorem dX12_init_385 : decode cX12_init 385 = .ok (.bipush 55, 2) := by decide +kernel
theorem dX12_init_387 : decode cX12_init 387 = .ok (.bipush 116, 2) := by decide +kernel
theorem dX12_init_389 : decode cX12_init 389 = .ok (.bastore, 1) := by decide +kernel
theorem dX12_init_390 : decode cX12_init 390 = .ok (.dup, 1) := by decide +kernel
theorem dX12_init_391 : decode cX12_init 391 = .ok (.bipush 56, 2) := by decide +kernel
theorem dX12_init_393 : decode cX12_init 393 = .ok (.bipush 111, 2) := by decide +kernel
theorem dX12_init_395 : decode cX12_init 395 = .ok (.bastore, 1) := by decide +kernel
theorem dX12_init_396 : decode cX12_init 396 = .ok (.dup, 1) := by decide +kernel
theorem dX12_init_397 : decode cX12_init 397 = .ok (.bipush 57, 2) := by decide +kernel
theorem dX12_init_399 : decode cX12_init 399 = .ok (.bipush 32, 2) := by decide +kernel
theorem dX12_init_401 : decode cX12_init 401 = .ok (.bastore, 1) := by decide +kernel
theorem dX12_init_402 : decode cX12_init 402 = .ok (.dup, 1) := by decide +kernel
theorem dX12_init_403 : decode cX12_init 403 = .ok (.bipush 58, 2) := by decide +kernel
theorem dX12_init_405 : decode cX12_init 405 = .ok (.bipush 102, 2) := by decide +kernel
theorem dX12_init_407 : decode cX12_init 407 = .ok (.bastore, 1) := by decide +kernel
theorem dX12_init_408 : decode cX12_init 408 = .ok (.dup, 1) := by decide +kernel
theorem dX12_init_409 : decode cX12_init 409 = .ok (.bipush 59, 2) := by decide +kernel
theorem dX12_init_411 : decode cX12_init 411 = .ok (.bipush 111, 2) := by decide +kernel
theorem dX12_init_413 : decode cX12_init 413 = .ok (.bastore, 1) := by decide +kernel
theorem dX12_init_414 : decode cX12_init 414 = .ok (.dup, 1) := by decide +kernel
theorem dX12_init_415 : decode cX12_init 415 = .ok (.bipush 60, 2) := by decide +kernel
theorem dX12_init_417 : decode cX12_init 417 = .ok (.bipush 114, 2) := by decide +kernel
theorem dX12_init_419 : decode cX12_init 419 = .ok (.bastore, 1) := by decide +kernel
theorem dX12_init_420 : decode cX12_init 420 = .ok (.dup, 1) := by decide +kernel
theorem dX12_init_421 : decode cX12_init 421 = .ok (.bipush 61, 2) := by decide +kernel
theorem dX12_init_423 : decode cX12_init 423 = .ok (.bipush 32, 2) := by decide +kernel
theorem dX12_init_425 : decode cX12_init 425 = .ok (.bastore, 1) := by decide +kernel
theorem dX12_init_426 : decode cX12_init 426 = .ok (.dup, 1) := by decide +kernel
theorem dX12_init_427 : decode cX12_init 427 = .ok (.bipush 62, 2) := by decide +kernel
theorem dX12_init_429 : decode cX12_init 429 = .ok (.bipush 97, 2) := by decide +kernel
theorem dX12_init_431 : decode cX12_init 431 = .ok (.bastore, 1) := by decide +kernel
theorem dX12_init_432 : decode cX12_init 432 = .ok (.dup, 1) := by decide +kernel
theorem dX12_init_433 : decode cX12_init 433 = .ok (.bipush 63, 2) := by decide +kernel
theorem dX12_init_435 : decode cX12_init 435 = .ok (.bipush 116, 2) := by decide +kernel
theorem dX12_init_437 : decode cX12_init 437 = .ok (.bastore, 1) := by decide +kernel
theorem dX12_init_438 : decode cX12_init 438 = .ok (.dup, 1) := by decide +kernel
theorem dX12_init_439 : decode cX12_init 439 = .ok (.bipush 64, 2) := by decide +kernel
theorem dX12_init_441 : decode cX12_init 441 = .ok (.bipush 32, 2) := by decide +kernel
theorem dX12_init_443 : decode cX12_init 443 = .ok (.bastore, 1) := by decide +kernel
theorem dX12_init_444 : decode cX12_init 444 = .ok (.dup, 1) := by decide +kernel
theorem dX12_init_445 : decode cX12_init 445 = .ok (.bipush 65, 2) := by decide +kernel
theorem dX12_init_447 : decode cX12_init 447 = .ok (.bipush 119, 2) := by decide +kernel
theorem dX12_init_449 : decode cX12_init 449 = .ok (.bastore, 1) := by decide +kernel
theorem dX12_init_450 : decode cX12_init 450 = .ok (.dup, 1) := by decide +kernel
theorem dX12_init_451 : decode cX12_init 451 = .ok (.bipush 66, 2) := by decide +kernel
theorem dX12_init_453 : decode cX12_init 453 = .ok (.bipush 111, 2) := by decide +kernel
theorem dX12_init_455 : decode cX12_init 455 = .ok (.bastore, 1) := by decide +kernel
theorem dX12_init_456 : decode cX12_init 456 = .ok (.dup, 1) := by decide +kernel
theorem dX12_init_457 : decode cX12_init 457 = .ok (.bipush 67, 2) := by decide +kernel
theorem dX12_init_459 : decode cX12_init 459 = .ok (.bipush 114, 2) := by decide +kernel
theorem dX12_init_461 : decode cX12_init 461 = .ok (.bastore, 1) := by decide +kernel
theorem dX12_init_462 : decode cX12_init 462 = .ok (.dup, 1) := by decide +kernel
theorem dX12_init_463 : decode cX12_init 463 = .ok (.bipush 68, 2) := by decide +kernel
theorem dX12_init_465 : decode cX12_init 465 = .ok (.bipush 116, 2) := by decide +kernel
theorem dX12_init_467 : decode cX12_init 467 = .ok (.bastore, 1) := by decide +kernel
theorem dX12_init_468 : decode cX12_init 468 = .ok (.dup, 1) := by decide +kernel
theorem dX12_init_469 : decode cX12_init 469 = .ok (.bipush 69, 2) := by decide +kernel
theorem dX12_init_471 : decode cX12_init 471 = .ok (.bipush 104, 2) := by decide +kernel
theorem dX12_init_473 : decode cX12_init 473 = .ok (.bastore, 1) := by decide +kernel
theorem dX12_init_474 : decode cX12_init 474 = .ok (.dup, 1) := by decide +kernel
theorem dX12_init_475 : decode cX12_init 475 = .ok (.bipush 70, 2) := by decide +kernel
theorem dX12_init_477 : decode cX12_init 477 = .ok (.bipush 32, 2) := by decide +kernel
theorem dX12_init_479 : decode cX12_init 479 = .ok (.bastore, 1) := by decide +kernel
theorem dX12_init_480 : decode cX12_init 480 = .ok (.dup, 1) := by decide +kernel
theorem dX12_init_481 : decode cX12_init 481 = .ok (.bipush 71, 2) := by decide +kernel
theorem dX12_init_483 : decode cX12_init 483 = .ok (.bipush 117, 2) := by decide +kernel
theorem dX12_init_485 : decode cX12_init 485 = .ok (.bastore, 1) := by decide +kernel
theorem dX12_init_486 : decode cX12_init 486 = .ok (.dup, 1) := by decide +kernel
theorem dX12_init_487 : decode cX12_init 487 = .ok (.bipush 72, 2) := by decide +kernel
theorem dX12_init_489 : decode cX12_init 489 = .ok (.bipush 110, 2) := by decide +kernel
theorem dX12_init_491 : decode cX12_init 491 = .ok (.bastore, 1) := by decide +kernel
theorem dX12_init_492 : decode cX12_init 492 = .ok (.dup, 1) := by decide +kernel
theorem dX12_init_493 : decode cX12_init 493 = .ok (.bipush 73, 2) := by decide +kernel
theorem dX12_init_495 : decode cX12_init 495 = .ok (.bipush 116, 2) := by decide +kernel
theorem dX12_init_497 : decode cX12_init 497 = .ok (.bastore, 1) := by decide +kernel
theorem dX12_init_498 : decode cX12_init 498 = .ok (.dup, 1) := by decide +kernel
theorem dX12_init_499 : decode cX12_init 499 = .ok (.bipush 74, 2) := by decide +kernel
theorem dX12_init_501 : decode cX12_init 501 = .ok (.bipush 105, 2) := by decide +kernel
theorem dX12_init_503 : decode cX12_init 503 = .ok (.bastore, 1) := by decide +kernel
theorem dX12_init_504 : decode cX12_init 504 = .ok (.dup, 1) := by decide +kernel
theorem dX12_init_505 : decode cX12_init 505 = .ok (.bipush 75, 2) := by decide +kernel
theorem dX12_init_507 : decode cX12_init 507 = .ok (.bipush 108, 2) := by decide +kernel
theorem dX12_init_509 : decode cX12_init 509 = .ok (.bastore, 1) := by decide +kernel
theorem dX12_init_510 : decode cX12_init 510 = .ok (.dup, 1) := by decide +kernel
theorem dX12_init_511 : decode cX12_init 511 = .ok (.bipush 76, 2) := by decide +kernel
theorem dX12_init_513 : decode cX12_init 513 = .ok (.bipush 32, 2) := by decide +kernel
theorem dX12_init_515 : decode cX12_init 515 = .ok (.bastore, 1) := by decide +kernel
theorem dX12_init_516 : decode cX12_init 516 = .ok (.dup, 1) := by decide +kernel
theorem dX12_init_517 : decode cX12_init 517 = .ok (.bipush 77, 2) := by decide +kernel
theorem dX12_init_519 : decode cX12_init 519 = .ok (.bipush 112, 2) := by decide +kernel
theorem dX12_init_521 : decode cX12_init 521 = .ok (.bastore, 1) := by decide +kernel
theorem dX12_init_522 : decode cX12_init 522 = .ok (.dup, 1) := by decide +kernel
theorem dX12_init_523 : decode cX12_init 523 = .ok (.bipush 78, 2) := by decide +kernel
theorem dX12_init_525 : decode cX12_init 525 = .ok (.bipush 108, 2) := by decide +kernel
theorem dX12_init_527 : decode cX12_init 527 = .ok (.bastore, 1) := by decide +kernel
theorem dX12_init_528 : decode cX12_init 528 = .ok (.dup, 1) := by decide +kernel
theorem dX12_init_529 : decode cX12_init 529 = .ok (.bipush 79, 2) := by decide +kernel
theorem dX12_init_531 : decode cX12_init 531 = .ok (.bipush 117, 2) := by decide +kernel
theorem dX12_init_533 : decode cX12_init 533 = .ok (.bastore, 1) := by decide +kernel
theorem dX12_init_534 : decode cX12_init 534 = .ok (.dup, 1) := by decide +kernel
theorem dX12_init_535 : decode cX12_init 535 = .ok (.bipush 80, 2) := by decide +kernel
theorem dX12_init_537 : decode cX12_init 537 = .ok (.bipush 115, 2) := by decide +kernel
theorem dX12_init_539 : decode cX12_init 539 = .ok (.bastore, 1) := by decide +kernel
theorem dX12_init_540 : decode cX12_init 540 = .ok (.dup, 1) := by decide +kernel
theorem dX12_init_541 : decode cX12_init 541 = .ok (.bipush 81, 2) := by decide +kernel
theorem dX12_init_543 : decode cX12_init 543 = .ok (.bipush 32, 2) := by decide +kernel
theorem dX12_init_545 : decode cX12_init 545 = .ok (.bastore, 1) := by decide +kernel
theorem dX12_init_546 : decode cX12_init 546 = .ok (.dup, 1) := by decide +kernel
theorem dX12_init_547 : decode cX12_init 547 = .ok (.bipush 82, 2) := by decide +kernel
theorem dX12_init_549 : decode cX12_init 549 = .ok (.bipush 99, 2) := by decide +kernel
theorem dX12_init_551 : decode cX12_init 551 = .ok (.bastore, 1) := by decide +kernel
theorem dX12_init_552 : decode cX12_init 552 = .ok (.dup, 1) := by decide +kernel
theorem dX12_init_553 : decode cX12_init 553 = .ok (.bipush 83, 2) := by decide +kernel
theorem dX12_init_555 : decode cX12_init 555 = .ok (.bipush 97, 2) := by decide +kernel
theorem dX12_init_557 : decode cX12_init 557 = .ok (.bastore, 1) := by decide +kernel
theorem dX12_init_558 : decode cX12_init 558 = .ok (.dup, 1) := by decide +kernel
theorem dX12_init_559 : decode cX12_init 559 = .ok (.bipush 84, 2) := by decide +kernel
theorem dX12_init_561 : decode cX12_init 561 = .ok (.bipush 115, 2) := by decide +kernel
theorem dX12_init_563 : decode cX12_init 563 = .ok (.bastore, 1) := by decide +kernel
theorem dX12_init_564 : decode cX12_init 564 = .ok (.dup, 1) := by decide +kernel
theorem dX12_init_565 : decode cX12_init 565 = .ok (.bipush 85, 2) := by decide +kernel
theorem dX12_init_567 : decode cX12_init 567 = .ok (.bipush 104, 2) := by decide +kernel
theorem dX12_init_569 : decode cX12_init 569 = .ok (.bastore, 1) := by decide +kernel
theorem dX12_init_570 : decode cX12_init 570 = .ok (.dup, 1) := by decide +kernel
theorem dX12_init_571 : decode cX12_init 571 = .ok (.bipush 86, 2) := by decide +kernel
theorem dX12_init_573 : decode cX12_init 573 = .ok (.bipush 32, 2) := by decide +kernel
theorem dX12_init_575 : decode cX12_init 575 = .ok (.bastore, 1) := by decide +kernel
theorem dX12_init_576 : decode cX12_init 576 = .ok (.dup, 1) := by decide +kernel
theorem dX12_init_577 : decode cX12_init 577 = .ok (.bipush 87, 2) := by decide +kernel
theorem dX12_init_579 : decode cX12_init 579 = .ok (.bipush 101, 2) := by decide +kernel
theorem dX12_init_581 : decode cX12_init 581 = .ok (.bastore, 1) := by decide +kernel
theorem dX12_init_582 : decode cX12_init 582 = .ok (.dup, 1) := by decide +kernel
theorem dX12_init_583 : decode cX12_init 583 = .ok (.bipush 88, 2) := by decide +kernel
theorem dX12_init_585 : decode cX12_init 585 = .ok (.bipush 120, 2) := by decide +kernel
theorem dX12_init_587 : decode cX12_init 587 = .ok (.bastore, 1) := by decide +kernel
theorem dX12_init_588 : decode cX12_init 588 = .ok (.dup, 1) := by decide +kernel
theorem dX12_init_589 : decode cX12_init 589 = .ok (.bipush 89, 2) := by decide +kernel
theorem dX12_init_591 : decode cX12_init 591 = .ok (.bipush 32, 2) := by decide +kernel
theorem dX12_init_593 : decode cX12_init 593 = .ok (.bastore, 1) := by decide +kernel
theorem dX12_init_594 : decode cX12_init 594 = .ok (.dup, 1) := by decide +kernel
theorem dX12_init_595 : decode cX12_init 595 = .ok (.bipush 90, 2) := by decide +kernel
theorem dX12_init_597 : decode cX12_init 597 = .ok (.bipush 114, 2) := by decide +kernel
theorem dX12_init_599 : decode cX12_init 599 = .ok (.bastore, 1) := by decide +kernel
theorem dX12_init_600 : decode cX12_init 600 = .ok (.dup, 1) := by decide +kernel
theorem dX12_init_601 : decode cX12_init 601 = .ok (.bipush 91, 2) := by decide +kernel
theorem dX12_init_603 : decode cX12_init 603 = .ok (.bipush 101, 2) := by decide +kernel
theorem dX12_init_605 : decode cX12_init 605 = .ok (.bastore, 1) := by decide +kernel
theorem dX12_init_606 : decode cX12_init 606 = .ok (.dup, 1) := by decide +kernel
theorem dX12_init_607 : decode cX12_init 607 = .ok (.bipush 92, 2) := by decide +kernel
theorem dX12_init_609 : decode cX12_init 609 = .ok (.bipush 99, 2) := by decide +kernel
theorem dX12_init_611 : decode cX12_init 611 = .ok (.bastore, 1) := by decide +kernel
theorem dX12_init_612 : decode cX12_init 612 = .ok (.dup, 1) := by decide +kernel
theorem dX12_init_613 : decode cX12_init 613 = .ok (.bipush 93, 2) := by decide +kernel
theorem dX12_init_615 : decode cX12_init 615 = .ok (.bipush 111, 2) := by decide +kernel
theorem dX12_init_617 : decode cX12_init 617 = .ok (.bastore, 1) := by decide +kernel
theorem dX12_init_618 : decode cX12_init 618 = .ok (.dup, 1) := by decide +kernel
theorem dX12_init_619 : decode cX12_init 619 = .ok (.bipush 94, 2) := by decide +kernel
theorem dX12_init_621 : decode cX12_init 621 = .ok (.bipush 114, 2) := by decide +kernel
theorem dX12_init_623 : decode cX12_init 623 = .ok (.bastore, 1) := by decide +kernel
theorem dX12_init_624 : decode cX12_init 624 = .ok (.dup, 1) := by decide +kernel
theorem dX12_init_625 : decode cX12_init 625 = .ok (.bipush 95, 2) := by decide +kernel
theorem dX12_init_627 : decode cX12_init 627 = .ok (.bipush 100, 2) := by decide +kernel
theorem dX12_init_629 : decode cX12_init 629 = .ok (.bastore, 1) := by decide +kernel
theorem dX12_init_630 : decode cX12_init 630 = .ok (.dup, 1) := by decide +kernel
theorem dX12_init_631 : decode cX12_init 631 = .ok (.bipush 96, 2) := by decide +kernel
theorem dX12_init_633 : decode cX12_init 633 = .ok (.bipush 32, 2) := by decide +kernel
theorem dX12_init_635 : decode cX12_init 635 = .ok (.bastore, 1) := by decide +kernel
theorem dX12_init_636 : decode cX12_init 636 = .ok (.dup, 1) := by decide +kernel
theorem dX12_init_637 : decode cX12_init 637 = .ok (.bipush 97, 2) := by decide +kernel
theorem dX12_init_639 : decode cX12_init 639 = .ok (.bipush 112, 2) := by decide +kernel
theorem dX12_init_641 : decode cX12_init 641 = .ok (.bastore, 1) := by decide +kernel
theorem dX12_init_642 : decode cX12_init 642 = .ok (.dup, 1) := by decide +kernel
theorem dX12_init_643 : decode cX12_init 643 = .ok (.bipush 98, 2) := by decide +kernel
theorem dX12_init_645 : decode cX12_init 645 = .ok (.bipush 97, 2) := by decide +kernel
theorem dX12_init_647 : decode cX12_init 647 = .ok (.bastore, 1) := by decide +kernel
theorem dX12_init_648 : decode cX12_init 648 = .ok (.dup, 1) := by decide +kernel
theorem dX12_init_649 : decode cX12_init 649 = .ok (.bipush 99, 2) := by decide +kernel
theorem dX12_init_651 : decode cX12_init 651 = .ok (.bipush 121, 2) := by decide +kernel
theorem dX12_init_653 : decode cX12_init 653 = .ok (.bastore, 1) := by decide +kernel
theorem dX12_init_654 : decode cX12_init 654 = .ok (.dup, 1) := by decide +kernel
theorem dX12_init_655 : decode cX12_init 655 = .ok (.bipush 100, 2) := by decide +kernel
theorem dX12_init_657 : decode cX12_init 657 = .ok (.bipush 32, 2) := by decide +kernel
theorem dX12_init_659 : decode cX12_init 659 = .ok (.bastore, 1) := by decide +kernel
theorem dX12_init_660 : decode cX12_init 660 = .ok (.dup, 1) := by decide +kernel
theorem dX12_init_661 : decode cX12_init 661 = .ok (.bipush 101, 2) := by decide +kernel
theorem dX12_init_663 : decode cX12_init 663 = .ok (.bipush 99, 2) := by decide +kernel
theorem dX12_init_665 : decode cX12_init 665 = .ok (.bastore, 1) := by decide +kernel
theorem dX12_init_666 : decode cX12_init 666 = .ok (.dup, 1) := by decide +kernel
theorem dX12_init_667 : decode cX12_init 667 = .ok (.bipush 102, 2) := by decide +kernel
theorem dX12_init_669 : decode cX12_init 669 = .ok (.bipush 104, 2) := by decide +kernel
theorem dX12_init_671 : decode cX12_init 671 = .ok (.bastore, 1) := by decide +kernel
theorem dX12_init_672 : decode cX12_init 672 = .ok (.dup, 1) := by decide +kernel
theorem dX12_init_673 : decode cX12_init 673 = .ok (.bipush 103, 2) := by decide +kernel
theorem dX12_init_675 : decode cX12_init 675 = .ok (.bipush 111, 2) := by decide +kernel
theorem dX12_init_677 : decode cX12_init 677 = .ok (.bastore, 1) := by decide +kernel
theorem dX12_init_678 : decode cX12_init 678 = .ok (.dup, 1) := by decide +kernel
theorem dX12_init_679 : decode cX12_init 679 = .ok (.bipush 104, 2) := by decide +kernel
theorem dX12_init_681 : decode cX12_init 681 = .ok (.bipush 111, 2) := by decide +kernel
theorem dX12_init_683 : decode cX12_init 683 = .ok (.bastore, 1) := by decide +kernel
theorem dX12_init_684 : decode cX12_init 684 = .ok (.dup, 1) := by decide +kernel
theorem dX12_init_685 : decode cX12_init 685 = .ok (.bipush 105, 2) := by decide +kernel
theorem dX12_init_687 : decode cX12_init 687 = .ok (.bipush 115, 2) := by decide +kernel
theorem dX12_init_689 : decode cX12_init 689 = .ok (.bastore, 1) := by decide +kernel
theorem dX12_init_690 : decode cX12_init 690 = .ok (.dup, 1) := by decide +kernel
theorem dX12_init_691 : decode cX12_init 691 = .ok (.bipush 106, 2) := by decide +kernel
theorem dX12_init_693 : decode cX12_init 693 = .ok (.bipush 101, 2) := by decide +kernel
theorem dX12_init_695 : decode cX12_init 695 = .ok (.bastore, 1) := by decide +kernel
theorem dX12_init_696 : decode cX12_init 696 = .ok (.dup, 1) := by decide +kernel
theorem dX12_init_697 : decode cX12_init 697 = .ok (.bipush 107, 2) := by decide +kernel
theorem dX12_init_699 : decode cX12_init 699 = .ok (.bipush 32, 2) := by decide +kernel
theorem dX12_init_701 : decode cX12_init 701 = .ok (.bastore, 1) := by decide +kernel
theorem dX12_init_702 : decode cX12_init 702 = .ok (.dup, 1) := by decide +kernel
theorem dX12_init_703 : decode cX12_init 703 = .ok (.bipush 108, 2) := by decide +kernel
theorem dX12_init_705 : decode cX12_init 705 = .ok (.bipush 100, 2) := by decide +kernel
theorem dX12_init_707 : decode cX12_init 707 = .ok (.bastore, 1) := by decide +kernel
theorem dX12_init_708 : decode cX12_init 708 = .ok (.dup, 1) := by decide +kernel
theorem dX12_init_709 : decode cX12_init 709 = .ok (.bipush 109, 2) := by decide +kernel
theorem dX12_init_711 : decode cX12_init 711 = .ok (.bipush 97, 2) := by decide +kernel
theorem dX12_init_713 : decode cX12_init 713 = .ok (.bastore, 1) := by decide +kernel
theorem dX12_init_714 : decode cX12_init 714 = .ok (.dup, 1) := by decide +kernel
theorem dX12_init_715 : decode cX12_init 715 = .ok (.bipush 110, 2) := by decide +kernel
theorem dX12_init_717 : decode cX12_init 717 = .ok (.bipush 121, 2) := by decide +kernel
theorem dX12_init_719 : decode cX12_init 719 = .ok (.bastore, 1) := by decide +kernel
theorem dX12_init_720 : decode cX12_init 720 = .ok (.dup, 1) := by decide +kernel
theorem dX12_init_721 : decode cX12_init 721 = .ok (.bipush 111, 2) := by decide +kernel
theorem dX12_init_723 : decode cX12_init 723 = .ok (.bipush 115, 2) := by decide +kernel
theorem dX12_init_725 : decode cX12_init 725 = .ok (.bastore, 1) := by decide +kernel
theorem dX12_init_726 : decode cX12_init 726 = .ok (.dup, 1) := by decide +kernel
theorem dX12_init_727 : decode cX12_init 727 = .ok (.bipush 112, 2) := by decide +kernel
theorem dX12_init_729 : decode cX12_init 729 = .ok (.bipush 32, 2) := by decide +kernel
theorem dX12_init_731 : decode cX12_init 731 = .ok (.bastore, 1) := by decide +kernel
theorem dX12_init_732 : decode cX12_init 732 = .ok (.putfield 30, 3) := by decide +kernel
theorem dX12_init_735 : decode cX12_init 735 = .ok (.aload_n 0, 1) := by decide +kernel
theorem dX12_init_736 : decode cX12_init 736 = .ok (.sipush 700, 3) := by decide +kernel
theorem dX12_init_739 : decode cX12_init 739 = .ok (.newarray .byte, 2) := by decide +kernel
theorem dX12_init_741 : decode cX12_init 741 = .ok (.putfield 34, 3) := by decide +kernel
theorem dX12_init_744 : decode cX12_init 744 = .ok (.aload_n 0, 1) := by decide +kernel
theorem dX12_init_745 : decode cX12_init 745 = .ok (.iconst (-1), 1) := by decide +kernel
theorem dX12_init_746 : decode cX12_init 746 = .ok (.putfield 37, 3) := by decide +kernel
theorem dX12_init_749 : decode cX12_init 749 = .ok (.aload_n 0, 1) := by decide +kernel
theorem dX12_init_750 : decode cX12_init 750 = .ok (.bipush 10, 2) := by decide +kernel
theorem dX12_init_752 : decode cX12_init 752 = .ok (.newarray .long, 2) := by decide +kernel
theorem dX12_init_754 : decode cX12_init 754 = .ok (.putfield 41, 3) := by decide +kernel
theorem dX12_init_757 : decode cX12_init 757 = .ok (.aload_n 0, 1) := by decide +kernel
theorem dX12_init_758 : decode cX12_init 758 = .ok (.iconst 5, 1) := by decide +kernel
theorem dX12_init_759 : decode cX12_init 759 = .ok (.newarray .long, 2) := by decide +kernel
theorem dX12_init_761 : decode cX12_init 761 = .ok (.putfield 44, 3) := by decide +kernel
theorem dX12_init_764 : decode cX12_init 764 = .ok (.aload_n 0, 1) := by decide +kernel
theorem dX12_init_765 : decode cX12_init 765 = .ok (.bipush 50, 2) := by decide +kernel
theorem dX12_init_767 : decode cX12_init 767 = .ok (.newarray .int, 2) := by decide +kernel
theorem dX12_init_769 : decode cX12_init 769 = .ok (.putfield 47, 3) := by decide +kernel
theorem dX12_init_772 : decode cX12_init 772 = .ok (.aload_n 0, 1) := by decide +kernel
theorem dX12_init_773 : decode cX12_init 773 = .ok (.sipush 140, 3) := by decide +kernel
theorem dX12_init_776 : decode cX12_init 776 = .ok (.newarray .int, 2) := by decide +kernel
theorem dX12_init_778 : decode cX12_init 778 = .ok (.putfield 51, 3) := by decide +kernel
theorem dX12_init_781 : decode cX12_init 781 = .ok (.aload_n 0, 1) := by decide +kernel
theorem dX12_init_782 : decode cX12_init 782 = .ok (.sipush 1400, 3) := by decide +kernel
theorem dX12_init_785 : decode cX12_init 785 = .ok (.newarray .int, 2) := by decide +kernel
theorem dX12_init_787 : decode cX12_init 787 = .ok (.putfield 54, 3) := by decide +kernel
theorem dX12_init_790 : decode cX12_init 790 = .ok (.aload_n 0, 1) := by decide +kernel
theorem dX12_init_791 : decode cX12_init 791 = .ok (.bipush 10, 2) := by decide +kernel
theorem dX12_init_793 : decode cX12_init 793 = .ok (.newarray .long, 2) := by decide +kernel
theorem dX12_init_795 : decode cX12_init 795 = .ok (.putfield 57, 3) := by decide +kernel
theorem dX12_init_798 : decode cX12_init 798 = .ok (.aload_n 0, 1) := by decide +kernel
theorem dX12_init_799 : decode cX12_init 799 = .ok (.sipush 400, 3) := by decide +kernel
theorem dX12_init_802 : decode cX12_init 802 = .ok (.newarray .byte, 2) := by decide +kernel
theorem dX12_init_804 : decode cX12_init 804 = .ok (.putfield 60, 3) := by decide +kernel
theorem dX12_init_807 : decode cX12_init 807 = .ok (.return_, 1) := by decide +kernel
theorem fwX12_3_oi : Cond.methodLink RX12 3 Lib.objectInit ∈ q_tbl := q_tb 1250 (by decide +kernel) rfl
theorem fpX12_11 : q_Fp RX12 11 12 1 (.array .long) true := ⟨RX12, TX12, 35, tyX12, rfl, by decide, inX12, q_tb 1252 (by decide +kernel) rfl, tyX12_ok, nmX12, rfl, rfl, fun h => by first | rfl | cases h⟩
theorem fpX12_15 : q_Fp RX12 15 12 2 (.array .long) true := ⟨RX12, TX12, 35, tyX12, rfl, by decide, inX12, q_tb 1253 (by decide +kernel) rfl, tyX12_ok, nmX12, rfl, rfl, fun h => by first | rfl | cases h⟩
theorem fpX12_18 : q_Fp RX12 18 12 3 (.array .long) true := ⟨RX12, TX12, 35, tyX12, rfl, by decide, inX12, q_tb 1254 (by decide +kernel) rfl, tyX12_ok, nmX12, rfl, rfl, fun h => by first | rfl | cases h⟩
theorem fpX12_21 : q_Fp RX12 21 12 4 (.array .long) true := ⟨RX12, TX12, 35, tyX12, rfl, by decide, inX12, q_tb 1255 (by decide +kernel) rfl, tyX12_ok, nmX12, rfl, rfl, fun h => by first | rfl | cases h⟩
theorem fpX12_24 : q_Fp RX12 24 12 8 (.array .long) true := ⟨RX12, TX12, 35, tyX12, rfl, by decide, inX12, q_tb 1259 (by decide +kernel) rfl, tyX12_ok, nmX12, rfl, rfl, fun h => by first | rfl | cases h⟩
theorem fpX12_27 : q_Fp RX12 27 12 9 (.array .long) true := ⟨RX12, TX12, 35, tyX12, rfl, by decide, inX12, q_tb 1260 (by decide +kernel) rfl, tyX12_ok, nmX12, rfl, rfl, fun h => by first | rfl | cases h⟩
theorem fpX12_30 : q_Fp RX12 30 12 10 (.array .byte) true := ⟨RX12, TX12, 35, tyX12, rfl, by decide, inX12, q_tb 1261 (by decide +kernel) rfl, tyX12_ok, nmX12, rfl, rfl, fun h => by first | rfl | cases h⟩
theorem fpX12_34 : q_Fp RX12 34 12 11 (.array .byte) true := ⟨RX12, TX12, 35, tyX12, rfl, by decide, inX12, q_tb 1262 (by decide +kernel) rfl, tyX12_ok, nmX12, rfl, rfl, fun h => by first | rfl | cases h⟩
theorem fpX12_37 : q_Fp RX12 37 12 23 .int false := ⟨RX12, TX12, 35, tyX12, rfl, by decide, inX12, q_tb 1274 (by decide +kernel) rfl, tyX12_ok, nmX12, rfl, rfl, fun h => by first | rfl | cases h⟩
theorem fpX12_41 : q_Fp RX12 41 12 24 (.array .long) true := ⟨RX12, TX12, 35, tyX12, rfl, by decide, inX12, q_tb 1275 (by decide +kernel) rfl, tyX12_ok, nmX12, rfl, rfl, fun h => by first | rfl | cases h⟩
theorem fpX12_44 : q_Fp RX12 44 12 25 (.array .long) true := ⟨RX12, TX12, 35, tyX12, rfl, by decide, inX12, q_tb 1276 (by decide +kernel) rfl, tyX12_ok, nmX12, rfl, rfl, fun h => by first | rfl | cases h⟩
theorem fpX12_47 : q_Fp RX12 47 12 26 (.array .int) true := ⟨RX12, TX12, 35, tyX12, rfl, by decide, inX12, q_tb 1277 (by decide +kernel) rfl, tyX12_ok, nmX12, rfl, rfl, fun h => by first | rfl | cases h⟩
theorem fpX12_51 : q_Fp RX12 51 12 29 (.array .int) true := ⟨RX12, TX12, 35, tyX12, rfl, by decide, inX12, q_tb 1280 (by decide +kernel) rfl, tyX12_ok, nmX12, rfl, rfl, fun h => by first | rfl | cases h⟩
theorem fpX12_54 : q_Fp RX12 54 12 30 (.array .int) true := ⟨RX12, TX12, 35, tyX12, rfl, by decide, inX12, q_tb 1281 (by decide +kernel) rfl, tyX12_ok, nmX12, rfl, rfl, fun h => by first | rfl | cases h⟩
theorem fpX12_57 : q_Fp RX12 57 12 32 (.array .long) true := ⟨RX12, TX12, 35, tyX12, rfl, by decide, inX12, q_tb 1283 (by decide +kernel) rfl, tyX12_ok, nmX12, rfl, rfl, fun h => by first | rfl | cases h⟩
theorem fpX12_60 : q_Fp RX12 60 12 33 (.array .byte) true := ⟨RX12, TX12, 35, tyX12, rfl, by decide, inX12, q_tb 1284 (by decide +kernel) rfl, tyX12_ok, nmX12, rfl, rfl, fun h => by first | rfl | cases h⟩
def fX12_init_L791 (r0 : Nat) (rs0 : Nat) (X : Mm) : Option (Unit × Mm) :=
nm (mN X + 1) fun rN408 =>
nm (q_nw X 15 10) fun X793_407 =>
if mT X793_407 rs0 = 12 then
if rN408 ≠ 0 then
nm (sR X793_407 rs0 32 rN408) fun X795_409 =>
nm (mN X795_409 + 1) fun rN413 =>
nm (q_nw X795_409 16 400) fun X802_412 =>
if mT X802_412 r0 = 12 then
if rN413 ≠ 0 then
nm (sR X802_412 r0 33 rN413) fun X804_414 =>
some ((), X804_414)
else none
else none
else none
else none
def fX12_init_L731 (r0 : Nat) (s0 : Int32) (s1 : Int32) (rs2 : Nat) (rs3 : Nat) (rs4 : Nat) (X : Mm) : Option (Unit × Mm) :=
if mT X rs2 = 16 then
if q_b X rs2 s1 then
nm (sI X rs2 (s1).toNatClampNeg (s0).toInt8.toInt32) fun X731_369 =>
if mT X731_369 rs4 = 12 then
if rs3 ≠ 0 then
nm (sR X731_369 rs4 10 rs3) fun X732_372 =>
nm (mN X732_372 + 1) fun rN376 =>
nm (q_nw X732_372 16 700) fun X739_375 =>
if mT X739_375 r0 = 12 then
if rN376 ≠ 0 then
nm (sR X739_375 r0 11 rN376) fun X741_377 =>
if mT X741_377 r0 = 12 then
nm (sI X741_377 r0 23 (-1 : Int32)) fun X746_380 =>
nm (mN X746_380 + 1) fun rN383 =>
nm (q_nw X746_380 15 10) fun X752_382 =>
if mT X752_382 r0 = 12 then
if rN383 ≠ 0 then
nm (sR X752_382 r0 24 rN383) fun X754_384 =>
nm (mN X754_384 + 1) fun rN388 =>
nm (q_nw X754_384 15 5) fun X759_387 =>
if mT X759_387 r0 = 12 then
if rN388 ≠ 0 then
nm (sR X759_387 r0 25 rN388) fun X761_389 =>
nm (mN X761_389 + 1) fun rN393 =>
nm (q_nw X761_389 14 50) fun X767_392 =>
if mT X767_392 r0 = 12 then
if rN393 ≠ 0 then
nm (sR X767_392 r0 26 rN393) fun X769_394 =>
nm (mN X769_394 + 1) fun rN398 =>
nm (q_nw X769_394 14 140) fun X776_397 =>
if mT X776_397 r0 = 12 then
if rN398 ≠ 0 then
nm (sR X776_397 r0 29 rN398) fun X778_399 =>
nm (mN X778_399 + 1) fun rN403 =>
nm (q_nw X778_399 14 1400) fun X785_402 =>
if mT X785_402 r0 = 12 then
if rN403 ≠ 0 then
nm (sR X785_402 r0 30 rN403) fun X787_404 =>
fX12_init_L791 r0 r0 X787_404
else none
else none
else none
else none
else none
else none
else none
else none
else none
else none
else none
else none
else none
else none
else none
else none
else none
def fX12_init_L685 (r0 : Nat) (rs0 : Nat) (rs1 : Nat) (rs2 : Nat) (X : Mm) : Option (Unit × Mm) :=
if mT X rs0 = 16 then
if q_b X rs0 (105 : Int32) then
nm (sI X rs0 ((105 : Int32)).toNatClampNeg ((115 : Int32)).toInt8.toInt32) fun X689_348 =>
if mT X689_348 rs1 = 16 then
if q_b X689_348 rs1 (106 : Int32) then
nm (sI X689_348 rs1 ((106 : Int32)).toNatClampNeg ((101 : Int32)).toInt8.toInt32) fun X695_351 =>
if mT X695_351 rs1 = 16 then
if q_b X695_351 rs1 (107 : Int32) then
nm (sI X695_351 rs1 ((107 : Int32)).toNatClampNeg ((32 : Int32)).toInt8.toInt32) fun X701_354 =>
if mT X701_354 rs1 = 16 then
if q_b X701_354 rs1 (108 : Int32) then
nm (sI X701_354 rs1 ((108 : Int32)).toNatClampNeg ((100 : Int32)).toInt8.toInt32) fun X707_357 =>
if mT X707_357 rs1 = 16 then
if q_b X707_357 rs1 (109 : Int32) then
nm (sI X707_357 rs1 ((109 : Int32)).toNatClampNeg ((97 : Int32)).toInt8.toInt32) fun X713_360 =>
if mT X713_360 rs1 = 16 then
if q_b X713_360 rs1 (110 : Int32) then
nm (sI X713_360 rs1 ((110 : Int32)).toNatClampNeg ((121 : Int32)).toInt8.toInt32) fun X719_363 =>
if mT X719_363 rs1 = 16 then
if q_b X719_363 rs1 (111 : Int32) then
nm (sI X719_363 rs1 ((111 : Int32)).toNatClampNeg ((115 : Int32)).toInt8.toInt32) fun X725_366 =>
fX12_init_L731 r0 (32 : Int32) (112 : Int32) rs1 rs1 rs2 X725_366
else none
else none
else none
else none
else none
else none
else none
else none
else none
else none
else none
else none
else none
else none
def fX12_init_L641 (r0 : Nat) (s0 : Int32) (s1 : Int32) (rs2 : Nat) (rs3 : Nat) (rs4 : Nat) (X : Mm) : Option (Unit × Mm) :=
if mT X rs2 = 16 then
if q_b X rs2 s1 then
nm (sI X rs2 (s1).toNatClampNeg (s0).toInt8.toInt32) fun X641_324 =>
if mT X641_324 rs3 = 16 then
if q_b X641_324 rs3 (98 : Int32) then
nm (sI X641_324 rs3 ((98 : Int32)).toNatClampNeg ((97 : Int32)).toInt8.toInt32) fun X647_327 =>
if mT X647_327 rs3 = 16 then
if q_b X647_327 rs3 (99 : Int32) then
nm (sI X647_327 rs3 ((99 : Int32)).toNatClampNeg ((121 : Int32)).toInt8.toInt32) fun X653_330 =>
if mT X653_330 rs3 = 16 then
if q_b X653_330 rs3 (100 : Int32) then
nm (sI X653_330 rs3 ((100 : Int32)).toNatClampNeg ((32 : Int32)).toInt8.toInt32) fun X659_333 =>
if mT X659_333 rs3 = 16 then
if q_b X659_333 rs3 (101 : Int32) then
nm (sI X659_333 rs3 ((101 : Int32)).toNatClampNeg ((99 : Int32)).toInt8.toInt32) fun X665_336 =>
if mT X665_336 rs3 = 16 then
if q_b X665_336 rs3 (102 : Int32) then
nm (sI X665_336 rs3 ((102 : Int32)).toNatClampNeg ((104 : Int32)).toInt8.toInt32) fun X671_339 =>
if mT X671_339 rs3 = 16 then
if q_b X671_339 rs3 (103 : Int32) then
nm (sI X671_339 rs3 ((103 : Int32)).toNatClampNeg ((111 : Int32)).toInt8.toInt32) fun X677_342 =>
if mT X677_342 rs3 = 16 then
if q_b X677_342 rs3 (104 : Int32) then
nm (sI X677_342 rs3 ((104 : Int32)).toNatClampNeg ((111 : Int32)).toInt8.toInt32) fun X683_345 =>
fX12_init_L685 r0 rs3 rs3 rs4 X683_345
else none
else none
else none
else none
else none
else none
else none
else none
else none
else none
else none
else none
else none
else none
else none
else none
def fX12_init_L595 (r0 : Nat) (rs0 : Nat) (rs1 : Nat) (rs2 : Nat) (X : Mm) : Option (Unit × Mm) :=
if mT X rs0 = 16 then
if q_b X rs0 (90 : Int32) then
nm (sI X rs0 ((90 : Int32)).toNatClampNeg ((114 : Int32)).toInt8.toInt32) fun X599_303 =>
if mT X599_303 rs1 = 16 then
if q_b X599_303 rs1 (91 : Int32) then
nm (sI X599_303 rs1 ((91 : Int32)).toNatClampNeg ((101 : Int32)).toInt8.toInt32) fun X605_306 =>
if mT X605_306 rs1 = 16 then
if q_b X605_306 rs1 (92 : Int32) then
nm (sI X605_306 rs1 ((92 : Int32)).toNatClampNeg ((99 : Int32)).toInt8.toInt32) fun X611_309 =>
if mT X611_309 rs1 = 16 then
if q_b X611_309 rs1 (93 : Int32) then
nm (sI X611_309 rs1 ((93 : Int32)).toNatClampNeg ((111 : Int32)).toInt8.toInt32) fun X617_312 =>
if mT X617_312 rs1 = 16 then
if q_b X617_312 rs1 (94 : Int32) then
nm (sI X617_312 rs1 ((94 : Int32)).toNatClampNeg ((114 : Int32)).toInt8.toInt32) fun X623_315 =>
if mT X623_315 rs1 = 16 then
if q_b X623_315 rs1 (95 : Int32) then
nm (sI X623_315 rs1 ((95 : Int32)).toNatClampNeg ((100 : Int32)).toInt8.toInt32) fun X629_318 =>
if mT X629_318 rs1 = 16 then
if q_b X629_318 rs1 (96 : Int32) then
nm (sI X629_318 rs1 ((96 : Int32)).toNatClampNeg ((32 : Int32)).toInt8.toInt32) fun X635_321 =>
fX12_init_L641 r0 (112 : Int32) (97 : Int32) rs1 rs1 rs2 X635_321
else none
else none
else none
else none
else none
else none
else none
else none
else none
else none
else none
else none
else none
else none
def fX12_init_L551 (r0 : Nat) (s0 : Int32) (s1 : Int32) (rs2 : Nat) (rs3 : Nat) (rs4 : Nat) (X : Mm) : Option (Unit × Mm) :=
if mT X rs2 = 16 then
if q_b X rs2 s1 then
nm (sI X rs2 (s1).toNatClampNeg (s0).toInt8.toInt32) fun X551_279 =>
if mT X551_279 rs3 = 16 then
if q_b X551_279 rs3 (83 : Int32) then
nm (sI X551_279 rs3 ((83 : Int32)).toNatClampNeg ((97 : Int32)).toInt8.toInt32) fun X557_282 =>
if mT X557_282 rs3 = 16 then
if q_b X557_282 rs3 (84 : Int32) then
nm (sI X557_282 rs3 ((84 : Int32)).toNatClampNeg ((115 : Int32)).toInt8.toInt32) fun X563_285 =>
if mT X563_285 rs3 = 16 then
if q_b X563_285 rs3 (85 : Int32) then
nm (sI X563_285 rs3 ((85 : Int32)).toNatClampNeg ((104 : Int32)).toInt8.toInt32) fun X569_288 =>
if mT X569_288 rs3 = 16 then
if q_b X569_288 rs3 (86 : Int32) then
nm (sI X569_288 rs3 ((86 : Int32)).toNatClampNeg ((32 : Int32)).toInt8.toInt32) fun X575_291 =>
if mT X575_291 rs3 = 16 then
if q_b X575_291 rs3 (87 : Int32) then
nm (sI X575_291 rs3 ((87 : Int32)).toNatClampNeg ((101 : Int32)).toInt8.toInt32) fun X581_294 =>
if mT X581_294 rs3 = 16 then
if q_b X581_294 rs3 (88 : Int32) then
nm (sI X581_294 rs3 ((88 : Int32)).toNatClampNeg ((120 : Int32)).toInt8.toInt32) fun X587_297 =>
if mT X587_297 rs3 = 16 then
if q_b X587_297 rs3 (89 : Int32) then
nm (sI X587_297 rs3 ((89 : Int32)).toNatClampNeg ((32 : Int32)).toInt8.toInt32) fun X593_300 =>
fX12_init_L595 r0 rs3 rs3 rs4 X593_300
else none
else none
else none
else none
else none
else none
else none
else none
else none
else none
else none
else none
else none
else none
else none
else none
def fX12_init_L505 (r0 : Nat) (rs0 : Nat) (rs1 : Nat) (rs2 : Nat) (X : Mm) : Option (Unit × Mm) :=
if mT X rs0 = 16 then
if q_b X rs0 (75 : Int32) then
nm (sI X rs0 ((75 : Int32)).toNatClampNeg ((108 : Int32)).toInt8.toInt32) fun X509_258 =>
if mT X509_258 rs1 = 16 then
if q_b X509_258 rs1 (76 : Int32) then
nm (sI X509_258 rs1 ((76 : Int32)).toNatClampNeg ((32 : Int32)).toInt8.toInt32) fun X515_261 =>
if mT X515_261 rs1 = 16 then
if q_b X515_261 rs1 (77 : Int32) then
nm (sI X515_261 rs1 ((77 : Int32)).toNatClampNeg ((112 : Int32)).toInt8.toInt32) fun X521_264 =>
if mT X521_264 rs1 = 16 then
if q_b X521_264 rs1 (78 : Int32) then
nm (sI X521_264 rs1 ((78 : Int32)).toNatClampNeg ((108 : Int32)).toInt8.toInt32) fun X527_267 =>
if mT X527_267 rs1 = 16 then
if q_b X527_267 rs1 (79 : Int32) then
nm (sI X527_267 rs1 ((79 : Int32)).toNatClampNeg ((117 : Int32)).toInt8.toInt32) fun X533_270 =>
if mT X533_270 rs1 = 16 then
if q_b X533_270 rs1 (80 : Int32) then
nm (sI X533_270 rs1 ((80 : Int32)).toNatClampNeg ((115 : Int32)).toInt8.toInt32) fun X539_273 =>
if mT X539_273 rs1 = 16 then
if q_b X539_273 rs1 (81 : Int32) then
nm (sI X539_273 rs1 ((81 : Int32)).toNatClampNeg ((32 : Int32)).toInt8.toInt32) fun X545_276 =>
fX12_init_L551 r0 (99 : Int32) (82 : Int32) rs1 rs1 rs2 X545_276
else none
else none
else none
else none
else none
else none
else none
else none
else none
else none
else none
else none
else none
else none
def fX12_init_L461 (r0 : Nat) (s0 : Int32) (s1 : Int32) (rs2 : Nat) (rs3 : Nat) (rs4 : Nat) (X : Mm) : Option (Unit × Mm) :=
if mT X rs2 = 16 then
if q_b X rs2 s1 then
nm (sI X rs2 (s1).toNatClampNeg (s0).toInt8.toInt32) fun X461_234 =>
if mT X461_234 rs3 = 16 then
if q_b X461_234 rs3 (68 : Int32) then
nm (sI X461_234 rs3 ((68 : Int32)).toNatClampNeg ((116 : Int32)).toInt8.toInt32) fun X467_237 =>
if mT X467_237 rs3 = 16 then
if q_b X467_237 rs3 (69 : Int32) then
nm (sI X467_237 rs3 ((69 : Int32)).toNatClampNeg ((104 : Int32)).toInt8.toInt32) fun X473_240 =>
if mT X473_240 rs3 = 16 then
if q_b X473_240 rs3 (70 : Int32) then
nm (sI X473_240 rs3 ((70 : Int32)).toNatClampNeg ((32 : Int32)).toInt8.toInt32) fun X479_243 =>
if mT X479_243 rs3 = 16 then
if q_b X479_243 rs3 (71 : Int32) then
nm (sI X479_243 rs3 ((71 : Int32)).toNatClampNeg ((117 : Int32)).toInt8.toInt32) fun X485_246 =>
if mT X485_246 rs3 = 16 then
if q_b X485_246 rs3 (72 : Int32) then
nm (sI X485_246 rs3 ((72 : Int32)).toNatClampNeg ((110 : Int32)).toInt8.toInt32) fun X491_249 =>
if mT X491_249 rs3 = 16 then
if q_b X491_249 rs3 (73 : Int32) then
nm (sI X491_249 rs3 ((73 : Int32)).toNatClampNeg ((116 : Int32)).toInt8.toInt32) fun X497_252 =>
if mT X497_252 rs3 = 16 then
if q_b X497_252 rs3 (74 : Int32) then
nm (sI X497_252 rs3 ((74 : Int32)).toNatClampNeg ((105 : Int32)).toInt8.toInt32) fun X503_255 =>
fX12_init_L505 r0 rs3 rs3 rs4 X503_255
else none
else none
else none
else none
else none
else none
else none
else none
else none
else none
else none
else none
else none
else none
else none
else none
def fX12_init_L415 (r0 : Nat) (rs0 : Nat) (rs1 : Nat) (rs2 : Nat) (X : Mm) : Option (Unit × Mm) :=
if mT X rs0 = 16 then
if q_b X rs0 (60 : Int32) then
nm (sI X rs0 ((60 : Int32)).toNatClampNeg ((114 : Int32)).toInt8.toInt32) fun X419_213 =>
if mT X419_213 rs1 = 16 then
if q_b X419_213 rs1 (61 : Int32) then
nm (sI X419_213 rs1 ((61 : Int32)).toNatClampNeg ((32 : Int32)).toInt8.toInt32) fun X425_216 =>
if mT X425_216 rs1 = 16 then
if q_b X425_216 rs1 (62 : Int32) then
nm (sI X425_216 rs1 ((62 : Int32)).toNatClampNeg ((97 : Int32)).toInt8.toInt32) fun X431_219 =>
if mT X431_219 rs1 = 16 then
if q_b X431_219 rs1 (63 : Int32) then
nm (sI X431_219 rs1 ((63 : Int32)).toNatClampNeg ((116 : Int32)).toInt8.toInt32) fun X437_222 =>
if mT X437_222 rs1 = 16 then
if q_b X437_222 rs1 (64 : Int32) then
nm (sI X437_222 rs1 ((64 : Int32)).toNatClampNeg ((32 : Int32)).toInt8.toInt32) fun X443_225 =>
if mT X443_225 rs1 = 16 then
if q_b X443_225 rs1 (65 : Int32) then
nm (sI X443_225 rs1 ((65 : Int32)).toNatClampNeg ((119 : Int32)).toInt8.toInt32) fun X449_228 =>
if mT X449_228 rs1 = 16 then
if q_b X449_228 rs1 (66 : Int32) then
nm (sI X449_228 rs1 ((66 : Int32)).toNatClampNeg ((111 : Int32)).toInt8.toInt32) fun X455_231 =>
fX12_init_L461 r0 (114 : Int32) (67 : Int32) rs1 rs1 rs2 X455_231
else none
else none
else none
else none
else none
else none
else none
else none
else none
else none
else none
else none
else none
else none
def fX12_init_L371 (r0 : Nat) (s0 : Int32) (s1 : Int32) (rs2 : Nat) (rs3 : Nat) (rs4 : Nat) (X : Mm) : Option (Unit × Mm) :=
if mT X rs2 = 16 then
if q_b X rs2 s1 then
nm (sI X rs2 (s1).toNatClampNeg (s0).toInt8.toInt32) fun X371_189 =>
if mT X371_189 rs3 = 16 then
if q_b X371_189 rs3 (53 : Int32) then
nm (sI X371_189 rs3 ((53 : Int32)).toNatClampNeg ((105 : Int32)).toInt8.toInt32) fun X377_192 =>
if mT X377_192 rs3 = 16 then
if q_b X377_192 rs3 (54 : Int32) then
nm (sI X377_192 rs3 ((54 : Int32)).toNatClampNeg ((110 : Int32)).toInt8.toInt32) fun X383_195 =>
if mT X383_195 rs3 = 16 then
if q_b X383_195 rs3 (55 : Int32) then
nm (sI X383_195 rs3 ((55 : Int32)).toNatClampNeg ((116 : Int32)).toInt8.toInt32) fun X389_198 =>
if mT X389_198 rs3 = 16 then
if q_b X389_198 rs3 (56 : Int32) then
nm (sI X389_198 rs3 ((56 : Int32)).toNatClampNeg ((111 : Int32)).toInt8.toInt32) fun X395_201 =>
if mT X395_201 rs3 = 16 then
if q_b X395_201 rs3 (57 : Int32) then
nm (sI X395_201 rs3 ((57 : Int32)).toNatClampNeg ((32 : Int32)).toInt8.toInt32) fun X401_204 =>
if mT X401_204 rs3 = 16 then
if q_b X401_204 rs3 (58 : Int32) then
nm (sI X401_204 rs3 ((58 : Int32)).toNatClampNeg ((102 : Int32)).toInt8.toInt32) fun X407_207 =>
if mT X407_207 rs3 = 16 then
if q_b X407_207 rs3 (59 : Int32) then
nm (sI X407_207 rs3 ((59 : Int32)).toNatClampNeg ((111 : Int32)).toInt8.toInt32) fun X413_210 =>
fX12_init_L415 r0 rs3 rs3 rs4 X413_210
else none
else none
else none
else none
else none
else none
else none
else none
else none
else none
else none
else none
else none
else none
else none
else none
def fX12_init_L325 (r0 : Nat) (rs0 : Nat) (rs1 : Nat) (rs2 : Nat) (X : Mm) : Option (Unit × Mm) :=
if mT X rs0 = 16 then
if q_b X rs0 (45 : Int32) then
nm (sI X rs0 ((45 : Int32)).toNatClampNeg ((116 : Int32)).toInt8.toInt32) fun X329_168 =>
if mT X329_168 rs1 = 16 then
if q_b X329_168 rs1 (46 : Int32) then
nm (sI X329_168 rs1 ((46 : Int32)).toNatClampNeg ((115 : Int32)).toInt8.toInt32) fun X335_171 =>
if mT X335_171 rs1 = 16 then
if q_b X335_171 rs1 (47 : Int32) then
nm (sI X335_171 rs1 ((47 : Int32)).toNatClampNeg ((32 : Int32)).toInt8.toInt32) fun X341_174 =>
if mT X341_174 rs1 = 16 then
if q_b X341_174 rs1 (48 : Int32) then
nm (sI X341_174 rs1 ((48 : Int32)).toNatClampNeg ((116 : Int32)).toInt8.toInt32) fun X347_177 =>
if mT X347_177 rs1 = 16 then
if q_b X347_177 rs1 (49 : Int32) then
nm (sI X347_177 rs1 ((49 : Int32)).toNatClampNeg ((117 : Int32)).toInt8.toInt32) fun X353_180 =>
if mT X353_180 rs1 = 16 then
if q_b X353_180 rs1 (50 : Int32) then
nm (sI X353_180 rs1 ((50 : Int32)).toNatClampNeg ((114 : Int32)).toInt8.toInt32) fun X359_183 =>
if mT X359_183 rs1 = 16 then
if q_b X359_183 rs1 (51 : Int32) then
nm (sI X359_183 rs1 ((51 : Int32)).toNatClampNeg ((110 : Int32)).toInt8.toInt32) fun X365_186 =>
fX12_init_L371 r0 (32 : Int32) (52 : Int32) rs1 rs1 rs2 X365_186
else none
else none
else none
else none
else none
else none
else none
else none
else none
else none
else none
else none
else none
else none
def fX12_init_L281 (r0 : Nat) (s0 : Int32) (s1 : Int32) (rs2 : Nat) (rs3 : Nat) (rs4 : Nat) (X : Mm) : Option (Unit × Mm) :=
if mT X rs2 = 16 then
if q_b X rs2 s1 then
nm (sI X rs2 (s1).toNatClampNeg (s0).toInt8.toInt32) fun X281_144 =>
if mT X281_144 rs3 = 16 then
if q_b X281_144 rs3 (38 : Int32) then
nm (sI X281_144 rs3 ((38 : Int32)).toNatClampNeg ((102 : Int32)).toInt8.toInt32) fun X287_147 =>
if mT X287_147 rs3 = 16 then
if q_b X287_147 rs3 (39 : Int32) then
nm (sI X287_147 rs3 ((39 : Int32)).toNatClampNeg ((116 : Int32)).toInt8.toInt32) fun X293_150 =>
if mT X293_150 rs3 = 16 then
if q_b X293_150 rs3 (40 : Int32) then
nm (sI X293_150 rs3 ((40 : Int32)).toNatClampNeg ((32 : Int32)).toInt8.toInt32) fun X299_153 =>
if mT X299_153 rs3 = 16 then
if q_b X299_153 rs3 (41 : Int32) then
nm (sI X299_153 rs3 ((41 : Int32)).toNatClampNeg ((114 : Int32)).toInt8.toInt32) fun X305_156 =>
if mT X305_156 rs3 = 16 then
if q_b X305_156 rs3 (42 : Int32) then
nm (sI X305_156 rs3 ((42 : Int32)).toNatClampNeg ((105 : Int32)).toInt8.toInt32) fun X311_159 =>
if mT X311_159 rs3 = 16 then
if q_b X311_159 rs3 (43 : Int32) then
nm (sI X311_159 rs3 ((43 : Int32)).toNatClampNeg ((103 : Int32)).toInt8.toInt32) fun X317_162 =>
if mT X317_162 rs3 = 16 then
if q_b X317_162 rs3 (44 : Int32) then
nm (sI X317_162 rs3 ((44 : Int32)).toNatClampNeg ((104 : Int32)).toInt8.toInt32) fun X323_165 =>
fX12_init_L325 r0 rs3 rs3 rs4 X323_165
else none
else none
else none
else none
else none
else none
else none
else none
else none
else none
else none
else none
else none
else none
else none
else none
def fX12_init_L235 (r0 : Nat) (rs0 : Nat) (rs1 : Nat) (rs2 : Nat) (X : Mm) : Option (Unit × Mm) :=
if mT X rs0 = 16 then
if q_b X rs0 (30 : Int32) then
nm (sI X rs0 ((30 : Int32)).toNatClampNeg ((109 : Int32)).toInt8.toInt32) fun X239_123 =>
if mT X239_123 rs1 = 16 then
if q_b X239_123 rs1 (31 : Int32) then
nm (sI X239_123 rs1 ((31 : Int32)).toNatClampNeg ((111 : Int32)).toInt8.toInt32) fun X245_126 =>
if mT X245_126 rs1 = 16 then
if q_b X245_126 rs1 (32 : Int32) then
nm (sI X245_126 rs1 ((32 : Int32)).toNatClampNeg ((110 : Int32)).toInt8.toInt32) fun X251_129 =>
if mT X251_129 rs1 = 16 then
if q_b X251_129 rs1 (33 : Int32) then
nm (sI X251_129 rs1 ((33 : Int32)).toNatClampNeg ((101 : Int32)).toInt8.toInt32) fun X257_132 =>
if mT X257_132 rs1 = 16 then
if q_b X257_132 rs1 (34 : Int32) then
nm (sI X257_132 rs1 ((34 : Int32)).toNatClampNeg ((121 : Int32)).toInt8.toInt32) fun X263_135 =>
if mT X263_135 rs1 = 16 then
if q_b X263_135 rs1 (35 : Int32) then
nm (sI X263_135 rs1 ((35 : Int32)).toNatClampNeg ((32 : Int32)).toInt8.toInt32) fun X269_138 =>
if mT X269_138 rs1 = 16 then
if q_b X269_138 rs1 (36 : Int32) then
nm (sI X269_138 rs1 ((36 : Int32)).toNatClampNeg ((103 : Int32)).toInt8.toInt32) fun X275_141 =>
fX12_init_L281 r0 (105 : Int32) (37 : Int32) rs1 rs1 rs2 X275_141
else none
else none
else none
else none
else none
else none
else none
else none
else none
else none
else none
else none
else none
else none
def fX12_init_L191 (r0 : Nat) (s0 : Int32) (s1 : Int32) (rs2 : Nat) (rs3 : Nat) (rs4 : Nat) (X : Mm) : Option (Unit × Mm) :=
if mT X rs2 = 16 then
if q_b X rs2 s1 then
nm (sI X rs2 (s1).toNatClampNeg (s0).toInt8.toInt32) fun X191_99 =>
if mT X191_99 rs3 = 16 then
if q_b X191_99 rs3 (23 : Int32) then
nm (sI X191_99 rs3 ((23 : Int32)).toNatClampNeg ((119 : Int32)).toInt8.toInt32) fun X197_102 =>
if mT X197_102 rs3 = 16 then
if q_b X197_102 rs3 (24 : Int32) then
nm (sI X197_102 rs3 ((24 : Int32)).toNatClampNeg ((105 : Int32)).toInt8.toInt32) fun X203_105 =>
if mT X203_105 rs3 = 16 then
if q_b X203_105 rs3 (25 : Int32) then
nm (sI X203_105 rs3 ((25 : Int32)).toNatClampNeg ((116 : Int32)).toInt8.toInt32) fun X209_108 =>
if mT X209_108 rs3 = 16 then
if q_b X209_108 rs3 (26 : Int32) then
nm (sI X209_108 rs3 ((26 : Int32)).toNatClampNeg ((104 : Int32)).toInt8.toInt32) fun X215_111 =>
if mT X215_111 rs3 = 16 then
if q_b X215_111 rs3 (27 : Int32) then
nm (sI X215_111 rs3 ((27 : Int32)).toNatClampNeg ((105 : Int32)).toInt8.toInt32) fun X221_114 =>
if mT X221_114 rs3 = 16 then
if q_b X221_114 rs3 (28 : Int32) then
nm (sI X221_114 rs3 ((28 : Int32)).toNatClampNeg ((110 : Int32)).toInt8.toInt32) fun X227_117 =>
if mT X227_117 rs3 = 16 then
if q_b X227_117 rs3 (29 : Int32) then
nm (sI X227_117 rs3 ((29 : Int32)).toNatClampNeg ((32 : Int32)).toInt8.toInt32) fun X233_120 =>
fX12_init_L235 r0 rs3 rs3 rs4 X233_120
else none
else none
else none
else none
else none
else none
else none
else none
else none
else none
else none
else none
else none
else none
else none
else none
def fX12_init_L145 (r0 : Nat) (rs0 : Nat) (rs1 : Nat) (rs2 : Nat) (X : Mm) : Option (Unit × Mm) :=
if mT X rs0 = 16 then
if q_b X rs0 (15 : Int32) then
nm (sI X rs0 ((15 : Int32)).toNatClampNeg ((115 : Int32)).toInt8.toInt32) fun X149_78 =>
if mT X149_78 rs1 = 16 then
if q_b X149_78 rs1 (16 : Int32) then
nm (sI X149_78 rs1 ((16 : Int32)).toNatClampNeg ((32 : Int32)).toInt8.toInt32) fun X155_81 =>
if mT X155_81 rs1 = 16 then
if q_b X155_81 rs1 (17 : Int32) then
nm (sI X155_81 rs1 ((17 : Int32)).toNatClampNeg ((116 : Int32)).toInt8.toInt32) fun X161_84 =>
if mT X161_84 rs1 = 16 then
if q_b X161_84 rs1 (18 : Int32) then
nm (sI X161_84 rs1 ((18 : Int32)).toNatClampNeg ((114 : Int32)).toInt8.toInt32) fun X167_87 =>
if mT X167_87 rs1 = 16 then
if q_b X167_87 rs1 (19 : Int32) then
nm (sI X167_87 rs1 ((19 : Int32)).toNatClampNeg ((97 : Int32)).toInt8.toInt32) fun X173_90 =>
if mT X173_90 rs1 = 16 then
if q_b X173_90 rs1 (20 : Int32) then
nm (sI X173_90 rs1 ((20 : Int32)).toNatClampNeg ((100 : Int32)).toInt8.toInt32) fun X179_93 =>
if mT X179_93 rs1 = 16 then
if q_b X179_93 rs1 (21 : Int32) then
nm (sI X179_93 rs1 ((21 : Int32)).toNatClampNeg ((101 : Int32)).toInt8.toInt32) fun X185_96 =>
fX12_init_L191 r0 (32 : Int32) (22 : Int32) rs1 rs1 rs2 X185_96
else none
else none
else none
else none
else none
else none
else none
else none
else none
else none
else none
else none
else none
else none
def fX12_init_L101 (r0 : Nat) (s0 : Int32) (s1 : Int32) (rs2 : Nat) (rs3 : Nat) (rs4 : Nat) (X : Mm) : Option (Unit × Mm) :=
if mT X rs2 = 16 then
if q_b X rs2 s1 then
nm (sI X rs2 (s1).toNatClampNeg (s0).toInt8.toInt32) fun X101_54 =>
if mT X101_54 rs3 = 16 then
if q_b X101_54 rs3 (8 : Int32) then
nm (sI X101_54 rs3 ((8 : Int32)).toNatClampNeg ((97 : Int32)).toInt8.toInt32) fun X107_57 =>
if mT X107_57 rs3 = 16 then
if q_b X107_57 rs3 (9 : Int32) then
nm (sI X107_57 rs3 ((9 : Int32)).toNatClampNeg ((112 : Int32)).toInt8.toInt32) fun X113_60 =>
if mT X113_60 rs3 = 16 then
if q_b X113_60 rs3 (10 : Int32) then
nm (sI X113_60 rs3 ((10 : Int32)).toNatClampNeg ((101 : Int32)).toInt8.toInt32) fun X119_63 =>
if mT X119_63 rs3 = 16 then
if q_b X119_63 rs3 (11 : Int32) then
nm (sI X119_63 rs3 ((11 : Int32)).toNatClampNeg ((114 : Int32)).toInt8.toInt32) fun X125_66 =>
if mT X125_66 rs3 = 16 then
if q_b X125_66 rs3 (12 : Int32) then
nm (sI X125_66 rs3 ((12 : Int32)).toNatClampNeg ((32 : Int32)).toInt8.toInt32) fun X131_69 =>
if mT X131_69 rs3 = 16 then
if q_b X131_69 rs3 (13 : Int32) then
nm (sI X131_69 rs3 ((13 : Int32)).toNatClampNeg ((104 : Int32)).toInt8.toInt32) fun X137_72 =>
if mT X137_72 rs3 = 16 then
if q_b X137_72 rs3 (14 : Int32) then
nm (sI X137_72 rs3 ((14 : Int32)).toNatClampNeg ((97 : Int32)).toInt8.toInt32) fun X143_75 =>
fX12_init_L145 r0 rs3 rs3 rs4 X143_75
else none
else none
else none
else none
else none
else none
else none
else none
else none
else none
else none
else none
else none
else none
else none
else none
def fX12_init_L61 (r0 : Nat) (rs0 : Nat) (rs1 : Nat) (rs2 : Nat) (X : Mm) : Option (Unit × Mm) :=
if mT X rs0 = 16 then
if q_b X rs0 (0 : Int32) then
nm (sI X rs0 ((0 : Int32)).toNatClampNeg ((104 : Int32)).toInt8.toInt32) fun X64_33 =>
if mT X64_33 rs1 = 16 then
if q_b X64_33 rs1 (1 : Int32) then
nm (sI X64_33 rs1 ((1 : Int32)).toNatClampNeg ((111 : Int32)).toInt8.toInt32) fun X69_36 =>
if mT X69_36 rs1 = 16 then
if q_b X69_36 rs1 (2 : Int32) then
nm (sI X69_36 rs1 ((2 : Int32)).toNatClampNeg ((108 : Int32)).toInt8.toInt32) fun X74_39 =>
if mT X74_39 rs1 = 16 then
if q_b X74_39 rs1 (3 : Int32) then
nm (sI X74_39 rs1 ((3 : Int32)).toNatClampNeg ((100 : Int32)).toInt8.toInt32) fun X79_42 =>
if mT X79_42 rs1 = 16 then
if q_b X79_42 rs1 (4 : Int32) then
nm (sI X79_42 rs1 ((4 : Int32)).toNatClampNeg ((101 : Int32)).toInt8.toInt32) fun X84_45 =>
if mT X84_45 rs1 = 16 then
if q_b X84_45 rs1 (5 : Int32) then
nm (sI X84_45 rs1 ((5 : Int32)).toNatClampNeg ((114 : Int32)).toInt8.toInt32) fun X89_48 =>
if mT X89_48 rs1 = 16 then
if q_b X89_48 rs1 (6 : Int32) then
nm (sI X89_48 rs1 ((6 : Int32)).toNatClampNeg ((32 : Int32)).toInt8.toInt32) fun X95_51 =>
fX12_init_L101 r0 (112 : Int32) (7 : Int32) rs1 rs1 rs2 X95_51
else none
else none
else none
else none
else none
else none
else none
else none
else none
else none
else none
else none
else none
else none
def fX12_init (r0 : Nat) (X : Mm) : Option (Unit × Mm) :=
nm (mN X + 1) fun rN2 =>
nm (q_nw X 15 4604) fun X8_1 =>
if mT X8_1 r0 = 12 then
if rN2 ≠ 0 then
nm (sR X8_1 r0 1 rN2) fun X10_3 =>
nm (mN X10_3 + 1) fun rN7 =>
nm (q_nw X10_3 15 4604) fun X17_6 =>
if mT X17_6 r0 = 12 then
if rN7 ≠ 0 then
nm (sR X17_6 r0 2 rN7) fun X19_8 =>
nm (mN X19_8 + 1) fun rN12 =>
nm (q_nw X19_8 15 4604) fun X26_11 =>
if mT X26_11 r0 = 12 then
if rN12 ≠ 0 then
nm (sR X26_11 r0 3 rN12) fun X28_13 =>
nm (mN X28_13 + 1) fun rN17 =>
nm (q_nw X28_13 15 27624) fun X35_16 =>
if mT X35_16 r0 = 12 then
if rN17 ≠ 0 then
nm (sR X35_16 r0 4 rN17) fun X37_18 =>
nm (mN X37_18 + 1) fun rN22 =>
nm (q_nw X37_18 15 10) fun X43_21 =>
if mT X43_21 r0 = 12 then
if rN22 ≠ 0 then
nm (sR X43_21 r0 8 rN22) fun X45_23 =>
nm (mN X45_23 + 1) fun rN27 =>
nm (q_nw X45_23 15 5) fun X50_26 =>
if mT X50_26 r0 = 12 then
if rN27 ≠ 0 then
nm (sR X50_26 r0 9 rN27) fun X52_28 =>
nm (mN X52_28 + 1) fun rN32 =>
nm (q_nw X52_28 16 113) fun X58_31 =>
fX12_init_L61 r0 rN32 rN32 r0 X58_31
else none
else none
else none
else none
else none
else none
else none
else none
else none
else none
else none
else none
theorem gX12_init_L791 {E : q_E} {X0 : Mm} (C : Cx E cX12_init RX12 1 none (q_rm 1 20 15 44279) X0) (hn : q_mn E = "<init>") (r0 : Nat) (rs0 : Nat) (X : Mm) : Sm E (q_fin E q_eV X0 15 44279) 13 43869 791 [(0, .ref (q_P E + r0))] [.ref (q_P E + rs0)] X (fX12_init_L791 r0 rs0 X) := by
  unfold fX12_init_L791
  refine q_bipush C (10 : Int32) dX12_init_791 rfl ?_
  refine q_newa (atype := .long) (ty := .long) (tg := 15) (N := 10) C rfl falong (Or.inr (Or.inl ⟨rfl, rfl⟩)) (by decide) rfl (Nat.le_of_ble_eq_true rfl) ⟨Nat.le_of_ble_eq_true rfl, Nat.le_of_ble_eq_true rfl⟩ dX12_init_793 ?_
  refine q_nmr (fun rN408 => ?_)
  refine q_nmX (fun X793_407 => ?_)
  refine q_chk (fun h410 => ?_)
  refine q_chk (fun h411 => ?_)
  refine p_putF C fpX12_57 hn (fun _ => rfl) (fun _ => rfl) rfl dX12_init_795 h410 h411 ?_
  refine q_nmX (fun X795_409 => ?_)
  refine q_aload_n C 0 dX12_init_798 rfl rfl ?_
  refine q_sipush C (400 : Int32) dX12_init_799 rfl ?_
  refine q_newa (atype := .byte) (ty := .byte) (tg := 16) (N := 400) C rfl fabyte (Or.inr (Or.inr ⟨rfl, rfl⟩)) (by decide) rfl (Nat.le_of_ble_eq_true rfl) ⟨Nat.le_of_ble_eq_true rfl, Nat.le_of_ble_eq_true rfl⟩ dX12_init_802 ?_
  refine q_nmr (fun rN413 => ?_)
  refine q_nmX (fun X802_412 => ?_)
  refine q_chk (fun h415 => ?_)
  refine q_chk (fun h416 => ?_)
  refine p_putF C fpX12_60 hn (fun _ => rfl) (fun _ => rfl) rfl dX12_init_804 h415 h416 ?_
  refine q_nmX (fun X804_414 => ?_)
  exact q_vret C dX12_init_807
theorem gX12_init_L731 {E : q_E} {X0 : Mm} (C : Cx E cX12_init RX12 1 none (q_rm 1 20 15 44279) X0) (hn : q_mn E = "<init>") (r0 : Nat) (s0 : Int32) (s1 : Int32) (rs2 : Nat) (rs3 : Nat) (rs4 : Nat) (X : Mm) : Sm E (q_fin E q_eV X0 15 44279) 7 41564 731 [(0, .ref (q_P E + r0))] [.int s0, .int s1, .ref (q_P E + rs2), .ref (q_P E + rs3), .ref (q_P E + rs4)] X (fX12_init_L731 r0 s0 s1 rs2 rs3 rs4 X) := by
  unfold fX12_init_L731
  refine q_chk (fun h370 => ?_)
  refine q_chk (fun h371 => ?_)
  refine p_bast C dX12_init_731 h370 h371 ?_
  refine q_nmX (fun X731_369 => ?_)
  refine q_chk (fun h373 => ?_)
  refine q_chk (fun h374 => ?_)
  refine p_putF C fpX12_30 hn (fun _ => rfl) (fun _ => rfl) rfl dX12_init_732 h373 h374 ?_
  refine q_nmX (fun X732_372 => ?_)
  refine q_aload_n C 0 dX12_init_735 rfl rfl ?_
  refine q_sipush C (700 : Int32) dX12_init_736 rfl ?_
  refine q_newa (atype := .byte) (ty := .byte) (tg := 16) (N := 700) C rfl fabyte (Or.inr (Or.inr ⟨rfl, rfl⟩)) (by decide) rfl (Nat.le_of_ble_eq_true rfl) ⟨Nat.le_of_ble_eq_true rfl, Nat.le_of_ble_eq_true rfl⟩ dX12_init_739 ?_
  refine q_nmr (fun rN376 => ?_)
  refine q_nmX (fun X739_375 => ?_)
  refine q_chk (fun h378 => ?_)
  refine q_chk (fun h379 => ?_)
  refine p_putF C fpX12_34 hn (fun _ => rfl) (fun _ => rfl) rfl dX12_init_741 h378 h379 ?_
  refine q_nmX (fun X741_377 => ?_)
  refine q_aload_n C 0 dX12_init_744 rfl rfl ?_
  refine q_iconst C (-1 : Int32) dX12_init_745 rfl ?_
  refine q_chk (fun h381 => ?_)
  refine p_putI C fpX12_37 rfl dX12_init_746 h381 ?_
  refine q_nmX (fun X746_380 => ?_)
  refine q_aload_n C 0 dX12_init_749 rfl rfl ?_
  refine q_bipush C (10 : Int32) dX12_init_750 rfl ?_
  refine q_newa (atype := .long) (ty := .long) (tg := 15) (N := 10) C rfl falong (Or.inr (Or.inl ⟨rfl, rfl⟩)) (by decide) rfl (Nat.le_of_ble_eq_true rfl) ⟨Nat.le_of_ble_eq_true rfl, Nat.le_of_ble_eq_true rfl⟩ dX12_init_752 ?_
  refine q_nmr (fun rN383 => ?_)
  refine q_nmX (fun X752_382 => ?_)
  refine q_chk (fun h385 => ?_)
  refine q_chk (fun h386 => ?_)
  refine p_putF C fpX12_41 hn (fun _ => rfl) (fun _ => rfl) rfl dX12_init_754 h385 h386 ?_
  refine q_nmX (fun X754_384 => ?_)
  refine q_aload_n C 0 dX12_init_757 rfl rfl ?_
  refine q_iconst C (5 : Int32) dX12_init_758 rfl ?_
  refine q_newa (atype := .long) (ty := .long) (tg := 15) (N := 5) C rfl falong (Or.inr (Or.inl ⟨rfl, rfl⟩)) (by decide) rfl (Nat.le_of_ble_eq_true rfl) ⟨Nat.le_of_ble_eq_true rfl, Nat.le_of_ble_eq_true rfl⟩ dX12_init_759 ?_
  refine q_nmr (fun rN388 => ?_)
  refine q_nmX (fun X759_387 => ?_)
  refine q_chk (fun h390 => ?_)
  refine q_chk (fun h391 => ?_)
  refine p_putF C fpX12_44 hn (fun _ => rfl) (fun _ => rfl) rfl dX12_init_761 h390 h391 ?_
  refine q_nmX (fun X761_389 => ?_)
  refine q_aload_n C 0 dX12_init_764 rfl rfl ?_
  refine q_bipush C (50 : Int32) dX12_init_765 rfl ?_
  refine q_newa (atype := .int) (ty := .int) (tg := 14) (N := 50) C rfl faint (Or.inl ⟨rfl, rfl⟩) (by decide) rfl (Nat.le_of_ble_eq_true rfl) ⟨Nat.le_of_ble_eq_true rfl, Nat.le_of_ble_eq_true rfl⟩ dX12_init_767 ?_
  refine q_nmr (fun rN393 => ?_)
  refine q_nmX (fun X767_392 => ?_)
  refine q_chk (fun h395 => ?_)
  refine q_chk (fun h396 => ?_)
  refine p_putF C fpX12_47 hn (fun _ => rfl) (fun _ => rfl) rfl dX12_init_769 h395 h396 ?_
  refine q_nmX (fun X769_394 => ?_)
  refine q_aload_n C 0 dX12_init_772 rfl rfl ?_
  refine q_sipush C (140 : Int32) dX12_init_773 rfl ?_
  refine q_newa (atype := .int) (ty := .int) (tg := 14) (N := 140) C rfl faint (Or.inl ⟨rfl, rfl⟩) (by decide) rfl (Nat.le_of_ble_eq_true rfl) ⟨Nat.le_of_ble_eq_true rfl, Nat.le_of_ble_eq_true rfl⟩ dX12_init_776 ?_
  refine q_nmr (fun rN398 => ?_)
  refine q_nmX (fun X776_397 => ?_)
  refine q_chk (fun h400 => ?_)
  refine q_chk (fun h401 => ?_)
  refine p_putF C fpX12_51 hn (fun _ => rfl) (fun _ => rfl) rfl dX12_init_778 h400 h401 ?_
  refine q_nmX (fun X778_399 => ?_)
  refine q_aload_n C 0 dX12_init_781 rfl rfl ?_
  refine q_sipush C (1400 : Int32) dX12_init_782 rfl ?_
  refine q_newa (atype := .int) (ty := .int) (tg := 14) (N := 1400) C rfl faint (Or.inl ⟨rfl, rfl⟩) (by decide) rfl (Nat.le_of_ble_eq_true rfl) ⟨Nat.le_of_ble_eq_true rfl, Nat.le_of_ble_eq_true rfl⟩ dX12_init_785 ?_
  refine q_nmr (fun rN403 => ?_)
  refine q_nmX (fun X785_402 => ?_)
  refine q_chk (fun h405 => ?_)
  refine q_chk (fun h406 => ?_)
  refine p_putF C fpX12_54 hn (fun _ => rfl) (fun _ => rfl) rfl dX12_init_787 h405 h406 ?_
  refine q_nmX (fun X787_404 => ?_)
  refine q_aload_n C 0 dX12_init_790 rfl rfl ?_
  exact gX12_init_L791 C hn r0 r0 X787_404
theorem gX12_init_L685 {E : q_E} {X0 : Mm} (C : Cx E cX12_init RX12 1 none (q_rm 1 20 15 44279) X0) (hn : q_mn E = "<init>") (r0 : Nat) (rs0 : Nat) (rs1 : Nat) (rs2 : Nat) (X : Mm) : Sm E (q_fin E q_eV X0 15 44279) 7 41564 685 [(0, .ref (q_P E + r0))] [.ref (q_P E + rs0), .ref (q_P E + rs1), .ref (q_P E + rs2)] X (fX12_init_L685 r0 rs0 rs1 rs2 X) := by
  unfold fX12_init_L685
  refine q_bipush C (105 : Int32) dX12_init_685 rfl ?_
  refine q_bipush C (115 : Int32) dX12_init_687 rfl ?_
  refine q_chk (fun h349 => ?_)
  refine q_chk (fun h350 => ?_)
  refine p_bast C dX12_init_689 h349 h350 ?_
  refine q_nmX (fun X689_348 => ?_)
  refine q_dup C dX12_init_690 rfl ?_
  refine q_bipush C (106 : Int32) dX12_init_691 rfl ?_
  refine q_bipush C (101 : Int32) dX12_init_693 rfl ?_
  refine q_chk (fun h352 => ?_)
  refine q_chk (fun h353 => ?_)
  refine p_bast C dX12_init_695 h352 h353 ?_
  refine q_nmX (fun X695_351 => ?_)
  refine q_dup C dX12_init_696 rfl ?_
  refine q_bipush C (107 : Int32) dX12_init_697 rfl ?_
  refine q_bipush C (32 : Int32) dX12_init_699 rfl ?_
  refine q_chk (fun h355 => ?_)
  refine q_chk (fun h356 => ?_)
  refine p_bast C dX12_init_701 h355 h356 ?_
  refine q_nmX (fun X701_354 => ?_)
  refine q_dup C dX12_init_702 rfl ?_
  refine q_bipush C (108 : Int32) dX12_init_703 rfl ?_
  refine q_bipush C (100 : Int32) dX12_init_705 rfl ?_
  refine q_chk (fun h358 => ?_)
  refine q_chk (fun h359 => ?_)
  refine p_bast C dX12_init_707 h358 h359 ?_
  refine q_nmX (fun X707_357 => ?_)
  refine q_dup C dX12_init_708 rfl ?_
  refine q_bipush C (109 : Int32) dX12_init_709 rfl ?_
  refine q_bipush C (97 : Int32) dX12_init_711 rfl ?_
  refine q_chk (fun h361 => ?_)
  refine q_chk (fun h362 => ?_)
  refine p_bast C dX12_init_713 h361 h362 ?_
  refine q_nmX (fun X713_360 => ?_)
  refine q_dup C dX12_init_714 rfl ?_
  refine q_bipush C (110 : Int32) dX12_init_715 rfl ?_
  refine q_bipush C (121 : Int32) dX12_init_717 rfl ?_
  refine q_chk (fun h364 => ?_)
  refine q_chk (fun h365 => ?_)
  refine p_bast C dX12_init_719 h364 h365 ?_
  refine q_nmX (fun X719_363 => ?_)
  refine q_dup C dX12_init_720 rfl ?_
  refine q_bipush C (111 : Int32) dX12_init_721 rfl ?_
  refine q_bipush C (115 : Int32) dX12_init_723 rfl ?_
  refine q_chk (fun h367 => ?_)
  refine q_chk (fun h368 => ?_)
  refine p_bast C dX12_init_725 h367 h368 ?_
  refine q_nmX (fun X725_366 => ?_)
  refine q_dup C dX12_init_726 rfl ?_
  refine q_bipush C (112 : Int32) dX12_init_727 rfl ?_
  refine q_bipush C (32 : Int32) dX12_init_729 rfl ?_
  exact gX12_init_L731 C hn r0 (32 : Int32) (112 : Int32) rs1 rs1 rs2 X725_366
theorem gX12_init_L641 {E : q_E} {X0 : Mm} (C : Cx E cX12_init RX12 1 none (q_rm 1 20 15 44279) X0) (hn : q_mn E = "<init>") (r0 : Nat) (s0 : Int32) (s1 : Int32) (rs2 : Nat) (rs3 : Nat) (rs4 : Nat) (X : Mm) : Sm E (q_fin E q_eV X0 15 44279) 7 41564 641 [(0, .ref (q_P E + r0))] [.int s0, .int s1, .ref (q_P E + rs2), .ref (q_P E + rs3), .ref (q_P E + rs4)] X (fX12_init_L641 r0 s0 s1 rs2 rs3 rs4 X) := by
  unfold fX12_init_L641
  refine q_chk (fun h325 => ?_)
  refine q_chk (fun h326 => ?_)
  refine p_bast C dX12_init_641 h325 h326 ?_
  refine q_nmX (fun X641_324 => ?_)
  refine q_dup C dX12_init_642 rfl ?_
  refine q_bipush C (98 : Int32) dX12_init_643 rfl ?_
  refine q_bipush C (97 : Int32) dX12_init_645 rfl ?_
  refine q_chk (fun h328 => ?_)
  refine q_chk (fun h329 => ?_)
  refine p_bast C dX12_init_647 h328 h329 ?_
  refine q_nmX (fun X647_327 => ?_)
  refine q_dup C dX12_init_648 rfl ?_
  refine q_bipush C (99 : Int32) dX12_init_649 rfl ?_
  refine q_bipush C (121 : Int32) dX12_init_651 rfl ?_
  refine q_chk (fun h331 => ?_)
  refine q_chk (fun h332 => ?_)
  refine p_bast C dX12_init_653 h331 h332 ?_
  refine q_nmX (fun X653_330 => ?_)
  refine q_dup C dX12_init_654 rfl ?_
  refine q_bipush C (100 : Int32) dX12_init_655 rfl ?_
  refine q_bipush C (32 : Int32) dX12_init_657 rfl ?_
  refine q_chk (fun h334 => ?_)
  refine q_chk (fun h335 => ?_)
  refine p_bast C dX12_init_659 h334 h335 ?_
  refine q_nmX (fun X659_333 => ?_)
  refine q_dup C dX12_init_660 rfl ?_
  refine q_bipush C (101 : Int32) dX12_init_661 rfl ?_
  refine q_bipush C (99 : Int32) dX12_init_663 rfl ?_
  refine q_chk (fun h337 => ?_)
  refine q_chk (fun h338 => ?_)
  refine p_bast C dX12_init_665 h337 h338 ?_
  refine q_nmX (fun X665_336 => ?_)
  refine q_dup C dX12_init_666 rfl ?_
  refine q_bipush C (102 : Int32) dX12_init_667 rfl ?_
  refine q_bipush C (104 : Int32) dX12_init_669 rfl ?_
  refine q_chk (fun h340 => ?_)
  refine q_chk (fun h341 => ?_)
  refine p_bast C dX12_init_671 h340 h341 ?_
  refine q_nmX (fun X671_339 => ?_)
  refine q_dup C dX12_init_672 rfl ?_
  refine q_bipush C (103 : Int32) dX12_init_673 rfl ?_
  refine q_bipush C (111 : Int32) dX12_init_675 rfl ?_
  refine q_chk (fun h343 => ?_)
  refine q_chk (fun h344 => ?_)
  refine p_bast C dX12_init_677 h343 h344 ?_
  refine q_nmX (fun X677_342 => ?_)
  refine q_dup C dX12_init_678 rfl ?_
  refine q_bipush C (104 : Int32) dX12_init_679 rfl ?_
  refine q_bipush C (111 : Int32) dX12_init_681 rfl ?_
  refine q_chk (fun h346 => ?_)
  refine q_chk (fun h347 => ?_)
  refine p_bast C dX12_init_683 h346 h347 ?_
  refine q_nmX (fun X683_345 => ?_)
  refine q_dup C dX12_init_684 rfl ?_
  exact gX12_init_L685 C hn r0 rs3 rs3 rs4 X683_345
theorem gX12_init_L595 {E : q_E} {X0 : Mm} (C : Cx E cX12_init RX12 1 none (q_rm 1 20 15 44279) X0) (hn : q_mn E = "<init>") (r0 : Nat) (rs0 : Nat) (rs1 : Nat) (rs2 : Nat) (X : Mm) : Sm E (q_fin E q_eV X0 15 44279) 7 41564 595 [(0, .ref (q_P E + r0))] [.ref (q_P E + rs0), .ref (q_P E + rs1), .ref (q_P E + rs2)] X (fX12_init_L595 r0 rs0 rs1 rs2 X) := by
  unfold fX12_init_L595
  refine q_bipush C (90 : Int32) dX12_init_595 rfl ?_
  refine q_bipush C (114 : Int32) dX12_init_597 rfl ?_
  refine q_chk (fun h304 => ?_)
  refine q_chk (fun h305 => ?_)
  refine p_bast C dX12_init_599 h304 h305 ?_
  refine q_nmX (fun X599_303 => ?_)
  refine q_dup C dX12_init_600 rfl ?_
  refine q_bipush C (91 : Int32) dX12_init_601 rfl ?_
  refine q_bipush C (101 : Int32) dX12_init_603 rfl ?_
  refine q_chk (fun h307 => ?_)
  refine q_chk (fun h308 => ?_)
  refine p_bast C dX12_init_605 h307 h308 ?_
  refine q_nmX (fun X605_306 => ?_)
  refine q_dup C dX12_init_606 rfl ?_
  refine q_bipush C (92 : Int32) dX12_init_607 rfl ?_
  refine q_bipush C (99 : Int32) dX12_init_609 rfl ?_
  refine q_chk (fun h310 => ?_)
  refine q_chk (fun h311 => ?_)
  refine p_bast C dX12_init_611 h310 h311 ?_
  refine q_nmX (fun X611_309 => ?_)
  refine q_dup C dX12_init_612 rfl ?_
  refine q_bipush C (93 : Int32) dX12_init_613 rfl ?_
  refine q_bipush C (111 : Int32) dX12_init_615 rfl ?_
  refine q_chk (fun h313 => ?_)
  refine q_chk (fun h314 => ?_)
  refine p_bast C dX12_init_617 h313 h314 ?_
  refine q_nmX (fun X617_312 => ?_)
  refine q_dup C dX12_init_618 rfl ?_
  refine q_bipush C (94 : Int32) dX12_init_619 rfl ?_
  refine q_bipush C (114 : Int32) dX12_init_621 rfl ?_
  refine q_chk (fun h316 => ?_)
  refine q_chk (fun h317 => ?_)
  refine p_bast C dX12_init_623 h316 h317 ?_
  refine q_nmX (fun X623_315 => ?_)
  refine q_dup C dX12_init_624 rfl ?_
  refine q_bipush C (95 : Int32) dX12_init_625 rfl ?_
  refine q_bipush C (100 : Int32) dX12_init_627 rfl ?_
  refine q_chk (fun h319 => ?_)
  refine q_chk (fun h320 => ?_)
  refine p_bast C dX12_init_629 h319 h320 ?_
  refine q_nmX (fun X629_318 => ?_)
  refine q_dup C dX12_init_630 rfl ?_
  refine q_bipush C (96 : Int32) dX12_init_631 rfl ?_
  refine q_bipush C (32 : Int32) dX12_init_633 rfl ?_
  refine q_chk (fun h322 => ?_)
  refine q_chk (fun h323 => ?_)
  refine p_bast C dX12_init_635 h322 h323 ?_
  refine q_nmX (fun X635_321 => ?_)
  refine q_dup C dX12_init_636 rfl ?_
  refine q_bipush C (97 : Int32) dX12_init_637 rfl ?_
  refine q_bipush C (112 : Int32) dX12_init_639 rfl ?_
  exact gX12_init_L641 C hn r0 (112 : Int32) (97 : Int32) rs1 rs1 rs2 X635_321
theorem gX12_init_L551 {E : q_E} {X0 : Mm} (C : Cx E cX12_init RX12 1 none (q_rm 1 20 15 44279) X0) (hn : q_mn E = "<init>") (r0 : Nat) (s0 : Int32) (s1 : Int32) (rs2 : Nat) (rs3 : Nat) (rs4 : Nat) (X : Mm) : Sm E (q_fin E q_eV X0 15 44279) 7 41564 551 [(0, .ref (q_P E + r0))] [.int s0, .int s1, .ref (q_P E + rs2), .ref (q_P E + rs3), .ref (q_P E + rs4)] X (fX12_init_L551 r0 s0 s1 rs2 rs3 rs4 X) := by
  unfold fX12_init_L551
  refine q_chk (fun h280 => ?_)
  refine q_chk (fun h281 => ?_)
  refine p_bast C dX12_init_551 h280 h281 ?_
  refine q_nmX (fun X551_279 => ?_)
  refine q_dup C dX12_init_552 rfl ?_
  refine q_bipush C (83 : Int32) dX12_init_553 rfl ?_
  refine q_bipush C (97 : Int32) dX12_init_555 rfl ?_
  refine q_chk (fun h283 => ?_)
  refine q_chk (fun h284 => ?_)
  refine p_bast C dX12_init_557 h283 h284 ?_
  refine q_nmX (fun X557_282 => ?_)
  refine q_dup C dX12_init_558 rfl ?_
  refine q_bipush C (84 : Int32) dX12_init_559 rfl ?_
  refine q_bipush C (115 : Int32) dX12_init_561 rfl ?_
  refine q_chk (fun h286 => ?_)
  refine q_chk (fun h287 => ?_)
  refine p_bast C dX12_init_563 h286 h287 ?_
  refine q_nmX (fun X563_285 => ?_)
  refine q_dup C dX12_init_564 rfl ?_
  refine q_bipush C (85 : Int32) dX12_init_565 rfl ?_
  refine q_bipush C (104 : Int32) dX12_init_567 rfl ?_
  refine q_chk (fun h289 => ?_)
  refine q_chk (fun h290 => ?_)
  refine p_bast C dX12_init_569 h289 h290 ?_
  refine q_nmX (fun X569_288 => ?_)
  refine q_dup C dX12_init_570 rfl ?_
  refine q_bipush C (86 : Int32) dX12_init_571 rfl ?_
  refine q_bipush C (32 : Int32) dX12_init_573 rfl ?_
  refine q_chk (fun h292 => ?_)
  refine q_chk (fun h293 => ?_)
  refine p_bast C dX12_init_575 h292 h293 ?_
  refine q_nmX (fun X575_291 => ?_)
  refine q_dup C dX12_init_576 rfl ?_
  refine q_bipush C (87 : Int32) dX12_init_577 rfl ?_
  refine q_bipush C (101 : Int32) dX12_init_579 rfl ?_
  refine q_chk (fun h295 => ?_)
  refine q_chk (fun h296 => ?_)
  refine p_bast C dX12_init_581 h295 h296 ?_
  refine q_nmX (fun X581_294 => ?_)
  refine q_dup C dX12_init_582 rfl ?_
  refine q_bipush C (88 : Int32) dX12_init_583 rfl ?_
  refine q_bipush C (120 : Int32) dX12_init_585 rfl ?_
  refine q_chk (fun h298 => ?_)
  refine q_chk (fun h299 => ?_)
  refine p_bast C dX12_init_587 h298 h299 ?_
  refine q_nmX (fun X587_297 => ?_)
  refine q_dup C dX12_init_588 rfl ?_
  refine q_bipush C (89 : Int32) dX12_init_589 rfl ?_
  refine q_bipush C (32 : Int32) dX12_init_591 rfl ?_
  refine q_chk (fun h301 => ?_)
  refine q_chk (fun h302 => ?_)
  refine p_bast C dX12_init_593 h301 h302 ?_
  refine q_nmX (fun X593_300 => ?_)
  refine q_dup C dX12_init_594 rfl ?_
  exact gX12_init_L595 C hn r0 rs3 rs3 rs4 X593_300
theorem gX12_init_L505 {E : q_E} {X0 : Mm} (C : Cx E cX12_init RX12 1 none (q_rm 1 20 15 44279) X0) (hn : q_mn E = "<init>") (r0 : Nat) (rs0 : Nat) (rs1 : Nat) (rs2 : Nat) (X : Mm) : Sm E (q_fin E q_eV X0 15 44279) 7 41564 505 [(0, .ref (q_P E + r0))] [.ref (q_P E + rs0), .ref (q_P E + rs1), .ref (q_P E + rs2)] X (fX12_init_L505 r0 rs0 rs1 rs2 X) := by
  unfold fX12_init_L505
  refine q_bipush C (75 : Int32) dX12_init_505 rfl ?_
  refine q_bipush C (108 : Int32) dX12_init_507 rfl ?_
  refine q_chk (fun h259 => ?_)
  refine q_chk (fun h260 => ?_)
  refine p_bast C dX12_init_509 h259 h260 ?_
  refine q_nmX (fun X509_258 => ?_)
  refine q_dup C dX12_init_510 rfl ?_
  refine q_bipush C (76 : Int32) dX12_init_511 rfl ?_
  refine q_bipush C (32 : Int32) dX12_init_513 rfl ?_
  refine q_chk (fun h262 => ?_)
  refine q_chk (fun h263 => ?_)
  refine p_bast C dX12_init_515 h262 h263 ?_
  refine q_nmX (fun X515_261 => ?_)
  refine q_dup C dX12_init_516 rfl ?_
  refine q_bipush C (77 : Int32) dX12_init_517 rfl ?_
  refine q_bipush C (112 : Int32) dX12_init_519 rfl ?_
  refine q_chk (fun h265 => ?_)
  refine q_chk (fun h266 => ?_)
  refine p_bast C dX12_init_521 h265 h266 ?_
  refine q_nmX (fun X521_264 => ?_)
  refine q_dup C dX12_init_522 rfl ?_
  refine q_bipush C (78 : Int32) dX12_init_523 rfl ?_
  refine q_bipush C (108 : Int32) dX12_init_525 rfl ?_
  refine q_chk (fun h268 => ?_)
  refine q_chk (fun h269 => ?_)
  refine p_bast C dX12_init_527 h268 h269 ?_
  refine q_nmX (fun X527_267 => ?_)
  refine q_dup C dX12_init_528 rfl ?_
  refine q_bipush C (79 : Int32) dX12_init_529 rfl ?_
  refine q_bipush C (117 : Int32) dX12_init_531 rfl ?_
  refine q_chk (fun h271 => ?_)
  refine q_chk (fun h272 => ?_)
  refine p_bast C dX12_init_533 h271 h272 ?_
  refine q_nmX (fun X533_270 => ?_)
  refine q_dup C dX12_init_534 rfl ?_
  refine q_bipush C (80 : Int32) dX12_init_535 rfl ?_
  refine q_bipush C (115 : Int32) dX12_init_537 rfl ?_
  refine q_chk (fun h274 => ?_)
  refine q_chk (fun h275 => ?_)
  refine p_bast C dX12_init_539 h274 h275 ?_
  refine q_nmX (fun X539_273 => ?_)
  refine q_dup C dX12_init_540 rfl ?_
  refine q_bipush C (81 : Int32) dX12_init_541 rfl ?_
  refine q_bipush C (32 : Int32) dX12_init_543 rfl ?_
  refine q_chk (fun h277 => ?_)
  refine q_chk (fun h278 => ?_)
  refine p_bast C dX12_init_545 h277 h278 ?_
  refine q_nmX (fun X545_276 => ?_)
  refine q_dup C dX12_init_546 rfl ?_
  refine q_bipush C (82 : Int32) dX12_init_547 rfl ?_
  refine q_bipush C (99 : Int32) dX12_init_549 rfl ?_
  exact gX12_init_L551 C hn r0 (99 : Int32) (82 : Int32) rs1 rs1 rs2 X545_276
theorem gX12_init_L461 {E : q_E} {X0 : Mm} (C : Cx E cX12_init RX12 1 none (q_rm 1 20 15 44279) X0) (hn : q_mn E = "<init>") (r0 : Nat) (s0 : Int32) (s1 : Int32) (rs2 : Nat) (rs3 : Nat) (rs4 : Nat) (X : Mm) : Sm E (q_fin E q_eV X0 15 44279) 7 41564 461 [(0, .ref (q_P E + r0))] [.int s0, .int s1, .ref (q_P E + rs2), .ref (q_P E + rs3), .ref (q_P E + rs4)] X (fX12_init_L461 r0 s0 s1 rs2 rs3 rs4 X) := by
  unfold fX12_init_L461
  refine q_chk (fun h235 => ?_)
  refine q_chk (fun h236 => ?_)
  refine p_bast C dX12_init_461 h235 h236 ?_
  refine q_nmX (fun X461_234 => ?_)
  refine q_dup C dX12_init_462 rfl ?_
  refine q_bipush C (68 : Int32) dX12_init_463 rfl ?_
  refine q_bipush C (116 : Int32) dX12_init_465 rfl ?_
  refine q_chk (fun h238 => ?_)
  refine q_chk (fun h239 => ?_)
  refine p_bast C dX12_init_467 h238 h239 ?_
  refine q_nmX (fun X467_237 => ?_)
  refine q_dup C dX12_init_468 rfl ?_
  refine q_bipush C (69 : Int32) dX12_init_469 rfl ?_
  refine q_bipush C (104 : Int32) dX12_init_471 rfl ?_
  refine q_chk (fun h241 => ?_)
  refine q_chk (fun h242 => ?_)
  refine p_bast C dX12_init_473 h241 h242 ?_
  refine q_nmX (fun X473_240 => ?_)
  refine q_dup C dX12_init_474 rfl ?_
  refine q_bipush C (70 : Int32) dX12_init_475 rfl ?_
  refine q_bipush C (32 : Int32) dX12_init_477 rfl ?_
  refine q_chk (fun h244 => ?_)
  refine q_chk (fun h245 => ?_)
  refine p_bast C dX12_init_479 h244 h245 ?_
  refine q_nmX (fun X479_243 => ?_)
  refine q_dup C dX12_init_480 rfl ?_
  refine q_bipush C (71 : Int32) dX12_init_481 rfl ?_
  refine q_bipush C (117 : Int32) dX12_init_483 rfl ?_
  refine q_chk (fun h247 => ?_)
  refine q_chk (fun h248 => ?_)
  refine p_bast C dX12_init_485 h247 h248 ?_
  refine q_nmX (fun X485_246 => ?_)
  refine q_dup C dX12_init_486 rfl ?_
  refine q_bipush C (72 : Int32) dX12_init_487 rfl ?_
  refine q_bipush C (110 : Int32) dX12_init_489 rfl ?_
  refine q_chk (fun h250 => ?_)
  refine q_chk (fun h251 => ?_)
  refine p_bast C dX12_init_491 h250 h251 ?_
  refine q_nmX (fun X491_249 => ?_)
  refine q_dup C dX12_init_492 rfl ?_
  refine q_bipush C (73 : Int32) dX12_init_493 rfl ?_
  refine q_bipush C (116 : Int32) dX12_init_495 rfl ?_
  refine q_chk (fun h253 => ?_)
  refine q_chk (fun h254 => ?_)
  refine p_bast C dX12_init_497 h253 h254 ?_
  refine q_nmX (fun X497_252 => ?_)
  refine q_dup C dX12_init_498 rfl ?_
  refine q_bipush C (74 : Int32) dX12_init_499 rfl ?_
  refine q_bipush C (105 : Int32) dX12_init_501 rfl ?_
  refine q_chk (fun h256 => ?_)
  refine q_chk (fun h257 => ?_)
  refine p_bast C dX12_init_503 h256 h257 ?_
  refine q_nmX (fun X503_255 => ?_)
  refine q_dup C dX12_init_504 rfl ?_
  exact gX12_init_L505 C hn r0 rs3 rs3 rs4 X503_255
theorem gX12_init_L415 {E : q_E} {X0 : Mm} (C : Cx E cX12_init RX12 1 none (q_rm 1 20 15 44279) X0) (hn : q_mn E = "<init>") (r0 : Nat) (rs0 : Nat) (rs1 : Nat) (rs2 : Nat) (X : Mm) : Sm E (q_fin E q_eV X0 15 44279) 7 41564 415 [(0, .ref (q_P E + r0))] [.ref (q_P E + rs0), .ref (q_P E + rs1), .ref (q_P E + rs2)] X (fX12_init_L415 r0 rs0 rs1 rs2 X) := by
  unfold fX12_init_L415
  refine q_bipush C (60 : Int32) dX12_init_415 rfl ?_
  refine q_bipush C (114 : Int32) dX12_init_417 rfl ?_
  refine q_chk (fun h214 => ?_)
  refine q_chk (fun h215 => ?_)
  refine p_bast C dX12_init_419 h214 h215 ?_
  refine q_nmX (fun X419_213 => ?_)
  refine q_dup C dX12_init_420 rfl ?_
  refine q_bipush C (61 : Int32) dX12_init_421 rfl ?_
  refine q_bipush C (32 : Int32) dX12_init_423 rfl ?_
  refine q_chk (fun h217 => ?_)
  refine q_chk (fun h218 => ?_)
  refine p_bast C dX12_init_425 h217 h218 ?_
  refine q_nmX (fun X425_216 => ?_)
  refine q_dup C dX12_init_426 rfl ?_
  refine q_bipush C (62 : Int32) dX12_init_427 rfl ?_
  refine q_bipush C (97 : Int32) dX12_init_429 rfl ?_
  refine q_chk (fun h220 => ?_)
  refine q_chk (fun h221 => ?_)
  refine p_bast C dX12_init_431 h220 h221 ?_
  refine q_nmX (fun X431_219 => ?_)
  refine q_dup C dX12_init_432 rfl ?_
  refine q_bipush C (63 : Int32) dX12_init_433 rfl ?_
  refine q_bipush C (116 : Int32) dX12_init_435 rfl ?_
  refine q_chk (fun h223 => ?_)
  refine q_chk (fun h224 => ?_)
  refine p_bast C dX12_init_437 h223 h224 ?_
  refine q_nmX (fun X437_222 => ?_)
  refine q_dup C dX12_init_438 rfl ?_
  refine q_bipush C (64 : Int32) dX12_init_439 rfl ?_
  refine q_bipush C (32 : Int32) dX12_init_441 rfl ?_
  refine q_chk (fun h226 => ?_)
  refine q_chk (fun h227 => ?_)
  refine p_bast C dX12_init_443 h226 h227 ?_
  refine q_nmX (fun X443_225 => ?_)
  refine q_dup C dX12_init_444 rfl ?_
  refine q_bipush C (65 : Int32) dX12_init_445 rfl ?_
  refine q_bipush C (119 : Int32) dX12_init_447 rfl ?_
  refine q_chk (fun h229 => ?_)
  refine q_chk (fun h230 => ?_)
  refine p_bast C dX12_init_449 h229 h230 ?_
  refine q_nmX (fun X449_228 => ?_)
  refine q_dup C dX12_init_450 rfl ?_
  refine q_bipush C (66 : Int32) dX12_init_451 rfl ?_
  refine q_bipush C (111 : Int32) dX12_init_453 rfl ?_
  refine q_chk (fun h232 => ?_)
  refine q_chk (fun h233 => ?_)
  refine p_bast C dX12_init_455 h232 h233 ?_
  refine q_nmX (fun X455_231 => ?_)
  refine q_dup C dX12_init_456 rfl ?_
  refine q_bipush C (67 : Int32) dX12_init_457 rfl ?_
  refine q_bipush C (114 : Int32) dX12_init_459 rfl ?_
  exact gX12_init_L461 C hn r0 (114 : Int32) (67 : Int32) rs1 rs1 rs2 X455_231
theorem gX12_init_L371 {E : q_E} {X0 : Mm} (C : Cx E cX12_init RX12 1 none (q_rm 1 20 15 44279) X0) (hn : q_mn E = "<init>") (r0 : Nat) (s0 : Int32) (s1 : Int32) (rs2 : Nat) (rs3 : Nat) (rs4 : Nat) (X : Mm) : Sm E (q_fin E q_eV X0 15 44279) 7 41564 371 [(0, .ref (q_P E + r0))] [.int s0, .int s1, .ref (q_P E + rs2), .ref (q_P E + rs3), .ref (q_P E + rs4)] X (fX12_init_L371 r0 s0 s1 rs2 rs3 rs4 X) := by
  unfold fX12_init_L371
  refine q_chk (fun h190 => ?_)
  refine q_chk (fun h191 => ?_)
  refine p_bast C dX12_init_371 h190 h191 ?_
  refine q_nmX (fun X371_189 => ?_)
  refine q_dup C dX12_init_372 rfl ?_
  refine q_bipush C (53 : Int32) dX12_init_373 rfl ?_
  refine q_bipush C (105 : Int32) dX12_init_375 rfl ?_
  refine q_chk (fun h193 => ?_)
  refine q_chk (fun h194 => ?_)
  refine p_bast C dX12_init_377 h193 h194 ?_
  refine q_nmX (fun X377_192 => ?_)
  refine q_dup C dX12_init_378 rfl ?_
  refine q_bipush C (54 : Int32) dX12_init_379 rfl ?_
  refine q_bipush C (110 : Int32) dX12_init_381 rfl ?_
  refine q_chk (fun h196 => ?_)
  refine q_chk (fun h197 => ?_)
  refine p_bast C dX12_init_383 h196 h197 ?_
  refine q_nmX (fun X383_195 => ?_)
  refine q_dup C dX12_init_384 rfl ?_
  refine q_bipush C (55 : Int32) dX12_init_385 rfl ?_
  refine q_bipush C (116 : Int32) dX12_init_387 rfl ?_
  refine q_chk (fun h199 => ?_)
  refine q_chk (fun h200 => ?_)
  refine p_bast C dX12_init_389 h199 h200 ?_
  refine q_nmX (fun X389_198 => ?_)
  refine q_dup C dX12_init_390 rfl ?_
  refine q_bipush C (56 : Int32) dX12_init_391 rfl ?_
  refine q_bipush C (111 : Int32) dX12_init_393 rfl ?_
  refine q_chk (fun h202 => ?_)
  refine q_chk (fun h203 => ?_)
  refine p_bast C dX12_init_395 h202 h203 ?_
  refine q_nmX (fun X395_201 => ?_)
  refine q_dup C dX12_init_396 rfl ?_
  refine q_bipush C (57 : Int32) dX12_init_397 rfl ?_
  refine q_bipush C (32 : Int32) dX12_init_399 rfl ?_
  refine q_chk (fun h205 => ?_)
  refine q_chk (fun h206 => ?_)
  refine p_bast C dX12_init_401 h205 h206 ?_
  refine q_nmX (fun X401_204 => ?_)
  refine q_dup C dX12_init_402 rfl ?_
  refine q_bipush C (58 : Int32) dX12_init_403 rfl ?_
  refine q_bipush C (102 : Int32) dX12_init_405 rfl ?_
  refine q_chk (fun h208 => ?_)
  refine q_chk (fun h209 => ?_)
  refine p_bast C dX12_init_407 h208 h209 ?_
  refine q_nmX (fun X407_207 => ?_)
  refine q_dup C dX12_init_408 rfl ?_
  refine q_bipush C (59 : Int32) dX12_init_409 rfl ?_
  refine q_bipush C (111 : Int32) dX12_init_411 rfl ?_
  refine q_chk (fun h211 => ?_)
  refine q_chk (fun h212 => ?_)
  refine p_bast C dX12_init_413 h211 h212 ?_
  refine q_nmX (fun X413_210 => ?_)
  refine q_dup C dX12_init_414 rfl ?_
  exact gX12_init_L415 C hn r0 rs3 rs3 rs4 X413_210
theorem gX12_init_L325 {E : q_E} {X0 : Mm} (C : Cx E cX12_init RX12 1 none (q_rm 1 20 15 44279) X0) (hn : q_mn E = "<init>") (r0 : Nat) (rs0 : Nat) (rs1 : Nat) (rs2 : Nat) (X : Mm) : Sm E (q_fin E q_eV X0 15 44279) 7 41564 325 [(0, .ref (q_P E + r0))] [.ref (q_P E + rs0), .ref (q_P E + rs1), .ref (q_P E + rs2)] X (fX12_init_L325 r0 rs0 rs1 rs2 X) := by
  unfold fX12_init_L325
  refine q_bipush C (45 : Int32) dX12_init_325 rfl ?_
  refine q_bipush C (116 : Int32) dX12_init_327 rfl ?_
  refine q_chk (fun h169 => ?_)
  refine q_chk (fun h170 => ?_)
  refine p_bast C dX12_init_329 h169 h170 ?_
  refine q_nmX (fun X329_168 => ?_)
  refine q_dup C dX12_init_330 rfl ?_
  refine q_bipush C (46 : Int32) dX12_init_331 rfl ?_
  refine q_bipush C (115 : Int32) dX12_init_333 rfl ?_
  refine q_chk (fun h172 => ?_)
  refine q_chk (fun h173 => ?_)
  refine p_bast C dX12_init_335 h172 h173 ?_
  refine q_nmX (fun X335_171 => ?_)
  refine q_dup C dX12_init_336 rfl ?_
  refine q_bipush C (47 : Int32) dX12_init_337 rfl ?_
  refine q_bipush C (32 : Int32) dX12_init_339 rfl ?_
  refine q_chk (fun h175 => ?_)
  refine q_chk (fun h176 => ?_)
  refine p_bast C dX12_init_341 h175 h176 ?_
  refine q_nmX (fun X341_174 => ?_)
  refine q_dup C dX12_init_342 rfl ?_
  refine q_bipush C (48 : Int32) dX12_init_343 rfl ?_
  refine q_bipush C (116 : Int32) dX12_init_345 rfl ?_
  refine q_chk (fun h178 => ?_)
  refine q_chk (fun h179 => ?_)
  refine p_bast C dX12_init_347 h178 h179 ?_
  refine q_nmX (fun X347_177 => ?_)
  refine q_dup C dX12_init_348 rfl ?_
  refine q_bipush C (49 : Int32) dX12_init_349 rfl ?_
  refine q_bipush C (117 : Int32) dX12_init_351 rfl ?_
  refine q_chk (fun h181 => ?_)
  refine q_chk (fun h182 => ?_)
  refine p_bast C dX12_init_353 h181 h182 ?_
  refine q_nmX (fun X353_180 => ?_)
  refine q_dup C dX12_init_354 rfl ?_
  refine q_bipush C (50 : Int32) dX12_init_355 rfl ?_
  refine q_bipush C (114 : Int32) dX12_init_357 rfl ?_
  refine q_chk (fun h184 => ?_)
  refine q_chk (fun h185 => ?_)
  refine p_bast C dX12_init_359 h184 h185 ?_
  refine q_nmX (fun X359_183 => ?_)
  refine q_dup C dX12_init_360 rfl ?_
  refine q_bipush C (51 : Int32) dX12_init_361 rfl ?_
  refine q_bipush C (110 : Int32) dX12_init_363 rfl ?_
  refine q_chk (fun h187 => ?_)
  refine q_chk (fun h188 => ?_)
  refine p_bast C dX12_init_365 h187 h188 ?_
  refine q_nmX (fun X365_186 => ?_)
  refine q_dup C dX12_init_366 rfl ?_
  refine q_bipush C (52 : Int32) dX12_init_367 rfl ?_
  refine q_bipush C (32 : Int32) dX12_init_369 rfl ?_
  exact gX12_init_L371 C hn r0 (32 : Int32) (52 : Int32) rs1 rs1 rs2 X365_186
theorem gX12_init_L281 {E : q_E} {X0 : Mm} (C : Cx E cX12_init RX12 1 none (q_rm 1 20 15 44279) X0) (hn : q_mn E = "<init>") (r0 : Nat) (s0 : Int32) (s1 : Int32) (rs2 : Nat) (rs3 : Nat) (rs4 : Nat) (X : Mm) : Sm E (q_fin E q_eV X0 15 44279) 7 41564 281 [(0, .ref (q_P E + r0))] [.int s0, .int s1, .ref (q_P E + rs2), .ref (q_P E + rs3), .ref (q_P E + rs4)] X (fX12_init_L281 r0 s0 s1 rs2 rs3 rs4 X) := by
  unfold fX12_init_L281
  refine q_chk (fun h145 => ?_)
  refine q_chk (fun h146 => ?_)
  refine p_bast C dX12_init_281 h145 h146 ?_
  refine q_nmX (fun X281_144 => ?_)
  refine q_dup C dX12_init_282 rfl ?_
  refine q_bipush C (38 : Int32) dX12_init_283 rfl ?_
  refine q_bipush C (102 : Int32) dX12_init_285 rfl ?_
  refine q_chk (fun h148 => ?_)
  refine q_chk (fun h149 => ?_)
  refine p_bast C dX12_init_287 h148 h149 ?_
  refine q_nmX (fun X287_147 => ?_)
  refine q_dup C dX12_init_288 rfl ?_
  refine q_bipush C (39 : Int32) dX12_init_289 rfl ?_
  refine q_bipush C (116 : Int32) dX12_init_291 rfl ?_
  refine q_chk (fun h151 => ?_)
  refine q_chk (fun h152 => ?_)
  refine p_bast C dX12_init_293 h151 h152 ?_
  refine q_nmX (fun X293_150 => ?_)
  refine q_dup C dX12_init_294 rfl ?_
  refine q_bipush C (40 : Int32) dX12_init_295 rfl ?_
  refine q_bipush C (32 : Int32) dX12_init_297 rfl ?_
  refine q_chk (fun h154 => ?_)
  refine q_chk (fun h155 => ?_)
  refine p_bast C dX12_init_299 h154 h155 ?_
  refine q_nmX (fun X299_153 => ?_)
  refine q_dup C dX12_init_300 rfl ?_
  refine q_bipush C (41 : Int32) dX12_init_301 rfl ?_
  refine q_bipush C (114 : Int32) dX12_init_303 rfl ?_
  refine q_chk (fun h157 => ?_)
  refine q_chk (fun h158 => ?_)
  refine p_bast C dX12_init_305 h157 h158 ?_
  refine q_nmX (fun X305_156 => ?_)
  refine q_dup C dX12_init_306 rfl ?_
  refine q_bipush C (42 : Int32) dX12_init_307 rfl ?_
  refine q_bipush C (105 : Int32) dX12_init_309 rfl ?_
  refine q_chk (fun h160 => ?_)
  refine q_chk (fun h161 => ?_)
  refine p_bast C dX12_init_311 h160 h161 ?_
  refine q_nmX (fun X311_159 => ?_)
  refine q_dup C dX12_init_312 rfl ?_
  refine q_bipush C (43 : Int32) dX12_init_313 rfl ?_
  refine q_bipush C (103 : Int32) dX12_init_315 rfl ?_
  refine q_chk (fun h163 => ?_)
  refine q_chk (fun h164 => ?_)
  refine p_bast C dX12_init_317 h163 h164 ?_
  refine q_nmX (fun X317_162 => ?_)
  refine q_dup C dX12_init_318 rfl ?_
  refine q_bipush C (44 : Int32) dX12_init_319 rfl ?_
  refine q_bipush C (104 : Int32) dX12_init_321 rfl ?_
  refine q_chk (fun h166 => ?_)
  refine q_chk (fun h167 => ?_)
  refine p_bast C dX12_init_323 h166 h167 ?_
  refine q_nmX (fun X323_165 => ?_)
  refine q_dup C dX12_init_324 rfl ?_
  exact gX12_init_L325 C hn r0 rs3 rs3 rs4 X323_165
theorem gX12_init_L235 {E : q_E} {X0 : Mm} (C : Cx E cX12_init RX12 1 none (q_rm 1 20 15 44279) X0) (hn : q_mn E = "<init>") (r0 : Nat) (rs0 : Nat) (rs1 : Nat) (rs2 : Nat) (X : Mm) : Sm E (q_fin E q_eV X0 15 44279) 7 41564 235 [(0, .ref (q_P E + r0))] [.ref (q_P E + rs0), .ref (q_P E + rs1), .ref (q_P E + rs2)] X (fX12_init_L235 r0 rs0 rs1 rs2 X) := by
  unfold fX12_init_L235
  refine q_bipush C (30 : Int32) dX12_init_235 rfl ?_
  refine q_bipush C (109 : Int32) dX12_init_237 rfl ?_
  refine q_chk (fun h124 => ?_)
  refine q_chk (fun h125 => ?_)
  refine p_bast C dX12_init_239 h124 h125 ?_
  refine q_nmX (fun X239_123 => ?_)
  refine q_dup C dX12_init_240 rfl ?_
  refine q_bipush C (31 : Int32) dX12_init_241 rfl ?_
  refine q_bipush C (111 : Int32) dX12_init_243 rfl ?_
  refine q_chk (fun h127 => ?_)
  refine q_chk (fun h128 => ?_)
  refine p_bast C dX12_init_245 h127 h128 ?_
  refine q_nmX (fun X245_126 => ?_)
  refine q_dup C dX12_init_246 rfl ?_
  refine q_bipush C (32 : Int32) dX12_init_247 rfl ?_
  refine q_bipush C (110 : Int32) dX12_init_249 rfl ?_
  refine q_chk (fun h130 => ?_)
  refine q_chk (fun h131 => ?_)
  refine p_bast C dX12_init_251 h130 h131 ?_
  refine q_nmX (fun X251_129 => ?_)
  refine q_dup C dX12_init_252 rfl ?_
  refine q_bipush C (33 : Int32) dX12_init_253 rfl ?_
  refine q_bipush C (101 : Int32) dX12_init_255 rfl ?_
  refine q_chk (fun h133 => ?_)
  refine q_chk (fun h134 => ?_)
  refine p_bast C dX12_init_257 h133 h134 ?_
  refine q_nmX (fun X257_132 => ?_)
  refine q_dup C dX12_init_258 rfl ?_
  refine q_bipush C (34 : Int32) dX12_init_259 rfl ?_
  refine q_bipush C (121 : Int32) dX12_init_261 rfl ?_
  refine q_chk (fun h136 => ?_)
  refine q_chk (fun h137 => ?_)
  refine p_bast C dX12_init_263 h136 h137 ?_
  refine q_nmX (fun X263_135 => ?_)
  refine q_dup C dX12_init_264 rfl ?_
  refine q_bipush C (35 : Int32) dX12_init_265 rfl ?_
  refine q_bipush C (32 : Int32) dX12_init_267 rfl ?_
  refine q_chk (fun h139 => ?_)
  refine q_chk (fun h140 => ?_)
  refine p_bast C dX12_init_269 h139 h140 ?_
  refine q_nmX (fun X269_138 => ?_)
  refine q_dup C dX12_init_270 rfl ?_
  refine q_bipush C (36 : Int32) dX12_init_271 rfl ?_
  refine q_bipush C (103 : Int32) dX12_init_273 rfl ?_
  refine q_chk (fun h142 => ?_)
  refine q_chk (fun h143 => ?_)
  refine p_bast C dX12_init_275 h142 h143 ?_
  refine q_nmX (fun X275_141 => ?_)
  refine q_dup C dX12_init_276 rfl ?_
  refine q_bipush C (37 : Int32) dX12_init_277 rfl ?_
  refine q_bipush C (105 : Int32) dX12_init_279 rfl ?_
  exact gX12_init_L281 C hn r0 (105 : Int32) (37 : Int32) rs1 rs1 rs2 X275_141
theorem gX12_init_L191 {E : q_E} {X0 : Mm} (C : Cx E cX12_init RX12 1 none (q_rm 1 20 15 44279) X0) (hn : q_mn E = "<init>") (r0 : Nat) (s0 : Int32) (s1 : Int32) (rs2 : Nat) (rs3 : Nat) (rs4 : Nat) (X : Mm) : Sm E (q_fin E q_eV X0 15 44279) 7 41564 191 [(0, .ref (q_P E + r0))] [.int s0, .int s1, .ref (q_P E + rs2), .ref (q_P E + rs3), .ref (q_P E + rs4)] X (fX12_init_L191 r0 s0 s1 rs2 rs3 rs4 X) := by
  unfold fX12_init_L191
  refine q_chk (fun h100 => ?_)
  refine q_chk (fun h101 => ?_)
  refine p_bast C dX12_init_191 h100 h101 ?_
  refine q_nmX (fun X191_99 => ?_)
  refine q_dup C dX12_init_192 rfl ?_
  refine q_bipush C (23 : Int32) dX12_init_193 rfl ?_
  refine q_bipush C (119 : Int32) dX12_init_195 rfl ?_
  refine q_chk (fun h103 => ?_)
  refine q_chk (fun h104 => ?_)
  refine p_bast C dX12_init_197 h103 h104 ?_
  refine q_nmX (fun X197_102 => ?_)
  refine q_dup C dX12_init_198 rfl ?_
  refine q_bipush C (24 : Int32) dX12_init_199 rfl ?_
  refine q_bipush C (105 : Int32) dX12_init_201 rfl ?_
  refine q_chk (fun h106 => ?_)
  refine q_chk (fun h107 => ?_)
  refine p_bast C dX12_init_203 h106 h107 ?_
  refine q_nmX (fun X203_105 => ?_)
  refine q_dup C dX12_init_204 rfl ?_
  refine q_bipush C (25 : Int32) dX12_init_205 rfl ?_
  refine q_bipush C (116 : Int32) dX12_init_207 rfl ?_
  refine q_chk (fun h109 => ?_)
  refine q_chk (fun h110 => ?_)
  refine p_bast C dX12_init_209 h109 h110 ?_
  refine q_nmX (fun X209_108 => ?_)
  refine q_dup C dX12_init_210 rfl ?_
  refine q_bipush C (26 : Int32) dX12_init_211 rfl ?_
  refine q_bipush C (104 : Int32) dX12_init_213 rfl ?_
  refine q_chk (fun h112 => ?_)
  refine q_chk (fun h113 => ?_)
  refine p_bast C dX12_init_215 h112 h113 ?_
  refine q_nmX (fun X215_111 => ?_)
  refine q_dup C dX12_init_216 rfl ?_
  refine q_bipush C (27 : Int32) dX12_init_217 rfl ?_
  refine q_bipush C (105 : Int32) dX12_init_219 rfl ?_
  refine q_chk (fun h115 => ?_)
  refine q_chk (fun h116 => ?_)
  refine p_bast C dX12_init_221 h115 h116 ?_
  refine q_nmX (fun X221_114 => ?_)
  refine q_dup C dX12_init_222 rfl ?_
  refine q_bipush C (28 : Int32) dX12_init_223 rfl ?_
  refine q_bipush C (110 : Int32) dX12_init_225 rfl ?_
  refine q_chk (fun h118 => ?_)
  refine q_chk (fun h119 => ?_)
  refine p_bast C dX12_init_227 h118 h119 ?_
  refine q_nmX (fun X227_117 => ?_)
  refine q_dup C dX12_init_228 rfl ?_
  refine q_bipush C (29 : Int32) dX12_init_229 rfl ?_
  refine q_bipush C (32 : Int32) dX12_init_231 rfl ?_
  refine q_chk (fun h121 => ?_)
  refine q_chk (fun h122 => ?_)
  refine p_bast C dX12_init_233 h121 h122 ?_
  refine q_nmX (fun X233_120 => ?_)
  refine q_dup C dX12_init_234 rfl ?_
  exact gX12_init_L235 C hn r0 rs3 rs3 rs4 X233_120
theorem gX12_init_L145 {E : q_E} {X0 : Mm} (C : Cx E cX12_init RX12 1 none (q_rm 1 20 15 44279) X0) (hn : q_mn E = "<init>") (r0 : Nat) (rs0 : Nat) (rs1 : Nat) (rs2 : Nat) (X : Mm) : Sm E (q_fin E q_eV X0 15 44279) 7 41564 145 [(0, .ref (q_P E + r0))] [.ref (q_P E + rs0), .ref (q_P E + rs1), .ref (q_P E + rs2)] X (fX12_init_L145 r0 rs0 rs1 rs2 X) := by
  unfold fX12_init_L145
  refine q_bipush C (15 : Int32) dX12_init_145 rfl ?_
  refine q_bipush C (115 : Int32) dX12_init_147 rfl ?_
  refine q_chk (fun h79 => ?_)
  refine q_chk (fun h80 => ?_)
  refine p_bast C dX12_init_149 h79 h80 ?_
  refine q_nmX (fun X149_78 => ?_)
  refine q_dup C dX12_init_150 rfl ?_
  refine q_bipush C (16 : Int32) dX12_init_151 rfl ?_
  refine q_bipush C (32 : Int32) dX12_init_153 rfl ?_
  refine q_chk (fun h82 => ?_)
  refine q_chk (fun h83 => ?_)
  refine p_bast C dX12_init_155 h82 h83 ?_
  refine q_nmX (fun X155_81 => ?_)
  refine q_dup C dX12_init_156 rfl ?_
  refine q_bipush C (17 : Int32) dX12_init_157 rfl ?_
  refine q_bipush C (116 : Int32) dX12_init_159 rfl ?_
  refine q_chk (fun h85 => ?_)
  refine q_chk (fun h86 => ?_)
  refine p_bast C dX12_init_161 h85 h86 ?_
  refine q_nmX (fun X161_84 => ?_)
  refine q_dup C dX12_init_162 rfl ?_
  refine q_bipush C (18 : Int32) dX12_init_163 rfl ?_
  refine q_bipush C (114 : Int32) dX12_init_165 rfl ?_
  refine q_chk (fun h88 => ?_)
  refine q_chk (fun h89 => ?_)
  refine p_bast C dX12_init_167 h88 h89 ?_
  refine q_nmX (fun X167_87 => ?_)
  refine q_dup C dX12_init_168 rfl ?_
  refine q_bipush C (19 : Int32) dX12_init_169 rfl ?_
  refine q_bipush C (97 : Int32) dX12_init_171 rfl ?_
  refine q_chk (fun h91 => ?_)
  refine q_chk (fun h92 => ?_)
  refine p_bast C dX12_init_173 h91 h92 ?_
  refine q_nmX (fun X173_90 => ?_)
  refine q_dup C dX12_init_174 rfl ?_
  refine q_bipush C (20 : Int32) dX12_init_175 rfl ?_
  refine q_bipush C (100 : Int32) dX12_init_177 rfl ?_
  refine q_chk (fun h94 => ?_)
  refine q_chk (fun h95 => ?_)
  refine p_bast C dX12_init_179 h94 h95 ?_
  refine q_nmX (fun X179_93 => ?_)
  refine q_dup C dX12_init_180 rfl ?_
  refine q_bipush C (21 : Int32) dX12_init_181 rfl ?_
  refine q_bipush C (101 : Int32) dX12_init_183 rfl ?_
  refine q_chk (fun h97 => ?_)
  refine q_chk (fun h98 => ?_)
  refine p_bast C dX12_init_185 h97 h98 ?_
  refine q_nmX (fun X185_96 => ?_)
  refine q_dup C dX12_init_186 rfl ?_
  refine q_bipush C (22 : Int32) dX12_init_187 rfl ?_
  refine q_bipush C (32 : Int32) dX12_init_189 rfl ?_
  exact gX12_init_L191 C hn r0 (32 : Int32) (22 : Int32) rs1 rs1 rs2 X185_96
theorem gX12_init_L101 {E : q_E} {X0 : Mm} (C : Cx E cX12_init RX12 1 none (q_rm 1 20 15 44279) X0) (hn : q_mn E = "<init>") (r0 : Nat) (s0 : Int32) (s1 : Int32) (rs2 : Nat) (rs3 : Nat) (rs4 : Nat) (X : Mm) : Sm E (q_fin E q_eV X0 15 44279) 7 41564 101 [(0, .ref (q_P E + r0))] [.int s0, .int s1, .ref (q_P E + rs2), .ref (q_P E + rs3), .ref (q_P E + rs4)] X (fX12_init_L101 r0 s0 s1 rs2 rs3 rs4 X) := by
  unfold fX12_init_L101
  refine q_chk (fun h55 => ?_)
  refine q_chk (fun h56 => ?_)
  refine p_bast C dX12_init_101 h55 h56 ?_
  refine q_nmX (fun X101_54 => ?_)
  refine q_dup C dX12_init_102 rfl ?_
  refine q_bipush C (8 : Int32) dX12_init_103 rfl ?_
  refine q_bipush C (97 : Int32) dX12_init_105 rfl ?_
  refine q_chk (fun h58 => ?_)
  refine q_chk (fun h59 => ?_)
  refine p_bast C dX12_init_107 h58 h59 ?_
  refine q_nmX (fun X107_57 => ?_)
  refine q_dup C dX12_init_108 rfl ?_
  refine q_bipush C (9 : Int32) dX12_init_109 rfl ?_
  refine q_bipush C (112 : Int32) dX12_init_111 rfl ?_
  refine q_chk (fun h61 => ?_)
  refine q_chk (fun h62 => ?_)
  refine p_bast C dX12_init_113 h61 h62 ?_
  refine q_nmX (fun X113_60 => ?_)
  refine q_dup C dX12_init_114 rfl ?_
  refine q_bipush C (10 : Int32) dX12_init_115 rfl ?_
  refine q_bipush C (101 : Int32) dX12_init_117 rfl ?_
  refine q_chk (fun h64 => ?_)
  refine q_chk (fun h65 => ?_)
  refine p_bast C dX12_init_119 h64 h65 ?_
  refine q_nmX (fun X119_63 => ?_)
  refine q_dup C dX12_init_120 rfl ?_
  refine q_bipush C (11 : Int32) dX12_init_121 rfl ?_
  refine q_bipush C (114 : Int32) dX12_init_123 rfl ?_
  refine q_chk (fun h67 => ?_)
  refine q_chk (fun h68 => ?_)
  refine p_bast C dX12_init_125 h67 h68 ?_
  refine q_nmX (fun X125_66 => ?_)
  refine q_dup C dX12_init_126 rfl ?_
  refine q_bipush C (12 : Int32) dX12_init_127 rfl ?_
  refine q_bipush C (32 : Int32) dX12_init_129 rfl ?_
  refine q_chk (fun h70 => ?_)
  refine q_chk (fun h71 => ?_)
  refine p_bast C dX12_init_131 h70 h71 ?_
  refine q_nmX (fun X131_69 => ?_)
  refine q_dup C dX12_init_132 rfl ?_
  refine q_bipush C (13 : Int32) dX12_init_133 rfl ?_
  refine q_bipush C (104 : Int32) dX12_init_135 rfl ?_
  refine q_chk (fun h73 => ?_)
  refine q_chk (fun h74 => ?_)
  refine p_bast C dX12_init_137 h73 h74 ?_
  refine q_nmX (fun X137_72 => ?_)
  refine q_dup C dX12_init_138 rfl ?_
  refine q_bipush C (14 : Int32) dX12_init_139 rfl ?_
  refine q_bipush C (97 : Int32) dX12_init_141 rfl ?_
  refine q_chk (fun h76 => ?_)
  refine q_chk (fun h77 => ?_)
  refine p_bast C dX12_init_143 h76 h77 ?_
  refine q_nmX (fun X143_75 => ?_)
  refine q_dup C dX12_init_144 rfl ?_
  exact gX12_init_L145 C hn r0 rs3 rs3 rs4 X143_75
theorem gX12_init_L61 {E : q_E} {X0 : Mm} (C : Cx E cX12_init RX12 1 none (q_rm 1 20 15 44279) X0) (hn : q_mn E = "<init>") (r0 : Nat) (rs0 : Nat) (rs1 : Nat) (rs2 : Nat) (X : Mm) : Sm E (q_fin E q_eV X0 15 44279) 7 41564 61 [(0, .ref (q_P E + r0))] [.ref (q_P E + rs0), .ref (q_P E + rs1), .ref (q_P E + rs2)] X (fX12_init_L61 r0 rs0 rs1 rs2 X) := by
  unfold fX12_init_L61
  refine q_iconst C (0 : Int32) dX12_init_61 rfl ?_
  refine q_bipush C (104 : Int32) dX12_init_62 rfl ?_
  refine q_chk (fun h34 => ?_)
  refine q_chk (fun h35 => ?_)
  refine p_bast C dX12_init_64 h34 h35 ?_
  refine q_nmX (fun X64_33 => ?_)
  refine q_dup C dX12_init_65 rfl ?_
  refine q_iconst C (1 : Int32) dX12_init_66 rfl ?_
  refine q_bipush C (111 : Int32) dX12_init_67 rfl ?_
  refine q_chk (fun h37 => ?_)
  refine q_chk (fun h38 => ?_)
  refine p_bast C dX12_init_69 h37 h38 ?_
  refine q_nmX (fun X69_36 => ?_)
  refine q_dup C dX12_init_70 rfl ?_
  refine q_iconst C (2 : Int32) dX12_init_71 rfl ?_
  refine q_bipush C (108 : Int32) dX12_init_72 rfl ?_
  refine q_chk (fun h40 => ?_)
  refine q_chk (fun h41 => ?_)
  refine p_bast C dX12_init_74 h40 h41 ?_
  refine q_nmX (fun X74_39 => ?_)
  refine q_dup C dX12_init_75 rfl ?_
  refine q_iconst C (3 : Int32) dX12_init_76 rfl ?_
  refine q_bipush C (100 : Int32) dX12_init_77 rfl ?_
  refine q_chk (fun h43 => ?_)
  refine q_chk (fun h44 => ?_)
  refine p_bast C dX12_init_79 h43 h44 ?_
  refine q_nmX (fun X79_42 => ?_)
  refine q_dup C dX12_init_80 rfl ?_
  refine q_iconst C (4 : Int32) dX12_init_81 rfl ?_
  refine q_bipush C (101 : Int32) dX12_init_82 rfl ?_
  refine q_chk (fun h46 => ?_)
  refine q_chk (fun h47 => ?_)
  refine p_bast C dX12_init_84 h46 h47 ?_
  refine q_nmX (fun X84_45 => ?_)
  refine q_dup C dX12_init_85 rfl ?_
  refine q_iconst C (5 : Int32) dX12_init_86 rfl ?_
  refine q_bipush C (114 : Int32) dX12_init_87 rfl ?_
  refine q_chk (fun h49 => ?_)
  refine q_chk (fun h50 => ?_)
  refine p_bast C dX12_init_89 h49 h50 ?_
  refine q_nmX (fun X89_48 => ?_)
  refine q_dup C dX12_init_90 rfl ?_
  refine q_bipush C (6 : Int32) dX12_init_91 rfl ?_
  refine q_bipush C (32 : Int32) dX12_init_93 rfl ?_
  refine q_chk (fun h52 => ?_)
  refine q_chk (fun h53 => ?_)
  refine p_bast C dX12_init_95 h52 h53 ?_
  refine q_nmX (fun X95_51 => ?_)
  refine q_dup C dX12_init_96 rfl ?_
  refine q_bipush C (7 : Int32) dX12_init_97 rfl ?_
  refine q_bipush C (112 : Int32) dX12_init_99 rfl ?_
  exact gX12_init_L101 C hn r0 (112 : Int32) (7 : Int32) rs1 rs1 rs2 X95_51
theorem sX12_init (r0 : Nat) : q_Ct yX12_init cX12_init 1 none 1 20 15 44279 q_eV (fun P => [.ref (P + r0)]) (fX12_init r0) := by
  refine q_meth (by decide +kernel) (fun P => Nat.le_of_ble_eq_true rfl) (fun E X C hn => ?_)
  show Sm E (q_fin E q_eV X 15 44279) 0 0 0 [(0, .ref (q_P E + r0))] [] X _
  unfold fX12_init
  refine q_aload_n C 0 dX12_init_0 rfl rfl ?_
  refine q_objInit C fwX12_3_oi fw_oi2 fw_oi3 ⟨Nat.le_of_ble_eq_true rfl, Nat.le_of_ble_eq_true rfl⟩ dX12_init_1 ?_
  refine q_aload_n C 0 dX12_init_4 rfl rfl ?_
  refine q_sipush C (4604 : Int32) dX12_init_5 rfl ?_
  refine q_newa (atype := .long) (ty := .long) (tg := 15) (N := 4604) C rfl falong (Or.inr (Or.inl ⟨rfl, rfl⟩)) (by decide) rfl (Nat.le_of_ble_eq_true rfl) ⟨Nat.le_of_ble_eq_true rfl, Nat.le_of_ble_eq_true rfl⟩ dX12_init_8 ?_
  refine q_nmr (fun rN2 => ?_)
  refine q_nmX (fun X8_1 => ?_)
  refine q_chk (fun h4 => ?_)
  refine q_chk (fun h5 => ?_)
  refine p_putF C fpX12_11 hn (fun _ => rfl) (fun _ => rfl) rfl dX12_init_10 h4 h5 ?_
  refine q_nmX (fun X10_3 => ?_)
  refine q_aload_n C 0 dX12_init_13 rfl rfl ?_
  refine q_sipush C (4604 : Int32) dX12_init_14 rfl ?_
  refine q_newa (atype := .long) (ty := .long) (tg := 15) (N := 4604) C rfl falong (Or.inr (Or.inl ⟨rfl, rfl⟩)) (by decide) rfl (Nat.le_of_ble_eq_true rfl) ⟨Nat.le_of_ble_eq_true rfl, Nat.le_of_ble_eq_true rfl⟩ dX12_init_17 ?_
  refine q_nmr (fun rN7 => ?_)
  refine q_nmX (fun X17_6 => ?_)
  refine q_chk (fun h9 => ?_)
  refine q_chk (fun h10 => ?_)
  refine p_putF C fpX12_15 hn (fun _ => rfl) (fun _ => rfl) rfl dX12_init_19 h9 h10 ?_
  refine q_nmX (fun X19_8 => ?_)
  refine q_aload_n C 0 dX12_init_22 rfl rfl ?_
  refine q_sipush C (4604 : Int32) dX12_init_23 rfl ?_
  refine q_newa (atype := .long) (ty := .long) (tg := 15) (N := 4604) C rfl falong (Or.inr (Or.inl ⟨rfl, rfl⟩)) (by decide) rfl (Nat.le_of_ble_eq_true rfl) ⟨Nat.le_of_ble_eq_true rfl, Nat.le_of_ble_eq_true rfl⟩ dX12_init_26 ?_
  refine q_nmr (fun rN12 => ?_)
  refine q_nmX (fun X26_11 => ?_)
  refine q_chk (fun h14 => ?_)
  refine q_chk (fun h15 => ?_)
  refine p_putF C fpX12_18 hn (fun _ => rfl) (fun _ => rfl) rfl dX12_init_28 h14 h15 ?_
  refine q_nmX (fun X28_13 => ?_)
  refine q_aload_n C 0 dX12_init_31 rfl rfl ?_
  refine q_sipush C (27624 : Int32) dX12_init_32 rfl ?_
  refine q_newa (atype := .long) (ty := .long) (tg := 15) (N := 27624) C rfl falong (Or.inr (Or.inl ⟨rfl, rfl⟩)) (by decide) rfl (Nat.le_of_ble_eq_true rfl) ⟨Nat.le_of_ble_eq_true rfl, Nat.le_of_ble_eq_true rfl⟩ dX12_init_35 ?_
  refine q_nmr (fun rN17 => ?_)
  refine q_nmX (fun X35_16 => ?_)
  refine q_chk (fun h19 => ?_)
  refine q_chk (fun h20 => ?_)
  refine p_putF C fpX12_21 hn (fun _ => rfl) (fun _ => rfl) rfl dX12_init_37 h19 h20 ?_
  refine q_nmX (fun X37_18 => ?_)
  refine q_aload_n C 0 dX12_init_40 rfl rfl ?_
  refine q_bipush C (10 : Int32) dX12_init_41 rfl ?_
  refine q_newa (atype := .long) (ty := .long) (tg := 15) (N := 10) C rfl falong (Or.inr (Or.inl ⟨rfl, rfl⟩)) (by decide) rfl (Nat.le_of_ble_eq_true rfl) ⟨Nat.le_of_ble_eq_true rfl, Nat.le_of_ble_eq_true rfl⟩ dX12_init_43 ?_
  refine q_nmr (fun rN22 => ?_)
  refine q_nmX (fun X43_21 => ?_)
  refine q_chk (fun h24 => ?_)
  refine q_chk (fun h25 => ?_)
  refine p_putF C fpX12_24 hn (fun _ => rfl) (fun _ => rfl) rfl dX12_init_45 h24 h25 ?_
  refine q_nmX (fun X45_23 => ?_)
  refine q_aload_n C 0 dX12_init_48 rfl rfl ?_
  refine q_iconst C (5 : Int32) dX12_init_49 rfl ?_
  refine q_newa (atype := .long) (ty := .long) (tg := 15) (N := 5) C rfl falong (Or.inr (Or.inl ⟨rfl, rfl⟩)) (by decide) rfl (Nat.le_of_ble_eq_true rfl) ⟨Nat.le_of_ble_eq_true rfl, Nat.le_of_ble_eq_true rfl⟩ dX12_init_50 ?_
  refine q_nmr (fun rN27 => ?_)
  refine q_nmX (fun X50_26 => ?_)
  refine q_chk (fun h29 => ?_)
  refine q_chk (fun h30 => ?_)
  refine p_putF C fpX12_27 hn (fun _ => rfl) (fun _ => rfl) rfl dX12_init_52 h29 h30 ?_
  refine q_nmX (fun X52_28 => ?_)
  refine q_aload_n C 0 dX12_init_55 rfl rfl ?_
  refine q_bipush C (113 : Int32) dX12_init_56 rfl ?_
  refine q_newa (atype := .byte) (ty := .byte) (tg := 16) (N := 113) C rfl fabyte (Or.inr (Or.inr ⟨rfl, rfl⟩)) (by decide) rfl (Nat.le_of_ble_eq_true rfl) ⟨Nat.le_of_ble_eq_true rfl, Nat.le_of_ble_eq_true rfl⟩ dX12_init_58 ?_
  refine q_nmr (fun rN32 => ?_)
  refine q_nmX (fun X58_31 => ?_)
  refine q_dup C dX12_init_60 rfl ?_
  exact gX12_init_L61 C hn r0 rN32 rN32 r0 X58_31
/-! RecordClaimsModel.isIn(JJJ)Z -/
abbrev cX12_isIn : ByteArray := prog_14_method_3_code
def yX12_isIn : MethodName := ⟨RX12, "isIn", "(JJJ)Z"⟩
theorem dX12_isIn_0 : decode cX12_isIn 0 = .ok (.lload_n 1, 1) := by decide +kernel
theorem dX12_isIn_1 : decode cX12_isIn 1 = .ok (.lload_n 3, 1) := by decide +kernel
theorem dX12_isIn_2 : decode cX12_isIn 2 = .ok (.lcmp, 1) := by decide +kernel
theorem dX12_isIn_3 : decode cX12_isIn 3 = .ok (.ifCond .lt 14, 3) := by decide +kernel
theorem dX12_isIn_6 : decode cX12_isIn 6 = .ok (.lload_n 1, 1) := by decide +kernel
theorem dX12_isIn_7 : decode cX12_isIn 7 = .ok (.lload 5, 2) := by decide +kernel
theorem dX12_isIn_9 : decode cX12_isIn 9 = .ok (.lcmp, 1) := by decide +kernel
theorem dX12_isIn_10 : decode cX12_isIn 10 = .ok (.ifCond .gt 7, 3) := by decide +kernel
theorem dX12_isIn_13 : decode cX12_isIn 13 = .ok (.iconst 1, 1) := by decide +kernel
theorem dX12_isIn_14 : decode cX12_isIn 14 = .ok (.goto 4, 3) := by decide +kernel
theorem dX12_isIn_17 : decode cX12_isIn 17 = .ok (.iconst 0, 1) := by decide +kernel
theorem dX12_isIn_18 : decode cX12_isIn 18 = .ok (.ireturn, 1) := by decide +kernel
def fX12_isIn_L17 (X : Mm) : Option (Int32 × Mm) :=
some (0, X)
def fX12_isIn (r0 : Nat) (v1 : Int64) (v3 : Int64) (v5 : Int64) (X : Mm) : Option (Int32 × Mm) :=
if (lg_cmp v1 v3) < 0 then (
fX12_isIn_L17 X
) else (
if 0 < (lg_cmp v1 v5) then (
fX12_isIn_L17 X
) else (
some (1, X)
)
)
theorem gX12_isIn_L17 {E : q_E} {X0 : Mm} (C : Cx E cX12_isIn RX12 7 (some .boolean) (q_rm 0 0 0 0) X0) (X : Mm) : Sm E (q_fin E q_eI X0 0 0) 0 0 17 [] [] X (fX12_isIn_L17  X) := by
  unfold fX12_isIn_L17
  refine q_iconst C (0 : Int32) dX12_isIn_17 rfl ?_
  exact q_zret0 C dX12_isIn_18
theorem sX12_isIn (r0 : Nat) (v1 : Int64) (v3 : Int64) (v5 : Int64) : q_Ct yX12_isIn cX12_isIn 7 (some .boolean) 0 0 0 0 q_eI (fun P => [.ref (P + r0), .long v1, .long v3, .long v5]) (fX12_isIn r0 v1 v3 v5) := by
  refine q_meth (by decide +kernel) (fun P => Nat.le_of_ble_eq_true rfl) (fun E X C hn => ?_)
  show Sm E (q_fin E q_eI X 0 0) 0 0 0 [(0, .ref (q_P E + r0)), (1, .long v1), (3, .long v3), (5, .long v5)] [] X _
  unfold fX12_isIn
  refine q_lload_n C 1 dX12_isIn_0 rfl rfl ?_
  refine q_lload_n C 2 dX12_isIn_1 rfl rfl ?_
  refine q_lcmp C dX12_isIn_2 ?_
  refine q_if_lt C 17 dX12_isIn_3 (by decide) (fun _ => ?_) (fun _ => ?_)
  · refine q_sub C [] [] rfl ?_
    exact gX12_isIn_L17 C X
  · refine q_lload_n C 1 dX12_isIn_6 rfl rfl ?_
    refine q_lload C 3 dX12_isIn_7 rfl ?_
    refine q_lcmp C dX12_isIn_9 ?_
    refine q_if_gt C 17 dX12_isIn_10 (by decide) (fun _ => ?_) (fun _ => ?_)
    · refine q_sub C [] [] rfl ?_
      exact gX12_isIn_L17 C X
    · refine q_iconst C (1 : Int32) dX12_isIn_13 rfl ?_
      refine q_goto C 18 dX12_isIn_14 (by decide) ?_
      exact q_zret1 C dX12_isIn_18
/-! RecordClaimsModel.at(II)I -/
abbrev cX12_at : ByteArray := prog_14_method_4_code
def yX12_at : MethodName := ⟨RX12, "at", "(II)I"⟩
theorem dX12_at_0 : decode cX12_at 0 = .ok (.bipush 64, 2) := by decide +kernel
theorem dX12_at_2 : decode cX12_at 2 = .ok (.bipush 9, 2) := by decide +kernel
theorem dX12_at_4 : decode cX12_at 4 = .ok (.iload_n 1, 1) := by decide +kernel
theorem dX12_at_5 : decode cX12_at 5 = .ok (.imul, 1) := by decide +kernel
theorem dX12_at_6 : decode cX12_at 6 = .ok (.iadd, 1) := by decide +kernel
theorem dX12_at_7 : decode cX12_at 7 = .ok (.iload_n 2, 1) := by decide +kernel
theorem dX12_at_8 : decode cX12_at 8 = .ok (.iadd, 1) := by decide +kernel
theorem dX12_at_9 : decode cX12_at 9 = .ok (.ireturn, 1) := by decide +kernel
def fX12_at (r0 : Nat) (v1 : Int32) (v2 : Int32) (X : Mm) : Option (Int32 × Mm) :=
some ((((64 : Int32) + ((9 : Int32) * v1)) + v2), X)
theorem sX12_at (r0 : Nat) (v1 : Int32) (v2 : Int32) : q_Ct yX12_at cX12_at 3 (some .int) 0 0 0 0 q_eI (fun P => [.ref (P + r0), .int v1, .int v2]) (fX12_at r0 v1 v2) := by
  refine q_meth (by decide +kernel) (fun P => Nat.le_of_ble_eq_true rfl) (fun E X C hn => ?_)
  show Sm E (q_fin E q_eI X 0 0) 0 0 0 [(0, .ref (q_P E + r0)), (1, .int v1), (2, .int v2)] [] X _
  unfold fX12_at
  refine q_bipush C (64 : Int32) dX12_at_0 rfl ?_
  refine q_bipush C (9 : Int32) dX12_at_2 rfl ?_
  refine q_iload_n C 1 dX12_at_4 rfl rfl ?_
  refine q_imul C dX12_at_5 ?_
  refine q_iadd C dX12_at_6 ?_
  refine q_iload_n C 2 dX12_at_7 rfl rfl ?_
  refine q_iadd C dX12_at_8 ?_
  exact q_iret C dX12_at_9
/-! RecordClaimsModel.of(II)I -/
abbrev cX12_of : ByteArray := prog_14_method_5_code
def yX12_of : MethodName := ⟨RX12, "of", "(II)I"⟩
theorem dX12_of_0 : decode cX12_of 0 = .ok (.sipush 604, 3) := by decide +kernel
theorem dX12_of_3 : decode cX12_of 3 = .ok (.sipush 500, 3) := by decide +kernel
theorem dX12_of_6 : decode cX12_of 6 = .ok (.iload_n 1, 1) := by decide +kernel
theorem dX12_of_7 : decode cX12_of 7 = .ok (.imul, 1) := by decide +kernel
theorem dX12_of_8 : decode cX12_of 8 = .ok (.iadd, 1) := by decide +kernel
theorem dX12_of_9 : decode cX12_of 9 = .ok (.iload_n 2, 1) := by decide +kernel
theorem dX12_of_10 : decode cX12_of 10 = .ok (.iadd, 1) := by decide +kernel
theorem dX12_of_11 : decode cX12_of 11 = .ok (.ireturn, 1) := by decide +kernel
def fX12_of (r0 : Nat) (v1 : Int32) (v2 : Int32) (X : Mm) : Option (Int32 × Mm) :=
some ((((604 : Int32) + ((500 : Int32) * v1)) + v2), X)
theorem sX12_of (r0 : Nat) (v1 : Int32) (v2 : Int32) : q_Ct yX12_of cX12_of 3 (some .int) 0 0 0 0 q_eI (fun P => [.ref (P + r0), .int v1, .int v2]) (fX12_of r0 v1 v2) := by
  refine q_meth (by decide +kernel) (fun P => Nat.le_of_ble_eq_true rfl) (fun E X C hn => ?_)
  show Sm E (q_fin E q_eI X 0 0) 0 0 0 [(0, .ref (q_P E + r0)), (1, .int v1), (2, .int v2)] [] X _
  unfold fX12_of
  refine q_sipush C (604 : Int32) dX12_of_0 rfl ?_
  refine q_sipush C (500 : Int32) dX12_of_3 rfl ?_
  refine q_iload_n C 1 dX12_of_6 rfl rfl ?_
  refine q_imul C dX12_of_7 ?_
  refine q_iadd C dX12_of_8 ?_
  refine q_iload_n C 2 dX12_of_9 rfl rfl ?_
  refine q_iadd C dX12_of_10 ?_
  exact q_iret C dX12_of_11
/-! RecordClaimsModel.ofHolder(III)I -/
abbrev cX12_ofHolder : ByteArray := prog_14_method_6_code
def yX12_ofHolder : MethodName := ⟨RX12, "ofHolder", "(III)I"⟩
theorem dX12_ofHolder_0 : decode cX12_ofHolder 0 = .ok (.aload_n 0, 1) := by decide +kernel
theorem dX12_ofHolder_1 : decode cX12_ofHolder 1 = .ok (.iload_n 1, 1) := by decide +kernel
theorem dX12_ofHolder_2 : decode cX12_ofHolder 2 = .ok (.bipush 20, 2) := by decide +kernel
theorem dX12_ofHolder_4 : decode cX12_ofHolder 4 = .ok (.bipush 6, 2) := by decide +kernel
theorem dX12_ofHolder_6 : decode cX12_ofHolder 6 = .ok (.iload_n 2, 1) := by decide +kernel
theorem dX12_ofHolder_7 : decode cX12_ofHolder 7 = .ok (.imul, 1) := by decide +kernel
theorem dX12_ofHolder_8 : decode cX12_ofHolder 8 = .ok (.iadd, 1) := by decide +kernel
theorem dX12_ofHolder_9 : decode cX12_ofHolder 9 = .ok (.iload_n 3, 1) := by decide +kernel
theorem dX12_ofHolder_10 : decode cX12_ofHolder 10 = .ok (.iadd, 1) := by decide +kernel
theorem dX12_ofHolder_11 : decode cX12_ofHolder 11 = .ok (.invokevirtual 66, 3) := by decide +kernel
theorem dX12_ofHolder_14 : decode cX12_ofHolder 14 = .ok (.ireturn, 1) := by decide +kernel
theorem fcX12_66 : q_LV RX12 66 yX12_of cX12_of 3 (some .int) 2 12 := ⟨q_tb 1540 (by decide +kernel) rfl, q_tb 1542 (by decide +kernel) rfl, q_tbs (q := (yX12_of, 35)) 89 (by decide +kernel) rfl, q_tb 13 (by decide +kernel) rfl, q_tb 1543 (by decide +kernel) rfl, ⟨by decide +kernel, by decide +kernel, by decide +kernel⟩, TX12, 35, rfl⟩
def fX12_ofHolder (r0 : Nat) (v1 : Int32) (v2 : Int32) (v3 : Int32) (X : Mm) : Option (Int32 × Mm) :=
if mT X r0 = 12 then
bd (fX12_of r0 v1 ((((20 : Int32) + ((6 : Int32) * v2)) + v3)) X) fun w1 X11_2 =>
some (w1, X11_2)
else none
theorem sX12_ofHolder (r0 : Nat) (v1 : Int32) (v2 : Int32) (v3 : Int32) : q_Ct yX12_ofHolder cX12_ofHolder 4 (some .int) 1 22 0 0 q_eI (fun P => [.ref (P + r0), .int v1, .int v2, .int v3]) (fX12_ofHolder r0 v1 v2 v3) := by
  refine q_meth (by decide +kernel) (fun P => Nat.le_of_ble_eq_true rfl) (fun E X C hn => ?_)
  show Sm E (q_fin E q_eI X 0 0) 0 0 0 [(0, .ref (q_P E + r0)), (1, .int v1), (2, .int v2), (3, .int v3)] [] X _
  unfold fX12_ofHolder
  refine q_aload_n C 0 dX12_ofHolder_0 rfl rfl ?_
  refine q_iload_n C 1 dX12_ofHolder_1 rfl rfl ?_
  refine q_bipush C (20 : Int32) dX12_ofHolder_2 rfl ?_
  refine q_bipush C (6 : Int32) dX12_ofHolder_4 rfl ?_
  refine q_iload_n C 2 dX12_ofHolder_6 rfl rfl ?_
  refine q_imul C dX12_ofHolder_7 ?_
  refine q_iadd C dX12_ofHolder_8 ?_
  refine q_iload_n C 3 dX12_ofHolder_9 rfl rfl ?_
  refine q_iadd C dX12_ofHolder_10 ?_
  refine q_chk (fun h3 => ?_)
  refine q_cVI (As := (fun P => [.int v1, .int (((20 : Int32) + ((6 : Int32) * v2)) + v3)])) C [] (sX12_of r0 v1 ((((20 : Int32) + ((6 : Int32) * v2)) + v3))) fcX12_66 rfl (fun _ => rfl) ⟨Nat.le_of_ble_eq_true rfl, Nat.le_of_ble_eq_true rfl⟩ ⟨Nat.le_of_ble_eq_true rfl, Nat.le_of_ble_eq_true rfl⟩ (Nat.le_of_ble_eq_true rfl) dX12_ofHolder_11 h3 (fun w1 X11_2 => ?_)
  exact q_iret C dX12_ofHolder_14
/-! RecordClaimsModel.ofClaim(III)I -/
abbrev cX12_ofClaim : ByteArray := prog_14_method_7_code
def yX12_ofClaim : MethodName := ⟨RX12, "ofClaim", "(III)I"⟩
theorem dX12_ofClaim_0 : decode cX12_ofClaim 0 = .ok (.aload_n 0, 1) := by decide +kernel
theorem dX12_ofClaim_1 : decode cX12_ofClaim 1 = .ok (.iload_n 1, 1) := by decide +kernel
theorem dX12_ofClaim_2 : decode cX12_ofClaim 2 = .ok (.bipush 80, 2) := by decide +kernel
theorem dX12_ofClaim_4 : decode cX12_ofClaim 4 = .ok (.bipush 7, 2) := by decide +kernel
theorem dX12_ofClaim_6 : decode cX12_ofClaim 6 = .ok (.iload_n 2, 1) := by decide +kernel
theorem dX12_ofClaim_7 : decode cX12_ofClaim 7 = .ok (.imul, 1) := by decide +kernel
theorem dX12_ofClaim_8 : decode cX12_ofClaim 8 = .ok (.iadd, 1) := by decide +kernel
theorem dX12_ofClaim_9 : decode cX12_ofClaim 9 = .ok (.iload_n 3, 1) := by decide +kernel
theorem dX12_ofClaim_10 : decode cX12_ofClaim 10 = .ok (.iadd, 1) := by decide +kernel
theorem dX12_ofClaim_11 : decode cX12_ofClaim 11 = .ok (.invokevirtual 66, 3) := by decide +kernel
theorem dX12_ofClaim_14 : decode cX12_ofClaim 14 = .ok (.ireturn, 1) := by decide +kernel
def fX12_ofClaim (r0 : Nat) (v1 : Int32) (v2 : Int32) (v3 : Int32) (X : Mm) : Option (Int32 × Mm) :=
if mT X r0 = 12 then
bd (fX12_of r0 v1 ((((80 : Int32) + ((7 : Int32) * v2)) + v3)) X) fun w1 X11_2 =>
some (w1, X11_2)
else none
theorem sX12_ofClaim (r0 : Nat) (v1 : Int32) (v2 : Int32) (v3 : Int32) : q_Ct yX12_ofClaim cX12_ofClaim 4 (some .int) 1 22 0 0 q_eI (fun P => [.ref (P + r0), .int v1, .int v2, .int v3]) (fX12_ofClaim r0 v1 v2 v3) := by
  refine q_meth (by decide +kernel) (fun P => Nat.le_of_ble_eq_true rfl) (fun E X C hn => ?_)
  show Sm E (q_fin E q_eI X 0 0) 0 0 0 [(0, .ref (q_P E + r0)), (1, .int v1), (2, .int v2), (3, .int v3)] [] X _
  unfold fX12_ofClaim
  refine q_aload_n C 0 dX12_ofClaim_0 rfl rfl ?_
  refine q_iload_n C 1 dX12_ofClaim_1 rfl rfl ?_
  refine q_bipush C (80 : Int32) dX12_ofClaim_2 rfl ?_
  refine q_bipush C (7 : Int32) dX12_ofClaim_4 rfl ?_
  refine q_iload_n C 2 dX12_ofClaim_6 rfl rfl ?_
  refine q_imul C dX12_ofClaim_7 ?_
  refine q_iadd C dX12_ofClaim_8 ?_
  refine q_iload_n C 3 dX12_ofClaim_9 rfl rfl ?_
  refine q_iadd C dX12_ofClaim_10 ?_
  refine q_chk (fun h3 => ?_)
  refine q_cVI (As := (fun P => [.int v1, .int (((80 : Int32) + ((7 : Int32) * v2)) + v3)])) C [] (sX12_of r0 v1 ((((80 : Int32) + ((7 : Int32) * v2)) + v3))) fcX12_66 rfl (fun _ => rfl) ⟨Nat.le_of_ble_eq_true rfl, Nat.le_of_ble_eq_true rfl⟩ ⟨Nat.le_of_ble_eq_true rfl, Nat.le_of_ble_eq_true rfl⟩ (Nat.le_of_ble_eq_true rfl) dX12_ofClaim_11 h3 (fun w1 X11_2 => ?_)
  exact q_iret C dX12_ofClaim_14
/-! RecordClaimsModel.tradeMany()I -/
abbrev cX12_tradeMany : ByteArray := prog_14_method_8_code
def yX12_tradeMany : MethodName := ⟨RX12, "tradeMany", "()I"⟩
theorem dX12_tradeMany_0 : decode cX12_tradeMany 0 = .ok (.aload_n 0, 1) := by decide +kernel
theorem dX12_tradeMany_1 : decode cX12_tradeMany 1 = .ok (.getfield 11, 3) := by decide +kernel
theorem dX12_tradeMany_4 : decode cX12_tradeMany 4 = .ok (.bipush 60, 2) := by decide +kernel
theorem dX12_tradeMany_6 : decode cX12_tradeMany 6 = .ok (.laload, 1) := by decide +kernel
theorem dX12_tradeMany_7 : decode cX12_tradeMany 7 = .ok (.l2i, 1) := by decide +kernel
theorem dX12_tradeMany_8 : decode cX12_tradeMany 8 = .ok (.ireturn, 1) := by decide +kernel
theorem fgX12_11 : q_Fg RX12 11 12 1 := q_Fg.of (C := RX12) (T := TX12) (N := 35) rfl (by decide) inX12 1252 (by decide +kernel) rfl rfl
def fX12_tradeMany (r0 : Nat) (X : Mm) : Option (Int32 × Mm) :=
if mT X r0 = 12 then
if mR X r0 1 ≠ 0 then
if mT X (mR X r0 1) = 15 then
if q_b X (mR X r0 1) (60 : Int32) then
some ((((mJ X (mR X r0 1) ((60 : Int32)).toNatClampNeg)).toInt32), X)
else none
else none
else none
else none
theorem sX12_tradeMany (r0 : Nat) : q_Ct yX12_tradeMany cX12_tradeMany 1 (some .int) 0 0 0 0 q_eI (fun P => [.ref (P + r0)]) (fX12_tradeMany r0) := by
  refine q_meth (by decide +kernel) (fun P => Nat.le_of_ble_eq_true rfl) (fun E X C hn => ?_)
  show Sm E (q_fin E q_eI X 0 0) 0 0 0 [(0, .ref (q_P E + r0))] [] X _
  unfold fX12_tradeMany
  refine q_aload_n C 0 dX12_tradeMany_0 rfl rfl ?_
  refine q_chk (fun h1 => ?_)
  refine q_chk (fun h2 => ?_)
  refine p_getR C fgX12_11 rfl dX12_tradeMany_1 h1 h2 ?_
  refine q_bipush C (60 : Int32) dX12_tradeMany_4 rfl ?_
  refine q_chk (fun h3 => ?_)
  refine q_chk (fun h4 => ?_)
  refine p_lald C dX12_tradeMany_6 h3 h4 ?_
  refine q_l2i C dX12_tradeMany_7 ?_
  exact q_iret C dX12_tradeMany_8
/-! RecordClaimsModel.eventMany()I -/
abbrev cX12_eventMany : ByteArray := prog_14_method_9_code
def yX12_eventMany : MethodName := ⟨RX12, "eventMany", "()I"⟩
theorem dX12_eventMany_0 : decode cX12_eventMany 0 = .ok (.aload_n 0, 1) := by decide +kernel
theorem dX12_eventMany_1 : decode cX12_eventMany 1 = .ok (.getfield 11, 3) := by decide +kernel
theorem dX12_eventMany_4 : decode cX12_eventMany 4 = .ok (.bipush 61, 2) := by decide +kernel
theorem dX12_eventMany_6 : decode cX12_eventMany 6 = .ok (.laload, 1) := by decide +kernel
theorem dX12_eventMany_7 : decode cX12_eventMany 7 = .ok (.l2i, 1) := by decide +kernel
theorem dX12_eventMany_8 : decode cX12_eventMany 8 = .ok (.ireturn, 1) := by decide +kernel
def fX12_eventMany (r0 : Nat) (X : Mm) : Option (Int32 × Mm) :=
if mT X r0 = 12 then
if mR X r0 1 ≠ 0 then
if mT X (mR X r0 1) = 15 then
if q_b X (mR X r0 1) (61 : Int32) then
some ((((mJ X (mR X r0 1) ((61 : Int32)).toNatClampNeg)).toInt32), X)
else none
else none
else none
else none
theorem sX12_eventMany (r0 : Nat) : q_Ct yX12_eventMany cX12_eventMany 1 (some .int) 0 0 0 0 q_eI (fun P => [.ref (P + r0)]) (fX12_eventMany r0) := by
  refine q_meth (by decide +kernel) (fun P => Nat.le_of_ble_eq_true rfl) (fun E X C hn => ?_)
  show Sm E (q_fin E q_eI X 0 0) 0 0 0 [(0, .ref (q_P E + r0))] [] X _
  unfold fX12_eventMany
  refine q_aload_n C 0 dX12_eventMany_0 rfl rfl ?_
  refine q_chk (fun h1 => ?_)
  refine q_chk (fun h2 => ?_)
  refine p_getR C fgX12_11 rfl dX12_eventMany_1 h1 h2 ?_
  refine q_bipush C (61 : Int32) dX12_eventMany_4 rfl ?_
  refine q_chk (fun h3 => ?_)
  refine q_chk (fun h4 => ?_)
  refine p_lald C dX12_eventMany_6 h3 h4 ?_
  refine q_l2i C dX12_eventMany_7 ?_
  exact q_iret C dX12_eventMany_8
/-! RecordClaimsModel.today()I -/
abbrev cX12_today : ByteArray := prog_14_method_10_code
def yX12_today : MethodName := ⟨RX12, "today", "()I"⟩
theorem dX12_today_0 : decode cX12_today 0 = .ok (.aload_n 0, 1) := by decide +kernel
theorem dX12_today_1 : decode cX12_today 1 = .ok (.getfield 11, 3) := by decide +kernel
theorem dX12_today_4 : decode cX12_today 4 = .ok (.bipush 62, 2) := by decide +kernel
theorem dX12_today_6 : decode cX12_today 6 = .ok (.laload, 1) := by decide +kernel
theorem dX12_today_7 : decode cX12_today 7 = .ok (.l2i, 1) := by decide +kernel
theorem dX12_today_8 : decode cX12_today 8 = .ok (.ireturn, 1) := by decide +kernel
def fX12_today (r0 : Nat) (X : Mm) : Option (Int32 × Mm) :=
if mT X r0 = 12 then
if mR X r0 1 ≠ 0 then
if mT X (mR X r0 1) = 15 then
if q_b X (mR X r0 1) (62 : Int32) then
some ((((mJ X (mR X r0 1) ((62 : Int32)).toNatClampNeg)).toInt32), X)
else none
else none
else none
else none
theorem sX12_today (r0 : Nat) : q_Ct yX12_today cX12_today 1 (some .int) 0 0 0 0 q_eI (fun P => [.ref (P + r0)]) (fX12_today r0) := by
  refine q_meth (by decide +kernel) (fun P => Nat.le_of_ble_eq_true rfl) (fun E X C hn => ?_)
  show Sm E (q_fin E q_eI X 0 0) 0 0 0 [(0, .ref (q_P E + r0))] [] X _
  unfold fX12_today
  refine q_aload_n C 0 dX12_today_0 rfl rfl ?_
  refine q_chk (fun h1 => ?_)
  refine q_chk (fun h2 => ?_)
  refine p_getR C fgX12_11 rfl dX12_today_1 h1 h2 ?_
  refine q_bipush C (62 : Int32) dX12_today_4 rfl ?_
  refine q_chk (fun h3 => ?_)
  refine q_chk (fun h4 => ?_)
  refine p_lald C dX12_today_6 h3 h4 ?_
  refine q_l2i C dX12_today_7 ?_
  exact q_iret C dX12_today_8
/-! RecordClaimsModel.copies([JI[JI)V -/
abbrev cX12_copies : ByteArray := prog_14_method_11_code
def yX12_copies : MethodName := ⟨RX12, "copies", "([JI[JI)V"⟩
theorem dX12_copies_0 : decode cX12_copies 0 = .ok (.iconst 0, 1) := by decide +kernel
theorem dX12_copies_1 : decode cX12_copies 1 = .ok (.istore 5, 2) := by decide +kernel
theorem dX12_copies_3 : decode cX12_copies 3 = .ok (.iload 5, 2) := by decide +kernel
theorem dX12_copies_5 : decode cX12_copies 5 = .ok (.sipush 4604, 3) := by decide +kernel
theorem dX12_copies_8 : decode cX12_copies 8 = .ok (.if_icmp .ge 22, 3) := by decide +kernel
theorem dX12_copies_11 : decode cX12_copies 11 = .ok (.aload_n 3, 1) := by decide +kernel
theorem dX12_copies_12 : decode cX12_copies 12 = .ok (.iload 4, 2) := by decide +kernel
theorem dX12_copies_14 : decode cX12_copies 14 = .ok (.iload 5, 2) := by decide +kernel
theorem dX12_copies_16 : decode cX12_copies 16 = .ok (.iadd, 1) := by decide +kernel
theorem dX12_copies_17 : decode cX12_copies 17 = .ok (.aload_n 1, 1) := by decide +kernel
theorem dX12_copies_18 : decode cX12_copies 18 = .ok (.iload_n 2, 1) := by decide +kernel
theorem dX12_copies_19 : decode cX12_copies 19 = .ok (.iload 5, 2) := by decide +kernel
theorem dX12_copies_21 : decode cX12_copies 21 = .ok (.iadd, 1) := by decide +kernel
theorem dX12_copies_22 : decode cX12_copies 22 = .ok (.laload, 1) := by decide +kernel
theorem dX12_copies_23 : decode cX12_copies 23 = .ok (.lastore, 1) := by decide +kernel
theorem dX12_copies_24 : decode cX12_copies 24 = .ok (.iinc 5 1, 3) := by decide +kernel
theorem dX12_copies_27 : decode cX12_copies 27 = .ok (.goto (-24), 3) := by decide +kernel
theorem dX12_copies_30 : decode cX12_copies 30 = .ok (.return_, 1) := by decide +kernel
def fX12_copies_L3 (n : Nat) : Nat → Nat → Int32 → Nat → Int32 → Int32 → Mm → Option (Unit × Mm)
| 0, _, _, _, _, _, _ => none
| j + 1, r1, v2, r3, v4, v5, X =>
if (4604 : Int32) ≤ v5 then (
some ((), X)
) else (
if mT X r1 = 15 then
if q_b X r1 (v2 + v5) then
if mT X r3 = 15 then
if q_b X r3 (v4 + v5) then
nm (sJ X r3 ((v4 + v5)).toNatClampNeg (mJ X r1 ((v2 + v5)).toNatClampNeg)) fun X23_3 =>
nm (v5 + (1 : Int32)) fun v5_24 =>
(fX12_copies_L3 n j) r1 v2 r3 v4 v5_24 X23_3
else none
else none
else none
else none
)
def fX12_copies (n : Nat) (r0 : Nat) (r1 : Nat) (v2 : Int32) (r3 : Nat) (v4 : Int32) (X : Mm) : Option (Unit × Mm) :=
fX12_copies_L3 n n r1 v2 r3 v4 (0 : Int32) X
theorem gX12_copies_L3 {E : q_E} {X0 : Mm} (C : Cx E cX12_copies RX12 6 none (q_rm 0 0 0 0) X0) (n : Nat) : ∀ (j : Nat) (r1 : Nat) (v2 : Int32) (r3 : Nat) (v4 : Int32) (v5 : Int32) (X : Mm), Sm E (q_fin E q_eV X0 0 0) 0 0 3 [(1, .ref (q_P E + r1)), (2, .int v2), (3, .ref (q_P E + r3)), (4, .int v4), (5, .int v5)] [] X (fX12_copies_L3 n j r1 v2 r3 v4 v5 X) := by
  intro j
  induction j with
  | zero => intros; exact Sm.none
  | succ j ih =>
    intro r1 v2 r3 v4 v5 X
    rw [fX12_copies_L3]
    refine q_iload C 4 dX12_copies_3 rfl ?_
    refine q_sipush C (4604 : Int32) dX12_copies_5 rfl ?_
    refine q_icmp_ge C 30 dX12_copies_8 (by decide) (fun _ => ?_) (fun _ => ?_)
    · exact q_vret C dX12_copies_30
    · refine q_aload_n C 2 dX12_copies_11 rfl rfl ?_
      refine q_iload C 3 dX12_copies_12 rfl ?_
      refine q_iload C 4 dX12_copies_14 rfl ?_
      refine q_iadd C dX12_copies_16 ?_
      refine q_aload_n C 0 dX12_copies_17 rfl rfl ?_
      refine q_iload_n C 1 dX12_copies_18 rfl rfl ?_
      refine q_iload C 4 dX12_copies_19 rfl ?_
      refine q_iadd C dX12_copies_21 ?_
      refine q_chk (fun h1 => ?_)
      refine q_chk (fun h2 => ?_)
      refine p_lald C dX12_copies_22 h1 h2 ?_
      refine q_chk (fun h4 => ?_)
      refine q_chk (fun h5 => ?_)
      refine p_last C dX12_copies_23 h4 h5 ?_
      refine q_nmX (fun X23_3 => ?_)
      refine q_iincN C (1 : Int32) 4 (fun v5_24 => [(5, .int v5_24), (1, .ref (q_P E + r1)), (2, .int v2), (3, .ref (q_P E + r3)), (4, .int v4)]) dX12_copies_24 rfl rfl (Nat.le_of_ble_eq_true rfl) (fun _ => rfl) (fun v5_24 => ?_)
      refine q_goto C 3 dX12_copies_27 (by decide) ?_
      refine q_sub C [(1, .ref (q_P E + r1)), (2, .int v2), (3, .ref (q_P E + r3)), (4, .int v4), (5, .int v5_24)] [1, 2, 3, 4, 0] rfl ?_
      exact ih r1 v2 r3 v4 v5_24 X23_3
theorem sX12_copies (n : Nat) (r0 : Nat) (r1 : Nat) (v2 : Int32) (r3 : Nat) (v4 : Int32) : q_Ct yX12_copies cX12_copies 6 none 0 0 0 0 q_eV (fun P => [.ref (P + r0), .ref (P + r1), .int v2, .ref (P + r3), .int v4]) (fX12_copies n r0 r1 v2 r3 v4) := by
  refine q_meth (by decide +kernel) (fun P => Nat.le_of_ble_eq_true rfl) (fun E X C hn => ?_)
  show Sm E (q_fin E q_eV X 0 0) 0 0 0 [(0, .ref (q_P E + r0)), (1, .ref (q_P E + r1)), (2, .int v2), (3, .ref (q_P E + r3)), (4, .int v4)] [] X _
  unfold fX12_copies
  refine q_iconst C (0 : Int32) dX12_copies_0 rfl ?_
  refine q_istore C [(5, .int (0 : Int32)), (0, .ref (q_P E + r0)), (1, .ref (q_P E + r1)), (2, .int v2), (3, .ref (q_P E + r3)), (4, .int v4)] dX12_copies_1 (Nat.le_of_ble_eq_true rfl) rfl ?_
  refine q_sub C [(1, .ref (q_P E + r1)), (2, .int v2), (3, .ref (q_P E + r3)), (4, .int v4), (5, .int (0 : Int32))] [2, 3, 4, 5, 0] rfl ?_
  exact gX12_copies_L3 C n n r1 v2 r3 v4 (0 : Int32) X
/-! RecordClaimsModel.keepsBefore()V -/
abbrev cX12_keepsBefore : ByteArray := prog_14_method_12_code
def yX12_keepsBefore : MethodName := ⟨RX12, "keepsBefore", "()V"⟩
theorem dX12_keepsBefore_0 : decode cX12_keepsBefore 0 = .ok (.aload_n 0, 1) := by decide +kernel
theorem dX12_keepsBefore_1 : decode cX12_keepsBefore 1 = .ok (.getfield 70, 3) := by decide +kernel
theorem dX12_keepsBefore_4 : decode cX12_keepsBefore 4 = .ok (.bipush 6, 2) := by decide +kernel
theorem dX12_keepsBefore_6 : decode cX12_keepsBefore 6 = .ok (.if_icmp .ne 44, 3) := by decide +kernel
theorem dX12_keepsBefore_9 : decode cX12_keepsBefore 9 = .ok (.iconst 0, 1) := by decide +kernel
theorem dX12_keepsBefore_10 : decode cX12_keepsBefore 10 = .ok (.istore_n 1, 1) := by decide +kernel
theorem dX12_keepsBefore_11 : decode cX12_keepsBefore 11 = .ok (.iload_n 1, 1) := by decide +kernel
theorem dX12_keepsBefore_12 : decode cX12_keepsBefore 12 = .ok (.sipush 23020, 3) := by decide +kernel
theorem dX12_keepsBefore_15 : decode cX12_keepsBefore 15 = .ok (.if_icmp .ge 25, 3) := by decide +kernel
theorem dX12_keepsBefore_18 : decode cX12_keepsBefore 18 = .ok (.aload_n 0, 1) := by decide +kernel
theorem dX12_keepsBefore_19 : decode cX12_keepsBefore 19 = .ok (.getfield 21, 3) := by decide +kernel
theorem dX12_keepsBefore_22 : decode cX12_keepsBefore 22 = .ok (.iload_n 1, 1) := by decide +kernel
theorem dX12_keepsBefore_23 : decode cX12_keepsBefore 23 = .ok (.aload_n 0, 1) := by decide +kernel
theorem dX12_keepsBefore_24 : decode cX12_keepsBefore 24 = .ok (.getfield 21, 3) := by decide +kernel
theorem dX12_keepsBefore_27 : decode cX12_keepsBefore 27 = .ok (.iload_n 1, 1) := by decide +kernel
theorem dX12_keepsBefore_28 : decode cX12_keepsBefore 28 = .ok (.sipush 4604, 3) := by decide +kernel
theorem dX12_keepsBefore_31 : decode cX12_keepsBefore 31 = .ok (.iadd, 1) := by decide +kernel
theorem dX12_keepsBefore_32 : decode cX12_keepsBefore 32 = .ok (.laload, 1) := by decide +kernel
theorem dX12_keepsBefore_33 : decode cX12_keepsBefore 33 = .ok (.lastore, 1) := by decide +kernel
theorem dX12_keepsBefore_34 : decode cX12_keepsBefore 34 = .ok (.iinc 1 1, 3) := by decide +kernel
theorem dX12_keepsBefore_37 : decode cX12_keepsBefore 37 = .ok (.goto (-26), 3) := by decide +kernel
theorem dX12_keepsBefore_40 : decode cX12_keepsBefore 40 = .ok (.aload_n 0, 1) := by decide +kernel
theorem dX12_keepsBefore_41 : decode cX12_keepsBefore 41 = .ok (.aload_n 0, 1) := by decide +kernel
theorem dX12_keepsBefore_42 : decode cX12_keepsBefore 42 = .ok (.getfield 70, 3) := by decide +kernel
theorem dX12_keepsBefore_45 : decode cX12_keepsBefore 45 = .ok (.iconst 1, 1) := by decide +kernel
theorem dX12_keepsBefore_46 : decode cX12_keepsBefore 46 = .ok (.isub, 1) := by decide +kernel
theorem dX12_keepsBefore_47 : decode cX12_keepsBefore 47 = .ok (.putfield 70, 3) := by decide +kernel
theorem dX12_keepsBefore_50 : decode cX12_keepsBefore 50 = .ok (.aload_n 0, 1) := by decide +kernel
theorem dX12_keepsBefore_51 : decode cX12_keepsBefore 51 = .ok (.aload_n 0, 1) := by decide +kernel
theorem dX12_keepsBefore_52 : decode cX12_keepsBefore 52 = .ok (.getfield 15, 3) := by decide +kernel
theorem dX12_keepsBefore_55 : decode cX12_keepsBefore 55 = .ok (.iconst 0, 1) := by decide +kernel
theorem dX12_keepsBefore_56 : decode cX12_keepsBefore 56 = .ok (.aload_n 0, 1) := by decide +kernel
theorem dX12_keepsBefore_57 : decode cX12_keepsBefore 57 = .ok (.getfield 21, 3) := by decide +kernel
theorem dX12_keepsBefore_60 : decode cX12_keepsBefore 60 = .ok (.sipush 4604, 3) := by decide +kernel
theorem dX12_keepsBefore_63 : decode cX12_keepsBefore 63 = .ok (.aload_n 0, 1) := by decide +kernel
theorem dX12_keepsBefore_64 : decode cX12_keepsBefore 64 = .ok (.getfield 70, 3) := by decide +kernel
theorem dX12_keepsBefore_67 : decode cX12_keepsBefore 67 = .ok (.imul, 1) := by decide +kernel
theorem dX12_keepsBefore_68 : decode cX12_keepsBefore 68 = .ok (.invokevirtual 73, 3) := by decide +kernel
theorem dX12_keepsBefore_71 : decode cX12_keepsBefore 71 = .ok (.aload_n 0, 1) := by decide +kernel
theorem dX12_keepsBefore_72 : decode cX12_keepsBefore 72 = .ok (.aload_n 0, 1) := by decide +kernel
theorem dX12_keepsBefore_73 : decode cX12_keepsBefore 73 = .ok (.getfield 70, 3) := by decide +kernel
theorem dX12_keepsBefore_76 : decode cX12_keepsBefore 76 = .ok (.iconst 1, 1) := by decide +kernel
theorem dX12_keepsBefore_77 : decode cX12_keepsBefore 77 = .ok (.iadd, 1) := by decide +kernel
theorem dX12_keepsBefore_78 : decode cX12_keepsBefore 78 = .ok (.putfield 70, 3) := by decide +kernel
theorem dX12_keepsBefore_81 : decode cX12_keepsBefore 81 = .ok (.return_, 1) := by decide +kernel
theorem fgX12_70 : q_Fg RX12 70 12 5 := q_Fg.of (C := RX12) (T := TX12) (N := 35) rfl (by decide) inX12 1256 (by decide +kernel) rfl rfl
theorem fpX12_70 : q_Fp RX12 70 12 5 .int false := ⟨RX12, TX12, 35, tyX12, rfl, by decide, inX12, q_tb 1256 (by decide +kernel) rfl, tyX12_ok, nmX12, rfl, rfl, fun h => by first | rfl | cases h⟩
theorem fgX12_15 : q_Fg RX12 15 12 2 := q_Fg.of (C := RX12) (T := TX12) (N := 35) rfl (by decide) inX12 1253 (by decide +kernel) rfl rfl
theorem fgX12_21 : q_Fg RX12 21 12 4 := q_Fg.of (C := RX12) (T := TX12) (N := 35) rfl (by decide) inX12 1255 (by decide +kernel) rfl rfl
theorem fcX12_73 : q_LV RX12 73 yX12_copies cX12_copies 6 none 4 12 := ⟨q_tb 1483 (by decide +kernel) rfl, q_tb 1485 (by decide +kernel) rfl, q_tbs (q := (yX12_copies, 35)) 76 (by decide +kernel) rfl, q_tb 13 (by decide +kernel) rfl, q_tb 1486 (by decide +kernel) rfl, ⟨by decide +kernel, by decide +kernel, by decide +kernel⟩, TX12, 35, rfl⟩
def fX12_keepsBefore_L50 (n : Nat) (r0 : Nat) (X : Mm) : Option (Unit × Mm) :=
if mT X r0 = 12 then
if mR X r0 2 ≠ 0 then
if mR X r0 4 ≠ 0 then
bd (fX12_copies n r0 ((mR X r0 2)) (0 : Int32) ((mR X r0 4)) (((4604 : Int32) * (mI X r0 5))) X) fun _ X68_8 =>
if mT X68_8 r0 = 12 then
nm (sI X68_8 r0 5 ((mI X68_8 r0 5) + (1 : Int32))) fun X78_10 =>
some ((), X78_10)
else none
else none
else none
else none
def fX12_keepsBefore_L11 (n : Nat) : Nat → Nat → Int32 → Mm → Option (Unit × Mm)
| 0, _, _, _ => none
| j + 1, r0, v1, X =>
if (23020 : Int32) ≤ v1 then (
if mT X r0 = 12 then
nm (sI X r0 5 ((mI X r0 5) - (1 : Int32))) fun X47_3 =>
fX12_keepsBefore_L50 n r0 X47_3
else none
) else (
if mT X r0 = 12 then
if mR X r0 4 ≠ 0 then
if mT X (mR X r0 4) = 15 then
if q_b X (mR X r0 4) (v1 + (4604 : Int32)) then
if q_b X (mR X r0 4) v1 then
nm (sJ X (mR X r0 4) (v1).toNatClampNeg (mJ X (mR X r0 4) ((v1 + (4604 : Int32))).toNatClampNeg)) fun X33_15 =>
nm (v1 + (1 : Int32)) fun v1_34 =>
(fX12_keepsBefore_L11 n j) r0 v1_34 X33_15
else none
else none
else none
else none
else none
)
def fX12_keepsBefore (n : Nat) (r0 : Nat) (X : Mm) : Option (Unit × Mm) :=
if mT X r0 = 12 then
if (mI X r0 5) = (6 : Int32) then (
fX12_keepsBefore_L11 n n r0 (0 : Int32) X
) else (
fX12_keepsBefore_L50 n r0 X
)
else none
theorem gX12_keepsBefore_L50 {E : q_E} {X0 : Mm} (C : Cx E cX12_keepsBefore RX12 2 none (q_rm 1 25 0 0) X0) (n : Nat) (r0 : Nat) (X : Mm) : Sm E (q_fin E q_eV X0 0 0) 0 0 50 [(0, .ref (q_P E + r0))] [] X (fX12_keepsBefore_L50 n r0 X) := by
  unfold fX12_keepsBefore_L50
  refine q_aload_n C 0 dX12_keepsBefore_50 rfl rfl ?_
  refine q_aload_n C 0 dX12_keepsBefore_51 rfl rfl ?_
  refine q_chk (fun h4 => ?_)
  refine q_chk (fun h5 => ?_)
  refine p_getR C fgX12_15 rfl dX12_keepsBefore_52 h4 h5 ?_
  refine q_iconst C (0 : Int32) dX12_keepsBefore_55 rfl ?_
  refine q_aload_n C 0 dX12_keepsBefore_56 rfl rfl ?_
  refine q_chk (fun h6 => ?_)
  refine p_getR C fgX12_21 rfl dX12_keepsBefore_57 h4 h6 ?_
  refine q_sipush C (4604 : Int32) dX12_keepsBefore_60 rfl ?_
  refine q_aload_n C 0 dX12_keepsBefore_63 rfl rfl ?_
  refine p_getI C fgX12_70 rfl dX12_keepsBefore_64 h4 ?_
  refine q_imul C dX12_keepsBefore_67 ?_
  refine q_cVV (As := (fun P => [.ref (P + (mR X r0 2)), .int (0 : Int32), .ref (P + (mR X r0 4)), .int ((4604 : Int32) * (mI X r0 5))])) C [] (sX12_copies n r0 ((mR X r0 2)) (0 : Int32) ((mR X r0 4)) (((4604 : Int32) * (mI X r0 5)))) fcX12_73 rfl (fun _ => rfl) ⟨Nat.le_of_ble_eq_true rfl, Nat.le_of_ble_eq_true rfl⟩ ⟨Nat.le_of_ble_eq_true rfl, Nat.le_of_ble_eq_true rfl⟩ (Nat.le_of_ble_eq_true rfl) dX12_keepsBefore_68 h4 (fun _ X68_8 => ?_)
  refine q_aload_n C 0 dX12_keepsBefore_71 rfl rfl ?_
  refine q_aload_n C 0 dX12_keepsBefore_72 rfl rfl ?_
  refine q_chk (fun h9 => ?_)
  refine p_getI C fgX12_70 rfl dX12_keepsBefore_73 h9 ?_
  refine q_iconst C (1 : Int32) dX12_keepsBefore_76 rfl ?_
  refine q_iadd C dX12_keepsBefore_77 ?_
  refine p_putI C fpX12_70 rfl dX12_keepsBefore_78 h9 ?_
  refine q_nmX (fun X78_10 => ?_)
  exact q_vret C dX12_keepsBefore_81
theorem gX12_keepsBefore_L11 {E : q_E} {X0 : Mm} (C : Cx E cX12_keepsBefore RX12 2 none (q_rm 1 25 0 0) X0) (n : Nat) : ∀ (j : Nat) (r0 : Nat) (v1 : Int32) (X : Mm), Sm E (q_fin E q_eV X0 0 0) 0 0 11 [(0, .ref (q_P E + r0)), (1, .int v1)] [] X (fX12_keepsBefore_L11 n j r0 v1 X) := by
  intro j
  induction j with
  | zero => intros; exact Sm.none
  | succ j ih =>
    intro r0 v1 X
    rw [fX12_keepsBefore_L11]
    refine q_iload_n C 1 dX12_keepsBefore_11 rfl rfl ?_
    refine q_sipush C (23020 : Int32) dX12_keepsBefore_12 rfl ?_
    refine q_icmp_ge C 40 dX12_keepsBefore_15 (by decide) (fun _ => ?_) (fun _ => ?_)
    · refine q_aload_n C 0 dX12_keepsBefore_40 rfl rfl ?_
      refine q_aload_n C 0 dX12_keepsBefore_41 rfl rfl ?_
      refine q_chk (fun h2 => ?_)
      refine p_getI C fgX12_70 rfl dX12_keepsBefore_42 h2 ?_
      refine q_iconst C (1 : Int32) dX12_keepsBefore_45 rfl ?_
      refine q_isub C dX12_keepsBefore_46 ?_
      refine p_putI C fpX12_70 rfl dX12_keepsBefore_47 h2 ?_
      refine q_nmX (fun X47_3 => ?_)
      refine q_sub C [(0, .ref (q_P E + r0))] [0] rfl ?_
      exact gX12_keepsBefore_L50 C n r0 X47_3
    · refine q_aload_n C 0 dX12_keepsBefore_18 rfl rfl ?_
      refine q_chk (fun h11 => ?_)
      refine q_chk (fun h12 => ?_)
      refine p_getR C fgX12_21 rfl dX12_keepsBefore_19 h11 h12 ?_
      refine q_iload_n C 1 dX12_keepsBefore_22 rfl rfl ?_
      refine q_aload_n C 0 dX12_keepsBefore_23 rfl rfl ?_
      refine p_getR C fgX12_21 rfl dX12_keepsBefore_24 h11 h12 ?_
      refine q_iload_n C 1 dX12_keepsBefore_27 rfl rfl ?_
      refine q_sipush C (4604 : Int32) dX12_keepsBefore_28 rfl ?_
      refine q_iadd C dX12_keepsBefore_31 ?_
      refine q_chk (fun h13 => ?_)
      refine q_chk (fun h14 => ?_)
      refine p_lald C dX12_keepsBefore_32 h13 h14 ?_
      refine q_chk (fun h16 => ?_)
      refine p_last C dX12_keepsBefore_33 h13 h16 ?_
      refine q_nmX (fun X33_15 => ?_)
      refine q_iincN C (1 : Int32) 1 (fun v1_34 => [(1, .int v1_34), (0, .ref (q_P E + r0))]) dX12_keepsBefore_34 rfl rfl (Nat.le_of_ble_eq_true rfl) (fun _ => rfl) (fun v1_34 => ?_)
      refine q_goto C 11 dX12_keepsBefore_37 (by decide) ?_
      refine q_sub C [(0, .ref (q_P E + r0)), (1, .int v1_34)] [1, 0] rfl ?_
      exact ih r0 v1_34 X33_15
theorem sX12_keepsBefore (n : Nat) (r0 : Nat) : q_Ct yX12_keepsBefore cX12_keepsBefore 2 none 1 25 0 0 q_eV (fun P => [.ref (P + r0)]) (fX12_keepsBefore n r0) := by
  refine q_meth (by decide +kernel) (fun P => Nat.le_of_ble_eq_true rfl) (fun E X C hn => ?_)
  show Sm E (q_fin E q_eV X 0 0) 0 0 0 [(0, .ref (q_P E + r0))] [] X _
  unfold fX12_keepsBefore
  refine q_aload_n C 0 dX12_keepsBefore_0 rfl rfl ?_
  refine q_chk (fun h1 => ?_)
  refine p_getI C fgX12_70 rfl dX12_keepsBefore_1 h1 ?_
  refine q_bipush C (6 : Int32) dX12_keepsBefore_4 rfl ?_
  refine q_icmp_ne C 50 dX12_keepsBefore_6 (by decide) (fun _ => ?_) (fun _ => ?_)
  · refine q_iconst C (0 : Int32) dX12_keepsBefore_9 rfl ?_
    refine q_istore_n C [(1, .int (0 : Int32)), (0, .ref (q_P E + r0))] dX12_keepsBefore_10 rfl (Nat.le_of_ble_eq_true rfl) rfl ?_
    refine q_sub C [(0, .ref (q_P E + r0)), (1, .int (0 : Int32))] [1, 0] rfl ?_
    exact gX12_keepsBefore_L11 C n n r0 (0 : Int32) X
  · exact gX12_keepsBefore_L50 C n r0 X
/-! RecordClaimsModel.isHolder(I)Z -/
abbrev cX12_isHolder : ByteArray := prog_14_method_13_code
def yX12_isHolder : MethodName := ⟨RX12, "isHolder", "(I)Z"⟩
theorem dX12_isHolder_0 : decode cX12_isHolder 0 = .ok (.aload_n 0, 1) := by decide +kernel
theorem dX12_isHolder_1 : decode cX12_isHolder 1 = .ok (.iload_n 1, 1) := by decide +kernel
theorem dX12_isHolder_2 : decode cX12_isHolder 2 = .ok (.i2l, 1) := by decide +kernel
theorem dX12_isHolder_3 : decode cX12_isHolder 3 = .ok (.lconst 0, 1) := by decide +kernel
theorem dX12_isHolder_4 : decode cX12_isHolder 4 = .ok (.aload_n 0, 1) := by decide +kernel
theorem dX12_isHolder_5 : decode cX12_isHolder 5 = .ok (.getfield 77, 3) := by decide +kernel
theorem dX12_isHolder_8 : decode cX12_isHolder 8 = .ok (.i2l, 1) := by decide +kernel
theorem dX12_isHolder_9 : decode cX12_isHolder 9 = .ok (.lconst 1, 1) := by decide +kernel
theorem dX12_isHolder_10 : decode cX12_isHolder 10 = .ok (.lsub, 1) := by decide +kernel
theorem dX12_isHolder_11 : decode cX12_isHolder 11 = .ok (.invokevirtual 80, 3) := by decide +kernel
theorem dX12_isHolder_14 : decode cX12_isHolder 14 = .ok (.ireturn, 1) := by decide +kernel
theorem fgX12_77 : q_Fg RX12 77 12 6 := q_Fg.of (C := RX12) (T := TX12) (N := 35) rfl (by decide) inX12 1257 (by decide +kernel) rfl rfl
theorem fcX12_80 : q_LV RX12 80 yX12_isIn cX12_isIn 7 (some .boolean) 3 12 := ⟨q_tb 1365 (by decide +kernel) rfl, q_tb 1367 (by decide +kernel) rfl, q_tbs (q := (yX12_isIn, 35)) 50 (by decide +kernel) rfl, q_tb 13 (by decide +kernel) rfl, q_tb 1368 (by decide +kernel) rfl, ⟨by decide +kernel, by decide +kernel, by decide +kernel⟩, TX12, 35, rfl⟩
def fX12_isHolder (r0 : Nat) (v1 : Int32) (X : Mm) : Option (Int32 × Mm) :=
if mT X r0 = 12 then
bd (fX12_isIn r0 (((v1).toInt64)) (0 : Int64) (((((mI X r0 6)).toInt64) - (1 : Int64))) X) fun w2 X11_3 =>
if w2 = 0 ∨ w2 = 1 then some (w2, X11_3) else none
else none
theorem sX12_isHolder (r0 : Nat) (v1 : Int32) : q_Ct yX12_isHolder cX12_isHolder 2 (some .boolean) 1 26 0 0 q_eI (fun P => [.ref (P + r0), .int v1]) (fX12_isHolder r0 v1) := by
  refine q_meth (by decide +kernel) (fun P => Nat.le_of_ble_eq_true rfl) (fun E X C hn => ?_)
  show Sm E (q_fin E q_eI X 0 0) 0 0 0 [(0, .ref (q_P E + r0)), (1, .int v1)] [] X _
  unfold fX12_isHolder
  refine q_aload_n C 0 dX12_isHolder_0 rfl rfl ?_
  refine q_iload_n C 1 dX12_isHolder_1 rfl rfl ?_
  refine q_i2l C dX12_isHolder_2 ?_
  refine q_lconst C (0 : Int64) dX12_isHolder_3 rfl ?_
  refine q_aload_n C 0 dX12_isHolder_4 rfl rfl ?_
  refine q_chk (fun h1 => ?_)
  refine p_getI C fgX12_77 rfl dX12_isHolder_5 h1 ?_
  refine q_i2l C dX12_isHolder_8 ?_
  refine q_lconst C (1 : Int64) dX12_isHolder_9 rfl ?_
  refine q_lsub C dX12_isHolder_10 ?_
  refine q_cVI (As := (fun P => [.long ((v1).toInt64), .long (0 : Int64), .long ((((mI X r0 6)).toInt64) - (1 : Int64))])) C [] (sX12_isIn r0 (((v1).toInt64)) (0 : Int64) (((((mI X r0 6)).toInt64) - (1 : Int64)))) fcX12_80 rfl (fun _ => rfl) ⟨Nat.le_of_ble_eq_true rfl, Nat.le_of_ble_eq_true rfl⟩ ⟨Nat.le_of_ble_eq_true rfl, Nat.le_of_ble_eq_true rfl⟩ (Nat.le_of_ble_eq_true rfl) dX12_isHolder_11 h1 (fun w2 X11_3 => ?_)
  exact q_zret C dX12_isHolder_14
/-! RecordClaimsModel.isPaper(I)Z -/
abbrev cX12_isPaper : ByteArray := prog_14_method_14_code
def yX12_isPaper : MethodName := ⟨RX12, "isPaper", "(I)Z"⟩
theorem dX12_isPaper_0 : decode cX12_isPaper 0 = .ok (.aload_n 0, 1) := by decide +kernel
theorem dX12_isPaper_1 : decode cX12_isPaper 1 = .ok (.iload_n 1, 1) := by decide +kernel
theorem dX12_isPaper_2 : decode cX12_isPaper 2 = .ok (.i2l, 1) := by decide +kernel
theorem dX12_isPaper_3 : decode cX12_isPaper 3 = .ok (.lconst 0, 1) := by decide +kernel
theorem dX12_isPaper_4 : decode cX12_isPaper 4 = .ok (.aload_n 0, 1) := by decide +kernel
theorem dX12_isPaper_5 : decode cX12_isPaper 5 = .ok (.getfield 84, 3) := by decide +kernel
theorem dX12_isPaper_8 : decode cX12_isPaper 8 = .ok (.i2l, 1) := by decide +kernel
theorem dX12_isPaper_9 : decode cX12_isPaper 9 = .ok (.lconst 1, 1) := by decide +kernel
theorem dX12_isPaper_10 : decode cX12_isPaper 10 = .ok (.lsub, 1) := by decide +kernel
theorem dX12_isPaper_11 : decode cX12_isPaper 11 = .ok (.invokevirtual 80, 3) := by decide +kernel
theorem dX12_isPaper_14 : decode cX12_isPaper 14 = .ok (.ireturn, 1) := by decide +kernel
theorem fgX12_84 : q_Fg RX12 84 12 7 := q_Fg.of (C := RX12) (T := TX12) (N := 35) rfl (by decide) inX12 1258 (by decide +kernel) rfl rfl
def fX12_isPaper (r0 : Nat) (v1 : Int32) (X : Mm) : Option (Int32 × Mm) :=
if mT X r0 = 12 then
bd (fX12_isIn r0 (((v1).toInt64)) (0 : Int64) (((((mI X r0 7)).toInt64) - (1 : Int64))) X) fun w2 X11_3 =>
if w2 = 0 ∨ w2 = 1 then some (w2, X11_3) else none
else none
theorem sX12_isPaper (r0 : Nat) (v1 : Int32) : q_Ct yX12_isPaper cX12_isPaper 2 (some .boolean) 1 26 0 0 q_eI (fun P => [.ref (P + r0), .int v1]) (fX12_isPaper r0 v1) := by
  refine q_meth (by decide +kernel) (fun P => Nat.le_of_ble_eq_true rfl) (fun E X C hn => ?_)
  show Sm E (q_fin E q_eI X 0 0) 0 0 0 [(0, .ref (q_P E + r0)), (1, .int v1)] [] X _
  unfold fX12_isPaper
  refine q_aload_n C 0 dX12_isPaper_0 rfl rfl ?_
  refine q_iload_n C 1 dX12_isPaper_1 rfl rfl ?_
  refine q_i2l C dX12_isPaper_2 ?_
  refine q_lconst C (0 : Int64) dX12_isPaper_3 rfl ?_
  refine q_aload_n C 0 dX12_isPaper_4 rfl rfl ?_
  refine q_chk (fun h1 => ?_)
  refine p_getI C fgX12_84 rfl dX12_isPaper_5 h1 ?_
  refine q_i2l C dX12_isPaper_8 ?_
  refine q_lconst C (1 : Int64) dX12_isPaper_9 rfl ?_
  refine q_lsub C dX12_isPaper_10 ?_
  refine q_cVI (As := (fun P => [.long ((v1).toInt64), .long (0 : Int64), .long ((((mI X r0 7)).toInt64) - (1 : Int64))])) C [] (sX12_isIn r0 (((v1).toInt64)) (0 : Int64) (((((mI X r0 7)).toInt64) - (1 : Int64)))) fcX12_80 rfl (fun _ => rfl) ⟨Nat.le_of_ble_eq_true rfl, Nat.le_of_ble_eq_true rfl⟩ ⟨Nat.le_of_ble_eq_true rfl, Nat.le_of_ble_eq_true rfl⟩ (Nat.le_of_ble_eq_true rfl) dX12_isPaper_11 h1 (fun w2 X11_3 => ?_)
  exact q_zret C dX12_isPaper_14
/-! RecordClaimsModel.isTrade(I)Z -/
abbrev cX12_isTrade : ByteArray := prog_14_method_15_code
def yX12_isTrade : MethodName := ⟨RX12, "isTrade", "(I)Z"⟩
theorem dX12_isTrade_0 : decode cX12_isTrade 0 = .ok (.aload_n 0, 1) := by decide +kernel
theorem dX12_isTrade_1 : decode cX12_isTrade 1 = .ok (.iload_n 1, 1) := by decide +kernel
theorem dX12_isTrade_2 : decode cX12_isTrade 2 = .ok (.i2l, 1) := by decide +kernel
theorem dX12_isTrade_3 : decode cX12_isTrade 3 = .ok (.lconst 0, 1) := by decide +kernel
theorem dX12_isTrade_4 : decode cX12_isTrade 4 = .ok (.aload_n 0, 1) := by decide +kernel
theorem dX12_isTrade_5 : decode cX12_isTrade 5 = .ok (.invokevirtual 87, 3) := by decide +kernel
theorem dX12_isTrade_8 : decode cX12_isTrade 8 = .ok (.i2l, 1) := by decide +kernel
theorem dX12_isTrade_9 : decode cX12_isTrade 9 = .ok (.lconst 1, 1) := by decide +kernel
theorem dX12_isTrade_10 : decode cX12_isTrade 10 = .ok (.lsub, 1) := by decide +kernel
theorem dX12_isTrade_11 : decode cX12_isTrade 11 = .ok (.invokevirtual 80, 3) := by decide +kernel
theorem dX12_isTrade_14 : decode cX12_isTrade 14 = .ok (.ireturn, 1) := by decide +kernel
theorem fcX12_87 : q_LV RX12 87 yX12_tradeMany cX12_tradeMany 1 (some .int) 0 12 := ⟨q_tb 1510 (by decide +kernel) rfl, q_tb 1512 (by decide +kernel) rfl, q_tbs (q := (yX12_tradeMany, 35)) 82 (by decide +kernel) rfl, q_tb 13 (by decide +kernel) rfl, q_tb 1513 (by decide +kernel) rfl, ⟨by decide +kernel, by decide +kernel, by decide +kernel⟩, TX12, 35, rfl⟩
def fX12_isTrade (r0 : Nat) (v1 : Int32) (X : Mm) : Option (Int32 × Mm) :=
if mT X r0 = 12 then
bd (fX12_tradeMany r0 X) fun w1 X5_2 =>
if mT X5_2 r0 = 12 then
bd (fX12_isIn r0 (((v1).toInt64)) (0 : Int64) ((((w1).toInt64) - (1 : Int64))) X5_2) fun w4 X11_5 =>
if w4 = 0 ∨ w4 = 1 then some (w4, X11_5) else none
else none
else none
theorem sX12_isTrade (r0 : Nat) (v1 : Int32) : q_Ct yX12_isTrade cX12_isTrade 2 (some .boolean) 1 26 0 0 q_eI (fun P => [.ref (P + r0), .int v1]) (fX12_isTrade r0 v1) := by
  refine q_meth (by decide +kernel) (fun P => Nat.le_of_ble_eq_true rfl) (fun E X C hn => ?_)
  show Sm E (q_fin E q_eI X 0 0) 0 0 0 [(0, .ref (q_P E + r0)), (1, .int v1)] [] X _
  unfold fX12_isTrade
  refine q_aload_n C 0 dX12_isTrade_0 rfl rfl ?_
  refine q_iload_n C 1 dX12_isTrade_1 rfl rfl ?_
  refine q_i2l C dX12_isTrade_2 ?_
  refine q_lconst C (0 : Int64) dX12_isTrade_3 rfl ?_
  refine q_aload_n C 0 dX12_isTrade_4 rfl rfl ?_
  refine q_chk (fun h3 => ?_)
  refine q_cVI (As := (fun P => [])) C [.long (0 : Int64), .long ((v1).toInt64), .ref (q_P E + r0)] (sX12_tradeMany r0) fcX12_87 rfl (fun _ => rfl) ⟨Nat.le_of_ble_eq_true rfl, Nat.le_of_ble_eq_true rfl⟩ ⟨Nat.le_of_ble_eq_true rfl, Nat.le_of_ble_eq_true rfl⟩ (Nat.le_of_ble_eq_true rfl) dX12_isTrade_5 h3 (fun w1 X5_2 => ?_)
  refine q_i2l C dX12_isTrade_8 ?_
  refine q_lconst C (1 : Int64) dX12_isTrade_9 rfl ?_
  refine q_lsub C dX12_isTrade_10 ?_
  refine q_chk (fun h6 => ?_)
  refine q_cVI (As := (fun P => [.long ((v1).toInt64), .long (0 : Int64), .long (((w1).toInt64) - (1 : Int64))])) C [] (sX12_isIn r0 (((v1).toInt64)) (0 : Int64) ((((w1).toInt64) - (1 : Int64)))) fcX12_80 rfl (fun _ => rfl) ⟨Nat.le_of_ble_eq_true rfl, Nat.le_of_ble_eq_true rfl⟩ ⟨Nat.le_of_ble_eq_true rfl, Nat.le_of_ble_eq_true rfl⟩ (Nat.le_of_ble_eq_true rfl) dX12_isTrade_11 h6 (fun w4 X11_5 => ?_)
  exact q_zret C dX12_isTrade_14
/-! RecordClaimsModel.isEvent(I)Z -/
abbrev cX12_isEvent : ByteArray := prog_14_method_16_code
def yX12_isEvent : MethodName := ⟨RX12, "isEvent", "(I)Z"⟩
theorem dX12_isEvent_0 : decode cX12_isEvent 0 = .ok (.aload_n 0, 1) := by decide +kernel
theorem dX12_isEvent_1 : decode cX12_isEvent 1 = .ok (.iload_n 1, 1) := by decide +kernel
theorem dX12_isEvent_2 : decode cX12_isEvent 2 = .ok (.i2l, 1) := by decide +kernel
theorem dX12_isEvent_3 : decode cX12_isEvent 3 = .ok (.lconst 0, 1) := by decide +kernel
theorem dX12_isEvent_4 : decode cX12_isEvent 4 = .ok (.aload_n 0, 1) := by decide +kernel
theorem dX12_isEvent_5 : decode cX12_isEvent 5 = .ok (.invokevirtual 91, 3) := by decide +kernel
theorem dX12_isEvent_8 : decode cX12_isEvent 8 = .ok (.i2l, 1) := by decide +kernel
theorem dX12_isEvent_9 : decode cX12_isEvent 9 = .ok (.lconst 1, 1) := by decide +kernel
theorem dX12_isEvent_10 : decode cX12_isEvent 10 = .ok (.lsub, 1) := by decide +kernel
theorem dX12_isEvent_11 : decode cX12_isEvent 11 = .ok (.invokevirtual 80, 3) := by decide +kernel
theorem dX12_isEvent_14 : decode cX12_isEvent 14 = .ok (.ireturn, 1) := by decide +kernel
theorem fcX12_91 : q_LV RX12 91 yX12_eventMany cX12_eventMany 1 (some .int) 0 12 := ⟨q_tb 1531 (by decide +kernel) rfl, q_tb 1533 (by decide +kernel) rfl, q_tbs (q := (yX12_eventMany, 35)) 87 (by decide +kernel) rfl, q_tb 13 (by decide +kernel) rfl, q_tb 1534 (by decide +kernel) rfl, ⟨by decide +kernel, by decide +kernel, by decide +kernel⟩, TX12, 35, rfl⟩
def fX12_isEvent (r0 : Nat) (v1 : Int32) (X : Mm) : Option (Int32 × Mm) :=
if mT X r0 = 12 then
bd (fX12_eventMany r0 X) fun w1 X5_2 =>
if mT X5_2 r0 = 12 then
bd (fX12_isIn r0 (((v1).toInt64)) (0 : Int64) ((((w1).toInt64) - (1 : Int64))) X5_2) fun w4 X11_5 =>
if w4 = 0 ∨ w4 = 1 then some (w4, X11_5) else none
else none
else none
theorem sX12_isEvent (r0 : Nat) (v1 : Int32) : q_Ct yX12_isEvent cX12_isEvent 2 (some .boolean) 1 26 0 0 q_eI (fun P => [.ref (P + r0), .int v1]) (fX12_isEvent r0 v1) := by
  refine q_meth (by decide +kernel) (fun P => Nat.le_of_ble_eq_true rfl) (fun E X C hn => ?_)
  show Sm E (q_fin E q_eI X 0 0) 0 0 0 [(0, .ref (q_P E + r0)), (1, .int v1)] [] X _
  unfold fX12_isEvent
  refine q_aload_n C 0 dX12_isEvent_0 rfl rfl ?_
  refine q_iload_n C 1 dX12_isEvent_1 rfl rfl ?_
  refine q_i2l C dX12_isEvent_2 ?_
  refine q_lconst C (0 : Int64) dX12_isEvent_3 rfl ?_
  refine q_aload_n C 0 dX12_isEvent_4 rfl rfl ?_
  refine q_chk (fun h3 => ?_)
  refine q_cVI (As := (fun P => [])) C [.long (0 : Int64), .long ((v1).toInt64), .ref (q_P E + r0)] (sX12_eventMany r0) fcX12_91 rfl (fun _ => rfl) ⟨Nat.le_of_ble_eq_true rfl, Nat.le_of_ble_eq_true rfl⟩ ⟨Nat.le_of_ble_eq_true rfl, Nat.le_of_ble_eq_true rfl⟩ (Nat.le_of_ble_eq_true rfl) dX12_isEvent_5 h3 (fun w1 X5_2 => ?_)
  refine q_i2l C dX12_isEvent_8 ?_
  refine q_lconst C (1 : Int64) dX12_isEvent_9 rfl ?_
  refine q_lsub C dX12_isEvent_10 ?_
  refine q_chk (fun h6 => ?_)
  refine q_cVI (As := (fun P => [.long ((v1).toInt64), .long (0 : Int64), .long (((w1).toInt64) - (1 : Int64))])) C [] (sX12_isIn r0 (((v1).toInt64)) (0 : Int64) ((((w1).toInt64) - (1 : Int64)))) fcX12_80 rfl (fun _ => rfl) ⟨Nat.le_of_ble_eq_true rfl, Nat.le_of_ble_eq_true rfl⟩ ⟨Nat.le_of_ble_eq_true rfl, Nat.le_of_ble_eq_true rfl⟩ (Nat.le_of_ble_eq_true rfl) dX12_isEvent_11 h6 (fun w4 X11_5 => ?_)
  exact q_zret C dX12_isEvent_14
/-! RecordClaimsModel.sharesOf(JJ)J -/
abbrev cX12_sharesOf : ByteArray := prog_14_method_17_code
def yX12_sharesOf : MethodName := ⟨RX12, "sharesOf", "(JJ)J"⟩
theorem dX12_sharesOf_0 : decode cX12_sharesOf 0 = .ok (.aload_n 0, 1) := by decide +kernel
theorem dX12_sharesOf_1 : decode cX12_sharesOf 1 = .ok (.getfield 11, 3) := by decide +kernel
theorem dX12_sharesOf_4 : decode cX12_sharesOf 4 = .ok (.ldc2_w 94, 3) := by decide +kernel
theorem dX12_sharesOf_7 : decode cX12_sharesOf 7 = .ok (.lload_n 1, 1) := by decide +kernel
theorem dX12_sharesOf_8 : decode cX12_sharesOf 8 = .ok (.lmul, 1) := by decide +kernel
theorem dX12_sharesOf_9 : decode cX12_sharesOf 9 = .ok (.lload_n 3, 1) := by decide +kernel
theorem dX12_sharesOf_10 : decode cX12_sharesOf 10 = .ok (.ladd, 1) := by decide +kernel
theorem dX12_sharesOf_11 : decode cX12_sharesOf 11 = .ok (.l2i, 1) := by decide +kernel
theorem dX12_sharesOf_12 : decode cX12_sharesOf 12 = .ok (.laload, 1) := by decide +kernel
theorem dX12_sharesOf_13 : decode cX12_sharesOf 13 = .ok (.lreturn, 1) := by decide +kernel
theorem fkX12_94 : Cond.constantLong RX12 94 (5 : Int64) ∈ q_tbl := q_tb 1591 (by decide +kernel) rfl
def fX12_sharesOf (r0 : Nat) (v1 : Int64) (v3 : Int64) (X : Mm) : Option (Int64 × Mm) :=
if mT X r0 = 12 then
if mR X r0 1 ≠ 0 then
if mT X (mR X r0 1) = 15 then
if q_b X (mR X r0 1) (((((5 : Int64) * v1) + v3)).toInt32) then
some ((mJ X (mR X r0 1) ((((((5 : Int64) * v1) + v3)).toInt32)).toNatClampNeg), X)
else none
else none
else none
else none
theorem sX12_sharesOf (r0 : Nat) (v1 : Int64) (v3 : Int64) : q_Ct yX12_sharesOf cX12_sharesOf 5 (some .long) 0 0 0 0 q_eL (fun P => [.ref (P + r0), .long v1, .long v3]) (fX12_sharesOf r0 v1 v3) := by
  refine q_meth (by decide +kernel) (fun P => Nat.le_of_ble_eq_true rfl) (fun E X C hn => ?_)
  show Sm E (q_fin E q_eL X 0 0) 0 0 0 [(0, .ref (q_P E + r0)), (1, .long v1), (3, .long v3)] [] X _
  unfold fX12_sharesOf
  refine q_aload_n C 0 dX12_sharesOf_0 rfl rfl ?_
  refine q_chk (fun h1 => ?_)
  refine q_chk (fun h2 => ?_)
  refine p_getR C fgX12_11 rfl dX12_sharesOf_1 h1 h2 ?_
  refine q_ldc2 C dX12_sharesOf_4 fkX12_94 ?_
  refine q_lload_n C 1 dX12_sharesOf_7 rfl rfl ?_
  refine q_lmul C dX12_sharesOf_8 ?_
  refine q_lload_n C 2 dX12_sharesOf_9 rfl rfl ?_
  refine q_ladd C dX12_sharesOf_10 ?_
  refine q_l2i C dX12_sharesOf_11 ?_
  refine q_chk (fun h3 => ?_)
  refine q_chk (fun h4 => ?_)
  refine p_lald C dX12_sharesOf_12 h3 h4 ?_
  exact q_lret C dX12_sharesOf_13
/-! RecordClaimsModel.givesShares(JJJ)V -/
abbrev cX12_givesShares : ByteArray := prog_14_method_18_code
def yX12_givesShares : MethodName := ⟨RX12, "givesShares", "(JJJ)V"⟩
theorem dX12_givesShares_0 : decode cX12_givesShares 0 = .ok (.aload_n 0, 1) := by decide +kernel
theorem dX12_givesShares_1 : decode cX12_givesShares 1 = .ok (.getfield 11, 3) := by decide +kernel
theorem dX12_givesShares_4 : decode cX12_givesShares 4 = .ok (.ldc2_w 94, 3) := by decide +kernel
theorem dX12_givesShares_7 : decode cX12_givesShares 7 = .ok (.lload_n 1, 1) := by decide +kernel
theorem dX12_givesShares_8 : decode cX12_givesShares 8 = .ok (.lmul, 1) := by decide +kernel
theorem dX12_givesShares_9 : decode cX12_givesShares 9 = .ok (.lload_n 3, 1) := by decide +kernel
theorem dX12_givesShares_10 : decode cX12_givesShares 10 = .ok (.ladd, 1) := by decide +kernel
theorem dX12_givesShares_11 : decode cX12_givesShares 11 = .ok (.l2i, 1) := by decide +kernel
theorem dX12_givesShares_12 : decode cX12_givesShares 12 = .ok (.aload_n 0, 1) := by decide +kernel
theorem dX12_givesShares_13 : decode cX12_givesShares 13 = .ok (.getfield 11, 3) := by decide +kernel
theorem dX12_givesShares_16 : decode cX12_givesShares 16 = .ok (.ldc2_w 94, 3) := by decide +kernel
theorem dX12_givesShares_19 : decode cX12_givesShares 19 = .ok (.lload_n 1, 1) := by decide +kernel
theorem dX12_givesShares_20 : decode cX12_givesShares 20 = .ok (.lmul, 1) := by decide +kernel
theorem dX12_givesShares_21 : decode cX12_givesShares 21 = .ok (.lload_n 3, 1) := by decide +kernel
theorem dX12_givesShares_22 : decode cX12_givesShares 22 = .ok (.ladd, 1) := by decide +kernel
theorem dX12_givesShares_23 : decode cX12_givesShares 23 = .ok (.l2i, 1) := by decide +kernel
theorem dX12_givesShares_24 : decode cX12_givesShares 24 = .ok (.laload, 1) := by decide +kernel
theorem dX12_givesShares_25 : decode cX12_givesShares 25 = .ok (.lload 5, 2) := by decide +kernel
theorem dX12_givesShares_27 : decode cX12_givesShares 27 = .ok (.ladd, 1) := by decide +kernel
theorem dX12_givesShares_28 : decode cX12_givesShares 28 = .ok (.lastore, 1) := by decide +kernel
theorem dX12_givesShares_29 : decode cX12_givesShares 29 = .ok (.return_, 1) := by decide +kernel
def fX12_givesShares (r0 : Nat) (v1 : Int64) (v3 : Int64) (v5 : Int64) (X : Mm) : Option (Unit × Mm) :=
if mT X r0 = 12 then
if mR X r0 1 ≠ 0 then
if mT X (mR X r0 1) = 15 then
if q_b X (mR X r0 1) (((((5 : Int64) * v1) + v3)).toInt32) then
nm (sJ X (mR X r0 1) ((((((5 : Int64) * v1) + v3)).toInt32)).toNatClampNeg ((mJ X (mR X r0 1) ((((((5 : Int64) * v1) + v3)).toInt32)).toNatClampNeg) + v5)) fun X28_5 =>
some ((), X28_5)
else none
else none
else none
else none
theorem sX12_givesShares (r0 : Nat) (v1 : Int64) (v3 : Int64) (v5 : Int64) : q_Ct yX12_givesShares cX12_givesShares 7 none 0 0 0 0 q_eV (fun P => [.ref (P + r0), .long v1, .long v3, .long v5]) (fX12_givesShares r0 v1 v3 v5) := by
  refine q_meth (by decide +kernel) (fun P => Nat.le_of_ble_eq_true rfl) (fun E X C hn => ?_)
  show Sm E (q_fin E q_eV X 0 0) 0 0 0 [(0, .ref (q_P E + r0)), (1, .long v1), (3, .long v3), (5, .long v5)] [] X _
  unfold fX12_givesShares
  refine q_aload_n C 0 dX12_givesShares_0 rfl rfl ?_
  refine q_chk (fun h1 => ?_)
  refine q_chk (fun h2 => ?_)
  refine p_getR C fgX12_11 rfl dX12_givesShares_1 h1 h2 ?_
  refine q_ldc2 C dX12_givesShares_4 fkX12_94 ?_
  refine q_lload_n C 1 dX12_givesShares_7 rfl rfl ?_
  refine q_lmul C dX12_givesShares_8 ?_
  refine q_lload_n C 2 dX12_givesShares_9 rfl rfl ?_
  refine q_ladd C dX12_givesShares_10 ?_
  refine q_l2i C dX12_givesShares_11 ?_
  refine q_aload_n C 0 dX12_givesShares_12 rfl rfl ?_
  refine p_getR C fgX12_11 rfl dX12_givesShares_13 h1 h2 ?_
  refine q_ldc2 C dX12_givesShares_16 fkX12_94 ?_
  refine q_lload_n C 1 dX12_givesShares_19 rfl rfl ?_
  refine q_lmul C dX12_givesShares_20 ?_
  refine q_lload_n C 2 dX12_givesShares_21 rfl rfl ?_
  refine q_ladd C dX12_givesShares_22 ?_
  refine q_l2i C dX12_givesShares_23 ?_
  refine q_chk (fun h3 => ?_)
  refine q_chk (fun h4 => ?_)
  refine p_lald C dX12_givesShares_24 h3 h4 ?_
  refine q_lload C 3 dX12_givesShares_25 rfl ?_
  refine q_ladd C dX12_givesShares_27 ?_
  refine p_last C dX12_givesShares_28 h3 h4 ?_
  refine q_nmX (fun X28_5 => ?_)
  exact q_vret C dX12_givesShares_29
/-! RecordClaimsModel.givesMoney(JJ)V -/
abbrev cX12_givesMoney : ByteArray := prog_14_method_19_code
def yX12_givesMoney : MethodName := ⟨RX12, "givesMoney", "(JJ)V"⟩
theorem dX12_givesMoney_0 : decode cX12_givesMoney 0 = .ok (.aload_n 0, 1) := by decide +kernel
theorem dX12_givesMoney_1 : decode cX12_givesMoney 1 = .ok (.getfield 11, 3) := by decide +kernel
theorem dX12_givesMoney_4 : decode cX12_givesMoney 4 = .ok (.ldc2_w 96, 3) := by decide +kernel
theorem dX12_givesMoney_7 : decode cX12_givesMoney 7 = .ok (.lload_n 1, 1) := by decide +kernel
theorem dX12_givesMoney_8 : decode cX12_givesMoney 8 = .ok (.ladd, 1) := by decide +kernel
theorem dX12_givesMoney_9 : decode cX12_givesMoney 9 = .ok (.l2i, 1) := by decide +kernel
theorem dX12_givesMoney_10 : decode cX12_givesMoney 10 = .ok (.aload_n 0, 1) := by decide +kernel
theorem dX12_givesMoney_11 : decode cX12_givesMoney 11 = .ok (.getfield 11, 3) := by decide +kernel
theorem dX12_givesMoney_14 : decode cX12_givesMoney 14 = .ok (.ldc2_w 96, 3) := by decide +kernel
theorem dX12_givesMoney_17 : decode cX12_givesMoney 17 = .ok (.lload_n 1, 1) := by decide +kernel
theorem dX12_givesMoney_18 : decode cX12_givesMoney 18 = .ok (.ladd, 1) := by decide +kernel
theorem dX12_givesMoney_19 : decode cX12_givesMoney 19 = .ok (.l2i, 1) := by decide +kernel
theorem dX12_givesMoney_20 : decode cX12_givesMoney 20 = .ok (.laload, 1) := by decide +kernel
theorem dX12_givesMoney_21 : decode cX12_givesMoney 21 = .ok (.lload_n 3, 1) := by decide +kernel
theorem dX12_givesMoney_22 : decode cX12_givesMoney 22 = .ok (.ladd, 1) := by decide +kernel
theorem dX12_givesMoney_23 : decode cX12_givesMoney 23 = .ok (.lastore, 1) := by decide +kernel
theorem dX12_givesMoney_24 : decode cX12_givesMoney 24 = .ok (.return_, 1) := by decide +kernel
theorem fkX12_96 : Cond.constantLong RX12 96 (50 : Int64) ∈ q_tbl := q_tb 1604 (by decide +kernel) rfl
def fX12_givesMoney (r0 : Nat) (v1 : Int64) (v3 : Int64) (X : Mm) : Option (Unit × Mm) :=
if mT X r0 = 12 then
if mR X r0 1 ≠ 0 then
if mT X (mR X r0 1) = 15 then
if q_b X (mR X r0 1) ((((50 : Int64) + v1)).toInt32) then
nm (sJ X (mR X r0 1) (((((50 : Int64) + v1)).toInt32)).toNatClampNeg ((mJ X (mR X r0 1) (((((50 : Int64) + v1)).toInt32)).toNatClampNeg) + v3)) fun X23_5 =>
some ((), X23_5)
else none
else none
else none
else none
theorem sX12_givesMoney (r0 : Nat) (v1 : Int64) (v3 : Int64) : q_Ct yX12_givesMoney cX12_givesMoney 5 none 0 0 0 0 q_eV (fun P => [.ref (P + r0), .long v1, .long v3]) (fX12_givesMoney r0 v1 v3) := by
  refine q_meth (by decide +kernel) (fun P => Nat.le_of_ble_eq_true rfl) (fun E X C hn => ?_)
  show Sm E (q_fin E q_eV X 0 0) 0 0 0 [(0, .ref (q_P E + r0)), (1, .long v1), (3, .long v3)] [] X _
  unfold fX12_givesMoney
  refine q_aload_n C 0 dX12_givesMoney_0 rfl rfl ?_
  refine q_chk (fun h1 => ?_)
  refine q_chk (fun h2 => ?_)
  refine p_getR C fgX12_11 rfl dX12_givesMoney_1 h1 h2 ?_
  refine q_ldc2 C dX12_givesMoney_4 fkX12_96 ?_
  refine q_lload_n C 1 dX12_givesMoney_7 rfl rfl ?_
  refine q_ladd C dX12_givesMoney_8 ?_
  refine q_l2i C dX12_givesMoney_9 ?_
  refine q_aload_n C 0 dX12_givesMoney_10 rfl rfl ?_
  refine p_getR C fgX12_11 rfl dX12_givesMoney_11 h1 h2 ?_
  refine q_ldc2 C dX12_givesMoney_14 fkX12_96 ?_
  refine q_lload_n C 1 dX12_givesMoney_17 rfl rfl ?_
  refine q_ladd C dX12_givesMoney_18 ?_
  refine q_l2i C dX12_givesMoney_19 ?_
  refine q_chk (fun h3 => ?_)
  refine q_chk (fun h4 => ?_)
  refine p_lald C dX12_givesMoney_20 h3 h4 ?_
  refine q_lload_n C 2 dX12_givesMoney_21 rfl rfl ?_
  refine q_ladd C dX12_givesMoney_22 ?_
  refine p_last C dX12_givesMoney_23 h3 h4 ?_
  refine q_nmX (fun X23_5 => ?_)
  exact q_vret C dX12_givesMoney_24
