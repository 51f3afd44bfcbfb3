theorem dX6_init_0 : decode cX6_init 0 = .ok (.aload_n 0, 1) := by decide +kernel
theorem dX6_init_1 : decode cX6_init 1 = .ok (.invokespecial 3, 3) := by decide +kernel
theorem dX6_init_4 : decode cX6_init 4 = .ok (.aload_n 0, 1) := by decide +kernel
theorem dX6_init_5 : decode cX6_init 5 = .ok (.bipush 49, 2) := by decide +kernel
theorem dX6_init_7 : decode cX6_init 7 = .ok (.newarray .int, 2) := by decide +kernel
theorem dX6_init_9 : decode cX6_init 9 = .ok (.putfield 11, 3) := by decide +kernel
theorem dX6_init_12 : decode cX6_init 12 = .ok (.aload_n 0, 1) := by decide +kernel
theorem dX6_init_13 : decode cX6_init 13 = .ok (.bipush 49, 2) := by decide +kernel
theorem dX6_init_15 : decode cX6_init 15 = .ok (.newarray .int, 2) := by decide +kernel
theorem dX6_init_17 : decode cX6_init 17 = .ok (.putfield 15, 3) := by decide +kernel
theorem dX6_init_20 : decode cX6_init 20 = .ok (.aload_n 0, 1) := by decide +kernel
theorem dX6_init_21 : decode cX6_init 21 = .ok (.sipush 201, 3) := by decide +kernel
theorem dX6_init_24 : decode cX6_init 24 = .ok (.newarray .int, 2) := by decide +kernel
theorem dX6_init_26 : decode cX6_init 26 = .ok (.putfield 18, 3) := by decide +kernel
theorem dX6_init_29 : decode cX6_init 29 = .ok (.aload_n 0, 1) := by decide +kernel
theorem dX6_init_30 : decode cX6_init 30 = .ok (.sipush 201, 3) := by decide +kernel
theorem dX6_init_33 : decode cX6_init 33 = .ok (.newarray .int, 2) := by decide +kernel
theorem dX6_init_35 : decode cX6_init 35 = .ok (.putfield 21, 3) := by decide +kernel
theorem dX6_init_38 : decode cX6_init 38 = .ok (.aload_n 0, 1) := by decide +kernel
theorem dX6_init_39 : decode cX6_init 39 = .ok (.sipush 201, 3) := by decide +kernel
theorem dX6_init_42 : decode cX6_init 42 = .ok (.newarray .int, 2) := by decide +kernel
theorem dX6_init_44 : decode cX6_init 44 = .ok (.putfield 24, 3) := by decide +kernel
theorem dX6_init_47 : decode cX6_init 47 = .ok (.aload_n 0, 1) := by decide +kernel
theorem dX6_init_48 : decode cX6_init 48 = .ok (.sipush 201, 3) := by decide +kernel
theorem dX6_init_51 : decode cX6_init 51 = .ok (.newarray .int, 2) := by decide +kernel
theorem dX6_init_53 : decode cX6_init 53 = .ok (.putfield 27, 3) := by decide +kernel
theorem dX6_init_56 : decode cX6_init 56 = .ok (.aload_n 0, 1) := by decide +kernel
theorem dX6_init_57 : decode cX6_init 57 = .ok (.sipush 201, 3) := by decide +kernel
theorem dX6_init_60 : decode cX6_init 60 = .ok (.newarray .int, 2) := by decide +kernel
theorem dX6_init_62 : decode cX6_init 62 = .ok (.putfield 30, 3) := by decide +kernel
theorem dX6_init_65 : decode cX6_init 65 = .ok (.aload_n 0, 1) := by decide +kernel
theorem dX6_init_66 : decode cX6_init 66 = .ok (.iconst 4, 1) := by decide +kernel
theorem dX6_init_67 : decode cX6_init 67 = .ok (.newarray .int, 2) := by decide +kernel
theorem dX6_init_69 : decode cX6_init 69 = .ok (.dup, 1) := by decide +kernel
theorem dX6_init_70 : decode cX6_init 70 = .ok (.iconst 0, 1) := by decide +kernel
theorem dX6_init_71 : decode cX6_init 71 = .ok (.iconst (-1), 1) := by decide +kernel
theorem dX6_init_72 : decode cX6_init 72 = .ok (.iastore, 1) := by decide +kernel
theorem dX6_init_73 : decode cX6_init 73 = .ok (.dup, 1) := by decide +kernel
theorem dX6_init_74 : decode cX6_init 74 = .ok (.iconst 1, 1) := by decide +kernel
theorem dX6_init_75 : decode cX6_init 75 = .ok (.iconst (-1), 1) := by decide +kernel
theorem dX6_init_76 : decode cX6_init 76 = .ok (.iastore, 1) := by decide +kernel
theorem dX6_init_77 : decode cX6_init 77 = .ok (.dup, 1) := by decide +kernel
theorem dX6_init_78 : decode cX6_init 78 = .ok (.iconst 2, 1) := by decide +kernel
theorem dX6_init_79 : decode cX6_init 79 = .ok (.iconst (-1), 1) := by decide +kernel
theorem dX6_init_80 : decode cX6_init 80 = .ok (.iastore, 1) := by decide +kernel
theorem dX6_init_81 : decode cX6_init 81 = .ok (.dup, 1) := by decide +kernel
theorem dX6_init_82 : decode cX6_init 82 = .ok (.iconst 3, 1) := by decide +kernel
theorem dX6_init_83 : decode cX6_init 83 = .ok (.iconst (-1), 1) := by decide +kernel
theorem dX6_init_84 : decode cX6_init 84 = .ok (.iastore, 1) := by decide +kernel
theorem dX6_init_85 : decode cX6_init 85 = .ok (.putfield 33, 3) := by decide +kernel
theorem dX6_init_88 : decode cX6_init 88 = .ok (.aload_n 0, 1) := by decide +kernel
theorem dX6_init_89 : decode cX6_init 89 = .ok (.iconst 4, 1) := by decide +kernel
theorem dX6_init_90 : decode cX6_init 90 = .ok (.newarray .int, 2) := by decide +kernel
theorem dX6_init_92 : decode cX6_init 92 = .ok (.putfield 36, 3) := by decide +kernel
theorem dX6_init_95 : decode cX6_init 95 = .ok (.aload_n 0, 1) := by decide +kernel
theorem dX6_init_96 : decode cX6_init 96 = .ok (.sipush 160, 3) := by decide +kernel
theorem dX6_init_99 : decode cX6_init 99 = .ok (.newarray .int, 2) := by decide +kernel
theorem dX6_init_101 : decode cX6_init 101 = .ok (.putfield 39, 3) := by decide +kernel
theorem dX6_init_104 : decode cX6_init 104 = .ok (.aload_n 0, 1) := by decide +kernel
theorem dX6_init_105 : decode cX6_init 105 = .ok (.bipush 40, 2) := by decide +kernel
theorem dX6_init_107 : decode cX6_init 107 = .ok (.newarray .int, 2) := by decide +kernel
theorem dX6_init_109 : decode cX6_init 109 = .ok (.putfield 42, 3) := by decide +kernel
theorem dX6_init_112 : decode cX6_init 112 = .ok (.aload_n 0, 1) := by decide +kernel
theorem dX6_init_113 : decode cX6_init 113 = .ok (.sipush 201, 3) := by decide +kernel
theorem dX6_init_116 : decode cX6_init 116 = .ok (.newarray .int, 2) := by decide +kernel
theorem dX6_init_118 : decode cX6_init 118 = .ok (.putfield 45, 3) := by decide +kernel
theorem dX6_init_121 : decode cX6_init 121 = .ok (.aload_n 0, 1) := by decide +kernel
theorem dX6_init_122 : decode cX6_init 122 = .ok (.sipush 201, 3) := by decide +kernel
theorem dX6_init_125 : decode cX6_init 125 = .ok (.newarray .int, 2) := by decide +kernel
theorem dX6_init_127 : decode cX6_init 127 = .ok (.putfield 48, 3) := by decide +kernel
theorem dX6_init_130 : decode cX6_init 130 = .ok (.aload_n 0, 1) := by decide +kernel
theorem dX6_init_131 : decode cX6_init 131 = .ok (.bipush 60, 2) := by decide +kernel
theorem dX6_init_133 : decode cX6_init 133 = .ok (.newarray .int, 2) := by decide +kernel
theorem dX6_init_135 : decode cX6_init 135 = .ok (.putfield 51, 3) := by decide +kernel
theorem dX6_init_138 : decode cX6_init 138 = .ok (.aload_n 0, 1) := by decide +kernel
theorem dX6_init_139 : decode cX6_init 139 = .ok (.bipush 22, 2) := by decide +kernel
theorem dX6_init_141 : decode cX6_init 141 = .ok (.newarray .char, 2) := by decide +kernel
theorem dX6_init_143 : decode cX6_init 143 = .ok (.dup, 1) := by decide +kernel
theorem dX6_init_144 : decode cX6_init 144 = .ok (.iconst 0, 1) := by decide +kernel
theorem dX6_init_145 : decode cX6_init 145 = .ok (.bipush 112, 2) := by decide +kernel
theorem dX6_init_147 : decode cX6_init 147 = .ok (.castore, 1) := by decide +kernel
theorem dX6_init_148 : decode cX6_init 148 = .ok (.dup, 1) := by decide +kernel
theorem dX6_init_149 : decode cX6_init 149 = .ok (.iconst 1, 1) := by decide +kernel
theorem dX6_init_150 : decode cX6_init 150 = .ok (.bipush 105, 2) := by decide +kernel
theorem dX6_init_152 : decode cX6_init 152 = .ok (.castore, 1) := by decide +kernel
theorem dX6_init_153 : decode cX6_init 153 = .ok (.dup, 1) := by decide +kernel
theorem dX6_init_154 : decode cX6_init 154 = .ok (.iconst 2, 1) := by decide +kernel
theorem dX6_init_155 : decode cX6_init 155 = .ok (.bipush 101, 2) := by decide +kernel
theorem dX6_init_157 : decode cX6_init 157 = .ok (.castore, 1) := by decide +kernel
theorem dX6_init_158 : decode cX6_init 158 = .ok (.dup, 1) := by decide +kernel
theorem dX6_init_159 : decode cX6_init 159 = .ok (.iconst 3, 1) := by decide +kernel
theorem dX6_init_160 : decode cX6_init 160 = .ok (.bipush 99, 2) := by decide +kernel
theorem dX6_init_162 : decode cX6_init 162 = .ok (.castore, 1) := by decide +kernel
theorem dX6_init_163 : decode cX6_init 163 = .ok (.dup, 1) := by decide +kernel
theorem dX6_init_164 : decode cX6_init 164 = .ok (.iconst 4, 1) := by decide +kernel
theorem dX6_init_165 : decode cX6_init 165 = .ok (.bipush 101, 2) := by decide +kernel
theorem dX6_init_167 : decode cX6_init 167 = .ok (.castore, 1) := by decide +kernel
theorem dX6_init_168 : decode cX6_init 168 = .ok (.dup, 1) := by decide +kernel
theorem dX6_init_169 : decode cX6_init 169 = .ok (.iconst 5, 1) := by decide +kernel
theorem dX6_init_170 : decode cX6_init 170 = .ok (.bipush 98, 2) := by decide +kernel
theorem dX6_init_172 : decode cX6_init 172 = .ok (.castore, 1) := by decide +kernel
theorem dX6_init_173 : decode cX6_init 173 = .ok (.dup, 1) := by decide +kernel
theorem dX6_init_174 : decode cX6_init 174 = .ok (.bipush 6, 2) := by decide +kernel
theorem dX6_init_176 : decode cX6_init 176 = .ok (.bipush 101, 2) := by decide +kernel
theorem dX6_init_178 : decode cX6_init 178 = .ok (.castore, 1) := by decide +kernel
theorem dX6_init_179 : decode cX6_init 179 = .ok (.dup, 1) := by decide +kernel
theorem dX6_init_180 : decode cX6_init 180 = .ok (.bipush 7, 2) := by decide +kernel
theorem dX6_init_182 : decode cX6_init 182 = .ok (.bipush 110, 2) := by decide +kernel
theorem dX6_init_184 : decode cX6_init 184 = .ok (.castore, 1) := by decide +kernel
theorem dX6_init_185 : decode cX6_init 185 = .ok (.dup, 1) := by decide +kernel
theorem dX6_init_186 : decode cX6_init 186 = .ok (.bipush 8, 2) := by decide +kernel
theorem dX6_init_188 : decode cX6_init 188 = .ok (.bipush 100, 2) := by decide +kernel
theorem dX6_init_190 : decode cX6_init 190 = .ok (.castore, 1) := by decide +kernel
theorem dX6_init_191 : decode cX6_init 191 = .ok (.dup, 1) := by decide +kernel
theorem dX6_init_192 : decode cX6_init 192 = .ok (.bipush 9, 2) := by decide +kernel
theorem dX6_init_194 : decode cX6_init 194 = .ok (.bipush 99, 2) := by decide +kernel
theorem dX6_init_196 : decode cX6_init 196 = .ok (.castore, 1) := by decide +kernel
theorem dX6_init_197 : decode cX6_init 197 = .ok (.dup, 1) := by decide +kernel
theorem dX6_init_198 : decode cX6_init 198 = .ok (.bipush 10, 2) := by decide +kernel
theorem dX6_init_200 : decode cX6_init 200 = .ok (.bipush 97, 2) := by decide +kernel
theorem dX6_init_202 : decode cX6_init 202 = .ok (.castore, 1) := by decide +kernel
theorem dX6_init_203 : decode cX6_init 203 = .ok (.dup, 1) := by decide +kernel
theorem dX6_init_204 : decode cX6_init 204 = .ok (.bipush 11, 2) := by decide +kernel
theorem dX6_init_206 : decode cX6_init 206 = .ok (.bipush 110, 2) := by decide +kernel
theorem dX6_init_208 : decode cX6_init 208 = .ok (.castore, 1) := by decide +kernel
theorem dX6_init_209 : decode cX6_init 209 = .ok (.dup, 1) := by decide +kernel
theorem dX6_init_210 : decode cX6_init 210 = .ok (.bipush 12, 2) := by decide +kernel
theorem dX6_init_212 : decode cX6_init 212 = .ok (.bipush 116, 2) := by decide +kernel
theorem dX6_init_214 : decode cX6_init 214 = .ok (.castore, 1) := by decide +kernel
theorem dX6_init_215 : decode cX6_init 215 = .ok (.dup, 1) := by decide +kernel
theorem dX6_init_216 : decode cX6_init 216 = .ok (.bipush 13, 2) := by decide +kernel
theorem dX6_init_218 : decode cX6_init 218 = .ok (.bipush 115, 2) := by decide +kernel
theorem dX6_init_220 : decode cX6_init 220 = .ok (.castore, 1) := by decide +kernel
theorem dX6_init_221 : decode cX6_init 221 = .ok (.dup, 1) := by decide +kernel
theorem dX6_init_222 : decode cX6_init 222 = .ok (.bipush 14, 2) := by decide +kernel
theorem dX6_init_224 : decode cX6_init 224 = .ok (.bipush 112, 2) := by decide +kernel
theorem dX6_init_226 : decode cX6_init 226 = .ok (.castore, 1) := by decide +kernel
theorem dX6_init_227 : decode cX6_init 227 = .ok (.dup, 1) := by decide +kernel
theorem dX6_init_228 : decode cX6_init 228 = .ok (.bipush 15, 2) := by decide +kernel
theorem dX6_init_230 : decode cX6_init 230 = .ok (.bipush 101, 2) := by decide +kernel
theorem dX6_init_232 : decode cX6_init 232 = .ok (.castore, 1) := by decide +kernel
theorem dX6_init_233 : decode cX6_init 233 = .ok (.dup, 1) := by decide +kernel
theorem dX6_init_234 : decode cX6_init 234 = .ok (.bipush 16, 2) := by decide +kernel
theorem dX6_init_236 : decode cX6_init 236 = .ok (.bipush 101, 2) := by decide +kernel
theorem dX6_init_238 : decode cX6_init 238 = .ok (.castore, 1) := by decide +kernel
theorem dX6_init_239 : decode cX6_init 239 = .ok (.dup, 1) := by decide +kernel
theorem dX6_init_240 : decode cX6_init 240 = .ok (.bipush 17, 2) := by decide +kernel
theorem dX6_init_242 : decode cX6_init 242 = .ok (.bipush 100, 2) := by decide +kernel
theorem dX6_init_244 : decode cX6_init 244 = .ok (.castore, 1) := by decide +kernel
theorem dX6_init_245 : decode cX6_init 245 = .ok (.dup, 1) := by decide +kernel
theorem dX6_init_246 : decode cX6_init 246 = .ok (.bipush 18, 2) := by decide +kernel
theorem dX6_init_248 : decode cX6_init 248 = .ok (.bipush 100, 2) := by decide +kernel
theorem dX6_init_250 : decode cX6_init 250 = .ok (.castore, 1) := by decide +kernel
theorem dX6_init_251 : decode cX6_init 251 = .ok (.dup, 1) := by decide +kernel
theorem dX6_init_252 : decode cX6_init 252 = .ok (.bipush 19, 2) := by decide +kernel
theorem dX6_init_254 : decode cX6_init 254 = .ok (.bipush 114, 2) := by decide +kernel
theorem dX6_init_256 : decode cX6_init 256 = .ok (.castore, 1) := by decide +kernel
theorem dX6_init_257 : decode cX6_init 257 = .ok (.dup, 1) := by decide +kernel
theorem dX6_init_258 : decode cX6_init 258 = .ok (.bipush 20, 2) := by decide +kernel
theorem dX6_init_260 : decode cX6_init 260 = .ok (.bipush 111, 2) := by decide +kernel
theorem dX6_init_262 : decode cX6_init 262 = .ok (.castore, 1) := by decide +kernel
theorem dX6_init_263 : decode cX6_init 263 = .ok (.dup, 1) := by decide +kernel
theorem dX6_init_264 : decode cX6_init 264 = .ok (.bipush 21, 2) := by decide +kernel
theorem dX6_init_266 : decode cX6_init 266 = .ok (.bipush 112, 2) := by decide +kernel
theorem dX6_init_268 : decode cX6_init 268 = .ok (.castore, 1) := by decide +kernel
theorem dX6_init_269 : decode cX6_init 269 = .ok (.putfield 54, 3) := by decide +kernel
theorem dX6_init_272 : decode cX6_init 272 = .ok (.aload_n 0, 1) := by decide +kernel
theorem dX6_init_273 : decode cX6_init 273 = .ok (.bipush 6, 2) := by decide +kernel
theorem dX6_init_275 : decode cX6_init 275 = .ok (.newarray .int, 2) := by decide +kernel
theorem dX6_init_277 : decode cX6_init 277 = .ok (.dup, 1) := by decide +kernel
theorem dX6_init_278 : decode cX6_init 278 = .ok (.iconst 0, 1) := by decide +kernel
theorem dX6_init_279 : decode cX6_init 279 = .ok (.iconst 0, 1) := by decide +kernel
theorem dX6_init_280 : decode cX6_init 280 = .ok (.iastore, 1) := by decide +kernel
theorem dX6_init_281 : decode cX6_init 281 = .ok (.dup, 1) := by decide +kernel
theorem dX6_init_282 : decode cX6_init 282 = .ok (.iconst 1, 1) := by decide +kernel
theorem dX6_init_283 : decode cX6_init 283 = .ok (.iconst 5, 1) := by decide +kernel
theorem dX6_init_284 : decode cX6_init 284 = .ok (.iastore, 1) := by decide +kernel
theorem dX6_init_285 : decode cX6_init 285 = .ok (.dup, 1) := by decide +kernel
theorem dX6_init_286 : decode cX6_init 286 = .ok (.iconst 2, 1) := by decide +kernel
theorem dX6_init_287 : decode cX6_init 287 = .ok (.bipush 9, 2) := by decide +kernel
theorem dX6_init_289 : decode cX6_init 289 = .ok (.iastore, 1) := by decide +kernel
theorem dX6_init_290 : decode cX6_init 290 = .ok (.dup, 1) := by decide +kernel
theorem dX6_init_291 : decode cX6_init 291 = .ok (.iconst 3, 1) := by decide +kernel
theorem dX6_init_292 : decode cX6_init 292 = .ok (.bipush 13, 2) := by decide +kernel
theorem dX6_init_294 : decode cX6_init 294 = .ok (.iastore, 1) := by decide +kernel
theorem dX6_init_295 : decode cX6_init 295 = .ok (.dup, 1) := by decide +kernel
theorem dX6_init_296 : decode cX6_init 296 = .ok (.iconst 4, 1) := by decide +kernel
theorem dX6_init_297 : decode cX6_init 297 = .ok (.bipush 18, 2) := by decide +kernel
theorem dX6_init_299 : decode cX6_init 299 = .ok (.iastore, 1) := by decide +kernel
theorem dX6_init_300 : decode cX6_init 300 = .ok (.dup, 1) := by decide +kernel
theorem dX6_init_301 : decode cX6_init 301 = .ok (.iconst 5, 1) := by decide +kernel
theorem dX6_init_302 : decode cX6_init 302 = .ok (.bipush 22, 2) := by decide +kernel
theorem dX6_init_304 : decode cX6_init 304 = .ok (.iastore, 1) := by decide +kernel
theorem dX6_init_305 : decode cX6_init 305 = .ok (.putfield 58, 3) := by decide +kernel
theorem dX6_init_308 : decode cX6_init 308 = .ok (.aload_n 0, 1) := by decide +kernel
theorem dX6_init_309 : decode cX6_init 309 = .ok (.iconst 5, 1) := by decide +kernel
theorem dX6_init_310 : decode cX6_init 310 = .ok (.newarray .int, 2) := by decide +kernel
theorem dX6_init_312 : decode cX6_init 312 = .ok (.dup, 1) := by decide +kernel
theorem dX6_init_313 : decode cX6_init 313 = .ok (.iconst 0, 1) := by decide +kernel
theorem dX6_init_314 : decode cX6_init 314 = .ok (.iconst 4, 1) := by decide +kernel
theorem dX6_init_315 : decode cX6_init 315 = .ok (.iastore, 1) := by decide +kernel
theorem dX6_init_316 : decode cX6_init 316 = .ok (.dup, 1) := by decide +kernel
theorem dX6_init_317 : decode cX6_init 317 = .ok (.iconst 1, 1) := by decide +kernel
theorem dX6_init_318 : decode cX6_init 318 = .ok (.iconst 2, 1) := by decide +kernel
theorem dX6_init_319 : decode cX6_init 319 = .ok (.iastore, 1) := by decide +kernel
theorem dX6_init_320 : decode cX6_init 320 = .ok (.dup, 1) := by decide +kernel
theorem dX6_init_321 : decode cX6_init 321 = .ok (.iconst 2, 1) := by decide +kernel
theorem dX6_init_322 : decode cX6_init 322 = .ok (.iconst 2, 1) := by decide +kernel
theorem dX6_init_323 : decode cX6_init 323 = .ok (.iastore, 1) := by decide +kernel
theorem dX6_init_324 : decode cX6_init 324 = .ok (.dup, 1) := by decide +kernel
theorem dX6_init_325 : decode cX6_init 325 = .ok (.iconst 3, 1) := by decide +kernel
theorem dX6_init_326 : decode cX6_init 326 = .ok (.iconst 1, 1) := by decide +kernel
theorem dX6_init_327 : decode cX6_init 327 = .ok (.iastore, 1) := by decide +kernel
theorem dX6_init_328 : decode cX6_init 328 = .ok (.dup, 1) := by decide +kernel
theorem dX6_init_329 : decode cX6_init 329 = .ok (.iconst 4, 1) := by decide +kernel
theorem dX6_init_330 : decode cX6_init 330 = .ok (.iconst 0, 1) := by decide +kernel
theorem dX6_init_331 : decode cX6_init 331 = .ok (.iastore, 1) := by decide +kernel
theorem dX6_init_332 : decode cX6_init 332 = .ok (.putfield 61, 3) := by decide +kernel
theorem dX6_init_335 : decode cX6_init 335 = .ok (.aload_n 0, 1) := by decide +kernel
theorem dX6_init_336 : decode cX6_init 336 = .ok (.bipush 100, 2) := by decide +kernel
theorem dX6_init_338 : decode cX6_init 338 = .ok (.newarray .int, 2) := by decide +kernel
theorem dX6_init_340 : decode cX6_init 340 = .ok (.putfield 64, 3) := by decide +kernel
theorem dX6_init_343 : decode cX6_init 343 = .ok (.aload_n 0, 1) := by decide +kernel
theorem dX6_init_344 : decode cX6_init 344 = .ok (.getfield 11, 3) := by decide +kernel
theorem dX6_init_347 : decode cX6_init 347 = .ok (.bipush 41, 2) := by decide +kernel
theorem dX6_init_349 : decode cX6_init 349 = .ok (.iconst 1, 1) := by decide +kernel
theorem dX6_init_350 : decode cX6_init 350 = .ok (.iastore, 1) := by decide +kernel
theorem dX6_init_351 : decode cX6_init 351 = .ok (.aload_n 0, 1) := by decide +kernel
theorem dX6_init_352 : decode cX6_init 352 = .ok (.getfield 11, 3) := by decide +kernel
theorem dX6_init_355 : decode cX6_init 355 = .ok (.bipush 42, 2) := by decide +kernel
theorem dX6_init_357 : decode cX6_init 357 = .ok (.bipush 75, 2) := by decide +kernel
theorem dX6_init_359 : decode cX6_init 359 = .ok (.iastore, 1) := by decide +kernel
theorem dX6_init_360 : decode cX6_init 360 = .ok (.aload_n 0, 1) := by decide +kernel
theorem dX6_init_361 : decode cX6_init 361 = .ok (.getfield 11, 3) := by decide +kernel
theorem dX6_init_364 : decode cX6_init 364 = .ok (.bipush 43, 2) := by decide +kernel
theorem dX6_init_366 : decode cX6_init 366 = .ok (.bipush 75, 2) := by decide +kernel
theorem dX6_init_368 : decode cX6_init 368 = .ok (.iastore, 1) := by decide +kernel
theorem dX6_init_369 : decode cX6_init 369 = .ok (.aload_n 0, 1) := by decide +kernel
theorem dX6_init_370 : decode cX6_init 370 = .ok (.getfield 11, 3) := by decide +kernel
theorem dX6_init_373 : decode cX6_init 373 = .ok (.bipush 44, 2) := by decide +kernel
theorem dX6_init_375 : decode cX6_init 375 = .ok (.bipush 20, 2) := by decide +kernel
theorem dX6_init_377 : decode cX6_init 377 = .ok (.iastore, 1) := by decide +kernel
theorem dX6_init_378 : decode cX6_init 378 = .ok (.aload_n 0, 1) := by decide +kernel
theorem dX6_init_379 : decode cX6_init 379 = .ok (.getfield 11, 3) := by decide +kernel
theorem dX6_init_382 : decode cX6_init 382 = .ok (.bipush 45, 2) := by decide +kernel
theorem dX6_init_384 : decode cX6_init 384 = .ok (.iconst 5, 1) := by decide +kernel
theorem dX6_init_385 : decode cX6_init 385 = .ok (.iastore, 1) := by decide +kernel
theorem dX6_init_386 : decode cX6_init 386 = .ok (.aload_n 0, 1) := by decide +kernel
theorem dX6_init_387 : decode cX6_init 387 = .ok (.getfield 11, 3) := by decide +kernel
theorem dX6_init_390 : decode cX6_init 390 = .ok (.bipush 46, 2) := by decide +kernel
theorem dX6_init_392 : decode cX6_init 392 = .ok (.bipush 60, 2) := by decide +kernel
theorem dX6_init_394 : decode cX6_init 394 = .ok (.iastore, 1) := by decide +kernel
theorem dX6_init_395 : decode cX6_init 395 = .ok (.return_, 1) := by decide +kernel
theorem dX6_in_0 : decode cX6_in 0 = .ok (.lload_n 0, 1) := by decide +kernel
theorem dX6_in_1 : decode cX6_in 1 = .ok (.lload_n 2, 1) := by decide +kernel
theorem dX6_in_2 : decode cX6_in 2 = .ok (.lcmp, 1) := by decide +kernel
theorem dX6_in_3 : decode cX6_in 3 = .ok (.ifCond .lt 14, 3) := by decide +kernel
theorem dX6_in_6 : decode cX6_in 6 = .ok (.lload_n 0, 1) := by decide +kernel
theorem dX6_in_7 : decode cX6_in 7 = .ok (.lload 4, 2) := by decide +kernel
theorem dX6_in_9 : decode cX6_in 9 = .ok (.lcmp, 1) := by decide +kernel
theorem dX6_in_10 : decode cX6_in 10 = .ok (.ifCond .gt 7, 3) := by decide +kernel
theorem dX6_in_13 : decode cX6_in 13 = .ok (.iconst 1, 1) := by decide +kernel
theorem dX6_in_14 : decode cX6_in 14 = .ok (.goto 4, 3) := by decide +kernel
theorem dX6_in_17 : decode cX6_in 17 = .ok (.iconst 0, 1) := by decide +kernel
theorem dX6_in_18 : decode cX6_in 18 = .ok (.ireturn, 1) := by decide +kernel
theorem dX6_abs_0 : decode cX6_abs 0 = .ok (.iload_n 0, 1) := by decide +kernel
theorem dX6_abs_1 : decode cX6_abs 1 = .ok (.ifCond .ge 8, 3) := by decide +kernel
theorem dX6_abs_4 : decode cX6_abs 4 = .ok (.iload_n 0, 1) := by decide +kernel
theorem dX6_abs_5 : decode cX6_abs 5 = .ok (.ineg, 1) := by decide +kernel
theorem dX6_abs_6 : decode cX6_abs 6 = .ok (.goto 4, 3) := by decide +kernel
theorem dX6_abs_9 : decode cX6_abs 9 = .ok (.iload_n 0, 1) := by decide +kernel
theorem dX6_abs_10 : decode cX6_abs 10 = .ok (.ireturn, 1) := by decide +kernel
theorem dX6_of0_0 : decode cX6_of0 0 = .ok (.aload_n 0, 1) := by decide +kernel
theorem dX6_of0_1 : decode cX6_of0 1 = .ok (.getfield 11, 3) := by decide +kernel
theorem dX6_of0_4 : decode cX6_of0 4 = .ok (.iconst 4, 1) := by decide +kernel
theorem dX6_of0_5 : decode cX6_of0 5 = .ok (.iload_n 1, 1) := by decide +kernel
theorem dX6_of0_6 : decode cX6_of0 6 = .ok (.imul, 1) := by decide +kernel
theorem dX6_of0_7 : decode cX6_of0 7 = .ok (.iload_n 2, 1) := by decide +kernel
theorem dX6_of0_8 : decode cX6_of0 8 = .ok (.iadd, 1) := by decide +kernel
theorem dX6_of0_9 : decode cX6_of0 9 = .ok (.iaload, 1) := by decide +kernel
theorem dX6_of0_10 : decode cX6_of0 10 = .ok (.ireturn, 1) := by decide +kernel
theorem dX6_rule_0 : decode cX6_rule 0 = .ok (.aload_n 0, 1) := by decide +kernel
theorem dX6_rule_1 : decode cX6_rule 1 = .ok (.getfield 11, 3) := by decide +kernel
theorem dX6_rule_4 : decode cX6_rule 4 = .ok (.bipush 41, 2) := by decide +kernel
theorem dX6_rule_6 : decode cX6_rule 6 = .ok (.iload_n 1, 1) := by decide +kernel
theorem dX6_rule_7 : decode cX6_rule 7 = .ok (.iadd, 1) := by decide +kernel
theorem dX6_rule_8 : decode cX6_rule 8 = .ok (.iaload, 1) := by decide +kernel
theorem dX6_rule_9 : decode cX6_rule 9 = .ok (.ireturn, 1) := by decide +kernel
set_option maxRecDepth 100000 in
theorem ggX6_isPiece_X6_in : GoodIn wsX6_isPiece wsX6_in := goodIn_g _ [5] [0] rfl (by decide +kernel)
set_option maxRecDepth 100000 in
theorem gX6_isPiece_X6_in : GoodIn wsX6_isPiece (va_wsS RX6 67 yX6_in wsX6_in) := goodIn_app (goodIn_of _ (by decide +kernel)) ggX6_isPiece_X6_in
theorem dX6_isPiece_0 : decode cX6_isPiece 0 = .ok (.iload_n 1, 1) := by decide +kernel
theorem dX6_isPiece_1 : decode cX6_isPiece 1 = .ok (.i2l, 1) := by decide +kernel
theorem dX6_isPiece_2 : decode cX6_isPiece 2 = .ok (.lconst 0, 1) := by decide +kernel
theorem dX6_isPiece_3 : decode cX6_isPiece 3 = .ok (.aload_n 0, 1) := by decide +kernel
theorem dX6_isPiece_4 : decode cX6_isPiece 4 = .ok (.getfield 11, 3) := by decide +kernel
theorem dX6_isPiece_7 : decode cX6_isPiece 7 = .ok (.bipush 40, 2) := by decide +kernel
theorem dX6_isPiece_9 : decode cX6_isPiece 9 = .ok (.iaload, 1) := by decide +kernel
theorem dX6_isPiece_10 : decode cX6_isPiece 10 = .ok (.iconst 1, 1) := by decide +kernel
theorem dX6_isPiece_11 : decode cX6_isPiece 11 = .ok (.isub, 1) := by decide +kernel
theorem dX6_isPiece_12 : decode cX6_isPiece 12 = .ok (.i2l, 1) := by decide +kernel
theorem dX6_isPiece_13 : decode cX6_isPiece 13 = .ok (.invokestatic 67, 3) := by decide +kernel
theorem dX6_isPiece_16 : decode cX6_isPiece 16 = .ok (.ireturn, 1) := by decide +kernel
set_option maxRecDepth 100000 in
theorem ggX6_mayBe_X6_in : GoodIn wsX6_mayBe wsX6_in := goodIn_g _ [9] [0] rfl (by decide +kernel)
set_option maxRecDepth 100000 in
theorem gX6_mayBe_X6_in : GoodIn wsX6_mayBe (va_wsS RX6 67 yX6_in wsX6_in) := goodIn_app (goodIn_of _ (by decide +kernel)) ggX6_mayBe_X6_in
theorem dX6_mayBe_0 : decode cX6_mayBe 0 = .ok (.iload_n 0, 1) := by decide +kernel
theorem dX6_mayBe_1 : decode cX6_mayBe 1 = .ok (.ifCond .ne 15, 3) := by decide +kernel
theorem dX6_mayBe_4 : decode cX6_mayBe 4 = .ok (.iload_n 1, 1) := by decide +kernel
theorem dX6_mayBe_5 : decode cX6_mayBe 5 = .ok (.i2l, 1) := by decide +kernel
theorem dX6_mayBe_6 : decode cX6_mayBe 6 = .ok (.lconst 0, 1) := by decide +kernel
theorem dX6_mayBe_7 : decode cX6_mayBe 7 = .ok (.ldc2_w 71, 3) := by decide +kernel
theorem dX6_mayBe_10 : decode cX6_mayBe 10 = .ok (.invokestatic 67, 3) := by decide +kernel
theorem dX6_mayBe_13 : decode cX6_mayBe 13 = .ok (.goto 48, 3) := by decide +kernel
theorem dX6_mayBe_16 : decode cX6_mayBe 16 = .ok (.iload_n 0, 1) := by decide +kernel
theorem dX6_mayBe_17 : decode cX6_mayBe 17 = .ok (.iconst 1, 1) := by decide +kernel
theorem dX6_mayBe_18 : decode cX6_mayBe 18 = .ok (.if_icmp .ne 15, 3) := by decide +kernel
theorem dX6_mayBe_21 : decode cX6_mayBe 21 = .ok (.iload_n 1, 1) := by decide +kernel
theorem dX6_mayBe_22 : decode cX6_mayBe 22 = .ok (.i2l, 1) := by decide +kernel
theorem dX6_mayBe_23 : decode cX6_mayBe 23 = .ok (.lconst 1, 1) := by decide +kernel
theorem dX6_mayBe_24 : decode cX6_mayBe 24 = .ok (.ldc2_w 73, 3) := by decide +kernel
theorem dX6_mayBe_27 : decode cX6_mayBe 27 = .ok (.invokestatic 67, 3) := by decide +kernel
theorem dX6_mayBe_30 : decode cX6_mayBe 30 = .ok (.goto 31, 3) := by decide +kernel
theorem dX6_mayBe_33 : decode cX6_mayBe 33 = .ok (.iload_n 0, 1) := by decide +kernel
theorem dX6_mayBe_34 : decode cX6_mayBe 34 = .ok (.iconst 2, 1) := by decide +kernel
theorem dX6_mayBe_35 : decode cX6_mayBe 35 = .ok (.if_icmp .ne 17, 3) := by decide +kernel
theorem dX6_mayBe_38 : decode cX6_mayBe 38 = .ok (.iload_n 1, 1) := by decide +kernel
theorem dX6_mayBe_39 : decode cX6_mayBe 39 = .ok (.i2l, 1) := by decide +kernel
theorem dX6_mayBe_40 : decode cX6_mayBe 40 = .ok (.ldc2_w 75, 3) := by decide +kernel
theorem dX6_mayBe_43 : decode cX6_mayBe 43 = .ok (.ldc2_w 77, 3) := by decide +kernel
theorem dX6_mayBe_46 : decode cX6_mayBe 46 = .ok (.invokestatic 67, 3) := by decide +kernel
theorem dX6_mayBe_49 : decode cX6_mayBe 49 = .ok (.goto 12, 3) := by decide +kernel
theorem dX6_mayBe_52 : decode cX6_mayBe 52 = .ok (.iload_n 1, 1) := by decide +kernel
theorem dX6_mayBe_53 : decode cX6_mayBe 53 = .ok (.i2l, 1) := by decide +kernel
theorem dX6_mayBe_54 : decode cX6_mayBe 54 = .ok (.lconst 0, 1) := by decide +kernel
theorem dX6_mayBe_55 : decode cX6_mayBe 55 = .ok (.ldc2_w 79, 3) := by decide +kernel
theorem dX6_mayBe_58 : decode cX6_mayBe 58 = .ok (.invokestatic 67, 3) := by decide +kernel
theorem dX6_mayBe_61 : decode cX6_mayBe 61 = .ok (.ireturn, 1) := by decide +kernel
theorem dX6_isUnder_0 : decode cX6_isUnder 0 = .ok (.iload_n 1, 1) := by decide +kernel
theorem dX6_isUnder_1 : decode cX6_isUnder 1 = .ok (.ifCond .eq 33, 3) := by decide +kernel
theorem dX6_isUnder_4 : decode cX6_isUnder 4 = .ok (.iload_n 0, 1) := by decide +kernel
theorem dX6_isUnder_5 : decode cX6_isUnder 5 = .ok (.iload_n 1, 1) := by decide +kernel
theorem dX6_isUnder_6 : decode cX6_isUnder 6 = .ok (.if_icmp .eq 28, 3) := by decide +kernel
theorem dX6_isUnder_9 : decode cX6_isUnder 9 = .ok (.iload_n 1, 1) := by decide +kernel
theorem dX6_isUnder_10 : decode cX6_isUnder 10 = .ok (.iconst 1, 1) := by decide +kernel
theorem dX6_isUnder_11 : decode cX6_isUnder 11 = .ok (.if_icmp .ne 13, 3) := by decide +kernel
theorem dX6_isUnder_14 : decode cX6_isUnder 14 = .ok (.iload_n 0, 1) := by decide +kernel
theorem dX6_isUnder_15 : decode cX6_isUnder 15 = .ok (.iconst 3, 1) := by decide +kernel
theorem dX6_isUnder_16 : decode cX6_isUnder 16 = .ok (.if_icmp .eq 18, 3) := by decide +kernel
theorem dX6_isUnder_19 : decode cX6_isUnder 19 = .ok (.iload_n 0, 1) := by decide +kernel
theorem dX6_isUnder_20 : decode cX6_isUnder 20 = .ok (.iconst 5, 1) := by decide +kernel
theorem dX6_isUnder_21 : decode cX6_isUnder 21 = .ok (.if_icmp .eq 13, 3) := by decide +kernel
theorem dX6_isUnder_24 : decode cX6_isUnder 24 = .ok (.iload_n 1, 1) := by decide +kernel
theorem dX6_isUnder_25 : decode cX6_isUnder 25 = .ok (.iconst 2, 1) := by decide +kernel
theorem dX6_isUnder_26 : decode cX6_isUnder 26 = .ok (.if_icmp .ne 12, 3) := by decide +kernel
theorem dX6_isUnder_29 : decode cX6_isUnder 29 = .ok (.iload_n 0, 1) := by decide +kernel
theorem dX6_isUnder_30 : decode cX6_isUnder 30 = .ok (.iconst 4, 1) := by decide +kernel
theorem dX6_isUnder_31 : decode cX6_isUnder 31 = .ok (.if_icmp .ne 7, 3) := by decide +kernel
theorem dX6_isUnder_34 : decode cX6_isUnder 34 = .ok (.iconst 1, 1) := by decide +kernel
theorem dX6_isUnder_35 : decode cX6_isUnder 35 = .ok (.goto 4, 3) := by decide +kernel
theorem dX6_isUnder_38 : decode cX6_isUnder 38 = .ok (.iconst 0, 1) := by decide +kernel
theorem dX6_isUnder_39 : decode cX6_isUnder 39 = .ok (.ireturn, 1) := by decide +kernel
set_option maxRecDepth 100000 in
theorem ggX6_piece_X6_mayBe : GoodIn wsX6_piece wsX6_mayBe := goodIn_g _ [4, 0, 0, 0, 0, 0, 0, 0, 0, 0] [1, 2, 3, 4, 5, 6, 7, 8, 0, 9] rfl (by decide +kernel)
set_option maxRecDepth 100000 in
theorem gX6_piece_X6_mayBe : GoodIn wsX6_piece (va_wsS RX6 81 yX6_mayBe wsX6_mayBe) := goodIn_app (goodIn_of _ (by decide +kernel)) ggX6_piece_X6_mayBe
theorem dX6_piece_0 : decode cX6_piece 0 = .ok (.iconst 0, 1) := by decide +kernel
theorem dX6_piece_1 : decode cX6_piece 1 = .ok (.iload_n 1, 1) := by decide +kernel
theorem dX6_piece_2 : decode cX6_piece 2 = .ok (.invokestatic 81, 3) := by decide +kernel
theorem dX6_piece_5 : decode cX6_piece 5 = .ok (.ifCond .eq 28, 3) := by decide +kernel
theorem dX6_piece_8 : decode cX6_piece 8 = .ok (.iconst 1, 1) := by decide +kernel
theorem dX6_piece_9 : decode cX6_piece 9 = .ok (.iload_n 2, 1) := by decide +kernel
theorem dX6_piece_10 : decode cX6_piece 10 = .ok (.invokestatic 81, 3) := by decide +kernel
theorem dX6_piece_13 : decode cX6_piece 13 = .ok (.ifCond .eq 20, 3) := by decide +kernel
theorem dX6_piece_16 : decode cX6_piece 16 = .ok (.iconst 2, 1) := by decide +kernel
theorem dX6_piece_17 : decode cX6_piece 17 = .ok (.iload_n 3, 1) := by decide +kernel
theorem dX6_piece_18 : decode cX6_piece 18 = .ok (.invokestatic 81, 3) := by decide +kernel
theorem dX6_piece_21 : decode cX6_piece 21 = .ok (.ifCond .eq 12, 3) := by decide +kernel
theorem dX6_piece_24 : decode cX6_piece 24 = .ok (.iconst 3, 1) := by decide +kernel
theorem dX6_piece_25 : decode cX6_piece 25 = .ok (.iload 4, 2) := by decide +kernel
theorem dX6_piece_27 : decode cX6_piece 27 = .ok (.invokestatic 81, 3) := by decide +kernel
theorem dX6_piece_30 : decode cX6_piece 30 = .ok (.ifCond .ne 6, 3) := by decide +kernel
theorem dX6_piece_33 : decode cX6_piece 33 = .ok (.bipush (-2), 2) := by decide +kernel
theorem dX6_piece_35 : decode cX6_piece 35 = .ok (.ireturn, 1) := by decide +kernel
theorem dX6_piece_36 : decode cX6_piece 36 = .ok (.aload_n 0, 1) := by decide +kernel
theorem dX6_piece_37 : decode cX6_piece 37 = .ok (.getfield 11, 3) := by decide +kernel
theorem dX6_piece_40 : decode cX6_piece 40 = .ok (.bipush 40, 2) := by decide +kernel
theorem dX6_piece_42 : decode cX6_piece 42 = .ok (.iaload, 1) := by decide +kernel
theorem dX6_piece_43 : decode cX6_piece 43 = .ok (.bipush 10, 2) := by decide +kernel
theorem dX6_piece_45 : decode cX6_piece 45 = .ok (.if_icmp .ne 6, 3) := by decide +kernel
theorem dX6_piece_48 : decode cX6_piece 48 = .ok (.bipush (-4), 2) := by decide +kernel
theorem dX6_piece_50 : decode cX6_piece 50 = .ok (.ireturn, 1) := by decide +kernel
theorem dX6_piece_51 : decode cX6_piece 51 = .ok (.iconst 4, 1) := by decide +kernel
theorem dX6_piece_52 : decode cX6_piece 52 = .ok (.aload_n 0, 1) := by decide +kernel
theorem dX6_piece_53 : decode cX6_piece 53 = .ok (.getfield 11, 3) := by decide +kernel
theorem dX6_piece_56 : decode cX6_piece 56 = .ok (.bipush 40, 2) := by decide +kernel
theorem dX6_piece_58 : decode cX6_piece 58 = .ok (.iaload, 1) := by decide +kernel
theorem dX6_piece_59 : decode cX6_piece 59 = .ok (.imul, 1) := by decide +kernel
theorem dX6_piece_60 : decode cX6_piece 60 = .ok (.istore 5, 2) := by decide +kernel
theorem dX6_piece_62 : decode cX6_piece 62 = .ok (.aload_n 0, 1) := by decide +kernel
theorem dX6_piece_63 : decode cX6_piece 63 = .ok (.getfield 11, 3) := by decide +kernel
theorem dX6_piece_66 : decode cX6_piece 66 = .ok (.iload 5, 2) := by decide +kernel
theorem dX6_piece_68 : decode cX6_piece 68 = .ok (.iload_n 1, 1) := by decide +kernel
theorem dX6_piece_69 : decode cX6_piece 69 = .ok (.iastore, 1) := by decide +kernel
theorem dX6_piece_70 : decode cX6_piece 70 = .ok (.aload_n 0, 1) := by decide +kernel
theorem dX6_piece_71 : decode cX6_piece 71 = .ok (.getfield 11, 3) := by decide +kernel
theorem dX6_piece_74 : decode cX6_piece 74 = .ok (.iload 5, 2) := by decide +kernel
theorem dX6_piece_76 : decode cX6_piece 76 = .ok (.iconst 1, 1) := by decide +kernel
theorem dX6_piece_77 : decode cX6_piece 77 = .ok (.iadd, 1) := by decide +kernel
theorem dX6_piece_78 : decode cX6_piece 78 = .ok (.iload_n 2, 1) := by decide +kernel
theorem dX6_piece_79 : decode cX6_piece 79 = .ok (.iastore, 1) := by decide +kernel
theorem dX6_piece_80 : decode cX6_piece 80 = .ok (.aload_n 0, 1) := by decide +kernel
theorem dX6_piece_81 : decode cX6_piece 81 = .ok (.getfield 11, 3) := by decide +kernel
theorem dX6_piece_84 : decode cX6_piece 84 = .ok (.iload 5, 2) := by decide +kernel
theorem dX6_piece_86 : decode cX6_piece 86 = .ok (.iconst 2, 1) := by decide +kernel
theorem dX6_piece_87 : decode cX6_piece 87 = .ok (.iadd, 1) := by decide +kernel
theorem dX6_piece_88 : decode cX6_piece 88 = .ok (.iload_n 3, 1) := by decide +kernel
theorem dX6_piece_89 : decode cX6_piece 89 = .ok (.iastore, 1) := by decide +kernel
theorem dX6_piece_90 : decode cX6_piece 90 = .ok (.aload_n 0, 1) := by decide +kernel
theorem dX6_piece_91 : decode cX6_piece 91 = .ok (.getfield 11, 3) := by decide +kernel
theorem dX6_piece_94 : decode cX6_piece 94 = .ok (.iload 5, 2) := by decide +kernel
theorem dX6_piece_96 : decode cX6_piece 96 = .ok (.iconst 3, 1) := by decide +kernel
theorem dX6_piece_97 : decode cX6_piece 97 = .ok (.iadd, 1) := by decide +kernel
theorem dX6_piece_98 : decode cX6_piece 98 = .ok (.iload 4, 2) := by decide +kernel
theorem dX6_piece_100 : decode cX6_piece 100 = .ok (.iastore, 1) := by decide +kernel
theorem dX6_piece_101 : decode cX6_piece 101 = .ok (.aload_n 0, 1) := by decide +kernel
theorem dX6_piece_102 : decode cX6_piece 102 = .ok (.getfield 11, 3) := by decide +kernel
theorem dX6_piece_105 : decode cX6_piece 105 = .ok (.bipush 40, 2) := by decide +kernel
theorem dX6_piece_107 : decode cX6_piece 107 = .ok (.dup2, 1) := by decide +kernel
theorem dX6_piece_108 : decode cX6_piece 108 = .ok (.iaload, 1) := by decide +kernel
theorem dX6_piece_109 : decode cX6_piece 109 = .ok (.iconst 1, 1) := by decide +kernel
theorem dX6_piece_110 : decode cX6_piece 110 = .ok (.iadd, 1) := by decide +kernel
theorem dX6_piece_111 : decode cX6_piece 111 = .ok (.iastore, 1) := by decide +kernel
theorem dX6_piece_112 : decode cX6_piece 112 = .ok (.aload_n 0, 1) := by decide +kernel
theorem dX6_piece_113 : decode cX6_piece 113 = .ok (.getfield 11, 3) := by decide +kernel
theorem dX6_piece_116 : decode cX6_piece 116 = .ok (.bipush 40, 2) := by decide +kernel
theorem dX6_piece_118 : decode cX6_piece 118 = .ok (.iaload, 1) := by decide +kernel
theorem dX6_piece_119 : decode cX6_piece 119 = .ok (.iconst 1, 1) := by decide +kernel
theorem dX6_piece_120 : decode cX6_piece 120 = .ok (.isub, 1) := by decide +kernel
theorem dX6_piece_121 : decode cX6_piece 121 = .ok (.ireturn, 1) := by decide +kernel
theorem dX6_drop_0 : decode cX6_drop 0 = .ok (.aload_n 0, 1) := by decide +kernel
theorem dX6_drop_1 : decode cX6_drop 1 = .ok (.getfield 11, 3) := by decide +kernel
theorem dX6_drop_4 : decode cX6_drop 4 = .ok (.bipush 40, 2) := by decide +kernel
theorem dX6_drop_6 : decode cX6_drop 6 = .ok (.iaload, 1) := by decide +kernel
theorem dX6_drop_7 : decode cX6_drop 7 = .ok (.ifCond .ne 6, 3) := by decide +kernel
theorem dX6_drop_10 : decode cX6_drop 10 = .ok (.bipush (-3), 2) := by decide +kernel
theorem dX6_drop_12 : decode cX6_drop 12 = .ok (.ireturn, 1) := by decide +kernel
theorem dX6_drop_13 : decode cX6_drop 13 = .ok (.aload_n 0, 1) := by decide +kernel
theorem dX6_drop_14 : decode cX6_drop 14 = .ok (.getfield 11, 3) := by decide +kernel
theorem dX6_drop_17 : decode cX6_drop 17 = .ok (.bipush 40, 2) := by decide +kernel
theorem dX6_drop_19 : decode cX6_drop 19 = .ok (.dup2, 1) := by decide +kernel
theorem dX6_drop_20 : decode cX6_drop 20 = .ok (.iaload, 1) := by decide +kernel
theorem dX6_drop_21 : decode cX6_drop 21 = .ok (.iconst 1, 1) := by decide +kernel
theorem dX6_drop_22 : decode cX6_drop 22 = .ok (.isub, 1) := by decide +kernel
theorem dX6_drop_23 : decode cX6_drop 23 = .ok (.iastore, 1) := by decide +kernel
theorem dX6_drop_24 : decode cX6_drop 24 = .ok (.aload_n 0, 1) := by decide +kernel
theorem dX6_drop_25 : decode cX6_drop 25 = .ok (.getfield 11, 3) := by decide +kernel
theorem dX6_drop_28 : decode cX6_drop 28 = .ok (.bipush 40, 2) := by decide +kernel
theorem dX6_drop_30 : decode cX6_drop 30 = .ok (.iaload, 1) := by decide +kernel
theorem dX6_drop_31 : decode cX6_drop 31 = .ok (.ireturn, 1) := by decide +kernel
set_option maxRecDepth 100000 in
theorem ggX6_set_X6_isPiece : GoodIn wsX6_set wsX6_isPiece := goodIn_g _ [2, 3, 0, 0, 0, 0, 12, 0, 0, 0, 0, 0, 0, 0, 0, 0, 0, 0, 0, 0, 0, 0, 0, 0, 0, 0, 0, 0, 0, 0, 0, 0, 0, 0] [2, 0, 3, 4, 1, 5, 6, 7, 8, 9, 10, 11, 12, 13, 14, 15, 16, 17, 18, 19, 20, 21, 22, 23, 24, 25, 26, 27, 28, 29, 30, 31, 32, 33] rfl (by decide +kernel)
set_option maxRecDepth 100000 in
theorem gX6_set_X6_isPiece : GoodIn wsX6_set (wsV RX6 85 RX6 yX6_isPiece wsX6_isPiece) := goodIn_app (goodIn_of _ (by decide +kernel)) ggX6_set_X6_isPiece
set_option maxRecDepth 100000 in
theorem ggX6_set_X6_in : GoodIn wsX6_set wsX6_in := goodIn_g _ [10] [0] rfl (by decide +kernel)
set_option maxRecDepth 100000 in
theorem gX6_set_X6_in : GoodIn wsX6_set (va_wsS RX6 67 yX6_in wsX6_in) := goodIn_app (goodIn_of _ (by decide +kernel)) ggX6_set_X6_in
set_option maxRecDepth 100000 in
theorem ggX6_set_X6_mayBe : GoodIn wsX6_set wsX6_mayBe := goodIn_g _ [6, 1, 0, 0, 2, 0, 0, 0, 0, 0] [4, 5, 6, 7, 8, 9, 1, 2, 0, 3] rfl (by decide +kernel)
set_option maxRecDepth 100000 in
theorem gX6_set_X6_mayBe : GoodIn wsX6_set (va_wsS RX6 81 yX6_mayBe wsX6_mayBe) := goodIn_app (goodIn_of _ (by decide +kernel)) ggX6_set_X6_mayBe
set_option maxRecDepth 100000 in
theorem ggX6_set_X6_of0 : GoodIn wsX6_set wsX6_of0 := goodIn_g _ [2, 19, 0, 0, 0, 0, 0, 0, 0, 0, 0, 0, 0, 0, 0, 0, 0, 0, 0, 0, 0, 0, 0, 0, 0, 0, 0, 0, 0, 0] [1, 0, 2, 3, 4, 5, 6, 7, 8, 9, 10, 11, 12, 13, 14, 15, 16, 17, 18, 19, 20, 21, 22, 23, 24, 25, 26, 27, 28, 29] rfl (by decide +kernel)
set_option maxRecDepth 100000 in
theorem gX6_set_X6_of0 : GoodIn wsX6_set (wsV RX6 91 RX6 yX6_of0 wsX6_of0) := goodIn_app (goodIn_of _ (by decide +kernel)) ggX6_set_X6_of0
theorem dX6_set_0 : decode cX6_set 0 = .ok (.iload_n 2, 1) := by decide +kernel
theorem dX6_set_1 : decode cX6_set 1 = .ok (.iconst 3, 1) := by decide +kernel
theorem dX6_set_2 : decode cX6_set 2 = .ok (.if_icmp .ne 7, 3) := by decide +kernel
theorem dX6_set_5 : decode cX6_set 5 = .ok (.iconst 0, 1) := by decide +kernel
theorem dX6_set_6 : decode cX6_set 6 = .ok (.goto 6, 3) := by decide +kernel
theorem dX6_set_9 : decode cX6_set 9 = .ok (.iload_n 2, 1) := by decide +kernel
theorem dX6_set_10 : decode cX6_set 10 = .ok (.iconst 1, 1) := by decide +kernel
theorem dX6_set_11 : decode cX6_set 11 = .ok (.iadd, 1) := by decide +kernel
theorem dX6_set_12 : decode cX6_set 12 = .ok (.istore 4, 2) := by decide +kernel
theorem dX6_set_14 : decode cX6_set 14 = .ok (.aload_n 0, 1) := by decide +kernel
theorem dX6_set_15 : decode cX6_set 15 = .ok (.iload_n 1, 1) := by decide +kernel
theorem dX6_set_16 : decode cX6_set 16 = .ok (.invokevirtual 85, 3) := by decide +kernel
theorem dX6_set_19 : decode cX6_set 19 = .ok (.ifCond .eq 24, 3) := by decide +kernel
theorem dX6_set_22 : decode cX6_set 22 = .ok (.iload_n 2, 1) := by decide +kernel
theorem dX6_set_23 : decode cX6_set 23 = .ok (.i2l, 1) := by decide +kernel
theorem dX6_set_24 : decode cX6_set 24 = .ok (.lconst 0, 1) := by decide +kernel
theorem dX6_set_25 : decode cX6_set 25 = .ok (.ldc2_w 89, 3) := by decide +kernel
theorem dX6_set_28 : decode cX6_set 28 = .ok (.invokestatic 67, 3) := by decide +kernel
theorem dX6_set_31 : decode cX6_set 31 = .ok (.ifCond .eq 12, 3) := by decide +kernel
theorem dX6_set_34 : decode cX6_set 34 = .ok (.iload 4, 2) := by decide +kernel
theorem dX6_set_36 : decode cX6_set 36 = .ok (.iload_n 3, 1) := by decide +kernel
theorem dX6_set_37 : decode cX6_set 37 = .ok (.invokestatic 81, 3) := by decide +kernel
theorem dX6_set_40 : decode cX6_set 40 = .ok (.ifCond .ne 7, 3) := by decide +kernel
theorem dX6_set_43 : decode cX6_set 43 = .ok (.sipush (-1000), 3) := by decide +kernel
theorem dX6_set_46 : decode cX6_set 46 = .ok (.ireturn, 1) := by decide +kernel
theorem dX6_set_47 : decode cX6_set 47 = .ok (.aload_n 0, 1) := by decide +kernel
theorem dX6_set_48 : decode cX6_set 48 = .ok (.iload_n 1, 1) := by decide +kernel
theorem dX6_set_49 : decode cX6_set 49 = .ok (.iload 4, 2) := by decide +kernel
theorem dX6_set_51 : decode cX6_set 51 = .ok (.invokevirtual 91, 3) := by decide +kernel
theorem dX6_set_54 : decode cX6_set 54 = .ok (.istore 5, 2) := by decide +kernel
theorem dX6_set_56 : decode cX6_set 56 = .ok (.aload_n 0, 1) := by decide +kernel
theorem dX6_set_57 : decode cX6_set 57 = .ok (.getfield 11, 3) := by decide +kernel
theorem dX6_set_60 : decode cX6_set 60 = .ok (.iconst 4, 1) := by decide +kernel
theorem dX6_set_61 : decode cX6_set 61 = .ok (.iload_n 1, 1) := by decide +kernel
theorem dX6_set_62 : decode cX6_set 62 = .ok (.imul, 1) := by decide +kernel
theorem dX6_set_63 : decode cX6_set 63 = .ok (.iload 4, 2) := by decide +kernel
theorem dX6_set_65 : decode cX6_set 65 = .ok (.iadd, 1) := by decide +kernel
theorem dX6_set_66 : decode cX6_set 66 = .ok (.iload_n 3, 1) := by decide +kernel
theorem dX6_set_67 : decode cX6_set 67 = .ok (.iastore, 1) := by decide +kernel
theorem dX6_set_68 : decode cX6_set 68 = .ok (.iload 5, 2) := by decide +kernel
theorem dX6_set_70 : decode cX6_set 70 = .ok (.ireturn, 1) := by decide +kernel
set_option maxRecDepth 100000 in
theorem ggX6_madeOf_X6_of0 : GoodIn wsX6_madeOf wsX6_of0 := goodIn_g _ [5, 0, 3, 0, 0, 0, 0, 0, 0, 0, 0, 0, 0, 0, 0, 0, 0, 0, 0, 0, 0, 0, 0, 0, 0, 0, 0, 0, 0, 0] [0, 1, 2, 3, 4, 5, 6, 7, 8, 9, 10, 11, 12, 13, 14, 15, 16, 17, 18, 19, 20, 21, 22, 23, 24, 25, 26, 27, 28, 29] rfl (by decide +kernel)
set_option maxRecDepth 100000 in
theorem gX6_madeOf_X6_of0 : GoodIn wsX6_madeOf (wsV RX6 91 RX6 yX6_of0 wsX6_of0) := goodIn_app (goodIn_of _ (by decide +kernel)) ggX6_madeOf_X6_of0
set_option maxRecDepth 100000 in
theorem ggX6_madeOf_X6_isUnder : GoodIn wsX6_madeOf wsX6_isUnder := goodIn_g _ [9] [0] rfl (by decide +kernel)
set_option maxRecDepth 100000 in
theorem gX6_madeOf_X6_isUnder : GoodIn wsX6_madeOf (va_wsS RX6 95 yX6_isUnder wsX6_isUnder) := goodIn_app (goodIn_of _ (by decide +kernel)) ggX6_madeOf_X6_isUnder
theorem dX6_madeOf_0 : decode cX6_madeOf 0 = .ok (.aload_n 0, 1) := by decide +kernel
theorem dX6_madeOf_1 : decode cX6_madeOf 1 = .ok (.iload_n 1, 1) := by decide +kernel
theorem dX6_madeOf_2 : decode cX6_madeOf 2 = .ok (.iconst 0, 1) := by decide +kernel
theorem dX6_madeOf_3 : decode cX6_madeOf 3 = .ok (.invokevirtual 91, 3) := by decide +kernel
theorem dX6_madeOf_6 : decode cX6_madeOf 6 = .ok (.istore_n 2, 1) := by decide +kernel
theorem dX6_madeOf_7 : decode cX6_madeOf 7 = .ok (.aload_n 0, 1) := by decide +kernel
theorem dX6_madeOf_8 : decode cX6_madeOf 8 = .ok (.iload_n 1, 1) := by decide +kernel
theorem dX6_madeOf_9 : decode cX6_madeOf 9 = .ok (.iconst 1, 1) := by decide +kernel
theorem dX6_madeOf_10 : decode cX6_madeOf 10 = .ok (.invokevirtual 91, 3) := by decide +kernel
theorem dX6_madeOf_13 : decode cX6_madeOf 13 = .ok (.iconst 1, 1) := by decide +kernel
theorem dX6_madeOf_14 : decode cX6_madeOf 14 = .ok (.if_icmp .ne 8, 3) := by decide +kernel
theorem dX6_madeOf_17 : decode cX6_madeOf 17 = .ok (.bipush 123, 2) := by decide +kernel
theorem dX6_madeOf_19 : decode cX6_madeOf 19 = .ok (.goto 5, 3) := by decide +kernel
theorem dX6_madeOf_22 : decode cX6_madeOf 22 = .ok (.bipush 13, 2) := by decide +kernel
theorem dX6_madeOf_24 : decode cX6_madeOf 24 = .ok (.istore_n 3, 1) := by decide +kernel
theorem dX6_madeOf_25 : decode cX6_madeOf 25 = .ok (.iload_n 2, 1) := by decide +kernel
theorem dX6_madeOf_26 : decode cX6_madeOf 26 = .ok (.iconst 1, 1) := by decide +kernel
theorem dX6_madeOf_27 : decode cX6_madeOf 27 = .ok (.invokestatic 95, 3) := by decide +kernel
theorem dX6_madeOf_30 : decode cX6_madeOf 30 = .ok (.ifCond .eq 13, 3) := by decide +kernel
theorem dX6_madeOf_33 : decode cX6_madeOf 33 = .ok (.bipush 10, 2) := by decide +kernel
theorem dX6_madeOf_35 : decode cX6_madeOf 35 = .ok (.iload_n 3, 1) := by decide +kernel
theorem dX6_madeOf_36 : decode cX6_madeOf 36 = .ok (.imul, 1) := by decide +kernel
theorem dX6_madeOf_37 : decode cX6_madeOf 37 = .ok (.iconst 4, 1) := by decide +kernel
theorem dX6_madeOf_38 : decode cX6_madeOf 38 = .ok (.iadd, 1) := by decide +kernel
theorem dX6_madeOf_39 : decode cX6_madeOf 39 = .ok (.istore_n 3, 1) := by decide +kernel
theorem dX6_madeOf_40 : decode cX6_madeOf 40 = .ok (.goto 18, 3) := by decide +kernel
theorem dX6_madeOf_43 : decode cX6_madeOf 43 = .ok (.iload_n 2, 1) := by decide +kernel
theorem dX6_madeOf_44 : decode cX6_madeOf 44 = .ok (.iconst 2, 1) := by decide +kernel
theorem dX6_madeOf_45 : decode cX6_madeOf 45 = .ok (.invokestatic 95, 3) := by decide +kernel
theorem dX6_madeOf_48 : decode cX6_madeOf 48 = .ok (.ifCond .eq 10, 3) := by decide +kernel
theorem dX6_madeOf_51 : decode cX6_madeOf 51 = .ok (.bipush 10, 2) := by decide +kernel
theorem dX6_madeOf_53 : decode cX6_madeOf 53 = .ok (.iload_n 3, 1) := by decide +kernel
theorem dX6_madeOf_54 : decode cX6_madeOf 54 = .ok (.imul, 1) := by decide +kernel
theorem dX6_madeOf_55 : decode cX6_madeOf 55 = .ok (.iconst 5, 1) := by decide +kernel
theorem dX6_madeOf_56 : decode cX6_madeOf 56 = .ok (.iadd, 1) := by decide +kernel
theorem dX6_madeOf_57 : decode cX6_madeOf 57 = .ok (.istore_n 3, 1) := by decide +kernel
theorem dX6_madeOf_58 : decode cX6_madeOf 58 = .ok (.iload_n 2, 1) := by decide +kernel
theorem dX6_madeOf_59 : decode cX6_madeOf 59 = .ok (.iconst 3, 1) := by decide +kernel
theorem dX6_madeOf_60 : decode cX6_madeOf 60 = .ok (.if_icmp .ge 7, 3) := by decide +kernel
theorem dX6_madeOf_63 : decode cX6_madeOf 63 = .ok (.iload_n 3, 1) := by decide +kernel
theorem dX6_madeOf_64 : decode cX6_madeOf 64 = .ok (.goto 30, 3) := by decide +kernel
theorem dX6_madeOf_67 : decode cX6_madeOf 67 = .ok (.bipush 10, 2) := by decide +kernel
theorem dX6_madeOf_69 : decode cX6_madeOf 69 = .ok (.iload_n 3, 1) := by decide +kernel
theorem dX6_madeOf_70 : decode cX6_madeOf 70 = .ok (.imul, 1) := by decide +kernel
theorem dX6_madeOf_71 : decode cX6_madeOf 71 = .ok (.iload_n 2, 1) := by decide +kernel
theorem dX6_madeOf_72 : decode cX6_madeOf 72 = .ok (.iconst 3, 1) := by decide +kernel
theorem dX6_madeOf_73 : decode cX6_madeOf 73 = .ok (.if_icmp .ne 8, 3) := by decide +kernel
theorem dX6_madeOf_76 : decode cX6_madeOf 76 = .ok (.bipush 6, 2) := by decide +kernel
theorem dX6_madeOf_78 : decode cX6_madeOf 78 = .ok (.goto 15, 3) := by decide +kernel
theorem dX6_madeOf_81 : decode cX6_madeOf 81 = .ok (.iload_n 2, 1) := by decide +kernel
theorem dX6_madeOf_82 : decode cX6_madeOf 82 = .ok (.iconst 4, 1) := by decide +kernel
theorem dX6_madeOf_83 : decode cX6_madeOf 83 = .ok (.if_icmp .ne 8, 3) := by decide +kernel
theorem dX6_madeOf_86 : decode cX6_madeOf 86 = .ok (.bipush 7, 2) := by decide +kernel
theorem dX6_madeOf_88 : decode cX6_madeOf 88 = .ok (.goto 5, 3) := by decide +kernel
theorem dX6_madeOf_91 : decode cX6_madeOf 91 = .ok (.bipush 8, 2) := by decide +kernel
theorem dX6_madeOf_93 : decode cX6_madeOf 93 = .ok (.iadd, 1) := by decide +kernel
theorem dX6_madeOf_94 : decode cX6_madeOf 94 = .ok (.ireturn, 1) := by decide +kernel
set_option maxRecDepth 100000 in
theorem ggX6_firstOf_X6_of0 : GoodIn wsX6_firstOf wsX6_of0 := goodIn_g _ [5, 0, 0, 0, 0, 0, 0, 0, 0, 0, 0, 0, 0, 0, 0, 0, 0, 0, 0, 0, 0, 0, 0, 0, 0, 0, 0, 0, 0, 0] [0, 1, 2, 3, 4, 5, 6, 7, 8, 9, 10, 11, 12, 13, 14, 15, 16, 17, 18, 19, 20, 21, 22, 23, 24, 25, 26, 27, 28, 29] rfl (by decide +kernel)
set_option maxRecDepth 100000 in
theorem gX6_firstOf_X6_of0 : GoodIn wsX6_firstOf (wsV RX6 91 RX6 yX6_of0 wsX6_of0) := goodIn_app (goodIn_of _ (by decide +kernel)) ggX6_firstOf_X6_of0
theorem dX6_firstOf_0 : decode cX6_firstOf 0 = .ok (.iconst 1, 1) := by decide +kernel
theorem dX6_firstOf_1 : decode cX6_firstOf 1 = .ok (.istore_n 2, 1) := by decide +kernel
theorem dX6_firstOf_2 : decode cX6_firstOf 2 = .ok (.iconst 0, 1) := by decide +kernel
theorem dX6_firstOf_3 : decode cX6_firstOf 3 = .ok (.istore_n 3, 1) := by decide +kernel
theorem dX6_firstOf_4 : decode cX6_firstOf 4 = .ok (.iload_n 3, 1) := by decide +kernel
theorem dX6_firstOf_5 : decode cX6_firstOf 5 = .ok (.iload_n 1, 1) := by decide +kernel
theorem dX6_firstOf_6 : decode cX6_firstOf 6 = .ok (.if_icmp .ge 18, 3) := by decide +kernel
theorem dX6_firstOf_9 : decode cX6_firstOf 9 = .ok (.iload_n 2, 1) := by decide +kernel
theorem dX6_firstOf_10 : decode cX6_firstOf 10 = .ok (.aload_n 0, 1) := by decide +kernel
theorem dX6_firstOf_11 : decode cX6_firstOf 11 = .ok (.iload_n 3, 1) := by decide +kernel
theorem dX6_firstOf_12 : decode cX6_firstOf 12 = .ok (.iconst 1, 1) := by decide +kernel
theorem dX6_firstOf_13 : decode cX6_firstOf 13 = .ok (.invokevirtual 91, 3) := by decide +kernel
theorem dX6_firstOf_16 : decode cX6_firstOf 16 = .ok (.iadd, 1) := by decide +kernel
theorem dX6_firstOf_17 : decode cX6_firstOf 17 = .ok (.istore_n 2, 1) := by decide +kernel
theorem dX6_firstOf_18 : decode cX6_firstOf 18 = .ok (.iinc 3 1, 3) := by decide +kernel
theorem dX6_firstOf_21 : decode cX6_firstOf 21 = .ok (.goto (-17), 3) := by decide +kernel
theorem dX6_firstOf_24 : decode cX6_firstOf 24 = .ok (.iload_n 2, 1) := by decide +kernel
theorem dX6_firstOf_25 : decode cX6_firstOf 25 = .ok (.ireturn, 1) := by decide +kernel
set_option maxRecDepth 100000 in
theorem ggX6_lastOf_X6_firstOf : GoodIn wsX6_lastOf wsX6_firstOf := goodIn_g _ [4, 0, 0, 0, 0, 0, 0, 0, 0, 0, 0, 0, 0, 0, 0, 0, 0, 0, 0, 0, 0, 0, 0, 0, 0, 0, 0, 0, 0, 0, 0, 0, 0, 0, 0] [1, 2, 3, 4, 0, 5, 6, 7, 8, 9, 10, 11, 12, 13, 14, 15, 16, 17, 18, 19, 20, 21, 22, 23, 24, 25, 26, 27, 28, 29, 30, 31, 32, 33, 34] rfl (by decide +kernel)
set_option maxRecDepth 100000 in
theorem gX6_lastOf_X6_firstOf : GoodIn wsX6_lastOf (wsV RX6 98 RX6 yX6_firstOf wsX6_firstOf) := goodIn_app (goodIn_of _ (by decide +kernel)) ggX6_lastOf_X6_firstOf
set_option maxRecDepth 100000 in
theorem ggX6_lastOf_X6_of0 : GoodIn wsX6_lastOf wsX6_of0 := goodIn_g _ [9, 0, 0, 0, 0, 0, 0, 0, 0, 0, 0, 0, 0, 0, 0, 0, 0, 0, 0, 0, 0, 0, 0, 0, 0, 0, 0, 0, 0, 0] [0, 1, 2, 3, 4, 5, 6, 7, 8, 9, 10, 11, 12, 13, 14, 15, 16, 17, 18, 19, 20, 21, 22, 23, 24, 25, 26, 27, 28, 29] rfl (by decide +kernel)
set_option maxRecDepth 100000 in
theorem gX6_lastOf_X6_of0 : GoodIn wsX6_lastOf (wsV RX6 91 RX6 yX6_of0 wsX6_of0) := goodIn_app (goodIn_of _ (by decide +kernel)) ggX6_lastOf_X6_of0
theorem dX6_lastOf_0 : decode cX6_lastOf 0 = .ok (.aload_n 0, 1) := by decide +kernel
theorem dX6_lastOf_1 : decode cX6_lastOf 1 = .ok (.iload_n 1, 1) := by decide +kernel
theorem dX6_lastOf_2 : decode cX6_lastOf 2 = .ok (.invokevirtual 98, 3) := by decide +kernel
theorem dX6_lastOf_5 : decode cX6_lastOf 5 = .ok (.aload_n 0, 1) := by decide +kernel
theorem dX6_lastOf_6 : decode cX6_lastOf 6 = .ok (.iload_n 1, 1) := by decide +kernel
theorem dX6_lastOf_7 : decode cX6_lastOf 7 = .ok (.iconst 1, 1) := by decide +kernel
theorem dX6_lastOf_8 : decode cX6_lastOf 8 = .ok (.invokevirtual 91, 3) := by decide +kernel
theorem dX6_lastOf_11 : decode cX6_lastOf 11 = .ok (.iadd, 1) := by decide +kernel
theorem dX6_lastOf_12 : decode cX6_lastOf 12 = .ok (.iconst 1, 1) := by decide +kernel
theorem dX6_lastOf_13 : decode cX6_lastOf 13 = .ok (.isub, 1) := by decide +kernel
theorem dX6_lastOf_14 : decode cX6_lastOf 14 = .ok (.ireturn, 1) := by decide +kernel
set_option maxRecDepth 100000 in
theorem ggX6_of_X6_isPiece : GoodIn wsX6_of wsX6_isPiece := goodIn_g _ [5, 0, 0, 0, 0, 0, 19, 0, 0, 0, 0, 0, 0, 0, 0, 0, 0, 0, 0, 0, 0, 0, 0, 0, 0, 0, 0, 0, 0, 0, 0, 0, 0, 0] [1, 2, 3, 4, 0, 5, 6, 7, 8, 9, 10, 11, 12, 13, 14, 15, 16, 17, 18, 19, 20, 21, 22, 23, 24, 25, 26, 27, 28, 29, 30, 31, 32, 33] rfl (by decide +kernel)
set_option maxRecDepth 100000 in
theorem gX6_of_X6_isPiece : GoodIn wsX6_of (wsV RX6 85 RX6 yX6_isPiece wsX6_isPiece) := goodIn_app (goodIn_of _ (by decide +kernel)) ggX6_of_X6_isPiece
set_option maxRecDepth 100000 in
theorem ggX6_of_X6_in : GoodIn wsX6_of wsX6_in := goodIn_g _ [10] [0] rfl (by decide +kernel)
set_option maxRecDepth 100000 in
theorem gX6_of_X6_in : GoodIn wsX6_of (va_wsS RX6 67 yX6_in wsX6_in) := goodIn_app (goodIn_of _ (by decide +kernel)) ggX6_of_X6_in
set_option maxRecDepth 100000 in
theorem ggX6_of_X6_of0 : GoodIn wsX6_of wsX6_of0 := goodIn_g _ [7, 6, 15, 0, 0, 0, 0, 0, 0, 0, 0, 0, 0, 0, 0, 0, 0, 0, 0, 0, 0, 0, 0, 0, 0, 0, 0, 0, 0, 0] [1, 0, 2, 3, 4, 5, 6, 7, 8, 9, 10, 11, 12, 13, 14, 15, 16, 17, 18, 19, 20, 21, 22, 23, 24, 25, 26, 27, 28, 29] rfl (by decide +kernel)
set_option maxRecDepth 100000 in
theorem gX6_of_X6_of0 : GoodIn wsX6_of (wsV RX6 91 RX6 yX6_of0 wsX6_of0) := goodIn_app (goodIn_of _ (by decide +kernel)) ggX6_of_X6_of0
set_option maxRecDepth 100000 in
theorem ggX6_of_X6_madeOf : GoodIn wsX6_of wsX6_madeOf := goodIn_g _ [5, 1, 3, 0, 0, 0, 3, 0, 0, 0, 8, 0, 0, 0, 0, 0, 0, 0, 0, 0, 0, 0, 0, 0, 0, 0, 0, 0, 0, 0, 0, 0, 0, 0, 0, 0, 0, 0] [6, 2, 3, 4, 0, 5, 1, 7, 8, 9, 10, 11, 12, 13, 14, 15, 16, 17, 18, 19, 20, 21, 22, 23, 24, 25, 26, 27, 28, 29, 30, 31, 32, 33, 34, 35, 36, 37] rfl (by decide +kernel)
set_option maxRecDepth 100000 in
theorem gX6_of_X6_madeOf : GoodIn wsX6_of (wsV RX6 104 RX6 yX6_madeOf wsX6_madeOf) := goodIn_app (goodIn_of _ (by decide +kernel)) ggX6_of_X6_madeOf
set_option maxRecDepth 100000 in
theorem ggX6_of_X6_firstOf : GoodIn wsX6_of wsX6_firstOf := goodIn_g _ [5, 1, 3, 0, 0, 0, 10, 4, 0, 0, 0, 0, 0, 0, 0, 0, 0, 0, 0, 0, 0, 0, 0, 0, 0, 0, 0, 0, 0, 0, 0, 0, 0, 0, 0] [6, 2, 3, 4, 0, 5, 1, 7, 8, 9, 10, 11, 12, 13, 14, 15, 16, 17, 18, 19, 20, 21, 22, 23, 24, 25, 26, 27, 28, 29, 30, 31, 32, 33, 34] rfl (by decide +kernel)
set_option maxRecDepth 100000 in
theorem gX6_of_X6_firstOf : GoodIn wsX6_of (wsV RX6 98 RX6 yX6_firstOf wsX6_firstOf) := goodIn_app (goodIn_of _ (by decide +kernel)) ggX6_of_X6_firstOf
set_option maxRecDepth 100000 in
theorem ggX6_of_X6_lastOf : GoodIn wsX6_of wsX6_lastOf := goodIn_g _ [5, 1, 3, 0, 0, 0, 7, 0, 0, 0, 3, 0, 0, 0, 0, 0, 0, 0, 0, 0, 0, 0, 0, 0, 0, 0, 0, 0, 0, 0, 0, 0, 0, 0, 0, 0, 0, 0, 0] [10, 6, 7, 8, 0, 9, 2, 3, 4, 5, 1, 11, 12, 13, 14, 15, 16, 17, 18, 19, 20, 21, 22, 23, 24, 25, 26, 27, 28, 29, 30, 31, 32, 33, 34, 35, 36, 37, 38] rfl (by decide +kernel)
set_option maxRecDepth 100000 in
theorem gX6_of_X6_lastOf : GoodIn wsX6_of (wsV RX6 107 RX6 yX6_lastOf wsX6_lastOf) := goodIn_app (goodIn_of _ (by decide +kernel)) ggX6_of_X6_lastOf
theorem dX6_of_0 : decode cX6_of 0 = .ok (.aload_n 0, 1) := by decide +kernel
theorem dX6_of_1 : decode cX6_of 1 = .ok (.iload_n 1, 1) := by decide +kernel
theorem dX6_of_2 : decode cX6_of 2 = .ok (.invokevirtual 85, 3) := by decide +kernel
theorem dX6_of_5 : decode cX6_of 5 = .ok (.ifCond .eq 15, 3) := by decide +kernel
theorem dX6_of_8 : decode cX6_of 8 = .ok (.iload_n 2, 1) := by decide +kernel
theorem dX6_of_9 : decode cX6_of 9 = .ok (.i2l, 1) := by decide +kernel
theorem dX6_of_10 : decode cX6_of 10 = .ok (.lconst 0, 1) := by decide +kernel
theorem dX6_of_11 : decode cX6_of 11 = .ok (.ldc2_w 102, 3) := by decide +kernel
theorem dX6_of_14 : decode cX6_of 14 = .ok (.invokestatic 67, 3) := by decide +kernel
theorem dX6_of_17 : decode cX6_of 17 = .ok (.ifCond .ne 7, 3) := by decide +kernel
theorem dX6_of_20 : decode cX6_of 20 = .ok (.sipush (-1000), 3) := by decide +kernel
theorem dX6_of_23 : decode cX6_of 23 = .ok (.ireturn, 1) := by decide +kernel
theorem dX6_of_24 : decode cX6_of 24 = .ok (.iload_n 2, 1) := by decide +kernel
theorem dX6_of_25 : decode cX6_of 25 = .ok (.iconst 4, 1) := by decide +kernel
theorem dX6_of_26 : decode cX6_of 26 = .ok (.if_icmp .ge 12, 3) := by decide +kernel
theorem dX6_of_29 : decode cX6_of 29 = .ok (.aload_n 0, 1) := by decide +kernel
theorem dX6_of_30 : decode cX6_of 30 = .ok (.iload_n 1, 1) := by decide +kernel
theorem dX6_of_31 : decode cX6_of 31 = .ok (.iload_n 2, 1) := by decide +kernel
theorem dX6_of_32 : decode cX6_of 32 = .ok (.invokevirtual 91, 3) := by decide +kernel
theorem dX6_of_35 : decode cX6_of 35 = .ok (.goto 34, 3) := by decide +kernel
theorem dX6_of_38 : decode cX6_of 38 = .ok (.iload_n 2, 1) := by decide +kernel
theorem dX6_of_39 : decode cX6_of 39 = .ok (.iconst 4, 1) := by decide +kernel
theorem dX6_of_40 : decode cX6_of 40 = .ok (.if_icmp .ne 11, 3) := by decide +kernel
theorem dX6_of_43 : decode cX6_of 43 = .ok (.aload_n 0, 1) := by decide +kernel
theorem dX6_of_44 : decode cX6_of 44 = .ok (.iload_n 1, 1) := by decide +kernel
theorem dX6_of_45 : decode cX6_of 45 = .ok (.invokevirtual 104, 3) := by decide +kernel
theorem dX6_of_48 : decode cX6_of 48 = .ok (.goto 21, 3) := by decide +kernel
theorem dX6_of_51 : decode cX6_of 51 = .ok (.iload_n 2, 1) := by decide +kernel
theorem dX6_of_52 : decode cX6_of 52 = .ok (.iconst 5, 1) := by decide +kernel
theorem dX6_of_53 : decode cX6_of 53 = .ok (.if_icmp .ne 11, 3) := by decide +kernel
theorem dX6_of_56 : decode cX6_of 56 = .ok (.aload_n 0, 1) := by decide +kernel
theorem dX6_of_57 : decode cX6_of 57 = .ok (.iload_n 1, 1) := by decide +kernel
theorem dX6_of_58 : decode cX6_of 58 = .ok (.invokevirtual 98, 3) := by decide +kernel
theorem dX6_of_61 : decode cX6_of 61 = .ok (.goto 8, 3) := by decide +kernel
theorem dX6_of_64 : decode cX6_of 64 = .ok (.aload_n 0, 1) := by decide +kernel
theorem dX6_of_65 : decode cX6_of 65 = .ok (.iload_n 1, 1) := by decide +kernel
theorem dX6_of_66 : decode cX6_of 66 = .ok (.invokevirtual 107, 3) := by decide +kernel
theorem dX6_of_69 : decode cX6_of 69 = .ok (.ireturn, 1) := by decide +kernel
set_option maxRecDepth 100000 in
theorem ggX6_taken_X6_isPiece : GoodIn wsX6_taken wsX6_isPiece := goodIn_g _ [5, 0, 0, 0, 0, 0, 7, 0, 0, 0, 0, 0, 0, 0, 0, 0, 0, 0, 0, 0, 0, 0, 0, 0, 0, 0, 0, 0, 0, 0, 0, 0, 0, 0] [1, 2, 3, 4, 0, 5, 6, 7, 8, 9, 10, 11, 12, 13, 14, 15, 16, 17, 18, 19, 20, 21, 22, 23, 24, 25, 26, 27, 28, 29, 30, 31, 32, 33] rfl (by decide +kernel)
set_option maxRecDepth 100000 in
theorem gX6_taken_X6_isPiece : GoodIn wsX6_taken (wsV RX6 85 RX6 yX6_isPiece wsX6_isPiece) := goodIn_app (goodIn_of _ (by decide +kernel)) ggX6_taken_X6_isPiece
set_option maxRecDepth 100000 in
theorem ggX6_taken_X6_in : GoodIn wsX6_taken wsX6_in := goodIn_g _ [10] [0] rfl (by decide +kernel)
set_option maxRecDepth 100000 in
theorem gX6_taken_X6_in : GoodIn wsX6_taken (va_wsS RX6 67 yX6_in wsX6_in) := goodIn_app (goodIn_of _ (by decide +kernel)) ggX6_taken_X6_in
set_option maxRecDepth 100000 in
theorem ggX6_taken_X6_of0 : GoodIn wsX6_taken wsX6_of0 := goodIn_g _ [7, 6, 3, 0, 0, 0, 0, 0, 0, 0, 0, 0, 0, 0, 0, 0, 0, 0, 0, 0, 0, 0, 0, 0, 0, 0, 0, 0, 0, 0] [1, 0, 2, 3, 4, 5, 6, 7, 8, 9, 10, 11, 12, 13, 14, 15, 16, 17, 18, 19, 20, 21, 22, 23, 24, 25, 26, 27, 28, 29] rfl (by decide +kernel)
set_option maxRecDepth 100000 in
theorem gX6_taken_X6_of0 : GoodIn wsX6_taken (wsV RX6 91 RX6 yX6_of0 wsX6_of0) := goodIn_app (goodIn_of _ (by decide +kernel)) ggX6_taken_X6_of0
set_option maxRecDepth 100000 in
theorem ggX6_taken_X6_isUnder : GoodIn wsX6_taken wsX6_isUnder := goodIn_g _ [17] [0] rfl (by decide +kernel)
set_option maxRecDepth 100000 in
theorem gX6_taken_X6_isUnder : GoodIn wsX6_taken (va_wsS RX6 95 yX6_isUnder wsX6_isUnder) := goodIn_app (goodIn_of _ (by decide +kernel)) ggX6_taken_X6_isUnder
theorem dX6_taken_0 : decode cX6_taken 0 = .ok (.aload_n 0, 1) := by decide +kernel
theorem dX6_taken_1 : decode cX6_taken 1 = .ok (.iload_n 1, 1) := by decide +kernel
theorem dX6_taken_2 : decode cX6_taken 2 = .ok (.invokevirtual 85, 3) := by decide +kernel
theorem dX6_taken_5 : decode cX6_taken 5 = .ok (.ifCond .eq 15, 3) := by decide +kernel
theorem dX6_taken_8 : decode cX6_taken 8 = .ok (.iload_n 2, 1) := by decide +kernel
theorem dX6_taken_9 : decode cX6_taken 9 = .ok (.i2l, 1) := by decide +kernel
theorem dX6_taken_10 : decode cX6_taken 10 = .ok (.lconst 0, 1) := by decide +kernel
theorem dX6_taken_11 : decode cX6_taken 11 = .ok (.ldc2_w 71, 3) := by decide +kernel
theorem dX6_taken_14 : decode cX6_taken 14 = .ok (.invokestatic 67, 3) := by decide +kernel
theorem dX6_taken_17 : decode cX6_taken 17 = .ok (.ifCond .ne 6, 3) := by decide +kernel
theorem dX6_taken_20 : decode cX6_taken 20 = .ok (.bipush (-2), 2) := by decide +kernel
theorem dX6_taken_22 : decode cX6_taken 22 = .ok (.ireturn, 1) := by decide +kernel
theorem dX6_taken_23 : decode cX6_taken 23 = .ok (.aload_n 0, 1) := by decide +kernel
theorem dX6_taken_24 : decode cX6_taken 24 = .ok (.iload_n 1, 1) := by decide +kernel
theorem dX6_taken_25 : decode cX6_taken 25 = .ok (.iconst 0, 1) := by decide +kernel
theorem dX6_taken_26 : decode cX6_taken 26 = .ok (.invokevirtual 91, 3) := by decide +kernel
theorem dX6_taken_29 : decode cX6_taken 29 = .ok (.iload_n 2, 1) := by decide +kernel
theorem dX6_taken_30 : decode cX6_taken 30 = .ok (.invokestatic 95, 3) := by decide +kernel
theorem dX6_taken_33 : decode cX6_taken 33 = .ok (.ifCond .eq 12, 3) := by decide +kernel
theorem dX6_taken_36 : decode cX6_taken 36 = .ok (.aload_n 0, 1) := by decide +kernel
theorem dX6_taken_37 : decode cX6_taken 37 = .ok (.iload_n 1, 1) := by decide +kernel
theorem dX6_taken_38 : decode cX6_taken 38 = .ok (.iconst 1, 1) := by decide +kernel
theorem dX6_taken_39 : decode cX6_taken 39 = .ok (.invokevirtual 91, 3) := by decide +kernel
theorem dX6_taken_42 : decode cX6_taken 42 = .ok (.goto 5, 3) := by decide +kernel
theorem dX6_taken_45 : decode cX6_taken 45 = .ok (.bipush (-13), 2) := by decide +kernel
theorem dX6_taken_47 : decode cX6_taken 47 = .ok (.ireturn, 1) := by decide +kernel
set_option maxRecDepth 100000 in
theorem ggX6_mayRule_X6_in : GoodIn wsX6_mayRule wsX6_in := goodIn_g _ [11] [0] rfl (by decide +kernel)
set_option maxRecDepth 100000 in
theorem gX6_mayRule_X6_in : GoodIn wsX6_mayRule (va_wsS RX6 67 yX6_in wsX6_in) := goodIn_app (goodIn_of _ (by decide +kernel)) ggX6_mayRule_X6_in
theorem dX6_mayRule_0 : decode cX6_mayRule 0 = .ok (.iload_n 0, 1) := by decide +kernel
theorem dX6_mayRule_1 : decode cX6_mayRule 1 = .ok (.tableswitch 101 0 7 #[47, 101, 101, 101, 57, 67, 77, 89], 47) := by decide +kernel
theorem dX6_mayRule_48 : decode cX6_mayRule 48 = .ok (.iload_n 1, 1) := by decide +kernel
theorem dX6_mayRule_49 : decode cX6_mayRule 49 = .ok (.i2l, 1) := by decide +kernel
theorem dX6_mayRule_50 : decode cX6_mayRule 50 = .ok (.lconst 1, 1) := by decide +kernel
theorem dX6_mayRule_51 : decode cX6_mayRule 51 = .ok (.ldc2_w 110, 3) := by decide +kernel
theorem dX6_mayRule_54 : decode cX6_mayRule 54 = .ok (.invokestatic 67, 3) := by decide +kernel
theorem dX6_mayRule_57 : decode cX6_mayRule 57 = .ok (.ireturn, 1) := by decide +kernel
theorem dX6_mayRule_58 : decode cX6_mayRule 58 = .ok (.iload_n 1, 1) := by decide +kernel
theorem dX6_mayRule_59 : decode cX6_mayRule 59 = .ok (.i2l, 1) := by decide +kernel
theorem dX6_mayRule_60 : decode cX6_mayRule 60 = .ok (.lconst 0, 1) := by decide +kernel
theorem dX6_mayRule_61 : decode cX6_mayRule 61 = .ok (.ldc2_w 77, 3) := by decide +kernel
theorem dX6_mayRule_64 : decode cX6_mayRule 64 = .ok (.invokestatic 67, 3) := by decide +kernel
theorem dX6_mayRule_67 : decode cX6_mayRule 67 = .ok (.ireturn, 1) := by decide +kernel
theorem dX6_mayRule_68 : decode cX6_mayRule 68 = .ok (.iload_n 1, 1) := by decide +kernel
theorem dX6_mayRule_69 : decode cX6_mayRule 69 = .ok (.i2l, 1) := by decide +kernel
theorem dX6_mayRule_70 : decode cX6_mayRule 70 = .ok (.lconst 0, 1) := by decide +kernel
theorem dX6_mayRule_71 : decode cX6_mayRule 71 = .ok (.ldc2_w 112, 3) := by decide +kernel
theorem dX6_mayRule_74 : decode cX6_mayRule 74 = .ok (.invokestatic 67, 3) := by decide +kernel
theorem dX6_mayRule_77 : decode cX6_mayRule 77 = .ok (.ireturn, 1) := by decide +kernel
theorem dX6_mayRule_78 : decode cX6_mayRule 78 = .ok (.iload_n 1, 1) := by decide +kernel
theorem dX6_mayRule_79 : decode cX6_mayRule 79 = .ok (.i2l, 1) := by decide +kernel
theorem dX6_mayRule_80 : decode cX6_mayRule 80 = .ok (.ldc2_w 114, 3) := by decide +kernel
theorem dX6_mayRule_83 : decode cX6_mayRule 83 = .ok (.ldc2_w 110, 3) := by decide +kernel
theorem dX6_mayRule_86 : decode cX6_mayRule 86 = .ok (.invokestatic 67, 3) := by decide +kernel
theorem dX6_mayRule_89 : decode cX6_mayRule 89 = .ok (.ireturn, 1) := by decide +kernel
theorem dX6_mayRule_90 : decode cX6_mayRule 90 = .ok (.iload_n 1, 1) := by decide +kernel
theorem dX6_mayRule_91 : decode cX6_mayRule 91 = .ok (.i2l, 1) := by decide +kernel
theorem dX6_mayRule_92 : decode cX6_mayRule 92 = .ok (.ldc2_w 116, 3) := by decide +kernel
theorem dX6_mayRule_95 : decode cX6_mayRule 95 = .ok (.ldc2_w 118, 3) := by decide +kernel
theorem dX6_mayRule_98 : decode cX6_mayRule 98 = .ok (.invokestatic 67, 3) := by decide +kernel
theorem dX6_mayRule_101 : decode cX6_mayRule 101 = .ok (.ireturn, 1) := by decide +kernel
theorem dX6_mayRule_102 : decode cX6_mayRule 102 = .ok (.iload_n 1, 1) := by decide +kernel
theorem dX6_mayRule_103 : decode cX6_mayRule 103 = .ok (.i2l, 1) := by decide +kernel
theorem dX6_mayRule_104 : decode cX6_mayRule 104 = .ok (.lconst 0, 1) := by decide +kernel
theorem dX6_mayRule_105 : decode cX6_mayRule 105 = .ok (.ldc2_w 79, 3) := by decide +kernel
theorem dX6_mayRule_108 : decode cX6_mayRule 108 = .ok (.invokestatic 67, 3) := by decide +kernel
theorem dX6_mayRule_111 : decode cX6_mayRule 111 = .ok (.ireturn, 1) := by decide +kernel
set_option maxRecDepth 100000 in
theorem ggX6_rule__X6_in : GoodIn wsX6_rule_ wsX6_in := goodIn_g _ [7] [0] rfl (by decide +kernel)
set_option maxRecDepth 100000 in
theorem gX6_rule__X6_in : GoodIn wsX6_rule_ (va_wsS RX6 67 yX6_in wsX6_in) := goodIn_app (goodIn_of _ (by decide +kernel)) ggX6_rule__X6_in
set_option maxRecDepth 100000 in
theorem ggX6_rule__X6_mayRule : GoodIn wsX6_rule_ wsX6_mayRule := goodIn_g _ [4, 0, 0, 0, 2, 0, 0, 0, 0, 0, 0, 0] [4, 5, 6, 7, 8, 9, 10, 11, 0, 1, 2, 3] rfl (by decide +kernel)
set_option maxRecDepth 100000 in
theorem gX6_rule__X6_mayRule : GoodIn wsX6_rule_ (va_wsS RX6 122 yX6_mayRule wsX6_mayRule) := goodIn_app (goodIn_of _ (by decide +kernel)) ggX6_rule__X6_mayRule
set_option maxRecDepth 100000 in
theorem ggX6_rule__X6_rule : GoodIn wsX6_rule_ wsX6_rule := goodIn_g _ [3, 17, 0, 0, 0, 0, 0, 0, 0, 0, 0, 0, 0, 0, 0, 0, 0, 0, 0, 0, 0, 0, 0, 0, 0, 0, 0, 0, 0, 0] [1, 0, 2, 3, 4, 5, 6, 7, 8, 9, 10, 11, 12, 13, 14, 15, 16, 17, 18, 19, 20, 21, 22, 23, 24, 25, 26, 27, 28, 29] rfl (by decide +kernel)
set_option maxRecDepth 100000 in
theorem gX6_rule__X6_rule : GoodIn wsX6_rule_ (wsV RX6 127 RX6 yX6_rule wsX6_rule) := goodIn_app (goodIn_of _ (by decide +kernel)) ggX6_rule__X6_rule
theorem dX6_rule__0 : decode cX6_rule_ 0 = .ok (.iload_n 1, 1) := by decide +kernel
theorem dX6_rule__1 : decode cX6_rule_ 1 = .ok (.i2l, 1) := by decide +kernel
theorem dX6_rule__2 : decode cX6_rule_ 2 = .ok (.lconst 0, 1) := by decide +kernel
theorem dX6_rule__3 : decode cX6_rule_ 3 = .ok (.ldc2_w 120, 3) := by decide +kernel
theorem dX6_rule__6 : decode cX6_rule_ 6 = .ok (.invokestatic 67, 3) := by decide +kernel
theorem dX6_rule__9 : decode cX6_rule_ 9 = .ok (.ifCond .eq 11, 3) := by decide +kernel
theorem dX6_rule__12 : decode cX6_rule_ 12 = .ok (.iload_n 1, 1) := by decide +kernel
theorem dX6_rule__13 : decode cX6_rule_ 13 = .ok (.iload_n 2, 1) := by decide +kernel
theorem dX6_rule__14 : decode cX6_rule_ 14 = .ok (.invokestatic 122, 3) := by decide +kernel
theorem dX6_rule__17 : decode cX6_rule_ 17 = .ok (.ifCond .ne 7, 3) := by decide +kernel
theorem dX6_rule__20 : decode cX6_rule_ 20 = .ok (.ldc2_w 125, 3) := by decide +kernel
theorem dX6_rule__23 : decode cX6_rule_ 23 = .ok (.lreturn, 1) := by decide +kernel
theorem dX6_rule__24 : decode cX6_rule_ 24 = .ok (.aload_n 0, 1) := by decide +kernel
theorem dX6_rule__25 : decode cX6_rule_ 25 = .ok (.iload_n 1, 1) := by decide +kernel
theorem dX6_rule__26 : decode cX6_rule_ 26 = .ok (.invokevirtual 127, 3) := by decide +kernel
theorem dX6_rule__29 : decode cX6_rule_ 29 = .ok (.istore_n 3, 1) := by decide +kernel
theorem dX6_rule__30 : decode cX6_rule_ 30 = .ok (.aload_n 0, 1) := by decide +kernel
theorem dX6_rule__31 : decode cX6_rule_ 31 = .ok (.getfield 11, 3) := by decide +kernel
theorem dX6_rule__34 : decode cX6_rule_ 34 = .ok (.bipush 41, 2) := by decide +kernel
theorem dX6_rule__36 : decode cX6_rule_ 36 = .ok (.iload_n 1, 1) := by decide +kernel
theorem dX6_rule__37 : decode cX6_rule_ 37 = .ok (.iadd, 1) := by decide +kernel
theorem dX6_rule__38 : decode cX6_rule_ 38 = .ok (.iload_n 2, 1) := by decide +kernel
theorem dX6_rule__39 : decode cX6_rule_ 39 = .ok (.iastore, 1) := by decide +kernel
theorem dX6_rule__40 : decode cX6_rule_ 40 = .ok (.iload_n 3, 1) := by decide +kernel
theorem dX6_rule__41 : decode cX6_rule_ 41 = .ok (.i2l, 1) := by decide +kernel
theorem dX6_rule__42 : decode cX6_rule_ 42 = .ok (.lreturn, 1) := by decide +kernel
set_option maxRecDepth 100000 in
theorem ggX6_lays_X6_of0 : GoodIn wsX6_lays wsX6_of0 := goodIn_g _ [2, 9, 3, 0, 0, 0, 0, 0, 0, 0, 0, 0, 0, 0, 0, 0, 0, 0, 0, 0, 0, 0, 0, 0, 0, 0, 0, 0, 0, 0] [1, 0, 2, 3, 4, 5, 6, 7, 8, 9, 10, 11, 12, 13, 14, 15, 16, 17, 18, 19, 20, 21, 22, 23, 24, 25, 26, 27, 28, 29] rfl (by decide +kernel)
set_option maxRecDepth 100000 in
theorem gX6_lays_X6_of0 : GoodIn wsX6_lays (wsV RX6 91 RX6 yX6_of0 wsX6_of0) := goodIn_app (goodIn_of _ (by decide +kernel)) ggX6_lays_X6_of0
set_option maxRecDepth 100000 in
theorem ggX6_lays_X6_isUnder : GoodIn wsX6_lays wsX6_isUnder := goodIn_g _ [15] [0] rfl (by decide +kernel)
set_option maxRecDepth 100000 in
theorem gX6_lays_X6_isUnder : GoodIn wsX6_lays (va_wsS RX6 95 yX6_isUnder wsX6_isUnder) := goodIn_app (goodIn_of _ (by decide +kernel)) ggX6_lays_X6_isUnder
theorem dX6_lays_0 : decode cX6_lays 0 = .ok (.aload_n 0, 1) := by decide +kernel
theorem dX6_lays_1 : decode cX6_lays 1 = .ok (.iconst 0, 1) := by decide +kernel
theorem dX6_lays_2 : decode cX6_lays 2 = .ok (.putfield 130, 3) := by decide +kernel
theorem dX6_lays_5 : decode cX6_lays 5 = .ok (.iconst 0, 1) := by decide +kernel
theorem dX6_lays_6 : decode cX6_lays 6 = .ok (.istore_n 1, 1) := by decide +kernel
theorem dX6_lays_7 : decode cX6_lays 7 = .ok (.iload_n 1, 1) := by decide +kernel
theorem dX6_lays_8 : decode cX6_lays 8 = .ok (.aload_n 0, 1) := by decide +kernel
theorem dX6_lays_9 : decode cX6_lays 9 = .ok (.getfield 11, 3) := by decide +kernel
theorem dX6_lays_12 : decode cX6_lays 12 = .ok (.bipush 40, 2) := by decide +kernel
theorem dX6_lays_14 : decode cX6_lays 14 = .ok (.iaload, 1) := by decide +kernel
theorem dX6_lays_15 : decode cX6_lays 15 = .ok (.if_icmp .ge 288, 3) := by decide +kernel
theorem dX6_lays_18 : decode cX6_lays 18 = .ok (.aload_n 0, 1) := by decide +kernel
theorem dX6_lays_19 : decode cX6_lays 19 = .ok (.iload_n 1, 1) := by decide +kernel
theorem dX6_lays_20 : decode cX6_lays 20 = .ok (.iconst 0, 1) := by decide +kernel
theorem dX6_lays_21 : decode cX6_lays 21 = .ok (.invokevirtual 91, 3) := by decide +kernel
theorem dX6_lays_24 : decode cX6_lays 24 = .ok (.istore_n 2, 1) := by decide +kernel
theorem dX6_lays_25 : decode cX6_lays 25 = .ok (.aload_n 0, 1) := by decide +kernel
theorem dX6_lays_26 : decode cX6_lays 26 = .ok (.iload_n 1, 1) := by decide +kernel
theorem dX6_lays_27 : decode cX6_lays 27 = .ok (.iconst 1, 1) := by decide +kernel
theorem dX6_lays_28 : decode cX6_lays 28 = .ok (.invokevirtual 91, 3) := by decide +kernel
theorem dX6_lays_31 : decode cX6_lays 31 = .ok (.istore_n 3, 1) := by decide +kernel
theorem dX6_lays_32 : decode cX6_lays 32 = .ok (.aload_n 0, 1) := by decide +kernel
theorem dX6_lays_33 : decode cX6_lays 33 = .ok (.iload_n 1, 1) := by decide +kernel
theorem dX6_lays_34 : decode cX6_lays 34 = .ok (.iconst 2, 1) := by decide +kernel
theorem dX6_lays_35 : decode cX6_lays 35 = .ok (.invokevirtual 91, 3) := by decide +kernel
theorem dX6_lays_38 : decode cX6_lays 38 = .ok (.istore 4, 2) := by decide +kernel
theorem dX6_lays_40 : decode cX6_lays 40 = .ok (.aload_n 0, 1) := by decide +kernel
theorem dX6_lays_41 : decode cX6_lays 41 = .ok (.getfield 18, 3) := by decide +kernel
theorem dX6_lays_44 : decode cX6_lays 44 = .ok (.aload_n 0, 1) := by decide +kernel
theorem dX6_lays_45 : decode cX6_lays 45 = .ok (.getfield 130, 3) := by decide +kernel
theorem dX6_lays_48 : decode cX6_lays 48 = .ok (.iaload, 1) := by decide +kernel
theorem dX6_lays_49 : decode cX6_lays 49 = .ok (.istore 5, 2) := by decide +kernel
theorem dX6_lays_51 : decode cX6_lays 51 = .ok (.aload_n 0, 1) := by decide +kernel
theorem dX6_lays_52 : decode cX6_lays 52 = .ok (.getfield 21, 3) := by decide +kernel
theorem dX6_lays_55 : decode cX6_lays 55 = .ok (.aload_n 0, 1) := by decide +kernel
theorem dX6_lays_56 : decode cX6_lays 56 = .ok (.getfield 130, 3) := by decide +kernel
theorem dX6_lays_59 : decode cX6_lays 59 = .ok (.iaload, 1) := by decide +kernel
theorem dX6_lays_60 : decode cX6_lays 60 = .ok (.istore 6, 2) := by decide +kernel
theorem dX6_lays_62 : decode cX6_lays 62 = .ok (.iconst 1, 1) := by decide +kernel
theorem dX6_lays_63 : decode cX6_lays 63 = .ok (.istore 7, 2) := by decide +kernel
theorem dX6_lays_65 : decode cX6_lays 65 = .ok (.iload 7, 2) := by decide +kernel
theorem dX6_lays_67 : decode cX6_lays 67 = .ok (.iload_n 3, 1) := by decide +kernel
theorem dX6_lays_68 : decode cX6_lays 68 = .ok (.if_icmp .gt 229, 3) := by decide +kernel
theorem dX6_lays_71 : decode cX6_lays 71 = .ok (.aload_n 0, 1) := by decide +kernel
theorem dX6_lays_72 : decode cX6_lays 72 = .ok (.dup, 1) := by decide +kernel
theorem dX6_lays_73 : decode cX6_lays 73 = .ok (.getfield 130, 3) := by decide +kernel
theorem dX6_lays_76 : decode cX6_lays 76 = .ok (.iconst 1, 1) := by decide +kernel
theorem dX6_lays_77 : decode cX6_lays 77 = .ok (.iadd, 1) := by decide +kernel
theorem dX6_lays_78 : decode cX6_lays 78 = .ok (.putfield 130, 3) := by decide +kernel
theorem dX6_lays_81 : decode cX6_lays 81 = .ok (.iload_n 2, 1) := by decide +kernel
theorem dX6_lays_82 : decode cX6_lays 82 = .ok (.ifCond .ne 7, 3) := by decide +kernel
theorem dX6_lays_85 : decode cX6_lays 85 = .ok (.iconst 0, 1) := by decide +kernel
theorem dX6_lays_86 : decode cX6_lays 86 = .ok (.goto 28, 3) := by decide +kernel
theorem dX6_lays_89 : decode cX6_lays 89 = .ok (.iload_n 2, 1) := by decide +kernel
theorem dX6_lays_90 : decode cX6_lays 90 = .ok (.iconst 1, 1) := by decide +kernel
theorem dX6_lays_91 : decode cX6_lays 91 = .ok (.if_icmp .ne 8, 3) := by decide +kernel
theorem dX6_lays_94 : decode cX6_lays 94 = .ok (.iload 4, 2) := by decide +kernel
theorem dX6_lays_96 : decode cX6_lays 96 = .ok (.goto 18, 3) := by decide +kernel
theorem dX6_lays_99 : decode cX6_lays 99 = .ok (.iload_n 2, 1) := by decide +kernel
theorem dX6_lays_100 : decode cX6_lays 100 = .ok (.iconst 3, 1) := by decide +kernel
theorem dX6_lays_101 : decode cX6_lays 101 = .ok (.if_icmp .ne 9, 3) := by decide +kernel
theorem dX6_lays_104 : decode cX6_lays 104 = .ok (.iload 4, 2) := by decide +kernel
theorem dX6_lays_106 : decode cX6_lays 106 = .ok (.ineg, 1) := by decide +kernel
theorem dX6_lays_107 : decode cX6_lays 107 = .ok (.goto 7, 3) := by decide +kernel
theorem dX6_lays_110 : decode cX6_lays 110 = .ok (.iload 4, 2) := by decide +kernel
theorem dX6_lays_112 : decode cX6_lays 112 = .ok (.iconst 2, 1) := by decide +kernel
theorem dX6_lays_113 : decode cX6_lays 113 = .ok (.idiv, 1) := by decide +kernel
theorem dX6_lays_114 : decode cX6_lays 114 = .ok (.istore 8, 2) := by decide +kernel
theorem dX6_lays_116 : decode cX6_lays 116 = .ok (.iload_n 2, 1) := by decide +kernel
theorem dX6_lays_117 : decode cX6_lays 117 = .ok (.iconst 2, 1) := by decide +kernel
theorem dX6_lays_118 : decode cX6_lays 118 = .ok (.if_icmp .ne 19, 3) := by decide +kernel
theorem dX6_lays_121 : decode cX6_lays 121 = .ok (.iload 5, 2) := by decide +kernel
theorem dX6_lays_123 : decode cX6_lays 123 = .ok (.iload 4, 2) := by decide +kernel
theorem dX6_lays_125 : decode cX6_lays 125 = .ok (.iload 5, 2) := by decide +kernel
theorem dX6_lays_127 : decode cX6_lays 127 = .ok (.isub, 1) := by decide +kernel
theorem dX6_lays_128 : decode cX6_lays 128 = .ok (.iload 7, 2) := by decide +kernel
theorem dX6_lays_130 : decode cX6_lays 130 = .ok (.imul, 1) := by decide +kernel
theorem dX6_lays_131 : decode cX6_lays 131 = .ok (.iload_n 3, 1) := by decide +kernel
theorem dX6_lays_132 : decode cX6_lays 132 = .ok (.idiv, 1) := by decide +kernel
theorem dX6_lays_133 : decode cX6_lays 133 = .ok (.iadd, 1) := by decide +kernel
theorem dX6_lays_134 : decode cX6_lays 134 = .ok (.goto 5, 3) := by decide +kernel
theorem dX6_lays_137 : decode cX6_lays 137 = .ok (.iload 8, 2) := by decide +kernel
theorem dX6_lays_139 : decode cX6_lays 139 = .ok (.istore 8, 2) := by decide +kernel
theorem dX6_lays_141 : decode cX6_lays 141 = .ok (.aload_n 0, 1) := by decide +kernel
theorem dX6_lays_142 : decode cX6_lays 142 = .ok (.getfield 18, 3) := by decide +kernel
theorem dX6_lays_145 : decode cX6_lays 145 = .ok (.aload_n 0, 1) := by decide +kernel
theorem dX6_lays_146 : decode cX6_lays 146 = .ok (.getfield 130, 3) := by decide +kernel
theorem dX6_lays_149 : decode cX6_lays 149 = .ok (.iload_n 2, 1) := by decide +kernel
theorem dX6_lays_150 : decode cX6_lays 150 = .ok (.iconst 4, 1) := by decide +kernel
theorem dX6_lays_151 : decode cX6_lays 151 = .ok (.if_icmp .ne 24, 3) := by decide +kernel
theorem dX6_lays_154 : decode cX6_lays 154 = .ok (.iload 5, 2) := by decide +kernel
theorem dX6_lays_156 : decode cX6_lays 156 = .ok (.iload 4, 2) := by decide +kernel
theorem dX6_lays_158 : decode cX6_lays 158 = .ok (.iload 5, 2) := by decide +kernel
theorem dX6_lays_160 : decode cX6_lays 160 = .ok (.isub, 1) := by decide +kernel
theorem dX6_lays_161 : decode cX6_lays 161 = .ok (.iload 7, 2) := by decide +kernel
theorem dX6_lays_163 : decode cX6_lays 163 = .ok (.imul, 1) := by decide +kernel
theorem dX6_lays_164 : decode cX6_lays 164 = .ok (.iload 7, 2) := by decide +kernel
theorem dX6_lays_166 : decode cX6_lays 166 = .ok (.imul, 1) := by decide +kernel
theorem dX6_lays_167 : decode cX6_lays 167 = .ok (.iload_n 3, 1) := by decide +kernel
theorem dX6_lays_168 : decode cX6_lays 168 = .ok (.iload_n 3, 1) := by decide +kernel
theorem dX6_lays_169 : decode cX6_lays 169 = .ok (.imul, 1) := by decide +kernel
theorem dX6_lays_170 : decode cX6_lays 170 = .ok (.idiv, 1) := by decide +kernel
theorem dX6_lays_171 : decode cX6_lays 171 = .ok (.iadd, 1) := by decide +kernel
theorem dX6_lays_172 : decode cX6_lays 172 = .ok (.goto 5, 3) := by decide +kernel
theorem dX6_lays_175 : decode cX6_lays 175 = .ok (.iload 8, 2) := by decide +kernel
theorem dX6_lays_177 : decode cX6_lays 177 = .ok (.iastore, 1) := by decide +kernel
theorem dX6_lays_178 : decode cX6_lays 178 = .ok (.aload_n 0, 1) := by decide +kernel
theorem dX6_lays_179 : decode cX6_lays 179 = .ok (.getfield 21, 3) := by decide +kernel
theorem dX6_lays_182 : decode cX6_lays 182 = .ok (.aload_n 0, 1) := by decide +kernel
theorem dX6_lays_183 : decode cX6_lays 183 = .ok (.getfield 130, 3) := by decide +kernel
theorem dX6_lays_186 : decode cX6_lays 186 = .ok (.iload_n 2, 1) := by decide +kernel
theorem dX6_lays_187 : decode cX6_lays 187 = .ok (.iconst 2, 1) := by decide +kernel
theorem dX6_lays_188 : decode cX6_lays 188 = .ok (.invokestatic 95, 3) := by decide +kernel
theorem dX6_lays_191 : decode cX6_lays 191 = .ok (.ifCond .eq 23, 3) := by decide +kernel
theorem dX6_lays_194 : decode cX6_lays 194 = .ok (.iload 6, 2) := by decide +kernel
theorem dX6_lays_196 : decode cX6_lays 196 = .ok (.aload_n 0, 1) := by decide +kernel
theorem dX6_lays_197 : decode cX6_lays 197 = .ok (.iload_n 1, 1) := by decide +kernel
theorem dX6_lays_198 : decode cX6_lays 198 = .ok (.iconst 3, 1) := by decide +kernel
theorem dX6_lays_199 : decode cX6_lays 199 = .ok (.invokevirtual 91, 3) := by decide +kernel
theorem dX6_lays_202 : decode cX6_lays 202 = .ok (.iload 6, 2) := by decide +kernel
theorem dX6_lays_204 : decode cX6_lays 204 = .ok (.isub, 1) := by decide +kernel
theorem dX6_lays_205 : decode cX6_lays 205 = .ok (.iload 7, 2) := by decide +kernel
theorem dX6_lays_207 : decode cX6_lays 207 = .ok (.imul, 1) := by decide +kernel
theorem dX6_lays_208 : decode cX6_lays 208 = .ok (.iload_n 3, 1) := by decide +kernel
theorem dX6_lays_209 : decode cX6_lays 209 = .ok (.idiv, 1) := by decide +kernel
theorem dX6_lays_210 : decode cX6_lays 210 = .ok (.iadd, 1) := by decide +kernel
theorem dX6_lays_211 : decode cX6_lays 211 = .ok (.goto 9, 3) := by decide +kernel
theorem dX6_lays_214 : decode cX6_lays 214 = .ok (.aload_n 0, 1) := by decide +kernel
theorem dX6_lays_215 : decode cX6_lays 215 = .ok (.iload_n 1, 1) := by decide +kernel
theorem dX6_lays_216 : decode cX6_lays 216 = .ok (.iconst 3, 1) := by decide +kernel
theorem dX6_lays_217 : decode cX6_lays 217 = .ok (.invokevirtual 91, 3) := by decide +kernel
theorem dX6_lays_220 : decode cX6_lays 220 = .ok (.iastore, 1) := by decide +kernel
theorem dX6_lays_221 : decode cX6_lays 221 = .ok (.aload_n 0, 1) := by decide +kernel
theorem dX6_lays_222 : decode cX6_lays 222 = .ok (.getfield 24, 3) := by decide +kernel
theorem dX6_lays_225 : decode cX6_lays 225 = .ok (.aload_n 0, 1) := by decide +kernel
theorem dX6_lays_226 : decode cX6_lays 226 = .ok (.getfield 130, 3) := by decide +kernel
theorem dX6_lays_229 : decode cX6_lays 229 = .ok (.iload_n 1, 1) := by decide +kernel
theorem dX6_lays_230 : decode cX6_lays 230 = .ok (.iastore, 1) := by decide +kernel
theorem dX6_lays_231 : decode cX6_lays 231 = .ok (.aload_n 0, 1) := by decide +kernel
theorem dX6_lays_232 : decode cX6_lays 232 = .ok (.getfield 27, 3) := by decide +kernel
theorem dX6_lays_235 : decode cX6_lays 235 = .ok (.aload_n 0, 1) := by decide +kernel
theorem dX6_lays_236 : decode cX6_lays 236 = .ok (.getfield 130, 3) := by decide +kernel
theorem dX6_lays_239 : decode cX6_lays 239 = .ok (.aload_n 0, 1) := by decide +kernel
theorem dX6_lays_240 : decode cX6_lays 240 = .ok (.getfield 27, 3) := by decide +kernel
theorem dX6_lays_243 : decode cX6_lays 243 = .ok (.aload_n 0, 1) := by decide +kernel
theorem dX6_lays_244 : decode cX6_lays 244 = .ok (.getfield 130, 3) := by decide +kernel
theorem dX6_lays_247 : decode cX6_lays 247 = .ok (.iconst 1, 1) := by decide +kernel
theorem dX6_lays_248 : decode cX6_lays 248 = .ok (.isub, 1) := by decide +kernel
theorem dX6_lays_249 : decode cX6_lays 249 = .ok (.iaload, 1) := by decide +kernel
theorem dX6_lays_250 : decode cX6_lays 250 = .ok (.aload_n 0, 1) := by decide +kernel
theorem dX6_lays_251 : decode cX6_lays 251 = .ok (.getfield 18, 3) := by decide +kernel
theorem dX6_lays_254 : decode cX6_lays 254 = .ok (.aload_n 0, 1) := by decide +kernel
theorem dX6_lays_255 : decode cX6_lays 255 = .ok (.getfield 130, 3) := by decide +kernel
theorem dX6_lays_258 : decode cX6_lays 258 = .ok (.iaload, 1) := by decide +kernel
theorem dX6_lays_259 : decode cX6_lays 259 = .ok (.iadd, 1) := by decide +kernel
theorem dX6_lays_260 : decode cX6_lays 260 = .ok (.iastore, 1) := by decide +kernel
theorem dX6_lays_261 : decode cX6_lays 261 = .ok (.aload_n 0, 1) := by decide +kernel
theorem dX6_lays_262 : decode cX6_lays 262 = .ok (.getfield 30, 3) := by decide +kernel
theorem dX6_lays_265 : decode cX6_lays 265 = .ok (.aload_n 0, 1) := by decide +kernel
theorem dX6_lays_266 : decode cX6_lays 266 = .ok (.getfield 130, 3) := by decide +kernel
theorem dX6_lays_269 : decode cX6_lays 269 = .ok (.aload_n 0, 1) := by decide +kernel
theorem dX6_lays_270 : decode cX6_lays 270 = .ok (.getfield 30, 3) := by decide +kernel
theorem dX6_lays_273 : decode cX6_lays 273 = .ok (.aload_n 0, 1) := by decide +kernel
theorem dX6_lays_274 : decode cX6_lays 274 = .ok (.getfield 130, 3) := by decide +kernel
theorem dX6_lays_277 : decode cX6_lays 277 = .ok (.iconst 1, 1) := by decide +kernel
theorem dX6_lays_278 : decode cX6_lays 278 = .ok (.isub, 1) := by decide +kernel
theorem dX6_lays_279 : decode cX6_lays 279 = .ok (.iaload, 1) := by decide +kernel
theorem dX6_lays_280 : decode cX6_lays 280 = .ok (.aload_n 0, 1) := by decide +kernel
theorem dX6_lays_281 : decode cX6_lays 281 = .ok (.getfield 27, 3) := by decide +kernel
theorem dX6_lays_284 : decode cX6_lays 284 = .ok (.aload_n 0, 1) := by decide +kernel
theorem dX6_lays_285 : decode cX6_lays 285 = .ok (.getfield 130, 3) := by decide +kernel
theorem dX6_lays_288 : decode cX6_lays 288 = .ok (.iaload, 1) := by decide +kernel
theorem dX6_lays_289 : decode cX6_lays 289 = .ok (.iadd, 1) := by decide +kernel
theorem dX6_lays_290 : decode cX6_lays 290 = .ok (.iastore, 1) := by decide +kernel
theorem dX6_lays_291 : decode cX6_lays 291 = .ok (.iinc 7 1, 3) := by decide +kernel
theorem dX6_lays_294 : decode cX6_lays 294 = .ok (.goto (-229), 3) := by decide +kernel
theorem dX6_lays_297 : decode cX6_lays 297 = .ok (.iinc 1 1, 3) := by decide +kernel
theorem dX6_lays_300 : decode cX6_lays 300 = .ok (.goto (-293), 3) := by decide +kernel
theorem dX6_lays_303 : decode cX6_lays 303 = .ok (.return_, 1) := by decide +kernel
set_option maxRecDepth 100000 in
theorem ggX6_isStation_X6_in : GoodIn wsX6_isStation wsX6_in := goodIn_g _ [5] [0] rfl (by decide +kernel)
set_option maxRecDepth 100000 in
theorem gX6_isStation_X6_in : GoodIn wsX6_isStation (va_wsS RX6 67 yX6_in wsX6_in) := goodIn_app (goodIn_of _ (by decide +kernel)) ggX6_isStation_X6_in
theorem dX6_isStation_0 : decode cX6_isStation 0 = .ok (.iload_n 1, 1) := by decide +kernel
theorem dX6_isStation_1 : decode cX6_isStation 1 = .ok (.i2l, 1) := by decide +kernel
theorem dX6_isStation_2 : decode cX6_isStation 2 = .ok (.lconst 1, 1) := by decide +kernel
theorem dX6_isStation_3 : decode cX6_isStation 3 = .ok (.aload_n 0, 1) := by decide +kernel
theorem dX6_isStation_4 : decode cX6_isStation 4 = .ok (.getfield 130, 3) := by decide +kernel
theorem dX6_isStation_7 : decode cX6_isStation 7 = .ok (.i2l, 1) := by decide +kernel
theorem dX6_isStation_8 : decode cX6_isStation 8 = .ok (.invokestatic 67, 3) := by decide +kernel
theorem dX6_isStation_11 : decode cX6_isStation 11 = .ok (.ireturn, 1) := by decide +kernel
set_option maxRecDepth 100000 in
theorem ggX6_at_X6_lays : GoodIn wsX6_at wsX6_lays := goodIn_g _ [1, 2, 0, 0, 0, 0, 3, 0, 0, 0, 0, 0, 0, 0, 0, 0, 3, 0, 0, 0, 0, 0, 0, 0, 0, 0, 0, 0, 0, 0, 0, 0, 0, 0, 0, 0, 0, 0, 0, 0, 0, 0, 0, 0] [7, 0, 8, 1, 2, 5, 3, 4, 9, 10, 11, 6, 12, 13, 14, 15, 16, 17, 18, 19, 20, 21, 22, 23, 24, 25, 26, 27, 28, 29, 30, 31, 32, 33, 34, 35, 36, 37, 38, 39, 40, 41, 42, 43] rfl (by decide +kernel)
set_option maxRecDepth 100000 in
theorem gX6_at_X6_lays : GoodIn wsX6_at (wsV RX6 134 RX6 yX6_lays wsX6_lays) := goodIn_app (goodIn_of _ (by decide +kernel)) ggX6_at_X6_lays
set_option maxRecDepth 100000 in
theorem ggX6_at_X6_in : GoodIn wsX6_at wsX6_in := goodIn_g _ [24] [0] rfl (by decide +kernel)
set_option maxRecDepth 100000 in
theorem gX6_at_X6_in : GoodIn wsX6_at (va_wsS RX6 67 yX6_in wsX6_in) := goodIn_app (goodIn_of _ (by decide +kernel)) ggX6_at_X6_in
theorem dX6_at_0 : decode cX6_at 0 = .ok (.aload_n 0, 1) := by decide +kernel
theorem dX6_at_1 : decode cX6_at 1 = .ok (.invokevirtual 134, 3) := by decide +kernel
theorem dX6_at_4 : decode cX6_at 4 = .ok (.iload_n 1, 1) := by decide +kernel
theorem dX6_at_5 : decode cX6_at 5 = .ok (.i2l, 1) := by decide +kernel
theorem dX6_at_6 : decode cX6_at 6 = .ok (.lconst 0, 1) := by decide +kernel
theorem dX6_at_7 : decode cX6_at 7 = .ok (.aload_n 0, 1) := by decide +kernel
theorem dX6_at_8 : decode cX6_at 8 = .ok (.getfield 130, 3) := by decide +kernel
theorem dX6_at_11 : decode cX6_at 11 = .ok (.i2l, 1) := by decide +kernel
theorem dX6_at_12 : decode cX6_at 12 = .ok (.invokestatic 67, 3) := by decide +kernel
theorem dX6_at_15 : decode cX6_at 15 = .ok (.ifCond .eq 24, 3) := by decide +kernel
theorem dX6_at_18 : decode cX6_at 18 = .ok (.iload_n 2, 1) := by decide +kernel
theorem dX6_at_19 : decode cX6_at 19 = .ok (.i2l, 1) := by decide +kernel
theorem dX6_at_20 : decode cX6_at 20 = .ok (.lconst 0, 1) := by decide +kernel
theorem dX6_at_21 : decode cX6_at 21 = .ok (.ldc2_w 137, 3) := by decide +kernel
theorem dX6_at_24 : decode cX6_at 24 = .ok (.invokestatic 67, 3) := by decide +kernel
theorem dX6_at_27 : decode cX6_at 27 = .ok (.ifCond .eq 12, 3) := by decide +kernel
theorem dX6_at_30 : decode cX6_at 30 = .ok (.iload_n 1, 1) := by decide +kernel
theorem dX6_at_31 : decode cX6_at 31 = .ok (.ifCond .ne 12, 3) := by decide +kernel
theorem dX6_at_34 : decode cX6_at 34 = .ok (.iload_n 2, 1) := by decide +kernel
theorem dX6_at_35 : decode cX6_at 35 = .ok (.iconst 4, 1) := by decide +kernel
theorem dX6_at_36 : decode cX6_at 36 = .ok (.if_icmp .ne 7, 3) := by decide +kernel
theorem dX6_at_39 : decode cX6_at 39 = .ok (.ldc2_w 125, 3) := by decide +kernel
theorem dX6_at_42 : decode cX6_at 42 = .ok (.lreturn, 1) := by decide +kernel
theorem dX6_at_43 : decode cX6_at 43 = .ok (.iload_n 2, 1) := by decide +kernel
theorem dX6_at_44 : decode cX6_at 44 = .ok (.tableswitch 64 0 3 #[32, 40, 48, 56], 32) := by decide +kernel
theorem dX6_at_76 : decode cX6_at 76 = .ok (.aload_n 0, 1) := by decide +kernel
theorem dX6_at_77 : decode cX6_at 77 = .ok (.getfield 18, 3) := by decide +kernel
theorem dX6_at_80 : decode cX6_at 80 = .ok (.iload_n 1, 1) := by decide +kernel
theorem dX6_at_81 : decode cX6_at 81 = .ok (.iaload, 1) := by decide +kernel
theorem dX6_at_82 : decode cX6_at 82 = .ok (.i2l, 1) := by decide +kernel
theorem dX6_at_83 : decode cX6_at 83 = .ok (.lreturn, 1) := by decide +kernel
theorem dX6_at_84 : decode cX6_at 84 = .ok (.aload_n 0, 1) := by decide +kernel
theorem dX6_at_85 : decode cX6_at 85 = .ok (.getfield 21, 3) := by decide +kernel
theorem dX6_at_88 : decode cX6_at 88 = .ok (.iload_n 1, 1) := by decide +kernel
theorem dX6_at_89 : decode cX6_at 89 = .ok (.iaload, 1) := by decide +kernel
theorem dX6_at_90 : decode cX6_at 90 = .ok (.i2l, 1) := by decide +kernel
theorem dX6_at_91 : decode cX6_at 91 = .ok (.lreturn, 1) := by decide +kernel
theorem dX6_at_92 : decode cX6_at 92 = .ok (.aload_n 0, 1) := by decide +kernel
theorem dX6_at_93 : decode cX6_at 93 = .ok (.getfield 27, 3) := by decide +kernel
theorem dX6_at_96 : decode cX6_at 96 = .ok (.iload_n 1, 1) := by decide +kernel
theorem dX6_at_97 : decode cX6_at 97 = .ok (.iaload, 1) := by decide +kernel
theorem dX6_at_98 : decode cX6_at 98 = .ok (.i2l, 1) := by decide +kernel
theorem dX6_at_99 : decode cX6_at 99 = .ok (.lreturn, 1) := by decide +kernel
theorem dX6_at_100 : decode cX6_at 100 = .ok (.aload_n 0, 1) := by decide +kernel
theorem dX6_at_101 : decode cX6_at 101 = .ok (.getfield 30, 3) := by decide +kernel
theorem dX6_at_104 : decode cX6_at 104 = .ok (.iload_n 1, 1) := by decide +kernel
theorem dX6_at_105 : decode cX6_at 105 = .ok (.iaload, 1) := by decide +kernel
theorem dX6_at_106 : decode cX6_at 106 = .ok (.i2l, 1) := by decide +kernel
theorem dX6_at_107 : decode cX6_at 107 = .ok (.lreturn, 1) := by decide +kernel
theorem dX6_at_108 : decode cX6_at 108 = .ok (.aload_n 0, 1) := by decide +kernel
theorem dX6_at_109 : decode cX6_at 109 = .ok (.getfield 24, 3) := by decide +kernel
theorem dX6_at_112 : decode cX6_at 112 = .ok (.iload_n 1, 1) := by decide +kernel
theorem dX6_at_113 : decode cX6_at 113 = .ok (.iaload, 1) := by decide +kernel
theorem dX6_at_114 : decode cX6_at 114 = .ok (.i2l, 1) := by decide +kernel
theorem dX6_at_115 : decode cX6_at 115 = .ok (.lreturn, 1) := by decide +kernel
set_option maxRecDepth 100000 in
theorem ggX6_scaled_X6_lays : GoodIn wsX6_scaled wsX6_lays := goodIn_g _ [1, 1, 3, 0, 0, 0, 0, 0, 0, 0, 0, 0, 0, 0, 0, 0, 7, 0, 0, 0, 0, 0, 0, 0, 0, 0, 0, 0, 0, 0, 0, 0, 0, 0, 0, 0, 0, 0, 0, 0, 0, 0, 0, 0] [3, 0, 4, 5, 6, 7, 8, 1, 9, 10, 11, 2, 12, 13, 14, 15, 16, 17, 18, 19, 20, 21, 22, 23, 24, 25, 26, 27, 28, 29, 30, 31, 32, 33, 34, 35, 36, 37, 38, 39, 40, 41, 42, 43] rfl (by decide +kernel)
set_option maxRecDepth 100000 in
theorem gX6_scaled_X6_lays : GoodIn wsX6_scaled (wsV RX6 134 RX6 yX6_lays wsX6_lays) := goodIn_app (goodIn_of _ (by decide +kernel)) ggX6_scaled_X6_lays
set_option maxRecDepth 100000 in
theorem ggX6_scaled_X6_in : GoodIn wsX6_scaled wsX6_in := goodIn_g _ [23] [0] rfl (by decide +kernel)
set_option maxRecDepth 100000 in
theorem gX6_scaled_X6_in : GoodIn wsX6_scaled (va_wsS RX6 67 yX6_in wsX6_in) := goodIn_app (goodIn_of _ (by decide +kernel)) ggX6_scaled_X6_in
set_option maxRecDepth 100000 in
theorem ggX6_scaled_X6_rule : GoodIn wsX6_scaled wsX6_rule := goodIn_g _ [9, 17, 0, 0, 0, 0, 0, 0, 0, 0, 0, 0, 0, 0, 0, 0, 0, 0, 0, 0, 0, 0, 0, 0, 0, 0, 0, 0, 0, 0] [1, 0, 2, 3, 4, 5, 6, 7, 8, 9, 10, 11, 12, 13, 14, 15, 16, 17, 18, 19, 20, 21, 22, 23, 24, 25, 26, 27, 28, 29] rfl (by decide +kernel)
set_option maxRecDepth 100000 in
theorem gX6_scaled_X6_rule : GoodIn wsX6_scaled (wsV RX6 127 RX6 yX6_rule wsX6_rule) := goodIn_app (goodIn_of _ (by decide +kernel)) ggX6_scaled_X6_rule
theorem dX6_scaled_0 : decode cX6_scaled 0 = .ok (.aload_n 0, 1) := by decide +kernel
theorem dX6_scaled_1 : decode cX6_scaled 1 = .ok (.invokevirtual 134, 3) := by decide +kernel
theorem dX6_scaled_4 : decode cX6_scaled 4 = .ok (.iload_n 1, 1) := by decide +kernel
theorem dX6_scaled_5 : decode cX6_scaled 5 = .ok (.i2l, 1) := by decide +kernel
theorem dX6_scaled_6 : decode cX6_scaled 6 = .ok (.lconst 0, 1) := by decide +kernel
theorem dX6_scaled_7 : decode cX6_scaled 7 = .ok (.aload_n 0, 1) := by decide +kernel
theorem dX6_scaled_8 : decode cX6_scaled 8 = .ok (.getfield 130, 3) := by decide +kernel
theorem dX6_scaled_11 : decode cX6_scaled 11 = .ok (.i2l, 1) := by decide +kernel
theorem dX6_scaled_12 : decode cX6_scaled 12 = .ok (.invokestatic 67, 3) := by decide +kernel
theorem dX6_scaled_15 : decode cX6_scaled 15 = .ok (.ifCond .ne 7, 3) := by decide +kernel
theorem dX6_scaled_18 : decode cX6_scaled 18 = .ok (.ldc2_w 125, 3) := by decide +kernel
theorem dX6_scaled_21 : decode cX6_scaled 21 = .ok (.lreturn, 1) := by decide +kernel
theorem dX6_scaled_22 : decode cX6_scaled 22 = .ok (.aload_n 0, 1) := by decide +kernel
theorem dX6_scaled_23 : decode cX6_scaled 23 = .ok (.getfield 30, 3) := by decide +kernel
theorem dX6_scaled_26 : decode cX6_scaled 26 = .ok (.iload_n 1, 1) := by decide +kernel
theorem dX6_scaled_27 : decode cX6_scaled 27 = .ok (.iaload, 1) := by decide +kernel
theorem dX6_scaled_28 : decode cX6_scaled 28 = .ok (.i2l, 1) := by decide +kernel
theorem dX6_scaled_29 : decode cX6_scaled 29 = .ok (.aload_n 0, 1) := by decide +kernel
theorem dX6_scaled_30 : decode cX6_scaled 30 = .ok (.iconst 0, 1) := by decide +kernel
theorem dX6_scaled_31 : decode cX6_scaled 31 = .ok (.invokevirtual 127, 3) := by decide +kernel
theorem dX6_scaled_34 : decode cX6_scaled 34 = .ok (.i2l, 1) := by decide +kernel
theorem dX6_scaled_35 : decode cX6_scaled 35 = .ok (.lmul, 1) := by decide +kernel
theorem dX6_scaled_36 : decode cX6_scaled 36 = .ok (.lstore_n 2, 1) := by decide +kernel
theorem dX6_scaled_37 : decode cX6_scaled 37 = .ok (.lload_n 2, 1) := by decide +kernel
theorem dX6_scaled_38 : decode cX6_scaled 38 = .ok (.lload_n 2, 1) := by decide +kernel
theorem dX6_scaled_39 : decode cX6_scaled 39 = .ok (.l2i, 1) := by decide +kernel
theorem dX6_scaled_40 : decode cX6_scaled 40 = .ok (.i2l, 1) := by decide +kernel
theorem dX6_scaled_41 : decode cX6_scaled 41 = .ok (.lcmp, 1) := by decide +kernel
theorem dX6_scaled_42 : decode cX6_scaled 42 = .ok (.ifCond .ne 7, 3) := by decide +kernel
theorem dX6_scaled_45 : decode cX6_scaled 45 = .ok (.lload_n 2, 1) := by decide +kernel
theorem dX6_scaled_46 : decode cX6_scaled 46 = .ok (.goto 6, 3) := by decide +kernel
theorem dX6_scaled_49 : decode cX6_scaled 49 = .ok (.ldc2_w 125, 3) := by decide +kernel
theorem dX6_scaled_52 : decode cX6_scaled 52 = .ok (.lreturn, 1) := by decide +kernel
set_option maxRecDepth 100000 in
theorem ggX6_versinesApart_X6_lastOf : GoodIn wsX6_versinesApart wsX6_lastOf := goodIn_g _ [5, 0, 0, 0, 0, 0, 0, 0, 0, 0, 0, 3, 0, 0, 0, 0, 0, 0, 0, 0, 0, 0, 0, 0, 0, 0, 0, 0, 0, 0, 0, 0, 0, 0, 0, 0, 0, 0, 0] [1, 2, 3, 4, 0, 5, 6, 7, 8, 9, 10, 11, 12, 13, 14, 15, 16, 17, 18, 19, 20, 21, 22, 23, 24, 25, 26, 27, 28, 29, 30, 31, 32, 33, 34, 35, 36, 37, 38] rfl (by decide +kernel)
set_option maxRecDepth 100000 in
theorem gX6_versinesApart_X6_lastOf : GoodIn wsX6_versinesApart (wsV RX6 107 RX6 yX6_lastOf wsX6_lastOf) := goodIn_app (goodIn_of _ (by decide +kernel)) ggX6_versinesApart_X6_lastOf
set_option maxRecDepth 100000 in
theorem ggX6_versinesApart_X6_abs : GoodIn wsX6_versinesApart wsX6_abs := goodIn_g _ [18] [0] rfl (by decide +kernel)
set_option maxRecDepth 100000 in
theorem gX6_versinesApart_X6_abs : GoodIn wsX6_versinesApart (va_wsS RX6 139 yX6_abs wsX6_abs) := goodIn_app (goodIn_of _ (by decide +kernel)) ggX6_versinesApart_X6_abs
theorem dX6_versinesApart_0 : decode cX6_versinesApart 0 = .ok (.aload_n 0, 1) := by decide +kernel
theorem dX6_versinesApart_1 : decode cX6_versinesApart 1 = .ok (.getfield 18, 3) := by decide +kernel
theorem dX6_versinesApart_4 : decode cX6_versinesApart 4 = .ok (.aload_n 0, 1) := by decide +kernel
theorem dX6_versinesApart_5 : decode cX6_versinesApart 5 = .ok (.iload_n 1, 1) := by decide +kernel
theorem dX6_versinesApart_6 : decode cX6_versinesApart 6 = .ok (.invokevirtual 107, 3) := by decide +kernel
theorem dX6_versinesApart_9 : decode cX6_versinesApart 9 = .ok (.iaload, 1) := by decide +kernel
theorem dX6_versinesApart_10 : decode cX6_versinesApart 10 = .ok (.aload_n 0, 1) := by decide +kernel
theorem dX6_versinesApart_11 : decode cX6_versinesApart 11 = .ok (.getfield 18, 3) := by decide +kernel
theorem dX6_versinesApart_14 : decode cX6_versinesApart 14 = .ok (.aload_n 0, 1) := by decide +kernel
theorem dX6_versinesApart_15 : decode cX6_versinesApart 15 = .ok (.iload_n 1, 1) := by decide +kernel
theorem dX6_versinesApart_16 : decode cX6_versinesApart 16 = .ok (.invokevirtual 107, 3) := by decide +kernel
theorem dX6_versinesApart_19 : decode cX6_versinesApart 19 = .ok (.iconst 1, 1) := by decide +kernel
theorem dX6_versinesApart_20 : decode cX6_versinesApart 20 = .ok (.iadd, 1) := by decide +kernel
theorem dX6_versinesApart_21 : decode cX6_versinesApart 21 = .ok (.iaload, 1) := by decide +kernel
theorem dX6_versinesApart_22 : decode cX6_versinesApart 22 = .ok (.isub, 1) := by decide +kernel
theorem dX6_versinesApart_23 : decode cX6_versinesApart 23 = .ok (.invokestatic 139, 3) := by decide +kernel
theorem dX6_versinesApart_26 : decode cX6_versinesApart 26 = .ok (.ireturn, 1) := by decide +kernel
set_option maxRecDepth 100000 in
theorem ggX6_heightsApart_X6_lastOf : GoodIn wsX6_heightsApart wsX6_lastOf := goodIn_g _ [5, 0, 0, 0, 0, 0, 0, 0, 0, 0, 0, 3, 0, 0, 0, 0, 0, 0, 0, 0, 0, 0, 0, 0, 0, 0, 0, 0, 0, 0, 0, 0, 0, 0, 0, 0, 0, 0, 0] [1, 2, 3, 4, 0, 5, 6, 7, 8, 9, 10, 11, 12, 13, 14, 15, 16, 17, 18, 19, 20, 21, 22, 23, 24, 25, 26, 27, 28, 29, 30, 31, 32, 33, 34, 35, 36, 37, 38] rfl (by decide +kernel)
set_option maxRecDepth 100000 in
theorem gX6_heightsApart_X6_lastOf : GoodIn wsX6_heightsApart (wsV RX6 107 RX6 yX6_lastOf wsX6_lastOf) := goodIn_app (goodIn_of _ (by decide +kernel)) ggX6_heightsApart_X6_lastOf
set_option maxRecDepth 100000 in
theorem ggX6_heightsApart_X6_abs : GoodIn wsX6_heightsApart wsX6_abs := goodIn_g _ [18] [0] rfl (by decide +kernel)
set_option maxRecDepth 100000 in
theorem gX6_heightsApart_X6_abs : GoodIn wsX6_heightsApart (va_wsS RX6 139 yX6_abs wsX6_abs) := goodIn_app (goodIn_of _ (by decide +kernel)) ggX6_heightsApart_X6_abs
theorem dX6_heightsApart_0 : decode cX6_heightsApart 0 = .ok (.aload_n 0, 1) := by decide +kernel
theorem dX6_heightsApart_1 : decode cX6_heightsApart 1 = .ok (.getfield 21, 3) := by decide +kernel
theorem dX6_heightsApart_4 : decode cX6_heightsApart 4 = .ok (.aload_n 0, 1) := by decide +kernel
theorem dX6_heightsApart_5 : decode cX6_heightsApart 5 = .ok (.iload_n 1, 1) := by decide +kernel
theorem dX6_heightsApart_6 : decode cX6_heightsApart 6 = .ok (.invokevirtual 107, 3) := by decide +kernel
theorem dX6_heightsApart_9 : decode cX6_heightsApart 9 = .ok (.iaload, 1) := by decide +kernel
theorem dX6_heightsApart_10 : decode cX6_heightsApart 10 = .ok (.aload_n 0, 1) := by decide +kernel
theorem dX6_heightsApart_11 : decode cX6_heightsApart 11 = .ok (.getfield 21, 3) := by decide +kernel
theorem dX6_heightsApart_14 : decode cX6_heightsApart 14 = .ok (.aload_n 0, 1) := by decide +kernel
theorem dX6_heightsApart_15 : decode cX6_heightsApart 15 = .ok (.iload_n 1, 1) := by decide +kernel
theorem dX6_heightsApart_16 : decode cX6_heightsApart 16 = .ok (.invokevirtual 107, 3) := by decide +kernel
theorem dX6_heightsApart_19 : decode cX6_heightsApart 19 = .ok (.iconst 1, 1) := by decide +kernel
theorem dX6_heightsApart_20 : decode cX6_heightsApart 20 = .ok (.iadd, 1) := by decide +kernel
theorem dX6_heightsApart_21 : decode cX6_heightsApart 21 = .ok (.iaload, 1) := by decide +kernel
theorem dX6_heightsApart_22 : decode cX6_heightsApart 22 = .ok (.isub, 1) := by decide +kernel
theorem dX6_heightsApart_23 : decode cX6_heightsApart 23 = .ok (.invokestatic 139, 3) := by decide +kernel
theorem dX6_heightsApart_26 : decode cX6_heightsApart 26 = .ok (.ireturn, 1) := by decide +kernel
set_option maxRecDepth 100000 in
theorem ggX6_jumps_X6_versinesApart : GoodIn wsX6_jumps wsX6_versinesApart := goodIn_g _ [4, 0, 0, 0, 0, 0, 0, 0, 0, 0, 0, 0, 0, 0, 0, 0, 0, 0, 0, 9, 0, 0, 0, 0, 0, 0, 0, 0, 0, 0, 0, 0, 0, 0, 0, 0, 0, 0, 0, 0, 0, 0, 0, 0, 0, 0, 0] [1, 2, 3, 4, 5, 0, 6, 7, 8, 9, 10, 11, 12, 13, 14, 15, 16, 17, 18, 19, 20, 21, 22, 23, 24, 25, 26, 27, 28, 29, 30, 31, 32, 33, 34, 35, 36, 37, 38, 39, 40, 41, 42, 43, 44, 45, 46] rfl (by decide +kernel)
set_option maxRecDepth 100000 in
theorem gX6_jumps_X6_versinesApart : GoodIn wsX6_jumps (wsV RX6 142 RX6 yX6_versinesApart wsX6_versinesApart) := goodIn_app (goodIn_of _ (by decide +kernel)) ggX6_jumps_X6_versinesApart
set_option maxRecDepth 100000 in
theorem ggX6_jumps_X6_rule : GoodIn wsX6_jumps wsX6_rule := goodIn_g _ [19, 6, 5, 0, 0, 0, 0, 0, 0, 0, 0, 0, 0, 0, 0, 0, 0, 0, 0, 0, 0, 0, 0, 0, 0, 0, 0, 0, 0, 0] [1, 0, 2, 3, 4, 5, 6, 7, 8, 9, 10, 11, 12, 13, 14, 15, 16, 17, 18, 19, 20, 21, 22, 23, 24, 25, 26, 27, 28, 29] rfl (by decide +kernel)
set_option maxRecDepth 100000 in
theorem gX6_jumps_X6_rule : GoodIn wsX6_jumps (wsV RX6 127 RX6 yX6_rule wsX6_rule) := goodIn_app (goodIn_of _ (by decide +kernel)) ggX6_jumps_X6_rule
set_option maxRecDepth 100000 in
theorem ggX6_jumps_X6_heightsApart : GoodIn wsX6_jumps wsX6_heightsApart := goodIn_g _ [4, 2, 0, 0, 0, 0, 0, 0, 0, 0, 0, 0, 0, 0, 0, 0, 0, 7, 0, 0, 0, 0, 0, 0, 0, 0, 0, 0, 0, 0, 0, 0, 0, 0, 0, 0, 0, 0, 0, 0, 0, 0, 0, 0, 0, 0, 0] [17, 18, 1, 2, 3, 0, 4, 5, 6, 7, 8, 9, 10, 11, 12, 13, 14, 15, 16, 19, 20, 21, 22, 23, 24, 25, 26, 27, 28, 29, 30, 31, 32, 33, 34, 35, 36, 37, 38, 39, 40, 41, 42, 43, 44, 45, 46] rfl (by decide +kernel)
set_option maxRecDepth 100000 in
theorem gX6_jumps_X6_heightsApart : GoodIn wsX6_jumps (wsV RX6 145 RX6 yX6_heightsApart wsX6_heightsApart) := goodIn_app (goodIn_of _ (by decide +kernel)) ggX6_jumps_X6_heightsApart
theorem dX6_jumps_0 : decode cX6_jumps 0 = .ok (.aload_n 0, 1) := by decide +kernel
theorem dX6_jumps_1 : decode cX6_jumps 1 = .ok (.iload_n 1, 1) := by decide +kernel
theorem dX6_jumps_2 : decode cX6_jumps 2 = .ok (.invokevirtual 142, 3) := by decide +kernel
theorem dX6_jumps_5 : decode cX6_jumps 5 = .ok (.aload_n 0, 1) := by decide +kernel
theorem dX6_jumps_6 : decode cX6_jumps 6 = .ok (.iconst 4, 1) := by decide +kernel
theorem dX6_jumps_7 : decode cX6_jumps 7 = .ok (.invokevirtual 127, 3) := by decide +kernel
theorem dX6_jumps_10 : decode cX6_jumps 10 = .ok (.if_icmp .gt 16, 3) := by decide +kernel
theorem dX6_jumps_13 : decode cX6_jumps 13 = .ok (.aload_n 0, 1) := by decide +kernel
theorem dX6_jumps_14 : decode cX6_jumps 14 = .ok (.iload_n 1, 1) := by decide +kernel
theorem dX6_jumps_15 : decode cX6_jumps 15 = .ok (.invokevirtual 145, 3) := by decide +kernel
theorem dX6_jumps_18 : decode cX6_jumps 18 = .ok (.aload_n 0, 1) := by decide +kernel
theorem dX6_jumps_19 : decode cX6_jumps 19 = .ok (.iconst 3, 1) := by decide +kernel
theorem dX6_jumps_20 : decode cX6_jumps 20 = .ok (.invokevirtual 127, 3) := by decide +kernel
theorem dX6_jumps_23 : decode cX6_jumps 23 = .ok (.if_icmp .le 7, 3) := by decide +kernel
theorem dX6_jumps_26 : decode cX6_jumps 26 = .ok (.iconst 1, 1) := by decide +kernel
theorem dX6_jumps_27 : decode cX6_jumps 27 = .ok (.goto 4, 3) := by decide +kernel
theorem dX6_jumps_30 : decode cX6_jumps 30 = .ok (.iconst 0, 1) := by decide +kernel
theorem dX6_jumps_31 : decode cX6_jumps 31 = .ok (.ireturn, 1) := by decide +kernel
set_option maxRecDepth 100000 in
theorem ggX6_join_X6_in : GoodIn wsX6_join wsX6_in := goodIn_g _ [6] [0] rfl (by decide +kernel)
set_option maxRecDepth 100000 in
theorem gX6_join_X6_in : GoodIn wsX6_join (va_wsS RX6 67 yX6_in wsX6_in) := goodIn_app (goodIn_of _ (by decide +kernel)) ggX6_join_X6_in
set_option maxRecDepth 100000 in
theorem ggX6_join_X6_lays : GoodIn wsX6_join wsX6_lays := goodIn_g _ [1, 3, 4, 0, 0, 0, 0, 0, 0, 0, 0, 0, 0, 0, 0, 0, 27, 0, 0, 0, 0, 0, 0, 0, 0, 0, 0, 0, 0, 0, 0, 0, 0, 0, 0, 0, 0, 0, 0, 0, 0, 0, 0, 0] [2, 3, 0, 4, 5, 6, 7, 8, 9, 10, 11, 1, 12, 13, 14, 15, 16, 17, 18, 19, 20, 21, 22, 23, 24, 25, 26, 27, 28, 29, 30, 31, 32, 33, 34, 35, 36, 37, 38, 39, 40, 41, 42, 43] rfl (by decide +kernel)
set_option maxRecDepth 100000 in
theorem gX6_join_X6_lays : GoodIn wsX6_join (wsV RX6 134 RX6 yX6_lays wsX6_lays) := goodIn_app (goodIn_of _ (by decide +kernel)) ggX6_join_X6_lays
set_option maxRecDepth 100000 in
theorem ggX6_join_X6_versinesApart : GoodIn wsX6_join wsX6_versinesApart := goodIn_g _ [1, 3, 6, 4, 0, 0, 0, 6, 0, 0, 0, 0, 0, 0, 0, 0, 0, 0, 0, 12, 0, 0, 0, 0, 0, 0, 0, 0, 0, 0, 0, 0, 0, 0, 0, 0, 0, 0, 0, 0, 0, 0, 0, 0, 0, 0, 0] [7, 2, 8, 9, 10, 1, 11, 12, 13, 14, 15, 3, 4, 5, 6, 0, 16, 17, 18, 19, 20, 21, 22, 23, 24, 25, 26, 27, 28, 29, 30, 31, 32, 33, 34, 35, 36, 37, 38, 39, 40, 41, 42, 43, 44, 45, 46] rfl (by decide +kernel)
set_option maxRecDepth 100000 in
theorem gX6_join_X6_versinesApart : GoodIn wsX6_join (wsV RX6 142 RX6 yX6_versinesApart wsX6_versinesApart) := goodIn_app (goodIn_of _ (by decide +kernel)) ggX6_join_X6_versinesApart
set_option maxRecDepth 100000 in
theorem ggX6_join_X6_heightsApart : GoodIn wsX6_join wsX6_heightsApart := goodIn_g _ [1, 3, 7, 3, 0, 0, 0, 7, 0, 0, 0, 0, 0, 0, 0, 0, 0, 0, 3, 8, 0, 0, 0, 0, 0, 0, 0, 0, 0, 0, 0, 0, 0, 0, 0, 0, 0, 0, 0, 0, 0, 0, 0, 0, 0, 0, 0] [18, 2, 7, 8, 9, 1, 10, 11, 12, 13, 14, 3, 4, 5, 6, 0, 15, 16, 17, 19, 20, 21, 22, 23, 24, 25, 26, 27, 28, 29, 30, 31, 32, 33, 34, 35, 36, 37, 38, 39, 40, 41, 42, 43, 44, 45, 46] rfl (by decide +kernel)
set_option maxRecDepth 100000 in
theorem gX6_join_X6_heightsApart : GoodIn wsX6_join (wsV RX6 145 RX6 yX6_heightsApart wsX6_heightsApart) := goodIn_app (goodIn_of _ (by decide +kernel)) ggX6_join_X6_heightsApart
set_option maxRecDepth 100000 in
theorem ggX6_join_X6_jumps : GoodIn wsX6_join wsX6_jumps := goodIn_g _ [1, 3, 6, 0, 3, 0, 0, 0, 3, 0, 0, 0, 0, 0, 0, 0, 0, 0, 0, 0, 0, 0, 0, 0, 0, 0, 0, 3, 0, 0, 0, 0, 0, 0, 0, 0, 0, 0, 0, 0, 0, 0, 0, 0, 0, 0, 0, 0, 0, 0, 0, 0, 0, 0, 0, 0, 0, 0, 0, 0] [27, 8, 9, 10, 1, 11, 2, 12, 13, 14, 15, 16, 17, 18, 19, 4, 5, 6, 7, 0, 20, 21, 22, 28, 29, 30, 31, 23, 24, 25, 26, 3, 32, 33, 34, 35, 36, 37, 38, 39, 40, 41, 42, 43, 44, 45, 46, 47, 48, 49, 50, 51, 52, 53, 54, 55, 56, 57, 58, 59] rfl (by decide +kernel)
set_option maxRecDepth 100000 in
theorem gX6_join_X6_jumps : GoodIn wsX6_join (wsV RX6 150 RX6 yX6_jumps wsX6_jumps) := goodIn_app (goodIn_of _ (by decide +kernel)) ggX6_join_X6_jumps
theorem dX6_join_0 : decode cX6_join 0 = .ok (.iload_n 1, 1) := by decide +kernel
theorem dX6_join_1 : decode cX6_join 1 = .ok (.i2l, 1) := by decide +kernel
theorem dX6_join_2 : decode cX6_join 2 = .ok (.lconst 0, 1) := by decide +kernel
theorem dX6_join_3 : decode cX6_join 3 = .ok (.aload_n 0, 1) := by decide +kernel
theorem dX6_join_4 : decode cX6_join 4 = .ok (.getfield 11, 3) := by decide +kernel
theorem dX6_join_7 : decode cX6_join 7 = .ok (.bipush 40, 2) := by decide +kernel
theorem dX6_join_9 : decode cX6_join 9 = .ok (.iaload, 1) := by decide +kernel
theorem dX6_join_10 : decode cX6_join 10 = .ok (.iconst 2, 1) := by decide +kernel
theorem dX6_join_11 : decode cX6_join 11 = .ok (.isub, 1) := by decide +kernel
theorem dX6_join_12 : decode cX6_join 12 = .ok (.i2l, 1) := by decide +kernel
theorem dX6_join_13 : decode cX6_join 13 = .ok (.invokestatic 67, 3) := by decide +kernel
theorem dX6_join_16 : decode cX6_join 16 = .ok (.ifCond .eq 15, 3) := by decide +kernel
theorem dX6_join_19 : decode cX6_join 19 = .ok (.iload_n 2, 1) := by decide +kernel
theorem dX6_join_20 : decode cX6_join 20 = .ok (.i2l, 1) := by decide +kernel
theorem dX6_join_21 : decode cX6_join 21 = .ok (.lconst 0, 1) := by decide +kernel
theorem dX6_join_22 : decode cX6_join 22 = .ok (.ldc2_w 148, 3) := by decide +kernel
theorem dX6_join_25 : decode cX6_join 25 = .ok (.invokestatic 67, 3) := by decide +kernel
theorem dX6_join_28 : decode cX6_join 28 = .ok (.ifCond .ne 6, 3) := by decide +kernel
theorem dX6_join_31 : decode cX6_join 31 = .ok (.bipush (-2), 2) := by decide +kernel
theorem dX6_join_33 : decode cX6_join 33 = .ok (.ireturn, 1) := by decide +kernel
theorem dX6_join_34 : decode cX6_join 34 = .ok (.aload_n 0, 1) := by decide +kernel
theorem dX6_join_35 : decode cX6_join 35 = .ok (.invokevirtual 134, 3) := by decide +kernel
theorem dX6_join_38 : decode cX6_join 38 = .ok (.iload_n 2, 1) := by decide +kernel
theorem dX6_join_39 : decode cX6_join 39 = .ok (.ifCond .ne 11, 3) := by decide +kernel
theorem dX6_join_42 : decode cX6_join 42 = .ok (.aload_n 0, 1) := by decide +kernel
theorem dX6_join_43 : decode cX6_join 43 = .ok (.iload_n 1, 1) := by decide +kernel
theorem dX6_join_44 : decode cX6_join 44 = .ok (.invokevirtual 142, 3) := by decide +kernel
theorem dX6_join_47 : decode cX6_join 47 = .ok (.goto 29, 3) := by decide +kernel
theorem dX6_join_50 : decode cX6_join 50 = .ok (.iload_n 2, 1) := by decide +kernel
theorem dX6_join_51 : decode cX6_join 51 = .ok (.iconst 1, 1) := by decide +kernel
theorem dX6_join_52 : decode cX6_join 52 = .ok (.if_icmp .ne 11, 3) := by decide +kernel
theorem dX6_join_55 : decode cX6_join 55 = .ok (.aload_n 0, 1) := by decide +kernel
theorem dX6_join_56 : decode cX6_join 56 = .ok (.iload_n 1, 1) := by decide +kernel
theorem dX6_join_57 : decode cX6_join 57 = .ok (.invokevirtual 145, 3) := by decide +kernel
theorem dX6_join_60 : decode cX6_join 60 = .ok (.goto 16, 3) := by decide +kernel
theorem dX6_join_63 : decode cX6_join 63 = .ok (.aload_n 0, 1) := by decide +kernel
theorem dX6_join_64 : decode cX6_join 64 = .ok (.iload_n 1, 1) := by decide +kernel
theorem dX6_join_65 : decode cX6_join 65 = .ok (.invokevirtual 150, 3) := by decide +kernel
theorem dX6_join_68 : decode cX6_join 68 = .ok (.ifCond .eq 7, 3) := by decide +kernel
theorem dX6_join_71 : decode cX6_join 71 = .ok (.iconst 1, 1) := by decide +kernel
theorem dX6_join_72 : decode cX6_join 72 = .ok (.goto 4, 3) := by decide +kernel
theorem dX6_join_75 : decode cX6_join 75 = .ok (.iconst 0, 1) := by decide +kernel
theorem dX6_join_76 : decode cX6_join 76 = .ok (.ireturn, 1) := by decide +kernel
set_option maxRecDepth 100000 in
theorem ggX6_joins_X6_lays : GoodIn wsX6_joins wsX6_lays := goodIn_g _ [1, 3, 0, 0, 0, 0, 0, 0, 0, 0, 0, 0, 0, 0, 0, 0, 27, 0, 0, 0, 0, 0, 0, 0, 0, 0, 0, 0, 0, 0, 0, 0, 0, 0, 0, 0, 0, 0, 0, 0, 0, 0, 0, 0] [2, 3, 0, 4, 5, 6, 7, 8, 9, 10, 11, 1, 12, 13, 14, 15, 16, 17, 18, 19, 20, 21, 22, 23, 24, 25, 26, 27, 28, 29, 30, 31, 32, 33, 34, 35, 36, 37, 38, 39, 40, 41, 42, 43] rfl (by decide +kernel)
set_option maxRecDepth 100000 in
theorem gX6_joins_X6_lays : GoodIn wsX6_joins (wsV RX6 134 RX6 yX6_lays wsX6_lays) := goodIn_app (goodIn_of _ (by decide +kernel)) ggX6_joins_X6_lays
set_option maxRecDepth 100000 in
theorem ggX6_joins_X6_jumps : GoodIn wsX6_joins wsX6_jumps := goodIn_g _ [1, 3, 2, 0, 3, 0, 0, 0, 6, 0, 0, 0, 0, 0, 0, 0, 0, 0, 0, 0, 0, 0, 0, 0, 0, 0, 0, 0, 0, 0, 0, 0, 0, 0, 0, 0, 0, 0, 0, 0, 0, 0, 0, 0, 0, 0, 0, 0, 0, 0, 0, 0, 0, 0, 0, 0, 0, 0, 0, 0] [8, 9, 10, 11, 1, 12, 2, 13, 14, 15, 16, 17, 18, 19, 20, 4, 5, 6, 7, 0, 21, 22, 23, 24, 25, 26, 27, 28, 29, 30, 31, 3, 32, 33, 34, 35, 36, 37, 38, 39, 40, 41, 42, 43, 44, 45, 46, 47, 48, 49, 50, 51, 52, 53, 54, 55, 56, 57, 58, 59] rfl (by decide +kernel)
set_option maxRecDepth 100000 in
theorem gX6_joins_X6_jumps : GoodIn wsX6_joins (wsV RX6 150 RX6 yX6_jumps wsX6_jumps) := goodIn_app (goodIn_of _ (by decide +kernel)) ggX6_joins_X6_jumps
theorem dX6_joins_0 : decode cX6_joins 0 = .ok (.aload_n 0, 1) := by decide +kernel
theorem dX6_joins_1 : decode cX6_joins 1 = .ok (.invokevirtual 134, 3) := by decide +kernel
theorem dX6_joins_4 : decode cX6_joins 4 = .ok (.iconst 0, 1) := by decide +kernel
theorem dX6_joins_5 : decode cX6_joins 5 = .ok (.istore_n 1, 1) := by decide +kernel
theorem dX6_joins_6 : decode cX6_joins 6 = .ok (.iconst 0, 1) := by decide +kernel
theorem dX6_joins_7 : decode cX6_joins 7 = .ok (.istore_n 2, 1) := by decide +kernel
theorem dX6_joins_8 : decode cX6_joins 8 = .ok (.iload_n 2, 1) := by decide +kernel
theorem dX6_joins_9 : decode cX6_joins 9 = .ok (.aload_n 0, 1) := by decide +kernel
theorem dX6_joins_10 : decode cX6_joins 10 = .ok (.getfield 11, 3) := by decide +kernel
theorem dX6_joins_13 : decode cX6_joins 13 = .ok (.bipush 40, 2) := by decide +kernel
theorem dX6_joins_15 : decode cX6_joins 15 = .ok (.iaload, 1) := by decide +kernel
theorem dX6_joins_16 : decode cX6_joins 16 = .ok (.iconst 1, 1) := by decide +kernel
theorem dX6_joins_17 : decode cX6_joins 17 = .ok (.isub, 1) := by decide +kernel
theorem dX6_joins_18 : decode cX6_joins 18 = .ok (.if_icmp .ge 27, 3) := by decide +kernel
theorem dX6_joins_21 : decode cX6_joins 21 = .ok (.iload_n 1, 1) := by decide +kernel
theorem dX6_joins_22 : decode cX6_joins 22 = .ok (.aload_n 0, 1) := by decide +kernel
theorem dX6_joins_23 : decode cX6_joins 23 = .ok (.iload_n 2, 1) := by decide +kernel
theorem dX6_joins_24 : decode cX6_joins 24 = .ok (.invokevirtual 150, 3) := by decide +kernel
theorem dX6_joins_27 : decode cX6_joins 27 = .ok (.ifCond .eq 9, 3) := by decide +kernel
theorem dX6_joins_30 : decode cX6_joins 30 = .ok (.iconst 1, 1) := by decide +kernel
theorem dX6_joins_31 : decode cX6_joins 31 = .ok (.iload_n 2, 1) := by decide +kernel
theorem dX6_joins_32 : decode cX6_joins 32 = .ok (.ishl, 1) := by decide +kernel
theorem dX6_joins_33 : decode cX6_joins 33 = .ok (.goto 4, 3) := by decide +kernel
theorem dX6_joins_36 : decode cX6_joins 36 = .ok (.iconst 0, 1) := by decide +kernel
theorem dX6_joins_37 : decode cX6_joins 37 = .ok (.ior, 1) := by decide +kernel
theorem dX6_joins_38 : decode cX6_joins 38 = .ok (.istore_n 1, 1) := by decide +kernel
theorem dX6_joins_39 : decode cX6_joins 39 = .ok (.iinc 2 1, 3) := by decide +kernel
theorem dX6_joins_42 : decode cX6_joins 42 = .ok (.goto (-34), 3) := by decide +kernel
theorem dX6_joins_45 : decode cX6_joins 45 = .ok (.iload_n 1, 1) := by decide +kernel
theorem dX6_joins_46 : decode cX6_joins 46 = .ok (.ireturn, 1) := by decide +kernel
set_option maxRecDepth 100000 in
theorem ggX6_needAt_X6_abs : GoodIn wsX6_needAt wsX6_abs := goodIn_g _ [5] [0] rfl (by decide +kernel)
set_option maxRecDepth 100000 in
theorem gX6_needAt_X6_abs : GoodIn wsX6_needAt (va_wsS RX6 139 yX6_abs wsX6_abs) := goodIn_app (goodIn_of _ (by decide +kernel)) ggX6_needAt_X6_abs
theorem dX6_needAt_0 : decode cX6_needAt 0 = .ok (.iload_n 2, 1) := by decide +kernel
theorem dX6_needAt_1 : decode cX6_needAt 1 = .ok (.iload_n 2, 1) := by decide +kernel
theorem dX6_needAt_2 : decode cX6_needAt 2 = .ok (.imul, 1) := by decide +kernel
theorem dX6_needAt_3 : decode cX6_needAt 3 = .ok (.aload_n 0, 1) := by decide +kernel
theorem dX6_needAt_4 : decode cX6_needAt 4 = .ok (.getfield 18, 3) := by decide +kernel
theorem dX6_needAt_7 : decode cX6_needAt 7 = .ok (.iload_n 1, 1) := by decide +kernel
theorem dX6_needAt_8 : decode cX6_needAt 8 = .ok (.iaload, 1) := by decide +kernel
theorem dX6_needAt_9 : decode cX6_needAt 9 = .ok (.invokestatic 139, 3) := by decide +kernel
theorem dX6_needAt_12 : decode cX6_needAt 12 = .ok (.imul, 1) := by decide +kernel
theorem dX6_needAt_13 : decode cX6_needAt 13 = .ok (.sipush 1000, 3) := by decide +kernel
theorem dX6_needAt_16 : decode cX6_needAt 16 = .ok (.idiv, 1) := by decide +kernel
theorem dX6_needAt_17 : decode cX6_needAt 17 = .ok (.ireturn, 1) := by decide +kernel
set_option maxRecDepth 100000 in
theorem ggX6_lacks_X6_needAt : GoodIn wsX6_lacks wsX6_needAt := goodIn_g _ [5, 0, 0, 0, 0, 0, 5, 0, 0, 0, 0, 0, 0, 0, 0, 0, 0, 0, 0, 0, 0, 0, 0, 0, 0, 0, 0, 0, 0, 0, 0, 0, 0, 0] [1, 2, 3, 4, 0, 5, 6, 7, 8, 9, 10, 11, 12, 13, 14, 15, 16, 17, 18, 19, 20, 21, 22, 23, 24, 25, 26, 27, 28, 29, 30, 31, 32, 33] rfl (by decide +kernel)
set_option maxRecDepth 100000 in
theorem gX6_lacks_X6_needAt : GoodIn wsX6_lacks (wsV RX6 153 RX6 yX6_needAt wsX6_needAt) := goodIn_app (goodIn_of _ (by decide +kernel)) ggX6_lacks_X6_needAt
set_option maxRecDepth 100000 in
theorem ggX6_lacks_X6_rule : GoodIn wsX6_lacks wsX6_rule := goodIn_g _ [14, 0, 0, 0, 0, 0, 0, 0, 0, 0, 0, 0, 0, 0, 0, 0, 0, 0, 0, 0, 0, 0, 0, 0, 0, 0, 0, 0, 0, 0] [0, 1, 2, 3, 4, 5, 6, 7, 8, 9, 10, 11, 12, 13, 14, 15, 16, 17, 18, 19, 20, 21, 22, 23, 24, 25, 26, 27, 28, 29] rfl (by decide +kernel)
set_option maxRecDepth 100000 in
theorem gX6_lacks_X6_rule : GoodIn wsX6_lacks (wsV RX6 127 RX6 yX6_rule wsX6_rule) := goodIn_app (goodIn_of _ (by decide +kernel)) ggX6_lacks_X6_rule
theorem dX6_lacks_0 : decode cX6_lacks 0 = .ok (.aload_n 0, 1) := by decide +kernel
theorem dX6_lacks_1 : decode cX6_lacks 1 = .ok (.iload_n 1, 1) := by decide +kernel
theorem dX6_lacks_2 : decode cX6_lacks 2 = .ok (.iload_n 2, 1) := by decide +kernel
theorem dX6_lacks_3 : decode cX6_lacks 3 = .ok (.invokevirtual 153, 3) := by decide +kernel
theorem dX6_lacks_6 : decode cX6_lacks 6 = .ok (.aload_n 0, 1) := by decide +kernel
theorem dX6_lacks_7 : decode cX6_lacks 7 = .ok (.getfield 21, 3) := by decide +kernel
theorem dX6_lacks_10 : decode cX6_lacks 10 = .ok (.iload_n 1, 1) := by decide +kernel
theorem dX6_lacks_11 : decode cX6_lacks 11 = .ok (.iaload, 1) := by decide +kernel
theorem dX6_lacks_12 : decode cX6_lacks 12 = .ok (.isub, 1) := by decide +kernel
theorem dX6_lacks_13 : decode cX6_lacks 13 = .ok (.aload_n 0, 1) := by decide +kernel
theorem dX6_lacks_14 : decode cX6_lacks 14 = .ok (.iconst 1, 1) := by decide +kernel
theorem dX6_lacks_15 : decode cX6_lacks 15 = .ok (.invokevirtual 127, 3) := by decide +kernel
theorem dX6_lacks_18 : decode cX6_lacks 18 = .ok (.if_icmp .le 7, 3) := by decide +kernel
theorem dX6_lacks_21 : decode cX6_lacks 21 = .ok (.iconst 1, 1) := by decide +kernel
theorem dX6_lacks_22 : decode cX6_lacks 22 = .ok (.goto 4, 3) := by decide +kernel
theorem dX6_lacks_25 : decode cX6_lacks 25 = .ok (.iconst 0, 1) := by decide +kernel
theorem dX6_lacks_26 : decode cX6_lacks 26 = .ok (.ireturn, 1) := by decide +kernel
set_option maxRecDepth 100000 in
theorem ggX6_isHigh_X6_needAt : GoodIn wsX6_isHigh wsX6_needAt := goodIn_g _ [5, 0, 0, 0, 0, 0, 5, 0, 0, 0, 0, 0, 0, 0, 0, 0, 0, 0, 0, 0, 0, 0, 0, 0, 0, 0, 0, 0, 0, 0, 0, 0, 0, 0] [1, 2, 3, 4, 0, 5, 6, 7, 8, 9, 10, 11, 12, 13, 14, 15, 16, 17, 18, 19, 20, 21, 22, 23, 24, 25, 26, 27, 28, 29, 30, 31, 32, 33] rfl (by decide +kernel)
set_option maxRecDepth 100000 in
theorem gX6_isHigh_X6_needAt : GoodIn wsX6_isHigh (wsV RX6 153 RX6 yX6_needAt wsX6_needAt) := goodIn_app (goodIn_of _ (by decide +kernel)) ggX6_isHigh_X6_needAt
set_option maxRecDepth 100000 in
theorem ggX6_isHigh_X6_rule : GoodIn wsX6_isHigh wsX6_rule := goodIn_g _ [14, 0, 0, 0, 0, 0, 0, 0, 0, 0, 0, 0, 0, 0, 0, 0, 0, 0, 0, 0, 0, 0, 0, 0, 0, 0, 0, 0, 0, 0] [0, 1, 2, 3, 4, 5, 6, 7, 8, 9, 10, 11, 12, 13, 14, 15, 16, 17, 18, 19, 20, 21, 22, 23, 24, 25, 26, 27, 28, 29] rfl (by decide +kernel)
set_option maxRecDepth 100000 in
theorem gX6_isHigh_X6_rule : GoodIn wsX6_isHigh (wsV RX6 127 RX6 yX6_rule wsX6_rule) := goodIn_app (goodIn_of _ (by decide +kernel)) ggX6_isHigh_X6_rule
theorem dX6_isHigh_0 : decode cX6_isHigh 0 = .ok (.aload_n 0, 1) := by decide +kernel
theorem dX6_isHigh_1 : decode cX6_isHigh 1 = .ok (.getfield 21, 3) := by decide +kernel
theorem dX6_isHigh_4 : decode cX6_isHigh 4 = .ok (.iload_n 1, 1) := by decide +kernel
theorem dX6_isHigh_5 : decode cX6_isHigh 5 = .ok (.iaload, 1) := by decide +kernel
theorem dX6_isHigh_6 : decode cX6_isHigh 6 = .ok (.aload_n 0, 1) := by decide +kernel
theorem dX6_isHigh_7 : decode cX6_isHigh 7 = .ok (.iload_n 1, 1) := by decide +kernel
theorem dX6_isHigh_8 : decode cX6_isHigh 8 = .ok (.iload_n 2, 1) := by decide +kernel
theorem dX6_isHigh_9 : decode cX6_isHigh 9 = .ok (.invokevirtual 153, 3) := by decide +kernel
theorem dX6_isHigh_12 : decode cX6_isHigh 12 = .ok (.isub, 1) := by decide +kernel
theorem dX6_isHigh_13 : decode cX6_isHigh 13 = .ok (.aload_n 0, 1) := by decide +kernel
theorem dX6_isHigh_14 : decode cX6_isHigh 14 = .ok (.iconst 2, 1) := by decide +kernel
theorem dX6_isHigh_15 : decode cX6_isHigh 15 = .ok (.invokevirtual 127, 3) := by decide +kernel
theorem dX6_isHigh_18 : decode cX6_isHigh 18 = .ok (.if_icmp .le 7, 3) := by decide +kernel
theorem dX6_isHigh_21 : decode cX6_isHigh 21 = .ok (.iconst 1, 1) := by decide +kernel
theorem dX6_isHigh_22 : decode cX6_isHigh 22 = .ok (.goto 4, 3) := by decide +kernel
theorem dX6_isHigh_25 : decode cX6_isHigh 25 = .ok (.iconst 0, 1) := by decide +kernel
theorem dX6_isHigh_26 : decode cX6_isHigh 26 = .ok (.ireturn, 1) := by decide +kernel
set_option maxRecDepth 100000 in
theorem ggX6_isSteep_X6_abs : GoodIn wsX6_isSteep wsX6_abs := goodIn_g _ [5] [0] rfl (by decide +kernel)
set_option maxRecDepth 100000 in
theorem gX6_isSteep_X6_abs : GoodIn wsX6_isSteep (va_wsS RX6 139 yX6_abs wsX6_abs) := goodIn_app (goodIn_of _ (by decide +kernel)) ggX6_isSteep_X6_abs
set_option maxRecDepth 100000 in
theorem ggX6_isSteep_X6_rule : GoodIn wsX6_isSteep wsX6_rule := goodIn_g _ [9, 0, 0, 0, 0, 0, 0, 0, 0, 0, 0, 0, 0, 0, 0, 0, 0, 0, 0, 0, 0, 0, 0, 0, 0, 0, 0, 0, 0, 0] [0, 1, 2, 3, 4, 5, 6, 7, 8, 9, 10, 11, 12, 13, 14, 15, 16, 17, 18, 19, 20, 21, 22, 23, 24, 25, 26, 27, 28, 29] rfl (by decide +kernel)
set_option maxRecDepth 100000 in
theorem gX6_isSteep_X6_rule : GoodIn wsX6_isSteep (wsV RX6 127 RX6 yX6_rule wsX6_rule) := goodIn_app (goodIn_of _ (by decide +kernel)) ggX6_isSteep_X6_rule
theorem dX6_isSteep_0 : decode cX6_isSteep 0 = .ok (.aload_n 0, 1) := by decide +kernel
theorem dX6_isSteep_1 : decode cX6_isSteep 1 = .ok (.getfield 21, 3) := by decide +kernel
theorem dX6_isSteep_4 : decode cX6_isSteep 4 = .ok (.iload_n 1, 1) := by decide +kernel
theorem dX6_isSteep_5 : decode cX6_isSteep 5 = .ok (.iaload, 1) := by decide +kernel
theorem dX6_isSteep_6 : decode cX6_isSteep 6 = .ok (.aload_n 0, 1) := by decide +kernel
theorem dX6_isSteep_7 : decode cX6_isSteep 7 = .ok (.getfield 21, 3) := by decide +kernel
theorem dX6_isSteep_10 : decode cX6_isSteep 10 = .ok (.iload_n 1, 1) := by decide +kernel
theorem dX6_isSteep_11 : decode cX6_isSteep 11 = .ok (.iconst 1, 1) := by decide +kernel
theorem dX6_isSteep_12 : decode cX6_isSteep 12 = .ok (.isub, 1) := by decide +kernel
theorem dX6_isSteep_13 : decode cX6_isSteep 13 = .ok (.iaload, 1) := by decide +kernel
theorem dX6_isSteep_14 : decode cX6_isSteep 14 = .ok (.isub, 1) := by decide +kernel
theorem dX6_isSteep_15 : decode cX6_isSteep 15 = .ok (.invokestatic 139, 3) := by decide +kernel
theorem dX6_isSteep_18 : decode cX6_isSteep 18 = .ok (.aload_n 0, 1) := by decide +kernel
theorem dX6_isSteep_19 : decode cX6_isSteep 19 = .ok (.iconst 3, 1) := by decide +kernel
theorem dX6_isSteep_20 : decode cX6_isSteep 20 = .ok (.invokevirtual 127, 3) := by decide +kernel
theorem dX6_isSteep_23 : decode cX6_isSteep 23 = .ok (.if_icmp .le 7, 3) := by decide +kernel
theorem dX6_isSteep_26 : decode cX6_isSteep 26 = .ok (.iconst 1, 1) := by decide +kernel
theorem dX6_isSteep_27 : decode cX6_isSteep 27 = .ok (.goto 4, 3) := by decide +kernel
theorem dX6_isSteep_30 : decode cX6_isSteep 30 = .ok (.iconst 0, 1) := by decide +kernel
theorem dX6_isSteep_31 : decode cX6_isSteep 31 = .ok (.ireturn, 1) := by decide +kernel
theorem dX6_bit_0 : decode cX6_bit 0 = .ok (.iload_n 0, 1) := by decide +kernel
theorem dX6_bit_1 : decode cX6_bit 1 = .ok (.ifCond .eq 7, 3) := by decide +kernel
theorem dX6_bit_4 : decode cX6_bit 4 = .ok (.iconst 1, 1) := by decide +kernel
theorem dX6_bit_5 : decode cX6_bit 5 = .ok (.goto 4, 3) := by decide +kernel
theorem dX6_bit_8 : decode cX6_bit 8 = .ok (.iconst 0, 1) := by decide +kernel
theorem dX6_bit_9 : decode cX6_bit 9 = .ok (.ireturn, 1) := by decide +kernel
set_option maxRecDepth 100000 in
theorem ggX6_need_X6_lays : GoodIn wsX6_need wsX6_lays := goodIn_g _ [5, 0, 0, 0, 0, 0, 0, 0, 0, 0, 0, 0, 0, 0, 0, 0, 33, 0, 0, 0, 0, 0, 0, 0, 0, 0, 0, 0, 0, 0, 0, 0, 0, 0, 0, 0, 0, 0, 0, 0, 0, 0, 0, 0] [1, 2, 3, 4, 5, 6, 7, 8, 9, 10, 11, 0, 12, 13, 14, 15, 16, 17, 18, 19, 20, 21, 22, 23, 24, 25, 26, 27, 28, 29, 30, 31, 32, 33, 34, 35, 36, 37, 38, 39, 40, 41, 42, 43] rfl (by decide +kernel)
set_option maxRecDepth 100000 in
theorem gX6_need_X6_lays : GoodIn wsX6_need (wsV RX6 134 RX6 yX6_lays wsX6_lays) := goodIn_app (goodIn_of _ (by decide +kernel)) ggX6_need_X6_lays
set_option maxRecDepth 100000 in
theorem ggX6_need_X6_isStation : GoodIn wsX6_need wsX6_isStation := goodIn_g _ [5, 1, 16, 0, 0, 0, 26, 0, 0, 0, 0, 0, 0, 0, 0, 0, 0, 0, 0, 0, 0, 0, 0, 0, 0, 0, 0, 0, 0, 0, 0, 0, 0, 0] [2, 1, 3, 4, 0, 5, 6, 7, 8, 9, 10, 11, 12, 13, 14, 15, 16, 17, 18, 19, 20, 21, 22, 23, 24, 25, 26, 27, 28, 29, 30, 31, 32, 33] rfl (by decide +kernel)
set_option maxRecDepth 100000 in
theorem gX6_need_X6_isStation : GoodIn wsX6_need (wsV RX6 156 RX6 yX6_isStation wsX6_isStation) := goodIn_app (goodIn_of _ (by decide +kernel)) ggX6_need_X6_isStation
set_option maxRecDepth 100000 in
theorem ggX6_need_X6_in : GoodIn wsX6_need wsX6_in := goodIn_g _ [27] [0] rfl (by decide +kernel)
set_option maxRecDepth 100000 in
theorem gX6_need_X6_in : GoodIn wsX6_need (va_wsS RX6 67 yX6_in wsX6_in) := goodIn_app (goodIn_of _ (by decide +kernel)) ggX6_need_X6_in
set_option maxRecDepth 100000 in
theorem ggX6_need_X6_rule : GoodIn wsX6_need wsX6_rule := goodIn_g _ [8, 22, 22, 0, 0, 0, 0, 0, 0, 0, 0, 0, 0, 0, 0, 0, 0, 0, 0, 0, 0, 0, 0, 0, 0, 0, 0, 0, 0, 0] [1, 0, 2, 3, 4, 5, 6, 7, 8, 9, 10, 11, 12, 13, 14, 15, 16, 17, 18, 19, 20, 21, 22, 23, 24, 25, 26, 27, 28, 29] rfl (by decide +kernel)
set_option maxRecDepth 100000 in
theorem gX6_need_X6_rule : GoodIn wsX6_need (wsV RX6 127 RX6 yX6_rule wsX6_rule) := goodIn_app (goodIn_of _ (by decide +kernel)) ggX6_need_X6_rule
set_option maxRecDepth 100000 in
theorem ggX6_need_X6_needAt : GoodIn wsX6_need wsX6_needAt := goodIn_g _ [5, 3, 25, 0, 0, 0, 15, 0, 0, 0, 0, 0, 0, 0, 0, 0, 0, 0, 0, 0, 0, 0, 0, 0, 0, 0, 0, 0, 0, 0, 0, 0, 0, 0] [2, 1, 3, 4, 0, 5, 6, 7, 8, 9, 10, 11, 12, 13, 14, 15, 16, 17, 18, 19, 20, 21, 22, 23, 24, 25, 26, 27, 28, 29, 30, 31, 32, 33] rfl (by decide +kernel)
set_option maxRecDepth 100000 in
theorem gX6_need_X6_needAt : GoodIn wsX6_need (wsV RX6 153 RX6 yX6_needAt wsX6_needAt) := goodIn_app (goodIn_of _ (by decide +kernel)) ggX6_need_X6_needAt
set_option maxRecDepth 100000 in
theorem ggX6_need_X6_lacks : GoodIn wsX6_need wsX6_lacks := goodIn_g _ [5, 2, 0, 0, 17, 0, 0, 0, 0, 0, 0, 0, 0, 0, 0, 3, 11, 0, 0, 0, 0, 0, 0, 0, 0, 0, 0, 0, 0, 0, 0, 0, 0, 0, 0, 0, 0, 0, 0, 0, 0, 0, 0, 0] [15, 3, 8, 9, 10, 0, 11, 2, 12, 13, 14, 4, 5, 6, 7, 1, 16, 17, 18, 19, 20, 21, 22, 23, 24, 25, 26, 27, 28, 29, 30, 31, 32, 33, 34, 35, 36, 37, 38, 39, 40, 41, 42, 43] rfl (by decide +kernel)
set_option maxRecDepth 100000 in
theorem gX6_need_X6_lacks : GoodIn wsX6_need (wsV RX6 159 RX6 yX6_lacks wsX6_lacks) := goodIn_app (goodIn_of _ (by decide +kernel)) ggX6_need_X6_lacks
set_option maxRecDepth 100000 in
theorem ggX6_need_X6_bit : GoodIn wsX6_need wsX6_bit := goodIn_g _ [45] [0] rfl (by decide +kernel)
set_option maxRecDepth 100000 in
theorem gX6_need_X6_bit : GoodIn wsX6_need (va_wsS RX6 162 yX6_bit wsX6_bit) := goodIn_app (goodIn_of _ (by decide +kernel)) ggX6_need_X6_bit
set_option maxRecDepth 100000 in
theorem ggX6_need_X6_isHigh : GoodIn wsX6_need wsX6_isHigh := goodIn_g _ [5, 2, 0, 0, 17, 0, 0, 0, 0, 0, 0, 0, 0, 0, 0, 10, 4, 0, 0, 0, 0, 0, 0, 0, 0, 0, 0, 0, 0, 0, 0, 0, 0, 0, 0, 0, 0, 0, 0, 0, 0, 0, 0, 0] [15, 3, 8, 9, 10, 0, 11, 2, 12, 13, 14, 4, 5, 6, 7, 1, 16, 17, 18, 19, 20, 21, 22, 23, 24, 25, 26, 27, 28, 29, 30, 31, 32, 33, 34, 35, 36, 37, 38, 39, 40, 41, 42, 43] rfl (by decide +kernel)
set_option maxRecDepth 100000 in
theorem gX6_need_X6_isHigh : GoodIn wsX6_need (wsV RX6 166 RX6 yX6_isHigh wsX6_isHigh) := goodIn_app (goodIn_of _ (by decide +kernel)) ggX6_need_X6_isHigh
set_option maxRecDepth 100000 in
theorem ggX6_need_X6_isSteep : GoodIn wsX6_need wsX6_isSteep := goodIn_g _ [5, 2, 1, 17, 0, 0, 0, 4, 0, 0, 14, 0, 0, 0, 0, 0, 0, 0, 0, 0, 0, 0, 0, 0, 0, 0, 0, 0, 0, 0, 0, 0, 0, 0, 0, 0, 0, 0, 0] [10, 2, 7, 8, 0, 9, 3, 4, 5, 6, 1, 11, 12, 13, 14, 15, 16, 17, 18, 19, 20, 21, 22, 23, 24, 25, 26, 27, 28, 29, 30, 31, 32, 33, 34, 35, 36, 37, 38] rfl (by decide +kernel)
set_option maxRecDepth 100000 in
theorem gX6_need_X6_isSteep : GoodIn wsX6_need (wsV RX6 169 RX6 yX6_isSteep wsX6_isSteep) := goodIn_app (goodIn_of _ (by decide +kernel)) ggX6_need_X6_isSteep
theorem dX6_need_0 : decode cX6_need 0 = .ok (.aload_n 0, 1) := by decide +kernel
theorem dX6_need_1 : decode cX6_need 1 = .ok (.invokevirtual 134, 3) := by decide +kernel
theorem dX6_need_4 : decode cX6_need 4 = .ok (.aload_n 0, 1) := by decide +kernel
theorem dX6_need_5 : decode cX6_need 5 = .ok (.iload_n 1, 1) := by decide +kernel
theorem dX6_need_6 : decode cX6_need 6 = .ok (.invokevirtual 156, 3) := by decide +kernel
theorem dX6_need_9 : decode cX6_need 9 = .ok (.ifCond .eq 15, 3) := by decide +kernel
theorem dX6_need_12 : decode cX6_need 12 = .ok (.iload_n 2, 1) := by decide +kernel
theorem dX6_need_13 : decode cX6_need 13 = .ok (.i2l, 1) := by decide +kernel
theorem dX6_need_14 : decode cX6_need 14 = .ok (.lconst 0, 1) := by decide +kernel
theorem dX6_need_15 : decode cX6_need 15 = .ok (.ldc2_w 89, 3) := by decide +kernel
theorem dX6_need_18 : decode cX6_need 18 = .ok (.invokestatic 67, 3) := by decide +kernel
theorem dX6_need_21 : decode cX6_need 21 = .ok (.ifCond .ne 6, 3) := by decide +kernel
theorem dX6_need_24 : decode cX6_need 24 = .ok (.bipush (-2), 2) := by decide +kernel
theorem dX6_need_26 : decode cX6_need 26 = .ok (.ireturn, 1) := by decide +kernel
theorem dX6_need_27 : decode cX6_need 27 = .ok (.aload_n 0, 1) := by decide +kernel
theorem dX6_need_28 : decode cX6_need 28 = .ok (.iconst 5, 1) := by decide +kernel
theorem dX6_need_29 : decode cX6_need 29 = .ok (.invokevirtual 127, 3) := by decide +kernel
theorem dX6_need_32 : decode cX6_need 32 = .ok (.istore_n 3, 1) := by decide +kernel
theorem dX6_need_33 : decode cX6_need 33 = .ok (.iload_n 2, 1) := by decide +kernel
theorem dX6_need_34 : decode cX6_need 34 = .ok (.ifCond .ne 12, 3) := by decide +kernel
theorem dX6_need_37 : decode cX6_need 37 = .ok (.aload_n 0, 1) := by decide +kernel
theorem dX6_need_38 : decode cX6_need 38 = .ok (.iload_n 1, 1) := by decide +kernel
theorem dX6_need_39 : decode cX6_need 39 = .ok (.iload_n 3, 1) := by decide +kernel
theorem dX6_need_40 : decode cX6_need 40 = .ok (.invokevirtual 153, 3) := by decide +kernel
theorem dX6_need_43 : decode cX6_need 43 = .ok (.goto 45, 3) := by decide +kernel
theorem dX6_need_46 : decode cX6_need 46 = .ok (.iload_n 2, 1) := by decide +kernel
theorem dX6_need_47 : decode cX6_need 47 = .ok (.iconst 1, 1) := by decide +kernel
theorem dX6_need_48 : decode cX6_need 48 = .ok (.if_icmp .ne 15, 3) := by decide +kernel
theorem dX6_need_51 : decode cX6_need 51 = .ok (.aload_n 0, 1) := by decide +kernel
theorem dX6_need_52 : decode cX6_need 52 = .ok (.iload_n 1, 1) := by decide +kernel
theorem dX6_need_53 : decode cX6_need 53 = .ok (.iload_n 3, 1) := by decide +kernel
theorem dX6_need_54 : decode cX6_need 54 = .ok (.invokevirtual 159, 3) := by decide +kernel
theorem dX6_need_57 : decode cX6_need 57 = .ok (.invokestatic 162, 3) := by decide +kernel
theorem dX6_need_60 : decode cX6_need 60 = .ok (.goto 28, 3) := by decide +kernel
theorem dX6_need_63 : decode cX6_need 63 = .ok (.iload_n 2, 1) := by decide +kernel
theorem dX6_need_64 : decode cX6_need 64 = .ok (.iconst 2, 1) := by decide +kernel
theorem dX6_need_65 : decode cX6_need 65 = .ok (.if_icmp .ne 15, 3) := by decide +kernel
theorem dX6_need_68 : decode cX6_need 68 = .ok (.aload_n 0, 1) := by decide +kernel
theorem dX6_need_69 : decode cX6_need 69 = .ok (.iload_n 1, 1) := by decide +kernel
theorem dX6_need_70 : decode cX6_need 70 = .ok (.iload_n 3, 1) := by decide +kernel
theorem dX6_need_71 : decode cX6_need 71 = .ok (.invokevirtual 166, 3) := by decide +kernel
theorem dX6_need_74 : decode cX6_need 74 = .ok (.invokestatic 162, 3) := by decide +kernel
theorem dX6_need_77 : decode cX6_need 77 = .ok (.goto 11, 3) := by decide +kernel
theorem dX6_need_80 : decode cX6_need 80 = .ok (.aload_n 0, 1) := by decide +kernel
theorem dX6_need_81 : decode cX6_need 81 = .ok (.iload_n 1, 1) := by decide +kernel
theorem dX6_need_82 : decode cX6_need 82 = .ok (.invokevirtual 169, 3) := by decide +kernel
theorem dX6_need_85 : decode cX6_need 85 = .ok (.invokestatic 162, 3) := by decide +kernel
theorem dX6_need_88 : decode cX6_need 88 = .ok (.ireturn, 1) := by decide +kernel
set_option maxRecDepth 100000 in
theorem ggX6_why_X6_rule : GoodIn wsX6_why wsX6_rule := goodIn_g _ [5, 0, 21, 0, 0, 0, 0, 0, 0, 0, 0, 0, 0, 0, 0, 0, 0, 0, 0, 0, 0, 0, 0, 0, 0, 0, 0, 0, 0, 0] [0, 1, 2, 3, 4, 5, 6, 7, 8, 9, 10, 11, 12, 13, 14, 15, 16, 17, 18, 19, 20, 21, 22, 23, 24, 25, 26, 27, 28, 29] rfl (by decide +kernel)
set_option maxRecDepth 100000 in
theorem gX6_why_X6_rule : GoodIn wsX6_why (wsV RX6 127 RX6 yX6_rule wsX6_rule) := goodIn_app (goodIn_of _ (by decide +kernel)) ggX6_why_X6_rule
set_option maxRecDepth 100000 in
theorem ggX6_why_X6_lacks : GoodIn wsX6_why wsX6_lacks := goodIn_g _ [1, 0, 0, 0, 0, 0, 3, 0, 0, 0, 0, 0, 0, 0, 0, 0, 8, 0, 0, 0, 0, 0, 0, 0, 0, 0, 0, 0, 0, 0, 0, 0, 0, 0, 0, 0, 0, 0, 0, 0, 0, 0, 0, 0] [6, 7, 8, 9, 10, 3, 11, 12, 13, 14, 15, 0, 1, 2, 4, 5, 16, 17, 18, 19, 20, 21, 22, 23, 24, 25, 26, 27, 28, 29, 30, 31, 32, 33, 34, 35, 36, 37, 38, 39, 40, 41, 42, 43] rfl (by decide +kernel)
set_option maxRecDepth 100000 in
theorem gX6_why_X6_lacks : GoodIn wsX6_why (wsV RX6 159 RX6 yX6_lacks wsX6_lacks) := goodIn_app (goodIn_of _ (by decide +kernel)) ggX6_why_X6_lacks
set_option maxRecDepth 100000 in
theorem ggX6_why_X6_isHigh : GoodIn wsX6_why wsX6_isHigh := goodIn_g _ [1, 0, 0, 0, 0, 0, 4, 0, 0, 0, 0, 0, 0, 0, 0, 3, 4, 0, 0, 0, 0, 0, 0, 0, 0, 0, 0, 0, 0, 0, 0, 0, 0, 0, 0, 0, 0, 0, 0, 0, 0, 0, 0, 0] [15, 6, 7, 8, 9, 3, 10, 11, 12, 13, 14, 0, 1, 2, 4, 5, 16, 17, 18, 19, 20, 21, 22, 23, 24, 25, 26, 27, 28, 29, 30, 31, 32, 33, 34, 35, 36, 37, 38, 39, 40, 41, 42, 43] rfl (by decide +kernel)
set_option maxRecDepth 100000 in
theorem gX6_why_X6_isHigh : GoodIn wsX6_why (wsV RX6 166 RX6 yX6_isHigh wsX6_isHigh) := goodIn_app (goodIn_of _ (by decide +kernel)) ggX6_why_X6_isHigh
set_option maxRecDepth 100000 in
theorem ggX6_why_X6_isSteep : GoodIn wsX6_why wsX6_isSteep := goodIn_g _ [1, 0, 0, 0, 0, 0, 4, 5, 0, 0, 7, 0, 0, 0, 0, 0, 0, 0, 0, 0, 0, 0, 0, 0, 0, 0, 0, 0, 0, 0, 0, 0, 0, 0, 0, 0, 0, 0, 0] [10, 6, 7, 8, 3, 9, 0, 1, 2, 4, 5, 11, 12, 13, 14, 15, 16, 17, 18, 19, 20, 21, 22, 23, 24, 25, 26, 27, 28, 29, 30, 31, 32, 33, 34, 35, 36, 37, 38] rfl (by decide +kernel)
set_option maxRecDepth 100000 in
theorem gX6_why_X6_isSteep : GoodIn wsX6_why (wsV RX6 169 RX6 yX6_isSteep wsX6_isSteep) := goodIn_app (goodIn_of _ (by decide +kernel)) ggX6_why_X6_isSteep
theorem dX6_why_0 : decode cX6_why 0 = .ok (.aload_n 0, 1) := by decide +kernel
theorem dX6_why_1 : decode cX6_why 1 = .ok (.iconst 5, 1) := by decide +kernel
theorem dX6_why_2 : decode cX6_why 2 = .ok (.invokevirtual 127, 3) := by decide +kernel
theorem dX6_why_5 : decode cX6_why 5 = .ok (.istore_n 2, 1) := by decide +kernel
theorem dX6_why_6 : decode cX6_why 6 = .ok (.aload_n 0, 1) := by decide +kernel
theorem dX6_why_7 : decode cX6_why 7 = .ok (.iload_n 1, 1) := by decide +kernel
theorem dX6_why_8 : decode cX6_why 8 = .ok (.iload_n 2, 1) := by decide +kernel
theorem dX6_why_9 : decode cX6_why 9 = .ok (.invokevirtual 159, 3) := by decide +kernel
theorem dX6_why_12 : decode cX6_why 12 = .ok (.ifCond .eq 7, 3) := by decide +kernel
theorem dX6_why_15 : decode cX6_why 15 = .ok (.iconst 1, 1) := by decide +kernel
theorem dX6_why_16 : decode cX6_why 16 = .ok (.goto 29, 3) := by decide +kernel
theorem dX6_why_19 : decode cX6_why 19 = .ok (.aload_n 0, 1) := by decide +kernel
theorem dX6_why_20 : decode cX6_why 20 = .ok (.iload_n 1, 1) := by decide +kernel
theorem dX6_why_21 : decode cX6_why 21 = .ok (.iload_n 2, 1) := by decide +kernel
theorem dX6_why_22 : decode cX6_why 22 = .ok (.invokevirtual 166, 3) := by decide +kernel
theorem dX6_why_25 : decode cX6_why 25 = .ok (.ifCond .eq 7, 3) := by decide +kernel
theorem dX6_why_28 : decode cX6_why 28 = .ok (.iconst 2, 1) := by decide +kernel
theorem dX6_why_29 : decode cX6_why 29 = .ok (.goto 16, 3) := by decide +kernel
theorem dX6_why_32 : decode cX6_why 32 = .ok (.aload_n 0, 1) := by decide +kernel
theorem dX6_why_33 : decode cX6_why 33 = .ok (.iload_n 1, 1) := by decide +kernel
theorem dX6_why_34 : decode cX6_why 34 = .ok (.invokevirtual 169, 3) := by decide +kernel
theorem dX6_why_37 : decode cX6_why 37 = .ok (.ifCond .eq 7, 3) := by decide +kernel
theorem dX6_why_40 : decode cX6_why 40 = .ok (.iconst 3, 1) := by decide +kernel
theorem dX6_why_41 : decode cX6_why 41 = .ok (.goto 4, 3) := by decide +kernel
theorem dX6_why_44 : decode cX6_why 44 = .ok (.iconst 0, 1) := by decide +kernel
theorem dX6_why_45 : decode cX6_why 45 = .ok (.ireturn, 1) := by decide +kernel
theorem dX6_isCaused_0 : decode cX6_isCaused 0 = .ok (.aload_n 0, 1) := by decide +kernel
theorem dX6_isCaused_1 : decode cX6_isCaused 1 = .ok (.dup, 1) := by decide +kernel
theorem dX6_isCaused_2 : decode cX6_isCaused 2 = .ok (.getfield 172, 3) := by decide +kernel
theorem dX6_isCaused_5 : decode cX6_isCaused 5 = .ok (.iconst 1, 1) := by decide +kernel
theorem dX6_isCaused_6 : decode cX6_isCaused 6 = .ok (.iadd, 1) := by decide +kernel
theorem dX6_isCaused_7 : decode cX6_isCaused 7 = .ok (.putfield 172, 3) := by decide +kernel
theorem dX6_isCaused_10 : decode cX6_isCaused 10 = .ok (.aload_n 0, 1) := by decide +kernel
theorem dX6_isCaused_11 : decode cX6_isCaused 11 = .ok (.iload_n 1, 1) := by decide +kernel
theorem dX6_isCaused_12 : decode cX6_isCaused 12 = .ok (.putfield 175, 3) := by decide +kernel
theorem dX6_isCaused_15 : decode cX6_isCaused 15 = .ok (.return_, 1) := by decide +kernel
set_option maxRecDepth 100000 in
theorem ggX6_findsCauses_X6_why : GoodIn wsX6_findsCauses wsX6_why := goodIn_g _ [6, 0, 0, 0, 0, 0, 0, 0, 0, 0, 0, 0, 0, 0, 0, 0, 0, 0, 0, 0, 0, 0, 0, 0, 0, 0, 0, 0, 21, 0, 0, 0, 0, 0, 0, 0, 0, 0, 0, 0, 0, 0, 0, 0, 0, 0, 0, 0, 0, 0, 0, 0, 0, 0, 0, 0] [1, 2, 3, 4, 0, 5, 6, 7, 8, 9, 10, 11, 12, 13, 14, 15, 16, 17, 18, 19, 20, 21, 22, 23, 24, 25, 26, 27, 28, 29, 30, 31, 32, 33, 34, 35, 36, 37, 38, 39, 40, 41, 42, 43, 44, 45, 46, 47, 48, 49, 50, 51, 52, 53, 54, 55] rfl (by decide +kernel)
set_option maxRecDepth 100000 in
theorem gX6_findsCauses_X6_why : GoodIn wsX6_findsCauses (wsV RX6 178 RX6 yX6_why wsX6_why) := goodIn_app (goodIn_of _ (by decide +kernel)) ggX6_findsCauses_X6_why
set_option maxRecDepth 100000 in
theorem ggX6_findsCauses_X6_isCaused : GoodIn wsX6_findsCauses wsX6_isCaused := goodIn_g _ [2, 34, 0, 16, 0, 0, 0, 0, 0, 0, 0, 0, 0, 0, 0, 0, 0, 0, 0, 0, 0, 0, 0, 0, 0, 0, 0, 0, 0, 0, 0] [1, 0, 2, 3, 4, 5, 6, 7, 8, 9, 10, 11, 12, 13, 14, 15, 16, 17, 18, 19, 20, 21, 22, 23, 24, 25, 26, 27, 28, 29, 30] rfl (by decide +kernel)
set_option maxRecDepth 100000 in
theorem gX6_findsCauses_X6_isCaused : GoodIn wsX6_findsCauses (wsV RX6 181 RX6 yX6_isCaused wsX6_isCaused) := goodIn_app (goodIn_of _ (by decide +kernel)) ggX6_findsCauses_X6_isCaused
set_option maxRecDepth 100000 in
theorem ggX6_findsCauses_X6_of0 : GoodIn wsX6_findsCauses wsX6_of0 := goodIn_g _ [12, 29, 12, 0, 0, 0, 0, 0, 0, 0, 0, 0, 0, 0, 0, 0, 0, 0, 0, 0, 0, 0, 0, 0, 0, 0, 0, 0, 0, 0] [1, 0, 2, 3, 4, 5, 6, 7, 8, 9, 10, 11, 12, 13, 14, 15, 16, 17, 18, 19, 20, 21, 22, 23, 24, 25, 26, 27, 28, 29] rfl (by decide +kernel)
set_option maxRecDepth 100000 in
theorem gX6_findsCauses_X6_of0 : GoodIn wsX6_findsCauses (wsV RX6 91 RX6 yX6_of0 wsX6_of0) := goodIn_app (goodIn_of _ (by decide +kernel)) ggX6_findsCauses_X6_of0
set_option maxRecDepth 100000 in
theorem ggX6_findsCauses_X6_abs : GoodIn wsX6_findsCauses wsX6_abs := goodIn_g _ [25] [0] rfl (by decide +kernel)
set_option maxRecDepth 100000 in
theorem gX6_findsCauses_X6_abs : GoodIn wsX6_findsCauses (va_wsS RX6 139 yX6_abs wsX6_abs) := goodIn_app (goodIn_of _ (by decide +kernel)) ggX6_findsCauses_X6_abs
set_option maxRecDepth 100000 in
theorem ggX6_findsCauses_X6_firstOf : GoodIn wsX6_findsCauses wsX6_firstOf := goodIn_g _ [6, 5, 26, 0, 0, 0, 3, 8, 0, 0, 0, 0, 0, 0, 0, 0, 0, 0, 0, 0, 0, 0, 0, 0, 0, 0, 0, 0, 0, 0, 0, 0, 0, 0, 0] [6, 2, 3, 4, 0, 5, 1, 7, 8, 9, 10, 11, 12, 13, 14, 15, 16, 17, 18, 19, 20, 21, 22, 23, 24, 25, 26, 27, 28, 29, 30, 31, 32, 33, 34] rfl (by decide +kernel)
set_option maxRecDepth 100000 in
theorem gX6_findsCauses_X6_firstOf : GoodIn wsX6_findsCauses (wsV RX6 98 RX6 yX6_firstOf wsX6_firstOf) := goodIn_app (goodIn_of _ (by decide +kernel)) ggX6_findsCauses_X6_firstOf
set_option maxRecDepth 100000 in
theorem ggX6_findsCauses_X6_versinesApart : GoodIn wsX6_findsCauses wsX6_versinesApart := goodIn_g _ [6, 5, 9, 0, 0, 0, 13, 0, 0, 0, 0, 0, 0, 0, 3, 0, 0, 0, 0, 0, 0, 0, 0, 0, 0, 0, 0, 0, 0, 0, 0, 0, 0, 0, 0, 0, 0, 0, 0, 0, 0, 0, 0, 0, 0, 0, 0] [14, 2, 15, 16, 17, 0, 18, 10, 11, 12, 13, 6, 7, 8, 9, 1, 3, 4, 5, 19, 20, 21, 22, 23, 24, 25, 26, 27, 28, 29, 30, 31, 32, 33, 34, 35, 36, 37, 38, 39, 40, 41, 42, 43, 44, 45, 46] rfl (by decide +kernel)
set_option maxRecDepth 100000 in
theorem gX6_findsCauses_X6_versinesApart : GoodIn wsX6_findsCauses (wsV RX6 142 RX6 yX6_versinesApart wsX6_versinesApart) := goodIn_app (goodIn_of _ (by decide +kernel)) ggX6_findsCauses_X6_versinesApart
set_option maxRecDepth 100000 in
theorem ggX6_findsCauses_X6_rule : GoodIn wsX6_findsCauses wsX6_rule := goodIn_g _ [11, 0, 42, 0, 0, 0, 0, 0, 0, 0, 0, 0, 0, 0, 0, 0, 0, 0, 0, 0, 0, 0, 0, 0, 0, 0, 0, 0, 0, 0] [0, 1, 2, 3, 4, 5, 6, 7, 8, 9, 10, 11, 12, 13, 14, 15, 16, 17, 18, 19, 20, 21, 22, 23, 24, 25, 26, 27, 28, 29] rfl (by decide +kernel)
set_option maxRecDepth 100000 in
theorem gX6_findsCauses_X6_rule : GoodIn wsX6_findsCauses (wsV RX6 127 RX6 yX6_rule wsX6_rule) := goodIn_app (goodIn_of _ (by decide +kernel)) ggX6_findsCauses_X6_rule
theorem dX6_findsCauses_0 : decode cX6_findsCauses 0 = .ok (.aload_n 0, 1) := by decide +kernel
theorem dX6_findsCauses_1 : decode cX6_findsCauses 1 = .ok (.getfield 24, 3) := by decide +kernel
theorem dX6_findsCauses_4 : decode cX6_findsCauses 4 = .ok (.iload_n 1, 1) := by decide +kernel
theorem dX6_findsCauses_5 : decode cX6_findsCauses 5 = .ok (.iaload, 1) := by decide +kernel
theorem dX6_findsCauses_6 : decode cX6_findsCauses 6 = .ok (.istore_n 2, 1) := by decide +kernel
theorem dX6_findsCauses_7 : decode cX6_findsCauses 7 = .ok (.aload_n 0, 1) := by decide +kernel
theorem dX6_findsCauses_8 : decode cX6_findsCauses 8 = .ok (.iload_n 1, 1) := by decide +kernel
theorem dX6_findsCauses_9 : decode cX6_findsCauses 9 = .ok (.invokevirtual 178, 3) := by decide +kernel
theorem dX6_findsCauses_12 : decode cX6_findsCauses 12 = .ok (.istore_n 3, 1) := by decide +kernel
theorem dX6_findsCauses_13 : decode cX6_findsCauses 13 = .ok (.aload_n 0, 1) := by decide +kernel
theorem dX6_findsCauses_14 : decode cX6_findsCauses 14 = .ok (.iconst 0, 1) := by decide +kernel
theorem dX6_findsCauses_15 : decode cX6_findsCauses 15 = .ok (.putfield 172, 3) := by decide +kernel
theorem dX6_findsCauses_18 : decode cX6_findsCauses 18 = .ok (.aload_n 0, 1) := by decide +kernel
theorem dX6_findsCauses_19 : decode cX6_findsCauses 19 = .ok (.iconst 1, 1) := by decide +kernel
theorem dX6_findsCauses_20 : decode cX6_findsCauses 20 = .ok (.invokevirtual 181, 3) := by decide +kernel
theorem dX6_findsCauses_23 : decode cX6_findsCauses 23 = .ok (.iload_n 3, 1) := by decide +kernel
theorem dX6_findsCauses_24 : decode cX6_findsCauses 24 = .ok (.iconst 1, 1) := by decide +kernel
theorem dX6_findsCauses_25 : decode cX6_findsCauses 25 = .ok (.if_icmp .ne 22, 3) := by decide +kernel
theorem dX6_findsCauses_28 : decode cX6_findsCauses 28 = .ok (.aload_n 0, 1) := by decide +kernel
theorem dX6_findsCauses_29 : decode cX6_findsCauses 29 = .ok (.iload_n 2, 1) := by decide +kernel
theorem dX6_findsCauses_30 : decode cX6_findsCauses 30 = .ok (.iconst 2, 1) := by decide +kernel
theorem dX6_findsCauses_31 : decode cX6_findsCauses 31 = .ok (.invokevirtual 91, 3) := by decide +kernel
theorem dX6_findsCauses_34 : decode cX6_findsCauses 34 = .ok (.invokestatic 139, 3) := by decide +kernel
theorem dX6_findsCauses_37 : decode cX6_findsCauses 37 = .ok (.bipush 50, 2) := by decide +kernel
theorem dX6_findsCauses_39 : decode cX6_findsCauses 39 = .ok (.if_icmp .le 8, 3) := by decide +kernel
theorem dX6_findsCauses_42 : decode cX6_findsCauses 42 = .ok (.aload_n 0, 1) := by decide +kernel
theorem dX6_findsCauses_43 : decode cX6_findsCauses 43 = .ok (.iconst 2, 1) := by decide +kernel
theorem dX6_findsCauses_44 : decode cX6_findsCauses 44 = .ok (.invokevirtual 181, 3) := by decide +kernel
theorem dX6_findsCauses_47 : decode cX6_findsCauses 47 = .ok (.iload_n 3, 1) := by decide +kernel
theorem dX6_findsCauses_48 : decode cX6_findsCauses 48 = .ok (.iconst 2, 1) := by decide +kernel
theorem dX6_findsCauses_49 : decode cX6_findsCauses 49 = .ok (.if_icmp .ne 8, 3) := by decide +kernel
theorem dX6_findsCauses_52 : decode cX6_findsCauses 52 = .ok (.aload_n 0, 1) := by decide +kernel
theorem dX6_findsCauses_53 : decode cX6_findsCauses 53 = .ok (.iconst 3, 1) := by decide +kernel
theorem dX6_findsCauses_54 : decode cX6_findsCauses 54 = .ok (.invokevirtual 181, 3) := by decide +kernel
theorem dX6_findsCauses_57 : decode cX6_findsCauses 57 = .ok (.iload_n 3, 1) := by decide +kernel
theorem dX6_findsCauses_58 : decode cX6_findsCauses 58 = .ok (.iconst 3, 1) := by decide +kernel
theorem dX6_findsCauses_59 : decode cX6_findsCauses 59 = .ok (.if_icmp .ne 41, 3) := by decide +kernel
theorem dX6_findsCauses_62 : decode cX6_findsCauses 62 = .ok (.iload_n 2, 1) := by decide +kernel
theorem dX6_findsCauses_63 : decode cX6_findsCauses 63 = .ok (.ifCond .le 37, 3) := by decide +kernel
theorem dX6_findsCauses_66 : decode cX6_findsCauses 66 = .ok (.aload_n 0, 1) := by decide +kernel
theorem dX6_findsCauses_67 : decode cX6_findsCauses 67 = .ok (.iload_n 2, 1) := by decide +kernel
theorem dX6_findsCauses_68 : decode cX6_findsCauses 68 = .ok (.invokevirtual 98, 3) := by decide +kernel
theorem dX6_findsCauses_71 : decode cX6_findsCauses 71 = .ok (.iload_n 1, 1) := by decide +kernel
theorem dX6_findsCauses_72 : decode cX6_findsCauses 72 = .ok (.if_icmp .ne 28, 3) := by decide +kernel
theorem dX6_findsCauses_75 : decode cX6_findsCauses 75 = .ok (.aload_n 0, 1) := by decide +kernel
theorem dX6_findsCauses_76 : decode cX6_findsCauses 76 = .ok (.iconst 4, 1) := by decide +kernel
theorem dX6_findsCauses_77 : decode cX6_findsCauses 77 = .ok (.invokevirtual 181, 3) := by decide +kernel
theorem dX6_findsCauses_80 : decode cX6_findsCauses 80 = .ok (.aload_n 0, 1) := by decide +kernel
theorem dX6_findsCauses_81 : decode cX6_findsCauses 81 = .ok (.iload_n 2, 1) := by decide +kernel
theorem dX6_findsCauses_82 : decode cX6_findsCauses 82 = .ok (.iconst 1, 1) := by decide +kernel
theorem dX6_findsCauses_83 : decode cX6_findsCauses 83 = .ok (.isub, 1) := by decide +kernel
theorem dX6_findsCauses_84 : decode cX6_findsCauses 84 = .ok (.invokevirtual 142, 3) := by decide +kernel
theorem dX6_findsCauses_87 : decode cX6_findsCauses 87 = .ok (.aload_n 0, 1) := by decide +kernel
theorem dX6_findsCauses_88 : decode cX6_findsCauses 88 = .ok (.iconst 4, 1) := by decide +kernel
theorem dX6_findsCauses_89 : decode cX6_findsCauses 89 = .ok (.invokevirtual 127, 3) := by decide +kernel
theorem dX6_findsCauses_92 : decode cX6_findsCauses 92 = .ok (.if_icmp .le 8, 3) := by decide +kernel
theorem dX6_findsCauses_95 : decode cX6_findsCauses 95 = .ok (.aload_n 0, 1) := by decide +kernel
theorem dX6_findsCauses_96 : decode cX6_findsCauses 96 = .ok (.iconst 5, 1) := by decide +kernel
theorem dX6_findsCauses_97 : decode cX6_findsCauses 97 = .ok (.invokevirtual 181, 3) := by decide +kernel
theorem dX6_findsCauses_100 : decode cX6_findsCauses 100 = .ok (.return_, 1) := by decide +kernel
set_option maxRecDepth 100000 in
theorem ggX6_fault_X6_in : GoodIn wsX6_fault wsX6_in := goodIn_g _ [8] [0] rfl (by decide +kernel)
set_option maxRecDepth 100000 in
theorem gX6_fault_X6_in : GoodIn wsX6_fault (va_wsS RX6 67 yX6_in wsX6_in) := goodIn_app (goodIn_of _ (by decide +kernel)) ggX6_fault_X6_in
set_option maxRecDepth 100000 in
theorem ggX6_fault_X6_lays : GoodIn wsX6_fault wsX6_lays := goodIn_g _ [2, 4, 4, 0, 0, 0, 0, 0, 0, 0, 0, 0, 0, 0, 0, 0, 47, 0, 0, 0, 0, 0, 0, 0, 0, 0, 0, 0, 0, 0, 0, 0, 0, 0, 0, 0, 0, 0, 0, 0, 0, 0, 0, 0] [2, 0, 3, 4, 5, 6, 7, 8, 9, 10, 11, 1, 12, 13, 14, 15, 16, 17, 18, 19, 20, 21, 22, 23, 24, 25, 26, 27, 28, 29, 30, 31, 32, 33, 34, 35, 36, 37, 38, 39, 40, 41, 42, 43] rfl (by decide +kernel)
set_option maxRecDepth 100000 in
theorem gX6_fault_X6_lays : GoodIn wsX6_fault (wsV RX6 134 RX6 yX6_lays wsX6_lays) := goodIn_app (goodIn_of _ (by decide +kernel)) ggX6_fault_X6_lays
set_option maxRecDepth 100000 in
theorem ggX6_fault_X6_why : GoodIn wsX6_fault wsX6_why := goodIn_g _ [7, 5, 0, 0, 13, 0, 0, 0, 0, 0, 0, 0, 0, 0, 0, 0, 0, 0, 0, 0, 0, 0, 0, 0, 0, 0, 0, 0, 20, 0, 0, 0, 0, 0, 0, 0, 0, 0, 0, 0, 0, 0, 0, 0, 0, 0, 0, 0, 0, 0, 0, 0, 0, 0, 0, 0] [4, 5, 6, 7, 0, 8, 1, 9, 10, 11, 12, 3, 13, 14, 15, 16, 2, 17, 18, 19, 20, 21, 22, 23, 24, 25, 26, 27, 28, 29, 30, 31, 32, 33, 34, 35, 36, 37, 38, 39, 40, 41, 42, 43, 44, 45, 46, 47, 48, 49, 50, 51, 52, 53, 54, 55] rfl (by decide +kernel)
set_option maxRecDepth 100000 in
theorem gX6_fault_X6_why : GoodIn wsX6_fault (wsV RX6 178 RX6 yX6_why wsX6_why) := goodIn_app (goodIn_of _ (by decide +kernel)) ggX6_fault_X6_why
set_option maxRecDepth 100000 in
theorem ggX6_fault_X6_findsCauses : GoodIn wsX6_fault wsX6_findsCauses := goodIn_g _ [3, 0, 2, 5, 0, 0, 0, 2, 0, 0, 0, 3, 0, 0, 0, 0, 0, 0, 0, 0, 0, 0, 0, 0, 0, 0, 0, 0, 0, 0, 0, 0, 0, 0, 0, 0, 0, 0, 3, 0, 0, 0, 0, 0, 0, 0, 0, 0, 0, 0, 0, 0, 0, 0, 0, 0, 0, 0, 0, 0, 0, 0, 0, 0, 0, 0, 0, 0, 0, 0, 0, 0, 0, 0, 0, 0, 0, 0, 0, 0, 0, 0, 0] [38, 6, 0, 11, 12, 13, 2, 14, 15, 16, 17, 18, 3, 19, 20, 21, 22, 5, 23, 24, 25, 26, 4, 27, 28, 29, 30, 31, 32, 33, 34, 35, 36, 37, 39, 40, 41, 42, 1, 7, 8, 9, 10, 43, 44, 45, 46, 47, 48, 49, 50, 51, 52, 53, 54, 55, 56, 57, 58, 59, 60, 61, 62, 63, 64, 65, 66, 67, 68, 69, 70, 71, 72, 73, 74, 75, 76, 77, 78, 79, 80, 81, 82] rfl (by decide +kernel)
set_option maxRecDepth 100000 in
theorem gX6_fault_X6_findsCauses : GoodIn wsX6_fault (wsV RX6 185 RX6 yX6_findsCauses wsX6_findsCauses) := goodIn_app (goodIn_of _ (by decide +kernel)) ggX6_fault_X6_findsCauses
theorem dX6_fault_0 : decode cX6_fault 0 = .ok (.iload_n 1, 1) := by decide +kernel
theorem dX6_fault_1 : decode cX6_fault 1 = .ok (.i2l, 1) := by decide +kernel
theorem dX6_fault_2 : decode cX6_fault 2 = .ok (.lconst 0, 1) := by decide +kernel
theorem dX6_fault_3 : decode cX6_fault 3 = .ok (.ldc2_w 89, 3) := by decide +kernel
theorem dX6_fault_6 : decode cX6_fault 6 = .ok (.invokestatic 67, 3) := by decide +kernel
theorem dX6_fault_9 : decode cX6_fault 9 = .ok (.ifCond .ne 6, 3) := by decide +kernel
theorem dX6_fault_12 : decode cX6_fault 12 = .ok (.bipush (-2), 2) := by decide +kernel
theorem dX6_fault_14 : decode cX6_fault 14 = .ok (.ireturn, 1) := by decide +kernel
theorem dX6_fault_15 : decode cX6_fault 15 = .ok (.aload_n 0, 1) := by decide +kernel
theorem dX6_fault_16 : decode cX6_fault 16 = .ok (.invokevirtual 134, 3) := by decide +kernel
theorem dX6_fault_19 : decode cX6_fault 19 = .ok (.iconst 1, 1) := by decide +kernel
theorem dX6_fault_20 : decode cX6_fault 20 = .ok (.istore_n 2, 1) := by decide +kernel
theorem dX6_fault_21 : decode cX6_fault 21 = .ok (.iload_n 2, 1) := by decide +kernel
theorem dX6_fault_22 : decode cX6_fault 22 = .ok (.aload_n 0, 1) := by decide +kernel
theorem dX6_fault_23 : decode cX6_fault 23 = .ok (.getfield 130, 3) := by decide +kernel
theorem dX6_fault_26 : decode cX6_fault 26 = .ok (.if_icmp .gt 60, 3) := by decide +kernel
theorem dX6_fault_29 : decode cX6_fault 29 = .ok (.aload_n 0, 1) := by decide +kernel
theorem dX6_fault_30 : decode cX6_fault 30 = .ok (.iload_n 2, 1) := by decide +kernel
theorem dX6_fault_31 : decode cX6_fault 31 = .ok (.invokevirtual 178, 3) := by decide +kernel
theorem dX6_fault_34 : decode cX6_fault 34 = .ok (.ifCond .le 46, 3) := by decide +kernel
theorem dX6_fault_37 : decode cX6_fault 37 = .ok (.aload_n 0, 1) := by decide +kernel
theorem dX6_fault_38 : decode cX6_fault 38 = .ok (.iload_n 2, 1) := by decide +kernel
theorem dX6_fault_39 : decode cX6_fault 39 = .ok (.invokevirtual 185, 3) := by decide +kernel
theorem dX6_fault_42 : decode cX6_fault 42 = .ok (.iload_n 1, 1) := by decide +kernel
theorem dX6_fault_43 : decode cX6_fault 43 = .ok (.ifCond .ne 7, 3) := by decide +kernel
theorem dX6_fault_46 : decode cX6_fault 46 = .ok (.iload_n 2, 1) := by decide +kernel
theorem dX6_fault_47 : decode cX6_fault 47 = .ok (.goto 32, 3) := by decide +kernel
theorem dX6_fault_50 : decode cX6_fault 50 = .ok (.iload_n 1, 1) := by decide +kernel
theorem dX6_fault_51 : decode cX6_fault 51 = .ok (.iconst 1, 1) := by decide +kernel
theorem dX6_fault_52 : decode cX6_fault 52 = .ok (.if_icmp .ne 11, 3) := by decide +kernel
theorem dX6_fault_55 : decode cX6_fault 55 = .ok (.aload_n 0, 1) := by decide +kernel
theorem dX6_fault_56 : decode cX6_fault 56 = .ok (.iload_n 2, 1) := by decide +kernel
theorem dX6_fault_57 : decode cX6_fault 57 = .ok (.invokevirtual 178, 3) := by decide +kernel
theorem dX6_fault_60 : decode cX6_fault 60 = .ok (.goto 19, 3) := by decide +kernel
theorem dX6_fault_63 : decode cX6_fault 63 = .ok (.iload_n 1, 1) := by decide +kernel
theorem dX6_fault_64 : decode cX6_fault 64 = .ok (.iconst 2, 1) := by decide +kernel
theorem dX6_fault_65 : decode cX6_fault 65 = .ok (.if_icmp .ne 10, 3) := by decide +kernel
theorem dX6_fault_68 : decode cX6_fault 68 = .ok (.aload_n 0, 1) := by decide +kernel
theorem dX6_fault_69 : decode cX6_fault 69 = .ok (.getfield 172, 3) := by decide +kernel
theorem dX6_fault_72 : decode cX6_fault 72 = .ok (.goto 7, 3) := by decide +kernel
theorem dX6_fault_75 : decode cX6_fault 75 = .ok (.aload_n 0, 1) := by decide +kernel
theorem dX6_fault_76 : decode cX6_fault 76 = .ok (.getfield 175, 3) := by decide +kernel
theorem dX6_fault_79 : decode cX6_fault 79 = .ok (.ireturn, 1) := by decide +kernel
theorem dX6_fault_80 : decode cX6_fault 80 = .ok (.iinc 2 1, 3) := by decide +kernel
theorem dX6_fault_83 : decode cX6_fault 83 = .ok (.goto (-62), 3) := by decide +kernel
theorem dX6_fault_86 : decode cX6_fault 86 = .ok (.iload_n 1, 1) := by decide +kernel
theorem dX6_fault_87 : decode cX6_fault 87 = .ok (.ifCond .ne 7, 3) := by decide +kernel
theorem dX6_fault_90 : decode cX6_fault 90 = .ok (.iconst (-1), 1) := by decide +kernel
theorem dX6_fault_91 : decode cX6_fault 91 = .ok (.goto 4, 3) := by decide +kernel
theorem dX6_fault_94 : decode cX6_fault 94 = .ok (.iconst 0, 1) := by decide +kernel
theorem dX6_fault_95 : decode cX6_fault 95 = .ok (.ireturn, 1) := by decide +kernel
set_option maxRecDepth 100000 in
theorem ggX6_may_X6_lacks : GoodIn wsX6_may wsX6_lacks := goodIn_g _ [4, 0, 0, 0, 0, 0, 0, 0, 0, 0, 0, 0, 0, 0, 0, 0, 4, 0, 0, 0, 0, 0, 0, 0, 0, 0, 0, 0, 0, 0, 0, 0, 0, 0, 0, 0, 0, 0, 0, 0, 0, 0, 0, 0] [1, 2, 3, 4, 5, 0, 6, 7, 8, 9, 10, 11, 12, 13, 14, 15, 16, 17, 18, 19, 20, 21, 22, 23, 24, 25, 26, 27, 28, 29, 30, 31, 32, 33, 34, 35, 36, 37, 38, 39, 40, 41, 42, 43] rfl (by decide +kernel)
set_option maxRecDepth 100000 in
theorem gX6_may_X6_lacks : GoodIn wsX6_may (wsV RX6 159 RX6 yX6_lacks wsX6_lacks) := goodIn_app (goodIn_of _ (by decide +kernel)) ggX6_may_X6_lacks
set_option maxRecDepth 100000 in
theorem ggX6_may_X6_isHigh : GoodIn wsX6_may wsX6_isHigh := goodIn_g _ [4, 1, 0, 0, 0, 0, 0, 0, 0, 0, 0, 0, 0, 0, 0, 3, 0, 0, 0, 0, 0, 0, 0, 0, 0, 0, 0, 0, 0, 0, 0, 0, 0, 0, 0, 0, 0, 0, 0, 0, 0, 0, 0, 0] [15, 1, 2, 3, 4, 0, 5, 6, 7, 8, 9, 10, 11, 12, 13, 14, 16, 17, 18, 19, 20, 21, 22, 23, 24, 25, 26, 27, 28, 29, 30, 31, 32, 33, 34, 35, 36, 37, 38, 39, 40, 41, 42, 43] rfl (by decide +kernel)
set_option maxRecDepth 100000 in
theorem gX6_may_X6_isHigh : GoodIn wsX6_may (wsV RX6 166 RX6 yX6_isHigh wsX6_isHigh) := goodIn_app (goodIn_of _ (by decide +kernel)) ggX6_may_X6_isHigh
theorem dX6_may_0 : decode cX6_may 0 = .ok (.aload_n 0, 1) := by decide +kernel
theorem dX6_may_1 : decode cX6_may 1 = .ok (.iload_n 1, 1) := by decide +kernel
theorem dX6_may_2 : decode cX6_may 2 = .ok (.iload_n 2, 1) := by decide +kernel
theorem dX6_may_3 : decode cX6_may 3 = .ok (.invokevirtual 159, 3) := by decide +kernel
theorem dX6_may_6 : decode cX6_may 6 = .ok (.ifCond .ne 16, 3) := by decide +kernel
theorem dX6_may_9 : decode cX6_may 9 = .ok (.aload_n 0, 1) := by decide +kernel
theorem dX6_may_10 : decode cX6_may 10 = .ok (.iload_n 1, 1) := by decide +kernel
theorem dX6_may_11 : decode cX6_may 11 = .ok (.iload_n 2, 1) := by decide +kernel
theorem dX6_may_12 : decode cX6_may 12 = .ok (.invokevirtual 166, 3) := by decide +kernel
theorem dX6_may_15 : decode cX6_may 15 = .ok (.ifCond .ne 7, 3) := by decide +kernel
theorem dX6_may_18 : decode cX6_may 18 = .ok (.iconst 1, 1) := by decide +kernel
theorem dX6_may_19 : decode cX6_may 19 = .ok (.goto 4, 3) := by decide +kernel
theorem dX6_may_22 : decode cX6_may 22 = .ok (.iconst 0, 1) := by decide +kernel
theorem dX6_may_23 : decode cX6_may 23 = .ok (.ireturn, 1) := by decide +kernel
set_option maxRecDepth 100000 in
theorem ggX6_may__X6_lays : GoodIn wsX6_may_ wsX6_lays := goodIn_g _ [4, 0, 0, 0, 0, 0, 0, 0, 0, 0, 0, 0, 0, 0, 0, 0, 30, 0, 0, 0, 0, 0, 0, 0, 0, 0, 0, 0, 0, 0, 0, 0, 0, 0, 0, 0, 0, 0, 0, 0, 0, 0, 0, 0] [1, 2, 3, 4, 5, 6, 7, 8, 9, 10, 11, 0, 12, 13, 14, 15, 16, 17, 18, 19, 20, 21, 22, 23, 24, 25, 26, 27, 28, 29, 30, 31, 32, 33, 34, 35, 36, 37, 38, 39, 40, 41, 42, 43] rfl (by decide +kernel)
set_option maxRecDepth 100000 in
theorem gX6_may__X6_lays : GoodIn wsX6_may_ (wsV RX6 134 RX6 yX6_lays wsX6_lays) := goodIn_app (goodIn_of _ (by decide +kernel)) ggX6_may__X6_lays
set_option maxRecDepth 100000 in
theorem ggX6_may__X6_isStation : GoodIn wsX6_may_ wsX6_isStation := goodIn_g _ [4, 1, 16, 0, 0, 0, 23, 0, 0, 0, 0, 0, 0, 0, 0, 0, 0, 0, 0, 0, 0, 0, 0, 0, 0, 0, 0, 0, 0, 0, 0, 0, 0, 0] [2, 1, 3, 4, 0, 5, 6, 7, 8, 9, 10, 11, 12, 13, 14, 15, 16, 17, 18, 19, 20, 21, 22, 23, 24, 25, 26, 27, 28, 29, 30, 31, 32, 33] rfl (by decide +kernel)
set_option maxRecDepth 100000 in
theorem gX6_may__X6_isStation : GoodIn wsX6_may_ (wsV RX6 156 RX6 yX6_isStation wsX6_isStation) := goodIn_app (goodIn_of _ (by decide +kernel)) ggX6_may__X6_isStation
set_option maxRecDepth 100000 in
theorem ggX6_may__X6_may : GoodIn wsX6_may_ wsX6_may := goodIn_g _ [4, 2, 0, 0, 20, 0, 0, 0, 0, 0, 0, 0, 0, 0, 0, 0, 0, 0, 0, 0, 0, 0, 0, 0, 0, 0, 0, 0, 0, 0, 0, 0, 0, 0, 0, 0, 0, 0, 0, 0, 0, 0, 0, 0, 0, 0, 0, 0, 0, 0, 0, 0] [4, 5, 6, 7, 0, 8, 3, 9, 10, 11, 12, 2, 13, 14, 15, 16, 17, 18, 19, 1, 20, 21, 22, 23, 24, 25, 26, 27, 28, 29, 30, 31, 32, 33, 34, 35, 36, 37, 38, 39, 40, 41, 42, 43, 44, 45, 46, 47, 48, 49, 50, 51] rfl (by decide +kernel)
set_option maxRecDepth 100000 in
theorem gX6_may__X6_may : GoodIn wsX6_may_ (wsV RX6 188 RX6 yX6_may wsX6_may) := goodIn_app (goodIn_of _ (by decide +kernel)) ggX6_may__X6_may
theorem dX6_may__0 : decode cX6_may_ 0 = .ok (.aload_n 0, 1) := by decide +kernel
theorem dX6_may__1 : decode cX6_may_ 1 = .ok (.invokevirtual 134, 3) := by decide +kernel
theorem dX6_may__4 : decode cX6_may_ 4 = .ok (.aload_n 0, 1) := by decide +kernel
theorem dX6_may__5 : decode cX6_may_ 5 = .ok (.iload_n 1, 1) := by decide +kernel
theorem dX6_may__6 : decode cX6_may_ 6 = .ok (.invokevirtual 156, 3) := by decide +kernel
theorem dX6_may__9 : decode cX6_may_ 9 = .ok (.ifCond .ne 6, 3) := by decide +kernel
theorem dX6_may__12 : decode cX6_may_ 12 = .ok (.bipush (-2), 2) := by decide +kernel
theorem dX6_may__14 : decode cX6_may_ 14 = .ok (.ireturn, 1) := by decide +kernel
theorem dX6_may__15 : decode cX6_may_ 15 = .ok (.sipush 200, 3) := by decide +kernel
theorem dX6_may__18 : decode cX6_may_ 18 = .ok (.istore_n 2, 1) := by decide +kernel
theorem dX6_may__19 : decode cX6_may_ 19 = .ok (.iload_n 2, 1) := by decide +kernel
theorem dX6_may__20 : decode cX6_may_ 20 = .ok (.ifCond .lt 20, 3) := by decide +kernel
theorem dX6_may__23 : decode cX6_may_ 23 = .ok (.aload_n 0, 1) := by decide +kernel
theorem dX6_may__24 : decode cX6_may_ 24 = .ok (.iload_n 1, 1) := by decide +kernel
theorem dX6_may__25 : decode cX6_may_ 25 = .ok (.iload_n 2, 1) := by decide +kernel
theorem dX6_may__26 : decode cX6_may_ 26 = .ok (.invokevirtual 188, 3) := by decide +kernel
theorem dX6_may__29 : decode cX6_may_ 29 = .ok (.ifCond .eq 5, 3) := by decide +kernel
theorem dX6_may__32 : decode cX6_may_ 32 = .ok (.iload_n 2, 1) := by decide +kernel
theorem dX6_may__33 : decode cX6_may_ 33 = .ok (.ireturn, 1) := by decide +kernel
theorem dX6_may__34 : decode cX6_may_ 34 = .ok (.iinc 2 (-5), 3) := by decide +kernel
theorem dX6_may__37 : decode cX6_may_ 37 = .ok (.goto (-18), 3) := by decide +kernel
theorem dX6_may__40 : decode cX6_may_ 40 = .ok (.iconst (-1), 1) := by decide +kernel
theorem dX6_may__41 : decode cX6_may_ 41 = .ok (.ireturn, 1) := by decide +kernel
set_option maxRecDepth 100000 in
theorem ggX6_limit_X6_lays : GoodIn wsX6_limit wsX6_lays := goodIn_g _ [1, 3, 0, 0, 0, 0, 0, 0, 0, 0, 0, 0, 0, 0, 0, 0, 23, 0, 0, 0, 0, 0, 0, 0, 0, 0, 0, 0, 0, 0, 0, 0, 0, 0, 0, 0, 0, 0, 0, 0, 0, 0, 0, 0] [2, 0, 3, 4, 5, 6, 7, 8, 9, 10, 11, 1, 12, 13, 14, 15, 16, 17, 18, 19, 20, 21, 22, 23, 24, 25, 26, 27, 28, 29, 30, 31, 32, 33, 34, 35, 36, 37, 38, 39, 40, 41, 42, 43] rfl (by decide +kernel)
set_option maxRecDepth 100000 in
theorem gX6_limit_X6_lays : GoodIn wsX6_limit (wsV RX6 134 RX6 yX6_lays wsX6_lays) := goodIn_app (goodIn_of _ (by decide +kernel)) ggX6_limit_X6_lays
set_option maxRecDepth 100000 in
theorem ggX6_limit_X6_may : GoodIn wsX6_limit wsX6_may := goodIn_g _ [5, 1, 0, 0, 13, 0, 0, 0, 0, 0, 0, 0, 0, 0, 0, 0, 0, 0, 0, 0, 0, 0, 0, 0, 0, 0, 0, 0, 0, 0, 0, 0, 0, 0, 0, 0, 0, 0, 0, 0, 0, 0, 0, 0, 0, 0, 0, 0, 0, 0, 0, 0] [4, 5, 6, 7, 0, 8, 3, 9, 10, 11, 12, 2, 13, 14, 15, 16, 17, 18, 19, 1, 20, 21, 22, 23, 24, 25, 26, 27, 28, 29, 30, 31, 32, 33, 34, 35, 36, 37, 38, 39, 40, 41, 42, 43, 44, 45, 46, 47, 48, 49, 50, 51] rfl (by decide +kernel)
set_option maxRecDepth 100000 in
theorem gX6_limit_X6_may : GoodIn wsX6_limit (wsV RX6 188 RX6 yX6_may wsX6_may) := goodIn_app (goodIn_of _ (by decide +kernel)) ggX6_limit_X6_may
theorem dX6_limit_0 : decode cX6_limit 0 = .ok (.aload_n 0, 1) := by decide +kernel
theorem dX6_limit_1 : decode cX6_limit 1 = .ok (.invokevirtual 134, 3) := by decide +kernel
theorem dX6_limit_4 : decode cX6_limit 4 = .ok (.sipush 200, 3) := by decide +kernel
theorem dX6_limit_7 : decode cX6_limit 7 = .ok (.istore_n 1, 1) := by decide +kernel
theorem dX6_limit_8 : decode cX6_limit 8 = .ok (.iload_n 1, 1) := by decide +kernel
theorem dX6_limit_9 : decode cX6_limit 9 = .ok (.ifCond .lt 52, 3) := by decide +kernel
theorem dX6_limit_12 : decode cX6_limit 12 = .ok (.iconst 1, 1) := by decide +kernel
theorem dX6_limit_13 : decode cX6_limit 13 = .ok (.istore_n 2, 1) := by decide +kernel
theorem dX6_limit_14 : decode cX6_limit 14 = .ok (.iconst 1, 1) := by decide +kernel
theorem dX6_limit_15 : decode cX6_limit 15 = .ok (.istore_n 3, 1) := by decide +kernel
theorem dX6_limit_16 : decode cX6_limit 16 = .ok (.iload_n 3, 1) := by decide +kernel
theorem dX6_limit_17 : decode cX6_limit 17 = .ok (.aload_n 0, 1) := by decide +kernel
theorem dX6_limit_18 : decode cX6_limit 18 = .ok (.getfield 130, 3) := by decide +kernel
theorem dX6_limit_21 : decode cX6_limit 21 = .ok (.if_icmp .gt 28, 3) := by decide +kernel
theorem dX6_limit_24 : decode cX6_limit 24 = .ok (.iload_n 2, 1) := by decide +kernel
theorem dX6_limit_25 : decode cX6_limit 25 = .ok (.ifCond .eq 16, 3) := by decide +kernel
theorem dX6_limit_28 : decode cX6_limit 28 = .ok (.aload_n 0, 1) := by decide +kernel
theorem dX6_limit_29 : decode cX6_limit 29 = .ok (.iload_n 3, 1) := by decide +kernel
theorem dX6_limit_30 : decode cX6_limit 30 = .ok (.iload_n 1, 1) := by decide +kernel
theorem dX6_limit_31 : decode cX6_limit 31 = .ok (.invokevirtual 188, 3) := by decide +kernel
theorem dX6_limit_34 : decode cX6_limit 34 = .ok (.ifCond .eq 7, 3) := by decide +kernel
theorem dX6_limit_37 : decode cX6_limit 37 = .ok (.iconst 1, 1) := by decide +kernel
theorem dX6_limit_38 : decode cX6_limit 38 = .ok (.goto 4, 3) := by decide +kernel
theorem dX6_limit_41 : decode cX6_limit 41 = .ok (.iconst 0, 1) := by decide +kernel
theorem dX6_limit_42 : decode cX6_limit 42 = .ok (.istore_n 2, 1) := by decide +kernel
theorem dX6_limit_43 : decode cX6_limit 43 = .ok (.iinc 3 1, 3) := by decide +kernel
theorem dX6_limit_46 : decode cX6_limit 46 = .ok (.goto (-30), 3) := by decide +kernel
theorem dX6_limit_49 : decode cX6_limit 49 = .ok (.iload_n 2, 1) := by decide +kernel
theorem dX6_limit_50 : decode cX6_limit 50 = .ok (.ifCond .eq 5, 3) := by decide +kernel
theorem dX6_limit_53 : decode cX6_limit 53 = .ok (.iload_n 1, 1) := by decide +kernel
theorem dX6_limit_54 : decode cX6_limit 54 = .ok (.ireturn, 1) := by decide +kernel
theorem dX6_limit_55 : decode cX6_limit 55 = .ok (.iinc 1 (-5), 3) := by decide +kernel
theorem dX6_limit_58 : decode cX6_limit 58 = .ok (.goto (-50), 3) := by decide +kernel
theorem dX6_limit_61 : decode cX6_limit 61 = .ok (.iconst (-1), 1) := by decide +kernel
theorem dX6_limit_62 : decode cX6_limit 62 = .ok (.ireturn, 1) := by decide +kernel
set_option maxRecDepth 100000 in
theorem ggX6_piecelacks_X6_firstOf : GoodIn wsX6_piecelacks wsX6_firstOf := goodIn_g _ [4, 0, 0, 0, 0, 0, 0, 21, 0, 0, 0, 0, 0, 0, 0, 0, 0, 0, 0, 0, 0, 0, 0, 0, 0, 0, 0, 0, 0, 0, 0, 0, 0, 0, 0] [1, 2, 3, 4, 0, 5, 6, 7, 8, 9, 10, 11, 12, 13, 14, 15, 16, 17, 18, 19, 20, 21, 22, 23, 24, 25, 26, 27, 28, 29, 30, 31, 32, 33, 34] rfl (by decide +kernel)
set_option maxRecDepth 100000 in
theorem gX6_piecelacks_X6_firstOf : GoodIn wsX6_piecelacks (wsV RX6 98 RX6 yX6_firstOf wsX6_firstOf) := goodIn_app (goodIn_of _ (by decide +kernel)) ggX6_piecelacks_X6_firstOf
set_option maxRecDepth 100000 in
theorem ggX6_piecelacks_X6_lastOf : GoodIn wsX6_piecelacks wsX6_lastOf := goodIn_g _ [1, 0, 0, 0, 0, 0, 0, 0, 0, 0, 3, 17, 0, 0, 0, 0, 0, 0, 0, 0, 0, 0, 0, 0, 0, 0, 0, 0, 0, 0, 0, 0, 0, 0, 0, 0, 0, 0, 0] [10, 0, 1, 2, 3, 4, 5, 6, 7, 8, 9, 11, 12, 13, 14, 15, 16, 17, 18, 19, 20, 21, 22, 23, 24, 25, 26, 27, 28, 29, 30, 31, 32, 33, 34, 35, 36, 37, 38] rfl (by decide +kernel)
set_option maxRecDepth 100000 in
theorem gX6_piecelacks_X6_lastOf : GoodIn wsX6_piecelacks (wsV RX6 107 RX6 yX6_lastOf wsX6_lastOf) := goodIn_app (goodIn_of _ (by decide +kernel)) ggX6_piecelacks_X6_lastOf
set_option maxRecDepth 100000 in
theorem ggX6_piecelacks_X6_rule : GoodIn wsX6_piecelacks wsX6_rule := goodIn_g _ [10, 7, 13, 0, 0, 0, 0, 0, 0, 0, 0, 0, 0, 0, 0, 0, 0, 0, 0, 0, 0, 0, 0, 0, 0, 0, 0, 0, 0, 0] [1, 0, 2, 3, 4, 5, 6, 7, 8, 9, 10, 11, 12, 13, 14, 15, 16, 17, 18, 19, 20, 21, 22, 23, 24, 25, 26, 27, 28, 29] rfl (by decide +kernel)
set_option maxRecDepth 100000 in
theorem gX6_piecelacks_X6_rule : GoodIn wsX6_piecelacks (wsV RX6 127 RX6 yX6_rule wsX6_rule) := goodIn_app (goodIn_of _ (by decide +kernel)) ggX6_piecelacks_X6_rule
set_option maxRecDepth 100000 in
theorem ggX6_piecelacks_X6_lacks : GoodIn wsX6_piecelacks wsX6_lacks := goodIn_g _ [4, 5, 4, 0, 0, 0, 3, 0, 0, 0, 0, 0, 0, 0, 0, 0, 0, 0, 0, 0, 0, 0, 0, 0, 0, 0, 0, 0, 0, 0, 0, 0, 0, 0, 0, 0, 0, 0, 0, 0, 0, 0, 0, 0] [6, 7, 8, 9, 10, 0, 11, 12, 13, 14, 15, 2, 3, 4, 5, 1, 16, 17, 18, 19, 20, 21, 22, 23, 24, 25, 26, 27, 28, 29, 30, 31, 32, 33, 34, 35, 36, 37, 38, 39, 40, 41, 42, 43] rfl (by decide +kernel)
set_option maxRecDepth 100000 in
theorem gX6_piecelacks_X6_lacks : GoodIn wsX6_piecelacks (wsV RX6 159 RX6 yX6_lacks wsX6_lacks) := goodIn_app (goodIn_of _ (by decide +kernel)) ggX6_piecelacks_X6_lacks
theorem dX6_piecelacks_0 : decode cX6_piecelacks 0 = .ok (.aload_n 0, 1) := by decide +kernel
theorem dX6_piecelacks_1 : decode cX6_piecelacks 1 = .ok (.iload_n 1, 1) := by decide +kernel
theorem dX6_piecelacks_2 : decode cX6_piecelacks 2 = .ok (.invokevirtual 98, 3) := by decide +kernel
theorem dX6_piecelacks_5 : decode cX6_piecelacks 5 = .ok (.istore_n 2, 1) := by decide +kernel
theorem dX6_piecelacks_6 : decode cX6_piecelacks 6 = .ok (.iload_n 2, 1) := by decide +kernel
theorem dX6_piecelacks_7 : decode cX6_piecelacks 7 = .ok (.aload_n 0, 1) := by decide +kernel
theorem dX6_piecelacks_8 : decode cX6_piecelacks 8 = .ok (.iload_n 1, 1) := by decide +kernel
theorem dX6_piecelacks_9 : decode cX6_piecelacks 9 = .ok (.invokevirtual 107, 3) := by decide +kernel
theorem dX6_piecelacks_12 : decode cX6_piecelacks 12 = .ok (.if_icmp .gt 24, 3) := by decide +kernel
theorem dX6_piecelacks_15 : decode cX6_piecelacks 15 = .ok (.aload_n 0, 1) := by decide +kernel
theorem dX6_piecelacks_16 : decode cX6_piecelacks 16 = .ok (.iload_n 2, 1) := by decide +kernel
theorem dX6_piecelacks_17 : decode cX6_piecelacks 17 = .ok (.aload_n 0, 1) := by decide +kernel
theorem dX6_piecelacks_18 : decode cX6_piecelacks 18 = .ok (.iconst 5, 1) := by decide +kernel
theorem dX6_piecelacks_19 : decode cX6_piecelacks 19 = .ok (.invokevirtual 127, 3) := by decide +kernel
theorem dX6_piecelacks_22 : decode cX6_piecelacks 22 = .ok (.invokevirtual 159, 3) := by decide +kernel
theorem dX6_piecelacks_25 : decode cX6_piecelacks 25 = .ok (.ifCond .eq 5, 3) := by decide +kernel
theorem dX6_piecelacks_28 : decode cX6_piecelacks 28 = .ok (.iconst 1, 1) := by decide +kernel
theorem dX6_piecelacks_29 : decode cX6_piecelacks 29 = .ok (.ireturn, 1) := by decide +kernel
theorem dX6_piecelacks_30 : decode cX6_piecelacks 30 = .ok (.iinc 2 1, 3) := by decide +kernel
theorem dX6_piecelacks_33 : decode cX6_piecelacks 33 = .ok (.goto (-27), 3) := by decide +kernel
theorem dX6_piecelacks_36 : decode cX6_piecelacks 36 = .ok (.iconst 0, 1) := by decide +kernel
theorem dX6_piecelacks_37 : decode cX6_piecelacks 37 = .ok (.ireturn, 1) := by decide +kernel
set_option maxRecDepth 100000 in
theorem ggX6_least_X6_isPiece : GoodIn wsX6_least wsX6_isPiece := goodIn_g _ [1, 3, 0, 0, 0, 0, 44, 0, 0, 0, 0, 0, 0, 0, 0, 0, 0, 0, 0, 0, 0, 0, 0, 0, 0, 0, 0, 0, 0, 0, 0, 0, 0, 0] [2, 0, 3, 4, 1, 5, 6, 7, 8, 9, 10, 11, 12, 13, 14, 15, 16, 17, 18, 19, 20, 21, 22, 23, 24, 25, 26, 27, 28, 29, 30, 31, 32, 33] rfl (by decide +kernel)
set_option maxRecDepth 100000 in
theorem gX6_least_X6_isPiece : GoodIn wsX6_least (wsV RX6 85 RX6 yX6_isPiece wsX6_isPiece) := goodIn_app (goodIn_of _ (by decide +kernel)) ggX6_least_X6_isPiece
set_option maxRecDepth 100000 in
theorem ggX6_least_X6_of0 : GoodIn wsX6_least wsX6_of0 := goodIn_g _ [1, 11, 40, 0, 0, 0, 0, 0, 0, 0, 0, 0, 0, 0, 0, 0, 0, 0, 0, 0, 0, 0, 0, 0, 0, 0, 0, 0, 0, 0] [1, 0, 2, 3, 4, 5, 6, 7, 8, 9, 10, 11, 12, 13, 14, 15, 16, 17, 18, 19, 20, 21, 22, 23, 24, 25, 26, 27, 28, 29] rfl (by decide +kernel)
set_option maxRecDepth 100000 in
theorem gX6_least_X6_of0 : GoodIn wsX6_least (wsV RX6 91 RX6 yX6_of0 wsX6_of0) := goodIn_app (goodIn_of _ (by decide +kernel)) ggX6_least_X6_of0
set_option maxRecDepth 100000 in
theorem ggX6_least_X6_lays : GoodIn wsX6_least wsX6_lays := goodIn_g _ [1, 3, 4, 0, 0, 0, 3, 0, 0, 0, 0, 0, 0, 0, 0, 0, 27, 0, 0, 0, 0, 0, 0, 0, 0, 0, 0, 0, 0, 0, 0, 0, 0, 0, 0, 0, 0, 0, 0, 0, 0, 0, 0, 0] [6, 7, 0, 8, 9, 10, 11, 12, 2, 3, 4, 1, 5, 13, 14, 15, 16, 17, 18, 19, 20, 21, 22, 23, 24, 25, 26, 27, 28, 29, 30, 31, 32, 33, 34, 35, 36, 37, 38, 39, 40, 41, 42, 43] rfl (by decide +kernel)
set_option maxRecDepth 100000 in
theorem gX6_least_X6_lays : GoodIn wsX6_least (wsV RX6 134 RX6 yX6_lays wsX6_lays) := goodIn_app (goodIn_of _ (by decide +kernel)) ggX6_least_X6_lays
set_option maxRecDepth 100000 in
theorem ggX6_least_X6_piecelacks : GoodIn wsX6_least wsX6_piecelacks := goodIn_g _ [1, 3, 4, 0, 0, 0, 5, 0, 9, 0, 0, 0, 0, 0, 0, 0, 0, 0, 0, 0, 0, 0, 0, 0, 0, 0, 0, 0, 0, 0, 0, 0, 0, 0, 0, 0, 0, 0, 0, 0, 0, 0, 0, 0, 0, 0, 0, 0, 0, 0, 0, 0, 0, 0, 0, 0, 0, 0, 0, 0] [8, 9, 10, 11, 1, 12, 2, 3, 4, 5, 0, 13, 14, 15, 16, 17, 18, 19, 20, 21, 22, 23, 24, 7, 25, 26, 27, 28, 6, 29, 30, 31, 32, 33, 34, 35, 36, 37, 38, 39, 40, 41, 42, 43, 44, 45, 46, 47, 48, 49, 50, 51, 52, 53, 54, 55, 56, 57, 58, 59] rfl (by decide +kernel)
set_option maxRecDepth 100000 in
theorem gX6_least_X6_piecelacks : GoodIn wsX6_least (wsV RX6 191 RX6 yX6_piecelacks wsX6_piecelacks) := goodIn_app (goodIn_of _ (by decide +kernel)) ggX6_least_X6_piecelacks
theorem dX6_least_0 : decode cX6_least 0 = .ok (.aload_n 0, 1) := by decide +kernel
theorem dX6_least_1 : decode cX6_least 1 = .ok (.iload_n 1, 1) := by decide +kernel
theorem dX6_least_2 : decode cX6_least 2 = .ok (.invokevirtual 85, 3) := by decide +kernel
theorem dX6_least_5 : decode cX6_least 5 = .ok (.ifCond .ne 6, 3) := by decide +kernel
theorem dX6_least_8 : decode cX6_least 8 = .ok (.bipush (-2), 2) := by decide +kernel
theorem dX6_least_10 : decode cX6_least 10 = .ok (.ireturn, 1) := by decide +kernel
theorem dX6_least_11 : decode cX6_least 11 = .ok (.aload_n 0, 1) := by decide +kernel
theorem dX6_least_12 : decode cX6_least 12 = .ok (.iload_n 1, 1) := by decide +kernel
theorem dX6_least_13 : decode cX6_least 13 = .ok (.iconst 3, 1) := by decide +kernel
theorem dX6_least_14 : decode cX6_least 14 = .ok (.invokevirtual 91, 3) := by decide +kernel
theorem dX6_least_17 : decode cX6_least 17 = .ok (.istore_n 2, 1) := by decide +kernel
theorem dX6_least_18 : decode cX6_least 18 = .ok (.iconst (-1), 1) := by decide +kernel
theorem dX6_least_19 : decode cX6_least 19 = .ok (.istore_n 3, 1) := by decide +kernel
theorem dX6_least_20 : decode cX6_least 20 = .ok (.iconst 0, 1) := by decide +kernel
theorem dX6_least_21 : decode cX6_least 21 = .ok (.istore 4, 2) := by decide +kernel
theorem dX6_least_23 : decode cX6_least 23 = .ok (.iload 4, 2) := by decide +kernel
theorem dX6_least_25 : decode cX6_least 25 = .ok (.sipush 160, 3) := by decide +kernel
theorem dX6_least_28 : decode cX6_least 28 = .ok (.if_icmp .gt 44, 3) := by decide +kernel
theorem dX6_least_31 : decode cX6_least 31 = .ok (.iload_n 3, 1) := by decide +kernel
theorem dX6_least_32 : decode cX6_least 32 = .ok (.ifCond .ge 40, 3) := by decide +kernel
theorem dX6_least_35 : decode cX6_least 35 = .ok (.aload_n 0, 1) := by decide +kernel
theorem dX6_least_36 : decode cX6_least 36 = .ok (.getfield 11, 3) := by decide +kernel
theorem dX6_least_39 : decode cX6_least 39 = .ok (.iconst 4, 1) := by decide +kernel
theorem dX6_least_40 : decode cX6_least 40 = .ok (.iload_n 1, 1) := by decide +kernel
theorem dX6_least_41 : decode cX6_least 41 = .ok (.imul, 1) := by decide +kernel
theorem dX6_least_42 : decode cX6_least 42 = .ok (.iconst 3, 1) := by decide +kernel
theorem dX6_least_43 : decode cX6_least 43 = .ok (.iadd, 1) := by decide +kernel
theorem dX6_least_44 : decode cX6_least 44 = .ok (.iload 4, 2) := by decide +kernel
theorem dX6_least_46 : decode cX6_least 46 = .ok (.iastore, 1) := by decide +kernel
theorem dX6_least_47 : decode cX6_least 47 = .ok (.aload_n 0, 1) := by decide +kernel
theorem dX6_least_48 : decode cX6_least 48 = .ok (.invokevirtual 134, 3) := by decide +kernel
theorem dX6_least_51 : decode cX6_least 51 = .ok (.aload_n 0, 1) := by decide +kernel
theorem dX6_least_52 : decode cX6_least 52 = .ok (.iload_n 1, 1) := by decide +kernel
theorem dX6_least_53 : decode cX6_least 53 = .ok (.invokevirtual 191, 3) := by decide +kernel
theorem dX6_least_56 : decode cX6_least 56 = .ok (.ifCond .eq 7, 3) := by decide +kernel
theorem dX6_least_59 : decode cX6_least 59 = .ok (.iconst (-1), 1) := by decide +kernel
theorem dX6_least_60 : decode cX6_least 60 = .ok (.goto 5, 3) := by decide +kernel
theorem dX6_least_63 : decode cX6_least 63 = .ok (.iload 4, 2) := by decide +kernel
theorem dX6_least_65 : decode cX6_least 65 = .ok (.istore_n 3, 1) := by decide +kernel
theorem dX6_least_66 : decode cX6_least 66 = .ok (.iinc 4 1, 3) := by decide +kernel
theorem dX6_least_69 : decode cX6_least 69 = .ok (.goto (-46), 3) := by decide +kernel
theorem dX6_least_72 : decode cX6_least 72 = .ok (.aload_n 0, 1) := by decide +kernel
theorem dX6_least_73 : decode cX6_least 73 = .ok (.getfield 11, 3) := by decide +kernel
theorem dX6_least_76 : decode cX6_least 76 = .ok (.iconst 4, 1) := by decide +kernel
theorem dX6_least_77 : decode cX6_least 77 = .ok (.iload_n 1, 1) := by decide +kernel
theorem dX6_least_78 : decode cX6_least 78 = .ok (.imul, 1) := by decide +kernel
theorem dX6_least_79 : decode cX6_least 79 = .ok (.iconst 3, 1) := by decide +kernel
theorem dX6_least_80 : decode cX6_least 80 = .ok (.iadd, 1) := by decide +kernel
theorem dX6_least_81 : decode cX6_least 81 = .ok (.iload_n 2, 1) := by decide +kernel
theorem dX6_least_82 : decode cX6_least 82 = .ok (.iastore, 1) := by decide +kernel
theorem dX6_least_83 : decode cX6_least 83 = .ok (.iload_n 3, 1) := by decide +kernel
theorem dX6_least_84 : decode cX6_least 84 = .ok (.ireturn, 1) := by decide +kernel
set_option maxRecDepth 100000 in
theorem ggX6_miss_X6_in : GoodIn wsX6_miss wsX6_in := goodIn_g _ [8] [0] rfl (by decide +kernel)
set_option maxRecDepth 100000 in
theorem gX6_miss_X6_in : GoodIn wsX6_miss (va_wsS RX6 67 yX6_in wsX6_in) := goodIn_app (goodIn_of _ (by decide +kernel)) ggX6_miss_X6_in
set_option maxRecDepth 100000 in
theorem ggX6_miss_X6_lays : GoodIn wsX6_miss wsX6_lays := goodIn_g _ [2, 0, 0, 2, 4, 0, 0, 0, 0, 0, 0, 0, 0, 0, 0, 0, 4, 0, 0, 0, 0, 0, 0, 0, 0, 0, 0, 0, 0, 0, 0, 0, 0, 0, 0, 0, 0, 0, 0, 0, 0, 0, 0, 0] [4, 1, 5, 6, 7, 8, 2, 0, 9, 10, 11, 3, 12, 13, 14, 15, 16, 17, 18, 19, 20, 21, 22, 23, 24, 25, 26, 27, 28, 29, 30, 31, 32, 33, 34, 35, 36, 37, 38, 39, 40, 41, 42, 43] rfl (by decide +kernel)
set_option maxRecDepth 100000 in
theorem gX6_miss_X6_lays : GoodIn wsX6_miss (wsV RX6 134 RX6 yX6_lays wsX6_lays) := goodIn_app (goodIn_of _ (by decide +kernel)) ggX6_miss_X6_lays
set_option maxRecDepth 100000 in
theorem ggX6_miss_X6_rule : GoodIn wsX6_miss wsX6_rule := goodIn_g _ [13, 13, 0, 0, 0, 0, 0, 0, 0, 0, 0, 0, 0, 0, 0, 0, 0, 0, 0, 0, 0, 0, 0, 0, 0, 0, 0, 0, 0, 0] [1, 0, 2, 3, 4, 5, 6, 7, 8, 9, 10, 11, 12, 13, 14, 15, 16, 17, 18, 19, 20, 21, 22, 23, 24, 25, 26, 27, 28, 29] rfl (by decide +kernel)
set_option maxRecDepth 100000 in
theorem gX6_miss_X6_rule : GoodIn wsX6_miss (wsV RX6 127 RX6 yX6_rule wsX6_rule) := goodIn_app (goodIn_of _ (by decide +kernel)) ggX6_miss_X6_rule
theorem dX6_miss_0 : decode cX6_miss 0 = .ok (.iload_n 1, 1) := by decide +kernel
theorem dX6_miss_1 : decode cX6_miss 1 = .ok (.i2l, 1) := by decide +kernel
theorem dX6_miss_2 : decode cX6_miss 2 = .ok (.lconst 0, 1) := by decide +kernel
theorem dX6_miss_3 : decode cX6_miss 3 = .ok (.lconst 1, 1) := by decide +kernel
theorem dX6_miss_4 : decode cX6_miss 4 = .ok (.invokestatic 67, 3) := by decide +kernel
theorem dX6_miss_7 : decode cX6_miss 7 = .ok (.ifCond .ne 7, 3) := by decide +kernel
theorem dX6_miss_10 : decode cX6_miss 10 = .ok (.ldc2_w 125, 3) := by decide +kernel
theorem dX6_miss_13 : decode cX6_miss 13 = .ok (.lreturn, 1) := by decide +kernel
theorem dX6_miss_14 : decode cX6_miss 14 = .ok (.aload_n 0, 1) := by decide +kernel
theorem dX6_miss_15 : decode cX6_miss 15 = .ok (.invokevirtual 134, 3) := by decide +kernel
theorem dX6_miss_18 : decode cX6_miss 18 = .ok (.iload_n 1, 1) := by decide +kernel
theorem dX6_miss_19 : decode cX6_miss 19 = .ok (.ifCond .ne 23, 3) := by decide +kernel
theorem dX6_miss_22 : decode cX6_miss 22 = .ok (.aload_n 0, 1) := by decide +kernel
theorem dX6_miss_23 : decode cX6_miss 23 = .ok (.getfield 30, 3) := by decide +kernel
theorem dX6_miss_26 : decode cX6_miss 26 = .ok (.aload_n 0, 1) := by decide +kernel
theorem dX6_miss_27 : decode cX6_miss 27 = .ok (.getfield 130, 3) := by decide +kernel
theorem dX6_miss_30 : decode cX6_miss 30 = .ok (.iaload, 1) := by decide +kernel
theorem dX6_miss_31 : decode cX6_miss 31 = .ok (.aload_n 0, 1) := by decide +kernel
theorem dX6_miss_32 : decode cX6_miss 32 = .ok (.bipush 6, 2) := by decide +kernel
theorem dX6_miss_34 : decode cX6_miss 34 = .ok (.invokevirtual 127, 3) := by decide +kernel
theorem dX6_miss_37 : decode cX6_miss 37 = .ok (.isub, 1) := by decide +kernel
theorem dX6_miss_38 : decode cX6_miss 38 = .ok (.i2l, 1) := by decide +kernel
theorem dX6_miss_39 : decode cX6_miss 39 = .ok (.goto 20, 3) := by decide +kernel
theorem dX6_miss_42 : decode cX6_miss 42 = .ok (.aload_n 0, 1) := by decide +kernel
theorem dX6_miss_43 : decode cX6_miss 43 = .ok (.getfield 27, 3) := by decide +kernel
theorem dX6_miss_46 : decode cX6_miss 46 = .ok (.aload_n 0, 1) := by decide +kernel
theorem dX6_miss_47 : decode cX6_miss 47 = .ok (.getfield 130, 3) := by decide +kernel
theorem dX6_miss_50 : decode cX6_miss 50 = .ok (.iaload, 1) := by decide +kernel
theorem dX6_miss_51 : decode cX6_miss 51 = .ok (.aload_n 0, 1) := by decide +kernel
theorem dX6_miss_52 : decode cX6_miss 52 = .ok (.bipush 7, 2) := by decide +kernel
theorem dX6_miss_54 : decode cX6_miss 54 = .ok (.invokevirtual 127, 3) := by decide +kernel
theorem dX6_miss_57 : decode cX6_miss 57 = .ok (.isub, 1) := by decide +kernel
theorem dX6_miss_58 : decode cX6_miss 58 = .ok (.i2l, 1) := by decide +kernel
theorem dX6_miss_59 : decode cX6_miss 59 = .ok (.lreturn, 1) := by decide +kernel
set_option maxRecDepth 100000 in
theorem ggX6_doMeet_X6_lays : GoodIn wsX6_doMeet wsX6_lays := goodIn_g _ [1, 0, 0, 3, 0, 0, 0, 0, 0, 0, 0, 0, 0, 0, 0, 0, 4, 0, 0, 0, 0, 0, 0, 0, 0, 0, 0, 0, 0, 0, 0, 0, 0, 0, 0, 0, 0, 0, 0, 0, 0, 0, 0, 0] [4, 1, 5, 6, 7, 8, 2, 0, 9, 10, 11, 3, 12, 13, 14, 15, 16, 17, 18, 19, 20, 21, 22, 23, 24, 25, 26, 27, 28, 29, 30, 31, 32, 33, 34, 35, 36, 37, 38, 39, 40, 41, 42, 43] rfl (by decide +kernel)
set_option maxRecDepth 100000 in
theorem gX6_doMeet_X6_lays : GoodIn wsX6_doMeet (wsV RX6 134 RX6 yX6_lays wsX6_lays) := goodIn_app (goodIn_of _ (by decide +kernel)) ggX6_doMeet_X6_lays
set_option maxRecDepth 100000 in
theorem ggX6_doMeet_X6_rule : GoodIn wsX6_doMeet wsX6_rule := goodIn_g _ [9, 13, 0, 0, 0, 0, 0, 0, 0, 0, 0, 0, 0, 0, 0, 0, 0, 0, 0, 0, 0, 0, 0, 0, 0, 0, 0, 0, 0, 0] [1, 0, 2, 3, 4, 5, 6, 7, 8, 9, 10, 11, 12, 13, 14, 15, 16, 17, 18, 19, 20, 21, 22, 23, 24, 25, 26, 27, 28, 29] rfl (by decide +kernel)
set_option maxRecDepth 100000 in
theorem gX6_doMeet_X6_rule : GoodIn wsX6_doMeet (wsV RX6 127 RX6 yX6_rule wsX6_rule) := goodIn_app (goodIn_of _ (by decide +kernel)) ggX6_doMeet_X6_rule
theorem dX6_doMeet_0 : decode cX6_doMeet 0 = .ok (.aload_n 0, 1) := by decide +kernel
theorem dX6_doMeet_1 : decode cX6_doMeet 1 = .ok (.invokevirtual 134, 3) := by decide +kernel
theorem dX6_doMeet_4 : decode cX6_doMeet 4 = .ok (.aload_n 0, 1) := by decide +kernel
theorem dX6_doMeet_5 : decode cX6_doMeet 5 = .ok (.getfield 30, 3) := by decide +kernel
theorem dX6_doMeet_8 : decode cX6_doMeet 8 = .ok (.aload_n 0, 1) := by decide +kernel
theorem dX6_doMeet_9 : decode cX6_doMeet 9 = .ok (.getfield 130, 3) := by decide +kernel
theorem dX6_doMeet_12 : decode cX6_doMeet 12 = .ok (.iaload, 1) := by decide +kernel
theorem dX6_doMeet_13 : decode cX6_doMeet 13 = .ok (.aload_n 0, 1) := by decide +kernel
theorem dX6_doMeet_14 : decode cX6_doMeet 14 = .ok (.bipush 6, 2) := by decide +kernel
theorem dX6_doMeet_16 : decode cX6_doMeet 16 = .ok (.invokevirtual 127, 3) := by decide +kernel
theorem dX6_doMeet_19 : decode cX6_doMeet 19 = .ok (.if_icmp .ne 25, 3) := by decide +kernel
theorem dX6_doMeet_22 : decode cX6_doMeet 22 = .ok (.aload_n 0, 1) := by decide +kernel
theorem dX6_doMeet_23 : decode cX6_doMeet 23 = .ok (.getfield 27, 3) := by decide +kernel
theorem dX6_doMeet_26 : decode cX6_doMeet 26 = .ok (.aload_n 0, 1) := by decide +kernel
theorem dX6_doMeet_27 : decode cX6_doMeet 27 = .ok (.getfield 130, 3) := by decide +kernel
theorem dX6_doMeet_30 : decode cX6_doMeet 30 = .ok (.iaload, 1) := by decide +kernel
theorem dX6_doMeet_31 : decode cX6_doMeet 31 = .ok (.aload_n 0, 1) := by decide +kernel
theorem dX6_doMeet_32 : decode cX6_doMeet 32 = .ok (.bipush 7, 2) := by decide +kernel
theorem dX6_doMeet_34 : decode cX6_doMeet 34 = .ok (.invokevirtual 127, 3) := by decide +kernel
theorem dX6_doMeet_37 : decode cX6_doMeet 37 = .ok (.if_icmp .ne 7, 3) := by decide +kernel
theorem dX6_doMeet_40 : decode cX6_doMeet 40 = .ok (.iconst 1, 1) := by decide +kernel
theorem dX6_doMeet_41 : decode cX6_doMeet 41 = .ok (.goto 4, 3) := by decide +kernel
theorem dX6_doMeet_44 : decode cX6_doMeet 44 = .ok (.iconst 0, 1) := by decide +kernel
theorem dX6_doMeet_45 : decode cX6_doMeet 45 = .ok (.ireturn, 1) := by decide +kernel
set_option maxRecDepth 100000 in
theorem ggX6_meets_X6_isPiece : GoodIn wsX6_meets wsX6_isPiece := goodIn_g _ [1, 3, 0, 0, 0, 0, 25, 0, 0, 0, 0, 0, 0, 0, 0, 0, 0, 0, 0, 0, 0, 0, 0, 0, 0, 0, 0, 0, 0, 0, 0, 0, 0, 0] [2, 0, 3, 4, 1, 5, 6, 7, 8, 9, 10, 11, 12, 13, 14, 15, 16, 17, 18, 19, 20, 21, 22, 23, 24, 25, 26, 27, 28, 29, 30, 31, 32, 33] rfl (by decide +kernel)
set_option maxRecDepth 100000 in
theorem gX6_meets_X6_isPiece : GoodIn wsX6_meets (wsV RX6 85 RX6 yX6_isPiece wsX6_isPiece) := goodIn_app (goodIn_of _ (by decide +kernel)) ggX6_meets_X6_isPiece
set_option maxRecDepth 100000 in
theorem ggX6_meets_X6_of0 : GoodIn wsX6_meets wsX6_of0 := goodIn_g _ [1, 11, 21, 0, 0, 0, 0, 0, 0, 0, 0, 0, 0, 0, 0, 0, 0, 0, 0, 0, 0, 0, 0, 0, 0, 0, 0, 0, 0, 0] [1, 0, 2, 3, 4, 5, 6, 7, 8, 9, 10, 11, 12, 13, 14, 15, 16, 17, 18, 19, 20, 21, 22, 23, 24, 25, 26, 27, 28, 29] rfl (by decide +kernel)
set_option maxRecDepth 100000 in
theorem gX6_meets_X6_of0 : GoodIn wsX6_meets (wsV RX6 91 RX6 yX6_of0 wsX6_of0) := goodIn_app (goodIn_of _ (by decide +kernel)) ggX6_meets_X6_of0
set_option maxRecDepth 100000 in
theorem ggX6_meets_X6_doMeet : GoodIn wsX6_meets wsX6_doMeet := goodIn_g _ [1, 3, 4, 0, 0, 0, 3, 0, 0, 0, 0, 0, 0, 0, 0, 0, 0, 0, 0, 0, 0, 0, 0, 0, 0, 0, 0, 0, 0, 0, 0, 0, 0, 0, 0, 0, 0, 0, 0, 0, 0, 0, 0, 0, 0, 0, 0, 0, 0, 0, 0, 0] [6, 7, 8, 9, 10, 11, 12, 1, 13, 0, 14, 15, 16, 2, 3, 4, 5, 17, 18, 19, 20, 21, 22, 23, 24, 25, 26, 27, 28, 29, 30, 31, 32, 33, 34, 35, 36, 37, 38, 39, 40, 41, 42, 43, 44, 45, 46, 47, 48, 49, 50, 51] rfl (by decide +kernel)
set_option maxRecDepth 100000 in
theorem gX6_meets_X6_doMeet : GoodIn wsX6_meets (wsV RX6 194 RX6 yX6_doMeet wsX6_doMeet) := goodIn_app (goodIn_of _ (by decide +kernel)) ggX6_meets_X6_doMeet
theorem dX6_meets_0 : decode cX6_meets 0 = .ok (.aload_n 0, 1) := by decide +kernel
theorem dX6_meets_1 : decode cX6_meets 1 = .ok (.iload_n 1, 1) := by decide +kernel
theorem dX6_meets_2 : decode cX6_meets 2 = .ok (.invokevirtual 85, 3) := by decide +kernel
theorem dX6_meets_5 : decode cX6_meets 5 = .ok (.ifCond .ne 6, 3) := by decide +kernel
theorem dX6_meets_8 : decode cX6_meets 8 = .ok (.bipush (-2), 2) := by decide +kernel
theorem dX6_meets_10 : decode cX6_meets 10 = .ok (.ireturn, 1) := by decide +kernel
theorem dX6_meets_11 : decode cX6_meets 11 = .ok (.aload_n 0, 1) := by decide +kernel
theorem dX6_meets_12 : decode cX6_meets 12 = .ok (.iload_n 1, 1) := by decide +kernel
theorem dX6_meets_13 : decode cX6_meets 13 = .ok (.iconst 2, 1) := by decide +kernel
theorem dX6_meets_14 : decode cX6_meets 14 = .ok (.invokevirtual 91, 3) := by decide +kernel
theorem dX6_meets_17 : decode cX6_meets 17 = .ok (.istore_n 2, 1) := by decide +kernel
theorem dX6_meets_18 : decode cX6_meets 18 = .ok (.iconst (-1), 1) := by decide +kernel
theorem dX6_meets_19 : decode cX6_meets 19 = .ok (.istore_n 3, 1) := by decide +kernel
theorem dX6_meets_20 : decode cX6_meets 20 = .ok (.iconst 0, 1) := by decide +kernel
theorem dX6_meets_21 : decode cX6_meets 21 = .ok (.istore 4, 2) := by decide +kernel
theorem dX6_meets_23 : decode cX6_meets 23 = .ok (.iload 4, 2) := by decide +kernel
theorem dX6_meets_25 : decode cX6_meets 25 = .ok (.sipush 199, 3) := by decide +kernel
theorem dX6_meets_28 : decode cX6_meets 28 = .ok (.if_icmp .ge 67, 3) := by decide +kernel
theorem dX6_meets_31 : decode cX6_meets 31 = .ok (.iload_n 3, 1) := by decide +kernel
theorem dX6_meets_32 : decode cX6_meets 32 = .ok (.ifCond .ge 63, 3) := by decide +kernel
theorem dX6_meets_35 : decode cX6_meets 35 = .ok (.iload 4, 2) := by decide +kernel
theorem dX6_meets_37 : decode cX6_meets 37 = .ok (.iconst 2, 1) := by decide +kernel
theorem dX6_meets_38 : decode cX6_meets 38 = .ok (.irem, 1) := by decide +kernel
theorem dX6_meets_39 : decode cX6_meets 39 = .ok (.iconst 1, 1) := by decide +kernel
theorem dX6_meets_40 : decode cX6_meets 40 = .ok (.if_icmp .ne 12, 3) := by decide +kernel
theorem dX6_meets_43 : decode cX6_meets 43 = .ok (.iload 4, 2) := by decide +kernel
theorem dX6_meets_45 : decode cX6_meets 45 = .ok (.iconst 1, 1) := by decide +kernel
theorem dX6_meets_46 : decode cX6_meets 46 = .ok (.iadd, 1) := by decide +kernel
theorem dX6_meets_47 : decode cX6_meets 47 = .ok (.iconst 2, 1) := by decide +kernel
theorem dX6_meets_48 : decode cX6_meets 48 = .ok (.idiv, 1) := by decide +kernel
theorem dX6_meets_49 : decode cX6_meets 49 = .ok (.goto 8, 3) := by decide +kernel
theorem dX6_meets_52 : decode cX6_meets 52 = .ok (.iload 4, 2) := by decide +kernel
theorem dX6_meets_54 : decode cX6_meets 54 = .ok (.ineg, 1) := by decide +kernel
theorem dX6_meets_55 : decode cX6_meets 55 = .ok (.iconst 2, 1) := by decide +kernel
theorem dX6_meets_56 : decode cX6_meets 56 = .ok (.idiv, 1) := by decide +kernel
theorem dX6_meets_57 : decode cX6_meets 57 = .ok (.istore 5, 2) := by decide +kernel
theorem dX6_meets_59 : decode cX6_meets 59 = .ok (.aload_n 0, 1) := by decide +kernel
theorem dX6_meets_60 : decode cX6_meets 60 = .ok (.getfield 11, 3) := by decide +kernel
theorem dX6_meets_63 : decode cX6_meets 63 = .ok (.iconst 4, 1) := by decide +kernel
theorem dX6_meets_64 : decode cX6_meets 64 = .ok (.iload_n 1, 1) := by decide +kernel
theorem dX6_meets_65 : decode cX6_meets 65 = .ok (.imul, 1) := by decide +kernel
theorem dX6_meets_66 : decode cX6_meets 66 = .ok (.iconst 2, 1) := by decide +kernel
theorem dX6_meets_67 : decode cX6_meets 67 = .ok (.iadd, 1) := by decide +kernel
theorem dX6_meets_68 : decode cX6_meets 68 = .ok (.iload 5, 2) := by decide +kernel
theorem dX6_meets_70 : decode cX6_meets 70 = .ok (.iastore, 1) := by decide +kernel
theorem dX6_meets_71 : decode cX6_meets 71 = .ok (.aload_n 0, 1) := by decide +kernel
theorem dX6_meets_72 : decode cX6_meets 72 = .ok (.invokevirtual 194, 3) := by decide +kernel
theorem dX6_meets_75 : decode cX6_meets 75 = .ok (.ifCond .eq 12, 3) := by decide +kernel
theorem dX6_meets_78 : decode cX6_meets 78 = .ok (.sipush 1000, 3) := by decide +kernel
theorem dX6_meets_81 : decode cX6_meets 81 = .ok (.iload 5, 2) := by decide +kernel
theorem dX6_meets_83 : decode cX6_meets 83 = .ok (.iadd, 1) := by decide +kernel
theorem dX6_meets_84 : decode cX6_meets 84 = .ok (.goto 4, 3) := by decide +kernel
theorem dX6_meets_87 : decode cX6_meets 87 = .ok (.iconst (-1), 1) := by decide +kernel
theorem dX6_meets_88 : decode cX6_meets 88 = .ok (.istore_n 3, 1) := by decide +kernel
theorem dX6_meets_89 : decode cX6_meets 89 = .ok (.iinc 4 1, 3) := by decide +kernel
theorem dX6_meets_92 : decode cX6_meets 92 = .ok (.goto (-69), 3) := by decide +kernel
theorem dX6_meets_95 : decode cX6_meets 95 = .ok (.aload_n 0, 1) := by decide +kernel
theorem dX6_meets_96 : decode cX6_meets 96 = .ok (.getfield 11, 3) := by decide +kernel
theorem dX6_meets_99 : decode cX6_meets 99 = .ok (.iconst 4, 1) := by decide +kernel
theorem dX6_meets_100 : decode cX6_meets 100 = .ok (.iload_n 1, 1) := by decide +kernel
theorem dX6_meets_101 : decode cX6_meets 101 = .ok (.imul, 1) := by decide +kernel
theorem dX6_meets_102 : decode cX6_meets 102 = .ok (.iconst 2, 1) := by decide +kernel
theorem dX6_meets_103 : decode cX6_meets 103 = .ok (.iadd, 1) := by decide +kernel
theorem dX6_meets_104 : decode cX6_meets 104 = .ok (.iload_n 2, 1) := by decide +kernel
theorem dX6_meets_105 : decode cX6_meets 105 = .ok (.iastore, 1) := by decide +kernel
theorem dX6_meets_106 : decode cX6_meets 106 = .ok (.iload_n 3, 1) := by decide +kernel
theorem dX6_meets_107 : decode cX6_meets 107 = .ok (.ireturn, 1) := by decide +kernel
set_option maxRecDepth 100000 in
theorem ggX6_both_X6_isPiece : GoodIn wsX6_both wsX6_isPiece := goodIn_g _ [1, 3, 0, 0, 0, 0, 25, 0, 0, 0, 0, 0, 0, 0, 0, 0, 0, 0, 0, 0, 0, 0, 0, 0, 0, 0, 0, 0, 0, 0, 0, 0, 0, 0] [2, 0, 3, 4, 1, 5, 6, 7, 8, 9, 10, 11, 12, 13, 14, 15, 16, 17, 18, 19, 20, 21, 22, 23, 24, 25, 26, 27, 28, 29, 30, 31, 32, 33] rfl (by decide +kernel)
set_option maxRecDepth 100000 in
theorem gX6_both_X6_isPiece : GoodIn wsX6_both (wsV RX6 85 RX6 yX6_isPiece wsX6_isPiece) := goodIn_app (goodIn_of _ (by decide +kernel)) ggX6_both_X6_isPiece
set_option maxRecDepth 100000 in
theorem ggX6_both_X6_of0 : GoodIn wsX6_both wsX6_of0 := goodIn_g _ [1, 11, 21, 0, 0, 0, 0, 0, 0, 0, 0, 0, 0, 0, 0, 0, 0, 0, 0, 0, 0, 0, 0, 0, 0, 0, 0, 0, 0, 0] [1, 0, 2, 3, 4, 5, 6, 7, 8, 9, 10, 11, 12, 13, 14, 15, 16, 17, 18, 19, 20, 21, 22, 23, 24, 25, 26, 27, 28, 29] rfl (by decide +kernel)
set_option maxRecDepth 100000 in
theorem gX6_both_X6_of0 : GoodIn wsX6_both (wsV RX6 91 RX6 yX6_of0 wsX6_of0) := goodIn_app (goodIn_of _ (by decide +kernel)) ggX6_both_X6_of0
set_option maxRecDepth 100000 in
theorem ggX6_both_X6_doMeet : GoodIn wsX6_both wsX6_doMeet := goodIn_g _ [1, 3, 4, 0, 0, 0, 3, 0, 0, 0, 0, 0, 0, 0, 0, 0, 0, 0, 0, 0, 0, 0, 0, 0, 0, 0, 0, 0, 0, 0, 0, 0, 0, 0, 0, 0, 0, 0, 0, 0, 0, 0, 0, 0, 0, 0, 0, 0, 0, 0, 0, 0] [6, 7, 8, 9, 10, 11, 12, 1, 13, 0, 14, 15, 16, 2, 3, 4, 5, 17, 18, 19, 20, 21, 22, 23, 24, 25, 26, 27, 28, 29, 30, 31, 32, 33, 34, 35, 36, 37, 38, 39, 40, 41, 42, 43, 44, 45, 46, 47, 48, 49, 50, 51] rfl (by decide +kernel)
set_option maxRecDepth 100000 in
theorem gX6_both_X6_doMeet : GoodIn wsX6_both (wsV RX6 194 RX6 yX6_doMeet wsX6_doMeet) := goodIn_app (goodIn_of _ (by decide +kernel)) ggX6_both_X6_doMeet
theorem dX6_both_0 : decode cX6_both 0 = .ok (.aload_n 0, 1) := by decide +kernel
theorem dX6_both_1 : decode cX6_both 1 = .ok (.iload_n 1, 1) := by decide +kernel
theorem dX6_both_2 : decode cX6_both 2 = .ok (.invokevirtual 85, 3) := by decide +kernel
theorem dX6_both_5 : decode cX6_both 5 = .ok (.ifCond .eq 16, 3) := by decide +kernel
theorem dX6_both_8 : decode cX6_both 8 = .ok (.aload_n 0, 1) := by decide +kernel
theorem dX6_both_9 : decode cX6_both 9 = .ok (.iload_n 2, 1) := by decide +kernel
theorem dX6_both_10 : decode cX6_both 10 = .ok (.invokevirtual 85, 3) := by decide +kernel
theorem dX6_both_13 : decode cX6_both 13 = .ok (.ifCond .eq 8, 3) := by decide +kernel
theorem dX6_both_16 : decode cX6_both 16 = .ok (.iload_n 1, 1) := by decide +kernel
theorem dX6_both_17 : decode cX6_both 17 = .ok (.iload_n 2, 1) := by decide +kernel
theorem dX6_both_18 : decode cX6_both 18 = .ok (.if_icmp .ne 6, 3) := by decide +kernel
theorem dX6_both_21 : decode cX6_both 21 = .ok (.bipush (-2), 2) := by decide +kernel
theorem dX6_both_23 : decode cX6_both 23 = .ok (.ireturn, 1) := by decide +kernel
theorem dX6_both_24 : decode cX6_both 24 = .ok (.aload_n 0, 1) := by decide +kernel
theorem dX6_both_25 : decode cX6_both 25 = .ok (.iload_n 1, 1) := by decide +kernel
theorem dX6_both_26 : decode cX6_both 26 = .ok (.iconst 2, 1) := by decide +kernel
theorem dX6_both_27 : decode cX6_both 27 = .ok (.invokevirtual 91, 3) := by decide +kernel
theorem dX6_both_30 : decode cX6_both 30 = .ok (.istore_n 3, 1) := by decide +kernel
theorem dX6_both_31 : decode cX6_both 31 = .ok (.aload_n 0, 1) := by decide +kernel
theorem dX6_both_32 : decode cX6_both 32 = .ok (.iload_n 2, 1) := by decide +kernel
theorem dX6_both_33 : decode cX6_both 33 = .ok (.iconst 2, 1) := by decide +kernel
theorem dX6_both_34 : decode cX6_both 34 = .ok (.invokevirtual 91, 3) := by decide +kernel
theorem dX6_both_37 : decode cX6_both 37 = .ok (.istore 4, 2) := by decide +kernel
theorem dX6_both_39 : decode cX6_both 39 = .ok (.iconst (-1), 1) := by decide +kernel
theorem dX6_both_40 : decode cX6_both 40 = .ok (.istore 5, 2) := by decide +kernel
theorem dX6_both_42 : decode cX6_both 42 = .ok (.iconst 0, 1) := by decide +kernel
theorem dX6_both_43 : decode cX6_both 43 = .ok (.istore 6, 2) := by decide +kernel
theorem dX6_both_45 : decode cX6_both 45 = .ok (.iload 6, 2) := by decide +kernel
theorem dX6_both_47 : decode cX6_both 47 = .ok (.sipush 3721, 3) := by decide +kernel
theorem dX6_both_50 : decode cX6_both 50 = .ok (.if_icmp .ge 65, 3) := by decide +kernel
theorem dX6_both_53 : decode cX6_both 53 = .ok (.iload 5, 2) := by decide +kernel
theorem dX6_both_55 : decode cX6_both 55 = .ok (.ifCond .ge 60, 3) := by decide +kernel
theorem dX6_both_58 : decode cX6_both 58 = .ok (.aload_n 0, 1) := by decide +kernel
theorem dX6_both_59 : decode cX6_both 59 = .ok (.getfield 11, 3) := by decide +kernel
theorem dX6_both_62 : decode cX6_both 62 = .ok (.iconst 4, 1) := by decide +kernel
theorem dX6_both_63 : decode cX6_both 63 = .ok (.iload_n 1, 1) := by decide +kernel
theorem dX6_both_64 : decode cX6_both 64 = .ok (.imul, 1) := by decide +kernel
theorem dX6_both_65 : decode cX6_both 65 = .ok (.iconst 2, 1) := by decide +kernel
theorem dX6_both_66 : decode cX6_both 66 = .ok (.iadd, 1) := by decide +kernel
theorem dX6_both_67 : decode cX6_both 67 = .ok (.iload 6, 2) := by decide +kernel
theorem dX6_both_69 : decode cX6_both 69 = .ok (.bipush 61, 2) := by decide +kernel
theorem dX6_both_71 : decode cX6_both 71 = .ok (.idiv, 1) := by decide +kernel
theorem dX6_both_72 : decode cX6_both 72 = .ok (.bipush 30, 2) := by decide +kernel
theorem dX6_both_74 : decode cX6_both 74 = .ok (.isub, 1) := by decide +kernel
theorem dX6_both_75 : decode cX6_both 75 = .ok (.iastore, 1) := by decide +kernel
theorem dX6_both_76 : decode cX6_both 76 = .ok (.aload_n 0, 1) := by decide +kernel
theorem dX6_both_77 : decode cX6_both 77 = .ok (.getfield 11, 3) := by decide +kernel
theorem dX6_both_80 : decode cX6_both 80 = .ok (.iconst 4, 1) := by decide +kernel
theorem dX6_both_81 : decode cX6_both 81 = .ok (.iload_n 2, 1) := by decide +kernel
theorem dX6_both_82 : decode cX6_both 82 = .ok (.imul, 1) := by decide +kernel
theorem dX6_both_83 : decode cX6_both 83 = .ok (.iconst 2, 1) := by decide +kernel
theorem dX6_both_84 : decode cX6_both 84 = .ok (.iadd, 1) := by decide +kernel
theorem dX6_both_85 : decode cX6_both 85 = .ok (.iload 6, 2) := by decide +kernel
theorem dX6_both_87 : decode cX6_both 87 = .ok (.bipush 61, 2) := by decide +kernel
theorem dX6_both_89 : decode cX6_both 89 = .ok (.irem, 1) := by decide +kernel
theorem dX6_both_90 : decode cX6_both 90 = .ok (.bipush 30, 2) := by decide +kernel
theorem dX6_both_92 : decode cX6_both 92 = .ok (.isub, 1) := by decide +kernel
theorem dX6_both_93 : decode cX6_both 93 = .ok (.iastore, 1) := by decide +kernel
theorem dX6_both_94 : decode cX6_both 94 = .ok (.aload_n 0, 1) := by decide +kernel
theorem dX6_both_95 : decode cX6_both 95 = .ok (.invokevirtual 194, 3) := by decide +kernel
theorem dX6_both_98 : decode cX6_both 98 = .ok (.ifCond .eq 8, 3) := by decide +kernel
theorem dX6_both_101 : decode cX6_both 101 = .ok (.iload 6, 2) := by decide +kernel
theorem dX6_both_103 : decode cX6_both 103 = .ok (.goto 4, 3) := by decide +kernel
theorem dX6_both_106 : decode cX6_both 106 = .ok (.iconst (-1), 1) := by decide +kernel
theorem dX6_both_107 : decode cX6_both 107 = .ok (.istore 5, 2) := by decide +kernel
theorem dX6_both_109 : decode cX6_both 109 = .ok (.iinc 6 1, 3) := by decide +kernel
theorem dX6_both_112 : decode cX6_both 112 = .ok (.goto (-67), 3) := by decide +kernel
theorem dX6_both_115 : decode cX6_both 115 = .ok (.aload_n 0, 1) := by decide +kernel
theorem dX6_both_116 : decode cX6_both 116 = .ok (.getfield 11, 3) := by decide +kernel
theorem dX6_both_119 : decode cX6_both 119 = .ok (.iconst 4, 1) := by decide +kernel
theorem dX6_both_120 : decode cX6_both 120 = .ok (.iload_n 1, 1) := by decide +kernel
theorem dX6_both_121 : decode cX6_both 121 = .ok (.imul, 1) := by decide +kernel
theorem dX6_both_122 : decode cX6_both 122 = .ok (.iconst 2, 1) := by decide +kernel
theorem dX6_both_123 : decode cX6_both 123 = .ok (.iadd, 1) := by decide +kernel
theorem dX6_both_124 : decode cX6_both 124 = .ok (.iload_n 3, 1) := by decide +kernel
theorem dX6_both_125 : decode cX6_both 125 = .ok (.iastore, 1) := by decide +kernel
theorem dX6_both_126 : decode cX6_both 126 = .ok (.aload_n 0, 1) := by decide +kernel
theorem dX6_both_127 : decode cX6_both 127 = .ok (.getfield 11, 3) := by decide +kernel
theorem dX6_both_130 : decode cX6_both 130 = .ok (.iconst 4, 1) := by decide +kernel
theorem dX6_both_131 : decode cX6_both 131 = .ok (.iload_n 2, 1) := by decide +kernel
theorem dX6_both_132 : decode cX6_both 132 = .ok (.imul, 1) := by decide +kernel
theorem dX6_both_133 : decode cX6_both 133 = .ok (.iconst 2, 1) := by decide +kernel
theorem dX6_both_134 : decode cX6_both 134 = .ok (.iadd, 1) := by decide +kernel
theorem dX6_both_135 : decode cX6_both 135 = .ok (.iload 4, 2) := by decide +kernel
theorem dX6_both_137 : decode cX6_both 137 = .ok (.iastore, 1) := by decide +kernel
theorem dX6_both_138 : decode cX6_both 138 = .ok (.iload 5, 2) := by decide +kernel
theorem dX6_both_140 : decode cX6_both 140 = .ok (.ireturn, 1) := by decide +kernel
set_option maxRecDepth 100000 in
theorem ggX6_areAlike_X6_of0 : GoodIn wsX6_areAlike wsX6_of0 := goodIn_g _ [5, 0, 0, 0, 0, 0, 0, 0, 0, 0, 0, 0, 0, 0, 0, 0, 0, 0, 0, 0, 0, 0, 0, 0, 0, 0, 0, 0, 0, 0] [0, 1, 2, 3, 4, 5, 6, 7, 8, 9, 10, 11, 12, 13, 14, 15, 16, 17, 18, 19, 20, 21, 22, 23, 24, 25, 26, 27, 28, 29] rfl (by decide +kernel)
set_option maxRecDepth 100000 in
theorem gX6_areAlike_X6_of0 : GoodIn wsX6_areAlike (wsV RX6 91 RX6 yX6_of0 wsX6_of0) := goodIn_app (goodIn_of _ (by decide +kernel)) ggX6_areAlike_X6_of0
theorem dX6_areAlike_0 : decode cX6_areAlike 0 = .ok (.iconst 0, 1) := by decide +kernel
theorem dX6_areAlike_1 : decode cX6_areAlike 1 = .ok (.istore_n 3, 1) := by decide +kernel
theorem dX6_areAlike_2 : decode cX6_areAlike 2 = .ok (.iload_n 3, 1) := by decide +kernel
theorem dX6_areAlike_3 : decode cX6_areAlike 3 = .ok (.iconst 4, 1) := by decide +kernel
theorem dX6_areAlike_4 : decode cX6_areAlike 4 = .ok (.if_icmp .ge 26, 3) := by decide +kernel
theorem dX6_areAlike_7 : decode cX6_areAlike 7 = .ok (.aload_n 0, 1) := by decide +kernel
theorem dX6_areAlike_8 : decode cX6_areAlike 8 = .ok (.iload_n 1, 1) := by decide +kernel
theorem dX6_areAlike_9 : decode cX6_areAlike 9 = .ok (.iload_n 3, 1) := by decide +kernel
theorem dX6_areAlike_10 : decode cX6_areAlike 10 = .ok (.invokevirtual 91, 3) := by decide +kernel
theorem dX6_areAlike_13 : decode cX6_areAlike 13 = .ok (.aload_n 0, 1) := by decide +kernel
theorem dX6_areAlike_14 : decode cX6_areAlike 14 = .ok (.iload_n 2, 1) := by decide +kernel
theorem dX6_areAlike_15 : decode cX6_areAlike 15 = .ok (.iload_n 3, 1) := by decide +kernel
theorem dX6_areAlike_16 : decode cX6_areAlike 16 = .ok (.invokevirtual 91, 3) := by decide +kernel
theorem dX6_areAlike_19 : decode cX6_areAlike 19 = .ok (.if_icmp .eq 5, 3) := by decide +kernel
theorem dX6_areAlike_22 : decode cX6_areAlike 22 = .ok (.iconst 0, 1) := by decide +kernel
theorem dX6_areAlike_23 : decode cX6_areAlike 23 = .ok (.ireturn, 1) := by decide +kernel
theorem dX6_areAlike_24 : decode cX6_areAlike 24 = .ok (.iinc 3 1, 3) := by decide +kernel
theorem dX6_areAlike_27 : decode cX6_areAlike 27 = .ok (.goto (-25), 3) := by decide +kernel
theorem dX6_areAlike_30 : decode cX6_areAlike 30 = .ok (.iconst 1, 1) := by decide +kernel
theorem dX6_areAlike_31 : decode cX6_areAlike 31 = .ok (.ireturn, 1) := by decide +kernel
set_option maxRecDepth 100000 in
theorem ggX6_alike_X6_isPiece : GoodIn wsX6_alike wsX6_isPiece := goodIn_g _ [1, 3, 0, 0, 0, 0, 11, 0, 0, 0, 0, 0, 0, 0, 0, 0, 0, 0, 0, 0, 0, 0, 0, 0, 0, 0, 0, 0, 0, 0, 0, 0, 0, 0] [2, 0, 3, 4, 1, 5, 6, 7, 8, 9, 10, 11, 12, 13, 14, 15, 16, 17, 18, 19, 20, 21, 22, 23, 24, 25, 26, 27, 28, 29, 30, 31, 32, 33] rfl (by decide +kernel)
set_option maxRecDepth 100000 in
theorem gX6_alike_X6_isPiece : GoodIn wsX6_alike (wsV RX6 85 RX6 yX6_isPiece wsX6_isPiece) := goodIn_app (goodIn_of _ (by decide +kernel)) ggX6_alike_X6_isPiece
set_option maxRecDepth 100000 in
theorem ggX6_alike_X6_areAlike : GoodIn wsX6_alike wsX6_areAlike := goodIn_g _ [1, 3, 7, 0, 0, 0, 0, 3, 0, 0, 0, 0, 0, 0, 0, 0, 0, 0, 0, 0, 0, 0, 0, 0, 0, 0, 0, 0, 0, 0, 0, 0, 0, 0, 0] [2, 3, 4, 5, 1, 6, 0, 7, 8, 9, 10, 11, 12, 13, 14, 15, 16, 17, 18, 19, 20, 21, 22, 23, 24, 25, 26, 27, 28, 29, 30, 31, 32, 33, 34] rfl (by decide +kernel)
set_option maxRecDepth 100000 in
theorem gX6_alike_X6_areAlike : GoodIn wsX6_alike (wsV RX6 198 RX6 yX6_areAlike wsX6_areAlike) := goodIn_app (goodIn_of _ (by decide +kernel)) ggX6_alike_X6_areAlike
set_option maxRecDepth 100000 in
theorem ggX6_alike_X6_bit : GoodIn wsX6_alike wsX6_bit := goodIn_g _ [20] [0] rfl (by decide +kernel)
set_option maxRecDepth 100000 in
theorem gX6_alike_X6_bit : GoodIn wsX6_alike (va_wsS RX6 162 yX6_bit wsX6_bit) := goodIn_app (goodIn_of _ (by decide +kernel)) ggX6_alike_X6_bit
theorem dX6_alike_0 : decode cX6_alike 0 = .ok (.iload_n 1, 1) := by decide +kernel
theorem dX6_alike_1 : decode cX6_alike 1 = .ok (.iconst (-1), 1) := by decide +kernel
theorem dX6_alike_2 : decode cX6_alike 2 = .ok (.if_icmp .eq 14, 3) := by decide +kernel
theorem dX6_alike_5 : decode cX6_alike 5 = .ok (.aload_n 0, 1) := by decide +kernel
theorem dX6_alike_6 : decode cX6_alike 6 = .ok (.iload_n 1, 1) := by decide +kernel
theorem dX6_alike_7 : decode cX6_alike 7 = .ok (.invokevirtual 85, 3) := by decide +kernel
theorem dX6_alike_10 : decode cX6_alike 10 = .ok (.ifCond .ne 6, 3) := by decide +kernel
theorem dX6_alike_13 : decode cX6_alike 13 = .ok (.bipush (-2), 2) := by decide +kernel
theorem dX6_alike_15 : decode cX6_alike 15 = .ok (.ireturn, 1) := by decide +kernel
theorem dX6_alike_16 : decode cX6_alike 16 = .ok (.iconst 0, 1) := by decide +kernel
theorem dX6_alike_17 : decode cX6_alike 17 = .ok (.istore_n 2, 1) := by decide +kernel
theorem dX6_alike_18 : decode cX6_alike 18 = .ok (.iconst 0, 1) := by decide +kernel
theorem dX6_alike_19 : decode cX6_alike 19 = .ok (.istore_n 3, 1) := by decide +kernel
theorem dX6_alike_20 : decode cX6_alike 20 = .ok (.iconst 0, 1) := by decide +kernel
theorem dX6_alike_21 : decode cX6_alike 21 = .ok (.istore 4, 2) := by decide +kernel
theorem dX6_alike_23 : decode cX6_alike 23 = .ok (.iload 4, 2) := by decide +kernel
theorem dX6_alike_25 : decode cX6_alike 25 = .ok (.aload_n 0, 1) := by decide +kernel
theorem dX6_alike_26 : decode cX6_alike 26 = .ok (.getfield 11, 3) := by decide +kernel
theorem dX6_alike_29 : decode cX6_alike 29 = .ok (.bipush 40, 2) := by decide +kernel
theorem dX6_alike_31 : decode cX6_alike 31 = .ok (.iaload, 1) := by decide +kernel
theorem dX6_alike_32 : decode cX6_alike 32 = .ok (.if_icmp .ge 85, 3) := by decide +kernel
theorem dX6_alike_35 : decode cX6_alike 35 = .ok (.iload_n 2, 1) := by decide +kernel
theorem dX6_alike_36 : decode cX6_alike 36 = .ok (.iload_n 1, 1) := by decide +kernel
theorem dX6_alike_37 : decode cX6_alike 37 = .ok (.iconst (-1), 1) := by decide +kernel
theorem dX6_alike_38 : decode cX6_alike 38 = .ok (.if_icmp .eq 20, 3) := by decide +kernel
theorem dX6_alike_41 : decode cX6_alike 41 = .ok (.aload_n 0, 1) := by decide +kernel
theorem dX6_alike_42 : decode cX6_alike 42 = .ok (.iload 4, 2) := by decide +kernel
theorem dX6_alike_44 : decode cX6_alike 44 = .ok (.iload_n 1, 1) := by decide +kernel
theorem dX6_alike_45 : decode cX6_alike 45 = .ok (.invokevirtual 198, 3) := by decide +kernel
theorem dX6_alike_48 : decode cX6_alike 48 = .ok (.ifCond .eq 10, 3) := by decide +kernel
theorem dX6_alike_51 : decode cX6_alike 51 = .ok (.iconst 1, 1) := by decide +kernel
theorem dX6_alike_52 : decode cX6_alike 52 = .ok (.iload 4, 2) := by decide +kernel
theorem dX6_alike_54 : decode cX6_alike 54 = .ok (.ishl, 1) := by decide +kernel
theorem dX6_alike_55 : decode cX6_alike 55 = .ok (.goto 4, 3) := by decide +kernel
theorem dX6_alike_58 : decode cX6_alike 58 = .ok (.iconst 0, 1) := by decide +kernel
theorem dX6_alike_59 : decode cX6_alike 59 = .ok (.ior, 1) := by decide +kernel
theorem dX6_alike_60 : decode cX6_alike 60 = .ok (.istore_n 2, 1) := by decide +kernel
theorem dX6_alike_61 : decode cX6_alike 61 = .ok (.iconst 1, 1) := by decide +kernel
theorem dX6_alike_62 : decode cX6_alike 62 = .ok (.istore 5, 2) := by decide +kernel
theorem dX6_alike_64 : decode cX6_alike 64 = .ok (.iconst 0, 1) := by decide +kernel
theorem dX6_alike_65 : decode cX6_alike 65 = .ok (.istore 6, 2) := by decide +kernel
theorem dX6_alike_67 : decode cX6_alike 67 = .ok (.iload 6, 2) := by decide +kernel
theorem dX6_alike_69 : decode cX6_alike 69 = .ok (.iload 4, 2) := by decide +kernel
theorem dX6_alike_71 : decode cX6_alike 71 = .ok (.if_icmp .ge 32, 3) := by decide +kernel
theorem dX6_alike_74 : decode cX6_alike 74 = .ok (.iload 5, 2) := by decide +kernel
theorem dX6_alike_76 : decode cX6_alike 76 = .ok (.ifCond .eq 18, 3) := by decide +kernel
theorem dX6_alike_79 : decode cX6_alike 79 = .ok (.aload_n 0, 1) := by decide +kernel
theorem dX6_alike_80 : decode cX6_alike 80 = .ok (.iload 6, 2) := by decide +kernel
theorem dX6_alike_82 : decode cX6_alike 82 = .ok (.iload 4, 2) := by decide +kernel
theorem dX6_alike_84 : decode cX6_alike 84 = .ok (.invokevirtual 198, 3) := by decide +kernel
theorem dX6_alike_87 : decode cX6_alike 87 = .ok (.ifCond .ne 7, 3) := by decide +kernel
theorem dX6_alike_90 : decode cX6_alike 90 = .ok (.iconst 1, 1) := by decide +kernel
theorem dX6_alike_91 : decode cX6_alike 91 = .ok (.goto 4, 3) := by decide +kernel
theorem dX6_alike_94 : decode cX6_alike 94 = .ok (.iconst 0, 1) := by decide +kernel
theorem dX6_alike_95 : decode cX6_alike 95 = .ok (.istore 5, 2) := by decide +kernel
theorem dX6_alike_97 : decode cX6_alike 97 = .ok (.iinc 6 1, 3) := by decide +kernel
theorem dX6_alike_100 : decode cX6_alike 100 = .ok (.goto (-33), 3) := by decide +kernel
theorem dX6_alike_103 : decode cX6_alike 103 = .ok (.iload_n 3, 1) := by decide +kernel
theorem dX6_alike_104 : decode cX6_alike 104 = .ok (.iload 5, 2) := by decide +kernel
theorem dX6_alike_106 : decode cX6_alike 106 = .ok (.invokestatic 162, 3) := by decide +kernel
theorem dX6_alike_109 : decode cX6_alike 109 = .ok (.iadd, 1) := by decide +kernel
theorem dX6_alike_110 : decode cX6_alike 110 = .ok (.istore_n 3, 1) := by decide +kernel
theorem dX6_alike_111 : decode cX6_alike 111 = .ok (.iinc 4 1, 3) := by decide +kernel
theorem dX6_alike_114 : decode cX6_alike 114 = .ok (.goto (-91), 3) := by decide +kernel
theorem dX6_alike_117 : decode cX6_alike 117 = .ok (.iload_n 1, 1) := by decide +kernel
theorem dX6_alike_118 : decode cX6_alike 118 = .ok (.iconst (-1), 1) := by decide +kernel
theorem dX6_alike_119 : decode cX6_alike 119 = .ok (.if_icmp .ne 7, 3) := by decide +kernel
theorem dX6_alike_122 : decode cX6_alike 122 = .ok (.iload_n 3, 1) := by decide +kernel
theorem dX6_alike_123 : decode cX6_alike 123 = .ok (.goto 4, 3) := by decide +kernel
theorem dX6_alike_126 : decode cX6_alike 126 = .ok (.iload_n 2, 1) := by decide +kernel
theorem dX6_alike_127 : decode cX6_alike 127 = .ok (.ireturn, 1) := by decide +kernel
set_option maxRecDepth 100000 in
theorem ggX6_isSheet_X6_in : GoodIn wsX6_isSheet wsX6_in := goodIn_g _ [5] [0] rfl (by decide +kernel)
set_option maxRecDepth 100000 in
theorem gX6_isSheet_X6_in : GoodIn wsX6_isSheet (va_wsS RX6 67 yX6_in wsX6_in) := goodIn_app (goodIn_of _ (by decide +kernel)) ggX6_isSheet_X6_in
theorem dX6_isSheet_0 : decode cX6_isSheet 0 = .ok (.iload_n 0, 1) := by decide +kernel
theorem dX6_isSheet_1 : decode cX6_isSheet 1 = .ok (.i2l, 1) := by decide +kernel
theorem dX6_isSheet_2 : decode cX6_isSheet 2 = .ok (.lconst 0, 1) := by decide +kernel
theorem dX6_isSheet_3 : decode cX6_isSheet 3 = .ok (.ldc2_w 89, 3) := by decide +kernel
theorem dX6_isSheet_6 : decode cX6_isSheet 6 = .ok (.invokestatic 67, 3) := by decide +kernel
theorem dX6_isSheet_9 : decode cX6_isSheet 9 = .ok (.ireturn, 1) := by decide +kernel
set_option maxRecDepth 100000 in
theorem ggX6_sheet_X6_isSheet : GoodIn wsX6_sheet wsX6_isSheet := goodIn_g _ [7, 0, 0, 0, 0, 0] [1, 2, 3, 4, 0, 5] rfl (by decide +kernel)
set_option maxRecDepth 100000 in
theorem gX6_sheet_X6_isSheet : GoodIn wsX6_sheet (va_wsS RX6 201 yX6_isSheet wsX6_isSheet) := goodIn_app (goodIn_of _ (by decide +kernel)) ggX6_sheet_X6_isSheet
set_option maxRecDepth 100000 in
theorem ggX6_sheet_X6_in : GoodIn wsX6_sheet wsX6_in := goodIn_g _ [12] [0] rfl (by decide +kernel)
set_option maxRecDepth 100000 in
theorem gX6_sheet_X6_in : GoodIn wsX6_sheet (va_wsS RX6 67 yX6_in wsX6_in) := goodIn_app (goodIn_of _ (by decide +kernel)) ggX6_sheet_X6_in
theorem dX6_sheet_0 : decode cX6_sheet 0 = .ok (.iload_n 1, 1) := by decide +kernel
theorem dX6_sheet_1 : decode cX6_sheet 1 = .ok (.invokestatic 201, 3) := by decide +kernel
theorem dX6_sheet_4 : decode cX6_sheet 4 = .ok (.ifCond .eq 25, 3) := by decide +kernel
theorem dX6_sheet_7 : decode cX6_sheet 7 = .ok (.iload_n 2, 1) := by decide +kernel
theorem dX6_sheet_8 : decode cX6_sheet 8 = .ok (.i2l, 1) := by decide +kernel
theorem dX6_sheet_9 : decode cX6_sheet 9 = .ok (.ldc2_w 204, 3) := by decide +kernel
theorem dX6_sheet_12 : decode cX6_sheet 12 = .ok (.lconst 1, 1) := by decide +kernel
theorem dX6_sheet_13 : decode cX6_sheet 13 = .ok (.invokestatic 67, 3) := by decide +kernel
theorem dX6_sheet_16 : decode cX6_sheet 16 = .ok (.ifCond .eq 13, 3) := by decide +kernel
theorem dX6_sheet_19 : decode cX6_sheet 19 = .ok (.iload_n 2, 1) := by decide +kernel
theorem dX6_sheet_20 : decode cX6_sheet 20 = .ok (.ifCond .lt 12, 3) := by decide +kernel
theorem dX6_sheet_23 : decode cX6_sheet 23 = .ok (.iload_n 3, 1) := by decide +kernel
theorem dX6_sheet_24 : decode cX6_sheet 24 = .ok (.bipush 40, 2) := by decide +kernel
theorem dX6_sheet_26 : decode cX6_sheet 26 = .ok (.if_icmp .le 6, 3) := by decide +kernel
theorem dX6_sheet_29 : decode cX6_sheet 29 = .ok (.bipush (-2), 2) := by decide +kernel
theorem dX6_sheet_31 : decode cX6_sheet 31 = .ok (.ireturn, 1) := by decide +kernel
theorem dX6_sheet_32 : decode cX6_sheet 32 = .ok (.iload_n 2, 1) := by decide +kernel
theorem dX6_sheet_33 : decode cX6_sheet 33 = .ok (.ifCond .lt 10, 3) := by decide +kernel
theorem dX6_sheet_36 : decode cX6_sheet 36 = .ok (.iload_n 3, 1) := by decide +kernel
theorem dX6_sheet_37 : decode cX6_sheet 37 = .ok (.ifCond .ge 6, 3) := by decide +kernel
theorem dX6_sheet_40 : decode cX6_sheet 40 = .ok (.bipush (-14), 2) := by decide +kernel
theorem dX6_sheet_42 : decode cX6_sheet 42 = .ok (.ireturn, 1) := by decide +kernel
theorem dX6_sheet_43 : decode cX6_sheet 43 = .ok (.aload_n 0, 1) := by decide +kernel
theorem dX6_sheet_44 : decode cX6_sheet 44 = .ok (.getfield 33, 3) := by decide +kernel
theorem dX6_sheet_47 : decode cX6_sheet 47 = .ok (.iload_n 1, 1) := by decide +kernel
theorem dX6_sheet_48 : decode cX6_sheet 48 = .ok (.iload_n 2, 1) := by decide +kernel
theorem dX6_sheet_49 : decode cX6_sheet 49 = .ok (.iastore, 1) := by decide +kernel
theorem dX6_sheet_50 : decode cX6_sheet 50 = .ok (.aload_n 0, 1) := by decide +kernel
theorem dX6_sheet_51 : decode cX6_sheet 51 = .ok (.getfield 36, 3) := by decide +kernel
theorem dX6_sheet_54 : decode cX6_sheet 54 = .ok (.iload_n 1, 1) := by decide +kernel
theorem dX6_sheet_55 : decode cX6_sheet 55 = .ok (.iload_n 2, 1) := by decide +kernel
theorem dX6_sheet_56 : decode cX6_sheet 56 = .ok (.ifCond .ge 7, 3) := by decide +kernel
theorem dX6_sheet_59 : decode cX6_sheet 59 = .ok (.iconst 0, 1) := by decide +kernel
theorem dX6_sheet_60 : decode cX6_sheet 60 = .ok (.goto 4, 3) := by decide +kernel
theorem dX6_sheet_63 : decode cX6_sheet 63 = .ok (.iload_n 3, 1) := by decide +kernel
theorem dX6_sheet_64 : decode cX6_sheet 64 = .ok (.iastore, 1) := by decide +kernel
theorem dX6_sheet_65 : decode cX6_sheet 65 = .ok (.iconst 0, 1) := by decide +kernel
theorem dX6_sheet_66 : decode cX6_sheet 66 = .ok (.istore 4, 2) := by decide +kernel
theorem dX6_sheet_68 : decode cX6_sheet 68 = .ok (.iload 4, 2) := by decide +kernel
theorem dX6_sheet_70 : decode cX6_sheet 70 = .ok (.bipush 40, 2) := by decide +kernel
theorem dX6_sheet_72 : decode cX6_sheet 72 = .ok (.if_icmp .ge 22, 3) := by decide +kernel
theorem dX6_sheet_75 : decode cX6_sheet 75 = .ok (.aload_n 0, 1) := by decide +kernel
theorem dX6_sheet_76 : decode cX6_sheet 76 = .ok (.getfield 39, 3) := by decide +kernel
theorem dX6_sheet_79 : decode cX6_sheet 79 = .ok (.bipush 40, 2) := by decide +kernel
theorem dX6_sheet_81 : decode cX6_sheet 81 = .ok (.iload_n 1, 1) := by decide +kernel
theorem dX6_sheet_82 : decode cX6_sheet 82 = .ok (.imul, 1) := by decide +kernel
theorem dX6_sheet_83 : decode cX6_sheet 83 = .ok (.iload 4, 2) := by decide +kernel
theorem dX6_sheet_85 : decode cX6_sheet 85 = .ok (.iadd, 1) := by decide +kernel
theorem dX6_sheet_86 : decode cX6_sheet 86 = .ok (.iconst 0, 1) := by decide +kernel
theorem dX6_sheet_87 : decode cX6_sheet 87 = .ok (.iastore, 1) := by decide +kernel
theorem dX6_sheet_88 : decode cX6_sheet 88 = .ok (.iinc 4 1, 3) := by decide +kernel
theorem dX6_sheet_91 : decode cX6_sheet 91 = .ok (.goto (-23), 3) := by decide +kernel
theorem dX6_sheet_94 : decode cX6_sheet 94 = .ok (.iconst 1, 1) := by decide +kernel
theorem dX6_sheet_95 : decode cX6_sheet 95 = .ok (.ireturn, 1) := by decide +kernel
set_option maxRecDepth 100000 in
theorem ggX6_put_X6_isSheet : GoodIn wsX6_put wsX6_isSheet := goodIn_g _ [6, 0, 0, 0, 0, 0] [1, 2, 3, 4, 0, 5] rfl (by decide +kernel)
set_option maxRecDepth 100000 in
theorem gX6_put_X6_isSheet : GoodIn wsX6_put (va_wsS RX6 201 yX6_isSheet wsX6_isSheet) := goodIn_app (goodIn_of _ (by decide +kernel)) ggX6_put_X6_isSheet
set_option maxRecDepth 100000 in
theorem ggX6_put_X6_in : GoodIn wsX6_put wsX6_in := goodIn_g _ [11] [0] rfl (by decide +kernel)
set_option maxRecDepth 100000 in
theorem gX6_put_X6_in : GoodIn wsX6_put (va_wsS RX6 67 yX6_in wsX6_in) := goodIn_app (goodIn_of _ (by decide +kernel)) ggX6_put_X6_in
theorem dX6_put_0 : decode cX6_put 0 = .ok (.iload_n 1, 1) := by decide +kernel
theorem dX6_put_1 : decode cX6_put 1 = .ok (.invokestatic 201, 3) := by decide +kernel
theorem dX6_put_4 : decode cX6_put 4 = .ok (.ifCond .ne 6, 3) := by decide +kernel
theorem dX6_put_7 : decode cX6_put 7 = .ok (.bipush (-2), 2) := by decide +kernel
theorem dX6_put_9 : decode cX6_put 9 = .ok (.ireturn, 1) := by decide +kernel
theorem dX6_put_10 : decode cX6_put 10 = .ok (.aload_n 0, 1) := by decide +kernel
theorem dX6_put_11 : decode cX6_put 11 = .ok (.getfield 33, 3) := by decide +kernel
theorem dX6_put_14 : decode cX6_put 14 = .ok (.iload_n 1, 1) := by decide +kernel
theorem dX6_put_15 : decode cX6_put 15 = .ok (.iaload, 1) := by decide +kernel
theorem dX6_put_16 : decode cX6_put 16 = .ok (.ifCond .ge 6, 3) := by decide +kernel
theorem dX6_put_19 : decode cX6_put 19 = .ok (.bipush (-11), 2) := by decide +kernel
theorem dX6_put_21 : decode cX6_put 21 = .ok (.ireturn, 1) := by decide +kernel
theorem dX6_put_22 : decode cX6_put 22 = .ok (.iload_n 2, 1) := by decide +kernel
theorem dX6_put_23 : decode cX6_put 23 = .ok (.i2l, 1) := by decide +kernel
theorem dX6_put_24 : decode cX6_put 24 = .ok (.lconst 0, 1) := by decide +kernel
theorem dX6_put_25 : decode cX6_put 25 = .ok (.aload_n 0, 1) := by decide +kernel
theorem dX6_put_26 : decode cX6_put 26 = .ok (.getfield 36, 3) := by decide +kernel
theorem dX6_put_29 : decode cX6_put 29 = .ok (.iload_n 1, 1) := by decide +kernel
theorem dX6_put_30 : decode cX6_put 30 = .ok (.iaload, 1) := by decide +kernel
theorem dX6_put_31 : decode cX6_put 31 = .ok (.iconst 1, 1) := by decide +kernel
theorem dX6_put_32 : decode cX6_put 32 = .ok (.isub, 1) := by decide +kernel
theorem dX6_put_33 : decode cX6_put 33 = .ok (.i2l, 1) := by decide +kernel
theorem dX6_put_34 : decode cX6_put 34 = .ok (.invokestatic 67, 3) := by decide +kernel
theorem dX6_put_37 : decode cX6_put 37 = .ok (.ifCond .ne 6, 3) := by decide +kernel
theorem dX6_put_40 : decode cX6_put 40 = .ok (.bipush (-12), 2) := by decide +kernel
theorem dX6_put_42 : decode cX6_put 42 = .ok (.ireturn, 1) := by decide +kernel
theorem dX6_put_43 : decode cX6_put 43 = .ok (.aload_n 0, 1) := by decide +kernel
theorem dX6_put_44 : decode cX6_put 44 = .ok (.getfield 39, 3) := by decide +kernel
theorem dX6_put_47 : decode cX6_put 47 = .ok (.bipush 40, 2) := by decide +kernel
theorem dX6_put_49 : decode cX6_put 49 = .ok (.iload_n 1, 1) := by decide +kernel
theorem dX6_put_50 : decode cX6_put 50 = .ok (.imul, 1) := by decide +kernel
theorem dX6_put_51 : decode cX6_put 51 = .ok (.iload_n 2, 1) := by decide +kernel
theorem dX6_put_52 : decode cX6_put 52 = .ok (.iadd, 1) := by decide +kernel
theorem dX6_put_53 : decode cX6_put 53 = .ok (.aload_n 0, 1) := by decide +kernel
theorem dX6_put_54 : decode cX6_put 54 = .ok (.getfield 33, 3) := by decide +kernel
theorem dX6_put_57 : decode cX6_put 57 = .ok (.iload_n 1, 1) := by decide +kernel
theorem dX6_put_58 : decode cX6_put 58 = .ok (.iaload, 1) := by decide +kernel
theorem dX6_put_59 : decode cX6_put 59 = .ok (.ifCond .ne 8, 3) := by decide +kernel
theorem dX6_put_62 : decode cX6_put 62 = .ok (.iload_n 3, 1) := by decide +kernel
theorem dX6_put_63 : decode cX6_put 63 = .ok (.i2s, 1) := by decide +kernel
theorem dX6_put_64 : decode cX6_put 64 = .ok (.goto 4, 3) := by decide +kernel
theorem dX6_put_67 : decode cX6_put 67 = .ok (.iload_n 3, 1) := by decide +kernel
theorem dX6_put_68 : decode cX6_put 68 = .ok (.iastore, 1) := by decide +kernel
theorem dX6_put_69 : decode cX6_put 69 = .ok (.iconst 1, 1) := by decide +kernel
theorem dX6_put_70 : decode cX6_put 70 = .ok (.ireturn, 1) := by decide +kernel
set_option maxRecDepth 100000 in
theorem ggX6_copy_X6_isSheet : GoodIn wsX6_copy wsX6_isSheet := goodIn_g _ [7, 0, 0, 0, 0, 0] [1, 2, 3, 4, 0, 5] rfl (by decide +kernel)
set_option maxRecDepth 100000 in
theorem gX6_copy_X6_isSheet : GoodIn wsX6_copy (va_wsS RX6 201 yX6_isSheet wsX6_isSheet) := goodIn_app (goodIn_of _ (by decide +kernel)) ggX6_copy_X6_isSheet
theorem dX6_copy_0 : decode cX6_copy 0 = .ok (.iload_n 1, 1) := by decide +kernel
theorem dX6_copy_1 : decode cX6_copy 1 = .ok (.invokestatic 201, 3) := by decide +kernel
theorem dX6_copy_4 : decode cX6_copy 4 = .ok (.ifCond .eq 10, 3) := by decide +kernel
theorem dX6_copy_7 : decode cX6_copy 7 = .ok (.iload_n 3, 1) := by decide +kernel
theorem dX6_copy_8 : decode cX6_copy 8 = .ok (.invokestatic 201, 3) := by decide +kernel
theorem dX6_copy_11 : decode cX6_copy 11 = .ok (.ifCond .ne 6, 3) := by decide +kernel
theorem dX6_copy_14 : decode cX6_copy 14 = .ok (.bipush (-2), 2) := by decide +kernel
theorem dX6_copy_16 : decode cX6_copy 16 = .ok (.ireturn, 1) := by decide +kernel
theorem dX6_copy_17 : decode cX6_copy 17 = .ok (.aload_n 0, 1) := by decide +kernel
theorem dX6_copy_18 : decode cX6_copy 18 = .ok (.getfield 33, 3) := by decide +kernel
theorem dX6_copy_21 : decode cX6_copy 21 = .ok (.iload_n 1, 1) := by decide +kernel
theorem dX6_copy_22 : decode cX6_copy 22 = .ok (.iaload, 1) := by decide +kernel
theorem dX6_copy_23 : decode cX6_copy 23 = .ok (.ifCond .lt 12, 3) := by decide +kernel
theorem dX6_copy_26 : decode cX6_copy 26 = .ok (.aload_n 0, 1) := by decide +kernel
theorem dX6_copy_27 : decode cX6_copy 27 = .ok (.getfield 33, 3) := by decide +kernel
theorem dX6_copy_30 : decode cX6_copy 30 = .ok (.iload_n 3, 1) := by decide +kernel
theorem dX6_copy_31 : decode cX6_copy 31 = .ok (.iaload, 1) := by decide +kernel
theorem dX6_copy_32 : decode cX6_copy 32 = .ok (.ifCond .ge 6, 3) := by decide +kernel
theorem dX6_copy_35 : decode cX6_copy 35 = .ok (.bipush (-11), 2) := by decide +kernel
theorem dX6_copy_37 : decode cX6_copy 37 = .ok (.ireturn, 1) := by decide +kernel
theorem dX6_copy_38 : decode cX6_copy 38 = .ok (.aload_n 0, 1) := by decide +kernel
theorem dX6_copy_39 : decode cX6_copy 39 = .ok (.getfield 33, 3) := by decide +kernel
theorem dX6_copy_42 : decode cX6_copy 42 = .ok (.iload_n 1, 1) := by decide +kernel
theorem dX6_copy_43 : decode cX6_copy 43 = .ok (.iaload, 1) := by decide +kernel
theorem dX6_copy_44 : decode cX6_copy 44 = .ok (.aload_n 0, 1) := by decide +kernel
theorem dX6_copy_45 : decode cX6_copy 45 = .ok (.getfield 33, 3) := by decide +kernel
theorem dX6_copy_48 : decode cX6_copy 48 = .ok (.iload_n 3, 1) := by decide +kernel
theorem dX6_copy_49 : decode cX6_copy 49 = .ok (.iaload, 1) := by decide +kernel
theorem dX6_copy_50 : decode cX6_copy 50 = .ok (.if_icmp .eq 6, 3) := by decide +kernel
theorem dX6_copy_53 : decode cX6_copy 53 = .ok (.bipush (-13), 2) := by decide +kernel
theorem dX6_copy_55 : decode cX6_copy 55 = .ok (.ireturn, 1) := by decide +kernel
theorem dX6_copy_56 : decode cX6_copy 56 = .ok (.iload 5, 2) := by decide +kernel
theorem dX6_copy_58 : decode cX6_copy 58 = .ok (.ifCond .lt 47, 3) := by decide +kernel
theorem dX6_copy_61 : decode cX6_copy 61 = .ok (.iload_n 2, 1) := by decide +kernel
theorem dX6_copy_62 : decode cX6_copy 62 = .ok (.ifCond .lt 43, 3) := by decide +kernel
theorem dX6_copy_65 : decode cX6_copy 65 = .ok (.iload 4, 2) := by decide +kernel
theorem dX6_copy_67 : decode cX6_copy 67 = .ok (.ifCond .lt 38, 3) := by decide +kernel
theorem dX6_copy_70 : decode cX6_copy 70 = .ok (.iload_n 2, 1) := by decide +kernel
theorem dX6_copy_71 : decode cX6_copy 71 = .ok (.i2l, 1) := by decide +kernel
theorem dX6_copy_72 : decode cX6_copy 72 = .ok (.iload 5, 2) := by decide +kernel
theorem dX6_copy_74 : decode cX6_copy 74 = .ok (.i2l, 1) := by decide +kernel
theorem dX6_copy_75 : decode cX6_copy 75 = .ok (.ladd, 1) := by decide +kernel
theorem dX6_copy_76 : decode cX6_copy 76 = .ok (.aload_n 0, 1) := by decide +kernel
theorem dX6_copy_77 : decode cX6_copy 77 = .ok (.getfield 36, 3) := by decide +kernel
theorem dX6_copy_80 : decode cX6_copy 80 = .ok (.iload_n 1, 1) := by decide +kernel
theorem dX6_copy_81 : decode cX6_copy 81 = .ok (.iaload, 1) := by decide +kernel
theorem dX6_copy_82 : decode cX6_copy 82 = .ok (.i2l, 1) := by decide +kernel
theorem dX6_copy_83 : decode cX6_copy 83 = .ok (.lcmp, 1) := by decide +kernel
theorem dX6_copy_84 : decode cX6_copy 84 = .ok (.ifCond .gt 21, 3) := by decide +kernel
theorem dX6_copy_87 : decode cX6_copy 87 = .ok (.iload 4, 2) := by decide +kernel
theorem dX6_copy_89 : decode cX6_copy 89 = .ok (.i2l, 1) := by decide +kernel
theorem dX6_copy_90 : decode cX6_copy 90 = .ok (.iload 5, 2) := by decide +kernel
theorem dX6_copy_92 : decode cX6_copy 92 = .ok (.i2l, 1) := by decide +kernel
theorem dX6_copy_93 : decode cX6_copy 93 = .ok (.ladd, 1) := by decide +kernel
theorem dX6_copy_94 : decode cX6_copy 94 = .ok (.aload_n 0, 1) := by decide +kernel
theorem dX6_copy_95 : decode cX6_copy 95 = .ok (.getfield 36, 3) := by decide +kernel
theorem dX6_copy_98 : decode cX6_copy 98 = .ok (.iload_n 3, 1) := by decide +kernel
theorem dX6_copy_99 : decode cX6_copy 99 = .ok (.iaload, 1) := by decide +kernel
theorem dX6_copy_100 : decode cX6_copy 100 = .ok (.i2l, 1) := by decide +kernel
theorem dX6_copy_101 : decode cX6_copy 101 = .ok (.lcmp, 1) := by decide +kernel
theorem dX6_copy_102 : decode cX6_copy 102 = .ok (.ifCond .le 6, 3) := by decide +kernel
theorem dX6_copy_105 : decode cX6_copy 105 = .ok (.bipush (-12), 2) := by decide +kernel
theorem dX6_copy_107 : decode cX6_copy 107 = .ok (.ireturn, 1) := by decide +kernel
theorem dX6_copy_108 : decode cX6_copy 108 = .ok (.iconst 0, 1) := by decide +kernel
theorem dX6_copy_109 : decode cX6_copy 109 = .ok (.istore 6, 2) := by decide +kernel
theorem dX6_copy_111 : decode cX6_copy 111 = .ok (.iload 6, 2) := by decide +kernel
theorem dX6_copy_113 : decode cX6_copy 113 = .ok (.iload 5, 2) := by decide +kernel
theorem dX6_copy_115 : decode cX6_copy 115 = .ok (.if_icmp .ge 30, 3) := by decide +kernel
theorem dX6_copy_118 : decode cX6_copy 118 = .ok (.aload_n 0, 1) := by decide +kernel
theorem dX6_copy_119 : decode cX6_copy 119 = .ok (.getfield 42, 3) := by decide +kernel
theorem dX6_copy_122 : decode cX6_copy 122 = .ok (.iload 6, 2) := by decide +kernel
theorem dX6_copy_124 : decode cX6_copy 124 = .ok (.aload_n 0, 1) := by decide +kernel
theorem dX6_copy_125 : decode cX6_copy 125 = .ok (.getfield 39, 3) := by decide +kernel
theorem dX6_copy_128 : decode cX6_copy 128 = .ok (.bipush 40, 2) := by decide +kernel
theorem dX6_copy_130 : decode cX6_copy 130 = .ok (.iload_n 1, 1) := by decide +kernel
theorem dX6_copy_131 : decode cX6_copy 131 = .ok (.imul, 1) := by decide +kernel
theorem dX6_copy_132 : decode cX6_copy 132 = .ok (.iload_n 2, 1) := by decide +kernel
theorem dX6_copy_133 : decode cX6_copy 133 = .ok (.iadd, 1) := by decide +kernel
theorem dX6_copy_134 : decode cX6_copy 134 = .ok (.iload 6, 2) := by decide +kernel
theorem dX6_copy_136 : decode cX6_copy 136 = .ok (.iadd, 1) := by decide +kernel
theorem dX6_copy_137 : decode cX6_copy 137 = .ok (.iaload, 1) := by decide +kernel
theorem dX6_copy_138 : decode cX6_copy 138 = .ok (.iastore, 1) := by decide +kernel
theorem dX6_copy_139 : decode cX6_copy 139 = .ok (.iinc 6 1, 3) := by decide +kernel
theorem dX6_copy_142 : decode cX6_copy 142 = .ok (.goto (-31), 3) := by decide +kernel
theorem dX6_copy_145 : decode cX6_copy 145 = .ok (.iconst 0, 1) := by decide +kernel
theorem dX6_copy_146 : decode cX6_copy 146 = .ok (.istore 6, 2) := by decide +kernel
theorem dX6_copy_148 : decode cX6_copy 148 = .ok (.iload 6, 2) := by decide +kernel
theorem dX6_copy_150 : decode cX6_copy 150 = .ok (.iload 5, 2) := by decide +kernel
theorem dX6_copy_152 : decode cX6_copy 152 = .ok (.if_icmp .ge 31, 3) := by decide +kernel
theorem dX6_copy_155 : decode cX6_copy 155 = .ok (.aload_n 0, 1) := by decide +kernel
theorem dX6_copy_156 : decode cX6_copy 156 = .ok (.getfield 39, 3) := by decide +kernel
theorem dX6_copy_159 : decode cX6_copy 159 = .ok (.bipush 40, 2) := by decide +kernel
theorem dX6_copy_161 : decode cX6_copy 161 = .ok (.iload_n 3, 1) := by decide +kernel
theorem dX6_copy_162 : decode cX6_copy 162 = .ok (.imul, 1) := by decide +kernel
theorem dX6_copy_163 : decode cX6_copy 163 = .ok (.iload 4, 2) := by decide +kernel
theorem dX6_copy_165 : decode cX6_copy 165 = .ok (.iadd, 1) := by decide +kernel
theorem dX6_copy_166 : decode cX6_copy 166 = .ok (.iload 6, 2) := by decide +kernel
theorem dX6_copy_168 : decode cX6_copy 168 = .ok (.iadd, 1) := by decide +kernel
theorem dX6_copy_169 : decode cX6_copy 169 = .ok (.aload_n 0, 1) := by decide +kernel
theorem dX6_copy_170 : decode cX6_copy 170 = .ok (.getfield 42, 3) := by decide +kernel
theorem dX6_copy_173 : decode cX6_copy 173 = .ok (.iload 6, 2) := by decide +kernel
theorem dX6_copy_175 : decode cX6_copy 175 = .ok (.iaload, 1) := by decide +kernel
theorem dX6_copy_176 : decode cX6_copy 176 = .ok (.iastore, 1) := by decide +kernel
theorem dX6_copy_177 : decode cX6_copy 177 = .ok (.iinc 6 1, 3) := by decide +kernel
theorem dX6_copy_180 : decode cX6_copy 180 = .ok (.goto (-32), 3) := by decide +kernel
theorem dX6_copy_183 : decode cX6_copy 183 = .ok (.iload 5, 2) := by decide +kernel
theorem dX6_copy_185 : decode cX6_copy 185 = .ok (.ireturn, 1) := by decide +kernel
theorem dX6_laysOld_0 : decode cX6_laysOld 0 = .ok (.iconst 1, 1) := by decide +kernel
theorem dX6_laysOld_1 : decode cX6_laysOld 1 = .ok (.istore_n 2, 1) := by decide +kernel
theorem dX6_laysOld_2 : decode cX6_laysOld 2 = .ok (.iload_n 2, 1) := by decide +kernel
theorem dX6_laysOld_3 : decode cX6_laysOld 3 = .ok (.aload_n 0, 1) := by decide +kernel
theorem dX6_laysOld_4 : decode cX6_laysOld 4 = .ok (.getfield 130, 3) := by decide +kernel
theorem dX6_laysOld_7 : decode cX6_laysOld 7 = .ok (.if_icmp .gt 70, 3) := by decide +kernel
theorem dX6_laysOld_10 : decode cX6_laysOld 10 = .ok (.iload_n 2, 1) := by decide +kernel
theorem dX6_laysOld_11 : decode cX6_laysOld 11 = .ok (.aload_n 0, 1) := by decide +kernel
theorem dX6_laysOld_12 : decode cX6_laysOld 12 = .ok (.getfield 36, 3) := by decide +kernel
theorem dX6_laysOld_15 : decode cX6_laysOld 15 = .ok (.iload_n 1, 1) := by decide +kernel
theorem dX6_laysOld_16 : decode cX6_laysOld 16 = .ok (.iaload, 1) := by decide +kernel
theorem dX6_laysOld_17 : decode cX6_laysOld 17 = .ok (.if_icmp .gt 19, 3) := by decide +kernel
theorem dX6_laysOld_20 : decode cX6_laysOld 20 = .ok (.aload_n 0, 1) := by decide +kernel
theorem dX6_laysOld_21 : decode cX6_laysOld 21 = .ok (.getfield 39, 3) := by decide +kernel
theorem dX6_laysOld_24 : decode cX6_laysOld 24 = .ok (.bipush 40, 2) := by decide +kernel
theorem dX6_laysOld_26 : decode cX6_laysOld 26 = .ok (.iload_n 1, 1) := by decide +kernel
theorem dX6_laysOld_27 : decode cX6_laysOld 27 = .ok (.imul, 1) := by decide +kernel
theorem dX6_laysOld_28 : decode cX6_laysOld 28 = .ok (.iload_n 2, 1) := by decide +kernel
theorem dX6_laysOld_29 : decode cX6_laysOld 29 = .ok (.iadd, 1) := by decide +kernel
theorem dX6_laysOld_30 : decode cX6_laysOld 30 = .ok (.iconst 1, 1) := by decide +kernel
theorem dX6_laysOld_31 : decode cX6_laysOld 31 = .ok (.isub, 1) := by decide +kernel
theorem dX6_laysOld_32 : decode cX6_laysOld 32 = .ok (.iaload, 1) := by decide +kernel
theorem dX6_laysOld_33 : decode cX6_laysOld 33 = .ok (.goto 4, 3) := by decide +kernel
theorem dX6_laysOld_36 : decode cX6_laysOld 36 = .ok (.iconst 0, 1) := by decide +kernel
theorem dX6_laysOld_37 : decode cX6_laysOld 37 = .ok (.istore_n 3, 1) := by decide +kernel
theorem dX6_laysOld_38 : decode cX6_laysOld 38 = .ok (.aload_n 0, 1) := by decide +kernel
theorem dX6_laysOld_39 : decode cX6_laysOld 39 = .ok (.getfield 45, 3) := by decide +kernel
theorem dX6_laysOld_42 : decode cX6_laysOld 42 = .ok (.iload_n 2, 1) := by decide +kernel
theorem dX6_laysOld_43 : decode cX6_laysOld 43 = .ok (.iload_n 3, 1) := by decide +kernel
theorem dX6_laysOld_44 : decode cX6_laysOld 44 = .ok (.sipush (-999), 3) := by decide +kernel
theorem dX6_laysOld_47 : decode cX6_laysOld 47 = .ok (.if_icmp .ge 9, 3) := by decide +kernel
theorem dX6_laysOld_50 : decode cX6_laysOld 50 = .ok (.sipush (-999), 3) := by decide +kernel
theorem dX6_laysOld_53 : decode cX6_laysOld 53 = .ok (.goto 17, 3) := by decide +kernel
theorem dX6_laysOld_56 : decode cX6_laysOld 56 = .ok (.iload_n 3, 1) := by decide +kernel
theorem dX6_laysOld_57 : decode cX6_laysOld 57 = .ok (.sipush 999, 3) := by decide +kernel
theorem dX6_laysOld_60 : decode cX6_laysOld 60 = .ok (.if_icmp .le 9, 3) := by decide +kernel
theorem dX6_laysOld_63 : decode cX6_laysOld 63 = .ok (.sipush 999, 3) := by decide +kernel
theorem dX6_laysOld_66 : decode cX6_laysOld 66 = .ok (.goto 4, 3) := by decide +kernel
theorem dX6_laysOld_69 : decode cX6_laysOld 69 = .ok (.iload_n 3, 1) := by decide +kernel
theorem dX6_laysOld_70 : decode cX6_laysOld 70 = .ok (.iastore, 1) := by decide +kernel
theorem dX6_laysOld_71 : decode cX6_laysOld 71 = .ok (.iinc 2 1, 3) := by decide +kernel
theorem dX6_laysOld_74 : decode cX6_laysOld 74 = .ok (.goto (-72), 3) := by decide +kernel
theorem dX6_laysOld_77 : decode cX6_laysOld 77 = .ok (.return_, 1) := by decide +kernel
theorem dX6_slews_0 : decode cX6_slews 0 = .ok (.iconst 0, 1) := by decide +kernel
theorem dX6_slews_1 : decode cX6_slews 1 = .ok (.istore_n 1, 1) := by decide +kernel
theorem dX6_slews_2 : decode cX6_slews 2 = .ok (.iconst 0, 1) := by decide +kernel
theorem dX6_slews_3 : decode cX6_slews 3 = .ok (.istore_n 2, 1) := by decide +kernel
theorem dX6_slews_4 : decode cX6_slews 4 = .ok (.iconst 1, 1) := by decide +kernel
theorem dX6_slews_5 : decode cX6_slews 5 = .ok (.istore_n 3, 1) := by decide +kernel
theorem dX6_slews_6 : decode cX6_slews 6 = .ok (.iload_n 3, 1) := by decide +kernel
theorem dX6_slews_7 : decode cX6_slews 7 = .ok (.aload_n 0, 1) := by decide +kernel
theorem dX6_slews_8 : decode cX6_slews 8 = .ok (.getfield 130, 3) := by decide +kernel
theorem dX6_slews_11 : decode cX6_slews 11 = .ok (.if_icmp .gt 36, 3) := by decide +kernel
theorem dX6_slews_14 : decode cX6_slews 14 = .ok (.iload_n 1, 1) := by decide +kernel
theorem dX6_slews_15 : decode cX6_slews 15 = .ok (.aload_n 0, 1) := by decide +kernel
theorem dX6_slews_16 : decode cX6_slews 16 = .ok (.getfield 45, 3) := by decide +kernel
theorem dX6_slews_19 : decode cX6_slews 19 = .ok (.iload_n 3, 1) := by decide +kernel
theorem dX6_slews_20 : decode cX6_slews 20 = .ok (.iaload, 1) := by decide +kernel
theorem dX6_slews_21 : decode cX6_slews 21 = .ok (.iadd, 1) := by decide +kernel
theorem dX6_slews_22 : decode cX6_slews 22 = .ok (.istore_n 1, 1) := by decide +kernel
theorem dX6_slews_23 : decode cX6_slews 23 = .ok (.iload_n 2, 1) := by decide +kernel
theorem dX6_slews_24 : decode cX6_slews 24 = .ok (.iload_n 1, 1) := by decide +kernel
theorem dX6_slews_25 : decode cX6_slews 25 = .ok (.iadd, 1) := by decide +kernel
theorem dX6_slews_26 : decode cX6_slews 26 = .ok (.istore_n 2, 1) := by decide +kernel
theorem dX6_slews_27 : decode cX6_slews 27 = .ok (.aload_n 0, 1) := by decide +kernel
theorem dX6_slews_28 : decode cX6_slews 28 = .ok (.getfield 48, 3) := by decide +kernel
theorem dX6_slews_31 : decode cX6_slews 31 = .ok (.iload_n 3, 1) := by decide +kernel
theorem dX6_slews_32 : decode cX6_slews 32 = .ok (.iload_n 2, 1) := by decide +kernel
theorem dX6_slews_33 : decode cX6_slews 33 = .ok (.aload_n 0, 1) := by decide +kernel
theorem dX6_slews_34 : decode cX6_slews 34 = .ok (.getfield 30, 3) := by decide +kernel
theorem dX6_slews_37 : decode cX6_slews 37 = .ok (.iload_n 3, 1) := by decide +kernel
theorem dX6_slews_38 : decode cX6_slews 38 = .ok (.iaload, 1) := by decide +kernel
theorem dX6_slews_39 : decode cX6_slews 39 = .ok (.isub, 1) := by decide +kernel
theorem dX6_slews_40 : decode cX6_slews 40 = .ok (.iastore, 1) := by decide +kernel
theorem dX6_slews_41 : decode cX6_slews 41 = .ok (.iinc 3 1, 3) := by decide +kernel
theorem dX6_slews_44 : decode cX6_slews 44 = .ok (.goto (-38), 3) := by decide +kernel
theorem dX6_slews_47 : decode cX6_slews 47 = .ok (.return_, 1) := by decide +kernel
set_option maxRecDepth 100000 in
theorem ggX6_widest_X6_abs : GoodIn wsX6_widest wsX6_abs := goodIn_g _ [6] [0] rfl (by decide +kernel)
set_option maxRecDepth 100000 in
theorem gX6_widest_X6_abs : GoodIn wsX6_widest (va_wsS RX6 139 yX6_abs wsX6_abs) := goodIn_app (goodIn_of _ (by decide +kernel)) ggX6_widest_X6_abs
theorem dX6_widest_0 : decode cX6_widest 0 = .ok (.iconst (-1), 1) := by decide +kernel
theorem dX6_widest_1 : decode cX6_widest 1 = .ok (.istore_n 1, 1) := by decide +kernel
theorem dX6_widest_2 : decode cX6_widest 2 = .ok (.iconst 1, 1) := by decide +kernel
theorem dX6_widest_3 : decode cX6_widest 3 = .ok (.istore_n 2, 1) := by decide +kernel
theorem dX6_widest_4 : decode cX6_widest 4 = .ok (.iload_n 2, 1) := by decide +kernel
theorem dX6_widest_5 : decode cX6_widest 5 = .ok (.aload_n 0, 1) := by decide +kernel
theorem dX6_widest_6 : decode cX6_widest 6 = .ok (.getfield 130, 3) := by decide +kernel
theorem dX6_widest_9 : decode cX6_widest 9 = .ok (.if_icmp .gt 40, 3) := by decide +kernel
theorem dX6_widest_12 : decode cX6_widest 12 = .ok (.iload_n 1, 1) := by decide +kernel
theorem dX6_widest_13 : decode cX6_widest 13 = .ok (.ifCond .lt 24, 3) := by decide +kernel
theorem dX6_widest_16 : decode cX6_widest 16 = .ok (.aload_n 0, 1) := by decide +kernel
theorem dX6_widest_17 : decode cX6_widest 17 = .ok (.getfield 48, 3) := by decide +kernel
theorem dX6_widest_20 : decode cX6_widest 20 = .ok (.iload_n 2, 1) := by decide +kernel
theorem dX6_widest_21 : decode cX6_widest 21 = .ok (.iaload, 1) := by decide +kernel
theorem dX6_widest_22 : decode cX6_widest 22 = .ok (.invokestatic 139, 3) := by decide +kernel
theorem dX6_widest_25 : decode cX6_widest 25 = .ok (.aload_n 0, 1) := by decide +kernel
theorem dX6_widest_26 : decode cX6_widest 26 = .ok (.getfield 48, 3) := by decide +kernel
theorem dX6_widest_29 : decode cX6_widest 29 = .ok (.iload_n 1, 1) := by decide +kernel
theorem dX6_widest_30 : decode cX6_widest 30 = .ok (.iaload, 1) := by decide +kernel
theorem dX6_widest_31 : decode cX6_widest 31 = .ok (.invokestatic 139, 3) := by decide +kernel
theorem dX6_widest_34 : decode cX6_widest 34 = .ok (.if_icmp .le 7, 3) := by decide +kernel
theorem dX6_widest_37 : decode cX6_widest 37 = .ok (.iload_n 2, 1) := by decide +kernel
theorem dX6_widest_38 : decode cX6_widest 38 = .ok (.goto 4, 3) := by decide +kernel
theorem dX6_widest_41 : decode cX6_widest 41 = .ok (.iload_n 1, 1) := by decide +kernel
theorem dX6_widest_42 : decode cX6_widest 42 = .ok (.istore_n 1, 1) := by decide +kernel
theorem dX6_widest_43 : decode cX6_widest 43 = .ok (.iinc 2 1, 3) := by decide +kernel
theorem dX6_widest_46 : decode cX6_widest 46 = .ok (.goto (-42), 3) := by decide +kernel
theorem dX6_widest_49 : decode cX6_widest 49 = .ok (.iload_n 1, 1) := by decide +kernel
theorem dX6_widest_50 : decode cX6_widest 50 = .ok (.ireturn, 1) := by decide +kernel
set_option maxRecDepth 100000 in
theorem ggX6_most_X6_widest : GoodIn wsX6_most wsX6_widest := goodIn_g _ [1, 3, 0, 0, 0, 0, 0, 0, 0, 0, 0, 0, 0, 0, 0, 0, 0, 0, 0, 0, 0, 0, 0, 0, 0, 0, 0, 0, 0, 0, 0, 0, 0, 0, 0] [2, 3, 0, 4, 5, 1, 6, 7, 8, 9, 10, 11, 12, 13, 14, 15, 16, 17, 18, 19, 20, 21, 22, 23, 24, 25, 26, 27, 28, 29, 30, 31, 32, 33, 34] rfl (by decide +kernel)
set_option maxRecDepth 100000 in
theorem gX6_most_X6_widest : GoodIn wsX6_most (wsV RX6 206 RX6 yX6_widest wsX6_widest) := goodIn_app (goodIn_of _ (by decide +kernel)) ggX6_most_X6_widest
set_option maxRecDepth 100000 in
theorem ggX6_most_X6_abs : GoodIn wsX6_most wsX6_abs := goodIn_g _ [10] [0] rfl (by decide +kernel)
set_option maxRecDepth 100000 in
theorem gX6_most_X6_abs : GoodIn wsX6_most (va_wsS RX6 139 yX6_abs wsX6_abs) := goodIn_app (goodIn_of _ (by decide +kernel)) ggX6_most_X6_abs
theorem dX6_most_0 : decode cX6_most 0 = .ok (.aload_n 0, 1) := by decide +kernel
theorem dX6_most_1 : decode cX6_most 1 = .ok (.invokevirtual 206, 3) := by decide +kernel
theorem dX6_most_4 : decode cX6_most 4 = .ok (.istore_n 1, 1) := by decide +kernel
theorem dX6_most_5 : decode cX6_most 5 = .ok (.iload_n 1, 1) := by decide +kernel
theorem dX6_most_6 : decode cX6_most 6 = .ok (.ifCond .ge 7, 3) := by decide +kernel
theorem dX6_most_9 : decode cX6_most 9 = .ok (.iconst 0, 1) := by decide +kernel
theorem dX6_most_10 : decode cX6_most 10 = .ok (.goto 12, 3) := by decide +kernel
theorem dX6_most_13 : decode cX6_most 13 = .ok (.aload_n 0, 1) := by decide +kernel
theorem dX6_most_14 : decode cX6_most 14 = .ok (.getfield 48, 3) := by decide +kernel
theorem dX6_most_17 : decode cX6_most 17 = .ok (.iload_n 1, 1) := by decide +kernel
theorem dX6_most_18 : decode cX6_most 18 = .ok (.iaload, 1) := by decide +kernel
theorem dX6_most_19 : decode cX6_most 19 = .ok (.invokestatic 139, 3) := by decide +kernel
theorem dX6_most_22 : decode cX6_most 22 = .ok (.ireturn, 1) := by decide +kernel
set_option maxRecDepth 100000 in
theorem ggX6_slew_X6_lays : GoodIn wsX6_slew wsX6_lays := goodIn_g _ [1, 6, 0, 0, 0, 0, 0, 0, 0, 0, 0, 0, 0, 0, 0, 0, 18, 0, 0, 0, 0, 0, 0, 0, 0, 0, 0, 0, 0, 0, 0, 0, 0, 0, 0, 0, 0, 0, 0, 0, 0, 0, 0, 0] [2, 0, 3, 4, 5, 6, 7, 8, 9, 10, 11, 1, 12, 13, 14, 15, 16, 17, 18, 19, 20, 21, 22, 23, 24, 25, 26, 27, 28, 29, 30, 31, 32, 33, 34, 35, 36, 37, 38, 39, 40, 41, 42, 43] rfl (by decide +kernel)
set_option maxRecDepth 100000 in
theorem gX6_slew_X6_lays : GoodIn wsX6_slew (wsV RX6 134 RX6 yX6_lays wsX6_lays) := goodIn_app (goodIn_of _ (by decide +kernel)) ggX6_slew_X6_lays
set_option maxRecDepth 100000 in
theorem ggX6_slew_X6_in : GoodIn wsX6_slew wsX6_in := goodIn_g _ [25] [0] rfl (by decide +kernel)
set_option maxRecDepth 100000 in
theorem gX6_slew_X6_in : GoodIn wsX6_slew (va_wsS RX6 67 yX6_in wsX6_in) := goodIn_app (goodIn_of _ (by decide +kernel)) ggX6_slew_X6_in
set_option maxRecDepth 100000 in
theorem ggX6_slew_X6_isSheet : GoodIn wsX6_slew wsX6_isSheet := goodIn_g _ [8, 14, 0, 0, 2, 0] [4, 5, 1, 2, 0, 3] rfl (by decide +kernel)
set_option maxRecDepth 100000 in
theorem gX6_slew_X6_isSheet : GoodIn wsX6_slew (va_wsS RX6 201 yX6_isSheet wsX6_isSheet) := goodIn_app (goodIn_of _ (by decide +kernel)) ggX6_slew_X6_isSheet
set_option maxRecDepth 100000 in
theorem ggX6_slew_X6_laysOld : GoodIn wsX6_slew wsX6_laysOld := goodIn_g _ [1, 31, 0, 0, 0, 4, 0, 0, 0, 0, 0, 0, 0, 0, 0, 0, 0, 0, 0, 0, 0, 0, 0, 0, 0, 0, 0, 0, 0, 0, 0, 0, 0] [1, 0, 2, 3, 4, 5, 6, 7, 8, 9, 10, 11, 12, 13, 14, 15, 16, 17, 18, 19, 20, 21, 22, 23, 24, 25, 26, 27, 28, 29, 30, 31, 32] rfl (by decide +kernel)
set_option maxRecDepth 100000 in
theorem gX6_slew_X6_laysOld : GoodIn wsX6_slew (wsV RX6 210 RX6 yX6_laysOld wsX6_laysOld) := goodIn_app (goodIn_of _ (by decide +kernel)) ggX6_slew_X6_laysOld
set_option maxRecDepth 100000 in
theorem ggX6_slew_X6_slews : GoodIn wsX6_slew wsX6_slews := goodIn_g _ [1, 2, 10, 20, 3, 0, 0, 0, 0, 0, 0, 0, 0, 0, 0, 0, 0, 0, 0, 0, 0, 0, 0, 0, 0, 0, 0, 0, 0, 0, 0, 0, 0] [4, 0, 3, 1, 2, 5, 6, 7, 8, 9, 10, 11, 12, 13, 14, 15, 16, 17, 18, 19, 20, 21, 22, 23, 24, 25, 26, 27, 28, 29, 30, 31, 32] rfl (by decide +kernel)
set_option maxRecDepth 100000 in
theorem gX6_slew_X6_slews : GoodIn wsX6_slew (wsV RX6 213 RX6 yX6_slews wsX6_slews) := goodIn_app (goodIn_of _ (by decide +kernel)) ggX6_slew_X6_slews
theorem dX6_slew_0 : decode cX6_slew 0 = .ok (.aload_n 0, 1) := by decide +kernel
theorem dX6_slew_1 : decode cX6_slew 1 = .ok (.invokevirtual 134, 3) := by decide +kernel
theorem dX6_slew_4 : decode cX6_slew 4 = .ok (.iload_n 2, 1) := by decide +kernel
theorem dX6_slew_5 : decode cX6_slew 5 = .ok (.i2l, 1) := by decide +kernel
theorem dX6_slew_6 : decode cX6_slew 6 = .ok (.lconst 0, 1) := by decide +kernel
theorem dX6_slew_7 : decode cX6_slew 7 = .ok (.aload_n 0, 1) := by decide +kernel
theorem dX6_slew_8 : decode cX6_slew 8 = .ok (.getfield 130, 3) := by decide +kernel
theorem dX6_slew_11 : decode cX6_slew 11 = .ok (.i2l, 1) := by decide +kernel
theorem dX6_slew_12 : decode cX6_slew 12 = .ok (.invokestatic 67, 3) := by decide +kernel
theorem dX6_slew_15 : decode cX6_slew 15 = .ok (.ifCond .eq 19, 3) := by decide +kernel
theorem dX6_slew_18 : decode cX6_slew 18 = .ok (.iload_n 1, 1) := by decide +kernel
theorem dX6_slew_19 : decode cX6_slew 19 = .ok (.invokestatic 201, 3) := by decide +kernel
theorem dX6_slew_22 : decode cX6_slew 22 = .ok (.ifCond .eq 12, 3) := by decide +kernel
theorem dX6_slew_25 : decode cX6_slew 25 = .ok (.aload_n 0, 1) := by decide +kernel
theorem dX6_slew_26 : decode cX6_slew 26 = .ok (.getfield 33, 3) := by decide +kernel
theorem dX6_slew_29 : decode cX6_slew 29 = .ok (.iload_n 1, 1) := by decide +kernel
theorem dX6_slew_30 : decode cX6_slew 30 = .ok (.iaload, 1) := by decide +kernel
theorem dX6_slew_31 : decode cX6_slew 31 = .ok (.ifCond .ge 7, 3) := by decide +kernel
theorem dX6_slew_34 : decode cX6_slew 34 = .ok (.ldc2_w 125, 3) := by decide +kernel
theorem dX6_slew_37 : decode cX6_slew 37 = .ok (.lreturn, 1) := by decide +kernel
theorem dX6_slew_38 : decode cX6_slew 38 = .ok (.aload_n 0, 1) := by decide +kernel
theorem dX6_slew_39 : decode cX6_slew 39 = .ok (.iload_n 1, 1) := by decide +kernel
theorem dX6_slew_40 : decode cX6_slew 40 = .ok (.invokevirtual 210, 3) := by decide +kernel
theorem dX6_slew_43 : decode cX6_slew 43 = .ok (.aload_n 0, 1) := by decide +kernel
theorem dX6_slew_44 : decode cX6_slew 44 = .ok (.invokevirtual 213, 3) := by decide +kernel
theorem dX6_slew_47 : decode cX6_slew 47 = .ok (.aload_n 0, 1) := by decide +kernel
theorem dX6_slew_48 : decode cX6_slew 48 = .ok (.getfield 48, 3) := by decide +kernel
theorem dX6_slew_51 : decode cX6_slew 51 = .ok (.iload_n 2, 1) := by decide +kernel
theorem dX6_slew_52 : decode cX6_slew 52 = .ok (.iaload, 1) := by decide +kernel
theorem dX6_slew_53 : decode cX6_slew 53 = .ok (.i2l, 1) := by decide +kernel
theorem dX6_slew_54 : decode cX6_slew 54 = .ok (.lreturn, 1) := by decide +kernel
set_option maxRecDepth 100000 in
theorem ggX6_slews__X6_isSheet : GoodIn wsX6_slews_ wsX6_isSheet := goodIn_g _ [8, 0, 0, 0, 0, 0] [1, 2, 3, 4, 0, 5] rfl (by decide +kernel)
set_option maxRecDepth 100000 in
theorem gX6_slews__X6_isSheet : GoodIn wsX6_slews_ (va_wsS RX6 201 yX6_isSheet wsX6_isSheet) := goodIn_app (goodIn_of _ (by decide +kernel)) ggX6_slews__X6_isSheet
set_option maxRecDepth 100000 in
theorem ggX6_slews__X6_in : GoodIn wsX6_slews_ wsX6_in := goodIn_g _ [13] [0] rfl (by decide +kernel)
set_option maxRecDepth 100000 in
theorem gX6_slews__X6_in : GoodIn wsX6_slews_ (va_wsS RX6 67 yX6_in wsX6_in) := goodIn_app (goodIn_of _ (by decide +kernel)) ggX6_slews__X6_in
set_option maxRecDepth 100000 in
theorem ggX6_slews__X6_lays : GoodIn wsX6_slews_ wsX6_lays := goodIn_g _ [4, 3, 8, 0, 0, 0, 0, 0, 0, 0, 0, 0, 0, 0, 0, 0, 18, 0, 0, 0, 0, 0, 0, 0, 0, 0, 0, 0, 0, 0, 0, 0, 0, 0, 0, 0, 0, 0, 0, 0, 0, 0, 0, 0] [2, 0, 3, 4, 5, 6, 7, 8, 9, 10, 11, 1, 12, 13, 14, 15, 16, 17, 18, 19, 20, 21, 22, 23, 24, 25, 26, 27, 28, 29, 30, 31, 32, 33, 34, 35, 36, 37, 38, 39, 40, 41, 42, 43] rfl (by decide +kernel)
set_option maxRecDepth 100000 in
theorem gX6_slews__X6_lays : GoodIn wsX6_slews_ (wsV RX6 134 RX6 yX6_lays wsX6_lays) := goodIn_app (goodIn_of _ (by decide +kernel)) ggX6_slews__X6_lays
set_option maxRecDepth 100000 in
theorem ggX6_slews__X6_laysOld : GoodIn wsX6_slews_ wsX6_laysOld := goodIn_g _ [4, 29, 0, 0, 0, 11, 0, 0, 0, 0, 0, 0, 0, 0, 0, 0, 0, 0, 0, 0, 0, 0, 0, 0, 0, 0, 0, 0, 0, 0, 0, 0, 0] [1, 0, 2, 3, 4, 5, 6, 7, 8, 9, 10, 11, 12, 13, 14, 15, 16, 17, 18, 19, 20, 21, 22, 23, 24, 25, 26, 27, 28, 29, 30, 31, 32] rfl (by decide +kernel)
set_option maxRecDepth 100000 in
theorem gX6_slews__X6_laysOld : GoodIn wsX6_slews_ (wsV RX6 210 RX6 yX6_laysOld wsX6_laysOld) := goodIn_app (goodIn_of _ (by decide +kernel)) ggX6_slews__X6_laysOld
set_option maxRecDepth 100000 in
theorem ggX6_slews__X6_slews : GoodIn wsX6_slews_ wsX6_slews := goodIn_g _ [4, 0, 17, 13, 3, 7, 0, 0, 0, 0, 0, 0, 0, 0, 0, 0, 0, 0, 0, 0, 0, 0, 0, 0, 0, 0, 0, 0, 0, 0, 0, 0, 0] [4, 0, 3, 1, 2, 5, 6, 7, 8, 9, 10, 11, 12, 13, 14, 15, 16, 17, 18, 19, 20, 21, 22, 23, 24, 25, 26, 27, 28, 29, 30, 31, 32] rfl (by decide +kernel)
set_option maxRecDepth 100000 in
theorem gX6_slews__X6_slews : GoodIn wsX6_slews_ (wsV RX6 213 RX6 yX6_slews wsX6_slews) := goodIn_app (goodIn_of _ (by decide +kernel)) ggX6_slews__X6_slews
set_option maxRecDepth 100000 in
theorem ggX6_slews__X6_abs : GoodIn wsX6_slews_ wsX6_abs := goodIn_g _ [44] [0] rfl (by decide +kernel)
set_option maxRecDepth 100000 in
theorem gX6_slews__X6_abs : GoodIn wsX6_slews_ (va_wsS RX6 139 yX6_abs wsX6_abs) := goodIn_app (goodIn_of _ (by decide +kernel)) ggX6_slews__X6_abs
set_option maxRecDepth 100000 in
theorem ggX6_slews__X6_widest : GoodIn wsX6_slews_ wsX6_widest := goodIn_g _ [4, 0, 2, 33, 0, 0, 3, 0, 0, 0, 0, 0, 0, 0, 0, 0, 0, 0, 0, 0, 0, 0, 0, 0, 0, 0, 0, 0, 0, 0, 0, 0, 0, 0, 0] [6, 0, 1, 3, 4, 2, 5, 7, 8, 9, 10, 11, 12, 13, 14, 15, 16, 17, 18, 19, 20, 21, 22, 23, 24, 25, 26, 27, 28, 29, 30, 31, 32, 33, 34] rfl (by decide +kernel)
set_option maxRecDepth 100000 in
theorem gX6_slews__X6_widest : GoodIn wsX6_slews_ (wsV RX6 206 RX6 yX6_widest wsX6_widest) := goodIn_app (goodIn_of _ (by decide +kernel)) ggX6_slews__X6_widest
theorem dX6_slews__0 : decode cX6_slews_ 0 = .ok (.iload_n 1, 1) := by decide +kernel
theorem dX6_slews__1 : decode cX6_slews_ 1 = .ok (.invokestatic 201, 3) := by decide +kernel
theorem dX6_slews__4 : decode cX6_slews_ 4 = .ok (.ifCond .eq 24, 3) := by decide +kernel
theorem dX6_slews__7 : decode cX6_slews_ 7 = .ok (.aload_n 0, 1) := by decide +kernel
theorem dX6_slews__8 : decode cX6_slews_ 8 = .ok (.getfield 33, 3) := by decide +kernel
theorem dX6_slews__11 : decode cX6_slews_ 11 = .ok (.iload_n 1, 1) := by decide +kernel
theorem dX6_slews__12 : decode cX6_slews_ 12 = .ok (.iaload, 1) := by decide +kernel
theorem dX6_slews__13 : decode cX6_slews_ 13 = .ok (.ifCond .lt 15, 3) := by decide +kernel
theorem dX6_slews__16 : decode cX6_slews_ 16 = .ok (.iload_n 2, 1) := by decide +kernel
theorem dX6_slews__17 : decode cX6_slews_ 17 = .ok (.i2l, 1) := by decide +kernel
theorem dX6_slews__18 : decode cX6_slews_ 18 = .ok (.lconst 0, 1) := by decide +kernel
theorem dX6_slews__19 : decode cX6_slews_ 19 = .ok (.ldc2_w 148, 3) := by decide +kernel
theorem dX6_slews__22 : decode cX6_slews_ 22 = .ok (.invokestatic 67, 3) := by decide +kernel
theorem dX6_slews__25 : decode cX6_slews_ 25 = .ok (.ifCond .ne 7, 3) := by decide +kernel
theorem dX6_slews__28 : decode cX6_slews_ 28 = .ok (.ldc2_w 125, 3) := by decide +kernel
theorem dX6_slews__31 : decode cX6_slews_ 31 = .ok (.lreturn, 1) := by decide +kernel
theorem dX6_slews__32 : decode cX6_slews_ 32 = .ok (.aload_n 0, 1) := by decide +kernel
theorem dX6_slews__33 : decode cX6_slews_ 33 = .ok (.invokevirtual 134, 3) := by decide +kernel
theorem dX6_slews__36 : decode cX6_slews_ 36 = .ok (.aload_n 0, 1) := by decide +kernel
theorem dX6_slews__37 : decode cX6_slews_ 37 = .ok (.iload_n 1, 1) := by decide +kernel
theorem dX6_slews__38 : decode cX6_slews_ 38 = .ok (.invokevirtual 210, 3) := by decide +kernel
theorem dX6_slews__41 : decode cX6_slews_ 41 = .ok (.aload_n 0, 1) := by decide +kernel
theorem dX6_slews__42 : decode cX6_slews_ 42 = .ok (.invokevirtual 213, 3) := by decide +kernel
theorem dX6_slews__45 : decode cX6_slews_ 45 = .ok (.lconst 0, 1) := by decide +kernel
theorem dX6_slews__46 : decode cX6_slews_ 46 = .ok (.lstore_n 3, 1) := by decide +kernel
theorem dX6_slews__47 : decode cX6_slews_ 47 = .ok (.iconst 1, 1) := by decide +kernel
theorem dX6_slews__48 : decode cX6_slews_ 48 = .ok (.istore 5, 2) := by decide +kernel
theorem dX6_slews__50 : decode cX6_slews_ 50 = .ok (.iload 5, 2) := by decide +kernel
theorem dX6_slews__52 : decode cX6_slews_ 52 = .ok (.aload_n 0, 1) := by decide +kernel
theorem dX6_slews__53 : decode cX6_slews_ 53 = .ok (.getfield 130, 3) := by decide +kernel
theorem dX6_slews__56 : decode cX6_slews_ 56 = .ok (.if_icmp .gt 23, 3) := by decide +kernel
theorem dX6_slews__59 : decode cX6_slews_ 59 = .ok (.lload_n 3, 1) := by decide +kernel
theorem dX6_slews__60 : decode cX6_slews_ 60 = .ok (.aload_n 0, 1) := by decide +kernel
theorem dX6_slews__61 : decode cX6_slews_ 61 = .ok (.getfield 48, 3) := by decide +kernel
theorem dX6_slews__64 : decode cX6_slews_ 64 = .ok (.iload 5, 2) := by decide +kernel
theorem dX6_slews__66 : decode cX6_slews_ 66 = .ok (.iaload, 1) := by decide +kernel
theorem dX6_slews__67 : decode cX6_slews_ 67 = .ok (.invokestatic 139, 3) := by decide +kernel
theorem dX6_slews__70 : decode cX6_slews_ 70 = .ok (.i2l, 1) := by decide +kernel
theorem dX6_slews__71 : decode cX6_slews_ 71 = .ok (.ladd, 1) := by decide +kernel
theorem dX6_slews__72 : decode cX6_slews_ 72 = .ok (.lstore_n 3, 1) := by decide +kernel
theorem dX6_slews__73 : decode cX6_slews_ 73 = .ok (.iinc 5 1, 3) := by decide +kernel
theorem dX6_slews__76 : decode cX6_slews_ 76 = .ok (.goto (-26), 3) := by decide +kernel
theorem dX6_slews__79 : decode cX6_slews_ 79 = .ok (.iload_n 2, 1) := by decide +kernel
theorem dX6_slews__80 : decode cX6_slews_ 80 = .ok (.ifCond .ne 11, 3) := by decide +kernel
theorem dX6_slews__83 : decode cX6_slews_ 83 = .ok (.aload_n 0, 1) := by decide +kernel
theorem dX6_slews__84 : decode cX6_slews_ 84 = .ok (.invokevirtual 206, 3) := by decide +kernel
theorem dX6_slews__87 : decode cX6_slews_ 87 = .ok (.i2l, 1) := by decide +kernel
theorem dX6_slews__88 : decode cX6_slews_ 88 = .ok (.goto 22, 3) := by decide +kernel
theorem dX6_slews__91 : decode cX6_slews_ 91 = .ok (.iload_n 2, 1) := by decide +kernel
theorem dX6_slews__92 : decode cX6_slews_ 92 = .ok (.iconst 1, 1) := by decide +kernel
theorem dX6_slews__93 : decode cX6_slews_ 93 = .ok (.if_icmp .ne 7, 3) := by decide +kernel
theorem dX6_slews__96 : decode cX6_slews_ 96 = .ok (.lload_n 3, 1) := by decide +kernel
theorem dX6_slews__97 : decode cX6_slews_ 97 = .ok (.goto 13, 3) := by decide +kernel
theorem dX6_slews__100 : decode cX6_slews_ 100 = .ok (.aload_n 0, 1) := by decide +kernel
theorem dX6_slews__101 : decode cX6_slews_ 101 = .ok (.getfield 48, 3) := by decide +kernel
theorem dX6_slews__104 : decode cX6_slews_ 104 = .ok (.aload_n 0, 1) := by decide +kernel
theorem dX6_slews__105 : decode cX6_slews_ 105 = .ok (.getfield 130, 3) := by decide +kernel
theorem dX6_slews__108 : decode cX6_slews_ 108 = .ok (.iaload, 1) := by decide +kernel
theorem dX6_slews__109 : decode cX6_slews_ 109 = .ok (.i2l, 1) := by decide +kernel
theorem dX6_slews__110 : decode cX6_slews_ 110 = .ok (.lreturn, 1) := by decide +kernel
set_option maxRecDepth 100000 in
theorem ggX6_by_X6_isSheet : GoodIn wsX6_by wsX6_isSheet := goodIn_g _ [5, 0, 0, 0, 0, 0] [1, 2, 3, 4, 0, 5] rfl (by decide +kernel)
set_option maxRecDepth 100000 in
theorem gX6_by_X6_isSheet : GoodIn wsX6_by (va_wsS RX6 201 yX6_isSheet wsX6_isSheet) := goodIn_app (goodIn_of _ (by decide +kernel)) ggX6_by_X6_isSheet
set_option maxRecDepth 100000 in
theorem ggX6_by_X6_isPiece : GoodIn wsX6_by wsX6_isPiece := goodIn_g _ [2, 2, 2, 0, 0, 3, 40, 0, 0, 0, 0, 0, 0, 0, 0, 0, 0, 0, 0, 0, 0, 0, 0, 0, 0, 0, 0, 0, 0, 0, 0, 0, 0, 0] [5, 0, 2, 3, 1, 4, 6, 7, 8, 9, 10, 11, 12, 13, 14, 15, 16, 17, 18, 19, 20, 21, 22, 23, 24, 25, 26, 27, 28, 29, 30, 31, 32, 33] rfl (by decide +kernel)
set_option maxRecDepth 100000 in
theorem gX6_by_X6_isPiece : GoodIn wsX6_by (wsV RX6 85 RX6 yX6_isPiece wsX6_isPiece) := goodIn_app (goodIn_of _ (by decide +kernel)) ggX6_by_X6_isPiece
set_option maxRecDepth 100000 in
theorem ggX6_by_X6_of0 : GoodIn wsX6_by wsX6_of0 := goodIn_g _ [2, 15, 36, 0, 0, 0, 0, 0, 0, 0, 0, 0, 0, 0, 0, 0, 0, 0, 0, 0, 0, 0, 0, 0, 0, 0, 0, 0, 0, 0] [1, 0, 2, 3, 4, 5, 6, 7, 8, 9, 10, 11, 12, 13, 14, 15, 16, 17, 18, 19, 20, 21, 22, 23, 24, 25, 26, 27, 28, 29] rfl (by decide +kernel)
set_option maxRecDepth 100000 in
theorem gX6_by_X6_of0 : GoodIn wsX6_by (wsV RX6 91 RX6 yX6_of0 wsX6_of0) := goodIn_app (goodIn_of _ (by decide +kernel)) ggX6_by_X6_of0
set_option maxRecDepth 100000 in
theorem ggX6_by_X6_lays : GoodIn wsX6_by wsX6_lays := goodIn_g _ [2, 2, 9, 0, 0, 0, 3, 0, 0, 0, 0, 0, 0, 0, 0, 0, 23, 0, 0, 0, 0, 0, 0, 0, 0, 0, 0, 0, 0, 0, 0, 0, 0, 0, 0, 0, 0, 0, 0, 0, 0, 0, 0, 0] [6, 7, 0, 8, 9, 10, 11, 12, 2, 3, 4, 1, 5, 13, 14, 15, 16, 17, 18, 19, 20, 21, 22, 23, 24, 25, 26, 27, 28, 29, 30, 31, 32, 33, 34, 35, 36, 37, 38, 39, 40, 41, 42, 43] rfl (by decide +kernel)
set_option maxRecDepth 100000 in
theorem gX6_by_X6_lays : GoodIn wsX6_by (wsV RX6 134 RX6 yX6_lays wsX6_lays) := goodIn_app (goodIn_of _ (by decide +kernel)) ggX6_by_X6_lays
set_option maxRecDepth 100000 in
theorem ggX6_by_X6_laysOld : GoodIn wsX6_by wsX6_laysOld := goodIn_g _ [23, 11, 0, 0, 0, 16, 0, 0, 0, 0, 0, 0, 0, 0, 0, 0, 0, 0, 0, 0, 0, 0, 0, 0, 0, 0, 0, 0, 0, 0, 0, 0, 0] [1, 0, 2, 3, 4, 5, 6, 7, 8, 9, 10, 11, 12, 13, 14, 15, 16, 17, 18, 19, 20, 21, 22, 23, 24, 25, 26, 27, 28, 29, 30, 31, 32] rfl (by decide +kernel)
set_option maxRecDepth 100000 in
theorem gX6_by_X6_laysOld : GoodIn wsX6_by (wsV RX6 210 RX6 yX6_laysOld wsX6_laysOld) := goodIn_app (goodIn_of _ (by decide +kernel)) ggX6_by_X6_laysOld
set_option maxRecDepth 100000 in
theorem ggX6_by_X6_slews : GoodIn wsX6_by wsX6_slews := goodIn_g _ [23, 4, 9, 3, 0, 11, 0, 0, 0, 0, 0, 0, 0, 0, 0, 0, 0, 0, 0, 0, 0, 0, 0, 0, 0, 0, 0, 0, 0, 0, 0, 0, 0] [3, 0, 2, 4, 1, 5, 6, 7, 8, 9, 10, 11, 12, 13, 14, 15, 16, 17, 18, 19, 20, 21, 22, 23, 24, 25, 26, 27, 28, 29, 30, 31, 32] rfl (by decide +kernel)
set_option maxRecDepth 100000 in
theorem gX6_by_X6_slews : GoodIn wsX6_by (wsV RX6 213 RX6 yX6_slews wsX6_slews) := goodIn_app (goodIn_of _ (by decide +kernel)) ggX6_by_X6_slews
set_option maxRecDepth 100000 in
theorem ggX6_by_X6_most : GoodIn wsX6_by wsX6_most := goodIn_g _ [5, 17, 19, 3, 0, 0, 0, 0, 0, 0, 0, 0, 0, 0, 0, 0, 0, 0, 0, 0, 0, 0, 0, 0, 0, 0, 0, 0, 0, 0, 0, 0, 0, 0, 0, 0, 0, 0, 0] [3, 2, 4, 5, 6, 0, 7, 1, 8, 9, 10, 11, 12, 13, 14, 15, 16, 17, 18, 19, 20, 21, 22, 23, 24, 25, 26, 27, 28, 29, 30, 31, 32, 33, 34, 35, 36, 37, 38] rfl (by decide +kernel)
set_option maxRecDepth 100000 in
theorem gX6_by_X6_most : GoodIn wsX6_by (wsV RX6 216 RX6 yX6_most wsX6_most) := goodIn_app (goodIn_of _ (by decide +kernel)) ggX6_by_X6_most
theorem dX6_by_0 : decode cX6_by 0 = .ok (.iload_n 1, 1) := by decide +kernel
theorem dX6_by_1 : decode cX6_by 1 = .ok (.invokestatic 201, 3) := by decide +kernel
theorem dX6_by_4 : decode cX6_by 4 = .ok (.ifCond .eq 11, 3) := by decide +kernel
theorem dX6_by_7 : decode cX6_by 7 = .ok (.aload_n 0, 1) := by decide +kernel
theorem dX6_by_8 : decode cX6_by 8 = .ok (.iload_n 2, 1) := by decide +kernel
theorem dX6_by_9 : decode cX6_by 9 = .ok (.invokevirtual 85, 3) := by decide +kernel
theorem dX6_by_12 : decode cX6_by 12 = .ok (.ifCond .ne 6, 3) := by decide +kernel
theorem dX6_by_15 : decode cX6_by 15 = .ok (.bipush (-2), 2) := by decide +kernel
theorem dX6_by_17 : decode cX6_by 17 = .ok (.ireturn, 1) := by decide +kernel
theorem dX6_by_18 : decode cX6_by 18 = .ok (.aload_n 0, 1) := by decide +kernel
theorem dX6_by_19 : decode cX6_by 19 = .ok (.getfield 33, 3) := by decide +kernel
theorem dX6_by_22 : decode cX6_by 22 = .ok (.iload_n 1, 1) := by decide +kernel
theorem dX6_by_23 : decode cX6_by 23 = .ok (.iaload, 1) := by decide +kernel
theorem dX6_by_24 : decode cX6_by 24 = .ok (.ifCond .ge 6, 3) := by decide +kernel
theorem dX6_by_27 : decode cX6_by 27 = .ok (.bipush (-11), 2) := by decide +kernel
theorem dX6_by_29 : decode cX6_by 29 = .ok (.ireturn, 1) := by decide +kernel
theorem dX6_by_30 : decode cX6_by 30 = .ok (.aload_n 0, 1) := by decide +kernel
theorem dX6_by_31 : decode cX6_by 31 = .ok (.iload_n 2, 1) := by decide +kernel
theorem dX6_by_32 : decode cX6_by 32 = .ok (.iconst 2, 1) := by decide +kernel
theorem dX6_by_33 : decode cX6_by 33 = .ok (.invokevirtual 91, 3) := by decide +kernel
theorem dX6_by_36 : decode cX6_by 36 = .ok (.istore_n 3, 1) := by decide +kernel
theorem dX6_by_37 : decode cX6_by 37 = .ok (.iconst (-1), 1) := by decide +kernel
theorem dX6_by_38 : decode cX6_by 38 = .ok (.istore 4, 2) := by decide +kernel
theorem dX6_by_40 : decode cX6_by 40 = .ok (.iconst 0, 1) := by decide +kernel
theorem dX6_by_41 : decode cX6_by 41 = .ok (.istore 5, 2) := by decide +kernel
theorem dX6_by_43 : decode cX6_by 43 = .ok (.bipush (-99), 2) := by decide +kernel
theorem dX6_by_45 : decode cX6_by 45 = .ok (.istore 6, 2) := by decide +kernel
theorem dX6_by_47 : decode cX6_by 47 = .ok (.iload 6, 2) := by decide +kernel
theorem dX6_by_49 : decode cX6_by 49 = .ok (.bipush 99, 2) := by decide +kernel
theorem dX6_by_51 : decode cX6_by 51 = .ok (.if_icmp .gt 62, 3) := by decide +kernel
theorem dX6_by_54 : decode cX6_by 54 = .ok (.aload_n 0, 1) := by decide +kernel
theorem dX6_by_55 : decode cX6_by 55 = .ok (.getfield 11, 3) := by decide +kernel
theorem dX6_by_58 : decode cX6_by 58 = .ok (.iconst 4, 1) := by decide +kernel
theorem dX6_by_59 : decode cX6_by 59 = .ok (.iload_n 2, 1) := by decide +kernel
theorem dX6_by_60 : decode cX6_by 60 = .ok (.imul, 1) := by decide +kernel
theorem dX6_by_61 : decode cX6_by 61 = .ok (.iconst 2, 1) := by decide +kernel
theorem dX6_by_62 : decode cX6_by 62 = .ok (.iadd, 1) := by decide +kernel
theorem dX6_by_63 : decode cX6_by 63 = .ok (.iload 6, 2) := by decide +kernel
theorem dX6_by_65 : decode cX6_by 65 = .ok (.iastore, 1) := by decide +kernel
theorem dX6_by_66 : decode cX6_by 66 = .ok (.aload_n 0, 1) := by decide +kernel
theorem dX6_by_67 : decode cX6_by 67 = .ok (.invokevirtual 134, 3) := by decide +kernel
theorem dX6_by_70 : decode cX6_by 70 = .ok (.aload_n 0, 1) := by decide +kernel
theorem dX6_by_71 : decode cX6_by 71 = .ok (.iload_n 1, 1) := by decide +kernel
theorem dX6_by_72 : decode cX6_by 72 = .ok (.invokevirtual 210, 3) := by decide +kernel
theorem dX6_by_75 : decode cX6_by 75 = .ok (.aload_n 0, 1) := by decide +kernel
theorem dX6_by_76 : decode cX6_by 76 = .ok (.invokevirtual 213, 3) := by decide +kernel
theorem dX6_by_79 : decode cX6_by 79 = .ok (.iload 4, 2) := by decide +kernel
theorem dX6_by_81 : decode cX6_by 81 = .ok (.ifCond .lt 12, 3) := by decide +kernel
theorem dX6_by_84 : decode cX6_by 84 = .ok (.aload_n 0, 1) := by decide +kernel
theorem dX6_by_85 : decode cX6_by 85 = .ok (.invokevirtual 216, 3) := by decide +kernel
theorem dX6_by_88 : decode cX6_by 88 = .ok (.iload 5, 2) := by decide +kernel
theorem dX6_by_90 : decode cX6_by 90 = .ok (.if_icmp .ge 17, 3) := by decide +kernel
theorem dX6_by_93 : decode cX6_by 93 = .ok (.sipush 1000, 3) := by decide +kernel
theorem dX6_by_96 : decode cX6_by 96 = .ok (.iload 6, 2) := by decide +kernel
theorem dX6_by_98 : decode cX6_by 98 = .ok (.iadd, 1) := by decide +kernel
theorem dX6_by_99 : decode cX6_by 99 = .ok (.istore 4, 2) := by decide +kernel
theorem dX6_by_101 : decode cX6_by 101 = .ok (.aload_n 0, 1) := by decide +kernel
theorem dX6_by_102 : decode cX6_by 102 = .ok (.invokevirtual 216, 3) := by decide +kernel
theorem dX6_by_105 : decode cX6_by 105 = .ok (.istore 5, 2) := by decide +kernel
theorem dX6_by_107 : decode cX6_by 107 = .ok (.iinc 6 1, 3) := by decide +kernel
theorem dX6_by_110 : decode cX6_by 110 = .ok (.goto (-63), 3) := by decide +kernel
theorem dX6_by_113 : decode cX6_by 113 = .ok (.aload_n 0, 1) := by decide +kernel
theorem dX6_by_114 : decode cX6_by 114 = .ok (.getfield 11, 3) := by decide +kernel
theorem dX6_by_117 : decode cX6_by 117 = .ok (.iconst 4, 1) := by decide +kernel
theorem dX6_by_118 : decode cX6_by 118 = .ok (.iload_n 2, 1) := by decide +kernel
theorem dX6_by_119 : decode cX6_by 119 = .ok (.imul, 1) := by decide +kernel
theorem dX6_by_120 : decode cX6_by 120 = .ok (.iconst 2, 1) := by decide +kernel
theorem dX6_by_121 : decode cX6_by 121 = .ok (.iadd, 1) := by decide +kernel
theorem dX6_by_122 : decode cX6_by 122 = .ok (.iload_n 3, 1) := by decide +kernel
theorem dX6_by_123 : decode cX6_by 123 = .ok (.iastore, 1) := by decide +kernel
theorem dX6_by_124 : decode cX6_by 124 = .ok (.iload 4, 2) := by decide +kernel
theorem dX6_by_126 : decode cX6_by 126 = .ok (.ireturn, 1) := by decide +kernel
set_option maxRecDepth 100000 in
theorem ggX6_errorsBy_X6_lays : GoodIn wsX6_errorsBy wsX6_lays := goodIn_g _ [1, 2, 3, 0, 0, 0, 0, 0, 0, 0, 0, 0, 0, 0, 0, 0, 16, 0, 0, 0, 0, 0, 0, 0, 0, 0, 0, 0, 0, 0, 0, 0, 0, 0, 0, 0, 0, 0, 0, 0, 0, 0, 0, 0] [3, 0, 4, 1, 5, 6, 7, 8, 9, 10, 11, 2, 12, 13, 14, 15, 16, 17, 18, 19, 20, 21, 22, 23, 24, 25, 26, 27, 28, 29, 30, 31, 32, 33, 34, 35, 36, 37, 38, 39, 40, 41, 42, 43] rfl (by decide +kernel)
set_option maxRecDepth 100000 in
theorem gX6_errorsBy_X6_lays : GoodIn wsX6_errorsBy (wsV RX6 134 RX6 yX6_lays wsX6_lays) := goodIn_app (goodIn_of _ (by decide +kernel)) ggX6_errorsBy_X6_lays
set_option maxRecDepth 100000 in
theorem ggX6_errorsBy_X6_slews : GoodIn wsX6_errorsBy wsX6_slews := goodIn_g _ [1, 1, 10, 10, 0, 11, 0, 0, 0, 0, 0, 0, 0, 0, 0, 0, 0, 0, 0, 0, 0, 0, 0, 0, 0, 0, 0, 0, 0, 0, 0, 0, 0] [3, 0, 1, 4, 2, 5, 6, 7, 8, 9, 10, 11, 12, 13, 14, 15, 16, 17, 18, 19, 20, 21, 22, 23, 24, 25, 26, 27, 28, 29, 30, 31, 32] rfl (by decide +kernel)
set_option maxRecDepth 100000 in
theorem gX6_errorsBy_X6_slews : GoodIn wsX6_errorsBy (wsV RX6 213 RX6 yX6_slews wsX6_slews) := goodIn_app (goodIn_of _ (by decide +kernel)) ggX6_errorsBy_X6_slews
set_option maxRecDepth 100000 in
theorem ggX6_errorsBy_X6_most : GoodIn wsX6_errorsBy wsX6_most := goodIn_g _ [1, 6, 17, 3, 0, 0, 0, 0, 0, 0, 0, 0, 0, 0, 0, 0, 0, 0, 0, 0, 0, 0, 0, 0, 0, 0, 0, 0, 0, 0, 0, 0, 0, 0, 0, 0, 0, 0, 0] [3, 2, 4, 5, 6, 1, 7, 0, 8, 9, 10, 11, 12, 13, 14, 15, 16, 17, 18, 19, 20, 21, 22, 23, 24, 25, 26, 27, 28, 29, 30, 31, 32, 33, 34, 35, 36, 37, 38] rfl (by decide +kernel)
set_option maxRecDepth 100000 in
theorem gX6_errorsBy_X6_most : GoodIn wsX6_errorsBy (wsV RX6 216 RX6 yX6_most wsX6_most) := goodIn_app (goodIn_of _ (by decide +kernel)) ggX6_errorsBy_X6_most
theorem dX6_errorsBy_0 : decode cX6_errorsBy 0 = .ok (.iload_n 1, 1) := by decide +kernel
theorem dX6_errorsBy_1 : decode cX6_errorsBy 1 = .ok (.istore_n 3, 1) := by decide +kernel
theorem dX6_errorsBy_2 : decode cX6_errorsBy 2 = .ok (.aload_n 0, 1) := by decide +kernel
theorem dX6_errorsBy_3 : decode cX6_errorsBy 3 = .ok (.invokevirtual 134, 3) := by decide +kernel
theorem dX6_errorsBy_6 : decode cX6_errorsBy 6 = .ok (.iconst 1, 1) := by decide +kernel
theorem dX6_errorsBy_7 : decode cX6_errorsBy 7 = .ok (.istore 4, 2) := by decide +kernel
theorem dX6_errorsBy_9 : decode cX6_errorsBy 9 = .ok (.iload 4, 2) := by decide +kernel
theorem dX6_errorsBy_11 : decode cX6_errorsBy 11 = .ok (.aload_n 0, 1) := by decide +kernel
theorem dX6_errorsBy_12 : decode cX6_errorsBy 12 = .ok (.getfield 130, 3) := by decide +kernel
theorem dX6_errorsBy_15 : decode cX6_errorsBy 15 = .ok (.if_icmp .gt 45, 3) := by decide +kernel
theorem dX6_errorsBy_18 : decode cX6_errorsBy 18 = .ok (.iload_n 3, 1) := by decide +kernel
theorem dX6_errorsBy_19 : decode cX6_errorsBy 19 = .ok (.ldc 219, 2) := by decide +kernel
theorem dX6_errorsBy_21 : decode cX6_errorsBy 21 = .ok (.imul, 1) := by decide +kernel
theorem dX6_errorsBy_22 : decode cX6_errorsBy 22 = .ok (.sipush 12345, 3) := by decide +kernel
theorem dX6_errorsBy_25 : decode cX6_errorsBy 25 = .ok (.iadd, 1) := by decide +kernel
theorem dX6_errorsBy_26 : decode cX6_errorsBy 26 = .ok (.istore_n 3, 1) := by decide +kernel
theorem dX6_errorsBy_27 : decode cX6_errorsBy 27 = .ok (.aload_n 0, 1) := by decide +kernel
theorem dX6_errorsBy_28 : decode cX6_errorsBy 28 = .ok (.getfield 45, 3) := by decide +kernel
theorem dX6_errorsBy_31 : decode cX6_errorsBy 31 = .ok (.iload 4, 2) := by decide +kernel
theorem dX6_errorsBy_33 : decode cX6_errorsBy 33 = .ok (.aload_n 0, 1) := by decide +kernel
theorem dX6_errorsBy_34 : decode cX6_errorsBy 34 = .ok (.getfield 18, 3) := by decide +kernel
theorem dX6_errorsBy_37 : decode cX6_errorsBy 37 = .ok (.iload 4, 2) := by decide +kernel
theorem dX6_errorsBy_39 : decode cX6_errorsBy 39 = .ok (.iaload, 1) := by decide +kernel
theorem dX6_errorsBy_40 : decode cX6_errorsBy 40 = .ok (.iload_n 3, 1) := by decide +kernel
theorem dX6_errorsBy_41 : decode cX6_errorsBy 41 = .ok (.bipush 9, 2) := by decide +kernel
theorem dX6_errorsBy_43 : decode cX6_errorsBy 43 = .ok (.iushr, 1) := by decide +kernel
theorem dX6_errorsBy_44 : decode cX6_errorsBy 44 = .ok (.iconst 2, 1) := by decide +kernel
theorem dX6_errorsBy_45 : decode cX6_errorsBy 45 = .ok (.iload_n 2, 1) := by decide +kernel
theorem dX6_errorsBy_46 : decode cX6_errorsBy 46 = .ok (.imul, 1) := by decide +kernel
theorem dX6_errorsBy_47 : decode cX6_errorsBy 47 = .ok (.iconst 1, 1) := by decide +kernel
theorem dX6_errorsBy_48 : decode cX6_errorsBy 48 = .ok (.iadd, 1) := by decide +kernel
theorem dX6_errorsBy_49 : decode cX6_errorsBy 49 = .ok (.irem, 1) := by decide +kernel
theorem dX6_errorsBy_50 : decode cX6_errorsBy 50 = .ok (.iadd, 1) := by decide +kernel
theorem dX6_errorsBy_51 : decode cX6_errorsBy 51 = .ok (.iload_n 2, 1) := by decide +kernel
theorem dX6_errorsBy_52 : decode cX6_errorsBy 52 = .ok (.isub, 1) := by decide +kernel
theorem dX6_errorsBy_53 : decode cX6_errorsBy 53 = .ok (.iastore, 1) := by decide +kernel
theorem dX6_errorsBy_54 : decode cX6_errorsBy 54 = .ok (.iinc 4 1, 3) := by decide +kernel
theorem dX6_errorsBy_57 : decode cX6_errorsBy 57 = .ok (.goto (-48), 3) := by decide +kernel
theorem dX6_errorsBy_60 : decode cX6_errorsBy 60 = .ok (.aload_n 0, 1) := by decide +kernel
theorem dX6_errorsBy_61 : decode cX6_errorsBy 61 = .ok (.invokevirtual 213, 3) := by decide +kernel
theorem dX6_errorsBy_64 : decode cX6_errorsBy 64 = .ok (.aload_n 0, 1) := by decide +kernel
theorem dX6_errorsBy_65 : decode cX6_errorsBy 65 = .ok (.invokevirtual 216, 3) := by decide +kernel
theorem dX6_errorsBy_68 : decode cX6_errorsBy 68 = .ok (.ireturn, 1) := by decide +kernel
set_option maxRecDepth 100000 in
theorem ggX6_errors_X6_in : GoodIn wsX6_errors wsX6_in := goodIn_g _ [6] [0] rfl (by decide +kernel)
set_option maxRecDepth 100000 in
theorem gX6_errors_X6_in : GoodIn wsX6_errors (va_wsS RX6 67 yX6_in wsX6_in) := goodIn_app (goodIn_of _ (by decide +kernel)) ggX6_errors_X6_in
set_option maxRecDepth 100000 in
theorem ggX6_errors_X6_errorsBy : GoodIn wsX6_errors wsX6_errorsBy := goodIn_g _ [5, 4, 0, 0, 0, 0, 0, 0, 0, 0, 0, 0, 0, 0, 0, 0, 0, 0, 0, 0, 0, 0, 0, 0, 0, 0, 0, 0, 0, 0, 0, 0, 0, 0, 0, 0, 0, 0, 0, 0, 0, 0, 0, 0, 0, 0, 0, 0, 0, 0, 0, 0, 0, 0, 0, 0, 0, 0, 0, 0, 0, 0, 0, 0, 0, 0] [1, 2, 3, 4, 5, 6, 7, 8, 0, 9, 10, 11, 12, 13, 14, 15, 16, 17, 18, 19, 20, 21, 22, 23, 24, 25, 26, 27, 28, 29, 30, 31, 32, 33, 34, 35, 36, 37, 38, 39, 40, 41, 42, 43, 44, 45, 46, 47, 48, 49, 50, 51, 52, 53, 54, 55, 56, 57, 58, 59, 60, 61, 62, 63, 64, 65] rfl (by decide +kernel)
set_option maxRecDepth 100000 in
theorem gX6_errors_X6_errorsBy : GoodIn wsX6_errors (wsV RX6 222 RX6 yX6_errorsBy wsX6_errorsBy) := goodIn_app (goodIn_of _ (by decide +kernel)) ggX6_errors_X6_errorsBy
theorem dX6_errors_0 : decode cX6_errors 0 = .ok (.iload_n 2, 1) := by decide +kernel
theorem dX6_errors_1 : decode cX6_errors 1 = .ok (.i2l, 1) := by decide +kernel
theorem dX6_errors_2 : decode cX6_errors 2 = .ok (.lconst 0, 1) := by decide +kernel
theorem dX6_errors_3 : decode cX6_errors 3 = .ok (.ldc2_w 220, 3) := by decide +kernel
theorem dX6_errors_6 : decode cX6_errors 6 = .ok (.invokestatic 67, 3) := by decide +kernel
theorem dX6_errors_9 : decode cX6_errors 9 = .ok (.ifCond .eq 13, 3) := by decide +kernel
theorem dX6_errors_12 : decode cX6_errors 12 = .ok (.aload_n 0, 1) := by decide +kernel
theorem dX6_errors_13 : decode cX6_errors 13 = .ok (.iload_n 1, 1) := by decide +kernel
theorem dX6_errors_14 : decode cX6_errors 14 = .ok (.iload_n 2, 1) := by decide +kernel
theorem dX6_errors_15 : decode cX6_errors 15 = .ok (.invokevirtual 222, 3) := by decide +kernel
theorem dX6_errors_18 : decode cX6_errors 18 = .ok (.i2l, 1) := by decide +kernel
theorem dX6_errors_19 : decode cX6_errors 19 = .ok (.goto 6, 3) := by decide +kernel
theorem dX6_errors_22 : decode cX6_errors 22 = .ok (.ldc2_w 125, 3) := by decide +kernel
theorem dX6_errors_25 : decode cX6_errors 25 = .ok (.lreturn, 1) := by decide +kernel
set_option maxRecDepth 100000 in
theorem ggX6_chance_X6_in : GoodIn wsX6_chance wsX6_in := goodIn_g _ [6] [0] rfl (by decide +kernel)
set_option maxRecDepth 100000 in
theorem gX6_chance_X6_in : GoodIn wsX6_chance (va_wsS RX6 67 yX6_in wsX6_in) := goodIn_app (goodIn_of _ (by decide +kernel)) ggX6_chance_X6_in
set_option maxRecDepth 100000 in
theorem ggX6_chance_X6_errorsBy : GoodIn wsX6_chance wsX6_errorsBy := goodIn_g _ [5, 4, 0, 0, 0, 0, 0, 0, 0, 0, 0, 0, 0, 0, 0, 0, 0, 0, 0, 0, 0, 0, 0, 0, 0, 0, 0, 0, 0, 0, 0, 0, 0, 0, 0, 0, 0, 0, 3, 0, 0, 0, 0, 0, 0, 0, 0, 0, 0, 0, 0, 0, 0, 0, 0, 0, 0, 0, 0, 0, 0, 0, 0, 0, 0, 0] [1, 2, 3, 4, 5, 6, 7, 8, 0, 9, 10, 11, 12, 13, 14, 15, 16, 17, 18, 19, 20, 21, 22, 23, 24, 25, 26, 27, 28, 29, 30, 31, 32, 33, 34, 35, 36, 37, 38, 39, 40, 41, 42, 43, 44, 45, 46, 47, 48, 49, 50, 51, 52, 53, 54, 55, 56, 57, 58, 59, 60, 61, 62, 63, 64, 65] rfl (by decide +kernel)
set_option maxRecDepth 100000 in
theorem gX6_chance_X6_errorsBy : GoodIn wsX6_chance (wsV RX6 222 RX6 yX6_errorsBy wsX6_errorsBy) := goodIn_app (goodIn_of _ (by decide +kernel)) ggX6_chance_X6_errorsBy
set_option maxRecDepth 100000 in
theorem ggX6_chance_X6_bit : GoodIn wsX6_chance wsX6_bit := goodIn_g _ [49] [0] rfl (by decide +kernel)
set_option maxRecDepth 100000 in
theorem gX6_chance_X6_bit : GoodIn wsX6_chance (va_wsS RX6 162 yX6_bit wsX6_bit) := goodIn_app (goodIn_of _ (by decide +kernel)) ggX6_chance_X6_bit
theorem dX6_chance_0 : decode cX6_chance 0 = .ok (.iload_n 2, 1) := by decide +kernel
theorem dX6_chance_1 : decode cX6_chance 1 = .ok (.i2l, 1) := by decide +kernel
theorem dX6_chance_2 : decode cX6_chance 2 = .ok (.lconst 1, 1) := by decide +kernel
theorem dX6_chance_3 : decode cX6_chance 3 = .ok (.ldc2_w 73, 3) := by decide +kernel
theorem dX6_chance_6 : decode cX6_chance 6 = .ok (.invokestatic 67, 3) := by decide +kernel
theorem dX6_chance_9 : decode cX6_chance 9 = .ok (.ifCond .eq 31, 3) := by decide +kernel
theorem dX6_chance_12 : decode cX6_chance 12 = .ok (.iload_n 3, 1) := by decide +kernel
theorem dX6_chance_13 : decode cX6_chance 13 = .ok (.i2l, 1) := by decide +kernel
theorem dX6_chance_14 : decode cX6_chance 14 = .ok (.lconst 0, 1) := by decide +kernel
theorem dX6_chance_15 : decode cX6_chance 15 = .ok (.ldc2_w 220, 3) := by decide +kernel
theorem dX6_chance_18 : decode cX6_chance 18 = .ok (.invokestatic 67, 3) := by decide +kernel
theorem dX6_chance_21 : decode cX6_chance 21 = .ok (.ifCond .eq 19, 3) := by decide +kernel
theorem dX6_chance_24 : decode cX6_chance 24 = .ok (.iload 4, 2) := by decide +kernel
theorem dX6_chance_26 : decode cX6_chance 26 = .ok (.ifCond .lt 14, 3) := by decide +kernel
theorem dX6_chance_29 : decode cX6_chance 29 = .ok (.iload 5, 2) := by decide +kernel
theorem dX6_chance_31 : decode cX6_chance 31 = .ok (.i2l, 1) := by decide +kernel
theorem dX6_chance_32 : decode cX6_chance 32 = .ok (.lconst 0, 1) := by decide +kernel
theorem dX6_chance_33 : decode cX6_chance 33 = .ok (.lconst 1, 1) := by decide +kernel
theorem dX6_chance_34 : decode cX6_chance 34 = .ok (.invokestatic 67, 3) := by decide +kernel
theorem dX6_chance_37 : decode cX6_chance 37 = .ok (.ifCond .ne 6, 3) := by decide +kernel
theorem dX6_chance_40 : decode cX6_chance 40 = .ok (.bipush (-2), 2) := by decide +kernel
theorem dX6_chance_42 : decode cX6_chance 42 = .ok (.ireturn, 1) := by decide +kernel
theorem dX6_chance_43 : decode cX6_chance 43 = .ok (.iconst 0, 1) := by decide +kernel
theorem dX6_chance_44 : decode cX6_chance 44 = .ok (.istore 6, 2) := by decide +kernel
theorem dX6_chance_46 : decode cX6_chance 46 = .ok (.iconst 0, 1) := by decide +kernel
theorem dX6_chance_47 : decode cX6_chance 47 = .ok (.istore 7, 2) := by decide +kernel
theorem dX6_chance_49 : decode cX6_chance 49 = .ok (.iload 7, 2) := by decide +kernel
theorem dX6_chance_51 : decode cX6_chance 51 = .ok (.iload_n 2, 1) := by decide +kernel
theorem dX6_chance_52 : decode cX6_chance 52 = .ok (.if_icmp .ge 36, 3) := by decide +kernel
theorem dX6_chance_55 : decode cX6_chance 55 = .ok (.iload 6, 2) := by decide +kernel
theorem dX6_chance_57 : decode cX6_chance 57 = .ok (.aload_n 0, 1) := by decide +kernel
theorem dX6_chance_58 : decode cX6_chance 58 = .ok (.iload_n 1, 1) := by decide +kernel
theorem dX6_chance_59 : decode cX6_chance 59 = .ok (.iload 7, 2) := by decide +kernel
theorem dX6_chance_61 : decode cX6_chance 61 = .ok (.iadd, 1) := by decide +kernel
theorem dX6_chance_62 : decode cX6_chance 62 = .ok (.iload_n 3, 1) := by decide +kernel
theorem dX6_chance_63 : decode cX6_chance 63 = .ok (.invokevirtual 222, 3) := by decide +kernel
theorem dX6_chance_66 : decode cX6_chance 66 = .ok (.iload 4, 2) := by decide +kernel
theorem dX6_chance_68 : decode cX6_chance 68 = .ok (.if_icmp .gt 7, 3) := by decide +kernel
theorem dX6_chance_71 : decode cX6_chance 71 = .ok (.iconst 1, 1) := by decide +kernel
theorem dX6_chance_72 : decode cX6_chance 72 = .ok (.goto 4, 3) := by decide +kernel
theorem dX6_chance_75 : decode cX6_chance 75 = .ok (.iconst 0, 1) := by decide +kernel
theorem dX6_chance_76 : decode cX6_chance 76 = .ok (.invokestatic 162, 3) := by decide +kernel
theorem dX6_chance_79 : decode cX6_chance 79 = .ok (.iadd, 1) := by decide +kernel
theorem dX6_chance_80 : decode cX6_chance 80 = .ok (.istore 6, 2) := by decide +kernel
theorem dX6_chance_82 : decode cX6_chance 82 = .ok (.iinc 7 1, 3) := by decide +kernel
theorem dX6_chance_85 : decode cX6_chance 85 = .ok (.goto (-36), 3) := by decide +kernel
theorem dX6_chance_88 : decode cX6_chance 88 = .ok (.iload 6, 2) := by decide +kernel
theorem dX6_chance_90 : decode cX6_chance 90 = .ok (.istore 7, 2) := by decide +kernel
theorem dX6_chance_92 : decode cX6_chance 92 = .ok (.iload_n 2, 1) := by decide +kernel
theorem dX6_chance_93 : decode cX6_chance 93 = .ok (.istore 8, 2) := by decide +kernel
theorem dX6_chance_95 : decode cX6_chance 95 = .ok (.iload 8, 2) := by decide +kernel
theorem dX6_chance_97 : decode cX6_chance 97 = .ok (.ifCond .eq 21, 3) := by decide +kernel
theorem dX6_chance_100 : decode cX6_chance 100 = .ok (.iload 7, 2) := by decide +kernel
theorem dX6_chance_102 : decode cX6_chance 102 = .ok (.iload 8, 2) := by decide +kernel
theorem dX6_chance_104 : decode cX6_chance 104 = .ok (.irem, 1) := by decide +kernel
theorem dX6_chance_105 : decode cX6_chance 105 = .ok (.istore 9, 2) := by decide +kernel
theorem dX6_chance_107 : decode cX6_chance 107 = .ok (.iload 8, 2) := by decide +kernel
theorem dX6_chance_109 : decode cX6_chance 109 = .ok (.istore 7, 2) := by decide +kernel
theorem dX6_chance_111 : decode cX6_chance 111 = .ok (.iload 9, 2) := by decide +kernel
theorem dX6_chance_113 : decode cX6_chance 113 = .ok (.istore 8, 2) := by decide +kernel
theorem dX6_chance_115 : decode cX6_chance 115 = .ok (.goto (-20), 3) := by decide +kernel
theorem dX6_chance_118 : decode cX6_chance 118 = .ok (.iload 5, 2) := by decide +kernel
theorem dX6_chance_120 : decode cX6_chance 120 = .ok (.ifCond .ne 11, 3) := by decide +kernel
theorem dX6_chance_123 : decode cX6_chance 123 = .ok (.iload 6, 2) := by decide +kernel
theorem dX6_chance_125 : decode cX6_chance 125 = .ok (.iload 7, 2) := by decide +kernel
theorem dX6_chance_127 : decode cX6_chance 127 = .ok (.idiv, 1) := by decide +kernel
theorem dX6_chance_128 : decode cX6_chance 128 = .ok (.goto 7, 3) := by decide +kernel
theorem dX6_chance_131 : decode cX6_chance 131 = .ok (.iload_n 2, 1) := by decide +kernel
theorem dX6_chance_132 : decode cX6_chance 132 = .ok (.iload 7, 2) := by decide +kernel
theorem dX6_chance_134 : decode cX6_chance 134 = .ok (.idiv, 1) := by decide +kernel
theorem dX6_chance_135 : decode cX6_chance 135 = .ok (.ireturn, 1) := by decide +kernel
set_option maxRecDepth 100000 in
theorem ggX6_otherwise_X6_lays : GoodIn wsX6_otherwise wsX6_lays := goodIn_g _ [2, 4, 0, 0, 0, 0, 0, 0, 0, 0, 0, 0, 0, 0, 0, 0, 7, 0, 0, 0, 0, 0, 0, 0, 0, 0, 0, 0, 0, 0, 0, 0, 0, 0, 0, 0, 0, 0, 0, 0, 0, 0, 0, 0] [2, 3, 4, 0, 5, 6, 7, 8, 9, 10, 11, 1, 12, 13, 14, 15, 16, 17, 18, 19, 20, 21, 22, 23, 24, 25, 26, 27, 28, 29, 30, 31, 32, 33, 34, 35, 36, 37, 38, 39, 40, 41, 42, 43] rfl (by decide +kernel)
set_option maxRecDepth 100000 in
theorem gX6_otherwise_X6_lays : GoodIn wsX6_otherwise (wsV RX6 134 RX6 yX6_lays wsX6_lays) := goodIn_app (goodIn_of _ (by decide +kernel)) ggX6_otherwise_X6_lays
set_option maxRecDepth 100000 in
theorem ggX6_otherwise_X6_isStation : GoodIn wsX6_otherwise wsX6_isStation := goodIn_g _ [7, 1, 15, 0, 0, 0, 0, 0, 0, 0, 0, 0, 0, 0, 0, 0, 0, 0, 0, 0, 0, 0, 0, 0, 0, 0, 0, 0, 0, 0, 0, 0, 0, 0] [2, 1, 3, 4, 0, 5, 6, 7, 8, 9, 10, 11, 12, 13, 14, 15, 16, 17, 18, 19, 20, 21, 22, 23, 24, 25, 26, 27, 28, 29, 30, 31, 32, 33] rfl (by decide +kernel)
set_option maxRecDepth 100000 in
theorem gX6_otherwise_X6_isStation : GoodIn wsX6_otherwise (wsV RX6 156 RX6 yX6_isStation wsX6_isStation) := goodIn_app (goodIn_of _ (by decide +kernel)) ggX6_otherwise_X6_isStation
theorem dX6_otherwise_0 : decode cX6_otherwise 0 = .ok (.aload_n 0, 1) := by decide +kernel
theorem dX6_otherwise_1 : decode cX6_otherwise 1 = .ok (.invokevirtual 134, 3) := by decide +kernel
theorem dX6_otherwise_4 : decode cX6_otherwise 4 = .ok (.iconst 0, 1) := by decide +kernel
theorem dX6_otherwise_5 : decode cX6_otherwise 5 = .ok (.istore_n 3, 1) := by decide +kernel
theorem dX6_otherwise_6 : decode cX6_otherwise 6 = .ok (.iload_n 3, 1) := by decide +kernel
theorem dX6_otherwise_7 : decode cX6_otherwise 7 = .ok (.aload_n 0, 1) := by decide +kernel
theorem dX6_otherwise_8 : decode cX6_otherwise 8 = .ok (.getfield 36, 3) := by decide +kernel
theorem dX6_otherwise_11 : decode cX6_otherwise 11 = .ok (.iload_n 1, 1) := by decide +kernel
theorem dX6_otherwise_12 : decode cX6_otherwise 12 = .ok (.iaload, 1) := by decide +kernel
theorem dX6_otherwise_13 : decode cX6_otherwise 13 = .ok (.if_icmp .ge 43, 3) := by decide +kernel
theorem dX6_otherwise_16 : decode cX6_otherwise 16 = .ok (.aload_n 0, 1) := by decide +kernel
theorem dX6_otherwise_17 : decode cX6_otherwise 17 = .ok (.iload_n 2, 1) := by decide +kernel
theorem dX6_otherwise_18 : decode cX6_otherwise 18 = .ok (.iload_n 3, 1) := by decide +kernel
theorem dX6_otherwise_19 : decode cX6_otherwise 19 = .ok (.iadd, 1) := by decide +kernel
theorem dX6_otherwise_20 : decode cX6_otherwise 20 = .ok (.invokevirtual 156, 3) := by decide +kernel
theorem dX6_otherwise_23 : decode cX6_otherwise 23 = .ok (.ifCond .eq 25, 3) := by decide +kernel
theorem dX6_otherwise_26 : decode cX6_otherwise 26 = .ok (.aload_n 0, 1) := by decide +kernel
theorem dX6_otherwise_27 : decode cX6_otherwise 27 = .ok (.getfield 18, 3) := by decide +kernel
theorem dX6_otherwise_30 : decode cX6_otherwise 30 = .ok (.iload_n 2, 1) := by decide +kernel
theorem dX6_otherwise_31 : decode cX6_otherwise 31 = .ok (.iload_n 3, 1) := by decide +kernel
theorem dX6_otherwise_32 : decode cX6_otherwise 32 = .ok (.iadd, 1) := by decide +kernel
theorem dX6_otherwise_33 : decode cX6_otherwise 33 = .ok (.iaload, 1) := by decide +kernel
theorem dX6_otherwise_34 : decode cX6_otherwise 34 = .ok (.aload_n 0, 1) := by decide +kernel
theorem dX6_otherwise_35 : decode cX6_otherwise 35 = .ok (.getfield 39, 3) := by decide +kernel
theorem dX6_otherwise_38 : decode cX6_otherwise 38 = .ok (.bipush 40, 2) := by decide +kernel
theorem dX6_otherwise_40 : decode cX6_otherwise 40 = .ok (.iload_n 1, 1) := by decide +kernel
theorem dX6_otherwise_41 : decode cX6_otherwise 41 = .ok (.imul, 1) := by decide +kernel
theorem dX6_otherwise_42 : decode cX6_otherwise 42 = .ok (.iload_n 3, 1) := by decide +kernel
theorem dX6_otherwise_43 : decode cX6_otherwise 43 = .ok (.iadd, 1) := by decide +kernel
theorem dX6_otherwise_44 : decode cX6_otherwise 44 = .ok (.iaload, 1) := by decide +kernel
theorem dX6_otherwise_45 : decode cX6_otherwise 45 = .ok (.if_icmp .eq 5, 3) := by decide +kernel
theorem dX6_otherwise_48 : decode cX6_otherwise 48 = .ok (.iload_n 3, 1) := by decide +kernel
theorem dX6_otherwise_49 : decode cX6_otherwise 49 = .ok (.ireturn, 1) := by decide +kernel
theorem dX6_otherwise_50 : decode cX6_otherwise 50 = .ok (.iinc 3 1, 3) := by decide +kernel
theorem dX6_otherwise_53 : decode cX6_otherwise 53 = .ok (.goto (-47), 3) := by decide +kernel
theorem dX6_otherwise_56 : decode cX6_otherwise 56 = .ok (.iconst (-1), 1) := by decide +kernel
theorem dX6_otherwise_57 : decode cX6_otherwise 57 = .ok (.ireturn, 1) := by decide +kernel
set_option maxRecDepth 100000 in
theorem ggX6_tells_X6_isSheet : GoodIn wsX6_tells wsX6_isSheet := goodIn_g _ [7, 0, 0, 0, 0, 0] [1, 2, 3, 4, 0, 5] rfl (by decide +kernel)
set_option maxRecDepth 100000 in
theorem gX6_tells_X6_isSheet : GoodIn wsX6_tells (va_wsS RX6 201 yX6_isSheet wsX6_isSheet) := goodIn_app (goodIn_of _ (by decide +kernel)) ggX6_tells_X6_isSheet
set_option maxRecDepth 100000 in
theorem ggX6_tells_X6_in : GoodIn wsX6_tells wsX6_in := goodIn_g _ [12] [0] rfl (by decide +kernel)
set_option maxRecDepth 100000 in
theorem gX6_tells_X6_in : GoodIn wsX6_tells (va_wsS RX6 67 yX6_in wsX6_in) := goodIn_app (goodIn_of _ (by decide +kernel)) ggX6_tells_X6_in
set_option maxRecDepth 100000 in
theorem ggX6_tells_X6_isPiece : GoodIn wsX6_tells wsX6_isPiece := goodIn_g _ [4, 2, 2, 0, 0, 3, 26, 0, 0, 0, 0, 0, 0, 0, 0, 0, 0, 0, 0, 0, 0, 0, 0, 0, 0, 0, 0, 0, 0, 0, 0, 0, 0, 0] [5, 0, 2, 3, 1, 4, 6, 7, 8, 9, 10, 11, 12, 13, 14, 15, 16, 17, 18, 19, 20, 21, 22, 23, 24, 25, 26, 27, 28, 29, 30, 31, 32, 33] rfl (by decide +kernel)
set_option maxRecDepth 100000 in
theorem gX6_tells_X6_isPiece : GoodIn wsX6_tells (wsV RX6 85 RX6 yX6_isPiece wsX6_isPiece) := goodIn_app (goodIn_of _ (by decide +kernel)) ggX6_tells_X6_isPiece
set_option maxRecDepth 100000 in
theorem ggX6_tells_X6_otherwise : GoodIn wsX6_tells wsX6_otherwise := goodIn_g _ [3, 0, 2, 2, 0, 0, 7, 0, 0, 0, 0, 0, 0, 0, 0, 0, 0, 0, 0, 0, 0, 0, 0, 0, 0, 0, 0, 0, 0, 0, 0, 0, 0, 0, 0, 0, 0, 0, 0, 0, 0, 0, 0, 0, 0, 0, 0, 0, 0, 0, 0, 0, 0, 0, 0, 0, 0] [6, 0, 7, 8, 9, 10, 11, 2, 12, 13, 1, 14, 15, 16, 17, 18, 19, 20, 21, 22, 23, 24, 25, 26, 27, 28, 3, 4, 5, 29, 30, 31, 32, 33, 34, 35, 36, 37, 38, 39, 40, 41, 42, 43, 44, 45, 46, 47, 48, 49, 50, 51, 52, 53, 54, 55, 56] rfl (by decide +kernel)
set_option maxRecDepth 100000 in
theorem gX6_tells_X6_otherwise : GoodIn wsX6_tells (wsV RX6 225 RX6 yX6_otherwise wsX6_otherwise) := goodIn_app (goodIn_of _ (by decide +kernel)) ggX6_tells_X6_otherwise
set_option maxRecDepth 100000 in
theorem ggX6_tells_X6_of0 : GoodIn wsX6_tells wsX6_of0 := goodIn_g _ [4, 30, 7, 0, 0, 0, 0, 0, 0, 0, 0, 0, 0, 0, 0, 0, 0, 0, 0, 0, 0, 0, 0, 0, 0, 0, 0, 0, 0, 0] [1, 0, 2, 3, 4, 5, 6, 7, 8, 9, 10, 11, 12, 13, 14, 15, 16, 17, 18, 19, 20, 21, 22, 23, 24, 25, 26, 27, 28, 29] rfl (by decide +kernel)
set_option maxRecDepth 100000 in
theorem gX6_tells_X6_of0 : GoodIn wsX6_tells (wsV RX6 91 RX6 yX6_of0 wsX6_of0) := goodIn_app (goodIn_of _ (by decide +kernel)) ggX6_tells_X6_of0
theorem dX6_tells_0 : decode cX6_tells 0 = .ok (.iload_n 1, 1) := by decide +kernel
theorem dX6_tells_1 : decode cX6_tells 1 = .ok (.invokestatic 201, 3) := by decide +kernel
theorem dX6_tells_4 : decode cX6_tells 4 = .ok (.ifCond .eq 28, 3) := by decide +kernel
theorem dX6_tells_7 : decode cX6_tells 7 = .ok (.iload_n 2, 1) := by decide +kernel
theorem dX6_tells_8 : decode cX6_tells 8 = .ok (.i2l, 1) := by decide +kernel
theorem dX6_tells_9 : decode cX6_tells 9 = .ok (.lconst 1, 1) := by decide +kernel
theorem dX6_tells_10 : decode cX6_tells 10 = .ok (.ldc2_w 112, 3) := by decide +kernel
theorem dX6_tells_13 : decode cX6_tells 13 = .ok (.invokestatic 67, 3) := by decide +kernel
theorem dX6_tells_16 : decode cX6_tells 16 = .ok (.ifCond .eq 16, 3) := by decide +kernel
theorem dX6_tells_19 : decode cX6_tells 19 = .ok (.iload_n 3, 1) := by decide +kernel
theorem dX6_tells_20 : decode cX6_tells 20 = .ok (.iconst (-1), 1) := by decide +kernel
theorem dX6_tells_21 : decode cX6_tells 21 = .ok (.if_icmp .eq 14, 3) := by decide +kernel
theorem dX6_tells_24 : decode cX6_tells 24 = .ok (.aload_n 0, 1) := by decide +kernel
theorem dX6_tells_25 : decode cX6_tells 25 = .ok (.iload_n 3, 1) := by decide +kernel
theorem dX6_tells_26 : decode cX6_tells 26 = .ok (.invokevirtual 85, 3) := by decide +kernel
theorem dX6_tells_29 : decode cX6_tells 29 = .ok (.ifCond .ne 6, 3) := by decide +kernel
theorem dX6_tells_32 : decode cX6_tells 32 = .ok (.bipush (-2), 2) := by decide +kernel
theorem dX6_tells_34 : decode cX6_tells 34 = .ok (.ireturn, 1) := by decide +kernel
theorem dX6_tells_35 : decode cX6_tells 35 = .ok (.aload_n 0, 1) := by decide +kernel
theorem dX6_tells_36 : decode cX6_tells 36 = .ok (.getfield 33, 3) := by decide +kernel
theorem dX6_tells_39 : decode cX6_tells 39 = .ok (.iload_n 1, 1) := by decide +kernel
theorem dX6_tells_40 : decode cX6_tells 40 = .ok (.iaload, 1) := by decide +kernel
theorem dX6_tells_41 : decode cX6_tells 41 = .ok (.ifCond .ge 6, 3) := by decide +kernel
theorem dX6_tells_44 : decode cX6_tells 44 = .ok (.bipush (-11), 2) := by decide +kernel
theorem dX6_tells_46 : decode cX6_tells 46 = .ok (.ireturn, 1) := by decide +kernel
theorem dX6_tells_47 : decode cX6_tells 47 = .ok (.aload_n 0, 1) := by decide +kernel
theorem dX6_tells_48 : decode cX6_tells 48 = .ok (.getfield 36, 3) := by decide +kernel
theorem dX6_tells_51 : decode cX6_tells 51 = .ok (.iload_n 1, 1) := by decide +kernel
theorem dX6_tells_52 : decode cX6_tells 52 = .ok (.iaload, 1) := by decide +kernel
theorem dX6_tells_53 : decode cX6_tells 53 = .ok (.bipush 8, 2) := by decide +kernel
theorem dX6_tells_55 : decode cX6_tells 55 = .ok (.if_icmp .le 6, 3) := by decide +kernel
theorem dX6_tells_58 : decode cX6_tells 58 = .ok (.bipush (-2), 2) := by decide +kernel
theorem dX6_tells_60 : decode cX6_tells 60 = .ok (.ireturn, 1) := by decide +kernel
theorem dX6_tells_61 : decode cX6_tells 61 = .ok (.iload_n 3, 1) := by decide +kernel
theorem dX6_tells_62 : decode cX6_tells 62 = .ok (.iconst (-1), 1) := by decide +kernel
theorem dX6_tells_63 : decode cX6_tells 63 = .ok (.if_icmp .ne 10, 3) := by decide +kernel
theorem dX6_tells_66 : decode cX6_tells 66 = .ok (.aload_n 0, 1) := by decide +kernel
theorem dX6_tells_67 : decode cX6_tells 67 = .ok (.iload_n 1, 1) := by decide +kernel
theorem dX6_tells_68 : decode cX6_tells 68 = .ok (.iload_n 2, 1) := by decide +kernel
theorem dX6_tells_69 : decode cX6_tells 69 = .ok (.invokevirtual 225, 3) := by decide +kernel
theorem dX6_tells_72 : decode cX6_tells 72 = .ok (.ireturn, 1) := by decide +kernel
theorem dX6_tells_73 : decode cX6_tells 73 = .ok (.aload_n 0, 1) := by decide +kernel
theorem dX6_tells_74 : decode cX6_tells 74 = .ok (.iload_n 3, 1) := by decide +kernel
theorem dX6_tells_75 : decode cX6_tells 75 = .ok (.iconst 0, 1) := by decide +kernel
theorem dX6_tells_76 : decode cX6_tells 76 = .ok (.invokevirtual 91, 3) := by decide +kernel
theorem dX6_tells_79 : decode cX6_tells 79 = .ok (.istore 4, 2) := by decide +kernel
theorem dX6_tells_81 : decode cX6_tells 81 = .ok (.iconst 0, 1) := by decide +kernel
theorem dX6_tells_82 : decode cX6_tells 82 = .ok (.istore 5, 2) := by decide +kernel
theorem dX6_tells_84 : decode cX6_tells 84 = .ok (.iconst 0, 1) := by decide +kernel
theorem dX6_tells_85 : decode cX6_tells 85 = .ok (.istore 6, 2) := by decide +kernel
theorem dX6_tells_87 : decode cX6_tells 87 = .ok (.iload 6, 2) := by decide +kernel
theorem dX6_tells_89 : decode cX6_tells 89 = .ok (.bipush 6, 2) := by decide +kernel
theorem dX6_tells_91 : decode cX6_tells 91 = .ok (.if_icmp .ge 44, 3) := by decide +kernel
theorem dX6_tells_94 : decode cX6_tells 94 = .ok (.aload_n 0, 1) := by decide +kernel
theorem dX6_tells_95 : decode cX6_tells 95 = .ok (.getfield 11, 3) := by decide +kernel
theorem dX6_tells_98 : decode cX6_tells 98 = .ok (.iconst 4, 1) := by decide +kernel
theorem dX6_tells_99 : decode cX6_tells 99 = .ok (.iload_n 3, 1) := by decide +kernel
theorem dX6_tells_100 : decode cX6_tells 100 = .ok (.imul, 1) := by decide +kernel
theorem dX6_tells_101 : decode cX6_tells 101 = .ok (.iconst 0, 1) := by decide +kernel
theorem dX6_tells_102 : decode cX6_tells 102 = .ok (.iadd, 1) := by decide +kernel
theorem dX6_tells_103 : decode cX6_tells 103 = .ok (.iload 6, 2) := by decide +kernel
theorem dX6_tells_105 : decode cX6_tells 105 = .ok (.iastore, 1) := by decide +kernel
theorem dX6_tells_106 : decode cX6_tells 106 = .ok (.iload 5, 2) := by decide +kernel
theorem dX6_tells_108 : decode cX6_tells 108 = .ok (.aload_n 0, 1) := by decide +kernel
theorem dX6_tells_109 : decode cX6_tells 109 = .ok (.iload_n 1, 1) := by decide +kernel
theorem dX6_tells_110 : decode cX6_tells 110 = .ok (.iload_n 2, 1) := by decide +kernel
theorem dX6_tells_111 : decode cX6_tells 111 = .ok (.invokevirtual 225, 3) := by decide +kernel
theorem dX6_tells_114 : decode cX6_tells 114 = .ok (.iconst (-1), 1) := by decide +kernel
theorem dX6_tells_115 : decode cX6_tells 115 = .ok (.if_icmp .ne 10, 3) := by decide +kernel
theorem dX6_tells_118 : decode cX6_tells 118 = .ok (.iconst 1, 1) := by decide +kernel
theorem dX6_tells_119 : decode cX6_tells 119 = .ok (.iload 6, 2) := by decide +kernel
theorem dX6_tells_121 : decode cX6_tells 121 = .ok (.ishl, 1) := by decide +kernel
theorem dX6_tells_122 : decode cX6_tells 122 = .ok (.goto 4, 3) := by decide +kernel
theorem dX6_tells_125 : decode cX6_tells 125 = .ok (.iconst 0, 1) := by decide +kernel
theorem dX6_tells_126 : decode cX6_tells 126 = .ok (.ior, 1) := by decide +kernel
theorem dX6_tells_127 : decode cX6_tells 127 = .ok (.istore 5, 2) := by decide +kernel
theorem dX6_tells_129 : decode cX6_tells 129 = .ok (.iinc 6 1, 3) := by decide +kernel
theorem dX6_tells_132 : decode cX6_tells 132 = .ok (.goto (-45), 3) := by decide +kernel
theorem dX6_tells_135 : decode cX6_tells 135 = .ok (.aload_n 0, 1) := by decide +kernel
theorem dX6_tells_136 : decode cX6_tells 136 = .ok (.getfield 11, 3) := by decide +kernel
theorem dX6_tells_139 : decode cX6_tells 139 = .ok (.iconst 4, 1) := by decide +kernel
theorem dX6_tells_140 : decode cX6_tells 140 = .ok (.iload_n 3, 1) := by decide +kernel
theorem dX6_tells_141 : decode cX6_tells 141 = .ok (.imul, 1) := by decide +kernel
theorem dX6_tells_142 : decode cX6_tells 142 = .ok (.iconst 0, 1) := by decide +kernel
theorem dX6_tells_143 : decode cX6_tells 143 = .ok (.iadd, 1) := by decide +kernel
theorem dX6_tells_144 : decode cX6_tells 144 = .ok (.iload 4, 2) := by decide +kernel
theorem dX6_tells_146 : decode cX6_tells 146 = .ok (.iastore, 1) := by decide +kernel
theorem dX6_tells_147 : decode cX6_tells 147 = .ok (.iload 5, 2) := by decide +kernel
theorem dX6_tells_149 : decode cX6_tells 149 = .ok (.ireturn, 1) := by decide +kernel
set_option maxRecDepth 100000 in
theorem ggX6_film_X6_isSheet : GoodIn wsX6_film wsX6_isSheet := goodIn_g _ [7, 0, 0, 0, 0, 0] [1, 2, 3, 4, 0, 5] rfl (by decide +kernel)
set_option maxRecDepth 100000 in
theorem gX6_film_X6_isSheet : GoodIn wsX6_film (va_wsS RX6 201 yX6_isSheet wsX6_isSheet) := goodIn_app (goodIn_of _ (by decide +kernel)) ggX6_film_X6_isSheet
set_option maxRecDepth 100000 in
theorem ggX6_film_X6_in : GoodIn wsX6_film wsX6_in := goodIn_g _ [12] [0] rfl (by decide +kernel)
set_option maxRecDepth 100000 in
theorem gX6_film_X6_in : GoodIn wsX6_film (va_wsS RX6 67 yX6_in wsX6_in) := goodIn_app (goodIn_of _ (by decide +kernel)) ggX6_film_X6_in
set_option maxRecDepth 100000 in
theorem ggX6_film_X6_sheet : GoodIn wsX6_film wsX6_sheet := goodIn_g _ [3, 1, 0, 0, 0, 0, 0, 0, 0, 3, 0, 0, 0, 21, 0, 0, 0, 0, 0, 0, 0, 0, 0, 0, 0, 0, 0, 0, 0, 0, 0, 0, 0, 0, 0, 0, 0, 0, 0, 0, 0] [9, 10, 11, 12, 0, 1, 2, 3, 4, 5, 6, 7, 8, 13, 14, 15, 16, 17, 18, 19, 20, 21, 22, 23, 24, 25, 26, 27, 28, 29, 30, 31, 32, 33, 34, 35, 36, 37, 38, 39, 40] rfl (by decide +kernel)
set_option maxRecDepth 100000 in
theorem gX6_film_X6_sheet : GoodIn wsX6_film (wsV RX6 230 RX6 yX6_sheet wsX6_sheet) := goodIn_app (goodIn_of _ (by decide +kernel)) ggX6_film_X6_sheet
set_option maxRecDepth 100000 in
theorem ggX6_film_X6_lays : GoodIn wsX6_film wsX6_lays := goodIn_g _ [4, 2, 15, 0, 0, 0, 0, 0, 0, 0, 0, 0, 0, 0, 0, 0, 4, 0, 0, 0, 0, 0, 0, 0, 0, 0, 0, 0, 0, 0, 0, 0, 0, 0, 0, 0, 0, 0, 0, 0, 0, 0, 0, 0] [2, 3, 4, 0, 5, 6, 7, 8, 9, 10, 11, 1, 12, 13, 14, 15, 16, 17, 18, 19, 20, 21, 22, 23, 24, 25, 26, 27, 28, 29, 30, 31, 32, 33, 34, 35, 36, 37, 38, 39, 40, 41, 42, 43] rfl (by decide +kernel)
set_option maxRecDepth 100000 in
theorem gX6_film_X6_lays : GoodIn wsX6_film (wsV RX6 134 RX6 yX6_lays wsX6_lays) := goodIn_app (goodIn_of _ (by decide +kernel)) ggX6_film_X6_lays
set_option maxRecDepth 100000 in
theorem ggX6_film_X6_isStation : GoodIn wsX6_film wsX6_isStation := goodIn_g _ [7, 2, 0, 0, 11, 15, 0, 0, 0, 0, 0, 0, 0, 0, 0, 0, 0, 0, 0, 0, 0, 0, 0, 0, 0, 0, 0, 0, 0, 0, 0, 0, 0, 0] [5, 4, 1, 2, 0, 3, 6, 7, 8, 9, 10, 11, 12, 13, 14, 15, 16, 17, 18, 19, 20, 21, 22, 23, 24, 25, 26, 27, 28, 29, 30, 31, 32, 33] rfl (by decide +kernel)
set_option maxRecDepth 100000 in
theorem gX6_film_X6_isStation : GoodIn wsX6_film (wsV RX6 156 RX6 yX6_isStation wsX6_isStation) := goodIn_app (goodIn_of _ (by decide +kernel)) ggX6_film_X6_isStation
theorem dX6_film_0 : decode cX6_film 0 = .ok (.iload_n 1, 1) := by decide +kernel
theorem dX6_film_1 : decode cX6_film 1 = .ok (.invokestatic 201, 3) := by decide +kernel
theorem dX6_film_4 : decode cX6_film 4 = .ok (.ifCond .eq 27, 3) := by decide +kernel
theorem dX6_film_7 : decode cX6_film 7 = .ok (.iload_n 2, 1) := by decide +kernel
theorem dX6_film_8 : decode cX6_film 8 = .ok (.i2l, 1) := by decide +kernel
theorem dX6_film_9 : decode cX6_film 9 = .ok (.lconst 1, 1) := by decide +kernel
theorem dX6_film_10 : decode cX6_film 10 = .ok (.ldc2_w 112, 3) := by decide +kernel
theorem dX6_film_13 : decode cX6_film 13 = .ok (.invokestatic 67, 3) := by decide +kernel
theorem dX6_film_16 : decode cX6_film 16 = .ok (.ifCond .eq 15, 3) := by decide +kernel
theorem dX6_film_19 : decode cX6_film 19 = .ok (.iload_n 3, 1) := by decide +kernel
theorem dX6_film_20 : decode cX6_film 20 = .ok (.i2l, 1) := by decide +kernel
theorem dX6_film_21 : decode cX6_film 21 = .ok (.lconst 0, 1) := by decide +kernel
theorem dX6_film_22 : decode cX6_film 22 = .ok (.ldc2_w 228, 3) := by decide +kernel
theorem dX6_film_25 : decode cX6_film 25 = .ok (.invokestatic 67, 3) := by decide +kernel
theorem dX6_film_28 : decode cX6_film 28 = .ok (.ifCond .ne 6, 3) := by decide +kernel
theorem dX6_film_31 : decode cX6_film 31 = .ok (.bipush (-2), 2) := by decide +kernel
theorem dX6_film_33 : decode cX6_film 33 = .ok (.ireturn, 1) := by decide +kernel
theorem dX6_film_34 : decode cX6_film 34 = .ok (.aload_n 0, 1) := by decide +kernel
theorem dX6_film_35 : decode cX6_film 35 = .ok (.iload_n 1, 1) := by decide +kernel
theorem dX6_film_36 : decode cX6_film 36 = .ok (.iconst 0, 1) := by decide +kernel
theorem dX6_film_37 : decode cX6_film 37 = .ok (.iload_n 3, 1) := by decide +kernel
theorem dX6_film_38 : decode cX6_film 38 = .ok (.invokevirtual 230, 3) := by decide +kernel
theorem dX6_film_41 : decode cX6_film 41 = .ok (.istore 4, 2) := by decide +kernel
theorem dX6_film_43 : decode cX6_film 43 = .ok (.aload_n 0, 1) := by decide +kernel
theorem dX6_film_44 : decode cX6_film 44 = .ok (.invokevirtual 134, 3) := by decide +kernel
theorem dX6_film_47 : decode cX6_film 47 = .ok (.iconst 0, 1) := by decide +kernel
theorem dX6_film_48 : decode cX6_film 48 = .ok (.istore 5, 2) := by decide +kernel
theorem dX6_film_50 : decode cX6_film 50 = .ok (.iload 5, 2) := by decide +kernel
theorem dX6_film_52 : decode cX6_film 52 = .ok (.iload_n 3, 1) := by decide +kernel
theorem dX6_film_53 : decode cX6_film 53 = .ok (.if_icmp .ge 45, 3) := by decide +kernel
theorem dX6_film_56 : decode cX6_film 56 = .ok (.aload_n 0, 1) := by decide +kernel
theorem dX6_film_57 : decode cX6_film 57 = .ok (.getfield 39, 3) := by decide +kernel
theorem dX6_film_60 : decode cX6_film 60 = .ok (.bipush 40, 2) := by decide +kernel
theorem dX6_film_62 : decode cX6_film 62 = .ok (.iload_n 1, 1) := by decide +kernel
theorem dX6_film_63 : decode cX6_film 63 = .ok (.imul, 1) := by decide +kernel
theorem dX6_film_64 : decode cX6_film 64 = .ok (.iload 5, 2) := by decide +kernel
theorem dX6_film_66 : decode cX6_film 66 = .ok (.iadd, 1) := by decide +kernel
theorem dX6_film_67 : decode cX6_film 67 = .ok (.aload_n 0, 1) := by decide +kernel
theorem dX6_film_68 : decode cX6_film 68 = .ok (.iload_n 2, 1) := by decide +kernel
theorem dX6_film_69 : decode cX6_film 69 = .ok (.iload 5, 2) := by decide +kernel
theorem dX6_film_71 : decode cX6_film 71 = .ok (.iadd, 1) := by decide +kernel
theorem dX6_film_72 : decode cX6_film 72 = .ok (.invokevirtual 156, 3) := by decide +kernel
theorem dX6_film_75 : decode cX6_film 75 = .ok (.ifCond .eq 15, 3) := by decide +kernel
theorem dX6_film_78 : decode cX6_film 78 = .ok (.aload_n 0, 1) := by decide +kernel
theorem dX6_film_79 : decode cX6_film 79 = .ok (.getfield 18, 3) := by decide +kernel
theorem dX6_film_82 : decode cX6_film 82 = .ok (.iload_n 2, 1) := by decide +kernel
theorem dX6_film_83 : decode cX6_film 83 = .ok (.iload 5, 2) := by decide +kernel
theorem dX6_film_85 : decode cX6_film 85 = .ok (.iadd, 1) := by decide +kernel
theorem dX6_film_86 : decode cX6_film 86 = .ok (.iaload, 1) := by decide +kernel
theorem dX6_film_87 : decode cX6_film 87 = .ok (.goto 4, 3) := by decide +kernel
theorem dX6_film_90 : decode cX6_film 90 = .ok (.iconst 0, 1) := by decide +kernel
theorem dX6_film_91 : decode cX6_film 91 = .ok (.iastore, 1) := by decide +kernel
theorem dX6_film_92 : decode cX6_film 92 = .ok (.iinc 5 1, 3) := by decide +kernel
theorem dX6_film_95 : decode cX6_film 95 = .ok (.goto (-45), 3) := by decide +kernel
theorem dX6_film_98 : decode cX6_film 98 = .ok (.iload_n 3, 1) := by decide +kernel
theorem dX6_film_99 : decode cX6_film 99 = .ok (.ireturn, 1) := by decide +kernel
set_option maxRecDepth 100000 in
theorem ggX6_load_X6_isSheet : GoodIn wsX6_load wsX6_isSheet := goodIn_g _ [8, 0, 0, 0, 0, 0] [1, 2, 3, 4, 0, 5] rfl (by decide +kernel)
set_option maxRecDepth 100000 in
theorem gX6_load_X6_isSheet : GoodIn wsX6_load (va_wsS RX6 201 yX6_isSheet wsX6_isSheet) := goodIn_app (goodIn_of _ (by decide +kernel)) ggX6_load_X6_isSheet
set_option maxRecDepth 100000 in
theorem ggX6_load_X6_in : GoodIn wsX6_load wsX6_in := goodIn_g _ [13] [0] rfl (by decide +kernel)
set_option maxRecDepth 100000 in
theorem gX6_load_X6_in : GoodIn wsX6_load (va_wsS RX6 67 yX6_in wsX6_in) := goodIn_app (goodIn_of _ (by decide +kernel)) ggX6_load_X6_in
set_option maxRecDepth 100000 in
theorem ggX6_load_X6_piece : GoodIn wsX6_load wsX6_piece := goodIn_g _ [8, 2, 0, 0, 3, 0, 0, 0, 0, 0, 0, 0, 0, 0, 3, 0, 0, 0, 0, 0, 0, 0, 0, 0, 0, 0, 0, 0, 0, 0, 0, 0, 0, 0, 0, 0, 0, 0, 0, 0, 0, 0] [4, 5, 6, 7, 0, 8, 9, 10, 11, 12, 13, 1, 2, 3, 14, 15, 16, 17, 18, 19, 20, 21, 22, 23, 24, 25, 26, 27, 28, 29, 30, 31, 32, 33, 34, 35, 36, 37, 38, 39, 40, 41] rfl (by decide +kernel)
set_option maxRecDepth 100000 in
theorem gX6_load_X6_piece : GoodIn wsX6_load (wsV RX6 236 RX6 yX6_piece wsX6_piece) := goodIn_app (goodIn_of _ (by decide +kernel)) ggX6_load_X6_piece
set_option maxRecDepth 100000 in
theorem ggX6_load_X6_bit : GoodIn wsX6_load wsX6_bit := goodIn_g _ [29] [0] rfl (by decide +kernel)
set_option maxRecDepth 100000 in
theorem gX6_load_X6_bit : GoodIn wsX6_load (va_wsS RX6 162 yX6_bit wsX6_bit) := goodIn_app (goodIn_of _ (by decide +kernel)) ggX6_load_X6_bit
theorem dX6_load_0 : decode cX6_load 0 = .ok (.iload_n 1, 1) := by decide +kernel
theorem dX6_load_1 : decode cX6_load 1 = .ok (.invokestatic 201, 3) := by decide +kernel
theorem dX6_load_4 : decode cX6_load 4 = .ok (.ifCond .eq 26, 3) := by decide +kernel
theorem dX6_load_7 : decode cX6_load 7 = .ok (.iload_n 2, 1) := by decide +kernel
theorem dX6_load_8 : decode cX6_load 8 = .ok (.i2l, 1) := by decide +kernel
theorem dX6_load_9 : decode cX6_load 9 = .ok (.lconst 0, 1) := by decide +kernel
theorem dX6_load_10 : decode cX6_load 10 = .ok (.lconst 1, 1) := by decide +kernel
theorem dX6_load_11 : decode cX6_load 11 = .ok (.invokestatic 67, 3) := by decide +kernel
theorem dX6_load_14 : decode cX6_load 14 = .ok (.ifCond .eq 16, 3) := by decide +kernel
theorem dX6_load_17 : decode cX6_load 17 = .ok (.iload 4, 2) := by decide +kernel
theorem dX6_load_19 : decode cX6_load 19 = .ok (.i2l, 1) := by decide +kernel
theorem dX6_load_20 : decode cX6_load 20 = .ok (.lconst 0, 1) := by decide +kernel
theorem dX6_load_21 : decode cX6_load 21 = .ok (.ldc2_w 234, 3) := by decide +kernel
theorem dX6_load_24 : decode cX6_load 24 = .ok (.invokestatic 67, 3) := by decide +kernel
theorem dX6_load_27 : decode cX6_load 27 = .ok (.ifCond .ne 6, 3) := by decide +kernel
theorem dX6_load_30 : decode cX6_load 30 = .ok (.bipush (-2), 2) := by decide +kernel
theorem dX6_load_32 : decode cX6_load 32 = .ok (.ireturn, 1) := by decide +kernel
theorem dX6_load_33 : decode cX6_load 33 = .ok (.aload_n 0, 1) := by decide +kernel
theorem dX6_load_34 : decode cX6_load 34 = .ok (.getfield 33, 3) := by decide +kernel
theorem dX6_load_37 : decode cX6_load 37 = .ok (.iload_n 1, 1) := by decide +kernel
theorem dX6_load_38 : decode cX6_load 38 = .ok (.iaload, 1) := by decide +kernel
theorem dX6_load_39 : decode cX6_load 39 = .ok (.ifCond .ge 6, 3) := by decide +kernel
theorem dX6_load_42 : decode cX6_load 42 = .ok (.bipush (-11), 2) := by decide +kernel
theorem dX6_load_44 : decode cX6_load 44 = .ok (.ireturn, 1) := by decide +kernel
theorem dX6_load_45 : decode cX6_load 45 = .ok (.aload_n 0, 1) := by decide +kernel
theorem dX6_load_46 : decode cX6_load 46 = .ok (.getfield 33, 3) := by decide +kernel
theorem dX6_load_49 : decode cX6_load 49 = .ok (.iload_n 1, 1) := by decide +kernel
theorem dX6_load_50 : decode cX6_load 50 = .ok (.iaload, 1) := by decide +kernel
theorem dX6_load_51 : decode cX6_load 51 = .ok (.iload_n 2, 1) := by decide +kernel
theorem dX6_load_52 : decode cX6_load 52 = .ok (.if_icmp .eq 6, 3) := by decide +kernel
theorem dX6_load_55 : decode cX6_load 55 = .ok (.bipush (-13), 2) := by decide +kernel
theorem dX6_load_57 : decode cX6_load 57 = .ok (.ireturn, 1) := by decide +kernel
theorem dX6_load_58 : decode cX6_load 58 = .ok (.iconst 0, 1) := by decide +kernel
theorem dX6_load_59 : decode cX6_load 59 = .ok (.istore 5, 2) := by decide +kernel
theorem dX6_load_61 : decode cX6_load 61 = .ok (.iconst 0, 1) := by decide +kernel
theorem dX6_load_62 : decode cX6_load 62 = .ok (.istore 6, 2) := by decide +kernel
theorem dX6_load_64 : decode cX6_load 64 = .ok (.iload 6, 2) := by decide +kernel
theorem dX6_load_66 : decode cX6_load 66 = .ok (.iload 4, 2) := by decide +kernel
theorem dX6_load_68 : decode cX6_load 68 = .ok (.if_icmp .ge 112, 3) := by decide +kernel
theorem dX6_load_71 : decode cX6_load 71 = .ok (.iload_n 3, 1) := by decide +kernel
theorem dX6_load_72 : decode cX6_load 72 = .ok (.i2l, 1) := by decide +kernel
theorem dX6_load_73 : decode cX6_load 73 = .ok (.ldc2_w 137, 3) := by decide +kernel
theorem dX6_load_76 : decode cX6_load 76 = .ok (.iload 6, 2) := by decide +kernel
theorem dX6_load_78 : decode cX6_load 78 = .ok (.i2l, 1) := by decide +kernel
theorem dX6_load_79 : decode cX6_load 79 = .ok (.lmul, 1) := by decide +kernel
theorem dX6_load_80 : decode cX6_load 80 = .ok (.ladd, 1) := by decide +kernel
theorem dX6_load_81 : decode cX6_load 81 = .ok (.lstore 7, 2) := by decide +kernel
theorem dX6_load_83 : decode cX6_load 83 = .ok (.lload 7, 2) := by decide +kernel
theorem dX6_load_85 : decode cX6_load 85 = .ok (.lconst 0, 1) := by decide +kernel
theorem dX6_load_86 : decode cX6_load 86 = .ok (.lcmp, 1) := by decide +kernel
theorem dX6_load_87 : decode cX6_load 87 = .ok (.ifCond .lt 20, 3) := by decide +kernel
theorem dX6_load_90 : decode cX6_load 90 = .ok (.lload 7, 2) := by decide +kernel
theorem dX6_load_92 : decode cX6_load 92 = .ok (.ldc2_w 137, 3) := by decide +kernel
theorem dX6_load_95 : decode cX6_load 95 = .ok (.ladd, 1) := by decide +kernel
theorem dX6_load_96 : decode cX6_load 96 = .ok (.aload_n 0, 1) := by decide +kernel
theorem dX6_load_97 : decode cX6_load 97 = .ok (.getfield 36, 3) := by decide +kernel
theorem dX6_load_100 : decode cX6_load 100 = .ok (.iload_n 1, 1) := by decide +kernel
theorem dX6_load_101 : decode cX6_load 101 = .ok (.iaload, 1) := by decide +kernel
theorem dX6_load_102 : decode cX6_load 102 = .ok (.i2l, 1) := by decide +kernel
theorem dX6_load_103 : decode cX6_load 103 = .ok (.lcmp, 1) := by decide +kernel
theorem dX6_load_104 : decode cX6_load 104 = .ok (.ifCond .le 6, 3) := by decide +kernel
theorem dX6_load_107 : decode cX6_load 107 = .ok (.bipush (-12), 2) := by decide +kernel
theorem dX6_load_109 : decode cX6_load 109 = .ok (.ireturn, 1) := by decide +kernel
theorem dX6_load_110 : decode cX6_load 110 = .ok (.bipush 40, 2) := by decide +kernel
theorem dX6_load_112 : decode cX6_load 112 = .ok (.iload_n 1, 1) := by decide +kernel
theorem dX6_load_113 : decode cX6_load 113 = .ok (.imul, 1) := by decide +kernel
theorem dX6_load_114 : decode cX6_load 114 = .ok (.lload 7, 2) := by decide +kernel
theorem dX6_load_116 : decode cX6_load 116 = .ok (.l2i, 1) := by decide +kernel
theorem dX6_load_117 : decode cX6_load 117 = .ok (.iadd, 1) := by decide +kernel
theorem dX6_load_118 : decode cX6_load 118 = .ok (.istore 9, 2) := by decide +kernel
theorem dX6_load_120 : decode cX6_load 120 = .ok (.iload 5, 2) := by decide +kernel
theorem dX6_load_122 : decode cX6_load 122 = .ok (.aload_n 0, 1) := by decide +kernel
theorem dX6_load_123 : decode cX6_load 123 = .ok (.aload_n 0, 1) := by decide +kernel
theorem dX6_load_124 : decode cX6_load 124 = .ok (.getfield 39, 3) := by decide +kernel
theorem dX6_load_127 : decode cX6_load 127 = .ok (.iload 9, 2) := by decide +kernel
theorem dX6_load_129 : decode cX6_load 129 = .ok (.iaload, 1) := by decide +kernel
theorem dX6_load_130 : decode cX6_load 130 = .ok (.aload_n 0, 1) := by decide +kernel
theorem dX6_load_131 : decode cX6_load 131 = .ok (.getfield 39, 3) := by decide +kernel
theorem dX6_load_134 : decode cX6_load 134 = .ok (.iload 9, 2) := by decide +kernel
theorem dX6_load_136 : decode cX6_load 136 = .ok (.iconst 1, 1) := by decide +kernel
theorem dX6_load_137 : decode cX6_load 137 = .ok (.iadd, 1) := by decide +kernel
theorem dX6_load_138 : decode cX6_load 138 = .ok (.iaload, 1) := by decide +kernel
theorem dX6_load_139 : decode cX6_load 139 = .ok (.aload_n 0, 1) := by decide +kernel
theorem dX6_load_140 : decode cX6_load 140 = .ok (.getfield 39, 3) := by decide +kernel
theorem dX6_load_143 : decode cX6_load 143 = .ok (.iload 9, 2) := by decide +kernel
theorem dX6_load_145 : decode cX6_load 145 = .ok (.iconst 2, 1) := by decide +kernel
theorem dX6_load_146 : decode cX6_load 146 = .ok (.iadd, 1) := by decide +kernel
theorem dX6_load_147 : decode cX6_load 147 = .ok (.iaload, 1) := by decide +kernel
theorem dX6_load_148 : decode cX6_load 148 = .ok (.aload_n 0, 1) := by decide +kernel
theorem dX6_load_149 : decode cX6_load 149 = .ok (.getfield 39, 3) := by decide +kernel
theorem dX6_load_152 : decode cX6_load 152 = .ok (.iload 9, 2) := by decide +kernel
theorem dX6_load_154 : decode cX6_load 154 = .ok (.iconst 3, 1) := by decide +kernel
theorem dX6_load_155 : decode cX6_load 155 = .ok (.iadd, 1) := by decide +kernel
theorem dX6_load_156 : decode cX6_load 156 = .ok (.iaload, 1) := by decide +kernel
theorem dX6_load_157 : decode cX6_load 157 = .ok (.invokevirtual 236, 3) := by decide +kernel
theorem dX6_load_160 : decode cX6_load 160 = .ok (.ifCond .lt 7, 3) := by decide +kernel
theorem dX6_load_163 : decode cX6_load 163 = .ok (.iconst 1, 1) := by decide +kernel
theorem dX6_load_164 : decode cX6_load 164 = .ok (.goto 4, 3) := by decide +kernel
theorem dX6_load_167 : decode cX6_load 167 = .ok (.iconst 0, 1) := by decide +kernel
theorem dX6_load_168 : decode cX6_load 168 = .ok (.invokestatic 162, 3) := by decide +kernel
theorem dX6_load_171 : decode cX6_load 171 = .ok (.iadd, 1) := by decide +kernel
theorem dX6_load_172 : decode cX6_load 172 = .ok (.istore 5, 2) := by decide +kernel
theorem dX6_load_174 : decode cX6_load 174 = .ok (.iinc 6 1, 3) := by decide +kernel
theorem dX6_load_177 : decode cX6_load 177 = .ok (.goto (-113), 3) := by decide +kernel
theorem dX6_load_180 : decode cX6_load 180 = .ok (.iload 5, 2) := by decide +kernel
theorem dX6_load_182 : decode cX6_load 182 = .ok (.ireturn, 1) := by decide +kernel
set_option maxRecDepth 100000 in
theorem ggX6_feed_X6_in : GoodIn wsX6_feed wsX6_in := goodIn_g _ [8] [0] rfl (by decide +kernel)
set_option maxRecDepth 100000 in
theorem gX6_feed_X6_in : GoodIn wsX6_feed (va_wsS RX6 67 yX6_in wsX6_in) := goodIn_app (goodIn_of _ (by decide +kernel)) ggX6_feed_X6_in
theorem dX6_feed_0 : decode cX6_feed 0 = .ok (.iload_n 1, 1) := by decide +kernel
theorem dX6_feed_1 : decode cX6_feed 1 = .ok (.i2l, 1) := by decide +kernel
theorem dX6_feed_2 : decode cX6_feed 2 = .ok (.lconst 1, 1) := by decide +kernel
theorem dX6_feed_3 : decode cX6_feed 3 = .ok (.ldc2_w 71, 3) := by decide +kernel
theorem dX6_feed_6 : decode cX6_feed 6 = .ok (.invokestatic 67, 3) := by decide +kernel
theorem dX6_feed_9 : decode cX6_feed 9 = .ok (.ifCond .eq 66, 3) := by decide +kernel
theorem dX6_feed_12 : decode cX6_feed 12 = .ok (.iload_n 2, 1) := by decide +kernel
theorem dX6_feed_13 : decode cX6_feed 13 = .ok (.i2l, 1) := by decide +kernel
theorem dX6_feed_14 : decode cX6_feed 14 = .ok (.lconst 0, 1) := by decide +kernel
theorem dX6_feed_15 : decode cX6_feed 15 = .ok (.ldc2_w 240, 3) := by decide +kernel
theorem dX6_feed_18 : decode cX6_feed 18 = .ok (.invokestatic 67, 3) := by decide +kernel
theorem dX6_feed_21 : decode cX6_feed 21 = .ok (.ifCond .eq 54, 3) := by decide +kernel
theorem dX6_feed_24 : decode cX6_feed 24 = .ok (.iload_n 3, 1) := by decide +kernel
theorem dX6_feed_25 : decode cX6_feed 25 = .ok (.i2l, 1) := by decide +kernel
theorem dX6_feed_26 : decode cX6_feed 26 = .ok (.lconst 0, 1) := by decide +kernel
theorem dX6_feed_27 : decode cX6_feed 27 = .ok (.ldc2_w 240, 3) := by decide +kernel
theorem dX6_feed_30 : decode cX6_feed 30 = .ok (.invokestatic 67, 3) := by decide +kernel
theorem dX6_feed_33 : decode cX6_feed 33 = .ok (.ifCond .eq 42, 3) := by decide +kernel
theorem dX6_feed_36 : decode cX6_feed 36 = .ok (.iload 4, 2) := by decide +kernel
theorem dX6_feed_38 : decode cX6_feed 38 = .ok (.i2l, 1) := by decide +kernel
theorem dX6_feed_39 : decode cX6_feed 39 = .ok (.lconst 0, 1) := by decide +kernel
theorem dX6_feed_40 : decode cX6_feed 40 = .ok (.ldc2_w 240, 3) := by decide +kernel
theorem dX6_feed_43 : decode cX6_feed 43 = .ok (.invokestatic 67, 3) := by decide +kernel
theorem dX6_feed_46 : decode cX6_feed 46 = .ok (.ifCond .eq 29, 3) := by decide +kernel
theorem dX6_feed_49 : decode cX6_feed 49 = .ok (.iload 5, 2) := by decide +kernel
theorem dX6_feed_51 : decode cX6_feed 51 = .ok (.i2l, 1) := by decide +kernel
theorem dX6_feed_52 : decode cX6_feed 52 = .ok (.lconst 0, 1) := by decide +kernel
theorem dX6_feed_53 : decode cX6_feed 53 = .ok (.ldc2_w 240, 3) := by decide +kernel
theorem dX6_feed_56 : decode cX6_feed 56 = .ok (.invokestatic 67, 3) := by decide +kernel
theorem dX6_feed_59 : decode cX6_feed 59 = .ok (.ifCond .eq 16, 3) := by decide +kernel
theorem dX6_feed_62 : decode cX6_feed 62 = .ok (.iload 6, 2) := by decide +kernel
theorem dX6_feed_64 : decode cX6_feed 64 = .ok (.i2l, 1) := by decide +kernel
theorem dX6_feed_65 : decode cX6_feed 65 = .ok (.lconst 0, 1) := by decide +kernel
theorem dX6_feed_66 : decode cX6_feed 66 = .ok (.ldc2_w 240, 3) := by decide +kernel
theorem dX6_feed_69 : decode cX6_feed 69 = .ok (.invokestatic 67, 3) := by decide +kernel
theorem dX6_feed_72 : decode cX6_feed 72 = .ok (.ifCond .ne 6, 3) := by decide +kernel
theorem dX6_feed_75 : decode cX6_feed 75 = .ok (.bipush (-2), 2) := by decide +kernel
theorem dX6_feed_77 : decode cX6_feed 77 = .ok (.ireturn, 1) := by decide +kernel
theorem dX6_feed_78 : decode cX6_feed 78 = .ok (.aload_n 0, 1) := by decide +kernel
theorem dX6_feed_79 : decode cX6_feed 79 = .ok (.getfield 242, 3) := by decide +kernel
theorem dX6_feed_82 : decode cX6_feed 82 = .ok (.iload_n 1, 1) := by decide +kernel
theorem dX6_feed_83 : decode cX6_feed 83 = .ok (.iadd, 1) := by decide +kernel
theorem dX6_feed_84 : decode cX6_feed 84 = .ok (.bipush 60, 2) := by decide +kernel
theorem dX6_feed_86 : decode cX6_feed 86 = .ok (.if_icmp .le 6, 3) := by decide +kernel
theorem dX6_feed_89 : decode cX6_feed 89 = .ok (.bipush (-4), 2) := by decide +kernel
theorem dX6_feed_91 : decode cX6_feed 91 = .ok (.ireturn, 1) := by decide +kernel
theorem dX6_feed_92 : decode cX6_feed 92 = .ok (.iconst 0, 1) := by decide +kernel
theorem dX6_feed_93 : decode cX6_feed 93 = .ok (.istore 7, 2) := by decide +kernel
theorem dX6_feed_95 : decode cX6_feed 95 = .ok (.iload 7, 2) := by decide +kernel
theorem dX6_feed_97 : decode cX6_feed 97 = .ok (.iload_n 1, 1) := by decide +kernel
theorem dX6_feed_98 : decode cX6_feed 98 = .ok (.if_icmp .ge 71, 3) := by decide +kernel
theorem dX6_feed_101 : decode cX6_feed 101 = .ok (.aload_n 0, 1) := by decide +kernel
theorem dX6_feed_102 : decode cX6_feed 102 = .ok (.getfield 51, 3) := by decide +kernel
theorem dX6_feed_105 : decode cX6_feed 105 = .ok (.aload_n 0, 1) := by decide +kernel
theorem dX6_feed_106 : decode cX6_feed 106 = .ok (.getfield 242, 3) := by decide +kernel
theorem dX6_feed_109 : decode cX6_feed 109 = .ok (.iload 7, 2) := by decide +kernel
theorem dX6_feed_111 : decode cX6_feed 111 = .ok (.ifCond .ne 7, 3) := by decide +kernel
theorem dX6_feed_114 : decode cX6_feed 114 = .ok (.iload_n 2, 1) := by decide +kernel
theorem dX6_feed_115 : decode cX6_feed 115 = .ok (.goto 37, 3) := by decide +kernel
theorem dX6_feed_118 : decode cX6_feed 118 = .ok (.iload 7, 2) := by decide +kernel
theorem dX6_feed_120 : decode cX6_feed 120 = .ok (.iconst 1, 1) := by decide +kernel
theorem dX6_feed_121 : decode cX6_feed 121 = .ok (.if_icmp .ne 7, 3) := by decide +kernel
theorem dX6_feed_124 : decode cX6_feed 124 = .ok (.iload_n 3, 1) := by decide +kernel
theorem dX6_feed_125 : decode cX6_feed 125 = .ok (.goto 27, 3) := by decide +kernel
theorem dX6_feed_128 : decode cX6_feed 128 = .ok (.iload 7, 2) := by decide +kernel
theorem dX6_feed_130 : decode cX6_feed 130 = .ok (.iconst 2, 1) := by decide +kernel
theorem dX6_feed_131 : decode cX6_feed 131 = .ok (.if_icmp .ne 8, 3) := by decide +kernel
theorem dX6_feed_134 : decode cX6_feed 134 = .ok (.iload 4, 2) := by decide +kernel
theorem dX6_feed_136 : decode cX6_feed 136 = .ok (.goto 16, 3) := by decide +kernel
theorem dX6_feed_139 : decode cX6_feed 139 = .ok (.iload 7, 2) := by decide +kernel
theorem dX6_feed_141 : decode cX6_feed 141 = .ok (.iconst 3, 1) := by decide +kernel
theorem dX6_feed_142 : decode cX6_feed 142 = .ok (.if_icmp .ne 8, 3) := by decide +kernel
theorem dX6_feed_145 : decode cX6_feed 145 = .ok (.iload 5, 2) := by decide +kernel
theorem dX6_feed_147 : decode cX6_feed 147 = .ok (.goto 5, 3) := by decide +kernel
theorem dX6_feed_150 : decode cX6_feed 150 = .ok (.iload 6, 2) := by decide +kernel
theorem dX6_feed_152 : decode cX6_feed 152 = .ok (.iastore, 1) := by decide +kernel
theorem dX6_feed_153 : decode cX6_feed 153 = .ok (.aload_n 0, 1) := by decide +kernel
theorem dX6_feed_154 : decode cX6_feed 154 = .ok (.dup, 1) := by decide +kernel
theorem dX6_feed_155 : decode cX6_feed 155 = .ok (.getfield 242, 3) := by decide +kernel
theorem dX6_feed_158 : decode cX6_feed 158 = .ok (.iconst 1, 1) := by decide +kernel
theorem dX6_feed_159 : decode cX6_feed 159 = .ok (.iadd, 1) := by decide +kernel
theorem dX6_feed_160 : decode cX6_feed 160 = .ok (.putfield 242, 3) := by decide +kernel
theorem dX6_feed_163 : decode cX6_feed 163 = .ok (.iinc 7 1, 3) := by decide +kernel
theorem dX6_feed_166 : decode cX6_feed 166 = .ok (.goto (-71), 3) := by decide +kernel
theorem dX6_feed_169 : decode cX6_feed 169 = .ok (.aload_n 0, 1) := by decide +kernel
theorem dX6_feed_170 : decode cX6_feed 170 = .ok (.getfield 242, 3) := by decide +kernel
theorem dX6_feed_173 : decode cX6_feed 173 = .ok (.ireturn, 1) := by decide +kernel
theorem dX6_here_0 : decode cX6_here 0 = .ok (.aload_n 0, 1) := by decide +kernel
theorem dX6_here_1 : decode cX6_here 1 = .ok (.getfield 245, 3) := by decide +kernel
theorem dX6_here_4 : decode cX6_here 4 = .ok (.aload_n 0, 1) := by decide +kernel
theorem dX6_here_5 : decode cX6_here 5 = .ok (.getfield 242, 3) := by decide +kernel
theorem dX6_here_8 : decode cX6_here 8 = .ok (.if_icmp .ge 15, 3) := by decide +kernel
theorem dX6_here_11 : decode cX6_here 11 = .ok (.aload_n 0, 1) := by decide +kernel
theorem dX6_here_12 : decode cX6_here 12 = .ok (.getfield 51, 3) := by decide +kernel
theorem dX6_here_15 : decode cX6_here 15 = .ok (.aload_n 0, 1) := by decide +kernel
theorem dX6_here_16 : decode cX6_here 16 = .ok (.getfield 245, 3) := by decide +kernel
theorem dX6_here_19 : decode cX6_here 19 = .ok (.iaload, 1) := by decide +kernel
theorem dX6_here_20 : decode cX6_here 20 = .ok (.goto 4, 3) := by decide +kernel
theorem dX6_here_23 : decode cX6_here 23 = .ok (.iconst (-1), 1) := by decide +kernel
theorem dX6_here_24 : decode cX6_here 24 = .ok (.ireturn, 1) := by decide +kernel
set_option maxRecDepth 100000 in
theorem ggX6_wordHere_X6_here : GoodIn wsX6_wordHere wsX6_here := goodIn_g _ [3, 2, 5, 0, 3, 0, 0, 0, 0, 0, 0, 0, 0, 0, 0, 0, 0, 0, 0, 0, 0, 0, 0, 0, 0, 0, 0, 0, 0, 0, 0, 0] [2, 0, 3, 1, 4, 5, 6, 7, 8, 9, 10, 11, 12, 13, 14, 15, 16, 17, 18, 19, 20, 21, 22, 23, 24, 25, 26, 27, 28, 29, 30, 31] rfl (by decide +kernel)
set_option maxRecDepth 100000 in
theorem gX6_wordHere_X6_here : GoodIn wsX6_wordHere (wsV RX6 248 RX6 yX6_here wsX6_here) := goodIn_app (goodIn_of _ (by decide +kernel)) ggX6_wordHere_X6_here
set_option maxRecDepth 100000 in
theorem ggX6_wordHere_X6_in : GoodIn wsX6_wordHere wsX6_in := goodIn_g _ [16] [0] rfl (by decide +kernel)
set_option maxRecDepth 100000 in
theorem gX6_wordHere_X6_in : GoodIn wsX6_wordHere (va_wsS RX6 67 yX6_in wsX6_in) := goodIn_app (goodIn_of _ (by decide +kernel)) ggX6_wordHere_X6_in
theorem dX6_wordHere_0 : decode cX6_wordHere 0 = .ok (.aload_n 0, 1) := by decide +kernel
theorem dX6_wordHere_1 : decode cX6_wordHere 1 = .ok (.invokevirtual 248, 3) := by decide +kernel
theorem dX6_wordHere_4 : decode cX6_wordHere 4 = .ok (.i2l, 1) := by decide +kernel
theorem dX6_wordHere_5 : decode cX6_wordHere 5 = .ok (.ldc2_w 251, 3) := by decide +kernel
theorem dX6_wordHere_8 : decode cX6_wordHere 8 = .ok (.ldc2_w 253, 3) := by decide +kernel
theorem dX6_wordHere_11 : decode cX6_wordHere 11 = .ok (.invokestatic 67, 3) := by decide +kernel
theorem dX6_wordHere_14 : decode cX6_wordHere 14 = .ok (.ifCond .eq 16, 3) := by decide +kernel
theorem dX6_wordHere_17 : decode cX6_wordHere 17 = .ok (.aload_n 0, 1) := by decide +kernel
theorem dX6_wordHere_18 : decode cX6_wordHere 18 = .ok (.dup, 1) := by decide +kernel
theorem dX6_wordHere_19 : decode cX6_wordHere 19 = .ok (.getfield 245, 3) := by decide +kernel
theorem dX6_wordHere_22 : decode cX6_wordHere 22 = .ok (.iconst 1, 1) := by decide +kernel
theorem dX6_wordHere_23 : decode cX6_wordHere 23 = .ok (.iadd, 1) := by decide +kernel
theorem dX6_wordHere_24 : decode cX6_wordHere 24 = .ok (.putfield 245, 3) := by decide +kernel
theorem dX6_wordHere_27 : decode cX6_wordHere 27 = .ok (.goto (-27), 3) := by decide +kernel
theorem dX6_wordHere_30 : decode cX6_wordHere 30 = .ok (.iconst 0, 1) := by decide +kernel
theorem dX6_wordHere_31 : decode cX6_wordHere 31 = .ok (.istore_n 1, 1) := by decide +kernel
theorem dX6_wordHere_32 : decode cX6_wordHere 32 = .ok (.iload_n 1, 1) := by decide +kernel
theorem dX6_wordHere_33 : decode cX6_wordHere 33 = .ok (.iconst 5, 1) := by decide +kernel
theorem dX6_wordHere_34 : decode cX6_wordHere 34 = .ok (.if_icmp .ge 104, 3) := by decide +kernel
theorem dX6_wordHere_37 : decode cX6_wordHere 37 = .ok (.aload_n 0, 1) := by decide +kernel
theorem dX6_wordHere_38 : decode cX6_wordHere 38 = .ok (.getfield 245, 3) := by decide +kernel
theorem dX6_wordHere_41 : decode cX6_wordHere 41 = .ok (.aload_n 0, 1) := by decide +kernel
theorem dX6_wordHere_42 : decode cX6_wordHere 42 = .ok (.getfield 255, 3) := by decide +kernel
theorem dX6_wordHere_45 : decode cX6_wordHere 45 = .ok (.isub, 1) := by decide +kernel
theorem dX6_wordHere_46 : decode cX6_wordHere 46 = .ok (.aload_n 0, 1) := by decide +kernel
theorem dX6_wordHere_47 : decode cX6_wordHere 47 = .ok (.getfield 58, 3) := by decide +kernel
theorem dX6_wordHere_50 : decode cX6_wordHere 50 = .ok (.iload_n 1, 1) := by decide +kernel
theorem dX6_wordHere_51 : decode cX6_wordHere 51 = .ok (.iconst 1, 1) := by decide +kernel
theorem dX6_wordHere_52 : decode cX6_wordHere 52 = .ok (.iadd, 1) := by decide +kernel
theorem dX6_wordHere_53 : decode cX6_wordHere 53 = .ok (.iaload, 1) := by decide +kernel
theorem dX6_wordHere_54 : decode cX6_wordHere 54 = .ok (.aload_n 0, 1) := by decide +kernel
theorem dX6_wordHere_55 : decode cX6_wordHere 55 = .ok (.getfield 58, 3) := by decide +kernel
theorem dX6_wordHere_58 : decode cX6_wordHere 58 = .ok (.iload_n 1, 1) := by decide +kernel
theorem dX6_wordHere_59 : decode cX6_wordHere 59 = .ok (.iaload, 1) := by decide +kernel
theorem dX6_wordHere_60 : decode cX6_wordHere 60 = .ok (.isub, 1) := by decide +kernel
theorem dX6_wordHere_61 : decode cX6_wordHere 61 = .ok (.if_icmp .ne 7, 3) := by decide +kernel
theorem dX6_wordHere_64 : decode cX6_wordHere 64 = .ok (.iconst 1, 1) := by decide +kernel
theorem dX6_wordHere_65 : decode cX6_wordHere 65 = .ok (.goto 4, 3) := by decide +kernel
theorem dX6_wordHere_68 : decode cX6_wordHere 68 = .ok (.iconst 0, 1) := by decide +kernel
theorem dX6_wordHere_69 : decode cX6_wordHere 69 = .ok (.istore_n 2, 1) := by decide +kernel
theorem dX6_wordHere_70 : decode cX6_wordHere 70 = .ok (.aload_n 0, 1) := by decide +kernel
theorem dX6_wordHere_71 : decode cX6_wordHere 71 = .ok (.getfield 255, 3) := by decide +kernel
theorem dX6_wordHere_74 : decode cX6_wordHere 74 = .ok (.istore_n 3, 1) := by decide +kernel
theorem dX6_wordHere_75 : decode cX6_wordHere 75 = .ok (.iload_n 3, 1) := by decide +kernel
theorem dX6_wordHere_76 : decode cX6_wordHere 76 = .ok (.aload_n 0, 1) := by decide +kernel
theorem dX6_wordHere_77 : decode cX6_wordHere 77 = .ok (.getfield 245, 3) := by decide +kernel
theorem dX6_wordHere_80 : decode cX6_wordHere 80 = .ok (.if_icmp .ge 46, 3) := by decide +kernel
theorem dX6_wordHere_83 : decode cX6_wordHere 83 = .ok (.iload_n 2, 1) := by decide +kernel
theorem dX6_wordHere_84 : decode cX6_wordHere 84 = .ok (.ifCond .eq 42, 3) := by decide +kernel
theorem dX6_wordHere_87 : decode cX6_wordHere 87 = .ok (.aload_n 0, 1) := by decide +kernel
theorem dX6_wordHere_88 : decode cX6_wordHere 88 = .ok (.getfield 51, 3) := by decide +kernel
theorem dX6_wordHere_91 : decode cX6_wordHere 91 = .ok (.iload_n 3, 1) := by decide +kernel
theorem dX6_wordHere_92 : decode cX6_wordHere 92 = .ok (.iaload, 1) := by decide +kernel
theorem dX6_wordHere_93 : decode cX6_wordHere 93 = .ok (.aload_n 0, 1) := by decide +kernel
theorem dX6_wordHere_94 : decode cX6_wordHere 94 = .ok (.getfield 54, 3) := by decide +kernel
theorem dX6_wordHere_97 : decode cX6_wordHere 97 = .ok (.aload_n 0, 1) := by decide +kernel
theorem dX6_wordHere_98 : decode cX6_wordHere 98 = .ok (.getfield 58, 3) := by decide +kernel
theorem dX6_wordHere_101 : decode cX6_wordHere 101 = .ok (.iload_n 1, 1) := by decide +kernel
theorem dX6_wordHere_102 : decode cX6_wordHere 102 = .ok (.iaload, 1) := by decide +kernel
theorem dX6_wordHere_103 : decode cX6_wordHere 103 = .ok (.iload_n 3, 1) := by decide +kernel
theorem dX6_wordHere_104 : decode cX6_wordHere 104 = .ok (.iadd, 1) := by decide +kernel
theorem dX6_wordHere_105 : decode cX6_wordHere 105 = .ok (.aload_n 0, 1) := by decide +kernel
theorem dX6_wordHere_106 : decode cX6_wordHere 106 = .ok (.getfield 255, 3) := by decide +kernel
theorem dX6_wordHere_109 : decode cX6_wordHere 109 = .ok (.isub, 1) := by decide +kernel
theorem dX6_wordHere_110 : decode cX6_wordHere 110 = .ok (.caload, 1) := by decide +kernel
theorem dX6_wordHere_111 : decode cX6_wordHere 111 = .ok (.if_icmp .ne 7, 3) := by decide +kernel
theorem dX6_wordHere_114 : decode cX6_wordHere 114 = .ok (.iconst 1, 1) := by decide +kernel
theorem dX6_wordHere_115 : decode cX6_wordHere 115 = .ok (.goto 4, 3) := by decide +kernel
theorem dX6_wordHere_118 : decode cX6_wordHere 118 = .ok (.iconst 0, 1) := by decide +kernel
theorem dX6_wordHere_119 : decode cX6_wordHere 119 = .ok (.istore_n 2, 1) := by decide +kernel
theorem dX6_wordHere_120 : decode cX6_wordHere 120 = .ok (.iinc 3 1, 3) := by decide +kernel
theorem dX6_wordHere_123 : decode cX6_wordHere 123 = .ok (.goto (-48), 3) := by decide +kernel
theorem dX6_wordHere_126 : decode cX6_wordHere 126 = .ok (.iload_n 2, 1) := by decide +kernel
theorem dX6_wordHere_127 : decode cX6_wordHere 127 = .ok (.ifCond .eq 5, 3) := by decide +kernel
theorem dX6_wordHere_130 : decode cX6_wordHere 130 = .ok (.iload_n 1, 1) := by decide +kernel
theorem dX6_wordHere_131 : decode cX6_wordHere 131 = .ok (.ireturn, 1) := by decide +kernel
theorem dX6_wordHere_132 : decode cX6_wordHere 132 = .ok (.iinc 1 1, 3) := by decide +kernel
theorem dX6_wordHere_135 : decode cX6_wordHere 135 = .ok (.goto (-103), 3) := by decide +kernel
theorem dX6_wordHere_138 : decode cX6_wordHere 138 = .ok (.bipush 13, 2) := by decide +kernel
theorem dX6_wordHere_140 : decode cX6_wordHere 140 = .ok (.ireturn, 1) := by decide +kernel
set_option maxRecDepth 100000 in
theorem ggX6_numberHere_X6_here : GoodIn wsX6_numberHere wsX6_here := goodIn_g _ [1, 8, 0, 0, 3, 0, 0, 0, 0, 0, 0, 0, 0, 0, 0, 0, 0, 0, 0, 0, 0, 0, 0, 0, 0, 0, 0, 0, 0, 0, 0, 0] [1, 0, 2, 3, 4, 5, 6, 7, 8, 9, 10, 11, 12, 13, 14, 15, 16, 17, 18, 19, 20, 21, 22, 23, 24, 25, 26, 27, 28, 29, 30, 31] rfl (by decide +kernel)
set_option maxRecDepth 100000 in
theorem gX6_numberHere_X6_here : GoodIn wsX6_numberHere (wsV RX6 248 RX6 yX6_here wsX6_here) := goodIn_app (goodIn_of _ (by decide +kernel)) ggX6_numberHere_X6_here
set_option maxRecDepth 100000 in
theorem ggX6_numberHere_X6_in : GoodIn wsX6_numberHere wsX6_in := goodIn_g _ [15] [0] rfl (by decide +kernel)
set_option maxRecDepth 100000 in
theorem gX6_numberHere_X6_in : GoodIn wsX6_numberHere (va_wsS RX6 67 yX6_in wsX6_in) := goodIn_app (goodIn_of _ (by decide +kernel)) ggX6_numberHere_X6_in
theorem dX6_numberHere_0 : decode cX6_numberHere 0 = .ok (.aload_n 0, 1) := by decide +kernel
theorem dX6_numberHere_1 : decode cX6_numberHere 1 = .ok (.invokevirtual 248, 3) := by decide +kernel
theorem dX6_numberHere_4 : decode cX6_numberHere 4 = .ok (.bipush 45, 2) := by decide +kernel
theorem dX6_numberHere_6 : decode cX6_numberHere 6 = .ok (.if_icmp .ne 7, 3) := by decide +kernel
theorem dX6_numberHere_9 : decode cX6_numberHere 9 = .ok (.iconst 1, 1) := by decide +kernel
theorem dX6_numberHere_10 : decode cX6_numberHere 10 = .ok (.goto 4, 3) := by decide +kernel
theorem dX6_numberHere_13 : decode cX6_numberHere 13 = .ok (.iconst 0, 1) := by decide +kernel
theorem dX6_numberHere_14 : decode cX6_numberHere 14 = .ok (.istore_n 1, 1) := by decide +kernel
theorem dX6_numberHere_15 : decode cX6_numberHere 15 = .ok (.aload_n 0, 1) := by decide +kernel
theorem dX6_numberHere_16 : decode cX6_numberHere 16 = .ok (.dup, 1) := by decide +kernel
theorem dX6_numberHere_17 : decode cX6_numberHere 17 = .ok (.getfield 245, 3) := by decide +kernel
theorem dX6_numberHere_20 : decode cX6_numberHere 20 = .ok (.iload_n 1, 1) := by decide +kernel
theorem dX6_numberHere_21 : decode cX6_numberHere 21 = .ok (.ifCond .eq 7, 3) := by decide +kernel
theorem dX6_numberHere_24 : decode cX6_numberHere 24 = .ok (.iconst 1, 1) := by decide +kernel
theorem dX6_numberHere_25 : decode cX6_numberHere 25 = .ok (.goto 4, 3) := by decide +kernel
theorem dX6_numberHere_28 : decode cX6_numberHere 28 = .ok (.iconst 0, 1) := by decide +kernel
theorem dX6_numberHere_29 : decode cX6_numberHere 29 = .ok (.iadd, 1) := by decide +kernel
theorem dX6_numberHere_30 : decode cX6_numberHere 30 = .ok (.putfield 245, 3) := by decide +kernel
theorem dX6_numberHere_33 : decode cX6_numberHere 33 = .ok (.iconst 0, 1) := by decide +kernel
theorem dX6_numberHere_34 : decode cX6_numberHere 34 = .ok (.istore_n 2, 1) := by decide +kernel
theorem dX6_numberHere_35 : decode cX6_numberHere 35 = .ok (.aload_n 0, 1) := by decide +kernel
theorem dX6_numberHere_36 : decode cX6_numberHere 36 = .ok (.iconst 0, 1) := by decide +kernel
theorem dX6_numberHere_37 : decode cX6_numberHere 37 = .ok (.putfield 258, 3) := by decide +kernel
theorem dX6_numberHere_40 : decode cX6_numberHere 40 = .ok (.aload_n 0, 1) := by decide +kernel
theorem dX6_numberHere_41 : decode cX6_numberHere 41 = .ok (.invokevirtual 248, 3) := by decide +kernel
theorem dX6_numberHere_44 : decode cX6_numberHere 44 = .ok (.i2l, 1) := by decide +kernel
theorem dX6_numberHere_45 : decode cX6_numberHere 45 = .ok (.ldc2_w 261, 3) := by decide +kernel
theorem dX6_numberHere_48 : decode cX6_numberHere 48 = .ok (.ldc2_w 263, 3) := by decide +kernel
theorem dX6_numberHere_51 : decode cX6_numberHere 51 = .ok (.invokestatic 67, 3) := by decide +kernel
theorem dX6_numberHere_54 : decode cX6_numberHere 54 = .ok (.ifCond .eq 50, 3) := by decide +kernel
theorem dX6_numberHere_57 : decode cX6_numberHere 57 = .ok (.aload_n 0, 1) := by decide +kernel
theorem dX6_numberHere_58 : decode cX6_numberHere 58 = .ok (.iload_n 2, 1) := by decide +kernel
theorem dX6_numberHere_59 : decode cX6_numberHere 59 = .ok (.iconst 3, 1) := by decide +kernel
theorem dX6_numberHere_60 : decode cX6_numberHere 60 = .ok (.if_icmp .ge 21, 3) := by decide +kernel
theorem dX6_numberHere_63 : decode cX6_numberHere 63 = .ok (.bipush 10, 2) := by decide +kernel
theorem dX6_numberHere_65 : decode cX6_numberHere 65 = .ok (.aload_n 0, 1) := by decide +kernel
theorem dX6_numberHere_66 : decode cX6_numberHere 66 = .ok (.getfield 258, 3) := by decide +kernel
theorem dX6_numberHere_69 : decode cX6_numberHere 69 = .ok (.imul, 1) := by decide +kernel
theorem dX6_numberHere_70 : decode cX6_numberHere 70 = .ok (.aload_n 0, 1) := by decide +kernel
theorem dX6_numberHere_71 : decode cX6_numberHere 71 = .ok (.invokevirtual 248, 3) := by decide +kernel
theorem dX6_numberHere_74 : decode cX6_numberHere 74 = .ok (.iadd, 1) := by decide +kernel
theorem dX6_numberHere_75 : decode cX6_numberHere 75 = .ok (.bipush 48, 2) := by decide +kernel
theorem dX6_numberHere_77 : decode cX6_numberHere 77 = .ok (.isub, 1) := by decide +kernel
theorem dX6_numberHere_78 : decode cX6_numberHere 78 = .ok (.goto 7, 3) := by decide +kernel
theorem dX6_numberHere_81 : decode cX6_numberHere 81 = .ok (.aload_n 0, 1) := by decide +kernel
theorem dX6_numberHere_82 : decode cX6_numberHere 82 = .ok (.getfield 258, 3) := by decide +kernel
theorem dX6_numberHere_85 : decode cX6_numberHere 85 = .ok (.putfield 258, 3) := by decide +kernel
theorem dX6_numberHere_88 : decode cX6_numberHere 88 = .ok (.iinc 2 1, 3) := by decide +kernel
theorem dX6_numberHere_91 : decode cX6_numberHere 91 = .ok (.aload_n 0, 1) := by decide +kernel
theorem dX6_numberHere_92 : decode cX6_numberHere 92 = .ok (.dup, 1) := by decide +kernel
theorem dX6_numberHere_93 : decode cX6_numberHere 93 = .ok (.getfield 245, 3) := by decide +kernel
theorem dX6_numberHere_96 : decode cX6_numberHere 96 = .ok (.iconst 1, 1) := by decide +kernel
theorem dX6_numberHere_97 : decode cX6_numberHere 97 = .ok (.iadd, 1) := by decide +kernel
theorem dX6_numberHere_98 : decode cX6_numberHere 98 = .ok (.putfield 245, 3) := by decide +kernel
theorem dX6_numberHere_101 : decode cX6_numberHere 101 = .ok (.goto (-61), 3) := by decide +kernel
theorem dX6_numberHere_104 : decode cX6_numberHere 104 = .ok (.aload_n 0, 1) := by decide +kernel
theorem dX6_numberHere_105 : decode cX6_numberHere 105 = .ok (.iload_n 1, 1) := by decide +kernel
theorem dX6_numberHere_106 : decode cX6_numberHere 106 = .ok (.ifCond .eq 11, 3) := by decide +kernel
theorem dX6_numberHere_109 : decode cX6_numberHere 109 = .ok (.aload_n 0, 1) := by decide +kernel
theorem dX6_numberHere_110 : decode cX6_numberHere 110 = .ok (.getfield 258, 3) := by decide +kernel
theorem dX6_numberHere_113 : decode cX6_numberHere 113 = .ok (.ineg, 1) := by decide +kernel
theorem dX6_numberHere_114 : decode cX6_numberHere 114 = .ok (.goto 7, 3) := by decide +kernel
theorem dX6_numberHere_117 : decode cX6_numberHere 117 = .ok (.aload_n 0, 1) := by decide +kernel
theorem dX6_numberHere_118 : decode cX6_numberHere 118 = .ok (.getfield 258, 3) := by decide +kernel
theorem dX6_numberHere_121 : decode cX6_numberHere 121 = .ok (.putfield 258, 3) := by decide +kernel
theorem dX6_numberHere_124 : decode cX6_numberHere 124 = .ok (.iload_n 2, 1) := by decide +kernel
theorem dX6_numberHere_125 : decode cX6_numberHere 125 = .ok (.i2l, 1) := by decide +kernel
theorem dX6_numberHere_126 : decode cX6_numberHere 126 = .ok (.lconst 1, 1) := by decide +kernel
theorem dX6_numberHere_127 : decode cX6_numberHere 127 = .ok (.ldc2_w 89, 3) := by decide +kernel
theorem dX6_numberHere_130 : decode cX6_numberHere 130 = .ok (.invokestatic 67, 3) := by decide +kernel
theorem dX6_numberHere_133 : decode cX6_numberHere 133 = .ok (.ifCond .eq 8, 3) := by decide +kernel
theorem dX6_numberHere_136 : decode cX6_numberHere 136 = .ok (.bipush 10, 2) := by decide +kernel
theorem dX6_numberHere_138 : decode cX6_numberHere 138 = .ok (.goto 5, 3) := by decide +kernel
theorem dX6_numberHere_141 : decode cX6_numberHere 141 = .ok (.bipush 13, 2) := by decide +kernel
theorem dX6_numberHere_143 : decode cX6_numberHere 143 = .ok (.ireturn, 1) := by decide +kernel
set_option maxRecDepth 100000 in
theorem ggX6_next_X6_here : GoodIn wsX6_next wsX6_here := goodIn_g _ [1, 10, 0, 0, 15, 0, 0, 0, 0, 0, 0, 0, 0, 0, 0, 0, 0, 0, 0, 0, 0, 0, 0, 0, 0, 0, 0, 0, 0, 0, 0, 0] [1, 0, 2, 3, 4, 5, 6, 7, 8, 9, 10, 11, 12, 13, 14, 15, 16, 17, 18, 19, 20, 21, 22, 23, 24, 25, 26, 27, 28, 29, 30, 31] rfl (by decide +kernel)
set_option maxRecDepth 100000 in
theorem gX6_next_X6_here : GoodIn wsX6_next (wsV RX6 248 RX6 yX6_here wsX6_here) := goodIn_app (goodIn_of _ (by decide +kernel)) ggX6_next_X6_here
set_option maxRecDepth 100000 in
theorem ggX6_next_X6_in : GoodIn wsX6_next wsX6_in := goodIn_g _ [17] [0] rfl (by decide +kernel)
set_option maxRecDepth 100000 in
theorem gX6_next_X6_in : GoodIn wsX6_next (va_wsS RX6 67 yX6_in wsX6_in) := goodIn_app (goodIn_of _ (by decide +kernel)) ggX6_next_X6_in
set_option maxRecDepth 100000 in
theorem ggX6_next_X6_wordHere : GoodIn wsX6_next wsX6_wordHere := goodIn_g _ [1, 0, 0, 0, 3, 0, 0, 0, 0, 0, 0, 0, 0, 0, 3, 0, 0, 6, 0, 0, 0, 0, 0, 0, 0, 0, 0, 0, 0, 0, 0, 0, 0, 0, 0, 0, 0, 0, 0, 0, 0, 0, 0, 0, 0] [14, 2, 3, 0, 1, 15, 10, 16, 4, 5, 6, 7, 8, 9, 11, 12, 13, 17, 18, 19, 20, 21, 22, 23, 24, 25, 26, 27, 28, 29, 30, 31, 32, 33, 34, 35, 36, 37, 38, 39, 40, 41, 42, 43, 44] rfl (by decide +kernel)
set_option maxRecDepth 100000 in
theorem gX6_next_X6_wordHere : GoodIn wsX6_next (wsV RX6 265 RX6 yX6_wordHere wsX6_wordHere) := goodIn_app (goodIn_of _ (by decide +kernel)) ggX6_next_X6_wordHere
set_option maxRecDepth 100000 in
theorem ggX6_next_X6_numberHere : GoodIn wsX6_next wsX6_numberHere := goodIn_g _ [1, 4, 0, 0, 0, 0, 0, 0, 0, 0, 0, 0, 0, 9, 0, 0, 0, 0, 0, 0, 0, 0, 0, 0, 0, 0, 0, 0, 0, 0, 0, 0, 0, 0, 0, 0, 0, 0, 0, 0, 0, 0, 0, 0] [13, 0, 14, 1, 2, 15, 3, 4, 5, 6, 7, 8, 9, 10, 11, 12, 16, 17, 18, 19, 20, 21, 22, 23, 24, 25, 26, 27, 28, 29, 30, 31, 32, 33, 34, 35, 36, 37, 38, 39, 40, 41, 42, 43] rfl (by decide +kernel)
set_option maxRecDepth 100000 in
theorem gX6_next_X6_numberHere : GoodIn wsX6_next (wsV RX6 271 RX6 yX6_numberHere wsX6_numberHere) := goodIn_app (goodIn_of _ (by decide +kernel)) ggX6_next_X6_numberHere
theorem dX6_next_0 : decode cX6_next 0 = .ok (.aload_n 0, 1) := by decide +kernel
theorem dX6_next_1 : decode cX6_next 1 = .ok (.invokevirtual 248, 3) := by decide +kernel
theorem dX6_next_4 : decode cX6_next 4 = .ok (.bipush 32, 2) := by decide +kernel
theorem dX6_next_6 : decode cX6_next 6 = .ok (.if_icmp .eq 12, 3) := by decide +kernel
theorem dX6_next_9 : decode cX6_next 9 = .ok (.aload_n 0, 1) := by decide +kernel
theorem dX6_next_10 : decode cX6_next 10 = .ok (.invokevirtual 248, 3) := by decide +kernel
theorem dX6_next_13 : decode cX6_next 13 = .ok (.bipush 10, 2) := by decide +kernel
theorem dX6_next_15 : decode cX6_next 15 = .ok (.if_icmp .ne 16, 3) := by decide +kernel
theorem dX6_next_18 : decode cX6_next 18 = .ok (.aload_n 0, 1) := by decide +kernel
theorem dX6_next_19 : decode cX6_next 19 = .ok (.dup, 1) := by decide +kernel
theorem dX6_next_20 : decode cX6_next 20 = .ok (.getfield 245, 3) := by decide +kernel
theorem dX6_next_23 : decode cX6_next 23 = .ok (.iconst 1, 1) := by decide +kernel
theorem dX6_next_24 : decode cX6_next 24 = .ok (.iadd, 1) := by decide +kernel
theorem dX6_next_25 : decode cX6_next 25 = .ok (.putfield 245, 3) := by decide +kernel
theorem dX6_next_28 : decode cX6_next 28 = .ok (.goto (-28), 3) := by decide +kernel
theorem dX6_next_31 : decode cX6_next 31 = .ok (.aload_n 0, 1) := by decide +kernel
theorem dX6_next_32 : decode cX6_next 32 = .ok (.aload_n 0, 1) := by decide +kernel
theorem dX6_next_33 : decode cX6_next 33 = .ok (.getfield 245, 3) := by decide +kernel
theorem dX6_next_36 : decode cX6_next 36 = .ok (.putfield 255, 3) := by decide +kernel
theorem dX6_next_39 : decode cX6_next 39 = .ok (.aload_n 0, 1) := by decide +kernel
theorem dX6_next_40 : decode cX6_next 40 = .ok (.invokevirtual 248, 3) := by decide +kernel
theorem dX6_next_43 : decode cX6_next 43 = .ok (.istore_n 1, 1) := by decide +kernel
theorem dX6_next_44 : decode cX6_next 44 = .ok (.iload_n 1, 1) := by decide +kernel
theorem dX6_next_45 : decode cX6_next 45 = .ok (.i2l, 1) := by decide +kernel
theorem dX6_next_46 : decode cX6_next 46 = .ok (.ldc2_w 251, 3) := by decide +kernel
theorem dX6_next_49 : decode cX6_next 49 = .ok (.ldc2_w 253, 3) := by decide +kernel
theorem dX6_next_52 : decode cX6_next 52 = .ok (.invokestatic 67, 3) := by decide +kernel
theorem dX6_next_55 : decode cX6_next 55 = .ok (.ifCond .eq 14, 3) := by decide +kernel
theorem dX6_next_58 : decode cX6_next 58 = .ok (.aload_n 0, 1) := by decide +kernel
theorem dX6_next_59 : decode cX6_next 59 = .ok (.aload_n 0, 1) := by decide +kernel
theorem dX6_next_60 : decode cX6_next 60 = .ok (.invokevirtual 265, 3) := by decide +kernel
theorem dX6_next_63 : decode cX6_next 63 = .ok (.putfield 268, 3) := by decide +kernel
theorem dX6_next_66 : decode cX6_next 66 = .ok (.goto 75, 3) := by decide +kernel
theorem dX6_next_69 : decode cX6_next 69 = .ok (.iload_n 1, 1) := by decide +kernel
theorem dX6_next_70 : decode cX6_next 70 = .ok (.i2l, 1) := by decide +kernel
theorem dX6_next_71 : decode cX6_next 71 = .ok (.ldc2_w 261, 3) := by decide +kernel
theorem dX6_next_74 : decode cX6_next 74 = .ok (.ldc2_w 263, 3) := by decide +kernel
theorem dX6_next_77 : decode cX6_next 77 = .ok (.invokestatic 67, 3) := by decide +kernel
theorem dX6_next_80 : decode cX6_next 80 = .ok (.ifCond .ne 9, 3) := by decide +kernel
theorem dX6_next_83 : decode cX6_next 83 = .ok (.iload_n 1, 1) := by decide +kernel
theorem dX6_next_84 : decode cX6_next 84 = .ok (.bipush 45, 2) := by decide +kernel
theorem dX6_next_86 : decode cX6_next 86 = .ok (.if_icmp .ne 14, 3) := by decide +kernel
theorem dX6_next_89 : decode cX6_next 89 = .ok (.aload_n 0, 1) := by decide +kernel
theorem dX6_next_90 : decode cX6_next 90 = .ok (.aload_n 0, 1) := by decide +kernel
theorem dX6_next_91 : decode cX6_next 91 = .ok (.invokevirtual 271, 3) := by decide +kernel
theorem dX6_next_94 : decode cX6_next 94 = .ok (.putfield 268, 3) := by decide +kernel
theorem dX6_next_97 : decode cX6_next 97 = .ok (.goto 44, 3) := by decide +kernel
theorem dX6_next_100 : decode cX6_next 100 = .ok (.iload_n 1, 1) := by decide +kernel
theorem dX6_next_101 : decode cX6_next 101 = .ok (.bipush 59, 2) := by decide +kernel
theorem dX6_next_103 : decode cX6_next 103 = .ok (.if_icmp .ne 22, 3) := by decide +kernel
theorem dX6_next_106 : decode cX6_next 106 = .ok (.aload_n 0, 1) := by decide +kernel
theorem dX6_next_107 : decode cX6_next 107 = .ok (.bipush 11, 2) := by decide +kernel
theorem dX6_next_109 : decode cX6_next 109 = .ok (.putfield 268, 3) := by decide +kernel
theorem dX6_next_112 : decode cX6_next 112 = .ok (.aload_n 0, 1) := by decide +kernel
theorem dX6_next_113 : decode cX6_next 113 = .ok (.dup, 1) := by decide +kernel
theorem dX6_next_114 : decode cX6_next 114 = .ok (.getfield 245, 3) := by decide +kernel
theorem dX6_next_117 : decode cX6_next 117 = .ok (.iconst 1, 1) := by decide +kernel
theorem dX6_next_118 : decode cX6_next 118 = .ok (.iadd, 1) := by decide +kernel
theorem dX6_next_119 : decode cX6_next 119 = .ok (.putfield 245, 3) := by decide +kernel
theorem dX6_next_122 : decode cX6_next 122 = .ok (.goto 19, 3) := by decide +kernel
theorem dX6_next_125 : decode cX6_next 125 = .ok (.aload_n 0, 1) := by decide +kernel
theorem dX6_next_126 : decode cX6_next 126 = .ok (.iload_n 1, 1) := by decide +kernel
theorem dX6_next_127 : decode cX6_next 127 = .ok (.iconst (-1), 1) := by decide +kernel
theorem dX6_next_128 : decode cX6_next 128 = .ok (.if_icmp .ne 8, 3) := by decide +kernel
theorem dX6_next_131 : decode cX6_next 131 = .ok (.bipush 12, 2) := by decide +kernel
theorem dX6_next_133 : decode cX6_next 133 = .ok (.goto 5, 3) := by decide +kernel
theorem dX6_next_136 : decode cX6_next 136 = .ok (.bipush 13, 2) := by decide +kernel
theorem dX6_next_138 : decode cX6_next 138 = .ok (.putfield 268, 3) := by decide +kernel
theorem dX6_next_141 : decode cX6_next 141 = .ok (.return_, 1) := by decide +kernel
set_option maxRecDepth 100000 in
theorem ggX6_clause_X6_next : GoodIn wsX6_clause wsX6_next := goodIn_g _ [1, 3, 3, 0, 0, 0, 0, 0, 0, 0, 0, 0, 0, 0, 0, 0, 0, 0, 0, 0, 0, 0, 0, 0, 0, 0, 0, 0, 0, 0, 0, 0, 0, 0, 0, 0, 0, 0, 0, 0, 0, 0, 0, 0, 0, 0, 0, 0, 0, 0, 0, 0, 0, 0, 0, 0, 0, 0] [3, 4, 5, 6, 7, 0, 8, 9, 10, 11, 12, 2, 13, 14, 15, 16, 17, 18, 19, 20, 21, 22, 23, 24, 25, 26, 27, 28, 1, 29, 30, 31, 32, 33, 34, 35, 36, 37, 38, 39, 40, 41, 42, 43, 44, 45, 46, 47, 48, 49, 50, 51, 52, 53, 54, 55, 56, 57] rfl (by decide +kernel)
set_option maxRecDepth 100000 in
theorem gX6_clause_X6_next : GoodIn wsX6_clause (wsV RX6 277 RX6 yX6_next wsX6_next) := goodIn_app (goodIn_of _ (by decide +kernel)) ggX6_clause_X6_next
theorem dX6_clause_0 : decode cX6_clause 0 = .ok (.aload_n 0, 1) := by decide +kernel
theorem dX6_clause_1 : decode cX6_clause 1 = .ok (.getfield 268, 3) := by decide +kernel
theorem dX6_clause_4 : decode cX6_clause 4 = .ok (.iconst 4, 1) := by decide +kernel
theorem dX6_clause_5 : decode cX6_clause 5 = .ok (.if_icmp .le 5, 3) := by decide +kernel
theorem dX6_clause_8 : decode cX6_clause 8 = .ok (.iconst 0, 1) := by decide +kernel
theorem dX6_clause_9 : decode cX6_clause 9 = .ok (.ireturn, 1) := by decide +kernel
theorem dX6_clause_10 : decode cX6_clause 10 = .ok (.aload_n 0, 1) := by decide +kernel
theorem dX6_clause_11 : decode cX6_clause 11 = .ok (.getfield 268, 3) := by decide +kernel
theorem dX6_clause_14 : decode cX6_clause 14 = .ok (.istore_n 1, 1) := by decide +kernel
theorem dX6_clause_15 : decode cX6_clause 15 = .ok (.aload_n 0, 1) := by decide +kernel
theorem dX6_clause_16 : decode cX6_clause 16 = .ok (.getfield 64, 3) := by decide +kernel
theorem dX6_clause_19 : decode cX6_clause 19 = .ok (.iconst 5, 1) := by decide +kernel
theorem dX6_clause_20 : decode cX6_clause 20 = .ok (.aload_n 0, 1) := by decide +kernel
theorem dX6_clause_21 : decode cX6_clause 21 = .ok (.getfield 274, 3) := by decide +kernel
theorem dX6_clause_24 : decode cX6_clause 24 = .ok (.imul, 1) := by decide +kernel
theorem dX6_clause_25 : decode cX6_clause 25 = .ok (.iload_n 1, 1) := by decide +kernel
theorem dX6_clause_26 : decode cX6_clause 26 = .ok (.iastore, 1) := by decide +kernel
theorem dX6_clause_27 : decode cX6_clause 27 = .ok (.aload_n 0, 1) := by decide +kernel
theorem dX6_clause_28 : decode cX6_clause 28 = .ok (.invokevirtual 277, 3) := by decide +kernel
theorem dX6_clause_31 : decode cX6_clause 31 = .ok (.iconst 0, 1) := by decide +kernel
theorem dX6_clause_32 : decode cX6_clause 32 = .ok (.istore_n 2, 1) := by decide +kernel
theorem dX6_clause_33 : decode cX6_clause 33 = .ok (.iload_n 2, 1) := by decide +kernel
theorem dX6_clause_34 : decode cX6_clause 34 = .ok (.aload_n 0, 1) := by decide +kernel
theorem dX6_clause_35 : decode cX6_clause 35 = .ok (.getfield 61, 3) := by decide +kernel
theorem dX6_clause_38 : decode cX6_clause 38 = .ok (.iload_n 1, 1) := by decide +kernel
theorem dX6_clause_39 : decode cX6_clause 39 = .ok (.iaload, 1) := by decide +kernel
theorem dX6_clause_40 : decode cX6_clause 40 = .ok (.if_icmp .ge 43, 3) := by decide +kernel
theorem dX6_clause_43 : decode cX6_clause 43 = .ok (.aload_n 0, 1) := by decide +kernel
theorem dX6_clause_44 : decode cX6_clause 44 = .ok (.getfield 268, 3) := by decide +kernel
theorem dX6_clause_47 : decode cX6_clause 47 = .ok (.bipush 10, 2) := by decide +kernel
theorem dX6_clause_49 : decode cX6_clause 49 = .ok (.if_icmp .eq 5, 3) := by decide +kernel
theorem dX6_clause_52 : decode cX6_clause 52 = .ok (.iconst 0, 1) := by decide +kernel
theorem dX6_clause_53 : decode cX6_clause 53 = .ok (.ireturn, 1) := by decide +kernel
theorem dX6_clause_54 : decode cX6_clause 54 = .ok (.aload_n 0, 1) := by decide +kernel
theorem dX6_clause_55 : decode cX6_clause 55 = .ok (.getfield 64, 3) := by decide +kernel
theorem dX6_clause_58 : decode cX6_clause 58 = .ok (.iconst 5, 1) := by decide +kernel
theorem dX6_clause_59 : decode cX6_clause 59 = .ok (.aload_n 0, 1) := by decide +kernel
theorem dX6_clause_60 : decode cX6_clause 60 = .ok (.getfield 274, 3) := by decide +kernel
theorem dX6_clause_63 : decode cX6_clause 63 = .ok (.imul, 1) := by decide +kernel
theorem dX6_clause_64 : decode cX6_clause 64 = .ok (.iconst 1, 1) := by decide +kernel
theorem dX6_clause_65 : decode cX6_clause 65 = .ok (.iadd, 1) := by decide +kernel
theorem dX6_clause_66 : decode cX6_clause 66 = .ok (.iload_n 2, 1) := by decide +kernel
theorem dX6_clause_67 : decode cX6_clause 67 = .ok (.iadd, 1) := by decide +kernel
theorem dX6_clause_68 : decode cX6_clause 68 = .ok (.aload_n 0, 1) := by decide +kernel
theorem dX6_clause_69 : decode cX6_clause 69 = .ok (.getfield 258, 3) := by decide +kernel
theorem dX6_clause_72 : decode cX6_clause 72 = .ok (.iastore, 1) := by decide +kernel
theorem dX6_clause_73 : decode cX6_clause 73 = .ok (.aload_n 0, 1) := by decide +kernel
theorem dX6_clause_74 : decode cX6_clause 74 = .ok (.invokevirtual 277, 3) := by decide +kernel
theorem dX6_clause_77 : decode cX6_clause 77 = .ok (.iinc 2 1, 3) := by decide +kernel
theorem dX6_clause_80 : decode cX6_clause 80 = .ok (.goto (-47), 3) := by decide +kernel
theorem dX6_clause_83 : decode cX6_clause 83 = .ok (.aload_n 0, 1) := by decide +kernel
theorem dX6_clause_84 : decode cX6_clause 84 = .ok (.dup, 1) := by decide +kernel
theorem dX6_clause_85 : decode cX6_clause 85 = .ok (.getfield 274, 3) := by decide +kernel
theorem dX6_clause_88 : decode cX6_clause 88 = .ok (.iconst 1, 1) := by decide +kernel
theorem dX6_clause_89 : decode cX6_clause 89 = .ok (.iadd, 1) := by decide +kernel
theorem dX6_clause_90 : decode cX6_clause 90 = .ok (.putfield 274, 3) := by decide +kernel
theorem dX6_clause_93 : decode cX6_clause 93 = .ok (.iconst 1, 1) := by decide +kernel
theorem dX6_clause_94 : decode cX6_clause 94 = .ok (.ireturn, 1) := by decide +kernel
set_option maxRecDepth 100000 in
theorem ggX6_does_X6_piece : GoodIn wsX6_does wsX6_piece := goodIn_g _ [6, 0, 0, 0, 0, 0, 0, 0, 0, 0, 0, 0, 0, 0, 34, 0, 0, 0, 0, 0, 0, 0, 0, 0, 0, 0, 0, 0, 0, 0, 0, 0, 0, 0, 0, 0, 0, 0, 0, 0, 0, 0] [1, 2, 3, 4, 0, 5, 6, 7, 8, 9, 10, 11, 12, 13, 14, 15, 16, 17, 18, 19, 20, 21, 22, 23, 24, 25, 26, 27, 28, 29, 30, 31, 32, 33, 34, 35, 36, 37, 38, 39, 40, 41] rfl (by decide +kernel)
set_option maxRecDepth 100000 in
theorem gX6_does_X6_piece : GoodIn wsX6_does (wsV RX6 236 RX6 yX6_piece wsX6_piece) := goodIn_app (goodIn_of _ (by decide +kernel)) ggX6_does_X6_piece
set_option maxRecDepth 100000 in
theorem ggX6_does_X6_set : GoodIn wsX6_does wsX6_set := goodIn_g _ [6, 1, 0, 0, 0, 0, 0, 0, 0, 0, 0, 0, 0, 3, 0, 0, 0, 0, 0, 0, 0, 0, 0, 21, 0, 0, 0, 0, 0, 0, 0, 0, 0, 0, 0, 0, 0, 0, 0, 0, 0, 0, 0, 0, 0, 0, 0, 0, 0, 0, 0] [13, 14, 1, 15, 16, 17, 0, 18, 10, 11, 12, 2, 3, 4, 5, 6, 7, 8, 9, 19, 20, 21, 22, 23, 24, 25, 26, 27, 28, 29, 30, 31, 32, 33, 34, 35, 36, 37, 38, 39, 40, 41, 42, 43, 44, 45, 46, 47, 48, 49, 50] rfl (by decide +kernel)
set_option maxRecDepth 100000 in
theorem gX6_does_X6_set : GoodIn wsX6_does (wsV RX6 280 RX6 yX6_set wsX6_set) := goodIn_app (goodIn_of _ (by decide +kernel)) ggX6_does_X6_set
set_option maxRecDepth 100000 in
theorem ggX6_does_X6_rule_ : GoodIn wsX6_does wsX6_rule_ := goodIn_g _ [2, 3, 1, 6, 0, 0, 0, 0, 16, 0, 0, 0, 0, 0, 0, 0, 0, 0, 0, 0, 0, 0, 4, 0, 0, 0, 0, 0, 0, 0, 0, 0, 0, 0, 0, 0, 0, 0, 0, 0, 0, 0, 0, 0, 0, 0, 0, 0, 0, 0] [8, 9, 0, 2, 5, 6, 1, 7, 10, 11, 12, 13, 3, 14, 15, 16, 17, 4, 18, 19, 20, 21, 22, 23, 24, 25, 26, 27, 28, 29, 30, 31, 32, 33, 34, 35, 36, 37, 38, 39, 40, 41, 42, 43, 44, 45, 46, 47, 48, 49] rfl (by decide +kernel)
set_option maxRecDepth 100000 in
theorem gX6_does_X6_rule_ : GoodIn wsX6_does (wsV RX6 283 RX6 yX6_rule_ wsX6_rule_) := goodIn_app (goodIn_of _ (by decide +kernel)) ggX6_does_X6_rule_
set_option maxRecDepth 100000 in
theorem ggX6_does_X6_drop : GoodIn wsX6_does wsX6_drop := goodIn_g _ [8, 44, 0, 0, 0, 0, 0, 0, 0, 0, 0, 0, 0, 0, 0, 0, 0, 0, 0, 0, 0, 0, 0, 0, 0, 0, 0, 0, 0, 0] [1, 0, 2, 3, 4, 5, 6, 7, 8, 9, 10, 11, 12, 13, 14, 15, 16, 17, 18, 19, 20, 21, 22, 23, 24, 25, 26, 27, 28, 29] rfl (by decide +kernel)
set_option maxRecDepth 100000 in
theorem gX6_does_X6_drop : GoodIn wsX6_does (wsV RX6 286 RX6 yX6_drop wsX6_drop) := goodIn_app (goodIn_of _ (by decide +kernel)) ggX6_does_X6_drop
theorem dX6_does_0 : decode cX6_does 0 = .ok (.aload_n 0, 1) := by decide +kernel
theorem dX6_does_1 : decode cX6_does 1 = .ok (.getfield 64, 3) := by decide +kernel
theorem dX6_does_4 : decode cX6_does 4 = .ok (.iconst 5, 1) := by decide +kernel
theorem dX6_does_5 : decode cX6_does 5 = .ok (.iload_n 1, 1) := by decide +kernel
theorem dX6_does_6 : decode cX6_does 6 = .ok (.imul, 1) := by decide +kernel
theorem dX6_does_7 : decode cX6_does 7 = .ok (.iconst 1, 1) := by decide +kernel
theorem dX6_does_8 : decode cX6_does 8 = .ok (.iadd, 1) := by decide +kernel
theorem dX6_does_9 : decode cX6_does 9 = .ok (.iaload, 1) := by decide +kernel
theorem dX6_does_10 : decode cX6_does 10 = .ok (.istore_n 2, 1) := by decide +kernel
theorem dX6_does_11 : decode cX6_does 11 = .ok (.aload_n 0, 1) := by decide +kernel
theorem dX6_does_12 : decode cX6_does 12 = .ok (.getfield 64, 3) := by decide +kernel
theorem dX6_does_15 : decode cX6_does 15 = .ok (.iconst 5, 1) := by decide +kernel
theorem dX6_does_16 : decode cX6_does 16 = .ok (.iload_n 1, 1) := by decide +kernel
theorem dX6_does_17 : decode cX6_does 17 = .ok (.imul, 1) := by decide +kernel
theorem dX6_does_18 : decode cX6_does 18 = .ok (.iconst 2, 1) := by decide +kernel
theorem dX6_does_19 : decode cX6_does 19 = .ok (.iadd, 1) := by decide +kernel
theorem dX6_does_20 : decode cX6_does 20 = .ok (.iaload, 1) := by decide +kernel
theorem dX6_does_21 : decode cX6_does 21 = .ok (.istore_n 3, 1) := by decide +kernel
theorem dX6_does_22 : decode cX6_does 22 = .ok (.aload_n 0, 1) := by decide +kernel
theorem dX6_does_23 : decode cX6_does 23 = .ok (.getfield 64, 3) := by decide +kernel
theorem dX6_does_26 : decode cX6_does 26 = .ok (.iconst 5, 1) := by decide +kernel
theorem dX6_does_27 : decode cX6_does 27 = .ok (.iload_n 1, 1) := by decide +kernel
theorem dX6_does_28 : decode cX6_does 28 = .ok (.imul, 1) := by decide +kernel
theorem dX6_does_29 : decode cX6_does 29 = .ok (.iaload, 1) := by decide +kernel
theorem dX6_does_30 : decode cX6_does 30 = .ok (.tableswitch 122 0 3 #[30, 65, 84, 103], 30) := by decide +kernel
theorem dX6_does_60 : decode cX6_does 60 = .ok (.aload_n 0, 1) := by decide +kernel
theorem dX6_does_61 : decode cX6_does 61 = .ok (.iload_n 2, 1) := by decide +kernel
theorem dX6_does_62 : decode cX6_does 62 = .ok (.iload_n 3, 1) := by decide +kernel
theorem dX6_does_63 : decode cX6_does 63 = .ok (.aload_n 0, 1) := by decide +kernel
theorem dX6_does_64 : decode cX6_does 64 = .ok (.getfield 64, 3) := by decide +kernel
theorem dX6_does_67 : decode cX6_does 67 = .ok (.iconst 5, 1) := by decide +kernel
theorem dX6_does_68 : decode cX6_does 68 = .ok (.iload_n 1, 1) := by decide +kernel
theorem dX6_does_69 : decode cX6_does 69 = .ok (.imul, 1) := by decide +kernel
theorem dX6_does_70 : decode cX6_does 70 = .ok (.iconst 3, 1) := by decide +kernel
theorem dX6_does_71 : decode cX6_does 71 = .ok (.iadd, 1) := by decide +kernel
theorem dX6_does_72 : decode cX6_does 72 = .ok (.iaload, 1) := by decide +kernel
theorem dX6_does_73 : decode cX6_does 73 = .ok (.aload_n 0, 1) := by decide +kernel
theorem dX6_does_74 : decode cX6_does 74 = .ok (.getfield 64, 3) := by decide +kernel
theorem dX6_does_77 : decode cX6_does 77 = .ok (.iconst 5, 1) := by decide +kernel
theorem dX6_does_78 : decode cX6_does 78 = .ok (.iload_n 1, 1) := by decide +kernel
theorem dX6_does_79 : decode cX6_does 79 = .ok (.imul, 1) := by decide +kernel
theorem dX6_does_80 : decode cX6_does 80 = .ok (.iconst 4, 1) := by decide +kernel
theorem dX6_does_81 : decode cX6_does 81 = .ok (.iadd, 1) := by decide +kernel
theorem dX6_does_82 : decode cX6_does 82 = .ok (.iaload, 1) := by decide +kernel
theorem dX6_does_83 : decode cX6_does 83 = .ok (.invokevirtual 236, 3) := by decide +kernel
theorem dX6_does_86 : decode cX6_does 86 = .ok (.ifCond .lt 7, 3) := by decide +kernel
theorem dX6_does_89 : decode cX6_does 89 = .ok (.iconst 1, 1) := by decide +kernel
theorem dX6_does_90 : decode cX6_does 90 = .ok (.goto 4, 3) := by decide +kernel
theorem dX6_does_93 : decode cX6_does 93 = .ok (.iconst 0, 1) := by decide +kernel
theorem dX6_does_94 : decode cX6_does 94 = .ok (.ireturn, 1) := by decide +kernel
theorem dX6_does_95 : decode cX6_does 95 = .ok (.aload_n 0, 1) := by decide +kernel
theorem dX6_does_96 : decode cX6_does 96 = .ok (.iload_n 2, 1) := by decide +kernel
theorem dX6_does_97 : decode cX6_does 97 = .ok (.iconst 1, 1) := by decide +kernel
theorem dX6_does_98 : decode cX6_does 98 = .ok (.iload_n 3, 1) := by decide +kernel
theorem dX6_does_99 : decode cX6_does 99 = .ok (.invokevirtual 280, 3) := by decide +kernel
theorem dX6_does_102 : decode cX6_does 102 = .ok (.sipush (-1000), 3) := by decide +kernel
theorem dX6_does_105 : decode cX6_does 105 = .ok (.if_icmp .eq 7, 3) := by decide +kernel
theorem dX6_does_108 : decode cX6_does 108 = .ok (.iconst 1, 1) := by decide +kernel
theorem dX6_does_109 : decode cX6_does 109 = .ok (.goto 4, 3) := by decide +kernel
theorem dX6_does_112 : decode cX6_does 112 = .ok (.iconst 0, 1) := by decide +kernel
theorem dX6_does_113 : decode cX6_does 113 = .ok (.ireturn, 1) := by decide +kernel
theorem dX6_does_114 : decode cX6_does 114 = .ok (.aload_n 0, 1) := by decide +kernel
theorem dX6_does_115 : decode cX6_does 115 = .ok (.iload_n 2, 1) := by decide +kernel
theorem dX6_does_116 : decode cX6_does 116 = .ok (.iconst 2, 1) := by decide +kernel
theorem dX6_does_117 : decode cX6_does 117 = .ok (.iload_n 3, 1) := by decide +kernel
theorem dX6_does_118 : decode cX6_does 118 = .ok (.invokevirtual 280, 3) := by decide +kernel
theorem dX6_does_121 : decode cX6_does 121 = .ok (.sipush (-1000), 3) := by decide +kernel
theorem dX6_does_124 : decode cX6_does 124 = .ok (.if_icmp .eq 7, 3) := by decide +kernel
theorem dX6_does_127 : decode cX6_does 127 = .ok (.iconst 1, 1) := by decide +kernel
theorem dX6_does_128 : decode cX6_does 128 = .ok (.goto 4, 3) := by decide +kernel
theorem dX6_does_131 : decode cX6_does 131 = .ok (.iconst 0, 1) := by decide +kernel
theorem dX6_does_132 : decode cX6_does 132 = .ok (.ireturn, 1) := by decide +kernel
theorem dX6_does_133 : decode cX6_does 133 = .ok (.aload_n 0, 1) := by decide +kernel
theorem dX6_does_134 : decode cX6_does 134 = .ok (.iconst 5, 1) := by decide +kernel
theorem dX6_does_135 : decode cX6_does 135 = .ok (.iload_n 2, 1) := by decide +kernel
theorem dX6_does_136 : decode cX6_does 136 = .ok (.invokevirtual 283, 3) := by decide +kernel
theorem dX6_does_139 : decode cX6_does 139 = .ok (.ldc2_w 125, 3) := by decide +kernel
theorem dX6_does_142 : decode cX6_does 142 = .ok (.lcmp, 1) := by decide +kernel
theorem dX6_does_143 : decode cX6_does 143 = .ok (.ifCond .eq 7, 3) := by decide +kernel
theorem dX6_does_146 : decode cX6_does 146 = .ok (.iconst 1, 1) := by decide +kernel
theorem dX6_does_147 : decode cX6_does 147 = .ok (.goto 4, 3) := by decide +kernel
theorem dX6_does_150 : decode cX6_does 150 = .ok (.iconst 0, 1) := by decide +kernel
theorem dX6_does_151 : decode cX6_does 151 = .ok (.ireturn, 1) := by decide +kernel
theorem dX6_does_152 : decode cX6_does 152 = .ok (.aload_n 0, 1) := by decide +kernel
theorem dX6_does_153 : decode cX6_does 153 = .ok (.invokevirtual 286, 3) := by decide +kernel
theorem dX6_does_156 : decode cX6_does 156 = .ok (.ifCond .lt 7, 3) := by decide +kernel
theorem dX6_does_159 : decode cX6_does 159 = .ok (.iconst 1, 1) := by decide +kernel
theorem dX6_does_160 : decode cX6_does 160 = .ok (.goto 4, 3) := by decide +kernel
theorem dX6_does_163 : decode cX6_does 163 = .ok (.iconst 0, 1) := by decide +kernel
theorem dX6_does_164 : decode cX6_does 164 = .ok (.ireturn, 1) := by decide +kernel
set_option maxRecDepth 100000 in
theorem ggX6_text_X6_next : GoodIn wsX6_text wsX6_next := goodIn_g _ [1, 1, 0, 0, 3, 0, 0, 0, 0, 0, 0, 0, 0, 0, 0, 0, 0, 0, 0, 0, 0, 0, 0, 0, 0, 0, 0, 0, 0, 0, 60, 0, 0, 0, 0, 0, 0, 0, 0, 0, 0, 0, 0, 0, 0, 0, 0, 0, 0, 0, 0, 0, 0, 0, 0, 0, 0, 0] [5, 0, 3, 6, 7, 1, 8, 9, 10, 11, 12, 4, 13, 2, 14, 15, 16, 17, 18, 19, 20, 21, 22, 23, 24, 25, 26, 27, 28, 29, 30, 31, 32, 33, 34, 35, 36, 37, 38, 39, 40, 41, 42, 43, 44, 45, 46, 47, 48, 49, 50, 51, 52, 53, 54, 55, 56, 57] rfl (by decide +kernel)
set_option maxRecDepth 100000 in
theorem gX6_text_X6_next : GoodIn wsX6_text (wsV RX6 277 RX6 yX6_next wsX6_next) := goodIn_app (goodIn_of _ (by decide +kernel)) ggX6_text_X6_next
set_option maxRecDepth 100000 in
theorem ggX6_text_X6_clause : GoodIn wsX6_text wsX6_clause := goodIn_g _ [1, 0, 0, 0, 0, 0, 0, 0, 0, 0, 0, 0, 0, 0, 0, 0, 0, 0, 0, 0, 0, 0, 0, 0, 0, 0, 0, 0, 0, 0, 0, 0, 0, 0, 3, 0, 0, 54, 0, 0, 0, 0, 0, 0, 0, 0, 0, 0, 0, 0, 0, 0, 0, 0, 0, 0, 0, 0, 0, 0, 0, 0, 0, 0, 0] [34, 2, 35, 1, 36, 32, 5, 6, 7, 8, 9, 0, 4, 10, 11, 12, 13, 14, 15, 16, 17, 3, 18, 19, 20, 21, 22, 23, 24, 25, 26, 27, 28, 29, 30, 31, 33, 37, 38, 39, 40, 41, 42, 43, 44, 45, 46, 47, 48, 49, 50, 51, 52, 53, 54, 55, 56, 57, 58, 59, 60, 61, 62, 63, 64] rfl (by decide +kernel)
set_option maxRecDepth 100000 in
theorem gX6_text_X6_clause : GoodIn wsX6_text (wsV RX6 289 RX6 yX6_clause wsX6_clause) := goodIn_app (goodIn_of _ (by decide +kernel)) ggX6_text_X6_clause
set_option maxRecDepth 100000 in
theorem ggX6_text_X6_does : GoodIn wsX6_text wsX6_does := goodIn_g _ [9, 10, 0, 0, 11, 4, 4, 0, 0, 0, 0, 0, 0, 0, 0, 0, 0, 0, 0, 0, 0, 0, 0, 0, 0, 0, 0, 0, 0, 0, 0, 0, 0, 0, 0, 0, 0, 0, 0, 0, 0, 0, 0, 0, 0, 0, 0, 0, 0, 0, 0, 0, 0, 0, 3, 0, 0, 0, 0, 0, 0, 0, 0, 0, 0, 0, 0, 0, 0, 0, 0, 0, 0, 0, 0, 0, 0, 0, 0, 0, 0, 0] [6, 5, 7, 8, 9, 10, 0, 11, 12, 13, 14, 15, 16, 17, 18, 19, 20, 1, 2, 3, 21, 22, 23, 24, 4, 25, 26, 27, 28, 29, 30, 31, 32, 33, 34, 35, 36, 37, 38, 39, 40, 41, 42, 43, 44, 45, 46, 47, 48, 49, 50, 51, 52, 53, 54, 55, 56, 57, 58, 59, 60, 61, 62, 63, 64, 65, 66, 67, 68, 69, 70, 71, 72, 73, 74, 75, 76, 77, 78, 79, 80, 81] rfl (by decide +kernel)
set_option maxRecDepth 100000 in
theorem gX6_text_X6_does : GoodIn wsX6_text (wsV RX6 292 RX6 yX6_does wsX6_does) := goodIn_app (goodIn_of _ (by decide +kernel)) ggX6_text_X6_does
set_option maxRecDepth 100000 in
theorem ggX6_text_X6_bit : GoodIn wsX6_text wsX6_bit := goodIn_g _ [94] [0] rfl (by decide +kernel)
set_option maxRecDepth 100000 in
theorem gX6_text_X6_bit : GoodIn wsX6_text (va_wsS RX6 162 yX6_bit wsX6_bit) := goodIn_app (goodIn_of _ (by decide +kernel)) ggX6_text_X6_bit
theorem dX6_text_0 : decode cX6_text 0 = .ok (.aload_n 0, 1) := by decide +kernel
theorem dX6_text_1 : decode cX6_text 1 = .ok (.iconst 0, 1) := by decide +kernel
theorem dX6_text_2 : decode cX6_text 2 = .ok (.putfield 245, 3) := by decide +kernel
theorem dX6_text_5 : decode cX6_text 5 = .ok (.aload_n 0, 1) := by decide +kernel
theorem dX6_text_6 : decode cX6_text 6 = .ok (.iconst 0, 1) := by decide +kernel
theorem dX6_text_7 : decode cX6_text 7 = .ok (.putfield 274, 3) := by decide +kernel
theorem dX6_text_10 : decode cX6_text 10 = .ok (.aload_n 0, 1) := by decide +kernel
theorem dX6_text_11 : decode cX6_text 11 = .ok (.invokevirtual 277, 3) := by decide +kernel
theorem dX6_text_14 : decode cX6_text 14 = .ok (.aload_n 0, 1) := by decide +kernel
theorem dX6_text_15 : decode cX6_text 15 = .ok (.invokevirtual 289, 3) := by decide +kernel
theorem dX6_text_18 : decode cX6_text 18 = .ok (.istore_n 1, 1) := by decide +kernel
theorem dX6_text_19 : decode cX6_text 19 = .ok (.iload_n 1, 1) := by decide +kernel
theorem dX6_text_20 : decode cX6_text 20 = .ok (.ifCond .eq 24, 3) := by decide +kernel
theorem dX6_text_23 : decode cX6_text 23 = .ok (.aload_n 0, 1) := by decide +kernel
theorem dX6_text_24 : decode cX6_text 24 = .ok (.getfield 268, 3) := by decide +kernel
theorem dX6_text_27 : decode cX6_text 27 = .ok (.bipush 11, 2) := by decide +kernel
theorem dX6_text_29 : decode cX6_text 29 = .ok (.if_icmp .ne 15, 3) := by decide +kernel
theorem dX6_text_32 : decode cX6_text 32 = .ok (.aload_n 0, 1) := by decide +kernel
theorem dX6_text_33 : decode cX6_text 33 = .ok (.invokevirtual 277, 3) := by decide +kernel
theorem dX6_text_36 : decode cX6_text 36 = .ok (.aload_n 0, 1) := by decide +kernel
theorem dX6_text_37 : decode cX6_text 37 = .ok (.invokevirtual 289, 3) := by decide +kernel
theorem dX6_text_40 : decode cX6_text 40 = .ok (.istore_n 1, 1) := by decide +kernel
theorem dX6_text_41 : decode cX6_text 41 = .ok (.goto (-22), 3) := by decide +kernel
theorem dX6_text_44 : decode cX6_text 44 = .ok (.aload_n 0, 1) := by decide +kernel
theorem dX6_text_45 : decode cX6_text 45 = .ok (.iconst 0, 1) := by decide +kernel
theorem dX6_text_46 : decode cX6_text 46 = .ok (.putfield 242, 3) := by decide +kernel
theorem dX6_text_49 : decode cX6_text 49 = .ok (.iload_n 1, 1) := by decide +kernel
theorem dX6_text_50 : decode cX6_text 50 = .ok (.ifCond .eq 12, 3) := by decide +kernel
theorem dX6_text_53 : decode cX6_text 53 = .ok (.aload_n 0, 1) := by decide +kernel
theorem dX6_text_54 : decode cX6_text 54 = .ok (.getfield 268, 3) := by decide +kernel
theorem dX6_text_57 : decode cX6_text 57 = .ok (.bipush 12, 2) := by decide +kernel
theorem dX6_text_59 : decode cX6_text 59 = .ok (.if_icmp .eq 11, 3) := by decide +kernel
theorem dX6_text_62 : decode cX6_text 62 = .ok (.bipush (-100), 2) := by decide +kernel
theorem dX6_text_64 : decode cX6_text 64 = .ok (.aload_n 0, 1) := by decide +kernel
theorem dX6_text_65 : decode cX6_text 65 = .ok (.getfield 255, 3) := by decide +kernel
theorem dX6_text_68 : decode cX6_text 68 = .ok (.isub, 1) := by decide +kernel
theorem dX6_text_69 : decode cX6_text 69 = .ok (.ireturn, 1) := by decide +kernel
theorem dX6_text_70 : decode cX6_text 70 = .ok (.iconst 0, 1) := by decide +kernel
theorem dX6_text_71 : decode cX6_text 71 = .ok (.istore_n 2, 1) := by decide +kernel
theorem dX6_text_72 : decode cX6_text 72 = .ok (.iconst 0, 1) := by decide +kernel
theorem dX6_text_73 : decode cX6_text 73 = .ok (.istore_n 3, 1) := by decide +kernel
theorem dX6_text_74 : decode cX6_text 74 = .ok (.iload_n 3, 1) := by decide +kernel
theorem dX6_text_75 : decode cX6_text 75 = .ok (.aload_n 0, 1) := by decide +kernel
theorem dX6_text_76 : decode cX6_text 76 = .ok (.getfield 274, 3) := by decide +kernel
theorem dX6_text_79 : decode cX6_text 79 = .ok (.if_icmp .ge 20, 3) := by decide +kernel
theorem dX6_text_82 : decode cX6_text 82 = .ok (.iload_n 2, 1) := by decide +kernel
theorem dX6_text_83 : decode cX6_text 83 = .ok (.aload_n 0, 1) := by decide +kernel
theorem dX6_text_84 : decode cX6_text 84 = .ok (.iload_n 3, 1) := by decide +kernel
theorem dX6_text_85 : decode cX6_text 85 = .ok (.invokevirtual 292, 3) := by decide +kernel
theorem dX6_text_88 : decode cX6_text 88 = .ok (.invokestatic 162, 3) := by decide +kernel
theorem dX6_text_91 : decode cX6_text 91 = .ok (.iadd, 1) := by decide +kernel
theorem dX6_text_92 : decode cX6_text 92 = .ok (.istore_n 2, 1) := by decide +kernel
theorem dX6_text_93 : decode cX6_text 93 = .ok (.iinc 3 1, 3) := by decide +kernel
theorem dX6_text_96 : decode cX6_text 96 = .ok (.goto (-22), 3) := by decide +kernel
theorem dX6_text_99 : decode cX6_text 99 = .ok (.iload_n 2, 1) := by decide +kernel
theorem dX6_text_100 : decode cX6_text 100 = .ok (.ireturn, 1) := by decide +kernel
theorem dX6_image_0 : decode cX6_image 0 = .ok (.aload_n 0, 1) := by decide +kernel
theorem dX6_image_1 : decode cX6_image 1 = .ok (.iconst 1, 1) := by decide +kernel
theorem dX6_image_2 : decode cX6_image 2 = .ok (.putfield 295, 3) := by decide +kernel
theorem dX6_image_5 : decode cX6_image 5 = .ok (.iconst 0, 1) := by decide +kernel
theorem dX6_image_6 : decode cX6_image 6 = .ok (.istore_n 1, 1) := by decide +kernel
theorem dX6_image_7 : decode cX6_image 7 = .ok (.iload_n 1, 1) := by decide +kernel
theorem dX6_image_8 : decode cX6_image 8 = .ok (.bipush 49, 2) := by decide +kernel
theorem dX6_image_10 : decode cX6_image 10 = .ok (.if_icmp .ge 21, 3) := by decide +kernel
theorem dX6_image_13 : decode cX6_image 13 = .ok (.aload_n 0, 1) := by decide +kernel
theorem dX6_image_14 : decode cX6_image 14 = .ok (.getfield 15, 3) := by decide +kernel
theorem dX6_image_17 : decode cX6_image 17 = .ok (.iload_n 1, 1) := by decide +kernel
theorem dX6_image_18 : decode cX6_image 18 = .ok (.aload_n 0, 1) := by decide +kernel
theorem dX6_image_19 : decode cX6_image 19 = .ok (.getfield 11, 3) := by decide +kernel
theorem dX6_image_22 : decode cX6_image 22 = .ok (.iload_n 1, 1) := by decide +kernel
theorem dX6_image_23 : decode cX6_image 23 = .ok (.iaload, 1) := by decide +kernel
theorem dX6_image_24 : decode cX6_image 24 = .ok (.iastore, 1) := by decide +kernel
theorem dX6_image_25 : decode cX6_image 25 = .ok (.iinc 1 1, 3) := by decide +kernel
theorem dX6_image_28 : decode cX6_image 28 = .ok (.goto (-21), 3) := by decide +kernel
theorem dX6_image_31 : decode cX6_image 31 = .ok (.aload_n 0, 1) := by decide +kernel
theorem dX6_image_32 : decode cX6_image 32 = .ok (.getfield 11, 3) := by decide +kernel
theorem dX6_image_35 : decode cX6_image 35 = .ok (.bipush 40, 2) := by decide +kernel
theorem dX6_image_37 : decode cX6_image 37 = .ok (.iaload, 1) := by decide +kernel
theorem dX6_image_38 : decode cX6_image 38 = .ok (.ireturn, 1) := by decide +kernel
theorem dX6_back_0 : decode cX6_back 0 = .ok (.aload_n 0, 1) := by decide +kernel
theorem dX6_back_1 : decode cX6_back 1 = .ok (.getfield 295, 3) := by decide +kernel
theorem dX6_back_4 : decode cX6_back 4 = .ok (.ifCond .ne 6, 3) := by decide +kernel
theorem dX6_back_7 : decode cX6_back 7 = .ok (.bipush (-3), 2) := by decide +kernel
theorem dX6_back_9 : decode cX6_back 9 = .ok (.ireturn, 1) := by decide +kernel
theorem dX6_back_10 : decode cX6_back 10 = .ok (.iconst 0, 1) := by decide +kernel
theorem dX6_back_11 : decode cX6_back 11 = .ok (.istore_n 1, 1) := by decide +kernel
theorem dX6_back_12 : decode cX6_back 12 = .ok (.iload_n 1, 1) := by decide +kernel
theorem dX6_back_13 : decode cX6_back 13 = .ok (.bipush 49, 2) := by decide +kernel
theorem dX6_back_15 : decode cX6_back 15 = .ok (.if_icmp .ge 21, 3) := by decide +kernel
theorem dX6_back_18 : decode cX6_back 18 = .ok (.aload_n 0, 1) := by decide +kernel
theorem dX6_back_19 : decode cX6_back 19 = .ok (.getfield 11, 3) := by decide +kernel
theorem dX6_back_22 : decode cX6_back 22 = .ok (.iload_n 1, 1) := by decide +kernel
theorem dX6_back_23 : decode cX6_back 23 = .ok (.aload_n 0, 1) := by decide +kernel
theorem dX6_back_24 : decode cX6_back 24 = .ok (.getfield 15, 3) := by decide +kernel
theorem dX6_back_27 : decode cX6_back 27 = .ok (.iload_n 1, 1) := by decide +kernel
theorem dX6_back_28 : decode cX6_back 28 = .ok (.iaload, 1) := by decide +kernel
theorem dX6_back_29 : decode cX6_back 29 = .ok (.iastore, 1) := by decide +kernel
theorem dX6_back_30 : decode cX6_back 30 = .ok (.iinc 1 1, 3) := by decide +kernel
theorem dX6_back_33 : decode cX6_back 33 = .ok (.goto (-21), 3) := by decide +kernel
theorem dX6_back_36 : decode cX6_back 36 = .ok (.aload_n 0, 1) := by decide +kernel
theorem dX6_back_37 : decode cX6_back 37 = .ok (.getfield 11, 3) := by decide +kernel
theorem dX6_back_40 : decode cX6_back 40 = .ok (.bipush 40, 2) := by decide +kernel
theorem dX6_back_42 : decode cX6_back 42 = .ok (.iaload, 1) := by decide +kernel
theorem dX6_back_43 : decode cX6_back 43 = .ok (.ireturn, 1) := by decide +kernel
set_option maxRecDepth 100000 in
theorem ggX6_count_X6_lays : GoodIn wsX6_count wsX6_lays := goodIn_g _ [1, 0, 1, 3, 0, 0, 0, 0, 0, 0, 0, 0, 0, 0, 0, 0, 3, 0, 0, 0, 0, 0, 0, 0, 0, 0, 0, 0, 0, 0, 0, 0, 0, 0, 0, 0, 0, 0, 0, 0, 0, 0, 0, 0] [4, 1, 0, 5, 2, 6, 7, 8, 9, 10, 11, 3, 12, 13, 14, 15, 16, 17, 18, 19, 20, 21, 22, 23, 24, 25, 26, 27, 28, 29, 30, 31, 32, 33, 34, 35, 36, 37, 38, 39, 40, 41, 42, 43] rfl (by decide +kernel)
set_option maxRecDepth 100000 in
theorem gX6_count_X6_lays : GoodIn wsX6_count (wsV RX6 134 RX6 yX6_lays wsX6_lays) := goodIn_app (goodIn_of _ (by decide +kernel)) ggX6_count_X6_lays
set_option maxRecDepth 100000 in
theorem ggX6_count_X6_of0 : GoodIn wsX6_count wsX6_of0 := goodIn_g _ [1, 15, 6, 0, 0, 0, 0, 0, 0, 0, 0, 0, 0, 0, 0, 0, 0, 0, 0, 0, 0, 0, 0, 0, 0, 0, 0, 0, 0, 0] [1, 0, 2, 3, 4, 5, 6, 7, 8, 9, 10, 11, 12, 13, 14, 15, 16, 17, 18, 19, 20, 21, 22, 23, 24, 25, 26, 27, 28, 29] rfl (by decide +kernel)
set_option maxRecDepth 100000 in
theorem gX6_count_X6_of0 : GoodIn wsX6_count (wsV RX6 91 RX6 yX6_of0 wsX6_of0) := goodIn_app (goodIn_of _ (by decide +kernel)) ggX6_count_X6_of0
set_option maxRecDepth 100000 in
theorem ggX6_count_X6_bit : GoodIn wsX6_count wsX6_bit := goodIn_g _ [23] [0] rfl (by decide +kernel)
set_option maxRecDepth 100000 in
theorem gX6_count_X6_bit : GoodIn wsX6_count (va_wsS RX6 162 yX6_bit wsX6_bit) := goodIn_app (goodIn_of _ (by decide +kernel)) ggX6_count_X6_bit
theorem dX6_count_0 : decode cX6_count 0 = .ok (.aload_n 0, 1) := by decide +kernel
theorem dX6_count_1 : decode cX6_count 1 = .ok (.invokevirtual 134, 3) := by decide +kernel
theorem dX6_count_4 : decode cX6_count 4 = .ok (.iconst 0, 1) := by decide +kernel
theorem dX6_count_5 : decode cX6_count 5 = .ok (.istore_n 2, 1) := by decide +kernel
theorem dX6_count_6 : decode cX6_count 6 = .ok (.iload_n 1, 1) := by decide +kernel
theorem dX6_count_7 : decode cX6_count 7 = .ok (.tableswitch 133 0 4 #[33, 41, 46, 51, 95], 33) := by decide +kernel
theorem dX6_count_40 : decode cX6_count 40 = .ok (.aload_n 0, 1) := by decide +kernel
theorem dX6_count_41 : decode cX6_count 41 = .ok (.getfield 11, 3) := by decide +kernel
theorem dX6_count_44 : decode cX6_count 44 = .ok (.bipush 40, 2) := by decide +kernel
theorem dX6_count_46 : decode cX6_count 46 = .ok (.iaload, 1) := by decide +kernel
theorem dX6_count_47 : decode cX6_count 47 = .ok (.ireturn, 1) := by decide +kernel
theorem dX6_count_48 : decode cX6_count 48 = .ok (.aload_n 0, 1) := by decide +kernel
theorem dX6_count_49 : decode cX6_count 49 = .ok (.getfield 130, 3) := by decide +kernel
theorem dX6_count_52 : decode cX6_count 52 = .ok (.ireturn, 1) := by decide +kernel
theorem dX6_count_53 : decode cX6_count 53 = .ok (.aload_n 0, 1) := by decide +kernel
theorem dX6_count_54 : decode cX6_count 54 = .ok (.getfield 242, 3) := by decide +kernel
theorem dX6_count_57 : decode cX6_count 57 = .ok (.ireturn, 1) := by decide +kernel
theorem dX6_count_58 : decode cX6_count 58 = .ok (.iconst 0, 1) := by decide +kernel
theorem dX6_count_59 : decode cX6_count 59 = .ok (.istore_n 3, 1) := by decide +kernel
theorem dX6_count_60 : decode cX6_count 60 = .ok (.iload_n 3, 1) := by decide +kernel
theorem dX6_count_61 : decode cX6_count 61 = .ok (.aload_n 0, 1) := by decide +kernel
theorem dX6_count_62 : decode cX6_count 62 = .ok (.getfield 11, 3) := by decide +kernel
theorem dX6_count_65 : decode cX6_count 65 = .ok (.bipush 40, 2) := by decide +kernel
theorem dX6_count_67 : decode cX6_count 67 = .ok (.iaload, 1) := by decide +kernel
theorem dX6_count_68 : decode cX6_count 68 = .ok (.if_icmp .ge 32, 3) := by decide +kernel
theorem dX6_count_71 : decode cX6_count 71 = .ok (.iload_n 2, 1) := by decide +kernel
theorem dX6_count_72 : decode cX6_count 72 = .ok (.aload_n 0, 1) := by decide +kernel
theorem dX6_count_73 : decode cX6_count 73 = .ok (.iload_n 3, 1) := by decide +kernel
theorem dX6_count_74 : decode cX6_count 74 = .ok (.iconst 0, 1) := by decide +kernel
theorem dX6_count_75 : decode cX6_count 75 = .ok (.invokevirtual 91, 3) := by decide +kernel
theorem dX6_count_78 : decode cX6_count 78 = .ok (.iconst 3, 1) := by decide +kernel
theorem dX6_count_79 : decode cX6_count 79 = .ok (.if_icmp .ne 12, 3) := by decide +kernel
theorem dX6_count_82 : decode cX6_count 82 = .ok (.aload_n 0, 1) := by decide +kernel
theorem dX6_count_83 : decode cX6_count 83 = .ok (.iload_n 3, 1) := by decide +kernel
theorem dX6_count_84 : decode cX6_count 84 = .ok (.iconst 1, 1) := by decide +kernel
theorem dX6_count_85 : decode cX6_count 85 = .ok (.invokevirtual 91, 3) := by decide +kernel
theorem dX6_count_88 : decode cX6_count 88 = .ok (.goto 4, 3) := by decide +kernel
theorem dX6_count_91 : decode cX6_count 91 = .ok (.iconst 0, 1) := by decide +kernel
theorem dX6_count_92 : decode cX6_count 92 = .ok (.iadd, 1) := by decide +kernel
theorem dX6_count_93 : decode cX6_count 93 = .ok (.istore_n 2, 1) := by decide +kernel
theorem dX6_count_94 : decode cX6_count 94 = .ok (.iinc 3 1, 3) := by decide +kernel
theorem dX6_count_97 : decode cX6_count 97 = .ok (.goto (-37), 3) := by decide +kernel
theorem dX6_count_100 : decode cX6_count 100 = .ok (.iload_n 2, 1) := by decide +kernel
theorem dX6_count_101 : decode cX6_count 101 = .ok (.ireturn, 1) := by decide +kernel
theorem dX6_count_102 : decode cX6_count 102 = .ok (.iconst 1, 1) := by decide +kernel
theorem dX6_count_103 : decode cX6_count 103 = .ok (.istore_n 3, 1) := by decide +kernel
theorem dX6_count_104 : decode cX6_count 104 = .ok (.iload_n 3, 1) := by decide +kernel
theorem dX6_count_105 : decode cX6_count 105 = .ok (.aload_n 0, 1) := by decide +kernel
theorem dX6_count_106 : decode cX6_count 106 = .ok (.getfield 130, 3) := by decide +kernel
theorem dX6_count_109 : decode cX6_count 109 = .ok (.if_icmp .gt 29, 3) := by decide +kernel
theorem dX6_count_112 : decode cX6_count 112 = .ok (.iload_n 2, 1) := by decide +kernel
theorem dX6_count_113 : decode cX6_count 113 = .ok (.aload_n 0, 1) := by decide +kernel
theorem dX6_count_114 : decode cX6_count 114 = .ok (.getfield 21, 3) := by decide +kernel
theorem dX6_count_117 : decode cX6_count 117 = .ok (.iload_n 3, 1) := by decide +kernel
theorem dX6_count_118 : decode cX6_count 118 = .ok (.iaload, 1) := by decide +kernel
theorem dX6_count_119 : decode cX6_count 119 = .ok (.ifCond .le 7, 3) := by decide +kernel
theorem dX6_count_122 : decode cX6_count 122 = .ok (.iconst 1, 1) := by decide +kernel
theorem dX6_count_123 : decode cX6_count 123 = .ok (.goto 4, 3) := by decide +kernel
theorem dX6_count_126 : decode cX6_count 126 = .ok (.iconst 0, 1) := by decide +kernel
theorem dX6_count_127 : decode cX6_count 127 = .ok (.invokestatic 162, 3) := by decide +kernel
theorem dX6_count_130 : decode cX6_count 130 = .ok (.iadd, 1) := by decide +kernel
theorem dX6_count_131 : decode cX6_count 131 = .ok (.istore_n 2, 1) := by decide +kernel
theorem dX6_count_132 : decode cX6_count 132 = .ok (.iinc 3 1, 3) := by decide +kernel
theorem dX6_count_135 : decode cX6_count 135 = .ok (.goto (-31), 3) := by decide +kernel
theorem dX6_count_138 : decode cX6_count 138 = .ok (.iload_n 2, 1) := by decide +kernel
theorem dX6_count_139 : decode cX6_count 139 = .ok (.ireturn, 1) := by decide +kernel
theorem dX6_count_140 : decode cX6_count 140 = .ok (.bipush (-2), 2) := by decide +kernel
theorem dX6_count_142 : decode cX6_count 142 = .ok (.ireturn, 1) := by decide +kernel
