theorem dX11_init_0 : decode cX11_init 0 = .ok (.aload_n 0, 1) := by decide +kernel
theorem dX11_init_1 : decode cX11_init 1 = .ok (.invokespecial 1, 3) := by decide +kernel
theorem dX11_init_4 : decode cX11_init 4 = .ok (.aload_n 0, 1) := by decide +kernel
theorem dX11_init_5 : decode cX11_init 5 = .ok (.bipush 103, 2) := by decide +kernel
theorem dX11_init_7 : decode cX11_init 7 = .ok (.newarray .int, 2) := by decide +kernel
theorem dX11_init_9 : decode cX11_init 9 = .ok (.putfield 7, 3) := by decide +kernel
theorem dX11_init_12 : decode cX11_init 12 = .ok (.aload_n 0, 1) := by decide +kernel
theorem dX11_init_13 : decode cX11_init 13 = .ok (.sipush 618, 3) := by decide +kernel
theorem dX11_init_16 : decode cX11_init 16 = .ok (.newarray .int, 2) := by decide +kernel
theorem dX11_init_18 : decode cX11_init 18 = .ok (.putfield 13, 3) := by decide +kernel
theorem dX11_init_21 : decode cX11_init 21 = .ok (.aload_n 0, 1) := by decide +kernel
theorem dX11_init_22 : decode cX11_init 22 = .ok (.bipush 103, 2) := by decide +kernel
theorem dX11_init_24 : decode cX11_init 24 = .ok (.newarray .int, 2) := by decide +kernel
theorem dX11_init_26 : decode cX11_init 26 = .ok (.putfield 16, 3) := by decide +kernel
theorem dX11_init_29 : decode cX11_init 29 = .ok (.aload_n 0, 1) := by decide +kernel
theorem dX11_init_30 : decode cX11_init 30 = .ok (.sipush 600, 3) := by decide +kernel
theorem dX11_init_33 : decode cX11_init 33 = .ok (.newarray .int, 2) := by decide +kernel
theorem dX11_init_35 : decode cX11_init 35 = .ok (.putfield 19, 3) := by decide +kernel
theorem dX11_init_38 : decode cX11_init 38 = .ok (.aload_n 0, 1) := by decide +kernel
theorem dX11_init_39 : decode cX11_init 39 = .ok (.sipush 400, 3) := by decide +kernel
theorem dX11_init_42 : decode cX11_init 42 = .ok (.newarray .int, 2) := by decide +kernel
theorem dX11_init_44 : decode cX11_init 44 = .ok (.putfield 22, 3) := by decide +kernel
theorem dX11_init_47 : decode cX11_init 47 = .ok (.aload_n 0, 1) := by decide +kernel
theorem dX11_init_48 : decode cX11_init 48 = .ok (.sipush 134, 3) := by decide +kernel
theorem dX11_init_51 : decode cX11_init 51 = .ok (.newarray .int, 2) := by decide +kernel
theorem dX11_init_53 : decode cX11_init 53 = .ok (.dup, 1) := by decide +kernel
theorem dX11_init_54 : decode cX11_init 54 = .ok (.iconst 0, 1) := by decide +kernel
theorem dX11_init_55 : decode cX11_init 55 = .ok (.bipush 32, 2) := by decide +kernel
theorem dX11_init_57 : decode cX11_init 57 = .ok (.iastore, 1) := by decide +kernel
theorem dX11_init_58 : decode cX11_init 58 = .ok (.dup, 1) := by decide +kernel
theorem dX11_init_59 : decode cX11_init 59 = .ok (.iconst 1, 1) := by decide +kernel
theorem dX11_init_60 : decode cX11_init 60 = .ok (.bipush 103, 2) := by decide +kernel
theorem dX11_init_62 : decode cX11_init 62 = .ok (.iastore, 1) := by decide +kernel
theorem dX11_init_63 : decode cX11_init 63 = .ok (.dup, 1) := by decide +kernel
theorem dX11_init_64 : decode cX11_init 64 = .ok (.iconst 2, 1) := by decide +kernel
theorem dX11_init_65 : decode cX11_init 65 = .ok (.bipush 111, 2) := by decide +kernel
theorem dX11_init_67 : decode cX11_init 67 = .ok (.iastore, 1) := by decide +kernel
theorem dX11_init_68 : decode cX11_init 68 = .ok (.dup, 1) := by decide +kernel
theorem dX11_init_69 : decode cX11_init 69 = .ok (.iconst 3, 1) := by decide +kernel
theorem dX11_init_70 : decode cX11_init 70 = .ok (.bipush 101, 2) := by decide +kernel
theorem dX11_init_72 : decode cX11_init 72 = .ok (.iastore, 1) := by decide +kernel
theorem dX11_init_73 : decode cX11_init 73 = .ok (.dup, 1) := by decide +kernel
theorem dX11_init_74 : decode cX11_init 74 = .ok (.iconst 4, 1) := by decide +kernel
theorem dX11_init_75 : decode cX11_init 75 = .ok (.bipush 115, 2) := by decide +kernel
theorem dX11_init_77 : decode cX11_init 77 = .ok (.iastore, 1) := by decide +kernel
theorem dX11_init_78 : decode cX11_init 78 = .ok (.dup, 1) := by decide +kernel
theorem dX11_init_79 : decode cX11_init 79 = .ok (.iconst 5, 1) := by decide +kernel
theorem dX11_init_80 : decode cX11_init 80 = .ok (.bipush 32, 2) := by decide +kernel
theorem dX11_init_82 : decode cX11_init 82 = .ok (.iastore, 1) := by decide +kernel
theorem dX11_init_83 : decode cX11_init 83 = .ok (.dup, 1) := by decide +kernel
theorem dX11_init_84 : decode cX11_init 84 = .ok (.bipush 6, 2) := by decide +kernel
theorem dX11_init_86 : decode cX11_init 86 = .ok (.bipush 98, 2) := by decide +kernel
theorem dX11_init_88 : decode cX11_init 88 = .ok (.iastore, 1) := by decide +kernel
theorem dX11_init_89 : decode cX11_init 89 = .ok (.dup, 1) := by decide +kernel
theorem dX11_init_90 : decode cX11_init 90 = .ok (.bipush 7, 2) := by decide +kernel
theorem dX11_init_92 : decode cX11_init 92 = .ok (.bipush 101, 2) := by decide +kernel
theorem dX11_init_94 : decode cX11_init 94 = .ok (.iastore, 1) := by decide +kernel
theorem dX11_init_95 : decode cX11_init 95 = .ok (.dup, 1) := by decide +kernel
theorem dX11_init_96 : decode cX11_init 96 = .ok (.bipush 8, 2) := by decide +kernel
theorem dX11_init_98 : decode cX11_init 98 = .ok (.bipush 97, 2) := by decide +kernel
theorem dX11_init_100 : decode cX11_init 100 = .ok (.iastore, 1) := by decide +kernel
theorem dX11_init_101 : decode cX11_init 101 = .ok (.dup, 1) := by decide +kernel
theorem dX11_init_102 : decode cX11_init 102 = .ok (.bipush 9, 2) := by decide +kernel
theorem dX11_init_104 : decode cX11_init 104 = .ok (.bipush 114, 2) := by decide +kernel
theorem dX11_init_106 : decode cX11_init 106 = .ok (.iastore, 1) := by decide +kernel
theorem dX11_init_107 : decode cX11_init 107 = .ok (.dup, 1) := by decide +kernel
theorem dX11_init_108 : decode cX11_init 108 = .ok (.bipush 10, 2) := by decide +kernel
theorem dX11_init_110 : decode cX11_init 110 = .ok (.bipush 115, 2) := by decide +kernel
theorem dX11_init_112 : decode cX11_init 112 = .ok (.iastore, 1) := by decide +kernel
theorem dX11_init_113 : decode cX11_init 113 = .ok (.dup, 1) := by decide +kernel
theorem dX11_init_114 : decode cX11_init 114 = .ok (.bipush 11, 2) := by decide +kernel
theorem dX11_init_116 : decode cX11_init 116 = .ok (.bipush 32, 2) := by decide +kernel
theorem dX11_init_118 : decode cX11_init 118 = .ok (.iastore, 1) := by decide +kernel
theorem dX11_init_119 : decode cX11_init 119 = .ok (.dup, 1) := by decide +kernel
theorem dX11_init_120 : decode cX11_init 120 = .ok (.bipush 12, 2) := by decide +kernel
theorem dX11_init_122 : decode cX11_init 122 = .ok (.bipush 98, 2) := by decide +kernel
theorem dX11_init_124 : decode cX11_init 124 = .ok (.iastore, 1) := by decide +kernel
theorem dX11_init_125 : decode cX11_init 125 = .ok (.dup, 1) := by decide +kernel
theorem dX11_init_126 : decode cX11_init 126 = .ok (.bipush 13, 2) := by decide +kernel
theorem dX11_init_128 : decode cX11_init 128 = .ok (.bipush 114, 2) := by decide +kernel
theorem dX11_init_130 : decode cX11_init 130 = .ok (.iastore, 1) := by decide +kernel
theorem dX11_init_131 : decode cX11_init 131 = .ok (.dup, 1) := by decide +kernel
theorem dX11_init_132 : decode cX11_init 132 = .ok (.bipush 14, 2) := by decide +kernel
theorem dX11_init_134 : decode cX11_init 134 = .ok (.bipush 105, 2) := by decide +kernel
theorem dX11_init_136 : decode cX11_init 136 = .ok (.iastore, 1) := by decide +kernel
theorem dX11_init_137 : decode cX11_init 137 = .ok (.dup, 1) := by decide +kernel
theorem dX11_init_138 : decode cX11_init 138 = .ok (.bipush 15, 2) := by decide +kernel
theorem dX11_init_140 : decode cX11_init 140 = .ok (.bipush 110, 2) := by decide +kernel
theorem dX11_init_142 : decode cX11_init 142 = .ok (.iastore, 1) := by decide +kernel
theorem dX11_init_143 : decode cX11_init 143 = .ok (.dup, 1) := by decide +kernel
theorem dX11_init_144 : decode cX11_init 144 = .ok (.bipush 16, 2) := by decide +kernel
theorem dX11_init_146 : decode cX11_init 146 = .ok (.bipush 103, 2) := by decide +kernel
theorem dX11_init_148 : decode cX11_init 148 = .ok (.iastore, 1) := by decide +kernel
theorem dX11_init_149 : decode cX11_init 149 = .ok (.dup, 1) := by decide +kernel
theorem dX11_init_150 : decode cX11_init 150 = .ok (.bipush 17, 2) := by decide +kernel
theorem dX11_init_152 : decode cX11_init 152 = .ok (.bipush 115, 2) := by decide +kernel
theorem dX11_init_154 : decode cX11_init 154 = .ok (.iastore, 1) := by decide +kernel
theorem dX11_init_155 : decode cX11_init 155 = .ok (.dup, 1) := by decide +kernel
theorem dX11_init_156 : decode cX11_init 156 = .ok (.bipush 18, 2) := by decide +kernel
theorem dX11_init_158 : decode cX11_init 158 = .ok (.bipush 32, 2) := by decide +kernel
theorem dX11_init_160 : decode cX11_init 160 = .ok (.iastore, 1) := by decide +kernel
theorem dX11_init_161 : decode cX11_init 161 = .ok (.dup, 1) := by decide +kernel
theorem dX11_init_162 : decode cX11_init 162 = .ok (.bipush 19, 2) := by decide +kernel
theorem dX11_init_164 : decode cX11_init 164 = .ok (.bipush 119, 2) := by decide +kernel
theorem dX11_init_166 : decode cX11_init 166 = .ok (.iastore, 1) := by decide +kernel
theorem dX11_init_167 : decode cX11_init 167 = .ok (.dup, 1) := by decide +kernel
theorem dX11_init_168 : decode cX11_init 168 = .ok (.bipush 20, 2) := by decide +kernel
theorem dX11_init_170 : decode cX11_init 170 = .ok (.bipush 104, 2) := by decide +kernel
theorem dX11_init_172 : decode cX11_init 172 = .ok (.iastore, 1) := by decide +kernel
theorem dX11_init_173 : decode cX11_init 173 = .ok (.dup, 1) := by decide +kernel
theorem dX11_init_174 : decode cX11_init 174 = .ok (.bipush 21, 2) := by decide +kernel
theorem dX11_init_176 : decode cX11_init 176 = .ok (.bipush 101, 2) := by decide +kernel
theorem dX11_init_178 : decode cX11_init 178 = .ok (.iastore, 1) := by decide +kernel
theorem dX11_init_179 : decode cX11_init 179 = .ok (.dup, 1) := by decide +kernel
theorem dX11_init_180 : decode cX11_init 180 = .ok (.bipush 22, 2) := by decide +kernel
theorem dX11_init_182 : decode cX11_init 182 = .ok (.bipush 110, 2) := by decide +kernel
theorem dX11_init_184 : decode cX11_init 184 = .ok (.iastore, 1) := by decide +kernel
theorem dX11_init_185 : decode cX11_init 185 = .ok (.dup, 1) := by decide +kernel
theorem dX11_init_186 : decode cX11_init 186 = .ok (.bipush 23, 2) := by decide +kernel
theorem dX11_init_188 : decode cX11_init 188 = .ok (.bipush 32, 2) := by decide +kernel
theorem dX11_init_190 : decode cX11_init 190 = .ok (.iastore, 1) := by decide +kernel
theorem dX11_init_191 : decode cX11_init 191 = .ok (.dup, 1) := by decide +kernel
theorem dX11_init_192 : decode cX11_init 192 = .ok (.bipush 24, 2) := by decide +kernel
theorem dX11_init_194 : decode cX11_init 194 = .ok (.bipush 111, 2) := by decide +kernel
theorem dX11_init_196 : decode cX11_init 196 = .ok (.iastore, 1) := by decide +kernel
theorem dX11_init_197 : decode cX11_init 197 = .ok (.dup, 1) := by decide +kernel
theorem dX11_init_198 : decode cX11_init 198 = .ok (.bipush 25, 2) := by decide +kernel
theorem dX11_init_200 : decode cX11_init 200 = .ok (.bipush 114, 2) := by decide +kernel
theorem dX11_init_202 : decode cX11_init 202 = .ok (.iastore, 1) := by decide +kernel
theorem dX11_init_203 : decode cX11_init 203 = .ok (.dup, 1) := by decide +kernel
theorem dX11_init_204 : decode cX11_init 204 = .ok (.bipush 26, 2) := by decide +kernel
theorem dX11_init_206 : decode cX11_init 206 = .ok (.bipush 32, 2) := by decide +kernel
theorem dX11_init_208 : decode cX11_init 208 = .ok (.iastore, 1) := by decide +kernel
theorem dX11_init_209 : decode cX11_init 209 = .ok (.dup, 1) := by decide +kernel
theorem dX11_init_210 : decode cX11_init 210 = .ok (.bipush 27, 2) := by decide +kernel
theorem dX11_init_212 : decode cX11_init 212 = .ok (.bipush 97, 2) := by decide +kernel
theorem dX11_init_214 : decode cX11_init 214 = .ok (.iastore, 1) := by decide +kernel
theorem dX11_init_215 : decode cX11_init 215 = .ok (.dup, 1) := by decide +kernel
theorem dX11_init_216 : decode cX11_init 216 = .ok (.bipush 28, 2) := by decide +kernel
theorem dX11_init_218 : decode cX11_init 218 = .ok (.bipush 110, 2) := by decide +kernel
theorem dX11_init_220 : decode cX11_init 220 = .ok (.iastore, 1) := by decide +kernel
theorem dX11_init_221 : decode cX11_init 221 = .ok (.dup, 1) := by decide +kernel
theorem dX11_init_222 : decode cX11_init 222 = .ok (.bipush 29, 2) := by decide +kernel
theorem dX11_init_224 : decode cX11_init 224 = .ok (.bipush 100, 2) := by decide +kernel
theorem dX11_init_226 : decode cX11_init 226 = .ok (.iastore, 1) := by decide +kernel
theorem dX11_init_227 : decode cX11_init 227 = .ok (.dup, 1) := by decide +kernel
theorem dX11_init_228 : decode cX11_init 228 = .ok (.bipush 30, 2) := by decide +kernel
theorem dX11_init_230 : decode cX11_init 230 = .ok (.bipush 32, 2) := by decide +kernel
theorem dX11_init_232 : decode cX11_init 232 = .ok (.iastore, 1) := by decide +kernel
theorem dX11_init_233 : decode cX11_init 233 = .ok (.dup, 1) := by decide +kernel
theorem dX11_init_234 : decode cX11_init 234 = .ok (.bipush 31, 2) := by decide +kernel
theorem dX11_init_236 : decode cX11_init 236 = .ok (.bipush 110, 2) := by decide +kernel
theorem dX11_init_238 : decode cX11_init 238 = .ok (.iastore, 1) := by decide +kernel
theorem dX11_init_239 : decode cX11_init 239 = .ok (.dup, 1) := by decide +kernel
theorem dX11_init_240 : decode cX11_init 240 = .ok (.bipush 32, 2) := by decide +kernel
theorem dX11_init_242 : decode cX11_init 242 = .ok (.bipush 111, 2) := by decide +kernel
theorem dX11_init_244 : decode cX11_init 244 = .ok (.iastore, 1) := by decide +kernel
theorem dX11_init_245 : decode cX11_init 245 = .ok (.dup, 1) := by decide +kernel
theorem dX11_init_246 : decode cX11_init 246 = .ok (.bipush 33, 2) := by decide +kernel
theorem dX11_init_248 : decode cX11_init 248 = .ok (.bipush 116, 2) := by decide +kernel
theorem dX11_init_250 : decode cX11_init 250 = .ok (.iastore, 1) := by decide +kernel
theorem dX11_init_251 : decode cX11_init 251 = .ok (.dup, 1) := by decide +kernel
theorem dX11_init_252 : decode cX11_init 252 = .ok (.bipush 34, 2) := by decide +kernel
theorem dX11_init_254 : decode cX11_init 254 = .ok (.bipush 32, 2) := by decide +kernel
theorem dX11_init_256 : decode cX11_init 256 = .ok (.iastore, 1) := by decide +kernel
theorem dX11_init_257 : decode cX11_init 257 = .ok (.dup, 1) := by decide +kernel
theorem dX11_init_258 : decode cX11_init 258 = .ok (.bipush 35, 2) := by decide +kernel
theorem dX11_init_260 : decode cX11_init 260 = .ok (.bipush 103, 2) := by decide +kernel
theorem dX11_init_262 : decode cX11_init 262 = .ok (.iastore, 1) := by decide +kernel
theorem dX11_init_263 : decode cX11_init 263 = .ok (.dup, 1) := by decide +kernel
theorem dX11_init_264 : decode cX11_init 264 = .ok (.bipush 36, 2) := by decide +kernel
theorem dX11_init_266 : decode cX11_init 266 = .ok (.bipush 105, 2) := by decide +kernel
theorem dX11_init_268 : decode cX11_init 268 = .ok (.iastore, 1) := by decide +kernel
theorem dX11_init_269 : decode cX11_init 269 = .ok (.dup, 1) := by decide +kernel
theorem dX11_init_270 : decode cX11_init 270 = .ok (.bipush 37, 2) := by decide +kernel
theorem dX11_init_272 : decode cX11_init 272 = .ok (.bipush 114, 2) := by decide +kernel
theorem dX11_init_274 : decode cX11_init 274 = .ok (.iastore, 1) := by decide +kernel
theorem dX11_init_275 : decode cX11_init 275 = .ok (.dup, 1) := by decide +kernel
theorem dX11_init_276 : decode cX11_init 276 = .ok (.bipush 38, 2) := by decide +kernel
theorem dX11_init_278 : decode cX11_init 278 = .ok (.bipush 108, 2) := by decide +kernel
theorem dX11_init_280 : decode cX11_init 280 = .ok (.iastore, 1) := by decide +kernel
theorem dX11_init_281 : decode cX11_init 281 = .ok (.dup, 1) := by decide +kernel
theorem dX11_init_282 : decode cX11_init 282 = .ok (.bipush 39, 2) := by decide +kernel
theorem dX11_init_284 : decode cX11_init 284 = .ok (.bipush 115, 2) := by decide +kernel
theorem dX11_init_286 : decode cX11_init 286 = .ok (.iastore, 1) := by decide +kernel
theorem dX11_init_287 : decode cX11_init 287 = .ok (.dup, 1) := by decide +kernel
theorem dX11_init_288 : decode cX11_init 288 = .ok (.bipush 40, 2) := by decide +kernel
theorem dX11_init_290 : decode cX11_init 290 = .ok (.bipush 32, 2) := by decide +kernel
theorem dX11_init_292 : decode cX11_init 292 = .ok (.iastore, 1) := by decide +kernel
theorem dX11_init_293 : decode cX11_init 293 = .ok (.dup, 1) := by decide +kernel
theorem dX11_init_294 : decode cX11_init 294 = .ok (.bipush 41, 2) := by decide +kernel
theorem dX11_init_296 : decode cX11_init 296 = .ok (.bipush 98, 2) := by decide +kernel
theorem dX11_init_298 : decode cX11_init 298 = .ok (.iastore, 1) := by decide +kernel
theorem dX11_init_299 : decode cX11_init 299 = .ok (.dup, 1) := by decide +kernel
theorem dX11_init_300 : decode cX11_init 300 = .ok (.bipush 42, 2) := by decide +kernel
theorem dX11_init_302 : decode cX11_init 302 = .ok (.bipush 111, 2) := by decide +kernel
theorem dX11_init_304 : decode cX11_init 304 = .ok (.iastore, 1) := by decide +kernel
theorem dX11_init_305 : decode cX11_init 305 = .ok (.dup, 1) := by decide +kernel
theorem dX11_init_306 : decode cX11_init 306 = .ok (.bipush 43, 2) := by decide +kernel
theorem dX11_init_308 : decode cX11_init 308 = .ok (.bipush 121, 2) := by decide +kernel
theorem dX11_init_310 : decode cX11_init 310 = .ok (.iastore, 1) := by decide +kernel
theorem dX11_init_311 : decode cX11_init 311 = .ok (.dup, 1) := by decide +kernel
theorem dX11_init_312 : decode cX11_init 312 = .ok (.bipush 44, 2) := by decide +kernel
theorem dX11_init_314 : decode cX11_init 314 = .ok (.bipush 115, 2) := by decide +kernel
theorem dX11_init_316 : decode cX11_init 316 = .ok (.iastore, 1) := by decide +kernel
theorem dX11_init_317 : decode cX11_init 317 = .ok (.dup, 1) := by decide +kernel
theorem dX11_init_318 : decode cX11_init 318 = .ok (.bipush 45, 2) := by decide +kernel
theorem dX11_init_320 : decode cX11_init 320 = .ok (.bipush 32, 2) := by decide +kernel
theorem dX11_init_322 : decode cX11_init 322 = .ok (.iastore, 1) := by decide +kernel
theorem dX11_init_323 : decode cX11_init 323 = .ok (.dup, 1) := by decide +kernel
theorem dX11_init_324 : decode cX11_init 324 = .ok (.bipush 46, 2) := by decide +kernel
theorem dX11_init_326 : decode cX11_init 326 = .ok (.bipush 99, 2) := by decide +kernel
theorem dX11_init_328 : decode cX11_init 328 = .ok (.iastore, 1) := by decide +kernel
theorem dX11_init_329 : decode cX11_init 329 = .ok (.dup, 1) := by decide +kernel
theorem dX11_init_330 : decode cX11_init 330 = .ok (.bipush 47, 2) := by decide +kernel
theorem dX11_init_332 : decode cX11_init 332 = .ok (.bipush 111, 2) := by decide +kernel
theorem dX11_init_334 : decode cX11_init 334 = .ok (.iastore, 1) := by decide +kernel
theorem dX11_init_335 : decode cX11_init 335 = .ok (.dup, 1) := by decide +kernel
theorem dX11_init_336 : decode cX11_init 336 = .ok (.bipush 48, 2) := by decide +kernel
theorem dX11_init_338 : decode cX11_init 338 = .ok (.bipush 117, 2) := by decide +kernel
theorem dX11_init_340 : decode cX11_init 340 = .ok (.iastore, 1) := by decide +kernel
theorem dX11_init_341 : decode cX11_init 341 = .ok (.dup, 1) := by decide +kernel
theorem dX11_init_342 : decode cX11_init 342 = .ok (.bipush 49, 2) := by decide +kernel
theorem dX11_init_344 : decode cX11_init 344 = .ok (.bipush 112, 2) := by decide +kernel
theorem dX11_init_346 : decode cX11_init 346 = .ok (.iastore, 1) := by decide +kernel
theorem dX11_init_347 : decode cX11_init 347 = .ok (.dup, 1) := by decide +kernel
theorem dX11_init_348 : decode cX11_init 348 = .ok (.bipush 50, 2) := by decide +kernel
theorem dX11_init_350 : decode cX11_init 350 = .ok (.bipush 108, 2) := by decide +kernel
theorem dX11_init_352 : decode cX11_init 352 = .ok (.iastore, 1) := by decide +kernel
theorem dX11_init_353 : decode cX11_init 353 = .ok (.dup, 1) := by decide +kernel
theorem dX11_init_354 : decode cX11_init 354 = .ok (.bipush 51, 2) := by decide +kernel
theorem dX11_init_356 : decode cX11_init 356 = .ok (.bipush 101, 2) := by decide +kernel
theorem dX11_init_358 : decode cX11_init 358 = .ok (.iastore, 1) := by decide +kernel
theorem dX11_init_359 : decode cX11_init 359 = .ok (.dup, 1) := by decide +kernel
theorem dX11_init_360 : decode cX11_init 360 = .ok (.bipush 52, 2) := by decide +kernel
theorem dX11_init_362 : decode cX11_init 362 = .ok (.bipush 115, 2) := by decide +kernel
theorem dX11_init_364 : decode cX11_init 364 = .ok (.iastore, 1) := by decide +kernel
theorem dX11_init_365 : decode cX11_init 365 = .ok (.dup, 1) := by decide +kernel
theorem dX11_init_366 : decode cX11_init 366 = .ok (.bipush 53, 2) := by decide +kernel
theorem dX11_init_368 : decode cX11_init 368 = .ok (.bipush 32, 2) := by decide +kernel
theorem dX11_init_370 : decode cX11_init 370 = .ok (.iastore, 1) := by decide +kernel
theorem dX11_init_371 : decode cX11_init 371 = .ok (.dup, 1) := by decide +kernel
theorem dX11_init_372 : decode cX11_init 372 = .ok (.bipush 54, 2) := by decide +kernel
theorem dX11_init_374 : decode cX11_init 374 = .ok (.bipush 100, 2) := by decide +kernel
theorem dX11_init_376 : decode cX11_init 376 = .ok (.iastore, 1) := by decide +kernel
theorem dX11_init_377 : decode cX11_init 377 = .ok (.dup, 1) := by decide +kernel
theorem dX11_init_378 : decode cX11_init 378 = .ok (.bipush 55, 2) := by decide +kernel
theorem dX11_init_380 : decode cX11_init 380 = .ok (.bipush 111, 2) := by decide +kernel
theorem dX11_init_382 : decode cX11_init 382 = .ok (.iastore, 1) := by decide +kernel
theorem dX11_init_383 : decode cX11_init 383 = .ok (.dup, 1) := by decide +kernel
theorem dX11_init_384 : decode cX11_init 384 = .ok (.bipush 56, 2) := by decide +kernel
theorem dX11_init_386 : decode cX11_init 386 = .ok (.bipush 119, 2) := by decide +kernel
theorem dX11_init_388 : decode cX11_init 388 = .ok (.iastore, 1) := by decide +kernel
theorem dX11_init_389 : decode cX11_init 389 = .ok (.dup, 1) := by decide +kernel
theorem dX11_init_390 : decode cX11_init 390 = .ok (.bipush 57, 2) := by decide +kernel
theorem dX11_init_392 : decode cX11_init 392 = .ok (.bipush 114, 2) := by decide +kernel
theorem dX11_init_394 : decode cX11_init 394 = .ok (.iastore, 1) := by decide +kernel
theorem dX11_init_395 : decode cX11_init 395 = .ok (.dup, 1) := by decide +kernel
theorem dX11_init_396 : decode cX11_init 396 = .ok (.bipush 58, 2) := by decide +kernel
theorem dX11_init_398 : decode cX11_init 398 = .ok (.bipush 121, 2) := by decide +kernel
theorem dX11_init_400 : decode cX11_init 400 = .ok (.iastore, 1) := by decide +kernel
theorem dX11_init_401 : decode cX11_init 401 = .ok (.dup, 1) := by decide +kernel
theorem dX11_init_402 : decode cX11_init 402 = .ok (.bipush 59, 2) := by decide +kernel
theorem dX11_init_404 : decode cX11_init 404 = .ok (.bipush 32, 2) := by decide +kernel
theorem dX11_init_406 : decode cX11_init 406 = .ok (.iastore, 1) := by decide +kernel
theorem dX11_init_407 : decode cX11_init 407 = .ok (.dup, 1) := by decide +kernel
theorem dX11_init_408 : decode cX11_init 408 = .ok (.bipush 60, 2) := by decide +kernel
theorem dX11_init_410 : decode cX11_init 410 = .ok (.bipush 119, 2) := by decide +kernel
theorem dX11_init_412 : decode cX11_init 412 = .ok (.iastore, 1) := by decide +kernel
theorem dX11_init_413 : decode cX11_init 413 = .ok (.dup, 1) := by decide +kernel
theorem dX11_init_414 : decode cX11_init 414 = .ok (.bipush 61, 2) := by decide +kernel
theorem dX11_init_416 : decode cX11_init 416 = .ok (.bipush 105, 2) := by decide +kernel
theorem dX11_init_418 : decode cX11_init 418 = .ok (.iastore, 1) := by decide +kernel
theorem dX11_init_419 : decode cX11_init 419 = .ok (.dup, 1) := by decide +kernel
theorem dX11_init_420 : decode cX11_init 420 = .ok (.bipush 62, 2) := by decide +kernel
theorem dX11_init_422 : decode cX11_init 422 = .ok (.bipush 100, 2) := by decide +kernel
theorem dX11_init_424 : decode cX11_init 424 = .ok (.iastore, 1) := by decide +kernel
theorem dX11_init_425 : decode cX11_init 425 = .ok (.dup, 1) := by decide +kernel
theorem dX11_init_426 : decode cX11_init 426 = .ok (.bipush 63, 2) := by decide +kernel
theorem dX11_init_428 : decode cX11_init 428 = .ok (.bipush 111, 2) := by decide +kernel
theorem dX11_init_430 : decode cX11_init 430 = .ok (.iastore, 1) := by decide +kernel
theorem dX11_init_431 : decode cX11_init 431 = .ok (.dup, 1) := by decide +kernel
theorem dX11_init_432 : decode cX11_init 432 = .ok (.bipush 64, 2) := by decide +kernel
theorem dX11_init_434 : decode cX11_init 434 = .ok (.bipush 119, 2) := by decide +kernel
theorem dX11_init_436 : decode cX11_init 436 = .ok (.iastore, 1) := by decide +kernel
theorem dX11_init_437 : decode cX11_init 437 = .ok (.dup, 1) := by decide +kernel
theorem dX11_init_438 : decode cX11_init 438 = .ok (.bipush 65, 2) := by decide +kernel
theorem dX11_init_440 : decode cX11_init 440 = .ok (.bipush 32, 2) := by decide +kernel
theorem dX11_init_442 : decode cX11_init 442 = .ok (.iastore, 1) := by decide +kernel
theorem dX11_init_443 : decode cX11_init 443 = .ok (.dup, 1) := by decide +kernel
theorem dX11_init_444 : decode cX11_init 444 = .ok (.bipush 66, 2) := by decide +kernel
theorem dX11_init_446 : decode cX11_init 446 = .ok (.bipush 110, 2) := by decide +kernel
theorem dX11_init_448 : decode cX11_init 448 = .ok (.iastore, 1) := by decide +kernel
theorem dX11_init_449 : decode cX11_init 449 = .ok (.dup, 1) := by decide +kernel
theorem dX11_init_450 : decode cX11_init 450 = .ok (.bipush 67, 2) := by decide +kernel
theorem dX11_init_452 : decode cX11_init 452 = .ok (.bipush 117, 2) := by decide +kernel
theorem dX11_init_454 : decode cX11_init 454 = .ok (.iastore, 1) := by decide +kernel
theorem dX11_init_455 : decode cX11_init 455 = .ok (.dup, 1) := by decide +kernel
theorem dX11_init_456 : decode cX11_init 456 = .ok (.bipush 68, 2) := by decide +kernel
theorem dX11_init_458 : decode cX11_init 458 = .ok (.bipush 109, 2) := by decide +kernel
theorem dX11_init_460 : decode cX11_init 460 = .ok (.iastore, 1) := by decide +kernel
theorem dX11_init_461 : decode cX11_init 461 = .ok (.dup, 1) := by decide +kernel
theorem dX11_init_462 : decode cX11_init 462 = .ok (.bipush 69, 2) := by decide +kernel
theorem dX11_init_464 : decode cX11_init 464 = .ok (.bipush 98, 2) := by decide +kernel
theorem dX11_init_466 : decode cX11_init 466 = .ok (.iastore, 1) := by decide +kernel
theorem dX11_init_467 : decode cX11_init 467 = .ok (.dup, 1) := by decide +kernel
theorem dX11_init_468 : decode cX11_init 468 = .ok (.bipush 70, 2) := by decide +kernel
theorem dX11_init_470 : decode cX11_init 470 = .ok (.bipush 101, 2) := by decide +kernel
theorem dX11_init_472 : decode cX11_init 472 = .ok (.iastore, 1) := by decide +kernel
theorem dX11_init_473 : decode cX11_init 473 = .ok (.dup, 1) := by decide +kernel
theorem dX11_init_474 : decode cX11_init 474 = .ok (.bipush 71, 2) := by decide +kernel
theorem dX11_init_476 : decode cX11_init 476 = .ok (.bipush 114, 2) := by decide +kernel
theorem dX11_init_478 : decode cX11_init 478 = .ok (.iastore, 1) := by decide +kernel
theorem dX11_init_479 : decode cX11_init 479 = .ok (.dup, 1) := by decide +kernel
theorem dX11_init_480 : decode cX11_init 480 = .ok (.bipush 72, 2) := by decide +kernel
theorem dX11_init_482 : decode cX11_init 482 = .ok (.bipush 32, 2) := by decide +kernel
theorem dX11_init_484 : decode cX11_init 484 = .ok (.iastore, 1) := by decide +kernel
theorem dX11_init_485 : decode cX11_init 485 = .ok (.dup, 1) := by decide +kernel
theorem dX11_init_486 : decode cX11_init 486 = .ok (.bipush 73, 2) := by decide +kernel
theorem dX11_init_488 : decode cX11_init 488 = .ok (.bipush 115, 2) := by decide +kernel
theorem dX11_init_490 : decode cX11_init 490 = .ok (.iastore, 1) := by decide +kernel
theorem dX11_init_491 : decode cX11_init 491 = .ok (.dup, 1) := by decide +kernel
theorem dX11_init_492 : decode cX11_init 492 = .ok (.bipush 74, 2) := by decide +kernel
theorem dX11_init_494 : decode cX11_init 494 = .ok (.bipush 105, 2) := by decide +kernel
theorem dX11_init_496 : decode cX11_init 496 = .ok (.iastore, 1) := by decide +kernel
theorem dX11_init_497 : decode cX11_init 497 = .ok (.dup, 1) := by decide +kernel
theorem dX11_init_498 : decode cX11_init 498 = .ok (.bipush 75, 2) := by decide +kernel
theorem dX11_init_500 : decode cX11_init 500 = .ok (.bipush 100, 2) := by decide +kernel
theorem dX11_init_502 : decode cX11_init 502 = .ok (.iastore, 1) := by decide +kernel
theorem dX11_init_503 : decode cX11_init 503 = .ok (.dup, 1) := by decide +kernel
theorem dX11_init_504 : decode cX11_init 504 = .ok (.bipush 76, 2) := by decide +kernel
theorem dX11_init_506 : decode cX11_init 506 = .ok (.bipush 101, 2) := by decide +kernel
theorem dX11_init_508 : decode cX11_init 508 = .ok (.iastore, 1) := by decide +kernel
theorem dX11_init_509 : decode cX11_init 509 = .ok (.dup, 1) := by decide +kernel
theorem dX11_init_510 : decode cX11_init 510 = .ok (.bipush 77, 2) := by decide +kernel
theorem dX11_init_512 : decode cX11_init 512 = .ok (.bipush 32, 2) := by decide +kernel
theorem dX11_init_514 : decode cX11_init 514 = .ok (.iastore, 1) := by decide +kernel
theorem dX11_init_515 : decode cX11_init 515 = .ok (.dup, 1) := by decide +kernel
theorem dX11_init_516 : decode cX11_init 516 = .ok (.bipush 78, 2) := by decide +kernel
theorem dX11_init_518 : decode cX11_init 518 = .ok (.bipush 106, 2) := by decide +kernel
theorem dX11_init_520 : decode cX11_init 520 = .ok (.iastore, 1) := by decide +kernel
theorem dX11_init_521 : decode cX11_init 521 = .ok (.dup, 1) := by decide +kernel
theorem dX11_init_522 : decode cX11_init 522 = .ok (.bipush 79, 2) := by decide +kernel
theorem dX11_init_524 : decode cX11_init 524 = .ok (.bipush 117, 2) := by decide +kernel
theorem dX11_init_526 : decode cX11_init 526 = .ok (.iastore, 1) := by decide +kernel
theorem dX11_init_527 : decode cX11_init 527 = .ok (.dup, 1) := by decide +kernel
theorem dX11_init_528 : decode cX11_init 528 = .ok (.bipush 80, 2) := by decide +kernel
theorem dX11_init_530 : decode cX11_init 530 = .ok (.bipush 103, 2) := by decide +kernel
theorem dX11_init_532 : decode cX11_init 532 = .ok (.iastore, 1) := by decide +kernel
theorem dX11_init_533 : decode cX11_init 533 = .ok (.dup, 1) := by decide +kernel
theorem dX11_init_534 : decode cX11_init 534 = .ok (.bipush 81, 2) := by decide +kernel
theorem dX11_init_536 : decode cX11_init 536 = .ok (.bipush 32, 2) := by decide +kernel
theorem dX11_init_538 : decode cX11_init 538 = .ok (.iastore, 1) := by decide +kernel
theorem dX11_init_539 : decode cX11_init 539 = .ok (.dup, 1) := by decide +kernel
theorem dX11_init_540 : decode cX11_init 540 = .ok (.bipush 82, 2) := by decide +kernel
theorem dX11_init_542 : decode cX11_init 542 = .ok (.bipush 103, 2) := by decide +kernel
theorem dX11_init_544 : decode cX11_init 544 = .ok (.iastore, 1) := by decide +kernel
theorem dX11_init_545 : decode cX11_init 545 = .ok (.dup, 1) := by decide +kernel
theorem dX11_init_546 : decode cX11_init 546 = .ok (.bipush 83, 2) := by decide +kernel
theorem dX11_init_548 : decode cX11_init 548 = .ok (.bipush 97, 2) := by decide +kernel
theorem dX11_init_550 : decode cX11_init 550 = .ok (.iastore, 1) := by decide +kernel
theorem dX11_init_551 : decode cX11_init 551 = .ok (.dup, 1) := by decide +kernel
theorem dX11_init_552 : decode cX11_init 552 = .ok (.bipush 84, 2) := by decide +kernel
theorem dX11_init_554 : decode cX11_init 554 = .ok (.bipush 112, 2) := by decide +kernel
theorem dX11_init_556 : decode cX11_init 556 = .ok (.iastore, 1) := by decide +kernel
theorem dX11_init_557 : decode cX11_init 557 = .ok (.dup, 1) := by decide +kernel
theorem dX11_init_558 : decode cX11_init 558 = .ok (.bipush 85, 2) := by decide +kernel
theorem dX11_init_560 : decode cX11_init 560 = .ok (.bipush 115, 2) := by decide +kernel
theorem dX11_init_562 : decode cX11_init 562 = .ok (.iastore, 1) := by decide +kernel
theorem dX11_init_563 : decode cX11_init 563 = .ok (.dup, 1) := by decide +kernel
theorem dX11_init_564 : decode cX11_init 564 = .ok (.bipush 86, 2) := by decide +kernel
theorem dX11_init_566 : decode cX11_init 566 = .ok (.bipush 32, 2) := by decide +kernel
theorem dX11_init_568 : decode cX11_init 568 = .ok (.iastore, 1) := by decide +kernel
theorem dX11_init_569 : decode cX11_init 569 = .ok (.dup, 1) := by decide +kernel
theorem dX11_init_570 : decode cX11_init 570 = .ok (.bipush 87, 2) := by decide +kernel
theorem dX11_init_572 : decode cX11_init 572 = .ok (.bipush 103, 2) := by decide +kernel
theorem dX11_init_574 : decode cX11_init 574 = .ok (.iastore, 1) := by decide +kernel
theorem dX11_init_575 : decode cX11_init 575 = .ok (.dup, 1) := by decide +kernel
theorem dX11_init_576 : decode cX11_init 576 = .ok (.bipush 88, 2) := by decide +kernel
theorem dX11_init_578 : decode cX11_init 578 = .ok (.bipush 101, 2) := by decide +kernel
theorem dX11_init_580 : decode cX11_init 580 = .ok (.iastore, 1) := by decide +kernel
theorem dX11_init_581 : decode cX11_init 581 = .ok (.dup, 1) := by decide +kernel
theorem dX11_init_582 : decode cX11_init 582 = .ok (.bipush 89, 2) := by decide +kernel
theorem dX11_init_584 : decode cX11_init 584 = .ok (.bipush 110, 2) := by decide +kernel
theorem dX11_init_586 : decode cX11_init 586 = .ok (.iastore, 1) := by decide +kernel
theorem dX11_init_587 : decode cX11_init 587 = .ok (.dup, 1) := by decide +kernel
theorem dX11_init_588 : decode cX11_init 588 = .ok (.bipush 90, 2) := by decide +kernel
theorem dX11_init_590 : decode cX11_init 590 = .ok (.bipush 101, 2) := by decide +kernel
theorem dX11_init_592 : decode cX11_init 592 = .ok (.iastore, 1) := by decide +kernel
theorem dX11_init_593 : decode cX11_init 593 = .ok (.dup, 1) := by decide +kernel
theorem dX11_init_594 : decode cX11_init 594 = .ok (.bipush 91, 2) := by decide +kernel
theorem dX11_init_596 : decode cX11_init 596 = .ok (.bipush 114, 2) := by decide +kernel
theorem dX11_init_598 : decode cX11_init 598 = .ok (.iastore, 1) := by decide +kernel
theorem dX11_init_599 : decode cX11_init 599 = .ok (.dup, 1) := by decide +kernel
theorem dX11_init_600 : decode cX11_init 600 = .ok (.bipush 92, 2) := by decide +kernel
theorem dX11_init_602 : decode cX11_init 602 = .ok (.bipush 97, 2) := by decide +kernel
theorem dX11_init_604 : decode cX11_init 604 = .ok (.iastore, 1) := by decide +kernel
theorem dX11_init_605 : decode cX11_init 605 = .ok (.dup, 1) := by decide +kernel
theorem dX11_init_606 : decode cX11_init 606 = .ok (.bipush 93, 2) := by decide +kernel
theorem dX11_init_608 : decode cX11_init 608 = .ok (.bipush 116, 2) := by decide +kernel
theorem dX11_init_610 : decode cX11_init 610 = .ok (.iastore, 1) := by decide +kernel
theorem dX11_init_611 : decode cX11_init 611 = .ok (.dup, 1) := by decide +kernel
theorem dX11_init_612 : decode cX11_init 612 = .ok (.bipush 94, 2) := by decide +kernel
theorem dX11_init_614 : decode cX11_init 614 = .ok (.bipush 105, 2) := by decide +kernel
theorem dX11_init_616 : decode cX11_init 616 = .ok (.iastore, 1) := by decide +kernel
theorem dX11_init_617 : decode cX11_init 617 = .ok (.dup, 1) := by decide +kernel
theorem dX11_init_618 : decode cX11_init 618 = .ok (.bipush 95, 2) := by decide +kernel
theorem dX11_init_620 : decode cX11_init 620 = .ok (.bipush 111, 2) := by decide +kernel
theorem dX11_init_622 : decode cX11_init 622 = .ok (.iastore, 1) := by decide +kernel
theorem dX11_init_623 : decode cX11_init 623 = .ok (.dup, 1) := by decide +kernel
theorem dX11_init_624 : decode cX11_init 624 = .ok (.bipush 96, 2) := by decide +kernel
theorem dX11_init_626 : decode cX11_init 626 = .ok (.bipush 110, 2) := by decide +kernel
theorem dX11_init_628 : decode cX11_init 628 = .ok (.iastore, 1) := by decide +kernel
theorem dX11_init_629 : decode cX11_init 629 = .ok (.dup, 1) := by decide +kernel
theorem dX11_init_630 : decode cX11_init 630 = .ok (.bipush 97, 2) := by decide +kernel
theorem dX11_init_632 : decode cX11_init 632 = .ok (.bipush 32, 2) := by decide +kernel
theorem dX11_init_634 : decode cX11_init 634 = .ok (.iastore, 1) := by decide +kernel
theorem dX11_init_635 : decode cX11_init 635 = .ok (.dup, 1) := by decide +kernel
theorem dX11_init_636 : decode cX11_init 636 = .ok (.bipush 98, 2) := by decide +kernel
theorem dX11_init_638 : decode cX11_init 638 = .ok (.bipush 105, 2) := by decide +kernel
theorem dX11_init_640 : decode cX11_init 640 = .ok (.iastore, 1) := by decide +kernel
theorem dX11_init_641 : decode cX11_init 641 = .ok (.dup, 1) := by decide +kernel
theorem dX11_init_642 : decode cX11_init 642 = .ok (.bipush 99, 2) := by decide +kernel
theorem dX11_init_644 : decode cX11_init 644 = .ok (.bipush 110, 2) := by decide +kernel
theorem dX11_init_646 : decode cX11_init 646 = .ok (.iastore, 1) := by decide +kernel
theorem dX11_init_647 : decode cX11_init 647 = .ok (.dup, 1) := by decide +kernel
theorem dX11_init_648 : decode cX11_init 648 = .ok (.bipush 100, 2) := by decide +kernel
theorem dX11_init_650 : decode cX11_init 650 = .ok (.bipush 32, 2) := by decide +kernel
theorem dX11_init_652 : decode cX11_init 652 = .ok (.iastore, 1) := by decide +kernel
theorem dX11_init_653 : decode cX11_init 653 = .ok (.dup, 1) := by decide +kernel
theorem dX11_init_654 : decode cX11_init 654 = .ok (.bipush 101, 2) := by decide +kernel
theorem dX11_init_656 : decode cX11_init 656 = .ok (.bipush 103, 2) := by decide +kernel
theorem dX11_init_658 : decode cX11_init 658 = .ok (.iastore, 1) := by decide +kernel
theorem dX11_init_659 : decode cX11_init 659 = .ok (.dup, 1) := by decide +kernel
theorem dX11_init_660 : decode cX11_init 660 = .ok (.bipush 102, 2) := by decide +kernel
theorem dX11_init_662 : decode cX11_init 662 = .ok (.bipush 105, 2) := by decide +kernel
theorem dX11_init_664 : decode cX11_init 664 = .ok (.iastore, 1) := by decide +kernel
theorem dX11_init_665 : decode cX11_init 665 = .ok (.dup, 1) := by decide +kernel
theorem dX11_init_666 : decode cX11_init 666 = .ok (.bipush 103, 2) := by decide +kernel
theorem dX11_init_668 : decode cX11_init 668 = .ok (.bipush 114, 2) := by decide +kernel
theorem dX11_init_670 : decode cX11_init 670 = .ok (.iastore, 1) := by decide +kernel
theorem dX11_init_671 : decode cX11_init 671 = .ok (.dup, 1) := by decide +kernel
theorem dX11_init_672 : decode cX11_init 672 = .ok (.bipush 104, 2) := by decide +kernel
theorem dX11_init_674 : decode cX11_init 674 = .ok (.bipush 108, 2) := by decide +kernel
theorem dX11_init_676 : decode cX11_init 676 = .ok (.iastore, 1) := by decide +kernel
theorem dX11_init_677 : decode cX11_init 677 = .ok (.dup, 1) := by decide +kernel
theorem dX11_init_678 : decode cX11_init 678 = .ok (.bipush 105, 2) := by decide +kernel
theorem dX11_init_680 : decode cX11_init 680 = .ok (.bipush 32, 2) := by decide +kernel
theorem dX11_init_682 : decode cX11_init 682 = .ok (.iastore, 1) := by decide +kernel
theorem dX11_init_683 : decode cX11_init 683 = .ok (.dup, 1) := by decide +kernel
theorem dX11_init_684 : decode cX11_init 684 = .ok (.bipush 106, 2) := by decide +kernel
theorem dX11_init_686 : decode cX11_init 686 = .ok (.bipush 98, 2) := by decide +kernel
theorem dX11_init_688 : decode cX11_init 688 = .ok (.iastore, 1) := by decide +kernel
theorem dX11_init_689 : decode cX11_init 689 = .ok (.dup, 1) := by decide +kernel
theorem dX11_init_690 : decode cX11_init 690 = .ok (.bipush 107, 2) := by decide +kernel
theorem dX11_init_692 : decode cX11_init 692 = .ok (.bipush 111, 2) := by decide +kernel
theorem dX11_init_694 : decode cX11_init 694 = .ok (.iastore, 1) := by decide +kernel
theorem dX11_init_695 : decode cX11_init 695 = .ok (.dup, 1) := by decide +kernel
theorem dX11_init_696 : decode cX11_init 696 = .ok (.bipush 108, 2) := by decide +kernel
theorem dX11_init_698 : decode cX11_init 698 = .ok (.bipush 121, 2) := by decide +kernel
theorem dX11_init_700 : decode cX11_init 700 = .ok (.iastore, 1) := by decide +kernel
theorem dX11_init_701 : decode cX11_init 701 = .ok (.dup, 1) := by decide +kernel
theorem dX11_init_702 : decode cX11_init 702 = .ok (.bipush 109, 2) := by decide +kernel
theorem dX11_init_704 : decode cX11_init 704 = .ok (.bipush 32, 2) := by decide +kernel
theorem dX11_init_706 : decode cX11_init 706 = .ok (.iastore, 1) := by decide +kernel
theorem dX11_init_707 : decode cX11_init 707 = .ok (.dup, 1) := by decide +kernel
theorem dX11_init_708 : decode cX11_init 708 = .ok (.bipush 110, 2) := by decide +kernel
theorem dX11_init_710 : decode cX11_init 710 = .ok (.bipush 104, 2) := by decide +kernel
theorem dX11_init_712 : decode cX11_init 712 = .ok (.iastore, 1) := by decide +kernel
theorem dX11_init_713 : decode cX11_init 713 = .ok (.dup, 1) := by decide +kernel
theorem dX11_init_714 : decode cX11_init 714 = .ok (.bipush 111, 2) := by decide +kernel
theorem dX11_init_716 : decode cX11_init 716 = .ok (.bipush 111, 2) := by decide +kernel
theorem dX11_init_718 : decode cX11_init 718 = .ok (.iastore, 1) := by decide +kernel
theorem dX11_init_719 : decode cX11_init 719 = .ok (.dup, 1) := by decide +kernel
theorem dX11_init_720 : decode cX11_init 720 = .ok (.bipush 112, 2) := by decide +kernel
theorem dX11_init_722 : decode cX11_init 722 = .ok (.bipush 117, 2) := by decide +kernel
theorem dX11_init_724 : decode cX11_init 724 = .ok (.iastore, 1) := by decide +kernel
theorem dX11_init_725 : decode cX11_init 725 = .ok (.dup, 1) := by decide +kernel
theorem dX11_init_726 : decode cX11_init 726 = .ok (.bipush 113, 2) := by decide +kernel
theorem dX11_init_728 : decode cX11_init 728 = .ok (.bipush 115, 2) := by decide +kernel
theorem dX11_init_730 : decode cX11_init 730 = .ok (.iastore, 1) := by decide +kernel
theorem dX11_init_731 : decode cX11_init 731 = .ok (.dup, 1) := by decide +kernel
theorem dX11_init_732 : decode cX11_init 732 = .ok (.bipush 114, 2) := by decide +kernel
theorem dX11_init_734 : decode cX11_init 734 = .ok (.bipush 101, 2) := by decide +kernel
theorem dX11_init_736 : decode cX11_init 736 = .ok (.iastore, 1) := by decide +kernel
theorem dX11_init_737 : decode cX11_init 737 = .ok (.dup, 1) := by decide +kernel
theorem dX11_init_738 : decode cX11_init 738 = .ok (.bipush 115, 2) := by decide +kernel
theorem dX11_init_740 : decode cX11_init 740 = .ok (.bipush 32, 2) := by decide +kernel
theorem dX11_init_742 : decode cX11_init 742 = .ok (.iastore, 1) := by decide +kernel
theorem dX11_init_743 : decode cX11_init 743 = .ok (.dup, 1) := by decide +kernel
theorem dX11_init_744 : decode cX11_init 744 = .ok (.bipush 116, 2) := by decide +kernel
theorem dX11_init_746 : decode cX11_init 746 = .ok (.bipush 99, 2) := by decide +kernel
theorem dX11_init_748 : decode cX11_init 748 = .ok (.iastore, 1) := by decide +kernel
theorem dX11_init_749 : decode cX11_init 749 = .ok (.dup, 1) := by decide +kernel
theorem dX11_init_750 : decode cX11_init 750 = .ok (.bipush 117, 2) := by decide +kernel
theorem dX11_init_752 : decode cX11_init 752 = .ok (.bipush 111, 2) := by decide +kernel
theorem dX11_init_754 : decode cX11_init 754 = .ok (.iastore, 1) := by decide +kernel
theorem dX11_init_755 : decode cX11_init 755 = .ok (.dup, 1) := by decide +kernel
theorem dX11_init_756 : decode cX11_init 756 = .ok (.bipush 118, 2) := by decide +kernel
theorem dX11_init_758 : decode cX11_init 758 = .ok (.bipush 109, 2) := by decide +kernel
theorem dX11_init_760 : decode cX11_init 760 = .ok (.iastore, 1) := by decide +kernel
theorem dX11_init_761 : decode cX11_init 761 = .ok (.dup, 1) := by decide +kernel
theorem dX11_init_762 : decode cX11_init 762 = .ok (.bipush 119, 2) := by decide +kernel
theorem dX11_init_764 : decode cX11_init 764 = .ok (.bipush 102, 2) := by decide +kernel
theorem dX11_init_766 : decode cX11_init 766 = .ok (.iastore, 1) := by decide +kernel
theorem dX11_init_767 : decode cX11_init 767 = .ok (.dup, 1) := by decide +kernel
theorem dX11_init_768 : decode cX11_init 768 = .ok (.bipush 120, 2) := by decide +kernel
theorem dX11_init_770 : decode cX11_init 770 = .ok (.bipush 111, 2) := by decide +kernel
theorem dX11_init_772 : decode cX11_init 772 = .ok (.iastore, 1) := by decide +kernel
theorem dX11_init_773 : decode cX11_init 773 = .ok (.dup, 1) := by decide +kernel
theorem dX11_init_774 : decode cX11_init 774 = .ok (.bipush 121, 2) := by decide +kernel
theorem dX11_init_776 : decode cX11_init 776 = .ok (.bipush 114, 2) := by decide +kernel
theorem dX11_init_778 : decode cX11_init 778 = .ok (.iastore, 1) := by decide +kernel
theorem dX11_init_779 : decode cX11_init 779 = .ok (.dup, 1) := by decide +kernel
theorem dX11_init_780 : decode cX11_init 780 = .ok (.bipush 122, 2) := by decide +kernel
theorem dX11_init_782 : decode cX11_init 782 = .ok (.bipush 116, 2) := by decide +kernel
theorem dX11_init_784 : decode cX11_init 784 = .ok (.iastore, 1) := by decide +kernel
theorem dX11_init_785 : decode cX11_init 785 = .ok (.dup, 1) := by decide +kernel
theorem dX11_init_786 : decode cX11_init 786 = .ok (.bipush 123, 2) := by decide +kernel
theorem dX11_init_788 : decode cX11_init 788 = .ok (.bipush 32, 2) := by decide +kernel
theorem dX11_init_790 : decode cX11_init 790 = .ok (.iastore, 1) := by decide +kernel
theorem dX11_init_791 : decode cX11_init 791 = .ok (.dup, 1) := by decide +kernel
theorem dX11_init_792 : decode cX11_init 792 = .ok (.bipush 124, 2) := by decide +kernel
theorem dX11_init_794 : decode cX11_init 794 = .ok (.bipush 103, 2) := by decide +kernel
theorem dX11_init_796 : decode cX11_init 796 = .ok (.iastore, 1) := by decide +kernel
theorem dX11_init_797 : decode cX11_init 797 = .ok (.dup, 1) := by decide +kernel
theorem dX11_init_798 : decode cX11_init 798 = .ok (.bipush 125, 2) := by decide +kernel
theorem dX11_init_800 : decode cX11_init 800 = .ok (.bipush 105, 2) := by decide +kernel
theorem dX11_init_802 : decode cX11_init 802 = .ok (.iastore, 1) := by decide +kernel
theorem dX11_init_803 : decode cX11_init 803 = .ok (.dup, 1) := by decide +kernel
theorem dX11_init_804 : decode cX11_init 804 = .ok (.bipush 126, 2) := by decide +kernel
theorem dX11_init_806 : decode cX11_init 806 = .ok (.bipush 118, 2) := by decide +kernel
theorem dX11_init_808 : decode cX11_init 808 = .ok (.iastore, 1) := by decide +kernel
theorem dX11_init_809 : decode cX11_init 809 = .ok (.dup, 1) := by decide +kernel
theorem dX11_init_810 : decode cX11_init 810 = .ok (.bipush 127, 2) := by decide +kernel
theorem dX11_init_812 : decode cX11_init 812 = .ok (.bipush 101, 2) := by decide +kernel
theorem dX11_init_814 : decode cX11_init 814 = .ok (.iastore, 1) := by decide +kernel
theorem dX11_init_815 : decode cX11_init 815 = .ok (.dup, 1) := by decide +kernel
theorem dX11_init_816 : decode cX11_init 816 = .ok (.sipush 128, 3) := by decide +kernel
theorem dX11_init_819 : decode cX11_init 819 = .ok (.bipush 32, 2) := by decide +kernel
theorem dX11_init_821 : decode cX11_init 821 = .ok (.iastore, 1) := by decide +kernel
theorem dX11_init_822 : decode cX11_init 822 = .ok (.dup, 1) := by decide +kernel
theorem dX11_init_823 : decode cX11_init 823 = .ok (.sipush 129, 3) := by decide +kernel
theorem dX11_init_826 : decode cX11_init 826 = .ok (.bipush 102, 2) := by decide +kernel
theorem dX11_init_828 : decode cX11_init 828 = .ok (.iastore, 1) := by decide +kernel
theorem dX11_init_829 : decode cX11_init 829 = .ok (.dup, 1) := by decide +kernel
theorem dX11_init_830 : decode cX11_init 830 = .ok (.sipush 130, 3) := by decide +kernel
theorem dX11_init_833 : decode cX11_init 833 = .ok (.bipush 101, 2) := by decide +kernel
theorem dX11_init_835 : decode cX11_init 835 = .ok (.iastore, 1) := by decide +kernel
theorem dX11_init_836 : decode cX11_init 836 = .ok (.dup, 1) := by decide +kernel
theorem dX11_init_837 : decode cX11_init 837 = .ok (.sipush 131, 3) := by decide +kernel
theorem dX11_init_840 : decode cX11_init 840 = .ok (.bipush 117, 2) := by decide +kernel
theorem dX11_init_842 : decode cX11_init 842 = .ok (.iastore, 1) := by decide +kernel
theorem dX11_init_843 : decode cX11_init 843 = .ok (.dup, 1) := by decide +kernel
theorem dX11_init_844 : decode cX11_init 844 = .ok (.sipush 132, 3) := by decide +kernel
theorem dX11_init_847 : decode cX11_init 847 = .ok (.bipush 100, 2) := by decide +kernel
theorem dX11_init_849 : decode cX11_init 849 = .ok (.iastore, 1) := by decide +kernel
theorem dX11_init_850 : decode cX11_init 850 = .ok (.dup, 1) := by decide +kernel
theorem dX11_init_851 : decode cX11_init 851 = .ok (.sipush 133, 3) := by decide +kernel
theorem dX11_init_854 : decode cX11_init 854 = .ok (.bipush 32, 2) := by decide +kernel
theorem dX11_init_856 : decode cX11_init 856 = .ok (.iastore, 1) := by decide +kernel
theorem dX11_init_857 : decode cX11_init 857 = .ok (.putfield 25, 3) := by decide +kernel
theorem dX11_init_860 : decode cX11_init 860 = .ok (.aload_n 0, 1) := by decide +kernel
theorem dX11_init_861 : decode cX11_init 861 = .ok (.iconst 2, 1) := by decide +kernel
theorem dX11_init_862 : decode cX11_init 862 = .ok (.newarray .int, 2) := by decide +kernel
theorem dX11_init_864 : decode cX11_init 864 = .ok (.putfield 28, 3) := by decide +kernel
theorem dX11_init_867 : decode cX11_init 867 = .ok (.aload_n 0, 1) := by decide +kernel
theorem dX11_init_868 : decode cX11_init 868 = .ok (.bipush 48, 2) := by decide +kernel
theorem dX11_init_870 : decode cX11_init 870 = .ok (.newarray .int, 2) := by decide +kernel
theorem dX11_init_872 : decode cX11_init 872 = .ok (.putfield 31, 3) := by decide +kernel
theorem dX11_init_875 : decode cX11_init 875 = .ok (.aload_n 0, 1) := by decide +kernel
theorem dX11_init_876 : decode cX11_init 876 = .ok (.bipush 48, 2) := by decide +kernel
theorem dX11_init_878 : decode cX11_init 878 = .ok (.newarray .int, 2) := by decide +kernel
theorem dX11_init_880 : decode cX11_init 880 = .ok (.putfield 34, 3) := by decide +kernel
theorem dX11_init_883 : decode cX11_init 883 = .ok (.aload_n 0, 1) := by decide +kernel
theorem dX11_init_884 : decode cX11_init 884 = .ok (.bipush 48, 2) := by decide +kernel
theorem dX11_init_886 : decode cX11_init 886 = .ok (.newarray .int, 2) := by decide +kernel
theorem dX11_init_888 : decode cX11_init 888 = .ok (.putfield 37, 3) := by decide +kernel
theorem dX11_init_891 : decode cX11_init 891 = .ok (.aload_n 0, 1) := by decide +kernel
theorem dX11_init_892 : decode cX11_init 892 = .ok (.bipush 48, 2) := by decide +kernel
theorem dX11_init_894 : decode cX11_init 894 = .ok (.newarray .int, 2) := by decide +kernel
theorem dX11_init_896 : decode cX11_init 896 = .ok (.putfield 40, 3) := by decide +kernel
theorem dX11_init_899 : decode cX11_init 899 = .ok (.aload_n 0, 1) := by decide +kernel
theorem dX11_init_900 : decode cX11_init 900 = .ok (.sipush 1200, 3) := by decide +kernel
theorem dX11_init_903 : decode cX11_init 903 = .ok (.newarray .int, 2) := by decide +kernel
theorem dX11_init_905 : decode cX11_init 905 = .ok (.putfield 43, 3) := by decide +kernel
theorem dX11_init_908 : decode cX11_init 908 = .ok (.aload_n 0, 1) := by decide +kernel
theorem dX11_init_909 : decode cX11_init 909 = .ok (.sipush 1200, 3) := by decide +kernel
theorem dX11_init_912 : decode cX11_init 912 = .ok (.newarray .int, 2) := by decide +kernel
theorem dX11_init_914 : decode cX11_init 914 = .ok (.putfield 46, 3) := by decide +kernel
theorem dX11_init_917 : decode cX11_init 917 = .ok (.aload_n 0, 1) := by decide +kernel
theorem dX11_init_918 : decode cX11_init 918 = .ok (.bipush 40, 2) := by decide +kernel
theorem dX11_init_920 : decode cX11_init 920 = .ok (.newarray .int, 2) := by decide +kernel
theorem dX11_init_922 : decode cX11_init 922 = .ok (.putfield 49, 3) := by decide +kernel
theorem dX11_init_925 : decode cX11_init 925 = .ok (.aload_n 0, 1) := by decide +kernel
theorem dX11_init_926 : decode cX11_init 926 = .ok (.iconst (-1), 1) := by decide +kernel
theorem dX11_init_927 : decode cX11_init 927 = .ok (.putfield 52, 3) := by decide +kernel
theorem dX11_init_930 : decode cX11_init 930 = .ok (.aload_n 0, 1) := by decide +kernel
theorem dX11_init_931 : decode cX11_init 931 = .ok (.sipush 128, 3) := by decide +kernel
theorem dX11_init_934 : decode cX11_init 934 = .ok (.newarray .int, 2) := by decide +kernel
theorem dX11_init_936 : decode cX11_init 936 = .ok (.putfield 56, 3) := by decide +kernel
theorem dX11_init_939 : decode cX11_init 939 = .ok (.aload_n 0, 1) := by decide +kernel
theorem dX11_init_940 : decode cX11_init 940 = .ok (.bipush 32, 2) := by decide +kernel
theorem dX11_init_942 : decode cX11_init 942 = .ok (.newarray .int, 2) := by decide +kernel
theorem dX11_init_944 : decode cX11_init 944 = .ok (.putfield 59, 3) := by decide +kernel
theorem dX11_init_947 : decode cX11_init 947 = .ok (.aload_n 0, 1) := by decide +kernel
theorem dX11_init_948 : decode cX11_init 948 = .ok (.bipush 32, 2) := by decide +kernel
theorem dX11_init_950 : decode cX11_init 950 = .ok (.newarray .int, 2) := by decide +kernel
theorem dX11_init_952 : decode cX11_init 952 = .ok (.putfield 62, 3) := by decide +kernel
theorem dX11_init_955 : decode cX11_init 955 = .ok (.aload_n 0, 1) := by decide +kernel
theorem dX11_init_956 : decode cX11_init 956 = .ok (.bipush 10, 2) := by decide +kernel
theorem dX11_init_958 : decode cX11_init 958 = .ok (.newarray .int, 2) := by decide +kernel
theorem dX11_init_960 : decode cX11_init 960 = .ok (.putfield 65, 3) := by decide +kernel
theorem dX11_init_963 : decode cX11_init 963 = .ok (.aload_n 0, 1) := by decide +kernel
theorem dX11_init_964 : decode cX11_init 964 = .ok (.sipush 420, 3) := by decide +kernel
theorem dX11_init_967 : decode cX11_init 967 = .ok (.newarray .int, 2) := by decide +kernel
theorem dX11_init_969 : decode cX11_init 969 = .ok (.putfield 68, 3) := by decide +kernel
theorem dX11_init_972 : decode cX11_init 972 = .ok (.aload_n 0, 1) := by decide +kernel
theorem dX11_init_973 : decode cX11_init 973 = .ok (.bipush 16, 2) := by decide +kernel
theorem dX11_init_975 : decode cX11_init 975 = .ok (.newarray .int, 2) := by decide +kernel
theorem dX11_init_977 : decode cX11_init 977 = .ok (.putfield 71, 3) := by decide +kernel
theorem dX11_init_980 : decode cX11_init 980 = .ok (.aload_n 0, 1) := by decide +kernel
theorem dX11_init_981 : decode cX11_init 981 = .ok (.bipush 12, 2) := by decide +kernel
theorem dX11_init_983 : decode cX11_init 983 = .ok (.newarray .int, 2) := by decide +kernel
theorem dX11_init_985 : decode cX11_init 985 = .ok (.putfield 74, 3) := by decide +kernel
theorem dX11_init_988 : decode cX11_init 988 = .ok (.aload_n 0, 1) := by decide +kernel
theorem dX11_init_989 : decode cX11_init 989 = .ok (.bipush 9, 2) := by decide +kernel
theorem dX11_init_991 : decode cX11_init 991 = .ok (.newarray .int, 2) := by decide +kernel
theorem dX11_init_993 : decode cX11_init 993 = .ok (.putfield 77, 3) := by decide +kernel
theorem dX11_init_996 : decode cX11_init 996 = .ok (.aload_n 0, 1) := by decide +kernel
theorem dX11_init_997 : decode cX11_init 997 = .ok (.bipush 9, 2) := by decide +kernel
theorem dX11_init_999 : decode cX11_init 999 = .ok (.newarray .int, 2) := by decide +kernel
theorem dX11_init_1001 : decode cX11_init 1001 = .ok (.putfield 80, 3) := by decide +kernel
theorem dX11_init_1004 : decode cX11_init 1004 = .ok (.aload_n 0, 1) := by decide +kernel
theorem dX11_init_1005 : decode cX11_init 1005 = .ok (.bipush 10, 2) := by decide +kernel
theorem dX11_init_1007 : decode cX11_init 1007 = .ok (.newarray .int, 2) := by decide +kernel
theorem dX11_init_1009 : decode cX11_init 1009 = .ok (.putfield 83, 3) := by decide +kernel
theorem dX11_init_1012 : decode cX11_init 1012 = .ok (.aload_n 0, 1) := by decide +kernel
theorem dX11_init_1013 : decode cX11_init 1013 = .ok (.bipush 9, 2) := by decide +kernel
theorem dX11_init_1015 : decode cX11_init 1015 = .ok (.newarray .int, 2) := by decide +kernel
theorem dX11_init_1017 : decode cX11_init 1017 = .ok (.putfield 86, 3) := by decide +kernel
theorem dX11_init_1020 : decode cX11_init 1020 = .ok (.aload_n 0, 1) := by decide +kernel
theorem dX11_init_1021 : decode cX11_init 1021 = .ok (.bipush 9, 2) := by decide +kernel
theorem dX11_init_1023 : decode cX11_init 1023 = .ok (.newarray .int, 2) := by decide +kernel
theorem dX11_init_1025 : decode cX11_init 1025 = .ok (.putfield 89, 3) := by decide +kernel
theorem dX11_init_1028 : decode cX11_init 1028 = .ok (.aload_n 0, 1) := by decide +kernel
theorem dX11_init_1029 : decode cX11_init 1029 = .ok (.bipush 9, 2) := by decide +kernel
theorem dX11_init_1031 : decode cX11_init 1031 = .ok (.newarray .int, 2) := by decide +kernel
theorem dX11_init_1033 : decode cX11_init 1033 = .ok (.putfield 92, 3) := by decide +kernel
theorem dX11_init_1036 : decode cX11_init 1036 = .ok (.aload_n 0, 1) := by decide +kernel
theorem dX11_init_1037 : decode cX11_init 1037 = .ok (.sipush 4608, 3) := by decide +kernel
theorem dX11_init_1040 : decode cX11_init 1040 = .ok (.newarray .int, 2) := by decide +kernel
theorem dX11_init_1042 : decode cX11_init 1042 = .ok (.putfield 95, 3) := by decide +kernel
theorem dX11_init_1045 : decode cX11_init 1045 = .ok (.aload_n 0, 1) := by decide +kernel
theorem dX11_init_1046 : decode cX11_init 1046 = .ok (.bipush 10, 2) := by decide +kernel
theorem dX11_init_1048 : decode cX11_init 1048 = .ok (.newarray .int, 2) := by decide +kernel
theorem dX11_init_1050 : decode cX11_init 1050 = .ok (.putfield 98, 3) := by decide +kernel
theorem dX11_init_1053 : decode cX11_init 1053 = .ok (.aload_n 0, 1) := by decide +kernel
theorem dX11_init_1054 : decode cX11_init 1054 = .ok (.bipush 10, 2) := by decide +kernel
theorem dX11_init_1056 : decode cX11_init 1056 = .ok (.newarray .int, 2) := by decide +kernel
theorem dX11_init_1058 : decode cX11_init 1058 = .ok (.putfield 101, 3) := by decide +kernel
theorem dX11_init_1061 : decode cX11_init 1061 = .ok (.aload_n 0, 1) := by decide +kernel
theorem dX11_init_1062 : decode cX11_init 1062 = .ok (.sipush 4096, 3) := by decide +kernel
theorem dX11_init_1065 : decode cX11_init 1065 = .ok (.newarray .int, 2) := by decide +kernel
theorem dX11_init_1067 : decode cX11_init 1067 = .ok (.putfield 104, 3) := by decide +kernel
theorem dX11_init_1070 : decode cX11_init 1070 = .ok (.aload_n 0, 1) := by decide +kernel
theorem dX11_init_1071 : decode cX11_init 1071 = .ok (.bipush 14, 2) := by decide +kernel
theorem dX11_init_1073 : decode cX11_init 1073 = .ok (.newarray .int, 2) := by decide +kernel
theorem dX11_init_1075 : decode cX11_init 1075 = .ok (.putfield 107, 3) := by decide +kernel
theorem dX11_init_1078 : decode cX11_init 1078 = .ok (.aload_n 0, 1) := by decide +kernel
theorem dX11_init_1079 : decode cX11_init 1079 = .ok (.bipush 14, 2) := by decide +kernel
theorem dX11_init_1081 : decode cX11_init 1081 = .ok (.newarray .int, 2) := by decide +kernel
theorem dX11_init_1083 : decode cX11_init 1083 = .ok (.putfield 110, 3) := by decide +kernel
theorem dX11_init_1086 : decode cX11_init 1086 = .ok (.aload_n 0, 1) := by decide +kernel
theorem dX11_init_1087 : decode cX11_init 1087 = .ok (.sipush 196, 3) := by decide +kernel
theorem dX11_init_1090 : decode cX11_init 1090 = .ok (.newarray .int, 2) := by decide +kernel
theorem dX11_init_1092 : decode cX11_init 1092 = .ok (.putfield 113, 3) := by decide +kernel
theorem dX11_init_1095 : decode cX11_init 1095 = .ok (.aload_n 0, 1) := by decide +kernel
theorem dX11_init_1096 : decode cX11_init 1096 = .ok (.bipush 10, 2) := by decide +kernel
theorem dX11_init_1098 : decode cX11_init 1098 = .ok (.newarray .int, 2) := by decide +kernel
theorem dX11_init_1100 : decode cX11_init 1100 = .ok (.putfield 116, 3) := by decide +kernel
theorem dX11_init_1103 : decode cX11_init 1103 = .ok (.aload_n 0, 1) := by decide +kernel
theorem dX11_init_1104 : decode cX11_init 1104 = .ok (.bipush 10, 2) := by decide +kernel
theorem dX11_init_1106 : decode cX11_init 1106 = .ok (.newarray .int, 2) := by decide +kernel
theorem dX11_init_1108 : decode cX11_init 1108 = .ok (.putfield 119, 3) := by decide +kernel
theorem dX11_init_1111 : decode cX11_init 1111 = .ok (.aload_n 0, 1) := by decide +kernel
theorem dX11_init_1112 : decode cX11_init 1112 = .ok (.bipush 10, 2) := by decide +kernel
theorem dX11_init_1114 : decode cX11_init 1114 = .ok (.newarray .int, 2) := by decide +kernel
theorem dX11_init_1116 : decode cX11_init 1116 = .ok (.putfield 122, 3) := by decide +kernel
theorem dX11_init_1119 : decode cX11_init 1119 = .ok (.aload_n 0, 1) := by decide +kernel
theorem dX11_init_1120 : decode cX11_init 1120 = .ok (.ldc 125, 2) := by decide +kernel
theorem dX11_init_1122 : decode cX11_init 1122 = .ok (.newarray .int, 2) := by decide +kernel
theorem dX11_init_1124 : decode cX11_init 1124 = .ok (.putfield 126, 3) := by decide +kernel
theorem dX11_init_1127 : decode cX11_init 1127 = .ok (.aload_n 0, 1) := by decide +kernel
theorem dX11_init_1128 : decode cX11_init 1128 = .ok (.sipush 2400, 3) := by decide +kernel
theorem dX11_init_1131 : decode cX11_init 1131 = .ok (.newarray .int, 2) := by decide +kernel
theorem dX11_init_1133 : decode cX11_init 1133 = .ok (.putfield 129, 3) := by decide +kernel
theorem dX11_init_1136 : decode cX11_init 1136 = .ok (.return_, 1) := by decide +kernel
