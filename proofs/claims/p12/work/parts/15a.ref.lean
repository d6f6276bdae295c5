theorem dX8_init_0 : decode cX8_init 0 = .ok (.aload_n 0, 1) := by decide +kernel
theorem dX8_init_1 : decode cX8_init 1 = .ok (.invokespecial 1, 3) := by decide +kernel
theorem dX8_init_4 : decode cX8_init 4 = .ok (.aload_n 0, 1) := by decide +kernel
theorem dX8_init_5 : decode cX8_init 5 = .ok (.sipush 208, 3) := by decide +kernel
theorem dX8_init_8 : decode cX8_init 8 = .ok (.newarray .int, 2) := by decide +kernel
theorem dX8_init_10 : decode cX8_init 10 = .ok (.putfield 7, 3) := by decide +kernel
theorem dX8_init_13 : decode cX8_init 13 = .ok (.aload_n 0, 1) := by decide +kernel
theorem dX8_init_14 : decode cX8_init 14 = .ok (.sipush 208, 3) := by decide +kernel
theorem dX8_init_17 : decode cX8_init 17 = .ok (.newarray .int, 2) := by decide +kernel
theorem dX8_init_19 : decode cX8_init 19 = .ok (.putfield 13, 3) := by decide +kernel
theorem dX8_init_22 : decode cX8_init 22 = .ok (.aload_n 0, 1) := by decide +kernel
theorem dX8_init_23 : decode cX8_init 23 = .ok (.sipush 208, 3) := by decide +kernel
theorem dX8_init_26 : decode cX8_init 26 = .ok (.newarray .int, 2) := by decide +kernel
theorem dX8_init_28 : decode cX8_init 28 = .ok (.putfield 16, 3) := by decide +kernel
theorem dX8_init_31 : decode cX8_init 31 = .ok (.aload_n 0, 1) := by decide +kernel
theorem dX8_init_32 : decode cX8_init 32 = .ok (.sipush 1664, 3) := by decide +kernel
theorem dX8_init_35 : decode cX8_init 35 = .ok (.newarray .int, 2) := by decide +kernel
theorem dX8_init_37 : decode cX8_init 37 = .ok (.putfield 19, 3) := by decide +kernel
theorem dX8_init_40 : decode cX8_init 40 = .ok (.aload_n 0, 1) := by decide +kernel
theorem dX8_init_41 : decode cX8_init 41 = .ok (.bipush 20, 2) := by decide +kernel
theorem dX8_init_43 : decode cX8_init 43 = .ok (.newarray .int, 2) := by decide +kernel
theorem dX8_init_45 : decode cX8_init 45 = .ok (.putfield 22, 3) := by decide +kernel
theorem dX8_init_48 : decode cX8_init 48 = .ok (.aload_n 0, 1) := by decide +kernel
theorem dX8_init_49 : decode cX8_init 49 = .ok (.bipush 60, 2) := by decide +kernel
theorem dX8_init_51 : decode cX8_init 51 = .ok (.newarray .int, 2) := by decide +kernel
theorem dX8_init_53 : decode cX8_init 53 = .ok (.putfield 25, 3) := by decide +kernel
theorem dX8_init_56 : decode cX8_init 56 = .ok (.aload_n 0, 1) := by decide +kernel
theorem dX8_init_57 : decode cX8_init 57 = .ok (.iconst 4, 1) := by decide +kernel
theorem dX8_init_58 : decode cX8_init 58 = .ok (.newarray .int, 2) := by decide +kernel
theorem dX8_init_60 : decode cX8_init 60 = .ok (.putfield 28, 3) := by decide +kernel
theorem dX8_init_63 : decode cX8_init 63 = .ok (.aload_n 0, 1) := by decide +kernel
theorem dX8_init_64 : decode cX8_init 64 = .ok (.bipush 77, 2) := by decide +kernel
theorem dX8_init_66 : decode cX8_init 66 = .ok (.newarray .int, 2) := by decide +kernel
theorem dX8_init_68 : decode cX8_init 68 = .ok (.dup, 1) := by decide +kernel
theorem dX8_init_69 : decode cX8_init 69 = .ok (.iconst 0, 1) := by decide +kernel
theorem dX8_init_70 : decode cX8_init 70 = .ok (.bipush 108, 2) := by decide +kernel
theorem dX8_init_72 : decode cX8_init 72 = .ok (.iastore, 1) := by decide +kernel
theorem dX8_init_73 : decode cX8_init 73 = .ok (.dup, 1) := by decide +kernel
theorem dX8_init_74 : decode cX8_init 74 = .ok (.iconst 1, 1) := by decide +kernel
theorem dX8_init_75 : decode cX8_init 75 = .ok (.bipush 105, 2) := by decide +kernel
theorem dX8_init_77 : decode cX8_init 77 = .ok (.iastore, 1) := by decide +kernel
theorem dX8_init_78 : decode cX8_init 78 = .ok (.dup, 1) := by decide +kernel
theorem dX8_init_79 : decode cX8_init 79 = .ok (.iconst 2, 1) := by decide +kernel
theorem dX8_init_80 : decode cX8_init 80 = .ok (.bipush 110, 2) := by decide +kernel
theorem dX8_init_82 : decode cX8_init 82 = .ok (.iastore, 1) := by decide +kernel
theorem dX8_init_83 : decode cX8_init 83 = .ok (.dup, 1) := by decide +kernel
theorem dX8_init_84 : decode cX8_init 84 = .ok (.iconst 3, 1) := by decide +kernel
theorem dX8_init_85 : decode cX8_init 85 = .ok (.bipush 101, 2) := by decide +kernel
theorem dX8_init_87 : decode cX8_init 87 = .ok (.iastore, 1) := by decide +kernel
theorem dX8_init_88 : decode cX8_init 88 = .ok (.dup, 1) := by decide +kernel
theorem dX8_init_89 : decode cX8_init 89 = .ok (.iconst 4, 1) := by decide +kernel
theorem dX8_init_90 : decode cX8_init 90 = .ok (.bipush 32, 2) := by decide +kernel
theorem dX8_init_92 : decode cX8_init 92 = .ok (.iastore, 1) := by decide +kernel
theorem dX8_init_93 : decode cX8_init 93 = .ok (.dup, 1) := by decide +kernel
theorem dX8_init_94 : decode cX8_init 94 = .ok (.iconst 5, 1) := by decide +kernel
theorem dX8_init_95 : decode cX8_init 95 = .ok (.iconst 0, 1) := by decide +kernel
theorem dX8_init_96 : decode cX8_init 96 = .ok (.iastore, 1) := by decide +kernel
theorem dX8_init_97 : decode cX8_init 97 = .ok (.dup, 1) := by decide +kernel
theorem dX8_init_98 : decode cX8_init 98 = .ok (.bipush 6, 2) := by decide +kernel
theorem dX8_init_100 : decode cX8_init 100 = .ok (.iconst 0, 1) := by decide +kernel
theorem dX8_init_101 : decode cX8_init 101 = .ok (.iastore, 1) := by decide +kernel
theorem dX8_init_102 : decode cX8_init 102 = .ok (.dup, 1) := by decide +kernel
theorem dX8_init_103 : decode cX8_init 103 = .ok (.bipush 7, 2) := by decide +kernel
theorem dX8_init_105 : decode cX8_init 105 = .ok (.bipush 102, 2) := by decide +kernel
theorem dX8_init_107 : decode cX8_init 107 = .ok (.iastore, 1) := by decide +kernel
theorem dX8_init_108 : decode cX8_init 108 = .ok (.dup, 1) := by decide +kernel
theorem dX8_init_109 : decode cX8_init 109 = .ok (.bipush 8, 2) := by decide +kernel
theorem dX8_init_111 : decode cX8_init 111 = .ok (.bipush 105, 2) := by decide +kernel
theorem dX8_init_113 : decode cX8_init 113 = .ok (.iastore, 1) := by decide +kernel
theorem dX8_init_114 : decode cX8_init 114 = .ok (.dup, 1) := by decide +kernel
theorem dX8_init_115 : decode cX8_init 115 = .ok (.bipush 9, 2) := by decide +kernel
theorem dX8_init_117 : decode cX8_init 117 = .ok (.bipush 108, 2) := by decide +kernel
theorem dX8_init_119 : decode cX8_init 119 = .ok (.iastore, 1) := by decide +kernel
theorem dX8_init_120 : decode cX8_init 120 = .ok (.dup, 1) := by decide +kernel
theorem dX8_init_121 : decode cX8_init 121 = .ok (.bipush 10, 2) := by decide +kernel
theorem dX8_init_123 : decode cX8_init 123 = .ok (.bipush 108, 2) := by decide +kernel
theorem dX8_init_125 : decode cX8_init 125 = .ok (.iastore, 1) := by decide +kernel
theorem dX8_init_126 : decode cX8_init 126 = .ok (.dup, 1) := by decide +kernel
theorem dX8_init_127 : decode cX8_init 127 = .ok (.bipush 11, 2) := by decide +kernel
theorem dX8_init_129 : decode cX8_init 129 = .ok (.bipush 32, 2) := by decide +kernel
theorem dX8_init_131 : decode cX8_init 131 = .ok (.iastore, 1) := by decide +kernel
theorem dX8_init_132 : decode cX8_init 132 = .ok (.dup, 1) := by decide +kernel
theorem dX8_init_133 : decode cX8_init 133 = .ok (.bipush 12, 2) := by decide +kernel
theorem dX8_init_135 : decode cX8_init 135 = .ok (.iconst 0, 1) := by decide +kernel
theorem dX8_init_136 : decode cX8_init 136 = .ok (.iastore, 1) := by decide +kernel
theorem dX8_init_137 : decode cX8_init 137 = .ok (.dup, 1) := by decide +kernel
theorem dX8_init_138 : decode cX8_init 138 = .ok (.bipush 13, 2) := by decide +kernel
theorem dX8_init_140 : decode cX8_init 140 = .ok (.iconst 0, 1) := by decide +kernel
theorem dX8_init_141 : decode cX8_init 141 = .ok (.iastore, 1) := by decide +kernel
theorem dX8_init_142 : decode cX8_init 142 = .ok (.dup, 1) := by decide +kernel
theorem dX8_init_143 : decode cX8_init 143 = .ok (.bipush 14, 2) := by decide +kernel
theorem dX8_init_145 : decode cX8_init 145 = .ok (.bipush 115, 2) := by decide +kernel
theorem dX8_init_147 : decode cX8_init 147 = .ok (.iastore, 1) := by decide +kernel
theorem dX8_init_148 : decode cX8_init 148 = .ok (.dup, 1) := by decide +kernel
theorem dX8_init_149 : decode cX8_init 149 = .ok (.bipush 15, 2) := by decide +kernel
theorem dX8_init_151 : decode cX8_init 151 = .ok (.bipush 99, 2) := by decide +kernel
theorem dX8_init_153 : decode cX8_init 153 = .ok (.iastore, 1) := by decide +kernel
theorem dX8_init_154 : decode cX8_init 154 = .ok (.dup, 1) := by decide +kernel
theorem dX8_init_155 : decode cX8_init 155 = .ok (.bipush 16, 2) := by decide +kernel
theorem dX8_init_157 : decode cX8_init 157 = .ok (.bipush 114, 2) := by decide +kernel
theorem dX8_init_159 : decode cX8_init 159 = .ok (.iastore, 1) := by decide +kernel
theorem dX8_init_160 : decode cX8_init 160 = .ok (.dup, 1) := by decide +kernel
theorem dX8_init_161 : decode cX8_init 161 = .ok (.bipush 17, 2) := by decide +kernel
theorem dX8_init_163 : decode cX8_init 163 = .ok (.bipush 101, 2) := by decide +kernel
theorem dX8_init_165 : decode cX8_init 165 = .ok (.iastore, 1) := by decide +kernel
theorem dX8_init_166 : decode cX8_init 166 = .ok (.dup, 1) := by decide +kernel
theorem dX8_init_167 : decode cX8_init 167 = .ok (.bipush 18, 2) := by decide +kernel
theorem dX8_init_169 : decode cX8_init 169 = .ok (.bipush 119, 2) := by decide +kernel
theorem dX8_init_171 : decode cX8_init 171 = .ok (.iastore, 1) := by decide +kernel
theorem dX8_init_172 : decode cX8_init 172 = .ok (.dup, 1) := by decide +kernel
theorem dX8_init_173 : decode cX8_init 173 = .ok (.bipush 19, 2) := by decide +kernel
theorem dX8_init_175 : decode cX8_init 175 = .ok (.bipush 32, 2) := by decide +kernel
theorem dX8_init_177 : decode cX8_init 177 = .ok (.iastore, 1) := by decide +kernel
theorem dX8_init_178 : decode cX8_init 178 = .ok (.dup, 1) := by decide +kernel
theorem dX8_init_179 : decode cX8_init 179 = .ok (.bipush 20, 2) := by decide +kernel
theorem dX8_init_181 : decode cX8_init 181 = .ok (.iconst 0, 1) := by decide +kernel
theorem dX8_init_182 : decode cX8_init 182 = .ok (.iastore, 1) := by decide +kernel
theorem dX8_init_183 : decode cX8_init 183 = .ok (.dup, 1) := by decide +kernel
theorem dX8_init_184 : decode cX8_init 184 = .ok (.bipush 21, 2) := by decide +kernel
theorem dX8_init_186 : decode cX8_init 186 = .ok (.bipush 108, 2) := by decide +kernel
theorem dX8_init_188 : decode cX8_init 188 = .ok (.iastore, 1) := by decide +kernel
theorem dX8_init_189 : decode cX8_init 189 = .ok (.dup, 1) := by decide +kernel
theorem dX8_init_190 : decode cX8_init 190 = .ok (.bipush 22, 2) := by decide +kernel
theorem dX8_init_192 : decode cX8_init 192 = .ok (.bipush 97, 2) := by decide +kernel
theorem dX8_init_194 : decode cX8_init 194 = .ok (.iastore, 1) := by decide +kernel
theorem dX8_init_195 : decode cX8_init 195 = .ok (.dup, 1) := by decide +kernel
theorem dX8_init_196 : decode cX8_init 196 = .ok (.bipush 23, 2) := by decide +kernel
theorem dX8_init_198 : decode cX8_init 198 = .ok (.bipush 98, 2) := by decide +kernel
theorem dX8_init_200 : decode cX8_init 200 = .ok (.iastore, 1) := by decide +kernel
theorem dX8_init_201 : decode cX8_init 201 = .ok (.dup, 1) := by decide +kernel
theorem dX8_init_202 : decode cX8_init 202 = .ok (.bipush 24, 2) := by decide +kernel
theorem dX8_init_204 : decode cX8_init 204 = .ok (.bipush 101, 2) := by decide +kernel
theorem dX8_init_206 : decode cX8_init 206 = .ok (.iastore, 1) := by decide +kernel
theorem dX8_init_207 : decode cX8_init 207 = .ok (.dup, 1) := by decide +kernel
theorem dX8_init_208 : decode cX8_init 208 = .ok (.bipush 25, 2) := by decide +kernel
theorem dX8_init_210 : decode cX8_init 210 = .ok (.bipush 108, 2) := by decide +kernel
theorem dX8_init_212 : decode cX8_init 212 = .ok (.iastore, 1) := by decide +kernel
theorem dX8_init_213 : decode cX8_init 213 = .ok (.dup, 1) := by decide +kernel
theorem dX8_init_214 : decode cX8_init 214 = .ok (.bipush 26, 2) := by decide +kernel
theorem dX8_init_216 : decode cX8_init 216 = .ok (.bipush 32, 2) := by decide +kernel
theorem dX8_init_218 : decode cX8_init 218 = .ok (.iastore, 1) := by decide +kernel
theorem dX8_init_219 : decode cX8_init 219 = .ok (.dup, 1) := by decide +kernel
theorem dX8_init_220 : decode cX8_init 220 = .ok (.bipush 27, 2) := by decide +kernel
theorem dX8_init_222 : decode cX8_init 222 = .ok (.iconst 0, 1) := by decide +kernel
theorem dX8_init_223 : decode cX8_init 223 = .ok (.iastore, 1) := by decide +kernel
theorem dX8_init_224 : decode cX8_init 224 = .ok (.dup, 1) := by decide +kernel
theorem dX8_init_225 : decode cX8_init 225 = .ok (.bipush 28, 2) := by decide +kernel
theorem dX8_init_227 : decode cX8_init 227 = .ok (.bipush 113, 2) := by decide +kernel
theorem dX8_init_229 : decode cX8_init 229 = .ok (.iastore, 1) := by decide +kernel
theorem dX8_init_230 : decode cX8_init 230 = .ok (.dup, 1) := by decide +kernel
theorem dX8_init_231 : decode cX8_init 231 = .ok (.bipush 29, 2) := by decide +kernel
theorem dX8_init_233 : decode cX8_init 233 = .ok (.bipush 117, 2) := by decide +kernel
theorem dX8_init_235 : decode cX8_init 235 = .ok (.iastore, 1) := by decide +kernel
theorem dX8_init_236 : decode cX8_init 236 = .ok (.dup, 1) := by decide +kernel
theorem dX8_init_237 : decode cX8_init 237 = .ok (.bipush 30, 2) := by decide +kernel
theorem dX8_init_239 : decode cX8_init 239 = .ok (.bipush 97, 2) := by decide +kernel
theorem dX8_init_241 : decode cX8_init 241 = .ok (.iastore, 1) := by decide +kernel
theorem dX8_init_242 : decode cX8_init 242 = .ok (.dup, 1) := by decide +kernel
theorem dX8_init_243 : decode cX8_init 243 = .ok (.bipush 31, 2) := by decide +kernel
theorem dX8_init_245 : decode cX8_init 245 = .ok (.bipush 121, 2) := by decide +kernel
theorem dX8_init_247 : decode cX8_init 247 = .ok (.iastore, 1) := by decide +kernel
theorem dX8_init_248 : decode cX8_init 248 = .ok (.dup, 1) := by decide +kernel
theorem dX8_init_249 : decode cX8_init 249 = .ok (.bipush 32, 2) := by decide +kernel
theorem dX8_init_251 : decode cX8_init 251 = .ok (.bipush 32, 2) := by decide +kernel
theorem dX8_init_253 : decode cX8_init 253 = .ok (.iastore, 1) := by decide +kernel
theorem dX8_init_254 : decode cX8_init 254 = .ok (.dup, 1) := by decide +kernel
theorem dX8_init_255 : decode cX8_init 255 = .ok (.bipush 33, 2) := by decide +kernel
theorem dX8_init_257 : decode cX8_init 257 = .ok (.iconst 0, 1) := by decide +kernel
theorem dX8_init_258 : decode cX8_init 258 = .ok (.iastore, 1) := by decide +kernel
theorem dX8_init_259 : decode cX8_init 259 = .ok (.dup, 1) := by decide +kernel
theorem dX8_init_260 : decode cX8_init 260 = .ok (.bipush 34, 2) := by decide +kernel
theorem dX8_init_262 : decode cX8_init 262 = .ok (.iconst 0, 1) := by decide +kernel
theorem dX8_init_263 : decode cX8_init 263 = .ok (.iastore, 1) := by decide +kernel
theorem dX8_init_264 : decode cX8_init 264 = .ok (.dup, 1) := by decide +kernel
theorem dX8_init_265 : decode cX8_init 265 = .ok (.bipush 35, 2) := by decide +kernel
theorem dX8_init_267 : decode cX8_init 267 = .ok (.bipush 108, 2) := by decide +kernel
theorem dX8_init_269 : decode cX8_init 269 = .ok (.iastore, 1) := by decide +kernel
theorem dX8_init_270 : decode cX8_init 270 = .ok (.dup, 1) := by decide +kernel
theorem dX8_init_271 : decode cX8_init 271 = .ok (.bipush 36, 2) := by decide +kernel
theorem dX8_init_273 : decode cX8_init 273 = .ok (.bipush 111, 2) := by decide +kernel
theorem dX8_init_275 : decode cX8_init 275 = .ok (.iastore, 1) := by decide +kernel
theorem dX8_init_276 : decode cX8_init 276 = .ok (.dup, 1) := by decide +kernel
theorem dX8_init_277 : decode cX8_init 277 = .ok (.bipush 37, 2) := by decide +kernel
theorem dX8_init_279 : decode cX8_init 279 = .ok (.bipush 97, 2) := by decide +kernel
theorem dX8_init_281 : decode cX8_init 281 = .ok (.iastore, 1) := by decide +kernel
theorem dX8_init_282 : decode cX8_init 282 = .ok (.dup, 1) := by decide +kernel
theorem dX8_init_283 : decode cX8_init 283 = .ok (.bipush 38, 2) := by decide +kernel
theorem dX8_init_285 : decode cX8_init 285 = .ok (.bipush 100, 2) := by decide +kernel
theorem dX8_init_287 : decode cX8_init 287 = .ok (.iastore, 1) := by decide +kernel
theorem dX8_init_288 : decode cX8_init 288 = .ok (.dup, 1) := by decide +kernel
theorem dX8_init_289 : decode cX8_init 289 = .ok (.bipush 39, 2) := by decide +kernel
theorem dX8_init_291 : decode cX8_init 291 = .ok (.bipush 32, 2) := by decide +kernel
theorem dX8_init_293 : decode cX8_init 293 = .ok (.iastore, 1) := by decide +kernel
theorem dX8_init_294 : decode cX8_init 294 = .ok (.dup, 1) := by decide +kernel
theorem dX8_init_295 : decode cX8_init 295 = .ok (.bipush 40, 2) := by decide +kernel
theorem dX8_init_297 : decode cX8_init 297 = .ok (.iconst 0, 1) := by decide +kernel
theorem dX8_init_298 : decode cX8_init 298 = .ok (.iastore, 1) := by decide +kernel
theorem dX8_init_299 : decode cX8_init 299 = .ok (.dup, 1) := by decide +kernel
theorem dX8_init_300 : decode cX8_init 300 = .ok (.bipush 41, 2) := by decide +kernel
theorem dX8_init_302 : decode cX8_init 302 = .ok (.iconst 0, 1) := by decide +kernel
theorem dX8_init_303 : decode cX8_init 303 = .ok (.iastore, 1) := by decide +kernel
theorem dX8_init_304 : decode cX8_init 304 = .ok (.dup, 1) := by decide +kernel
theorem dX8_init_305 : decode cX8_init 305 = .ok (.bipush 42, 2) := by decide +kernel
theorem dX8_init_307 : decode cX8_init 307 = .ok (.bipush 115, 2) := by decide +kernel
theorem dX8_init_309 : decode cX8_init 309 = .ok (.iastore, 1) := by decide +kernel
theorem dX8_init_310 : decode cX8_init 310 = .ok (.dup, 1) := by decide +kernel
theorem dX8_init_311 : decode cX8_init 311 = .ok (.bipush 43, 2) := by decide +kernel
theorem dX8_init_313 : decode cX8_init 313 = .ok (.bipush 97, 2) := by decide +kernel
theorem dX8_init_315 : decode cX8_init 315 = .ok (.iastore, 1) := by decide +kernel
theorem dX8_init_316 : decode cX8_init 316 = .ok (.dup, 1) := by decide +kernel
theorem dX8_init_317 : decode cX8_init 317 = .ok (.bipush 44, 2) := by decide +kernel
theorem dX8_init_319 : decode cX8_init 319 = .ok (.bipush 105, 2) := by decide +kernel
theorem dX8_init_321 : decode cX8_init 321 = .ok (.iastore, 1) := by decide +kernel
theorem dX8_init_322 : decode cX8_init 322 = .ok (.dup, 1) := by decide +kernel
theorem dX8_init_323 : decode cX8_init 323 = .ok (.bipush 45, 2) := by decide +kernel
theorem dX8_init_325 : decode cX8_init 325 = .ok (.bipush 108, 2) := by decide +kernel
theorem dX8_init_327 : decode cX8_init 327 = .ok (.iastore, 1) := by decide +kernel
theorem dX8_init_328 : decode cX8_init 328 = .ok (.dup, 1) := by decide +kernel
theorem dX8_init_329 : decode cX8_init 329 = .ok (.bipush 46, 2) := by decide +kernel
theorem dX8_init_331 : decode cX8_init 331 = .ok (.iconst 0, 1) := by decide +kernel
theorem dX8_init_332 : decode cX8_init 332 = .ok (.iastore, 1) := by decide +kernel
theorem dX8_init_333 : decode cX8_init 333 = .ok (.dup, 1) := by decide +kernel
theorem dX8_init_334 : decode cX8_init 334 = .ok (.bipush 47, 2) := by decide +kernel
theorem dX8_init_336 : decode cX8_init 336 = .ok (.iconst 0, 1) := by decide +kernel
theorem dX8_init_337 : decode cX8_init 337 = .ok (.iastore, 1) := by decide +kernel
theorem dX8_init_338 : decode cX8_init 338 = .ok (.dup, 1) := by decide +kernel
theorem dX8_init_339 : decode cX8_init 339 = .ok (.bipush 48, 2) := by decide +kernel
theorem dX8_init_341 : decode cX8_init 341 = .ok (.iconst 0, 1) := by decide +kernel
theorem dX8_init_342 : decode cX8_init 342 = .ok (.iastore, 1) := by decide +kernel
theorem dX8_init_343 : decode cX8_init 343 = .ok (.dup, 1) := by decide +kernel
theorem dX8_init_344 : decode cX8_init 344 = .ok (.bipush 49, 2) := by decide +kernel
theorem dX8_init_346 : decode cX8_init 346 = .ok (.bipush 104, 2) := by decide +kernel
theorem dX8_init_348 : decode cX8_init 348 = .ok (.iastore, 1) := by decide +kernel
theorem dX8_init_349 : decode cX8_init 349 = .ok (.dup, 1) := by decide +kernel
theorem dX8_init_350 : decode cX8_init 350 = .ok (.bipush 50, 2) := by decide +kernel
theorem dX8_init_352 : decode cX8_init 352 = .ok (.bipush 111, 2) := by decide +kernel
theorem dX8_init_354 : decode cX8_init 354 = .ok (.iastore, 1) := by decide +kernel
theorem dX8_init_355 : decode cX8_init 355 = .ok (.dup, 1) := by decide +kernel
theorem dX8_init_356 : decode cX8_init 356 = .ok (.bipush 51, 2) := by decide +kernel
theorem dX8_init_358 : decode cX8_init 358 = .ok (.bipush 117, 2) := by decide +kernel
theorem dX8_init_360 : decode cX8_init 360 = .ok (.iastore, 1) := by decide +kernel
theorem dX8_init_361 : decode cX8_init 361 = .ok (.dup, 1) := by decide +kernel
theorem dX8_init_362 : decode cX8_init 362 = .ok (.bipush 52, 2) := by decide +kernel
theorem dX8_init_364 : decode cX8_init 364 = .ok (.bipush 114, 2) := by decide +kernel
theorem dX8_init_366 : decode cX8_init 366 = .ok (.iastore, 1) := by decide +kernel
theorem dX8_init_367 : decode cX8_init 367 = .ok (.dup, 1) := by decide +kernel
theorem dX8_init_368 : decode cX8_init 368 = .ok (.bipush 53, 2) := by decide +kernel
theorem dX8_init_370 : decode cX8_init 370 = .ok (.bipush 115, 2) := by decide +kernel
theorem dX8_init_372 : decode cX8_init 372 = .ok (.iastore, 1) := by decide +kernel
theorem dX8_init_373 : decode cX8_init 373 = .ok (.dup, 1) := by decide +kernel
theorem dX8_init_374 : decode cX8_init 374 = .ok (.bipush 54, 2) := by decide +kernel
theorem dX8_init_376 : decode cX8_init 376 = .ok (.bipush 32, 2) := by decide +kernel
theorem dX8_init_378 : decode cX8_init 378 = .ok (.iastore, 1) := by decide +kernel
theorem dX8_init_379 : decode cX8_init 379 = .ok (.dup, 1) := by decide +kernel
theorem dX8_init_380 : decode cX8_init 380 = .ok (.bipush 55, 2) := by decide +kernel
theorem dX8_init_382 : decode cX8_init 382 = .ok (.iconst 0, 1) := by decide +kernel
theorem dX8_init_383 : decode cX8_init 383 = .ok (.iastore, 1) := by decide +kernel
theorem dX8_init_384 : decode cX8_init 384 = .ok (.dup, 1) := by decide +kernel
theorem dX8_init_385 : decode cX8_init 385 = .ok (.bipush 56, 2) := by decide +kernel
theorem dX8_init_387 : decode cX8_init 387 = .ok (.bipush 100, 2) := by decide +kernel
theorem dX8_init_389 : decode cX8_init 389 = .ok (.iastore, 1) := by decide +kernel
theorem dX8_init_390 : decode cX8_init 390 = .ok (.dup, 1) := by decide +kernel
theorem dX8_init_391 : decode cX8_init 391 = .ok (.bipush 57, 2) := by decide +kernel
theorem dX8_init_393 : decode cX8_init 393 = .ok (.bipush 117, 2) := by decide +kernel
theorem dX8_init_395 : decode cX8_init 395 = .ok (.iastore, 1) := by decide +kernel
theorem dX8_init_396 : decode cX8_init 396 = .ok (.dup, 1) := by decide +kernel
theorem dX8_init_397 : decode cX8_init 397 = .ok (.bipush 58, 2) := by decide +kernel
theorem dX8_init_399 : decode cX8_init 399 = .ok (.bipush 115, 2) := by decide +kernel
theorem dX8_init_401 : decode cX8_init 401 = .ok (.iastore, 1) := by decide +kernel
theorem dX8_init_402 : decode cX8_init 402 = .ok (.dup, 1) := by decide +kernel
theorem dX8_init_403 : decode cX8_init 403 = .ok (.bipush 59, 2) := by decide +kernel
theorem dX8_init_405 : decode cX8_init 405 = .ok (.bipush 116, 2) := by decide +kernel
theorem dX8_init_407 : decode cX8_init 407 = .ok (.iastore, 1) := by decide +kernel
theorem dX8_init_408 : decode cX8_init 408 = .ok (.dup, 1) := by decide +kernel
theorem dX8_init_409 : decode cX8_init 409 = .ok (.bipush 60, 2) := by decide +kernel
theorem dX8_init_411 : decode cX8_init 411 = .ok (.iconst 0, 1) := by decide +kernel
theorem dX8_init_412 : decode cX8_init 412 = .ok (.iastore, 1) := by decide +kernel
theorem dX8_init_413 : decode cX8_init 413 = .ok (.dup, 1) := by decide +kernel
theorem dX8_init_414 : decode cX8_init 414 = .ok (.bipush 61, 2) := by decide +kernel
theorem dX8_init_416 : decode cX8_init 416 = .ok (.iconst 0, 1) := by decide +kernel
theorem dX8_init_417 : decode cX8_init 417 = .ok (.iastore, 1) := by decide +kernel
theorem dX8_init_418 : decode cX8_init 418 = .ok (.dup, 1) := by decide +kernel
theorem dX8_init_419 : decode cX8_init 419 = .ok (.bipush 62, 2) := by decide +kernel
theorem dX8_init_421 : decode cX8_init 421 = .ok (.iconst 0, 1) := by decide +kernel
theorem dX8_init_422 : decode cX8_init 422 = .ok (.iastore, 1) := by decide +kernel
theorem dX8_init_423 : decode cX8_init 423 = .ok (.dup, 1) := by decide +kernel
theorem dX8_init_424 : decode cX8_init 424 = .ok (.bipush 63, 2) := by decide +kernel
theorem dX8_init_426 : decode cX8_init 426 = .ok (.bipush 98, 2) := by decide +kernel
theorem dX8_init_428 : decode cX8_init 428 = .ok (.iastore, 1) := by decide +kernel
theorem dX8_init_429 : decode cX8_init 429 = .ok (.dup, 1) := by decide +kernel
theorem dX8_init_430 : decode cX8_init 430 = .ok (.bipush 64, 2) := by decide +kernel
theorem dX8_init_432 : decode cX8_init 432 = .ok (.bipush 114, 2) := by decide +kernel
theorem dX8_init_434 : decode cX8_init 434 = .ok (.iastore, 1) := by decide +kernel
theorem dX8_init_435 : decode cX8_init 435 = .ok (.dup, 1) := by decide +kernel
theorem dX8_init_436 : decode cX8_init 436 = .ok (.bipush 65, 2) := by decide +kernel
theorem dX8_init_438 : decode cX8_init 438 = .ok (.bipush 111, 2) := by decide +kernel
theorem dX8_init_440 : decode cX8_init 440 = .ok (.iastore, 1) := by decide +kernel
theorem dX8_init_441 : decode cX8_init 441 = .ok (.dup, 1) := by decide +kernel
theorem dX8_init_442 : decode cX8_init 442 = .ok (.bipush 66, 2) := by decide +kernel
theorem dX8_init_444 : decode cX8_init 444 = .ok (.bipush 107, 2) := by decide +kernel
theorem dX8_init_446 : decode cX8_init 446 = .ok (.iastore, 1) := by decide +kernel
theorem dX8_init_447 : decode cX8_init 447 = .ok (.dup, 1) := by decide +kernel
theorem dX8_init_448 : decode cX8_init 448 = .ok (.bipush 67, 2) := by decide +kernel
theorem dX8_init_450 : decode cX8_init 450 = .ok (.bipush 101, 2) := by decide +kernel
theorem dX8_init_452 : decode cX8_init 452 = .ok (.iastore, 1) := by decide +kernel
theorem dX8_init_453 : decode cX8_init 453 = .ok (.dup, 1) := by decide +kernel
theorem dX8_init_454 : decode cX8_init 454 = .ok (.bipush 68, 2) := by decide +kernel
theorem dX8_init_456 : decode cX8_init 456 = .ok (.bipush 110, 2) := by decide +kernel
theorem dX8_init_458 : decode cX8_init 458 = .ok (.iastore, 1) := by decide +kernel
theorem dX8_init_459 : decode cX8_init 459 = .ok (.dup, 1) := by decide +kernel
theorem dX8_init_460 : decode cX8_init 460 = .ok (.bipush 69, 2) := by decide +kernel
theorem dX8_init_462 : decode cX8_init 462 = .ok (.iconst 0, 1) := by decide +kernel
theorem dX8_init_463 : decode cX8_init 463 = .ok (.iastore, 1) := by decide +kernel
theorem dX8_init_464 : decode cX8_init 464 = .ok (.dup, 1) := by decide +kernel
theorem dX8_init_465 : decode cX8_init 465 = .ok (.bipush 70, 2) := by decide +kernel
theorem dX8_init_467 : decode cX8_init 467 = .ok (.bipush 116, 2) := by decide +kernel
theorem dX8_init_469 : decode cX8_init 469 = .ok (.iastore, 1) := by decide +kernel
theorem dX8_init_470 : decode cX8_init 470 = .ok (.dup, 1) := by decide +kernel
theorem dX8_init_471 : decode cX8_init 471 = .ok (.bipush 71, 2) := by decide +kernel
theorem dX8_init_473 : decode cX8_init 473 = .ok (.bipush 105, 2) := by decide +kernel
theorem dX8_init_475 : decode cX8_init 475 = .ok (.iastore, 1) := by decide +kernel
theorem dX8_init_476 : decode cX8_init 476 = .ok (.dup, 1) := by decide +kernel
theorem dX8_init_477 : decode cX8_init 477 = .ok (.bipush 72, 2) := by decide +kernel
theorem dX8_init_479 : decode cX8_init 479 = .ok (.bipush 112, 2) := by decide +kernel
theorem dX8_init_481 : decode cX8_init 481 = .ok (.iastore, 1) := by decide +kernel
theorem dX8_init_482 : decode cX8_init 482 = .ok (.dup, 1) := by decide +kernel
theorem dX8_init_483 : decode cX8_init 483 = .ok (.bipush 73, 2) := by decide +kernel
theorem dX8_init_485 : decode cX8_init 485 = .ok (.bipush 115, 2) := by decide +kernel
theorem dX8_init_487 : decode cX8_init 487 = .ok (.iastore, 1) := by decide +kernel
theorem dX8_init_488 : decode cX8_init 488 = .ok (.dup, 1) := by decide +kernel
theorem dX8_init_489 : decode cX8_init 489 = .ok (.bipush 74, 2) := by decide +kernel
theorem dX8_init_491 : decode cX8_init 491 = .ok (.iconst 0, 1) := by decide +kernel
theorem dX8_init_492 : decode cX8_init 492 = .ok (.iastore, 1) := by decide +kernel
theorem dX8_init_493 : decode cX8_init 493 = .ok (.dup, 1) := by decide +kernel
theorem dX8_init_494 : decode cX8_init 494 = .ok (.bipush 75, 2) := by decide +kernel
theorem dX8_init_496 : decode cX8_init 496 = .ok (.iconst 0, 1) := by decide +kernel
theorem dX8_init_497 : decode cX8_init 497 = .ok (.iastore, 1) := by decide +kernel
theorem dX8_init_498 : decode cX8_init 498 = .ok (.dup, 1) := by decide +kernel
theorem dX8_init_499 : decode cX8_init 499 = .ok (.bipush 76, 2) := by decide +kernel
theorem dX8_init_501 : decode cX8_init 501 = .ok (.iconst 0, 1) := by decide +kernel
theorem dX8_init_502 : decode cX8_init 502 = .ok (.iastore, 1) := by decide +kernel
theorem dX8_init_503 : decode cX8_init 503 = .ok (.putfield 31, 3) := by decide +kernel
theorem dX8_init_506 : decode cX8_init 506 = .ok (.aload_n 0, 1) := by decide +kernel
theorem dX8_init_507 : decode cX8_init 507 = .ok (.getfield 7, 3) := by decide +kernel
theorem dX8_init_510 : decode cX8_init 510 = .ok (.iconst 1, 1) := by decide +kernel
theorem dX8_init_511 : decode cX8_init 511 = .ok (.bipush 10, 2) := by decide +kernel
theorem dX8_init_513 : decode cX8_init 513 = .ok (.iastore, 1) := by decide +kernel
theorem dX8_init_514 : decode cX8_init 514 = .ok (.aload_n 0, 1) := by decide +kernel
theorem dX8_init_515 : decode cX8_init 515 = .ok (.getfield 7, 3) := by decide +kernel
theorem dX8_init_518 : decode cX8_init 518 = .ok (.iconst 2, 1) := by decide +kernel
theorem dX8_init_519 : decode cX8_init 519 = .ok (.bipush 20, 2) := by decide +kernel
theorem dX8_init_521 : decode cX8_init 521 = .ok (.iastore, 1) := by decide +kernel
theorem dX8_init_522 : decode cX8_init 522 = .ok (.aload_n 0, 1) := by decide +kernel
theorem dX8_init_523 : decode cX8_init 523 = .ok (.getfield 7, 3) := by decide +kernel
theorem dX8_init_526 : decode cX8_init 526 = .ok (.iconst 5, 1) := by decide +kernel
theorem dX8_init_527 : decode cX8_init 527 = .ok (.iconst 4, 1) := by decide +kernel
theorem dX8_init_528 : decode cX8_init 528 = .ok (.iastore, 1) := by decide +kernel
theorem dX8_init_529 : decode cX8_init 529 = .ok (.return_, 1) := by decide +kernel
theorem dX8_thrown_0 : decode cX8_thrown 0 = .ok (.aload_n 0, 1) := by decide +kernel
theorem dX8_thrown_1 : decode cX8_thrown 1 = .ok (.getfield 34, 3) := by decide +kernel
theorem dX8_thrown_4 : decode cX8_thrown 4 = .ok (.ireturn, 1) := by decide +kernel
theorem dX8_no_0 : decode cX8_no 0 = .ok (.aload_n 0, 1) := by decide +kernel
theorem dX8_no_1 : decode cX8_no 1 = .ok (.iload_n 1, 1) := by decide +kernel
theorem dX8_no_2 : decode cX8_no 2 = .ok (.putfield 34, 3) := by decide +kernel
theorem dX8_no_5 : decode cX8_no 5 = .ok (.iconst 0, 1) := by decide +kernel
theorem dX8_no_6 : decode cX8_no 6 = .ok (.ireturn, 1) := by decide +kernel
theorem dX8_fail_0 : decode cX8_fail 0 = .ok (.aload_n 0, 1) := by decide +kernel
theorem dX8_fail_1 : decode cX8_fail 1 = .ok (.iload_n 1, 1) := by decide +kernel
theorem dX8_fail_2 : decode cX8_fail 2 = .ok (.putfield 38, 3) := by decide +kernel
theorem dX8_fail_5 : decode cX8_fail 5 = .ok (.iconst 0, 1) := by decide +kernel
theorem dX8_fail_6 : decode cX8_fail 6 = .ok (.ireturn, 1) := by decide +kernel
theorem dX8_refuses_0 : decode cX8_refuses 0 = .ok (.aload_n 0, 1) := by decide +kernel
theorem dX8_refuses_1 : decode cX8_refuses 1 = .ok (.iload_n 1, 1) := by decide +kernel
theorem dX8_refuses_2 : decode cX8_refuses 2 = .ok (.putfield 41, 3) := by decide +kernel
theorem dX8_refuses_5 : decode cX8_refuses 5 = .ok (.aload_n 0, 1) := by decide +kernel
theorem dX8_refuses_6 : decode cX8_refuses 6 = .ok (.iload_n 2, 1) := by decide +kernel
theorem dX8_refuses_7 : decode cX8_refuses 7 = .ok (.putfield 44, 3) := by decide +kernel
theorem dX8_refuses_10 : decode cX8_refuses 10 = .ok (.aload_n 0, 1) := by decide +kernel
theorem dX8_refuses_11 : decode cX8_refuses 11 = .ok (.iconst 3, 1) := by decide +kernel
theorem dX8_refuses_12 : decode cX8_refuses 12 = .ok (.invokevirtual 47, 3) := by decide +kernel
theorem dX8_refuses_15 : decode cX8_refuses 15 = .ok (.ireturn, 1) := by decide +kernel
theorem dX8_isIn_0 : decode cX8_isIn 0 = .ok (.iload_n 0, 1) := by decide +kernel
theorem dX8_isIn_1 : decode cX8_isIn 1 = .ok (.iload_n 1, 1) := by decide +kernel
theorem dX8_isIn_2 : decode cX8_isIn 2 = .ok (.if_icmp .lt 12, 3) := by decide +kernel
theorem dX8_isIn_5 : decode cX8_isIn 5 = .ok (.iload_n 0, 1) := by decide +kernel
theorem dX8_isIn_6 : decode cX8_isIn 6 = .ok (.iload_n 2, 1) := by decide +kernel
theorem dX8_isIn_7 : decode cX8_isIn 7 = .ok (.if_icmp .gt 7, 3) := by decide +kernel
theorem dX8_isIn_10 : decode cX8_isIn 10 = .ok (.iconst 1, 1) := by decide +kernel
theorem dX8_isIn_11 : decode cX8_isIn 11 = .ok (.goto 4, 3) := by decide +kernel
theorem dX8_isIn_14 : decode cX8_isIn 14 = .ok (.iconst 0, 1) := by decide +kernel
theorem dX8_isIn_15 : decode cX8_isIn 15 = .ok (.ireturn, 1) := by decide +kernel
theorem dX8_lesser_0 : decode cX8_lesser 0 = .ok (.iload_n 0, 1) := by decide +kernel
theorem dX8_lesser_1 : decode cX8_lesser 1 = .ok (.iload_n 1, 1) := by decide +kernel
theorem dX8_lesser_2 : decode cX8_lesser 2 = .ok (.if_icmp .ge 7, 3) := by decide +kernel
theorem dX8_lesser_5 : decode cX8_lesser 5 = .ok (.iload_n 0, 1) := by decide +kernel
theorem dX8_lesser_6 : decode cX8_lesser 6 = .ok (.goto 4, 3) := by decide +kernel
theorem dX8_lesser_9 : decode cX8_lesser 9 = .ok (.iload_n 1, 1) := by decide +kernel
theorem dX8_lesser_10 : decode cX8_lesser 10 = .ok (.ireturn, 1) := by decide +kernel
theorem dX8_lays_0 : decode cX8_lays 0 = .ok (.iconst 0, 1) := by decide +kernel
theorem dX8_lays_1 : decode cX8_lays 1 = .ok (.istore_n 2, 1) := by decide +kernel
theorem dX8_lays_2 : decode cX8_lays 2 = .ok (.iload_n 2, 1) := by decide +kernel
theorem dX8_lays_3 : decode cX8_lays 3 = .ok (.sipush 208, 3) := by decide +kernel
theorem dX8_lays_6 : decode cX8_lays 6 = .ok (.if_icmp .ge 15, 3) := by decide +kernel
theorem dX8_lays_9 : decode cX8_lays 9 = .ok (.aload_n 0, 1) := by decide +kernel
theorem dX8_lays_10 : decode cX8_lays 10 = .ok (.iload_n 2, 1) := by decide +kernel
theorem dX8_lays_11 : decode cX8_lays 11 = .ok (.aload_n 1, 1) := by decide +kernel
theorem dX8_lays_12 : decode cX8_lays 12 = .ok (.iload_n 2, 1) := by decide +kernel
theorem dX8_lays_13 : decode cX8_lays 13 = .ok (.iaload, 1) := by decide +kernel
theorem dX8_lays_14 : decode cX8_lays 14 = .ok (.iastore, 1) := by decide +kernel
theorem dX8_lays_15 : decode cX8_lays 15 = .ok (.iinc 2 1, 3) := by decide +kernel
theorem dX8_lays_18 : decode cX8_lays 18 = .ok (.goto (-16), 3) := by decide +kernel
theorem dX8_lays_21 : decode cX8_lays 21 = .ok (.return_, 1) := by decide +kernel
theorem dX8_begins_0 : decode cX8_begins 0 = .ok (.aload_n 0, 1) := by decide +kernel
theorem dX8_begins_1 : decode cX8_begins 1 = .ok (.iconst 0, 1) := by decide +kernel
theorem dX8_begins_2 : decode cX8_begins 2 = .ok (.putfield 34, 3) := by decide +kernel
theorem dX8_begins_5 : decode cX8_begins 5 = .ok (.aload_n 0, 1) := by decide +kernel
theorem dX8_begins_6 : decode cX8_begins 6 = .ok (.iconst 0, 1) := by decide +kernel
theorem dX8_begins_7 : decode cX8_begins 7 = .ok (.putfield 38, 3) := by decide +kernel
theorem dX8_begins_10 : decode cX8_begins 10 = .ok (.aload_n 0, 1) := by decide +kernel
theorem dX8_begins_11 : decode cX8_begins 11 = .ok (.getfield 13, 3) := by decide +kernel
theorem dX8_begins_14 : decode cX8_begins 14 = .ok (.aload_n 0, 1) := by decide +kernel
theorem dX8_begins_15 : decode cX8_begins 15 = .ok (.getfield 7, 3) := by decide +kernel
theorem dX8_begins_18 : decode cX8_begins 18 = .ok (.invokestatic 51, 3) := by decide +kernel
theorem dX8_begins_21 : decode cX8_begins 21 = .ok (.return_, 1) := by decide +kernel
theorem dX8_ends_0 : decode cX8_ends 0 = .ok (.aload_n 0, 1) := by decide +kernel
theorem dX8_ends_1 : decode cX8_ends 1 = .ok (.getfield 38, 3) := by decide +kernel
theorem dX8_ends_4 : decode cX8_ends 4 = .ok (.ifCond .eq 69, 3) := by decide +kernel
theorem dX8_ends_7 : decode cX8_ends 7 = .ok (.aload_n 0, 1) := by decide +kernel
theorem dX8_ends_8 : decode cX8_ends 8 = .ok (.getfield 7, 3) := by decide +kernel
theorem dX8_ends_11 : decode cX8_ends 11 = .ok (.aload_n 0, 1) := by decide +kernel
theorem dX8_ends_12 : decode cX8_ends 12 = .ok (.getfield 13, 3) := by decide +kernel
theorem dX8_ends_15 : decode cX8_ends 15 = .ok (.invokestatic 51, 3) := by decide +kernel
theorem dX8_ends_18 : decode cX8_ends 18 = .ok (.aload_n 0, 1) := by decide +kernel
theorem dX8_ends_19 : decode cX8_ends 19 = .ok (.getfield 38, 3) := by decide +kernel
theorem dX8_ends_22 : decode cX8_ends 22 = .ok (.iconst 3, 1) := by decide +kernel
theorem dX8_ends_23 : decode cX8_ends 23 = .ok (.if_icmp .ne 19, 3) := by decide +kernel
theorem dX8_ends_26 : decode cX8_ends 26 = .ok (.aload_n 0, 1) := by decide +kernel
theorem dX8_ends_27 : decode cX8_ends 27 = .ok (.aload_n 0, 1) := by decide +kernel
theorem dX8_ends_28 : decode cX8_ends 28 = .ok (.getfield 41, 3) := by decide +kernel
theorem dX8_ends_31 : decode cX8_ends 31 = .ok (.putfield 55, 3) := by decide +kernel
theorem dX8_ends_34 : decode cX8_ends 34 = .ok (.aload_n 0, 1) := by decide +kernel
theorem dX8_ends_35 : decode cX8_ends 35 = .ok (.aload_n 0, 1) := by decide +kernel
theorem dX8_ends_36 : decode cX8_ends 36 = .ok (.getfield 44, 3) := by decide +kernel
theorem dX8_ends_39 : decode cX8_ends 39 = .ok (.putfield 58, 3) := by decide +kernel
theorem dX8_ends_42 : decode cX8_ends 42 = .ok (.aload_n 0, 1) := by decide +kernel
theorem dX8_ends_43 : decode cX8_ends 43 = .ok (.aload_n 0, 1) := by decide +kernel
theorem dX8_ends_44 : decode cX8_ends 44 = .ok (.getfield 38, 3) := by decide +kernel
theorem dX8_ends_47 : decode cX8_ends 47 = .ok (.iconst 1, 1) := by decide +kernel
theorem dX8_ends_48 : decode cX8_ends 48 = .ok (.if_icmp .ne 7, 3) := by decide +kernel
theorem dX8_ends_51 : decode cX8_ends 51 = .ok (.iload_n 2, 1) := by decide +kernel
theorem dX8_ends_52 : decode cX8_ends 52 = .ok (.goto 17, 3) := by decide +kernel
theorem dX8_ends_55 : decode cX8_ends 55 = .ok (.aload_n 0, 1) := by decide +kernel
theorem dX8_ends_56 : decode cX8_ends 56 = .ok (.getfield 38, 3) := by decide +kernel
theorem dX8_ends_59 : decode cX8_ends 59 = .ok (.iconst 2, 1) := by decide +kernel
theorem dX8_ends_60 : decode cX8_ends 60 = .ok (.if_icmp .ne 7, 3) := by decide +kernel
theorem dX8_ends_63 : decode cX8_ends 63 = .ok (.iload_n 3, 1) := by decide +kernel
theorem dX8_ends_64 : decode cX8_ends 64 = .ok (.goto 5, 3) := by decide +kernel
theorem dX8_ends_67 : decode cX8_ends 67 = .ok (.iload 4, 2) := by decide +kernel
theorem dX8_ends_69 : decode cX8_ends 69 = .ok (.invokevirtual 61, 3) := by decide +kernel
theorem dX8_ends_72 : decode cX8_ends 72 = .ok (.ireturn, 1) := by decide +kernel
theorem dX8_ends_73 : decode cX8_ends 73 = .ok (.aload_n 0, 1) := by decide +kernel
theorem dX8_ends_74 : decode cX8_ends 74 = .ok (.getfield 64, 3) := by decide +kernel
theorem dX8_ends_77 : decode cX8_ends 77 = .ok (.bipush 8, 2) := by decide +kernel
theorem dX8_ends_79 : decode cX8_ends 79 = .ok (.if_icmp .ne 48, 3) := by decide +kernel
theorem dX8_ends_82 : decode cX8_ends 82 = .ok (.iconst 0, 1) := by decide +kernel
theorem dX8_ends_83 : decode cX8_ends 83 = .ok (.istore 5, 2) := by decide +kernel
theorem dX8_ends_85 : decode cX8_ends 85 = .ok (.iload 5, 2) := by decide +kernel
theorem dX8_ends_87 : decode cX8_ends 87 = .ok (.sipush 1456, 3) := by decide +kernel
theorem dX8_ends_90 : decode cX8_ends 90 = .ok (.if_icmp .ge 27, 3) := by decide +kernel
theorem dX8_ends_93 : decode cX8_ends 93 = .ok (.aload_n 0, 1) := by decide +kernel
theorem dX8_ends_94 : decode cX8_ends 94 = .ok (.getfield 19, 3) := by decide +kernel
theorem dX8_ends_97 : decode cX8_ends 97 = .ok (.iload 5, 2) := by decide +kernel
theorem dX8_ends_99 : decode cX8_ends 99 = .ok (.aload_n 0, 1) := by decide +kernel
theorem dX8_ends_100 : decode cX8_ends 100 = .ok (.getfield 19, 3) := by decide +kernel
theorem dX8_ends_103 : decode cX8_ends 103 = .ok (.iload 5, 2) := by decide +kernel
theorem dX8_ends_105 : decode cX8_ends 105 = .ok (.sipush 208, 3) := by decide +kernel
theorem dX8_ends_108 : decode cX8_ends 108 = .ok (.iadd, 1) := by decide +kernel
theorem dX8_ends_109 : decode cX8_ends 109 = .ok (.iaload, 1) := by decide +kernel
theorem dX8_ends_110 : decode cX8_ends 110 = .ok (.iastore, 1) := by decide +kernel
theorem dX8_ends_111 : decode cX8_ends 111 = .ok (.iinc 5 1, 3) := by decide +kernel
theorem dX8_ends_114 : decode cX8_ends 114 = .ok (.goto (-29), 3) := by decide +kernel
theorem dX8_ends_117 : decode cX8_ends 117 = .ok (.aload_n 0, 1) := by decide +kernel
theorem dX8_ends_118 : decode cX8_ends 118 = .ok (.dup, 1) := by decide +kernel
theorem dX8_ends_119 : decode cX8_ends 119 = .ok (.getfield 64, 3) := by decide +kernel
theorem dX8_ends_122 : decode cX8_ends 122 = .ok (.iconst 1, 1) := by decide +kernel
theorem dX8_ends_123 : decode cX8_ends 123 = .ok (.isub, 1) := by decide +kernel
theorem dX8_ends_124 : decode cX8_ends 124 = .ok (.putfield 64, 3) := by decide +kernel
theorem dX8_ends_127 : decode cX8_ends 127 = .ok (.iconst 0, 1) := by decide +kernel
theorem dX8_ends_128 : decode cX8_ends 128 = .ok (.istore 5, 2) := by decide +kernel
theorem dX8_ends_130 : decode cX8_ends 130 = .ok (.iload 5, 2) := by decide +kernel
theorem dX8_ends_132 : decode cX8_ends 132 = .ok (.sipush 208, 3) := by decide +kernel
theorem dX8_ends_135 : decode cX8_ends 135 = .ok (.if_icmp .ge 32, 3) := by decide +kernel
theorem dX8_ends_138 : decode cX8_ends 138 = .ok (.aload_n 0, 1) := by decide +kernel
theorem dX8_ends_139 : decode cX8_ends 139 = .ok (.getfield 19, 3) := by decide +kernel
theorem dX8_ends_142 : decode cX8_ends 142 = .ok (.aload_n 0, 1) := by decide +kernel
theorem dX8_ends_143 : decode cX8_ends 143 = .ok (.getfield 64, 3) := by decide +kernel
theorem dX8_ends_146 : decode cX8_ends 146 = .ok (.sipush 208, 3) := by decide +kernel
theorem dX8_ends_149 : decode cX8_ends 149 = .ok (.imul, 1) := by decide +kernel
theorem dX8_ends_150 : decode cX8_ends 150 = .ok (.iload 5, 2) := by decide +kernel
theorem dX8_ends_152 : decode cX8_ends 152 = .ok (.iadd, 1) := by decide +kernel
theorem dX8_ends_153 : decode cX8_ends 153 = .ok (.aload_n 0, 1) := by decide +kernel
theorem dX8_ends_154 : decode cX8_ends 154 = .ok (.getfield 13, 3) := by decide +kernel
theorem dX8_ends_157 : decode cX8_ends 157 = .ok (.iload 5, 2) := by decide +kernel
theorem dX8_ends_159 : decode cX8_ends 159 = .ok (.iaload, 1) := by decide +kernel
theorem dX8_ends_160 : decode cX8_ends 160 = .ok (.iastore, 1) := by decide +kernel
theorem dX8_ends_161 : decode cX8_ends 161 = .ok (.iinc 5 1, 3) := by decide +kernel
theorem dX8_ends_164 : decode cX8_ends 164 = .ok (.goto (-34), 3) := by decide +kernel
theorem dX8_ends_167 : decode cX8_ends 167 = .ok (.aload_n 0, 1) := by decide +kernel
theorem dX8_ends_168 : decode cX8_ends 168 = .ok (.dup, 1) := by decide +kernel
theorem dX8_ends_169 : decode cX8_ends 169 = .ok (.getfield 64, 3) := by decide +kernel
theorem dX8_ends_172 : decode cX8_ends 172 = .ok (.iconst 1, 1) := by decide +kernel
theorem dX8_ends_173 : decode cX8_ends 173 = .ok (.iadd, 1) := by decide +kernel
theorem dX8_ends_174 : decode cX8_ends 174 = .ok (.putfield 64, 3) := by decide +kernel
theorem dX8_ends_177 : decode cX8_ends 177 = .ok (.iload_n 1, 1) := by decide +kernel
theorem dX8_ends_178 : decode cX8_ends 178 = .ok (.ireturn, 1) := by decide +kernel
theorem dX8_at_0 : decode cX8_at 0 = .ok (.bipush 28, 2) := by decide +kernel
theorem dX8_at_2 : decode cX8_at 2 = .ok (.bipush 9, 2) := by decide +kernel
theorem dX8_at_4 : decode cX8_at 4 = .ok (.iload_n 0, 1) := by decide +kernel
theorem dX8_at_5 : decode cX8_at 5 = .ok (.imul, 1) := by decide +kernel
theorem dX8_at_6 : decode cX8_at 6 = .ok (.iadd, 1) := by decide +kernel
theorem dX8_at_7 : decode cX8_at 7 = .ok (.iload_n 1, 1) := by decide +kernel
theorem dX8_at_8 : decode cX8_at 8 = .ok (.iadd, 1) := by decide +kernel
theorem dX8_at_9 : decode cX8_at 9 = .ok (.ireturn, 1) := by decide +kernel
theorem dX8_isChest_0 : decode cX8_isChest 0 = .ok (.iload_n 1, 1) := by decide +kernel
theorem dX8_isChest_1 : decode cX8_isChest 1 = .ok (.iconst 0, 1) := by decide +kernel
theorem dX8_isChest_2 : decode cX8_isChest 2 = .ok (.aload_n 0, 1) := by decide +kernel
theorem dX8_isChest_3 : decode cX8_isChest 3 = .ok (.getfield 7, 3) := by decide +kernel
theorem dX8_isChest_6 : decode cX8_isChest 6 = .ok (.iconst 3, 1) := by decide +kernel
theorem dX8_isChest_7 : decode cX8_isChest 7 = .ok (.iaload, 1) := by decide +kernel
theorem dX8_isChest_8 : decode cX8_isChest 8 = .ok (.iconst 1, 1) := by decide +kernel
theorem dX8_isChest_9 : decode cX8_isChest 9 = .ok (.isub, 1) := by decide +kernel
theorem dX8_isChest_10 : decode cX8_isChest 10 = .ok (.invokestatic 67, 3) := by decide +kernel
theorem dX8_isChest_13 : decode cX8_isChest 13 = .ok (.ireturn, 1) := by decide +kernel
theorem dX8_isLeaf_0 : decode cX8_isLeaf 0 = .ok (.iload_n 0, 1) := by decide +kernel
theorem dX8_isLeaf_1 : decode cX8_isLeaf 1 = .ok (.iconst 0, 1) := by decide +kernel
theorem dX8_isLeaf_2 : decode cX8_isLeaf 2 = .ok (.iconst 5, 1) := by decide +kernel
theorem dX8_isLeaf_3 : decode cX8_isLeaf 3 = .ok (.invokestatic 67, 3) := by decide +kernel
theorem dX8_isLeaf_6 : decode cX8_isLeaf 6 = .ok (.ifCond .eq 16, 3) := by decide +kernel
theorem dX8_isLeaf_9 : decode cX8_isLeaf 9 = .ok (.iload_n 1, 1) := by decide +kernel
theorem dX8_isLeaf_10 : decode cX8_isLeaf 10 = .ok (.iconst 0, 1) := by decide +kernel
theorem dX8_isLeaf_11 : decode cX8_isLeaf 11 = .ok (.iconst 2, 1) := by decide +kernel
theorem dX8_isLeaf_12 : decode cX8_isLeaf 12 = .ok (.invokestatic 67, 3) := by decide +kernel
theorem dX8_isLeaf_15 : decode cX8_isLeaf 15 = .ok (.ifCond .eq 7, 3) := by decide +kernel
theorem dX8_isLeaf_18 : decode cX8_isLeaf 18 = .ok (.iconst 1, 1) := by decide +kernel
theorem dX8_isLeaf_19 : decode cX8_isLeaf 19 = .ok (.goto 4, 3) := by decide +kernel
theorem dX8_isLeaf_22 : decode cX8_isLeaf 22 = .ok (.iconst 0, 1) := by decide +kernel
theorem dX8_isLeaf_23 : decode cX8_isLeaf 23 = .ok (.ireturn, 1) := by decide +kernel
theorem dX8_leaf_0 : decode cX8_leaf 0 = .ok (.bipush 10, 2) := by decide +kernel
theorem dX8_leaf_2 : decode cX8_leaf 2 = .ok (.iconst 3, 1) := by decide +kernel
theorem dX8_leaf_3 : decode cX8_leaf 3 = .ok (.iload_n 0, 1) := by decide +kernel
theorem dX8_leaf_4 : decode cX8_leaf 4 = .ok (.imul, 1) := by decide +kernel
theorem dX8_leaf_5 : decode cX8_leaf 5 = .ok (.iadd, 1) := by decide +kernel
theorem dX8_leaf_6 : decode cX8_leaf 6 = .ok (.iload_n 1, 1) := by decide +kernel
theorem dX8_leaf_7 : decode cX8_leaf 7 = .ok (.iadd, 1) := by decide +kernel
theorem dX8_leaf_8 : decode cX8_leaf 8 = .ok (.ireturn, 1) := by decide +kernel
theorem dX8_isEmpty_0 : decode cX8_isEmpty 0 = .ok (.aload_n 0, 1) := by decide +kernel
theorem dX8_isEmpty_1 : decode cX8_isEmpty 1 = .ok (.getfield 7, 3) := by decide +kernel
theorem dX8_isEmpty_4 : decode cX8_isEmpty 4 = .ok (.iload_n 1, 1) := by decide +kernel
theorem dX8_isEmpty_5 : decode cX8_isEmpty 5 = .ok (.iconst 3, 1) := by decide +kernel
theorem dX8_isEmpty_6 : decode cX8_isEmpty 6 = .ok (.invokestatic 71, 3) := by decide +kernel
theorem dX8_isEmpty_9 : decode cX8_isEmpty 9 = .ok (.iaload, 1) := by decide +kernel
theorem dX8_isEmpty_10 : decode cX8_isEmpty 10 = .ok (.ifCond .ne 7, 3) := by decide +kernel
theorem dX8_isEmpty_13 : decode cX8_isEmpty 13 = .ok (.iconst 1, 1) := by decide +kernel
theorem dX8_isEmpty_14 : decode cX8_isEmpty 14 = .ok (.goto 4, 3) := by decide +kernel
theorem dX8_isEmpty_17 : decode cX8_isEmpty 17 = .ok (.iconst 0, 1) := by decide +kernel
theorem dX8_isEmpty_18 : decode cX8_isEmpty 18 = .ok (.ireturn, 1) := by decide +kernel
theorem dX8_isTight_0 : decode cX8_isTight 0 = .ok (.aload_n 0, 1) := by decide +kernel
theorem dX8_isTight_1 : decode cX8_isTight 1 = .ok (.getfield 7, 3) := by decide +kernel
theorem dX8_isTight_4 : decode cX8_isTight 4 = .ok (.iload_n 1, 1) := by decide +kernel
theorem dX8_isTight_5 : decode cX8_isTight 5 = .ok (.iconst 4, 1) := by decide +kernel
theorem dX8_isTight_6 : decode cX8_isTight 6 = .ok (.invokestatic 71, 3) := by decide +kernel
theorem dX8_isTight_9 : decode cX8_isTight 9 = .ok (.iaload, 1) := by decide +kernel
theorem dX8_isTight_10 : decode cX8_isTight 10 = .ok (.iconst 1, 1) := by decide +kernel
theorem dX8_isTight_11 : decode cX8_isTight 11 = .ok (.if_icmp .ne 32, 3) := by decide +kernel
theorem dX8_isTight_14 : decode cX8_isTight 14 = .ok (.aload_n 0, 1) := by decide +kernel
theorem dX8_isTight_15 : decode cX8_isTight 15 = .ok (.getfield 7, 3) := by decide +kernel
theorem dX8_isTight_18 : decode cX8_isTight 18 = .ok (.iload_n 1, 1) := by decide +kernel
theorem dX8_isTight_19 : decode cX8_isTight 19 = .ok (.iconst 5, 1) := by decide +kernel
theorem dX8_isTight_20 : decode cX8_isTight 20 = .ok (.invokestatic 71, 3) := by decide +kernel
theorem dX8_isTight_23 : decode cX8_isTight 23 = .ok (.iaload, 1) := by decide +kernel
theorem dX8_isTight_24 : decode cX8_isTight 24 = .ok (.aload_n 0, 1) := by decide +kernel
theorem dX8_isTight_25 : decode cX8_isTight 25 = .ok (.getfield 7, 3) := by decide +kernel
theorem dX8_isTight_28 : decode cX8_isTight 28 = .ok (.iload_n 1, 1) := by decide +kernel
theorem dX8_isTight_29 : decode cX8_isTight 29 = .ok (.iconst 0, 1) := by decide +kernel
theorem dX8_isTight_30 : decode cX8_isTight 30 = .ok (.invokestatic 71, 3) := by decide +kernel
theorem dX8_isTight_33 : decode cX8_isTight 33 = .ok (.iaload, 1) := by decide +kernel
theorem dX8_isTight_34 : decode cX8_isTight 34 = .ok (.iconst 2, 1) := by decide +kernel
theorem dX8_isTight_35 : decode cX8_isTight 35 = .ok (.iadd, 1) := by decide +kernel
theorem dX8_isTight_36 : decode cX8_isTight 36 = .ok (.if_icmp .lt 7, 3) := by decide +kernel
theorem dX8_isTight_39 : decode cX8_isTight 39 = .ok (.iconst 1, 1) := by decide +kernel
theorem dX8_isTight_40 : decode cX8_isTight 40 = .ok (.goto 4, 3) := by decide +kernel
theorem dX8_isTight_43 : decode cX8_isTight 43 = .ok (.iconst 0, 1) := by decide +kernel
theorem dX8_isTight_44 : decode cX8_isTight 44 = .ok (.ireturn, 1) := by decide +kernel
theorem dX8_brings_0 : decode cX8_brings 0 = .ok (.iload_n 1, 1) := by decide +kernel
theorem dX8_brings_1 : decode cX8_brings 1 = .ok (.iload_n 2, 1) := by decide +kernel
theorem dX8_brings_2 : decode cX8_brings 2 = .ok (.invokestatic 75, 3) := by decide +kernel
theorem dX8_brings_5 : decode cX8_brings 5 = .ok (.ifCond .ne 9, 3) := by decide +kernel
theorem dX8_brings_8 : decode cX8_brings 8 = .ok (.aload_n 0, 1) := by decide +kernel
theorem dX8_brings_9 : decode cX8_brings 9 = .ok (.iconst 1, 1) := by decide +kernel
theorem dX8_brings_10 : decode cX8_brings 10 = .ok (.invokevirtual 47, 3) := by decide +kernel
theorem dX8_brings_13 : decode cX8_brings 13 = .ok (.ireturn, 1) := by decide +kernel
theorem dX8_brings_14 : decode cX8_brings 14 = .ok (.iload_n 3, 1) := by decide +kernel
theorem dX8_brings_15 : decode cX8_brings 15 = .ok (.iconst 1, 1) := by decide +kernel
theorem dX8_brings_16 : decode cX8_brings 16 = .ok (.sipush 500, 3) := by decide +kernel
theorem dX8_brings_19 : decode cX8_brings 19 = .ok (.invokestatic 67, 3) := by decide +kernel
theorem dX8_brings_22 : decode cX8_brings 22 = .ok (.ifCond .ne 9, 3) := by decide +kernel
theorem dX8_brings_25 : decode cX8_brings 25 = .ok (.aload_n 0, 1) := by decide +kernel
theorem dX8_brings_26 : decode cX8_brings 26 = .ok (.iconst 2, 1) := by decide +kernel
theorem dX8_brings_27 : decode cX8_brings 27 = .ok (.invokevirtual 47, 3) := by decide +kernel
theorem dX8_brings_30 : decode cX8_brings 30 = .ok (.ireturn, 1) := by decide +kernel
theorem dX8_brings_31 : decode cX8_brings 31 = .ok (.iload_n 1, 1) := by decide +kernel
theorem dX8_brings_32 : decode cX8_brings 32 = .ok (.iload_n 2, 1) := by decide +kernel
theorem dX8_brings_33 : decode cX8_brings 33 = .ok (.invokestatic 79, 3) := by decide +kernel
theorem dX8_brings_36 : decode cX8_brings 36 = .ok (.istore 4, 2) := by decide +kernel
theorem dX8_brings_38 : decode cX8_brings 38 = .ok (.aload_n 0, 1) := by decide +kernel
theorem dX8_brings_39 : decode cX8_brings 39 = .ok (.getfield 7, 3) := by decide +kernel
theorem dX8_brings_42 : decode cX8_brings 42 = .ok (.iload 4, 2) := by decide +kernel
theorem dX8_brings_44 : decode cX8_brings 44 = .ok (.iaload, 1) := by decide +kernel
theorem dX8_brings_45 : decode cX8_brings 45 = .ok (.iload_n 3, 1) := by decide +kernel
theorem dX8_brings_46 : decode cX8_brings 46 = .ok (.iadd, 1) := by decide +kernel
theorem dX8_brings_47 : decode cX8_brings 47 = .ok (.sipush 500, 3) := by decide +kernel
theorem dX8_brings_50 : decode cX8_brings 50 = .ok (.if_icmp .le 16, 3) := by decide +kernel
theorem dX8_brings_53 : decode cX8_brings 53 = .ok (.aload_n 0, 1) := by decide +kernel
theorem dX8_brings_54 : decode cX8_brings 54 = .ok (.iconst 2, 1) := by decide +kernel
theorem dX8_brings_55 : decode cX8_brings 55 = .ok (.aload_n 0, 1) := by decide +kernel
theorem dX8_brings_56 : decode cX8_brings 56 = .ok (.getfield 7, 3) := by decide +kernel
theorem dX8_brings_59 : decode cX8_brings 59 = .ok (.iload 4, 2) := by decide +kernel
theorem dX8_brings_61 : decode cX8_brings 61 = .ok (.iaload, 1) := by decide +kernel
theorem dX8_brings_62 : decode cX8_brings 62 = .ok (.invokevirtual 82, 3) := by decide +kernel
theorem dX8_brings_65 : decode cX8_brings 65 = .ok (.ireturn, 1) := by decide +kernel
theorem dX8_brings_66 : decode cX8_brings 66 = .ok (.aload_n 0, 1) := by decide +kernel
theorem dX8_brings_67 : decode cX8_brings 67 = .ok (.getfield 7, 3) := by decide +kernel
theorem dX8_brings_70 : decode cX8_brings 70 = .ok (.iload 4, 2) := by decide +kernel
theorem dX8_brings_72 : decode cX8_brings 72 = .ok (.dup2, 1) := by decide +kernel
theorem dX8_brings_73 : decode cX8_brings 73 = .ok (.iaload, 1) := by decide +kernel
theorem dX8_brings_74 : decode cX8_brings 74 = .ok (.iload_n 3, 1) := by decide +kernel
theorem dX8_brings_75 : decode cX8_brings 75 = .ok (.iadd, 1) := by decide +kernel
theorem dX8_brings_76 : decode cX8_brings 76 = .ok (.iastore, 1) := by decide +kernel
theorem dX8_brings_77 : decode cX8_brings 77 = .ok (.aload_n 0, 1) := by decide +kernel
theorem dX8_brings_78 : decode cX8_brings 78 = .ok (.getfield 7, 3) := by decide +kernel
theorem dX8_brings_81 : decode cX8_brings 81 = .ok (.bipush 6, 2) := by decide +kernel
theorem dX8_brings_83 : decode cX8_brings 83 = .ok (.dup2, 1) := by decide +kernel
theorem dX8_brings_84 : decode cX8_brings 84 = .ok (.iaload, 1) := by decide +kernel
theorem dX8_brings_85 : decode cX8_brings 85 = .ok (.iload_n 3, 1) := by decide +kernel
theorem dX8_brings_86 : decode cX8_brings 86 = .ok (.iadd, 1) := by decide +kernel
theorem dX8_brings_87 : decode cX8_brings 87 = .ok (.iastore, 1) := by decide +kernel
theorem dX8_brings_88 : decode cX8_brings 88 = .ok (.aload_n 0, 1) := by decide +kernel
theorem dX8_brings_89 : decode cX8_brings 89 = .ok (.getfield 7, 3) := by decide +kernel
theorem dX8_brings_92 : decode cX8_brings 92 = .ok (.iload 4, 2) := by decide +kernel
theorem dX8_brings_94 : decode cX8_brings 94 = .ok (.iaload, 1) := by decide +kernel
theorem dX8_brings_95 : decode cX8_brings 95 = .ok (.ireturn, 1) := by decide +kernel
theorem dX8_bring_0 : decode cX8_bring 0 = .ok (.aload_n 0, 1) := by decide +kernel
theorem dX8_bring_1 : decode cX8_bring 1 = .ok (.invokevirtual 85, 3) := by decide +kernel
theorem dX8_bring_4 : decode cX8_bring 4 = .ok (.aload_n 0, 1) := by decide +kernel
theorem dX8_bring_5 : decode cX8_bring 5 = .ok (.aload_n 0, 1) := by decide +kernel
theorem dX8_bring_6 : decode cX8_bring 6 = .ok (.iload_n 1, 1) := by decide +kernel
theorem dX8_bring_7 : decode cX8_bring 7 = .ok (.iload_n 2, 1) := by decide +kernel
theorem dX8_bring_8 : decode cX8_bring 8 = .ok (.iload_n 3, 1) := by decide +kernel
theorem dX8_bring_9 : decode cX8_bring 9 = .ok (.invokevirtual 88, 3) := by decide +kernel
theorem dX8_bring_12 : decode cX8_bring 12 = .ok (.iconst 1, 1) := by decide +kernel
theorem dX8_bring_13 : decode cX8_bring 13 = .ok (.iconst 2, 1) := by decide +kernel
theorem dX8_bring_14 : decode cX8_bring 14 = .ok (.iconst 3, 1) := by decide +kernel
theorem dX8_bring_15 : decode cX8_bring 15 = .ok (.invokevirtual 92, 3) := by decide +kernel
theorem dX8_bring_18 : decode cX8_bring 18 = .ok (.ireturn, 1) := by decide +kernel
theorem dX8_leaves_0 : decode cX8_leaves 0 = .ok (.aload_n 0, 1) := by decide +kernel
theorem dX8_leaves_1 : decode cX8_leaves 1 = .ok (.iconst 0, 1) := by decide +kernel
theorem dX8_leaves_2 : decode cX8_leaves 2 = .ok (.putfield 34, 3) := by decide +kernel
theorem dX8_leaves_5 : decode cX8_leaves 5 = .ok (.iload_n 1, 1) := by decide +kernel
theorem dX8_leaves_6 : decode cX8_leaves 6 = .ok (.iload_n 2, 1) := by decide +kernel
theorem dX8_leaves_7 : decode cX8_leaves 7 = .ok (.invokestatic 75, 3) := by decide +kernel
theorem dX8_leaves_10 : decode cX8_leaves 10 = .ok (.ifCond .eq 16, 3) := by decide +kernel
theorem dX8_leaves_13 : decode cX8_leaves 13 = .ok (.aload_n 0, 1) := by decide +kernel
theorem dX8_leaves_14 : decode cX8_leaves 14 = .ok (.getfield 7, 3) := by decide +kernel
theorem dX8_leaves_17 : decode cX8_leaves 17 = .ok (.iload_n 1, 1) := by decide +kernel
theorem dX8_leaves_18 : decode cX8_leaves 18 = .ok (.iload_n 2, 1) := by decide +kernel
theorem dX8_leaves_19 : decode cX8_leaves 19 = .ok (.invokestatic 79, 3) := by decide +kernel
theorem dX8_leaves_22 : decode cX8_leaves 22 = .ok (.iaload, 1) := by decide +kernel
theorem dX8_leaves_23 : decode cX8_leaves 23 = .ok (.goto 8, 3) := by decide +kernel
theorem dX8_leaves_26 : decode cX8_leaves 26 = .ok (.aload_n 0, 1) := by decide +kernel
theorem dX8_leaves_27 : decode cX8_leaves 27 = .ok (.iconst 1, 1) := by decide +kernel
theorem dX8_leaves_28 : decode cX8_leaves 28 = .ok (.invokevirtual 61, 3) := by decide +kernel
theorem dX8_leaves_31 : decode cX8_leaves 31 = .ok (.ireturn, 1) := by decide +kernel
theorem dX8_allOf_0 : decode cX8_allOf 0 = .ok (.aload_n 0, 1) := by decide +kernel
theorem dX8_allOf_1 : decode cX8_allOf 1 = .ok (.getfield 7, 3) := by decide +kernel
theorem dX8_allOf_4 : decode cX8_allOf 4 = .ok (.iload_n 1, 1) := by decide +kernel
theorem dX8_allOf_5 : decode cX8_allOf 5 = .ok (.iconst 0, 1) := by decide +kernel
theorem dX8_allOf_6 : decode cX8_allOf 6 = .ok (.invokestatic 79, 3) := by decide +kernel
theorem dX8_allOf_9 : decode cX8_allOf 9 = .ok (.iaload, 1) := by decide +kernel
theorem dX8_allOf_10 : decode cX8_allOf 10 = .ok (.aload_n 0, 1) := by decide +kernel
theorem dX8_allOf_11 : decode cX8_allOf 11 = .ok (.getfield 7, 3) := by decide +kernel
theorem dX8_allOf_14 : decode cX8_allOf 14 = .ok (.iload_n 1, 1) := by decide +kernel
theorem dX8_allOf_15 : decode cX8_allOf 15 = .ok (.iconst 1, 1) := by decide +kernel
theorem dX8_allOf_16 : decode cX8_allOf 16 = .ok (.invokestatic 79, 3) := by decide +kernel
theorem dX8_allOf_19 : decode cX8_allOf 19 = .ok (.iaload, 1) := by decide +kernel
theorem dX8_allOf_20 : decode cX8_allOf 20 = .ok (.iadd, 1) := by decide +kernel
theorem dX8_allOf_21 : decode cX8_allOf 21 = .ok (.aload_n 0, 1) := by decide +kernel
theorem dX8_allOf_22 : decode cX8_allOf 22 = .ok (.getfield 7, 3) := by decide +kernel
theorem dX8_allOf_25 : decode cX8_allOf 25 = .ok (.iload_n 1, 1) := by decide +kernel
theorem dX8_allOf_26 : decode cX8_allOf 26 = .ok (.iconst 2, 1) := by decide +kernel
theorem dX8_allOf_27 : decode cX8_allOf 27 = .ok (.invokestatic 79, 3) := by decide +kernel
theorem dX8_allOf_30 : decode cX8_allOf 30 = .ok (.iaload, 1) := by decide +kernel
theorem dX8_allOf_31 : decode cX8_allOf 31 = .ok (.iadd, 1) := by decide +kernel
theorem dX8_allOf_32 : decode cX8_allOf 32 = .ok (.ireturn, 1) := by decide +kernel
theorem dX8_bestGarden_0 : decode cX8_bestGarden 0 = .ok (.aload_n 0, 1) := by decide +kernel
theorem dX8_bestGarden_1 : decode cX8_bestGarden 1 = .ok (.iconst 0, 1) := by decide +kernel
theorem dX8_bestGarden_2 : decode cX8_bestGarden 2 = .ok (.putfield 34, 3) := by decide +kernel
theorem dX8_bestGarden_5 : decode cX8_bestGarden 5 = .ok (.iconst 0, 1) := by decide +kernel
theorem dX8_bestGarden_6 : decode cX8_bestGarden 6 = .ok (.istore_n 1, 1) := by decide +kernel
theorem dX8_bestGarden_7 : decode cX8_bestGarden 7 = .ok (.iconst 1, 1) := by decide +kernel
theorem dX8_bestGarden_8 : decode cX8_bestGarden 8 = .ok (.istore_n 2, 1) := by decide +kernel
theorem dX8_bestGarden_9 : decode cX8_bestGarden 9 = .ok (.iload_n 2, 1) := by decide +kernel
theorem dX8_bestGarden_10 : decode cX8_bestGarden 10 = .ok (.bipush 6, 2) := by decide +kernel
theorem dX8_bestGarden_12 : decode cX8_bestGarden 12 = .ok (.if_icmp .ge 54, 3) := by decide +kernel
theorem dX8_bestGarden_15 : decode cX8_bestGarden 15 = .ok (.aload_n 0, 1) := by decide +kernel
theorem dX8_bestGarden_16 : decode cX8_bestGarden 16 = .ok (.iload_n 2, 1) := by decide +kernel
theorem dX8_bestGarden_17 : decode cX8_bestGarden 17 = .ok (.invokevirtual 96, 3) := by decide +kernel
theorem dX8_bestGarden_20 : decode cX8_bestGarden 20 = .ok (.aload_n 0, 1) := by decide +kernel
theorem dX8_bestGarden_21 : decode cX8_bestGarden 21 = .ok (.iload_n 1, 1) := by decide +kernel
theorem dX8_bestGarden_22 : decode cX8_bestGarden 22 = .ok (.invokevirtual 96, 3) := by decide +kernel
theorem dX8_bestGarden_25 : decode cX8_bestGarden 25 = .ok (.isub, 1) := by decide +kernel
theorem dX8_bestGarden_26 : decode cX8_bestGarden 26 = .ok (.istore_n 3, 1) := by decide +kernel
theorem dX8_bestGarden_27 : decode cX8_bestGarden 27 = .ok (.iload_n 3, 1) := by decide +kernel
theorem dX8_bestGarden_28 : decode cX8_bestGarden 28 = .ok (.ifCond .gt 30, 3) := by decide +kernel
theorem dX8_bestGarden_31 : decode cX8_bestGarden 31 = .ok (.iload_n 3, 1) := by decide +kernel
theorem dX8_bestGarden_32 : decode cX8_bestGarden 32 = .ok (.ifCond .ne 28, 3) := by decide +kernel
theorem dX8_bestGarden_35 : decode cX8_bestGarden 35 = .ok (.aload_n 0, 1) := by decide +kernel
theorem dX8_bestGarden_36 : decode cX8_bestGarden 36 = .ok (.getfield 7, 3) := by decide +kernel
theorem dX8_bestGarden_39 : decode cX8_bestGarden 39 = .ok (.iload_n 2, 1) := by decide +kernel
theorem dX8_bestGarden_40 : decode cX8_bestGarden 40 = .ok (.iconst 2, 1) := by decide +kernel
theorem dX8_bestGarden_41 : decode cX8_bestGarden 41 = .ok (.invokestatic 79, 3) := by decide +kernel
theorem dX8_bestGarden_44 : decode cX8_bestGarden 44 = .ok (.iaload, 1) := by decide +kernel
theorem dX8_bestGarden_45 : decode cX8_bestGarden 45 = .ok (.aload_n 0, 1) := by decide +kernel
theorem dX8_bestGarden_46 : decode cX8_bestGarden 46 = .ok (.getfield 7, 3) := by decide +kernel
theorem dX8_bestGarden_49 : decode cX8_bestGarden 49 = .ok (.iload_n 1, 1) := by decide +kernel
theorem dX8_bestGarden_50 : decode cX8_bestGarden 50 = .ok (.iconst 2, 1) := by decide +kernel
theorem dX8_bestGarden_51 : decode cX8_bestGarden 51 = .ok (.invokestatic 79, 3) := by decide +kernel
theorem dX8_bestGarden_54 : decode cX8_bestGarden 54 = .ok (.iaload, 1) := by decide +kernel
theorem dX8_bestGarden_55 : decode cX8_bestGarden 55 = .ok (.if_icmp .le 5, 3) := by decide +kernel
theorem dX8_bestGarden_58 : decode cX8_bestGarden 58 = .ok (.iload_n 2, 1) := by decide +kernel
theorem dX8_bestGarden_59 : decode cX8_bestGarden 59 = .ok (.istore_n 1, 1) := by decide +kernel
theorem dX8_bestGarden_60 : decode cX8_bestGarden 60 = .ok (.iinc 2 1, 3) := by decide +kernel
theorem dX8_bestGarden_63 : decode cX8_bestGarden 63 = .ok (.goto (-54), 3) := by decide +kernel
theorem dX8_bestGarden_66 : decode cX8_bestGarden 66 = .ok (.iload_n 1, 1) := by decide +kernel
theorem dX8_bestGarden_67 : decode cX8_bestGarden 67 = .ok (.ireturn, 1) := by decide +kernel
theorem dX8_buys_0 : decode cX8_buys 0 = .ok (.iload_n 2, 1) := by decide +kernel
theorem dX8_buys_1 : decode cX8_buys 1 = .ok (.iconst 1, 1) := by decide +kernel
theorem dX8_buys_2 : decode cX8_buys 2 = .ok (.bipush 99, 2) := by decide +kernel
theorem dX8_buys_4 : decode cX8_buys 4 = .ok (.invokestatic 67, 3) := by decide +kernel
theorem dX8_buys_7 : decode cX8_buys 7 = .ok (.ifCond .ne 9, 3) := by decide +kernel
theorem dX8_buys_10 : decode cX8_buys 10 = .ok (.aload_n 0, 1) := by decide +kernel
theorem dX8_buys_11 : decode cX8_buys 11 = .ok (.iconst 2, 1) := by decide +kernel
theorem dX8_buys_12 : decode cX8_buys 12 = .ok (.invokevirtual 47, 3) := by decide +kernel
theorem dX8_buys_15 : decode cX8_buys 15 = .ok (.ireturn, 1) := by decide +kernel
theorem dX8_buys_16 : decode cX8_buys 16 = .ok (.aload_n 0, 1) := by decide +kernel
theorem dX8_buys_17 : decode cX8_buys 17 = .ok (.getfield 7, 3) := by decide +kernel
theorem dX8_buys_20 : decode cX8_buys 20 = .ok (.iload_n 1, 1) := by decide +kernel
theorem dX8_buys_21 : decode cX8_buys 21 = .ok (.sipush 200, 3) := by decide +kernel
theorem dX8_buys_24 : decode cX8_buys 24 = .ok (.aload_n 0, 1) := by decide +kernel
theorem dX8_buys_25 : decode cX8_buys 25 = .ok (.getfield 7, 3) := by decide +kernel
theorem dX8_buys_28 : decode cX8_buys 28 = .ok (.iload_n 1, 1) := by decide +kernel
theorem dX8_buys_29 : decode cX8_buys 29 = .ok (.iaload, 1) := by decide +kernel
theorem dX8_buys_30 : decode cX8_buys 30 = .ok (.iload_n 2, 1) := by decide +kernel
theorem dX8_buys_31 : decode cX8_buys 31 = .ok (.iadd, 1) := by decide +kernel
theorem dX8_buys_32 : decode cX8_buys 32 = .ok (.invokestatic 99, 3) := by decide +kernel
theorem dX8_buys_35 : decode cX8_buys 35 = .ok (.iastore, 1) := by decide +kernel
theorem dX8_buys_36 : decode cX8_buys 36 = .ok (.aload_n 0, 1) := by decide +kernel
theorem dX8_buys_37 : decode cX8_buys 37 = .ok (.getfield 7, 3) := by decide +kernel
theorem dX8_buys_40 : decode cX8_buys 40 = .ok (.iload_n 1, 1) := by decide +kernel
theorem dX8_buys_41 : decode cX8_buys 41 = .ok (.iaload, 1) := by decide +kernel
theorem dX8_buys_42 : decode cX8_buys 42 = .ok (.ireturn, 1) := by decide +kernel
theorem dX8_buy_0 : decode cX8_buy 0 = .ok (.aload_n 0, 1) := by decide +kernel
theorem dX8_buy_1 : decode cX8_buy 1 = .ok (.invokevirtual 85, 3) := by decide +kernel
theorem dX8_buy_4 : decode cX8_buy 4 = .ok (.aload_n 0, 1) := by decide +kernel
theorem dX8_buy_5 : decode cX8_buy 5 = .ok (.aload_n 0, 1) := by decide +kernel
theorem dX8_buy_6 : decode cX8_buy 6 = .ok (.iload_n 1, 1) := by decide +kernel
theorem dX8_buy_7 : decode cX8_buy 7 = .ok (.ifCond .eq 7, 3) := by decide +kernel
theorem dX8_buy_10 : decode cX8_buy 10 = .ok (.iconst 2, 1) := by decide +kernel
theorem dX8_buy_11 : decode cX8_buy 11 = .ok (.goto 4, 3) := by decide +kernel
theorem dX8_buy_14 : decode cX8_buy 14 = .ok (.iconst 1, 1) := by decide +kernel
theorem dX8_buy_15 : decode cX8_buy 15 = .ok (.iload_n 2, 1) := by decide +kernel
theorem dX8_buy_16 : decode cX8_buy 16 = .ok (.invokevirtual 102, 3) := by decide +kernel
theorem dX8_buy_19 : decode cX8_buy 19 = .ok (.iconst 0, 1) := by decide +kernel
theorem dX8_buy_20 : decode cX8_buy 20 = .ok (.iconst 1, 1) := by decide +kernel
theorem dX8_buy_21 : decode cX8_buy 21 = .ok (.iconst 0, 1) := by decide +kernel
theorem dX8_buy_22 : decode cX8_buy 22 = .ok (.invokevirtual 92, 3) := by decide +kernel
theorem dX8_buy_25 : decode cX8_buy 25 = .ok (.ireturn, 1) := by decide +kernel
theorem dX8_makes_0 : decode cX8_makes 0 = .ok (.iload_n 1, 1) := by decide +kernel
theorem dX8_makes_1 : decode cX8_makes 1 = .ok (.iconst 1, 1) := by decide +kernel
theorem dX8_makes_2 : decode cX8_makes 2 = .ok (.iconst 5, 1) := by decide +kernel
theorem dX8_makes_3 : decode cX8_makes 3 = .ok (.invokestatic 67, 3) := by decide +kernel
theorem dX8_makes_6 : decode cX8_makes 6 = .ok (.ifCond .ne 9, 3) := by decide +kernel
theorem dX8_makes_9 : decode cX8_makes 9 = .ok (.aload_n 0, 1) := by decide +kernel
theorem dX8_makes_10 : decode cX8_makes 10 = .ok (.iconst 2, 1) := by decide +kernel
theorem dX8_makes_11 : decode cX8_makes 11 = .ok (.invokevirtual 47, 3) := by decide +kernel
theorem dX8_makes_14 : decode cX8_makes 14 = .ok (.ireturn, 1) := by decide +kernel
theorem dX8_makes_15 : decode cX8_makes 15 = .ok (.aload_n 0, 1) := by decide +kernel
theorem dX8_makes_16 : decode cX8_makes 16 = .ok (.getfield 7, 3) := by decide +kernel
theorem dX8_makes_19 : decode cX8_makes 19 = .ok (.iconst 3, 1) := by decide +kernel
theorem dX8_makes_20 : decode cX8_makes 20 = .ok (.iaload, 1) := by decide +kernel
theorem dX8_makes_21 : decode cX8_makes 21 = .ok (.bipush 20, 2) := by decide +kernel
theorem dX8_makes_23 : decode cX8_makes 23 = .ok (.if_icmp .ne 11, 3) := by decide +kernel
theorem dX8_makes_26 : decode cX8_makes 26 = .ok (.aload_n 0, 1) := by decide +kernel
theorem dX8_makes_27 : decode cX8_makes 27 = .ok (.iconst 1, 1) := by decide +kernel
theorem dX8_makes_28 : decode cX8_makes 28 = .ok (.bipush 20, 2) := by decide +kernel
theorem dX8_makes_30 : decode cX8_makes 30 = .ok (.invokevirtual 82, 3) := by decide +kernel
theorem dX8_makes_33 : decode cX8_makes 33 = .ok (.ireturn, 1) := by decide +kernel
theorem dX8_makes_34 : decode cX8_makes 34 = .ok (.aload_n 0, 1) := by decide +kernel
theorem dX8_makes_35 : decode cX8_makes 35 = .ok (.getfield 7, 3) := by decide +kernel
theorem dX8_makes_38 : decode cX8_makes 38 = .ok (.iconst 3, 1) := by decide +kernel
theorem dX8_makes_39 : decode cX8_makes 39 = .ok (.iaload, 1) := by decide +kernel
theorem dX8_makes_40 : decode cX8_makes 40 = .ok (.istore_n 2, 1) := by decide +kernel
theorem dX8_makes_41 : decode cX8_makes 41 = .ok (.iconst 0, 1) := by decide +kernel
theorem dX8_makes_42 : decode cX8_makes 42 = .ok (.istore_n 3, 1) := by decide +kernel
theorem dX8_makes_43 : decode cX8_makes 43 = .ok (.iload_n 3, 1) := by decide +kernel
theorem dX8_makes_44 : decode cX8_makes 44 = .ok (.bipush 9, 2) := by decide +kernel
theorem dX8_makes_46 : decode cX8_makes 46 = .ok (.if_icmp .ge 20, 3) := by decide +kernel
theorem dX8_makes_49 : decode cX8_makes 49 = .ok (.aload_n 0, 1) := by decide +kernel
theorem dX8_makes_50 : decode cX8_makes 50 = .ok (.getfield 7, 3) := by decide +kernel
theorem dX8_makes_53 : decode cX8_makes 53 = .ok (.iload_n 2, 1) := by decide +kernel
theorem dX8_makes_54 : decode cX8_makes 54 = .ok (.iload_n 3, 1) := by decide +kernel
theorem dX8_makes_55 : decode cX8_makes 55 = .ok (.invokestatic 71, 3) := by decide +kernel
theorem dX8_makes_58 : decode cX8_makes 58 = .ok (.iconst 0, 1) := by decide +kernel
theorem dX8_makes_59 : decode cX8_makes 59 = .ok (.iastore, 1) := by decide +kernel
theorem dX8_makes_60 : decode cX8_makes 60 = .ok (.iinc 3 1, 3) := by decide +kernel
theorem dX8_makes_63 : decode cX8_makes 63 = .ok (.goto (-20), 3) := by decide +kernel
theorem dX8_makes_66 : decode cX8_makes 66 = .ok (.aload_n 0, 1) := by decide +kernel
theorem dX8_makes_67 : decode cX8_makes 67 = .ok (.getfield 7, 3) := by decide +kernel
theorem dX8_makes_70 : decode cX8_makes 70 = .ok (.iload_n 2, 1) := by decide +kernel
theorem dX8_makes_71 : decode cX8_makes 71 = .ok (.iconst 0, 1) := by decide +kernel
theorem dX8_makes_72 : decode cX8_makes 72 = .ok (.invokestatic 71, 3) := by decide +kernel
theorem dX8_makes_75 : decode cX8_makes 75 = .ok (.iload_n 1, 1) := by decide +kernel
theorem dX8_makes_76 : decode cX8_makes 76 = .ok (.iastore, 1) := by decide +kernel
theorem dX8_makes_77 : decode cX8_makes 77 = .ok (.aload_n 0, 1) := by decide +kernel
theorem dX8_makes_78 : decode cX8_makes 78 = .ok (.getfield 7, 3) := by decide +kernel
theorem dX8_makes_81 : decode cX8_makes 81 = .ok (.iload_n 2, 1) := by decide +kernel
theorem dX8_makes_82 : decode cX8_makes 82 = .ok (.iconst 1, 1) := by decide +kernel
theorem dX8_makes_83 : decode cX8_makes 83 = .ok (.invokestatic 71, 3) := by decide +kernel
theorem dX8_makes_86 : decode cX8_makes 86 = .ok (.iconst (-1), 1) := by decide +kernel
theorem dX8_makes_87 : decode cX8_makes 87 = .ok (.iastore, 1) := by decide +kernel
theorem dX8_makes_88 : decode cX8_makes 88 = .ok (.aload_n 0, 1) := by decide +kernel
theorem dX8_makes_89 : decode cX8_makes 89 = .ok (.getfield 7, 3) := by decide +kernel
theorem dX8_makes_92 : decode cX8_makes 92 = .ok (.iload_n 2, 1) := by decide +kernel
theorem dX8_makes_93 : decode cX8_makes 93 = .ok (.iconst 2, 1) := by decide +kernel
theorem dX8_makes_94 : decode cX8_makes 94 = .ok (.invokestatic 71, 3) := by decide +kernel
theorem dX8_makes_97 : decode cX8_makes 97 = .ok (.iconst (-1), 1) := by decide +kernel
theorem dX8_makes_98 : decode cX8_makes 98 = .ok (.iastore, 1) := by decide +kernel
theorem dX8_makes_99 : decode cX8_makes 99 = .ok (.aload_n 0, 1) := by decide +kernel
theorem dX8_makes_100 : decode cX8_makes 100 = .ok (.getfield 7, 3) := by decide +kernel
theorem dX8_makes_103 : decode cX8_makes 103 = .ok (.iconst 3, 1) := by decide +kernel
theorem dX8_makes_104 : decode cX8_makes 104 = .ok (.dup2, 1) := by decide +kernel
theorem dX8_makes_105 : decode cX8_makes 105 = .ok (.iaload, 1) := by decide +kernel
theorem dX8_makes_106 : decode cX8_makes 106 = .ok (.iconst 1, 1) := by decide +kernel
theorem dX8_makes_107 : decode cX8_makes 107 = .ok (.iadd, 1) := by decide +kernel
theorem dX8_makes_108 : decode cX8_makes 108 = .ok (.iastore, 1) := by decide +kernel
theorem dX8_makes_109 : decode cX8_makes 109 = .ok (.iload_n 2, 1) := by decide +kernel
theorem dX8_makes_110 : decode cX8_makes 110 = .ok (.ireturn, 1) := by decide +kernel
theorem dX8_make_0 : decode cX8_make 0 = .ok (.aload_n 0, 1) := by decide +kernel
theorem dX8_make_1 : decode cX8_make 1 = .ok (.invokevirtual 85, 3) := by decide +kernel
theorem dX8_make_4 : decode cX8_make 4 = .ok (.aload_n 0, 1) := by decide +kernel
theorem dX8_make_5 : decode cX8_make 5 = .ok (.aload_n 0, 1) := by decide +kernel
theorem dX8_make_6 : decode cX8_make 6 = .ok (.iload_n 1, 1) := by decide +kernel
theorem dX8_make_7 : decode cX8_make 7 = .ok (.invokevirtual 105, 3) := by decide +kernel
theorem dX8_make_10 : decode cX8_make 10 = .ok (.iconst 0, 1) := by decide +kernel
theorem dX8_make_11 : decode cX8_make 11 = .ok (.iconst 1, 1) := by decide +kernel
theorem dX8_make_12 : decode cX8_make 12 = .ok (.iconst 2, 1) := by decide +kernel
theorem dX8_make_13 : decode cX8_make 13 = .ok (.invokevirtual 92, 3) := by decide +kernel
theorem dX8_make_16 : decode cX8_make 16 = .ok (.ireturn, 1) := by decide +kernel
theorem dX8_isShut_0 : decode cX8_isShut 0 = .ok (.aload_n 0, 1) := by decide +kernel
theorem dX8_isShut_1 : decode cX8_isShut 1 = .ok (.getfield 7, 3) := by decide +kernel
theorem dX8_isShut_4 : decode cX8_isShut 4 = .ok (.iload_n 1, 1) := by decide +kernel
theorem dX8_isShut_5 : decode cX8_isShut 5 = .ok (.bipush 7, 2) := by decide +kernel
theorem dX8_isShut_7 : decode cX8_isShut 7 = .ok (.invokestatic 71, 3) := by decide +kernel
theorem dX8_isShut_10 : decode cX8_isShut 10 = .ok (.iaload, 1) := by decide +kernel
theorem dX8_isShut_11 : decode cX8_isShut 11 = .ok (.ifCond .eq 22, 3) := by decide +kernel
theorem dX8_isShut_14 : decode cX8_isShut 14 = .ok (.aload_n 0, 1) := by decide +kernel
theorem dX8_isShut_15 : decode cX8_isShut 15 = .ok (.iconst 3, 1) := by decide +kernel
theorem dX8_isShut_16 : decode cX8_isShut 16 = .ok (.aload_n 0, 1) := by decide +kernel
theorem dX8_isShut_17 : decode cX8_isShut 17 = .ok (.getfield 7, 3) := by decide +kernel
theorem dX8_isShut_20 : decode cX8_isShut 20 = .ok (.iload_n 1, 1) := by decide +kernel
theorem dX8_isShut_21 : decode cX8_isShut 21 = .ok (.bipush 7, 2) := by decide +kernel
theorem dX8_isShut_23 : decode cX8_isShut 23 = .ok (.invokestatic 71, 3) := by decide +kernel
theorem dX8_isShut_26 : decode cX8_isShut 26 = .ok (.iaload, 1) := by decide +kernel
theorem dX8_isShut_27 : decode cX8_isShut 27 = .ok (.invokevirtual 82, 3) := by decide +kernel
theorem dX8_isShut_30 : decode cX8_isShut 30 = .ok (.istore_n 2, 1) := by decide +kernel
theorem dX8_isShut_31 : decode cX8_isShut 31 = .ok (.iconst 1, 1) := by decide +kernel
theorem dX8_isShut_32 : decode cX8_isShut 32 = .ok (.ireturn, 1) := by decide +kernel
theorem dX8_isShut_33 : decode cX8_isShut 33 = .ok (.aload_n 0, 1) := by decide +kernel
theorem dX8_isShut_34 : decode cX8_isShut 34 = .ok (.getfield 7, 3) := by decide +kernel
theorem dX8_isShut_37 : decode cX8_isShut 37 = .ok (.iload_n 1, 1) := by decide +kernel
theorem dX8_isShut_38 : decode cX8_isShut 38 = .ok (.iconst 5, 1) := by decide +kernel
theorem dX8_isShut_39 : decode cX8_isShut 39 = .ok (.invokestatic 71, 3) := by decide +kernel
theorem dX8_isShut_42 : decode cX8_isShut 42 = .ok (.iaload, 1) := by decide +kernel
theorem dX8_isShut_43 : decode cX8_isShut 43 = .ok (.ifCond .ne 5, 3) := by decide +kernel
theorem dX8_isShut_46 : decode cX8_isShut 46 = .ok (.iconst 0, 1) := by decide +kernel
theorem dX8_isShut_47 : decode cX8_isShut 47 = .ok (.ireturn, 1) := by decide +kernel
theorem dX8_isShut_48 : decode cX8_isShut 48 = .ok (.aload_n 0, 1) := by decide +kernel
theorem dX8_isShut_49 : decode cX8_isShut 49 = .ok (.iconst 4, 1) := by decide +kernel
theorem dX8_isShut_50 : decode cX8_isShut 50 = .ok (.aload_n 0, 1) := by decide +kernel
theorem dX8_isShut_51 : decode cX8_isShut 51 = .ok (.getfield 7, 3) := by decide +kernel
theorem dX8_isShut_54 : decode cX8_isShut 54 = .ok (.iload_n 1, 1) := by decide +kernel
theorem dX8_isShut_55 : decode cX8_isShut 55 = .ok (.iconst 5, 1) := by decide +kernel
theorem dX8_isShut_56 : decode cX8_isShut 56 = .ok (.invokestatic 71, 3) := by decide +kernel
theorem dX8_isShut_59 : decode cX8_isShut 59 = .ok (.iaload, 1) := by decide +kernel
theorem dX8_isShut_60 : decode cX8_isShut 60 = .ok (.invokevirtual 82, 3) := by decide +kernel
theorem dX8_isShut_63 : decode cX8_isShut 63 = .ok (.istore_n 2, 1) := by decide +kernel
theorem dX8_isShut_64 : decode cX8_isShut 64 = .ok (.iconst 1, 1) := by decide +kernel
theorem dX8_isShut_65 : decode cX8_isShut 65 = .ok (.ireturn, 1) := by decide +kernel
theorem dX8_linesChest_0 : decode cX8_linesChest 0 = .ok (.aload_n 0, 1) := by decide +kernel
theorem dX8_linesChest_1 : decode cX8_linesChest 1 = .ok (.iload_n 1, 1) := by decide +kernel
theorem dX8_linesChest_2 : decode cX8_linesChest 2 = .ok (.invokevirtual 108, 3) := by decide +kernel
theorem dX8_linesChest_5 : decode cX8_linesChest 5 = .ok (.ifCond .ne 9, 3) := by decide +kernel
theorem dX8_linesChest_8 : decode cX8_linesChest 8 = .ok (.aload_n 0, 1) := by decide +kernel
theorem dX8_linesChest_9 : decode cX8_linesChest 9 = .ok (.iconst 1, 1) := by decide +kernel
theorem dX8_linesChest_10 : decode cX8_linesChest 10 = .ok (.invokevirtual 47, 3) := by decide +kernel
theorem dX8_linesChest_13 : decode cX8_linesChest 13 = .ok (.ireturn, 1) := by decide +kernel
theorem dX8_linesChest_14 : decode cX8_linesChest 14 = .ok (.aload_n 0, 1) := by decide +kernel
theorem dX8_linesChest_15 : decode cX8_linesChest 15 = .ok (.iload_n 1, 1) := by decide +kernel
theorem dX8_linesChest_16 : decode cX8_linesChest 16 = .ok (.invokevirtual 112, 3) := by decide +kernel
theorem dX8_linesChest_19 : decode cX8_linesChest 19 = .ok (.ifCond .eq 5, 3) := by decide +kernel
theorem dX8_linesChest_22 : decode cX8_linesChest 22 = .ok (.iconst 0, 1) := by decide +kernel
theorem dX8_linesChest_23 : decode cX8_linesChest 23 = .ok (.ireturn, 1) := by decide +kernel
theorem dX8_linesChest_24 : decode cX8_linesChest 24 = .ok (.aload_n 0, 1) := by decide +kernel
theorem dX8_linesChest_25 : decode cX8_linesChest 25 = .ok (.getfield 7, 3) := by decide +kernel
theorem dX8_linesChest_28 : decode cX8_linesChest 28 = .ok (.iload_n 1, 1) := by decide +kernel
theorem dX8_linesChest_29 : decode cX8_linesChest 29 = .ok (.iconst 0, 1) := by decide +kernel
theorem dX8_linesChest_30 : decode cX8_linesChest 30 = .ok (.invokestatic 71, 3) := by decide +kernel
theorem dX8_linesChest_33 : decode cX8_linesChest 33 = .ok (.iaload, 1) := by decide +kernel
theorem dX8_linesChest_34 : decode cX8_linesChest 34 = .ok (.istore_n 2, 1) := by decide +kernel
theorem dX8_linesChest_35 : decode cX8_linesChest 35 = .ok (.aload_n 0, 1) := by decide +kernel
theorem dX8_linesChest_36 : decode cX8_linesChest 36 = .ok (.getfield 7, 3) := by decide +kernel
theorem dX8_linesChest_39 : decode cX8_linesChest 39 = .ok (.iload_n 1, 1) := by decide +kernel
theorem dX8_linesChest_40 : decode cX8_linesChest 40 = .ok (.iconst 4, 1) := by decide +kernel
theorem dX8_linesChest_41 : decode cX8_linesChest 41 = .ok (.invokestatic 71, 3) := by decide +kernel
theorem dX8_linesChest_44 : decode cX8_linesChest 44 = .ok (.iaload, 1) := by decide +kernel
theorem dX8_linesChest_45 : decode cX8_linesChest 45 = .ok (.iconst 1, 1) := by decide +kernel
theorem dX8_linesChest_46 : decode cX8_linesChest 46 = .ok (.if_icmp .ne 10, 3) := by decide +kernel
theorem dX8_linesChest_49 : decode cX8_linesChest 49 = .ok (.aload_n 0, 1) := by decide +kernel
theorem dX8_linesChest_50 : decode cX8_linesChest 50 = .ok (.iconst 5, 1) := by decide +kernel
theorem dX8_linesChest_51 : decode cX8_linesChest 51 = .ok (.iload_n 2, 1) := by decide +kernel
theorem dX8_linesChest_52 : decode cX8_linesChest 52 = .ok (.invokevirtual 82, 3) := by decide +kernel
theorem dX8_linesChest_55 : decode cX8_linesChest 55 = .ok (.ireturn, 1) := by decide +kernel
theorem dX8_linesChest_56 : decode cX8_linesChest 56 = .ok (.aload_n 0, 1) := by decide +kernel
theorem dX8_linesChest_57 : decode cX8_linesChest 57 = .ok (.getfield 7, 3) := by decide +kernel
theorem dX8_linesChest_60 : decode cX8_linesChest 60 = .ok (.iconst 1, 1) := by decide +kernel
theorem dX8_linesChest_61 : decode cX8_linesChest 61 = .ok (.iaload, 1) := by decide +kernel
theorem dX8_linesChest_62 : decode cX8_linesChest 62 = .ok (.iconst 2, 1) := by decide +kernel
theorem dX8_linesChest_63 : decode cX8_linesChest 63 = .ok (.iload_n 2, 1) := by decide +kernel
theorem dX8_linesChest_64 : decode cX8_linesChest 64 = .ok (.imul, 1) := by decide +kernel
theorem dX8_linesChest_65 : decode cX8_linesChest 65 = .ok (.if_icmp .ge 16, 3) := by decide +kernel
theorem dX8_linesChest_68 : decode cX8_linesChest 68 = .ok (.aload_n 0, 1) := by decide +kernel
theorem dX8_linesChest_69 : decode cX8_linesChest 69 = .ok (.bipush 6, 2) := by decide +kernel
theorem dX8_linesChest_71 : decode cX8_linesChest 71 = .ok (.aload_n 0, 1) := by decide +kernel
theorem dX8_linesChest_72 : decode cX8_linesChest 72 = .ok (.getfield 7, 3) := by decide +kernel
theorem dX8_linesChest_75 : decode cX8_linesChest 75 = .ok (.iconst 1, 1) := by decide +kernel
theorem dX8_linesChest_76 : decode cX8_linesChest 76 = .ok (.iaload, 1) := by decide +kernel
theorem dX8_linesChest_77 : decode cX8_linesChest 77 = .ok (.invokevirtual 82, 3) := by decide +kernel
theorem dX8_linesChest_80 : decode cX8_linesChest 80 = .ok (.ireturn, 1) := by decide +kernel
theorem dX8_linesChest_81 : decode cX8_linesChest 81 = .ok (.aload_n 0, 1) := by decide +kernel
theorem dX8_linesChest_82 : decode cX8_linesChest 82 = .ok (.getfield 7, 3) := by decide +kernel
theorem dX8_linesChest_85 : decode cX8_linesChest 85 = .ok (.iconst 1, 1) := by decide +kernel
theorem dX8_linesChest_86 : decode cX8_linesChest 86 = .ok (.dup2, 1) := by decide +kernel
theorem dX8_linesChest_87 : decode cX8_linesChest 87 = .ok (.iaload, 1) := by decide +kernel
theorem dX8_linesChest_88 : decode cX8_linesChest 88 = .ok (.iconst 2, 1) := by decide +kernel
theorem dX8_linesChest_89 : decode cX8_linesChest 89 = .ok (.iload_n 2, 1) := by decide +kernel
theorem dX8_linesChest_90 : decode cX8_linesChest 90 = .ok (.imul, 1) := by decide +kernel
theorem dX8_linesChest_91 : decode cX8_linesChest 91 = .ok (.isub, 1) := by decide +kernel
theorem dX8_linesChest_92 : decode cX8_linesChest 92 = .ok (.iastore, 1) := by decide +kernel
theorem dX8_linesChest_93 : decode cX8_linesChest 93 = .ok (.aload_n 0, 1) := by decide +kernel
theorem dX8_linesChest_94 : decode cX8_linesChest 94 = .ok (.getfield 7, 3) := by decide +kernel
theorem dX8_linesChest_97 : decode cX8_linesChest 97 = .ok (.iload_n 1, 1) := by decide +kernel
theorem dX8_linesChest_98 : decode cX8_linesChest 98 = .ok (.iconst 4, 1) := by decide +kernel
theorem dX8_linesChest_99 : decode cX8_linesChest 99 = .ok (.invokestatic 71, 3) := by decide +kernel
theorem dX8_linesChest_102 : decode cX8_linesChest 102 = .ok (.iconst 1, 1) := by decide +kernel
theorem dX8_linesChest_103 : decode cX8_linesChest 103 = .ok (.iastore, 1) := by decide +kernel
theorem dX8_linesChest_104 : decode cX8_linesChest 104 = .ok (.aload_n 0, 1) := by decide +kernel
theorem dX8_linesChest_105 : decode cX8_linesChest 105 = .ok (.getfield 7, 3) := by decide +kernel
theorem dX8_linesChest_108 : decode cX8_linesChest 108 = .ok (.iconst 1, 1) := by decide +kernel
theorem dX8_linesChest_109 : decode cX8_linesChest 109 = .ok (.iaload, 1) := by decide +kernel
theorem dX8_linesChest_110 : decode cX8_linesChest 110 = .ok (.ireturn, 1) := by decide +kernel
theorem dX8_line_0 : decode cX8_line 0 = .ok (.aload_n 0, 1) := by decide +kernel
theorem dX8_line_1 : decode cX8_line 1 = .ok (.invokevirtual 85, 3) := by decide +kernel
theorem dX8_line_4 : decode cX8_line 4 = .ok (.aload_n 0, 1) := by decide +kernel
theorem dX8_line_5 : decode cX8_line 5 = .ok (.aload_n 0, 1) := by decide +kernel
theorem dX8_line_6 : decode cX8_line 6 = .ok (.iload_n 1, 1) := by decide +kernel
theorem dX8_line_7 : decode cX8_line 7 = .ok (.invokevirtual 115, 3) := by decide +kernel
theorem dX8_line_10 : decode cX8_line 10 = .ok (.iconst 1, 1) := by decide +kernel
theorem dX8_line_11 : decode cX8_line 11 = .ok (.iconst 0, 1) := by decide +kernel
theorem dX8_line_12 : decode cX8_line 12 = .ok (.iconst 2, 1) := by decide +kernel
theorem dX8_line_13 : decode cX8_line 13 = .ok (.invokevirtual 92, 3) := by decide +kernel
theorem dX8_line_16 : decode cX8_line 16 = .ok (.ireturn, 1) := by decide +kernel
theorem dX8_fills_0 : decode cX8_fills 0 = .ok (.aload_n 0, 1) := by decide +kernel
theorem dX8_fills_1 : decode cX8_fills 1 = .ok (.iload_n 1, 1) := by decide +kernel
theorem dX8_fills_2 : decode cX8_fills 2 = .ok (.invokevirtual 108, 3) := by decide +kernel
theorem dX8_fills_5 : decode cX8_fills 5 = .ok (.ifCond .eq 11, 3) := by decide +kernel
theorem dX8_fills_8 : decode cX8_fills 8 = .ok (.iload_n 2, 1) := by decide +kernel
theorem dX8_fills_9 : decode cX8_fills 9 = .ok (.iload_n 3, 1) := by decide +kernel
theorem dX8_fills_10 : decode cX8_fills 10 = .ok (.invokestatic 75, 3) := by decide +kernel
theorem dX8_fills_13 : decode cX8_fills 13 = .ok (.ifCond .ne 9, 3) := by decide +kernel
theorem dX8_fills_16 : decode cX8_fills 16 = .ok (.aload_n 0, 1) := by decide +kernel
theorem dX8_fills_17 : decode cX8_fills 17 = .ok (.iconst 1, 1) := by decide +kernel
theorem dX8_fills_18 : decode cX8_fills 18 = .ok (.invokevirtual 47, 3) := by decide +kernel
theorem dX8_fills_21 : decode cX8_fills 21 = .ok (.ireturn, 1) := by decide +kernel
theorem dX8_fills_22 : decode cX8_fills 22 = .ok (.iload 4, 2) := by decide +kernel
theorem dX8_fills_24 : decode cX8_fills 24 = .ok (.iconst 1, 1) := by decide +kernel
theorem dX8_fills_25 : decode cX8_fills 25 = .ok (.bipush 50, 2) := by decide +kernel
theorem dX8_fills_27 : decode cX8_fills 27 = .ok (.invokestatic 67, 3) := by decide +kernel
theorem dX8_fills_30 : decode cX8_fills 30 = .ok (.ifCond .ne 9, 3) := by decide +kernel
theorem dX8_fills_33 : decode cX8_fills 33 = .ok (.aload_n 0, 1) := by decide +kernel
theorem dX8_fills_34 : decode cX8_fills 34 = .ok (.iconst 2, 1) := by decide +kernel
theorem dX8_fills_35 : decode cX8_fills 35 = .ok (.invokevirtual 47, 3) := by decide +kernel
theorem dX8_fills_38 : decode cX8_fills 38 = .ok (.ireturn, 1) := by decide +kernel
theorem dX8_fills_39 : decode cX8_fills 39 = .ok (.aload_n 0, 1) := by decide +kernel
theorem dX8_fills_40 : decode cX8_fills 40 = .ok (.iload_n 1, 1) := by decide +kernel
theorem dX8_fills_41 : decode cX8_fills 41 = .ok (.invokevirtual 112, 3) := by decide +kernel
theorem dX8_fills_44 : decode cX8_fills 44 = .ok (.ifCond .eq 5, 3) := by decide +kernel
theorem dX8_fills_47 : decode cX8_fills 47 = .ok (.iconst 0, 1) := by decide +kernel
theorem dX8_fills_48 : decode cX8_fills 48 = .ok (.ireturn, 1) := by decide +kernel
theorem dX8_fills_49 : decode cX8_fills 49 = .ok (.iload_n 2, 1) := by decide +kernel
theorem dX8_fills_50 : decode cX8_fills 50 = .ok (.iload_n 3, 1) := by decide +kernel
theorem dX8_fills_51 : decode cX8_fills 51 = .ok (.invokestatic 79, 3) := by decide +kernel
theorem dX8_fills_54 : decode cX8_fills 54 = .ok (.istore 5, 2) := by decide +kernel
theorem dX8_fills_56 : decode cX8_fills 56 = .ok (.bipush 10, 2) := by decide +kernel
theorem dX8_fills_58 : decode cX8_fills 58 = .ok (.aload_n 0, 1) := by decide +kernel
theorem dX8_fills_59 : decode cX8_fills 59 = .ok (.getfield 7, 3) := by decide +kernel
theorem dX8_fills_62 : decode cX8_fills 62 = .ok (.iload_n 1, 1) := by decide +kernel
theorem dX8_fills_63 : decode cX8_fills 63 = .ok (.iconst 0, 1) := by decide +kernel
theorem dX8_fills_64 : decode cX8_fills 64 = .ok (.invokestatic 71, 3) := by decide +kernel
theorem dX8_fills_67 : decode cX8_fills 67 = .ok (.iaload, 1) := by decide +kernel
theorem dX8_fills_68 : decode cX8_fills 68 = .ok (.imul, 1) := by decide +kernel
theorem dX8_fills_69 : decode cX8_fills 69 = .ok (.aload_n 0, 1) := by decide +kernel
theorem dX8_fills_70 : decode cX8_fills 70 = .ok (.getfield 7, 3) := by decide +kernel
theorem dX8_fills_73 : decode cX8_fills 73 = .ok (.iload_n 1, 1) := by decide +kernel
theorem dX8_fills_74 : decode cX8_fills 74 = .ok (.iconst 3, 1) := by decide +kernel
theorem dX8_fills_75 : decode cX8_fills 75 = .ok (.invokestatic 71, 3) := by decide +kernel
theorem dX8_fills_78 : decode cX8_fills 78 = .ok (.iaload, 1) := by decide +kernel
theorem dX8_fills_79 : decode cX8_fills 79 = .ok (.isub, 1) := by decide +kernel
theorem dX8_fills_80 : decode cX8_fills 80 = .ok (.istore 6, 2) := by decide +kernel
theorem dX8_fills_82 : decode cX8_fills 82 = .ok (.aload_n 0, 1) := by decide +kernel
theorem dX8_fills_83 : decode cX8_fills 83 = .ok (.iload_n 1, 1) := by decide +kernel
theorem dX8_fills_84 : decode cX8_fills 84 = .ok (.invokevirtual 118, 3) := by decide +kernel
theorem dX8_fills_87 : decode cX8_fills 87 = .ok (.ifCond .ne 35, 3) := by decide +kernel
theorem dX8_fills_90 : decode cX8_fills 90 = .ok (.aload_n 0, 1) := by decide +kernel
theorem dX8_fills_91 : decode cX8_fills 91 = .ok (.getfield 7, 3) := by decide +kernel
theorem dX8_fills_94 : decode cX8_fills 94 = .ok (.iload_n 1, 1) := by decide +kernel
theorem dX8_fills_95 : decode cX8_fills 95 = .ok (.iconst 1, 1) := by decide +kernel
theorem dX8_fills_96 : decode cX8_fills 96 = .ok (.invokestatic 71, 3) := by decide +kernel
theorem dX8_fills_99 : decode cX8_fills 99 = .ok (.iaload, 1) := by decide +kernel
theorem dX8_fills_100 : decode cX8_fills 100 = .ok (.iload_n 2, 1) := by decide +kernel
theorem dX8_fills_101 : decode cX8_fills 101 = .ok (.if_icmp .ne 17, 3) := by decide +kernel
theorem dX8_fills_104 : decode cX8_fills 104 = .ok (.aload_n 0, 1) := by decide +kernel
theorem dX8_fills_105 : decode cX8_fills 105 = .ok (.getfield 7, 3) := by decide +kernel
theorem dX8_fills_108 : decode cX8_fills 108 = .ok (.iload_n 1, 1) := by decide +kernel
theorem dX8_fills_109 : decode cX8_fills 109 = .ok (.iconst 2, 1) := by decide +kernel
theorem dX8_fills_110 : decode cX8_fills 110 = .ok (.invokestatic 71, 3) := by decide +kernel
theorem dX8_fills_113 : decode cX8_fills 113 = .ok (.iaload, 1) := by decide +kernel
theorem dX8_fills_114 : decode cX8_fills 114 = .ok (.iload_n 3, 1) := by decide +kernel
theorem dX8_fills_115 : decode cX8_fills 115 = .ok (.if_icmp .eq 7, 3) := by decide +kernel
theorem dX8_fills_118 : decode cX8_fills 118 = .ok (.iconst 1, 1) := by decide +kernel
theorem dX8_fills_119 : decode cX8_fills 119 = .ok (.goto 4, 3) := by decide +kernel
theorem dX8_fills_122 : decode cX8_fills 122 = .ok (.iconst 0, 1) := by decide +kernel
theorem dX8_fills_123 : decode cX8_fills 123 = .ok (.istore 7, 2) := by decide +kernel
theorem dX8_fills_125 : decode cX8_fills 125 = .ok (.iload 7, 2) := by decide +kernel
theorem dX8_fills_127 : decode cX8_fills 127 = .ok (.ifCond .eq 34, 3) := by decide +kernel
theorem dX8_fills_130 : decode cX8_fills 130 = .ok (.aload_n 0, 1) := by decide +kernel
theorem dX8_fills_131 : decode cX8_fills 131 = .ok (.bipush 7, 2) := by decide +kernel
theorem dX8_fills_133 : decode cX8_fills 133 = .ok (.bipush 10, 2) := by decide +kernel
theorem dX8_fills_135 : decode cX8_fills 135 = .ok (.aload_n 0, 1) := by decide +kernel
theorem dX8_fills_136 : decode cX8_fills 136 = .ok (.getfield 7, 3) := by decide +kernel
theorem dX8_fills_139 : decode cX8_fills 139 = .ok (.iload_n 1, 1) := by decide +kernel
theorem dX8_fills_140 : decode cX8_fills 140 = .ok (.iconst 1, 1) := by decide +kernel
theorem dX8_fills_141 : decode cX8_fills 141 = .ok (.invokestatic 71, 3) := by decide +kernel
theorem dX8_fills_144 : decode cX8_fills 144 = .ok (.iaload, 1) := by decide +kernel
theorem dX8_fills_145 : decode cX8_fills 145 = .ok (.imul, 1) := by decide +kernel
theorem dX8_fills_146 : decode cX8_fills 146 = .ok (.aload_n 0, 1) := by decide +kernel
theorem dX8_fills_147 : decode cX8_fills 147 = .ok (.getfield 7, 3) := by decide +kernel
theorem dX8_fills_150 : decode cX8_fills 150 = .ok (.iload_n 1, 1) := by decide +kernel
theorem dX8_fills_151 : decode cX8_fills 151 = .ok (.iconst 2, 1) := by decide +kernel
theorem dX8_fills_152 : decode cX8_fills 152 = .ok (.invokestatic 71, 3) := by decide +kernel
theorem dX8_fills_155 : decode cX8_fills 155 = .ok (.iaload, 1) := by decide +kernel
theorem dX8_fills_156 : decode cX8_fills 156 = .ok (.iadd, 1) := by decide +kernel
theorem dX8_fills_157 : decode cX8_fills 157 = .ok (.invokevirtual 82, 3) := by decide +kernel
theorem dX8_fills_160 : decode cX8_fills 160 = .ok (.ireturn, 1) := by decide +kernel
theorem dX8_fills_161 : decode cX8_fills 161 = .ok (.iload 6, 2) := by decide +kernel
theorem dX8_fills_163 : decode cX8_fills 163 = .ok (.iload 4, 2) := by decide +kernel
theorem dX8_fills_165 : decode cX8_fills 165 = .ok (.if_icmp .ge 12, 3) := by decide +kernel
theorem dX8_fills_168 : decode cX8_fills 168 = .ok (.aload_n 0, 1) := by decide +kernel
theorem dX8_fills_169 : decode cX8_fills 169 = .ok (.bipush 8, 2) := by decide +kernel
theorem dX8_fills_171 : decode cX8_fills 171 = .ok (.iload 6, 2) := by decide +kernel
theorem dX8_fills_173 : decode cX8_fills 173 = .ok (.invokevirtual 82, 3) := by decide +kernel
theorem dX8_fills_176 : decode cX8_fills 176 = .ok (.ireturn, 1) := by decide +kernel
theorem dX8_fills_177 : decode cX8_fills 177 = .ok (.aload_n 0, 1) := by decide +kernel
theorem dX8_fills_178 : decode cX8_fills 178 = .ok (.getfield 7, 3) := by decide +kernel
theorem dX8_fills_181 : decode cX8_fills 181 = .ok (.iload 5, 2) := by decide +kernel
theorem dX8_fills_183 : decode cX8_fills 183 = .ok (.iaload, 1) := by decide +kernel
theorem dX8_fills_184 : decode cX8_fills 184 = .ok (.iload 4, 2) := by decide +kernel
theorem dX8_fills_186 : decode cX8_fills 186 = .ok (.if_icmp .ge 17, 3) := by decide +kernel
theorem dX8_fills_189 : decode cX8_fills 189 = .ok (.aload_n 0, 1) := by decide +kernel
theorem dX8_fills_190 : decode cX8_fills 190 = .ok (.bipush 9, 2) := by decide +kernel
theorem dX8_fills_192 : decode cX8_fills 192 = .ok (.aload_n 0, 1) := by decide +kernel
theorem dX8_fills_193 : decode cX8_fills 193 = .ok (.getfield 7, 3) := by decide +kernel
theorem dX8_fills_196 : decode cX8_fills 196 = .ok (.iload 5, 2) := by decide +kernel
theorem dX8_fills_198 : decode cX8_fills 198 = .ok (.iaload, 1) := by decide +kernel
theorem dX8_fills_199 : decode cX8_fills 199 = .ok (.invokevirtual 82, 3) := by decide +kernel
theorem dX8_fills_202 : decode cX8_fills 202 = .ok (.ireturn, 1) := by decide +kernel
theorem dX8_fills_203 : decode cX8_fills 203 = .ok (.aload_n 0, 1) := by decide +kernel
theorem dX8_fills_204 : decode cX8_fills 204 = .ok (.getfield 7, 3) := by decide +kernel
theorem dX8_fills_207 : decode cX8_fills 207 = .ok (.iload 5, 2) := by decide +kernel
theorem dX8_fills_209 : decode cX8_fills 209 = .ok (.dup2, 1) := by decide +kernel
theorem dX8_fills_210 : decode cX8_fills 210 = .ok (.iaload, 1) := by decide +kernel
theorem dX8_fills_211 : decode cX8_fills 211 = .ok (.iload 4, 2) := by decide +kernel
theorem dX8_fills_213 : decode cX8_fills 213 = .ok (.isub, 1) := by decide +kernel
theorem dX8_fills_214 : decode cX8_fills 214 = .ok (.iastore, 1) := by decide +kernel
theorem dX8_fills_215 : decode cX8_fills 215 = .ok (.aload_n 0, 1) := by decide +kernel
theorem dX8_fills_216 : decode cX8_fills 216 = .ok (.getfield 7, 3) := by decide +kernel
theorem dX8_fills_219 : decode cX8_fills 219 = .ok (.iload_n 1, 1) := by decide +kernel
theorem dX8_fills_220 : decode cX8_fills 220 = .ok (.iconst 1, 1) := by decide +kernel
theorem dX8_fills_221 : decode cX8_fills 221 = .ok (.invokestatic 71, 3) := by decide +kernel
theorem dX8_fills_224 : decode cX8_fills 224 = .ok (.iload_n 2, 1) := by decide +kernel
theorem dX8_fills_225 : decode cX8_fills 225 = .ok (.iastore, 1) := by decide +kernel
theorem dX8_fills_226 : decode cX8_fills 226 = .ok (.aload_n 0, 1) := by decide +kernel
theorem dX8_fills_227 : decode cX8_fills 227 = .ok (.getfield 7, 3) := by decide +kernel
theorem dX8_fills_230 : decode cX8_fills 230 = .ok (.iload_n 1, 1) := by decide +kernel
theorem dX8_fills_231 : decode cX8_fills 231 = .ok (.iconst 2, 1) := by decide +kernel
theorem dX8_fills_232 : decode cX8_fills 232 = .ok (.invokestatic 71, 3) := by decide +kernel
theorem dX8_fills_235 : decode cX8_fills 235 = .ok (.iload_n 3, 1) := by decide +kernel
theorem dX8_fills_236 : decode cX8_fills 236 = .ok (.iastore, 1) := by decide +kernel
theorem dX8_fills_237 : decode cX8_fills 237 = .ok (.aload_n 0, 1) := by decide +kernel
theorem dX8_fills_238 : decode cX8_fills 238 = .ok (.getfield 7, 3) := by decide +kernel
theorem dX8_fills_241 : decode cX8_fills 241 = .ok (.iload_n 1, 1) := by decide +kernel
theorem dX8_fills_242 : decode cX8_fills 242 = .ok (.iconst 3, 1) := by decide +kernel
theorem dX8_fills_243 : decode cX8_fills 243 = .ok (.invokestatic 71, 3) := by decide +kernel
theorem dX8_fills_246 : decode cX8_fills 246 = .ok (.dup2, 1) := by decide +kernel
theorem dX8_fills_247 : decode cX8_fills 247 = .ok (.iaload, 1) := by decide +kernel
theorem dX8_fills_248 : decode cX8_fills 248 = .ok (.iload 4, 2) := by decide +kernel
theorem dX8_fills_250 : decode cX8_fills 250 = .ok (.iadd, 1) := by decide +kernel
theorem dX8_fills_251 : decode cX8_fills 251 = .ok (.iastore, 1) := by decide +kernel
theorem dX8_fills_252 : decode cX8_fills 252 = .ok (.aload_n 0, 1) := by decide +kernel
theorem dX8_fills_253 : decode cX8_fills 253 = .ok (.getfield 7, 3) := by decide +kernel
theorem dX8_fills_256 : decode cX8_fills 256 = .ok (.iload_n 1, 1) := by decide +kernel
theorem dX8_fills_257 : decode cX8_fills 257 = .ok (.bipush 8, 2) := by decide +kernel
theorem dX8_fills_259 : decode cX8_fills 259 = .ok (.invokestatic 71, 3) := by decide +kernel
theorem dX8_fills_262 : decode cX8_fills 262 = .ok (.iconst 0, 1) := by decide +kernel
theorem dX8_fills_263 : decode cX8_fills 263 = .ok (.iastore, 1) := by decide +kernel
theorem dX8_fills_264 : decode cX8_fills 264 = .ok (.iload 6, 2) := by decide +kernel
theorem dX8_fills_266 : decode cX8_fills 266 = .ok (.iload 4, 2) := by decide +kernel
theorem dX8_fills_268 : decode cX8_fills 268 = .ok (.isub, 1) := by decide +kernel
theorem dX8_fills_269 : decode cX8_fills 269 = .ok (.ireturn, 1) := by decide +kernel
theorem dX8_fill_0 : decode cX8_fill 0 = .ok (.aload_n 0, 1) := by decide +kernel
theorem dX8_fill_1 : decode cX8_fill 1 = .ok (.invokevirtual 85, 3) := by decide +kernel
theorem dX8_fill_4 : decode cX8_fill 4 = .ok (.aload_n 0, 1) := by decide +kernel
theorem dX8_fill_5 : decode cX8_fill 5 = .ok (.aload_n 0, 1) := by decide +kernel
theorem dX8_fill_6 : decode cX8_fill 6 = .ok (.iload_n 1, 1) := by decide +kernel
theorem dX8_fill_7 : decode cX8_fill 7 = .ok (.iload_n 2, 1) := by decide +kernel
theorem dX8_fill_8 : decode cX8_fill 8 = .ok (.iload_n 3, 1) := by decide +kernel
theorem dX8_fill_9 : decode cX8_fill 9 = .ok (.iload 4, 2) := by decide +kernel
theorem dX8_fill_11 : decode cX8_fill 11 = .ok (.invokevirtual 121, 3) := by decide +kernel
theorem dX8_fill_14 : decode cX8_fill 14 = .ok (.iconst 1, 1) := by decide +kernel
theorem dX8_fill_15 : decode cX8_fill 15 = .ok (.iconst 2, 1) := by decide +kernel
theorem dX8_fill_16 : decode cX8_fill 16 = .ok (.iconst 3, 1) := by decide +kernel
theorem dX8_fill_17 : decode cX8_fill 17 = .ok (.invokevirtual 92, 3) := by decide +kernel
theorem dX8_fill_20 : decode cX8_fill 20 = .ok (.ireturn, 1) := by decide +kernel
theorem dX8_empties_0 : decode cX8_empties 0 = .ok (.aload_n 0, 1) := by decide +kernel
theorem dX8_empties_1 : decode cX8_empties 1 = .ok (.iload_n 1, 1) := by decide +kernel
theorem dX8_empties_2 : decode cX8_empties 2 = .ok (.invokevirtual 108, 3) := by decide +kernel
theorem dX8_empties_5 : decode cX8_empties 5 = .ok (.ifCond .ne 9, 3) := by decide +kernel
theorem dX8_empties_8 : decode cX8_empties 8 = .ok (.aload_n 0, 1) := by decide +kernel
theorem dX8_empties_9 : decode cX8_empties 9 = .ok (.iconst 1, 1) := by decide +kernel
theorem dX8_empties_10 : decode cX8_empties 10 = .ok (.invokevirtual 47, 3) := by decide +kernel
theorem dX8_empties_13 : decode cX8_empties 13 = .ok (.ireturn, 1) := by decide +kernel
theorem dX8_empties_14 : decode cX8_empties 14 = .ok (.aload_n 0, 1) := by decide +kernel
theorem dX8_empties_15 : decode cX8_empties 15 = .ok (.iload_n 1, 1) := by decide +kernel
theorem dX8_empties_16 : decode cX8_empties 16 = .ok (.invokevirtual 112, 3) := by decide +kernel
theorem dX8_empties_19 : decode cX8_empties 19 = .ok (.ifCond .eq 5, 3) := by decide +kernel
theorem dX8_empties_22 : decode cX8_empties 22 = .ok (.iconst 0, 1) := by decide +kernel
theorem dX8_empties_23 : decode cX8_empties 23 = .ok (.ireturn, 1) := by decide +kernel
theorem dX8_empties_24 : decode cX8_empties 24 = .ok (.aload_n 0, 1) := by decide +kernel
theorem dX8_empties_25 : decode cX8_empties 25 = .ok (.iload_n 1, 1) := by decide +kernel
theorem dX8_empties_26 : decode cX8_empties 26 = .ok (.invokevirtual 118, 3) := by decide +kernel
theorem dX8_empties_29 : decode cX8_empties 29 = .ok (.ifCond .eq 11, 3) := by decide +kernel
theorem dX8_empties_32 : decode cX8_empties 32 = .ok (.aload_n 0, 1) := by decide +kernel
theorem dX8_empties_33 : decode cX8_empties 33 = .ok (.bipush 10, 2) := by decide +kernel
theorem dX8_empties_35 : decode cX8_empties 35 = .ok (.iload_n 1, 1) := by decide +kernel
theorem dX8_empties_36 : decode cX8_empties 36 = .ok (.invokevirtual 82, 3) := by decide +kernel
theorem dX8_empties_39 : decode cX8_empties 39 = .ok (.ireturn, 1) := by decide +kernel
theorem dX8_empties_40 : decode cX8_empties 40 = .ok (.aload_n 0, 1) := by decide +kernel
theorem dX8_empties_41 : decode cX8_empties 41 = .ok (.getfield 7, 3) := by decide +kernel
theorem dX8_empties_44 : decode cX8_empties 44 = .ok (.iload_n 1, 1) := by decide +kernel
theorem dX8_empties_45 : decode cX8_empties 45 = .ok (.iconst 1, 1) := by decide +kernel
theorem dX8_empties_46 : decode cX8_empties 46 = .ok (.invokestatic 71, 3) := by decide +kernel
theorem dX8_empties_49 : decode cX8_empties 49 = .ok (.iaload, 1) := by decide +kernel
theorem dX8_empties_50 : decode cX8_empties 50 = .ok (.aload_n 0, 1) := by decide +kernel
theorem dX8_empties_51 : decode cX8_empties 51 = .ok (.getfield 7, 3) := by decide +kernel
theorem dX8_empties_54 : decode cX8_empties 54 = .ok (.iload_n 1, 1) := by decide +kernel
theorem dX8_empties_55 : decode cX8_empties 55 = .ok (.iconst 2, 1) := by decide +kernel
theorem dX8_empties_56 : decode cX8_empties 56 = .ok (.invokestatic 71, 3) := by decide +kernel
theorem dX8_empties_59 : decode cX8_empties 59 = .ok (.iaload, 1) := by decide +kernel
theorem dX8_empties_60 : decode cX8_empties 60 = .ok (.invokestatic 79, 3) := by decide +kernel
theorem dX8_empties_63 : decode cX8_empties 63 = .ok (.istore_n 2, 1) := by decide +kernel
theorem dX8_empties_64 : decode cX8_empties 64 = .ok (.aload_n 0, 1) := by decide +kernel
theorem dX8_empties_65 : decode cX8_empties 65 = .ok (.getfield 7, 3) := by decide +kernel
theorem dX8_empties_68 : decode cX8_empties 68 = .ok (.iload_n 1, 1) := by decide +kernel
theorem dX8_empties_69 : decode cX8_empties 69 = .ok (.iconst 3, 1) := by decide +kernel
theorem dX8_empties_70 : decode cX8_empties 70 = .ok (.invokestatic 71, 3) := by decide +kernel
theorem dX8_empties_73 : decode cX8_empties 73 = .ok (.iaload, 1) := by decide +kernel
theorem dX8_empties_74 : decode cX8_empties 74 = .ok (.istore_n 3, 1) := by decide +kernel
theorem dX8_empties_75 : decode cX8_empties 75 = .ok (.iload_n 3, 1) := by decide +kernel
theorem dX8_empties_76 : decode cX8_empties 76 = .ok (.sipush 500, 3) := by decide +kernel
theorem dX8_empties_79 : decode cX8_empties 79 = .ok (.aload_n 0, 1) := by decide +kernel
theorem dX8_empties_80 : decode cX8_empties 80 = .ok (.getfield 7, 3) := by decide +kernel
theorem dX8_empties_83 : decode cX8_empties 83 = .ok (.iload_n 2, 1) := by decide +kernel
theorem dX8_empties_84 : decode cX8_empties 84 = .ok (.iaload, 1) := by decide +kernel
theorem dX8_empties_85 : decode cX8_empties 85 = .ok (.isub, 1) := by decide +kernel
theorem dX8_empties_86 : decode cX8_empties 86 = .ok (.invokestatic 99, 3) := by decide +kernel
theorem dX8_empties_89 : decode cX8_empties 89 = .ok (.istore 4, 2) := by decide +kernel
theorem dX8_empties_91 : decode cX8_empties 91 = .ok (.aload_n 0, 1) := by decide +kernel
theorem dX8_empties_92 : decode cX8_empties 92 = .ok (.getfield 7, 3) := by decide +kernel
theorem dX8_empties_95 : decode cX8_empties 95 = .ok (.iload_n 2, 1) := by decide +kernel
theorem dX8_empties_96 : decode cX8_empties 96 = .ok (.dup2, 1) := by decide +kernel
theorem dX8_empties_97 : decode cX8_empties 97 = .ok (.iaload, 1) := by decide +kernel
theorem dX8_empties_98 : decode cX8_empties 98 = .ok (.iload 4, 2) := by decide +kernel
theorem dX8_empties_100 : decode cX8_empties 100 = .ok (.iadd, 1) := by decide +kernel
theorem dX8_empties_101 : decode cX8_empties 101 = .ok (.iastore, 1) := by decide +kernel
theorem dX8_empties_102 : decode cX8_empties 102 = .ok (.aload_n 0, 1) := by decide +kernel
theorem dX8_empties_103 : decode cX8_empties 103 = .ok (.getfield 7, 3) := by decide +kernel
theorem dX8_empties_106 : decode cX8_empties 106 = .ok (.bipush 8, 2) := by decide +kernel
theorem dX8_empties_108 : decode cX8_empties 108 = .ok (.dup2, 1) := by decide +kernel
theorem dX8_empties_109 : decode cX8_empties 109 = .ok (.iaload, 1) := by decide +kernel
theorem dX8_empties_110 : decode cX8_empties 110 = .ok (.iload_n 3, 1) := by decide +kernel
theorem dX8_empties_111 : decode cX8_empties 111 = .ok (.iload 4, 2) := by decide +kernel
theorem dX8_empties_113 : decode cX8_empties 113 = .ok (.isub, 1) := by decide +kernel
theorem dX8_empties_114 : decode cX8_empties 114 = .ok (.iadd, 1) := by decide +kernel
theorem dX8_empties_115 : decode cX8_empties 115 = .ok (.iastore, 1) := by decide +kernel
theorem dX8_empties_116 : decode cX8_empties 116 = .ok (.aload_n 0, 1) := by decide +kernel
theorem dX8_empties_117 : decode cX8_empties 117 = .ok (.getfield 7, 3) := by decide +kernel
theorem dX8_empties_120 : decode cX8_empties 120 = .ok (.iload_n 1, 1) := by decide +kernel
theorem dX8_empties_121 : decode cX8_empties 121 = .ok (.iconst 1, 1) := by decide +kernel
theorem dX8_empties_122 : decode cX8_empties 122 = .ok (.invokestatic 71, 3) := by decide +kernel
theorem dX8_empties_125 : decode cX8_empties 125 = .ok (.iconst (-1), 1) := by decide +kernel
theorem dX8_empties_126 : decode cX8_empties 126 = .ok (.iastore, 1) := by decide +kernel
theorem dX8_empties_127 : decode cX8_empties 127 = .ok (.aload_n 0, 1) := by decide +kernel
theorem dX8_empties_128 : decode cX8_empties 128 = .ok (.getfield 7, 3) := by decide +kernel
theorem dX8_empties_131 : decode cX8_empties 131 = .ok (.iload_n 1, 1) := by decide +kernel
theorem dX8_empties_132 : decode cX8_empties 132 = .ok (.iconst 2, 1) := by decide +kernel
theorem dX8_empties_133 : decode cX8_empties 133 = .ok (.invokestatic 71, 3) := by decide +kernel
theorem dX8_empties_136 : decode cX8_empties 136 = .ok (.iconst (-1), 1) := by decide +kernel
theorem dX8_empties_137 : decode cX8_empties 137 = .ok (.iastore, 1) := by decide +kernel
theorem dX8_empties_138 : decode cX8_empties 138 = .ok (.aload_n 0, 1) := by decide +kernel
theorem dX8_empties_139 : decode cX8_empties 139 = .ok (.getfield 7, 3) := by decide +kernel
theorem dX8_empties_142 : decode cX8_empties 142 = .ok (.iload_n 1, 1) := by decide +kernel
theorem dX8_empties_143 : decode cX8_empties 143 = .ok (.iconst 3, 1) := by decide +kernel
theorem dX8_empties_144 : decode cX8_empties 144 = .ok (.invokestatic 71, 3) := by decide +kernel
theorem dX8_empties_147 : decode cX8_empties 147 = .ok (.iconst 0, 1) := by decide +kernel
theorem dX8_empties_148 : decode cX8_empties 148 = .ok (.iastore, 1) := by decide +kernel
theorem dX8_empties_149 : decode cX8_empties 149 = .ok (.aload_n 0, 1) := by decide +kernel
theorem dX8_empties_150 : decode cX8_empties 150 = .ok (.getfield 7, 3) := by decide +kernel
theorem dX8_empties_153 : decode cX8_empties 153 = .ok (.iload_n 1, 1) := by decide +kernel
theorem dX8_empties_154 : decode cX8_empties 154 = .ok (.bipush 6, 2) := by decide +kernel
theorem dX8_empties_156 : decode cX8_empties 156 = .ok (.invokestatic 71, 3) := by decide +kernel
theorem dX8_empties_159 : decode cX8_empties 159 = .ok (.iconst 0, 1) := by decide +kernel
theorem dX8_empties_160 : decode cX8_empties 160 = .ok (.iastore, 1) := by decide +kernel
theorem dX8_empties_161 : decode cX8_empties 161 = .ok (.aload_n 0, 1) := by decide +kernel
theorem dX8_empties_162 : decode cX8_empties 162 = .ok (.getfield 7, 3) := by decide +kernel
theorem dX8_empties_165 : decode cX8_empties 165 = .ok (.iload_n 1, 1) := by decide +kernel
theorem dX8_empties_166 : decode cX8_empties 166 = .ok (.bipush 8, 2) := by decide +kernel
theorem dX8_empties_168 : decode cX8_empties 168 = .ok (.invokestatic 71, 3) := by decide +kernel
theorem dX8_empties_171 : decode cX8_empties 171 = .ok (.iconst 0, 1) := by decide +kernel
theorem dX8_empties_172 : decode cX8_empties 172 = .ok (.iastore, 1) := by decide +kernel
theorem dX8_empties_173 : decode cX8_empties 173 = .ok (.iload_n 3, 1) := by decide +kernel
theorem dX8_empties_174 : decode cX8_empties 174 = .ok (.ireturn, 1) := by decide +kernel
theorem dX8_empty_0 : decode cX8_empty 0 = .ok (.aload_n 0, 1) := by decide +kernel
theorem dX8_empty_1 : decode cX8_empty 1 = .ok (.invokevirtual 85, 3) := by decide +kernel
theorem dX8_empty_4 : decode cX8_empty 4 = .ok (.aload_n 0, 1) := by decide +kernel
theorem dX8_empty_5 : decode cX8_empty 5 = .ok (.aload_n 0, 1) := by decide +kernel
theorem dX8_empty_6 : decode cX8_empty 6 = .ok (.iload_n 1, 1) := by decide +kernel
theorem dX8_empty_7 : decode cX8_empty 7 = .ok (.invokevirtual 124, 3) := by decide +kernel
theorem dX8_empty_10 : decode cX8_empty 10 = .ok (.iconst 1, 1) := by decide +kernel
theorem dX8_empty_11 : decode cX8_empty 11 = .ok (.iconst 0, 1) := by decide +kernel
theorem dX8_empty_12 : decode cX8_empty 12 = .ok (.iconst 2, 1) := by decide +kernel
theorem dX8_empty_13 : decode cX8_empty 13 = .ok (.invokevirtual 92, 3) := by decide +kernel
theorem dX8_empty_16 : decode cX8_empty 16 = .ok (.ireturn, 1) := by decide +kernel
theorem dX8_screws_0 : decode cX8_screws 0 = .ok (.aload_n 0, 1) := by decide +kernel
theorem dX8_screws_1 : decode cX8_screws 1 = .ok (.iload_n 1, 1) := by decide +kernel
theorem dX8_screws_2 : decode cX8_screws 2 = .ok (.invokevirtual 108, 3) := by decide +kernel
theorem dX8_screws_5 : decode cX8_screws 5 = .ok (.ifCond .ne 9, 3) := by decide +kernel
theorem dX8_screws_8 : decode cX8_screws 8 = .ok (.aload_n 0, 1) := by decide +kernel
theorem dX8_screws_9 : decode cX8_screws 9 = .ok (.iconst 1, 1) := by decide +kernel
theorem dX8_screws_10 : decode cX8_screws 10 = .ok (.invokevirtual 47, 3) := by decide +kernel
theorem dX8_screws_13 : decode cX8_screws 13 = .ok (.ireturn, 1) := by decide +kernel
theorem dX8_screws_14 : decode cX8_screws 14 = .ok (.iload_n 2, 1) := by decide +kernel
theorem dX8_screws_15 : decode cX8_screws 15 = .ok (.iconst 1, 1) := by decide +kernel
theorem dX8_screws_16 : decode cX8_screws 16 = .ok (.bipush 8, 2) := by decide +kernel
theorem dX8_screws_18 : decode cX8_screws 18 = .ok (.invokestatic 67, 3) := by decide +kernel
theorem dX8_screws_21 : decode cX8_screws 21 = .ok (.ifCond .ne 9, 3) := by decide +kernel
theorem dX8_screws_24 : decode cX8_screws 24 = .ok (.aload_n 0, 1) := by decide +kernel
theorem dX8_screws_25 : decode cX8_screws 25 = .ok (.iconst 2, 1) := by decide +kernel
theorem dX8_screws_26 : decode cX8_screws 26 = .ok (.invokevirtual 47, 3) := by decide +kernel
theorem dX8_screws_29 : decode cX8_screws 29 = .ok (.ireturn, 1) := by decide +kernel
theorem dX8_screws_30 : decode cX8_screws 30 = .ok (.aload_n 0, 1) := by decide +kernel
theorem dX8_screws_31 : decode cX8_screws 31 = .ok (.getfield 7, 3) := by decide +kernel
theorem dX8_screws_34 : decode cX8_screws 34 = .ok (.iload_n 1, 1) := by decide +kernel
theorem dX8_screws_35 : decode cX8_screws 35 = .ok (.bipush 7, 2) := by decide +kernel
theorem dX8_screws_37 : decode cX8_screws 37 = .ok (.invokestatic 71, 3) := by decide +kernel
theorem dX8_screws_40 : decode cX8_screws 40 = .ok (.iaload, 1) := by decide +kernel
theorem dX8_screws_41 : decode cX8_screws 41 = .ok (.ifCond .eq 20, 3) := by decide +kernel
theorem dX8_screws_44 : decode cX8_screws 44 = .ok (.aload_n 0, 1) := by decide +kernel
theorem dX8_screws_45 : decode cX8_screws 45 = .ok (.iconst 3, 1) := by decide +kernel
theorem dX8_screws_46 : decode cX8_screws 46 = .ok (.aload_n 0, 1) := by decide +kernel
theorem dX8_screws_47 : decode cX8_screws 47 = .ok (.getfield 7, 3) := by decide +kernel
theorem dX8_screws_50 : decode cX8_screws 50 = .ok (.iload_n 1, 1) := by decide +kernel
theorem dX8_screws_51 : decode cX8_screws 51 = .ok (.bipush 7, 2) := by decide +kernel
theorem dX8_screws_53 : decode cX8_screws 53 = .ok (.invokestatic 71, 3) := by decide +kernel
theorem dX8_screws_56 : decode cX8_screws 56 = .ok (.iaload, 1) := by decide +kernel
theorem dX8_screws_57 : decode cX8_screws 57 = .ok (.invokevirtual 82, 3) := by decide +kernel
theorem dX8_screws_60 : decode cX8_screws 60 = .ok (.ireturn, 1) := by decide +kernel
theorem dX8_screws_61 : decode cX8_screws 61 = .ok (.aload_n 0, 1) := by decide +kernel
theorem dX8_screws_62 : decode cX8_screws 62 = .ok (.iload_n 1, 1) := by decide +kernel
theorem dX8_screws_63 : decode cX8_screws 63 = .ok (.invokevirtual 118, 3) := by decide +kernel
theorem dX8_screws_66 : decode cX8_screws 66 = .ok (.ifCond .eq 11, 3) := by decide +kernel
theorem dX8_screws_69 : decode cX8_screws 69 = .ok (.aload_n 0, 1) := by decide +kernel
theorem dX8_screws_70 : decode cX8_screws 70 = .ok (.bipush 10, 2) := by decide +kernel
theorem dX8_screws_72 : decode cX8_screws 72 = .ok (.iload_n 1, 1) := by decide +kernel
theorem dX8_screws_73 : decode cX8_screws 73 = .ok (.invokevirtual 82, 3) := by decide +kernel
theorem dX8_screws_76 : decode cX8_screws 76 = .ok (.ireturn, 1) := by decide +kernel
theorem dX8_screws_77 : decode cX8_screws 77 = .ok (.aload_n 0, 1) := by decide +kernel
theorem dX8_screws_78 : decode cX8_screws 78 = .ok (.getfield 7, 3) := by decide +kernel
theorem dX8_screws_81 : decode cX8_screws 81 = .ok (.iconst 2, 1) := by decide +kernel
theorem dX8_screws_82 : decode cX8_screws 82 = .ok (.iaload, 1) := by decide +kernel
theorem dX8_screws_83 : decode cX8_screws 83 = .ok (.iload_n 2, 1) := by decide +kernel
theorem dX8_screws_84 : decode cX8_screws 84 = .ok (.if_icmp .ge 16, 3) := by decide +kernel
theorem dX8_screws_87 : decode cX8_screws 87 = .ok (.aload_n 0, 1) := by decide +kernel
theorem dX8_screws_88 : decode cX8_screws 88 = .ok (.bipush 11, 2) := by decide +kernel
theorem dX8_screws_90 : decode cX8_screws 90 = .ok (.aload_n 0, 1) := by decide +kernel
theorem dX8_screws_91 : decode cX8_screws 91 = .ok (.getfield 7, 3) := by decide +kernel
theorem dX8_screws_94 : decode cX8_screws 94 = .ok (.iconst 2, 1) := by decide +kernel
theorem dX8_screws_95 : decode cX8_screws 95 = .ok (.iaload, 1) := by decide +kernel
theorem dX8_screws_96 : decode cX8_screws 96 = .ok (.invokevirtual 82, 3) := by decide +kernel
theorem dX8_screws_99 : decode cX8_screws 99 = .ok (.ireturn, 1) := by decide +kernel
theorem dX8_screws_100 : decode cX8_screws 100 = .ok (.aload_n 0, 1) := by decide +kernel
theorem dX8_screws_101 : decode cX8_screws 101 = .ok (.getfield 7, 3) := by decide +kernel
theorem dX8_screws_104 : decode cX8_screws 104 = .ok (.iload_n 1, 1) := by decide +kernel
theorem dX8_screws_105 : decode cX8_screws 105 = .ok (.iconst 5, 1) := by decide +kernel
theorem dX8_screws_106 : decode cX8_screws 106 = .ok (.invokestatic 71, 3) := by decide +kernel
theorem dX8_screws_109 : decode cX8_screws 109 = .ok (.iaload, 1) := by decide +kernel
theorem dX8_screws_110 : decode cX8_screws 110 = .ok (.iload_n 2, 1) := by decide +kernel
theorem dX8_screws_111 : decode cX8_screws 111 = .ok (.iadd, 1) := by decide +kernel
theorem dX8_screws_112 : decode cX8_screws 112 = .ok (.bipush 8, 2) := by decide +kernel
theorem dX8_screws_114 : decode cX8_screws 114 = .ok (.if_icmp .le 20, 3) := by decide +kernel
theorem dX8_screws_117 : decode cX8_screws 117 = .ok (.aload_n 0, 1) := by decide +kernel
theorem dX8_screws_118 : decode cX8_screws 118 = .ok (.bipush 12, 2) := by decide +kernel
theorem dX8_screws_120 : decode cX8_screws 120 = .ok (.aload_n 0, 1) := by decide +kernel
theorem dX8_screws_121 : decode cX8_screws 121 = .ok (.getfield 7, 3) := by decide +kernel
theorem dX8_screws_124 : decode cX8_screws 124 = .ok (.iload_n 1, 1) := by decide +kernel
theorem dX8_screws_125 : decode cX8_screws 125 = .ok (.iconst 5, 1) := by decide +kernel
theorem dX8_screws_126 : decode cX8_screws 126 = .ok (.invokestatic 71, 3) := by decide +kernel
theorem dX8_screws_129 : decode cX8_screws 129 = .ok (.iaload, 1) := by decide +kernel
theorem dX8_screws_130 : decode cX8_screws 130 = .ok (.invokevirtual 82, 3) := by decide +kernel
theorem dX8_screws_133 : decode cX8_screws 133 = .ok (.ireturn, 1) := by decide +kernel
theorem dX8_screws_134 : decode cX8_screws 134 = .ok (.aload_n 0, 1) := by decide +kernel
theorem dX8_screws_135 : decode cX8_screws 135 = .ok (.getfield 7, 3) := by decide +kernel
theorem dX8_screws_138 : decode cX8_screws 138 = .ok (.iconst 2, 1) := by decide +kernel
theorem dX8_screws_139 : decode cX8_screws 139 = .ok (.dup2, 1) := by decide +kernel
theorem dX8_screws_140 : decode cX8_screws 140 = .ok (.iaload, 1) := by decide +kernel
theorem dX8_screws_141 : decode cX8_screws 141 = .ok (.iload_n 2, 1) := by decide +kernel
theorem dX8_screws_142 : decode cX8_screws 142 = .ok (.isub, 1) := by decide +kernel
theorem dX8_screws_143 : decode cX8_screws 143 = .ok (.iastore, 1) := by decide +kernel
theorem dX8_screws_144 : decode cX8_screws 144 = .ok (.aload_n 0, 1) := by decide +kernel
theorem dX8_screws_145 : decode cX8_screws 145 = .ok (.getfield 7, 3) := by decide +kernel
theorem dX8_screws_148 : decode cX8_screws 148 = .ok (.iload_n 1, 1) := by decide +kernel
theorem dX8_screws_149 : decode cX8_screws 149 = .ok (.iconst 5, 1) := by decide +kernel
theorem dX8_screws_150 : decode cX8_screws 150 = .ok (.invokestatic 71, 3) := by decide +kernel
theorem dX8_screws_153 : decode cX8_screws 153 = .ok (.dup2, 1) := by decide +kernel
theorem dX8_screws_154 : decode cX8_screws 154 = .ok (.iaload, 1) := by decide +kernel
theorem dX8_screws_155 : decode cX8_screws 155 = .ok (.iload_n 2, 1) := by decide +kernel
theorem dX8_screws_156 : decode cX8_screws 156 = .ok (.iadd, 1) := by decide +kernel
theorem dX8_screws_157 : decode cX8_screws 157 = .ok (.iastore, 1) := by decide +kernel
theorem dX8_screws_158 : decode cX8_screws 158 = .ok (.aload_n 0, 1) := by decide +kernel
theorem dX8_screws_159 : decode cX8_screws 159 = .ok (.iload_n 1, 1) := by decide +kernel
theorem dX8_screws_160 : decode cX8_screws 160 = .ok (.invokevirtual 127, 3) := by decide +kernel
theorem dX8_screws_163 : decode cX8_screws 163 = .ok (.ifCond .eq 7, 3) := by decide +kernel
theorem dX8_screws_166 : decode cX8_screws 166 = .ok (.iconst 1, 1) := by decide +kernel
theorem dX8_screws_167 : decode cX8_screws 167 = .ok (.goto 4, 3) := by decide +kernel
theorem dX8_screws_170 : decode cX8_screws 170 = .ok (.iconst 0, 1) := by decide +kernel
theorem dX8_screws_171 : decode cX8_screws 171 = .ok (.ireturn, 1) := by decide +kernel
theorem dX8_screw_0 : decode cX8_screw 0 = .ok (.aload_n 0, 1) := by decide +kernel
theorem dX8_screw_1 : decode cX8_screw 1 = .ok (.invokevirtual 85, 3) := by decide +kernel
theorem dX8_screw_4 : decode cX8_screw 4 = .ok (.aload_n 0, 1) := by decide +kernel
theorem dX8_screw_5 : decode cX8_screw 5 = .ok (.aload_n 0, 1) := by decide +kernel
theorem dX8_screw_6 : decode cX8_screw 6 = .ok (.iload_n 1, 1) := by decide +kernel
theorem dX8_screw_7 : decode cX8_screw 7 = .ok (.iload_n 2, 1) := by decide +kernel
theorem dX8_screw_8 : decode cX8_screw 8 = .ok (.invokevirtual 130, 3) := by decide +kernel
theorem dX8_screw_11 : decode cX8_screw 11 = .ok (.iconst 1, 1) := by decide +kernel
theorem dX8_screw_12 : decode cX8_screw 12 = .ok (.iconst 2, 1) := by decide +kernel
theorem dX8_screw_13 : decode cX8_screw 13 = .ok (.iconst 3, 1) := by decide +kernel
theorem dX8_screw_14 : decode cX8_screw 14 = .ok (.invokevirtual 92, 3) := by decide +kernel
theorem dX8_screw_17 : decode cX8_screw 17 = .ok (.iconst 1, 1) := by decide +kernel
theorem dX8_screw_18 : decode cX8_screw 18 = .ok (.if_icmp .ne 7, 3) := by decide +kernel
theorem dX8_screw_21 : decode cX8_screw 21 = .ok (.iconst 1, 1) := by decide +kernel
theorem dX8_screw_22 : decode cX8_screw 22 = .ok (.goto 4, 3) := by decide +kernel
theorem dX8_screw_25 : decode cX8_screw 25 = .ok (.iconst 0, 1) := by decide +kernel
theorem dX8_screw_26 : decode cX8_screw 26 = .ok (.ireturn, 1) := by decide +kernel
theorem dX8_unscrews_0 : decode cX8_unscrews 0 = .ok (.aload_n 0, 1) := by decide +kernel
theorem dX8_unscrews_1 : decode cX8_unscrews 1 = .ok (.iload_n 1, 1) := by decide +kernel
theorem dX8_unscrews_2 : decode cX8_unscrews 2 = .ok (.invokevirtual 108, 3) := by decide +kernel
theorem dX8_unscrews_5 : decode cX8_unscrews 5 = .ok (.ifCond .ne 9, 3) := by decide +kernel
theorem dX8_unscrews_8 : decode cX8_unscrews 8 = .ok (.aload_n 0, 1) := by decide +kernel
theorem dX8_unscrews_9 : decode cX8_unscrews 9 = .ok (.iconst 1, 1) := by decide +kernel
theorem dX8_unscrews_10 : decode cX8_unscrews 10 = .ok (.invokevirtual 47, 3) := by decide +kernel
theorem dX8_unscrews_13 : decode cX8_unscrews 13 = .ok (.ireturn, 1) := by decide +kernel
theorem dX8_unscrews_14 : decode cX8_unscrews 14 = .ok (.aload_n 0, 1) := by decide +kernel
theorem dX8_unscrews_15 : decode cX8_unscrews 15 = .ok (.getfield 7, 3) := by decide +kernel
theorem dX8_unscrews_18 : decode cX8_unscrews 18 = .ok (.iload_n 1, 1) := by decide +kernel
theorem dX8_unscrews_19 : decode cX8_unscrews 19 = .ok (.bipush 7, 2) := by decide +kernel
theorem dX8_unscrews_21 : decode cX8_unscrews 21 = .ok (.invokestatic 71, 3) := by decide +kernel
theorem dX8_unscrews_24 : decode cX8_unscrews 24 = .ok (.iaload, 1) := by decide +kernel
theorem dX8_unscrews_25 : decode cX8_unscrews 25 = .ok (.ifCond .eq 20, 3) := by decide +kernel
theorem dX8_unscrews_28 : decode cX8_unscrews 28 = .ok (.aload_n 0, 1) := by decide +kernel
theorem dX8_unscrews_29 : decode cX8_unscrews 29 = .ok (.iconst 3, 1) := by decide +kernel
theorem dX8_unscrews_30 : decode cX8_unscrews 30 = .ok (.aload_n 0, 1) := by decide +kernel
theorem dX8_unscrews_31 : decode cX8_unscrews 31 = .ok (.getfield 7, 3) := by decide +kernel
theorem dX8_unscrews_34 : decode cX8_unscrews 34 = .ok (.iload_n 1, 1) := by decide +kernel
theorem dX8_unscrews_35 : decode cX8_unscrews 35 = .ok (.bipush 7, 2) := by decide +kernel
theorem dX8_unscrews_37 : decode cX8_unscrews 37 = .ok (.invokestatic 71, 3) := by decide +kernel
theorem dX8_unscrews_40 : decode cX8_unscrews 40 = .ok (.iaload, 1) := by decide +kernel
theorem dX8_unscrews_41 : decode cX8_unscrews 41 = .ok (.invokevirtual 82, 3) := by decide +kernel
theorem dX8_unscrews_44 : decode cX8_unscrews 44 = .ok (.ireturn, 1) := by decide +kernel
theorem dX8_unscrews_45 : decode cX8_unscrews 45 = .ok (.aload_n 0, 1) := by decide +kernel
theorem dX8_unscrews_46 : decode cX8_unscrews 46 = .ok (.getfield 7, 3) := by decide +kernel
theorem dX8_unscrews_49 : decode cX8_unscrews 49 = .ok (.iload_n 1, 1) := by decide +kernel
theorem dX8_unscrews_50 : decode cX8_unscrews 50 = .ok (.iconst 5, 1) := by decide +kernel
theorem dX8_unscrews_51 : decode cX8_unscrews 51 = .ok (.invokestatic 71, 3) := by decide +kernel
theorem dX8_unscrews_54 : decode cX8_unscrews 54 = .ok (.iaload, 1) := by decide +kernel
theorem dX8_unscrews_55 : decode cX8_unscrews 55 = .ok (.istore_n 2, 1) := by decide +kernel
theorem dX8_unscrews_56 : decode cX8_unscrews 56 = .ok (.aload_n 0, 1) := by decide +kernel
theorem dX8_unscrews_57 : decode cX8_unscrews 57 = .ok (.getfield 7, 3) := by decide +kernel
theorem dX8_unscrews_60 : decode cX8_unscrews 60 = .ok (.iconst 2, 1) := by decide +kernel
theorem dX8_unscrews_61 : decode cX8_unscrews 61 = .ok (.sipush 200, 3) := by decide +kernel
theorem dX8_unscrews_64 : decode cX8_unscrews 64 = .ok (.aload_n 0, 1) := by decide +kernel
theorem dX8_unscrews_65 : decode cX8_unscrews 65 = .ok (.getfield 7, 3) := by decide +kernel
theorem dX8_unscrews_68 : decode cX8_unscrews 68 = .ok (.iconst 2, 1) := by decide +kernel
theorem dX8_unscrews_69 : decode cX8_unscrews 69 = .ok (.iaload, 1) := by decide +kernel
theorem dX8_unscrews_70 : decode cX8_unscrews 70 = .ok (.iload_n 2, 1) := by decide +kernel
theorem dX8_unscrews_71 : decode cX8_unscrews 71 = .ok (.iadd, 1) := by decide +kernel
theorem dX8_unscrews_72 : decode cX8_unscrews 72 = .ok (.invokestatic 99, 3) := by decide +kernel
theorem dX8_unscrews_75 : decode cX8_unscrews 75 = .ok (.iastore, 1) := by decide +kernel
theorem dX8_unscrews_76 : decode cX8_unscrews 76 = .ok (.aload_n 0, 1) := by decide +kernel
theorem dX8_unscrews_77 : decode cX8_unscrews 77 = .ok (.getfield 7, 3) := by decide +kernel
theorem dX8_unscrews_80 : decode cX8_unscrews 80 = .ok (.iload_n 1, 1) := by decide +kernel
theorem dX8_unscrews_81 : decode cX8_unscrews 81 = .ok (.iconst 5, 1) := by decide +kernel
theorem dX8_unscrews_82 : decode cX8_unscrews 82 = .ok (.invokestatic 71, 3) := by decide +kernel
theorem dX8_unscrews_85 : decode cX8_unscrews 85 = .ok (.iconst 0, 1) := by decide +kernel
theorem dX8_unscrews_86 : decode cX8_unscrews 86 = .ok (.iastore, 1) := by decide +kernel
theorem dX8_unscrews_87 : decode cX8_unscrews 87 = .ok (.iload_n 2, 1) := by decide +kernel
theorem dX8_unscrews_88 : decode cX8_unscrews 88 = .ok (.ireturn, 1) := by decide +kernel
theorem dX8_unscrew_0 : decode cX8_unscrew 0 = .ok (.aload_n 0, 1) := by decide +kernel
theorem dX8_unscrew_1 : decode cX8_unscrew 1 = .ok (.invokevirtual 85, 3) := by decide +kernel
theorem dX8_unscrew_4 : decode cX8_unscrew 4 = .ok (.aload_n 0, 1) := by decide +kernel
theorem dX8_unscrew_5 : decode cX8_unscrew 5 = .ok (.aload_n 0, 1) := by decide +kernel
theorem dX8_unscrew_6 : decode cX8_unscrew 6 = .ok (.iload_n 1, 1) := by decide +kernel
theorem dX8_unscrew_7 : decode cX8_unscrew 7 = .ok (.invokevirtual 133, 3) := by decide +kernel
theorem dX8_unscrew_10 : decode cX8_unscrew 10 = .ok (.iconst 1, 1) := by decide +kernel
theorem dX8_unscrew_11 : decode cX8_unscrew 11 = .ok (.iconst 0, 1) := by decide +kernel
theorem dX8_unscrew_12 : decode cX8_unscrew 12 = .ok (.iconst 2, 1) := by decide +kernel
theorem dX8_unscrew_13 : decode cX8_unscrew 13 = .ok (.invokevirtual 92, 3) := by decide +kernel
theorem dX8_unscrew_16 : decode cX8_unscrew 16 = .ok (.ireturn, 1) := by decide +kernel
theorem dX8_writes_0 : decode cX8_writes 0 = .ok (.aload_n 0, 1) := by decide +kernel
theorem dX8_writes_1 : decode cX8_writes 1 = .ok (.getfield 22, 3) := by decide +kernel
theorem dX8_writes_4 : decode cX8_writes 4 = .ok (.aload_n 0, 1) := by decide +kernel
theorem dX8_writes_5 : decode cX8_writes 5 = .ok (.getfield 136, 3) := by decide +kernel
theorem dX8_writes_8 : decode cX8_writes 8 = .ok (.iload_n 1, 1) := by decide +kernel
theorem dX8_writes_9 : decode cX8_writes 9 = .ok (.iastore, 1) := by decide +kernel
theorem dX8_writes_10 : decode cX8_writes 10 = .ok (.aload_n 0, 1) := by decide +kernel
theorem dX8_writes_11 : decode cX8_writes 11 = .ok (.dup, 1) := by decide +kernel
theorem dX8_writes_12 : decode cX8_writes 12 = .ok (.getfield 136, 3) := by decide +kernel
theorem dX8_writes_15 : decode cX8_writes 15 = .ok (.iconst 1, 1) := by decide +kernel
theorem dX8_writes_16 : decode cX8_writes 16 = .ok (.iadd, 1) := by decide +kernel
theorem dX8_writes_17 : decode cX8_writes 17 = .ok (.putfield 136, 3) := by decide +kernel
theorem dX8_writes_20 : decode cX8_writes 20 = .ok (.return_, 1) := by decide +kernel
theorem dX8_writesLabel_0 : decode cX8_writesLabel 0 = .ok (.aload_n 0, 1) := by decide +kernel
theorem dX8_writesLabel_1 : decode cX8_writesLabel 1 = .ok (.iconst 0, 1) := by decide +kernel
theorem dX8_writesLabel_2 : decode cX8_writesLabel 2 = .ok (.putfield 136, 3) := by decide +kernel
theorem dX8_writesLabel_5 : decode cX8_writesLabel 5 = .ok (.aload_n 0, 1) := by decide +kernel
theorem dX8_writesLabel_6 : decode cX8_writesLabel 6 = .ok (.getfield 7, 3) := by decide +kernel
theorem dX8_writesLabel_9 : decode cX8_writesLabel 9 = .ok (.iload_n 1, 1) := by decide +kernel
theorem dX8_writesLabel_10 : decode cX8_writesLabel 10 = .ok (.bipush 8, 2) := by decide +kernel
theorem dX8_writesLabel_12 : decode cX8_writesLabel 12 = .ok (.invokestatic 71, 3) := by decide +kernel
theorem dX8_writesLabel_15 : decode cX8_writesLabel 15 = .ok (.iaload, 1) := by decide +kernel
theorem dX8_writesLabel_16 : decode cX8_writesLabel 16 = .ok (.ifCond .ne 4, 3) := by decide +kernel
theorem dX8_writesLabel_19 : decode cX8_writesLabel 19 = .ok (.return_, 1) := by decide +kernel
theorem dX8_writesLabel_20 : decode cX8_writesLabel 20 = .ok (.aload_n 0, 1) := by decide +kernel
theorem dX8_writesLabel_21 : decode cX8_writesLabel 21 = .ok (.getfield 7, 3) := by decide +kernel
theorem dX8_writesLabel_24 : decode cX8_writesLabel 24 = .ok (.iload_n 1, 1) := by decide +kernel
theorem dX8_writesLabel_25 : decode cX8_writesLabel 25 = .ok (.iconst 2, 1) := by decide +kernel
theorem dX8_writesLabel_26 : decode cX8_writesLabel 26 = .ok (.invokestatic 71, 3) := by decide +kernel
theorem dX8_writesLabel_29 : decode cX8_writesLabel 29 = .ok (.iaload, 1) := by decide +kernel
theorem dX8_writesLabel_30 : decode cX8_writesLabel 30 = .ok (.istore_n 2, 1) := by decide +kernel
theorem dX8_writesLabel_31 : decode cX8_writesLabel 31 = .ok (.aload_n 0, 1) := by decide +kernel
theorem dX8_writesLabel_32 : decode cX8_writesLabel 32 = .ok (.getfield 7, 3) := by decide +kernel
theorem dX8_writesLabel_35 : decode cX8_writesLabel 35 = .ok (.iload_n 1, 1) := by decide +kernel
theorem dX8_writesLabel_36 : decode cX8_writesLabel 36 = .ok (.iconst 3, 1) := by decide +kernel
theorem dX8_writesLabel_37 : decode cX8_writesLabel 37 = .ok (.invokestatic 71, 3) := by decide +kernel
theorem dX8_writesLabel_40 : decode cX8_writesLabel 40 = .ok (.iaload, 1) := by decide +kernel
theorem dX8_writesLabel_41 : decode cX8_writesLabel 41 = .ok (.istore_n 3, 1) := by decide +kernel
theorem dX8_writesLabel_42 : decode cX8_writesLabel 42 = .ok (.aload_n 0, 1) := by decide +kernel
theorem dX8_writesLabel_43 : decode cX8_writesLabel 43 = .ok (.bipush 48, 2) := by decide +kernel
theorem dX8_writesLabel_45 : decode cX8_writesLabel 45 = .ok (.aload_n 0, 1) := by decide +kernel
theorem dX8_writesLabel_46 : decode cX8_writesLabel 46 = .ok (.getfield 7, 3) := by decide +kernel
theorem dX8_writesLabel_49 : decode cX8_writesLabel 49 = .ok (.iload_n 1, 1) := by decide +kernel
theorem dX8_writesLabel_50 : decode cX8_writesLabel 50 = .ok (.iconst 1, 1) := by decide +kernel
theorem dX8_writesLabel_51 : decode cX8_writesLabel 51 = .ok (.invokestatic 71, 3) := by decide +kernel
theorem dX8_writesLabel_54 : decode cX8_writesLabel 54 = .ok (.iaload, 1) := by decide +kernel
theorem dX8_writesLabel_55 : decode cX8_writesLabel 55 = .ok (.iadd, 1) := by decide +kernel
theorem dX8_writesLabel_56 : decode cX8_writesLabel 56 = .ok (.invokevirtual 139, 3) := by decide +kernel
theorem dX8_writesLabel_59 : decode cX8_writesLabel 59 = .ok (.aload_n 0, 1) := by decide +kernel
theorem dX8_writesLabel_60 : decode cX8_writesLabel 60 = .ok (.bipush 46, 2) := by decide +kernel
theorem dX8_writesLabel_62 : decode cX8_writesLabel 62 = .ok (.invokevirtual 139, 3) := by decide +kernel
theorem dX8_writesLabel_65 : decode cX8_writesLabel 65 = .ok (.iconst 0, 1) := by decide +kernel
theorem dX8_writesLabel_66 : decode cX8_writesLabel 66 = .ok (.istore 4, 2) := by decide +kernel
theorem dX8_writesLabel_68 : decode cX8_writesLabel 68 = .ok (.aload_n 0, 1) := by decide +kernel
theorem dX8_writesLabel_69 : decode cX8_writesLabel 69 = .ok (.getfield 31, 3) := by decide +kernel
theorem dX8_writesLabel_72 : decode cX8_writesLabel 72 = .ok (.bipush 7, 2) := by decide +kernel
theorem dX8_writesLabel_74 : decode cX8_writesLabel 74 = .ok (.bipush 8, 2) := by decide +kernel
theorem dX8_writesLabel_76 : decode cX8_writesLabel 76 = .ok (.iload_n 2, 1) := by decide +kernel
theorem dX8_writesLabel_77 : decode cX8_writesLabel 77 = .ok (.iadd, 1) := by decide +kernel
theorem dX8_writesLabel_78 : decode cX8_writesLabel 78 = .ok (.imul, 1) := by decide +kernel
theorem dX8_writesLabel_79 : decode cX8_writesLabel 79 = .ok (.iload 4, 2) := by decide +kernel
theorem dX8_writesLabel_81 : decode cX8_writesLabel 81 = .ok (.iadd, 1) := by decide +kernel
theorem dX8_writesLabel_82 : decode cX8_writesLabel 82 = .ok (.iaload, 1) := by decide +kernel
theorem dX8_writesLabel_83 : decode cX8_writesLabel 83 = .ok (.ifCond .eq 28, 3) := by decide +kernel
theorem dX8_writesLabel_86 : decode cX8_writesLabel 86 = .ok (.aload_n 0, 1) := by decide +kernel
theorem dX8_writesLabel_87 : decode cX8_writesLabel 87 = .ok (.aload_n 0, 1) := by decide +kernel
theorem dX8_writesLabel_88 : decode cX8_writesLabel 88 = .ok (.getfield 31, 3) := by decide +kernel
theorem dX8_writesLabel_91 : decode cX8_writesLabel 91 = .ok (.bipush 7, 2) := by decide +kernel
theorem dX8_writesLabel_93 : decode cX8_writesLabel 93 = .ok (.bipush 8, 2) := by decide +kernel
theorem dX8_writesLabel_95 : decode cX8_writesLabel 95 = .ok (.iload_n 2, 1) := by decide +kernel
theorem dX8_writesLabel_96 : decode cX8_writesLabel 96 = .ok (.iadd, 1) := by decide +kernel
theorem dX8_writesLabel_97 : decode cX8_writesLabel 97 = .ok (.imul, 1) := by decide +kernel
theorem dX8_writesLabel_98 : decode cX8_writesLabel 98 = .ok (.iload 4, 2) := by decide +kernel
theorem dX8_writesLabel_100 : decode cX8_writesLabel 100 = .ok (.iadd, 1) := by decide +kernel
theorem dX8_writesLabel_101 : decode cX8_writesLabel 101 = .ok (.iaload, 1) := by decide +kernel
theorem dX8_writesLabel_102 : decode cX8_writesLabel 102 = .ok (.invokevirtual 139, 3) := by decide +kernel
theorem dX8_writesLabel_105 : decode cX8_writesLabel 105 = .ok (.iinc 4 1, 3) := by decide +kernel
theorem dX8_writesLabel_108 : decode cX8_writesLabel 108 = .ok (.goto (-40), 3) := by decide +kernel
theorem dX8_writesLabel_111 : decode cX8_writesLabel 111 = .ok (.aload_n 0, 1) := by decide +kernel
theorem dX8_writesLabel_112 : decode cX8_writesLabel 112 = .ok (.bipush 32, 2) := by decide +kernel
theorem dX8_writesLabel_114 : decode cX8_writesLabel 114 = .ok (.invokevirtual 139, 3) := by decide +kernel
theorem dX8_writesLabel_117 : decode cX8_writesLabel 117 = .ok (.iload_n 3, 1) := by decide +kernel
theorem dX8_writesLabel_118 : decode cX8_writesLabel 118 = .ok (.bipush 10, 2) := by decide +kernel
theorem dX8_writesLabel_120 : decode cX8_writesLabel 120 = .ok (.if_icmp .lt 14, 3) := by decide +kernel
theorem dX8_writesLabel_123 : decode cX8_writesLabel 123 = .ok (.aload_n 0, 1) := by decide +kernel
theorem dX8_writesLabel_124 : decode cX8_writesLabel 124 = .ok (.bipush 48, 2) := by decide +kernel
theorem dX8_writesLabel_126 : decode cX8_writesLabel 126 = .ok (.iload_n 3, 1) := by decide +kernel
theorem dX8_writesLabel_127 : decode cX8_writesLabel 127 = .ok (.bipush 10, 2) := by decide +kernel
theorem dX8_writesLabel_129 : decode cX8_writesLabel 129 = .ok (.idiv, 1) := by decide +kernel
theorem dX8_writesLabel_130 : decode cX8_writesLabel 130 = .ok (.iadd, 1) := by decide +kernel
theorem dX8_writesLabel_131 : decode cX8_writesLabel 131 = .ok (.invokevirtual 139, 3) := by decide +kernel
theorem dX8_writesLabel_134 : decode cX8_writesLabel 134 = .ok (.aload_n 0, 1) := by decide +kernel
theorem dX8_writesLabel_135 : decode cX8_writesLabel 135 = .ok (.bipush 48, 2) := by decide +kernel
theorem dX8_writesLabel_137 : decode cX8_writesLabel 137 = .ok (.iload_n 3, 1) := by decide +kernel
theorem dX8_writesLabel_138 : decode cX8_writesLabel 138 = .ok (.bipush 10, 2) := by decide +kernel
theorem dX8_writesLabel_140 : decode cX8_writesLabel 140 = .ok (.irem, 1) := by decide +kernel
theorem dX8_writesLabel_141 : decode cX8_writesLabel 141 = .ok (.iadd, 1) := by decide +kernel
theorem dX8_writesLabel_142 : decode cX8_writesLabel 142 = .ok (.invokevirtual 139, 3) := by decide +kernel
theorem dX8_writesLabel_145 : decode cX8_writesLabel 145 = .ok (.aload_n 0, 1) := by decide +kernel
theorem dX8_writesLabel_146 : decode cX8_writesLabel 146 = .ok (.getfield 7, 3) := by decide +kernel
theorem dX8_writesLabel_149 : decode cX8_writesLabel 149 = .ok (.iload_n 1, 1) := by decide +kernel
theorem dX8_writesLabel_150 : decode cX8_writesLabel 150 = .ok (.bipush 8, 2) := by decide +kernel
theorem dX8_writesLabel_152 : decode cX8_writesLabel 152 = .ok (.invokestatic 71, 3) := by decide +kernel
theorem dX8_writesLabel_155 : decode cX8_writesLabel 155 = .ok (.iaload, 1) := by decide +kernel
theorem dX8_writesLabel_156 : decode cX8_writesLabel 156 = .ok (.iconst 1, 1) := by decide +kernel
theorem dX8_writesLabel_157 : decode cX8_writesLabel 157 = .ok (.if_icmp .ne 4, 3) := by decide +kernel
theorem dX8_writesLabel_160 : decode cX8_writesLabel 160 = .ok (.return_, 1) := by decide +kernel
theorem dX8_writesLabel_161 : decode cX8_writesLabel 161 = .ok (.aload_n 0, 1) := by decide +kernel
theorem dX8_writesLabel_162 : decode cX8_writesLabel 162 = .ok (.bipush 32, 2) := by decide +kernel
theorem dX8_writesLabel_164 : decode cX8_writesLabel 164 = .ok (.invokevirtual 139, 3) := by decide +kernel
theorem dX8_writesLabel_167 : decode cX8_writesLabel 167 = .ok (.aload_n 0, 1) := by decide +kernel
theorem dX8_writesLabel_168 : decode cX8_writesLabel 168 = .ok (.bipush 100, 2) := by decide +kernel
theorem dX8_writesLabel_170 : decode cX8_writesLabel 170 = .ok (.invokevirtual 139, 3) := by decide +kernel
theorem dX8_writesLabel_173 : decode cX8_writesLabel 173 = .ok (.aload_n 0, 1) := by decide +kernel
theorem dX8_writesLabel_174 : decode cX8_writesLabel 174 = .ok (.bipush 97, 2) := by decide +kernel
theorem dX8_writesLabel_176 : decode cX8_writesLabel 176 = .ok (.invokevirtual 139, 3) := by decide +kernel
theorem dX8_writesLabel_179 : decode cX8_writesLabel 179 = .ok (.aload_n 0, 1) := by decide +kernel
theorem dX8_writesLabel_180 : decode cX8_writesLabel 180 = .ok (.bipush 109, 2) := by decide +kernel
theorem dX8_writesLabel_182 : decode cX8_writesLabel 182 = .ok (.invokevirtual 139, 3) := by decide +kernel
theorem dX8_writesLabel_185 : decode cX8_writesLabel 185 = .ok (.aload_n 0, 1) := by decide +kernel
theorem dX8_writesLabel_186 : decode cX8_writesLabel 186 = .ok (.bipush 112, 2) := by decide +kernel
theorem dX8_writesLabel_188 : decode cX8_writesLabel 188 = .ok (.invokevirtual 139, 3) := by decide +kernel
theorem dX8_writesLabel_191 : decode cX8_writesLabel 191 = .ok (.return_, 1) := by decide +kernel
theorem dX8_labels_0 : decode cX8_labels 0 = .ok (.aload_n 0, 1) := by decide +kernel
theorem dX8_labels_1 : decode cX8_labels 1 = .ok (.iload_n 1, 1) := by decide +kernel
theorem dX8_labels_2 : decode cX8_labels 2 = .ok (.invokevirtual 108, 3) := by decide +kernel
theorem dX8_labels_5 : decode cX8_labels 5 = .ok (.ifCond .ne 9, 3) := by decide +kernel
theorem dX8_labels_8 : decode cX8_labels 8 = .ok (.aload_n 0, 1) := by decide +kernel
theorem dX8_labels_9 : decode cX8_labels 9 = .ok (.iconst 1, 1) := by decide +kernel
theorem dX8_labels_10 : decode cX8_labels 10 = .ok (.invokevirtual 47, 3) := by decide +kernel
theorem dX8_labels_13 : decode cX8_labels 13 = .ok (.ireturn, 1) := by decide +kernel
theorem dX8_labels_14 : decode cX8_labels 14 = .ok (.aload_n 0, 1) := by decide +kernel
theorem dX8_labels_15 : decode cX8_labels 15 = .ok (.getfield 7, 3) := by decide +kernel
theorem dX8_labels_18 : decode cX8_labels 18 = .ok (.iload_n 1, 1) := by decide +kernel
theorem dX8_labels_19 : decode cX8_labels 19 = .ok (.bipush 7, 2) := by decide +kernel
theorem dX8_labels_21 : decode cX8_labels 21 = .ok (.invokestatic 71, 3) := by decide +kernel
theorem dX8_labels_24 : decode cX8_labels 24 = .ok (.iaload, 1) := by decide +kernel
theorem dX8_labels_25 : decode cX8_labels 25 = .ok (.ifCond .eq 20, 3) := by decide +kernel
theorem dX8_labels_28 : decode cX8_labels 28 = .ok (.aload_n 0, 1) := by decide +kernel
theorem dX8_labels_29 : decode cX8_labels 29 = .ok (.iconst 3, 1) := by decide +kernel
theorem dX8_labels_30 : decode cX8_labels 30 = .ok (.aload_n 0, 1) := by decide +kernel
theorem dX8_labels_31 : decode cX8_labels 31 = .ok (.getfield 7, 3) := by decide +kernel
theorem dX8_labels_34 : decode cX8_labels 34 = .ok (.iload_n 1, 1) := by decide +kernel
theorem dX8_labels_35 : decode cX8_labels 35 = .ok (.bipush 7, 2) := by decide +kernel
theorem dX8_labels_37 : decode cX8_labels 37 = .ok (.invokestatic 71, 3) := by decide +kernel
theorem dX8_labels_40 : decode cX8_labels 40 = .ok (.iaload, 1) := by decide +kernel
theorem dX8_labels_41 : decode cX8_labels 41 = .ok (.invokevirtual 82, 3) := by decide +kernel
theorem dX8_labels_44 : decode cX8_labels 44 = .ok (.ireturn, 1) := by decide +kernel
theorem dX8_labels_45 : decode cX8_labels 45 = .ok (.aload_n 0, 1) := by decide +kernel
theorem dX8_labels_46 : decode cX8_labels 46 = .ok (.iload_n 1, 1) := by decide +kernel
theorem dX8_labels_47 : decode cX8_labels 47 = .ok (.invokevirtual 118, 3) := by decide +kernel
theorem dX8_labels_50 : decode cX8_labels 50 = .ok (.ifCond .eq 11, 3) := by decide +kernel
theorem dX8_labels_53 : decode cX8_labels 53 = .ok (.aload_n 0, 1) := by decide +kernel
theorem dX8_labels_54 : decode cX8_labels 54 = .ok (.bipush 10, 2) := by decide +kernel
theorem dX8_labels_56 : decode cX8_labels 56 = .ok (.iload_n 1, 1) := by decide +kernel
theorem dX8_labels_57 : decode cX8_labels 57 = .ok (.invokevirtual 82, 3) := by decide +kernel
theorem dX8_labels_60 : decode cX8_labels 60 = .ok (.ireturn, 1) := by decide +kernel
theorem dX8_labels_61 : decode cX8_labels 61 = .ok (.aload_n 0, 1) := by decide +kernel
theorem dX8_labels_62 : decode cX8_labels 62 = .ok (.getfield 7, 3) := by decide +kernel
theorem dX8_labels_65 : decode cX8_labels 65 = .ok (.iload_n 1, 1) := by decide +kernel
theorem dX8_labels_66 : decode cX8_labels 66 = .ok (.bipush 8, 2) := by decide +kernel
theorem dX8_labels_68 : decode cX8_labels 68 = .ok (.invokestatic 71, 3) := by decide +kernel
theorem dX8_labels_71 : decode cX8_labels 71 = .ok (.aload_n 0, 1) := by decide +kernel
theorem dX8_labels_72 : decode cX8_labels 72 = .ok (.getfield 7, 3) := by decide +kernel
theorem dX8_labels_75 : decode cX8_labels 75 = .ok (.iload_n 1, 1) := by decide +kernel
theorem dX8_labels_76 : decode cX8_labels 76 = .ok (.bipush 6, 2) := by decide +kernel
theorem dX8_labels_78 : decode cX8_labels 78 = .ok (.invokestatic 71, 3) := by decide +kernel
theorem dX8_labels_81 : decode cX8_labels 81 = .ok (.iaload, 1) := by decide +kernel
theorem dX8_labels_82 : decode cX8_labels 82 = .ok (.ifCond .le 7, 3) := by decide +kernel
theorem dX8_labels_85 : decode cX8_labels 85 = .ok (.iconst 2, 1) := by decide +kernel
theorem dX8_labels_86 : decode cX8_labels 86 = .ok (.goto 4, 3) := by decide +kernel
theorem dX8_labels_89 : decode cX8_labels 89 = .ok (.iconst 1, 1) := by decide +kernel
theorem dX8_labels_90 : decode cX8_labels 90 = .ok (.iastore, 1) := by decide +kernel
theorem dX8_labels_91 : decode cX8_labels 91 = .ok (.aload_n 0, 1) := by decide +kernel
theorem dX8_labels_92 : decode cX8_labels 92 = .ok (.iload_n 1, 1) := by decide +kernel
theorem dX8_labels_93 : decode cX8_labels 93 = .ok (.invokevirtual 143, 3) := by decide +kernel
theorem dX8_labels_96 : decode cX8_labels 96 = .ok (.aload_n 0, 1) := by decide +kernel
theorem dX8_labels_97 : decode cX8_labels 97 = .ok (.getfield 136, 3) := by decide +kernel
theorem dX8_labels_100 : decode cX8_labels 100 = .ok (.ireturn, 1) := by decide +kernel
theorem dX8_label_0 : decode cX8_label 0 = .ok (.aload_n 0, 1) := by decide +kernel
theorem dX8_label_1 : decode cX8_label 1 = .ok (.invokevirtual 85, 3) := by decide +kernel
theorem dX8_label_4 : decode cX8_label 4 = .ok (.aload_n 0, 1) := by decide +kernel
theorem dX8_label_5 : decode cX8_label 5 = .ok (.aload_n 0, 1) := by decide +kernel
theorem dX8_label_6 : decode cX8_label 6 = .ok (.iload_n 1, 1) := by decide +kernel
theorem dX8_label_7 : decode cX8_label 7 = .ok (.invokevirtual 146, 3) := by decide +kernel
theorem dX8_label_10 : decode cX8_label 10 = .ok (.iconst 1, 1) := by decide +kernel
theorem dX8_label_11 : decode cX8_label 11 = .ok (.iconst 0, 1) := by decide +kernel
theorem dX8_label_12 : decode cX8_label 12 = .ok (.iconst 2, 1) := by decide +kernel
theorem dX8_label_13 : decode cX8_label 13 = .ok (.invokevirtual 92, 3) := by decide +kernel
theorem dX8_label_16 : decode cX8_label 16 = .ok (.ireturn, 1) := by decide +kernel
theorem dX8_labelled_0 : decode cX8_labelled 0 = .ok (.aload_n 0, 1) := by decide +kernel
theorem dX8_labelled_1 : decode cX8_labelled 1 = .ok (.iconst 0, 1) := by decide +kernel
theorem dX8_labelled_2 : decode cX8_labelled 2 = .ok (.putfield 34, 3) := by decide +kernel
theorem dX8_labelled_5 : decode cX8_labelled 5 = .ok (.aload_n 0, 1) := by decide +kernel
theorem dX8_labelled_6 : decode cX8_labelled 6 = .ok (.iload_n 1, 1) := by decide +kernel
theorem dX8_labelled_7 : decode cX8_labelled 7 = .ok (.invokevirtual 108, 3) := by decide +kernel
theorem dX8_labelled_10 : decode cX8_labelled 10 = .ok (.ifCond .ne 10, 3) := by decide +kernel
theorem dX8_labelled_13 : decode cX8_labelled 13 = .ok (.aload_n 0, 1) := by decide +kernel
theorem dX8_labelled_14 : decode cX8_labelled 14 = .ok (.iconst 1, 1) := by decide +kernel
theorem dX8_labelled_15 : decode cX8_labelled 15 = .ok (.putfield 34, 3) := by decide +kernel
theorem dX8_labelled_18 : decode cX8_labelled 18 = .ok (.iconst 0, 1) := by decide +kernel
theorem dX8_labelled_19 : decode cX8_labelled 19 = .ok (.ireturn, 1) := by decide +kernel
theorem dX8_labelled_20 : decode cX8_labelled 20 = .ok (.aload_n 0, 1) := by decide +kernel
theorem dX8_labelled_21 : decode cX8_labelled 21 = .ok (.iload_n 1, 1) := by decide +kernel
theorem dX8_labelled_22 : decode cX8_labelled 22 = .ok (.invokevirtual 143, 3) := by decide +kernel
theorem dX8_labelled_25 : decode cX8_labelled 25 = .ok (.iload_n 2, 1) := by decide +kernel
theorem dX8_labelled_26 : decode cX8_labelled 26 = .ok (.iconst 0, 1) := by decide +kernel
theorem dX8_labelled_27 : decode cX8_labelled 27 = .ok (.aload_n 0, 1) := by decide +kernel
theorem dX8_labelled_28 : decode cX8_labelled 28 = .ok (.getfield 136, 3) := by decide +kernel
theorem dX8_labelled_31 : decode cX8_labelled 31 = .ok (.iconst 1, 1) := by decide +kernel
theorem dX8_labelled_32 : decode cX8_labelled 32 = .ok (.isub, 1) := by decide +kernel
theorem dX8_labelled_33 : decode cX8_labelled 33 = .ok (.invokestatic 67, 3) := by decide +kernel
theorem dX8_labelled_36 : decode cX8_labelled 36 = .ok (.ifCond .ne 10, 3) := by decide +kernel
theorem dX8_labelled_39 : decode cX8_labelled 39 = .ok (.aload_n 0, 1) := by decide +kernel
theorem dX8_labelled_40 : decode cX8_labelled 40 = .ok (.iconst 2, 1) := by decide +kernel
theorem dX8_labelled_41 : decode cX8_labelled 41 = .ok (.putfield 34, 3) := by decide +kernel
theorem dX8_labelled_44 : decode cX8_labelled 44 = .ok (.iconst 0, 1) := by decide +kernel
theorem dX8_labelled_45 : decode cX8_labelled 45 = .ok (.ireturn, 1) := by decide +kernel
theorem dX8_labelled_46 : decode cX8_labelled 46 = .ok (.aload_n 0, 1) := by decide +kernel
theorem dX8_labelled_47 : decode cX8_labelled 47 = .ok (.getfield 22, 3) := by decide +kernel
theorem dX8_labelled_50 : decode cX8_labelled 50 = .ok (.iload_n 2, 1) := by decide +kernel
theorem dX8_labelled_51 : decode cX8_labelled 51 = .ok (.iaload, 1) := by decide +kernel
theorem dX8_labelled_52 : decode cX8_labelled 52 = .ok (.i2c, 1) := by decide +kernel
theorem dX8_labelled_53 : decode cX8_labelled 53 = .ok (.ireturn, 1) := by decide +kernel
theorem dX8_chest_0 : decode cX8_chest 0 = .ok (.aload_n 0, 1) := by decide +kernel
theorem dX8_chest_1 : decode cX8_chest 1 = .ok (.iconst 0, 1) := by decide +kernel
theorem dX8_chest_2 : decode cX8_chest 2 = .ok (.putfield 34, 3) := by decide +kernel
theorem dX8_chest_5 : decode cX8_chest 5 = .ok (.aload_n 0, 1) := by decide +kernel
theorem dX8_chest_6 : decode cX8_chest 6 = .ok (.iload_n 1, 1) := by decide +kernel
theorem dX8_chest_7 : decode cX8_chest 7 = .ok (.invokevirtual 108, 3) := by decide +kernel
theorem dX8_chest_10 : decode cX8_chest 10 = .ok (.ifCond .ne 9, 3) := by decide +kernel
theorem dX8_chest_13 : decode cX8_chest 13 = .ok (.aload_n 0, 1) := by decide +kernel
theorem dX8_chest_14 : decode cX8_chest 14 = .ok (.iconst 1, 1) := by decide +kernel
theorem dX8_chest_15 : decode cX8_chest 15 = .ok (.invokevirtual 61, 3) := by decide +kernel
theorem dX8_chest_18 : decode cX8_chest 18 = .ok (.ireturn, 1) := by decide +kernel
theorem dX8_chest_19 : decode cX8_chest 19 = .ok (.iload_n 2, 1) := by decide +kernel
theorem dX8_chest_20 : decode cX8_chest 20 = .ok (.tableswitch 103 0 9 #[56, 56, 56, 56, 56, 56, 56, 67, 81, 93], 56) := by decide +kernel
theorem dX8_chest_76 : decode cX8_chest 76 = .ok (.aload_n 0, 1) := by decide +kernel
theorem dX8_chest_77 : decode cX8_chest 77 = .ok (.getfield 7, 3) := by decide +kernel
theorem dX8_chest_80 : decode cX8_chest 80 = .ok (.iload_n 1, 1) := by decide +kernel
theorem dX8_chest_81 : decode cX8_chest 81 = .ok (.iload_n 2, 1) := by decide +kernel
theorem dX8_chest_82 : decode cX8_chest 82 = .ok (.invokestatic 71, 3) := by decide +kernel
theorem dX8_chest_85 : decode cX8_chest 85 = .ok (.iaload, 1) := by decide +kernel
theorem dX8_chest_86 : decode cX8_chest 86 = .ok (.ireturn, 1) := by decide +kernel
theorem dX8_chest_87 : decode cX8_chest 87 = .ok (.aload_n 0, 1) := by decide +kernel
theorem dX8_chest_88 : decode cX8_chest 88 = .ok (.iload_n 1, 1) := by decide +kernel
theorem dX8_chest_89 : decode cX8_chest 89 = .ok (.invokevirtual 127, 3) := by decide +kernel
theorem dX8_chest_92 : decode cX8_chest 92 = .ok (.ifCond .eq 7, 3) := by decide +kernel
theorem dX8_chest_95 : decode cX8_chest 95 = .ok (.iconst 1, 1) := by decide +kernel
theorem dX8_chest_96 : decode cX8_chest 96 = .ok (.goto 4, 3) := by decide +kernel
theorem dX8_chest_99 : decode cX8_chest 99 = .ok (.iconst 0, 1) := by decide +kernel
theorem dX8_chest_100 : decode cX8_chest 100 = .ok (.ireturn, 1) := by decide +kernel
theorem dX8_chest_101 : decode cX8_chest 101 = .ok (.aload_n 0, 1) := by decide +kernel
theorem dX8_chest_102 : decode cX8_chest 102 = .ok (.getfield 7, 3) := by decide +kernel
theorem dX8_chest_105 : decode cX8_chest 105 = .ok (.iload_n 1, 1) := by decide +kernel
theorem dX8_chest_106 : decode cX8_chest 106 = .ok (.bipush 7, 2) := by decide +kernel
theorem dX8_chest_108 : decode cX8_chest 108 = .ok (.invokestatic 71, 3) := by decide +kernel
theorem dX8_chest_111 : decode cX8_chest 111 = .ok (.iaload, 1) := by decide +kernel
theorem dX8_chest_112 : decode cX8_chest 112 = .ok (.ireturn, 1) := by decide +kernel
theorem dX8_chest_113 : decode cX8_chest 113 = .ok (.aload_n 0, 1) := by decide +kernel
theorem dX8_chest_114 : decode cX8_chest 114 = .ok (.iload_n 1, 1) := by decide +kernel
theorem dX8_chest_115 : decode cX8_chest 115 = .ok (.invokevirtual 143, 3) := by decide +kernel
theorem dX8_chest_118 : decode cX8_chest 118 = .ok (.aload_n 0, 1) := by decide +kernel
theorem dX8_chest_119 : decode cX8_chest 119 = .ok (.getfield 136, 3) := by decide +kernel
theorem dX8_chest_122 : decode cX8_chest 122 = .ok (.ireturn, 1) := by decide +kernel
theorem dX8_chest_123 : decode cX8_chest 123 = .ok (.aload_n 0, 1) := by decide +kernel
theorem dX8_chest_124 : decode cX8_chest 124 = .ok (.iconst 2, 1) := by decide +kernel
theorem dX8_chest_125 : decode cX8_chest 125 = .ok (.invokevirtual 61, 3) := by decide +kernel
theorem dX8_chest_128 : decode cX8_chest 128 = .ok (.ireturn, 1) := by decide +kernel
theorem dX8_worthOf_0 : decode cX8_worthOf 0 = .ok (.aload_n 0, 1) := by decide +kernel
theorem dX8_worthOf_1 : decode cX8_worthOf 1 = .ok (.getfield 7, 3) := by decide +kernel
theorem dX8_worthOf_4 : decode cX8_worthOf 4 = .ok (.iload_n 1, 1) := by decide +kernel
theorem dX8_worthOf_5 : decode cX8_worthOf 5 = .ok (.iconst 3, 1) := by decide +kernel
theorem dX8_worthOf_6 : decode cX8_worthOf 6 = .ok (.invokestatic 71, 3) := by decide +kernel
theorem dX8_worthOf_9 : decode cX8_worthOf 9 = .ok (.iaload, 1) := by decide +kernel
theorem dX8_worthOf_10 : decode cX8_worthOf 10 = .ok (.istore_n 2, 1) := by decide +kernel
theorem dX8_worthOf_11 : decode cX8_worthOf 11 = .ok (.iload_n 2, 1) := by decide +kernel
theorem dX8_worthOf_12 : decode cX8_worthOf 12 = .ok (.ifCond .ne 7, 3) := by decide +kernel
theorem dX8_worthOf_15 : decode cX8_worthOf 15 = .ok (.iconst 0, 1) := by decide +kernel
theorem dX8_worthOf_16 : decode cX8_worthOf 16 = .ok (.goto 34, 3) := by decide +kernel
theorem dX8_worthOf_19 : decode cX8_worthOf 19 = .ok (.iload_n 2, 1) := by decide +kernel
theorem dX8_worthOf_20 : decode cX8_worthOf 20 = .ok (.aload_n 0, 1) := by decide +kernel
theorem dX8_worthOf_21 : decode cX8_worthOf 21 = .ok (.getfield 7, 3) := by decide +kernel
theorem dX8_worthOf_24 : decode cX8_worthOf 24 = .ok (.iload_n 1, 1) := by decide +kernel
theorem dX8_worthOf_25 : decode cX8_worthOf 25 = .ok (.iconst 2, 1) := by decide +kernel
theorem dX8_worthOf_26 : decode cX8_worthOf 26 = .ok (.invokestatic 71, 3) := by decide +kernel
theorem dX8_worthOf_29 : decode cX8_worthOf 29 = .ok (.iaload, 1) := by decide +kernel
theorem dX8_worthOf_30 : decode cX8_worthOf 30 = .ok (.iconst 1, 1) := by decide +kernel
theorem dX8_worthOf_31 : decode cX8_worthOf 31 = .ok (.iadd, 1) := by decide +kernel
theorem dX8_worthOf_32 : decode cX8_worthOf 32 = .ok (.imul, 1) := by decide +kernel
theorem dX8_worthOf_33 : decode cX8_worthOf 33 = .ok (.iload_n 2, 1) := by decide +kernel
theorem dX8_worthOf_34 : decode cX8_worthOf 34 = .ok (.aload_n 0, 1) := by decide +kernel
theorem dX8_worthOf_35 : decode cX8_worthOf 35 = .ok (.getfield 7, 3) := by decide +kernel
theorem dX8_worthOf_38 : decode cX8_worthOf 38 = .ok (.iload_n 1, 1) := by decide +kernel
theorem dX8_worthOf_39 : decode cX8_worthOf 39 = .ok (.bipush 6, 2) := by decide +kernel
theorem dX8_worthOf_41 : decode cX8_worthOf 41 = .ok (.invokestatic 71, 3) := by decide +kernel
theorem dX8_worthOf_44 : decode cX8_worthOf 44 = .ok (.iaload, 1) := by decide +kernel
theorem dX8_worthOf_45 : decode cX8_worthOf 45 = .ok (.imul, 1) := by decide +kernel
theorem dX8_worthOf_46 : decode cX8_worthOf 46 = .ok (.bipush 20, 2) := by decide +kernel
theorem dX8_worthOf_48 : decode cX8_worthOf 48 = .ok (.idiv, 1) := by decide +kernel
theorem dX8_worthOf_49 : decode cX8_worthOf 49 = .ok (.isub, 1) := by decide +kernel
theorem dX8_worthOf_50 : decode cX8_worthOf 50 = .ok (.ireturn, 1) := by decide +kernel
theorem dX8_worth_0 : decode cX8_worth 0 = .ok (.aload_n 0, 1) := by decide +kernel
theorem dX8_worth_1 : decode cX8_worth 1 = .ok (.iconst 0, 1) := by decide +kernel
theorem dX8_worth_2 : decode cX8_worth 2 = .ok (.putfield 34, 3) := by decide +kernel
theorem dX8_worth_5 : decode cX8_worth 5 = .ok (.aload_n 0, 1) := by decide +kernel
theorem dX8_worth_6 : decode cX8_worth 6 = .ok (.iload_n 1, 1) := by decide +kernel
theorem dX8_worth_7 : decode cX8_worth 7 = .ok (.invokevirtual 108, 3) := by decide +kernel
theorem dX8_worth_10 : decode cX8_worth 10 = .ok (.ifCond .eq 11, 3) := by decide +kernel
theorem dX8_worth_13 : decode cX8_worth 13 = .ok (.aload_n 0, 1) := by decide +kernel
theorem dX8_worth_14 : decode cX8_worth 14 = .ok (.iload_n 1, 1) := by decide +kernel
theorem dX8_worth_15 : decode cX8_worth 15 = .ok (.invokevirtual 149, 3) := by decide +kernel
theorem dX8_worth_18 : decode cX8_worth 18 = .ok (.goto 8, 3) := by decide +kernel
theorem dX8_worth_21 : decode cX8_worth 21 = .ok (.aload_n 0, 1) := by decide +kernel
theorem dX8_worth_22 : decode cX8_worth 22 = .ok (.iconst 1, 1) := by decide +kernel
theorem dX8_worth_23 : decode cX8_worth 23 = .ok (.invokevirtual 61, 3) := by decide +kernel
theorem dX8_worth_26 : decode cX8_worth 26 = .ok (.ireturn, 1) := by decide +kernel
theorem dX8_isAhead_0 : decode cX8_isAhead 0 = .ok (.aload_n 0, 1) := by decide +kernel
theorem dX8_isAhead_1 : decode cX8_isAhead 1 = .ok (.iload_n 1, 1) := by decide +kernel
theorem dX8_isAhead_2 : decode cX8_isAhead 2 = .ok (.invokevirtual 149, 3) := by decide +kernel
theorem dX8_isAhead_5 : decode cX8_isAhead 5 = .ok (.aload_n 0, 1) := by decide +kernel
theorem dX8_isAhead_6 : decode cX8_isAhead 6 = .ok (.iload_n 2, 1) := by decide +kernel
theorem dX8_isAhead_7 : decode cX8_isAhead 7 = .ok (.invokevirtual 149, 3) := by decide +kernel
theorem dX8_isAhead_10 : decode cX8_isAhead 10 = .ok (.isub, 1) := by decide +kernel
theorem dX8_isAhead_11 : decode cX8_isAhead 11 = .ok (.istore_n 3, 1) := by decide +kernel
theorem dX8_isAhead_12 : decode cX8_isAhead 12 = .ok (.iload_n 3, 1) := by decide +kernel
theorem dX8_isAhead_13 : decode cX8_isAhead 13 = .ok (.ifCond .eq 13, 3) := by decide +kernel
theorem dX8_isAhead_16 : decode cX8_isAhead 16 = .ok (.iload_n 3, 1) := by decide +kernel
theorem dX8_isAhead_17 : decode cX8_isAhead 17 = .ok (.ifCond .le 7, 3) := by decide +kernel
theorem dX8_isAhead_20 : decode cX8_isAhead 20 = .ok (.iconst 1, 1) := by decide +kernel
theorem dX8_isAhead_21 : decode cX8_isAhead 21 = .ok (.goto 4, 3) := by decide +kernel
theorem dX8_isAhead_24 : decode cX8_isAhead 24 = .ok (.iconst 0, 1) := by decide +kernel
theorem dX8_isAhead_25 : decode cX8_isAhead 25 = .ok (.ireturn, 1) := by decide +kernel
theorem dX8_isAhead_26 : decode cX8_isAhead 26 = .ok (.aload_n 0, 1) := by decide +kernel
theorem dX8_isAhead_27 : decode cX8_isAhead 27 = .ok (.getfield 7, 3) := by decide +kernel
theorem dX8_isAhead_30 : decode cX8_isAhead 30 = .ok (.iload_n 2, 1) := by decide +kernel
theorem dX8_isAhead_31 : decode cX8_isAhead 31 = .ok (.bipush 6, 2) := by decide +kernel
theorem dX8_isAhead_33 : decode cX8_isAhead 33 = .ok (.invokestatic 71, 3) := by decide +kernel
theorem dX8_isAhead_36 : decode cX8_isAhead 36 = .ok (.iaload, 1) := by decide +kernel
theorem dX8_isAhead_37 : decode cX8_isAhead 37 = .ok (.aload_n 0, 1) := by decide +kernel
theorem dX8_isAhead_38 : decode cX8_isAhead 38 = .ok (.getfield 7, 3) := by decide +kernel
theorem dX8_isAhead_41 : decode cX8_isAhead 41 = .ok (.iload_n 1, 1) := by decide +kernel
theorem dX8_isAhead_42 : decode cX8_isAhead 42 = .ok (.bipush 6, 2) := by decide +kernel
theorem dX8_isAhead_44 : decode cX8_isAhead 44 = .ok (.invokestatic 71, 3) := by decide +kernel
theorem dX8_isAhead_47 : decode cX8_isAhead 47 = .ok (.iaload, 1) := by decide +kernel
theorem dX8_isAhead_48 : decode cX8_isAhead 48 = .ok (.isub, 1) := by decide +kernel
theorem dX8_isAhead_49 : decode cX8_isAhead 49 = .ok (.istore_n 3, 1) := by decide +kernel
theorem dX8_isAhead_50 : decode cX8_isAhead 50 = .ok (.iload_n 3, 1) := by decide +kernel
theorem dX8_isAhead_51 : decode cX8_isAhead 51 = .ok (.ifCond .gt 12, 3) := by decide +kernel
theorem dX8_isAhead_54 : decode cX8_isAhead 54 = .ok (.iload_n 3, 1) := by decide +kernel
theorem dX8_isAhead_55 : decode cX8_isAhead 55 = .ok (.ifCond .ne 12, 3) := by decide +kernel
theorem dX8_isAhead_58 : decode cX8_isAhead 58 = .ok (.iload_n 1, 1) := by decide +kernel
theorem dX8_isAhead_59 : decode cX8_isAhead 59 = .ok (.iload_n 2, 1) := by decide +kernel
theorem dX8_isAhead_60 : decode cX8_isAhead 60 = .ok (.if_icmp .ge 7, 3) := by decide +kernel
theorem dX8_isAhead_63 : decode cX8_isAhead 63 = .ok (.iconst 1, 1) := by decide +kernel
theorem dX8_isAhead_64 : decode cX8_isAhead 64 = .ok (.goto 4, 3) := by decide +kernel
theorem dX8_isAhead_67 : decode cX8_isAhead 67 = .ok (.iconst 0, 1) := by decide +kernel
theorem dX8_isAhead_68 : decode cX8_isAhead 68 = .ok (.ireturn, 1) := by decide +kernel
theorem dX8_ranked_0 : decode cX8_ranked 0 = .ok (.aload_n 0, 1) := by decide +kernel
theorem dX8_ranked_1 : decode cX8_ranked 1 = .ok (.iconst 0, 1) := by decide +kernel
theorem dX8_ranked_2 : decode cX8_ranked 2 = .ok (.putfield 34, 3) := by decide +kernel
theorem dX8_ranked_5 : decode cX8_ranked 5 = .ok (.iconst 0, 1) := by decide +kernel
theorem dX8_ranked_6 : decode cX8_ranked 6 = .ok (.istore_n 2, 1) := by decide +kernel
theorem dX8_ranked_7 : decode cX8_ranked 7 = .ok (.iload_n 2, 1) := by decide +kernel
theorem dX8_ranked_8 : decode cX8_ranked 8 = .ok (.aload_n 0, 1) := by decide +kernel
theorem dX8_ranked_9 : decode cX8_ranked 9 = .ok (.getfield 7, 3) := by decide +kernel
theorem dX8_ranked_12 : decode cX8_ranked 12 = .ok (.iconst 3, 1) := by decide +kernel
theorem dX8_ranked_13 : decode cX8_ranked 13 = .ok (.iaload, 1) := by decide +kernel
theorem dX8_ranked_14 : decode cX8_ranked 14 = .ok (.if_icmp .ge 96, 3) := by decide +kernel
theorem dX8_ranked_17 : decode cX8_ranked 17 = .ok (.aload_n 0, 1) := by decide +kernel
theorem dX8_ranked_18 : decode cX8_ranked 18 = .ok (.getfield 7, 3) := by decide +kernel
theorem dX8_ranked_21 : decode cX8_ranked 21 = .ok (.iload_n 2, 1) := by decide +kernel
theorem dX8_ranked_22 : decode cX8_ranked 22 = .ok (.bipush 7, 2) := by decide +kernel
theorem dX8_ranked_24 : decode cX8_ranked 24 = .ok (.invokestatic 71, 3) := by decide +kernel
theorem dX8_ranked_27 : decode cX8_ranked 27 = .ok (.iaload, 1) := by decide +kernel
theorem dX8_ranked_28 : decode cX8_ranked 28 = .ok (.iconst 3, 1) := by decide +kernel
theorem dX8_ranked_29 : decode cX8_ranked 29 = .ok (.if_icmp .ne 6, 3) := by decide +kernel
theorem dX8_ranked_32 : decode cX8_ranked 32 = .ok (.goto 72, 3) := by decide +kernel
theorem dX8_ranked_35 : decode cX8_ranked 35 = .ok (.iconst 0, 1) := by decide +kernel
theorem dX8_ranked_36 : decode cX8_ranked 36 = .ok (.istore_n 3, 1) := by decide +kernel
theorem dX8_ranked_37 : decode cX8_ranked 37 = .ok (.iconst 0, 1) := by decide +kernel
theorem dX8_ranked_38 : decode cX8_ranked 38 = .ok (.istore 4, 2) := by decide +kernel
theorem dX8_ranked_40 : decode cX8_ranked 40 = .ok (.iload 4, 2) := by decide +kernel
theorem dX8_ranked_42 : decode cX8_ranked 42 = .ok (.aload_n 0, 1) := by decide +kernel
theorem dX8_ranked_43 : decode cX8_ranked 43 = .ok (.getfield 7, 3) := by decide +kernel
theorem dX8_ranked_46 : decode cX8_ranked 46 = .ok (.iconst 3, 1) := by decide +kernel
theorem dX8_ranked_47 : decode cX8_ranked 47 = .ok (.iaload, 1) := by decide +kernel
theorem dX8_ranked_48 : decode cX8_ranked 48 = .ok (.if_icmp .ge 49, 3) := by decide +kernel
theorem dX8_ranked_51 : decode cX8_ranked 51 = .ok (.iload_n 3, 1) := by decide +kernel
theorem dX8_ranked_52 : decode cX8_ranked 52 = .ok (.iload 4, 2) := by decide +kernel
theorem dX8_ranked_54 : decode cX8_ranked 54 = .ok (.iload_n 2, 1) := by decide +kernel
theorem dX8_ranked_55 : decode cX8_ranked 55 = .ok (.if_icmp .eq 33, 3) := by decide +kernel
theorem dX8_ranked_58 : decode cX8_ranked 58 = .ok (.aload_n 0, 1) := by decide +kernel
theorem dX8_ranked_59 : decode cX8_ranked 59 = .ok (.getfield 7, 3) := by decide +kernel
theorem dX8_ranked_62 : decode cX8_ranked 62 = .ok (.iload 4, 2) := by decide +kernel
theorem dX8_ranked_64 : decode cX8_ranked 64 = .ok (.bipush 7, 2) := by decide +kernel
theorem dX8_ranked_66 : decode cX8_ranked 66 = .ok (.invokestatic 71, 3) := by decide +kernel
theorem dX8_ranked_69 : decode cX8_ranked 69 = .ok (.iaload, 1) := by decide +kernel
theorem dX8_ranked_70 : decode cX8_ranked 70 = .ok (.iconst 3, 1) := by decide +kernel
theorem dX8_ranked_71 : decode cX8_ranked 71 = .ok (.if_icmp .eq 17, 3) := by decide +kernel
theorem dX8_ranked_74 : decode cX8_ranked 74 = .ok (.aload_n 0, 1) := by decide +kernel
theorem dX8_ranked_75 : decode cX8_ranked 75 = .ok (.iload 4, 2) := by decide +kernel
theorem dX8_ranked_77 : decode cX8_ranked 77 = .ok (.iload_n 2, 1) := by decide +kernel
theorem dX8_ranked_78 : decode cX8_ranked 78 = .ok (.invokevirtual 152, 3) := by decide +kernel
theorem dX8_ranked_81 : decode cX8_ranked 81 = .ok (.ifCond .eq 7, 3) := by decide +kernel
theorem dX8_ranked_84 : decode cX8_ranked 84 = .ok (.iconst 1, 1) := by decide +kernel
theorem dX8_ranked_85 : decode cX8_ranked 85 = .ok (.goto 4, 3) := by decide +kernel
theorem dX8_ranked_88 : decode cX8_ranked 88 = .ok (.iconst 0, 1) := by decide +kernel
theorem dX8_ranked_89 : decode cX8_ranked 89 = .ok (.iadd, 1) := by decide +kernel
theorem dX8_ranked_90 : decode cX8_ranked 90 = .ok (.istore_n 3, 1) := by decide +kernel
theorem dX8_ranked_91 : decode cX8_ranked 91 = .ok (.iinc 4 1, 3) := by decide +kernel
theorem dX8_ranked_94 : decode cX8_ranked 94 = .ok (.goto (-54), 3) := by decide +kernel
theorem dX8_ranked_97 : decode cX8_ranked 97 = .ok (.iload_n 3, 1) := by decide +kernel
theorem dX8_ranked_98 : decode cX8_ranked 98 = .ok (.iload_n 1, 1) := by decide +kernel
theorem dX8_ranked_99 : decode cX8_ranked 99 = .ok (.if_icmp .ne 5, 3) := by decide +kernel
theorem dX8_ranked_102 : decode cX8_ranked 102 = .ok (.iload_n 2, 1) := by decide +kernel
theorem dX8_ranked_103 : decode cX8_ranked 103 = .ok (.ireturn, 1) := by decide +kernel
theorem dX8_ranked_104 : decode cX8_ranked 104 = .ok (.iinc 2 1, 3) := by decide +kernel
theorem dX8_ranked_107 : decode cX8_ranked 107 = .ok (.goto (-100), 3) := by decide +kernel
theorem dX8_ranked_110 : decode cX8_ranked 110 = .ok (.aload_n 0, 1) := by decide +kernel
theorem dX8_ranked_111 : decode cX8_ranked 111 = .ok (.iconst 1, 1) := by decide +kernel
theorem dX8_ranked_112 : decode cX8_ranked 112 = .ok (.invokevirtual 61, 3) := by decide +kernel
theorem dX8_ranked_115 : decode cX8_ranked 115 = .ok (.ireturn, 1) := by decide +kernel
theorem dX8_withWhere_0 : decode cX8_withWhere 0 = .ok (.iconst 0, 1) := by decide +kernel
theorem dX8_withWhere_1 : decode cX8_withWhere 1 = .ok (.istore_n 2, 1) := by decide +kernel
theorem dX8_withWhere_2 : decode cX8_withWhere 2 = .ok (.iconst 0, 1) := by decide +kernel
theorem dX8_withWhere_3 : decode cX8_withWhere 3 = .ok (.istore_n 3, 1) := by decide +kernel
theorem dX8_withWhere_4 : decode cX8_withWhere 4 = .ok (.iload_n 3, 1) := by decide +kernel
theorem dX8_withWhere_5 : decode cX8_withWhere 5 = .ok (.aload_n 0, 1) := by decide +kernel
theorem dX8_withWhere_6 : decode cX8_withWhere 6 = .ok (.getfield 7, 3) := by decide +kernel
theorem dX8_withWhere_9 : decode cX8_withWhere 9 = .ok (.iconst 3, 1) := by decide +kernel
theorem dX8_withWhere_10 : decode cX8_withWhere 10 = .ok (.iaload, 1) := by decide +kernel
theorem dX8_withWhere_11 : decode cX8_withWhere 11 = .ok (.if_icmp .ge 32, 3) := by decide +kernel
theorem dX8_withWhere_14 : decode cX8_withWhere 14 = .ok (.iload_n 2, 1) := by decide +kernel
theorem dX8_withWhere_15 : decode cX8_withWhere 15 = .ok (.aload_n 0, 1) := by decide +kernel
theorem dX8_withWhere_16 : decode cX8_withWhere 16 = .ok (.getfield 7, 3) := by decide +kernel
theorem dX8_withWhere_19 : decode cX8_withWhere 19 = .ok (.iload_n 3, 1) := by decide +kernel
theorem dX8_withWhere_20 : decode cX8_withWhere 20 = .ok (.bipush 7, 2) := by decide +kernel
theorem dX8_withWhere_22 : decode cX8_withWhere 22 = .ok (.invokestatic 71, 3) := by decide +kernel
theorem dX8_withWhere_25 : decode cX8_withWhere 25 = .ok (.iaload, 1) := by decide +kernel
theorem dX8_withWhere_26 : decode cX8_withWhere 26 = .ok (.iload_n 1, 1) := by decide +kernel
theorem dX8_withWhere_27 : decode cX8_withWhere 27 = .ok (.if_icmp .ne 7, 3) := by decide +kernel
theorem dX8_withWhere_30 : decode cX8_withWhere 30 = .ok (.iconst 1, 1) := by decide +kernel
theorem dX8_withWhere_31 : decode cX8_withWhere 31 = .ok (.goto 4, 3) := by decide +kernel
theorem dX8_withWhere_34 : decode cX8_withWhere 34 = .ok (.iconst 0, 1) := by decide +kernel
theorem dX8_withWhere_35 : decode cX8_withWhere 35 = .ok (.iadd, 1) := by decide +kernel
theorem dX8_withWhere_36 : decode cX8_withWhere 36 = .ok (.istore_n 2, 1) := by decide +kernel
theorem dX8_withWhere_37 : decode cX8_withWhere 37 = .ok (.iinc 3 1, 3) := by decide +kernel
theorem dX8_withWhere_40 : decode cX8_withWhere 40 = .ok (.goto (-36), 3) := by decide +kernel
theorem dX8_withWhere_43 : decode cX8_withWhere 43 = .ok (.iload_n 2, 1) := by decide +kernel
theorem dX8_withWhere_44 : decode cX8_withWhere 44 = .ok (.ireturn, 1) := by decide +kernel
theorem dX8_goesOut_0 : decode cX8_goesOut 0 = .ok (.aload_n 0, 1) := by decide +kernel
theorem dX8_goesOut_1 : decode cX8_goesOut 1 = .ok (.iload_n 1, 1) := by decide +kernel
theorem dX8_goesOut_2 : decode cX8_goesOut 2 = .ok (.invokevirtual 108, 3) := by decide +kernel
theorem dX8_goesOut_5 : decode cX8_goesOut 5 = .ok (.ifCond .ne 9, 3) := by decide +kernel
theorem dX8_goesOut_8 : decode cX8_goesOut 8 = .ok (.aload_n 0, 1) := by decide +kernel
theorem dX8_goesOut_9 : decode cX8_goesOut 9 = .ok (.iconst 1, 1) := by decide +kernel
theorem dX8_goesOut_10 : decode cX8_goesOut 10 = .ok (.invokevirtual 47, 3) := by decide +kernel
theorem dX8_goesOut_13 : decode cX8_goesOut 13 = .ok (.ireturn, 1) := by decide +kernel
theorem dX8_goesOut_14 : decode cX8_goesOut 14 = .ok (.aload_n 0, 1) := by decide +kernel
theorem dX8_goesOut_15 : decode cX8_goesOut 15 = .ok (.getfield 7, 3) := by decide +kernel
theorem dX8_goesOut_18 : decode cX8_goesOut 18 = .ok (.iload_n 1, 1) := by decide +kernel
theorem dX8_goesOut_19 : decode cX8_goesOut 19 = .ok (.bipush 7, 2) := by decide +kernel
theorem dX8_goesOut_21 : decode cX8_goesOut 21 = .ok (.invokestatic 71, 3) := by decide +kernel
theorem dX8_goesOut_24 : decode cX8_goesOut 24 = .ok (.iaload, 1) := by decide +kernel
theorem dX8_goesOut_25 : decode cX8_goesOut 25 = .ok (.ifCond .eq 20, 3) := by decide +kernel
theorem dX8_goesOut_28 : decode cX8_goesOut 28 = .ok (.aload_n 0, 1) := by decide +kernel
theorem dX8_goesOut_29 : decode cX8_goesOut 29 = .ok (.iconst 3, 1) := by decide +kernel
theorem dX8_goesOut_30 : decode cX8_goesOut 30 = .ok (.aload_n 0, 1) := by decide +kernel
theorem dX8_goesOut_31 : decode cX8_goesOut 31 = .ok (.getfield 7, 3) := by decide +kernel
theorem dX8_goesOut_34 : decode cX8_goesOut 34 = .ok (.iload_n 1, 1) := by decide +kernel
theorem dX8_goesOut_35 : decode cX8_goesOut 35 = .ok (.bipush 7, 2) := by decide +kernel
theorem dX8_goesOut_37 : decode cX8_goesOut 37 = .ok (.invokestatic 71, 3) := by decide +kernel
theorem dX8_goesOut_40 : decode cX8_goesOut 40 = .ok (.iaload, 1) := by decide +kernel
theorem dX8_goesOut_41 : decode cX8_goesOut 41 = .ok (.invokevirtual 82, 3) := by decide +kernel
theorem dX8_goesOut_44 : decode cX8_goesOut 44 = .ok (.ireturn, 1) := by decide +kernel
theorem dX8_goesOut_45 : decode cX8_goesOut 45 = .ok (.aload_n 0, 1) := by decide +kernel
theorem dX8_goesOut_46 : decode cX8_goesOut 46 = .ok (.iload_n 1, 1) := by decide +kernel
theorem dX8_goesOut_47 : decode cX8_goesOut 47 = .ok (.invokevirtual 118, 3) := by decide +kernel
theorem dX8_goesOut_50 : decode cX8_goesOut 50 = .ok (.ifCond .eq 11, 3) := by decide +kernel
theorem dX8_goesOut_53 : decode cX8_goesOut 53 = .ok (.aload_n 0, 1) := by decide +kernel
theorem dX8_goesOut_54 : decode cX8_goesOut 54 = .ok (.bipush 10, 2) := by decide +kernel
theorem dX8_goesOut_56 : decode cX8_goesOut 56 = .ok (.iload_n 1, 1) := by decide +kernel
theorem dX8_goesOut_57 : decode cX8_goesOut 57 = .ok (.invokevirtual 82, 3) := by decide +kernel
theorem dX8_goesOut_60 : decode cX8_goesOut 60 = .ok (.ireturn, 1) := by decide +kernel
theorem dX8_goesOut_61 : decode cX8_goesOut 61 = .ok (.aload_n 0, 1) := by decide +kernel
theorem dX8_goesOut_62 : decode cX8_goesOut 62 = .ok (.iload_n 1, 1) := by decide +kernel
theorem dX8_goesOut_63 : decode cX8_goesOut 63 = .ok (.invokevirtual 127, 3) := by decide +kernel
theorem dX8_goesOut_66 : decode cX8_goesOut 66 = .ok (.ifCond .ne 11, 3) := by decide +kernel
theorem dX8_goesOut_69 : decode cX8_goesOut 69 = .ok (.aload_n 0, 1) := by decide +kernel
theorem dX8_goesOut_70 : decode cX8_goesOut 70 = .ok (.bipush 13, 2) := by decide +kernel
theorem dX8_goesOut_72 : decode cX8_goesOut 72 = .ok (.iload_n 1, 1) := by decide +kernel
theorem dX8_goesOut_73 : decode cX8_goesOut 73 = .ok (.invokevirtual 82, 3) := by decide +kernel
theorem dX8_goesOut_76 : decode cX8_goesOut 76 = .ok (.ireturn, 1) := by decide +kernel
theorem dX8_goesOut_77 : decode cX8_goesOut 77 = .ok (.aload_n 0, 1) := by decide +kernel
theorem dX8_goesOut_78 : decode cX8_goesOut 78 = .ok (.getfield 7, 3) := by decide +kernel
theorem dX8_goesOut_81 : decode cX8_goesOut 81 = .ok (.iload_n 1, 1) := by decide +kernel
theorem dX8_goesOut_82 : decode cX8_goesOut 82 = .ok (.bipush 8, 2) := by decide +kernel
theorem dX8_goesOut_84 : decode cX8_goesOut 84 = .ok (.invokestatic 71, 3) := by decide +kernel
theorem dX8_goesOut_87 : decode cX8_goesOut 87 = .ok (.iaload, 1) := by decide +kernel
theorem dX8_goesOut_88 : decode cX8_goesOut 88 = .ok (.ifCond .ne 11, 3) := by decide +kernel
theorem dX8_goesOut_91 : decode cX8_goesOut 91 = .ok (.aload_n 0, 1) := by decide +kernel
theorem dX8_goesOut_92 : decode cX8_goesOut 92 = .ok (.bipush 14, 2) := by decide +kernel
theorem dX8_goesOut_94 : decode cX8_goesOut 94 = .ok (.iload_n 1, 1) := by decide +kernel
theorem dX8_goesOut_95 : decode cX8_goesOut 95 = .ok (.invokevirtual 82, 3) := by decide +kernel
theorem dX8_goesOut_98 : decode cX8_goesOut 98 = .ok (.ireturn, 1) := by decide +kernel
theorem dX8_goesOut_99 : decode cX8_goesOut 99 = .ok (.aload_n 0, 1) := by decide +kernel
theorem dX8_goesOut_100 : decode cX8_goesOut 100 = .ok (.getfield 7, 3) := by decide +kernel
theorem dX8_goesOut_103 : decode cX8_goesOut 103 = .ok (.iload_n 1, 1) := by decide +kernel
theorem dX8_goesOut_104 : decode cX8_goesOut 104 = .ok (.bipush 7, 2) := by decide +kernel
theorem dX8_goesOut_106 : decode cX8_goesOut 106 = .ok (.invokestatic 71, 3) := by decide +kernel
theorem dX8_goesOut_109 : decode cX8_goesOut 109 = .ok (.iconst 1, 1) := by decide +kernel
theorem dX8_goesOut_110 : decode cX8_goesOut 110 = .ok (.iastore, 1) := by decide +kernel
theorem dX8_goesOut_111 : decode cX8_goesOut 111 = .ok (.aload_n 0, 1) := by decide +kernel
theorem dX8_goesOut_112 : decode cX8_goesOut 112 = .ok (.iconst 1, 1) := by decide +kernel
theorem dX8_goesOut_113 : decode cX8_goesOut 113 = .ok (.invokevirtual 155, 3) := by decide +kernel
theorem dX8_goesOut_116 : decode cX8_goesOut 116 = .ok (.ireturn, 1) := by decide +kernel
theorem dX8_toQuay_0 : decode cX8_toQuay 0 = .ok (.aload_n 0, 1) := by decide +kernel
theorem dX8_toQuay_1 : decode cX8_toQuay 1 = .ok (.invokevirtual 85, 3) := by decide +kernel
theorem dX8_toQuay_4 : decode cX8_toQuay 4 = .ok (.aload_n 0, 1) := by decide +kernel
theorem dX8_toQuay_5 : decode cX8_toQuay 5 = .ok (.aload_n 0, 1) := by decide +kernel
theorem dX8_toQuay_6 : decode cX8_toQuay 6 = .ok (.iload_n 1, 1) := by decide +kernel
theorem dX8_toQuay_7 : decode cX8_toQuay 7 = .ok (.invokevirtual 158, 3) := by decide +kernel
theorem dX8_toQuay_10 : decode cX8_toQuay 10 = .ok (.iconst 1, 1) := by decide +kernel
theorem dX8_toQuay_11 : decode cX8_toQuay 11 = .ok (.iconst 0, 1) := by decide +kernel
theorem dX8_toQuay_12 : decode cX8_toQuay 12 = .ok (.iconst 2, 1) := by decide +kernel
theorem dX8_toQuay_13 : decode cX8_toQuay 13 = .ok (.invokevirtual 92, 3) := by decide +kernel
theorem dX8_toQuay_16 : decode cX8_toQuay 16 = .ok (.ireturn, 1) := by decide +kernel
theorem dX8_room_0 : decode cX8_room 0 = .ok (.bipush 12, 2) := by decide +kernel
theorem dX8_room_2 : decode cX8_room 2 = .ok (.istore_n 1, 1) := by decide +kernel
theorem dX8_room_3 : decode cX8_room 3 = .ok (.iconst 0, 1) := by decide +kernel
theorem dX8_room_4 : decode cX8_room 4 = .ok (.istore_n 2, 1) := by decide +kernel
theorem dX8_room_5 : decode cX8_room 5 = .ok (.iload_n 2, 1) := by decide +kernel
theorem dX8_room_6 : decode cX8_room 6 = .ok (.aload_n 0, 1) := by decide +kernel
theorem dX8_room_7 : decode cX8_room 7 = .ok (.getfield 7, 3) := by decide +kernel
theorem dX8_room_10 : decode cX8_room 10 = .ok (.iconst 3, 1) := by decide +kernel
theorem dX8_room_11 : decode cX8_room 11 = .ok (.iaload, 1) := by decide +kernel
theorem dX8_room_12 : decode cX8_room 12 = .ok (.if_icmp .ge 41, 3) := by decide +kernel
theorem dX8_room_15 : decode cX8_room 15 = .ok (.iload_n 1, 1) := by decide +kernel
theorem dX8_room_16 : decode cX8_room 16 = .ok (.aload_n 0, 1) := by decide +kernel
theorem dX8_room_17 : decode cX8_room 17 = .ok (.getfield 7, 3) := by decide +kernel
theorem dX8_room_20 : decode cX8_room 20 = .ok (.iload_n 2, 1) := by decide +kernel
theorem dX8_room_21 : decode cX8_room 21 = .ok (.bipush 7, 2) := by decide +kernel
theorem dX8_room_23 : decode cX8_room 23 = .ok (.invokestatic 71, 3) := by decide +kernel
theorem dX8_room_26 : decode cX8_room 26 = .ok (.iaload, 1) := by decide +kernel
theorem dX8_room_27 : decode cX8_room 27 = .ok (.iconst 2, 1) := by decide +kernel
theorem dX8_room_28 : decode cX8_room 28 = .ok (.if_icmp .ne 16, 3) := by decide +kernel
theorem dX8_room_31 : decode cX8_room 31 = .ok (.aload_n 0, 1) := by decide +kernel
theorem dX8_room_32 : decode cX8_room 32 = .ok (.getfield 7, 3) := by decide +kernel
theorem dX8_room_35 : decode cX8_room 35 = .ok (.iload_n 2, 1) := by decide +kernel
theorem dX8_room_36 : decode cX8_room 36 = .ok (.iconst 0, 1) := by decide +kernel
theorem dX8_room_37 : decode cX8_room 37 = .ok (.invokestatic 71, 3) := by decide +kernel
theorem dX8_room_40 : decode cX8_room 40 = .ok (.iaload, 1) := by decide +kernel
theorem dX8_room_41 : decode cX8_room 41 = .ok (.goto 4, 3) := by decide +kernel
theorem dX8_room_44 : decode cX8_room 44 = .ok (.iconst 0, 1) := by decide +kernel
theorem dX8_room_45 : decode cX8_room 45 = .ok (.isub, 1) := by decide +kernel
theorem dX8_room_46 : decode cX8_room 46 = .ok (.istore_n 1, 1) := by decide +kernel
theorem dX8_room_47 : decode cX8_room 47 = .ok (.iinc 2 1, 3) := by decide +kernel
theorem dX8_room_50 : decode cX8_room 50 = .ok (.goto (-45), 3) := by decide +kernel
theorem dX8_room_53 : decode cX8_room 53 = .ok (.iload_n 1, 1) := by decide +kernel
theorem dX8_room_54 : decode cX8_room 54 = .ok (.ireturn, 1) := by decide +kernel
theorem dX8_heightAt_0 : decode cX8_heightAt 0 = .ok (.bipush 6, 2) := by decide +kernel
theorem dX8_heightAt_2 : decode cX8_heightAt 2 = .ok (.iload_n 0, 1) := by decide +kernel
theorem dX8_heightAt_3 : decode cX8_heightAt 3 = .ok (.bipush 12, 2) := by decide +kernel
theorem dX8_heightAt_5 : decode cX8_heightAt 5 = .ok (.irem, 1) := by decide +kernel
theorem dX8_heightAt_6 : decode cX8_heightAt 6 = .ok (.isub, 1) := by decide +kernel
theorem dX8_heightAt_7 : decode cX8_heightAt 7 = .ok (.istore_n 1, 1) := by decide +kernel
theorem dX8_heightAt_8 : decode cX8_heightAt 8 = .ok (.iload_n 1, 1) := by decide +kernel
theorem dX8_heightAt_9 : decode cX8_heightAt 9 = .ok (.ifCond .ge 8, 3) := by decide +kernel
theorem dX8_heightAt_12 : decode cX8_heightAt 12 = .ok (.iload_n 1, 1) := by decide +kernel
theorem dX8_heightAt_13 : decode cX8_heightAt 13 = .ok (.ineg, 1) := by decide +kernel
theorem dX8_heightAt_14 : decode cX8_heightAt 14 = .ok (.goto 4, 3) := by decide +kernel
theorem dX8_heightAt_17 : decode cX8_heightAt 17 = .ok (.iload_n 1, 1) := by decide +kernel
theorem dX8_heightAt_18 : decode cX8_heightAt 18 = .ok (.ireturn, 1) := by decide +kernel
theorem dX8_loads_0 : decode cX8_loads 0 = .ok (.aload_n 0, 1) := by decide +kernel
theorem dX8_loads_1 : decode cX8_loads 1 = .ok (.iload_n 1, 1) := by decide +kernel
theorem dX8_loads_2 : decode cX8_loads 2 = .ok (.invokevirtual 108, 3) := by decide +kernel
theorem dX8_loads_5 : decode cX8_loads 5 = .ok (.ifCond .ne 9, 3) := by decide +kernel
theorem dX8_loads_8 : decode cX8_loads 8 = .ok (.aload_n 0, 1) := by decide +kernel
theorem dX8_loads_9 : decode cX8_loads 9 = .ok (.iconst 1, 1) := by decide +kernel
theorem dX8_loads_10 : decode cX8_loads 10 = .ok (.invokevirtual 47, 3) := by decide +kernel
theorem dX8_loads_13 : decode cX8_loads 13 = .ok (.ireturn, 1) := by decide +kernel
theorem dX8_loads_14 : decode cX8_loads 14 = .ok (.aload_n 0, 1) := by decide +kernel
theorem dX8_loads_15 : decode cX8_loads 15 = .ok (.getfield 7, 3) := by decide +kernel
theorem dX8_loads_18 : decode cX8_loads 18 = .ok (.iload_n 1, 1) := by decide +kernel
theorem dX8_loads_19 : decode cX8_loads 19 = .ok (.bipush 7, 2) := by decide +kernel
theorem dX8_loads_21 : decode cX8_loads 21 = .ok (.invokestatic 71, 3) := by decide +kernel
theorem dX8_loads_24 : decode cX8_loads 24 = .ok (.iaload, 1) := by decide +kernel
theorem dX8_loads_25 : decode cX8_loads 25 = .ok (.iconst 1, 1) := by decide +kernel
theorem dX8_loads_26 : decode cX8_loads 26 = .ok (.if_icmp .eq 21, 3) := by decide +kernel
theorem dX8_loads_29 : decode cX8_loads 29 = .ok (.aload_n 0, 1) := by decide +kernel
theorem dX8_loads_30 : decode cX8_loads 30 = .ok (.bipush 15, 2) := by decide +kernel
theorem dX8_loads_32 : decode cX8_loads 32 = .ok (.aload_n 0, 1) := by decide +kernel
theorem dX8_loads_33 : decode cX8_loads 33 = .ok (.getfield 7, 3) := by decide +kernel
theorem dX8_loads_36 : decode cX8_loads 36 = .ok (.iload_n 1, 1) := by decide +kernel
theorem dX8_loads_37 : decode cX8_loads 37 = .ok (.bipush 7, 2) := by decide +kernel
theorem dX8_loads_39 : decode cX8_loads 39 = .ok (.invokestatic 71, 3) := by decide +kernel
theorem dX8_loads_42 : decode cX8_loads 42 = .ok (.iaload, 1) := by decide +kernel
theorem dX8_loads_43 : decode cX8_loads 43 = .ok (.invokevirtual 82, 3) := by decide +kernel
theorem dX8_loads_46 : decode cX8_loads 46 = .ok (.ireturn, 1) := by decide +kernel
theorem dX8_loads_47 : decode cX8_loads 47 = .ok (.aload_n 0, 1) := by decide +kernel
theorem dX8_loads_48 : decode cX8_loads 48 = .ok (.getfield 7, 3) := by decide +kernel
theorem dX8_loads_51 : decode cX8_loads 51 = .ok (.iconst 0, 1) := by decide +kernel
theorem dX8_loads_52 : decode cX8_loads 52 = .ok (.iaload, 1) := by decide +kernel
theorem dX8_loads_53 : decode cX8_loads 53 = .ok (.invokestatic 161, 3) := by decide +kernel
theorem dX8_loads_56 : decode cX8_loads 56 = .ok (.iconst 3, 1) := by decide +kernel
theorem dX8_loads_57 : decode cX8_loads 57 = .ok (.if_icmp .ge 19, 3) := by decide +kernel
theorem dX8_loads_60 : decode cX8_loads 60 = .ok (.aload_n 0, 1) := by decide +kernel
theorem dX8_loads_61 : decode cX8_loads 61 = .ok (.bipush 16, 2) := by decide +kernel
theorem dX8_loads_63 : decode cX8_loads 63 = .ok (.aload_n 0, 1) := by decide +kernel
theorem dX8_loads_64 : decode cX8_loads 64 = .ok (.getfield 7, 3) := by decide +kernel
theorem dX8_loads_67 : decode cX8_loads 67 = .ok (.iconst 0, 1) := by decide +kernel
theorem dX8_loads_68 : decode cX8_loads 68 = .ok (.iaload, 1) := by decide +kernel
theorem dX8_loads_69 : decode cX8_loads 69 = .ok (.invokestatic 161, 3) := by decide +kernel
theorem dX8_loads_72 : decode cX8_loads 72 = .ok (.invokevirtual 82, 3) := by decide +kernel
theorem dX8_loads_75 : decode cX8_loads 75 = .ok (.ireturn, 1) := by decide +kernel
theorem dX8_loads_76 : decode cX8_loads 76 = .ok (.aload_n 0, 1) := by decide +kernel
theorem dX8_loads_77 : decode cX8_loads 77 = .ok (.invokevirtual 164, 3) := by decide +kernel
theorem dX8_loads_80 : decode cX8_loads 80 = .ok (.aload_n 0, 1) := by decide +kernel
theorem dX8_loads_81 : decode cX8_loads 81 = .ok (.getfield 7, 3) := by decide +kernel
theorem dX8_loads_84 : decode cX8_loads 84 = .ok (.iload_n 1, 1) := by decide +kernel
theorem dX8_loads_85 : decode cX8_loads 85 = .ok (.iconst 0, 1) := by decide +kernel
theorem dX8_loads_86 : decode cX8_loads 86 = .ok (.invokestatic 71, 3) := by decide +kernel
theorem dX8_loads_89 : decode cX8_loads 89 = .ok (.iaload, 1) := by decide +kernel
theorem dX8_loads_90 : decode cX8_loads 90 = .ok (.if_icmp .ge 14, 3) := by decide +kernel
theorem dX8_loads_93 : decode cX8_loads 93 = .ok (.aload_n 0, 1) := by decide +kernel
theorem dX8_loads_94 : decode cX8_loads 94 = .ok (.bipush 17, 2) := by decide +kernel
theorem dX8_loads_96 : decode cX8_loads 96 = .ok (.aload_n 0, 1) := by decide +kernel
theorem dX8_loads_97 : decode cX8_loads 97 = .ok (.invokevirtual 164, 3) := by decide +kernel
theorem dX8_loads_100 : decode cX8_loads 100 = .ok (.invokevirtual 82, 3) := by decide +kernel
theorem dX8_loads_103 : decode cX8_loads 103 = .ok (.ireturn, 1) := by decide +kernel
theorem dX8_loads_104 : decode cX8_loads 104 = .ok (.aload_n 0, 1) := by decide +kernel
theorem dX8_loads_105 : decode cX8_loads 105 = .ok (.getfield 7, 3) := by decide +kernel
theorem dX8_loads_108 : decode cX8_loads 108 = .ok (.iload_n 1, 1) := by decide +kernel
theorem dX8_loads_109 : decode cX8_loads 109 = .ok (.bipush 7, 2) := by decide +kernel
theorem dX8_loads_111 : decode cX8_loads 111 = .ok (.invokestatic 71, 3) := by decide +kernel
theorem dX8_loads_114 : decode cX8_loads 114 = .ok (.iconst 2, 1) := by decide +kernel
theorem dX8_loads_115 : decode cX8_loads 115 = .ok (.iastore, 1) := by decide +kernel
theorem dX8_loads_116 : decode cX8_loads 116 = .ok (.aload_n 0, 1) := by decide +kernel
theorem dX8_loads_117 : decode cX8_loads 117 = .ok (.invokevirtual 164, 3) := by decide +kernel
theorem dX8_loads_120 : decode cX8_loads 120 = .ok (.ireturn, 1) := by decide +kernel
theorem dX8_load_0 : decode cX8_load 0 = .ok (.aload_n 0, 1) := by decide +kernel
theorem dX8_load_1 : decode cX8_load 1 = .ok (.invokevirtual 85, 3) := by decide +kernel
theorem dX8_load_4 : decode cX8_load 4 = .ok (.aload_n 0, 1) := by decide +kernel
theorem dX8_load_5 : decode cX8_load 5 = .ok (.aload_n 0, 1) := by decide +kernel
theorem dX8_load_6 : decode cX8_load 6 = .ok (.iload_n 1, 1) := by decide +kernel
theorem dX8_load_7 : decode cX8_load 7 = .ok (.invokevirtual 168, 3) := by decide +kernel
theorem dX8_load_10 : decode cX8_load 10 = .ok (.iconst 1, 1) := by decide +kernel
theorem dX8_load_11 : decode cX8_load 11 = .ok (.iconst 0, 1) := by decide +kernel
theorem dX8_load_12 : decode cX8_load 12 = .ok (.iconst 2, 1) := by decide +kernel
theorem dX8_load_13 : decode cX8_load 13 = .ok (.invokevirtual 92, 3) := by decide +kernel
theorem dX8_load_16 : decode cX8_load 16 = .ok (.ireturn, 1) := by decide +kernel
theorem dX8_cargoOf_0 : decode cX8_cargoOf 0 = .ok (.iconst 0, 1) := by decide +kernel
theorem dX8_cargoOf_1 : decode cX8_cargoOf 1 = .ok (.istore_n 1, 1) := by decide +kernel
theorem dX8_cargoOf_2 : decode cX8_cargoOf 2 = .ok (.iconst 0, 1) := by decide +kernel
theorem dX8_cargoOf_3 : decode cX8_cargoOf 3 = .ok (.istore_n 2, 1) := by decide +kernel
theorem dX8_cargoOf_4 : decode cX8_cargoOf 4 = .ok (.iload_n 2, 1) := by decide +kernel
theorem dX8_cargoOf_5 : decode cX8_cargoOf 5 = .ok (.aload_n 0, 1) := by decide +kernel
theorem dX8_cargoOf_6 : decode cX8_cargoOf 6 = .ok (.getfield 7, 3) := by decide +kernel
theorem dX8_cargoOf_9 : decode cX8_cargoOf 9 = .ok (.iconst 3, 1) := by decide +kernel
theorem dX8_cargoOf_10 : decode cX8_cargoOf 10 = .ok (.iaload, 1) := by decide +kernel
theorem dX8_cargoOf_11 : decode cX8_cargoOf 11 = .ok (.if_icmp .ge 36, 3) := by decide +kernel
theorem dX8_cargoOf_14 : decode cX8_cargoOf 14 = .ok (.iload_n 1, 1) := by decide +kernel
theorem dX8_cargoOf_15 : decode cX8_cargoOf 15 = .ok (.aload_n 0, 1) := by decide +kernel
theorem dX8_cargoOf_16 : decode cX8_cargoOf 16 = .ok (.getfield 7, 3) := by decide +kernel
theorem dX8_cargoOf_19 : decode cX8_cargoOf 19 = .ok (.iload_n 2, 1) := by decide +kernel
theorem dX8_cargoOf_20 : decode cX8_cargoOf 20 = .ok (.bipush 7, 2) := by decide +kernel
theorem dX8_cargoOf_22 : decode cX8_cargoOf 22 = .ok (.invokestatic 71, 3) := by decide +kernel
theorem dX8_cargoOf_25 : decode cX8_cargoOf 25 = .ok (.iaload, 1) := by decide +kernel
theorem dX8_cargoOf_26 : decode cX8_cargoOf 26 = .ok (.iconst 2, 1) := by decide +kernel
theorem dX8_cargoOf_27 : decode cX8_cargoOf 27 = .ok (.if_icmp .ne 11, 3) := by decide +kernel
theorem dX8_cargoOf_30 : decode cX8_cargoOf 30 = .ok (.aload_n 0, 1) := by decide +kernel
theorem dX8_cargoOf_31 : decode cX8_cargoOf 31 = .ok (.iload_n 2, 1) := by decide +kernel
theorem dX8_cargoOf_32 : decode cX8_cargoOf 32 = .ok (.invokevirtual 149, 3) := by decide +kernel
theorem dX8_cargoOf_35 : decode cX8_cargoOf 35 = .ok (.goto 4, 3) := by decide +kernel
theorem dX8_cargoOf_38 : decode cX8_cargoOf 38 = .ok (.iconst 0, 1) := by decide +kernel
theorem dX8_cargoOf_39 : decode cX8_cargoOf 39 = .ok (.iadd, 1) := by decide +kernel
theorem dX8_cargoOf_40 : decode cX8_cargoOf 40 = .ok (.istore_n 1, 1) := by decide +kernel
theorem dX8_cargoOf_41 : decode cX8_cargoOf 41 = .ok (.iinc 2 1, 3) := by decide +kernel
theorem dX8_cargoOf_44 : decode cX8_cargoOf 44 = .ok (.goto (-40), 3) := by decide +kernel
theorem dX8_cargoOf_47 : decode cX8_cargoOf 47 = .ok (.iload_n 1, 1) := by decide +kernel
theorem dX8_cargoOf_48 : decode cX8_cargoOf 48 = .ok (.ireturn, 1) := by decide +kernel
theorem dX8_sails_0 : decode cX8_sails 0 = .ok (.aload_n 0, 1) := by decide +kernel
theorem dX8_sails_1 : decode cX8_sails 1 = .ok (.iconst 2, 1) := by decide +kernel
theorem dX8_sails_2 : decode cX8_sails 2 = .ok (.invokevirtual 155, 3) := by decide +kernel
theorem dX8_sails_5 : decode cX8_sails 5 = .ok (.ifCond .ne 11, 3) := by decide +kernel
theorem dX8_sails_8 : decode cX8_sails 8 = .ok (.aload_n 0, 1) := by decide +kernel
theorem dX8_sails_9 : decode cX8_sails 9 = .ok (.bipush 18, 2) := by decide +kernel
theorem dX8_sails_11 : decode cX8_sails 11 = .ok (.iconst 0, 1) := by decide +kernel
theorem dX8_sails_12 : decode cX8_sails 12 = .ok (.invokevirtual 82, 3) := by decide +kernel
theorem dX8_sails_15 : decode cX8_sails 15 = .ok (.ireturn, 1) := by decide +kernel
theorem dX8_sails_16 : decode cX8_sails 16 = .ok (.aload_n 0, 1) := by decide +kernel
theorem dX8_sails_17 : decode cX8_sails 17 = .ok (.getfield 7, 3) := by decide +kernel
theorem dX8_sails_20 : decode cX8_sails 20 = .ok (.iconst 0, 1) := by decide +kernel
theorem dX8_sails_21 : decode cX8_sails 21 = .ok (.iaload, 1) := by decide +kernel
theorem dX8_sails_22 : decode cX8_sails 22 = .ok (.invokestatic 161, 3) := by decide +kernel
theorem dX8_sails_25 : decode cX8_sails 25 = .ok (.iconst 3, 1) := by decide +kernel
theorem dX8_sails_26 : decode cX8_sails 26 = .ok (.if_icmp .ge 19, 3) := by decide +kernel
theorem dX8_sails_29 : decode cX8_sails 29 = .ok (.aload_n 0, 1) := by decide +kernel
theorem dX8_sails_30 : decode cX8_sails 30 = .ok (.bipush 16, 2) := by decide +kernel
theorem dX8_sails_32 : decode cX8_sails 32 = .ok (.aload_n 0, 1) := by decide +kernel
theorem dX8_sails_33 : decode cX8_sails 33 = .ok (.getfield 7, 3) := by decide +kernel
theorem dX8_sails_36 : decode cX8_sails 36 = .ok (.iconst 0, 1) := by decide +kernel
theorem dX8_sails_37 : decode cX8_sails 37 = .ok (.iaload, 1) := by decide +kernel
theorem dX8_sails_38 : decode cX8_sails 38 = .ok (.invokestatic 161, 3) := by decide +kernel
theorem dX8_sails_41 : decode cX8_sails 41 = .ok (.invokevirtual 82, 3) := by decide +kernel
theorem dX8_sails_44 : decode cX8_sails 44 = .ok (.ireturn, 1) := by decide +kernel
theorem dX8_sails_45 : decode cX8_sails 45 = .ok (.aload_n 0, 1) := by decide +kernel
theorem dX8_sails_46 : decode cX8_sails 46 = .ok (.invokevirtual 171, 3) := by decide +kernel
theorem dX8_sails_49 : decode cX8_sails 49 = .ok (.istore_n 1, 1) := by decide +kernel
theorem dX8_sails_50 : decode cX8_sails 50 = .ok (.iconst 0, 1) := by decide +kernel
theorem dX8_sails_51 : decode cX8_sails 51 = .ok (.istore_n 2, 1) := by decide +kernel
theorem dX8_sails_52 : decode cX8_sails 52 = .ok (.iload_n 2, 1) := by decide +kernel
theorem dX8_sails_53 : decode cX8_sails 53 = .ok (.aload_n 0, 1) := by decide +kernel
theorem dX8_sails_54 : decode cX8_sails 54 = .ok (.getfield 7, 3) := by decide +kernel
theorem dX8_sails_57 : decode cX8_sails 57 = .ok (.iconst 3, 1) := by decide +kernel
theorem dX8_sails_58 : decode cX8_sails 58 = .ok (.iaload, 1) := by decide +kernel
theorem dX8_sails_59 : decode cX8_sails 59 = .ok (.if_icmp .ge 59, 3) := by decide +kernel
theorem dX8_sails_62 : decode cX8_sails 62 = .ok (.aload_n 0, 1) := by decide +kernel
theorem dX8_sails_63 : decode cX8_sails 63 = .ok (.getfield 7, 3) := by decide +kernel
theorem dX8_sails_66 : decode cX8_sails 66 = .ok (.iload_n 2, 1) := by decide +kernel
theorem dX8_sails_67 : decode cX8_sails 67 = .ok (.bipush 7, 2) := by decide +kernel
theorem dX8_sails_69 : decode cX8_sails 69 = .ok (.invokestatic 71, 3) := by decide +kernel
theorem dX8_sails_72 : decode cX8_sails 72 = .ok (.iaload, 1) := by decide +kernel
theorem dX8_sails_73 : decode cX8_sails 73 = .ok (.iconst 2, 1) := by decide +kernel
theorem dX8_sails_74 : decode cX8_sails 74 = .ok (.if_icmp .eq 6, 3) := by decide +kernel
theorem dX8_sails_77 : decode cX8_sails 77 = .ok (.goto 35, 3) := by decide +kernel
theorem dX8_sails_80 : decode cX8_sails 80 = .ok (.aload_n 0, 1) := by decide +kernel
theorem dX8_sails_81 : decode cX8_sails 81 = .ok (.getfield 7, 3) := by decide +kernel
theorem dX8_sails_84 : decode cX8_sails 84 = .ok (.iload_n 2, 1) := by decide +kernel
theorem dX8_sails_85 : decode cX8_sails 85 = .ok (.bipush 7, 2) := by decide +kernel
theorem dX8_sails_87 : decode cX8_sails 87 = .ok (.invokestatic 71, 3) := by decide +kernel
theorem dX8_sails_90 : decode cX8_sails 90 = .ok (.iconst 3, 1) := by decide +kernel
theorem dX8_sails_91 : decode cX8_sails 91 = .ok (.iastore, 1) := by decide +kernel
theorem dX8_sails_92 : decode cX8_sails 92 = .ok (.aload_n 0, 1) := by decide +kernel
theorem dX8_sails_93 : decode cX8_sails 93 = .ok (.getfield 7, 3) := by decide +kernel
theorem dX8_sails_96 : decode cX8_sails 96 = .ok (.bipush 7, 2) := by decide +kernel
theorem dX8_sails_98 : decode cX8_sails 98 = .ok (.dup2, 1) := by decide +kernel
theorem dX8_sails_99 : decode cX8_sails 99 = .ok (.iaload, 1) := by decide +kernel
theorem dX8_sails_100 : decode cX8_sails 100 = .ok (.aload_n 0, 1) := by decide +kernel
theorem dX8_sails_101 : decode cX8_sails 101 = .ok (.getfield 7, 3) := by decide +kernel
theorem dX8_sails_104 : decode cX8_sails 104 = .ok (.iload_n 2, 1) := by decide +kernel
theorem dX8_sails_105 : decode cX8_sails 105 = .ok (.iconst 3, 1) := by decide +kernel
theorem dX8_sails_106 : decode cX8_sails 106 = .ok (.invokestatic 71, 3) := by decide +kernel
theorem dX8_sails_109 : decode cX8_sails 109 = .ok (.iaload, 1) := by decide +kernel
theorem dX8_sails_110 : decode cX8_sails 110 = .ok (.iadd, 1) := by decide +kernel
theorem dX8_sails_111 : decode cX8_sails 111 = .ok (.iastore, 1) := by decide +kernel
theorem dX8_sails_112 : decode cX8_sails 112 = .ok (.iinc 2 1, 3) := by decide +kernel
theorem dX8_sails_115 : decode cX8_sails 115 = .ok (.goto (-63), 3) := by decide +kernel
theorem dX8_sails_118 : decode cX8_sails 118 = .ok (.aload_n 0, 1) := by decide +kernel
theorem dX8_sails_119 : decode cX8_sails 119 = .ok (.getfield 7, 3) := by decide +kernel
theorem dX8_sails_122 : decode cX8_sails 122 = .ok (.bipush 9, 2) := by decide +kernel
theorem dX8_sails_124 : decode cX8_sails 124 = .ok (.dup2, 1) := by decide +kernel
theorem dX8_sails_125 : decode cX8_sails 125 = .ok (.iaload, 1) := by decide +kernel
theorem dX8_sails_126 : decode cX8_sails 126 = .ok (.iconst 1, 1) := by decide +kernel
theorem dX8_sails_127 : decode cX8_sails 127 = .ok (.iadd, 1) := by decide +kernel
theorem dX8_sails_128 : decode cX8_sails 128 = .ok (.iastore, 1) := by decide +kernel
theorem dX8_sails_129 : decode cX8_sails 129 = .ok (.aload_n 0, 1) := by decide +kernel
theorem dX8_sails_130 : decode cX8_sails 130 = .ok (.getfield 7, 3) := by decide +kernel
theorem dX8_sails_133 : decode cX8_sails 133 = .ok (.iconst 4, 1) := by decide +kernel
theorem dX8_sails_134 : decode cX8_sails 134 = .ok (.dup2, 1) := by decide +kernel
theorem dX8_sails_135 : decode cX8_sails 135 = .ok (.iaload, 1) := by decide +kernel
theorem dX8_sails_136 : decode cX8_sails 136 = .ok (.iload_n 1, 1) := by decide +kernel
theorem dX8_sails_137 : decode cX8_sails 137 = .ok (.iadd, 1) := by decide +kernel
theorem dX8_sails_138 : decode cX8_sails 138 = .ok (.iastore, 1) := by decide +kernel
theorem dX8_sails_139 : decode cX8_sails 139 = .ok (.iload_n 1, 1) := by decide +kernel
theorem dX8_sails_140 : decode cX8_sails 140 = .ok (.ireturn, 1) := by decide +kernel
theorem dX8_sail_0 : decode cX8_sail 0 = .ok (.aload_n 0, 1) := by decide +kernel
theorem dX8_sail_1 : decode cX8_sail 1 = .ok (.invokevirtual 85, 3) := by decide +kernel
theorem dX8_sail_4 : decode cX8_sail 4 = .ok (.aload_n 0, 1) := by decide +kernel
theorem dX8_sail_5 : decode cX8_sail 5 = .ok (.aload_n 0, 1) := by decide +kernel
theorem dX8_sail_6 : decode cX8_sail 6 = .ok (.invokevirtual 174, 3) := by decide +kernel
theorem dX8_sail_9 : decode cX8_sail 9 = .ok (.iconst 0, 1) := by decide +kernel
theorem dX8_sail_10 : decode cX8_sail 10 = .ok (.iconst 0, 1) := by decide +kernel
theorem dX8_sail_11 : decode cX8_sail 11 = .ok (.iconst 1, 1) := by decide +kernel
theorem dX8_sail_12 : decode cX8_sail 12 = .ok (.invokevirtual 92, 3) := by decide +kernel
theorem dX8_sail_15 : decode cX8_sail 15 = .ok (.ireturn, 1) := by decide +kernel
theorem dX8_cargo_0 : decode cX8_cargo 0 = .ok (.aload_n 0, 1) := by decide +kernel
theorem dX8_cargo_1 : decode cX8_cargo 1 = .ok (.iconst 0, 1) := by decide +kernel
theorem dX8_cargo_2 : decode cX8_cargo 2 = .ok (.putfield 34, 3) := by decide +kernel
theorem dX8_cargo_5 : decode cX8_cargo 5 = .ok (.aload_n 0, 1) := by decide +kernel
theorem dX8_cargo_6 : decode cX8_cargo 6 = .ok (.invokevirtual 171, 3) := by decide +kernel
theorem dX8_cargo_9 : decode cX8_cargo 9 = .ok (.ireturn, 1) := by decide +kernel
theorem dX8_height_0 : decode cX8_height 0 = .ok (.aload_n 0, 1) := by decide +kernel
theorem dX8_height_1 : decode cX8_height 1 = .ok (.iconst 0, 1) := by decide +kernel
theorem dX8_height_2 : decode cX8_height 2 = .ok (.putfield 34, 3) := by decide +kernel
theorem dX8_height_5 : decode cX8_height 5 = .ok (.iload_n 1, 1) := by decide +kernel
theorem dX8_height_6 : decode cX8_height 6 = .ok (.iconst 0, 1) := by decide +kernel
theorem dX8_height_7 : decode cX8_height 7 = .ok (.bipush 99, 2) := by decide +kernel
theorem dX8_height_9 : decode cX8_height 9 = .ok (.invokestatic 67, 3) := by decide +kernel
theorem dX8_height_12 : decode cX8_height 12 = .ok (.ifCond .eq 17, 3) := by decide +kernel
theorem dX8_height_15 : decode cX8_height 15 = .ok (.aload_n 0, 1) := by decide +kernel
theorem dX8_height_16 : decode cX8_height 16 = .ok (.getfield 7, 3) := by decide +kernel
theorem dX8_height_19 : decode cX8_height 19 = .ok (.iconst 0, 1) := by decide +kernel
theorem dX8_height_20 : decode cX8_height 20 = .ok (.iaload, 1) := by decide +kernel
theorem dX8_height_21 : decode cX8_height 21 = .ok (.iload_n 1, 1) := by decide +kernel
theorem dX8_height_22 : decode cX8_height 22 = .ok (.iadd, 1) := by decide +kernel
theorem dX8_height_23 : decode cX8_height 23 = .ok (.invokestatic 161, 3) := by decide +kernel
theorem dX8_height_26 : decode cX8_height 26 = .ok (.goto 8, 3) := by decide +kernel
theorem dX8_height_29 : decode cX8_height 29 = .ok (.aload_n 0, 1) := by decide +kernel
theorem dX8_height_30 : decode cX8_height 30 = .ok (.iconst 1, 1) := by decide +kernel
theorem dX8_height_31 : decode cX8_height 31 = .ok (.invokevirtual 61, 3) := by decide +kernel
theorem dX8_height_34 : decode cX8_height 34 = .ok (.ireturn, 1) := by decide +kernel
theorem dX8_heightAgain_0 : decode cX8_heightAgain 0 = .ok (.aload_n 0, 1) := by decide +kernel
theorem dX8_heightAgain_1 : decode cX8_heightAgain 1 = .ok (.iload_n 1, 1) := by decide +kernel
theorem dX8_heightAgain_2 : decode cX8_heightAgain 2 = .ok (.invokevirtual 177, 3) := by decide +kernel
theorem dX8_heightAgain_5 : decode cX8_heightAgain 5 = .ok (.ireturn, 1) := by decide +kernel
theorem dX8_reachedIn_0 : decode cX8_reachedIn 0 = .ok (.aload_n 0, 1) := by decide +kernel
theorem dX8_reachedIn_1 : decode cX8_reachedIn 1 = .ok (.iconst 0, 1) := by decide +kernel
theorem dX8_reachedIn_2 : decode cX8_reachedIn 2 = .ok (.putfield 34, 3) := by decide +kernel
theorem dX8_reachedIn_5 : decode cX8_reachedIn 5 = .ok (.iconst 0, 1) := by decide +kernel
theorem dX8_reachedIn_6 : decode cX8_reachedIn 6 = .ok (.istore_n 1, 1) := by decide +kernel
theorem dX8_reachedIn_7 : decode cX8_reachedIn 7 = .ok (.aload_n 0, 1) := by decide +kernel
theorem dX8_reachedIn_8 : decode cX8_reachedIn 8 = .ok (.getfield 7, 3) := by decide +kernel
theorem dX8_reachedIn_11 : decode cX8_reachedIn 11 = .ok (.iconst 0, 1) := by decide +kernel
theorem dX8_reachedIn_12 : decode cX8_reachedIn 12 = .ok (.iaload, 1) := by decide +kernel
theorem dX8_reachedIn_13 : decode cX8_reachedIn 13 = .ok (.iload_n 1, 1) := by decide +kernel
theorem dX8_reachedIn_14 : decode cX8_reachedIn 14 = .ok (.iadd, 1) := by decide +kernel
theorem dX8_reachedIn_15 : decode cX8_reachedIn 15 = .ok (.invokestatic 161, 3) := by decide +kernel
theorem dX8_reachedIn_18 : decode cX8_reachedIn 18 = .ok (.iconst 3, 1) := by decide +kernel
theorem dX8_reachedIn_19 : decode cX8_reachedIn 19 = .ok (.if_icmp .ge 9, 3) := by decide +kernel
theorem dX8_reachedIn_22 : decode cX8_reachedIn 22 = .ok (.iinc 1 1, 3) := by decide +kernel
theorem dX8_reachedIn_25 : decode cX8_reachedIn 25 = .ok (.goto (-18), 3) := by decide +kernel
theorem dX8_reachedIn_28 : decode cX8_reachedIn 28 = .ok (.iload_n 1, 1) := by decide +kernel
theorem dX8_reachedIn_29 : decode cX8_reachedIn 29 = .ok (.ireturn, 1) := by decide +kernel
theorem dX8_humid_0 : decode cX8_humid 0 = .ok (.iload_n 1, 1) := by decide +kernel
theorem dX8_humid_1 : decode cX8_humid 1 = .ok (.iconst 0, 1) := by decide +kernel
theorem dX8_humid_2 : decode cX8_humid 2 = .ok (.bipush 9, 2) := by decide +kernel
theorem dX8_humid_4 : decode cX8_humid 4 = .ok (.invokestatic 67, 3) := by decide +kernel
theorem dX8_humid_7 : decode cX8_humid 7 = .ok (.ifCond .ne 9, 3) := by decide +kernel
theorem dX8_humid_10 : decode cX8_humid 10 = .ok (.aload_n 0, 1) := by decide +kernel
theorem dX8_humid_11 : decode cX8_humid 11 = .ok (.iconst 2, 1) := by decide +kernel
theorem dX8_humid_12 : decode cX8_humid 12 = .ok (.invokevirtual 47, 3) := by decide +kernel
theorem dX8_humid_15 : decode cX8_humid 15 = .ok (.ireturn, 1) := by decide +kernel
theorem dX8_humid_16 : decode cX8_humid 16 = .ok (.aload_n 0, 1) := by decide +kernel
theorem dX8_humid_17 : decode cX8_humid 17 = .ok (.getfield 7, 3) := by decide +kernel
theorem dX8_humid_20 : decode cX8_humid 20 = .ok (.iconst 5, 1) := by decide +kernel
theorem dX8_humid_21 : decode cX8_humid 21 = .ok (.iaload, 1) := by decide +kernel
theorem dX8_humid_22 : decode cX8_humid 22 = .ok (.istore_n 2, 1) := by decide +kernel
theorem dX8_humid_23 : decode cX8_humid 23 = .ok (.aload_n 0, 1) := by decide +kernel
theorem dX8_humid_24 : decode cX8_humid 24 = .ok (.getfield 7, 3) := by decide +kernel
theorem dX8_humid_27 : decode cX8_humid 27 = .ok (.iconst 5, 1) := by decide +kernel
theorem dX8_humid_28 : decode cX8_humid 28 = .ok (.iload_n 1, 1) := by decide +kernel
theorem dX8_humid_29 : decode cX8_humid 29 = .ok (.iastore, 1) := by decide +kernel
theorem dX8_humid_30 : decode cX8_humid 30 = .ok (.iload_n 2, 1) := by decide +kernel
theorem dX8_humid_31 : decode cX8_humid 31 = .ok (.ireturn, 1) := by decide +kernel
theorem dX8_setHumidity_0 : decode cX8_setHumidity 0 = .ok (.aload_n 0, 1) := by decide +kernel
theorem dX8_setHumidity_1 : decode cX8_setHumidity 1 = .ok (.invokevirtual 85, 3) := by decide +kernel
theorem dX8_setHumidity_4 : decode cX8_setHumidity 4 = .ok (.aload_n 0, 1) := by decide +kernel
theorem dX8_setHumidity_5 : decode cX8_setHumidity 5 = .ok (.aload_n 0, 1) := by decide +kernel
theorem dX8_setHumidity_6 : decode cX8_setHumidity 6 = .ok (.iload_n 1, 1) := by decide +kernel
theorem dX8_setHumidity_7 : decode cX8_setHumidity 7 = .ok (.invokevirtual 180, 3) := by decide +kernel
theorem dX8_setHumidity_10 : decode cX8_setHumidity 10 = .ok (.iconst 0, 1) := by decide +kernel
theorem dX8_setHumidity_11 : decode cX8_setHumidity 11 = .ok (.iconst 1, 1) := by decide +kernel
theorem dX8_setHumidity_12 : decode cX8_setHumidity 12 = .ok (.iconst 0, 1) := by decide +kernel
theorem dX8_setHumidity_13 : decode cX8_setHumidity 13 = .ok (.invokevirtual 92, 3) := by decide +kernel
theorem dX8_setHumidity_16 : decode cX8_setHumidity 16 = .ok (.ireturn, 1) := by decide +kernel
theorem dX8_hour_0 : decode cX8_hour 0 = .ok (.aload_n 0, 1) := by decide +kernel
theorem dX8_hour_1 : decode cX8_hour 1 = .ok (.getfield 7, 3) := by decide +kernel
theorem dX8_hour_4 : decode cX8_hour 4 = .ok (.iconst 0, 1) := by decide +kernel
theorem dX8_hour_5 : decode cX8_hour 5 = .ok (.dup2, 1) := by decide +kernel
theorem dX8_hour_6 : decode cX8_hour 6 = .ok (.iaload, 1) := by decide +kernel
theorem dX8_hour_7 : decode cX8_hour 7 = .ok (.iconst 1, 1) := by decide +kernel
theorem dX8_hour_8 : decode cX8_hour 8 = .ok (.iadd, 1) := by decide +kernel
theorem dX8_hour_9 : decode cX8_hour 9 = .ok (.iastore, 1) := by decide +kernel
theorem dX8_hour_10 : decode cX8_hour 10 = .ok (.iconst 0, 1) := by decide +kernel
theorem dX8_hour_11 : decode cX8_hour 11 = .ok (.istore_n 1, 1) := by decide +kernel
theorem dX8_hour_12 : decode cX8_hour 12 = .ok (.iload_n 1, 1) := by decide +kernel
theorem dX8_hour_13 : decode cX8_hour 13 = .ok (.aload_n 0, 1) := by decide +kernel
theorem dX8_hour_14 : decode cX8_hour 14 = .ok (.getfield 7, 3) := by decide +kernel
theorem dX8_hour_17 : decode cX8_hour 17 = .ok (.iconst 3, 1) := by decide +kernel
theorem dX8_hour_18 : decode cX8_hour 18 = .ok (.iaload, 1) := by decide +kernel
theorem dX8_hour_19 : decode cX8_hour 19 = .ok (.if_icmp .ge 78, 3) := by decide +kernel
theorem dX8_hour_22 : decode cX8_hour 22 = .ok (.aload_n 0, 1) := by decide +kernel
theorem dX8_hour_23 : decode cX8_hour 23 = .ok (.getfield 7, 3) := by decide +kernel
theorem dX8_hour_26 : decode cX8_hour 26 = .ok (.iconst 5, 1) := by decide +kernel
theorem dX8_hour_27 : decode cX8_hour 27 = .ok (.iaload, 1) := by decide +kernel
theorem dX8_hour_28 : decode cX8_hour 28 = .ok (.iconst 5, 1) := by decide +kernel
theorem dX8_hour_29 : decode cX8_hour 29 = .ok (.if_icmp .lt 68, 3) := by decide +kernel
theorem dX8_hour_32 : decode cX8_hour 32 = .ok (.aload_n 0, 1) := by decide +kernel
theorem dX8_hour_33 : decode cX8_hour 33 = .ok (.getfield 7, 3) := by decide +kernel
theorem dX8_hour_36 : decode cX8_hour 36 = .ok (.iload_n 1, 1) := by decide +kernel
theorem dX8_hour_37 : decode cX8_hour 37 = .ok (.bipush 7, 2) := by decide +kernel
theorem dX8_hour_39 : decode cX8_hour 39 = .ok (.invokestatic 71, 3) := by decide +kernel
theorem dX8_hour_42 : decode cX8_hour 42 = .ok (.iaload, 1) := by decide +kernel
theorem dX8_hour_43 : decode cX8_hour 43 = .ok (.ifCond .ne 48, 3) := by decide +kernel
theorem dX8_hour_46 : decode cX8_hour 46 = .ok (.aload_n 0, 1) := by decide +kernel
theorem dX8_hour_47 : decode cX8_hour 47 = .ok (.iload_n 1, 1) := by decide +kernel
theorem dX8_hour_48 : decode cX8_hour 48 = .ok (.invokevirtual 118, 3) := by decide +kernel
theorem dX8_hour_51 : decode cX8_hour 51 = .ok (.ifCond .ne 40, 3) := by decide +kernel
theorem dX8_hour_54 : decode cX8_hour 54 = .ok (.aload_n 0, 1) := by decide +kernel
theorem dX8_hour_55 : decode cX8_hour 55 = .ok (.iload_n 1, 1) := by decide +kernel
theorem dX8_hour_56 : decode cX8_hour 56 = .ok (.invokevirtual 127, 3) := by decide +kernel
theorem dX8_hour_59 : decode cX8_hour 59 = .ok (.ifCond .ne 32, 3) := by decide +kernel
theorem dX8_hour_62 : decode cX8_hour 62 = .ok (.aload_n 0, 1) := by decide +kernel
theorem dX8_hour_63 : decode cX8_hour 63 = .ok (.getfield 7, 3) := by decide +kernel
theorem dX8_hour_66 : decode cX8_hour 66 = .ok (.iload_n 1, 1) := by decide +kernel
theorem dX8_hour_67 : decode cX8_hour 67 = .ok (.bipush 6, 2) := by decide +kernel
theorem dX8_hour_69 : decode cX8_hour 69 = .ok (.invokestatic 71, 3) := by decide +kernel
theorem dX8_hour_72 : decode cX8_hour 72 = .ok (.bipush 20, 2) := by decide +kernel
theorem dX8_hour_74 : decode cX8_hour 74 = .ok (.aload_n 0, 1) := by decide +kernel
theorem dX8_hour_75 : decode cX8_hour 75 = .ok (.getfield 7, 3) := by decide +kernel
theorem dX8_hour_78 : decode cX8_hour 78 = .ok (.iload_n 1, 1) := by decide +kernel
theorem dX8_hour_79 : decode cX8_hour 79 = .ok (.bipush 6, 2) := by decide +kernel
theorem dX8_hour_81 : decode cX8_hour 81 = .ok (.invokestatic 71, 3) := by decide +kernel
theorem dX8_hour_84 : decode cX8_hour 84 = .ok (.iaload, 1) := by decide +kernel
theorem dX8_hour_85 : decode cX8_hour 85 = .ok (.iconst 1, 1) := by decide +kernel
theorem dX8_hour_86 : decode cX8_hour 86 = .ok (.iadd, 1) := by decide +kernel
theorem dX8_hour_87 : decode cX8_hour 87 = .ok (.invokestatic 99, 3) := by decide +kernel
theorem dX8_hour_90 : decode cX8_hour 90 = .ok (.iastore, 1) := by decide +kernel
theorem dX8_hour_91 : decode cX8_hour 91 = .ok (.iinc 1 1, 3) := by decide +kernel
theorem dX8_hour_94 : decode cX8_hour 94 = .ok (.goto (-82), 3) := by decide +kernel
theorem dX8_hour_97 : decode cX8_hour 97 = .ok (.return_, 1) := by decide +kernel
theorem dX8_passes_0 : decode cX8_passes 0 = .ok (.iload_n 1, 1) := by decide +kernel
theorem dX8_passes_1 : decode cX8_passes 1 = .ok (.iconst 1, 1) := by decide +kernel
theorem dX8_passes_2 : decode cX8_passes 2 = .ok (.bipush 72, 2) := by decide +kernel
theorem dX8_passes_4 : decode cX8_passes 4 = .ok (.invokestatic 67, 3) := by decide +kernel
theorem dX8_passes_7 : decode cX8_passes 7 = .ok (.ifCond .ne 9, 3) := by decide +kernel
theorem dX8_passes_10 : decode cX8_passes 10 = .ok (.aload_n 0, 1) := by decide +kernel
theorem dX8_passes_11 : decode cX8_passes 11 = .ok (.iconst 2, 1) := by decide +kernel
theorem dX8_passes_12 : decode cX8_passes 12 = .ok (.invokevirtual 47, 3) := by decide +kernel
theorem dX8_passes_15 : decode cX8_passes 15 = .ok (.ireturn, 1) := by decide +kernel
theorem dX8_passes_16 : decode cX8_passes 16 = .ok (.iconst 0, 1) := by decide +kernel
theorem dX8_passes_17 : decode cX8_passes 17 = .ok (.istore_n 2, 1) := by decide +kernel
theorem dX8_passes_18 : decode cX8_passes 18 = .ok (.iload_n 2, 1) := by decide +kernel
theorem dX8_passes_19 : decode cX8_passes 19 = .ok (.iload_n 1, 1) := by decide +kernel
theorem dX8_passes_20 : decode cX8_passes 20 = .ok (.if_icmp .ge 13, 3) := by decide +kernel
theorem dX8_passes_23 : decode cX8_passes 23 = .ok (.aload_n 0, 1) := by decide +kernel
theorem dX8_passes_24 : decode cX8_passes 24 = .ok (.invokevirtual 183, 3) := by decide +kernel
theorem dX8_passes_27 : decode cX8_passes 27 = .ok (.iinc 2 1, 3) := by decide +kernel
theorem dX8_passes_30 : decode cX8_passes 30 = .ok (.goto (-12), 3) := by decide +kernel
theorem dX8_passes_33 : decode cX8_passes 33 = .ok (.aload_n 0, 1) := by decide +kernel
theorem dX8_passes_34 : decode cX8_passes 34 = .ok (.getfield 7, 3) := by decide +kernel
theorem dX8_passes_37 : decode cX8_passes 37 = .ok (.iconst 0, 1) := by decide +kernel
theorem dX8_passes_38 : decode cX8_passes 38 = .ok (.iaload, 1) := by decide +kernel
theorem dX8_passes_39 : decode cX8_passes 39 = .ok (.invokestatic 161, 3) := by decide +kernel
theorem dX8_passes_42 : decode cX8_passes 42 = .ok (.ireturn, 1) := by decide +kernel
theorem dX8_pass_0 : decode cX8_pass 0 = .ok (.aload_n 0, 1) := by decide +kernel
theorem dX8_pass_1 : decode cX8_pass 1 = .ok (.invokevirtual 85, 3) := by decide +kernel
theorem dX8_pass_4 : decode cX8_pass 4 = .ok (.aload_n 0, 1) := by decide +kernel
theorem dX8_pass_5 : decode cX8_pass 5 = .ok (.aload_n 0, 1) := by decide +kernel
theorem dX8_pass_6 : decode cX8_pass 6 = .ok (.iload_n 1, 1) := by decide +kernel
theorem dX8_pass_7 : decode cX8_pass 7 = .ok (.invokevirtual 186, 3) := by decide +kernel
theorem dX8_pass_10 : decode cX8_pass 10 = .ok (.iconst 0, 1) := by decide +kernel
theorem dX8_pass_11 : decode cX8_pass 11 = .ok (.iconst 1, 1) := by decide +kernel
theorem dX8_pass_12 : decode cX8_pass 12 = .ok (.iconst 0, 1) := by decide +kernel
theorem dX8_pass_13 : decode cX8_pass 13 = .ok (.invokevirtual 92, 3) := by decide +kernel
theorem dX8_pass_16 : decode cX8_pass 16 = .ok (.ireturn, 1) := by decide +kernel
theorem dX8_stored_0 : decode cX8_stored 0 = .ok (.iconst 0, 1) := by decide +kernel
theorem dX8_stored_1 : decode cX8_stored 1 = .ok (.istore_n 1, 1) := by decide +kernel
theorem dX8_stored_2 : decode cX8_stored 2 = .ok (.iconst 0, 1) := by decide +kernel
theorem dX8_stored_3 : decode cX8_stored 3 = .ok (.istore_n 2, 1) := by decide +kernel
theorem dX8_stored_4 : decode cX8_stored 4 = .ok (.iload_n 2, 1) := by decide +kernel
theorem dX8_stored_5 : decode cX8_stored 5 = .ok (.bipush 18, 2) := by decide +kernel
theorem dX8_stored_7 : decode cX8_stored 7 = .ok (.if_icmp .ge 21, 3) := by decide +kernel
theorem dX8_stored_10 : decode cX8_stored 10 = .ok (.iload_n 1, 1) := by decide +kernel
theorem dX8_stored_11 : decode cX8_stored 11 = .ok (.aload_n 0, 1) := by decide +kernel
theorem dX8_stored_12 : decode cX8_stored 12 = .ok (.getfield 7, 3) := by decide +kernel
theorem dX8_stored_15 : decode cX8_stored 15 = .ok (.bipush 10, 2) := by decide +kernel
theorem dX8_stored_17 : decode cX8_stored 17 = .ok (.iload_n 2, 1) := by decide +kernel
theorem dX8_stored_18 : decode cX8_stored 18 = .ok (.iadd, 1) := by decide +kernel
theorem dX8_stored_19 : decode cX8_stored 19 = .ok (.iaload, 1) := by decide +kernel
theorem dX8_stored_20 : decode cX8_stored 20 = .ok (.iadd, 1) := by decide +kernel
theorem dX8_stored_21 : decode cX8_stored 21 = .ok (.istore_n 1, 1) := by decide +kernel
theorem dX8_stored_22 : decode cX8_stored 22 = .ok (.iinc 2 1, 3) := by decide +kernel
theorem dX8_stored_25 : decode cX8_stored 25 = .ok (.goto (-21), 3) := by decide +kernel
theorem dX8_stored_28 : decode cX8_stored 28 = .ok (.iload_n 1, 1) := by decide +kernel
theorem dX8_stored_29 : decode cX8_stored 29 = .ok (.ireturn, 1) := by decide +kernel
theorem dX8_packed_0 : decode cX8_packed 0 = .ok (.iconst 0, 1) := by decide +kernel
theorem dX8_packed_1 : decode cX8_packed 1 = .ok (.istore_n 1, 1) := by decide +kernel
theorem dX8_packed_2 : decode cX8_packed 2 = .ok (.iconst 0, 1) := by decide +kernel
theorem dX8_packed_3 : decode cX8_packed 3 = .ok (.istore_n 2, 1) := by decide +kernel
theorem dX8_packed_4 : decode cX8_packed 4 = .ok (.iload_n 2, 1) := by decide +kernel
theorem dX8_packed_5 : decode cX8_packed 5 = .ok (.aload_n 0, 1) := by decide +kernel
theorem dX8_packed_6 : decode cX8_packed 6 = .ok (.getfield 7, 3) := by decide +kernel
theorem dX8_packed_9 : decode cX8_packed 9 = .ok (.iconst 3, 1) := by decide +kernel
theorem dX8_packed_10 : decode cX8_packed 10 = .ok (.iaload, 1) := by decide +kernel
theorem dX8_packed_11 : decode cX8_packed 11 = .ok (.if_icmp .ge 41, 3) := by decide +kernel
theorem dX8_packed_14 : decode cX8_packed 14 = .ok (.iload_n 1, 1) := by decide +kernel
theorem dX8_packed_15 : decode cX8_packed 15 = .ok (.aload_n 0, 1) := by decide +kernel
theorem dX8_packed_16 : decode cX8_packed 16 = .ok (.getfield 7, 3) := by decide +kernel
theorem dX8_packed_19 : decode cX8_packed 19 = .ok (.iload_n 2, 1) := by decide +kernel
theorem dX8_packed_20 : decode cX8_packed 20 = .ok (.bipush 7, 2) := by decide +kernel
theorem dX8_packed_22 : decode cX8_packed 22 = .ok (.invokestatic 71, 3) := by decide +kernel
theorem dX8_packed_25 : decode cX8_packed 25 = .ok (.iaload, 1) := by decide +kernel
theorem dX8_packed_26 : decode cX8_packed 26 = .ok (.iconst 3, 1) := by decide +kernel
theorem dX8_packed_27 : decode cX8_packed 27 = .ok (.if_icmp .ne 7, 3) := by decide +kernel
theorem dX8_packed_30 : decode cX8_packed 30 = .ok (.iconst 0, 1) := by decide +kernel
theorem dX8_packed_31 : decode cX8_packed 31 = .ok (.goto 13, 3) := by decide +kernel
theorem dX8_packed_34 : decode cX8_packed 34 = .ok (.aload_n 0, 1) := by decide +kernel
theorem dX8_packed_35 : decode cX8_packed 35 = .ok (.getfield 7, 3) := by decide +kernel
theorem dX8_packed_38 : decode cX8_packed 38 = .ok (.iload_n 2, 1) := by decide +kernel
theorem dX8_packed_39 : decode cX8_packed 39 = .ok (.iconst 3, 1) := by decide +kernel
theorem dX8_packed_40 : decode cX8_packed 40 = .ok (.invokestatic 71, 3) := by decide +kernel
theorem dX8_packed_43 : decode cX8_packed 43 = .ok (.iaload, 1) := by decide +kernel
theorem dX8_packed_44 : decode cX8_packed 44 = .ok (.iadd, 1) := by decide +kernel
theorem dX8_packed_45 : decode cX8_packed 45 = .ok (.istore_n 1, 1) := by decide +kernel
theorem dX8_packed_46 : decode cX8_packed 46 = .ok (.iinc 2 1, 3) := by decide +kernel
theorem dX8_packed_49 : decode cX8_packed 49 = .ok (.goto (-45), 3) := by decide +kernel
theorem dX8_packed_52 : decode cX8_packed 52 = .ok (.iload_n 1, 1) := by decide +kernel
theorem dX8_packed_53 : decode cX8_packed 53 = .ok (.ireturn, 1) := by decide +kernel
theorem dX8_isWell_0 : decode cX8_isWell 0 = .ok (.aload_n 0, 1) := by decide +kernel
theorem dX8_isWell_1 : decode cX8_isWell 1 = .ok (.iconst 0, 1) := by decide +kernel
theorem dX8_isWell_2 : decode cX8_isWell 2 = .ok (.putfield 34, 3) := by decide +kernel
theorem dX8_isWell_5 : decode cX8_isWell 5 = .ok (.iconst 0, 1) := by decide +kernel
theorem dX8_isWell_6 : decode cX8_isWell 6 = .ok (.istore_n 1, 1) := by decide +kernel
theorem dX8_isWell_7 : decode cX8_isWell 7 = .ok (.iload_n 1, 1) := by decide +kernel
theorem dX8_isWell_8 : decode cX8_isWell 8 = .ok (.aload_n 0, 1) := by decide +kernel
theorem dX8_isWell_9 : decode cX8_isWell 9 = .ok (.getfield 7, 3) := by decide +kernel
theorem dX8_isWell_12 : decode cX8_isWell 12 = .ok (.iconst 3, 1) := by decide +kernel
theorem dX8_isWell_13 : decode cX8_isWell 13 = .ok (.iaload, 1) := by decide +kernel
theorem dX8_isWell_14 : decode cX8_isWell 14 = .ok (.if_icmp .ge 54, 3) := by decide +kernel
theorem dX8_isWell_17 : decode cX8_isWell 17 = .ok (.aload_n 0, 1) := by decide +kernel
theorem dX8_isWell_18 : decode cX8_isWell 18 = .ok (.getfield 7, 3) := by decide +kernel
theorem dX8_isWell_21 : decode cX8_isWell 21 = .ok (.iload_n 1, 1) := by decide +kernel
theorem dX8_isWell_22 : decode cX8_isWell 22 = .ok (.bipush 7, 2) := by decide +kernel
theorem dX8_isWell_24 : decode cX8_isWell 24 = .ok (.invokestatic 71, 3) := by decide +kernel
theorem dX8_isWell_27 : decode cX8_isWell 27 = .ok (.iaload, 1) := by decide +kernel
theorem dX8_isWell_28 : decode cX8_isWell 28 = .ok (.iconst 1, 1) := by decide +kernel
theorem dX8_isWell_29 : decode cX8_isWell 29 = .ok (.iconst 2, 1) := by decide +kernel
theorem dX8_isWell_30 : decode cX8_isWell 30 = .ok (.invokestatic 67, 3) := by decide +kernel
theorem dX8_isWell_33 : decode cX8_isWell 33 = .ok (.istore_n 2, 1) := by decide +kernel
theorem dX8_isWell_34 : decode cX8_isWell 34 = .ok (.iload_n 2, 1) := by decide +kernel
theorem dX8_isWell_35 : decode cX8_isWell 35 = .ok (.ifCond .eq 27, 3) := by decide +kernel
theorem dX8_isWell_38 : decode cX8_isWell 38 = .ok (.aload_n 0, 1) := by decide +kernel
theorem dX8_isWell_39 : decode cX8_isWell 39 = .ok (.iload_n 1, 1) := by decide +kernel
theorem dX8_isWell_40 : decode cX8_isWell 40 = .ok (.invokevirtual 127, 3) := by decide +kernel
theorem dX8_isWell_43 : decode cX8_isWell 43 = .ok (.ifCond .eq 17, 3) := by decide +kernel
theorem dX8_isWell_46 : decode cX8_isWell 46 = .ok (.aload_n 0, 1) := by decide +kernel
theorem dX8_isWell_47 : decode cX8_isWell 47 = .ok (.getfield 7, 3) := by decide +kernel
theorem dX8_isWell_50 : decode cX8_isWell 50 = .ok (.iload_n 1, 1) := by decide +kernel
theorem dX8_isWell_51 : decode cX8_isWell 51 = .ok (.bipush 8, 2) := by decide +kernel
theorem dX8_isWell_53 : decode cX8_isWell 53 = .ok (.invokestatic 71, 3) := by decide +kernel
theorem dX8_isWell_56 : decode cX8_isWell 56 = .ok (.iaload, 1) := by decide +kernel
theorem dX8_isWell_57 : decode cX8_isWell 57 = .ok (.ifCond .ne 5, 3) := by decide +kernel
theorem dX8_isWell_60 : decode cX8_isWell 60 = .ok (.iconst 0, 1) := by decide +kernel
theorem dX8_isWell_61 : decode cX8_isWell 61 = .ok (.ireturn, 1) := by decide +kernel
theorem dX8_isWell_62 : decode cX8_isWell 62 = .ok (.iinc 1 1, 3) := by decide +kernel
theorem dX8_isWell_65 : decode cX8_isWell 65 = .ok (.goto (-58), 3) := by decide +kernel
theorem dX8_isWell_68 : decode cX8_isWell 68 = .ok (.aload_n 0, 1) := by decide +kernel
theorem dX8_isWell_69 : decode cX8_isWell 69 = .ok (.getfield 7, 3) := by decide +kernel
theorem dX8_isWell_72 : decode cX8_isWell 72 = .ok (.bipush 6, 2) := by decide +kernel
theorem dX8_isWell_74 : decode cX8_isWell 74 = .ok (.iaload, 1) := by decide +kernel
theorem dX8_isWell_75 : decode cX8_isWell 75 = .ok (.aload_n 0, 1) := by decide +kernel
theorem dX8_isWell_76 : decode cX8_isWell 76 = .ok (.invokevirtual 189, 3) := by decide +kernel
theorem dX8_isWell_79 : decode cX8_isWell 79 = .ok (.aload_n 0, 1) := by decide +kernel
theorem dX8_isWell_80 : decode cX8_isWell 80 = .ok (.invokevirtual 192, 3) := by decide +kernel
theorem dX8_isWell_83 : decode cX8_isWell 83 = .ok (.iadd, 1) := by decide +kernel
theorem dX8_isWell_84 : decode cX8_isWell 84 = .ok (.aload_n 0, 1) := by decide +kernel
theorem dX8_isWell_85 : decode cX8_isWell 85 = .ok (.getfield 7, 3) := by decide +kernel
theorem dX8_isWell_88 : decode cX8_isWell 88 = .ok (.bipush 7, 2) := by decide +kernel
theorem dX8_isWell_90 : decode cX8_isWell 90 = .ok (.iaload, 1) := by decide +kernel
theorem dX8_isWell_91 : decode cX8_isWell 91 = .ok (.iadd, 1) := by decide +kernel
theorem dX8_isWell_92 : decode cX8_isWell 92 = .ok (.aload_n 0, 1) := by decide +kernel
theorem dX8_isWell_93 : decode cX8_isWell 93 = .ok (.getfield 7, 3) := by decide +kernel
theorem dX8_isWell_96 : decode cX8_isWell 96 = .ok (.bipush 8, 2) := by decide +kernel
theorem dX8_isWell_98 : decode cX8_isWell 98 = .ok (.iaload, 1) := by decide +kernel
theorem dX8_isWell_99 : decode cX8_isWell 99 = .ok (.iadd, 1) := by decide +kernel
theorem dX8_isWell_100 : decode cX8_isWell 100 = .ok (.if_icmp .ne 7, 3) := by decide +kernel
theorem dX8_isWell_103 : decode cX8_isWell 103 = .ok (.iconst 1, 1) := by decide +kernel
theorem dX8_isWell_104 : decode cX8_isWell 104 = .ok (.goto 4, 3) := by decide +kernel
theorem dX8_isWell_107 : decode cX8_isWell 107 = .ok (.iconst 0, 1) := by decide +kernel
theorem dX8_isWell_108 : decode cX8_isWell 108 = .ok (.ireturn, 1) := by decide +kernel
theorem dX8_meanDamp_0 : decode cX8_meanDamp 0 = .ok (.aload_n 0, 1) := by decide +kernel
theorem dX8_meanDamp_1 : decode cX8_meanDamp 1 = .ok (.iconst 0, 1) := by decide +kernel
theorem dX8_meanDamp_2 : decode cX8_meanDamp 2 = .ok (.putfield 34, 3) := by decide +kernel
theorem dX8_meanDamp_5 : decode cX8_meanDamp 5 = .ok (.iconst 0, 1) := by decide +kernel
theorem dX8_meanDamp_6 : decode cX8_meanDamp 6 = .ok (.istore_n 1, 1) := by decide +kernel
theorem dX8_meanDamp_7 : decode cX8_meanDamp 7 = .ok (.iconst 0, 1) := by decide +kernel
theorem dX8_meanDamp_8 : decode cX8_meanDamp 8 = .ok (.istore_n 2, 1) := by decide +kernel
theorem dX8_meanDamp_9 : decode cX8_meanDamp 9 = .ok (.iconst 0, 1) := by decide +kernel
theorem dX8_meanDamp_10 : decode cX8_meanDamp 10 = .ok (.istore_n 3, 1) := by decide +kernel
theorem dX8_meanDamp_11 : decode cX8_meanDamp 11 = .ok (.iload_n 3, 1) := by decide +kernel
theorem dX8_meanDamp_12 : decode cX8_meanDamp 12 = .ok (.aload_n 0, 1) := by decide +kernel
theorem dX8_meanDamp_13 : decode cX8_meanDamp 13 = .ok (.getfield 7, 3) := by decide +kernel
theorem dX8_meanDamp_16 : decode cX8_meanDamp 16 = .ok (.iconst 3, 1) := by decide +kernel
theorem dX8_meanDamp_17 : decode cX8_meanDamp 17 = .ok (.iaload, 1) := by decide +kernel
theorem dX8_meanDamp_18 : decode cX8_meanDamp 18 = .ok (.if_icmp .ge 52, 3) := by decide +kernel
theorem dX8_meanDamp_21 : decode cX8_meanDamp 21 = .ok (.aload_n 0, 1) := by decide +kernel
theorem dX8_meanDamp_22 : decode cX8_meanDamp 22 = .ok (.getfield 7, 3) := by decide +kernel
theorem dX8_meanDamp_25 : decode cX8_meanDamp 25 = .ok (.iload_n 3, 1) := by decide +kernel
theorem dX8_meanDamp_26 : decode cX8_meanDamp 26 = .ok (.bipush 7, 2) := by decide +kernel
theorem dX8_meanDamp_28 : decode cX8_meanDamp 28 = .ok (.invokestatic 71, 3) := by decide +kernel
theorem dX8_meanDamp_31 : decode cX8_meanDamp 31 = .ok (.iaload, 1) := by decide +kernel
theorem dX8_meanDamp_32 : decode cX8_meanDamp 32 = .ok (.iconst 3, 1) := by decide +kernel
theorem dX8_meanDamp_33 : decode cX8_meanDamp 33 = .ok (.if_icmp .eq 31, 3) := by decide +kernel
theorem dX8_meanDamp_36 : decode cX8_meanDamp 36 = .ok (.aload_n 0, 1) := by decide +kernel
theorem dX8_meanDamp_37 : decode cX8_meanDamp 37 = .ok (.iload_n 3, 1) := by decide +kernel
theorem dX8_meanDamp_38 : decode cX8_meanDamp 38 = .ok (.invokevirtual 118, 3) := by decide +kernel
theorem dX8_meanDamp_41 : decode cX8_meanDamp 41 = .ok (.ifCond .eq 6, 3) := by decide +kernel
theorem dX8_meanDamp_44 : decode cX8_meanDamp 44 = .ok (.goto 20, 3) := by decide +kernel
theorem dX8_meanDamp_47 : decode cX8_meanDamp 47 = .ok (.iinc 1 1, 3) := by decide +kernel
theorem dX8_meanDamp_50 : decode cX8_meanDamp 50 = .ok (.iload_n 2, 1) := by decide +kernel
theorem dX8_meanDamp_51 : decode cX8_meanDamp 51 = .ok (.aload_n 0, 1) := by decide +kernel
theorem dX8_meanDamp_52 : decode cX8_meanDamp 52 = .ok (.getfield 7, 3) := by decide +kernel
theorem dX8_meanDamp_55 : decode cX8_meanDamp 55 = .ok (.iload_n 3, 1) := by decide +kernel
theorem dX8_meanDamp_56 : decode cX8_meanDamp 56 = .ok (.bipush 6, 2) := by decide +kernel
theorem dX8_meanDamp_58 : decode cX8_meanDamp 58 = .ok (.invokestatic 71, 3) := by decide +kernel
theorem dX8_meanDamp_61 : decode cX8_meanDamp 61 = .ok (.iaload, 1) := by decide +kernel
theorem dX8_meanDamp_62 : decode cX8_meanDamp 62 = .ok (.iadd, 1) := by decide +kernel
theorem dX8_meanDamp_63 : decode cX8_meanDamp 63 = .ok (.istore_n 2, 1) := by decide +kernel
theorem dX8_meanDamp_64 : decode cX8_meanDamp 64 = .ok (.iinc 3 1, 3) := by decide +kernel
theorem dX8_meanDamp_67 : decode cX8_meanDamp 67 = .ok (.goto (-56), 3) := by decide +kernel
theorem dX8_meanDamp_70 : decode cX8_meanDamp 70 = .ok (.iload_n 1, 1) := by decide +kernel
theorem dX8_meanDamp_71 : decode cX8_meanDamp 71 = .ok (.ifCond .ne 12, 3) := by decide +kernel
theorem dX8_meanDamp_74 : decode cX8_meanDamp 74 = .ok (.aload_n 0, 1) := by decide +kernel
theorem dX8_meanDamp_75 : decode cX8_meanDamp 75 = .ok (.iconst 1, 1) := by decide +kernel
theorem dX8_meanDamp_76 : decode cX8_meanDamp 76 = .ok (.invokevirtual 61, 3) := by decide +kernel
theorem dX8_meanDamp_79 : decode cX8_meanDamp 79 = .ok (.i2d, 1) := by decide +kernel
theorem dX8_meanDamp_80 : decode cX8_meanDamp 80 = .ok (.goto 8, 3) := by decide +kernel
theorem dX8_meanDamp_83 : decode cX8_meanDamp 83 = .ok (.iload_n 2, 1) := by decide +kernel
theorem dX8_meanDamp_84 : decode cX8_meanDamp 84 = .ok (.i2d, 1) := by decide +kernel
theorem dX8_meanDamp_85 : decode cX8_meanDamp 85 = .ok (.iload_n 1, 1) := by decide +kernel
theorem dX8_meanDamp_86 : decode cX8_meanDamp 86 = .ok (.i2d, 1) := by decide +kernel
theorem dX8_meanDamp_87 : decode cX8_meanDamp 87 = .ok (.ddiv, 1) := by decide +kernel
theorem dX8_meanDamp_88 : decode cX8_meanDamp 88 = .ok (.dreturn, 1) := by decide +kernel
theorem dX8_sailedShare_0 : decode cX8_sailedShare 0 = .ok (.aload_n 0, 1) := by decide +kernel
theorem dX8_sailedShare_1 : decode cX8_sailedShare 1 = .ok (.iconst 0, 1) := by decide +kernel
theorem dX8_sailedShare_2 : decode cX8_sailedShare 2 = .ok (.putfield 34, 3) := by decide +kernel
theorem dX8_sailedShare_5 : decode cX8_sailedShare 5 = .ok (.aload_n 0, 1) := by decide +kernel
theorem dX8_sailedShare_6 : decode cX8_sailedShare 6 = .ok (.getfield 7, 3) := by decide +kernel
theorem dX8_sailedShare_9 : decode cX8_sailedShare 9 = .ok (.bipush 6, 2) := by decide +kernel
theorem dX8_sailedShare_11 : decode cX8_sailedShare 11 = .ok (.iaload, 1) := by decide +kernel
theorem dX8_sailedShare_12 : decode cX8_sailedShare 12 = .ok (.ifCond .ne 12, 3) := by decide +kernel
theorem dX8_sailedShare_15 : decode cX8_sailedShare 15 = .ok (.aload_n 0, 1) := by decide +kernel
theorem dX8_sailedShare_16 : decode cX8_sailedShare 16 = .ok (.iconst 1, 1) := by decide +kernel
theorem dX8_sailedShare_17 : decode cX8_sailedShare 17 = .ok (.invokevirtual 61, 3) := by decide +kernel
theorem dX8_sailedShare_20 : decode cX8_sailedShare 20 = .ok (.i2f, 1) := by decide +kernel
theorem dX8_sailedShare_21 : decode cX8_sailedShare 21 = .ok (.goto 20, 3) := by decide +kernel
theorem dX8_sailedShare_24 : decode cX8_sailedShare 24 = .ok (.aload_n 0, 1) := by decide +kernel
theorem dX8_sailedShare_25 : decode cX8_sailedShare 25 = .ok (.getfield 7, 3) := by decide +kernel
theorem dX8_sailedShare_28 : decode cX8_sailedShare 28 = .ok (.bipush 7, 2) := by decide +kernel
theorem dX8_sailedShare_30 : decode cX8_sailedShare 30 = .ok (.iaload, 1) := by decide +kernel
theorem dX8_sailedShare_31 : decode cX8_sailedShare 31 = .ok (.i2f, 1) := by decide +kernel
theorem dX8_sailedShare_32 : decode cX8_sailedShare 32 = .ok (.aload_n 0, 1) := by decide +kernel
theorem dX8_sailedShare_33 : decode cX8_sailedShare 33 = .ok (.getfield 7, 3) := by decide +kernel
theorem dX8_sailedShare_36 : decode cX8_sailedShare 36 = .ok (.bipush 6, 2) := by decide +kernel
theorem dX8_sailedShare_38 : decode cX8_sailedShare 38 = .ok (.iaload, 1) := by decide +kernel
theorem dX8_sailedShare_39 : decode cX8_sailedShare 39 = .ok (.i2f, 1) := by decide +kernel
theorem dX8_sailedShare_40 : decode cX8_sailedShare 40 = .ok (.fdiv, 1) := by decide +kernel
theorem dX8_sailedShare_41 : decode cX8_sailedShare 41 = .ok (.freturn, 1) := by decide +kernel
theorem dX8_reason_0 : decode cX8_reason 0 = .ok (.aload_n 0, 1) := by decide +kernel
theorem dX8_reason_1 : decode cX8_reason 1 = .ok (.iconst 0, 1) := by decide +kernel
theorem dX8_reason_2 : decode cX8_reason 2 = .ok (.putfield 34, 3) := by decide +kernel
theorem dX8_reason_5 : decode cX8_reason 5 = .ok (.aload_n 0, 1) := by decide +kernel
theorem dX8_reason_6 : decode cX8_reason 6 = .ok (.getfield 55, 3) := by decide +kernel
theorem dX8_reason_9 : decode cX8_reason 9 = .ok (.ifCond .ne 11, 3) := by decide +kernel
theorem dX8_reason_12 : decode cX8_reason 12 = .ok (.aload_n 0, 1) := by decide +kernel
theorem dX8_reason_13 : decode cX8_reason 13 = .ok (.iconst 1, 1) := by decide +kernel
theorem dX8_reason_14 : decode cX8_reason 14 = .ok (.invokevirtual 61, 3) := by decide +kernel
theorem dX8_reason_17 : decode cX8_reason 17 = .ok (.goto 18, 3) := by decide +kernel
theorem dX8_reason_20 : decode cX8_reason 20 = .ok (.iload_n 1, 1) := by decide +kernel
theorem dX8_reason_21 : decode cX8_reason 21 = .ok (.ifCond .eq 10, 3) := by decide +kernel
theorem dX8_reason_24 : decode cX8_reason 24 = .ok (.aload_n 0, 1) := by decide +kernel
theorem dX8_reason_25 : decode cX8_reason 25 = .ok (.getfield 58, 3) := by decide +kernel
theorem dX8_reason_28 : decode cX8_reason 28 = .ok (.goto 7, 3) := by decide +kernel
theorem dX8_reason_31 : decode cX8_reason 31 = .ok (.aload_n 0, 1) := by decide +kernel
theorem dX8_reason_32 : decode cX8_reason 32 = .ok (.getfield 55, 3) := by decide +kernel
theorem dX8_reason_35 : decode cX8_reason 35 = .ok (.ireturn, 1) := by decide +kernel
theorem dX8_account_0 : decode cX8_account 0 = .ok (.aload_n 0, 1) := by decide +kernel
theorem dX8_account_1 : decode cX8_account 1 = .ok (.iconst 0, 1) := by decide +kernel
theorem dX8_account_2 : decode cX8_account 2 = .ok (.putfield 34, 3) := by decide +kernel
theorem dX8_account_5 : decode cX8_account 5 = .ok (.iload_n 1, 1) := by decide +kernel
theorem dX8_account_6 : decode cX8_account 6 = .ok (.tableswitch 179 0 17 #[86, 93, 98, 103, 103, 115, 123, 123, 123, 135, 135, 135, 144, 149, 157, 157, 169, 174], 86) := by decide +kernel
theorem dX8_account_92 : decode cX8_account 92 = .ok (.aload_n 0, 1) := by decide +kernel
theorem dX8_account_93 : decode cX8_account 93 = .ok (.getfield 7, 3) := by decide +kernel
theorem dX8_account_96 : decode cX8_account 96 = .ok (.iconst 0, 1) := by decide +kernel
theorem dX8_account_97 : decode cX8_account 97 = .ok (.iaload, 1) := by decide +kernel
theorem dX8_account_98 : decode cX8_account 98 = .ok (.ireturn, 1) := by decide +kernel
theorem dX8_account_99 : decode cX8_account 99 = .ok (.aload_n 0, 1) := by decide +kernel
theorem dX8_account_100 : decode cX8_account 100 = .ok (.invokevirtual 189, 3) := by decide +kernel
theorem dX8_account_103 : decode cX8_account 103 = .ok (.ireturn, 1) := by decide +kernel
theorem dX8_account_104 : decode cX8_account 104 = .ok (.aload_n 0, 1) := by decide +kernel
theorem dX8_account_105 : decode cX8_account 105 = .ok (.invokevirtual 192, 3) := by decide +kernel
theorem dX8_account_108 : decode cX8_account 108 = .ok (.ireturn, 1) := by decide +kernel
theorem dX8_account_109 : decode cX8_account 109 = .ok (.aload_n 0, 1) := by decide +kernel
theorem dX8_account_110 : decode cX8_account 110 = .ok (.getfield 7, 3) := by decide +kernel
theorem dX8_account_113 : decode cX8_account 113 = .ok (.bipush 7, 2) := by decide +kernel
theorem dX8_account_115 : decode cX8_account 115 = .ok (.iload_n 1, 1) := by decide +kernel
theorem dX8_account_116 : decode cX8_account 116 = .ok (.iadd, 1) := by decide +kernel
theorem dX8_account_117 : decode cX8_account 117 = .ok (.iconst 3, 1) := by decide +kernel
theorem dX8_account_118 : decode cX8_account 118 = .ok (.isub, 1) := by decide +kernel
theorem dX8_account_119 : decode cX8_account 119 = .ok (.iaload, 1) := by decide +kernel
theorem dX8_account_120 : decode cX8_account 120 = .ok (.ireturn, 1) := by decide +kernel
theorem dX8_account_121 : decode cX8_account 121 = .ok (.aload_n 0, 1) := by decide +kernel
theorem dX8_account_122 : decode cX8_account 122 = .ok (.getfield 7, 3) := by decide +kernel
theorem dX8_account_125 : decode cX8_account 125 = .ok (.bipush 6, 2) := by decide +kernel
theorem dX8_account_127 : decode cX8_account 127 = .ok (.iaload, 1) := by decide +kernel
theorem dX8_account_128 : decode cX8_account 128 = .ok (.ireturn, 1) := by decide +kernel
theorem dX8_account_129 : decode cX8_account 129 = .ok (.aload_n 0, 1) := by decide +kernel
theorem dX8_account_130 : decode cX8_account 130 = .ok (.getfield 7, 3) := by decide +kernel
theorem dX8_account_133 : decode cX8_account 133 = .ok (.iconst 1, 1) := by decide +kernel
theorem dX8_account_134 : decode cX8_account 134 = .ok (.iload_n 1, 1) := by decide +kernel
theorem dX8_account_135 : decode cX8_account 135 = .ok (.iadd, 1) := by decide +kernel
theorem dX8_account_136 : decode cX8_account 136 = .ok (.bipush 6, 2) := by decide +kernel
theorem dX8_account_138 : decode cX8_account 138 = .ok (.isub, 1) := by decide +kernel
theorem dX8_account_139 : decode cX8_account 139 = .ok (.iaload, 1) := by decide +kernel
theorem dX8_account_140 : decode cX8_account 140 = .ok (.ireturn, 1) := by decide +kernel
theorem dX8_account_141 : decode cX8_account 141 = .ok (.aload_n 0, 1) := by decide +kernel
theorem dX8_account_142 : decode cX8_account 142 = .ok (.iload_n 1, 1) := by decide +kernel
theorem dX8_account_143 : decode cX8_account 143 = .ok (.bipush 9, 2) := by decide +kernel
theorem dX8_account_145 : decode cX8_account 145 = .ok (.isub, 1) := by decide +kernel
theorem dX8_account_146 : decode cX8_account 146 = .ok (.invokevirtual 155, 3) := by decide +kernel
theorem dX8_account_149 : decode cX8_account 149 = .ok (.ireturn, 1) := by decide +kernel
theorem dX8_account_150 : decode cX8_account 150 = .ok (.aload_n 0, 1) := by decide +kernel
theorem dX8_account_151 : decode cX8_account 151 = .ok (.invokevirtual 164, 3) := by decide +kernel
theorem dX8_account_154 : decode cX8_account 154 = .ok (.ireturn, 1) := by decide +kernel
theorem dX8_account_155 : decode cX8_account 155 = .ok (.aload_n 0, 1) := by decide +kernel
theorem dX8_account_156 : decode cX8_account 156 = .ok (.getfield 7, 3) := by decide +kernel
theorem dX8_account_159 : decode cX8_account 159 = .ok (.bipush 9, 2) := by decide +kernel
theorem dX8_account_161 : decode cX8_account 161 = .ok (.iaload, 1) := by decide +kernel
theorem dX8_account_162 : decode cX8_account 162 = .ok (.ireturn, 1) := by decide +kernel
theorem dX8_account_163 : decode cX8_account 163 = .ok (.aload_n 0, 1) := by decide +kernel
theorem dX8_account_164 : decode cX8_account 164 = .ok (.getfield 7, 3) := by decide +kernel
theorem dX8_account_167 : decode cX8_account 167 = .ok (.iconst 4, 1) := by decide +kernel
theorem dX8_account_168 : decode cX8_account 168 = .ok (.iload_n 1, 1) := by decide +kernel
theorem dX8_account_169 : decode cX8_account 169 = .ok (.iadd, 1) := by decide +kernel
theorem dX8_account_170 : decode cX8_account 170 = .ok (.bipush 14, 2) := by decide +kernel
theorem dX8_account_172 : decode cX8_account 172 = .ok (.isub, 1) := by decide +kernel
theorem dX8_account_173 : decode cX8_account 173 = .ok (.iaload, 1) := by decide +kernel
theorem dX8_account_174 : decode cX8_account 174 = .ok (.ireturn, 1) := by decide +kernel
theorem dX8_account_175 : decode cX8_account 175 = .ok (.aload_n 0, 1) := by decide +kernel
theorem dX8_account_176 : decode cX8_account 176 = .ok (.getfield 195, 3) := by decide +kernel
theorem dX8_account_179 : decode cX8_account 179 = .ok (.ireturn, 1) := by decide +kernel
theorem dX8_account_180 : decode cX8_account 180 = .ok (.aload_n 0, 1) := by decide +kernel
theorem dX8_account_181 : decode cX8_account 181 = .ok (.getfield 64, 3) := by decide +kernel
theorem dX8_account_184 : decode cX8_account 184 = .ok (.ireturn, 1) := by decide +kernel
theorem dX8_account_185 : decode cX8_account 185 = .ok (.aload_n 0, 1) := by decide +kernel
theorem dX8_account_186 : decode cX8_account 186 = .ok (.iconst 1, 1) := by decide +kernel
theorem dX8_account_187 : decode cX8_account 187 = .ok (.invokevirtual 61, 3) := by decide +kernel
theorem dX8_account_190 : decode cX8_account 190 = .ok (.ireturn, 1) := by decide +kernel
theorem dX8_feed_0 : decode cX8_feed 0 = .ok (.aload_n 0, 1) := by decide +kernel
theorem dX8_feed_1 : decode cX8_feed 1 = .ok (.iconst 0, 1) := by decide +kernel
theorem dX8_feed_2 : decode cX8_feed 2 = .ok (.putfield 34, 3) := by decide +kernel
theorem dX8_feed_5 : decode cX8_feed 5 = .ok (.aload_n 0, 1) := by decide +kernel
theorem dX8_feed_6 : decode cX8_feed 6 = .ok (.getfield 195, 3) := by decide +kernel
theorem dX8_feed_9 : decode cX8_feed 9 = .ok (.bipush 60, 2) := by decide +kernel
theorem dX8_feed_11 : decode cX8_feed 11 = .ok (.if_icmp .ne 9, 3) := by decide +kernel
theorem dX8_feed_14 : decode cX8_feed 14 = .ok (.aload_n 0, 1) := by decide +kernel
theorem dX8_feed_15 : decode cX8_feed 15 = .ok (.iconst 1, 1) := by decide +kernel
theorem dX8_feed_16 : decode cX8_feed 16 = .ok (.invokevirtual 61, 3) := by decide +kernel
theorem dX8_feed_19 : decode cX8_feed 19 = .ok (.ireturn, 1) := by decide +kernel
theorem dX8_feed_20 : decode cX8_feed 20 = .ok (.aload_n 0, 1) := by decide +kernel
theorem dX8_feed_21 : decode cX8_feed 21 = .ok (.getfield 25, 3) := by decide +kernel
theorem dX8_feed_24 : decode cX8_feed 24 = .ok (.aload_n 0, 1) := by decide +kernel
theorem dX8_feed_25 : decode cX8_feed 25 = .ok (.getfield 195, 3) := by decide +kernel
theorem dX8_feed_28 : decode cX8_feed 28 = .ok (.iload_n 1, 1) := by decide +kernel
theorem dX8_feed_29 : decode cX8_feed 29 = .ok (.iastore, 1) := by decide +kernel
theorem dX8_feed_30 : decode cX8_feed 30 = .ok (.aload_n 0, 1) := by decide +kernel
theorem dX8_feed_31 : decode cX8_feed 31 = .ok (.dup, 1) := by decide +kernel
theorem dX8_feed_32 : decode cX8_feed 32 = .ok (.getfield 195, 3) := by decide +kernel
theorem dX8_feed_35 : decode cX8_feed 35 = .ok (.iconst 1, 1) := by decide +kernel
theorem dX8_feed_36 : decode cX8_feed 36 = .ok (.iadd, 1) := by decide +kernel
theorem dX8_feed_37 : decode cX8_feed 37 = .ok (.putfield 195, 3) := by decide +kernel
theorem dX8_feed_40 : decode cX8_feed 40 = .ok (.aload_n 0, 1) := by decide +kernel
theorem dX8_feed_41 : decode cX8_feed 41 = .ok (.getfield 195, 3) := by decide +kernel
theorem dX8_feed_44 : decode cX8_feed 44 = .ok (.ireturn, 1) := by decide +kernel
theorem dX8_sign_0 : decode cX8_sign 0 = .ok (.aload_n 0, 1) := by decide +kernel
theorem dX8_sign_1 : decode cX8_sign 1 = .ok (.getfield 198, 3) := by decide +kernel
theorem dX8_sign_4 : decode cX8_sign 4 = .ok (.aload_n 0, 1) := by decide +kernel
theorem dX8_sign_5 : decode cX8_sign 5 = .ok (.getfield 195, 3) := by decide +kernel
theorem dX8_sign_8 : decode cX8_sign 8 = .ok (.if_icmp .ge 15, 3) := by decide +kernel
theorem dX8_sign_11 : decode cX8_sign 11 = .ok (.aload_n 0, 1) := by decide +kernel
theorem dX8_sign_12 : decode cX8_sign 12 = .ok (.getfield 25, 3) := by decide +kernel
theorem dX8_sign_15 : decode cX8_sign 15 = .ok (.aload_n 0, 1) := by decide +kernel
theorem dX8_sign_16 : decode cX8_sign 16 = .ok (.getfield 198, 3) := by decide +kernel
theorem dX8_sign_19 : decode cX8_sign 19 = .ok (.iaload, 1) := by decide +kernel
theorem dX8_sign_20 : decode cX8_sign 20 = .ok (.goto 4, 3) := by decide +kernel
theorem dX8_sign_23 : decode cX8_sign 23 = .ok (.iconst (-1), 1) := by decide +kernel
theorem dX8_sign_24 : decode cX8_sign 24 = .ok (.ireturn, 1) := by decide +kernel
theorem dX8_word_0 : decode cX8_word 0 = .ok (.sipush 2047, 3) := by decide +kernel
theorem dX8_word_3 : decode cX8_word 3 = .ok (.istore_n 3, 1) := by decide +kernel
theorem dX8_word_4 : decode cX8_word 4 = .ok (.iconst 0, 1) := by decide +kernel
theorem dX8_word_5 : decode cX8_word 5 = .ok (.istore 4, 2) := by decide +kernel
theorem dX8_word_7 : decode cX8_word 7 = .ok (.iload 4, 2) := by decide +kernel
theorem dX8_word_9 : decode cX8_word 9 = .ok (.bipush 6, 2) := by decide +kernel
theorem dX8_word_11 : decode cX8_word 11 = .ok (.if_icmp .ge 142, 3) := by decide +kernel
theorem dX8_word_14 : decode cX8_word 14 = .ok (.iconst 0, 1) := by decide +kernel
theorem dX8_word_15 : decode cX8_word 15 = .ok (.istore 5, 2) := by decide +kernel
theorem dX8_word_17 : decode cX8_word 17 = .ok (.iconst (-1), 1) := by decide +kernel
theorem dX8_word_18 : decode cX8_word 18 = .ok (.istore 6, 2) := by decide +kernel
theorem dX8_word_20 : decode cX8_word 20 = .ok (.iload_n 1, 1) := by decide +kernel
theorem dX8_word_21 : decode cX8_word 21 = .ok (.istore 7, 2) := by decide +kernel
theorem dX8_word_23 : decode cX8_word 23 = .ok (.iload 7, 2) := by decide +kernel
theorem dX8_word_25 : decode cX8_word 25 = .ok (.iload_n 2, 1) := by decide +kernel
theorem dX8_word_26 : decode cX8_word 26 = .ok (.if_icmp .gt 77, 3) := by decide +kernel
theorem dX8_word_29 : decode cX8_word 29 = .ok (.iload_n 3, 1) := by decide +kernel
theorem dX8_word_30 : decode cX8_word 30 = .ok (.iload 7, 2) := by decide +kernel
theorem dX8_word_32 : decode cX8_word 32 = .ok (.ishr, 1) := by decide +kernel
theorem dX8_word_33 : decode cX8_word 33 = .ok (.iconst 1, 1) := by decide +kernel
theorem dX8_word_34 : decode cX8_word 34 = .ok (.iand, 1) := by decide +kernel
theorem dX8_word_35 : decode cX8_word 35 = .ok (.ifCond .eq 62, 3) := by decide +kernel
theorem dX8_word_38 : decode cX8_word 38 = .ok (.aload_n 0, 1) := by decide +kernel
theorem dX8_word_39 : decode cX8_word 39 = .ok (.getfield 31, 3) := by decide +kernel
theorem dX8_word_42 : decode cX8_word 42 = .ok (.bipush 7, 2) := by decide +kernel
theorem dX8_word_44 : decode cX8_word 44 = .ok (.iload 7, 2) := by decide +kernel
theorem dX8_word_46 : decode cX8_word 46 = .ok (.imul, 1) := by decide +kernel
theorem dX8_word_47 : decode cX8_word 47 = .ok (.iload 4, 2) := by decide +kernel
theorem dX8_word_49 : decode cX8_word 49 = .ok (.iadd, 1) := by decide +kernel
theorem dX8_word_50 : decode cX8_word 50 = .ok (.iaload, 1) := by decide +kernel
theorem dX8_word_51 : decode cX8_word 51 = .ok (.aload_n 0, 1) := by decide +kernel
theorem dX8_word_52 : decode cX8_word 52 = .ok (.invokevirtual 201, 3) := by decide +kernel
theorem dX8_word_55 : decode cX8_word 55 = .ok (.if_icmp .eq 6, 3) := by decide +kernel
theorem dX8_word_58 : decode cX8_word 58 = .ok (.goto 39, 3) := by decide +kernel
theorem dX8_word_61 : decode cX8_word 61 = .ok (.iload 5, 2) := by decide +kernel
theorem dX8_word_63 : decode cX8_word 63 = .ok (.iconst 1, 1) := by decide +kernel
theorem dX8_word_64 : decode cX8_word 64 = .ok (.iload 7, 2) := by decide +kernel
theorem dX8_word_66 : decode cX8_word 66 = .ok (.ishl, 1) := by decide +kernel
theorem dX8_word_67 : decode cX8_word 67 = .ok (.ior, 1) := by decide +kernel
theorem dX8_word_68 : decode cX8_word 68 = .ok (.istore 5, 2) := by decide +kernel
theorem dX8_word_70 : decode cX8_word 70 = .ok (.aload_n 0, 1) := by decide +kernel
theorem dX8_word_71 : decode cX8_word 71 = .ok (.getfield 31, 3) := by decide +kernel
theorem dX8_word_74 : decode cX8_word 74 = .ok (.bipush 7, 2) := by decide +kernel
theorem dX8_word_76 : decode cX8_word 76 = .ok (.iload 7, 2) := by decide +kernel
theorem dX8_word_78 : decode cX8_word 78 = .ok (.imul, 1) := by decide +kernel
theorem dX8_word_79 : decode cX8_word 79 = .ok (.iload 4, 2) := by decide +kernel
theorem dX8_word_81 : decode cX8_word 81 = .ok (.iadd, 1) := by decide +kernel
theorem dX8_word_82 : decode cX8_word 82 = .ok (.iconst 1, 1) := by decide +kernel
theorem dX8_word_83 : decode cX8_word 83 = .ok (.iadd, 1) := by decide +kernel
theorem dX8_word_84 : decode cX8_word 84 = .ok (.iaload, 1) := by decide +kernel
theorem dX8_word_85 : decode cX8_word 85 = .ok (.ifCond .ne 8, 3) := by decide +kernel
theorem dX8_word_88 : decode cX8_word 88 = .ok (.iload 7, 2) := by decide +kernel
theorem dX8_word_90 : decode cX8_word 90 = .ok (.goto 5, 3) := by decide +kernel
theorem dX8_word_93 : decode cX8_word 93 = .ok (.iload 6, 2) := by decide +kernel
theorem dX8_word_95 : decode cX8_word 95 = .ok (.istore 6, 2) := by decide +kernel
theorem dX8_word_97 : decode cX8_word 97 = .ok (.iinc 7 1, 3) := by decide +kernel
theorem dX8_word_100 : decode cX8_word 100 = .ok (.goto (-77), 3) := by decide +kernel
theorem dX8_word_103 : decode cX8_word 103 = .ok (.aload_n 0, 1) := by decide +kernel
theorem dX8_word_104 : decode cX8_word 104 = .ok (.iload 5, 2) := by decide +kernel
theorem dX8_word_106 : decode cX8_word 106 = .ok (.ifCond .ne 7, 3) := by decide +kernel
theorem dX8_word_109 : decode cX8_word 109 = .ok (.iconst 1, 1) := by decide +kernel
theorem dX8_word_110 : decode cX8_word 110 = .ok (.goto 4, 3) := by decide +kernel
theorem dX8_word_113 : decode cX8_word 113 = .ok (.iconst 0, 1) := by decide +kernel
theorem dX8_word_114 : decode cX8_word 114 = .ok (.putfield 204, 3) := by decide +kernel
theorem dX8_word_117 : decode cX8_word 117 = .ok (.aload_n 0, 1) := by decide +kernel
theorem dX8_word_118 : decode cX8_word 118 = .ok (.getfield 204, 3) := by decide +kernel
theorem dX8_word_121 : decode cX8_word 121 = .ok (.ifCond .eq 5, 3) := by decide +kernel
theorem dX8_word_124 : decode cX8_word 124 = .ok (.iconst 0, 1) := by decide +kernel
theorem dX8_word_125 : decode cX8_word 125 = .ok (.ireturn, 1) := by decide +kernel
theorem dX8_word_126 : decode cX8_word 126 = .ok (.iload 5, 2) := by decide +kernel
theorem dX8_word_128 : decode cX8_word 128 = .ok (.istore_n 3, 1) := by decide +kernel
theorem dX8_word_129 : decode cX8_word 129 = .ok (.aload_n 0, 1) := by decide +kernel
theorem dX8_word_130 : decode cX8_word 130 = .ok (.dup, 1) := by decide +kernel
theorem dX8_word_131 : decode cX8_word 131 = .ok (.getfield 198, 3) := by decide +kernel
theorem dX8_word_134 : decode cX8_word 134 = .ok (.iconst 1, 1) := by decide +kernel
theorem dX8_word_135 : decode cX8_word 135 = .ok (.iadd, 1) := by decide +kernel
theorem dX8_word_136 : decode cX8_word 136 = .ok (.putfield 198, 3) := by decide +kernel
theorem dX8_word_139 : decode cX8_word 139 = .ok (.iload 6, 2) := by decide +kernel
theorem dX8_word_141 : decode cX8_word 141 = .ok (.ifCond .lt 6, 3) := by decide +kernel
theorem dX8_word_144 : decode cX8_word 144 = .ok (.iload 6, 2) := by decide +kernel
theorem dX8_word_146 : decode cX8_word 146 = .ok (.ireturn, 1) := by decide +kernel
theorem dX8_word_147 : decode cX8_word 147 = .ok (.iinc 4 1, 3) := by decide +kernel
theorem dX8_word_150 : decode cX8_word 150 = .ok (.goto (-143), 3) := by decide +kernel
theorem dX8_word_153 : decode cX8_word 153 = .ok (.iconst 0, 1) := by decide +kernel
theorem dX8_word_154 : decode cX8_word 154 = .ok (.ireturn, 1) := by decide +kernel
theorem dX8_number_0 : decode cX8_number 0 = .ok (.aload_n 0, 1) := by decide +kernel
theorem dX8_number_1 : decode cX8_number 1 = .ok (.getfield 204, 3) := by decide +kernel
theorem dX8_number_4 : decode cX8_number 4 = .ok (.ifCond .eq 5, 3) := by decide +kernel
theorem dX8_number_7 : decode cX8_number 7 = .ok (.iconst 0, 1) := by decide +kernel
theorem dX8_number_8 : decode cX8_number 8 = .ok (.ireturn, 1) := by decide +kernel
theorem dX8_number_9 : decode cX8_number 9 = .ok (.aload_n 0, 1) := by decide +kernel
theorem dX8_number_10 : decode cX8_number 10 = .ok (.aload_n 0, 1) := by decide +kernel
theorem dX8_number_11 : decode cX8_number 11 = .ok (.invokevirtual 201, 3) := by decide +kernel
theorem dX8_number_14 : decode cX8_number 14 = .ok (.bipush 48, 2) := by decide +kernel
theorem dX8_number_16 : decode cX8_number 16 = .ok (.bipush 57, 2) := by decide +kernel
theorem dX8_number_18 : decode cX8_number 18 = .ok (.invokestatic 67, 3) := by decide +kernel
theorem dX8_number_21 : decode cX8_number 21 = .ok (.ifCond .ne 7, 3) := by decide +kernel
theorem dX8_number_24 : decode cX8_number 24 = .ok (.iconst 1, 1) := by decide +kernel
theorem dX8_number_25 : decode cX8_number 25 = .ok (.goto 4, 3) := by decide +kernel
theorem dX8_number_28 : decode cX8_number 28 = .ok (.iconst 0, 1) := by decide +kernel
theorem dX8_number_29 : decode cX8_number 29 = .ok (.putfield 204, 3) := by decide +kernel
theorem dX8_number_32 : decode cX8_number 32 = .ok (.iconst 0, 1) := by decide +kernel
theorem dX8_number_33 : decode cX8_number 33 = .ok (.istore_n 2, 1) := by decide +kernel
theorem dX8_number_34 : decode cX8_number 34 = .ok (.iconst 0, 1) := by decide +kernel
theorem dX8_number_35 : decode cX8_number 35 = .ok (.istore_n 3, 1) := by decide +kernel
theorem dX8_number_36 : decode cX8_number 36 = .ok (.iload_n 3, 1) := by decide +kernel
theorem dX8_number_37 : decode cX8_number 37 = .ok (.iload_n 1, 1) := by decide +kernel
theorem dX8_number_38 : decode cX8_number 38 = .ok (.if_icmp .ge 53, 3) := by decide +kernel
theorem dX8_number_41 : decode cX8_number 41 = .ok (.aload_n 0, 1) := by decide +kernel
theorem dX8_number_42 : decode cX8_number 42 = .ok (.getfield 204, 3) := by decide +kernel
theorem dX8_number_45 : decode cX8_number 45 = .ok (.ifCond .ne 46, 3) := by decide +kernel
theorem dX8_number_48 : decode cX8_number 48 = .ok (.aload_n 0, 1) := by decide +kernel
theorem dX8_number_49 : decode cX8_number 49 = .ok (.invokevirtual 201, 3) := by decide +kernel
theorem dX8_number_52 : decode cX8_number 52 = .ok (.bipush 48, 2) := by decide +kernel
theorem dX8_number_54 : decode cX8_number 54 = .ok (.bipush 57, 2) := by decide +kernel
theorem dX8_number_56 : decode cX8_number 56 = .ok (.invokestatic 67, 3) := by decide +kernel
theorem dX8_number_59 : decode cX8_number 59 = .ok (.ifCond .eq 32, 3) := by decide +kernel
theorem dX8_number_62 : decode cX8_number 62 = .ok (.bipush 10, 2) := by decide +kernel
theorem dX8_number_64 : decode cX8_number 64 = .ok (.iload_n 2, 1) := by decide +kernel
theorem dX8_number_65 : decode cX8_number 65 = .ok (.imul, 1) := by decide +kernel
theorem dX8_number_66 : decode cX8_number 66 = .ok (.aload_n 0, 1) := by decide +kernel
theorem dX8_number_67 : decode cX8_number 67 = .ok (.invokevirtual 201, 3) := by decide +kernel
theorem dX8_number_70 : decode cX8_number 70 = .ok (.iadd, 1) := by decide +kernel
theorem dX8_number_71 : decode cX8_number 71 = .ok (.bipush 48, 2) := by decide +kernel
theorem dX8_number_73 : decode cX8_number 73 = .ok (.isub, 1) := by decide +kernel
theorem dX8_number_74 : decode cX8_number 74 = .ok (.istore_n 2, 1) := by decide +kernel
theorem dX8_number_75 : decode cX8_number 75 = .ok (.aload_n 0, 1) := by decide +kernel
theorem dX8_number_76 : decode cX8_number 76 = .ok (.dup, 1) := by decide +kernel
theorem dX8_number_77 : decode cX8_number 77 = .ok (.getfield 198, 3) := by decide +kernel
theorem dX8_number_80 : decode cX8_number 80 = .ok (.iconst 1, 1) := by decide +kernel
theorem dX8_number_81 : decode cX8_number 81 = .ok (.iadd, 1) := by decide +kernel
theorem dX8_number_82 : decode cX8_number 82 = .ok (.putfield 198, 3) := by decide +kernel
theorem dX8_number_85 : decode cX8_number 85 = .ok (.iinc 3 1, 3) := by decide +kernel
theorem dX8_number_88 : decode cX8_number 88 = .ok (.goto (-52), 3) := by decide +kernel
theorem dX8_number_91 : decode cX8_number 91 = .ok (.iload_n 2, 1) := by decide +kernel
theorem dX8_number_92 : decode cX8_number 92 = .ok (.ireturn, 1) := by decide +kernel
theorem dX8_mark_0 : decode cX8_mark 0 = .ok (.aload_n 0, 1) := by decide +kernel
theorem dX8_mark_1 : decode cX8_mark 1 = .ok (.getfield 204, 3) := by decide +kernel
theorem dX8_mark_4 : decode cX8_mark 4 = .ok (.ifCond .eq 4, 3) := by decide +kernel
theorem dX8_mark_7 : decode cX8_mark 7 = .ok (.return_, 1) := by decide +kernel
theorem dX8_mark_8 : decode cX8_mark 8 = .ok (.aload_n 0, 1) := by decide +kernel
theorem dX8_mark_9 : decode cX8_mark 9 = .ok (.aload_n 0, 1) := by decide +kernel
theorem dX8_mark_10 : decode cX8_mark 10 = .ok (.invokevirtual 201, 3) := by decide +kernel
theorem dX8_mark_13 : decode cX8_mark 13 = .ok (.iload_n 1, 1) := by decide +kernel
theorem dX8_mark_14 : decode cX8_mark 14 = .ok (.if_icmp .eq 7, 3) := by decide +kernel
theorem dX8_mark_17 : decode cX8_mark 17 = .ok (.iconst 1, 1) := by decide +kernel
theorem dX8_mark_18 : decode cX8_mark 18 = .ok (.goto 4, 3) := by decide +kernel
theorem dX8_mark_21 : decode cX8_mark 21 = .ok (.iconst 0, 1) := by decide +kernel
theorem dX8_mark_22 : decode cX8_mark 22 = .ok (.putfield 204, 3) := by decide +kernel
theorem dX8_mark_25 : decode cX8_mark 25 = .ok (.aload_n 0, 1) := by decide +kernel
theorem dX8_mark_26 : decode cX8_mark 26 = .ok (.dup, 1) := by decide +kernel
theorem dX8_mark_27 : decode cX8_mark 27 = .ok (.getfield 198, 3) := by decide +kernel
theorem dX8_mark_30 : decode cX8_mark 30 = .ok (.aload_n 0, 1) := by decide +kernel
theorem dX8_mark_31 : decode cX8_mark 31 = .ok (.getfield 204, 3) := by decide +kernel
theorem dX8_mark_34 : decode cX8_mark 34 = .ok (.ifCond .eq 7, 3) := by decide +kernel
theorem dX8_mark_37 : decode cX8_mark 37 = .ok (.iconst 0, 1) := by decide +kernel
theorem dX8_mark_38 : decode cX8_mark 38 = .ok (.goto 4, 3) := by decide +kernel
theorem dX8_mark_41 : decode cX8_mark 41 = .ok (.iconst 1, 1) := by decide +kernel
theorem dX8_mark_42 : decode cX8_mark 42 = .ok (.iadd, 1) := by decide +kernel
theorem dX8_mark_43 : decode cX8_mark 43 = .ok (.putfield 198, 3) := by decide +kernel
theorem dX8_mark_46 : decode cX8_mark 46 = .ok (.return_, 1) := by decide +kernel
theorem dX8_does_0 : decode cX8_does 0 = .ok (.iload_n 1, 1) := by decide +kernel
theorem dX8_does_1 : decode cX8_does 1 = .ok (.tableswitch 138 0 6 #[43, 54, 83, 100, 111, 122, 133], 43) := by decide +kernel
theorem dX8_does_44 : decode cX8_does 44 = .ok (.aload_n 0, 1) := by decide +kernel
theorem dX8_does_45 : decode cX8_does 45 = .ok (.aload_n 0, 1) := by decide +kernel
theorem dX8_does_46 : decode cX8_does 46 = .ok (.getfield 28, 3) := by decide +kernel
theorem dX8_does_49 : decode cX8_does 49 = .ok (.iconst 0, 1) := by decide +kernel
theorem dX8_does_50 : decode cX8_does 50 = .ok (.iaload, 1) := by decide +kernel
theorem dX8_does_51 : decode cX8_does 51 = .ok (.invokevirtual 115, 3) := by decide +kernel
theorem dX8_does_54 : decode cX8_does 54 = .ok (.ireturn, 1) := by decide +kernel
theorem dX8_does_55 : decode cX8_does 55 = .ok (.aload_n 0, 1) := by decide +kernel
theorem dX8_does_56 : decode cX8_does 56 = .ok (.aload_n 0, 1) := by decide +kernel
theorem dX8_does_57 : decode cX8_does 57 = .ok (.getfield 28, 3) := by decide +kernel
theorem dX8_does_60 : decode cX8_does 60 = .ok (.iconst 0, 1) := by decide +kernel
theorem dX8_does_61 : decode cX8_does 61 = .ok (.iaload, 1) := by decide +kernel
theorem dX8_does_62 : decode cX8_does 62 = .ok (.aload_n 0, 1) := by decide +kernel
theorem dX8_does_63 : decode cX8_does 63 = .ok (.getfield 28, 3) := by decide +kernel
theorem dX8_does_66 : decode cX8_does 66 = .ok (.iconst 1, 1) := by decide +kernel
theorem dX8_does_67 : decode cX8_does 67 = .ok (.iaload, 1) := by decide +kernel
theorem dX8_does_68 : decode cX8_does 68 = .ok (.aload_n 0, 1) := by decide +kernel
theorem dX8_does_69 : decode cX8_does 69 = .ok (.getfield 28, 3) := by decide +kernel
theorem dX8_does_72 : decode cX8_does 72 = .ok (.iconst 2, 1) := by decide +kernel
theorem dX8_does_73 : decode cX8_does 73 = .ok (.iaload, 1) := by decide +kernel
theorem dX8_does_74 : decode cX8_does 74 = .ok (.aload_n 0, 1) := by decide +kernel
theorem dX8_does_75 : decode cX8_does 75 = .ok (.getfield 28, 3) := by decide +kernel
theorem dX8_does_78 : decode cX8_does 78 = .ok (.iconst 3, 1) := by decide +kernel
theorem dX8_does_79 : decode cX8_does 79 = .ok (.iaload, 1) := by decide +kernel
theorem dX8_does_80 : decode cX8_does 80 = .ok (.invokevirtual 121, 3) := by decide +kernel
theorem dX8_does_83 : decode cX8_does 83 = .ok (.ireturn, 1) := by decide +kernel
theorem dX8_does_84 : decode cX8_does 84 = .ok (.aload_n 0, 1) := by decide +kernel
theorem dX8_does_85 : decode cX8_does 85 = .ok (.aload_n 0, 1) := by decide +kernel
theorem dX8_does_86 : decode cX8_does 86 = .ok (.getfield 28, 3) := by decide +kernel
theorem dX8_does_89 : decode cX8_does 89 = .ok (.iconst 0, 1) := by decide +kernel
theorem dX8_does_90 : decode cX8_does 90 = .ok (.iaload, 1) := by decide +kernel
theorem dX8_does_91 : decode cX8_does 91 = .ok (.aload_n 0, 1) := by decide +kernel
theorem dX8_does_92 : decode cX8_does 92 = .ok (.getfield 28, 3) := by decide +kernel
theorem dX8_does_95 : decode cX8_does 95 = .ok (.iconst 1, 1) := by decide +kernel
theorem dX8_does_96 : decode cX8_does 96 = .ok (.iaload, 1) := by decide +kernel
theorem dX8_does_97 : decode cX8_does 97 = .ok (.invokevirtual 130, 3) := by decide +kernel
theorem dX8_does_100 : decode cX8_does 100 = .ok (.ireturn, 1) := by decide +kernel
theorem dX8_does_101 : decode cX8_does 101 = .ok (.aload_n 0, 1) := by decide +kernel
theorem dX8_does_102 : decode cX8_does 102 = .ok (.aload_n 0, 1) := by decide +kernel
theorem dX8_does_103 : decode cX8_does 103 = .ok (.getfield 28, 3) := by decide +kernel
theorem dX8_does_106 : decode cX8_does 106 = .ok (.iconst 0, 1) := by decide +kernel
theorem dX8_does_107 : decode cX8_does 107 = .ok (.iaload, 1) := by decide +kernel
theorem dX8_does_108 : decode cX8_does 108 = .ok (.invokevirtual 146, 3) := by decide +kernel
theorem dX8_does_111 : decode cX8_does 111 = .ok (.ireturn, 1) := by decide +kernel
theorem dX8_does_112 : decode cX8_does 112 = .ok (.aload_n 0, 1) := by decide +kernel
theorem dX8_does_113 : decode cX8_does 113 = .ok (.aload_n 0, 1) := by decide +kernel
theorem dX8_does_114 : decode cX8_does 114 = .ok (.getfield 28, 3) := by decide +kernel
theorem dX8_does_117 : decode cX8_does 117 = .ok (.iconst 0, 1) := by decide +kernel
theorem dX8_does_118 : decode cX8_does 118 = .ok (.iaload, 1) := by decide +kernel
theorem dX8_does_119 : decode cX8_does 119 = .ok (.invokevirtual 158, 3) := by decide +kernel
theorem dX8_does_122 : decode cX8_does 122 = .ok (.ireturn, 1) := by decide +kernel
theorem dX8_does_123 : decode cX8_does 123 = .ok (.aload_n 0, 1) := by decide +kernel
theorem dX8_does_124 : decode cX8_does 124 = .ok (.aload_n 0, 1) := by decide +kernel
theorem dX8_does_125 : decode cX8_does 125 = .ok (.getfield 28, 3) := by decide +kernel
theorem dX8_does_128 : decode cX8_does 128 = .ok (.iconst 0, 1) := by decide +kernel
theorem dX8_does_129 : decode cX8_does 129 = .ok (.iaload, 1) := by decide +kernel
theorem dX8_does_130 : decode cX8_does 130 = .ok (.invokevirtual 168, 3) := by decide +kernel
theorem dX8_does_133 : decode cX8_does 133 = .ok (.ireturn, 1) := by decide +kernel
theorem dX8_does_134 : decode cX8_does 134 = .ok (.aload_n 0, 1) := by decide +kernel
theorem dX8_does_135 : decode cX8_does 135 = .ok (.invokevirtual 174, 3) := by decide +kernel
theorem dX8_does_138 : decode cX8_does 138 = .ok (.ireturn, 1) := by decide +kernel
theorem dX8_does_139 : decode cX8_does 139 = .ok (.aload_n 0, 1) := by decide +kernel
theorem dX8_does_140 : decode cX8_does 140 = .ok (.aload_n 0, 1) := by decide +kernel
theorem dX8_does_141 : decode cX8_does 141 = .ok (.getfield 28, 3) := by decide +kernel
theorem dX8_does_144 : decode cX8_does 144 = .ok (.iconst 0, 1) := by decide +kernel
theorem dX8_does_145 : decode cX8_does 145 = .ok (.iaload, 1) := by decide +kernel
theorem dX8_does_146 : decode cX8_does 146 = .ok (.invokevirtual 186, 3) := by decide +kernel
theorem dX8_does_149 : decode cX8_does 149 = .ok (.ireturn, 1) := by decide +kernel
theorem dX8_command_0 : decode cX8_command 0 = .ok (.aload_n 0, 1) := by decide +kernel
theorem dX8_command_1 : decode cX8_command 1 = .ok (.iconst 0, 1) := by decide +kernel
theorem dX8_command_2 : decode cX8_command 2 = .ok (.bipush 7, 2) := by decide +kernel
theorem dX8_command_4 : decode cX8_command 4 = .ok (.invokevirtual 208, 3) := by decide +kernel
theorem dX8_command_7 : decode cX8_command 7 = .ok (.istore_n 1, 1) := by decide +kernel
theorem dX8_command_8 : decode cX8_command 8 = .ok (.aload_n 0, 1) := by decide +kernel
theorem dX8_command_9 : decode cX8_command 9 = .ok (.getfield 204, 3) := by decide +kernel
theorem dX8_command_12 : decode cX8_command 12 = .ok (.ifCond .eq 4, 3) := by decide +kernel
theorem dX8_command_15 : decode cX8_command 15 = .ok (.return_, 1) := by decide +kernel
theorem dX8_command_16 : decode cX8_command 16 = .ok (.iload_n 1, 1) := by decide +kernel
theorem dX8_command_17 : decode cX8_command 17 = .ok (.bipush 6, 2) := by decide +kernel
theorem dX8_command_19 : decode cX8_command 19 = .ok (.if_icmp .eq 14, 3) := by decide +kernel
theorem dX8_command_22 : decode cX8_command 22 = .ok (.aload_n 0, 1) := by decide +kernel
theorem dX8_command_23 : decode cX8_command 23 = .ok (.getfield 28, 3) := by decide +kernel
theorem dX8_command_26 : decode cX8_command 26 = .ok (.iconst 0, 1) := by decide +kernel
theorem dX8_command_27 : decode cX8_command 27 = .ok (.aload_n 0, 1) := by decide +kernel
theorem dX8_command_28 : decode cX8_command 28 = .ok (.iconst 2, 1) := by decide +kernel
theorem dX8_command_29 : decode cX8_command 29 = .ok (.invokevirtual 211, 3) := by decide +kernel
theorem dX8_command_32 : decode cX8_command 32 = .ok (.iastore, 1) := by decide +kernel
theorem dX8_command_33 : decode cX8_command 33 = .ok (.iload_n 1, 1) := by decide +kernel
theorem dX8_command_34 : decode cX8_command 34 = .ok (.iconst 1, 1) := by decide +kernel
theorem dX8_command_35 : decode cX8_command 35 = .ok (.if_icmp .eq 8, 3) := by decide +kernel
theorem dX8_command_38 : decode cX8_command 38 = .ok (.iload_n 1, 1) := by decide +kernel
theorem dX8_command_39 : decode cX8_command 39 = .ok (.iconst 2, 1) := by decide +kernel
theorem dX8_command_40 : decode cX8_command 40 = .ok (.if_icmp .ne 20, 3) := by decide +kernel
theorem dX8_command_43 : decode cX8_command 43 = .ok (.aload_n 0, 1) := by decide +kernel
theorem dX8_command_44 : decode cX8_command 44 = .ok (.bipush 32, 2) := by decide +kernel
theorem dX8_command_46 : decode cX8_command 46 = .ok (.invokevirtual 214, 3) := by decide +kernel
theorem dX8_command_49 : decode cX8_command 49 = .ok (.aload_n 0, 1) := by decide +kernel
theorem dX8_command_50 : decode cX8_command 50 = .ok (.getfield 28, 3) := by decide +kernel
theorem dX8_command_53 : decode cX8_command 53 = .ok (.iconst 1, 1) := by decide +kernel
theorem dX8_command_54 : decode cX8_command 54 = .ok (.aload_n 0, 1) := by decide +kernel
theorem dX8_command_55 : decode cX8_command 55 = .ok (.iconst 1, 1) := by decide +kernel
theorem dX8_command_56 : decode cX8_command 56 = .ok (.invokevirtual 211, 3) := by decide +kernel
theorem dX8_command_59 : decode cX8_command 59 = .ok (.iastore, 1) := by decide +kernel
theorem dX8_command_60 : decode cX8_command 60 = .ok (.iload_n 1, 1) := by decide +kernel
theorem dX8_command_61 : decode cX8_command 61 = .ok (.iconst 1, 1) := by decide +kernel
theorem dX8_command_62 : decode cX8_command 62 = .ok (.if_icmp .ne 50, 3) := by decide +kernel
theorem dX8_command_65 : decode cX8_command 65 = .ok (.aload_n 0, 1) := by decide +kernel
theorem dX8_command_66 : decode cX8_command 66 = .ok (.bipush 46, 2) := by decide +kernel
theorem dX8_command_68 : decode cX8_command 68 = .ok (.invokevirtual 214, 3) := by decide +kernel
theorem dX8_command_71 : decode cX8_command 71 = .ok (.aload_n 0, 1) := by decide +kernel
theorem dX8_command_72 : decode cX8_command 72 = .ok (.getfield 204, 3) := by decide +kernel
theorem dX8_command_75 : decode cX8_command 75 = .ok (.ifCond .ne 20, 3) := by decide +kernel
theorem dX8_command_78 : decode cX8_command 78 = .ok (.aload_n 0, 1) := by decide +kernel
theorem dX8_command_79 : decode cX8_command 79 = .ok (.getfield 28, 3) := by decide +kernel
theorem dX8_command_82 : decode cX8_command 82 = .ok (.iconst 2, 1) := by decide +kernel
theorem dX8_command_83 : decode cX8_command 83 = .ok (.aload_n 0, 1) := by decide +kernel
theorem dX8_command_84 : decode cX8_command 84 = .ok (.bipush 8, 2) := by decide +kernel
theorem dX8_command_86 : decode cX8_command 86 = .ok (.bipush 10, 2) := by decide +kernel
theorem dX8_command_88 : decode cX8_command 88 = .ok (.invokevirtual 208, 3) := by decide +kernel
theorem dX8_command_91 : decode cX8_command 91 = .ok (.bipush 8, 2) := by decide +kernel
theorem dX8_command_93 : decode cX8_command 93 = .ok (.isub, 1) := by decide +kernel
theorem dX8_command_94 : decode cX8_command 94 = .ok (.iastore, 1) := by decide +kernel
theorem dX8_command_95 : decode cX8_command 95 = .ok (.aload_n 0, 1) := by decide +kernel
theorem dX8_command_96 : decode cX8_command 96 = .ok (.bipush 32, 2) := by decide +kernel
theorem dX8_command_98 : decode cX8_command 98 = .ok (.invokevirtual 214, 3) := by decide +kernel
theorem dX8_command_101 : decode cX8_command 101 = .ok (.aload_n 0, 1) := by decide +kernel
theorem dX8_command_102 : decode cX8_command 102 = .ok (.getfield 28, 3) := by decide +kernel
theorem dX8_command_105 : decode cX8_command 105 = .ok (.iconst 3, 1) := by decide +kernel
theorem dX8_command_106 : decode cX8_command 106 = .ok (.aload_n 0, 1) := by decide +kernel
theorem dX8_command_107 : decode cX8_command 107 = .ok (.iconst 2, 1) := by decide +kernel
theorem dX8_command_108 : decode cX8_command 108 = .ok (.invokevirtual 211, 3) := by decide +kernel
theorem dX8_command_111 : decode cX8_command 111 = .ok (.iastore, 1) := by decide +kernel
theorem dX8_command_112 : decode cX8_command 112 = .ok (.aload_n 0, 1) := by decide +kernel
theorem dX8_command_113 : decode cX8_command 113 = .ok (.getfield 204, 3) := by decide +kernel
theorem dX8_command_116 : decode cX8_command 116 = .ok (.ifCond .ne 10, 3) := by decide +kernel
theorem dX8_command_119 : decode cX8_command 119 = .ok (.aload_n 0, 1) := by decide +kernel
theorem dX8_command_120 : decode cX8_command 120 = .ok (.getfield 217, 3) := by decide +kernel
theorem dX8_command_123 : decode cX8_command 123 = .ok (.ifCond .ne 4, 3) := by decide +kernel
theorem dX8_command_126 : decode cX8_command 126 = .ok (.return_, 1) := by decide +kernel
theorem dX8_command_127 : decode cX8_command 127 = .ok (.aload_n 0, 1) := by decide +kernel
theorem dX8_command_128 : decode cX8_command 128 = .ok (.iload_n 1, 1) := by decide +kernel
theorem dX8_command_129 : decode cX8_command 129 = .ok (.invokevirtual 220, 3) := by decide +kernel
theorem dX8_command_132 : decode cX8_command 132 = .ok (.istore_n 2, 1) := by decide +kernel
theorem dX8_command_133 : decode cX8_command 133 = .ok (.return_, 1) := by decide +kernel
theorem dX8_commands_0 : decode cX8_commands 0 = .ok (.aload_n 0, 1) := by decide +kernel
theorem dX8_commands_1 : decode cX8_commands 1 = .ok (.iconst 0, 1) := by decide +kernel
theorem dX8_commands_2 : decode cX8_commands 2 = .ok (.putfield 198, 3) := by decide +kernel
theorem dX8_commands_5 : decode cX8_commands 5 = .ok (.aload_n 0, 1) := by decide +kernel
theorem dX8_commands_6 : decode cX8_commands 6 = .ok (.iconst 0, 1) := by decide +kernel
theorem dX8_commands_7 : decode cX8_commands 7 = .ok (.putfield 204, 3) := by decide +kernel
theorem dX8_commands_10 : decode cX8_commands 10 = .ok (.iconst 1, 1) := by decide +kernel
theorem dX8_commands_11 : decode cX8_commands 11 = .ok (.istore_n 1, 1) := by decide +kernel
theorem dX8_commands_12 : decode cX8_commands 12 = .ok (.aload_n 0, 1) := by decide +kernel
theorem dX8_commands_13 : decode cX8_commands 13 = .ok (.invokevirtual 223, 3) := by decide +kernel
theorem dX8_commands_16 : decode cX8_commands 16 = .ok (.aload_n 0, 1) := by decide +kernel
theorem dX8_commands_17 : decode cX8_commands 17 = .ok (.getfield 204, 3) := by decide +kernel
theorem dX8_commands_20 : decode cX8_commands 20 = .ok (.ifCond .ne 44, 3) := by decide +kernel
theorem dX8_commands_23 : decode cX8_commands 23 = .ok (.aload_n 0, 1) := by decide +kernel
theorem dX8_commands_24 : decode cX8_commands 24 = .ok (.getfield 38, 3) := by decide +kernel
theorem dX8_commands_27 : decode cX8_commands 27 = .ok (.ifCond .ne 37, 3) := by decide +kernel
theorem dX8_commands_30 : decode cX8_commands 30 = .ok (.aload_n 0, 1) := by decide +kernel
theorem dX8_commands_31 : decode cX8_commands 31 = .ok (.getfield 198, 3) := by decide +kernel
theorem dX8_commands_34 : decode cX8_commands 34 = .ok (.aload_n 0, 1) := by decide +kernel
theorem dX8_commands_35 : decode cX8_commands 35 = .ok (.getfield 195, 3) := by decide +kernel
theorem dX8_commands_38 : decode cX8_commands 38 = .ok (.if_icmp .ge 26, 3) := by decide +kernel
theorem dX8_commands_41 : decode cX8_commands 41 = .ok (.aload_n 0, 1) := by decide +kernel
theorem dX8_commands_42 : decode cX8_commands 42 = .ok (.bipush 59, 2) := by decide +kernel
theorem dX8_commands_44 : decode cX8_commands 44 = .ok (.invokevirtual 214, 3) := by decide +kernel
theorem dX8_commands_47 : decode cX8_commands 47 = .ok (.aload_n 0, 1) := by decide +kernel
theorem dX8_commands_48 : decode cX8_commands 48 = .ok (.getfield 204, 3) := by decide +kernel
theorem dX8_commands_51 : decode cX8_commands 51 = .ok (.ifCond .ne 7, 3) := by decide +kernel
theorem dX8_commands_54 : decode cX8_commands 54 = .ok (.aload_n 0, 1) := by decide +kernel
theorem dX8_commands_55 : decode cX8_commands 55 = .ok (.invokevirtual 223, 3) := by decide +kernel
theorem dX8_commands_58 : decode cX8_commands 58 = .ok (.iinc 1 1, 3) := by decide +kernel
theorem dX8_commands_61 : decode cX8_commands 61 = .ok (.goto (-45), 3) := by decide +kernel
theorem dX8_commands_64 : decode cX8_commands 64 = .ok (.iload_n 1, 1) := by decide +kernel
theorem dX8_commands_65 : decode cX8_commands 65 = .ok (.ireturn, 1) := by decide +kernel
theorem dX8_perform_0 : decode cX8_perform 0 = .ok (.aload_n 0, 1) := by decide +kernel
theorem dX8_perform_1 : decode cX8_perform 1 = .ok (.invokevirtual 85, 3) := by decide +kernel
theorem dX8_perform_4 : decode cX8_perform 4 = .ok (.aload_n 0, 1) := by decide +kernel
theorem dX8_perform_5 : decode cX8_perform 5 = .ok (.iconst 0, 1) := by decide +kernel
theorem dX8_perform_6 : decode cX8_perform 6 = .ok (.putfield 217, 3) := by decide +kernel
theorem dX8_perform_9 : decode cX8_perform 9 = .ok (.aload_n 0, 1) := by decide +kernel
theorem dX8_perform_10 : decode cX8_perform 10 = .ok (.invokevirtual 226, 3) := by decide +kernel
theorem dX8_perform_13 : decode cX8_perform 13 = .ok (.istore_n 1, 1) := by decide +kernel
theorem dX8_perform_14 : decode cX8_perform 14 = .ok (.aload_n 0, 1) := by decide +kernel
theorem dX8_perform_15 : decode cX8_perform 15 = .ok (.getfield 204, 3) := by decide +kernel
theorem dX8_perform_18 : decode cX8_perform 18 = .ok (.ifCond .eq 16, 3) := by decide +kernel
theorem dX8_perform_21 : decode cX8_perform 21 = .ok (.aload_n 0, 1) := by decide +kernel
theorem dX8_perform_22 : decode cX8_perform 22 = .ok (.iconst 0, 1) := by decide +kernel
theorem dX8_perform_23 : decode cX8_perform 23 = .ok (.putfield 195, 3) := by decide +kernel
theorem dX8_perform_26 : decode cX8_perform 26 = .ok (.bipush (-100), 2) := by decide +kernel
theorem dX8_perform_28 : decode cX8_perform 28 = .ok (.aload_n 0, 1) := by decide +kernel
theorem dX8_perform_29 : decode cX8_perform 29 = .ok (.getfield 198, 3) := by decide +kernel
theorem dX8_perform_32 : decode cX8_perform 32 = .ok (.isub, 1) := by decide +kernel
theorem dX8_perform_33 : decode cX8_perform 33 = .ok (.ireturn, 1) := by decide +kernel
theorem dX8_perform_34 : decode cX8_perform 34 = .ok (.aload_n 0, 1) := by decide +kernel
theorem dX8_perform_35 : decode cX8_perform 35 = .ok (.iconst 1, 1) := by decide +kernel
theorem dX8_perform_36 : decode cX8_perform 36 = .ok (.putfield 217, 3) := by decide +kernel
theorem dX8_perform_39 : decode cX8_perform 39 = .ok (.aload_n 0, 1) := by decide +kernel
theorem dX8_perform_40 : decode cX8_perform 40 = .ok (.invokevirtual 226, 3) := by decide +kernel
theorem dX8_perform_43 : decode cX8_perform 43 = .ok (.istore_n 1, 1) := by decide +kernel
theorem dX8_perform_44 : decode cX8_perform 44 = .ok (.aload_n 0, 1) := by decide +kernel
theorem dX8_perform_45 : decode cX8_perform 45 = .ok (.iconst 0, 1) := by decide +kernel
theorem dX8_perform_46 : decode cX8_perform 46 = .ok (.putfield 195, 3) := by decide +kernel
theorem dX8_perform_49 : decode cX8_perform 49 = .ok (.aload_n 0, 1) := by decide +kernel
theorem dX8_perform_50 : decode cX8_perform 50 = .ok (.getfield 38, 3) := by decide +kernel
theorem dX8_perform_53 : decode cX8_perform 53 = .ok (.ifCond .eq 13, 3) := by decide +kernel
theorem dX8_perform_56 : decode cX8_perform 56 = .ok (.aload_n 0, 1) := by decide +kernel
theorem dX8_perform_57 : decode cX8_perform 57 = .ok (.bipush 19, 2) := by decide +kernel
theorem dX8_perform_59 : decode cX8_perform 59 = .ok (.iload_n 1, 1) := by decide +kernel
theorem dX8_perform_60 : decode cX8_perform 60 = .ok (.iconst 1, 1) := by decide +kernel
theorem dX8_perform_61 : decode cX8_perform 61 = .ok (.isub, 1) := by decide +kernel
theorem dX8_perform_62 : decode cX8_perform 62 = .ok (.invokevirtual 82, 3) := by decide +kernel
theorem dX8_perform_65 : decode cX8_perform 65 = .ok (.istore_n 1, 1) := by decide +kernel
theorem dX8_perform_66 : decode cX8_perform 66 = .ok (.aload_n 0, 1) := by decide +kernel
theorem dX8_perform_67 : decode cX8_perform 67 = .ok (.iload_n 1, 1) := by decide +kernel
theorem dX8_perform_68 : decode cX8_perform 68 = .ok (.iconst 0, 1) := by decide +kernel
theorem dX8_perform_69 : decode cX8_perform 69 = .ok (.iconst 0, 1) := by decide +kernel
theorem dX8_perform_70 : decode cX8_perform 70 = .ok (.iconst 1, 1) := by decide +kernel
theorem dX8_perform_71 : decode cX8_perform 71 = .ok (.invokevirtual 92, 3) := by decide +kernel
theorem dX8_perform_74 : decode cX8_perform 74 = .ok (.ireturn, 1) := by decide +kernel
theorem dX8_undo_0 : decode cX8_undo 0 = .ok (.aload_n 0, 1) := by decide +kernel
theorem dX8_undo_1 : decode cX8_undo 1 = .ok (.iconst 0, 1) := by decide +kernel
theorem dX8_undo_2 : decode cX8_undo 2 = .ok (.putfield 34, 3) := by decide +kernel
theorem dX8_undo_5 : decode cX8_undo 5 = .ok (.aload_n 0, 1) := by decide +kernel
theorem dX8_undo_6 : decode cX8_undo 6 = .ok (.getfield 64, 3) := by decide +kernel
theorem dX8_undo_9 : decode cX8_undo 9 = .ok (.ifCond .ne 9, 3) := by decide +kernel
theorem dX8_undo_12 : decode cX8_undo 12 = .ok (.aload_n 0, 1) := by decide +kernel
theorem dX8_undo_13 : decode cX8_undo 13 = .ok (.iconst 1, 1) := by decide +kernel
theorem dX8_undo_14 : decode cX8_undo 14 = .ok (.invokevirtual 61, 3) := by decide +kernel
theorem dX8_undo_17 : decode cX8_undo 17 = .ok (.ireturn, 1) := by decide +kernel
theorem dX8_undo_18 : decode cX8_undo 18 = .ok (.aload_n 0, 1) := by decide +kernel
theorem dX8_undo_19 : decode cX8_undo 19 = .ok (.dup, 1) := by decide +kernel
theorem dX8_undo_20 : decode cX8_undo 20 = .ok (.getfield 64, 3) := by decide +kernel
theorem dX8_undo_23 : decode cX8_undo 23 = .ok (.iconst 1, 1) := by decide +kernel
theorem dX8_undo_24 : decode cX8_undo 24 = .ok (.isub, 1) := by decide +kernel
theorem dX8_undo_25 : decode cX8_undo 25 = .ok (.putfield 64, 3) := by decide +kernel
theorem dX8_undo_28 : decode cX8_undo 28 = .ok (.iconst 0, 1) := by decide +kernel
theorem dX8_undo_29 : decode cX8_undo 29 = .ok (.istore_n 1, 1) := by decide +kernel
theorem dX8_undo_30 : decode cX8_undo 30 = .ok (.iload_n 1, 1) := by decide +kernel
theorem dX8_undo_31 : decode cX8_undo 31 = .ok (.sipush 208, 3) := by decide +kernel
theorem dX8_undo_34 : decode cX8_undo 34 = .ok (.if_icmp .ge 30, 3) := by decide +kernel
theorem dX8_undo_37 : decode cX8_undo 37 = .ok (.aload_n 0, 1) := by decide +kernel
theorem dX8_undo_38 : decode cX8_undo 38 = .ok (.getfield 7, 3) := by decide +kernel
theorem dX8_undo_41 : decode cX8_undo 41 = .ok (.iload_n 1, 1) := by decide +kernel
theorem dX8_undo_42 : decode cX8_undo 42 = .ok (.aload_n 0, 1) := by decide +kernel
theorem dX8_undo_43 : decode cX8_undo 43 = .ok (.getfield 19, 3) := by decide +kernel
theorem dX8_undo_46 : decode cX8_undo 46 = .ok (.aload_n 0, 1) := by decide +kernel
theorem dX8_undo_47 : decode cX8_undo 47 = .ok (.getfield 64, 3) := by decide +kernel
theorem dX8_undo_50 : decode cX8_undo 50 = .ok (.sipush 208, 3) := by decide +kernel
theorem dX8_undo_53 : decode cX8_undo 53 = .ok (.imul, 1) := by decide +kernel
theorem dX8_undo_54 : decode cX8_undo 54 = .ok (.iload_n 1, 1) := by decide +kernel
theorem dX8_undo_55 : decode cX8_undo 55 = .ok (.iadd, 1) := by decide +kernel
theorem dX8_undo_56 : decode cX8_undo 56 = .ok (.iaload, 1) := by decide +kernel
theorem dX8_undo_57 : decode cX8_undo 57 = .ok (.iastore, 1) := by decide +kernel
theorem dX8_undo_58 : decode cX8_undo 58 = .ok (.iinc 1 1, 3) := by decide +kernel
theorem dX8_undo_61 : decode cX8_undo 61 = .ok (.goto (-31), 3) := by decide +kernel
theorem dX8_undo_64 : decode cX8_undo 64 = .ok (.aload_n 0, 1) := by decide +kernel
theorem dX8_undo_65 : decode cX8_undo 65 = .ok (.getfield 64, 3) := by decide +kernel
theorem dX8_undo_68 : decode cX8_undo 68 = .ok (.ireturn, 1) := by decide +kernel
theorem dX8_save_0 : decode cX8_save 0 = .ok (.aload_n 0, 1) := by decide +kernel
theorem dX8_save_1 : decode cX8_save 1 = .ok (.iconst 0, 1) := by decide +kernel
theorem dX8_save_2 : decode cX8_save 2 = .ok (.putfield 34, 3) := by decide +kernel
theorem dX8_save_5 : decode cX8_save 5 = .ok (.aload_n 0, 1) := by decide +kernel
theorem dX8_save_6 : decode cX8_save 6 = .ok (.getfield 16, 3) := by decide +kernel
theorem dX8_save_9 : decode cX8_save 9 = .ok (.aload_n 0, 1) := by decide +kernel
theorem dX8_save_10 : decode cX8_save 10 = .ok (.getfield 7, 3) := by decide +kernel
theorem dX8_save_13 : decode cX8_save 13 = .ok (.invokestatic 51, 3) := by decide +kernel
theorem dX8_save_16 : decode cX8_save 16 = .ok (.aload_n 0, 1) := by decide +kernel
theorem dX8_save_17 : decode cX8_save 17 = .ok (.iconst 1, 1) := by decide +kernel
theorem dX8_save_18 : decode cX8_save 18 = .ok (.putfield 229, 3) := by decide +kernel
theorem dX8_save_21 : decode cX8_save 21 = .ok (.aload_n 0, 1) := by decide +kernel
theorem dX8_save_22 : decode cX8_save 22 = .ok (.getfield 7, 3) := by decide +kernel
theorem dX8_save_25 : decode cX8_save 25 = .ok (.iconst 0, 1) := by decide +kernel
theorem dX8_save_26 : decode cX8_save 26 = .ok (.iaload, 1) := by decide +kernel
theorem dX8_save_27 : decode cX8_save 27 = .ok (.ireturn, 1) := by decide +kernel
theorem dX8_restore_0 : decode cX8_restore 0 = .ok (.aload_n 0, 1) := by decide +kernel
theorem dX8_restore_1 : decode cX8_restore 1 = .ok (.iconst 0, 1) := by decide +kernel
theorem dX8_restore_2 : decode cX8_restore 2 = .ok (.putfield 34, 3) := by decide +kernel
theorem dX8_restore_5 : decode cX8_restore 5 = .ok (.aload_n 0, 1) := by decide +kernel
theorem dX8_restore_6 : decode cX8_restore 6 = .ok (.getfield 229, 3) := by decide +kernel
theorem dX8_restore_9 : decode cX8_restore 9 = .ok (.ifCond .ne 9, 3) := by decide +kernel
theorem dX8_restore_12 : decode cX8_restore 12 = .ok (.aload_n 0, 1) := by decide +kernel
theorem dX8_restore_13 : decode cX8_restore 13 = .ok (.iconst 1, 1) := by decide +kernel
theorem dX8_restore_14 : decode cX8_restore 14 = .ok (.invokevirtual 61, 3) := by decide +kernel
theorem dX8_restore_17 : decode cX8_restore 17 = .ok (.ireturn, 1) := by decide +kernel
theorem dX8_restore_18 : decode cX8_restore 18 = .ok (.aload_n 0, 1) := by decide +kernel
theorem dX8_restore_19 : decode cX8_restore 19 = .ok (.getfield 7, 3) := by decide +kernel
theorem dX8_restore_22 : decode cX8_restore 22 = .ok (.aload_n 0, 1) := by decide +kernel
theorem dX8_restore_23 : decode cX8_restore 23 = .ok (.getfield 16, 3) := by decide +kernel
theorem dX8_restore_26 : decode cX8_restore 26 = .ok (.invokestatic 51, 3) := by decide +kernel
theorem dX8_restore_29 : decode cX8_restore 29 = .ok (.aload_n 0, 1) := by decide +kernel
theorem dX8_restore_30 : decode cX8_restore 30 = .ok (.iconst 0, 1) := by decide +kernel
theorem dX8_restore_31 : decode cX8_restore 31 = .ok (.putfield 64, 3) := by decide +kernel
theorem dX8_restore_34 : decode cX8_restore 34 = .ok (.aload_n 0, 1) := by decide +kernel
theorem dX8_restore_35 : decode cX8_restore 35 = .ok (.getfield 7, 3) := by decide +kernel
theorem dX8_restore_38 : decode cX8_restore 38 = .ok (.iconst 0, 1) := by decide +kernel
theorem dX8_restore_39 : decode cX8_restore 39 = .ok (.iaload, 1) := by decide +kernel
theorem dX8_restore_40 : decode cX8_restore 40 = .ok (.ireturn, 1) := by decide +kernel
