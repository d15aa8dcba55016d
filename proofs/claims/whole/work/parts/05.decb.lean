/-! what the bytes say -/
theorem dM_init_0 : decode mM_init.2.1 0 = .ok (.aload_n 0, 1) := by decide +kernel
theorem dM_init_1 : decode mM_init.2.1 1 = .ok (.invokespecial 1, 3) := by decide +kernel
theorem dM_init_4 : decode mM_init.2.1 4 = .ok (.aload_n 0, 1) := by decide +kernel
theorem dM_init_5 : decode mM_init.2.1 5 = .ok (.iconst 0, 1) := by decide +kernel
theorem dM_init_6 : decode mM_init.2.1 6 = .ok (.putfield 7, 3) := by decide +kernel
theorem dM_init_9 : decode mM_init.2.1 9 = .ok (.aload_n 0, 1) := by decide +kernel
theorem dM_init_10 : decode mM_init.2.1 10 = .ok (.iconst 0, 1) := by decide +kernel
theorem dM_init_11 : decode mM_init.2.1 11 = .ok (.putfield 13, 3) := by decide +kernel
theorem dM_init_14 : decode mM_init.2.1 14 = .ok (.aload_n 0, 1) := by decide +kernel
theorem dM_init_15 : decode mM_init.2.1 15 = .ok (.iconst 0, 1) := by decide +kernel
theorem dM_init_16 : decode mM_init.2.1 16 = .ok (.putfield 16, 3) := by decide +kernel
theorem dM_init_19 : decode mM_init.2.1 19 = .ok (.aload_n 0, 1) := by decide +kernel
theorem dM_init_20 : decode mM_init.2.1 20 = .ok (.iconst 0, 1) := by decide +kernel
theorem dM_init_21 : decode mM_init.2.1 21 = .ok (.putfield 19, 3) := by decide +kernel
theorem dM_init_24 : decode mM_init.2.1 24 = .ok (.aload_n 0, 1) := by decide +kernel
theorem dM_init_25 : decode mM_init.2.1 25 = .ok (.bipush 6, 2) := by decide +kernel
theorem dM_init_27 : decode mM_init.2.1 27 = .ok (.newarray .int, 2) := by decide +kernel
theorem dM_init_29 : decode mM_init.2.1 29 = .ok (.putfield 22, 3) := by decide +kernel
theorem dM_init_32 : decode mM_init.2.1 32 = .ok (.aload_n 0, 1) := by decide +kernel
theorem dM_init_33 : decode mM_init.2.1 33 = .ok (.bipush 8, 2) := by decide +kernel
theorem dM_init_35 : decode mM_init.2.1 35 = .ok (.newarray .int, 2) := by decide +kernel
theorem dM_init_37 : decode mM_init.2.1 37 = .ok (.putfield 26, 3) := by decide +kernel
theorem dM_init_40 : decode mM_init.2.1 40 = .ok (.aload_n 0, 1) := by decide +kernel
theorem dM_init_41 : decode mM_init.2.1 41 = .ok (.bipush 8, 2) := by decide +kernel
theorem dM_init_43 : decode mM_init.2.1 43 = .ok (.newarray .int, 2) := by decide +kernel
theorem dM_init_45 : decode mM_init.2.1 45 = .ok (.putfield 29, 3) := by decide +kernel
theorem dM_init_48 : decode mM_init.2.1 48 = .ok (.aload_n 0, 1) := by decide +kernel
theorem dM_init_49 : decode mM_init.2.1 49 = .ok (.bipush 8, 2) := by decide +kernel
theorem dM_init_51 : decode mM_init.2.1 51 = .ok (.newarray .int, 2) := by decide +kernel
theorem dM_init_53 : decode mM_init.2.1 53 = .ok (.putfield 32, 3) := by decide +kernel
theorem dM_init_56 : decode mM_init.2.1 56 = .ok (.aload_n 0, 1) := by decide +kernel
theorem dM_init_57 : decode mM_init.2.1 57 = .ok (.bipush 8, 2) := by decide +kernel
theorem dM_init_59 : decode mM_init.2.1 59 = .ok (.newarray .int, 2) := by decide +kernel
theorem dM_init_61 : decode mM_init.2.1 61 = .ok (.putfield 35, 3) := by decide +kernel
theorem dM_init_64 : decode mM_init.2.1 64 = .ok (.aload_n 0, 1) := by decide +kernel
theorem dM_init_65 : decode mM_init.2.1 65 = .ok (.bipush 8, 2) := by decide +kernel
theorem dM_init_67 : decode mM_init.2.1 67 = .ok (.newarray .int, 2) := by decide +kernel
theorem dM_init_69 : decode mM_init.2.1 69 = .ok (.putfield 38, 3) := by decide +kernel
theorem dM_init_72 : decode mM_init.2.1 72 = .ok (.aload_n 0, 1) := by decide +kernel
theorem dM_init_73 : decode mM_init.2.1 73 = .ok (.bipush 32, 2) := by decide +kernel
theorem dM_init_75 : decode mM_init.2.1 75 = .ok (.newarray .int, 2) := by decide +kernel
theorem dM_init_77 : decode mM_init.2.1 77 = .ok (.putfield 41, 3) := by decide +kernel
theorem dM_init_80 : decode mM_init.2.1 80 = .ok (.aload_n 0, 1) := by decide +kernel
theorem dM_init_81 : decode mM_init.2.1 81 = .ok (.iconst 0, 1) := by decide +kernel
theorem dM_init_82 : decode mM_init.2.1 82 = .ok (.putfield 44, 3) := by decide +kernel
theorem dM_init_85 : decode mM_init.2.1 85 = .ok (.aload_n 0, 1) := by decide +kernel
theorem dM_init_86 : decode mM_init.2.1 86 = .ok (.iconst (-1), 1) := by decide +kernel
theorem dM_init_87 : decode mM_init.2.1 87 = .ok (.putfield 47, 3) := by decide +kernel
theorem dM_init_90 : decode mM_init.2.1 90 = .ok (.aload_n 0, 1) := by decide +kernel
theorem dM_init_91 : decode mM_init.2.1 91 = .ok (.iconst 0, 1) := by decide +kernel
theorem dM_init_92 : decode mM_init.2.1 92 = .ok (.putfield 50, 3) := by decide +kernel
theorem dM_init_95 : decode mM_init.2.1 95 = .ok (.aload_n 0, 1) := by decide +kernel
theorem dM_init_96 : decode mM_init.2.1 96 = .ok (.iconst 0, 1) := by decide +kernel
theorem dM_init_97 : decode mM_init.2.1 97 = .ok (.putfield 53, 3) := by decide +kernel
theorem dM_init_100 : decode mM_init.2.1 100 = .ok (.aload_n 0, 1) := by decide +kernel
theorem dM_init_101 : decode mM_init.2.1 101 = .ok (.iconst 0, 1) := by decide +kernel
theorem dM_init_102 : decode mM_init.2.1 102 = .ok (.putfield 56, 3) := by decide +kernel
theorem dM_init_105 : decode mM_init.2.1 105 = .ok (.aload_n 0, 1) := by decide +kernel
theorem dM_init_106 : decode mM_init.2.1 106 = .ok (.bipush 100, 2) := by decide +kernel
theorem dM_init_108 : decode mM_init.2.1 108 = .ok (.newarray .int, 2) := by decide +kernel
theorem dM_init_110 : decode mM_init.2.1 110 = .ok (.putfield 59, 3) := by decide +kernel
theorem dM_init_113 : decode mM_init.2.1 113 = .ok (.aload_n 0, 1) := by decide +kernel
theorem dM_init_114 : decode mM_init.2.1 114 = .ok (.bipush 6, 2) := by decide +kernel
theorem dM_init_116 : decode mM_init.2.1 116 = .ok (.newarray .int, 2) := by decide +kernel
theorem dM_init_118 : decode mM_init.2.1 118 = .ok (.putfield 62, 3) := by decide +kernel
theorem dM_init_121 : decode mM_init.2.1 121 = .ok (.aload_n 0, 1) := by decide +kernel
theorem dM_init_122 : decode mM_init.2.1 122 = .ok (.bipush 60, 2) := by decide +kernel
theorem dM_init_124 : decode mM_init.2.1 124 = .ok (.newarray .int, 2) := by decide +kernel
theorem dM_init_126 : decode mM_init.2.1 126 = .ok (.putfield 65, 3) := by decide +kernel
theorem dM_init_129 : decode mM_init.2.1 129 = .ok (.aload_n 0, 1) := by decide +kernel
theorem dM_init_130 : decode mM_init.2.1 130 = .ok (.bipush 60, 2) := by decide +kernel
theorem dM_init_132 : decode mM_init.2.1 132 = .ok (.newarray .int, 2) := by decide +kernel
theorem dM_init_134 : decode mM_init.2.1 134 = .ok (.putfield 68, 3) := by decide +kernel
theorem dM_init_137 : decode mM_init.2.1 137 = .ok (.aload_n 0, 1) := by decide +kernel
theorem dM_init_138 : decode mM_init.2.1 138 = .ok (.bipush 60, 2) := by decide +kernel
theorem dM_init_140 : decode mM_init.2.1 140 = .ok (.newarray .int, 2) := by decide +kernel
theorem dM_init_142 : decode mM_init.2.1 142 = .ok (.putfield 71, 3) := by decide +kernel
theorem dM_init_145 : decode mM_init.2.1 145 = .ok (.aload_n 0, 1) := by decide +kernel
theorem dM_init_146 : decode mM_init.2.1 146 = .ok (.bipush 60, 2) := by decide +kernel
theorem dM_init_148 : decode mM_init.2.1 148 = .ok (.newarray .int, 2) := by decide +kernel
theorem dM_init_150 : decode mM_init.2.1 150 = .ok (.putfield 74, 3) := by decide +kernel
theorem dM_init_153 : decode mM_init.2.1 153 = .ok (.aload_n 0, 1) := by decide +kernel
theorem dM_init_154 : decode mM_init.2.1 154 = .ok (.sipush 600, 3) := by decide +kernel
theorem dM_init_157 : decode mM_init.2.1 157 = .ok (.newarray .int, 2) := by decide +kernel
theorem dM_init_159 : decode mM_init.2.1 159 = .ok (.putfield 77, 3) := by decide +kernel
theorem dM_init_162 : decode mM_init.2.1 162 = .ok (.aload_n 0, 1) := by decide +kernel
theorem dM_init_163 : decode mM_init.2.1 163 = .ok (.bipush 101, 2) := by decide +kernel
theorem dM_init_165 : decode mM_init.2.1 165 = .ok (.newarray .int, 2) := by decide +kernel
theorem dM_init_167 : decode mM_init.2.1 167 = .ok (.putfield 80, 3) := by decide +kernel
theorem dM_init_170 : decode mM_init.2.1 170 = .ok (.aload_n 0, 1) := by decide +kernel
theorem dM_init_171 : decode mM_init.2.1 171 = .ok (.iconst 0, 1) := by decide +kernel
theorem dM_init_172 : decode mM_init.2.1 172 = .ok (.putfield 83, 3) := by decide +kernel
theorem dM_init_175 : decode mM_init.2.1 175 = .ok (.aload_n 0, 1) := by decide +kernel
theorem dM_init_176 : decode mM_init.2.1 176 = .ok (.iconst 0, 1) := by decide +kernel
theorem dM_init_177 : decode mM_init.2.1 177 = .ok (.putfield 86, 3) := by decide +kernel
theorem dM_init_180 : decode mM_init.2.1 180 = .ok (.aload_n 0, 1) := by decide +kernel
theorem dM_init_181 : decode mM_init.2.1 181 = .ok (.iconst 0, 1) := by decide +kernel
theorem dM_init_182 : decode mM_init.2.1 182 = .ok (.putfield 89, 3) := by decide +kernel
theorem dM_init_185 : decode mM_init.2.1 185 = .ok (.aload_n 0, 1) := by decide +kernel
theorem dM_init_186 : decode mM_init.2.1 186 = .ok (.bipush 11, 2) := by decide +kernel
theorem dM_init_188 : decode mM_init.2.1 188 = .ok (.newarray .int, 2) := by decide +kernel
theorem dM_init_190 : decode mM_init.2.1 190 = .ok (.dup, 1) := by decide +kernel
theorem dM_init_191 : decode mM_init.2.1 191 = .ok (.iconst 0, 1) := by decide +kernel
theorem dM_init_192 : decode mM_init.2.1 192 = .ok (.bipush 109, 2) := by decide +kernel
theorem dM_init_194 : decode mM_init.2.1 194 = .ok (.iastore, 1) := by decide +kernel
theorem dM_init_195 : decode mM_init.2.1 195 = .ok (.dup, 1) := by decide +kernel
theorem dM_init_196 : decode mM_init.2.1 196 = .ok (.iconst 1, 1) := by decide +kernel
theorem dM_init_197 : decode mM_init.2.1 197 = .ok (.bipush 111, 2) := by decide +kernel
theorem dM_init_199 : decode mM_init.2.1 199 = .ok (.iastore, 1) := by decide +kernel
theorem dM_init_200 : decode mM_init.2.1 200 = .ok (.dup, 1) := by decide +kernel
theorem dM_init_201 : decode mM_init.2.1 201 = .ok (.iconst 2, 1) := by decide +kernel
theorem dM_init_202 : decode mM_init.2.1 202 = .ok (.bipush 114, 2) := by decide +kernel
theorem dM_init_204 : decode mM_init.2.1 204 = .ok (.iastore, 1) := by decide +kernel
theorem dM_init_205 : decode mM_init.2.1 205 = .ok (.dup, 1) := by decide +kernel
theorem dM_init_206 : decode mM_init.2.1 206 = .ok (.iconst 3, 1) := by decide +kernel
theorem dM_init_207 : decode mM_init.2.1 207 = .ok (.bipush 101, 2) := by decide +kernel
theorem dM_init_209 : decode mM_init.2.1 209 = .ok (.iastore, 1) := by decide +kernel
theorem dM_init_210 : decode mM_init.2.1 210 = .ok (.dup, 1) := by decide +kernel
theorem dM_init_211 : decode mM_init.2.1 211 = .ok (.iconst 4, 1) := by decide +kernel
theorem dM_init_212 : decode mM_init.2.1 212 = .ok (.bipush 116, 2) := by decide +kernel
theorem dM_init_214 : decode mM_init.2.1 214 = .ok (.iastore, 1) := by decide +kernel
theorem dM_init_215 : decode mM_init.2.1 215 = .ok (.dup, 1) := by decide +kernel
theorem dM_init_216 : decode mM_init.2.1 216 = .ok (.iconst 5, 1) := by decide +kernel
theorem dM_init_217 : decode mM_init.2.1 217 = .ok (.bipush 97, 2) := by decide +kernel
theorem dM_init_219 : decode mM_init.2.1 219 = .ok (.iastore, 1) := by decide +kernel
theorem dM_init_220 : decode mM_init.2.1 220 = .ok (.dup, 1) := by decide +kernel
theorem dM_init_221 : decode mM_init.2.1 221 = .ok (.bipush 6, 2) := by decide +kernel
theorem dM_init_223 : decode mM_init.2.1 223 = .ok (.bipush 120, 2) := by decide +kernel
theorem dM_init_225 : decode mM_init.2.1 225 = .ok (.iastore, 1) := by decide +kernel
theorem dM_init_226 : decode mM_init.2.1 226 = .ok (.dup, 1) := by decide +kernel
theorem dM_init_227 : decode mM_init.2.1 227 = .ok (.bipush 7, 2) := by decide +kernel
theorem dM_init_229 : decode mM_init.2.1 229 = .ok (.bipush 98, 2) := by decide +kernel
theorem dM_init_231 : decode mM_init.2.1 231 = .ok (.iastore, 1) := by decide +kernel
theorem dM_init_232 : decode mM_init.2.1 232 = .ok (.dup, 1) := by decide +kernel
theorem dM_init_233 : decode mM_init.2.1 233 = .ok (.bipush 8, 2) := by decide +kernel
theorem dM_init_235 : decode mM_init.2.1 235 = .ok (.bipush 97, 2) := by decide +kernel
theorem dM_init_237 : decode mM_init.2.1 237 = .ok (.iastore, 1) := by decide +kernel
theorem dM_init_238 : decode mM_init.2.1 238 = .ok (.dup, 1) := by decide +kernel
theorem dM_init_239 : decode mM_init.2.1 239 = .ok (.bipush 9, 2) := by decide +kernel
theorem dM_init_241 : decode mM_init.2.1 241 = .ok (.bipush 115, 2) := by decide +kernel
theorem dM_init_243 : decode mM_init.2.1 243 = .ok (.iastore, 1) := by decide +kernel
theorem dM_init_244 : decode mM_init.2.1 244 = .ok (.dup, 1) := by decide +kernel
theorem dM_init_245 : decode mM_init.2.1 245 = .ok (.bipush 10, 2) := by decide +kernel
theorem dM_init_247 : decode mM_init.2.1 247 = .ok (.bipush 101, 2) := by decide +kernel
theorem dM_init_249 : decode mM_init.2.1 249 = .ok (.iastore, 1) := by decide +kernel
theorem dM_init_250 : decode mM_init.2.1 250 = .ok (.putfield 92, 3) := by decide +kernel
theorem dM_init_253 : decode mM_init.2.1 253 = .ok (.aload_n 0, 1) := by decide +kernel
theorem dM_init_254 : decode mM_init.2.1 254 = .ok (.bipush 100, 2) := by decide +kernel
theorem dM_init_256 : decode mM_init.2.1 256 = .ok (.newarray .boolean, 2) := by decide +kernel
theorem dM_init_258 : decode mM_init.2.1 258 = .ok (.putfield 95, 3) := by decide +kernel
theorem dM_init_261 : decode mM_init.2.1 261 = .ok (.aload_n 0, 1) := by decide +kernel
theorem dM_init_262 : decode mM_init.2.1 262 = .ok (.bipush 48, 2) := by decide +kernel
theorem dM_init_264 : decode mM_init.2.1 264 = .ok (.newarray .int, 2) := by decide +kernel
theorem dM_init_266 : decode mM_init.2.1 266 = .ok (.putfield 99, 3) := by decide +kernel
theorem dM_init_269 : decode mM_init.2.1 269 = .ok (.aload_n 0, 1) := by decide +kernel
theorem dM_init_270 : decode mM_init.2.1 270 = .ok (.iconst 0, 1) := by decide +kernel
theorem dM_init_271 : decode mM_init.2.1 271 = .ok (.putfield 102, 3) := by decide +kernel
theorem dM_init_274 : decode mM_init.2.1 274 = .ok (.aload_n 0, 1) := by decide +kernel
theorem dM_init_275 : decode mM_init.2.1 275 = .ok (.bipush 8, 2) := by decide +kernel
theorem dM_init_277 : decode mM_init.2.1 277 = .ok (.newarray .int, 2) := by decide +kernel
theorem dM_init_279 : decode mM_init.2.1 279 = .ok (.putfield 105, 3) := by decide +kernel
theorem dM_init_282 : decode mM_init.2.1 282 = .ok (.aload_n 0, 1) := by decide +kernel
theorem dM_init_283 : decode mM_init.2.1 283 = .ok (.bipush 8, 2) := by decide +kernel
theorem dM_init_285 : decode mM_init.2.1 285 = .ok (.newarray .boolean, 2) := by decide +kernel
theorem dM_init_287 : decode mM_init.2.1 287 = .ok (.putfield 108, 3) := by decide +kernel
theorem dM_init_290 : decode mM_init.2.1 290 = .ok (.aload_n 0, 1) := by decide +kernel
theorem dM_init_291 : decode mM_init.2.1 291 = .ok (.iconst 0, 1) := by decide +kernel
theorem dM_init_292 : decode mM_init.2.1 292 = .ok (.putfield 111, 3) := by decide +kernel
theorem dM_init_295 : decode mM_init.2.1 295 = .ok (.aload_n 0, 1) := by decide +kernel
theorem dM_init_296 : decode mM_init.2.1 296 = .ok (.bipush 8, 2) := by decide +kernel
theorem dM_init_298 : decode mM_init.2.1 298 = .ok (.newarray .int, 2) := by decide +kernel
theorem dM_init_300 : decode mM_init.2.1 300 = .ok (.putfield 114, 3) := by decide +kernel
theorem dM_init_303 : decode mM_init.2.1 303 = .ok (.aload_n 0, 1) := by decide +kernel
theorem dM_init_304 : decode mM_init.2.1 304 = .ok (.bipush 8, 2) := by decide +kernel
theorem dM_init_306 : decode mM_init.2.1 306 = .ok (.newarray .int, 2) := by decide +kernel
theorem dM_init_308 : decode mM_init.2.1 308 = .ok (.putfield 117, 3) := by decide +kernel
theorem dM_init_311 : decode mM_init.2.1 311 = .ok (.aload_n 0, 1) := by decide +kernel
theorem dM_init_312 : decode mM_init.2.1 312 = .ok (.bipush 8, 2) := by decide +kernel
theorem dM_init_314 : decode mM_init.2.1 314 = .ok (.newarray .int, 2) := by decide +kernel
theorem dM_init_316 : decode mM_init.2.1 316 = .ok (.putfield 120, 3) := by decide +kernel
theorem dM_init_319 : decode mM_init.2.1 319 = .ok (.aload_n 0, 1) := by decide +kernel
theorem dM_init_320 : decode mM_init.2.1 320 = .ok (.iconst 0, 1) := by decide +kernel
theorem dM_init_321 : decode mM_init.2.1 321 = .ok (.putfield 123, 3) := by decide +kernel
theorem dM_init_324 : decode mM_init.2.1 324 = .ok (.aload_n 0, 1) := by decide +kernel
theorem dM_init_325 : decode mM_init.2.1 325 = .ok (.iconst (-1), 1) := by decide +kernel
theorem dM_init_326 : decode mM_init.2.1 326 = .ok (.putfield 127, 3) := by decide +kernel
theorem dM_init_329 : decode mM_init.2.1 329 = .ok (.aload_n 0, 1) := by decide +kernel
theorem dM_init_330 : decode mM_init.2.1 330 = .ok (.iconst 0, 1) := by decide +kernel
theorem dM_init_331 : decode mM_init.2.1 331 = .ok (.putfield 130, 3) := by decide +kernel
theorem dM_init_334 : decode mM_init.2.1 334 = .ok (.aload_n 0, 1) := by decide +kernel
theorem dM_init_335 : decode mM_init.2.1 335 = .ok (.iconst 0, 1) := by decide +kernel
theorem dM_init_336 : decode mM_init.2.1 336 = .ok (.putfield 133, 3) := by decide +kernel
theorem dM_init_339 : decode mM_init.2.1 339 = .ok (.aload_n 0, 1) := by decide +kernel
theorem dM_init_340 : decode mM_init.2.1 340 = .ok (.iconst 0, 1) := by decide +kernel
theorem dM_init_341 : decode mM_init.2.1 341 = .ok (.putfield 136, 3) := by decide +kernel
theorem dM_init_344 : decode mM_init.2.1 344 = .ok (.aload_n 0, 1) := by decide +kernel
theorem dM_init_345 : decode mM_init.2.1 345 = .ok (.iconst 0, 1) := by decide +kernel
theorem dM_init_346 : decode mM_init.2.1 346 = .ok (.putfield 139, 3) := by decide +kernel
theorem dM_init_349 : decode mM_init.2.1 349 = .ok (.aload_n 0, 1) := by decide +kernel
theorem dM_init_350 : decode mM_init.2.1 350 = .ok (.iconst 0, 1) := by decide +kernel
theorem dM_init_351 : decode mM_init.2.1 351 = .ok (.putfield 142, 3) := by decide +kernel
theorem dM_init_354 : decode mM_init.2.1 354 = .ok (.aload_n 0, 1) := by decide +kernel
theorem dM_init_355 : decode mM_init.2.1 355 = .ok (.iconst 0, 1) := by decide +kernel
theorem dM_init_356 : decode mM_init.2.1 356 = .ok (.putfield 145, 3) := by decide +kernel
theorem dM_init_359 : decode mM_init.2.1 359 = .ok (.aload_n 0, 1) := by decide +kernel
theorem dM_init_360 : decode mM_init.2.1 360 = .ok (.bipush 6, 2) := by decide +kernel
theorem dM_init_362 : decode mM_init.2.1 362 = .ok (.newarray .int, 2) := by decide +kernel
theorem dM_init_364 : decode mM_init.2.1 364 = .ok (.putfield 148, 3) := by decide +kernel
theorem dM_init_367 : decode mM_init.2.1 367 = .ok (.aload_n 0, 1) := by decide +kernel
theorem dM_init_368 : decode mM_init.2.1 368 = .ok (.bipush 8, 2) := by decide +kernel
theorem dM_init_370 : decode mM_init.2.1 370 = .ok (.newarray .int, 2) := by decide +kernel
theorem dM_init_372 : decode mM_init.2.1 372 = .ok (.putfield 151, 3) := by decide +kernel
theorem dM_init_375 : decode mM_init.2.1 375 = .ok (.aload_n 0, 1) := by decide +kernel
theorem dM_init_376 : decode mM_init.2.1 376 = .ok (.bipush 8, 2) := by decide +kernel
theorem dM_init_378 : decode mM_init.2.1 378 = .ok (.newarray .int, 2) := by decide +kernel
theorem dM_init_380 : decode mM_init.2.1 380 = .ok (.putfield 154, 3) := by decide +kernel
theorem dM_init_383 : decode mM_init.2.1 383 = .ok (.aload_n 0, 1) := by decide +kernel
theorem dM_init_384 : decode mM_init.2.1 384 = .ok (.bipush 8, 2) := by decide +kernel
theorem dM_init_386 : decode mM_init.2.1 386 = .ok (.newarray .int, 2) := by decide +kernel
theorem dM_init_388 : decode mM_init.2.1 388 = .ok (.putfield 157, 3) := by decide +kernel
theorem dM_init_391 : decode mM_init.2.1 391 = .ok (.aload_n 0, 1) := by decide +kernel
theorem dM_init_392 : decode mM_init.2.1 392 = .ok (.bipush 8, 2) := by decide +kernel
theorem dM_init_394 : decode mM_init.2.1 394 = .ok (.newarray .int, 2) := by decide +kernel
theorem dM_init_396 : decode mM_init.2.1 396 = .ok (.putfield 160, 3) := by decide +kernel
theorem dM_init_399 : decode mM_init.2.1 399 = .ok (.aload_n 0, 1) := by decide +kernel
theorem dM_init_400 : decode mM_init.2.1 400 = .ok (.bipush 8, 2) := by decide +kernel
theorem dM_init_402 : decode mM_init.2.1 402 = .ok (.newarray .int, 2) := by decide +kernel
theorem dM_init_404 : decode mM_init.2.1 404 = .ok (.putfield 163, 3) := by decide +kernel
theorem dM_init_407 : decode mM_init.2.1 407 = .ok (.aload_n 0, 1) := by decide +kernel
theorem dM_init_408 : decode mM_init.2.1 408 = .ok (.bipush 32, 2) := by decide +kernel
theorem dM_init_410 : decode mM_init.2.1 410 = .ok (.newarray .int, 2) := by decide +kernel
theorem dM_init_412 : decode mM_init.2.1 412 = .ok (.putfield 166, 3) := by decide +kernel
theorem dM_init_415 : decode mM_init.2.1 415 = .ok (.aload_n 0, 1) := by decide +kernel
theorem dM_init_416 : decode mM_init.2.1 416 = .ok (.bipush 8, 2) := by decide +kernel
theorem dM_init_418 : decode mM_init.2.1 418 = .ok (.newarray .int, 2) := by decide +kernel
theorem dM_init_420 : decode mM_init.2.1 420 = .ok (.putfield 169, 3) := by decide +kernel
theorem dM_init_423 : decode mM_init.2.1 423 = .ok (.aload_n 0, 1) := by decide +kernel
theorem dM_init_424 : decode mM_init.2.1 424 = .ok (.bipush 8, 2) := by decide +kernel
theorem dM_init_426 : decode mM_init.2.1 426 = .ok (.newarray .int, 2) := by decide +kernel
theorem dM_init_428 : decode mM_init.2.1 428 = .ok (.putfield 172, 3) := by decide +kernel
theorem dM_init_431 : decode mM_init.2.1 431 = .ok (.aload_n 0, 1) := by decide +kernel
theorem dM_init_432 : decode mM_init.2.1 432 = .ok (.bipush 8, 2) := by decide +kernel
theorem dM_init_434 : decode mM_init.2.1 434 = .ok (.newarray .int, 2) := by decide +kernel
theorem dM_init_436 : decode mM_init.2.1 436 = .ok (.putfield 175, 3) := by decide +kernel
theorem dM_init_439 : decode mM_init.2.1 439 = .ok (.aload_n 0, 1) := by decide +kernel
theorem dM_init_440 : decode mM_init.2.1 440 = .ok (.bipush 8, 2) := by decide +kernel
theorem dM_init_442 : decode mM_init.2.1 442 = .ok (.newarray .int, 2) := by decide +kernel
theorem dM_init_444 : decode mM_init.2.1 444 = .ok (.putfield 178, 3) := by decide +kernel
theorem dM_init_447 : decode mM_init.2.1 447 = .ok (.aload_n 0, 1) := by decide +kernel
theorem dM_init_448 : decode mM_init.2.1 448 = .ok (.bipush 8, 2) := by decide +kernel
theorem dM_init_450 : decode mM_init.2.1 450 = .ok (.newarray .boolean, 2) := by decide +kernel
theorem dM_init_452 : decode mM_init.2.1 452 = .ok (.putfield 181, 3) := by decide +kernel
theorem dM_init_455 : decode mM_init.2.1 455 = .ok (.aload_n 0, 1) := by decide +kernel
theorem dM_init_456 : decode mM_init.2.1 456 = .ok (.iconst 0, 1) := by decide +kernel
theorem dM_init_457 : decode mM_init.2.1 457 = .ok (.putfield 184, 3) := by decide +kernel
theorem dM_init_460 : decode mM_init.2.1 460 = .ok (.aload_n 0, 1) := by decide +kernel
theorem dM_init_461 : decode mM_init.2.1 461 = .ok (.bipush 20, 2) := by decide +kernel
theorem dM_init_463 : decode mM_init.2.1 463 = .ok (.newarray .int, 2) := by decide +kernel
theorem dM_init_465 : decode mM_init.2.1 465 = .ok (.putfield 187, 3) := by decide +kernel
theorem dM_init_468 : decode mM_init.2.1 468 = .ok (.aload_n 0, 1) := by decide +kernel
theorem dM_init_469 : decode mM_init.2.1 469 = .ok (.bipush 6, 2) := by decide +kernel
theorem dM_init_471 : decode mM_init.2.1 471 = .ok (.newarray .int, 2) := by decide +kernel
theorem dM_init_473 : decode mM_init.2.1 473 = .ok (.dup, 1) := by decide +kernel
theorem dM_init_474 : decode mM_init.2.1 474 = .ok (.iconst 0, 1) := by decide +kernel
theorem dM_init_475 : decode mM_init.2.1 475 = .ok (.iconst (-1), 1) := by decide +kernel
theorem dM_init_476 : decode mM_init.2.1 476 = .ok (.iastore, 1) := by decide +kernel
theorem dM_init_477 : decode mM_init.2.1 477 = .ok (.dup, 1) := by decide +kernel
theorem dM_init_478 : decode mM_init.2.1 478 = .ok (.iconst 1, 1) := by decide +kernel
theorem dM_init_479 : decode mM_init.2.1 479 = .ok (.iconst (-1), 1) := by decide +kernel
theorem dM_init_480 : decode mM_init.2.1 480 = .ok (.iastore, 1) := by decide +kernel
theorem dM_init_481 : decode mM_init.2.1 481 = .ok (.dup, 1) := by decide +kernel
theorem dM_init_482 : decode mM_init.2.1 482 = .ok (.iconst 2, 1) := by decide +kernel
theorem dM_init_483 : decode mM_init.2.1 483 = .ok (.iconst (-1), 1) := by decide +kernel
theorem dM_init_484 : decode mM_init.2.1 484 = .ok (.iastore, 1) := by decide +kernel
theorem dM_init_485 : decode mM_init.2.1 485 = .ok (.dup, 1) := by decide +kernel
theorem dM_init_486 : decode mM_init.2.1 486 = .ok (.iconst 3, 1) := by decide +kernel
theorem dM_init_487 : decode mM_init.2.1 487 = .ok (.iconst (-1), 1) := by decide +kernel
theorem dM_init_488 : decode mM_init.2.1 488 = .ok (.iastore, 1) := by decide +kernel
theorem dM_init_489 : decode mM_init.2.1 489 = .ok (.dup, 1) := by decide +kernel
theorem dM_init_490 : decode mM_init.2.1 490 = .ok (.iconst 4, 1) := by decide +kernel
theorem dM_init_491 : decode mM_init.2.1 491 = .ok (.iconst (-1), 1) := by decide +kernel
theorem dM_init_492 : decode mM_init.2.1 492 = .ok (.iastore, 1) := by decide +kernel
theorem dM_init_493 : decode mM_init.2.1 493 = .ok (.dup, 1) := by decide +kernel
theorem dM_init_494 : decode mM_init.2.1 494 = .ok (.iconst 5, 1) := by decide +kernel
theorem dM_init_495 : decode mM_init.2.1 495 = .ok (.iconst (-1), 1) := by decide +kernel
theorem dM_init_496 : decode mM_init.2.1 496 = .ok (.iastore, 1) := by decide +kernel
theorem dM_init_497 : decode mM_init.2.1 497 = .ok (.putfield 190, 3) := by decide +kernel
theorem dM_init_500 : decode mM_init.2.1 500 = .ok (.aload_n 0, 1) := by decide +kernel
theorem dM_init_501 : decode mM_init.2.1 501 = .ok (.bipush 6, 2) := by decide +kernel
theorem dM_init_503 : decode mM_init.2.1 503 = .ok (.newarray .int, 2) := by decide +kernel
theorem dM_init_505 : decode mM_init.2.1 505 = .ok (.putfield 193, 3) := by decide +kernel
theorem dM_init_508 : decode mM_init.2.1 508 = .ok (.aload_n 0, 1) := by decide +kernel
theorem dM_init_509 : decode mM_init.2.1 509 = .ok (.sipush 360, 3) := by decide +kernel
theorem dM_init_512 : decode mM_init.2.1 512 = .ok (.newarray .long, 2) := by decide +kernel
theorem dM_init_514 : decode mM_init.2.1 514 = .ok (.putfield 196, 3) := by decide +kernel
theorem dM_init_517 : decode mM_init.2.1 517 = .ok (.aload_n 0, 1) := by decide +kernel
theorem dM_init_518 : decode mM_init.2.1 518 = .ok (.bipush 60, 2) := by decide +kernel
theorem dM_init_520 : decode mM_init.2.1 520 = .ok (.newarray .long, 2) := by decide +kernel
theorem dM_init_522 : decode mM_init.2.1 522 = .ok (.putfield 200, 3) := by decide +kernel
theorem dM_init_525 : decode mM_init.2.1 525 = .ok (.return_, 1) := by decide +kernel
theorem dM_in_0 : decode mM_in.2.1 0 = .ok (.iload_n 1, 1) := by decide +kernel
theorem dM_in_1 : decode mM_in.2.1 1 = .ok (.iload_n 2, 1) := by decide +kernel
theorem dM_in_2 : decode mM_in.2.1 2 = .ok (.if_icmp .lt 12, 3) := by decide +kernel
theorem dM_in_5 : decode mM_in.2.1 5 = .ok (.iload_n 1, 1) := by decide +kernel
theorem dM_in_6 : decode mM_in.2.1 6 = .ok (.iload_n 3, 1) := by decide +kernel
theorem dM_in_7 : decode mM_in.2.1 7 = .ok (.if_icmp .gt 7, 3) := by decide +kernel
theorem dM_in_10 : decode mM_in.2.1 10 = .ok (.iconst 1, 1) := by decide +kernel
theorem dM_in_11 : decode mM_in.2.1 11 = .ok (.goto 4, 3) := by decide +kernel
theorem dM_in_14 : decode mM_in.2.1 14 = .ok (.iconst 0, 1) := by decide +kernel
theorem dM_in_15 : decode mM_in.2.1 15 = .ok (.ireturn, 1) := by decide +kernel
theorem dM_has_0 : decode mM_has.2.1 0 = .ok (.iload_n 1, 1) := by decide +kernel
theorem dM_has_1 : decode mM_has.2.1 1 = .ok (.iload_n 2, 1) := by decide +kernel
theorem dM_has_2 : decode mM_has.2.1 2 = .ok (.ishr, 1) := by decide +kernel
theorem dM_has_3 : decode mM_has.2.1 3 = .ok (.iconst 1, 1) := by decide +kernel
theorem dM_has_4 : decode mM_has.2.1 4 = .ok (.iand, 1) := by decide +kernel
theorem dM_has_5 : decode mM_has.2.1 5 = .ok (.iconst 1, 1) := by decide +kernel
theorem dM_has_6 : decode mM_has.2.1 6 = .ok (.if_icmp .ne 7, 3) := by decide +kernel
theorem dM_has_9 : decode mM_has.2.1 9 = .ok (.iconst 1, 1) := by decide +kernel
theorem dM_has_10 : decode mM_has.2.1 10 = .ok (.goto 4, 3) := by decide +kernel
theorem dM_has_13 : decode mM_has.2.1 13 = .ok (.iconst 0, 1) := by decide +kernel
theorem dM_has_14 : decode mM_has.2.1 14 = .ok (.ireturn, 1) := by decide +kernel
theorem dM_ones_0 : decode mM_ones.2.1 0 = .ok (.iconst 0, 1) := by decide +kernel
theorem dM_ones_1 : decode mM_ones.2.1 1 = .ok (.istore_n 2, 1) := by decide +kernel
theorem dM_ones_2 : decode mM_ones.2.1 2 = .ok (.iload_n 1, 1) := by decide +kernel
theorem dM_ones_3 : decode mM_ones.2.1 3 = .ok (.istore_n 3, 1) := by decide +kernel
theorem dM_ones_4 : decode mM_ones.2.1 4 = .ok (.iload_n 3, 1) := by decide +kernel
theorem dM_ones_5 : decode mM_ones.2.1 5 = .ok (.ifCond .eq 15, 3) := by decide +kernel
theorem dM_ones_8 : decode mM_ones.2.1 8 = .ok (.iinc 2 1, 3) := by decide +kernel
theorem dM_ones_11 : decode mM_ones.2.1 11 = .ok (.iload_n 3, 1) := by decide +kernel
theorem dM_ones_12 : decode mM_ones.2.1 12 = .ok (.iload_n 3, 1) := by decide +kernel
theorem dM_ones_13 : decode mM_ones.2.1 13 = .ok (.iconst 1, 1) := by decide +kernel
theorem dM_ones_14 : decode mM_ones.2.1 14 = .ok (.isub, 1) := by decide +kernel
theorem dM_ones_15 : decode mM_ones.2.1 15 = .ok (.iand, 1) := by decide +kernel
theorem dM_ones_16 : decode mM_ones.2.1 16 = .ok (.istore_n 3, 1) := by decide +kernel
theorem dM_ones_17 : decode mM_ones.2.1 17 = .ok (.goto (-13), 3) := by decide +kernel
theorem dM_ones_20 : decode mM_ones.2.1 20 = .ok (.iload_n 2, 1) := by decide +kernel
theorem dM_ones_21 : decode mM_ones.2.1 21 = .ok (.ireturn, 1) := by decide +kernel
theorem dM_isWorld_0 : decode mM_isWorld.2.1 0 = .ok (.aload_n 0, 1) := by decide +kernel
theorem dM_isWorld_1 : decode mM_isWorld.2.1 1 = .ok (.iload_n 1, 1) := by decide +kernel
theorem dM_isWorld_2 : decode mM_isWorld.2.1 2 = .ok (.iconst 0, 1) := by decide +kernel
theorem dM_isWorld_3 : decode mM_isWorld.2.1 3 = .ok (.aload_n 0, 1) := by decide +kernel
theorem dM_isWorld_4 : decode mM_isWorld.2.1 4 = .ok (.getfield 7, 3) := by decide +kernel
theorem dM_isWorld_7 : decode mM_isWorld.2.1 7 = .ok (.iconst 1, 1) := by decide +kernel
theorem dM_isWorld_8 : decode mM_isWorld.2.1 8 = .ok (.isub, 1) := by decide +kernel
theorem dM_isWorld_9 : decode mM_isWorld.2.1 9 = .ok (.invokevirtual 203, 3) := by decide +kernel
theorem dM_isWorld_12 : decode mM_isWorld.2.1 12 = .ok (.ireturn, 1) := by decide +kernel
theorem dM_isEnvelope_0 : decode mM_isEnvelope.2.1 0 = .ok (.aload_n 0, 1) := by decide +kernel
theorem dM_isEnvelope_1 : decode mM_isEnvelope.2.1 1 = .ok (.iload_n 1, 1) := by decide +kernel
theorem dM_isEnvelope_2 : decode mM_isEnvelope.2.1 2 = .ok (.iconst 0, 1) := by decide +kernel
theorem dM_isEnvelope_3 : decode mM_isEnvelope.2.1 3 = .ok (.aload_n 0, 1) := by decide +kernel
theorem dM_isEnvelope_4 : decode mM_isEnvelope.2.1 4 = .ok (.getfield 13, 3) := by decide +kernel
theorem dM_isEnvelope_7 : decode mM_isEnvelope.2.1 7 = .ok (.iconst 1, 1) := by decide +kernel
theorem dM_isEnvelope_8 : decode mM_isEnvelope.2.1 8 = .ok (.isub, 1) := by decide +kernel
theorem dM_isEnvelope_9 : decode mM_isEnvelope.2.1 9 = .ok (.invokevirtual 203, 3) := by decide +kernel
theorem dM_isEnvelope_12 : decode mM_isEnvelope.2.1 12 = .ok (.ireturn, 1) := by decide +kernel
theorem dM_isSaying_0 : decode mM_isSaying.2.1 0 = .ok (.aload_n 0, 1) := by decide +kernel
theorem dM_isSaying_1 : decode mM_isSaying.2.1 1 = .ok (.iload_n 1, 1) := by decide +kernel
theorem dM_isSaying_2 : decode mM_isSaying.2.1 2 = .ok (.iconst 0, 1) := by decide +kernel
theorem dM_isSaying_3 : decode mM_isSaying.2.1 3 = .ok (.iconst 1, 1) := by decide +kernel
theorem dM_isSaying_4 : decode mM_isSaying.2.1 4 = .ok (.aload_n 0, 1) := by decide +kernel
theorem dM_isSaying_5 : decode mM_isSaying.2.1 5 = .ok (.getfield 7, 3) := by decide +kernel
theorem dM_isSaying_8 : decode mM_isSaying.2.1 8 = .ok (.ishl, 1) := by decide +kernel
theorem dM_isSaying_9 : decode mM_isSaying.2.1 9 = .ok (.iconst 1, 1) := by decide +kernel
theorem dM_isSaying_10 : decode mM_isSaying.2.1 10 = .ok (.isub, 1) := by decide +kernel
theorem dM_isSaying_11 : decode mM_isSaying.2.1 11 = .ok (.invokevirtual 203, 3) := by decide +kernel
theorem dM_isSaying_14 : decode mM_isSaying.2.1 14 = .ok (.ireturn, 1) := by decide +kernel
theorem dM_isSet_0 : decode mM_isSet.2.1 0 = .ok (.aload_n 0, 1) := by decide +kernel
theorem dM_isSet_1 : decode mM_isSet.2.1 1 = .ok (.iload_n 1, 1) := by decide +kernel
theorem dM_isSet_2 : decode mM_isSet.2.1 2 = .ok (.iconst 0, 1) := by decide +kernel
theorem dM_isSet_3 : decode mM_isSet.2.1 3 = .ok (.iconst 1, 1) := by decide +kernel
theorem dM_isSet_4 : decode mM_isSet.2.1 4 = .ok (.aload_n 0, 1) := by decide +kernel
theorem dM_isSet_5 : decode mM_isSet.2.1 5 = .ok (.getfield 13, 3) := by decide +kernel
theorem dM_isSet_8 : decode mM_isSet.2.1 8 = .ok (.ishl, 1) := by decide +kernel
theorem dM_isSet_9 : decode mM_isSet.2.1 9 = .ok (.iconst 1, 1) := by decide +kernel
theorem dM_isSet_10 : decode mM_isSet.2.1 10 = .ok (.isub, 1) := by decide +kernel
theorem dM_isSet_11 : decode mM_isSet.2.1 11 = .ok (.invokevirtual 203, 3) := by decide +kernel
theorem dM_isSet_14 : decode mM_isSet.2.1 14 = .ok (.ireturn, 1) := by decide +kernel
theorem dM_isPrice_0 : decode mM_isPrice.2.1 0 = .ok (.aload_n 0, 1) := by decide +kernel
theorem dM_isPrice_1 : decode mM_isPrice.2.1 1 = .ok (.iload_n 1, 1) := by decide +kernel
theorem dM_isPrice_2 : decode mM_isPrice.2.1 2 = .ok (.iconst 0, 1) := by decide +kernel
theorem dM_isPrice_3 : decode mM_isPrice.2.1 3 = .ok (.bipush 99, 2) := by decide +kernel
theorem dM_isPrice_5 : decode mM_isPrice.2.1 5 = .ok (.invokevirtual 203, 3) := by decide +kernel
theorem dM_isPrice_8 : decode mM_isPrice.2.1 8 = .ok (.ireturn, 1) := by decide +kernel
theorem dM_world_0 : decode mM_world.2.1 0 = .ok (.aload_n 0, 1) := by decide +kernel
theorem dM_world_1 : decode mM_world.2.1 1 = .ok (.iload_n 1, 1) := by decide +kernel
theorem dM_world_2 : decode mM_world.2.1 2 = .ok (.iconst 1, 1) := by decide +kernel
theorem dM_world_3 : decode mM_world.2.1 3 = .ok (.bipush 30, 2) := by decide +kernel
theorem dM_world_5 : decode mM_world.2.1 5 = .ok (.invokevirtual 203, 3) := by decide +kernel
theorem dM_world_8 : decode mM_world.2.1 8 = .ok (.ifCond .ne 6, 3) := by decide +kernel
theorem dM_world_11 : decode mM_world.2.1 11 = .ok (.bipush (-2), 2) := by decide +kernel
theorem dM_world_13 : decode mM_world.2.1 13 = .ok (.ireturn, 1) := by decide +kernel
theorem dM_world_14 : decode mM_world.2.1 14 = .ok (.aload_n 0, 1) := by decide +kernel
theorem dM_world_15 : decode mM_world.2.1 15 = .ok (.getfield 7, 3) := by decide +kernel
theorem dM_world_18 : decode mM_world.2.1 18 = .ok (.bipush 6, 2) := by decide +kernel
theorem dM_world_20 : decode mM_world.2.1 20 = .ok (.if_icmp .ne 6, 3) := by decide +kernel
theorem dM_world_23 : decode mM_world.2.1 23 = .ok (.bipush (-4), 2) := by decide +kernel
theorem dM_world_25 : decode mM_world.2.1 25 = .ok (.ireturn, 1) := by decide +kernel
theorem dM_world_26 : decode mM_world.2.1 26 = .ok (.aload_n 0, 1) := by decide +kernel
theorem dM_world_27 : decode mM_world.2.1 27 = .ok (.getfield 22, 3) := by decide +kernel
theorem dM_world_30 : decode mM_world.2.1 30 = .ok (.aload_n 0, 1) := by decide +kernel
theorem dM_world_31 : decode mM_world.2.1 31 = .ok (.getfield 7, 3) := by decide +kernel
theorem dM_world_34 : decode mM_world.2.1 34 = .ok (.iload_n 1, 1) := by decide +kernel
theorem dM_world_35 : decode mM_world.2.1 35 = .ok (.iastore, 1) := by decide +kernel
theorem dM_world_36 : decode mM_world.2.1 36 = .ok (.aload_n 0, 1) := by decide +kernel
theorem dM_world_37 : decode mM_world.2.1 37 = .ok (.dup, 1) := by decide +kernel
theorem dM_world_38 : decode mM_world.2.1 38 = .ok (.getfield 7, 3) := by decide +kernel
theorem dM_world_41 : decode mM_world.2.1 41 = .ok (.iconst 1, 1) := by decide +kernel
theorem dM_world_42 : decode mM_world.2.1 42 = .ok (.iadd, 1) := by decide +kernel
theorem dM_world_43 : decode mM_world.2.1 43 = .ok (.putfield 7, 3) := by decide +kernel
theorem dM_world_46 : decode mM_world.2.1 46 = .ok (.aload_n 0, 1) := by decide +kernel
theorem dM_world_47 : decode mM_world.2.1 47 = .ok (.getfield 7, 3) := by decide +kernel
theorem dM_world_50 : decode mM_world.2.1 50 = .ok (.iconst 1, 1) := by decide +kernel
theorem dM_world_51 : decode mM_world.2.1 51 = .ok (.isub, 1) := by decide +kernel
theorem dM_world_52 : decode mM_world.2.1 52 = .ok (.ireturn, 1) := by decide +kernel
theorem dM_chance_0 : decode mM_chance.2.1 0 = .ok (.aload_n 0, 1) := by decide +kernel
theorem dM_chance_1 : decode mM_chance.2.1 1 = .ok (.iload_n 1, 1) := by decide +kernel
theorem dM_chance_2 : decode mM_chance.2.1 2 = .ok (.invokevirtual 207, 3) := by decide +kernel
theorem dM_chance_5 : decode mM_chance.2.1 5 = .ok (.ifCond .ne 5, 3) := by decide +kernel
theorem dM_chance_8 : decode mM_chance.2.1 8 = .ok (.iconst (-1), 1) := by decide +kernel
theorem dM_chance_9 : decode mM_chance.2.1 9 = .ok (.ireturn, 1) := by decide +kernel
theorem dM_chance_10 : decode mM_chance.2.1 10 = .ok (.aload_n 0, 1) := by decide +kernel
theorem dM_chance_11 : decode mM_chance.2.1 11 = .ok (.iload_n 2, 1) := by decide +kernel
theorem dM_chance_12 : decode mM_chance.2.1 12 = .ok (.iconst 1, 1) := by decide +kernel
theorem dM_chance_13 : decode mM_chance.2.1 13 = .ok (.bipush 30, 2) := by decide +kernel
theorem dM_chance_15 : decode mM_chance.2.1 15 = .ok (.invokevirtual 203, 3) := by decide +kernel
theorem dM_chance_18 : decode mM_chance.2.1 18 = .ok (.ifCond .ne 6, 3) := by decide +kernel
theorem dM_chance_21 : decode mM_chance.2.1 21 = .ok (.bipush (-2), 2) := by decide +kernel
theorem dM_chance_23 : decode mM_chance.2.1 23 = .ok (.ireturn, 1) := by decide +kernel
theorem dM_chance_24 : decode mM_chance.2.1 24 = .ok (.aload_n 0, 1) := by decide +kernel
theorem dM_chance_25 : decode mM_chance.2.1 25 = .ok (.getfield 22, 3) := by decide +kernel
theorem dM_chance_28 : decode mM_chance.2.1 28 = .ok (.iload_n 1, 1) := by decide +kernel
theorem dM_chance_29 : decode mM_chance.2.1 29 = .ok (.iaload, 1) := by decide +kernel
theorem dM_chance_30 : decode mM_chance.2.1 30 = .ok (.istore_n 3, 1) := by decide +kernel
theorem dM_chance_31 : decode mM_chance.2.1 31 = .ok (.aload_n 0, 1) := by decide +kernel
theorem dM_chance_32 : decode mM_chance.2.1 32 = .ok (.getfield 22, 3) := by decide +kernel
theorem dM_chance_35 : decode mM_chance.2.1 35 = .ok (.iload_n 1, 1) := by decide +kernel
theorem dM_chance_36 : decode mM_chance.2.1 36 = .ok (.iload_n 2, 1) := by decide +kernel
theorem dM_chance_37 : decode mM_chance.2.1 37 = .ok (.iastore, 1) := by decide +kernel
theorem dM_chance_38 : decode mM_chance.2.1 38 = .ok (.iload_n 3, 1) := by decide +kernel
theorem dM_chance_39 : decode mM_chance.2.1 39 = .ok (.ireturn, 1) := by decide +kernel
theorem dM_envelope_0 : decode mM_envelope.2.1 0 = .ok (.aload_n 0, 1) := by decide +kernel
theorem dM_envelope_1 : decode mM_envelope.2.1 1 = .ok (.iload_n 1, 1) := by decide +kernel
theorem dM_envelope_2 : decode mM_envelope.2.1 2 = .ok (.iconst 0, 1) := by decide +kernel
theorem dM_envelope_3 : decode mM_envelope.2.1 3 = .ok (.bipush 6, 2) := by decide +kernel
theorem dM_envelope_5 : decode mM_envelope.2.1 5 = .ok (.invokevirtual 203, 3) := by decide +kernel
theorem dM_envelope_8 : decode mM_envelope.2.1 8 = .ok (.ifCond .ne 5, 3) := by decide +kernel
theorem dM_envelope_11 : decode mM_envelope.2.1 11 = .ok (.iconst (-1), 1) := by decide +kernel
theorem dM_envelope_12 : decode mM_envelope.2.1 12 = .ok (.ireturn, 1) := by decide +kernel
theorem dM_envelope_13 : decode mM_envelope.2.1 13 = .ok (.aload_n 0, 1) := by decide +kernel
theorem dM_envelope_14 : decode mM_envelope.2.1 14 = .ok (.iload_n 2, 1) := by decide +kernel
theorem dM_envelope_15 : decode mM_envelope.2.1 15 = .ok (.iconst 0, 1) := by decide +kernel
theorem dM_envelope_16 : decode mM_envelope.2.1 16 = .ok (.bipush 9, 2) := by decide +kernel
theorem dM_envelope_18 : decode mM_envelope.2.1 18 = .ok (.invokevirtual 203, 3) := by decide +kernel
theorem dM_envelope_21 : decode mM_envelope.2.1 21 = .ok (.ifCond .eq 20, 3) := by decide +kernel
theorem dM_envelope_24 : decode mM_envelope.2.1 24 = .ok (.aload_n 0, 1) := by decide +kernel
theorem dM_envelope_25 : decode mM_envelope.2.1 25 = .ok (.iload_n 3, 1) := by decide +kernel
theorem dM_envelope_26 : decode mM_envelope.2.1 26 = .ok (.invokevirtual 211, 3) := by decide +kernel
theorem dM_envelope_29 : decode mM_envelope.2.1 29 = .ok (.ifCond .eq 12, 3) := by decide +kernel
theorem dM_envelope_32 : decode mM_envelope.2.1 32 = .ok (.aload_n 0, 1) := by decide +kernel
theorem dM_envelope_33 : decode mM_envelope.2.1 33 = .ok (.iload 4, 2) := by decide +kernel
theorem dM_envelope_35 : decode mM_envelope.2.1 35 = .ok (.invokevirtual 214, 3) := by decide +kernel
theorem dM_envelope_38 : decode mM_envelope.2.1 38 = .ok (.ifCond .ne 6, 3) := by decide +kernel
theorem dM_envelope_41 : decode mM_envelope.2.1 41 = .ok (.bipush (-2), 2) := by decide +kernel
theorem dM_envelope_43 : decode mM_envelope.2.1 43 = .ok (.ireturn, 1) := by decide +kernel
theorem dM_envelope_44 : decode mM_envelope.2.1 44 = .ok (.aload_n 0, 1) := by decide +kernel
theorem dM_envelope_45 : decode mM_envelope.2.1 45 = .ok (.getfield 13, 3) := by decide +kernel
theorem dM_envelope_48 : decode mM_envelope.2.1 48 = .ok (.bipush 8, 2) := by decide +kernel
theorem dM_envelope_50 : decode mM_envelope.2.1 50 = .ok (.if_icmp .ne 6, 3) := by decide +kernel
theorem dM_envelope_53 : decode mM_envelope.2.1 53 = .ok (.bipush (-4), 2) := by decide +kernel
theorem dM_envelope_55 : decode mM_envelope.2.1 55 = .ok (.ireturn, 1) := by decide +kernel
theorem dM_envelope_56 : decode mM_envelope.2.1 56 = .ok (.aload_n 0, 1) := by decide +kernel
theorem dM_envelope_57 : decode mM_envelope.2.1 57 = .ok (.getfield 26, 3) := by decide +kernel
theorem dM_envelope_60 : decode mM_envelope.2.1 60 = .ok (.aload_n 0, 1) := by decide +kernel
theorem dM_envelope_61 : decode mM_envelope.2.1 61 = .ok (.getfield 13, 3) := by decide +kernel
theorem dM_envelope_64 : decode mM_envelope.2.1 64 = .ok (.iload_n 1, 1) := by decide +kernel
theorem dM_envelope_65 : decode mM_envelope.2.1 65 = .ok (.iastore, 1) := by decide +kernel
theorem dM_envelope_66 : decode mM_envelope.2.1 66 = .ok (.aload_n 0, 1) := by decide +kernel
theorem dM_envelope_67 : decode mM_envelope.2.1 67 = .ok (.getfield 29, 3) := by decide +kernel
theorem dM_envelope_70 : decode mM_envelope.2.1 70 = .ok (.aload_n 0, 1) := by decide +kernel
theorem dM_envelope_71 : decode mM_envelope.2.1 71 = .ok (.getfield 13, 3) := by decide +kernel
theorem dM_envelope_74 : decode mM_envelope.2.1 74 = .ok (.iload_n 2, 1) := by decide +kernel
theorem dM_envelope_75 : decode mM_envelope.2.1 75 = .ok (.iastore, 1) := by decide +kernel
theorem dM_envelope_76 : decode mM_envelope.2.1 76 = .ok (.aload_n 0, 1) := by decide +kernel
theorem dM_envelope_77 : decode mM_envelope.2.1 77 = .ok (.getfield 32, 3) := by decide +kernel
theorem dM_envelope_80 : decode mM_envelope.2.1 80 = .ok (.aload_n 0, 1) := by decide +kernel
theorem dM_envelope_81 : decode mM_envelope.2.1 81 = .ok (.getfield 13, 3) := by decide +kernel
theorem dM_envelope_84 : decode mM_envelope.2.1 84 = .ok (.iload_n 3, 1) := by decide +kernel
theorem dM_envelope_85 : decode mM_envelope.2.1 85 = .ok (.iastore, 1) := by decide +kernel
theorem dM_envelope_86 : decode mM_envelope.2.1 86 = .ok (.aload_n 0, 1) := by decide +kernel
theorem dM_envelope_87 : decode mM_envelope.2.1 87 = .ok (.getfield 35, 3) := by decide +kernel
theorem dM_envelope_90 : decode mM_envelope.2.1 90 = .ok (.aload_n 0, 1) := by decide +kernel
theorem dM_envelope_91 : decode mM_envelope.2.1 91 = .ok (.getfield 13, 3) := by decide +kernel
theorem dM_envelope_94 : decode mM_envelope.2.1 94 = .ok (.iload 4, 2) := by decide +kernel
theorem dM_envelope_96 : decode mM_envelope.2.1 96 = .ok (.iastore, 1) := by decide +kernel
theorem dM_envelope_97 : decode mM_envelope.2.1 97 = .ok (.aload_n 0, 1) := by decide +kernel
theorem dM_envelope_98 : decode mM_envelope.2.1 98 = .ok (.getfield 38, 3) := by decide +kernel
theorem dM_envelope_101 : decode mM_envelope.2.1 101 = .ok (.aload_n 0, 1) := by decide +kernel
theorem dM_envelope_102 : decode mM_envelope.2.1 102 = .ok (.getfield 13, 3) := by decide +kernel
theorem dM_envelope_105 : decode mM_envelope.2.1 105 = .ok (.aload_n 0, 1) := by decide +kernel
theorem dM_envelope_106 : decode mM_envelope.2.1 106 = .ok (.getfield 16, 3) := by decide +kernel
theorem dM_envelope_109 : decode mM_envelope.2.1 109 = .ok (.iastore, 1) := by decide +kernel
theorem dM_envelope_110 : decode mM_envelope.2.1 110 = .ok (.iconst 0, 1) := by decide +kernel
theorem dM_envelope_111 : decode mM_envelope.2.1 111 = .ok (.istore 5, 2) := by decide +kernel
theorem dM_envelope_113 : decode mM_envelope.2.1 113 = .ok (.iload 5, 2) := by decide +kernel
theorem dM_envelope_115 : decode mM_envelope.2.1 115 = .ok (.iconst 4, 1) := by decide +kernel
theorem dM_envelope_116 : decode mM_envelope.2.1 116 = .ok (.if_icmp .ge 24, 3) := by decide +kernel
theorem dM_envelope_119 : decode mM_envelope.2.1 119 = .ok (.aload_n 0, 1) := by decide +kernel
theorem dM_envelope_120 : decode mM_envelope.2.1 120 = .ok (.getfield 41, 3) := by decide +kernel
theorem dM_envelope_123 : decode mM_envelope.2.1 123 = .ok (.iconst 4, 1) := by decide +kernel
theorem dM_envelope_124 : decode mM_envelope.2.1 124 = .ok (.aload_n 0, 1) := by decide +kernel
theorem dM_envelope_125 : decode mM_envelope.2.1 125 = .ok (.getfield 13, 3) := by decide +kernel
theorem dM_envelope_128 : decode mM_envelope.2.1 128 = .ok (.imul, 1) := by decide +kernel
theorem dM_envelope_129 : decode mM_envelope.2.1 129 = .ok (.iload 5, 2) := by decide +kernel
theorem dM_envelope_131 : decode mM_envelope.2.1 131 = .ok (.iadd, 1) := by decide +kernel
theorem dM_envelope_132 : decode mM_envelope.2.1 132 = .ok (.iconst 0, 1) := by decide +kernel
theorem dM_envelope_133 : decode mM_envelope.2.1 133 = .ok (.iastore, 1) := by decide +kernel
theorem dM_envelope_134 : decode mM_envelope.2.1 134 = .ok (.iinc 5 1, 3) := by decide +kernel
theorem dM_envelope_137 : decode mM_envelope.2.1 137 = .ok (.goto (-24), 3) := by decide +kernel
theorem dM_envelope_140 : decode mM_envelope.2.1 140 = .ok (.aload_n 0, 1) := by decide +kernel
theorem dM_envelope_141 : decode mM_envelope.2.1 141 = .ok (.dup, 1) := by decide +kernel
theorem dM_envelope_142 : decode mM_envelope.2.1 142 = .ok (.getfield 13, 3) := by decide +kernel
theorem dM_envelope_145 : decode mM_envelope.2.1 145 = .ok (.iconst 1, 1) := by decide +kernel
theorem dM_envelope_146 : decode mM_envelope.2.1 146 = .ok (.iadd, 1) := by decide +kernel
theorem dM_envelope_147 : decode mM_envelope.2.1 147 = .ok (.putfield 13, 3) := by decide +kernel
theorem dM_envelope_150 : decode mM_envelope.2.1 150 = .ok (.aload_n 0, 1) := by decide +kernel
theorem dM_envelope_151 : decode mM_envelope.2.1 151 = .ok (.getfield 13, 3) := by decide +kernel
theorem dM_envelope_154 : decode mM_envelope.2.1 154 = .ok (.iconst 1, 1) := by decide +kernel
theorem dM_envelope_155 : decode mM_envelope.2.1 155 = .ok (.isub, 1) := by decide +kernel
theorem dM_envelope_156 : decode mM_envelope.2.1 156 = .ok (.ireturn, 1) := by decide +kernel
theorem dM_old_0 : decode mM_old.2.1 0 = .ok (.aload_n 0, 1) := by decide +kernel
theorem dM_old_1 : decode mM_old.2.1 1 = .ok (.getfield 16, 3) := by decide +kernel
theorem dM_old_4 : decode mM_old.2.1 4 = .ok (.aload_n 0, 1) := by decide +kernel
theorem dM_old_5 : decode mM_old.2.1 5 = .ok (.getfield 38, 3) := by decide +kernel
theorem dM_old_8 : decode mM_old.2.1 8 = .ok (.iload_n 1, 1) := by decide +kernel
theorem dM_old_9 : decode mM_old.2.1 9 = .ok (.iaload, 1) := by decide +kernel
theorem dM_old_10 : decode mM_old.2.1 10 = .ok (.isub, 1) := by decide +kernel
theorem dM_old_11 : decode mM_old.2.1 11 = .ok (.ireturn, 1) := by decide +kernel
theorem dM_of_0 : decode mM_of.2.1 0 = .ok (.aload_n 0, 1) := by decide +kernel
theorem dM_of_1 : decode mM_of.2.1 1 = .ok (.iload_n 1, 1) := by decide +kernel
theorem dM_of_2 : decode mM_of.2.1 2 = .ok (.invokevirtual 217, 3) := by decide +kernel
theorem dM_of_5 : decode mM_of.2.1 5 = .ok (.ifCond .ne 5, 3) := by decide +kernel
theorem dM_of_8 : decode mM_of.2.1 8 = .ok (.iconst (-1), 1) := by decide +kernel
theorem dM_of_9 : decode mM_of.2.1 9 = .ok (.ireturn, 1) := by decide +kernel
theorem dM_of_10 : decode mM_of.2.1 10 = .ok (.iload_n 2, 1) := by decide +kernel
theorem dM_of_11 : decode mM_of.2.1 11 = .ok (.tableswitch 67 0 4 #[33, 40, 47, 54, 61], 33) := by decide +kernel
theorem dM_of_44 : decode mM_of.2.1 44 = .ok (.aload_n 0, 1) := by decide +kernel
theorem dM_of_45 : decode mM_of.2.1 45 = .ok (.getfield 26, 3) := by decide +kernel
theorem dM_of_48 : decode mM_of.2.1 48 = .ok (.iload_n 1, 1) := by decide +kernel
theorem dM_of_49 : decode mM_of.2.1 49 = .ok (.iaload, 1) := by decide +kernel
theorem dM_of_50 : decode mM_of.2.1 50 = .ok (.ireturn, 1) := by decide +kernel
theorem dM_of_51 : decode mM_of.2.1 51 = .ok (.aload_n 0, 1) := by decide +kernel
theorem dM_of_52 : decode mM_of.2.1 52 = .ok (.getfield 29, 3) := by decide +kernel
theorem dM_of_55 : decode mM_of.2.1 55 = .ok (.iload_n 1, 1) := by decide +kernel
theorem dM_of_56 : decode mM_of.2.1 56 = .ok (.iaload, 1) := by decide +kernel
theorem dM_of_57 : decode mM_of.2.1 57 = .ok (.ireturn, 1) := by decide +kernel
theorem dM_of_58 : decode mM_of.2.1 58 = .ok (.aload_n 0, 1) := by decide +kernel
theorem dM_of_59 : decode mM_of.2.1 59 = .ok (.getfield 32, 3) := by decide +kernel
theorem dM_of_62 : decode mM_of.2.1 62 = .ok (.iload_n 1, 1) := by decide +kernel
theorem dM_of_63 : decode mM_of.2.1 63 = .ok (.iaload, 1) := by decide +kernel
theorem dM_of_64 : decode mM_of.2.1 64 = .ok (.ireturn, 1) := by decide +kernel
theorem dM_of_65 : decode mM_of.2.1 65 = .ok (.aload_n 0, 1) := by decide +kernel
theorem dM_of_66 : decode mM_of.2.1 66 = .ok (.getfield 35, 3) := by decide +kernel
theorem dM_of_69 : decode mM_of.2.1 69 = .ok (.iload_n 1, 1) := by decide +kernel
theorem dM_of_70 : decode mM_of.2.1 70 = .ok (.iaload, 1) := by decide +kernel
theorem dM_of_71 : decode mM_of.2.1 71 = .ok (.ireturn, 1) := by decide +kernel
theorem dM_of_72 : decode mM_of.2.1 72 = .ok (.aload_n 0, 1) := by decide +kernel
theorem dM_of_73 : decode mM_of.2.1 73 = .ok (.iload_n 1, 1) := by decide +kernel
theorem dM_of_74 : decode mM_of.2.1 74 = .ok (.invokevirtual 220, 3) := by decide +kernel
theorem dM_of_77 : decode mM_of.2.1 77 = .ok (.ireturn, 1) := by decide +kernel
theorem dM_of_78 : decode mM_of.2.1 78 = .ok (.iconst (-1), 1) := by decide +kernel
theorem dM_of_79 : decode mM_of.2.1 79 = .ok (.ireturn, 1) := by decide +kernel
theorem dM_price_0 : decode mM_price.2.1 0 = .ok (.aload_n 0, 1) := by decide +kernel
theorem dM_price_1 : decode mM_price.2.1 1 = .ok (.iload_n 1, 1) := by decide +kernel
theorem dM_price_2 : decode mM_price.2.1 2 = .ok (.invokevirtual 217, 3) := by decide +kernel
theorem dM_price_5 : decode mM_price.2.1 5 = .ok (.ifCond .ne 5, 3) := by decide +kernel
theorem dM_price_8 : decode mM_price.2.1 8 = .ok (.iconst (-1), 1) := by decide +kernel
theorem dM_price_9 : decode mM_price.2.1 9 = .ok (.ireturn, 1) := by decide +kernel
theorem dM_price_10 : decode mM_price.2.1 10 = .ok (.aload_n 0, 1) := by decide +kernel
theorem dM_price_11 : decode mM_price.2.1 11 = .ok (.iload_n 2, 1) := by decide +kernel
theorem dM_price_12 : decode mM_price.2.1 12 = .ok (.invokevirtual 214, 3) := by decide +kernel
theorem dM_price_15 : decode mM_price.2.1 15 = .ok (.ifCond .ne 6, 3) := by decide +kernel
theorem dM_price_18 : decode mM_price.2.1 18 = .ok (.bipush (-2), 2) := by decide +kernel
theorem dM_price_20 : decode mM_price.2.1 20 = .ok (.ireturn, 1) := by decide +kernel
theorem dM_price_21 : decode mM_price.2.1 21 = .ok (.aload_n 0, 1) := by decide +kernel
theorem dM_price_22 : decode mM_price.2.1 22 = .ok (.getfield 35, 3) := by decide +kernel
theorem dM_price_25 : decode mM_price.2.1 25 = .ok (.iload_n 1, 1) := by decide +kernel
theorem dM_price_26 : decode mM_price.2.1 26 = .ok (.iaload, 1) := by decide +kernel
theorem dM_price_27 : decode mM_price.2.1 27 = .ok (.istore_n 3, 1) := by decide +kernel
theorem dM_price_28 : decode mM_price.2.1 28 = .ok (.aload_n 0, 1) := by decide +kernel
theorem dM_price_29 : decode mM_price.2.1 29 = .ok (.getfield 35, 3) := by decide +kernel
theorem dM_price_32 : decode mM_price.2.1 32 = .ok (.iload_n 1, 1) := by decide +kernel
theorem dM_price_33 : decode mM_price.2.1 33 = .ok (.iload_n 2, 1) := by decide +kernel
theorem dM_price_34 : decode mM_price.2.1 34 = .ok (.iastore, 1) := by decide +kernel
theorem dM_price_35 : decode mM_price.2.1 35 = .ok (.iload_n 3, 1) := by decide +kernel
theorem dM_price_36 : decode mM_price.2.1 36 = .ok (.ireturn, 1) := by decide +kernel
theorem dM_say_0 : decode mM_say.2.1 0 = .ok (.aload_n 0, 1) := by decide +kernel
theorem dM_say_1 : decode mM_say.2.1 1 = .ok (.iload_n 1, 1) := by decide +kernel
theorem dM_say_2 : decode mM_say.2.1 2 = .ok (.invokevirtual 217, 3) := by decide +kernel
theorem dM_say_5 : decode mM_say.2.1 5 = .ok (.ifCond .ne 5, 3) := by decide +kernel
theorem dM_say_8 : decode mM_say.2.1 8 = .ok (.iconst (-1), 1) := by decide +kernel
theorem dM_say_9 : decode mM_say.2.1 9 = .ok (.ireturn, 1) := by decide +kernel
theorem dM_say_10 : decode mM_say.2.1 10 = .ok (.aload_n 0, 1) := by decide +kernel
theorem dM_say_11 : decode mM_say.2.1 11 = .ok (.iload_n 2, 1) := by decide +kernel
theorem dM_say_12 : decode mM_say.2.1 12 = .ok (.invokevirtual 211, 3) := by decide +kernel
theorem dM_say_15 : decode mM_say.2.1 15 = .ok (.ifCond .ne 6, 3) := by decide +kernel
theorem dM_say_18 : decode mM_say.2.1 18 = .ok (.bipush (-2), 2) := by decide +kernel
theorem dM_say_20 : decode mM_say.2.1 20 = .ok (.ireturn, 1) := by decide +kernel
theorem dM_say_21 : decode mM_say.2.1 21 = .ok (.aload_n 0, 1) := by decide +kernel
theorem dM_say_22 : decode mM_say.2.1 22 = .ok (.getfield 32, 3) := by decide +kernel
theorem dM_say_25 : decode mM_say.2.1 25 = .ok (.iload_n 1, 1) := by decide +kernel
theorem dM_say_26 : decode mM_say.2.1 26 = .ok (.iaload, 1) := by decide +kernel
theorem dM_say_27 : decode mM_say.2.1 27 = .ok (.istore_n 3, 1) := by decide +kernel
theorem dM_say_28 : decode mM_say.2.1 28 = .ok (.aload_n 0, 1) := by decide +kernel
theorem dM_say_29 : decode mM_say.2.1 29 = .ok (.getfield 32, 3) := by decide +kernel
theorem dM_say_32 : decode mM_say.2.1 32 = .ok (.iload_n 1, 1) := by decide +kernel
theorem dM_say_33 : decode mM_say.2.1 33 = .ok (.iload_n 2, 1) := by decide +kernel
theorem dM_say_34 : decode mM_say.2.1 34 = .ok (.iastore, 1) := by decide +kernel
theorem dM_say_35 : decode mM_say.2.1 35 = .ok (.iload_n 3, 1) := by decide +kernel
theorem dM_say_36 : decode mM_say.2.1 36 = .ok (.ireturn, 1) := by decide +kernel
theorem dM_row_0 : decode mM_row.2.1 0 = .ok (.aload_n 0, 1) := by decide +kernel
theorem dM_row_1 : decode mM_row.2.1 1 = .ok (.iload_n 1, 1) := by decide +kernel
theorem dM_row_2 : decode mM_row.2.1 2 = .ok (.invokevirtual 217, 3) := by decide +kernel
theorem dM_row_5 : decode mM_row.2.1 5 = .ok (.ifCond .eq 13, 3) := by decide +kernel
theorem dM_row_8 : decode mM_row.2.1 8 = .ok (.aload_n 0, 1) := by decide +kernel
theorem dM_row_9 : decode mM_row.2.1 9 = .ok (.iload_n 2, 1) := by decide +kernel
theorem dM_row_10 : decode mM_row.2.1 10 = .ok (.iconst 0, 1) := by decide +kernel
theorem dM_row_11 : decode mM_row.2.1 11 = .ok (.iconst 3, 1) := by decide +kernel
theorem dM_row_12 : decode mM_row.2.1 12 = .ok (.invokevirtual 203, 3) := by decide +kernel
theorem dM_row_15 : decode mM_row.2.1 15 = .ok (.ifCond .ne 5, 3) := by decide +kernel
theorem dM_row_18 : decode mM_row.2.1 18 = .ok (.iconst (-1), 1) := by decide +kernel
theorem dM_row_19 : decode mM_row.2.1 19 = .ok (.ireturn, 1) := by decide +kernel
theorem dM_row_20 : decode mM_row.2.1 20 = .ok (.aload_n 0, 1) := by decide +kernel
theorem dM_row_21 : decode mM_row.2.1 21 = .ok (.iload_n 3, 1) := by decide +kernel
theorem dM_row_22 : decode mM_row.2.1 22 = .ok (.iconst 0, 1) := by decide +kernel
theorem dM_row_23 : decode mM_row.2.1 23 = .ok (.bipush 9, 2) := by decide +kernel
theorem dM_row_25 : decode mM_row.2.1 25 = .ok (.invokevirtual 203, 3) := by decide +kernel
theorem dM_row_28 : decode mM_row.2.1 28 = .ok (.ifCond .ne 6, 3) := by decide +kernel
theorem dM_row_31 : decode mM_row.2.1 31 = .ok (.bipush (-2), 2) := by decide +kernel
theorem dM_row_33 : decode mM_row.2.1 33 = .ok (.ireturn, 1) := by decide +kernel
theorem dM_row_34 : decode mM_row.2.1 34 = .ok (.aload_n 0, 1) := by decide +kernel
theorem dM_row_35 : decode mM_row.2.1 35 = .ok (.getfield 26, 3) := by decide +kernel
theorem dM_row_38 : decode mM_row.2.1 38 = .ok (.iload_n 1, 1) := by decide +kernel
theorem dM_row_39 : decode mM_row.2.1 39 = .ok (.iaload, 1) := by decide +kernel
theorem dM_row_40 : decode mM_row.2.1 40 = .ok (.bipush 6, 2) := by decide +kernel
theorem dM_row_42 : decode mM_row.2.1 42 = .ok (.if_icmp .eq 6, 3) := by decide +kernel
theorem dM_row_45 : decode mM_row.2.1 45 = .ok (.bipush (-3), 2) := by decide +kernel
theorem dM_row_47 : decode mM_row.2.1 47 = .ok (.ireturn, 1) := by decide +kernel
theorem dM_row_48 : decode mM_row.2.1 48 = .ok (.aload_n 0, 1) := by decide +kernel
theorem dM_row_49 : decode mM_row.2.1 49 = .ok (.getfield 41, 3) := by decide +kernel
theorem dM_row_52 : decode mM_row.2.1 52 = .ok (.iconst 4, 1) := by decide +kernel
theorem dM_row_53 : decode mM_row.2.1 53 = .ok (.iload_n 1, 1) := by decide +kernel
theorem dM_row_54 : decode mM_row.2.1 54 = .ok (.imul, 1) := by decide +kernel
theorem dM_row_55 : decode mM_row.2.1 55 = .ok (.iload_n 2, 1) := by decide +kernel
theorem dM_row_56 : decode mM_row.2.1 56 = .ok (.iadd, 1) := by decide +kernel
theorem dM_row_57 : decode mM_row.2.1 57 = .ok (.iaload, 1) := by decide +kernel
theorem dM_row_58 : decode mM_row.2.1 58 = .ok (.istore 4, 2) := by decide +kernel
theorem dM_row_60 : decode mM_row.2.1 60 = .ok (.aload_n 0, 1) := by decide +kernel
theorem dM_row_61 : decode mM_row.2.1 61 = .ok (.getfield 41, 3) := by decide +kernel
theorem dM_row_64 : decode mM_row.2.1 64 = .ok (.iconst 4, 1) := by decide +kernel
theorem dM_row_65 : decode mM_row.2.1 65 = .ok (.iload_n 1, 1) := by decide +kernel
theorem dM_row_66 : decode mM_row.2.1 66 = .ok (.imul, 1) := by decide +kernel
theorem dM_row_67 : decode mM_row.2.1 67 = .ok (.iload_n 2, 1) := by decide +kernel
theorem dM_row_68 : decode mM_row.2.1 68 = .ok (.iadd, 1) := by decide +kernel
theorem dM_row_69 : decode mM_row.2.1 69 = .ok (.iload_n 3, 1) := by decide +kernel
theorem dM_row_70 : decode mM_row.2.1 70 = .ok (.iastore, 1) := by decide +kernel
theorem dM_row_71 : decode mM_row.2.1 71 = .ok (.iload 4, 2) := by decide +kernel
theorem dM_row_73 : decode mM_row.2.1 73 = .ok (.ireturn, 1) := by decide +kernel
theorem dM_feed_0 : decode mM_feed.2.1 0 = .ok (.aload_n 0, 1) := by decide +kernel
theorem dM_feed_1 : decode mM_feed.2.1 1 = .ok (.iload_n 1, 1) := by decide +kernel
theorem dM_feed_2 : decode mM_feed.2.1 2 = .ok (.iconst 0, 1) := by decide +kernel
theorem dM_feed_3 : decode mM_feed.2.1 3 = .ok (.bipush 127, 2) := by decide +kernel
theorem dM_feed_5 : decode mM_feed.2.1 5 = .ok (.invokevirtual 203, 3) := by decide +kernel
theorem dM_feed_8 : decode mM_feed.2.1 8 = .ok (.ifCond .ne 6, 3) := by decide +kernel
theorem dM_feed_11 : decode mM_feed.2.1 11 = .ok (.bipush (-2), 2) := by decide +kernel
theorem dM_feed_13 : decode mM_feed.2.1 13 = .ok (.ireturn, 1) := by decide +kernel
theorem dM_feed_14 : decode mM_feed.2.1 14 = .ok (.aload_n 0, 1) := by decide +kernel
theorem dM_feed_15 : decode mM_feed.2.1 15 = .ok (.getfield 50, 3) := by decide +kernel
theorem dM_feed_18 : decode mM_feed.2.1 18 = .ok (.bipush 100, 2) := by decide +kernel
theorem dM_feed_20 : decode mM_feed.2.1 20 = .ok (.if_icmp .ne 6, 3) := by decide +kernel
theorem dM_feed_23 : decode mM_feed.2.1 23 = .ok (.bipush (-4), 2) := by decide +kernel
theorem dM_feed_25 : decode mM_feed.2.1 25 = .ok (.ireturn, 1) := by decide +kernel
theorem dM_feed_26 : decode mM_feed.2.1 26 = .ok (.aload_n 0, 1) := by decide +kernel
theorem dM_feed_27 : decode mM_feed.2.1 27 = .ok (.getfield 59, 3) := by decide +kernel
theorem dM_feed_30 : decode mM_feed.2.1 30 = .ok (.aload_n 0, 1) := by decide +kernel
theorem dM_feed_31 : decode mM_feed.2.1 31 = .ok (.getfield 50, 3) := by decide +kernel
theorem dM_feed_34 : decode mM_feed.2.1 34 = .ok (.iload_n 1, 1) := by decide +kernel
theorem dM_feed_35 : decode mM_feed.2.1 35 = .ok (.iastore, 1) := by decide +kernel
theorem dM_feed_36 : decode mM_feed.2.1 36 = .ok (.aload_n 0, 1) := by decide +kernel
theorem dM_feed_37 : decode mM_feed.2.1 37 = .ok (.dup, 1) := by decide +kernel
theorem dM_feed_38 : decode mM_feed.2.1 38 = .ok (.getfield 50, 3) := by decide +kernel
theorem dM_feed_41 : decode mM_feed.2.1 41 = .ok (.iconst 1, 1) := by decide +kernel
theorem dM_feed_42 : decode mM_feed.2.1 42 = .ok (.iadd, 1) := by decide +kernel
theorem dM_feed_43 : decode mM_feed.2.1 43 = .ok (.putfield 50, 3) := by decide +kernel
theorem dM_feed_46 : decode mM_feed.2.1 46 = .ok (.aload_n 0, 1) := by decide +kernel
theorem dM_feed_47 : decode mM_feed.2.1 47 = .ok (.getfield 50, 3) := by decide +kernel
theorem dM_feed_50 : decode mM_feed.2.1 50 = .ok (.ireturn, 1) := by decide +kernel
theorem dM_next_0 : decode mM_next.2.1 0 = .ok (.aload_n 0, 1) := by decide +kernel
theorem dM_next_1 : decode mM_next.2.1 1 = .ok (.getfield 53, 3) := by decide +kernel
theorem dM_next_4 : decode mM_next.2.1 4 = .ok (.aload_n 0, 1) := by decide +kernel
theorem dM_next_5 : decode mM_next.2.1 5 = .ok (.getfield 50, 3) := by decide +kernel
theorem dM_next_8 : decode mM_next.2.1 8 = .ok (.if_icmp .ge 15, 3) := by decide +kernel
theorem dM_next_11 : decode mM_next.2.1 11 = .ok (.aload_n 0, 1) := by decide +kernel
theorem dM_next_12 : decode mM_next.2.1 12 = .ok (.getfield 59, 3) := by decide +kernel
theorem dM_next_15 : decode mM_next.2.1 15 = .ok (.aload_n 0, 1) := by decide +kernel
theorem dM_next_16 : decode mM_next.2.1 16 = .ok (.getfield 53, 3) := by decide +kernel
theorem dM_next_19 : decode mM_next.2.1 19 = .ok (.iaload, 1) := by decide +kernel
theorem dM_next_20 : decode mM_next.2.1 20 = .ok (.goto 4, 3) := by decide +kernel
theorem dM_next_23 : decode mM_next.2.1 23 = .ok (.iconst (-1), 1) := by decide +kernel
theorem dM_next_24 : decode mM_next.2.1 24 = .ok (.ireturn, 1) := by decide +kernel
theorem dM_takes_0 : decode mM_takes.2.1 0 = .ok (.aload_n 0, 1) := by decide +kernel
theorem dM_takes_1 : decode mM_takes.2.1 1 = .ok (.invokevirtual 224, 3) := by decide +kernel
theorem dM_takes_4 : decode mM_takes.2.1 4 = .ok (.iload_n 1, 1) := by decide +kernel
theorem dM_takes_5 : decode mM_takes.2.1 5 = .ok (.if_icmp .eq 5, 3) := by decide +kernel
theorem dM_takes_8 : decode mM_takes.2.1 8 = .ok (.iconst 0, 1) := by decide +kernel
theorem dM_takes_9 : decode mM_takes.2.1 9 = .ok (.ireturn, 1) := by decide +kernel
theorem dM_takes_10 : decode mM_takes.2.1 10 = .ok (.aload_n 0, 1) := by decide +kernel
theorem dM_takes_11 : decode mM_takes.2.1 11 = .ok (.dup, 1) := by decide +kernel
theorem dM_takes_12 : decode mM_takes.2.1 12 = .ok (.getfield 53, 3) := by decide +kernel
theorem dM_takes_15 : decode mM_takes.2.1 15 = .ok (.iconst 1, 1) := by decide +kernel
theorem dM_takes_16 : decode mM_takes.2.1 16 = .ok (.iadd, 1) := by decide +kernel
theorem dM_takes_17 : decode mM_takes.2.1 17 = .ok (.putfield 53, 3) := by decide +kernel
theorem dM_takes_20 : decode mM_takes.2.1 20 = .ok (.iconst 1, 1) := by decide +kernel
theorem dM_takes_21 : decode mM_takes.2.1 21 = .ok (.ireturn, 1) := by decide +kernel
theorem dM_takesWord_0 : decode mM_takesWord.2.1 0 = .ok (.iconst 0, 1) := by decide +kernel
theorem dM_takesWord_1 : decode mM_takesWord.2.1 1 = .ok (.istore_n 3, 1) := by decide +kernel
theorem dM_takesWord_2 : decode mM_takesWord.2.1 2 = .ok (.iload_n 3, 1) := by decide +kernel
theorem dM_takesWord_3 : decode mM_takesWord.2.1 3 = .ok (.iload_n 2, 1) := by decide +kernel
theorem dM_takesWord_4 : decode mM_takesWord.2.1 4 = .ok (.if_icmp .ge 26, 3) := by decide +kernel
theorem dM_takesWord_7 : decode mM_takesWord.2.1 7 = .ok (.aload_n 0, 1) := by decide +kernel
theorem dM_takesWord_8 : decode mM_takesWord.2.1 8 = .ok (.aload_n 0, 1) := by decide +kernel
theorem dM_takesWord_9 : decode mM_takesWord.2.1 9 = .ok (.getfield 92, 3) := by decide +kernel
theorem dM_takesWord_12 : decode mM_takesWord.2.1 12 = .ok (.iload_n 1, 1) := by decide +kernel
theorem dM_takesWord_13 : decode mM_takesWord.2.1 13 = .ok (.iload_n 3, 1) := by decide +kernel
theorem dM_takesWord_14 : decode mM_takesWord.2.1 14 = .ok (.iadd, 1) := by decide +kernel
theorem dM_takesWord_15 : decode mM_takesWord.2.1 15 = .ok (.iaload, 1) := by decide +kernel
theorem dM_takesWord_16 : decode mM_takesWord.2.1 16 = .ok (.invokevirtual 228, 3) := by decide +kernel
theorem dM_takesWord_19 : decode mM_takesWord.2.1 19 = .ok (.ifCond .ne 5, 3) := by decide +kernel
theorem dM_takesWord_22 : decode mM_takesWord.2.1 22 = .ok (.iconst 0, 1) := by decide +kernel
theorem dM_takesWord_23 : decode mM_takesWord.2.1 23 = .ok (.ireturn, 1) := by decide +kernel
theorem dM_takesWord_24 : decode mM_takesWord.2.1 24 = .ok (.iinc 3 1, 3) := by decide +kernel
theorem dM_takesWord_27 : decode mM_takesWord.2.1 27 = .ok (.goto (-25), 3) := by decide +kernel
theorem dM_takesWord_30 : decode mM_takesWord.2.1 30 = .ok (.aload_n 0, 1) := by decide +kernel
theorem dM_takesWord_31 : decode mM_takesWord.2.1 31 = .ok (.bipush 32, 2) := by decide +kernel
theorem dM_takesWord_33 : decode mM_takesWord.2.1 33 = .ok (.invokevirtual 228, 3) := by decide +kernel
theorem dM_takesWord_36 : decode mM_takesWord.2.1 36 = .ok (.ireturn, 1) := by decide +kernel
theorem dM_isDigit_0 : decode mM_isDigit.2.1 0 = .ok (.aload_n 0, 1) := by decide +kernel
theorem dM_isDigit_1 : decode mM_isDigit.2.1 1 = .ok (.aload_n 0, 1) := by decide +kernel
theorem dM_isDigit_2 : decode mM_isDigit.2.1 2 = .ok (.invokevirtual 224, 3) := by decide +kernel
theorem dM_isDigit_5 : decode mM_isDigit.2.1 5 = .ok (.bipush 48, 2) := by decide +kernel
theorem dM_isDigit_7 : decode mM_isDigit.2.1 7 = .ok (.bipush 57, 2) := by decide +kernel
theorem dM_isDigit_9 : decode mM_isDigit.2.1 9 = .ok (.invokevirtual 203, 3) := by decide +kernel
theorem dM_isDigit_12 : decode mM_isDigit.2.1 12 = .ok (.ireturn, 1) := by decide +kernel
theorem dM_takesNumber_0 : decode mM_takesNumber.2.1 0 = .ok (.aload_n 0, 1) := by decide +kernel
theorem dM_takesNumber_1 : decode mM_takesNumber.2.1 1 = .ok (.invokevirtual 231, 3) := by decide +kernel
theorem dM_takesNumber_4 : decode mM_takesNumber.2.1 4 = .ok (.ifCond .ne 5, 3) := by decide +kernel
theorem dM_takesNumber_7 : decode mM_takesNumber.2.1 7 = .ok (.iconst 0, 1) := by decide +kernel
theorem dM_takesNumber_8 : decode mM_takesNumber.2.1 8 = .ok (.ireturn, 1) := by decide +kernel
theorem dM_takesNumber_9 : decode mM_takesNumber.2.1 9 = .ok (.aload_n 0, 1) := by decide +kernel
theorem dM_takesNumber_10 : decode mM_takesNumber.2.1 10 = .ok (.iconst 0, 1) := by decide +kernel
theorem dM_takesNumber_11 : decode mM_takesNumber.2.1 11 = .ok (.putfield 56, 3) := by decide +kernel
theorem dM_takesNumber_14 : decode mM_takesNumber.2.1 14 = .ok (.iconst 0, 1) := by decide +kernel
theorem dM_takesNumber_15 : decode mM_takesNumber.2.1 15 = .ok (.istore_n 1, 1) := by decide +kernel
theorem dM_takesNumber_16 : decode mM_takesNumber.2.1 16 = .ok (.iload_n 1, 1) := by decide +kernel
theorem dM_takesNumber_17 : decode mM_takesNumber.2.1 17 = .ok (.iconst 2, 1) := by decide +kernel
theorem dM_takesNumber_18 : decode mM_takesNumber.2.1 18 = .ok (.if_icmp .ge 45, 3) := by decide +kernel
theorem dM_takesNumber_21 : decode mM_takesNumber.2.1 21 = .ok (.aload_n 0, 1) := by decide +kernel
theorem dM_takesNumber_22 : decode mM_takesNumber.2.1 22 = .ok (.invokevirtual 231, 3) := by decide +kernel
theorem dM_takesNumber_25 : decode mM_takesNumber.2.1 25 = .ok (.ifCond .eq 38, 3) := by decide +kernel
theorem dM_takesNumber_28 : decode mM_takesNumber.2.1 28 = .ok (.aload_n 0, 1) := by decide +kernel
theorem dM_takesNumber_29 : decode mM_takesNumber.2.1 29 = .ok (.bipush 10, 2) := by decide +kernel
theorem dM_takesNumber_31 : decode mM_takesNumber.2.1 31 = .ok (.aload_n 0, 1) := by decide +kernel
theorem dM_takesNumber_32 : decode mM_takesNumber.2.1 32 = .ok (.getfield 56, 3) := by decide +kernel
theorem dM_takesNumber_35 : decode mM_takesNumber.2.1 35 = .ok (.imul, 1) := by decide +kernel
theorem dM_takesNumber_36 : decode mM_takesNumber.2.1 36 = .ok (.aload_n 0, 1) := by decide +kernel
theorem dM_takesNumber_37 : decode mM_takesNumber.2.1 37 = .ok (.invokevirtual 224, 3) := by decide +kernel
theorem dM_takesNumber_40 : decode mM_takesNumber.2.1 40 = .ok (.iadd, 1) := by decide +kernel
theorem dM_takesNumber_41 : decode mM_takesNumber.2.1 41 = .ok (.bipush 48, 2) := by decide +kernel
theorem dM_takesNumber_43 : decode mM_takesNumber.2.1 43 = .ok (.isub, 1) := by decide +kernel
theorem dM_takesNumber_44 : decode mM_takesNumber.2.1 44 = .ok (.putfield 56, 3) := by decide +kernel
theorem dM_takesNumber_47 : decode mM_takesNumber.2.1 47 = .ok (.aload_n 0, 1) := by decide +kernel
theorem dM_takesNumber_48 : decode mM_takesNumber.2.1 48 = .ok (.dup, 1) := by decide +kernel
theorem dM_takesNumber_49 : decode mM_takesNumber.2.1 49 = .ok (.getfield 53, 3) := by decide +kernel
theorem dM_takesNumber_52 : decode mM_takesNumber.2.1 52 = .ok (.iconst 1, 1) := by decide +kernel
theorem dM_takesNumber_53 : decode mM_takesNumber.2.1 53 = .ok (.iadd, 1) := by decide +kernel
theorem dM_takesNumber_54 : decode mM_takesNumber.2.1 54 = .ok (.putfield 53, 3) := by decide +kernel
theorem dM_takesNumber_57 : decode mM_takesNumber.2.1 57 = .ok (.iinc 1 1, 3) := by decide +kernel
theorem dM_takesNumber_60 : decode mM_takesNumber.2.1 60 = .ok (.goto (-44), 3) := by decide +kernel
theorem dM_takesNumber_63 : decode mM_takesNumber.2.1 63 = .ok (.iconst 1, 1) := by decide +kernel
theorem dM_takesNumber_64 : decode mM_takesNumber.2.1 64 = .ok (.ireturn, 1) := by decide +kernel
theorem dM_emits_0 : decode mM_emits.2.1 0 = .ok (.aload_n 0, 1) := by decide +kernel
theorem dM_emits_1 : decode mM_emits.2.1 1 = .ok (.getfield 77, 3) := by decide +kernel
theorem dM_emits_4 : decode mM_emits.2.1 4 = .ok (.aload_n 0, 1) := by decide +kernel
theorem dM_emits_5 : decode mM_emits.2.1 5 = .ok (.getfield 83, 3) := by decide +kernel
theorem dM_emits_8 : decode mM_emits.2.1 8 = .ok (.iload_n 1, 1) := by decide +kernel
theorem dM_emits_9 : decode mM_emits.2.1 9 = .ok (.iastore, 1) := by decide +kernel
theorem dM_emits_10 : decode mM_emits.2.1 10 = .ok (.aload_n 0, 1) := by decide +kernel
theorem dM_emits_11 : decode mM_emits.2.1 11 = .ok (.dup, 1) := by decide +kernel
theorem dM_emits_12 : decode mM_emits.2.1 12 = .ok (.getfield 83, 3) := by decide +kernel
theorem dM_emits_15 : decode mM_emits.2.1 15 = .ok (.iconst 1, 1) := by decide +kernel
theorem dM_emits_16 : decode mM_emits.2.1 16 = .ok (.iadd, 1) := by decide +kernel
theorem dM_emits_17 : decode mM_emits.2.1 17 = .ok (.putfield 83, 3) := by decide +kernel
theorem dM_emits_20 : decode mM_emits.2.1 20 = .ok (.return_, 1) := by decide +kernel
theorem dM_whole_0 : decode mM_whole.2.1 0 = .ok (.aload_n 0, 1) := by decide +kernel
theorem dM_whole_1 : decode mM_whole.2.1 1 = .ok (.getfield 86, 3) := by decide +kernel
theorem dM_whole_4 : decode mM_whole.2.1 4 = .ok (.ifCond .le 48, 3) := by decide +kernel
theorem dM_whole_7 : decode mM_whole.2.1 7 = .ok (.aload_n 0, 1) := by decide +kernel
theorem dM_whole_8 : decode mM_whole.2.1 8 = .ok (.getfield 80, 3) := by decide +kernel
theorem dM_whole_11 : decode mM_whole.2.1 11 = .ok (.aload_n 0, 1) := by decide +kernel
theorem dM_whole_12 : decode mM_whole.2.1 12 = .ok (.getfield 86, 3) := by decide +kernel
theorem dM_whole_15 : decode mM_whole.2.1 15 = .ok (.iconst 1, 1) := by decide +kernel
theorem dM_whole_16 : decode mM_whole.2.1 16 = .ok (.isub, 1) := by decide +kernel
theorem dM_whole_17 : decode mM_whole.2.1 17 = .ok (.iaload, 1) := by decide +kernel
theorem dM_whole_18 : decode mM_whole.2.1 18 = .ok (.bipush 33, 2) := by decide +kernel
theorem dM_whole_20 : decode mM_whole.2.1 20 = .ok (.if_icmp .ne 32, 3) := by decide +kernel
theorem dM_whole_23 : decode mM_whole.2.1 23 = .ok (.aload_n 0, 1) := by decide +kernel
theorem dM_whole_24 : decode mM_whole.2.1 24 = .ok (.bipush (-33), 2) := by decide +kernel
theorem dM_whole_26 : decode mM_whole.2.1 26 = .ok (.invokevirtual 235, 3) := by decide +kernel
theorem dM_whole_29 : decode mM_whole.2.1 29 = .ok (.aload_n 0, 1) := by decide +kernel
theorem dM_whole_30 : decode mM_whole.2.1 30 = .ok (.dup, 1) := by decide +kernel
theorem dM_whole_31 : decode mM_whole.2.1 31 = .ok (.getfield 86, 3) := by decide +kernel
theorem dM_whole_34 : decode mM_whole.2.1 34 = .ok (.iconst 1, 1) := by decide +kernel
theorem dM_whole_35 : decode mM_whole.2.1 35 = .ok (.isub, 1) := by decide +kernel
theorem dM_whole_36 : decode mM_whole.2.1 36 = .ok (.putfield 86, 3) := by decide +kernel
theorem dM_whole_39 : decode mM_whole.2.1 39 = .ok (.aload_n 0, 1) := by decide +kernel
theorem dM_whole_40 : decode mM_whole.2.1 40 = .ok (.dup, 1) := by decide +kernel
theorem dM_whole_41 : decode mM_whole.2.1 41 = .ok (.getfield 89, 3) := by decide +kernel
theorem dM_whole_44 : decode mM_whole.2.1 44 = .ok (.iconst 1, 1) := by decide +kernel
theorem dM_whole_45 : decode mM_whole.2.1 45 = .ok (.isub, 1) := by decide +kernel
theorem dM_whole_46 : decode mM_whole.2.1 46 = .ok (.putfield 89, 3) := by decide +kernel
theorem dM_whole_49 : decode mM_whole.2.1 49 = .ok (.goto (-49), 3) := by decide +kernel
theorem dM_whole_52 : decode mM_whole.2.1 52 = .ok (.return_, 1) := by decide +kernel
theorem dM_settle_0 : decode mM_settle.2.1 0 = .ok (.aload_n 0, 1) := by decide +kernel
theorem dM_settle_1 : decode mM_settle.2.1 1 = .ok (.getfield 86, 3) := by decide +kernel
theorem dM_settle_4 : decode mM_settle.2.1 4 = .ok (.ifCond .le 68, 3) := by decide +kernel
theorem dM_settle_7 : decode mM_settle.2.1 7 = .ok (.aload_n 0, 1) := by decide +kernel
theorem dM_settle_8 : decode mM_settle.2.1 8 = .ok (.getfield 80, 3) := by decide +kernel
theorem dM_settle_11 : decode mM_settle.2.1 11 = .ok (.aload_n 0, 1) := by decide +kernel
theorem dM_settle_12 : decode mM_settle.2.1 12 = .ok (.getfield 86, 3) := by decide +kernel
theorem dM_settle_15 : decode mM_settle.2.1 15 = .ok (.iconst 1, 1) := by decide +kernel
theorem dM_settle_16 : decode mM_settle.2.1 16 = .ok (.isub, 1) := by decide +kernel
theorem dM_settle_17 : decode mM_settle.2.1 17 = .ok (.iaload, 1) := by decide +kernel
theorem dM_settle_18 : decode mM_settle.2.1 18 = .ok (.bipush 38, 2) := by decide +kernel
theorem dM_settle_20 : decode mM_settle.2.1 20 = .ok (.if_icmp .eq 25, 3) := by decide +kernel
theorem dM_settle_23 : decode mM_settle.2.1 23 = .ok (.aload_n 0, 1) := by decide +kernel
theorem dM_settle_24 : decode mM_settle.2.1 24 = .ok (.getfield 80, 3) := by decide +kernel
theorem dM_settle_27 : decode mM_settle.2.1 27 = .ok (.aload_n 0, 1) := by decide +kernel
theorem dM_settle_28 : decode mM_settle.2.1 28 = .ok (.getfield 86, 3) := by decide +kernel
theorem dM_settle_31 : decode mM_settle.2.1 31 = .ok (.iconst 1, 1) := by decide +kernel
theorem dM_settle_32 : decode mM_settle.2.1 32 = .ok (.isub, 1) := by decide +kernel
theorem dM_settle_33 : decode mM_settle.2.1 33 = .ok (.iaload, 1) := by decide +kernel
theorem dM_settle_34 : decode mM_settle.2.1 34 = .ok (.bipush 124, 2) := by decide +kernel
theorem dM_settle_36 : decode mM_settle.2.1 36 = .ok (.if_icmp .ne 36, 3) := by decide +kernel
theorem dM_settle_39 : decode mM_settle.2.1 39 = .ok (.iload_n 1, 1) := by decide +kernel
theorem dM_settle_40 : decode mM_settle.2.1 40 = .ok (.bipush 38, 2) := by decide +kernel
theorem dM_settle_42 : decode mM_settle.2.1 42 = .ok (.if_icmp .eq 30, 3) := by decide +kernel
theorem dM_settle_45 : decode mM_settle.2.1 45 = .ok (.aload_n 0, 1) := by decide +kernel
theorem dM_settle_46 : decode mM_settle.2.1 46 = .ok (.dup, 1) := by decide +kernel
theorem dM_settle_47 : decode mM_settle.2.1 47 = .ok (.getfield 86, 3) := by decide +kernel
theorem dM_settle_50 : decode mM_settle.2.1 50 = .ok (.iconst 1, 1) := by decide +kernel
theorem dM_settle_51 : decode mM_settle.2.1 51 = .ok (.isub, 1) := by decide +kernel
theorem dM_settle_52 : decode mM_settle.2.1 52 = .ok (.putfield 86, 3) := by decide +kernel
theorem dM_settle_55 : decode mM_settle.2.1 55 = .ok (.aload_n 0, 1) := by decide +kernel
theorem dM_settle_56 : decode mM_settle.2.1 56 = .ok (.aload_n 0, 1) := by decide +kernel
theorem dM_settle_57 : decode mM_settle.2.1 57 = .ok (.getfield 80, 3) := by decide +kernel
theorem dM_settle_60 : decode mM_settle.2.1 60 = .ok (.aload_n 0, 1) := by decide +kernel
theorem dM_settle_61 : decode mM_settle.2.1 61 = .ok (.getfield 86, 3) := by decide +kernel
theorem dM_settle_64 : decode mM_settle.2.1 64 = .ok (.iaload, 1) := by decide +kernel
theorem dM_settle_65 : decode mM_settle.2.1 65 = .ok (.ineg, 1) := by decide +kernel
theorem dM_settle_66 : decode mM_settle.2.1 66 = .ok (.invokevirtual 235, 3) := by decide +kernel
theorem dM_settle_69 : decode mM_settle.2.1 69 = .ok (.goto (-69), 3) := by decide +kernel
theorem dM_settle_72 : decode mM_settle.2.1 72 = .ok (.return_, 1) := by decide +kernel
theorem dM_place_0 : decode mM_place.2.1 0 = .ok (.iload_n 1, 1) := by decide +kernel
theorem dM_place_1 : decode mM_place.2.1 1 = .ok (.lookupswitch 71 #[(99, 67), (100, 69), (101, 59), (107, 61), (115, 63), (119, 65)], 59) := by decide +kernel
theorem dM_place_60 : decode mM_place.2.1 60 = .ok (.iconst 0, 1) := by decide +kernel
theorem dM_place_61 : decode mM_place.2.1 61 = .ok (.ireturn, 1) := by decide +kernel
theorem dM_place_62 : decode mM_place.2.1 62 = .ok (.iconst 1, 1) := by decide +kernel
theorem dM_place_63 : decode mM_place.2.1 63 = .ok (.ireturn, 1) := by decide +kernel
theorem dM_place_64 : decode mM_place.2.1 64 = .ok (.iconst 2, 1) := by decide +kernel
theorem dM_place_65 : decode mM_place.2.1 65 = .ok (.ireturn, 1) := by decide +kernel
theorem dM_place_66 : decode mM_place.2.1 66 = .ok (.iconst 3, 1) := by decide +kernel
theorem dM_place_67 : decode mM_place.2.1 67 = .ok (.ireturn, 1) := by decide +kernel
theorem dM_place_68 : decode mM_place.2.1 68 = .ok (.iconst 4, 1) := by decide +kernel
theorem dM_place_69 : decode mM_place.2.1 69 = .ok (.ireturn, 1) := by decide +kernel
theorem dM_place_70 : decode mM_place.2.1 70 = .ok (.iconst 5, 1) := by decide +kernel
theorem dM_place_71 : decode mM_place.2.1 71 = .ok (.ireturn, 1) := by decide +kernel
theorem dM_place_72 : decode mM_place.2.1 72 = .ok (.iconst (-1), 1) := by decide +kernel
theorem dM_place_73 : decode mM_place.2.1 73 = .ok (.ireturn, 1) := by decide +kernel
theorem dM_takesTest_0 : decode mM_takesTest.2.1 0 = .ok (.aload_n 0, 1) := by decide +kernel
theorem dM_takesTest_1 : decode mM_takesTest.2.1 1 = .ok (.aload_n 0, 1) := by decide +kernel
theorem dM_takesTest_2 : decode mM_takesTest.2.1 2 = .ok (.invokevirtual 224, 3) := by decide +kernel
theorem dM_takesTest_5 : decode mM_takesTest.2.1 5 = .ok (.invokevirtual 239, 3) := by decide +kernel
theorem dM_takesTest_8 : decode mM_takesTest.2.1 8 = .ok (.istore_n 1, 1) := by decide +kernel
theorem dM_takesTest_9 : decode mM_takesTest.2.1 9 = .ok (.iload_n 1, 1) := by decide +kernel
theorem dM_takesTest_10 : decode mM_takesTest.2.1 10 = .ok (.ifCond .ge 5, 3) := by decide +kernel
theorem dM_takesTest_13 : decode mM_takesTest.2.1 13 = .ok (.iconst 0, 1) := by decide +kernel
theorem dM_takesTest_14 : decode mM_takesTest.2.1 14 = .ok (.ireturn, 1) := by decide +kernel
theorem dM_takesTest_15 : decode mM_takesTest.2.1 15 = .ok (.aload_n 0, 1) := by decide +kernel
theorem dM_takesTest_16 : decode mM_takesTest.2.1 16 = .ok (.dup, 1) := by decide +kernel
theorem dM_takesTest_17 : decode mM_takesTest.2.1 17 = .ok (.getfield 53, 3) := by decide +kernel
theorem dM_takesTest_20 : decode mM_takesTest.2.1 20 = .ok (.iconst 1, 1) := by decide +kernel
theorem dM_takesTest_21 : decode mM_takesTest.2.1 21 = .ok (.iadd, 1) := by decide +kernel
theorem dM_takesTest_22 : decode mM_takesTest.2.1 22 = .ok (.putfield 53, 3) := by decide +kernel
theorem dM_takesTest_25 : decode mM_takesTest.2.1 25 = .ok (.aload_n 0, 1) := by decide +kernel
theorem dM_takesTest_26 : decode mM_takesTest.2.1 26 = .ok (.invokevirtual 224, 3) := by decide +kernel
theorem dM_takesTest_29 : decode mM_takesTest.2.1 29 = .ok (.istore_n 2, 1) := by decide +kernel
theorem dM_takesTest_30 : decode mM_takesTest.2.1 30 = .ok (.aload_n 0, 1) := by decide +kernel
theorem dM_takesTest_31 : decode mM_takesTest.2.1 31 = .ok (.iload_n 2, 1) := by decide +kernel
theorem dM_takesTest_32 : decode mM_takesTest.2.1 32 = .ok (.bipush 60, 2) := by decide +kernel
theorem dM_takesTest_34 : decode mM_takesTest.2.1 34 = .ok (.bipush 62, 2) := by decide +kernel
theorem dM_takesTest_36 : decode mM_takesTest.2.1 36 = .ok (.invokevirtual 203, 3) := by decide +kernel
theorem dM_takesTest_39 : decode mM_takesTest.2.1 39 = .ok (.ifCond .ne 5, 3) := by decide +kernel
theorem dM_takesTest_42 : decode mM_takesTest.2.1 42 = .ok (.iconst 0, 1) := by decide +kernel
theorem dM_takesTest_43 : decode mM_takesTest.2.1 43 = .ok (.ireturn, 1) := by decide +kernel
theorem dM_takesTest_44 : decode mM_takesTest.2.1 44 = .ok (.aload_n 0, 1) := by decide +kernel
theorem dM_takesTest_45 : decode mM_takesTest.2.1 45 = .ok (.dup, 1) := by decide +kernel
theorem dM_takesTest_46 : decode mM_takesTest.2.1 46 = .ok (.getfield 53, 3) := by decide +kernel
theorem dM_takesTest_49 : decode mM_takesTest.2.1 49 = .ok (.iconst 1, 1) := by decide +kernel
theorem dM_takesTest_50 : decode mM_takesTest.2.1 50 = .ok (.iadd, 1) := by decide +kernel
theorem dM_takesTest_51 : decode mM_takesTest.2.1 51 = .ok (.putfield 53, 3) := by decide +kernel
theorem dM_takesTest_54 : decode mM_takesTest.2.1 54 = .ok (.aload_n 0, 1) := by decide +kernel
theorem dM_takesTest_55 : decode mM_takesTest.2.1 55 = .ok (.invokevirtual 242, 3) := by decide +kernel
theorem dM_takesTest_58 : decode mM_takesTest.2.1 58 = .ok (.ifCond .ne 5, 3) := by decide +kernel
theorem dM_takesTest_61 : decode mM_takesTest.2.1 61 = .ok (.iconst 0, 1) := by decide +kernel
theorem dM_takesTest_62 : decode mM_takesTest.2.1 62 = .ok (.ireturn, 1) := by decide +kernel
theorem dM_takesTest_63 : decode mM_takesTest.2.1 63 = .ok (.aload_n 0, 1) := by decide +kernel
theorem dM_takesTest_64 : decode mM_takesTest.2.1 64 = .ok (.sipush 1000, 3) := by decide +kernel
theorem dM_takesTest_67 : decode mM_takesTest.2.1 67 = .ok (.iload_n 1, 1) := by decide +kernel
theorem dM_takesTest_68 : decode mM_takesTest.2.1 68 = .ok (.imul, 1) := by decide +kernel
theorem dM_takesTest_69 : decode mM_takesTest.2.1 69 = .ok (.bipush 100, 2) := by decide +kernel
theorem dM_takesTest_71 : decode mM_takesTest.2.1 71 = .ok (.iload_n 2, 1) := by decide +kernel
theorem dM_takesTest_72 : decode mM_takesTest.2.1 72 = .ok (.bipush 60, 2) := by decide +kernel
theorem dM_takesTest_74 : decode mM_takesTest.2.1 74 = .ok (.isub, 1) := by decide +kernel
theorem dM_takesTest_75 : decode mM_takesTest.2.1 75 = .ok (.imul, 1) := by decide +kernel
theorem dM_takesTest_76 : decode mM_takesTest.2.1 76 = .ok (.iadd, 1) := by decide +kernel
theorem dM_takesTest_77 : decode mM_takesTest.2.1 77 = .ok (.aload_n 0, 1) := by decide +kernel
theorem dM_takesTest_78 : decode mM_takesTest.2.1 78 = .ok (.getfield 56, 3) := by decide +kernel
theorem dM_takesTest_81 : decode mM_takesTest.2.1 81 = .ok (.iadd, 1) := by decide +kernel
theorem dM_takesTest_82 : decode mM_takesTest.2.1 82 = .ok (.invokevirtual 235, 3) := by decide +kernel
theorem dM_takesTest_85 : decode mM_takesTest.2.1 85 = .ok (.aload_n 0, 1) := by decide +kernel
theorem dM_takesTest_86 : decode mM_takesTest.2.1 86 = .ok (.invokevirtual 245, 3) := by decide +kernel
theorem dM_takesTest_89 : decode mM_takesTest.2.1 89 = .ok (.iconst 1, 1) := by decide +kernel
theorem dM_takesTest_90 : decode mM_takesTest.2.1 90 = .ok (.ireturn, 1) := by decide +kernel
theorem dM_takesE_0 : decode mM_takesE.2.1 0 = .ok (.aload_n 0, 1) := by decide +kernel
theorem dM_takesE_1 : decode mM_takesE.2.1 1 = .ok (.iconst 0, 1) := by decide +kernel
theorem dM_takesE_2 : decode mM_takesE.2.1 2 = .ok (.putfield 86, 3) := by decide +kernel
theorem dM_takesE_5 : decode mM_takesE.2.1 5 = .ok (.aload_n 0, 1) := by decide +kernel
theorem dM_takesE_6 : decode mM_takesE.2.1 6 = .ok (.iconst 0, 1) := by decide +kernel
theorem dM_takesE_7 : decode mM_takesE.2.1 7 = .ok (.putfield 89, 3) := by decide +kernel
theorem dM_takesE_10 : decode mM_takesE.2.1 10 = .ok (.aload_n 0, 1) := by decide +kernel
theorem dM_takesE_11 : decode mM_takesE.2.1 11 = .ok (.getfield 71, 3) := by decide +kernel
theorem dM_takesE_14 : decode mM_takesE.2.1 14 = .ok (.iload_n 1, 1) := by decide +kernel
theorem dM_takesE_15 : decode mM_takesE.2.1 15 = .ok (.aload_n 0, 1) := by decide +kernel
theorem dM_takesE_16 : decode mM_takesE.2.1 16 = .ok (.getfield 83, 3) := by decide +kernel
theorem dM_takesE_19 : decode mM_takesE.2.1 19 = .ok (.iastore, 1) := by decide +kernel
theorem dM_takesE_20 : decode mM_takesE.2.1 20 = .ok (.iconst 1, 1) := by decide +kernel
theorem dM_takesE_21 : decode mM_takesE.2.1 21 = .ok (.istore_n 2, 1) := by decide +kernel
theorem dM_takesE_22 : decode mM_takesE.2.1 22 = .ok (.aload_n 0, 1) := by decide +kernel
theorem dM_takesE_23 : decode mM_takesE.2.1 23 = .ok (.invokevirtual 224, 3) := by decide +kernel
theorem dM_takesE_26 : decode mM_takesE.2.1 26 = .ok (.istore_n 3, 1) := by decide +kernel
theorem dM_takesE_27 : decode mM_takesE.2.1 27 = .ok (.iload_n 2, 1) := by decide +kernel
theorem dM_takesE_28 : decode mM_takesE.2.1 28 = .ok (.ifCond .eq 82, 3) := by decide +kernel
theorem dM_takesE_31 : decode mM_takesE.2.1 31 = .ok (.iload_n 3, 1) := by decide +kernel
theorem dM_takesE_32 : decode mM_takesE.2.1 32 = .ok (.bipush 33, 2) := by decide +kernel
theorem dM_takesE_34 : decode mM_takesE.2.1 34 = .ok (.if_icmp .eq 9, 3) := by decide +kernel
theorem dM_takesE_37 : decode mM_takesE.2.1 37 = .ok (.iload_n 3, 1) := by decide +kernel
theorem dM_takesE_38 : decode mM_takesE.2.1 38 = .ok (.bipush 40, 2) := by decide +kernel
theorem dM_takesE_40 : decode mM_takesE.2.1 40 = .ok (.if_icmp .ne 56, 3) := by decide +kernel
theorem dM_takesE_43 : decode mM_takesE.2.1 43 = .ok (.aload_n 0, 1) := by decide +kernel
theorem dM_takesE_44 : decode mM_takesE.2.1 44 = .ok (.getfield 89, 3) := by decide +kernel
theorem dM_takesE_47 : decode mM_takesE.2.1 47 = .ok (.iconst 4, 1) := by decide +kernel
theorem dM_takesE_48 : decode mM_takesE.2.1 48 = .ok (.if_icmp .ne 5, 3) := by decide +kernel
theorem dM_takesE_51 : decode mM_takesE.2.1 51 = .ok (.iconst 0, 1) := by decide +kernel
theorem dM_takesE_52 : decode mM_takesE.2.1 52 = .ok (.ireturn, 1) := by decide +kernel
theorem dM_takesE_53 : decode mM_takesE.2.1 53 = .ok (.aload_n 0, 1) := by decide +kernel
theorem dM_takesE_54 : decode mM_takesE.2.1 54 = .ok (.dup, 1) := by decide +kernel
theorem dM_takesE_55 : decode mM_takesE.2.1 55 = .ok (.getfield 89, 3) := by decide +kernel
theorem dM_takesE_58 : decode mM_takesE.2.1 58 = .ok (.iconst 1, 1) := by decide +kernel
theorem dM_takesE_59 : decode mM_takesE.2.1 59 = .ok (.iadd, 1) := by decide +kernel
theorem dM_takesE_60 : decode mM_takesE.2.1 60 = .ok (.putfield 89, 3) := by decide +kernel
theorem dM_takesE_63 : decode mM_takesE.2.1 63 = .ok (.aload_n 0, 1) := by decide +kernel
theorem dM_takesE_64 : decode mM_takesE.2.1 64 = .ok (.getfield 80, 3) := by decide +kernel
theorem dM_takesE_67 : decode mM_takesE.2.1 67 = .ok (.aload_n 0, 1) := by decide +kernel
theorem dM_takesE_68 : decode mM_takesE.2.1 68 = .ok (.getfield 86, 3) := by decide +kernel
theorem dM_takesE_71 : decode mM_takesE.2.1 71 = .ok (.iload_n 3, 1) := by decide +kernel
theorem dM_takesE_72 : decode mM_takesE.2.1 72 = .ok (.iastore, 1) := by decide +kernel
theorem dM_takesE_73 : decode mM_takesE.2.1 73 = .ok (.aload_n 0, 1) := by decide +kernel
theorem dM_takesE_74 : decode mM_takesE.2.1 74 = .ok (.dup, 1) := by decide +kernel
theorem dM_takesE_75 : decode mM_takesE.2.1 75 = .ok (.getfield 86, 3) := by decide +kernel
theorem dM_takesE_78 : decode mM_takesE.2.1 78 = .ok (.iconst 1, 1) := by decide +kernel
theorem dM_takesE_79 : decode mM_takesE.2.1 79 = .ok (.iadd, 1) := by decide +kernel
theorem dM_takesE_80 : decode mM_takesE.2.1 80 = .ok (.putfield 86, 3) := by decide +kernel
theorem dM_takesE_83 : decode mM_takesE.2.1 83 = .ok (.aload_n 0, 1) := by decide +kernel
theorem dM_takesE_84 : decode mM_takesE.2.1 84 = .ok (.dup, 1) := by decide +kernel
theorem dM_takesE_85 : decode mM_takesE.2.1 85 = .ok (.getfield 53, 3) := by decide +kernel
theorem dM_takesE_88 : decode mM_takesE.2.1 88 = .ok (.iconst 1, 1) := by decide +kernel
theorem dM_takesE_89 : decode mM_takesE.2.1 89 = .ok (.iadd, 1) := by decide +kernel
theorem dM_takesE_90 : decode mM_takesE.2.1 90 = .ok (.putfield 53, 3) := by decide +kernel
theorem dM_takesE_93 : decode mM_takesE.2.1 93 = .ok (.goto (-71), 3) := by decide +kernel
theorem dM_takesE_96 : decode mM_takesE.2.1 96 = .ok (.aload_n 0, 1) := by decide +kernel
theorem dM_takesE_97 : decode mM_takesE.2.1 97 = .ok (.invokevirtual 248, 3) := by decide +kernel
theorem dM_takesE_100 : decode mM_takesE.2.1 100 = .ok (.ifCond .eq 8, 3) := by decide +kernel
theorem dM_takesE_103 : decode mM_takesE.2.1 103 = .ok (.iconst 0, 1) := by decide +kernel
theorem dM_takesE_104 : decode mM_takesE.2.1 104 = .ok (.istore_n 2, 1) := by decide +kernel
theorem dM_takesE_105 : decode mM_takesE.2.1 105 = .ok (.goto (-83), 3) := by decide +kernel
theorem dM_takesE_108 : decode mM_takesE.2.1 108 = .ok (.iconst 0, 1) := by decide +kernel
theorem dM_takesE_109 : decode mM_takesE.2.1 109 = .ok (.ireturn, 1) := by decide +kernel
theorem dM_takesE_110 : decode mM_takesE.2.1 110 = .ok (.iload_n 3, 1) := by decide +kernel
theorem dM_takesE_111 : decode mM_takesE.2.1 111 = .ok (.bipush 38, 2) := by decide +kernel
theorem dM_takesE_113 : decode mM_takesE.2.1 113 = .ok (.if_icmp .eq 9, 3) := by decide +kernel
theorem dM_takesE_116 : decode mM_takesE.2.1 116 = .ok (.iload_n 3, 1) := by decide +kernel
theorem dM_takesE_117 : decode mM_takesE.2.1 117 = .ok (.bipush 124, 2) := by decide +kernel
theorem dM_takesE_119 : decode mM_takesE.2.1 119 = .ok (.if_icmp .ne 43, 3) := by decide +kernel
theorem dM_takesE_122 : decode mM_takesE.2.1 122 = .ok (.aload_n 0, 1) := by decide +kernel
theorem dM_takesE_123 : decode mM_takesE.2.1 123 = .ok (.iload_n 3, 1) := by decide +kernel
theorem dM_takesE_124 : decode mM_takesE.2.1 124 = .ok (.invokevirtual 251, 3) := by decide +kernel
theorem dM_takesE_127 : decode mM_takesE.2.1 127 = .ok (.aload_n 0, 1) := by decide +kernel
theorem dM_takesE_128 : decode mM_takesE.2.1 128 = .ok (.getfield 80, 3) := by decide +kernel
theorem dM_takesE_131 : decode mM_takesE.2.1 131 = .ok (.aload_n 0, 1) := by decide +kernel
theorem dM_takesE_132 : decode mM_takesE.2.1 132 = .ok (.getfield 86, 3) := by decide +kernel
theorem dM_takesE_135 : decode mM_takesE.2.1 135 = .ok (.iload_n 3, 1) := by decide +kernel
theorem dM_takesE_136 : decode mM_takesE.2.1 136 = .ok (.iastore, 1) := by decide +kernel
theorem dM_takesE_137 : decode mM_takesE.2.1 137 = .ok (.aload_n 0, 1) := by decide +kernel
theorem dM_takesE_138 : decode mM_takesE.2.1 138 = .ok (.dup, 1) := by decide +kernel
theorem dM_takesE_139 : decode mM_takesE.2.1 139 = .ok (.getfield 86, 3) := by decide +kernel
theorem dM_takesE_142 : decode mM_takesE.2.1 142 = .ok (.iconst 1, 1) := by decide +kernel
theorem dM_takesE_143 : decode mM_takesE.2.1 143 = .ok (.iadd, 1) := by decide +kernel
theorem dM_takesE_144 : decode mM_takesE.2.1 144 = .ok (.putfield 86, 3) := by decide +kernel
theorem dM_takesE_147 : decode mM_takesE.2.1 147 = .ok (.iconst 1, 1) := by decide +kernel
theorem dM_takesE_148 : decode mM_takesE.2.1 148 = .ok (.istore_n 2, 1) := by decide +kernel
theorem dM_takesE_149 : decode mM_takesE.2.1 149 = .ok (.aload_n 0, 1) := by decide +kernel
theorem dM_takesE_150 : decode mM_takesE.2.1 150 = .ok (.dup, 1) := by decide +kernel
theorem dM_takesE_151 : decode mM_takesE.2.1 151 = .ok (.getfield 53, 3) := by decide +kernel
theorem dM_takesE_154 : decode mM_takesE.2.1 154 = .ok (.iconst 1, 1) := by decide +kernel
theorem dM_takesE_155 : decode mM_takesE.2.1 155 = .ok (.iadd, 1) := by decide +kernel
theorem dM_takesE_156 : decode mM_takesE.2.1 156 = .ok (.putfield 53, 3) := by decide +kernel
theorem dM_takesE_159 : decode mM_takesE.2.1 159 = .ok (.goto (-137), 3) := by decide +kernel
theorem dM_takesE_162 : decode mM_takesE.2.1 162 = .ok (.aload_n 0, 1) := by decide +kernel
theorem dM_takesE_163 : decode mM_takesE.2.1 163 = .ok (.bipush 124, 2) := by decide +kernel
theorem dM_takesE_165 : decode mM_takesE.2.1 165 = .ok (.invokevirtual 251, 3) := by decide +kernel
theorem dM_takesE_168 : decode mM_takesE.2.1 168 = .ok (.aload_n 0, 1) := by decide +kernel
theorem dM_takesE_169 : decode mM_takesE.2.1 169 = .ok (.getfield 74, 3) := by decide +kernel
theorem dM_takesE_172 : decode mM_takesE.2.1 172 = .ok (.iload_n 1, 1) := by decide +kernel
theorem dM_takesE_173 : decode mM_takesE.2.1 173 = .ok (.aload_n 0, 1) := by decide +kernel
theorem dM_takesE_174 : decode mM_takesE.2.1 174 = .ok (.getfield 83, 3) := by decide +kernel
theorem dM_takesE_177 : decode mM_takesE.2.1 177 = .ok (.iastore, 1) := by decide +kernel
theorem dM_takesE_178 : decode mM_takesE.2.1 178 = .ok (.aload_n 0, 1) := by decide +kernel
theorem dM_takesE_179 : decode mM_takesE.2.1 179 = .ok (.getfield 86, 3) := by decide +kernel
theorem dM_takesE_182 : decode mM_takesE.2.1 182 = .ok (.ifCond .ne 5, 3) := by decide +kernel
theorem dM_takesE_185 : decode mM_takesE.2.1 185 = .ok (.iconst 1, 1) := by decide +kernel
theorem dM_takesE_186 : decode mM_takesE.2.1 186 = .ok (.ireturn, 1) := by decide +kernel
theorem dM_takesE_187 : decode mM_takesE.2.1 187 = .ok (.iload_n 3, 1) := by decide +kernel
theorem dM_takesE_188 : decode mM_takesE.2.1 188 = .ok (.bipush 41, 2) := by decide +kernel
theorem dM_takesE_190 : decode mM_takesE.2.1 190 = .ok (.if_icmp .eq 5, 3) := by decide +kernel
theorem dM_takesE_193 : decode mM_takesE.2.1 193 = .ok (.iconst 0, 1) := by decide +kernel
theorem dM_takesE_194 : decode mM_takesE.2.1 194 = .ok (.ireturn, 1) := by decide +kernel
theorem dM_takesE_195 : decode mM_takesE.2.1 195 = .ok (.aload_n 0, 1) := by decide +kernel
theorem dM_takesE_196 : decode mM_takesE.2.1 196 = .ok (.dup, 1) := by decide +kernel
theorem dM_takesE_197 : decode mM_takesE.2.1 197 = .ok (.getfield 86, 3) := by decide +kernel
theorem dM_takesE_200 : decode mM_takesE.2.1 200 = .ok (.iconst 1, 1) := by decide +kernel
theorem dM_takesE_201 : decode mM_takesE.2.1 201 = .ok (.isub, 1) := by decide +kernel
theorem dM_takesE_202 : decode mM_takesE.2.1 202 = .ok (.putfield 86, 3) := by decide +kernel
theorem dM_takesE_205 : decode mM_takesE.2.1 205 = .ok (.aload_n 0, 1) := by decide +kernel
theorem dM_takesE_206 : decode mM_takesE.2.1 206 = .ok (.dup, 1) := by decide +kernel
theorem dM_takesE_207 : decode mM_takesE.2.1 207 = .ok (.getfield 89, 3) := by decide +kernel
theorem dM_takesE_210 : decode mM_takesE.2.1 210 = .ok (.iconst 1, 1) := by decide +kernel
theorem dM_takesE_211 : decode mM_takesE.2.1 211 = .ok (.isub, 1) := by decide +kernel
theorem dM_takesE_212 : decode mM_takesE.2.1 212 = .ok (.putfield 89, 3) := by decide +kernel
theorem dM_takesE_215 : decode mM_takesE.2.1 215 = .ok (.aload_n 0, 1) := by decide +kernel
theorem dM_takesE_216 : decode mM_takesE.2.1 216 = .ok (.dup, 1) := by decide +kernel
theorem dM_takesE_217 : decode mM_takesE.2.1 217 = .ok (.getfield 53, 3) := by decide +kernel
theorem dM_takesE_220 : decode mM_takesE.2.1 220 = .ok (.iconst 1, 1) := by decide +kernel
theorem dM_takesE_221 : decode mM_takesE.2.1 221 = .ok (.iadd, 1) := by decide +kernel
theorem dM_takesE_222 : decode mM_takesE.2.1 222 = .ok (.putfield 53, 3) := by decide +kernel
theorem dM_takesE_225 : decode mM_takesE.2.1 225 = .ok (.aload_n 0, 1) := by decide +kernel
theorem dM_takesE_226 : decode mM_takesE.2.1 226 = .ok (.invokevirtual 245, 3) := by decide +kernel
theorem dM_takesE_229 : decode mM_takesE.2.1 229 = .ok (.goto (-207), 3) := by decide +kernel
theorem dM_takesHead_0 : decode mM_takesHead.2.1 0 = .ok (.aload_n 0, 1) := by decide +kernel
theorem dM_takesHead_1 : decode mM_takesHead.2.1 1 = .ok (.invokevirtual 224, 3) := by decide +kernel
theorem dM_takesHead_4 : decode mM_takesHead.2.1 4 = .ok (.lookupswitch 56 #[(109, 28), (116, 42)], 28) := by decide +kernel
theorem dM_takesHead_32 : decode mM_takesHead.2.1 32 = .ok (.aload_n 0, 1) := by decide +kernel
theorem dM_takesHead_33 : decode mM_takesHead.2.1 33 = .ok (.getfield 65, 3) := by decide +kernel
theorem dM_takesHead_36 : decode mM_takesHead.2.1 36 = .ok (.iload_n 1, 1) := by decide +kernel
theorem dM_takesHead_37 : decode mM_takesHead.2.1 37 = .ok (.iconst 0, 1) := by decide +kernel
theorem dM_takesHead_38 : decode mM_takesHead.2.1 38 = .ok (.iastore, 1) := by decide +kernel
theorem dM_takesHead_39 : decode mM_takesHead.2.1 39 = .ok (.aload_n 0, 1) := by decide +kernel
theorem dM_takesHead_40 : decode mM_takesHead.2.1 40 = .ok (.iconst 0, 1) := by decide +kernel
theorem dM_takesHead_41 : decode mM_takesHead.2.1 41 = .ok (.iconst 4, 1) := by decide +kernel
theorem dM_takesHead_42 : decode mM_takesHead.2.1 42 = .ok (.invokevirtual 254, 3) := by decide +kernel
theorem dM_takesHead_45 : decode mM_takesHead.2.1 45 = .ok (.ireturn, 1) := by decide +kernel
theorem dM_takesHead_46 : decode mM_takesHead.2.1 46 = .ok (.aload_n 0, 1) := by decide +kernel
theorem dM_takesHead_47 : decode mM_takesHead.2.1 47 = .ok (.getfield 65, 3) := by decide +kernel
theorem dM_takesHead_50 : decode mM_takesHead.2.1 50 = .ok (.iload_n 1, 1) := by decide +kernel
theorem dM_takesHead_51 : decode mM_takesHead.2.1 51 = .ok (.iconst 1, 1) := by decide +kernel
theorem dM_takesHead_52 : decode mM_takesHead.2.1 52 = .ok (.iastore, 1) := by decide +kernel
theorem dM_takesHead_53 : decode mM_takesHead.2.1 53 = .ok (.aload_n 0, 1) := by decide +kernel
theorem dM_takesHead_54 : decode mM_takesHead.2.1 54 = .ok (.iconst 4, 1) := by decide +kernel
theorem dM_takesHead_55 : decode mM_takesHead.2.1 55 = .ok (.iconst 3, 1) := by decide +kernel
theorem dM_takesHead_56 : decode mM_takesHead.2.1 56 = .ok (.invokevirtual 254, 3) := by decide +kernel
theorem dM_takesHead_59 : decode mM_takesHead.2.1 59 = .ok (.ireturn, 1) := by decide +kernel
theorem dM_takesHead_60 : decode mM_takesHead.2.1 60 = .ok (.aload_n 0, 1) := by decide +kernel
theorem dM_takesHead_61 : decode mM_takesHead.2.1 61 = .ok (.getfield 65, 3) := by decide +kernel
theorem dM_takesHead_64 : decode mM_takesHead.2.1 64 = .ok (.iload_n 1, 1) := by decide +kernel
theorem dM_takesHead_65 : decode mM_takesHead.2.1 65 = .ok (.iconst 2, 1) := by decide +kernel
theorem dM_takesHead_66 : decode mM_takesHead.2.1 66 = .ok (.iastore, 1) := by decide +kernel
theorem dM_takesHead_67 : decode mM_takesHead.2.1 67 = .ok (.aload_n 0, 1) := by decide +kernel
theorem dM_takesHead_68 : decode mM_takesHead.2.1 68 = .ok (.bipush 7, 2) := by decide +kernel
theorem dM_takesHead_70 : decode mM_takesHead.2.1 70 = .ok (.iconst 4, 1) := by decide +kernel
theorem dM_takesHead_71 : decode mM_takesHead.2.1 71 = .ok (.invokevirtual 254, 3) := by decide +kernel
theorem dM_takesHead_74 : decode mM_takesHead.2.1 74 = .ok (.ireturn, 1) := by decide +kernel
theorem dM_takesClause_0 : decode mM_takesClause.2.1 0 = .ok (.aload_n 0, 1) := by decide +kernel
theorem dM_takesClause_1 : decode mM_takesClause.2.1 1 = .ok (.iload_n 1, 1) := by decide +kernel
theorem dM_takesClause_2 : decode mM_takesClause.2.1 2 = .ok (.invokevirtual 258, 3) := by decide +kernel
theorem dM_takesClause_5 : decode mM_takesClause.2.1 5 = .ok (.ifCond .eq 10, 3) := by decide +kernel
theorem dM_takesClause_8 : decode mM_takesClause.2.1 8 = .ok (.aload_n 0, 1) := by decide +kernel
theorem dM_takesClause_9 : decode mM_takesClause.2.1 9 = .ok (.invokevirtual 242, 3) := by decide +kernel
theorem dM_takesClause_12 : decode mM_takesClause.2.1 12 = .ok (.ifCond .ne 5, 3) := by decide +kernel
theorem dM_takesClause_15 : decode mM_takesClause.2.1 15 = .ok (.iconst 0, 1) := by decide +kernel
theorem dM_takesClause_16 : decode mM_takesClause.2.1 16 = .ok (.ireturn, 1) := by decide +kernel
theorem dM_takesClause_17 : decode mM_takesClause.2.1 17 = .ok (.aload_n 0, 1) := by decide +kernel
theorem dM_takesClause_18 : decode mM_takesClause.2.1 18 = .ok (.getfield 68, 3) := by decide +kernel
theorem dM_takesClause_21 : decode mM_takesClause.2.1 21 = .ok (.iload_n 1, 1) := by decide +kernel
theorem dM_takesClause_22 : decode mM_takesClause.2.1 22 = .ok (.aload_n 0, 1) := by decide +kernel
theorem dM_takesClause_23 : decode mM_takesClause.2.1 23 = .ok (.getfield 56, 3) := by decide +kernel
theorem dM_takesClause_26 : decode mM_takesClause.2.1 26 = .ok (.iastore, 1) := by decide +kernel
theorem dM_takesClause_27 : decode mM_takesClause.2.1 27 = .ok (.aload_n 0, 1) := by decide +kernel
theorem dM_takesClause_28 : decode mM_takesClause.2.1 28 = .ok (.getfield 65, 3) := by decide +kernel
theorem dM_takesClause_31 : decode mM_takesClause.2.1 31 = .ok (.iload_n 1, 1) := by decide +kernel
theorem dM_takesClause_32 : decode mM_takesClause.2.1 32 = .ok (.iaload, 1) := by decide +kernel
theorem dM_takesClause_33 : decode mM_takesClause.2.1 33 = .ok (.iconst 2, 1) := by decide +kernel
theorem dM_takesClause_34 : decode mM_takesClause.2.1 34 = .ok (.if_icmp .eq 20, 3) := by decide +kernel
theorem dM_takesClause_37 : decode mM_takesClause.2.1 37 = .ok (.aload_n 0, 1) := by decide +kernel
theorem dM_takesClause_38 : decode mM_takesClause.2.1 38 = .ok (.bipush 32, 2) := by decide +kernel
theorem dM_takesClause_40 : decode mM_takesClause.2.1 40 = .ok (.invokevirtual 228, 3) := by decide +kernel
theorem dM_takesClause_43 : decode mM_takesClause.2.1 43 = .ok (.ifCond .eq 15, 3) := by decide +kernel
theorem dM_takesClause_46 : decode mM_takesClause.2.1 46 = .ok (.aload_n 0, 1) := by decide +kernel
theorem dM_takesClause_47 : decode mM_takesClause.2.1 47 = .ok (.iload_n 1, 1) := by decide +kernel
theorem dM_takesClause_48 : decode mM_takesClause.2.1 48 = .ok (.invokevirtual 261, 3) := by decide +kernel
theorem dM_takesClause_51 : decode mM_takesClause.2.1 51 = .ok (.ifCond .eq 7, 3) := by decide +kernel
theorem dM_takesClause_54 : decode mM_takesClause.2.1 54 = .ok (.iconst 1, 1) := by decide +kernel
theorem dM_takesClause_55 : decode mM_takesClause.2.1 55 = .ok (.goto 4, 3) := by decide +kernel
theorem dM_takesClause_58 : decode mM_takesClause.2.1 58 = .ok (.iconst 0, 1) := by decide +kernel
theorem dM_takesClause_59 : decode mM_takesClause.2.1 59 = .ok (.ireturn, 1) := by decide +kernel
theorem dM_goesText_0 : decode mM_goesText.2.1 0 = .ok (.aload_n 0, 1) := by decide +kernel
theorem dM_goesText_1 : decode mM_goesText.2.1 1 = .ok (.iconst 0, 1) := by decide +kernel
theorem dM_goesText_2 : decode mM_goesText.2.1 2 = .ok (.putfield 53, 3) := by decide +kernel
theorem dM_goesText_5 : decode mM_goesText.2.1 5 = .ok (.aload_n 0, 1) := by decide +kernel
theorem dM_goesText_6 : decode mM_goesText.2.1 6 = .ok (.bipush 100, 2) := by decide +kernel
theorem dM_goesText_8 : decode mM_goesText.2.1 8 = .ok (.iload_n 1, 1) := by decide +kernel
theorem dM_goesText_9 : decode mM_goesText.2.1 9 = .ok (.imul, 1) := by decide +kernel
theorem dM_goesText_10 : decode mM_goesText.2.1 10 = .ok (.putfield 83, 3) := by decide +kernel
theorem dM_goesText_13 : decode mM_goesText.2.1 13 = .ok (.iconst 0, 1) := by decide +kernel
theorem dM_goesText_14 : decode mM_goesText.2.1 14 = .ok (.istore_n 2, 1) := by decide +kernel
theorem dM_goesText_15 : decode mM_goesText.2.1 15 = .ok (.aload_n 0, 1) := by decide +kernel
theorem dM_goesText_16 : decode mM_goesText.2.1 16 = .ok (.bipush 10, 2) := by decide +kernel
theorem dM_goesText_18 : decode mM_goesText.2.1 18 = .ok (.iload_n 1, 1) := by decide +kernel
theorem dM_goesText_19 : decode mM_goesText.2.1 19 = .ok (.imul, 1) := by decide +kernel
theorem dM_goesText_20 : decode mM_goesText.2.1 20 = .ok (.iload_n 2, 1) := by decide +kernel
theorem dM_goesText_21 : decode mM_goesText.2.1 21 = .ok (.iadd, 1) := by decide +kernel
theorem dM_goesText_22 : decode mM_goesText.2.1 22 = .ok (.invokevirtual 264, 3) := by decide +kernel
theorem dM_goesText_25 : decode mM_goesText.2.1 25 = .ok (.ifCond .ne 5, 3) := by decide +kernel
theorem dM_goesText_28 : decode mM_goesText.2.1 28 = .ok (.iconst 0, 1) := by decide +kernel
theorem dM_goesText_29 : decode mM_goesText.2.1 29 = .ok (.ireturn, 1) := by decide +kernel
theorem dM_goesText_30 : decode mM_goesText.2.1 30 = .ok (.iinc 2 1, 3) := by decide +kernel
theorem dM_goesText_33 : decode mM_goesText.2.1 33 = .ok (.aload_n 0, 1) := by decide +kernel
theorem dM_goesText_34 : decode mM_goesText.2.1 34 = .ok (.getfield 62, 3) := by decide +kernel
theorem dM_goesText_37 : decode mM_goesText.2.1 37 = .ok (.iload_n 1, 1) := by decide +kernel
theorem dM_goesText_38 : decode mM_goesText.2.1 38 = .ok (.iload_n 2, 1) := by decide +kernel
theorem dM_goesText_39 : decode mM_goesText.2.1 39 = .ok (.iastore, 1) := by decide +kernel
theorem dM_goesText_40 : decode mM_goesText.2.1 40 = .ok (.aload_n 0, 1) := by decide +kernel
theorem dM_goesText_41 : decode mM_goesText.2.1 41 = .ok (.getfield 53, 3) := by decide +kernel
theorem dM_goesText_44 : decode mM_goesText.2.1 44 = .ok (.aload_n 0, 1) := by decide +kernel
theorem dM_goesText_45 : decode mM_goesText.2.1 45 = .ok (.getfield 50, 3) := by decide +kernel
theorem dM_goesText_48 : decode mM_goesText.2.1 48 = .ok (.if_icmp .ne 5, 3) := by decide +kernel
theorem dM_goesText_51 : decode mM_goesText.2.1 51 = .ok (.iconst 1, 1) := by decide +kernel
theorem dM_goesText_52 : decode mM_goesText.2.1 52 = .ok (.ireturn, 1) := by decide +kernel
theorem dM_goesText_53 : decode mM_goesText.2.1 53 = .ok (.iload_n 2, 1) := by decide +kernel
theorem dM_goesText_54 : decode mM_goesText.2.1 54 = .ok (.bipush 10, 2) := by decide +kernel
theorem dM_goesText_56 : decode mM_goesText.2.1 56 = .ok (.if_icmp .eq 12, 3) := by decide +kernel
theorem dM_goesText_59 : decode mM_goesText.2.1 59 = .ok (.aload_n 0, 1) := by decide +kernel
theorem dM_goesText_60 : decode mM_goesText.2.1 60 = .ok (.bipush 59, 2) := by decide +kernel
theorem dM_goesText_62 : decode mM_goesText.2.1 62 = .ok (.invokevirtual 228, 3) := by decide +kernel
theorem dM_goesText_65 : decode mM_goesText.2.1 65 = .ok (.ifCond .ne (-50), 3) := by decide +kernel
theorem dM_goesText_68 : decode mM_goesText.2.1 68 = .ok (.iconst 0, 1) := by decide +kernel
theorem dM_goesText_69 : decode mM_goesText.2.1 69 = .ok (.ireturn, 1) := by decide +kernel
theorem dM_law_0 : decode mM_law.2.1 0 = .ok (.aload_n 0, 1) := by decide +kernel
theorem dM_law_1 : decode mM_law.2.1 1 = .ok (.getfield 44, 3) := by decide +kernel
theorem dM_law_4 : decode mM_law.2.1 4 = .ok (.bipush 6, 2) := by decide +kernel
theorem dM_law_6 : decode mM_law.2.1 6 = .ok (.if_icmp .ne 6, 3) := by decide +kernel
theorem dM_law_9 : decode mM_law.2.1 9 = .ok (.bipush (-4), 2) := by decide +kernel
theorem dM_law_11 : decode mM_law.2.1 11 = .ok (.ireturn, 1) := by decide +kernel
theorem dM_law_12 : decode mM_law.2.1 12 = .ok (.aload_n 0, 1) := by decide +kernel
theorem dM_law_13 : decode mM_law.2.1 13 = .ok (.aload_n 0, 1) := by decide +kernel
theorem dM_law_14 : decode mM_law.2.1 14 = .ok (.getfield 44, 3) := by decide +kernel
theorem dM_law_17 : decode mM_law.2.1 17 = .ok (.invokevirtual 267, 3) := by decide +kernel
theorem dM_law_20 : decode mM_law.2.1 20 = .ok (.istore_n 1, 1) := by decide +kernel
theorem dM_law_21 : decode mM_law.2.1 21 = .ok (.aload_n 0, 1) := by decide +kernel
theorem dM_law_22 : decode mM_law.2.1 22 = .ok (.iconst 0, 1) := by decide +kernel
theorem dM_law_23 : decode mM_law.2.1 23 = .ok (.putfield 50, 3) := by decide +kernel
theorem dM_law_26 : decode mM_law.2.1 26 = .ok (.iload_n 1, 1) := by decide +kernel
theorem dM_law_27 : decode mM_law.2.1 27 = .ok (.ifCond .ne 11, 3) := by decide +kernel
theorem dM_law_30 : decode mM_law.2.1 30 = .ok (.bipush (-10), 2) := by decide +kernel
theorem dM_law_32 : decode mM_law.2.1 32 = .ok (.aload_n 0, 1) := by decide +kernel
theorem dM_law_33 : decode mM_law.2.1 33 = .ok (.getfield 53, 3) := by decide +kernel
theorem dM_law_36 : decode mM_law.2.1 36 = .ok (.isub, 1) := by decide +kernel
theorem dM_law_37 : decode mM_law.2.1 37 = .ok (.ireturn, 1) := by decide +kernel
theorem dM_law_38 : decode mM_law.2.1 38 = .ok (.aload_n 0, 1) := by decide +kernel
theorem dM_law_39 : decode mM_law.2.1 39 = .ok (.aload_n 0, 1) := by decide +kernel
theorem dM_law_40 : decode mM_law.2.1 40 = .ok (.getfield 44, 3) := by decide +kernel
theorem dM_law_43 : decode mM_law.2.1 43 = .ok (.putfield 47, 3) := by decide +kernel
theorem dM_law_46 : decode mM_law.2.1 46 = .ok (.aload_n 0, 1) := by decide +kernel
theorem dM_law_47 : decode mM_law.2.1 47 = .ok (.dup, 1) := by decide +kernel
theorem dM_law_48 : decode mM_law.2.1 48 = .ok (.getfield 44, 3) := by decide +kernel
theorem dM_law_51 : decode mM_law.2.1 51 = .ok (.iconst 1, 1) := by decide +kernel
theorem dM_law_52 : decode mM_law.2.1 52 = .ok (.iadd, 1) := by decide +kernel
theorem dM_law_53 : decode mM_law.2.1 53 = .ok (.putfield 44, 3) := by decide +kernel
theorem dM_law_56 : decode mM_law.2.1 56 = .ok (.aload_n 0, 1) := by decide +kernel
theorem dM_law_57 : decode mM_law.2.1 57 = .ok (.getfield 47, 3) := by decide +kernel
theorem dM_law_60 : decode mM_law.2.1 60 = .ok (.ireturn, 1) := by decide +kernel
theorem dM_begin_0 : decode mM_begin.2.1 0 = .ok (.aload_n 0, 1) := by decide +kernel
theorem dM_begin_1 : decode mM_begin.2.1 1 = .ok (.getfield 47, 3) := by decide +kernel
theorem dM_begin_4 : decode mM_begin.2.1 4 = .ok (.ifCond .ge 7, 3) := by decide +kernel
theorem dM_begin_7 : decode mM_begin.2.1 7 = .ok (.iconst 0, 1) := by decide +kernel
theorem dM_begin_8 : decode mM_begin.2.1 8 = .ok (.goto 10, 3) := by decide +kernel
theorem dM_begin_11 : decode mM_begin.2.1 11 = .ok (.bipush 10, 2) := by decide +kernel
theorem dM_begin_13 : decode mM_begin.2.1 13 = .ok (.aload_n 0, 1) := by decide +kernel
theorem dM_begin_14 : decode mM_begin.2.1 14 = .ok (.getfield 47, 3) := by decide +kernel
theorem dM_begin_17 : decode mM_begin.2.1 17 = .ok (.imul, 1) := by decide +kernel
theorem dM_begin_18 : decode mM_begin.2.1 18 = .ok (.ireturn, 1) := by decide +kernel
theorem dM_behind_0 : decode mM_behind.2.1 0 = .ok (.aload_n 0, 1) := by decide +kernel
theorem dM_behind_1 : decode mM_behind.2.1 1 = .ok (.getfield 47, 3) := by decide +kernel
theorem dM_behind_4 : decode mM_behind.2.1 4 = .ok (.ifCond .ge 7, 3) := by decide +kernel
theorem dM_behind_7 : decode mM_behind.2.1 7 = .ok (.iconst 0, 1) := by decide +kernel
theorem dM_behind_8 : decode mM_behind.2.1 8 = .ok (.goto 20, 3) := by decide +kernel
theorem dM_behind_11 : decode mM_behind.2.1 11 = .ok (.bipush 10, 2) := by decide +kernel
theorem dM_behind_13 : decode mM_behind.2.1 13 = .ok (.aload_n 0, 1) := by decide +kernel
theorem dM_behind_14 : decode mM_behind.2.1 14 = .ok (.getfield 47, 3) := by decide +kernel
theorem dM_behind_17 : decode mM_behind.2.1 17 = .ok (.imul, 1) := by decide +kernel
theorem dM_behind_18 : decode mM_behind.2.1 18 = .ok (.aload_n 0, 1) := by decide +kernel
theorem dM_behind_19 : decode mM_behind.2.1 19 = .ok (.getfield 62, 3) := by decide +kernel
theorem dM_behind_22 : decode mM_behind.2.1 22 = .ok (.aload_n 0, 1) := by decide +kernel
theorem dM_behind_23 : decode mM_behind.2.1 23 = .ok (.getfield 47, 3) := by decide +kernel
theorem dM_behind_26 : decode mM_behind.2.1 26 = .ok (.iaload, 1) := by decide +kernel
theorem dM_behind_27 : decode mM_behind.2.1 27 = .ok (.iadd, 1) := by decide +kernel
theorem dM_behind_28 : decode mM_behind.2.1 28 = .ok (.ireturn, 1) := by decide +kernel
theorem dM_base_0 : decode mM_base.2.1 0 = .ok (.bipush 10, 2) := by decide +kernel
theorem dM_base_2 : decode mM_base.2.1 2 = .ok (.istore_n 1, 1) := by decide +kernel
theorem dM_base_3 : decode mM_base.2.1 3 = .ok (.aload_n 0, 1) := by decide +kernel
theorem dM_base_4 : decode mM_base.2.1 4 = .ok (.invokevirtual 270, 3) := by decide +kernel
theorem dM_base_7 : decode mM_base.2.1 7 = .ok (.istore_n 2, 1) := by decide +kernel
theorem dM_base_8 : decode mM_base.2.1 8 = .ok (.iload_n 2, 1) := by decide +kernel
theorem dM_base_9 : decode mM_base.2.1 9 = .ok (.aload_n 0, 1) := by decide +kernel
theorem dM_base_10 : decode mM_base.2.1 10 = .ok (.invokevirtual 273, 3) := by decide +kernel
theorem dM_base_13 : decode mM_base.2.1 13 = .ok (.if_icmp .ge 30, 3) := by decide +kernel
theorem dM_base_16 : decode mM_base.2.1 16 = .ok (.aload_n 0, 1) := by decide +kernel
theorem dM_base_17 : decode mM_base.2.1 17 = .ok (.getfield 65, 3) := by decide +kernel
theorem dM_base_20 : decode mM_base.2.1 20 = .ok (.iload_n 2, 1) := by decide +kernel
theorem dM_base_21 : decode mM_base.2.1 21 = .ok (.iaload, 1) := by decide +kernel
theorem dM_base_22 : decode mM_base.2.1 22 = .ok (.iconst 2, 1) := by decide +kernel
theorem dM_base_23 : decode mM_base.2.1 23 = .ok (.if_icmp .ne 12, 3) := by decide +kernel
theorem dM_base_26 : decode mM_base.2.1 26 = .ok (.aload_n 0, 1) := by decide +kernel
theorem dM_base_27 : decode mM_base.2.1 27 = .ok (.getfield 68, 3) := by decide +kernel
theorem dM_base_30 : decode mM_base.2.1 30 = .ok (.iload_n 2, 1) := by decide +kernel
theorem dM_base_31 : decode mM_base.2.1 31 = .ok (.iaload, 1) := by decide +kernel
theorem dM_base_32 : decode mM_base.2.1 32 = .ok (.goto 4, 3) := by decide +kernel
theorem dM_base_35 : decode mM_base.2.1 35 = .ok (.iload_n 1, 1) := by decide +kernel
theorem dM_base_36 : decode mM_base.2.1 36 = .ok (.istore_n 1, 1) := by decide +kernel
theorem dM_base_37 : decode mM_base.2.1 37 = .ok (.iinc 2 1, 3) := by decide +kernel
theorem dM_base_40 : decode mM_base.2.1 40 = .ok (.goto (-32), 3) := by decide +kernel
theorem dM_base_43 : decode mM_base.2.1 43 = .ok (.iload_n 1, 1) := by decide +kernel
theorem dM_base_44 : decode mM_base.2.1 44 = .ok (.ireturn, 1) := by decide +kernel
theorem dM_factOf_0 : decode mM_factOf.2.1 0 = .ok (.iload_n 1, 1) := by decide +kernel
theorem dM_factOf_1 : decode mM_factOf.2.1 1 = .ok (.tableswitch 64 0 4 #[35, 37, 44, 55, 57], 35) := by decide +kernel
theorem dM_factOf_36 : decode mM_factOf.2.1 36 = .ok (.iload_n 2, 1) := by decide +kernel
theorem dM_factOf_37 : decode mM_factOf.2.1 37 = .ok (.ireturn, 1) := by decide +kernel
theorem dM_factOf_38 : decode mM_factOf.2.1 38 = .ok (.aload_n 0, 1) := by decide +kernel
theorem dM_factOf_39 : decode mM_factOf.2.1 39 = .ok (.getfield 26, 3) := by decide +kernel
theorem dM_factOf_42 : decode mM_factOf.2.1 42 = .ok (.iload_n 2, 1) := by decide +kernel
theorem dM_factOf_43 : decode mM_factOf.2.1 43 = .ok (.iaload, 1) := by decide +kernel
theorem dM_factOf_44 : decode mM_factOf.2.1 44 = .ok (.ireturn, 1) := by decide +kernel
theorem dM_factOf_45 : decode mM_factOf.2.1 45 = .ok (.aload_n 0, 1) := by decide +kernel
theorem dM_factOf_46 : decode mM_factOf.2.1 46 = .ok (.aload_n 0, 1) := by decide +kernel
theorem dM_factOf_47 : decode mM_factOf.2.1 47 = .ok (.getfield 32, 3) := by decide +kernel
theorem dM_factOf_50 : decode mM_factOf.2.1 50 = .ok (.iload_n 2, 1) := by decide +kernel
theorem dM_factOf_51 : decode mM_factOf.2.1 51 = .ok (.iaload, 1) := by decide +kernel
theorem dM_factOf_52 : decode mM_factOf.2.1 52 = .ok (.invokevirtual 276, 3) := by decide +kernel
theorem dM_factOf_55 : decode mM_factOf.2.1 55 = .ok (.ireturn, 1) := by decide +kernel
theorem dM_factOf_56 : decode mM_factOf.2.1 56 = .ok (.iload_n 3, 1) := by decide +kernel
theorem dM_factOf_57 : decode mM_factOf.2.1 57 = .ok (.ireturn, 1) := by decide +kernel
theorem dM_factOf_58 : decode mM_factOf.2.1 58 = .ok (.aload_n 0, 1) := by decide +kernel
theorem dM_factOf_59 : decode mM_factOf.2.1 59 = .ok (.getfield 22, 3) := by decide +kernel
theorem dM_factOf_62 : decode mM_factOf.2.1 62 = .ok (.iload_n 3, 1) := by decide +kernel
theorem dM_factOf_63 : decode mM_factOf.2.1 63 = .ok (.iaload, 1) := by decide +kernel
theorem dM_factOf_64 : decode mM_factOf.2.1 64 = .ok (.ireturn, 1) := by decide +kernel
theorem dM_factOf_65 : decode mM_factOf.2.1 65 = .ok (.aload_n 0, 1) := by decide +kernel
theorem dM_factOf_66 : decode mM_factOf.2.1 66 = .ok (.iload_n 2, 1) := by decide +kernel
theorem dM_factOf_67 : decode mM_factOf.2.1 67 = .ok (.invokevirtual 220, 3) := by decide +kernel
theorem dM_factOf_70 : decode mM_factOf.2.1 70 = .ok (.bipush 99, 2) := by decide +kernel
theorem dM_factOf_72 : decode mM_factOf.2.1 72 = .ok (.if_icmp .le 8, 3) := by decide +kernel
theorem dM_factOf_75 : decode mM_factOf.2.1 75 = .ok (.bipush 99, 2) := by decide +kernel
theorem dM_factOf_77 : decode mM_factOf.2.1 77 = .ok (.goto 8, 3) := by decide +kernel
theorem dM_factOf_80 : decode mM_factOf.2.1 80 = .ok (.aload_n 0, 1) := by decide +kernel
theorem dM_factOf_81 : decode mM_factOf.2.1 81 = .ok (.iload_n 2, 1) := by decide +kernel
theorem dM_factOf_82 : decode mM_factOf.2.1 82 = .ok (.invokevirtual 220, 3) := by decide +kernel
theorem dM_factOf_85 : decode mM_factOf.2.1 85 = .ok (.ireturn, 1) := by decide +kernel
theorem dM_holds_0 : decode mM_holds.2.1 0 = .ok (.iconst 0, 1) := by decide +kernel
theorem dM_holds_1 : decode mM_holds.2.1 1 = .ok (.istore 4, 2) := by decide +kernel
theorem dM_holds_3 : decode mM_holds.2.1 3 = .ok (.aload_n 0, 1) := by decide +kernel
theorem dM_holds_4 : decode mM_holds.2.1 4 = .ok (.getfield 71, 3) := by decide +kernel
theorem dM_holds_7 : decode mM_holds.2.1 7 = .ok (.iload_n 1, 1) := by decide +kernel
theorem dM_holds_8 : decode mM_holds.2.1 8 = .ok (.iaload, 1) := by decide +kernel
theorem dM_holds_9 : decode mM_holds.2.1 9 = .ok (.istore 5, 2) := by decide +kernel
theorem dM_holds_11 : decode mM_holds.2.1 11 = .ok (.iload 5, 2) := by decide +kernel
theorem dM_holds_13 : decode mM_holds.2.1 13 = .ok (.aload_n 0, 1) := by decide +kernel
theorem dM_holds_14 : decode mM_holds.2.1 14 = .ok (.getfield 74, 3) := by decide +kernel
theorem dM_holds_17 : decode mM_holds.2.1 17 = .ok (.iload_n 1, 1) := by decide +kernel
theorem dM_holds_18 : decode mM_holds.2.1 18 = .ok (.iaload, 1) := by decide +kernel
theorem dM_holds_19 : decode mM_holds.2.1 19 = .ok (.if_icmp .ge 234, 3) := by decide +kernel
theorem dM_holds_22 : decode mM_holds.2.1 22 = .ok (.aload_n 0, 1) := by decide +kernel
theorem dM_holds_23 : decode mM_holds.2.1 23 = .ok (.getfield 77, 3) := by decide +kernel
theorem dM_holds_26 : decode mM_holds.2.1 26 = .ok (.iload 5, 2) := by decide +kernel
theorem dM_holds_28 : decode mM_holds.2.1 28 = .ok (.iaload, 1) := by decide +kernel
theorem dM_holds_29 : decode mM_holds.2.1 29 = .ok (.istore 6, 2) := by decide +kernel
theorem dM_holds_31 : decode mM_holds.2.1 31 = .ok (.iload 6, 2) := by decide +kernel
theorem dM_holds_33 : decode mM_holds.2.1 33 = .ok (.bipush (-33), 2) := by decide +kernel
theorem dM_holds_35 : decode mM_holds.2.1 35 = .ok (.if_icmp .ne 32, 3) := by decide +kernel
theorem dM_holds_38 : decode mM_holds.2.1 38 = .ok (.aload_n 0, 1) := by decide +kernel
theorem dM_holds_39 : decode mM_holds.2.1 39 = .ok (.getfield 95, 3) := by decide +kernel
theorem dM_holds_42 : decode mM_holds.2.1 42 = .ok (.iload 4, 2) := by decide +kernel
theorem dM_holds_44 : decode mM_holds.2.1 44 = .ok (.iconst 1, 1) := by decide +kernel
theorem dM_holds_45 : decode mM_holds.2.1 45 = .ok (.isub, 1) := by decide +kernel
theorem dM_holds_46 : decode mM_holds.2.1 46 = .ok (.aload_n 0, 1) := by decide +kernel
theorem dM_holds_47 : decode mM_holds.2.1 47 = .ok (.getfield 95, 3) := by decide +kernel
theorem dM_holds_50 : decode mM_holds.2.1 50 = .ok (.iload 4, 2) := by decide +kernel
theorem dM_holds_52 : decode mM_holds.2.1 52 = .ok (.iconst 1, 1) := by decide +kernel
theorem dM_holds_53 : decode mM_holds.2.1 53 = .ok (.isub, 1) := by decide +kernel
theorem dM_holds_54 : decode mM_holds.2.1 54 = .ok (.baload, 1) := by decide +kernel
theorem dM_holds_55 : decode mM_holds.2.1 55 = .ok (.ifCond .ne 7, 3) := by decide +kernel
theorem dM_holds_58 : decode mM_holds.2.1 58 = .ok (.iconst 1, 1) := by decide +kernel
theorem dM_holds_59 : decode mM_holds.2.1 59 = .ok (.goto 4, 3) := by decide +kernel
theorem dM_holds_62 : decode mM_holds.2.1 62 = .ok (.iconst 0, 1) := by decide +kernel
theorem dM_holds_63 : decode mM_holds.2.1 63 = .ok (.bastore, 1) := by decide +kernel
theorem dM_holds_64 : decode mM_holds.2.1 64 = .ok (.goto 183, 3) := by decide +kernel
theorem dM_holds_67 : decode mM_holds.2.1 67 = .ok (.iload 6, 2) := by decide +kernel
theorem dM_holds_69 : decode mM_holds.2.1 69 = .ok (.ifCond .ge 82, 3) := by decide +kernel
theorem dM_holds_72 : decode mM_holds.2.1 72 = .ok (.iinc 4 (-1), 3) := by decide +kernel
theorem dM_holds_75 : decode mM_holds.2.1 75 = .ok (.aload_n 0, 1) := by decide +kernel
theorem dM_holds_76 : decode mM_holds.2.1 76 = .ok (.getfield 95, 3) := by decide +kernel
theorem dM_holds_79 : decode mM_holds.2.1 79 = .ok (.iload 4, 2) := by decide +kernel
theorem dM_holds_81 : decode mM_holds.2.1 81 = .ok (.iconst 1, 1) := by decide +kernel
theorem dM_holds_82 : decode mM_holds.2.1 82 = .ok (.isub, 1) := by decide +kernel
theorem dM_holds_83 : decode mM_holds.2.1 83 = .ok (.iload 6, 2) := by decide +kernel
theorem dM_holds_85 : decode mM_holds.2.1 85 = .ok (.bipush (-38), 2) := by decide +kernel
theorem dM_holds_87 : decode mM_holds.2.1 87 = .ok (.if_icmp .ne 33, 3) := by decide +kernel
theorem dM_holds_90 : decode mM_holds.2.1 90 = .ok (.aload_n 0, 1) := by decide +kernel
theorem dM_holds_91 : decode mM_holds.2.1 91 = .ok (.getfield 95, 3) := by decide +kernel
theorem dM_holds_94 : decode mM_holds.2.1 94 = .ok (.iload 4, 2) := by decide +kernel
theorem dM_holds_96 : decode mM_holds.2.1 96 = .ok (.iconst 1, 1) := by decide +kernel
theorem dM_holds_97 : decode mM_holds.2.1 97 = .ok (.isub, 1) := by decide +kernel
theorem dM_holds_98 : decode mM_holds.2.1 98 = .ok (.baload, 1) := by decide +kernel
theorem dM_holds_99 : decode mM_holds.2.1 99 = .ok (.ifCond .eq 17, 3) := by decide +kernel
theorem dM_holds_102 : decode mM_holds.2.1 102 = .ok (.aload_n 0, 1) := by decide +kernel
theorem dM_holds_103 : decode mM_holds.2.1 103 = .ok (.getfield 95, 3) := by decide +kernel
theorem dM_holds_106 : decode mM_holds.2.1 106 = .ok (.iload 4, 2) := by decide +kernel
theorem dM_holds_108 : decode mM_holds.2.1 108 = .ok (.baload, 1) := by decide +kernel
theorem dM_holds_109 : decode mM_holds.2.1 109 = .ok (.ifCond .eq 7, 3) := by decide +kernel
theorem dM_holds_112 : decode mM_holds.2.1 112 = .ok (.iconst 1, 1) := by decide +kernel
theorem dM_holds_113 : decode mM_holds.2.1 113 = .ok (.goto 34, 3) := by decide +kernel
theorem dM_holds_116 : decode mM_holds.2.1 116 = .ok (.iconst 0, 1) := by decide +kernel
theorem dM_holds_117 : decode mM_holds.2.1 117 = .ok (.goto 30, 3) := by decide +kernel
theorem dM_holds_120 : decode mM_holds.2.1 120 = .ok (.aload_n 0, 1) := by decide +kernel
theorem dM_holds_121 : decode mM_holds.2.1 121 = .ok (.getfield 95, 3) := by decide +kernel
theorem dM_holds_124 : decode mM_holds.2.1 124 = .ok (.iload 4, 2) := by decide +kernel
theorem dM_holds_126 : decode mM_holds.2.1 126 = .ok (.iconst 1, 1) := by decide +kernel
theorem dM_holds_127 : decode mM_holds.2.1 127 = .ok (.isub, 1) := by decide +kernel
theorem dM_holds_128 : decode mM_holds.2.1 128 = .ok (.baload, 1) := by decide +kernel
theorem dM_holds_129 : decode mM_holds.2.1 129 = .ok (.ifCond .ne 13, 3) := by decide +kernel
theorem dM_holds_132 : decode mM_holds.2.1 132 = .ok (.aload_n 0, 1) := by decide +kernel
theorem dM_holds_133 : decode mM_holds.2.1 133 = .ok (.getfield 95, 3) := by decide +kernel
theorem dM_holds_136 : decode mM_holds.2.1 136 = .ok (.iload 4, 2) := by decide +kernel
theorem dM_holds_138 : decode mM_holds.2.1 138 = .ok (.baload, 1) := by decide +kernel
theorem dM_holds_139 : decode mM_holds.2.1 139 = .ok (.ifCond .eq 7, 3) := by decide +kernel
theorem dM_holds_142 : decode mM_holds.2.1 142 = .ok (.iconst 1, 1) := by decide +kernel
theorem dM_holds_143 : decode mM_holds.2.1 143 = .ok (.goto 4, 3) := by decide +kernel
theorem dM_holds_146 : decode mM_holds.2.1 146 = .ok (.iconst 0, 1) := by decide +kernel
theorem dM_holds_147 : decode mM_holds.2.1 147 = .ok (.bastore, 1) := by decide +kernel
theorem dM_holds_148 : decode mM_holds.2.1 148 = .ok (.goto 99, 3) := by decide +kernel
theorem dM_holds_151 : decode mM_holds.2.1 151 = .ok (.aload_n 0, 1) := by decide +kernel
theorem dM_holds_152 : decode mM_holds.2.1 152 = .ok (.iload 6, 2) := by decide +kernel
theorem dM_holds_154 : decode mM_holds.2.1 154 = .ok (.sipush 1000, 3) := by decide +kernel
theorem dM_holds_157 : decode mM_holds.2.1 157 = .ok (.idiv, 1) := by decide +kernel
theorem dM_holds_158 : decode mM_holds.2.1 158 = .ok (.iload_n 2, 1) := by decide +kernel
theorem dM_holds_159 : decode mM_holds.2.1 159 = .ok (.iload_n 3, 1) := by decide +kernel
theorem dM_holds_160 : decode mM_holds.2.1 160 = .ok (.invokevirtual 279, 3) := by decide +kernel
theorem dM_holds_163 : decode mM_holds.2.1 163 = .ok (.istore 7, 2) := by decide +kernel
theorem dM_holds_165 : decode mM_holds.2.1 165 = .ok (.iload 6, 2) := by decide +kernel
theorem dM_holds_167 : decode mM_holds.2.1 167 = .ok (.bipush 100, 2) := by decide +kernel
theorem dM_holds_169 : decode mM_holds.2.1 169 = .ok (.idiv, 1) := by decide +kernel
theorem dM_holds_170 : decode mM_holds.2.1 170 = .ok (.bipush 10, 2) := by decide +kernel
theorem dM_holds_172 : decode mM_holds.2.1 172 = .ok (.irem, 1) := by decide +kernel
theorem dM_holds_173 : decode mM_holds.2.1 173 = .ok (.istore 8, 2) := by decide +kernel
theorem dM_holds_175 : decode mM_holds.2.1 175 = .ok (.aload_n 0, 1) := by decide +kernel
theorem dM_holds_176 : decode mM_holds.2.1 176 = .ok (.getfield 95, 3) := by decide +kernel
theorem dM_holds_179 : decode mM_holds.2.1 179 = .ok (.iload 4, 2) := by decide +kernel
theorem dM_holds_181 : decode mM_holds.2.1 181 = .ok (.iload 8, 2) := by decide +kernel
theorem dM_holds_183 : decode mM_holds.2.1 183 = .ok (.ifCond .ne 21, 3) := by decide +kernel
theorem dM_holds_186 : decode mM_holds.2.1 186 = .ok (.iload 7, 2) := by decide +kernel
theorem dM_holds_188 : decode mM_holds.2.1 188 = .ok (.iload 6, 2) := by decide +kernel
theorem dM_holds_190 : decode mM_holds.2.1 190 = .ok (.bipush 100, 2) := by decide +kernel
theorem dM_holds_192 : decode mM_holds.2.1 192 = .ok (.irem, 1) := by decide +kernel
theorem dM_holds_193 : decode mM_holds.2.1 193 = .ok (.if_icmp .ge 7, 3) := by decide +kernel
theorem dM_holds_196 : decode mM_holds.2.1 196 = .ok (.iconst 1, 1) := by decide +kernel
theorem dM_holds_197 : decode mM_holds.2.1 197 = .ok (.goto 46, 3) := by decide +kernel
theorem dM_holds_200 : decode mM_holds.2.1 200 = .ok (.iconst 0, 1) := by decide +kernel
theorem dM_holds_201 : decode mM_holds.2.1 201 = .ok (.goto 42, 3) := by decide +kernel
theorem dM_holds_204 : decode mM_holds.2.1 204 = .ok (.iload 8, 2) := by decide +kernel
theorem dM_holds_206 : decode mM_holds.2.1 206 = .ok (.iconst 1, 1) := by decide +kernel
theorem dM_holds_207 : decode mM_holds.2.1 207 = .ok (.if_icmp .ne 21, 3) := by decide +kernel
theorem dM_holds_210 : decode mM_holds.2.1 210 = .ok (.iload 7, 2) := by decide +kernel
theorem dM_holds_212 : decode mM_holds.2.1 212 = .ok (.iload 6, 2) := by decide +kernel
theorem dM_holds_214 : decode mM_holds.2.1 214 = .ok (.bipush 100, 2) := by decide +kernel
theorem dM_holds_216 : decode mM_holds.2.1 216 = .ok (.irem, 1) := by decide +kernel
theorem dM_holds_217 : decode mM_holds.2.1 217 = .ok (.if_icmp .ne 7, 3) := by decide +kernel
theorem dM_holds_220 : decode mM_holds.2.1 220 = .ok (.iconst 1, 1) := by decide +kernel
theorem dM_holds_221 : decode mM_holds.2.1 221 = .ok (.goto 22, 3) := by decide +kernel
theorem dM_holds_224 : decode mM_holds.2.1 224 = .ok (.iconst 0, 1) := by decide +kernel
theorem dM_holds_225 : decode mM_holds.2.1 225 = .ok (.goto 18, 3) := by decide +kernel
theorem dM_holds_228 : decode mM_holds.2.1 228 = .ok (.iload 7, 2) := by decide +kernel
theorem dM_holds_230 : decode mM_holds.2.1 230 = .ok (.iload 6, 2) := by decide +kernel
theorem dM_holds_232 : decode mM_holds.2.1 232 = .ok (.bipush 100, 2) := by decide +kernel
theorem dM_holds_234 : decode mM_holds.2.1 234 = .ok (.irem, 1) := by decide +kernel
theorem dM_holds_235 : decode mM_holds.2.1 235 = .ok (.if_icmp .le 7, 3) := by decide +kernel
theorem dM_holds_238 : decode mM_holds.2.1 238 = .ok (.iconst 1, 1) := by decide +kernel
theorem dM_holds_239 : decode mM_holds.2.1 239 = .ok (.goto 4, 3) := by decide +kernel
theorem dM_holds_242 : decode mM_holds.2.1 242 = .ok (.iconst 0, 1) := by decide +kernel
theorem dM_holds_243 : decode mM_holds.2.1 243 = .ok (.bastore, 1) := by decide +kernel
theorem dM_holds_244 : decode mM_holds.2.1 244 = .ok (.iinc 4 1, 3) := by decide +kernel
theorem dM_holds_247 : decode mM_holds.2.1 247 = .ok (.iinc 5 1, 3) := by decide +kernel
theorem dM_holds_250 : decode mM_holds.2.1 250 = .ok (.goto (-239), 3) := by decide +kernel
theorem dM_holds_253 : decode mM_holds.2.1 253 = .ok (.aload_n 0, 1) := by decide +kernel
theorem dM_holds_254 : decode mM_holds.2.1 254 = .ok (.getfield 95, 3) := by decide +kernel
theorem dM_holds_257 : decode mM_holds.2.1 257 = .ok (.iconst 0, 1) := by decide +kernel
theorem dM_holds_258 : decode mM_holds.2.1 258 = .ok (.baload, 1) := by decide +kernel
theorem dM_holds_259 : decode mM_holds.2.1 259 = .ok (.ireturn, 1) := by decide +kernel
theorem dM_extra_0 : decode mM_extra.2.1 0 = .ok (.iconst 0, 1) := by decide +kernel
theorem dM_extra_1 : decode mM_extra.2.1 1 = .ok (.istore_n 3, 1) := by decide +kernel
theorem dM_extra_2 : decode mM_extra.2.1 2 = .ok (.aload_n 0, 1) := by decide +kernel
theorem dM_extra_3 : decode mM_extra.2.1 3 = .ok (.invokevirtual 270, 3) := by decide +kernel
theorem dM_extra_6 : decode mM_extra.2.1 6 = .ok (.istore 4, 2) := by decide +kernel
theorem dM_extra_8 : decode mM_extra.2.1 8 = .ok (.iload 4, 2) := by decide +kernel
theorem dM_extra_10 : decode mM_extra.2.1 10 = .ok (.aload_n 0, 1) := by decide +kernel
theorem dM_extra_11 : decode mM_extra.2.1 11 = .ok (.invokevirtual 273, 3) := by decide +kernel
theorem dM_extra_14 : decode mM_extra.2.1 14 = .ok (.if_icmp .ge 65, 3) := by decide +kernel
theorem dM_extra_17 : decode mM_extra.2.1 17 = .ok (.aload_n 0, 1) := by decide +kernel
theorem dM_extra_18 : decode mM_extra.2.1 18 = .ok (.getfield 65, 3) := by decide +kernel
theorem dM_extra_21 : decode mM_extra.2.1 21 = .ok (.iload 4, 2) := by decide +kernel
theorem dM_extra_23 : decode mM_extra.2.1 23 = .ok (.iaload, 1) := by decide +kernel
theorem dM_extra_24 : decode mM_extra.2.1 24 = .ok (.iconst 2, 1) := by decide +kernel
theorem dM_extra_25 : decode mM_extra.2.1 25 = .ok (.if_icmp .eq 48, 3) := by decide +kernel
theorem dM_extra_28 : decode mM_extra.2.1 28 = .ok (.aload_n 0, 1) := by decide +kernel
theorem dM_extra_29 : decode mM_extra.2.1 29 = .ok (.iload 4, 2) := by decide +kernel
theorem dM_extra_31 : decode mM_extra.2.1 31 = .ok (.iload_n 1, 1) := by decide +kernel
theorem dM_extra_32 : decode mM_extra.2.1 32 = .ok (.iload_n 2, 1) := by decide +kernel
theorem dM_extra_33 : decode mM_extra.2.1 33 = .ok (.invokevirtual 283, 3) := by decide +kernel
theorem dM_extra_36 : decode mM_extra.2.1 36 = .ok (.ifCond .ne 6, 3) := by decide +kernel
theorem dM_extra_39 : decode mM_extra.2.1 39 = .ok (.goto 34, 3) := by decide +kernel
theorem dM_extra_42 : decode mM_extra.2.1 42 = .ok (.iload_n 3, 1) := by decide +kernel
theorem dM_extra_43 : decode mM_extra.2.1 43 = .ok (.aload_n 0, 1) := by decide +kernel
theorem dM_extra_44 : decode mM_extra.2.1 44 = .ok (.getfield 65, 3) := by decide +kernel
theorem dM_extra_47 : decode mM_extra.2.1 47 = .ok (.iload 4, 2) := by decide +kernel
theorem dM_extra_49 : decode mM_extra.2.1 49 = .ok (.iaload, 1) := by decide +kernel
theorem dM_extra_50 : decode mM_extra.2.1 50 = .ok (.ifCond .ne 13, 3) := by decide +kernel
theorem dM_extra_53 : decode mM_extra.2.1 53 = .ok (.aload_n 0, 1) := by decide +kernel
theorem dM_extra_54 : decode mM_extra.2.1 54 = .ok (.getfield 68, 3) := by decide +kernel
theorem dM_extra_57 : decode mM_extra.2.1 57 = .ok (.iload 4, 2) := by decide +kernel
theorem dM_extra_59 : decode mM_extra.2.1 59 = .ok (.iaload, 1) := by decide +kernel
theorem dM_extra_60 : decode mM_extra.2.1 60 = .ok (.goto 11, 3) := by decide +kernel
theorem dM_extra_63 : decode mM_extra.2.1 63 = .ok (.aload_n 0, 1) := by decide +kernel
theorem dM_extra_64 : decode mM_extra.2.1 64 = .ok (.getfield 68, 3) := by decide +kernel
theorem dM_extra_67 : decode mM_extra.2.1 67 = .ok (.iload 4, 2) := by decide +kernel
theorem dM_extra_69 : decode mM_extra.2.1 69 = .ok (.iaload, 1) := by decide +kernel
theorem dM_extra_70 : decode mM_extra.2.1 70 = .ok (.ineg, 1) := by decide +kernel
theorem dM_extra_71 : decode mM_extra.2.1 71 = .ok (.iadd, 1) := by decide +kernel
theorem dM_extra_72 : decode mM_extra.2.1 72 = .ok (.istore_n 3, 1) := by decide +kernel
theorem dM_extra_73 : decode mM_extra.2.1 73 = .ok (.iinc 4 1, 3) := by decide +kernel
theorem dM_extra_76 : decode mM_extra.2.1 76 = .ok (.goto (-68), 3) := by decide +kernel
theorem dM_extra_79 : decode mM_extra.2.1 79 = .ok (.iload_n 3, 1) := by decide +kernel
theorem dM_extra_80 : decode mM_extra.2.1 80 = .ok (.ireturn, 1) := by decide +kernel
theorem dM_isTrue_0 : decode mM_isTrue.2.1 0 = .ok (.aload_n 0, 1) := by decide +kernel
theorem dM_isTrue_1 : decode mM_isTrue.2.1 1 = .ok (.aload_n 0, 1) := by decide +kernel
theorem dM_isTrue_2 : decode mM_isTrue.2.1 2 = .ok (.getfield 32, 3) := by decide +kernel
theorem dM_isTrue_5 : decode mM_isTrue.2.1 5 = .ok (.iload_n 1, 1) := by decide +kernel
theorem dM_isTrue_6 : decode mM_isTrue.2.1 6 = .ok (.iaload, 1) := by decide +kernel
theorem dM_isTrue_7 : decode mM_isTrue.2.1 7 = .ok (.iload_n 2, 1) := by decide +kernel
theorem dM_isTrue_8 : decode mM_isTrue.2.1 8 = .ok (.invokevirtual 286, 3) := by decide +kernel
theorem dM_isTrue_11 : decode mM_isTrue.2.1 11 = .ok (.ireturn, 1) := by decide +kernel
theorem dM_isNear_0 : decode mM_isNear.2.1 0 = .ok (.iload_n 2, 1) := by decide +kernel
theorem dM_isNear_1 : decode mM_isNear.2.1 1 = .ok (.ifCond .le 14, 3) := by decide +kernel
theorem dM_isNear_4 : decode mM_isNear.2.1 4 = .ok (.aload_n 0, 1) := by decide +kernel
theorem dM_isNear_5 : decode mM_isNear.2.1 5 = .ok (.iload_n 1, 1) := by decide +kernel
theorem dM_isNear_6 : decode mM_isNear.2.1 6 = .ok (.iload_n 2, 1) := by decide +kernel
theorem dM_isNear_7 : decode mM_isNear.2.1 7 = .ok (.iconst 1, 1) := by decide +kernel
theorem dM_isNear_8 : decode mM_isNear.2.1 8 = .ok (.isub, 1) := by decide +kernel
theorem dM_isNear_9 : decode mM_isNear.2.1 9 = .ok (.invokevirtual 289, 3) := by decide +kernel
theorem dM_isNear_12 : decode mM_isNear.2.1 12 = .ok (.ifCond .ne 24, 3) := by decide +kernel
theorem dM_isNear_15 : decode mM_isNear.2.1 15 = .ok (.iload_n 2, 1) := by decide +kernel
theorem dM_isNear_16 : decode mM_isNear.2.1 16 = .ok (.iconst 1, 1) := by decide +kernel
theorem dM_isNear_17 : decode mM_isNear.2.1 17 = .ok (.iadd, 1) := by decide +kernel
theorem dM_isNear_18 : decode mM_isNear.2.1 18 = .ok (.aload_n 0, 1) := by decide +kernel
theorem dM_isNear_19 : decode mM_isNear.2.1 19 = .ok (.getfield 7, 3) := by decide +kernel
theorem dM_isNear_22 : decode mM_isNear.2.1 22 = .ok (.if_icmp .ge 18, 3) := by decide +kernel
theorem dM_isNear_25 : decode mM_isNear.2.1 25 = .ok (.aload_n 0, 1) := by decide +kernel
theorem dM_isNear_26 : decode mM_isNear.2.1 26 = .ok (.iload_n 1, 1) := by decide +kernel
theorem dM_isNear_27 : decode mM_isNear.2.1 27 = .ok (.iload_n 2, 1) := by decide +kernel
theorem dM_isNear_28 : decode mM_isNear.2.1 28 = .ok (.iconst 1, 1) := by decide +kernel
theorem dM_isNear_29 : decode mM_isNear.2.1 29 = .ok (.iadd, 1) := by decide +kernel
theorem dM_isNear_30 : decode mM_isNear.2.1 30 = .ok (.invokevirtual 289, 3) := by decide +kernel
theorem dM_isNear_33 : decode mM_isNear.2.1 33 = .ok (.ifCond .eq 7, 3) := by decide +kernel
theorem dM_isNear_36 : decode mM_isNear.2.1 36 = .ok (.iconst 1, 1) := by decide +kernel
theorem dM_isNear_37 : decode mM_isNear.2.1 37 = .ok (.goto 4, 3) := by decide +kernel
theorem dM_isNear_40 : decode mM_isNear.2.1 40 = .ok (.iconst 0, 1) := by decide +kernel
theorem dM_isNear_41 : decode mM_isNear.2.1 41 = .ok (.ireturn, 1) := by decide +kernel
theorem dM_near_0 : decode mM_near.2.1 0 = .ok (.aload_n 0, 1) := by decide +kernel
theorem dM_near_1 : decode mM_near.2.1 1 = .ok (.iload_n 1, 1) := by decide +kernel
theorem dM_near_2 : decode mM_near.2.1 2 = .ok (.iload_n 2, 1) := by decide +kernel
theorem dM_near_3 : decode mM_near.2.1 3 = .ok (.invokevirtual 289, 3) := by decide +kernel
theorem dM_near_6 : decode mM_near.2.1 6 = .ok (.ifCond .eq 7, 3) := by decide +kernel
theorem dM_near_9 : decode mM_near.2.1 9 = .ok (.iload_n 3, 1) := by decide +kernel
theorem dM_near_10 : decode mM_near.2.1 10 = .ok (.goto 19, 3) := by decide +kernel
theorem dM_near_13 : decode mM_near.2.1 13 = .ok (.aload_n 0, 1) := by decide +kernel
theorem dM_near_14 : decode mM_near.2.1 14 = .ok (.iload_n 1, 1) := by decide +kernel
theorem dM_near_15 : decode mM_near.2.1 15 = .ok (.iload_n 2, 1) := by decide +kernel
theorem dM_near_16 : decode mM_near.2.1 16 = .ok (.invokevirtual 292, 3) := by decide +kernel
theorem dM_near_19 : decode mM_near.2.1 19 = .ok (.ifCond .eq 9, 3) := by decide +kernel
theorem dM_near_22 : decode mM_near.2.1 22 = .ok (.iload_n 3, 1) := by decide +kernel
theorem dM_near_23 : decode mM_near.2.1 23 = .ok (.iconst 2, 1) := by decide +kernel
theorem dM_near_24 : decode mM_near.2.1 24 = .ok (.idiv, 1) := by decide +kernel
theorem dM_near_25 : decode mM_near.2.1 25 = .ok (.goto 4, 3) := by decide +kernel
theorem dM_near_28 : decode mM_near.2.1 28 = .ok (.iconst 0, 1) := by decide +kernel
theorem dM_near_29 : decode mM_near.2.1 29 = .ok (.ireturn, 1) := by decide +kernel
theorem dM_late_0 : decode mM_late.2.1 0 = .ok (.aload_n 0, 1) := by decide +kernel
theorem dM_late_1 : decode mM_late.2.1 1 = .ok (.iload_n 1, 1) := by decide +kernel
theorem dM_late_2 : decode mM_late.2.1 2 = .ok (.iload_n 2, 1) := by decide +kernel
theorem dM_late_3 : decode mM_late.2.1 3 = .ok (.invokevirtual 289, 3) := by decide +kernel
theorem dM_late_6 : decode mM_late.2.1 6 = .ok (.ifCond .eq 7, 3) := by decide +kernel
theorem dM_late_9 : decode mM_late.2.1 9 = .ok (.iload_n 3, 1) := by decide +kernel
theorem dM_late_10 : decode mM_late.2.1 10 = .ok (.goto 4, 3) := by decide +kernel
theorem dM_late_13 : decode mM_late.2.1 13 = .ok (.iconst 0, 1) := by decide +kernel
theorem dM_late_14 : decode mM_late.2.1 14 = .ok (.aload_n 0, 1) := by decide +kernel
theorem dM_late_15 : decode mM_late.2.1 15 = .ok (.iload_n 1, 1) := by decide +kernel
theorem dM_late_16 : decode mM_late.2.1 16 = .ok (.invokevirtual 220, 3) := by decide +kernel
theorem dM_late_19 : decode mM_late.2.1 19 = .ok (.isub, 1) := by decide +kernel
theorem dM_late_20 : decode mM_late.2.1 20 = .ok (.istore 4, 2) := by decide +kernel
theorem dM_late_22 : decode mM_late.2.1 22 = .ok (.iload 4, 2) := by decide +kernel
theorem dM_late_24 : decode mM_late.2.1 24 = .ok (.ifCond .ge 7, 3) := by decide +kernel
theorem dM_late_27 : decode mM_late.2.1 27 = .ok (.iconst 0, 1) := by decide +kernel
theorem dM_late_28 : decode mM_late.2.1 28 = .ok (.goto 5, 3) := by decide +kernel
theorem dM_late_31 : decode mM_late.2.1 31 = .ok (.iload 4, 2) := by decide +kernel
theorem dM_late_33 : decode mM_late.2.1 33 = .ok (.ireturn, 1) := by decide +kernel
theorem dM_gross_0 : decode mM_gross.2.1 0 = .ok (.aload_n 0, 1) := by decide +kernel
theorem dM_gross_1 : decode mM_gross.2.1 1 = .ok (.invokevirtual 295, 3) := by decide +kernel
theorem dM_gross_4 : decode mM_gross.2.1 4 = .ok (.aload_n 0, 1) := by decide +kernel
theorem dM_gross_5 : decode mM_gross.2.1 5 = .ok (.getfield 29, 3) := by decide +kernel
theorem dM_gross_8 : decode mM_gross.2.1 8 = .ok (.iload_n 1, 1) := by decide +kernel
theorem dM_gross_9 : decode mM_gross.2.1 9 = .ok (.iaload, 1) := by decide +kernel
theorem dM_gross_10 : decode mM_gross.2.1 10 = .ok (.imul, 1) := by decide +kernel
theorem dM_gross_11 : decode mM_gross.2.1 11 = .ok (.istore_n 3, 1) := by decide +kernel
theorem dM_gross_12 : decode mM_gross.2.1 12 = .ok (.aload_n 0, 1) := by decide +kernel
theorem dM_gross_13 : decode mM_gross.2.1 13 = .ok (.iload_n 1, 1) := by decide +kernel
theorem dM_gross_14 : decode mM_gross.2.1 14 = .ok (.iload_n 2, 1) := by decide +kernel
theorem dM_gross_15 : decode mM_gross.2.1 15 = .ok (.invokevirtual 289, 3) := by decide +kernel
theorem dM_gross_18 : decode mM_gross.2.1 18 = .ok (.istore 4, 2) := by decide +kernel
theorem dM_gross_20 : decode mM_gross.2.1 20 = .ok (.aload_n 0, 1) := by decide +kernel
theorem dM_gross_21 : decode mM_gross.2.1 21 = .ok (.getfield 26, 3) := by decide +kernel
theorem dM_gross_24 : decode mM_gross.2.1 24 = .ok (.iload_n 1, 1) := by decide +kernel
theorem dM_gross_25 : decode mM_gross.2.1 25 = .ok (.iaload, 1) := by decide +kernel
theorem dM_gross_26 : decode mM_gross.2.1 26 = .ok (.tableswitch 156 1 6 #[38, 46, 70, 78, 105, 132], 38) := by decide +kernel
theorem dM_gross_64 : decode mM_gross.2.1 64 = .ok (.aload_n 0, 1) := by decide +kernel
theorem dM_gross_65 : decode mM_gross.2.1 65 = .ok (.iload_n 1, 1) := by decide +kernel
theorem dM_gross_66 : decode mM_gross.2.1 66 = .ok (.iload_n 2, 1) := by decide +kernel
theorem dM_gross_67 : decode mM_gross.2.1 67 = .ok (.iload_n 3, 1) := by decide +kernel
theorem dM_gross_68 : decode mM_gross.2.1 68 = .ok (.invokevirtual 298, 3) := by decide +kernel
theorem dM_gross_71 : decode mM_gross.2.1 71 = .ok (.ireturn, 1) := by decide +kernel
theorem dM_gross_72 : decode mM_gross.2.1 72 = .ok (.iload 4, 2) := by decide +kernel
theorem dM_gross_74 : decode mM_gross.2.1 74 = .ok (.ifCond .eq 20, 3) := by decide +kernel
theorem dM_gross_77 : decode mM_gross.2.1 77 = .ok (.iconst 4, 1) := by decide +kernel
theorem dM_gross_78 : decode mM_gross.2.1 78 = .ok (.iload_n 3, 1) := by decide +kernel
theorem dM_gross_79 : decode mM_gross.2.1 79 = .ok (.imul, 1) := by decide +kernel
theorem dM_gross_80 : decode mM_gross.2.1 80 = .ok (.aload_n 0, 1) := by decide +kernel
theorem dM_gross_81 : decode mM_gross.2.1 81 = .ok (.aload_n 0, 1) := by decide +kernel
theorem dM_gross_82 : decode mM_gross.2.1 82 = .ok (.getfield 32, 3) := by decide +kernel
theorem dM_gross_85 : decode mM_gross.2.1 85 = .ok (.iload_n 1, 1) := by decide +kernel
theorem dM_gross_86 : decode mM_gross.2.1 86 = .ok (.iaload, 1) := by decide +kernel
theorem dM_gross_87 : decode mM_gross.2.1 87 = .ok (.invokevirtual 276, 3) := by decide +kernel
theorem dM_gross_90 : decode mM_gross.2.1 90 = .ok (.idiv, 1) := by decide +kernel
theorem dM_gross_91 : decode mM_gross.2.1 91 = .ok (.goto 4, 3) := by decide +kernel
theorem dM_gross_94 : decode mM_gross.2.1 94 = .ok (.iconst 0, 1) := by decide +kernel
theorem dM_gross_95 : decode mM_gross.2.1 95 = .ok (.ireturn, 1) := by decide +kernel
theorem dM_gross_96 : decode mM_gross.2.1 96 = .ok (.aload_n 0, 1) := by decide +kernel
theorem dM_gross_97 : decode mM_gross.2.1 97 = .ok (.iload_n 1, 1) := by decide +kernel
theorem dM_gross_98 : decode mM_gross.2.1 98 = .ok (.iload_n 2, 1) := by decide +kernel
theorem dM_gross_99 : decode mM_gross.2.1 99 = .ok (.iload_n 3, 1) := by decide +kernel
theorem dM_gross_100 : decode mM_gross.2.1 100 = .ok (.invokevirtual 301, 3) := by decide +kernel
theorem dM_gross_103 : decode mM_gross.2.1 103 = .ok (.ireturn, 1) := by decide +kernel
theorem dM_gross_104 : decode mM_gross.2.1 104 = .ok (.aload_n 0, 1) := by decide +kernel
theorem dM_gross_105 : decode mM_gross.2.1 105 = .ok (.iload_n 1, 1) := by decide +kernel
theorem dM_gross_106 : decode mM_gross.2.1 106 = .ok (.iload_n 2, 1) := by decide +kernel
theorem dM_gross_107 : decode mM_gross.2.1 107 = .ok (.iload_n 3, 1) := by decide +kernel
theorem dM_gross_108 : decode mM_gross.2.1 108 = .ok (.invokevirtual 298, 3) := by decide +kernel
theorem dM_gross_111 : decode mM_gross.2.1 111 = .ok (.iload 4, 2) := by decide +kernel
theorem dM_gross_113 : decode mM_gross.2.1 113 = .ok (.ifCond .eq 15, 3) := by decide +kernel
theorem dM_gross_116 : decode mM_gross.2.1 116 = .ok (.bipush 30, 2) := by decide +kernel
theorem dM_gross_118 : decode mM_gross.2.1 118 = .ok (.aload_n 0, 1) := by decide +kernel
theorem dM_gross_119 : decode mM_gross.2.1 119 = .ok (.getfield 22, 3) := by decide +kernel
theorem dM_gross_122 : decode mM_gross.2.1 122 = .ok (.iload_n 2, 1) := by decide +kernel
theorem dM_gross_123 : decode mM_gross.2.1 123 = .ok (.iaload, 1) := by decide +kernel
theorem dM_gross_124 : decode mM_gross.2.1 124 = .ok (.isub, 1) := by decide +kernel
theorem dM_gross_125 : decode mM_gross.2.1 125 = .ok (.goto 4, 3) := by decide +kernel
theorem dM_gross_128 : decode mM_gross.2.1 128 = .ok (.iconst 0, 1) := by decide +kernel
theorem dM_gross_129 : decode mM_gross.2.1 129 = .ok (.iadd, 1) := by decide +kernel
theorem dM_gross_130 : decode mM_gross.2.1 130 = .ok (.ireturn, 1) := by decide +kernel
theorem dM_gross_131 : decode mM_gross.2.1 131 = .ok (.iload 4, 2) := by decide +kernel
theorem dM_gross_133 : decode mM_gross.2.1 133 = .ok (.ifCond .eq 20, 3) := by decide +kernel
theorem dM_gross_136 : decode mM_gross.2.1 136 = .ok (.iconst 4, 1) := by decide +kernel
theorem dM_gross_137 : decode mM_gross.2.1 137 = .ok (.iload_n 3, 1) := by decide +kernel
theorem dM_gross_138 : decode mM_gross.2.1 138 = .ok (.imul, 1) := by decide +kernel
theorem dM_gross_139 : decode mM_gross.2.1 139 = .ok (.aload_n 0, 1) := by decide +kernel
theorem dM_gross_140 : decode mM_gross.2.1 140 = .ok (.aload_n 0, 1) := by decide +kernel
theorem dM_gross_141 : decode mM_gross.2.1 141 = .ok (.getfield 32, 3) := by decide +kernel
theorem dM_gross_144 : decode mM_gross.2.1 144 = .ok (.iload_n 1, 1) := by decide +kernel
theorem dM_gross_145 : decode mM_gross.2.1 145 = .ok (.iaload, 1) := by decide +kernel
theorem dM_gross_146 : decode mM_gross.2.1 146 = .ok (.invokevirtual 276, 3) := by decide +kernel
theorem dM_gross_149 : decode mM_gross.2.1 149 = .ok (.idiv, 1) := by decide +kernel
theorem dM_gross_150 : decode mM_gross.2.1 150 = .ok (.goto 7, 3) := by decide +kernel
theorem dM_gross_153 : decode mM_gross.2.1 153 = .ok (.aload_n 0, 1) := by decide +kernel
theorem dM_gross_154 : decode mM_gross.2.1 154 = .ok (.invokevirtual 295, 3) := by decide +kernel
theorem dM_gross_157 : decode mM_gross.2.1 157 = .ok (.ireturn, 1) := by decide +kernel
theorem dM_gross_158 : decode mM_gross.2.1 158 = .ok (.aload_n 0, 1) := by decide +kernel
theorem dM_gross_159 : decode mM_gross.2.1 159 = .ok (.iload_n 1, 1) := by decide +kernel
theorem dM_gross_160 : decode mM_gross.2.1 160 = .ok (.iload_n 2, 1) := by decide +kernel
theorem dM_gross_161 : decode mM_gross.2.1 161 = .ok (.iload_n 3, 1) := by decide +kernel
theorem dM_gross_162 : decode mM_gross.2.1 162 = .ok (.invokevirtual 301, 3) := by decide +kernel
theorem dM_gross_165 : decode mM_gross.2.1 165 = .ok (.aload_n 0, 1) := by decide +kernel
theorem dM_gross_166 : decode mM_gross.2.1 166 = .ok (.getfield 41, 3) := by decide +kernel
theorem dM_gross_169 : decode mM_gross.2.1 169 = .ok (.iconst 4, 1) := by decide +kernel
theorem dM_gross_170 : decode mM_gross.2.1 170 = .ok (.iload_n 1, 1) := by decide +kernel
theorem dM_gross_171 : decode mM_gross.2.1 171 = .ok (.imul, 1) := by decide +kernel
theorem dM_gross_172 : decode mM_gross.2.1 172 = .ok (.aload_n 0, 1) := by decide +kernel
theorem dM_gross_173 : decode mM_gross.2.1 173 = .ok (.getfield 16, 3) := by decide +kernel
theorem dM_gross_176 : decode mM_gross.2.1 176 = .ok (.iconst 4, 1) := by decide +kernel
theorem dM_gross_177 : decode mM_gross.2.1 177 = .ok (.irem, 1) := by decide +kernel
theorem dM_gross_178 : decode mM_gross.2.1 178 = .ok (.iadd, 1) := by decide +kernel
theorem dM_gross_179 : decode mM_gross.2.1 179 = .ok (.iaload, 1) := by decide +kernel
theorem dM_gross_180 : decode mM_gross.2.1 180 = .ok (.iadd, 1) := by decide +kernel
theorem dM_gross_181 : decode mM_gross.2.1 181 = .ok (.ireturn, 1) := by decide +kernel
theorem dM_gross_182 : decode mM_gross.2.1 182 = .ok (.iload 4, 2) := by decide +kernel
theorem dM_gross_184 : decode mM_gross.2.1 184 = .ok (.ifCond .eq 7, 3) := by decide +kernel
theorem dM_gross_187 : decode mM_gross.2.1 187 = .ok (.iload_n 3, 1) := by decide +kernel
theorem dM_gross_188 : decode mM_gross.2.1 188 = .ok (.goto 4, 3) := by decide +kernel
theorem dM_gross_191 : decode mM_gross.2.1 191 = .ok (.iconst 0, 1) := by decide +kernel
theorem dM_gross_192 : decode mM_gross.2.1 192 = .ok (.ireturn, 1) := by decide +kernel
theorem dM_payOf_0 : decode mM_payOf.2.1 0 = .ok (.aload_n 0, 1) := by decide +kernel
theorem dM_payOf_1 : decode mM_payOf.2.1 1 = .ok (.iload_n 1, 1) := by decide +kernel
theorem dM_payOf_2 : decode mM_payOf.2.1 2 = .ok (.iload_n 2, 1) := by decide +kernel
theorem dM_payOf_3 : decode mM_payOf.2.1 3 = .ok (.invokevirtual 304, 3) := by decide +kernel
theorem dM_payOf_6 : decode mM_payOf.2.1 6 = .ok (.aload_n 0, 1) := by decide +kernel
theorem dM_payOf_7 : decode mM_payOf.2.1 7 = .ok (.iload_n 1, 1) := by decide +kernel
theorem dM_payOf_8 : decode mM_payOf.2.1 8 = .ok (.iload_n 2, 1) := by decide +kernel
theorem dM_payOf_9 : decode mM_payOf.2.1 9 = .ok (.invokevirtual 308, 3) := by decide +kernel
theorem dM_payOf_12 : decode mM_payOf.2.1 12 = .ok (.iadd, 1) := by decide +kernel
theorem dM_payOf_13 : decode mM_payOf.2.1 13 = .ok (.istore_n 3, 1) := by decide +kernel
theorem dM_payOf_14 : decode mM_payOf.2.1 14 = .ok (.iload_n 3, 1) := by decide +kernel
theorem dM_payOf_15 : decode mM_payOf.2.1 15 = .ok (.ifCond .ge 7, 3) := by decide +kernel
theorem dM_payOf_18 : decode mM_payOf.2.1 18 = .ok (.iconst 0, 1) := by decide +kernel
theorem dM_payOf_19 : decode mM_payOf.2.1 19 = .ok (.goto 4, 3) := by decide +kernel
theorem dM_payOf_22 : decode mM_payOf.2.1 22 = .ok (.iload_n 3, 1) := by decide +kernel
theorem dM_payOf_23 : decode mM_payOf.2.1 23 = .ok (.ireturn, 1) := by decide +kernel
theorem dM_pay_0 : decode mM_pay.2.1 0 = .ok (.aload_n 0, 1) := by decide +kernel
theorem dM_pay_1 : decode mM_pay.2.1 1 = .ok (.iload_n 1, 1) := by decide +kernel
theorem dM_pay_2 : decode mM_pay.2.1 2 = .ok (.invokevirtual 217, 3) := by decide +kernel
theorem dM_pay_5 : decode mM_pay.2.1 5 = .ok (.ifCond .eq 20, 3) := by decide +kernel
theorem dM_pay_8 : decode mM_pay.2.1 8 = .ok (.aload_n 0, 1) := by decide +kernel
theorem dM_pay_9 : decode mM_pay.2.1 9 = .ok (.iload_n 2, 1) := by decide +kernel
theorem dM_pay_10 : decode mM_pay.2.1 10 = .ok (.invokevirtual 207, 3) := by decide +kernel
theorem dM_pay_13 : decode mM_pay.2.1 13 = .ok (.ifCond .eq 12, 3) := by decide +kernel
theorem dM_pay_16 : decode mM_pay.2.1 16 = .ok (.aload_n 0, 1) := by decide +kernel
theorem dM_pay_17 : decode mM_pay.2.1 17 = .ok (.iload_n 1, 1) := by decide +kernel
theorem dM_pay_18 : decode mM_pay.2.1 18 = .ok (.iload_n 2, 1) := by decide +kernel
theorem dM_pay_19 : decode mM_pay.2.1 19 = .ok (.invokevirtual 311, 3) := by decide +kernel
theorem dM_pay_22 : decode mM_pay.2.1 22 = .ok (.goto 4, 3) := by decide +kernel
theorem dM_pay_25 : decode mM_pay.2.1 25 = .ok (.iconst (-1), 1) := by decide +kernel
theorem dM_pay_26 : decode mM_pay.2.1 26 = .ok (.ireturn, 1) := by decide +kernel
theorem dM_chances_0 : decode mM_chances.2.1 0 = .ok (.iconst 0, 1) := by decide +kernel
theorem dM_chances_1 : decode mM_chances.2.1 1 = .ok (.istore_n 2, 1) := by decide +kernel
theorem dM_chances_2 : decode mM_chances.2.1 2 = .ok (.iconst 0, 1) := by decide +kernel
theorem dM_chances_3 : decode mM_chances.2.1 3 = .ok (.istore_n 3, 1) := by decide +kernel
theorem dM_chances_4 : decode mM_chances.2.1 4 = .ok (.iload_n 3, 1) := by decide +kernel
theorem dM_chances_5 : decode mM_chances.2.1 5 = .ok (.aload_n 0, 1) := by decide +kernel
theorem dM_chances_6 : decode mM_chances.2.1 6 = .ok (.getfield 7, 3) := by decide +kernel
theorem dM_chances_9 : decode mM_chances.2.1 9 = .ok (.if_icmp .ge 31, 3) := by decide +kernel
theorem dM_chances_12 : decode mM_chances.2.1 12 = .ok (.iload_n 2, 1) := by decide +kernel
theorem dM_chances_13 : decode mM_chances.2.1 13 = .ok (.aload_n 0, 1) := by decide +kernel
theorem dM_chances_14 : decode mM_chances.2.1 14 = .ok (.iload_n 1, 1) := by decide +kernel
theorem dM_chances_15 : decode mM_chances.2.1 15 = .ok (.iload_n 3, 1) := by decide +kernel
theorem dM_chances_16 : decode mM_chances.2.1 16 = .ok (.invokevirtual 286, 3) := by decide +kernel
theorem dM_chances_19 : decode mM_chances.2.1 19 = .ok (.ifCond .eq 12, 3) := by decide +kernel
theorem dM_chances_22 : decode mM_chances.2.1 22 = .ok (.aload_n 0, 1) := by decide +kernel
theorem dM_chances_23 : decode mM_chances.2.1 23 = .ok (.getfield 22, 3) := by decide +kernel
theorem dM_chances_26 : decode mM_chances.2.1 26 = .ok (.iload_n 3, 1) := by decide +kernel
theorem dM_chances_27 : decode mM_chances.2.1 27 = .ok (.iaload, 1) := by decide +kernel
theorem dM_chances_28 : decode mM_chances.2.1 28 = .ok (.goto 4, 3) := by decide +kernel
theorem dM_chances_31 : decode mM_chances.2.1 31 = .ok (.iconst 0, 1) := by decide +kernel
theorem dM_chances_32 : decode mM_chances.2.1 32 = .ok (.iadd, 1) := by decide +kernel
theorem dM_chances_33 : decode mM_chances.2.1 33 = .ok (.istore_n 2, 1) := by decide +kernel
theorem dM_chances_34 : decode mM_chances.2.1 34 = .ok (.iinc 3 1, 3) := by decide +kernel
theorem dM_chances_37 : decode mM_chances.2.1 37 = .ok (.goto (-33), 3) := by decide +kernel
theorem dM_chances_40 : decode mM_chances.2.1 40 = .ok (.iload_n 2, 1) := by decide +kernel
theorem dM_chances_41 : decode mM_chances.2.1 41 = .ok (.ireturn, 1) := by decide +kernel
theorem dM_all_0 : decode mM_all.2.1 0 = .ok (.iconst 1, 1) := by decide +kernel
theorem dM_all_1 : decode mM_all.2.1 1 = .ok (.aload_n 0, 1) := by decide +kernel
theorem dM_all_2 : decode mM_all.2.1 2 = .ok (.getfield 7, 3) := by decide +kernel
theorem dM_all_5 : decode mM_all.2.1 5 = .ok (.ishl, 1) := by decide +kernel
theorem dM_all_6 : decode mM_all.2.1 6 = .ok (.iconst 1, 1) := by decide +kernel
theorem dM_all_7 : decode mM_all.2.1 7 = .ok (.isub, 1) := by decide +kernel
theorem dM_all_8 : decode mM_all.2.1 8 = .ok (.ireturn, 1) := by decide +kernel
theorem dM_told_0 : decode mM_told.2.1 0 = .ok (.aload_n 0, 1) := by decide +kernel
theorem dM_told_1 : decode mM_told.2.1 1 = .ok (.iload_n 1, 1) := by decide +kernel
theorem dM_told_2 : decode mM_told.2.1 2 = .ok (.bipush 10, 2) := by decide +kernel
theorem dM_told_4 : decode mM_told.2.1 4 = .ok (.bipush 9, 2) := by decide +kernel
theorem dM_told_6 : decode mM_told.2.1 6 = .ok (.aload_n 0, 1) := by decide +kernel
theorem dM_told_7 : decode mM_told.2.1 7 = .ok (.getfield 7, 3) := by decide +kernel
theorem dM_told_10 : decode mM_told.2.1 10 = .ok (.iadd, 1) := by decide +kernel
theorem dM_told_11 : decode mM_told.2.1 11 = .ok (.invokevirtual 203, 3) := by decide +kernel
theorem dM_told_14 : decode mM_told.2.1 14 = .ok (.ifCond .eq 13, 3) := by decide +kernel
theorem dM_told_17 : decode mM_told.2.1 17 = .ok (.aload_n 0, 1) := by decide +kernel
theorem dM_told_18 : decode mM_told.2.1 18 = .ok (.getfield 22, 3) := by decide +kernel
theorem dM_told_21 : decode mM_told.2.1 21 = .ok (.iload_n 1, 1) := by decide +kernel
theorem dM_told_22 : decode mM_told.2.1 22 = .ok (.bipush 10, 2) := by decide +kernel
theorem dM_told_24 : decode mM_told.2.1 24 = .ok (.isub, 1) := by decide +kernel
theorem dM_told_25 : decode mM_told.2.1 25 = .ok (.iaload, 1) := by decide +kernel
theorem dM_told_26 : decode mM_told.2.1 26 = .ok (.ireturn, 1) := by decide +kernel
theorem dM_told_27 : decode mM_told.2.1 27 = .ok (.iload_n 1, 1) := by decide +kernel
theorem dM_told_28 : decode mM_told.2.1 28 = .ok (.tableswitch 56 0 3 #[32, 37, 42, 47], 32) := by decide +kernel
theorem dM_told_60 : decode mM_told.2.1 60 = .ok (.aload_n 0, 1) := by decide +kernel
theorem dM_told_61 : decode mM_told.2.1 61 = .ok (.getfield 16, 3) := by decide +kernel
theorem dM_told_64 : decode mM_told.2.1 64 = .ok (.ireturn, 1) := by decide +kernel
theorem dM_told_65 : decode mM_told.2.1 65 = .ok (.aload_n 0, 1) := by decide +kernel
theorem dM_told_66 : decode mM_told.2.1 66 = .ok (.getfield 19, 3) := by decide +kernel
theorem dM_told_69 : decode mM_told.2.1 69 = .ok (.ireturn, 1) := by decide +kernel
theorem dM_told_70 : decode mM_told.2.1 70 = .ok (.aload_n 0, 1) := by decide +kernel
theorem dM_told_71 : decode mM_told.2.1 71 = .ok (.invokevirtual 295, 3) := by decide +kernel
theorem dM_told_74 : decode mM_told.2.1 74 = .ok (.ireturn, 1) := by decide +kernel
theorem dM_told_75 : decode mM_told.2.1 75 = .ok (.aload_n 0, 1) := by decide +kernel
theorem dM_told_76 : decode mM_told.2.1 76 = .ok (.aload_n 0, 1) := by decide +kernel
theorem dM_told_77 : decode mM_told.2.1 77 = .ok (.invokevirtual 314, 3) := by decide +kernel
theorem dM_told_80 : decode mM_told.2.1 80 = .ok (.invokevirtual 317, 3) := by decide +kernel
theorem dM_told_83 : decode mM_told.2.1 83 = .ok (.ireturn, 1) := by decide +kernel
theorem dM_told_84 : decode mM_told.2.1 84 = .ok (.iconst (-1), 1) := by decide +kernel
theorem dM_told_85 : decode mM_told.2.1 85 = .ok (.ireturn, 1) := by decide +kernel
theorem dM_pass_0 : decode mM_pass.2.1 0 = .ok (.aload_n 0, 1) := by decide +kernel
theorem dM_pass_1 : decode mM_pass.2.1 1 = .ok (.iload_n 1, 1) := by decide +kernel
theorem dM_pass_2 : decode mM_pass.2.1 2 = .ok (.iconst 0, 1) := by decide +kernel
theorem dM_pass_3 : decode mM_pass.2.1 3 = .ok (.bipush 99, 2) := by decide +kernel
theorem dM_pass_5 : decode mM_pass.2.1 5 = .ok (.invokevirtual 203, 3) := by decide +kernel
theorem dM_pass_8 : decode mM_pass.2.1 8 = .ok (.ifCond .ne 6, 3) := by decide +kernel
theorem dM_pass_11 : decode mM_pass.2.1 11 = .ok (.bipush (-2), 2) := by decide +kernel
theorem dM_pass_13 : decode mM_pass.2.1 13 = .ok (.ireturn, 1) := by decide +kernel
theorem dM_pass_14 : decode mM_pass.2.1 14 = .ok (.aload_n 0, 1) := by decide +kernel
theorem dM_pass_15 : decode mM_pass.2.1 15 = .ok (.getfield 16, 3) := by decide +kernel
theorem dM_pass_18 : decode mM_pass.2.1 18 = .ok (.iload_n 1, 1) := by decide +kernel
theorem dM_pass_19 : decode mM_pass.2.1 19 = .ok (.iadd, 1) := by decide +kernel
theorem dM_pass_20 : decode mM_pass.2.1 20 = .ok (.sipush 9999, 3) := by decide +kernel
theorem dM_pass_23 : decode mM_pass.2.1 23 = .ok (.if_icmp .le 6, 3) := by decide +kernel
theorem dM_pass_26 : decode mM_pass.2.1 26 = .ok (.bipush (-3), 2) := by decide +kernel
theorem dM_pass_28 : decode mM_pass.2.1 28 = .ok (.ireturn, 1) := by decide +kernel
theorem dM_pass_29 : decode mM_pass.2.1 29 = .ok (.aload_n 0, 1) := by decide +kernel
theorem dM_pass_30 : decode mM_pass.2.1 30 = .ok (.dup, 1) := by decide +kernel
theorem dM_pass_31 : decode mM_pass.2.1 31 = .ok (.getfield 16, 3) := by decide +kernel
theorem dM_pass_34 : decode mM_pass.2.1 34 = .ok (.iload_n 1, 1) := by decide +kernel
theorem dM_pass_35 : decode mM_pass.2.1 35 = .ok (.iadd, 1) := by decide +kernel
theorem dM_pass_36 : decode mM_pass.2.1 36 = .ok (.putfield 16, 3) := by decide +kernel
theorem dM_pass_39 : decode mM_pass.2.1 39 = .ok (.aload_n 0, 1) := by decide +kernel
theorem dM_pass_40 : decode mM_pass.2.1 40 = .ok (.getfield 16, 3) := by decide +kernel
theorem dM_pass_43 : decode mM_pass.2.1 43 = .ok (.ireturn, 1) := by decide +kernel
theorem dM_come_0 : decode mM_come.2.1 0 = .ok (.aload_n 0, 1) := by decide +kernel
theorem dM_come_1 : decode mM_come.2.1 1 = .ok (.iload_n 1, 1) := by decide +kernel
theorem dM_come_2 : decode mM_come.2.1 2 = .ok (.invokevirtual 207, 3) := by decide +kernel
theorem dM_come_5 : decode mM_come.2.1 5 = .ok (.ifCond .ne 5, 3) := by decide +kernel
theorem dM_come_8 : decode mM_come.2.1 8 = .ok (.iconst (-1), 1) := by decide +kernel
theorem dM_come_9 : decode mM_come.2.1 9 = .ok (.ireturn, 1) := by decide +kernel
theorem dM_come_10 : decode mM_come.2.1 10 = .ok (.aload_n 0, 1) := by decide +kernel
theorem dM_come_11 : decode mM_come.2.1 11 = .ok (.getfield 16, 3) := by decide +kernel
theorem dM_come_14 : decode mM_come.2.1 14 = .ok (.sipush 9999, 3) := by decide +kernel
theorem dM_come_17 : decode mM_come.2.1 17 = .ok (.if_icmp .ne 6, 3) := by decide +kernel
theorem dM_come_20 : decode mM_come.2.1 20 = .ok (.bipush (-3), 2) := by decide +kernel
theorem dM_come_22 : decode mM_come.2.1 22 = .ok (.ireturn, 1) := by decide +kernel
theorem dM_come_23 : decode mM_come.2.1 23 = .ok (.iconst 0, 1) := by decide +kernel
theorem dM_come_24 : decode mM_come.2.1 24 = .ok (.istore_n 2, 1) := by decide +kernel
theorem dM_come_25 : decode mM_come.2.1 25 = .ok (.iconst 0, 1) := by decide +kernel
theorem dM_come_26 : decode mM_come.2.1 26 = .ok (.istore_n 3, 1) := by decide +kernel
theorem dM_come_27 : decode mM_come.2.1 27 = .ok (.iload_n 3, 1) := by decide +kernel
theorem dM_come_28 : decode mM_come.2.1 28 = .ok (.aload_n 0, 1) := by decide +kernel
theorem dM_come_29 : decode mM_come.2.1 29 = .ok (.getfield 13, 3) := by decide +kernel
theorem dM_come_32 : decode mM_come.2.1 32 = .ok (.if_icmp .ge 18, 3) := by decide +kernel
theorem dM_come_35 : decode mM_come.2.1 35 = .ok (.iload_n 2, 1) := by decide +kernel
theorem dM_come_36 : decode mM_come.2.1 36 = .ok (.aload_n 0, 1) := by decide +kernel
theorem dM_come_37 : decode mM_come.2.1 37 = .ok (.iload_n 3, 1) := by decide +kernel
theorem dM_come_38 : decode mM_come.2.1 38 = .ok (.iload_n 1, 1) := by decide +kernel
theorem dM_come_39 : decode mM_come.2.1 39 = .ok (.invokevirtual 311, 3) := by decide +kernel
theorem dM_come_42 : decode mM_come.2.1 42 = .ok (.iadd, 1) := by decide +kernel
theorem dM_come_43 : decode mM_come.2.1 43 = .ok (.istore_n 2, 1) := by decide +kernel
theorem dM_come_44 : decode mM_come.2.1 44 = .ok (.iinc 3 1, 3) := by decide +kernel
theorem dM_come_47 : decode mM_come.2.1 47 = .ok (.goto (-20), 3) := by decide +kernel
theorem dM_come_50 : decode mM_come.2.1 50 = .ok (.aload_n 0, 1) := by decide +kernel
theorem dM_come_51 : decode mM_come.2.1 51 = .ok (.aload_n 0, 1) := by decide +kernel
theorem dM_come_52 : decode mM_come.2.1 52 = .ok (.getfield 19, 3) := by decide +kernel
theorem dM_come_55 : decode mM_come.2.1 55 = .ok (.iload_n 2, 1) := by decide +kernel
theorem dM_come_56 : decode mM_come.2.1 56 = .ok (.iadd, 1) := by decide +kernel
theorem dM_come_57 : decode mM_come.2.1 57 = .ok (.ldc_w 320, 3) := by decide +kernel
theorem dM_come_60 : decode mM_come.2.1 60 = .ok (.if_icmp .le 9, 3) := by decide +kernel
theorem dM_come_63 : decode mM_come.2.1 63 = .ok (.ldc_w 320, 3) := by decide +kernel
theorem dM_come_66 : decode mM_come.2.1 66 = .ok (.goto 9, 3) := by decide +kernel
theorem dM_come_69 : decode mM_come.2.1 69 = .ok (.aload_n 0, 1) := by decide +kernel
theorem dM_come_70 : decode mM_come.2.1 70 = .ok (.getfield 19, 3) := by decide +kernel
theorem dM_come_73 : decode mM_come.2.1 73 = .ok (.iload_n 2, 1) := by decide +kernel
theorem dM_come_74 : decode mM_come.2.1 74 = .ok (.iadd, 1) := by decide +kernel
theorem dM_come_75 : decode mM_come.2.1 75 = .ok (.putfield 19, 3) := by decide +kernel
theorem dM_come_78 : decode mM_come.2.1 78 = .ok (.aload_n 0, 1) := by decide +kernel
theorem dM_come_79 : decode mM_come.2.1 79 = .ok (.dup, 1) := by decide +kernel
theorem dM_come_80 : decode mM_come.2.1 80 = .ok (.getfield 16, 3) := by decide +kernel
theorem dM_come_83 : decode mM_come.2.1 83 = .ok (.iconst 1, 1) := by decide +kernel
theorem dM_come_84 : decode mM_come.2.1 84 = .ok (.iadd, 1) := by decide +kernel
theorem dM_come_85 : decode mM_come.2.1 85 = .ok (.putfield 16, 3) := by decide +kernel
theorem dM_come_88 : decode mM_come.2.1 88 = .ok (.iload_n 2, 1) := by decide +kernel
theorem dM_come_89 : decode mM_come.2.1 89 = .ok (.ireturn, 1) := by decide +kernel
theorem dM_layPays_0 : decode mM_layPays.2.1 0 = .ok (.iconst 0, 1) := by decide +kernel
theorem dM_layPays_1 : decode mM_layPays.2.1 1 = .ok (.istore_n 1, 1) := by decide +kernel
theorem dM_layPays_2 : decode mM_layPays.2.1 2 = .ok (.iload_n 1, 1) := by decide +kernel
theorem dM_layPays_3 : decode mM_layPays.2.1 3 = .ok (.aload_n 0, 1) := by decide +kernel
theorem dM_layPays_4 : decode mM_layPays.2.1 4 = .ok (.getfield 13, 3) := by decide +kernel
theorem dM_layPays_7 : decode mM_layPays.2.1 7 = .ok (.if_icmp .ge 42, 3) := by decide +kernel
theorem dM_layPays_10 : decode mM_layPays.2.1 10 = .ok (.iconst 0, 1) := by decide +kernel
theorem dM_layPays_11 : decode mM_layPays.2.1 11 = .ok (.istore_n 2, 1) := by decide +kernel
theorem dM_layPays_12 : decode mM_layPays.2.1 12 = .ok (.iload_n 2, 1) := by decide +kernel
theorem dM_layPays_13 : decode mM_layPays.2.1 13 = .ok (.aload_n 0, 1) := by decide +kernel
theorem dM_layPays_14 : decode mM_layPays.2.1 14 = .ok (.getfield 7, 3) := by decide +kernel
theorem dM_layPays_17 : decode mM_layPays.2.1 17 = .ok (.if_icmp .ge 26, 3) := by decide +kernel
theorem dM_layPays_20 : decode mM_layPays.2.1 20 = .ok (.aload_n 0, 1) := by decide +kernel
theorem dM_layPays_21 : decode mM_layPays.2.1 21 = .ok (.getfield 99, 3) := by decide +kernel
theorem dM_layPays_24 : decode mM_layPays.2.1 24 = .ok (.bipush 6, 2) := by decide +kernel
theorem dM_layPays_26 : decode mM_layPays.2.1 26 = .ok (.iload_n 1, 1) := by decide +kernel
theorem dM_layPays_27 : decode mM_layPays.2.1 27 = .ok (.imul, 1) := by decide +kernel
theorem dM_layPays_28 : decode mM_layPays.2.1 28 = .ok (.iload_n 2, 1) := by decide +kernel
theorem dM_layPays_29 : decode mM_layPays.2.1 29 = .ok (.iadd, 1) := by decide +kernel
theorem dM_layPays_30 : decode mM_layPays.2.1 30 = .ok (.aload_n 0, 1) := by decide +kernel
theorem dM_layPays_31 : decode mM_layPays.2.1 31 = .ok (.iload_n 1, 1) := by decide +kernel
theorem dM_layPays_32 : decode mM_layPays.2.1 32 = .ok (.iload_n 2, 1) := by decide +kernel
theorem dM_layPays_33 : decode mM_layPays.2.1 33 = .ok (.invokevirtual 311, 3) := by decide +kernel
theorem dM_layPays_36 : decode mM_layPays.2.1 36 = .ok (.iastore, 1) := by decide +kernel
theorem dM_layPays_37 : decode mM_layPays.2.1 37 = .ok (.iinc 2 1, 3) := by decide +kernel
theorem dM_layPays_40 : decode mM_layPays.2.1 40 = .ok (.goto (-28), 3) := by decide +kernel
theorem dM_layPays_43 : decode mM_layPays.2.1 43 = .ok (.iinc 1 1, 3) := by decide +kernel
theorem dM_layPays_46 : decode mM_layPays.2.1 46 = .ok (.goto (-44), 3) := by decide +kernel
theorem dM_layPays_49 : decode mM_layPays.2.1 49 = .ok (.return_, 1) := by decide +kernel
theorem dM_weighed_0 : decode mM_weighed.2.1 0 = .ok (.iconst 0, 1) := by decide +kernel
theorem dM_weighed_1 : decode mM_weighed.2.1 1 = .ok (.istore_n 2, 1) := by decide +kernel
theorem dM_weighed_2 : decode mM_weighed.2.1 2 = .ok (.iconst 0, 1) := by decide +kernel
theorem dM_weighed_3 : decode mM_weighed.2.1 3 = .ok (.istore_n 3, 1) := by decide +kernel
theorem dM_weighed_4 : decode mM_weighed.2.1 4 = .ok (.iload_n 3, 1) := by decide +kernel
theorem dM_weighed_5 : decode mM_weighed.2.1 5 = .ok (.aload_n 0, 1) := by decide +kernel
theorem dM_weighed_6 : decode mM_weighed.2.1 6 = .ok (.getfield 7, 3) := by decide +kernel
theorem dM_weighed_9 : decode mM_weighed.2.1 9 = .ok (.if_icmp .ge 25, 3) := by decide +kernel
theorem dM_weighed_12 : decode mM_weighed.2.1 12 = .ok (.iload_n 2, 1) := by decide +kernel
theorem dM_weighed_13 : decode mM_weighed.2.1 13 = .ok (.aload_n 0, 1) := by decide +kernel
theorem dM_weighed_14 : decode mM_weighed.2.1 14 = .ok (.iload_n 1, 1) := by decide +kernel
theorem dM_weighed_15 : decode mM_weighed.2.1 15 = .ok (.iload_n 3, 1) := by decide +kernel
theorem dM_weighed_16 : decode mM_weighed.2.1 16 = .ok (.invokevirtual 311, 3) := by decide +kernel
theorem dM_weighed_19 : decode mM_weighed.2.1 19 = .ok (.aload_n 0, 1) := by decide +kernel
theorem dM_weighed_20 : decode mM_weighed.2.1 20 = .ok (.getfield 22, 3) := by decide +kernel
theorem dM_weighed_23 : decode mM_weighed.2.1 23 = .ok (.iload_n 3, 1) := by decide +kernel
theorem dM_weighed_24 : decode mM_weighed.2.1 24 = .ok (.iaload, 1) := by decide +kernel
theorem dM_weighed_25 : decode mM_weighed.2.1 25 = .ok (.imul, 1) := by decide +kernel
theorem dM_weighed_26 : decode mM_weighed.2.1 26 = .ok (.iadd, 1) := by decide +kernel
theorem dM_weighed_27 : decode mM_weighed.2.1 27 = .ok (.istore_n 2, 1) := by decide +kernel
theorem dM_weighed_28 : decode mM_weighed.2.1 28 = .ok (.iinc 3 1, 3) := by decide +kernel
theorem dM_weighed_31 : decode mM_weighed.2.1 31 = .ok (.goto (-27), 3) := by decide +kernel
theorem dM_weighed_34 : decode mM_weighed.2.1 34 = .ok (.iload_n 2, 1) := by decide +kernel
theorem dM_weighed_35 : decode mM_weighed.2.1 35 = .ok (.ireturn, 1) := by decide +kernel
theorem dM_divisor_0 : decode mM_divisor.2.1 0 = .ok (.iload_n 1, 1) := by decide +kernel
theorem dM_divisor_1 : decode mM_divisor.2.1 1 = .ok (.istore_n 3, 1) := by decide +kernel
theorem dM_divisor_2 : decode mM_divisor.2.1 2 = .ok (.iload_n 2, 1) := by decide +kernel
theorem dM_divisor_3 : decode mM_divisor.2.1 3 = .ok (.istore 4, 2) := by decide +kernel
theorem dM_divisor_5 : decode mM_divisor.2.1 5 = .ok (.iload 4, 2) := by decide +kernel
theorem dM_divisor_7 : decode mM_divisor.2.1 7 = .ok (.ifCond .eq 19, 3) := by decide +kernel
theorem dM_divisor_10 : decode mM_divisor.2.1 10 = .ok (.iload_n 3, 1) := by decide +kernel
theorem dM_divisor_11 : decode mM_divisor.2.1 11 = .ok (.iload 4, 2) := by decide +kernel
theorem dM_divisor_13 : decode mM_divisor.2.1 13 = .ok (.irem, 1) := by decide +kernel
theorem dM_divisor_14 : decode mM_divisor.2.1 14 = .ok (.istore 5, 2) := by decide +kernel
theorem dM_divisor_16 : decode mM_divisor.2.1 16 = .ok (.iload 4, 2) := by decide +kernel
theorem dM_divisor_18 : decode mM_divisor.2.1 18 = .ok (.istore_n 3, 1) := by decide +kernel
theorem dM_divisor_19 : decode mM_divisor.2.1 19 = .ok (.iload 5, 2) := by decide +kernel
theorem dM_divisor_21 : decode mM_divisor.2.1 21 = .ok (.istore 4, 2) := by decide +kernel
theorem dM_divisor_23 : decode mM_divisor.2.1 23 = .ok (.goto (-18), 3) := by decide +kernel
theorem dM_divisor_26 : decode mM_divisor.2.1 26 = .ok (.iload_n 3, 1) := by decide +kernel
theorem dM_divisor_27 : decode mM_divisor.2.1 27 = .ok (.ireturn, 1) := by decide +kernel
theorem dM_lowest_0 : decode mM_lowest.2.1 0 = .ok (.aload_n 0, 1) := by decide +kernel
theorem dM_lowest_1 : decode mM_lowest.2.1 1 = .ok (.iload_n 1, 1) := by decide +kernel
theorem dM_lowest_2 : decode mM_lowest.2.1 2 = .ok (.iload_n 2, 1) := by decide +kernel
theorem dM_lowest_3 : decode mM_lowest.2.1 3 = .ok (.invokevirtual 321, 3) := by decide +kernel
theorem dM_lowest_6 : decode mM_lowest.2.1 6 = .ok (.istore 4, 2) := by decide +kernel
theorem dM_lowest_8 : decode mM_lowest.2.1 8 = .ok (.iload_n 3, 1) := by decide +kernel
theorem dM_lowest_9 : decode mM_lowest.2.1 9 = .ok (.ifCond .ne 11, 3) := by decide +kernel
theorem dM_lowest_12 : decode mM_lowest.2.1 12 = .ok (.iload_n 1, 1) := by decide +kernel
theorem dM_lowest_13 : decode mM_lowest.2.1 13 = .ok (.iload 4, 2) := by decide +kernel
theorem dM_lowest_15 : decode mM_lowest.2.1 15 = .ok (.idiv, 1) := by decide +kernel
theorem dM_lowest_16 : decode mM_lowest.2.1 16 = .ok (.i2l, 1) := by decide +kernel
theorem dM_lowest_17 : decode mM_lowest.2.1 17 = .ok (.goto 8, 3) := by decide +kernel
theorem dM_lowest_20 : decode mM_lowest.2.1 20 = .ok (.iload_n 2, 1) := by decide +kernel
theorem dM_lowest_21 : decode mM_lowest.2.1 21 = .ok (.iload 4, 2) := by decide +kernel
theorem dM_lowest_23 : decode mM_lowest.2.1 23 = .ok (.idiv, 1) := by decide +kernel
theorem dM_lowest_24 : decode mM_lowest.2.1 24 = .ok (.i2l, 1) := by decide +kernel
theorem dM_lowest_25 : decode mM_lowest.2.1 25 = .ok (.lreturn, 1) := by decide +kernel
theorem dM_mean_0 : decode mM_mean.2.1 0 = .ok (.aload_n 0, 1) := by decide +kernel
theorem dM_mean_1 : decode mM_mean.2.1 1 = .ok (.iload_n 1, 1) := by decide +kernel
theorem dM_mean_2 : decode mM_mean.2.1 2 = .ok (.invokevirtual 217, 3) := by decide +kernel
theorem dM_mean_5 : decode mM_mean.2.1 5 = .ok (.ifCond .eq 20, 3) := by decide +kernel
theorem dM_mean_8 : decode mM_mean.2.1 8 = .ok (.aload_n 0, 1) := by decide +kernel
theorem dM_mean_9 : decode mM_mean.2.1 9 = .ok (.iload_n 2, 1) := by decide +kernel
theorem dM_mean_10 : decode mM_mean.2.1 10 = .ok (.iconst 0, 1) := by decide +kernel
theorem dM_mean_11 : decode mM_mean.2.1 11 = .ok (.iconst 1, 1) := by decide +kernel
theorem dM_mean_12 : decode mM_mean.2.1 12 = .ok (.invokevirtual 203, 3) := by decide +kernel
theorem dM_mean_15 : decode mM_mean.2.1 15 = .ok (.ifCond .eq 10, 3) := by decide +kernel
theorem dM_mean_18 : decode mM_mean.2.1 18 = .ok (.aload_n 0, 1) := by decide +kernel
theorem dM_mean_19 : decode mM_mean.2.1 19 = .ok (.getfield 7, 3) := by decide +kernel
theorem dM_mean_22 : decode mM_mean.2.1 22 = .ok (.ifCond .ne 9, 3) := by decide +kernel
theorem dM_mean_25 : decode mM_mean.2.1 25 = .ok (.ldc2_w 324, 3) := by decide +kernel
theorem dM_mean_28 : decode mM_mean.2.1 28 = .ok (.goto 21, 3) := by decide +kernel
theorem dM_mean_31 : decode mM_mean.2.1 31 = .ok (.aload_n 0, 1) := by decide +kernel
theorem dM_mean_32 : decode mM_mean.2.1 32 = .ok (.aload_n 0, 1) := by decide +kernel
theorem dM_mean_33 : decode mM_mean.2.1 33 = .ok (.iload_n 1, 1) := by decide +kernel
theorem dM_mean_34 : decode mM_mean.2.1 34 = .ok (.invokevirtual 326, 3) := by decide +kernel
theorem dM_mean_37 : decode mM_mean.2.1 37 = .ok (.aload_n 0, 1) := by decide +kernel
theorem dM_mean_38 : decode mM_mean.2.1 38 = .ok (.aload_n 0, 1) := by decide +kernel
theorem dM_mean_39 : decode mM_mean.2.1 39 = .ok (.invokevirtual 314, 3) := by decide +kernel
theorem dM_mean_42 : decode mM_mean.2.1 42 = .ok (.invokevirtual 317, 3) := by decide +kernel
theorem dM_mean_45 : decode mM_mean.2.1 45 = .ok (.iload_n 2, 1) := by decide +kernel
theorem dM_mean_46 : decode mM_mean.2.1 46 = .ok (.invokevirtual 329, 3) := by decide +kernel
theorem dM_mean_49 : decode mM_mean.2.1 49 = .ok (.lreturn, 1) := by decide +kernel
theorem dM_gainOf_0 : decode mM_gainOf.2.1 0 = .ok (.iconst 0, 1) := by decide +kernel
theorem dM_gainOf_1 : decode mM_gainOf.2.1 1 = .ok (.istore_n 3, 1) := by decide +kernel
theorem dM_gainOf_2 : decode mM_gainOf.2.1 2 = .ok (.iconst 0, 1) := by decide +kernel
theorem dM_gainOf_3 : decode mM_gainOf.2.1 3 = .ok (.istore 4, 2) := by decide +kernel
theorem dM_gainOf_5 : decode mM_gainOf.2.1 5 = .ok (.iload 4, 2) := by decide +kernel
theorem dM_gainOf_7 : decode mM_gainOf.2.1 7 = .ok (.aload_n 0, 1) := by decide +kernel
theorem dM_gainOf_8 : decode mM_gainOf.2.1 8 = .ok (.getfield 13, 3) := by decide +kernel
theorem dM_gainOf_11 : decode mM_gainOf.2.1 11 = .ok (.if_icmp .ge 46, 3) := by decide +kernel
theorem dM_gainOf_14 : decode mM_gainOf.2.1 14 = .ok (.iload_n 3, 1) := by decide +kernel
theorem dM_gainOf_15 : decode mM_gainOf.2.1 15 = .ok (.aload_n 0, 1) := by decide +kernel
theorem dM_gainOf_16 : decode mM_gainOf.2.1 16 = .ok (.iload_n 1, 1) := by decide +kernel
theorem dM_gainOf_17 : decode mM_gainOf.2.1 17 = .ok (.iload 4, 2) := by decide +kernel
theorem dM_gainOf_19 : decode mM_gainOf.2.1 19 = .ok (.invokevirtual 286, 3) := by decide +kernel
theorem dM_gainOf_22 : decode mM_gainOf.2.1 22 = .ok (.ifCond .eq 26, 3) := by decide +kernel
theorem dM_gainOf_25 : decode mM_gainOf.2.1 25 = .ok (.aload_n 0, 1) := by decide +kernel
theorem dM_gainOf_26 : decode mM_gainOf.2.1 26 = .ok (.getfield 99, 3) := by decide +kernel
theorem dM_gainOf_29 : decode mM_gainOf.2.1 29 = .ok (.bipush 6, 2) := by decide +kernel
theorem dM_gainOf_31 : decode mM_gainOf.2.1 31 = .ok (.iload 4, 2) := by decide +kernel
theorem dM_gainOf_33 : decode mM_gainOf.2.1 33 = .ok (.imul, 1) := by decide +kernel
theorem dM_gainOf_34 : decode mM_gainOf.2.1 34 = .ok (.iload_n 2, 1) := by decide +kernel
theorem dM_gainOf_35 : decode mM_gainOf.2.1 35 = .ok (.iadd, 1) := by decide +kernel
theorem dM_gainOf_36 : decode mM_gainOf.2.1 36 = .ok (.iaload, 1) := by decide +kernel
theorem dM_gainOf_37 : decode mM_gainOf.2.1 37 = .ok (.aload_n 0, 1) := by decide +kernel
theorem dM_gainOf_38 : decode mM_gainOf.2.1 38 = .ok (.getfield 35, 3) := by decide +kernel
theorem dM_gainOf_41 : decode mM_gainOf.2.1 41 = .ok (.iload 4, 2) := by decide +kernel
theorem dM_gainOf_43 : decode mM_gainOf.2.1 43 = .ok (.iaload, 1) := by decide +kernel
theorem dM_gainOf_44 : decode mM_gainOf.2.1 44 = .ok (.isub, 1) := by decide +kernel
theorem dM_gainOf_45 : decode mM_gainOf.2.1 45 = .ok (.goto 4, 3) := by decide +kernel
theorem dM_gainOf_48 : decode mM_gainOf.2.1 48 = .ok (.iconst 0, 1) := by decide +kernel
theorem dM_gainOf_49 : decode mM_gainOf.2.1 49 = .ok (.iadd, 1) := by decide +kernel
theorem dM_gainOf_50 : decode mM_gainOf.2.1 50 = .ok (.istore_n 3, 1) := by decide +kernel
theorem dM_gainOf_51 : decode mM_gainOf.2.1 51 = .ok (.iinc 4 1, 3) := by decide +kernel
theorem dM_gainOf_54 : decode mM_gainOf.2.1 54 = .ok (.goto (-49), 3) := by decide +kernel
theorem dM_gainOf_57 : decode mM_gainOf.2.1 57 = .ok (.iload_n 3, 1) := by decide +kernel
theorem dM_gainOf_58 : decode mM_gainOf.2.1 58 = .ok (.ireturn, 1) := by decide +kernel
theorem dM_leastOf_0 : decode mM_leastOf.2.1 0 = .ok (.iconst 0, 1) := by decide +kernel
theorem dM_leastOf_1 : decode mM_leastOf.2.1 1 = .ok (.istore_n 2, 1) := by decide +kernel
theorem dM_leastOf_2 : decode mM_leastOf.2.1 2 = .ok (.iconst 0, 1) := by decide +kernel
theorem dM_leastOf_3 : decode mM_leastOf.2.1 3 = .ok (.istore_n 3, 1) := by decide +kernel
theorem dM_leastOf_4 : decode mM_leastOf.2.1 4 = .ok (.iload_n 3, 1) := by decide +kernel
theorem dM_leastOf_5 : decode mM_leastOf.2.1 5 = .ok (.aload_n 0, 1) := by decide +kernel
theorem dM_leastOf_6 : decode mM_leastOf.2.1 6 = .ok (.getfield 7, 3) := by decide +kernel
theorem dM_leastOf_9 : decode mM_leastOf.2.1 9 = .ok (.if_icmp .ge 34, 3) := by decide +kernel
theorem dM_leastOf_12 : decode mM_leastOf.2.1 12 = .ok (.aload_n 0, 1) := by decide +kernel
theorem dM_leastOf_13 : decode mM_leastOf.2.1 13 = .ok (.iload_n 1, 1) := by decide +kernel
theorem dM_leastOf_14 : decode mM_leastOf.2.1 14 = .ok (.iload_n 3, 1) := by decide +kernel
theorem dM_leastOf_15 : decode mM_leastOf.2.1 15 = .ok (.invokevirtual 333, 3) := by decide +kernel
theorem dM_leastOf_18 : decode mM_leastOf.2.1 18 = .ok (.istore 4, 2) := by decide +kernel
theorem dM_leastOf_20 : decode mM_leastOf.2.1 20 = .ok (.iload_n 3, 1) := by decide +kernel
theorem dM_leastOf_21 : decode mM_leastOf.2.1 21 = .ok (.ifCond .eq 9, 3) := by decide +kernel
theorem dM_leastOf_24 : decode mM_leastOf.2.1 24 = .ok (.iload 4, 2) := by decide +kernel
theorem dM_leastOf_26 : decode mM_leastOf.2.1 26 = .ok (.iload_n 2, 1) := by decide +kernel
theorem dM_leastOf_27 : decode mM_leastOf.2.1 27 = .ok (.if_icmp .ge 8, 3) := by decide +kernel
theorem dM_leastOf_30 : decode mM_leastOf.2.1 30 = .ok (.iload 4, 2) := by decide +kernel
theorem dM_leastOf_32 : decode mM_leastOf.2.1 32 = .ok (.goto 4, 3) := by decide +kernel
theorem dM_leastOf_35 : decode mM_leastOf.2.1 35 = .ok (.iload_n 2, 1) := by decide +kernel
theorem dM_leastOf_36 : decode mM_leastOf.2.1 36 = .ok (.istore_n 2, 1) := by decide +kernel
theorem dM_leastOf_37 : decode mM_leastOf.2.1 37 = .ok (.iinc 3 1, 3) := by decide +kernel
theorem dM_leastOf_40 : decode mM_leastOf.2.1 40 = .ok (.goto (-36), 3) := by decide +kernel
theorem dM_leastOf_43 : decode mM_leastOf.2.1 43 = .ok (.iload_n 2, 1) := by decide +kernel
theorem dM_leastOf_44 : decode mM_leastOf.2.1 44 = .ok (.ireturn, 1) := by decide +kernel
theorem dM_mostOf_0 : decode mM_mostOf.2.1 0 = .ok (.iconst 0, 1) := by decide +kernel
theorem dM_mostOf_1 : decode mM_mostOf.2.1 1 = .ok (.istore_n 2, 1) := by decide +kernel
theorem dM_mostOf_2 : decode mM_mostOf.2.1 2 = .ok (.iconst 0, 1) := by decide +kernel
theorem dM_mostOf_3 : decode mM_mostOf.2.1 3 = .ok (.istore_n 3, 1) := by decide +kernel
theorem dM_mostOf_4 : decode mM_mostOf.2.1 4 = .ok (.iload_n 3, 1) := by decide +kernel
theorem dM_mostOf_5 : decode mM_mostOf.2.1 5 = .ok (.aload_n 0, 1) := by decide +kernel
theorem dM_mostOf_6 : decode mM_mostOf.2.1 6 = .ok (.getfield 7, 3) := by decide +kernel
theorem dM_mostOf_9 : decode mM_mostOf.2.1 9 = .ok (.if_icmp .ge 34, 3) := by decide +kernel
theorem dM_mostOf_12 : decode mM_mostOf.2.1 12 = .ok (.aload_n 0, 1) := by decide +kernel
theorem dM_mostOf_13 : decode mM_mostOf.2.1 13 = .ok (.iload_n 1, 1) := by decide +kernel
theorem dM_mostOf_14 : decode mM_mostOf.2.1 14 = .ok (.iload_n 3, 1) := by decide +kernel
theorem dM_mostOf_15 : decode mM_mostOf.2.1 15 = .ok (.invokevirtual 333, 3) := by decide +kernel
theorem dM_mostOf_18 : decode mM_mostOf.2.1 18 = .ok (.istore 4, 2) := by decide +kernel
theorem dM_mostOf_20 : decode mM_mostOf.2.1 20 = .ok (.iload_n 3, 1) := by decide +kernel
theorem dM_mostOf_21 : decode mM_mostOf.2.1 21 = .ok (.ifCond .eq 9, 3) := by decide +kernel
theorem dM_mostOf_24 : decode mM_mostOf.2.1 24 = .ok (.iload 4, 2) := by decide +kernel
theorem dM_mostOf_26 : decode mM_mostOf.2.1 26 = .ok (.iload_n 2, 1) := by decide +kernel
theorem dM_mostOf_27 : decode mM_mostOf.2.1 27 = .ok (.if_icmp .le 8, 3) := by decide +kernel
theorem dM_mostOf_30 : decode mM_mostOf.2.1 30 = .ok (.iload 4, 2) := by decide +kernel
theorem dM_mostOf_32 : decode mM_mostOf.2.1 32 = .ok (.goto 4, 3) := by decide +kernel
theorem dM_mostOf_35 : decode mM_mostOf.2.1 35 = .ok (.iload_n 2, 1) := by decide +kernel
theorem dM_mostOf_36 : decode mM_mostOf.2.1 36 = .ok (.istore_n 2, 1) := by decide +kernel
theorem dM_mostOf_37 : decode mM_mostOf.2.1 37 = .ok (.iinc 3 1, 3) := by decide +kernel
theorem dM_mostOf_40 : decode mM_mostOf.2.1 40 = .ok (.goto (-36), 3) := by decide +kernel
theorem dM_mostOf_43 : decode mM_mostOf.2.1 43 = .ok (.iload_n 2, 1) := by decide +kernel
theorem dM_mostOf_44 : decode mM_mostOf.2.1 44 = .ok (.ireturn, 1) := by decide +kernel
theorem dM_gain_0 : decode mM_gain.2.1 0 = .ok (.aload_n 0, 1) := by decide +kernel
theorem dM_gain_1 : decode mM_gain.2.1 1 = .ok (.iload_n 2, 1) := by decide +kernel
theorem dM_gain_2 : decode mM_gain.2.1 2 = .ok (.invokevirtual 207, 3) := by decide +kernel
theorem dM_gain_5 : decode mM_gain.2.1 5 = .ok (.ifCond .ne 7, 3) := by decide +kernel
theorem dM_gain_8 : decode mM_gain.2.1 8 = .ok (.ldc_w 336, 3) := by decide +kernel
theorem dM_gain_11 : decode mM_gain.2.1 11 = .ok (.ireturn, 1) := by decide +kernel
theorem dM_gain_12 : decode mM_gain.2.1 12 = .ok (.aload_n 0, 1) := by decide +kernel
theorem dM_gain_13 : decode mM_gain.2.1 13 = .ok (.iload_n 1, 1) := by decide +kernel
theorem dM_gain_14 : decode mM_gain.2.1 14 = .ok (.invokevirtual 337, 3) := by decide +kernel
theorem dM_gain_17 : decode mM_gain.2.1 17 = .ok (.ifCond .ne 7, 3) := by decide +kernel
theorem dM_gain_20 : decode mM_gain.2.1 20 = .ok (.ldc_w 340, 3) := by decide +kernel
theorem dM_gain_23 : decode mM_gain.2.1 23 = .ok (.ireturn, 1) := by decide +kernel
theorem dM_gain_24 : decode mM_gain.2.1 24 = .ok (.aload_n 0, 1) := by decide +kernel
theorem dM_gain_25 : decode mM_gain.2.1 25 = .ok (.invokevirtual 341, 3) := by decide +kernel
theorem dM_gain_28 : decode mM_gain.2.1 28 = .ok (.aload_n 0, 1) := by decide +kernel
theorem dM_gain_29 : decode mM_gain.2.1 29 = .ok (.iload_n 1, 1) := by decide +kernel
theorem dM_gain_30 : decode mM_gain.2.1 30 = .ok (.iload_n 2, 1) := by decide +kernel
theorem dM_gain_31 : decode mM_gain.2.1 31 = .ok (.invokevirtual 333, 3) := by decide +kernel
theorem dM_gain_34 : decode mM_gain.2.1 34 = .ok (.ireturn, 1) := by decide +kernel
theorem dM_least_0 : decode mM_least.2.1 0 = .ok (.aload_n 0, 1) := by decide +kernel
theorem dM_least_1 : decode mM_least.2.1 1 = .ok (.iload_n 1, 1) := by decide +kernel
theorem dM_least_2 : decode mM_least.2.1 2 = .ok (.invokevirtual 337, 3) := by decide +kernel
theorem dM_least_5 : decode mM_least.2.1 5 = .ok (.ifCond .ne 7, 3) := by decide +kernel
theorem dM_least_8 : decode mM_least.2.1 8 = .ok (.ldc_w 340, 3) := by decide +kernel
theorem dM_least_11 : decode mM_least.2.1 11 = .ok (.ireturn, 1) := by decide +kernel
theorem dM_least_12 : decode mM_least.2.1 12 = .ok (.aload_n 0, 1) := by decide +kernel
theorem dM_least_13 : decode mM_least.2.1 13 = .ok (.invokevirtual 341, 3) := by decide +kernel
theorem dM_least_16 : decode mM_least.2.1 16 = .ok (.aload_n 0, 1) := by decide +kernel
theorem dM_least_17 : decode mM_least.2.1 17 = .ok (.iload_n 1, 1) := by decide +kernel
theorem dM_least_18 : decode mM_least.2.1 18 = .ok (.invokevirtual 344, 3) := by decide +kernel
theorem dM_least_21 : decode mM_least.2.1 21 = .ok (.ireturn, 1) := by decide +kernel
theorem dM_open_0 : decode mM_open.2.1 0 = .ok (.iload_n 1, 1) := by decide +kernel
theorem dM_open_1 : decode mM_open.2.1 1 = .ok (.iconst (-1), 1) := by decide +kernel
theorem dM_open_2 : decode mM_open.2.1 2 = .ok (.if_icmp .ne 10, 3) := by decide +kernel
theorem dM_open_5 : decode mM_open.2.1 5 = .ok (.aload_n 0, 1) := by decide +kernel
theorem dM_open_6 : decode mM_open.2.1 6 = .ok (.iconst 0, 1) := by decide +kernel
theorem dM_open_7 : decode mM_open.2.1 7 = .ok (.putfield 102, 3) := by decide +kernel
theorem dM_open_10 : decode mM_open.2.1 10 = .ok (.iconst 0, 1) := by decide +kernel
theorem dM_open_11 : decode mM_open.2.1 11 = .ok (.ireturn, 1) := by decide +kernel
theorem dM_open_12 : decode mM_open.2.1 12 = .ok (.aload_n 0, 1) := by decide +kernel
theorem dM_open_13 : decode mM_open.2.1 13 = .ok (.iload_n 1, 1) := by decide +kernel
theorem dM_open_14 : decode mM_open.2.1 14 = .ok (.invokevirtual 217, 3) := by decide +kernel
theorem dM_open_17 : decode mM_open.2.1 17 = .ok (.ifCond .ne 5, 3) := by decide +kernel
theorem dM_open_20 : decode mM_open.2.1 20 = .ok (.iconst (-1), 1) := by decide +kernel
theorem dM_open_21 : decode mM_open.2.1 21 = .ok (.ireturn, 1) := by decide +kernel
theorem dM_open_22 : decode mM_open.2.1 22 = .ok (.aload_n 0, 1) := by decide +kernel
theorem dM_open_23 : decode mM_open.2.1 23 = .ok (.getfield 102, 3) := by decide +kernel
theorem dM_open_26 : decode mM_open.2.1 26 = .ok (.bipush 8, 2) := by decide +kernel
theorem dM_open_28 : decode mM_open.2.1 28 = .ok (.if_icmp .ne 6, 3) := by decide +kernel
theorem dM_open_31 : decode mM_open.2.1 31 = .ok (.bipush (-4), 2) := by decide +kernel
theorem dM_open_33 : decode mM_open.2.1 33 = .ok (.ireturn, 1) := by decide +kernel
theorem dM_open_34 : decode mM_open.2.1 34 = .ok (.aload_n 0, 1) := by decide +kernel
theorem dM_open_35 : decode mM_open.2.1 35 = .ok (.getfield 105, 3) := by decide +kernel
theorem dM_open_38 : decode mM_open.2.1 38 = .ok (.aload_n 0, 1) := by decide +kernel
theorem dM_open_39 : decode mM_open.2.1 39 = .ok (.getfield 102, 3) := by decide +kernel
theorem dM_open_42 : decode mM_open.2.1 42 = .ok (.iload_n 1, 1) := by decide +kernel
theorem dM_open_43 : decode mM_open.2.1 43 = .ok (.iastore, 1) := by decide +kernel
theorem dM_open_44 : decode mM_open.2.1 44 = .ok (.aload_n 0, 1) := by decide +kernel
theorem dM_open_45 : decode mM_open.2.1 45 = .ok (.getfield 108, 3) := by decide +kernel
theorem dM_open_48 : decode mM_open.2.1 48 = .ok (.aload_n 0, 1) := by decide +kernel
theorem dM_open_49 : decode mM_open.2.1 49 = .ok (.getfield 102, 3) := by decide +kernel
theorem dM_open_52 : decode mM_open.2.1 52 = .ok (.iload_n 2, 1) := by decide +kernel
theorem dM_open_53 : decode mM_open.2.1 53 = .ok (.bastore, 1) := by decide +kernel
theorem dM_open_54 : decode mM_open.2.1 54 = .ok (.aload_n 0, 1) := by decide +kernel
theorem dM_open_55 : decode mM_open.2.1 55 = .ok (.dup, 1) := by decide +kernel
theorem dM_open_56 : decode mM_open.2.1 56 = .ok (.getfield 102, 3) := by decide +kernel
theorem dM_open_59 : decode mM_open.2.1 59 = .ok (.iconst 1, 1) := by decide +kernel
theorem dM_open_60 : decode mM_open.2.1 60 = .ok (.iadd, 1) := by decide +kernel
theorem dM_open_61 : decode mM_open.2.1 61 = .ok (.putfield 102, 3) := by decide +kernel
theorem dM_open_64 : decode mM_open.2.1 64 = .ok (.aload_n 0, 1) := by decide +kernel
theorem dM_open_65 : decode mM_open.2.1 65 = .ok (.getfield 102, 3) := by decide +kernel
theorem dM_open_68 : decode mM_open.2.1 68 = .ok (.ireturn, 1) := by decide +kernel
theorem dM_leftNow_0 : decode mM_leftNow.2.1 0 = .ok (.aload_n 0, 1) := by decide +kernel
theorem dM_leftNow_1 : decode mM_leftNow.2.1 1 = .ok (.invokevirtual 314, 3) := by decide +kernel
theorem dM_leftNow_4 : decode mM_leftNow.2.1 4 = .ok (.istore_n 1, 1) := by decide +kernel
theorem dM_leftNow_5 : decode mM_leftNow.2.1 5 = .ok (.iconst 0, 1) := by decide +kernel
theorem dM_leftNow_6 : decode mM_leftNow.2.1 6 = .ok (.istore_n 2, 1) := by decide +kernel
theorem dM_leftNow_7 : decode mM_leftNow.2.1 7 = .ok (.iload_n 2, 1) := by decide +kernel
theorem dM_leftNow_8 : decode mM_leftNow.2.1 8 = .ok (.aload_n 0, 1) := by decide +kernel
theorem dM_leftNow_9 : decode mM_leftNow.2.1 9 = .ok (.getfield 102, 3) := by decide +kernel
theorem dM_leftNow_12 : decode mM_leftNow.2.1 12 = .ok (.if_icmp .ge 48, 3) := by decide +kernel
theorem dM_leftNow_15 : decode mM_leftNow.2.1 15 = .ok (.iload_n 1, 1) := by decide +kernel
theorem dM_leftNow_16 : decode mM_leftNow.2.1 16 = .ok (.aload_n 0, 1) := by decide +kernel
theorem dM_leftNow_17 : decode mM_leftNow.2.1 17 = .ok (.getfield 108, 3) := by decide +kernel
theorem dM_leftNow_20 : decode mM_leftNow.2.1 20 = .ok (.iload_n 2, 1) := by decide +kernel
theorem dM_leftNow_21 : decode mM_leftNow.2.1 21 = .ok (.baload, 1) := by decide +kernel
theorem dM_leftNow_22 : decode mM_leftNow.2.1 22 = .ok (.ifCond .eq 17, 3) := by decide +kernel
theorem dM_leftNow_25 : decode mM_leftNow.2.1 25 = .ok (.aload_n 0, 1) := by decide +kernel
theorem dM_leftNow_26 : decode mM_leftNow.2.1 26 = .ok (.getfield 32, 3) := by decide +kernel
theorem dM_leftNow_29 : decode mM_leftNow.2.1 29 = .ok (.aload_n 0, 1) := by decide +kernel
theorem dM_leftNow_30 : decode mM_leftNow.2.1 30 = .ok (.getfield 105, 3) := by decide +kernel
theorem dM_leftNow_33 : decode mM_leftNow.2.1 33 = .ok (.iload_n 2, 1) := by decide +kernel
theorem dM_leftNow_34 : decode mM_leftNow.2.1 34 = .ok (.iaload, 1) := by decide +kernel
theorem dM_leftNow_35 : decode mM_leftNow.2.1 35 = .ok (.iaload, 1) := by decide +kernel
theorem dM_leftNow_36 : decode mM_leftNow.2.1 36 = .ok (.goto 16, 3) := by decide +kernel
theorem dM_leftNow_39 : decode mM_leftNow.2.1 39 = .ok (.aload_n 0, 1) := by decide +kernel
theorem dM_leftNow_40 : decode mM_leftNow.2.1 40 = .ok (.getfield 32, 3) := by decide +kernel
theorem dM_leftNow_43 : decode mM_leftNow.2.1 43 = .ok (.aload_n 0, 1) := by decide +kernel
theorem dM_leftNow_44 : decode mM_leftNow.2.1 44 = .ok (.getfield 105, 3) := by decide +kernel
theorem dM_leftNow_47 : decode mM_leftNow.2.1 47 = .ok (.iload_n 2, 1) := by decide +kernel
theorem dM_leftNow_48 : decode mM_leftNow.2.1 48 = .ok (.iaload, 1) := by decide +kernel
theorem dM_leftNow_49 : decode mM_leftNow.2.1 49 = .ok (.iaload, 1) := by decide +kernel
theorem dM_leftNow_50 : decode mM_leftNow.2.1 50 = .ok (.iconst (-1), 1) := by decide +kernel
theorem dM_leftNow_51 : decode mM_leftNow.2.1 51 = .ok (.ixor, 1) := by decide +kernel
theorem dM_leftNow_52 : decode mM_leftNow.2.1 52 = .ok (.iand, 1) := by decide +kernel
theorem dM_leftNow_53 : decode mM_leftNow.2.1 53 = .ok (.istore_n 1, 1) := by decide +kernel
theorem dM_leftNow_54 : decode mM_leftNow.2.1 54 = .ok (.iinc 2 1, 3) := by decide +kernel
theorem dM_leftNow_57 : decode mM_leftNow.2.1 57 = .ok (.goto (-50), 3) := by decide +kernel
theorem dM_leftNow_60 : decode mM_leftNow.2.1 60 = .ok (.iload_n 1, 1) := by decide +kernel
theorem dM_leftNow_61 : decode mM_leftNow.2.1 61 = .ok (.ireturn, 1) := by decide +kernel
theorem dM_left_0 : decode mM_left.2.1 0 = .ok (.aload_n 0, 1) := by decide +kernel
theorem dM_left_1 : decode mM_left.2.1 1 = .ok (.invokevirtual 347, 3) := by decide +kernel
theorem dM_left_4 : decode mM_left.2.1 4 = .ok (.ireturn, 1) := by decide +kernel
theorem dM_odds_0 : decode mM_odds.2.1 0 = .ok (.aload_n 0, 1) := by decide +kernel
theorem dM_odds_1 : decode mM_odds.2.1 1 = .ok (.iload_n 1, 1) := by decide +kernel
theorem dM_odds_2 : decode mM_odds.2.1 2 = .ok (.invokevirtual 217, 3) := by decide +kernel
theorem dM_odds_5 : decode mM_odds.2.1 5 = .ok (.ifCond .eq 13, 3) := by decide +kernel
theorem dM_odds_8 : decode mM_odds.2.1 8 = .ok (.aload_n 0, 1) := by decide +kernel
theorem dM_odds_9 : decode mM_odds.2.1 9 = .ok (.iload_n 2, 1) := by decide +kernel
theorem dM_odds_10 : decode mM_odds.2.1 10 = .ok (.iconst 0, 1) := by decide +kernel
theorem dM_odds_11 : decode mM_odds.2.1 11 = .ok (.iconst 1, 1) := by decide +kernel
theorem dM_odds_12 : decode mM_odds.2.1 12 = .ok (.invokevirtual 203, 3) := by decide +kernel
theorem dM_odds_15 : decode mM_odds.2.1 15 = .ok (.ifCond .ne 7, 3) := by decide +kernel
theorem dM_odds_18 : decode mM_odds.2.1 18 = .ok (.ldc2_w 324, 3) := by decide +kernel
theorem dM_odds_21 : decode mM_odds.2.1 21 = .ok (.lreturn, 1) := by decide +kernel
theorem dM_odds_22 : decode mM_odds.2.1 22 = .ok (.aload_n 0, 1) := by decide +kernel
theorem dM_odds_23 : decode mM_odds.2.1 23 = .ok (.invokevirtual 347, 3) := by decide +kernel
theorem dM_odds_26 : decode mM_odds.2.1 26 = .ok (.istore_n 3, 1) := by decide +kernel
theorem dM_odds_27 : decode mM_odds.2.1 27 = .ok (.iload_n 3, 1) := by decide +kernel
theorem dM_odds_28 : decode mM_odds.2.1 28 = .ok (.ifCond .ne 9, 3) := by decide +kernel
theorem dM_odds_31 : decode mM_odds.2.1 31 = .ok (.ldc2_w 324, 3) := by decide +kernel
theorem dM_odds_34 : decode mM_odds.2.1 34 = .ok (.goto 25, 3) := by decide +kernel
theorem dM_odds_37 : decode mM_odds.2.1 37 = .ok (.aload_n 0, 1) := by decide +kernel
theorem dM_odds_38 : decode mM_odds.2.1 38 = .ok (.aload_n 0, 1) := by decide +kernel
theorem dM_odds_39 : decode mM_odds.2.1 39 = .ok (.iload_n 3, 1) := by decide +kernel
theorem dM_odds_40 : decode mM_odds.2.1 40 = .ok (.aload_n 0, 1) := by decide +kernel
theorem dM_odds_41 : decode mM_odds.2.1 41 = .ok (.getfield 32, 3) := by decide +kernel
theorem dM_odds_44 : decode mM_odds.2.1 44 = .ok (.iload_n 1, 1) := by decide +kernel
theorem dM_odds_45 : decode mM_odds.2.1 45 = .ok (.iaload, 1) := by decide +kernel
theorem dM_odds_46 : decode mM_odds.2.1 46 = .ok (.iand, 1) := by decide +kernel
theorem dM_odds_47 : decode mM_odds.2.1 47 = .ok (.invokevirtual 317, 3) := by decide +kernel
theorem dM_odds_50 : decode mM_odds.2.1 50 = .ok (.aload_n 0, 1) := by decide +kernel
theorem dM_odds_51 : decode mM_odds.2.1 51 = .ok (.iload_n 3, 1) := by decide +kernel
theorem dM_odds_52 : decode mM_odds.2.1 52 = .ok (.invokevirtual 317, 3) := by decide +kernel
theorem dM_odds_55 : decode mM_odds.2.1 55 = .ok (.iload_n 2, 1) := by decide +kernel
theorem dM_odds_56 : decode mM_odds.2.1 56 = .ok (.invokevirtual 329, 3) := by decide +kernel
theorem dM_odds_59 : decode mM_odds.2.1 59 = .ok (.lreturn, 1) := by decide +kernel
theorem dM_knew_0 : decode mM_knew.2.1 0 = .ok (.aload_n 0, 1) := by decide +kernel
theorem dM_knew_1 : decode mM_knew.2.1 1 = .ok (.invokevirtual 347, 3) := by decide +kernel
theorem dM_knew_4 : decode mM_knew.2.1 4 = .ok (.istore_n 1, 1) := by decide +kernel
theorem dM_knew_5 : decode mM_knew.2.1 5 = .ok (.iconst 0, 1) := by decide +kernel
theorem dM_knew_6 : decode mM_knew.2.1 6 = .ok (.istore_n 2, 1) := by decide +kernel
theorem dM_knew_7 : decode mM_knew.2.1 7 = .ok (.iconst 0, 1) := by decide +kernel
theorem dM_knew_8 : decode mM_knew.2.1 8 = .ok (.istore_n 3, 1) := by decide +kernel
theorem dM_knew_9 : decode mM_knew.2.1 9 = .ok (.iload_n 3, 1) := by decide +kernel
theorem dM_knew_10 : decode mM_knew.2.1 10 = .ok (.aload_n 0, 1) := by decide +kernel
theorem dM_knew_11 : decode mM_knew.2.1 11 = .ok (.getfield 13, 3) := by decide +kernel
theorem dM_knew_14 : decode mM_knew.2.1 14 = .ok (.if_icmp .ge 36, 3) := by decide +kernel
theorem dM_knew_17 : decode mM_knew.2.1 17 = .ok (.iload_n 2, 1) := by decide +kernel
theorem dM_knew_18 : decode mM_knew.2.1 18 = .ok (.iload_n 1, 1) := by decide +kernel
theorem dM_knew_19 : decode mM_knew.2.1 19 = .ok (.ifCond .eq 22, 3) := by decide +kernel
theorem dM_knew_22 : decode mM_knew.2.1 22 = .ok (.iload_n 1, 1) := by decide +kernel
theorem dM_knew_23 : decode mM_knew.2.1 23 = .ok (.aload_n 0, 1) := by decide +kernel
theorem dM_knew_24 : decode mM_knew.2.1 24 = .ok (.getfield 32, 3) := by decide +kernel
theorem dM_knew_27 : decode mM_knew.2.1 27 = .ok (.iload_n 3, 1) := by decide +kernel
theorem dM_knew_28 : decode mM_knew.2.1 28 = .ok (.iaload, 1) := by decide +kernel
theorem dM_knew_29 : decode mM_knew.2.1 29 = .ok (.iconst (-1), 1) := by decide +kernel
theorem dM_knew_30 : decode mM_knew.2.1 30 = .ok (.ixor, 1) := by decide +kernel
theorem dM_knew_31 : decode mM_knew.2.1 31 = .ok (.iand, 1) := by decide +kernel
theorem dM_knew_32 : decode mM_knew.2.1 32 = .ok (.ifCond .ne 9, 3) := by decide +kernel
theorem dM_knew_35 : decode mM_knew.2.1 35 = .ok (.iconst 1, 1) := by decide +kernel
theorem dM_knew_36 : decode mM_knew.2.1 36 = .ok (.iload_n 3, 1) := by decide +kernel
theorem dM_knew_37 : decode mM_knew.2.1 37 = .ok (.ishl, 1) := by decide +kernel
theorem dM_knew_38 : decode mM_knew.2.1 38 = .ok (.goto 4, 3) := by decide +kernel
theorem dM_knew_41 : decode mM_knew.2.1 41 = .ok (.iconst 0, 1) := by decide +kernel
theorem dM_knew_42 : decode mM_knew.2.1 42 = .ok (.ior, 1) := by decide +kernel
theorem dM_knew_43 : decode mM_knew.2.1 43 = .ok (.istore_n 2, 1) := by decide +kernel
theorem dM_knew_44 : decode mM_knew.2.1 44 = .ok (.iinc 3 1, 3) := by decide +kernel
theorem dM_knew_47 : decode mM_knew.2.1 47 = .ok (.goto (-38), 3) := by decide +kernel
theorem dM_knew_50 : decode mM_knew.2.1 50 = .ok (.iload_n 2, 1) := by decide +kernel
theorem dM_knew_51 : decode mM_knew.2.1 51 = .ok (.ireturn, 1) := by decide +kernel
theorem dM_best_0 : decode mM_best.2.1 0 = .ok (.aload_n 0, 1) := by decide +kernel
theorem dM_best_1 : decode mM_best.2.1 1 = .ok (.iload_n 1, 1) := by decide +kernel
theorem dM_best_2 : decode mM_best.2.1 2 = .ok (.invokevirtual 217, 3) := by decide +kernel
theorem dM_best_5 : decode mM_best.2.1 5 = .ok (.ifCond .eq 13, 3) := by decide +kernel
theorem dM_best_8 : decode mM_best.2.1 8 = .ok (.aload_n 0, 1) := by decide +kernel
theorem dM_best_9 : decode mM_best.2.1 9 = .ok (.iload_n 2, 1) := by decide +kernel
theorem dM_best_10 : decode mM_best.2.1 10 = .ok (.iconst 0, 1) := by decide +kernel
theorem dM_best_11 : decode mM_best.2.1 11 = .ok (.iconst 1, 1) := by decide +kernel
theorem dM_best_12 : decode mM_best.2.1 12 = .ok (.invokevirtual 203, 3) := by decide +kernel
theorem dM_best_15 : decode mM_best.2.1 15 = .ok (.ifCond .ne 5, 3) := by decide +kernel
theorem dM_best_18 : decode mM_best.2.1 18 = .ok (.iconst (-1), 1) := by decide +kernel
theorem dM_best_19 : decode mM_best.2.1 19 = .ok (.ireturn, 1) := by decide +kernel
theorem dM_best_20 : decode mM_best.2.1 20 = .ok (.aload_n 0, 1) := by decide +kernel
theorem dM_best_21 : decode mM_best.2.1 21 = .ok (.getfield 32, 3) := by decide +kernel
theorem dM_best_24 : decode mM_best.2.1 24 = .ok (.iload_n 1, 1) := by decide +kernel
theorem dM_best_25 : decode mM_best.2.1 25 = .ok (.iaload, 1) := by decide +kernel
theorem dM_best_26 : decode mM_best.2.1 26 = .ok (.istore_n 3, 1) := by decide +kernel
theorem dM_best_27 : decode mM_best.2.1 27 = .ok (.iconst 0, 1) := by decide +kernel
theorem dM_best_28 : decode mM_best.2.1 28 = .ok (.istore 4, 2) := by decide +kernel
theorem dM_best_30 : decode mM_best.2.1 30 = .ok (.iconst (-1), 1) := by decide +kernel
theorem dM_best_31 : decode mM_best.2.1 31 = .ok (.istore 5, 2) := by decide +kernel
theorem dM_best_33 : decode mM_best.2.1 33 = .ok (.iconst 0, 1) := by decide +kernel
theorem dM_best_34 : decode mM_best.2.1 34 = .ok (.istore 6, 2) := by decide +kernel
theorem dM_best_36 : decode mM_best.2.1 36 = .ok (.iload 6, 2) := by decide +kernel
theorem dM_best_38 : decode mM_best.2.1 38 = .ok (.aload_n 0, 1) := by decide +kernel
theorem dM_best_39 : decode mM_best.2.1 39 = .ok (.invokevirtual 314, 3) := by decide +kernel
theorem dM_best_42 : decode mM_best.2.1 42 = .ok (.if_icmp .gt 42, 3) := by decide +kernel
theorem dM_best_45 : decode mM_best.2.1 45 = .ok (.aload_n 0, 1) := by decide +kernel
theorem dM_best_46 : decode mM_best.2.1 46 = .ok (.getfield 32, 3) := by decide +kernel
theorem dM_best_49 : decode mM_best.2.1 49 = .ok (.iload_n 1, 1) := by decide +kernel
theorem dM_best_50 : decode mM_best.2.1 50 = .ok (.iload 6, 2) := by decide +kernel
theorem dM_best_52 : decode mM_best.2.1 52 = .ok (.iastore, 1) := by decide +kernel
theorem dM_best_53 : decode mM_best.2.1 53 = .ok (.aload_n 0, 1) := by decide +kernel
theorem dM_best_54 : decode mM_best.2.1 54 = .ok (.iload_n 1, 1) := by decide +kernel
theorem dM_best_55 : decode mM_best.2.1 55 = .ok (.invokevirtual 326, 3) := by decide +kernel
theorem dM_best_58 : decode mM_best.2.1 58 = .ok (.istore 7, 2) := by decide +kernel
theorem dM_best_60 : decode mM_best.2.1 60 = .ok (.iload 7, 2) := by decide +kernel
theorem dM_best_62 : decode mM_best.2.1 62 = .ok (.iload 5, 2) := by decide +kernel
theorem dM_best_64 : decode mM_best.2.1 64 = .ok (.if_icmp .gt 6, 3) := by decide +kernel
theorem dM_best_67 : decode mM_best.2.1 67 = .ok (.goto 11, 3) := by decide +kernel
theorem dM_best_70 : decode mM_best.2.1 70 = .ok (.iload 6, 2) := by decide +kernel
theorem dM_best_72 : decode mM_best.2.1 72 = .ok (.istore 4, 2) := by decide +kernel
theorem dM_best_74 : decode mM_best.2.1 74 = .ok (.iload 7, 2) := by decide +kernel
theorem dM_best_76 : decode mM_best.2.1 76 = .ok (.istore 5, 2) := by decide +kernel
theorem dM_best_78 : decode mM_best.2.1 78 = .ok (.iinc 6 1, 3) := by decide +kernel
theorem dM_best_81 : decode mM_best.2.1 81 = .ok (.goto (-45), 3) := by decide +kernel
theorem dM_best_84 : decode mM_best.2.1 84 = .ok (.aload_n 0, 1) := by decide +kernel
theorem dM_best_85 : decode mM_best.2.1 85 = .ok (.getfield 32, 3) := by decide +kernel
theorem dM_best_88 : decode mM_best.2.1 88 = .ok (.iload_n 1, 1) := by decide +kernel
theorem dM_best_89 : decode mM_best.2.1 89 = .ok (.iload_n 3, 1) := by decide +kernel
theorem dM_best_90 : decode mM_best.2.1 90 = .ok (.iastore, 1) := by decide +kernel
theorem dM_best_91 : decode mM_best.2.1 91 = .ok (.iload_n 2, 1) := by decide +kernel
theorem dM_best_92 : decode mM_best.2.1 92 = .ok (.ifCond .ne 8, 3) := by decide +kernel
theorem dM_best_95 : decode mM_best.2.1 95 = .ok (.iload 4, 2) := by decide +kernel
theorem dM_best_97 : decode mM_best.2.1 97 = .ok (.goto 5, 3) := by decide +kernel
theorem dM_best_100 : decode mM_best.2.1 100 = .ok (.iload 5, 2) := by decide +kernel
theorem dM_best_102 : decode mM_best.2.1 102 = .ok (.ireturn, 1) := by decide +kernel
theorem dM_safest_0 : decode mM_safest.2.1 0 = .ok (.aload_n 0, 1) := by decide +kernel
theorem dM_safest_1 : decode mM_safest.2.1 1 = .ok (.iload_n 1, 1) := by decide +kernel
theorem dM_safest_2 : decode mM_safest.2.1 2 = .ok (.iconst 0, 1) := by decide +kernel
theorem dM_safest_3 : decode mM_safest.2.1 3 = .ok (.iconst 1, 1) := by decide +kernel
theorem dM_safest_4 : decode mM_safest.2.1 4 = .ok (.invokevirtual 203, 3) := by decide +kernel
theorem dM_safest_7 : decode mM_safest.2.1 7 = .ok (.ifCond .ne 7, 3) := by decide +kernel
theorem dM_safest_10 : decode mM_safest.2.1 10 = .ok (.ldc_w 336, 3) := by decide +kernel
theorem dM_safest_13 : decode mM_safest.2.1 13 = .ok (.ireturn, 1) := by decide +kernel
theorem dM_safest_14 : decode mM_safest.2.1 14 = .ok (.aload_n 0, 1) := by decide +kernel
theorem dM_safest_15 : decode mM_safest.2.1 15 = .ok (.invokevirtual 341, 3) := by decide +kernel
theorem dM_safest_18 : decode mM_safest.2.1 18 = .ok (.iconst 0, 1) := by decide +kernel
theorem dM_safest_19 : decode mM_safest.2.1 19 = .ok (.istore_n 2, 1) := by decide +kernel
theorem dM_safest_20 : decode mM_safest.2.1 20 = .ok (.iconst 0, 1) := by decide +kernel
theorem dM_safest_21 : decode mM_safest.2.1 21 = .ok (.istore_n 3, 1) := by decide +kernel
theorem dM_safest_22 : decode mM_safest.2.1 22 = .ok (.iconst 1, 1) := by decide +kernel
theorem dM_safest_23 : decode mM_safest.2.1 23 = .ok (.istore 4, 2) := by decide +kernel
theorem dM_safest_25 : decode mM_safest.2.1 25 = .ok (.iload 4, 2) := by decide +kernel
theorem dM_safest_27 : decode mM_safest.2.1 27 = .ok (.iconst 1, 1) := by decide +kernel
theorem dM_safest_28 : decode mM_safest.2.1 28 = .ok (.aload_n 0, 1) := by decide +kernel
theorem dM_safest_29 : decode mM_safest.2.1 29 = .ok (.getfield 13, 3) := by decide +kernel
theorem dM_safest_32 : decode mM_safest.2.1 32 = .ok (.ishl, 1) := by decide +kernel
theorem dM_safest_33 : decode mM_safest.2.1 33 = .ok (.if_icmp .ge 32, 3) := by decide +kernel
theorem dM_safest_36 : decode mM_safest.2.1 36 = .ok (.aload_n 0, 1) := by decide +kernel
theorem dM_safest_37 : decode mM_safest.2.1 37 = .ok (.iload 4, 2) := by decide +kernel
theorem dM_safest_39 : decode mM_safest.2.1 39 = .ok (.invokevirtual 344, 3) := by decide +kernel
theorem dM_safest_42 : decode mM_safest.2.1 42 = .ok (.istore 5, 2) := by decide +kernel
theorem dM_safest_44 : decode mM_safest.2.1 44 = .ok (.iload 5, 2) := by decide +kernel
theorem dM_safest_46 : decode mM_safest.2.1 46 = .ok (.iload_n 3, 1) := by decide +kernel
theorem dM_safest_47 : decode mM_safest.2.1 47 = .ok (.if_icmp .gt 6, 3) := by decide +kernel
theorem dM_safest_50 : decode mM_safest.2.1 50 = .ok (.goto 9, 3) := by decide +kernel
theorem dM_safest_53 : decode mM_safest.2.1 53 = .ok (.iload 4, 2) := by decide +kernel
theorem dM_safest_55 : decode mM_safest.2.1 55 = .ok (.istore_n 2, 1) := by decide +kernel
theorem dM_safest_56 : decode mM_safest.2.1 56 = .ok (.iload 5, 2) := by decide +kernel
theorem dM_safest_58 : decode mM_safest.2.1 58 = .ok (.istore_n 3, 1) := by decide +kernel
theorem dM_safest_59 : decode mM_safest.2.1 59 = .ok (.iinc 4 1, 3) := by decide +kernel
theorem dM_safest_62 : decode mM_safest.2.1 62 = .ok (.goto (-37), 3) := by decide +kernel
theorem dM_safest_65 : decode mM_safest.2.1 65 = .ok (.iload_n 1, 1) := by decide +kernel
theorem dM_safest_66 : decode mM_safest.2.1 66 = .ok (.ifCond .ne 7, 3) := by decide +kernel
theorem dM_safest_69 : decode mM_safest.2.1 69 = .ok (.iload_n 2, 1) := by decide +kernel
theorem dM_safest_70 : decode mM_safest.2.1 70 = .ok (.goto 4, 3) := by decide +kernel
theorem dM_safest_73 : decode mM_safest.2.1 73 = .ok (.iload_n 3, 1) := by decide +kernel
theorem dM_safest_74 : decode mM_safest.2.1 74 = .ok (.ireturn, 1) := by decide +kernel
theorem dM_sure_0 : decode mM_sure.2.1 0 = .ok (.aload_n 0, 1) := by decide +kernel
theorem dM_sure_1 : decode mM_sure.2.1 1 = .ok (.invokevirtual 341, 3) := by decide +kernel
theorem dM_sure_4 : decode mM_sure.2.1 4 = .ok (.iconst 1, 1) := by decide +kernel
theorem dM_sure_5 : decode mM_sure.2.1 5 = .ok (.istore_n 1, 1) := by decide +kernel
theorem dM_sure_6 : decode mM_sure.2.1 6 = .ok (.iload_n 1, 1) := by decide +kernel
theorem dM_sure_7 : decode mM_sure.2.1 7 = .ok (.iconst 1, 1) := by decide +kernel
theorem dM_sure_8 : decode mM_sure.2.1 8 = .ok (.aload_n 0, 1) := by decide +kernel
theorem dM_sure_9 : decode mM_sure.2.1 9 = .ok (.getfield 13, 3) := by decide +kernel
theorem dM_sure_12 : decode mM_sure.2.1 12 = .ok (.ishl, 1) := by decide +kernel
theorem dM_sure_13 : decode mM_sure.2.1 13 = .ok (.if_icmp .ge 19, 3) := by decide +kernel
theorem dM_sure_16 : decode mM_sure.2.1 16 = .ok (.aload_n 0, 1) := by decide +kernel
theorem dM_sure_17 : decode mM_sure.2.1 17 = .ok (.iload_n 1, 1) := by decide +kernel
theorem dM_sure_18 : decode mM_sure.2.1 18 = .ok (.invokevirtual 344, 3) := by decide +kernel
theorem dM_sure_21 : decode mM_sure.2.1 21 = .ok (.ifCond .le 5, 3) := by decide +kernel
theorem dM_sure_24 : decode mM_sure.2.1 24 = .ok (.iload_n 1, 1) := by decide +kernel
theorem dM_sure_25 : decode mM_sure.2.1 25 = .ok (.ireturn, 1) := by decide +kernel
theorem dM_sure_26 : decode mM_sure.2.1 26 = .ok (.iinc 1 1, 3) := by decide +kernel
theorem dM_sure_29 : decode mM_sure.2.1 29 = .ok (.goto (-23), 3) := by decide +kernel
theorem dM_sure_32 : decode mM_sure.2.1 32 = .ok (.iconst 0, 1) := by decide +kernel
theorem dM_sure_33 : decode mM_sure.2.1 33 = .ok (.ireturn, 1) := by decide +kernel
theorem dM_hedge_0 : decode mM_hedge.2.1 0 = .ok (.aload_n 0, 1) := by decide +kernel
theorem dM_hedge_1 : decode mM_hedge.2.1 1 = .ok (.getfield 7, 3) := by decide +kernel
theorem dM_hedge_4 : decode mM_hedge.2.1 4 = .ok (.ifCond .ne 6, 3) := by decide +kernel
theorem dM_hedge_7 : decode mM_hedge.2.1 7 = .ok (.bipush (-5), 2) := by decide +kernel
theorem dM_hedge_9 : decode mM_hedge.2.1 9 = .ok (.ireturn, 1) := by decide +kernel
theorem dM_hedge_10 : decode mM_hedge.2.1 10 = .ok (.aload_n 0, 1) := by decide +kernel
theorem dM_hedge_11 : decode mM_hedge.2.1 11 = .ok (.invokevirtual 341, 3) := by decide +kernel
theorem dM_hedge_14 : decode mM_hedge.2.1 14 = .ok (.bipush (-5), 2) := by decide +kernel
theorem dM_hedge_16 : decode mM_hedge.2.1 16 = .ok (.istore_n 1, 1) := by decide +kernel
theorem dM_hedge_17 : decode mM_hedge.2.1 17 = .ok (.iconst 0, 1) := by decide +kernel
theorem dM_hedge_18 : decode mM_hedge.2.1 18 = .ok (.istore_n 2, 1) := by decide +kernel
theorem dM_hedge_19 : decode mM_hedge.2.1 19 = .ok (.iconst 0, 1) := by decide +kernel
theorem dM_hedge_20 : decode mM_hedge.2.1 20 = .ok (.istore_n 3, 1) := by decide +kernel
theorem dM_hedge_21 : decode mM_hedge.2.1 21 = .ok (.iload_n 3, 1) := by decide +kernel
theorem dM_hedge_22 : decode mM_hedge.2.1 22 = .ok (.aload_n 0, 1) := by decide +kernel
theorem dM_hedge_23 : decode mM_hedge.2.1 23 = .ok (.getfield 13, 3) := by decide +kernel
theorem dM_hedge_26 : decode mM_hedge.2.1 26 = .ok (.if_icmp .ge 78, 3) := by decide +kernel
theorem dM_hedge_29 : decode mM_hedge.2.1 29 = .ok (.iload_n 3, 1) := by decide +kernel
theorem dM_hedge_30 : decode mM_hedge.2.1 30 = .ok (.iconst 1, 1) := by decide +kernel
theorem dM_hedge_31 : decode mM_hedge.2.1 31 = .ok (.iadd, 1) := by decide +kernel
theorem dM_hedge_32 : decode mM_hedge.2.1 32 = .ok (.istore 4, 2) := by decide +kernel
theorem dM_hedge_34 : decode mM_hedge.2.1 34 = .ok (.iload 4, 2) := by decide +kernel
theorem dM_hedge_36 : decode mM_hedge.2.1 36 = .ok (.aload_n 0, 1) := by decide +kernel
theorem dM_hedge_37 : decode mM_hedge.2.1 37 = .ok (.getfield 13, 3) := by decide +kernel
theorem dM_hedge_40 : decode mM_hedge.2.1 40 = .ok (.if_icmp .ge 58, 3) := by decide +kernel
theorem dM_hedge_43 : decode mM_hedge.2.1 43 = .ok (.iconst 1, 1) := by decide +kernel
theorem dM_hedge_44 : decode mM_hedge.2.1 44 = .ok (.iload_n 3, 1) := by decide +kernel
theorem dM_hedge_45 : decode mM_hedge.2.1 45 = .ok (.ishl, 1) := by decide +kernel
theorem dM_hedge_46 : decode mM_hedge.2.1 46 = .ok (.iconst 1, 1) := by decide +kernel
theorem dM_hedge_47 : decode mM_hedge.2.1 47 = .ok (.iload 4, 2) := by decide +kernel
theorem dM_hedge_49 : decode mM_hedge.2.1 49 = .ok (.ishl, 1) := by decide +kernel
theorem dM_hedge_50 : decode mM_hedge.2.1 50 = .ok (.ior, 1) := by decide +kernel
theorem dM_hedge_51 : decode mM_hedge.2.1 51 = .ok (.istore 5, 2) := by decide +kernel
theorem dM_hedge_53 : decode mM_hedge.2.1 53 = .ok (.aload_n 0, 1) := by decide +kernel
theorem dM_hedge_54 : decode mM_hedge.2.1 54 = .ok (.iload 5, 2) := by decide +kernel
theorem dM_hedge_56 : decode mM_hedge.2.1 56 = .ok (.invokevirtual 350, 3) := by decide +kernel
theorem dM_hedge_59 : decode mM_hedge.2.1 59 = .ok (.aload_n 0, 1) := by decide +kernel
theorem dM_hedge_60 : decode mM_hedge.2.1 60 = .ok (.iload 5, 2) := by decide +kernel
theorem dM_hedge_62 : decode mM_hedge.2.1 62 = .ok (.invokevirtual 344, 3) := by decide +kernel
theorem dM_hedge_65 : decode mM_hedge.2.1 65 = .ok (.isub, 1) := by decide +kernel
theorem dM_hedge_66 : decode mM_hedge.2.1 66 = .ok (.istore 6, 2) := by decide +kernel
theorem dM_hedge_68 : decode mM_hedge.2.1 68 = .ok (.iload_n 1, 1) := by decide +kernel
theorem dM_hedge_69 : decode mM_hedge.2.1 69 = .ok (.ifCond .lt 12, 3) := by decide +kernel
theorem dM_hedge_72 : decode mM_hedge.2.1 72 = .ok (.iload 6, 2) := by decide +kernel
theorem dM_hedge_74 : decode mM_hedge.2.1 74 = .ok (.iload_n 2, 1) := by decide +kernel
theorem dM_hedge_75 : decode mM_hedge.2.1 75 = .ok (.if_icmp .lt 6, 3) := by decide +kernel
theorem dM_hedge_78 : decode mM_hedge.2.1 78 = .ok (.goto 14, 3) := by decide +kernel
theorem dM_hedge_81 : decode mM_hedge.2.1 81 = .ok (.bipush 10, 2) := by decide +kernel
theorem dM_hedge_83 : decode mM_hedge.2.1 83 = .ok (.iload_n 3, 1) := by decide +kernel
theorem dM_hedge_84 : decode mM_hedge.2.1 84 = .ok (.imul, 1) := by decide +kernel
theorem dM_hedge_85 : decode mM_hedge.2.1 85 = .ok (.iload 4, 2) := by decide +kernel
theorem dM_hedge_87 : decode mM_hedge.2.1 87 = .ok (.iadd, 1) := by decide +kernel
theorem dM_hedge_88 : decode mM_hedge.2.1 88 = .ok (.istore_n 1, 1) := by decide +kernel
theorem dM_hedge_89 : decode mM_hedge.2.1 89 = .ok (.iload 6, 2) := by decide +kernel
theorem dM_hedge_91 : decode mM_hedge.2.1 91 = .ok (.istore_n 2, 1) := by decide +kernel
theorem dM_hedge_92 : decode mM_hedge.2.1 92 = .ok (.iinc 4 1, 3) := by decide +kernel
theorem dM_hedge_95 : decode mM_hedge.2.1 95 = .ok (.goto (-61), 3) := by decide +kernel
theorem dM_hedge_98 : decode mM_hedge.2.1 98 = .ok (.iinc 3 1, 3) := by decide +kernel
theorem dM_hedge_101 : decode mM_hedge.2.1 101 = .ok (.goto (-80), 3) := by decide +kernel
theorem dM_hedge_104 : decode mM_hedge.2.1 104 = .ok (.iload_n 1, 1) := by decide +kernel
theorem dM_hedge_105 : decode mM_hedge.2.1 105 = .ok (.ireturn, 1) := by decide +kernel
theorem dM_against_0 : decode mM_against.2.1 0 = .ok (.aload_n 0, 1) := by decide +kernel
theorem dM_against_1 : decode mM_against.2.1 1 = .ok (.iload_n 1, 1) := by decide +kernel
theorem dM_against_2 : decode mM_against.2.1 2 = .ok (.invokevirtual 217, 3) := by decide +kernel
theorem dM_against_5 : decode mM_against.2.1 5 = .ok (.ifCond .ne 5, 3) := by decide +kernel
theorem dM_against_8 : decode mM_against.2.1 8 = .ok (.iconst (-1), 1) := by decide +kernel
theorem dM_against_9 : decode mM_against.2.1 9 = .ok (.ireturn, 1) := by decide +kernel
theorem dM_against_10 : decode mM_against.2.1 10 = .ok (.iconst 0, 1) := by decide +kernel
theorem dM_against_11 : decode mM_against.2.1 11 = .ok (.istore_n 2, 1) := by decide +kernel
theorem dM_against_12 : decode mM_against.2.1 12 = .ok (.iconst 0, 1) := by decide +kernel
theorem dM_against_13 : decode mM_against.2.1 13 = .ok (.istore_n 3, 1) := by decide +kernel
theorem dM_against_14 : decode mM_against.2.1 14 = .ok (.iload_n 3, 1) := by decide +kernel
theorem dM_against_15 : decode mM_against.2.1 15 = .ok (.aload_n 0, 1) := by decide +kernel
theorem dM_against_16 : decode mM_against.2.1 16 = .ok (.getfield 13, 3) := by decide +kernel
theorem dM_against_19 : decode mM_against.2.1 19 = .ok (.if_icmp .ge 40, 3) := by decide +kernel
theorem dM_against_22 : decode mM_against.2.1 22 = .ok (.iload_n 2, 1) := by decide +kernel
theorem dM_against_23 : decode mM_against.2.1 23 = .ok (.iload_n 3, 1) := by decide +kernel
theorem dM_against_24 : decode mM_against.2.1 24 = .ok (.iload_n 1, 1) := by decide +kernel
theorem dM_against_25 : decode mM_against.2.1 25 = .ok (.if_icmp .eq 25, 3) := by decide +kernel
theorem dM_against_28 : decode mM_against.2.1 28 = .ok (.aload_n 0, 1) := by decide +kernel
theorem dM_against_29 : decode mM_against.2.1 29 = .ok (.getfield 32, 3) := by decide +kernel
theorem dM_against_32 : decode mM_against.2.1 32 = .ok (.iload_n 3, 1) := by decide +kernel
theorem dM_against_33 : decode mM_against.2.1 33 = .ok (.iaload, 1) := by decide +kernel
theorem dM_against_34 : decode mM_against.2.1 34 = .ok (.aload_n 0, 1) := by decide +kernel
theorem dM_against_35 : decode mM_against.2.1 35 = .ok (.getfield 32, 3) := by decide +kernel
theorem dM_against_38 : decode mM_against.2.1 38 = .ok (.iload_n 1, 1) := by decide +kernel
theorem dM_against_39 : decode mM_against.2.1 39 = .ok (.iaload, 1) := by decide +kernel
theorem dM_against_40 : decode mM_against.2.1 40 = .ok (.iand, 1) := by decide +kernel
theorem dM_against_41 : decode mM_against.2.1 41 = .ok (.ifCond .ne 9, 3) := by decide +kernel
theorem dM_against_44 : decode mM_against.2.1 44 = .ok (.iconst 1, 1) := by decide +kernel
theorem dM_against_45 : decode mM_against.2.1 45 = .ok (.iload_n 3, 1) := by decide +kernel
theorem dM_against_46 : decode mM_against.2.1 46 = .ok (.ishl, 1) := by decide +kernel
theorem dM_against_47 : decode mM_against.2.1 47 = .ok (.goto 4, 3) := by decide +kernel
theorem dM_against_50 : decode mM_against.2.1 50 = .ok (.iconst 0, 1) := by decide +kernel
theorem dM_against_51 : decode mM_against.2.1 51 = .ok (.ior, 1) := by decide +kernel
theorem dM_against_52 : decode mM_against.2.1 52 = .ok (.istore_n 2, 1) := by decide +kernel
theorem dM_against_53 : decode mM_against.2.1 53 = .ok (.iinc 3 1, 3) := by decide +kernel
theorem dM_against_56 : decode mM_against.2.1 56 = .ok (.goto (-42), 3) := by decide +kernel
theorem dM_against_59 : decode mM_against.2.1 59 = .ok (.iload_n 2, 1) := by decide +kernel
theorem dM_against_60 : decode mM_against.2.1 60 = .ok (.ireturn, 1) := by decide +kernel
theorem dM_when_0 : decode mM_when.2.1 0 = .ok (.aload_n 0, 1) := by decide +kernel
theorem dM_when_1 : decode mM_when.2.1 1 = .ok (.iload_n 1, 1) := by decide +kernel
theorem dM_when_2 : decode mM_when.2.1 2 = .ok (.invokevirtual 217, 3) := by decide +kernel
theorem dM_when_5 : decode mM_when.2.1 5 = .ok (.ifCond .eq 13, 3) := by decide +kernel
theorem dM_when_8 : decode mM_when.2.1 8 = .ok (.aload_n 0, 1) := by decide +kernel
theorem dM_when_9 : decode mM_when.2.1 9 = .ok (.iload_n 3, 1) := by decide +kernel
theorem dM_when_10 : decode mM_when.2.1 10 = .ok (.iconst 0, 1) := by decide +kernel
theorem dM_when_11 : decode mM_when.2.1 11 = .ok (.iconst 1, 1) := by decide +kernel
theorem dM_when_12 : decode mM_when.2.1 12 = .ok (.invokevirtual 203, 3) := by decide +kernel
theorem dM_when_15 : decode mM_when.2.1 15 = .ok (.ifCond .ne 5, 3) := by decide +kernel
theorem dM_when_18 : decode mM_when.2.1 18 = .ok (.iconst (-1), 1) := by decide +kernel
theorem dM_when_19 : decode mM_when.2.1 19 = .ok (.ireturn, 1) := by decide +kernel
theorem dM_when_20 : decode mM_when.2.1 20 = .ok (.aload_n 0, 1) := by decide +kernel
theorem dM_when_21 : decode mM_when.2.1 21 = .ok (.iload_n 2, 1) := by decide +kernel
theorem dM_when_22 : decode mM_when.2.1 22 = .ok (.iconst 0, 1) := by decide +kernel
theorem dM_when_23 : decode mM_when.2.1 23 = .ok (.bipush 60, 2) := by decide +kernel
theorem dM_when_25 : decode mM_when.2.1 25 = .ok (.invokevirtual 203, 3) := by decide +kernel
theorem dM_when_28 : decode mM_when.2.1 28 = .ok (.ifCond .ne 6, 3) := by decide +kernel
theorem dM_when_31 : decode mM_when.2.1 31 = .ok (.bipush (-2), 2) := by decide +kernel
theorem dM_when_33 : decode mM_when.2.1 33 = .ok (.ireturn, 1) := by decide +kernel
theorem dM_when_34 : decode mM_when.2.1 34 = .ok (.aload_n 0, 1) := by decide +kernel
theorem dM_when_35 : decode mM_when.2.1 35 = .ok (.getfield 16, 3) := by decide +kernel
theorem dM_when_38 : decode mM_when.2.1 38 = .ok (.istore 4, 2) := by decide +kernel
theorem dM_when_40 : decode mM_when.2.1 40 = .ok (.iconst 0, 1) := by decide +kernel
theorem dM_when_41 : decode mM_when.2.1 41 = .ok (.istore 5, 2) := by decide +kernel
theorem dM_when_43 : decode mM_when.2.1 43 = .ok (.iconst (-1), 1) := by decide +kernel
theorem dM_when_44 : decode mM_when.2.1 44 = .ok (.istore 6, 2) := by decide +kernel
theorem dM_when_46 : decode mM_when.2.1 46 = .ok (.iconst 0, 1) := by decide +kernel
theorem dM_when_47 : decode mM_when.2.1 47 = .ok (.istore 7, 2) := by decide +kernel
theorem dM_when_49 : decode mM_when.2.1 49 = .ok (.iload 7, 2) := by decide +kernel
theorem dM_when_51 : decode mM_when.2.1 51 = .ok (.iload_n 2, 1) := by decide +kernel
theorem dM_when_52 : decode mM_when.2.1 52 = .ok (.if_icmp .gt 43, 3) := by decide +kernel
theorem dM_when_55 : decode mM_when.2.1 55 = .ok (.aload_n 0, 1) := by decide +kernel
theorem dM_when_56 : decode mM_when.2.1 56 = .ok (.iload 4, 2) := by decide +kernel
theorem dM_when_58 : decode mM_when.2.1 58 = .ok (.iload 7, 2) := by decide +kernel
theorem dM_when_60 : decode mM_when.2.1 60 = .ok (.iadd, 1) := by decide +kernel
theorem dM_when_61 : decode mM_when.2.1 61 = .ok (.putfield 16, 3) := by decide +kernel
theorem dM_when_64 : decode mM_when.2.1 64 = .ok (.aload_n 0, 1) := by decide +kernel
theorem dM_when_65 : decode mM_when.2.1 65 = .ok (.iload_n 1, 1) := by decide +kernel
theorem dM_when_66 : decode mM_when.2.1 66 = .ok (.invokevirtual 326, 3) := by decide +kernel
theorem dM_when_69 : decode mM_when.2.1 69 = .ok (.istore 8, 2) := by decide +kernel
theorem dM_when_71 : decode mM_when.2.1 71 = .ok (.iload 8, 2) := by decide +kernel
theorem dM_when_73 : decode mM_when.2.1 73 = .ok (.iload 6, 2) := by decide +kernel
theorem dM_when_75 : decode mM_when.2.1 75 = .ok (.if_icmp .gt 6, 3) := by decide +kernel
theorem dM_when_78 : decode mM_when.2.1 78 = .ok (.goto 11, 3) := by decide +kernel
theorem dM_when_81 : decode mM_when.2.1 81 = .ok (.iload 7, 2) := by decide +kernel
theorem dM_when_83 : decode mM_when.2.1 83 = .ok (.istore 5, 2) := by decide +kernel
theorem dM_when_85 : decode mM_when.2.1 85 = .ok (.iload 8, 2) := by decide +kernel
theorem dM_when_87 : decode mM_when.2.1 87 = .ok (.istore 6, 2) := by decide +kernel
theorem dM_when_89 : decode mM_when.2.1 89 = .ok (.iinc 7 1, 3) := by decide +kernel
theorem dM_when_92 : decode mM_when.2.1 92 = .ok (.goto (-43), 3) := by decide +kernel
theorem dM_when_95 : decode mM_when.2.1 95 = .ok (.aload_n 0, 1) := by decide +kernel
theorem dM_when_96 : decode mM_when.2.1 96 = .ok (.iload 4, 2) := by decide +kernel
theorem dM_when_98 : decode mM_when.2.1 98 = .ok (.putfield 16, 3) := by decide +kernel
theorem dM_when_101 : decode mM_when.2.1 101 = .ok (.iload_n 3, 1) := by decide +kernel
theorem dM_when_102 : decode mM_when.2.1 102 = .ok (.ifCond .ne 8, 3) := by decide +kernel
theorem dM_when_105 : decode mM_when.2.1 105 = .ok (.iload 5, 2) := by decide +kernel
theorem dM_when_107 : decode mM_when.2.1 107 = .ok (.goto 5, 3) := by decide +kernel
theorem dM_when_110 : decode mM_when.2.1 110 = .ok (.iload 6, 2) := by decide +kernel
theorem dM_when_112 : decode mM_when.2.1 112 = .ok (.ireturn, 1) := by decide +kernel
theorem dM_crowd_0 : decode mM_crowd.2.1 0 = .ok (.aload_n 0, 1) := by decide +kernel
theorem dM_crowd_1 : decode mM_crowd.2.1 1 = .ok (.iload_n 1, 1) := by decide +kernel
theorem dM_crowd_2 : decode mM_crowd.2.1 2 = .ok (.iconst 0, 1) := by decide +kernel
theorem dM_crowd_3 : decode mM_crowd.2.1 3 = .ok (.iconst 1, 1) := by decide +kernel
theorem dM_crowd_4 : decode mM_crowd.2.1 4 = .ok (.invokevirtual 203, 3) := by decide +kernel
theorem dM_crowd_7 : decode mM_crowd.2.1 7 = .ok (.ifCond .ne 5, 3) := by decide +kernel
theorem dM_crowd_10 : decode mM_crowd.2.1 10 = .ok (.iconst (-1), 1) := by decide +kernel
theorem dM_crowd_11 : decode mM_crowd.2.1 11 = .ok (.ireturn, 1) := by decide +kernel
theorem dM_crowd_12 : decode mM_crowd.2.1 12 = .ok (.bipush (-5), 2) := by decide +kernel
theorem dM_crowd_14 : decode mM_crowd.2.1 14 = .ok (.istore_n 2, 1) := by decide +kernel
theorem dM_crowd_15 : decode mM_crowd.2.1 15 = .ok (.bipush (-5), 2) := by decide +kernel
theorem dM_crowd_17 : decode mM_crowd.2.1 17 = .ok (.istore_n 3, 1) := by decide +kernel
theorem dM_crowd_18 : decode mM_crowd.2.1 18 = .ok (.iconst 0, 1) := by decide +kernel
theorem dM_crowd_19 : decode mM_crowd.2.1 19 = .ok (.istore 4, 2) := by decide +kernel
theorem dM_crowd_21 : decode mM_crowd.2.1 21 = .ok (.iload 4, 2) := by decide +kernel
theorem dM_crowd_23 : decode mM_crowd.2.1 23 = .ok (.aload_n 0, 1) := by decide +kernel
theorem dM_crowd_24 : decode mM_crowd.2.1 24 = .ok (.getfield 7, 3) := by decide +kernel
theorem dM_crowd_27 : decode mM_crowd.2.1 27 = .ok (.if_icmp .ge 72, 3) := by decide +kernel
theorem dM_crowd_30 : decode mM_crowd.2.1 30 = .ok (.iconst 0, 1) := by decide +kernel
theorem dM_crowd_31 : decode mM_crowd.2.1 31 = .ok (.istore 5, 2) := by decide +kernel
theorem dM_crowd_33 : decode mM_crowd.2.1 33 = .ok (.iconst 0, 1) := by decide +kernel
theorem dM_crowd_34 : decode mM_crowd.2.1 34 = .ok (.istore 6, 2) := by decide +kernel
theorem dM_crowd_36 : decode mM_crowd.2.1 36 = .ok (.iload 6, 2) := by decide +kernel
theorem dM_crowd_38 : decode mM_crowd.2.1 38 = .ok (.aload_n 0, 1) := by decide +kernel
theorem dM_crowd_39 : decode mM_crowd.2.1 39 = .ok (.getfield 13, 3) := by decide +kernel
theorem dM_crowd_42 : decode mM_crowd.2.1 42 = .ok (.if_icmp .ge 36, 3) := by decide +kernel
theorem dM_crowd_45 : decode mM_crowd.2.1 45 = .ok (.iload 5, 2) := by decide +kernel
theorem dM_crowd_47 : decode mM_crowd.2.1 47 = .ok (.aload_n 0, 1) := by decide +kernel
theorem dM_crowd_48 : decode mM_crowd.2.1 48 = .ok (.iload 6, 2) := by decide +kernel
theorem dM_crowd_50 : decode mM_crowd.2.1 50 = .ok (.iload 4, 2) := by decide +kernel
theorem dM_crowd_52 : decode mM_crowd.2.1 52 = .ok (.invokevirtual 289, 3) := by decide +kernel
theorem dM_crowd_55 : decode mM_crowd.2.1 55 = .ok (.ifCond .eq 13, 3) := by decide +kernel
theorem dM_crowd_58 : decode mM_crowd.2.1 58 = .ok (.aload_n 0, 1) := by decide +kernel
theorem dM_crowd_59 : decode mM_crowd.2.1 59 = .ok (.getfield 35, 3) := by decide +kernel
theorem dM_crowd_62 : decode mM_crowd.2.1 62 = .ok (.iload 6, 2) := by decide +kernel
theorem dM_crowd_64 : decode mM_crowd.2.1 64 = .ok (.iaload, 1) := by decide +kernel
theorem dM_crowd_65 : decode mM_crowd.2.1 65 = .ok (.goto 4, 3) := by decide +kernel
theorem dM_crowd_68 : decode mM_crowd.2.1 68 = .ok (.iconst 0, 1) := by decide +kernel
theorem dM_crowd_69 : decode mM_crowd.2.1 69 = .ok (.iadd, 1) := by decide +kernel
theorem dM_crowd_70 : decode mM_crowd.2.1 70 = .ok (.istore 5, 2) := by decide +kernel
theorem dM_crowd_72 : decode mM_crowd.2.1 72 = .ok (.iinc 6 1, 3) := by decide +kernel
theorem dM_crowd_75 : decode mM_crowd.2.1 75 = .ok (.goto (-39), 3) := by decide +kernel
theorem dM_crowd_78 : decode mM_crowd.2.1 78 = .ok (.iload 5, 2) := by decide +kernel
theorem dM_crowd_80 : decode mM_crowd.2.1 80 = .ok (.iload_n 3, 1) := by decide +kernel
theorem dM_crowd_81 : decode mM_crowd.2.1 81 = .ok (.if_icmp .gt 6, 3) := by decide +kernel
theorem dM_crowd_84 : decode mM_crowd.2.1 84 = .ok (.goto 9, 3) := by decide +kernel
theorem dM_crowd_87 : decode mM_crowd.2.1 87 = .ok (.iload 4, 2) := by decide +kernel
theorem dM_crowd_89 : decode mM_crowd.2.1 89 = .ok (.istore_n 2, 1) := by decide +kernel
theorem dM_crowd_90 : decode mM_crowd.2.1 90 = .ok (.iload 5, 2) := by decide +kernel
theorem dM_crowd_92 : decode mM_crowd.2.1 92 = .ok (.istore_n 3, 1) := by decide +kernel
theorem dM_crowd_93 : decode mM_crowd.2.1 93 = .ok (.iinc 4 1, 3) := by decide +kernel
theorem dM_crowd_96 : decode mM_crowd.2.1 96 = .ok (.goto (-75), 3) := by decide +kernel
theorem dM_crowd_99 : decode mM_crowd.2.1 99 = .ok (.iload_n 1, 1) := by decide +kernel
theorem dM_crowd_100 : decode mM_crowd.2.1 100 = .ok (.ifCond .ne 7, 3) := by decide +kernel
theorem dM_crowd_103 : decode mM_crowd.2.1 103 = .ok (.iload_n 2, 1) := by decide +kernel
theorem dM_crowd_104 : decode mM_crowd.2.1 104 = .ok (.goto 4, 3) := by decide +kernel
theorem dM_crowd_107 : decode mM_crowd.2.1 107 = .ok (.iload_n 3, 1) := by decide +kernel
theorem dM_crowd_108 : decode mM_crowd.2.1 108 = .ok (.ireturn, 1) := by decide +kernel
theorem dM_cheap_0 : decode mM_cheap.2.1 0 = .ok (.iconst 0, 1) := by decide +kernel
theorem dM_cheap_1 : decode mM_cheap.2.1 1 = .ok (.istore_n 1, 1) := by decide +kernel
theorem dM_cheap_2 : decode mM_cheap.2.1 2 = .ok (.iconst 0, 1) := by decide +kernel
theorem dM_cheap_3 : decode mM_cheap.2.1 3 = .ok (.istore_n 2, 1) := by decide +kernel
theorem dM_cheap_4 : decode mM_cheap.2.1 4 = .ok (.iload_n 2, 1) := by decide +kernel
theorem dM_cheap_5 : decode mM_cheap.2.1 5 = .ok (.aload_n 0, 1) := by decide +kernel
theorem dM_cheap_6 : decode mM_cheap.2.1 6 = .ok (.getfield 13, 3) := by decide +kernel
theorem dM_cheap_9 : decode mM_cheap.2.1 9 = .ok (.if_icmp .ge 42, 3) := by decide +kernel
theorem dM_cheap_12 : decode mM_cheap.2.1 12 = .ok (.iload_n 1, 1) := by decide +kernel
theorem dM_cheap_13 : decode mM_cheap.2.1 13 = .ok (.aload_n 0, 1) := by decide +kernel
theorem dM_cheap_14 : decode mM_cheap.2.1 14 = .ok (.getfield 35, 3) := by decide +kernel
theorem dM_cheap_17 : decode mM_cheap.2.1 17 = .ok (.iload_n 2, 1) := by decide +kernel
theorem dM_cheap_18 : decode mM_cheap.2.1 18 = .ok (.iaload, 1) := by decide +kernel
theorem dM_cheap_19 : decode mM_cheap.2.1 19 = .ok (.aload_n 0, 1) := by decide +kernel
theorem dM_cheap_20 : decode mM_cheap.2.1 20 = .ok (.aload_n 0, 1) := by decide +kernel
theorem dM_cheap_21 : decode mM_cheap.2.1 21 = .ok (.invokevirtual 314, 3) := by decide +kernel
theorem dM_cheap_24 : decode mM_cheap.2.1 24 = .ok (.invokevirtual 317, 3) := by decide +kernel
theorem dM_cheap_27 : decode mM_cheap.2.1 27 = .ok (.imul, 1) := by decide +kernel
theorem dM_cheap_28 : decode mM_cheap.2.1 28 = .ok (.aload_n 0, 1) := by decide +kernel
theorem dM_cheap_29 : decode mM_cheap.2.1 29 = .ok (.iload_n 2, 1) := by decide +kernel
theorem dM_cheap_30 : decode mM_cheap.2.1 30 = .ok (.invokevirtual 326, 3) := by decide +kernel
theorem dM_cheap_33 : decode mM_cheap.2.1 33 = .ok (.if_icmp .ge 9, 3) := by decide +kernel
theorem dM_cheap_36 : decode mM_cheap.2.1 36 = .ok (.iconst 1, 1) := by decide +kernel
theorem dM_cheap_37 : decode mM_cheap.2.1 37 = .ok (.iload_n 2, 1) := by decide +kernel
theorem dM_cheap_38 : decode mM_cheap.2.1 38 = .ok (.ishl, 1) := by decide +kernel
theorem dM_cheap_39 : decode mM_cheap.2.1 39 = .ok (.goto 4, 3) := by decide +kernel
theorem dM_cheap_42 : decode mM_cheap.2.1 42 = .ok (.iconst 0, 1) := by decide +kernel
theorem dM_cheap_43 : decode mM_cheap.2.1 43 = .ok (.ior, 1) := by decide +kernel
theorem dM_cheap_44 : decode mM_cheap.2.1 44 = .ok (.istore_n 1, 1) := by decide +kernel
theorem dM_cheap_45 : decode mM_cheap.2.1 45 = .ok (.iinc 2 1, 3) := by decide +kernel
theorem dM_cheap_48 : decode mM_cheap.2.1 48 = .ok (.goto (-44), 3) := by decide +kernel
theorem dM_cheap_51 : decode mM_cheap.2.1 51 = .ok (.iload_n 1, 1) := by decide +kernel
theorem dM_cheap_52 : decode mM_cheap.2.1 52 = .ok (.ireturn, 1) := by decide +kernel
theorem dM_burnt_0 : decode mM_burnt.2.1 0 = .ok (.aload_n 0, 1) := by decide +kernel
theorem dM_burnt_1 : decode mM_burnt.2.1 1 = .ok (.iload_n 1, 1) := by decide +kernel
theorem dM_burnt_2 : decode mM_burnt.2.1 2 = .ok (.invokevirtual 217, 3) := by decide +kernel
theorem dM_burnt_5 : decode mM_burnt.2.1 5 = .ok (.ifCond .ne 7, 3) := by decide +kernel
theorem dM_burnt_8 : decode mM_burnt.2.1 8 = .ok (.ldc_w 336, 3) := by decide +kernel
theorem dM_burnt_11 : decode mM_burnt.2.1 11 = .ok (.ireturn, 1) := by decide +kernel
theorem dM_burnt_12 : decode mM_burnt.2.1 12 = .ok (.aload_n 0, 1) := by decide +kernel
theorem dM_burnt_13 : decode mM_burnt.2.1 13 = .ok (.invokevirtual 341, 3) := by decide +kernel
theorem dM_burnt_16 : decode mM_burnt.2.1 16 = .ok (.iconst 1, 1) := by decide +kernel
theorem dM_burnt_17 : decode mM_burnt.2.1 17 = .ok (.aload_n 0, 1) := by decide +kernel
theorem dM_burnt_18 : decode mM_burnt.2.1 18 = .ok (.getfield 13, 3) := by decide +kernel
theorem dM_burnt_21 : decode mM_burnt.2.1 21 = .ok (.ishl, 1) := by decide +kernel
theorem dM_burnt_22 : decode mM_burnt.2.1 22 = .ok (.iconst 1, 1) := by decide +kernel
theorem dM_burnt_23 : decode mM_burnt.2.1 23 = .ok (.isub, 1) := by decide +kernel
theorem dM_burnt_24 : decode mM_burnt.2.1 24 = .ok (.istore_n 2, 1) := by decide +kernel
theorem dM_burnt_25 : decode mM_burnt.2.1 25 = .ok (.aload_n 0, 1) := by decide +kernel
theorem dM_burnt_26 : decode mM_burnt.2.1 26 = .ok (.iload_n 2, 1) := by decide +kernel
theorem dM_burnt_27 : decode mM_burnt.2.1 27 = .ok (.iconst 1, 1) := by decide +kernel
theorem dM_burnt_28 : decode mM_burnt.2.1 28 = .ok (.iload_n 1, 1) := by decide +kernel
theorem dM_burnt_29 : decode mM_burnt.2.1 29 = .ok (.ishl, 1) := by decide +kernel
theorem dM_burnt_30 : decode mM_burnt.2.1 30 = .ok (.iconst (-1), 1) := by decide +kernel
theorem dM_burnt_31 : decode mM_burnt.2.1 31 = .ok (.ixor, 1) := by decide +kernel
theorem dM_burnt_32 : decode mM_burnt.2.1 32 = .ok (.iand, 1) := by decide +kernel
theorem dM_burnt_33 : decode mM_burnt.2.1 33 = .ok (.invokevirtual 344, 3) := by decide +kernel
theorem dM_burnt_36 : decode mM_burnt.2.1 36 = .ok (.aload_n 0, 1) := by decide +kernel
theorem dM_burnt_37 : decode mM_burnt.2.1 37 = .ok (.iload_n 2, 1) := by decide +kernel
theorem dM_burnt_38 : decode mM_burnt.2.1 38 = .ok (.invokevirtual 344, 3) := by decide +kernel
theorem dM_burnt_41 : decode mM_burnt.2.1 41 = .ok (.isub, 1) := by decide +kernel
theorem dM_burnt_42 : decode mM_burnt.2.1 42 = .ok (.ireturn, 1) := by decide +kernel
theorem dM_worth_0 : decode mM_worth.2.1 0 = .ok (.aload_n 0, 1) := by decide +kernel
theorem dM_worth_1 : decode mM_worth.2.1 1 = .ok (.iload_n 1, 1) := by decide +kernel
theorem dM_worth_2 : decode mM_worth.2.1 2 = .ok (.iconst 0, 1) := by decide +kernel
theorem dM_worth_3 : decode mM_worth.2.1 3 = .ok (.bipush 99, 2) := by decide +kernel
theorem dM_worth_5 : decode mM_worth.2.1 5 = .ok (.invokevirtual 203, 3) := by decide +kernel
theorem dM_worth_8 : decode mM_worth.2.1 8 = .ok (.ifCond .ne 6, 3) := by decide +kernel
theorem dM_worth_11 : decode mM_worth.2.1 11 = .ok (.bipush (-2), 2) := by decide +kernel
theorem dM_worth_13 : decode mM_worth.2.1 13 = .ok (.ireturn, 1) := by decide +kernel
theorem dM_worth_14 : decode mM_worth.2.1 14 = .ok (.iconst 0, 1) := by decide +kernel
theorem dM_worth_15 : decode mM_worth.2.1 15 = .ok (.istore_n 2, 1) := by decide +kernel
theorem dM_worth_16 : decode mM_worth.2.1 16 = .ok (.iconst 0, 1) := by decide +kernel
theorem dM_worth_17 : decode mM_worth.2.1 17 = .ok (.istore_n 3, 1) := by decide +kernel
theorem dM_worth_18 : decode mM_worth.2.1 18 = .ok (.iload_n 3, 1) := by decide +kernel
theorem dM_worth_19 : decode mM_worth.2.1 19 = .ok (.aload_n 0, 1) := by decide +kernel
theorem dM_worth_20 : decode mM_worth.2.1 20 = .ok (.getfield 13, 3) := by decide +kernel
theorem dM_worth_23 : decode mM_worth.2.1 23 = .ok (.if_icmp .ge 66, 3) := by decide +kernel
theorem dM_worth_26 : decode mM_worth.2.1 26 = .ok (.iconst 0, 1) := by decide +kernel
theorem dM_worth_27 : decode mM_worth.2.1 27 = .ok (.istore 4, 2) := by decide +kernel
theorem dM_worth_29 : decode mM_worth.2.1 29 = .ok (.iconst 0, 1) := by decide +kernel
theorem dM_worth_30 : decode mM_worth.2.1 30 = .ok (.istore 5, 2) := by decide +kernel
theorem dM_worth_32 : decode mM_worth.2.1 32 = .ok (.iload 5, 2) := by decide +kernel
theorem dM_worth_34 : decode mM_worth.2.1 34 = .ok (.aload_n 0, 1) := by decide +kernel
theorem dM_worth_35 : decode mM_worth.2.1 35 = .ok (.getfield 7, 3) := by decide +kernel
theorem dM_worth_38 : decode mM_worth.2.1 38 = .ok (.if_icmp .ge 32, 3) := by decide +kernel
theorem dM_worth_41 : decode mM_worth.2.1 41 = .ok (.iload 4, 2) := by decide +kernel
theorem dM_worth_43 : decode mM_worth.2.1 43 = .ok (.ifCond .ne 27, 3) := by decide +kernel
theorem dM_worth_46 : decode mM_worth.2.1 46 = .ok (.aload_n 0, 1) := by decide +kernel
theorem dM_worth_47 : decode mM_worth.2.1 47 = .ok (.iload_n 3, 1) := by decide +kernel
theorem dM_worth_48 : decode mM_worth.2.1 48 = .ok (.iload 5, 2) := by decide +kernel
theorem dM_worth_50 : decode mM_worth.2.1 50 = .ok (.invokevirtual 311, 3) := by decide +kernel
theorem dM_worth_53 : decode mM_worth.2.1 53 = .ok (.iload_n 1, 1) := by decide +kernel
theorem dM_worth_54 : decode mM_worth.2.1 54 = .ok (.if_icmp .lt 7, 3) := by decide +kernel
theorem dM_worth_57 : decode mM_worth.2.1 57 = .ok (.iconst 1, 1) := by decide +kernel
theorem dM_worth_58 : decode mM_worth.2.1 58 = .ok (.goto 4, 3) := by decide +kernel
theorem dM_worth_61 : decode mM_worth.2.1 61 = .ok (.iconst 0, 1) := by decide +kernel
theorem dM_worth_62 : decode mM_worth.2.1 62 = .ok (.istore 4, 2) := by decide +kernel
theorem dM_worth_64 : decode mM_worth.2.1 64 = .ok (.iinc 5 1, 3) := by decide +kernel
theorem dM_worth_67 : decode mM_worth.2.1 67 = .ok (.goto (-35), 3) := by decide +kernel
theorem dM_worth_70 : decode mM_worth.2.1 70 = .ok (.iload_n 2, 1) := by decide +kernel
theorem dM_worth_71 : decode mM_worth.2.1 71 = .ok (.iload 4, 2) := by decide +kernel
theorem dM_worth_73 : decode mM_worth.2.1 73 = .ok (.ifCond .eq 7, 3) := by decide +kernel
theorem dM_worth_76 : decode mM_worth.2.1 76 = .ok (.iconst 1, 1) := by decide +kernel
theorem dM_worth_77 : decode mM_worth.2.1 77 = .ok (.goto 4, 3) := by decide +kernel
theorem dM_worth_80 : decode mM_worth.2.1 80 = .ok (.iconst 0, 1) := by decide +kernel
theorem dM_worth_81 : decode mM_worth.2.1 81 = .ok (.iadd, 1) := by decide +kernel
theorem dM_worth_82 : decode mM_worth.2.1 82 = .ok (.istore_n 2, 1) := by decide +kernel
theorem dM_worth_83 : decode mM_worth.2.1 83 = .ok (.iinc 3 1, 3) := by decide +kernel
theorem dM_worth_86 : decode mM_worth.2.1 86 = .ok (.goto (-68), 3) := by decide +kernel
theorem dM_worth_89 : decode mM_worth.2.1 89 = .ok (.iload_n 2, 1) := by decide +kernel
theorem dM_worth_90 : decode mM_worth.2.1 90 = .ok (.ireturn, 1) := by decide +kernel
theorem dM_book_0 : decode mM_book.2.1 0 = .ok (.iload_n 1, 1) := by decide +kernel
theorem dM_book_1 : decode mM_book.2.1 1 = .ok (.iconst (-1), 1) := by decide +kernel
theorem dM_book_2 : decode mM_book.2.1 2 = .ok (.if_icmp .ne 10, 3) := by decide +kernel
theorem dM_book_5 : decode mM_book.2.1 5 = .ok (.aload_n 0, 1) := by decide +kernel
theorem dM_book_6 : decode mM_book.2.1 6 = .ok (.iconst 0, 1) := by decide +kernel
theorem dM_book_7 : decode mM_book.2.1 7 = .ok (.putfield 111, 3) := by decide +kernel
theorem dM_book_10 : decode mM_book.2.1 10 = .ok (.iconst 0, 1) := by decide +kernel
theorem dM_book_11 : decode mM_book.2.1 11 = .ok (.ireturn, 1) := by decide +kernel
theorem dM_book_12 : decode mM_book.2.1 12 = .ok (.aload_n 0, 1) := by decide +kernel
theorem dM_book_13 : decode mM_book.2.1 13 = .ok (.iload_n 1, 1) := by decide +kernel
theorem dM_book_14 : decode mM_book.2.1 14 = .ok (.invokevirtual 217, 3) := by decide +kernel
theorem dM_book_17 : decode mM_book.2.1 17 = .ok (.ifCond .eq 11, 3) := by decide +kernel
theorem dM_book_20 : decode mM_book.2.1 20 = .ok (.aload_n 0, 1) := by decide +kernel
theorem dM_book_21 : decode mM_book.2.1 21 = .ok (.iload_n 2, 1) := by decide +kernel
theorem dM_book_22 : decode mM_book.2.1 22 = .ok (.invokevirtual 207, 3) := by decide +kernel
theorem dM_book_25 : decode mM_book.2.1 25 = .ok (.ifCond .ne 5, 3) := by decide +kernel
theorem dM_book_28 : decode mM_book.2.1 28 = .ok (.iconst (-1), 1) := by decide +kernel
theorem dM_book_29 : decode mM_book.2.1 29 = .ok (.ireturn, 1) := by decide +kernel
theorem dM_book_30 : decode mM_book.2.1 30 = .ok (.aload_n 0, 1) := by decide +kernel
theorem dM_book_31 : decode mM_book.2.1 31 = .ok (.iload_n 3, 1) := by decide +kernel
theorem dM_book_32 : decode mM_book.2.1 32 = .ok (.iconst 0, 1) := by decide +kernel
theorem dM_book_33 : decode mM_book.2.1 33 = .ok (.sipush 9999, 3) := by decide +kernel
theorem dM_book_36 : decode mM_book.2.1 36 = .ok (.invokevirtual 203, 3) := by decide +kernel
theorem dM_book_39 : decode mM_book.2.1 39 = .ok (.ifCond .ne 6, 3) := by decide +kernel
theorem dM_book_42 : decode mM_book.2.1 42 = .ok (.bipush (-2), 2) := by decide +kernel
theorem dM_book_44 : decode mM_book.2.1 44 = .ok (.ireturn, 1) := by decide +kernel
theorem dM_book_45 : decode mM_book.2.1 45 = .ok (.aload_n 0, 1) := by decide +kernel
theorem dM_book_46 : decode mM_book.2.1 46 = .ok (.getfield 111, 3) := by decide +kernel
theorem dM_book_49 : decode mM_book.2.1 49 = .ok (.bipush 8, 2) := by decide +kernel
theorem dM_book_51 : decode mM_book.2.1 51 = .ok (.if_icmp .ne 6, 3) := by decide +kernel
theorem dM_book_54 : decode mM_book.2.1 54 = .ok (.bipush (-4), 2) := by decide +kernel
theorem dM_book_56 : decode mM_book.2.1 56 = .ok (.ireturn, 1) := by decide +kernel
theorem dM_book_57 : decode mM_book.2.1 57 = .ok (.aload_n 0, 1) := by decide +kernel
theorem dM_book_58 : decode mM_book.2.1 58 = .ok (.getfield 114, 3) := by decide +kernel
theorem dM_book_61 : decode mM_book.2.1 61 = .ok (.aload_n 0, 1) := by decide +kernel
theorem dM_book_62 : decode mM_book.2.1 62 = .ok (.getfield 111, 3) := by decide +kernel
theorem dM_book_65 : decode mM_book.2.1 65 = .ok (.iload_n 1, 1) := by decide +kernel
theorem dM_book_66 : decode mM_book.2.1 66 = .ok (.iastore, 1) := by decide +kernel
theorem dM_book_67 : decode mM_book.2.1 67 = .ok (.aload_n 0, 1) := by decide +kernel
theorem dM_book_68 : decode mM_book.2.1 68 = .ok (.getfield 117, 3) := by decide +kernel
theorem dM_book_71 : decode mM_book.2.1 71 = .ok (.aload_n 0, 1) := by decide +kernel
theorem dM_book_72 : decode mM_book.2.1 72 = .ok (.getfield 111, 3) := by decide +kernel
theorem dM_book_75 : decode mM_book.2.1 75 = .ok (.iload_n 2, 1) := by decide +kernel
theorem dM_book_76 : decode mM_book.2.1 76 = .ok (.iastore, 1) := by decide +kernel
theorem dM_book_77 : decode mM_book.2.1 77 = .ok (.aload_n 0, 1) := by decide +kernel
theorem dM_book_78 : decode mM_book.2.1 78 = .ok (.getfield 120, 3) := by decide +kernel
theorem dM_book_81 : decode mM_book.2.1 81 = .ok (.aload_n 0, 1) := by decide +kernel
theorem dM_book_82 : decode mM_book.2.1 82 = .ok (.getfield 111, 3) := by decide +kernel
theorem dM_book_85 : decode mM_book.2.1 85 = .ok (.iload_n 3, 1) := by decide +kernel
theorem dM_book_86 : decode mM_book.2.1 86 = .ok (.iastore, 1) := by decide +kernel
theorem dM_book_87 : decode mM_book.2.1 87 = .ok (.aload_n 0, 1) := by decide +kernel
theorem dM_book_88 : decode mM_book.2.1 88 = .ok (.dup, 1) := by decide +kernel
theorem dM_book_89 : decode mM_book.2.1 89 = .ok (.getfield 111, 3) := by decide +kernel
theorem dM_book_92 : decode mM_book.2.1 92 = .ok (.iconst 1, 1) := by decide +kernel
theorem dM_book_93 : decode mM_book.2.1 93 = .ok (.iadd, 1) := by decide +kernel
theorem dM_book_94 : decode mM_book.2.1 94 = .ok (.putfield 111, 3) := by decide +kernel
theorem dM_book_97 : decode mM_book.2.1 97 = .ok (.aload_n 0, 1) := by decide +kernel
theorem dM_book_98 : decode mM_book.2.1 98 = .ok (.getfield 111, 3) := by decide +kernel
theorem dM_book_101 : decode mM_book.2.1 101 = .ok (.ireturn, 1) := by decide +kernel
theorem dM_looked_0 : decode mM_looked.2.1 0 = .ok (.iconst 0, 1) := by decide +kernel
theorem dM_looked_1 : decode mM_looked.2.1 1 = .ok (.istore_n 1, 1) := by decide +kernel
theorem dM_looked_2 : decode mM_looked.2.1 2 = .ok (.iload_n 1, 1) := by decide +kernel
theorem dM_looked_3 : decode mM_looked.2.1 3 = .ok (.aload_n 0, 1) := by decide +kernel
theorem dM_looked_4 : decode mM_looked.2.1 4 = .ok (.getfield 111, 3) := by decide +kernel
theorem dM_looked_7 : decode mM_looked.2.1 7 = .ok (.if_icmp .ge 36, 3) := by decide +kernel
theorem dM_looked_10 : decode mM_looked.2.1 10 = .ok (.aload_n 0, 1) := by decide +kernel
theorem dM_looked_11 : decode mM_looked.2.1 11 = .ok (.aload_n 0, 1) := by decide +kernel
theorem dM_looked_12 : decode mM_looked.2.1 12 = .ok (.getfield 114, 3) := by decide +kernel
theorem dM_looked_15 : decode mM_looked.2.1 15 = .ok (.iload_n 1, 1) := by decide +kernel
theorem dM_looked_16 : decode mM_looked.2.1 16 = .ok (.iaload, 1) := by decide +kernel
theorem dM_looked_17 : decode mM_looked.2.1 17 = .ok (.aload_n 0, 1) := by decide +kernel
theorem dM_looked_18 : decode mM_looked.2.1 18 = .ok (.getfield 117, 3) := by decide +kernel
theorem dM_looked_21 : decode mM_looked.2.1 21 = .ok (.iload_n 1, 1) := by decide +kernel
theorem dM_looked_22 : decode mM_looked.2.1 22 = .ok (.iaload, 1) := by decide +kernel
theorem dM_looked_23 : decode mM_looked.2.1 23 = .ok (.invokevirtual 311, 3) := by decide +kernel
theorem dM_looked_26 : decode mM_looked.2.1 26 = .ok (.aload_n 0, 1) := by decide +kernel
theorem dM_looked_27 : decode mM_looked.2.1 27 = .ok (.getfield 120, 3) := by decide +kernel
theorem dM_looked_30 : decode mM_looked.2.1 30 = .ok (.iload_n 1, 1) := by decide +kernel
theorem dM_looked_31 : decode mM_looked.2.1 31 = .ok (.iaload, 1) := by decide +kernel
theorem dM_looked_32 : decode mM_looked.2.1 32 = .ok (.if_icmp .eq 5, 3) := by decide +kernel
theorem dM_looked_35 : decode mM_looked.2.1 35 = .ok (.iload_n 1, 1) := by decide +kernel
theorem dM_looked_36 : decode mM_looked.2.1 36 = .ok (.ireturn, 1) := by decide +kernel
theorem dM_looked_37 : decode mM_looked.2.1 37 = .ok (.iinc 1 1, 3) := by decide +kernel
theorem dM_looked_40 : decode mM_looked.2.1 40 = .ok (.goto (-38), 3) := by decide +kernel
theorem dM_looked_43 : decode mM_looked.2.1 43 = .ok (.bipush (-5), 2) := by decide +kernel
theorem dM_looked_45 : decode mM_looked.2.1 45 = .ok (.ireturn, 1) := by decide +kernel
theorem dM_judge_0 : decode mM_judge.2.1 0 = .ok (.aload_n 0, 1) := by decide +kernel
theorem dM_judge_1 : decode mM_judge.2.1 1 = .ok (.iload_n 1, 1) := by decide +kernel
theorem dM_judge_2 : decode mM_judge.2.1 2 = .ok (.invokevirtual 353, 3) := by decide +kernel
theorem dM_judge_5 : decode mM_judge.2.1 5 = .ok (.ifCond .ne 5, 3) := by decide +kernel
theorem dM_judge_8 : decode mM_judge.2.1 8 = .ok (.iconst (-1), 1) := by decide +kernel
theorem dM_judge_9 : decode mM_judge.2.1 9 = .ok (.ireturn, 1) := by decide +kernel
theorem dM_judge_10 : decode mM_judge.2.1 10 = .ok (.aload_n 0, 1) := by decide +kernel
theorem dM_judge_11 : decode mM_judge.2.1 11 = .ok (.getfield 190, 3) := by decide +kernel
theorem dM_judge_14 : decode mM_judge.2.1 14 = .ok (.iload_n 1, 1) := by decide +kernel
theorem dM_judge_15 : decode mM_judge.2.1 15 = .ok (.iaload, 1) := by decide +kernel
theorem dM_judge_16 : decode mM_judge.2.1 16 = .ok (.ifCond .lt 16, 3) := by decide +kernel
theorem dM_judge_19 : decode mM_judge.2.1 19 = .ok (.aload_n 0, 1) := by decide +kernel
theorem dM_judge_20 : decode mM_judge.2.1 20 = .ok (.getfield 190, 3) := by decide +kernel
theorem dM_judge_23 : decode mM_judge.2.1 23 = .ok (.iload_n 1, 1) := by decide +kernel
theorem dM_judge_24 : decode mM_judge.2.1 24 = .ok (.iaload, 1) := by decide +kernel
theorem dM_judge_25 : decode mM_judge.2.1 25 = .ok (.iconst 3, 1) := by decide +kernel
theorem dM_judge_26 : decode mM_judge.2.1 26 = .ok (.if_icmp .eq 6, 3) := by decide +kernel
theorem dM_judge_29 : decode mM_judge.2.1 29 = .ok (.bipush (-12), 2) := by decide +kernel
theorem dM_judge_31 : decode mM_judge.2.1 31 = .ok (.ireturn, 1) := by decide +kernel
theorem dM_judge_32 : decode mM_judge.2.1 32 = .ok (.iconst 0, 1) := by decide +kernel
theorem dM_judge_33 : decode mM_judge.2.1 33 = .ok (.istore_n 3, 1) := by decide +kernel
theorem dM_judge_34 : decode mM_judge.2.1 34 = .ok (.iload_n 3, 1) := by decide +kernel
theorem dM_judge_35 : decode mM_judge.2.1 35 = .ok (.aload_n 0, 1) := by decide +kernel
theorem dM_judge_36 : decode mM_judge.2.1 36 = .ok (.getfield 13, 3) := by decide +kernel
theorem dM_judge_39 : decode mM_judge.2.1 39 = .ok (.if_icmp .ge 67, 3) := by decide +kernel
theorem dM_judge_42 : decode mM_judge.2.1 42 = .ok (.aload_n 0, 1) := by decide +kernel
theorem dM_judge_43 : decode mM_judge.2.1 43 = .ok (.getfield 190, 3) := by decide +kernel
theorem dM_judge_46 : decode mM_judge.2.1 46 = .ok (.iload_n 1, 1) := by decide +kernel
theorem dM_judge_47 : decode mM_judge.2.1 47 = .ok (.iaload, 1) := by decide +kernel
theorem dM_judge_48 : decode mM_judge.2.1 48 = .ok (.ifCond .lt 21, 3) := by decide +kernel
theorem dM_judge_51 : decode mM_judge.2.1 51 = .ok (.iload_n 2, 1) := by decide +kernel
theorem dM_judge_52 : decode mM_judge.2.1 52 = .ok (.ifCond .lt 17, 3) := by decide +kernel
theorem dM_judge_55 : decode mM_judge.2.1 55 = .ok (.iload_n 2, 1) := by decide +kernel
theorem dM_judge_56 : decode mM_judge.2.1 56 = .ok (.aload_n 0, 1) := by decide +kernel
theorem dM_judge_57 : decode mM_judge.2.1 57 = .ok (.getfield 193, 3) := by decide +kernel
theorem dM_judge_60 : decode mM_judge.2.1 60 = .ok (.iload_n 1, 1) := by decide +kernel
theorem dM_judge_61 : decode mM_judge.2.1 61 = .ok (.iaload, 1) := by decide +kernel
theorem dM_judge_62 : decode mM_judge.2.1 62 = .ok (.iload_n 3, 1) := by decide +kernel
theorem dM_judge_63 : decode mM_judge.2.1 63 = .ok (.isub, 1) := by decide +kernel
theorem dM_judge_64 : decode mM_judge.2.1 64 = .ok (.iconst 1, 1) := by decide +kernel
theorem dM_judge_65 : decode mM_judge.2.1 65 = .ok (.isub, 1) := by decide +kernel
theorem dM_judge_66 : decode mM_judge.2.1 66 = .ok (.if_icmp .le 8, 3) := by decide +kernel
theorem dM_judge_69 : decode mM_judge.2.1 69 = .ok (.bipush 100, 2) := by decide +kernel
theorem dM_judge_71 : decode mM_judge.2.1 71 = .ok (.iload_n 3, 1) := by decide +kernel
theorem dM_judge_72 : decode mM_judge.2.1 72 = .ok (.iadd, 1) := by decide +kernel
theorem dM_judge_73 : decode mM_judge.2.1 73 = .ok (.ireturn, 1) := by decide +kernel
theorem dM_judge_74 : decode mM_judge.2.1 74 = .ok (.aload_n 0, 1) := by decide +kernel
theorem dM_judge_75 : decode mM_judge.2.1 75 = .ok (.getfield 196, 3) := by decide +kernel
theorem dM_judge_78 : decode mM_judge.2.1 78 = .ok (.bipush 60, 2) := by decide +kernel
theorem dM_judge_80 : decode mM_judge.2.1 80 = .ok (.iload_n 1, 1) := by decide +kernel
theorem dM_judge_81 : decode mM_judge.2.1 81 = .ok (.imul, 1) := by decide +kernel
theorem dM_judge_82 : decode mM_judge.2.1 82 = .ok (.iload_n 2, 1) := by decide +kernel
theorem dM_judge_83 : decode mM_judge.2.1 83 = .ok (.iadd, 1) := by decide +kernel
theorem dM_judge_84 : decode mM_judge.2.1 84 = .ok (.iload_n 3, 1) := by decide +kernel
theorem dM_judge_85 : decode mM_judge.2.1 85 = .ok (.iadd, 1) := by decide +kernel
theorem dM_judge_86 : decode mM_judge.2.1 86 = .ok (.laload, 1) := by decide +kernel
theorem dM_judge_87 : decode mM_judge.2.1 87 = .ok (.aload_n 0, 1) := by decide +kernel
theorem dM_judge_88 : decode mM_judge.2.1 88 = .ok (.getfield 35, 3) := by decide +kernel
theorem dM_judge_91 : decode mM_judge.2.1 91 = .ok (.iload_n 3, 1) := by decide +kernel
theorem dM_judge_92 : decode mM_judge.2.1 92 = .ok (.iaload, 1) := by decide +kernel
theorem dM_judge_93 : decode mM_judge.2.1 93 = .ok (.i2l, 1) := by decide +kernel
theorem dM_judge_94 : decode mM_judge.2.1 94 = .ok (.lcmp, 1) := by decide +kernel
theorem dM_judge_95 : decode mM_judge.2.1 95 = .ok (.ifCond .eq 5, 3) := by decide +kernel
theorem dM_judge_98 : decode mM_judge.2.1 98 = .ok (.iload_n 3, 1) := by decide +kernel
theorem dM_judge_99 : decode mM_judge.2.1 99 = .ok (.ireturn, 1) := by decide +kernel
theorem dM_judge_100 : decode mM_judge.2.1 100 = .ok (.iinc 3 1, 3) := by decide +kernel
theorem dM_judge_103 : decode mM_judge.2.1 103 = .ok (.goto (-69), 3) := by decide +kernel
theorem dM_judge_106 : decode mM_judge.2.1 106 = .ok (.bipush (-5), 2) := by decide +kernel
theorem dM_judge_108 : decode mM_judge.2.1 108 = .ok (.ireturn, 1) := by decide +kernel
theorem dM_image_0 : decode mM_image.2.1 0 = .ok (.aload_n 0, 1) := by decide +kernel
theorem dM_image_1 : decode mM_image.2.1 1 = .ok (.iconst 1, 1) := by decide +kernel
theorem dM_image_2 : decode mM_image.2.1 2 = .ok (.putfield 123, 3) := by decide +kernel
theorem dM_image_5 : decode mM_image.2.1 5 = .ok (.aload_n 0, 1) := by decide +kernel
theorem dM_image_6 : decode mM_image.2.1 6 = .ok (.aload_n 0, 1) := by decide +kernel
theorem dM_image_7 : decode mM_image.2.1 7 = .ok (.getfield 47, 3) := by decide +kernel
theorem dM_image_10 : decode mM_image.2.1 10 = .ok (.putfield 127, 3) := by decide +kernel
theorem dM_image_13 : decode mM_image.2.1 13 = .ok (.aload_n 0, 1) := by decide +kernel
theorem dM_image_14 : decode mM_image.2.1 14 = .ok (.aload_n 0, 1) := by decide +kernel
theorem dM_image_15 : decode mM_image.2.1 15 = .ok (.getfield 7, 3) := by decide +kernel
theorem dM_image_18 : decode mM_image.2.1 18 = .ok (.putfield 130, 3) := by decide +kernel
theorem dM_image_21 : decode mM_image.2.1 21 = .ok (.aload_n 0, 1) := by decide +kernel
theorem dM_image_22 : decode mM_image.2.1 22 = .ok (.aload_n 0, 1) := by decide +kernel
theorem dM_image_23 : decode mM_image.2.1 23 = .ok (.getfield 13, 3) := by decide +kernel
theorem dM_image_26 : decode mM_image.2.1 26 = .ok (.putfield 133, 3) := by decide +kernel
theorem dM_image_29 : decode mM_image.2.1 29 = .ok (.aload_n 0, 1) := by decide +kernel
theorem dM_image_30 : decode mM_image.2.1 30 = .ok (.aload_n 0, 1) := by decide +kernel
theorem dM_image_31 : decode mM_image.2.1 31 = .ok (.getfield 16, 3) := by decide +kernel
theorem dM_image_34 : decode mM_image.2.1 34 = .ok (.putfield 136, 3) := by decide +kernel
theorem dM_image_37 : decode mM_image.2.1 37 = .ok (.aload_n 0, 1) := by decide +kernel
theorem dM_image_38 : decode mM_image.2.1 38 = .ok (.aload_n 0, 1) := by decide +kernel
theorem dM_image_39 : decode mM_image.2.1 39 = .ok (.getfield 19, 3) := by decide +kernel
theorem dM_image_42 : decode mM_image.2.1 42 = .ok (.putfield 139, 3) := by decide +kernel
theorem dM_image_45 : decode mM_image.2.1 45 = .ok (.aload_n 0, 1) := by decide +kernel
theorem dM_image_46 : decode mM_image.2.1 46 = .ok (.aload_n 0, 1) := by decide +kernel
theorem dM_image_47 : decode mM_image.2.1 47 = .ok (.getfield 102, 3) := by decide +kernel
theorem dM_image_50 : decode mM_image.2.1 50 = .ok (.putfield 142, 3) := by decide +kernel
theorem dM_image_53 : decode mM_image.2.1 53 = .ok (.aload_n 0, 1) := by decide +kernel
theorem dM_image_54 : decode mM_image.2.1 54 = .ok (.aload_n 0, 1) := by decide +kernel
theorem dM_image_55 : decode mM_image.2.1 55 = .ok (.getfield 111, 3) := by decide +kernel
theorem dM_image_58 : decode mM_image.2.1 58 = .ok (.putfield 145, 3) := by decide +kernel
theorem dM_image_61 : decode mM_image.2.1 61 = .ok (.iconst 0, 1) := by decide +kernel
theorem dM_image_62 : decode mM_image.2.1 62 = .ok (.istore_n 1, 1) := by decide +kernel
theorem dM_image_63 : decode mM_image.2.1 63 = .ok (.iload_n 1, 1) := by decide +kernel
theorem dM_image_64 : decode mM_image.2.1 64 = .ok (.bipush 6, 2) := by decide +kernel
theorem dM_image_66 : decode mM_image.2.1 66 = .ok (.if_icmp .ge 21, 3) := by decide +kernel
theorem dM_image_69 : decode mM_image.2.1 69 = .ok (.aload_n 0, 1) := by decide +kernel
theorem dM_image_70 : decode mM_image.2.1 70 = .ok (.getfield 148, 3) := by decide +kernel
theorem dM_image_73 : decode mM_image.2.1 73 = .ok (.iload_n 1, 1) := by decide +kernel
theorem dM_image_74 : decode mM_image.2.1 74 = .ok (.aload_n 0, 1) := by decide +kernel
theorem dM_image_75 : decode mM_image.2.1 75 = .ok (.getfield 22, 3) := by decide +kernel
theorem dM_image_78 : decode mM_image.2.1 78 = .ok (.iload_n 1, 1) := by decide +kernel
theorem dM_image_79 : decode mM_image.2.1 79 = .ok (.iaload, 1) := by decide +kernel
theorem dM_image_80 : decode mM_image.2.1 80 = .ok (.iastore, 1) := by decide +kernel
theorem dM_image_81 : decode mM_image.2.1 81 = .ok (.iinc 1 1, 3) := by decide +kernel
theorem dM_image_84 : decode mM_image.2.1 84 = .ok (.goto (-21), 3) := by decide +kernel
theorem dM_image_87 : decode mM_image.2.1 87 = .ok (.iconst 0, 1) := by decide +kernel
theorem dM_image_88 : decode mM_image.2.1 88 = .ok (.istore_n 1, 1) := by decide +kernel
theorem dM_image_89 : decode mM_image.2.1 89 = .ok (.iload_n 1, 1) := by decide +kernel
theorem dM_image_90 : decode mM_image.2.1 90 = .ok (.bipush 8, 2) := by decide +kernel
theorem dM_image_92 : decode mM_image.2.1 92 = .ok (.if_icmp .ge 129, 3) := by decide +kernel
theorem dM_image_95 : decode mM_image.2.1 95 = .ok (.aload_n 0, 1) := by decide +kernel
theorem dM_image_96 : decode mM_image.2.1 96 = .ok (.getfield 151, 3) := by decide +kernel
theorem dM_image_99 : decode mM_image.2.1 99 = .ok (.iload_n 1, 1) := by decide +kernel
theorem dM_image_100 : decode mM_image.2.1 100 = .ok (.aload_n 0, 1) := by decide +kernel
theorem dM_image_101 : decode mM_image.2.1 101 = .ok (.getfield 26, 3) := by decide +kernel
theorem dM_image_104 : decode mM_image.2.1 104 = .ok (.iload_n 1, 1) := by decide +kernel
theorem dM_image_105 : decode mM_image.2.1 105 = .ok (.iaload, 1) := by decide +kernel
theorem dM_image_106 : decode mM_image.2.1 106 = .ok (.iastore, 1) := by decide +kernel
theorem dM_image_107 : decode mM_image.2.1 107 = .ok (.aload_n 0, 1) := by decide +kernel
theorem dM_image_108 : decode mM_image.2.1 108 = .ok (.getfield 154, 3) := by decide +kernel
theorem dM_image_111 : decode mM_image.2.1 111 = .ok (.iload_n 1, 1) := by decide +kernel
theorem dM_image_112 : decode mM_image.2.1 112 = .ok (.aload_n 0, 1) := by decide +kernel
theorem dM_image_113 : decode mM_image.2.1 113 = .ok (.getfield 29, 3) := by decide +kernel
theorem dM_image_116 : decode mM_image.2.1 116 = .ok (.iload_n 1, 1) := by decide +kernel
theorem dM_image_117 : decode mM_image.2.1 117 = .ok (.iaload, 1) := by decide +kernel
theorem dM_image_118 : decode mM_image.2.1 118 = .ok (.iastore, 1) := by decide +kernel
theorem dM_image_119 : decode mM_image.2.1 119 = .ok (.aload_n 0, 1) := by decide +kernel
theorem dM_image_120 : decode mM_image.2.1 120 = .ok (.getfield 157, 3) := by decide +kernel
theorem dM_image_123 : decode mM_image.2.1 123 = .ok (.iload_n 1, 1) := by decide +kernel
theorem dM_image_124 : decode mM_image.2.1 124 = .ok (.aload_n 0, 1) := by decide +kernel
theorem dM_image_125 : decode mM_image.2.1 125 = .ok (.getfield 32, 3) := by decide +kernel
theorem dM_image_128 : decode mM_image.2.1 128 = .ok (.iload_n 1, 1) := by decide +kernel
theorem dM_image_129 : decode mM_image.2.1 129 = .ok (.iaload, 1) := by decide +kernel
theorem dM_image_130 : decode mM_image.2.1 130 = .ok (.iastore, 1) := by decide +kernel
theorem dM_image_131 : decode mM_image.2.1 131 = .ok (.aload_n 0, 1) := by decide +kernel
theorem dM_image_132 : decode mM_image.2.1 132 = .ok (.getfield 160, 3) := by decide +kernel
theorem dM_image_135 : decode mM_image.2.1 135 = .ok (.iload_n 1, 1) := by decide +kernel
theorem dM_image_136 : decode mM_image.2.1 136 = .ok (.aload_n 0, 1) := by decide +kernel
theorem dM_image_137 : decode mM_image.2.1 137 = .ok (.getfield 35, 3) := by decide +kernel
theorem dM_image_140 : decode mM_image.2.1 140 = .ok (.iload_n 1, 1) := by decide +kernel
theorem dM_image_141 : decode mM_image.2.1 141 = .ok (.iaload, 1) := by decide +kernel
theorem dM_image_142 : decode mM_image.2.1 142 = .ok (.iastore, 1) := by decide +kernel
theorem dM_image_143 : decode mM_image.2.1 143 = .ok (.aload_n 0, 1) := by decide +kernel
theorem dM_image_144 : decode mM_image.2.1 144 = .ok (.getfield 163, 3) := by decide +kernel
theorem dM_image_147 : decode mM_image.2.1 147 = .ok (.iload_n 1, 1) := by decide +kernel
theorem dM_image_148 : decode mM_image.2.1 148 = .ok (.aload_n 0, 1) := by decide +kernel
theorem dM_image_149 : decode mM_image.2.1 149 = .ok (.getfield 38, 3) := by decide +kernel
theorem dM_image_152 : decode mM_image.2.1 152 = .ok (.iload_n 1, 1) := by decide +kernel
theorem dM_image_153 : decode mM_image.2.1 153 = .ok (.iaload, 1) := by decide +kernel
theorem dM_image_154 : decode mM_image.2.1 154 = .ok (.iastore, 1) := by decide +kernel
theorem dM_image_155 : decode mM_image.2.1 155 = .ok (.aload_n 0, 1) := by decide +kernel
theorem dM_image_156 : decode mM_image.2.1 156 = .ok (.getfield 169, 3) := by decide +kernel
theorem dM_image_159 : decode mM_image.2.1 159 = .ok (.iload_n 1, 1) := by decide +kernel
theorem dM_image_160 : decode mM_image.2.1 160 = .ok (.aload_n 0, 1) := by decide +kernel
theorem dM_image_161 : decode mM_image.2.1 161 = .ok (.getfield 105, 3) := by decide +kernel
theorem dM_image_164 : decode mM_image.2.1 164 = .ok (.iload_n 1, 1) := by decide +kernel
theorem dM_image_165 : decode mM_image.2.1 165 = .ok (.iaload, 1) := by decide +kernel
theorem dM_image_166 : decode mM_image.2.1 166 = .ok (.iastore, 1) := by decide +kernel
theorem dM_image_167 : decode mM_image.2.1 167 = .ok (.aload_n 0, 1) := by decide +kernel
theorem dM_image_168 : decode mM_image.2.1 168 = .ok (.getfield 181, 3) := by decide +kernel
theorem dM_image_171 : decode mM_image.2.1 171 = .ok (.iload_n 1, 1) := by decide +kernel
theorem dM_image_172 : decode mM_image.2.1 172 = .ok (.aload_n 0, 1) := by decide +kernel
theorem dM_image_173 : decode mM_image.2.1 173 = .ok (.getfield 108, 3) := by decide +kernel
theorem dM_image_176 : decode mM_image.2.1 176 = .ok (.iload_n 1, 1) := by decide +kernel
theorem dM_image_177 : decode mM_image.2.1 177 = .ok (.baload, 1) := by decide +kernel
theorem dM_image_178 : decode mM_image.2.1 178 = .ok (.bastore, 1) := by decide +kernel
theorem dM_image_179 : decode mM_image.2.1 179 = .ok (.aload_n 0, 1) := by decide +kernel
theorem dM_image_180 : decode mM_image.2.1 180 = .ok (.getfield 172, 3) := by decide +kernel
theorem dM_image_183 : decode mM_image.2.1 183 = .ok (.iload_n 1, 1) := by decide +kernel
theorem dM_image_184 : decode mM_image.2.1 184 = .ok (.aload_n 0, 1) := by decide +kernel
theorem dM_image_185 : decode mM_image.2.1 185 = .ok (.getfield 114, 3) := by decide +kernel
theorem dM_image_188 : decode mM_image.2.1 188 = .ok (.iload_n 1, 1) := by decide +kernel
theorem dM_image_189 : decode mM_image.2.1 189 = .ok (.iaload, 1) := by decide +kernel
theorem dM_image_190 : decode mM_image.2.1 190 = .ok (.iastore, 1) := by decide +kernel
theorem dM_image_191 : decode mM_image.2.1 191 = .ok (.aload_n 0, 1) := by decide +kernel
theorem dM_image_192 : decode mM_image.2.1 192 = .ok (.getfield 175, 3) := by decide +kernel
theorem dM_image_195 : decode mM_image.2.1 195 = .ok (.iload_n 1, 1) := by decide +kernel
theorem dM_image_196 : decode mM_image.2.1 196 = .ok (.aload_n 0, 1) := by decide +kernel
theorem dM_image_197 : decode mM_image.2.1 197 = .ok (.getfield 117, 3) := by decide +kernel
theorem dM_image_200 : decode mM_image.2.1 200 = .ok (.iload_n 1, 1) := by decide +kernel
theorem dM_image_201 : decode mM_image.2.1 201 = .ok (.iaload, 1) := by decide +kernel
theorem dM_image_202 : decode mM_image.2.1 202 = .ok (.iastore, 1) := by decide +kernel
theorem dM_image_203 : decode mM_image.2.1 203 = .ok (.aload_n 0, 1) := by decide +kernel
theorem dM_image_204 : decode mM_image.2.1 204 = .ok (.getfield 178, 3) := by decide +kernel
theorem dM_image_207 : decode mM_image.2.1 207 = .ok (.iload_n 1, 1) := by decide +kernel
theorem dM_image_208 : decode mM_image.2.1 208 = .ok (.aload_n 0, 1) := by decide +kernel
theorem dM_image_209 : decode mM_image.2.1 209 = .ok (.getfield 120, 3) := by decide +kernel
theorem dM_image_212 : decode mM_image.2.1 212 = .ok (.iload_n 1, 1) := by decide +kernel
theorem dM_image_213 : decode mM_image.2.1 213 = .ok (.iaload, 1) := by decide +kernel
theorem dM_image_214 : decode mM_image.2.1 214 = .ok (.iastore, 1) := by decide +kernel
theorem dM_image_215 : decode mM_image.2.1 215 = .ok (.iinc 1 1, 3) := by decide +kernel
theorem dM_image_218 : decode mM_image.2.1 218 = .ok (.goto (-129), 3) := by decide +kernel
theorem dM_image_221 : decode mM_image.2.1 221 = .ok (.iconst 0, 1) := by decide +kernel
theorem dM_image_222 : decode mM_image.2.1 222 = .ok (.istore_n 1, 1) := by decide +kernel
theorem dM_image_223 : decode mM_image.2.1 223 = .ok (.iload_n 1, 1) := by decide +kernel
theorem dM_image_224 : decode mM_image.2.1 224 = .ok (.bipush 32, 2) := by decide +kernel
theorem dM_image_226 : decode mM_image.2.1 226 = .ok (.if_icmp .ge 21, 3) := by decide +kernel
theorem dM_image_229 : decode mM_image.2.1 229 = .ok (.aload_n 0, 1) := by decide +kernel
theorem dM_image_230 : decode mM_image.2.1 230 = .ok (.getfield 166, 3) := by decide +kernel
theorem dM_image_233 : decode mM_image.2.1 233 = .ok (.iload_n 1, 1) := by decide +kernel
theorem dM_image_234 : decode mM_image.2.1 234 = .ok (.aload_n 0, 1) := by decide +kernel
theorem dM_image_235 : decode mM_image.2.1 235 = .ok (.getfield 41, 3) := by decide +kernel
theorem dM_image_238 : decode mM_image.2.1 238 = .ok (.iload_n 1, 1) := by decide +kernel
theorem dM_image_239 : decode mM_image.2.1 239 = .ok (.iaload, 1) := by decide +kernel
theorem dM_image_240 : decode mM_image.2.1 240 = .ok (.iastore, 1) := by decide +kernel
theorem dM_image_241 : decode mM_image.2.1 241 = .ok (.iinc 1 1, 3) := by decide +kernel
theorem dM_image_244 : decode mM_image.2.1 244 = .ok (.goto (-21), 3) := by decide +kernel
theorem dM_image_247 : decode mM_image.2.1 247 = .ok (.aload_n 0, 1) := by decide +kernel
theorem dM_image_248 : decode mM_image.2.1 248 = .ok (.getfield 13, 3) := by decide +kernel
theorem dM_image_251 : decode mM_image.2.1 251 = .ok (.ireturn, 1) := by decide +kernel
theorem dM_undo_0 : decode mM_undo.2.1 0 = .ok (.aload_n 0, 1) := by decide +kernel
theorem dM_undo_1 : decode mM_undo.2.1 1 = .ok (.getfield 123, 3) := by decide +kernel
theorem dM_undo_4 : decode mM_undo.2.1 4 = .ok (.ifCond .ne 6, 3) := by decide +kernel
theorem dM_undo_7 : decode mM_undo.2.1 7 = .ok (.bipush (-3), 2) := by decide +kernel
theorem dM_undo_9 : decode mM_undo.2.1 9 = .ok (.ireturn, 1) := by decide +kernel
theorem dM_undo_10 : decode mM_undo.2.1 10 = .ok (.aload_n 0, 1) := by decide +kernel
theorem dM_undo_11 : decode mM_undo.2.1 11 = .ok (.aload_n 0, 1) := by decide +kernel
theorem dM_undo_12 : decode mM_undo.2.1 12 = .ok (.getfield 127, 3) := by decide +kernel
theorem dM_undo_15 : decode mM_undo.2.1 15 = .ok (.putfield 47, 3) := by decide +kernel
theorem dM_undo_18 : decode mM_undo.2.1 18 = .ok (.aload_n 0, 1) := by decide +kernel
theorem dM_undo_19 : decode mM_undo.2.1 19 = .ok (.aload_n 0, 1) := by decide +kernel
theorem dM_undo_20 : decode mM_undo.2.1 20 = .ok (.getfield 130, 3) := by decide +kernel
theorem dM_undo_23 : decode mM_undo.2.1 23 = .ok (.putfield 7, 3) := by decide +kernel
theorem dM_undo_26 : decode mM_undo.2.1 26 = .ok (.aload_n 0, 1) := by decide +kernel
theorem dM_undo_27 : decode mM_undo.2.1 27 = .ok (.aload_n 0, 1) := by decide +kernel
theorem dM_undo_28 : decode mM_undo.2.1 28 = .ok (.getfield 133, 3) := by decide +kernel
theorem dM_undo_31 : decode mM_undo.2.1 31 = .ok (.putfield 13, 3) := by decide +kernel
theorem dM_undo_34 : decode mM_undo.2.1 34 = .ok (.aload_n 0, 1) := by decide +kernel
theorem dM_undo_35 : decode mM_undo.2.1 35 = .ok (.aload_n 0, 1) := by decide +kernel
theorem dM_undo_36 : decode mM_undo.2.1 36 = .ok (.getfield 136, 3) := by decide +kernel
theorem dM_undo_39 : decode mM_undo.2.1 39 = .ok (.putfield 16, 3) := by decide +kernel
theorem dM_undo_42 : decode mM_undo.2.1 42 = .ok (.aload_n 0, 1) := by decide +kernel
theorem dM_undo_43 : decode mM_undo.2.1 43 = .ok (.aload_n 0, 1) := by decide +kernel
theorem dM_undo_44 : decode mM_undo.2.1 44 = .ok (.getfield 139, 3) := by decide +kernel
theorem dM_undo_47 : decode mM_undo.2.1 47 = .ok (.putfield 19, 3) := by decide +kernel
theorem dM_undo_50 : decode mM_undo.2.1 50 = .ok (.aload_n 0, 1) := by decide +kernel
theorem dM_undo_51 : decode mM_undo.2.1 51 = .ok (.aload_n 0, 1) := by decide +kernel
theorem dM_undo_52 : decode mM_undo.2.1 52 = .ok (.getfield 142, 3) := by decide +kernel
theorem dM_undo_55 : decode mM_undo.2.1 55 = .ok (.putfield 102, 3) := by decide +kernel
theorem dM_undo_58 : decode mM_undo.2.1 58 = .ok (.aload_n 0, 1) := by decide +kernel
theorem dM_undo_59 : decode mM_undo.2.1 59 = .ok (.aload_n 0, 1) := by decide +kernel
theorem dM_undo_60 : decode mM_undo.2.1 60 = .ok (.getfield 145, 3) := by decide +kernel
theorem dM_undo_63 : decode mM_undo.2.1 63 = .ok (.putfield 111, 3) := by decide +kernel
theorem dM_undo_66 : decode mM_undo.2.1 66 = .ok (.iconst 0, 1) := by decide +kernel
theorem dM_undo_67 : decode mM_undo.2.1 67 = .ok (.istore_n 1, 1) := by decide +kernel
theorem dM_undo_68 : decode mM_undo.2.1 68 = .ok (.iload_n 1, 1) := by decide +kernel
theorem dM_undo_69 : decode mM_undo.2.1 69 = .ok (.bipush 6, 2) := by decide +kernel
theorem dM_undo_71 : decode mM_undo.2.1 71 = .ok (.if_icmp .ge 21, 3) := by decide +kernel
theorem dM_undo_74 : decode mM_undo.2.1 74 = .ok (.aload_n 0, 1) := by decide +kernel
theorem dM_undo_75 : decode mM_undo.2.1 75 = .ok (.getfield 22, 3) := by decide +kernel
theorem dM_undo_78 : decode mM_undo.2.1 78 = .ok (.iload_n 1, 1) := by decide +kernel
theorem dM_undo_79 : decode mM_undo.2.1 79 = .ok (.aload_n 0, 1) := by decide +kernel
theorem dM_undo_80 : decode mM_undo.2.1 80 = .ok (.getfield 148, 3) := by decide +kernel
theorem dM_undo_83 : decode mM_undo.2.1 83 = .ok (.iload_n 1, 1) := by decide +kernel
theorem dM_undo_84 : decode mM_undo.2.1 84 = .ok (.iaload, 1) := by decide +kernel
theorem dM_undo_85 : decode mM_undo.2.1 85 = .ok (.iastore, 1) := by decide +kernel
theorem dM_undo_86 : decode mM_undo.2.1 86 = .ok (.iinc 1 1, 3) := by decide +kernel
theorem dM_undo_89 : decode mM_undo.2.1 89 = .ok (.goto (-21), 3) := by decide +kernel
theorem dM_undo_92 : decode mM_undo.2.1 92 = .ok (.iconst 0, 1) := by decide +kernel
theorem dM_undo_93 : decode mM_undo.2.1 93 = .ok (.istore_n 1, 1) := by decide +kernel
theorem dM_undo_94 : decode mM_undo.2.1 94 = .ok (.iload_n 1, 1) := by decide +kernel
theorem dM_undo_95 : decode mM_undo.2.1 95 = .ok (.bipush 8, 2) := by decide +kernel
theorem dM_undo_97 : decode mM_undo.2.1 97 = .ok (.if_icmp .ge 129, 3) := by decide +kernel
theorem dM_undo_100 : decode mM_undo.2.1 100 = .ok (.aload_n 0, 1) := by decide +kernel
theorem dM_undo_101 : decode mM_undo.2.1 101 = .ok (.getfield 26, 3) := by decide +kernel
theorem dM_undo_104 : decode mM_undo.2.1 104 = .ok (.iload_n 1, 1) := by decide +kernel
theorem dM_undo_105 : decode mM_undo.2.1 105 = .ok (.aload_n 0, 1) := by decide +kernel
theorem dM_undo_106 : decode mM_undo.2.1 106 = .ok (.getfield 151, 3) := by decide +kernel
theorem dM_undo_109 : decode mM_undo.2.1 109 = .ok (.iload_n 1, 1) := by decide +kernel
theorem dM_undo_110 : decode mM_undo.2.1 110 = .ok (.iaload, 1) := by decide +kernel
theorem dM_undo_111 : decode mM_undo.2.1 111 = .ok (.iastore, 1) := by decide +kernel
theorem dM_undo_112 : decode mM_undo.2.1 112 = .ok (.aload_n 0, 1) := by decide +kernel
theorem dM_undo_113 : decode mM_undo.2.1 113 = .ok (.getfield 29, 3) := by decide +kernel
theorem dM_undo_116 : decode mM_undo.2.1 116 = .ok (.iload_n 1, 1) := by decide +kernel
theorem dM_undo_117 : decode mM_undo.2.1 117 = .ok (.aload_n 0, 1) := by decide +kernel
theorem dM_undo_118 : decode mM_undo.2.1 118 = .ok (.getfield 154, 3) := by decide +kernel
theorem dM_undo_121 : decode mM_undo.2.1 121 = .ok (.iload_n 1, 1) := by decide +kernel
theorem dM_undo_122 : decode mM_undo.2.1 122 = .ok (.iaload, 1) := by decide +kernel
theorem dM_undo_123 : decode mM_undo.2.1 123 = .ok (.iastore, 1) := by decide +kernel
theorem dM_undo_124 : decode mM_undo.2.1 124 = .ok (.aload_n 0, 1) := by decide +kernel
theorem dM_undo_125 : decode mM_undo.2.1 125 = .ok (.getfield 32, 3) := by decide +kernel
theorem dM_undo_128 : decode mM_undo.2.1 128 = .ok (.iload_n 1, 1) := by decide +kernel
theorem dM_undo_129 : decode mM_undo.2.1 129 = .ok (.aload_n 0, 1) := by decide +kernel
theorem dM_undo_130 : decode mM_undo.2.1 130 = .ok (.getfield 157, 3) := by decide +kernel
theorem dM_undo_133 : decode mM_undo.2.1 133 = .ok (.iload_n 1, 1) := by decide +kernel
theorem dM_undo_134 : decode mM_undo.2.1 134 = .ok (.iaload, 1) := by decide +kernel
theorem dM_undo_135 : decode mM_undo.2.1 135 = .ok (.iastore, 1) := by decide +kernel
theorem dM_undo_136 : decode mM_undo.2.1 136 = .ok (.aload_n 0, 1) := by decide +kernel
theorem dM_undo_137 : decode mM_undo.2.1 137 = .ok (.getfield 35, 3) := by decide +kernel
theorem dM_undo_140 : decode mM_undo.2.1 140 = .ok (.iload_n 1, 1) := by decide +kernel
theorem dM_undo_141 : decode mM_undo.2.1 141 = .ok (.aload_n 0, 1) := by decide +kernel
theorem dM_undo_142 : decode mM_undo.2.1 142 = .ok (.getfield 160, 3) := by decide +kernel
theorem dM_undo_145 : decode mM_undo.2.1 145 = .ok (.iload_n 1, 1) := by decide +kernel
theorem dM_undo_146 : decode mM_undo.2.1 146 = .ok (.iaload, 1) := by decide +kernel
theorem dM_undo_147 : decode mM_undo.2.1 147 = .ok (.iastore, 1) := by decide +kernel
theorem dM_undo_148 : decode mM_undo.2.1 148 = .ok (.aload_n 0, 1) := by decide +kernel
theorem dM_undo_149 : decode mM_undo.2.1 149 = .ok (.getfield 38, 3) := by decide +kernel
theorem dM_undo_152 : decode mM_undo.2.1 152 = .ok (.iload_n 1, 1) := by decide +kernel
theorem dM_undo_153 : decode mM_undo.2.1 153 = .ok (.aload_n 0, 1) := by decide +kernel
theorem dM_undo_154 : decode mM_undo.2.1 154 = .ok (.getfield 163, 3) := by decide +kernel
theorem dM_undo_157 : decode mM_undo.2.1 157 = .ok (.iload_n 1, 1) := by decide +kernel
theorem dM_undo_158 : decode mM_undo.2.1 158 = .ok (.iaload, 1) := by decide +kernel
theorem dM_undo_159 : decode mM_undo.2.1 159 = .ok (.iastore, 1) := by decide +kernel
theorem dM_undo_160 : decode mM_undo.2.1 160 = .ok (.aload_n 0, 1) := by decide +kernel
theorem dM_undo_161 : decode mM_undo.2.1 161 = .ok (.getfield 105, 3) := by decide +kernel
theorem dM_undo_164 : decode mM_undo.2.1 164 = .ok (.iload_n 1, 1) := by decide +kernel
theorem dM_undo_165 : decode mM_undo.2.1 165 = .ok (.aload_n 0, 1) := by decide +kernel
theorem dM_undo_166 : decode mM_undo.2.1 166 = .ok (.getfield 169, 3) := by decide +kernel
theorem dM_undo_169 : decode mM_undo.2.1 169 = .ok (.iload_n 1, 1) := by decide +kernel
theorem dM_undo_170 : decode mM_undo.2.1 170 = .ok (.iaload, 1) := by decide +kernel
theorem dM_undo_171 : decode mM_undo.2.1 171 = .ok (.iastore, 1) := by decide +kernel
theorem dM_undo_172 : decode mM_undo.2.1 172 = .ok (.aload_n 0, 1) := by decide +kernel
theorem dM_undo_173 : decode mM_undo.2.1 173 = .ok (.getfield 108, 3) := by decide +kernel
theorem dM_undo_176 : decode mM_undo.2.1 176 = .ok (.iload_n 1, 1) := by decide +kernel
theorem dM_undo_177 : decode mM_undo.2.1 177 = .ok (.aload_n 0, 1) := by decide +kernel
theorem dM_undo_178 : decode mM_undo.2.1 178 = .ok (.getfield 181, 3) := by decide +kernel
theorem dM_undo_181 : decode mM_undo.2.1 181 = .ok (.iload_n 1, 1) := by decide +kernel
theorem dM_undo_182 : decode mM_undo.2.1 182 = .ok (.baload, 1) := by decide +kernel
theorem dM_undo_183 : decode mM_undo.2.1 183 = .ok (.bastore, 1) := by decide +kernel
theorem dM_undo_184 : decode mM_undo.2.1 184 = .ok (.aload_n 0, 1) := by decide +kernel
theorem dM_undo_185 : decode mM_undo.2.1 185 = .ok (.getfield 114, 3) := by decide +kernel
theorem dM_undo_188 : decode mM_undo.2.1 188 = .ok (.iload_n 1, 1) := by decide +kernel
theorem dM_undo_189 : decode mM_undo.2.1 189 = .ok (.aload_n 0, 1) := by decide +kernel
theorem dM_undo_190 : decode mM_undo.2.1 190 = .ok (.getfield 172, 3) := by decide +kernel
theorem dM_undo_193 : decode mM_undo.2.1 193 = .ok (.iload_n 1, 1) := by decide +kernel
theorem dM_undo_194 : decode mM_undo.2.1 194 = .ok (.iaload, 1) := by decide +kernel
theorem dM_undo_195 : decode mM_undo.2.1 195 = .ok (.iastore, 1) := by decide +kernel
theorem dM_undo_196 : decode mM_undo.2.1 196 = .ok (.aload_n 0, 1) := by decide +kernel
theorem dM_undo_197 : decode mM_undo.2.1 197 = .ok (.getfield 117, 3) := by decide +kernel
theorem dM_undo_200 : decode mM_undo.2.1 200 = .ok (.iload_n 1, 1) := by decide +kernel
theorem dM_undo_201 : decode mM_undo.2.1 201 = .ok (.aload_n 0, 1) := by decide +kernel
theorem dM_undo_202 : decode mM_undo.2.1 202 = .ok (.getfield 175, 3) := by decide +kernel
theorem dM_undo_205 : decode mM_undo.2.1 205 = .ok (.iload_n 1, 1) := by decide +kernel
theorem dM_undo_206 : decode mM_undo.2.1 206 = .ok (.iaload, 1) := by decide +kernel
theorem dM_undo_207 : decode mM_undo.2.1 207 = .ok (.iastore, 1) := by decide +kernel
theorem dM_undo_208 : decode mM_undo.2.1 208 = .ok (.aload_n 0, 1) := by decide +kernel
theorem dM_undo_209 : decode mM_undo.2.1 209 = .ok (.getfield 120, 3) := by decide +kernel
theorem dM_undo_212 : decode mM_undo.2.1 212 = .ok (.iload_n 1, 1) := by decide +kernel
theorem dM_undo_213 : decode mM_undo.2.1 213 = .ok (.aload_n 0, 1) := by decide +kernel
theorem dM_undo_214 : decode mM_undo.2.1 214 = .ok (.getfield 178, 3) := by decide +kernel
theorem dM_undo_217 : decode mM_undo.2.1 217 = .ok (.iload_n 1, 1) := by decide +kernel
theorem dM_undo_218 : decode mM_undo.2.1 218 = .ok (.iaload, 1) := by decide +kernel
theorem dM_undo_219 : decode mM_undo.2.1 219 = .ok (.iastore, 1) := by decide +kernel
theorem dM_undo_220 : decode mM_undo.2.1 220 = .ok (.iinc 1 1, 3) := by decide +kernel
theorem dM_undo_223 : decode mM_undo.2.1 223 = .ok (.goto (-129), 3) := by decide +kernel
theorem dM_undo_226 : decode mM_undo.2.1 226 = .ok (.iconst 0, 1) := by decide +kernel
theorem dM_undo_227 : decode mM_undo.2.1 227 = .ok (.istore_n 1, 1) := by decide +kernel
theorem dM_undo_228 : decode mM_undo.2.1 228 = .ok (.iload_n 1, 1) := by decide +kernel
theorem dM_undo_229 : decode mM_undo.2.1 229 = .ok (.bipush 32, 2) := by decide +kernel
theorem dM_undo_231 : decode mM_undo.2.1 231 = .ok (.if_icmp .ge 21, 3) := by decide +kernel
theorem dM_undo_234 : decode mM_undo.2.1 234 = .ok (.aload_n 0, 1) := by decide +kernel
theorem dM_undo_235 : decode mM_undo.2.1 235 = .ok (.getfield 41, 3) := by decide +kernel
theorem dM_undo_238 : decode mM_undo.2.1 238 = .ok (.iload_n 1, 1) := by decide +kernel
theorem dM_undo_239 : decode mM_undo.2.1 239 = .ok (.aload_n 0, 1) := by decide +kernel
theorem dM_undo_240 : decode mM_undo.2.1 240 = .ok (.getfield 166, 3) := by decide +kernel
theorem dM_undo_243 : decode mM_undo.2.1 243 = .ok (.iload_n 1, 1) := by decide +kernel
theorem dM_undo_244 : decode mM_undo.2.1 244 = .ok (.iaload, 1) := by decide +kernel
theorem dM_undo_245 : decode mM_undo.2.1 245 = .ok (.iastore, 1) := by decide +kernel
theorem dM_undo_246 : decode mM_undo.2.1 246 = .ok (.iinc 1 1, 3) := by decide +kernel
theorem dM_undo_249 : decode mM_undo.2.1 249 = .ok (.goto (-21), 3) := by decide +kernel
theorem dM_undo_252 : decode mM_undo.2.1 252 = .ok (.aload_n 0, 1) := by decide +kernel
theorem dM_undo_253 : decode mM_undo.2.1 253 = .ok (.getfield 13, 3) := by decide +kernel
theorem dM_undo_256 : decode mM_undo.2.1 256 = .ok (.ireturn, 1) := by decide +kernel
theorem dM_body_0 : decode mM_body.2.1 0 = .ok (.aload_n 0, 1) := by decide +kernel
theorem dM_body_1 : decode mM_body.2.1 1 = .ok (.getfield 184, 3) := by decide +kernel
theorem dM_body_4 : decode mM_body.2.1 4 = .ok (.bipush 20, 2) := by decide +kernel
theorem dM_body_6 : decode mM_body.2.1 6 = .ok (.if_icmp .ge 13, 3) := by decide +kernel
theorem dM_body_9 : decode mM_body.2.1 9 = .ok (.aload_n 0, 1) := by decide +kernel
theorem dM_body_10 : decode mM_body.2.1 10 = .ok (.getfield 187, 3) := by decide +kernel
theorem dM_body_13 : decode mM_body.2.1 13 = .ok (.aload_n 0, 1) := by decide +kernel
theorem dM_body_14 : decode mM_body.2.1 14 = .ok (.getfield 184, 3) := by decide +kernel
theorem dM_body_17 : decode mM_body.2.1 17 = .ok (.iload_n 1, 1) := by decide +kernel
theorem dM_body_18 : decode mM_body.2.1 18 = .ok (.iastore, 1) := by decide +kernel
theorem dM_body_19 : decode mM_body.2.1 19 = .ok (.aload_n 0, 1) := by decide +kernel
theorem dM_body_20 : decode mM_body.2.1 20 = .ok (.dup, 1) := by decide +kernel
theorem dM_body_21 : decode mM_body.2.1 21 = .ok (.getfield 184, 3) := by decide +kernel
theorem dM_body_24 : decode mM_body.2.1 24 = .ok (.iconst 1, 1) := by decide +kernel
theorem dM_body_25 : decode mM_body.2.1 25 = .ok (.iadd, 1) := by decide +kernel
theorem dM_body_26 : decode mM_body.2.1 26 = .ok (.putfield 184, 3) := by decide +kernel
theorem dM_body_29 : decode mM_body.2.1 29 = .ok (.return_, 1) := by decide +kernel
theorem dM_envelopeSeals_0 : decode mM_envelopeSeals.2.1 0 = .ok (.aload_n 0, 1) := by decide +kernel
theorem dM_envelopeSeals_1 : decode mM_envelopeSeals.2.1 1 = .ok (.bipush 10, 2) := by decide +kernel
theorem dM_envelopeSeals_3 : decode mM_envelopeSeals.2.1 3 = .ok (.invokevirtual 356, 3) := by decide +kernel
theorem dM_envelopeSeals_6 : decode mM_envelopeSeals.2.1 6 = .ok (.iload_n 2, 1) := by decide +kernel
theorem dM_envelopeSeals_7 : decode mM_envelopeSeals.2.1 7 = .ok (.iload_n 1, 1) := by decide +kernel
theorem dM_envelopeSeals_8 : decode mM_envelopeSeals.2.1 8 = .ok (.iadd, 1) := by decide +kernel
theorem dM_envelopeSeals_9 : decode mM_envelopeSeals.2.1 9 = .ok (.ireturn, 1) := by decide +kernel
theorem dM_sealsAct_0 : decode mM_sealsAct.2.1 0 = .ok (.aload_n 0, 1) := by decide +kernel
theorem dM_sealsAct_1 : decode mM_sealsAct.2.1 1 = .ok (.getfield 26, 3) := by decide +kernel
theorem dM_sealsAct_4 : decode mM_sealsAct.2.1 4 = .ok (.iload_n 1, 1) := by decide +kernel
theorem dM_sealsAct_5 : decode mM_sealsAct.2.1 5 = .ok (.iaload, 1) := by decide +kernel
theorem dM_sealsAct_6 : decode mM_sealsAct.2.1 6 = .ok (.tableswitch 83 2 6 #[34, 83, 49, 34, 63], 34) := by decide +kernel
theorem dM_sealsAct_40 : decode mM_sealsAct.2.1 40 = .ok (.aload_n 0, 1) := by decide +kernel
theorem dM_sealsAct_41 : decode mM_sealsAct.2.1 41 = .ok (.bipush 30, 2) := by decide +kernel
theorem dM_sealsAct_43 : decode mM_sealsAct.2.1 43 = .ok (.invokevirtual 356, 3) := by decide +kernel
theorem dM_sealsAct_46 : decode mM_sealsAct.2.1 46 = .ok (.aload_n 0, 1) := by decide +kernel
theorem dM_sealsAct_47 : decode mM_sealsAct.2.1 47 = .ok (.iload_n 1, 1) := by decide +kernel
theorem dM_sealsAct_48 : decode mM_sealsAct.2.1 48 = .ok (.iload_n 2, 1) := by decide +kernel
theorem dM_sealsAct_49 : decode mM_sealsAct.2.1 49 = .ok (.iconst 3, 1) := by decide +kernel
theorem dM_sealsAct_50 : decode mM_sealsAct.2.1 50 = .ok (.imul, 1) := by decide +kernel
theorem dM_sealsAct_51 : decode mM_sealsAct.2.1 51 = .ok (.invokevirtual 359, 3) := by decide +kernel
theorem dM_sealsAct_54 : decode mM_sealsAct.2.1 54 = .ok (.ireturn, 1) := by decide +kernel
theorem dM_sealsAct_55 : decode mM_sealsAct.2.1 55 = .ok (.aload_n 0, 1) := by decide +kernel
theorem dM_sealsAct_56 : decode mM_sealsAct.2.1 56 = .ok (.bipush 50, 2) := by decide +kernel
theorem dM_sealsAct_58 : decode mM_sealsAct.2.1 58 = .ok (.invokevirtual 356, 3) := by decide +kernel
theorem dM_sealsAct_61 : decode mM_sealsAct.2.1 61 = .ok (.aload_n 0, 1) := by decide +kernel
theorem dM_sealsAct_62 : decode mM_sealsAct.2.1 62 = .ok (.iload_n 1, 1) := by decide +kernel
theorem dM_sealsAct_63 : decode mM_sealsAct.2.1 63 = .ok (.iload_n 2, 1) := by decide +kernel
theorem dM_sealsAct_64 : decode mM_sealsAct.2.1 64 = .ok (.invokevirtual 359, 3) := by decide +kernel
theorem dM_sealsAct_67 : decode mM_sealsAct.2.1 67 = .ok (.ineg, 1) := by decide +kernel
theorem dM_sealsAct_68 : decode mM_sealsAct.2.1 68 = .ok (.ireturn, 1) := by decide +kernel
theorem dM_sealsAct_69 : decode mM_sealsAct.2.1 69 = .ok (.aload_n 0, 1) := by decide +kernel
theorem dM_sealsAct_70 : decode mM_sealsAct.2.1 70 = .ok (.bipush 71, 2) := by decide +kernel
theorem dM_sealsAct_72 : decode mM_sealsAct.2.1 72 = .ok (.invokevirtual 356, 3) := by decide +kernel
theorem dM_sealsAct_75 : decode mM_sealsAct.2.1 75 = .ok (.aload_n 0, 1) := by decide +kernel
theorem dM_sealsAct_76 : decode mM_sealsAct.2.1 76 = .ok (.iload_n 1, 1) := by decide +kernel
theorem dM_sealsAct_77 : decode mM_sealsAct.2.1 77 = .ok (.iload_n 2, 1) := by decide +kernel
theorem dM_sealsAct_78 : decode mM_sealsAct.2.1 78 = .ok (.invokevirtual 359, 3) := by decide +kernel
theorem dM_sealsAct_81 : decode mM_sealsAct.2.1 81 = .ok (.aload_n 0, 1) := by decide +kernel
theorem dM_sealsAct_82 : decode mM_sealsAct.2.1 82 = .ok (.getfield 29, 3) := by decide +kernel
theorem dM_sealsAct_85 : decode mM_sealsAct.2.1 85 = .ok (.iload_n 1, 1) := by decide +kernel
theorem dM_sealsAct_86 : decode mM_sealsAct.2.1 86 = .ok (.iaload, 1) := by decide +kernel
theorem dM_sealsAct_87 : decode mM_sealsAct.2.1 87 = .ok (.ixor, 1) := by decide +kernel
theorem dM_sealsAct_88 : decode mM_sealsAct.2.1 88 = .ok (.ireturn, 1) := by decide +kernel
theorem dM_sealsAct_89 : decode mM_sealsAct.2.1 89 = .ok (.aload_n 0, 1) := by decide +kernel
theorem dM_sealsAct_90 : decode mM_sealsAct.2.1 90 = .ok (.iload_n 1, 1) := by decide +kernel
theorem dM_sealsAct_91 : decode mM_sealsAct.2.1 91 = .ok (.iload_n 2, 1) := by decide +kernel
theorem dM_sealsAct_92 : decode mM_sealsAct.2.1 92 = .ok (.invokevirtual 359, 3) := by decide +kernel
theorem dM_sealsAct_95 : decode mM_sealsAct.2.1 95 = .ok (.ireturn, 1) := by decide +kernel
theorem dM_envelopePays_0 : decode mM_envelopePays.2.1 0 = .ok (.aload_n 0, 1) := by decide +kernel
theorem dM_envelopePays_1 : decode mM_envelopePays.2.1 1 = .ok (.bipush 11, 2) := by decide +kernel
theorem dM_envelopePays_3 : decode mM_envelopePays.2.1 3 = .ok (.invokevirtual 356, 3) := by decide +kernel
theorem dM_envelopePays_6 : decode mM_envelopePays.2.1 6 = .ok (.aload_n 0, 1) := by decide +kernel
theorem dM_envelopePays_7 : decode mM_envelopePays.2.1 7 = .ok (.iload_n 1, 1) := by decide +kernel
theorem dM_envelopePays_8 : decode mM_envelopePays.2.1 8 = .ok (.iload_n 2, 1) := by decide +kernel
theorem dM_envelopePays_9 : decode mM_envelopePays.2.1 9 = .ok (.invokevirtual 362, 3) := by decide +kernel
theorem dM_envelopePays_12 : decode mM_envelopePays.2.1 12 = .ok (.aload_n 0, 1) := by decide +kernel
theorem dM_envelopePays_13 : decode mM_envelopePays.2.1 13 = .ok (.getfield 29, 3) := by decide +kernel
theorem dM_envelopePays_16 : decode mM_envelopePays.2.1 16 = .ok (.iload_n 1, 1) := by decide +kernel
theorem dM_envelopePays_17 : decode mM_envelopePays.2.1 17 = .ok (.iaload, 1) := by decide +kernel
theorem dM_envelopePays_18 : decode mM_envelopePays.2.1 18 = .ok (.isub, 1) := by decide +kernel
theorem dM_envelopePays_19 : decode mM_envelopePays.2.1 19 = .ok (.ireturn, 1) := by decide +kernel
theorem dM_nearPays_0 : decode mM_nearPays.2.1 0 = .ok (.aload_n 0, 1) := by decide +kernel
theorem dM_nearPays_1 : decode mM_nearPays.2.1 1 = .ok (.bipush 20, 2) := by decide +kernel
theorem dM_nearPays_3 : decode mM_nearPays.2.1 3 = .ok (.invokevirtual 356, 3) := by decide +kernel
theorem dM_nearPays_6 : decode mM_nearPays.2.1 6 = .ok (.aload_n 0, 1) := by decide +kernel
theorem dM_nearPays_7 : decode mM_nearPays.2.1 7 = .ok (.iload_n 1, 1) := by decide +kernel
theorem dM_nearPays_8 : decode mM_nearPays.2.1 8 = .ok (.iload_n 2, 1) := by decide +kernel
theorem dM_nearPays_9 : decode mM_nearPays.2.1 9 = .ok (.invokevirtual 365, 3) := by decide +kernel
theorem dM_nearPays_12 : decode mM_nearPays.2.1 12 = .ok (.bipush 6, 2) := by decide +kernel
theorem dM_nearPays_14 : decode mM_nearPays.2.1 14 = .ok (.ixor, 1) := by decide +kernel
theorem dM_nearPays_15 : decode mM_nearPays.2.1 15 = .ok (.ireturn, 1) := by decide +kernel
theorem dM_paysAct_0 : decode mM_paysAct.2.1 0 = .ok (.aload_n 0, 1) := by decide +kernel
theorem dM_paysAct_1 : decode mM_paysAct.2.1 1 = .ok (.getfield 26, 3) := by decide +kernel
theorem dM_paysAct_4 : decode mM_paysAct.2.1 4 = .ok (.iload_n 1, 1) := by decide +kernel
theorem dM_paysAct_5 : decode mM_paysAct.2.1 5 = .ok (.iaload, 1) := by decide +kernel
theorem dM_paysAct_6 : decode mM_paysAct.2.1 6 = .ok (.lookupswitch 78 #[(1, 34), (4, 41), (6, 56)], 34) := by decide +kernel
theorem dM_paysAct_40 : decode mM_paysAct.2.1 40 = .ok (.aload_n 0, 1) := by decide +kernel
theorem dM_paysAct_41 : decode mM_paysAct.2.1 41 = .ok (.iload_n 1, 1) := by decide +kernel
theorem dM_paysAct_42 : decode mM_paysAct.2.1 42 = .ok (.iload_n 2, 1) := by decide +kernel
theorem dM_paysAct_43 : decode mM_paysAct.2.1 43 = .ok (.invokevirtual 368, 3) := by decide +kernel
theorem dM_paysAct_46 : decode mM_paysAct.2.1 46 = .ok (.ireturn, 1) := by decide +kernel
theorem dM_paysAct_47 : decode mM_paysAct.2.1 47 = .ok (.aload_n 0, 1) := by decide +kernel
theorem dM_paysAct_48 : decode mM_paysAct.2.1 48 = .ok (.bipush 51, 2) := by decide +kernel
theorem dM_paysAct_50 : decode mM_paysAct.2.1 50 = .ok (.invokevirtual 356, 3) := by decide +kernel
theorem dM_paysAct_53 : decode mM_paysAct.2.1 53 = .ok (.aload_n 0, 1) := by decide +kernel
theorem dM_paysAct_54 : decode mM_paysAct.2.1 54 = .ok (.iload_n 1, 1) := by decide +kernel
theorem dM_paysAct_55 : decode mM_paysAct.2.1 55 = .ok (.iload_n 2, 1) := by decide +kernel
theorem dM_paysAct_56 : decode mM_paysAct.2.1 56 = .ok (.iconst 1, 1) := by decide +kernel
theorem dM_paysAct_57 : decode mM_paysAct.2.1 57 = .ok (.iadd, 1) := by decide +kernel
theorem dM_paysAct_58 : decode mM_paysAct.2.1 58 = .ok (.invokevirtual 368, 3) := by decide +kernel
theorem dM_paysAct_61 : decode mM_paysAct.2.1 61 = .ok (.ireturn, 1) := by decide +kernel
theorem dM_paysAct_62 : decode mM_paysAct.2.1 62 = .ok (.aload_n 0, 1) := by decide +kernel
theorem dM_paysAct_63 : decode mM_paysAct.2.1 63 = .ok (.bipush 70, 2) := by decide +kernel
theorem dM_paysAct_65 : decode mM_paysAct.2.1 65 = .ok (.invokevirtual 356, 3) := by decide +kernel
theorem dM_paysAct_68 : decode mM_paysAct.2.1 68 = .ok (.aload_n 0, 1) := by decide +kernel
theorem dM_paysAct_69 : decode mM_paysAct.2.1 69 = .ok (.iload_n 1, 1) := by decide +kernel
theorem dM_paysAct_70 : decode mM_paysAct.2.1 70 = .ok (.iload_n 2, 1) := by decide +kernel
theorem dM_paysAct_71 : decode mM_paysAct.2.1 71 = .ok (.invokevirtual 365, 3) := by decide +kernel
theorem dM_paysAct_74 : decode mM_paysAct.2.1 74 = .ok (.istore_n 3, 1) := by decide +kernel
theorem dM_paysAct_75 : decode mM_paysAct.2.1 75 = .ok (.iload_n 3, 1) := by decide +kernel
theorem dM_paysAct_76 : decode mM_paysAct.2.1 76 = .ok (.aload_n 0, 1) := by decide +kernel
theorem dM_paysAct_77 : decode mM_paysAct.2.1 77 = .ok (.iload_n 1, 1) := by decide +kernel
theorem dM_paysAct_78 : decode mM_paysAct.2.1 78 = .ok (.iconst 2, 1) := by decide +kernel
theorem dM_paysAct_79 : decode mM_paysAct.2.1 79 = .ok (.invokevirtual 359, 3) := by decide +kernel
theorem dM_paysAct_82 : decode mM_paysAct.2.1 82 = .ok (.iadd, 1) := by decide +kernel
theorem dM_paysAct_83 : decode mM_paysAct.2.1 83 = .ok (.ireturn, 1) := by decide +kernel
theorem dM_paysAct_84 : decode mM_paysAct.2.1 84 = .ok (.aload_n 0, 1) := by decide +kernel
theorem dM_paysAct_85 : decode mM_paysAct.2.1 85 = .ok (.iload_n 1, 1) := by decide +kernel
theorem dM_paysAct_86 : decode mM_paysAct.2.1 86 = .ok (.iload_n 2, 1) := by decide +kernel
theorem dM_paysAct_87 : decode mM_paysAct.2.1 87 = .ok (.invokevirtual 365, 3) := by decide +kernel
theorem dM_paysAct_90 : decode mM_paysAct.2.1 90 = .ok (.ireturn, 1) := by decide +kernel
theorem dM_envelopeTells_0 : decode mM_envelopeTells.2.1 0 = .ok (.aload_n 0, 1) := by decide +kernel
theorem dM_envelopeTells_1 : decode mM_envelopeTells.2.1 1 = .ok (.bipush 12, 2) := by decide +kernel
theorem dM_envelopeTells_3 : decode mM_envelopeTells.2.1 3 = .ok (.invokevirtual 356, 3) := by decide +kernel
theorem dM_envelopeTells_6 : decode mM_envelopeTells.2.1 6 = .ok (.aload_n 0, 1) := by decide +kernel
theorem dM_envelopeTells_7 : decode mM_envelopeTells.2.1 7 = .ok (.iload_n 1, 1) := by decide +kernel
theorem dM_envelopeTells_8 : decode mM_envelopeTells.2.1 8 = .ok (.iload_n 2, 1) := by decide +kernel
theorem dM_envelopeTells_9 : decode mM_envelopeTells.2.1 9 = .ok (.invokevirtual 371, 3) := by decide +kernel
theorem dM_envelopeTells_12 : decode mM_envelopeTells.2.1 12 = .ok (.iconst 2, 1) := by decide +kernel
theorem dM_envelopeTells_13 : decode mM_envelopeTells.2.1 13 = .ok (.imul, 1) := by decide +kernel
theorem dM_envelopeTells_14 : decode mM_envelopeTells.2.1 14 = .ok (.ireturn, 1) := by decide +kernel
theorem dM_tellsAct_0 : decode mM_tellsAct.2.1 0 = .ok (.aload_n 0, 1) := by decide +kernel
theorem dM_tellsAct_1 : decode mM_tellsAct.2.1 1 = .ok (.getfield 26, 3) := by decide +kernel
theorem dM_tellsAct_4 : decode mM_tellsAct.2.1 4 = .ok (.iload_n 1, 1) := by decide +kernel
theorem dM_tellsAct_5 : decode mM_tellsAct.2.1 5 = .ok (.iaload, 1) := by decide +kernel
theorem dM_tellsAct_6 : decode mM_tellsAct.2.1 6 = .ok (.tableswitch 67 3 6 #[30, 67, 52, 30], 30) := by decide +kernel
theorem dM_tellsAct_36 : decode mM_tellsAct.2.1 36 = .ok (.aload_n 0, 1) := by decide +kernel
theorem dM_tellsAct_37 : decode mM_tellsAct.2.1 37 = .ok (.bipush 40, 2) := by decide +kernel
theorem dM_tellsAct_39 : decode mM_tellsAct.2.1 39 = .ok (.invokevirtual 356, 3) := by decide +kernel
theorem dM_tellsAct_42 : decode mM_tellsAct.2.1 42 = .ok (.aload_n 0, 1) := by decide +kernel
theorem dM_tellsAct_43 : decode mM_tellsAct.2.1 43 = .ok (.iload_n 1, 1) := by decide +kernel
theorem dM_tellsAct_44 : decode mM_tellsAct.2.1 44 = .ok (.iload_n 2, 1) := by decide +kernel
theorem dM_tellsAct_45 : decode mM_tellsAct.2.1 45 = .ok (.invokevirtual 374, 3) := by decide +kernel
theorem dM_tellsAct_48 : decode mM_tellsAct.2.1 48 = .ok (.istore_n 3, 1) := by decide +kernel
theorem dM_tellsAct_49 : decode mM_tellsAct.2.1 49 = .ok (.iload_n 3, 1) := by decide +kernel
theorem dM_tellsAct_50 : decode mM_tellsAct.2.1 50 = .ok (.aload_n 0, 1) := by decide +kernel
theorem dM_tellsAct_51 : decode mM_tellsAct.2.1 51 = .ok (.iload_n 1, 1) := by decide +kernel
theorem dM_tellsAct_52 : decode mM_tellsAct.2.1 52 = .ok (.iconst 1, 1) := by decide +kernel
theorem dM_tellsAct_53 : decode mM_tellsAct.2.1 53 = .ok (.invokevirtual 371, 3) := by decide +kernel
theorem dM_tellsAct_56 : decode mM_tellsAct.2.1 56 = .ok (.iadd, 1) := by decide +kernel
theorem dM_tellsAct_57 : decode mM_tellsAct.2.1 57 = .ok (.ireturn, 1) := by decide +kernel
theorem dM_tellsAct_58 : decode mM_tellsAct.2.1 58 = .ok (.aload_n 0, 1) := by decide +kernel
theorem dM_tellsAct_59 : decode mM_tellsAct.2.1 59 = .ok (.bipush 60, 2) := by decide +kernel
theorem dM_tellsAct_61 : decode mM_tellsAct.2.1 61 = .ok (.invokevirtual 356, 3) := by decide +kernel
theorem dM_tellsAct_64 : decode mM_tellsAct.2.1 64 = .ok (.aload_n 0, 1) := by decide +kernel
theorem dM_tellsAct_65 : decode mM_tellsAct.2.1 65 = .ok (.iload_n 1, 1) := by decide +kernel
theorem dM_tellsAct_66 : decode mM_tellsAct.2.1 66 = .ok (.iload_n 2, 1) := by decide +kernel
theorem dM_tellsAct_67 : decode mM_tellsAct.2.1 67 = .ok (.iload_n 1, 1) := by decide +kernel
theorem dM_tellsAct_68 : decode mM_tellsAct.2.1 68 = .ok (.isub, 1) := by decide +kernel
theorem dM_tellsAct_69 : decode mM_tellsAct.2.1 69 = .ok (.invokevirtual 374, 3) := by decide +kernel
theorem dM_tellsAct_72 : decode mM_tellsAct.2.1 72 = .ok (.ireturn, 1) := by decide +kernel
theorem dM_tellsAct_73 : decode mM_tellsAct.2.1 73 = .ok (.aload_n 0, 1) := by decide +kernel
theorem dM_tellsAct_74 : decode mM_tellsAct.2.1 74 = .ok (.iload_n 1, 1) := by decide +kernel
theorem dM_tellsAct_75 : decode mM_tellsAct.2.1 75 = .ok (.iload_n 2, 1) := by decide +kernel
theorem dM_tellsAct_76 : decode mM_tellsAct.2.1 76 = .ok (.invokevirtual 374, 3) := by decide +kernel
theorem dM_tellsAct_79 : decode mM_tellsAct.2.1 79 = .ok (.ireturn, 1) := by decide +kernel
theorem dM_act_0 : decode mM_act.2.1 0 = .ok (.aload_n 0, 1) := by decide +kernel
theorem dM_act_1 : decode mM_act.2.1 1 = .ok (.iconst 0, 1) := by decide +kernel
theorem dM_act_2 : decode mM_act.2.1 2 = .ok (.putfield 184, 3) := by decide +kernel
theorem dM_act_5 : decode mM_act.2.1 5 = .ok (.aload_n 0, 1) := by decide +kernel
theorem dM_act_6 : decode mM_act.2.1 6 = .ok (.iload_n 1, 1) := by decide +kernel
theorem dM_act_7 : decode mM_act.2.1 7 = .ok (.invokevirtual 217, 3) := by decide +kernel
theorem dM_act_10 : decode mM_act.2.1 10 = .ok (.ifCond .eq 13, 3) := by decide +kernel
theorem dM_act_13 : decode mM_act.2.1 13 = .ok (.aload_n 0, 1) := by decide +kernel
theorem dM_act_14 : decode mM_act.2.1 14 = .ok (.iload_n 2, 1) := by decide +kernel
theorem dM_act_15 : decode mM_act.2.1 15 = .ok (.iconst 0, 1) := by decide +kernel
theorem dM_act_16 : decode mM_act.2.1 16 = .ok (.iconst 2, 1) := by decide +kernel
theorem dM_act_17 : decode mM_act.2.1 17 = .ok (.invokevirtual 203, 3) := by decide +kernel
theorem dM_act_20 : decode mM_act.2.1 20 = .ok (.ifCond .ne 5, 3) := by decide +kernel
theorem dM_act_23 : decode mM_act.2.1 23 = .ok (.iconst 0, 1) := by decide +kernel
theorem dM_act_24 : decode mM_act.2.1 24 = .ok (.ireturn, 1) := by decide +kernel
theorem dM_act_25 : decode mM_act.2.1 25 = .ok (.iload_n 2, 1) := by decide +kernel
theorem dM_act_26 : decode mM_act.2.1 26 = .ok (.ifCond .ne 12, 3) := by decide +kernel
theorem dM_act_29 : decode mM_act.2.1 29 = .ok (.aload_n 0, 1) := by decide +kernel
theorem dM_act_30 : decode mM_act.2.1 30 = .ok (.iload_n 1, 1) := by decide +kernel
theorem dM_act_31 : decode mM_act.2.1 31 = .ok (.iload_n 3, 1) := by decide +kernel
theorem dM_act_32 : decode mM_act.2.1 32 = .ok (.invokevirtual 362, 3) := by decide +kernel
theorem dM_act_35 : decode mM_act.2.1 35 = .ok (.goto 23, 3) := by decide +kernel
theorem dM_act_38 : decode mM_act.2.1 38 = .ok (.iload_n 2, 1) := by decide +kernel
theorem dM_act_39 : decode mM_act.2.1 39 = .ok (.iconst 1, 1) := by decide +kernel
theorem dM_act_40 : decode mM_act.2.1 40 = .ok (.if_icmp .ne 12, 3) := by decide +kernel
theorem dM_act_43 : decode mM_act.2.1 43 = .ok (.aload_n 0, 1) := by decide +kernel
theorem dM_act_44 : decode mM_act.2.1 44 = .ok (.iload_n 1, 1) := by decide +kernel
theorem dM_act_45 : decode mM_act.2.1 45 = .ok (.iload_n 3, 1) := by decide +kernel
theorem dM_act_46 : decode mM_act.2.1 46 = .ok (.invokevirtual 371, 3) := by decide +kernel
theorem dM_act_49 : decode mM_act.2.1 49 = .ok (.goto 9, 3) := by decide +kernel
theorem dM_act_52 : decode mM_act.2.1 52 = .ok (.aload_n 0, 1) := by decide +kernel
theorem dM_act_53 : decode mM_act.2.1 53 = .ok (.iload_n 1, 1) := by decide +kernel
theorem dM_act_54 : decode mM_act.2.1 54 = .ok (.iload_n 3, 1) := by decide +kernel
theorem dM_act_55 : decode mM_act.2.1 55 = .ok (.invokevirtual 377, 3) := by decide +kernel
theorem dM_act_58 : decode mM_act.2.1 58 = .ok (.ireturn, 1) := by decide +kernel
theorem dM_trace_0 : decode mM_trace.2.1 0 = .ok (.aload_n 0, 1) := by decide +kernel
theorem dM_trace_1 : decode mM_trace.2.1 1 = .ok (.iload_n 1, 1) := by decide +kernel
theorem dM_trace_2 : decode mM_trace.2.1 2 = .ok (.iconst 0, 1) := by decide +kernel
theorem dM_trace_3 : decode mM_trace.2.1 3 = .ok (.bipush 19, 2) := by decide +kernel
theorem dM_trace_5 : decode mM_trace.2.1 5 = .ok (.invokevirtual 203, 3) := by decide +kernel
theorem dM_trace_8 : decode mM_trace.2.1 8 = .ok (.ifCond .eq 20, 3) := by decide +kernel
theorem dM_trace_11 : decode mM_trace.2.1 11 = .ok (.iload_n 1, 1) := by decide +kernel
theorem dM_trace_12 : decode mM_trace.2.1 12 = .ok (.aload_n 0, 1) := by decide +kernel
theorem dM_trace_13 : decode mM_trace.2.1 13 = .ok (.getfield 184, 3) := by decide +kernel
theorem dM_trace_16 : decode mM_trace.2.1 16 = .ok (.if_icmp .ge 12, 3) := by decide +kernel
theorem dM_trace_19 : decode mM_trace.2.1 19 = .ok (.aload_n 0, 1) := by decide +kernel
theorem dM_trace_20 : decode mM_trace.2.1 20 = .ok (.getfield 187, 3) := by decide +kernel
theorem dM_trace_23 : decode mM_trace.2.1 23 = .ok (.iload_n 1, 1) := by decide +kernel
theorem dM_trace_24 : decode mM_trace.2.1 24 = .ok (.iaload, 1) := by decide +kernel
theorem dM_trace_25 : decode mM_trace.2.1 25 = .ok (.goto 4, 3) := by decide +kernel
theorem dM_trace_28 : decode mM_trace.2.1 28 = .ok (.iconst (-1), 1) := by decide +kernel
theorem dM_trace_29 : decode mM_trace.2.1 29 = .ok (.ireturn, 1) := by decide +kernel
theorem dM_taken_0 : decode mM_taken.2.1 0 = .ok (.aload_n 0, 1) := by decide +kernel
theorem dM_taken_1 : decode mM_taken.2.1 1 = .ok (.iload_n 2, 1) := by decide +kernel
theorem dM_taken_2 : decode mM_taken.2.1 2 = .ok (.iconst 0, 1) := by decide +kernel
theorem dM_taken_3 : decode mM_taken.2.1 3 = .ok (.bipush 6, 2) := by decide +kernel
theorem dM_taken_5 : decode mM_taken.2.1 5 = .ok (.invokevirtual 203, 3) := by decide +kernel
theorem dM_taken_8 : decode mM_taken.2.1 8 = .ok (.ifCond .ne 6, 3) := by decide +kernel
theorem dM_taken_11 : decode mM_taken.2.1 11 = .ok (.bipush (-2), 2) := by decide +kernel
theorem dM_taken_13 : decode mM_taken.2.1 13 = .ok (.ireturn, 1) := by decide +kernel
theorem dM_taken_14 : decode mM_taken.2.1 14 = .ok (.aload_n 0, 1) := by decide +kernel
theorem dM_taken_15 : decode mM_taken.2.1 15 = .ok (.iload_n 1, 1) := by decide +kernel
theorem dM_taken_16 : decode mM_taken.2.1 16 = .ok (.invokevirtual 217, 3) := by decide +kernel
theorem dM_taken_19 : decode mM_taken.2.1 19 = .ok (.ifCond .ne 6, 3) := by decide +kernel
theorem dM_taken_22 : decode mM_taken.2.1 22 = .ok (.bipush (-11), 2) := by decide +kernel
theorem dM_taken_24 : decode mM_taken.2.1 24 = .ok (.ireturn, 1) := by decide +kernel
theorem dM_taken_25 : decode mM_taken.2.1 25 = .ok (.aload_n 0, 1) := by decide +kernel
theorem dM_taken_26 : decode mM_taken.2.1 26 = .ok (.getfield 26, 3) := by decide +kernel
theorem dM_taken_29 : decode mM_taken.2.1 29 = .ok (.iload_n 1, 1) := by decide +kernel
theorem dM_taken_30 : decode mM_taken.2.1 30 = .ok (.iaload, 1) := by decide +kernel
theorem dM_taken_31 : decode mM_taken.2.1 31 = .ok (.istore_n 3, 1) := by decide +kernel
theorem dM_taken_32 : decode mM_taken.2.1 32 = .ok (.iload_n 2, 1) := by decide +kernel
theorem dM_taken_33 : decode mM_taken.2.1 33 = .ok (.ifCond .eq 39, 3) := by decide +kernel
theorem dM_taken_36 : decode mM_taken.2.1 36 = .ok (.iload_n 3, 1) := by decide +kernel
theorem dM_taken_37 : decode mM_taken.2.1 37 = .ok (.iload_n 2, 1) := by decide +kernel
theorem dM_taken_38 : decode mM_taken.2.1 38 = .ok (.if_icmp .eq 34, 3) := by decide +kernel
theorem dM_taken_41 : decode mM_taken.2.1 41 = .ok (.iload_n 2, 1) := by decide +kernel
theorem dM_taken_42 : decode mM_taken.2.1 42 = .ok (.iconst 1, 1) := by decide +kernel
theorem dM_taken_43 : decode mM_taken.2.1 43 = .ok (.if_icmp .ne 8, 3) := by decide +kernel
theorem dM_taken_46 : decode mM_taken.2.1 46 = .ok (.iload_n 3, 1) := by decide +kernel
theorem dM_taken_47 : decode mM_taken.2.1 47 = .ok (.iconst 4, 1) := by decide +kernel
theorem dM_taken_48 : decode mM_taken.2.1 48 = .ok (.if_icmp .eq 24, 3) := by decide +kernel
theorem dM_taken_51 : decode mM_taken.2.1 51 = .ok (.iload_n 2, 1) := by decide +kernel
theorem dM_taken_52 : decode mM_taken.2.1 52 = .ok (.iconst 2, 1) := by decide +kernel
theorem dM_taken_53 : decode mM_taken.2.1 53 = .ok (.if_icmp .ne 8, 3) := by decide +kernel
theorem dM_taken_56 : decode mM_taken.2.1 56 = .ok (.iload_n 3, 1) := by decide +kernel
theorem dM_taken_57 : decode mM_taken.2.1 57 = .ok (.iconst 5, 1) := by decide +kernel
theorem dM_taken_58 : decode mM_taken.2.1 58 = .ok (.if_icmp .eq 14, 3) := by decide +kernel
theorem dM_taken_61 : decode mM_taken.2.1 61 = .ok (.iload_n 2, 1) := by decide +kernel
theorem dM_taken_62 : decode mM_taken.2.1 62 = .ok (.iconst 3, 1) := by decide +kernel
theorem dM_taken_63 : decode mM_taken.2.1 63 = .ok (.if_icmp .ne 13, 3) := by decide +kernel
theorem dM_taken_66 : decode mM_taken.2.1 66 = .ok (.iload_n 3, 1) := by decide +kernel
theorem dM_taken_67 : decode mM_taken.2.1 67 = .ok (.bipush 6, 2) := by decide +kernel
theorem dM_taken_69 : decode mM_taken.2.1 69 = .ok (.if_icmp .ne 7, 3) := by decide +kernel
theorem dM_taken_72 : decode mM_taken.2.1 72 = .ok (.iload_n 3, 1) := by decide +kernel
theorem dM_taken_73 : decode mM_taken.2.1 73 = .ok (.goto 5, 3) := by decide +kernel
theorem dM_taken_76 : decode mM_taken.2.1 76 = .ok (.bipush (-12), 2) := by decide +kernel
theorem dM_taken_78 : decode mM_taken.2.1 78 = .ok (.ireturn, 1) := by decide +kernel
theorem dM_count_0 : decode mM_count.2.1 0 = .ok (.iload_n 1, 1) := by decide +kernel
theorem dM_count_1 : decode mM_count.2.1 1 = .ok (.tableswitch 78 0 6 #[43, 48, 53, 58, 63, 68, 73], 43) := by decide +kernel
theorem dM_count_44 : decode mM_count.2.1 44 = .ok (.aload_n 0, 1) := by decide +kernel
theorem dM_count_45 : decode mM_count.2.1 45 = .ok (.getfield 13, 3) := by decide +kernel
theorem dM_count_48 : decode mM_count.2.1 48 = .ok (.ireturn, 1) := by decide +kernel
theorem dM_count_49 : decode mM_count.2.1 49 = .ok (.aload_n 0, 1) := by decide +kernel
theorem dM_count_50 : decode mM_count.2.1 50 = .ok (.getfield 7, 3) := by decide +kernel
theorem dM_count_53 : decode mM_count.2.1 53 = .ok (.ireturn, 1) := by decide +kernel
theorem dM_count_54 : decode mM_count.2.1 54 = .ok (.aload_n 0, 1) := by decide +kernel
theorem dM_count_55 : decode mM_count.2.1 55 = .ok (.getfield 44, 3) := by decide +kernel
theorem dM_count_58 : decode mM_count.2.1 58 = .ok (.ireturn, 1) := by decide +kernel
theorem dM_count_59 : decode mM_count.2.1 59 = .ok (.aload_n 0, 1) := by decide +kernel
theorem dM_count_60 : decode mM_count.2.1 60 = .ok (.getfield 102, 3) := by decide +kernel
theorem dM_count_63 : decode mM_count.2.1 63 = .ok (.ireturn, 1) := by decide +kernel
theorem dM_count_64 : decode mM_count.2.1 64 = .ok (.aload_n 0, 1) := by decide +kernel
theorem dM_count_65 : decode mM_count.2.1 65 = .ok (.getfield 111, 3) := by decide +kernel
theorem dM_count_68 : decode mM_count.2.1 68 = .ok (.ireturn, 1) := by decide +kernel
theorem dM_count_69 : decode mM_count.2.1 69 = .ok (.aload_n 0, 1) := by decide +kernel
theorem dM_count_70 : decode mM_count.2.1 70 = .ok (.getfield 50, 3) := by decide +kernel
theorem dM_count_73 : decode mM_count.2.1 73 = .ok (.ireturn, 1) := by decide +kernel
theorem dM_count_74 : decode mM_count.2.1 74 = .ok (.aload_n 0, 1) := by decide +kernel
theorem dM_count_75 : decode mM_count.2.1 75 = .ok (.getfield 184, 3) := by decide +kernel
theorem dM_count_78 : decode mM_count.2.1 78 = .ok (.ireturn, 1) := by decide +kernel
theorem dM_count_79 : decode mM_count.2.1 79 = .ok (.bipush (-2), 2) := by decide +kernel
theorem dM_count_81 : decode mM_count.2.1 81 = .ok (.ireturn, 1) := by decide +kernel
theorem dM_isTape_0 : decode mM_isTape.2.1 0 = .ok (.aload_n 0, 1) := by decide +kernel
theorem dM_isTape_1 : decode mM_isTape.2.1 1 = .ok (.iload_n 1, 1) := by decide +kernel
theorem dM_isTape_2 : decode mM_isTape.2.1 2 = .ok (.iconst 0, 1) := by decide +kernel
theorem dM_isTape_3 : decode mM_isTape.2.1 3 = .ok (.iconst 5, 1) := by decide +kernel
theorem dM_isTape_4 : decode mM_isTape.2.1 4 = .ok (.invokevirtual 203, 3) := by decide +kernel
theorem dM_isTape_7 : decode mM_isTape.2.1 7 = .ok (.ireturn, 1) := by decide +kernel
theorem dM_tape_0 : decode mM_tape.2.1 0 = .ok (.aload_n 0, 1) := by decide +kernel
theorem dM_tape_1 : decode mM_tape.2.1 1 = .ok (.iload_n 1, 1) := by decide +kernel
theorem dM_tape_2 : decode mM_tape.2.1 2 = .ok (.invokevirtual 353, 3) := by decide +kernel
theorem dM_tape_5 : decode mM_tape.2.1 5 = .ok (.ifCond .ne 5, 3) := by decide +kernel
theorem dM_tape_8 : decode mM_tape.2.1 8 = .ok (.iconst (-1), 1) := by decide +kernel
theorem dM_tape_9 : decode mM_tape.2.1 9 = .ok (.ireturn, 1) := by decide +kernel
theorem dM_tape_10 : decode mM_tape.2.1 10 = .ok (.aload_n 0, 1) := by decide +kernel
theorem dM_tape_11 : decode mM_tape.2.1 11 = .ok (.iload_n 2, 1) := by decide +kernel
theorem dM_tape_12 : decode mM_tape.2.1 12 = .ok (.iconst (-1), 1) := by decide +kernel
theorem dM_tape_13 : decode mM_tape.2.1 13 = .ok (.iconst 4, 1) := by decide +kernel
theorem dM_tape_14 : decode mM_tape.2.1 14 = .ok (.invokevirtual 203, 3) := by decide +kernel
theorem dM_tape_17 : decode mM_tape.2.1 17 = .ok (.ifCond .eq 13, 3) := by decide +kernel
theorem dM_tape_20 : decode mM_tape.2.1 20 = .ok (.iload_n 2, 1) := by decide +kernel
theorem dM_tape_21 : decode mM_tape.2.1 21 = .ok (.ifCond .lt 12, 3) := by decide +kernel
theorem dM_tape_24 : decode mM_tape.2.1 24 = .ok (.iload_n 3, 1) := by decide +kernel
theorem dM_tape_25 : decode mM_tape.2.1 25 = .ok (.bipush 60, 2) := by decide +kernel
theorem dM_tape_27 : decode mM_tape.2.1 27 = .ok (.if_icmp .le 6, 3) := by decide +kernel
theorem dM_tape_30 : decode mM_tape.2.1 30 = .ok (.bipush (-2), 2) := by decide +kernel
theorem dM_tape_32 : decode mM_tape.2.1 32 = .ok (.ireturn, 1) := by decide +kernel
theorem dM_tape_33 : decode mM_tape.2.1 33 = .ok (.iload_n 2, 1) := by decide +kernel
theorem dM_tape_34 : decode mM_tape.2.1 34 = .ok (.ifCond .lt 10, 3) := by decide +kernel
theorem dM_tape_37 : decode mM_tape.2.1 37 = .ok (.iload_n 3, 1) := by decide +kernel
theorem dM_tape_38 : decode mM_tape.2.1 38 = .ok (.ifCond .ge 6, 3) := by decide +kernel
theorem dM_tape_41 : decode mM_tape.2.1 41 = .ok (.bipush (-14), 2) := by decide +kernel
theorem dM_tape_43 : decode mM_tape.2.1 43 = .ok (.ireturn, 1) := by decide +kernel
theorem dM_tape_44 : decode mM_tape.2.1 44 = .ok (.aload_n 0, 1) := by decide +kernel
theorem dM_tape_45 : decode mM_tape.2.1 45 = .ok (.getfield 190, 3) := by decide +kernel
theorem dM_tape_48 : decode mM_tape.2.1 48 = .ok (.iload_n 1, 1) := by decide +kernel
theorem dM_tape_49 : decode mM_tape.2.1 49 = .ok (.iload_n 2, 1) := by decide +kernel
theorem dM_tape_50 : decode mM_tape.2.1 50 = .ok (.iastore, 1) := by decide +kernel
theorem dM_tape_51 : decode mM_tape.2.1 51 = .ok (.aload_n 0, 1) := by decide +kernel
theorem dM_tape_52 : decode mM_tape.2.1 52 = .ok (.getfield 193, 3) := by decide +kernel
theorem dM_tape_55 : decode mM_tape.2.1 55 = .ok (.iload_n 1, 1) := by decide +kernel
theorem dM_tape_56 : decode mM_tape.2.1 56 = .ok (.iload_n 2, 1) := by decide +kernel
theorem dM_tape_57 : decode mM_tape.2.1 57 = .ok (.ifCond .ge 7, 3) := by decide +kernel
theorem dM_tape_60 : decode mM_tape.2.1 60 = .ok (.iconst 0, 1) := by decide +kernel
theorem dM_tape_61 : decode mM_tape.2.1 61 = .ok (.goto 4, 3) := by decide +kernel
theorem dM_tape_64 : decode mM_tape.2.1 64 = .ok (.iload_n 3, 1) := by decide +kernel
theorem dM_tape_65 : decode mM_tape.2.1 65 = .ok (.iastore, 1) := by decide +kernel
theorem dM_tape_66 : decode mM_tape.2.1 66 = .ok (.iconst 0, 1) := by decide +kernel
theorem dM_tape_67 : decode mM_tape.2.1 67 = .ok (.istore 4, 2) := by decide +kernel
theorem dM_tape_69 : decode mM_tape.2.1 69 = .ok (.iload 4, 2) := by decide +kernel
theorem dM_tape_71 : decode mM_tape.2.1 71 = .ok (.bipush 60, 2) := by decide +kernel
theorem dM_tape_73 : decode mM_tape.2.1 73 = .ok (.if_icmp .ge 22, 3) := by decide +kernel
theorem dM_tape_76 : decode mM_tape.2.1 76 = .ok (.aload_n 0, 1) := by decide +kernel
theorem dM_tape_77 : decode mM_tape.2.1 77 = .ok (.getfield 196, 3) := by decide +kernel
theorem dM_tape_80 : decode mM_tape.2.1 80 = .ok (.bipush 60, 2) := by decide +kernel
theorem dM_tape_82 : decode mM_tape.2.1 82 = .ok (.iload_n 1, 1) := by decide +kernel
theorem dM_tape_83 : decode mM_tape.2.1 83 = .ok (.imul, 1) := by decide +kernel
theorem dM_tape_84 : decode mM_tape.2.1 84 = .ok (.iload 4, 2) := by decide +kernel
theorem dM_tape_86 : decode mM_tape.2.1 86 = .ok (.iadd, 1) := by decide +kernel
theorem dM_tape_87 : decode mM_tape.2.1 87 = .ok (.lconst 0, 1) := by decide +kernel
theorem dM_tape_88 : decode mM_tape.2.1 88 = .ok (.lastore, 1) := by decide +kernel
theorem dM_tape_89 : decode mM_tape.2.1 89 = .ok (.iinc 4 1, 3) := by decide +kernel
theorem dM_tape_92 : decode mM_tape.2.1 92 = .ok (.goto (-23), 3) := by decide +kernel
theorem dM_tape_95 : decode mM_tape.2.1 95 = .ok (.iconst 1, 1) := by decide +kernel
theorem dM_tape_96 : decode mM_tape.2.1 96 = .ok (.ireturn, 1) := by decide +kernel
theorem dM_narrow_0 : decode mM_narrow.2.1 0 = .ok (.iload_n 1, 1) := by decide +kernel
theorem dM_narrow_1 : decode mM_narrow.2.1 1 = .ok (.ifCond .ne 10, 3) := by decide +kernel
theorem dM_narrow_4 : decode mM_narrow.2.1 4 = .ok (.lload_n 2, 1) := by decide +kernel
theorem dM_narrow_5 : decode mM_narrow.2.1 5 = .ok (.l2i, 1) := by decide +kernel
theorem dM_narrow_6 : decode mM_narrow.2.1 6 = .ok (.i2b, 1) := by decide +kernel
theorem dM_narrow_7 : decode mM_narrow.2.1 7 = .ok (.i2l, 1) := by decide +kernel
theorem dM_narrow_8 : decode mM_narrow.2.1 8 = .ok (.goto 46, 3) := by decide +kernel
theorem dM_narrow_11 : decode mM_narrow.2.1 11 = .ok (.iload_n 1, 1) := by decide +kernel
theorem dM_narrow_12 : decode mM_narrow.2.1 12 = .ok (.iconst 1, 1) := by decide +kernel
theorem dM_narrow_13 : decode mM_narrow.2.1 13 = .ok (.if_icmp .ne 10, 3) := by decide +kernel
theorem dM_narrow_16 : decode mM_narrow.2.1 16 = .ok (.lload_n 2, 1) := by decide +kernel
theorem dM_narrow_17 : decode mM_narrow.2.1 17 = .ok (.l2i, 1) := by decide +kernel
theorem dM_narrow_18 : decode mM_narrow.2.1 18 = .ok (.i2s, 1) := by decide +kernel
theorem dM_narrow_19 : decode mM_narrow.2.1 19 = .ok (.i2l, 1) := by decide +kernel
theorem dM_narrow_20 : decode mM_narrow.2.1 20 = .ok (.goto 34, 3) := by decide +kernel
theorem dM_narrow_23 : decode mM_narrow.2.1 23 = .ok (.iload_n 1, 1) := by decide +kernel
theorem dM_narrow_24 : decode mM_narrow.2.1 24 = .ok (.iconst 2, 1) := by decide +kernel
theorem dM_narrow_25 : decode mM_narrow.2.1 25 = .ok (.if_icmp .ne 9, 3) := by decide +kernel
theorem dM_narrow_28 : decode mM_narrow.2.1 28 = .ok (.lload_n 2, 1) := by decide +kernel
theorem dM_narrow_29 : decode mM_narrow.2.1 29 = .ok (.l2i, 1) := by decide +kernel
theorem dM_narrow_30 : decode mM_narrow.2.1 30 = .ok (.i2l, 1) := by decide +kernel
theorem dM_narrow_31 : decode mM_narrow.2.1 31 = .ok (.goto 23, 3) := by decide +kernel
theorem dM_narrow_34 : decode mM_narrow.2.1 34 = .ok (.iload_n 1, 1) := by decide +kernel
theorem dM_narrow_35 : decode mM_narrow.2.1 35 = .ok (.iconst 4, 1) := by decide +kernel
theorem dM_narrow_36 : decode mM_narrow.2.1 36 = .ok (.if_icmp .ne 17, 3) := by decide +kernel
theorem dM_narrow_39 : decode mM_narrow.2.1 39 = .ok (.lload_n 2, 1) := by decide +kernel
theorem dM_narrow_40 : decode mM_narrow.2.1 40 = .ok (.lconst 0, 1) := by decide +kernel
theorem dM_narrow_41 : decode mM_narrow.2.1 41 = .ok (.lcmp, 1) := by decide +kernel
theorem dM_narrow_42 : decode mM_narrow.2.1 42 = .ok (.ifCond .eq 7, 3) := by decide +kernel
theorem dM_narrow_45 : decode mM_narrow.2.1 45 = .ok (.lconst 1, 1) := by decide +kernel
theorem dM_narrow_46 : decode mM_narrow.2.1 46 = .ok (.goto 8, 3) := by decide +kernel
theorem dM_narrow_49 : decode mM_narrow.2.1 49 = .ok (.lconst 0, 1) := by decide +kernel
theorem dM_narrow_50 : decode mM_narrow.2.1 50 = .ok (.goto 4, 3) := by decide +kernel
theorem dM_narrow_53 : decode mM_narrow.2.1 53 = .ok (.lload_n 2, 1) := by decide +kernel
theorem dM_narrow_54 : decode mM_narrow.2.1 54 = .ok (.lreturn, 1) := by decide +kernel
theorem dM_item_0 : decode mM_item.2.1 0 = .ok (.aload_n 0, 1) := by decide +kernel
theorem dM_item_1 : decode mM_item.2.1 1 = .ok (.iload_n 1, 1) := by decide +kernel
theorem dM_item_2 : decode mM_item.2.1 2 = .ok (.invokevirtual 353, 3) := by decide +kernel
theorem dM_item_5 : decode mM_item.2.1 5 = .ok (.ifCond .ne 5, 3) := by decide +kernel
theorem dM_item_8 : decode mM_item.2.1 8 = .ok (.iconst (-1), 1) := by decide +kernel
theorem dM_item_9 : decode mM_item.2.1 9 = .ok (.ireturn, 1) := by decide +kernel
theorem dM_item_10 : decode mM_item.2.1 10 = .ok (.aload_n 0, 1) := by decide +kernel
theorem dM_item_11 : decode mM_item.2.1 11 = .ok (.getfield 190, 3) := by decide +kernel
theorem dM_item_14 : decode mM_item.2.1 14 = .ok (.iload_n 1, 1) := by decide +kernel
theorem dM_item_15 : decode mM_item.2.1 15 = .ok (.iaload, 1) := by decide +kernel
theorem dM_item_16 : decode mM_item.2.1 16 = .ok (.ifCond .ge 6, 3) := by decide +kernel
theorem dM_item_19 : decode mM_item.2.1 19 = .ok (.bipush (-11), 2) := by decide +kernel
theorem dM_item_21 : decode mM_item.2.1 21 = .ok (.ireturn, 1) := by decide +kernel
theorem dM_item_22 : decode mM_item.2.1 22 = .ok (.aload_n 0, 1) := by decide +kernel
theorem dM_item_23 : decode mM_item.2.1 23 = .ok (.iload_n 2, 1) := by decide +kernel
theorem dM_item_24 : decode mM_item.2.1 24 = .ok (.iconst 0, 1) := by decide +kernel
theorem dM_item_25 : decode mM_item.2.1 25 = .ok (.aload_n 0, 1) := by decide +kernel
theorem dM_item_26 : decode mM_item.2.1 26 = .ok (.getfield 193, 3) := by decide +kernel
theorem dM_item_29 : decode mM_item.2.1 29 = .ok (.iload_n 1, 1) := by decide +kernel
theorem dM_item_30 : decode mM_item.2.1 30 = .ok (.iaload, 1) := by decide +kernel
theorem dM_item_31 : decode mM_item.2.1 31 = .ok (.iconst 1, 1) := by decide +kernel
theorem dM_item_32 : decode mM_item.2.1 32 = .ok (.isub, 1) := by decide +kernel
theorem dM_item_33 : decode mM_item.2.1 33 = .ok (.invokevirtual 203, 3) := by decide +kernel
theorem dM_item_36 : decode mM_item.2.1 36 = .ok (.ifCond .ne 6, 3) := by decide +kernel
theorem dM_item_39 : decode mM_item.2.1 39 = .ok (.bipush (-13), 2) := by decide +kernel
theorem dM_item_41 : decode mM_item.2.1 41 = .ok (.ireturn, 1) := by decide +kernel
theorem dM_item_42 : decode mM_item.2.1 42 = .ok (.aload_n 0, 1) := by decide +kernel
theorem dM_item_43 : decode mM_item.2.1 43 = .ok (.getfield 196, 3) := by decide +kernel
theorem dM_item_46 : decode mM_item.2.1 46 = .ok (.bipush 60, 2) := by decide +kernel
theorem dM_item_48 : decode mM_item.2.1 48 = .ok (.iload_n 1, 1) := by decide +kernel
theorem dM_item_49 : decode mM_item.2.1 49 = .ok (.imul, 1) := by decide +kernel
theorem dM_item_50 : decode mM_item.2.1 50 = .ok (.iload_n 2, 1) := by decide +kernel
theorem dM_item_51 : decode mM_item.2.1 51 = .ok (.iadd, 1) := by decide +kernel
theorem dM_item_52 : decode mM_item.2.1 52 = .ok (.aload_n 0, 1) := by decide +kernel
theorem dM_item_53 : decode mM_item.2.1 53 = .ok (.aload_n 0, 1) := by decide +kernel
theorem dM_item_54 : decode mM_item.2.1 54 = .ok (.getfield 190, 3) := by decide +kernel
theorem dM_item_57 : decode mM_item.2.1 57 = .ok (.iload_n 1, 1) := by decide +kernel
theorem dM_item_58 : decode mM_item.2.1 58 = .ok (.iaload, 1) := by decide +kernel
theorem dM_item_59 : decode mM_item.2.1 59 = .ok (.lload_n 3, 1) := by decide +kernel
theorem dM_item_60 : decode mM_item.2.1 60 = .ok (.invokevirtual 380, 3) := by decide +kernel
theorem dM_item_63 : decode mM_item.2.1 63 = .ok (.lastore, 1) := by decide +kernel
theorem dM_item_64 : decode mM_item.2.1 64 = .ok (.iconst 1, 1) := by decide +kernel
theorem dM_item_65 : decode mM_item.2.1 65 = .ok (.ireturn, 1) := by decide +kernel
theorem dM_read_0 : decode mM_read.2.1 0 = .ok (.aload_n 0, 1) := by decide +kernel
theorem dM_read_1 : decode mM_read.2.1 1 = .ok (.iload_n 1, 1) := by decide +kernel
theorem dM_read_2 : decode mM_read.2.1 2 = .ok (.invokevirtual 353, 3) := by decide +kernel
theorem dM_read_5 : decode mM_read.2.1 5 = .ok (.ifCond .eq 29, 3) := by decide +kernel
theorem dM_read_8 : decode mM_read.2.1 8 = .ok (.aload_n 0, 1) := by decide +kernel
theorem dM_read_9 : decode mM_read.2.1 9 = .ok (.getfield 190, 3) := by decide +kernel
theorem dM_read_12 : decode mM_read.2.1 12 = .ok (.iload_n 1, 1) := by decide +kernel
theorem dM_read_13 : decode mM_read.2.1 13 = .ok (.iaload, 1) := by decide +kernel
theorem dM_read_14 : decode mM_read.2.1 14 = .ok (.ifCond .lt 20, 3) := by decide +kernel
theorem dM_read_17 : decode mM_read.2.1 17 = .ok (.aload_n 0, 1) := by decide +kernel
theorem dM_read_18 : decode mM_read.2.1 18 = .ok (.iload_n 2, 1) := by decide +kernel
theorem dM_read_19 : decode mM_read.2.1 19 = .ok (.iconst 0, 1) := by decide +kernel
theorem dM_read_20 : decode mM_read.2.1 20 = .ok (.aload_n 0, 1) := by decide +kernel
theorem dM_read_21 : decode mM_read.2.1 21 = .ok (.getfield 193, 3) := by decide +kernel
theorem dM_read_24 : decode mM_read.2.1 24 = .ok (.iload_n 1, 1) := by decide +kernel
theorem dM_read_25 : decode mM_read.2.1 25 = .ok (.iaload, 1) := by decide +kernel
theorem dM_read_26 : decode mM_read.2.1 26 = .ok (.iconst 1, 1) := by decide +kernel
theorem dM_read_27 : decode mM_read.2.1 27 = .ok (.isub, 1) := by decide +kernel
theorem dM_read_28 : decode mM_read.2.1 28 = .ok (.invokevirtual 203, 3) := by decide +kernel
theorem dM_read_31 : decode mM_read.2.1 31 = .ok (.ifCond .ne 9, 3) := by decide +kernel
theorem dM_read_34 : decode mM_read.2.1 34 = .ok (.ldc2_w 324, 3) := by decide +kernel
theorem dM_read_37 : decode mM_read.2.1 37 = .ok (.goto 14, 3) := by decide +kernel
theorem dM_read_40 : decode mM_read.2.1 40 = .ok (.aload_n 0, 1) := by decide +kernel
theorem dM_read_41 : decode mM_read.2.1 41 = .ok (.getfield 196, 3) := by decide +kernel
theorem dM_read_44 : decode mM_read.2.1 44 = .ok (.bipush 60, 2) := by decide +kernel
theorem dM_read_46 : decode mM_read.2.1 46 = .ok (.iload_n 1, 1) := by decide +kernel
theorem dM_read_47 : decode mM_read.2.1 47 = .ok (.imul, 1) := by decide +kernel
theorem dM_read_48 : decode mM_read.2.1 48 = .ok (.iload_n 2, 1) := by decide +kernel
theorem dM_read_49 : decode mM_read.2.1 49 = .ok (.iadd, 1) := by decide +kernel
theorem dM_read_50 : decode mM_read.2.1 50 = .ok (.laload, 1) := by decide +kernel
theorem dM_read_51 : decode mM_read.2.1 51 = .ok (.lreturn, 1) := by decide +kernel
theorem dM_shift_0 : decode mM_shift.2.1 0 = .ok (.aload_n 0, 1) := by decide +kernel
theorem dM_shift_1 : decode mM_shift.2.1 1 = .ok (.iload_n 1, 1) := by decide +kernel
theorem dM_shift_2 : decode mM_shift.2.1 2 = .ok (.invokevirtual 353, 3) := by decide +kernel
theorem dM_shift_5 : decode mM_shift.2.1 5 = .ok (.ifCond .eq 11, 3) := by decide +kernel
theorem dM_shift_8 : decode mM_shift.2.1 8 = .ok (.aload_n 0, 1) := by decide +kernel
theorem dM_shift_9 : decode mM_shift.2.1 9 = .ok (.iload_n 3, 1) := by decide +kernel
theorem dM_shift_10 : decode mM_shift.2.1 10 = .ok (.invokevirtual 353, 3) := by decide +kernel
theorem dM_shift_13 : decode mM_shift.2.1 13 = .ok (.ifCond .ne 5, 3) := by decide +kernel
theorem dM_shift_16 : decode mM_shift.2.1 16 = .ok (.iconst (-1), 1) := by decide +kernel
theorem dM_shift_17 : decode mM_shift.2.1 17 = .ok (.ireturn, 1) := by decide +kernel
theorem dM_shift_18 : decode mM_shift.2.1 18 = .ok (.aload_n 0, 1) := by decide +kernel
theorem dM_shift_19 : decode mM_shift.2.1 19 = .ok (.getfield 190, 3) := by decide +kernel
theorem dM_shift_22 : decode mM_shift.2.1 22 = .ok (.iload_n 1, 1) := by decide +kernel
theorem dM_shift_23 : decode mM_shift.2.1 23 = .ok (.iaload, 1) := by decide +kernel
theorem dM_shift_24 : decode mM_shift.2.1 24 = .ok (.ifCond .lt 12, 3) := by decide +kernel
theorem dM_shift_27 : decode mM_shift.2.1 27 = .ok (.aload_n 0, 1) := by decide +kernel
theorem dM_shift_28 : decode mM_shift.2.1 28 = .ok (.getfield 190, 3) := by decide +kernel
theorem dM_shift_31 : decode mM_shift.2.1 31 = .ok (.iload_n 3, 1) := by decide +kernel
theorem dM_shift_32 : decode mM_shift.2.1 32 = .ok (.iaload, 1) := by decide +kernel
theorem dM_shift_33 : decode mM_shift.2.1 33 = .ok (.ifCond .ge 6, 3) := by decide +kernel
theorem dM_shift_36 : decode mM_shift.2.1 36 = .ok (.bipush (-11), 2) := by decide +kernel
theorem dM_shift_38 : decode mM_shift.2.1 38 = .ok (.ireturn, 1) := by decide +kernel
theorem dM_shift_39 : decode mM_shift.2.1 39 = .ok (.aload_n 0, 1) := by decide +kernel
theorem dM_shift_40 : decode mM_shift.2.1 40 = .ok (.getfield 190, 3) := by decide +kernel
theorem dM_shift_43 : decode mM_shift.2.1 43 = .ok (.iload_n 1, 1) := by decide +kernel
theorem dM_shift_44 : decode mM_shift.2.1 44 = .ok (.iaload, 1) := by decide +kernel
theorem dM_shift_45 : decode mM_shift.2.1 45 = .ok (.aload_n 0, 1) := by decide +kernel
theorem dM_shift_46 : decode mM_shift.2.1 46 = .ok (.getfield 190, 3) := by decide +kernel
theorem dM_shift_49 : decode mM_shift.2.1 49 = .ok (.iload_n 3, 1) := by decide +kernel
theorem dM_shift_50 : decode mM_shift.2.1 50 = .ok (.iaload, 1) := by decide +kernel
theorem dM_shift_51 : decode mM_shift.2.1 51 = .ok (.if_icmp .eq 6, 3) := by decide +kernel
theorem dM_shift_54 : decode mM_shift.2.1 54 = .ok (.bipush (-12), 2) := by decide +kernel
theorem dM_shift_56 : decode mM_shift.2.1 56 = .ok (.ireturn, 1) := by decide +kernel
theorem dM_shift_57 : decode mM_shift.2.1 57 = .ok (.iload 5, 2) := by decide +kernel
theorem dM_shift_59 : decode mM_shift.2.1 59 = .ok (.ifCond .lt 39, 3) := by decide +kernel
theorem dM_shift_62 : decode mM_shift.2.1 62 = .ok (.iload_n 2, 1) := by decide +kernel
theorem dM_shift_63 : decode mM_shift.2.1 63 = .ok (.ifCond .lt 35, 3) := by decide +kernel
theorem dM_shift_66 : decode mM_shift.2.1 66 = .ok (.iload 4, 2) := by decide +kernel
theorem dM_shift_68 : decode mM_shift.2.1 68 = .ok (.ifCond .lt 30, 3) := by decide +kernel
theorem dM_shift_71 : decode mM_shift.2.1 71 = .ok (.iload_n 2, 1) := by decide +kernel
theorem dM_shift_72 : decode mM_shift.2.1 72 = .ok (.aload_n 0, 1) := by decide +kernel
theorem dM_shift_73 : decode mM_shift.2.1 73 = .ok (.getfield 193, 3) := by decide +kernel
theorem dM_shift_76 : decode mM_shift.2.1 76 = .ok (.iload_n 1, 1) := by decide +kernel
theorem dM_shift_77 : decode mM_shift.2.1 77 = .ok (.iaload, 1) := by decide +kernel
theorem dM_shift_78 : decode mM_shift.2.1 78 = .ok (.iload 5, 2) := by decide +kernel
theorem dM_shift_80 : decode mM_shift.2.1 80 = .ok (.isub, 1) := by decide +kernel
theorem dM_shift_81 : decode mM_shift.2.1 81 = .ok (.if_icmp .gt 17, 3) := by decide +kernel
theorem dM_shift_84 : decode mM_shift.2.1 84 = .ok (.iload 4, 2) := by decide +kernel
theorem dM_shift_86 : decode mM_shift.2.1 86 = .ok (.aload_n 0, 1) := by decide +kernel
theorem dM_shift_87 : decode mM_shift.2.1 87 = .ok (.getfield 193, 3) := by decide +kernel
theorem dM_shift_90 : decode mM_shift.2.1 90 = .ok (.iload_n 3, 1) := by decide +kernel
theorem dM_shift_91 : decode mM_shift.2.1 91 = .ok (.iaload, 1) := by decide +kernel
theorem dM_shift_92 : decode mM_shift.2.1 92 = .ok (.iload 5, 2) := by decide +kernel
theorem dM_shift_94 : decode mM_shift.2.1 94 = .ok (.isub, 1) := by decide +kernel
theorem dM_shift_95 : decode mM_shift.2.1 95 = .ok (.if_icmp .le 6, 3) := by decide +kernel
theorem dM_shift_98 : decode mM_shift.2.1 98 = .ok (.bipush (-13), 2) := by decide +kernel
theorem dM_shift_100 : decode mM_shift.2.1 100 = .ok (.ireturn, 1) := by decide +kernel
theorem dM_shift_101 : decode mM_shift.2.1 101 = .ok (.iconst 0, 1) := by decide +kernel
theorem dM_shift_102 : decode mM_shift.2.1 102 = .ok (.istore 6, 2) := by decide +kernel
theorem dM_shift_104 : decode mM_shift.2.1 104 = .ok (.iload 6, 2) := by decide +kernel
theorem dM_shift_106 : decode mM_shift.2.1 106 = .ok (.iload 5, 2) := by decide +kernel
theorem dM_shift_108 : decode mM_shift.2.1 108 = .ok (.if_icmp .ge 30, 3) := by decide +kernel
theorem dM_shift_111 : decode mM_shift.2.1 111 = .ok (.aload_n 0, 1) := by decide +kernel
theorem dM_shift_112 : decode mM_shift.2.1 112 = .ok (.getfield 200, 3) := by decide +kernel
theorem dM_shift_115 : decode mM_shift.2.1 115 = .ok (.iload 6, 2) := by decide +kernel
theorem dM_shift_117 : decode mM_shift.2.1 117 = .ok (.aload_n 0, 1) := by decide +kernel
theorem dM_shift_118 : decode mM_shift.2.1 118 = .ok (.getfield 196, 3) := by decide +kernel
theorem dM_shift_121 : decode mM_shift.2.1 121 = .ok (.bipush 60, 2) := by decide +kernel
theorem dM_shift_123 : decode mM_shift.2.1 123 = .ok (.iload_n 1, 1) := by decide +kernel
theorem dM_shift_124 : decode mM_shift.2.1 124 = .ok (.imul, 1) := by decide +kernel
theorem dM_shift_125 : decode mM_shift.2.1 125 = .ok (.iload_n 2, 1) := by decide +kernel
theorem dM_shift_126 : decode mM_shift.2.1 126 = .ok (.iadd, 1) := by decide +kernel
theorem dM_shift_127 : decode mM_shift.2.1 127 = .ok (.iload 6, 2) := by decide +kernel
theorem dM_shift_129 : decode mM_shift.2.1 129 = .ok (.iadd, 1) := by decide +kernel
theorem dM_shift_130 : decode mM_shift.2.1 130 = .ok (.laload, 1) := by decide +kernel
theorem dM_shift_131 : decode mM_shift.2.1 131 = .ok (.lastore, 1) := by decide +kernel
theorem dM_shift_132 : decode mM_shift.2.1 132 = .ok (.iinc 6 1, 3) := by decide +kernel
theorem dM_shift_135 : decode mM_shift.2.1 135 = .ok (.goto (-31), 3) := by decide +kernel
theorem dM_shift_138 : decode mM_shift.2.1 138 = .ok (.iconst 0, 1) := by decide +kernel
theorem dM_shift_139 : decode mM_shift.2.1 139 = .ok (.istore 6, 2) := by decide +kernel
theorem dM_shift_141 : decode mM_shift.2.1 141 = .ok (.iload 6, 2) := by decide +kernel
theorem dM_shift_143 : decode mM_shift.2.1 143 = .ok (.iload 5, 2) := by decide +kernel
theorem dM_shift_145 : decode mM_shift.2.1 145 = .ok (.if_icmp .ge 31, 3) := by decide +kernel
theorem dM_shift_148 : decode mM_shift.2.1 148 = .ok (.aload_n 0, 1) := by decide +kernel
theorem dM_shift_149 : decode mM_shift.2.1 149 = .ok (.getfield 196, 3) := by decide +kernel
theorem dM_shift_152 : decode mM_shift.2.1 152 = .ok (.bipush 60, 2) := by decide +kernel
theorem dM_shift_154 : decode mM_shift.2.1 154 = .ok (.iload_n 3, 1) := by decide +kernel
theorem dM_shift_155 : decode mM_shift.2.1 155 = .ok (.imul, 1) := by decide +kernel
theorem dM_shift_156 : decode mM_shift.2.1 156 = .ok (.iload 4, 2) := by decide +kernel
theorem dM_shift_158 : decode mM_shift.2.1 158 = .ok (.iadd, 1) := by decide +kernel
theorem dM_shift_159 : decode mM_shift.2.1 159 = .ok (.iload 6, 2) := by decide +kernel
theorem dM_shift_161 : decode mM_shift.2.1 161 = .ok (.iadd, 1) := by decide +kernel
theorem dM_shift_162 : decode mM_shift.2.1 162 = .ok (.aload_n 0, 1) := by decide +kernel
theorem dM_shift_163 : decode mM_shift.2.1 163 = .ok (.getfield 200, 3) := by decide +kernel
theorem dM_shift_166 : decode mM_shift.2.1 166 = .ok (.iload 6, 2) := by decide +kernel
theorem dM_shift_168 : decode mM_shift.2.1 168 = .ok (.laload, 1) := by decide +kernel
theorem dM_shift_169 : decode mM_shift.2.1 169 = .ok (.lastore, 1) := by decide +kernel
theorem dM_shift_170 : decode mM_shift.2.1 170 = .ok (.iinc 6 1, 3) := by decide +kernel
theorem dM_shift_173 : decode mM_shift.2.1 173 = .ok (.goto (-32), 3) := by decide +kernel
theorem dM_shift_176 : decode mM_shift.2.1 176 = .ok (.iload 5, 2) := by decide +kernel
theorem dM_shift_178 : decode mM_shift.2.1 178 = .ok (.ireturn, 1) := by decide +kernel
