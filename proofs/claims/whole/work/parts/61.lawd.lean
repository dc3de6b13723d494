theorem d_L_law_0 : decode b_L_law 0 = .ok (.new 7, 3) := by decide +kernel
theorem d_L_law_3 : decode b_L_law 3 = .ok (.dup, 1) := by decide +kernel
theorem d_L_law_4 : decode b_L_law 4 = .ok (.invokespecial 9, 3) := by decide +kernel
theorem d_L_law_7 : decode b_L_law 7 = .ok (.astore_n 1, 1) := by decide +kernel
theorem d_L_law_8 : decode b_L_law 8 = .ok (.new 10, 3) := by decide +kernel
theorem d_L_law_11 : decode b_L_law 11 = .ok (.dup, 1) := by decide +kernel
theorem d_L_law_12 : decode b_L_law 12 = .ok (.invokespecial 12, 3) := by decide +kernel
theorem d_L_law_15 : decode b_L_law 15 = .ok (.astore_n 2, 1) := by decide +kernel
theorem d_L_law_16 : decode b_L_law 16 = .ok (.iconst 0, 1) := by decide +kernel
theorem d_L_law_17 : decode b_L_law 17 = .ok (.istore_n 3, 1) := by decide +kernel
theorem d_L_law_18 : decode b_L_law 18 = .ok (.iload_n 3, 1) := by decide +kernel
theorem d_L_law_19 : decode b_L_law 19 = .ok (.aload_n 0, 1) := by decide +kernel
theorem d_L_law_20 : decode b_L_law 20 = .ok (.arraylength, 1) := by decide +kernel
theorem d_L_law_21 : decode b_L_law 21 = .ok (.iconst 3, 1) := by decide +kernel
theorem d_L_law_22 : decode b_L_law 22 = .ok (.isub, 1) := by decide +kernel
theorem d_L_law_23 : decode b_L_law 23 = .ok (.if_icmp .gt 446, 3) := by decide +kernel
theorem d_L_law_26 : decode b_L_law 26 = .ok (.aload_n 0, 1) := by decide +kernel
theorem d_L_law_27 : decode b_L_law 27 = .ok (.iload_n 3, 1) := by decide +kernel
theorem d_L_law_28 : decode b_L_law 28 = .ok (.iaload, 1) := by decide +kernel
theorem d_L_law_29 : decode b_L_law 29 = .ok (.bipush 15, 2) := by decide +kernel
theorem d_L_law_31 : decode b_L_law 31 = .ok (.iand, 1) := by decide +kernel
theorem d_L_law_32 : decode b_L_law 32 = .ok (.tableswitch 431 0 13 #[72, 111, 144, 167, 190, 213, 226, 249, 282, 305, 338, 351, 375, 408], 72) := by decide +kernel
theorem d_L_law_104 : decode b_L_law 104 = .ok (.aload_n 1, 1) := by decide +kernel
theorem d_L_law_105 : decode b_L_law 105 = .ok (.aload_n 0, 1) := by decide +kernel
theorem d_L_law_106 : decode b_L_law 106 = .ok (.iload_n 3, 1) := by decide +kernel
theorem d_L_law_107 : decode b_L_law 107 = .ok (.iconst 1, 1) := by decide +kernel
theorem d_L_law_108 : decode b_L_law 108 = .ok (.iadd, 1) := by decide +kernel
theorem d_L_law_109 : decode b_L_law 109 = .ok (.iaload, 1) := by decide +kernel
theorem d_L_law_110 : decode b_L_law 110 = .ok (.ifCond .eq 7, 3) := by decide +kernel
theorem d_L_law_113 : decode b_L_law 113 = .ok (.iconst 1, 1) := by decide +kernel
theorem d_L_law_114 : decode b_L_law 114 = .ok (.goto 4, 3) := by decide +kernel
theorem d_L_law_117 : decode b_L_law 117 = .ok (.iconst 0, 1) := by decide +kernel
theorem d_L_law_118 : decode b_L_law 118 = .ok (.invokevirtual 13, 3) := by decide +kernel
theorem d_L_law_121 : decode b_L_law 121 = .ok (.aload_n 2, 1) := by decide +kernel
theorem d_L_law_122 : decode b_L_law 122 = .ok (.aload_n 0, 1) := by decide +kernel
theorem d_L_law_123 : decode b_L_law 123 = .ok (.iload_n 3, 1) := by decide +kernel
theorem d_L_law_124 : decode b_L_law 124 = .ok (.iconst 1, 1) := by decide +kernel
theorem d_L_law_125 : decode b_L_law 125 = .ok (.iadd, 1) := by decide +kernel
theorem d_L_law_126 : decode b_L_law 126 = .ok (.iaload, 1) := by decide +kernel
theorem d_L_law_127 : decode b_L_law 127 = .ok (.ifCond .eq 7, 3) := by decide +kernel
theorem d_L_law_130 : decode b_L_law 130 = .ok (.iconst 1, 1) := by decide +kernel
theorem d_L_law_131 : decode b_L_law 131 = .ok (.goto 4, 3) := by decide +kernel
theorem d_L_law_134 : decode b_L_law 134 = .ok (.iconst 0, 1) := by decide +kernel
theorem d_L_law_135 : decode b_L_law 135 = .ok (.invokevirtual 17, 3) := by decide +kernel
theorem d_L_law_138 : decode b_L_law 138 = .ok (.if_icmp .eq 325, 3) := by decide +kernel
theorem d_L_law_141 : decode b_L_law 141 = .ok (.iconst 0, 1) := by decide +kernel
theorem d_L_law_142 : decode b_L_law 142 = .ok (.ireturn, 1) := by decide +kernel
theorem d_L_law_143 : decode b_L_law 143 = .ok (.aload_n 1, 1) := by decide +kernel
theorem d_L_law_144 : decode b_L_law 144 = .ok (.aload_n 0, 1) := by decide +kernel
theorem d_L_law_145 : decode b_L_law 145 = .ok (.iload_n 3, 1) := by decide +kernel
theorem d_L_law_146 : decode b_L_law 146 = .ok (.iconst 1, 1) := by decide +kernel
theorem d_L_law_147 : decode b_L_law 147 = .ok (.iadd, 1) := by decide +kernel
theorem d_L_law_148 : decode b_L_law 148 = .ok (.iaload, 1) := by decide +kernel
theorem d_L_law_149 : decode b_L_law 149 = .ok (.aload_n 0, 1) := by decide +kernel
theorem d_L_law_150 : decode b_L_law 150 = .ok (.iload_n 3, 1) := by decide +kernel
theorem d_L_law_151 : decode b_L_law 151 = .ok (.iconst 2, 1) := by decide +kernel
theorem d_L_law_152 : decode b_L_law 152 = .ok (.iadd, 1) := by decide +kernel
theorem d_L_law_153 : decode b_L_law 153 = .ok (.iaload, 1) := by decide +kernel
theorem d_L_law_154 : decode b_L_law 154 = .ok (.invokevirtual 18, 3) := by decide +kernel
theorem d_L_law_157 : decode b_L_law 157 = .ok (.aload_n 2, 1) := by decide +kernel
theorem d_L_law_158 : decode b_L_law 158 = .ok (.aload_n 0, 1) := by decide +kernel
theorem d_L_law_159 : decode b_L_law 159 = .ok (.iload_n 3, 1) := by decide +kernel
theorem d_L_law_160 : decode b_L_law 160 = .ok (.iconst 1, 1) := by decide +kernel
theorem d_L_law_161 : decode b_L_law 161 = .ok (.iadd, 1) := by decide +kernel
theorem d_L_law_162 : decode b_L_law 162 = .ok (.iaload, 1) := by decide +kernel
theorem d_L_law_163 : decode b_L_law 163 = .ok (.aload_n 0, 1) := by decide +kernel
theorem d_L_law_164 : decode b_L_law 164 = .ok (.iload_n 3, 1) := by decide +kernel
theorem d_L_law_165 : decode b_L_law 165 = .ok (.iconst 2, 1) := by decide +kernel
theorem d_L_law_166 : decode b_L_law 166 = .ok (.iadd, 1) := by decide +kernel
theorem d_L_law_167 : decode b_L_law 167 = .ok (.iaload, 1) := by decide +kernel
theorem d_L_law_168 : decode b_L_law 168 = .ok (.invokevirtual 22, 3) := by decide +kernel
theorem d_L_law_171 : decode b_L_law 171 = .ok (.if_icmp .eq 292, 3) := by decide +kernel
theorem d_L_law_174 : decode b_L_law 174 = .ok (.iconst 0, 1) := by decide +kernel
theorem d_L_law_175 : decode b_L_law 175 = .ok (.ireturn, 1) := by decide +kernel
theorem d_L_law_176 : decode b_L_law 176 = .ok (.aload_n 1, 1) := by decide +kernel
theorem d_L_law_177 : decode b_L_law 177 = .ok (.aload_n 0, 1) := by decide +kernel
theorem d_L_law_178 : decode b_L_law 178 = .ok (.iload_n 3, 1) := by decide +kernel
theorem d_L_law_179 : decode b_L_law 179 = .ok (.iconst 1, 1) := by decide +kernel
theorem d_L_law_180 : decode b_L_law 180 = .ok (.iadd, 1) := by decide +kernel
theorem d_L_law_181 : decode b_L_law 181 = .ok (.iaload, 1) := by decide +kernel
theorem d_L_law_182 : decode b_L_law 182 = .ok (.invokevirtual 23, 3) := by decide +kernel
theorem d_L_law_185 : decode b_L_law 185 = .ok (.aload_n 2, 1) := by decide +kernel
theorem d_L_law_186 : decode b_L_law 186 = .ok (.aload_n 0, 1) := by decide +kernel
theorem d_L_law_187 : decode b_L_law 187 = .ok (.iload_n 3, 1) := by decide +kernel
theorem d_L_law_188 : decode b_L_law 188 = .ok (.iconst 1, 1) := by decide +kernel
theorem d_L_law_189 : decode b_L_law 189 = .ok (.iadd, 1) := by decide +kernel
theorem d_L_law_190 : decode b_L_law 190 = .ok (.iaload, 1) := by decide +kernel
theorem d_L_law_191 : decode b_L_law 191 = .ok (.invokevirtual 27, 3) := by decide +kernel
theorem d_L_law_194 : decode b_L_law 194 = .ok (.if_icmp .eq 269, 3) := by decide +kernel
theorem d_L_law_197 : decode b_L_law 197 = .ok (.iconst 0, 1) := by decide +kernel
theorem d_L_law_198 : decode b_L_law 198 = .ok (.ireturn, 1) := by decide +kernel
theorem d_L_law_199 : decode b_L_law 199 = .ok (.aload_n 1, 1) := by decide +kernel
theorem d_L_law_200 : decode b_L_law 200 = .ok (.aload_n 0, 1) := by decide +kernel
theorem d_L_law_201 : decode b_L_law 201 = .ok (.iload_n 3, 1) := by decide +kernel
theorem d_L_law_202 : decode b_L_law 202 = .ok (.iconst 1, 1) := by decide +kernel
theorem d_L_law_203 : decode b_L_law 203 = .ok (.iadd, 1) := by decide +kernel
theorem d_L_law_204 : decode b_L_law 204 = .ok (.iaload, 1) := by decide +kernel
theorem d_L_law_205 : decode b_L_law 205 = .ok (.invokevirtual 28, 3) := by decide +kernel
theorem d_L_law_208 : decode b_L_law 208 = .ok (.aload_n 2, 1) := by decide +kernel
theorem d_L_law_209 : decode b_L_law 209 = .ok (.aload_n 0, 1) := by decide +kernel
theorem d_L_law_210 : decode b_L_law 210 = .ok (.iload_n 3, 1) := by decide +kernel
theorem d_L_law_211 : decode b_L_law 211 = .ok (.iconst 1, 1) := by decide +kernel
theorem d_L_law_212 : decode b_L_law 212 = .ok (.iadd, 1) := by decide +kernel
theorem d_L_law_213 : decode b_L_law 213 = .ok (.iaload, 1) := by decide +kernel
theorem d_L_law_214 : decode b_L_law 214 = .ok (.invokevirtual 31, 3) := by decide +kernel
theorem d_L_law_217 : decode b_L_law 217 = .ok (.if_icmp .eq 246, 3) := by decide +kernel
theorem d_L_law_220 : decode b_L_law 220 = .ok (.iconst 0, 1) := by decide +kernel
theorem d_L_law_221 : decode b_L_law 221 = .ok (.ireturn, 1) := by decide +kernel
theorem d_L_law_222 : decode b_L_law 222 = .ok (.aload_n 1, 1) := by decide +kernel
theorem d_L_law_223 : decode b_L_law 223 = .ok (.aload_n 0, 1) := by decide +kernel
theorem d_L_law_224 : decode b_L_law 224 = .ok (.iload_n 3, 1) := by decide +kernel
theorem d_L_law_225 : decode b_L_law 225 = .ok (.iconst 1, 1) := by decide +kernel
theorem d_L_law_226 : decode b_L_law 226 = .ok (.iadd, 1) := by decide +kernel
theorem d_L_law_227 : decode b_L_law 227 = .ok (.iaload, 1) := by decide +kernel
theorem d_L_law_228 : decode b_L_law 228 = .ok (.invokevirtual 32, 3) := by decide +kernel
theorem d_L_law_231 : decode b_L_law 231 = .ok (.aload_n 2, 1) := by decide +kernel
theorem d_L_law_232 : decode b_L_law 232 = .ok (.aload_n 0, 1) := by decide +kernel
theorem d_L_law_233 : decode b_L_law 233 = .ok (.iload_n 3, 1) := by decide +kernel
theorem d_L_law_234 : decode b_L_law 234 = .ok (.iconst 1, 1) := by decide +kernel
theorem d_L_law_235 : decode b_L_law 235 = .ok (.iadd, 1) := by decide +kernel
theorem d_L_law_236 : decode b_L_law 236 = .ok (.iaload, 1) := by decide +kernel
theorem d_L_law_237 : decode b_L_law 237 = .ok (.invokevirtual 35, 3) := by decide +kernel
theorem d_L_law_240 : decode b_L_law 240 = .ok (.if_icmp .eq 223, 3) := by decide +kernel
theorem d_L_law_243 : decode b_L_law 243 = .ok (.iconst 0, 1) := by decide +kernel
theorem d_L_law_244 : decode b_L_law 244 = .ok (.ireturn, 1) := by decide +kernel
theorem d_L_law_245 : decode b_L_law 245 = .ok (.aload_n 1, 1) := by decide +kernel
theorem d_L_law_246 : decode b_L_law 246 = .ok (.invokevirtual 36, 3) := by decide +kernel
theorem d_L_law_249 : decode b_L_law 249 = .ok (.aload_n 2, 1) := by decide +kernel
theorem d_L_law_250 : decode b_L_law 250 = .ok (.invokevirtual 40, 3) := by decide +kernel
theorem d_L_law_253 : decode b_L_law 253 = .ok (.if_icmp .eq 210, 3) := by decide +kernel
theorem d_L_law_256 : decode b_L_law 256 = .ok (.iconst 0, 1) := by decide +kernel
theorem d_L_law_257 : decode b_L_law 257 = .ok (.ireturn, 1) := by decide +kernel
theorem d_L_law_258 : decode b_L_law 258 = .ok (.aload_n 1, 1) := by decide +kernel
theorem d_L_law_259 : decode b_L_law 259 = .ok (.aload_n 0, 1) := by decide +kernel
theorem d_L_law_260 : decode b_L_law 260 = .ok (.iload_n 3, 1) := by decide +kernel
theorem d_L_law_261 : decode b_L_law 261 = .ok (.iconst 1, 1) := by decide +kernel
theorem d_L_law_262 : decode b_L_law 262 = .ok (.iadd, 1) := by decide +kernel
theorem d_L_law_263 : decode b_L_law 263 = .ok (.iaload, 1) := by decide +kernel
theorem d_L_law_264 : decode b_L_law 264 = .ok (.invokevirtual 41, 3) := by decide +kernel
theorem d_L_law_267 : decode b_L_law 267 = .ok (.aload_n 2, 1) := by decide +kernel
theorem d_L_law_268 : decode b_L_law 268 = .ok (.aload_n 0, 1) := by decide +kernel
theorem d_L_law_269 : decode b_L_law 269 = .ok (.iload_n 3, 1) := by decide +kernel
theorem d_L_law_270 : decode b_L_law 270 = .ok (.iconst 1, 1) := by decide +kernel
theorem d_L_law_271 : decode b_L_law 271 = .ok (.iadd, 1) := by decide +kernel
theorem d_L_law_272 : decode b_L_law 272 = .ok (.iaload, 1) := by decide +kernel
theorem d_L_law_273 : decode b_L_law 273 = .ok (.invokevirtual 45, 3) := by decide +kernel
theorem d_L_law_276 : decode b_L_law 276 = .ok (.if_icmp .eq 187, 3) := by decide +kernel
theorem d_L_law_279 : decode b_L_law 279 = .ok (.iconst 0, 1) := by decide +kernel
theorem d_L_law_280 : decode b_L_law 280 = .ok (.ireturn, 1) := by decide +kernel
theorem d_L_law_281 : decode b_L_law 281 = .ok (.aload_n 1, 1) := by decide +kernel
theorem d_L_law_282 : decode b_L_law 282 = .ok (.aload_n 0, 1) := by decide +kernel
theorem d_L_law_283 : decode b_L_law 283 = .ok (.iload_n 3, 1) := by decide +kernel
theorem d_L_law_284 : decode b_L_law 284 = .ok (.iconst 1, 1) := by decide +kernel
theorem d_L_law_285 : decode b_L_law 285 = .ok (.iadd, 1) := by decide +kernel
theorem d_L_law_286 : decode b_L_law 286 = .ok (.iaload, 1) := by decide +kernel
theorem d_L_law_287 : decode b_L_law 287 = .ok (.aload_n 0, 1) := by decide +kernel
theorem d_L_law_288 : decode b_L_law 288 = .ok (.iload_n 3, 1) := by decide +kernel
theorem d_L_law_289 : decode b_L_law 289 = .ok (.iconst 2, 1) := by decide +kernel
theorem d_L_law_290 : decode b_L_law 290 = .ok (.iadd, 1) := by decide +kernel
theorem d_L_law_291 : decode b_L_law 291 = .ok (.iaload, 1) := by decide +kernel
theorem d_L_law_292 : decode b_L_law 292 = .ok (.invokevirtual 46, 3) := by decide +kernel
theorem d_L_law_295 : decode b_L_law 295 = .ok (.aload_n 2, 1) := by decide +kernel
theorem d_L_law_296 : decode b_L_law 296 = .ok (.aload_n 0, 1) := by decide +kernel
theorem d_L_law_297 : decode b_L_law 297 = .ok (.iload_n 3, 1) := by decide +kernel
theorem d_L_law_298 : decode b_L_law 298 = .ok (.iconst 1, 1) := by decide +kernel
theorem d_L_law_299 : decode b_L_law 299 = .ok (.iadd, 1) := by decide +kernel
theorem d_L_law_300 : decode b_L_law 300 = .ok (.iaload, 1) := by decide +kernel
theorem d_L_law_301 : decode b_L_law 301 = .ok (.aload_n 0, 1) := by decide +kernel
theorem d_L_law_302 : decode b_L_law 302 = .ok (.iload_n 3, 1) := by decide +kernel
theorem d_L_law_303 : decode b_L_law 303 = .ok (.iconst 2, 1) := by decide +kernel
theorem d_L_law_304 : decode b_L_law 304 = .ok (.iadd, 1) := by decide +kernel
theorem d_L_law_305 : decode b_L_law 305 = .ok (.iaload, 1) := by decide +kernel
theorem d_L_law_306 : decode b_L_law 306 = .ok (.invokevirtual 49, 3) := by decide +kernel
theorem d_L_law_309 : decode b_L_law 309 = .ok (.if_icmp .eq 154, 3) := by decide +kernel
theorem d_L_law_312 : decode b_L_law 312 = .ok (.iconst 0, 1) := by decide +kernel
theorem d_L_law_313 : decode b_L_law 313 = .ok (.ireturn, 1) := by decide +kernel
theorem d_L_law_314 : decode b_L_law 314 = .ok (.aload_n 1, 1) := by decide +kernel
theorem d_L_law_315 : decode b_L_law 315 = .ok (.aload_n 0, 1) := by decide +kernel
theorem d_L_law_316 : decode b_L_law 316 = .ok (.iload_n 3, 1) := by decide +kernel
theorem d_L_law_317 : decode b_L_law 317 = .ok (.iconst 1, 1) := by decide +kernel
theorem d_L_law_318 : decode b_L_law 318 = .ok (.iadd, 1) := by decide +kernel
theorem d_L_law_319 : decode b_L_law 319 = .ok (.iaload, 1) := by decide +kernel
theorem d_L_law_320 : decode b_L_law 320 = .ok (.invokevirtual 50, 3) := by decide +kernel
theorem d_L_law_323 : decode b_L_law 323 = .ok (.aload_n 2, 1) := by decide +kernel
theorem d_L_law_324 : decode b_L_law 324 = .ok (.aload_n 0, 1) := by decide +kernel
theorem d_L_law_325 : decode b_L_law 325 = .ok (.iload_n 3, 1) := by decide +kernel
theorem d_L_law_326 : decode b_L_law 326 = .ok (.iconst 1, 1) := by decide +kernel
theorem d_L_law_327 : decode b_L_law 327 = .ok (.iadd, 1) := by decide +kernel
theorem d_L_law_328 : decode b_L_law 328 = .ok (.iaload, 1) := by decide +kernel
theorem d_L_law_329 : decode b_L_law 329 = .ok (.invokevirtual 53, 3) := by decide +kernel
theorem d_L_law_332 : decode b_L_law 332 = .ok (.if_icmp .eq 131, 3) := by decide +kernel
theorem d_L_law_335 : decode b_L_law 335 = .ok (.iconst 0, 1) := by decide +kernel
theorem d_L_law_336 : decode b_L_law 336 = .ok (.ireturn, 1) := by decide +kernel
theorem d_L_law_337 : decode b_L_law 337 = .ok (.aload_n 1, 1) := by decide +kernel
theorem d_L_law_338 : decode b_L_law 338 = .ok (.aload_n 0, 1) := by decide +kernel
theorem d_L_law_339 : decode b_L_law 339 = .ok (.iload_n 3, 1) := by decide +kernel
theorem d_L_law_340 : decode b_L_law 340 = .ok (.iconst 1, 1) := by decide +kernel
theorem d_L_law_341 : decode b_L_law 341 = .ok (.iadd, 1) := by decide +kernel
theorem d_L_law_342 : decode b_L_law 342 = .ok (.iaload, 1) := by decide +kernel
theorem d_L_law_343 : decode b_L_law 343 = .ok (.aload_n 0, 1) := by decide +kernel
theorem d_L_law_344 : decode b_L_law 344 = .ok (.iload_n 3, 1) := by decide +kernel
theorem d_L_law_345 : decode b_L_law 345 = .ok (.iconst 2, 1) := by decide +kernel
theorem d_L_law_346 : decode b_L_law 346 = .ok (.iadd, 1) := by decide +kernel
theorem d_L_law_347 : decode b_L_law 347 = .ok (.iaload, 1) := by decide +kernel
theorem d_L_law_348 : decode b_L_law 348 = .ok (.invokevirtual 54, 3) := by decide +kernel
theorem d_L_law_351 : decode b_L_law 351 = .ok (.aload_n 2, 1) := by decide +kernel
theorem d_L_law_352 : decode b_L_law 352 = .ok (.aload_n 0, 1) := by decide +kernel
theorem d_L_law_353 : decode b_L_law 353 = .ok (.iload_n 3, 1) := by decide +kernel
theorem d_L_law_354 : decode b_L_law 354 = .ok (.iconst 1, 1) := by decide +kernel
theorem d_L_law_355 : decode b_L_law 355 = .ok (.iadd, 1) := by decide +kernel
theorem d_L_law_356 : decode b_L_law 356 = .ok (.iaload, 1) := by decide +kernel
theorem d_L_law_357 : decode b_L_law 357 = .ok (.aload_n 0, 1) := by decide +kernel
theorem d_L_law_358 : decode b_L_law 358 = .ok (.iload_n 3, 1) := by decide +kernel
theorem d_L_law_359 : decode b_L_law 359 = .ok (.iconst 2, 1) := by decide +kernel
theorem d_L_law_360 : decode b_L_law 360 = .ok (.iadd, 1) := by decide +kernel
theorem d_L_law_361 : decode b_L_law 361 = .ok (.iaload, 1) := by decide +kernel
theorem d_L_law_362 : decode b_L_law 362 = .ok (.invokevirtual 57, 3) := by decide +kernel
theorem d_L_law_365 : decode b_L_law 365 = .ok (.if_icmp .eq 98, 3) := by decide +kernel
theorem d_L_law_368 : decode b_L_law 368 = .ok (.iconst 0, 1) := by decide +kernel
theorem d_L_law_369 : decode b_L_law 369 = .ok (.ireturn, 1) := by decide +kernel
theorem d_L_law_370 : decode b_L_law 370 = .ok (.aload_n 1, 1) := by decide +kernel
theorem d_L_law_371 : decode b_L_law 371 = .ok (.invokevirtual 58, 3) := by decide +kernel
theorem d_L_law_374 : decode b_L_law 374 = .ok (.aload_n 2, 1) := by decide +kernel
theorem d_L_law_375 : decode b_L_law 375 = .ok (.invokevirtual 61, 3) := by decide +kernel
theorem d_L_law_378 : decode b_L_law 378 = .ok (.if_icmp .eq 85, 3) := by decide +kernel
theorem d_L_law_381 : decode b_L_law 381 = .ok (.iconst 0, 1) := by decide +kernel
theorem d_L_law_382 : decode b_L_law 382 = .ok (.ireturn, 1) := by decide +kernel
theorem d_L_law_383 : decode b_L_law 383 = .ok (.aload_n 1, 1) := by decide +kernel
theorem d_L_law_384 : decode b_L_law 384 = .ok (.aload_n 0, 1) := by decide +kernel
theorem d_L_law_385 : decode b_L_law 385 = .ok (.iload_n 3, 1) := by decide +kernel
theorem d_L_law_386 : decode b_L_law 386 = .ok (.iconst 1, 1) := by decide +kernel
theorem d_L_law_387 : decode b_L_law 387 = .ok (.iadd, 1) := by decide +kernel
theorem d_L_law_388 : decode b_L_law 388 = .ok (.iaload, 1) := by decide +kernel
theorem d_L_law_389 : decode b_L_law 389 = .ok (.invokevirtual 62, 3) := by decide +kernel
theorem d_L_law_392 : decode b_L_law 392 = .ok (.aload_n 2, 1) := by decide +kernel
theorem d_L_law_393 : decode b_L_law 393 = .ok (.aload_n 0, 1) := by decide +kernel
theorem d_L_law_394 : decode b_L_law 394 = .ok (.iload_n 3, 1) := by decide +kernel
theorem d_L_law_395 : decode b_L_law 395 = .ok (.iconst 1, 1) := by decide +kernel
theorem d_L_law_396 : decode b_L_law 396 = .ok (.iadd, 1) := by decide +kernel
theorem d_L_law_397 : decode b_L_law 397 = .ok (.iaload, 1) := by decide +kernel
theorem d_L_law_398 : decode b_L_law 398 = .ok (.invokevirtual 66, 3) := by decide +kernel
theorem d_L_law_401 : decode b_L_law 401 = .ok (.lcmp, 1) := by decide +kernel
theorem d_L_law_402 : decode b_L_law 402 = .ok (.ifCond .eq 61, 3) := by decide +kernel
theorem d_L_law_405 : decode b_L_law 405 = .ok (.iconst 0, 1) := by decide +kernel
theorem d_L_law_406 : decode b_L_law 406 = .ok (.ireturn, 1) := by decide +kernel
theorem d_L_law_407 : decode b_L_law 407 = .ok (.aload_n 1, 1) := by decide +kernel
theorem d_L_law_408 : decode b_L_law 408 = .ok (.aload_n 0, 1) := by decide +kernel
theorem d_L_law_409 : decode b_L_law 409 = .ok (.iload_n 3, 1) := by decide +kernel
theorem d_L_law_410 : decode b_L_law 410 = .ok (.iconst 1, 1) := by decide +kernel
theorem d_L_law_411 : decode b_L_law 411 = .ok (.iadd, 1) := by decide +kernel
theorem d_L_law_412 : decode b_L_law 412 = .ok (.iaload, 1) := by decide +kernel
theorem d_L_law_413 : decode b_L_law 413 = .ok (.aload_n 0, 1) := by decide +kernel
theorem d_L_law_414 : decode b_L_law 414 = .ok (.iload_n 3, 1) := by decide +kernel
theorem d_L_law_415 : decode b_L_law 415 = .ok (.iconst 2, 1) := by decide +kernel
theorem d_L_law_416 : decode b_L_law 416 = .ok (.iadd, 1) := by decide +kernel
theorem d_L_law_417 : decode b_L_law 417 = .ok (.iaload, 1) := by decide +kernel
theorem d_L_law_418 : decode b_L_law 418 = .ok (.invokevirtual 67, 3) := by decide +kernel
theorem d_L_law_421 : decode b_L_law 421 = .ok (.aload_n 2, 1) := by decide +kernel
theorem d_L_law_422 : decode b_L_law 422 = .ok (.aload_n 0, 1) := by decide +kernel
theorem d_L_law_423 : decode b_L_law 423 = .ok (.iload_n 3, 1) := by decide +kernel
theorem d_L_law_424 : decode b_L_law 424 = .ok (.iconst 1, 1) := by decide +kernel
theorem d_L_law_425 : decode b_L_law 425 = .ok (.iadd, 1) := by decide +kernel
theorem d_L_law_426 : decode b_L_law 426 = .ok (.iaload, 1) := by decide +kernel
theorem d_L_law_427 : decode b_L_law 427 = .ok (.aload_n 0, 1) := by decide +kernel
theorem d_L_law_428 : decode b_L_law 428 = .ok (.iload_n 3, 1) := by decide +kernel
theorem d_L_law_429 : decode b_L_law 429 = .ok (.iconst 2, 1) := by decide +kernel
theorem d_L_law_430 : decode b_L_law 430 = .ok (.iadd, 1) := by decide +kernel
theorem d_L_law_431 : decode b_L_law 431 = .ok (.iaload, 1) := by decide +kernel
theorem d_L_law_432 : decode b_L_law 432 = .ok (.invokevirtual 70, 3) := by decide +kernel
theorem d_L_law_435 : decode b_L_law 435 = .ok (.if_icmp .eq 28, 3) := by decide +kernel
theorem d_L_law_438 : decode b_L_law 438 = .ok (.iconst 0, 1) := by decide +kernel
theorem d_L_law_439 : decode b_L_law 439 = .ok (.ireturn, 1) := by decide +kernel
theorem d_L_law_440 : decode b_L_law 440 = .ok (.aload_n 1, 1) := by decide +kernel
theorem d_L_law_441 : decode b_L_law 441 = .ok (.aload_n 0, 1) := by decide +kernel
theorem d_L_law_442 : decode b_L_law 442 = .ok (.iload_n 3, 1) := by decide +kernel
theorem d_L_law_443 : decode b_L_law 443 = .ok (.iconst 1, 1) := by decide +kernel
theorem d_L_law_444 : decode b_L_law 444 = .ok (.iadd, 1) := by decide +kernel
theorem d_L_law_445 : decode b_L_law 445 = .ok (.iaload, 1) := by decide +kernel
theorem d_L_law_446 : decode b_L_law 446 = .ok (.invokevirtual 71, 3) := by decide +kernel
theorem d_L_law_449 : decode b_L_law 449 = .ok (.aload_n 2, 1) := by decide +kernel
theorem d_L_law_450 : decode b_L_law 450 = .ok (.aload_n 0, 1) := by decide +kernel
theorem d_L_law_451 : decode b_L_law 451 = .ok (.iload_n 3, 1) := by decide +kernel
theorem d_L_law_452 : decode b_L_law 452 = .ok (.iconst 1, 1) := by decide +kernel
theorem d_L_law_453 : decode b_L_law 453 = .ok (.iadd, 1) := by decide +kernel
theorem d_L_law_454 : decode b_L_law 454 = .ok (.iaload, 1) := by decide +kernel
theorem d_L_law_455 : decode b_L_law 455 = .ok (.invokevirtual 74, 3) := by decide +kernel
theorem d_L_law_458 : decode b_L_law 458 = .ok (.if_icmp .eq 5, 3) := by decide +kernel
theorem d_L_law_461 : decode b_L_law 461 = .ok (.iconst 0, 1) := by decide +kernel
theorem d_L_law_462 : decode b_L_law 462 = .ok (.ireturn, 1) := by decide +kernel
theorem d_L_law_463 : decode b_L_law 463 = .ok (.iinc 3 3, 3) := by decide +kernel
theorem d_L_law_466 : decode b_L_law 466 = .ok (.goto (-448), 3) := by decide +kernel
theorem d_L_law_469 : decode b_L_law 469 = .ok (.iconst 1, 1) := by decide +kernel
theorem d_L_law_470 : decode b_L_law 470 = .ok (.ireturn, 1) := by decide +kernel
