/-! the law: its rows and sites -/
abbrev c_Z_law : ByteArray := code
theorem d_Z_law_0 : decode c_Z_law 0 = .ok (.new 8, 3) := by decide +kernel
theorem d_Z_law_3 : decode c_Z_law 3 = .ok (.dup, 1) := by decide +kernel
theorem d_Z_law_4 : decode c_Z_law 4 = .ok (.aload_n 0, 1) := by decide +kernel
theorem d_Z_law_5 : decode c_Z_law 5 = .ok (.iconst 0, 1) := by decide +kernel
theorem d_Z_law_6 : decode c_Z_law 6 = .ok (.invokestatic 27, 3) := by decide +kernel
theorem d_Z_law_9 : decode c_Z_law 9 = .ok (.invokespecial 33, 3) := by decide +kernel
theorem d_Z_law_12 : decode c_Z_law 12 = .ok (.astore_n 1, 1) := by decide +kernel
theorem d_Z_law_13 : decode c_Z_law 13 = .ok (.new 36, 3) := by decide +kernel
theorem d_Z_law_16 : decode c_Z_law 16 = .ok (.dup, 1) := by decide +kernel
theorem d_Z_law_17 : decode c_Z_law 17 = .ok (.aload_n 0, 1) := by decide +kernel
theorem d_Z_law_18 : decode c_Z_law 18 = .ok (.iconst 0, 1) := by decide +kernel
theorem d_Z_law_19 : decode c_Z_law 19 = .ok (.invokestatic 27, 3) := by decide +kernel
theorem d_Z_law_22 : decode c_Z_law 22 = .ok (.invokespecial 38, 3) := by decide +kernel
theorem d_Z_law_25 : decode c_Z_law 25 = .ok (.astore_n 2, 1) := by decide +kernel
theorem d_Z_law_26 : decode c_Z_law 26 = .ok (.iconst 1, 1) := by decide +kernel
theorem d_Z_law_27 : decode c_Z_law 27 = .ok (.newarray .long, 2) := by decide +kernel
theorem d_Z_law_29 : decode c_Z_law 29 = .ok (.astore_n 3, 1) := by decide +kernel
theorem d_Z_law_30 : decode c_Z_law 30 = .ok (.iconst 1, 1) := by decide +kernel
theorem d_Z_law_31 : decode c_Z_law 31 = .ok (.istore 4, 2) := by decide +kernel
theorem d_Z_law_33 : decode c_Z_law 33 = .ok (.iload 4, 2) := by decide +kernel
theorem d_Z_law_35 : decode c_Z_law 35 = .ok (.aload_n 0, 1) := by decide +kernel
theorem d_Z_law_36 : decode c_Z_law 36 = .ok (.arraylength, 1) := by decide +kernel
theorem d_Z_law_37 : decode c_Z_law 37 = .ok (.iconst 4, 1) := by decide +kernel
theorem d_Z_law_38 : decode c_Z_law 38 = .ok (.isub, 1) := by decide +kernel
theorem d_Z_law_39 : decode c_Z_law 39 = .ok (.if_icmp .gt (741), 3) := by decide +kernel
theorem d_Z_law_42 : decode c_Z_law 42 = .ok (.aload_n 0, 1) := by decide +kernel
theorem d_Z_law_43 : decode c_Z_law 43 = .ok (.iload 4, 2) := by decide +kernel
theorem d_Z_law_45 : decode c_Z_law 45 = .ok (.iaload, 1) := by decide +kernel
theorem d_Z_law_46 : decode c_Z_law 46 = .ok (.bipush (31), 2) := by decide +kernel
theorem d_Z_law_48 : decode c_Z_law 48 = .ok (.iand, 1) := by decide +kernel
theorem d_Z_law_49 : decode c_Z_law 49 = .ok (.tableswitch (725) (0) (16) #[83, 108, 133, 213, 309, 377, 402, 427, 452, 477, 502, 527, 552, 565, 602, 639, 688], 83) := by decide +kernel
theorem d_Z_law_132 : decode c_Z_law 132 = .ok (.aload_n 1, 1) := by decide +kernel
theorem d_Z_law_133 : decode c_Z_law 133 = .ok (.aload_n 0, 1) := by decide +kernel
theorem d_Z_law_134 : decode c_Z_law 134 = .ok (.iload 4, 2) := by decide +kernel
theorem d_Z_law_136 : decode c_Z_law 136 = .ok (.iconst 1, 1) := by decide +kernel
theorem d_Z_law_137 : decode c_Z_law 137 = .ok (.iadd, 1) := by decide +kernel
theorem d_Z_law_138 : decode c_Z_law 138 = .ok (.iaload, 1) := by decide +kernel
theorem d_Z_law_139 : decode c_Z_law 139 = .ok (.invokevirtual 39, 3) := by decide +kernel
theorem d_Z_law_142 : decode c_Z_law 142 = .ok (.aload_n 2, 1) := by decide +kernel
theorem d_Z_law_143 : decode c_Z_law 143 = .ok (.aload_n 0, 1) := by decide +kernel
theorem d_Z_law_144 : decode c_Z_law 144 = .ok (.iload 4, 2) := by decide +kernel
theorem d_Z_law_146 : decode c_Z_law 146 = .ok (.iconst 1, 1) := by decide +kernel
theorem d_Z_law_147 : decode c_Z_law 147 = .ok (.iadd, 1) := by decide +kernel
theorem d_Z_law_148 : decode c_Z_law 148 = .ok (.iaload, 1) := by decide +kernel
theorem d_Z_law_149 : decode c_Z_law 149 = .ok (.invokevirtual 43, 3) := by decide +kernel
theorem d_Z_law_152 : decode c_Z_law 152 = .ok (.if_icmp .eq (622), 3) := by decide +kernel
theorem d_Z_law_155 : decode c_Z_law 155 = .ok (.iconst 0, 1) := by decide +kernel
theorem d_Z_law_156 : decode c_Z_law 156 = .ok (.ireturn, 1) := by decide +kernel
theorem d_Z_law_157 : decode c_Z_law 157 = .ok (.aload_n 1, 1) := by decide +kernel
theorem d_Z_law_158 : decode c_Z_law 158 = .ok (.aload_n 0, 1) := by decide +kernel
theorem d_Z_law_159 : decode c_Z_law 159 = .ok (.iload 4, 2) := by decide +kernel
theorem d_Z_law_161 : decode c_Z_law 161 = .ok (.iconst 1, 1) := by decide +kernel
theorem d_Z_law_162 : decode c_Z_law 162 = .ok (.iadd, 1) := by decide +kernel
theorem d_Z_law_163 : decode c_Z_law 163 = .ok (.iaload, 1) := by decide +kernel
theorem d_Z_law_164 : decode c_Z_law 164 = .ok (.invokevirtual 44, 3) := by decide +kernel
theorem d_Z_law_167 : decode c_Z_law 167 = .ok (.aload_n 2, 1) := by decide +kernel
theorem d_Z_law_168 : decode c_Z_law 168 = .ok (.aload_n 0, 1) := by decide +kernel
theorem d_Z_law_169 : decode c_Z_law 169 = .ok (.iload 4, 2) := by decide +kernel
theorem d_Z_law_171 : decode c_Z_law 171 = .ok (.iconst 1, 1) := by decide +kernel
theorem d_Z_law_172 : decode c_Z_law 172 = .ok (.iadd, 1) := by decide +kernel
theorem d_Z_law_173 : decode c_Z_law 173 = .ok (.iaload, 1) := by decide +kernel
theorem d_Z_law_174 : decode c_Z_law 174 = .ok (.invokevirtual 47, 3) := by decide +kernel
theorem d_Z_law_177 : decode c_Z_law 177 = .ok (.if_icmp .eq (597), 3) := by decide +kernel
theorem d_Z_law_180 : decode c_Z_law 180 = .ok (.iconst 0, 1) := by decide +kernel
theorem d_Z_law_181 : decode c_Z_law 181 = .ok (.ireturn, 1) := by decide +kernel
theorem d_Z_law_182 : decode c_Z_law 182 = .ok (.aload_n 1, 1) := by decide +kernel
theorem d_Z_law_183 : decode c_Z_law 183 = .ok (.aload_n 0, 1) := by decide +kernel
theorem d_Z_law_184 : decode c_Z_law 184 = .ok (.iload 4, 2) := by decide +kernel
theorem d_Z_law_186 : decode c_Z_law 186 = .ok (.iconst 1, 1) := by decide +kernel
theorem d_Z_law_187 : decode c_Z_law 187 = .ok (.iadd, 1) := by decide +kernel
theorem d_Z_law_188 : decode c_Z_law 188 = .ok (.iaload, 1) := by decide +kernel
theorem d_Z_law_189 : decode c_Z_law 189 = .ok (.aload_n 0, 1) := by decide +kernel
theorem d_Z_law_190 : decode c_Z_law 190 = .ok (.iload 4, 2) := by decide +kernel
theorem d_Z_law_192 : decode c_Z_law 192 = .ok (.iconst 2, 1) := by decide +kernel
theorem d_Z_law_193 : decode c_Z_law 193 = .ok (.iadd, 1) := by decide +kernel
theorem d_Z_law_194 : decode c_Z_law 194 = .ok (.iaload, 1) := by decide +kernel
theorem d_Z_law_195 : decode c_Z_law 195 = .ok (.aload_n 0, 1) := by decide +kernel
theorem d_Z_law_196 : decode c_Z_law 196 = .ok (.iload 4, 2) := by decide +kernel
theorem d_Z_law_198 : decode c_Z_law 198 = .ok (.iconst 3, 1) := by decide +kernel
theorem d_Z_law_199 : decode c_Z_law 199 = .ok (.iadd, 1) := by decide +kernel
theorem d_Z_law_200 : decode c_Z_law 200 = .ok (.iaload, 1) := by decide +kernel
theorem d_Z_law_201 : decode c_Z_law 201 = .ok (.aload_n 3, 1) := by decide +kernel
theorem d_Z_law_202 : decode c_Z_law 202 = .ok (.invokestatic 48, 3) := by decide +kernel
theorem d_Z_law_205 : decode c_Z_law 205 = .ok (.istore 5, 2) := by decide +kernel
theorem d_Z_law_207 : decode c_Z_law 207 = .ok (.aload_n 2, 1) := by decide +kernel
theorem d_Z_law_208 : decode c_Z_law 208 = .ok (.aload_n 0, 1) := by decide +kernel
theorem d_Z_law_209 : decode c_Z_law 209 = .ok (.iload 4, 2) := by decide +kernel
theorem d_Z_law_211 : decode c_Z_law 211 = .ok (.iconst 1, 1) := by decide +kernel
theorem d_Z_law_212 : decode c_Z_law 212 = .ok (.iadd, 1) := by decide +kernel
theorem d_Z_law_213 : decode c_Z_law 213 = .ok (.iaload, 1) := by decide +kernel
theorem d_Z_law_214 : decode c_Z_law 214 = .ok (.aload_n 0, 1) := by decide +kernel
theorem d_Z_law_215 : decode c_Z_law 215 = .ok (.iload 4, 2) := by decide +kernel
theorem d_Z_law_217 : decode c_Z_law 217 = .ok (.iconst 2, 1) := by decide +kernel
theorem d_Z_law_218 : decode c_Z_law 218 = .ok (.iadd, 1) := by decide +kernel
theorem d_Z_law_219 : decode c_Z_law 219 = .ok (.iaload, 1) := by decide +kernel
theorem d_Z_law_220 : decode c_Z_law 220 = .ok (.aload_n 0, 1) := by decide +kernel
theorem d_Z_law_221 : decode c_Z_law 221 = .ok (.iload 4, 2) := by decide +kernel
theorem d_Z_law_223 : decode c_Z_law 223 = .ok (.iconst 3, 1) := by decide +kernel
theorem d_Z_law_224 : decode c_Z_law 224 = .ok (.iadd, 1) := by decide +kernel
theorem d_Z_law_225 : decode c_Z_law 225 = .ok (.iaload, 1) := by decide +kernel
theorem d_Z_law_226 : decode c_Z_law 226 = .ok (.invokevirtual 51, 3) := by decide +kernel
theorem d_Z_law_229 : decode c_Z_law 229 = .ok (.istore 6, 2) := by decide +kernel
theorem d_Z_law_231 : decode c_Z_law 231 = .ok (.aload_n 2, 1) := by decide +kernel
theorem d_Z_law_232 : decode c_Z_law 232 = .ok (.invokevirtual 52, 3) := by decide +kernel
theorem d_Z_law_235 : decode c_Z_law 235 = .ok (.iload 5, 2) := by decide +kernel
theorem d_Z_law_237 : decode c_Z_law 237 = .ok (.if_icmp .eq (5), 3) := by decide +kernel
theorem d_Z_law_240 : decode c_Z_law 240 = .ok (.iconst 0, 1) := by decide +kernel
theorem d_Z_law_241 : decode c_Z_law 241 = .ok (.ireturn, 1) := by decide +kernel
theorem d_Z_law_242 : decode c_Z_law 242 = .ok (.iload 5, 2) := by decide +kernel
theorem d_Z_law_244 : decode c_Z_law 244 = .ok (.ifCond .ne (15), 3) := by decide +kernel
theorem d_Z_law_247 : decode c_Z_law 247 = .ok (.aload_n 3, 1) := by decide +kernel
theorem d_Z_law_248 : decode c_Z_law 248 = .ok (.iconst 0, 1) := by decide +kernel
theorem d_Z_law_249 : decode c_Z_law 249 = .ok (.laload, 1) := by decide +kernel
theorem d_Z_law_250 : decode c_Z_law 250 = .ok (.iload 6, 2) := by decide +kernel
theorem d_Z_law_252 : decode c_Z_law 252 = .ok (.i2l, 1) := by decide +kernel
theorem d_Z_law_253 : decode c_Z_law 253 = .ok (.lcmp, 1) := by decide +kernel
theorem d_Z_law_254 : decode c_Z_law 254 = .ok (.ifCond .eq (5), 3) := by decide +kernel
theorem d_Z_law_257 : decode c_Z_law 257 = .ok (.iconst 0, 1) := by decide +kernel
theorem d_Z_law_258 : decode c_Z_law 258 = .ok (.ireturn, 1) := by decide +kernel
theorem d_Z_law_259 : decode c_Z_law 259 = .ok (.goto (515), 3) := by decide +kernel
theorem d_Z_law_262 : decode c_Z_law 262 = .ok (.aload_n 1, 1) := by decide +kernel
theorem d_Z_law_263 : decode c_Z_law 263 = .ok (.aload_n 0, 1) := by decide +kernel
theorem d_Z_law_264 : decode c_Z_law 264 = .ok (.iload 4, 2) := by decide +kernel
theorem d_Z_law_266 : decode c_Z_law 266 = .ok (.iconst 1, 1) := by decide +kernel
theorem d_Z_law_267 : decode c_Z_law 267 = .ok (.iadd, 1) := by decide +kernel
theorem d_Z_law_268 : decode c_Z_law 268 = .ok (.iaload, 1) := by decide +kernel
theorem d_Z_law_269 : decode c_Z_law 269 = .ok (.aload_n 0, 1) := by decide +kernel
theorem d_Z_law_270 : decode c_Z_law 270 = .ok (.iload 4, 2) := by decide +kernel
theorem d_Z_law_272 : decode c_Z_law 272 = .ok (.iconst 2, 1) := by decide +kernel
theorem d_Z_law_273 : decode c_Z_law 273 = .ok (.iadd, 1) := by decide +kernel
theorem d_Z_law_274 : decode c_Z_law 274 = .ok (.iaload, 1) := by decide +kernel
theorem d_Z_law_275 : decode c_Z_law 275 = .ok (.aload_n 0, 1) := by decide +kernel
theorem d_Z_law_276 : decode c_Z_law 276 = .ok (.iload 4, 2) := by decide +kernel
theorem d_Z_law_278 : decode c_Z_law 278 = .ok (.iconst 3, 1) := by decide +kernel
theorem d_Z_law_279 : decode c_Z_law 279 = .ok (.iadd, 1) := by decide +kernel
theorem d_Z_law_280 : decode c_Z_law 280 = .ok (.iaload, 1) := by decide +kernel
theorem d_Z_law_281 : decode c_Z_law 281 = .ok (.ifCond .eq (7), 3) := by decide +kernel
theorem d_Z_law_284 : decode c_Z_law 284 = .ok (.iconst 1, 1) := by decide +kernel
theorem d_Z_law_285 : decode c_Z_law 285 = .ok (.goto (4), 3) := by decide +kernel
theorem d_Z_law_288 : decode c_Z_law 288 = .ok (.iconst 0, 1) := by decide +kernel
theorem d_Z_law_289 : decode c_Z_law 289 = .ok (.aload_n 3, 1) := by decide +kernel
theorem d_Z_law_290 : decode c_Z_law 290 = .ok (.invokestatic 56, 3) := by decide +kernel
theorem d_Z_law_293 : decode c_Z_law 293 = .ok (.istore 5, 2) := by decide +kernel
theorem d_Z_law_295 : decode c_Z_law 295 = .ok (.aload_n 2, 1) := by decide +kernel
theorem d_Z_law_296 : decode c_Z_law 296 = .ok (.aload_n 0, 1) := by decide +kernel
theorem d_Z_law_297 : decode c_Z_law 297 = .ok (.iload 4, 2) := by decide +kernel
theorem d_Z_law_299 : decode c_Z_law 299 = .ok (.iconst 1, 1) := by decide +kernel
theorem d_Z_law_300 : decode c_Z_law 300 = .ok (.iadd, 1) := by decide +kernel
theorem d_Z_law_301 : decode c_Z_law 301 = .ok (.iaload, 1) := by decide +kernel
theorem d_Z_law_302 : decode c_Z_law 302 = .ok (.aload_n 0, 1) := by decide +kernel
theorem d_Z_law_303 : decode c_Z_law 303 = .ok (.iload 4, 2) := by decide +kernel
theorem d_Z_law_305 : decode c_Z_law 305 = .ok (.iconst 2, 1) := by decide +kernel
theorem d_Z_law_306 : decode c_Z_law 306 = .ok (.iadd, 1) := by decide +kernel
theorem d_Z_law_307 : decode c_Z_law 307 = .ok (.iaload, 1) := by decide +kernel
theorem d_Z_law_308 : decode c_Z_law 308 = .ok (.aload_n 0, 1) := by decide +kernel
theorem d_Z_law_309 : decode c_Z_law 309 = .ok (.iload 4, 2) := by decide +kernel
theorem d_Z_law_311 : decode c_Z_law 311 = .ok (.iconst 3, 1) := by decide +kernel
theorem d_Z_law_312 : decode c_Z_law 312 = .ok (.iadd, 1) := by decide +kernel
theorem d_Z_law_313 : decode c_Z_law 313 = .ok (.iaload, 1) := by decide +kernel
theorem d_Z_law_314 : decode c_Z_law 314 = .ok (.ifCond .eq (7), 3) := by decide +kernel
theorem d_Z_law_317 : decode c_Z_law 317 = .ok (.iconst 1, 1) := by decide +kernel
theorem d_Z_law_318 : decode c_Z_law 318 = .ok (.goto (4), 3) := by decide +kernel
theorem d_Z_law_321 : decode c_Z_law 321 = .ok (.iconst 0, 1) := by decide +kernel
theorem d_Z_law_322 : decode c_Z_law 322 = .ok (.invokevirtual 59, 3) := by decide +kernel
theorem d_Z_law_325 : decode c_Z_law 325 = .ok (.istore 6, 2) := by decide +kernel
theorem d_Z_law_327 : decode c_Z_law 327 = .ok (.aload_n 2, 1) := by decide +kernel
theorem d_Z_law_328 : decode c_Z_law 328 = .ok (.invokevirtual 52, 3) := by decide +kernel
theorem d_Z_law_331 : decode c_Z_law 331 = .ok (.iload 5, 2) := by decide +kernel
theorem d_Z_law_333 : decode c_Z_law 333 = .ok (.if_icmp .eq (5), 3) := by decide +kernel
theorem d_Z_law_336 : decode c_Z_law 336 = .ok (.iconst 0, 1) := by decide +kernel
theorem d_Z_law_337 : decode c_Z_law 337 = .ok (.ireturn, 1) := by decide +kernel
theorem d_Z_law_338 : decode c_Z_law 338 = .ok (.iload 5, 2) := by decide +kernel
theorem d_Z_law_340 : decode c_Z_law 340 = .ok (.ifCond .ne (15), 3) := by decide +kernel
theorem d_Z_law_343 : decode c_Z_law 343 = .ok (.aload_n 3, 1) := by decide +kernel
theorem d_Z_law_344 : decode c_Z_law 344 = .ok (.iconst 0, 1) := by decide +kernel
theorem d_Z_law_345 : decode c_Z_law 345 = .ok (.laload, 1) := by decide +kernel
theorem d_Z_law_346 : decode c_Z_law 346 = .ok (.iload 6, 2) := by decide +kernel
theorem d_Z_law_348 : decode c_Z_law 348 = .ok (.i2l, 1) := by decide +kernel
theorem d_Z_law_349 : decode c_Z_law 349 = .ok (.lcmp, 1) := by decide +kernel
theorem d_Z_law_350 : decode c_Z_law 350 = .ok (.ifCond .eq (5), 3) := by decide +kernel
theorem d_Z_law_353 : decode c_Z_law 353 = .ok (.iconst 0, 1) := by decide +kernel
theorem d_Z_law_354 : decode c_Z_law 354 = .ok (.ireturn, 1) := by decide +kernel
theorem d_Z_law_355 : decode c_Z_law 355 = .ok (.goto (419), 3) := by decide +kernel
theorem d_Z_law_358 : decode c_Z_law 358 = .ok (.aload_n 1, 1) := by decide +kernel
theorem d_Z_law_359 : decode c_Z_law 359 = .ok (.aload_n 0, 1) := by decide +kernel
theorem d_Z_law_360 : decode c_Z_law 360 = .ok (.iload 4, 2) := by decide +kernel
theorem d_Z_law_362 : decode c_Z_law 362 = .ok (.iconst 1, 1) := by decide +kernel
theorem d_Z_law_363 : decode c_Z_law 363 = .ok (.iadd, 1) := by decide +kernel
theorem d_Z_law_364 : decode c_Z_law 364 = .ok (.iaload, 1) := by decide +kernel
theorem d_Z_law_365 : decode c_Z_law 365 = .ok (.aload_n 0, 1) := by decide +kernel
theorem d_Z_law_366 : decode c_Z_law 366 = .ok (.iload 4, 2) := by decide +kernel
theorem d_Z_law_368 : decode c_Z_law 368 = .ok (.iconst 2, 1) := by decide +kernel
theorem d_Z_law_369 : decode c_Z_law 369 = .ok (.iadd, 1) := by decide +kernel
theorem d_Z_law_370 : decode c_Z_law 370 = .ok (.iaload, 1) := by decide +kernel
theorem d_Z_law_371 : decode c_Z_law 371 = .ok (.aload_n 3, 1) := by decide +kernel
theorem d_Z_law_372 : decode c_Z_law 372 = .ok (.invokestatic 60, 3) := by decide +kernel
theorem d_Z_law_375 : decode c_Z_law 375 = .ok (.istore 5, 2) := by decide +kernel
theorem d_Z_law_377 : decode c_Z_law 377 = .ok (.aload_n 2, 1) := by decide +kernel
theorem d_Z_law_378 : decode c_Z_law 378 = .ok (.aload_n 0, 1) := by decide +kernel
theorem d_Z_law_379 : decode c_Z_law 379 = .ok (.iload 4, 2) := by decide +kernel
theorem d_Z_law_381 : decode c_Z_law 381 = .ok (.iconst 1, 1) := by decide +kernel
theorem d_Z_law_382 : decode c_Z_law 382 = .ok (.iadd, 1) := by decide +kernel
theorem d_Z_law_383 : decode c_Z_law 383 = .ok (.iaload, 1) := by decide +kernel
theorem d_Z_law_384 : decode c_Z_law 384 = .ok (.aload_n 0, 1) := by decide +kernel
theorem d_Z_law_385 : decode c_Z_law 385 = .ok (.iload 4, 2) := by decide +kernel
theorem d_Z_law_387 : decode c_Z_law 387 = .ok (.iconst 2, 1) := by decide +kernel
theorem d_Z_law_388 : decode c_Z_law 388 = .ok (.iadd, 1) := by decide +kernel
theorem d_Z_law_389 : decode c_Z_law 389 = .ok (.iaload, 1) := by decide +kernel
theorem d_Z_law_390 : decode c_Z_law 390 = .ok (.invokevirtual 63, 3) := by decide +kernel
theorem d_Z_law_393 : decode c_Z_law 393 = .ok (.istore 6, 2) := by decide +kernel
theorem d_Z_law_395 : decode c_Z_law 395 = .ok (.aload_n 2, 1) := by decide +kernel
theorem d_Z_law_396 : decode c_Z_law 396 = .ok (.invokevirtual 52, 3) := by decide +kernel
theorem d_Z_law_399 : decode c_Z_law 399 = .ok (.iload 5, 2) := by decide +kernel
theorem d_Z_law_401 : decode c_Z_law 401 = .ok (.if_icmp .eq (5), 3) := by decide +kernel
theorem d_Z_law_404 : decode c_Z_law 404 = .ok (.iconst 0, 1) := by decide +kernel
theorem d_Z_law_405 : decode c_Z_law 405 = .ok (.ireturn, 1) := by decide +kernel
theorem d_Z_law_406 : decode c_Z_law 406 = .ok (.iload 5, 2) := by decide +kernel
theorem d_Z_law_408 : decode c_Z_law 408 = .ok (.ifCond .ne (15), 3) := by decide +kernel
theorem d_Z_law_411 : decode c_Z_law 411 = .ok (.aload_n 3, 1) := by decide +kernel
theorem d_Z_law_412 : decode c_Z_law 412 = .ok (.iconst 0, 1) := by decide +kernel
theorem d_Z_law_413 : decode c_Z_law 413 = .ok (.laload, 1) := by decide +kernel
theorem d_Z_law_414 : decode c_Z_law 414 = .ok (.iload 6, 2) := by decide +kernel
theorem d_Z_law_416 : decode c_Z_law 416 = .ok (.i2l, 1) := by decide +kernel
theorem d_Z_law_417 : decode c_Z_law 417 = .ok (.lcmp, 1) := by decide +kernel
theorem d_Z_law_418 : decode c_Z_law 418 = .ok (.ifCond .eq (5), 3) := by decide +kernel
theorem d_Z_law_421 : decode c_Z_law 421 = .ok (.iconst 0, 1) := by decide +kernel
theorem d_Z_law_422 : decode c_Z_law 422 = .ok (.ireturn, 1) := by decide +kernel
theorem d_Z_law_423 : decode c_Z_law 423 = .ok (.goto (351), 3) := by decide +kernel
theorem d_Z_law_426 : decode c_Z_law 426 = .ok (.aload_n 1, 1) := by decide +kernel
theorem d_Z_law_427 : decode c_Z_law 427 = .ok (.aload_n 0, 1) := by decide +kernel
theorem d_Z_law_428 : decode c_Z_law 428 = .ok (.iload 4, 2) := by decide +kernel
theorem d_Z_law_430 : decode c_Z_law 430 = .ok (.iconst 1, 1) := by decide +kernel
theorem d_Z_law_431 : decode c_Z_law 431 = .ok (.iadd, 1) := by decide +kernel
theorem d_Z_law_432 : decode c_Z_law 432 = .ok (.iaload, 1) := by decide +kernel
theorem d_Z_law_433 : decode c_Z_law 433 = .ok (.invokevirtual 64, 3) := by decide +kernel
theorem d_Z_law_436 : decode c_Z_law 436 = .ok (.aload_n 2, 1) := by decide +kernel
theorem d_Z_law_437 : decode c_Z_law 437 = .ok (.aload_n 0, 1) := by decide +kernel
theorem d_Z_law_438 : decode c_Z_law 438 = .ok (.iload 4, 2) := by decide +kernel
theorem d_Z_law_440 : decode c_Z_law 440 = .ok (.iconst 1, 1) := by decide +kernel
theorem d_Z_law_441 : decode c_Z_law 441 = .ok (.iadd, 1) := by decide +kernel
theorem d_Z_law_442 : decode c_Z_law 442 = .ok (.iaload, 1) := by decide +kernel
theorem d_Z_law_443 : decode c_Z_law 443 = .ok (.invokevirtual 68, 3) := by decide +kernel
theorem d_Z_law_446 : decode c_Z_law 446 = .ok (.if_icmp .eq (328), 3) := by decide +kernel
theorem d_Z_law_449 : decode c_Z_law 449 = .ok (.iconst 0, 1) := by decide +kernel
theorem d_Z_law_450 : decode c_Z_law 450 = .ok (.ireturn, 1) := by decide +kernel
theorem d_Z_law_451 : decode c_Z_law 451 = .ok (.aload_n 1, 1) := by decide +kernel
theorem d_Z_law_452 : decode c_Z_law 452 = .ok (.aload_n 0, 1) := by decide +kernel
theorem d_Z_law_453 : decode c_Z_law 453 = .ok (.iload 4, 2) := by decide +kernel
theorem d_Z_law_455 : decode c_Z_law 455 = .ok (.iconst 1, 1) := by decide +kernel
theorem d_Z_law_456 : decode c_Z_law 456 = .ok (.iadd, 1) := by decide +kernel
theorem d_Z_law_457 : decode c_Z_law 457 = .ok (.iaload, 1) := by decide +kernel
theorem d_Z_law_458 : decode c_Z_law 458 = .ok (.invokevirtual 69, 3) := by decide +kernel
theorem d_Z_law_461 : decode c_Z_law 461 = .ok (.aload_n 2, 1) := by decide +kernel
theorem d_Z_law_462 : decode c_Z_law 462 = .ok (.aload_n 0, 1) := by decide +kernel
theorem d_Z_law_463 : decode c_Z_law 463 = .ok (.iload 4, 2) := by decide +kernel
theorem d_Z_law_465 : decode c_Z_law 465 = .ok (.iconst 1, 1) := by decide +kernel
theorem d_Z_law_466 : decode c_Z_law 466 = .ok (.iadd, 1) := by decide +kernel
theorem d_Z_law_467 : decode c_Z_law 467 = .ok (.iaload, 1) := by decide +kernel
theorem d_Z_law_468 : decode c_Z_law 468 = .ok (.invokevirtual 72, 3) := by decide +kernel
theorem d_Z_law_471 : decode c_Z_law 471 = .ok (.if_icmp .eq (303), 3) := by decide +kernel
theorem d_Z_law_474 : decode c_Z_law 474 = .ok (.iconst 0, 1) := by decide +kernel
theorem d_Z_law_475 : decode c_Z_law 475 = .ok (.ireturn, 1) := by decide +kernel
theorem d_Z_law_476 : decode c_Z_law 476 = .ok (.aload_n 1, 1) := by decide +kernel
theorem d_Z_law_477 : decode c_Z_law 477 = .ok (.aload_n 0, 1) := by decide +kernel
theorem d_Z_law_478 : decode c_Z_law 478 = .ok (.iload 4, 2) := by decide +kernel
theorem d_Z_law_480 : decode c_Z_law 480 = .ok (.iconst 1, 1) := by decide +kernel
theorem d_Z_law_481 : decode c_Z_law 481 = .ok (.iadd, 1) := by decide +kernel
theorem d_Z_law_482 : decode c_Z_law 482 = .ok (.iaload, 1) := by decide +kernel
theorem d_Z_law_483 : decode c_Z_law 483 = .ok (.invokevirtual 73, 3) := by decide +kernel
theorem d_Z_law_486 : decode c_Z_law 486 = .ok (.aload_n 2, 1) := by decide +kernel
theorem d_Z_law_487 : decode c_Z_law 487 = .ok (.aload_n 0, 1) := by decide +kernel
theorem d_Z_law_488 : decode c_Z_law 488 = .ok (.iload 4, 2) := by decide +kernel
theorem d_Z_law_490 : decode c_Z_law 490 = .ok (.iconst 1, 1) := by decide +kernel
theorem d_Z_law_491 : decode c_Z_law 491 = .ok (.iadd, 1) := by decide +kernel
theorem d_Z_law_492 : decode c_Z_law 492 = .ok (.iaload, 1) := by decide +kernel
theorem d_Z_law_493 : decode c_Z_law 493 = .ok (.invokevirtual 76, 3) := by decide +kernel
theorem d_Z_law_496 : decode c_Z_law 496 = .ok (.if_icmp .eq (278), 3) := by decide +kernel
theorem d_Z_law_499 : decode c_Z_law 499 = .ok (.iconst 0, 1) := by decide +kernel
theorem d_Z_law_500 : decode c_Z_law 500 = .ok (.ireturn, 1) := by decide +kernel
theorem d_Z_law_501 : decode c_Z_law 501 = .ok (.aload_n 1, 1) := by decide +kernel
theorem d_Z_law_502 : decode c_Z_law 502 = .ok (.aload_n 0, 1) := by decide +kernel
theorem d_Z_law_503 : decode c_Z_law 503 = .ok (.iload 4, 2) := by decide +kernel
theorem d_Z_law_505 : decode c_Z_law 505 = .ok (.iconst 1, 1) := by decide +kernel
theorem d_Z_law_506 : decode c_Z_law 506 = .ok (.iadd, 1) := by decide +kernel
theorem d_Z_law_507 : decode c_Z_law 507 = .ok (.iaload, 1) := by decide +kernel
theorem d_Z_law_508 : decode c_Z_law 508 = .ok (.invokevirtual 77, 3) := by decide +kernel
theorem d_Z_law_511 : decode c_Z_law 511 = .ok (.aload_n 2, 1) := by decide +kernel
theorem d_Z_law_512 : decode c_Z_law 512 = .ok (.aload_n 0, 1) := by decide +kernel
theorem d_Z_law_513 : decode c_Z_law 513 = .ok (.iload 4, 2) := by decide +kernel
theorem d_Z_law_515 : decode c_Z_law 515 = .ok (.iconst 1, 1) := by decide +kernel
theorem d_Z_law_516 : decode c_Z_law 516 = .ok (.iadd, 1) := by decide +kernel
theorem d_Z_law_517 : decode c_Z_law 517 = .ok (.iaload, 1) := by decide +kernel
theorem d_Z_law_518 : decode c_Z_law 518 = .ok (.invokevirtual 80, 3) := by decide +kernel
theorem d_Z_law_521 : decode c_Z_law 521 = .ok (.if_icmp .eq (253), 3) := by decide +kernel
theorem d_Z_law_524 : decode c_Z_law 524 = .ok (.iconst 0, 1) := by decide +kernel
theorem d_Z_law_525 : decode c_Z_law 525 = .ok (.ireturn, 1) := by decide +kernel
theorem d_Z_law_526 : decode c_Z_law 526 = .ok (.aload_n 1, 1) := by decide +kernel
theorem d_Z_law_527 : decode c_Z_law 527 = .ok (.aload_n 0, 1) := by decide +kernel
theorem d_Z_law_528 : decode c_Z_law 528 = .ok (.iload 4, 2) := by decide +kernel
theorem d_Z_law_530 : decode c_Z_law 530 = .ok (.iconst 1, 1) := by decide +kernel
theorem d_Z_law_531 : decode c_Z_law 531 = .ok (.iadd, 1) := by decide +kernel
theorem d_Z_law_532 : decode c_Z_law 532 = .ok (.iaload, 1) := by decide +kernel
theorem d_Z_law_533 : decode c_Z_law 533 = .ok (.invokevirtual 81, 3) := by decide +kernel
theorem d_Z_law_536 : decode c_Z_law 536 = .ok (.aload_n 2, 1) := by decide +kernel
theorem d_Z_law_537 : decode c_Z_law 537 = .ok (.aload_n 0, 1) := by decide +kernel
theorem d_Z_law_538 : decode c_Z_law 538 = .ok (.iload 4, 2) := by decide +kernel
theorem d_Z_law_540 : decode c_Z_law 540 = .ok (.iconst 1, 1) := by decide +kernel
theorem d_Z_law_541 : decode c_Z_law 541 = .ok (.iadd, 1) := by decide +kernel
theorem d_Z_law_542 : decode c_Z_law 542 = .ok (.iaload, 1) := by decide +kernel
theorem d_Z_law_543 : decode c_Z_law 543 = .ok (.invokevirtual 84, 3) := by decide +kernel
theorem d_Z_law_546 : decode c_Z_law 546 = .ok (.if_icmp .eq (228), 3) := by decide +kernel
theorem d_Z_law_549 : decode c_Z_law 549 = .ok (.iconst 0, 1) := by decide +kernel
theorem d_Z_law_550 : decode c_Z_law 550 = .ok (.ireturn, 1) := by decide +kernel
theorem d_Z_law_551 : decode c_Z_law 551 = .ok (.aload_n 1, 1) := by decide +kernel
theorem d_Z_law_552 : decode c_Z_law 552 = .ok (.aload_n 0, 1) := by decide +kernel
theorem d_Z_law_553 : decode c_Z_law 553 = .ok (.iload 4, 2) := by decide +kernel
theorem d_Z_law_555 : decode c_Z_law 555 = .ok (.iconst 1, 1) := by decide +kernel
theorem d_Z_law_556 : decode c_Z_law 556 = .ok (.iadd, 1) := by decide +kernel
theorem d_Z_law_557 : decode c_Z_law 557 = .ok (.iaload, 1) := by decide +kernel
theorem d_Z_law_558 : decode c_Z_law 558 = .ok (.invokevirtual 85, 3) := by decide +kernel
theorem d_Z_law_561 : decode c_Z_law 561 = .ok (.aload_n 2, 1) := by decide +kernel
theorem d_Z_law_562 : decode c_Z_law 562 = .ok (.aload_n 0, 1) := by decide +kernel
theorem d_Z_law_563 : decode c_Z_law 563 = .ok (.iload 4, 2) := by decide +kernel
theorem d_Z_law_565 : decode c_Z_law 565 = .ok (.iconst 1, 1) := by decide +kernel
theorem d_Z_law_566 : decode c_Z_law 566 = .ok (.iadd, 1) := by decide +kernel
theorem d_Z_law_567 : decode c_Z_law 567 = .ok (.iaload, 1) := by decide +kernel
theorem d_Z_law_568 : decode c_Z_law 568 = .ok (.invokevirtual 88, 3) := by decide +kernel
theorem d_Z_law_571 : decode c_Z_law 571 = .ok (.if_icmp .eq (203), 3) := by decide +kernel
theorem d_Z_law_574 : decode c_Z_law 574 = .ok (.iconst 0, 1) := by decide +kernel
theorem d_Z_law_575 : decode c_Z_law 575 = .ok (.ireturn, 1) := by decide +kernel
theorem d_Z_law_576 : decode c_Z_law 576 = .ok (.aload_n 1, 1) := by decide +kernel
theorem d_Z_law_577 : decode c_Z_law 577 = .ok (.aload_n 0, 1) := by decide +kernel
theorem d_Z_law_578 : decode c_Z_law 578 = .ok (.iload 4, 2) := by decide +kernel
theorem d_Z_law_580 : decode c_Z_law 580 = .ok (.iconst 1, 1) := by decide +kernel
theorem d_Z_law_581 : decode c_Z_law 581 = .ok (.iadd, 1) := by decide +kernel
theorem d_Z_law_582 : decode c_Z_law 582 = .ok (.iaload, 1) := by decide +kernel
theorem d_Z_law_583 : decode c_Z_law 583 = .ok (.invokevirtual 89, 3) := by decide +kernel
theorem d_Z_law_586 : decode c_Z_law 586 = .ok (.aload_n 2, 1) := by decide +kernel
theorem d_Z_law_587 : decode c_Z_law 587 = .ok (.aload_n 0, 1) := by decide +kernel
theorem d_Z_law_588 : decode c_Z_law 588 = .ok (.iload 4, 2) := by decide +kernel
theorem d_Z_law_590 : decode c_Z_law 590 = .ok (.iconst 1, 1) := by decide +kernel
theorem d_Z_law_591 : decode c_Z_law 591 = .ok (.iadd, 1) := by decide +kernel
theorem d_Z_law_592 : decode c_Z_law 592 = .ok (.iaload, 1) := by decide +kernel
theorem d_Z_law_593 : decode c_Z_law 593 = .ok (.invokevirtual 92, 3) := by decide +kernel
theorem d_Z_law_596 : decode c_Z_law 596 = .ok (.if_icmp .eq (178), 3) := by decide +kernel
theorem d_Z_law_599 : decode c_Z_law 599 = .ok (.iconst 0, 1) := by decide +kernel
theorem d_Z_law_600 : decode c_Z_law 600 = .ok (.ireturn, 1) := by decide +kernel
theorem d_Z_law_601 : decode c_Z_law 601 = .ok (.aload_n 1, 1) := by decide +kernel
theorem d_Z_law_602 : decode c_Z_law 602 = .ok (.invokevirtual 93, 3) := by decide +kernel
theorem d_Z_law_605 : decode c_Z_law 605 = .ok (.aload_n 2, 1) := by decide +kernel
theorem d_Z_law_606 : decode c_Z_law 606 = .ok (.invokevirtual 96, 3) := by decide +kernel
theorem d_Z_law_609 : decode c_Z_law 609 = .ok (.if_icmp .eq (165), 3) := by decide +kernel
theorem d_Z_law_612 : decode c_Z_law 612 = .ok (.iconst 0, 1) := by decide +kernel
theorem d_Z_law_613 : decode c_Z_law 613 = .ok (.ireturn, 1) := by decide +kernel
theorem d_Z_law_614 : decode c_Z_law 614 = .ok (.aload_n 1, 1) := by decide +kernel
theorem d_Z_law_615 : decode c_Z_law 615 = .ok (.aload_n 0, 1) := by decide +kernel
theorem d_Z_law_616 : decode c_Z_law 616 = .ok (.iload 4, 2) := by decide +kernel
theorem d_Z_law_618 : decode c_Z_law 618 = .ok (.iconst 1, 1) := by decide +kernel
theorem d_Z_law_619 : decode c_Z_law 619 = .ok (.iadd, 1) := by decide +kernel
theorem d_Z_law_620 : decode c_Z_law 620 = .ok (.iaload, 1) := by decide +kernel
theorem d_Z_law_621 : decode c_Z_law 621 = .ok (.aload_n 0, 1) := by decide +kernel
theorem d_Z_law_622 : decode c_Z_law 622 = .ok (.iload 4, 2) := by decide +kernel
theorem d_Z_law_624 : decode c_Z_law 624 = .ok (.iconst 2, 1) := by decide +kernel
theorem d_Z_law_625 : decode c_Z_law 625 = .ok (.iadd, 1) := by decide +kernel
theorem d_Z_law_626 : decode c_Z_law 626 = .ok (.iaload, 1) := by decide +kernel
theorem d_Z_law_627 : decode c_Z_law 627 = .ok (.invokevirtual 97, 3) := by decide +kernel
theorem d_Z_law_630 : decode c_Z_law 630 = .ok (.aload_n 2, 1) := by decide +kernel
theorem d_Z_law_631 : decode c_Z_law 631 = .ok (.aload_n 0, 1) := by decide +kernel
theorem d_Z_law_632 : decode c_Z_law 632 = .ok (.iload 4, 2) := by decide +kernel
theorem d_Z_law_634 : decode c_Z_law 634 = .ok (.iconst 1, 1) := by decide +kernel
theorem d_Z_law_635 : decode c_Z_law 635 = .ok (.iadd, 1) := by decide +kernel
theorem d_Z_law_636 : decode c_Z_law 636 = .ok (.iaload, 1) := by decide +kernel
theorem d_Z_law_637 : decode c_Z_law 637 = .ok (.aload_n 0, 1) := by decide +kernel
theorem d_Z_law_638 : decode c_Z_law 638 = .ok (.iload 4, 2) := by decide +kernel
theorem d_Z_law_640 : decode c_Z_law 640 = .ok (.iconst 2, 1) := by decide +kernel
theorem d_Z_law_641 : decode c_Z_law 641 = .ok (.iadd, 1) := by decide +kernel
theorem d_Z_law_642 : decode c_Z_law 642 = .ok (.iaload, 1) := by decide +kernel
theorem d_Z_law_643 : decode c_Z_law 643 = .ok (.invokevirtual 100, 3) := by decide +kernel
theorem d_Z_law_646 : decode c_Z_law 646 = .ok (.if_icmp .eq (128), 3) := by decide +kernel
theorem d_Z_law_649 : decode c_Z_law 649 = .ok (.iconst 0, 1) := by decide +kernel
theorem d_Z_law_650 : decode c_Z_law 650 = .ok (.ireturn, 1) := by decide +kernel
theorem d_Z_law_651 : decode c_Z_law 651 = .ok (.aload_n 1, 1) := by decide +kernel
theorem d_Z_law_652 : decode c_Z_law 652 = .ok (.aload_n 0, 1) := by decide +kernel
theorem d_Z_law_653 : decode c_Z_law 653 = .ok (.iload 4, 2) := by decide +kernel
theorem d_Z_law_655 : decode c_Z_law 655 = .ok (.iconst 1, 1) := by decide +kernel
theorem d_Z_law_656 : decode c_Z_law 656 = .ok (.iadd, 1) := by decide +kernel
theorem d_Z_law_657 : decode c_Z_law 657 = .ok (.iaload, 1) := by decide +kernel
theorem d_Z_law_658 : decode c_Z_law 658 = .ok (.aload_n 0, 1) := by decide +kernel
theorem d_Z_law_659 : decode c_Z_law 659 = .ok (.iload 4, 2) := by decide +kernel
theorem d_Z_law_661 : decode c_Z_law 661 = .ok (.iconst 2, 1) := by decide +kernel
theorem d_Z_law_662 : decode c_Z_law 662 = .ok (.iadd, 1) := by decide +kernel
theorem d_Z_law_663 : decode c_Z_law 663 = .ok (.iaload, 1) := by decide +kernel
theorem d_Z_law_664 : decode c_Z_law 664 = .ok (.invokevirtual 101, 3) := by decide +kernel
theorem d_Z_law_667 : decode c_Z_law 667 = .ok (.aload_n 2, 1) := by decide +kernel
theorem d_Z_law_668 : decode c_Z_law 668 = .ok (.aload_n 0, 1) := by decide +kernel
theorem d_Z_law_669 : decode c_Z_law 669 = .ok (.iload 4, 2) := by decide +kernel
theorem d_Z_law_671 : decode c_Z_law 671 = .ok (.iconst 1, 1) := by decide +kernel
theorem d_Z_law_672 : decode c_Z_law 672 = .ok (.iadd, 1) := by decide +kernel
theorem d_Z_law_673 : decode c_Z_law 673 = .ok (.iaload, 1) := by decide +kernel
theorem d_Z_law_674 : decode c_Z_law 674 = .ok (.aload_n 0, 1) := by decide +kernel
theorem d_Z_law_675 : decode c_Z_law 675 = .ok (.iload 4, 2) := by decide +kernel
theorem d_Z_law_677 : decode c_Z_law 677 = .ok (.iconst 2, 1) := by decide +kernel
theorem d_Z_law_678 : decode c_Z_law 678 = .ok (.iadd, 1) := by decide +kernel
theorem d_Z_law_679 : decode c_Z_law 679 = .ok (.iaload, 1) := by decide +kernel
theorem d_Z_law_680 : decode c_Z_law 680 = .ok (.invokevirtual 104, 3) := by decide +kernel
theorem d_Z_law_683 : decode c_Z_law 683 = .ok (.if_icmp .eq (91), 3) := by decide +kernel
theorem d_Z_law_686 : decode c_Z_law 686 = .ok (.iconst 0, 1) := by decide +kernel
theorem d_Z_law_687 : decode c_Z_law 687 = .ok (.ireturn, 1) := by decide +kernel
theorem d_Z_law_688 : decode c_Z_law 688 = .ok (.aload_n 1, 1) := by decide +kernel
theorem d_Z_law_689 : decode c_Z_law 689 = .ok (.aload_n 0, 1) := by decide +kernel
theorem d_Z_law_690 : decode c_Z_law 690 = .ok (.iload 4, 2) := by decide +kernel
theorem d_Z_law_692 : decode c_Z_law 692 = .ok (.iconst 1, 1) := by decide +kernel
theorem d_Z_law_693 : decode c_Z_law 693 = .ok (.iadd, 1) := by decide +kernel
theorem d_Z_law_694 : decode c_Z_law 694 = .ok (.iaload, 1) := by decide +kernel
theorem d_Z_law_695 : decode c_Z_law 695 = .ok (.aload_n 0, 1) := by decide +kernel
theorem d_Z_law_696 : decode c_Z_law 696 = .ok (.iload 4, 2) := by decide +kernel
theorem d_Z_law_698 : decode c_Z_law 698 = .ok (.iconst 2, 1) := by decide +kernel
theorem d_Z_law_699 : decode c_Z_law 699 = .ok (.iadd, 1) := by decide +kernel
theorem d_Z_law_700 : decode c_Z_law 700 = .ok (.iaload, 1) := by decide +kernel
theorem d_Z_law_701 : decode c_Z_law 701 = .ok (.aload_n 0, 1) := by decide +kernel
theorem d_Z_law_702 : decode c_Z_law 702 = .ok (.iload 4, 2) := by decide +kernel
theorem d_Z_law_704 : decode c_Z_law 704 = .ok (.iconst 3, 1) := by decide +kernel
theorem d_Z_law_705 : decode c_Z_law 705 = .ok (.iadd, 1) := by decide +kernel
theorem d_Z_law_706 : decode c_Z_law 706 = .ok (.iaload, 1) := by decide +kernel
theorem d_Z_law_707 : decode c_Z_law 707 = .ok (.invokevirtual 105, 3) := by decide +kernel
theorem d_Z_law_710 : decode c_Z_law 710 = .ok (.aload_n 2, 1) := by decide +kernel
theorem d_Z_law_711 : decode c_Z_law 711 = .ok (.aload_n 0, 1) := by decide +kernel
theorem d_Z_law_712 : decode c_Z_law 712 = .ok (.iload 4, 2) := by decide +kernel
theorem d_Z_law_714 : decode c_Z_law 714 = .ok (.iconst 1, 1) := by decide +kernel
theorem d_Z_law_715 : decode c_Z_law 715 = .ok (.iadd, 1) := by decide +kernel
theorem d_Z_law_716 : decode c_Z_law 716 = .ok (.iaload, 1) := by decide +kernel
theorem d_Z_law_717 : decode c_Z_law 717 = .ok (.aload_n 0, 1) := by decide +kernel
theorem d_Z_law_718 : decode c_Z_law 718 = .ok (.iload 4, 2) := by decide +kernel
theorem d_Z_law_720 : decode c_Z_law 720 = .ok (.iconst 2, 1) := by decide +kernel
theorem d_Z_law_721 : decode c_Z_law 721 = .ok (.iadd, 1) := by decide +kernel
theorem d_Z_law_722 : decode c_Z_law 722 = .ok (.iaload, 1) := by decide +kernel
theorem d_Z_law_723 : decode c_Z_law 723 = .ok (.aload_n 0, 1) := by decide +kernel
theorem d_Z_law_724 : decode c_Z_law 724 = .ok (.iload 4, 2) := by decide +kernel
theorem d_Z_law_726 : decode c_Z_law 726 = .ok (.iconst 3, 1) := by decide +kernel
theorem d_Z_law_727 : decode c_Z_law 727 = .ok (.iadd, 1) := by decide +kernel
theorem d_Z_law_728 : decode c_Z_law 728 = .ok (.iaload, 1) := by decide +kernel
theorem d_Z_law_729 : decode c_Z_law 729 = .ok (.invokevirtual 108, 3) := by decide +kernel
theorem d_Z_law_732 : decode c_Z_law 732 = .ok (.if_icmp .eq (42), 3) := by decide +kernel
theorem d_Z_law_735 : decode c_Z_law 735 = .ok (.iconst 0, 1) := by decide +kernel
theorem d_Z_law_736 : decode c_Z_law 736 = .ok (.ireturn, 1) := by decide +kernel
theorem d_Z_law_737 : decode c_Z_law 737 = .ok (.aload_n 1, 1) := by decide +kernel
theorem d_Z_law_738 : decode c_Z_law 738 = .ok (.aload_n 0, 1) := by decide +kernel
theorem d_Z_law_739 : decode c_Z_law 739 = .ok (.iload 4, 2) := by decide +kernel
theorem d_Z_law_741 : decode c_Z_law 741 = .ok (.iconst 1, 1) := by decide +kernel
theorem d_Z_law_742 : decode c_Z_law 742 = .ok (.iadd, 1) := by decide +kernel
theorem d_Z_law_743 : decode c_Z_law 743 = .ok (.iaload, 1) := by decide +kernel
theorem d_Z_law_744 : decode c_Z_law 744 = .ok (.aload_n 0, 1) := by decide +kernel
theorem d_Z_law_745 : decode c_Z_law 745 = .ok (.iload 4, 2) := by decide +kernel
theorem d_Z_law_747 : decode c_Z_law 747 = .ok (.iconst 2, 1) := by decide +kernel
theorem d_Z_law_748 : decode c_Z_law 748 = .ok (.iadd, 1) := by decide +kernel
theorem d_Z_law_749 : decode c_Z_law 749 = .ok (.iaload, 1) := by decide +kernel
theorem d_Z_law_750 : decode c_Z_law 750 = .ok (.invokevirtual 109, 3) := by decide +kernel
theorem d_Z_law_753 : decode c_Z_law 753 = .ok (.aload_n 2, 1) := by decide +kernel
theorem d_Z_law_754 : decode c_Z_law 754 = .ok (.aload_n 0, 1) := by decide +kernel
theorem d_Z_law_755 : decode c_Z_law 755 = .ok (.iload 4, 2) := by decide +kernel
theorem d_Z_law_757 : decode c_Z_law 757 = .ok (.iconst 1, 1) := by decide +kernel
theorem d_Z_law_758 : decode c_Z_law 758 = .ok (.iadd, 1) := by decide +kernel
theorem d_Z_law_759 : decode c_Z_law 759 = .ok (.iaload, 1) := by decide +kernel
theorem d_Z_law_760 : decode c_Z_law 760 = .ok (.aload_n 0, 1) := by decide +kernel
theorem d_Z_law_761 : decode c_Z_law 761 = .ok (.iload 4, 2) := by decide +kernel
theorem d_Z_law_763 : decode c_Z_law 763 = .ok (.iconst 2, 1) := by decide +kernel
theorem d_Z_law_764 : decode c_Z_law 764 = .ok (.iadd, 1) := by decide +kernel
theorem d_Z_law_765 : decode c_Z_law 765 = .ok (.iaload, 1) := by decide +kernel
theorem d_Z_law_766 : decode c_Z_law 766 = .ok (.invokevirtual 112, 3) := by decide +kernel
theorem d_Z_law_769 : decode c_Z_law 769 = .ok (.if_icmp .eq (5), 3) := by decide +kernel
theorem d_Z_law_772 : decode c_Z_law 772 = .ok (.iconst 0, 1) := by decide +kernel
theorem d_Z_law_773 : decode c_Z_law 773 = .ok (.ireturn, 1) := by decide +kernel
theorem d_Z_law_774 : decode c_Z_law 774 = .ok (.iinc 4 (4), 3) := by decide +kernel
theorem d_Z_law_777 : decode c_Z_law 777 = .ok (.goto (-744), 3) := by decide +kernel
theorem d_Z_law_780 : decode c_Z_law 780 = .ok (.iconst 1, 1) := by decide +kernel
theorem d_Z_law_781 : decode c_Z_law 781 = .ok (.ireturn, 1) := by decide +kernel
theorem p_Z_put : (parseMethodDescriptor y_Z_put.desc).map (fun d => d.parameters.length) = some 5 := by decide +kernel
theorem p_Z_change : (parseMethodDescriptor y_Z_change.desc).map (fun d => d.parameters.length) = some 5 := by decide +kernel
theorem p_Z_read : (parseMethodDescriptor y_Z_read.desc).map (fun d => d.parameters.length) = some 4 := by decide +kernel
theorem nw_Z_8 : qx_NW "QuorumLogLaw" 8 0 [.null, .null, .null] 3 := ⟨"QuorumLog", T_Q, t_Q, rfl, uw_Q, k_Q, fun j hj => by revert j; decide +kernel, (qu_in 18 (by decide +kernel) (by decide +kernel)), (qu_in 19 (by decide +kernel) (by decide +kernel)), (qu_in 1 (by decide +kernel) (by decide +kernel))⟩
theorem s_Z_law_6 {l : Launch} {G : qh_G} {h : qh_H} {rest : List Value} {v0 v1 : Value} : qx_Site l G "QuorumLogLaw" c_Z_law 6 y_Z_cell [v0, v1] rest h := qx_siteS (As := [v0, v1]) d_Z_law_6 (qu_in 563 (by decide +kernel) (by decide +kernel)) (qu_in 564 (by decide +kernel) (by decide +kernel)) (qu_in 0 (by decide +kernel) (by decide +kernel)) w_Z_cell.1 (by decide) p_Z_cell
theorem s_Z_law_9 {l : Launch} {G : qh_G} {h : qh_H} {b0 : Nat} {rest : List Value} {v0 : Value} : qx_Site l G "QuorumLogLaw" c_Z_law 9 y_Q_init (.ref b0 :: [v0]) rest h := qx_siteI (As := [v0]) d_Z_law_9 rfl (qu_in 20 (by decide +kernel) (by decide +kernel)) (qu_in 21 (by decide +kernel) (by decide +kernel)) w_Q_init.1 (by decide) p_Q_init
theorem nw_Z_36 : qx_NW "QuorumLogLaw" 36 8 [.int 0, .null, .null, .null, .null, .null, .null, .null, .null, .null, .null, .null, .null, .null, .null, .null, .null, .null, .null, .null, .null, .int 0, .null, .null, .null, .null, .null, .int 0, .null, .null] 30 := ⟨"QuorumLogModel", T_D, t_D, rfl, uw_D, k_D, fun j hj => by revert j; decide +kernel, (qu_in 711 (by decide +kernel) (by decide +kernel)), (qu_in 712 (by decide +kernel) (by decide +kernel)), (qu_in 8 (by decide +kernel) (by decide +kernel))⟩
theorem s_Z_law_19 {l : Launch} {G : qh_G} {h : qh_H} {rest : List Value} {v0 v1 : Value} : qx_Site l G "QuorumLogLaw" c_Z_law 19 y_Z_cell [v0, v1] rest h := qx_siteS (As := [v0, v1]) d_Z_law_19 (qu_in 563 (by decide +kernel) (by decide +kernel)) (qu_in 564 (by decide +kernel) (by decide +kernel)) (qu_in 0 (by decide +kernel) (by decide +kernel)) w_Z_cell.1 (by decide) p_Z_cell
theorem s_Z_law_22 {l : Launch} {G : qh_G} {h : qh_H} {b0 : Nat} {rest : List Value} {v0 : Value} : qx_Site l G "QuorumLogLaw" c_Z_law 22 y_D_init (.ref b0 :: [v0]) rest h := qx_siteI (As := [v0]) d_Z_law_22 rfl (qu_in 713 (by decide +kernel) (by decide +kernel)) (qu_in 714 (by decide +kernel) (by decide +kernel)) w_D_init.1 (by decide) p_D_init
theorem s_Z_law_139 {l : Launch} {G : qh_G} {h : qh_H} {b0 : Nat} {fs rest : List Value} {v0 : Value} (hb0 : h b0 = some (.inr (0, fs))) : qx_Site l G "QuorumLogLaw" c_Z_law 139 y_Q_timer (.ref b0 :: [v0]) rest h := qx_siteV (As := [v0]) (E := "QuorumLog") (ci := 0) d_Z_law_139 (qu_in 248 (by decide +kernel) (by decide +kernel)) (qu_in 249 (by decide +kernel) (by decide +kernel)) (qu_in 250 (by decide +kernel) (by decide +kernel)) w_Q_timer.1 (by decide) rfl p_Q_timer hb0
theorem s_Z_law_149 {l : Launch} {G : qh_G} {h : qh_H} {b0 : Nat} {fs rest : List Value} {v0 : Value} (hb0 : h b0 = some (.inr (8, fs))) : qx_Site l G "QuorumLogLaw" c_Z_law 149 y_D_timer (.ref b0 :: [v0]) rest h := qx_siteV (As := [v0]) (E := "QuorumLogModel") (ci := 8) d_Z_law_149 (qu_in 813 (by decide +kernel) (by decide +kernel)) (qu_in 814 (by decide +kernel) (by decide +kernel)) (qu_in 815 (by decide +kernel) (by decide +kernel)) w_D_timer.1 (by decide) rfl p_D_timer hb0
theorem s_Z_law_164 {l : Launch} {G : qh_G} {h : qh_H} {b0 : Nat} {fs rest : List Value} {v0 : Value} (hb0 : h b0 = some (.inr (0, fs))) : qx_Site l G "QuorumLogLaw" c_Z_law 164 y_Q_beat (.ref b0 :: [v0]) rest h := qx_siteV (As := [v0]) (E := "QuorumLog") (ci := 0) d_Z_law_164 (qu_in 395 (by decide +kernel) (by decide +kernel)) (qu_in 396 (by decide +kernel) (by decide +kernel)) (qu_in 397 (by decide +kernel) (by decide +kernel)) w_Q_beat.1 (by decide) rfl p_Q_beat hb0
theorem s_Z_law_174 {l : Launch} {G : qh_G} {h : qh_H} {b0 : Nat} {fs rest : List Value} {v0 : Value} (hb0 : h b0 = some (.inr (8, fs))) : qx_Site l G "QuorumLogLaw" c_Z_law 174 y_D_beat (.ref b0 :: [v0]) rest h := qx_siteV (As := [v0]) (E := "QuorumLogModel") (ci := 8) d_Z_law_174 (qu_in 907 (by decide +kernel) (by decide +kernel)) (qu_in 908 (by decide +kernel) (by decide +kernel)) (qu_in 909 (by decide +kernel) (by decide +kernel)) w_D_beat.1 (by decide) rfl p_D_beat hb0
theorem s_Z_law_202 {l : Launch} {G : qh_G} {h : qh_H} {rest : List Value} {v0 v1 v2 v3 v4 : Value} : qx_Site l G "QuorumLogLaw" c_Z_law 202 y_Z_put [v0, v1, v2, v3, v4] rest h := qx_siteSW (As := [v0, v1, v2, v3, v4]) d_Z_law_202 (qu_in 566 (by decide +kernel) (by decide +kernel)) (qu_in 567 (by decide +kernel) (by decide +kernel)) (qu_in 0 (by decide +kernel) (by decide +kernel)) w_Z_put.1 (by decide) p_Z_put
theorem s_Z_law_226 {l : Launch} {G : qh_G} {h : qh_H} {b0 : Nat} {fs rest : List Value} {v0 v1 v2 : Value} (hb0 : h b0 = some (.inr (8, fs))) : qx_Site l G "QuorumLogLaw" c_Z_law 226 y_D_put (.ref b0 :: [v0, v1, v2]) rest h := qx_siteV (As := [v0, v1, v2]) (E := "QuorumLogModel") (ci := 8) d_Z_law_226 (qu_in 915 (by decide +kernel) (by decide +kernel)) (qu_in 916 (by decide +kernel) (by decide +kernel)) (qu_in 917 (by decide +kernel) (by decide +kernel)) w_D_put.1 (by decide) rfl p_D_put hb0
theorem s_Z_law_232 {l : Launch} {G : qh_G} {h : qh_H} {b0 : Nat} {fs rest : List Value} (hb0 : h b0 = some (.inr (8, fs))) : qx_Site l G "QuorumLogLaw" c_Z_law 232 y_D_thrown (.ref b0 :: []) rest h := qx_siteV (As := []) (E := "QuorumLogModel") (ci := 8) d_Z_law_232 (qu_in 809 (by decide +kernel) (by decide +kernel)) (qu_in 810 (by decide +kernel) (by decide +kernel)) (qu_in 811 (by decide +kernel) (by decide +kernel)) w_D_thrown.1 (by decide) rfl p_D_thrown hb0
theorem s_Z_law_290 {l : Launch} {G : qh_G} {h : qh_H} {rest : List Value} {v0 v1 v2 v3 v4 : Value} : qx_Site l G "QuorumLogLaw" c_Z_law 290 y_Z_change [v0, v1, v2, v3, v4] rest h := qx_siteSW (As := [v0, v1, v2, v3, v4]) d_Z_law_290 (qu_in 680 (by decide +kernel) (by decide +kernel)) (qu_in 681 (by decide +kernel) (by decide +kernel)) (qu_in 0 (by decide +kernel) (by decide +kernel)) w_Z_change.1 (by decide) p_Z_change
theorem s_Z_law_322 {l : Launch} {G : qh_G} {h : qh_H} {b0 : Nat} {fs rest : List Value} {v0 v1 v2 : Value} (hb0 : h b0 = some (.inr (8, fs))) : qx_Site l G "QuorumLogLaw" c_Z_law 322 y_D_change (.ref b0 :: [v0, v1, v2]) rest h := qx_siteV (As := [v0, v1, v2]) (E := "QuorumLogModel") (ci := 8) d_Z_law_322 (qu_in 926 (by decide +kernel) (by decide +kernel)) (qu_in 927 (by decide +kernel) (by decide +kernel)) (qu_in 928 (by decide +kernel) (by decide +kernel)) w_D_change.1 (by decide) rfl p_D_change hb0
theorem s_Z_law_328 {l : Launch} {G : qh_G} {h : qh_H} {b0 : Nat} {fs rest : List Value} (hb0 : h b0 = some (.inr (8, fs))) : qx_Site l G "QuorumLogLaw" c_Z_law 328 y_D_thrown (.ref b0 :: []) rest h := qx_siteV (As := []) (E := "QuorumLogModel") (ci := 8) d_Z_law_328 (qu_in 809 (by decide +kernel) (by decide +kernel)) (qu_in 810 (by decide +kernel) (by decide +kernel)) (qu_in 811 (by decide +kernel) (by decide +kernel)) w_D_thrown.1 (by decide) rfl p_D_thrown hb0
theorem s_Z_law_372 {l : Launch} {G : qh_G} {h : qh_H} {rest : List Value} {v0 v1 v2 v3 : Value} : qx_Site l G "QuorumLogLaw" c_Z_law 372 y_Z_read [v0, v1, v2, v3] rest h := qx_siteSW (As := [v0, v1, v2, v3]) d_Z_law_372 (qu_in 695 (by decide +kernel) (by decide +kernel)) (qu_in 696 (by decide +kernel) (by decide +kernel)) (qu_in 0 (by decide +kernel) (by decide +kernel)) w_Z_read.1 (by decide) p_Z_read
theorem s_Z_law_390 {l : Launch} {G : qh_G} {h : qh_H} {b0 : Nat} {fs rest : List Value} {v0 v1 : Value} (hb0 : h b0 = some (.inr (8, fs))) : qx_Site l G "QuorumLogLaw" c_Z_law 390 y_D_read (.ref b0 :: [v0, v1]) rest h := qx_siteV (As := [v0, v1]) (E := "QuorumLogModel") (ci := 8) d_Z_law_390 (qu_in 934 (by decide +kernel) (by decide +kernel)) (qu_in 935 (by decide +kernel) (by decide +kernel)) (qu_in 936 (by decide +kernel) (by decide +kernel)) w_D_read.1 (by decide) rfl p_D_read hb0
theorem s_Z_law_396 {l : Launch} {G : qh_G} {h : qh_H} {b0 : Nat} {fs rest : List Value} (hb0 : h b0 = some (.inr (8, fs))) : qx_Site l G "QuorumLogLaw" c_Z_law 396 y_D_thrown (.ref b0 :: []) rest h := qx_siteV (As := []) (E := "QuorumLogModel") (ci := 8) d_Z_law_396 (qu_in 809 (by decide +kernel) (by decide +kernel)) (qu_in 810 (by decide +kernel) (by decide +kernel)) (qu_in 811 (by decide +kernel) (by decide +kernel)) w_D_thrown.1 (by decide) rfl p_D_thrown hb0
theorem s_Z_law_433 {l : Launch} {G : qh_G} {h : qh_H} {b0 : Nat} {fs rest : List Value} {v0 : Value} (hb0 : h b0 = some (.inr (0, fs))) : qx_Site l G "QuorumLogLaw" c_Z_law 433 y_Q_outcome (.ref b0 :: [v0]) rest h := qx_siteV (As := [v0]) (E := "QuorumLog") (ci := 0) d_Z_law_433 (qu_in 403 (by decide +kernel) (by decide +kernel)) (qu_in 404 (by decide +kernel) (by decide +kernel)) (qu_in 405 (by decide +kernel) (by decide +kernel)) w_Q_outcome.1 (by decide) rfl p_Q_outcome hb0
theorem s_Z_law_443 {l : Launch} {G : qh_G} {h : qh_H} {b0 : Nat} {fs rest : List Value} {v0 : Value} (hb0 : h b0 = some (.inr (8, fs))) : qx_Site l G "QuorumLogLaw" c_Z_law 443 y_D_outcome (.ref b0 :: [v0]) rest h := qx_siteV (As := [v0]) (E := "QuorumLogModel") (ci := 8) d_Z_law_443 (qu_in 946 (by decide +kernel) (by decide +kernel)) (qu_in 947 (by decide +kernel) (by decide +kernel)) (qu_in 948 (by decide +kernel) (by decide +kernel)) w_D_outcome.1 (by decide) rfl p_D_outcome hb0
theorem s_Z_law_458 {l : Launch} {G : qh_G} {h : qh_H} {b0 : Nat} {fs rest : List Value} {v0 : Value} (hb0 : h b0 = some (.inr (0, fs))) : qx_Site l G "QuorumLogLaw" c_Z_law 458 y_Q_value (.ref b0 :: [v0]) rest h := qx_siteV (As := [v0]) (E := "QuorumLog") (ci := 0) d_Z_law_458 (qu_in 411 (by decide +kernel) (by decide +kernel)) (qu_in 412 (by decide +kernel) (by decide +kernel)) (qu_in 413 (by decide +kernel) (by decide +kernel)) w_Q_value.1 (by decide) rfl p_Q_value hb0
theorem s_Z_law_468 {l : Launch} {G : qh_G} {h : qh_H} {b0 : Nat} {fs rest : List Value} {v0 : Value} (hb0 : h b0 = some (.inr (8, fs))) : qx_Site l G "QuorumLogLaw" c_Z_law 468 y_D_value (.ref b0 :: [v0]) rest h := qx_siteV (As := [v0]) (E := "QuorumLogModel") (ci := 8) d_Z_law_468 (qu_in 950 (by decide +kernel) (by decide +kernel)) (qu_in 951 (by decide +kernel) (by decide +kernel)) (qu_in 952 (by decide +kernel) (by decide +kernel)) w_D_value.1 (by decide) rfl p_D_value hb0
theorem s_Z_law_483 {l : Launch} {G : qh_G} {h : qh_H} {b0 : Nat} {fs rest : List Value} {v0 : Value} (hb0 : h b0 = some (.inr (0, fs))) : qx_Site l G "QuorumLogLaw" c_Z_law 483 y_Q_compact (.ref b0 :: [v0]) rest h := qx_siteV (As := [v0]) (E := "QuorumLog") (ci := 0) d_Z_law_483 (qu_in 415 (by decide +kernel) (by decide +kernel)) (qu_in 416 (by decide +kernel) (by decide +kernel)) (qu_in 417 (by decide +kernel) (by decide +kernel)) w_Q_compact.1 (by decide) rfl p_Q_compact hb0
theorem s_Z_law_493 {l : Launch} {G : qh_G} {h : qh_H} {b0 : Nat} {fs rest : List Value} {v0 : Value} (hb0 : h b0 = some (.inr (8, fs))) : qx_Site l G "QuorumLogLaw" c_Z_law 493 y_D_compact (.ref b0 :: [v0]) rest h := qx_siteV (As := [v0]) (E := "QuorumLogModel") (ci := 8) d_Z_law_493 (qu_in 954 (by decide +kernel) (by decide +kernel)) (qu_in 955 (by decide +kernel) (by decide +kernel)) (qu_in 956 (by decide +kernel) (by decide +kernel)) w_D_compact.1 (by decide) rfl p_D_compact hb0
theorem s_Z_law_508 {l : Launch} {G : qh_G} {h : qh_H} {b0 : Nat} {fs rest : List Value} {v0 : Value} (hb0 : h b0 = some (.inr (0, fs))) : qx_Site l G "QuorumLogLaw" c_Z_law 508 y_Q_crash (.ref b0 :: [v0]) rest h := qx_siteV (As := [v0]) (E := "QuorumLog") (ci := 0) d_Z_law_508 (qu_in 433 (by decide +kernel) (by decide +kernel)) (qu_in 434 (by decide +kernel) (by decide +kernel)) (qu_in 435 (by decide +kernel) (by decide +kernel)) w_Q_crash.1 (by decide) rfl p_Q_crash hb0
theorem s_Z_law_518 {l : Launch} {G : qh_G} {h : qh_H} {b0 : Nat} {fs rest : List Value} {v0 : Value} (hb0 : h b0 = some (.inr (8, fs))) : qx_Site l G "QuorumLogLaw" c_Z_law 518 y_D_crash (.ref b0 :: [v0]) rest h := qx_siteV (As := [v0]) (E := "QuorumLogModel") (ci := 8) d_Z_law_518 (qu_in 962 (by decide +kernel) (by decide +kernel)) (qu_in 963 (by decide +kernel) (by decide +kernel)) (qu_in 964 (by decide +kernel) (by decide +kernel)) w_D_crash.1 (by decide) rfl p_D_crash hb0
theorem s_Z_law_533 {l : Launch} {G : qh_G} {h : qh_H} {b0 : Nat} {fs rest : List Value} {v0 : Value} (hb0 : h b0 = some (.inr (0, fs))) : qx_Site l G "QuorumLogLaw" c_Z_law 533 y_Q_restart (.ref b0 :: [v0]) rest h := qx_siteV (As := [v0]) (E := "QuorumLog") (ci := 0) d_Z_law_533 (qu_in 437 (by decide +kernel) (by decide +kernel)) (qu_in 438 (by decide +kernel) (by decide +kernel)) (qu_in 439 (by decide +kernel) (by decide +kernel)) w_Q_restart.1 (by decide) rfl p_Q_restart hb0
theorem s_Z_law_543 {l : Launch} {G : qh_G} {h : qh_H} {b0 : Nat} {fs rest : List Value} {v0 : Value} (hb0 : h b0 = some (.inr (8, fs))) : qx_Site l G "QuorumLogLaw" c_Z_law 543 y_D_restart (.ref b0 :: [v0]) rest h := qx_siteV (As := [v0]) (E := "QuorumLogModel") (ci := 8) d_Z_law_543 (qu_in 966 (by decide +kernel) (by decide +kernel)) (qu_in 967 (by decide +kernel) (by decide +kernel)) (qu_in 968 (by decide +kernel) (by decide +kernel)) w_D_restart.1 (by decide) rfl p_D_restart hb0
theorem s_Z_law_558 {l : Launch} {G : qh_G} {h : qh_H} {b0 : Nat} {fs rest : List Value} {v0 : Value} (hb0 : h b0 = some (.inr (0, fs))) : qx_Site l G "QuorumLogLaw" c_Z_law 558 y_Q_deliver (.ref b0 :: [v0]) rest h := qx_siteV (As := [v0]) (E := "QuorumLog") (ci := 0) d_Z_law_558 (qu_in 441 (by decide +kernel) (by decide +kernel)) (qu_in 442 (by decide +kernel) (by decide +kernel)) (qu_in 443 (by decide +kernel) (by decide +kernel)) w_Q_deliver.1 (by decide) rfl p_Q_deliver hb0
theorem s_Z_law_568 {l : Launch} {G : qh_G} {h : qh_H} {b0 : Nat} {fs rest : List Value} {v0 : Value} (hb0 : h b0 = some (.inr (8, fs))) : qx_Site l G "QuorumLogLaw" c_Z_law 568 y_D_deliver (.ref b0 :: [v0]) rest h := qx_siteV (As := [v0]) (E := "QuorumLogModel") (ci := 8) d_Z_law_568 (qu_in 970 (by decide +kernel) (by decide +kernel)) (qu_in 971 (by decide +kernel) (by decide +kernel)) (qu_in 972 (by decide +kernel) (by decide +kernel)) w_D_deliver.1 (by decide) rfl p_D_deliver hb0
theorem s_Z_law_583 {l : Launch} {G : qh_G} {h : qh_H} {b0 : Nat} {fs rest : List Value} {v0 : Value} (hb0 : h b0 = some (.inr (0, fs))) : qx_Site l G "QuorumLogLaw" c_Z_law 583 y_Q_lose (.ref b0 :: [v0]) rest h := qx_siteV (As := [v0]) (E := "QuorumLog") (ci := 0) d_Z_law_583 (qu_in 535 (by decide +kernel) (by decide +kernel)) (qu_in 536 (by decide +kernel) (by decide +kernel)) (qu_in 537 (by decide +kernel) (by decide +kernel)) w_Q_lose.1 (by decide) rfl p_Q_lose hb0
theorem s_Z_law_593 {l : Launch} {G : qh_G} {h : qh_H} {b0 : Nat} {fs rest : List Value} {v0 : Value} (hb0 : h b0 = some (.inr (8, fs))) : qx_Site l G "QuorumLogLaw" c_Z_law 593 y_D_lose (.ref b0 :: [v0]) rest h := qx_siteV (As := [v0]) (E := "QuorumLogModel") (ci := 8) d_Z_law_593 (qu_in 1026 (by decide +kernel) (by decide +kernel)) (qu_in 1027 (by decide +kernel) (by decide +kernel)) (qu_in 1028 (by decide +kernel) (by decide +kernel)) w_D_lose.1 (by decide) rfl p_D_lose hb0
theorem s_Z_law_602 {l : Launch} {G : qh_G} {h : qh_H} {b0 : Nat} {fs rest : List Value} (hb0 : h b0 = some (.inr (0, fs))) : qx_Site l G "QuorumLogLaw" c_Z_law 602 y_Q_waiting (.ref b0 :: []) rest h := qx_siteV (As := []) (E := "QuorumLog") (ci := 0) d_Z_law_602 (qu_in 539 (by decide +kernel) (by decide +kernel)) (qu_in 540 (by decide +kernel) (by decide +kernel)) (qu_in 541 (by decide +kernel) (by decide +kernel)) w_Q_waiting.1 (by decide) rfl p_Q_waiting hb0
theorem s_Z_law_606 {l : Launch} {G : qh_G} {h : qh_H} {b0 : Nat} {fs rest : List Value} (hb0 : h b0 = some (.inr (8, fs))) : qx_Site l G "QuorumLogLaw" c_Z_law 606 y_D_waiting (.ref b0 :: []) rest h := qx_siteV (As := []) (E := "QuorumLogModel") (ci := 8) d_Z_law_606 (qu_in 1030 (by decide +kernel) (by decide +kernel)) (qu_in 1031 (by decide +kernel) (by decide +kernel)) (qu_in 1032 (by decide +kernel) (by decide +kernel)) w_D_waiting.1 (by decide) rfl p_D_waiting hb0
theorem s_Z_law_627 {l : Launch} {G : qh_G} {h : qh_H} {b0 : Nat} {fs rest : List Value} {v0 v1 : Value} (hb0 : h b0 = some (.inr (0, fs))) : qx_Site l G "QuorumLogLaw" c_Z_law 627 y_Q_message (.ref b0 :: [v0, v1]) rest h := qx_siteV (As := [v0, v1]) (E := "QuorumLog") (ci := 0) d_Z_law_627 (qu_in 543 (by decide +kernel) (by decide +kernel)) (qu_in 544 (by decide +kernel) (by decide +kernel)) (qu_in 545 (by decide +kernel) (by decide +kernel)) w_Q_message.1 (by decide) rfl p_Q_message hb0
theorem s_Z_law_643 {l : Launch} {G : qh_G} {h : qh_H} {b0 : Nat} {fs rest : List Value} {v0 v1 : Value} (hb0 : h b0 = some (.inr (8, fs))) : qx_Site l G "QuorumLogLaw" c_Z_law 643 y_D_message (.ref b0 :: [v0, v1]) rest h := qx_siteV (As := [v0, v1]) (E := "QuorumLogModel") (ci := 8) d_Z_law_643 (qu_in 1034 (by decide +kernel) (by decide +kernel)) (qu_in 1035 (by decide +kernel) (by decide +kernel)) (qu_in 1036 (by decide +kernel) (by decide +kernel)) w_D_message.1 (by decide) rfl p_D_message hb0
theorem s_Z_law_664 {l : Launch} {G : qh_G} {h : qh_H} {b0 : Nat} {fs rest : List Value} {v0 v1 : Value} (hb0 : h b0 = some (.inr (0, fs))) : qx_Site l G "QuorumLogLaw" c_Z_law 664 y_Q_state (.ref b0 :: [v0, v1]) rest h := qx_siteV (As := [v0, v1]) (E := "QuorumLog") (ci := 0) d_Z_law_664 (qu_in 547 (by decide +kernel) (by decide +kernel)) (qu_in 548 (by decide +kernel) (by decide +kernel)) (qu_in 549 (by decide +kernel) (by decide +kernel)) w_Q_state.1 (by decide) rfl p_Q_state hb0
theorem s_Z_law_680 {l : Launch} {G : qh_G} {h : qh_H} {b0 : Nat} {fs rest : List Value} {v0 v1 : Value} (hb0 : h b0 = some (.inr (8, fs))) : qx_Site l G "QuorumLogLaw" c_Z_law 680 y_D_state (.ref b0 :: [v0, v1]) rest h := qx_siteV (As := [v0, v1]) (E := "QuorumLogModel") (ci := 8) d_Z_law_680 (qu_in 1038 (by decide +kernel) (by decide +kernel)) (qu_in 1039 (by decide +kernel) (by decide +kernel)) (qu_in 1040 (by decide +kernel) (by decide +kernel)) w_D_state.1 (by decide) rfl p_D_state hb0
theorem s_Z_law_707 {l : Launch} {G : qh_G} {h : qh_H} {b0 : Nat} {fs rest : List Value} {v0 v1 v2 : Value} (hb0 : h b0 = some (.inr (0, fs))) : qx_Site l G "QuorumLogLaw" c_Z_law 707 y_Q_entry (.ref b0 :: [v0, v1, v2]) rest h := qx_siteV (As := [v0, v1, v2]) (E := "QuorumLog") (ci := 0) d_Z_law_707 (qu_in 551 (by decide +kernel) (by decide +kernel)) (qu_in 552 (by decide +kernel) (by decide +kernel)) (qu_in 553 (by decide +kernel) (by decide +kernel)) w_Q_entry.1 (by decide) rfl p_Q_entry hb0
theorem s_Z_law_729 {l : Launch} {G : qh_G} {h : qh_H} {b0 : Nat} {fs rest : List Value} {v0 v1 v2 : Value} (hb0 : h b0 = some (.inr (8, fs))) : qx_Site l G "QuorumLogLaw" c_Z_law 729 y_D_entry (.ref b0 :: [v0, v1, v2]) rest h := qx_siteV (As := [v0, v1, v2]) (E := "QuorumLogModel") (ci := 8) d_Z_law_729 (qu_in 1042 (by decide +kernel) (by decide +kernel)) (qu_in 1043 (by decide +kernel) (by decide +kernel)) (qu_in 1044 (by decide +kernel) (by decide +kernel)) w_D_entry.1 (by decide) rfl p_D_entry hb0
theorem s_Z_law_750 {l : Launch} {G : qh_G} {h : qh_H} {b0 : Nat} {fs rest : List Value} {v0 v1 : Value} (hb0 : h b0 = some (.inr (0, fs))) : qx_Site l G "QuorumLogLaw" c_Z_law 750 y_Q_stored (.ref b0 :: [v0, v1]) rest h := qx_siteV (As := [v0, v1]) (E := "QuorumLog") (ci := 0) d_Z_law_750 (qu_in 556 (by decide +kernel) (by decide +kernel)) (qu_in 557 (by decide +kernel) (by decide +kernel)) (qu_in 558 (by decide +kernel) (by decide +kernel)) w_Q_stored.1 (by decide) rfl p_Q_stored hb0
theorem s_Z_law_766 {l : Launch} {G : qh_G} {h : qh_H} {b0 : Nat} {fs rest : List Value} {v0 v1 : Value} (hb0 : h b0 = some (.inr (8, fs))) : qx_Site l G "QuorumLogLaw" c_Z_law 766 y_D_stored (.ref b0 :: [v0, v1]) rest h := qx_siteV (As := [v0, v1]) (E := "QuorumLogModel") (ci := 8) d_Z_law_766 (qu_in 1046 (by decide +kernel) (by decide +kernel)) (qu_in 1047 (by decide +kernel) (by decide +kernel)) (qu_in 1048 (by decide +kernel) (by decide +kernel)) w_D_stored.1 (by decide) rfl p_D_stored hb0
