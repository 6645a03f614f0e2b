theorem dL_law_0 : decode cL_law 0 = .ok (.new 7, 3) := by decide +kernel
theorem dL_law_3 : decode cL_law 3 = .ok (.dup, 1) := by decide +kernel
theorem dL_law_4 : decode cL_law 4 = .ok (.invokespecial 9, 3) := by decide +kernel
theorem dL_law_7 : decode cL_law 7 = .ok (.astore_n 1, 1) := by decide +kernel
theorem dL_law_8 : decode cL_law 8 = .ok (.new 10, 3) := by decide +kernel
theorem dL_law_11 : decode cL_law 11 = .ok (.dup, 1) := by decide +kernel
theorem dL_law_12 : decode cL_law 12 = .ok (.invokespecial 12, 3) := by decide +kernel
theorem dL_law_15 : decode cL_law 15 = .ok (.astore_n 2, 1) := by decide +kernel
theorem dL_law_16 : decode cL_law 16 = .ok (.iconst 0, 1) := by decide +kernel
theorem dL_law_17 : decode cL_law 17 = .ok (.istore_n 3, 1) := by decide +kernel
theorem dL_law_18 : decode cL_law 18 = .ok (.iload_n 3, 1) := by decide +kernel
theorem dL_law_19 : decode cL_law 19 = .ok (.aload_n 0, 1) := by decide +kernel
theorem dL_law_20 : decode cL_law 20 = .ok (.arraylength, 1) := by decide +kernel
theorem dL_law_21 : decode cL_law 21 = .ok (.iconst 5, 1) := by decide +kernel
theorem dL_law_22 : decode cL_law 22 = .ok (.isub, 1) := by decide +kernel
theorem dL_law_23 : decode cL_law 23 = .ok (.if_icmp .gt 695, 3) := by decide +kernel
theorem dL_law_26 : decode cL_law 26 = .ok (.aload_n 0, 1) := by decide +kernel
theorem dL_law_27 : decode cL_law 27 = .ok (.iload_n 3, 1) := by decide +kernel
theorem dL_law_28 : decode cL_law 28 = .ok (.iaload, 1) := by decide +kernel
theorem dL_law_29 : decode cL_law 29 = .ok (.bipush 31, 2) := by decide +kernel
theorem dL_law_31 : decode cL_law 31 = .ok (.iand, 1) := by decide +kernel
theorem dL_law_32 : decode cL_law 32 = .ok (.tableswitch 680 0 21 #[104, 127, 160, 193, 246, 269, 302, 315, 328, 351, 394, 427, 460, 493, 516, 559, 572, 595, 608, 631, 644, 667], 104) := by decide +kernel
theorem dL_law_136 : decode cL_law 136 = .ok (.aload_n 1, 1) := by decide +kernel
theorem dL_law_137 : decode cL_law 137 = .ok (.aload_n 0, 1) := by decide +kernel
theorem dL_law_138 : decode cL_law 138 = .ok (.iload_n 3, 1) := by decide +kernel
theorem dL_law_139 : decode cL_law 139 = .ok (.iconst 1, 1) := by decide +kernel
theorem dL_law_140 : decode cL_law 140 = .ok (.iadd, 1) := by decide +kernel
theorem dL_law_141 : decode cL_law 141 = .ok (.iaload, 1) := by decide +kernel
theorem dL_law_142 : decode cL_law 142 = .ok (.invokevirtual 13, 3) := by decide +kernel
theorem dL_law_145 : decode cL_law 145 = .ok (.aload_n 2, 1) := by decide +kernel
theorem dL_law_146 : decode cL_law 146 = .ok (.aload_n 0, 1) := by decide +kernel
theorem dL_law_147 : decode cL_law 147 = .ok (.iload_n 3, 1) := by decide +kernel
theorem dL_law_148 : decode cL_law 148 = .ok (.iconst 1, 1) := by decide +kernel
theorem dL_law_149 : decode cL_law 149 = .ok (.iadd, 1) := by decide +kernel
theorem dL_law_150 : decode cL_law 150 = .ok (.iaload, 1) := by decide +kernel
theorem dL_law_151 : decode cL_law 151 = .ok (.invokevirtual 17, 3) := by decide +kernel
theorem dL_law_154 : decode cL_law 154 = .ok (.if_icmp .eq 558, 3) := by decide +kernel
theorem dL_law_157 : decode cL_law 157 = .ok (.iconst 0, 1) := by decide +kernel
theorem dL_law_158 : decode cL_law 158 = .ok (.ireturn, 1) := by decide +kernel
theorem dL_law_159 : decode cL_law 159 = .ok (.aload_n 1, 1) := by decide +kernel
theorem dL_law_160 : decode cL_law 160 = .ok (.aload_n 0, 1) := by decide +kernel
theorem dL_law_161 : decode cL_law 161 = .ok (.iload_n 3, 1) := by decide +kernel
theorem dL_law_162 : decode cL_law 162 = .ok (.iconst 1, 1) := by decide +kernel
theorem dL_law_163 : decode cL_law 163 = .ok (.iadd, 1) := by decide +kernel
theorem dL_law_164 : decode cL_law 164 = .ok (.iaload, 1) := by decide +kernel
theorem dL_law_165 : decode cL_law 165 = .ok (.aload_n 0, 1) := by decide +kernel
theorem dL_law_166 : decode cL_law 166 = .ok (.iload_n 3, 1) := by decide +kernel
theorem dL_law_167 : decode cL_law 167 = .ok (.iconst 2, 1) := by decide +kernel
theorem dL_law_168 : decode cL_law 168 = .ok (.iadd, 1) := by decide +kernel
theorem dL_law_169 : decode cL_law 169 = .ok (.iaload, 1) := by decide +kernel
theorem dL_law_170 : decode cL_law 170 = .ok (.invokevirtual 18, 3) := by decide +kernel
theorem dL_law_173 : decode cL_law 173 = .ok (.aload_n 2, 1) := by decide +kernel
theorem dL_law_174 : decode cL_law 174 = .ok (.aload_n 0, 1) := by decide +kernel
theorem dL_law_175 : decode cL_law 175 = .ok (.iload_n 3, 1) := by decide +kernel
theorem dL_law_176 : decode cL_law 176 = .ok (.iconst 1, 1) := by decide +kernel
theorem dL_law_177 : decode cL_law 177 = .ok (.iadd, 1) := by decide +kernel
theorem dL_law_178 : decode cL_law 178 = .ok (.iaload, 1) := by decide +kernel
theorem dL_law_179 : decode cL_law 179 = .ok (.aload_n 0, 1) := by decide +kernel
theorem dL_law_180 : decode cL_law 180 = .ok (.iload_n 3, 1) := by decide +kernel
theorem dL_law_181 : decode cL_law 181 = .ok (.iconst 2, 1) := by decide +kernel
theorem dL_law_182 : decode cL_law 182 = .ok (.iadd, 1) := by decide +kernel
theorem dL_law_183 : decode cL_law 183 = .ok (.iaload, 1) := by decide +kernel
theorem dL_law_184 : decode cL_law 184 = .ok (.invokevirtual 22, 3) := by decide +kernel
theorem dL_law_187 : decode cL_law 187 = .ok (.if_icmp .eq 525, 3) := by decide +kernel
theorem dL_law_190 : decode cL_law 190 = .ok (.iconst 0, 1) := by decide +kernel
theorem dL_law_191 : decode cL_law 191 = .ok (.ireturn, 1) := by decide +kernel
theorem dL_law_192 : decode cL_law 192 = .ok (.aload_n 1, 1) := by decide +kernel
theorem dL_law_193 : decode cL_law 193 = .ok (.aload_n 0, 1) := by decide +kernel
theorem dL_law_194 : decode cL_law 194 = .ok (.iload_n 3, 1) := by decide +kernel
theorem dL_law_195 : decode cL_law 195 = .ok (.iconst 1, 1) := by decide +kernel
theorem dL_law_196 : decode cL_law 196 = .ok (.iadd, 1) := by decide +kernel
theorem dL_law_197 : decode cL_law 197 = .ok (.iaload, 1) := by decide +kernel
theorem dL_law_198 : decode cL_law 198 = .ok (.aload_n 0, 1) := by decide +kernel
theorem dL_law_199 : decode cL_law 199 = .ok (.iload_n 3, 1) := by decide +kernel
theorem dL_law_200 : decode cL_law 200 = .ok (.iconst 2, 1) := by decide +kernel
theorem dL_law_201 : decode cL_law 201 = .ok (.iadd, 1) := by decide +kernel
theorem dL_law_202 : decode cL_law 202 = .ok (.iaload, 1) := by decide +kernel
theorem dL_law_203 : decode cL_law 203 = .ok (.invokevirtual 23, 3) := by decide +kernel
theorem dL_law_206 : decode cL_law 206 = .ok (.aload_n 2, 1) := by decide +kernel
theorem dL_law_207 : decode cL_law 207 = .ok (.aload_n 0, 1) := by decide +kernel
theorem dL_law_208 : decode cL_law 208 = .ok (.iload_n 3, 1) := by decide +kernel
theorem dL_law_209 : decode cL_law 209 = .ok (.iconst 1, 1) := by decide +kernel
theorem dL_law_210 : decode cL_law 210 = .ok (.iadd, 1) := by decide +kernel
theorem dL_law_211 : decode cL_law 211 = .ok (.iaload, 1) := by decide +kernel
theorem dL_law_212 : decode cL_law 212 = .ok (.aload_n 0, 1) := by decide +kernel
theorem dL_law_213 : decode cL_law 213 = .ok (.iload_n 3, 1) := by decide +kernel
theorem dL_law_214 : decode cL_law 214 = .ok (.iconst 2, 1) := by decide +kernel
theorem dL_law_215 : decode cL_law 215 = .ok (.iadd, 1) := by decide +kernel
theorem dL_law_216 : decode cL_law 216 = .ok (.iaload, 1) := by decide +kernel
theorem dL_law_217 : decode cL_law 217 = .ok (.invokevirtual 26, 3) := by decide +kernel
theorem dL_law_220 : decode cL_law 220 = .ok (.if_icmp .eq 492, 3) := by decide +kernel
theorem dL_law_223 : decode cL_law 223 = .ok (.iconst 0, 1) := by decide +kernel
theorem dL_law_224 : decode cL_law 224 = .ok (.ireturn, 1) := by decide +kernel
theorem dL_law_225 : decode cL_law 225 = .ok (.aload_n 1, 1) := by decide +kernel
theorem dL_law_226 : decode cL_law 226 = .ok (.aload_n 0, 1) := by decide +kernel
theorem dL_law_227 : decode cL_law 227 = .ok (.iload_n 3, 1) := by decide +kernel
theorem dL_law_228 : decode cL_law 228 = .ok (.iconst 1, 1) := by decide +kernel
theorem dL_law_229 : decode cL_law 229 = .ok (.iadd, 1) := by decide +kernel
theorem dL_law_230 : decode cL_law 230 = .ok (.iaload, 1) := by decide +kernel
theorem dL_law_231 : decode cL_law 231 = .ok (.aload_n 0, 1) := by decide +kernel
theorem dL_law_232 : decode cL_law 232 = .ok (.iload_n 3, 1) := by decide +kernel
theorem dL_law_233 : decode cL_law 233 = .ok (.iconst 2, 1) := by decide +kernel
theorem dL_law_234 : decode cL_law 234 = .ok (.iadd, 1) := by decide +kernel
theorem dL_law_235 : decode cL_law 235 = .ok (.iaload, 1) := by decide +kernel
theorem dL_law_236 : decode cL_law 236 = .ok (.aload_n 0, 1) := by decide +kernel
theorem dL_law_237 : decode cL_law 237 = .ok (.iload_n 3, 1) := by decide +kernel
theorem dL_law_238 : decode cL_law 238 = .ok (.iconst 3, 1) := by decide +kernel
theorem dL_law_239 : decode cL_law 239 = .ok (.iadd, 1) := by decide +kernel
theorem dL_law_240 : decode cL_law 240 = .ok (.iaload, 1) := by decide +kernel
theorem dL_law_241 : decode cL_law 241 = .ok (.aload_n 0, 1) := by decide +kernel
theorem dL_law_242 : decode cL_law 242 = .ok (.iload_n 3, 1) := by decide +kernel
theorem dL_law_243 : decode cL_law 243 = .ok (.iconst 4, 1) := by decide +kernel
theorem dL_law_244 : decode cL_law 244 = .ok (.iadd, 1) := by decide +kernel
theorem dL_law_245 : decode cL_law 245 = .ok (.iaload, 1) := by decide +kernel
theorem dL_law_246 : decode cL_law 246 = .ok (.invokevirtual 27, 3) := by decide +kernel
theorem dL_law_249 : decode cL_law 249 = .ok (.aload_n 2, 1) := by decide +kernel
theorem dL_law_250 : decode cL_law 250 = .ok (.aload_n 0, 1) := by decide +kernel
theorem dL_law_251 : decode cL_law 251 = .ok (.iload_n 3, 1) := by decide +kernel
theorem dL_law_252 : decode cL_law 252 = .ok (.iconst 1, 1) := by decide +kernel
theorem dL_law_253 : decode cL_law 253 = .ok (.iadd, 1) := by decide +kernel
theorem dL_law_254 : decode cL_law 254 = .ok (.iaload, 1) := by decide +kernel
theorem dL_law_255 : decode cL_law 255 = .ok (.aload_n 0, 1) := by decide +kernel
theorem dL_law_256 : decode cL_law 256 = .ok (.iload_n 3, 1) := by decide +kernel
theorem dL_law_257 : decode cL_law 257 = .ok (.iconst 2, 1) := by decide +kernel
theorem dL_law_258 : decode cL_law 258 = .ok (.iadd, 1) := by decide +kernel
theorem dL_law_259 : decode cL_law 259 = .ok (.iaload, 1) := by decide +kernel
theorem dL_law_260 : decode cL_law 260 = .ok (.aload_n 0, 1) := by decide +kernel
theorem dL_law_261 : decode cL_law 261 = .ok (.iload_n 3, 1) := by decide +kernel
theorem dL_law_262 : decode cL_law 262 = .ok (.iconst 3, 1) := by decide +kernel
theorem dL_law_263 : decode cL_law 263 = .ok (.iadd, 1) := by decide +kernel
theorem dL_law_264 : decode cL_law 264 = .ok (.iaload, 1) := by decide +kernel
theorem dL_law_265 : decode cL_law 265 = .ok (.aload_n 0, 1) := by decide +kernel
theorem dL_law_266 : decode cL_law 266 = .ok (.iload_n 3, 1) := by decide +kernel
theorem dL_law_267 : decode cL_law 267 = .ok (.iconst 4, 1) := by decide +kernel
theorem dL_law_268 : decode cL_law 268 = .ok (.iadd, 1) := by decide +kernel
theorem dL_law_269 : decode cL_law 269 = .ok (.iaload, 1) := by decide +kernel
theorem dL_law_270 : decode cL_law 270 = .ok (.invokevirtual 31, 3) := by decide +kernel
theorem dL_law_273 : decode cL_law 273 = .ok (.if_icmp .eq 439, 3) := by decide +kernel
theorem dL_law_276 : decode cL_law 276 = .ok (.iconst 0, 1) := by decide +kernel
theorem dL_law_277 : decode cL_law 277 = .ok (.ireturn, 1) := by decide +kernel
theorem dL_law_278 : decode cL_law 278 = .ok (.aload_n 1, 1) := by decide +kernel
theorem dL_law_279 : decode cL_law 279 = .ok (.aload_n 0, 1) := by decide +kernel
theorem dL_law_280 : decode cL_law 280 = .ok (.iload_n 3, 1) := by decide +kernel
theorem dL_law_281 : decode cL_law 281 = .ok (.iconst 1, 1) := by decide +kernel
theorem dL_law_282 : decode cL_law 282 = .ok (.iadd, 1) := by decide +kernel
theorem dL_law_283 : decode cL_law 283 = .ok (.iaload, 1) := by decide +kernel
theorem dL_law_284 : decode cL_law 284 = .ok (.invokevirtual 32, 3) := by decide +kernel
theorem dL_law_287 : decode cL_law 287 = .ok (.aload_n 2, 1) := by decide +kernel
theorem dL_law_288 : decode cL_law 288 = .ok (.aload_n 0, 1) := by decide +kernel
theorem dL_law_289 : decode cL_law 289 = .ok (.iload_n 3, 1) := by decide +kernel
theorem dL_law_290 : decode cL_law 290 = .ok (.iconst 1, 1) := by decide +kernel
theorem dL_law_291 : decode cL_law 291 = .ok (.iadd, 1) := by decide +kernel
theorem dL_law_292 : decode cL_law 292 = .ok (.iaload, 1) := by decide +kernel
theorem dL_law_293 : decode cL_law 293 = .ok (.invokevirtual 35, 3) := by decide +kernel
theorem dL_law_296 : decode cL_law 296 = .ok (.if_icmp .eq 416, 3) := by decide +kernel
theorem dL_law_299 : decode cL_law 299 = .ok (.iconst 0, 1) := by decide +kernel
theorem dL_law_300 : decode cL_law 300 = .ok (.ireturn, 1) := by decide +kernel
theorem dL_law_301 : decode cL_law 301 = .ok (.aload_n 1, 1) := by decide +kernel
theorem dL_law_302 : decode cL_law 302 = .ok (.aload_n 0, 1) := by decide +kernel
theorem dL_law_303 : decode cL_law 303 = .ok (.iload_n 3, 1) := by decide +kernel
theorem dL_law_304 : decode cL_law 304 = .ok (.iconst 1, 1) := by decide +kernel
theorem dL_law_305 : decode cL_law 305 = .ok (.iadd, 1) := by decide +kernel
theorem dL_law_306 : decode cL_law 306 = .ok (.iaload, 1) := by decide +kernel
theorem dL_law_307 : decode cL_law 307 = .ok (.aload_n 0, 1) := by decide +kernel
theorem dL_law_308 : decode cL_law 308 = .ok (.iload_n 3, 1) := by decide +kernel
theorem dL_law_309 : decode cL_law 309 = .ok (.iconst 2, 1) := by decide +kernel
theorem dL_law_310 : decode cL_law 310 = .ok (.iadd, 1) := by decide +kernel
theorem dL_law_311 : decode cL_law 311 = .ok (.iaload, 1) := by decide +kernel
theorem dL_law_312 : decode cL_law 312 = .ok (.invokevirtual 36, 3) := by decide +kernel
theorem dL_law_315 : decode cL_law 315 = .ok (.aload_n 2, 1) := by decide +kernel
theorem dL_law_316 : decode cL_law 316 = .ok (.aload_n 0, 1) := by decide +kernel
theorem dL_law_317 : decode cL_law 317 = .ok (.iload_n 3, 1) := by decide +kernel
theorem dL_law_318 : decode cL_law 318 = .ok (.iconst 1, 1) := by decide +kernel
theorem dL_law_319 : decode cL_law 319 = .ok (.iadd, 1) := by decide +kernel
theorem dL_law_320 : decode cL_law 320 = .ok (.iaload, 1) := by decide +kernel
theorem dL_law_321 : decode cL_law 321 = .ok (.aload_n 0, 1) := by decide +kernel
theorem dL_law_322 : decode cL_law 322 = .ok (.iload_n 3, 1) := by decide +kernel
theorem dL_law_323 : decode cL_law 323 = .ok (.iconst 2, 1) := by decide +kernel
theorem dL_law_324 : decode cL_law 324 = .ok (.iadd, 1) := by decide +kernel
theorem dL_law_325 : decode cL_law 325 = .ok (.iaload, 1) := by decide +kernel
theorem dL_law_326 : decode cL_law 326 = .ok (.invokevirtual 39, 3) := by decide +kernel
theorem dL_law_329 : decode cL_law 329 = .ok (.if_icmp .eq 383, 3) := by decide +kernel
theorem dL_law_332 : decode cL_law 332 = .ok (.iconst 0, 1) := by decide +kernel
theorem dL_law_333 : decode cL_law 333 = .ok (.ireturn, 1) := by decide +kernel
theorem dL_law_334 : decode cL_law 334 = .ok (.aload_n 1, 1) := by decide +kernel
theorem dL_law_335 : decode cL_law 335 = .ok (.invokevirtual 40, 3) := by decide +kernel
theorem dL_law_338 : decode cL_law 338 = .ok (.aload_n 2, 1) := by decide +kernel
theorem dL_law_339 : decode cL_law 339 = .ok (.invokevirtual 44, 3) := by decide +kernel
theorem dL_law_342 : decode cL_law 342 = .ok (.if_icmp .eq 370, 3) := by decide +kernel
theorem dL_law_345 : decode cL_law 345 = .ok (.iconst 0, 1) := by decide +kernel
theorem dL_law_346 : decode cL_law 346 = .ok (.ireturn, 1) := by decide +kernel
theorem dL_law_347 : decode cL_law 347 = .ok (.aload_n 1, 1) := by decide +kernel
theorem dL_law_348 : decode cL_law 348 = .ok (.invokevirtual 45, 3) := by decide +kernel
theorem dL_law_351 : decode cL_law 351 = .ok (.aload_n 2, 1) := by decide +kernel
theorem dL_law_352 : decode cL_law 352 = .ok (.invokevirtual 48, 3) := by decide +kernel
theorem dL_law_355 : decode cL_law 355 = .ok (.if_icmp .eq 357, 3) := by decide +kernel
theorem dL_law_358 : decode cL_law 358 = .ok (.iconst 0, 1) := by decide +kernel
theorem dL_law_359 : decode cL_law 359 = .ok (.ireturn, 1) := by decide +kernel
theorem dL_law_360 : decode cL_law 360 = .ok (.aload_n 1, 1) := by decide +kernel
theorem dL_law_361 : decode cL_law 361 = .ok (.aload_n 0, 1) := by decide +kernel
theorem dL_law_362 : decode cL_law 362 = .ok (.iload_n 3, 1) := by decide +kernel
theorem dL_law_363 : decode cL_law 363 = .ok (.iconst 1, 1) := by decide +kernel
theorem dL_law_364 : decode cL_law 364 = .ok (.iadd, 1) := by decide +kernel
theorem dL_law_365 : decode cL_law 365 = .ok (.iaload, 1) := by decide +kernel
theorem dL_law_366 : decode cL_law 366 = .ok (.invokevirtual 49, 3) := by decide +kernel
theorem dL_law_369 : decode cL_law 369 = .ok (.aload_n 2, 1) := by decide +kernel
theorem dL_law_370 : decode cL_law 370 = .ok (.aload_n 0, 1) := by decide +kernel
theorem dL_law_371 : decode cL_law 371 = .ok (.iload_n 3, 1) := by decide +kernel
theorem dL_law_372 : decode cL_law 372 = .ok (.iconst 1, 1) := by decide +kernel
theorem dL_law_373 : decode cL_law 373 = .ok (.iadd, 1) := by decide +kernel
theorem dL_law_374 : decode cL_law 374 = .ok (.iaload, 1) := by decide +kernel
theorem dL_law_375 : decode cL_law 375 = .ok (.invokevirtual 52, 3) := by decide +kernel
theorem dL_law_378 : decode cL_law 378 = .ok (.if_icmp .eq 334, 3) := by decide +kernel
theorem dL_law_381 : decode cL_law 381 = .ok (.iconst 0, 1) := by decide +kernel
theorem dL_law_382 : decode cL_law 382 = .ok (.ireturn, 1) := by decide +kernel
theorem dL_law_383 : decode cL_law 383 = .ok (.aload_n 1, 1) := by decide +kernel
theorem dL_law_384 : decode cL_law 384 = .ok (.aload_n 0, 1) := by decide +kernel
theorem dL_law_385 : decode cL_law 385 = .ok (.iload_n 3, 1) := by decide +kernel
theorem dL_law_386 : decode cL_law 386 = .ok (.iconst 1, 1) := by decide +kernel
theorem dL_law_387 : decode cL_law 387 = .ok (.iadd, 1) := by decide +kernel
theorem dL_law_388 : decode cL_law 388 = .ok (.iaload, 1) := by decide +kernel
theorem dL_law_389 : decode cL_law 389 = .ok (.aload_n 0, 1) := by decide +kernel
theorem dL_law_390 : decode cL_law 390 = .ok (.iload_n 3, 1) := by decide +kernel
theorem dL_law_391 : decode cL_law 391 = .ok (.iconst 2, 1) := by decide +kernel
theorem dL_law_392 : decode cL_law 392 = .ok (.iadd, 1) := by decide +kernel
theorem dL_law_393 : decode cL_law 393 = .ok (.iaload, 1) := by decide +kernel
theorem dL_law_394 : decode cL_law 394 = .ok (.aload_n 0, 1) := by decide +kernel
theorem dL_law_395 : decode cL_law 395 = .ok (.iload_n 3, 1) := by decide +kernel
theorem dL_law_396 : decode cL_law 396 = .ok (.iconst 3, 1) := by decide +kernel
theorem dL_law_397 : decode cL_law 397 = .ok (.iadd, 1) := by decide +kernel
theorem dL_law_398 : decode cL_law 398 = .ok (.iaload, 1) := by decide +kernel
theorem dL_law_399 : decode cL_law 399 = .ok (.invokevirtual 53, 3) := by decide +kernel
theorem dL_law_402 : decode cL_law 402 = .ok (.aload_n 2, 1) := by decide +kernel
theorem dL_law_403 : decode cL_law 403 = .ok (.aload_n 0, 1) := by decide +kernel
theorem dL_law_404 : decode cL_law 404 = .ok (.iload_n 3, 1) := by decide +kernel
theorem dL_law_405 : decode cL_law 405 = .ok (.iconst 1, 1) := by decide +kernel
theorem dL_law_406 : decode cL_law 406 = .ok (.iadd, 1) := by decide +kernel
theorem dL_law_407 : decode cL_law 407 = .ok (.iaload, 1) := by decide +kernel
theorem dL_law_408 : decode cL_law 408 = .ok (.aload_n 0, 1) := by decide +kernel
theorem dL_law_409 : decode cL_law 409 = .ok (.iload_n 3, 1) := by decide +kernel
theorem dL_law_410 : decode cL_law 410 = .ok (.iconst 2, 1) := by decide +kernel
theorem dL_law_411 : decode cL_law 411 = .ok (.iadd, 1) := by decide +kernel
theorem dL_law_412 : decode cL_law 412 = .ok (.iaload, 1) := by decide +kernel
theorem dL_law_413 : decode cL_law 413 = .ok (.aload_n 0, 1) := by decide +kernel
theorem dL_law_414 : decode cL_law 414 = .ok (.iload_n 3, 1) := by decide +kernel
theorem dL_law_415 : decode cL_law 415 = .ok (.iconst 3, 1) := by decide +kernel
theorem dL_law_416 : decode cL_law 416 = .ok (.iadd, 1) := by decide +kernel
theorem dL_law_417 : decode cL_law 417 = .ok (.iaload, 1) := by decide +kernel
theorem dL_law_418 : decode cL_law 418 = .ok (.invokevirtual 57, 3) := by decide +kernel
theorem dL_law_421 : decode cL_law 421 = .ok (.if_icmp .eq 291, 3) := by decide +kernel
theorem dL_law_424 : decode cL_law 424 = .ok (.iconst 0, 1) := by decide +kernel
theorem dL_law_425 : decode cL_law 425 = .ok (.ireturn, 1) := by decide +kernel
theorem dL_law_426 : decode cL_law 426 = .ok (.aload_n 1, 1) := by decide +kernel
theorem dL_law_427 : decode cL_law 427 = .ok (.aload_n 0, 1) := by decide +kernel
theorem dL_law_428 : decode cL_law 428 = .ok (.iload_n 3, 1) := by decide +kernel
theorem dL_law_429 : decode cL_law 429 = .ok (.iconst 1, 1) := by decide +kernel
theorem dL_law_430 : decode cL_law 430 = .ok (.iadd, 1) := by decide +kernel
theorem dL_law_431 : decode cL_law 431 = .ok (.iaload, 1) := by decide +kernel
theorem dL_law_432 : decode cL_law 432 = .ok (.aload_n 0, 1) := by decide +kernel
theorem dL_law_433 : decode cL_law 433 = .ok (.iload_n 3, 1) := by decide +kernel
theorem dL_law_434 : decode cL_law 434 = .ok (.iconst 2, 1) := by decide +kernel
theorem dL_law_435 : decode cL_law 435 = .ok (.iadd, 1) := by decide +kernel
theorem dL_law_436 : decode cL_law 436 = .ok (.iaload, 1) := by decide +kernel
theorem dL_law_437 : decode cL_law 437 = .ok (.invokevirtual 58, 3) := by decide +kernel
theorem dL_law_440 : decode cL_law 440 = .ok (.aload_n 2, 1) := by decide +kernel
theorem dL_law_441 : decode cL_law 441 = .ok (.aload_n 0, 1) := by decide +kernel
theorem dL_law_442 : decode cL_law 442 = .ok (.iload_n 3, 1) := by decide +kernel
theorem dL_law_443 : decode cL_law 443 = .ok (.iconst 1, 1) := by decide +kernel
theorem dL_law_444 : decode cL_law 444 = .ok (.iadd, 1) := by decide +kernel
theorem dL_law_445 : decode cL_law 445 = .ok (.iaload, 1) := by decide +kernel
theorem dL_law_446 : decode cL_law 446 = .ok (.aload_n 0, 1) := by decide +kernel
theorem dL_law_447 : decode cL_law 447 = .ok (.iload_n 3, 1) := by decide +kernel
theorem dL_law_448 : decode cL_law 448 = .ok (.iconst 2, 1) := by decide +kernel
theorem dL_law_449 : decode cL_law 449 = .ok (.iadd, 1) := by decide +kernel
theorem dL_law_450 : decode cL_law 450 = .ok (.iaload, 1) := by decide +kernel
theorem dL_law_451 : decode cL_law 451 = .ok (.invokevirtual 61, 3) := by decide +kernel
theorem dL_law_454 : decode cL_law 454 = .ok (.if_icmp .eq 258, 3) := by decide +kernel
theorem dL_law_457 : decode cL_law 457 = .ok (.iconst 0, 1) := by decide +kernel
theorem dL_law_458 : decode cL_law 458 = .ok (.ireturn, 1) := by decide +kernel
theorem dL_law_459 : decode cL_law 459 = .ok (.aload_n 1, 1) := by decide +kernel
theorem dL_law_460 : decode cL_law 460 = .ok (.aload_n 0, 1) := by decide +kernel
theorem dL_law_461 : decode cL_law 461 = .ok (.iload_n 3, 1) := by decide +kernel
theorem dL_law_462 : decode cL_law 462 = .ok (.iconst 1, 1) := by decide +kernel
theorem dL_law_463 : decode cL_law 463 = .ok (.iadd, 1) := by decide +kernel
theorem dL_law_464 : decode cL_law 464 = .ok (.iaload, 1) := by decide +kernel
theorem dL_law_465 : decode cL_law 465 = .ok (.aload_n 0, 1) := by decide +kernel
theorem dL_law_466 : decode cL_law 466 = .ok (.iload_n 3, 1) := by decide +kernel
theorem dL_law_467 : decode cL_law 467 = .ok (.iconst 2, 1) := by decide +kernel
theorem dL_law_468 : decode cL_law 468 = .ok (.iadd, 1) := by decide +kernel
theorem dL_law_469 : decode cL_law 469 = .ok (.iaload, 1) := by decide +kernel
theorem dL_law_470 : decode cL_law 470 = .ok (.invokevirtual 62, 3) := by decide +kernel
theorem dL_law_473 : decode cL_law 473 = .ok (.aload_n 2, 1) := by decide +kernel
theorem dL_law_474 : decode cL_law 474 = .ok (.aload_n 0, 1) := by decide +kernel
theorem dL_law_475 : decode cL_law 475 = .ok (.iload_n 3, 1) := by decide +kernel
theorem dL_law_476 : decode cL_law 476 = .ok (.iconst 1, 1) := by decide +kernel
theorem dL_law_477 : decode cL_law 477 = .ok (.iadd, 1) := by decide +kernel
theorem dL_law_478 : decode cL_law 478 = .ok (.iaload, 1) := by decide +kernel
theorem dL_law_479 : decode cL_law 479 = .ok (.aload_n 0, 1) := by decide +kernel
theorem dL_law_480 : decode cL_law 480 = .ok (.iload_n 3, 1) := by decide +kernel
theorem dL_law_481 : decode cL_law 481 = .ok (.iconst 2, 1) := by decide +kernel
theorem dL_law_482 : decode cL_law 482 = .ok (.iadd, 1) := by decide +kernel
theorem dL_law_483 : decode cL_law 483 = .ok (.iaload, 1) := by decide +kernel
theorem dL_law_484 : decode cL_law 484 = .ok (.invokevirtual 65, 3) := by decide +kernel
theorem dL_law_487 : decode cL_law 487 = .ok (.if_icmp .eq 225, 3) := by decide +kernel
theorem dL_law_490 : decode cL_law 490 = .ok (.iconst 0, 1) := by decide +kernel
theorem dL_law_491 : decode cL_law 491 = .ok (.ireturn, 1) := by decide +kernel
theorem dL_law_492 : decode cL_law 492 = .ok (.aload_n 1, 1) := by decide +kernel
theorem dL_law_493 : decode cL_law 493 = .ok (.aload_n 0, 1) := by decide +kernel
theorem dL_law_494 : decode cL_law 494 = .ok (.iload_n 3, 1) := by decide +kernel
theorem dL_law_495 : decode cL_law 495 = .ok (.iconst 1, 1) := by decide +kernel
theorem dL_law_496 : decode cL_law 496 = .ok (.iadd, 1) := by decide +kernel
theorem dL_law_497 : decode cL_law 497 = .ok (.iaload, 1) := by decide +kernel
theorem dL_law_498 : decode cL_law 498 = .ok (.aload_n 0, 1) := by decide +kernel
theorem dL_law_499 : decode cL_law 499 = .ok (.iload_n 3, 1) := by decide +kernel
theorem dL_law_500 : decode cL_law 500 = .ok (.iconst 2, 1) := by decide +kernel
theorem dL_law_501 : decode cL_law 501 = .ok (.iadd, 1) := by decide +kernel
theorem dL_law_502 : decode cL_law 502 = .ok (.iaload, 1) := by decide +kernel
theorem dL_law_503 : decode cL_law 503 = .ok (.invokevirtual 66, 3) := by decide +kernel
theorem dL_law_506 : decode cL_law 506 = .ok (.aload_n 2, 1) := by decide +kernel
theorem dL_law_507 : decode cL_law 507 = .ok (.aload_n 0, 1) := by decide +kernel
theorem dL_law_508 : decode cL_law 508 = .ok (.iload_n 3, 1) := by decide +kernel
theorem dL_law_509 : decode cL_law 509 = .ok (.iconst 1, 1) := by decide +kernel
theorem dL_law_510 : decode cL_law 510 = .ok (.iadd, 1) := by decide +kernel
theorem dL_law_511 : decode cL_law 511 = .ok (.iaload, 1) := by decide +kernel
theorem dL_law_512 : decode cL_law 512 = .ok (.aload_n 0, 1) := by decide +kernel
theorem dL_law_513 : decode cL_law 513 = .ok (.iload_n 3, 1) := by decide +kernel
theorem dL_law_514 : decode cL_law 514 = .ok (.iconst 2, 1) := by decide +kernel
theorem dL_law_515 : decode cL_law 515 = .ok (.iadd, 1) := by decide +kernel
theorem dL_law_516 : decode cL_law 516 = .ok (.iaload, 1) := by decide +kernel
theorem dL_law_517 : decode cL_law 517 = .ok (.invokevirtual 69, 3) := by decide +kernel
theorem dL_law_520 : decode cL_law 520 = .ok (.if_icmp .eq 192, 3) := by decide +kernel
theorem dL_law_523 : decode cL_law 523 = .ok (.iconst 0, 1) := by decide +kernel
theorem dL_law_524 : decode cL_law 524 = .ok (.ireturn, 1) := by decide +kernel
theorem dL_law_525 : decode cL_law 525 = .ok (.aload_n 1, 1) := by decide +kernel
theorem dL_law_526 : decode cL_law 526 = .ok (.aload_n 0, 1) := by decide +kernel
theorem dL_law_527 : decode cL_law 527 = .ok (.iload_n 3, 1) := by decide +kernel
theorem dL_law_528 : decode cL_law 528 = .ok (.iconst 1, 1) := by decide +kernel
theorem dL_law_529 : decode cL_law 529 = .ok (.iadd, 1) := by decide +kernel
theorem dL_law_530 : decode cL_law 530 = .ok (.iaload, 1) := by decide +kernel
theorem dL_law_531 : decode cL_law 531 = .ok (.invokevirtual 70, 3) := by decide +kernel
theorem dL_law_534 : decode cL_law 534 = .ok (.aload_n 2, 1) := by decide +kernel
theorem dL_law_535 : decode cL_law 535 = .ok (.aload_n 0, 1) := by decide +kernel
theorem dL_law_536 : decode cL_law 536 = .ok (.iload_n 3, 1) := by decide +kernel
theorem dL_law_537 : decode cL_law 537 = .ok (.iconst 1, 1) := by decide +kernel
theorem dL_law_538 : decode cL_law 538 = .ok (.iadd, 1) := by decide +kernel
theorem dL_law_539 : decode cL_law 539 = .ok (.iaload, 1) := by decide +kernel
theorem dL_law_540 : decode cL_law 540 = .ok (.invokevirtual 73, 3) := by decide +kernel
theorem dL_law_543 : decode cL_law 543 = .ok (.if_icmp .eq 169, 3) := by decide +kernel
theorem dL_law_546 : decode cL_law 546 = .ok (.iconst 0, 1) := by decide +kernel
theorem dL_law_547 : decode cL_law 547 = .ok (.ireturn, 1) := by decide +kernel
theorem dL_law_548 : decode cL_law 548 = .ok (.aload_n 1, 1) := by decide +kernel
theorem dL_law_549 : decode cL_law 549 = .ok (.aload_n 0, 1) := by decide +kernel
theorem dL_law_550 : decode cL_law 550 = .ok (.iload_n 3, 1) := by decide +kernel
theorem dL_law_551 : decode cL_law 551 = .ok (.iconst 1, 1) := by decide +kernel
theorem dL_law_552 : decode cL_law 552 = .ok (.iadd, 1) := by decide +kernel
theorem dL_law_553 : decode cL_law 553 = .ok (.iaload, 1) := by decide +kernel
theorem dL_law_554 : decode cL_law 554 = .ok (.aload_n 0, 1) := by decide +kernel
theorem dL_law_555 : decode cL_law 555 = .ok (.iload_n 3, 1) := by decide +kernel
theorem dL_law_556 : decode cL_law 556 = .ok (.iconst 2, 1) := by decide +kernel
theorem dL_law_557 : decode cL_law 557 = .ok (.iadd, 1) := by decide +kernel
theorem dL_law_558 : decode cL_law 558 = .ok (.iaload, 1) := by decide +kernel
theorem dL_law_559 : decode cL_law 559 = .ok (.aload_n 0, 1) := by decide +kernel
theorem dL_law_560 : decode cL_law 560 = .ok (.iload_n 3, 1) := by decide +kernel
theorem dL_law_561 : decode cL_law 561 = .ok (.iconst 3, 1) := by decide +kernel
theorem dL_law_562 : decode cL_law 562 = .ok (.iadd, 1) := by decide +kernel
theorem dL_law_563 : decode cL_law 563 = .ok (.iaload, 1) := by decide +kernel
theorem dL_law_564 : decode cL_law 564 = .ok (.invokevirtual 74, 3) := by decide +kernel
theorem dL_law_567 : decode cL_law 567 = .ok (.aload_n 2, 1) := by decide +kernel
theorem dL_law_568 : decode cL_law 568 = .ok (.aload_n 0, 1) := by decide +kernel
theorem dL_law_569 : decode cL_law 569 = .ok (.iload_n 3, 1) := by decide +kernel
theorem dL_law_570 : decode cL_law 570 = .ok (.iconst 1, 1) := by decide +kernel
theorem dL_law_571 : decode cL_law 571 = .ok (.iadd, 1) := by decide +kernel
theorem dL_law_572 : decode cL_law 572 = .ok (.iaload, 1) := by decide +kernel
theorem dL_law_573 : decode cL_law 573 = .ok (.aload_n 0, 1) := by decide +kernel
theorem dL_law_574 : decode cL_law 574 = .ok (.iload_n 3, 1) := by decide +kernel
theorem dL_law_575 : decode cL_law 575 = .ok (.iconst 2, 1) := by decide +kernel
theorem dL_law_576 : decode cL_law 576 = .ok (.iadd, 1) := by decide +kernel
theorem dL_law_577 : decode cL_law 577 = .ok (.iaload, 1) := by decide +kernel
theorem dL_law_578 : decode cL_law 578 = .ok (.aload_n 0, 1) := by decide +kernel
theorem dL_law_579 : decode cL_law 579 = .ok (.iload_n 3, 1) := by decide +kernel
theorem dL_law_580 : decode cL_law 580 = .ok (.iconst 3, 1) := by decide +kernel
theorem dL_law_581 : decode cL_law 581 = .ok (.iadd, 1) := by decide +kernel
theorem dL_law_582 : decode cL_law 582 = .ok (.iaload, 1) := by decide +kernel
theorem dL_law_583 : decode cL_law 583 = .ok (.invokevirtual 77, 3) := by decide +kernel
theorem dL_law_586 : decode cL_law 586 = .ok (.if_icmp .eq 126, 3) := by decide +kernel
theorem dL_law_589 : decode cL_law 589 = .ok (.iconst 0, 1) := by decide +kernel
theorem dL_law_590 : decode cL_law 590 = .ok (.ireturn, 1) := by decide +kernel
theorem dL_law_591 : decode cL_law 591 = .ok (.aload_n 1, 1) := by decide +kernel
theorem dL_law_592 : decode cL_law 592 = .ok (.invokevirtual 78, 3) := by decide +kernel
theorem dL_law_595 : decode cL_law 595 = .ok (.aload_n 2, 1) := by decide +kernel
theorem dL_law_596 : decode cL_law 596 = .ok (.invokevirtual 81, 3) := by decide +kernel
theorem dL_law_599 : decode cL_law 599 = .ok (.if_icmp .eq 113, 3) := by decide +kernel
theorem dL_law_602 : decode cL_law 602 = .ok (.iconst 0, 1) := by decide +kernel
theorem dL_law_603 : decode cL_law 603 = .ok (.ireturn, 1) := by decide +kernel
theorem dL_law_604 : decode cL_law 604 = .ok (.aload_n 1, 1) := by decide +kernel
theorem dL_law_605 : decode cL_law 605 = .ok (.aload_n 0, 1) := by decide +kernel
theorem dL_law_606 : decode cL_law 606 = .ok (.iload_n 3, 1) := by decide +kernel
theorem dL_law_607 : decode cL_law 607 = .ok (.iconst 1, 1) := by decide +kernel
theorem dL_law_608 : decode cL_law 608 = .ok (.iadd, 1) := by decide +kernel
theorem dL_law_609 : decode cL_law 609 = .ok (.iaload, 1) := by decide +kernel
theorem dL_law_610 : decode cL_law 610 = .ok (.invokevirtual 82, 3) := by decide +kernel
theorem dL_law_613 : decode cL_law 613 = .ok (.aload_n 2, 1) := by decide +kernel
theorem dL_law_614 : decode cL_law 614 = .ok (.aload_n 0, 1) := by decide +kernel
theorem dL_law_615 : decode cL_law 615 = .ok (.iload_n 3, 1) := by decide +kernel
theorem dL_law_616 : decode cL_law 616 = .ok (.iconst 1, 1) := by decide +kernel
theorem dL_law_617 : decode cL_law 617 = .ok (.iadd, 1) := by decide +kernel
theorem dL_law_618 : decode cL_law 618 = .ok (.iaload, 1) := by decide +kernel
theorem dL_law_619 : decode cL_law 619 = .ok (.invokevirtual 85, 3) := by decide +kernel
theorem dL_law_622 : decode cL_law 622 = .ok (.if_icmp .eq 90, 3) := by decide +kernel
theorem dL_law_625 : decode cL_law 625 = .ok (.iconst 0, 1) := by decide +kernel
theorem dL_law_626 : decode cL_law 626 = .ok (.ireturn, 1) := by decide +kernel
theorem dL_law_627 : decode cL_law 627 = .ok (.aload_n 1, 1) := by decide +kernel
theorem dL_law_628 : decode cL_law 628 = .ok (.invokevirtual 86, 3) := by decide +kernel
theorem dL_law_631 : decode cL_law 631 = .ok (.aload_n 2, 1) := by decide +kernel
theorem dL_law_632 : decode cL_law 632 = .ok (.invokevirtual 89, 3) := by decide +kernel
theorem dL_law_635 : decode cL_law 635 = .ok (.if_icmp .eq 77, 3) := by decide +kernel
theorem dL_law_638 : decode cL_law 638 = .ok (.iconst 0, 1) := by decide +kernel
theorem dL_law_639 : decode cL_law 639 = .ok (.ireturn, 1) := by decide +kernel
theorem dL_law_640 : decode cL_law 640 = .ok (.aload_n 1, 1) := by decide +kernel
theorem dL_law_641 : decode cL_law 641 = .ok (.aload_n 0, 1) := by decide +kernel
theorem dL_law_642 : decode cL_law 642 = .ok (.iload_n 3, 1) := by decide +kernel
theorem dL_law_643 : decode cL_law 643 = .ok (.iconst 1, 1) := by decide +kernel
theorem dL_law_644 : decode cL_law 644 = .ok (.iadd, 1) := by decide +kernel
theorem dL_law_645 : decode cL_law 645 = .ok (.iaload, 1) := by decide +kernel
theorem dL_law_646 : decode cL_law 646 = .ok (.invokevirtual 90, 3) := by decide +kernel
theorem dL_law_649 : decode cL_law 649 = .ok (.aload_n 2, 1) := by decide +kernel
theorem dL_law_650 : decode cL_law 650 = .ok (.aload_n 0, 1) := by decide +kernel
theorem dL_law_651 : decode cL_law 651 = .ok (.iload_n 3, 1) := by decide +kernel
theorem dL_law_652 : decode cL_law 652 = .ok (.iconst 1, 1) := by decide +kernel
theorem dL_law_653 : decode cL_law 653 = .ok (.iadd, 1) := by decide +kernel
theorem dL_law_654 : decode cL_law 654 = .ok (.iaload, 1) := by decide +kernel
theorem dL_law_655 : decode cL_law 655 = .ok (.invokevirtual 93, 3) := by decide +kernel
theorem dL_law_658 : decode cL_law 658 = .ok (.if_icmp .eq 54, 3) := by decide +kernel
theorem dL_law_661 : decode cL_law 661 = .ok (.iconst 0, 1) := by decide +kernel
theorem dL_law_662 : decode cL_law 662 = .ok (.ireturn, 1) := by decide +kernel
theorem dL_law_663 : decode cL_law 663 = .ok (.aload_n 1, 1) := by decide +kernel
theorem dL_law_664 : decode cL_law 664 = .ok (.invokevirtual 94, 3) := by decide +kernel
theorem dL_law_667 : decode cL_law 667 = .ok (.aload_n 2, 1) := by decide +kernel
theorem dL_law_668 : decode cL_law 668 = .ok (.invokevirtual 97, 3) := by decide +kernel
theorem dL_law_671 : decode cL_law 671 = .ok (.if_icmp .eq 41, 3) := by decide +kernel
theorem dL_law_674 : decode cL_law 674 = .ok (.iconst 0, 1) := by decide +kernel
theorem dL_law_675 : decode cL_law 675 = .ok (.ireturn, 1) := by decide +kernel
theorem dL_law_676 : decode cL_law 676 = .ok (.aload_n 1, 1) := by decide +kernel
theorem dL_law_677 : decode cL_law 677 = .ok (.aload_n 0, 1) := by decide +kernel
theorem dL_law_678 : decode cL_law 678 = .ok (.iload_n 3, 1) := by decide +kernel
theorem dL_law_679 : decode cL_law 679 = .ok (.iconst 1, 1) := by decide +kernel
theorem dL_law_680 : decode cL_law 680 = .ok (.iadd, 1) := by decide +kernel
theorem dL_law_681 : decode cL_law 681 = .ok (.iaload, 1) := by decide +kernel
theorem dL_law_682 : decode cL_law 682 = .ok (.invokevirtual 98, 3) := by decide +kernel
theorem dL_law_685 : decode cL_law 685 = .ok (.aload_n 2, 1) := by decide +kernel
theorem dL_law_686 : decode cL_law 686 = .ok (.aload_n 0, 1) := by decide +kernel
theorem dL_law_687 : decode cL_law 687 = .ok (.iload_n 3, 1) := by decide +kernel
theorem dL_law_688 : decode cL_law 688 = .ok (.iconst 1, 1) := by decide +kernel
theorem dL_law_689 : decode cL_law 689 = .ok (.iadd, 1) := by decide +kernel
theorem dL_law_690 : decode cL_law 690 = .ok (.iaload, 1) := by decide +kernel
theorem dL_law_691 : decode cL_law 691 = .ok (.invokevirtual 101, 3) := by decide +kernel
theorem dL_law_694 : decode cL_law 694 = .ok (.if_icmp .eq 18, 3) := by decide +kernel
theorem dL_law_697 : decode cL_law 697 = .ok (.iconst 0, 1) := by decide +kernel
theorem dL_law_698 : decode cL_law 698 = .ok (.ireturn, 1) := by decide +kernel
theorem dL_law_699 : decode cL_law 699 = .ok (.aload_n 1, 1) := by decide +kernel
theorem dL_law_700 : decode cL_law 700 = .ok (.invokevirtual 102, 3) := by decide +kernel
theorem dL_law_703 : decode cL_law 703 = .ok (.aload_n 2, 1) := by decide +kernel
theorem dL_law_704 : decode cL_law 704 = .ok (.invokevirtual 105, 3) := by decide +kernel
theorem dL_law_707 : decode cL_law 707 = .ok (.if_icmp .eq 5, 3) := by decide +kernel
theorem dL_law_710 : decode cL_law 710 = .ok (.iconst 0, 1) := by decide +kernel
theorem dL_law_711 : decode cL_law 711 = .ok (.ireturn, 1) := by decide +kernel
theorem dL_law_712 : decode cL_law 712 = .ok (.iinc 3 5, 3) := by decide +kernel
theorem dL_law_715 : decode cL_law 715 = .ok (.goto (-697), 3) := by decide +kernel
theorem dL_law_718 : decode cL_law 718 = .ok (.iconst 1, 1) := by decide +kernel
theorem dL_law_719 : decode cL_law 719 = .ok (.ireturn, 1) := by decide +kernel
theorem dX0_init_0 : decode cX0_init 0 = .ok (.aload_n 0, 1) := by decide +kernel
theorem dX0_init_1 : decode cX0_init 1 = .ok (.invokespecial 3, 3) := by decide +kernel
theorem dX0_init_4 : decode cX0_init 4 = .ok (.aload_n 0, 1) := by decide +kernel
theorem dX0_init_5 : decode cX0_init 5 = .ok (.bipush 8, 2) := by decide +kernel
theorem dX0_init_7 : decode cX0_init 7 = .ok (.newarray .int, 2) := by decide +kernel
theorem dX0_init_9 : decode cX0_init 9 = .ok (.putfield 9, 3) := by decide +kernel
theorem dX0_init_12 : decode cX0_init 12 = .ok (.aload_n 0, 1) := by decide +kernel
theorem dX0_init_13 : decode cX0_init 13 = .ok (.bipush 8, 2) := by decide +kernel
theorem dX0_init_15 : decode cX0_init 15 = .ok (.newarray .int, 2) := by decide +kernel
theorem dX0_init_17 : decode cX0_init 17 = .ok (.putfield 15, 3) := by decide +kernel
theorem dX0_init_20 : decode cX0_init 20 = .ok (.iconst 0, 1) := by decide +kernel
theorem dX0_init_21 : decode cX0_init 21 = .ok (.istore_n 1, 1) := by decide +kernel
theorem dX0_init_22 : decode cX0_init 22 = .ok (.iload_n 1, 1) := by decide +kernel
theorem dX0_init_23 : decode cX0_init 23 = .ok (.bipush 8, 2) := by decide +kernel
theorem dX0_init_25 : decode cX0_init 25 = .ok (.if_icmp .ge 16, 3) := by decide +kernel
theorem dX0_init_28 : decode cX0_init 28 = .ok (.aload_n 0, 1) := by decide +kernel
theorem dX0_init_29 : decode cX0_init 29 = .ok (.getfield 9, 3) := by decide +kernel
theorem dX0_init_32 : decode cX0_init 32 = .ok (.iload_n 1, 1) := by decide +kernel
theorem dX0_init_33 : decode cX0_init 33 = .ok (.iconst (-1), 1) := by decide +kernel
theorem dX0_init_34 : decode cX0_init 34 = .ok (.iastore, 1) := by decide +kernel
theorem dX0_init_35 : decode cX0_init 35 = .ok (.iinc 1 1, 3) := by decide +kernel
theorem dX0_init_38 : decode cX0_init 38 = .ok (.goto (-16), 3) := by decide +kernel
theorem dX0_init_41 : decode cX0_init 41 = .ok (.return_, 1) := by decide +kernel
theorem dX0_standAtZero_0 : decode cX0_standAtZero 0 = .ok (.iconst 0, 1) := by decide +kernel
theorem dX0_standAtZero_1 : decode cX0_standAtZero 1 = .ok (.istore_n 1, 1) := by decide +kernel
theorem dX0_standAtZero_2 : decode cX0_standAtZero 2 = .ok (.iload_n 1, 1) := by decide +kernel
theorem dX0_standAtZero_3 : decode cX0_standAtZero 3 = .ok (.bipush 8, 2) := by decide +kernel
theorem dX0_standAtZero_5 : decode cX0_standAtZero 5 = .ok (.if_icmp .ge 23, 3) := by decide +kernel
theorem dX0_standAtZero_8 : decode cX0_standAtZero 8 = .ok (.aload_n 0, 1) := by decide +kernel
theorem dX0_standAtZero_9 : decode cX0_standAtZero 9 = .ok (.getfield 9, 3) := by decide +kernel
theorem dX0_standAtZero_12 : decode cX0_standAtZero 12 = .ok (.iload_n 1, 1) := by decide +kernel
theorem dX0_standAtZero_13 : decode cX0_standAtZero 13 = .ok (.iconst (-1), 1) := by decide +kernel
theorem dX0_standAtZero_14 : decode cX0_standAtZero 14 = .ok (.iastore, 1) := by decide +kernel
theorem dX0_standAtZero_15 : decode cX0_standAtZero 15 = .ok (.aload_n 0, 1) := by decide +kernel
theorem dX0_standAtZero_16 : decode cX0_standAtZero 16 = .ok (.getfield 15, 3) := by decide +kernel
theorem dX0_standAtZero_19 : decode cX0_standAtZero 19 = .ok (.iload_n 1, 1) := by decide +kernel
theorem dX0_standAtZero_20 : decode cX0_standAtZero 20 = .ok (.iconst 0, 1) := by decide +kernel
theorem dX0_standAtZero_21 : decode cX0_standAtZero 21 = .ok (.iastore, 1) := by decide +kernel
theorem dX0_standAtZero_22 : decode cX0_standAtZero 22 = .ok (.iinc 1 1, 3) := by decide +kernel
theorem dX0_standAtZero_25 : decode cX0_standAtZero 25 = .ok (.goto (-23), 3) := by decide +kernel
theorem dX0_standAtZero_28 : decode cX0_standAtZero 28 = .ok (.return_, 1) := by decide +kernel
theorem dX0_become_0 : decode cX0_become 0 = .ok (.iconst 0, 1) := by decide +kernel
theorem dX0_become_1 : decode cX0_become 1 = .ok (.istore_n 2, 1) := by decide +kernel
theorem dX0_become_2 : decode cX0_become 2 = .ok (.iload_n 2, 1) := by decide +kernel
theorem dX0_become_3 : decode cX0_become 3 = .ok (.bipush 8, 2) := by decide +kernel
theorem dX0_become_5 : decode cX0_become 5 = .ok (.if_icmp .ge 33, 3) := by decide +kernel
theorem dX0_become_8 : decode cX0_become 8 = .ok (.aload_n 0, 1) := by decide +kernel
theorem dX0_become_9 : decode cX0_become 9 = .ok (.getfield 9, 3) := by decide +kernel
theorem dX0_become_12 : decode cX0_become 12 = .ok (.iload_n 2, 1) := by decide +kernel
theorem dX0_become_13 : decode cX0_become 13 = .ok (.aload_n 1, 1) := by decide +kernel
theorem dX0_become_14 : decode cX0_become 14 = .ok (.getfield 9, 3) := by decide +kernel
theorem dX0_become_17 : decode cX0_become 17 = .ok (.iload_n 2, 1) := by decide +kernel
theorem dX0_become_18 : decode cX0_become 18 = .ok (.iaload, 1) := by decide +kernel
theorem dX0_become_19 : decode cX0_become 19 = .ok (.iastore, 1) := by decide +kernel
theorem dX0_become_20 : decode cX0_become 20 = .ok (.aload_n 0, 1) := by decide +kernel
theorem dX0_become_21 : decode cX0_become 21 = .ok (.getfield 15, 3) := by decide +kernel
theorem dX0_become_24 : decode cX0_become 24 = .ok (.iload_n 2, 1) := by decide +kernel
theorem dX0_become_25 : decode cX0_become 25 = .ok (.aload_n 1, 1) := by decide +kernel
theorem dX0_become_26 : decode cX0_become 26 = .ok (.getfield 15, 3) := by decide +kernel
theorem dX0_become_29 : decode cX0_become 29 = .ok (.iload_n 2, 1) := by decide +kernel
theorem dX0_become_30 : decode cX0_become 30 = .ok (.iaload, 1) := by decide +kernel
theorem dX0_become_31 : decode cX0_become 31 = .ok (.iastore, 1) := by decide +kernel
theorem dX0_become_32 : decode cX0_become 32 = .ok (.iinc 2 1, 3) := by decide +kernel
theorem dX0_become_35 : decode cX0_become 35 = .ok (.goto (-33), 3) := by decide +kernel
theorem dX0_become_38 : decode cX0_become 38 = .ok (.return_, 1) := by decide +kernel
theorem dX0_namesOn_0 : decode cX0_namesOn 0 = .ok (.iconst 0, 1) := by decide +kernel
theorem dX0_namesOn_1 : decode cX0_namesOn 1 = .ok (.istore_n 2, 1) := by decide +kernel
theorem dX0_namesOn_2 : decode cX0_namesOn 2 = .ok (.iconst 0, 1) := by decide +kernel
theorem dX0_namesOn_3 : decode cX0_namesOn 3 = .ok (.istore_n 3, 1) := by decide +kernel
theorem dX0_namesOn_4 : decode cX0_namesOn 4 = .ok (.iload_n 3, 1) := by decide +kernel
theorem dX0_namesOn_5 : decode cX0_namesOn 5 = .ok (.bipush 8, 2) := by decide +kernel
theorem dX0_namesOn_7 : decode cX0_namesOn 7 = .ok (.if_icmp .ge 25, 3) := by decide +kernel
theorem dX0_namesOn_10 : decode cX0_namesOn 10 = .ok (.aload_n 0, 1) := by decide +kernel
theorem dX0_namesOn_11 : decode cX0_namesOn 11 = .ok (.getfield 9, 3) := by decide +kernel
theorem dX0_namesOn_14 : decode cX0_namesOn 14 = .ok (.iload_n 3, 1) := by decide +kernel
theorem dX0_namesOn_15 : decode cX0_namesOn 15 = .ok (.iaload, 1) := by decide +kernel
theorem dX0_namesOn_16 : decode cX0_namesOn 16 = .ok (.iload_n 1, 1) := by decide +kernel
theorem dX0_namesOn_17 : decode cX0_namesOn 17 = .ok (.if_icmp .ne 9, 3) := by decide +kernel
theorem dX0_namesOn_20 : decode cX0_namesOn 20 = .ok (.iload_n 2, 1) := by decide +kernel
theorem dX0_namesOn_21 : decode cX0_namesOn 21 = .ok (.iconst 1, 1) := by decide +kernel
theorem dX0_namesOn_22 : decode cX0_namesOn 22 = .ok (.iload_n 3, 1) := by decide +kernel
theorem dX0_namesOn_23 : decode cX0_namesOn 23 = .ok (.ishl, 1) := by decide +kernel
theorem dX0_namesOn_24 : decode cX0_namesOn 24 = .ok (.ior, 1) := by decide +kernel
theorem dX0_namesOn_25 : decode cX0_namesOn 25 = .ok (.istore_n 2, 1) := by decide +kernel
theorem dX0_namesOn_26 : decode cX0_namesOn 26 = .ok (.iinc 3 1, 3) := by decide +kernel
theorem dX0_namesOn_29 : decode cX0_namesOn 29 = .ok (.goto (-25), 3) := by decide +kernel
theorem dX0_namesOn_32 : decode cX0_namesOn 32 = .ok (.iload_n 2, 1) := by decide +kernel
theorem dX0_namesOn_33 : decode cX0_namesOn 33 = .ok (.ireturn, 1) := by decide +kernel
theorem dX0_chairSet_0 : decode cX0_chairSet 0 = .ok (.iconst 0, 1) := by decide +kernel
theorem dX0_chairSet_1 : decode cX0_chairSet 1 = .ok (.istore_n 1, 1) := by decide +kernel
theorem dX0_chairSet_2 : decode cX0_chairSet 2 = .ok (.iconst 0, 1) := by decide +kernel
theorem dX0_chairSet_3 : decode cX0_chairSet 3 = .ok (.istore_n 2, 1) := by decide +kernel
theorem dX0_chairSet_4 : decode cX0_chairSet 4 = .ok (.iload_n 2, 1) := by decide +kernel
theorem dX0_chairSet_5 : decode cX0_chairSet 5 = .ok (.bipush 8, 2) := by decide +kernel
theorem dX0_chairSet_7 : decode cX0_chairSet 7 = .ok (.if_icmp .ge 30, 3) := by decide +kernel
theorem dX0_chairSet_10 : decode cX0_chairSet 10 = .ok (.aload_n 0, 1) := by decide +kernel
theorem dX0_chairSet_11 : decode cX0_chairSet 11 = .ok (.getfield 9, 3) := by decide +kernel
theorem dX0_chairSet_14 : decode cX0_chairSet 14 = .ok (.iload_n 2, 1) := by decide +kernel
theorem dX0_chairSet_15 : decode cX0_chairSet 15 = .ok (.iaload, 1) := by decide +kernel
theorem dX0_chairSet_16 : decode cX0_chairSet 16 = .ok (.iconst (-1), 1) := by decide +kernel
theorem dX0_chairSet_17 : decode cX0_chairSet 17 = .ok (.if_icmp .eq 14, 3) := by decide +kernel
theorem dX0_chairSet_20 : decode cX0_chairSet 20 = .ok (.iload_n 1, 1) := by decide +kernel
theorem dX0_chairSet_21 : decode cX0_chairSet 21 = .ok (.iconst 1, 1) := by decide +kernel
theorem dX0_chairSet_22 : decode cX0_chairSet 22 = .ok (.aload_n 0, 1) := by decide +kernel
theorem dX0_chairSet_23 : decode cX0_chairSet 23 = .ok (.getfield 9, 3) := by decide +kernel
theorem dX0_chairSet_26 : decode cX0_chairSet 26 = .ok (.iload_n 2, 1) := by decide +kernel
theorem dX0_chairSet_27 : decode cX0_chairSet 27 = .ok (.iaload, 1) := by decide +kernel
theorem dX0_chairSet_28 : decode cX0_chairSet 28 = .ok (.ishl, 1) := by decide +kernel
theorem dX0_chairSet_29 : decode cX0_chairSet 29 = .ok (.ior, 1) := by decide +kernel
theorem dX0_chairSet_30 : decode cX0_chairSet 30 = .ok (.istore_n 1, 1) := by decide +kernel
theorem dX0_chairSet_31 : decode cX0_chairSet 31 = .ok (.iinc 2 1, 3) := by decide +kernel
theorem dX0_chairSet_34 : decode cX0_chairSet 34 = .ok (.goto (-30), 3) := by decide +kernel
theorem dX0_chairSet_37 : decode cX0_chairSet 37 = .ok (.iload_n 1, 1) := by decide +kernel
theorem dX0_chairSet_38 : decode cX0_chairSet 38 = .ok (.ireturn, 1) := by decide +kernel
theorem dX0_chairSetOf_0 : decode cX0_chairSetOf 0 = .ok (.iload_n 1, 1) := by decide +kernel
theorem dX0_chairSetOf_1 : decode cX0_chairSetOf 1 = .ok (.ifCond .lt 19, 3) := by decide +kernel
theorem dX0_chairSetOf_4 : decode cX0_chairSetOf 4 = .ok (.iload_n 1, 1) := by decide +kernel
theorem dX0_chairSetOf_5 : decode cX0_chairSetOf 5 = .ok (.bipush 8, 2) := by decide +kernel
theorem dX0_chairSetOf_7 : decode cX0_chairSetOf 7 = .ok (.if_icmp .ge 13, 3) := by decide +kernel
theorem dX0_chairSetOf_10 : decode cX0_chairSetOf 10 = .ok (.aload_n 0, 1) := by decide +kernel
theorem dX0_chairSetOf_11 : decode cX0_chairSetOf 11 = .ok (.getfield 9, 3) := by decide +kernel
theorem dX0_chairSetOf_14 : decode cX0_chairSetOf 14 = .ok (.iload_n 1, 1) := by decide +kernel
theorem dX0_chairSetOf_15 : decode cX0_chairSetOf 15 = .ok (.iaload, 1) := by decide +kernel
theorem dX0_chairSetOf_16 : decode cX0_chairSetOf 16 = .ok (.iconst (-1), 1) := by decide +kernel
theorem dX0_chairSetOf_17 : decode cX0_chairSetOf 17 = .ok (.if_icmp .ne 5, 3) := by decide +kernel
theorem dX0_chairSetOf_20 : decode cX0_chairSetOf 20 = .ok (.iconst 0, 1) := by decide +kernel
theorem dX0_chairSetOf_21 : decode cX0_chairSetOf 21 = .ok (.ireturn, 1) := by decide +kernel
theorem dX0_chairSetOf_22 : decode cX0_chairSetOf 22 = .ok (.iconst 1, 1) := by decide +kernel
theorem dX0_chairSetOf_23 : decode cX0_chairSetOf 23 = .ok (.aload_n 0, 1) := by decide +kernel
theorem dX0_chairSetOf_24 : decode cX0_chairSetOf 24 = .ok (.getfield 9, 3) := by decide +kernel
theorem dX0_chairSetOf_27 : decode cX0_chairSetOf 27 = .ok (.iload_n 1, 1) := by decide +kernel
theorem dX0_chairSetOf_28 : decode cX0_chairSetOf 28 = .ok (.iaload, 1) := by decide +kernel
theorem dX0_chairSetOf_29 : decode cX0_chairSetOf 29 = .ok (.ishl, 1) := by decide +kernel
theorem dX0_chairSetOf_30 : decode cX0_chairSetOf 30 = .ok (.ireturn, 1) := by decide +kernel
theorem dX1_init_0 : decode cX1_init 0 = .ok (.aload_n 0, 1) := by decide +kernel
theorem dX1_init_1 : decode cX1_init 1 = .ok (.invokespecial 3, 3) := by decide +kernel
theorem dX1_init_4 : decode cX1_init 4 = .ok (.aload_n 0, 1) := by decide +kernel
theorem dX1_init_5 : decode cX1_init 5 = .ok (.iconst 0, 1) := by decide +kernel
theorem dX1_init_6 : decode cX1_init 6 = .ok (.putfield 9, 3) := by decide +kernel
theorem dX1_init_9 : decode cX1_init 9 = .ok (.aload_n 0, 1) := by decide +kernel
theorem dX1_init_10 : decode cX1_init 10 = .ok (.bipush 6, 2) := by decide +kernel
theorem dX1_init_12 : decode cX1_init 12 = .ok (.newarray .int, 2) := by decide +kernel
theorem dX1_init_14 : decode cX1_init 14 = .ok (.putfield 15, 3) := by decide +kernel
theorem dX1_init_17 : decode cX1_init 17 = .ok (.aload_n 0, 1) := by decide +kernel
theorem dX1_init_18 : decode cX1_init 18 = .ok (.bipush 6, 2) := by decide +kernel
theorem dX1_init_20 : decode cX1_init 20 = .ok (.newarray .int, 2) := by decide +kernel
theorem dX1_init_22 : decode cX1_init 22 = .ok (.putfield 19, 3) := by decide +kernel
theorem dX1_init_25 : decode cX1_init 25 = .ok (.aload_n 0, 1) := by decide +kernel
theorem dX1_init_26 : decode cX1_init 26 = .ok (.bipush 6, 2) := by decide +kernel
theorem dX1_init_28 : decode cX1_init 28 = .ok (.newarray .int, 2) := by decide +kernel
theorem dX1_init_30 : decode cX1_init 30 = .ok (.putfield 22, 3) := by decide +kernel
theorem dX1_init_33 : decode cX1_init 33 = .ok (.aload_n 0, 1) := by decide +kernel
theorem dX1_init_34 : decode cX1_init 34 = .ok (.bipush 6, 2) := by decide +kernel
theorem dX1_init_36 : decode cX1_init 36 = .ok (.newarray .int, 2) := by decide +kernel
theorem dX1_init_38 : decode cX1_init 38 = .ok (.putfield 25, 3) := by decide +kernel
theorem dX1_init_41 : decode cX1_init 41 = .ok (.aload_n 0, 1) := by decide +kernel
theorem dX1_init_42 : decode cX1_init 42 = .ok (.bipush 6, 2) := by decide +kernel
theorem dX1_init_44 : decode cX1_init 44 = .ok (.newarray .int, 2) := by decide +kernel
theorem dX1_init_46 : decode cX1_init 46 = .ok (.putfield 28, 3) := by decide +kernel
theorem dX1_init_49 : decode cX1_init 49 = .ok (.return_, 1) := by decide +kernel
theorem dX1_become_0 : decode cX1_become 0 = .ok (.aload_n 0, 1) := by decide +kernel
theorem dX1_become_1 : decode cX1_become 1 = .ok (.aload_n 1, 1) := by decide +kernel
theorem dX1_become_2 : decode cX1_become 2 = .ok (.getfield 9, 3) := by decide +kernel
theorem dX1_become_5 : decode cX1_become 5 = .ok (.putfield 9, 3) := by decide +kernel
theorem dX1_become_8 : decode cX1_become 8 = .ok (.iconst 0, 1) := by decide +kernel
theorem dX1_become_9 : decode cX1_become 9 = .ok (.istore_n 2, 1) := by decide +kernel
theorem dX1_become_10 : decode cX1_become 10 = .ok (.iload_n 2, 1) := by decide +kernel
theorem dX1_become_11 : decode cX1_become 11 = .ok (.bipush 6, 2) := by decide +kernel
theorem dX1_become_13 : decode cX1_become 13 = .ok (.if_icmp .ge 69, 3) := by decide +kernel
theorem dX1_become_16 : decode cX1_become 16 = .ok (.aload_n 0, 1) := by decide +kernel
theorem dX1_become_17 : decode cX1_become 17 = .ok (.getfield 15, 3) := by decide +kernel
theorem dX1_become_20 : decode cX1_become 20 = .ok (.iload_n 2, 1) := by decide +kernel
theorem dX1_become_21 : decode cX1_become 21 = .ok (.aload_n 1, 1) := by decide +kernel
theorem dX1_become_22 : decode cX1_become 22 = .ok (.getfield 15, 3) := by decide +kernel
theorem dX1_become_25 : decode cX1_become 25 = .ok (.iload_n 2, 1) := by decide +kernel
theorem dX1_become_26 : decode cX1_become 26 = .ok (.iaload, 1) := by decide +kernel
theorem dX1_become_27 : decode cX1_become 27 = .ok (.iastore, 1) := by decide +kernel
theorem dX1_become_28 : decode cX1_become 28 = .ok (.aload_n 0, 1) := by decide +kernel
theorem dX1_become_29 : decode cX1_become 29 = .ok (.getfield 19, 3) := by decide +kernel
theorem dX1_become_32 : decode cX1_become 32 = .ok (.iload_n 2, 1) := by decide +kernel
theorem dX1_become_33 : decode cX1_become 33 = .ok (.aload_n 1, 1) := by decide +kernel
theorem dX1_become_34 : decode cX1_become 34 = .ok (.getfield 19, 3) := by decide +kernel
theorem dX1_become_37 : decode cX1_become 37 = .ok (.iload_n 2, 1) := by decide +kernel
theorem dX1_become_38 : decode cX1_become 38 = .ok (.iaload, 1) := by decide +kernel
theorem dX1_become_39 : decode cX1_become 39 = .ok (.iastore, 1) := by decide +kernel
theorem dX1_become_40 : decode cX1_become 40 = .ok (.aload_n 0, 1) := by decide +kernel
theorem dX1_become_41 : decode cX1_become 41 = .ok (.getfield 22, 3) := by decide +kernel
theorem dX1_become_44 : decode cX1_become 44 = .ok (.iload_n 2, 1) := by decide +kernel
theorem dX1_become_45 : decode cX1_become 45 = .ok (.aload_n 1, 1) := by decide +kernel
theorem dX1_become_46 : decode cX1_become 46 = .ok (.getfield 22, 3) := by decide +kernel
theorem dX1_become_49 : decode cX1_become 49 = .ok (.iload_n 2, 1) := by decide +kernel
theorem dX1_become_50 : decode cX1_become 50 = .ok (.iaload, 1) := by decide +kernel
theorem dX1_become_51 : decode cX1_become 51 = .ok (.iastore, 1) := by decide +kernel
theorem dX1_become_52 : decode cX1_become 52 = .ok (.aload_n 0, 1) := by decide +kernel
theorem dX1_become_53 : decode cX1_become 53 = .ok (.getfield 25, 3) := by decide +kernel
theorem dX1_become_56 : decode cX1_become 56 = .ok (.iload_n 2, 1) := by decide +kernel
theorem dX1_become_57 : decode cX1_become 57 = .ok (.aload_n 1, 1) := by decide +kernel
theorem dX1_become_58 : decode cX1_become 58 = .ok (.getfield 25, 3) := by decide +kernel
theorem dX1_become_61 : decode cX1_become 61 = .ok (.iload_n 2, 1) := by decide +kernel
theorem dX1_become_62 : decode cX1_become 62 = .ok (.iaload, 1) := by decide +kernel
theorem dX1_become_63 : decode cX1_become 63 = .ok (.iastore, 1) := by decide +kernel
theorem dX1_become_64 : decode cX1_become 64 = .ok (.aload_n 0, 1) := by decide +kernel
theorem dX1_become_65 : decode cX1_become 65 = .ok (.getfield 28, 3) := by decide +kernel
theorem dX1_become_68 : decode cX1_become 68 = .ok (.iload_n 2, 1) := by decide +kernel
theorem dX1_become_69 : decode cX1_become 69 = .ok (.aload_n 1, 1) := by decide +kernel
theorem dX1_become_70 : decode cX1_become 70 = .ok (.getfield 28, 3) := by decide +kernel
theorem dX1_become_73 : decode cX1_become 73 = .ok (.iload_n 2, 1) := by decide +kernel
theorem dX1_become_74 : decode cX1_become 74 = .ok (.iaload, 1) := by decide +kernel
theorem dX1_become_75 : decode cX1_become 75 = .ok (.iastore, 1) := by decide +kernel
theorem dX1_become_76 : decode cX1_become 76 = .ok (.iinc 2 1, 3) := by decide +kernel
theorem dX1_become_79 : decode cX1_become 79 = .ok (.goto (-69), 3) := by decide +kernel
theorem dX1_become_82 : decode cX1_become 82 = .ok (.return_, 1) := by decide +kernel
theorem dX1_isOne_0 : decode cX1_isOne 0 = .ok (.iload_n 1, 1) := by decide +kernel
theorem dX1_isOne_1 : decode cX1_isOne 1 = .ok (.ifCond .lt 21, 3) := by decide +kernel
theorem dX1_isOne_4 : decode cX1_isOne 4 = .ok (.iload_n 1, 1) := by decide +kernel
theorem dX1_isOne_5 : decode cX1_isOne 5 = .ok (.aload_n 0, 1) := by decide +kernel
theorem dX1_isOne_6 : decode cX1_isOne 6 = .ok (.getfield 9, 3) := by decide +kernel
theorem dX1_isOne_9 : decode cX1_isOne 9 = .ok (.if_icmp .ge 13, 3) := by decide +kernel
theorem dX1_isOne_12 : decode cX1_isOne 12 = .ok (.iload_n 1, 1) := by decide +kernel
theorem dX1_isOne_13 : decode cX1_isOne 13 = .ok (.bipush 6, 2) := by decide +kernel
theorem dX1_isOne_15 : decode cX1_isOne 15 = .ok (.if_icmp .ge 7, 3) := by decide +kernel
theorem dX1_isOne_18 : decode cX1_isOne 18 = .ok (.iconst 1, 1) := by decide +kernel
theorem dX1_isOne_19 : decode cX1_isOne 19 = .ok (.goto 4, 3) := by decide +kernel
theorem dX1_isOne_22 : decode cX1_isOne 22 = .ok (.iconst 0, 1) := by decide +kernel
theorem dX1_isOne_23 : decode cX1_isOne 23 = .ok (.ireturn, 1) := by decide +kernel
theorem dX1_add_0 : decode cX1_add 0 = .ok (.aload_n 0, 1) := by decide +kernel
theorem dX1_add_1 : decode cX1_add 1 = .ok (.getfield 9, 3) := by decide +kernel
theorem dX1_add_4 : decode cX1_add 4 = .ok (.ifCond .lt 74, 3) := by decide +kernel
theorem dX1_add_7 : decode cX1_add 7 = .ok (.aload_n 0, 1) := by decide +kernel
theorem dX1_add_8 : decode cX1_add 8 = .ok (.getfield 9, 3) := by decide +kernel
theorem dX1_add_11 : decode cX1_add 11 = .ok (.bipush 6, 2) := by decide +kernel
theorem dX1_add_13 : decode cX1_add 13 = .ok (.if_icmp .ge 65, 3) := by decide +kernel
theorem dX1_add_16 : decode cX1_add 16 = .ok (.aload_n 0, 1) := by decide +kernel
theorem dX1_add_17 : decode cX1_add 17 = .ok (.getfield 15, 3) := by decide +kernel
theorem dX1_add_20 : decode cX1_add 20 = .ok (.aload_n 0, 1) := by decide +kernel
theorem dX1_add_21 : decode cX1_add 21 = .ok (.getfield 9, 3) := by decide +kernel
theorem dX1_add_24 : decode cX1_add 24 = .ok (.iload_n 1, 1) := by decide +kernel
theorem dX1_add_25 : decode cX1_add 25 = .ok (.iastore, 1) := by decide +kernel
theorem dX1_add_26 : decode cX1_add 26 = .ok (.aload_n 0, 1) := by decide +kernel
theorem dX1_add_27 : decode cX1_add 27 = .ok (.getfield 19, 3) := by decide +kernel
theorem dX1_add_30 : decode cX1_add 30 = .ok (.aload_n 0, 1) := by decide +kernel
theorem dX1_add_31 : decode cX1_add 31 = .ok (.getfield 9, 3) := by decide +kernel
theorem dX1_add_34 : decode cX1_add 34 = .ok (.iload_n 2, 1) := by decide +kernel
theorem dX1_add_35 : decode cX1_add 35 = .ok (.iastore, 1) := by decide +kernel
theorem dX1_add_36 : decode cX1_add 36 = .ok (.aload_n 0, 1) := by decide +kernel
theorem dX1_add_37 : decode cX1_add 37 = .ok (.getfield 22, 3) := by decide +kernel
theorem dX1_add_40 : decode cX1_add 40 = .ok (.aload_n 0, 1) := by decide +kernel
theorem dX1_add_41 : decode cX1_add 41 = .ok (.getfield 9, 3) := by decide +kernel
theorem dX1_add_44 : decode cX1_add 44 = .ok (.iload_n 3, 1) := by decide +kernel
theorem dX1_add_45 : decode cX1_add 45 = .ok (.iastore, 1) := by decide +kernel
theorem dX1_add_46 : decode cX1_add 46 = .ok (.aload_n 0, 1) := by decide +kernel
theorem dX1_add_47 : decode cX1_add 47 = .ok (.getfield 25, 3) := by decide +kernel
theorem dX1_add_50 : decode cX1_add 50 = .ok (.aload_n 0, 1) := by decide +kernel
theorem dX1_add_51 : decode cX1_add 51 = .ok (.getfield 9, 3) := by decide +kernel
theorem dX1_add_54 : decode cX1_add 54 = .ok (.iload 4, 2) := by decide +kernel
theorem dX1_add_56 : decode cX1_add 56 = .ok (.iastore, 1) := by decide +kernel
theorem dX1_add_57 : decode cX1_add 57 = .ok (.aload_n 0, 1) := by decide +kernel
theorem dX1_add_58 : decode cX1_add 58 = .ok (.getfield 28, 3) := by decide +kernel
theorem dX1_add_61 : decode cX1_add 61 = .ok (.aload_n 0, 1) := by decide +kernel
theorem dX1_add_62 : decode cX1_add 62 = .ok (.getfield 9, 3) := by decide +kernel
theorem dX1_add_65 : decode cX1_add 65 = .ok (.iload 5, 2) := by decide +kernel
theorem dX1_add_67 : decode cX1_add 67 = .ok (.iastore, 1) := by decide +kernel
theorem dX1_add_68 : decode cX1_add 68 = .ok (.aload_n 0, 1) := by decide +kernel
theorem dX1_add_69 : decode cX1_add 69 = .ok (.dup, 1) := by decide +kernel
theorem dX1_add_70 : decode cX1_add 70 = .ok (.getfield 9, 3) := by decide +kernel
theorem dX1_add_73 : decode cX1_add 73 = .ok (.iconst 1, 1) := by decide +kernel
theorem dX1_add_74 : decode cX1_add 74 = .ok (.iadd, 1) := by decide +kernel
theorem dX1_add_75 : decode cX1_add 75 = .ok (.putfield 9, 3) := by decide +kernel
theorem dX1_add_78 : decode cX1_add 78 = .ok (.return_, 1) := by decide +kernel
theorem dX1_move_0 : decode cX1_move 0 = .ok (.iload_n 1, 1) := by decide +kernel
theorem dX1_move_1 : decode cX1_move 1 = .ok (.ifCond .lt 78, 3) := by decide +kernel
theorem dX1_move_4 : decode cX1_move 4 = .ok (.iload_n 1, 1) := by decide +kernel
theorem dX1_move_5 : decode cX1_move 5 = .ok (.bipush 6, 2) := by decide +kernel
theorem dX1_move_7 : decode cX1_move 7 = .ok (.if_icmp .ge 72, 3) := by decide +kernel
theorem dX1_move_10 : decode cX1_move 10 = .ok (.iload_n 2, 1) := by decide +kernel
theorem dX1_move_11 : decode cX1_move 11 = .ok (.ifCond .lt 68, 3) := by decide +kernel
theorem dX1_move_14 : decode cX1_move 14 = .ok (.iload_n 2, 1) := by decide +kernel
theorem dX1_move_15 : decode cX1_move 15 = .ok (.iload_n 1, 1) := by decide +kernel
theorem dX1_move_16 : decode cX1_move 16 = .ok (.if_icmp .ge 63, 3) := by decide +kernel
theorem dX1_move_19 : decode cX1_move 19 = .ok (.aload_n 0, 1) := by decide +kernel
theorem dX1_move_20 : decode cX1_move 20 = .ok (.getfield 15, 3) := by decide +kernel
theorem dX1_move_23 : decode cX1_move 23 = .ok (.iload_n 2, 1) := by decide +kernel
theorem dX1_move_24 : decode cX1_move 24 = .ok (.aload_n 0, 1) := by decide +kernel
theorem dX1_move_25 : decode cX1_move 25 = .ok (.getfield 15, 3) := by decide +kernel
theorem dX1_move_28 : decode cX1_move 28 = .ok (.iload_n 1, 1) := by decide +kernel
theorem dX1_move_29 : decode cX1_move 29 = .ok (.iaload, 1) := by decide +kernel
theorem dX1_move_30 : decode cX1_move 30 = .ok (.iastore, 1) := by decide +kernel
theorem dX1_move_31 : decode cX1_move 31 = .ok (.aload_n 0, 1) := by decide +kernel
theorem dX1_move_32 : decode cX1_move 32 = .ok (.getfield 19, 3) := by decide +kernel
theorem dX1_move_35 : decode cX1_move 35 = .ok (.iload_n 2, 1) := by decide +kernel
theorem dX1_move_36 : decode cX1_move 36 = .ok (.aload_n 0, 1) := by decide +kernel
theorem dX1_move_37 : decode cX1_move 37 = .ok (.getfield 19, 3) := by decide +kernel
theorem dX1_move_40 : decode cX1_move 40 = .ok (.iload_n 1, 1) := by decide +kernel
theorem dX1_move_41 : decode cX1_move 41 = .ok (.iaload, 1) := by decide +kernel
theorem dX1_move_42 : decode cX1_move 42 = .ok (.iastore, 1) := by decide +kernel
theorem dX1_move_43 : decode cX1_move 43 = .ok (.aload_n 0, 1) := by decide +kernel
theorem dX1_move_44 : decode cX1_move 44 = .ok (.getfield 22, 3) := by decide +kernel
theorem dX1_move_47 : decode cX1_move 47 = .ok (.iload_n 2, 1) := by decide +kernel
theorem dX1_move_48 : decode cX1_move 48 = .ok (.aload_n 0, 1) := by decide +kernel
theorem dX1_move_49 : decode cX1_move 49 = .ok (.getfield 22, 3) := by decide +kernel
theorem dX1_move_52 : decode cX1_move 52 = .ok (.iload_n 1, 1) := by decide +kernel
theorem dX1_move_53 : decode cX1_move 53 = .ok (.iaload, 1) := by decide +kernel
theorem dX1_move_54 : decode cX1_move 54 = .ok (.iastore, 1) := by decide +kernel
theorem dX1_move_55 : decode cX1_move 55 = .ok (.aload_n 0, 1) := by decide +kernel
theorem dX1_move_56 : decode cX1_move 56 = .ok (.getfield 25, 3) := by decide +kernel
theorem dX1_move_59 : decode cX1_move 59 = .ok (.iload_n 2, 1) := by decide +kernel
theorem dX1_move_60 : decode cX1_move 60 = .ok (.aload_n 0, 1) := by decide +kernel
theorem dX1_move_61 : decode cX1_move 61 = .ok (.getfield 25, 3) := by decide +kernel
theorem dX1_move_64 : decode cX1_move 64 = .ok (.iload_n 1, 1) := by decide +kernel
theorem dX1_move_65 : decode cX1_move 65 = .ok (.iaload, 1) := by decide +kernel
theorem dX1_move_66 : decode cX1_move 66 = .ok (.iastore, 1) := by decide +kernel
theorem dX1_move_67 : decode cX1_move 67 = .ok (.aload_n 0, 1) := by decide +kernel
theorem dX1_move_68 : decode cX1_move 68 = .ok (.getfield 28, 3) := by decide +kernel
theorem dX1_move_71 : decode cX1_move 71 = .ok (.iload_n 2, 1) := by decide +kernel
theorem dX1_move_72 : decode cX1_move 72 = .ok (.aload_n 0, 1) := by decide +kernel
theorem dX1_move_73 : decode cX1_move 73 = .ok (.getfield 28, 3) := by decide +kernel
theorem dX1_move_76 : decode cX1_move 76 = .ok (.iload_n 1, 1) := by decide +kernel
theorem dX1_move_77 : decode cX1_move 77 = .ok (.iaload, 1) := by decide +kernel
theorem dX1_move_78 : decode cX1_move 78 = .ok (.iastore, 1) := by decide +kernel
theorem dX1_move_79 : decode cX1_move 79 = .ok (.return_, 1) := by decide +kernel
theorem dX1_dropGivenAfter_0 : decode cX1_dropGivenAfter 0 = .ok (.aload_n 0, 1) := by decide +kernel
theorem dX1_dropGivenAfter_1 : decode cX1_dropGivenAfter 1 = .ok (.getfield 9, 3) := by decide +kernel
theorem dX1_dropGivenAfter_4 : decode cX1_dropGivenAfter 4 = .ok (.istore_n 2, 1) := by decide +kernel
theorem dX1_dropGivenAfter_5 : decode cX1_dropGivenAfter 5 = .ok (.aload_n 0, 1) := by decide +kernel
theorem dX1_dropGivenAfter_6 : decode cX1_dropGivenAfter 6 = .ok (.getfield 9, 3) := by decide +kernel
theorem dX1_dropGivenAfter_9 : decode cX1_dropGivenAfter 9 = .ok (.ifCond .le 40, 3) := by decide +kernel
theorem dX1_dropGivenAfter_12 : decode cX1_dropGivenAfter 12 = .ok (.aload_n 0, 1) := by decide +kernel
theorem dX1_dropGivenAfter_13 : decode cX1_dropGivenAfter 13 = .ok (.getfield 9, 3) := by decide +kernel
theorem dX1_dropGivenAfter_16 : decode cX1_dropGivenAfter 16 = .ok (.bipush 6, 2) := by decide +kernel
theorem dX1_dropGivenAfter_18 : decode cX1_dropGivenAfter 18 = .ok (.if_icmp .gt 31, 3) := by decide +kernel
theorem dX1_dropGivenAfter_21 : decode cX1_dropGivenAfter 21 = .ok (.aload_n 0, 1) := by decide +kernel
theorem dX1_dropGivenAfter_22 : decode cX1_dropGivenAfter 22 = .ok (.getfield 28, 3) := by decide +kernel
theorem dX1_dropGivenAfter_25 : decode cX1_dropGivenAfter 25 = .ok (.aload_n 0, 1) := by decide +kernel
theorem dX1_dropGivenAfter_26 : decode cX1_dropGivenAfter 26 = .ok (.getfield 9, 3) := by decide +kernel
theorem dX1_dropGivenAfter_29 : decode cX1_dropGivenAfter 29 = .ok (.iconst 1, 1) := by decide +kernel
theorem dX1_dropGivenAfter_30 : decode cX1_dropGivenAfter 30 = .ok (.isub, 1) := by decide +kernel
theorem dX1_dropGivenAfter_31 : decode cX1_dropGivenAfter 31 = .ok (.iaload, 1) := by decide +kernel
theorem dX1_dropGivenAfter_32 : decode cX1_dropGivenAfter 32 = .ok (.iload_n 1, 1) := by decide +kernel
theorem dX1_dropGivenAfter_33 : decode cX1_dropGivenAfter 33 = .ok (.if_icmp .le 16, 3) := by decide +kernel
theorem dX1_dropGivenAfter_36 : decode cX1_dropGivenAfter 36 = .ok (.aload_n 0, 1) := by decide +kernel
theorem dX1_dropGivenAfter_37 : decode cX1_dropGivenAfter 37 = .ok (.dup, 1) := by decide +kernel
theorem dX1_dropGivenAfter_38 : decode cX1_dropGivenAfter 38 = .ok (.getfield 9, 3) := by decide +kernel
theorem dX1_dropGivenAfter_41 : decode cX1_dropGivenAfter 41 = .ok (.iconst 1, 1) := by decide +kernel
theorem dX1_dropGivenAfter_42 : decode cX1_dropGivenAfter 42 = .ok (.isub, 1) := by decide +kernel
theorem dX1_dropGivenAfter_43 : decode cX1_dropGivenAfter 43 = .ok (.putfield 9, 3) := by decide +kernel
theorem dX1_dropGivenAfter_46 : decode cX1_dropGivenAfter 46 = .ok (.goto (-41), 3) := by decide +kernel
theorem dX1_dropGivenAfter_49 : decode cX1_dropGivenAfter 49 = .ok (.iload_n 2, 1) := by decide +kernel
theorem dX1_dropGivenAfter_50 : decode cX1_dropGivenAfter 50 = .ok (.aload_n 0, 1) := by decide +kernel
theorem dX1_dropGivenAfter_51 : decode cX1_dropGivenAfter 51 = .ok (.getfield 9, 3) := by decide +kernel
theorem dX1_dropGivenAfter_54 : decode cX1_dropGivenAfter 54 = .ok (.isub, 1) := by decide +kernel
theorem dX1_dropGivenAfter_55 : decode cX1_dropGivenAfter 55 = .ok (.ireturn, 1) := by decide +kernel
theorem dX1_forgetFirstMark_0 : decode cX1_forgetFirstMark 0 = .ok (.iconst 0, 1) := by decide +kernel
theorem dX1_forgetFirstMark_1 : decode cX1_forgetFirstMark 1 = .ok (.istore_n 1, 1) := by decide +kernel
theorem dX1_forgetFirstMark_2 : decode cX1_forgetFirstMark 2 = .ok (.iload_n 1, 1) := by decide +kernel
theorem dX1_forgetFirstMark_3 : decode cX1_forgetFirstMark 3 = .ok (.aload_n 0, 1) := by decide +kernel
theorem dX1_forgetFirstMark_4 : decode cX1_forgetFirstMark 4 = .ok (.getfield 9, 3) := by decide +kernel
theorem dX1_forgetFirstMark_7 : decode cX1_forgetFirstMark 7 = .ok (.if_icmp .ge 34, 3) := by decide +kernel
theorem dX1_forgetFirstMark_10 : decode cX1_forgetFirstMark 10 = .ok (.iload_n 1, 1) := by decide +kernel
theorem dX1_forgetFirstMark_11 : decode cX1_forgetFirstMark 11 = .ok (.bipush 6, 2) := by decide +kernel
theorem dX1_forgetFirstMark_13 : decode cX1_forgetFirstMark 13 = .ok (.if_icmp .ge 28, 3) := by decide +kernel
theorem dX1_forgetFirstMark_16 : decode cX1_forgetFirstMark 16 = .ok (.aload_n 0, 1) := by decide +kernel
theorem dX1_forgetFirstMark_17 : decode cX1_forgetFirstMark 17 = .ok (.getfield 28, 3) := by decide +kernel
theorem dX1_forgetFirstMark_20 : decode cX1_forgetFirstMark 20 = .ok (.iload_n 1, 1) := by decide +kernel
theorem dX1_forgetFirstMark_21 : decode cX1_forgetFirstMark 21 = .ok (.iaload, 1) := by decide +kernel
theorem dX1_forgetFirstMark_22 : decode cX1_forgetFirstMark 22 = .ok (.ifCond .le 13, 3) := by decide +kernel
theorem dX1_forgetFirstMark_25 : decode cX1_forgetFirstMark 25 = .ok (.aload_n 0, 1) := by decide +kernel
theorem dX1_forgetFirstMark_26 : decode cX1_forgetFirstMark 26 = .ok (.getfield 28, 3) := by decide +kernel
theorem dX1_forgetFirstMark_29 : decode cX1_forgetFirstMark 29 = .ok (.iload_n 1, 1) := by decide +kernel
theorem dX1_forgetFirstMark_30 : decode cX1_forgetFirstMark 30 = .ok (.dup2, 1) := by decide +kernel
theorem dX1_forgetFirstMark_31 : decode cX1_forgetFirstMark 31 = .ok (.iaload, 1) := by decide +kernel
theorem dX1_forgetFirstMark_32 : decode cX1_forgetFirstMark 32 = .ok (.iconst 1, 1) := by decide +kernel
theorem dX1_forgetFirstMark_33 : decode cX1_forgetFirstMark 33 = .ok (.isub, 1) := by decide +kernel
theorem dX1_forgetFirstMark_34 : decode cX1_forgetFirstMark 34 = .ok (.iastore, 1) := by decide +kernel
theorem dX1_forgetFirstMark_35 : decode cX1_forgetFirstMark 35 = .ok (.iinc 1 1, 3) := by decide +kernel
theorem dX1_forgetFirstMark_38 : decode cX1_forgetFirstMark 38 = .ok (.goto (-36), 3) := by decide +kernel
theorem dX1_forgetFirstMark_41 : decode cX1_forgetFirstMark 41 = .ok (.return_, 1) := by decide +kernel
theorem dX1_readersOf_0 : decode cX1_readersOf 0 = .ok (.iconst 0, 1) := by decide +kernel
theorem dX1_readersOf_1 : decode cX1_readersOf 1 = .ok (.istore_n 2, 1) := by decide +kernel
theorem dX1_readersOf_2 : decode cX1_readersOf 2 = .ok (.iconst 0, 1) := by decide +kernel
theorem dX1_readersOf_3 : decode cX1_readersOf 3 = .ok (.istore_n 3, 1) := by decide +kernel
theorem dX1_readersOf_4 : decode cX1_readersOf 4 = .ok (.iload_n 3, 1) := by decide +kernel
theorem dX1_readersOf_5 : decode cX1_readersOf 5 = .ok (.aload_n 0, 1) := by decide +kernel
theorem dX1_readersOf_6 : decode cX1_readersOf 6 = .ok (.getfield 9, 3) := by decide +kernel
theorem dX1_readersOf_9 : decode cX1_readersOf 9 = .ok (.if_icmp .ge 38, 3) := by decide +kernel
theorem dX1_readersOf_12 : decode cX1_readersOf 12 = .ok (.iload_n 3, 1) := by decide +kernel
theorem dX1_readersOf_13 : decode cX1_readersOf 13 = .ok (.bipush 6, 2) := by decide +kernel
theorem dX1_readersOf_15 : decode cX1_readersOf 15 = .ok (.if_icmp .ge 32, 3) := by decide +kernel
theorem dX1_readersOf_18 : decode cX1_readersOf 18 = .ok (.aload_n 0, 1) := by decide +kernel
theorem dX1_readersOf_19 : decode cX1_readersOf 19 = .ok (.getfield 22, 3) := by decide +kernel
theorem dX1_readersOf_22 : decode cX1_readersOf 22 = .ok (.iload_n 3, 1) := by decide +kernel
theorem dX1_readersOf_23 : decode cX1_readersOf 23 = .ok (.iaload, 1) := by decide +kernel
theorem dX1_readersOf_24 : decode cX1_readersOf 24 = .ok (.iload_n 1, 1) := by decide +kernel
theorem dX1_readersOf_25 : decode cX1_readersOf 25 = .ok (.if_icmp .eq 13, 3) := by decide +kernel
theorem dX1_readersOf_28 : decode cX1_readersOf 28 = .ok (.aload_n 0, 1) := by decide +kernel
theorem dX1_readersOf_29 : decode cX1_readersOf 29 = .ok (.getfield 25, 3) := by decide +kernel
theorem dX1_readersOf_32 : decode cX1_readersOf 32 = .ok (.iload_n 3, 1) := by decide +kernel
theorem dX1_readersOf_33 : decode cX1_readersOf 33 = .ok (.iaload, 1) := by decide +kernel
theorem dX1_readersOf_34 : decode cX1_readersOf 34 = .ok (.iload_n 1, 1) := by decide +kernel
theorem dX1_readersOf_35 : decode cX1_readersOf 35 = .ok (.if_icmp .ne 6, 3) := by decide +kernel
theorem dX1_readersOf_38 : decode cX1_readersOf 38 = .ok (.iinc 2 1, 3) := by decide +kernel
theorem dX1_readersOf_41 : decode cX1_readersOf 41 = .ok (.iinc 3 1, 3) := by decide +kernel
theorem dX1_readersOf_44 : decode cX1_readersOf 44 = .ok (.goto (-40), 3) := by decide +kernel
theorem dX1_readersOf_47 : decode cX1_readersOf 47 = .ok (.iload_n 2, 1) := by decide +kernel
theorem dX1_readersOf_48 : decode cX1_readersOf 48 = .ok (.ireturn, 1) := by decide +kernel
theorem dX1_makeFor_0 : decode cX1_makeFor 0 = .ok (.iconst 0, 1) := by decide +kernel
theorem dX1_makeFor_1 : decode cX1_makeFor 1 = .ok (.istore_n 2, 1) := by decide +kernel
theorem dX1_makeFor_2 : decode cX1_makeFor 2 = .ok (.iload_n 2, 1) := by decide +kernel
theorem dX1_makeFor_3 : decode cX1_makeFor 3 = .ok (.aload_n 0, 1) := by decide +kernel
theorem dX1_makeFor_4 : decode cX1_makeFor 4 = .ok (.getfield 9, 3) := by decide +kernel
theorem dX1_makeFor_7 : decode cX1_makeFor 7 = .ok (.if_icmp .ge 27, 3) := by decide +kernel
theorem dX1_makeFor_10 : decode cX1_makeFor 10 = .ok (.iload_n 2, 1) := by decide +kernel
theorem dX1_makeFor_11 : decode cX1_makeFor 11 = .ok (.bipush 6, 2) := by decide +kernel
theorem dX1_makeFor_13 : decode cX1_makeFor 13 = .ok (.if_icmp .ge 21, 3) := by decide +kernel
theorem dX1_makeFor_16 : decode cX1_makeFor 16 = .ok (.aload_n 0, 1) := by decide +kernel
theorem dX1_makeFor_17 : decode cX1_makeFor 17 = .ok (.getfield 19, 3) := by decide +kernel
theorem dX1_makeFor_20 : decode cX1_makeFor 20 = .ok (.iload_n 2, 1) := by decide +kernel
theorem dX1_makeFor_21 : decode cX1_makeFor 21 = .ok (.iaload, 1) := by decide +kernel
theorem dX1_makeFor_22 : decode cX1_makeFor 22 = .ok (.iload_n 1, 1) := by decide +kernel
theorem dX1_makeFor_23 : decode cX1_makeFor 23 = .ok (.if_icmp .ne 5, 3) := by decide +kernel
theorem dX1_makeFor_26 : decode cX1_makeFor 26 = .ok (.iconst 1, 1) := by decide +kernel
theorem dX1_makeFor_27 : decode cX1_makeFor 27 = .ok (.ireturn, 1) := by decide +kernel
theorem dX1_makeFor_28 : decode cX1_makeFor 28 = .ok (.iinc 2 1, 3) := by decide +kernel
theorem dX1_makeFor_31 : decode cX1_makeFor 31 = .ok (.goto (-29), 3) := by decide +kernel
theorem dX1_makeFor_34 : decode cX1_makeFor 34 = .ok (.iconst 0, 1) := by decide +kernel
theorem dX1_makeFor_35 : decode cX1_makeFor 35 = .ok (.ireturn, 1) := by decide +kernel
theorem dX3_init_0 : decode cX3_init 0 = .ok (.aload_n 0, 1) := by decide +kernel
theorem dX3_init_1 : decode cX3_init 1 = .ok (.invokespecial 3, 3) := by decide +kernel
theorem dX3_init_4 : decode cX3_init 4 = .ok (.aload_n 0, 1) := by decide +kernel
theorem dX3_init_5 : decode cX3_init 5 = .ok (.bipush 80, 2) := by decide +kernel
theorem dX3_init_7 : decode cX3_init 7 = .ok (.newarray .char, 2) := by decide +kernel
theorem dX3_init_9 : decode cX3_init 9 = .ok (.putfield 9, 3) := by decide +kernel
theorem dX3_init_12 : decode cX3_init 12 = .ok (.aload_n 0, 1) := by decide +kernel
theorem dX3_init_13 : decode cX3_init 13 = .ok (.iconst 0, 1) := by decide +kernel
theorem dX3_init_14 : decode cX3_init 14 = .ok (.putfield 15, 3) := by decide +kernel
theorem dX3_init_17 : decode cX3_init 17 = .ok (.aload_n 0, 1) := by decide +kernel
theorem dX3_init_18 : decode cX3_init 18 = .ok (.iconst 3, 1) := by decide +kernel
theorem dX3_init_19 : decode cX3_init 19 = .ok (.newarray .int, 2) := by decide +kernel
theorem dX3_init_21 : decode cX3_init 21 = .ok (.putfield 19, 3) := by decide +kernel
theorem dX3_init_24 : decode cX3_init 24 = .ok (.aload_n 0, 1) := by decide +kernel
theorem dX3_init_25 : decode cX3_init 25 = .ok (.iconst 0, 1) := by decide +kernel
theorem dX3_init_26 : decode cX3_init 26 = .ok (.putfield 23, 3) := by decide +kernel
theorem dX3_init_29 : decode cX3_init 29 = .ok (.return_, 1) := by decide +kernel
theorem dX3_append_0 : decode cX3_append 0 = .ok (.aload_n 0, 1) := by decide +kernel
theorem dX3_append_1 : decode cX3_append 1 = .ok (.getfield 15, 3) := by decide +kernel
theorem dX3_append_4 : decode cX3_append 4 = .ok (.ifCond .lt 12, 3) := by decide +kernel
theorem dX3_append_7 : decode cX3_append 7 = .ok (.aload_n 0, 1) := by decide +kernel
theorem dX3_append_8 : decode cX3_append 8 = .ok (.getfield 15, 3) := by decide +kernel
theorem dX3_append_11 : decode cX3_append 11 = .ok (.bipush 80, 2) := by decide +kernel
theorem dX3_append_13 : decode cX3_append 13 = .ok (.if_icmp .lt 6, 3) := by decide +kernel
theorem dX3_append_16 : decode cX3_append 16 = .ok (.bipush (-3), 2) := by decide +kernel
theorem dX3_append_18 : decode cX3_append 18 = .ok (.ireturn, 1) := by decide +kernel
theorem dX3_append_19 : decode cX3_append 19 = .ok (.aload_n 0, 1) := by decide +kernel
theorem dX3_append_20 : decode cX3_append 20 = .ok (.getfield 9, 3) := by decide +kernel
theorem dX3_append_23 : decode cX3_append 23 = .ok (.aload_n 0, 1) := by decide +kernel
theorem dX3_append_24 : decode cX3_append 24 = .ok (.getfield 15, 3) := by decide +kernel
theorem dX3_append_27 : decode cX3_append 27 = .ok (.iload_n 1, 1) := by decide +kernel
theorem dX3_append_28 : decode cX3_append 28 = .ok (.castore, 1) := by decide +kernel
theorem dX3_append_29 : decode cX3_append 29 = .ok (.aload_n 0, 1) := by decide +kernel
theorem dX3_append_30 : decode cX3_append 30 = .ok (.dup, 1) := by decide +kernel
theorem dX3_append_31 : decode cX3_append 31 = .ok (.getfield 15, 3) := by decide +kernel
theorem dX3_append_34 : decode cX3_append 34 = .ok (.iconst 1, 1) := by decide +kernel
theorem dX3_append_35 : decode cX3_append 35 = .ok (.iadd, 1) := by decide +kernel
theorem dX3_append_36 : decode cX3_append 36 = .ok (.putfield 15, 3) := by decide +kernel
theorem dX3_append_39 : decode cX3_append 39 = .ok (.aload_n 0, 1) := by decide +kernel
theorem dX3_append_40 : decode cX3_append 40 = .ok (.getfield 15, 3) := by decide +kernel
theorem dX3_append_43 : decode cX3_append 43 = .ok (.ireturn, 1) := by decide +kernel
theorem dX3_readCommand_0 : decode cX3_readCommand 0 = .ok (.iconst 0, 1) := by decide +kernel
theorem dX3_readCommand_1 : decode cX3_readCommand 1 = .ok (.istore_n 2, 1) := by decide +kernel
theorem dX3_readCommand_2 : decode cX3_readCommand 2 = .ok (.iload_n 2, 1) := by decide +kernel
theorem dX3_readCommand_3 : decode cX3_readCommand 3 = .ok (.bipush 9, 2) := by decide +kernel
theorem dX3_readCommand_5 : decode cX3_readCommand 5 = .ok (.if_icmp .ge 23, 3) := by decide +kernel
theorem dX3_readCommand_8 : decode cX3_readCommand 8 = .ok (.aload_n 0, 1) := by decide +kernel
theorem dX3_readCommand_9 : decode cX3_readCommand 9 = .ok (.iload_n 2, 1) := by decide +kernel
theorem dX3_readCommand_10 : decode cX3_readCommand 10 = .ok (.invokestatic 26, 3) := by decide +kernel
theorem dX3_readCommand_13 : decode cX3_readCommand 13 = .ok (.iload_n 1, 1) := by decide +kernel
theorem dX3_readCommand_14 : decode cX3_readCommand 14 = .ok (.invokevirtual 30, 3) := by decide +kernel
theorem dX3_readCommand_17 : decode cX3_readCommand 17 = .ok (.ifCond .eq 5, 3) := by decide +kernel
theorem dX3_readCommand_20 : decode cX3_readCommand 20 = .ok (.iload_n 2, 1) := by decide +kernel
theorem dX3_readCommand_21 : decode cX3_readCommand 21 = .ok (.ireturn, 1) := by decide +kernel
theorem dX3_readCommand_22 : decode cX3_readCommand 22 = .ok (.iinc 2 1, 3) := by decide +kernel
theorem dX3_readCommand_25 : decode cX3_readCommand 25 = .ok (.goto (-23), 3) := by decide +kernel
theorem dX3_readCommand_28 : decode cX3_readCommand 28 = .ok (.iconst (-1), 1) := by decide +kernel
theorem dX3_readCommand_29 : decode cX3_readCommand 29 = .ok (.ireturn, 1) := by decide +kernel
theorem dX3_form_0 : decode cX3_form 0 = .ok (.iload_n 0, 1) := by decide +kernel
theorem dX3_form_1 : decode cX3_form 1 = .ok (.tableswitch 71 0 7 #[47, 50, 53, 56, 59, 62, 65, 68], 47) := by decide +kernel
theorem dX3_form_48 : decode cX3_form 48 = .ok (.ldc 34, 2) := by decide +kernel
theorem dX3_form_50 : decode cX3_form 50 = .ok (.areturn, 1) := by decide +kernel
theorem dX3_form_51 : decode cX3_form 51 = .ok (.ldc 36, 2) := by decide +kernel
theorem dX3_form_53 : decode cX3_form 53 = .ok (.areturn, 1) := by decide +kernel
theorem dX3_form_54 : decode cX3_form 54 = .ok (.ldc 38, 2) := by decide +kernel
theorem dX3_form_56 : decode cX3_form 56 = .ok (.areturn, 1) := by decide +kernel
theorem dX3_form_57 : decode cX3_form 57 = .ok (.ldc 40, 2) := by decide +kernel
theorem dX3_form_59 : decode cX3_form 59 = .ok (.areturn, 1) := by decide +kernel
theorem dX3_form_60 : decode cX3_form 60 = .ok (.ldc 42, 2) := by decide +kernel
theorem dX3_form_62 : decode cX3_form 62 = .ok (.areturn, 1) := by decide +kernel
theorem dX3_form_63 : decode cX3_form 63 = .ok (.ldc 44, 2) := by decide +kernel
theorem dX3_form_65 : decode cX3_form 65 = .ok (.areturn, 1) := by decide +kernel
theorem dX3_form_66 : decode cX3_form 66 = .ok (.ldc 46, 2) := by decide +kernel
theorem dX3_form_68 : decode cX3_form 68 = .ok (.areturn, 1) := by decide +kernel
theorem dX3_form_69 : decode cX3_form 69 = .ok (.ldc 48, 2) := by decide +kernel
theorem dX3_form_71 : decode cX3_form 71 = .ok (.areturn, 1) := by decide +kernel
theorem dX3_form_72 : decode cX3_form 72 = .ok (.ldc 50, 2) := by decide +kernel
theorem dX3_form_74 : decode cX3_form 74 = .ok (.areturn, 1) := by decide +kernel
theorem dX3_matches_0 : decode cX3_matches 0 = .ok (.iconst 0, 1) := by decide +kernel
theorem dX3_matches_1 : decode cX3_matches 1 = .ok (.istore_n 3, 1) := by decide +kernel
theorem dX3_matches_2 : decode cX3_matches 2 = .ok (.aload_n 0, 1) := by decide +kernel
theorem dX3_matches_3 : decode cX3_matches 3 = .ok (.iload_n 2, 1) := by decide +kernel
theorem dX3_matches_4 : decode cX3_matches 4 = .ok (.putfield 23, 3) := by decide +kernel
theorem dX3_matches_7 : decode cX3_matches 7 = .ok (.iconst 0, 1) := by decide +kernel
theorem dX3_matches_8 : decode cX3_matches 8 = .ok (.istore 4, 2) := by decide +kernel
theorem dX3_matches_10 : decode cX3_matches 10 = .ok (.iload 4, 2) := by decide +kernel
theorem dX3_matches_12 : decode cX3_matches 12 = .ok (.aload_n 1, 1) := by decide +kernel
theorem dX3_matches_13 : decode cX3_matches 13 = .ok (.invokevirtual 52, 3) := by decide +kernel
theorem dX3_matches_16 : decode cX3_matches 16 = .ok (.if_icmp .ge 106, 3) := by decide +kernel
theorem dX3_matches_19 : decode cX3_matches 19 = .ok (.aload_n 1, 1) := by decide +kernel
theorem dX3_matches_20 : decode cX3_matches 20 = .ok (.iload 4, 2) := by decide +kernel
theorem dX3_matches_22 : decode cX3_matches 22 = .ok (.invokevirtual 57, 3) := by decide +kernel
theorem dX3_matches_25 : decode cX3_matches 25 = .ok (.istore 5, 2) := by decide +kernel
theorem dX3_matches_27 : decode cX3_matches 27 = .ok (.iload 5, 2) := by decide +kernel
theorem dX3_matches_29 : decode cX3_matches 29 = .ok (.bipush 64, 2) := by decide +kernel
theorem dX3_matches_31 : decode cX3_matches 31 = .ok (.if_icmp .eq 10, 3) := by decide +kernel
theorem dX3_matches_34 : decode cX3_matches 34 = .ok (.iload 5, 2) := by decide +kernel
theorem dX3_matches_36 : decode cX3_matches 36 = .ok (.bipush 35, 2) := by decide +kernel
theorem dX3_matches_38 : decode cX3_matches 38 = .ok (.if_icmp .ne 50, 3) := by decide +kernel
theorem dX3_matches_41 : decode cX3_matches 41 = .ok (.iload 5, 2) := by decide +kernel
theorem dX3_matches_43 : decode cX3_matches 43 = .ok (.bipush 64, 2) := by decide +kernel
theorem dX3_matches_45 : decode cX3_matches 45 = .ok (.if_icmp .ne 10, 3) := by decide +kernel
theorem dX3_matches_48 : decode cX3_matches 48 = .ok (.aload_n 0, 1) := by decide +kernel
theorem dX3_matches_49 : decode cX3_matches 49 = .ok (.invokevirtual 61, 3) := by decide +kernel
theorem dX3_matches_52 : decode cX3_matches 52 = .ok (.goto 7, 3) := by decide +kernel
theorem dX3_matches_55 : decode cX3_matches 55 = .ok (.aload_n 0, 1) := by decide +kernel
theorem dX3_matches_56 : decode cX3_matches 56 = .ok (.invokevirtual 64, 3) := by decide +kernel
theorem dX3_matches_59 : decode cX3_matches 59 = .ok (.istore 6, 2) := by decide +kernel
theorem dX3_matches_61 : decode cX3_matches 61 = .ok (.iload 6, 2) := by decide +kernel
theorem dX3_matches_63 : decode cX3_matches 63 = .ok (.iconst (-1), 1) := by decide +kernel
theorem dX3_matches_64 : decode cX3_matches 64 = .ok (.if_icmp .eq 8, 3) := by decide +kernel
theorem dX3_matches_67 : decode cX3_matches 67 = .ok (.iload_n 3, 1) := by decide +kernel
theorem dX3_matches_68 : decode cX3_matches 68 = .ok (.iconst 3, 1) := by decide +kernel
theorem dX3_matches_69 : decode cX3_matches 69 = .ok (.if_icmp .lt 5, 3) := by decide +kernel
theorem dX3_matches_72 : decode cX3_matches 72 = .ok (.iconst 0, 1) := by decide +kernel
theorem dX3_matches_73 : decode cX3_matches 73 = .ok (.ireturn, 1) := by decide +kernel
theorem dX3_matches_74 : decode cX3_matches 74 = .ok (.aload_n 0, 1) := by decide +kernel
theorem dX3_matches_75 : decode cX3_matches 75 = .ok (.getfield 19, 3) := by decide +kernel
theorem dX3_matches_78 : decode cX3_matches 78 = .ok (.iload_n 3, 1) := by decide +kernel
theorem dX3_matches_79 : decode cX3_matches 79 = .ok (.iload 6, 2) := by decide +kernel
theorem dX3_matches_81 : decode cX3_matches 81 = .ok (.iastore, 1) := by decide +kernel
theorem dX3_matches_82 : decode cX3_matches 82 = .ok (.iinc 3 1, 3) := by decide +kernel
theorem dX3_matches_85 : decode cX3_matches 85 = .ok (.goto 31, 3) := by decide +kernel
theorem dX3_matches_88 : decode cX3_matches 88 = .ok (.aload_n 0, 1) := by decide +kernel
theorem dX3_matches_89 : decode cX3_matches 89 = .ok (.aload_n 0, 1) := by decide +kernel
theorem dX3_matches_90 : decode cX3_matches 90 = .ok (.getfield 23, 3) := by decide +kernel
theorem dX3_matches_93 : decode cX3_matches 93 = .ok (.invokevirtual 67, 3) := by decide +kernel
theorem dX3_matches_96 : decode cX3_matches 96 = .ok (.iload 5, 2) := by decide +kernel
theorem dX3_matches_98 : decode cX3_matches 98 = .ok (.if_icmp .ne 16, 3) := by decide +kernel
theorem dX3_matches_101 : decode cX3_matches 101 = .ok (.aload_n 0, 1) := by decide +kernel
theorem dX3_matches_102 : decode cX3_matches 102 = .ok (.dup, 1) := by decide +kernel
theorem dX3_matches_103 : decode cX3_matches 103 = .ok (.getfield 23, 3) := by decide +kernel
theorem dX3_matches_106 : decode cX3_matches 106 = .ok (.iconst 1, 1) := by decide +kernel
theorem dX3_matches_107 : decode cX3_matches 107 = .ok (.iadd, 1) := by decide +kernel
theorem dX3_matches_108 : decode cX3_matches 108 = .ok (.putfield 23, 3) := by decide +kernel
theorem dX3_matches_111 : decode cX3_matches 111 = .ok (.goto 5, 3) := by decide +kernel
theorem dX3_matches_114 : decode cX3_matches 114 = .ok (.iconst 0, 1) := by decide +kernel
theorem dX3_matches_115 : decode cX3_matches 115 = .ok (.ireturn, 1) := by decide +kernel
theorem dX3_matches_116 : decode cX3_matches 116 = .ok (.iinc 4 1, 3) := by decide +kernel
theorem dX3_matches_119 : decode cX3_matches 119 = .ok (.goto (-109), 3) := by decide +kernel
theorem dX3_matches_122 : decode cX3_matches 122 = .ok (.iconst 1, 1) := by decide +kernel
theorem dX3_matches_123 : decode cX3_matches 123 = .ok (.ireturn, 1) := by decide +kernel
theorem dX3_readName_0 : decode cX3_readName 0 = .ok (.aload_n 0, 1) := by decide +kernel
theorem dX3_readName_1 : decode cX3_readName 1 = .ok (.aload_n 0, 1) := by decide +kernel
theorem dX3_readName_2 : decode cX3_readName 2 = .ok (.getfield 23, 3) := by decide +kernel
theorem dX3_readName_5 : decode cX3_readName 5 = .ok (.invokevirtual 67, 3) := by decide +kernel
theorem dX3_readName_8 : decode cX3_readName 8 = .ok (.istore_n 1, 1) := by decide +kernel
theorem dX3_readName_9 : decode cX3_readName 9 = .ok (.iload_n 1, 1) := by decide +kernel
theorem dX3_readName_10 : decode cX3_readName 10 = .ok (.bipush 97, 2) := by decide +kernel
theorem dX3_readName_12 : decode cX3_readName 12 = .ok (.bipush 104, 2) := by decide +kernel
theorem dX3_readName_14 : decode cX3_readName 14 = .ok (.invokestatic 71, 3) := by decide +kernel
theorem dX3_readName_17 : decode cX3_readName 17 = .ok (.ifCond .ne 5, 3) := by decide +kernel
theorem dX3_readName_20 : decode cX3_readName 20 = .ok (.iconst (-1), 1) := by decide +kernel
theorem dX3_readName_21 : decode cX3_readName 21 = .ok (.ireturn, 1) := by decide +kernel
theorem dX3_readName_22 : decode cX3_readName 22 = .ok (.aload_n 0, 1) := by decide +kernel
theorem dX3_readName_23 : decode cX3_readName 23 = .ok (.dup, 1) := by decide +kernel
theorem dX3_readName_24 : decode cX3_readName 24 = .ok (.getfield 23, 3) := by decide +kernel
theorem dX3_readName_27 : decode cX3_readName 27 = .ok (.iconst 1, 1) := by decide +kernel
theorem dX3_readName_28 : decode cX3_readName 28 = .ok (.iadd, 1) := by decide +kernel
theorem dX3_readName_29 : decode cX3_readName 29 = .ok (.putfield 23, 3) := by decide +kernel
theorem dX3_readName_32 : decode cX3_readName 32 = .ok (.iload_n 1, 1) := by decide +kernel
theorem dX3_readName_33 : decode cX3_readName 33 = .ok (.bipush 97, 2) := by decide +kernel
theorem dX3_readName_35 : decode cX3_readName 35 = .ok (.isub, 1) := by decide +kernel
theorem dX3_readName_36 : decode cX3_readName 36 = .ok (.ireturn, 1) := by decide +kernel
theorem dX3_readNumber_0 : decode cX3_readNumber 0 = .ok (.iconst 0, 1) := by decide +kernel
theorem dX3_readNumber_1 : decode cX3_readNumber 1 = .ok (.istore_n 1, 1) := by decide +kernel
theorem dX3_readNumber_2 : decode cX3_readNumber 2 = .ok (.iconst 0, 1) := by decide +kernel
theorem dX3_readNumber_3 : decode cX3_readNumber 3 = .ok (.istore_n 2, 1) := by decide +kernel
theorem dX3_readNumber_4 : decode cX3_readNumber 4 = .ok (.iload_n 2, 1) := by decide +kernel
theorem dX3_readNumber_5 : decode cX3_readNumber 5 = .ok (.iconst 4, 1) := by decide +kernel
theorem dX3_readNumber_6 : decode cX3_readNumber 6 = .ok (.if_icmp .ge 54, 3) := by decide +kernel
theorem dX3_readNumber_9 : decode cX3_readNumber 9 = .ok (.aload_n 0, 1) := by decide +kernel
theorem dX3_readNumber_10 : decode cX3_readNumber 10 = .ok (.aload_n 0, 1) := by decide +kernel
theorem dX3_readNumber_11 : decode cX3_readNumber 11 = .ok (.getfield 23, 3) := by decide +kernel
theorem dX3_readNumber_14 : decode cX3_readNumber 14 = .ok (.invokevirtual 67, 3) := by decide +kernel
theorem dX3_readNumber_17 : decode cX3_readNumber 17 = .ok (.bipush 48, 2) := by decide +kernel
theorem dX3_readNumber_19 : decode cX3_readNumber 19 = .ok (.bipush 57, 2) := by decide +kernel
theorem dX3_readNumber_21 : decode cX3_readNumber 21 = .ok (.invokestatic 71, 3) := by decide +kernel
theorem dX3_readNumber_24 : decode cX3_readNumber 24 = .ok (.ifCond .eq 36, 3) := by decide +kernel
theorem dX3_readNumber_27 : decode cX3_readNumber 27 = .ok (.iload_n 1, 1) := by decide +kernel
theorem dX3_readNumber_28 : decode cX3_readNumber 28 = .ok (.bipush 10, 2) := by decide +kernel
theorem dX3_readNumber_30 : decode cX3_readNumber 30 = .ok (.imul, 1) := by decide +kernel
theorem dX3_readNumber_31 : decode cX3_readNumber 31 = .ok (.aload_n 0, 1) := by decide +kernel
theorem dX3_readNumber_32 : decode cX3_readNumber 32 = .ok (.aload_n 0, 1) := by decide +kernel
theorem dX3_readNumber_33 : decode cX3_readNumber 33 = .ok (.getfield 23, 3) := by decide +kernel
theorem dX3_readNumber_36 : decode cX3_readNumber 36 = .ok (.invokevirtual 67, 3) := by decide +kernel
theorem dX3_readNumber_39 : decode cX3_readNumber 39 = .ok (.iadd, 1) := by decide +kernel
theorem dX3_readNumber_40 : decode cX3_readNumber 40 = .ok (.bipush 48, 2) := by decide +kernel
theorem dX3_readNumber_42 : decode cX3_readNumber 42 = .ok (.isub, 1) := by decide +kernel
theorem dX3_readNumber_43 : decode cX3_readNumber 43 = .ok (.istore_n 1, 1) := by decide +kernel
theorem dX3_readNumber_44 : decode cX3_readNumber 44 = .ok (.iinc 2 1, 3) := by decide +kernel
theorem dX3_readNumber_47 : decode cX3_readNumber 47 = .ok (.aload_n 0, 1) := by decide +kernel
theorem dX3_readNumber_48 : decode cX3_readNumber 48 = .ok (.dup, 1) := by decide +kernel
theorem dX3_readNumber_49 : decode cX3_readNumber 49 = .ok (.getfield 23, 3) := by decide +kernel
theorem dX3_readNumber_52 : decode cX3_readNumber 52 = .ok (.iconst 1, 1) := by decide +kernel
theorem dX3_readNumber_53 : decode cX3_readNumber 53 = .ok (.iadd, 1) := by decide +kernel
theorem dX3_readNumber_54 : decode cX3_readNumber 54 = .ok (.putfield 23, 3) := by decide +kernel
theorem dX3_readNumber_57 : decode cX3_readNumber 57 = .ok (.goto (-53), 3) := by decide +kernel
theorem dX3_readNumber_60 : decode cX3_readNumber 60 = .ok (.iload_n 2, 1) := by decide +kernel
theorem dX3_readNumber_61 : decode cX3_readNumber 61 = .ok (.ifCond .ne 7, 3) := by decide +kernel
theorem dX3_readNumber_64 : decode cX3_readNumber 64 = .ok (.iconst (-1), 1) := by decide +kernel
theorem dX3_readNumber_65 : decode cX3_readNumber 65 = .ok (.goto 4, 3) := by decide +kernel
theorem dX3_readNumber_68 : decode cX3_readNumber 68 = .ok (.iload_n 1, 1) := by decide +kernel
theorem dX3_readNumber_69 : decode cX3_readNumber 69 = .ok (.ireturn, 1) := by decide +kernel
theorem dX3_signAt_0 : decode cX3_signAt 0 = .ok (.iload_n 1, 1) := by decide +kernel
theorem dX3_signAt_1 : decode cX3_signAt 1 = .ok (.ifCond .lt 26, 3) := by decide +kernel
theorem dX3_signAt_4 : decode cX3_signAt 4 = .ok (.iload_n 1, 1) := by decide +kernel
theorem dX3_signAt_5 : decode cX3_signAt 5 = .ok (.aload_n 0, 1) := by decide +kernel
theorem dX3_signAt_6 : decode cX3_signAt 6 = .ok (.getfield 15, 3) := by decide +kernel
theorem dX3_signAt_9 : decode cX3_signAt 9 = .ok (.if_icmp .ge 18, 3) := by decide +kernel
theorem dX3_signAt_12 : decode cX3_signAt 12 = .ok (.iload_n 1, 1) := by decide +kernel
theorem dX3_signAt_13 : decode cX3_signAt 13 = .ok (.bipush 80, 2) := by decide +kernel
theorem dX3_signAt_15 : decode cX3_signAt 15 = .ok (.if_icmp .ge 12, 3) := by decide +kernel
theorem dX3_signAt_18 : decode cX3_signAt 18 = .ok (.aload_n 0, 1) := by decide +kernel
theorem dX3_signAt_19 : decode cX3_signAt 19 = .ok (.getfield 9, 3) := by decide +kernel
theorem dX3_signAt_22 : decode cX3_signAt 22 = .ok (.iload_n 1, 1) := by decide +kernel
theorem dX3_signAt_23 : decode cX3_signAt 23 = .ok (.caload, 1) := by decide +kernel
theorem dX3_signAt_24 : decode cX3_signAt 24 = .ok (.goto 4, 3) := by decide +kernel
theorem dX3_signAt_27 : decode cX3_signAt 27 = .ok (.iconst (-1), 1) := by decide +kernel
theorem dX3_signAt_28 : decode cX3_signAt 28 = .ok (.ireturn, 1) := by decide +kernel
theorem dX4_init_0 : decode cX4_init 0 = .ok (.aload_n 0, 1) := by decide +kernel
theorem dX4_init_1 : decode cX4_init 1 = .ok (.invokespecial 3, 3) := by decide +kernel
theorem dX4_init_4 : decode cX4_init 4 = .ok (.aload_n 0, 1) := by decide +kernel
theorem dX4_init_5 : decode cX4_init 5 = .ok (.bipush 7, 2) := by decide +kernel
theorem dX4_init_7 : decode cX4_init 7 = .ok (.newarray .int, 2) := by decide +kernel
theorem dX4_init_9 : decode cX4_init 9 = .ok (.putfield 9, 3) := by decide +kernel
theorem dX4_init_12 : decode cX4_init 12 = .ok (.aload_n 0, 1) := by decide +kernel
theorem dX4_init_13 : decode cX4_init 13 = .ok (.bipush 7, 2) := by decide +kernel
theorem dX4_init_15 : decode cX4_init 15 = .ok (.newarray .int, 2) := by decide +kernel
theorem dX4_init_17 : decode cX4_init 17 = .ok (.putfield 15, 3) := by decide +kernel
theorem dX4_init_20 : decode cX4_init 20 = .ok (.aload_n 0, 1) := by decide +kernel
theorem dX4_init_21 : decode cX4_init 21 = .ok (.bipush 7, 2) := by decide +kernel
theorem dX4_init_23 : decode cX4_init 23 = .ok (.newarray .int, 2) := by decide +kernel
theorem dX4_init_25 : decode cX4_init 25 = .ok (.putfield 18, 3) := by decide +kernel
theorem dX4_init_28 : decode cX4_init 28 = .ok (.return_, 1) := by decide +kernel
theorem dX4_become_0 : decode cX4_become 0 = .ok (.iconst 0, 1) := by decide +kernel
theorem dX4_become_1 : decode cX4_become 1 = .ok (.istore_n 2, 1) := by decide +kernel
theorem dX4_become_2 : decode cX4_become 2 = .ok (.iload_n 2, 1) := by decide +kernel
theorem dX4_become_3 : decode cX4_become 3 = .ok (.bipush 7, 2) := by decide +kernel
theorem dX4_become_5 : decode cX4_become 5 = .ok (.if_icmp .ge 45, 3) := by decide +kernel
theorem dX4_become_8 : decode cX4_become 8 = .ok (.aload_n 0, 1) := by decide +kernel
theorem dX4_become_9 : decode cX4_become 9 = .ok (.getfield 9, 3) := by decide +kernel
theorem dX4_become_12 : decode cX4_become 12 = .ok (.iload_n 2, 1) := by decide +kernel
theorem dX4_become_13 : decode cX4_become 13 = .ok (.aload_n 1, 1) := by decide +kernel
theorem dX4_become_14 : decode cX4_become 14 = .ok (.getfield 9, 3) := by decide +kernel
theorem dX4_become_17 : decode cX4_become 17 = .ok (.iload_n 2, 1) := by decide +kernel
theorem dX4_become_18 : decode cX4_become 18 = .ok (.iaload, 1) := by decide +kernel
theorem dX4_become_19 : decode cX4_become 19 = .ok (.iastore, 1) := by decide +kernel
theorem dX4_become_20 : decode cX4_become 20 = .ok (.aload_n 0, 1) := by decide +kernel
theorem dX4_become_21 : decode cX4_become 21 = .ok (.getfield 15, 3) := by decide +kernel
theorem dX4_become_24 : decode cX4_become 24 = .ok (.iload_n 2, 1) := by decide +kernel
theorem dX4_become_25 : decode cX4_become 25 = .ok (.aload_n 1, 1) := by decide +kernel
theorem dX4_become_26 : decode cX4_become 26 = .ok (.getfield 15, 3) := by decide +kernel
theorem dX4_become_29 : decode cX4_become 29 = .ok (.iload_n 2, 1) := by decide +kernel
theorem dX4_become_30 : decode cX4_become 30 = .ok (.iaload, 1) := by decide +kernel
theorem dX4_become_31 : decode cX4_become 31 = .ok (.iastore, 1) := by decide +kernel
theorem dX4_become_32 : decode cX4_become 32 = .ok (.aload_n 0, 1) := by decide +kernel
theorem dX4_become_33 : decode cX4_become 33 = .ok (.getfield 18, 3) := by decide +kernel
theorem dX4_become_36 : decode cX4_become 36 = .ok (.iload_n 2, 1) := by decide +kernel
theorem dX4_become_37 : decode cX4_become 37 = .ok (.aload_n 1, 1) := by decide +kernel
theorem dX4_become_38 : decode cX4_become 38 = .ok (.getfield 18, 3) := by decide +kernel
theorem dX4_become_41 : decode cX4_become 41 = .ok (.iload_n 2, 1) := by decide +kernel
theorem dX4_become_42 : decode cX4_become 42 = .ok (.iaload, 1) := by decide +kernel
theorem dX4_become_43 : decode cX4_become 43 = .ok (.iastore, 1) := by decide +kernel
theorem dX4_become_44 : decode cX4_become 44 = .ok (.iinc 2 1, 3) := by decide +kernel
theorem dX4_become_47 : decode cX4_become 47 = .ok (.goto (-45), 3) := by decide +kernel
theorem dX4_become_50 : decode cX4_become 50 = .ok (.return_, 1) := by decide +kernel
theorem dX4_place_0 : decode cX4_place 0 = .ok (.iload_n 1, 1) := by decide +kernel
theorem dX4_place_1 : decode cX4_place 1 = .ok (.ifCond .lt 31, 3) := by decide +kernel
theorem dX4_place_4 : decode cX4_place 4 = .ok (.iload_n 1, 1) := by decide +kernel
theorem dX4_place_5 : decode cX4_place 5 = .ok (.bipush 7, 2) := by decide +kernel
theorem dX4_place_7 : decode cX4_place 7 = .ok (.if_icmp .ge 25, 3) := by decide +kernel
theorem dX4_place_10 : decode cX4_place 10 = .ok (.aload_n 0, 1) := by decide +kernel
theorem dX4_place_11 : decode cX4_place 11 = .ok (.getfield 9, 3) := by decide +kernel
theorem dX4_place_14 : decode cX4_place 14 = .ok (.iload_n 1, 1) := by decide +kernel
theorem dX4_place_15 : decode cX4_place 15 = .ok (.iload_n 2, 1) := by decide +kernel
theorem dX4_place_16 : decode cX4_place 16 = .ok (.iastore, 1) := by decide +kernel
theorem dX4_place_17 : decode cX4_place 17 = .ok (.aload_n 0, 1) := by decide +kernel
theorem dX4_place_18 : decode cX4_place 18 = .ok (.getfield 15, 3) := by decide +kernel
theorem dX4_place_21 : decode cX4_place 21 = .ok (.iload_n 1, 1) := by decide +kernel
theorem dX4_place_22 : decode cX4_place 22 = .ok (.iload_n 3, 1) := by decide +kernel
theorem dX4_place_23 : decode cX4_place 23 = .ok (.iastore, 1) := by decide +kernel
theorem dX4_place_24 : decode cX4_place 24 = .ok (.aload_n 0, 1) := by decide +kernel
theorem dX4_place_25 : decode cX4_place 25 = .ok (.getfield 18, 3) := by decide +kernel
theorem dX4_place_28 : decode cX4_place 28 = .ok (.iload_n 1, 1) := by decide +kernel
theorem dX4_place_29 : decode cX4_place 29 = .ok (.iload 4, 2) := by decide +kernel
theorem dX4_place_31 : decode cX4_place 31 = .ok (.iastore, 1) := by decide +kernel
theorem dX4_place_32 : decode cX4_place 32 = .ok (.return_, 1) := by decide +kernel
theorem dX4_use_0 : decode cX4_use 0 = .ok (.iload_n 1, 1) := by decide +kernel
theorem dX4_use_1 : decode cX4_use 1 = .ok (.ifCond .lt 16, 3) := by decide +kernel
theorem dX4_use_4 : decode cX4_use 4 = .ok (.iload_n 1, 1) := by decide +kernel
theorem dX4_use_5 : decode cX4_use 5 = .ok (.bipush 7, 2) := by decide +kernel
theorem dX4_use_7 : decode cX4_use 7 = .ok (.if_icmp .ge 10, 3) := by decide +kernel
theorem dX4_use_10 : decode cX4_use 10 = .ok (.aload_n 0, 1) := by decide +kernel
theorem dX4_use_11 : decode cX4_use 11 = .ok (.getfield 18, 3) := by decide +kernel
theorem dX4_use_14 : decode cX4_use 14 = .ok (.iload_n 1, 1) := by decide +kernel
theorem dX4_use_15 : decode cX4_use 15 = .ok (.iload_n 2, 1) := by decide +kernel
theorem dX4_use_16 : decode cX4_use 16 = .ok (.iastore, 1) := by decide +kernel
theorem dX4_use_17 : decode cX4_use 17 = .ok (.return_, 1) := by decide +kernel
theorem dX4_valueOn_0 : decode cX4_valueOn 0 = .ok (.iload_n 1, 1) := by decide +kernel
theorem dX4_valueOn_1 : decode cX4_valueOn 1 = .ok (.ifCond .lt 18, 3) := by decide +kernel
theorem dX4_valueOn_4 : decode cX4_valueOn 4 = .ok (.iload_n 1, 1) := by decide +kernel
theorem dX4_valueOn_5 : decode cX4_valueOn 5 = .ok (.bipush 7, 2) := by decide +kernel
theorem dX4_valueOn_7 : decode cX4_valueOn 7 = .ok (.if_icmp .ge 12, 3) := by decide +kernel
theorem dX4_valueOn_10 : decode cX4_valueOn 10 = .ok (.aload_n 0, 1) := by decide +kernel
theorem dX4_valueOn_11 : decode cX4_valueOn 11 = .ok (.getfield 9, 3) := by decide +kernel
theorem dX4_valueOn_14 : decode cX4_valueOn 14 = .ok (.iload_n 1, 1) := by decide +kernel
theorem dX4_valueOn_15 : decode cX4_valueOn 15 = .ok (.iaload, 1) := by decide +kernel
theorem dX4_valueOn_16 : decode cX4_valueOn 16 = .ok (.goto 4, 3) := by decide +kernel
theorem dX4_valueOn_19 : decode cX4_valueOn 19 = .ok (.iconst 0, 1) := by decide +kernel
theorem dX4_valueOn_20 : decode cX4_valueOn 20 = .ok (.ireturn, 1) := by decide +kernel
theorem dX4_knownTimeOf_0 : decode cX4_knownTimeOf 0 = .ok (.iload_n 1, 1) := by decide +kernel
theorem dX4_knownTimeOf_1 : decode cX4_knownTimeOf 1 = .ok (.ifCond .lt 18, 3) := by decide +kernel
theorem dX4_knownTimeOf_4 : decode cX4_knownTimeOf 4 = .ok (.iload_n 1, 1) := by decide +kernel
theorem dX4_knownTimeOf_5 : decode cX4_knownTimeOf 5 = .ok (.bipush 7, 2) := by decide +kernel
theorem dX4_knownTimeOf_7 : decode cX4_knownTimeOf 7 = .ok (.if_icmp .ge 12, 3) := by decide +kernel
theorem dX4_knownTimeOf_10 : decode cX4_knownTimeOf 10 = .ok (.aload_n 0, 1) := by decide +kernel
theorem dX4_knownTimeOf_11 : decode cX4_knownTimeOf 11 = .ok (.getfield 15, 3) := by decide +kernel
theorem dX4_knownTimeOf_14 : decode cX4_knownTimeOf 14 = .ok (.iload_n 1, 1) := by decide +kernel
theorem dX4_knownTimeOf_15 : decode cX4_knownTimeOf 15 = .ok (.iaload, 1) := by decide +kernel
theorem dX4_knownTimeOf_16 : decode cX4_knownTimeOf 16 = .ok (.goto 5, 3) := by decide +kernel
theorem dX4_knownTimeOf_19 : decode cX4_knownTimeOf 19 = .ok (.ldc 21, 2) := by decide +kernel
theorem dX4_knownTimeOf_21 : decode cX4_knownTimeOf 21 = .ok (.ireturn, 1) := by decide +kernel
theorem dX4_setKnownTime_0 : decode cX4_setKnownTime 0 = .ok (.iload_n 1, 1) := by decide +kernel
theorem dX4_setKnownTime_1 : decode cX4_setKnownTime 1 = .ok (.ifCond .lt 16, 3) := by decide +kernel
theorem dX4_setKnownTime_4 : decode cX4_setKnownTime 4 = .ok (.iload_n 1, 1) := by decide +kernel
theorem dX4_setKnownTime_5 : decode cX4_setKnownTime 5 = .ok (.bipush 7, 2) := by decide +kernel
theorem dX4_setKnownTime_7 : decode cX4_setKnownTime 7 = .ok (.if_icmp .ge 10, 3) := by decide +kernel
theorem dX4_setKnownTime_10 : decode cX4_setKnownTime 10 = .ok (.aload_n 0, 1) := by decide +kernel
theorem dX4_setKnownTime_11 : decode cX4_setKnownTime 11 = .ok (.getfield 15, 3) := by decide +kernel
theorem dX4_setKnownTime_14 : decode cX4_setKnownTime 14 = .ok (.iload_n 1, 1) := by decide +kernel
theorem dX4_setKnownTime_15 : decode cX4_setKnownTime 15 = .ok (.iload_n 2, 1) := by decide +kernel
theorem dX4_setKnownTime_16 : decode cX4_setKnownTime 16 = .ok (.iastore, 1) := by decide +kernel
theorem dX4_setKnownTime_17 : decode cX4_setKnownTime 17 = .ok (.return_, 1) := by decide +kernel
theorem dX5_init_0 : decode cX5_init 0 = .ok (.aload_n 0, 1) := by decide +kernel
theorem dX5_init_1 : decode cX5_init 1 = .ok (.invokespecial 1, 3) := by decide +kernel
theorem dX5_init_4 : decode cX5_init 4 = .ok (.aload_n 0, 1) := by decide +kernel
theorem dX5_init_5 : decode cX5_init 5 = .ok (.new 7, 3) := by decide +kernel
theorem dX5_init_8 : decode cX5_init 8 = .ok (.dup, 1) := by decide +kernel
theorem dX5_init_9 : decode cX5_init 9 = .ok (.invokespecial 9, 3) := by decide +kernel
theorem dX5_init_12 : decode cX5_init 12 = .ok (.putfield 10, 3) := by decide +kernel
theorem dX5_init_15 : decode cX5_init 15 = .ok (.aload_n 0, 1) := by decide +kernel
theorem dX5_init_16 : decode cX5_init 16 = .ok (.new 7, 3) := by decide +kernel
theorem dX5_init_19 : decode cX5_init 19 = .ok (.dup, 1) := by decide +kernel
theorem dX5_init_20 : decode cX5_init 20 = .ok (.invokespecial 9, 3) := by decide +kernel
theorem dX5_init_23 : decode cX5_init 23 = .ok (.putfield 16, 3) := by decide +kernel
theorem dX5_init_26 : decode cX5_init 26 = .ok (.aload_n 0, 1) := by decide +kernel
theorem dX5_init_27 : decode cX5_init 27 = .ok (.iconst 4, 1) := by decide +kernel
theorem dX5_init_28 : decode cX5_init 28 = .ok (.anewarray 7, 3) := by decide +kernel
theorem dX5_init_31 : decode cX5_init 31 = .ok (.putfield 19, 3) := by decide +kernel
theorem dX5_init_34 : decode cX5_init 34 = .ok (.aload_n 0, 1) := by decide +kernel
theorem dX5_init_35 : decode cX5_init 35 = .ok (.iconst 0, 1) := by decide +kernel
theorem dX5_init_36 : decode cX5_init 36 = .ok (.putfield 23, 3) := by decide +kernel
theorem dX5_init_39 : decode cX5_init 39 = .ok (.aload_n 0, 1) := by decide +kernel
theorem dX5_init_40 : decode cX5_init 40 = .ok (.new 27, 3) := by decide +kernel
theorem dX5_init_43 : decode cX5_init 43 = .ok (.dup, 1) := by decide +kernel
theorem dX5_init_44 : decode cX5_init 44 = .ok (.invokespecial 29, 3) := by decide +kernel
theorem dX5_init_47 : decode cX5_init 47 = .ok (.putfield 30, 3) := by decide +kernel
theorem dX5_init_50 : decode cX5_init 50 = .ok (.aload_n 0, 1) := by decide +kernel
theorem dX5_init_51 : decode cX5_init 51 = .ok (.iconst (-1), 1) := by decide +kernel
theorem dX5_init_52 : decode cX5_init 52 = .ok (.putfield 34, 3) := by decide +kernel
theorem dX5_init_55 : decode cX5_init 55 = .ok (.aload_n 0, 1) := by decide +kernel
theorem dX5_init_56 : decode cX5_init 56 = .ok (.iconst 0, 1) := by decide +kernel
theorem dX5_init_57 : decode cX5_init 57 = .ok (.putfield 37, 3) := by decide +kernel
theorem dX5_init_60 : decode cX5_init 60 = .ok (.aload_n 0, 1) := by decide +kernel
theorem dX5_init_61 : decode cX5_init 61 = .ok (.iconst 0, 1) := by decide +kernel
theorem dX5_init_62 : decode cX5_init 62 = .ok (.putfield 40, 3) := by decide +kernel
theorem dX5_init_65 : decode cX5_init 65 = .ok (.iconst 0, 1) := by decide +kernel
theorem dX5_init_66 : decode cX5_init 66 = .ok (.istore_n 1, 1) := by decide +kernel
theorem dX5_init_67 : decode cX5_init 67 = .ok (.iload_n 1, 1) := by decide +kernel
theorem dX5_init_68 : decode cX5_init 68 = .ok (.iconst 4, 1) := by decide +kernel
theorem dX5_init_69 : decode cX5_init 69 = .ok (.if_icmp .ge 22, 3) := by decide +kernel
theorem dX5_init_72 : decode cX5_init 72 = .ok (.aload_n 0, 1) := by decide +kernel
theorem dX5_init_73 : decode cX5_init 73 = .ok (.getfield 19, 3) := by decide +kernel
theorem dX5_init_76 : decode cX5_init 76 = .ok (.iload_n 1, 1) := by decide +kernel
theorem dX5_init_77 : decode cX5_init 77 = .ok (.new 7, 3) := by decide +kernel
theorem dX5_init_80 : decode cX5_init 80 = .ok (.dup, 1) := by decide +kernel
theorem dX5_init_81 : decode cX5_init 81 = .ok (.invokespecial 9, 3) := by decide +kernel
theorem dX5_init_84 : decode cX5_init 84 = .ok (.aastore, 1) := by decide +kernel
theorem dX5_init_85 : decode cX5_init 85 = .ok (.iinc 1 1, 3) := by decide +kernel
theorem dX5_init_88 : decode cX5_init 88 = .ok (.goto (-21), 3) := by decide +kernel
theorem dX5_init_91 : decode cX5_init 91 = .ok (.return_, 1) := by decide +kernel
theorem dX5_begin_0 : decode cX5_begin 0 = .ok (.aload_n 0, 1) := by decide +kernel
theorem dX5_begin_1 : decode cX5_begin 1 = .ok (.aload_n 0, 1) := by decide +kernel
theorem dX5_begin_2 : decode cX5_begin 2 = .ok (.invokevirtual 43, 3) := by decide +kernel
theorem dX5_begin_5 : decode cX5_begin 5 = .ok (.iload_n 1, 1) := by decide +kernel
theorem dX5_begin_6 : decode cX5_begin 6 = .ok (.invokevirtual 47, 3) := by decide +kernel
theorem dX5_begin_9 : decode cX5_begin 9 = .ok (.invokevirtual 51, 3) := by decide +kernel
theorem dX5_begin_12 : decode cX5_begin 12 = .ok (.ireturn, 1) := by decide +kernel
theorem dX5_put_0 : decode cX5_put 0 = .ok (.aload_n 0, 1) := by decide +kernel
theorem dX5_put_1 : decode cX5_put 1 = .ok (.aload_n 0, 1) := by decide +kernel
theorem dX5_put_2 : decode cX5_put 2 = .ok (.invokevirtual 43, 3) := by decide +kernel
theorem dX5_put_5 : decode cX5_put 5 = .ok (.iload_n 1, 1) := by decide +kernel
theorem dX5_put_6 : decode cX5_put 6 = .ok (.iload_n 2, 1) := by decide +kernel
theorem dX5_put_7 : decode cX5_put 7 = .ok (.invokevirtual 54, 3) := by decide +kernel
theorem dX5_put_10 : decode cX5_put 10 = .ok (.invokevirtual 51, 3) := by decide +kernel
theorem dX5_put_13 : decode cX5_put 13 = .ok (.ireturn, 1) := by decide +kernel
theorem dX5_copy_0 : decode cX5_copy 0 = .ok (.aload_n 0, 1) := by decide +kernel
theorem dX5_copy_1 : decode cX5_copy 1 = .ok (.aload_n 0, 1) := by decide +kernel
theorem dX5_copy_2 : decode cX5_copy 2 = .ok (.invokevirtual 43, 3) := by decide +kernel
theorem dX5_copy_5 : decode cX5_copy 5 = .ok (.iload_n 1, 1) := by decide +kernel
theorem dX5_copy_6 : decode cX5_copy 6 = .ok (.iload_n 2, 1) := by decide +kernel
theorem dX5_copy_7 : decode cX5_copy 7 = .ok (.invokevirtual 58, 3) := by decide +kernel
theorem dX5_copy_10 : decode cX5_copy 10 = .ok (.invokevirtual 51, 3) := by decide +kernel
theorem dX5_copy_13 : decode cX5_copy 13 = .ok (.ireturn, 1) := by decide +kernel
theorem dX5_order_0 : decode cX5_order 0 = .ok (.aload_n 0, 1) := by decide +kernel
theorem dX5_order_1 : decode cX5_order 1 = .ok (.aload_n 0, 1) := by decide +kernel
theorem dX5_order_2 : decode cX5_order 2 = .ok (.invokevirtual 43, 3) := by decide +kernel
theorem dX5_order_5 : decode cX5_order 5 = .ok (.iload_n 1, 1) := by decide +kernel
theorem dX5_order_6 : decode cX5_order 6 = .ok (.iload_n 2, 1) := by decide +kernel
theorem dX5_order_7 : decode cX5_order 7 = .ok (.iload_n 3, 1) := by decide +kernel
theorem dX5_order_8 : decode cX5_order 8 = .ok (.iload 4, 2) := by decide +kernel
theorem dX5_order_10 : decode cX5_order 10 = .ok (.invokevirtual 61, 3) := by decide +kernel
theorem dX5_order_13 : decode cX5_order 13 = .ok (.invokevirtual 51, 3) := by decide +kernel
theorem dX5_order_16 : decode cX5_order 16 = .ok (.ireturn, 1) := by decide +kernel
theorem dX5_tick_0 : decode cX5_tick 0 = .ok (.aload_n 0, 1) := by decide +kernel
theorem dX5_tick_1 : decode cX5_tick 1 = .ok (.aload_n 0, 1) := by decide +kernel
theorem dX5_tick_2 : decode cX5_tick 2 = .ok (.invokevirtual 43, 3) := by decide +kernel
theorem dX5_tick_5 : decode cX5_tick 5 = .ok (.iload_n 1, 1) := by decide +kernel
theorem dX5_tick_6 : decode cX5_tick 6 = .ok (.invokevirtual 65, 3) := by decide +kernel
theorem dX5_tick_9 : decode cX5_tick 9 = .ok (.invokevirtual 51, 3) := by decide +kernel
theorem dX5_tick_12 : decode cX5_tick 12 = .ok (.ireturn, 1) := by decide +kernel
theorem dX5_set_0 : decode cX5_set 0 = .ok (.aload_n 0, 1) := by decide +kernel
theorem dX5_set_1 : decode cX5_set 1 = .ok (.aload_n 0, 1) := by decide +kernel
theorem dX5_set_2 : decode cX5_set 2 = .ok (.invokevirtual 43, 3) := by decide +kernel
theorem dX5_set_5 : decode cX5_set 5 = .ok (.iload_n 1, 1) := by decide +kernel
theorem dX5_set_6 : decode cX5_set 6 = .ok (.iload_n 2, 1) := by decide +kernel
theorem dX5_set_7 : decode cX5_set 7 = .ok (.invokevirtual 68, 3) := by decide +kernel
theorem dX5_set_10 : decode cX5_set 10 = .ok (.invokevirtual 51, 3) := by decide +kernel
theorem dX5_set_13 : decode cX5_set 13 = .ok (.ireturn, 1) := by decide +kernel
theorem dX5_mark_0 : decode cX5_mark 0 = .ok (.aload_n 0, 1) := by decide +kernel
theorem dX5_mark_1 : decode cX5_mark 1 = .ok (.aload_n 0, 1) := by decide +kernel
theorem dX5_mark_2 : decode cX5_mark 2 = .ok (.invokevirtual 43, 3) := by decide +kernel
theorem dX5_mark_5 : decode cX5_mark 5 = .ok (.invokevirtual 71, 3) := by decide +kernel
theorem dX5_mark_8 : decode cX5_mark 8 = .ok (.invokevirtual 51, 3) := by decide +kernel
theorem dX5_mark_11 : decode cX5_mark 11 = .ok (.ireturn, 1) := by decide +kernel
theorem dX5_keep_0 : decode cX5_keep 0 = .ok (.aload_n 0, 1) := by decide +kernel
theorem dX5_keep_1 : decode cX5_keep 1 = .ok (.aload_n 0, 1) := by decide +kernel
theorem dX5_keep_2 : decode cX5_keep 2 = .ok (.invokevirtual 43, 3) := by decide +kernel
theorem dX5_keep_5 : decode cX5_keep 5 = .ok (.invokevirtual 75, 3) := by decide +kernel
theorem dX5_keep_8 : decode cX5_keep 8 = .ok (.invokevirtual 51, 3) := by decide +kernel
theorem dX5_keep_11 : decode cX5_keep 11 = .ok (.ireturn, 1) := by decide +kernel
theorem dX5_back_0 : decode cX5_back 0 = .ok (.aload_n 0, 1) := by decide +kernel
theorem dX5_back_1 : decode cX5_back 1 = .ok (.aload_n 0, 1) := by decide +kernel
theorem dX5_back_2 : decode cX5_back 2 = .ok (.invokevirtual 43, 3) := by decide +kernel
theorem dX5_back_5 : decode cX5_back 5 = .ok (.iload_n 1, 1) := by decide +kernel
theorem dX5_back_6 : decode cX5_back 6 = .ok (.invokevirtual 78, 3) := by decide +kernel
theorem dX5_back_9 : decode cX5_back 9 = .ok (.invokevirtual 51, 3) := by decide +kernel
theorem dX5_back_12 : decode cX5_back 12 = .ok (.ireturn, 1) := by decide +kernel
theorem dX5_markOf_0 : decode cX5_markOf 0 = .ok (.aload_n 0, 1) := by decide +kernel
theorem dX5_markOf_1 : decode cX5_markOf 1 = .ok (.getfield 10, 3) := by decide +kernel
theorem dX5_markOf_4 : decode cX5_markOf 4 = .ok (.iload_n 1, 1) := by decide +kernel
theorem dX5_markOf_5 : decode cX5_markOf 5 = .ok (.iload_n 2, 1) := by decide +kernel
theorem dX5_markOf_6 : decode cX5_markOf 6 = .ok (.iload_n 3, 1) := by decide +kernel
theorem dX5_markOf_7 : decode cX5_markOf 7 = .ok (.invokevirtual 81, 3) := by decide +kernel
theorem dX5_markOf_10 : decode cX5_markOf 10 = .ok (.ireturn, 1) := by decide +kernel
theorem dX5_nameOf_0 : decode cX5_nameOf 0 = .ok (.aload_n 0, 1) := by decide +kernel
theorem dX5_nameOf_1 : decode cX5_nameOf 1 = .ok (.getfield 10, 3) := by decide +kernel
theorem dX5_nameOf_4 : decode cX5_nameOf 4 = .ok (.iload_n 1, 1) := by decide +kernel
theorem dX5_nameOf_5 : decode cX5_nameOf 5 = .ok (.iload_n 2, 1) := by decide +kernel
theorem dX5_nameOf_6 : decode cX5_nameOf 6 = .ok (.invokevirtual 85, 3) := by decide +kernel
theorem dX5_nameOf_9 : decode cX5_nameOf 9 = .ok (.ireturn, 1) := by decide +kernel
theorem dX5_chairOf_0 : decode cX5_chairOf 0 = .ok (.aload_n 0, 1) := by decide +kernel
theorem dX5_chairOf_1 : decode cX5_chairOf 1 = .ok (.getfield 10, 3) := by decide +kernel
theorem dX5_chairOf_4 : decode cX5_chairOf 4 = .ok (.iload_n 1, 1) := by decide +kernel
theorem dX5_chairOf_5 : decode cX5_chairOf 5 = .ok (.iload_n 2, 1) := by decide +kernel
theorem dX5_chairOf_6 : decode cX5_chairOf 6 = .ok (.invokevirtual 88, 3) := by decide +kernel
theorem dX5_chairOf_9 : decode cX5_chairOf 9 = .ok (.ireturn, 1) := by decide +kernel
theorem dX5_orderOf_0 : decode cX5_orderOf 0 = .ok (.aload_n 0, 1) := by decide +kernel
theorem dX5_orderOf_1 : decode cX5_orderOf 1 = .ok (.getfield 10, 3) := by decide +kernel
theorem dX5_orderOf_4 : decode cX5_orderOf 4 = .ok (.iload_n 1, 1) := by decide +kernel
theorem dX5_orderOf_5 : decode cX5_orderOf 5 = .ok (.iload_n 2, 1) := by decide +kernel
theorem dX5_orderOf_6 : decode cX5_orderOf 6 = .ok (.invokevirtual 91, 3) := by decide +kernel
theorem dX5_orderOf_9 : decode cX5_orderOf 9 = .ok (.ireturn, 1) := by decide +kernel
theorem dX5_count_0 : decode cX5_count 0 = .ok (.iload_n 1, 1) := by decide +kernel
theorem dX5_count_1 : decode cX5_count 1 = .ok (.bipush 10, 2) := by decide +kernel
theorem dX5_count_3 : decode cX5_count 3 = .ok (.if_icmp .ne 8, 3) := by decide +kernel
theorem dX5_count_6 : decode cX5_count 6 = .ok (.aload_n 0, 1) := by decide +kernel
theorem dX5_count_7 : decode cX5_count 7 = .ok (.getfield 23, 3) := by decide +kernel
theorem dX5_count_10 : decode cX5_count 10 = .ok (.ireturn, 1) := by decide +kernel
theorem dX5_count_11 : decode cX5_count 11 = .ok (.iload_n 1, 1) := by decide +kernel
theorem dX5_count_12 : decode cX5_count 12 = .ok (.bipush 11, 2) := by decide +kernel
theorem dX5_count_14 : decode cX5_count 14 = .ok (.if_icmp .ne 11, 3) := by decide +kernel
theorem dX5_count_17 : decode cX5_count 17 = .ok (.aload_n 0, 1) := by decide +kernel
theorem dX5_count_18 : decode cX5_count 18 = .ok (.getfield 30, 3) := by decide +kernel
theorem dX5_count_21 : decode cX5_count 21 = .ok (.getfield 94, 3) := by decide +kernel
theorem dX5_count_24 : decode cX5_count 24 = .ok (.ireturn, 1) := by decide +kernel
theorem dX5_count_25 : decode cX5_count 25 = .ok (.aload_n 0, 1) := by decide +kernel
theorem dX5_count_26 : decode cX5_count 26 = .ok (.getfield 10, 3) := by decide +kernel
theorem dX5_count_29 : decode cX5_count 29 = .ok (.iload_n 1, 1) := by decide +kernel
theorem dX5_count_30 : decode cX5_count 30 = .ok (.invokevirtual 97, 3) := by decide +kernel
theorem dX5_count_33 : decode cX5_count 33 = .ok (.ireturn, 1) := by decide +kernel
theorem dX5_sends_0 : decode cX5_sends 0 = .ok (.aload_n 0, 1) := by decide +kernel
theorem dX5_sends_1 : decode cX5_sends 1 = .ok (.invokevirtual 43, 3) := by decide +kernel
theorem dX5_sends_4 : decode cX5_sends 4 = .ok (.astore 4, 2) := by decide +kernel
theorem dX5_sends_6 : decode cX5_sends 6 = .ok (.aload 4, 2) := by decide +kernel
theorem dX5_sends_8 : decode cX5_sends 8 = .ok (.iconst 0, 1) := by decide +kernel
theorem dX5_sends_9 : decode cX5_sends 9 = .ok (.iload_n 1, 1) := by decide +kernel
theorem dX5_sends_10 : decode cX5_sends 10 = .ok (.iload_n 2, 1) := by decide +kernel
theorem dX5_sends_11 : decode cX5_sends 11 = .ok (.iload_n 3, 1) := by decide +kernel
theorem dX5_sends_12 : decode cX5_sends 12 = .ok (.invokevirtual 61, 3) := by decide +kernel
theorem dX5_sends_15 : decode cX5_sends 15 = .ok (.istore 5, 2) := by decide +kernel
theorem dX5_sends_17 : decode cX5_sends 17 = .ok (.iload 5, 2) := by decide +kernel
theorem dX5_sends_19 : decode cX5_sends 19 = .ok (.ifCond .ge 13, 3) := by decide +kernel
theorem dX5_sends_22 : decode cX5_sends 22 = .ok (.iload 5, 2) := by decide +kernel
theorem dX5_sends_24 : decode cX5_sends 24 = .ok (.bipush (-3), 2) := by decide +kernel
theorem dX5_sends_26 : decode cX5_sends 26 = .ok (.if_icmp .eq 6, 3) := by decide +kernel
theorem dX5_sends_29 : decode cX5_sends 29 = .ok (.iload 5, 2) := by decide +kernel
theorem dX5_sends_31 : decode cX5_sends 31 = .ok (.ireturn, 1) := by decide +kernel
theorem dX5_sends_32 : decode cX5_sends 32 = .ok (.aload 4, 2) := by decide +kernel
theorem dX5_sends_34 : decode cX5_sends 34 = .ok (.getfield 100, 3) := by decide +kernel
theorem dX5_sends_37 : decode cX5_sends 37 = .ok (.aload_n 0, 1) := by decide +kernel
theorem dX5_sends_38 : decode cX5_sends 38 = .ok (.getfield 10, 3) := by decide +kernel
theorem dX5_sends_41 : decode cX5_sends 41 = .ok (.getfield 100, 3) := by decide +kernel
theorem dX5_sends_44 : decode cX5_sends 44 = .ok (.isub, 1) := by decide +kernel
theorem dX5_sends_45 : decode cX5_sends 45 = .ok (.ireturn, 1) := by decide +kernel
theorem dX5_idleIn_0 : decode cX5_idleIn 0 = .ok (.aload_n 0, 1) := by decide +kernel
theorem dX5_idleIn_1 : decode cX5_idleIn 1 = .ok (.invokevirtual 43, 3) := by decide +kernel
theorem dX5_idleIn_4 : decode cX5_idleIn 4 = .ok (.invokevirtual 103, 3) := by decide +kernel
theorem dX5_idleIn_7 : decode cX5_idleIn 7 = .ok (.ireturn, 1) := by decide +kernel
theorem dX5_knownIn_0 : decode cX5_knownIn 0 = .ok (.iload_n 1, 1) := by decide +kernel
theorem dX5_knownIn_1 : decode cX5_knownIn 1 = .ok (.invokestatic 106, 3) := by decide +kernel
theorem dX5_knownIn_4 : decode cX5_knownIn 4 = .ok (.ifCond .ne 5, 3) := by decide +kernel
theorem dX5_knownIn_7 : decode cX5_knownIn 7 = .ok (.iconst (-1), 1) := by decide +kernel
theorem dX5_knownIn_8 : decode cX5_knownIn 8 = .ok (.ireturn, 1) := by decide +kernel
theorem dX5_knownIn_9 : decode cX5_knownIn 9 = .ok (.aload_n 0, 1) := by decide +kernel
theorem dX5_knownIn_10 : decode cX5_knownIn 10 = .ok (.invokevirtual 43, 3) := by decide +kernel
theorem dX5_knownIn_13 : decode cX5_knownIn 13 = .ok (.iload_n 1, 1) := by decide +kernel
theorem dX5_knownIn_14 : decode cX5_knownIn 14 = .ok (.invokevirtual 110, 3) := by decide +kernel
theorem dX5_knownIn_17 : decode cX5_knownIn 17 = .ok (.ireturn, 1) := by decide +kernel
theorem dX5_undo_0 : decode cX5_undo 0 = .ok (.aload_n 0, 1) := by decide +kernel
theorem dX5_undo_1 : decode cX5_undo 1 = .ok (.getfield 23, 3) := by decide +kernel
theorem dX5_undo_4 : decode cX5_undo 4 = .ok (.ifCond .le 11, 3) := by decide +kernel
theorem dX5_undo_7 : decode cX5_undo 7 = .ok (.aload_n 0, 1) := by decide +kernel
theorem dX5_undo_8 : decode cX5_undo 8 = .ok (.getfield 23, 3) := by decide +kernel
theorem dX5_undo_11 : decode cX5_undo 11 = .ok (.iconst 4, 1) := by decide +kernel
theorem dX5_undo_12 : decode cX5_undo 12 = .ok (.if_icmp .le 6, 3) := by decide +kernel
theorem dX5_undo_15 : decode cX5_undo 15 = .ok (.bipush (-2), 2) := by decide +kernel
theorem dX5_undo_17 : decode cX5_undo 17 = .ok (.ireturn, 1) := by decide +kernel
theorem dX5_undo_18 : decode cX5_undo 18 = .ok (.aload_n 0, 1) := by decide +kernel
theorem dX5_undo_19 : decode cX5_undo 19 = .ok (.dup, 1) := by decide +kernel
theorem dX5_undo_20 : decode cX5_undo 20 = .ok (.getfield 23, 3) := by decide +kernel
theorem dX5_undo_23 : decode cX5_undo 23 = .ok (.iconst 1, 1) := by decide +kernel
theorem dX5_undo_24 : decode cX5_undo 24 = .ok (.isub, 1) := by decide +kernel
theorem dX5_undo_25 : decode cX5_undo 25 = .ok (.putfield 23, 3) := by decide +kernel
theorem dX5_undo_28 : decode cX5_undo 28 = .ok (.aload_n 0, 1) := by decide +kernel
theorem dX5_undo_29 : decode cX5_undo 29 = .ok (.getfield 10, 3) := by decide +kernel
theorem dX5_undo_32 : decode cX5_undo 32 = .ok (.astore_n 1, 1) := by decide +kernel
theorem dX5_undo_33 : decode cX5_undo 33 = .ok (.aload_n 0, 1) := by decide +kernel
theorem dX5_undo_34 : decode cX5_undo 34 = .ok (.aload_n 0, 1) := by decide +kernel
theorem dX5_undo_35 : decode cX5_undo 35 = .ok (.getfield 19, 3) := by decide +kernel
theorem dX5_undo_38 : decode cX5_undo 38 = .ok (.aload_n 0, 1) := by decide +kernel
theorem dX5_undo_39 : decode cX5_undo 39 = .ok (.getfield 23, 3) := by decide +kernel
theorem dX5_undo_42 : decode cX5_undo 42 = .ok (.aaload, 1) := by decide +kernel
theorem dX5_undo_43 : decode cX5_undo 43 = .ok (.putfield 10, 3) := by decide +kernel
theorem dX5_undo_46 : decode cX5_undo 46 = .ok (.aload_n 0, 1) := by decide +kernel
theorem dX5_undo_47 : decode cX5_undo 47 = .ok (.getfield 19, 3) := by decide +kernel
theorem dX5_undo_50 : decode cX5_undo 50 = .ok (.aload_n 0, 1) := by decide +kernel
theorem dX5_undo_51 : decode cX5_undo 51 = .ok (.getfield 23, 3) := by decide +kernel
theorem dX5_undo_54 : decode cX5_undo 54 = .ok (.aload_n 1, 1) := by decide +kernel
theorem dX5_undo_55 : decode cX5_undo 55 = .ok (.aastore, 1) := by decide +kernel
theorem dX5_undo_56 : decode cX5_undo 56 = .ok (.aload_n 0, 1) := by decide +kernel
theorem dX5_undo_57 : decode cX5_undo 57 = .ok (.getfield 23, 3) := by decide +kernel
theorem dX5_undo_60 : decode cX5_undo 60 = .ok (.ireturn, 1) := by decide +kernel
theorem dX5_type_0 : decode cX5_type 0 = .ok (.iload_n 1, 1) := by decide +kernel
theorem dX5_type_1 : decode cX5_type 1 = .ok (.bipush 32, 2) := by decide +kernel
theorem dX5_type_3 : decode cX5_type 3 = .ok (.bipush 126, 2) := by decide +kernel
theorem dX5_type_5 : decode cX5_type 5 = .ok (.invokestatic 113, 3) := by decide +kernel
theorem dX5_type_8 : decode cX5_type 8 = .ok (.ifCond .ne 5, 3) := by decide +kernel
theorem dX5_type_11 : decode cX5_type 11 = .ok (.iconst (-1), 1) := by decide +kernel
theorem dX5_type_12 : decode cX5_type 12 = .ok (.ireturn, 1) := by decide +kernel
theorem dX5_type_13 : decode cX5_type 13 = .ok (.aload_n 0, 1) := by decide +kernel
theorem dX5_type_14 : decode cX5_type 14 = .ok (.getfield 30, 3) := by decide +kernel
theorem dX5_type_17 : decode cX5_type 17 = .ok (.iload_n 1, 1) := by decide +kernel
theorem dX5_type_18 : decode cX5_type 18 = .ok (.i2c, 1) := by decide +kernel
theorem dX5_type_19 : decode cX5_type 19 = .ok (.invokevirtual 117, 3) := by decide +kernel
theorem dX5_type_22 : decode cX5_type 22 = .ok (.ireturn, 1) := by decide +kernel
theorem dX5_clearText_0 : decode cX5_clearText 0 = .ok (.aload_n 0, 1) := by decide +kernel
theorem dX5_clearText_1 : decode cX5_clearText 1 = .ok (.getfield 30, 3) := by decide +kernel
theorem dX5_clearText_4 : decode cX5_clearText 4 = .ok (.getfield 94, 3) := by decide +kernel
theorem dX5_clearText_7 : decode cX5_clearText 7 = .ok (.istore_n 1, 1) := by decide +kernel
theorem dX5_clearText_8 : decode cX5_clearText 8 = .ok (.aload_n 0, 1) := by decide +kernel
theorem dX5_clearText_9 : decode cX5_clearText 9 = .ok (.getfield 30, 3) := by decide +kernel
theorem dX5_clearText_12 : decode cX5_clearText 12 = .ok (.iconst 0, 1) := by decide +kernel
theorem dX5_clearText_13 : decode cX5_clearText 13 = .ok (.putfield 94, 3) := by decide +kernel
theorem dX5_clearText_16 : decode cX5_clearText 16 = .ok (.iload_n 1, 1) := by decide +kernel
theorem dX5_clearText_17 : decode cX5_clearText 17 = .ok (.ireturn, 1) := by decide +kernel
theorem dX5_fault_0 : decode cX5_fault 0 = .ok (.iload_n 1, 1) := by decide +kernel
theorem dX5_fault_1 : decode cX5_fault 1 = .ok (.iconst 0, 1) := by decide +kernel
theorem dX5_fault_2 : decode cX5_fault 2 = .ok (.iconst 2, 1) := by decide +kernel
theorem dX5_fault_3 : decode cX5_fault 3 = .ok (.invokestatic 113, 3) := by decide +kernel
theorem dX5_fault_6 : decode cX5_fault 6 = .ok (.ifCond .ne 5, 3) := by decide +kernel
theorem dX5_fault_9 : decode cX5_fault 9 = .ok (.iconst (-1), 1) := by decide +kernel
theorem dX5_fault_10 : decode cX5_fault 10 = .ok (.ireturn, 1) := by decide +kernel
theorem dX5_fault_11 : decode cX5_fault 11 = .ok (.aload_n 0, 1) := by decide +kernel
theorem dX5_fault_12 : decode cX5_fault 12 = .ok (.invokevirtual 121, 3) := by decide +kernel
theorem dX5_fault_15 : decode cX5_fault 15 = .ok (.pop, 1) := by decide +kernel
theorem dX5_fault_16 : decode cX5_fault 16 = .ok (.aload_n 0, 1) := by decide +kernel
theorem dX5_fault_17 : decode cX5_fault 17 = .ok (.getfield 37, 3) := by decide +kernel
theorem dX5_fault_20 : decode cX5_fault 20 = .ok (.ifCond .ne 6, 3) := by decide +kernel
theorem dX5_fault_23 : decode cX5_fault 23 = .ok (.bipush (-4), 2) := by decide +kernel
theorem dX5_fault_25 : decode cX5_fault 25 = .ok (.ireturn, 1) := by decide +kernel
theorem dX5_fault_26 : decode cX5_fault 26 = .ok (.iload_n 1, 1) := by decide +kernel
theorem dX5_fault_27 : decode cX5_fault 27 = .ok (.ifCond .ne 8, 3) := by decide +kernel
theorem dX5_fault_30 : decode cX5_fault 30 = .ok (.aload_n 0, 1) := by decide +kernel
