/-! Decode rows, by program -/
theorem d_la_law_0 : decode code 0 = .ok (.new 7, 3) := by decide +kernel
theorem d_la_law_3 : decode code 3 = .ok (.dup, 1) := by decide +kernel
theorem d_la_law_4 : decode code 4 = .ok (.invokespecial 9, 3) := by decide +kernel
theorem d_la_law_7 : decode code 7 = .ok (.astore_n 1, 1) := by decide +kernel
theorem d_la_law_8 : decode code 8 = .ok (.new 10, 3) := by decide +kernel
theorem d_la_law_11 : decode code 11 = .ok (.dup, 1) := by decide +kernel
theorem d_la_law_12 : decode code 12 = .ok (.invokespecial 12, 3) := by decide +kernel
theorem d_la_law_15 : decode code 15 = .ok (.astore_n 2, 1) := by decide +kernel
theorem d_la_law_16 : decode code 16 = .ok (.iconst 0, 1) := by decide +kernel
theorem d_la_law_17 : decode code 17 = .ok (.istore_n 3, 1) := by decide +kernel
theorem d_la_law_18 : decode code 18 = .ok (.iload_n 3, 1) := by decide +kernel
theorem d_la_law_19 : decode code 19 = .ok (.aload_n 0, 1) := by decide +kernel
theorem d_la_law_20 : decode code 20 = .ok (.arraylength, 1) := by decide +kernel
theorem d_la_law_21 : decode code 21 = .ok (.iconst 5, 1) := by decide +kernel
theorem d_la_law_22 : decode code 22 = .ok (.isub, 1) := by decide +kernel
theorem d_la_law_23 : decode code 23 = .ok (.if_icmp .gt 691, 3) := by decide +kernel
theorem d_la_law_26 : decode code 26 = .ok (.aload_n 0, 1) := by decide +kernel
theorem d_la_law_27 : decode code 27 = .ok (.iload_n 3, 1) := by decide +kernel
theorem d_la_law_28 : decode code 28 = .ok (.iaload, 1) := by decide +kernel
theorem d_la_law_29 : decode code 29 = .ok (.bipush 31, 2) := by decide +kernel
theorem d_la_law_31 : decode code 31 = .ok (.iand, 1) := by decide +kernel
theorem d_la_law_32 : decode code 32 = .ok (.tableswitch 676 0 19 #[96, 119, 132, 155, 208, 241, 274, 297, 320, 343, 366, 409, 442, 455, 468, 491, 524, 587, 620, 643], 96) := by decide +kernel
theorem d_la_law_128 : decode code 128 = .ok (.aload_n 1, 1) := by decide +kernel
theorem d_la_law_129 : decode code 129 = .ok (.aload_n 0, 1) := by decide +kernel
theorem d_la_law_130 : decode code 130 = .ok (.iload_n 3, 1) := by decide +kernel
theorem d_la_law_131 : decode code 131 = .ok (.iconst 1, 1) := by decide +kernel
theorem d_la_law_132 : decode code 132 = .ok (.iadd, 1) := by decide +kernel
theorem d_la_law_133 : decode code 133 = .ok (.iaload, 1) := by decide +kernel
theorem d_la_law_134 : decode code 134 = .ok (.invokevirtual 13, 3) := by decide +kernel
theorem d_la_law_137 : decode code 137 = .ok (.aload_n 2, 1) := by decide +kernel
theorem d_la_law_138 : decode code 138 = .ok (.aload_n 0, 1) := by decide +kernel
theorem d_la_law_139 : decode code 139 = .ok (.iload_n 3, 1) := by decide +kernel
theorem d_la_law_140 : decode code 140 = .ok (.iconst 1, 1) := by decide +kernel
theorem d_la_law_141 : decode code 141 = .ok (.iadd, 1) := by decide +kernel
theorem d_la_law_142 : decode code 142 = .ok (.iaload, 1) := by decide +kernel
theorem d_la_law_143 : decode code 143 = .ok (.invokevirtual 17, 3) := by decide +kernel
theorem d_la_law_146 : decode code 146 = .ok (.if_icmp .eq 562, 3) := by decide +kernel
theorem d_la_law_149 : decode code 149 = .ok (.iconst 0, 1) := by decide +kernel
theorem d_la_law_150 : decode code 150 = .ok (.ireturn, 1) := by decide +kernel
theorem d_la_law_151 : decode code 151 = .ok (.aload_n 1, 1) := by decide +kernel
theorem d_la_law_152 : decode code 152 = .ok (.invokevirtual 18, 3) := by decide +kernel
theorem d_la_law_155 : decode code 155 = .ok (.aload_n 2, 1) := by decide +kernel
theorem d_la_law_156 : decode code 156 = .ok (.invokevirtual 22, 3) := by decide +kernel
theorem d_la_law_159 : decode code 159 = .ok (.if_icmp .eq 549, 3) := by decide +kernel
theorem d_la_law_162 : decode code 162 = .ok (.iconst 0, 1) := by decide +kernel
theorem d_la_law_163 : decode code 163 = .ok (.ireturn, 1) := by decide +kernel
theorem d_la_law_164 : decode code 164 = .ok (.aload_n 1, 1) := by decide +kernel
theorem d_la_law_165 : decode code 165 = .ok (.aload_n 0, 1) := by decide +kernel
theorem d_la_law_166 : decode code 166 = .ok (.iload_n 3, 1) := by decide +kernel
theorem d_la_law_167 : decode code 167 = .ok (.iconst 1, 1) := by decide +kernel
theorem d_la_law_168 : decode code 168 = .ok (.iadd, 1) := by decide +kernel
theorem d_la_law_169 : decode code 169 = .ok (.iaload, 1) := by decide +kernel
theorem d_la_law_170 : decode code 170 = .ok (.invokevirtual 23, 3) := by decide +kernel
theorem d_la_law_173 : decode code 173 = .ok (.aload_n 2, 1) := by decide +kernel
theorem d_la_law_174 : decode code 174 = .ok (.aload_n 0, 1) := by decide +kernel
theorem d_la_law_175 : decode code 175 = .ok (.iload_n 3, 1) := by decide +kernel
theorem d_la_law_176 : decode code 176 = .ok (.iconst 1, 1) := by decide +kernel
theorem d_la_law_177 : decode code 177 = .ok (.iadd, 1) := by decide +kernel
theorem d_la_law_178 : decode code 178 = .ok (.iaload, 1) := by decide +kernel
theorem d_la_law_179 : decode code 179 = .ok (.invokevirtual 27, 3) := by decide +kernel
theorem d_la_law_182 : decode code 182 = .ok (.if_icmp .eq 526, 3) := by decide +kernel
theorem d_la_law_185 : decode code 185 = .ok (.iconst 0, 1) := by decide +kernel
theorem d_la_law_186 : decode code 186 = .ok (.ireturn, 1) := by decide +kernel
theorem d_la_law_187 : decode code 187 = .ok (.aload_n 1, 1) := by decide +kernel
theorem d_la_law_188 : decode code 188 = .ok (.aload_n 0, 1) := by decide +kernel
theorem d_la_law_189 : decode code 189 = .ok (.iload_n 3, 1) := by decide +kernel
theorem d_la_law_190 : decode code 190 = .ok (.iconst 1, 1) := by decide +kernel
theorem d_la_law_191 : decode code 191 = .ok (.iadd, 1) := by decide +kernel
theorem d_la_law_192 : decode code 192 = .ok (.iaload, 1) := by decide +kernel
theorem d_la_law_193 : decode code 193 = .ok (.aload_n 0, 1) := by decide +kernel
theorem d_la_law_194 : decode code 194 = .ok (.iload_n 3, 1) := by decide +kernel
theorem d_la_law_195 : decode code 195 = .ok (.iconst 2, 1) := by decide +kernel
theorem d_la_law_196 : decode code 196 = .ok (.iadd, 1) := by decide +kernel
theorem d_la_law_197 : decode code 197 = .ok (.iaload, 1) := by decide +kernel
theorem d_la_law_198 : decode code 198 = .ok (.aload_n 0, 1) := by decide +kernel
theorem d_la_law_199 : decode code 199 = .ok (.iload_n 3, 1) := by decide +kernel
theorem d_la_law_200 : decode code 200 = .ok (.iconst 3, 1) := by decide +kernel
theorem d_la_law_201 : decode code 201 = .ok (.iadd, 1) := by decide +kernel
theorem d_la_law_202 : decode code 202 = .ok (.iaload, 1) := by decide +kernel
theorem d_la_law_203 : decode code 203 = .ok (.aload_n 0, 1) := by decide +kernel
theorem d_la_law_204 : decode code 204 = .ok (.iload_n 3, 1) := by decide +kernel
theorem d_la_law_205 : decode code 205 = .ok (.iconst 4, 1) := by decide +kernel
theorem d_la_law_206 : decode code 206 = .ok (.iadd, 1) := by decide +kernel
theorem d_la_law_207 : decode code 207 = .ok (.iaload, 1) := by decide +kernel
theorem d_la_law_208 : decode code 208 = .ok (.invokevirtual 28, 3) := by decide +kernel
theorem d_la_law_211 : decode code 211 = .ok (.aload_n 2, 1) := by decide +kernel
theorem d_la_law_212 : decode code 212 = .ok (.aload_n 0, 1) := by decide +kernel
theorem d_la_law_213 : decode code 213 = .ok (.iload_n 3, 1) := by decide +kernel
theorem d_la_law_214 : decode code 214 = .ok (.iconst 1, 1) := by decide +kernel
theorem d_la_law_215 : decode code 215 = .ok (.iadd, 1) := by decide +kernel
theorem d_la_law_216 : decode code 216 = .ok (.iaload, 1) := by decide +kernel
theorem d_la_law_217 : decode code 217 = .ok (.aload_n 0, 1) := by decide +kernel
theorem d_la_law_218 : decode code 218 = .ok (.iload_n 3, 1) := by decide +kernel
theorem d_la_law_219 : decode code 219 = .ok (.iconst 2, 1) := by decide +kernel
theorem d_la_law_220 : decode code 220 = .ok (.iadd, 1) := by decide +kernel
theorem d_la_law_221 : decode code 221 = .ok (.iaload, 1) := by decide +kernel
theorem d_la_law_222 : decode code 222 = .ok (.aload_n 0, 1) := by decide +kernel
theorem d_la_law_223 : decode code 223 = .ok (.iload_n 3, 1) := by decide +kernel
theorem d_la_law_224 : decode code 224 = .ok (.iconst 3, 1) := by decide +kernel
theorem d_la_law_225 : decode code 225 = .ok (.iadd, 1) := by decide +kernel
theorem d_la_law_226 : decode code 226 = .ok (.iaload, 1) := by decide +kernel
theorem d_la_law_227 : decode code 227 = .ok (.aload_n 0, 1) := by decide +kernel
theorem d_la_law_228 : decode code 228 = .ok (.iload_n 3, 1) := by decide +kernel
theorem d_la_law_229 : decode code 229 = .ok (.iconst 4, 1) := by decide +kernel
theorem d_la_law_230 : decode code 230 = .ok (.iadd, 1) := by decide +kernel
theorem d_la_law_231 : decode code 231 = .ok (.iaload, 1) := by decide +kernel
theorem d_la_law_232 : decode code 232 = .ok (.invokevirtual 32, 3) := by decide +kernel
theorem d_la_law_235 : decode code 235 = .ok (.if_icmp .eq 473, 3) := by decide +kernel
theorem d_la_law_238 : decode code 238 = .ok (.iconst 0, 1) := by decide +kernel
theorem d_la_law_239 : decode code 239 = .ok (.ireturn, 1) := by decide +kernel
theorem d_la_law_240 : decode code 240 = .ok (.aload_n 1, 1) := by decide +kernel
theorem d_la_law_241 : decode code 241 = .ok (.aload_n 0, 1) := by decide +kernel
theorem d_la_law_242 : decode code 242 = .ok (.iload_n 3, 1) := by decide +kernel
theorem d_la_law_243 : decode code 243 = .ok (.iconst 1, 1) := by decide +kernel
theorem d_la_law_244 : decode code 244 = .ok (.iadd, 1) := by decide +kernel
theorem d_la_law_245 : decode code 245 = .ok (.iaload, 1) := by decide +kernel
theorem d_la_law_246 : decode code 246 = .ok (.aload_n 0, 1) := by decide +kernel
theorem d_la_law_247 : decode code 247 = .ok (.iload_n 3, 1) := by decide +kernel
theorem d_la_law_248 : decode code 248 = .ok (.iconst 2, 1) := by decide +kernel
theorem d_la_law_249 : decode code 249 = .ok (.iadd, 1) := by decide +kernel
theorem d_la_law_250 : decode code 250 = .ok (.iaload, 1) := by decide +kernel
theorem d_la_law_251 : decode code 251 = .ok (.invokevirtual 33, 3) := by decide +kernel
theorem d_la_law_254 : decode code 254 = .ok (.aload_n 2, 1) := by decide +kernel
theorem d_la_law_255 : decode code 255 = .ok (.aload_n 0, 1) := by decide +kernel
theorem d_la_law_256 : decode code 256 = .ok (.iload_n 3, 1) := by decide +kernel
theorem d_la_law_257 : decode code 257 = .ok (.iconst 1, 1) := by decide +kernel
theorem d_la_law_258 : decode code 258 = .ok (.iadd, 1) := by decide +kernel
theorem d_la_law_259 : decode code 259 = .ok (.iaload, 1) := by decide +kernel
theorem d_la_law_260 : decode code 260 = .ok (.aload_n 0, 1) := by decide +kernel
theorem d_la_law_261 : decode code 261 = .ok (.iload_n 3, 1) := by decide +kernel
theorem d_la_law_262 : decode code 262 = .ok (.iconst 2, 1) := by decide +kernel
theorem d_la_law_263 : decode code 263 = .ok (.iadd, 1) := by decide +kernel
theorem d_la_law_264 : decode code 264 = .ok (.iaload, 1) := by decide +kernel
theorem d_la_law_265 : decode code 265 = .ok (.invokevirtual 37, 3) := by decide +kernel
theorem d_la_law_268 : decode code 268 = .ok (.if_icmp .eq 440, 3) := by decide +kernel
theorem d_la_law_271 : decode code 271 = .ok (.iconst 0, 1) := by decide +kernel
theorem d_la_law_272 : decode code 272 = .ok (.ireturn, 1) := by decide +kernel
theorem d_la_law_273 : decode code 273 = .ok (.aload_n 1, 1) := by decide +kernel
theorem d_la_law_274 : decode code 274 = .ok (.aload_n 0, 1) := by decide +kernel
theorem d_la_law_275 : decode code 275 = .ok (.iload_n 3, 1) := by decide +kernel
theorem d_la_law_276 : decode code 276 = .ok (.iconst 1, 1) := by decide +kernel
theorem d_la_law_277 : decode code 277 = .ok (.iadd, 1) := by decide +kernel
theorem d_la_law_278 : decode code 278 = .ok (.iaload, 1) := by decide +kernel
theorem d_la_law_279 : decode code 279 = .ok (.aload_n 0, 1) := by decide +kernel
theorem d_la_law_280 : decode code 280 = .ok (.iload_n 3, 1) := by decide +kernel
theorem d_la_law_281 : decode code 281 = .ok (.iconst 2, 1) := by decide +kernel
theorem d_la_law_282 : decode code 282 = .ok (.iadd, 1) := by decide +kernel
theorem d_la_law_283 : decode code 283 = .ok (.iaload, 1) := by decide +kernel
theorem d_la_law_284 : decode code 284 = .ok (.invokevirtual 38, 3) := by decide +kernel
theorem d_la_law_287 : decode code 287 = .ok (.aload_n 2, 1) := by decide +kernel
theorem d_la_law_288 : decode code 288 = .ok (.aload_n 0, 1) := by decide +kernel
theorem d_la_law_289 : decode code 289 = .ok (.iload_n 3, 1) := by decide +kernel
theorem d_la_law_290 : decode code 290 = .ok (.iconst 1, 1) := by decide +kernel
theorem d_la_law_291 : decode code 291 = .ok (.iadd, 1) := by decide +kernel
theorem d_la_law_292 : decode code 292 = .ok (.iaload, 1) := by decide +kernel
theorem d_la_law_293 : decode code 293 = .ok (.aload_n 0, 1) := by decide +kernel
theorem d_la_law_294 : decode code 294 = .ok (.iload_n 3, 1) := by decide +kernel
theorem d_la_law_295 : decode code 295 = .ok (.iconst 2, 1) := by decide +kernel
theorem d_la_law_296 : decode code 296 = .ok (.iadd, 1) := by decide +kernel
theorem d_la_law_297 : decode code 297 = .ok (.iaload, 1) := by decide +kernel
theorem d_la_law_298 : decode code 298 = .ok (.invokevirtual 41, 3) := by decide +kernel
theorem d_la_law_301 : decode code 301 = .ok (.if_icmp .eq 407, 3) := by decide +kernel
theorem d_la_law_304 : decode code 304 = .ok (.iconst 0, 1) := by decide +kernel
theorem d_la_law_305 : decode code 305 = .ok (.ireturn, 1) := by decide +kernel
theorem d_la_law_306 : decode code 306 = .ok (.aload_n 1, 1) := by decide +kernel
theorem d_la_law_307 : decode code 307 = .ok (.aload_n 0, 1) := by decide +kernel
theorem d_la_law_308 : decode code 308 = .ok (.iload_n 3, 1) := by decide +kernel
theorem d_la_law_309 : decode code 309 = .ok (.iconst 1, 1) := by decide +kernel
theorem d_la_law_310 : decode code 310 = .ok (.iadd, 1) := by decide +kernel
theorem d_la_law_311 : decode code 311 = .ok (.iaload, 1) := by decide +kernel
theorem d_la_law_312 : decode code 312 = .ok (.invokevirtual 42, 3) := by decide +kernel
theorem d_la_law_315 : decode code 315 = .ok (.aload_n 2, 1) := by decide +kernel
theorem d_la_law_316 : decode code 316 = .ok (.aload_n 0, 1) := by decide +kernel
theorem d_la_law_317 : decode code 317 = .ok (.iload_n 3, 1) := by decide +kernel
theorem d_la_law_318 : decode code 318 = .ok (.iconst 1, 1) := by decide +kernel
theorem d_la_law_319 : decode code 319 = .ok (.iadd, 1) := by decide +kernel
theorem d_la_law_320 : decode code 320 = .ok (.iaload, 1) := by decide +kernel
theorem d_la_law_321 : decode code 321 = .ok (.invokevirtual 45, 3) := by decide +kernel
theorem d_la_law_324 : decode code 324 = .ok (.if_icmp .eq 384, 3) := by decide +kernel
theorem d_la_law_327 : decode code 327 = .ok (.iconst 0, 1) := by decide +kernel
theorem d_la_law_328 : decode code 328 = .ok (.ireturn, 1) := by decide +kernel
theorem d_la_law_329 : decode code 329 = .ok (.aload_n 1, 1) := by decide +kernel
theorem d_la_law_330 : decode code 330 = .ok (.aload_n 0, 1) := by decide +kernel
theorem d_la_law_331 : decode code 331 = .ok (.iload_n 3, 1) := by decide +kernel
theorem d_la_law_332 : decode code 332 = .ok (.iconst 1, 1) := by decide +kernel
theorem d_la_law_333 : decode code 333 = .ok (.iadd, 1) := by decide +kernel
theorem d_la_law_334 : decode code 334 = .ok (.iaload, 1) := by decide +kernel
theorem d_la_law_335 : decode code 335 = .ok (.invokevirtual 46, 3) := by decide +kernel
theorem d_la_law_338 : decode code 338 = .ok (.aload_n 2, 1) := by decide +kernel
theorem d_la_law_339 : decode code 339 = .ok (.aload_n 0, 1) := by decide +kernel
theorem d_la_law_340 : decode code 340 = .ok (.iload_n 3, 1) := by decide +kernel
theorem d_la_law_341 : decode code 341 = .ok (.iconst 1, 1) := by decide +kernel
theorem d_la_law_342 : decode code 342 = .ok (.iadd, 1) := by decide +kernel
theorem d_la_law_343 : decode code 343 = .ok (.iaload, 1) := by decide +kernel
theorem d_la_law_344 : decode code 344 = .ok (.invokevirtual 49, 3) := by decide +kernel
theorem d_la_law_347 : decode code 347 = .ok (.if_icmp .eq 361, 3) := by decide +kernel
theorem d_la_law_350 : decode code 350 = .ok (.iconst 0, 1) := by decide +kernel
theorem d_la_law_351 : decode code 351 = .ok (.ireturn, 1) := by decide +kernel
theorem d_la_law_352 : decode code 352 = .ok (.aload_n 1, 1) := by decide +kernel
theorem d_la_law_353 : decode code 353 = .ok (.aload_n 0, 1) := by decide +kernel
theorem d_la_law_354 : decode code 354 = .ok (.iload_n 3, 1) := by decide +kernel
theorem d_la_law_355 : decode code 355 = .ok (.iconst 1, 1) := by decide +kernel
theorem d_la_law_356 : decode code 356 = .ok (.iadd, 1) := by decide +kernel
theorem d_la_law_357 : decode code 357 = .ok (.iaload, 1) := by decide +kernel
theorem d_la_law_358 : decode code 358 = .ok (.invokevirtual 50, 3) := by decide +kernel
theorem d_la_law_361 : decode code 361 = .ok (.aload_n 2, 1) := by decide +kernel
theorem d_la_law_362 : decode code 362 = .ok (.aload_n 0, 1) := by decide +kernel
theorem d_la_law_363 : decode code 363 = .ok (.iload_n 3, 1) := by decide +kernel
theorem d_la_law_364 : decode code 364 = .ok (.iconst 1, 1) := by decide +kernel
theorem d_la_law_365 : decode code 365 = .ok (.iadd, 1) := by decide +kernel
theorem d_la_law_366 : decode code 366 = .ok (.iaload, 1) := by decide +kernel
theorem d_la_law_367 : decode code 367 = .ok (.invokevirtual 53, 3) := by decide +kernel
theorem d_la_law_370 : decode code 370 = .ok (.if_icmp .eq 338, 3) := by decide +kernel
theorem d_la_law_373 : decode code 373 = .ok (.iconst 0, 1) := by decide +kernel
theorem d_la_law_374 : decode code 374 = .ok (.ireturn, 1) := by decide +kernel
theorem d_la_law_375 : decode code 375 = .ok (.aload_n 1, 1) := by decide +kernel
theorem d_la_law_376 : decode code 376 = .ok (.aload_n 0, 1) := by decide +kernel
theorem d_la_law_377 : decode code 377 = .ok (.iload_n 3, 1) := by decide +kernel
theorem d_la_law_378 : decode code 378 = .ok (.iconst 1, 1) := by decide +kernel
theorem d_la_law_379 : decode code 379 = .ok (.iadd, 1) := by decide +kernel
theorem d_la_law_380 : decode code 380 = .ok (.iaload, 1) := by decide +kernel
theorem d_la_law_381 : decode code 381 = .ok (.invokevirtual 54, 3) := by decide +kernel
theorem d_la_law_384 : decode code 384 = .ok (.aload_n 2, 1) := by decide +kernel
theorem d_la_law_385 : decode code 385 = .ok (.aload_n 0, 1) := by decide +kernel
theorem d_la_law_386 : decode code 386 = .ok (.iload_n 3, 1) := by decide +kernel
theorem d_la_law_387 : decode code 387 = .ok (.iconst 1, 1) := by decide +kernel
theorem d_la_law_388 : decode code 388 = .ok (.iadd, 1) := by decide +kernel
theorem d_la_law_389 : decode code 389 = .ok (.iaload, 1) := by decide +kernel
theorem d_la_law_390 : decode code 390 = .ok (.invokevirtual 57, 3) := by decide +kernel
theorem d_la_law_393 : decode code 393 = .ok (.if_icmp .eq 315, 3) := by decide +kernel
theorem d_la_law_396 : decode code 396 = .ok (.iconst 0, 1) := by decide +kernel
theorem d_la_law_397 : decode code 397 = .ok (.ireturn, 1) := by decide +kernel
theorem d_la_law_398 : decode code 398 = .ok (.aload_n 1, 1) := by decide +kernel
theorem d_la_law_399 : decode code 399 = .ok (.aload_n 0, 1) := by decide +kernel
theorem d_la_law_400 : decode code 400 = .ok (.iload_n 3, 1) := by decide +kernel
theorem d_la_law_401 : decode code 401 = .ok (.iconst 1, 1) := by decide +kernel
theorem d_la_law_402 : decode code 402 = .ok (.iadd, 1) := by decide +kernel
theorem d_la_law_403 : decode code 403 = .ok (.iaload, 1) := by decide +kernel
theorem d_la_law_404 : decode code 404 = .ok (.aload_n 0, 1) := by decide +kernel
theorem d_la_law_405 : decode code 405 = .ok (.iload_n 3, 1) := by decide +kernel
theorem d_la_law_406 : decode code 406 = .ok (.iconst 2, 1) := by decide +kernel
theorem d_la_law_407 : decode code 407 = .ok (.iadd, 1) := by decide +kernel
theorem d_la_law_408 : decode code 408 = .ok (.iaload, 1) := by decide +kernel
theorem d_la_law_409 : decode code 409 = .ok (.aload_n 0, 1) := by decide +kernel
theorem d_la_law_410 : decode code 410 = .ok (.iload_n 3, 1) := by decide +kernel
theorem d_la_law_411 : decode code 411 = .ok (.iconst 3, 1) := by decide +kernel
theorem d_la_law_412 : decode code 412 = .ok (.iadd, 1) := by decide +kernel
theorem d_la_law_413 : decode code 413 = .ok (.iaload, 1) := by decide +kernel
theorem d_la_law_414 : decode code 414 = .ok (.invokevirtual 58, 3) := by decide +kernel
theorem d_la_law_417 : decode code 417 = .ok (.aload_n 2, 1) := by decide +kernel
theorem d_la_law_418 : decode code 418 = .ok (.aload_n 0, 1) := by decide +kernel
theorem d_la_law_419 : decode code 419 = .ok (.iload_n 3, 1) := by decide +kernel
theorem d_la_law_420 : decode code 420 = .ok (.iconst 1, 1) := by decide +kernel
theorem d_la_law_421 : decode code 421 = .ok (.iadd, 1) := by decide +kernel
theorem d_la_law_422 : decode code 422 = .ok (.iaload, 1) := by decide +kernel
theorem d_la_law_423 : decode code 423 = .ok (.aload_n 0, 1) := by decide +kernel
theorem d_la_law_424 : decode code 424 = .ok (.iload_n 3, 1) := by decide +kernel
theorem d_la_law_425 : decode code 425 = .ok (.iconst 2, 1) := by decide +kernel
theorem d_la_law_426 : decode code 426 = .ok (.iadd, 1) := by decide +kernel
theorem d_la_law_427 : decode code 427 = .ok (.iaload, 1) := by decide +kernel
theorem d_la_law_428 : decode code 428 = .ok (.aload_n 0, 1) := by decide +kernel
theorem d_la_law_429 : decode code 429 = .ok (.iload_n 3, 1) := by decide +kernel
theorem d_la_law_430 : decode code 430 = .ok (.iconst 3, 1) := by decide +kernel
theorem d_la_law_431 : decode code 431 = .ok (.iadd, 1) := by decide +kernel
theorem d_la_law_432 : decode code 432 = .ok (.iaload, 1) := by decide +kernel
theorem d_la_law_433 : decode code 433 = .ok (.invokevirtual 62, 3) := by decide +kernel
theorem d_la_law_436 : decode code 436 = .ok (.if_icmp .eq 272, 3) := by decide +kernel
theorem d_la_law_439 : decode code 439 = .ok (.iconst 0, 1) := by decide +kernel
theorem d_la_law_440 : decode code 440 = .ok (.ireturn, 1) := by decide +kernel
theorem d_la_law_441 : decode code 441 = .ok (.aload_n 1, 1) := by decide +kernel
theorem d_la_law_442 : decode code 442 = .ok (.aload_n 0, 1) := by decide +kernel
theorem d_la_law_443 : decode code 443 = .ok (.iload_n 3, 1) := by decide +kernel
theorem d_la_law_444 : decode code 444 = .ok (.iconst 1, 1) := by decide +kernel
theorem d_la_law_445 : decode code 445 = .ok (.iadd, 1) := by decide +kernel
theorem d_la_law_446 : decode code 446 = .ok (.iaload, 1) := by decide +kernel
theorem d_la_law_447 : decode code 447 = .ok (.aload_n 0, 1) := by decide +kernel
theorem d_la_law_448 : decode code 448 = .ok (.iload_n 3, 1) := by decide +kernel
theorem d_la_law_449 : decode code 449 = .ok (.iconst 2, 1) := by decide +kernel
theorem d_la_law_450 : decode code 450 = .ok (.iadd, 1) := by decide +kernel
theorem d_la_law_451 : decode code 451 = .ok (.iaload, 1) := by decide +kernel
theorem d_la_law_452 : decode code 452 = .ok (.invokevirtual 63, 3) := by decide +kernel
theorem d_la_law_455 : decode code 455 = .ok (.aload_n 2, 1) := by decide +kernel
theorem d_la_law_456 : decode code 456 = .ok (.aload_n 0, 1) := by decide +kernel
theorem d_la_law_457 : decode code 457 = .ok (.iload_n 3, 1) := by decide +kernel
theorem d_la_law_458 : decode code 458 = .ok (.iconst 1, 1) := by decide +kernel
theorem d_la_law_459 : decode code 459 = .ok (.iadd, 1) := by decide +kernel
theorem d_la_law_460 : decode code 460 = .ok (.iaload, 1) := by decide +kernel
theorem d_la_law_461 : decode code 461 = .ok (.aload_n 0, 1) := by decide +kernel
theorem d_la_law_462 : decode code 462 = .ok (.iload_n 3, 1) := by decide +kernel
theorem d_la_law_463 : decode code 463 = .ok (.iconst 2, 1) := by decide +kernel
theorem d_la_law_464 : decode code 464 = .ok (.iadd, 1) := by decide +kernel
theorem d_la_law_465 : decode code 465 = .ok (.iaload, 1) := by decide +kernel
theorem d_la_law_466 : decode code 466 = .ok (.invokevirtual 66, 3) := by decide +kernel
theorem d_la_law_469 : decode code 469 = .ok (.if_icmp .eq 239, 3) := by decide +kernel
theorem d_la_law_472 : decode code 472 = .ok (.iconst 0, 1) := by decide +kernel
theorem d_la_law_473 : decode code 473 = .ok (.ireturn, 1) := by decide +kernel
theorem d_la_law_474 : decode code 474 = .ok (.aload_n 1, 1) := by decide +kernel
theorem d_la_law_475 : decode code 475 = .ok (.invokevirtual 67, 3) := by decide +kernel
theorem d_la_law_478 : decode code 478 = .ok (.aload_n 2, 1) := by decide +kernel
theorem d_la_law_479 : decode code 479 = .ok (.invokevirtual 71, 3) := by decide +kernel
theorem d_la_law_482 : decode code 482 = .ok (.if_icmp .eq 226, 3) := by decide +kernel
theorem d_la_law_485 : decode code 485 = .ok (.iconst 0, 1) := by decide +kernel
theorem d_la_law_486 : decode code 486 = .ok (.ireturn, 1) := by decide +kernel
theorem d_la_law_487 : decode code 487 = .ok (.aload_n 1, 1) := by decide +kernel
theorem d_la_law_488 : decode code 488 = .ok (.invokevirtual 72, 3) := by decide +kernel
theorem d_la_law_491 : decode code 491 = .ok (.aload_n 2, 1) := by decide +kernel
theorem d_la_law_492 : decode code 492 = .ok (.invokevirtual 75, 3) := by decide +kernel
theorem d_la_law_495 : decode code 495 = .ok (.if_icmp .eq 213, 3) := by decide +kernel
theorem d_la_law_498 : decode code 498 = .ok (.iconst 0, 1) := by decide +kernel
theorem d_la_law_499 : decode code 499 = .ok (.ireturn, 1) := by decide +kernel
theorem d_la_law_500 : decode code 500 = .ok (.aload_n 1, 1) := by decide +kernel
theorem d_la_law_501 : decode code 501 = .ok (.aload_n 0, 1) := by decide +kernel
theorem d_la_law_502 : decode code 502 = .ok (.iload_n 3, 1) := by decide +kernel
theorem d_la_law_503 : decode code 503 = .ok (.iconst 1, 1) := by decide +kernel
theorem d_la_law_504 : decode code 504 = .ok (.iadd, 1) := by decide +kernel
theorem d_la_law_505 : decode code 505 = .ok (.iaload, 1) := by decide +kernel
theorem d_la_law_506 : decode code 506 = .ok (.invokevirtual 76, 3) := by decide +kernel
theorem d_la_law_509 : decode code 509 = .ok (.aload_n 2, 1) := by decide +kernel
theorem d_la_law_510 : decode code 510 = .ok (.aload_n 0, 1) := by decide +kernel
theorem d_la_law_511 : decode code 511 = .ok (.iload_n 3, 1) := by decide +kernel
theorem d_la_law_512 : decode code 512 = .ok (.iconst 1, 1) := by decide +kernel
theorem d_la_law_513 : decode code 513 = .ok (.iadd, 1) := by decide +kernel
theorem d_la_law_514 : decode code 514 = .ok (.iaload, 1) := by decide +kernel
theorem d_la_law_515 : decode code 515 = .ok (.invokevirtual 79, 3) := by decide +kernel
theorem d_la_law_518 : decode code 518 = .ok (.if_icmp .eq 190, 3) := by decide +kernel
theorem d_la_law_521 : decode code 521 = .ok (.iconst 0, 1) := by decide +kernel
theorem d_la_law_522 : decode code 522 = .ok (.ireturn, 1) := by decide +kernel
theorem d_la_law_523 : decode code 523 = .ok (.aload_n 1, 1) := by decide +kernel
theorem d_la_law_524 : decode code 524 = .ok (.aload_n 0, 1) := by decide +kernel
theorem d_la_law_525 : decode code 525 = .ok (.iload_n 3, 1) := by decide +kernel
theorem d_la_law_526 : decode code 526 = .ok (.iconst 1, 1) := by decide +kernel
theorem d_la_law_527 : decode code 527 = .ok (.iadd, 1) := by decide +kernel
theorem d_la_law_528 : decode code 528 = .ok (.iaload, 1) := by decide +kernel
theorem d_la_law_529 : decode code 529 = .ok (.aload_n 0, 1) := by decide +kernel
theorem d_la_law_530 : decode code 530 = .ok (.iload_n 3, 1) := by decide +kernel
theorem d_la_law_531 : decode code 531 = .ok (.iconst 2, 1) := by decide +kernel
theorem d_la_law_532 : decode code 532 = .ok (.iadd, 1) := by decide +kernel
theorem d_la_law_533 : decode code 533 = .ok (.iaload, 1) := by decide +kernel
theorem d_la_law_534 : decode code 534 = .ok (.invokevirtual 80, 3) := by decide +kernel
theorem d_la_law_537 : decode code 537 = .ok (.aload_n 2, 1) := by decide +kernel
theorem d_la_law_538 : decode code 538 = .ok (.aload_n 0, 1) := by decide +kernel
theorem d_la_law_539 : decode code 539 = .ok (.iload_n 3, 1) := by decide +kernel
theorem d_la_law_540 : decode code 540 = .ok (.iconst 1, 1) := by decide +kernel
theorem d_la_law_541 : decode code 541 = .ok (.iadd, 1) := by decide +kernel
theorem d_la_law_542 : decode code 542 = .ok (.iaload, 1) := by decide +kernel
theorem d_la_law_543 : decode code 543 = .ok (.aload_n 0, 1) := by decide +kernel
theorem d_la_law_544 : decode code 544 = .ok (.iload_n 3, 1) := by decide +kernel
theorem d_la_law_545 : decode code 545 = .ok (.iconst 2, 1) := by decide +kernel
theorem d_la_law_546 : decode code 546 = .ok (.iadd, 1) := by decide +kernel
theorem d_la_law_547 : decode code 547 = .ok (.iaload, 1) := by decide +kernel
theorem d_la_law_548 : decode code 548 = .ok (.invokevirtual 83, 3) := by decide +kernel
theorem d_la_law_551 : decode code 551 = .ok (.if_icmp .eq 157, 3) := by decide +kernel
theorem d_la_law_554 : decode code 554 = .ok (.iconst 0, 1) := by decide +kernel
theorem d_la_law_555 : decode code 555 = .ok (.ireturn, 1) := by decide +kernel
theorem d_la_law_556 : decode code 556 = .ok (.aload_n 1, 1) := by decide +kernel
theorem d_la_law_557 : decode code 557 = .ok (.aload_n 0, 1) := by decide +kernel
theorem d_la_law_558 : decode code 558 = .ok (.iload_n 3, 1) := by decide +kernel
theorem d_la_law_559 : decode code 559 = .ok (.iconst 1, 1) := by decide +kernel
theorem d_la_law_560 : decode code 560 = .ok (.iadd, 1) := by decide +kernel
theorem d_la_law_561 : decode code 561 = .ok (.iaload, 1) := by decide +kernel
theorem d_la_law_562 : decode code 562 = .ok (.aload_n 0, 1) := by decide +kernel
theorem d_la_law_563 : decode code 563 = .ok (.iload_n 3, 1) := by decide +kernel
theorem d_la_law_564 : decode code 564 = .ok (.iconst 2, 1) := by decide +kernel
theorem d_la_law_565 : decode code 565 = .ok (.iadd, 1) := by decide +kernel
theorem d_la_law_566 : decode code 566 = .ok (.iaload, 1) := by decide +kernel
theorem d_la_law_567 : decode code 567 = .ok (.i2l, 1) := by decide +kernel
theorem d_la_law_568 : decode code 568 = .ok (.bipush 32, 2) := by decide +kernel
theorem d_la_law_570 : decode code 570 = .ok (.lshl, 1) := by decide +kernel
theorem d_la_law_571 : decode code 571 = .ok (.aload_n 0, 1) := by decide +kernel
theorem d_la_law_572 : decode code 572 = .ok (.iload_n 3, 1) := by decide +kernel
theorem d_la_law_573 : decode code 573 = .ok (.iconst 3, 1) := by decide +kernel
theorem d_la_law_574 : decode code 574 = .ok (.iadd, 1) := by decide +kernel
theorem d_la_law_575 : decode code 575 = .ok (.iaload, 1) := by decide +kernel
theorem d_la_law_576 : decode code 576 = .ok (.i2l, 1) := by decide +kernel
theorem d_la_law_577 : decode code 577 = .ok (.ldc2_w 84, 3) := by decide +kernel
theorem d_la_law_580 : decode code 580 = .ok (.land, 1) := by decide +kernel
theorem d_la_law_581 : decode code 581 = .ok (.lor, 1) := by decide +kernel
theorem d_la_law_582 : decode code 582 = .ok (.invokevirtual 86, 3) := by decide +kernel
theorem d_la_law_585 : decode code 585 = .ok (.aload_n 2, 1) := by decide +kernel
theorem d_la_law_586 : decode code 586 = .ok (.aload_n 0, 1) := by decide +kernel
theorem d_la_law_587 : decode code 587 = .ok (.iload_n 3, 1) := by decide +kernel
theorem d_la_law_588 : decode code 588 = .ok (.iconst 1, 1) := by decide +kernel
theorem d_la_law_589 : decode code 589 = .ok (.iadd, 1) := by decide +kernel
theorem d_la_law_590 : decode code 590 = .ok (.iaload, 1) := by decide +kernel
theorem d_la_law_591 : decode code 591 = .ok (.aload_n 0, 1) := by decide +kernel
theorem d_la_law_592 : decode code 592 = .ok (.iload_n 3, 1) := by decide +kernel
theorem d_la_law_593 : decode code 593 = .ok (.iconst 2, 1) := by decide +kernel
theorem d_la_law_594 : decode code 594 = .ok (.iadd, 1) := by decide +kernel
theorem d_la_law_595 : decode code 595 = .ok (.iaload, 1) := by decide +kernel
theorem d_la_law_596 : decode code 596 = .ok (.i2l, 1) := by decide +kernel
theorem d_la_law_597 : decode code 597 = .ok (.bipush 32, 2) := by decide +kernel
theorem d_la_law_599 : decode code 599 = .ok (.lshl, 1) := by decide +kernel
theorem d_la_law_600 : decode code 600 = .ok (.aload_n 0, 1) := by decide +kernel
theorem d_la_law_601 : decode code 601 = .ok (.iload_n 3, 1) := by decide +kernel
theorem d_la_law_602 : decode code 602 = .ok (.iconst 3, 1) := by decide +kernel
theorem d_la_law_603 : decode code 603 = .ok (.iadd, 1) := by decide +kernel
theorem d_la_law_604 : decode code 604 = .ok (.iaload, 1) := by decide +kernel
theorem d_la_law_605 : decode code 605 = .ok (.i2l, 1) := by decide +kernel
theorem d_la_law_606 : decode code 606 = .ok (.ldc2_w 84, 3) := by decide +kernel
theorem d_la_law_609 : decode code 609 = .ok (.land, 1) := by decide +kernel
theorem d_la_law_610 : decode code 610 = .ok (.lor, 1) := by decide +kernel
theorem d_la_law_611 : decode code 611 = .ok (.invokevirtual 90, 3) := by decide +kernel
theorem d_la_law_614 : decode code 614 = .ok (.if_icmp .eq 94, 3) := by decide +kernel
theorem d_la_law_617 : decode code 617 = .ok (.iconst 0, 1) := by decide +kernel
theorem d_la_law_618 : decode code 618 = .ok (.ireturn, 1) := by decide +kernel
theorem d_la_law_619 : decode code 619 = .ok (.aload_n 1, 1) := by decide +kernel
theorem d_la_law_620 : decode code 620 = .ok (.aload_n 0, 1) := by decide +kernel
theorem d_la_law_621 : decode code 621 = .ok (.iload_n 3, 1) := by decide +kernel
theorem d_la_law_622 : decode code 622 = .ok (.iconst 1, 1) := by decide +kernel
theorem d_la_law_623 : decode code 623 = .ok (.iadd, 1) := by decide +kernel
theorem d_la_law_624 : decode code 624 = .ok (.iaload, 1) := by decide +kernel
theorem d_la_law_625 : decode code 625 = .ok (.aload_n 0, 1) := by decide +kernel
theorem d_la_law_626 : decode code 626 = .ok (.iload_n 3, 1) := by decide +kernel
theorem d_la_law_627 : decode code 627 = .ok (.iconst 2, 1) := by decide +kernel
theorem d_la_law_628 : decode code 628 = .ok (.iadd, 1) := by decide +kernel
theorem d_la_law_629 : decode code 629 = .ok (.iaload, 1) := by decide +kernel
theorem d_la_law_630 : decode code 630 = .ok (.invokevirtual 91, 3) := by decide +kernel
theorem d_la_law_633 : decode code 633 = .ok (.aload_n 2, 1) := by decide +kernel
theorem d_la_law_634 : decode code 634 = .ok (.aload_n 0, 1) := by decide +kernel
theorem d_la_law_635 : decode code 635 = .ok (.iload_n 3, 1) := by decide +kernel
theorem d_la_law_636 : decode code 636 = .ok (.iconst 1, 1) := by decide +kernel
theorem d_la_law_637 : decode code 637 = .ok (.iadd, 1) := by decide +kernel
theorem d_la_law_638 : decode code 638 = .ok (.iaload, 1) := by decide +kernel
theorem d_la_law_639 : decode code 639 = .ok (.aload_n 0, 1) := by decide +kernel
theorem d_la_law_640 : decode code 640 = .ok (.iload_n 3, 1) := by decide +kernel
theorem d_la_law_641 : decode code 641 = .ok (.iconst 2, 1) := by decide +kernel
theorem d_la_law_642 : decode code 642 = .ok (.iadd, 1) := by decide +kernel
theorem d_la_law_643 : decode code 643 = .ok (.iaload, 1) := by decide +kernel
theorem d_la_law_644 : decode code 644 = .ok (.invokevirtual 94, 3) := by decide +kernel
theorem d_la_law_647 : decode code 647 = .ok (.if_icmp .eq 61, 3) := by decide +kernel
theorem d_la_law_650 : decode code 650 = .ok (.iconst 0, 1) := by decide +kernel
theorem d_la_law_651 : decode code 651 = .ok (.ireturn, 1) := by decide +kernel
theorem d_la_law_652 : decode code 652 = .ok (.aload_n 1, 1) := by decide +kernel
theorem d_la_law_653 : decode code 653 = .ok (.aload_n 0, 1) := by decide +kernel
theorem d_la_law_654 : decode code 654 = .ok (.iload_n 3, 1) := by decide +kernel
theorem d_la_law_655 : decode code 655 = .ok (.iconst 1, 1) := by decide +kernel
theorem d_la_law_656 : decode code 656 = .ok (.iadd, 1) := by decide +kernel
theorem d_la_law_657 : decode code 657 = .ok (.iaload, 1) := by decide +kernel
theorem d_la_law_658 : decode code 658 = .ok (.invokevirtual 95, 3) := by decide +kernel
theorem d_la_law_661 : decode code 661 = .ok (.aload_n 2, 1) := by decide +kernel
theorem d_la_law_662 : decode code 662 = .ok (.aload_n 0, 1) := by decide +kernel
theorem d_la_law_663 : decode code 663 = .ok (.iload_n 3, 1) := by decide +kernel
theorem d_la_law_664 : decode code 664 = .ok (.iconst 1, 1) := by decide +kernel
theorem d_la_law_665 : decode code 665 = .ok (.iadd, 1) := by decide +kernel
theorem d_la_law_666 : decode code 666 = .ok (.iaload, 1) := by decide +kernel
theorem d_la_law_667 : decode code 667 = .ok (.invokevirtual 98, 3) := by decide +kernel
theorem d_la_law_670 : decode code 670 = .ok (.if_icmp .eq 38, 3) := by decide +kernel
theorem d_la_law_673 : decode code 673 = .ok (.iconst 0, 1) := by decide +kernel
theorem d_la_law_674 : decode code 674 = .ok (.ireturn, 1) := by decide +kernel
theorem d_la_law_675 : decode code 675 = .ok (.aload_n 1, 1) := by decide +kernel
theorem d_la_law_676 : decode code 676 = .ok (.aload_n 0, 1) := by decide +kernel
theorem d_la_law_677 : decode code 677 = .ok (.iload_n 3, 1) := by decide +kernel
theorem d_la_law_678 : decode code 678 = .ok (.iconst 1, 1) := by decide +kernel
theorem d_la_law_679 : decode code 679 = .ok (.iadd, 1) := by decide +kernel
theorem d_la_law_680 : decode code 680 = .ok (.iaload, 1) := by decide +kernel
theorem d_la_law_681 : decode code 681 = .ok (.aload_n 0, 1) := by decide +kernel
theorem d_la_law_682 : decode code 682 = .ok (.iload_n 3, 1) := by decide +kernel
theorem d_la_law_683 : decode code 683 = .ok (.iconst 2, 1) := by decide +kernel
theorem d_la_law_684 : decode code 684 = .ok (.iadd, 1) := by decide +kernel
theorem d_la_law_685 : decode code 685 = .ok (.iaload, 1) := by decide +kernel
theorem d_la_law_686 : decode code 686 = .ok (.invokevirtual 99, 3) := by decide +kernel
theorem d_la_law_689 : decode code 689 = .ok (.aload_n 2, 1) := by decide +kernel
theorem d_la_law_690 : decode code 690 = .ok (.aload_n 0, 1) := by decide +kernel
theorem d_la_law_691 : decode code 691 = .ok (.iload_n 3, 1) := by decide +kernel
theorem d_la_law_692 : decode code 692 = .ok (.iconst 1, 1) := by decide +kernel
theorem d_la_law_693 : decode code 693 = .ok (.iadd, 1) := by decide +kernel
theorem d_la_law_694 : decode code 694 = .ok (.iaload, 1) := by decide +kernel
theorem d_la_law_695 : decode code 695 = .ok (.aload_n 0, 1) := by decide +kernel
theorem d_la_law_696 : decode code 696 = .ok (.iload_n 3, 1) := by decide +kernel
theorem d_la_law_697 : decode code 697 = .ok (.iconst 2, 1) := by decide +kernel
theorem d_la_law_698 : decode code 698 = .ok (.iadd, 1) := by decide +kernel
theorem d_la_law_699 : decode code 699 = .ok (.iaload, 1) := by decide +kernel
theorem d_la_law_700 : decode code 700 = .ok (.invokevirtual 102, 3) := by decide +kernel
theorem d_la_law_703 : decode code 703 = .ok (.if_icmp .eq 5, 3) := by decide +kernel
theorem d_la_law_706 : decode code 706 = .ok (.iconst 0, 1) := by decide +kernel
theorem d_la_law_707 : decode code 707 = .ok (.ireturn, 1) := by decide +kernel
theorem d_la_law_708 : decode code 708 = .ok (.iinc 3 5, 3) := by decide +kernel
theorem d_la_law_711 : decode code 711 = .ok (.goto (-693), 3) := by decide +kernel
theorem d_la_law_714 : decode code 714 = .ok (.iconst 1, 1) := by decide +kernel
theorem d_la_law_715 : decode code 715 = .ok (.ireturn, 1) := by decide +kernel
