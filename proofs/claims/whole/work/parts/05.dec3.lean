theorem d_Law_law_0 : decode code 0 = .ok (.new 7, 3) := by decide +kernel
theorem d_Law_law_3 : decode code 3 = .ok (.dup, 1) := by decide +kernel
theorem d_Law_law_4 : decode code 4 = .ok (.invokespecial 9, 3) := by decide +kernel
theorem d_Law_law_7 : decode code 7 = .ok (.astore_n 1, 1) := by decide +kernel
theorem d_Law_law_8 : decode code 8 = .ok (.new 10, 3) := by decide +kernel
theorem d_Law_law_11 : decode code 11 = .ok (.dup, 1) := by decide +kernel
theorem d_Law_law_12 : decode code 12 = .ok (.invokespecial 12, 3) := by decide +kernel
theorem d_Law_law_15 : decode code 15 = .ok (.astore_n 2, 1) := by decide +kernel
theorem d_Law_law_16 : decode code 16 = .ok (.iconst 0, 1) := by decide +kernel
theorem d_Law_law_17 : decode code 17 = .ok (.istore_n 3, 1) := by decide +kernel
theorem d_Law_law_18 : decode code 18 = .ok (.iload_n 3, 1) := by decide +kernel
theorem d_Law_law_19 : decode code 19 = .ok (.aload_n 0, 1) := by decide +kernel
theorem d_Law_law_20 : decode code 20 = .ok (.arraylength, 1) := by decide +kernel
theorem d_Law_law_21 : decode code 21 = .ok (.bipush 11, 2) := by decide +kernel
theorem d_Law_law_23 : decode code 23 = .ok (.isub, 1) := by decide +kernel
theorem d_Law_law_24 : decode code 24 = .ok (.if_icmp .gt 1366, 3) := by decide +kernel
theorem d_Law_law_27 : decode code 27 = .ok (.aload_n 0, 1) := by decide +kernel
theorem d_Law_law_28 : decode code 28 = .ok (.iload_n 3, 1) := by decide +kernel
theorem d_Law_law_29 : decode code 29 = .ok (.iaload, 1) := by decide +kernel
theorem d_Law_law_30 : decode code 30 = .ok (.bipush 31, 2) := by decide +kernel
theorem d_Law_law_32 : decode code 32 = .ok (.iand, 1) := by decide +kernel
theorem d_Law_law_33 : decode code 33 = .ok (.tableswitch 1351 0 19 #[95, 108, 311, 374, 397, 420, 453, 624, 668, 796, 839, 882, 935, 968, 991, 1014, 1077, 1111, 1214, 1288], 95) := by decide +kernel
theorem d_Law_law_128 : decode code 128 = .ok (.aload_n 1, 1) := by decide +kernel
theorem d_Law_law_129 : decode code 129 = .ok (.invokevirtual 13, 3) := by decide +kernel
theorem d_Law_law_132 : decode code 132 = .ok (.aload_n 2, 1) := by decide +kernel
theorem d_Law_law_133 : decode code 133 = .ok (.invokevirtual 17, 3) := by decide +kernel
theorem d_Law_law_136 : decode code 136 = .ok (.if_icmp .eq 1248, 3) := by decide +kernel
theorem d_Law_law_139 : decode code 139 = .ok (.iconst 0, 1) := by decide +kernel
theorem d_Law_law_140 : decode code 140 = .ok (.ireturn, 1) := by decide +kernel
theorem d_Law_law_141 : decode code 141 = .ok (.aload_n 1, 1) := by decide +kernel
theorem d_Law_law_142 : decode code 142 = .ok (.aload_n 0, 1) := by decide +kernel
theorem d_Law_law_143 : decode code 143 = .ok (.iload_n 3, 1) := by decide +kernel
theorem d_Law_law_144 : decode code 144 = .ok (.iconst 1, 1) := by decide +kernel
theorem d_Law_law_145 : decode code 145 = .ok (.iadd, 1) := by decide +kernel
theorem d_Law_law_146 : decode code 146 = .ok (.iaload, 1) := by decide +kernel
theorem d_Law_law_147 : decode code 147 = .ok (.aload_n 0, 1) := by decide +kernel
theorem d_Law_law_148 : decode code 148 = .ok (.iload_n 3, 1) := by decide +kernel
theorem d_Law_law_149 : decode code 149 = .ok (.iconst 2, 1) := by decide +kernel
theorem d_Law_law_150 : decode code 150 = .ok (.iadd, 1) := by decide +kernel
theorem d_Law_law_151 : decode code 151 = .ok (.iaload, 1) := by decide +kernel
theorem d_Law_law_152 : decode code 152 = .ok (.i2l, 1) := by decide +kernel
theorem d_Law_law_153 : decode code 153 = .ok (.bipush 32, 2) := by decide +kernel
theorem d_Law_law_155 : decode code 155 = .ok (.lshl, 1) := by decide +kernel
theorem d_Law_law_156 : decode code 156 = .ok (.aload_n 0, 1) := by decide +kernel
theorem d_Law_law_157 : decode code 157 = .ok (.iload_n 3, 1) := by decide +kernel
theorem d_Law_law_158 : decode code 158 = .ok (.iconst 3, 1) := by decide +kernel
theorem d_Law_law_159 : decode code 159 = .ok (.iadd, 1) := by decide +kernel
theorem d_Law_law_160 : decode code 160 = .ok (.iaload, 1) := by decide +kernel
theorem d_Law_law_161 : decode code 161 = .ok (.i2l, 1) := by decide +kernel
theorem d_Law_law_162 : decode code 162 = .ok (.ldc2_w 18, 3) := by decide +kernel
theorem d_Law_law_165 : decode code 165 = .ok (.land, 1) := by decide +kernel
theorem d_Law_law_166 : decode code 166 = .ok (.lor, 1) := by decide +kernel
theorem d_Law_law_167 : decode code 167 = .ok (.aload_n 0, 1) := by decide +kernel
theorem d_Law_law_168 : decode code 168 = .ok (.iload_n 3, 1) := by decide +kernel
theorem d_Law_law_169 : decode code 169 = .ok (.iconst 4, 1) := by decide +kernel
theorem d_Law_law_170 : decode code 170 = .ok (.iadd, 1) := by decide +kernel
theorem d_Law_law_171 : decode code 171 = .ok (.iaload, 1) := by decide +kernel
theorem d_Law_law_172 : decode code 172 = .ok (.aload_n 0, 1) := by decide +kernel
theorem d_Law_law_173 : decode code 173 = .ok (.iload_n 3, 1) := by decide +kernel
theorem d_Law_law_174 : decode code 174 = .ok (.iconst 5, 1) := by decide +kernel
theorem d_Law_law_175 : decode code 175 = .ok (.iadd, 1) := by decide +kernel
theorem d_Law_law_176 : decode code 176 = .ok (.iaload, 1) := by decide +kernel
theorem d_Law_law_177 : decode code 177 = .ok (.i2l, 1) := by decide +kernel
theorem d_Law_law_178 : decode code 178 = .ok (.bipush 32, 2) := by decide +kernel
theorem d_Law_law_180 : decode code 180 = .ok (.lshl, 1) := by decide +kernel
theorem d_Law_law_181 : decode code 181 = .ok (.aload_n 0, 1) := by decide +kernel
theorem d_Law_law_182 : decode code 182 = .ok (.iload_n 3, 1) := by decide +kernel
theorem d_Law_law_183 : decode code 183 = .ok (.bipush 6, 2) := by decide +kernel
theorem d_Law_law_185 : decode code 185 = .ok (.iadd, 1) := by decide +kernel
theorem d_Law_law_186 : decode code 186 = .ok (.iaload, 1) := by decide +kernel
theorem d_Law_law_187 : decode code 187 = .ok (.i2l, 1) := by decide +kernel
theorem d_Law_law_188 : decode code 188 = .ok (.ldc2_w 18, 3) := by decide +kernel
theorem d_Law_law_191 : decode code 191 = .ok (.land, 1) := by decide +kernel
theorem d_Law_law_192 : decode code 192 = .ok (.lor, 1) := by decide +kernel
theorem d_Law_law_193 : decode code 193 = .ok (.aload_n 0, 1) := by decide +kernel
theorem d_Law_law_194 : decode code 194 = .ok (.iload_n 3, 1) := by decide +kernel
theorem d_Law_law_195 : decode code 195 = .ok (.bipush 7, 2) := by decide +kernel
theorem d_Law_law_197 : decode code 197 = .ok (.iadd, 1) := by decide +kernel
theorem d_Law_law_198 : decode code 198 = .ok (.iaload, 1) := by decide +kernel
theorem d_Law_law_199 : decode code 199 = .ok (.i2l, 1) := by decide +kernel
theorem d_Law_law_200 : decode code 200 = .ok (.bipush 32, 2) := by decide +kernel
theorem d_Law_law_202 : decode code 202 = .ok (.lshl, 1) := by decide +kernel
theorem d_Law_law_203 : decode code 203 = .ok (.aload_n 0, 1) := by decide +kernel
theorem d_Law_law_204 : decode code 204 = .ok (.iload_n 3, 1) := by decide +kernel
theorem d_Law_law_205 : decode code 205 = .ok (.bipush 8, 2) := by decide +kernel
theorem d_Law_law_207 : decode code 207 = .ok (.iadd, 1) := by decide +kernel
theorem d_Law_law_208 : decode code 208 = .ok (.iaload, 1) := by decide +kernel
theorem d_Law_law_209 : decode code 209 = .ok (.i2l, 1) := by decide +kernel
theorem d_Law_law_210 : decode code 210 = .ok (.ldc2_w 18, 3) := by decide +kernel
theorem d_Law_law_213 : decode code 213 = .ok (.land, 1) := by decide +kernel
theorem d_Law_law_214 : decode code 214 = .ok (.lor, 1) := by decide +kernel
theorem d_Law_law_215 : decode code 215 = .ok (.aload_n 0, 1) := by decide +kernel
theorem d_Law_law_216 : decode code 216 = .ok (.iload_n 3, 1) := by decide +kernel
theorem d_Law_law_217 : decode code 217 = .ok (.bipush 9, 2) := by decide +kernel
theorem d_Law_law_219 : decode code 219 = .ok (.iadd, 1) := by decide +kernel
theorem d_Law_law_220 : decode code 220 = .ok (.iaload, 1) := by decide +kernel
theorem d_Law_law_221 : decode code 221 = .ok (.i2l, 1) := by decide +kernel
theorem d_Law_law_222 : decode code 222 = .ok (.bipush 32, 2) := by decide +kernel
theorem d_Law_law_224 : decode code 224 = .ok (.lshl, 1) := by decide +kernel
theorem d_Law_law_225 : decode code 225 = .ok (.aload_n 0, 1) := by decide +kernel
theorem d_Law_law_226 : decode code 226 = .ok (.iload_n 3, 1) := by decide +kernel
theorem d_Law_law_227 : decode code 227 = .ok (.bipush 10, 2) := by decide +kernel
theorem d_Law_law_229 : decode code 229 = .ok (.iadd, 1) := by decide +kernel
theorem d_Law_law_230 : decode code 230 = .ok (.iaload, 1) := by decide +kernel
theorem d_Law_law_231 : decode code 231 = .ok (.i2l, 1) := by decide +kernel
theorem d_Law_law_232 : decode code 232 = .ok (.ldc2_w 18, 3) := by decide +kernel
theorem d_Law_law_235 : decode code 235 = .ok (.land, 1) := by decide +kernel
theorem d_Law_law_236 : decode code 236 = .ok (.lor, 1) := by decide +kernel
theorem d_Law_law_237 : decode code 237 = .ok (.invokevirtual 20, 3) := by decide +kernel
theorem d_Law_law_240 : decode code 240 = .ok (.aload_n 2, 1) := by decide +kernel
theorem d_Law_law_241 : decode code 241 = .ok (.aload_n 0, 1) := by decide +kernel
theorem d_Law_law_242 : decode code 242 = .ok (.iload_n 3, 1) := by decide +kernel
theorem d_Law_law_243 : decode code 243 = .ok (.iconst 1, 1) := by decide +kernel
theorem d_Law_law_244 : decode code 244 = .ok (.iadd, 1) := by decide +kernel
theorem d_Law_law_245 : decode code 245 = .ok (.iaload, 1) := by decide +kernel
theorem d_Law_law_246 : decode code 246 = .ok (.aload_n 0, 1) := by decide +kernel
theorem d_Law_law_247 : decode code 247 = .ok (.iload_n 3, 1) := by decide +kernel
theorem d_Law_law_248 : decode code 248 = .ok (.iconst 2, 1) := by decide +kernel
theorem d_Law_law_249 : decode code 249 = .ok (.iadd, 1) := by decide +kernel
theorem d_Law_law_250 : decode code 250 = .ok (.iaload, 1) := by decide +kernel
theorem d_Law_law_251 : decode code 251 = .ok (.i2l, 1) := by decide +kernel
theorem d_Law_law_252 : decode code 252 = .ok (.bipush 32, 2) := by decide +kernel
theorem d_Law_law_254 : decode code 254 = .ok (.lshl, 1) := by decide +kernel
theorem d_Law_law_255 : decode code 255 = .ok (.aload_n 0, 1) := by decide +kernel
theorem d_Law_law_256 : decode code 256 = .ok (.iload_n 3, 1) := by decide +kernel
theorem d_Law_law_257 : decode code 257 = .ok (.iconst 3, 1) := by decide +kernel
theorem d_Law_law_258 : decode code 258 = .ok (.iadd, 1) := by decide +kernel
theorem d_Law_law_259 : decode code 259 = .ok (.iaload, 1) := by decide +kernel
theorem d_Law_law_260 : decode code 260 = .ok (.i2l, 1) := by decide +kernel
theorem d_Law_law_261 : decode code 261 = .ok (.ldc2_w 18, 3) := by decide +kernel
theorem d_Law_law_264 : decode code 264 = .ok (.land, 1) := by decide +kernel
theorem d_Law_law_265 : decode code 265 = .ok (.lor, 1) := by decide +kernel
theorem d_Law_law_266 : decode code 266 = .ok (.aload_n 0, 1) := by decide +kernel
theorem d_Law_law_267 : decode code 267 = .ok (.iload_n 3, 1) := by decide +kernel
theorem d_Law_law_268 : decode code 268 = .ok (.iconst 4, 1) := by decide +kernel
theorem d_Law_law_269 : decode code 269 = .ok (.iadd, 1) := by decide +kernel
theorem d_Law_law_270 : decode code 270 = .ok (.iaload, 1) := by decide +kernel
theorem d_Law_law_271 : decode code 271 = .ok (.aload_n 0, 1) := by decide +kernel
theorem d_Law_law_272 : decode code 272 = .ok (.iload_n 3, 1) := by decide +kernel
theorem d_Law_law_273 : decode code 273 = .ok (.iconst 5, 1) := by decide +kernel
theorem d_Law_law_274 : decode code 274 = .ok (.iadd, 1) := by decide +kernel
theorem d_Law_law_275 : decode code 275 = .ok (.iaload, 1) := by decide +kernel
theorem d_Law_law_276 : decode code 276 = .ok (.i2l, 1) := by decide +kernel
theorem d_Law_law_277 : decode code 277 = .ok (.bipush 32, 2) := by decide +kernel
theorem d_Law_law_279 : decode code 279 = .ok (.lshl, 1) := by decide +kernel
theorem d_Law_law_280 : decode code 280 = .ok (.aload_n 0, 1) := by decide +kernel
theorem d_Law_law_281 : decode code 281 = .ok (.iload_n 3, 1) := by decide +kernel
theorem d_Law_law_282 : decode code 282 = .ok (.bipush 6, 2) := by decide +kernel
theorem d_Law_law_284 : decode code 284 = .ok (.iadd, 1) := by decide +kernel
theorem d_Law_law_285 : decode code 285 = .ok (.iaload, 1) := by decide +kernel
theorem d_Law_law_286 : decode code 286 = .ok (.i2l, 1) := by decide +kernel
theorem d_Law_law_287 : decode code 287 = .ok (.ldc2_w 18, 3) := by decide +kernel
theorem d_Law_law_290 : decode code 290 = .ok (.land, 1) := by decide +kernel
theorem d_Law_law_291 : decode code 291 = .ok (.lor, 1) := by decide +kernel
theorem d_Law_law_292 : decode code 292 = .ok (.aload_n 0, 1) := by decide +kernel
theorem d_Law_law_293 : decode code 293 = .ok (.iload_n 3, 1) := by decide +kernel
theorem d_Law_law_294 : decode code 294 = .ok (.bipush 7, 2) := by decide +kernel
theorem d_Law_law_296 : decode code 296 = .ok (.iadd, 1) := by decide +kernel
theorem d_Law_law_297 : decode code 297 = .ok (.iaload, 1) := by decide +kernel
theorem d_Law_law_298 : decode code 298 = .ok (.i2l, 1) := by decide +kernel
theorem d_Law_law_299 : decode code 299 = .ok (.bipush 32, 2) := by decide +kernel
theorem d_Law_law_301 : decode code 301 = .ok (.lshl, 1) := by decide +kernel
theorem d_Law_law_302 : decode code 302 = .ok (.aload_n 0, 1) := by decide +kernel
theorem d_Law_law_303 : decode code 303 = .ok (.iload_n 3, 1) := by decide +kernel
theorem d_Law_law_304 : decode code 304 = .ok (.bipush 8, 2) := by decide +kernel
theorem d_Law_law_306 : decode code 306 = .ok (.iadd, 1) := by decide +kernel
theorem d_Law_law_307 : decode code 307 = .ok (.iaload, 1) := by decide +kernel
theorem d_Law_law_308 : decode code 308 = .ok (.i2l, 1) := by decide +kernel
theorem d_Law_law_309 : decode code 309 = .ok (.ldc2_w 18, 3) := by decide +kernel
theorem d_Law_law_312 : decode code 312 = .ok (.land, 1) := by decide +kernel
theorem d_Law_law_313 : decode code 313 = .ok (.lor, 1) := by decide +kernel
theorem d_Law_law_314 : decode code 314 = .ok (.aload_n 0, 1) := by decide +kernel
theorem d_Law_law_315 : decode code 315 = .ok (.iload_n 3, 1) := by decide +kernel
theorem d_Law_law_316 : decode code 316 = .ok (.bipush 9, 2) := by decide +kernel
theorem d_Law_law_318 : decode code 318 = .ok (.iadd, 1) := by decide +kernel
theorem d_Law_law_319 : decode code 319 = .ok (.iaload, 1) := by decide +kernel
theorem d_Law_law_320 : decode code 320 = .ok (.i2l, 1) := by decide +kernel
theorem d_Law_law_321 : decode code 321 = .ok (.bipush 32, 2) := by decide +kernel
theorem d_Law_law_323 : decode code 323 = .ok (.lshl, 1) := by decide +kernel
theorem d_Law_law_324 : decode code 324 = .ok (.aload_n 0, 1) := by decide +kernel
theorem d_Law_law_325 : decode code 325 = .ok (.iload_n 3, 1) := by decide +kernel
theorem d_Law_law_326 : decode code 326 = .ok (.bipush 10, 2) := by decide +kernel
theorem d_Law_law_328 : decode code 328 = .ok (.iadd, 1) := by decide +kernel
theorem d_Law_law_329 : decode code 329 = .ok (.iaload, 1) := by decide +kernel
theorem d_Law_law_330 : decode code 330 = .ok (.i2l, 1) := by decide +kernel
theorem d_Law_law_331 : decode code 331 = .ok (.ldc2_w 18, 3) := by decide +kernel
theorem d_Law_law_334 : decode code 334 = .ok (.land, 1) := by decide +kernel
theorem d_Law_law_335 : decode code 335 = .ok (.lor, 1) := by decide +kernel
theorem d_Law_law_336 : decode code 336 = .ok (.invokevirtual 24, 3) := by decide +kernel
theorem d_Law_law_339 : decode code 339 = .ok (.if_icmp .eq 1045, 3) := by decide +kernel
theorem d_Law_law_342 : decode code 342 = .ok (.iconst 0, 1) := by decide +kernel
theorem d_Law_law_343 : decode code 343 = .ok (.ireturn, 1) := by decide +kernel
theorem d_Law_law_344 : decode code 344 = .ok (.aload_n 1, 1) := by decide +kernel
theorem d_Law_law_345 : decode code 345 = .ok (.aload_n 0, 1) := by decide +kernel
theorem d_Law_law_346 : decode code 346 = .ok (.iload_n 3, 1) := by decide +kernel
theorem d_Law_law_347 : decode code 347 = .ok (.iconst 1, 1) := by decide +kernel
theorem d_Law_law_348 : decode code 348 = .ok (.iadd, 1) := by decide +kernel
theorem d_Law_law_349 : decode code 349 = .ok (.iaload, 1) := by decide +kernel
theorem d_Law_law_350 : decode code 350 = .ok (.aload_n 0, 1) := by decide +kernel
theorem d_Law_law_351 : decode code 351 = .ok (.iload_n 3, 1) := by decide +kernel
theorem d_Law_law_352 : decode code 352 = .ok (.iconst 2, 1) := by decide +kernel
theorem d_Law_law_353 : decode code 353 = .ok (.iadd, 1) := by decide +kernel
theorem d_Law_law_354 : decode code 354 = .ok (.iaload, 1) := by decide +kernel
theorem d_Law_law_355 : decode code 355 = .ok (.i2l, 1) := by decide +kernel
theorem d_Law_law_356 : decode code 356 = .ok (.bipush 32, 2) := by decide +kernel
theorem d_Law_law_358 : decode code 358 = .ok (.lshl, 1) := by decide +kernel
theorem d_Law_law_359 : decode code 359 = .ok (.aload_n 0, 1) := by decide +kernel
theorem d_Law_law_360 : decode code 360 = .ok (.iload_n 3, 1) := by decide +kernel
theorem d_Law_law_361 : decode code 361 = .ok (.iconst 3, 1) := by decide +kernel
theorem d_Law_law_362 : decode code 362 = .ok (.iadd, 1) := by decide +kernel
theorem d_Law_law_363 : decode code 363 = .ok (.iaload, 1) := by decide +kernel
theorem d_Law_law_364 : decode code 364 = .ok (.i2l, 1) := by decide +kernel
theorem d_Law_law_365 : decode code 365 = .ok (.ldc2_w 18, 3) := by decide +kernel
theorem d_Law_law_368 : decode code 368 = .ok (.land, 1) := by decide +kernel
theorem d_Law_law_369 : decode code 369 = .ok (.lor, 1) := by decide +kernel
theorem d_Law_law_370 : decode code 370 = .ok (.invokevirtual 25, 3) := by decide +kernel
theorem d_Law_law_373 : decode code 373 = .ok (.aload_n 2, 1) := by decide +kernel
theorem d_Law_law_374 : decode code 374 = .ok (.aload_n 0, 1) := by decide +kernel
theorem d_Law_law_375 : decode code 375 = .ok (.iload_n 3, 1) := by decide +kernel
theorem d_Law_law_376 : decode code 376 = .ok (.iconst 1, 1) := by decide +kernel
theorem d_Law_law_377 : decode code 377 = .ok (.iadd, 1) := by decide +kernel
theorem d_Law_law_378 : decode code 378 = .ok (.iaload, 1) := by decide +kernel
theorem d_Law_law_379 : decode code 379 = .ok (.aload_n 0, 1) := by decide +kernel
theorem d_Law_law_380 : decode code 380 = .ok (.iload_n 3, 1) := by decide +kernel
theorem d_Law_law_381 : decode code 381 = .ok (.iconst 2, 1) := by decide +kernel
theorem d_Law_law_382 : decode code 382 = .ok (.iadd, 1) := by decide +kernel
theorem d_Law_law_383 : decode code 383 = .ok (.iaload, 1) := by decide +kernel
theorem d_Law_law_384 : decode code 384 = .ok (.i2l, 1) := by decide +kernel
theorem d_Law_law_385 : decode code 385 = .ok (.bipush 32, 2) := by decide +kernel
theorem d_Law_law_387 : decode code 387 = .ok (.lshl, 1) := by decide +kernel
theorem d_Law_law_388 : decode code 388 = .ok (.aload_n 0, 1) := by decide +kernel
theorem d_Law_law_389 : decode code 389 = .ok (.iload_n 3, 1) := by decide +kernel
theorem d_Law_law_390 : decode code 390 = .ok (.iconst 3, 1) := by decide +kernel
theorem d_Law_law_391 : decode code 391 = .ok (.iadd, 1) := by decide +kernel
theorem d_Law_law_392 : decode code 392 = .ok (.iaload, 1) := by decide +kernel
theorem d_Law_law_393 : decode code 393 = .ok (.i2l, 1) := by decide +kernel
theorem d_Law_law_394 : decode code 394 = .ok (.ldc2_w 18, 3) := by decide +kernel
theorem d_Law_law_397 : decode code 397 = .ok (.land, 1) := by decide +kernel
theorem d_Law_law_398 : decode code 398 = .ok (.lor, 1) := by decide +kernel
theorem d_Law_law_399 : decode code 399 = .ok (.invokevirtual 29, 3) := by decide +kernel
theorem d_Law_law_402 : decode code 402 = .ok (.if_icmp .eq 982, 3) := by decide +kernel
theorem d_Law_law_405 : decode code 405 = .ok (.iconst 0, 1) := by decide +kernel
theorem d_Law_law_406 : decode code 406 = .ok (.ireturn, 1) := by decide +kernel
theorem d_Law_law_407 : decode code 407 = .ok (.aload_n 1, 1) := by decide +kernel
theorem d_Law_law_408 : decode code 408 = .ok (.aload_n 0, 1) := by decide +kernel
theorem d_Law_law_409 : decode code 409 = .ok (.iload_n 3, 1) := by decide +kernel
theorem d_Law_law_410 : decode code 410 = .ok (.iconst 1, 1) := by decide +kernel
theorem d_Law_law_411 : decode code 411 = .ok (.iadd, 1) := by decide +kernel
theorem d_Law_law_412 : decode code 412 = .ok (.iaload, 1) := by decide +kernel
theorem d_Law_law_413 : decode code 413 = .ok (.invokevirtual 30, 3) := by decide +kernel
theorem d_Law_law_416 : decode code 416 = .ok (.aload_n 2, 1) := by decide +kernel
theorem d_Law_law_417 : decode code 417 = .ok (.aload_n 0, 1) := by decide +kernel
theorem d_Law_law_418 : decode code 418 = .ok (.iload_n 3, 1) := by decide +kernel
theorem d_Law_law_419 : decode code 419 = .ok (.iconst 1, 1) := by decide +kernel
theorem d_Law_law_420 : decode code 420 = .ok (.iadd, 1) := by decide +kernel
theorem d_Law_law_421 : decode code 421 = .ok (.iaload, 1) := by decide +kernel
theorem d_Law_law_422 : decode code 422 = .ok (.invokevirtual 34, 3) := by decide +kernel
theorem d_Law_law_425 : decode code 425 = .ok (.if_icmp .eq 959, 3) := by decide +kernel
theorem d_Law_law_428 : decode code 428 = .ok (.iconst 0, 1) := by decide +kernel
theorem d_Law_law_429 : decode code 429 = .ok (.ireturn, 1) := by decide +kernel
theorem d_Law_law_430 : decode code 430 = .ok (.aload_n 1, 1) := by decide +kernel
theorem d_Law_law_431 : decode code 431 = .ok (.aload_n 0, 1) := by decide +kernel
theorem d_Law_law_432 : decode code 432 = .ok (.iload_n 3, 1) := by decide +kernel
theorem d_Law_law_433 : decode code 433 = .ok (.iconst 1, 1) := by decide +kernel
theorem d_Law_law_434 : decode code 434 = .ok (.iadd, 1) := by decide +kernel
theorem d_Law_law_435 : decode code 435 = .ok (.iaload, 1) := by decide +kernel
theorem d_Law_law_436 : decode code 436 = .ok (.invokevirtual 35, 3) := by decide +kernel
theorem d_Law_law_439 : decode code 439 = .ok (.aload_n 2, 1) := by decide +kernel
theorem d_Law_law_440 : decode code 440 = .ok (.aload_n 0, 1) := by decide +kernel
theorem d_Law_law_441 : decode code 441 = .ok (.iload_n 3, 1) := by decide +kernel
theorem d_Law_law_442 : decode code 442 = .ok (.iconst 1, 1) := by decide +kernel
theorem d_Law_law_443 : decode code 443 = .ok (.iadd, 1) := by decide +kernel
theorem d_Law_law_444 : decode code 444 = .ok (.iaload, 1) := by decide +kernel
theorem d_Law_law_445 : decode code 445 = .ok (.invokevirtual 38, 3) := by decide +kernel
theorem d_Law_law_448 : decode code 448 = .ok (.if_icmp .eq 936, 3) := by decide +kernel
theorem d_Law_law_451 : decode code 451 = .ok (.iconst 0, 1) := by decide +kernel
theorem d_Law_law_452 : decode code 452 = .ok (.ireturn, 1) := by decide +kernel
theorem d_Law_law_453 : decode code 453 = .ok (.aload_n 1, 1) := by decide +kernel
theorem d_Law_law_454 : decode code 454 = .ok (.aload_n 0, 1) := by decide +kernel
theorem d_Law_law_455 : decode code 455 = .ok (.iload_n 3, 1) := by decide +kernel
theorem d_Law_law_456 : decode code 456 = .ok (.iconst 1, 1) := by decide +kernel
theorem d_Law_law_457 : decode code 457 = .ok (.iadd, 1) := by decide +kernel
theorem d_Law_law_458 : decode code 458 = .ok (.iaload, 1) := by decide +kernel
theorem d_Law_law_459 : decode code 459 = .ok (.aload_n 0, 1) := by decide +kernel
theorem d_Law_law_460 : decode code 460 = .ok (.iload_n 3, 1) := by decide +kernel
theorem d_Law_law_461 : decode code 461 = .ok (.iconst 2, 1) := by decide +kernel
theorem d_Law_law_462 : decode code 462 = .ok (.iadd, 1) := by decide +kernel
theorem d_Law_law_463 : decode code 463 = .ok (.iaload, 1) := by decide +kernel
theorem d_Law_law_464 : decode code 464 = .ok (.invokevirtual 39, 3) := by decide +kernel
theorem d_Law_law_467 : decode code 467 = .ok (.aload_n 2, 1) := by decide +kernel
theorem d_Law_law_468 : decode code 468 = .ok (.aload_n 0, 1) := by decide +kernel
theorem d_Law_law_469 : decode code 469 = .ok (.iload_n 3, 1) := by decide +kernel
theorem d_Law_law_470 : decode code 470 = .ok (.iconst 1, 1) := by decide +kernel
theorem d_Law_law_471 : decode code 471 = .ok (.iadd, 1) := by decide +kernel
theorem d_Law_law_472 : decode code 472 = .ok (.iaload, 1) := by decide +kernel
theorem d_Law_law_473 : decode code 473 = .ok (.aload_n 0, 1) := by decide +kernel
theorem d_Law_law_474 : decode code 474 = .ok (.iload_n 3, 1) := by decide +kernel
theorem d_Law_law_475 : decode code 475 = .ok (.iconst 2, 1) := by decide +kernel
theorem d_Law_law_476 : decode code 476 = .ok (.iadd, 1) := by decide +kernel
theorem d_Law_law_477 : decode code 477 = .ok (.iaload, 1) := by decide +kernel
theorem d_Law_law_478 : decode code 478 = .ok (.invokevirtual 43, 3) := by decide +kernel
theorem d_Law_law_481 : decode code 481 = .ok (.if_icmp .eq 903, 3) := by decide +kernel
theorem d_Law_law_484 : decode code 484 = .ok (.iconst 0, 1) := by decide +kernel
theorem d_Law_law_485 : decode code 485 = .ok (.ireturn, 1) := by decide +kernel
theorem d_Law_law_486 : decode code 486 = .ok (.aload_n 1, 1) := by decide +kernel
theorem d_Law_law_487 : decode code 487 = .ok (.aload_n 0, 1) := by decide +kernel
theorem d_Law_law_488 : decode code 488 = .ok (.iload_n 3, 1) := by decide +kernel
theorem d_Law_law_489 : decode code 489 = .ok (.iconst 1, 1) := by decide +kernel
theorem d_Law_law_490 : decode code 490 = .ok (.iadd, 1) := by decide +kernel
theorem d_Law_law_491 : decode code 491 = .ok (.iaload, 1) := by decide +kernel
theorem d_Law_law_492 : decode code 492 = .ok (.aload_n 0, 1) := by decide +kernel
theorem d_Law_law_493 : decode code 493 = .ok (.iload_n 3, 1) := by decide +kernel
theorem d_Law_law_494 : decode code 494 = .ok (.iconst 2, 1) := by decide +kernel
theorem d_Law_law_495 : decode code 495 = .ok (.iadd, 1) := by decide +kernel
theorem d_Law_law_496 : decode code 496 = .ok (.iaload, 1) := by decide +kernel
theorem d_Law_law_497 : decode code 497 = .ok (.aload_n 0, 1) := by decide +kernel
theorem d_Law_law_498 : decode code 498 = .ok (.iload_n 3, 1) := by decide +kernel
theorem d_Law_law_499 : decode code 499 = .ok (.iconst 3, 1) := by decide +kernel
theorem d_Law_law_500 : decode code 500 = .ok (.iadd, 1) := by decide +kernel
theorem d_Law_law_501 : decode code 501 = .ok (.iaload, 1) := by decide +kernel
theorem d_Law_law_502 : decode code 502 = .ok (.aload_n 0, 1) := by decide +kernel
theorem d_Law_law_503 : decode code 503 = .ok (.iload_n 3, 1) := by decide +kernel
theorem d_Law_law_504 : decode code 504 = .ok (.iconst 4, 1) := by decide +kernel
theorem d_Law_law_505 : decode code 505 = .ok (.iadd, 1) := by decide +kernel
theorem d_Law_law_506 : decode code 506 = .ok (.iaload, 1) := by decide +kernel
theorem d_Law_law_507 : decode code 507 = .ok (.i2l, 1) := by decide +kernel
theorem d_Law_law_508 : decode code 508 = .ok (.bipush 32, 2) := by decide +kernel
theorem d_Law_law_510 : decode code 510 = .ok (.lshl, 1) := by decide +kernel
theorem d_Law_law_511 : decode code 511 = .ok (.aload_n 0, 1) := by decide +kernel
theorem d_Law_law_512 : decode code 512 = .ok (.iload_n 3, 1) := by decide +kernel
theorem d_Law_law_513 : decode code 513 = .ok (.iconst 5, 1) := by decide +kernel
theorem d_Law_law_514 : decode code 514 = .ok (.iadd, 1) := by decide +kernel
theorem d_Law_law_515 : decode code 515 = .ok (.iaload, 1) := by decide +kernel
theorem d_Law_law_516 : decode code 516 = .ok (.i2l, 1) := by decide +kernel
theorem d_Law_law_517 : decode code 517 = .ok (.ldc2_w 18, 3) := by decide +kernel
theorem d_Law_law_520 : decode code 520 = .ok (.land, 1) := by decide +kernel
theorem d_Law_law_521 : decode code 521 = .ok (.lor, 1) := by decide +kernel
theorem d_Law_law_522 : decode code 522 = .ok (.aload_n 0, 1) := by decide +kernel
theorem d_Law_law_523 : decode code 523 = .ok (.iload_n 3, 1) := by decide +kernel
theorem d_Law_law_524 : decode code 524 = .ok (.bipush 6, 2) := by decide +kernel
theorem d_Law_law_526 : decode code 526 = .ok (.iadd, 1) := by decide +kernel
theorem d_Law_law_527 : decode code 527 = .ok (.iaload, 1) := by decide +kernel
theorem d_Law_law_528 : decode code 528 = .ok (.i2l, 1) := by decide +kernel
theorem d_Law_law_529 : decode code 529 = .ok (.bipush 32, 2) := by decide +kernel
theorem d_Law_law_531 : decode code 531 = .ok (.lshl, 1) := by decide +kernel
theorem d_Law_law_532 : decode code 532 = .ok (.aload_n 0, 1) := by decide +kernel
theorem d_Law_law_533 : decode code 533 = .ok (.iload_n 3, 1) := by decide +kernel
theorem d_Law_law_534 : decode code 534 = .ok (.bipush 7, 2) := by decide +kernel
theorem d_Law_law_536 : decode code 536 = .ok (.iadd, 1) := by decide +kernel
theorem d_Law_law_537 : decode code 537 = .ok (.iaload, 1) := by decide +kernel
theorem d_Law_law_538 : decode code 538 = .ok (.i2l, 1) := by decide +kernel
theorem d_Law_law_539 : decode code 539 = .ok (.ldc2_w 18, 3) := by decide +kernel
theorem d_Law_law_542 : decode code 542 = .ok (.land, 1) := by decide +kernel
theorem d_Law_law_543 : decode code 543 = .ok (.lor, 1) := by decide +kernel
theorem d_Law_law_544 : decode code 544 = .ok (.aload_n 0, 1) := by decide +kernel
theorem d_Law_law_545 : decode code 545 = .ok (.iload_n 3, 1) := by decide +kernel
theorem d_Law_law_546 : decode code 546 = .ok (.bipush 8, 2) := by decide +kernel
theorem d_Law_law_548 : decode code 548 = .ok (.iadd, 1) := by decide +kernel
theorem d_Law_law_549 : decode code 549 = .ok (.iaload, 1) := by decide +kernel
theorem d_Law_law_550 : decode code 550 = .ok (.i2l, 1) := by decide +kernel
theorem d_Law_law_551 : decode code 551 = .ok (.bipush 32, 2) := by decide +kernel
theorem d_Law_law_553 : decode code 553 = .ok (.lshl, 1) := by decide +kernel
theorem d_Law_law_554 : decode code 554 = .ok (.aload_n 0, 1) := by decide +kernel
theorem d_Law_law_555 : decode code 555 = .ok (.iload_n 3, 1) := by decide +kernel
theorem d_Law_law_556 : decode code 556 = .ok (.bipush 9, 2) := by decide +kernel
theorem d_Law_law_558 : decode code 558 = .ok (.iadd, 1) := by decide +kernel
theorem d_Law_law_559 : decode code 559 = .ok (.iaload, 1) := by decide +kernel
theorem d_Law_law_560 : decode code 560 = .ok (.i2l, 1) := by decide +kernel
theorem d_Law_law_561 : decode code 561 = .ok (.ldc2_w 18, 3) := by decide +kernel
theorem d_Law_law_564 : decode code 564 = .ok (.land, 1) := by decide +kernel
theorem d_Law_law_565 : decode code 565 = .ok (.lor, 1) := by decide +kernel
theorem d_Law_law_566 : decode code 566 = .ok (.invokevirtual 44, 3) := by decide +kernel
theorem d_Law_law_569 : decode code 569 = .ok (.aload_n 2, 1) := by decide +kernel
theorem d_Law_law_570 : decode code 570 = .ok (.aload_n 0, 1) := by decide +kernel
theorem d_Law_law_571 : decode code 571 = .ok (.iload_n 3, 1) := by decide +kernel
theorem d_Law_law_572 : decode code 572 = .ok (.iconst 1, 1) := by decide +kernel
theorem d_Law_law_573 : decode code 573 = .ok (.iadd, 1) := by decide +kernel
theorem d_Law_law_574 : decode code 574 = .ok (.iaload, 1) := by decide +kernel
theorem d_Law_law_575 : decode code 575 = .ok (.aload_n 0, 1) := by decide +kernel
theorem d_Law_law_576 : decode code 576 = .ok (.iload_n 3, 1) := by decide +kernel
theorem d_Law_law_577 : decode code 577 = .ok (.iconst 2, 1) := by decide +kernel
theorem d_Law_law_578 : decode code 578 = .ok (.iadd, 1) := by decide +kernel
theorem d_Law_law_579 : decode code 579 = .ok (.iaload, 1) := by decide +kernel
theorem d_Law_law_580 : decode code 580 = .ok (.aload_n 0, 1) := by decide +kernel
theorem d_Law_law_581 : decode code 581 = .ok (.iload_n 3, 1) := by decide +kernel
theorem d_Law_law_582 : decode code 582 = .ok (.iconst 3, 1) := by decide +kernel
theorem d_Law_law_583 : decode code 583 = .ok (.iadd, 1) := by decide +kernel
theorem d_Law_law_584 : decode code 584 = .ok (.iaload, 1) := by decide +kernel
theorem d_Law_law_585 : decode code 585 = .ok (.aload_n 0, 1) := by decide +kernel
theorem d_Law_law_586 : decode code 586 = .ok (.iload_n 3, 1) := by decide +kernel
theorem d_Law_law_587 : decode code 587 = .ok (.iconst 4, 1) := by decide +kernel
theorem d_Law_law_588 : decode code 588 = .ok (.iadd, 1) := by decide +kernel
theorem d_Law_law_589 : decode code 589 = .ok (.iaload, 1) := by decide +kernel
theorem d_Law_law_590 : decode code 590 = .ok (.i2l, 1) := by decide +kernel
theorem d_Law_law_591 : decode code 591 = .ok (.bipush 32, 2) := by decide +kernel
theorem d_Law_law_593 : decode code 593 = .ok (.lshl, 1) := by decide +kernel
theorem d_Law_law_594 : decode code 594 = .ok (.aload_n 0, 1) := by decide +kernel
theorem d_Law_law_595 : decode code 595 = .ok (.iload_n 3, 1) := by decide +kernel
theorem d_Law_law_596 : decode code 596 = .ok (.iconst 5, 1) := by decide +kernel
theorem d_Law_law_597 : decode code 597 = .ok (.iadd, 1) := by decide +kernel
theorem d_Law_law_598 : decode code 598 = .ok (.iaload, 1) := by decide +kernel
theorem d_Law_law_599 : decode code 599 = .ok (.i2l, 1) := by decide +kernel
theorem d_Law_law_600 : decode code 600 = .ok (.ldc2_w 18, 3) := by decide +kernel
theorem d_Law_law_603 : decode code 603 = .ok (.land, 1) := by decide +kernel
theorem d_Law_law_604 : decode code 604 = .ok (.lor, 1) := by decide +kernel
theorem d_Law_law_605 : decode code 605 = .ok (.aload_n 0, 1) := by decide +kernel
theorem d_Law_law_606 : decode code 606 = .ok (.iload_n 3, 1) := by decide +kernel
theorem d_Law_law_607 : decode code 607 = .ok (.bipush 6, 2) := by decide +kernel
theorem d_Law_law_609 : decode code 609 = .ok (.iadd, 1) := by decide +kernel
theorem d_Law_law_610 : decode code 610 = .ok (.iaload, 1) := by decide +kernel
theorem d_Law_law_611 : decode code 611 = .ok (.i2l, 1) := by decide +kernel
theorem d_Law_law_612 : decode code 612 = .ok (.bipush 32, 2) := by decide +kernel
theorem d_Law_law_614 : decode code 614 = .ok (.lshl, 1) := by decide +kernel
theorem d_Law_law_615 : decode code 615 = .ok (.aload_n 0, 1) := by decide +kernel
theorem d_Law_law_616 : decode code 616 = .ok (.iload_n 3, 1) := by decide +kernel
theorem d_Law_law_617 : decode code 617 = .ok (.bipush 7, 2) := by decide +kernel
theorem d_Law_law_619 : decode code 619 = .ok (.iadd, 1) := by decide +kernel
theorem d_Law_law_620 : decode code 620 = .ok (.iaload, 1) := by decide +kernel
theorem d_Law_law_621 : decode code 621 = .ok (.i2l, 1) := by decide +kernel
theorem d_Law_law_622 : decode code 622 = .ok (.ldc2_w 18, 3) := by decide +kernel
theorem d_Law_law_625 : decode code 625 = .ok (.land, 1) := by decide +kernel
theorem d_Law_law_626 : decode code 626 = .ok (.lor, 1) := by decide +kernel
theorem d_Law_law_627 : decode code 627 = .ok (.aload_n 0, 1) := by decide +kernel
theorem d_Law_law_628 : decode code 628 = .ok (.iload_n 3, 1) := by decide +kernel
theorem d_Law_law_629 : decode code 629 = .ok (.bipush 8, 2) := by decide +kernel
theorem d_Law_law_631 : decode code 631 = .ok (.iadd, 1) := by decide +kernel
theorem d_Law_law_632 : decode code 632 = .ok (.iaload, 1) := by decide +kernel
theorem d_Law_law_633 : decode code 633 = .ok (.i2l, 1) := by decide +kernel
theorem d_Law_law_634 : decode code 634 = .ok (.bipush 32, 2) := by decide +kernel
theorem d_Law_law_636 : decode code 636 = .ok (.lshl, 1) := by decide +kernel
theorem d_Law_law_637 : decode code 637 = .ok (.aload_n 0, 1) := by decide +kernel
theorem d_Law_law_638 : decode code 638 = .ok (.iload_n 3, 1) := by decide +kernel
theorem d_Law_law_639 : decode code 639 = .ok (.bipush 9, 2) := by decide +kernel
theorem d_Law_law_641 : decode code 641 = .ok (.iadd, 1) := by decide +kernel
theorem d_Law_law_642 : decode code 642 = .ok (.iaload, 1) := by decide +kernel
theorem d_Law_law_643 : decode code 643 = .ok (.i2l, 1) := by decide +kernel
theorem d_Law_law_644 : decode code 644 = .ok (.ldc2_w 18, 3) := by decide +kernel
theorem d_Law_law_647 : decode code 647 = .ok (.land, 1) := by decide +kernel
theorem d_Law_law_648 : decode code 648 = .ok (.lor, 1) := by decide +kernel
theorem d_Law_law_649 : decode code 649 = .ok (.invokevirtual 48, 3) := by decide +kernel
theorem d_Law_law_652 : decode code 652 = .ok (.if_icmp .eq 732, 3) := by decide +kernel
theorem d_Law_law_655 : decode code 655 = .ok (.iconst 0, 1) := by decide +kernel
theorem d_Law_law_656 : decode code 656 = .ok (.ireturn, 1) := by decide +kernel
theorem d_Law_law_657 : decode code 657 = .ok (.aload_n 1, 1) := by decide +kernel
theorem d_Law_law_658 : decode code 658 = .ok (.aload_n 0, 1) := by decide +kernel
theorem d_Law_law_659 : decode code 659 = .ok (.iload_n 3, 1) := by decide +kernel
theorem d_Law_law_660 : decode code 660 = .ok (.iconst 1, 1) := by decide +kernel
theorem d_Law_law_661 : decode code 661 = .ok (.iadd, 1) := by decide +kernel
theorem d_Law_law_662 : decode code 662 = .ok (.iaload, 1) := by decide +kernel
theorem d_Law_law_663 : decode code 663 = .ok (.aload_n 0, 1) := by decide +kernel
theorem d_Law_law_664 : decode code 664 = .ok (.iload_n 3, 1) := by decide +kernel
theorem d_Law_law_665 : decode code 665 = .ok (.iconst 2, 1) := by decide +kernel
theorem d_Law_law_666 : decode code 666 = .ok (.iadd, 1) := by decide +kernel
theorem d_Law_law_667 : decode code 667 = .ok (.iaload, 1) := by decide +kernel
theorem d_Law_law_668 : decode code 668 = .ok (.aload_n 0, 1) := by decide +kernel
theorem d_Law_law_669 : decode code 669 = .ok (.iload_n 3, 1) := by decide +kernel
theorem d_Law_law_670 : decode code 670 = .ok (.iconst 3, 1) := by decide +kernel
theorem d_Law_law_671 : decode code 671 = .ok (.iadd, 1) := by decide +kernel
theorem d_Law_law_672 : decode code 672 = .ok (.iaload, 1) := by decide +kernel
theorem d_Law_law_673 : decode code 673 = .ok (.invokevirtual 49, 3) := by decide +kernel
theorem d_Law_law_676 : decode code 676 = .ok (.aload_n 2, 1) := by decide +kernel
theorem d_Law_law_677 : decode code 677 = .ok (.aload_n 0, 1) := by decide +kernel
theorem d_Law_law_678 : decode code 678 = .ok (.iload_n 3, 1) := by decide +kernel
theorem d_Law_law_679 : decode code 679 = .ok (.iconst 1, 1) := by decide +kernel
theorem d_Law_law_680 : decode code 680 = .ok (.iadd, 1) := by decide +kernel
theorem d_Law_law_681 : decode code 681 = .ok (.iaload, 1) := by decide +kernel
theorem d_Law_law_682 : decode code 682 = .ok (.aload_n 0, 1) := by decide +kernel
theorem d_Law_law_683 : decode code 683 = .ok (.iload_n 3, 1) := by decide +kernel
theorem d_Law_law_684 : decode code 684 = .ok (.iconst 2, 1) := by decide +kernel
theorem d_Law_law_685 : decode code 685 = .ok (.iadd, 1) := by decide +kernel
theorem d_Law_law_686 : decode code 686 = .ok (.iaload, 1) := by decide +kernel
theorem d_Law_law_687 : decode code 687 = .ok (.aload_n 0, 1) := by decide +kernel
theorem d_Law_law_688 : decode code 688 = .ok (.iload_n 3, 1) := by decide +kernel
theorem d_Law_law_689 : decode code 689 = .ok (.iconst 3, 1) := by decide +kernel
theorem d_Law_law_690 : decode code 690 = .ok (.iadd, 1) := by decide +kernel
theorem d_Law_law_691 : decode code 691 = .ok (.iaload, 1) := by decide +kernel
theorem d_Law_law_692 : decode code 692 = .ok (.invokevirtual 53, 3) := by decide +kernel
theorem d_Law_law_695 : decode code 695 = .ok (.lcmp, 1) := by decide +kernel
theorem d_Law_law_696 : decode code 696 = .ok (.ifCond .eq 688, 3) := by decide +kernel
theorem d_Law_law_699 : decode code 699 = .ok (.iconst 0, 1) := by decide +kernel
theorem d_Law_law_700 : decode code 700 = .ok (.ireturn, 1) := by decide +kernel
theorem d_Law_law_701 : decode code 701 = .ok (.aload_n 1, 1) := by decide +kernel
theorem d_Law_law_702 : decode code 702 = .ok (.aload_n 0, 1) := by decide +kernel
theorem d_Law_law_703 : decode code 703 = .ok (.iload_n 3, 1) := by decide +kernel
theorem d_Law_law_704 : decode code 704 = .ok (.iconst 1, 1) := by decide +kernel
theorem d_Law_law_705 : decode code 705 = .ok (.iadd, 1) := by decide +kernel
theorem d_Law_law_706 : decode code 706 = .ok (.iaload, 1) := by decide +kernel
theorem d_Law_law_707 : decode code 707 = .ok (.aload_n 0, 1) := by decide +kernel
theorem d_Law_law_708 : decode code 708 = .ok (.iload_n 3, 1) := by decide +kernel
theorem d_Law_law_709 : decode code 709 = .ok (.iconst 2, 1) := by decide +kernel
theorem d_Law_law_710 : decode code 710 = .ok (.iadd, 1) := by decide +kernel
theorem d_Law_law_711 : decode code 711 = .ok (.iaload, 1) := by decide +kernel
theorem d_Law_law_712 : decode code 712 = .ok (.aload_n 0, 1) := by decide +kernel
theorem d_Law_law_713 : decode code 713 = .ok (.iload_n 3, 1) := by decide +kernel
theorem d_Law_law_714 : decode code 714 = .ok (.iconst 3, 1) := by decide +kernel
theorem d_Law_law_715 : decode code 715 = .ok (.iadd, 1) := by decide +kernel
theorem d_Law_law_716 : decode code 716 = .ok (.iaload, 1) := by decide +kernel
theorem d_Law_law_717 : decode code 717 = .ok (.aload_n 0, 1) := by decide +kernel
theorem d_Law_law_718 : decode code 718 = .ok (.iload_n 3, 1) := by decide +kernel
theorem d_Law_law_719 : decode code 719 = .ok (.iconst 4, 1) := by decide +kernel
theorem d_Law_law_720 : decode code 720 = .ok (.iadd, 1) := by decide +kernel
theorem d_Law_law_721 : decode code 721 = .ok (.iaload, 1) := by decide +kernel
theorem d_Law_law_722 : decode code 722 = .ok (.i2l, 1) := by decide +kernel
theorem d_Law_law_723 : decode code 723 = .ok (.bipush 32, 2) := by decide +kernel
theorem d_Law_law_725 : decode code 725 = .ok (.lshl, 1) := by decide +kernel
theorem d_Law_law_726 : decode code 726 = .ok (.aload_n 0, 1) := by decide +kernel
theorem d_Law_law_727 : decode code 727 = .ok (.iload_n 3, 1) := by decide +kernel
theorem d_Law_law_728 : decode code 728 = .ok (.iconst 5, 1) := by decide +kernel
theorem d_Law_law_729 : decode code 729 = .ok (.iadd, 1) := by decide +kernel
theorem d_Law_law_730 : decode code 730 = .ok (.iaload, 1) := by decide +kernel
theorem d_Law_law_731 : decode code 731 = .ok (.i2l, 1) := by decide +kernel
theorem d_Law_law_732 : decode code 732 = .ok (.ldc2_w 18, 3) := by decide +kernel
theorem d_Law_law_735 : decode code 735 = .ok (.land, 1) := by decide +kernel
theorem d_Law_law_736 : decode code 736 = .ok (.lor, 1) := by decide +kernel
theorem d_Law_law_737 : decode code 737 = .ok (.aload_n 0, 1) := by decide +kernel
theorem d_Law_law_738 : decode code 738 = .ok (.iload_n 3, 1) := by decide +kernel
theorem d_Law_law_739 : decode code 739 = .ok (.bipush 6, 2) := by decide +kernel
theorem d_Law_law_741 : decode code 741 = .ok (.iadd, 1) := by decide +kernel
theorem d_Law_law_742 : decode code 742 = .ok (.iaload, 1) := by decide +kernel
theorem d_Law_law_743 : decode code 743 = .ok (.i2l, 1) := by decide +kernel
theorem d_Law_law_744 : decode code 744 = .ok (.bipush 32, 2) := by decide +kernel
theorem d_Law_law_746 : decode code 746 = .ok (.lshl, 1) := by decide +kernel
theorem d_Law_law_747 : decode code 747 = .ok (.aload_n 0, 1) := by decide +kernel
theorem d_Law_law_748 : decode code 748 = .ok (.iload_n 3, 1) := by decide +kernel
theorem d_Law_law_749 : decode code 749 = .ok (.bipush 7, 2) := by decide +kernel
theorem d_Law_law_751 : decode code 751 = .ok (.iadd, 1) := by decide +kernel
theorem d_Law_law_752 : decode code 752 = .ok (.iaload, 1) := by decide +kernel
theorem d_Law_law_753 : decode code 753 = .ok (.i2l, 1) := by decide +kernel
theorem d_Law_law_754 : decode code 754 = .ok (.ldc2_w 18, 3) := by decide +kernel
theorem d_Law_law_757 : decode code 757 = .ok (.land, 1) := by decide +kernel
theorem d_Law_law_758 : decode code 758 = .ok (.lor, 1) := by decide +kernel
theorem d_Law_law_759 : decode code 759 = .ok (.invokevirtual 54, 3) := by decide +kernel
theorem d_Law_law_762 : decode code 762 = .ok (.aload_n 2, 1) := by decide +kernel
theorem d_Law_law_763 : decode code 763 = .ok (.aload_n 0, 1) := by decide +kernel
theorem d_Law_law_764 : decode code 764 = .ok (.iload_n 3, 1) := by decide +kernel
theorem d_Law_law_765 : decode code 765 = .ok (.iconst 1, 1) := by decide +kernel
theorem d_Law_law_766 : decode code 766 = .ok (.iadd, 1) := by decide +kernel
theorem d_Law_law_767 : decode code 767 = .ok (.iaload, 1) := by decide +kernel
theorem d_Law_law_768 : decode code 768 = .ok (.aload_n 0, 1) := by decide +kernel
theorem d_Law_law_769 : decode code 769 = .ok (.iload_n 3, 1) := by decide +kernel
theorem d_Law_law_770 : decode code 770 = .ok (.iconst 2, 1) := by decide +kernel
theorem d_Law_law_771 : decode code 771 = .ok (.iadd, 1) := by decide +kernel
theorem d_Law_law_772 : decode code 772 = .ok (.iaload, 1) := by decide +kernel
theorem d_Law_law_773 : decode code 773 = .ok (.aload_n 0, 1) := by decide +kernel
theorem d_Law_law_774 : decode code 774 = .ok (.iload_n 3, 1) := by decide +kernel
theorem d_Law_law_775 : decode code 775 = .ok (.iconst 3, 1) := by decide +kernel
theorem d_Law_law_776 : decode code 776 = .ok (.iadd, 1) := by decide +kernel
theorem d_Law_law_777 : decode code 777 = .ok (.iaload, 1) := by decide +kernel
theorem d_Law_law_778 : decode code 778 = .ok (.aload_n 0, 1) := by decide +kernel
theorem d_Law_law_779 : decode code 779 = .ok (.iload_n 3, 1) := by decide +kernel
theorem d_Law_law_780 : decode code 780 = .ok (.iconst 4, 1) := by decide +kernel
theorem d_Law_law_781 : decode code 781 = .ok (.iadd, 1) := by decide +kernel
theorem d_Law_law_782 : decode code 782 = .ok (.iaload, 1) := by decide +kernel
theorem d_Law_law_783 : decode code 783 = .ok (.i2l, 1) := by decide +kernel
theorem d_Law_law_784 : decode code 784 = .ok (.bipush 32, 2) := by decide +kernel
theorem d_Law_law_786 : decode code 786 = .ok (.lshl, 1) := by decide +kernel
theorem d_Law_law_787 : decode code 787 = .ok (.aload_n 0, 1) := by decide +kernel
theorem d_Law_law_788 : decode code 788 = .ok (.iload_n 3, 1) := by decide +kernel
theorem d_Law_law_789 : decode code 789 = .ok (.iconst 5, 1) := by decide +kernel
theorem d_Law_law_790 : decode code 790 = .ok (.iadd, 1) := by decide +kernel
theorem d_Law_law_791 : decode code 791 = .ok (.iaload, 1) := by decide +kernel
theorem d_Law_law_792 : decode code 792 = .ok (.i2l, 1) := by decide +kernel
theorem d_Law_law_793 : decode code 793 = .ok (.ldc2_w 18, 3) := by decide +kernel
theorem d_Law_law_796 : decode code 796 = .ok (.land, 1) := by decide +kernel
theorem d_Law_law_797 : decode code 797 = .ok (.lor, 1) := by decide +kernel
theorem d_Law_law_798 : decode code 798 = .ok (.aload_n 0, 1) := by decide +kernel
theorem d_Law_law_799 : decode code 799 = .ok (.iload_n 3, 1) := by decide +kernel
theorem d_Law_law_800 : decode code 800 = .ok (.bipush 6, 2) := by decide +kernel
theorem d_Law_law_802 : decode code 802 = .ok (.iadd, 1) := by decide +kernel
theorem d_Law_law_803 : decode code 803 = .ok (.iaload, 1) := by decide +kernel
theorem d_Law_law_804 : decode code 804 = .ok (.i2l, 1) := by decide +kernel
theorem d_Law_law_805 : decode code 805 = .ok (.bipush 32, 2) := by decide +kernel
theorem d_Law_law_807 : decode code 807 = .ok (.lshl, 1) := by decide +kernel
theorem d_Law_law_808 : decode code 808 = .ok (.aload_n 0, 1) := by decide +kernel
theorem d_Law_law_809 : decode code 809 = .ok (.iload_n 3, 1) := by decide +kernel
theorem d_Law_law_810 : decode code 810 = .ok (.bipush 7, 2) := by decide +kernel
theorem d_Law_law_812 : decode code 812 = .ok (.iadd, 1) := by decide +kernel
theorem d_Law_law_813 : decode code 813 = .ok (.iaload, 1) := by decide +kernel
theorem d_Law_law_814 : decode code 814 = .ok (.i2l, 1) := by decide +kernel
theorem d_Law_law_815 : decode code 815 = .ok (.ldc2_w 18, 3) := by decide +kernel
theorem d_Law_law_818 : decode code 818 = .ok (.land, 1) := by decide +kernel
theorem d_Law_law_819 : decode code 819 = .ok (.lor, 1) := by decide +kernel
theorem d_Law_law_820 : decode code 820 = .ok (.invokevirtual 58, 3) := by decide +kernel
theorem d_Law_law_823 : decode code 823 = .ok (.lcmp, 1) := by decide +kernel
theorem d_Law_law_824 : decode code 824 = .ok (.ifCond .eq 560, 3) := by decide +kernel
theorem d_Law_law_827 : decode code 827 = .ok (.iconst 0, 1) := by decide +kernel
theorem d_Law_law_828 : decode code 828 = .ok (.ireturn, 1) := by decide +kernel
theorem d_Law_law_829 : decode code 829 = .ok (.aload_n 1, 1) := by decide +kernel
theorem d_Law_law_830 : decode code 830 = .ok (.aload_n 0, 1) := by decide +kernel
theorem d_Law_law_831 : decode code 831 = .ok (.iload_n 3, 1) := by decide +kernel
theorem d_Law_law_832 : decode code 832 = .ok (.iconst 1, 1) := by decide +kernel
theorem d_Law_law_833 : decode code 833 = .ok (.iadd, 1) := by decide +kernel
theorem d_Law_law_834 : decode code 834 = .ok (.iaload, 1) := by decide +kernel
theorem d_Law_law_835 : decode code 835 = .ok (.aload_n 0, 1) := by decide +kernel
theorem d_Law_law_836 : decode code 836 = .ok (.iload_n 3, 1) := by decide +kernel
theorem d_Law_law_837 : decode code 837 = .ok (.iconst 2, 1) := by decide +kernel
theorem d_Law_law_838 : decode code 838 = .ok (.iadd, 1) := by decide +kernel
theorem d_Law_law_839 : decode code 839 = .ok (.iaload, 1) := by decide +kernel
theorem d_Law_law_840 : decode code 840 = .ok (.aload_n 0, 1) := by decide +kernel
theorem d_Law_law_841 : decode code 841 = .ok (.iload_n 3, 1) := by decide +kernel
theorem d_Law_law_842 : decode code 842 = .ok (.iconst 3, 1) := by decide +kernel
theorem d_Law_law_843 : decode code 843 = .ok (.iadd, 1) := by decide +kernel
theorem d_Law_law_844 : decode code 844 = .ok (.iaload, 1) := by decide +kernel
theorem d_Law_law_845 : decode code 845 = .ok (.invokevirtual 59, 3) := by decide +kernel
theorem d_Law_law_848 : decode code 848 = .ok (.aload_n 2, 1) := by decide +kernel
theorem d_Law_law_849 : decode code 849 = .ok (.aload_n 0, 1) := by decide +kernel
theorem d_Law_law_850 : decode code 850 = .ok (.iload_n 3, 1) := by decide +kernel
theorem d_Law_law_851 : decode code 851 = .ok (.iconst 1, 1) := by decide +kernel
theorem d_Law_law_852 : decode code 852 = .ok (.iadd, 1) := by decide +kernel
theorem d_Law_law_853 : decode code 853 = .ok (.iaload, 1) := by decide +kernel
theorem d_Law_law_854 : decode code 854 = .ok (.aload_n 0, 1) := by decide +kernel
theorem d_Law_law_855 : decode code 855 = .ok (.iload_n 3, 1) := by decide +kernel
theorem d_Law_law_856 : decode code 856 = .ok (.iconst 2, 1) := by decide +kernel
theorem d_Law_law_857 : decode code 857 = .ok (.iadd, 1) := by decide +kernel
theorem d_Law_law_858 : decode code 858 = .ok (.iaload, 1) := by decide +kernel
theorem d_Law_law_859 : decode code 859 = .ok (.aload_n 0, 1) := by decide +kernel
theorem d_Law_law_860 : decode code 860 = .ok (.iload_n 3, 1) := by decide +kernel
theorem d_Law_law_861 : decode code 861 = .ok (.iconst 3, 1) := by decide +kernel
theorem d_Law_law_862 : decode code 862 = .ok (.iadd, 1) := by decide +kernel
theorem d_Law_law_863 : decode code 863 = .ok (.iaload, 1) := by decide +kernel
theorem d_Law_law_864 : decode code 864 = .ok (.invokevirtual 63, 3) := by decide +kernel
theorem d_Law_law_867 : decode code 867 = .ok (.if_icmp .eq 517, 3) := by decide +kernel
theorem d_Law_law_870 : decode code 870 = .ok (.iconst 0, 1) := by decide +kernel
theorem d_Law_law_871 : decode code 871 = .ok (.ireturn, 1) := by decide +kernel
theorem d_Law_law_872 : decode code 872 = .ok (.aload_n 1, 1) := by decide +kernel
theorem d_Law_law_873 : decode code 873 = .ok (.aload_n 0, 1) := by decide +kernel
theorem d_Law_law_874 : decode code 874 = .ok (.iload_n 3, 1) := by decide +kernel
theorem d_Law_law_875 : decode code 875 = .ok (.iconst 1, 1) := by decide +kernel
theorem d_Law_law_876 : decode code 876 = .ok (.iadd, 1) := by decide +kernel
theorem d_Law_law_877 : decode code 877 = .ok (.iaload, 1) := by decide +kernel
theorem d_Law_law_878 : decode code 878 = .ok (.aload_n 0, 1) := by decide +kernel
theorem d_Law_law_879 : decode code 879 = .ok (.iload_n 3, 1) := by decide +kernel
theorem d_Law_law_880 : decode code 880 = .ok (.iconst 2, 1) := by decide +kernel
theorem d_Law_law_881 : decode code 881 = .ok (.iadd, 1) := by decide +kernel
theorem d_Law_law_882 : decode code 882 = .ok (.iaload, 1) := by decide +kernel
theorem d_Law_law_883 : decode code 883 = .ok (.aload_n 0, 1) := by decide +kernel
theorem d_Law_law_884 : decode code 884 = .ok (.iload_n 3, 1) := by decide +kernel
theorem d_Law_law_885 : decode code 885 = .ok (.iconst 3, 1) := by decide +kernel
theorem d_Law_law_886 : decode code 886 = .ok (.iadd, 1) := by decide +kernel
theorem d_Law_law_887 : decode code 887 = .ok (.iaload, 1) := by decide +kernel
theorem d_Law_law_888 : decode code 888 = .ok (.invokevirtual 64, 3) := by decide +kernel
theorem d_Law_law_891 : decode code 891 = .ok (.aload_n 2, 1) := by decide +kernel
theorem d_Law_law_892 : decode code 892 = .ok (.aload_n 0, 1) := by decide +kernel
theorem d_Law_law_893 : decode code 893 = .ok (.iload_n 3, 1) := by decide +kernel
theorem d_Law_law_894 : decode code 894 = .ok (.iconst 1, 1) := by decide +kernel
theorem d_Law_law_895 : decode code 895 = .ok (.iadd, 1) := by decide +kernel
theorem d_Law_law_896 : decode code 896 = .ok (.iaload, 1) := by decide +kernel
theorem d_Law_law_897 : decode code 897 = .ok (.aload_n 0, 1) := by decide +kernel
theorem d_Law_law_898 : decode code 898 = .ok (.iload_n 3, 1) := by decide +kernel
theorem d_Law_law_899 : decode code 899 = .ok (.iconst 2, 1) := by decide +kernel
theorem d_Law_law_900 : decode code 900 = .ok (.iadd, 1) := by decide +kernel
theorem d_Law_law_901 : decode code 901 = .ok (.iaload, 1) := by decide +kernel
theorem d_Law_law_902 : decode code 902 = .ok (.aload_n 0, 1) := by decide +kernel
theorem d_Law_law_903 : decode code 903 = .ok (.iload_n 3, 1) := by decide +kernel
theorem d_Law_law_904 : decode code 904 = .ok (.iconst 3, 1) := by decide +kernel
theorem d_Law_law_905 : decode code 905 = .ok (.iadd, 1) := by decide +kernel
theorem d_Law_law_906 : decode code 906 = .ok (.iaload, 1) := by decide +kernel
theorem d_Law_law_907 : decode code 907 = .ok (.invokevirtual 67, 3) := by decide +kernel
theorem d_Law_law_910 : decode code 910 = .ok (.if_icmp .eq 474, 3) := by decide +kernel
theorem d_Law_law_913 : decode code 913 = .ok (.iconst 0, 1) := by decide +kernel
theorem d_Law_law_914 : decode code 914 = .ok (.ireturn, 1) := by decide +kernel
theorem d_Law_law_915 : decode code 915 = .ok (.aload_n 1, 1) := by decide +kernel
theorem d_Law_law_916 : decode code 916 = .ok (.aload_n 0, 1) := by decide +kernel
theorem d_Law_law_917 : decode code 917 = .ok (.iload_n 3, 1) := by decide +kernel
theorem d_Law_law_918 : decode code 918 = .ok (.iconst 1, 1) := by decide +kernel
theorem d_Law_law_919 : decode code 919 = .ok (.iadd, 1) := by decide +kernel
theorem d_Law_law_920 : decode code 920 = .ok (.iaload, 1) := by decide +kernel
theorem d_Law_law_921 : decode code 921 = .ok (.aload_n 0, 1) := by decide +kernel
theorem d_Law_law_922 : decode code 922 = .ok (.iload_n 3, 1) := by decide +kernel
theorem d_Law_law_923 : decode code 923 = .ok (.iconst 2, 1) := by decide +kernel
theorem d_Law_law_924 : decode code 924 = .ok (.iadd, 1) := by decide +kernel
theorem d_Law_law_925 : decode code 925 = .ok (.iaload, 1) := by decide +kernel
theorem d_Law_law_926 : decode code 926 = .ok (.aload_n 0, 1) := by decide +kernel
theorem d_Law_law_927 : decode code 927 = .ok (.iload_n 3, 1) := by decide +kernel
theorem d_Law_law_928 : decode code 928 = .ok (.iconst 3, 1) := by decide +kernel
theorem d_Law_law_929 : decode code 929 = .ok (.iadd, 1) := by decide +kernel
theorem d_Law_law_930 : decode code 930 = .ok (.iaload, 1) := by decide +kernel
theorem d_Law_law_931 : decode code 931 = .ok (.aload_n 0, 1) := by decide +kernel
theorem d_Law_law_932 : decode code 932 = .ok (.iload_n 3, 1) := by decide +kernel
theorem d_Law_law_933 : decode code 933 = .ok (.iconst 4, 1) := by decide +kernel
theorem d_Law_law_934 : decode code 934 = .ok (.iadd, 1) := by decide +kernel
theorem d_Law_law_935 : decode code 935 = .ok (.iaload, 1) := by decide +kernel
theorem d_Law_law_936 : decode code 936 = .ok (.invokevirtual 68, 3) := by decide +kernel
theorem d_Law_law_939 : decode code 939 = .ok (.aload_n 2, 1) := by decide +kernel
theorem d_Law_law_940 : decode code 940 = .ok (.aload_n 0, 1) := by decide +kernel
theorem d_Law_law_941 : decode code 941 = .ok (.iload_n 3, 1) := by decide +kernel
theorem d_Law_law_942 : decode code 942 = .ok (.iconst 1, 1) := by decide +kernel
theorem d_Law_law_943 : decode code 943 = .ok (.iadd, 1) := by decide +kernel
theorem d_Law_law_944 : decode code 944 = .ok (.iaload, 1) := by decide +kernel
theorem d_Law_law_945 : decode code 945 = .ok (.aload_n 0, 1) := by decide +kernel
theorem d_Law_law_946 : decode code 946 = .ok (.iload_n 3, 1) := by decide +kernel
theorem d_Law_law_947 : decode code 947 = .ok (.iconst 2, 1) := by decide +kernel
theorem d_Law_law_948 : decode code 948 = .ok (.iadd, 1) := by decide +kernel
theorem d_Law_law_949 : decode code 949 = .ok (.iaload, 1) := by decide +kernel
theorem d_Law_law_950 : decode code 950 = .ok (.aload_n 0, 1) := by decide +kernel
theorem d_Law_law_951 : decode code 951 = .ok (.iload_n 3, 1) := by decide +kernel
theorem d_Law_law_952 : decode code 952 = .ok (.iconst 3, 1) := by decide +kernel
theorem d_Law_law_953 : decode code 953 = .ok (.iadd, 1) := by decide +kernel
theorem d_Law_law_954 : decode code 954 = .ok (.iaload, 1) := by decide +kernel
theorem d_Law_law_955 : decode code 955 = .ok (.aload_n 0, 1) := by decide +kernel
theorem d_Law_law_956 : decode code 956 = .ok (.iload_n 3, 1) := by decide +kernel
theorem d_Law_law_957 : decode code 957 = .ok (.iconst 4, 1) := by decide +kernel
theorem d_Law_law_958 : decode code 958 = .ok (.iadd, 1) := by decide +kernel
theorem d_Law_law_959 : decode code 959 = .ok (.iaload, 1) := by decide +kernel
theorem d_Law_law_960 : decode code 960 = .ok (.invokevirtual 72, 3) := by decide +kernel
theorem d_Law_law_963 : decode code 963 = .ok (.if_icmp .eq 421, 3) := by decide +kernel
theorem d_Law_law_966 : decode code 966 = .ok (.iconst 0, 1) := by decide +kernel
theorem d_Law_law_967 : decode code 967 = .ok (.ireturn, 1) := by decide +kernel
theorem d_Law_law_968 : decode code 968 = .ok (.aload_n 1, 1) := by decide +kernel
theorem d_Law_law_969 : decode code 969 = .ok (.aload_n 0, 1) := by decide +kernel
theorem d_Law_law_970 : decode code 970 = .ok (.iload_n 3, 1) := by decide +kernel
theorem d_Law_law_971 : decode code 971 = .ok (.iconst 1, 1) := by decide +kernel
theorem d_Law_law_972 : decode code 972 = .ok (.iadd, 1) := by decide +kernel
theorem d_Law_law_973 : decode code 973 = .ok (.iaload, 1) := by decide +kernel
theorem d_Law_law_974 : decode code 974 = .ok (.aload_n 0, 1) := by decide +kernel
theorem d_Law_law_975 : decode code 975 = .ok (.iload_n 3, 1) := by decide +kernel
theorem d_Law_law_976 : decode code 976 = .ok (.iconst 2, 1) := by decide +kernel
theorem d_Law_law_977 : decode code 977 = .ok (.iadd, 1) := by decide +kernel
theorem d_Law_law_978 : decode code 978 = .ok (.iaload, 1) := by decide +kernel
theorem d_Law_law_979 : decode code 979 = .ok (.invokevirtual 73, 3) := by decide +kernel
theorem d_Law_law_982 : decode code 982 = .ok (.aload_n 2, 1) := by decide +kernel
theorem d_Law_law_983 : decode code 983 = .ok (.aload_n 0, 1) := by decide +kernel
theorem d_Law_law_984 : decode code 984 = .ok (.iload_n 3, 1) := by decide +kernel
theorem d_Law_law_985 : decode code 985 = .ok (.iconst 1, 1) := by decide +kernel
theorem d_Law_law_986 : decode code 986 = .ok (.iadd, 1) := by decide +kernel
theorem d_Law_law_987 : decode code 987 = .ok (.iaload, 1) := by decide +kernel
theorem d_Law_law_988 : decode code 988 = .ok (.aload_n 0, 1) := by decide +kernel
theorem d_Law_law_989 : decode code 989 = .ok (.iload_n 3, 1) := by decide +kernel
theorem d_Law_law_990 : decode code 990 = .ok (.iconst 2, 1) := by decide +kernel
theorem d_Law_law_991 : decode code 991 = .ok (.iadd, 1) := by decide +kernel
theorem d_Law_law_992 : decode code 992 = .ok (.iaload, 1) := by decide +kernel
theorem d_Law_law_993 : decode code 993 = .ok (.invokevirtual 77, 3) := by decide +kernel
theorem d_Law_law_996 : decode code 996 = .ok (.if_icmp .eq 388, 3) := by decide +kernel
theorem d_Law_law_999 : decode code 999 = .ok (.iconst 0, 1) := by decide +kernel
theorem d_Law_law_1000 : decode code 1000 = .ok (.ireturn, 1) := by decide +kernel
theorem d_Law_law_1001 : decode code 1001 = .ok (.aload_n 1, 1) := by decide +kernel
theorem d_Law_law_1002 : decode code 1002 = .ok (.aload_n 0, 1) := by decide +kernel
theorem d_Law_law_1003 : decode code 1003 = .ok (.iload_n 3, 1) := by decide +kernel
theorem d_Law_law_1004 : decode code 1004 = .ok (.iconst 1, 1) := by decide +kernel
theorem d_Law_law_1005 : decode code 1005 = .ok (.iadd, 1) := by decide +kernel
theorem d_Law_law_1006 : decode code 1006 = .ok (.iaload, 1) := by decide +kernel
theorem d_Law_law_1007 : decode code 1007 = .ok (.invokevirtual 78, 3) := by decide +kernel
theorem d_Law_law_1010 : decode code 1010 = .ok (.aload_n 2, 1) := by decide +kernel
theorem d_Law_law_1011 : decode code 1011 = .ok (.aload_n 0, 1) := by decide +kernel
theorem d_Law_law_1012 : decode code 1012 = .ok (.iload_n 3, 1) := by decide +kernel
theorem d_Law_law_1013 : decode code 1013 = .ok (.iconst 1, 1) := by decide +kernel
theorem d_Law_law_1014 : decode code 1014 = .ok (.iadd, 1) := by decide +kernel
theorem d_Law_law_1015 : decode code 1015 = .ok (.iaload, 1) := by decide +kernel
theorem d_Law_law_1016 : decode code 1016 = .ok (.invokevirtual 81, 3) := by decide +kernel
theorem d_Law_law_1019 : decode code 1019 = .ok (.if_icmp .eq 365, 3) := by decide +kernel
theorem d_Law_law_1022 : decode code 1022 = .ok (.iconst 0, 1) := by decide +kernel
theorem d_Law_law_1023 : decode code 1023 = .ok (.ireturn, 1) := by decide +kernel
theorem d_Law_law_1024 : decode code 1024 = .ok (.aload_n 1, 1) := by decide +kernel
theorem d_Law_law_1025 : decode code 1025 = .ok (.aload_n 0, 1) := by decide +kernel
theorem d_Law_law_1026 : decode code 1026 = .ok (.iload_n 3, 1) := by decide +kernel
theorem d_Law_law_1027 : decode code 1027 = .ok (.iconst 1, 1) := by decide +kernel
theorem d_Law_law_1028 : decode code 1028 = .ok (.iadd, 1) := by decide +kernel
theorem d_Law_law_1029 : decode code 1029 = .ok (.iaload, 1) := by decide +kernel
theorem d_Law_law_1030 : decode code 1030 = .ok (.invokevirtual 82, 3) := by decide +kernel
theorem d_Law_law_1033 : decode code 1033 = .ok (.aload_n 2, 1) := by decide +kernel
theorem d_Law_law_1034 : decode code 1034 = .ok (.aload_n 0, 1) := by decide +kernel
theorem d_Law_law_1035 : decode code 1035 = .ok (.iload_n 3, 1) := by decide +kernel
theorem d_Law_law_1036 : decode code 1036 = .ok (.iconst 1, 1) := by decide +kernel
theorem d_Law_law_1037 : decode code 1037 = .ok (.iadd, 1) := by decide +kernel
theorem d_Law_law_1038 : decode code 1038 = .ok (.iaload, 1) := by decide +kernel
theorem d_Law_law_1039 : decode code 1039 = .ok (.invokevirtual 86, 3) := by decide +kernel
theorem d_Law_law_1042 : decode code 1042 = .ok (.if_icmp .eq 342, 3) := by decide +kernel
theorem d_Law_law_1045 : decode code 1045 = .ok (.iconst 0, 1) := by decide +kernel
theorem d_Law_law_1046 : decode code 1046 = .ok (.ireturn, 1) := by decide +kernel
theorem d_Law_law_1047 : decode code 1047 = .ok (.aload_n 1, 1) := by decide +kernel
theorem d_Law_law_1048 : decode code 1048 = .ok (.aload_n 0, 1) := by decide +kernel
theorem d_Law_law_1049 : decode code 1049 = .ok (.iload_n 3, 1) := by decide +kernel
theorem d_Law_law_1050 : decode code 1050 = .ok (.iconst 1, 1) := by decide +kernel
theorem d_Law_law_1051 : decode code 1051 = .ok (.iadd, 1) := by decide +kernel
theorem d_Law_law_1052 : decode code 1052 = .ok (.iaload, 1) := by decide +kernel
theorem d_Law_law_1053 : decode code 1053 = .ok (.aload_n 0, 1) := by decide +kernel
theorem d_Law_law_1054 : decode code 1054 = .ok (.iload_n 3, 1) := by decide +kernel
theorem d_Law_law_1055 : decode code 1055 = .ok (.iconst 2, 1) := by decide +kernel
theorem d_Law_law_1056 : decode code 1056 = .ok (.iadd, 1) := by decide +kernel
theorem d_Law_law_1057 : decode code 1057 = .ok (.iaload, 1) := by decide +kernel
theorem d_Law_law_1058 : decode code 1058 = .ok (.i2l, 1) := by decide +kernel
theorem d_Law_law_1059 : decode code 1059 = .ok (.bipush 32, 2) := by decide +kernel
theorem d_Law_law_1061 : decode code 1061 = .ok (.lshl, 1) := by decide +kernel
theorem d_Law_law_1062 : decode code 1062 = .ok (.aload_n 0, 1) := by decide +kernel
theorem d_Law_law_1063 : decode code 1063 = .ok (.iload_n 3, 1) := by decide +kernel
theorem d_Law_law_1064 : decode code 1064 = .ok (.iconst 3, 1) := by decide +kernel
theorem d_Law_law_1065 : decode code 1065 = .ok (.iadd, 1) := by decide +kernel
theorem d_Law_law_1066 : decode code 1066 = .ok (.iaload, 1) := by decide +kernel
theorem d_Law_law_1067 : decode code 1067 = .ok (.i2l, 1) := by decide +kernel
theorem d_Law_law_1068 : decode code 1068 = .ok (.ldc2_w 18, 3) := by decide +kernel
theorem d_Law_law_1071 : decode code 1071 = .ok (.land, 1) := by decide +kernel
theorem d_Law_law_1072 : decode code 1072 = .ok (.lor, 1) := by decide +kernel
theorem d_Law_law_1073 : decode code 1073 = .ok (.invokevirtual 87, 3) := by decide +kernel
theorem d_Law_law_1076 : decode code 1076 = .ok (.aload_n 2, 1) := by decide +kernel
theorem d_Law_law_1077 : decode code 1077 = .ok (.aload_n 0, 1) := by decide +kernel
theorem d_Law_law_1078 : decode code 1078 = .ok (.iload_n 3, 1) := by decide +kernel
theorem d_Law_law_1079 : decode code 1079 = .ok (.iconst 1, 1) := by decide +kernel
theorem d_Law_law_1080 : decode code 1080 = .ok (.iadd, 1) := by decide +kernel
theorem d_Law_law_1081 : decode code 1081 = .ok (.iaload, 1) := by decide +kernel
theorem d_Law_law_1082 : decode code 1082 = .ok (.aload_n 0, 1) := by decide +kernel
theorem d_Law_law_1083 : decode code 1083 = .ok (.iload_n 3, 1) := by decide +kernel
theorem d_Law_law_1084 : decode code 1084 = .ok (.iconst 2, 1) := by decide +kernel
theorem d_Law_law_1085 : decode code 1085 = .ok (.iadd, 1) := by decide +kernel
theorem d_Law_law_1086 : decode code 1086 = .ok (.iaload, 1) := by decide +kernel
theorem d_Law_law_1087 : decode code 1087 = .ok (.i2l, 1) := by decide +kernel
theorem d_Law_law_1088 : decode code 1088 = .ok (.bipush 32, 2) := by decide +kernel
theorem d_Law_law_1090 : decode code 1090 = .ok (.lshl, 1) := by decide +kernel
theorem d_Law_law_1091 : decode code 1091 = .ok (.aload_n 0, 1) := by decide +kernel
theorem d_Law_law_1092 : decode code 1092 = .ok (.iload_n 3, 1) := by decide +kernel
theorem d_Law_law_1093 : decode code 1093 = .ok (.iconst 3, 1) := by decide +kernel
theorem d_Law_law_1094 : decode code 1094 = .ok (.iadd, 1) := by decide +kernel
theorem d_Law_law_1095 : decode code 1095 = .ok (.iaload, 1) := by decide +kernel
theorem d_Law_law_1096 : decode code 1096 = .ok (.i2l, 1) := by decide +kernel
theorem d_Law_law_1097 : decode code 1097 = .ok (.ldc2_w 18, 3) := by decide +kernel
theorem d_Law_law_1100 : decode code 1100 = .ok (.land, 1) := by decide +kernel
theorem d_Law_law_1101 : decode code 1101 = .ok (.lor, 1) := by decide +kernel
theorem d_Law_law_1102 : decode code 1102 = .ok (.invokevirtual 91, 3) := by decide +kernel
theorem d_Law_law_1105 : decode code 1105 = .ok (.if_icmp .eq 279, 3) := by decide +kernel
theorem d_Law_law_1108 : decode code 1108 = .ok (.iconst 0, 1) := by decide +kernel
theorem d_Law_law_1109 : decode code 1109 = .ok (.ireturn, 1) := by decide +kernel
theorem d_Law_law_1110 : decode code 1110 = .ok (.aload_n 1, 1) := by decide +kernel
theorem d_Law_law_1111 : decode code 1111 = .ok (.aload_n 0, 1) := by decide +kernel
theorem d_Law_law_1112 : decode code 1112 = .ok (.iload_n 3, 1) := by decide +kernel
theorem d_Law_law_1113 : decode code 1113 = .ok (.iconst 1, 1) := by decide +kernel
theorem d_Law_law_1114 : decode code 1114 = .ok (.iadd, 1) := by decide +kernel
theorem d_Law_law_1115 : decode code 1115 = .ok (.iaload, 1) := by decide +kernel
theorem d_Law_law_1116 : decode code 1116 = .ok (.aload_n 0, 1) := by decide +kernel
theorem d_Law_law_1117 : decode code 1117 = .ok (.iload_n 3, 1) := by decide +kernel
theorem d_Law_law_1118 : decode code 1118 = .ok (.iconst 2, 1) := by decide +kernel
theorem d_Law_law_1119 : decode code 1119 = .ok (.iadd, 1) := by decide +kernel
theorem d_Law_law_1120 : decode code 1120 = .ok (.iaload, 1) := by decide +kernel
theorem d_Law_law_1121 : decode code 1121 = .ok (.invokevirtual 92, 3) := by decide +kernel
theorem d_Law_law_1124 : decode code 1124 = .ok (.aload_n 2, 1) := by decide +kernel
theorem d_Law_law_1125 : decode code 1125 = .ok (.aload_n 0, 1) := by decide +kernel
theorem d_Law_law_1126 : decode code 1126 = .ok (.iload_n 3, 1) := by decide +kernel
theorem d_Law_law_1127 : decode code 1127 = .ok (.iconst 1, 1) := by decide +kernel
theorem d_Law_law_1128 : decode code 1128 = .ok (.iadd, 1) := by decide +kernel
theorem d_Law_law_1129 : decode code 1129 = .ok (.iaload, 1) := by decide +kernel
theorem d_Law_law_1130 : decode code 1130 = .ok (.aload_n 0, 1) := by decide +kernel
theorem d_Law_law_1131 : decode code 1131 = .ok (.iload_n 3, 1) := by decide +kernel
theorem d_Law_law_1132 : decode code 1132 = .ok (.iconst 2, 1) := by decide +kernel
theorem d_Law_law_1133 : decode code 1133 = .ok (.iadd, 1) := by decide +kernel
theorem d_Law_law_1134 : decode code 1134 = .ok (.iaload, 1) := by decide +kernel
theorem d_Law_law_1135 : decode code 1135 = .ok (.invokevirtual 96, 3) := by decide +kernel
theorem d_Law_law_1138 : decode code 1138 = .ok (.lcmp, 1) := by decide +kernel
theorem d_Law_law_1139 : decode code 1139 = .ok (.ifCond .eq 245, 3) := by decide +kernel
theorem d_Law_law_1142 : decode code 1142 = .ok (.iconst 0, 1) := by decide +kernel
theorem d_Law_law_1143 : decode code 1143 = .ok (.ireturn, 1) := by decide +kernel
theorem d_Law_law_1144 : decode code 1144 = .ok (.aload_n 1, 1) := by decide +kernel
theorem d_Law_law_1145 : decode code 1145 = .ok (.aload_n 0, 1) := by decide +kernel
theorem d_Law_law_1146 : decode code 1146 = .ok (.iload_n 3, 1) := by decide +kernel
theorem d_Law_law_1147 : decode code 1147 = .ok (.iconst 1, 1) := by decide +kernel
theorem d_Law_law_1148 : decode code 1148 = .ok (.iadd, 1) := by decide +kernel
theorem d_Law_law_1149 : decode code 1149 = .ok (.iaload, 1) := by decide +kernel
theorem d_Law_law_1150 : decode code 1150 = .ok (.aload_n 0, 1) := by decide +kernel
theorem d_Law_law_1151 : decode code 1151 = .ok (.iload_n 3, 1) := by decide +kernel
theorem d_Law_law_1152 : decode code 1152 = .ok (.iconst 2, 1) := by decide +kernel
theorem d_Law_law_1153 : decode code 1153 = .ok (.iadd, 1) := by decide +kernel
theorem d_Law_law_1154 : decode code 1154 = .ok (.iaload, 1) := by decide +kernel
theorem d_Law_law_1155 : decode code 1155 = .ok (.i2l, 1) := by decide +kernel
theorem d_Law_law_1156 : decode code 1156 = .ok (.bipush 32, 2) := by decide +kernel
theorem d_Law_law_1158 : decode code 1158 = .ok (.lshl, 1) := by decide +kernel
theorem d_Law_law_1159 : decode code 1159 = .ok (.aload_n 0, 1) := by decide +kernel
theorem d_Law_law_1160 : decode code 1160 = .ok (.iload_n 3, 1) := by decide +kernel
theorem d_Law_law_1161 : decode code 1161 = .ok (.iconst 3, 1) := by decide +kernel
theorem d_Law_law_1162 : decode code 1162 = .ok (.iadd, 1) := by decide +kernel
theorem d_Law_law_1163 : decode code 1163 = .ok (.iaload, 1) := by decide +kernel
theorem d_Law_law_1164 : decode code 1164 = .ok (.i2l, 1) := by decide +kernel
theorem d_Law_law_1165 : decode code 1165 = .ok (.ldc2_w 18, 3) := by decide +kernel
theorem d_Law_law_1168 : decode code 1168 = .ok (.land, 1) := by decide +kernel
theorem d_Law_law_1169 : decode code 1169 = .ok (.lor, 1) := by decide +kernel
theorem d_Law_law_1170 : decode code 1170 = .ok (.aload_n 0, 1) := by decide +kernel
theorem d_Law_law_1171 : decode code 1171 = .ok (.iload_n 3, 1) := by decide +kernel
theorem d_Law_law_1172 : decode code 1172 = .ok (.iconst 4, 1) := by decide +kernel
theorem d_Law_law_1173 : decode code 1173 = .ok (.iadd, 1) := by decide +kernel
theorem d_Law_law_1174 : decode code 1174 = .ok (.iaload, 1) := by decide +kernel
theorem d_Law_law_1175 : decode code 1175 = .ok (.i2l, 1) := by decide +kernel
theorem d_Law_law_1176 : decode code 1176 = .ok (.bipush 32, 2) := by decide +kernel
theorem d_Law_law_1178 : decode code 1178 = .ok (.lshl, 1) := by decide +kernel
theorem d_Law_law_1179 : decode code 1179 = .ok (.aload_n 0, 1) := by decide +kernel
theorem d_Law_law_1180 : decode code 1180 = .ok (.iload_n 3, 1) := by decide +kernel
theorem d_Law_law_1181 : decode code 1181 = .ok (.iconst 5, 1) := by decide +kernel
theorem d_Law_law_1182 : decode code 1182 = .ok (.iadd, 1) := by decide +kernel
theorem d_Law_law_1183 : decode code 1183 = .ok (.iaload, 1) := by decide +kernel
theorem d_Law_law_1184 : decode code 1184 = .ok (.i2l, 1) := by decide +kernel
theorem d_Law_law_1185 : decode code 1185 = .ok (.ldc2_w 18, 3) := by decide +kernel
theorem d_Law_law_1188 : decode code 1188 = .ok (.land, 1) := by decide +kernel
theorem d_Law_law_1189 : decode code 1189 = .ok (.lor, 1) := by decide +kernel
theorem d_Law_law_1190 : decode code 1190 = .ok (.invokevirtual 97, 3) := by decide +kernel
theorem d_Law_law_1193 : decode code 1193 = .ok (.aload_n 2, 1) := by decide +kernel
theorem d_Law_law_1194 : decode code 1194 = .ok (.aload_n 0, 1) := by decide +kernel
theorem d_Law_law_1195 : decode code 1195 = .ok (.iload_n 3, 1) := by decide +kernel
theorem d_Law_law_1196 : decode code 1196 = .ok (.iconst 1, 1) := by decide +kernel
theorem d_Law_law_1197 : decode code 1197 = .ok (.iadd, 1) := by decide +kernel
theorem d_Law_law_1198 : decode code 1198 = .ok (.iaload, 1) := by decide +kernel
theorem d_Law_law_1199 : decode code 1199 = .ok (.aload_n 0, 1) := by decide +kernel
theorem d_Law_law_1200 : decode code 1200 = .ok (.iload_n 3, 1) := by decide +kernel
theorem d_Law_law_1201 : decode code 1201 = .ok (.iconst 2, 1) := by decide +kernel
theorem d_Law_law_1202 : decode code 1202 = .ok (.iadd, 1) := by decide +kernel
theorem d_Law_law_1203 : decode code 1203 = .ok (.iaload, 1) := by decide +kernel
theorem d_Law_law_1204 : decode code 1204 = .ok (.i2l, 1) := by decide +kernel
theorem d_Law_law_1205 : decode code 1205 = .ok (.bipush 32, 2) := by decide +kernel
theorem d_Law_law_1207 : decode code 1207 = .ok (.lshl, 1) := by decide +kernel
theorem d_Law_law_1208 : decode code 1208 = .ok (.aload_n 0, 1) := by decide +kernel
theorem d_Law_law_1209 : decode code 1209 = .ok (.iload_n 3, 1) := by decide +kernel
theorem d_Law_law_1210 : decode code 1210 = .ok (.iconst 3, 1) := by decide +kernel
theorem d_Law_law_1211 : decode code 1211 = .ok (.iadd, 1) := by decide +kernel
theorem d_Law_law_1212 : decode code 1212 = .ok (.iaload, 1) := by decide +kernel
theorem d_Law_law_1213 : decode code 1213 = .ok (.i2l, 1) := by decide +kernel
theorem d_Law_law_1214 : decode code 1214 = .ok (.ldc2_w 18, 3) := by decide +kernel
theorem d_Law_law_1217 : decode code 1217 = .ok (.land, 1) := by decide +kernel
theorem d_Law_law_1218 : decode code 1218 = .ok (.lor, 1) := by decide +kernel
theorem d_Law_law_1219 : decode code 1219 = .ok (.aload_n 0, 1) := by decide +kernel
theorem d_Law_law_1220 : decode code 1220 = .ok (.iload_n 3, 1) := by decide +kernel
theorem d_Law_law_1221 : decode code 1221 = .ok (.iconst 4, 1) := by decide +kernel
theorem d_Law_law_1222 : decode code 1222 = .ok (.iadd, 1) := by decide +kernel
theorem d_Law_law_1223 : decode code 1223 = .ok (.iaload, 1) := by decide +kernel
theorem d_Law_law_1224 : decode code 1224 = .ok (.i2l, 1) := by decide +kernel
theorem d_Law_law_1225 : decode code 1225 = .ok (.bipush 32, 2) := by decide +kernel
theorem d_Law_law_1227 : decode code 1227 = .ok (.lshl, 1) := by decide +kernel
theorem d_Law_law_1228 : decode code 1228 = .ok (.aload_n 0, 1) := by decide +kernel
theorem d_Law_law_1229 : decode code 1229 = .ok (.iload_n 3, 1) := by decide +kernel
theorem d_Law_law_1230 : decode code 1230 = .ok (.iconst 5, 1) := by decide +kernel
theorem d_Law_law_1231 : decode code 1231 = .ok (.iadd, 1) := by decide +kernel
theorem d_Law_law_1232 : decode code 1232 = .ok (.iaload, 1) := by decide +kernel
theorem d_Law_law_1233 : decode code 1233 = .ok (.i2l, 1) := by decide +kernel
theorem d_Law_law_1234 : decode code 1234 = .ok (.ldc2_w 18, 3) := by decide +kernel
theorem d_Law_law_1237 : decode code 1237 = .ok (.land, 1) := by decide +kernel
theorem d_Law_law_1238 : decode code 1238 = .ok (.lor, 1) := by decide +kernel
theorem d_Law_law_1239 : decode code 1239 = .ok (.invokevirtual 101, 3) := by decide +kernel
theorem d_Law_law_1242 : decode code 1242 = .ok (.if_icmp .eq 142, 3) := by decide +kernel
theorem d_Law_law_1245 : decode code 1245 = .ok (.iconst 0, 1) := by decide +kernel
theorem d_Law_law_1246 : decode code 1246 = .ok (.ireturn, 1) := by decide +kernel
theorem d_Law_law_1247 : decode code 1247 = .ok (.aload_n 1, 1) := by decide +kernel
theorem d_Law_law_1248 : decode code 1248 = .ok (.aload_n 0, 1) := by decide +kernel
theorem d_Law_law_1249 : decode code 1249 = .ok (.iload_n 3, 1) := by decide +kernel
theorem d_Law_law_1250 : decode code 1250 = .ok (.iconst 1, 1) := by decide +kernel
theorem d_Law_law_1251 : decode code 1251 = .ok (.iadd, 1) := by decide +kernel
theorem d_Law_law_1252 : decode code 1252 = .ok (.iaload, 1) := by decide +kernel
theorem d_Law_law_1253 : decode code 1253 = .ok (.aload_n 0, 1) := by decide +kernel
theorem d_Law_law_1254 : decode code 1254 = .ok (.iload_n 3, 1) := by decide +kernel
theorem d_Law_law_1255 : decode code 1255 = .ok (.iconst 2, 1) := by decide +kernel
theorem d_Law_law_1256 : decode code 1256 = .ok (.iadd, 1) := by decide +kernel
theorem d_Law_law_1257 : decode code 1257 = .ok (.iaload, 1) := by decide +kernel
theorem d_Law_law_1258 : decode code 1258 = .ok (.i2l, 1) := by decide +kernel
theorem d_Law_law_1259 : decode code 1259 = .ok (.bipush 32, 2) := by decide +kernel
theorem d_Law_law_1261 : decode code 1261 = .ok (.lshl, 1) := by decide +kernel
theorem d_Law_law_1262 : decode code 1262 = .ok (.aload_n 0, 1) := by decide +kernel
theorem d_Law_law_1263 : decode code 1263 = .ok (.iload_n 3, 1) := by decide +kernel
theorem d_Law_law_1264 : decode code 1264 = .ok (.iconst 3, 1) := by decide +kernel
theorem d_Law_law_1265 : decode code 1265 = .ok (.iadd, 1) := by decide +kernel
theorem d_Law_law_1266 : decode code 1266 = .ok (.iaload, 1) := by decide +kernel
theorem d_Law_law_1267 : decode code 1267 = .ok (.i2l, 1) := by decide +kernel
theorem d_Law_law_1268 : decode code 1268 = .ok (.ldc2_w 18, 3) := by decide +kernel
theorem d_Law_law_1271 : decode code 1271 = .ok (.land, 1) := by decide +kernel
theorem d_Law_law_1272 : decode code 1272 = .ok (.lor, 1) := by decide +kernel
theorem d_Law_law_1273 : decode code 1273 = .ok (.aload_n 0, 1) := by decide +kernel
theorem d_Law_law_1274 : decode code 1274 = .ok (.iload_n 3, 1) := by decide +kernel
theorem d_Law_law_1275 : decode code 1275 = .ok (.iconst 4, 1) := by decide +kernel
theorem d_Law_law_1276 : decode code 1276 = .ok (.iadd, 1) := by decide +kernel
theorem d_Law_law_1277 : decode code 1277 = .ok (.iaload, 1) := by decide +kernel
theorem d_Law_law_1278 : decode code 1278 = .ok (.invokevirtual 102, 3) := by decide +kernel
theorem d_Law_law_1281 : decode code 1281 = .ok (.aload_n 2, 1) := by decide +kernel
theorem d_Law_law_1282 : decode code 1282 = .ok (.aload_n 0, 1) := by decide +kernel
theorem d_Law_law_1283 : decode code 1283 = .ok (.iload_n 3, 1) := by decide +kernel
theorem d_Law_law_1284 : decode code 1284 = .ok (.iconst 1, 1) := by decide +kernel
theorem d_Law_law_1285 : decode code 1285 = .ok (.iadd, 1) := by decide +kernel
theorem d_Law_law_1286 : decode code 1286 = .ok (.iaload, 1) := by decide +kernel
theorem d_Law_law_1287 : decode code 1287 = .ok (.aload_n 0, 1) := by decide +kernel
theorem d_Law_law_1288 : decode code 1288 = .ok (.iload_n 3, 1) := by decide +kernel
theorem d_Law_law_1289 : decode code 1289 = .ok (.iconst 2, 1) := by decide +kernel
theorem d_Law_law_1290 : decode code 1290 = .ok (.iadd, 1) := by decide +kernel
theorem d_Law_law_1291 : decode code 1291 = .ok (.iaload, 1) := by decide +kernel
theorem d_Law_law_1292 : decode code 1292 = .ok (.i2l, 1) := by decide +kernel
theorem d_Law_law_1293 : decode code 1293 = .ok (.bipush 32, 2) := by decide +kernel
theorem d_Law_law_1295 : decode code 1295 = .ok (.lshl, 1) := by decide +kernel
theorem d_Law_law_1296 : decode code 1296 = .ok (.aload_n 0, 1) := by decide +kernel
theorem d_Law_law_1297 : decode code 1297 = .ok (.iload_n 3, 1) := by decide +kernel
theorem d_Law_law_1298 : decode code 1298 = .ok (.iconst 3, 1) := by decide +kernel
theorem d_Law_law_1299 : decode code 1299 = .ok (.iadd, 1) := by decide +kernel
theorem d_Law_law_1300 : decode code 1300 = .ok (.iaload, 1) := by decide +kernel
theorem d_Law_law_1301 : decode code 1301 = .ok (.i2l, 1) := by decide +kernel
theorem d_Law_law_1302 : decode code 1302 = .ok (.ldc2_w 18, 3) := by decide +kernel
theorem d_Law_law_1305 : decode code 1305 = .ok (.land, 1) := by decide +kernel
theorem d_Law_law_1306 : decode code 1306 = .ok (.lor, 1) := by decide +kernel
theorem d_Law_law_1307 : decode code 1307 = .ok (.aload_n 0, 1) := by decide +kernel
theorem d_Law_law_1308 : decode code 1308 = .ok (.iload_n 3, 1) := by decide +kernel
theorem d_Law_law_1309 : decode code 1309 = .ok (.iconst 4, 1) := by decide +kernel
theorem d_Law_law_1310 : decode code 1310 = .ok (.iadd, 1) := by decide +kernel
theorem d_Law_law_1311 : decode code 1311 = .ok (.iaload, 1) := by decide +kernel
theorem d_Law_law_1312 : decode code 1312 = .ok (.invokevirtual 106, 3) := by decide +kernel
theorem d_Law_law_1315 : decode code 1315 = .ok (.lcmp, 1) := by decide +kernel
theorem d_Law_law_1316 : decode code 1316 = .ok (.ifCond .eq 68, 3) := by decide +kernel
theorem d_Law_law_1319 : decode code 1319 = .ok (.iconst 0, 1) := by decide +kernel
theorem d_Law_law_1320 : decode code 1320 = .ok (.ireturn, 1) := by decide +kernel
theorem d_Law_law_1321 : decode code 1321 = .ok (.aload_n 1, 1) := by decide +kernel
theorem d_Law_law_1322 : decode code 1322 = .ok (.aload_n 0, 1) := by decide +kernel
theorem d_Law_law_1323 : decode code 1323 = .ok (.iload_n 3, 1) := by decide +kernel
theorem d_Law_law_1324 : decode code 1324 = .ok (.iconst 1, 1) := by decide +kernel
theorem d_Law_law_1325 : decode code 1325 = .ok (.iadd, 1) := by decide +kernel
theorem d_Law_law_1326 : decode code 1326 = .ok (.iaload, 1) := by decide +kernel
theorem d_Law_law_1327 : decode code 1327 = .ok (.i2l, 1) := by decide +kernel
theorem d_Law_law_1328 : decode code 1328 = .ok (.bipush 32, 2) := by decide +kernel
theorem d_Law_law_1330 : decode code 1330 = .ok (.lshl, 1) := by decide +kernel
theorem d_Law_law_1331 : decode code 1331 = .ok (.aload_n 0, 1) := by decide +kernel
theorem d_Law_law_1332 : decode code 1332 = .ok (.iload_n 3, 1) := by decide +kernel
theorem d_Law_law_1333 : decode code 1333 = .ok (.iconst 2, 1) := by decide +kernel
theorem d_Law_law_1334 : decode code 1334 = .ok (.iadd, 1) := by decide +kernel
theorem d_Law_law_1335 : decode code 1335 = .ok (.iaload, 1) := by decide +kernel
theorem d_Law_law_1336 : decode code 1336 = .ok (.i2l, 1) := by decide +kernel
theorem d_Law_law_1337 : decode code 1337 = .ok (.ldc2_w 18, 3) := by decide +kernel
theorem d_Law_law_1340 : decode code 1340 = .ok (.land, 1) := by decide +kernel
theorem d_Law_law_1341 : decode code 1341 = .ok (.lor, 1) := by decide +kernel
theorem d_Law_law_1342 : decode code 1342 = .ok (.aload_n 0, 1) := by decide +kernel
theorem d_Law_law_1343 : decode code 1343 = .ok (.iload_n 3, 1) := by decide +kernel
theorem d_Law_law_1344 : decode code 1344 = .ok (.iconst 3, 1) := by decide +kernel
theorem d_Law_law_1345 : decode code 1345 = .ok (.iadd, 1) := by decide +kernel
theorem d_Law_law_1346 : decode code 1346 = .ok (.iaload, 1) := by decide +kernel
theorem d_Law_law_1347 : decode code 1347 = .ok (.invokevirtual 107, 3) := by decide +kernel
theorem d_Law_law_1350 : decode code 1350 = .ok (.aload_n 2, 1) := by decide +kernel
theorem d_Law_law_1351 : decode code 1351 = .ok (.aload_n 0, 1) := by decide +kernel
theorem d_Law_law_1352 : decode code 1352 = .ok (.iload_n 3, 1) := by decide +kernel
theorem d_Law_law_1353 : decode code 1353 = .ok (.iconst 1, 1) := by decide +kernel
theorem d_Law_law_1354 : decode code 1354 = .ok (.iadd, 1) := by decide +kernel
theorem d_Law_law_1355 : decode code 1355 = .ok (.iaload, 1) := by decide +kernel
theorem d_Law_law_1356 : decode code 1356 = .ok (.i2l, 1) := by decide +kernel
theorem d_Law_law_1357 : decode code 1357 = .ok (.bipush 32, 2) := by decide +kernel
theorem d_Law_law_1359 : decode code 1359 = .ok (.lshl, 1) := by decide +kernel
theorem d_Law_law_1360 : decode code 1360 = .ok (.aload_n 0, 1) := by decide +kernel
theorem d_Law_law_1361 : decode code 1361 = .ok (.iload_n 3, 1) := by decide +kernel
theorem d_Law_law_1362 : decode code 1362 = .ok (.iconst 2, 1) := by decide +kernel
theorem d_Law_law_1363 : decode code 1363 = .ok (.iadd, 1) := by decide +kernel
theorem d_Law_law_1364 : decode code 1364 = .ok (.iaload, 1) := by decide +kernel
theorem d_Law_law_1365 : decode code 1365 = .ok (.i2l, 1) := by decide +kernel
theorem d_Law_law_1366 : decode code 1366 = .ok (.ldc2_w 18, 3) := by decide +kernel
theorem d_Law_law_1369 : decode code 1369 = .ok (.land, 1) := by decide +kernel
theorem d_Law_law_1370 : decode code 1370 = .ok (.lor, 1) := by decide +kernel
theorem d_Law_law_1371 : decode code 1371 = .ok (.aload_n 0, 1) := by decide +kernel
theorem d_Law_law_1372 : decode code 1372 = .ok (.iload_n 3, 1) := by decide +kernel
theorem d_Law_law_1373 : decode code 1373 = .ok (.iconst 3, 1) := by decide +kernel
theorem d_Law_law_1374 : decode code 1374 = .ok (.iadd, 1) := by decide +kernel
theorem d_Law_law_1375 : decode code 1375 = .ok (.iaload, 1) := by decide +kernel
theorem d_Law_law_1376 : decode code 1376 = .ok (.invokevirtual 111, 3) := by decide +kernel
theorem d_Law_law_1379 : decode code 1379 = .ok (.if_icmp .eq 5, 3) := by decide +kernel
theorem d_Law_law_1382 : decode code 1382 = .ok (.iconst 0, 1) := by decide +kernel
theorem d_Law_law_1383 : decode code 1383 = .ok (.ireturn, 1) := by decide +kernel
theorem d_Law_law_1384 : decode code 1384 = .ok (.iinc 3 11, 3) := by decide +kernel
theorem d_Law_law_1387 : decode code 1387 = .ok (.goto (-1369), 3) := by decide +kernel
theorem d_Law_law_1390 : decode code 1390 = .ok (.iconst 1, 1) := by decide +kernel
theorem d_Law_law_1391 : decode code 1391 = .ok (.ireturn, 1) := by decide +kernel
