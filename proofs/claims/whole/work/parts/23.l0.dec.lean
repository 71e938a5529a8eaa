theorem d_L_cell_0 : decode method_2_code 0 = .ok (.iload_n 1, 1) := by decide +kernel
theorem d_L_cell_1 : decode method_2_code 1 = .ok (.aload_n 0, 1) := by decide +kernel
theorem d_L_cell_2 : decode method_2_code 2 = .ok (.arraylength, 1) := by decide +kernel
theorem d_L_cell_3 : decode method_2_code 3 = .ok (.if_icmp .ge 9, 3) := by decide +kernel
theorem d_L_cell_6 : decode method_2_code 6 = .ok (.aload_n 0, 1) := by decide +kernel
theorem d_L_cell_7 : decode method_2_code 7 = .ok (.iload_n 1, 1) := by decide +kernel
theorem d_L_cell_8 : decode method_2_code 8 = .ok (.iaload, 1) := by decide +kernel
theorem d_L_cell_9 : decode method_2_code 9 = .ok (.goto 4, 3) := by decide +kernel
theorem d_L_cell_12 : decode method_2_code 12 = .ok (.iconst 0, 1) := by decide +kernel
theorem d_L_cell_13 : decode method_2_code 13 = .ok (.ireturn, 1) := by decide +kernel
theorem d_L_law_0 : decode code 0 = .ok (.new 7, 3) := by decide +kernel
theorem d_L_law_3 : decode code 3 = .ok (.dup, 1) := by decide +kernel
theorem d_L_law_4 : decode code 4 = .ok (.aload_n 0, 1) := by decide +kernel
theorem d_L_law_5 : decode code 5 = .ok (.iconst 0, 1) := by decide +kernel
theorem d_L_law_6 : decode code 6 = .ok (.invokestatic 9, 3) := by decide +kernel
theorem d_L_law_9 : decode code 9 = .ok (.invokespecial 15, 3) := by decide +kernel
theorem d_L_law_12 : decode code 12 = .ok (.astore_n 1, 1) := by decide +kernel
theorem d_L_law_13 : decode code 13 = .ok (.new 18, 3) := by decide +kernel
theorem d_L_law_16 : decode code 16 = .ok (.dup, 1) := by decide +kernel
theorem d_L_law_17 : decode code 17 = .ok (.aload_n 0, 1) := by decide +kernel
theorem d_L_law_18 : decode code 18 = .ok (.iconst 0, 1) := by decide +kernel
theorem d_L_law_19 : decode code 19 = .ok (.invokestatic 9, 3) := by decide +kernel
theorem d_L_law_22 : decode code 22 = .ok (.invokespecial 20, 3) := by decide +kernel
theorem d_L_law_25 : decode code 25 = .ok (.astore_n 2, 1) := by decide +kernel
theorem d_L_law_26 : decode code 26 = .ok (.iconst 1, 1) := by decide +kernel
theorem d_L_law_27 : decode code 27 = .ok (.istore_n 3, 1) := by decide +kernel
theorem d_L_law_28 : decode code 28 = .ok (.iload_n 3, 1) := by decide +kernel
theorem d_L_law_29 : decode code 29 = .ok (.aload_n 0, 1) := by decide +kernel
theorem d_L_law_30 : decode code 30 = .ok (.arraylength, 1) := by decide +kernel
theorem d_L_law_31 : decode code 31 = .ok (.iconst 5, 1) := by decide +kernel
theorem d_L_law_32 : decode code 32 = .ok (.isub, 1) := by decide +kernel
theorem d_L_law_33 : decode code 33 = .ok (.if_icmp .gt 627, 3) := by decide +kernel
theorem d_L_law_36 : decode code 36 = .ok (.aload_n 0, 1) := by decide +kernel
theorem d_L_law_37 : decode code 37 = .ok (.iload_n 3, 1) := by decide +kernel
theorem d_L_law_38 : decode code 38 = .ok (.iaload, 1) := by decide +kernel
theorem d_L_law_39 : decode code 39 = .ok (.bipush 31, 2) := by decide +kernel
theorem d_L_law_41 : decode code 41 = .ok (.iand, 1) := by decide +kernel
theorem d_L_law_42 : decode code 42 = .ok (.tableswitch 612 0 19 #[94, 127, 150, 173, 206, 229, 242, 265, 278, 331, 354, 375, 388, 401, 424, 447, 480, 523, 546, 589], 94) := by decide +kernel
theorem d_L_law_136 : decode code 136 = .ok (.aload_n 1, 1) := by decide +kernel
theorem d_L_law_137 : decode code 137 = .ok (.aload_n 0, 1) := by decide +kernel
theorem d_L_law_138 : decode code 138 = .ok (.iload_n 3, 1) := by decide +kernel
theorem d_L_law_139 : decode code 139 = .ok (.iconst 1, 1) := by decide +kernel
theorem d_L_law_140 : decode code 140 = .ok (.iadd, 1) := by decide +kernel
theorem d_L_law_141 : decode code 141 = .ok (.iaload, 1) := by decide +kernel
theorem d_L_law_142 : decode code 142 = .ok (.aload_n 0, 1) := by decide +kernel
theorem d_L_law_143 : decode code 143 = .ok (.iload_n 3, 1) := by decide +kernel
theorem d_L_law_144 : decode code 144 = .ok (.iconst 2, 1) := by decide +kernel
theorem d_L_law_145 : decode code 145 = .ok (.iadd, 1) := by decide +kernel
theorem d_L_law_146 : decode code 146 = .ok (.iaload, 1) := by decide +kernel
theorem d_L_law_147 : decode code 147 = .ok (.invokevirtual 21, 3) := by decide +kernel
theorem d_L_law_150 : decode code 150 = .ok (.aload_n 2, 1) := by decide +kernel
theorem d_L_law_151 : decode code 151 = .ok (.aload_n 0, 1) := by decide +kernel
theorem d_L_law_152 : decode code 152 = .ok (.iload_n 3, 1) := by decide +kernel
theorem d_L_law_153 : decode code 153 = .ok (.iconst 1, 1) := by decide +kernel
theorem d_L_law_154 : decode code 154 = .ok (.iadd, 1) := by decide +kernel
theorem d_L_law_155 : decode code 155 = .ok (.iaload, 1) := by decide +kernel
theorem d_L_law_156 : decode code 156 = .ok (.aload_n 0, 1) := by decide +kernel
theorem d_L_law_157 : decode code 157 = .ok (.iload_n 3, 1) := by decide +kernel
theorem d_L_law_158 : decode code 158 = .ok (.iconst 2, 1) := by decide +kernel
theorem d_L_law_159 : decode code 159 = .ok (.iadd, 1) := by decide +kernel
theorem d_L_law_160 : decode code 160 = .ok (.iaload, 1) := by decide +kernel
theorem d_L_law_161 : decode code 161 = .ok (.invokevirtual 25, 3) := by decide +kernel
theorem d_L_law_164 : decode code 164 = .ok (.if_icmp .eq 490, 3) := by decide +kernel
theorem d_L_law_167 : decode code 167 = .ok (.iconst 0, 1) := by decide +kernel
theorem d_L_law_168 : decode code 168 = .ok (.ireturn, 1) := by decide +kernel
theorem d_L_law_169 : decode code 169 = .ok (.aload_n 1, 1) := by decide +kernel
theorem d_L_law_170 : decode code 170 = .ok (.aload_n 0, 1) := by decide +kernel
theorem d_L_law_171 : decode code 171 = .ok (.iload_n 3, 1) := by decide +kernel
theorem d_L_law_172 : decode code 172 = .ok (.iconst 1, 1) := by decide +kernel
theorem d_L_law_173 : decode code 173 = .ok (.iadd, 1) := by decide +kernel
theorem d_L_law_174 : decode code 174 = .ok (.iaload, 1) := by decide +kernel
theorem d_L_law_175 : decode code 175 = .ok (.invokevirtual 26, 3) := by decide +kernel
theorem d_L_law_178 : decode code 178 = .ok (.aload_n 2, 1) := by decide +kernel
theorem d_L_law_179 : decode code 179 = .ok (.aload_n 0, 1) := by decide +kernel
theorem d_L_law_180 : decode code 180 = .ok (.iload_n 3, 1) := by decide +kernel
theorem d_L_law_181 : decode code 181 = .ok (.iconst 1, 1) := by decide +kernel
theorem d_L_law_182 : decode code 182 = .ok (.iadd, 1) := by decide +kernel
theorem d_L_law_183 : decode code 183 = .ok (.iaload, 1) := by decide +kernel
theorem d_L_law_184 : decode code 184 = .ok (.invokevirtual 30, 3) := by decide +kernel
theorem d_L_law_187 : decode code 187 = .ok (.if_icmp .eq 467, 3) := by decide +kernel
theorem d_L_law_190 : decode code 190 = .ok (.iconst 0, 1) := by decide +kernel
theorem d_L_law_191 : decode code 191 = .ok (.ireturn, 1) := by decide +kernel
theorem d_L_law_192 : decode code 192 = .ok (.aload_n 1, 1) := by decide +kernel
theorem d_L_law_193 : decode code 193 = .ok (.aload_n 0, 1) := by decide +kernel
theorem d_L_law_194 : decode code 194 = .ok (.iload_n 3, 1) := by decide +kernel
theorem d_L_law_195 : decode code 195 = .ok (.iconst 1, 1) := by decide +kernel
theorem d_L_law_196 : decode code 196 = .ok (.iadd, 1) := by decide +kernel
theorem d_L_law_197 : decode code 197 = .ok (.iaload, 1) := by decide +kernel
theorem d_L_law_198 : decode code 198 = .ok (.invokevirtual 31, 3) := by decide +kernel
theorem d_L_law_201 : decode code 201 = .ok (.aload_n 2, 1) := by decide +kernel
theorem d_L_law_202 : decode code 202 = .ok (.aload_n 0, 1) := by decide +kernel
theorem d_L_law_203 : decode code 203 = .ok (.iload_n 3, 1) := by decide +kernel
theorem d_L_law_204 : decode code 204 = .ok (.iconst 1, 1) := by decide +kernel
theorem d_L_law_205 : decode code 205 = .ok (.iadd, 1) := by decide +kernel
theorem d_L_law_206 : decode code 206 = .ok (.iaload, 1) := by decide +kernel
theorem d_L_law_207 : decode code 207 = .ok (.invokevirtual 34, 3) := by decide +kernel
theorem d_L_law_210 : decode code 210 = .ok (.if_icmp .eq 444, 3) := by decide +kernel
theorem d_L_law_213 : decode code 213 = .ok (.iconst 0, 1) := by decide +kernel
theorem d_L_law_214 : decode code 214 = .ok (.ireturn, 1) := by decide +kernel
theorem d_L_law_215 : decode code 215 = .ok (.aload_n 1, 1) := by decide +kernel
theorem d_L_law_216 : decode code 216 = .ok (.aload_n 0, 1) := by decide +kernel
theorem d_L_law_217 : decode code 217 = .ok (.iload_n 3, 1) := by decide +kernel
theorem d_L_law_218 : decode code 218 = .ok (.iconst 1, 1) := by decide +kernel
theorem d_L_law_219 : decode code 219 = .ok (.iadd, 1) := by decide +kernel
theorem d_L_law_220 : decode code 220 = .ok (.iaload, 1) := by decide +kernel
theorem d_L_law_221 : decode code 221 = .ok (.aload_n 0, 1) := by decide +kernel
theorem d_L_law_222 : decode code 222 = .ok (.iload_n 3, 1) := by decide +kernel
theorem d_L_law_223 : decode code 223 = .ok (.iconst 2, 1) := by decide +kernel
theorem d_L_law_224 : decode code 224 = .ok (.iadd, 1) := by decide +kernel
theorem d_L_law_225 : decode code 225 = .ok (.iaload, 1) := by decide +kernel
theorem d_L_law_226 : decode code 226 = .ok (.invokevirtual 35, 3) := by decide +kernel
theorem d_L_law_229 : decode code 229 = .ok (.aload_n 2, 1) := by decide +kernel
theorem d_L_law_230 : decode code 230 = .ok (.aload_n 0, 1) := by decide +kernel
theorem d_L_law_231 : decode code 231 = .ok (.iload_n 3, 1) := by decide +kernel
theorem d_L_law_232 : decode code 232 = .ok (.iconst 1, 1) := by decide +kernel
theorem d_L_law_233 : decode code 233 = .ok (.iadd, 1) := by decide +kernel
theorem d_L_law_234 : decode code 234 = .ok (.iaload, 1) := by decide +kernel
theorem d_L_law_235 : decode code 235 = .ok (.aload_n 0, 1) := by decide +kernel
theorem d_L_law_236 : decode code 236 = .ok (.iload_n 3, 1) := by decide +kernel
theorem d_L_law_237 : decode code 237 = .ok (.iconst 2, 1) := by decide +kernel
theorem d_L_law_238 : decode code 238 = .ok (.iadd, 1) := by decide +kernel
theorem d_L_law_239 : decode code 239 = .ok (.iaload, 1) := by decide +kernel
theorem d_L_law_240 : decode code 240 = .ok (.invokevirtual 38, 3) := by decide +kernel
theorem d_L_law_243 : decode code 243 = .ok (.if_icmp .eq 411, 3) := by decide +kernel
theorem d_L_law_246 : decode code 246 = .ok (.iconst 0, 1) := by decide +kernel
theorem d_L_law_247 : decode code 247 = .ok (.ireturn, 1) := by decide +kernel
theorem d_L_law_248 : decode code 248 = .ok (.aload_n 1, 1) := by decide +kernel
theorem d_L_law_249 : decode code 249 = .ok (.aload_n 0, 1) := by decide +kernel
theorem d_L_law_250 : decode code 250 = .ok (.iload_n 3, 1) := by decide +kernel
theorem d_L_law_251 : decode code 251 = .ok (.iconst 1, 1) := by decide +kernel
theorem d_L_law_252 : decode code 252 = .ok (.iadd, 1) := by decide +kernel
theorem d_L_law_253 : decode code 253 = .ok (.iaload, 1) := by decide +kernel
theorem d_L_law_254 : decode code 254 = .ok (.invokevirtual 39, 3) := by decide +kernel
theorem d_L_law_257 : decode code 257 = .ok (.aload_n 2, 1) := by decide +kernel
theorem d_L_law_258 : decode code 258 = .ok (.aload_n 0, 1) := by decide +kernel
theorem d_L_law_259 : decode code 259 = .ok (.iload_n 3, 1) := by decide +kernel
theorem d_L_law_260 : decode code 260 = .ok (.iconst 1, 1) := by decide +kernel
theorem d_L_law_261 : decode code 261 = .ok (.iadd, 1) := by decide +kernel
theorem d_L_law_262 : decode code 262 = .ok (.iaload, 1) := by decide +kernel
theorem d_L_law_263 : decode code 263 = .ok (.invokevirtual 42, 3) := by decide +kernel
theorem d_L_law_266 : decode code 266 = .ok (.if_icmp .eq 388, 3) := by decide +kernel
theorem d_L_law_269 : decode code 269 = .ok (.iconst 0, 1) := by decide +kernel
theorem d_L_law_270 : decode code 270 = .ok (.ireturn, 1) := by decide +kernel
theorem d_L_law_271 : decode code 271 = .ok (.aload_n 1, 1) := by decide +kernel
theorem d_L_law_272 : decode code 272 = .ok (.invokevirtual 43, 3) := by decide +kernel
theorem d_L_law_275 : decode code 275 = .ok (.aload_n 2, 1) := by decide +kernel
theorem d_L_law_276 : decode code 276 = .ok (.invokevirtual 47, 3) := by decide +kernel
theorem d_L_law_279 : decode code 279 = .ok (.if_icmp .eq 375, 3) := by decide +kernel
theorem d_L_law_282 : decode code 282 = .ok (.iconst 0, 1) := by decide +kernel
theorem d_L_law_283 : decode code 283 = .ok (.ireturn, 1) := by decide +kernel
theorem d_L_law_284 : decode code 284 = .ok (.aload_n 1, 1) := by decide +kernel
theorem d_L_law_285 : decode code 285 = .ok (.aload_n 0, 1) := by decide +kernel
theorem d_L_law_286 : decode code 286 = .ok (.iload_n 3, 1) := by decide +kernel
theorem d_L_law_287 : decode code 287 = .ok (.iconst 1, 1) := by decide +kernel
theorem d_L_law_288 : decode code 288 = .ok (.iadd, 1) := by decide +kernel
theorem d_L_law_289 : decode code 289 = .ok (.iaload, 1) := by decide +kernel
theorem d_L_law_290 : decode code 290 = .ok (.invokevirtual 48, 3) := by decide +kernel
theorem d_L_law_293 : decode code 293 = .ok (.aload_n 2, 1) := by decide +kernel
theorem d_L_law_294 : decode code 294 = .ok (.aload_n 0, 1) := by decide +kernel
theorem d_L_law_295 : decode code 295 = .ok (.iload_n 3, 1) := by decide +kernel
theorem d_L_law_296 : decode code 296 = .ok (.iconst 1, 1) := by decide +kernel
theorem d_L_law_297 : decode code 297 = .ok (.iadd, 1) := by decide +kernel
theorem d_L_law_298 : decode code 298 = .ok (.iaload, 1) := by decide +kernel
theorem d_L_law_299 : decode code 299 = .ok (.invokevirtual 52, 3) := by decide +kernel
theorem d_L_law_302 : decode code 302 = .ok (.if_icmp .eq 352, 3) := by decide +kernel
theorem d_L_law_305 : decode code 305 = .ok (.iconst 0, 1) := by decide +kernel
theorem d_L_law_306 : decode code 306 = .ok (.ireturn, 1) := by decide +kernel
theorem d_L_law_307 : decode code 307 = .ok (.aload_n 1, 1) := by decide +kernel
theorem d_L_law_308 : decode code 308 = .ok (.invokevirtual 53, 3) := by decide +kernel
theorem d_L_law_311 : decode code 311 = .ok (.aload_n 2, 1) := by decide +kernel
theorem d_L_law_312 : decode code 312 = .ok (.invokevirtual 57, 3) := by decide +kernel
theorem d_L_law_315 : decode code 315 = .ok (.if_icmp .eq 339, 3) := by decide +kernel
theorem d_L_law_318 : decode code 318 = .ok (.iconst 0, 1) := by decide +kernel
theorem d_L_law_319 : decode code 319 = .ok (.ireturn, 1) := by decide +kernel
theorem d_L_law_320 : decode code 320 = .ok (.aload_n 1, 1) := by decide +kernel
theorem d_L_law_321 : decode code 321 = .ok (.aload_n 0, 1) := by decide +kernel
theorem d_L_law_322 : decode code 322 = .ok (.iload_n 3, 1) := by decide +kernel
theorem d_L_law_323 : decode code 323 = .ok (.iconst 1, 1) := by decide +kernel
theorem d_L_law_324 : decode code 324 = .ok (.iadd, 1) := by decide +kernel
theorem d_L_law_325 : decode code 325 = .ok (.iaload, 1) := by decide +kernel
theorem d_L_law_326 : decode code 326 = .ok (.aload_n 0, 1) := by decide +kernel
theorem d_L_law_327 : decode code 327 = .ok (.iload_n 3, 1) := by decide +kernel
theorem d_L_law_328 : decode code 328 = .ok (.iconst 2, 1) := by decide +kernel
theorem d_L_law_329 : decode code 329 = .ok (.iadd, 1) := by decide +kernel
theorem d_L_law_330 : decode code 330 = .ok (.iaload, 1) := by decide +kernel
theorem d_L_law_331 : decode code 331 = .ok (.aload_n 0, 1) := by decide +kernel
theorem d_L_law_332 : decode code 332 = .ok (.iload_n 3, 1) := by decide +kernel
theorem d_L_law_333 : decode code 333 = .ok (.iconst 3, 1) := by decide +kernel
theorem d_L_law_334 : decode code 334 = .ok (.iadd, 1) := by decide +kernel
theorem d_L_law_335 : decode code 335 = .ok (.iaload, 1) := by decide +kernel
theorem d_L_law_336 : decode code 336 = .ok (.aload_n 0, 1) := by decide +kernel
theorem d_L_law_337 : decode code 337 = .ok (.iload_n 3, 1) := by decide +kernel
theorem d_L_law_338 : decode code 338 = .ok (.iconst 4, 1) := by decide +kernel
theorem d_L_law_339 : decode code 339 = .ok (.iadd, 1) := by decide +kernel
theorem d_L_law_340 : decode code 340 = .ok (.iaload, 1) := by decide +kernel
theorem d_L_law_341 : decode code 341 = .ok (.invokevirtual 58, 3) := by decide +kernel
theorem d_L_law_344 : decode code 344 = .ok (.aload_n 2, 1) := by decide +kernel
theorem d_L_law_345 : decode code 345 = .ok (.aload_n 0, 1) := by decide +kernel
theorem d_L_law_346 : decode code 346 = .ok (.iload_n 3, 1) := by decide +kernel
theorem d_L_law_347 : decode code 347 = .ok (.iconst 1, 1) := by decide +kernel
theorem d_L_law_348 : decode code 348 = .ok (.iadd, 1) := by decide +kernel
theorem d_L_law_349 : decode code 349 = .ok (.iaload, 1) := by decide +kernel
theorem d_L_law_350 : decode code 350 = .ok (.aload_n 0, 1) := by decide +kernel
theorem d_L_law_351 : decode code 351 = .ok (.iload_n 3, 1) := by decide +kernel
theorem d_L_law_352 : decode code 352 = .ok (.iconst 2, 1) := by decide +kernel
theorem d_L_law_353 : decode code 353 = .ok (.iadd, 1) := by decide +kernel
theorem d_L_law_354 : decode code 354 = .ok (.iaload, 1) := by decide +kernel
theorem d_L_law_355 : decode code 355 = .ok (.aload_n 0, 1) := by decide +kernel
theorem d_L_law_356 : decode code 356 = .ok (.iload_n 3, 1) := by decide +kernel
theorem d_L_law_357 : decode code 357 = .ok (.iconst 3, 1) := by decide +kernel
theorem d_L_law_358 : decode code 358 = .ok (.iadd, 1) := by decide +kernel
theorem d_L_law_359 : decode code 359 = .ok (.iaload, 1) := by decide +kernel
theorem d_L_law_360 : decode code 360 = .ok (.aload_n 0, 1) := by decide +kernel
theorem d_L_law_361 : decode code 361 = .ok (.iload_n 3, 1) := by decide +kernel
theorem d_L_law_362 : decode code 362 = .ok (.iconst 4, 1) := by decide +kernel
theorem d_L_law_363 : decode code 363 = .ok (.iadd, 1) := by decide +kernel
theorem d_L_law_364 : decode code 364 = .ok (.iaload, 1) := by decide +kernel
theorem d_L_law_365 : decode code 365 = .ok (.invokevirtual 62, 3) := by decide +kernel
theorem d_L_law_368 : decode code 368 = .ok (.if_icmp .eq 286, 3) := by decide +kernel
theorem d_L_law_371 : decode code 371 = .ok (.iconst 0, 1) := by decide +kernel
theorem d_L_law_372 : decode code 372 = .ok (.ireturn, 1) := by decide +kernel
theorem d_L_law_373 : decode code 373 = .ok (.aload_n 1, 1) := by decide +kernel
theorem d_L_law_374 : decode code 374 = .ok (.aload_n 0, 1) := by decide +kernel
theorem d_L_law_375 : decode code 375 = .ok (.iload_n 3, 1) := by decide +kernel
theorem d_L_law_376 : decode code 376 = .ok (.iconst 1, 1) := by decide +kernel
theorem d_L_law_377 : decode code 377 = .ok (.iadd, 1) := by decide +kernel
theorem d_L_law_378 : decode code 378 = .ok (.iaload, 1) := by decide +kernel
theorem d_L_law_379 : decode code 379 = .ok (.invokevirtual 63, 3) := by decide +kernel
theorem d_L_law_382 : decode code 382 = .ok (.aload_n 2, 1) := by decide +kernel
theorem d_L_law_383 : decode code 383 = .ok (.aload_n 0, 1) := by decide +kernel
theorem d_L_law_384 : decode code 384 = .ok (.iload_n 3, 1) := by decide +kernel
theorem d_L_law_385 : decode code 385 = .ok (.iconst 1, 1) := by decide +kernel
theorem d_L_law_386 : decode code 386 = .ok (.iadd, 1) := by decide +kernel
theorem d_L_law_387 : decode code 387 = .ok (.iaload, 1) := by decide +kernel
theorem d_L_law_388 : decode code 388 = .ok (.invokevirtual 66, 3) := by decide +kernel
theorem d_L_law_391 : decode code 391 = .ok (.if_icmp .eq 263, 3) := by decide +kernel
theorem d_L_law_394 : decode code 394 = .ok (.iconst 0, 1) := by decide +kernel
theorem d_L_law_395 : decode code 395 = .ok (.ireturn, 1) := by decide +kernel
theorem d_L_law_396 : decode code 396 = .ok (.aload_n 1, 1) := by decide +kernel
theorem d_L_law_397 : decode code 397 = .ok (.aload_n 0, 1) := by decide +kernel
theorem d_L_law_398 : decode code 398 = .ok (.iload_n 3, 1) := by decide +kernel
theorem d_L_law_399 : decode code 399 = .ok (.iconst 1, 1) := by decide +kernel
theorem d_L_law_400 : decode code 400 = .ok (.iadd, 1) := by decide +kernel
theorem d_L_law_401 : decode code 401 = .ok (.iaload, 1) := by decide +kernel
theorem d_L_law_402 : decode code 402 = .ok (.invokevirtual 67, 3) := by decide +kernel
theorem d_L_law_405 : decode code 405 = .ok (.aload_n 2, 1) := by decide +kernel
theorem d_L_law_406 : decode code 406 = .ok (.aload_n 0, 1) := by decide +kernel
theorem d_L_law_407 : decode code 407 = .ok (.iload_n 3, 1) := by decide +kernel
theorem d_L_law_408 : decode code 408 = .ok (.iconst 1, 1) := by decide +kernel
theorem d_L_law_409 : decode code 409 = .ok (.iadd, 1) := by decide +kernel
theorem d_L_law_410 : decode code 410 = .ok (.iaload, 1) := by decide +kernel
theorem d_L_law_411 : decode code 411 = .ok (.invokevirtual 70, 3) := by decide +kernel
theorem d_L_law_414 : decode code 414 = .ok (.goto 240, 3) := by decide +kernel
theorem d_L_law_417 : decode code 417 = .ok (.aload_n 1, 1) := by decide +kernel
theorem d_L_law_418 : decode code 418 = .ok (.invokevirtual 71, 3) := by decide +kernel
theorem d_L_law_421 : decode code 421 = .ok (.aload_n 2, 1) := by decide +kernel
theorem d_L_law_422 : decode code 422 = .ok (.invokevirtual 74, 3) := by decide +kernel
theorem d_L_law_425 : decode code 425 = .ok (.if_icmp .eq 229, 3) := by decide +kernel
theorem d_L_law_428 : decode code 428 = .ok (.iconst 0, 1) := by decide +kernel
theorem d_L_law_429 : decode code 429 = .ok (.ireturn, 1) := by decide +kernel
theorem d_L_law_430 : decode code 430 = .ok (.aload_n 1, 1) := by decide +kernel
theorem d_L_law_431 : decode code 431 = .ok (.invokevirtual 75, 3) := by decide +kernel
theorem d_L_law_434 : decode code 434 = .ok (.aload_n 2, 1) := by decide +kernel
theorem d_L_law_435 : decode code 435 = .ok (.invokevirtual 78, 3) := by decide +kernel
theorem d_L_law_438 : decode code 438 = .ok (.if_icmp .eq 216, 3) := by decide +kernel
theorem d_L_law_441 : decode code 441 = .ok (.iconst 0, 1) := by decide +kernel
theorem d_L_law_442 : decode code 442 = .ok (.ireturn, 1) := by decide +kernel
theorem d_L_law_443 : decode code 443 = .ok (.aload_n 1, 1) := by decide +kernel
theorem d_L_law_444 : decode code 444 = .ok (.aload_n 0, 1) := by decide +kernel
theorem d_L_law_445 : decode code 445 = .ok (.iload_n 3, 1) := by decide +kernel
theorem d_L_law_446 : decode code 446 = .ok (.iconst 1, 1) := by decide +kernel
theorem d_L_law_447 : decode code 447 = .ok (.iadd, 1) := by decide +kernel
theorem d_L_law_448 : decode code 448 = .ok (.iaload, 1) := by decide +kernel
theorem d_L_law_449 : decode code 449 = .ok (.invokevirtual 79, 3) := by decide +kernel
theorem d_L_law_452 : decode code 452 = .ok (.aload_n 2, 1) := by decide +kernel
theorem d_L_law_453 : decode code 453 = .ok (.aload_n 0, 1) := by decide +kernel
theorem d_L_law_454 : decode code 454 = .ok (.iload_n 3, 1) := by decide +kernel
theorem d_L_law_455 : decode code 455 = .ok (.iconst 1, 1) := by decide +kernel
theorem d_L_law_456 : decode code 456 = .ok (.iadd, 1) := by decide +kernel
theorem d_L_law_457 : decode code 457 = .ok (.iaload, 1) := by decide +kernel
theorem d_L_law_458 : decode code 458 = .ok (.invokevirtual 82, 3) := by decide +kernel
theorem d_L_law_461 : decode code 461 = .ok (.if_icmp .eq 193, 3) := by decide +kernel
theorem d_L_law_464 : decode code 464 = .ok (.iconst 0, 1) := by decide +kernel
theorem d_L_law_465 : decode code 465 = .ok (.ireturn, 1) := by decide +kernel
theorem d_L_law_466 : decode code 466 = .ok (.aload_n 1, 1) := by decide +kernel
theorem d_L_law_467 : decode code 467 = .ok (.aload_n 0, 1) := by decide +kernel
theorem d_L_law_468 : decode code 468 = .ok (.iload_n 3, 1) := by decide +kernel
theorem d_L_law_469 : decode code 469 = .ok (.iconst 1, 1) := by decide +kernel
theorem d_L_law_470 : decode code 470 = .ok (.iadd, 1) := by decide +kernel
theorem d_L_law_471 : decode code 471 = .ok (.iaload, 1) := by decide +kernel
theorem d_L_law_472 : decode code 472 = .ok (.invokevirtual 83, 3) := by decide +kernel
theorem d_L_law_475 : decode code 475 = .ok (.aload_n 2, 1) := by decide +kernel
theorem d_L_law_476 : decode code 476 = .ok (.aload_n 0, 1) := by decide +kernel
theorem d_L_law_477 : decode code 477 = .ok (.iload_n 3, 1) := by decide +kernel
theorem d_L_law_478 : decode code 478 = .ok (.iconst 1, 1) := by decide +kernel
theorem d_L_law_479 : decode code 479 = .ok (.iadd, 1) := by decide +kernel
theorem d_L_law_480 : decode code 480 = .ok (.iaload, 1) := by decide +kernel
theorem d_L_law_481 : decode code 481 = .ok (.invokevirtual 86, 3) := by decide +kernel
theorem d_L_law_484 : decode code 484 = .ok (.if_icmp .eq 170, 3) := by decide +kernel
theorem d_L_law_487 : decode code 487 = .ok (.iconst 0, 1) := by decide +kernel
theorem d_L_law_488 : decode code 488 = .ok (.ireturn, 1) := by decide +kernel
theorem d_L_law_489 : decode code 489 = .ok (.aload_n 1, 1) := by decide +kernel
theorem d_L_law_490 : decode code 490 = .ok (.aload_n 0, 1) := by decide +kernel
theorem d_L_law_491 : decode code 491 = .ok (.iload_n 3, 1) := by decide +kernel
theorem d_L_law_492 : decode code 492 = .ok (.iconst 1, 1) := by decide +kernel
theorem d_L_law_493 : decode code 493 = .ok (.iadd, 1) := by decide +kernel
theorem d_L_law_494 : decode code 494 = .ok (.iaload, 1) := by decide +kernel
theorem d_L_law_495 : decode code 495 = .ok (.aload_n 0, 1) := by decide +kernel
theorem d_L_law_496 : decode code 496 = .ok (.iload_n 3, 1) := by decide +kernel
theorem d_L_law_497 : decode code 497 = .ok (.iconst 2, 1) := by decide +kernel
theorem d_L_law_498 : decode code 498 = .ok (.iadd, 1) := by decide +kernel
theorem d_L_law_499 : decode code 499 = .ok (.iaload, 1) := by decide +kernel
theorem d_L_law_500 : decode code 500 = .ok (.invokevirtual 87, 3) := by decide +kernel
theorem d_L_law_503 : decode code 503 = .ok (.aload_n 2, 1) := by decide +kernel
theorem d_L_law_504 : decode code 504 = .ok (.aload_n 0, 1) := by decide +kernel
theorem d_L_law_505 : decode code 505 = .ok (.iload_n 3, 1) := by decide +kernel
theorem d_L_law_506 : decode code 506 = .ok (.iconst 1, 1) := by decide +kernel
theorem d_L_law_507 : decode code 507 = .ok (.iadd, 1) := by decide +kernel
theorem d_L_law_508 : decode code 508 = .ok (.iaload, 1) := by decide +kernel
theorem d_L_law_509 : decode code 509 = .ok (.aload_n 0, 1) := by decide +kernel
theorem d_L_law_510 : decode code 510 = .ok (.iload_n 3, 1) := by decide +kernel
theorem d_L_law_511 : decode code 511 = .ok (.iconst 2, 1) := by decide +kernel
theorem d_L_law_512 : decode code 512 = .ok (.iadd, 1) := by decide +kernel
theorem d_L_law_513 : decode code 513 = .ok (.iaload, 1) := by decide +kernel
theorem d_L_law_514 : decode code 514 = .ok (.invokevirtual 91, 3) := by decide +kernel
theorem d_L_law_517 : decode code 517 = .ok (.if_icmp .eq 137, 3) := by decide +kernel
theorem d_L_law_520 : decode code 520 = .ok (.iconst 0, 1) := by decide +kernel
theorem d_L_law_521 : decode code 521 = .ok (.ireturn, 1) := by decide +kernel
theorem d_L_law_522 : decode code 522 = .ok (.aload_n 1, 1) := by decide +kernel
theorem d_L_law_523 : decode code 523 = .ok (.aload_n 0, 1) := by decide +kernel
theorem d_L_law_524 : decode code 524 = .ok (.iload_n 3, 1) := by decide +kernel
theorem d_L_law_525 : decode code 525 = .ok (.iconst 1, 1) := by decide +kernel
theorem d_L_law_526 : decode code 526 = .ok (.iadd, 1) := by decide +kernel
theorem d_L_law_527 : decode code 527 = .ok (.iaload, 1) := by decide +kernel
theorem d_L_law_528 : decode code 528 = .ok (.aload_n 0, 1) := by decide +kernel
theorem d_L_law_529 : decode code 529 = .ok (.iload_n 3, 1) := by decide +kernel
theorem d_L_law_530 : decode code 530 = .ok (.iconst 2, 1) := by decide +kernel
theorem d_L_law_531 : decode code 531 = .ok (.iadd, 1) := by decide +kernel
theorem d_L_law_532 : decode code 532 = .ok (.iaload, 1) := by decide +kernel
theorem d_L_law_533 : decode code 533 = .ok (.aload_n 0, 1) := by decide +kernel
theorem d_L_law_534 : decode code 534 = .ok (.iload_n 3, 1) := by decide +kernel
theorem d_L_law_535 : decode code 535 = .ok (.iconst 3, 1) := by decide +kernel
theorem d_L_law_536 : decode code 536 = .ok (.iadd, 1) := by decide +kernel
theorem d_L_law_537 : decode code 537 = .ok (.iaload, 1) := by decide +kernel
theorem d_L_law_538 : decode code 538 = .ok (.invokevirtual 92, 3) := by decide +kernel
theorem d_L_law_541 : decode code 541 = .ok (.aload_n 2, 1) := by decide +kernel
theorem d_L_law_542 : decode code 542 = .ok (.aload_n 0, 1) := by decide +kernel
theorem d_L_law_543 : decode code 543 = .ok (.iload_n 3, 1) := by decide +kernel
theorem d_L_law_544 : decode code 544 = .ok (.iconst 1, 1) := by decide +kernel
theorem d_L_law_545 : decode code 545 = .ok (.iadd, 1) := by decide +kernel
theorem d_L_law_546 : decode code 546 = .ok (.iaload, 1) := by decide +kernel
theorem d_L_law_547 : decode code 547 = .ok (.aload_n 0, 1) := by decide +kernel
theorem d_L_law_548 : decode code 548 = .ok (.iload_n 3, 1) := by decide +kernel
theorem d_L_law_549 : decode code 549 = .ok (.iconst 2, 1) := by decide +kernel
theorem d_L_law_550 : decode code 550 = .ok (.iadd, 1) := by decide +kernel
theorem d_L_law_551 : decode code 551 = .ok (.iaload, 1) := by decide +kernel
theorem d_L_law_552 : decode code 552 = .ok (.aload_n 0, 1) := by decide +kernel
theorem d_L_law_553 : decode code 553 = .ok (.iload_n 3, 1) := by decide +kernel
theorem d_L_law_554 : decode code 554 = .ok (.iconst 3, 1) := by decide +kernel
theorem d_L_law_555 : decode code 555 = .ok (.iadd, 1) := by decide +kernel
theorem d_L_law_556 : decode code 556 = .ok (.iaload, 1) := by decide +kernel
theorem d_L_law_557 : decode code 557 = .ok (.invokevirtual 96, 3) := by decide +kernel
theorem d_L_law_560 : decode code 560 = .ok (.if_icmp .eq 94, 3) := by decide +kernel
theorem d_L_law_563 : decode code 563 = .ok (.iconst 0, 1) := by decide +kernel
theorem d_L_law_564 : decode code 564 = .ok (.ireturn, 1) := by decide +kernel
theorem d_L_law_565 : decode code 565 = .ok (.aload_n 1, 1) := by decide +kernel
theorem d_L_law_566 : decode code 566 = .ok (.aload_n 0, 1) := by decide +kernel
theorem d_L_law_567 : decode code 567 = .ok (.iload_n 3, 1) := by decide +kernel
theorem d_L_law_568 : decode code 568 = .ok (.iconst 1, 1) := by decide +kernel
theorem d_L_law_569 : decode code 569 = .ok (.iadd, 1) := by decide +kernel
theorem d_L_law_570 : decode code 570 = .ok (.iaload, 1) := by decide +kernel
theorem d_L_law_571 : decode code 571 = .ok (.invokevirtual 97, 3) := by decide +kernel
theorem d_L_law_574 : decode code 574 = .ok (.aload_n 2, 1) := by decide +kernel
theorem d_L_law_575 : decode code 575 = .ok (.aload_n 0, 1) := by decide +kernel
theorem d_L_law_576 : decode code 576 = .ok (.iload_n 3, 1) := by decide +kernel
theorem d_L_law_577 : decode code 577 = .ok (.iconst 1, 1) := by decide +kernel
theorem d_L_law_578 : decode code 578 = .ok (.iadd, 1) := by decide +kernel
theorem d_L_law_579 : decode code 579 = .ok (.iaload, 1) := by decide +kernel
theorem d_L_law_580 : decode code 580 = .ok (.invokevirtual 100, 3) := by decide +kernel
theorem d_L_law_583 : decode code 583 = .ok (.if_icmp .eq 71, 3) := by decide +kernel
theorem d_L_law_586 : decode code 586 = .ok (.iconst 0, 1) := by decide +kernel
theorem d_L_law_587 : decode code 587 = .ok (.ireturn, 1) := by decide +kernel
theorem d_L_law_588 : decode code 588 = .ok (.aload_n 1, 1) := by decide +kernel
theorem d_L_law_589 : decode code 589 = .ok (.aload_n 0, 1) := by decide +kernel
theorem d_L_law_590 : decode code 590 = .ok (.iload_n 3, 1) := by decide +kernel
theorem d_L_law_591 : decode code 591 = .ok (.iconst 1, 1) := by decide +kernel
theorem d_L_law_592 : decode code 592 = .ok (.iadd, 1) := by decide +kernel
theorem d_L_law_593 : decode code 593 = .ok (.iaload, 1) := by decide +kernel
theorem d_L_law_594 : decode code 594 = .ok (.aload_n 0, 1) := by decide +kernel
theorem d_L_law_595 : decode code 595 = .ok (.iload_n 3, 1) := by decide +kernel
theorem d_L_law_596 : decode code 596 = .ok (.iconst 2, 1) := by decide +kernel
theorem d_L_law_597 : decode code 597 = .ok (.iadd, 1) := by decide +kernel
theorem d_L_law_598 : decode code 598 = .ok (.iaload, 1) := by decide +kernel
theorem d_L_law_599 : decode code 599 = .ok (.aload_n 0, 1) := by decide +kernel
theorem d_L_law_600 : decode code 600 = .ok (.iload_n 3, 1) := by decide +kernel
theorem d_L_law_601 : decode code 601 = .ok (.iconst 3, 1) := by decide +kernel
theorem d_L_law_602 : decode code 602 = .ok (.iadd, 1) := by decide +kernel
theorem d_L_law_603 : decode code 603 = .ok (.iaload, 1) := by decide +kernel
theorem d_L_law_604 : decode code 604 = .ok (.invokevirtual 101, 3) := by decide +kernel
theorem d_L_law_607 : decode code 607 = .ok (.aload_n 2, 1) := by decide +kernel
theorem d_L_law_608 : decode code 608 = .ok (.aload_n 0, 1) := by decide +kernel
theorem d_L_law_609 : decode code 609 = .ok (.iload_n 3, 1) := by decide +kernel
theorem d_L_law_610 : decode code 610 = .ok (.iconst 1, 1) := by decide +kernel
theorem d_L_law_611 : decode code 611 = .ok (.iadd, 1) := by decide +kernel
theorem d_L_law_612 : decode code 612 = .ok (.iaload, 1) := by decide +kernel
theorem d_L_law_613 : decode code 613 = .ok (.aload_n 0, 1) := by decide +kernel
theorem d_L_law_614 : decode code 614 = .ok (.iload_n 3, 1) := by decide +kernel
theorem d_L_law_615 : decode code 615 = .ok (.iconst 2, 1) := by decide +kernel
theorem d_L_law_616 : decode code 616 = .ok (.iadd, 1) := by decide +kernel
theorem d_L_law_617 : decode code 617 = .ok (.iaload, 1) := by decide +kernel
theorem d_L_law_618 : decode code 618 = .ok (.aload_n 0, 1) := by decide +kernel
theorem d_L_law_619 : decode code 619 = .ok (.iload_n 3, 1) := by decide +kernel
theorem d_L_law_620 : decode code 620 = .ok (.iconst 3, 1) := by decide +kernel
theorem d_L_law_621 : decode code 621 = .ok (.iadd, 1) := by decide +kernel
theorem d_L_law_622 : decode code 622 = .ok (.iaload, 1) := by decide +kernel
theorem d_L_law_623 : decode code 623 = .ok (.invokevirtual 105, 3) := by decide +kernel
theorem d_L_law_626 : decode code 626 = .ok (.if_icmp .eq 28, 3) := by decide +kernel
theorem d_L_law_629 : decode code 629 = .ok (.iconst 0, 1) := by decide +kernel
theorem d_L_law_630 : decode code 630 = .ok (.ireturn, 1) := by decide +kernel
theorem d_L_law_631 : decode code 631 = .ok (.aload_n 1, 1) := by decide +kernel
theorem d_L_law_632 : decode code 632 = .ok (.aload_n 0, 1) := by decide +kernel
theorem d_L_law_633 : decode code 633 = .ok (.iload_n 3, 1) := by decide +kernel
theorem d_L_law_634 : decode code 634 = .ok (.iconst 1, 1) := by decide +kernel
theorem d_L_law_635 : decode code 635 = .ok (.iadd, 1) := by decide +kernel
theorem d_L_law_636 : decode code 636 = .ok (.iaload, 1) := by decide +kernel
theorem d_L_law_637 : decode code 637 = .ok (.invokevirtual 106, 3) := by decide +kernel
theorem d_L_law_640 : decode code 640 = .ok (.aload_n 2, 1) := by decide +kernel
theorem d_L_law_641 : decode code 641 = .ok (.aload_n 0, 1) := by decide +kernel
theorem d_L_law_642 : decode code 642 = .ok (.iload_n 3, 1) := by decide +kernel
theorem d_L_law_643 : decode code 643 = .ok (.iconst 1, 1) := by decide +kernel
theorem d_L_law_644 : decode code 644 = .ok (.iadd, 1) := by decide +kernel
theorem d_L_law_645 : decode code 645 = .ok (.iaload, 1) := by decide +kernel
theorem d_L_law_646 : decode code 646 = .ok (.invokevirtual 109, 3) := by decide +kernel
theorem d_L_law_649 : decode code 649 = .ok (.if_icmp .eq 5, 3) := by decide +kernel
theorem d_L_law_652 : decode code 652 = .ok (.iconst 0, 1) := by decide +kernel
theorem d_L_law_653 : decode code 653 = .ok (.ireturn, 1) := by decide +kernel
theorem d_L_law_654 : decode code 654 = .ok (.iinc 3 5, 3) := by decide +kernel
theorem d_L_law_657 : decode code 657 = .ok (.goto (-629), 3) := by decide +kernel
theorem d_L_law_660 : decode code 660 = .ok (.iconst 1, 1) := by decide +kernel
theorem d_L_law_661 : decode code 661 = .ok (.ireturn, 1) := by decide +kernel
