abbrev c_Law_cell : ByteArray := method_2_code
def y_Law_cell : MethodName := ⟨"CycleChipLaw", "cell", "([II)I"⟩
theorem d_Law_cell_0 : decode c_Law_cell 0 = .ok (.iload_n 1, 1) := by decide +kernel
theorem d_Law_cell_1 : decode c_Law_cell 1 = .ok (.aload_n 0, 1) := by decide +kernel
theorem d_Law_cell_2 : decode c_Law_cell 2 = .ok (.arraylength, 1) := by decide +kernel
theorem d_Law_cell_3 : decode c_Law_cell 3 = .ok (.if_icmp .ge 9, 3) := by decide +kernel
theorem d_Law_cell_6 : decode c_Law_cell 6 = .ok (.aload_n 0, 1) := by decide +kernel
theorem d_Law_cell_7 : decode c_Law_cell 7 = .ok (.iload_n 1, 1) := by decide +kernel
theorem d_Law_cell_8 : decode c_Law_cell 8 = .ok (.iaload, 1) := by decide +kernel
theorem d_Law_cell_9 : decode c_Law_cell 9 = .ok (.goto 4, 3) := by decide +kernel
theorem d_Law_cell_12 : decode c_Law_cell 12 = .ok (.iconst 0, 1) := by decide +kernel
theorem d_Law_cell_13 : decode c_Law_cell 13 = .ok (.ireturn, 1) := by decide +kernel
theorem d_Law_law_0 : decode code 0 = .ok (.new 7, 3) := by decide +kernel
theorem d_Law_law_3 : decode code 3 = .ok (.dup, 1) := by decide +kernel
theorem d_Law_law_4 : decode code 4 = .ok (.aload_n 0, 1) := by decide +kernel
theorem d_Law_law_5 : decode code 5 = .ok (.iconst 0, 1) := by decide +kernel
theorem d_Law_law_6 : decode code 6 = .ok (.invokestatic 9, 3) := by decide +kernel
theorem d_Law_law_9 : decode code 9 = .ok (.aload_n 0, 1) := by decide +kernel
theorem d_Law_law_10 : decode code 10 = .ok (.iconst 1, 1) := by decide +kernel
theorem d_Law_law_11 : decode code 11 = .ok (.invokestatic 9, 3) := by decide +kernel
theorem d_Law_law_14 : decode code 14 = .ok (.invokespecial 15, 3) := by decide +kernel
theorem d_Law_law_17 : decode code 17 = .ok (.astore_n 1, 1) := by decide +kernel
theorem d_Law_law_18 : decode code 18 = .ok (.new 18, 3) := by decide +kernel
theorem d_Law_law_21 : decode code 21 = .ok (.dup, 1) := by decide +kernel
theorem d_Law_law_22 : decode code 22 = .ok (.aload_n 0, 1) := by decide +kernel
theorem d_Law_law_23 : decode code 23 = .ok (.iconst 0, 1) := by decide +kernel
theorem d_Law_law_24 : decode code 24 = .ok (.invokestatic 9, 3) := by decide +kernel
theorem d_Law_law_27 : decode code 27 = .ok (.aload_n 0, 1) := by decide +kernel
theorem d_Law_law_28 : decode code 28 = .ok (.iconst 1, 1) := by decide +kernel
theorem d_Law_law_29 : decode code 29 = .ok (.invokestatic 9, 3) := by decide +kernel
theorem d_Law_law_32 : decode code 32 = .ok (.invokespecial 20, 3) := by decide +kernel
theorem d_Law_law_35 : decode code 35 = .ok (.astore_n 2, 1) := by decide +kernel
theorem d_Law_law_36 : decode code 36 = .ok (.iconst 2, 1) := by decide +kernel
theorem d_Law_law_37 : decode code 37 = .ok (.istore_n 3, 1) := by decide +kernel
theorem d_Law_law_38 : decode code 38 = .ok (.iload_n 3, 1) := by decide +kernel
theorem d_Law_law_39 : decode code 39 = .ok (.aload_n 0, 1) := by decide +kernel
theorem d_Law_law_40 : decode code 40 = .ok (.arraylength, 1) := by decide +kernel
theorem d_Law_law_41 : decode code 41 = .ok (.iconst 4, 1) := by decide +kernel
theorem d_Law_law_42 : decode code 42 = .ok (.isub, 1) := by decide +kernel
theorem d_Law_law_43 : decode code 43 = .ok (.if_icmp .gt 558, 3) := by decide +kernel
theorem d_Law_law_46 : decode code 46 = .ok (.aload_n 0, 1) := by decide +kernel
theorem d_Law_law_47 : decode code 47 = .ok (.iload_n 3, 1) := by decide +kernel
theorem d_Law_law_48 : decode code 48 = .ok (.iaload, 1) := by decide +kernel
theorem d_Law_law_49 : decode code 49 = .ok (.bipush 31, 2) := by decide +kernel
theorem d_Law_law_51 : decode code 51 = .ok (.iand, 1) := by decide +kernel
theorem d_Law_law_52 : decode code 52 = .ok (.tableswitch 543 0 18 #[92, 125, 148, 198, 231, 254, 267, 290, 333, 346, 369, 382, 395, 418, 441, 465, 504, 517, 530], 92) := by decide +kernel
theorem d_Law_law_144 : decode code 144 = .ok (.aload_n 1, 1) := by decide +kernel
theorem d_Law_law_145 : decode code 145 = .ok (.aload_n 0, 1) := by decide +kernel
theorem d_Law_law_146 : decode code 146 = .ok (.iload_n 3, 1) := by decide +kernel
theorem d_Law_law_147 : decode code 147 = .ok (.iconst 1, 1) := by decide +kernel
theorem d_Law_law_148 : decode code 148 = .ok (.iadd, 1) := by decide +kernel
theorem d_Law_law_149 : decode code 149 = .ok (.iaload, 1) := by decide +kernel
theorem d_Law_law_150 : decode code 150 = .ok (.aload_n 0, 1) := by decide +kernel
theorem d_Law_law_151 : decode code 151 = .ok (.iload_n 3, 1) := by decide +kernel
theorem d_Law_law_152 : decode code 152 = .ok (.iconst 2, 1) := by decide +kernel
theorem d_Law_law_153 : decode code 153 = .ok (.iadd, 1) := by decide +kernel
theorem d_Law_law_154 : decode code 154 = .ok (.iaload, 1) := by decide +kernel
theorem d_Law_law_155 : decode code 155 = .ok (.invokevirtual 21, 3) := by decide +kernel
theorem d_Law_law_158 : decode code 158 = .ok (.aload_n 2, 1) := by decide +kernel
theorem d_Law_law_159 : decode code 159 = .ok (.aload_n 0, 1) := by decide +kernel
theorem d_Law_law_160 : decode code 160 = .ok (.iload_n 3, 1) := by decide +kernel
theorem d_Law_law_161 : decode code 161 = .ok (.iconst 1, 1) := by decide +kernel
theorem d_Law_law_162 : decode code 162 = .ok (.iadd, 1) := by decide +kernel
theorem d_Law_law_163 : decode code 163 = .ok (.iaload, 1) := by decide +kernel
theorem d_Law_law_164 : decode code 164 = .ok (.aload_n 0, 1) := by decide +kernel
theorem d_Law_law_165 : decode code 165 = .ok (.iload_n 3, 1) := by decide +kernel
theorem d_Law_law_166 : decode code 166 = .ok (.iconst 2, 1) := by decide +kernel
theorem d_Law_law_167 : decode code 167 = .ok (.iadd, 1) := by decide +kernel
theorem d_Law_law_168 : decode code 168 = .ok (.iaload, 1) := by decide +kernel
theorem d_Law_law_169 : decode code 169 = .ok (.invokevirtual 25, 3) := by decide +kernel
theorem d_Law_law_172 : decode code 172 = .ok (.if_icmp .eq 423, 3) := by decide +kernel
theorem d_Law_law_175 : decode code 175 = .ok (.iconst 0, 1) := by decide +kernel
theorem d_Law_law_176 : decode code 176 = .ok (.ireturn, 1) := by decide +kernel
theorem d_Law_law_177 : decode code 177 = .ok (.aload_n 1, 1) := by decide +kernel
theorem d_Law_law_178 : decode code 178 = .ok (.aload_n 0, 1) := by decide +kernel
theorem d_Law_law_179 : decode code 179 = .ok (.iload_n 3, 1) := by decide +kernel
theorem d_Law_law_180 : decode code 180 = .ok (.iconst 1, 1) := by decide +kernel
theorem d_Law_law_181 : decode code 181 = .ok (.iadd, 1) := by decide +kernel
theorem d_Law_law_182 : decode code 182 = .ok (.iaload, 1) := by decide +kernel
theorem d_Law_law_183 : decode code 183 = .ok (.invokevirtual 26, 3) := by decide +kernel
theorem d_Law_law_186 : decode code 186 = .ok (.aload_n 2, 1) := by decide +kernel
theorem d_Law_law_187 : decode code 187 = .ok (.aload_n 0, 1) := by decide +kernel
theorem d_Law_law_188 : decode code 188 = .ok (.iload_n 3, 1) := by decide +kernel
theorem d_Law_law_189 : decode code 189 = .ok (.iconst 1, 1) := by decide +kernel
theorem d_Law_law_190 : decode code 190 = .ok (.iadd, 1) := by decide +kernel
theorem d_Law_law_191 : decode code 191 = .ok (.iaload, 1) := by decide +kernel
theorem d_Law_law_192 : decode code 192 = .ok (.invokevirtual 30, 3) := by decide +kernel
theorem d_Law_law_195 : decode code 195 = .ok (.if_icmp .eq 400, 3) := by decide +kernel
theorem d_Law_law_198 : decode code 198 = .ok (.iconst 0, 1) := by decide +kernel
theorem d_Law_law_199 : decode code 199 = .ok (.ireturn, 1) := by decide +kernel
theorem d_Law_law_200 : decode code 200 = .ok (.aload_n 1, 1) := by decide +kernel
theorem d_Law_law_201 : decode code 201 = .ok (.aload_n 0, 1) := by decide +kernel
theorem d_Law_law_202 : decode code 202 = .ok (.iload_n 3, 1) := by decide +kernel
theorem d_Law_law_203 : decode code 203 = .ok (.iconst 1, 1) := by decide +kernel
theorem d_Law_law_204 : decode code 204 = .ok (.iadd, 1) := by decide +kernel
theorem d_Law_law_205 : decode code 205 = .ok (.iaload, 1) := by decide +kernel
theorem d_Law_law_206 : decode code 206 = .ok (.ifCond .eq 7, 3) := by decide +kernel
theorem d_Law_law_209 : decode code 209 = .ok (.iconst 1, 1) := by decide +kernel
theorem d_Law_law_210 : decode code 210 = .ok (.goto 4, 3) := by decide +kernel
theorem d_Law_law_213 : decode code 213 = .ok (.iconst 0, 1) := by decide +kernel
theorem d_Law_law_214 : decode code 214 = .ok (.aload_n 0, 1) := by decide +kernel
theorem d_Law_law_215 : decode code 215 = .ok (.iload_n 3, 1) := by decide +kernel
theorem d_Law_law_216 : decode code 216 = .ok (.iconst 2, 1) := by decide +kernel
theorem d_Law_law_217 : decode code 217 = .ok (.iadd, 1) := by decide +kernel
theorem d_Law_law_218 : decode code 218 = .ok (.iaload, 1) := by decide +kernel
theorem d_Law_law_219 : decode code 219 = .ok (.invokevirtual 31, 3) := by decide +kernel
theorem d_Law_law_222 : decode code 222 = .ok (.aload_n 2, 1) := by decide +kernel
theorem d_Law_law_223 : decode code 223 = .ok (.aload_n 0, 1) := by decide +kernel
theorem d_Law_law_224 : decode code 224 = .ok (.iload_n 3, 1) := by decide +kernel
theorem d_Law_law_225 : decode code 225 = .ok (.iconst 1, 1) := by decide +kernel
theorem d_Law_law_226 : decode code 226 = .ok (.iadd, 1) := by decide +kernel
theorem d_Law_law_227 : decode code 227 = .ok (.iaload, 1) := by decide +kernel
theorem d_Law_law_228 : decode code 228 = .ok (.ifCond .eq 7, 3) := by decide +kernel
theorem d_Law_law_231 : decode code 231 = .ok (.iconst 1, 1) := by decide +kernel
theorem d_Law_law_232 : decode code 232 = .ok (.goto 4, 3) := by decide +kernel
theorem d_Law_law_235 : decode code 235 = .ok (.iconst 0, 1) := by decide +kernel
theorem d_Law_law_236 : decode code 236 = .ok (.aload_n 0, 1) := by decide +kernel
theorem d_Law_law_237 : decode code 237 = .ok (.iload_n 3, 1) := by decide +kernel
theorem d_Law_law_238 : decode code 238 = .ok (.iconst 2, 1) := by decide +kernel
theorem d_Law_law_239 : decode code 239 = .ok (.iadd, 1) := by decide +kernel
theorem d_Law_law_240 : decode code 240 = .ok (.iaload, 1) := by decide +kernel
theorem d_Law_law_241 : decode code 241 = .ok (.invokevirtual 35, 3) := by decide +kernel
theorem d_Law_law_244 : decode code 244 = .ok (.lcmp, 1) := by decide +kernel
theorem d_Law_law_245 : decode code 245 = .ok (.ifCond .eq 350, 3) := by decide +kernel
theorem d_Law_law_248 : decode code 248 = .ok (.iconst 0, 1) := by decide +kernel
theorem d_Law_law_249 : decode code 249 = .ok (.ireturn, 1) := by decide +kernel
theorem d_Law_law_250 : decode code 250 = .ok (.aload_n 1, 1) := by decide +kernel
theorem d_Law_law_251 : decode code 251 = .ok (.aload_n 0, 1) := by decide +kernel
theorem d_Law_law_252 : decode code 252 = .ok (.iload_n 3, 1) := by decide +kernel
theorem d_Law_law_253 : decode code 253 = .ok (.iconst 1, 1) := by decide +kernel
theorem d_Law_law_254 : decode code 254 = .ok (.iadd, 1) := by decide +kernel
theorem d_Law_law_255 : decode code 255 = .ok (.iaload, 1) := by decide +kernel
theorem d_Law_law_256 : decode code 256 = .ok (.aload_n 0, 1) := by decide +kernel
theorem d_Law_law_257 : decode code 257 = .ok (.iload_n 3, 1) := by decide +kernel
theorem d_Law_law_258 : decode code 258 = .ok (.iconst 2, 1) := by decide +kernel
theorem d_Law_law_259 : decode code 259 = .ok (.iadd, 1) := by decide +kernel
theorem d_Law_law_260 : decode code 260 = .ok (.iaload, 1) := by decide +kernel
theorem d_Law_law_261 : decode code 261 = .ok (.invokevirtual 36, 3) := by decide +kernel
theorem d_Law_law_264 : decode code 264 = .ok (.aload_n 2, 1) := by decide +kernel
theorem d_Law_law_265 : decode code 265 = .ok (.aload_n 0, 1) := by decide +kernel
theorem d_Law_law_266 : decode code 266 = .ok (.iload_n 3, 1) := by decide +kernel
theorem d_Law_law_267 : decode code 267 = .ok (.iconst 1, 1) := by decide +kernel
theorem d_Law_law_268 : decode code 268 = .ok (.iadd, 1) := by decide +kernel
theorem d_Law_law_269 : decode code 269 = .ok (.iaload, 1) := by decide +kernel
theorem d_Law_law_270 : decode code 270 = .ok (.aload_n 0, 1) := by decide +kernel
theorem d_Law_law_271 : decode code 271 = .ok (.iload_n 3, 1) := by decide +kernel
theorem d_Law_law_272 : decode code 272 = .ok (.iconst 2, 1) := by decide +kernel
theorem d_Law_law_273 : decode code 273 = .ok (.iadd, 1) := by decide +kernel
theorem d_Law_law_274 : decode code 274 = .ok (.iaload, 1) := by decide +kernel
theorem d_Law_law_275 : decode code 275 = .ok (.invokevirtual 40, 3) := by decide +kernel
theorem d_Law_law_278 : decode code 278 = .ok (.if_icmp .eq 317, 3) := by decide +kernel
theorem d_Law_law_281 : decode code 281 = .ok (.iconst 0, 1) := by decide +kernel
theorem d_Law_law_282 : decode code 282 = .ok (.ireturn, 1) := by decide +kernel
theorem d_Law_law_283 : decode code 283 = .ok (.aload_n 1, 1) := by decide +kernel
theorem d_Law_law_284 : decode code 284 = .ok (.aload_n 0, 1) := by decide +kernel
theorem d_Law_law_285 : decode code 285 = .ok (.iload_n 3, 1) := by decide +kernel
theorem d_Law_law_286 : decode code 286 = .ok (.iconst 1, 1) := by decide +kernel
theorem d_Law_law_287 : decode code 287 = .ok (.iadd, 1) := by decide +kernel
theorem d_Law_law_288 : decode code 288 = .ok (.iaload, 1) := by decide +kernel
theorem d_Law_law_289 : decode code 289 = .ok (.invokevirtual 41, 3) := by decide +kernel
theorem d_Law_law_292 : decode code 292 = .ok (.aload_n 2, 1) := by decide +kernel
theorem d_Law_law_293 : decode code 293 = .ok (.aload_n 0, 1) := by decide +kernel
theorem d_Law_law_294 : decode code 294 = .ok (.iload_n 3, 1) := by decide +kernel
theorem d_Law_law_295 : decode code 295 = .ok (.iconst 1, 1) := by decide +kernel
theorem d_Law_law_296 : decode code 296 = .ok (.iadd, 1) := by decide +kernel
theorem d_Law_law_297 : decode code 297 = .ok (.iaload, 1) := by decide +kernel
theorem d_Law_law_298 : decode code 298 = .ok (.invokevirtual 44, 3) := by decide +kernel
theorem d_Law_law_301 : decode code 301 = .ok (.if_icmp .eq 294, 3) := by decide +kernel
theorem d_Law_law_304 : decode code 304 = .ok (.iconst 0, 1) := by decide +kernel
theorem d_Law_law_305 : decode code 305 = .ok (.ireturn, 1) := by decide +kernel
theorem d_Law_law_306 : decode code 306 = .ok (.aload_n 1, 1) := by decide +kernel
theorem d_Law_law_307 : decode code 307 = .ok (.invokevirtual 45, 3) := by decide +kernel
theorem d_Law_law_310 : decode code 310 = .ok (.aload_n 2, 1) := by decide +kernel
theorem d_Law_law_311 : decode code 311 = .ok (.invokevirtual 49, 3) := by decide +kernel
theorem d_Law_law_314 : decode code 314 = .ok (.if_icmp .eq 281, 3) := by decide +kernel
theorem d_Law_law_317 : decode code 317 = .ok (.iconst 0, 1) := by decide +kernel
theorem d_Law_law_318 : decode code 318 = .ok (.ireturn, 1) := by decide +kernel
theorem d_Law_law_319 : decode code 319 = .ok (.aload_n 1, 1) := by decide +kernel
theorem d_Law_law_320 : decode code 320 = .ok (.aload_n 0, 1) := by decide +kernel
theorem d_Law_law_321 : decode code 321 = .ok (.iload_n 3, 1) := by decide +kernel
theorem d_Law_law_322 : decode code 322 = .ok (.iconst 1, 1) := by decide +kernel
theorem d_Law_law_323 : decode code 323 = .ok (.iadd, 1) := by decide +kernel
theorem d_Law_law_324 : decode code 324 = .ok (.iaload, 1) := by decide +kernel
theorem d_Law_law_325 : decode code 325 = .ok (.invokevirtual 50, 3) := by decide +kernel
theorem d_Law_law_328 : decode code 328 = .ok (.aload_n 2, 1) := by decide +kernel
theorem d_Law_law_329 : decode code 329 = .ok (.aload_n 0, 1) := by decide +kernel
theorem d_Law_law_330 : decode code 330 = .ok (.iload_n 3, 1) := by decide +kernel
theorem d_Law_law_331 : decode code 331 = .ok (.iconst 1, 1) := by decide +kernel
theorem d_Law_law_332 : decode code 332 = .ok (.iadd, 1) := by decide +kernel
theorem d_Law_law_333 : decode code 333 = .ok (.iaload, 1) := by decide +kernel
theorem d_Law_law_334 : decode code 334 = .ok (.invokevirtual 53, 3) := by decide +kernel
theorem d_Law_law_337 : decode code 337 = .ok (.if_icmp .eq 258, 3) := by decide +kernel
theorem d_Law_law_340 : decode code 340 = .ok (.iconst 0, 1) := by decide +kernel
theorem d_Law_law_341 : decode code 341 = .ok (.ireturn, 1) := by decide +kernel
theorem d_Law_law_342 : decode code 342 = .ok (.aload_n 1, 1) := by decide +kernel
theorem d_Law_law_343 : decode code 343 = .ok (.aload_n 0, 1) := by decide +kernel
theorem d_Law_law_344 : decode code 344 = .ok (.iload_n 3, 1) := by decide +kernel
theorem d_Law_law_345 : decode code 345 = .ok (.iconst 1, 1) := by decide +kernel
theorem d_Law_law_346 : decode code 346 = .ok (.iadd, 1) := by decide +kernel
theorem d_Law_law_347 : decode code 347 = .ok (.iaload, 1) := by decide +kernel
theorem d_Law_law_348 : decode code 348 = .ok (.aload_n 0, 1) := by decide +kernel
theorem d_Law_law_349 : decode code 349 = .ok (.iload_n 3, 1) := by decide +kernel
theorem d_Law_law_350 : decode code 350 = .ok (.iconst 2, 1) := by decide +kernel
theorem d_Law_law_351 : decode code 351 = .ok (.iadd, 1) := by decide +kernel
theorem d_Law_law_352 : decode code 352 = .ok (.iaload, 1) := by decide +kernel
theorem d_Law_law_353 : decode code 353 = .ok (.aload_n 0, 1) := by decide +kernel
theorem d_Law_law_354 : decode code 354 = .ok (.iload_n 3, 1) := by decide +kernel
theorem d_Law_law_355 : decode code 355 = .ok (.iconst 3, 1) := by decide +kernel
theorem d_Law_law_356 : decode code 356 = .ok (.iadd, 1) := by decide +kernel
theorem d_Law_law_357 : decode code 357 = .ok (.iaload, 1) := by decide +kernel
theorem d_Law_law_358 : decode code 358 = .ok (.invokevirtual 54, 3) := by decide +kernel
theorem d_Law_law_361 : decode code 361 = .ok (.aload_n 2, 1) := by decide +kernel
theorem d_Law_law_362 : decode code 362 = .ok (.aload_n 0, 1) := by decide +kernel
theorem d_Law_law_363 : decode code 363 = .ok (.iload_n 3, 1) := by decide +kernel
theorem d_Law_law_364 : decode code 364 = .ok (.iconst 1, 1) := by decide +kernel
theorem d_Law_law_365 : decode code 365 = .ok (.iadd, 1) := by decide +kernel
theorem d_Law_law_366 : decode code 366 = .ok (.iaload, 1) := by decide +kernel
theorem d_Law_law_367 : decode code 367 = .ok (.aload_n 0, 1) := by decide +kernel
theorem d_Law_law_368 : decode code 368 = .ok (.iload_n 3, 1) := by decide +kernel
theorem d_Law_law_369 : decode code 369 = .ok (.iconst 2, 1) := by decide +kernel
theorem d_Law_law_370 : decode code 370 = .ok (.iadd, 1) := by decide +kernel
theorem d_Law_law_371 : decode code 371 = .ok (.iaload, 1) := by decide +kernel
theorem d_Law_law_372 : decode code 372 = .ok (.aload_n 0, 1) := by decide +kernel
theorem d_Law_law_373 : decode code 373 = .ok (.iload_n 3, 1) := by decide +kernel
theorem d_Law_law_374 : decode code 374 = .ok (.iconst 3, 1) := by decide +kernel
theorem d_Law_law_375 : decode code 375 = .ok (.iadd, 1) := by decide +kernel
theorem d_Law_law_376 : decode code 376 = .ok (.iaload, 1) := by decide +kernel
theorem d_Law_law_377 : decode code 377 = .ok (.invokevirtual 58, 3) := by decide +kernel
theorem d_Law_law_380 : decode code 380 = .ok (.if_icmp .eq 215, 3) := by decide +kernel
theorem d_Law_law_383 : decode code 383 = .ok (.iconst 0, 1) := by decide +kernel
theorem d_Law_law_384 : decode code 384 = .ok (.ireturn, 1) := by decide +kernel
theorem d_Law_law_385 : decode code 385 = .ok (.aload_n 1, 1) := by decide +kernel
theorem d_Law_law_386 : decode code 386 = .ok (.invokevirtual 59, 3) := by decide +kernel
theorem d_Law_law_389 : decode code 389 = .ok (.aload_n 2, 1) := by decide +kernel
theorem d_Law_law_390 : decode code 390 = .ok (.invokevirtual 62, 3) := by decide +kernel
theorem d_Law_law_393 : decode code 393 = .ok (.if_icmp .eq 202, 3) := by decide +kernel
theorem d_Law_law_396 : decode code 396 = .ok (.iconst 0, 1) := by decide +kernel
theorem d_Law_law_397 : decode code 397 = .ok (.ireturn, 1) := by decide +kernel
theorem d_Law_law_398 : decode code 398 = .ok (.aload_n 1, 1) := by decide +kernel
theorem d_Law_law_399 : decode code 399 = .ok (.aload_n 0, 1) := by decide +kernel
theorem d_Law_law_400 : decode code 400 = .ok (.iload_n 3, 1) := by decide +kernel
theorem d_Law_law_401 : decode code 401 = .ok (.iconst 1, 1) := by decide +kernel
theorem d_Law_law_402 : decode code 402 = .ok (.iadd, 1) := by decide +kernel
theorem d_Law_law_403 : decode code 403 = .ok (.iaload, 1) := by decide +kernel
theorem d_Law_law_404 : decode code 404 = .ok (.invokevirtual 63, 3) := by decide +kernel
theorem d_Law_law_407 : decode code 407 = .ok (.aload_n 2, 1) := by decide +kernel
theorem d_Law_law_408 : decode code 408 = .ok (.aload_n 0, 1) := by decide +kernel
theorem d_Law_law_409 : decode code 409 = .ok (.iload_n 3, 1) := by decide +kernel
theorem d_Law_law_410 : decode code 410 = .ok (.iconst 1, 1) := by decide +kernel
theorem d_Law_law_411 : decode code 411 = .ok (.iadd, 1) := by decide +kernel
theorem d_Law_law_412 : decode code 412 = .ok (.iaload, 1) := by decide +kernel
theorem d_Law_law_413 : decode code 413 = .ok (.invokevirtual 66, 3) := by decide +kernel
theorem d_Law_law_416 : decode code 416 = .ok (.if_icmp .eq 179, 3) := by decide +kernel
theorem d_Law_law_419 : decode code 419 = .ok (.iconst 0, 1) := by decide +kernel
theorem d_Law_law_420 : decode code 420 = .ok (.ireturn, 1) := by decide +kernel
theorem d_Law_law_421 : decode code 421 = .ok (.aload_n 1, 1) := by decide +kernel
theorem d_Law_law_422 : decode code 422 = .ok (.invokevirtual 67, 3) := by decide +kernel
theorem d_Law_law_425 : decode code 425 = .ok (.aload_n 2, 1) := by decide +kernel
theorem d_Law_law_426 : decode code 426 = .ok (.invokevirtual 70, 3) := by decide +kernel
theorem d_Law_law_429 : decode code 429 = .ok (.if_icmp .eq 166, 3) := by decide +kernel
theorem d_Law_law_432 : decode code 432 = .ok (.iconst 0, 1) := by decide +kernel
theorem d_Law_law_433 : decode code 433 = .ok (.ireturn, 1) := by decide +kernel
theorem d_Law_law_434 : decode code 434 = .ok (.aload_n 1, 1) := by decide +kernel
theorem d_Law_law_435 : decode code 435 = .ok (.invokevirtual 71, 3) := by decide +kernel
theorem d_Law_law_438 : decode code 438 = .ok (.aload_n 2, 1) := by decide +kernel
theorem d_Law_law_439 : decode code 439 = .ok (.invokevirtual 74, 3) := by decide +kernel
theorem d_Law_law_442 : decode code 442 = .ok (.if_icmp .eq 153, 3) := by decide +kernel
theorem d_Law_law_445 : decode code 445 = .ok (.iconst 0, 1) := by decide +kernel
theorem d_Law_law_446 : decode code 446 = .ok (.ireturn, 1) := by decide +kernel
theorem d_Law_law_447 : decode code 447 = .ok (.aload_n 1, 1) := by decide +kernel
theorem d_Law_law_448 : decode code 448 = .ok (.aload_n 0, 1) := by decide +kernel
theorem d_Law_law_449 : decode code 449 = .ok (.iload_n 3, 1) := by decide +kernel
theorem d_Law_law_450 : decode code 450 = .ok (.iconst 1, 1) := by decide +kernel
theorem d_Law_law_451 : decode code 451 = .ok (.iadd, 1) := by decide +kernel
theorem d_Law_law_452 : decode code 452 = .ok (.iaload, 1) := by decide +kernel
theorem d_Law_law_453 : decode code 453 = .ok (.invokevirtual 75, 3) := by decide +kernel
theorem d_Law_law_456 : decode code 456 = .ok (.aload_n 2, 1) := by decide +kernel
theorem d_Law_law_457 : decode code 457 = .ok (.aload_n 0, 1) := by decide +kernel
theorem d_Law_law_458 : decode code 458 = .ok (.iload_n 3, 1) := by decide +kernel
theorem d_Law_law_459 : decode code 459 = .ok (.iconst 1, 1) := by decide +kernel
theorem d_Law_law_460 : decode code 460 = .ok (.iadd, 1) := by decide +kernel
theorem d_Law_law_461 : decode code 461 = .ok (.iaload, 1) := by decide +kernel
theorem d_Law_law_462 : decode code 462 = .ok (.invokevirtual 78, 3) := by decide +kernel
theorem d_Law_law_465 : decode code 465 = .ok (.if_icmp .eq 130, 3) := by decide +kernel
theorem d_Law_law_468 : decode code 468 = .ok (.iconst 0, 1) := by decide +kernel
theorem d_Law_law_469 : decode code 469 = .ok (.ireturn, 1) := by decide +kernel
theorem d_Law_law_470 : decode code 470 = .ok (.aload_n 1, 1) := by decide +kernel
theorem d_Law_law_471 : decode code 471 = .ok (.aload_n 0, 1) := by decide +kernel
theorem d_Law_law_472 : decode code 472 = .ok (.iload_n 3, 1) := by decide +kernel
theorem d_Law_law_473 : decode code 473 = .ok (.iconst 1, 1) := by decide +kernel
theorem d_Law_law_474 : decode code 474 = .ok (.iadd, 1) := by decide +kernel
theorem d_Law_law_475 : decode code 475 = .ok (.iaload, 1) := by decide +kernel
theorem d_Law_law_476 : decode code 476 = .ok (.invokevirtual 79, 3) := by decide +kernel
theorem d_Law_law_479 : decode code 479 = .ok (.aload_n 2, 1) := by decide +kernel
theorem d_Law_law_480 : decode code 480 = .ok (.aload_n 0, 1) := by decide +kernel
theorem d_Law_law_481 : decode code 481 = .ok (.iload_n 3, 1) := by decide +kernel
theorem d_Law_law_482 : decode code 482 = .ok (.iconst 1, 1) := by decide +kernel
theorem d_Law_law_483 : decode code 483 = .ok (.iadd, 1) := by decide +kernel
theorem d_Law_law_484 : decode code 484 = .ok (.iaload, 1) := by decide +kernel
theorem d_Law_law_485 : decode code 485 = .ok (.invokevirtual 82, 3) := by decide +kernel
theorem d_Law_law_488 : decode code 488 = .ok (.if_icmp .eq 107, 3) := by decide +kernel
theorem d_Law_law_491 : decode code 491 = .ok (.iconst 0, 1) := by decide +kernel
theorem d_Law_law_492 : decode code 492 = .ok (.ireturn, 1) := by decide +kernel
theorem d_Law_law_493 : decode code 493 = .ok (.aload_n 1, 1) := by decide +kernel
theorem d_Law_law_494 : decode code 494 = .ok (.aload_n 0, 1) := by decide +kernel
theorem d_Law_law_495 : decode code 495 = .ok (.iload_n 3, 1) := by decide +kernel
theorem d_Law_law_496 : decode code 496 = .ok (.iconst 1, 1) := by decide +kernel
theorem d_Law_law_497 : decode code 497 = .ok (.iadd, 1) := by decide +kernel
theorem d_Law_law_498 : decode code 498 = .ok (.iaload, 1) := by decide +kernel
theorem d_Law_law_499 : decode code 499 = .ok (.invokevirtual 83, 3) := by decide +kernel
theorem d_Law_law_502 : decode code 502 = .ok (.aload_n 2, 1) := by decide +kernel
theorem d_Law_law_503 : decode code 503 = .ok (.aload_n 0, 1) := by decide +kernel
theorem d_Law_law_504 : decode code 504 = .ok (.iload_n 3, 1) := by decide +kernel
theorem d_Law_law_505 : decode code 505 = .ok (.iconst 1, 1) := by decide +kernel
theorem d_Law_law_506 : decode code 506 = .ok (.iadd, 1) := by decide +kernel
theorem d_Law_law_507 : decode code 507 = .ok (.iaload, 1) := by decide +kernel
theorem d_Law_law_508 : decode code 508 = .ok (.invokevirtual 87, 3) := by decide +kernel
theorem d_Law_law_511 : decode code 511 = .ok (.lcmp, 1) := by decide +kernel
theorem d_Law_law_512 : decode code 512 = .ok (.ifCond .eq 83, 3) := by decide +kernel
theorem d_Law_law_515 : decode code 515 = .ok (.iconst 0, 1) := by decide +kernel
theorem d_Law_law_516 : decode code 516 = .ok (.ireturn, 1) := by decide +kernel
theorem d_Law_law_517 : decode code 517 = .ok (.aload_n 1, 1) := by decide +kernel
theorem d_Law_law_518 : decode code 518 = .ok (.aload_n 0, 1) := by decide +kernel
theorem d_Law_law_519 : decode code 519 = .ok (.iload_n 3, 1) := by decide +kernel
theorem d_Law_law_520 : decode code 520 = .ok (.iconst 1, 1) := by decide +kernel
theorem d_Law_law_521 : decode code 521 = .ok (.iadd, 1) := by decide +kernel
theorem d_Law_law_522 : decode code 522 = .ok (.iaload, 1) := by decide +kernel
theorem d_Law_law_523 : decode code 523 = .ok (.ifCond .eq 7, 3) := by decide +kernel
theorem d_Law_law_526 : decode code 526 = .ok (.iconst 1, 1) := by decide +kernel
theorem d_Law_law_527 : decode code 527 = .ok (.goto 4, 3) := by decide +kernel
theorem d_Law_law_530 : decode code 530 = .ok (.iconst 0, 1) := by decide +kernel
theorem d_Law_law_531 : decode code 531 = .ok (.invokevirtual 88, 3) := by decide +kernel
theorem d_Law_law_534 : decode code 534 = .ok (.aload_n 2, 1) := by decide +kernel
theorem d_Law_law_535 : decode code 535 = .ok (.aload_n 0, 1) := by decide +kernel
theorem d_Law_law_536 : decode code 536 = .ok (.iload_n 3, 1) := by decide +kernel
theorem d_Law_law_537 : decode code 537 = .ok (.iconst 1, 1) := by decide +kernel
theorem d_Law_law_538 : decode code 538 = .ok (.iadd, 1) := by decide +kernel
theorem d_Law_law_539 : decode code 539 = .ok (.iaload, 1) := by decide +kernel
theorem d_Law_law_540 : decode code 540 = .ok (.ifCond .eq 7, 3) := by decide +kernel
theorem d_Law_law_543 : decode code 543 = .ok (.iconst 1, 1) := by decide +kernel
theorem d_Law_law_544 : decode code 544 = .ok (.goto 4, 3) := by decide +kernel
theorem d_Law_law_547 : decode code 547 = .ok (.iconst 0, 1) := by decide +kernel
theorem d_Law_law_548 : decode code 548 = .ok (.invokevirtual 92, 3) := by decide +kernel
theorem d_Law_law_551 : decode code 551 = .ok (.if_icmp .eq 44, 3) := by decide +kernel
theorem d_Law_law_554 : decode code 554 = .ok (.iconst 0, 1) := by decide +kernel
theorem d_Law_law_555 : decode code 555 = .ok (.ireturn, 1) := by decide +kernel
theorem d_Law_law_556 : decode code 556 = .ok (.aload_n 1, 1) := by decide +kernel
theorem d_Law_law_557 : decode code 557 = .ok (.invokevirtual 93, 3) := by decide +kernel
theorem d_Law_law_560 : decode code 560 = .ok (.aload_n 2, 1) := by decide +kernel
theorem d_Law_law_561 : decode code 561 = .ok (.invokevirtual 96, 3) := by decide +kernel
theorem d_Law_law_564 : decode code 564 = .ok (.if_icmp .eq 31, 3) := by decide +kernel
theorem d_Law_law_567 : decode code 567 = .ok (.iconst 0, 1) := by decide +kernel
theorem d_Law_law_568 : decode code 568 = .ok (.ireturn, 1) := by decide +kernel
theorem d_Law_law_569 : decode code 569 = .ok (.aload_n 1, 1) := by decide +kernel
theorem d_Law_law_570 : decode code 570 = .ok (.invokevirtual 97, 3) := by decide +kernel
theorem d_Law_law_573 : decode code 573 = .ok (.aload_n 2, 1) := by decide +kernel
theorem d_Law_law_574 : decode code 574 = .ok (.invokevirtual 100, 3) := by decide +kernel
theorem d_Law_law_577 : decode code 577 = .ok (.if_icmp .eq 18, 3) := by decide +kernel
theorem d_Law_law_580 : decode code 580 = .ok (.iconst 0, 1) := by decide +kernel
theorem d_Law_law_581 : decode code 581 = .ok (.ireturn, 1) := by decide +kernel
theorem d_Law_law_582 : decode code 582 = .ok (.aload_n 1, 1) := by decide +kernel
theorem d_Law_law_583 : decode code 583 = .ok (.invokevirtual 101, 3) := by decide +kernel
theorem d_Law_law_586 : decode code 586 = .ok (.aload_n 2, 1) := by decide +kernel
theorem d_Law_law_587 : decode code 587 = .ok (.invokevirtual 104, 3) := by decide +kernel
theorem d_Law_law_590 : decode code 590 = .ok (.if_icmp .eq 5, 3) := by decide +kernel
theorem d_Law_law_593 : decode code 593 = .ok (.iconst 0, 1) := by decide +kernel
theorem d_Law_law_594 : decode code 594 = .ok (.ireturn, 1) := by decide +kernel
theorem d_Law_law_595 : decode code 595 = .ok (.iinc 3 4, 3) := by decide +kernel
theorem d_Law_law_598 : decode code 598 = .ok (.goto (-560), 3) := by decide +kernel
theorem d_Law_law_601 : decode code 601 = .ok (.iconst 1, 1) := by decide +kernel
theorem d_Law_law_602 : decode code 602 = .ok (.ireturn, 1) := by decide +kernel
