theorem dX6_wind__58 : decode cX6_wind_ 58 = .ok (.ireturn, 1) := by decide +kernel
theorem dX6_isOrder_0 : decode cX6_isOrder 0 = .ok (.aload_n 0, 1) := by decide +kernel
theorem dX6_isOrder_1 : decode cX6_isOrder 1 = .ok (.getfield 181, 3) := by decide +kernel
theorem dX6_isOrder_4 : decode cX6_isOrder 4 = .ok (.aload_n 0, 1) := by decide +kernel
theorem dX6_isOrder_5 : decode cX6_isOrder 5 = .ok (.getfield 178, 3) := by decide +kernel
theorem dX6_isOrder_8 : decode cX6_isOrder 8 = .ok (.if_icmp .ne 5, 3) := by decide +kernel
theorem dX6_isOrder_11 : decode cX6_isOrder 11 = .ok (.iconst 0, 1) := by decide +kernel
theorem dX6_isOrder_12 : decode cX6_isOrder 12 = .ok (.ireturn, 1) := by decide +kernel
theorem dX6_isOrder_13 : decode cX6_isOrder 13 = .ok (.aload_n 0, 1) := by decide +kernel
theorem dX6_isOrder_14 : decode cX6_isOrder 14 = .ok (.aload_n 0, 1) := by decide +kernel
theorem dX6_isOrder_15 : decode cX6_isOrder 15 = .ok (.getfield 25, 3) := by decide +kernel
theorem dX6_isOrder_18 : decode cX6_isOrder 18 = .ok (.aload_n 0, 1) := by decide +kernel
theorem dX6_isOrder_19 : decode cX6_isOrder 19 = .ok (.getfield 181, 3) := by decide +kernel
theorem dX6_isOrder_22 : decode cX6_isOrder 22 = .ok (.caload, 1) := by decide +kernel
theorem dX6_isOrder_23 : decode cX6_isOrder 23 = .ok (.putfield 192, 3) := by decide +kernel
theorem dX6_isOrder_26 : decode cX6_isOrder 26 = .ok (.aload_n 0, 1) := by decide +kernel
theorem dX6_isOrder_27 : decode cX6_isOrder 27 = .ok (.getfield 25, 3) := by decide +kernel
theorem dX6_isOrder_30 : decode cX6_isOrder 30 = .ok (.aload_n 0, 1) := by decide +kernel
theorem dX6_isOrder_31 : decode cX6_isOrder 31 = .ok (.getfield 181, 3) := by decide +kernel
theorem dX6_isOrder_34 : decode cX6_isOrder 34 = .ok (.caload, 1) := by decide +kernel
theorem dX6_isOrder_35 : decode cX6_isOrder 35 = .ok (.tableswitch 372 98 119 #[145, 372, 189, 372, 101, 372, 294, 372, 372, 372, 233, 372, 372, 372, 372, 372, 372, 372, 372, 277, 372, 311], 101) := by decide +kernel
theorem dX6_isOrder_136 : decode cX6_isOrder 136 = .ok (.aload_n 0, 1) := by decide +kernel
theorem dX6_isOrder_137 : decode cX6_isOrder 137 = .ok (.dup, 1) := by decide +kernel
theorem dX6_isOrder_138 : decode cX6_isOrder 138 = .ok (.getfield 181, 3) := by decide +kernel
theorem dX6_isOrder_141 : decode cX6_isOrder 141 = .ok (.iconst 1, 1) := by decide +kernel
theorem dX6_isOrder_142 : decode cX6_isOrder 142 = .ok (.iadd, 1) := by decide +kernel
theorem dX6_isOrder_143 : decode cX6_isOrder 143 = .ok (.putfield 181, 3) := by decide +kernel
theorem dX6_isOrder_146 : decode cX6_isOrder 146 = .ok (.aload_n 0, 1) := by decide +kernel
theorem dX6_isOrder_147 : decode cX6_isOrder 147 = .ok (.iconst 0, 1) := by decide +kernel
theorem dX6_isOrder_148 : decode cX6_isOrder 148 = .ok (.iconst 1, 1) := by decide +kernel
theorem dX6_isOrder_149 : decode cX6_isOrder 149 = .ok (.invokevirtual 188, 3) := by decide +kernel
theorem dX6_isOrder_152 : decode cX6_isOrder 152 = .ok (.ifCond .eq 26, 3) := by decide +kernel
theorem dX6_isOrder_155 : decode cX6_isOrder 155 = .ok (.aload_n 0, 1) := by decide +kernel
theorem dX6_isOrder_156 : decode cX6_isOrder 156 = .ok (.bipush 61, 2) := by decide +kernel
theorem dX6_isOrder_158 : decode cX6_isOrder 158 = .ok (.iconst 1, 1) := by decide +kernel
theorem dX6_isOrder_159 : decode cX6_isOrder 159 = .ok (.invokevirtual 184, 3) := by decide +kernel
theorem dX6_isOrder_162 : decode cX6_isOrder 162 = .ok (.ifCond .eq 16, 3) := by decide +kernel
theorem dX6_isOrder_165 : decode cX6_isOrder 165 = .ok (.aload_n 0, 1) := by decide +kernel
theorem dX6_isOrder_166 : decode cX6_isOrder 166 = .ok (.iconst 1, 1) := by decide +kernel
theorem dX6_isOrder_167 : decode cX6_isOrder 167 = .ok (.iconst 2, 1) := by decide +kernel
theorem dX6_isOrder_168 : decode cX6_isOrder 168 = .ok (.invokevirtual 188, 3) := by decide +kernel
theorem dX6_isOrder_171 : decode cX6_isOrder 171 = .ok (.ifCond .eq 7, 3) := by decide +kernel
theorem dX6_isOrder_174 : decode cX6_isOrder 174 = .ok (.iconst 1, 1) := by decide +kernel
theorem dX6_isOrder_175 : decode cX6_isOrder 175 = .ok (.goto 4, 3) := by decide +kernel
theorem dX6_isOrder_178 : decode cX6_isOrder 178 = .ok (.iconst 0, 1) := by decide +kernel
theorem dX6_isOrder_179 : decode cX6_isOrder 179 = .ok (.ireturn, 1) := by decide +kernel
theorem dX6_isOrder_180 : decode cX6_isOrder 180 = .ok (.aload_n 0, 1) := by decide +kernel
theorem dX6_isOrder_181 : decode cX6_isOrder 181 = .ok (.dup, 1) := by decide +kernel
theorem dX6_isOrder_182 : decode cX6_isOrder 182 = .ok (.getfield 181, 3) := by decide +kernel
theorem dX6_isOrder_185 : decode cX6_isOrder 185 = .ok (.iconst 1, 1) := by decide +kernel
theorem dX6_isOrder_186 : decode cX6_isOrder 186 = .ok (.iadd, 1) := by decide +kernel
theorem dX6_isOrder_187 : decode cX6_isOrder 187 = .ok (.putfield 181, 3) := by decide +kernel
theorem dX6_isOrder_190 : decode cX6_isOrder 190 = .ok (.aload_n 0, 1) := by decide +kernel
theorem dX6_isOrder_191 : decode cX6_isOrder 191 = .ok (.iconst 0, 1) := by decide +kernel
theorem dX6_isOrder_192 : decode cX6_isOrder 192 = .ok (.iconst 1, 1) := by decide +kernel
theorem dX6_isOrder_193 : decode cX6_isOrder 193 = .ok (.invokevirtual 188, 3) := by decide +kernel
theorem dX6_isOrder_196 : decode cX6_isOrder 196 = .ok (.ifCond .eq 26, 3) := by decide +kernel
theorem dX6_isOrder_199 : decode cX6_isOrder 199 = .ok (.aload_n 0, 1) := by decide +kernel
theorem dX6_isOrder_200 : decode cX6_isOrder 200 = .ok (.bipush 43, 2) := by decide +kernel
theorem dX6_isOrder_202 : decode cX6_isOrder 202 = .ok (.iconst 1, 1) := by decide +kernel
theorem dX6_isOrder_203 : decode cX6_isOrder 203 = .ok (.invokevirtual 184, 3) := by decide +kernel
theorem dX6_isOrder_206 : decode cX6_isOrder 206 = .ok (.ifCond .eq 16, 3) := by decide +kernel
theorem dX6_isOrder_209 : decode cX6_isOrder 209 = .ok (.aload_n 0, 1) := by decide +kernel
theorem dX6_isOrder_210 : decode cX6_isOrder 210 = .ok (.iconst 1, 1) := by decide +kernel
theorem dX6_isOrder_211 : decode cX6_isOrder 211 = .ok (.iconst 2, 1) := by decide +kernel
theorem dX6_isOrder_212 : decode cX6_isOrder 212 = .ok (.invokevirtual 188, 3) := by decide +kernel
theorem dX6_isOrder_215 : decode cX6_isOrder 215 = .ok (.ifCond .eq 7, 3) := by decide +kernel
theorem dX6_isOrder_218 : decode cX6_isOrder 218 = .ok (.iconst 1, 1) := by decide +kernel
theorem dX6_isOrder_219 : decode cX6_isOrder 219 = .ok (.goto 4, 3) := by decide +kernel
theorem dX6_isOrder_222 : decode cX6_isOrder 222 = .ok (.iconst 0, 1) := by decide +kernel
theorem dX6_isOrder_223 : decode cX6_isOrder 223 = .ok (.ireturn, 1) := by decide +kernel
theorem dX6_isOrder_224 : decode cX6_isOrder 224 = .ok (.aload_n 0, 1) := by decide +kernel
theorem dX6_isOrder_225 : decode cX6_isOrder 225 = .ok (.dup, 1) := by decide +kernel
theorem dX6_isOrder_226 : decode cX6_isOrder 226 = .ok (.getfield 181, 3) := by decide +kernel
theorem dX6_isOrder_229 : decode cX6_isOrder 229 = .ok (.iconst 1, 1) := by decide +kernel
theorem dX6_isOrder_230 : decode cX6_isOrder 230 = .ok (.iadd, 1) := by decide +kernel
theorem dX6_isOrder_231 : decode cX6_isOrder 231 = .ok (.putfield 181, 3) := by decide +kernel
theorem dX6_isOrder_234 : decode cX6_isOrder 234 = .ok (.aload_n 0, 1) := by decide +kernel
theorem dX6_isOrder_235 : decode cX6_isOrder 235 = .ok (.iconst 0, 1) := by decide +kernel
theorem dX6_isOrder_236 : decode cX6_isOrder 236 = .ok (.iconst 1, 1) := by decide +kernel
theorem dX6_isOrder_237 : decode cX6_isOrder 237 = .ok (.invokevirtual 188, 3) := by decide +kernel
theorem dX6_isOrder_240 : decode cX6_isOrder 240 = .ok (.ifCond .eq 26, 3) := by decide +kernel
theorem dX6_isOrder_243 : decode cX6_isOrder 243 = .ok (.aload_n 0, 1) := by decide +kernel
theorem dX6_isOrder_244 : decode cX6_isOrder 244 = .ok (.bipush 45, 2) := by decide +kernel
theorem dX6_isOrder_246 : decode cX6_isOrder 246 = .ok (.iconst 1, 1) := by decide +kernel
theorem dX6_isOrder_247 : decode cX6_isOrder 247 = .ok (.invokevirtual 184, 3) := by decide +kernel
theorem dX6_isOrder_250 : decode cX6_isOrder 250 = .ok (.ifCond .eq 16, 3) := by decide +kernel
theorem dX6_isOrder_253 : decode cX6_isOrder 253 = .ok (.aload_n 0, 1) := by decide +kernel
theorem dX6_isOrder_254 : decode cX6_isOrder 254 = .ok (.iconst 1, 1) := by decide +kernel
theorem dX6_isOrder_255 : decode cX6_isOrder 255 = .ok (.iconst 2, 1) := by decide +kernel
theorem dX6_isOrder_256 : decode cX6_isOrder 256 = .ok (.invokevirtual 188, 3) := by decide +kernel
theorem dX6_isOrder_259 : decode cX6_isOrder 259 = .ok (.ifCond .eq 7, 3) := by decide +kernel
theorem dX6_isOrder_262 : decode cX6_isOrder 262 = .ok (.iconst 1, 1) := by decide +kernel
theorem dX6_isOrder_263 : decode cX6_isOrder 263 = .ok (.goto 4, 3) := by decide +kernel
theorem dX6_isOrder_266 : decode cX6_isOrder 266 = .ok (.iconst 0, 1) := by decide +kernel
theorem dX6_isOrder_267 : decode cX6_isOrder 267 = .ok (.ireturn, 1) := by decide +kernel
theorem dX6_isOrder_268 : decode cX6_isOrder 268 = .ok (.aload_n 0, 1) := by decide +kernel
theorem dX6_isOrder_269 : decode cX6_isOrder 269 = .ok (.dup, 1) := by decide +kernel
theorem dX6_isOrder_270 : decode cX6_isOrder 270 = .ok (.getfield 181, 3) := by decide +kernel
theorem dX6_isOrder_273 : decode cX6_isOrder 273 = .ok (.iconst 1, 1) := by decide +kernel
theorem dX6_isOrder_274 : decode cX6_isOrder 274 = .ok (.iadd, 1) := by decide +kernel
theorem dX6_isOrder_275 : decode cX6_isOrder 275 = .ok (.putfield 181, 3) := by decide +kernel
theorem dX6_isOrder_278 : decode cX6_isOrder 278 = .ok (.aload_n 0, 1) := by decide +kernel
theorem dX6_isOrder_279 : decode cX6_isOrder 279 = .ok (.iconst 0, 1) := by decide +kernel
theorem dX6_isOrder_280 : decode cX6_isOrder 280 = .ok (.iconst 2, 1) := by decide +kernel
theorem dX6_isOrder_281 : decode cX6_isOrder 281 = .ok (.invokevirtual 188, 3) := by decide +kernel
theorem dX6_isOrder_284 : decode cX6_isOrder 284 = .ok (.ifCond .eq 26, 3) := by decide +kernel
theorem dX6_isOrder_287 : decode cX6_isOrder 287 = .ok (.aload_n 0, 1) := by decide +kernel
theorem dX6_isOrder_288 : decode cX6_isOrder 288 = .ok (.bipush 64, 2) := by decide +kernel
theorem dX6_isOrder_290 : decode cX6_isOrder 290 = .ok (.iconst 1, 1) := by decide +kernel
theorem dX6_isOrder_291 : decode cX6_isOrder 291 = .ok (.invokevirtual 184, 3) := by decide +kernel
theorem dX6_isOrder_294 : decode cX6_isOrder 294 = .ok (.ifCond .eq 16, 3) := by decide +kernel
theorem dX6_isOrder_297 : decode cX6_isOrder 297 = .ok (.aload_n 0, 1) := by decide +kernel
theorem dX6_isOrder_298 : decode cX6_isOrder 298 = .ok (.iconst 1, 1) := by decide +kernel
theorem dX6_isOrder_299 : decode cX6_isOrder 299 = .ok (.iconst 1, 1) := by decide +kernel
theorem dX6_isOrder_300 : decode cX6_isOrder 300 = .ok (.invokevirtual 188, 3) := by decide +kernel
theorem dX6_isOrder_303 : decode cX6_isOrder 303 = .ok (.ifCond .eq 7, 3) := by decide +kernel
theorem dX6_isOrder_306 : decode cX6_isOrder 306 = .ok (.iconst 1, 1) := by decide +kernel
theorem dX6_isOrder_307 : decode cX6_isOrder 307 = .ok (.goto 4, 3) := by decide +kernel
theorem dX6_isOrder_310 : decode cX6_isOrder 310 = .ok (.iconst 0, 1) := by decide +kernel
theorem dX6_isOrder_311 : decode cX6_isOrder 311 = .ok (.ireturn, 1) := by decide +kernel
theorem dX6_isOrder_312 : decode cX6_isOrder 312 = .ok (.aload_n 0, 1) := by decide +kernel
theorem dX6_isOrder_313 : decode cX6_isOrder 313 = .ok (.dup, 1) := by decide +kernel
theorem dX6_isOrder_314 : decode cX6_isOrder 314 = .ok (.getfield 181, 3) := by decide +kernel
theorem dX6_isOrder_317 : decode cX6_isOrder 317 = .ok (.iconst 1, 1) := by decide +kernel
theorem dX6_isOrder_318 : decode cX6_isOrder 318 = .ok (.iadd, 1) := by decide +kernel
theorem dX6_isOrder_319 : decode cX6_isOrder 319 = .ok (.putfield 181, 3) := by decide +kernel
theorem dX6_isOrder_322 : decode cX6_isOrder 322 = .ok (.aload_n 0, 1) := by decide +kernel
theorem dX6_isOrder_323 : decode cX6_isOrder 323 = .ok (.iconst 0, 1) := by decide +kernel
theorem dX6_isOrder_324 : decode cX6_isOrder 324 = .ok (.iconst 1, 1) := by decide +kernel
theorem dX6_isOrder_325 : decode cX6_isOrder 325 = .ok (.invokevirtual 188, 3) := by decide +kernel
theorem dX6_isOrder_328 : decode cX6_isOrder 328 = .ok (.ireturn, 1) := by decide +kernel
theorem dX6_isOrder_329 : decode cX6_isOrder 329 = .ok (.aload_n 0, 1) := by decide +kernel
theorem dX6_isOrder_330 : decode cX6_isOrder 330 = .ok (.dup, 1) := by decide +kernel
theorem dX6_isOrder_331 : decode cX6_isOrder 331 = .ok (.getfield 181, 3) := by decide +kernel
theorem dX6_isOrder_334 : decode cX6_isOrder 334 = .ok (.iconst 1, 1) := by decide +kernel
theorem dX6_isOrder_335 : decode cX6_isOrder 335 = .ok (.iadd, 1) := by decide +kernel
theorem dX6_isOrder_336 : decode cX6_isOrder 336 = .ok (.putfield 181, 3) := by decide +kernel
theorem dX6_isOrder_339 : decode cX6_isOrder 339 = .ok (.aload_n 0, 1) := by decide +kernel
theorem dX6_isOrder_340 : decode cX6_isOrder 340 = .ok (.iconst 0, 1) := by decide +kernel
theorem dX6_isOrder_341 : decode cX6_isOrder 341 = .ok (.iconst 2, 1) := by decide +kernel
theorem dX6_isOrder_342 : decode cX6_isOrder 342 = .ok (.invokevirtual 188, 3) := by decide +kernel
theorem dX6_isOrder_345 : decode cX6_isOrder 345 = .ok (.ireturn, 1) := by decide +kernel
theorem dX6_isOrder_346 : decode cX6_isOrder 346 = .ok (.aload_n 0, 1) := by decide +kernel
theorem dX6_isOrder_347 : decode cX6_isOrder 347 = .ok (.dup, 1) := by decide +kernel
theorem dX6_isOrder_348 : decode cX6_isOrder 348 = .ok (.getfield 181, 3) := by decide +kernel
theorem dX6_isOrder_351 : decode cX6_isOrder 351 = .ok (.iconst 1, 1) := by decide +kernel
theorem dX6_isOrder_352 : decode cX6_isOrder 352 = .ok (.iadd, 1) := by decide +kernel
theorem dX6_isOrder_353 : decode cX6_isOrder 353 = .ok (.putfield 181, 3) := by decide +kernel
theorem dX6_isOrder_356 : decode cX6_isOrder 356 = .ok (.aload_n 0, 1) := by decide +kernel
theorem dX6_isOrder_357 : decode cX6_isOrder 357 = .ok (.iconst 0, 1) := by decide +kernel
theorem dX6_isOrder_358 : decode cX6_isOrder 358 = .ok (.iconst 1, 1) := by decide +kernel
theorem dX6_isOrder_359 : decode cX6_isOrder 359 = .ok (.invokevirtual 188, 3) := by decide +kernel
theorem dX6_isOrder_362 : decode cX6_isOrder 362 = .ok (.ifCond .eq 43, 3) := by decide +kernel
theorem dX6_isOrder_365 : decode cX6_isOrder 365 = .ok (.aload_n 0, 1) := by decide +kernel
theorem dX6_isOrder_366 : decode cX6_isOrder 366 = .ok (.bipush 58, 2) := by decide +kernel
theorem dX6_isOrder_368 : decode cX6_isOrder 368 = .ok (.iconst 1, 1) := by decide +kernel
theorem dX6_isOrder_369 : decode cX6_isOrder 369 = .ok (.invokevirtual 184, 3) := by decide +kernel
theorem dX6_isOrder_372 : decode cX6_isOrder 372 = .ok (.ifCond .eq 33, 3) := by decide +kernel
theorem dX6_isOrder_375 : decode cX6_isOrder 375 = .ok (.aload_n 0, 1) := by decide +kernel
theorem dX6_isOrder_376 : decode cX6_isOrder 376 = .ok (.iconst 1, 1) := by decide +kernel
theorem dX6_isOrder_377 : decode cX6_isOrder 377 = .ok (.invokevirtual 195, 3) := by decide +kernel
theorem dX6_isOrder_380 : decode cX6_isOrder 380 = .ok (.ifCond .eq 25, 3) := by decide +kernel
theorem dX6_isOrder_383 : decode cX6_isOrder 383 = .ok (.aload_n 0, 1) := by decide +kernel
theorem dX6_isOrder_384 : decode cX6_isOrder 384 = .ok (.bipush 44, 2) := by decide +kernel
theorem dX6_isOrder_386 : decode cX6_isOrder 386 = .ok (.iconst 1, 1) := by decide +kernel
theorem dX6_isOrder_387 : decode cX6_isOrder 387 = .ok (.invokevirtual 184, 3) := by decide +kernel
theorem dX6_isOrder_390 : decode cX6_isOrder 390 = .ok (.ifCond .eq 15, 3) := by decide +kernel
theorem dX6_isOrder_393 : decode cX6_isOrder 393 = .ok (.aload_n 0, 1) := by decide +kernel
theorem dX6_isOrder_394 : decode cX6_isOrder 394 = .ok (.iconst 2, 1) := by decide +kernel
theorem dX6_isOrder_395 : decode cX6_isOrder 395 = .ok (.invokevirtual 195, 3) := by decide +kernel
theorem dX6_isOrder_398 : decode cX6_isOrder 398 = .ok (.ifCond .eq 7, 3) := by decide +kernel
theorem dX6_isOrder_401 : decode cX6_isOrder 401 = .ok (.iconst 1, 1) := by decide +kernel
theorem dX6_isOrder_402 : decode cX6_isOrder 402 = .ok (.goto 4, 3) := by decide +kernel
theorem dX6_isOrder_405 : decode cX6_isOrder 405 = .ok (.iconst 0, 1) := by decide +kernel
theorem dX6_isOrder_406 : decode cX6_isOrder 406 = .ok (.ireturn, 1) := by decide +kernel
theorem dX6_isOrder_407 : decode cX6_isOrder 407 = .ok (.iconst 0, 1) := by decide +kernel
theorem dX6_isOrder_408 : decode cX6_isOrder 408 = .ok (.ireturn, 1) := by decide +kernel
theorem dX6_carries_0 : decode cX6_carries 0 = .ok (.aload_n 0, 1) := by decide +kernel
theorem dX6_carries_1 : decode cX6_carries 1 = .ok (.getfield 192, 3) := by decide +kernel
theorem dX6_carries_4 : decode cX6_carries 4 = .ok (.tableswitch 186 98 117 #[113, 186, 130, 186, 96, 186, 175, 186, 186, 186, 147, 186, 186, 186, 186, 186, 186, 186, 186, 164], 96) := by decide +kernel
theorem dX6_carries_100 : decode cX6_carries 100 = .ok (.aload_n 0, 1) := by decide +kernel
theorem dX6_carries_101 : decode cX6_carries 101 = .ok (.aload_n 0, 1) := by decide +kernel
theorem dX6_carries_102 : decode cX6_carries 102 = .ok (.getfield 29, 3) := by decide +kernel
theorem dX6_carries_105 : decode cX6_carries 105 = .ok (.iconst 0, 1) := by decide +kernel
theorem dX6_carries_106 : decode cX6_carries 106 = .ok (.iaload, 1) := by decide +kernel
theorem dX6_carries_107 : decode cX6_carries 107 = .ok (.aload_n 0, 1) := by decide +kernel
theorem dX6_carries_108 : decode cX6_carries 108 = .ok (.getfield 29, 3) := by decide +kernel
theorem dX6_carries_111 : decode cX6_carries 111 = .ok (.iconst 1, 1) := by decide +kernel
theorem dX6_carries_112 : decode cX6_carries 112 = .ok (.iaload, 1) := by decide +kernel
theorem dX6_carries_113 : decode cX6_carries 113 = .ok (.invokevirtual 110, 3) := by decide +kernel
theorem dX6_carries_116 : decode cX6_carries 116 = .ok (.ireturn, 1) := by decide +kernel
theorem dX6_carries_117 : decode cX6_carries 117 = .ok (.aload_n 0, 1) := by decide +kernel
theorem dX6_carries_118 : decode cX6_carries 118 = .ok (.aload_n 0, 1) := by decide +kernel
theorem dX6_carries_119 : decode cX6_carries 119 = .ok (.getfield 29, 3) := by decide +kernel
theorem dX6_carries_122 : decode cX6_carries 122 = .ok (.iconst 0, 1) := by decide +kernel
theorem dX6_carries_123 : decode cX6_carries 123 = .ok (.iaload, 1) := by decide +kernel
theorem dX6_carries_124 : decode cX6_carries 124 = .ok (.aload_n 0, 1) := by decide +kernel
theorem dX6_carries_125 : decode cX6_carries 125 = .ok (.getfield 29, 3) := by decide +kernel
theorem dX6_carries_128 : decode cX6_carries 128 = .ok (.iconst 1, 1) := by decide +kernel
theorem dX6_carries_129 : decode cX6_carries 129 = .ok (.iaload, 1) := by decide +kernel
theorem dX6_carries_130 : decode cX6_carries 130 = .ok (.invokevirtual 113, 3) := by decide +kernel
theorem dX6_carries_133 : decode cX6_carries 133 = .ok (.ireturn, 1) := by decide +kernel
theorem dX6_carries_134 : decode cX6_carries 134 = .ok (.aload_n 0, 1) := by decide +kernel
theorem dX6_carries_135 : decode cX6_carries 135 = .ok (.aload_n 0, 1) := by decide +kernel
theorem dX6_carries_136 : decode cX6_carries 136 = .ok (.getfield 29, 3) := by decide +kernel
theorem dX6_carries_139 : decode cX6_carries 139 = .ok (.iconst 0, 1) := by decide +kernel
theorem dX6_carries_140 : decode cX6_carries 140 = .ok (.iaload, 1) := by decide +kernel
theorem dX6_carries_141 : decode cX6_carries 141 = .ok (.aload_n 0, 1) := by decide +kernel
theorem dX6_carries_142 : decode cX6_carries 142 = .ok (.getfield 29, 3) := by decide +kernel
theorem dX6_carries_145 : decode cX6_carries 145 = .ok (.iconst 1, 1) := by decide +kernel
theorem dX6_carries_146 : decode cX6_carries 146 = .ok (.iaload, 1) := by decide +kernel
theorem dX6_carries_147 : decode cX6_carries 147 = .ok (.invokevirtual 131, 3) := by decide +kernel
theorem dX6_carries_150 : decode cX6_carries 150 = .ok (.ireturn, 1) := by decide +kernel
theorem dX6_carries_151 : decode cX6_carries 151 = .ok (.aload_n 0, 1) := by decide +kernel
theorem dX6_carries_152 : decode cX6_carries 152 = .ok (.aload_n 0, 1) := by decide +kernel
theorem dX6_carries_153 : decode cX6_carries 153 = .ok (.getfield 29, 3) := by decide +kernel
theorem dX6_carries_156 : decode cX6_carries 156 = .ok (.iconst 0, 1) := by decide +kernel
theorem dX6_carries_157 : decode cX6_carries 157 = .ok (.iaload, 1) := by decide +kernel
theorem dX6_carries_158 : decode cX6_carries 158 = .ok (.aload_n 0, 1) := by decide +kernel
theorem dX6_carries_159 : decode cX6_carries 159 = .ok (.getfield 29, 3) := by decide +kernel
theorem dX6_carries_162 : decode cX6_carries 162 = .ok (.iconst 1, 1) := by decide +kernel
theorem dX6_carries_163 : decode cX6_carries 163 = .ok (.iaload, 1) := by decide +kernel
theorem dX6_carries_164 : decode cX6_carries 164 = .ok (.invokevirtual 119, 3) := by decide +kernel
theorem dX6_carries_167 : decode cX6_carries 167 = .ok (.ireturn, 1) := by decide +kernel
theorem dX6_carries_168 : decode cX6_carries 168 = .ok (.aload_n 0, 1) := by decide +kernel
theorem dX6_carries_169 : decode cX6_carries 169 = .ok (.aload_n 0, 1) := by decide +kernel
theorem dX6_carries_170 : decode cX6_carries 170 = .ok (.getfield 29, 3) := by decide +kernel
theorem dX6_carries_173 : decode cX6_carries 173 = .ok (.iconst 0, 1) := by decide +kernel
theorem dX6_carries_174 : decode cX6_carries 174 = .ok (.iaload, 1) := by decide +kernel
theorem dX6_carries_175 : decode cX6_carries 175 = .ok (.invokevirtual 128, 3) := by decide +kernel
theorem dX6_carries_178 : decode cX6_carries 178 = .ok (.ireturn, 1) := by decide +kernel
theorem dX6_carries_179 : decode cX6_carries 179 = .ok (.aload_n 0, 1) := by decide +kernel
theorem dX6_carries_180 : decode cX6_carries 180 = .ok (.aload_n 0, 1) := by decide +kernel
theorem dX6_carries_181 : decode cX6_carries 181 = .ok (.getfield 29, 3) := by decide +kernel
theorem dX6_carries_184 : decode cX6_carries 184 = .ok (.iconst 0, 1) := by decide +kernel
theorem dX6_carries_185 : decode cX6_carries 185 = .ok (.iaload, 1) := by decide +kernel
theorem dX6_carries_186 : decode cX6_carries 186 = .ok (.invokevirtual 149, 3) := by decide +kernel
theorem dX6_carries_189 : decode cX6_carries 189 = .ok (.ireturn, 1) := by decide +kernel
theorem dX6_carries_190 : decode cX6_carries 190 = .ok (.aload_n 0, 1) := by decide +kernel
theorem dX6_carries_191 : decode cX6_carries 191 = .ok (.aload_n 0, 1) := by decide +kernel
theorem dX6_carries_192 : decode cX6_carries 192 = .ok (.getfield 29, 3) := by decide +kernel
theorem dX6_carries_195 : decode cX6_carries 195 = .ok (.iconst 0, 1) := by decide +kernel
theorem dX6_carries_196 : decode cX6_carries 196 = .ok (.iaload, 1) := by decide +kernel
theorem dX6_carries_197 : decode cX6_carries 197 = .ok (.aload_n 0, 1) := by decide +kernel
theorem dX6_carries_198 : decode cX6_carries 198 = .ok (.getfield 29, 3) := by decide +kernel
theorem dX6_carries_201 : decode cX6_carries 201 = .ok (.iconst 1, 1) := by decide +kernel
theorem dX6_carries_202 : decode cX6_carries 202 = .ok (.iaload, 1) := by decide +kernel
theorem dX6_carries_203 : decode cX6_carries 203 = .ok (.aload_n 0, 1) := by decide +kernel
theorem dX6_carries_204 : decode cX6_carries 204 = .ok (.getfield 29, 3) := by decide +kernel
theorem dX6_carries_207 : decode cX6_carries 207 = .ok (.iconst 2, 1) := by decide +kernel
theorem dX6_carries_208 : decode cX6_carries 208 = .ok (.iaload, 1) := by decide +kernel
theorem dX6_carries_209 : decode cX6_carries 209 = .ok (.invokevirtual 89, 3) := by decide +kernel
theorem dX6_carries_212 : decode cX6_carries 212 = .ok (.ireturn, 1) := by decide +kernel
theorem dX6_read_0 : decode cX6_read 0 = .ok (.aload_n 0, 1) := by decide +kernel
theorem dX6_read_1 : decode cX6_read 1 = .ok (.invokevirtual 83, 3) := by decide +kernel
theorem dX6_read_4 : decode cX6_read 4 = .ok (.aload_n 0, 1) := by decide +kernel
theorem dX6_read_5 : decode cX6_read 5 = .ok (.iconst 0, 1) := by decide +kernel
theorem dX6_read_6 : decode cX6_read 6 = .ok (.putfield 181, 3) := by decide +kernel
theorem dX6_read_9 : decode cX6_read 9 = .ok (.aload_n 0, 1) := by decide +kernel
theorem dX6_read_10 : decode cX6_read 10 = .ok (.iconst (-1), 1) := by decide +kernel
theorem dX6_read_11 : decode cX6_read 11 = .ok (.putfield 32, 3) := by decide +kernel
theorem dX6_read_14 : decode cX6_read 14 = .ok (.aload_n 0, 1) := by decide +kernel
theorem dX6_read_15 : decode cX6_read 15 = .ok (.invokevirtual 198, 3) := by decide +kernel
theorem dX6_read_18 : decode cX6_read 18 = .ok (.istore_n 1, 1) := by decide +kernel
theorem dX6_read_19 : decode cX6_read 19 = .ok (.iload_n 1, 1) := by decide +kernel
theorem dX6_read_20 : decode cX6_read 20 = .ok (.ifCond .eq 40, 3) := by decide +kernel
theorem dX6_read_23 : decode cX6_read 23 = .ok (.aload_n 0, 1) := by decide +kernel
theorem dX6_read_24 : decode cX6_read 24 = .ok (.getfield 181, 3) := by decide +kernel
theorem dX6_read_27 : decode cX6_read 27 = .ok (.aload_n 0, 1) := by decide +kernel
theorem dX6_read_28 : decode cX6_read 28 = .ok (.getfield 178, 3) := by decide +kernel
theorem dX6_read_31 : decode cX6_read 31 = .ok (.if_icmp .ge 29, 3) := by decide +kernel
theorem dX6_read_34 : decode cX6_read 34 = .ok (.aload_n 0, 1) := by decide +kernel
theorem dX6_read_35 : decode cX6_read 35 = .ok (.bipush 59, 2) := by decide +kernel
theorem dX6_read_37 : decode cX6_read 37 = .ok (.iconst 1, 1) := by decide +kernel
theorem dX6_read_38 : decode cX6_read 38 = .ok (.invokevirtual 184, 3) := by decide +kernel
theorem dX6_read_41 : decode cX6_read 41 = .ok (.ifCond .eq 14, 3) := by decide +kernel
theorem dX6_read_44 : decode cX6_read 44 = .ok (.aload_n 0, 1) := by decide +kernel
theorem dX6_read_45 : decode cX6_read 45 = .ok (.invokevirtual 198, 3) := by decide +kernel
theorem dX6_read_48 : decode cX6_read 48 = .ok (.ifCond .eq 7, 3) := by decide +kernel
theorem dX6_read_51 : decode cX6_read 51 = .ok (.iconst 1, 1) := by decide +kernel
theorem dX6_read_52 : decode cX6_read 52 = .ok (.goto 4, 3) := by decide +kernel
theorem dX6_read_55 : decode cX6_read 55 = .ok (.iconst 0, 1) := by decide +kernel
theorem dX6_read_56 : decode cX6_read 56 = .ok (.istore_n 1, 1) := by decide +kernel
theorem dX6_read_57 : decode cX6_read 57 = .ok (.goto (-38), 3) := by decide +kernel
theorem dX6_read_60 : decode cX6_read 60 = .ok (.iload_n 1, 1) := by decide +kernel
theorem dX6_read_61 : decode cX6_read 61 = .ok (.ifCond .ne 22, 3) := by decide +kernel
theorem dX6_read_64 : decode cX6_read 64 = .ok (.aload_n 0, 1) := by decide +kernel
theorem dX6_read_65 : decode cX6_read 65 = .ok (.iconst 0, 1) := by decide +kernel
theorem dX6_read_66 : decode cX6_read 66 = .ok (.putfield 178, 3) := by decide +kernel
theorem dX6_read_69 : decode cX6_read 69 = .ok (.aload_n 0, 1) := by decide +kernel
theorem dX6_read_70 : decode cX6_read 70 = .ok (.aload_n 0, 1) := by decide +kernel
theorem dX6_read_71 : decode cX6_read 71 = .ok (.getfield 181, 3) := by decide +kernel
theorem dX6_read_74 : decode cX6_read 74 = .ok (.putfield 32, 3) := by decide +kernel
theorem dX6_read_77 : decode cX6_read 77 = .ok (.aload_n 0, 1) := by decide +kernel
theorem dX6_read_78 : decode cX6_read 78 = .ok (.iconst 1, 1) := by decide +kernel
theorem dX6_read_79 : decode cX6_read 79 = .ok (.invokevirtual 55, 3) := by decide +kernel
theorem dX6_read_82 : decode cX6_read 82 = .ok (.ireturn, 1) := by decide +kernel
theorem dX6_read_83 : decode cX6_read 83 = .ok (.aload_n 0, 1) := by decide +kernel
theorem dX6_read_84 : decode cX6_read 84 = .ok (.iconst 0, 1) := by decide +kernel
theorem dX6_read_85 : decode cX6_read 85 = .ok (.putfield 181, 3) := by decide +kernel
theorem dX6_read_88 : decode cX6_read 88 = .ok (.iconst 0, 1) := by decide +kernel
theorem dX6_read_89 : decode cX6_read 89 = .ok (.istore_n 2, 1) := by decide +kernel
theorem dX6_read_90 : decode cX6_read 90 = .ok (.iconst 0, 1) := by decide +kernel
theorem dX6_read_91 : decode cX6_read 91 = .ok (.istore_n 3, 1) := by decide +kernel
theorem dX6_read_92 : decode cX6_read 92 = .ok (.iconst 1, 1) := by decide +kernel
theorem dX6_read_93 : decode cX6_read 93 = .ok (.istore 4, 2) := by decide +kernel
theorem dX6_read_95 : decode cX6_read 95 = .ok (.iload 4, 2) := by decide +kernel
theorem dX6_read_97 : decode cX6_read 97 = .ok (.ifCond .eq 55, 3) := by decide +kernel
theorem dX6_read_100 : decode cX6_read 100 = .ok (.aload_n 0, 1) := by decide +kernel
theorem dX6_read_101 : decode cX6_read 101 = .ok (.invokevirtual 198, 3) := by decide +kernel
theorem dX6_read_104 : decode cX6_read 104 = .ok (.istore_n 1, 1) := by decide +kernel
theorem dX6_read_105 : decode cX6_read 105 = .ok (.aload_n 0, 1) := by decide +kernel
theorem dX6_read_106 : decode cX6_read 106 = .ok (.invokevirtual 202, 3) := by decide +kernel
theorem dX6_read_109 : decode cX6_read 109 = .ok (.istore_n 3, 1) := by decide +kernel
theorem dX6_read_110 : decode cX6_read 110 = .ok (.iload_n 3, 1) := by decide +kernel
theorem dX6_read_111 : decode cX6_read 111 = .ok (.ifCond .ne 6, 3) := by decide +kernel
theorem dX6_read_114 : decode cX6_read 114 = .ok (.iinc 2 1, 3) := by decide +kernel
theorem dX6_read_117 : decode cX6_read 117 = .ok (.iload_n 3, 1) := by decide +kernel
theorem dX6_read_118 : decode cX6_read 118 = .ok (.ifCond .ne 28, 3) := by decide +kernel
theorem dX6_read_121 : decode cX6_read 121 = .ok (.aload_n 0, 1) := by decide +kernel
theorem dX6_read_122 : decode cX6_read 122 = .ok (.getfield 181, 3) := by decide +kernel
theorem dX6_read_125 : decode cX6_read 125 = .ok (.aload_n 0, 1) := by decide +kernel
theorem dX6_read_126 : decode cX6_read 126 = .ok (.getfield 178, 3) := by decide +kernel
theorem dX6_read_129 : decode cX6_read 129 = .ok (.if_icmp .ge 17, 3) := by decide +kernel
theorem dX6_read_132 : decode cX6_read 132 = .ok (.aload_n 0, 1) := by decide +kernel
theorem dX6_read_133 : decode cX6_read 133 = .ok (.bipush 59, 2) := by decide +kernel
theorem dX6_read_135 : decode cX6_read 135 = .ok (.iconst 1, 1) := by decide +kernel
theorem dX6_read_136 : decode cX6_read 136 = .ok (.invokevirtual 184, 3) := by decide +kernel
theorem dX6_read_139 : decode cX6_read 139 = .ok (.ifCond .eq 7, 3) := by decide +kernel
theorem dX6_read_142 : decode cX6_read 142 = .ok (.iconst 1, 1) := by decide +kernel
theorem dX6_read_143 : decode cX6_read 143 = .ok (.goto 4, 3) := by decide +kernel
theorem dX6_read_146 : decode cX6_read 146 = .ok (.iconst 0, 1) := by decide +kernel
theorem dX6_read_147 : decode cX6_read 147 = .ok (.istore 4, 2) := by decide +kernel
theorem dX6_read_149 : decode cX6_read 149 = .ok (.goto (-54), 3) := by decide +kernel
theorem dX6_read_152 : decode cX6_read 152 = .ok (.aload_n 0, 1) := by decide +kernel
theorem dX6_read_153 : decode cX6_read 153 = .ok (.iconst 0, 1) := by decide +kernel
theorem dX6_read_154 : decode cX6_read 154 = .ok (.putfield 178, 3) := by decide +kernel
theorem dX6_read_157 : decode cX6_read 157 = .ok (.iload_n 3, 1) := by decide +kernel
theorem dX6_read_158 : decode cX6_read 158 = .ok (.ifCond .ne 9, 3) := by decide +kernel
theorem dX6_read_161 : decode cX6_read 161 = .ok (.aload_n 0, 1) := by decide +kernel
theorem dX6_read_162 : decode cX6_read 162 = .ok (.iload_n 2, 1) := by decide +kernel
theorem dX6_read_163 : decode cX6_read 163 = .ok (.invokevirtual 51, 3) := by decide +kernel
theorem dX6_read_166 : decode cX6_read 166 = .ok (.ireturn, 1) := by decide +kernel
theorem dX6_read_167 : decode cX6_read 167 = .ok (.aload_n 0, 1) := by decide +kernel
theorem dX6_read_168 : decode cX6_read 168 = .ok (.invokevirtual 205, 3) := by decide +kernel
theorem dX6_read_171 : decode cX6_read 171 = .ok (.aload_n 0, 1) := by decide +kernel
theorem dX6_read_172 : decode cX6_read 172 = .ok (.iload_n 3, 1) := by decide +kernel
theorem dX6_read_173 : decode cX6_read 173 = .ok (.ifCond .ge 7, 3) := by decide +kernel
theorem dX6_read_176 : decode cX6_read 176 = .ok (.iconst 1, 1) := by decide +kernel
theorem dX6_read_177 : decode cX6_read 177 = .ok (.goto 4, 3) := by decide +kernel
theorem dX6_read_180 : decode cX6_read 180 = .ok (.iconst 2, 1) := by decide +kernel
theorem dX6_read_181 : decode cX6_read 181 = .ok (.invokevirtual 55, 3) := by decide +kernel
theorem dX6_read_184 : decode cX6_read 184 = .ok (.ireturn, 1) := by decide +kernel
theorem dX6_errorPosition_0 : decode cX6_errorPosition 0 = .ok (.aload_n 0, 1) := by decide +kernel
theorem dX6_errorPosition_1 : decode cX6_errorPosition 1 = .ok (.iconst 0, 1) := by decide +kernel
theorem dX6_errorPosition_2 : decode cX6_errorPosition 2 = .ok (.putfield 36, 3) := by decide +kernel
theorem dX6_errorPosition_5 : decode cX6_errorPosition 5 = .ok (.aload_n 0, 1) := by decide +kernel
theorem dX6_errorPosition_6 : decode cX6_errorPosition 6 = .ok (.getfield 32, 3) := by decide +kernel
theorem dX6_errorPosition_9 : decode cX6_errorPosition 9 = .ok (.ireturn, 1) := by decide +kernel
theorem dX6_refusal_0 : decode cX6_refusal 0 = .ok (.aload_n 0, 1) := by decide +kernel
theorem dX6_refusal_1 : decode cX6_refusal 1 = .ok (.iconst 0, 1) := by decide +kernel
theorem dX6_refusal_2 : decode cX6_refusal 2 = .ok (.putfield 36, 3) := by decide +kernel
theorem dX6_refusal_5 : decode cX6_refusal 5 = .ok (.aload_n 0, 1) := by decide +kernel
theorem dX6_refusal_6 : decode cX6_refusal 6 = .ok (.getfield 45, 3) := by decide +kernel
theorem dX6_refusal_9 : decode cX6_refusal 9 = .ok (.ifCond .ne 9, 3) := by decide +kernel
theorem dX6_refusal_12 : decode cX6_refusal 12 = .ok (.aload_n 0, 1) := by decide +kernel
theorem dX6_refusal_13 : decode cX6_refusal 13 = .ok (.iconst 1, 1) := by decide +kernel
theorem dX6_refusal_14 : decode cX6_refusal 14 = .ok (.invokevirtual 55, 3) := by decide +kernel
theorem dX6_refusal_17 : decode cX6_refusal 17 = .ok (.ireturn, 1) := by decide +kernel
theorem dX6_refusal_18 : decode cX6_refusal 18 = .ok (.iload_n 1, 1) := by decide +kernel
theorem dX6_refusal_19 : decode cX6_refusal 19 = .ok (.ifCond .eq 10, 3) := by decide +kernel
theorem dX6_refusal_22 : decode cX6_refusal 22 = .ok (.aload_n 0, 1) := by decide +kernel
theorem dX6_refusal_23 : decode cX6_refusal 23 = .ok (.getfield 48, 3) := by decide +kernel
theorem dX6_refusal_26 : decode cX6_refusal 26 = .ok (.goto 7, 3) := by decide +kernel
theorem dX6_refusal_29 : decode cX6_refusal 29 = .ok (.aload_n 0, 1) := by decide +kernel
theorem dX6_refusal_30 : decode cX6_refusal 30 = .ok (.getfield 45, 3) := by decide +kernel
theorem dX6_refusal_33 : decode cX6_refusal 33 = .ok (.ireturn, 1) := by decide +kernel
theorem dX6_balloonsIn_0 : decode cX6_balloonsIn 0 = .ok (.iconst 0, 1) := by decide +kernel
theorem dX6_balloonsIn_1 : decode cX6_balloonsIn 1 = .ok (.istore_n 2, 1) := by decide +kernel
theorem dX6_balloonsIn_2 : decode cX6_balloonsIn 2 = .ok (.iconst 0, 1) := by decide +kernel
theorem dX6_balloonsIn_3 : decode cX6_balloonsIn 3 = .ok (.istore_n 3, 1) := by decide +kernel
theorem dX6_balloonsIn_4 : decode cX6_balloonsIn 4 = .ok (.iload_n 3, 1) := by decide +kernel
theorem dX6_balloonsIn_5 : decode cX6_balloonsIn 5 = .ok (.aload_n 0, 1) := by decide +kernel
theorem dX6_balloonsIn_6 : decode cX6_balloonsIn 6 = .ok (.getfield 9, 3) := by decide +kernel
theorem dX6_balloonsIn_9 : decode cX6_balloonsIn 9 = .ok (.iconst 3, 1) := by decide +kernel
theorem dX6_balloonsIn_10 : decode cX6_balloonsIn 10 = .ok (.iaload, 1) := by decide +kernel
theorem dX6_balloonsIn_11 : decode cX6_balloonsIn 11 = .ok (.if_icmp .ge 22, 3) := by decide +kernel
theorem dX6_balloonsIn_14 : decode cX6_balloonsIn 14 = .ok (.aload_n 0, 1) := by decide +kernel
theorem dX6_balloonsIn_15 : decode cX6_balloonsIn 15 = .ok (.iload_n 3, 1) := by decide +kernel
theorem dX6_balloonsIn_16 : decode cX6_balloonsIn 16 = .ok (.iconst 5, 1) := by decide +kernel
theorem dX6_balloonsIn_17 : decode cX6_balloonsIn 17 = .ok (.invokevirtual 71, 3) := by decide +kernel
theorem dX6_balloonsIn_20 : decode cX6_balloonsIn 20 = .ok (.iload_n 1, 1) := by decide +kernel
theorem dX6_balloonsIn_21 : decode cX6_balloonsIn 21 = .ok (.if_icmp .ne 6, 3) := by decide +kernel
theorem dX6_balloonsIn_24 : decode cX6_balloonsIn 24 = .ok (.iinc 2 1, 3) := by decide +kernel
theorem dX6_balloonsIn_27 : decode cX6_balloonsIn 27 = .ok (.iinc 3 1, 3) := by decide +kernel
theorem dX6_balloonsIn_30 : decode cX6_balloonsIn 30 = .ok (.goto (-26), 3) := by decide +kernel
theorem dX6_balloonsIn_33 : decode cX6_balloonsIn 33 = .ok (.iload_n 2, 1) := by decide +kernel
theorem dX6_balloonsIn_34 : decode cX6_balloonsIn 34 = .ok (.ireturn, 1) := by decide +kernel
theorem dX6_lettersIn_0 : decode cX6_lettersIn 0 = .ok (.iconst 0, 1) := by decide +kernel
theorem dX6_lettersIn_1 : decode cX6_lettersIn 1 = .ok (.istore_n 2, 1) := by decide +kernel
theorem dX6_lettersIn_2 : decode cX6_lettersIn 2 = .ok (.iconst 0, 1) := by decide +kernel
theorem dX6_lettersIn_3 : decode cX6_lettersIn 3 = .ok (.istore_n 3, 1) := by decide +kernel
theorem dX6_lettersIn_4 : decode cX6_lettersIn 4 = .ok (.iload_n 3, 1) := by decide +kernel
theorem dX6_lettersIn_5 : decode cX6_lettersIn 5 = .ok (.aload_n 0, 1) := by decide +kernel
theorem dX6_lettersIn_6 : decode cX6_lettersIn 6 = .ok (.getfield 9, 3) := by decide +kernel
theorem dX6_lettersIn_9 : decode cX6_lettersIn 9 = .ok (.iconst 4, 1) := by decide +kernel
theorem dX6_lettersIn_10 : decode cX6_lettersIn 10 = .ok (.iaload, 1) := by decide +kernel
theorem dX6_lettersIn_11 : decode cX6_lettersIn 11 = .ok (.if_icmp .ge 29, 3) := by decide +kernel
theorem dX6_lettersIn_14 : decode cX6_lettersIn 14 = .ok (.aload_n 0, 1) := by decide +kernel
theorem dX6_lettersIn_15 : decode cX6_lettersIn 15 = .ok (.getfield 9, 3) := by decide +kernel
theorem dX6_lettersIn_18 : decode cX6_lettersIn 18 = .ok (.bipush 88, 2) := by decide +kernel
theorem dX6_lettersIn_20 : decode cX6_lettersIn 20 = .ok (.iconst 4, 1) := by decide +kernel
theorem dX6_lettersIn_21 : decode cX6_lettersIn 21 = .ok (.iload_n 3, 1) := by decide +kernel
theorem dX6_lettersIn_22 : decode cX6_lettersIn 22 = .ok (.imul, 1) := by decide +kernel
theorem dX6_lettersIn_23 : decode cX6_lettersIn 23 = .ok (.iadd, 1) := by decide +kernel
theorem dX6_lettersIn_24 : decode cX6_lettersIn 24 = .ok (.iconst 2, 1) := by decide +kernel
theorem dX6_lettersIn_25 : decode cX6_lettersIn 25 = .ok (.iadd, 1) := by decide +kernel
theorem dX6_lettersIn_26 : decode cX6_lettersIn 26 = .ok (.iaload, 1) := by decide +kernel
theorem dX6_lettersIn_27 : decode cX6_lettersIn 27 = .ok (.iload_n 1, 1) := by decide +kernel
theorem dX6_lettersIn_28 : decode cX6_lettersIn 28 = .ok (.if_icmp .ne 6, 3) := by decide +kernel
theorem dX6_lettersIn_31 : decode cX6_lettersIn 31 = .ok (.iinc 2 1, 3) := by decide +kernel
theorem dX6_lettersIn_34 : decode cX6_lettersIn 34 = .ok (.iinc 3 1, 3) := by decide +kernel
theorem dX6_lettersIn_37 : decode cX6_lettersIn 37 = .ok (.goto (-33), 3) := by decide +kernel
theorem dX6_lettersIn_40 : decode cX6_lettersIn 40 = .ok (.iload_n 2, 1) := by decide +kernel
theorem dX6_lettersIn_41 : decode cX6_lettersIn 41 = .ok (.ireturn, 1) := by decide +kernel
theorem dX6_words_0 : decode cX6_words 0 = .ok (.iconst 0, 1) := by decide +kernel
theorem dX6_words_1 : decode cX6_words 1 = .ok (.istore_n 1, 1) := by decide +kernel
theorem dX6_words_2 : decode cX6_words 2 = .ok (.iconst 0, 1) := by decide +kernel
theorem dX6_words_3 : decode cX6_words 3 = .ok (.istore_n 2, 1) := by decide +kernel
theorem dX6_words_4 : decode cX6_words 4 = .ok (.iload_n 2, 1) := by decide +kernel
theorem dX6_words_5 : decode cX6_words 5 = .ok (.aload_n 0, 1) := by decide +kernel
theorem dX6_words_6 : decode cX6_words 6 = .ok (.getfield 9, 3) := by decide +kernel
theorem dX6_words_9 : decode cX6_words 9 = .ok (.iconst 3, 1) := by decide +kernel
theorem dX6_words_10 : decode cX6_words 10 = .ok (.iaload, 1) := by decide +kernel
theorem dX6_words_11 : decode cX6_words 11 = .ok (.if_icmp .ge 34, 3) := by decide +kernel
theorem dX6_words_14 : decode cX6_words 14 = .ok (.aload_n 0, 1) := by decide +kernel
theorem dX6_words_15 : decode cX6_words 15 = .ok (.iload_n 2, 1) := by decide +kernel
theorem dX6_words_16 : decode cX6_words 16 = .ok (.invokevirtual 155, 3) := by decide +kernel
theorem dX6_words_19 : decode cX6_words 19 = .ok (.ifCond .eq 20, 3) := by decide +kernel
theorem dX6_words_22 : decode cX6_words 22 = .ok (.aload_n 0, 1) := by decide +kernel
theorem dX6_words_23 : decode cX6_words 23 = .ok (.iload_n 2, 1) := by decide +kernel
theorem dX6_words_24 : decode cX6_words 24 = .ok (.invokevirtual 158, 3) := by decide +kernel
theorem dX6_words_27 : decode cX6_words 27 = .ok (.aload_n 0, 1) := by decide +kernel
theorem dX6_words_28 : decode cX6_words 28 = .ok (.getfield 9, 3) := by decide +kernel
theorem dX6_words_31 : decode cX6_words 31 = .ok (.iconst 0, 1) := by decide +kernel
theorem dX6_words_32 : decode cX6_words 32 = .ok (.iaload, 1) := by decide +kernel
theorem dX6_words_33 : decode cX6_words 33 = .ok (.if_icmp .ge 6, 3) := by decide +kernel
theorem dX6_words_36 : decode cX6_words 36 = .ok (.iinc 1 1, 3) := by decide +kernel
theorem dX6_words_39 : decode cX6_words 39 = .ok (.iinc 2 1, 3) := by decide +kernel
theorem dX6_words_42 : decode cX6_words 42 = .ok (.goto (-38), 3) := by decide +kernel
theorem dX6_words_45 : decode cX6_words 45 = .ok (.iload_n 1, 1) := by decide +kernel
theorem dX6_words_46 : decode cX6_words 46 = .ok (.ireturn, 1) := by decide +kernel
theorem dX6_account_0 : decode cX6_account 0 = .ok (.aload_n 0, 1) := by decide +kernel
theorem dX6_account_1 : decode cX6_account 1 = .ok (.iconst 0, 1) := by decide +kernel
theorem dX6_account_2 : decode cX6_account 2 = .ok (.putfield 36, 3) := by decide +kernel
theorem dX6_account_5 : decode cX6_account 5 = .ok (.iload_n 1, 1) := by decide +kernel
theorem dX6_account_6 : decode cX6_account 6 = .ok (.tableswitch 204 0 20 #[98, 105, 112, 119, 126, 126, 126, 126, 134, 141, 141, 141, 141, 150, 155, 162, 170, 178, 186, 194, 199], 98) := by decide +kernel
theorem dX6_account_104 : decode cX6_account 104 = .ok (.aload_n 0, 1) := by decide +kernel
theorem dX6_account_105 : decode cX6_account 105 = .ok (.getfield 9, 3) := by decide +kernel
theorem dX6_account_108 : decode cX6_account 108 = .ok (.iconst 0, 1) := by decide +kernel
theorem dX6_account_109 : decode cX6_account 109 = .ok (.iaload, 1) := by decide +kernel
theorem dX6_account_110 : decode cX6_account 110 = .ok (.ireturn, 1) := by decide +kernel
theorem dX6_account_111 : decode cX6_account 111 = .ok (.aload_n 0, 1) := by decide +kernel
theorem dX6_account_112 : decode cX6_account 112 = .ok (.getfield 9, 3) := by decide +kernel
theorem dX6_account_115 : decode cX6_account 115 = .ok (.iconst 1, 1) := by decide +kernel
theorem dX6_account_116 : decode cX6_account 116 = .ok (.iaload, 1) := by decide +kernel
theorem dX6_account_117 : decode cX6_account 117 = .ok (.ireturn, 1) := by decide +kernel
theorem dX6_account_118 : decode cX6_account 118 = .ok (.aload_n 0, 1) := by decide +kernel
theorem dX6_account_119 : decode cX6_account 119 = .ok (.getfield 9, 3) := by decide +kernel
theorem dX6_account_122 : decode cX6_account 122 = .ok (.iconst 2, 1) := by decide +kernel
theorem dX6_account_123 : decode cX6_account 123 = .ok (.iaload, 1) := by decide +kernel
theorem dX6_account_124 : decode cX6_account 124 = .ok (.ireturn, 1) := by decide +kernel
theorem dX6_account_125 : decode cX6_account 125 = .ok (.aload_n 0, 1) := by decide +kernel
theorem dX6_account_126 : decode cX6_account 126 = .ok (.getfield 9, 3) := by decide +kernel
theorem dX6_account_129 : decode cX6_account 129 = .ok (.iconst 3, 1) := by decide +kernel
theorem dX6_account_130 : decode cX6_account 130 = .ok (.iaload, 1) := by decide +kernel
theorem dX6_account_131 : decode cX6_account 131 = .ok (.ireturn, 1) := by decide +kernel
theorem dX6_account_132 : decode cX6_account 132 = .ok (.aload_n 0, 1) := by decide +kernel
theorem dX6_account_133 : decode cX6_account 133 = .ok (.iload_n 1, 1) := by decide +kernel
theorem dX6_account_134 : decode cX6_account 134 = .ok (.iconst 4, 1) := by decide +kernel
theorem dX6_account_135 : decode cX6_account 135 = .ok (.isub, 1) := by decide +kernel
theorem dX6_account_136 : decode cX6_account 136 = .ok (.invokevirtual 208, 3) := by decide +kernel
theorem dX6_account_139 : decode cX6_account 139 = .ok (.ireturn, 1) := by decide +kernel
theorem dX6_account_140 : decode cX6_account 140 = .ok (.aload_n 0, 1) := by decide +kernel
theorem dX6_account_141 : decode cX6_account 141 = .ok (.getfield 9, 3) := by decide +kernel
theorem dX6_account_144 : decode cX6_account 144 = .ok (.iconst 4, 1) := by decide +kernel
theorem dX6_account_145 : decode cX6_account 145 = .ok (.iaload, 1) := by decide +kernel
theorem dX6_account_146 : decode cX6_account 146 = .ok (.ireturn, 1) := by decide +kernel
theorem dX6_account_147 : decode cX6_account 147 = .ok (.aload_n 0, 1) := by decide +kernel
theorem dX6_account_148 : decode cX6_account 148 = .ok (.iload_n 1, 1) := by decide +kernel
theorem dX6_account_149 : decode cX6_account 149 = .ok (.bipush 9, 2) := by decide +kernel
theorem dX6_account_151 : decode cX6_account 151 = .ok (.isub, 1) := by decide +kernel
theorem dX6_account_152 : decode cX6_account 152 = .ok (.invokevirtual 211, 3) := by decide +kernel
theorem dX6_account_155 : decode cX6_account 155 = .ok (.ireturn, 1) := by decide +kernel
theorem dX6_account_156 : decode cX6_account 156 = .ok (.aload_n 0, 1) := by decide +kernel
theorem dX6_account_157 : decode cX6_account 157 = .ok (.invokevirtual 214, 3) := by decide +kernel
theorem dX6_account_160 : decode cX6_account 160 = .ok (.ireturn, 1) := by decide +kernel
theorem dX6_account_161 : decode cX6_account 161 = .ok (.aload_n 0, 1) := by decide +kernel
theorem dX6_account_162 : decode cX6_account 162 = .ok (.getfield 9, 3) := by decide +kernel
theorem dX6_account_165 : decode cX6_account 165 = .ok (.iconst 5, 1) := by decide +kernel
theorem dX6_account_166 : decode cX6_account 166 = .ok (.iaload, 1) := by decide +kernel
theorem dX6_account_167 : decode cX6_account 167 = .ok (.ireturn, 1) := by decide +kernel
theorem dX6_account_168 : decode cX6_account 168 = .ok (.aload_n 0, 1) := by decide +kernel
theorem dX6_account_169 : decode cX6_account 169 = .ok (.getfield 9, 3) := by decide +kernel
theorem dX6_account_172 : decode cX6_account 172 = .ok (.bipush 6, 2) := by decide +kernel
theorem dX6_account_174 : decode cX6_account 174 = .ok (.iaload, 1) := by decide +kernel
theorem dX6_account_175 : decode cX6_account 175 = .ok (.ireturn, 1) := by decide +kernel
theorem dX6_account_176 : decode cX6_account 176 = .ok (.aload_n 0, 1) := by decide +kernel
theorem dX6_account_177 : decode cX6_account 177 = .ok (.getfield 9, 3) := by decide +kernel
theorem dX6_account_180 : decode cX6_account 180 = .ok (.bipush 7, 2) := by decide +kernel
theorem dX6_account_182 : decode cX6_account 182 = .ok (.iaload, 1) := by decide +kernel
theorem dX6_account_183 : decode cX6_account 183 = .ok (.ireturn, 1) := by decide +kernel
theorem dX6_account_184 : decode cX6_account 184 = .ok (.aload_n 0, 1) := by decide +kernel
theorem dX6_account_185 : decode cX6_account 185 = .ok (.getfield 9, 3) := by decide +kernel
theorem dX6_account_188 : decode cX6_account 188 = .ok (.bipush 8, 2) := by decide +kernel
theorem dX6_account_190 : decode cX6_account 190 = .ok (.iaload, 1) := by decide +kernel
theorem dX6_account_191 : decode cX6_account 191 = .ok (.ireturn, 1) := by decide +kernel
theorem dX6_account_192 : decode cX6_account 192 = .ok (.aload_n 0, 1) := by decide +kernel
theorem dX6_account_193 : decode cX6_account 193 = .ok (.getfield 9, 3) := by decide +kernel
theorem dX6_account_196 : decode cX6_account 196 = .ok (.bipush 9, 2) := by decide +kernel
theorem dX6_account_198 : decode cX6_account 198 = .ok (.iaload, 1) := by decide +kernel
theorem dX6_account_199 : decode cX6_account 199 = .ok (.ireturn, 1) := by decide +kernel
theorem dX6_account_200 : decode cX6_account 200 = .ok (.aload_n 0, 1) := by decide +kernel
theorem dX6_account_201 : decode cX6_account 201 = .ok (.getfield 178, 3) := by decide +kernel
theorem dX6_account_204 : decode cX6_account 204 = .ok (.ireturn, 1) := by decide +kernel
theorem dX6_account_205 : decode cX6_account 205 = .ok (.aload_n 0, 1) := by decide +kernel
theorem dX6_account_206 : decode cX6_account 206 = .ok (.getfield 39, 3) := by decide +kernel
theorem dX6_account_209 : decode cX6_account 209 = .ok (.ireturn, 1) := by decide +kernel
theorem dX6_account_210 : decode cX6_account 210 = .ok (.aload_n 0, 1) := by decide +kernel
theorem dX6_account_211 : decode cX6_account 211 = .ok (.iconst 1, 1) := by decide +kernel
theorem dX6_account_212 : decode cX6_account 212 = .ok (.invokevirtual 55, 3) := by decide +kernel
theorem dX6_account_215 : decode cX6_account 215 = .ok (.ireturn, 1) := by decide +kernel
theorem dX6_isWell_0 : decode cX6_isWell 0 = .ok (.aload_n 0, 1) := by decide +kernel
theorem dX6_isWell_1 : decode cX6_isWell 1 = .ok (.iconst 0, 1) := by decide +kernel
theorem dX6_isWell_2 : decode cX6_isWell 2 = .ok (.putfield 36, 3) := by decide +kernel
theorem dX6_isWell_5 : decode cX6_isWell 5 = .ok (.iconst 1, 1) := by decide +kernel
theorem dX6_isWell_6 : decode cX6_isWell 6 = .ok (.ireturn, 1) := by decide +kernel
theorem dX6_meanDistance_0 : decode cX6_meanDistance 0 = .ok (.aload_n 0, 1) := by decide +kernel
theorem dX6_meanDistance_1 : decode cX6_meanDistance 1 = .ok (.iconst 0, 1) := by decide +kernel
theorem dX6_meanDistance_2 : decode cX6_meanDistance 2 = .ok (.putfield 36, 3) := by decide +kernel
theorem dX6_meanDistance_5 : decode cX6_meanDistance 5 = .ok (.iconst 0, 1) := by decide +kernel
theorem dX6_meanDistance_6 : decode cX6_meanDistance 6 = .ok (.istore_n 1, 1) := by decide +kernel
theorem dX6_meanDistance_7 : decode cX6_meanDistance 7 = .ok (.iconst 0, 1) := by decide +kernel
theorem dX6_meanDistance_8 : decode cX6_meanDistance 8 = .ok (.istore_n 2, 1) := by decide +kernel
theorem dX6_meanDistance_9 : decode cX6_meanDistance 9 = .ok (.iconst 0, 1) := by decide +kernel
theorem dX6_meanDistance_10 : decode cX6_meanDistance 10 = .ok (.istore_n 3, 1) := by decide +kernel
theorem dX6_meanDistance_11 : decode cX6_meanDistance 11 = .ok (.iload_n 3, 1) := by decide +kernel
theorem dX6_meanDistance_12 : decode cX6_meanDistance 12 = .ok (.aload_n 0, 1) := by decide +kernel
theorem dX6_meanDistance_13 : decode cX6_meanDistance 13 = .ok (.getfield 9, 3) := by decide +kernel
theorem dX6_meanDistance_16 : decode cX6_meanDistance 16 = .ok (.iconst 3, 1) := by decide +kernel
theorem dX6_meanDistance_17 : decode cX6_meanDistance 17 = .ok (.iaload, 1) := by decide +kernel
theorem dX6_meanDistance_18 : decode cX6_meanDistance 18 = .ok (.if_icmp .ge 33, 3) := by decide +kernel
theorem dX6_meanDistance_21 : decode cX6_meanDistance 21 = .ok (.aload_n 0, 1) := by decide +kernel
theorem dX6_meanDistance_22 : decode cX6_meanDistance 22 = .ok (.iload_n 3, 1) := by decide +kernel
theorem dX6_meanDistance_23 : decode cX6_meanDistance 23 = .ok (.iconst 5, 1) := by decide +kernel
theorem dX6_meanDistance_24 : decode cX6_meanDistance 24 = .ok (.invokevirtual 71, 3) := by decide +kernel
theorem dX6_meanDistance_27 : decode cX6_meanDistance 27 = .ok (.iconst 2, 1) := by decide +kernel
theorem dX6_meanDistance_28 : decode cX6_meanDistance 28 = .ok (.if_icmp .eq 6, 3) := by decide +kernel
theorem dX6_meanDistance_31 : decode cX6_meanDistance 31 = .ok (.goto 14, 3) := by decide +kernel
theorem dX6_meanDistance_34 : decode cX6_meanDistance 34 = .ok (.iinc 1 1, 3) := by decide +kernel
theorem dX6_meanDistance_37 : decode cX6_meanDistance 37 = .ok (.iload_n 2, 1) := by decide +kernel
theorem dX6_meanDistance_38 : decode cX6_meanDistance 38 = .ok (.aload_n 0, 1) := by decide +kernel
theorem dX6_meanDistance_39 : decode cX6_meanDistance 39 = .ok (.iload_n 3, 1) := by decide +kernel
theorem dX6_meanDistance_40 : decode cX6_meanDistance 40 = .ok (.invokevirtual 134, 3) := by decide +kernel
theorem dX6_meanDistance_43 : decode cX6_meanDistance 43 = .ok (.iadd, 1) := by decide +kernel
theorem dX6_meanDistance_44 : decode cX6_meanDistance 44 = .ok (.istore_n 2, 1) := by decide +kernel
theorem dX6_meanDistance_45 : decode cX6_meanDistance 45 = .ok (.iinc 3 1, 3) := by decide +kernel
theorem dX6_meanDistance_48 : decode cX6_meanDistance 48 = .ok (.goto (-37), 3) := by decide +kernel
theorem dX6_meanDistance_51 : decode cX6_meanDistance 51 = .ok (.iload_n 1, 1) := by decide +kernel
theorem dX6_meanDistance_52 : decode cX6_meanDistance 52 = .ok (.ifCond .ne 12, 3) := by decide +kernel
theorem dX6_meanDistance_55 : decode cX6_meanDistance 55 = .ok (.aload_n 0, 1) := by decide +kernel
theorem dX6_meanDistance_56 : decode cX6_meanDistance 56 = .ok (.iconst 1, 1) := by decide +kernel
theorem dX6_meanDistance_57 : decode cX6_meanDistance 57 = .ok (.invokevirtual 55, 3) := by decide +kernel
theorem dX6_meanDistance_60 : decode cX6_meanDistance 60 = .ok (.i2d, 1) := by decide +kernel
theorem dX6_meanDistance_61 : decode cX6_meanDistance 61 = .ok (.goto 8, 3) := by decide +kernel
theorem dX6_meanDistance_64 : decode cX6_meanDistance 64 = .ok (.iload_n 2, 1) := by decide +kernel
theorem dX6_meanDistance_65 : decode cX6_meanDistance 65 = .ok (.i2d, 1) := by decide +kernel
theorem dX6_meanDistance_66 : decode cX6_meanDistance 66 = .ok (.iload_n 1, 1) := by decide +kernel
theorem dX6_meanDistance_67 : decode cX6_meanDistance 67 = .ok (.i2d, 1) := by decide +kernel
theorem dX6_meanDistance_68 : decode cX6_meanDistance 68 = .ok (.ddiv, 1) := by decide +kernel
theorem dX6_meanDistance_69 : decode cX6_meanDistance 69 = .ok (.dreturn, 1) := by decide +kernel
theorem dX6_share_0 : decode cX6_share 0 = .ok (.aload_n 0, 1) := by decide +kernel
theorem dX6_share_1 : decode cX6_share 1 = .ok (.iconst 0, 1) := by decide +kernel
theorem dX6_share_2 : decode cX6_share 2 = .ok (.putfield 36, 3) := by decide +kernel
theorem dX6_share_5 : decode cX6_share 5 = .ok (.aload_n 0, 1) := by decide +kernel
theorem dX6_share_6 : decode cX6_share 6 = .ok (.iconst 2, 1) := by decide +kernel
theorem dX6_share_7 : decode cX6_share 7 = .ok (.invokevirtual 211, 3) := by decide +kernel
theorem dX6_share_10 : decode cX6_share 10 = .ok (.istore_n 1, 1) := by decide +kernel
theorem dX6_share_11 : decode cX6_share 11 = .ok (.iload_n 1, 1) := by decide +kernel
theorem dX6_share_12 : decode cX6_share 12 = .ok (.aload_n 0, 1) := by decide +kernel
theorem dX6_share_13 : decode cX6_share 13 = .ok (.iconst 3, 1) := by decide +kernel
theorem dX6_share_14 : decode cX6_share 14 = .ok (.invokevirtual 211, 3) := by decide +kernel
theorem dX6_share_17 : decode cX6_share 17 = .ok (.iadd, 1) := by decide +kernel
theorem dX6_share_18 : decode cX6_share 18 = .ok (.istore_n 2, 1) := by decide +kernel
theorem dX6_share_19 : decode cX6_share 19 = .ok (.iload_n 2, 1) := by decide +kernel
theorem dX6_share_20 : decode cX6_share 20 = .ok (.ifCond .ne 12, 3) := by decide +kernel
theorem dX6_share_23 : decode cX6_share 23 = .ok (.aload_n 0, 1) := by decide +kernel
theorem dX6_share_24 : decode cX6_share 24 = .ok (.iconst 1, 1) := by decide +kernel
theorem dX6_share_25 : decode cX6_share 25 = .ok (.invokevirtual 55, 3) := by decide +kernel
theorem dX6_share_28 : decode cX6_share 28 = .ok (.i2f, 1) := by decide +kernel
theorem dX6_share_29 : decode cX6_share 29 = .ok (.goto 8, 3) := by decide +kernel
theorem dX6_share_32 : decode cX6_share 32 = .ok (.iload_n 1, 1) := by decide +kernel
theorem dX6_share_33 : decode cX6_share 33 = .ok (.i2f, 1) := by decide +kernel
theorem dX6_share_34 : decode cX6_share 34 = .ok (.iload_n 2, 1) := by decide +kernel
theorem dX6_share_35 : decode cX6_share 35 = .ok (.i2f, 1) := by decide +kernel
theorem dX6_share_36 : decode cX6_share 36 = .ok (.fdiv, 1) := by decide +kernel
theorem dX6_share_37 : decode cX6_share 37 = .ok (.freturn, 1) := by decide +kernel
theorem dX6_undo_0 : decode cX6_undo 0 = .ok (.aload_n 0, 1) := by decide +kernel
theorem dX6_undo_1 : decode cX6_undo 1 = .ok (.iconst 0, 1) := by decide +kernel
theorem dX6_undo_2 : decode cX6_undo 2 = .ok (.putfield 36, 3) := by decide +kernel
theorem dX6_undo_5 : decode cX6_undo 5 = .ok (.aload_n 0, 1) := by decide +kernel
theorem dX6_undo_6 : decode cX6_undo 6 = .ok (.getfield 39, 3) := by decide +kernel
theorem dX6_undo_9 : decode cX6_undo 9 = .ok (.ifCond .ne 9, 3) := by decide +kernel
theorem dX6_undo_12 : decode cX6_undo 12 = .ok (.aload_n 0, 1) := by decide +kernel
theorem dX6_undo_13 : decode cX6_undo 13 = .ok (.iconst 1, 1) := by decide +kernel
theorem dX6_undo_14 : decode cX6_undo 14 = .ok (.invokevirtual 55, 3) := by decide +kernel
theorem dX6_undo_17 : decode cX6_undo 17 = .ok (.ireturn, 1) := by decide +kernel
theorem dX6_undo_18 : decode cX6_undo 18 = .ok (.aload_n 0, 1) := by decide +kernel
theorem dX6_undo_19 : decode cX6_undo 19 = .ok (.dup, 1) := by decide +kernel
theorem dX6_undo_20 : decode cX6_undo 20 = .ok (.getfield 39, 3) := by decide +kernel
theorem dX6_undo_23 : decode cX6_undo 23 = .ok (.iconst 1, 1) := by decide +kernel
theorem dX6_undo_24 : decode cX6_undo 24 = .ok (.isub, 1) := by decide +kernel
theorem dX6_undo_25 : decode cX6_undo 25 = .ok (.putfield 39, 3) := by decide +kernel
theorem dX6_undo_28 : decode cX6_undo 28 = .ok (.iconst 0, 1) := by decide +kernel
theorem dX6_undo_29 : decode cX6_undo 29 = .ok (.istore_n 1, 1) := by decide +kernel
theorem dX6_undo_30 : decode cX6_undo 30 = .ok (.iload_n 1, 1) := by decide +kernel
theorem dX6_undo_31 : decode cX6_undo 31 = .ok (.sipush 184, 3) := by decide +kernel
theorem dX6_undo_34 : decode cX6_undo 34 = .ok (.if_icmp .ge 30, 3) := by decide +kernel
theorem dX6_undo_37 : decode cX6_undo 37 = .ok (.aload_n 0, 1) := by decide +kernel
theorem dX6_undo_38 : decode cX6_undo 38 = .ok (.getfield 9, 3) := by decide +kernel
theorem dX6_undo_41 : decode cX6_undo 41 = .ok (.iload_n 1, 1) := by decide +kernel
theorem dX6_undo_42 : decode cX6_undo 42 = .ok (.aload_n 0, 1) := by decide +kernel
theorem dX6_undo_43 : decode cX6_undo 43 = .ok (.getfield 19, 3) := by decide +kernel
theorem dX6_undo_46 : decode cX6_undo 46 = .ok (.sipush 184, 3) := by decide +kernel
theorem dX6_undo_49 : decode cX6_undo 49 = .ok (.aload_n 0, 1) := by decide +kernel
theorem dX6_undo_50 : decode cX6_undo 50 = .ok (.getfield 39, 3) := by decide +kernel
theorem dX6_undo_53 : decode cX6_undo 53 = .ok (.imul, 1) := by decide +kernel
theorem dX6_undo_54 : decode cX6_undo 54 = .ok (.iload_n 1, 1) := by decide +kernel
theorem dX6_undo_55 : decode cX6_undo 55 = .ok (.iadd, 1) := by decide +kernel
theorem dX6_undo_56 : decode cX6_undo 56 = .ok (.iaload, 1) := by decide +kernel
theorem dX6_undo_57 : decode cX6_undo 57 = .ok (.iastore, 1) := by decide +kernel
theorem dX6_undo_58 : decode cX6_undo 58 = .ok (.iinc 1 1, 3) := by decide +kernel
theorem dX6_undo_61 : decode cX6_undo 61 = .ok (.goto (-31), 3) := by decide +kernel
theorem dX6_undo_64 : decode cX6_undo 64 = .ok (.aload_n 0, 1) := by decide +kernel
theorem dX6_undo_65 : decode cX6_undo 65 = .ok (.getfield 39, 3) := by decide +kernel
theorem dX6_undo_68 : decode cX6_undo 68 = .ok (.ireturn, 1) := by decide +kernel
theorem dX6_save_0 : decode cX6_save 0 = .ok (.aload_n 0, 1) := by decide +kernel
theorem dX6_save_1 : decode cX6_save 1 = .ok (.iconst 0, 1) := by decide +kernel
theorem dX6_save_2 : decode cX6_save 2 = .ok (.putfield 36, 3) := by decide +kernel
theorem dX6_save_5 : decode cX6_save 5 = .ok (.aload_n 0, 1) := by decide +kernel
theorem dX6_save_6 : decode cX6_save 6 = .ok (.iconst 1, 1) := by decide +kernel
theorem dX6_save_7 : decode cX6_save 7 = .ok (.putfield 217, 3) := by decide +kernel
theorem dX6_save_10 : decode cX6_save 10 = .ok (.iconst 0, 1) := by decide +kernel
theorem dX6_save_11 : decode cX6_save 11 = .ok (.istore_n 1, 1) := by decide +kernel
theorem dX6_save_12 : decode cX6_save 12 = .ok (.iload_n 1, 1) := by decide +kernel
theorem dX6_save_13 : decode cX6_save 13 = .ok (.sipush 184, 3) := by decide +kernel
theorem dX6_save_16 : decode cX6_save 16 = .ok (.if_icmp .ge 21, 3) := by decide +kernel
theorem dX6_save_19 : decode cX6_save 19 = .ok (.aload_n 0, 1) := by decide +kernel
theorem dX6_save_20 : decode cX6_save 20 = .ok (.getfield 22, 3) := by decide +kernel
theorem dX6_save_23 : decode cX6_save 23 = .ok (.iload_n 1, 1) := by decide +kernel
theorem dX6_save_24 : decode cX6_save 24 = .ok (.aload_n 0, 1) := by decide +kernel
theorem dX6_save_25 : decode cX6_save 25 = .ok (.getfield 9, 3) := by decide +kernel
theorem dX6_save_28 : decode cX6_save 28 = .ok (.iload_n 1, 1) := by decide +kernel
theorem dX6_save_29 : decode cX6_save 29 = .ok (.iaload, 1) := by decide +kernel
theorem dX6_save_30 : decode cX6_save 30 = .ok (.iastore, 1) := by decide +kernel
theorem dX6_save_31 : decode cX6_save 31 = .ok (.iinc 1 1, 3) := by decide +kernel
theorem dX6_save_34 : decode cX6_save 34 = .ok (.goto (-22), 3) := by decide +kernel
theorem dX6_save_37 : decode cX6_save 37 = .ok (.aload_n 0, 1) := by decide +kernel
theorem dX6_save_38 : decode cX6_save 38 = .ok (.getfield 9, 3) := by decide +kernel
theorem dX6_save_41 : decode cX6_save 41 = .ok (.iconst 3, 1) := by decide +kernel
theorem dX6_save_42 : decode cX6_save 42 = .ok (.iaload, 1) := by decide +kernel
theorem dX6_save_43 : decode cX6_save 43 = .ok (.ireturn, 1) := by decide +kernel
theorem dX6_restore_0 : decode cX6_restore 0 = .ok (.aload_n 0, 1) := by decide +kernel
theorem dX6_restore_1 : decode cX6_restore 1 = .ok (.iconst 0, 1) := by decide +kernel
theorem dX6_restore_2 : decode cX6_restore 2 = .ok (.putfield 36, 3) := by decide +kernel
theorem dX6_restore_5 : decode cX6_restore 5 = .ok (.aload_n 0, 1) := by decide +kernel
theorem dX6_restore_6 : decode cX6_restore 6 = .ok (.getfield 217, 3) := by decide +kernel
theorem dX6_restore_9 : decode cX6_restore 9 = .ok (.ifCond .ne 9, 3) := by decide +kernel
theorem dX6_restore_12 : decode cX6_restore 12 = .ok (.aload_n 0, 1) := by decide +kernel
theorem dX6_restore_13 : decode cX6_restore 13 = .ok (.iconst 1, 1) := by decide +kernel
theorem dX6_restore_14 : decode cX6_restore 14 = .ok (.invokevirtual 55, 3) := by decide +kernel
theorem dX6_restore_17 : decode cX6_restore 17 = .ok (.ireturn, 1) := by decide +kernel
theorem dX6_restore_18 : decode cX6_restore 18 = .ok (.iconst 0, 1) := by decide +kernel
theorem dX6_restore_19 : decode cX6_restore 19 = .ok (.istore_n 1, 1) := by decide +kernel
theorem dX6_restore_20 : decode cX6_restore 20 = .ok (.iload_n 1, 1) := by decide +kernel
theorem dX6_restore_21 : decode cX6_restore 21 = .ok (.sipush 184, 3) := by decide +kernel
theorem dX6_restore_24 : decode cX6_restore 24 = .ok (.if_icmp .ge 21, 3) := by decide +kernel
theorem dX6_restore_27 : decode cX6_restore 27 = .ok (.aload_n 0, 1) := by decide +kernel
theorem dX6_restore_28 : decode cX6_restore 28 = .ok (.getfield 9, 3) := by decide +kernel
theorem dX6_restore_31 : decode cX6_restore 31 = .ok (.iload_n 1, 1) := by decide +kernel
theorem dX6_restore_32 : decode cX6_restore 32 = .ok (.aload_n 0, 1) := by decide +kernel
theorem dX6_restore_33 : decode cX6_restore 33 = .ok (.getfield 22, 3) := by decide +kernel
theorem dX6_restore_36 : decode cX6_restore 36 = .ok (.iload_n 1, 1) := by decide +kernel
theorem dX6_restore_37 : decode cX6_restore 37 = .ok (.iaload, 1) := by decide +kernel
theorem dX6_restore_38 : decode cX6_restore 38 = .ok (.iastore, 1) := by decide +kernel
theorem dX6_restore_39 : decode cX6_restore 39 = .ok (.iinc 1 1, 3) := by decide +kernel
theorem dX6_restore_42 : decode cX6_restore 42 = .ok (.goto (-22), 3) := by decide +kernel
theorem dX6_restore_45 : decode cX6_restore 45 = .ok (.aload_n 0, 1) := by decide +kernel
theorem dX6_restore_46 : decode cX6_restore 46 = .ok (.iconst 0, 1) := by decide +kernel
theorem dX6_restore_47 : decode cX6_restore 47 = .ok (.putfield 39, 3) := by decide +kernel
theorem dX6_restore_50 : decode cX6_restore 50 = .ok (.aload_n 0, 1) := by decide +kernel
theorem dX6_restore_51 : decode cX6_restore 51 = .ok (.getfield 9, 3) := by decide +kernel
theorem dX6_restore_54 : decode cX6_restore 54 = .ok (.iconst 3, 1) := by decide +kernel
theorem dX6_restore_55 : decode cX6_restore 55 = .ok (.iaload, 1) := by decide +kernel
theorem dX6_restore_56 : decode cX6_restore 56 = .ok (.ireturn, 1) := by decide +kernel
theorem dL_ring_0 : decode cL_ring 0 = .ok (.aload_n 2, 1) := by decide +kernel
theorem dL_ring_1 : decode cL_ring 1 = .ok (.iconst 0, 1) := by decide +kernel
theorem dL_ring_2 : decode cL_ring 2 = .ok (.aload_n 0, 1) := by decide +kernel
theorem dL_ring_3 : decode cL_ring 3 = .ok (.iload_n 1, 1) := by decide +kernel
theorem dL_ring_4 : decode cL_ring 4 = .ok (.invokevirtual 7, 3) := by decide +kernel
theorem dL_ring_7 : decode cL_ring 7 = .ok (.i2l, 1) := by decide +kernel
theorem dL_ring_8 : decode cL_ring 8 = .ok (.lastore, 1) := by decide +kernel
theorem dL_ring_9 : decode cL_ring 9 = .ok (.goto 6, 3) := by decide +kernel
theorem dL_ring_12 : decode cL_ring 12 = .ok (.astore_n 3, 1) := by decide +kernel
theorem dL_ring_13 : decode cL_ring 13 = .ok (.iconst 1, 1) := by decide +kernel
theorem dL_ring_14 : decode cL_ring 14 = .ok (.ireturn, 1) := by decide +kernel
theorem dL_ring_15 : decode cL_ring 15 = .ok (.iconst 0, 1) := by decide +kernel
theorem dL_ring_16 : decode cL_ring 16 = .ok (.ireturn, 1) := by decide +kernel
theorem dL_wind_0 : decode cL_wind 0 = .ok (.aload 4, 2) := by decide +kernel
theorem dL_wind_2 : decode cL_wind 2 = .ok (.iconst 0, 1) := by decide +kernel
theorem dL_wind_3 : decode cL_wind 3 = .ok (.aload_n 0, 1) := by decide +kernel
theorem dL_wind_4 : decode cL_wind 4 = .ok (.iload_n 1, 1) := by decide +kernel
theorem dL_wind_5 : decode cL_wind 5 = .ok (.iload_n 2, 1) := by decide +kernel
theorem dL_wind_6 : decode cL_wind 6 = .ok (.iload_n 3, 1) := by decide +kernel
theorem dL_wind_7 : decode cL_wind 7 = .ok (.invokevirtual 15, 3) := by decide +kernel
theorem dL_wind_10 : decode cL_wind 10 = .ok (.i2l, 1) := by decide +kernel
theorem dL_wind_11 : decode cL_wind 11 = .ok (.lastore, 1) := by decide +kernel
theorem dL_wind_12 : decode cL_wind 12 = .ok (.goto 11, 3) := by decide +kernel
theorem dL_wind_15 : decode cL_wind 15 = .ok (.astore 5, 2) := by decide +kernel
theorem dL_wind_17 : decode cL_wind 17 = .ok (.iconst 1, 1) := by decide +kernel
theorem dL_wind_18 : decode cL_wind 18 = .ok (.ireturn, 1) := by decide +kernel
theorem dL_wind_19 : decode cL_wind 19 = .ok (.astore 5, 2) := by decide +kernel
theorem dL_wind_21 : decode cL_wind 21 = .ok (.iconst 2, 1) := by decide +kernel
theorem dL_wind_22 : decode cL_wind 22 = .ok (.ireturn, 1) := by decide +kernel
theorem dL_wind_23 : decode cL_wind 23 = .ok (.iconst 0, 1) := by decide +kernel
theorem dL_wind_24 : decode cL_wind 24 = .ok (.ireturn, 1) := by decide +kernel
theorem dL_gas_0 : decode cL_gas 0 = .ok (.aload_n 2, 1) := by decide +kernel
theorem dL_gas_1 : decode cL_gas 1 = .ok (.iconst 0, 1) := by decide +kernel
theorem dL_gas_2 : decode cL_gas 2 = .ok (.aload_n 0, 1) := by decide +kernel
theorem dL_gas_3 : decode cL_gas 3 = .ok (.iload_n 1, 1) := by decide +kernel
theorem dL_gas_4 : decode cL_gas 4 = .ok (.invokevirtual 21, 3) := by decide +kernel
theorem dL_gas_7 : decode cL_gas 7 = .ok (.i2l, 1) := by decide +kernel
theorem dL_gas_8 : decode cL_gas 8 = .ok (.lastore, 1) := by decide +kernel
theorem dL_gas_9 : decode cL_gas 9 = .ok (.goto 6, 3) := by decide +kernel
theorem dL_gas_12 : decode cL_gas 12 = .ok (.astore_n 3, 1) := by decide +kernel
theorem dL_gas_13 : decode cL_gas 13 = .ok (.iconst 1, 1) := by decide +kernel
theorem dL_gas_14 : decode cL_gas 14 = .ok (.ireturn, 1) := by decide +kernel
theorem dL_gas_15 : decode cL_gas 15 = .ok (.iconst 0, 1) := by decide +kernel
theorem dL_gas_16 : decode cL_gas 16 = .ok (.ireturn, 1) := by decide +kernel
theorem dL_balloon_0 : decode cL_balloon 0 = .ok (.aload_n 2, 1) := by decide +kernel
theorem dL_balloon_1 : decode cL_balloon 1 = .ok (.iconst 0, 1) := by decide +kernel
theorem dL_balloon_2 : decode cL_balloon 2 = .ok (.aload_n 0, 1) := by decide +kernel
theorem dL_balloon_3 : decode cL_balloon 3 = .ok (.iload_n 1, 1) := by decide +kernel
theorem dL_balloon_4 : decode cL_balloon 4 = .ok (.invokevirtual 24, 3) := by decide +kernel
theorem dL_balloon_7 : decode cL_balloon 7 = .ok (.i2l, 1) := by decide +kernel
theorem dL_balloon_8 : decode cL_balloon 8 = .ok (.lastore, 1) := by decide +kernel
theorem dL_balloon_9 : decode cL_balloon 9 = .ok (.goto 9, 3) := by decide +kernel
theorem dL_balloon_12 : decode cL_balloon 12 = .ok (.astore_n 3, 1) := by decide +kernel
theorem dL_balloon_13 : decode cL_balloon 13 = .ok (.iconst 1, 1) := by decide +kernel
theorem dL_balloon_14 : decode cL_balloon 14 = .ok (.ireturn, 1) := by decide +kernel
theorem dL_balloon_15 : decode cL_balloon 15 = .ok (.astore_n 3, 1) := by decide +kernel
theorem dL_balloon_16 : decode cL_balloon 16 = .ok (.iconst 2, 1) := by decide +kernel
theorem dL_balloon_17 : decode cL_balloon 17 = .ok (.ireturn, 1) := by decide +kernel
theorem dL_balloon_18 : decode cL_balloon 18 = .ok (.iconst 0, 1) := by decide +kernel
theorem dL_balloon_19 : decode cL_balloon 19 = .ok (.ireturn, 1) := by decide +kernel
theorem dL_fill_0 : decode cL_fill 0 = .ok (.aload_n 3, 1) := by decide +kernel
theorem dL_fill_1 : decode cL_fill 1 = .ok (.iconst 0, 1) := by decide +kernel
theorem dL_fill_2 : decode cL_fill 2 = .ok (.aload_n 0, 1) := by decide +kernel
theorem dL_fill_3 : decode cL_fill 3 = .ok (.iload_n 1, 1) := by decide +kernel
theorem dL_fill_4 : decode cL_fill 4 = .ok (.iload_n 2, 1) := by decide +kernel
theorem dL_fill_5 : decode cL_fill 5 = .ok (.invokevirtual 29, 3) := by decide +kernel
theorem dL_fill_8 : decode cL_fill 8 = .ok (.i2l, 1) := by decide +kernel
theorem dL_fill_9 : decode cL_fill 9 = .ok (.lastore, 1) := by decide +kernel
theorem dL_fill_10 : decode cL_fill 10 = .ok (.goto 15, 3) := by decide +kernel
theorem dL_fill_13 : decode cL_fill 13 = .ok (.astore 4, 2) := by decide +kernel
theorem dL_fill_15 : decode cL_fill 15 = .ok (.iconst 1, 1) := by decide +kernel
theorem dL_fill_16 : decode cL_fill 16 = .ok (.ireturn, 1) := by decide +kernel
theorem dL_fill_17 : decode cL_fill 17 = .ok (.astore 4, 2) := by decide +kernel
theorem dL_fill_19 : decode cL_fill 19 = .ok (.iconst 2, 1) := by decide +kernel
theorem dL_fill_20 : decode cL_fill 20 = .ok (.ireturn, 1) := by decide +kernel
theorem dL_fill_21 : decode cL_fill 21 = .ok (.astore 4, 2) := by decide +kernel
theorem dL_fill_23 : decode cL_fill 23 = .ok (.iconst 3, 1) := by decide +kernel
theorem dL_fill_24 : decode cL_fill 24 = .ok (.ireturn, 1) := by decide +kernel
theorem dL_fill_25 : decode cL_fill 25 = .ok (.iconst 0, 1) := by decide +kernel
theorem dL_fill_26 : decode cL_fill 26 = .ok (.ireturn, 1) := by decide +kernel
theorem dL_ballast_0 : decode cL_ballast 0 = .ok (.aload_n 3, 1) := by decide +kernel
theorem dL_ballast_1 : decode cL_ballast 1 = .ok (.iconst 0, 1) := by decide +kernel
theorem dL_ballast_2 : decode cL_ballast 2 = .ok (.aload_n 0, 1) := by decide +kernel
theorem dL_ballast_3 : decode cL_ballast 3 = .ok (.iload_n 1, 1) := by decide +kernel
theorem dL_ballast_4 : decode cL_ballast 4 = .ok (.iload_n 2, 1) := by decide +kernel
theorem dL_ballast_5 : decode cL_ballast 5 = .ok (.invokevirtual 33, 3) := by decide +kernel
theorem dL_ballast_8 : decode cL_ballast 8 = .ok (.i2l, 1) := by decide +kernel
theorem dL_ballast_9 : decode cL_ballast 9 = .ok (.lastore, 1) := by decide +kernel
theorem dL_ballast_10 : decode cL_ballast 10 = .ok (.goto 15, 3) := by decide +kernel
theorem dL_ballast_13 : decode cL_ballast 13 = .ok (.astore 4, 2) := by decide +kernel
theorem dL_ballast_15 : decode cL_ballast 15 = .ok (.iconst 1, 1) := by decide +kernel
theorem dL_ballast_16 : decode cL_ballast 16 = .ok (.ireturn, 1) := by decide +kernel
theorem dL_ballast_17 : decode cL_ballast 17 = .ok (.astore 4, 2) := by decide +kernel
theorem dL_ballast_19 : decode cL_ballast 19 = .ok (.iconst 2, 1) := by decide +kernel
theorem dL_ballast_20 : decode cL_ballast 20 = .ok (.ireturn, 1) := by decide +kernel
theorem dL_ballast_21 : decode cL_ballast 21 = .ok (.astore 4, 2) := by decide +kernel
theorem dL_ballast_23 : decode cL_ballast 23 = .ok (.iconst 3, 1) := by decide +kernel
theorem dL_ballast_24 : decode cL_ballast 24 = .ok (.ireturn, 1) := by decide +kernel
theorem dL_ballast_25 : decode cL_ballast 25 = .ok (.iconst 0, 1) := by decide +kernel
theorem dL_ballast_26 : decode cL_ballast 26 = .ok (.ireturn, 1) := by decide +kernel
theorem dL_courier_0 : decode cL_courier 0 = .ok (.aload_n 3, 1) := by decide +kernel
theorem dL_courier_1 : decode cL_courier 1 = .ok (.iconst 0, 1) := by decide +kernel
theorem dL_courier_2 : decode cL_courier 2 = .ok (.aload_n 0, 1) := by decide +kernel
theorem dL_courier_3 : decode cL_courier 3 = .ok (.iload_n 1, 1) := by decide +kernel
theorem dL_courier_4 : decode cL_courier 4 = .ok (.iload_n 2, 1) := by decide +kernel
theorem dL_courier_5 : decode cL_courier 5 = .ok (.invokevirtual 36, 3) := by decide +kernel
theorem dL_courier_8 : decode cL_courier 8 = .ok (.i2l, 1) := by decide +kernel
theorem dL_courier_9 : decode cL_courier 9 = .ok (.lastore, 1) := by decide +kernel
theorem dL_courier_10 : decode cL_courier 10 = .ok (.goto 15, 3) := by decide +kernel
theorem dL_courier_13 : decode cL_courier 13 = .ok (.astore 4, 2) := by decide +kernel
theorem dL_courier_15 : decode cL_courier 15 = .ok (.iconst 1, 1) := by decide +kernel
theorem dL_courier_16 : decode cL_courier 16 = .ok (.ireturn, 1) := by decide +kernel
theorem dL_courier_17 : decode cL_courier 17 = .ok (.astore 4, 2) := by decide +kernel
theorem dL_courier_19 : decode cL_courier 19 = .ok (.iconst 2, 1) := by decide +kernel
theorem dL_courier_20 : decode cL_courier 20 = .ok (.ireturn, 1) := by decide +kernel
theorem dL_courier_21 : decode cL_courier 21 = .ok (.astore 4, 2) := by decide +kernel
theorem dL_courier_23 : decode cL_courier 23 = .ok (.iconst 3, 1) := by decide +kernel
theorem dL_courier_24 : decode cL_courier 24 = .ok (.ireturn, 1) := by decide +kernel
theorem dL_courier_25 : decode cL_courier 25 = .ok (.iconst 0, 1) := by decide +kernel
theorem dL_courier_26 : decode cL_courier 26 = .ok (.ireturn, 1) := by decide +kernel
theorem dL_letter_0 : decode cL_letter 0 = .ok (.aload_n 3, 1) := by decide +kernel
theorem dL_letter_1 : decode cL_letter 1 = .ok (.iconst 0, 1) := by decide +kernel
theorem dL_letter_2 : decode cL_letter 2 = .ok (.aload_n 0, 1) := by decide +kernel
theorem dL_letter_3 : decode cL_letter 3 = .ok (.iload_n 1, 1) := by decide +kernel
theorem dL_letter_4 : decode cL_letter 4 = .ok (.iload_n 2, 1) := by decide +kernel
theorem dL_letter_5 : decode cL_letter 5 = .ok (.invokevirtual 39, 3) := by decide +kernel
theorem dL_letter_8 : decode cL_letter 8 = .ok (.i2l, 1) := by decide +kernel
theorem dL_letter_9 : decode cL_letter 9 = .ok (.lastore, 1) := by decide +kernel
theorem dL_letter_10 : decode cL_letter 10 = .ok (.goto 11, 3) := by decide +kernel
theorem dL_letter_13 : decode cL_letter 13 = .ok (.astore 4, 2) := by decide +kernel
theorem dL_letter_15 : decode cL_letter 15 = .ok (.iconst 1, 1) := by decide +kernel
theorem dL_letter_16 : decode cL_letter 16 = .ok (.ireturn, 1) := by decide +kernel
theorem dL_letter_17 : decode cL_letter 17 = .ok (.astore 4, 2) := by decide +kernel
theorem dL_letter_19 : decode cL_letter 19 = .ok (.iconst 2, 1) := by decide +kernel
theorem dL_letter_20 : decode cL_letter 20 = .ok (.ireturn, 1) := by decide +kernel
theorem dL_letter_21 : decode cL_letter 21 = .ok (.iconst 0, 1) := by decide +kernel
theorem dL_letter_22 : decode cL_letter 22 = .ok (.ireturn, 1) := by decide +kernel
theorem dL_load_0 : decode cL_load 0 = .ok (.aload_n 3, 1) := by decide +kernel
theorem dL_load_1 : decode cL_load 1 = .ok (.iconst 0, 1) := by decide +kernel
theorem dL_load_2 : decode cL_load 2 = .ok (.aload_n 0, 1) := by decide +kernel
theorem dL_load_3 : decode cL_load 3 = .ok (.iload_n 1, 1) := by decide +kernel
theorem dL_load_4 : decode cL_load 4 = .ok (.iload_n 2, 1) := by decide +kernel
theorem dL_load_5 : decode cL_load 5 = .ok (.invokevirtual 42, 3) := by decide +kernel
theorem dL_load_8 : decode cL_load 8 = .ok (.i2l, 1) := by decide +kernel
theorem dL_load_9 : decode cL_load 9 = .ok (.lastore, 1) := by decide +kernel
theorem dL_load_10 : decode cL_load 10 = .ok (.goto 11, 3) := by decide +kernel
theorem dL_load_13 : decode cL_load 13 = .ok (.astore 4, 2) := by decide +kernel
theorem dL_load_15 : decode cL_load 15 = .ok (.iconst 1, 1) := by decide +kernel
theorem dL_load_16 : decode cL_load 16 = .ok (.ireturn, 1) := by decide +kernel
theorem dL_load_17 : decode cL_load 17 = .ok (.astore 4, 2) := by decide +kernel
theorem dL_load_19 : decode cL_load 19 = .ok (.iconst 2, 1) := by decide +kernel
theorem dL_load_20 : decode cL_load 20 = .ok (.ireturn, 1) := by decide +kernel
theorem dL_load_21 : decode cL_load 21 = .ok (.iconst 0, 1) := by decide +kernel
theorem dL_load_22 : decode cL_load 22 = .ok (.ireturn, 1) := by decide +kernel
theorem dL_loadAll_0 : decode cL_loadAll 0 = .ok (.aload_n 2, 1) := by decide +kernel
theorem dL_loadAll_1 : decode cL_loadAll 1 = .ok (.iconst 0, 1) := by decide +kernel
theorem dL_loadAll_2 : decode cL_loadAll 2 = .ok (.aload_n 0, 1) := by decide +kernel
theorem dL_loadAll_3 : decode cL_loadAll 3 = .ok (.iload_n 1, 1) := by decide +kernel
theorem dL_loadAll_4 : decode cL_loadAll 4 = .ok (.invokevirtual 45, 3) := by decide +kernel
theorem dL_loadAll_7 : decode cL_loadAll 7 = .ok (.i2l, 1) := by decide +kernel
theorem dL_loadAll_8 : decode cL_loadAll 8 = .ok (.lastore, 1) := by decide +kernel
theorem dL_loadAll_9 : decode cL_loadAll 9 = .ok (.goto 9, 3) := by decide +kernel
theorem dL_loadAll_12 : decode cL_loadAll 12 = .ok (.astore_n 3, 1) := by decide +kernel
theorem dL_loadAll_13 : decode cL_loadAll 13 = .ok (.iconst 1, 1) := by decide +kernel
theorem dL_loadAll_14 : decode cL_loadAll 14 = .ok (.ireturn, 1) := by decide +kernel
theorem dL_loadAll_15 : decode cL_loadAll 15 = .ok (.astore_n 3, 1) := by decide +kernel
theorem dL_loadAll_16 : decode cL_loadAll 16 = .ok (.iconst 2, 1) := by decide +kernel
theorem dL_loadAll_17 : decode cL_loadAll 17 = .ok (.ireturn, 1) := by decide +kernel
theorem dL_loadAll_18 : decode cL_loadAll 18 = .ok (.iconst 0, 1) := by decide +kernel
theorem dL_loadAll_19 : decode cL_loadAll 19 = .ok (.ireturn, 1) := by decide +kernel
theorem dL_launch_0 : decode cL_launch 0 = .ok (.aload_n 2, 1) := by decide +kernel
theorem dL_launch_1 : decode cL_launch 1 = .ok (.iconst 0, 1) := by decide +kernel
theorem dL_launch_2 : decode cL_launch 2 = .ok (.aload_n 0, 1) := by decide +kernel
theorem dL_launch_3 : decode cL_launch 3 = .ok (.iload_n 1, 1) := by decide +kernel
theorem dL_launch_4 : decode cL_launch 4 = .ok (.invokevirtual 48, 3) := by decide +kernel
theorem dL_launch_7 : decode cL_launch 7 = .ok (.i2l, 1) := by decide +kernel
theorem dL_launch_8 : decode cL_launch 8 = .ok (.lastore, 1) := by decide +kernel
theorem dL_launch_9 : decode cL_launch 9 = .ok (.goto 9, 3) := by decide +kernel
theorem dL_launch_12 : decode cL_launch 12 = .ok (.astore_n 3, 1) := by decide +kernel
theorem dL_launch_13 : decode cL_launch 13 = .ok (.iconst 1, 1) := by decide +kernel
theorem dL_launch_14 : decode cL_launch 14 = .ok (.ireturn, 1) := by decide +kernel
theorem dL_launch_15 : decode cL_launch 15 = .ok (.astore_n 3, 1) := by decide +kernel
theorem dL_launch_16 : decode cL_launch 16 = .ok (.iconst 2, 1) := by decide +kernel
theorem dL_launch_17 : decode cL_launch 17 = .ok (.ireturn, 1) := by decide +kernel
theorem dL_launch_18 : decode cL_launch 18 = .ok (.iconst 0, 1) := by decide +kernel
theorem dL_launch_19 : decode cL_launch 19 = .ok (.ireturn, 1) := by decide +kernel
theorem dL_drop_0 : decode cL_drop 0 = .ok (.aload_n 3, 1) := by decide +kernel
theorem dL_drop_1 : decode cL_drop 1 = .ok (.iconst 0, 1) := by decide +kernel
theorem dL_drop_2 : decode cL_drop 2 = .ok (.aload_n 0, 1) := by decide +kernel
theorem dL_drop_3 : decode cL_drop 3 = .ok (.iload_n 1, 1) := by decide +kernel
theorem dL_drop_4 : decode cL_drop 4 = .ok (.iload_n 2, 1) := by decide +kernel
theorem dL_drop_5 : decode cL_drop 5 = .ok (.invokevirtual 51, 3) := by decide +kernel
theorem dL_drop_8 : decode cL_drop 8 = .ok (.i2l, 1) := by decide +kernel
theorem dL_drop_9 : decode cL_drop 9 = .ok (.lastore, 1) := by decide +kernel
theorem dL_drop_10 : decode cL_drop 10 = .ok (.goto 15, 3) := by decide +kernel
theorem dL_drop_13 : decode cL_drop 13 = .ok (.astore 4, 2) := by decide +kernel
theorem dL_drop_15 : decode cL_drop 15 = .ok (.iconst 1, 1) := by decide +kernel
theorem dL_drop_16 : decode cL_drop 16 = .ok (.ireturn, 1) := by decide +kernel
theorem dL_drop_17 : decode cL_drop 17 = .ok (.astore 4, 2) := by decide +kernel
theorem dL_drop_19 : decode cL_drop 19 = .ok (.iconst 2, 1) := by decide +kernel
theorem dL_drop_20 : decode cL_drop 20 = .ok (.ireturn, 1) := by decide +kernel
theorem dL_drop_21 : decode cL_drop 21 = .ok (.astore 4, 2) := by decide +kernel
theorem dL_drop_23 : decode cL_drop 23 = .ok (.iconst 3, 1) := by decide +kernel
theorem dL_drop_24 : decode cL_drop 24 = .ok (.ireturn, 1) := by decide +kernel
theorem dL_drop_25 : decode cL_drop 25 = .ok (.iconst 0, 1) := by decide +kernel
theorem dL_drop_26 : decode cL_drop 26 = .ok (.ireturn, 1) := by decide +kernel
theorem dL_pass_0 : decode cL_pass 0 = .ok (.aload_n 2, 1) := by decide +kernel
theorem dL_pass_1 : decode cL_pass 1 = .ok (.iconst 0, 1) := by decide +kernel
theorem dL_pass_2 : decode cL_pass 2 = .ok (.aload_n 0, 1) := by decide +kernel
theorem dL_pass_3 : decode cL_pass 3 = .ok (.iload_n 1, 1) := by decide +kernel
theorem dL_pass_4 : decode cL_pass 4 = .ok (.invokevirtual 54, 3) := by decide +kernel
theorem dL_pass_7 : decode cL_pass 7 = .ok (.i2l, 1) := by decide +kernel
theorem dL_pass_8 : decode cL_pass 8 = .ok (.lastore, 1) := by decide +kernel
theorem dL_pass_9 : decode cL_pass 9 = .ok (.goto 6, 3) := by decide +kernel
theorem dL_pass_12 : decode cL_pass 12 = .ok (.astore_n 3, 1) := by decide +kernel
theorem dL_pass_13 : decode cL_pass 13 = .ok (.iconst 1, 1) := by decide +kernel
theorem dL_pass_14 : decode cL_pass 14 = .ok (.ireturn, 1) := by decide +kernel
theorem dL_pass_15 : decode cL_pass 15 = .ok (.iconst 0, 1) := by decide +kernel
theorem dL_pass_16 : decode cL_pass 16 = .ok (.ireturn, 1) := by decide +kernel
theorem dL_balloonOf_0 : decode cL_balloonOf 0 = .ok (.aload_n 3, 1) := by decide +kernel
theorem dL_balloonOf_1 : decode cL_balloonOf 1 = .ok (.iconst 0, 1) := by decide +kernel
theorem dL_balloonOf_2 : decode cL_balloonOf 2 = .ok (.aload_n 0, 1) := by decide +kernel
theorem dL_balloonOf_3 : decode cL_balloonOf 3 = .ok (.iload_n 1, 1) := by decide +kernel
theorem dL_balloonOf_4 : decode cL_balloonOf 4 = .ok (.iload_n 2, 1) := by decide +kernel
theorem dL_balloonOf_5 : decode cL_balloonOf 5 = .ok (.invokevirtual 57, 3) := by decide +kernel
theorem dL_balloonOf_8 : decode cL_balloonOf 8 = .ok (.i2l, 1) := by decide +kernel
theorem dL_balloonOf_9 : decode cL_balloonOf 9 = .ok (.lastore, 1) := by decide +kernel
theorem dL_balloonOf_10 : decode cL_balloonOf 10 = .ok (.goto 11, 3) := by decide +kernel
theorem dL_balloonOf_13 : decode cL_balloonOf 13 = .ok (.astore 4, 2) := by decide +kernel
theorem dL_balloonOf_15 : decode cL_balloonOf 15 = .ok (.iconst 1, 1) := by decide +kernel
theorem dL_balloonOf_16 : decode cL_balloonOf 16 = .ok (.ireturn, 1) := by decide +kernel
theorem dL_balloonOf_17 : decode cL_balloonOf 17 = .ok (.astore 4, 2) := by decide +kernel
theorem dL_balloonOf_19 : decode cL_balloonOf 19 = .ok (.iconst 2, 1) := by decide +kernel
theorem dL_balloonOf_20 : decode cL_balloonOf 20 = .ok (.ireturn, 1) := by decide +kernel
theorem dL_balloonOf_21 : decode cL_balloonOf 21 = .ok (.iconst 0, 1) := by decide +kernel
theorem dL_balloonOf_22 : decode cL_balloonOf 22 = .ok (.ireturn, 1) := by decide +kernel
theorem dL_letterOf_0 : decode cL_letterOf 0 = .ok (.aload_n 3, 1) := by decide +kernel
theorem dL_letterOf_1 : decode cL_letterOf 1 = .ok (.iconst 0, 1) := by decide +kernel
theorem dL_letterOf_2 : decode cL_letterOf 2 = .ok (.aload_n 0, 1) := by decide +kernel
theorem dL_letterOf_3 : decode cL_letterOf 3 = .ok (.iload_n 1, 1) := by decide +kernel
theorem dL_letterOf_4 : decode cL_letterOf 4 = .ok (.iload_n 2, 1) := by decide +kernel
theorem dL_letterOf_5 : decode cL_letterOf 5 = .ok (.invokevirtual 60, 3) := by decide +kernel
theorem dL_letterOf_8 : decode cL_letterOf 8 = .ok (.i2l, 1) := by decide +kernel
theorem dL_letterOf_9 : decode cL_letterOf 9 = .ok (.lastore, 1) := by decide +kernel
theorem dL_letterOf_10 : decode cL_letterOf 10 = .ok (.goto 11, 3) := by decide +kernel
theorem dL_letterOf_13 : decode cL_letterOf 13 = .ok (.astore 4, 2) := by decide +kernel
theorem dL_letterOf_15 : decode cL_letterOf 15 = .ok (.iconst 1, 1) := by decide +kernel
theorem dL_letterOf_16 : decode cL_letterOf 16 = .ok (.ireturn, 1) := by decide +kernel
theorem dL_letterOf_17 : decode cL_letterOf 17 = .ok (.astore 4, 2) := by decide +kernel
theorem dL_letterOf_19 : decode cL_letterOf 19 = .ok (.iconst 2, 1) := by decide +kernel
theorem dL_letterOf_20 : decode cL_letterOf 20 = .ok (.ireturn, 1) := by decide +kernel
theorem dL_letterOf_21 : decode cL_letterOf 21 = .ok (.iconst 0, 1) := by decide +kernel
theorem dL_letterOf_22 : decode cL_letterOf 22 = .ok (.ireturn, 1) := by decide +kernel
theorem dL_weightAgain_0 : decode cL_weightAgain 0 = .ok (.aload_n 2, 1) := by decide +kernel
theorem dL_weightAgain_1 : decode cL_weightAgain 1 = .ok (.iconst 0, 1) := by decide +kernel
theorem dL_weightAgain_2 : decode cL_weightAgain 2 = .ok (.aload_n 0, 1) := by decide +kernel
theorem dL_weightAgain_3 : decode cL_weightAgain 3 = .ok (.iload_n 1, 1) := by decide +kernel
theorem dL_weightAgain_4 : decode cL_weightAgain 4 = .ok (.invokevirtual 63, 3) := by decide +kernel
theorem dL_weightAgain_7 : decode cL_weightAgain 7 = .ok (.i2l, 1) := by decide +kernel
theorem dL_weightAgain_8 : decode cL_weightAgain 8 = .ok (.lastore, 1) := by decide +kernel
theorem dL_weightAgain_9 : decode cL_weightAgain 9 = .ok (.goto 6, 3) := by decide +kernel
theorem dL_weightAgain_12 : decode cL_weightAgain 12 = .ok (.astore_n 3, 1) := by decide +kernel
theorem dL_weightAgain_13 : decode cL_weightAgain 13 = .ok (.iconst 1, 1) := by decide +kernel
theorem dL_weightAgain_14 : decode cL_weightAgain 14 = .ok (.ireturn, 1) := by decide +kernel
theorem dL_weightAgain_15 : decode cL_weightAgain 15 = .ok (.iconst 0, 1) := by decide +kernel
theorem dL_weightAgain_16 : decode cL_weightAgain 16 = .ok (.ireturn, 1) := by decide +kernel
theorem dL_waiting_0 : decode cL_waiting 0 = .ok (.aload_n 2, 1) := by decide +kernel
theorem dL_waiting_1 : decode cL_waiting 1 = .ok (.iconst 0, 1) := by decide +kernel
theorem dL_waiting_2 : decode cL_waiting 2 = .ok (.aload_n 0, 1) := by decide +kernel
theorem dL_waiting_3 : decode cL_waiting 3 = .ok (.iload_n 1, 1) := by decide +kernel
theorem dL_waiting_4 : decode cL_waiting 4 = .ok (.invokevirtual 66, 3) := by decide +kernel
theorem dL_waiting_7 : decode cL_waiting 7 = .ok (.i2l, 1) := by decide +kernel
theorem dL_waiting_8 : decode cL_waiting 8 = .ok (.lastore, 1) := by decide +kernel
theorem dL_waiting_9 : decode cL_waiting 9 = .ok (.goto 6, 3) := by decide +kernel
theorem dL_waiting_12 : decode cL_waiting 12 = .ok (.astore_n 3, 1) := by decide +kernel
theorem dL_waiting_13 : decode cL_waiting 13 = .ok (.iconst 1, 1) := by decide +kernel
theorem dL_waiting_14 : decode cL_waiting 14 = .ok (.ireturn, 1) := by decide +kernel
theorem dL_waiting_15 : decode cL_waiting 15 = .ok (.iconst 0, 1) := by decide +kernel
theorem dL_waiting_16 : decode cL_waiting 16 = .ok (.ireturn, 1) := by decide +kernel
theorem dL_word_0 : decode cL_word 0 = .ok (.aload_n 2, 1) := by decide +kernel
theorem dL_word_1 : decode cL_word 1 = .ok (.iconst 0, 1) := by decide +kernel
theorem dL_word_2 : decode cL_word 2 = .ok (.aload_n 0, 1) := by decide +kernel
theorem dL_word_3 : decode cL_word 3 = .ok (.iload_n 1, 1) := by decide +kernel
theorem dL_word_4 : decode cL_word 4 = .ok (.invokevirtual 71, 3) := by decide +kernel
theorem dL_word_7 : decode cL_word 7 = .ok (.i2l, 1) := by decide +kernel
theorem dL_word_8 : decode cL_word 8 = .ok (.lastore, 1) := by decide +kernel
theorem dL_word_9 : decode cL_word 9 = .ok (.goto 9, 3) := by decide +kernel
theorem dL_word_12 : decode cL_word 12 = .ok (.astore_n 3, 1) := by decide +kernel
theorem dL_word_13 : decode cL_word 13 = .ok (.iconst 1, 1) := by decide +kernel
theorem dL_word_14 : decode cL_word 14 = .ok (.ireturn, 1) := by decide +kernel
theorem dL_word_15 : decode cL_word 15 = .ok (.astore_n 3, 1) := by decide +kernel
theorem dL_word_16 : decode cL_word 16 = .ok (.iconst 2, 1) := by decide +kernel
theorem dL_word_17 : decode cL_word 17 = .ok (.ireturn, 1) := by decide +kernel
theorem dL_word_18 : decode cL_word 18 = .ok (.iconst 0, 1) := by decide +kernel
theorem dL_word_19 : decode cL_word 19 = .ok (.ireturn, 1) := by decide +kernel
theorem dL_sign_0 : decode cL_sign 0 = .ok (.aload_n 2, 1) := by decide +kernel
theorem dL_sign_1 : decode cL_sign 1 = .ok (.iconst 0, 1) := by decide +kernel
theorem dL_sign_2 : decode cL_sign 2 = .ok (.aload_n 0, 1) := by decide +kernel
theorem dL_sign_3 : decode cL_sign 3 = .ok (.iload_n 1, 1) := by decide +kernel
theorem dL_sign_4 : decode cL_sign 4 = .ok (.invokevirtual 74, 3) := by decide +kernel
theorem dL_sign_7 : decode cL_sign 7 = .ok (.i2l, 1) := by decide +kernel
theorem dL_sign_8 : decode cL_sign 8 = .ok (.lastore, 1) := by decide +kernel
theorem dL_sign_9 : decode cL_sign 9 = .ok (.goto 6, 3) := by decide +kernel
theorem dL_sign_12 : decode cL_sign 12 = .ok (.astore_n 3, 1) := by decide +kernel
theorem dL_sign_13 : decode cL_sign 13 = .ok (.iconst 1, 1) := by decide +kernel
theorem dL_sign_14 : decode cL_sign 14 = .ok (.ireturn, 1) := by decide +kernel
theorem dL_sign_15 : decode cL_sign 15 = .ok (.iconst 0, 1) := by decide +kernel
theorem dL_sign_16 : decode cL_sign 16 = .ok (.ireturn, 1) := by decide +kernel
theorem dL_isWithin_0 : decode cL_isWithin 0 = .ok (.aload_n 3, 1) := by decide +kernel
theorem dL_isWithin_1 : decode cL_isWithin 1 = .ok (.iconst 0, 1) := by decide +kernel
theorem dL_isWithin_2 : decode cL_isWithin 2 = .ok (.aload_n 0, 1) := by decide +kernel
theorem dL_isWithin_3 : decode cL_isWithin 3 = .ok (.iload_n 1, 1) := by decide +kernel
theorem dL_isWithin_4 : decode cL_isWithin 4 = .ok (.iload_n 2, 1) := by decide +kernel
theorem dL_isWithin_5 : decode cL_isWithin 5 = .ok (.invokevirtual 78, 3) := by decide +kernel
theorem dL_isWithin_8 : decode cL_isWithin 8 = .ok (.ifCond .eq 7, 3) := by decide +kernel
theorem dL_isWithin_11 : decode cL_isWithin 11 = .ok (.lconst 1, 1) := by decide +kernel
theorem dL_isWithin_12 : decode cL_isWithin 12 = .ok (.goto 4, 3) := by decide +kernel
theorem dL_isWithin_15 : decode cL_isWithin 15 = .ok (.lconst 0, 1) := by decide +kernel
theorem dL_isWithin_16 : decode cL_isWithin 16 = .ok (.lastore, 1) := by decide +kernel
theorem dL_isWithin_17 : decode cL_isWithin 17 = .ok (.goto 7, 3) := by decide +kernel
theorem dL_isWithin_20 : decode cL_isWithin 20 = .ok (.astore 4, 2) := by decide +kernel
theorem dL_isWithin_22 : decode cL_isWithin 22 = .ok (.iconst 1, 1) := by decide +kernel
theorem dL_isWithin_23 : decode cL_isWithin 23 = .ok (.ireturn, 1) := by decide +kernel
theorem dL_isWithin_24 : decode cL_isWithin 24 = .ok (.iconst 0, 1) := by decide +kernel
theorem dL_isWithin_25 : decode cL_isWithin 25 = .ok (.ireturn, 1) := by decide +kernel
theorem dL_endsIn_0 : decode cL_endsIn 0 = .ok (.aload_n 2, 1) := by decide +kernel
theorem dL_endsIn_1 : decode cL_endsIn 1 = .ok (.iconst 0, 1) := by decide +kernel
theorem dL_endsIn_2 : decode cL_endsIn 2 = .ok (.aload_n 0, 1) := by decide +kernel
theorem dL_endsIn_3 : decode cL_endsIn 3 = .ok (.iload_n 1, 1) := by decide +kernel
theorem dL_endsIn_4 : decode cL_endsIn 4 = .ok (.invokevirtual 82, 3) := by decide +kernel
theorem dL_endsIn_7 : decode cL_endsIn 7 = .ok (.i2l, 1) := by decide +kernel
theorem dL_endsIn_8 : decode cL_endsIn 8 = .ok (.lastore, 1) := by decide +kernel
theorem dL_endsIn_9 : decode cL_endsIn 9 = .ok (.goto 9, 3) := by decide +kernel
theorem dL_endsIn_12 : decode cL_endsIn 12 = .ok (.astore_n 3, 1) := by decide +kernel
theorem dL_endsIn_13 : decode cL_endsIn 13 = .ok (.iconst 1, 1) := by decide +kernel
theorem dL_endsIn_14 : decode cL_endsIn 14 = .ok (.ireturn, 1) := by decide +kernel
theorem dL_endsIn_15 : decode cL_endsIn 15 = .ok (.astore_n 3, 1) := by decide +kernel
theorem dL_endsIn_16 : decode cL_endsIn 16 = .ok (.iconst 2, 1) := by decide +kernel
theorem dL_endsIn_17 : decode cL_endsIn 17 = .ok (.ireturn, 1) := by decide +kernel
theorem dL_endsIn_18 : decode cL_endsIn 18 = .ok (.iconst 0, 1) := by decide +kernel
theorem dL_endsIn_19 : decode cL_endsIn 19 = .ok (.ireturn, 1) := by decide +kernel
theorem dL_ends_0 : decode cL_ends 0 = .ok (.aload_n 3, 1) := by decide +kernel
theorem dL_ends_1 : decode cL_ends 1 = .ok (.iconst 0, 1) := by decide +kernel
theorem dL_ends_2 : decode cL_ends 2 = .ok (.aload_n 0, 1) := by decide +kernel
theorem dL_ends_3 : decode cL_ends 3 = .ok (.iload_n 1, 1) := by decide +kernel
theorem dL_ends_4 : decode cL_ends 4 = .ok (.iload_n 2, 1) := by decide +kernel
theorem dL_ends_5 : decode cL_ends 5 = .ok (.invokevirtual 85, 3) := by decide +kernel
theorem dL_ends_8 : decode cL_ends 8 = .ok (.i2l, 1) := by decide +kernel
theorem dL_ends_9 : decode cL_ends 9 = .ok (.lastore, 1) := by decide +kernel
theorem dL_ends_10 : decode cL_ends 10 = .ok (.goto 15, 3) := by decide +kernel
theorem dL_ends_13 : decode cL_ends 13 = .ok (.astore 4, 2) := by decide +kernel
theorem dL_ends_15 : decode cL_ends 15 = .ok (.iconst 1, 1) := by decide +kernel
theorem dL_ends_16 : decode cL_ends 16 = .ok (.ireturn, 1) := by decide +kernel
theorem dL_ends_17 : decode cL_ends 17 = .ok (.astore 4, 2) := by decide +kernel
theorem dL_ends_19 : decode cL_ends 19 = .ok (.iconst 2, 1) := by decide +kernel
theorem dL_ends_20 : decode cL_ends 20 = .ok (.ireturn, 1) := by decide +kernel
theorem dL_ends_21 : decode cL_ends 21 = .ok (.astore 4, 2) := by decide +kernel
theorem dL_ends_23 : decode cL_ends 23 = .ok (.iconst 3, 1) := by decide +kernel
theorem dL_ends_24 : decode cL_ends 24 = .ok (.ireturn, 1) := by decide +kernel
theorem dL_ends_25 : decode cL_ends 25 = .ok (.iconst 0, 1) := by decide +kernel
theorem dL_ends_26 : decode cL_ends 26 = .ok (.ireturn, 1) := by decide +kernel
theorem dL_bestDrop_0 : decode cL_bestDrop 0 = .ok (.aload_n 2, 1) := by decide +kernel
theorem dL_bestDrop_1 : decode cL_bestDrop 1 = .ok (.iconst 0, 1) := by decide +kernel
theorem dL_bestDrop_2 : decode cL_bestDrop 2 = .ok (.aload_n 0, 1) := by decide +kernel
theorem dL_bestDrop_3 : decode cL_bestDrop 3 = .ok (.iload_n 1, 1) := by decide +kernel
theorem dL_bestDrop_4 : decode cL_bestDrop 4 = .ok (.invokevirtual 88, 3) := by decide +kernel
theorem dL_bestDrop_7 : decode cL_bestDrop 7 = .ok (.i2l, 1) := by decide +kernel
theorem dL_bestDrop_8 : decode cL_bestDrop 8 = .ok (.lastore, 1) := by decide +kernel
theorem dL_bestDrop_9 : decode cL_bestDrop 9 = .ok (.goto 9, 3) := by decide +kernel
theorem dL_bestDrop_12 : decode cL_bestDrop 12 = .ok (.astore_n 3, 1) := by decide +kernel
theorem dL_bestDrop_13 : decode cL_bestDrop 13 = .ok (.iconst 1, 1) := by decide +kernel
theorem dL_bestDrop_14 : decode cL_bestDrop 14 = .ok (.ireturn, 1) := by decide +kernel
theorem dL_bestDrop_15 : decode cL_bestDrop 15 = .ok (.astore_n 3, 1) := by decide +kernel
theorem dL_bestDrop_16 : decode cL_bestDrop 16 = .ok (.iconst 2, 1) := by decide +kernel
theorem dL_bestDrop_17 : decode cL_bestDrop 17 = .ok (.ireturn, 1) := by decide +kernel
theorem dL_bestDrop_18 : decode cL_bestDrop 18 = .ok (.iconst 0, 1) := by decide +kernel
theorem dL_bestDrop_19 : decode cL_bestDrop 19 = .ok (.ireturn, 1) := by decide +kernel
theorem dL_append_0 : decode cL_append 0 = .ok (.aload_n 2, 1) := by decide +kernel
theorem dL_append_1 : decode cL_append 1 = .ok (.iconst 0, 1) := by decide +kernel
theorem dL_append_2 : decode cL_append 2 = .ok (.aload_n 0, 1) := by decide +kernel
theorem dL_append_3 : decode cL_append 3 = .ok (.iload_n 1, 1) := by decide +kernel
theorem dL_append_4 : decode cL_append 4 = .ok (.invokevirtual 91, 3) := by decide +kernel
theorem dL_append_7 : decode cL_append 7 = .ok (.i2l, 1) := by decide +kernel
theorem dL_append_8 : decode cL_append 8 = .ok (.lastore, 1) := by decide +kernel
theorem dL_append_9 : decode cL_append 9 = .ok (.goto 6, 3) := by decide +kernel
theorem dL_append_12 : decode cL_append 12 = .ok (.astore_n 3, 1) := by decide +kernel
theorem dL_append_13 : decode cL_append 13 = .ok (.iconst 1, 1) := by decide +kernel
theorem dL_append_14 : decode cL_append 14 = .ok (.ireturn, 1) := by decide +kernel
theorem dL_append_15 : decode cL_append 15 = .ok (.iconst 0, 1) := by decide +kernel
theorem dL_append_16 : decode cL_append 16 = .ok (.ireturn, 1) := by decide +kernel
theorem dL_read_0 : decode cL_read 0 = .ok (.aload_n 1, 1) := by decide +kernel
theorem dL_read_1 : decode cL_read 1 = .ok (.iconst 0, 1) := by decide +kernel
theorem dL_read_2 : decode cL_read 2 = .ok (.aload_n 0, 1) := by decide +kernel
theorem dL_read_3 : decode cL_read 3 = .ok (.invokevirtual 97, 3) := by decide +kernel
theorem dL_read_6 : decode cL_read 6 = .ok (.i2l, 1) := by decide +kernel
theorem dL_read_7 : decode cL_read 7 = .ok (.lastore, 1) := by decide +kernel
theorem dL_read_8 : decode cL_read 8 = .ok (.goto 9, 3) := by decide +kernel
theorem dL_read_11 : decode cL_read 11 = .ok (.astore_n 2, 1) := by decide +kernel
theorem dL_read_12 : decode cL_read 12 = .ok (.iconst 1, 1) := by decide +kernel
theorem dL_read_13 : decode cL_read 13 = .ok (.ireturn, 1) := by decide +kernel
theorem dL_read_14 : decode cL_read 14 = .ok (.astore_n 2, 1) := by decide +kernel
theorem dL_read_15 : decode cL_read 15 = .ok (.iconst 2, 1) := by decide +kernel
theorem dL_read_16 : decode cL_read 16 = .ok (.ireturn, 1) := by decide +kernel
theorem dL_read_17 : decode cL_read 17 = .ok (.iconst 0, 1) := by decide +kernel
theorem dL_read_18 : decode cL_read 18 = .ok (.ireturn, 1) := by decide +kernel
theorem dL_refusal_0 : decode cL_refusal 0 = .ok (.aload_n 2, 1) := by decide +kernel
theorem dL_refusal_1 : decode cL_refusal 1 = .ok (.iconst 0, 1) := by decide +kernel
theorem dL_refusal_2 : decode cL_refusal 2 = .ok (.aload_n 0, 1) := by decide +kernel
theorem dL_refusal_3 : decode cL_refusal 3 = .ok (.iload_n 1, 1) := by decide +kernel
theorem dL_refusal_4 : decode cL_refusal 4 = .ok (.invokevirtual 101, 3) := by decide +kernel
theorem dL_refusal_7 : decode cL_refusal 7 = .ok (.i2l, 1) := by decide +kernel
theorem dL_refusal_8 : decode cL_refusal 8 = .ok (.lastore, 1) := by decide +kernel
theorem dL_refusal_9 : decode cL_refusal 9 = .ok (.goto 6, 3) := by decide +kernel
theorem dL_refusal_12 : decode cL_refusal 12 = .ok (.astore_n 3, 1) := by decide +kernel
theorem dL_refusal_13 : decode cL_refusal 13 = .ok (.iconst 1, 1) := by decide +kernel
theorem dL_refusal_14 : decode cL_refusal 14 = .ok (.ireturn, 1) := by decide +kernel
theorem dL_refusal_15 : decode cL_refusal 15 = .ok (.iconst 0, 1) := by decide +kernel
theorem dL_refusal_16 : decode cL_refusal 16 = .ok (.ireturn, 1) := by decide +kernel
theorem dL_account_0 : decode cL_account 0 = .ok (.aload_n 2, 1) := by decide +kernel
theorem dL_account_1 : decode cL_account 1 = .ok (.iconst 0, 1) := by decide +kernel
theorem dL_account_2 : decode cL_account 2 = .ok (.aload_n 0, 1) := by decide +kernel
theorem dL_account_3 : decode cL_account 3 = .ok (.iload_n 1, 1) := by decide +kernel
theorem dL_account_4 : decode cL_account 4 = .ok (.invokevirtual 105, 3) := by decide +kernel
theorem dL_account_7 : decode cL_account 7 = .ok (.i2l, 1) := by decide +kernel
theorem dL_account_8 : decode cL_account 8 = .ok (.lastore, 1) := by decide +kernel
theorem dL_account_9 : decode cL_account 9 = .ok (.goto 6, 3) := by decide +kernel
theorem dL_account_12 : decode cL_account 12 = .ok (.astore_n 3, 1) := by decide +kernel
theorem dL_account_13 : decode cL_account 13 = .ok (.iconst 1, 1) := by decide +kernel
theorem dL_account_14 : decode cL_account 14 = .ok (.ireturn, 1) := by decide +kernel
theorem dL_account_15 : decode cL_account 15 = .ok (.iconst 0, 1) := by decide +kernel
theorem dL_account_16 : decode cL_account 16 = .ok (.ireturn, 1) := by decide +kernel
theorem dL_meanDistance_0 : decode cL_meanDistance 0 = .ok (.aload_n 1, 1) := by decide +kernel
theorem dL_meanDistance_1 : decode cL_meanDistance 1 = .ok (.iconst 0, 1) := by decide +kernel
theorem dL_meanDistance_2 : decode cL_meanDistance 2 = .ok (.aload_n 0, 1) := by decide +kernel
theorem dL_meanDistance_3 : decode cL_meanDistance 3 = .ok (.invokevirtual 108, 3) := by decide +kernel
theorem dL_meanDistance_6 : decode cL_meanDistance 6 = .ok (.dastore, 1) := by decide +kernel
theorem dL_meanDistance_7 : decode cL_meanDistance 7 = .ok (.goto 6, 3) := by decide +kernel
theorem dL_meanDistance_10 : decode cL_meanDistance 10 = .ok (.astore_n 2, 1) := by decide +kernel
theorem dL_meanDistance_11 : decode cL_meanDistance 11 = .ok (.iconst 1, 1) := by decide +kernel
theorem dL_meanDistance_12 : decode cL_meanDistance 12 = .ok (.ireturn, 1) := by decide +kernel
theorem dL_meanDistance_13 : decode cL_meanDistance 13 = .ok (.iconst 0, 1) := by decide +kernel
theorem dL_meanDistance_14 : decode cL_meanDistance 14 = .ok (.ireturn, 1) := by decide +kernel
theorem dL_share_0 : decode cL_share 0 = .ok (.aload_n 1, 1) := by decide +kernel
theorem dL_share_1 : decode cL_share 1 = .ok (.iconst 0, 1) := by decide +kernel
theorem dL_share_2 : decode cL_share 2 = .ok (.aload_n 0, 1) := by decide +kernel
theorem dL_share_3 : decode cL_share 3 = .ok (.invokevirtual 114, 3) := by decide +kernel
theorem dL_share_6 : decode cL_share 6 = .ok (.f2d, 1) := by decide +kernel
theorem dL_share_7 : decode cL_share 7 = .ok (.dastore, 1) := by decide +kernel
theorem dL_share_8 : decode cL_share 8 = .ok (.goto 6, 3) := by decide +kernel
theorem dL_share_11 : decode cL_share 11 = .ok (.astore_n 2, 1) := by decide +kernel
theorem dL_share_12 : decode cL_share 12 = .ok (.iconst 1, 1) := by decide +kernel
theorem dL_share_13 : decode cL_share 13 = .ok (.ireturn, 1) := by decide +kernel
theorem dL_share_14 : decode cL_share 14 = .ok (.iconst 0, 1) := by decide +kernel
theorem dL_share_15 : decode cL_share 15 = .ok (.ireturn, 1) := by decide +kernel
theorem dL_undo_0 : decode cL_undo 0 = .ok (.aload_n 1, 1) := by decide +kernel
theorem dL_undo_1 : decode cL_undo 1 = .ok (.iconst 0, 1) := by decide +kernel
theorem dL_undo_2 : decode cL_undo 2 = .ok (.aload_n 0, 1) := by decide +kernel
theorem dL_undo_3 : decode cL_undo 3 = .ok (.invokevirtual 118, 3) := by decide +kernel
theorem dL_undo_6 : decode cL_undo 6 = .ok (.i2l, 1) := by decide +kernel
theorem dL_undo_7 : decode cL_undo 7 = .ok (.lastore, 1) := by decide +kernel
theorem dL_undo_8 : decode cL_undo 8 = .ok (.goto 6, 3) := by decide +kernel
theorem dL_undo_11 : decode cL_undo 11 = .ok (.astore_n 2, 1) := by decide +kernel
theorem dL_undo_12 : decode cL_undo 12 = .ok (.iconst 1, 1) := by decide +kernel
theorem dL_undo_13 : decode cL_undo 13 = .ok (.ireturn, 1) := by decide +kernel
theorem dL_undo_14 : decode cL_undo 14 = .ok (.iconst 0, 1) := by decide +kernel
theorem dL_undo_15 : decode cL_undo 15 = .ok (.ireturn, 1) := by decide +kernel
theorem dL_restore_0 : decode cL_restore 0 = .ok (.aload_n 1, 1) := by decide +kernel
theorem dL_restore_1 : decode cL_restore 1 = .ok (.iconst 0, 1) := by decide +kernel
theorem dL_restore_2 : decode cL_restore 2 = .ok (.aload_n 0, 1) := by decide +kernel
theorem dL_restore_3 : decode cL_restore 3 = .ok (.invokevirtual 121, 3) := by decide +kernel
theorem dL_restore_6 : decode cL_restore 6 = .ok (.i2l, 1) := by decide +kernel
theorem dL_restore_7 : decode cL_restore 7 = .ok (.lastore, 1) := by decide +kernel
theorem dL_restore_8 : decode cL_restore 8 = .ok (.goto 6, 3) := by decide +kernel
theorem dL_restore_11 : decode cL_restore 11 = .ok (.astore_n 2, 1) := by decide +kernel
theorem dL_restore_12 : decode cL_restore 12 = .ok (.iconst 1, 1) := by decide +kernel
theorem dL_restore_13 : decode cL_restore 13 = .ok (.ireturn, 1) := by decide +kernel
theorem dL_restore_14 : decode cL_restore 14 = .ok (.iconst 0, 1) := by decide +kernel
theorem dL_restore_15 : decode cL_restore 15 = .ok (.ireturn, 1) := by decide +kernel
theorem dL_law_0 : decode cL_law 0 = .ok (.new 8, 3) := by decide +kernel
theorem dL_law_3 : decode cL_law 3 = .ok (.dup, 1) := by decide +kernel
theorem dL_law_4 : decode cL_law 4 = .ok (.invokespecial 124, 3) := by decide +kernel
theorem dL_law_7 : decode cL_law 7 = .ok (.astore_n 1, 1) := by decide +kernel
theorem dL_law_8 : decode cL_law 8 = .ok (.new 125, 3) := by decide +kernel
theorem dL_law_11 : decode cL_law 11 = .ok (.dup, 1) := by decide +kernel
theorem dL_law_12 : decode cL_law 12 = .ok (.invokespecial 127, 3) := by decide +kernel
theorem dL_law_15 : decode cL_law 15 = .ok (.astore_n 2, 1) := by decide +kernel
theorem dL_law_16 : decode cL_law 16 = .ok (.iconst 1, 1) := by decide +kernel
theorem dL_law_17 : decode cL_law 17 = .ok (.newarray .long, 2) := by decide +kernel
theorem dL_law_19 : decode cL_law 19 = .ok (.astore_n 3, 1) := by decide +kernel
theorem dL_law_20 : decode cL_law 20 = .ok (.iconst 1, 1) := by decide +kernel
theorem dL_law_21 : decode cL_law 21 = .ok (.newarray .double, 2) := by decide +kernel
theorem dL_law_23 : decode cL_law 23 = .ok (.astore 4, 2) := by decide +kernel
theorem dL_law_25 : decode cL_law 25 = .ok (.iconst 0, 1) := by decide +kernel
theorem dL_law_26 : decode cL_law 26 = .ok (.istore 5, 2) := by decide +kernel
theorem dL_law_28 : decode cL_law 28 = .ok (.iload 5, 2) := by decide +kernel
theorem dL_law_30 : decode cL_law 30 = .ok (.aload_n 0, 1) := by decide +kernel
theorem dL_law_31 : decode cL_law 31 = .ok (.arraylength, 1) := by decide +kernel
theorem dL_law_32 : decode cL_law 32 = .ok (.iconst 4, 1) := by decide +kernel
theorem dL_law_33 : decode cL_law 33 = .ok (.isub, 1) := by decide +kernel
theorem dL_law_34 : decode cL_law 34 = .ok (.if_icmp .gt 2095, 3) := by decide +kernel
theorem dL_law_37 : decode cL_law 37 = .ok (.aload_n 0, 1) := by decide +kernel
theorem dL_law_38 : decode cL_law 38 = .ok (.iload 5, 2) := by decide +kernel
theorem dL_law_40 : decode cL_law 40 = .ok (.iaload, 1) := by decide +kernel
theorem dL_law_41 : decode cL_law 41 = .ok (.bipush 63, 2) := by decide +kernel
theorem dL_law_43 : decode cL_law 43 = .ok (.iand, 1) := by decide +kernel
theorem dL_law_44 : decode cL_law 44 = .ok (.tableswitch 2079 0 33 #[152, 208, 288, 344, 400, 468, 536, 604, 672, 740, 796, 852, 920, 976, 1044, 1112, 1168, 1224, 1280, 1336, 1411, 1467, 1535, 1591, 1649, 1693, 1706, 1778, 1834, 1847, 1912, 1978, 2022, 2035], 152) := by decide +kernel
theorem dL_law_196 : decode cL_law 196 = .ok (.aload_n 1, 1) := by decide +kernel
theorem dL_law_197 : decode cL_law 197 = .ok (.aload_n 0, 1) := by decide +kernel
theorem dL_law_198 : decode cL_law 198 = .ok (.iload 5, 2) := by decide +kernel
theorem dL_law_200 : decode cL_law 200 = .ok (.iconst 1, 1) := by decide +kernel
theorem dL_law_201 : decode cL_law 201 = .ok (.iadd, 1) := by decide +kernel
theorem dL_law_202 : decode cL_law 202 = .ok (.iaload, 1) := by decide +kernel
theorem dL_law_203 : decode cL_law 203 = .ok (.aload_n 3, 1) := by decide +kernel
theorem dL_law_204 : decode cL_law 204 = .ok (.invokestatic 128, 3) := by decide +kernel
theorem dL_law_207 : decode cL_law 207 = .ok (.istore 6, 2) := by decide +kernel
theorem dL_law_209 : decode cL_law 209 = .ok (.aload_n 2, 1) := by decide +kernel
theorem dL_law_210 : decode cL_law 210 = .ok (.aload_n 0, 1) := by decide +kernel
theorem dL_law_211 : decode cL_law 211 = .ok (.iload 5, 2) := by decide +kernel
theorem dL_law_213 : decode cL_law 213 = .ok (.iconst 1, 1) := by decide +kernel
theorem dL_law_214 : decode cL_law 214 = .ok (.iadd, 1) := by decide +kernel
theorem dL_law_215 : decode cL_law 215 = .ok (.iaload, 1) := by decide +kernel
theorem dL_law_216 : decode cL_law 216 = .ok (.invokevirtual 133, 3) := by decide +kernel
theorem dL_law_219 : decode cL_law 219 = .ok (.istore 7, 2) := by decide +kernel
theorem dL_law_221 : decode cL_law 221 = .ok (.aload_n 2, 1) := by decide +kernel
theorem dL_law_222 : decode cL_law 222 = .ok (.invokevirtual 134, 3) := by decide +kernel
theorem dL_law_225 : decode cL_law 225 = .ok (.iload 6, 2) := by decide +kernel
theorem dL_law_227 : decode cL_law 227 = .ok (.if_icmp .eq 5, 3) := by decide +kernel
theorem dL_law_230 : decode cL_law 230 = .ok (.iconst 0, 1) := by decide +kernel
theorem dL_law_231 : decode cL_law 231 = .ok (.ireturn, 1) := by decide +kernel
theorem dL_law_232 : decode cL_law 232 = .ok (.iload 6, 2) := by decide +kernel
theorem dL_law_234 : decode cL_law 234 = .ok (.ifCond .ne 15, 3) := by decide +kernel
theorem dL_law_237 : decode cL_law 237 = .ok (.aload_n 3, 1) := by decide +kernel
theorem dL_law_238 : decode cL_law 238 = .ok (.iconst 0, 1) := by decide +kernel
theorem dL_law_239 : decode cL_law 239 = .ok (.laload, 1) := by decide +kernel
theorem dL_law_240 : decode cL_law 240 = .ok (.iload 7, 2) := by decide +kernel
theorem dL_law_242 : decode cL_law 242 = .ok (.i2l, 1) := by decide +kernel
theorem dL_law_243 : decode cL_law 243 = .ok (.lcmp, 1) := by decide +kernel
theorem dL_law_244 : decode cL_law 244 = .ok (.ifCond .eq 5, 3) := by decide +kernel
theorem dL_law_247 : decode cL_law 247 = .ok (.iconst 0, 1) := by decide +kernel
theorem dL_law_248 : decode cL_law 248 = .ok (.ireturn, 1) := by decide +kernel
theorem dL_law_249 : decode cL_law 249 = .ok (.goto 1874, 3) := by decide +kernel
theorem dL_law_252 : decode cL_law 252 = .ok (.aload_n 1, 1) := by decide +kernel
theorem dL_law_253 : decode cL_law 253 = .ok (.aload_n 0, 1) := by decide +kernel
theorem dL_law_254 : decode cL_law 254 = .ok (.iload 5, 2) := by decide +kernel
theorem dL_law_256 : decode cL_law 256 = .ok (.iconst 1, 1) := by decide +kernel
theorem dL_law_257 : decode cL_law 257 = .ok (.iadd, 1) := by decide +kernel
theorem dL_law_258 : decode cL_law 258 = .ok (.iaload, 1) := by decide +kernel
theorem dL_law_259 : decode cL_law 259 = .ok (.aload_n 0, 1) := by decide +kernel
theorem dL_law_260 : decode cL_law 260 = .ok (.iload 5, 2) := by decide +kernel
theorem dL_law_262 : decode cL_law 262 = .ok (.iconst 2, 1) := by decide +kernel
theorem dL_law_263 : decode cL_law 263 = .ok (.iadd, 1) := by decide +kernel
theorem dL_law_264 : decode cL_law 264 = .ok (.iaload, 1) := by decide +kernel
theorem dL_law_265 : decode cL_law 265 = .ok (.aload_n 0, 1) := by decide +kernel
theorem dL_law_266 : decode cL_law 266 = .ok (.iload 5, 2) := by decide +kernel
theorem dL_law_268 : decode cL_law 268 = .ok (.iconst 3, 1) := by decide +kernel
theorem dL_law_269 : decode cL_law 269 = .ok (.iadd, 1) := by decide +kernel
theorem dL_law_270 : decode cL_law 270 = .ok (.iaload, 1) := by decide +kernel
theorem dL_law_271 : decode cL_law 271 = .ok (.aload_n 3, 1) := by decide +kernel
theorem dL_law_272 : decode cL_law 272 = .ok (.invokestatic 137, 3) := by decide +kernel
theorem dL_law_275 : decode cL_law 275 = .ok (.istore 6, 2) := by decide +kernel
theorem dL_law_277 : decode cL_law 277 = .ok (.aload_n 2, 1) := by decide +kernel
theorem dL_law_278 : decode cL_law 278 = .ok (.aload_n 0, 1) := by decide +kernel
theorem dL_law_279 : decode cL_law 279 = .ok (.iload 5, 2) := by decide +kernel
theorem dL_law_281 : decode cL_law 281 = .ok (.iconst 1, 1) := by decide +kernel
theorem dL_law_282 : decode cL_law 282 = .ok (.iadd, 1) := by decide +kernel
theorem dL_law_283 : decode cL_law 283 = .ok (.iaload, 1) := by decide +kernel
theorem dL_law_284 : decode cL_law 284 = .ok (.aload_n 0, 1) := by decide +kernel
theorem dL_law_285 : decode cL_law 285 = .ok (.iload 5, 2) := by decide +kernel
theorem dL_law_287 : decode cL_law 287 = .ok (.iconst 2, 1) := by decide +kernel
theorem dL_law_288 : decode cL_law 288 = .ok (.iadd, 1) := by decide +kernel
theorem dL_law_289 : decode cL_law 289 = .ok (.iaload, 1) := by decide +kernel
theorem dL_law_290 : decode cL_law 290 = .ok (.aload_n 0, 1) := by decide +kernel
theorem dL_law_291 : decode cL_law 291 = .ok (.iload 5, 2) := by decide +kernel
theorem dL_law_293 : decode cL_law 293 = .ok (.iconst 3, 1) := by decide +kernel
theorem dL_law_294 : decode cL_law 294 = .ok (.iadd, 1) := by decide +kernel
theorem dL_law_295 : decode cL_law 295 = .ok (.iaload, 1) := by decide +kernel
theorem dL_law_296 : decode cL_law 296 = .ok (.invokevirtual 140, 3) := by decide +kernel
theorem dL_law_299 : decode cL_law 299 = .ok (.istore 7, 2) := by decide +kernel
theorem dL_law_301 : decode cL_law 301 = .ok (.aload_n 2, 1) := by decide +kernel
theorem dL_law_302 : decode cL_law 302 = .ok (.invokevirtual 134, 3) := by decide +kernel
theorem dL_law_305 : decode cL_law 305 = .ok (.iload 6, 2) := by decide +kernel
theorem dL_law_307 : decode cL_law 307 = .ok (.if_icmp .eq 5, 3) := by decide +kernel
theorem dL_law_310 : decode cL_law 310 = .ok (.iconst 0, 1) := by decide +kernel
theorem dL_law_311 : decode cL_law 311 = .ok (.ireturn, 1) := by decide +kernel
theorem dL_law_312 : decode cL_law 312 = .ok (.iload 6, 2) := by decide +kernel
theorem dL_law_314 : decode cL_law 314 = .ok (.ifCond .ne 15, 3) := by decide +kernel
theorem dL_law_317 : decode cL_law 317 = .ok (.aload_n 3, 1) := by decide +kernel
theorem dL_law_318 : decode cL_law 318 = .ok (.iconst 0, 1) := by decide +kernel
theorem dL_law_319 : decode cL_law 319 = .ok (.laload, 1) := by decide +kernel
theorem dL_law_320 : decode cL_law 320 = .ok (.iload 7, 2) := by decide +kernel
theorem dL_law_322 : decode cL_law 322 = .ok (.i2l, 1) := by decide +kernel
theorem dL_law_323 : decode cL_law 323 = .ok (.lcmp, 1) := by decide +kernel
theorem dL_law_324 : decode cL_law 324 = .ok (.ifCond .eq 5, 3) := by decide +kernel
theorem dL_law_327 : decode cL_law 327 = .ok (.iconst 0, 1) := by decide +kernel
theorem dL_law_328 : decode cL_law 328 = .ok (.ireturn, 1) := by decide +kernel
theorem dL_law_329 : decode cL_law 329 = .ok (.goto 1794, 3) := by decide +kernel
theorem dL_law_332 : decode cL_law 332 = .ok (.aload_n 1, 1) := by decide +kernel
theorem dL_law_333 : decode cL_law 333 = .ok (.aload_n 0, 1) := by decide +kernel
theorem dL_law_334 : decode cL_law 334 = .ok (.iload 5, 2) := by decide +kernel
theorem dL_law_336 : decode cL_law 336 = .ok (.iconst 1, 1) := by decide +kernel
theorem dL_law_337 : decode cL_law 337 = .ok (.iadd, 1) := by decide +kernel
theorem dL_law_338 : decode cL_law 338 = .ok (.iaload, 1) := by decide +kernel
theorem dL_law_339 : decode cL_law 339 = .ok (.aload_n 3, 1) := by decide +kernel
theorem dL_law_340 : decode cL_law 340 = .ok (.invokestatic 141, 3) := by decide +kernel
theorem dL_law_343 : decode cL_law 343 = .ok (.istore 6, 2) := by decide +kernel
theorem dL_law_345 : decode cL_law 345 = .ok (.aload_n 2, 1) := by decide +kernel
theorem dL_law_346 : decode cL_law 346 = .ok (.aload_n 0, 1) := by decide +kernel
theorem dL_law_347 : decode cL_law 347 = .ok (.iload 5, 2) := by decide +kernel
theorem dL_law_349 : decode cL_law 349 = .ok (.iconst 1, 1) := by decide +kernel
theorem dL_law_350 : decode cL_law 350 = .ok (.iadd, 1) := by decide +kernel
theorem dL_law_351 : decode cL_law 351 = .ok (.iaload, 1) := by decide +kernel
theorem dL_law_352 : decode cL_law 352 = .ok (.invokevirtual 143, 3) := by decide +kernel
theorem dL_law_355 : decode cL_law 355 = .ok (.istore 7, 2) := by decide +kernel
theorem dL_law_357 : decode cL_law 357 = .ok (.aload_n 2, 1) := by decide +kernel
theorem dL_law_358 : decode cL_law 358 = .ok (.invokevirtual 134, 3) := by decide +kernel
theorem dL_law_361 : decode cL_law 361 = .ok (.iload 6, 2) := by decide +kernel
theorem dL_law_363 : decode cL_law 363 = .ok (.if_icmp .eq 5, 3) := by decide +kernel
theorem dL_law_366 : decode cL_law 366 = .ok (.iconst 0, 1) := by decide +kernel
theorem dL_law_367 : decode cL_law 367 = .ok (.ireturn, 1) := by decide +kernel
theorem dL_law_368 : decode cL_law 368 = .ok (.iload 6, 2) := by decide +kernel
theorem dL_law_370 : decode cL_law 370 = .ok (.ifCond .ne 15, 3) := by decide +kernel
theorem dL_law_373 : decode cL_law 373 = .ok (.aload_n 3, 1) := by decide +kernel
theorem dL_law_374 : decode cL_law 374 = .ok (.iconst 0, 1) := by decide +kernel
theorem dL_law_375 : decode cL_law 375 = .ok (.laload, 1) := by decide +kernel
theorem dL_law_376 : decode cL_law 376 = .ok (.iload 7, 2) := by decide +kernel
theorem dL_law_378 : decode cL_law 378 = .ok (.i2l, 1) := by decide +kernel
theorem dL_law_379 : decode cL_law 379 = .ok (.lcmp, 1) := by decide +kernel
theorem dL_law_380 : decode cL_law 380 = .ok (.ifCond .eq 5, 3) := by decide +kernel
theorem dL_law_383 : decode cL_law 383 = .ok (.iconst 0, 1) := by decide +kernel
theorem dL_law_384 : decode cL_law 384 = .ok (.ireturn, 1) := by decide +kernel
theorem dL_law_385 : decode cL_law 385 = .ok (.goto 1738, 3) := by decide +kernel
theorem dL_law_388 : decode cL_law 388 = .ok (.aload_n 1, 1) := by decide +kernel
theorem dL_law_389 : decode cL_law 389 = .ok (.aload_n 0, 1) := by decide +kernel
theorem dL_law_390 : decode cL_law 390 = .ok (.iload 5, 2) := by decide +kernel
theorem dL_law_392 : decode cL_law 392 = .ok (.iconst 1, 1) := by decide +kernel
theorem dL_law_393 : decode cL_law 393 = .ok (.iadd, 1) := by decide +kernel
theorem dL_law_394 : decode cL_law 394 = .ok (.iaload, 1) := by decide +kernel
theorem dL_law_395 : decode cL_law 395 = .ok (.aload_n 3, 1) := by decide +kernel
theorem dL_law_396 : decode cL_law 396 = .ok (.invokestatic 144, 3) := by decide +kernel
theorem dL_law_399 : decode cL_law 399 = .ok (.istore 6, 2) := by decide +kernel
theorem dL_law_401 : decode cL_law 401 = .ok (.aload_n 2, 1) := by decide +kernel
theorem dL_law_402 : decode cL_law 402 = .ok (.aload_n 0, 1) := by decide +kernel
theorem dL_law_403 : decode cL_law 403 = .ok (.iload 5, 2) := by decide +kernel
theorem dL_law_405 : decode cL_law 405 = .ok (.iconst 1, 1) := by decide +kernel
theorem dL_law_406 : decode cL_law 406 = .ok (.iadd, 1) := by decide +kernel
theorem dL_law_407 : decode cL_law 407 = .ok (.iaload, 1) := by decide +kernel
theorem dL_law_408 : decode cL_law 408 = .ok (.invokevirtual 146, 3) := by decide +kernel
theorem dL_law_411 : decode cL_law 411 = .ok (.istore 7, 2) := by decide +kernel
theorem dL_law_413 : decode cL_law 413 = .ok (.aload_n 2, 1) := by decide +kernel
theorem dL_law_414 : decode cL_law 414 = .ok (.invokevirtual 134, 3) := by decide +kernel
theorem dL_law_417 : decode cL_law 417 = .ok (.iload 6, 2) := by decide +kernel
theorem dL_law_419 : decode cL_law 419 = .ok (.if_icmp .eq 5, 3) := by decide +kernel
theorem dL_law_422 : decode cL_law 422 = .ok (.iconst 0, 1) := by decide +kernel
theorem dL_law_423 : decode cL_law 423 = .ok (.ireturn, 1) := by decide +kernel
theorem dL_law_424 : decode cL_law 424 = .ok (.iload 6, 2) := by decide +kernel
theorem dL_law_426 : decode cL_law 426 = .ok (.ifCond .ne 15, 3) := by decide +kernel
theorem dL_law_429 : decode cL_law 429 = .ok (.aload_n 3, 1) := by decide +kernel
theorem dL_law_430 : decode cL_law 430 = .ok (.iconst 0, 1) := by decide +kernel
theorem dL_law_431 : decode cL_law 431 = .ok (.laload, 1) := by decide +kernel
theorem dL_law_432 : decode cL_law 432 = .ok (.iload 7, 2) := by decide +kernel
theorem dL_law_434 : decode cL_law 434 = .ok (.i2l, 1) := by decide +kernel
theorem dL_law_435 : decode cL_law 435 = .ok (.lcmp, 1) := by decide +kernel
theorem dL_law_436 : decode cL_law 436 = .ok (.ifCond .eq 5, 3) := by decide +kernel
theorem dL_law_439 : decode cL_law 439 = .ok (.iconst 0, 1) := by decide +kernel
theorem dL_law_440 : decode cL_law 440 = .ok (.ireturn, 1) := by decide +kernel
theorem dL_law_441 : decode cL_law 441 = .ok (.goto 1682, 3) := by decide +kernel
theorem dL_law_444 : decode cL_law 444 = .ok (.aload_n 1, 1) := by decide +kernel
theorem dL_law_445 : decode cL_law 445 = .ok (.aload_n 0, 1) := by decide +kernel
theorem dL_law_446 : decode cL_law 446 = .ok (.iload 5, 2) := by decide +kernel
theorem dL_law_448 : decode cL_law 448 = .ok (.iconst 1, 1) := by decide +kernel
theorem dL_law_449 : decode cL_law 449 = .ok (.iadd, 1) := by decide +kernel
theorem dL_law_450 : decode cL_law 450 = .ok (.iaload, 1) := by decide +kernel
theorem dL_law_451 : decode cL_law 451 = .ok (.aload_n 0, 1) := by decide +kernel
theorem dL_law_452 : decode cL_law 452 = .ok (.iload 5, 2) := by decide +kernel
theorem dL_law_454 : decode cL_law 454 = .ok (.iconst 2, 1) := by decide +kernel
theorem dL_law_455 : decode cL_law 455 = .ok (.iadd, 1) := by decide +kernel
theorem dL_law_456 : decode cL_law 456 = .ok (.iaload, 1) := by decide +kernel
theorem dL_law_457 : decode cL_law 457 = .ok (.aload_n 3, 1) := by decide +kernel
theorem dL_law_458 : decode cL_law 458 = .ok (.invokestatic 147, 3) := by decide +kernel
theorem dL_law_461 : decode cL_law 461 = .ok (.istore 6, 2) := by decide +kernel
theorem dL_law_463 : decode cL_law 463 = .ok (.aload_n 2, 1) := by decide +kernel
theorem dL_law_464 : decode cL_law 464 = .ok (.aload_n 0, 1) := by decide +kernel
theorem dL_law_465 : decode cL_law 465 = .ok (.iload 5, 2) := by decide +kernel
theorem dL_law_467 : decode cL_law 467 = .ok (.iconst 1, 1) := by decide +kernel
theorem dL_law_468 : decode cL_law 468 = .ok (.iadd, 1) := by decide +kernel
theorem dL_law_469 : decode cL_law 469 = .ok (.iaload, 1) := by decide +kernel
theorem dL_law_470 : decode cL_law 470 = .ok (.aload_n 0, 1) := by decide +kernel
theorem dL_law_471 : decode cL_law 471 = .ok (.iload 5, 2) := by decide +kernel
theorem dL_law_473 : decode cL_law 473 = .ok (.iconst 2, 1) := by decide +kernel
theorem dL_law_474 : decode cL_law 474 = .ok (.iadd, 1) := by decide +kernel
theorem dL_law_475 : decode cL_law 475 = .ok (.iaload, 1) := by decide +kernel
theorem dL_law_476 : decode cL_law 476 = .ok (.invokevirtual 150, 3) := by decide +kernel
theorem dL_law_479 : decode cL_law 479 = .ok (.istore 7, 2) := by decide +kernel
theorem dL_law_481 : decode cL_law 481 = .ok (.aload_n 2, 1) := by decide +kernel
theorem dL_law_482 : decode cL_law 482 = .ok (.invokevirtual 134, 3) := by decide +kernel
theorem dL_law_485 : decode cL_law 485 = .ok (.iload 6, 2) := by decide +kernel
theorem dL_law_487 : decode cL_law 487 = .ok (.if_icmp .eq 5, 3) := by decide +kernel
theorem dL_law_490 : decode cL_law 490 = .ok (.iconst 0, 1) := by decide +kernel
theorem dL_law_491 : decode cL_law 491 = .ok (.ireturn, 1) := by decide +kernel
theorem dL_law_492 : decode cL_law 492 = .ok (.iload 6, 2) := by decide +kernel
theorem dL_law_494 : decode cL_law 494 = .ok (.ifCond .ne 15, 3) := by decide +kernel
theorem dL_law_497 : decode cL_law 497 = .ok (.aload_n 3, 1) := by decide +kernel
theorem dL_law_498 : decode cL_law 498 = .ok (.iconst 0, 1) := by decide +kernel
theorem dL_law_499 : decode cL_law 499 = .ok (.laload, 1) := by decide +kernel
theorem dL_law_500 : decode cL_law 500 = .ok (.iload 7, 2) := by decide +kernel
theorem dL_law_502 : decode cL_law 502 = .ok (.i2l, 1) := by decide +kernel
theorem dL_law_503 : decode cL_law 503 = .ok (.lcmp, 1) := by decide +kernel
theorem dL_law_504 : decode cL_law 504 = .ok (.ifCond .eq 5, 3) := by decide +kernel
theorem dL_law_507 : decode cL_law 507 = .ok (.iconst 0, 1) := by decide +kernel
theorem dL_law_508 : decode cL_law 508 = .ok (.ireturn, 1) := by decide +kernel
theorem dL_law_509 : decode cL_law 509 = .ok (.goto 1614, 3) := by decide +kernel
theorem dL_law_512 : decode cL_law 512 = .ok (.aload_n 1, 1) := by decide +kernel
theorem dL_law_513 : decode cL_law 513 = .ok (.aload_n 0, 1) := by decide +kernel
theorem dL_law_514 : decode cL_law 514 = .ok (.iload 5, 2) := by decide +kernel
theorem dL_law_516 : decode cL_law 516 = .ok (.iconst 1, 1) := by decide +kernel
theorem dL_law_517 : decode cL_law 517 = .ok (.iadd, 1) := by decide +kernel
theorem dL_law_518 : decode cL_law 518 = .ok (.iaload, 1) := by decide +kernel
theorem dL_law_519 : decode cL_law 519 = .ok (.aload_n 0, 1) := by decide +kernel
theorem dL_law_520 : decode cL_law 520 = .ok (.iload 5, 2) := by decide +kernel
theorem dL_law_522 : decode cL_law 522 = .ok (.iconst 2, 1) := by decide +kernel
theorem dL_law_523 : decode cL_law 523 = .ok (.iadd, 1) := by decide +kernel
theorem dL_law_524 : decode cL_law 524 = .ok (.iaload, 1) := by decide +kernel
theorem dL_law_525 : decode cL_law 525 = .ok (.aload_n 3, 1) := by decide +kernel
theorem dL_law_526 : decode cL_law 526 = .ok (.invokestatic 151, 3) := by decide +kernel
theorem dL_law_529 : decode cL_law 529 = .ok (.istore 6, 2) := by decide +kernel
theorem dL_law_531 : decode cL_law 531 = .ok (.aload_n 2, 1) := by decide +kernel
theorem dL_law_532 : decode cL_law 532 = .ok (.aload_n 0, 1) := by decide +kernel
theorem dL_law_533 : decode cL_law 533 = .ok (.iload 5, 2) := by decide +kernel
theorem dL_law_535 : decode cL_law 535 = .ok (.iconst 1, 1) := by decide +kernel
theorem dL_law_536 : decode cL_law 536 = .ok (.iadd, 1) := by decide +kernel
theorem dL_law_537 : decode cL_law 537 = .ok (.iaload, 1) := by decide +kernel
theorem dL_law_538 : decode cL_law 538 = .ok (.aload_n 0, 1) := by decide +kernel
theorem dL_law_539 : decode cL_law 539 = .ok (.iload 5, 2) := by decide +kernel
theorem dL_law_541 : decode cL_law 541 = .ok (.iconst 2, 1) := by decide +kernel
theorem dL_law_542 : decode cL_law 542 = .ok (.iadd, 1) := by decide +kernel
theorem dL_law_543 : decode cL_law 543 = .ok (.iaload, 1) := by decide +kernel
theorem dL_law_544 : decode cL_law 544 = .ok (.invokevirtual 153, 3) := by decide +kernel
theorem dL_law_547 : decode cL_law 547 = .ok (.istore 7, 2) := by decide +kernel
theorem dL_law_549 : decode cL_law 549 = .ok (.aload_n 2, 1) := by decide +kernel
theorem dL_law_550 : decode cL_law 550 = .ok (.invokevirtual 134, 3) := by decide +kernel
theorem dL_law_553 : decode cL_law 553 = .ok (.iload 6, 2) := by decide +kernel
theorem dL_law_555 : decode cL_law 555 = .ok (.if_icmp .eq 5, 3) := by decide +kernel
theorem dL_law_558 : decode cL_law 558 = .ok (.iconst 0, 1) := by decide +kernel
theorem dL_law_559 : decode cL_law 559 = .ok (.ireturn, 1) := by decide +kernel
theorem dL_law_560 : decode cL_law 560 = .ok (.iload 6, 2) := by decide +kernel
theorem dL_law_562 : decode cL_law 562 = .ok (.ifCond .ne 15, 3) := by decide +kernel
theorem dL_law_565 : decode cL_law 565 = .ok (.aload_n 3, 1) := by decide +kernel
theorem dL_law_566 : decode cL_law 566 = .ok (.iconst 0, 1) := by decide +kernel
theorem dL_law_567 : decode cL_law 567 = .ok (.laload, 1) := by decide +kernel
theorem dL_law_568 : decode cL_law 568 = .ok (.iload 7, 2) := by decide +kernel
theorem dL_law_570 : decode cL_law 570 = .ok (.i2l, 1) := by decide +kernel
theorem dL_law_571 : decode cL_law 571 = .ok (.lcmp, 1) := by decide +kernel
theorem dL_law_572 : decode cL_law 572 = .ok (.ifCond .eq 5, 3) := by decide +kernel
theorem dL_law_575 : decode cL_law 575 = .ok (.iconst 0, 1) := by decide +kernel
theorem dL_law_576 : decode cL_law 576 = .ok (.ireturn, 1) := by decide +kernel
theorem dL_law_577 : decode cL_law 577 = .ok (.goto 1546, 3) := by decide +kernel
theorem dL_law_580 : decode cL_law 580 = .ok (.aload_n 1, 1) := by decide +kernel
theorem dL_law_581 : decode cL_law 581 = .ok (.aload_n 0, 1) := by decide +kernel
theorem dL_law_582 : decode cL_law 582 = .ok (.iload 5, 2) := by decide +kernel
theorem dL_law_584 : decode cL_law 584 = .ok (.iconst 1, 1) := by decide +kernel
theorem dL_law_585 : decode cL_law 585 = .ok (.iadd, 1) := by decide +kernel
theorem dL_law_586 : decode cL_law 586 = .ok (.iaload, 1) := by decide +kernel
theorem dL_law_587 : decode cL_law 587 = .ok (.aload_n 0, 1) := by decide +kernel
theorem dL_law_588 : decode cL_law 588 = .ok (.iload 5, 2) := by decide +kernel
theorem dL_law_590 : decode cL_law 590 = .ok (.iconst 2, 1) := by decide +kernel
theorem dL_law_591 : decode cL_law 591 = .ok (.iadd, 1) := by decide +kernel
theorem dL_law_592 : decode cL_law 592 = .ok (.iaload, 1) := by decide +kernel
theorem dL_law_593 : decode cL_law 593 = .ok (.aload_n 3, 1) := by decide +kernel
theorem dL_law_594 : decode cL_law 594 = .ok (.invokestatic 154, 3) := by decide +kernel
theorem dL_law_597 : decode cL_law 597 = .ok (.istore 6, 2) := by decide +kernel
theorem dL_law_599 : decode cL_law 599 = .ok (.aload_n 2, 1) := by decide +kernel
theorem dL_law_600 : decode cL_law 600 = .ok (.aload_n 0, 1) := by decide +kernel
theorem dL_law_601 : decode cL_law 601 = .ok (.iload 5, 2) := by decide +kernel
theorem dL_law_603 : decode cL_law 603 = .ok (.iconst 1, 1) := by decide +kernel
theorem dL_law_604 : decode cL_law 604 = .ok (.iadd, 1) := by decide +kernel
theorem dL_law_605 : decode cL_law 605 = .ok (.iaload, 1) := by decide +kernel
theorem dL_law_606 : decode cL_law 606 = .ok (.aload_n 0, 1) := by decide +kernel
theorem dL_law_607 : decode cL_law 607 = .ok (.iload 5, 2) := by decide +kernel
theorem dL_law_609 : decode cL_law 609 = .ok (.iconst 2, 1) := by decide +kernel
theorem dL_law_610 : decode cL_law 610 = .ok (.iadd, 1) := by decide +kernel
theorem dL_law_611 : decode cL_law 611 = .ok (.iaload, 1) := by decide +kernel
theorem dL_law_612 : decode cL_law 612 = .ok (.invokevirtual 156, 3) := by decide +kernel
theorem dL_law_615 : decode cL_law 615 = .ok (.istore 7, 2) := by decide +kernel
theorem dL_law_617 : decode cL_law 617 = .ok (.aload_n 2, 1) := by decide +kernel
theorem dL_law_618 : decode cL_law 618 = .ok (.invokevirtual 134, 3) := by decide +kernel
theorem dL_law_621 : decode cL_law 621 = .ok (.iload 6, 2) := by decide +kernel
theorem dL_law_623 : decode cL_law 623 = .ok (.if_icmp .eq 5, 3) := by decide +kernel
theorem dL_law_626 : decode cL_law 626 = .ok (.iconst 0, 1) := by decide +kernel
theorem dL_law_627 : decode cL_law 627 = .ok (.ireturn, 1) := by decide +kernel
theorem dL_law_628 : decode cL_law 628 = .ok (.iload 6, 2) := by decide +kernel
theorem dL_law_630 : decode cL_law 630 = .ok (.ifCond .ne 15, 3) := by decide +kernel
theorem dL_law_633 : decode cL_law 633 = .ok (.aload_n 3, 1) := by decide +kernel
theorem dL_law_634 : decode cL_law 634 = .ok (.iconst 0, 1) := by decide +kernel
theorem dL_law_635 : decode cL_law 635 = .ok (.laload, 1) := by decide +kernel
theorem dL_law_636 : decode cL_law 636 = .ok (.iload 7, 2) := by decide +kernel
theorem dL_law_638 : decode cL_law 638 = .ok (.i2l, 1) := by decide +kernel
theorem dL_law_639 : decode cL_law 639 = .ok (.lcmp, 1) := by decide +kernel
theorem dL_law_640 : decode cL_law 640 = .ok (.ifCond .eq 5, 3) := by decide +kernel
theorem dL_law_643 : decode cL_law 643 = .ok (.iconst 0, 1) := by decide +kernel
theorem dL_law_644 : decode cL_law 644 = .ok (.ireturn, 1) := by decide +kernel
theorem dL_law_645 : decode cL_law 645 = .ok (.goto 1478, 3) := by decide +kernel
theorem dL_law_648 : decode cL_law 648 = .ok (.aload_n 1, 1) := by decide +kernel
theorem dL_law_649 : decode cL_law 649 = .ok (.aload_n 0, 1) := by decide +kernel
theorem dL_law_650 : decode cL_law 650 = .ok (.iload 5, 2) := by decide +kernel
theorem dL_law_652 : decode cL_law 652 = .ok (.iconst 1, 1) := by decide +kernel
theorem dL_law_653 : decode cL_law 653 = .ok (.iadd, 1) := by decide +kernel
theorem dL_law_654 : decode cL_law 654 = .ok (.iaload, 1) := by decide +kernel
theorem dL_law_655 : decode cL_law 655 = .ok (.aload_n 0, 1) := by decide +kernel
theorem dL_law_656 : decode cL_law 656 = .ok (.iload 5, 2) := by decide +kernel
theorem dL_law_658 : decode cL_law 658 = .ok (.iconst 2, 1) := by decide +kernel
theorem dL_law_659 : decode cL_law 659 = .ok (.iadd, 1) := by decide +kernel
theorem dL_law_660 : decode cL_law 660 = .ok (.iaload, 1) := by decide +kernel
theorem dL_law_661 : decode cL_law 661 = .ok (.aload_n 3, 1) := by decide +kernel
theorem dL_law_662 : decode cL_law 662 = .ok (.invokestatic 157, 3) := by decide +kernel
theorem dL_law_665 : decode cL_law 665 = .ok (.istore 6, 2) := by decide +kernel
theorem dL_law_667 : decode cL_law 667 = .ok (.aload_n 2, 1) := by decide +kernel
theorem dL_law_668 : decode cL_law 668 = .ok (.aload_n 0, 1) := by decide +kernel
theorem dL_law_669 : decode cL_law 669 = .ok (.iload 5, 2) := by decide +kernel
theorem dL_law_671 : decode cL_law 671 = .ok (.iconst 1, 1) := by decide +kernel
theorem dL_law_672 : decode cL_law 672 = .ok (.iadd, 1) := by decide +kernel
theorem dL_law_673 : decode cL_law 673 = .ok (.iaload, 1) := by decide +kernel
theorem dL_law_674 : decode cL_law 674 = .ok (.aload_n 0, 1) := by decide +kernel
theorem dL_law_675 : decode cL_law 675 = .ok (.iload 5, 2) := by decide +kernel
theorem dL_law_677 : decode cL_law 677 = .ok (.iconst 2, 1) := by decide +kernel
theorem dL_law_678 : decode cL_law 678 = .ok (.iadd, 1) := by decide +kernel
theorem dL_law_679 : decode cL_law 679 = .ok (.iaload, 1) := by decide +kernel
theorem dL_law_680 : decode cL_law 680 = .ok (.invokevirtual 159, 3) := by decide +kernel
theorem dL_law_683 : decode cL_law 683 = .ok (.istore 7, 2) := by decide +kernel
theorem dL_law_685 : decode cL_law 685 = .ok (.aload_n 2, 1) := by decide +kernel
theorem dL_law_686 : decode cL_law 686 = .ok (.invokevirtual 134, 3) := by decide +kernel
theorem dL_law_689 : decode cL_law 689 = .ok (.iload 6, 2) := by decide +kernel
theorem dL_law_691 : decode cL_law 691 = .ok (.if_icmp .eq 5, 3) := by decide +kernel
theorem dL_law_694 : decode cL_law 694 = .ok (.iconst 0, 1) := by decide +kernel
theorem dL_law_695 : decode cL_law 695 = .ok (.ireturn, 1) := by decide +kernel
theorem dL_law_696 : decode cL_law 696 = .ok (.iload 6, 2) := by decide +kernel
theorem dL_law_698 : decode cL_law 698 = .ok (.ifCond .ne 15, 3) := by decide +kernel
theorem dL_law_701 : decode cL_law 701 = .ok (.aload_n 3, 1) := by decide +kernel
theorem dL_law_702 : decode cL_law 702 = .ok (.iconst 0, 1) := by decide +kernel
theorem dL_law_703 : decode cL_law 703 = .ok (.laload, 1) := by decide +kernel
theorem dL_law_704 : decode cL_law 704 = .ok (.iload 7, 2) := by decide +kernel
theorem dL_law_706 : decode cL_law 706 = .ok (.i2l, 1) := by decide +kernel
theorem dL_law_707 : decode cL_law 707 = .ok (.lcmp, 1) := by decide +kernel
theorem dL_law_708 : decode cL_law 708 = .ok (.ifCond .eq 5, 3) := by decide +kernel
theorem dL_law_711 : decode cL_law 711 = .ok (.iconst 0, 1) := by decide +kernel
theorem dL_law_712 : decode cL_law 712 = .ok (.ireturn, 1) := by decide +kernel
theorem dL_law_713 : decode cL_law 713 = .ok (.goto 1410, 3) := by decide +kernel
theorem dL_law_716 : decode cL_law 716 = .ok (.aload_n 1, 1) := by decide +kernel
theorem dL_law_717 : decode cL_law 717 = .ok (.aload_n 0, 1) := by decide +kernel
theorem dL_law_718 : decode cL_law 718 = .ok (.iload 5, 2) := by decide +kernel
theorem dL_law_720 : decode cL_law 720 = .ok (.iconst 1, 1) := by decide +kernel
theorem dL_law_721 : decode cL_law 721 = .ok (.iadd, 1) := by decide +kernel
theorem dL_law_722 : decode cL_law 722 = .ok (.iaload, 1) := by decide +kernel
theorem dL_law_723 : decode cL_law 723 = .ok (.aload_n 0, 1) := by decide +kernel
theorem dL_law_724 : decode cL_law 724 = .ok (.iload 5, 2) := by decide +kernel
theorem dL_law_726 : decode cL_law 726 = .ok (.iconst 2, 1) := by decide +kernel
theorem dL_law_727 : decode cL_law 727 = .ok (.iadd, 1) := by decide +kernel
theorem dL_law_728 : decode cL_law 728 = .ok (.iaload, 1) := by decide +kernel
theorem dL_law_729 : decode cL_law 729 = .ok (.aload_n 3, 1) := by decide +kernel
theorem dL_law_730 : decode cL_law 730 = .ok (.invokestatic 160, 3) := by decide +kernel
theorem dL_law_733 : decode cL_law 733 = .ok (.istore 6, 2) := by decide +kernel
theorem dL_law_735 : decode cL_law 735 = .ok (.aload_n 2, 1) := by decide +kernel
theorem dL_law_736 : decode cL_law 736 = .ok (.aload_n 0, 1) := by decide +kernel
theorem dL_law_737 : decode cL_law 737 = .ok (.iload 5, 2) := by decide +kernel
theorem dL_law_739 : decode cL_law 739 = .ok (.iconst 1, 1) := by decide +kernel
theorem dL_law_740 : decode cL_law 740 = .ok (.iadd, 1) := by decide +kernel
theorem dL_law_741 : decode cL_law 741 = .ok (.iaload, 1) := by decide +kernel
theorem dL_law_742 : decode cL_law 742 = .ok (.aload_n 0, 1) := by decide +kernel
theorem dL_law_743 : decode cL_law 743 = .ok (.iload 5, 2) := by decide +kernel
theorem dL_law_745 : decode cL_law 745 = .ok (.iconst 2, 1) := by decide +kernel
theorem dL_law_746 : decode cL_law 746 = .ok (.iadd, 1) := by decide +kernel
theorem dL_law_747 : decode cL_law 747 = .ok (.iaload, 1) := by decide +kernel
theorem dL_law_748 : decode cL_law 748 = .ok (.invokevirtual 162, 3) := by decide +kernel
theorem dL_law_751 : decode cL_law 751 = .ok (.istore 7, 2) := by decide +kernel
theorem dL_law_753 : decode cL_law 753 = .ok (.aload_n 2, 1) := by decide +kernel
theorem dL_law_754 : decode cL_law 754 = .ok (.invokevirtual 134, 3) := by decide +kernel
theorem dL_law_757 : decode cL_law 757 = .ok (.iload 6, 2) := by decide +kernel
theorem dL_law_759 : decode cL_law 759 = .ok (.if_icmp .eq 5, 3) := by decide +kernel
theorem dL_law_762 : decode cL_law 762 = .ok (.iconst 0, 1) := by decide +kernel
theorem dL_law_763 : decode cL_law 763 = .ok (.ireturn, 1) := by decide +kernel
theorem dL_law_764 : decode cL_law 764 = .ok (.iload 6, 2) := by decide +kernel
theorem dL_law_766 : decode cL_law 766 = .ok (.ifCond .ne 15, 3) := by decide +kernel
theorem dL_law_769 : decode cL_law 769 = .ok (.aload_n 3, 1) := by decide +kernel
theorem dL_law_770 : decode cL_law 770 = .ok (.iconst 0, 1) := by decide +kernel
theorem dL_law_771 : decode cL_law 771 = .ok (.laload, 1) := by decide +kernel
theorem dL_law_772 : decode cL_law 772 = .ok (.iload 7, 2) := by decide +kernel
theorem dL_law_774 : decode cL_law 774 = .ok (.i2l, 1) := by decide +kernel
theorem dL_law_775 : decode cL_law 775 = .ok (.lcmp, 1) := by decide +kernel
theorem dL_law_776 : decode cL_law 776 = .ok (.ifCond .eq 5, 3) := by decide +kernel
theorem dL_law_779 : decode cL_law 779 = .ok (.iconst 0, 1) := by decide +kernel
theorem dL_law_780 : decode cL_law 780 = .ok (.ireturn, 1) := by decide +kernel
theorem dL_law_781 : decode cL_law 781 = .ok (.goto 1342, 3) := by decide +kernel
theorem dL_law_784 : decode cL_law 784 = .ok (.aload_n 1, 1) := by decide +kernel
theorem dL_law_785 : decode cL_law 785 = .ok (.aload_n 0, 1) := by decide +kernel
theorem dL_law_786 : decode cL_law 786 = .ok (.iload 5, 2) := by decide +kernel
theorem dL_law_788 : decode cL_law 788 = .ok (.iconst 1, 1) := by decide +kernel
theorem dL_law_789 : decode cL_law 789 = .ok (.iadd, 1) := by decide +kernel
theorem dL_law_790 : decode cL_law 790 = .ok (.iaload, 1) := by decide +kernel
theorem dL_law_791 : decode cL_law 791 = .ok (.aload_n 3, 1) := by decide +kernel
theorem dL_law_792 : decode cL_law 792 = .ok (.invokestatic 163, 3) := by decide +kernel
theorem dL_law_795 : decode cL_law 795 = .ok (.istore 6, 2) := by decide +kernel
theorem dL_law_797 : decode cL_law 797 = .ok (.aload_n 2, 1) := by decide +kernel
theorem dL_law_798 : decode cL_law 798 = .ok (.aload_n 0, 1) := by decide +kernel
theorem dL_law_799 : decode cL_law 799 = .ok (.iload 5, 2) := by decide +kernel
theorem dL_law_801 : decode cL_law 801 = .ok (.iconst 1, 1) := by decide +kernel
theorem dL_law_802 : decode cL_law 802 = .ok (.iadd, 1) := by decide +kernel
theorem dL_law_803 : decode cL_law 803 = .ok (.iaload, 1) := by decide +kernel
theorem dL_law_804 : decode cL_law 804 = .ok (.invokevirtual 165, 3) := by decide +kernel
theorem dL_law_807 : decode cL_law 807 = .ok (.istore 7, 2) := by decide +kernel
theorem dL_law_809 : decode cL_law 809 = .ok (.aload_n 2, 1) := by decide +kernel
theorem dL_law_810 : decode cL_law 810 = .ok (.invokevirtual 134, 3) := by decide +kernel
theorem dL_law_813 : decode cL_law 813 = .ok (.iload 6, 2) := by decide +kernel
theorem dL_law_815 : decode cL_law 815 = .ok (.if_icmp .eq 5, 3) := by decide +kernel
theorem dL_law_818 : decode cL_law 818 = .ok (.iconst 0, 1) := by decide +kernel
theorem dL_law_819 : decode cL_law 819 = .ok (.ireturn, 1) := by decide +kernel
theorem dL_law_820 : decode cL_law 820 = .ok (.iload 6, 2) := by decide +kernel
theorem dL_law_822 : decode cL_law 822 = .ok (.ifCond .ne 15, 3) := by decide +kernel
theorem dL_law_825 : decode cL_law 825 = .ok (.aload_n 3, 1) := by decide +kernel
theorem dL_law_826 : decode cL_law 826 = .ok (.iconst 0, 1) := by decide +kernel
theorem dL_law_827 : decode cL_law 827 = .ok (.laload, 1) := by decide +kernel
theorem dL_law_828 : decode cL_law 828 = .ok (.iload 7, 2) := by decide +kernel
theorem dL_law_830 : decode cL_law 830 = .ok (.i2l, 1) := by decide +kernel
theorem dL_law_831 : decode cL_law 831 = .ok (.lcmp, 1) := by decide +kernel
theorem dL_law_832 : decode cL_law 832 = .ok (.ifCond .eq 5, 3) := by decide +kernel
theorem dL_law_835 : decode cL_law 835 = .ok (.iconst 0, 1) := by decide +kernel
theorem dL_law_836 : decode cL_law 836 = .ok (.ireturn, 1) := by decide +kernel
theorem dL_law_837 : decode cL_law 837 = .ok (.goto 1286, 3) := by decide +kernel
theorem dL_law_840 : decode cL_law 840 = .ok (.aload_n 1, 1) := by decide +kernel
theorem dL_law_841 : decode cL_law 841 = .ok (.aload_n 0, 1) := by decide +kernel
theorem dL_law_842 : decode cL_law 842 = .ok (.iload 5, 2) := by decide +kernel
theorem dL_law_844 : decode cL_law 844 = .ok (.iconst 1, 1) := by decide +kernel
theorem dL_law_845 : decode cL_law 845 = .ok (.iadd, 1) := by decide +kernel
theorem dL_law_846 : decode cL_law 846 = .ok (.iaload, 1) := by decide +kernel
theorem dL_law_847 : decode cL_law 847 = .ok (.aload_n 3, 1) := by decide +kernel
theorem dL_law_848 : decode cL_law 848 = .ok (.invokestatic 166, 3) := by decide +kernel
theorem dL_law_851 : decode cL_law 851 = .ok (.istore 6, 2) := by decide +kernel
theorem dL_law_853 : decode cL_law 853 = .ok (.aload_n 2, 1) := by decide +kernel
theorem dL_law_854 : decode cL_law 854 = .ok (.aload_n 0, 1) := by decide +kernel
theorem dL_law_855 : decode cL_law 855 = .ok (.iload 5, 2) := by decide +kernel
theorem dL_law_857 : decode cL_law 857 = .ok (.iconst 1, 1) := by decide +kernel
theorem dL_law_858 : decode cL_law 858 = .ok (.iadd, 1) := by decide +kernel
theorem dL_law_859 : decode cL_law 859 = .ok (.iaload, 1) := by decide +kernel
theorem dL_law_860 : decode cL_law 860 = .ok (.invokevirtual 168, 3) := by decide +kernel
theorem dL_law_863 : decode cL_law 863 = .ok (.istore 7, 2) := by decide +kernel
theorem dL_law_865 : decode cL_law 865 = .ok (.aload_n 2, 1) := by decide +kernel
theorem dL_law_866 : decode cL_law 866 = .ok (.invokevirtual 134, 3) := by decide +kernel
theorem dL_law_869 : decode cL_law 869 = .ok (.iload 6, 2) := by decide +kernel
theorem dL_law_871 : decode cL_law 871 = .ok (.if_icmp .eq 5, 3) := by decide +kernel
theorem dL_law_874 : decode cL_law 874 = .ok (.iconst 0, 1) := by decide +kernel
theorem dL_law_875 : decode cL_law 875 = .ok (.ireturn, 1) := by decide +kernel
theorem dL_law_876 : decode cL_law 876 = .ok (.iload 6, 2) := by decide +kernel
theorem dL_law_878 : decode cL_law 878 = .ok (.ifCond .ne 15, 3) := by decide +kernel
theorem dL_law_881 : decode cL_law 881 = .ok (.aload_n 3, 1) := by decide +kernel
theorem dL_law_882 : decode cL_law 882 = .ok (.iconst 0, 1) := by decide +kernel
theorem dL_law_883 : decode cL_law 883 = .ok (.laload, 1) := by decide +kernel
theorem dL_law_884 : decode cL_law 884 = .ok (.iload 7, 2) := by decide +kernel
theorem dL_law_886 : decode cL_law 886 = .ok (.i2l, 1) := by decide +kernel
theorem dL_law_887 : decode cL_law 887 = .ok (.lcmp, 1) := by decide +kernel
theorem dL_law_888 : decode cL_law 888 = .ok (.ifCond .eq 5, 3) := by decide +kernel
theorem dL_law_891 : decode cL_law 891 = .ok (.iconst 0, 1) := by decide +kernel
theorem dL_law_892 : decode cL_law 892 = .ok (.ireturn, 1) := by decide +kernel
theorem dL_law_893 : decode cL_law 893 = .ok (.goto 1230, 3) := by decide +kernel
theorem dL_law_896 : decode cL_law 896 = .ok (.aload_n 1, 1) := by decide +kernel
theorem dL_law_897 : decode cL_law 897 = .ok (.aload_n 0, 1) := by decide +kernel
theorem dL_law_898 : decode cL_law 898 = .ok (.iload 5, 2) := by decide +kernel
theorem dL_law_900 : decode cL_law 900 = .ok (.iconst 1, 1) := by decide +kernel
theorem dL_law_901 : decode cL_law 901 = .ok (.iadd, 1) := by decide +kernel
theorem dL_law_902 : decode cL_law 902 = .ok (.iaload, 1) := by decide +kernel
theorem dL_law_903 : decode cL_law 903 = .ok (.aload_n 0, 1) := by decide +kernel
theorem dL_law_904 : decode cL_law 904 = .ok (.iload 5, 2) := by decide +kernel
theorem dL_law_906 : decode cL_law 906 = .ok (.iconst 2, 1) := by decide +kernel
theorem dL_law_907 : decode cL_law 907 = .ok (.iadd, 1) := by decide +kernel
theorem dL_law_908 : decode cL_law 908 = .ok (.iaload, 1) := by decide +kernel
theorem dL_law_909 : decode cL_law 909 = .ok (.aload_n 3, 1) := by decide +kernel
theorem dL_law_910 : decode cL_law 910 = .ok (.invokestatic 169, 3) := by decide +kernel
theorem dL_law_913 : decode cL_law 913 = .ok (.istore 6, 2) := by decide +kernel
theorem dL_law_915 : decode cL_law 915 = .ok (.aload_n 2, 1) := by decide +kernel
theorem dL_law_916 : decode cL_law 916 = .ok (.aload_n 0, 1) := by decide +kernel
theorem dL_law_917 : decode cL_law 917 = .ok (.iload 5, 2) := by decide +kernel
theorem dL_law_919 : decode cL_law 919 = .ok (.iconst 1, 1) := by decide +kernel
theorem dL_law_920 : decode cL_law 920 = .ok (.iadd, 1) := by decide +kernel
theorem dL_law_921 : decode cL_law 921 = .ok (.iaload, 1) := by decide +kernel
theorem dL_law_922 : decode cL_law 922 = .ok (.aload_n 0, 1) := by decide +kernel
theorem dL_law_923 : decode cL_law 923 = .ok (.iload 5, 2) := by decide +kernel
theorem dL_law_925 : decode cL_law 925 = .ok (.iconst 2, 1) := by decide +kernel
theorem dL_law_926 : decode cL_law 926 = .ok (.iadd, 1) := by decide +kernel
theorem dL_law_927 : decode cL_law 927 = .ok (.iaload, 1) := by decide +kernel
theorem dL_law_928 : decode cL_law 928 = .ok (.invokevirtual 171, 3) := by decide +kernel
theorem dL_law_931 : decode cL_law 931 = .ok (.istore 7, 2) := by decide +kernel
theorem dL_law_933 : decode cL_law 933 = .ok (.aload_n 2, 1) := by decide +kernel
theorem dL_law_934 : decode cL_law 934 = .ok (.invokevirtual 134, 3) := by decide +kernel
theorem dL_law_937 : decode cL_law 937 = .ok (.iload 6, 2) := by decide +kernel
theorem dL_law_939 : decode cL_law 939 = .ok (.if_icmp .eq 5, 3) := by decide +kernel
theorem dL_law_942 : decode cL_law 942 = .ok (.iconst 0, 1) := by decide +kernel
theorem dL_law_943 : decode cL_law 943 = .ok (.ireturn, 1) := by decide +kernel
theorem dL_law_944 : decode cL_law 944 = .ok (.iload 6, 2) := by decide +kernel
theorem dL_law_946 : decode cL_law 946 = .ok (.ifCond .ne 15, 3) := by decide +kernel
theorem dL_law_949 : decode cL_law 949 = .ok (.aload_n 3, 1) := by decide +kernel
theorem dL_law_950 : decode cL_law 950 = .ok (.iconst 0, 1) := by decide +kernel
theorem dL_law_951 : decode cL_law 951 = .ok (.laload, 1) := by decide +kernel
theorem dL_law_952 : decode cL_law 952 = .ok (.iload 7, 2) := by decide +kernel
theorem dL_law_954 : decode cL_law 954 = .ok (.i2l, 1) := by decide +kernel
theorem dL_law_955 : decode cL_law 955 = .ok (.lcmp, 1) := by decide +kernel
theorem dL_law_956 : decode cL_law 956 = .ok (.ifCond .eq 5, 3) := by decide +kernel
theorem dL_law_959 : decode cL_law 959 = .ok (.iconst 0, 1) := by decide +kernel
theorem dL_law_960 : decode cL_law 960 = .ok (.ireturn, 1) := by decide +kernel
theorem dL_law_961 : decode cL_law 961 = .ok (.goto 1162, 3) := by decide +kernel
theorem dL_law_964 : decode cL_law 964 = .ok (.aload_n 1, 1) := by decide +kernel
theorem dL_law_965 : decode cL_law 965 = .ok (.aload_n 0, 1) := by decide +kernel
theorem dL_law_966 : decode cL_law 966 = .ok (.iload 5, 2) := by decide +kernel
theorem dL_law_968 : decode cL_law 968 = .ok (.iconst 1, 1) := by decide +kernel
theorem dL_law_969 : decode cL_law 969 = .ok (.iadd, 1) := by decide +kernel
theorem dL_law_970 : decode cL_law 970 = .ok (.iaload, 1) := by decide +kernel
theorem dL_law_971 : decode cL_law 971 = .ok (.aload_n 3, 1) := by decide +kernel
theorem dL_law_972 : decode cL_law 972 = .ok (.invokestatic 172, 3) := by decide +kernel
theorem dL_law_975 : decode cL_law 975 = .ok (.istore 6, 2) := by decide +kernel
theorem dL_law_977 : decode cL_law 977 = .ok (.aload_n 2, 1) := by decide +kernel
theorem dL_law_978 : decode cL_law 978 = .ok (.aload_n 0, 1) := by decide +kernel
theorem dL_law_979 : decode cL_law 979 = .ok (.iload 5, 2) := by decide +kernel
theorem dL_law_981 : decode cL_law 981 = .ok (.iconst 1, 1) := by decide +kernel
theorem dL_law_982 : decode cL_law 982 = .ok (.iadd, 1) := by decide +kernel
theorem dL_law_983 : decode cL_law 983 = .ok (.iaload, 1) := by decide +kernel
theorem dL_law_984 : decode cL_law 984 = .ok (.invokevirtual 174, 3) := by decide +kernel
theorem dL_law_987 : decode cL_law 987 = .ok (.istore 7, 2) := by decide +kernel
theorem dL_law_989 : decode cL_law 989 = .ok (.aload_n 2, 1) := by decide +kernel
theorem dL_law_990 : decode cL_law 990 = .ok (.invokevirtual 134, 3) := by decide +kernel
theorem dL_law_993 : decode cL_law 993 = .ok (.iload 6, 2) := by decide +kernel
theorem dL_law_995 : decode cL_law 995 = .ok (.if_icmp .eq 5, 3) := by decide +kernel
theorem dL_law_998 : decode cL_law 998 = .ok (.iconst 0, 1) := by decide +kernel
theorem dL_law_999 : decode cL_law 999 = .ok (.ireturn, 1) := by decide +kernel
theorem dL_law_1000 : decode cL_law 1000 = .ok (.iload 6, 2) := by decide +kernel
theorem dL_law_1002 : decode cL_law 1002 = .ok (.ifCond .ne 15, 3) := by decide +kernel
theorem dL_law_1005 : decode cL_law 1005 = .ok (.aload_n 3, 1) := by decide +kernel
theorem dL_law_1006 : decode cL_law 1006 = .ok (.iconst 0, 1) := by decide +kernel
theorem dL_law_1007 : decode cL_law 1007 = .ok (.laload, 1) := by decide +kernel
theorem dL_law_1008 : decode cL_law 1008 = .ok (.iload 7, 2) := by decide +kernel
theorem dL_law_1010 : decode cL_law 1010 = .ok (.i2l, 1) := by decide +kernel
theorem dL_law_1011 : decode cL_law 1011 = .ok (.lcmp, 1) := by decide +kernel
theorem dL_law_1012 : decode cL_law 1012 = .ok (.ifCond .eq 5, 3) := by decide +kernel
theorem dL_law_1015 : decode cL_law 1015 = .ok (.iconst 0, 1) := by decide +kernel
theorem dL_law_1016 : decode cL_law 1016 = .ok (.ireturn, 1) := by decide +kernel
theorem dL_law_1017 : decode cL_law 1017 = .ok (.goto 1106, 3) := by decide +kernel
theorem dL_law_1020 : decode cL_law 1020 = .ok (.aload_n 1, 1) := by decide +kernel
theorem dL_law_1021 : decode cL_law 1021 = .ok (.aload_n 0, 1) := by decide +kernel
theorem dL_law_1022 : decode cL_law 1022 = .ok (.iload 5, 2) := by decide +kernel
theorem dL_law_1024 : decode cL_law 1024 = .ok (.iconst 1, 1) := by decide +kernel
theorem dL_law_1025 : decode cL_law 1025 = .ok (.iadd, 1) := by decide +kernel
theorem dL_law_1026 : decode cL_law 1026 = .ok (.iaload, 1) := by decide +kernel
theorem dL_law_1027 : decode cL_law 1027 = .ok (.aload_n 0, 1) := by decide +kernel
theorem dL_law_1028 : decode cL_law 1028 = .ok (.iload 5, 2) := by decide +kernel
theorem dL_law_1030 : decode cL_law 1030 = .ok (.iconst 2, 1) := by decide +kernel
theorem dL_law_1031 : decode cL_law 1031 = .ok (.iadd, 1) := by decide +kernel
theorem dL_law_1032 : decode cL_law 1032 = .ok (.iaload, 1) := by decide +kernel
theorem dL_law_1033 : decode cL_law 1033 = .ok (.aload_n 3, 1) := by decide +kernel
theorem dL_law_1034 : decode cL_law 1034 = .ok (.invokestatic 175, 3) := by decide +kernel
theorem dL_law_1037 : decode cL_law 1037 = .ok (.istore 6, 2) := by decide +kernel
theorem dL_law_1039 : decode cL_law 1039 = .ok (.aload_n 2, 1) := by decide +kernel
theorem dL_law_1040 : decode cL_law 1040 = .ok (.aload_n 0, 1) := by decide +kernel
theorem dL_law_1041 : decode cL_law 1041 = .ok (.iload 5, 2) := by decide +kernel
theorem dL_law_1043 : decode cL_law 1043 = .ok (.iconst 1, 1) := by decide +kernel
theorem dL_law_1044 : decode cL_law 1044 = .ok (.iadd, 1) := by decide +kernel
theorem dL_law_1045 : decode cL_law 1045 = .ok (.iaload, 1) := by decide +kernel
theorem dL_law_1046 : decode cL_law 1046 = .ok (.aload_n 0, 1) := by decide +kernel
theorem dL_law_1047 : decode cL_law 1047 = .ok (.iload 5, 2) := by decide +kernel
theorem dL_law_1049 : decode cL_law 1049 = .ok (.iconst 2, 1) := by decide +kernel
theorem dL_law_1050 : decode cL_law 1050 = .ok (.iadd, 1) := by decide +kernel
theorem dL_law_1051 : decode cL_law 1051 = .ok (.iaload, 1) := by decide +kernel
theorem dL_law_1052 : decode cL_law 1052 = .ok (.invokevirtual 177, 3) := by decide +kernel
theorem dL_law_1055 : decode cL_law 1055 = .ok (.istore 7, 2) := by decide +kernel
theorem dL_law_1057 : decode cL_law 1057 = .ok (.aload_n 2, 1) := by decide +kernel
theorem dL_law_1058 : decode cL_law 1058 = .ok (.invokevirtual 134, 3) := by decide +kernel
theorem dL_law_1061 : decode cL_law 1061 = .ok (.iload 6, 2) := by decide +kernel
theorem dL_law_1063 : decode cL_law 1063 = .ok (.if_icmp .eq 5, 3) := by decide +kernel
theorem dL_law_1066 : decode cL_law 1066 = .ok (.iconst 0, 1) := by decide +kernel
theorem dL_law_1067 : decode cL_law 1067 = .ok (.ireturn, 1) := by decide +kernel
theorem dL_law_1068 : decode cL_law 1068 = .ok (.iload 6, 2) := by decide +kernel
theorem dL_law_1070 : decode cL_law 1070 = .ok (.ifCond .ne 15, 3) := by decide +kernel
theorem dL_law_1073 : decode cL_law 1073 = .ok (.aload_n 3, 1) := by decide +kernel
theorem dL_law_1074 : decode cL_law 1074 = .ok (.iconst 0, 1) := by decide +kernel
theorem dL_law_1075 : decode cL_law 1075 = .ok (.laload, 1) := by decide +kernel
theorem dL_law_1076 : decode cL_law 1076 = .ok (.iload 7, 2) := by decide +kernel
theorem dL_law_1078 : decode cL_law 1078 = .ok (.i2l, 1) := by decide +kernel
theorem dL_law_1079 : decode cL_law 1079 = .ok (.lcmp, 1) := by decide +kernel
theorem dL_law_1080 : decode cL_law 1080 = .ok (.ifCond .eq 5, 3) := by decide +kernel
theorem dL_law_1083 : decode cL_law 1083 = .ok (.iconst 0, 1) := by decide +kernel
theorem dL_law_1084 : decode cL_law 1084 = .ok (.ireturn, 1) := by decide +kernel
theorem dL_law_1085 : decode cL_law 1085 = .ok (.goto 1038, 3) := by decide +kernel
theorem dL_law_1088 : decode cL_law 1088 = .ok (.aload_n 1, 1) := by decide +kernel
theorem dL_law_1089 : decode cL_law 1089 = .ok (.aload_n 0, 1) := by decide +kernel
theorem dL_law_1090 : decode cL_law 1090 = .ok (.iload 5, 2) := by decide +kernel
theorem dL_law_1092 : decode cL_law 1092 = .ok (.iconst 1, 1) := by decide +kernel
theorem dL_law_1093 : decode cL_law 1093 = .ok (.iadd, 1) := by decide +kernel
theorem dL_law_1094 : decode cL_law 1094 = .ok (.iaload, 1) := by decide +kernel
theorem dL_law_1095 : decode cL_law 1095 = .ok (.aload_n 0, 1) := by decide +kernel
theorem dL_law_1096 : decode cL_law 1096 = .ok (.iload 5, 2) := by decide +kernel
theorem dL_law_1098 : decode cL_law 1098 = .ok (.iconst 2, 1) := by decide +kernel
theorem dL_law_1099 : decode cL_law 1099 = .ok (.iadd, 1) := by decide +kernel
theorem dL_law_1100 : decode cL_law 1100 = .ok (.iaload, 1) := by decide +kernel
theorem dL_law_1101 : decode cL_law 1101 = .ok (.aload_n 3, 1) := by decide +kernel
theorem dL_law_1102 : decode cL_law 1102 = .ok (.invokestatic 178, 3) := by decide +kernel
theorem dL_law_1105 : decode cL_law 1105 = .ok (.istore 6, 2) := by decide +kernel
theorem dL_law_1107 : decode cL_law 1107 = .ok (.aload_n 2, 1) := by decide +kernel
theorem dL_law_1108 : decode cL_law 1108 = .ok (.aload_n 0, 1) := by decide +kernel
theorem dL_law_1109 : decode cL_law 1109 = .ok (.iload 5, 2) := by decide +kernel
theorem dL_law_1111 : decode cL_law 1111 = .ok (.iconst 1, 1) := by decide +kernel
theorem dL_law_1112 : decode cL_law 1112 = .ok (.iadd, 1) := by decide +kernel
theorem dL_law_1113 : decode cL_law 1113 = .ok (.iaload, 1) := by decide +kernel
theorem dL_law_1114 : decode cL_law 1114 = .ok (.aload_n 0, 1) := by decide +kernel
theorem dL_law_1115 : decode cL_law 1115 = .ok (.iload 5, 2) := by decide +kernel
theorem dL_law_1117 : decode cL_law 1117 = .ok (.iconst 2, 1) := by decide +kernel
theorem dL_law_1118 : decode cL_law 1118 = .ok (.iadd, 1) := by decide +kernel
theorem dL_law_1119 : decode cL_law 1119 = .ok (.iaload, 1) := by decide +kernel
theorem dL_law_1120 : decode cL_law 1120 = .ok (.invokevirtual 180, 3) := by decide +kernel
theorem dL_law_1123 : decode cL_law 1123 = .ok (.istore 7, 2) := by decide +kernel
theorem dL_law_1125 : decode cL_law 1125 = .ok (.aload_n 2, 1) := by decide +kernel
theorem dL_law_1126 : decode cL_law 1126 = .ok (.invokevirtual 134, 3) := by decide +kernel
theorem dL_law_1129 : decode cL_law 1129 = .ok (.iload 6, 2) := by decide +kernel
theorem dL_law_1131 : decode cL_law 1131 = .ok (.if_icmp .eq 5, 3) := by decide +kernel
theorem dL_law_1134 : decode cL_law 1134 = .ok (.iconst 0, 1) := by decide +kernel
theorem dL_law_1135 : decode cL_law 1135 = .ok (.ireturn, 1) := by decide +kernel
theorem dL_law_1136 : decode cL_law 1136 = .ok (.iload 6, 2) := by decide +kernel
theorem dL_law_1138 : decode cL_law 1138 = .ok (.ifCond .ne 15, 3) := by decide +kernel
theorem dL_law_1141 : decode cL_law 1141 = .ok (.aload_n 3, 1) := by decide +kernel
theorem dL_law_1142 : decode cL_law 1142 = .ok (.iconst 0, 1) := by decide +kernel
theorem dL_law_1143 : decode cL_law 1143 = .ok (.laload, 1) := by decide +kernel
theorem dL_law_1144 : decode cL_law 1144 = .ok (.iload 7, 2) := by decide +kernel
theorem dL_law_1146 : decode cL_law 1146 = .ok (.i2l, 1) := by decide +kernel
theorem dL_law_1147 : decode cL_law 1147 = .ok (.lcmp, 1) := by decide +kernel
theorem dL_law_1148 : decode cL_law 1148 = .ok (.ifCond .eq 5, 3) := by decide +kernel
theorem dL_law_1151 : decode cL_law 1151 = .ok (.iconst 0, 1) := by decide +kernel
theorem dL_law_1152 : decode cL_law 1152 = .ok (.ireturn, 1) := by decide +kernel
theorem dL_law_1153 : decode cL_law 1153 = .ok (.goto 970, 3) := by decide +kernel
theorem dL_law_1156 : decode cL_law 1156 = .ok (.aload_n 1, 1) := by decide +kernel
theorem dL_law_1157 : decode cL_law 1157 = .ok (.aload_n 0, 1) := by decide +kernel
theorem dL_law_1158 : decode cL_law 1158 = .ok (.iload 5, 2) := by decide +kernel
theorem dL_law_1160 : decode cL_law 1160 = .ok (.iconst 1, 1) := by decide +kernel
theorem dL_law_1161 : decode cL_law 1161 = .ok (.iadd, 1) := by decide +kernel
theorem dL_law_1162 : decode cL_law 1162 = .ok (.iaload, 1) := by decide +kernel
theorem dL_law_1163 : decode cL_law 1163 = .ok (.aload_n 3, 1) := by decide +kernel
theorem dL_law_1164 : decode cL_law 1164 = .ok (.invokestatic 181, 3) := by decide +kernel
theorem dL_law_1167 : decode cL_law 1167 = .ok (.istore 6, 2) := by decide +kernel
theorem dL_law_1169 : decode cL_law 1169 = .ok (.aload_n 2, 1) := by decide +kernel
theorem dL_law_1170 : decode cL_law 1170 = .ok (.aload_n 0, 1) := by decide +kernel
theorem dL_law_1171 : decode cL_law 1171 = .ok (.iload 5, 2) := by decide +kernel
theorem dL_law_1173 : decode cL_law 1173 = .ok (.iconst 1, 1) := by decide +kernel
theorem dL_law_1174 : decode cL_law 1174 = .ok (.iadd, 1) := by decide +kernel
theorem dL_law_1175 : decode cL_law 1175 = .ok (.iaload, 1) := by decide +kernel
theorem dL_law_1176 : decode cL_law 1176 = .ok (.invokevirtual 183, 3) := by decide +kernel
theorem dL_law_1179 : decode cL_law 1179 = .ok (.istore 7, 2) := by decide +kernel
theorem dL_law_1181 : decode cL_law 1181 = .ok (.aload_n 2, 1) := by decide +kernel
theorem dL_law_1182 : decode cL_law 1182 = .ok (.invokevirtual 134, 3) := by decide +kernel
theorem dL_law_1185 : decode cL_law 1185 = .ok (.iload 6, 2) := by decide +kernel
theorem dL_law_1187 : decode cL_law 1187 = .ok (.if_icmp .eq 5, 3) := by decide +kernel
theorem dL_law_1190 : decode cL_law 1190 = .ok (.iconst 0, 1) := by decide +kernel
theorem dL_law_1191 : decode cL_law 1191 = .ok (.ireturn, 1) := by decide +kernel
theorem dL_law_1192 : decode cL_law 1192 = .ok (.iload 6, 2) := by decide +kernel
theorem dL_law_1194 : decode cL_law 1194 = .ok (.ifCond .ne 15, 3) := by decide +kernel
theorem dL_law_1197 : decode cL_law 1197 = .ok (.aload_n 3, 1) := by decide +kernel
theorem dL_law_1198 : decode cL_law 1198 = .ok (.iconst 0, 1) := by decide +kernel
theorem dL_law_1199 : decode cL_law 1199 = .ok (.laload, 1) := by decide +kernel
theorem dL_law_1200 : decode cL_law 1200 = .ok (.iload 7, 2) := by decide +kernel
theorem dL_law_1202 : decode cL_law 1202 = .ok (.i2l, 1) := by decide +kernel
theorem dL_law_1203 : decode cL_law 1203 = .ok (.lcmp, 1) := by decide +kernel
theorem dL_law_1204 : decode cL_law 1204 = .ok (.ifCond .eq 5, 3) := by decide +kernel
theorem dL_law_1207 : decode cL_law 1207 = .ok (.iconst 0, 1) := by decide +kernel
theorem dL_law_1208 : decode cL_law 1208 = .ok (.ireturn, 1) := by decide +kernel
theorem dL_law_1209 : decode cL_law 1209 = .ok (.goto 914, 3) := by decide +kernel
theorem dL_law_1212 : decode cL_law 1212 = .ok (.aload_n 1, 1) := by decide +kernel
theorem dL_law_1213 : decode cL_law 1213 = .ok (.aload_n 0, 1) := by decide +kernel
theorem dL_law_1214 : decode cL_law 1214 = .ok (.iload 5, 2) := by decide +kernel
theorem dL_law_1216 : decode cL_law 1216 = .ok (.iconst 1, 1) := by decide +kernel
theorem dL_law_1217 : decode cL_law 1217 = .ok (.iadd, 1) := by decide +kernel
theorem dL_law_1218 : decode cL_law 1218 = .ok (.iaload, 1) := by decide +kernel
theorem dL_law_1219 : decode cL_law 1219 = .ok (.aload_n 3, 1) := by decide +kernel
theorem dL_law_1220 : decode cL_law 1220 = .ok (.invokestatic 184, 3) := by decide +kernel
theorem dL_law_1223 : decode cL_law 1223 = .ok (.istore 6, 2) := by decide +kernel
theorem dL_law_1225 : decode cL_law 1225 = .ok (.aload_n 2, 1) := by decide +kernel
theorem dL_law_1226 : decode cL_law 1226 = .ok (.aload_n 0, 1) := by decide +kernel
theorem dL_law_1227 : decode cL_law 1227 = .ok (.iload 5, 2) := by decide +kernel
theorem dL_law_1229 : decode cL_law 1229 = .ok (.iconst 1, 1) := by decide +kernel
theorem dL_law_1230 : decode cL_law 1230 = .ok (.iadd, 1) := by decide +kernel
theorem dL_law_1231 : decode cL_law 1231 = .ok (.iaload, 1) := by decide +kernel
theorem dL_law_1232 : decode cL_law 1232 = .ok (.invokevirtual 186, 3) := by decide +kernel
theorem dL_law_1235 : decode cL_law 1235 = .ok (.istore 7, 2) := by decide +kernel
theorem dL_law_1237 : decode cL_law 1237 = .ok (.aload_n 2, 1) := by decide +kernel
theorem dL_law_1238 : decode cL_law 1238 = .ok (.invokevirtual 134, 3) := by decide +kernel
theorem dL_law_1241 : decode cL_law 1241 = .ok (.iload 6, 2) := by decide +kernel
theorem dL_law_1243 : decode cL_law 1243 = .ok (.if_icmp .eq 5, 3) := by decide +kernel
theorem dL_law_1246 : decode cL_law 1246 = .ok (.iconst 0, 1) := by decide +kernel
theorem dL_law_1247 : decode cL_law 1247 = .ok (.ireturn, 1) := by decide +kernel
theorem dL_law_1248 : decode cL_law 1248 = .ok (.iload 6, 2) := by decide +kernel
theorem dL_law_1250 : decode cL_law 1250 = .ok (.ifCond .ne 15, 3) := by decide +kernel
theorem dL_law_1253 : decode cL_law 1253 = .ok (.aload_n 3, 1) := by decide +kernel
theorem dL_law_1254 : decode cL_law 1254 = .ok (.iconst 0, 1) := by decide +kernel
theorem dL_law_1255 : decode cL_law 1255 = .ok (.laload, 1) := by decide +kernel
theorem dL_law_1256 : decode cL_law 1256 = .ok (.iload 7, 2) := by decide +kernel
theorem dL_law_1258 : decode cL_law 1258 = .ok (.i2l, 1) := by decide +kernel
theorem dL_law_1259 : decode cL_law 1259 = .ok (.lcmp, 1) := by decide +kernel
theorem dL_law_1260 : decode cL_law 1260 = .ok (.ifCond .eq 5, 3) := by decide +kernel
theorem dL_law_1263 : decode cL_law 1263 = .ok (.iconst 0, 1) := by decide +kernel
theorem dL_law_1264 : decode cL_law 1264 = .ok (.ireturn, 1) := by decide +kernel
theorem dL_law_1265 : decode cL_law 1265 = .ok (.goto 858, 3) := by decide +kernel
theorem dL_law_1268 : decode cL_law 1268 = .ok (.aload_n 1, 1) := by decide +kernel
theorem dL_law_1269 : decode cL_law 1269 = .ok (.aload_n 0, 1) := by decide +kernel
theorem dL_law_1270 : decode cL_law 1270 = .ok (.iload 5, 2) := by decide +kernel
theorem dL_law_1272 : decode cL_law 1272 = .ok (.iconst 1, 1) := by decide +kernel
theorem dL_law_1273 : decode cL_law 1273 = .ok (.iadd, 1) := by decide +kernel
theorem dL_law_1274 : decode cL_law 1274 = .ok (.iaload, 1) := by decide +kernel
theorem dL_law_1275 : decode cL_law 1275 = .ok (.aload_n 3, 1) := by decide +kernel
theorem dL_law_1276 : decode cL_law 1276 = .ok (.invokestatic 187, 3) := by decide +kernel
theorem dL_law_1279 : decode cL_law 1279 = .ok (.istore 6, 2) := by decide +kernel
theorem dL_law_1281 : decode cL_law 1281 = .ok (.aload_n 2, 1) := by decide +kernel
theorem dL_law_1282 : decode cL_law 1282 = .ok (.aload_n 0, 1) := by decide +kernel
theorem dL_law_1283 : decode cL_law 1283 = .ok (.iload 5, 2) := by decide +kernel
theorem dL_law_1285 : decode cL_law 1285 = .ok (.iconst 1, 1) := by decide +kernel
theorem dL_law_1286 : decode cL_law 1286 = .ok (.iadd, 1) := by decide +kernel
theorem dL_law_1287 : decode cL_law 1287 = .ok (.iaload, 1) := by decide +kernel
theorem dL_law_1288 : decode cL_law 1288 = .ok (.invokevirtual 189, 3) := by decide +kernel
theorem dL_law_1291 : decode cL_law 1291 = .ok (.istore 7, 2) := by decide +kernel
theorem dL_law_1293 : decode cL_law 1293 = .ok (.aload_n 2, 1) := by decide +kernel
theorem dL_law_1294 : decode cL_law 1294 = .ok (.invokevirtual 134, 3) := by decide +kernel
theorem dL_law_1297 : decode cL_law 1297 = .ok (.iload 6, 2) := by decide +kernel
theorem dL_law_1299 : decode cL_law 1299 = .ok (.if_icmp .eq 5, 3) := by decide +kernel
theorem dL_law_1302 : decode cL_law 1302 = .ok (.iconst 0, 1) := by decide +kernel
theorem dL_law_1303 : decode cL_law 1303 = .ok (.ireturn, 1) := by decide +kernel
theorem dL_law_1304 : decode cL_law 1304 = .ok (.iload 6, 2) := by decide +kernel
theorem dL_law_1306 : decode cL_law 1306 = .ok (.ifCond .ne 15, 3) := by decide +kernel
theorem dL_law_1309 : decode cL_law 1309 = .ok (.aload_n 3, 1) := by decide +kernel
theorem dL_law_1310 : decode cL_law 1310 = .ok (.iconst 0, 1) := by decide +kernel
theorem dL_law_1311 : decode cL_law 1311 = .ok (.laload, 1) := by decide +kernel
theorem dL_law_1312 : decode cL_law 1312 = .ok (.iload 7, 2) := by decide +kernel
theorem dL_law_1314 : decode cL_law 1314 = .ok (.i2l, 1) := by decide +kernel
theorem dL_law_1315 : decode cL_law 1315 = .ok (.lcmp, 1) := by decide +kernel
theorem dL_law_1316 : decode cL_law 1316 = .ok (.ifCond .eq 5, 3) := by decide +kernel
theorem dL_law_1319 : decode cL_law 1319 = .ok (.iconst 0, 1) := by decide +kernel
theorem dL_law_1320 : decode cL_law 1320 = .ok (.ireturn, 1) := by decide +kernel
theorem dL_law_1321 : decode cL_law 1321 = .ok (.goto 802, 3) := by decide +kernel
theorem dL_law_1324 : decode cL_law 1324 = .ok (.aload_n 1, 1) := by decide +kernel
theorem dL_law_1325 : decode cL_law 1325 = .ok (.aload_n 0, 1) := by decide +kernel
theorem dL_law_1326 : decode cL_law 1326 = .ok (.iload 5, 2) := by decide +kernel
theorem dL_law_1328 : decode cL_law 1328 = .ok (.iconst 1, 1) := by decide +kernel
theorem dL_law_1329 : decode cL_law 1329 = .ok (.iadd, 1) := by decide +kernel
theorem dL_law_1330 : decode cL_law 1330 = .ok (.iaload, 1) := by decide +kernel
theorem dL_law_1331 : decode cL_law 1331 = .ok (.aload_n 3, 1) := by decide +kernel
theorem dL_law_1332 : decode cL_law 1332 = .ok (.invokestatic 190, 3) := by decide +kernel
theorem dL_law_1335 : decode cL_law 1335 = .ok (.istore 6, 2) := by decide +kernel
theorem dL_law_1337 : decode cL_law 1337 = .ok (.aload_n 2, 1) := by decide +kernel
theorem dL_law_1338 : decode cL_law 1338 = .ok (.aload_n 0, 1) := by decide +kernel
theorem dL_law_1339 : decode cL_law 1339 = .ok (.iload 5, 2) := by decide +kernel
theorem dL_law_1341 : decode cL_law 1341 = .ok (.iconst 1, 1) := by decide +kernel
theorem dL_law_1342 : decode cL_law 1342 = .ok (.iadd, 1) := by decide +kernel
theorem dL_law_1343 : decode cL_law 1343 = .ok (.iaload, 1) := by decide +kernel
theorem dL_law_1344 : decode cL_law 1344 = .ok (.invokevirtual 192, 3) := by decide +kernel
theorem dL_law_1347 : decode cL_law 1347 = .ok (.istore 7, 2) := by decide +kernel
theorem dL_law_1349 : decode cL_law 1349 = .ok (.aload_n 2, 1) := by decide +kernel
theorem dL_law_1350 : decode cL_law 1350 = .ok (.invokevirtual 134, 3) := by decide +kernel
theorem dL_law_1353 : decode cL_law 1353 = .ok (.iload 6, 2) := by decide +kernel
theorem dL_law_1355 : decode cL_law 1355 = .ok (.if_icmp .eq 5, 3) := by decide +kernel
theorem dL_law_1358 : decode cL_law 1358 = .ok (.iconst 0, 1) := by decide +kernel
theorem dL_law_1359 : decode cL_law 1359 = .ok (.ireturn, 1) := by decide +kernel
theorem dL_law_1360 : decode cL_law 1360 = .ok (.iload 6, 2) := by decide +kernel
theorem dL_law_1362 : decode cL_law 1362 = .ok (.ifCond .ne 15, 3) := by decide +kernel
theorem dL_law_1365 : decode cL_law 1365 = .ok (.aload_n 3, 1) := by decide +kernel
theorem dL_law_1366 : decode cL_law 1366 = .ok (.iconst 0, 1) := by decide +kernel
theorem dL_law_1367 : decode cL_law 1367 = .ok (.laload, 1) := by decide +kernel
theorem dL_law_1368 : decode cL_law 1368 = .ok (.iload 7, 2) := by decide +kernel
theorem dL_law_1370 : decode cL_law 1370 = .ok (.i2l, 1) := by decide +kernel
theorem dL_law_1371 : decode cL_law 1371 = .ok (.lcmp, 1) := by decide +kernel
theorem dL_law_1372 : decode cL_law 1372 = .ok (.ifCond .eq 5, 3) := by decide +kernel
theorem dL_law_1375 : decode cL_law 1375 = .ok (.iconst 0, 1) := by decide +kernel
theorem dL_law_1376 : decode cL_law 1376 = .ok (.ireturn, 1) := by decide +kernel
theorem dL_law_1377 : decode cL_law 1377 = .ok (.goto 746, 3) := by decide +kernel
theorem dL_law_1380 : decode cL_law 1380 = .ok (.aload_n 1, 1) := by decide +kernel
theorem dL_law_1381 : decode cL_law 1381 = .ok (.aload_n 0, 1) := by decide +kernel
theorem dL_law_1382 : decode cL_law 1382 = .ok (.iload 5, 2) := by decide +kernel
theorem dL_law_1384 : decode cL_law 1384 = .ok (.iconst 1, 1) := by decide +kernel
theorem dL_law_1385 : decode cL_law 1385 = .ok (.iadd, 1) := by decide +kernel
theorem dL_law_1386 : decode cL_law 1386 = .ok (.iaload, 1) := by decide +kernel
theorem dL_law_1387 : decode cL_law 1387 = .ok (.aload_n 0, 1) := by decide +kernel
theorem dL_law_1388 : decode cL_law 1388 = .ok (.iload 5, 2) := by decide +kernel
theorem dL_law_1390 : decode cL_law 1390 = .ok (.iconst 2, 1) := by decide +kernel
theorem dL_law_1391 : decode cL_law 1391 = .ok (.iadd, 1) := by decide +kernel
theorem dL_law_1392 : decode cL_law 1392 = .ok (.iaload, 1) := by decide +kernel
theorem dL_law_1393 : decode cL_law 1393 = .ok (.aload_n 3, 1) := by decide +kernel
theorem dL_law_1394 : decode cL_law 1394 = .ok (.invokestatic 193, 3) := by decide +kernel
theorem dL_law_1397 : decode cL_law 1397 = .ok (.istore 6, 2) := by decide +kernel
theorem dL_law_1399 : decode cL_law 1399 = .ok (.aload_n 2, 1) := by decide +kernel
theorem dL_law_1400 : decode cL_law 1400 = .ok (.aload_n 0, 1) := by decide +kernel
theorem dL_law_1401 : decode cL_law 1401 = .ok (.iload 5, 2) := by decide +kernel
theorem dL_law_1403 : decode cL_law 1403 = .ok (.iconst 1, 1) := by decide +kernel
theorem dL_law_1404 : decode cL_law 1404 = .ok (.iadd, 1) := by decide +kernel
theorem dL_law_1405 : decode cL_law 1405 = .ok (.iaload, 1) := by decide +kernel
theorem dL_law_1406 : decode cL_law 1406 = .ok (.aload_n 0, 1) := by decide +kernel
theorem dL_law_1407 : decode cL_law 1407 = .ok (.iload 5, 2) := by decide +kernel
theorem dL_law_1409 : decode cL_law 1409 = .ok (.iconst 2, 1) := by decide +kernel
theorem dL_law_1410 : decode cL_law 1410 = .ok (.iadd, 1) := by decide +kernel
theorem dL_law_1411 : decode cL_law 1411 = .ok (.iaload, 1) := by decide +kernel
theorem dL_law_1412 : decode cL_law 1412 = .ok (.invokevirtual 195, 3) := by decide +kernel
theorem dL_law_1415 : decode cL_law 1415 = .ok (.istore 7, 2) := by decide +kernel
theorem dL_law_1417 : decode cL_law 1417 = .ok (.aload_n 2, 1) := by decide +kernel
theorem dL_law_1418 : decode cL_law 1418 = .ok (.invokevirtual 134, 3) := by decide +kernel
theorem dL_law_1421 : decode cL_law 1421 = .ok (.iload 6, 2) := by decide +kernel
theorem dL_law_1423 : decode cL_law 1423 = .ok (.if_icmp .eq 5, 3) := by decide +kernel
theorem dL_law_1426 : decode cL_law 1426 = .ok (.iconst 0, 1) := by decide +kernel
theorem dL_law_1427 : decode cL_law 1427 = .ok (.ireturn, 1) := by decide +kernel
theorem dL_law_1428 : decode cL_law 1428 = .ok (.iload 6, 2) := by decide +kernel
theorem dL_law_1430 : decode cL_law 1430 = .ok (.ifCond .ne 22, 3) := by decide +kernel
theorem dL_law_1433 : decode cL_law 1433 = .ok (.aload_n 3, 1) := by decide +kernel
theorem dL_law_1434 : decode cL_law 1434 = .ok (.iconst 0, 1) := by decide +kernel
theorem dL_law_1435 : decode cL_law 1435 = .ok (.laload, 1) := by decide +kernel
theorem dL_law_1436 : decode cL_law 1436 = .ok (.iload 7, 2) := by decide +kernel
theorem dL_law_1438 : decode cL_law 1438 = .ok (.ifCond .eq 7, 3) := by decide +kernel
theorem dL_law_1441 : decode cL_law 1441 = .ok (.lconst 1, 1) := by decide +kernel
theorem dL_law_1442 : decode cL_law 1442 = .ok (.goto 4, 3) := by decide +kernel
theorem dL_law_1445 : decode cL_law 1445 = .ok (.lconst 0, 1) := by decide +kernel
theorem dL_law_1446 : decode cL_law 1446 = .ok (.lcmp, 1) := by decide +kernel
theorem dL_law_1447 : decode cL_law 1447 = .ok (.ifCond .eq 5, 3) := by decide +kernel
theorem dL_law_1450 : decode cL_law 1450 = .ok (.iconst 0, 1) := by decide +kernel
theorem dL_law_1451 : decode cL_law 1451 = .ok (.ireturn, 1) := by decide +kernel
theorem dL_law_1452 : decode cL_law 1452 = .ok (.goto 671, 3) := by decide +kernel
theorem dL_law_1455 : decode cL_law 1455 = .ok (.aload_n 1, 1) := by decide +kernel
theorem dL_law_1456 : decode cL_law 1456 = .ok (.aload_n 0, 1) := by decide +kernel
theorem dL_law_1457 : decode cL_law 1457 = .ok (.iload 5, 2) := by decide +kernel
theorem dL_law_1459 : decode cL_law 1459 = .ok (.iconst 1, 1) := by decide +kernel
theorem dL_law_1460 : decode cL_law 1460 = .ok (.iadd, 1) := by decide +kernel
theorem dL_law_1461 : decode cL_law 1461 = .ok (.iaload, 1) := by decide +kernel
theorem dL_law_1462 : decode cL_law 1462 = .ok (.aload_n 3, 1) := by decide +kernel
theorem dL_law_1463 : decode cL_law 1463 = .ok (.invokestatic 196, 3) := by decide +kernel
theorem dL_law_1466 : decode cL_law 1466 = .ok (.istore 6, 2) := by decide +kernel
theorem dL_law_1468 : decode cL_law 1468 = .ok (.aload_n 2, 1) := by decide +kernel
theorem dL_law_1469 : decode cL_law 1469 = .ok (.aload_n 0, 1) := by decide +kernel
theorem dL_law_1470 : decode cL_law 1470 = .ok (.iload 5, 2) := by decide +kernel
theorem dL_law_1472 : decode cL_law 1472 = .ok (.iconst 1, 1) := by decide +kernel
theorem dL_law_1473 : decode cL_law 1473 = .ok (.iadd, 1) := by decide +kernel
theorem dL_law_1474 : decode cL_law 1474 = .ok (.iaload, 1) := by decide +kernel
theorem dL_law_1475 : decode cL_law 1475 = .ok (.invokevirtual 198, 3) := by decide +kernel
theorem dL_law_1478 : decode cL_law 1478 = .ok (.istore 7, 2) := by decide +kernel
theorem dL_law_1480 : decode cL_law 1480 = .ok (.aload_n 2, 1) := by decide +kernel
theorem dL_law_1481 : decode cL_law 1481 = .ok (.invokevirtual 134, 3) := by decide +kernel
theorem dL_law_1484 : decode cL_law 1484 = .ok (.iload 6, 2) := by decide +kernel
theorem dL_law_1486 : decode cL_law 1486 = .ok (.if_icmp .eq 5, 3) := by decide +kernel
theorem dL_law_1489 : decode cL_law 1489 = .ok (.iconst 0, 1) := by decide +kernel
theorem dL_law_1490 : decode cL_law 1490 = .ok (.ireturn, 1) := by decide +kernel
theorem dL_law_1491 : decode cL_law 1491 = .ok (.iload 6, 2) := by decide +kernel
theorem dL_law_1493 : decode cL_law 1493 = .ok (.ifCond .ne 15, 3) := by decide +kernel
theorem dL_law_1496 : decode cL_law 1496 = .ok (.aload_n 3, 1) := by decide +kernel
theorem dL_law_1497 : decode cL_law 1497 = .ok (.iconst 0, 1) := by decide +kernel
theorem dL_law_1498 : decode cL_law 1498 = .ok (.laload, 1) := by decide +kernel
theorem dL_law_1499 : decode cL_law 1499 = .ok (.iload 7, 2) := by decide +kernel
theorem dL_law_1501 : decode cL_law 1501 = .ok (.i2l, 1) := by decide +kernel
theorem dL_law_1502 : decode cL_law 1502 = .ok (.lcmp, 1) := by decide +kernel
theorem dL_law_1503 : decode cL_law 1503 = .ok (.ifCond .eq 5, 3) := by decide +kernel
theorem dL_law_1506 : decode cL_law 1506 = .ok (.iconst 0, 1) := by decide +kernel
theorem dL_law_1507 : decode cL_law 1507 = .ok (.ireturn, 1) := by decide +kernel
theorem dL_law_1508 : decode cL_law 1508 = .ok (.goto 615, 3) := by decide +kernel
theorem dL_law_1511 : decode cL_law 1511 = .ok (.aload_n 1, 1) := by decide +kernel
theorem dL_law_1512 : decode cL_law 1512 = .ok (.aload_n 0, 1) := by decide +kernel
theorem dL_law_1513 : decode cL_law 1513 = .ok (.iload 5, 2) := by decide +kernel
theorem dL_law_1515 : decode cL_law 1515 = .ok (.iconst 1, 1) := by decide +kernel
theorem dL_law_1516 : decode cL_law 1516 = .ok (.iadd, 1) := by decide +kernel
theorem dL_law_1517 : decode cL_law 1517 = .ok (.iaload, 1) := by decide +kernel
theorem dL_law_1518 : decode cL_law 1518 = .ok (.aload_n 0, 1) := by decide +kernel
theorem dL_law_1519 : decode cL_law 1519 = .ok (.iload 5, 2) := by decide +kernel
theorem dL_law_1521 : decode cL_law 1521 = .ok (.iconst 2, 1) := by decide +kernel
theorem dL_law_1522 : decode cL_law 1522 = .ok (.iadd, 1) := by decide +kernel
theorem dL_law_1523 : decode cL_law 1523 = .ok (.iaload, 1) := by decide +kernel
theorem dL_law_1524 : decode cL_law 1524 = .ok (.aload_n 3, 1) := by decide +kernel
theorem dL_law_1525 : decode cL_law 1525 = .ok (.invokestatic 199, 3) := by decide +kernel
theorem dL_law_1528 : decode cL_law 1528 = .ok (.istore 6, 2) := by decide +kernel
theorem dL_law_1530 : decode cL_law 1530 = .ok (.aload_n 2, 1) := by decide +kernel
theorem dL_law_1531 : decode cL_law 1531 = .ok (.aload_n 0, 1) := by decide +kernel
theorem dL_law_1532 : decode cL_law 1532 = .ok (.iload 5, 2) := by decide +kernel
theorem dL_law_1534 : decode cL_law 1534 = .ok (.iconst 1, 1) := by decide +kernel
theorem dL_law_1535 : decode cL_law 1535 = .ok (.iadd, 1) := by decide +kernel
theorem dL_law_1536 : decode cL_law 1536 = .ok (.iaload, 1) := by decide +kernel
theorem dL_law_1537 : decode cL_law 1537 = .ok (.aload_n 0, 1) := by decide +kernel
theorem dL_law_1538 : decode cL_law 1538 = .ok (.iload 5, 2) := by decide +kernel
theorem dL_law_1540 : decode cL_law 1540 = .ok (.iconst 2, 1) := by decide +kernel
theorem dL_law_1541 : decode cL_law 1541 = .ok (.iadd, 1) := by decide +kernel
theorem dL_law_1542 : decode cL_law 1542 = .ok (.iaload, 1) := by decide +kernel
theorem dL_law_1543 : decode cL_law 1543 = .ok (.invokevirtual 201, 3) := by decide +kernel
theorem dL_law_1546 : decode cL_law 1546 = .ok (.istore 7, 2) := by decide +kernel
theorem dL_law_1548 : decode cL_law 1548 = .ok (.aload_n 2, 1) := by decide +kernel
theorem dL_law_1549 : decode cL_law 1549 = .ok (.invokevirtual 134, 3) := by decide +kernel
theorem dL_law_1552 : decode cL_law 1552 = .ok (.iload 6, 2) := by decide +kernel
theorem dL_law_1554 : decode cL_law 1554 = .ok (.if_icmp .eq 5, 3) := by decide +kernel
theorem dL_law_1557 : decode cL_law 1557 = .ok (.iconst 0, 1) := by decide +kernel
theorem dL_law_1558 : decode cL_law 1558 = .ok (.ireturn, 1) := by decide +kernel
theorem dL_law_1559 : decode cL_law 1559 = .ok (.iload 6, 2) := by decide +kernel
theorem dL_law_1561 : decode cL_law 1561 = .ok (.ifCond .ne 15, 3) := by decide +kernel
theorem dL_law_1564 : decode cL_law 1564 = .ok (.aload_n 3, 1) := by decide +kernel
theorem dL_law_1565 : decode cL_law 1565 = .ok (.iconst 0, 1) := by decide +kernel
theorem dL_law_1566 : decode cL_law 1566 = .ok (.laload, 1) := by decide +kernel
theorem dL_law_1567 : decode cL_law 1567 = .ok (.iload 7, 2) := by decide +kernel
theorem dL_law_1569 : decode cL_law 1569 = .ok (.i2l, 1) := by decide +kernel
theorem dL_law_1570 : decode cL_law 1570 = .ok (.lcmp, 1) := by decide +kernel
theorem dL_law_1571 : decode cL_law 1571 = .ok (.ifCond .eq 5, 3) := by decide +kernel
theorem dL_law_1574 : decode cL_law 1574 = .ok (.iconst 0, 1) := by decide +kernel
theorem dL_law_1575 : decode cL_law 1575 = .ok (.ireturn, 1) := by decide +kernel
theorem dL_law_1576 : decode cL_law 1576 = .ok (.goto 547, 3) := by decide +kernel
theorem dL_law_1579 : decode cL_law 1579 = .ok (.aload_n 1, 1) := by decide +kernel
theorem dL_law_1580 : decode cL_law 1580 = .ok (.aload_n 0, 1) := by decide +kernel
theorem dL_law_1581 : decode cL_law 1581 = .ok (.iload 5, 2) := by decide +kernel
theorem dL_law_1583 : decode cL_law 1583 = .ok (.iconst 1, 1) := by decide +kernel
theorem dL_law_1584 : decode cL_law 1584 = .ok (.iadd, 1) := by decide +kernel
theorem dL_law_1585 : decode cL_law 1585 = .ok (.iaload, 1) := by decide +kernel
theorem dL_law_1586 : decode cL_law 1586 = .ok (.aload_n 3, 1) := by decide +kernel
theorem dL_law_1587 : decode cL_law 1587 = .ok (.invokestatic 202, 3) := by decide +kernel
theorem dL_law_1590 : decode cL_law 1590 = .ok (.istore 6, 2) := by decide +kernel
theorem dL_law_1592 : decode cL_law 1592 = .ok (.aload_n 2, 1) := by decide +kernel
theorem dL_law_1593 : decode cL_law 1593 = .ok (.aload_n 0, 1) := by decide +kernel
theorem dL_law_1594 : decode cL_law 1594 = .ok (.iload 5, 2) := by decide +kernel
theorem dL_law_1596 : decode cL_law 1596 = .ok (.iconst 1, 1) := by decide +kernel
theorem dL_law_1597 : decode cL_law 1597 = .ok (.iadd, 1) := by decide +kernel
theorem dL_law_1598 : decode cL_law 1598 = .ok (.iaload, 1) := by decide +kernel
theorem dL_law_1599 : decode cL_law 1599 = .ok (.invokevirtual 204, 3) := by decide +kernel
theorem dL_law_1602 : decode cL_law 1602 = .ok (.istore 7, 2) := by decide +kernel
theorem dL_law_1604 : decode cL_law 1604 = .ok (.aload_n 2, 1) := by decide +kernel
theorem dL_law_1605 : decode cL_law 1605 = .ok (.invokevirtual 134, 3) := by decide +kernel
theorem dL_law_1608 : decode cL_law 1608 = .ok (.iload 6, 2) := by decide +kernel
theorem dL_law_1610 : decode cL_law 1610 = .ok (.if_icmp .eq 5, 3) := by decide +kernel
theorem dL_law_1613 : decode cL_law 1613 = .ok (.iconst 0, 1) := by decide +kernel
theorem dL_law_1614 : decode cL_law 1614 = .ok (.ireturn, 1) := by decide +kernel
theorem dL_law_1615 : decode cL_law 1615 = .ok (.iload 6, 2) := by decide +kernel
theorem dL_law_1617 : decode cL_law 1617 = .ok (.ifCond .ne 15, 3) := by decide +kernel
theorem dL_law_1620 : decode cL_law 1620 = .ok (.aload_n 3, 1) := by decide +kernel
theorem dL_law_1621 : decode cL_law 1621 = .ok (.iconst 0, 1) := by decide +kernel
theorem dL_law_1622 : decode cL_law 1622 = .ok (.laload, 1) := by decide +kernel
theorem dL_law_1623 : decode cL_law 1623 = .ok (.iload 7, 2) := by decide +kernel
theorem dL_law_1625 : decode cL_law 1625 = .ok (.i2l, 1) := by decide +kernel
theorem dL_law_1626 : decode cL_law 1626 = .ok (.lcmp, 1) := by decide +kernel
theorem dL_law_1627 : decode cL_law 1627 = .ok (.ifCond .eq 5, 3) := by decide +kernel
theorem dL_law_1630 : decode cL_law 1630 = .ok (.iconst 0, 1) := by decide +kernel
theorem dL_law_1631 : decode cL_law 1631 = .ok (.ireturn, 1) := by decide +kernel
theorem dL_law_1632 : decode cL_law 1632 = .ok (.goto 491, 3) := by decide +kernel
theorem dL_law_1635 : decode cL_law 1635 = .ok (.aload_n 1, 1) := by decide +kernel
theorem dL_law_1636 : decode cL_law 1636 = .ok (.aload_n 0, 1) := by decide +kernel
theorem dL_law_1637 : decode cL_law 1637 = .ok (.iload 5, 2) := by decide +kernel
theorem dL_law_1639 : decode cL_law 1639 = .ok (.iconst 1, 1) := by decide +kernel
theorem dL_law_1640 : decode cL_law 1640 = .ok (.iadd, 1) := by decide +kernel
theorem dL_law_1641 : decode cL_law 1641 = .ok (.iaload, 1) := by decide +kernel
theorem dL_law_1642 : decode cL_law 1642 = .ok (.i2c, 1) := by decide +kernel
theorem dL_law_1643 : decode cL_law 1643 = .ok (.aload_n 3, 1) := by decide +kernel
theorem dL_law_1644 : decode cL_law 1644 = .ok (.invokestatic 205, 3) := by decide +kernel
theorem dL_law_1647 : decode cL_law 1647 = .ok (.istore 6, 2) := by decide +kernel
theorem dL_law_1649 : decode cL_law 1649 = .ok (.aload_n 2, 1) := by decide +kernel
theorem dL_law_1650 : decode cL_law 1650 = .ok (.aload_n 0, 1) := by decide +kernel
theorem dL_law_1651 : decode cL_law 1651 = .ok (.iload 5, 2) := by decide +kernel
theorem dL_law_1653 : decode cL_law 1653 = .ok (.iconst 1, 1) := by decide +kernel
theorem dL_law_1654 : decode cL_law 1654 = .ok (.iadd, 1) := by decide +kernel
theorem dL_law_1655 : decode cL_law 1655 = .ok (.iaload, 1) := by decide +kernel
theorem dL_law_1656 : decode cL_law 1656 = .ok (.i2c, 1) := by decide +kernel
theorem dL_law_1657 : decode cL_law 1657 = .ok (.invokevirtual 208, 3) := by decide +kernel
theorem dL_law_1660 : decode cL_law 1660 = .ok (.istore 7, 2) := by decide +kernel
theorem dL_law_1662 : decode cL_law 1662 = .ok (.aload_n 2, 1) := by decide +kernel
theorem dL_law_1663 : decode cL_law 1663 = .ok (.invokevirtual 134, 3) := by decide +kernel
theorem dL_law_1666 : decode cL_law 1666 = .ok (.iload 6, 2) := by decide +kernel
theorem dL_law_1668 : decode cL_law 1668 = .ok (.if_icmp .eq 5, 3) := by decide +kernel
theorem dL_law_1671 : decode cL_law 1671 = .ok (.iconst 0, 1) := by decide +kernel
theorem dL_law_1672 : decode cL_law 1672 = .ok (.ireturn, 1) := by decide +kernel
theorem dL_law_1673 : decode cL_law 1673 = .ok (.iload 6, 2) := by decide +kernel
theorem dL_law_1675 : decode cL_law 1675 = .ok (.ifCond .ne 15, 3) := by decide +kernel
theorem dL_law_1678 : decode cL_law 1678 = .ok (.aload_n 3, 1) := by decide +kernel
theorem dL_law_1679 : decode cL_law 1679 = .ok (.iconst 0, 1) := by decide +kernel
theorem dL_law_1680 : decode cL_law 1680 = .ok (.laload, 1) := by decide +kernel
theorem dL_law_1681 : decode cL_law 1681 = .ok (.iload 7, 2) := by decide +kernel
theorem dL_law_1683 : decode cL_law 1683 = .ok (.i2l, 1) := by decide +kernel
theorem dL_law_1684 : decode cL_law 1684 = .ok (.lcmp, 1) := by decide +kernel
theorem dL_law_1685 : decode cL_law 1685 = .ok (.ifCond .eq 5, 3) := by decide +kernel
theorem dL_law_1688 : decode cL_law 1688 = .ok (.iconst 0, 1) := by decide +kernel
theorem dL_law_1689 : decode cL_law 1689 = .ok (.ireturn, 1) := by decide +kernel
theorem dL_law_1690 : decode cL_law 1690 = .ok (.goto 433, 3) := by decide +kernel
theorem dL_law_1693 : decode cL_law 1693 = .ok (.aload_n 1, 1) := by decide +kernel
theorem dL_law_1694 : decode cL_law 1694 = .ok (.aload_n 3, 1) := by decide +kernel
theorem dL_law_1695 : decode cL_law 1695 = .ok (.invokestatic 209, 3) := by decide +kernel
theorem dL_law_1698 : decode cL_law 1698 = .ok (.istore 6, 2) := by decide +kernel
theorem dL_law_1700 : decode cL_law 1700 = .ok (.aload_n 2, 1) := by decide +kernel
theorem dL_law_1701 : decode cL_law 1701 = .ok (.invokevirtual 212, 3) := by decide +kernel
theorem dL_law_1704 : decode cL_law 1704 = .ok (.istore 7, 2) := by decide +kernel
theorem dL_law_1706 : decode cL_law 1706 = .ok (.aload_n 2, 1) := by decide +kernel
theorem dL_law_1707 : decode cL_law 1707 = .ok (.invokevirtual 134, 3) := by decide +kernel
theorem dL_law_1710 : decode cL_law 1710 = .ok (.iload 6, 2) := by decide +kernel
theorem dL_law_1712 : decode cL_law 1712 = .ok (.if_icmp .eq 5, 3) := by decide +kernel
theorem dL_law_1715 : decode cL_law 1715 = .ok (.iconst 0, 1) := by decide +kernel
theorem dL_law_1716 : decode cL_law 1716 = .ok (.ireturn, 1) := by decide +kernel
theorem dL_law_1717 : decode cL_law 1717 = .ok (.iload 6, 2) := by decide +kernel
theorem dL_law_1719 : decode cL_law 1719 = .ok (.ifCond .ne 15, 3) := by decide +kernel
theorem dL_law_1722 : decode cL_law 1722 = .ok (.aload_n 3, 1) := by decide +kernel
theorem dL_law_1723 : decode cL_law 1723 = .ok (.iconst 0, 1) := by decide +kernel
theorem dL_law_1724 : decode cL_law 1724 = .ok (.laload, 1) := by decide +kernel
theorem dL_law_1725 : decode cL_law 1725 = .ok (.iload 7, 2) := by decide +kernel
theorem dL_law_1727 : decode cL_law 1727 = .ok (.i2l, 1) := by decide +kernel
theorem dL_law_1728 : decode cL_law 1728 = .ok (.lcmp, 1) := by decide +kernel
theorem dL_law_1729 : decode cL_law 1729 = .ok (.ifCond .eq 5, 3) := by decide +kernel
theorem dL_law_1732 : decode cL_law 1732 = .ok (.iconst 0, 1) := by decide +kernel
theorem dL_law_1733 : decode cL_law 1733 = .ok (.ireturn, 1) := by decide +kernel
theorem dL_law_1734 : decode cL_law 1734 = .ok (.goto 389, 3) := by decide +kernel
theorem dL_law_1737 : decode cL_law 1737 = .ok (.aload_n 1, 1) := by decide +kernel
theorem dL_law_1738 : decode cL_law 1738 = .ok (.invokevirtual 213, 3) := by decide +kernel
theorem dL_law_1741 : decode cL_law 1741 = .ok (.aload_n 2, 1) := by decide +kernel
theorem dL_law_1742 : decode cL_law 1742 = .ok (.invokevirtual 216, 3) := by decide +kernel
theorem dL_law_1745 : decode cL_law 1745 = .ok (.if_icmp .eq 378, 3) := by decide +kernel
theorem dL_law_1748 : decode cL_law 1748 = .ok (.iconst 0, 1) := by decide +kernel
theorem dL_law_1749 : decode cL_law 1749 = .ok (.ireturn, 1) := by decide +kernel
theorem dL_law_1750 : decode cL_law 1750 = .ok (.aload_n 1, 1) := by decide +kernel
theorem dL_law_1751 : decode cL_law 1751 = .ok (.aload_n 0, 1) := by decide +kernel
theorem dL_law_1752 : decode cL_law 1752 = .ok (.iload 5, 2) := by decide +kernel
theorem dL_law_1754 : decode cL_law 1754 = .ok (.iconst 1, 1) := by decide +kernel
theorem dL_law_1755 : decode cL_law 1755 = .ok (.iadd, 1) := by decide +kernel
theorem dL_law_1756 : decode cL_law 1756 = .ok (.iaload, 1) := by decide +kernel
theorem dL_law_1757 : decode cL_law 1757 = .ok (.ifCond .eq 7, 3) := by decide +kernel
theorem dL_law_1760 : decode cL_law 1760 = .ok (.iconst 1, 1) := by decide +kernel
theorem dL_law_1761 : decode cL_law 1761 = .ok (.goto 4, 3) := by decide +kernel
theorem dL_law_1764 : decode cL_law 1764 = .ok (.iconst 0, 1) := by decide +kernel
theorem dL_law_1765 : decode cL_law 1765 = .ok (.aload_n 3, 1) := by decide +kernel
theorem dL_law_1766 : decode cL_law 1766 = .ok (.invokestatic 217, 3) := by decide +kernel
theorem dL_law_1769 : decode cL_law 1769 = .ok (.istore 6, 2) := by decide +kernel
theorem dL_law_1771 : decode cL_law 1771 = .ok (.aload_n 2, 1) := by decide +kernel
theorem dL_law_1772 : decode cL_law 1772 = .ok (.aload_n 0, 1) := by decide +kernel
theorem dL_law_1773 : decode cL_law 1773 = .ok (.iload 5, 2) := by decide +kernel
theorem dL_law_1775 : decode cL_law 1775 = .ok (.iconst 1, 1) := by decide +kernel
theorem dL_law_1776 : decode cL_law 1776 = .ok (.iadd, 1) := by decide +kernel
theorem dL_law_1777 : decode cL_law 1777 = .ok (.iaload, 1) := by decide +kernel
theorem dL_law_1778 : decode cL_law 1778 = .ok (.ifCond .eq 7, 3) := by decide +kernel
theorem dL_law_1781 : decode cL_law 1781 = .ok (.iconst 1, 1) := by decide +kernel
theorem dL_law_1782 : decode cL_law 1782 = .ok (.goto 4, 3) := by decide +kernel
theorem dL_law_1785 : decode cL_law 1785 = .ok (.iconst 0, 1) := by decide +kernel
theorem dL_law_1786 : decode cL_law 1786 = .ok (.invokevirtual 220, 3) := by decide +kernel
theorem dL_law_1789 : decode cL_law 1789 = .ok (.istore 7, 2) := by decide +kernel
theorem dL_law_1791 : decode cL_law 1791 = .ok (.aload_n 2, 1) := by decide +kernel
theorem dL_law_1792 : decode cL_law 1792 = .ok (.invokevirtual 134, 3) := by decide +kernel
theorem dL_law_1795 : decode cL_law 1795 = .ok (.iload 6, 2) := by decide +kernel
theorem dL_law_1797 : decode cL_law 1797 = .ok (.if_icmp .eq 5, 3) := by decide +kernel
theorem dL_law_1800 : decode cL_law 1800 = .ok (.iconst 0, 1) := by decide +kernel
theorem dL_law_1801 : decode cL_law 1801 = .ok (.ireturn, 1) := by decide +kernel
theorem dL_law_1802 : decode cL_law 1802 = .ok (.iload 6, 2) := by decide +kernel
theorem dL_law_1804 : decode cL_law 1804 = .ok (.ifCond .ne 15, 3) := by decide +kernel
theorem dL_law_1807 : decode cL_law 1807 = .ok (.aload_n 3, 1) := by decide +kernel
theorem dL_law_1808 : decode cL_law 1808 = .ok (.iconst 0, 1) := by decide +kernel
theorem dL_law_1809 : decode cL_law 1809 = .ok (.laload, 1) := by decide +kernel
theorem dL_law_1810 : decode cL_law 1810 = .ok (.iload 7, 2) := by decide +kernel
theorem dL_law_1812 : decode cL_law 1812 = .ok (.i2l, 1) := by decide +kernel
theorem dL_law_1813 : decode cL_law 1813 = .ok (.lcmp, 1) := by decide +kernel
theorem dL_law_1814 : decode cL_law 1814 = .ok (.ifCond .eq 5, 3) := by decide +kernel
theorem dL_law_1817 : decode cL_law 1817 = .ok (.iconst 0, 1) := by decide +kernel
theorem dL_law_1818 : decode cL_law 1818 = .ok (.ireturn, 1) := by decide +kernel
theorem dL_law_1819 : decode cL_law 1819 = .ok (.goto 304, 3) := by decide +kernel
theorem dL_law_1822 : decode cL_law 1822 = .ok (.aload_n 1, 1) := by decide +kernel
theorem dL_law_1823 : decode cL_law 1823 = .ok (.aload_n 0, 1) := by decide +kernel
theorem dL_law_1824 : decode cL_law 1824 = .ok (.iload 5, 2) := by decide +kernel
theorem dL_law_1826 : decode cL_law 1826 = .ok (.iconst 1, 1) := by decide +kernel
theorem dL_law_1827 : decode cL_law 1827 = .ok (.iadd, 1) := by decide +kernel
theorem dL_law_1828 : decode cL_law 1828 = .ok (.iaload, 1) := by decide +kernel
theorem dL_law_1829 : decode cL_law 1829 = .ok (.aload_n 3, 1) := by decide +kernel
theorem dL_law_1830 : decode cL_law 1830 = .ok (.invokestatic 221, 3) := by decide +kernel
theorem dL_law_1833 : decode cL_law 1833 = .ok (.istore 6, 2) := by decide +kernel
theorem dL_law_1835 : decode cL_law 1835 = .ok (.aload_n 2, 1) := by decide +kernel
theorem dL_law_1836 : decode cL_law 1836 = .ok (.aload_n 0, 1) := by decide +kernel
theorem dL_law_1837 : decode cL_law 1837 = .ok (.iload 5, 2) := by decide +kernel
theorem dL_law_1839 : decode cL_law 1839 = .ok (.iconst 1, 1) := by decide +kernel
theorem dL_law_1840 : decode cL_law 1840 = .ok (.iadd, 1) := by decide +kernel
theorem dL_law_1841 : decode cL_law 1841 = .ok (.iaload, 1) := by decide +kernel
theorem dL_law_1842 : decode cL_law 1842 = .ok (.invokevirtual 223, 3) := by decide +kernel
theorem dL_law_1845 : decode cL_law 1845 = .ok (.istore 7, 2) := by decide +kernel
theorem dL_law_1847 : decode cL_law 1847 = .ok (.aload_n 2, 1) := by decide +kernel
theorem dL_law_1848 : decode cL_law 1848 = .ok (.invokevirtual 134, 3) := by decide +kernel
theorem dL_law_1851 : decode cL_law 1851 = .ok (.iload 6, 2) := by decide +kernel
theorem dL_law_1853 : decode cL_law 1853 = .ok (.if_icmp .eq 5, 3) := by decide +kernel
theorem dL_law_1856 : decode cL_law 1856 = .ok (.iconst 0, 1) := by decide +kernel
theorem dL_law_1857 : decode cL_law 1857 = .ok (.ireturn, 1) := by decide +kernel
theorem dL_law_1858 : decode cL_law 1858 = .ok (.iload 6, 2) := by decide +kernel
theorem dL_law_1860 : decode cL_law 1860 = .ok (.ifCond .ne 15, 3) := by decide +kernel
theorem dL_law_1863 : decode cL_law 1863 = .ok (.aload_n 3, 1) := by decide +kernel
theorem dL_law_1864 : decode cL_law 1864 = .ok (.iconst 0, 1) := by decide +kernel
theorem dL_law_1865 : decode cL_law 1865 = .ok (.laload, 1) := by decide +kernel
theorem dL_law_1866 : decode cL_law 1866 = .ok (.iload 7, 2) := by decide +kernel
theorem dL_law_1868 : decode cL_law 1868 = .ok (.i2l, 1) := by decide +kernel
theorem dL_law_1869 : decode cL_law 1869 = .ok (.lcmp, 1) := by decide +kernel
theorem dL_law_1870 : decode cL_law 1870 = .ok (.ifCond .eq 5, 3) := by decide +kernel
theorem dL_law_1873 : decode cL_law 1873 = .ok (.iconst 0, 1) := by decide +kernel
theorem dL_law_1874 : decode cL_law 1874 = .ok (.ireturn, 1) := by decide +kernel
theorem dL_law_1875 : decode cL_law 1875 = .ok (.goto 248, 3) := by decide +kernel
theorem dL_law_1878 : decode cL_law 1878 = .ok (.aload_n 1, 1) := by decide +kernel
theorem dL_law_1879 : decode cL_law 1879 = .ok (.invokevirtual 224, 3) := by decide +kernel
theorem dL_law_1882 : decode cL_law 1882 = .ok (.aload_n 2, 1) := by decide +kernel
theorem dL_law_1883 : decode cL_law 1883 = .ok (.invokevirtual 228, 3) := by decide +kernel
theorem dL_law_1886 : decode cL_law 1886 = .ok (.if_icmp .eq 237, 3) := by decide +kernel
theorem dL_law_1889 : decode cL_law 1889 = .ok (.iconst 0, 1) := by decide +kernel
theorem dL_law_1890 : decode cL_law 1890 = .ok (.ireturn, 1) := by decide +kernel
theorem dL_law_1891 : decode cL_law 1891 = .ok (.aload_n 1, 1) := by decide +kernel
theorem dL_law_1892 : decode cL_law 1892 = .ok (.aload 4, 2) := by decide +kernel
theorem dL_law_1894 : decode cL_law 1894 = .ok (.invokestatic 229, 3) := by decide +kernel
theorem dL_law_1897 : decode cL_law 1897 = .ok (.istore 6, 2) := by decide +kernel
theorem dL_law_1899 : decode cL_law 1899 = .ok (.aload_n 2, 1) := by decide +kernel
theorem dL_law_1900 : decode cL_law 1900 = .ok (.invokevirtual 232, 3) := by decide +kernel
theorem dL_law_1903 : decode cL_law 1903 = .ok (.dstore 7, 2) := by decide +kernel
theorem dL_law_1905 : decode cL_law 1905 = .ok (.aload_n 2, 1) := by decide +kernel
theorem dL_law_1906 : decode cL_law 1906 = .ok (.invokevirtual 134, 3) := by decide +kernel
theorem dL_law_1909 : decode cL_law 1909 = .ok (.iload 6, 2) := by decide +kernel
theorem dL_law_1911 : decode cL_law 1911 = .ok (.if_icmp .eq 5, 3) := by decide +kernel
theorem dL_law_1914 : decode cL_law 1914 = .ok (.iconst 0, 1) := by decide +kernel
theorem dL_law_1915 : decode cL_law 1915 = .ok (.ireturn, 1) := by decide +kernel
theorem dL_law_1916 : decode cL_law 1916 = .ok (.iload 6, 2) := by decide +kernel
theorem dL_law_1918 : decode cL_law 1918 = .ok (.ifCond .ne 35, 3) := by decide +kernel
theorem dL_law_1921 : decode cL_law 1921 = .ok (.aload 4, 2) := by decide +kernel
theorem dL_law_1923 : decode cL_law 1923 = .ok (.iconst 0, 1) := by decide +kernel
theorem dL_law_1924 : decode cL_law 1924 = .ok (.daload, 1) := by decide +kernel
theorem dL_law_1925 : decode cL_law 1925 = .ok (.dload 7, 2) := by decide +kernel
theorem dL_law_1927 : decode cL_law 1927 = .ok (.dcmp .l, 1) := by decide +kernel
theorem dL_law_1928 : decode cL_law 1928 = .ok (.ifCond .eq 25, 3) := by decide +kernel
theorem dL_law_1931 : decode cL_law 1931 = .ok (.aload 4, 2) := by decide +kernel
theorem dL_law_1933 : decode cL_law 1933 = .ok (.iconst 0, 1) := by decide +kernel
theorem dL_law_1934 : decode cL_law 1934 = .ok (.daload, 1) := by decide +kernel
theorem dL_law_1935 : decode cL_law 1935 = .ok (.aload 4, 2) := by decide +kernel
theorem dL_law_1937 : decode cL_law 1937 = .ok (.iconst 0, 1) := by decide +kernel
theorem dL_law_1938 : decode cL_law 1938 = .ok (.daload, 1) := by decide +kernel
theorem dL_law_1939 : decode cL_law 1939 = .ok (.dcmp .l, 1) := by decide +kernel
theorem dL_law_1940 : decode cL_law 1940 = .ok (.ifCond .eq 11, 3) := by decide +kernel
theorem dL_law_1943 : decode cL_law 1943 = .ok (.dload 7, 2) := by decide +kernel
theorem dL_law_1945 : decode cL_law 1945 = .ok (.dload 7, 2) := by decide +kernel
theorem dL_law_1947 : decode cL_law 1947 = .ok (.dcmp .l, 1) := by decide +kernel
theorem dL_law_1948 : decode cL_law 1948 = .ok (.ifCond .ne 5, 3) := by decide +kernel
theorem dL_law_1951 : decode cL_law 1951 = .ok (.iconst 0, 1) := by decide +kernel
theorem dL_law_1952 : decode cL_law 1952 = .ok (.ireturn, 1) := by decide +kernel
theorem dL_law_1953 : decode cL_law 1953 = .ok (.goto 170, 3) := by decide +kernel
theorem dL_law_1956 : decode cL_law 1956 = .ok (.aload_n 1, 1) := by decide +kernel
theorem dL_law_1957 : decode cL_law 1957 = .ok (.aload 4, 2) := by decide +kernel
theorem dL_law_1959 : decode cL_law 1959 = .ok (.invokestatic 233, 3) := by decide +kernel
theorem dL_law_1962 : decode cL_law 1962 = .ok (.istore 6, 2) := by decide +kernel
theorem dL_law_1964 : decode cL_law 1964 = .ok (.aload_n 2, 1) := by decide +kernel
theorem dL_law_1965 : decode cL_law 1965 = .ok (.invokevirtual 235, 3) := by decide +kernel
theorem dL_law_1968 : decode cL_law 1968 = .ok (.fstore 7, 2) := by decide +kernel
theorem dL_law_1970 : decode cL_law 1970 = .ok (.aload_n 2, 1) := by decide +kernel
theorem dL_law_1971 : decode cL_law 1971 = .ok (.invokevirtual 134, 3) := by decide +kernel
theorem dL_law_1974 : decode cL_law 1974 = .ok (.iload 6, 2) := by decide +kernel
theorem dL_law_1976 : decode cL_law 1976 = .ok (.if_icmp .eq 5, 3) := by decide +kernel
theorem dL_law_1979 : decode cL_law 1979 = .ok (.iconst 0, 1) := by decide +kernel
theorem dL_law_1980 : decode cL_law 1980 = .ok (.ireturn, 1) := by decide +kernel
theorem dL_law_1981 : decode cL_law 1981 = .ok (.iload 6, 2) := by decide +kernel
theorem dL_law_1983 : decode cL_law 1983 = .ok (.ifCond .ne 36, 3) := by decide +kernel
theorem dL_law_1986 : decode cL_law 1986 = .ok (.aload 4, 2) := by decide +kernel
theorem dL_law_1988 : decode cL_law 1988 = .ok (.iconst 0, 1) := by decide +kernel
theorem dL_law_1989 : decode cL_law 1989 = .ok (.daload, 1) := by decide +kernel
theorem dL_law_1990 : decode cL_law 1990 = .ok (.fload 7, 2) := by decide +kernel
theorem dL_law_1992 : decode cL_law 1992 = .ok (.f2d, 1) := by decide +kernel
theorem dL_law_1993 : decode cL_law 1993 = .ok (.dcmp .l, 1) := by decide +kernel
theorem dL_law_1994 : decode cL_law 1994 = .ok (.ifCond .eq 25, 3) := by decide +kernel
theorem dL_law_1997 : decode cL_law 1997 = .ok (.aload 4, 2) := by decide +kernel
theorem dL_law_1999 : decode cL_law 1999 = .ok (.iconst 0, 1) := by decide +kernel
theorem dL_law_2000 : decode cL_law 2000 = .ok (.daload, 1) := by decide +kernel
theorem dL_law_2001 : decode cL_law 2001 = .ok (.aload 4, 2) := by decide +kernel
theorem dL_law_2003 : decode cL_law 2003 = .ok (.iconst 0, 1) := by decide +kernel
theorem dL_law_2004 : decode cL_law 2004 = .ok (.daload, 1) := by decide +kernel
theorem dL_law_2005 : decode cL_law 2005 = .ok (.dcmp .l, 1) := by decide +kernel
theorem dL_law_2006 : decode cL_law 2006 = .ok (.ifCond .eq 11, 3) := by decide +kernel
theorem dL_law_2009 : decode cL_law 2009 = .ok (.fload 7, 2) := by decide +kernel
theorem dL_law_2011 : decode cL_law 2011 = .ok (.fload 7, 2) := by decide +kernel
theorem dL_law_2013 : decode cL_law 2013 = .ok (.fcmp .l, 1) := by decide +kernel
theorem dL_law_2014 : decode cL_law 2014 = .ok (.ifCond .ne 5, 3) := by decide +kernel
theorem dL_law_2017 : decode cL_law 2017 = .ok (.iconst 0, 1) := by decide +kernel
theorem dL_law_2018 : decode cL_law 2018 = .ok (.ireturn, 1) := by decide +kernel
theorem dL_law_2019 : decode cL_law 2019 = .ok (.goto 104, 3) := by decide +kernel
theorem dL_law_2022 : decode cL_law 2022 = .ok (.aload_n 1, 1) := by decide +kernel
theorem dL_law_2023 : decode cL_law 2023 = .ok (.aload_n 3, 1) := by decide +kernel
theorem dL_law_2024 : decode cL_law 2024 = .ok (.invokestatic 236, 3) := by decide +kernel
theorem dL_law_2027 : decode cL_law 2027 = .ok (.istore 6, 2) := by decide +kernel
theorem dL_law_2029 : decode cL_law 2029 = .ok (.aload_n 2, 1) := by decide +kernel
theorem dL_law_2030 : decode cL_law 2030 = .ok (.invokevirtual 238, 3) := by decide +kernel
theorem dL_law_2033 : decode cL_law 2033 = .ok (.istore 7, 2) := by decide +kernel
theorem dL_law_2035 : decode cL_law 2035 = .ok (.aload_n 2, 1) := by decide +kernel
theorem dL_law_2036 : decode cL_law 2036 = .ok (.invokevirtual 134, 3) := by decide +kernel
theorem dL_law_2039 : decode cL_law 2039 = .ok (.iload 6, 2) := by decide +kernel
theorem dL_law_2041 : decode cL_law 2041 = .ok (.if_icmp .eq 5, 3) := by decide +kernel
theorem dL_law_2044 : decode cL_law 2044 = .ok (.iconst 0, 1) := by decide +kernel
theorem dL_law_2045 : decode cL_law 2045 = .ok (.ireturn, 1) := by decide +kernel
theorem dL_law_2046 : decode cL_law 2046 = .ok (.iload 6, 2) := by decide +kernel
theorem dL_law_2048 : decode cL_law 2048 = .ok (.ifCond .ne 15, 3) := by decide +kernel
theorem dL_law_2051 : decode cL_law 2051 = .ok (.aload_n 3, 1) := by decide +kernel
theorem dL_law_2052 : decode cL_law 2052 = .ok (.iconst 0, 1) := by decide +kernel
theorem dL_law_2053 : decode cL_law 2053 = .ok (.laload, 1) := by decide +kernel
theorem dL_law_2054 : decode cL_law 2054 = .ok (.iload 7, 2) := by decide +kernel
theorem dL_law_2056 : decode cL_law 2056 = .ok (.i2l, 1) := by decide +kernel
theorem dL_law_2057 : decode cL_law 2057 = .ok (.lcmp, 1) := by decide +kernel
theorem dL_law_2058 : decode cL_law 2058 = .ok (.ifCond .eq 5, 3) := by decide +kernel
theorem dL_law_2061 : decode cL_law 2061 = .ok (.iconst 0, 1) := by decide +kernel
theorem dL_law_2062 : decode cL_law 2062 = .ok (.ireturn, 1) := by decide +kernel
theorem dL_law_2063 : decode cL_law 2063 = .ok (.goto 60, 3) := by decide +kernel
theorem dL_law_2066 : decode cL_law 2066 = .ok (.aload_n 1, 1) := by decide +kernel
theorem dL_law_2067 : decode cL_law 2067 = .ok (.invokevirtual 239, 3) := by decide +kernel
theorem dL_law_2070 : decode cL_law 2070 = .ok (.aload_n 2, 1) := by decide +kernel
theorem dL_law_2071 : decode cL_law 2071 = .ok (.invokevirtual 242, 3) := by decide +kernel
theorem dL_law_2074 : decode cL_law 2074 = .ok (.if_icmp .eq 49, 3) := by decide +kernel
theorem dL_law_2077 : decode cL_law 2077 = .ok (.iconst 0, 1) := by decide +kernel
theorem dL_law_2078 : decode cL_law 2078 = .ok (.ireturn, 1) := by decide +kernel
theorem dL_law_2079 : decode cL_law 2079 = .ok (.aload_n 1, 1) := by decide +kernel
theorem dL_law_2080 : decode cL_law 2080 = .ok (.aload_n 3, 1) := by decide +kernel
theorem dL_law_2081 : decode cL_law 2081 = .ok (.invokestatic 243, 3) := by decide +kernel
theorem dL_law_2084 : decode cL_law 2084 = .ok (.istore 6, 2) := by decide +kernel
theorem dL_law_2086 : decode cL_law 2086 = .ok (.aload_n 2, 1) := by decide +kernel
theorem dL_law_2087 : decode cL_law 2087 = .ok (.invokevirtual 245, 3) := by decide +kernel
theorem dL_law_2090 : decode cL_law 2090 = .ok (.istore 7, 2) := by decide +kernel
theorem dL_law_2092 : decode cL_law 2092 = .ok (.aload_n 2, 1) := by decide +kernel
theorem dL_law_2093 : decode cL_law 2093 = .ok (.invokevirtual 134, 3) := by decide +kernel
theorem dL_law_2096 : decode cL_law 2096 = .ok (.iload 6, 2) := by decide +kernel
theorem dL_law_2098 : decode cL_law 2098 = .ok (.if_icmp .eq 5, 3) := by decide +kernel
theorem dL_law_2101 : decode cL_law 2101 = .ok (.iconst 0, 1) := by decide +kernel
theorem dL_law_2102 : decode cL_law 2102 = .ok (.ireturn, 1) := by decide +kernel
theorem dL_law_2103 : decode cL_law 2103 = .ok (.iload 6, 2) := by decide +kernel
theorem dL_law_2105 : decode cL_law 2105 = .ok (.ifCond .ne 15, 3) := by decide +kernel
theorem dL_law_2108 : decode cL_law 2108 = .ok (.aload_n 3, 1) := by decide +kernel
theorem dL_law_2109 : decode cL_law 2109 = .ok (.iconst 0, 1) := by decide +kernel
theorem dL_law_2110 : decode cL_law 2110 = .ok (.laload, 1) := by decide +kernel
theorem dL_law_2111 : decode cL_law 2111 = .ok (.iload 7, 2) := by decide +kernel
theorem dL_law_2113 : decode cL_law 2113 = .ok (.i2l, 1) := by decide +kernel
theorem dL_law_2114 : decode cL_law 2114 = .ok (.lcmp, 1) := by decide +kernel
theorem dL_law_2115 : decode cL_law 2115 = .ok (.ifCond .eq 5, 3) := by decide +kernel
theorem dL_law_2118 : decode cL_law 2118 = .ok (.iconst 0, 1) := by decide +kernel
theorem dL_law_2119 : decode cL_law 2119 = .ok (.ireturn, 1) := by decide +kernel
theorem dL_law_2120 : decode cL_law 2120 = .ok (.goto 3, 3) := by decide +kernel
theorem dL_law_2123 : decode cL_law 2123 = .ok (.iinc 5 4, 3) := by decide +kernel
theorem dL_law_2126 : decode cL_law 2126 = .ok (.goto (-2098), 3) := by decide +kernel
theorem dL_law_2129 : decode cL_law 2129 = .ok (.iconst 1, 1) := by decide +kernel
theorem dL_law_2130 : decode cL_law 2130 = .ok (.ireturn, 1) := by decide +kernel
