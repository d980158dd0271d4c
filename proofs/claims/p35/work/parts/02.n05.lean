theorem dL_areClaims_119 : decode cL_areClaims 119 = .ok (.iconst 1, 1) := by decide +kernel
theorem dL_areClaims_120 : decode cL_areClaims 120 = .ok (.goto 4, 3) := by decide +kernel
theorem dL_areClaims_123 : decode cL_areClaims 123 = .ok (.iconst 0, 1) := by decide +kernel
theorem dL_areClaims_124 : decode cL_areClaims 124 = .ok (.istore_n 1, 1) := by decide +kernel
theorem dL_areClaims_125 : decode cL_areClaims 125 = .ok (.iload_n 2, 1) := by decide +kernel
theorem dL_areClaims_126 : decode cL_areClaims 126 = .ok (.iload 6, 2) := by decide +kernel
theorem dL_areClaims_128 : decode cL_areClaims 128 = .ok (.ifCond .lt 7, 3) := by decide +kernel
theorem dL_areClaims_131 : decode cL_areClaims 131 = .ok (.iconst 1, 1) := by decide +kernel
theorem dL_areClaims_132 : decode cL_areClaims 132 = .ok (.goto 4, 3) := by decide +kernel
theorem dL_areClaims_135 : decode cL_areClaims 135 = .ok (.iconst 0, 1) := by decide +kernel
theorem dL_areClaims_136 : decode cL_areClaims 136 = .ok (.iadd, 1) := by decide +kernel
theorem dL_areClaims_137 : decode cL_areClaims 137 = .ok (.istore_n 2, 1) := by decide +kernel
theorem dL_areClaims_138 : decode cL_areClaims 138 = .ok (.iconst 0, 1) := by decide +kernel
theorem dL_areClaims_139 : decode cL_areClaims 139 = .ok (.istore 7, 2) := by decide +kernel
theorem dL_areClaims_141 : decode cL_areClaims 141 = .ok (.iconst 0, 1) := by decide +kernel
theorem dL_areClaims_142 : decode cL_areClaims 142 = .ok (.istore 8, 2) := by decide +kernel
theorem dL_areClaims_144 : decode cL_areClaims 144 = .ok (.aload_n 0, 1) := by decide +kernel
theorem dL_areClaims_145 : decode cL_areClaims 145 = .ok (.iload 4, 2) := by decide +kernel
theorem dL_areClaims_147 : decode cL_areClaims 147 = .ok (.invokevirtual 51, 3) := by decide +kernel
theorem dL_areClaims_150 : decode cL_areClaims 150 = .ok (.istore 9, 2) := by decide +kernel
theorem dL_areClaims_152 : decode cL_areClaims 152 = .ok (.sipush 1000, 3) := by decide +kernel
theorem dL_areClaims_155 : decode cL_areClaims 155 = .ok (.istore 10, 2) := by decide +kernel
theorem dL_areClaims_157 : decode cL_areClaims 157 = .ok (.aload_n 0, 1) := by decide +kernel
theorem dL_areClaims_158 : decode cL_areClaims 158 = .ok (.iload 4, 2) := by decide +kernel
theorem dL_areClaims_160 : decode cL_areClaims 160 = .ok (.iconst 0, 1) := by decide +kernel
theorem dL_areClaims_161 : decode cL_areClaims 161 = .ok (.invokevirtual 48, 3) := by decide +kernel
theorem dL_areClaims_164 : decode cL_areClaims 164 = .ok (.istore 11, 2) := by decide +kernel
theorem dL_areClaims_166 : decode cL_areClaims 166 = .ok (.iload 11, 2) := by decide +kernel
theorem dL_areClaims_168 : decode cL_areClaims 168 = .ok (.ifCond .lt 108, 3) := by decide +kernel
theorem dL_areClaims_171 : decode cL_areClaims 171 = .ok (.iload_n 1, 1) := by decide +kernel
theorem dL_areClaims_172 : decode cL_areClaims 172 = .ok (.ifCond .eq 104, 3) := by decide +kernel
theorem dL_areClaims_175 : decode cL_areClaims 175 = .ok (.iload 5, 2) := by decide +kernel
theorem dL_areClaims_177 : decode cL_areClaims 177 = .ok (.ifCond .ne 40, 3) := by decide +kernel
theorem dL_areClaims_180 : decode cL_areClaims 180 = .ok (.aload_n 0, 1) := by decide +kernel
theorem dL_areClaims_181 : decode cL_areClaims 181 = .ok (.iload 11, 2) := by decide +kernel
theorem dL_areClaims_183 : decode cL_areClaims 183 = .ok (.iconst 0, 1) := by decide +kernel
theorem dL_areClaims_184 : decode cL_areClaims 184 = .ok (.invokevirtual 62, 3) := by decide +kernel
theorem dL_areClaims_187 : decode cL_areClaims 187 = .ok (.iconst 3, 1) := by decide +kernel
theorem dL_areClaims_188 : decode cL_areClaims 188 = .ok (.if_icmp .ge 29, 3) := by decide +kernel
theorem dL_areClaims_191 : decode cL_areClaims 191 = .ok (.aload_n 0, 1) := by decide +kernel
theorem dL_areClaims_192 : decode cL_areClaims 192 = .ok (.iload 11, 2) := by decide +kernel
theorem dL_areClaims_194 : decode cL_areClaims 194 = .ok (.iload 4, 2) := by decide +kernel
theorem dL_areClaims_196 : decode cL_areClaims 196 = .ok (.invokevirtual 45, 3) := by decide +kernel
theorem dL_areClaims_199 : decode cL_areClaims 199 = .ok (.iload 10, 2) := by decide +kernel
theorem dL_areClaims_201 : decode cL_areClaims 201 = .ok (.if_icmp .gt 16, 3) := by decide +kernel
theorem dL_areClaims_204 : decode cL_areClaims 204 = .ok (.aload_n 0, 1) := by decide +kernel
theorem dL_areClaims_205 : decode cL_areClaims 205 = .ok (.iload 11, 2) := by decide +kernel
theorem dL_areClaims_207 : decode cL_areClaims 207 = .ok (.invokevirtual 58, 3) := by decide +kernel
theorem dL_areClaims_210 : decode cL_areClaims 210 = .ok (.ifCond .ne 7, 3) := by decide +kernel
theorem dL_areClaims_213 : decode cL_areClaims 213 = .ok (.iconst 1, 1) := by decide +kernel
theorem dL_areClaims_214 : decode cL_areClaims 214 = .ok (.goto 4, 3) := by decide +kernel
theorem dL_areClaims_217 : decode cL_areClaims 217 = .ok (.iconst 0, 1) := by decide +kernel
theorem dL_areClaims_218 : decode cL_areClaims 218 = .ok (.istore_n 1, 1) := by decide +kernel
theorem dL_areClaims_219 : decode cL_areClaims 219 = .ok (.aload_n 0, 1) := by decide +kernel
theorem dL_areClaims_220 : decode cL_areClaims 220 = .ok (.iload 11, 2) := by decide +kernel
theorem dL_areClaims_222 : decode cL_areClaims 222 = .ok (.iload 4, 2) := by decide +kernel
theorem dL_areClaims_224 : decode cL_areClaims 224 = .ok (.invokevirtual 45, 3) := by decide +kernel
theorem dL_areClaims_227 : decode cL_areClaims 227 = .ok (.istore 10, 2) := by decide +kernel
theorem dL_areClaims_229 : decode cL_areClaims 229 = .ok (.iload 8, 2) := by decide +kernel
theorem dL_areClaims_231 : decode cL_areClaims 231 = .ok (.iload 9, 2) := by decide +kernel
theorem dL_areClaims_233 : decode cL_areClaims 233 = .ok (.ifCond .lt 23, 3) := by decide +kernel
theorem dL_areClaims_236 : decode cL_areClaims 236 = .ok (.aload_n 0, 1) := by decide +kernel
theorem dL_areClaims_237 : decode cL_areClaims 237 = .ok (.iload 11, 2) := by decide +kernel
theorem dL_areClaims_239 : decode cL_areClaims 239 = .ok (.iconst 3, 1) := by decide +kernel
theorem dL_areClaims_240 : decode cL_areClaims 240 = .ok (.invokevirtual 62, 3) := by decide +kernel
theorem dL_areClaims_243 : decode cL_areClaims 243 = .ok (.iload 9, 2) := by decide +kernel
theorem dL_areClaims_245 : decode cL_areClaims 245 = .ok (.ishr, 1) := by decide +kernel
theorem dL_areClaims_246 : decode cL_areClaims 246 = .ok (.iconst 1, 1) := by decide +kernel
theorem dL_areClaims_247 : decode cL_areClaims 247 = .ok (.iand, 1) := by decide +kernel
theorem dL_areClaims_248 : decode cL_areClaims 248 = .ok (.iconst 1, 1) := by decide +kernel
theorem dL_areClaims_249 : decode cL_areClaims 249 = .ok (.if_icmp .ne 7, 3) := by decide +kernel
theorem dL_areClaims_252 : decode cL_areClaims 252 = .ok (.iconst 1, 1) := by decide +kernel
theorem dL_areClaims_253 : decode cL_areClaims 253 = .ok (.goto 4, 3) := by decide +kernel
theorem dL_areClaims_256 : decode cL_areClaims 256 = .ok (.iconst 0, 1) := by decide +kernel
theorem dL_areClaims_257 : decode cL_areClaims 257 = .ok (.iadd, 1) := by decide +kernel
theorem dL_areClaims_258 : decode cL_areClaims 258 = .ok (.istore 8, 2) := by decide +kernel
theorem dL_areClaims_260 : decode cL_areClaims 260 = .ok (.iinc 7 1, 3) := by decide +kernel
theorem dL_areClaims_263 : decode cL_areClaims 263 = .ok (.aload_n 0, 1) := by decide +kernel
theorem dL_areClaims_264 : decode cL_areClaims 264 = .ok (.iload 4, 2) := by decide +kernel
theorem dL_areClaims_266 : decode cL_areClaims 266 = .ok (.iload 7, 2) := by decide +kernel
theorem dL_areClaims_268 : decode cL_areClaims 268 = .ok (.invokevirtual 48, 3) := by decide +kernel
theorem dL_areClaims_271 : decode cL_areClaims 271 = .ok (.istore 11, 2) := by decide +kernel
theorem dL_areClaims_273 : decode cL_areClaims 273 = .ok (.goto (-107), 3) := by decide +kernel
theorem dL_areClaims_276 : decode cL_areClaims 276 = .ok (.iload_n 1, 1) := by decide +kernel
theorem dL_areClaims_277 : decode cL_areClaims 277 = .ok (.ifCond .eq 40, 3) := by decide +kernel
theorem dL_areClaims_280 : decode cL_areClaims 280 = .ok (.iload 9, 2) := by decide +kernel
theorem dL_areClaims_282 : decode cL_areClaims 282 = .ok (.ifCond .lt 31, 3) := by decide +kernel
theorem dL_areClaims_285 : decode cL_areClaims 285 = .ok (.iload 7, 2) := by decide +kernel
theorem dL_areClaims_287 : decode cL_areClaims 287 = .ok (.iconst 1, 1) := by decide +kernel
theorem dL_areClaims_288 : decode cL_areClaims 288 = .ok (.if_icmp .le 29, 3) := by decide +kernel
theorem dL_areClaims_291 : decode cL_areClaims 291 = .ok (.iload 8, 2) := by decide +kernel
theorem dL_areClaims_293 : decode cL_areClaims 293 = .ok (.iload 7, 2) := by decide +kernel
theorem dL_areClaims_295 : decode cL_areClaims 295 = .ok (.if_icmp .ge 22, 3) := by decide +kernel
theorem dL_areClaims_298 : decode cL_areClaims 298 = .ok (.aload_n 0, 1) := by decide +kernel
theorem dL_areClaims_299 : decode cL_areClaims 299 = .ok (.iload 4, 2) := by decide +kernel
theorem dL_areClaims_301 : decode cL_areClaims 301 = .ok (.iconst 1, 1) := by decide +kernel
theorem dL_areClaims_302 : decode cL_areClaims 302 = .ok (.invokevirtual 69, 3) := by decide +kernel
theorem dL_areClaims_305 : decode cL_areClaims 305 = .ok (.iload 9, 2) := by decide +kernel
theorem dL_areClaims_307 : decode cL_areClaims 307 = .ok (.ishr, 1) := by decide +kernel
theorem dL_areClaims_308 : decode cL_areClaims 308 = .ok (.iconst 1, 1) := by decide +kernel
theorem dL_areClaims_309 : decode cL_areClaims 309 = .ok (.iand, 1) := by decide +kernel
theorem dL_areClaims_310 : decode cL_areClaims 310 = .ok (.ifCond .ne 7, 3) := by decide +kernel
theorem dL_areClaims_313 : decode cL_areClaims 313 = .ok (.iconst 1, 1) := by decide +kernel
theorem dL_areClaims_314 : decode cL_areClaims 314 = .ok (.goto 4, 3) := by decide +kernel
theorem dL_areClaims_317 : decode cL_areClaims 317 = .ok (.iconst 0, 1) := by decide +kernel
theorem dL_areClaims_318 : decode cL_areClaims 318 = .ok (.istore_n 1, 1) := by decide +kernel
theorem dL_areClaims_319 : decode cL_areClaims 319 = .ok (.iinc 4 1, 3) := by decide +kernel
theorem dL_areClaims_322 : decode cL_areClaims 322 = .ok (.goto (-313), 3) := by decide +kernel
theorem dL_areClaims_325 : decode cL_areClaims 325 = .ok (.iconst 0, 1) := by decide +kernel
theorem dL_areClaims_326 : decode cL_areClaims 326 = .ok (.istore 4, 2) := by decide +kernel
theorem dL_areClaims_328 : decode cL_areClaims 328 = .ok (.aload_n 0, 1) := by decide +kernel
theorem dL_areClaims_329 : decode cL_areClaims 329 = .ok (.bipush 24, 2) := by decide +kernel
theorem dL_areClaims_331 : decode cL_areClaims 331 = .ok (.iload 4, 2) := by decide +kernel
theorem dL_areClaims_333 : decode cL_areClaims 333 = .ok (.iconst 0, 1) := by decide +kernel
theorem dL_areClaims_334 : decode cL_areClaims 334 = .ok (.iconst 0, 1) := by decide +kernel
theorem dL_areClaims_335 : decode cL_areClaims 335 = .ok (.invokestatic 128, 3) := by decide +kernel
theorem dL_areClaims_338 : decode cL_areClaims 338 = .ok (.ifCond .lt 40, 3) := by decide +kernel
theorem dL_areClaims_341 : decode cL_areClaims 341 = .ok (.iload_n 3, 1) := by decide +kernel
theorem dL_areClaims_342 : decode cL_areClaims 342 = .ok (.aload_n 0, 1) := by decide +kernel
theorem dL_areClaims_343 : decode cL_areClaims 343 = .ok (.iload 4, 2) := by decide +kernel
theorem dL_areClaims_345 : decode cL_areClaims 345 = .ok (.iconst 0, 1) := by decide +kernel
theorem dL_areClaims_346 : decode cL_areClaims 346 = .ok (.invokevirtual 62, 3) := by decide +kernel
theorem dL_areClaims_349 : decode cL_areClaims 349 = .ok (.iconst 3, 1) := by decide +kernel
theorem dL_areClaims_350 : decode cL_areClaims 350 = .ok (.if_icmp .eq 15, 3) := by decide +kernel
theorem dL_areClaims_353 : decode cL_areClaims 353 = .ok (.aload_n 0, 1) := by decide +kernel
theorem dL_areClaims_354 : decode cL_areClaims 354 = .ok (.iload 4, 2) := by decide +kernel
theorem dL_areClaims_356 : decode cL_areClaims 356 = .ok (.iconst 0, 1) := by decide +kernel
theorem dL_areClaims_357 : decode cL_areClaims 357 = .ok (.invokevirtual 62, 3) := by decide +kernel
theorem dL_areClaims_360 : decode cL_areClaims 360 = .ok (.bipush 6, 2) := by decide +kernel
theorem dL_areClaims_362 : decode cL_areClaims 362 = .ok (.if_icmp .ne 7, 3) := by decide +kernel
theorem dL_areClaims_365 : decode cL_areClaims 365 = .ok (.iconst 1, 1) := by decide +kernel
theorem dL_areClaims_366 : decode cL_areClaims 366 = .ok (.goto 4, 3) := by decide +kernel
theorem dL_areClaims_369 : decode cL_areClaims 369 = .ok (.iconst 0, 1) := by decide +kernel
theorem dL_areClaims_370 : decode cL_areClaims 370 = .ok (.iadd, 1) := by decide +kernel
theorem dL_areClaims_371 : decode cL_areClaims 371 = .ok (.istore_n 3, 1) := by decide +kernel
theorem dL_areClaims_372 : decode cL_areClaims 372 = .ok (.iinc 4 1, 3) := by decide +kernel
theorem dL_areClaims_375 : decode cL_areClaims 375 = .ok (.goto (-47), 3) := by decide +kernel
theorem dL_areClaims_378 : decode cL_areClaims 378 = .ok (.iload_n 1, 1) := by decide +kernel
theorem dL_areClaims_379 : decode cL_areClaims 379 = .ok (.ifCond .eq 12, 3) := by decide +kernel
theorem dL_areClaims_382 : decode cL_areClaims 382 = .ok (.iload_n 2, 1) := by decide +kernel
theorem dL_areClaims_383 : decode cL_areClaims 383 = .ok (.iload_n 3, 1) := by decide +kernel
theorem dL_areClaims_384 : decode cL_areClaims 384 = .ok (.if_icmp .ne 7, 3) := by decide +kernel
theorem dL_areClaims_387 : decode cL_areClaims 387 = .ok (.iconst 1, 1) := by decide +kernel
theorem dL_areClaims_388 : decode cL_areClaims 388 = .ok (.goto 4, 3) := by decide +kernel
theorem dL_areClaims_391 : decode cL_areClaims 391 = .ok (.iconst 0, 1) := by decide +kernel
theorem dL_areClaims_392 : decode cL_areClaims 392 = .ok (.ireturn, 1) := by decide +kernel
set_option maxRecDepth 20000 in
theorem ggL_isQuiet_L_low : GoodIn wsL_isQuiet wsL_low := goodIn_r _ [5, 6] (by decide +kernel) (by decide +kernel)
set_option maxRecDepth 20000 in
theorem gL_isQuiet_L_low : GoodIn wsL_isQuiet (va_wsS RL 125 yL_low wsL_low) := goodIn_app (goodIn_of _ (by decide +kernel)) ggL_isQuiet_L_low
theorem ggL_isQuiet_L_does_wsL_does_r1 : GoodIn wsL_isQuiet wsL_does_r1 := goodIn_r _ [10, 11, 12, 1, 13, 14, 4, 15, 16, 17, 18, 19, 20, 21, 22, 23, 24, 25, 26, 27, 28, 29, 30, 31] (by decide +kernel) (by decide +kernel)
theorem ggL_isQuiet_L_does_wsL_does_r2 : GoodIn wsL_isQuiet wsL_does_r2 := goodIn_r _ [32, 33, 34, 35, 36, 37, 38, 39, 40, 41, 42, 43, 44, 45, 46, 47, 48, 49, 50, 51, 52, 53, 54, 55] (by decide +kernel) (by decide +kernel)
theorem ggL_isQuiet_L_does_wsL_does_r3 : GoodIn wsL_isQuiet wsL_does_r3 := goodIn_r _ [56, 57, 58, 59, 60, 61, 62, 63, 64, 65, 66, 67, 68, 69, 70, 71, 72, 73, 74, 75, 76, 77, 78, 79] (by decide +kernel) (by decide +kernel)
theorem ggL_isQuiet_L_does_wsL_does_r4 : GoodIn wsL_isQuiet wsL_does_r4 := goodIn_r _ [80, 81, 82, 83, 84, 85, 86, 87, 88, 89, 90, 91, 92, 93, 94, 95, 96, 97, 98, 99, 100, 101, 102, 103] (by decide +kernel) (by decide +kernel)
theorem ggL_isQuiet_L_does_wsL_does_r5 : GoodIn wsL_isQuiet wsL_does_r5 := goodIn_r _ [104, 105, 106, 107, 108, 109, 110, 111, 112, 113, 114, 115, 116, 117, 118, 119, 120, 121, 122, 123, 124, 125, 126, 127] (by decide +kernel) (by decide +kernel)
theorem ggL_isQuiet_L_does_wsL_does_r6 : GoodIn wsL_isQuiet wsL_does_r6 := goodIn_r _ [128, 129, 130, 131, 132, 133, 134, 135, 136, 137, 138, 139, 140, 141, 142, 143, 144, 145, 146, 147, 148, 149, 150, 151] (by decide +kernel) (by decide +kernel)
theorem ggL_isQuiet_L_does_wsL_does_r7 : GoodIn wsL_isQuiet wsL_does_r7 := goodIn_r _ [152, 153, 154, 155, 156, 157, 158, 159, 160, 161, 162, 163, 164, 165, 166, 167, 168, 169, 170, 171, 172, 173, 174, 175] (by decide +kernel) (by decide +kernel)
theorem ggL_isQuiet_L_does_wsL_does_r8 : GoodIn wsL_isQuiet wsL_does_r8 := goodIn_r _ [176, 177, 178, 179, 180, 181, 182, 183, 184, 185, 186, 187, 188, 189, 190, 191, 192, 193, 194, 195, 196, 197, 198, 199] (by decide +kernel) (by decide +kernel)
theorem ggL_isQuiet_L_does_wsL_does_r9 : GoodIn wsL_isQuiet wsL_does_r9 := goodIn_r _ [200, 201, 202, 203, 204, 205, 206, 207, 208, 209, 210, 211, 212, 213, 214, 215, 216, 217, 218, 219, 220, 221, 222, 223] (by decide +kernel) (by decide +kernel)
theorem ggL_isQuiet_L_does_wsL_does_r10 : GoodIn wsL_isQuiet wsL_does_r10 := goodIn_r _ [224, 225, 226, 227, 228, 229, 230, 231, 232, 233, 234, 235, 236, 237, 238, 239, 240, 241, 242, 243, 244, 245, 246, 247] (by decide +kernel) (by decide +kernel)
theorem ggL_isQuiet_L_does_wsL_does_r11 : GoodIn wsL_isQuiet wsL_does_r11 := goodIn_r _ [248, 249, 250, 251, 252, 253, 254, 255, 256, 257, 258, 259, 260, 261, 262, 263, 264, 265, 266, 267, 268, 269, 270, 271] (by decide +kernel) (by decide +kernel)
theorem ggL_isQuiet_L_does_wsL_does_r12 : GoodIn wsL_isQuiet wsL_does_r12 := goodIn_r _ [272, 273, 274, 275, 276, 277, 278, 279, 280, 281, 282, 283, 284, 285, 286, 287, 288, 289, 290, 291, 292, 293, 294, 295] (by decide +kernel) (by decide +kernel)
theorem ggL_isQuiet_L_does_wsL_does_r13 : GoodIn wsL_isQuiet wsL_does_r13 := goodIn_r _ [296, 297, 298, 299, 300, 301, 302, 303, 304, 305, 306, 307, 308, 309, 310, 311, 312, 313, 314, 315, 316, 317, 318, 319] (by decide +kernel) (by decide +kernel)
theorem ggL_isQuiet_L_does_wsL_does_r14 : GoodIn wsL_isQuiet wsL_does_r14 := goodIn_r _ [320, 321, 322, 323, 324, 325, 326, 327, 328, 329] (by decide +kernel) (by decide +kernel)
theorem ggL_isQuiet_L_does_wsX20 : GoodIn wsL_isQuiet wsX20 := goodIn_r _ [333, 334, 335, 336, 337, 338, 339, 340, 341, 342, 343, 344, 345, 346, 347] (by decide +kernel) (by decide +kernel)
theorem ggL_isQuiet_L_does_wsX10 : GoodIn wsL_isQuiet wsX10 := goodIn_r _ [348, 349, 350, 351, 352, 353, 354, 355, 356, 357, 358, 359, 360, 361, 362] (by decide +kernel) (by decide +kernel)
theorem ggL_isQuiet_L_does_wsX00 : GoodIn wsL_isQuiet wsX00 := goodIn_r _ [363, 364, 365, 366, 367, 368, 369, 370, 371, 372] (by decide +kernel) (by decide +kernel)
set_option maxRecDepth 100000 in
theorem ggL_isQuiet_L_does : GoodIn wsL_isQuiet wsL_does := goodIn_ca (goodIn_ca (goodIn_ca (gi_cons (gi_one (List.mem_of_getElem? (i := 9) rfl) (by decide +kernel)) (goodIn_app (goodIn_app (goodIn_app (goodIn_app ggL_isQuiet_L_does_wsL_does_r1 (goodIn_app ggL_isQuiet_L_does_wsL_does_r2 (goodIn_app ggL_isQuiet_L_does_wsL_does_r3 (goodIn_app ggL_isQuiet_L_does_wsL_does_r4 (goodIn_app ggL_isQuiet_L_does_wsL_does_r5 (goodIn_app ggL_isQuiet_L_does_wsL_does_r6 (goodIn_app ggL_isQuiet_L_does_wsL_does_r7 (goodIn_app ggL_isQuiet_L_does_wsL_does_r8 (goodIn_app ggL_isQuiet_L_does_wsL_does_r9 (goodIn_app ggL_isQuiet_L_does_wsL_does_r10 (goodIn_app ggL_isQuiet_L_does_wsL_does_r11 (goodIn_app ggL_isQuiet_L_does_wsL_does_r12 (goodIn_app ggL_isQuiet_L_does_wsL_does_r13 ggL_isQuiet_L_does_wsL_does_r14))))))))))))) ggL_isQuiet_L_does_wsX20) ggL_isQuiet_L_does_wsX10) ggL_isQuiet_L_does_wsX00)) (goodIn_sub (fun _ h => List.mem_cons_of_mem _ (List.mem_append_left _ (List.mem_append_left _ (List.mem_append_right _ h)))) (by decide +kernel))) (goodIn_sub (fun _ h => List.mem_cons_of_mem _ (List.mem_append_left _ (List.mem_append_right _ h))) (by decide +kernel))) (goodIn_sub (fun _ h => List.mem_cons_of_mem _ (List.mem_append_right _ h)) (by decide +kernel))
set_option maxRecDepth 20000 in
theorem gL_isQuiet_L_does : GoodIn wsL_isQuiet (va_wsS RL 128 yL_does wsL_does) := goodIn_app (goodIn_of _ (by decide +kernel)) ggL_isQuiet_L_does
set_option maxRecDepth 20000 in
theorem ggL_isQuiet_X2_near : GoodIn wsL_isQuiet wsX2_near := goodIn_ca (goodIn_ca (goodIn_r _ [20, 21, 22, 23, 19, 24, 25, 26, 27, 28, 333, 334, 335, 336, 337, 338, 339, 340, 341, 342, 343, 344, 345, 346, 347] (by decide +kernel) (by decide +kernel)) (goodIn_sub (fun _ h => List.mem_cons_of_mem _ (List.mem_append_left _ (List.mem_append_left _ (List.mem_append_right _ h)))) (by decide +kernel))) (goodIn_sub (fun _ h => List.mem_cons_of_mem _ (List.mem_append_left _ (List.mem_append_right _ h))) (by decide +kernel))
set_option maxRecDepth 20000 in
theorem gL_isQuiet_X2_near : GoodIn wsL_isQuiet (wsV RL 85 RX2 yX2_near wsX2_near) := goodIn_app (goodIn_of _ (by decide +kernel)) ggL_isQuiet_X2_near
set_option maxRecDepth 20000 in
theorem ggL_isQuiet_L_count : GoodIn wsL_isQuiet wsL_count := goodIn_r _ [332] (by decide +kernel) (by decide +kernel)
set_option maxRecDepth 20000 in
theorem gL_isQuiet_L_count : GoodIn wsL_isQuiet (va_wsS RL 145 yL_count wsL_count) := goodIn_app (goodIn_of _ (by decide +kernel)) ggL_isQuiet_L_count
theorem dL_isQuiet_0 : decode cL_isQuiet 0 = .ok (.iload_n 1, 1) := by decide +kernel
theorem dL_isQuiet_1 : decode cL_isQuiet 1 = .ok (.bipush 8, 2) := by decide +kernel
theorem dL_isQuiet_3 : decode cL_isQuiet 3 = .ok (.invokestatic 125, 3) := by decide +kernel
theorem dL_isQuiet_6 : decode cL_isQuiet 6 = .ok (.istore_n 2, 1) := by decide +kernel
theorem dL_isQuiet_7 : decode cL_isQuiet 7 = .ok (.iload_n 1, 1) := by decide +kernel
theorem dL_isQuiet_8 : decode cL_isQuiet 8 = .ok (.iconst 3, 1) := by decide +kernel
theorem dL_isQuiet_9 : decode cL_isQuiet 9 = .ok (.ishr, 1) := by decide +kernel
theorem dL_isQuiet_10 : decode cL_isQuiet 10 = .ok (.bipush 10, 2) := by decide +kernel
theorem dL_isQuiet_12 : decode cL_isQuiet 12 = .ok (.invokestatic 125, 3) := by decide +kernel
theorem dL_isQuiet_15 : decode cL_isQuiet 15 = .ok (.istore_n 3, 1) := by decide +kernel
theorem dL_isQuiet_16 : decode cL_isQuiet 16 = .ok (.iload_n 1, 1) := by decide +kernel
theorem dL_isQuiet_17 : decode cL_isQuiet 17 = .ok (.iconst 4, 1) := by decide +kernel
theorem dL_isQuiet_18 : decode cL_isQuiet 18 = .ok (.ishr, 1) := by decide +kernel
theorem dL_isQuiet_19 : decode cL_isQuiet 19 = .ok (.bipush 24, 2) := by decide +kernel
theorem dL_isQuiet_21 : decode cL_isQuiet 21 = .ok (.invokestatic 125, 3) := by decide +kernel
theorem dL_isQuiet_24 : decode cL_isQuiet 24 = .ok (.istore 4, 2) := by decide +kernel
theorem dL_isQuiet_26 : decode cL_isQuiet 26 = .ok (.iload 4, 2) := by decide +kernel
theorem dL_isQuiet_28 : decode cL_isQuiet 28 = .ok (.iconst 1, 1) := by decide +kernel
theorem dL_isQuiet_29 : decode cL_isQuiet 29 = .ok (.iadd, 1) := by decide +kernel
theorem dL_isQuiet_30 : decode cL_isQuiet 30 = .ok (.iload_n 1, 1) := by decide +kernel
theorem dL_isQuiet_31 : decode cL_isQuiet 31 = .ok (.bipush 6, 2) := by decide +kernel
theorem dL_isQuiet_33 : decode cL_isQuiet 33 = .ok (.ishr, 1) := by decide +kernel
theorem dL_isQuiet_34 : decode cL_isQuiet 34 = .ok (.bipush 23, 2) := by decide +kernel
theorem dL_isQuiet_36 : decode cL_isQuiet 36 = .ok (.invokestatic 125, 3) := by decide +kernel
theorem dL_isQuiet_39 : decode cL_isQuiet 39 = .ok (.iadd, 1) := by decide +kernel
theorem dL_isQuiet_40 : decode cL_isQuiet 40 = .ok (.bipush 24, 2) := by decide +kernel
theorem dL_isQuiet_42 : decode cL_isQuiet 42 = .ok (.irem, 1) := by decide +kernel
theorem dL_isQuiet_43 : decode cL_isQuiet 43 = .ok (.istore 5, 2) := by decide +kernel
theorem dL_isQuiet_45 : decode cL_isQuiet 45 = .ok (.aload_n 0, 1) := by decide +kernel
theorem dL_isQuiet_46 : decode cL_isQuiet 46 = .ok (.bipush 19, 2) := by decide +kernel
theorem dL_isQuiet_48 : decode cL_isQuiet 48 = .ok (.iload_n 3, 1) := by decide +kernel
theorem dL_isQuiet_49 : decode cL_isQuiet 49 = .ok (.iload_n 2, 1) := by decide +kernel
theorem dL_isQuiet_50 : decode cL_isQuiet 50 = .ok (.iconst 0, 1) := by decide +kernel
theorem dL_isQuiet_51 : decode cL_isQuiet 51 = .ok (.invokestatic 128, 3) := by decide +kernel
theorem dL_isQuiet_54 : decode cL_isQuiet 54 = .ok (.istore 6, 2) := by decide +kernel
theorem dL_isQuiet_56 : decode cL_isQuiet 56 = .ok (.aload_n 0, 1) := by decide +kernel
theorem dL_isQuiet_57 : decode cL_isQuiet 57 = .ok (.bipush 26, 2) := by decide +kernel
theorem dL_isQuiet_59 : decode cL_isQuiet 59 = .ok (.iload_n 2, 1) := by decide +kernel
theorem dL_isQuiet_60 : decode cL_isQuiet 60 = .ok (.iconst 2, 1) := by decide +kernel
theorem dL_isQuiet_61 : decode cL_isQuiet 61 = .ok (.iconst 0, 1) := by decide +kernel
theorem dL_isQuiet_62 : decode cL_isQuiet 62 = .ok (.invokestatic 128, 3) := by decide +kernel
theorem dL_isQuiet_65 : decode cL_isQuiet 65 = .ok (.istore 7, 2) := by decide +kernel
theorem dL_isQuiet_67 : decode cL_isQuiet 67 = .ok (.iload 7, 2) := by decide +kernel
theorem dL_isQuiet_69 : decode cL_isQuiet 69 = .ok (.ifCond .ge 8, 3) := by decide +kernel
theorem dL_isQuiet_72 : decode cL_isQuiet 72 = .ok (.ldc 80, 2) := by decide +kernel
theorem dL_isQuiet_74 : decode cL_isQuiet 74 = .ok (.goto 13, 3) := by decide +kernel
theorem dL_isQuiet_77 : decode cL_isQuiet 77 = .ok (.aload_n 0, 1) := by decide +kernel
theorem dL_isQuiet_78 : decode cL_isQuiet 78 = .ok (.bipush 11, 2) := by decide +kernel
theorem dL_isQuiet_80 : decode cL_isQuiet 80 = .ok (.iload_n 2, 1) := by decide +kernel
theorem dL_isQuiet_81 : decode cL_isQuiet 81 = .ok (.iload 7, 2) := by decide +kernel
theorem dL_isQuiet_83 : decode cL_isQuiet 83 = .ok (.iconst 0, 1) := by decide +kernel
theorem dL_isQuiet_84 : decode cL_isQuiet 84 = .ok (.invokestatic 128, 3) := by decide +kernel
theorem dL_isQuiet_87 : decode cL_isQuiet 87 = .ok (.istore 8, 2) := by decide +kernel
theorem dL_isQuiet_89 : decode cL_isQuiet 89 = .ok (.aload_n 0, 1) := by decide +kernel
theorem dL_isQuiet_90 : decode cL_isQuiet 90 = .ok (.bipush 9, 2) := by decide +kernel
theorem dL_isQuiet_92 : decode cL_isQuiet 92 = .ok (.iload_n 3, 1) := by decide +kernel
theorem dL_isQuiet_93 : decode cL_isQuiet 93 = .ok (.iconst 1, 1) := by decide +kernel
theorem dL_isQuiet_94 : decode cL_isQuiet 94 = .ok (.iconst 0, 1) := by decide +kernel
theorem dL_isQuiet_95 : decode cL_isQuiet 95 = .ok (.invokestatic 128, 3) := by decide +kernel
theorem dL_isQuiet_98 : decode cL_isQuiet 98 = .ok (.iconst 1, 1) := by decide +kernel
theorem dL_isQuiet_99 : decode cL_isQuiet 99 = .ok (.if_icmp .ne 7, 3) := by decide +kernel
theorem dL_isQuiet_102 : decode cL_isQuiet 102 = .ok (.iconst 1, 1) := by decide +kernel
theorem dL_isQuiet_103 : decode cL_isQuiet 103 = .ok (.goto 4, 3) := by decide +kernel
theorem dL_isQuiet_106 : decode cL_isQuiet 106 = .ok (.iconst 0, 1) := by decide +kernel
theorem dL_isQuiet_107 : decode cL_isQuiet 107 = .ok (.istore 9, 2) := by decide +kernel
theorem dL_isQuiet_109 : decode cL_isQuiet 109 = .ok (.aload_n 0, 1) := by decide +kernel
theorem dL_isQuiet_110 : decode cL_isQuiet 110 = .ok (.bipush 9, 2) := by decide +kernel
theorem dL_isQuiet_112 : decode cL_isQuiet 112 = .ok (.iload_n 3, 1) := by decide +kernel
theorem dL_isQuiet_113 : decode cL_isQuiet 113 = .ok (.iload 9, 2) := by decide +kernel
theorem dL_isQuiet_115 : decode cL_isQuiet 115 = .ok (.ifCond .eq 7, 3) := by decide +kernel
theorem dL_isQuiet_118 : decode cL_isQuiet 118 = .ok (.iconst 1, 1) := by decide +kernel
theorem dL_isQuiet_119 : decode cL_isQuiet 119 = .ok (.goto 4, 3) := by decide +kernel
theorem dL_isQuiet_122 : decode cL_isQuiet 122 = .ok (.iconst 0, 1) := by decide +kernel
theorem dL_isQuiet_123 : decode cL_isQuiet 123 = .ok (.iconst 0, 1) := by decide +kernel
theorem dL_isQuiet_124 : decode cL_isQuiet 124 = .ok (.invokestatic 128, 3) := by decide +kernel
theorem dL_isQuiet_127 : decode cL_isQuiet 127 = .ok (.istore 10, 2) := by decide +kernel
theorem dL_isQuiet_129 : decode cL_isQuiet 129 = .ok (.aload_n 0, 1) := by decide +kernel
theorem dL_isQuiet_130 : decode cL_isQuiet 130 = .ok (.iload 4, 2) := by decide +kernel
theorem dL_isQuiet_132 : decode cL_isQuiet 132 = .ok (.iload 5, 2) := by decide +kernel
theorem dL_isQuiet_134 : decode cL_isQuiet 134 = .ok (.invokevirtual 85, 3) := by decide +kernel
theorem dL_isQuiet_137 : decode cL_isQuiet 137 = .ok (.istore 11, 2) := by decide +kernel
theorem dL_isQuiet_139 : decode cL_isQuiet 139 = .ok (.aload_n 0, 1) := by decide +kernel
theorem dL_isQuiet_140 : decode cL_isQuiet 140 = .ok (.iload 5, 2) := by decide +kernel
theorem dL_isQuiet_142 : decode cL_isQuiet 142 = .ok (.iload 4, 2) := by decide +kernel
theorem dL_isQuiet_144 : decode cL_isQuiet 144 = .ok (.invokevirtual 85, 3) := by decide +kernel
theorem dL_isQuiet_147 : decode cL_isQuiet 147 = .ok (.istore 12, 2) := by decide +kernel
theorem dL_isQuiet_149 : decode cL_isQuiet 149 = .ok (.iload 11, 2) := by decide +kernel
theorem dL_isQuiet_151 : decode cL_isQuiet 151 = .ok (.iload 12, 2) := by decide +kernel
theorem dL_isQuiet_153 : decode cL_isQuiet 153 = .ok (.if_icmp .eq 47, 3) := by decide +kernel
theorem dL_isQuiet_156 : decode cL_isQuiet 156 = .ok (.iload 8, 2) := by decide +kernel
theorem dL_isQuiet_158 : decode cL_isQuiet 158 = .ok (.ifCond .lt 13, 3) := by decide +kernel
theorem dL_isQuiet_161 : decode cL_isQuiet 161 = .ok (.iload 8, 2) := by decide +kernel
theorem dL_isQuiet_163 : decode cL_isQuiet 163 = .ok (.iload 7, 2) := by decide +kernel
theorem dL_isQuiet_165 : decode cL_isQuiet 165 = .ok (.invokestatic 145, 3) := by decide +kernel
theorem dL_isQuiet_168 : decode cL_isQuiet 168 = .ok (.if_icmp .ne 32, 3) := by decide +kernel
theorem dL_isQuiet_171 : decode cL_isQuiet 171 = .ok (.aload_n 0, 1) := by decide +kernel
theorem dL_isQuiet_172 : decode cL_isQuiet 172 = .ok (.bipush 19, 2) := by decide +kernel
theorem dL_isQuiet_174 : decode cL_isQuiet 174 = .ok (.iload_n 3, 1) := by decide +kernel
theorem dL_isQuiet_175 : decode cL_isQuiet 175 = .ok (.iload_n 2, 1) := by decide +kernel
theorem dL_isQuiet_176 : decode cL_isQuiet 176 = .ok (.iconst 0, 1) := by decide +kernel
theorem dL_isQuiet_177 : decode cL_isQuiet 177 = .ok (.invokestatic 128, 3) := by decide +kernel
theorem dL_isQuiet_180 : decode cL_isQuiet 180 = .ok (.iload 6, 2) := by decide +kernel
theorem dL_isQuiet_182 : decode cL_isQuiet 182 = .ok (.if_icmp .ne 18, 3) := by decide +kernel
theorem dL_isQuiet_185 : decode cL_isQuiet 185 = .ok (.iload 10, 2) := by decide +kernel
theorem dL_isQuiet_187 : decode cL_isQuiet 187 = .ok (.ifCond .lt 9, 3) := by decide +kernel
theorem dL_isQuiet_190 : decode cL_isQuiet 190 = .ok (.iload 10, 2) := by decide +kernel
theorem dL_isQuiet_192 : decode cL_isQuiet 192 = .ok (.iconst 1, 1) := by decide +kernel
theorem dL_isQuiet_193 : decode cL_isQuiet 193 = .ok (.if_icmp .ne 7, 3) := by decide +kernel
theorem dL_isQuiet_196 : decode cL_isQuiet 196 = .ok (.iconst 1, 1) := by decide +kernel
theorem dL_isQuiet_197 : decode cL_isQuiet 197 = .ok (.goto 4, 3) := by decide +kernel
theorem dL_isQuiet_200 : decode cL_isQuiet 200 = .ok (.iconst 0, 1) := by decide +kernel
theorem dL_isQuiet_201 : decode cL_isQuiet 201 = .ok (.ireturn, 1) := by decide +kernel
set_option maxRecDepth 20000 in
theorem ggL_law_X2_init : GoodIn wsL_law wsX2_init := goodIn_r _ [6, 7, 8, 9, 10, 11, 12, 13, 14, 15, 16, 17, 18, 19, 20, 21, 22, 23, 24, 25, 26, 27, 420, 421, 422, 423, 424, 425, 426, 427, 428, 429, 430, 431, 432, 433, 434] (by decide +kernel) (by decide +kernel)
set_option maxRecDepth 20000 in
theorem gL_law_X2_init : GoodIn wsL_law (wsX2_init) := ggL_law_X2_init
set_option maxRecDepth 20000 in
theorem ggL_law_L_cell : GoodIn wsL_law wsL_cell := goodIn_r _ [31] (by decide +kernel) (by decide +kernel)
set_option maxRecDepth 20000 in
theorem gL_law_L_cell : GoodIn wsL_law (va_wsS RL 149 yL_cell wsL_cell) := goodIn_app (goodIn_of _ (by decide +kernel)) ggL_law_L_cell
theorem ggL_law_L_act_wsL_act_r1 : GoodIn wsL_law wsL_act_r1 := goodIn_r _ [35, 36, 30, 37, 38, 39, 40, 41, 42, 43, 44, 3, 45, 46, 47, 48, 49, 50, 2, 51, 11, 52, 53, 54] (by decide +kernel) (by decide +kernel)
theorem ggL_law_L_act_wsL_act_r2 : GoodIn wsL_law wsL_act_r2 := goodIn_r _ [55, 56, 57, 58, 59, 60, 61, 62, 12, 63, 64, 65, 66, 14, 15, 67, 68, 69, 70, 71, 72, 73, 74, 75] (by decide +kernel) (by decide +kernel)
theorem ggL_law_L_act_wsL_act_r3 : GoodIn wsL_law wsL_act_r3 := goodIn_r _ [13, 76, 77, 78, 79, 80, 81, 82, 83, 84, 85, 86, 87, 88, 89, 24, 90, 91, 92, 93, 94, 95, 96, 97] (by decide +kernel) (by decide +kernel)
theorem ggL_law_L_act_wsL_act_r4 : GoodIn wsL_law wsL_act_r4 := goodIn_r _ [98, 99, 100, 17, 101, 102, 103, 104, 105, 106, 107, 108, 109, 110, 111, 112, 113, 114, 115, 116, 117, 23, 118, 119] (by decide +kernel) (by decide +kernel)
theorem ggL_law_L_act_wsL_act_r5 : GoodIn wsL_law wsL_act_r5 := goodIn_r _ [120, 121, 122, 123, 124, 125, 126, 127, 128, 129, 130, 131, 132, 133, 134, 135, 136, 137, 138, 139, 140, 141, 142, 143] (by decide +kernel) (by decide +kernel)
theorem ggL_law_L_act_wsL_act_r6 : GoodIn wsL_law wsL_act_r6 := goodIn_r _ [144, 145, 146, 147, 148, 149, 150, 19, 151, 152, 153, 154, 155, 156, 157, 158, 159, 160, 161, 162, 163, 164, 165, 166] (by decide +kernel) (by decide +kernel)
theorem ggL_law_L_act_wsL_act_r7 : GoodIn wsL_law wsL_act_r7 := goodIn_r _ [167, 168, 169, 170, 171, 172, 173, 174, 175, 176, 177, 25, 26, 178, 179, 180, 181, 182, 183, 184, 185, 186, 187, 188] (by decide +kernel) (by decide +kernel)
theorem ggL_law_L_act_wsL_act_r8 : GoodIn wsL_law wsL_act_r8 := goodIn_r _ [189, 190, 191, 192, 193, 194, 195, 196, 197, 198, 199, 200, 201, 202, 203, 204, 205, 206, 207, 208, 209, 210, 211, 212] (by decide +kernel) (by decide +kernel)
theorem ggL_law_L_act_wsL_act_r9 : GoodIn wsL_law wsL_act_r9 := goodIn_r _ [213, 214, 215, 216, 217, 218, 219, 220, 221, 222, 223, 224, 225, 226, 227, 228, 229, 230, 231, 232, 233, 234, 235, 236] (by decide +kernel) (by decide +kernel)
theorem ggL_law_L_act_wsL_act_r10 : GoodIn wsL_law wsL_act_r10 := goodIn_r _ [237, 238, 239, 240, 241, 242, 243, 244, 245, 246, 247, 248, 249, 250, 251, 252, 253, 254, 255, 256, 27, 257, 258, 259] (by decide +kernel) (by decide +kernel)
theorem ggL_law_L_act_wsL_act_r11 : GoodIn wsL_law wsL_act_r11 := goodIn_r _ [260, 261, 262, 263, 264, 265, 266, 267, 268, 269, 270, 271, 272, 273, 274, 275, 276, 277, 278, 279, 280, 281, 282, 283] (by decide +kernel) (by decide +kernel)
theorem ggL_law_L_act_wsL_act_r12 : GoodIn wsL_law wsL_act_r12 := goodIn_r _ [284, 285, 286, 287, 288, 289, 290, 291, 292, 293, 294, 295, 296, 297, 298, 20, 299, 300, 301, 302, 303, 304, 305, 306] (by decide +kernel) (by decide +kernel)
theorem ggL_law_L_act_wsL_act_r13 : GoodIn wsL_law wsL_act_r13 := goodIn_r _ [307, 308, 309, 310, 311, 312, 313, 314, 315, 316, 317, 318, 319, 320, 321, 322, 323, 324, 325, 326, 327, 328, 329, 330] (by decide +kernel) (by decide +kernel)
theorem ggL_law_L_act_wsL_act_r14 : GoodIn wsL_law wsL_act_r14 := goodIn_r _ [331, 332, 333, 334, 335, 336, 337, 338, 339, 340, 341, 342, 343, 344, 345, 346, 347, 348, 349, 350, 351, 352, 353, 354] (by decide +kernel) (by decide +kernel)
theorem ggL_law_L_act_wsL_act_r15 : GoodIn wsL_law wsL_act_r15 := goodIn_r _ [355, 356, 357, 21, 16, 358, 359, 360, 361, 362, 363, 364, 365, 366, 367, 368, 8, 9, 10, 369, 370, 371, 372, 373] (by decide +kernel) (by decide +kernel)
theorem ggL_law_L_act_wsL_act_r16 : GoodIn wsL_law wsL_act_r16 := goodIn_r _ [374, 375, 376, 377, 378, 379, 380, 381, 382, 383, 384, 385, 386, 387, 388, 389, 22, 18, 390, 391, 392, 393, 394, 395] (by decide +kernel) (by decide +kernel)
theorem ggL_law_L_act_wsL_act_r17 : GoodIn wsL_law wsL_act_r17 := goodIn_r _ [396, 397, 398, 399, 400] (by decide +kernel) (by decide +kernel)
theorem ggL_law_L_act_wsX20 : GoodIn wsL_law wsX20 := goodIn_r _ [420, 421, 422, 423, 424, 425, 426, 427, 428, 429, 430, 431, 432, 433, 434] (by decide +kernel) (by decide +kernel)
theorem ggL_law_L_act_wsX10 : GoodIn wsL_law wsX10 := goodIn_r _ [435, 436, 437, 438, 439, 440, 441, 442, 443, 444, 445, 446, 447, 448, 449] (by decide +kernel) (by decide +kernel)
theorem ggL_law_L_act_wsX00 : GoodIn wsL_law wsX00 := goodIn_r _ [450, 451, 452, 453, 454, 455, 456, 457, 458, 459] (by decide +kernel) (by decide +kernel)
set_option maxRecDepth 100000 in
theorem ggL_law_L_act : GoodIn wsL_law wsL_act := goodIn_ca (goodIn_ca (goodIn_ca (gi_cons (gi_one (List.mem_of_getElem? (i := 34) rfl) (by decide +kernel)) (goodIn_app (goodIn_app (goodIn_app (goodIn_app ggL_law_L_act_wsL_act_r1 (goodIn_app ggL_law_L_act_wsL_act_r2 (goodIn_app ggL_law_L_act_wsL_act_r3 (goodIn_app ggL_law_L_act_wsL_act_r4 (goodIn_app ggL_law_L_act_wsL_act_r5 (goodIn_app ggL_law_L_act_wsL_act_r6 (goodIn_app ggL_law_L_act_wsL_act_r7 (goodIn_app ggL_law_L_act_wsL_act_r8 (goodIn_app ggL_law_L_act_wsL_act_r9 (goodIn_app ggL_law_L_act_wsL_act_r10 (goodIn_app ggL_law_L_act_wsL_act_r11 (goodIn_app ggL_law_L_act_wsL_act_r12 (goodIn_app ggL_law_L_act_wsL_act_r13 (goodIn_app ggL_law_L_act_wsL_act_r14 (goodIn_app ggL_law_L_act_wsL_act_r15 (goodIn_app ggL_law_L_act_wsL_act_r16 ggL_law_L_act_wsL_act_r17)))))))))))))))) ggL_law_L_act_wsX20) ggL_law_L_act_wsX10) ggL_law_L_act_wsX00)) (goodIn_sub (fun _ h => List.mem_append_left _ (List.mem_append_left _ (List.mem_append_right _ h))) (by decide +kernel))) (goodIn_sub (fun _ h => List.mem_append_left _ (List.mem_append_right _ h)) (by decide +kernel))) (goodIn_sub (fun _ h => List.mem_append_right _ h) (by decide +kernel))
set_option maxRecDepth 20000 in
theorem gL_law_L_act : GoodIn wsL_law (va_wsS RL 153 yL_act wsL_act) := goodIn_app (goodIn_of _ (by decide +kernel)) ggL_law_L_act
theorem ggL_law_L_areAlike_wsL_areAlike_r1 : GoodIn wsL_law wsL_areAlike_r1 := goodIn_r _ [404, 405, 406, 2, 407, 23, 39, 40, 30, 41, 42, 43, 44, 3, 45, 46, 47, 48, 49, 50, 51, 11, 52, 53] (by decide +kernel) (by decide +kernel)
theorem ggL_law_L_areAlike_wsL_areAlike_r2 : GoodIn wsL_law wsL_areAlike_r2 := goodIn_r _ [54, 55, 56, 57, 58, 59, 60, 61, 62, 12, 63, 64, 65, 66, 14, 15, 67, 68, 69, 70, 71, 72, 73, 74] (by decide +kernel) (by decide +kernel)
theorem ggL_law_L_areAlike_wsL_areAlike_r3 : GoodIn wsL_law wsL_areAlike_r3 := goodIn_r _ [75, 13, 76, 77, 78, 79, 80, 81, 82, 83, 84, 85, 86, 87, 88, 89, 24, 90, 91, 92, 93, 94, 95, 96] (by decide +kernel) (by decide +kernel)
theorem ggL_law_L_areAlike_wsL_areAlike_r4 : GoodIn wsL_law wsL_areAlike_r4 := goodIn_r _ [97, 98, 99, 100, 17, 101, 102, 103, 104, 105, 106, 107, 108, 109, 110, 111, 112, 113, 114, 115, 116, 117, 118, 119] (by decide +kernel) (by decide +kernel)
theorem ggL_law_L_areAlike_wsL_areAlike_r5 : GoodIn wsL_law wsL_areAlike_r5 := goodIn_r _ [120, 121, 122, 123, 124, 125, 126, 127, 128, 129, 130, 131, 132, 133, 134, 135, 136, 137, 138, 139, 140, 141, 142, 143] (by decide +kernel) (by decide +kernel)
theorem ggL_law_L_areAlike_wsL_areAlike_r6 : GoodIn wsL_law wsL_areAlike_r6 := goodIn_r _ [144, 145, 146, 147, 148, 149, 150, 19, 151, 152, 153, 154, 155, 156, 157, 158, 159, 160, 161, 162, 163, 164, 165, 166] (by decide +kernel) (by decide +kernel)
theorem ggL_law_L_areAlike_wsL_areAlike_r7 : GoodIn wsL_law wsL_areAlike_r7 := goodIn_r _ [167, 168, 169, 170, 171, 172, 173, 174, 175, 176, 177, 25, 26, 178, 179, 180, 181, 182, 183, 184, 185, 186, 187, 188] (by decide +kernel) (by decide +kernel)
theorem ggL_law_L_areAlike_wsL_areAlike_r8 : GoodIn wsL_law wsL_areAlike_r8 := goodIn_r _ [189, 190, 191, 192, 193, 194, 195, 196, 197, 198, 199, 200, 201, 202, 203, 204, 205, 206, 207, 208, 209, 210, 211, 212] (by decide +kernel) (by decide +kernel)
theorem ggL_law_L_areAlike_wsL_areAlike_r9 : GoodIn wsL_law wsL_areAlike_r9 := goodIn_r _ [213, 214, 215, 216, 217, 218, 219, 220, 221, 222, 223, 224, 225, 226, 227, 228, 229, 230, 231, 232, 233, 234, 235, 236] (by decide +kernel) (by decide +kernel)
theorem ggL_law_L_areAlike_wsL_areAlike_r10 : GoodIn wsL_law wsL_areAlike_r10 := goodIn_r _ [237, 238, 239, 240, 241, 242, 243, 244, 245, 246, 247, 248, 249, 250, 251, 252, 253, 254, 255, 256, 27, 257, 258, 259] (by decide +kernel) (by decide +kernel)
theorem ggL_law_L_areAlike_wsL_areAlike_r11 : GoodIn wsL_law wsL_areAlike_r11 := goodIn_r _ [260, 261, 262, 263, 264, 265, 266, 267, 268, 269, 270, 271, 272, 273, 274, 275, 276, 277, 278, 279, 280, 281, 282, 283] (by decide +kernel) (by decide +kernel)
theorem ggL_law_L_areAlike_wsL_areAlike_r12 : GoodIn wsL_law wsL_areAlike_r12 := goodIn_r _ [284, 285, 286, 287, 288, 289, 290, 291, 292, 293, 294, 295, 296, 297, 298, 20, 299, 300, 301, 302, 303, 304, 305, 306] (by decide +kernel) (by decide +kernel)
theorem ggL_law_L_areAlike_wsL_areAlike_r13 : GoodIn wsL_law wsL_areAlike_r13 := goodIn_r _ [307, 308, 309, 310, 311, 312, 313, 314, 315, 316, 317, 318, 319, 320, 321, 322, 323, 324, 325, 326, 327, 328, 329, 330] (by decide +kernel) (by decide +kernel)
theorem ggL_law_L_areAlike_wsL_areAlike_r14 : GoodIn wsL_law wsL_areAlike_r14 := goodIn_r _ [331, 332, 333, 334, 335, 336, 337, 338, 339, 340, 341, 342, 343, 344, 345, 346, 347] (by decide +kernel) (by decide +kernel)
theorem ggL_law_L_areAlike_wsX20 : GoodIn wsL_law wsX20 := goodIn_r _ [420, 421, 422, 423, 424, 425, 426, 427, 428, 429, 430, 431, 432, 433, 434] (by decide +kernel) (by decide +kernel)
theorem ggL_law_L_areAlike_wsX10 : GoodIn wsL_law wsX10 := goodIn_r _ [435, 436, 437, 438, 439, 440, 441, 442, 443, 444, 445, 446, 447, 448, 449] (by decide +kernel) (by decide +kernel)
theorem ggL_law_L_areAlike_wsX00 : GoodIn wsL_law wsX00 := goodIn_r _ [450, 451, 452, 453, 454, 455, 456, 457, 458, 459] (by decide +kernel) (by decide +kernel)
set_option maxRecDepth 100000 in
theorem ggL_law_L_areAlike : GoodIn wsL_law wsL_areAlike := goodIn_ca (goodIn_ca (goodIn_ca (gi_cons (gi_one (List.mem_of_getElem? (i := 403) rfl) (by decide +kernel)) (goodIn_app (goodIn_app (goodIn_app (goodIn_app ggL_law_L_areAlike_wsL_areAlike_r1 (goodIn_app ggL_law_L_areAlike_wsL_areAlike_r2 (goodIn_app ggL_law_L_areAlike_wsL_areAlike_r3 (goodIn_app ggL_law_L_areAlike_wsL_areAlike_r4 (goodIn_app ggL_law_L_areAlike_wsL_areAlike_r5 (goodIn_app ggL_law_L_areAlike_wsL_areAlike_r6 (goodIn_app ggL_law_L_areAlike_wsL_areAlike_r7 (goodIn_app ggL_law_L_areAlike_wsL_areAlike_r8 (goodIn_app ggL_law_L_areAlike_wsL_areAlike_r9 (goodIn_app ggL_law_L_areAlike_wsL_areAlike_r10 (goodIn_app ggL_law_L_areAlike_wsL_areAlike_r11 (goodIn_app ggL_law_L_areAlike_wsL_areAlike_r12 (goodIn_app ggL_law_L_areAlike_wsL_areAlike_r13 ggL_law_L_areAlike_wsL_areAlike_r14))))))))))))) ggL_law_L_areAlike_wsX20) ggL_law_L_areAlike_wsX10) ggL_law_L_areAlike_wsX00)) (goodIn_sub (fun _ h => List.mem_append_left _ (List.mem_append_left _ (List.mem_append_right _ h))) (by decide +kernel))) (goodIn_sub (fun _ h => List.mem_append_left _ (List.mem_append_right _ h)) (by decide +kernel))) (goodIn_sub (fun _ h => List.mem_append_right _ h) (by decide +kernel))
set_option maxRecDepth 20000 in
theorem gL_law_L_areAlike : GoodIn wsL_law (va_wsS RL 157 yL_areAlike wsL_areAlike) := goodIn_app (goodIn_of _ (by decide +kernel)) ggL_law_L_areAlike
theorem ggL_law_L_areFinds_wsL_areFinds_r1 : GoodIn wsL_law wsL_areFinds_r1 := goodIn_r _ [3, 344, 345, 346, 2, 347, 17, 95, 109, 76, 77, 78, 55, 56, 67, 68, 69, 39, 40, 30, 41, 42, 43, 44] (by decide +kernel) (by decide +kernel)
theorem ggL_law_L_areFinds_wsL_areFinds_r2 : GoodIn wsL_law wsL_areFinds_r2 := goodIn_r _ [45, 46, 47, 48, 49, 50, 51, 11, 52, 53, 54, 57, 58, 59, 60, 61, 62, 12, 63, 64, 65, 66, 14, 15] (by decide +kernel) (by decide +kernel)
theorem ggL_law_L_areFinds_wsL_areFinds_r3 : GoodIn wsL_law wsL_areFinds_r3 := goodIn_r _ [70, 71, 72, 73, 74, 75, 13, 79, 80, 81, 82, 83, 84, 85, 86, 87, 88, 89, 24, 90, 91, 92, 93, 94] (by decide +kernel) (by decide +kernel)
theorem ggL_law_L_areFinds_wsL_areFinds_r4 : GoodIn wsL_law wsL_areFinds_r4 := goodIn_r _ [96, 97, 98, 99, 100, 101, 102, 103, 104, 105, 106, 107, 108, 110, 111, 112, 113, 114, 115, 116, 117, 23, 118, 119] (by decide +kernel) (by decide +kernel)
theorem ggL_law_L_areFinds_wsL_areFinds_r5 : GoodIn wsL_law wsL_areFinds_r5 := goodIn_r _ [120, 121, 122, 123, 124, 125, 126, 127, 128, 129, 130, 131, 132, 133, 134, 135, 136, 137, 138, 139, 140, 141, 142, 143] (by decide +kernel) (by decide +kernel)
theorem ggL_law_L_areFinds_wsL_areFinds_r6 : GoodIn wsL_law wsL_areFinds_r6 := goodIn_r _ [144, 145, 146, 147, 148, 149, 150, 19, 151, 152, 153, 154, 155, 156, 157, 158, 159, 160, 161, 162, 163, 164, 165, 166] (by decide +kernel) (by decide +kernel)
theorem ggL_law_L_areFinds_wsL_areFinds_r7 : GoodIn wsL_law wsL_areFinds_r7 := goodIn_r _ [167, 168, 169, 170, 171, 172, 173, 174, 175, 176, 177, 25, 26, 178, 179, 180, 181, 182, 183, 184, 185, 186, 187, 188] (by decide +kernel) (by decide +kernel)
theorem ggL_law_L_areFinds_wsL_areFinds_r8 : GoodIn wsL_law wsL_areFinds_r8 := goodIn_r _ [189, 190, 191, 192, 193, 194, 195, 196, 197, 198, 199, 200, 201, 202, 203, 204, 205, 206, 207, 208, 209, 210, 211, 212] (by decide +kernel) (by decide +kernel)
theorem ggL_law_L_areFinds_wsL_areFinds_r9 : GoodIn wsL_law wsL_areFinds_r9 := goodIn_r _ [213, 214, 215, 216, 217, 218, 219, 220, 221, 222, 223, 224, 225, 226, 227, 228, 229, 230, 231, 232, 233, 234, 235, 236] (by decide +kernel) (by decide +kernel)
theorem ggL_law_L_areFinds_wsL_areFinds_r10 : GoodIn wsL_law wsL_areFinds_r10 := goodIn_r _ [237, 238, 239, 240, 241, 242, 243, 244, 245, 246, 247, 248, 249, 250, 251, 252, 253, 254, 255, 256, 27, 257, 258, 259] (by decide +kernel) (by decide +kernel)
theorem ggL_law_L_areFinds_wsL_areFinds_r11 : GoodIn wsL_law wsL_areFinds_r11 := goodIn_r _ [260, 261, 262, 263, 264, 265, 266, 267, 268, 269, 270, 271, 272, 273, 274, 275, 276, 277, 278, 279, 280, 281, 282, 283] (by decide +kernel) (by decide +kernel)
theorem ggL_law_L_areFinds_wsL_areFinds_r12 : GoodIn wsL_law wsL_areFinds_r12 := goodIn_r _ [284, 285, 286, 287, 288, 289, 290, 291, 292, 293, 294, 295, 296, 297, 298, 20, 299, 300, 301, 302, 303, 304, 305, 306] (by decide +kernel) (by decide +kernel)
theorem ggL_law_L_areFinds_wsL_areFinds_r13 : GoodIn wsL_law wsL_areFinds_r13 := goodIn_r _ [307, 308, 309, 310, 311, 312, 313, 314, 315, 316, 317, 318, 319, 320, 321, 322, 323, 324, 325, 326, 327, 328, 329, 330] (by decide +kernel) (by decide +kernel)
theorem ggL_law_L_areFinds_wsL_areFinds_r14 : GoodIn wsL_law wsL_areFinds_r14 := goodIn_r _ [331, 332, 333, 334, 335, 336, 337, 338, 339, 340, 341, 342, 343, 404, 405, 406, 407] (by decide +kernel) (by decide +kernel)
theorem ggL_law_L_areFinds_wsX20 : GoodIn wsL_law wsX20 := goodIn_r _ [420, 421, 422, 423, 424, 425, 426, 427, 428, 429, 430, 431, 432, 433, 434] (by decide +kernel) (by decide +kernel)
theorem ggL_law_L_areFinds_wsX10 : GoodIn wsL_law wsX10 := goodIn_r _ [435, 436, 437, 438, 439, 440, 441, 442, 443, 444, 445, 446, 447, 448, 449] (by decide +kernel) (by decide +kernel)
theorem ggL_law_L_areFinds_wsX00 : GoodIn wsL_law wsX00 := goodIn_r _ [450, 451, 452, 453, 454, 455, 456, 457, 458, 459] (by decide +kernel) (by decide +kernel)
set_option maxRecDepth 100000 in
theorem ggL_law_L_areFinds : GoodIn wsL_law wsL_areFinds := goodIn_ca (goodIn_ca (goodIn_ca (gi_cons (gi_one (List.mem_of_getElem? (i := 410) rfl) (by decide +kernel)) (goodIn_app (goodIn_app (goodIn_app (goodIn_app ggL_law_L_areFinds_wsL_areFinds_r1 (goodIn_app ggL_law_L_areFinds_wsL_areFinds_r2 (goodIn_app ggL_law_L_areFinds_wsL_areFinds_r3 (goodIn_app ggL_law_L_areFinds_wsL_areFinds_r4 (goodIn_app ggL_law_L_areFinds_wsL_areFinds_r5 (goodIn_app ggL_law_L_areFinds_wsL_areFinds_r6 (goodIn_app ggL_law_L_areFinds_wsL_areFinds_r7 (goodIn_app ggL_law_L_areFinds_wsL_areFinds_r8 (goodIn_app ggL_law_L_areFinds_wsL_areFinds_r9 (goodIn_app ggL_law_L_areFinds_wsL_areFinds_r10 (goodIn_app ggL_law_L_areFinds_wsL_areFinds_r11 (goodIn_app ggL_law_L_areFinds_wsL_areFinds_r12 (goodIn_app ggL_law_L_areFinds_wsL_areFinds_r13 ggL_law_L_areFinds_wsL_areFinds_r14))))))))))))) ggL_law_L_areFinds_wsX20) ggL_law_L_areFinds_wsX10) ggL_law_L_areFinds_wsX00)) (goodIn_sub (fun _ h => List.mem_append_left _ (List.mem_append_left _ (List.mem_append_right _ h))) (by decide +kernel))) (goodIn_sub (fun _ h => List.mem_append_left _ (List.mem_append_right _ h)) (by decide +kernel))) (goodIn_sub (fun _ h => List.mem_append_right _ h) (by decide +kernel))
set_option maxRecDepth 20000 in
theorem gL_law_L_areFinds : GoodIn wsL_law (va_wsS RL 161 yL_areFinds wsL_areFinds) := goodIn_app (goodIn_of _ (by decide +kernel)) ggL_law_L_areFinds
theorem ggL_law_L_areClaims_wsL_areClaims_r1 : GoodIn wsL_law wsL_areClaims_r1 := goodIn_r _ [39, 40, 30, 41, 42, 43, 44, 3, 45, 46, 47, 48, 49, 50, 2, 51, 11, 52, 53, 54, 55, 56, 57, 58] (by decide +kernel) (by decide +kernel)
theorem ggL_law_L_areClaims_wsL_areClaims_r2 : GoodIn wsL_law wsL_areClaims_r2 := goodIn_r _ [59, 60, 61, 62, 12, 63, 64, 65, 66, 14, 15, 67, 68, 69, 70, 71, 72, 73, 74, 75, 13, 76, 77, 78] (by decide +kernel) (by decide +kernel)
theorem ggL_law_L_areClaims_wsL_areClaims_r3 : GoodIn wsL_law wsL_areClaims_r3 := goodIn_r _ [79, 80, 81, 82, 83, 84, 85, 86, 87, 88, 89, 24, 90, 91, 92, 93, 94, 95, 96, 97, 98, 99, 100, 17] (by decide +kernel) (by decide +kernel)
theorem ggL_law_L_areClaims_wsL_areClaims_r4 : GoodIn wsL_law wsL_areClaims_r4 := goodIn_r _ [101, 102, 103, 104, 105, 106, 107, 108, 109, 110, 111, 112, 113, 114, 115, 116, 117, 23, 118, 119, 120, 121, 122, 123] (by decide +kernel) (by decide +kernel)
theorem ggL_law_L_areClaims_wsL_areClaims_r5 : GoodIn wsL_law wsL_areClaims_r5 := goodIn_r _ [124, 125, 126, 127, 128, 129, 130, 131, 132, 133, 134, 135, 136, 137, 138, 139, 140, 141, 142, 143, 144, 145, 146, 147] (by decide +kernel) (by decide +kernel)
theorem ggL_law_L_areClaims_wsL_areClaims_r6 : GoodIn wsL_law wsL_areClaims_r6 := goodIn_r _ [148, 149, 150, 19, 151, 152, 153, 154, 155, 156, 157, 158, 159, 160, 161, 162, 163, 164, 165, 166, 167, 168, 169, 170] (by decide +kernel) (by decide +kernel)
theorem ggL_law_L_areClaims_wsL_areClaims_r7 : GoodIn wsL_law wsL_areClaims_r7 := goodIn_r _ [171, 172, 173, 174, 175, 176, 177, 25, 26, 178, 179, 180, 181, 182, 183, 184, 185, 186, 187, 188, 189, 190, 191, 192] (by decide +kernel) (by decide +kernel)
theorem ggL_law_L_areClaims_wsL_areClaims_r8 : GoodIn wsL_law wsL_areClaims_r8 := goodIn_r _ [193, 194, 195, 196, 197, 198, 199, 200, 201, 202, 203, 204, 205, 206, 207, 208, 209, 210, 211, 212, 213, 214, 215, 216] (by decide +kernel) (by decide +kernel)
theorem ggL_law_L_areClaims_wsL_areClaims_r9 : GoodIn wsL_law wsL_areClaims_r9 := goodIn_r _ [217, 218, 219, 220, 221, 222, 223, 224, 225, 226, 227, 228, 229, 230, 231, 232, 233, 234, 235, 236, 237, 238, 239, 240] (by decide +kernel) (by decide +kernel)
theorem ggL_law_L_areClaims_wsL_areClaims_r10 : GoodIn wsL_law wsL_areClaims_r10 := goodIn_r _ [241, 242, 243, 244, 245, 246, 247, 248, 249, 250, 251, 252, 253, 254, 255, 256, 27, 257, 258, 259, 260, 261, 262, 263] (by decide +kernel) (by decide +kernel)
theorem ggL_law_L_areClaims_wsL_areClaims_r11 : GoodIn wsL_law wsL_areClaims_r11 := goodIn_r _ [264, 265, 266, 267, 268, 269, 270, 271, 272, 273, 274, 275, 276, 277, 278, 279, 280, 281, 282, 283, 284, 285, 286, 287] (by decide +kernel) (by decide +kernel)
theorem ggL_law_L_areClaims_wsL_areClaims_r12 : GoodIn wsL_law wsL_areClaims_r12 := goodIn_r _ [288, 289, 290, 291, 292, 293, 294, 295, 296, 297, 298, 20, 299, 300, 301, 302, 303, 304, 305, 306, 307, 308, 309, 310] (by decide +kernel) (by decide +kernel)
theorem ggL_law_L_areClaims_wsL_areClaims_r13 : GoodIn wsL_law wsL_areClaims_r13 := goodIn_r _ [311, 312, 313, 314, 315, 316, 317, 318, 319, 320, 321, 322, 323, 324, 325, 326, 327, 328, 329, 330, 331, 332, 333, 334] (by decide +kernel) (by decide +kernel)
theorem ggL_law_L_areClaims_wsL_areClaims_r14 : GoodIn wsL_law wsL_areClaims_r14 := goodIn_r _ [335, 336, 337, 338, 339, 340, 341, 342, 343, 344, 345, 346, 347] (by decide +kernel) (by decide +kernel)
theorem ggL_law_L_areClaims_wsX20 : GoodIn wsL_law wsX20 := goodIn_r _ [420, 421, 422, 423, 424, 425, 426, 427, 428, 429, 430, 431, 432, 433, 434] (by decide +kernel) (by decide +kernel)
theorem ggL_law_L_areClaims_wsX10 : GoodIn wsL_law wsX10 := goodIn_r _ [435, 436, 437, 438, 439, 440, 441, 442, 443, 444, 445, 446, 447, 448, 449] (by decide +kernel) (by decide +kernel)
theorem ggL_law_L_areClaims_wsX00 : GoodIn wsL_law wsX00 := goodIn_r _ [450, 451, 452, 453, 454, 455, 456, 457, 458, 459] (by decide +kernel) (by decide +kernel)
set_option maxRecDepth 100000 in
theorem ggL_law_L_areClaims : GoodIn wsL_law wsL_areClaims := goodIn_ca (goodIn_ca (goodIn_ca (gi_cons (gi_one (List.mem_of_getElem? (i := 413) rfl) (by decide +kernel)) (goodIn_app (goodIn_app (goodIn_app (goodIn_app ggL_law_L_areClaims_wsL_areClaims_r1 (goodIn_app ggL_law_L_areClaims_wsL_areClaims_r2 (goodIn_app ggL_law_L_areClaims_wsL_areClaims_r3 (goodIn_app ggL_law_L_areClaims_wsL_areClaims_r4 (goodIn_app ggL_law_L_areClaims_wsL_areClaims_r5 (goodIn_app ggL_law_L_areClaims_wsL_areClaims_r6 (goodIn_app ggL_law_L_areClaims_wsL_areClaims_r7 (goodIn_app ggL_law_L_areClaims_wsL_areClaims_r8 (goodIn_app ggL_law_L_areClaims_wsL_areClaims_r9 (goodIn_app ggL_law_L_areClaims_wsL_areClaims_r10 (goodIn_app ggL_law_L_areClaims_wsL_areClaims_r11 (goodIn_app ggL_law_L_areClaims_wsL_areClaims_r12 (goodIn_app ggL_law_L_areClaims_wsL_areClaims_r13 ggL_law_L_areClaims_wsL_areClaims_r14))))))))))))) ggL_law_L_areClaims_wsX20) ggL_law_L_areClaims_wsX10) ggL_law_L_areClaims_wsX00)) (goodIn_sub (fun _ h => List.mem_append_left _ (List.mem_append_left _ (List.mem_append_right _ h))) (by decide +kernel))) (goodIn_sub (fun _ h => List.mem_append_left _ (List.mem_append_right _ h)) (by decide +kernel))) (goodIn_sub (fun _ h => List.mem_append_right _ h) (by decide +kernel))
set_option maxRecDepth 20000 in
theorem gL_law_L_areClaims : GoodIn wsL_law (va_wsS RL 165 yL_areClaims wsL_areClaims) := goodIn_app (goodIn_of _ (by decide +kernel)) ggL_law_L_areClaims
theorem ggL_law_L_isQuiet_wsL_isQuiet_r1 : GoodIn wsL_law wsL_isQuiet_r1 := goodIn_r _ [3, 35, 36, 30, 37, 38, 39, 40, 41, 42, 43, 44, 45, 46, 47, 48, 49, 50, 2, 51, 11, 52, 53, 54] (by decide +kernel) (by decide +kernel)
theorem ggL_law_L_isQuiet_wsL_isQuiet_r2 : GoodIn wsL_law wsL_isQuiet_r2 := goodIn_r _ [55, 56, 57, 58, 59, 60, 61, 62, 12, 63, 64, 65, 66, 14, 15, 67, 68, 69, 70, 71, 72, 73, 74, 75] (by decide +kernel) (by decide +kernel)
theorem ggL_law_L_isQuiet_wsL_isQuiet_r3 : GoodIn wsL_law wsL_isQuiet_r3 := goodIn_r _ [13, 76, 77, 78, 79, 80, 81, 82, 83, 84, 85, 86, 87, 88, 89, 24, 90, 91, 92, 93, 94, 95, 96, 97] (by decide +kernel) (by decide +kernel)
theorem ggL_law_L_isQuiet_wsL_isQuiet_r4 : GoodIn wsL_law wsL_isQuiet_r4 := goodIn_r _ [98, 99, 100, 17, 101, 102, 103, 104, 105, 106, 107, 108, 109, 110, 111, 112, 113, 114, 115, 116, 117, 23, 118, 119] (by decide +kernel) (by decide +kernel)
theorem ggL_law_L_isQuiet_wsL_isQuiet_r5 : GoodIn wsL_law wsL_isQuiet_r5 := goodIn_r _ [120, 121, 122, 123, 124, 125, 126, 127, 128, 129, 130, 131, 132, 133, 134, 135, 136, 137, 138, 139, 140, 141, 142, 143] (by decide +kernel) (by decide +kernel)
theorem ggL_law_L_isQuiet_wsL_isQuiet_r6 : GoodIn wsL_law wsL_isQuiet_r6 := goodIn_r _ [144, 145, 146, 147, 148, 149, 150, 19, 151, 152, 153, 154, 155, 156, 157, 158, 159, 160, 161, 162, 163, 164, 165, 166] (by decide +kernel) (by decide +kernel)
theorem ggL_law_L_isQuiet_wsL_isQuiet_r7 : GoodIn wsL_law wsL_isQuiet_r7 := goodIn_r _ [167, 168, 169, 170, 171, 172, 173, 174, 175, 176, 177, 25, 26, 178, 179, 180, 181, 182, 183, 184, 185, 186, 187, 188] (by decide +kernel) (by decide +kernel)
theorem ggL_law_L_isQuiet_wsL_isQuiet_r8 : GoodIn wsL_law wsL_isQuiet_r8 := goodIn_r _ [189, 190, 191, 192, 193, 194, 195, 196, 197, 198, 199, 200, 201, 202, 203, 204, 205, 206, 207, 208, 209, 210, 211, 212] (by decide +kernel) (by decide +kernel)
theorem ggL_law_L_isQuiet_wsL_isQuiet_r9 : GoodIn wsL_law wsL_isQuiet_r9 := goodIn_r _ [213, 214, 215, 216, 217, 218, 219, 220, 221, 222, 223, 224, 225, 226, 227, 228, 229, 230, 231, 232, 233, 234, 235, 236] (by decide +kernel) (by decide +kernel)
theorem ggL_law_L_isQuiet_wsL_isQuiet_r10 : GoodIn wsL_law wsL_isQuiet_r10 := goodIn_r _ [237, 238, 239, 240, 241, 242, 243, 244, 245, 246, 247, 248, 249, 250, 251, 252, 253, 254, 255, 256, 27, 257, 258, 259] (by decide +kernel) (by decide +kernel)
theorem ggL_law_L_isQuiet_wsL_isQuiet_r11 : GoodIn wsL_law wsL_isQuiet_r11 := goodIn_r _ [260, 261, 262, 263, 264, 265, 266, 267, 268, 269, 270, 271, 272, 273, 274, 275, 276, 277, 278, 279, 280, 281, 282, 283] (by decide +kernel) (by decide +kernel)
theorem ggL_law_L_isQuiet_wsL_isQuiet_r12 : GoodIn wsL_law wsL_isQuiet_r12 := goodIn_r _ [284, 285, 286, 287, 288, 289, 290, 291, 292, 293, 294, 295, 296, 297, 298, 20, 299, 300, 301, 302, 303, 304, 305, 306] (by decide +kernel) (by decide +kernel)
theorem ggL_law_L_isQuiet_wsL_isQuiet_r13 : GoodIn wsL_law wsL_isQuiet_r13 := goodIn_r _ [307, 308, 309, 310, 311, 312, 313, 314, 315, 316, 317, 318, 319, 320, 321, 322, 323, 324, 325, 326, 327, 328, 329, 330] (by decide +kernel) (by decide +kernel)
theorem ggL_law_L_isQuiet_wsL_isQuiet_r14 : GoodIn wsL_law wsL_isQuiet_r14 := goodIn_r _ [331, 332, 333, 334, 335, 336, 337, 338, 339, 340, 341, 342, 343, 344, 345, 346, 347, 417, 418, 419] (by decide +kernel) (by decide +kernel)
theorem ggL_law_L_isQuiet_wsX20 : GoodIn wsL_law wsX20 := goodIn_r _ [420, 421, 422, 423, 424, 425, 426, 427, 428, 429, 430, 431, 432, 433, 434] (by decide +kernel) (by decide +kernel)
theorem ggL_law_L_isQuiet_wsX10 : GoodIn wsL_law wsX10 := goodIn_r _ [435, 436, 437, 438, 439, 440, 441, 442, 443, 444, 445, 446, 447, 448, 449] (by decide +kernel) (by decide +kernel)
theorem ggL_law_L_isQuiet_wsX00 : GoodIn wsL_law wsX00 := goodIn_r _ [450, 451, 452, 453, 454, 455, 456, 457, 458, 459] (by decide +kernel) (by decide +kernel)
set_option maxRecDepth 100000 in
theorem ggL_law_L_isQuiet : GoodIn wsL_law wsL_isQuiet := goodIn_ca (goodIn_ca (goodIn_ca (gi_cons (gi_one (List.mem_of_getElem? (i := 416) rfl) (by decide +kernel)) (goodIn_app (goodIn_app (goodIn_app (goodIn_app ggL_law_L_isQuiet_wsL_isQuiet_r1 (goodIn_app ggL_law_L_isQuiet_wsL_isQuiet_r2 (goodIn_app ggL_law_L_isQuiet_wsL_isQuiet_r3 (goodIn_app ggL_law_L_isQuiet_wsL_isQuiet_r4 (goodIn_app ggL_law_L_isQuiet_wsL_isQuiet_r5 (goodIn_app ggL_law_L_isQuiet_wsL_isQuiet_r6 (goodIn_app ggL_law_L_isQuiet_wsL_isQuiet_r7 (goodIn_app ggL_law_L_isQuiet_wsL_isQuiet_r8 (goodIn_app ggL_law_L_isQuiet_wsL_isQuiet_r9 (goodIn_app ggL_law_L_isQuiet_wsL_isQuiet_r10 (goodIn_app ggL_law_L_isQuiet_wsL_isQuiet_r11 (goodIn_app ggL_law_L_isQuiet_wsL_isQuiet_r12 (goodIn_app ggL_law_L_isQuiet_wsL_isQuiet_r13 ggL_law_L_isQuiet_wsL_isQuiet_r14))))))))))))) ggL_law_L_isQuiet_wsX20) ggL_law_L_isQuiet_wsX10) ggL_law_L_isQuiet_wsX00)) (goodIn_sub (fun _ h => List.mem_append_left _ (List.mem_append_left _ (List.mem_append_right _ h))) (by decide +kernel))) (goodIn_sub (fun _ h => List.mem_append_left _ (List.mem_append_right _ h)) (by decide +kernel))) (goodIn_sub (fun _ h => List.mem_append_right _ h) (by decide +kernel))
set_option maxRecDepth 20000 in
theorem gL_law_L_isQuiet : GoodIn wsL_law (va_wsS RL 168 yL_isQuiet wsL_isQuiet) := goodIn_app (goodIn_of _ (by decide +kernel)) ggL_law_L_isQuiet
theorem dL_law_0 : decode cL_law 0 = .ok (.new 15, 3) := by decide +kernel
theorem dL_law_3 : decode cL_law 3 = .ok (.dup, 1) := by decide +kernel
theorem dL_law_4 : decode cL_law 4 = .ok (.invokespecial 148, 3) := by decide +kernel
theorem dL_law_7 : decode cL_law 7 = .ok (.astore_n 1, 1) := by decide +kernel
theorem dL_law_8 : decode cL_law 8 = .ok (.new 15, 3) := by decide +kernel
theorem dL_law_11 : decode cL_law 11 = .ok (.dup, 1) := by decide +kernel
theorem dL_law_12 : decode cL_law 12 = .ok (.invokespecial 148, 3) := by decide +kernel
theorem dL_law_15 : decode cL_law 15 = .ok (.astore_n 2, 1) := by decide +kernel
theorem dL_law_16 : decode cL_law 16 = .ok (.iconst 1, 1) := by decide +kernel
theorem dL_law_17 : decode cL_law 17 = .ok (.istore_n 3, 1) := by decide +kernel
theorem dL_law_18 : decode cL_law 18 = .ok (.iconst 0, 1) := by decide +kernel
theorem dL_law_19 : decode cL_law 19 = .ok (.istore 4, 2) := by decide +kernel
theorem dL_law_21 : decode cL_law 21 = .ok (.iload 4, 2) := by decide +kernel
theorem dL_law_23 : decode cL_law 23 = .ok (.sipush 160, 3) := by decide +kernel
theorem dL_law_26 : decode cL_law 26 = .ok (.if_icmp .ge 156, 3) := by decide +kernel
theorem dL_law_29 : decode cL_law 29 = .ok (.iload_n 3, 1) := by decide +kernel
theorem dL_law_30 : decode cL_law 30 = .ok (.ifCond .eq 152, 3) := by decide +kernel
theorem dL_law_33 : decode cL_law 33 = .ok (.aload_n 0, 1) := by decide +kernel
theorem dL_law_34 : decode cL_law 34 = .ok (.iload 4, 2) := by decide +kernel
theorem dL_law_36 : decode cL_law 36 = .ok (.bipush 61, 2) := by decide +kernel
theorem dL_law_38 : decode cL_law 38 = .ok (.irem, 1) := by decide +kernel
theorem dL_law_39 : decode cL_law 39 = .ok (.invokestatic 149, 3) := by decide +kernel
theorem dL_law_42 : decode cL_law 42 = .ok (.sipush 2011, 3) := by decide +kernel
theorem dL_law_45 : decode cL_law 45 = .ok (.iload 4, 2) := by decide +kernel
theorem dL_law_47 : decode cL_law 47 = .ok (.bipush 61, 2) := by decide +kernel
theorem dL_law_49 : decode cL_law 49 = .ok (.idiv, 1) := by decide +kernel
theorem dL_law_50 : decode cL_law 50 = .ok (.imul, 1) := by decide +kernel
theorem dL_law_51 : decode cL_law 51 = .ok (.iadd, 1) := by decide +kernel
theorem dL_law_52 : decode cL_law 52 = .ok (.istore 5, 2) := by decide +kernel
theorem dL_law_54 : decode cL_law 54 = .ok (.aload_n 1, 1) := by decide +kernel
theorem dL_law_55 : decode cL_law 55 = .ok (.iload 5, 2) := by decide +kernel
theorem dL_law_57 : decode cL_law 57 = .ok (.invokestatic 153, 3) := by decide +kernel
theorem dL_law_60 : decode cL_law 60 = .ok (.istore 6, 2) := by decide +kernel
theorem dL_law_62 : decode cL_law 62 = .ok (.iload 6, 2) := by decide +kernel
theorem dL_law_64 : decode cL_law 64 = .ok (.ldc 80, 2) := by decide +kernel
theorem dL_law_66 : decode cL_law 66 = .ok (.if_icmp .eq 14, 3) := by decide +kernel
theorem dL_law_69 : decode cL_law 69 = .ok (.aload_n 2, 1) := by decide +kernel
theorem dL_law_70 : decode cL_law 70 = .ok (.iload 5, 2) := by decide +kernel
theorem dL_law_72 : decode cL_law 72 = .ok (.invokestatic 153, 3) := by decide +kernel
theorem dL_law_75 : decode cL_law 75 = .ok (.iload 6, 2) := by decide +kernel
theorem dL_law_77 : decode cL_law 77 = .ok (.if_icmp .ne 7, 3) := by decide +kernel
theorem dL_law_80 : decode cL_law 80 = .ok (.iconst 1, 1) := by decide +kernel
theorem dL_law_81 : decode cL_law 81 = .ok (.goto 4, 3) := by decide +kernel
theorem dL_law_84 : decode cL_law 84 = .ok (.iconst 0, 1) := by decide +kernel
theorem dL_law_85 : decode cL_law 85 = .ok (.istore_n 3, 1) := by decide +kernel
theorem dL_law_86 : decode cL_law 86 = .ok (.iload_n 3, 1) := by decide +kernel
theorem dL_law_87 : decode cL_law 87 = .ok (.ifCond .eq 87, 3) := by decide +kernel
theorem dL_law_90 : decode cL_law 90 = .ok (.iload 4, 2) := by decide +kernel
theorem dL_law_92 : decode cL_law 92 = .ok (.bipush 16, 2) := by decide +kernel
theorem dL_law_94 : decode cL_law 94 = .ok (.irem, 1) := by decide +kernel
theorem dL_law_95 : decode cL_law 95 = .ok (.bipush 15, 2) := by decide +kernel
theorem dL_law_97 : decode cL_law 97 = .ok (.if_icmp .ne 19, 3) := by decide +kernel
theorem dL_law_100 : decode cL_law 100 = .ok (.aload_n 1, 1) := by decide +kernel
theorem dL_law_101 : decode cL_law 101 = .ok (.aload_n 2, 1) := by decide +kernel
theorem dL_law_102 : decode cL_law 102 = .ok (.iload 5, 2) := by decide +kernel
theorem dL_law_104 : decode cL_law 104 = .ok (.iconst 3, 1) := by decide +kernel
theorem dL_law_105 : decode cL_law 105 = .ok (.ishr, 1) := by decide +kernel
theorem dL_law_106 : decode cL_law 106 = .ok (.sipush 1023, 3) := by decide +kernel
theorem dL_law_109 : decode cL_law 109 = .ok (.iand, 1) := by decide +kernel
theorem dL_law_110 : decode cL_law 110 = .ok (.invokestatic 157, 3) := by decide +kernel
theorem dL_law_113 : decode cL_law 113 = .ok (.ifCond .eq 61, 3) := by decide +kernel
theorem dL_law_116 : decode cL_law 116 = .ok (.iload 4, 2) := by decide +kernel
theorem dL_law_118 : decode cL_law 118 = .ok (.bipush 6, 2) := by decide +kernel
theorem dL_law_120 : decode cL_law 120 = .ok (.irem, 1) := by decide +kernel
theorem dL_law_121 : decode cL_law 121 = .ok (.iconst 4, 1) := by decide +kernel
theorem dL_law_122 : decode cL_law 122 = .ok (.if_icmp .ne 10, 3) := by decide +kernel
theorem dL_law_125 : decode cL_law 125 = .ok (.aload_n 1, 1) := by decide +kernel
theorem dL_law_126 : decode cL_law 126 = .ok (.invokestatic 161, 3) := by decide +kernel
theorem dL_law_129 : decode cL_law 129 = .ok (.ifCond .eq 45, 3) := by decide +kernel
theorem dL_law_132 : decode cL_law 132 = .ok (.iload 4, 2) := by decide +kernel
theorem dL_law_134 : decode cL_law 134 = .ok (.bipush 8, 2) := by decide +kernel
theorem dL_law_136 : decode cL_law 136 = .ok (.irem, 1) := by decide +kernel
theorem dL_law_137 : decode cL_law 137 = .ok (.bipush 6, 2) := by decide +kernel
theorem dL_law_139 : decode cL_law 139 = .ok (.if_icmp .ne 10, 3) := by decide +kernel
theorem dL_law_142 : decode cL_law 142 = .ok (.aload_n 1, 1) := by decide +kernel
theorem dL_law_143 : decode cL_law 143 = .ok (.invokestatic 165, 3) := by decide +kernel
theorem dL_law_146 : decode cL_law 146 = .ok (.ifCond .eq 28, 3) := by decide +kernel
theorem dL_law_149 : decode cL_law 149 = .ok (.iload 4, 2) := by decide +kernel
theorem dL_law_151 : decode cL_law 151 = .ok (.bipush 10, 2) := by decide +kernel
theorem dL_law_153 : decode cL_law 153 = .ok (.irem, 1) := by decide +kernel
theorem dL_law_154 : decode cL_law 154 = .ok (.bipush 7, 2) := by decide +kernel
theorem dL_law_156 : decode cL_law 156 = .ok (.if_icmp .ne 14, 3) := by decide +kernel
theorem dL_law_159 : decode cL_law 159 = .ok (.aload_n 1, 1) := by decide +kernel
theorem dL_law_160 : decode cL_law 160 = .ok (.iload 5, 2) := by decide +kernel
theorem dL_law_162 : decode cL_law 162 = .ok (.iconst 4, 1) := by decide +kernel
theorem dL_law_163 : decode cL_law 163 = .ok (.ishr, 1) := by decide +kernel
theorem dL_law_164 : decode cL_law 164 = .ok (.invokestatic 168, 3) := by decide +kernel
theorem dL_law_167 : decode cL_law 167 = .ok (.ifCond .eq 7, 3) := by decide +kernel
theorem dL_law_170 : decode cL_law 170 = .ok (.iconst 1, 1) := by decide +kernel
theorem dL_law_171 : decode cL_law 171 = .ok (.goto 4, 3) := by decide +kernel
theorem dL_law_174 : decode cL_law 174 = .ok (.iconst 0, 1) := by decide +kernel
theorem dL_law_175 : decode cL_law 175 = .ok (.istore_n 3, 1) := by decide +kernel
theorem dL_law_176 : decode cL_law 176 = .ok (.iinc 4 1, 3) := by decide +kernel
theorem dL_law_179 : decode cL_law 179 = .ok (.goto (-158), 3) := by decide +kernel
theorem dL_law_182 : decode cL_law 182 = .ok (.iload_n 3, 1) := by decide +kernel
theorem dL_law_183 : decode cL_law 183 = .ok (.ifCond .eq 31, 3) := by decide +kernel
theorem dL_law_186 : decode cL_law 186 = .ok (.aload_n 1, 1) := by decide +kernel
theorem dL_law_187 : decode cL_law 187 = .ok (.aload_n 2, 1) := by decide +kernel
theorem dL_law_188 : decode cL_law 188 = .ok (.bipush 7, 2) := by decide +kernel
theorem dL_law_190 : decode cL_law 190 = .ok (.invokestatic 157, 3) := by decide +kernel
theorem dL_law_193 : decode cL_law 193 = .ok (.ifCond .eq 21, 3) := by decide +kernel
theorem dL_law_196 : decode cL_law 196 = .ok (.aload_n 2, 1) := by decide +kernel
theorem dL_law_197 : decode cL_law 197 = .ok (.invokestatic 161, 3) := by decide +kernel
theorem dL_law_200 : decode cL_law 200 = .ok (.ifCond .eq 14, 3) := by decide +kernel
theorem dL_law_203 : decode cL_law 203 = .ok (.aload_n 2, 1) := by decide +kernel
theorem dL_law_204 : decode cL_law 204 = .ok (.invokestatic 165, 3) := by decide +kernel
theorem dL_law_207 : decode cL_law 207 = .ok (.ifCond .eq 7, 3) := by decide +kernel
theorem dL_law_210 : decode cL_law 210 = .ok (.iconst 1, 1) := by decide +kernel
theorem dL_law_211 : decode cL_law 211 = .ok (.goto 4, 3) := by decide +kernel
theorem dL_law_214 : decode cL_law 214 = .ok (.iconst 0, 1) := by decide +kernel
theorem dL_law_215 : decode cL_law 215 = .ok (.ireturn, 1) := by decide +kernel
