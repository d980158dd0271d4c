theorem dX3_roomsOf_17 : decode cX3_roomsOf 17 = .ok (.bipush 6, 2) := by decide +kernel
theorem dX3_roomsOf_19 : decode cX3_roomsOf 19 = .ok (.isub, 1) := by decide +kernel
theorem dX3_roomsOf_20 : decode cX3_roomsOf 20 = .ok (.iaload, 1) := by decide +kernel
theorem dX3_roomsOf_21 : decode cX3_roomsOf 21 = .ok (.ireturn, 1) := by decide +kernel
set_option maxRecDepth 20000 in
theorem ggX3_scoreOf_X3_roomsOf : GoodIn wsX3_scoreOf wsX3_roomsOf := goodIn_r _ [18, 19, 20, 21, 22, 23, 24, 25, 26, 27, 28, 29, 30, 31, 32, 33, 34, 35, 36, 37, 38, 39, 40, 41, 42, 43, 44, 45, 46, 47, 48, 49, 50, 51, 52, 53, 54, 55, 56, 57] (by decide +kernel) (by decide +kernel)
set_option maxRecDepth 20000 in
theorem gX3_scoreOf_X3_roomsOf : GoodIn wsX3_scoreOf (wsV RX3 166 RX3 yX3_roomsOf wsX3_roomsOf) := goodIn_app (goodIn_of _ (by decide +kernel)) ggX3_scoreOf_X3_roomsOf
theorem dX3_scoreOf_0 : decode cX3_scoreOf 0 = .ok (.aload_n 0, 1) := by decide +kernel
theorem dX3_scoreOf_1 : decode cX3_scoreOf 1 = .ok (.getfield 29, 3) := by decide +kernel
theorem dX3_scoreOf_4 : decode cX3_scoreOf 4 = .ok (.iload_n 1, 1) := by decide +kernel
theorem dX3_scoreOf_5 : decode cX3_scoreOf 5 = .ok (.iaload, 1) := by decide +kernel
theorem dX3_scoreOf_6 : decode cX3_scoreOf 6 = .ok (.istore_n 3, 1) := by decide +kernel
theorem dX3_scoreOf_7 : decode cX3_scoreOf 7 = .ok (.aload_n 0, 1) := by decide +kernel
theorem dX3_scoreOf_8 : decode cX3_scoreOf 8 = .ok (.getfield 13, 3) := by decide +kernel
theorem dX3_scoreOf_11 : decode cX3_scoreOf 11 = .ok (.iload_n 3, 1) := by decide +kernel
theorem dX3_scoreOf_12 : decode cX3_scoreOf 12 = .ok (.iaload, 1) := by decide +kernel
theorem dX3_scoreOf_13 : decode cX3_scoreOf 13 = .ok (.aload_n 0, 1) := by decide +kernel
theorem dX3_scoreOf_14 : decode cX3_scoreOf 14 = .ok (.getfield 78, 3) := by decide +kernel
theorem dX3_scoreOf_17 : decode cX3_scoreOf 17 = .ok (.iload_n 2, 1) := by decide +kernel
theorem dX3_scoreOf_18 : decode cX3_scoreOf 18 = .ok (.iaload, 1) := by decide +kernel
theorem dX3_scoreOf_19 : decode cX3_scoreOf 19 = .ok (.ishr, 1) := by decide +kernel
theorem dX3_scoreOf_20 : decode cX3_scoreOf 20 = .ok (.iconst 1, 1) := by decide +kernel
theorem dX3_scoreOf_21 : decode cX3_scoreOf 21 = .ok (.iand, 1) := by decide +kernel
theorem dX3_scoreOf_22 : decode cX3_scoreOf 22 = .ok (.iconst 1, 1) := by decide +kernel
theorem dX3_scoreOf_23 : decode cX3_scoreOf 23 = .ok (.if_icmp .ne 7, 3) := by decide +kernel
theorem dX3_scoreOf_26 : decode cX3_scoreOf 26 = .ok (.iconst 1, 1) := by decide +kernel
theorem dX3_scoreOf_27 : decode cX3_scoreOf 27 = .ok (.goto 4, 3) := by decide +kernel
theorem dX3_scoreOf_30 : decode cX3_scoreOf 30 = .ok (.iconst 0, 1) := by decide +kernel
theorem dX3_scoreOf_31 : decode cX3_scoreOf 31 = .ok (.istore 4, 2) := by decide +kernel
theorem dX3_scoreOf_33 : decode cX3_scoreOf 33 = .ok (.iload_n 3, 1) := by decide +kernel
theorem dX3_scoreOf_34 : decode cX3_scoreOf 34 = .ok (.aload_n 0, 1) := by decide +kernel
theorem dX3_scoreOf_35 : decode cX3_scoreOf 35 = .ok (.getfield 78, 3) := by decide +kernel
theorem dX3_scoreOf_38 : decode cX3_scoreOf 38 = .ok (.iload_n 2, 1) := by decide +kernel
theorem dX3_scoreOf_39 : decode cX3_scoreOf 39 = .ok (.iaload, 1) := by decide +kernel
theorem dX3_scoreOf_40 : decode cX3_scoreOf 40 = .ok (.if_icmp .eq 10, 3) := by decide +kernel
theorem dX3_scoreOf_43 : decode cX3_scoreOf 43 = .ok (.iload 4, 2) := by decide +kernel
theorem dX3_scoreOf_45 : decode cX3_scoreOf 45 = .ok (.ifCond .ne 5, 3) := by decide +kernel
theorem dX3_scoreOf_48 : decode cX3_scoreOf 48 = .ok (.iconst (-1), 1) := by decide +kernel
theorem dX3_scoreOf_49 : decode cX3_scoreOf 49 = .ok (.ireturn, 1) := by decide +kernel
theorem dX3_scoreOf_50 : decode cX3_scoreOf 50 = .ok (.iload_n 3, 1) := by decide +kernel
theorem dX3_scoreOf_51 : decode cX3_scoreOf 51 = .ok (.aload_n 0, 1) := by decide +kernel
theorem dX3_scoreOf_52 : decode cX3_scoreOf 52 = .ok (.getfield 78, 3) := by decide +kernel
theorem dX3_scoreOf_55 : decode cX3_scoreOf 55 = .ok (.iload_n 2, 1) := by decide +kernel
theorem dX3_scoreOf_56 : decode cX3_scoreOf 56 = .ok (.iaload, 1) := by decide +kernel
theorem dX3_scoreOf_57 : decode cX3_scoreOf 57 = .ok (.if_icmp .ne 8, 3) := by decide +kernel
theorem dX3_scoreOf_60 : decode cX3_scoreOf 60 = .ok (.bipush 40, 2) := by decide +kernel
theorem dX3_scoreOf_62 : decode cX3_scoreOf 62 = .ok (.goto 5, 3) := by decide +kernel
theorem dX3_scoreOf_65 : decode cX3_scoreOf 65 = .ok (.bipush 15, 2) := by decide +kernel
theorem dX3_scoreOf_67 : decode cX3_scoreOf 67 = .ok (.istore 5, 2) := by decide +kernel
theorem dX3_scoreOf_69 : decode cX3_scoreOf 69 = .ok (.iload 5, 2) := by decide +kernel
theorem dX3_scoreOf_71 : decode cX3_scoreOf 71 = .ok (.aload_n 0, 1) := by decide +kernel
theorem dX3_scoreOf_72 : decode cX3_scoreOf 72 = .ok (.getfield 32, 3) := by decide +kernel
theorem dX3_scoreOf_75 : decode cX3_scoreOf 75 = .ok (.iload_n 1, 1) := by decide +kernel
theorem dX3_scoreOf_76 : decode cX3_scoreOf 76 = .ok (.iaload, 1) := by decide +kernel
theorem dX3_scoreOf_77 : decode cX3_scoreOf 77 = .ok (.aload_n 0, 1) := by decide +kernel
theorem dX3_scoreOf_78 : decode cX3_scoreOf 78 = .ok (.getfield 81, 3) := by decide +kernel
theorem dX3_scoreOf_81 : decode cX3_scoreOf 81 = .ok (.iload_n 2, 1) := by decide +kernel
theorem dX3_scoreOf_82 : decode cX3_scoreOf 82 = .ok (.iaload, 1) := by decide +kernel
theorem dX3_scoreOf_83 : decode cX3_scoreOf 83 = .ok (.if_icmp .ne 8, 3) := by decide +kernel
theorem dX3_scoreOf_86 : decode cX3_scoreOf 86 = .ok (.bipush 20, 2) := by decide +kernel
theorem dX3_scoreOf_88 : decode cX3_scoreOf 88 = .ok (.goto 33, 3) := by decide +kernel
theorem dX3_scoreOf_91 : decode cX3_scoreOf 91 = .ok (.aload_n 0, 1) := by decide +kernel
theorem dX3_scoreOf_92 : decode cX3_scoreOf 92 = .ok (.aload_n 0, 1) := by decide +kernel
theorem dX3_scoreOf_93 : decode cX3_scoreOf 93 = .ok (.getfield 32, 3) := by decide +kernel
theorem dX3_scoreOf_96 : decode cX3_scoreOf 96 = .ok (.iload_n 1, 1) := by decide +kernel
theorem dX3_scoreOf_97 : decode cX3_scoreOf 97 = .ok (.iaload, 1) := by decide +kernel
theorem dX3_scoreOf_98 : decode cX3_scoreOf 98 = .ok (.invokevirtual 166, 3) := by decide +kernel
theorem dX3_scoreOf_101 : decode cX3_scoreOf 101 = .ok (.aload_n 0, 1) := by decide +kernel
theorem dX3_scoreOf_102 : decode cX3_scoreOf 102 = .ok (.aload_n 0, 1) := by decide +kernel
theorem dX3_scoreOf_103 : decode cX3_scoreOf 103 = .ok (.getfield 81, 3) := by decide +kernel
theorem dX3_scoreOf_106 : decode cX3_scoreOf 106 = .ok (.iload_n 2, 1) := by decide +kernel
theorem dX3_scoreOf_107 : decode cX3_scoreOf 107 = .ok (.iaload, 1) := by decide +kernel
theorem dX3_scoreOf_108 : decode cX3_scoreOf 108 = .ok (.invokevirtual 166, 3) := by decide +kernel
theorem dX3_scoreOf_111 : decode cX3_scoreOf 111 = .ok (.iand, 1) := by decide +kernel
theorem dX3_scoreOf_112 : decode cX3_scoreOf 112 = .ok (.ifCond .eq 8, 3) := by decide +kernel
theorem dX3_scoreOf_115 : decode cX3_scoreOf 115 = .ok (.bipush 10, 2) := by decide +kernel
theorem dX3_scoreOf_117 : decode cX3_scoreOf 117 = .ok (.goto 4, 3) := by decide +kernel
theorem dX3_scoreOf_120 : decode cX3_scoreOf 120 = .ok (.iconst 0, 1) := by decide +kernel
theorem dX3_scoreOf_121 : decode cX3_scoreOf 121 = .ok (.iadd, 1) := by decide +kernel
theorem dX3_scoreOf_122 : decode cX3_scoreOf 122 = .ok (.istore 5, 2) := by decide +kernel
theorem dX3_scoreOf_124 : decode cX3_scoreOf 124 = .ok (.aload_n 0, 1) := by decide +kernel
theorem dX3_scoreOf_125 : decode cX3_scoreOf 125 = .ok (.getfield 35, 3) := by decide +kernel
theorem dX3_scoreOf_128 : decode cX3_scoreOf 128 = .ok (.iload_n 1, 1) := by decide +kernel
theorem dX3_scoreOf_129 : decode cX3_scoreOf 129 = .ok (.iaload, 1) := by decide +kernel
theorem dX3_scoreOf_130 : decode cX3_scoreOf 130 = .ok (.aload_n 0, 1) := by decide +kernel
theorem dX3_scoreOf_131 : decode cX3_scoreOf 131 = .ok (.getfield 87, 3) := by decide +kernel
theorem dX3_scoreOf_134 : decode cX3_scoreOf 134 = .ok (.iload_n 2, 1) := by decide +kernel
theorem dX3_scoreOf_135 : decode cX3_scoreOf 135 = .ok (.iaload, 1) := by decide +kernel
theorem dX3_scoreOf_136 : decode cX3_scoreOf 136 = .ok (.isub, 1) := by decide +kernel
theorem dX3_scoreOf_137 : decode cX3_scoreOf 137 = .ok (.istore 6, 2) := by decide +kernel
theorem dX3_scoreOf_139 : decode cX3_scoreOf 139 = .ok (.iload 5, 2) := by decide +kernel
theorem dX3_scoreOf_141 : decode cX3_scoreOf 141 = .ok (.aload_n 0, 1) := by decide +kernel
theorem dX3_scoreOf_142 : decode cX3_scoreOf 142 = .ok (.getfield 35, 3) := by decide +kernel
theorem dX3_scoreOf_145 : decode cX3_scoreOf 145 = .ok (.iload_n 1, 1) := by decide +kernel
theorem dX3_scoreOf_146 : decode cX3_scoreOf 146 = .ok (.iaload, 1) := by decide +kernel
theorem dX3_scoreOf_147 : decode cX3_scoreOf 147 = .ok (.aload_n 0, 1) := by decide +kernel
theorem dX3_scoreOf_148 : decode cX3_scoreOf 148 = .ok (.getfield 84, 3) := by decide +kernel
theorem dX3_scoreOf_151 : decode cX3_scoreOf 151 = .ok (.iload_n 2, 1) := by decide +kernel
theorem dX3_scoreOf_152 : decode cX3_scoreOf 152 = .ok (.iaload, 1) := by decide +kernel
theorem dX3_scoreOf_153 : decode cX3_scoreOf 153 = .ok (.if_icmp .ge 7, 3) := by decide +kernel
theorem dX3_scoreOf_156 : decode cX3_scoreOf 156 = .ok (.iconst 0, 1) := by decide +kernel
theorem dX3_scoreOf_157 : decode cX3_scoreOf 157 = .ok (.goto 31, 3) := by decide +kernel
theorem dX3_scoreOf_160 : decode cX3_scoreOf 160 = .ok (.iload 6, 2) := by decide +kernel
theorem dX3_scoreOf_162 : decode cX3_scoreOf 162 = .ok (.ifCond .gt 8, 3) := by decide +kernel
theorem dX3_scoreOf_165 : decode cX3_scoreOf 165 = .ok (.bipush 20, 2) := by decide +kernel
theorem dX3_scoreOf_167 : decode cX3_scoreOf 167 = .ok (.goto 21, 3) := by decide +kernel
theorem dX3_scoreOf_170 : decode cX3_scoreOf 170 = .ok (.iload 6, 2) := by decide +kernel
theorem dX3_scoreOf_172 : decode cX3_scoreOf 172 = .ok (.bipush 10, 2) := by decide +kernel
theorem dX3_scoreOf_174 : decode cX3_scoreOf 174 = .ok (.if_icmp .ge 13, 3) := by decide +kernel
theorem dX3_scoreOf_177 : decode cX3_scoreOf 177 = .ok (.bipush 20, 2) := by decide +kernel
theorem dX3_scoreOf_179 : decode cX3_scoreOf 179 = .ok (.iconst 2, 1) := by decide +kernel
theorem dX3_scoreOf_180 : decode cX3_scoreOf 180 = .ok (.iload 6, 2) := by decide +kernel
theorem dX3_scoreOf_182 : decode cX3_scoreOf 182 = .ok (.imul, 1) := by decide +kernel
theorem dX3_scoreOf_183 : decode cX3_scoreOf 183 = .ok (.isub, 1) := by decide +kernel
theorem dX3_scoreOf_184 : decode cX3_scoreOf 184 = .ok (.goto 4, 3) := by decide +kernel
theorem dX3_scoreOf_187 : decode cX3_scoreOf 187 = .ok (.iconst 0, 1) := by decide +kernel
theorem dX3_scoreOf_188 : decode cX3_scoreOf 188 = .ok (.iadd, 1) := by decide +kernel
theorem dX3_scoreOf_189 : decode cX3_scoreOf 189 = .ok (.istore 5, 2) := by decide +kernel
theorem dX3_scoreOf_191 : decode cX3_scoreOf 191 = .ok (.aload_n 0, 1) := by decide +kernel
theorem dX3_scoreOf_192 : decode cX3_scoreOf 192 = .ok (.getfield 38, 3) := by decide +kernel
theorem dX3_scoreOf_195 : decode cX3_scoreOf 195 = .ok (.iload_n 1, 1) := by decide +kernel
theorem dX3_scoreOf_196 : decode cX3_scoreOf 196 = .ok (.iaload, 1) := by decide +kernel
theorem dX3_scoreOf_197 : decode cX3_scoreOf 197 = .ok (.aload_n 0, 1) := by decide +kernel
theorem dX3_scoreOf_198 : decode cX3_scoreOf 198 = .ok (.getfield 41, 3) := by decide +kernel
theorem dX3_scoreOf_201 : decode cX3_scoreOf 201 = .ok (.iload_n 1, 1) := by decide +kernel
theorem dX3_scoreOf_202 : decode cX3_scoreOf 202 = .ok (.iaload, 1) := by decide +kernel
theorem dX3_scoreOf_203 : decode cX3_scoreOf 203 = .ok (.aload_n 0, 1) := by decide +kernel
theorem dX3_scoreOf_204 : decode cX3_scoreOf 204 = .ok (.getfield 93, 3) := by decide +kernel
theorem dX3_scoreOf_207 : decode cX3_scoreOf 207 = .ok (.iload_n 2, 1) := by decide +kernel
theorem dX3_scoreOf_208 : decode cX3_scoreOf 208 = .ok (.iaload, 1) := by decide +kernel
theorem dX3_scoreOf_209 : decode cX3_scoreOf 209 = .ok (.iand, 1) := by decide +kernel
theorem dX3_scoreOf_210 : decode cX3_scoreOf 210 = .ok (.ior, 1) := by decide +kernel
theorem dX3_scoreOf_211 : decode cX3_scoreOf 211 = .ok (.istore 7, 2) := by decide +kernel
theorem dX3_scoreOf_213 : decode cX3_scoreOf 213 = .ok (.iconst 0, 1) := by decide +kernel
theorem dX3_scoreOf_214 : decode cX3_scoreOf 214 = .ok (.istore 8, 2) := by decide +kernel
theorem dX3_scoreOf_216 : decode cX3_scoreOf 216 = .ok (.iload 8, 2) := by decide +kernel
theorem dX3_scoreOf_218 : decode cX3_scoreOf 218 = .ok (.bipush 24, 2) := by decide +kernel
theorem dX3_scoreOf_220 : decode cX3_scoreOf 220 = .ok (.if_icmp .ge 83, 3) := by decide +kernel
theorem dX3_scoreOf_223 : decode cX3_scoreOf 223 = .ok (.aload_n 0, 1) := by decide +kernel
theorem dX3_scoreOf_224 : decode cX3_scoreOf 224 = .ok (.getfield 90, 3) := by decide +kernel
theorem dX3_scoreOf_227 : decode cX3_scoreOf 227 = .ok (.iload_n 2, 1) := by decide +kernel
theorem dX3_scoreOf_228 : decode cX3_scoreOf 228 = .ok (.iaload, 1) := by decide +kernel
theorem dX3_scoreOf_229 : decode cX3_scoreOf 229 = .ok (.iload 8, 2) := by decide +kernel
theorem dX3_scoreOf_231 : decode cX3_scoreOf 231 = .ok (.ishr, 1) := by decide +kernel
theorem dX3_scoreOf_232 : decode cX3_scoreOf 232 = .ok (.iconst 1, 1) := by decide +kernel
theorem dX3_scoreOf_233 : decode cX3_scoreOf 233 = .ok (.iand, 1) := by decide +kernel
theorem dX3_scoreOf_234 : decode cX3_scoreOf 234 = .ok (.iconst 1, 1) := by decide +kernel
theorem dX3_scoreOf_235 : decode cX3_scoreOf 235 = .ok (.if_icmp .ne 7, 3) := by decide +kernel
theorem dX3_scoreOf_238 : decode cX3_scoreOf 238 = .ok (.iconst 1, 1) := by decide +kernel
theorem dX3_scoreOf_239 : decode cX3_scoreOf 239 = .ok (.goto 4, 3) := by decide +kernel
theorem dX3_scoreOf_242 : decode cX3_scoreOf 242 = .ok (.iconst 0, 1) := by decide +kernel
theorem dX3_scoreOf_243 : decode cX3_scoreOf 243 = .ok (.istore 9, 2) := by decide +kernel
theorem dX3_scoreOf_245 : decode cX3_scoreOf 245 = .ok (.iload 7, 2) := by decide +kernel
theorem dX3_scoreOf_247 : decode cX3_scoreOf 247 = .ok (.iload 8, 2) := by decide +kernel
theorem dX3_scoreOf_249 : decode cX3_scoreOf 249 = .ok (.ishr, 1) := by decide +kernel
theorem dX3_scoreOf_250 : decode cX3_scoreOf 250 = .ok (.iconst 1, 1) := by decide +kernel
theorem dX3_scoreOf_251 : decode cX3_scoreOf 251 = .ok (.iand, 1) := by decide +kernel
theorem dX3_scoreOf_252 : decode cX3_scoreOf 252 = .ok (.iconst 1, 1) := by decide +kernel
theorem dX3_scoreOf_253 : decode cX3_scoreOf 253 = .ok (.if_icmp .ne 8, 3) := by decide +kernel
theorem dX3_scoreOf_256 : decode cX3_scoreOf 256 = .ok (.bipush 6, 2) := by decide +kernel
theorem dX3_scoreOf_258 : decode cX3_scoreOf 258 = .ok (.goto 21, 3) := by decide +kernel
theorem dX3_scoreOf_261 : decode cX3_scoreOf 261 = .ok (.iload 7, 2) := by decide +kernel
theorem dX3_scoreOf_263 : decode cX3_scoreOf 263 = .ok (.aload_n 0, 1) := by decide +kernel
theorem dX3_scoreOf_264 : decode cX3_scoreOf 264 = .ok (.getfield 7, 3) := by decide +kernel
theorem dX3_scoreOf_267 : decode cX3_scoreOf 267 = .ok (.iload 8, 2) := by decide +kernel
theorem dX3_scoreOf_269 : decode cX3_scoreOf 269 = .ok (.iaload, 1) := by decide +kernel
theorem dX3_scoreOf_270 : decode cX3_scoreOf 270 = .ok (.iand, 1) := by decide +kernel
theorem dX3_scoreOf_271 : decode cX3_scoreOf 271 = .ok (.ifCond .eq 7, 3) := by decide +kernel
theorem dX3_scoreOf_274 : decode cX3_scoreOf 274 = .ok (.iconst 3, 1) := by decide +kernel
theorem dX3_scoreOf_275 : decode cX3_scoreOf 275 = .ok (.goto 4, 3) := by decide +kernel
theorem dX3_scoreOf_278 : decode cX3_scoreOf 278 = .ok (.iconst (-1), 1) := by decide +kernel
theorem dX3_scoreOf_279 : decode cX3_scoreOf 279 = .ok (.istore 10, 2) := by decide +kernel
theorem dX3_scoreOf_281 : decode cX3_scoreOf 281 = .ok (.iload 5, 2) := by decide +kernel
theorem dX3_scoreOf_283 : decode cX3_scoreOf 283 = .ok (.iload 9, 2) := by decide +kernel
theorem dX3_scoreOf_285 : decode cX3_scoreOf 285 = .ok (.ifCond .eq 8, 3) := by decide +kernel
theorem dX3_scoreOf_288 : decode cX3_scoreOf 288 = .ok (.iload 10, 2) := by decide +kernel
theorem dX3_scoreOf_290 : decode cX3_scoreOf 290 = .ok (.goto 4, 3) := by decide +kernel
theorem dX3_scoreOf_293 : decode cX3_scoreOf 293 = .ok (.iconst 0, 1) := by decide +kernel
theorem dX3_scoreOf_294 : decode cX3_scoreOf 294 = .ok (.iadd, 1) := by decide +kernel
theorem dX3_scoreOf_295 : decode cX3_scoreOf 295 = .ok (.istore 5, 2) := by decide +kernel
theorem dX3_scoreOf_297 : decode cX3_scoreOf 297 = .ok (.iinc 8 1, 3) := by decide +kernel
theorem dX3_scoreOf_300 : decode cX3_scoreOf 300 = .ok (.goto (-84), 3) := by decide +kernel
theorem dX3_scoreOf_303 : decode cX3_scoreOf 303 = .ok (.iload 5, 2) := by decide +kernel
theorem dX3_scoreOf_305 : decode cX3_scoreOf 305 = .ok (.ifCond .ge 7, 3) := by decide +kernel
theorem dX3_scoreOf_308 : decode cX3_scoreOf 308 = .ok (.iconst 0, 1) := by decide +kernel
theorem dX3_scoreOf_309 : decode cX3_scoreOf 309 = .ok (.goto 5, 3) := by decide +kernel
theorem dX3_scoreOf_312 : decode cX3_scoreOf 312 = .ok (.iload 5, 2) := by decide +kernel
theorem dX3_scoreOf_314 : decode cX3_scoreOf 314 = .ok (.ireturn, 1) := by decide +kernel
set_option maxRecDepth 20000 in
theorem ggX3_isCandidate_X3_scoreOf : GoodIn wsX3_isCandidate wsX3_scoreOf := goodIn_r _ [7, 8, 9, 10, 11, 12, 13, 14, 15, 16, 17, 18, 19, 20, 21, 22, 23, 6, 24, 25, 26, 27, 28, 29, 30, 31, 32, 33, 34, 35, 36, 37, 38, 39, 40, 41, 42, 43, 44, 45, 46, 47, 48, 49, 50, 51, 52, 53, 54, 55, 56, 57, 58, 59, 60, 61, 62, 63] (by decide +kernel) (by decide +kernel)
set_option maxRecDepth 20000 in
theorem gX3_isCandidate_X3_scoreOf : GoodIn wsX3_isCandidate (wsV RX3 169 RX3 yX3_scoreOf wsX3_scoreOf) := goodIn_app (goodIn_of _ (by decide +kernel)) ggX3_isCandidate_X3_scoreOf
theorem dX3_isCandidate_0 : decode cX3_isCandidate 0 = .ok (.aload_n 0, 1) := by decide +kernel
theorem dX3_isCandidate_1 : decode cX3_isCandidate 1 = .ok (.getfield 96, 3) := by decide +kernel
theorem dX3_isCandidate_4 : decode cX3_isCandidate 4 = .ok (.iload_n 2, 1) := by decide +kernel
theorem dX3_isCandidate_5 : decode cX3_isCandidate 5 = .ok (.iaload, 1) := by decide +kernel
theorem dX3_isCandidate_6 : decode cX3_isCandidate 6 = .ok (.ifCond .ne 20, 3) := by decide +kernel
theorem dX3_isCandidate_9 : decode cX3_isCandidate 9 = .ok (.aload_n 0, 1) := by decide +kernel
theorem dX3_isCandidate_10 : decode cX3_isCandidate 10 = .ok (.iload_n 1, 1) := by decide +kernel
theorem dX3_isCandidate_11 : decode cX3_isCandidate 11 = .ok (.iload_n 2, 1) := by decide +kernel
theorem dX3_isCandidate_12 : decode cX3_isCandidate 12 = .ok (.invokevirtual 169, 3) := by decide +kernel
theorem dX3_isCandidate_15 : decode cX3_isCandidate 15 = .ok (.aload_n 0, 1) := by decide +kernel
theorem dX3_isCandidate_16 : decode cX3_isCandidate 16 = .ok (.getfield 25, 3) := by decide +kernel
theorem dX3_isCandidate_19 : decode cX3_isCandidate 19 = .ok (.if_icmp .lt 7, 3) := by decide +kernel
theorem dX3_isCandidate_22 : decode cX3_isCandidate 22 = .ok (.iconst 1, 1) := by decide +kernel
theorem dX3_isCandidate_23 : decode cX3_isCandidate 23 = .ok (.goto 4, 3) := by decide +kernel
theorem dX3_isCandidate_26 : decode cX3_isCandidate 26 = .ok (.iconst 0, 1) := by decide +kernel
theorem dX3_isCandidate_27 : decode cX3_isCandidate 27 = .ok (.ireturn, 1) := by decide +kernel
set_option maxRecDepth 20000 in
theorem ggX3_proves_X3_bits : GoodIn wsX3_proves wsX3_bits := goodIn_r _ [6] (by decide +kernel) (by decide +kernel)
set_option maxRecDepth 20000 in
theorem gX3_proves_X3_bits : GoodIn wsX3_proves (va_wsS RX3 132 yX3_bits wsX3_bits) := goodIn_app (goodIn_of _ (by decide +kernel)) ggX3_proves_X3_bits
theorem dX3_proves_0 : decode cX3_proves 0 = .ok (.aload_n 0, 1) := by decide +kernel
theorem dX3_proves_1 : decode cX3_proves 1 = .ok (.getfield 41, 3) := by decide +kernel
theorem dX3_proves_4 : decode cX3_proves 4 = .ok (.iload_n 1, 1) := by decide +kernel
theorem dX3_proves_5 : decode cX3_proves 5 = .ok (.iaload, 1) := by decide +kernel
theorem dX3_proves_6 : decode cX3_proves 6 = .ok (.invokestatic 132, 3) := by decide +kernel
theorem dX3_proves_9 : decode cX3_proves 9 = .ok (.istore_n 3, 1) := by decide +kernel
theorem dX3_proves_10 : decode cX3_proves 10 = .ok (.aload_n 0, 1) := by decide +kernel
theorem dX3_proves_11 : decode cX3_proves 11 = .ok (.getfield 41, 3) := by decide +kernel
theorem dX3_proves_14 : decode cX3_proves 14 = .ok (.iload_n 1, 1) := by decide +kernel
theorem dX3_proves_15 : decode cX3_proves 15 = .ok (.iaload, 1) := by decide +kernel
theorem dX3_proves_16 : decode cX3_proves 16 = .ok (.aload_n 0, 1) := by decide +kernel
theorem dX3_proves_17 : decode cX3_proves 17 = .ok (.getfield 93, 3) := by decide +kernel
theorem dX3_proves_20 : decode cX3_proves 20 = .ok (.iload_n 2, 1) := by decide +kernel
theorem dX3_proves_21 : decode cX3_proves 21 = .ok (.iaload, 1) := by decide +kernel
theorem dX3_proves_22 : decode cX3_proves 22 = .ok (.iand, 1) := by decide +kernel
theorem dX3_proves_23 : decode cX3_proves 23 = .ok (.invokestatic 132, 3) := by decide +kernel
theorem dX3_proves_26 : decode cX3_proves 26 = .ok (.istore 4, 2) := by decide +kernel
theorem dX3_proves_28 : decode cX3_proves 28 = .ok (.iload 4, 2) := by decide +kernel
theorem dX3_proves_30 : decode cX3_proves 30 = .ok (.iload_n 3, 1) := by decide +kernel
theorem dX3_proves_31 : decode cX3_proves 31 = .ok (.iconst 2, 1) := by decide +kernel
theorem dX3_proves_32 : decode cX3_proves 32 = .ok (.if_icmp .ge 7, 3) := by decide +kernel
theorem dX3_proves_35 : decode cX3_proves 35 = .ok (.iload_n 3, 1) := by decide +kernel
theorem dX3_proves_36 : decode cX3_proves 36 = .ok (.goto 4, 3) := by decide +kernel
theorem dX3_proves_39 : decode cX3_proves 39 = .ok (.iconst 2, 1) := by decide +kernel
theorem dX3_proves_40 : decode cX3_proves 40 = .ok (.if_icmp .lt 29, 3) := by decide +kernel
theorem dX3_proves_43 : decode cX3_proves 43 = .ok (.aload_n 0, 1) := by decide +kernel
theorem dX3_proves_44 : decode cX3_proves 44 = .ok (.getfield 93, 3) := by decide +kernel
theorem dX3_proves_47 : decode cX3_proves 47 = .ok (.iload_n 2, 1) := by decide +kernel
theorem dX3_proves_48 : decode cX3_proves 48 = .ok (.iaload, 1) := by decide +kernel
theorem dX3_proves_49 : decode cX3_proves 49 = .ok (.aload_n 0, 1) := by decide +kernel
theorem dX3_proves_50 : decode cX3_proves 50 = .ok (.getfield 41, 3) := by decide +kernel
theorem dX3_proves_53 : decode cX3_proves 53 = .ok (.iload_n 1, 1) := by decide +kernel
theorem dX3_proves_54 : decode cX3_proves 54 = .ok (.iaload, 1) := by decide +kernel
theorem dX3_proves_55 : decode cX3_proves 55 = .ok (.iconst (-1), 1) := by decide +kernel
theorem dX3_proves_56 : decode cX3_proves 56 = .ok (.ixor, 1) := by decide +kernel
theorem dX3_proves_57 : decode cX3_proves 57 = .ok (.iand, 1) := by decide +kernel
theorem dX3_proves_58 : decode cX3_proves 58 = .ok (.invokestatic 132, 3) := by decide +kernel
theorem dX3_proves_61 : decode cX3_proves 61 = .ok (.iconst 1, 1) := by decide +kernel
theorem dX3_proves_62 : decode cX3_proves 62 = .ok (.if_icmp .gt 7, 3) := by decide +kernel
theorem dX3_proves_65 : decode cX3_proves 65 = .ok (.iconst 1, 1) := by decide +kernel
theorem dX3_proves_66 : decode cX3_proves 66 = .ok (.goto 4, 3) := by decide +kernel
theorem dX3_proves_69 : decode cX3_proves 69 = .ok (.iconst 0, 1) := by decide +kernel
theorem dX3_proves_70 : decode cX3_proves 70 = .ok (.ireturn, 1) := by decide +kernel
set_option maxRecDepth 20000 in
theorem ggX3_isBeaten_X3_scoreOf : GoodIn wsX3_isBeaten wsX3_scoreOf := goodIn_r _ [7, 8, 9, 10, 11, 12, 13, 14, 15, 16, 17, 18, 19, 20, 21, 22, 23, 6, 24, 25, 33, 34, 35, 36, 37, 38, 39, 40, 41, 42, 43, 44, 45, 46, 47, 48, 49, 50, 51, 52, 53, 54, 55, 56, 57, 58, 59, 60, 61, 62, 63, 64, 65, 66, 67, 68, 69, 70] (by decide +kernel) (by decide +kernel)
set_option maxRecDepth 20000 in
theorem gX3_isBeaten_X3_scoreOf : GoodIn wsX3_isBeaten (wsV RX3 169 RX3 yX3_scoreOf wsX3_scoreOf) := goodIn_app (goodIn_of _ (by decide +kernel)) ggX3_isBeaten_X3_scoreOf
set_option maxRecDepth 20000 in
theorem ggX3_isBeaten_X3_proves : GoodIn wsX3_isBeaten wsX3_proves := goodIn_r _ [29, 17, 18, 30, 31, 6, 32, 33, 34, 35, 36, 37, 38, 39, 40, 41, 42, 43, 44, 45, 46, 47, 48, 49, 50, 51, 52, 53, 54, 55, 56, 57, 58, 59, 60, 61, 62, 63, 64, 65, 66, 67, 68, 69, 70] (by decide +kernel) (by decide +kernel)
set_option maxRecDepth 20000 in
theorem gX3_isBeaten_X3_proves : GoodIn wsX3_isBeaten (wsV RX3 172 RX3 yX3_proves wsX3_proves) := goodIn_app (goodIn_of _ (by decide +kernel)) ggX3_isBeaten_X3_proves
theorem dX3_isBeaten_0 : decode cX3_isBeaten 0 = .ok (.iconst 0, 1) := by decide +kernel
theorem dX3_isBeaten_1 : decode cX3_isBeaten 1 = .ok (.istore_n 3, 1) := by decide +kernel
theorem dX3_isBeaten_2 : decode cX3_isBeaten 2 = .ok (.aload_n 0, 1) := by decide +kernel
theorem dX3_isBeaten_3 : decode cX3_isBeaten 3 = .ok (.iload_n 1, 1) := by decide +kernel
theorem dX3_isBeaten_4 : decode cX3_isBeaten 4 = .ok (.iload_n 2, 1) := by decide +kernel
theorem dX3_isBeaten_5 : decode cX3_isBeaten 5 = .ok (.invokevirtual 169, 3) := by decide +kernel
theorem dX3_isBeaten_8 : decode cX3_isBeaten 8 = .ok (.istore 4, 2) := by decide +kernel
theorem dX3_isBeaten_10 : decode cX3_isBeaten 10 = .ok (.iconst 0, 1) := by decide +kernel
theorem dX3_isBeaten_11 : decode cX3_isBeaten 11 = .ok (.istore 5, 2) := by decide +kernel
theorem dX3_isBeaten_13 : decode cX3_isBeaten 13 = .ok (.iload 5, 2) := by decide +kernel
theorem dX3_isBeaten_15 : decode cX3_isBeaten 15 = .ok (.aload_n 0, 1) := by decide +kernel
theorem dX3_isBeaten_16 : decode cX3_isBeaten 16 = .ok (.getfield 116, 3) := by decide +kernel
theorem dX3_isBeaten_19 : decode cX3_isBeaten 19 = .ok (.if_icmp .ge 74, 3) := by decide +kernel
theorem dX3_isBeaten_22 : decode cX3_isBeaten 22 = .ok (.aload_n 0, 1) := by decide +kernel
theorem dX3_isBeaten_23 : decode cX3_isBeaten 23 = .ok (.iload_n 1, 1) := by decide +kernel
theorem dX3_isBeaten_24 : decode cX3_isBeaten 24 = .ok (.iload 5, 2) := by decide +kernel
theorem dX3_isBeaten_26 : decode cX3_isBeaten 26 = .ok (.invokevirtual 169, 3) := by decide +kernel
theorem dX3_isBeaten_29 : decode cX3_isBeaten 29 = .ok (.istore 6, 2) := by decide +kernel
theorem dX3_isBeaten_31 : decode cX3_isBeaten 31 = .ok (.iload_n 3, 1) := by decide +kernel
theorem dX3_isBeaten_32 : decode cX3_isBeaten 32 = .ok (.ifCond .ne 49, 3) := by decide +kernel
theorem dX3_isBeaten_35 : decode cX3_isBeaten 35 = .ok (.iload 5, 2) := by decide +kernel
theorem dX3_isBeaten_37 : decode cX3_isBeaten 37 = .ok (.iload_n 2, 1) := by decide +kernel
theorem dX3_isBeaten_38 : decode cX3_isBeaten 38 = .ok (.if_icmp .eq 47, 3) := by decide +kernel
theorem dX3_isBeaten_41 : decode cX3_isBeaten 41 = .ok (.aload_n 0, 1) := by decide +kernel
theorem dX3_isBeaten_42 : decode cX3_isBeaten 42 = .ok (.getfield 96, 3) := by decide +kernel
theorem dX3_isBeaten_45 : decode cX3_isBeaten 45 = .ok (.iload 5, 2) := by decide +kernel
theorem dX3_isBeaten_47 : decode cX3_isBeaten 47 = .ok (.iaload, 1) := by decide +kernel
theorem dX3_isBeaten_48 : decode cX3_isBeaten 48 = .ok (.ifCond .ne 37, 3) := by decide +kernel
theorem dX3_isBeaten_51 : decode cX3_isBeaten 51 = .ok (.aload_n 0, 1) := by decide +kernel
theorem dX3_isBeaten_52 : decode cX3_isBeaten 52 = .ok (.iload_n 1, 1) := by decide +kernel
theorem dX3_isBeaten_53 : decode cX3_isBeaten 53 = .ok (.iload 5, 2) := by decide +kernel
theorem dX3_isBeaten_55 : decode cX3_isBeaten 55 = .ok (.invokevirtual 172, 3) := by decide +kernel
theorem dX3_isBeaten_58 : decode cX3_isBeaten 58 = .ok (.ifCond .eq 27, 3) := by decide +kernel
theorem dX3_isBeaten_61 : decode cX3_isBeaten 61 = .ok (.iload 6, 2) := by decide +kernel
theorem dX3_isBeaten_63 : decode cX3_isBeaten 63 = .ok (.iload 4, 2) := by decide +kernel
theorem dX3_isBeaten_65 : decode cX3_isBeaten 65 = .ok (.if_icmp .gt 16, 3) := by decide +kernel
theorem dX3_isBeaten_68 : decode cX3_isBeaten 68 = .ok (.iload 6, 2) := by decide +kernel
theorem dX3_isBeaten_70 : decode cX3_isBeaten 70 = .ok (.iload 4, 2) := by decide +kernel
theorem dX3_isBeaten_72 : decode cX3_isBeaten 72 = .ok (.if_icmp .ne 13, 3) := by decide +kernel
theorem dX3_isBeaten_75 : decode cX3_isBeaten 75 = .ok (.iload 5, 2) := by decide +kernel
theorem dX3_isBeaten_77 : decode cX3_isBeaten 77 = .ok (.iload_n 2, 1) := by decide +kernel
theorem dX3_isBeaten_78 : decode cX3_isBeaten 78 = .ok (.if_icmp .ge 7, 3) := by decide +kernel
theorem dX3_isBeaten_81 : decode cX3_isBeaten 81 = .ok (.iconst 1, 1) := by decide +kernel
theorem dX3_isBeaten_82 : decode cX3_isBeaten 82 = .ok (.goto 4, 3) := by decide +kernel
theorem dX3_isBeaten_85 : decode cX3_isBeaten 85 = .ok (.iconst 0, 1) := by decide +kernel
theorem dX3_isBeaten_86 : decode cX3_isBeaten 86 = .ok (.istore_n 3, 1) := by decide +kernel
theorem dX3_isBeaten_87 : decode cX3_isBeaten 87 = .ok (.iinc 5 1, 3) := by decide +kernel
theorem dX3_isBeaten_90 : decode cX3_isBeaten 90 = .ok (.goto (-77), 3) := by decide +kernel
theorem dX3_isBeaten_93 : decode cX3_isBeaten 93 = .ok (.iload_n 3, 1) := by decide +kernel
theorem dX3_isBeaten_94 : decode cX3_isBeaten 94 = .ok (.ireturn, 1) := by decide +kernel
set_option maxRecDepth 20000 in
theorem ggX3_canServe_X3_isCandidate : GoodIn wsX3_canServe wsX3_isCandidate := goodIn_r _ [5, 6, 7, 8, 9, 10, 4, 11, 12, 13, 14, 15, 16, 17, 18, 19, 20, 21, 22, 23, 24, 25, 26, 27, 28, 29, 42, 43, 44, 45, 46, 47, 48, 49, 50, 51, 52, 53, 54, 55, 56, 57, 58, 59, 60, 61, 62, 63, 64, 65, 66, 67, 68, 69, 70, 71, 72, 73, 74, 75, 76, 77, 78, 79] (by decide +kernel) (by decide +kernel)
set_option maxRecDepth 20000 in
theorem gX3_canServe_X3_isCandidate : GoodIn wsX3_canServe (wsV RX3 176 RX3 yX3_isCandidate wsX3_isCandidate) := goodIn_app (goodIn_of _ (by decide +kernel)) ggX3_canServe_X3_isCandidate
set_option maxRecDepth 20000 in
theorem ggX3_canServe_X3_proves : GoodIn wsX3_canServe wsX3_proves := goodIn_r _ [33, 21, 22, 34, 35, 4, 36, 42, 43, 44, 45, 46, 47, 48, 49, 50, 51, 52, 53, 54, 55, 56, 57, 58, 59, 60, 61, 62, 63, 64, 65, 66, 67, 68, 69, 70, 71, 72, 73, 74, 75, 76, 77, 78, 79] (by decide +kernel) (by decide +kernel)
set_option maxRecDepth 20000 in
theorem gX3_canServe_X3_proves : GoodIn wsX3_canServe (wsV RX3 172 RX3 yX3_proves wsX3_proves) := goodIn_app (goodIn_of _ (by decide +kernel)) ggX3_canServe_X3_proves
set_option maxRecDepth 20000 in
theorem ggX3_canServe_X3_isBeaten : GoodIn wsX3_canServe wsX3_isBeaten := goodIn_r _ [40, 41, 6, 8, 9, 10, 4, 11, 12, 13, 14, 15, 16, 17, 18, 19, 20, 21, 22, 23, 24, 25, 26, 27, 28, 29, 30, 31, 32, 33, 34, 35, 36, 42, 43, 44, 45, 46, 47, 48, 49, 50, 51, 52, 53, 54, 55, 56, 57, 58, 59, 60, 61, 62, 63, 64, 65, 66, 67, 68, 69, 70, 71, 72, 73, 74, 75, 76, 77, 78, 79] (by decide +kernel) (by decide +kernel)
set_option maxRecDepth 20000 in
theorem gX3_canServe_X3_isBeaten : GoodIn wsX3_canServe (wsV RX3 179 RX3 yX3_isBeaten wsX3_isBeaten) := goodIn_app (goodIn_of _ (by decide +kernel)) ggX3_canServe_X3_isBeaten
theorem dX3_canServe_0 : decode cX3_canServe 0 = .ok (.aload_n 0, 1) := by decide +kernel
theorem dX3_canServe_1 : decode cX3_canServe 1 = .ok (.iload_n 1, 1) := by decide +kernel
theorem dX3_canServe_2 : decode cX3_canServe 2 = .ok (.iload_n 2, 1) := by decide +kernel
theorem dX3_canServe_3 : decode cX3_canServe 3 = .ok (.invokevirtual 176, 3) := by decide +kernel
theorem dX3_canServe_6 : decode cX3_canServe 6 = .ok (.ifCond .eq 25, 3) := by decide +kernel
theorem dX3_canServe_9 : decode cX3_canServe 9 = .ok (.aload_n 0, 1) := by decide +kernel
theorem dX3_canServe_10 : decode cX3_canServe 10 = .ok (.iload_n 1, 1) := by decide +kernel
theorem dX3_canServe_11 : decode cX3_canServe 11 = .ok (.iload_n 2, 1) := by decide +kernel
theorem dX3_canServe_12 : decode cX3_canServe 12 = .ok (.invokevirtual 172, 3) := by decide +kernel
theorem dX3_canServe_15 : decode cX3_canServe 15 = .ok (.ifCond .eq 16, 3) := by decide +kernel
theorem dX3_canServe_18 : decode cX3_canServe 18 = .ok (.aload_n 0, 1) := by decide +kernel
theorem dX3_canServe_19 : decode cX3_canServe 19 = .ok (.iload_n 1, 1) := by decide +kernel
theorem dX3_canServe_20 : decode cX3_canServe 20 = .ok (.iload_n 2, 1) := by decide +kernel
theorem dX3_canServe_21 : decode cX3_canServe 21 = .ok (.invokevirtual 179, 3) := by decide +kernel
theorem dX3_canServe_24 : decode cX3_canServe 24 = .ok (.ifCond .ne 7, 3) := by decide +kernel
theorem dX3_canServe_27 : decode cX3_canServe 27 = .ok (.iconst 1, 1) := by decide +kernel
theorem dX3_canServe_28 : decode cX3_canServe 28 = .ok (.goto 4, 3) := by decide +kernel
theorem dX3_canServe_31 : decode cX3_canServe 31 = .ok (.iconst 0, 1) := by decide +kernel
theorem dX3_canServe_32 : decode cX3_canServe 32 = .ok (.ireturn, 1) := by decide +kernel
set_option maxRecDepth 20000 in
theorem ggX3_release_X3_isFind : GoodIn wsX3_release wsX3_isFind := goodIn_r _ [12, 13, 14, 15, 11, 16, 76, 77, 78, 79, 80, 81, 82, 83, 84, 85, 86, 87, 88, 89, 90, 91, 92, 93, 94, 95, 96, 97, 98, 99, 100, 101, 102, 103, 104, 105, 106, 107, 108, 109, 110, 111, 112, 113] (by decide +kernel) (by decide +kernel)
set_option maxRecDepth 20000 in
theorem gX3_release_X3_isFind : GoodIn wsX3_release (wsV RX3 149 RX3 yX3_isFind wsX3_isFind) := goodIn_app (goodIn_of _ (by decide +kernel)) ggX3_release_X3_isFind
set_option maxRecDepth 20000 in
theorem ggX3_release_X3_isClaim : GoodIn wsX3_release wsX3_isClaim := goodIn_r _ [20, 21, 14, 15, 11, 16, 76, 77, 78, 79, 80, 81, 82, 83, 84, 85, 86, 87, 88, 89, 90, 91, 92, 93, 94, 95, 96, 97, 98, 99, 100, 101, 102, 103, 104, 105, 106, 107, 108, 109, 110, 111, 112, 113] (by decide +kernel) (by decide +kernel)
set_option maxRecDepth 20000 in
theorem gX3_release_X3_isClaim : GoodIn wsX3_release (wsV RX3 155 RX3 yX3_isClaim wsX3_isClaim) := goodIn_app (goodIn_of _ (by decide +kernel)) ggX3_release_X3_isClaim
set_option maxRecDepth 20000 in
theorem ggX3_release_X3_canServe : GoodIn wsX3_release wsX3_canServe := goodIn_r _ [25, 26, 27, 28, 11, 29, 30, 31, 32, 33, 34, 35, 5, 36, 37, 38, 39, 40, 41, 42, 43, 44, 45, 46, 47, 48, 49, 50, 51, 52, 53, 54, 55, 56, 57, 58, 59, 60, 61, 62, 63, 21, 76, 77, 78, 79, 80, 81, 82, 83, 84, 85, 86, 87, 88, 89, 90, 91, 92, 93, 94, 95, 96, 97, 98, 99, 100, 101, 102, 103, 104, 105, 106, 107, 108, 109, 110, 111, 112, 113] (by decide +kernel) (by decide +kernel)
set_option maxRecDepth 20000 in
theorem gX3_release_X3_canServe : GoodIn wsX3_release (wsV RX3 182 RX3 yX3_canServe wsX3_canServe) := goodIn_app (goodIn_of _ (by decide +kernel)) ggX3_release_X3_canServe
set_option maxRecDepth 20000 in
theorem ggX3_release_X3_holds : GoodIn wsX3_release wsX3_holds := goodIn_r _ [67, 68, 76, 77, 78, 79, 80, 81, 82, 83, 84, 85, 86, 87, 88, 89, 90, 91, 92, 93, 94, 95, 96, 97, 98, 99, 100, 101, 102, 103, 104, 105, 106, 107, 108, 109, 110, 111, 112, 113] (by decide +kernel) (by decide +kernel)
set_option maxRecDepth 20000 in
theorem gX3_release_X3_holds : GoodIn wsX3_release (wsV RX3 123 RX3 yX3_holds wsX3_holds) := goodIn_app (goodIn_of _ (by decide +kernel)) ggX3_release_X3_holds
set_option maxRecDepth 20000 in
theorem ggX3_release_X3_ends : GoodIn wsX3_release wsX3_ends := goodIn_r _ [72, 30, 73, 74, 75, 76, 77, 78, 79, 80, 81, 82, 83, 84, 85, 86, 87, 88, 89, 90, 91, 92, 93, 94, 95, 96, 97, 98, 99, 100, 101, 102, 103, 104, 105, 106, 107, 108, 109, 110, 111, 112, 113] (by decide +kernel) (by decide +kernel)
set_option maxRecDepth 20000 in
theorem gX3_release_X3_ends : GoodIn wsX3_release (wsV RX3 162 RX3 yX3_ends wsX3_ends) := goodIn_app (goodIn_of _ (by decide +kernel)) ggX3_release_X3_ends
theorem dX3_release_0 : decode cX3_release 0 = .ok (.aload_n 0, 1) := by decide +kernel
theorem dX3_release_1 : decode cX3_release 1 = .ok (.iload_n 1, 1) := by decide +kernel
theorem dX3_release_2 : decode cX3_release 2 = .ok (.invokevirtual 149, 3) := by decide +kernel
theorem dX3_release_5 : decode cX3_release 5 = .ok (.ifCond .eq 15, 3) := by decide +kernel
theorem dX3_release_8 : decode cX3_release 8 = .ok (.aload_n 0, 1) := by decide +kernel
theorem dX3_release_9 : decode cX3_release 9 = .ok (.iload_n 2, 1) := by decide +kernel
theorem dX3_release_10 : decode cX3_release 10 = .ok (.invokevirtual 155, 3) := by decide +kernel
theorem dX3_release_13 : decode cX3_release 13 = .ok (.ifCond .eq 7, 3) := by decide +kernel
theorem dX3_release_16 : decode cX3_release 16 = .ok (.iconst 1, 1) := by decide +kernel
theorem dX3_release_17 : decode cX3_release 17 = .ok (.goto 4, 3) := by decide +kernel
theorem dX3_release_20 : decode cX3_release 20 = .ok (.iconst 0, 1) := by decide +kernel
theorem dX3_release_21 : decode cX3_release 21 = .ok (.istore_n 3, 1) := by decide +kernel
theorem dX3_release_22 : decode cX3_release 22 = .ok (.aload_n 0, 1) := by decide +kernel
theorem dX3_release_23 : decode cX3_release 23 = .ok (.iload_n 3, 1) := by decide +kernel
theorem dX3_release_24 : decode cX3_release 24 = .ok (.ifCond .ne 7, 3) := by decide +kernel
theorem dX3_release_27 : decode cX3_release 27 = .ok (.iconst 1, 1) := by decide +kernel
theorem dX3_release_28 : decode cX3_release 28 = .ok (.goto 35, 3) := by decide +kernel
theorem dX3_release_31 : decode cX3_release 31 = .ok (.aload_n 0, 1) := by decide +kernel
theorem dX3_release_32 : decode cX3_release 32 = .ok (.getfield 47, 3) := by decide +kernel
theorem dX3_release_35 : decode cX3_release 35 = .ok (.iload_n 1, 1) := by decide +kernel
theorem dX3_release_36 : decode cX3_release 36 = .ok (.iaload, 1) := by decide +kernel
theorem dX3_release_37 : decode cX3_release 37 = .ok (.ifCond .ne 21, 3) := by decide +kernel
theorem dX3_release_40 : decode cX3_release 40 = .ok (.aload_n 0, 1) := by decide +kernel
theorem dX3_release_41 : decode cX3_release 41 = .ok (.getfield 59, 3) := by decide +kernel
theorem dX3_release_44 : decode cX3_release 44 = .ok (.iload_n 1, 1) := by decide +kernel
theorem dX3_release_45 : decode cX3_release 45 = .ok (.baload, 1) := by decide +kernel
theorem dX3_release_46 : decode cX3_release 46 = .ok (.ifCond .ne 12, 3) := by decide +kernel
theorem dX3_release_49 : decode cX3_release 49 = .ok (.aload_n 0, 1) := by decide +kernel
theorem dX3_release_50 : decode cX3_release 50 = .ok (.iload_n 1, 1) := by decide +kernel
theorem dX3_release_51 : decode cX3_release 51 = .ok (.iload_n 2, 1) := by decide +kernel
theorem dX3_release_52 : decode cX3_release 52 = .ok (.invokevirtual 182, 3) := by decide +kernel
theorem dX3_release_55 : decode cX3_release 55 = .ok (.ifCond .ne 7, 3) := by decide +kernel
theorem dX3_release_58 : decode cX3_release 58 = .ok (.iconst 2, 1) := by decide +kernel
theorem dX3_release_59 : decode cX3_release 59 = .ok (.goto 4, 3) := by decide +kernel
theorem dX3_release_62 : decode cX3_release 62 = .ok (.iconst 0, 1) := by decide +kernel
theorem dX3_release_63 : decode cX3_release 63 = .ok (.invokevirtual 123, 3) := by decide +kernel
theorem dX3_release_66 : decode cX3_release 66 = .ok (.ifCond .ne 5, 3) := by decide +kernel
theorem dX3_release_69 : decode cX3_release 69 = .ok (.iconst 0, 1) := by decide +kernel
theorem dX3_release_70 : decode cX3_release 70 = .ok (.ireturn, 1) := by decide +kernel
theorem dX3_release_71 : decode cX3_release 71 = .ok (.aload_n 0, 1) := by decide +kernel
theorem dX3_release_72 : decode cX3_release 72 = .ok (.getfield 44, 3) := by decide +kernel
theorem dX3_release_75 : decode cX3_release 75 = .ok (.iload_n 1, 1) := by decide +kernel
theorem dX3_release_76 : decode cX3_release 76 = .ok (.iaload, 1) := by decide +kernel
theorem dX3_release_77 : decode cX3_release 77 = .ok (.aload_n 0, 1) := by decide +kernel
theorem dX3_release_78 : decode cX3_release 78 = .ok (.getfield 19, 3) := by decide +kernel
theorem dX3_release_81 : decode cX3_release 81 = .ok (.aload_n 0, 1) := by decide +kernel
theorem dX3_release_82 : decode cX3_release 82 = .ok (.getfield 29, 3) := by decide +kernel
theorem dX3_release_85 : decode cX3_release 85 = .ok (.iload_n 1, 1) := by decide +kernel
theorem dX3_release_86 : decode cX3_release 86 = .ok (.iaload, 1) := by decide +kernel
theorem dX3_release_87 : decode cX3_release 87 = .ok (.iaload, 1) := by decide +kernel
theorem dX3_release_88 : decode cX3_release 88 = .ok (.imul, 1) := by decide +kernel
theorem dX3_release_89 : decode cX3_release 89 = .ok (.bipush 100, 2) := by decide +kernel
theorem dX3_release_91 : decode cX3_release 91 = .ok (.idiv, 1) := by decide +kernel
theorem dX3_release_92 : decode cX3_release 92 = .ok (.istore 4, 2) := by decide +kernel
theorem dX3_release_94 : decode cX3_release 94 = .ok (.aload_n 0, 1) := by decide +kernel
theorem dX3_release_95 : decode cX3_release 95 = .ok (.dup, 1) := by decide +kernel
theorem dX3_release_96 : decode cX3_release 96 = .ok (.getfield 185, 3) := by decide +kernel
theorem dX3_release_99 : decode cX3_release 99 = .ok (.iconst 5, 1) := by decide +kernel
theorem dX3_release_100 : decode cX3_release 100 = .ok (.iadd, 1) := by decide +kernel
theorem dX3_release_101 : decode cX3_release 101 = .ok (.putfield 185, 3) := by decide +kernel
theorem dX3_release_104 : decode cX3_release 104 = .ok (.aload_n 0, 1) := by decide +kernel
theorem dX3_release_105 : decode cX3_release 105 = .ok (.dup, 1) := by decide +kernel
theorem dX3_release_106 : decode cX3_release 106 = .ok (.getfield 188, 3) := by decide +kernel
theorem dX3_release_109 : decode cX3_release 109 = .ok (.iload 4, 2) := by decide +kernel
theorem dX3_release_111 : decode cX3_release 111 = .ok (.iadd, 1) := by decide +kernel
theorem dX3_release_112 : decode cX3_release 112 = .ok (.putfield 188, 3) := by decide +kernel
theorem dX3_release_115 : decode cX3_release 115 = .ok (.aload_n 0, 1) := by decide +kernel
theorem dX3_release_116 : decode cX3_release 116 = .ok (.getfield 47, 3) := by decide +kernel
theorem dX3_release_119 : decode cX3_release 119 = .ok (.iload_n 1, 1) := by decide +kernel
theorem dX3_release_120 : decode cX3_release 120 = .ok (.iconst 3, 1) := by decide +kernel
theorem dX3_release_121 : decode cX3_release 121 = .ok (.iastore, 1) := by decide +kernel
theorem dX3_release_122 : decode cX3_release 122 = .ok (.aload_n 0, 1) := by decide +kernel
theorem dX3_release_123 : decode cX3_release 123 = .ok (.iload_n 2, 1) := by decide +kernel
theorem dX3_release_124 : decode cX3_release 124 = .ok (.iconst 1, 1) := by decide +kernel
theorem dX3_release_125 : decode cX3_release 125 = .ok (.iload_n 1, 1) := by decide +kernel
theorem dX3_release_126 : decode cX3_release 126 = .ok (.invokevirtual 162, 3) := by decide +kernel
theorem dX3_release_129 : decode cX3_release 129 = .ok (.iconst 5, 1) := by decide +kernel
theorem dX3_release_130 : decode cX3_release 130 = .ok (.iload 4, 2) := by decide +kernel
theorem dX3_release_132 : decode cX3_release 132 = .ok (.iadd, 1) := by decide +kernel
theorem dX3_release_133 : decode cX3_release 133 = .ok (.ireturn, 1) := by decide +kernel
set_option maxRecDepth 20000 in
theorem ggX3_isOver_X3_isCandidate : GoodIn wsX3_isOver wsX3_isCandidate := goodIn_r _ [10, 11, 12, 13, 14, 15, 9, 16, 17, 18, 19, 20, 21, 22, 23, 24, 25, 26, 27, 28, 29, 30, 31, 32, 33, 34, 35, 36, 37, 38, 39, 40, 41, 42, 43, 44, 45, 46, 47, 48, 49, 50, 51, 52, 53, 54, 55, 56, 57, 58, 59, 60, 61, 62, 63, 64, 65, 66, 67, 68, 69, 70, 71, 72] (by decide +kernel) (by decide +kernel)
set_option maxRecDepth 20000 in
theorem gX3_isOver_X3_isCandidate : GoodIn wsX3_isOver (wsV RX3 176 RX3 yX3_isCandidate wsX3_isCandidate) := goodIn_app (goodIn_of _ (by decide +kernel)) ggX3_isOver_X3_isCandidate
theorem dX3_isOver_0 : decode cX3_isOver 0 = .ok (.aload_n 0, 1) := by decide +kernel
theorem dX3_isOver_1 : decode cX3_isOver 1 = .ok (.getfield 47, 3) := by decide +kernel
theorem dX3_isOver_4 : decode cX3_isOver 4 = .ok (.iload_n 1, 1) := by decide +kernel
theorem dX3_isOver_5 : decode cX3_isOver 5 = .ok (.iaload, 1) := by decide +kernel
theorem dX3_isOver_6 : decode cX3_isOver 6 = .ok (.ifCond .ne 29, 3) := by decide +kernel
theorem dX3_isOver_9 : decode cX3_isOver 9 = .ok (.aload_n 0, 1) := by decide +kernel
theorem dX3_isOver_10 : decode cX3_isOver 10 = .ok (.getfield 56, 3) := by decide +kernel
theorem dX3_isOver_13 : decode cX3_isOver 13 = .ok (.iload_n 1, 1) := by decide +kernel
theorem dX3_isOver_14 : decode cX3_isOver 14 = .ok (.iaload, 1) := by decide +kernel
theorem dX3_isOver_15 : decode cX3_isOver 15 = .ok (.aload_n 0, 1) := by decide +kernel
theorem dX3_isOver_16 : decode cX3_isOver 16 = .ok (.getfield 136, 3) := by decide +kernel
theorem dX3_isOver_19 : decode cX3_isOver 19 = .ok (.if_icmp .ge 16, 3) := by decide +kernel
theorem dX3_isOver_22 : decode cX3_isOver 22 = .ok (.aload_n 0, 1) := by decide +kernel
theorem dX3_isOver_23 : decode cX3_isOver 23 = .ok (.getfield 59, 3) := by decide +kernel
theorem dX3_isOver_26 : decode cX3_isOver 26 = .ok (.iload_n 1, 1) := by decide +kernel
theorem dX3_isOver_27 : decode cX3_isOver 27 = .ok (.baload, 1) := by decide +kernel
theorem dX3_isOver_28 : decode cX3_isOver 28 = .ok (.ifCond .ne 7, 3) := by decide +kernel
theorem dX3_isOver_31 : decode cX3_isOver 31 = .ok (.iconst 1, 1) := by decide +kernel
theorem dX3_isOver_32 : decode cX3_isOver 32 = .ok (.goto 4, 3) := by decide +kernel
theorem dX3_isOver_35 : decode cX3_isOver 35 = .ok (.iconst 0, 1) := by decide +kernel
theorem dX3_isOver_36 : decode cX3_isOver 36 = .ok (.istore_n 2, 1) := by decide +kernel
theorem dX3_isOver_37 : decode cX3_isOver 37 = .ok (.iconst 0, 1) := by decide +kernel
theorem dX3_isOver_38 : decode cX3_isOver 38 = .ok (.istore_n 3, 1) := by decide +kernel
theorem dX3_isOver_39 : decode cX3_isOver 39 = .ok (.iload_n 3, 1) := by decide +kernel
theorem dX3_isOver_40 : decode cX3_isOver 40 = .ok (.aload_n 0, 1) := by decide +kernel
theorem dX3_isOver_41 : decode cX3_isOver 41 = .ok (.getfield 116, 3) := by decide +kernel
theorem dX3_isOver_44 : decode cX3_isOver 44 = .ok (.if_icmp .ge 28, 3) := by decide +kernel
theorem dX3_isOver_47 : decode cX3_isOver 47 = .ok (.iload_n 2, 1) := by decide +kernel
theorem dX3_isOver_48 : decode cX3_isOver 48 = .ok (.ifCond .eq 16, 3) := by decide +kernel
theorem dX3_isOver_51 : decode cX3_isOver 51 = .ok (.aload_n 0, 1) := by decide +kernel
theorem dX3_isOver_52 : decode cX3_isOver 52 = .ok (.iload_n 1, 1) := by decide +kernel
theorem dX3_isOver_53 : decode cX3_isOver 53 = .ok (.iload_n 3, 1) := by decide +kernel
theorem dX3_isOver_54 : decode cX3_isOver 54 = .ok (.invokevirtual 176, 3) := by decide +kernel
theorem dX3_isOver_57 : decode cX3_isOver 57 = .ok (.ifCond .ne 7, 3) := by decide +kernel
theorem dX3_isOver_60 : decode cX3_isOver 60 = .ok (.iconst 1, 1) := by decide +kernel
theorem dX3_isOver_61 : decode cX3_isOver 61 = .ok (.goto 4, 3) := by decide +kernel
theorem dX3_isOver_64 : decode cX3_isOver 64 = .ok (.iconst 0, 1) := by decide +kernel
theorem dX3_isOver_65 : decode cX3_isOver 65 = .ok (.istore_n 2, 1) := by decide +kernel
theorem dX3_isOver_66 : decode cX3_isOver 66 = .ok (.iinc 3 1, 3) := by decide +kernel
theorem dX3_isOver_69 : decode cX3_isOver 69 = .ok (.goto (-30), 3) := by decide +kernel
theorem dX3_isOver_72 : decode cX3_isOver 72 = .ok (.iload_n 2, 1) := by decide +kernel
theorem dX3_isOver_73 : decode cX3_isOver 73 = .ok (.ireturn, 1) := by decide +kernel
set_option maxRecDepth 20000 in
theorem ggX3_extend_X3_isFind : GoodIn wsX3_extend wsX3_isFind := goodIn_r _ [8, 9, 10, 11, 7, 12, 23, 24, 25, 26, 27, 28, 29, 30, 31, 32, 33, 34, 35, 36, 37, 38, 39, 40, 41, 42, 43, 44, 45, 46, 47, 48, 49, 50, 51, 52, 53, 54, 55, 56, 57, 58, 59, 60] (by decide +kernel) (by decide +kernel)
set_option maxRecDepth 20000 in
theorem gX3_extend_X3_isFind : GoodIn wsX3_extend (wsV RX3 149 RX3 yX3_isFind wsX3_isFind) := goodIn_app (goodIn_of _ (by decide +kernel)) ggX3_extend_X3_isFind
set_option maxRecDepth 20000 in
theorem ggX3_extend_X3_in : GoodIn wsX3_extend wsX3_in := goodIn_r _ [12] (by decide +kernel) (by decide +kernel)
set_option maxRecDepth 20000 in
theorem gX3_extend_X3_in : GoodIn wsX3_extend (va_wsS RX3 108 yX3_in wsX3_in) := goodIn_app (goodIn_of _ (by decide +kernel)) ggX3_extend_X3_in
set_option maxRecDepth 20000 in
theorem ggX3_extend_X3_isHere : GoodIn wsX3_extend wsX3_isHere := goodIn_r _ [16, 17, 23, 24, 25, 26, 27, 28, 29, 30, 31, 32, 33, 34, 35, 36, 37, 38, 39, 40, 41, 42, 43, 44, 45, 46, 47, 48, 49, 50, 51, 52, 53, 54, 55, 56, 57, 58, 59, 60] (by decide +kernel) (by decide +kernel)
set_option maxRecDepth 20000 in
theorem gX3_extend_X3_isHere : GoodIn wsX3_extend (wsV RX3 152 RX3 yX3_isHere wsX3_isHere) := goodIn_app (goodIn_of _ (by decide +kernel)) ggX3_extend_X3_isHere
set_option maxRecDepth 20000 in
theorem ggX3_extend_X3_holds : GoodIn wsX3_extend wsX3_holds := goodIn_r _ [21, 22, 23, 24, 25, 26, 27, 28, 29, 30, 31, 32, 33, 34, 35, 36, 37, 38, 39, 40, 41, 42, 43, 44, 45, 46, 47, 48, 49, 50, 51, 52, 53, 54, 55, 56, 57, 58, 59, 60] (by decide +kernel) (by decide +kernel)
set_option maxRecDepth 20000 in
theorem gX3_extend_X3_holds : GoodIn wsX3_extend (wsV RX3 123 RX3 yX3_holds wsX3_holds) := goodIn_app (goodIn_of _ (by decide +kernel)) ggX3_extend_X3_holds
theorem dX3_extend_0 : decode cX3_extend 0 = .ok (.aload_n 0, 1) := by decide +kernel
theorem dX3_extend_1 : decode cX3_extend 1 = .ok (.iload_n 1, 1) := by decide +kernel
theorem dX3_extend_2 : decode cX3_extend 2 = .ok (.invokevirtual 149, 3) := by decide +kernel
theorem dX3_extend_5 : decode cX3_extend 5 = .ok (.istore_n 3, 1) := by decide +kernel
theorem dX3_extend_6 : decode cX3_extend 6 = .ok (.aload_n 0, 1) := by decide +kernel
theorem dX3_extend_7 : decode cX3_extend 7 = .ok (.iload_n 3, 1) := by decide +kernel
theorem dX3_extend_8 : decode cX3_extend 8 = .ok (.ifCond .ne 7, 3) := by decide +kernel
theorem dX3_extend_11 : decode cX3_extend 11 = .ok (.iconst 1, 1) := by decide +kernel
theorem dX3_extend_12 : decode cX3_extend 12 = .ok (.goto 42, 3) := by decide +kernel
theorem dX3_extend_15 : decode cX3_extend 15 = .ok (.iload_n 2, 1) := by decide +kernel
theorem dX3_extend_16 : decode cX3_extend 16 = .ok (.iconst 1, 1) := by decide +kernel
theorem dX3_extend_17 : decode cX3_extend 17 = .ok (.sipush 365, 3) := by decide +kernel
theorem dX3_extend_20 : decode cX3_extend 20 = .ok (.invokestatic 108, 3) := by decide +kernel
theorem dX3_extend_23 : decode cX3_extend 23 = .ok (.ifCond .ne 7, 3) := by decide +kernel
theorem dX3_extend_26 : decode cX3_extend 26 = .ok (.iconst 2, 1) := by decide +kernel
theorem dX3_extend_27 : decode cX3_extend 27 = .ok (.goto 27, 3) := by decide +kernel
theorem dX3_extend_30 : decode cX3_extend 30 = .ok (.aload_n 0, 1) := by decide +kernel
theorem dX3_extend_31 : decode cX3_extend 31 = .ok (.iload_n 1, 1) := by decide +kernel
theorem dX3_extend_32 : decode cX3_extend 32 = .ok (.invokevirtual 152, 3) := by decide +kernel
theorem dX3_extend_35 : decode cX3_extend 35 = .ok (.ifCond .eq 14, 3) := by decide +kernel
theorem dX3_extend_38 : decode cX3_extend 38 = .ok (.aload_n 0, 1) := by decide +kernel
theorem dX3_extend_39 : decode cX3_extend 39 = .ok (.getfield 29, 3) := by decide +kernel
theorem dX3_extend_42 : decode cX3_extend 42 = .ok (.iload_n 1, 1) := by decide +kernel
theorem dX3_extend_43 : decode cX3_extend 43 = .ok (.iaload, 1) := by decide +kernel
theorem dX3_extend_44 : decode cX3_extend 44 = .ok (.bipush 7, 2) := by decide +kernel
theorem dX3_extend_46 : decode cX3_extend 46 = .ok (.if_icmp .ne 7, 3) := by decide +kernel
theorem dX3_extend_49 : decode cX3_extend 49 = .ok (.iconst 3, 1) := by decide +kernel
theorem dX3_extend_50 : decode cX3_extend 50 = .ok (.goto 4, 3) := by decide +kernel
theorem dX3_extend_53 : decode cX3_extend 53 = .ok (.iconst 0, 1) := by decide +kernel
theorem dX3_extend_54 : decode cX3_extend 54 = .ok (.invokevirtual 123, 3) := by decide +kernel
theorem dX3_extend_57 : decode cX3_extend 57 = .ok (.ifCond .ne 5, 3) := by decide +kernel
theorem dX3_extend_60 : decode cX3_extend 60 = .ok (.iconst 0, 1) := by decide +kernel
theorem dX3_extend_61 : decode cX3_extend 61 = .ok (.ireturn, 1) := by decide +kernel
theorem dX3_extend_62 : decode cX3_extend 62 = .ok (.aload_n 0, 1) := by decide +kernel
theorem dX3_extend_63 : decode cX3_extend 63 = .ok (.getfield 56, 3) := by decide +kernel
theorem dX3_extend_66 : decode cX3_extend 66 = .ok (.iload_n 1, 1) := by decide +kernel
theorem dX3_extend_67 : decode cX3_extend 67 = .ok (.aload_n 0, 1) := by decide +kernel
theorem dX3_extend_68 : decode cX3_extend 68 = .ok (.getfield 136, 3) := by decide +kernel
theorem dX3_extend_71 : decode cX3_extend 71 = .ok (.iload_n 2, 1) := by decide +kernel
theorem dX3_extend_72 : decode cX3_extend 72 = .ok (.iadd, 1) := by decide +kernel
theorem dX3_extend_73 : decode cX3_extend 73 = .ok (.aload_n 0, 1) := by decide +kernel
theorem dX3_extend_74 : decode cX3_extend 74 = .ok (.getfield 56, 3) := by decide +kernel
theorem dX3_extend_77 : decode cX3_extend 77 = .ok (.iload_n 1, 1) := by decide +kernel
theorem dX3_extend_78 : decode cX3_extend 78 = .ok (.iaload, 1) := by decide +kernel
theorem dX3_extend_79 : decode cX3_extend 79 = .ok (.if_icmp .le 12, 3) := by decide +kernel
theorem dX3_extend_82 : decode cX3_extend 82 = .ok (.aload_n 0, 1) := by decide +kernel
theorem dX3_extend_83 : decode cX3_extend 83 = .ok (.getfield 136, 3) := by decide +kernel
theorem dX3_extend_86 : decode cX3_extend 86 = .ok (.iload_n 2, 1) := by decide +kernel
theorem dX3_extend_87 : decode cX3_extend 87 = .ok (.iadd, 1) := by decide +kernel
theorem dX3_extend_88 : decode cX3_extend 88 = .ok (.goto 9, 3) := by decide +kernel
theorem dX3_extend_91 : decode cX3_extend 91 = .ok (.aload_n 0, 1) := by decide +kernel
theorem dX3_extend_92 : decode cX3_extend 92 = .ok (.getfield 56, 3) := by decide +kernel
theorem dX3_extend_95 : decode cX3_extend 95 = .ok (.iload_n 1, 1) := by decide +kernel
theorem dX3_extend_96 : decode cX3_extend 96 = .ok (.iaload, 1) := by decide +kernel
theorem dX3_extend_97 : decode cX3_extend 97 = .ok (.iastore, 1) := by decide +kernel
theorem dX3_extend_98 : decode cX3_extend 98 = .ok (.aload_n 0, 1) := by decide +kernel
theorem dX3_extend_99 : decode cX3_extend 99 = .ok (.getfield 56, 3) := by decide +kernel
theorem dX3_extend_102 : decode cX3_extend 102 = .ok (.iload_n 1, 1) := by decide +kernel
theorem dX3_extend_103 : decode cX3_extend 103 = .ok (.iaload, 1) := by decide +kernel
theorem dX3_extend_104 : decode cX3_extend 104 = .ok (.ireturn, 1) := by decide +kernel
set_option maxRecDepth 20000 in
theorem ggX3_sell_X3_isFind : GoodIn wsX3_sell wsX3_isFind := goodIn_r _ [11, 12, 13, 14, 10, 15, 55, 56, 57, 58, 59, 60, 61, 62, 63, 64, 65, 66, 67, 68, 69, 70, 71, 72, 73, 74, 75, 76, 77, 78, 79, 80, 81, 82, 83, 84, 85, 86, 87, 88, 89, 90, 91, 92] (by decide +kernel) (by decide +kernel)
set_option maxRecDepth 20000 in
theorem gX3_sell_X3_isFind : GoodIn wsX3_sell (wsV RX3 149 RX3 yX3_isFind wsX3_isFind) := goodIn_app (goodIn_of _ (by decide +kernel)) ggX3_sell_X3_isFind
set_option maxRecDepth 20000 in
theorem ggX3_sell_X3_in : GoodIn wsX3_sell wsX3_in := goodIn_r _ [15] (by decide +kernel) (by decide +kernel)
set_option maxRecDepth 20000 in
theorem gX3_sell_X3_in : GoodIn wsX3_sell (va_wsS RX3 108 yX3_in wsX3_in) := goodIn_app (goodIn_of _ (by decide +kernel)) ggX3_sell_X3_in
set_option maxRecDepth 20000 in
theorem ggX3_sell_X3_isOver : GoodIn wsX3_sell wsX3_isOver := goodIn_r _ [19, 2, 20, 5, 21, 22, 23, 24, 25, 10, 26, 27, 28, 29, 30, 31, 32, 1, 33, 34, 35, 36, 37, 38, 39, 40, 41, 42, 43, 44, 45, 46, 47, 48, 49, 55, 56, 57, 58, 59, 60, 61, 62, 63, 64, 65, 66, 67, 68, 69, 70, 71, 72, 73, 74, 75, 76, 77, 78, 79, 80, 81, 82, 83, 84, 85, 86, 87, 88, 89, 90, 91, 92] (by decide +kernel) (by decide +kernel)
set_option maxRecDepth 20000 in
theorem gX3_sell_X3_isOver : GoodIn wsX3_sell (wsV RX3 191 RX3 yX3_isOver wsX3_isOver) := goodIn_app (goodIn_of _ (by decide +kernel)) ggX3_sell_X3_isOver
set_option maxRecDepth 20000 in
theorem ggX3_sell_X3_holds : GoodIn wsX3_sell wsX3_holds := goodIn_r _ [53, 54, 55, 56, 57, 58, 59, 60, 61, 62, 63, 64, 65, 66, 67, 68, 69, 70, 71, 72, 73, 74, 75, 76, 77, 78, 79, 80, 81, 82, 83, 84, 85, 86, 87, 88, 89, 90, 91, 92] (by decide +kernel) (by decide +kernel)
set_option maxRecDepth 20000 in
theorem gX3_sell_X3_holds : GoodIn wsX3_sell (wsV RX3 123 RX3 yX3_holds wsX3_holds) := goodIn_app (goodIn_of _ (by decide +kernel)) ggX3_sell_X3_holds
theorem dX3_sell_0 : decode cX3_sell 0 = .ok (.aload_n 0, 1) := by decide +kernel
theorem dX3_sell_1 : decode cX3_sell 1 = .ok (.iload_n 1, 1) := by decide +kernel
theorem dX3_sell_2 : decode cX3_sell 2 = .ok (.invokevirtual 149, 3) := by decide +kernel
theorem dX3_sell_5 : decode cX3_sell 5 = .ok (.istore_n 3, 1) := by decide +kernel
theorem dX3_sell_6 : decode cX3_sell 6 = .ok (.aload_n 0, 1) := by decide +kernel
theorem dX3_sell_7 : decode cX3_sell 7 = .ok (.iload_n 3, 1) := by decide +kernel
theorem dX3_sell_8 : decode cX3_sell 8 = .ok (.ifCond .ne 7, 3) := by decide +kernel
theorem dX3_sell_11 : decode cX3_sell 11 = .ok (.iconst 1, 1) := by decide +kernel
theorem dX3_sell_12 : decode cX3_sell 12 = .ok (.goto 42, 3) := by decide +kernel
theorem dX3_sell_15 : decode cX3_sell 15 = .ok (.iload_n 2, 1) := by decide +kernel
theorem dX3_sell_16 : decode cX3_sell 16 = .ok (.iconst 1, 1) := by decide +kernel
theorem dX3_sell_17 : decode cX3_sell 17 = .ok (.sipush 9999, 3) := by decide +kernel
theorem dX3_sell_20 : decode cX3_sell 20 = .ok (.invokestatic 108, 3) := by decide +kernel
theorem dX3_sell_23 : decode cX3_sell 23 = .ok (.ifCond .ne 7, 3) := by decide +kernel
theorem dX3_sell_26 : decode cX3_sell 26 = .ok (.iconst 2, 1) := by decide +kernel
theorem dX3_sell_27 : decode cX3_sell 27 = .ok (.goto 27, 3) := by decide +kernel
theorem dX3_sell_30 : decode cX3_sell 30 = .ok (.aload_n 0, 1) := by decide +kernel
theorem dX3_sell_31 : decode cX3_sell 31 = .ok (.iload_n 1, 1) := by decide +kernel
theorem dX3_sell_32 : decode cX3_sell 32 = .ok (.invokevirtual 191, 3) := by decide +kernel
theorem dX3_sell_35 : decode cX3_sell 35 = .ok (.ifCond .eq 14, 3) := by decide +kernel
theorem dX3_sell_38 : decode cX3_sell 38 = .ok (.aload_n 0, 1) := by decide +kernel
theorem dX3_sell_39 : decode cX3_sell 39 = .ok (.getfield 29, 3) := by decide +kernel
theorem dX3_sell_42 : decode cX3_sell 42 = .ok (.iload_n 1, 1) := by decide +kernel
theorem dX3_sell_43 : decode cX3_sell 43 = .ok (.iaload, 1) := by decide +kernel
theorem dX3_sell_44 : decode cX3_sell 44 = .ok (.bipush 7, 2) := by decide +kernel
theorem dX3_sell_46 : decode cX3_sell 46 = .ok (.if_icmp .ne 7, 3) := by decide +kernel
theorem dX3_sell_49 : decode cX3_sell 49 = .ok (.iconst 3, 1) := by decide +kernel
theorem dX3_sell_50 : decode cX3_sell 50 = .ok (.goto 4, 3) := by decide +kernel
theorem dX3_sell_53 : decode cX3_sell 53 = .ok (.iconst 0, 1) := by decide +kernel
theorem dX3_sell_54 : decode cX3_sell 54 = .ok (.invokevirtual 123, 3) := by decide +kernel
theorem dX3_sell_57 : decode cX3_sell 57 = .ok (.ifCond .ne 5, 3) := by decide +kernel
theorem dX3_sell_60 : decode cX3_sell 60 = .ok (.iconst 0, 1) := by decide +kernel
theorem dX3_sell_61 : decode cX3_sell 61 = .ok (.ireturn, 1) := by decide +kernel
theorem dX3_sell_62 : decode cX3_sell 62 = .ok (.aload_n 0, 1) := by decide +kernel
theorem dX3_sell_63 : decode cX3_sell 63 = .ok (.getfield 47, 3) := by decide +kernel
theorem dX3_sell_66 : decode cX3_sell 66 = .ok (.iload_n 1, 1) := by decide +kernel
theorem dX3_sell_67 : decode cX3_sell 67 = .ok (.iconst 4, 1) := by decide +kernel
theorem dX3_sell_68 : decode cX3_sell 68 = .ok (.iastore, 1) := by decide +kernel
theorem dX3_sell_69 : decode cX3_sell 69 = .ok (.aload_n 0, 1) := by decide +kernel
theorem dX3_sell_70 : decode cX3_sell 70 = .ok (.getfield 63, 3) := by decide +kernel
theorem dX3_sell_73 : decode cX3_sell 73 = .ok (.iload_n 1, 1) := by decide +kernel
theorem dX3_sell_74 : decode cX3_sell 74 = .ok (.iload_n 2, 1) := by decide +kernel
theorem dX3_sell_75 : decode cX3_sell 75 = .ok (.iastore, 1) := by decide +kernel
theorem dX3_sell_76 : decode cX3_sell 76 = .ok (.aload_n 0, 1) := by decide +kernel
theorem dX3_sell_77 : decode cX3_sell 77 = .ok (.getfield 66, 3) := by decide +kernel
theorem dX3_sell_80 : decode cX3_sell 80 = .ok (.iload_n 1, 1) := by decide +kernel
theorem dX3_sell_81 : decode cX3_sell 81 = .ok (.aload_n 0, 1) := by decide +kernel
theorem dX3_sell_82 : decode cX3_sell 82 = .ok (.getfield 136, 3) := by decide +kernel
theorem dX3_sell_85 : decode cX3_sell 85 = .ok (.iastore, 1) := by decide +kernel
theorem dX3_sell_86 : decode cX3_sell 86 = .ok (.aload_n 0, 1) := by decide +kernel
theorem dX3_sell_87 : decode cX3_sell 87 = .ok (.dup, 1) := by decide +kernel
theorem dX3_sell_88 : decode cX3_sell 88 = .ok (.getfield 194, 3) := by decide +kernel
theorem dX3_sell_91 : decode cX3_sell 91 = .ok (.iload_n 2, 1) := by decide +kernel
theorem dX3_sell_92 : decode cX3_sell 92 = .ok (.iadd, 1) := by decide +kernel
theorem dX3_sell_93 : decode cX3_sell 93 = .ok (.putfield 194, 3) := by decide +kernel
theorem dX3_sell_96 : decode cX3_sell 96 = .ok (.aload_n 0, 1) := by decide +kernel
theorem dX3_sell_97 : decode cX3_sell 97 = .ok (.getfield 194, 3) := by decide +kernel
theorem dX3_sell_100 : decode cX3_sell 100 = .ok (.ireturn, 1) := by decide +kernel
set_option maxRecDepth 20000 in
theorem ggX3_destroy_X3_isFind : GoodIn wsX3_destroy wsX3_isFind := goodIn_r _ [7, 8, 9, 10, 6, 11, 53, 54, 55, 56, 57, 58, 59, 60, 61, 62, 63, 64, 65, 66, 67, 68, 69, 70, 71, 72, 73, 74, 75, 76, 77, 78, 79, 80, 81, 82, 83, 84, 85, 86, 87, 88, 89, 90] (by decide +kernel) (by decide +kernel)
set_option maxRecDepth 20000 in
theorem gX3_destroy_X3_isFind : GoodIn wsX3_destroy (wsV RX3 149 RX3 yX3_isFind wsX3_isFind) := goodIn_app (goodIn_of _ (by decide +kernel)) ggX3_destroy_X3_isFind
set_option maxRecDepth 20000 in
theorem ggX3_destroy_X3_isOver : GoodIn wsX3_destroy wsX3_isOver := goodIn_r _ [15, 1, 16, 17, 18, 19, 20, 21, 22, 6, 23, 24, 25, 26, 27, 28, 29, 30, 31, 32, 33, 34, 35, 36, 37, 38, 39, 40, 41, 42, 43, 44, 45, 46, 47, 53, 54, 55, 56, 57, 58, 59, 60, 61, 62, 63, 64, 65, 66, 67, 68, 69, 70, 71, 72, 73, 74, 75, 76, 77, 78, 79, 80, 81, 82, 83, 84, 85, 86, 87, 88, 89, 90] (by decide +kernel) (by decide +kernel)
set_option maxRecDepth 20000 in
theorem gX3_destroy_X3_isOver : GoodIn wsX3_destroy (wsV RX3 191 RX3 yX3_isOver wsX3_isOver) := goodIn_app (goodIn_of _ (by decide +kernel)) ggX3_destroy_X3_isOver
set_option maxRecDepth 20000 in
theorem ggX3_destroy_X3_holds : GoodIn wsX3_destroy wsX3_holds := goodIn_r _ [51, 52, 53, 54, 55, 56, 57, 58, 59, 60, 61, 62, 63, 64, 65, 66, 67, 68, 69, 70, 71, 72, 73, 74, 75, 76, 77, 78, 79, 80, 81, 82, 83, 84, 85, 86, 87, 88, 89, 90] (by decide +kernel) (by decide +kernel)
set_option maxRecDepth 20000 in
theorem gX3_destroy_X3_holds : GoodIn wsX3_destroy (wsV RX3 123 RX3 yX3_holds wsX3_holds) := goodIn_app (goodIn_of _ (by decide +kernel)) ggX3_destroy_X3_holds
theorem dX3_destroy_0 : decode cX3_destroy 0 = .ok (.aload_n 0, 1) := by decide +kernel
theorem dX3_destroy_1 : decode cX3_destroy 1 = .ok (.iload_n 1, 1) := by decide +kernel
theorem dX3_destroy_2 : decode cX3_destroy 2 = .ok (.invokevirtual 149, 3) := by decide +kernel
theorem dX3_destroy_5 : decode cX3_destroy 5 = .ok (.istore_n 2, 1) := by decide +kernel
theorem dX3_destroy_6 : decode cX3_destroy 6 = .ok (.aload_n 0, 1) := by decide +kernel
theorem dX3_destroy_7 : decode cX3_destroy 7 = .ok (.iload_n 2, 1) := by decide +kernel
theorem dX3_destroy_8 : decode cX3_destroy 8 = .ok (.ifCond .ne 7, 3) := by decide +kernel
theorem dX3_destroy_11 : decode cX3_destroy 11 = .ok (.iconst 1, 1) := by decide +kernel
theorem dX3_destroy_12 : decode cX3_destroy 12 = .ok (.goto 16, 3) := by decide +kernel
theorem dX3_destroy_15 : decode cX3_destroy 15 = .ok (.aload_n 0, 1) := by decide +kernel
theorem dX3_destroy_16 : decode cX3_destroy 16 = .ok (.iload_n 1, 1) := by decide +kernel
theorem dX3_destroy_17 : decode cX3_destroy 17 = .ok (.invokevirtual 191, 3) := by decide +kernel
theorem dX3_destroy_20 : decode cX3_destroy 20 = .ok (.ifCond .eq 7, 3) := by decide +kernel
theorem dX3_destroy_23 : decode cX3_destroy 23 = .ok (.iconst 0, 1) := by decide +kernel
theorem dX3_destroy_24 : decode cX3_destroy 24 = .ok (.goto 4, 3) := by decide +kernel
theorem dX3_destroy_27 : decode cX3_destroy 27 = .ok (.iconst 2, 1) := by decide +kernel
theorem dX3_destroy_28 : decode cX3_destroy 28 = .ok (.invokevirtual 123, 3) := by decide +kernel
theorem dX3_destroy_31 : decode cX3_destroy 31 = .ok (.ifCond .ne 5, 3) := by decide +kernel
theorem dX3_destroy_34 : decode cX3_destroy 34 = .ok (.iconst 0, 1) := by decide +kernel
theorem dX3_destroy_35 : decode cX3_destroy 35 = .ok (.ireturn, 1) := by decide +kernel
theorem dX3_destroy_36 : decode cX3_destroy 36 = .ok (.aload_n 0, 1) := by decide +kernel
theorem dX3_destroy_37 : decode cX3_destroy 37 = .ok (.getfield 47, 3) := by decide +kernel
theorem dX3_destroy_40 : decode cX3_destroy 40 = .ok (.iload_n 1, 1) := by decide +kernel
theorem dX3_destroy_41 : decode cX3_destroy 41 = .ok (.iconst 5, 1) := by decide +kernel
theorem dX3_destroy_42 : decode cX3_destroy 42 = .ok (.iastore, 1) := by decide +kernel
theorem dX3_destroy_43 : decode cX3_destroy 43 = .ok (.aload_n 0, 1) := by decide +kernel
theorem dX3_destroy_44 : decode cX3_destroy 44 = .ok (.getfield 50, 3) := by decide +kernel
theorem dX3_destroy_47 : decode cX3_destroy 47 = .ok (.iload_n 1, 1) := by decide +kernel
theorem dX3_destroy_48 : decode cX3_destroy 48 = .ok (.iaload, 1) := by decide +kernel
theorem dX3_destroy_49 : decode cX3_destroy 49 = .ok (.ireturn, 1) := by decide +kernel
set_option maxRecDepth 20000 in
theorem ggX3_payOut_X3_isFind : GoodIn wsX3_payOut wsX3_isFind := goodIn_r _ [11, 12, 13, 14, 10, 15, 75, 76, 77, 78, 79, 80, 81, 82, 83, 84, 85, 86, 87, 88, 89, 90, 91, 92, 93, 94, 95, 96, 97, 98, 99, 100, 101, 102, 103, 104, 105, 106, 107, 108, 109, 110, 111, 112] (by decide +kernel) (by decide +kernel)
set_option maxRecDepth 20000 in
theorem gX3_payOut_X3_isFind : GoodIn wsX3_payOut (wsV RX3 149 RX3 yX3_isFind wsX3_isFind) := goodIn_app (goodIn_of _ (by decide +kernel)) ggX3_payOut_X3_isFind
set_option maxRecDepth 20000 in
theorem ggX3_payOut_X3_isClaim : GoodIn wsX3_payOut wsX3_isClaim := goodIn_r _ [19, 20, 13, 14, 10, 15, 75, 76, 77, 78, 79, 80, 81, 82, 83, 84, 85, 86, 87, 88, 89, 90, 91, 92, 93, 94, 95, 96, 97, 98, 99, 100, 101, 102, 103, 104, 105, 106, 107, 108, 109, 110, 111, 112] (by decide +kernel) (by decide +kernel)
set_option maxRecDepth 20000 in
theorem gX3_payOut_X3_isClaim : GoodIn wsX3_payOut (wsV RX3 155 RX3 yX3_isClaim wsX3_isClaim) := goodIn_app (goodIn_of _ (by decide +kernel)) ggX3_payOut_X3_isClaim
set_option maxRecDepth 20000 in
theorem ggX3_payOut_X3_canServe : GoodIn wsX3_payOut wsX3_canServe := goodIn_r _ [24, 25, 26, 27, 10, 28, 29, 30, 31, 32, 33, 34, 35, 36, 37, 38, 39, 40, 41, 42, 43, 44, 45, 46, 47, 48, 49, 50, 51, 52, 53, 54, 55, 56, 57, 58, 59, 60, 61, 62, 63, 20, 75, 76, 77, 78, 79, 80, 81, 82, 83, 84, 85, 86, 87, 88, 89, 90, 91, 92, 93, 94, 95, 96, 97, 98, 99, 100, 101, 102, 103, 104, 105, 106, 107, 108, 109, 110, 111, 112] (by decide +kernel) (by decide +kernel)
set_option maxRecDepth 20000 in
theorem gX3_payOut_X3_canServe : GoodIn wsX3_payOut (wsV RX3 182 RX3 yX3_canServe wsX3_canServe) := goodIn_app (goodIn_of _ (by decide +kernel)) ggX3_payOut_X3_canServe
set_option maxRecDepth 20000 in
theorem ggX3_payOut_X3_holds : GoodIn wsX3_payOut wsX3_holds := goodIn_r _ [67, 68, 75, 76, 77, 78, 79, 80, 81, 82, 83, 84, 85, 86, 87, 88, 89, 90, 91, 92, 93, 94, 95, 96, 97, 98, 99, 100, 101, 102, 103, 104, 105, 106, 107, 108, 109, 110, 111, 112] (by decide +kernel) (by decide +kernel)
set_option maxRecDepth 20000 in
theorem gX3_payOut_X3_holds : GoodIn wsX3_payOut (wsV RX3 123 RX3 yX3_holds wsX3_holds) := goodIn_app (goodIn_of _ (by decide +kernel)) ggX3_payOut_X3_holds
set_option maxRecDepth 20000 in
theorem ggX3_payOut_X3_ends : GoodIn wsX3_payOut wsX3_ends := goodIn_r _ [72, 29, 73, 2, 74, 75, 76, 77, 78, 79, 80, 81, 82, 83, 84, 85, 86, 87, 88, 89, 90, 91, 92, 93, 94, 95, 96, 97, 98, 99, 100, 101, 102, 103, 104, 105, 106, 107, 108, 109, 110, 111, 112] (by decide +kernel) (by decide +kernel)
set_option maxRecDepth 20000 in
theorem gX3_payOut_X3_ends : GoodIn wsX3_payOut (wsV RX3 162 RX3 yX3_ends wsX3_ends) := goodIn_app (goodIn_of _ (by decide +kernel)) ggX3_payOut_X3_ends
theorem dX3_payOut_0 : decode cX3_payOut 0 = .ok (.aload_n 0, 1) := by decide +kernel
theorem dX3_payOut_1 : decode cX3_payOut 1 = .ok (.iload_n 1, 1) := by decide +kernel
theorem dX3_payOut_2 : decode cX3_payOut 2 = .ok (.invokevirtual 149, 3) := by decide +kernel
theorem dX3_payOut_5 : decode cX3_payOut 5 = .ok (.ifCond .eq 15, 3) := by decide +kernel
theorem dX3_payOut_8 : decode cX3_payOut 8 = .ok (.aload_n 0, 1) := by decide +kernel
theorem dX3_payOut_9 : decode cX3_payOut 9 = .ok (.iload_n 2, 1) := by decide +kernel
theorem dX3_payOut_10 : decode cX3_payOut 10 = .ok (.invokevirtual 155, 3) := by decide +kernel
theorem dX3_payOut_13 : decode cX3_payOut 13 = .ok (.ifCond .eq 7, 3) := by decide +kernel
theorem dX3_payOut_16 : decode cX3_payOut 16 = .ok (.iconst 1, 1) := by decide +kernel
theorem dX3_payOut_17 : decode cX3_payOut 17 = .ok (.goto 4, 3) := by decide +kernel
theorem dX3_payOut_20 : decode cX3_payOut 20 = .ok (.iconst 0, 1) := by decide +kernel
theorem dX3_payOut_21 : decode cX3_payOut 21 = .ok (.istore_n 3, 1) := by decide +kernel
theorem dX3_payOut_22 : decode cX3_payOut 22 = .ok (.aload_n 0, 1) := by decide +kernel
theorem dX3_payOut_23 : decode cX3_payOut 23 = .ok (.iload_n 3, 1) := by decide +kernel
theorem dX3_payOut_24 : decode cX3_payOut 24 = .ok (.ifCond .ne 7, 3) := by decide +kernel
theorem dX3_payOut_27 : decode cX3_payOut 27 = .ok (.iconst 1, 1) := by decide +kernel
theorem dX3_payOut_28 : decode cX3_payOut 28 = .ok (.goto 44, 3) := by decide +kernel
theorem dX3_payOut_31 : decode cX3_payOut 31 = .ok (.aload_n 0, 1) := by decide +kernel
theorem dX3_payOut_32 : decode cX3_payOut 32 = .ok (.getfield 47, 3) := by decide +kernel
theorem dX3_payOut_35 : decode cX3_payOut 35 = .ok (.iload_n 1, 1) := by decide +kernel
theorem dX3_payOut_36 : decode cX3_payOut 36 = .ok (.iaload, 1) := by decide +kernel
theorem dX3_payOut_37 : decode cX3_payOut 37 = .ok (.iconst 4, 1) := by decide +kernel
theorem dX3_payOut_38 : decode cX3_payOut 38 = .ok (.if_icmp .ne 29, 3) := by decide +kernel
theorem dX3_payOut_41 : decode cX3_payOut 41 = .ok (.aload_n 0, 1) := by decide +kernel
theorem dX3_payOut_42 : decode cX3_payOut 42 = .ok (.getfield 136, 3) := by decide +kernel
theorem dX3_payOut_45 : decode cX3_payOut 45 = .ok (.aload_n 0, 1) := by decide +kernel
theorem dX3_payOut_46 : decode cX3_payOut 46 = .ok (.getfield 66, 3) := by decide +kernel
theorem dX3_payOut_49 : decode cX3_payOut 49 = .ok (.iload_n 1, 1) := by decide +kernel
theorem dX3_payOut_50 : decode cX3_payOut 50 = .ok (.iaload, 1) := by decide +kernel
theorem dX3_payOut_51 : decode cX3_payOut 51 = .ok (.isub, 1) := by decide +kernel
theorem dX3_payOut_52 : decode cX3_payOut 52 = .ok (.sipush 365, 3) := by decide +kernel
theorem dX3_payOut_55 : decode cX3_payOut 55 = .ok (.if_icmp .gt 12, 3) := by decide +kernel
theorem dX3_payOut_58 : decode cX3_payOut 58 = .ok (.aload_n 0, 1) := by decide +kernel
theorem dX3_payOut_59 : decode cX3_payOut 59 = .ok (.iload_n 1, 1) := by decide +kernel
theorem dX3_payOut_60 : decode cX3_payOut 60 = .ok (.iload_n 2, 1) := by decide +kernel
theorem dX3_payOut_61 : decode cX3_payOut 61 = .ok (.invokevirtual 182, 3) := by decide +kernel
theorem dX3_payOut_64 : decode cX3_payOut 64 = .ok (.ifCond .ne 7, 3) := by decide +kernel
theorem dX3_payOut_67 : decode cX3_payOut 67 = .ok (.iconst 2, 1) := by decide +kernel
theorem dX3_payOut_68 : decode cX3_payOut 68 = .ok (.goto 4, 3) := by decide +kernel
theorem dX3_payOut_71 : decode cX3_payOut 71 = .ok (.iconst 0, 1) := by decide +kernel
theorem dX3_payOut_72 : decode cX3_payOut 72 = .ok (.invokevirtual 123, 3) := by decide +kernel
theorem dX3_payOut_75 : decode cX3_payOut 75 = .ok (.ifCond .ne 5, 3) := by decide +kernel
theorem dX3_payOut_78 : decode cX3_payOut 78 = .ok (.iconst 0, 1) := by decide +kernel
theorem dX3_payOut_79 : decode cX3_payOut 79 = .ok (.ireturn, 1) := by decide +kernel
theorem dX3_payOut_80 : decode cX3_payOut 80 = .ok (.aload_n 0, 1) := by decide +kernel
theorem dX3_payOut_81 : decode cX3_payOut 81 = .ok (.getfield 63, 3) := by decide +kernel
theorem dX3_payOut_84 : decode cX3_payOut 84 = .ok (.iload_n 1, 1) := by decide +kernel
theorem dX3_payOut_85 : decode cX3_payOut 85 = .ok (.iaload, 1) := by decide +kernel
theorem dX3_payOut_86 : decode cX3_payOut 86 = .ok (.iconst 5, 1) := by decide +kernel
theorem dX3_payOut_87 : decode cX3_payOut 87 = .ok (.if_icmp .ge 12, 3) := by decide +kernel
theorem dX3_payOut_90 : decode cX3_payOut 90 = .ok (.aload_n 0, 1) := by decide +kernel
theorem dX3_payOut_91 : decode cX3_payOut 91 = .ok (.getfield 63, 3) := by decide +kernel
theorem dX3_payOut_94 : decode cX3_payOut 94 = .ok (.iload_n 1, 1) := by decide +kernel
theorem dX3_payOut_95 : decode cX3_payOut 95 = .ok (.iaload, 1) := by decide +kernel
theorem dX3_payOut_96 : decode cX3_payOut 96 = .ok (.goto 4, 3) := by decide +kernel
theorem dX3_payOut_99 : decode cX3_payOut 99 = .ok (.iconst 5, 1) := by decide +kernel
theorem dX3_payOut_100 : decode cX3_payOut 100 = .ok (.istore 4, 2) := by decide +kernel
theorem dX3_payOut_102 : decode cX3_payOut 102 = .ok (.aload_n 0, 1) := by decide +kernel
theorem dX3_payOut_103 : decode cX3_payOut 103 = .ok (.dup, 1) := by decide +kernel
theorem dX3_payOut_104 : decode cX3_payOut 104 = .ok (.getfield 185, 3) := by decide +kernel
theorem dX3_payOut_107 : decode cX3_payOut 107 = .ok (.iload 4, 2) := by decide +kernel
theorem dX3_payOut_109 : decode cX3_payOut 109 = .ok (.iadd, 1) := by decide +kernel
theorem dX3_payOut_110 : decode cX3_payOut 110 = .ok (.putfield 185, 3) := by decide +kernel
theorem dX3_payOut_113 : decode cX3_payOut 113 = .ok (.aload_n 0, 1) := by decide +kernel
theorem dX3_payOut_114 : decode cX3_payOut 114 = .ok (.dup, 1) := by decide +kernel
theorem dX3_payOut_115 : decode cX3_payOut 115 = .ok (.getfield 194, 3) := by decide +kernel
theorem dX3_payOut_118 : decode cX3_payOut 118 = .ok (.aload_n 0, 1) := by decide +kernel
theorem dX3_payOut_119 : decode cX3_payOut 119 = .ok (.getfield 63, 3) := by decide +kernel
theorem dX3_payOut_122 : decode cX3_payOut 122 = .ok (.iload_n 1, 1) := by decide +kernel
theorem dX3_payOut_123 : decode cX3_payOut 123 = .ok (.iaload, 1) := by decide +kernel
theorem dX3_payOut_124 : decode cX3_payOut 124 = .ok (.isub, 1) := by decide +kernel
theorem dX3_payOut_125 : decode cX3_payOut 125 = .ok (.putfield 194, 3) := by decide +kernel
theorem dX3_payOut_128 : decode cX3_payOut 128 = .ok (.aload_n 0, 1) := by decide +kernel
theorem dX3_payOut_129 : decode cX3_payOut 129 = .ok (.getfield 47, 3) := by decide +kernel
theorem dX3_payOut_132 : decode cX3_payOut 132 = .ok (.iload_n 1, 1) := by decide +kernel
theorem dX3_payOut_133 : decode cX3_payOut 133 = .ok (.bipush 6, 2) := by decide +kernel
theorem dX3_payOut_135 : decode cX3_payOut 135 = .ok (.iastore, 1) := by decide +kernel
theorem dX3_payOut_136 : decode cX3_payOut 136 = .ok (.aload_n 0, 1) := by decide +kernel
theorem dX3_payOut_137 : decode cX3_payOut 137 = .ok (.iload_n 2, 1) := by decide +kernel
theorem dX3_payOut_138 : decode cX3_payOut 138 = .ok (.iconst 1, 1) := by decide +kernel
theorem dX3_payOut_139 : decode cX3_payOut 139 = .ok (.iload_n 1, 1) := by decide +kernel
theorem dX3_payOut_140 : decode cX3_payOut 140 = .ok (.invokevirtual 162, 3) := by decide +kernel
theorem dX3_payOut_143 : decode cX3_payOut 143 = .ok (.aload_n 0, 1) := by decide +kernel
theorem dX3_payOut_144 : decode cX3_payOut 144 = .ok (.getfield 63, 3) := by decide +kernel
theorem dX3_payOut_147 : decode cX3_payOut 147 = .ok (.iload_n 1, 1) := by decide +kernel
theorem dX3_payOut_148 : decode cX3_payOut 148 = .ok (.iaload, 1) := by decide +kernel
theorem dX3_payOut_149 : decode cX3_payOut 149 = .ok (.iload 4, 2) := by decide +kernel
theorem dX3_payOut_151 : decode cX3_payOut 151 = .ok (.isub, 1) := by decide +kernel
theorem dX3_payOut_152 : decode cX3_payOut 152 = .ok (.ireturn, 1) := by decide +kernel
set_option maxRecDepth 20000 in
theorem ggX3_begins_X3_comes : GoodIn wsX3_begins wsX3_comes := goodIn_r _ [14, 3, 15, 16, 17, 18, 1, 19, 20, 21, 22, 23, 24, 25, 26, 27, 28, 29, 30, 31, 32, 33, 34, 35, 36, 37, 38, 39, 40, 41, 42, 43, 44, 45, 46, 47, 48, 49, 50, 51, 52, 53, 54, 55, 56] (by decide +kernel) (by decide +kernel)
set_option maxRecDepth 20000 in
theorem gX3_begins_X3_comes : GoodIn wsX3_begins (wsV RX3 145 RX3 yX3_comes wsX3_comes) := goodIn_app (goodIn_of _ (by decide +kernel)) ggX3_begins_X3_comes
theorem dX3_begins_0 : decode cX3_begins 0 = .ok (.aload_n 0, 1) := by decide +kernel
theorem dX3_begins_1 : decode cX3_begins 1 = .ok (.dup, 1) := by decide +kernel
theorem dX3_begins_2 : decode cX3_begins 2 = .ok (.getfield 136, 3) := by decide +kernel
theorem dX3_begins_5 : decode cX3_begins 5 = .ok (.iconst 1, 1) := by decide +kernel
theorem dX3_begins_6 : decode cX3_begins 6 = .ok (.iadd, 1) := by decide +kernel
theorem dX3_begins_7 : decode cX3_begins 7 = .ok (.putfield 136, 3) := by decide +kernel
theorem dX3_begins_10 : decode cX3_begins 10 = .ok (.iconst 0, 1) := by decide +kernel
theorem dX3_begins_11 : decode cX3_begins 11 = .ok (.istore_n 1, 1) := by decide +kernel
theorem dX3_begins_12 : decode cX3_begins 12 = .ok (.iload_n 1, 1) := by decide +kernel
theorem dX3_begins_13 : decode cX3_begins 13 = .ok (.aload_n 0, 1) := by decide +kernel
theorem dX3_begins_14 : decode cX3_begins 14 = .ok (.getfield 113, 3) := by decide +kernel
theorem dX3_begins_17 : decode cX3_begins 17 = .ok (.if_icmp .ge 30, 3) := by decide +kernel
theorem dX3_begins_20 : decode cX3_begins 20 = .ok (.aload_n 0, 1) := by decide +kernel
theorem dX3_begins_21 : decode cX3_begins 21 = .ok (.getfield 47, 3) := by decide +kernel
theorem dX3_begins_24 : decode cX3_begins 24 = .ok (.iload_n 1, 1) := by decide +kernel
theorem dX3_begins_25 : decode cX3_begins 25 = .ok (.iaload, 1) := by decide +kernel
theorem dX3_begins_26 : decode cX3_begins 26 = .ok (.iconst 1, 1) := by decide +kernel
theorem dX3_begins_27 : decode cX3_begins 27 = .ok (.if_icmp .ne 14, 3) := by decide +kernel
theorem dX3_begins_30 : decode cX3_begins 30 = .ok (.aload_n 0, 1) := by decide +kernel
theorem dX3_begins_31 : decode cX3_begins 31 = .ok (.iload_n 1, 1) := by decide +kernel
theorem dX3_begins_32 : decode cX3_begins 32 = .ok (.aload_n 0, 1) := by decide +kernel
theorem dX3_begins_33 : decode cX3_begins 33 = .ok (.getfield 53, 3) := by decide +kernel
theorem dX3_begins_36 : decode cX3_begins 36 = .ok (.iload_n 1, 1) := by decide +kernel
theorem dX3_begins_37 : decode cX3_begins 37 = .ok (.iaload, 1) := by decide +kernel
theorem dX3_begins_38 : decode cX3_begins 38 = .ok (.invokevirtual 145, 3) := by decide +kernel
theorem dX3_begins_41 : decode cX3_begins 41 = .ok (.iinc 1 1, 3) := by decide +kernel
theorem dX3_begins_44 : decode cX3_begins 44 = .ok (.goto (-32), 3) := by decide +kernel
theorem dX3_begins_47 : decode cX3_begins 47 = .ok (.iconst 0, 1) := by decide +kernel
theorem dX3_begins_48 : decode cX3_begins 48 = .ok (.istore_n 1, 1) := by decide +kernel
theorem dX3_begins_49 : decode cX3_begins 49 = .ok (.iload_n 1, 1) := by decide +kernel
theorem dX3_begins_50 : decode cX3_begins 50 = .ok (.aload_n 0, 1) := by decide +kernel
theorem dX3_begins_51 : decode cX3_begins 51 = .ok (.getfield 116, 3) := by decide +kernel
theorem dX3_begins_54 : decode cX3_begins 54 = .ok (.if_icmp .ge 111, 3) := by decide +kernel
theorem dX3_begins_57 : decode cX3_begins 57 = .ok (.aload_n 0, 1) := by decide +kernel
theorem dX3_begins_58 : decode cX3_begins 58 = .ok (.getfield 96, 3) := by decide +kernel
theorem dX3_begins_61 : decode cX3_begins 61 = .ok (.iload_n 1, 1) := by decide +kernel
theorem dX3_begins_62 : decode cX3_begins 62 = .ok (.iaload, 1) := by decide +kernel
theorem dX3_begins_63 : decode cX3_begins 63 = .ok (.iconst 1, 1) := by decide +kernel
theorem dX3_begins_64 : decode cX3_begins 64 = .ok (.if_icmp .eq 13, 3) := by decide +kernel
theorem dX3_begins_67 : decode cX3_begins 67 = .ok (.aload_n 0, 1) := by decide +kernel
theorem dX3_begins_68 : decode cX3_begins 68 = .ok (.getfield 96, 3) := by decide +kernel
theorem dX3_begins_71 : decode cX3_begins 71 = .ok (.iload_n 1, 1) := by decide +kernel
theorem dX3_begins_72 : decode cX3_begins 72 = .ok (.iaload, 1) := by decide +kernel
theorem dX3_begins_73 : decode cX3_begins 73 = .ok (.iconst 2, 1) := by decide +kernel
theorem dX3_begins_74 : decode cX3_begins 74 = .ok (.if_icmp .ne 23, 3) := by decide +kernel
theorem dX3_begins_77 : decode cX3_begins 77 = .ok (.aload_n 0, 1) := by decide +kernel
theorem dX3_begins_78 : decode cX3_begins 78 = .ok (.getfield 136, 3) := by decide +kernel
theorem dX3_begins_81 : decode cX3_begins 81 = .ok (.aload_n 0, 1) := by decide +kernel
theorem dX3_begins_82 : decode cX3_begins 82 = .ok (.getfield 99, 3) := by decide +kernel
theorem dX3_begins_85 : decode cX3_begins 85 = .ok (.iload_n 1, 1) := by decide +kernel
theorem dX3_begins_86 : decode cX3_begins 86 = .ok (.iaload, 1) := by decide +kernel
theorem dX3_begins_87 : decode cX3_begins 87 = .ok (.isub, 1) := by decide +kernel
theorem dX3_begins_88 : decode cX3_begins 88 = .ok (.bipush 90, 2) := by decide +kernel
theorem dX3_begins_90 : decode cX3_begins 90 = .ok (.if_icmp .lt 7, 3) := by decide +kernel
theorem dX3_begins_93 : decode cX3_begins 93 = .ok (.iconst 1, 1) := by decide +kernel
theorem dX3_begins_94 : decode cX3_begins 94 = .ok (.goto 4, 3) := by decide +kernel
theorem dX3_begins_97 : decode cX3_begins 97 = .ok (.iconst 0, 1) := by decide +kernel
theorem dX3_begins_98 : decode cX3_begins 98 = .ok (.istore_n 2, 1) := by decide +kernel
theorem dX3_begins_99 : decode cX3_begins 99 = .ok (.aload_n 0, 1) := by decide +kernel
theorem dX3_begins_100 : decode cX3_begins 100 = .ok (.getfield 96, 3) := by decide +kernel
theorem dX3_begins_103 : decode cX3_begins 103 = .ok (.iload_n 1, 1) := by decide +kernel
theorem dX3_begins_104 : decode cX3_begins 104 = .ok (.iload_n 2, 1) := by decide +kernel
theorem dX3_begins_105 : decode cX3_begins 105 = .ok (.ifCond .eq 7, 3) := by decide +kernel
theorem dX3_begins_108 : decode cX3_begins 108 = .ok (.iconst 3, 1) := by decide +kernel
theorem dX3_begins_109 : decode cX3_begins 109 = .ok (.goto 9, 3) := by decide +kernel
theorem dX3_begins_112 : decode cX3_begins 112 = .ok (.aload_n 0, 1) := by decide +kernel
theorem dX3_begins_113 : decode cX3_begins 113 = .ok (.getfield 96, 3) := by decide +kernel
theorem dX3_begins_116 : decode cX3_begins 116 = .ok (.iload_n 1, 1) := by decide +kernel
theorem dX3_begins_117 : decode cX3_begins 117 = .ok (.iaload, 1) := by decide +kernel
theorem dX3_begins_118 : decode cX3_begins 118 = .ok (.iastore, 1) := by decide +kernel
theorem dX3_begins_119 : decode cX3_begins 119 = .ok (.aload_n 0, 1) := by decide +kernel
theorem dX3_begins_120 : decode cX3_begins 120 = .ok (.getfield 90, 3) := by decide +kernel
theorem dX3_begins_123 : decode cX3_begins 123 = .ok (.iload_n 1, 1) := by decide +kernel
theorem dX3_begins_124 : decode cX3_begins 124 = .ok (.iload_n 2, 1) := by decide +kernel
theorem dX3_begins_125 : decode cX3_begins 125 = .ok (.ifCond .eq 7, 3) := by decide +kernel
theorem dX3_begins_128 : decode cX3_begins 128 = .ok (.iconst 0, 1) := by decide +kernel
theorem dX3_begins_129 : decode cX3_begins 129 = .ok (.goto 9, 3) := by decide +kernel
theorem dX3_begins_132 : decode cX3_begins 132 = .ok (.aload_n 0, 1) := by decide +kernel
theorem dX3_begins_133 : decode cX3_begins 133 = .ok (.getfield 90, 3) := by decide +kernel
theorem dX3_begins_136 : decode cX3_begins 136 = .ok (.iload_n 1, 1) := by decide +kernel
theorem dX3_begins_137 : decode cX3_begins 137 = .ok (.iaload, 1) := by decide +kernel
theorem dX3_begins_138 : decode cX3_begins 138 = .ok (.iastore, 1) := by decide +kernel
theorem dX3_begins_139 : decode cX3_begins 139 = .ok (.aload_n 0, 1) := by decide +kernel
theorem dX3_begins_140 : decode cX3_begins 140 = .ok (.getfield 93, 3) := by decide +kernel
theorem dX3_begins_143 : decode cX3_begins 143 = .ok (.iload_n 1, 1) := by decide +kernel
theorem dX3_begins_144 : decode cX3_begins 144 = .ok (.iload_n 2, 1) := by decide +kernel
theorem dX3_begins_145 : decode cX3_begins 145 = .ok (.ifCond .eq 7, 3) := by decide +kernel
theorem dX3_begins_148 : decode cX3_begins 148 = .ok (.iconst 0, 1) := by decide +kernel
theorem dX3_begins_149 : decode cX3_begins 149 = .ok (.goto 9, 3) := by decide +kernel
theorem dX3_begins_152 : decode cX3_begins 152 = .ok (.aload_n 0, 1) := by decide +kernel
theorem dX3_begins_153 : decode cX3_begins 153 = .ok (.getfield 93, 3) := by decide +kernel
theorem dX3_begins_156 : decode cX3_begins 156 = .ok (.iload_n 1, 1) := by decide +kernel
theorem dX3_begins_157 : decode cX3_begins 157 = .ok (.iaload, 1) := by decide +kernel
theorem dX3_begins_158 : decode cX3_begins 158 = .ok (.iastore, 1) := by decide +kernel
theorem dX3_begins_159 : decode cX3_begins 159 = .ok (.iinc 1 1, 3) := by decide +kernel
theorem dX3_begins_162 : decode cX3_begins 162 = .ok (.goto (-113), 3) := by decide +kernel
theorem dX3_begins_165 : decode cX3_begins 165 = .ok (.return_, 1) := by decide +kernel
set_option maxRecDepth 20000 in
theorem ggX3_pass_X3_in : GoodIn wsX3_pass wsX3_in := goodIn_r _ [5] (by decide +kernel) (by decide +kernel)
set_option maxRecDepth 20000 in
theorem gX3_pass_X3_in : GoodIn wsX3_pass (va_wsS RX3 108 yX3_in wsX3_in) := goodIn_app (goodIn_of _ (by decide +kernel)) ggX3_pass_X3_in
set_option maxRecDepth 20000 in
theorem ggX3_pass_X3_holds : GoodIn wsX3_pass wsX3_holds := goodIn_r _ [9, 10, 31, 32, 33, 34, 35, 36, 37, 38, 39, 40, 41, 42, 43, 44, 45, 46, 47, 48, 49, 50, 51, 52, 53, 54, 55, 56, 57, 58, 59, 60, 61, 62, 63, 64, 65, 66, 67, 68] (by decide +kernel) (by decide +kernel)
set_option maxRecDepth 20000 in
theorem gX3_pass_X3_holds : GoodIn wsX3_pass (wsV RX3 123 RX3 yX3_holds wsX3_holds) := goodIn_app (goodIn_of _ (by decide +kernel)) ggX3_pass_X3_holds
set_option maxRecDepth 20000 in
theorem ggX3_pass_X3_begins : GoodIn wsX3_pass wsX3_begins := goodIn_r _ [14, 1, 15, 16, 17, 18, 19, 20, 21, 22, 23, 24, 25, 4, 26, 27, 28, 29, 30, 31, 32, 33, 34, 35, 36, 37, 38, 39, 40, 41, 42, 43, 44, 45, 46, 47, 48, 49, 50, 51, 52, 53, 54, 55, 56, 57, 58, 59, 60, 61, 62, 63, 64, 65, 66, 67, 68] (by decide +kernel) (by decide +kernel)
set_option maxRecDepth 20000 in
theorem gX3_pass_X3_begins : GoodIn wsX3_pass (wsV RX3 197 RX3 yX3_begins wsX3_begins) := goodIn_app (goodIn_of _ (by decide +kernel)) ggX3_pass_X3_begins
theorem dX3_pass_0 : decode cX3_pass 0 = .ok (.aload_n 0, 1) := by decide +kernel
theorem dX3_pass_1 : decode cX3_pass 1 = .ok (.iload_n 1, 1) := by decide +kernel
theorem dX3_pass_2 : decode cX3_pass 2 = .ok (.iconst 1, 1) := by decide +kernel
theorem dX3_pass_3 : decode cX3_pass 3 = .ok (.sipush 400, 3) := by decide +kernel
theorem dX3_pass_6 : decode cX3_pass 6 = .ok (.invokestatic 108, 3) := by decide +kernel
theorem dX3_pass_9 : decode cX3_pass 9 = .ok (.ifCond .ne 7, 3) := by decide +kernel
theorem dX3_pass_12 : decode cX3_pass 12 = .ok (.iconst 1, 1) := by decide +kernel
theorem dX3_pass_13 : decode cX3_pass 13 = .ok (.goto 20, 3) := by decide +kernel
theorem dX3_pass_16 : decode cX3_pass 16 = .ok (.aload_n 0, 1) := by decide +kernel
theorem dX3_pass_17 : decode cX3_pass 17 = .ok (.getfield 136, 3) := by decide +kernel
theorem dX3_pass_20 : decode cX3_pass 20 = .ok (.iload_n 1, 1) := by decide +kernel
theorem dX3_pass_21 : decode cX3_pass 21 = .ok (.iadd, 1) := by decide +kernel
theorem dX3_pass_22 : decode cX3_pass 22 = .ok (.sipush 9999, 3) := by decide +kernel
theorem dX3_pass_25 : decode cX3_pass 25 = .ok (.if_icmp .le 7, 3) := by decide +kernel
theorem dX3_pass_28 : decode cX3_pass 28 = .ok (.iconst 2, 1) := by decide +kernel
theorem dX3_pass_29 : decode cX3_pass 29 = .ok (.goto 4, 3) := by decide +kernel
theorem dX3_pass_32 : decode cX3_pass 32 = .ok (.iconst 0, 1) := by decide +kernel
theorem dX3_pass_33 : decode cX3_pass 33 = .ok (.invokevirtual 123, 3) := by decide +kernel
theorem dX3_pass_36 : decode cX3_pass 36 = .ok (.ifCond .ne 5, 3) := by decide +kernel
theorem dX3_pass_39 : decode cX3_pass 39 = .ok (.iconst 0, 1) := by decide +kernel
theorem dX3_pass_40 : decode cX3_pass 40 = .ok (.ireturn, 1) := by decide +kernel
theorem dX3_pass_41 : decode cX3_pass 41 = .ok (.iconst 0, 1) := by decide +kernel
theorem dX3_pass_42 : decode cX3_pass 42 = .ok (.istore_n 2, 1) := by decide +kernel
theorem dX3_pass_43 : decode cX3_pass 43 = .ok (.iload_n 2, 1) := by decide +kernel
theorem dX3_pass_44 : decode cX3_pass 44 = .ok (.iload_n 1, 1) := by decide +kernel
theorem dX3_pass_45 : decode cX3_pass 45 = .ok (.if_icmp .ge 13, 3) := by decide +kernel
theorem dX3_pass_48 : decode cX3_pass 48 = .ok (.aload_n 0, 1) := by decide +kernel
theorem dX3_pass_49 : decode cX3_pass 49 = .ok (.invokevirtual 197, 3) := by decide +kernel
theorem dX3_pass_52 : decode cX3_pass 52 = .ok (.iinc 2 1, 3) := by decide +kernel
theorem dX3_pass_55 : decode cX3_pass 55 = .ok (.goto (-12), 3) := by decide +kernel
theorem dX3_pass_58 : decode cX3_pass 58 = .ok (.aload_n 0, 1) := by decide +kernel
theorem dX3_pass_59 : decode cX3_pass 59 = .ok (.getfield 136, 3) := by decide +kernel
theorem dX3_pass_62 : decode cX3_pass 62 = .ok (.ireturn, 1) := by decide +kernel
theorem dX3_today_0 : decode cX3_today 0 = .ok (.aload_n 0, 1) := by decide +kernel
theorem dX3_today_1 : decode cX3_today 1 = .ok (.iconst 0, 1) := by decide +kernel
theorem dX3_today_2 : decode cX3_today 2 = .ok (.putfield 105, 3) := by decide +kernel
theorem dX3_today_5 : decode cX3_today 5 = .ok (.aload_n 0, 1) := by decide +kernel
theorem dX3_today_6 : decode cX3_today 6 = .ok (.getfield 136, 3) := by decide +kernel
theorem dX3_today_9 : decode cX3_today 9 = .ok (.ireturn, 1) := by decide +kernel
set_option maxRecDepth 20000 in
theorem ggX3_fit_X3_isFind : GoodIn wsX3_fit wsX3_isFind := goodIn_r _ [5, 6, 7, 8, 4, 9, 42, 43, 44, 45, 46, 47, 48, 49, 50, 51, 52, 53, 54, 55, 56, 57, 58, 59, 60, 61, 62, 63, 64, 65, 66, 67, 68, 69, 70, 71, 72, 73, 74, 75, 76, 77, 78, 79] (by decide +kernel) (by decide +kernel)
set_option maxRecDepth 20000 in
theorem gX3_fit_X3_isFind : GoodIn wsX3_fit (wsV RX3 149 RX3 yX3_isFind wsX3_isFind) := goodIn_app (goodIn_of _ (by decide +kernel)) ggX3_fit_X3_isFind
set_option maxRecDepth 20000 in
theorem ggX3_fit_X3_isClaim : GoodIn wsX3_fit wsX3_isClaim := goodIn_r _ [13, 14, 7, 8, 4, 9, 42, 43, 44, 45, 46, 47, 48, 49, 50, 51, 52, 53, 54, 55, 56, 57, 58, 59, 60, 61, 62, 63, 64, 65, 66, 67, 68, 69, 70, 71, 72, 73, 74, 75, 76, 77, 78, 79] (by decide +kernel) (by decide +kernel)
set_option maxRecDepth 20000 in
theorem gX3_fit_X3_isClaim : GoodIn wsX3_fit (wsV RX3 155 RX3 yX3_isClaim wsX3_isClaim) := goodIn_app (goodIn_of _ (by decide +kernel)) ggX3_fit_X3_isClaim
set_option maxRecDepth 20000 in
theorem ggX3_fit_X3_holds : GoodIn wsX3_fit wsX3_holds := goodIn_r _ [18, 19, 42, 43, 44, 45, 46, 47, 48, 49, 50, 51, 52, 53, 54, 55, 56, 57, 58, 59, 60, 61, 62, 63, 64, 65, 66, 67, 68, 69, 70, 71, 72, 73, 74, 75, 76, 77, 78, 79] (by decide +kernel) (by decide +kernel)
set_option maxRecDepth 20000 in
theorem gX3_fit_X3_holds : GoodIn wsX3_fit (wsV RX3 123 RX3 yX3_holds wsX3_holds) := goodIn_app (goodIn_of _ (by decide +kernel)) ggX3_fit_X3_holds
set_option maxRecDepth 20000 in
theorem ggX3_fit_X3_scoreOf : GoodIn wsX3_fit wsX3_scoreOf := goodIn_r _ [23, 24, 25, 26, 27, 28, 29, 30, 31, 32, 33, 34, 35, 36, 37, 38, 39, 4, 40, 41, 42, 43, 44, 45, 46, 47, 48, 49, 50, 51, 52, 53, 54, 55, 56, 57, 58, 59, 60, 61, 62, 63, 64, 65, 66, 67, 68, 69, 70, 71, 72, 73, 74, 75, 76, 77, 78, 79] (by decide +kernel) (by decide +kernel)
set_option maxRecDepth 20000 in
theorem gX3_fit_X3_scoreOf : GoodIn wsX3_fit (wsV RX3 169 RX3 yX3_scoreOf wsX3_scoreOf) := goodIn_app (goodIn_of _ (by decide +kernel)) ggX3_fit_X3_scoreOf
theorem dX3_fit_0 : decode cX3_fit 0 = .ok (.aload_n 0, 1) := by decide +kernel
theorem dX3_fit_1 : decode cX3_fit 1 = .ok (.aload_n 0, 1) := by decide +kernel
theorem dX3_fit_2 : decode cX3_fit 2 = .ok (.iload_n 1, 1) := by decide +kernel
theorem dX3_fit_3 : decode cX3_fit 3 = .ok (.invokevirtual 149, 3) := by decide +kernel
theorem dX3_fit_6 : decode cX3_fit 6 = .ok (.ifCond .eq 15, 3) := by decide +kernel
theorem dX3_fit_9 : decode cX3_fit 9 = .ok (.aload_n 0, 1) := by decide +kernel
theorem dX3_fit_10 : decode cX3_fit 10 = .ok (.iload_n 2, 1) := by decide +kernel
theorem dX3_fit_11 : decode cX3_fit 11 = .ok (.invokevirtual 155, 3) := by decide +kernel
theorem dX3_fit_14 : decode cX3_fit 14 = .ok (.ifCond .eq 7, 3) := by decide +kernel
theorem dX3_fit_17 : decode cX3_fit 17 = .ok (.iconst 0, 1) := by decide +kernel
theorem dX3_fit_18 : decode cX3_fit 18 = .ok (.goto 4, 3) := by decide +kernel
theorem dX3_fit_21 : decode cX3_fit 21 = .ok (.iconst 1, 1) := by decide +kernel
theorem dX3_fit_22 : decode cX3_fit 22 = .ok (.invokevirtual 123, 3) := by decide +kernel
theorem dX3_fit_25 : decode cX3_fit 25 = .ok (.ifCond .eq 12, 3) := by decide +kernel
theorem dX3_fit_28 : decode cX3_fit 28 = .ok (.aload_n 0, 1) := by decide +kernel
theorem dX3_fit_29 : decode cX3_fit 29 = .ok (.iload_n 1, 1) := by decide +kernel
theorem dX3_fit_30 : decode cX3_fit 30 = .ok (.iload_n 2, 1) := by decide +kernel
theorem dX3_fit_31 : decode cX3_fit 31 = .ok (.invokevirtual 169, 3) := by decide +kernel
theorem dX3_fit_34 : decode cX3_fit 34 = .ok (.goto 4, 3) := by decide +kernel
theorem dX3_fit_37 : decode cX3_fit 37 = .ok (.iconst 0, 1) := by decide +kernel
theorem dX3_fit_38 : decode cX3_fit 38 = .ok (.ireturn, 1) := by decide +kernel
set_option maxRecDepth 20000 in
theorem ggX3_isAsked_X3_isHere : GoodIn wsX3_isAsked wsX3_isHere := goodIn_r _ [5, 6, 35, 36, 37, 38, 39, 40, 41, 42, 43, 44, 45, 46, 47, 48, 49, 50, 51, 52, 53, 54, 55, 56, 57, 58, 59, 60, 61, 62, 63, 64, 65, 66, 67, 68, 69, 70, 71, 72] (by decide +kernel) (by decide +kernel)
set_option maxRecDepth 20000 in
theorem gX3_isAsked_X3_isHere : GoodIn wsX3_isAsked (wsV RX3 152 RX3 yX3_isHere wsX3_isHere) := goodIn_app (goodIn_of _ (by decide +kernel)) ggX3_isAsked_X3_isHere
set_option maxRecDepth 20000 in
theorem ggX3_isAsked_X3_isCandidate : GoodIn wsX3_isAsked wsX3_isCandidate := goodIn_r _ [10, 11, 12, 13, 14, 15, 4, 16, 17, 18, 19, 20, 21, 22, 23, 24, 25, 26, 27, 28, 29, 30, 31, 32, 33, 34, 35, 36, 37, 38, 39, 40, 41, 42, 43, 44, 45, 46, 47, 48, 49, 50, 51, 52, 53, 54, 55, 56, 57, 58, 59, 60, 61, 62, 63, 64, 65, 66, 67, 68, 69, 70, 71, 72] (by decide +kernel) (by decide +kernel)
set_option maxRecDepth 20000 in
theorem gX3_isAsked_X3_isCandidate : GoodIn wsX3_isAsked (wsV RX3 176 RX3 yX3_isCandidate wsX3_isCandidate) := goodIn_app (goodIn_of _ (by decide +kernel)) ggX3_isAsked_X3_isCandidate
theorem dX3_isAsked_0 : decode cX3_isAsked 0 = .ok (.aload_n 0, 1) := by decide +kernel
theorem dX3_isAsked_1 : decode cX3_isAsked 1 = .ok (.iload_n 1, 1) := by decide +kernel
theorem dX3_isAsked_2 : decode cX3_isAsked 2 = .ok (.invokevirtual 152, 3) := by decide +kernel
theorem dX3_isAsked_5 : decode cX3_isAsked 5 = .ok (.ifCond .eq 16, 3) := by decide +kernel
theorem dX3_isAsked_8 : decode cX3_isAsked 8 = .ok (.aload_n 0, 1) := by decide +kernel
theorem dX3_isAsked_9 : decode cX3_isAsked 9 = .ok (.iload_n 1, 1) := by decide +kernel
theorem dX3_isAsked_10 : decode cX3_isAsked 10 = .ok (.iload_n 2, 1) := by decide +kernel
theorem dX3_isAsked_11 : decode cX3_isAsked 11 = .ok (.invokevirtual 176, 3) := by decide +kernel
theorem dX3_isAsked_14 : decode cX3_isAsked 14 = .ok (.ifCond .eq 7, 3) := by decide +kernel
theorem dX3_isAsked_17 : decode cX3_isAsked 17 = .ok (.iconst 1, 1) := by decide +kernel
theorem dX3_isAsked_18 : decode cX3_isAsked 18 = .ok (.goto 4, 3) := by decide +kernel
theorem dX3_isAsked_21 : decode cX3_isAsked 21 = .ok (.iconst 0, 1) := by decide +kernel
theorem dX3_isAsked_22 : decode cX3_isAsked 22 = .ok (.ireturn, 1) := by decide +kernel
set_option maxRecDepth 20000 in
theorem ggX3_aheadOf_X3_scoreOf : GoodIn wsX3_aheadOf wsX3_scoreOf := goodIn_r _ [6, 7, 8, 9, 10, 11, 12, 13, 14, 15, 16, 17, 18, 19, 20, 21, 22, 5, 23, 24, 40, 41, 42, 43, 44, 45, 46, 47, 48, 49, 50, 51, 52, 53, 54, 55, 56, 57, 58, 59, 60, 61, 62, 63, 64, 65, 66, 67, 68, 69, 70, 71, 72, 73, 74, 75, 76, 77] (by decide +kernel) (by decide +kernel)
set_option maxRecDepth 20000 in
theorem gX3_aheadOf_X3_scoreOf : GoodIn wsX3_aheadOf (wsV RX3 169 RX3 yX3_scoreOf wsX3_scoreOf) := goodIn_app (goodIn_of _ (by decide +kernel)) ggX3_aheadOf_X3_scoreOf
set_option maxRecDepth 20000 in
theorem ggX3_aheadOf_X3_isAsked : GoodIn wsX3_aheadOf wsX3_isAsked := goodIn_r _ [28, 29, 30, 31, 5, 32, 33, 34, 35, 36, 37, 38, 39, 2, 3, 4, 6, 7, 8, 9, 10, 11, 12, 13, 14, 15, 16, 17, 18, 19, 20, 21, 22, 23, 24, 40, 41, 42, 43, 44, 45, 46, 47, 48, 49, 50, 51, 52, 53, 54, 55, 56, 57, 58, 59, 60, 61, 62, 63, 64, 65, 66, 67, 68, 69, 70, 71, 72, 73, 74, 75, 76, 77] (by decide +kernel) (by decide +kernel)
set_option maxRecDepth 20000 in
theorem gX3_aheadOf_X3_isAsked : GoodIn wsX3_aheadOf (wsV RX3 200 RX3 yX3_isAsked wsX3_isAsked) := goodIn_app (goodIn_of _ (by decide +kernel)) ggX3_aheadOf_X3_isAsked
theorem dX3_aheadOf_0 : decode cX3_aheadOf 0 = .ok (.aload_n 0, 1) := by decide +kernel
theorem dX3_aheadOf_1 : decode cX3_aheadOf 1 = .ok (.iload_n 1, 1) := by decide +kernel
theorem dX3_aheadOf_2 : decode cX3_aheadOf 2 = .ok (.iload_n 2, 1) := by decide +kernel
theorem dX3_aheadOf_3 : decode cX3_aheadOf 3 = .ok (.invokevirtual 169, 3) := by decide +kernel
theorem dX3_aheadOf_6 : decode cX3_aheadOf 6 = .ok (.istore_n 3, 1) := by decide +kernel
theorem dX3_aheadOf_7 : decode cX3_aheadOf 7 = .ok (.iconst 0, 1) := by decide +kernel
theorem dX3_aheadOf_8 : decode cX3_aheadOf 8 = .ok (.istore 4, 2) := by decide +kernel
theorem dX3_aheadOf_10 : decode cX3_aheadOf 10 = .ok (.iconst 0, 1) := by decide +kernel
theorem dX3_aheadOf_11 : decode cX3_aheadOf 11 = .ok (.istore 5, 2) := by decide +kernel
theorem dX3_aheadOf_13 : decode cX3_aheadOf 13 = .ok (.iload 5, 2) := by decide +kernel
theorem dX3_aheadOf_15 : decode cX3_aheadOf 15 = .ok (.aload_n 0, 1) := by decide +kernel
theorem dX3_aheadOf_16 : decode cX3_aheadOf 16 = .ok (.getfield 113, 3) := by decide +kernel
theorem dX3_aheadOf_19 : decode cX3_aheadOf 19 = .ok (.if_icmp .ge 60, 3) := by decide +kernel
theorem dX3_aheadOf_22 : decode cX3_aheadOf 22 = .ok (.aload_n 0, 1) := by decide +kernel
theorem dX3_aheadOf_23 : decode cX3_aheadOf 23 = .ok (.iload 5, 2) := by decide +kernel
theorem dX3_aheadOf_25 : decode cX3_aheadOf 25 = .ok (.iload_n 2, 1) := by decide +kernel
theorem dX3_aheadOf_26 : decode cX3_aheadOf 26 = .ok (.invokevirtual 200, 3) := by decide +kernel
theorem dX3_aheadOf_29 : decode cX3_aheadOf 29 = .ok (.ifCond .eq 15, 3) := by decide +kernel
theorem dX3_aheadOf_32 : decode cX3_aheadOf 32 = .ok (.aload_n 0, 1) := by decide +kernel
theorem dX3_aheadOf_33 : decode cX3_aheadOf 33 = .ok (.iload 5, 2) := by decide +kernel
theorem dX3_aheadOf_35 : decode cX3_aheadOf 35 = .ok (.iload_n 2, 1) := by decide +kernel
theorem dX3_aheadOf_36 : decode cX3_aheadOf 36 = .ok (.invokevirtual 169, 3) := by decide +kernel
theorem dX3_aheadOf_39 : decode cX3_aheadOf 39 = .ok (.iload_n 3, 1) := by decide +kernel
theorem dX3_aheadOf_40 : decode cX3_aheadOf 40 = .ok (.isub, 1) := by decide +kernel
theorem dX3_aheadOf_41 : decode cX3_aheadOf 41 = .ok (.goto 4, 3) := by decide +kernel
theorem dX3_aheadOf_44 : decode cX3_aheadOf 44 = .ok (.iconst (-1), 1) := by decide +kernel
theorem dX3_aheadOf_45 : decode cX3_aheadOf 45 = .ok (.istore 6, 2) := by decide +kernel
theorem dX3_aheadOf_47 : decode cX3_aheadOf 47 = .ok (.iload 4, 2) := by decide +kernel
theorem dX3_aheadOf_49 : decode cX3_aheadOf 49 = .ok (.iload 6, 2) := by decide +kernel
theorem dX3_aheadOf_51 : decode cX3_aheadOf 51 = .ok (.ifCond .gt 14, 3) := by decide +kernel
theorem dX3_aheadOf_54 : decode cX3_aheadOf 54 = .ok (.iload 6, 2) := by decide +kernel
theorem dX3_aheadOf_56 : decode cX3_aheadOf 56 = .ok (.ifCond .ne 13, 3) := by decide +kernel
theorem dX3_aheadOf_59 : decode cX3_aheadOf 59 = .ok (.iload 5, 2) := by decide +kernel
theorem dX3_aheadOf_61 : decode cX3_aheadOf 61 = .ok (.iload_n 1, 1) := by decide +kernel
theorem dX3_aheadOf_62 : decode cX3_aheadOf 62 = .ok (.if_icmp .ge 7, 3) := by decide +kernel
theorem dX3_aheadOf_65 : decode cX3_aheadOf 65 = .ok (.iconst 1, 1) := by decide +kernel
theorem dX3_aheadOf_66 : decode cX3_aheadOf 66 = .ok (.goto 4, 3) := by decide +kernel
theorem dX3_aheadOf_69 : decode cX3_aheadOf 69 = .ok (.iconst 0, 1) := by decide +kernel
theorem dX3_aheadOf_70 : decode cX3_aheadOf 70 = .ok (.iadd, 1) := by decide +kernel
theorem dX3_aheadOf_71 : decode cX3_aheadOf 71 = .ok (.istore 4, 2) := by decide +kernel
theorem dX3_aheadOf_73 : decode cX3_aheadOf 73 = .ok (.iinc 5 1, 3) := by decide +kernel
theorem dX3_aheadOf_76 : decode cX3_aheadOf 76 = .ok (.goto (-63), 3) := by decide +kernel
theorem dX3_aheadOf_79 : decode cX3_aheadOf 79 = .ok (.iload 4, 2) := by decide +kernel
theorem dX3_aheadOf_81 : decode cX3_aheadOf 81 = .ok (.ireturn, 1) := by decide +kernel
set_option maxRecDepth 20000 in
theorem ggX3_candidate_X3_isClaim : GoodIn wsX3_candidate wsX3_isClaim := goodIn_r _ [6, 7, 8, 9, 5, 10, 57, 58, 59, 60, 61, 62, 63, 64, 65, 66, 67, 68, 69, 70, 71, 72, 73, 74, 75, 76, 77, 78, 79, 80, 81, 82, 83, 84, 85, 86, 87, 88, 89, 90, 91, 92, 93, 94] (by decide +kernel) (by decide +kernel)
set_option maxRecDepth 20000 in
theorem gX3_candidate_X3_isClaim : GoodIn wsX3_candidate (wsV RX3 155 RX3 yX3_isClaim wsX3_isClaim) := goodIn_app (goodIn_of _ (by decide +kernel)) ggX3_candidate_X3_isClaim
set_option maxRecDepth 20000 in
theorem ggX3_candidate_X3_holds : GoodIn wsX3_candidate wsX3_holds := goodIn_r _ [14, 15, 57, 58, 59, 60, 61, 62, 63, 64, 65, 66, 67, 68, 69, 70, 71, 72, 73, 74, 75, 76, 77, 78, 79, 80, 81, 82, 83, 84, 85, 86, 87, 88, 89, 90, 91, 92, 93, 94] (by decide +kernel) (by decide +kernel)
set_option maxRecDepth 20000 in
theorem gX3_candidate_X3_holds : GoodIn wsX3_candidate (wsV RX3 123 RX3 yX3_holds wsX3_holds) := goodIn_app (goodIn_of _ (by decide +kernel)) ggX3_candidate_X3_holds
set_option maxRecDepth 20000 in
theorem ggX3_candidate_X3_isAsked : GoodIn wsX3_candidate wsX3_isAsked := goodIn_r _ [19, 20, 21, 22, 5, 23, 24, 25, 26, 27, 28, 29, 30, 31, 32, 33, 34, 35, 36, 37, 38, 39, 40, 41, 42, 43, 44, 45, 46, 47, 48, 49, 50, 51, 52, 57, 58, 59, 60, 61, 62, 63, 64, 65, 66, 67, 68, 69, 70, 71, 72, 73, 74, 75, 76, 77, 78, 79, 80, 81, 82, 83, 84, 85, 86, 87, 88, 89, 90, 91, 92, 93, 94] (by decide +kernel) (by decide +kernel)
set_option maxRecDepth 20000 in
theorem gX3_candidate_X3_isAsked : GoodIn wsX3_candidate (wsV RX3 200 RX3 yX3_isAsked wsX3_isAsked) := goodIn_app (goodIn_of _ (by decide +kernel)) ggX3_candidate_X3_isAsked
set_option maxRecDepth 20000 in
theorem ggX3_candidate_X3_aheadOf : GoodIn wsX3_candidate wsX3_aheadOf := goodIn_r _ [56, 1, 31, 32, 33, 5, 34, 35, 36, 37, 38, 39, 40, 41, 42, 43, 44, 45, 46, 47, 48, 49, 50, 51, 52, 16, 17, 18, 19, 20, 21, 22, 23, 24, 25, 26, 27, 28, 29, 30, 57, 58, 59, 60, 61, 62, 63, 64, 65, 66, 67, 68, 69, 70, 71, 72, 73, 74, 75, 76, 77, 78, 79, 80, 81, 82, 83, 84, 85, 86, 87, 88, 89, 90, 91, 92, 93, 94] (by decide +kernel) (by decide +kernel)
set_option maxRecDepth 20000 in
theorem gX3_candidate_X3_aheadOf : GoodIn wsX3_candidate (wsV RX3 203 RX3 yX3_aheadOf wsX3_aheadOf) := goodIn_app (goodIn_of _ (by decide +kernel)) ggX3_candidate_X3_aheadOf
theorem dX3_candidate_0 : decode cX3_candidate 0 = .ok (.aload_n 0, 1) := by decide +kernel
theorem dX3_candidate_1 : decode cX3_candidate 1 = .ok (.aload_n 0, 1) := by decide +kernel
theorem dX3_candidate_2 : decode cX3_candidate 2 = .ok (.iload_n 1, 1) := by decide +kernel
theorem dX3_candidate_3 : decode cX3_candidate 3 = .ok (.invokevirtual 155, 3) := by decide +kernel
theorem dX3_candidate_6 : decode cX3_candidate 6 = .ok (.ifCond .eq 11, 3) := by decide +kernel
theorem dX3_candidate_9 : decode cX3_candidate 9 = .ok (.iload_n 2, 1) := by decide +kernel
theorem dX3_candidate_10 : decode cX3_candidate 10 = .ok (.ifCond .lt 7, 3) := by decide +kernel
theorem dX3_candidate_13 : decode cX3_candidate 13 = .ok (.iconst 0, 1) := by decide +kernel
theorem dX3_candidate_14 : decode cX3_candidate 14 = .ok (.goto 4, 3) := by decide +kernel
theorem dX3_candidate_17 : decode cX3_candidate 17 = .ok (.iconst 1, 1) := by decide +kernel
theorem dX3_candidate_18 : decode cX3_candidate 18 = .ok (.invokevirtual 123, 3) := by decide +kernel
theorem dX3_candidate_21 : decode cX3_candidate 21 = .ok (.ifCond .ne 5, 3) := by decide +kernel
theorem dX3_candidate_24 : decode cX3_candidate 24 = .ok (.iconst 0, 1) := by decide +kernel
theorem dX3_candidate_25 : decode cX3_candidate 25 = .ok (.ireturn, 1) := by decide +kernel
theorem dX3_candidate_26 : decode cX3_candidate 26 = .ok (.iconst (-1), 1) := by decide +kernel
theorem dX3_candidate_27 : decode cX3_candidate 27 = .ok (.istore_n 3, 1) := by decide +kernel
theorem dX3_candidate_28 : decode cX3_candidate 28 = .ok (.iconst 0, 1) := by decide +kernel
theorem dX3_candidate_29 : decode cX3_candidate 29 = .ok (.istore 4, 2) := by decide +kernel
theorem dX3_candidate_31 : decode cX3_candidate 31 = .ok (.iload 4, 2) := by decide +kernel
theorem dX3_candidate_33 : decode cX3_candidate 33 = .ok (.aload_n 0, 1) := by decide +kernel
theorem dX3_candidate_34 : decode cX3_candidate 34 = .ok (.getfield 113, 3) := by decide +kernel
theorem dX3_candidate_37 : decode cX3_candidate 37 = .ok (.if_icmp .ge 37, 3) := by decide +kernel
theorem dX3_candidate_40 : decode cX3_candidate 40 = .ok (.aload_n 0, 1) := by decide +kernel
theorem dX3_candidate_41 : decode cX3_candidate 41 = .ok (.iload 4, 2) := by decide +kernel
theorem dX3_candidate_43 : decode cX3_candidate 43 = .ok (.iload_n 1, 1) := by decide +kernel
theorem dX3_candidate_44 : decode cX3_candidate 44 = .ok (.invokevirtual 200, 3) := by decide +kernel
theorem dX3_candidate_47 : decode cX3_candidate 47 = .ok (.ifCond .eq 19, 3) := by decide +kernel
theorem dX3_candidate_50 : decode cX3_candidate 50 = .ok (.aload_n 0, 1) := by decide +kernel
theorem dX3_candidate_51 : decode cX3_candidate 51 = .ok (.iload 4, 2) := by decide +kernel
theorem dX3_candidate_53 : decode cX3_candidate 53 = .ok (.iload_n 1, 1) := by decide +kernel
theorem dX3_candidate_54 : decode cX3_candidate 54 = .ok (.invokevirtual 203, 3) := by decide +kernel
theorem dX3_candidate_57 : decode cX3_candidate 57 = .ok (.iload_n 2, 1) := by decide +kernel
theorem dX3_candidate_58 : decode cX3_candidate 58 = .ok (.if_icmp .ne 8, 3) := by decide +kernel
theorem dX3_candidate_61 : decode cX3_candidate 61 = .ok (.iload 4, 2) := by decide +kernel
theorem dX3_candidate_63 : decode cX3_candidate 63 = .ok (.goto 4, 3) := by decide +kernel
theorem dX3_candidate_66 : decode cX3_candidate 66 = .ok (.iload_n 3, 1) := by decide +kernel
theorem dX3_candidate_67 : decode cX3_candidate 67 = .ok (.istore_n 3, 1) := by decide +kernel
theorem dX3_candidate_68 : decode cX3_candidate 68 = .ok (.iinc 4 1, 3) := by decide +kernel
theorem dX3_candidate_71 : decode cX3_candidate 71 = .ok (.goto (-40), 3) := by decide +kernel
theorem dX3_candidate_74 : decode cX3_candidate 74 = .ok (.iload_n 3, 1) := by decide +kernel
theorem dX3_candidate_75 : decode cX3_candidate 75 = .ok (.ireturn, 1) := by decide +kernel
set_option maxRecDepth 20000 in
theorem ggX3_question_X3_isClaim : GoodIn wsX3_question wsX3_isClaim := goodIn_r _ [9, 10, 11, 12, 8, 13, 53, 54, 55, 56, 57, 58, 59, 60, 61, 62, 63, 64, 65, 66, 67, 68, 69, 70, 71, 72, 73, 74, 75, 76, 77, 78, 79, 80, 81, 82, 83, 84, 85, 86, 87, 88, 89, 90] (by decide +kernel) (by decide +kernel)
set_option maxRecDepth 20000 in
theorem gX3_question_X3_isClaim : GoodIn wsX3_question (wsV RX3 155 RX3 yX3_isClaim wsX3_isClaim) := goodIn_app (goodIn_of _ (by decide +kernel)) ggX3_question_X3_isClaim
set_option maxRecDepth 20000 in
theorem ggX3_question_X3_holds : GoodIn wsX3_question wsX3_holds := goodIn_r _ [17, 18, 53, 54, 55, 56, 57, 58, 59, 60, 61, 62, 63, 64, 65, 66, 67, 68, 69, 70, 71, 72, 73, 74, 75, 76, 77, 78, 79, 80, 81, 82, 83, 84, 85, 86, 87, 88, 89, 90] (by decide +kernel) (by decide +kernel)
set_option maxRecDepth 20000 in
theorem gX3_question_X3_holds : GoodIn wsX3_question (wsV RX3 123 RX3 yX3_holds wsX3_holds) := goodIn_app (goodIn_of _ (by decide +kernel)) ggX3_question_X3_holds
set_option maxRecDepth 20000 in
theorem ggX3_question_X3_isAsked : GoodIn wsX3_question wsX3_isAsked := goodIn_r _ [22, 23, 24, 25, 8, 26, 27, 28, 29, 30, 31, 32, 33, 34, 35, 36, 37, 38, 39, 40, 41, 42, 43, 44, 45, 2, 3, 46, 4, 47, 48, 49, 50, 51, 52, 53, 54, 55, 56, 57, 58, 59, 60, 61, 62, 63, 64, 65, 66, 67, 68, 69, 70, 71, 72, 73, 74, 75, 76, 77, 78, 79, 80, 81, 82, 83, 84, 85, 86, 87, 88, 89, 90] (by decide +kernel) (by decide +kernel)
set_option maxRecDepth 20000 in
theorem gX3_question_X3_isAsked : GoodIn wsX3_question (wsV RX3 200 RX3 yX3_isAsked wsX3_isAsked) := goodIn_app (goodIn_of _ (by decide +kernel)) ggX3_question_X3_isAsked
theorem dX3_question_0 : decode cX3_question 0 = .ok (.aload_n 0, 1) := by decide +kernel
theorem dX3_question_1 : decode cX3_question 1 = .ok (.aload_n 0, 1) := by decide +kernel
theorem dX3_question_2 : decode cX3_question 2 = .ok (.iload_n 1, 1) := by decide +kernel
theorem dX3_question_3 : decode cX3_question 3 = .ok (.invokevirtual 155, 3) := by decide +kernel
theorem dX3_question_6 : decode cX3_question 6 = .ok (.ifCond .eq 7, 3) := by decide +kernel
theorem dX3_question_9 : decode cX3_question 9 = .ok (.iconst 0, 1) := by decide +kernel
theorem dX3_question_10 : decode cX3_question 10 = .ok (.goto 4, 3) := by decide +kernel
theorem dX3_question_13 : decode cX3_question 13 = .ok (.iconst 1, 1) := by decide +kernel
theorem dX3_question_14 : decode cX3_question 14 = .ok (.invokevirtual 123, 3) := by decide +kernel
theorem dX3_question_17 : decode cX3_question 17 = .ok (.ifCond .ne 5, 3) := by decide +kernel
theorem dX3_question_20 : decode cX3_question 20 = .ok (.iconst 0, 1) := by decide +kernel
theorem dX3_question_21 : decode cX3_question 21 = .ok (.ireturn, 1) := by decide +kernel
theorem dX3_question_22 : decode cX3_question 22 = .ok (.iconst (-1), 1) := by decide +kernel
theorem dX3_question_23 : decode cX3_question 23 = .ok (.istore_n 2, 1) := by decide +kernel
theorem dX3_question_24 : decode cX3_question 24 = .ok (.iconst 0, 1) := by decide +kernel
theorem dX3_question_25 : decode cX3_question 25 = .ok (.istore_n 3, 1) := by decide +kernel
theorem dX3_question_26 : decode cX3_question 26 = .ok (.bipush 23, 2) := by decide +kernel
theorem dX3_question_28 : decode cX3_question 28 = .ok (.istore 4, 2) := by decide +kernel
theorem dX3_question_30 : decode cX3_question 30 = .ok (.iload 4, 2) := by decide +kernel
theorem dX3_question_32 : decode cX3_question 32 = .ok (.ifCond .lt 178, 3) := by decide +kernel
theorem dX3_question_35 : decode cX3_question 35 = .ok (.iconst 0, 1) := by decide +kernel
theorem dX3_question_36 : decode cX3_question 36 = .ok (.istore 5, 2) := by decide +kernel
theorem dX3_question_38 : decode cX3_question 38 = .ok (.iconst 0, 1) := by decide +kernel
theorem dX3_question_39 : decode cX3_question 39 = .ok (.istore 6, 2) := by decide +kernel
theorem dX3_question_41 : decode cX3_question 41 = .ok (.iconst 0, 1) := by decide +kernel
theorem dX3_question_42 : decode cX3_question 42 = .ok (.istore 7, 2) := by decide +kernel
theorem dX3_question_44 : decode cX3_question 44 = .ok (.iload 7, 2) := by decide +kernel
theorem dX3_question_46 : decode cX3_question 46 = .ok (.aload_n 0, 1) := by decide +kernel
theorem dX3_question_47 : decode cX3_question 47 = .ok (.getfield 113, 3) := by decide +kernel
theorem dX3_question_50 : decode cX3_question 50 = .ok (.if_icmp .ge 76, 3) := by decide +kernel
theorem dX3_question_53 : decode cX3_question 53 = .ok (.aload_n 0, 1) := by decide +kernel
theorem dX3_question_54 : decode cX3_question 54 = .ok (.iload 7, 2) := by decide +kernel
theorem dX3_question_56 : decode cX3_question 56 = .ok (.iload_n 1, 1) := by decide +kernel
theorem dX3_question_57 : decode cX3_question 57 = .ok (.invokevirtual 200, 3) := by decide +kernel
theorem dX3_question_60 : decode cX3_question 60 = .ok (.istore 8, 2) := by decide +kernel
theorem dX3_question_62 : decode cX3_question 62 = .ok (.iload 5, 2) := by decide +kernel
theorem dX3_question_64 : decode cX3_question 64 = .ok (.iload 8, 2) := by decide +kernel
theorem dX3_question_66 : decode cX3_question 66 = .ok (.ifCond .eq 7, 3) := by decide +kernel
theorem dX3_question_69 : decode cX3_question 69 = .ok (.iconst 1, 1) := by decide +kernel
theorem dX3_question_70 : decode cX3_question 70 = .ok (.goto 4, 3) := by decide +kernel
theorem dX3_question_73 : decode cX3_question 73 = .ok (.iconst 0, 1) := by decide +kernel
theorem dX3_question_74 : decode cX3_question 74 = .ok (.iadd, 1) := by decide +kernel
theorem dX3_question_75 : decode cX3_question 75 = .ok (.istore 5, 2) := by decide +kernel
theorem dX3_question_77 : decode cX3_question 77 = .ok (.iload 6, 2) := by decide +kernel
theorem dX3_question_79 : decode cX3_question 79 = .ok (.iload 8, 2) := by decide +kernel
theorem dX3_question_81 : decode cX3_question 81 = .ok (.ifCond .ne 7, 3) := by decide +kernel
theorem dX3_question_84 : decode cX3_question 84 = .ok (.iconst 0, 1) := by decide +kernel
theorem dX3_question_85 : decode cX3_question 85 = .ok (.goto 32, 3) := by decide +kernel
theorem dX3_question_88 : decode cX3_question 88 = .ok (.aload_n 0, 1) := by decide +kernel
theorem dX3_question_89 : decode cX3_question 89 = .ok (.getfield 38, 3) := by decide +kernel
theorem dX3_question_92 : decode cX3_question 92 = .ok (.iload 7, 2) := by decide +kernel
theorem dX3_question_94 : decode cX3_question 94 = .ok (.iaload, 1) := by decide +kernel
theorem dX3_question_95 : decode cX3_question 95 = .ok (.aload_n 0, 1) := by decide +kernel
theorem dX3_question_96 : decode cX3_question 96 = .ok (.getfield 41, 3) := by decide +kernel
theorem dX3_question_99 : decode cX3_question 99 = .ok (.iload 7, 2) := by decide +kernel
theorem dX3_question_101 : decode cX3_question 101 = .ok (.iaload, 1) := by decide +kernel
theorem dX3_question_102 : decode cX3_question 102 = .ok (.ior, 1) := by decide +kernel
theorem dX3_question_103 : decode cX3_question 103 = .ok (.iload 4, 2) := by decide +kernel
theorem dX3_question_105 : decode cX3_question 105 = .ok (.ishr, 1) := by decide +kernel
theorem dX3_question_106 : decode cX3_question 106 = .ok (.iconst 1, 1) := by decide +kernel
theorem dX3_question_107 : decode cX3_question 107 = .ok (.iand, 1) := by decide +kernel
theorem dX3_question_108 : decode cX3_question 108 = .ok (.iconst 1, 1) := by decide +kernel
theorem dX3_question_109 : decode cX3_question 109 = .ok (.if_icmp .ne 7, 3) := by decide +kernel
theorem dX3_question_112 : decode cX3_question 112 = .ok (.iconst 1, 1) := by decide +kernel
theorem dX3_question_113 : decode cX3_question 113 = .ok (.goto 4, 3) := by decide +kernel
theorem dX3_question_116 : decode cX3_question 116 = .ok (.iconst (-1), 1) := by decide +kernel
theorem dX3_question_117 : decode cX3_question 117 = .ok (.iadd, 1) := by decide +kernel
theorem dX3_question_118 : decode cX3_question 118 = .ok (.istore 6, 2) := by decide +kernel
theorem dX3_question_120 : decode cX3_question 120 = .ok (.iinc 7 1, 3) := by decide +kernel
theorem dX3_question_123 : decode cX3_question 123 = .ok (.goto (-79), 3) := by decide +kernel
theorem dX3_question_126 : decode cX3_question 126 = .ok (.iload 6, 2) := by decide +kernel
theorem dX3_question_128 : decode cX3_question 128 = .ok (.ifCond .ge 9, 3) := by decide +kernel
theorem dX3_question_131 : decode cX3_question 131 = .ok (.iload 6, 2) := by decide +kernel
theorem dX3_question_133 : decode cX3_question 133 = .ok (.ineg, 1) := by decide +kernel
theorem dX3_question_134 : decode cX3_question 134 = .ok (.goto 5, 3) := by decide +kernel
theorem dX3_question_137 : decode cX3_question 137 = .ok (.iload 6, 2) := by decide +kernel
theorem dX3_question_139 : decode cX3_question 139 = .ok (.istore 7, 2) := by decide +kernel
theorem dX3_question_141 : decode cX3_question 141 = .ok (.aload_n 0, 1) := by decide +kernel
theorem dX3_question_142 : decode cX3_question 142 = .ok (.getfield 90, 3) := by decide +kernel
theorem dX3_question_145 : decode cX3_question 145 = .ok (.iload_n 1, 1) := by decide +kernel
theorem dX3_question_146 : decode cX3_question 146 = .ok (.iaload, 1) := by decide +kernel
theorem dX3_question_147 : decode cX3_question 147 = .ok (.iload 4, 2) := by decide +kernel
theorem dX3_question_149 : decode cX3_question 149 = .ok (.ishr, 1) := by decide +kernel
theorem dX3_question_150 : decode cX3_question 150 = .ok (.iconst 1, 1) := by decide +kernel
theorem dX3_question_151 : decode cX3_question 151 = .ok (.iand, 1) := by decide +kernel
theorem dX3_question_152 : decode cX3_question 152 = .ok (.ifCond .ne 25, 3) := by decide +kernel
theorem dX3_question_155 : decode cX3_question 155 = .ok (.iload 7, 2) := by decide +kernel
theorem dX3_question_157 : decode cX3_question 157 = .ok (.iload 5, 2) := by decide +kernel
theorem dX3_question_159 : decode cX3_question 159 = .ok (.if_icmp .ge 18, 3) := by decide +kernel
theorem dX3_question_162 : decode cX3_question 162 = .ok (.iload_n 2, 1) := by decide +kernel
theorem dX3_question_163 : decode cX3_question 163 = .ok (.iconst (-1), 1) := by decide +kernel
theorem dX3_question_164 : decode cX3_question 164 = .ok (.if_icmp .eq 9, 3) := by decide +kernel
theorem dX3_question_167 : decode cX3_question 167 = .ok (.iload 7, 2) := by decide +kernel
theorem dX3_question_169 : decode cX3_question 169 = .ok (.iload_n 3, 1) := by decide +kernel
theorem dX3_question_170 : decode cX3_question 170 = .ok (.if_icmp .gt 7, 3) := by decide +kernel
theorem dX3_question_173 : decode cX3_question 173 = .ok (.iconst 1, 1) := by decide +kernel
theorem dX3_question_174 : decode cX3_question 174 = .ok (.goto 4, 3) := by decide +kernel
theorem dX3_question_177 : decode cX3_question 177 = .ok (.iconst 0, 1) := by decide +kernel
theorem dX3_question_178 : decode cX3_question 178 = .ok (.istore 8, 2) := by decide +kernel
theorem dX3_question_180 : decode cX3_question 180 = .ok (.iload 8, 2) := by decide +kernel
theorem dX3_question_182 : decode cX3_question 182 = .ok (.ifCond .eq 8, 3) := by decide +kernel
theorem dX3_question_185 : decode cX3_question 185 = .ok (.iload 4, 2) := by decide +kernel
theorem dX3_question_187 : decode cX3_question 187 = .ok (.goto 4, 3) := by decide +kernel
theorem dX3_question_190 : decode cX3_question 190 = .ok (.iload_n 2, 1) := by decide +kernel
theorem dX3_question_191 : decode cX3_question 191 = .ok (.istore_n 2, 1) := by decide +kernel
theorem dX3_question_192 : decode cX3_question 192 = .ok (.iload 8, 2) := by decide +kernel
theorem dX3_question_194 : decode cX3_question 194 = .ok (.ifCond .eq 8, 3) := by decide +kernel
theorem dX3_question_197 : decode cX3_question 197 = .ok (.iload 7, 2) := by decide +kernel
theorem dX3_question_199 : decode cX3_question 199 = .ok (.goto 4, 3) := by decide +kernel
theorem dX3_question_202 : decode cX3_question 202 = .ok (.iload_n 3, 1) := by decide +kernel
theorem dX3_question_203 : decode cX3_question 203 = .ok (.istore_n 3, 1) := by decide +kernel
theorem dX3_question_204 : decode cX3_question 204 = .ok (.iinc 4 (-1), 3) := by decide +kernel
theorem dX3_question_207 : decode cX3_question 207 = .ok (.goto (-177), 3) := by decide +kernel
theorem dX3_question_210 : decode cX3_question 210 = .ok (.iload_n 2, 1) := by decide +kernel
theorem dX3_question_211 : decode cX3_question 211 = .ok (.ireturn, 1) := by decide +kernel
set_option maxRecDepth 20000 in
theorem ggX3_isProven_X3_isFind : GoodIn wsX3_isProven wsX3_isFind := goodIn_r _ [5, 6, 7, 8, 4, 9, 29, 30, 31, 32, 33, 34, 35, 36, 37, 38, 39, 40, 41, 42, 43, 44, 45, 46, 47, 48, 49, 50, 51, 52, 53, 54, 55, 56, 57, 58, 59, 60, 61, 62, 63, 64, 65, 66] (by decide +kernel) (by decide +kernel)
set_option maxRecDepth 20000 in
theorem gX3_isProven_X3_isFind : GoodIn wsX3_isProven (wsV RX3 149 RX3 yX3_isFind wsX3_isFind) := goodIn_app (goodIn_of _ (by decide +kernel)) ggX3_isProven_X3_isFind
set_option maxRecDepth 20000 in
theorem ggX3_isProven_X3_isClaim : GoodIn wsX3_isProven wsX3_isClaim := goodIn_r _ [13, 14, 7, 8, 4, 9, 29, 30, 31, 32, 33, 34, 35, 36, 37, 38, 39, 40, 41, 42, 43, 44, 45, 46, 47, 48, 49, 50, 51, 52, 53, 54, 55, 56, 57, 58, 59, 60, 61, 62, 63, 64, 65, 66] (by decide +kernel) (by decide +kernel)
set_option maxRecDepth 20000 in
theorem gX3_isProven_X3_isClaim : GoodIn wsX3_isProven (wsV RX3 155 RX3 yX3_isClaim wsX3_isClaim) := goodIn_app (goodIn_of _ (by decide +kernel)) ggX3_isProven_X3_isClaim
set_option maxRecDepth 20000 in
theorem ggX3_isProven_X3_holds : GoodIn wsX3_isProven wsX3_holds := goodIn_r _ [18, 19, 29, 30, 31, 32, 33, 34, 35, 36, 37, 38, 39, 40, 41, 42, 43, 44, 45, 46, 47, 48, 49, 50, 51, 52, 53, 54, 55, 56, 57, 58, 59, 60, 61, 62, 63, 64, 65, 66] (by decide +kernel) (by decide +kernel)
set_option maxRecDepth 20000 in
theorem gX3_isProven_X3_holds : GoodIn wsX3_isProven (wsV RX3 123 RX3 yX3_holds wsX3_holds) := goodIn_app (goodIn_of _ (by decide +kernel)) ggX3_isProven_X3_holds
set_option maxRecDepth 20000 in
theorem ggX3_isProven_X3_proves : GoodIn wsX3_isProven wsX3_proves := goodIn_r _ [23, 24, 25, 26, 27, 4, 28, 29, 30, 31, 32, 33, 34, 35, 36, 37, 38, 39, 40, 41, 42, 43, 44, 45, 46, 47, 48, 49, 50, 51, 52, 53, 54, 55, 56, 57, 58, 59, 60, 61, 62, 63, 64, 65, 66] (by decide +kernel) (by decide +kernel)
set_option maxRecDepth 20000 in
theorem gX3_isProven_X3_proves : GoodIn wsX3_isProven (wsV RX3 172 RX3 yX3_proves wsX3_proves) := goodIn_app (goodIn_of _ (by decide +kernel)) ggX3_isProven_X3_proves
theorem dX3_isProven_0 : decode cX3_isProven 0 = .ok (.aload_n 0, 1) := by decide +kernel
theorem dX3_isProven_1 : decode cX3_isProven 1 = .ok (.aload_n 0, 1) := by decide +kernel
theorem dX3_isProven_2 : decode cX3_isProven 2 = .ok (.iload_n 1, 1) := by decide +kernel
theorem dX3_isProven_3 : decode cX3_isProven 3 = .ok (.invokevirtual 149, 3) := by decide +kernel
theorem dX3_isProven_6 : decode cX3_isProven 6 = .ok (.ifCond .eq 15, 3) := by decide +kernel
theorem dX3_isProven_9 : decode cX3_isProven 9 = .ok (.aload_n 0, 1) := by decide +kernel
theorem dX3_isProven_10 : decode cX3_isProven 10 = .ok (.iload_n 2, 1) := by decide +kernel
theorem dX3_isProven_11 : decode cX3_isProven 11 = .ok (.invokevirtual 155, 3) := by decide +kernel
theorem dX3_isProven_14 : decode cX3_isProven 14 = .ok (.ifCond .eq 7, 3) := by decide +kernel
theorem dX3_isProven_17 : decode cX3_isProven 17 = .ok (.iconst 0, 1) := by decide +kernel
theorem dX3_isProven_18 : decode cX3_isProven 18 = .ok (.goto 4, 3) := by decide +kernel
theorem dX3_isProven_21 : decode cX3_isProven 21 = .ok (.iconst 1, 1) := by decide +kernel
theorem dX3_isProven_22 : decode cX3_isProven 22 = .ok (.invokevirtual 123, 3) := by decide +kernel
theorem dX3_isProven_25 : decode cX3_isProven 25 = .ok (.ifCond .eq 16, 3) := by decide +kernel
theorem dX3_isProven_28 : decode cX3_isProven 28 = .ok (.aload_n 0, 1) := by decide +kernel
theorem dX3_isProven_29 : decode cX3_isProven 29 = .ok (.iload_n 1, 1) := by decide +kernel
theorem dX3_isProven_30 : decode cX3_isProven 30 = .ok (.iload_n 2, 1) := by decide +kernel
theorem dX3_isProven_31 : decode cX3_isProven 31 = .ok (.invokevirtual 172, 3) := by decide +kernel
theorem dX3_isProven_34 : decode cX3_isProven 34 = .ok (.ifCond .eq 7, 3) := by decide +kernel
theorem dX3_isProven_37 : decode cX3_isProven 37 = .ok (.iconst 1, 1) := by decide +kernel
theorem dX3_isProven_38 : decode cX3_isProven 38 = .ok (.goto 4, 3) := by decide +kernel
theorem dX3_isProven_41 : decode cX3_isProven 41 = .ok (.iconst 0, 1) := by decide +kernel
theorem dX3_isProven_42 : decode cX3_isProven 42 = .ok (.ireturn, 1) := by decide +kernel
set_option maxRecDepth 20000 in
theorem ggX3_isDue_X3_isFind : GoodIn wsX3_isDue wsX3_isFind := goodIn_r _ [5, 6, 7, 8, 4, 9, 52, 53, 54, 55, 56, 57, 58, 59, 60, 61, 62, 63, 64, 65, 66, 67, 68, 69, 70, 71, 72, 73, 74, 75, 76, 77, 78, 79, 80, 81, 82, 83, 84, 85, 86, 87, 88, 89] (by decide +kernel) (by decide +kernel)
set_option maxRecDepth 20000 in
theorem gX3_isDue_X3_isFind : GoodIn wsX3_isDue (wsV RX3 149 RX3 yX3_isFind wsX3_isFind) := goodIn_app (goodIn_of _ (by decide +kernel)) ggX3_isDue_X3_isFind
set_option maxRecDepth 20000 in
theorem ggX3_isDue_X3_holds : GoodIn wsX3_isDue wsX3_holds := goodIn_r _ [13, 14, 52, 53, 54, 55, 56, 57, 58, 59, 60, 61, 62, 63, 64, 65, 66, 67, 68, 69, 70, 71, 72, 73, 74, 75, 76, 77, 78, 79, 80, 81, 82, 83, 84, 85, 86, 87, 88, 89] (by decide +kernel) (by decide +kernel)
set_option maxRecDepth 20000 in
theorem gX3_isDue_X3_holds : GoodIn wsX3_isDue (wsV RX3 123 RX3 yX3_holds wsX3_holds) := goodIn_app (goodIn_of _ (by decide +kernel)) ggX3_isDue_X3_holds
set_option maxRecDepth 20000 in
theorem ggX3_isDue_X3_isOver : GoodIn wsX3_isDue wsX3_isOver := goodIn_r _ [18, 19, 20, 21, 22, 23, 24, 25, 26, 4, 27, 28, 29, 30, 31, 32, 33, 34, 35, 36, 37, 38, 39, 40, 41, 42, 43, 44, 45, 46, 47, 48, 49, 50, 51, 52, 53, 54, 55, 56, 57, 58, 59, 60, 61, 62, 63, 64, 65, 66, 67, 68, 69, 70, 71, 72, 73, 74, 75, 76, 77, 78, 79, 80, 81, 82, 83, 84, 85, 86, 87, 88, 89] (by decide +kernel) (by decide +kernel)
set_option maxRecDepth 20000 in
theorem gX3_isDue_X3_isOver : GoodIn wsX3_isDue (wsV RX3 191 RX3 yX3_isOver wsX3_isOver) := goodIn_app (goodIn_of _ (by decide +kernel)) ggX3_isDue_X3_isOver
theorem dX3_isDue_0 : decode cX3_isDue 0 = .ok (.aload_n 0, 1) := by decide +kernel
theorem dX3_isDue_1 : decode cX3_isDue 1 = .ok (.aload_n 0, 1) := by decide +kernel
theorem dX3_isDue_2 : decode cX3_isDue 2 = .ok (.iload_n 1, 1) := by decide +kernel
theorem dX3_isDue_3 : decode cX3_isDue 3 = .ok (.invokevirtual 149, 3) := by decide +kernel
theorem dX3_isDue_6 : decode cX3_isDue 6 = .ok (.ifCond .eq 7, 3) := by decide +kernel
theorem dX3_isDue_9 : decode cX3_isDue 9 = .ok (.iconst 0, 1) := by decide +kernel
theorem dX3_isDue_10 : decode cX3_isDue 10 = .ok (.goto 4, 3) := by decide +kernel
theorem dX3_isDue_13 : decode cX3_isDue 13 = .ok (.iconst 1, 1) := by decide +kernel
theorem dX3_isDue_14 : decode cX3_isDue 14 = .ok (.invokevirtual 123, 3) := by decide +kernel
theorem dX3_isDue_17 : decode cX3_isDue 17 = .ok (.ifCond .eq 15, 3) := by decide +kernel
theorem dX3_isDue_20 : decode cX3_isDue 20 = .ok (.aload_n 0, 1) := by decide +kernel
