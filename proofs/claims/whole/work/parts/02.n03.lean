theorem dX3_init_156 : decode cX3_init 156 = .ok (.newarray .int, 2) := by decide +kernel
theorem dX3_init_158 : decode cX3_init 158 = .ok (.putfield 69, 3) := by decide +kernel
theorem dX3_init_161 : decode cX3_init 161 = .ok (.aload_n 0, 1) := by decide +kernel
theorem dX3_init_162 : decode cX3_init 162 = .ok (.sipush 360, 3) := by decide +kernel
theorem dX3_init_165 : decode cX3_init 165 = .ok (.newarray .int, 2) := by decide +kernel
theorem dX3_init_167 : decode cX3_init 167 = .ok (.putfield 72, 3) := by decide +kernel
theorem dX3_init_170 : decode cX3_init 170 = .ok (.aload_n 0, 1) := by decide +kernel
theorem dX3_init_171 : decode cX3_init 171 = .ok (.sipush 360, 3) := by decide +kernel
theorem dX3_init_174 : decode cX3_init 174 = .ok (.newarray .int, 2) := by decide +kernel
theorem dX3_init_176 : decode cX3_init 176 = .ok (.putfield 75, 3) := by decide +kernel
theorem dX3_init_179 : decode cX3_init 179 = .ok (.aload_n 0, 1) := by decide +kernel
theorem dX3_init_180 : decode cX3_init 180 = .ok (.bipush 20, 2) := by decide +kernel
theorem dX3_init_182 : decode cX3_init 182 = .ok (.newarray .int, 2) := by decide +kernel
theorem dX3_init_184 : decode cX3_init 184 = .ok (.putfield 78, 3) := by decide +kernel
theorem dX3_init_187 : decode cX3_init 187 = .ok (.aload_n 0, 1) := by decide +kernel
theorem dX3_init_188 : decode cX3_init 188 = .ok (.bipush 20, 2) := by decide +kernel
theorem dX3_init_190 : decode cX3_init 190 = .ok (.newarray .int, 2) := by decide +kernel
theorem dX3_init_192 : decode cX3_init 192 = .ok (.putfield 81, 3) := by decide +kernel
theorem dX3_init_195 : decode cX3_init 195 = .ok (.aload_n 0, 1) := by decide +kernel
theorem dX3_init_196 : decode cX3_init 196 = .ok (.bipush 20, 2) := by decide +kernel
theorem dX3_init_198 : decode cX3_init 198 = .ok (.newarray .int, 2) := by decide +kernel
theorem dX3_init_200 : decode cX3_init 200 = .ok (.putfield 84, 3) := by decide +kernel
theorem dX3_init_203 : decode cX3_init 203 = .ok (.aload_n 0, 1) := by decide +kernel
theorem dX3_init_204 : decode cX3_init 204 = .ok (.bipush 20, 2) := by decide +kernel
theorem dX3_init_206 : decode cX3_init 206 = .ok (.newarray .int, 2) := by decide +kernel
theorem dX3_init_208 : decode cX3_init 208 = .ok (.putfield 87, 3) := by decide +kernel
theorem dX3_init_211 : decode cX3_init 211 = .ok (.aload_n 0, 1) := by decide +kernel
theorem dX3_init_212 : decode cX3_init 212 = .ok (.bipush 20, 2) := by decide +kernel
theorem dX3_init_214 : decode cX3_init 214 = .ok (.newarray .int, 2) := by decide +kernel
theorem dX3_init_216 : decode cX3_init 216 = .ok (.putfield 90, 3) := by decide +kernel
theorem dX3_init_219 : decode cX3_init 219 = .ok (.aload_n 0, 1) := by decide +kernel
theorem dX3_init_220 : decode cX3_init 220 = .ok (.bipush 20, 2) := by decide +kernel
theorem dX3_init_222 : decode cX3_init 222 = .ok (.newarray .int, 2) := by decide +kernel
theorem dX3_init_224 : decode cX3_init 224 = .ok (.putfield 93, 3) := by decide +kernel
theorem dX3_init_227 : decode cX3_init 227 = .ok (.aload_n 0, 1) := by decide +kernel
theorem dX3_init_228 : decode cX3_init 228 = .ok (.bipush 20, 2) := by decide +kernel
theorem dX3_init_230 : decode cX3_init 230 = .ok (.newarray .int, 2) := by decide +kernel
theorem dX3_init_232 : decode cX3_init 232 = .ok (.putfield 96, 3) := by decide +kernel
theorem dX3_init_235 : decode cX3_init 235 = .ok (.aload_n 0, 1) := by decide +kernel
theorem dX3_init_236 : decode cX3_init 236 = .ok (.bipush 20, 2) := by decide +kernel
theorem dX3_init_238 : decode cX3_init 238 = .ok (.newarray .int, 2) := by decide +kernel
theorem dX3_init_240 : decode cX3_init 240 = .ok (.putfield 99, 3) := by decide +kernel
theorem dX3_init_243 : decode cX3_init 243 = .ok (.aload_n 0, 1) := by decide +kernel
theorem dX3_init_244 : decode cX3_init 244 = .ok (.bipush 20, 2) := by decide +kernel
theorem dX3_init_246 : decode cX3_init 246 = .ok (.newarray .int, 2) := by decide +kernel
theorem dX3_init_248 : decode cX3_init 248 = .ok (.putfield 102, 3) := by decide +kernel
theorem dX3_init_251 : decode cX3_init 251 = .ok (.iconst 0, 1) := by decide +kernel
theorem dX3_init_252 : decode cX3_init 252 = .ok (.istore_n 1, 1) := by decide +kernel
theorem dX3_init_253 : decode cX3_init 253 = .ok (.iload_n 1, 1) := by decide +kernel
theorem dX3_init_254 : decode cX3_init 254 = .ok (.bipush 8, 2) := by decide +kernel
theorem dX3_init_256 : decode cX3_init 256 = .ok (.if_icmp .ge 17, 3) := by decide +kernel
theorem dX3_init_259 : decode cX3_init 259 = .ok (.aload_n 0, 1) := by decide +kernel
theorem dX3_init_260 : decode cX3_init 260 = .ok (.getfield 16, 3) := by decide +kernel
theorem dX3_init_263 : decode cX3_init 263 = .ok (.iload_n 1, 1) := by decide +kernel
theorem dX3_init_264 : decode cX3_init 264 = .ok (.bipush 60, 2) := by decide +kernel
theorem dX3_init_266 : decode cX3_init 266 = .ok (.iastore, 1) := by decide +kernel
theorem dX3_init_267 : decode cX3_init 267 = .ok (.iinc 1 1, 3) := by decide +kernel
theorem dX3_init_270 : decode cX3_init 270 = .ok (.goto (-17), 3) := by decide +kernel
theorem dX3_init_273 : decode cX3_init 273 = .ok (.return_, 1) := by decide +kernel
theorem dX3_thrown_0 : decode cX3_thrown 0 = .ok (.aload_n 0, 1) := by decide +kernel
theorem dX3_thrown_1 : decode cX3_thrown 1 = .ok (.getfield 105, 3) := by decide +kernel
theorem dX3_thrown_4 : decode cX3_thrown 4 = .ok (.ireturn, 1) := by decide +kernel
theorem dX3_holds_0 : decode cX3_holds 0 = .ok (.aload_n 0, 1) := by decide +kernel
theorem dX3_holds_1 : decode cX3_holds 1 = .ok (.iload_n 1, 1) := by decide +kernel
theorem dX3_holds_2 : decode cX3_holds 2 = .ok (.putfield 105, 3) := by decide +kernel
theorem dX3_holds_5 : decode cX3_holds 5 = .ok (.iload_n 1, 1) := by decide +kernel
theorem dX3_holds_6 : decode cX3_holds 6 = .ok (.ifCond .ne 7, 3) := by decide +kernel
theorem dX3_holds_9 : decode cX3_holds 9 = .ok (.iconst 1, 1) := by decide +kernel
theorem dX3_holds_10 : decode cX3_holds 10 = .ok (.goto 4, 3) := by decide +kernel
theorem dX3_holds_13 : decode cX3_holds 13 = .ok (.iconst 0, 1) := by decide +kernel
theorem dX3_holds_14 : decode cX3_holds 14 = .ok (.ireturn, 1) := by decide +kernel
theorem dX3_in_0 : decode cX3_in 0 = .ok (.iload_n 0, 1) := by decide +kernel
theorem dX3_in_1 : decode cX3_in 1 = .ok (.iload_n 1, 1) := by decide +kernel
theorem dX3_in_2 : decode cX3_in 2 = .ok (.if_icmp .lt 12, 3) := by decide +kernel
theorem dX3_in_5 : decode cX3_in 5 = .ok (.iload_n 0, 1) := by decide +kernel
theorem dX3_in_6 : decode cX3_in 6 = .ok (.iload_n 2, 1) := by decide +kernel
theorem dX3_in_7 : decode cX3_in 7 = .ok (.if_icmp .gt 7, 3) := by decide +kernel
theorem dX3_in_10 : decode cX3_in 10 = .ok (.iconst 1, 1) := by decide +kernel
theorem dX3_in_11 : decode cX3_in 11 = .ok (.goto 4, 3) := by decide +kernel
theorem dX3_in_14 : decode cX3_in 14 = .ok (.iconst 0, 1) := by decide +kernel
theorem dX3_in_15 : decode cX3_in 15 = .ok (.ireturn, 1) := by decide +kernel
set_option maxRecDepth 20000 in
theorem ggX3_isWord_X3_in : GoodIn wsX3_isWord wsX3_in := goodIn_r _ [4] (by decide +kernel) (by decide +kernel)
set_option maxRecDepth 20000 in
theorem gX3_isWord_X3_in : GoodIn wsX3_isWord (va_wsS RX3 108 yX3_in wsX3_in) := goodIn_app (goodIn_of _ (by decide +kernel)) ggX3_isWord_X3_in
theorem dX3_isWord_0 : decode cX3_isWord 0 = .ok (.iload_n 0, 1) := by decide +kernel
theorem dX3_isWord_1 : decode cX3_isWord 1 = .ok (.iconst 0, 1) := by decide +kernel
theorem dX3_isWord_2 : decode cX3_isWord 2 = .ok (.bipush 23, 2) := by decide +kernel
theorem dX3_isWord_4 : decode cX3_isWord 4 = .ok (.invokestatic 108, 3) := by decide +kernel
theorem dX3_isWord_7 : decode cX3_isWord 7 = .ok (.ireturn, 1) := by decide +kernel
set_option maxRecDepth 20000 in
theorem ggX3_isKind_X3_in : GoodIn wsX3_isKind wsX3_in := goodIn_r _ [4] (by decide +kernel) (by decide +kernel)
set_option maxRecDepth 20000 in
theorem gX3_isKind_X3_in : GoodIn wsX3_isKind (va_wsS RX3 108 yX3_in wsX3_in) := goodIn_app (goodIn_of _ (by decide +kernel)) ggX3_isKind_X3_in
theorem dX3_isKind_0 : decode cX3_isKind 0 = .ok (.iload_n 0, 1) := by decide +kernel
theorem dX3_isKind_1 : decode cX3_isKind 1 = .ok (.iconst 0, 1) := by decide +kernel
theorem dX3_isKind_2 : decode cX3_isKind 2 = .ok (.bipush 7, 2) := by decide +kernel
theorem dX3_isKind_4 : decode cX3_isKind 4 = .ok (.invokestatic 108, 3) := by decide +kernel
theorem dX3_isKind_7 : decode cX3_isKind 7 = .ok (.ireturn, 1) := by decide +kernel
set_option maxRecDepth 20000 in
theorem ggX3_isRoom_X3_in : GoodIn wsX3_isRoom wsX3_in := goodIn_r _ [4] (by decide +kernel) (by decide +kernel)
set_option maxRecDepth 20000 in
theorem gX3_isRoom_X3_in : GoodIn wsX3_isRoom (va_wsS RX3 108 yX3_in wsX3_in) := goodIn_app (goodIn_of _ (by decide +kernel)) ggX3_isRoom_X3_in
theorem dX3_isRoom_0 : decode cX3_isRoom 0 = .ok (.iload_n 0, 1) := by decide +kernel
theorem dX3_isRoom_1 : decode cX3_isRoom 1 = .ok (.iconst 0, 1) := by decide +kernel
theorem dX3_isRoom_2 : decode cX3_isRoom 2 = .ok (.iconst 5, 1) := by decide +kernel
theorem dX3_isRoom_3 : decode cX3_isRoom 3 = .ok (.invokestatic 108, 3) := by decide +kernel
theorem dX3_isRoom_6 : decode cX3_isRoom 6 = .ok (.ireturn, 1) := by decide +kernel
set_option maxRecDepth 20000 in
theorem ggX3_isPlace_X3_in : GoodIn wsX3_isPlace wsX3_in := goodIn_r _ [4] (by decide +kernel) (by decide +kernel)
set_option maxRecDepth 20000 in
theorem gX3_isPlace_X3_in : GoodIn wsX3_isPlace (va_wsS RX3 108 yX3_in wsX3_in) := goodIn_app (goodIn_of _ (by decide +kernel)) ggX3_isPlace_X3_in
theorem dX3_isPlace_0 : decode cX3_isPlace 0 = .ok (.iload_n 0, 1) := by decide +kernel
theorem dX3_isPlace_1 : decode cX3_isPlace 1 = .ok (.iconst 0, 1) := by decide +kernel
theorem dX3_isPlace_2 : decode cX3_isPlace 2 = .ok (.bipush 9, 2) := by decide +kernel
theorem dX3_isPlace_4 : decode cX3_isPlace 4 = .ok (.invokestatic 108, 3) := by decide +kernel
theorem dX3_isPlace_7 : decode cX3_isPlace 7 = .ok (.ireturn, 1) := by decide +kernel
set_option maxRecDepth 20000 in
theorem ggX3_isSet_X3_in : GoodIn wsX3_isSet wsX3_in := goodIn_r _ [5] (by decide +kernel) (by decide +kernel)
set_option maxRecDepth 20000 in
theorem gX3_isSet_X3_in : GoodIn wsX3_isSet (va_wsS RX3 108 yX3_in wsX3_in) := goodIn_app (goodIn_of _ (by decide +kernel)) ggX3_isSet_X3_in
theorem dX3_isSet_0 : decode cX3_isSet 0 = .ok (.iload_n 0, 1) := by decide +kernel
theorem dX3_isSet_1 : decode cX3_isSet 1 = .ok (.iconst 0, 1) := by decide +kernel
theorem dX3_isSet_2 : decode cX3_isSet 2 = .ok (.ldc 112, 2) := by decide +kernel
theorem dX3_isSet_4 : decode cX3_isSet 4 = .ok (.invokestatic 108, 3) := by decide +kernel
theorem dX3_isSet_7 : decode cX3_isSet 7 = .ok (.ireturn, 1) := by decide +kernel
set_option maxRecDepth 20000 in
theorem ggX3_isFind_X3_in : GoodIn wsX3_isFind wsX3_in := goodIn_r _ [5] (by decide +kernel) (by decide +kernel)
set_option maxRecDepth 20000 in
theorem gX3_isFind_X3_in : GoodIn wsX3_isFind (va_wsS RX3 108 yX3_in wsX3_in) := goodIn_app (goodIn_of _ (by decide +kernel)) ggX3_isFind_X3_in
theorem dX3_isFind_0 : decode cX3_isFind 0 = .ok (.iload_n 1, 1) := by decide +kernel
theorem dX3_isFind_1 : decode cX3_isFind 1 = .ok (.iconst 0, 1) := by decide +kernel
theorem dX3_isFind_2 : decode cX3_isFind 2 = .ok (.aload_n 0, 1) := by decide +kernel
theorem dX3_isFind_3 : decode cX3_isFind 3 = .ok (.getfield 113, 3) := by decide +kernel
theorem dX3_isFind_6 : decode cX3_isFind 6 = .ok (.iconst 1, 1) := by decide +kernel
theorem dX3_isFind_7 : decode cX3_isFind 7 = .ok (.isub, 1) := by decide +kernel
theorem dX3_isFind_8 : decode cX3_isFind 8 = .ok (.invokestatic 108, 3) := by decide +kernel
theorem dX3_isFind_11 : decode cX3_isFind 11 = .ok (.ireturn, 1) := by decide +kernel
set_option maxRecDepth 20000 in
theorem ggX3_isClaim_X3_in : GoodIn wsX3_isClaim wsX3_in := goodIn_r _ [5] (by decide +kernel) (by decide +kernel)
set_option maxRecDepth 20000 in
theorem gX3_isClaim_X3_in : GoodIn wsX3_isClaim (va_wsS RX3 108 yX3_in wsX3_in) := goodIn_app (goodIn_of _ (by decide +kernel)) ggX3_isClaim_X3_in
theorem dX3_isClaim_0 : decode cX3_isClaim 0 = .ok (.iload_n 1, 1) := by decide +kernel
theorem dX3_isClaim_1 : decode cX3_isClaim 1 = .ok (.iconst 0, 1) := by decide +kernel
theorem dX3_isClaim_2 : decode cX3_isClaim 2 = .ok (.aload_n 0, 1) := by decide +kernel
theorem dX3_isClaim_3 : decode cX3_isClaim 3 = .ok (.getfield 116, 3) := by decide +kernel
theorem dX3_isClaim_6 : decode cX3_isClaim 6 = .ok (.iconst 1, 1) := by decide +kernel
theorem dX3_isClaim_7 : decode cX3_isClaim 7 = .ok (.isub, 1) := by decide +kernel
theorem dX3_isClaim_8 : decode cX3_isClaim 8 = .ok (.invokestatic 108, 3) := by decide +kernel
theorem dX3_isClaim_11 : decode cX3_isClaim 11 = .ok (.ireturn, 1) := by decide +kernel
theorem dX3_bits_0 : decode cX3_bits 0 = .ok (.iconst 0, 1) := by decide +kernel
theorem dX3_bits_1 : decode cX3_bits 1 = .ok (.istore_n 1, 1) := by decide +kernel
theorem dX3_bits_2 : decode cX3_bits 2 = .ok (.iconst 0, 1) := by decide +kernel
theorem dX3_bits_3 : decode cX3_bits 3 = .ok (.istore_n 2, 1) := by decide +kernel
theorem dX3_bits_4 : decode cX3_bits 4 = .ok (.iload_n 2, 1) := by decide +kernel
theorem dX3_bits_5 : decode cX3_bits 5 = .ok (.bipush 24, 2) := by decide +kernel
theorem dX3_bits_7 : decode cX3_bits 7 = .ok (.if_icmp .ge 17, 3) := by decide +kernel
theorem dX3_bits_10 : decode cX3_bits 10 = .ok (.iload_n 1, 1) := by decide +kernel
theorem dX3_bits_11 : decode cX3_bits 11 = .ok (.iload_n 0, 1) := by decide +kernel
theorem dX3_bits_12 : decode cX3_bits 12 = .ok (.iload_n 2, 1) := by decide +kernel
theorem dX3_bits_13 : decode cX3_bits 13 = .ok (.ishr, 1) := by decide +kernel
theorem dX3_bits_14 : decode cX3_bits 14 = .ok (.iconst 1, 1) := by decide +kernel
theorem dX3_bits_15 : decode cX3_bits 15 = .ok (.iand, 1) := by decide +kernel
theorem dX3_bits_16 : decode cX3_bits 16 = .ok (.iadd, 1) := by decide +kernel
theorem dX3_bits_17 : decode cX3_bits 17 = .ok (.istore_n 1, 1) := by decide +kernel
theorem dX3_bits_18 : decode cX3_bits 18 = .ok (.iinc 2 1, 3) := by decide +kernel
theorem dX3_bits_21 : decode cX3_bits 21 = .ok (.goto (-17), 3) := by decide +kernel
theorem dX3_bits_24 : decode cX3_bits 24 = .ok (.iload_n 1, 1) := by decide +kernel
theorem dX3_bits_25 : decode cX3_bits 25 = .ok (.ireturn, 1) := by decide +kernel
set_option maxRecDepth 20000 in
theorem ggX3_near_X3_isWord : GoodIn wsX3_near wsX3_isWord := goodIn_r _ [5, 6, 7, 4, 8] (by decide +kernel) (by decide +kernel)
set_option maxRecDepth 20000 in
theorem gX3_near_X3_isWord : GoodIn wsX3_near (va_wsS RX3 119 yX3_isWord wsX3_isWord) := goodIn_app (goodIn_of _ (by decide +kernel)) ggX3_near_X3_isWord
set_option maxRecDepth 20000 in
theorem ggX3_near_X3_holds : GoodIn wsX3_near wsX3_holds := goodIn_r _ [12, 13, 14, 15, 16, 17, 18, 19, 20, 21, 22, 23, 24, 25, 26, 27, 28, 29, 30, 31, 32, 33, 34, 35, 36, 37, 38, 39, 40, 41, 42, 43, 44, 45, 46, 47, 48, 49, 50, 51] (by decide +kernel) (by decide +kernel)
set_option maxRecDepth 20000 in
theorem gX3_near_X3_holds : GoodIn wsX3_near (wsV RX3 123 RX3 yX3_holds wsX3_holds) := goodIn_app (goodIn_of _ (by decide +kernel)) ggX3_near_X3_holds
theorem dX3_near_0 : decode cX3_near 0 = .ok (.iload_n 1, 1) := by decide +kernel
theorem dX3_near_1 : decode cX3_near 1 = .ok (.invokestatic 119, 3) := by decide +kernel
theorem dX3_near_4 : decode cX3_near 4 = .ok (.ifCond .eq 14, 3) := by decide +kernel
theorem dX3_near_7 : decode cX3_near 7 = .ok (.iload_n 2, 1) := by decide +kernel
theorem dX3_near_8 : decode cX3_near 8 = .ok (.invokestatic 119, 3) := by decide +kernel
theorem dX3_near_11 : decode cX3_near 11 = .ok (.ifCond .eq 7, 3) := by decide +kernel
theorem dX3_near_14 : decode cX3_near 14 = .ok (.iconst 1, 1) := by decide +kernel
theorem dX3_near_15 : decode cX3_near 15 = .ok (.goto 4, 3) := by decide +kernel
theorem dX3_near_18 : decode cX3_near 18 = .ok (.iconst 0, 1) := by decide +kernel
theorem dX3_near_19 : decode cX3_near 19 = .ok (.istore_n 3, 1) := by decide +kernel
theorem dX3_near_20 : decode cX3_near 20 = .ok (.aload_n 0, 1) := by decide +kernel
theorem dX3_near_21 : decode cX3_near 21 = .ok (.iload_n 3, 1) := by decide +kernel
theorem dX3_near_22 : decode cX3_near 22 = .ok (.ifCond .ne 7, 3) := by decide +kernel
theorem dX3_near_25 : decode cX3_near 25 = .ok (.iconst 1, 1) := by decide +kernel
theorem dX3_near_26 : decode cX3_near 26 = .ok (.goto 13, 3) := by decide +kernel
theorem dX3_near_29 : decode cX3_near 29 = .ok (.iload_n 1, 1) := by decide +kernel
theorem dX3_near_30 : decode cX3_near 30 = .ok (.iload_n 2, 1) := by decide +kernel
theorem dX3_near_31 : decode cX3_near 31 = .ok (.if_icmp .ne 7, 3) := by decide +kernel
theorem dX3_near_34 : decode cX3_near 34 = .ok (.iconst 2, 1) := by decide +kernel
theorem dX3_near_35 : decode cX3_near 35 = .ok (.goto 4, 3) := by decide +kernel
theorem dX3_near_38 : decode cX3_near 38 = .ok (.iconst 0, 1) := by decide +kernel
theorem dX3_near_39 : decode cX3_near 39 = .ok (.invokevirtual 123, 3) := by decide +kernel
theorem dX3_near_42 : decode cX3_near 42 = .ok (.ifCond .ne 5, 3) := by decide +kernel
theorem dX3_near_45 : decode cX3_near 45 = .ok (.iconst 0, 1) := by decide +kernel
theorem dX3_near_46 : decode cX3_near 46 = .ok (.ireturn, 1) := by decide +kernel
theorem dX3_near_47 : decode cX3_near 47 = .ok (.aload_n 0, 1) := by decide +kernel
theorem dX3_near_48 : decode cX3_near 48 = .ok (.getfield 7, 3) := by decide +kernel
theorem dX3_near_51 : decode cX3_near 51 = .ok (.iload_n 1, 1) := by decide +kernel
theorem dX3_near_52 : decode cX3_near 52 = .ok (.dup2, 1) := by decide +kernel
theorem dX3_near_53 : decode cX3_near 53 = .ok (.iaload, 1) := by decide +kernel
theorem dX3_near_54 : decode cX3_near 54 = .ok (.iconst 1, 1) := by decide +kernel
theorem dX3_near_55 : decode cX3_near 55 = .ok (.iload_n 2, 1) := by decide +kernel
theorem dX3_near_56 : decode cX3_near 56 = .ok (.ishl, 1) := by decide +kernel
theorem dX3_near_57 : decode cX3_near 57 = .ok (.ixor, 1) := by decide +kernel
theorem dX3_near_58 : decode cX3_near 58 = .ok (.iastore, 1) := by decide +kernel
theorem dX3_near_59 : decode cX3_near 59 = .ok (.aload_n 0, 1) := by decide +kernel
theorem dX3_near_60 : decode cX3_near 60 = .ok (.getfield 7, 3) := by decide +kernel
theorem dX3_near_63 : decode cX3_near 63 = .ok (.iload_n 2, 1) := by decide +kernel
theorem dX3_near_64 : decode cX3_near 64 = .ok (.dup2, 1) := by decide +kernel
theorem dX3_near_65 : decode cX3_near 65 = .ok (.iaload, 1) := by decide +kernel
theorem dX3_near_66 : decode cX3_near 66 = .ok (.iconst 1, 1) := by decide +kernel
theorem dX3_near_67 : decode cX3_near 67 = .ok (.iload_n 1, 1) := by decide +kernel
theorem dX3_near_68 : decode cX3_near 68 = .ok (.ishl, 1) := by decide +kernel
theorem dX3_near_69 : decode cX3_near 69 = .ok (.ixor, 1) := by decide +kernel
theorem dX3_near_70 : decode cX3_near 70 = .ok (.iastore, 1) := by decide +kernel
theorem dX3_near_71 : decode cX3_near 71 = .ok (.aload_n 0, 1) := by decide +kernel
theorem dX3_near_72 : decode cX3_near 72 = .ok (.getfield 7, 3) := by decide +kernel
theorem dX3_near_75 : decode cX3_near 75 = .ok (.iload_n 1, 1) := by decide +kernel
theorem dX3_near_76 : decode cX3_near 76 = .ok (.iaload, 1) := by decide +kernel
theorem dX3_near_77 : decode cX3_near 77 = .ok (.iload_n 2, 1) := by decide +kernel
theorem dX3_near_78 : decode cX3_near 78 = .ok (.ishr, 1) := by decide +kernel
theorem dX3_near_79 : decode cX3_near 79 = .ok (.iconst 1, 1) := by decide +kernel
theorem dX3_near_80 : decode cX3_near 80 = .ok (.iand, 1) := by decide +kernel
theorem dX3_near_81 : decode cX3_near 81 = .ok (.iconst 1, 1) := by decide +kernel
theorem dX3_near_82 : decode cX3_near 82 = .ok (.if_icmp .ne 7, 3) := by decide +kernel
theorem dX3_near_85 : decode cX3_near 85 = .ok (.iconst 1, 1) := by decide +kernel
theorem dX3_near_86 : decode cX3_near 86 = .ok (.goto 4, 3) := by decide +kernel
theorem dX3_near_89 : decode cX3_near 89 = .ok (.iconst 0, 1) := by decide +kernel
theorem dX3_near_90 : decode cX3_near 90 = .ok (.ireturn, 1) := by decide +kernel
set_option maxRecDepth 20000 in
theorem ggX3_alike_X3_isKind : GoodIn wsX3_alike wsX3_isKind := goodIn_r _ [5, 6, 7, 4, 8] (by decide +kernel) (by decide +kernel)
set_option maxRecDepth 20000 in
theorem gX3_alike_X3_isKind : GoodIn wsX3_alike (va_wsS RX3 126 yX3_isKind wsX3_isKind) := goodIn_app (goodIn_of _ (by decide +kernel)) ggX3_alike_X3_isKind
set_option maxRecDepth 20000 in
theorem ggX3_alike_X3_holds : GoodIn wsX3_alike wsX3_holds := goodIn_r _ [12, 13, 14, 15, 16, 17, 18, 19, 20, 21, 22, 23, 24, 25, 26, 27, 28, 29, 30, 31, 32, 33, 34, 35, 36, 37, 38, 39, 40, 41, 42, 43, 44, 45, 46, 47, 48, 49, 50, 51] (by decide +kernel) (by decide +kernel)
set_option maxRecDepth 20000 in
theorem gX3_alike_X3_holds : GoodIn wsX3_alike (wsV RX3 123 RX3 yX3_holds wsX3_holds) := goodIn_app (goodIn_of _ (by decide +kernel)) ggX3_alike_X3_holds
theorem dX3_alike_0 : decode cX3_alike 0 = .ok (.iload_n 1, 1) := by decide +kernel
theorem dX3_alike_1 : decode cX3_alike 1 = .ok (.invokestatic 126, 3) := by decide +kernel
theorem dX3_alike_4 : decode cX3_alike 4 = .ok (.ifCond .eq 14, 3) := by decide +kernel
theorem dX3_alike_7 : decode cX3_alike 7 = .ok (.iload_n 2, 1) := by decide +kernel
theorem dX3_alike_8 : decode cX3_alike 8 = .ok (.invokestatic 126, 3) := by decide +kernel
theorem dX3_alike_11 : decode cX3_alike 11 = .ok (.ifCond .eq 7, 3) := by decide +kernel
theorem dX3_alike_14 : decode cX3_alike 14 = .ok (.iconst 1, 1) := by decide +kernel
theorem dX3_alike_15 : decode cX3_alike 15 = .ok (.goto 4, 3) := by decide +kernel
theorem dX3_alike_18 : decode cX3_alike 18 = .ok (.iconst 0, 1) := by decide +kernel
theorem dX3_alike_19 : decode cX3_alike 19 = .ok (.istore_n 3, 1) := by decide +kernel
theorem dX3_alike_20 : decode cX3_alike 20 = .ok (.aload_n 0, 1) := by decide +kernel
theorem dX3_alike_21 : decode cX3_alike 21 = .ok (.iload_n 3, 1) := by decide +kernel
theorem dX3_alike_22 : decode cX3_alike 22 = .ok (.ifCond .ne 7, 3) := by decide +kernel
theorem dX3_alike_25 : decode cX3_alike 25 = .ok (.iconst 1, 1) := by decide +kernel
theorem dX3_alike_26 : decode cX3_alike 26 = .ok (.goto 13, 3) := by decide +kernel
theorem dX3_alike_29 : decode cX3_alike 29 = .ok (.iload_n 1, 1) := by decide +kernel
theorem dX3_alike_30 : decode cX3_alike 30 = .ok (.iload_n 2, 1) := by decide +kernel
theorem dX3_alike_31 : decode cX3_alike 31 = .ok (.if_icmp .ne 7, 3) := by decide +kernel
theorem dX3_alike_34 : decode cX3_alike 34 = .ok (.iconst 2, 1) := by decide +kernel
theorem dX3_alike_35 : decode cX3_alike 35 = .ok (.goto 4, 3) := by decide +kernel
theorem dX3_alike_38 : decode cX3_alike 38 = .ok (.iconst 0, 1) := by decide +kernel
theorem dX3_alike_39 : decode cX3_alike 39 = .ok (.invokevirtual 123, 3) := by decide +kernel
theorem dX3_alike_42 : decode cX3_alike 42 = .ok (.ifCond .ne 5, 3) := by decide +kernel
theorem dX3_alike_45 : decode cX3_alike 45 = .ok (.iconst 0, 1) := by decide +kernel
theorem dX3_alike_46 : decode cX3_alike 46 = .ok (.ireturn, 1) := by decide +kernel
theorem dX3_alike_47 : decode cX3_alike 47 = .ok (.aload_n 0, 1) := by decide +kernel
theorem dX3_alike_48 : decode cX3_alike 48 = .ok (.getfield 13, 3) := by decide +kernel
theorem dX3_alike_51 : decode cX3_alike 51 = .ok (.iload_n 1, 1) := by decide +kernel
theorem dX3_alike_52 : decode cX3_alike 52 = .ok (.dup2, 1) := by decide +kernel
theorem dX3_alike_53 : decode cX3_alike 53 = .ok (.iaload, 1) := by decide +kernel
theorem dX3_alike_54 : decode cX3_alike 54 = .ok (.iconst 1, 1) := by decide +kernel
theorem dX3_alike_55 : decode cX3_alike 55 = .ok (.iload_n 2, 1) := by decide +kernel
theorem dX3_alike_56 : decode cX3_alike 56 = .ok (.ishl, 1) := by decide +kernel
theorem dX3_alike_57 : decode cX3_alike 57 = .ok (.ixor, 1) := by decide +kernel
theorem dX3_alike_58 : decode cX3_alike 58 = .ok (.iastore, 1) := by decide +kernel
theorem dX3_alike_59 : decode cX3_alike 59 = .ok (.aload_n 0, 1) := by decide +kernel
theorem dX3_alike_60 : decode cX3_alike 60 = .ok (.getfield 13, 3) := by decide +kernel
theorem dX3_alike_63 : decode cX3_alike 63 = .ok (.iload_n 2, 1) := by decide +kernel
theorem dX3_alike_64 : decode cX3_alike 64 = .ok (.dup2, 1) := by decide +kernel
theorem dX3_alike_65 : decode cX3_alike 65 = .ok (.iaload, 1) := by decide +kernel
theorem dX3_alike_66 : decode cX3_alike 66 = .ok (.iconst 1, 1) := by decide +kernel
theorem dX3_alike_67 : decode cX3_alike 67 = .ok (.iload_n 1, 1) := by decide +kernel
theorem dX3_alike_68 : decode cX3_alike 68 = .ok (.ishl, 1) := by decide +kernel
theorem dX3_alike_69 : decode cX3_alike 69 = .ok (.ixor, 1) := by decide +kernel
theorem dX3_alike_70 : decode cX3_alike 70 = .ok (.iastore, 1) := by decide +kernel
theorem dX3_alike_71 : decode cX3_alike 71 = .ok (.aload_n 0, 1) := by decide +kernel
theorem dX3_alike_72 : decode cX3_alike 72 = .ok (.getfield 13, 3) := by decide +kernel
theorem dX3_alike_75 : decode cX3_alike 75 = .ok (.iload_n 1, 1) := by decide +kernel
theorem dX3_alike_76 : decode cX3_alike 76 = .ok (.iaload, 1) := by decide +kernel
theorem dX3_alike_77 : decode cX3_alike 77 = .ok (.iload_n 2, 1) := by decide +kernel
theorem dX3_alike_78 : decode cX3_alike 78 = .ok (.ishr, 1) := by decide +kernel
theorem dX3_alike_79 : decode cX3_alike 79 = .ok (.iconst 1, 1) := by decide +kernel
theorem dX3_alike_80 : decode cX3_alike 80 = .ok (.iand, 1) := by decide +kernel
theorem dX3_alike_81 : decode cX3_alike 81 = .ok (.iconst 1, 1) := by decide +kernel
theorem dX3_alike_82 : decode cX3_alike 82 = .ok (.if_icmp .ne 7, 3) := by decide +kernel
theorem dX3_alike_85 : decode cX3_alike 85 = .ok (.iconst 1, 1) := by decide +kernel
theorem dX3_alike_86 : decode cX3_alike 86 = .ok (.goto 4, 3) := by decide +kernel
theorem dX3_alike_89 : decode cX3_alike 89 = .ok (.iconst 0, 1) := by decide +kernel
theorem dX3_alike_90 : decode cX3_alike 90 = .ok (.ireturn, 1) := by decide +kernel
set_option maxRecDepth 20000 in
theorem ggX3_rule_X3_isKind : GoodIn wsX3_rule wsX3_isKind := goodIn_r _ [6, 7, 8, 5, 9] (by decide +kernel) (by decide +kernel)
set_option maxRecDepth 20000 in
theorem gX3_rule_X3_isKind : GoodIn wsX3_rule (va_wsS RX3 126 yX3_isKind wsX3_isKind) := goodIn_app (goodIn_of _ (by decide +kernel)) ggX3_rule_X3_isKind
set_option maxRecDepth 20000 in
theorem ggX3_rule_X3_in : GoodIn wsX3_rule wsX3_in := goodIn_r _ [9] (by decide +kernel) (by decide +kernel)
set_option maxRecDepth 20000 in
theorem gX3_rule_X3_in : GoodIn wsX3_rule (va_wsS RX3 108 yX3_in wsX3_in) := goodIn_app (goodIn_of _ (by decide +kernel)) ggX3_rule_X3_in
set_option maxRecDepth 20000 in
theorem ggX3_rule_X3_holds : GoodIn wsX3_rule wsX3_holds := goodIn_r _ [13, 14, 15, 16, 17, 18, 19, 20, 21, 22, 23, 24, 25, 26, 27, 28, 29, 30, 31, 32, 33, 34, 35, 36, 37, 38, 39, 40, 41, 42, 43, 44, 45, 46, 47, 48, 49, 50, 51, 52] (by decide +kernel) (by decide +kernel)
set_option maxRecDepth 20000 in
theorem gX3_rule_X3_holds : GoodIn wsX3_rule (wsV RX3 123 RX3 yX3_holds wsX3_holds) := goodIn_app (goodIn_of _ (by decide +kernel)) ggX3_rule_X3_holds
theorem dX3_rule_0 : decode cX3_rule 0 = .ok (.aload_n 0, 1) := by decide +kernel
theorem dX3_rule_1 : decode cX3_rule 1 = .ok (.iload_n 1, 1) := by decide +kernel
theorem dX3_rule_2 : decode cX3_rule 2 = .ok (.invokestatic 126, 3) := by decide +kernel
theorem dX3_rule_5 : decode cX3_rule 5 = .ok (.ifCond .ne 7, 3) := by decide +kernel
theorem dX3_rule_8 : decode cX3_rule 8 = .ok (.iconst 1, 1) := by decide +kernel
theorem dX3_rule_9 : decode cX3_rule 9 = .ok (.goto 29, 3) := by decide +kernel
theorem dX3_rule_12 : decode cX3_rule 12 = .ok (.iload_n 2, 1) := by decide +kernel
theorem dX3_rule_13 : decode cX3_rule 13 = .ok (.iconst 1, 1) := by decide +kernel
theorem dX3_rule_14 : decode cX3_rule 14 = .ok (.sipush 400, 3) := by decide +kernel
theorem dX3_rule_17 : decode cX3_rule 17 = .ok (.invokestatic 108, 3) := by decide +kernel
theorem dX3_rule_20 : decode cX3_rule 20 = .ok (.ifCond .eq 17, 3) := by decide +kernel
theorem dX3_rule_23 : decode cX3_rule 23 = .ok (.iload_n 3, 1) := by decide +kernel
theorem dX3_rule_24 : decode cX3_rule 24 = .ok (.iconst 0, 1) := by decide +kernel
theorem dX3_rule_25 : decode cX3_rule 25 = .ok (.bipush 50, 2) := by decide +kernel
theorem dX3_rule_27 : decode cX3_rule 27 = .ok (.invokestatic 108, 3) := by decide +kernel
theorem dX3_rule_30 : decode cX3_rule 30 = .ok (.ifCond .eq 7, 3) := by decide +kernel
theorem dX3_rule_33 : decode cX3_rule 33 = .ok (.iconst 0, 1) := by decide +kernel
theorem dX3_rule_34 : decode cX3_rule 34 = .ok (.goto 4, 3) := by decide +kernel
theorem dX3_rule_37 : decode cX3_rule 37 = .ok (.iconst 2, 1) := by decide +kernel
theorem dX3_rule_38 : decode cX3_rule 38 = .ok (.invokevirtual 123, 3) := by decide +kernel
theorem dX3_rule_41 : decode cX3_rule 41 = .ok (.ifCond .ne 5, 3) := by decide +kernel
theorem dX3_rule_44 : decode cX3_rule 44 = .ok (.iconst 0, 1) := by decide +kernel
theorem dX3_rule_45 : decode cX3_rule 45 = .ok (.ireturn, 1) := by decide +kernel
theorem dX3_rule_46 : decode cX3_rule 46 = .ok (.aload_n 0, 1) := by decide +kernel
theorem dX3_rule_47 : decode cX3_rule 47 = .ok (.getfield 16, 3) := by decide +kernel
theorem dX3_rule_50 : decode cX3_rule 50 = .ok (.iload_n 1, 1) := by decide +kernel
theorem dX3_rule_51 : decode cX3_rule 51 = .ok (.iaload, 1) := by decide +kernel
theorem dX3_rule_52 : decode cX3_rule 52 = .ok (.istore 4, 2) := by decide +kernel
theorem dX3_rule_54 : decode cX3_rule 54 = .ok (.aload_n 0, 1) := by decide +kernel
theorem dX3_rule_55 : decode cX3_rule 55 = .ok (.getfield 16, 3) := by decide +kernel
theorem dX3_rule_58 : decode cX3_rule 58 = .ok (.iload_n 1, 1) := by decide +kernel
theorem dX3_rule_59 : decode cX3_rule 59 = .ok (.iload_n 2, 1) := by decide +kernel
theorem dX3_rule_60 : decode cX3_rule 60 = .ok (.iastore, 1) := by decide +kernel
theorem dX3_rule_61 : decode cX3_rule 61 = .ok (.aload_n 0, 1) := by decide +kernel
theorem dX3_rule_62 : decode cX3_rule 62 = .ok (.getfield 19, 3) := by decide +kernel
theorem dX3_rule_65 : decode cX3_rule 65 = .ok (.iload_n 1, 1) := by decide +kernel
theorem dX3_rule_66 : decode cX3_rule 66 = .ok (.iload_n 3, 1) := by decide +kernel
theorem dX3_rule_67 : decode cX3_rule 67 = .ok (.iastore, 1) := by decide +kernel
theorem dX3_rule_68 : decode cX3_rule 68 = .ok (.iload 4, 2) := by decide +kernel
theorem dX3_rule_70 : decode cX3_rule 70 = .ok (.ireturn, 1) := by decide +kernel
set_option maxRecDepth 20000 in
theorem ggX3_stop_X3_in : GoodIn wsX3_stop wsX3_in := goodIn_r _ [5] (by decide +kernel) (by decide +kernel)
set_option maxRecDepth 20000 in
theorem gX3_stop_X3_in : GoodIn wsX3_stop (va_wsS RX3 108 yX3_in wsX3_in) := goodIn_app (goodIn_of _ (by decide +kernel)) ggX3_stop_X3_in
set_option maxRecDepth 20000 in
theorem ggX3_stop_X3_isRoom : GoodIn wsX3_stop wsX3_isRoom := goodIn_r _ [8, 2, 3, 4, 5] (by decide +kernel) (by decide +kernel)
set_option maxRecDepth 20000 in
theorem gX3_stop_X3_isRoom : GoodIn wsX3_stop (va_wsS RX3 129 yX3_isRoom wsX3_isRoom) := goodIn_app (goodIn_of _ (by decide +kernel)) ggX3_stop_X3_isRoom
set_option maxRecDepth 20000 in
theorem ggX3_stop_X3_holds : GoodIn wsX3_stop wsX3_holds := goodIn_r _ [12, 13, 17, 18, 19, 20, 21, 22, 23, 24, 25, 26, 27, 28, 29, 30, 31, 32, 33, 34, 35, 36, 37, 38, 39, 40, 41, 42, 43, 44, 45, 46, 47, 48, 49, 50, 51, 52, 53, 54] (by decide +kernel) (by decide +kernel)
set_option maxRecDepth 20000 in
theorem gX3_stop_X3_holds : GoodIn wsX3_stop (wsV RX3 123 RX3 yX3_holds wsX3_holds) := goodIn_app (goodIn_of _ (by decide +kernel)) ggX3_stop_X3_holds
set_option maxRecDepth 20000 in
theorem ggX3_stop_X3_bits : GoodIn wsX3_stop wsX3_bits := goodIn_r _ [16] (by decide +kernel) (by decide +kernel)
set_option maxRecDepth 20000 in
theorem gX3_stop_X3_bits : GoodIn wsX3_stop (va_wsS RX3 132 yX3_bits wsX3_bits) := goodIn_app (goodIn_of _ (by decide +kernel)) ggX3_stop_X3_bits
theorem dX3_stop_0 : decode cX3_stop 0 = .ok (.iload_n 1, 1) := by decide +kernel
theorem dX3_stop_1 : decode cX3_stop 1 = .ok (.iconst 0, 1) := by decide +kernel
theorem dX3_stop_2 : decode cX3_stop 2 = .ok (.iconst 3, 1) := by decide +kernel
theorem dX3_stop_3 : decode cX3_stop 3 = .ok (.invokestatic 108, 3) := by decide +kernel
theorem dX3_stop_6 : decode cX3_stop 6 = .ok (.ifCond .eq 14, 3) := by decide +kernel
theorem dX3_stop_9 : decode cX3_stop 9 = .ok (.iload_n 2, 1) := by decide +kernel
theorem dX3_stop_10 : decode cX3_stop 10 = .ok (.invokestatic 129, 3) := by decide +kernel
theorem dX3_stop_13 : decode cX3_stop 13 = .ok (.ifCond .eq 7, 3) := by decide +kernel
theorem dX3_stop_16 : decode cX3_stop 16 = .ok (.iconst 1, 1) := by decide +kernel
theorem dX3_stop_17 : decode cX3_stop 17 = .ok (.goto 4, 3) := by decide +kernel
theorem dX3_stop_20 : decode cX3_stop 20 = .ok (.iconst 0, 1) := by decide +kernel
theorem dX3_stop_21 : decode cX3_stop 21 = .ok (.istore_n 3, 1) := by decide +kernel
theorem dX3_stop_22 : decode cX3_stop 22 = .ok (.aload_n 0, 1) := by decide +kernel
theorem dX3_stop_23 : decode cX3_stop 23 = .ok (.iload_n 3, 1) := by decide +kernel
theorem dX3_stop_24 : decode cX3_stop 24 = .ok (.ifCond .ne 7, 3) := by decide +kernel
theorem dX3_stop_27 : decode cX3_stop 27 = .ok (.iconst 1, 1) := by decide +kernel
theorem dX3_stop_28 : decode cX3_stop 28 = .ok (.goto 22, 3) := by decide +kernel
theorem dX3_stop_31 : decode cX3_stop 31 = .ok (.aload_n 0, 1) := by decide +kernel
theorem dX3_stop_32 : decode cX3_stop 32 = .ok (.getfield 22, 3) := by decide +kernel
theorem dX3_stop_35 : decode cX3_stop 35 = .ok (.iload_n 1, 1) := by decide +kernel
theorem dX3_stop_36 : decode cX3_stop 36 = .ok (.iaload, 1) := by decide +kernel
theorem dX3_stop_37 : decode cX3_stop 37 = .ok (.iload_n 2, 1) := by decide +kernel
theorem dX3_stop_38 : decode cX3_stop 38 = .ok (.ishr, 1) := by decide +kernel
theorem dX3_stop_39 : decode cX3_stop 39 = .ok (.iconst 1, 1) := by decide +kernel
theorem dX3_stop_40 : decode cX3_stop 40 = .ok (.iand, 1) := by decide +kernel
theorem dX3_stop_41 : decode cX3_stop 41 = .ok (.iconst 1, 1) := by decide +kernel
theorem dX3_stop_42 : decode cX3_stop 42 = .ok (.if_icmp .ne 7, 3) := by decide +kernel
theorem dX3_stop_45 : decode cX3_stop 45 = .ok (.iconst 2, 1) := by decide +kernel
theorem dX3_stop_46 : decode cX3_stop 46 = .ok (.goto 4, 3) := by decide +kernel
theorem dX3_stop_49 : decode cX3_stop 49 = .ok (.iconst 0, 1) := by decide +kernel
theorem dX3_stop_50 : decode cX3_stop 50 = .ok (.invokevirtual 123, 3) := by decide +kernel
theorem dX3_stop_53 : decode cX3_stop 53 = .ok (.ifCond .ne 5, 3) := by decide +kernel
theorem dX3_stop_56 : decode cX3_stop 56 = .ok (.iconst 0, 1) := by decide +kernel
theorem dX3_stop_57 : decode cX3_stop 57 = .ok (.ireturn, 1) := by decide +kernel
theorem dX3_stop_58 : decode cX3_stop 58 = .ok (.aload_n 0, 1) := by decide +kernel
theorem dX3_stop_59 : decode cX3_stop 59 = .ok (.getfield 22, 3) := by decide +kernel
theorem dX3_stop_62 : decode cX3_stop 62 = .ok (.iload_n 1, 1) := by decide +kernel
theorem dX3_stop_63 : decode cX3_stop 63 = .ok (.dup2, 1) := by decide +kernel
theorem dX3_stop_64 : decode cX3_stop 64 = .ok (.iaload, 1) := by decide +kernel
theorem dX3_stop_65 : decode cX3_stop 65 = .ok (.iconst 1, 1) := by decide +kernel
theorem dX3_stop_66 : decode cX3_stop 66 = .ok (.iload_n 2, 1) := by decide +kernel
theorem dX3_stop_67 : decode cX3_stop 67 = .ok (.ishl, 1) := by decide +kernel
theorem dX3_stop_68 : decode cX3_stop 68 = .ok (.ior, 1) := by decide +kernel
theorem dX3_stop_69 : decode cX3_stop 69 = .ok (.iastore, 1) := by decide +kernel
theorem dX3_stop_70 : decode cX3_stop 70 = .ok (.aload_n 0, 1) := by decide +kernel
theorem dX3_stop_71 : decode cX3_stop 71 = .ok (.getfield 22, 3) := by decide +kernel
theorem dX3_stop_74 : decode cX3_stop 74 = .ok (.iload_n 1, 1) := by decide +kernel
theorem dX3_stop_75 : decode cX3_stop 75 = .ok (.iaload, 1) := by decide +kernel
theorem dX3_stop_76 : decode cX3_stop 76 = .ok (.invokestatic 132, 3) := by decide +kernel
theorem dX3_stop_79 : decode cX3_stop 79 = .ok (.ireturn, 1) := by decide +kernel
set_option maxRecDepth 20000 in
theorem ggX3_threshold_X3_in : GoodIn wsX3_threshold wsX3_in := goodIn_r _ [5] (by decide +kernel) (by decide +kernel)
set_option maxRecDepth 20000 in
theorem gX3_threshold_X3_in : GoodIn wsX3_threshold (va_wsS RX3 108 yX3_in wsX3_in) := goodIn_app (goodIn_of _ (by decide +kernel)) ggX3_threshold_X3_in
set_option maxRecDepth 20000 in
theorem ggX3_threshold_X3_holds : GoodIn wsX3_threshold wsX3_holds := goodIn_r _ [9, 10, 11, 12, 13, 14, 15, 16, 17, 18, 19, 20, 21, 22, 23, 24, 25, 26, 27, 28, 29, 30, 31, 32, 33, 34, 35, 36, 37, 38, 39, 40, 41, 42, 43, 44, 45, 46, 47, 48] (by decide +kernel) (by decide +kernel)
set_option maxRecDepth 20000 in
theorem gX3_threshold_X3_holds : GoodIn wsX3_threshold (wsV RX3 123 RX3 yX3_holds wsX3_holds) := goodIn_app (goodIn_of _ (by decide +kernel)) ggX3_threshold_X3_holds
theorem dX3_threshold_0 : decode cX3_threshold 0 = .ok (.aload_n 0, 1) := by decide +kernel
theorem dX3_threshold_1 : decode cX3_threshold 1 = .ok (.iload_n 1, 1) := by decide +kernel
theorem dX3_threshold_2 : decode cX3_threshold 2 = .ok (.iconst 1, 1) := by decide +kernel
theorem dX3_threshold_3 : decode cX3_threshold 3 = .ok (.sipush 200, 3) := by decide +kernel
theorem dX3_threshold_6 : decode cX3_threshold 6 = .ok (.invokestatic 108, 3) := by decide +kernel
theorem dX3_threshold_9 : decode cX3_threshold 9 = .ok (.ifCond .eq 7, 3) := by decide +kernel
theorem dX3_threshold_12 : decode cX3_threshold 12 = .ok (.iconst 0, 1) := by decide +kernel
theorem dX3_threshold_13 : decode cX3_threshold 13 = .ok (.goto 4, 3) := by decide +kernel
theorem dX3_threshold_16 : decode cX3_threshold 16 = .ok (.iconst 1, 1) := by decide +kernel
theorem dX3_threshold_17 : decode cX3_threshold 17 = .ok (.invokevirtual 123, 3) := by decide +kernel
theorem dX3_threshold_20 : decode cX3_threshold 20 = .ok (.ifCond .ne 5, 3) := by decide +kernel
theorem dX3_threshold_23 : decode cX3_threshold 23 = .ok (.iconst 0, 1) := by decide +kernel
theorem dX3_threshold_24 : decode cX3_threshold 24 = .ok (.ireturn, 1) := by decide +kernel
theorem dX3_threshold_25 : decode cX3_threshold 25 = .ok (.aload_n 0, 1) := by decide +kernel
theorem dX3_threshold_26 : decode cX3_threshold 26 = .ok (.getfield 25, 3) := by decide +kernel
theorem dX3_threshold_29 : decode cX3_threshold 29 = .ok (.istore_n 2, 1) := by decide +kernel
theorem dX3_threshold_30 : decode cX3_threshold 30 = .ok (.aload_n 0, 1) := by decide +kernel
theorem dX3_threshold_31 : decode cX3_threshold 31 = .ok (.iload_n 1, 1) := by decide +kernel
theorem dX3_threshold_32 : decode cX3_threshold 32 = .ok (.putfield 25, 3) := by decide +kernel
theorem dX3_threshold_35 : decode cX3_threshold 35 = .ok (.iload_n 2, 1) := by decide +kernel
theorem dX3_threshold_36 : decode cX3_threshold 36 = .ok (.ireturn, 1) := by decide +kernel
theorem dX3_comes_0 : decode cX3_comes 0 = .ok (.aload_n 0, 1) := by decide +kernel
theorem dX3_comes_1 : decode cX3_comes 1 = .ok (.getfield 47, 3) := by decide +kernel
theorem dX3_comes_4 : decode cX3_comes 4 = .ok (.iload_n 1, 1) := by decide +kernel
theorem dX3_comes_5 : decode cX3_comes 5 = .ok (.iconst 0, 1) := by decide +kernel
theorem dX3_comes_6 : decode cX3_comes 6 = .ok (.iastore, 1) := by decide +kernel
theorem dX3_comes_7 : decode cX3_comes 7 = .ok (.aload_n 0, 1) := by decide +kernel
theorem dX3_comes_8 : decode cX3_comes 8 = .ok (.getfield 50, 3) := by decide +kernel
theorem dX3_comes_11 : decode cX3_comes 11 = .ok (.iload_n 1, 1) := by decide +kernel
theorem dX3_comes_12 : decode cX3_comes 12 = .ok (.iload_n 2, 1) := by decide +kernel
theorem dX3_comes_13 : decode cX3_comes 13 = .ok (.iastore, 1) := by decide +kernel
theorem dX3_comes_14 : decode cX3_comes 14 = .ok (.bipush 12, 2) := by decide +kernel
theorem dX3_comes_16 : decode cX3_comes 16 = .ok (.iload_n 1, 1) := by decide +kernel
theorem dX3_comes_17 : decode cX3_comes 17 = .ok (.imul, 1) := by decide +kernel
theorem dX3_comes_18 : decode cX3_comes 18 = .ok (.istore_n 3, 1) := by decide +kernel
theorem dX3_comes_19 : decode cX3_comes 19 = .ok (.aload_n 0, 1) := by decide +kernel
theorem dX3_comes_20 : decode cX3_comes 20 = .ok (.getfield 69, 3) := by decide +kernel
theorem dX3_comes_23 : decode cX3_comes 23 = .ok (.iload_n 1, 1) := by decide +kernel
theorem dX3_comes_24 : decode cX3_comes 24 = .ok (.iaload, 1) := by decide +kernel
theorem dX3_comes_25 : decode cX3_comes 25 = .ok (.bipush 12, 2) := by decide +kernel
theorem dX3_comes_27 : decode cX3_comes 27 = .ok (.if_icmp .ne 67, 3) := by decide +kernel
theorem dX3_comes_30 : decode cX3_comes 30 = .ok (.iload_n 3, 1) := by decide +kernel
theorem dX3_comes_31 : decode cX3_comes 31 = .ok (.iconst 1, 1) := by decide +kernel
theorem dX3_comes_32 : decode cX3_comes 32 = .ok (.iadd, 1) := by decide +kernel
theorem dX3_comes_33 : decode cX3_comes 33 = .ok (.istore 4, 2) := by decide +kernel
theorem dX3_comes_35 : decode cX3_comes 35 = .ok (.iload 4, 2) := by decide +kernel
theorem dX3_comes_37 : decode cX3_comes 37 = .ok (.iload_n 3, 1) := by decide +kernel
theorem dX3_comes_38 : decode cX3_comes 38 = .ok (.bipush 12, 2) := by decide +kernel
theorem dX3_comes_40 : decode cX3_comes 40 = .ok (.iadd, 1) := by decide +kernel
theorem dX3_comes_41 : decode cX3_comes 41 = .ok (.iconst 1, 1) := by decide +kernel
theorem dX3_comes_42 : decode cX3_comes 42 = .ok (.isub, 1) := by decide +kernel
theorem dX3_comes_43 : decode cX3_comes 43 = .ok (.if_icmp .ge 41, 3) := by decide +kernel
theorem dX3_comes_46 : decode cX3_comes 46 = .ok (.aload_n 0, 1) := by decide +kernel
theorem dX3_comes_47 : decode cX3_comes 47 = .ok (.getfield 72, 3) := by decide +kernel
theorem dX3_comes_50 : decode cX3_comes 50 = .ok (.iload 4, 2) := by decide +kernel
theorem dX3_comes_52 : decode cX3_comes 52 = .ok (.aload_n 0, 1) := by decide +kernel
theorem dX3_comes_53 : decode cX3_comes 53 = .ok (.getfield 72, 3) := by decide +kernel
theorem dX3_comes_56 : decode cX3_comes 56 = .ok (.iload 4, 2) := by decide +kernel
theorem dX3_comes_58 : decode cX3_comes 58 = .ok (.iconst 1, 1) := by decide +kernel
theorem dX3_comes_59 : decode cX3_comes 59 = .ok (.iadd, 1) := by decide +kernel
theorem dX3_comes_60 : decode cX3_comes 60 = .ok (.iaload, 1) := by decide +kernel
theorem dX3_comes_61 : decode cX3_comes 61 = .ok (.iastore, 1) := by decide +kernel
theorem dX3_comes_62 : decode cX3_comes 62 = .ok (.aload_n 0, 1) := by decide +kernel
theorem dX3_comes_63 : decode cX3_comes 63 = .ok (.getfield 75, 3) := by decide +kernel
theorem dX3_comes_66 : decode cX3_comes 66 = .ok (.iload 4, 2) := by decide +kernel
theorem dX3_comes_68 : decode cX3_comes 68 = .ok (.aload_n 0, 1) := by decide +kernel
theorem dX3_comes_69 : decode cX3_comes 69 = .ok (.getfield 75, 3) := by decide +kernel
theorem dX3_comes_72 : decode cX3_comes 72 = .ok (.iload 4, 2) := by decide +kernel
theorem dX3_comes_74 : decode cX3_comes 74 = .ok (.iconst 1, 1) := by decide +kernel
theorem dX3_comes_75 : decode cX3_comes 75 = .ok (.iadd, 1) := by decide +kernel
theorem dX3_comes_76 : decode cX3_comes 76 = .ok (.iaload, 1) := by decide +kernel
theorem dX3_comes_77 : decode cX3_comes 77 = .ok (.iastore, 1) := by decide +kernel
theorem dX3_comes_78 : decode cX3_comes 78 = .ok (.iinc 4 1, 3) := by decide +kernel
theorem dX3_comes_81 : decode cX3_comes 81 = .ok (.goto (-46), 3) := by decide +kernel
theorem dX3_comes_84 : decode cX3_comes 84 = .ok (.aload_n 0, 1) := by decide +kernel
theorem dX3_comes_85 : decode cX3_comes 85 = .ok (.getfield 69, 3) := by decide +kernel
theorem dX3_comes_88 : decode cX3_comes 88 = .ok (.iload_n 1, 1) := by decide +kernel
theorem dX3_comes_89 : decode cX3_comes 89 = .ok (.dup2, 1) := by decide +kernel
theorem dX3_comes_90 : decode cX3_comes 90 = .ok (.iaload, 1) := by decide +kernel
theorem dX3_comes_91 : decode cX3_comes 91 = .ok (.iconst 1, 1) := by decide +kernel
theorem dX3_comes_92 : decode cX3_comes 92 = .ok (.isub, 1) := by decide +kernel
theorem dX3_comes_93 : decode cX3_comes 93 = .ok (.iastore, 1) := by decide +kernel
theorem dX3_comes_94 : decode cX3_comes 94 = .ok (.aload_n 0, 1) := by decide +kernel
theorem dX3_comes_95 : decode cX3_comes 95 = .ok (.getfield 72, 3) := by decide +kernel
theorem dX3_comes_98 : decode cX3_comes 98 = .ok (.iload_n 3, 1) := by decide +kernel
theorem dX3_comes_99 : decode cX3_comes 99 = .ok (.aload_n 0, 1) := by decide +kernel
theorem dX3_comes_100 : decode cX3_comes 100 = .ok (.getfield 69, 3) := by decide +kernel
theorem dX3_comes_103 : decode cX3_comes 103 = .ok (.iload_n 1, 1) := by decide +kernel
theorem dX3_comes_104 : decode cX3_comes 104 = .ok (.iaload, 1) := by decide +kernel
theorem dX3_comes_105 : decode cX3_comes 105 = .ok (.iadd, 1) := by decide +kernel
theorem dX3_comes_106 : decode cX3_comes 106 = .ok (.iload_n 2, 1) := by decide +kernel
theorem dX3_comes_107 : decode cX3_comes 107 = .ok (.iastore, 1) := by decide +kernel
theorem dX3_comes_108 : decode cX3_comes 108 = .ok (.aload_n 0, 1) := by decide +kernel
theorem dX3_comes_109 : decode cX3_comes 109 = .ok (.getfield 75, 3) := by decide +kernel
theorem dX3_comes_112 : decode cX3_comes 112 = .ok (.iload_n 3, 1) := by decide +kernel
theorem dX3_comes_113 : decode cX3_comes 113 = .ok (.aload_n 0, 1) := by decide +kernel
theorem dX3_comes_114 : decode cX3_comes 114 = .ok (.getfield 69, 3) := by decide +kernel
theorem dX3_comes_117 : decode cX3_comes 117 = .ok (.iload_n 1, 1) := by decide +kernel
theorem dX3_comes_118 : decode cX3_comes 118 = .ok (.iaload, 1) := by decide +kernel
theorem dX3_comes_119 : decode cX3_comes 119 = .ok (.iadd, 1) := by decide +kernel
theorem dX3_comes_120 : decode cX3_comes 120 = .ok (.aload_n 0, 1) := by decide +kernel
theorem dX3_comes_121 : decode cX3_comes 121 = .ok (.getfield 136, 3) := by decide +kernel
theorem dX3_comes_124 : decode cX3_comes 124 = .ok (.iastore, 1) := by decide +kernel
theorem dX3_comes_125 : decode cX3_comes 125 = .ok (.aload_n 0, 1) := by decide +kernel
theorem dX3_comes_126 : decode cX3_comes 126 = .ok (.getfield 69, 3) := by decide +kernel
theorem dX3_comes_129 : decode cX3_comes 129 = .ok (.iload_n 1, 1) := by decide +kernel
theorem dX3_comes_130 : decode cX3_comes 130 = .ok (.dup2, 1) := by decide +kernel
theorem dX3_comes_131 : decode cX3_comes 131 = .ok (.iaload, 1) := by decide +kernel
theorem dX3_comes_132 : decode cX3_comes 132 = .ok (.iconst 1, 1) := by decide +kernel
theorem dX3_comes_133 : decode cX3_comes 133 = .ok (.iadd, 1) := by decide +kernel
theorem dX3_comes_134 : decode cX3_comes 134 = .ok (.iastore, 1) := by decide +kernel
theorem dX3_comes_135 : decode cX3_comes 135 = .ok (.return_, 1) := by decide +kernel
set_option maxRecDepth 20000 in
theorem ggX3_find_X3_isKind : GoodIn wsX3_find wsX3_isKind := goodIn_r _ [14, 15, 16, 13, 17] (by decide +kernel) (by decide +kernel)
set_option maxRecDepth 20000 in
theorem gX3_find_X3_isKind : GoodIn wsX3_find (va_wsS RX3 126 yX3_isKind wsX3_isKind) := goodIn_app (goodIn_of _ (by decide +kernel)) ggX3_find_X3_isKind
set_option maxRecDepth 20000 in
theorem ggX3_find_X3_isPlace : GoodIn wsX3_find wsX3_isPlace := goodIn_r _ [20, 15, 16, 13, 17] (by decide +kernel) (by decide +kernel)
set_option maxRecDepth 20000 in
theorem gX3_find_X3_isPlace : GoodIn wsX3_find (va_wsS RX3 139 yX3_isPlace wsX3_isPlace) := goodIn_app (goodIn_of _ (by decide +kernel)) ggX3_find_X3_isPlace
set_option maxRecDepth 20000 in
theorem ggX3_find_X3_isRoom : GoodIn wsX3_find wsX3_isRoom := goodIn_r _ [23, 15, 16, 13, 17] (by decide +kernel) (by decide +kernel)
set_option maxRecDepth 20000 in
theorem gX3_find_X3_isRoom : GoodIn wsX3_find (va_wsS RX3 129 yX3_isRoom wsX3_isRoom) := goodIn_app (goodIn_of _ (by decide +kernel)) ggX3_find_X3_isRoom
set_option maxRecDepth 20000 in
theorem ggX3_find_X3_in : GoodIn wsX3_find wsX3_in := goodIn_r _ [17] (by decide +kernel) (by decide +kernel)
set_option maxRecDepth 20000 in
theorem gX3_find_X3_in : GoodIn wsX3_find (va_wsS RX3 108 yX3_in wsX3_in) := goodIn_app (goodIn_of _ (by decide +kernel)) ggX3_find_X3_in
set_option maxRecDepth 20000 in
theorem ggX3_find_X3_isSet : GoodIn wsX3_find wsX3_isSet := goodIn_r _ [26, 27, 15, 16, 13, 17] (by decide +kernel) (by decide +kernel)
set_option maxRecDepth 20000 in
theorem gX3_find_X3_isSet : GoodIn wsX3_find (va_wsS RX3 142 yX3_isSet wsX3_isSet) := goodIn_app (goodIn_of _ (by decide +kernel)) ggX3_find_X3_isSet
set_option maxRecDepth 20000 in
theorem ggX3_find_X3_holds : GoodIn wsX3_find wsX3_holds := goodIn_r _ [31, 32, 42, 43, 44, 45, 46, 47, 48, 49, 50, 51, 52, 53, 54, 55, 56, 57, 58, 59, 60, 61, 62, 63, 64, 65, 66, 67, 68, 69, 70, 71, 72, 73, 74, 75, 76, 77, 78, 79] (by decide +kernel) (by decide +kernel)
set_option maxRecDepth 20000 in
theorem gX3_find_X3_holds : GoodIn wsX3_find (wsV RX3 123 RX3 yX3_holds wsX3_holds) := goodIn_app (goodIn_of _ (by decide +kernel)) ggX3_find_X3_holds
set_option maxRecDepth 20000 in
theorem ggX3_find_X3_comes : GoodIn wsX3_find wsX3_comes := goodIn_r _ [36, 37, 38, 39, 40, 41, 1, 42, 43, 44, 45, 46, 47, 48, 49, 50, 51, 52, 53, 54, 55, 56, 57, 58, 59, 60, 61, 62, 63, 64, 65, 66, 67, 68, 69, 70, 71, 72, 73, 74, 75, 76, 77, 78, 79] (by decide +kernel) (by decide +kernel)
set_option maxRecDepth 20000 in
theorem gX3_find_X3_comes : GoodIn wsX3_find (wsV RX3 145 RX3 yX3_comes wsX3_comes) := goodIn_app (goodIn_of _ (by decide +kernel)) ggX3_find_X3_comes
theorem dX3_find_0 : decode cX3_find 0 = .ok (.iload_n 1, 1) := by decide +kernel
theorem dX3_find_1 : decode cX3_find 1 = .ok (.invokestatic 126, 3) := by decide +kernel
theorem dX3_find_4 : decode cX3_find 4 = .ok (.ifCond .eq 22, 3) := by decide +kernel
theorem dX3_find_7 : decode cX3_find 7 = .ok (.iload_n 2, 1) := by decide +kernel
theorem dX3_find_8 : decode cX3_find 8 = .ok (.invokestatic 139, 3) := by decide +kernel
theorem dX3_find_11 : decode cX3_find 11 = .ok (.ifCond .eq 15, 3) := by decide +kernel
theorem dX3_find_14 : decode cX3_find 14 = .ok (.iload 7, 2) := by decide +kernel
theorem dX3_find_16 : decode cX3_find 16 = .ok (.invokestatic 129, 3) := by decide +kernel
theorem dX3_find_19 : decode cX3_find 19 = .ok (.ifCond .eq 7, 3) := by decide +kernel
theorem dX3_find_22 : decode cX3_find 22 = .ok (.iconst 1, 1) := by decide +kernel
theorem dX3_find_23 : decode cX3_find 23 = .ok (.goto 4, 3) := by decide +kernel
theorem dX3_find_26 : decode cX3_find 26 = .ok (.iconst 0, 1) := by decide +kernel
theorem dX3_find_27 : decode cX3_find 27 = .ok (.istore 8, 2) := by decide +kernel
theorem dX3_find_29 : decode cX3_find 29 = .ok (.iload_n 3, 1) := by decide +kernel
theorem dX3_find_30 : decode cX3_find 30 = .ok (.iconst 0, 1) := by decide +kernel
theorem dX3_find_31 : decode cX3_find 31 = .ok (.aload_n 0, 1) := by decide +kernel
theorem dX3_find_32 : decode cX3_find 32 = .ok (.getfield 136, 3) := by decide +kernel
theorem dX3_find_35 : decode cX3_find 35 = .ok (.invokestatic 108, 3) := by decide +kernel
theorem dX3_find_38 : decode cX3_find 38 = .ok (.ifCond .eq 43, 3) := by decide +kernel
theorem dX3_find_41 : decode cX3_find 41 = .ok (.iload 6, 2) := by decide +kernel
theorem dX3_find_43 : decode cX3_find 43 = .ok (.iconst 0, 1) := by decide +kernel
theorem dX3_find_44 : decode cX3_find 44 = .ok (.sipush 9999, 3) := by decide +kernel
theorem dX3_find_47 : decode cX3_find 47 = .ok (.invokestatic 108, 3) := by decide +kernel
theorem dX3_find_50 : decode cX3_find 50 = .ok (.ifCond .eq 31, 3) := by decide +kernel
theorem dX3_find_53 : decode cX3_find 53 = .ok (.iload 4, 2) := by decide +kernel
theorem dX3_find_55 : decode cX3_find 55 = .ok (.invokestatic 142, 3) := by decide +kernel
theorem dX3_find_58 : decode cX3_find 58 = .ok (.ifCond .eq 23, 3) := by decide +kernel
theorem dX3_find_61 : decode cX3_find 61 = .ok (.iload 5, 2) := by decide +kernel
theorem dX3_find_63 : decode cX3_find 63 = .ok (.invokestatic 142, 3) := by decide +kernel
theorem dX3_find_66 : decode cX3_find 66 = .ok (.ifCond .eq 15, 3) := by decide +kernel
theorem dX3_find_69 : decode cX3_find 69 = .ok (.iload 4, 2) := by decide +kernel
theorem dX3_find_71 : decode cX3_find 71 = .ok (.iload 5, 2) := by decide +kernel
theorem dX3_find_73 : decode cX3_find 73 = .ok (.iand, 1) := by decide +kernel
theorem dX3_find_74 : decode cX3_find 74 = .ok (.ifCond .ne 7, 3) := by decide +kernel
theorem dX3_find_77 : decode cX3_find 77 = .ok (.iconst 1, 1) := by decide +kernel
theorem dX3_find_78 : decode cX3_find 78 = .ok (.goto 4, 3) := by decide +kernel
theorem dX3_find_81 : decode cX3_find 81 = .ok (.iconst 0, 1) := by decide +kernel
theorem dX3_find_82 : decode cX3_find 82 = .ok (.istore 9, 2) := by decide +kernel
theorem dX3_find_84 : decode cX3_find 84 = .ok (.aload_n 0, 1) := by decide +kernel
theorem dX3_find_85 : decode cX3_find 85 = .ok (.iload 8, 2) := by decide +kernel
theorem dX3_find_87 : decode cX3_find 87 = .ok (.ifCond .ne 7, 3) := by decide +kernel
theorem dX3_find_90 : decode cX3_find 90 = .ok (.iconst 1, 1) := by decide +kernel
theorem dX3_find_91 : decode cX3_find 91 = .ok (.goto 26, 3) := by decide +kernel
theorem dX3_find_94 : decode cX3_find 94 = .ok (.iload 9, 2) := by decide +kernel
theorem dX3_find_96 : decode cX3_find 96 = .ok (.ifCond .ne 7, 3) := by decide +kernel
theorem dX3_find_99 : decode cX3_find 99 = .ok (.iconst 2, 1) := by decide +kernel
theorem dX3_find_100 : decode cX3_find 100 = .ok (.goto 17, 3) := by decide +kernel
theorem dX3_find_103 : decode cX3_find 103 = .ok (.aload_n 0, 1) := by decide +kernel
theorem dX3_find_104 : decode cX3_find 104 = .ok (.getfield 113, 3) := by decide +kernel
theorem dX3_find_107 : decode cX3_find 107 = .ok (.bipush 30, 2) := by decide +kernel
theorem dX3_find_109 : decode cX3_find 109 = .ok (.if_icmp .ne 7, 3) := by decide +kernel
theorem dX3_find_112 : decode cX3_find 112 = .ok (.iconst 3, 1) := by decide +kernel
theorem dX3_find_113 : decode cX3_find 113 = .ok (.goto 4, 3) := by decide +kernel
theorem dX3_find_116 : decode cX3_find 116 = .ok (.iconst 0, 1) := by decide +kernel
theorem dX3_find_117 : decode cX3_find 117 = .ok (.invokevirtual 123, 3) := by decide +kernel
theorem dX3_find_120 : decode cX3_find 120 = .ok (.ifCond .ne 5, 3) := by decide +kernel
theorem dX3_find_123 : decode cX3_find 123 = .ok (.iconst 0, 1) := by decide +kernel
theorem dX3_find_124 : decode cX3_find 124 = .ok (.ireturn, 1) := by decide +kernel
theorem dX3_find_125 : decode cX3_find 125 = .ok (.aload_n 0, 1) := by decide +kernel
theorem dX3_find_126 : decode cX3_find 126 = .ok (.getfield 29, 3) := by decide +kernel
theorem dX3_find_129 : decode cX3_find 129 = .ok (.aload_n 0, 1) := by decide +kernel
theorem dX3_find_130 : decode cX3_find 130 = .ok (.getfield 113, 3) := by decide +kernel
theorem dX3_find_133 : decode cX3_find 133 = .ok (.iload_n 1, 1) := by decide +kernel
theorem dX3_find_134 : decode cX3_find 134 = .ok (.iastore, 1) := by decide +kernel
theorem dX3_find_135 : decode cX3_find 135 = .ok (.aload_n 0, 1) := by decide +kernel
theorem dX3_find_136 : decode cX3_find 136 = .ok (.getfield 32, 3) := by decide +kernel
theorem dX3_find_139 : decode cX3_find 139 = .ok (.aload_n 0, 1) := by decide +kernel
theorem dX3_find_140 : decode cX3_find 140 = .ok (.getfield 113, 3) := by decide +kernel
theorem dX3_find_143 : decode cX3_find 143 = .ok (.iload_n 2, 1) := by decide +kernel
theorem dX3_find_144 : decode cX3_find 144 = .ok (.iastore, 1) := by decide +kernel
theorem dX3_find_145 : decode cX3_find 145 = .ok (.aload_n 0, 1) := by decide +kernel
theorem dX3_find_146 : decode cX3_find 146 = .ok (.getfield 35, 3) := by decide +kernel
theorem dX3_find_149 : decode cX3_find 149 = .ok (.aload_n 0, 1) := by decide +kernel
theorem dX3_find_150 : decode cX3_find 150 = .ok (.getfield 113, 3) := by decide +kernel
theorem dX3_find_153 : decode cX3_find 153 = .ok (.aload_n 0, 1) := by decide +kernel
theorem dX3_find_154 : decode cX3_find 154 = .ok (.getfield 136, 3) := by decide +kernel
theorem dX3_find_157 : decode cX3_find 157 = .ok (.iload_n 3, 1) := by decide +kernel
theorem dX3_find_158 : decode cX3_find 158 = .ok (.isub, 1) := by decide +kernel
theorem dX3_find_159 : decode cX3_find 159 = .ok (.iastore, 1) := by decide +kernel
theorem dX3_find_160 : decode cX3_find 160 = .ok (.aload_n 0, 1) := by decide +kernel
theorem dX3_find_161 : decode cX3_find 161 = .ok (.getfield 38, 3) := by decide +kernel
theorem dX3_find_164 : decode cX3_find 164 = .ok (.aload_n 0, 1) := by decide +kernel
theorem dX3_find_165 : decode cX3_find 165 = .ok (.getfield 113, 3) := by decide +kernel
theorem dX3_find_168 : decode cX3_find 168 = .ok (.iload 4, 2) := by decide +kernel
theorem dX3_find_170 : decode cX3_find 170 = .ok (.iastore, 1) := by decide +kernel
theorem dX3_find_171 : decode cX3_find 171 = .ok (.aload_n 0, 1) := by decide +kernel
theorem dX3_find_172 : decode cX3_find 172 = .ok (.getfield 41, 3) := by decide +kernel
theorem dX3_find_175 : decode cX3_find 175 = .ok (.aload_n 0, 1) := by decide +kernel
theorem dX3_find_176 : decode cX3_find 176 = .ok (.getfield 113, 3) := by decide +kernel
theorem dX3_find_179 : decode cX3_find 179 = .ok (.iload 5, 2) := by decide +kernel
theorem dX3_find_181 : decode cX3_find 181 = .ok (.iastore, 1) := by decide +kernel
theorem dX3_find_182 : decode cX3_find 182 = .ok (.aload_n 0, 1) := by decide +kernel
theorem dX3_find_183 : decode cX3_find 183 = .ok (.getfield 44, 3) := by decide +kernel
theorem dX3_find_186 : decode cX3_find 186 = .ok (.aload_n 0, 1) := by decide +kernel
theorem dX3_find_187 : decode cX3_find 187 = .ok (.getfield 113, 3) := by decide +kernel
theorem dX3_find_190 : decode cX3_find 190 = .ok (.iload 6, 2) := by decide +kernel
theorem dX3_find_192 : decode cX3_find 192 = .ok (.iastore, 1) := by decide +kernel
theorem dX3_find_193 : decode cX3_find 193 = .ok (.aload_n 0, 1) := by decide +kernel
theorem dX3_find_194 : decode cX3_find 194 = .ok (.getfield 56, 3) := by decide +kernel
theorem dX3_find_197 : decode cX3_find 197 = .ok (.aload_n 0, 1) := by decide +kernel
theorem dX3_find_198 : decode cX3_find 198 = .ok (.getfield 113, 3) := by decide +kernel
theorem dX3_find_201 : decode cX3_find 201 = .ok (.aload_n 0, 1) := by decide +kernel
theorem dX3_find_202 : decode cX3_find 202 = .ok (.getfield 136, 3) := by decide +kernel
theorem dX3_find_205 : decode cX3_find 205 = .ok (.iload_n 1, 1) := by decide +kernel
theorem dX3_find_206 : decode cX3_find 206 = .ok (.bipush 7, 2) := by decide +kernel
theorem dX3_find_208 : decode cX3_find 208 = .ok (.if_icmp .ne 7, 3) := by decide +kernel
theorem dX3_find_211 : decode cX3_find 211 = .ok (.iconst 1, 1) := by decide +kernel
theorem dX3_find_212 : decode cX3_find 212 = .ok (.goto 9, 3) := by decide +kernel
theorem dX3_find_215 : decode cX3_find 215 = .ok (.aload_n 0, 1) := by decide +kernel
theorem dX3_find_216 : decode cX3_find 216 = .ok (.getfield 16, 3) := by decide +kernel
theorem dX3_find_219 : decode cX3_find 219 = .ok (.iload_n 1, 1) := by decide +kernel
theorem dX3_find_220 : decode cX3_find 220 = .ok (.iaload, 1) := by decide +kernel
theorem dX3_find_221 : decode cX3_find 221 = .ok (.iadd, 1) := by decide +kernel
theorem dX3_find_222 : decode cX3_find 222 = .ok (.iastore, 1) := by decide +kernel
theorem dX3_find_223 : decode cX3_find 223 = .ok (.aload_n 0, 1) := by decide +kernel
theorem dX3_find_224 : decode cX3_find 224 = .ok (.aload_n 0, 1) := by decide +kernel
theorem dX3_find_225 : decode cX3_find 225 = .ok (.getfield 113, 3) := by decide +kernel
theorem dX3_find_228 : decode cX3_find 228 = .ok (.iload 7, 2) := by decide +kernel
theorem dX3_find_230 : decode cX3_find 230 = .ok (.invokevirtual 145, 3) := by decide +kernel
theorem dX3_find_233 : decode cX3_find 233 = .ok (.aload_n 0, 1) := by decide +kernel
theorem dX3_find_234 : decode cX3_find 234 = .ok (.dup, 1) := by decide +kernel
theorem dX3_find_235 : decode cX3_find 235 = .ok (.getfield 113, 3) := by decide +kernel
theorem dX3_find_238 : decode cX3_find 238 = .ok (.iconst 1, 1) := by decide +kernel
theorem dX3_find_239 : decode cX3_find 239 = .ok (.iadd, 1) := by decide +kernel
theorem dX3_find_240 : decode cX3_find 240 = .ok (.putfield 113, 3) := by decide +kernel
theorem dX3_find_243 : decode cX3_find 243 = .ok (.aload_n 0, 1) := by decide +kernel
theorem dX3_find_244 : decode cX3_find 244 = .ok (.getfield 113, 3) := by decide +kernel
theorem dX3_find_247 : decode cX3_find 247 = .ok (.iconst 1, 1) := by decide +kernel
theorem dX3_find_248 : decode cX3_find 248 = .ok (.isub, 1) := by decide +kernel
theorem dX3_find_249 : decode cX3_find 249 = .ok (.ireturn, 1) := by decide +kernel
set_option maxRecDepth 20000 in
theorem ggX3_see_X3_isFind : GoodIn wsX3_see wsX3_isFind := goodIn_r _ [8, 9, 10, 11, 7, 12, 25, 26, 27, 28, 29, 30, 31, 32, 33, 34, 35, 36, 37, 38, 39, 40, 41, 42, 43, 44, 45, 46, 47, 48, 49, 50, 51, 52, 53, 54, 55, 56, 57, 58, 59, 60, 61, 62] (by decide +kernel) (by decide +kernel)
set_option maxRecDepth 20000 in
theorem gX3_see_X3_isFind : GoodIn wsX3_see (wsV RX3 149 RX3 yX3_isFind wsX3_isFind) := goodIn_app (goodIn_of _ (by decide +kernel)) ggX3_see_X3_isFind
set_option maxRecDepth 20000 in
theorem ggX3_see_X3_isSet : GoodIn wsX3_see wsX3_isSet := goodIn_r _ [15, 16, 10, 11, 7, 12] (by decide +kernel) (by decide +kernel)
set_option maxRecDepth 20000 in
theorem gX3_see_X3_isSet : GoodIn wsX3_see (va_wsS RX3 142 yX3_isSet wsX3_isSet) := goodIn_app (goodIn_of _ (by decide +kernel)) ggX3_see_X3_isSet
set_option maxRecDepth 20000 in
theorem ggX3_see_X3_holds : GoodIn wsX3_see wsX3_holds := goodIn_r _ [20, 21, 25, 26, 27, 28, 29, 30, 31, 32, 33, 34, 35, 36, 37, 38, 39, 40, 41, 42, 43, 44, 45, 46, 47, 48, 49, 50, 51, 52, 53, 54, 55, 56, 57, 58, 59, 60, 61, 62] (by decide +kernel) (by decide +kernel)
set_option maxRecDepth 20000 in
theorem gX3_see_X3_holds : GoodIn wsX3_see (wsV RX3 123 RX3 yX3_holds wsX3_holds) := goodIn_app (goodIn_of _ (by decide +kernel)) ggX3_see_X3_holds
set_option maxRecDepth 20000 in
theorem ggX3_see_X3_bits : GoodIn wsX3_see wsX3_bits := goodIn_r _ [24] (by decide +kernel) (by decide +kernel)
set_option maxRecDepth 20000 in
theorem gX3_see_X3_bits : GoodIn wsX3_see (va_wsS RX3 132 yX3_bits wsX3_bits) := goodIn_app (goodIn_of _ (by decide +kernel)) ggX3_see_X3_bits
theorem dX3_see_0 : decode cX3_see 0 = .ok (.aload_n 0, 1) := by decide +kernel
theorem dX3_see_1 : decode cX3_see 1 = .ok (.iload_n 1, 1) := by decide +kernel
theorem dX3_see_2 : decode cX3_see 2 = .ok (.invokevirtual 149, 3) := by decide +kernel
theorem dX3_see_5 : decode cX3_see 5 = .ok (.istore_n 3, 1) := by decide +kernel
theorem dX3_see_6 : decode cX3_see 6 = .ok (.aload_n 0, 1) := by decide +kernel
theorem dX3_see_7 : decode cX3_see 7 = .ok (.iload_n 3, 1) := by decide +kernel
theorem dX3_see_8 : decode cX3_see 8 = .ok (.ifCond .ne 7, 3) := by decide +kernel
theorem dX3_see_11 : decode cX3_see 11 = .ok (.iconst 1, 1) := by decide +kernel
theorem dX3_see_12 : decode cX3_see 12 = .ok (.goto 39, 3) := by decide +kernel
theorem dX3_see_15 : decode cX3_see 15 = .ok (.iload_n 2, 1) := by decide +kernel
theorem dX3_see_16 : decode cX3_see 16 = .ok (.invokestatic 142, 3) := by decide +kernel
theorem dX3_see_19 : decode cX3_see 19 = .ok (.ifCond .eq 14, 3) := by decide +kernel
theorem dX3_see_22 : decode cX3_see 22 = .ok (.iload_n 2, 1) := by decide +kernel
theorem dX3_see_23 : decode cX3_see 23 = .ok (.aload_n 0, 1) := by decide +kernel
theorem dX3_see_24 : decode cX3_see 24 = .ok (.getfield 41, 3) := by decide +kernel
theorem dX3_see_27 : decode cX3_see 27 = .ok (.iload_n 1, 1) := by decide +kernel
theorem dX3_see_28 : decode cX3_see 28 = .ok (.iaload, 1) := by decide +kernel
theorem dX3_see_29 : decode cX3_see 29 = .ok (.iand, 1) := by decide +kernel
theorem dX3_see_30 : decode cX3_see 30 = .ok (.ifCond .eq 7, 3) := by decide +kernel
theorem dX3_see_33 : decode cX3_see 33 = .ok (.iconst 2, 1) := by decide +kernel
theorem dX3_see_34 : decode cX3_see 34 = .ok (.goto 17, 3) := by decide +kernel
theorem dX3_see_37 : decode cX3_see 37 = .ok (.aload_n 0, 1) := by decide +kernel
theorem dX3_see_38 : decode cX3_see 38 = .ok (.getfield 47, 3) := by decide +kernel
theorem dX3_see_41 : decode cX3_see 41 = .ok (.iload_n 1, 1) := by decide +kernel
theorem dX3_see_42 : decode cX3_see 42 = .ok (.iaload, 1) := by decide +kernel
theorem dX3_see_43 : decode cX3_see 43 = .ok (.ifCond .eq 7, 3) := by decide +kernel
theorem dX3_see_46 : decode cX3_see 46 = .ok (.iconst 3, 1) := by decide +kernel
theorem dX3_see_47 : decode cX3_see 47 = .ok (.goto 4, 3) := by decide +kernel
theorem dX3_see_50 : decode cX3_see 50 = .ok (.iconst 0, 1) := by decide +kernel
theorem dX3_see_51 : decode cX3_see 51 = .ok (.invokevirtual 123, 3) := by decide +kernel
theorem dX3_see_54 : decode cX3_see 54 = .ok (.ifCond .ne 5, 3) := by decide +kernel
theorem dX3_see_57 : decode cX3_see 57 = .ok (.iconst 0, 1) := by decide +kernel
theorem dX3_see_58 : decode cX3_see 58 = .ok (.ireturn, 1) := by decide +kernel
theorem dX3_see_59 : decode cX3_see 59 = .ok (.aload_n 0, 1) := by decide +kernel
theorem dX3_see_60 : decode cX3_see 60 = .ok (.getfield 38, 3) := by decide +kernel
theorem dX3_see_63 : decode cX3_see 63 = .ok (.iload_n 1, 1) := by decide +kernel
theorem dX3_see_64 : decode cX3_see 64 = .ok (.dup2, 1) := by decide +kernel
theorem dX3_see_65 : decode cX3_see 65 = .ok (.iaload, 1) := by decide +kernel
theorem dX3_see_66 : decode cX3_see 66 = .ok (.iload_n 2, 1) := by decide +kernel
theorem dX3_see_67 : decode cX3_see 67 = .ok (.ior, 1) := by decide +kernel
theorem dX3_see_68 : decode cX3_see 68 = .ok (.iastore, 1) := by decide +kernel
theorem dX3_see_69 : decode cX3_see 69 = .ok (.aload_n 0, 1) := by decide +kernel
theorem dX3_see_70 : decode cX3_see 70 = .ok (.getfield 38, 3) := by decide +kernel
theorem dX3_see_73 : decode cX3_see 73 = .ok (.iload_n 1, 1) := by decide +kernel
theorem dX3_see_74 : decode cX3_see 74 = .ok (.iaload, 1) := by decide +kernel
theorem dX3_see_75 : decode cX3_see 75 = .ok (.invokestatic 132, 3) := by decide +kernel
theorem dX3_see_78 : decode cX3_see 78 = .ok (.ireturn, 1) := by decide +kernel
set_option maxRecDepth 20000 in
theorem ggX3_send_X3_isFind : GoodIn wsX3_send wsX3_isFind := goodIn_r _ [8, 9, 10, 11, 7, 12, 21, 22, 23, 24, 25, 26, 27, 28, 29, 30, 31, 32, 33, 34, 35, 36, 37, 38, 39, 40, 41, 42, 43, 44, 45, 46, 47, 48, 49, 50, 51, 52, 53, 54, 55, 56, 57, 58] (by decide +kernel) (by decide +kernel)
set_option maxRecDepth 20000 in
theorem gX3_send_X3_isFind : GoodIn wsX3_send (wsV RX3 149 RX3 yX3_isFind wsX3_isFind) := goodIn_app (goodIn_of _ (by decide +kernel)) ggX3_send_X3_isFind
set_option maxRecDepth 20000 in
theorem ggX3_send_X3_isRoom : GoodIn wsX3_send wsX3_isRoom := goodIn_r _ [15, 10, 11, 7, 12] (by decide +kernel) (by decide +kernel)
set_option maxRecDepth 20000 in
theorem gX3_send_X3_isRoom : GoodIn wsX3_send (va_wsS RX3 129 yX3_isRoom wsX3_isRoom) := goodIn_app (goodIn_of _ (by decide +kernel)) ggX3_send_X3_isRoom
set_option maxRecDepth 20000 in
theorem ggX3_send_X3_holds : GoodIn wsX3_send wsX3_holds := goodIn_r _ [19, 20, 21, 22, 23, 24, 25, 26, 27, 28, 29, 30, 31, 32, 33, 34, 35, 36, 37, 38, 39, 40, 41, 42, 43, 44, 45, 46, 47, 48, 49, 50, 51, 52, 53, 54, 55, 56, 57, 58] (by decide +kernel) (by decide +kernel)
set_option maxRecDepth 20000 in
theorem gX3_send_X3_holds : GoodIn wsX3_send (wsV RX3 123 RX3 yX3_holds wsX3_holds) := goodIn_app (goodIn_of _ (by decide +kernel)) ggX3_send_X3_holds
theorem dX3_send_0 : decode cX3_send 0 = .ok (.aload_n 0, 1) := by decide +kernel
theorem dX3_send_1 : decode cX3_send 1 = .ok (.iload_n 1, 1) := by decide +kernel
theorem dX3_send_2 : decode cX3_send 2 = .ok (.invokevirtual 149, 3) := by decide +kernel
theorem dX3_send_5 : decode cX3_send 5 = .ok (.ifCond .eq 14, 3) := by decide +kernel
theorem dX3_send_8 : decode cX3_send 8 = .ok (.iload_n 2, 1) := by decide +kernel
theorem dX3_send_9 : decode cX3_send 9 = .ok (.invokestatic 129, 3) := by decide +kernel
theorem dX3_send_12 : decode cX3_send 12 = .ok (.ifCond .eq 7, 3) := by decide +kernel
theorem dX3_send_15 : decode cX3_send 15 = .ok (.iconst 1, 1) := by decide +kernel
theorem dX3_send_16 : decode cX3_send 16 = .ok (.goto 4, 3) := by decide +kernel
theorem dX3_send_19 : decode cX3_send 19 = .ok (.iconst 0, 1) := by decide +kernel
theorem dX3_send_20 : decode cX3_send 20 = .ok (.istore_n 3, 1) := by decide +kernel
theorem dX3_send_21 : decode cX3_send 21 = .ok (.aload_n 0, 1) := by decide +kernel
theorem dX3_send_22 : decode cX3_send 22 = .ok (.iload_n 3, 1) := by decide +kernel
theorem dX3_send_23 : decode cX3_send 23 = .ok (.ifCond .ne 7, 3) := by decide +kernel
theorem dX3_send_26 : decode cX3_send 26 = .ok (.iconst 1, 1) := by decide +kernel
theorem dX3_send_27 : decode cX3_send 27 = .ok (.goto 27, 3) := by decide +kernel
theorem dX3_send_30 : decode cX3_send 30 = .ok (.aload_n 0, 1) := by decide +kernel
theorem dX3_send_31 : decode cX3_send 31 = .ok (.getfield 47, 3) := by decide +kernel
theorem dX3_send_34 : decode cX3_send 34 = .ok (.iload_n 1, 1) := by decide +kernel
theorem dX3_send_35 : decode cX3_send 35 = .ok (.iaload, 1) := by decide +kernel
theorem dX3_send_36 : decode cX3_send 36 = .ok (.ifCond .ne 13, 3) := by decide +kernel
theorem dX3_send_39 : decode cX3_send 39 = .ok (.aload_n 0, 1) := by decide +kernel
theorem dX3_send_40 : decode cX3_send 40 = .ok (.getfield 50, 3) := by decide +kernel
theorem dX3_send_43 : decode cX3_send 43 = .ok (.iload_n 1, 1) := by decide +kernel
theorem dX3_send_44 : decode cX3_send 44 = .ok (.iaload, 1) := by decide +kernel
theorem dX3_send_45 : decode cX3_send 45 = .ok (.iload_n 2, 1) := by decide +kernel
theorem dX3_send_46 : decode cX3_send 46 = .ok (.if_icmp .ne 7, 3) := by decide +kernel
theorem dX3_send_49 : decode cX3_send 49 = .ok (.iconst 2, 1) := by decide +kernel
theorem dX3_send_50 : decode cX3_send 50 = .ok (.goto 4, 3) := by decide +kernel
theorem dX3_send_53 : decode cX3_send 53 = .ok (.iconst 0, 1) := by decide +kernel
theorem dX3_send_54 : decode cX3_send 54 = .ok (.invokevirtual 123, 3) := by decide +kernel
theorem dX3_send_57 : decode cX3_send 57 = .ok (.ifCond .ne 5, 3) := by decide +kernel
theorem dX3_send_60 : decode cX3_send 60 = .ok (.iconst 0, 1) := by decide +kernel
theorem dX3_send_61 : decode cX3_send 61 = .ok (.ireturn, 1) := by decide +kernel
theorem dX3_send_62 : decode cX3_send 62 = .ok (.aload_n 0, 1) := by decide +kernel
theorem dX3_send_63 : decode cX3_send 63 = .ok (.getfield 47, 3) := by decide +kernel
theorem dX3_send_66 : decode cX3_send 66 = .ok (.iload_n 1, 1) := by decide +kernel
theorem dX3_send_67 : decode cX3_send 67 = .ok (.iconst 1, 1) := by decide +kernel
theorem dX3_send_68 : decode cX3_send 68 = .ok (.iastore, 1) := by decide +kernel
theorem dX3_send_69 : decode cX3_send 69 = .ok (.aload_n 0, 1) := by decide +kernel
theorem dX3_send_70 : decode cX3_send 70 = .ok (.getfield 53, 3) := by decide +kernel
theorem dX3_send_73 : decode cX3_send 73 = .ok (.iload_n 1, 1) := by decide +kernel
theorem dX3_send_74 : decode cX3_send 74 = .ok (.iload_n 2, 1) := by decide +kernel
theorem dX3_send_75 : decode cX3_send 75 = .ok (.iastore, 1) := by decide +kernel
theorem dX3_send_76 : decode cX3_send 76 = .ok (.aload_n 0, 1) := by decide +kernel
theorem dX3_send_77 : decode cX3_send 77 = .ok (.getfield 50, 3) := by decide +kernel
theorem dX3_send_80 : decode cX3_send 80 = .ok (.iload_n 1, 1) := by decide +kernel
theorem dX3_send_81 : decode cX3_send 81 = .ok (.iaload, 1) := by decide +kernel
theorem dX3_send_82 : decode cX3_send 82 = .ok (.ireturn, 1) := by decide +kernel
set_option maxRecDepth 20000 in
theorem ggX3_lose_X3_isRoom : GoodIn wsX3_lose wsX3_isRoom := goodIn_r _ [7, 8, 9, 6, 10] (by decide +kernel) (by decide +kernel)
set_option maxRecDepth 20000 in
theorem gX3_lose_X3_isRoom : GoodIn wsX3_lose (va_wsS RX3 129 yX3_isRoom wsX3_isRoom) := goodIn_app (goodIn_of _ (by decide +kernel)) ggX3_lose_X3_isRoom
set_option maxRecDepth 20000 in
theorem ggX3_lose_X3_holds : GoodIn wsX3_lose wsX3_holds := goodIn_r _ [14, 15, 16, 17, 18, 19, 20, 21, 22, 23, 24, 25, 26, 27, 28, 29, 30, 31, 32, 33, 34, 35, 36, 37, 38, 39, 40, 41, 42, 43, 44, 45, 46, 47, 48, 49, 50, 51, 52, 53] (by decide +kernel) (by decide +kernel)
set_option maxRecDepth 20000 in
theorem gX3_lose_X3_holds : GoodIn wsX3_lose (wsV RX3 123 RX3 yX3_holds wsX3_holds) := goodIn_app (goodIn_of _ (by decide +kernel)) ggX3_lose_X3_holds
theorem dX3_lose_0 : decode cX3_lose 0 = .ok (.aload_n 0, 1) := by decide +kernel
theorem dX3_lose_1 : decode cX3_lose 1 = .ok (.iload_n 1, 1) := by decide +kernel
theorem dX3_lose_2 : decode cX3_lose 2 = .ok (.invokestatic 129, 3) := by decide +kernel
theorem dX3_lose_5 : decode cX3_lose 5 = .ok (.ifCond .eq 7, 3) := by decide +kernel
theorem dX3_lose_8 : decode cX3_lose 8 = .ok (.iconst 0, 1) := by decide +kernel
theorem dX3_lose_9 : decode cX3_lose 9 = .ok (.goto 4, 3) := by decide +kernel
theorem dX3_lose_12 : decode cX3_lose 12 = .ok (.iconst 1, 1) := by decide +kernel
theorem dX3_lose_13 : decode cX3_lose 13 = .ok (.invokevirtual 123, 3) := by decide +kernel
theorem dX3_lose_16 : decode cX3_lose 16 = .ok (.ifCond .ne 5, 3) := by decide +kernel
theorem dX3_lose_19 : decode cX3_lose 19 = .ok (.iconst 0, 1) := by decide +kernel
theorem dX3_lose_20 : decode cX3_lose 20 = .ok (.ireturn, 1) := by decide +kernel
theorem dX3_lose_21 : decode cX3_lose 21 = .ok (.iconst 0, 1) := by decide +kernel
theorem dX3_lose_22 : decode cX3_lose 22 = .ok (.istore_n 2, 1) := by decide +kernel
theorem dX3_lose_23 : decode cX3_lose 23 = .ok (.iconst 0, 1) := by decide +kernel
theorem dX3_lose_24 : decode cX3_lose 24 = .ok (.istore_n 3, 1) := by decide +kernel
theorem dX3_lose_25 : decode cX3_lose 25 = .ok (.iload_n 3, 1) := by decide +kernel
theorem dX3_lose_26 : decode cX3_lose 26 = .ok (.aload_n 0, 1) := by decide +kernel
theorem dX3_lose_27 : decode cX3_lose 27 = .ok (.getfield 113, 3) := by decide +kernel
theorem dX3_lose_30 : decode cX3_lose 30 = .ok (.if_icmp .ge 70, 3) := by decide +kernel
theorem dX3_lose_33 : decode cX3_lose 33 = .ok (.aload_n 0, 1) := by decide +kernel
theorem dX3_lose_34 : decode cX3_lose 34 = .ok (.getfield 47, 3) := by decide +kernel
theorem dX3_lose_37 : decode cX3_lose 37 = .ok (.iload_n 3, 1) := by decide +kernel
theorem dX3_lose_38 : decode cX3_lose 38 = .ok (.iaload, 1) := by decide +kernel
theorem dX3_lose_39 : decode cX3_lose 39 = .ok (.iconst 1, 1) := by decide +kernel
theorem dX3_lose_40 : decode cX3_lose 40 = .ok (.if_icmp .ne 17, 3) := by decide +kernel
theorem dX3_lose_43 : decode cX3_lose 43 = .ok (.aload_n 0, 1) := by decide +kernel
theorem dX3_lose_44 : decode cX3_lose 44 = .ok (.getfield 53, 3) := by decide +kernel
theorem dX3_lose_47 : decode cX3_lose 47 = .ok (.iload_n 3, 1) := by decide +kernel
theorem dX3_lose_48 : decode cX3_lose 48 = .ok (.iaload, 1) := by decide +kernel
theorem dX3_lose_49 : decode cX3_lose 49 = .ok (.iload_n 1, 1) := by decide +kernel
theorem dX3_lose_50 : decode cX3_lose 50 = .ok (.if_icmp .ne 7, 3) := by decide +kernel
theorem dX3_lose_53 : decode cX3_lose 53 = .ok (.iconst 1, 1) := by decide +kernel
theorem dX3_lose_54 : decode cX3_lose 54 = .ok (.goto 4, 3) := by decide +kernel
theorem dX3_lose_57 : decode cX3_lose 57 = .ok (.iconst 0, 1) := by decide +kernel
theorem dX3_lose_58 : decode cX3_lose 58 = .ok (.istore 4, 2) := by decide +kernel
theorem dX3_lose_60 : decode cX3_lose 60 = .ok (.aload_n 0, 1) := by decide +kernel
theorem dX3_lose_61 : decode cX3_lose 61 = .ok (.getfield 47, 3) := by decide +kernel
theorem dX3_lose_64 : decode cX3_lose 64 = .ok (.iload_n 3, 1) := by decide +kernel
theorem dX3_lose_65 : decode cX3_lose 65 = .ok (.iload 4, 2) := by decide +kernel
theorem dX3_lose_67 : decode cX3_lose 67 = .ok (.ifCond .eq 7, 3) := by decide +kernel
theorem dX3_lose_70 : decode cX3_lose 70 = .ok (.iconst 2, 1) := by decide +kernel
theorem dX3_lose_71 : decode cX3_lose 71 = .ok (.goto 9, 3) := by decide +kernel
theorem dX3_lose_74 : decode cX3_lose 74 = .ok (.aload_n 0, 1) := by decide +kernel
theorem dX3_lose_75 : decode cX3_lose 75 = .ok (.getfield 47, 3) := by decide +kernel
theorem dX3_lose_78 : decode cX3_lose 78 = .ok (.iload_n 3, 1) := by decide +kernel
theorem dX3_lose_79 : decode cX3_lose 79 = .ok (.iaload, 1) := by decide +kernel
theorem dX3_lose_80 : decode cX3_lose 80 = .ok (.iastore, 1) := by decide +kernel
theorem dX3_lose_81 : decode cX3_lose 81 = .ok (.iload_n 2, 1) := by decide +kernel
theorem dX3_lose_82 : decode cX3_lose 82 = .ok (.iload 4, 2) := by decide +kernel
theorem dX3_lose_84 : decode cX3_lose 84 = .ok (.ifCond .eq 7, 3) := by decide +kernel
theorem dX3_lose_87 : decode cX3_lose 87 = .ok (.iconst 1, 1) := by decide +kernel
theorem dX3_lose_88 : decode cX3_lose 88 = .ok (.goto 4, 3) := by decide +kernel
theorem dX3_lose_91 : decode cX3_lose 91 = .ok (.iconst 0, 1) := by decide +kernel
theorem dX3_lose_92 : decode cX3_lose 92 = .ok (.iadd, 1) := by decide +kernel
theorem dX3_lose_93 : decode cX3_lose 93 = .ok (.istore_n 2, 1) := by decide +kernel
theorem dX3_lose_94 : decode cX3_lose 94 = .ok (.iinc 3 1, 3) := by decide +kernel
theorem dX3_lose_97 : decode cX3_lose 97 = .ok (.goto (-72), 3) := by decide +kernel
theorem dX3_lose_100 : decode cX3_lose 100 = .ok (.iload_n 2, 1) := by decide +kernel
theorem dX3_lose_101 : decode cX3_lose 101 = .ok (.ireturn, 1) := by decide +kernel
set_option maxRecDepth 20000 in
theorem ggX3_turnUp_X3_isFind : GoodIn wsX3_turnUp wsX3_isFind := goodIn_r _ [7, 8, 9, 10, 6, 11, 28, 29, 30, 31, 32, 33, 34, 35, 36, 37, 38, 39, 40, 41, 42, 43, 44, 45, 46, 47, 48, 49, 50, 51, 52, 53, 54, 55, 56, 57, 58, 59, 60, 61, 62, 63, 64, 65] (by decide +kernel) (by decide +kernel)
set_option maxRecDepth 20000 in
theorem gX3_turnUp_X3_isFind : GoodIn wsX3_turnUp (wsV RX3 149 RX3 yX3_isFind wsX3_isFind) := goodIn_app (goodIn_of _ (by decide +kernel)) ggX3_turnUp_X3_isFind
set_option maxRecDepth 20000 in
theorem ggX3_turnUp_X3_isRoom : GoodIn wsX3_turnUp wsX3_isRoom := goodIn_r _ [14, 9, 10, 6, 11] (by decide +kernel) (by decide +kernel)
set_option maxRecDepth 20000 in
theorem gX3_turnUp_X3_isRoom : GoodIn wsX3_turnUp (va_wsS RX3 129 yX3_isRoom wsX3_isRoom) := goodIn_app (goodIn_of _ (by decide +kernel)) ggX3_turnUp_X3_isRoom
set_option maxRecDepth 20000 in
theorem ggX3_turnUp_X3_holds : GoodIn wsX3_turnUp wsX3_holds := goodIn_r _ [18, 19, 28, 29, 30, 31, 32, 33, 34, 35, 36, 37, 38, 39, 40, 41, 42, 43, 44, 45, 46, 47, 48, 49, 50, 51, 52, 53, 54, 55, 56, 57, 58, 59, 60, 61, 62, 63, 64, 65] (by decide +kernel) (by decide +kernel)
set_option maxRecDepth 20000 in
theorem gX3_turnUp_X3_holds : GoodIn wsX3_turnUp (wsV RX3 123 RX3 yX3_holds wsX3_holds) := goodIn_app (goodIn_of _ (by decide +kernel)) ggX3_turnUp_X3_holds
set_option maxRecDepth 20000 in
theorem ggX3_turnUp_X3_comes : GoodIn wsX3_turnUp wsX3_comes := goodIn_r _ [23, 1, 24, 2, 25, 26, 27, 28, 29, 30, 31, 32, 33, 34, 35, 36, 37, 38, 39, 40, 41, 42, 43, 44, 45, 46, 47, 48, 49, 50, 51, 52, 53, 54, 55, 56, 57, 58, 59, 60, 61, 62, 63, 64, 65] (by decide +kernel) (by decide +kernel)
set_option maxRecDepth 20000 in
theorem gX3_turnUp_X3_comes : GoodIn wsX3_turnUp (wsV RX3 145 RX3 yX3_comes wsX3_comes) := goodIn_app (goodIn_of _ (by decide +kernel)) ggX3_turnUp_X3_comes
theorem dX3_turnUp_0 : decode cX3_turnUp 0 = .ok (.aload_n 0, 1) := by decide +kernel
theorem dX3_turnUp_1 : decode cX3_turnUp 1 = .ok (.iload_n 1, 1) := by decide +kernel
theorem dX3_turnUp_2 : decode cX3_turnUp 2 = .ok (.invokevirtual 149, 3) := by decide +kernel
theorem dX3_turnUp_5 : decode cX3_turnUp 5 = .ok (.ifCond .eq 14, 3) := by decide +kernel
theorem dX3_turnUp_8 : decode cX3_turnUp 8 = .ok (.iload_n 2, 1) := by decide +kernel
theorem dX3_turnUp_9 : decode cX3_turnUp 9 = .ok (.invokestatic 129, 3) := by decide +kernel
theorem dX3_turnUp_12 : decode cX3_turnUp 12 = .ok (.ifCond .eq 7, 3) := by decide +kernel
theorem dX3_turnUp_15 : decode cX3_turnUp 15 = .ok (.iconst 1, 1) := by decide +kernel
theorem dX3_turnUp_16 : decode cX3_turnUp 16 = .ok (.goto 4, 3) := by decide +kernel
theorem dX3_turnUp_19 : decode cX3_turnUp 19 = .ok (.iconst 0, 1) := by decide +kernel
theorem dX3_turnUp_20 : decode cX3_turnUp 20 = .ok (.istore_n 3, 1) := by decide +kernel
theorem dX3_turnUp_21 : decode cX3_turnUp 21 = .ok (.aload_n 0, 1) := by decide +kernel
theorem dX3_turnUp_22 : decode cX3_turnUp 22 = .ok (.iload_n 3, 1) := by decide +kernel
theorem dX3_turnUp_23 : decode cX3_turnUp 23 = .ok (.ifCond .ne 7, 3) := by decide +kernel
theorem dX3_turnUp_26 : decode cX3_turnUp 26 = .ok (.iconst 1, 1) := by decide +kernel
theorem dX3_turnUp_27 : decode cX3_turnUp 27 = .ok (.goto 18, 3) := by decide +kernel
theorem dX3_turnUp_30 : decode cX3_turnUp 30 = .ok (.aload_n 0, 1) := by decide +kernel
theorem dX3_turnUp_31 : decode cX3_turnUp 31 = .ok (.getfield 47, 3) := by decide +kernel
theorem dX3_turnUp_34 : decode cX3_turnUp 34 = .ok (.iload_n 1, 1) := by decide +kernel
theorem dX3_turnUp_35 : decode cX3_turnUp 35 = .ok (.iaload, 1) := by decide +kernel
theorem dX3_turnUp_36 : decode cX3_turnUp 36 = .ok (.iconst 2, 1) := by decide +kernel
theorem dX3_turnUp_37 : decode cX3_turnUp 37 = .ok (.if_icmp .eq 7, 3) := by decide +kernel
theorem dX3_turnUp_40 : decode cX3_turnUp 40 = .ok (.iconst 2, 1) := by decide +kernel
theorem dX3_turnUp_41 : decode cX3_turnUp 41 = .ok (.goto 4, 3) := by decide +kernel
theorem dX3_turnUp_44 : decode cX3_turnUp 44 = .ok (.iconst 0, 1) := by decide +kernel
theorem dX3_turnUp_45 : decode cX3_turnUp 45 = .ok (.invokevirtual 123, 3) := by decide +kernel
theorem dX3_turnUp_48 : decode cX3_turnUp 48 = .ok (.ifCond .ne 5, 3) := by decide +kernel
theorem dX3_turnUp_51 : decode cX3_turnUp 51 = .ok (.iconst 0, 1) := by decide +kernel
theorem dX3_turnUp_52 : decode cX3_turnUp 52 = .ok (.ireturn, 1) := by decide +kernel
theorem dX3_turnUp_53 : decode cX3_turnUp 53 = .ok (.aload_n 0, 1) := by decide +kernel
theorem dX3_turnUp_54 : decode cX3_turnUp 54 = .ok (.iload_n 1, 1) := by decide +kernel
theorem dX3_turnUp_55 : decode cX3_turnUp 55 = .ok (.iload_n 2, 1) := by decide +kernel
theorem dX3_turnUp_56 : decode cX3_turnUp 56 = .ok (.invokevirtual 145, 3) := by decide +kernel
theorem dX3_turnUp_59 : decode cX3_turnUp 59 = .ok (.aload_n 0, 1) := by decide +kernel
theorem dX3_turnUp_60 : decode cX3_turnUp 60 = .ok (.getfield 69, 3) := by decide +kernel
theorem dX3_turnUp_63 : decode cX3_turnUp 63 = .ok (.iload_n 1, 1) := by decide +kernel
theorem dX3_turnUp_64 : decode cX3_turnUp 64 = .ok (.iaload, 1) := by decide +kernel
theorem dX3_turnUp_65 : decode cX3_turnUp 65 = .ok (.ireturn, 1) := by decide +kernel
theorem dX3_isHere_0 : decode cX3_isHere 0 = .ok (.aload_n 0, 1) := by decide +kernel
theorem dX3_isHere_1 : decode cX3_isHere 1 = .ok (.getfield 47, 3) := by decide +kernel
theorem dX3_isHere_4 : decode cX3_isHere 4 = .ok (.iload_n 1, 1) := by decide +kernel
theorem dX3_isHere_5 : decode cX3_isHere 5 = .ok (.iaload, 1) := by decide +kernel
theorem dX3_isHere_6 : decode cX3_isHere 6 = .ok (.iconst 2, 1) := by decide +kernel
theorem dX3_isHere_7 : decode cX3_isHere 7 = .ok (.if_icmp .gt 7, 3) := by decide +kernel
theorem dX3_isHere_10 : decode cX3_isHere 10 = .ok (.iconst 1, 1) := by decide +kernel
theorem dX3_isHere_11 : decode cX3_isHere 11 = .ok (.goto 4, 3) := by decide +kernel
theorem dX3_isHere_14 : decode cX3_isHere 14 = .ok (.iconst 0, 1) := by decide +kernel
theorem dX3_isHere_15 : decode cX3_isHere 15 = .ok (.ireturn, 1) := by decide +kernel
set_option maxRecDepth 20000 in
theorem ggX3_hold_X3_isFind : GoodIn wsX3_hold wsX3_isFind := goodIn_r _ [6, 7, 8, 9, 5, 10, 21, 22, 23, 24, 25, 26, 27, 28, 29, 30, 31, 32, 33, 34, 35, 36, 37, 38, 39, 40, 41, 42, 43, 44, 45, 46, 47, 48, 49, 50, 51, 52, 53, 54, 55, 56, 57, 58] (by decide +kernel) (by decide +kernel)
set_option maxRecDepth 20000 in
theorem gX3_hold_X3_isFind : GoodIn wsX3_hold (wsV RX3 149 RX3 yX3_isFind wsX3_isFind) := goodIn_app (goodIn_of _ (by decide +kernel)) ggX3_hold_X3_isFind
set_option maxRecDepth 20000 in
theorem ggX3_hold_X3_isHere : GoodIn wsX3_hold wsX3_isHere := goodIn_r _ [14, 15, 21, 22, 23, 24, 25, 26, 27, 28, 29, 30, 31, 32, 33, 34, 35, 36, 37, 38, 39, 40, 41, 42, 43, 44, 45, 46, 47, 48, 49, 50, 51, 52, 53, 54, 55, 56, 57, 58] (by decide +kernel) (by decide +kernel)
set_option maxRecDepth 20000 in
theorem gX3_hold_X3_isHere : GoodIn wsX3_hold (wsV RX3 152 RX3 yX3_isHere wsX3_isHere) := goodIn_app (goodIn_of _ (by decide +kernel)) ggX3_hold_X3_isHere
set_option maxRecDepth 20000 in
theorem ggX3_hold_X3_holds : GoodIn wsX3_hold wsX3_holds := goodIn_r _ [19, 20, 21, 22, 23, 24, 25, 26, 27, 28, 29, 30, 31, 32, 33, 34, 35, 36, 37, 38, 39, 40, 41, 42, 43, 44, 45, 46, 47, 48, 49, 50, 51, 52, 53, 54, 55, 56, 57, 58] (by decide +kernel) (by decide +kernel)
set_option maxRecDepth 20000 in
theorem gX3_hold_X3_holds : GoodIn wsX3_hold (wsV RX3 123 RX3 yX3_holds wsX3_holds) := goodIn_app (goodIn_of _ (by decide +kernel)) ggX3_hold_X3_holds
theorem dX3_hold_0 : decode cX3_hold 0 = .ok (.aload_n 0, 1) := by decide +kernel
theorem dX3_hold_1 : decode cX3_hold 1 = .ok (.iload_n 1, 1) := by decide +kernel
theorem dX3_hold_2 : decode cX3_hold 2 = .ok (.invokevirtual 149, 3) := by decide +kernel
theorem dX3_hold_5 : decode cX3_hold 5 = .ok (.istore_n 3, 1) := by decide +kernel
theorem dX3_hold_6 : decode cX3_hold 6 = .ok (.aload_n 0, 1) := by decide +kernel
theorem dX3_hold_7 : decode cX3_hold 7 = .ok (.iload_n 3, 1) := by decide +kernel
theorem dX3_hold_8 : decode cX3_hold 8 = .ok (.ifCond .ne 7, 3) := by decide +kernel
theorem dX3_hold_11 : decode cX3_hold 11 = .ok (.iconst 1, 1) := by decide +kernel
theorem dX3_hold_12 : decode cX3_hold 12 = .ok (.goto 16, 3) := by decide +kernel
theorem dX3_hold_15 : decode cX3_hold 15 = .ok (.aload_n 0, 1) := by decide +kernel
theorem dX3_hold_16 : decode cX3_hold 16 = .ok (.iload_n 1, 1) := by decide +kernel
theorem dX3_hold_17 : decode cX3_hold 17 = .ok (.invokevirtual 152, 3) := by decide +kernel
theorem dX3_hold_20 : decode cX3_hold 20 = .ok (.ifCond .eq 7, 3) := by decide +kernel
theorem dX3_hold_23 : decode cX3_hold 23 = .ok (.iconst 0, 1) := by decide +kernel
theorem dX3_hold_24 : decode cX3_hold 24 = .ok (.goto 4, 3) := by decide +kernel
theorem dX3_hold_27 : decode cX3_hold 27 = .ok (.iconst 2, 1) := by decide +kernel
theorem dX3_hold_28 : decode cX3_hold 28 = .ok (.invokevirtual 123, 3) := by decide +kernel
theorem dX3_hold_31 : decode cX3_hold 31 = .ok (.ifCond .ne 5, 3) := by decide +kernel
theorem dX3_hold_34 : decode cX3_hold 34 = .ok (.iconst 0, 1) := by decide +kernel
theorem dX3_hold_35 : decode cX3_hold 35 = .ok (.ireturn, 1) := by decide +kernel
theorem dX3_hold_36 : decode cX3_hold 36 = .ok (.aload_n 0, 1) := by decide +kernel
theorem dX3_hold_37 : decode cX3_hold 37 = .ok (.getfield 59, 3) := by decide +kernel
theorem dX3_hold_40 : decode cX3_hold 40 = .ok (.iload_n 1, 1) := by decide +kernel
theorem dX3_hold_41 : decode cX3_hold 41 = .ok (.baload, 1) := by decide +kernel
theorem dX3_hold_42 : decode cX3_hold 42 = .ok (.istore 4, 2) := by decide +kernel
theorem dX3_hold_44 : decode cX3_hold 44 = .ok (.aload_n 0, 1) := by decide +kernel
theorem dX3_hold_45 : decode cX3_hold 45 = .ok (.getfield 59, 3) := by decide +kernel
theorem dX3_hold_48 : decode cX3_hold 48 = .ok (.iload_n 1, 1) := by decide +kernel
theorem dX3_hold_49 : decode cX3_hold 49 = .ok (.iload_n 2, 1) := by decide +kernel
theorem dX3_hold_50 : decode cX3_hold 50 = .ok (.bastore, 1) := by decide +kernel
theorem dX3_hold_51 : decode cX3_hold 51 = .ok (.iload 4, 2) := by decide +kernel
theorem dX3_hold_53 : decode cX3_hold 53 = .ok (.ireturn, 1) := by decide +kernel
set_option maxRecDepth 20000 in
theorem ggX3_claim_X3_isKind : GoodIn wsX3_claim wsX3_isKind := goodIn_r _ [14, 15, 16, 13, 17] (by decide +kernel) (by decide +kernel)
set_option maxRecDepth 20000 in
theorem gX3_claim_X3_isKind : GoodIn wsX3_claim (va_wsS RX3 126 yX3_isKind wsX3_isKind) := goodIn_app (goodIn_of _ (by decide +kernel)) ggX3_claim_X3_isKind
set_option maxRecDepth 20000 in
theorem ggX3_claim_X3_isPlace : GoodIn wsX3_claim wsX3_isPlace := goodIn_r _ [20, 15, 16, 13, 17] (by decide +kernel) (by decide +kernel)
set_option maxRecDepth 20000 in
theorem gX3_claim_X3_isPlace : GoodIn wsX3_claim (va_wsS RX3 139 yX3_isPlace wsX3_isPlace) := goodIn_app (goodIn_of _ (by decide +kernel)) ggX3_claim_X3_isPlace
set_option maxRecDepth 20000 in
theorem ggX3_claim_X3_in : GoodIn wsX3_claim wsX3_in := goodIn_r _ [17] (by decide +kernel) (by decide +kernel)
set_option maxRecDepth 20000 in
theorem gX3_claim_X3_in : GoodIn wsX3_claim (va_wsS RX3 108 yX3_in wsX3_in) := goodIn_app (goodIn_of _ (by decide +kernel)) ggX3_claim_X3_in
set_option maxRecDepth 20000 in
theorem ggX3_claim_X3_isSet : GoodIn wsX3_claim wsX3_isSet := goodIn_r _ [23, 24, 15, 16, 13, 17] (by decide +kernel) (by decide +kernel)
set_option maxRecDepth 20000 in
theorem gX3_claim_X3_isSet : GoodIn wsX3_claim (va_wsS RX3 142 yX3_isSet wsX3_isSet) := goodIn_app (goodIn_of _ (by decide +kernel)) ggX3_claim_X3_isSet
set_option maxRecDepth 20000 in
theorem ggX3_claim_X3_holds : GoodIn wsX3_claim wsX3_holds := goodIn_r _ [28, 29, 30, 31, 32, 33, 34, 35, 36, 37, 38, 39, 40, 41, 42, 43, 44, 45, 46, 47, 48, 49, 50, 51, 52, 53, 54, 55, 56, 57, 58, 59, 60, 61, 62, 63, 64, 65, 66, 67] (by decide +kernel) (by decide +kernel)
set_option maxRecDepth 20000 in
theorem gX3_claim_X3_holds : GoodIn wsX3_claim (wsV RX3 123 RX3 yX3_holds wsX3_holds) := goodIn_app (goodIn_of _ (by decide +kernel)) ggX3_claim_X3_holds
theorem dX3_claim_0 : decode cX3_claim 0 = .ok (.iload_n 1, 1) := by decide +kernel
theorem dX3_claim_1 : decode cX3_claim 1 = .ok (.invokestatic 126, 3) := by decide +kernel
theorem dX3_claim_4 : decode cX3_claim 4 = .ok (.ifCond .eq 14, 3) := by decide +kernel
theorem dX3_claim_7 : decode cX3_claim 7 = .ok (.iload_n 2, 1) := by decide +kernel
theorem dX3_claim_8 : decode cX3_claim 8 = .ok (.invokestatic 139, 3) := by decide +kernel
theorem dX3_claim_11 : decode cX3_claim 11 = .ok (.ifCond .eq 7, 3) := by decide +kernel
theorem dX3_claim_14 : decode cX3_claim 14 = .ok (.iconst 1, 1) := by decide +kernel
theorem dX3_claim_15 : decode cX3_claim 15 = .ok (.goto 4, 3) := by decide +kernel
theorem dX3_claim_18 : decode cX3_claim 18 = .ok (.iconst 0, 1) := by decide +kernel
theorem dX3_claim_19 : decode cX3_claim 19 = .ok (.istore 6, 2) := by decide +kernel
theorem dX3_claim_21 : decode cX3_claim 21 = .ok (.iload_n 3, 1) := by decide +kernel
theorem dX3_claim_22 : decode cX3_claim 22 = .ok (.iconst 0, 1) := by decide +kernel
theorem dX3_claim_23 : decode cX3_claim 23 = .ok (.aload_n 0, 1) := by decide +kernel
theorem dX3_claim_24 : decode cX3_claim 24 = .ok (.getfield 136, 3) := by decide +kernel
theorem dX3_claim_27 : decode cX3_claim 27 = .ok (.invokestatic 108, 3) := by decide +kernel
theorem dX3_claim_30 : decode cX3_claim 30 = .ok (.ifCond .eq 28, 3) := by decide +kernel
theorem dX3_claim_33 : decode cX3_claim 33 = .ok (.iload 4, 2) := by decide +kernel
theorem dX3_claim_35 : decode cX3_claim 35 = .ok (.iload_n 3, 1) := by decide +kernel
theorem dX3_claim_36 : decode cX3_claim 36 = .ok (.aload_n 0, 1) := by decide +kernel
theorem dX3_claim_37 : decode cX3_claim 37 = .ok (.getfield 136, 3) := by decide +kernel
theorem dX3_claim_40 : decode cX3_claim 40 = .ok (.invokestatic 108, 3) := by decide +kernel
theorem dX3_claim_43 : decode cX3_claim 43 = .ok (.ifCond .eq 15, 3) := by decide +kernel
theorem dX3_claim_46 : decode cX3_claim 46 = .ok (.iload 5, 2) := by decide +kernel
theorem dX3_claim_48 : decode cX3_claim 48 = .ok (.invokestatic 142, 3) := by decide +kernel
theorem dX3_claim_51 : decode cX3_claim 51 = .ok (.ifCond .eq 7, 3) := by decide +kernel
theorem dX3_claim_54 : decode cX3_claim 54 = .ok (.iconst 1, 1) := by decide +kernel
theorem dX3_claim_55 : decode cX3_claim 55 = .ok (.goto 4, 3) := by decide +kernel
theorem dX3_claim_58 : decode cX3_claim 58 = .ok (.iconst 0, 1) := by decide +kernel
theorem dX3_claim_59 : decode cX3_claim 59 = .ok (.istore 7, 2) := by decide +kernel
theorem dX3_claim_61 : decode cX3_claim 61 = .ok (.aload_n 0, 1) := by decide +kernel
theorem dX3_claim_62 : decode cX3_claim 62 = .ok (.iload 6, 2) := by decide +kernel
theorem dX3_claim_64 : decode cX3_claim 64 = .ok (.ifCond .ne 7, 3) := by decide +kernel
theorem dX3_claim_67 : decode cX3_claim 67 = .ok (.iconst 1, 1) := by decide +kernel
theorem dX3_claim_68 : decode cX3_claim 68 = .ok (.goto 26, 3) := by decide +kernel
theorem dX3_claim_71 : decode cX3_claim 71 = .ok (.iload 7, 2) := by decide +kernel
theorem dX3_claim_73 : decode cX3_claim 73 = .ok (.ifCond .ne 7, 3) := by decide +kernel
theorem dX3_claim_76 : decode cX3_claim 76 = .ok (.iconst 2, 1) := by decide +kernel
theorem dX3_claim_77 : decode cX3_claim 77 = .ok (.goto 17, 3) := by decide +kernel
theorem dX3_claim_80 : decode cX3_claim 80 = .ok (.aload_n 0, 1) := by decide +kernel
theorem dX3_claim_81 : decode cX3_claim 81 = .ok (.getfield 116, 3) := by decide +kernel
theorem dX3_claim_84 : decode cX3_claim 84 = .ok (.bipush 20, 2) := by decide +kernel
theorem dX3_claim_86 : decode cX3_claim 86 = .ok (.if_icmp .ne 7, 3) := by decide +kernel
theorem dX3_claim_89 : decode cX3_claim 89 = .ok (.iconst 3, 1) := by decide +kernel
theorem dX3_claim_90 : decode cX3_claim 90 = .ok (.goto 4, 3) := by decide +kernel
theorem dX3_claim_93 : decode cX3_claim 93 = .ok (.iconst 0, 1) := by decide +kernel
theorem dX3_claim_94 : decode cX3_claim 94 = .ok (.invokevirtual 123, 3) := by decide +kernel
theorem dX3_claim_97 : decode cX3_claim 97 = .ok (.ifCond .ne 5, 3) := by decide +kernel
theorem dX3_claim_100 : decode cX3_claim 100 = .ok (.iconst 0, 1) := by decide +kernel
theorem dX3_claim_101 : decode cX3_claim 101 = .ok (.ireturn, 1) := by decide +kernel
theorem dX3_claim_102 : decode cX3_claim 102 = .ok (.aload_n 0, 1) := by decide +kernel
theorem dX3_claim_103 : decode cX3_claim 103 = .ok (.getfield 78, 3) := by decide +kernel
theorem dX3_claim_106 : decode cX3_claim 106 = .ok (.aload_n 0, 1) := by decide +kernel
theorem dX3_claim_107 : decode cX3_claim 107 = .ok (.getfield 116, 3) := by decide +kernel
theorem dX3_claim_110 : decode cX3_claim 110 = .ok (.iload_n 1, 1) := by decide +kernel
theorem dX3_claim_111 : decode cX3_claim 111 = .ok (.iastore, 1) := by decide +kernel
theorem dX3_claim_112 : decode cX3_claim 112 = .ok (.aload_n 0, 1) := by decide +kernel
theorem dX3_claim_113 : decode cX3_claim 113 = .ok (.getfield 81, 3) := by decide +kernel
theorem dX3_claim_116 : decode cX3_claim 116 = .ok (.aload_n 0, 1) := by decide +kernel
theorem dX3_claim_117 : decode cX3_claim 117 = .ok (.getfield 116, 3) := by decide +kernel
theorem dX3_claim_120 : decode cX3_claim 120 = .ok (.iload_n 2, 1) := by decide +kernel
theorem dX3_claim_121 : decode cX3_claim 121 = .ok (.iastore, 1) := by decide +kernel
theorem dX3_claim_122 : decode cX3_claim 122 = .ok (.aload_n 0, 1) := by decide +kernel
theorem dX3_claim_123 : decode cX3_claim 123 = .ok (.getfield 84, 3) := by decide +kernel
theorem dX3_claim_126 : decode cX3_claim 126 = .ok (.aload_n 0, 1) := by decide +kernel
theorem dX3_claim_127 : decode cX3_claim 127 = .ok (.getfield 116, 3) := by decide +kernel
theorem dX3_claim_130 : decode cX3_claim 130 = .ok (.iload_n 3, 1) := by decide +kernel
theorem dX3_claim_131 : decode cX3_claim 131 = .ok (.iastore, 1) := by decide +kernel
theorem dX3_claim_132 : decode cX3_claim 132 = .ok (.aload_n 0, 1) := by decide +kernel
theorem dX3_claim_133 : decode cX3_claim 133 = .ok (.getfield 87, 3) := by decide +kernel
theorem dX3_claim_136 : decode cX3_claim 136 = .ok (.aload_n 0, 1) := by decide +kernel
theorem dX3_claim_137 : decode cX3_claim 137 = .ok (.getfield 116, 3) := by decide +kernel
theorem dX3_claim_140 : decode cX3_claim 140 = .ok (.iload 4, 2) := by decide +kernel
theorem dX3_claim_142 : decode cX3_claim 142 = .ok (.iastore, 1) := by decide +kernel
theorem dX3_claim_143 : decode cX3_claim 143 = .ok (.aload_n 0, 1) := by decide +kernel
theorem dX3_claim_144 : decode cX3_claim 144 = .ok (.getfield 90, 3) := by decide +kernel
theorem dX3_claim_147 : decode cX3_claim 147 = .ok (.aload_n 0, 1) := by decide +kernel
theorem dX3_claim_148 : decode cX3_claim 148 = .ok (.getfield 116, 3) := by decide +kernel
theorem dX3_claim_151 : decode cX3_claim 151 = .ok (.iload 5, 2) := by decide +kernel
theorem dX3_claim_153 : decode cX3_claim 153 = .ok (.iastore, 1) := by decide +kernel
theorem dX3_claim_154 : decode cX3_claim 154 = .ok (.aload_n 0, 1) := by decide +kernel
theorem dX3_claim_155 : decode cX3_claim 155 = .ok (.getfield 93, 3) := by decide +kernel
theorem dX3_claim_158 : decode cX3_claim 158 = .ok (.aload_n 0, 1) := by decide +kernel
theorem dX3_claim_159 : decode cX3_claim 159 = .ok (.getfield 116, 3) := by decide +kernel
theorem dX3_claim_162 : decode cX3_claim 162 = .ok (.iconst 0, 1) := by decide +kernel
theorem dX3_claim_163 : decode cX3_claim 163 = .ok (.iastore, 1) := by decide +kernel
theorem dX3_claim_164 : decode cX3_claim 164 = .ok (.aload_n 0, 1) := by decide +kernel
theorem dX3_claim_165 : decode cX3_claim 165 = .ok (.getfield 96, 3) := by decide +kernel
theorem dX3_claim_168 : decode cX3_claim 168 = .ok (.aload_n 0, 1) := by decide +kernel
theorem dX3_claim_169 : decode cX3_claim 169 = .ok (.getfield 116, 3) := by decide +kernel
theorem dX3_claim_172 : decode cX3_claim 172 = .ok (.iconst 0, 1) := by decide +kernel
theorem dX3_claim_173 : decode cX3_claim 173 = .ok (.iastore, 1) := by decide +kernel
theorem dX3_claim_174 : decode cX3_claim 174 = .ok (.aload_n 0, 1) := by decide +kernel
theorem dX3_claim_175 : decode cX3_claim 175 = .ok (.getfield 102, 3) := by decide +kernel
theorem dX3_claim_178 : decode cX3_claim 178 = .ok (.aload_n 0, 1) := by decide +kernel
theorem dX3_claim_179 : decode cX3_claim 179 = .ok (.getfield 116, 3) := by decide +kernel
theorem dX3_claim_182 : decode cX3_claim 182 = .ok (.iconst (-1), 1) := by decide +kernel
theorem dX3_claim_183 : decode cX3_claim 183 = .ok (.iastore, 1) := by decide +kernel
theorem dX3_claim_184 : decode cX3_claim 184 = .ok (.aload_n 0, 1) := by decide +kernel
theorem dX3_claim_185 : decode cX3_claim 185 = .ok (.dup, 1) := by decide +kernel
theorem dX3_claim_186 : decode cX3_claim 186 = .ok (.getfield 116, 3) := by decide +kernel
theorem dX3_claim_189 : decode cX3_claim 189 = .ok (.iconst 1, 1) := by decide +kernel
theorem dX3_claim_190 : decode cX3_claim 190 = .ok (.iadd, 1) := by decide +kernel
theorem dX3_claim_191 : decode cX3_claim 191 = .ok (.putfield 116, 3) := by decide +kernel
theorem dX3_claim_194 : decode cX3_claim 194 = .ok (.aload_n 0, 1) := by decide +kernel
theorem dX3_claim_195 : decode cX3_claim 195 = .ok (.getfield 116, 3) := by decide +kernel
theorem dX3_claim_198 : decode cX3_claim 198 = .ok (.iconst 1, 1) := by decide +kernel
theorem dX3_claim_199 : decode cX3_claim 199 = .ok (.isub, 1) := by decide +kernel
theorem dX3_claim_200 : decode cX3_claim 200 = .ok (.ireturn, 1) := by decide +kernel
set_option maxRecDepth 20000 in
theorem ggX3_errorOfWords_X3_isClaim : GoodIn wsX3_errorOfWords wsX3_isClaim := goodIn_r _ [6, 7, 8, 9, 5, 10, 15, 16, 17, 18, 19, 20, 21, 22, 23, 24, 25, 26, 27, 28, 29, 30, 31, 32, 33, 34, 35, 36, 37, 38, 39, 40, 41, 42, 43, 44, 45, 46, 47, 48, 49, 50, 51, 52] (by decide +kernel) (by decide +kernel)
set_option maxRecDepth 20000 in
theorem gX3_errorOfWords_X3_isClaim : GoodIn wsX3_errorOfWords (wsV RX3 155 RX3 yX3_isClaim wsX3_isClaim) := goodIn_app (goodIn_of _ (by decide +kernel)) ggX3_errorOfWords_X3_isClaim
set_option maxRecDepth 20000 in
theorem ggX3_errorOfWords_X3_isSet : GoodIn wsX3_errorOfWords wsX3_isSet := goodIn_r _ [13, 14, 8, 9, 5, 10] (by decide +kernel) (by decide +kernel)
set_option maxRecDepth 20000 in
theorem gX3_errorOfWords_X3_isSet : GoodIn wsX3_errorOfWords (va_wsS RX3 142 yX3_isSet wsX3_isSet) := goodIn_app (goodIn_of _ (by decide +kernel)) ggX3_errorOfWords_X3_isSet
theorem dX3_errorOfWords_0 : decode cX3_errorOfWords 0 = .ok (.aload_n 0, 1) := by decide +kernel
theorem dX3_errorOfWords_1 : decode cX3_errorOfWords 1 = .ok (.iload_n 1, 1) := by decide +kernel
theorem dX3_errorOfWords_2 : decode cX3_errorOfWords 2 = .ok (.invokevirtual 155, 3) := by decide +kernel
theorem dX3_errorOfWords_5 : decode cX3_errorOfWords 5 = .ok (.ifCond .ne 5, 3) := by decide +kernel
theorem dX3_errorOfWords_8 : decode cX3_errorOfWords 8 = .ok (.iconst 1, 1) := by decide +kernel
theorem dX3_errorOfWords_9 : decode cX3_errorOfWords 9 = .ok (.ireturn, 1) := by decide +kernel
theorem dX3_errorOfWords_10 : decode cX3_errorOfWords 10 = .ok (.iload_n 2, 1) := by decide +kernel
theorem dX3_errorOfWords_11 : decode cX3_errorOfWords 11 = .ok (.invokestatic 142, 3) := by decide +kernel
theorem dX3_errorOfWords_14 : decode cX3_errorOfWords 14 = .ok (.ifCond .ne 7, 3) := by decide +kernel
theorem dX3_errorOfWords_17 : decode cX3_errorOfWords 17 = .ok (.iconst 2, 1) := by decide +kernel
theorem dX3_errorOfWords_18 : decode cX3_errorOfWords 18 = .ok (.goto 17, 3) := by decide +kernel
theorem dX3_errorOfWords_21 : decode cX3_errorOfWords 21 = .ok (.aload_n 0, 1) := by decide +kernel
theorem dX3_errorOfWords_22 : decode cX3_errorOfWords 22 = .ok (.getfield 96, 3) := by decide +kernel
theorem dX3_errorOfWords_25 : decode cX3_errorOfWords 25 = .ok (.iload_n 1, 1) := by decide +kernel
theorem dX3_errorOfWords_26 : decode cX3_errorOfWords 26 = .ok (.iaload, 1) := by decide +kernel
theorem dX3_errorOfWords_27 : decode cX3_errorOfWords 27 = .ok (.ifCond .eq 7, 3) := by decide +kernel
theorem dX3_errorOfWords_30 : decode cX3_errorOfWords 30 = .ok (.iconst 3, 1) := by decide +kernel
theorem dX3_errorOfWords_31 : decode cX3_errorOfWords 31 = .ok (.goto 4, 3) := by decide +kernel
theorem dX3_errorOfWords_34 : decode cX3_errorOfWords 34 = .ok (.iconst 0, 1) := by decide +kernel
theorem dX3_errorOfWords_35 : decode cX3_errorOfWords 35 = .ok (.ireturn, 1) := by decide +kernel
set_option maxRecDepth 20000 in
theorem ggX3_say_X3_errorOfWords : GoodIn wsX3_say wsX3_errorOfWords := goodIn_r _ [6, 7, 8, 9, 10, 5, 11, 12, 13, 14, 15, 16, 17, 18, 19, 28, 29, 30, 31, 32, 33, 34, 35, 36, 37, 38, 39, 40, 41, 42, 43, 44, 45, 46, 47, 48, 49, 50, 51, 52, 53, 54, 55, 56, 57, 58, 59, 60, 61, 62, 63, 64, 65] (by decide +kernel) (by decide +kernel)
set_option maxRecDepth 20000 in
theorem gX3_say_X3_errorOfWords : GoodIn wsX3_say (wsV RX3 158 RX3 yX3_errorOfWords wsX3_errorOfWords) := goodIn_app (goodIn_of _ (by decide +kernel)) ggX3_say_X3_errorOfWords
set_option maxRecDepth 20000 in
theorem ggX3_say_X3_holds : GoodIn wsX3_say wsX3_holds := goodIn_r _ [23, 24, 28, 29, 30, 31, 32, 33, 34, 35, 36, 37, 38, 39, 40, 41, 42, 43, 44, 45, 46, 47, 48, 49, 50, 51, 52, 53, 54, 55, 56, 57, 58, 59, 60, 61, 62, 63, 64, 65] (by decide +kernel) (by decide +kernel)
set_option maxRecDepth 20000 in
theorem gX3_say_X3_holds : GoodIn wsX3_say (wsV RX3 123 RX3 yX3_holds wsX3_holds) := goodIn_app (goodIn_of _ (by decide +kernel)) ggX3_say_X3_holds
set_option maxRecDepth 20000 in
theorem ggX3_say_X3_bits : GoodIn wsX3_say wsX3_bits := goodIn_r _ [27] (by decide +kernel) (by decide +kernel)
set_option maxRecDepth 20000 in
theorem gX3_say_X3_bits : GoodIn wsX3_say (va_wsS RX3 132 yX3_bits wsX3_bits) := goodIn_app (goodIn_of _ (by decide +kernel)) ggX3_say_X3_bits
theorem dX3_say_0 : decode cX3_say 0 = .ok (.aload_n 0, 1) := by decide +kernel
theorem dX3_say_1 : decode cX3_say 1 = .ok (.aload_n 0, 1) := by decide +kernel
theorem dX3_say_2 : decode cX3_say 2 = .ok (.iload_n 1, 1) := by decide +kernel
theorem dX3_say_3 : decode cX3_say 3 = .ok (.iload_n 2, 1) := by decide +kernel
theorem dX3_say_4 : decode cX3_say 4 = .ok (.invokevirtual 158, 3) := by decide +kernel
theorem dX3_say_7 : decode cX3_say 7 = .ok (.invokevirtual 123, 3) := by decide +kernel
theorem dX3_say_10 : decode cX3_say 10 = .ok (.ifCond .ne 5, 3) := by decide +kernel
theorem dX3_say_13 : decode cX3_say 13 = .ok (.iconst 0, 1) := by decide +kernel
theorem dX3_say_14 : decode cX3_say 14 = .ok (.ireturn, 1) := by decide +kernel
theorem dX3_say_15 : decode cX3_say 15 = .ok (.aload_n 0, 1) := by decide +kernel
theorem dX3_say_16 : decode cX3_say 16 = .ok (.getfield 90, 3) := by decide +kernel
theorem dX3_say_19 : decode cX3_say 19 = .ok (.iload_n 1, 1) := by decide +kernel
theorem dX3_say_20 : decode cX3_say 20 = .ok (.dup2, 1) := by decide +kernel
theorem dX3_say_21 : decode cX3_say 21 = .ok (.iaload, 1) := by decide +kernel
theorem dX3_say_22 : decode cX3_say 22 = .ok (.iload_n 2, 1) := by decide +kernel
theorem dX3_say_23 : decode cX3_say 23 = .ok (.ior, 1) := by decide +kernel
theorem dX3_say_24 : decode cX3_say 24 = .ok (.iastore, 1) := by decide +kernel
theorem dX3_say_25 : decode cX3_say 25 = .ok (.aload_n 0, 1) := by decide +kernel
theorem dX3_say_26 : decode cX3_say 26 = .ok (.getfield 90, 3) := by decide +kernel
theorem dX3_say_29 : decode cX3_say 29 = .ok (.iload_n 1, 1) := by decide +kernel
theorem dX3_say_30 : decode cX3_say 30 = .ok (.iaload, 1) := by decide +kernel
theorem dX3_say_31 : decode cX3_say 31 = .ok (.invokestatic 132, 3) := by decide +kernel
theorem dX3_say_34 : decode cX3_say 34 = .ok (.ireturn, 1) := by decide +kernel
set_option maxRecDepth 20000 in
theorem ggX3_tell_X3_errorOfWords : GoodIn wsX3_tell wsX3_errorOfWords := goodIn_r _ [7, 8, 9, 10, 11, 6, 12, 13, 14, 15, 16, 17, 18, 19, 20, 29, 30, 31, 32, 33, 34, 35, 36, 37, 38, 39, 40, 41, 42, 43, 44, 45, 46, 47, 48, 49, 50, 51, 52, 53, 54, 55, 56, 57, 58, 59, 60, 61, 62, 63, 64, 65, 66] (by decide +kernel) (by decide +kernel)
set_option maxRecDepth 20000 in
theorem gX3_tell_X3_errorOfWords : GoodIn wsX3_tell (wsV RX3 158 RX3 yX3_errorOfWords wsX3_errorOfWords) := goodIn_app (goodIn_of _ (by decide +kernel)) ggX3_tell_X3_errorOfWords
set_option maxRecDepth 20000 in
theorem ggX3_tell_X3_holds : GoodIn wsX3_tell wsX3_holds := goodIn_r _ [24, 25, 29, 30, 31, 32, 33, 34, 35, 36, 37, 38, 39, 40, 41, 42, 43, 44, 45, 46, 47, 48, 49, 50, 51, 52, 53, 54, 55, 56, 57, 58, 59, 60, 61, 62, 63, 64, 65, 66] (by decide +kernel) (by decide +kernel)
set_option maxRecDepth 20000 in
theorem gX3_tell_X3_holds : GoodIn wsX3_tell (wsV RX3 123 RX3 yX3_holds wsX3_holds) := goodIn_app (goodIn_of _ (by decide +kernel)) ggX3_tell_X3_holds
set_option maxRecDepth 20000 in
theorem ggX3_tell_X3_bits : GoodIn wsX3_tell wsX3_bits := goodIn_r _ [28] (by decide +kernel) (by decide +kernel)
set_option maxRecDepth 20000 in
theorem gX3_tell_X3_bits : GoodIn wsX3_tell (va_wsS RX3 132 yX3_bits wsX3_bits) := goodIn_app (goodIn_of _ (by decide +kernel)) ggX3_tell_X3_bits
theorem dX3_tell_0 : decode cX3_tell 0 = .ok (.aload_n 0, 1) := by decide +kernel
theorem dX3_tell_1 : decode cX3_tell 1 = .ok (.aload_n 0, 1) := by decide +kernel
theorem dX3_tell_2 : decode cX3_tell 2 = .ok (.iload_n 1, 1) := by decide +kernel
theorem dX3_tell_3 : decode cX3_tell 3 = .ok (.iload_n 2, 1) := by decide +kernel
theorem dX3_tell_4 : decode cX3_tell 4 = .ok (.invokevirtual 158, 3) := by decide +kernel
theorem dX3_tell_7 : decode cX3_tell 7 = .ok (.invokevirtual 123, 3) := by decide +kernel
theorem dX3_tell_10 : decode cX3_tell 10 = .ok (.ifCond .ne 5, 3) := by decide +kernel
theorem dX3_tell_13 : decode cX3_tell 13 = .ok (.iconst 0, 1) := by decide +kernel
theorem dX3_tell_14 : decode cX3_tell 14 = .ok (.ireturn, 1) := by decide +kernel
theorem dX3_tell_15 : decode cX3_tell 15 = .ok (.aload_n 0, 1) := by decide +kernel
theorem dX3_tell_16 : decode cX3_tell 16 = .ok (.getfield 90, 3) := by decide +kernel
theorem dX3_tell_19 : decode cX3_tell 19 = .ok (.iload_n 1, 1) := by decide +kernel
theorem dX3_tell_20 : decode cX3_tell 20 = .ok (.dup2, 1) := by decide +kernel
theorem dX3_tell_21 : decode cX3_tell 21 = .ok (.iaload, 1) := by decide +kernel
theorem dX3_tell_22 : decode cX3_tell 22 = .ok (.iload_n 2, 1) := by decide +kernel
theorem dX3_tell_23 : decode cX3_tell 23 = .ok (.ior, 1) := by decide +kernel
theorem dX3_tell_24 : decode cX3_tell 24 = .ok (.iastore, 1) := by decide +kernel
theorem dX3_tell_25 : decode cX3_tell 25 = .ok (.aload_n 0, 1) := by decide +kernel
theorem dX3_tell_26 : decode cX3_tell 26 = .ok (.getfield 93, 3) := by decide +kernel
theorem dX3_tell_29 : decode cX3_tell 29 = .ok (.iload_n 1, 1) := by decide +kernel
theorem dX3_tell_30 : decode cX3_tell 30 = .ok (.dup2, 1) := by decide +kernel
theorem dX3_tell_31 : decode cX3_tell 31 = .ok (.iaload, 1) := by decide +kernel
theorem dX3_tell_32 : decode cX3_tell 32 = .ok (.iload_n 2, 1) := by decide +kernel
theorem dX3_tell_33 : decode cX3_tell 33 = .ok (.ior, 1) := by decide +kernel
theorem dX3_tell_34 : decode cX3_tell 34 = .ok (.iastore, 1) := by decide +kernel
theorem dX3_tell_35 : decode cX3_tell 35 = .ok (.aload_n 0, 1) := by decide +kernel
theorem dX3_tell_36 : decode cX3_tell 36 = .ok (.getfield 93, 3) := by decide +kernel
theorem dX3_tell_39 : decode cX3_tell 39 = .ok (.iload_n 1, 1) := by decide +kernel
theorem dX3_tell_40 : decode cX3_tell 40 = .ok (.iaload, 1) := by decide +kernel
theorem dX3_tell_41 : decode cX3_tell 41 = .ok (.invokestatic 132, 3) := by decide +kernel
theorem dX3_tell_44 : decode cX3_tell 44 = .ok (.ireturn, 1) := by decide +kernel
theorem dX3_ends_0 : decode cX3_ends 0 = .ok (.aload_n 0, 1) := by decide +kernel
theorem dX3_ends_1 : decode cX3_ends 1 = .ok (.getfield 96, 3) := by decide +kernel
theorem dX3_ends_4 : decode cX3_ends 4 = .ok (.iload_n 1, 1) := by decide +kernel
theorem dX3_ends_5 : decode cX3_ends 5 = .ok (.iload_n 2, 1) := by decide +kernel
theorem dX3_ends_6 : decode cX3_ends 6 = .ok (.iastore, 1) := by decide +kernel
theorem dX3_ends_7 : decode cX3_ends 7 = .ok (.aload_n 0, 1) := by decide +kernel
theorem dX3_ends_8 : decode cX3_ends 8 = .ok (.getfield 99, 3) := by decide +kernel
theorem dX3_ends_11 : decode cX3_ends 11 = .ok (.iload_n 1, 1) := by decide +kernel
theorem dX3_ends_12 : decode cX3_ends 12 = .ok (.aload_n 0, 1) := by decide +kernel
theorem dX3_ends_13 : decode cX3_ends 13 = .ok (.getfield 136, 3) := by decide +kernel
theorem dX3_ends_16 : decode cX3_ends 16 = .ok (.iastore, 1) := by decide +kernel
theorem dX3_ends_17 : decode cX3_ends 17 = .ok (.aload_n 0, 1) := by decide +kernel
theorem dX3_ends_18 : decode cX3_ends 18 = .ok (.getfield 102, 3) := by decide +kernel
theorem dX3_ends_21 : decode cX3_ends 21 = .ok (.iload_n 1, 1) := by decide +kernel
theorem dX3_ends_22 : decode cX3_ends 22 = .ok (.iload_n 3, 1) := by decide +kernel
theorem dX3_ends_23 : decode cX3_ends 23 = .ok (.iastore, 1) := by decide +kernel
theorem dX3_ends_24 : decode cX3_ends 24 = .ok (.return_, 1) := by decide +kernel
set_option maxRecDepth 20000 in
theorem ggX3_withdraw_X3_isClaim : GoodIn wsX3_withdraw wsX3_isClaim := goodIn_r _ [7, 8, 9, 10, 6, 11, 23, 24, 25, 26, 27, 28, 29, 30, 31, 32, 33, 34, 35, 36, 37, 38, 39, 40, 41, 42, 43, 44, 45, 46, 47, 48, 49, 50, 51, 52, 53, 54, 55, 56, 57, 58, 59, 60] (by decide +kernel) (by decide +kernel)
set_option maxRecDepth 20000 in
theorem gX3_withdraw_X3_isClaim : GoodIn wsX3_withdraw (wsV RX3 155 RX3 yX3_isClaim wsX3_isClaim) := goodIn_app (goodIn_of _ (by decide +kernel)) ggX3_withdraw_X3_isClaim
set_option maxRecDepth 20000 in
theorem ggX3_withdraw_X3_holds : GoodIn wsX3_withdraw wsX3_holds := goodIn_r _ [15, 16, 23, 24, 25, 26, 27, 28, 29, 30, 31, 32, 33, 34, 35, 36, 37, 38, 39, 40, 41, 42, 43, 44, 45, 46, 47, 48, 49, 50, 51, 52, 53, 54, 55, 56, 57, 58, 59, 60] (by decide +kernel) (by decide +kernel)
set_option maxRecDepth 20000 in
theorem gX3_withdraw_X3_holds : GoodIn wsX3_withdraw (wsV RX3 123 RX3 yX3_holds wsX3_holds) := goodIn_app (goodIn_of _ (by decide +kernel)) ggX3_withdraw_X3_holds
set_option maxRecDepth 20000 in
theorem ggX3_withdraw_X3_ends : GoodIn wsX3_withdraw wsX3_ends := goodIn_r _ [20, 1, 21, 2, 22, 23, 24, 25, 26, 27, 28, 29, 30, 31, 32, 33, 34, 35, 36, 37, 38, 39, 40, 41, 42, 43, 44, 45, 46, 47, 48, 49, 50, 51, 52, 53, 54, 55, 56, 57, 58, 59, 60] (by decide +kernel) (by decide +kernel)
set_option maxRecDepth 20000 in
theorem gX3_withdraw_X3_ends : GoodIn wsX3_withdraw (wsV RX3 162 RX3 yX3_ends wsX3_ends) := goodIn_app (goodIn_of _ (by decide +kernel)) ggX3_withdraw_X3_ends
theorem dX3_withdraw_0 : decode cX3_withdraw 0 = .ok (.aload_n 0, 1) := by decide +kernel
theorem dX3_withdraw_1 : decode cX3_withdraw 1 = .ok (.iload_n 1, 1) := by decide +kernel
theorem dX3_withdraw_2 : decode cX3_withdraw 2 = .ok (.invokevirtual 155, 3) := by decide +kernel
theorem dX3_withdraw_5 : decode cX3_withdraw 5 = .ok (.istore_n 2, 1) := by decide +kernel
theorem dX3_withdraw_6 : decode cX3_withdraw 6 = .ok (.aload_n 0, 1) := by decide +kernel
theorem dX3_withdraw_7 : decode cX3_withdraw 7 = .ok (.iload_n 2, 1) := by decide +kernel
theorem dX3_withdraw_8 : decode cX3_withdraw 8 = .ok (.ifCond .ne 7, 3) := by decide +kernel
theorem dX3_withdraw_11 : decode cX3_withdraw 11 = .ok (.iconst 1, 1) := by decide +kernel
theorem dX3_withdraw_12 : decode cX3_withdraw 12 = .ok (.goto 17, 3) := by decide +kernel
theorem dX3_withdraw_15 : decode cX3_withdraw 15 = .ok (.aload_n 0, 1) := by decide +kernel
theorem dX3_withdraw_16 : decode cX3_withdraw 16 = .ok (.getfield 96, 3) := by decide +kernel
theorem dX3_withdraw_19 : decode cX3_withdraw 19 = .ok (.iload_n 1, 1) := by decide +kernel
theorem dX3_withdraw_20 : decode cX3_withdraw 20 = .ok (.iaload, 1) := by decide +kernel
theorem dX3_withdraw_21 : decode cX3_withdraw 21 = .ok (.ifCond .eq 7, 3) := by decide +kernel
theorem dX3_withdraw_24 : decode cX3_withdraw 24 = .ok (.iconst 2, 1) := by decide +kernel
theorem dX3_withdraw_25 : decode cX3_withdraw 25 = .ok (.goto 4, 3) := by decide +kernel
theorem dX3_withdraw_28 : decode cX3_withdraw 28 = .ok (.iconst 0, 1) := by decide +kernel
theorem dX3_withdraw_29 : decode cX3_withdraw 29 = .ok (.invokevirtual 123, 3) := by decide +kernel
theorem dX3_withdraw_32 : decode cX3_withdraw 32 = .ok (.ifCond .ne 5, 3) := by decide +kernel
theorem dX3_withdraw_35 : decode cX3_withdraw 35 = .ok (.iconst 0, 1) := by decide +kernel
theorem dX3_withdraw_36 : decode cX3_withdraw 36 = .ok (.ireturn, 1) := by decide +kernel
theorem dX3_withdraw_37 : decode cX3_withdraw 37 = .ok (.aload_n 0, 1) := by decide +kernel
theorem dX3_withdraw_38 : decode cX3_withdraw 38 = .ok (.iload_n 1, 1) := by decide +kernel
theorem dX3_withdraw_39 : decode cX3_withdraw 39 = .ok (.iconst 2, 1) := by decide +kernel
theorem dX3_withdraw_40 : decode cX3_withdraw 40 = .ok (.iconst (-1), 1) := by decide +kernel
theorem dX3_withdraw_41 : decode cX3_withdraw 41 = .ok (.invokevirtual 162, 3) := by decide +kernel
theorem dX3_withdraw_44 : decode cX3_withdraw 44 = .ok (.aload_n 0, 1) := by decide +kernel
theorem dX3_withdraw_45 : decode cX3_withdraw 45 = .ok (.getfield 136, 3) := by decide +kernel
theorem dX3_withdraw_48 : decode cX3_withdraw 48 = .ok (.ireturn, 1) := by decide +kernel
theorem dX3_roomsOf_0 : decode cX3_roomsOf 0 = .ok (.iload_n 1, 1) := by decide +kernel
theorem dX3_roomsOf_1 : decode cX3_roomsOf 1 = .ok (.bipush 6, 2) := by decide +kernel
theorem dX3_roomsOf_3 : decode cX3_roomsOf 3 = .ok (.if_icmp .ge 9, 3) := by decide +kernel
theorem dX3_roomsOf_6 : decode cX3_roomsOf 6 = .ok (.iconst 1, 1) := by decide +kernel
theorem dX3_roomsOf_7 : decode cX3_roomsOf 7 = .ok (.iload_n 1, 1) := by decide +kernel
theorem dX3_roomsOf_8 : decode cX3_roomsOf 8 = .ok (.ishl, 1) := by decide +kernel
theorem dX3_roomsOf_9 : decode cX3_roomsOf 9 = .ok (.goto 12, 3) := by decide +kernel
theorem dX3_roomsOf_12 : decode cX3_roomsOf 12 = .ok (.aload_n 0, 1) := by decide +kernel
theorem dX3_roomsOf_13 : decode cX3_roomsOf 13 = .ok (.getfield 22, 3) := by decide +kernel
theorem dX3_roomsOf_16 : decode cX3_roomsOf 16 = .ok (.iload_n 1, 1) := by decide +kernel
