theorem dX3_isDue_21 : decode cX3_isDue 21 = .ok (.iload_n 1, 1) := by decide +kernel
theorem dX3_isDue_22 : decode cX3_isDue 22 = .ok (.invokevirtual 191, 3) := by decide +kernel
theorem dX3_isDue_25 : decode cX3_isDue 25 = .ok (.ifCond .eq 7, 3) := by decide +kernel
theorem dX3_isDue_28 : decode cX3_isDue 28 = .ok (.iconst 1, 1) := by decide +kernel
theorem dX3_isDue_29 : decode cX3_isDue 29 = .ok (.goto 4, 3) := by decide +kernel
theorem dX3_isDue_32 : decode cX3_isDue 32 = .ok (.iconst 0, 1) := by decide +kernel
theorem dX3_isDue_33 : decode cX3_isDue 33 = .ok (.ireturn, 1) := by decide +kernel
set_option maxRecDepth 20000 in
theorem ggX3_ofFind_X3_isFind : GoodIn wsX3_ofFind wsX3_isFind := goodIn_r _ [11, 12, 13, 14, 10, 15, 21, 22, 23, 24, 25, 26, 27, 28, 29, 30, 31, 32, 33, 34, 35, 36, 37, 38, 39, 40, 41, 42, 43, 44, 45, 46, 47, 48, 49, 50, 51, 52, 53, 54, 55, 56, 57, 58] (by decide +kernel) (by decide +kernel)
set_option maxRecDepth 20000 in
theorem gX3_ofFind_X3_isFind : GoodIn wsX3_ofFind (wsV RX3 149 RX3 yX3_isFind wsX3_isFind) := goodIn_app (goodIn_of _ (by decide +kernel)) ggX3_ofFind_X3_isFind
set_option maxRecDepth 20000 in
theorem ggX3_ofFind_X3_in : GoodIn wsX3_ofFind wsX3_in := goodIn_r _ [15] (by decide +kernel) (by decide +kernel)
set_option maxRecDepth 20000 in
theorem gX3_ofFind_X3_in : GoodIn wsX3_ofFind (va_wsS RX3 108 yX3_in wsX3_in) := goodIn_app (goodIn_of _ (by decide +kernel)) ggX3_ofFind_X3_in
set_option maxRecDepth 20000 in
theorem ggX3_ofFind_X3_holds : GoodIn wsX3_ofFind wsX3_holds := goodIn_r _ [19, 20, 21, 22, 23, 24, 25, 26, 27, 28, 29, 30, 31, 32, 33, 34, 35, 36, 37, 38, 39, 40, 41, 42, 43, 44, 45, 46, 47, 48, 49, 50, 51, 52, 53, 54, 55, 56, 57, 58] (by decide +kernel) (by decide +kernel)
set_option maxRecDepth 20000 in
theorem gX3_ofFind_X3_holds : GoodIn wsX3_ofFind (wsV RX3 123 RX3 yX3_holds wsX3_holds) := goodIn_app (goodIn_of _ (by decide +kernel)) ggX3_ofFind_X3_holds
theorem dX3_ofFind_0 : decode cX3_ofFind 0 = .ok (.aload_n 0, 1) := by decide +kernel
theorem dX3_ofFind_1 : decode cX3_ofFind 1 = .ok (.aload_n 0, 1) := by decide +kernel
theorem dX3_ofFind_2 : decode cX3_ofFind 2 = .ok (.iload_n 1, 1) := by decide +kernel
theorem dX3_ofFind_3 : decode cX3_ofFind 3 = .ok (.invokevirtual 149, 3) := by decide +kernel
theorem dX3_ofFind_6 : decode cX3_ofFind 6 = .ok (.ifCond .ne 7, 3) := by decide +kernel
theorem dX3_ofFind_9 : decode cX3_ofFind 9 = .ok (.iconst 1, 1) := by decide +kernel
theorem dX3_ofFind_10 : decode cX3_ofFind 10 = .ok (.goto 17, 3) := by decide +kernel
theorem dX3_ofFind_13 : decode cX3_ofFind 13 = .ok (.iload_n 2, 1) := by decide +kernel
theorem dX3_ofFind_14 : decode cX3_ofFind 14 = .ok (.iconst 0, 1) := by decide +kernel
theorem dX3_ofFind_15 : decode cX3_ofFind 15 = .ok (.iconst 4, 1) := by decide +kernel
theorem dX3_ofFind_16 : decode cX3_ofFind 16 = .ok (.invokestatic 108, 3) := by decide +kernel
theorem dX3_ofFind_19 : decode cX3_ofFind 19 = .ok (.ifCond .eq 7, 3) := by decide +kernel
theorem dX3_ofFind_22 : decode cX3_ofFind 22 = .ok (.iconst 0, 1) := by decide +kernel
theorem dX3_ofFind_23 : decode cX3_ofFind 23 = .ok (.goto 4, 3) := by decide +kernel
theorem dX3_ofFind_26 : decode cX3_ofFind 26 = .ok (.iconst 2, 1) := by decide +kernel
theorem dX3_ofFind_27 : decode cX3_ofFind 27 = .ok (.invokevirtual 123, 3) := by decide +kernel
theorem dX3_ofFind_30 : decode cX3_ofFind 30 = .ok (.ifCond .ne 5, 3) := by decide +kernel
theorem dX3_ofFind_33 : decode cX3_ofFind 33 = .ok (.iconst 0, 1) := by decide +kernel
theorem dX3_ofFind_34 : decode cX3_ofFind 34 = .ok (.ireturn, 1) := by decide +kernel
theorem dX3_ofFind_35 : decode cX3_ofFind 35 = .ok (.iload_n 2, 1) := by decide +kernel
theorem dX3_ofFind_36 : decode cX3_ofFind 36 = .ok (.tableswitch 89 0 3 #[32, 39, 75, 82], 32) := by decide +kernel
theorem dX3_ofFind_68 : decode cX3_ofFind 68 = .ok (.aload_n 0, 1) := by decide +kernel
theorem dX3_ofFind_69 : decode cX3_ofFind 69 = .ok (.getfield 47, 3) := by decide +kernel
theorem dX3_ofFind_72 : decode cX3_ofFind 72 = .ok (.iload_n 1, 1) := by decide +kernel
theorem dX3_ofFind_73 : decode cX3_ofFind 73 = .ok (.iaload, 1) := by decide +kernel
theorem dX3_ofFind_74 : decode cX3_ofFind 74 = .ok (.ireturn, 1) := by decide +kernel
theorem dX3_ofFind_75 : decode cX3_ofFind 75 = .ok (.aload_n 0, 1) := by decide +kernel
theorem dX3_ofFind_76 : decode cX3_ofFind 76 = .ok (.getfield 47, 3) := by decide +kernel
theorem dX3_ofFind_79 : decode cX3_ofFind 79 = .ok (.iload_n 1, 1) := by decide +kernel
theorem dX3_ofFind_80 : decode cX3_ofFind 80 = .ok (.iaload, 1) := by decide +kernel
theorem dX3_ofFind_81 : decode cX3_ofFind 81 = .ok (.iconst 1, 1) := by decide +kernel
theorem dX3_ofFind_82 : decode cX3_ofFind 82 = .ok (.if_icmp .eq 13, 3) := by decide +kernel
theorem dX3_ofFind_85 : decode cX3_ofFind 85 = .ok (.aload_n 0, 1) := by decide +kernel
theorem dX3_ofFind_86 : decode cX3_ofFind 86 = .ok (.getfield 47, 3) := by decide +kernel
theorem dX3_ofFind_89 : decode cX3_ofFind 89 = .ok (.iload_n 1, 1) := by decide +kernel
theorem dX3_ofFind_90 : decode cX3_ofFind 90 = .ok (.iaload, 1) := by decide +kernel
theorem dX3_ofFind_91 : decode cX3_ofFind 91 = .ok (.iconst 2, 1) := by decide +kernel
theorem dX3_ofFind_92 : decode cX3_ofFind 92 = .ok (.if_icmp .ne 12, 3) := by decide +kernel
theorem dX3_ofFind_95 : decode cX3_ofFind 95 = .ok (.aload_n 0, 1) := by decide +kernel
theorem dX3_ofFind_96 : decode cX3_ofFind 96 = .ok (.getfield 53, 3) := by decide +kernel
theorem dX3_ofFind_99 : decode cX3_ofFind 99 = .ok (.iload_n 1, 1) := by decide +kernel
theorem dX3_ofFind_100 : decode cX3_ofFind 100 = .ok (.iaload, 1) := by decide +kernel
theorem dX3_ofFind_101 : decode cX3_ofFind 101 = .ok (.goto 9, 3) := by decide +kernel
theorem dX3_ofFind_104 : decode cX3_ofFind 104 = .ok (.aload_n 0, 1) := by decide +kernel
theorem dX3_ofFind_105 : decode cX3_ofFind 105 = .ok (.getfield 50, 3) := by decide +kernel
theorem dX3_ofFind_108 : decode cX3_ofFind 108 = .ok (.iload_n 1, 1) := by decide +kernel
theorem dX3_ofFind_109 : decode cX3_ofFind 109 = .ok (.iaload, 1) := by decide +kernel
theorem dX3_ofFind_110 : decode cX3_ofFind 110 = .ok (.ireturn, 1) := by decide +kernel
theorem dX3_ofFind_111 : decode cX3_ofFind 111 = .ok (.aload_n 0, 1) := by decide +kernel
theorem dX3_ofFind_112 : decode cX3_ofFind 112 = .ok (.getfield 56, 3) := by decide +kernel
theorem dX3_ofFind_115 : decode cX3_ofFind 115 = .ok (.iload_n 1, 1) := by decide +kernel
theorem dX3_ofFind_116 : decode cX3_ofFind 116 = .ok (.iaload, 1) := by decide +kernel
theorem dX3_ofFind_117 : decode cX3_ofFind 117 = .ok (.ireturn, 1) := by decide +kernel
theorem dX3_ofFind_118 : decode cX3_ofFind 118 = .ok (.aload_n 0, 1) := by decide +kernel
theorem dX3_ofFind_119 : decode cX3_ofFind 119 = .ok (.getfield 38, 3) := by decide +kernel
theorem dX3_ofFind_122 : decode cX3_ofFind 122 = .ok (.iload_n 1, 1) := by decide +kernel
theorem dX3_ofFind_123 : decode cX3_ofFind 123 = .ok (.iaload, 1) := by decide +kernel
theorem dX3_ofFind_124 : decode cX3_ofFind 124 = .ok (.ireturn, 1) := by decide +kernel
theorem dX3_ofFind_125 : decode cX3_ofFind 125 = .ok (.aload_n 0, 1) := by decide +kernel
theorem dX3_ofFind_126 : decode cX3_ofFind 126 = .ok (.getfield 69, 3) := by decide +kernel
theorem dX3_ofFind_129 : decode cX3_ofFind 129 = .ok (.iload_n 1, 1) := by decide +kernel
theorem dX3_ofFind_130 : decode cX3_ofFind 130 = .ok (.iaload, 1) := by decide +kernel
theorem dX3_ofFind_131 : decode cX3_ofFind 131 = .ok (.ireturn, 1) := by decide +kernel
set_option maxRecDepth 20000 in
theorem ggX3_hand_X3_isFind : GoodIn wsX3_hand wsX3_isFind := goodIn_r _ [8, 9, 10, 11, 7, 12, 18, 19, 20, 21, 22, 23, 24, 25, 26, 27, 28, 29, 30, 31, 32, 33, 34, 35, 36, 37, 38, 39, 40, 41, 42, 43, 44, 45, 46, 47, 48, 49, 50, 51, 52, 53, 54, 55] (by decide +kernel) (by decide +kernel)
set_option maxRecDepth 20000 in
theorem gX3_hand_X3_isFind : GoodIn wsX3_hand (wsV RX3 149 RX3 yX3_isFind wsX3_isFind) := goodIn_app (goodIn_of _ (by decide +kernel)) ggX3_hand_X3_isFind
set_option maxRecDepth 20000 in
theorem ggX3_hand_X3_in : GoodIn wsX3_hand wsX3_in := goodIn_r _ [12] (by decide +kernel) (by decide +kernel)
set_option maxRecDepth 20000 in
theorem gX3_hand_X3_in : GoodIn wsX3_hand (va_wsS RX3 108 yX3_in wsX3_in) := goodIn_app (goodIn_of _ (by decide +kernel)) ggX3_hand_X3_in
set_option maxRecDepth 20000 in
theorem ggX3_hand_X3_holds : GoodIn wsX3_hand wsX3_holds := goodIn_r _ [16, 17, 18, 19, 20, 21, 22, 23, 24, 25, 26, 27, 28, 29, 30, 31, 32, 33, 34, 35, 36, 37, 38, 39, 40, 41, 42, 43, 44, 45, 46, 47, 48, 49, 50, 51, 52, 53, 54, 55] (by decide +kernel) (by decide +kernel)
set_option maxRecDepth 20000 in
theorem gX3_hand_X3_holds : GoodIn wsX3_hand (wsV RX3 123 RX3 yX3_holds wsX3_holds) := goodIn_app (goodIn_of _ (by decide +kernel)) ggX3_hand_X3_holds
theorem dX3_hand_0 : decode cX3_hand 0 = .ok (.aload_n 0, 1) := by decide +kernel
theorem dX3_hand_1 : decode cX3_hand 1 = .ok (.iload_n 1, 1) := by decide +kernel
theorem dX3_hand_2 : decode cX3_hand 2 = .ok (.invokevirtual 149, 3) := by decide +kernel
theorem dX3_hand_5 : decode cX3_hand 5 = .ok (.ifCond .eq 23, 3) := by decide +kernel
theorem dX3_hand_8 : decode cX3_hand 8 = .ok (.iload_n 2, 1) := by decide +kernel
theorem dX3_hand_9 : decode cX3_hand 9 = .ok (.iconst 0, 1) := by decide +kernel
theorem dX3_hand_10 : decode cX3_hand 10 = .ok (.aload_n 0, 1) := by decide +kernel
theorem dX3_hand_11 : decode cX3_hand 11 = .ok (.getfield 69, 3) := by decide +kernel
theorem dX3_hand_14 : decode cX3_hand 14 = .ok (.iload_n 1, 1) := by decide +kernel
theorem dX3_hand_15 : decode cX3_hand 15 = .ok (.iaload, 1) := by decide +kernel
theorem dX3_hand_16 : decode cX3_hand 16 = .ok (.iconst 1, 1) := by decide +kernel
theorem dX3_hand_17 : decode cX3_hand 17 = .ok (.isub, 1) := by decide +kernel
theorem dX3_hand_18 : decode cX3_hand 18 = .ok (.invokestatic 108, 3) := by decide +kernel
theorem dX3_hand_21 : decode cX3_hand 21 = .ok (.ifCond .eq 7, 3) := by decide +kernel
theorem dX3_hand_24 : decode cX3_hand 24 = .ok (.iconst 1, 1) := by decide +kernel
theorem dX3_hand_25 : decode cX3_hand 25 = .ok (.goto 4, 3) := by decide +kernel
theorem dX3_hand_28 : decode cX3_hand 28 = .ok (.iconst 0, 1) := by decide +kernel
theorem dX3_hand_29 : decode cX3_hand 29 = .ok (.istore 4, 2) := by decide +kernel
theorem dX3_hand_31 : decode cX3_hand 31 = .ok (.aload_n 0, 1) := by decide +kernel
theorem dX3_hand_32 : decode cX3_hand 32 = .ok (.iload 4, 2) := by decide +kernel
theorem dX3_hand_34 : decode cX3_hand 34 = .ok (.ifCond .eq 7, 3) := by decide +kernel
theorem dX3_hand_37 : decode cX3_hand 37 = .ok (.iconst 0, 1) := by decide +kernel
theorem dX3_hand_38 : decode cX3_hand 38 = .ok (.goto 4, 3) := by decide +kernel
theorem dX3_hand_41 : decode cX3_hand 41 = .ok (.iconst 1, 1) := by decide +kernel
theorem dX3_hand_42 : decode cX3_hand 42 = .ok (.invokevirtual 123, 3) := by decide +kernel
theorem dX3_hand_45 : decode cX3_hand 45 = .ok (.ifCond .ne 5, 3) := by decide +kernel
theorem dX3_hand_48 : decode cX3_hand 48 = .ok (.iconst 0, 1) := by decide +kernel
theorem dX3_hand_49 : decode cX3_hand 49 = .ok (.ireturn, 1) := by decide +kernel
theorem dX3_hand_50 : decode cX3_hand 50 = .ok (.iload_n 3, 1) := by decide +kernel
theorem dX3_hand_51 : decode cX3_hand 51 = .ok (.ifCond .eq 17, 3) := by decide +kernel
theorem dX3_hand_54 : decode cX3_hand 54 = .ok (.aload_n 0, 1) := by decide +kernel
theorem dX3_hand_55 : decode cX3_hand 55 = .ok (.getfield 75, 3) := by decide +kernel
theorem dX3_hand_58 : decode cX3_hand 58 = .ok (.bipush 12, 2) := by decide +kernel
theorem dX3_hand_60 : decode cX3_hand 60 = .ok (.iload_n 1, 1) := by decide +kernel
theorem dX3_hand_61 : decode cX3_hand 61 = .ok (.imul, 1) := by decide +kernel
theorem dX3_hand_62 : decode cX3_hand 62 = .ok (.iload_n 2, 1) := by decide +kernel
theorem dX3_hand_63 : decode cX3_hand 63 = .ok (.iadd, 1) := by decide +kernel
theorem dX3_hand_64 : decode cX3_hand 64 = .ok (.iaload, 1) := by decide +kernel
theorem dX3_hand_65 : decode cX3_hand 65 = .ok (.goto 14, 3) := by decide +kernel
theorem dX3_hand_68 : decode cX3_hand 68 = .ok (.aload_n 0, 1) := by decide +kernel
theorem dX3_hand_69 : decode cX3_hand 69 = .ok (.getfield 72, 3) := by decide +kernel
theorem dX3_hand_72 : decode cX3_hand 72 = .ok (.bipush 12, 2) := by decide +kernel
theorem dX3_hand_74 : decode cX3_hand 74 = .ok (.iload_n 1, 1) := by decide +kernel
theorem dX3_hand_75 : decode cX3_hand 75 = .ok (.imul, 1) := by decide +kernel
theorem dX3_hand_76 : decode cX3_hand 76 = .ok (.iload_n 2, 1) := by decide +kernel
theorem dX3_hand_77 : decode cX3_hand 77 = .ok (.iadd, 1) := by decide +kernel
theorem dX3_hand_78 : decode cX3_hand 78 = .ok (.iaload, 1) := by decide +kernel
theorem dX3_hand_79 : decode cX3_hand 79 = .ok (.ireturn, 1) := by decide +kernel
set_option maxRecDepth 20000 in
theorem ggX3_ofClaim_X3_isClaim : GoodIn wsX3_ofClaim wsX3_isClaim := goodIn_r _ [9, 10, 11, 12, 8, 13, 19, 20, 21, 22, 23, 24, 25, 26, 27, 28, 29, 30, 31, 32, 33, 34, 35, 36, 37, 38, 39, 40, 41, 42, 43, 44, 45, 46, 47, 48, 49, 50, 51, 52, 53, 54, 55, 56] (by decide +kernel) (by decide +kernel)
set_option maxRecDepth 20000 in
theorem gX3_ofClaim_X3_isClaim : GoodIn wsX3_ofClaim (wsV RX3 155 RX3 yX3_isClaim wsX3_isClaim) := goodIn_app (goodIn_of _ (by decide +kernel)) ggX3_ofClaim_X3_isClaim
set_option maxRecDepth 20000 in
theorem ggX3_ofClaim_X3_in : GoodIn wsX3_ofClaim wsX3_in := goodIn_r _ [13] (by decide +kernel) (by decide +kernel)
set_option maxRecDepth 20000 in
theorem gX3_ofClaim_X3_in : GoodIn wsX3_ofClaim (va_wsS RX3 108 yX3_in wsX3_in) := goodIn_app (goodIn_of _ (by decide +kernel)) ggX3_ofClaim_X3_in
set_option maxRecDepth 20000 in
theorem ggX3_ofClaim_X3_holds : GoodIn wsX3_ofClaim wsX3_holds := goodIn_r _ [17, 18, 19, 20, 21, 22, 23, 24, 25, 26, 27, 28, 29, 30, 31, 32, 33, 34, 35, 36, 37, 38, 39, 40, 41, 42, 43, 44, 45, 46, 47, 48, 49, 50, 51, 52, 53, 54, 55, 56] (by decide +kernel) (by decide +kernel)
set_option maxRecDepth 20000 in
theorem gX3_ofClaim_X3_holds : GoodIn wsX3_ofClaim (wsV RX3 123 RX3 yX3_holds wsX3_holds) := goodIn_app (goodIn_of _ (by decide +kernel)) ggX3_ofClaim_X3_holds
theorem dX3_ofClaim_0 : decode cX3_ofClaim 0 = .ok (.aload_n 0, 1) := by decide +kernel
theorem dX3_ofClaim_1 : decode cX3_ofClaim 1 = .ok (.aload_n 0, 1) := by decide +kernel
theorem dX3_ofClaim_2 : decode cX3_ofClaim 2 = .ok (.iload_n 1, 1) := by decide +kernel
theorem dX3_ofClaim_3 : decode cX3_ofClaim 3 = .ok (.invokevirtual 155, 3) := by decide +kernel
theorem dX3_ofClaim_6 : decode cX3_ofClaim 6 = .ok (.ifCond .ne 7, 3) := by decide +kernel
theorem dX3_ofClaim_9 : decode cX3_ofClaim 9 = .ok (.iconst 1, 1) := by decide +kernel
theorem dX3_ofClaim_10 : decode cX3_ofClaim 10 = .ok (.goto 17, 3) := by decide +kernel
theorem dX3_ofClaim_13 : decode cX3_ofClaim 13 = .ok (.iload_n 2, 1) := by decide +kernel
theorem dX3_ofClaim_14 : decode cX3_ofClaim 14 = .ok (.iconst 0, 1) := by decide +kernel
theorem dX3_ofClaim_15 : decode cX3_ofClaim 15 = .ok (.iconst 3, 1) := by decide +kernel
theorem dX3_ofClaim_16 : decode cX3_ofClaim 16 = .ok (.invokestatic 108, 3) := by decide +kernel
theorem dX3_ofClaim_19 : decode cX3_ofClaim 19 = .ok (.ifCond .eq 7, 3) := by decide +kernel
theorem dX3_ofClaim_22 : decode cX3_ofClaim 22 = .ok (.iconst 0, 1) := by decide +kernel
theorem dX3_ofClaim_23 : decode cX3_ofClaim 23 = .ok (.goto 4, 3) := by decide +kernel
theorem dX3_ofClaim_26 : decode cX3_ofClaim 26 = .ok (.iconst 2, 1) := by decide +kernel
theorem dX3_ofClaim_27 : decode cX3_ofClaim 27 = .ok (.invokevirtual 123, 3) := by decide +kernel
theorem dX3_ofClaim_30 : decode cX3_ofClaim 30 = .ok (.ifCond .ne 5, 3) := by decide +kernel
theorem dX3_ofClaim_33 : decode cX3_ofClaim 33 = .ok (.iconst 0, 1) := by decide +kernel
theorem dX3_ofClaim_34 : decode cX3_ofClaim 34 = .ok (.ireturn, 1) := by decide +kernel
theorem dX3_ofClaim_35 : decode cX3_ofClaim 35 = .ok (.iload_n 2, 1) := by decide +kernel
theorem dX3_ofClaim_36 : decode cX3_ofClaim 36 = .ok (.ifCond .ne 12, 3) := by decide +kernel
theorem dX3_ofClaim_39 : decode cX3_ofClaim 39 = .ok (.aload_n 0, 1) := by decide +kernel
theorem dX3_ofClaim_40 : decode cX3_ofClaim 40 = .ok (.getfield 96, 3) := by decide +kernel
theorem dX3_ofClaim_43 : decode cX3_ofClaim 43 = .ok (.iload_n 1, 1) := by decide +kernel
theorem dX3_ofClaim_44 : decode cX3_ofClaim 44 = .ok (.iaload, 1) := by decide +kernel
theorem dX3_ofClaim_45 : decode cX3_ofClaim 45 = .ok (.goto 37, 3) := by decide +kernel
theorem dX3_ofClaim_48 : decode cX3_ofClaim 48 = .ok (.iload_n 2, 1) := by decide +kernel
theorem dX3_ofClaim_49 : decode cX3_ofClaim 49 = .ok (.iconst 1, 1) := by decide +kernel
theorem dX3_ofClaim_50 : decode cX3_ofClaim 50 = .ok (.if_icmp .ne 12, 3) := by decide +kernel
theorem dX3_ofClaim_53 : decode cX3_ofClaim 53 = .ok (.aload_n 0, 1) := by decide +kernel
theorem dX3_ofClaim_54 : decode cX3_ofClaim 54 = .ok (.getfield 90, 3) := by decide +kernel
theorem dX3_ofClaim_57 : decode cX3_ofClaim 57 = .ok (.iload_n 1, 1) := by decide +kernel
theorem dX3_ofClaim_58 : decode cX3_ofClaim 58 = .ok (.iaload, 1) := by decide +kernel
theorem dX3_ofClaim_59 : decode cX3_ofClaim 59 = .ok (.goto 23, 3) := by decide +kernel
theorem dX3_ofClaim_62 : decode cX3_ofClaim 62 = .ok (.iload_n 2, 1) := by decide +kernel
theorem dX3_ofClaim_63 : decode cX3_ofClaim 63 = .ok (.iconst 2, 1) := by decide +kernel
theorem dX3_ofClaim_64 : decode cX3_ofClaim 64 = .ok (.if_icmp .ne 12, 3) := by decide +kernel
theorem dX3_ofClaim_67 : decode cX3_ofClaim 67 = .ok (.aload_n 0, 1) := by decide +kernel
theorem dX3_ofClaim_68 : decode cX3_ofClaim 68 = .ok (.getfield 93, 3) := by decide +kernel
theorem dX3_ofClaim_71 : decode cX3_ofClaim 71 = .ok (.iload_n 1, 1) := by decide +kernel
theorem dX3_ofClaim_72 : decode cX3_ofClaim 72 = .ok (.iaload, 1) := by decide +kernel
theorem dX3_ofClaim_73 : decode cX3_ofClaim 73 = .ok (.goto 9, 3) := by decide +kernel
theorem dX3_ofClaim_76 : decode cX3_ofClaim 76 = .ok (.aload_n 0, 1) := by decide +kernel
theorem dX3_ofClaim_77 : decode cX3_ofClaim 77 = .ok (.getfield 102, 3) := by decide +kernel
theorem dX3_ofClaim_80 : decode cX3_ofClaim 80 = .ok (.iload_n 1, 1) := by decide +kernel
theorem dX3_ofClaim_81 : decode cX3_ofClaim 81 = .ok (.iaload, 1) := by decide +kernel
theorem dX3_ofClaim_82 : decode cX3_ofClaim 82 = .ok (.ireturn, 1) := by decide +kernel
set_option maxRecDepth 20000 in
theorem ggX3_money_X3_in : GoodIn wsX3_money wsX3_in := goodIn_r _ [7] (by decide +kernel) (by decide +kernel)
set_option maxRecDepth 20000 in
theorem gX3_money_X3_in : GoodIn wsX3_money (va_wsS RX3 108 yX3_in wsX3_in) := goodIn_app (goodIn_of _ (by decide +kernel)) ggX3_money_X3_in
set_option maxRecDepth 20000 in
theorem ggX3_money_X3_holds : GoodIn wsX3_money wsX3_holds := goodIn_r _ [11, 12, 13, 14, 15, 16, 17, 18, 19, 20, 21, 22, 23, 24, 25, 26, 27, 28, 29, 30, 31, 32, 33, 34, 35, 36, 37, 38, 39, 40, 41, 42, 43, 44, 45, 46, 47, 48, 49, 50] (by decide +kernel) (by decide +kernel)
set_option maxRecDepth 20000 in
theorem gX3_money_X3_holds : GoodIn wsX3_money (wsV RX3 123 RX3 yX3_holds wsX3_holds) := goodIn_app (goodIn_of _ (by decide +kernel)) ggX3_money_X3_holds
theorem dX3_money_0 : decode cX3_money 0 = .ok (.aload_n 0, 1) := by decide +kernel
theorem dX3_money_1 : decode cX3_money 1 = .ok (.iload_n 1, 1) := by decide +kernel
theorem dX3_money_2 : decode cX3_money 2 = .ok (.iconst 0, 1) := by decide +kernel
theorem dX3_money_3 : decode cX3_money 3 = .ok (.iconst 2, 1) := by decide +kernel
theorem dX3_money_4 : decode cX3_money 4 = .ok (.invokestatic 108, 3) := by decide +kernel
theorem dX3_money_7 : decode cX3_money 7 = .ok (.ifCond .eq 7, 3) := by decide +kernel
theorem dX3_money_10 : decode cX3_money 10 = .ok (.iconst 0, 1) := by decide +kernel
theorem dX3_money_11 : decode cX3_money 11 = .ok (.goto 4, 3) := by decide +kernel
theorem dX3_money_14 : decode cX3_money 14 = .ok (.iconst 1, 1) := by decide +kernel
theorem dX3_money_15 : decode cX3_money 15 = .ok (.invokevirtual 123, 3) := by decide +kernel
theorem dX3_money_18 : decode cX3_money 18 = .ok (.ifCond .ne 5, 3) := by decide +kernel
theorem dX3_money_21 : decode cX3_money 21 = .ok (.iconst 0, 1) := by decide +kernel
theorem dX3_money_22 : decode cX3_money 22 = .ok (.ireturn, 1) := by decide +kernel
theorem dX3_money_23 : decode cX3_money 23 = .ok (.iload_n 1, 1) := by decide +kernel
theorem dX3_money_24 : decode cX3_money 24 = .ok (.ifCond .ne 10, 3) := by decide +kernel
theorem dX3_money_27 : decode cX3_money 27 = .ok (.aload_n 0, 1) := by decide +kernel
theorem dX3_money_28 : decode cX3_money 28 = .ok (.getfield 185, 3) := by decide +kernel
theorem dX3_money_31 : decode cX3_money 31 = .ok (.goto 19, 3) := by decide +kernel
theorem dX3_money_34 : decode cX3_money 34 = .ok (.iload_n 1, 1) := by decide +kernel
theorem dX3_money_35 : decode cX3_money 35 = .ok (.iconst 1, 1) := by decide +kernel
theorem dX3_money_36 : decode cX3_money 36 = .ok (.if_icmp .ne 10, 3) := by decide +kernel
theorem dX3_money_39 : decode cX3_money 39 = .ok (.aload_n 0, 1) := by decide +kernel
theorem dX3_money_40 : decode cX3_money 40 = .ok (.getfield 188, 3) := by decide +kernel
theorem dX3_money_43 : decode cX3_money 43 = .ok (.goto 7, 3) := by decide +kernel
theorem dX3_money_46 : decode cX3_money 46 = .ok (.aload_n 0, 1) := by decide +kernel
theorem dX3_money_47 : decode cX3_money 47 = .ok (.getfield 194, 3) := by decide +kernel
theorem dX3_money_50 : decode cX3_money 50 = .ok (.ireturn, 1) := by decide +kernel
set_option maxRecDepth 20000 in
theorem ggX3_audit_X3_isRoom : GoodIn wsX3_audit wsX3_isRoom := goodIn_r _ [7, 8, 9, 6, 10] (by decide +kernel) (by decide +kernel)
set_option maxRecDepth 20000 in
theorem gX3_audit_X3_isRoom : GoodIn wsX3_audit (va_wsS RX3 129 yX3_isRoom wsX3_isRoom) := goodIn_app (goodIn_of _ (by decide +kernel)) ggX3_audit_X3_isRoom
set_option maxRecDepth 20000 in
theorem ggX3_audit_X3_holds : GoodIn wsX3_audit wsX3_holds := goodIn_r _ [14, 15, 16, 17, 18, 19, 20, 21, 22, 23, 24, 25, 26, 27, 28, 29, 30, 31, 32, 33, 34, 35, 36, 37, 38, 39, 40, 41, 42, 43, 44, 45, 46, 47, 48, 49, 50, 51, 52, 53] (by decide +kernel) (by decide +kernel)
set_option maxRecDepth 20000 in
theorem gX3_audit_X3_holds : GoodIn wsX3_audit (wsV RX3 123 RX3 yX3_holds wsX3_holds) := goodIn_app (goodIn_of _ (by decide +kernel)) ggX3_audit_X3_holds
theorem dX3_audit_0 : decode cX3_audit 0 = .ok (.aload_n 0, 1) := by decide +kernel
theorem dX3_audit_1 : decode cX3_audit 1 = .ok (.iload_n 1, 1) := by decide +kernel
theorem dX3_audit_2 : decode cX3_audit 2 = .ok (.invokestatic 129, 3) := by decide +kernel
theorem dX3_audit_5 : decode cX3_audit 5 = .ok (.ifCond .eq 7, 3) := by decide +kernel
theorem dX3_audit_8 : decode cX3_audit 8 = .ok (.iconst 0, 1) := by decide +kernel
theorem dX3_audit_9 : decode cX3_audit 9 = .ok (.goto 4, 3) := by decide +kernel
theorem dX3_audit_12 : decode cX3_audit 12 = .ok (.iconst 1, 1) := by decide +kernel
theorem dX3_audit_13 : decode cX3_audit 13 = .ok (.invokevirtual 123, 3) := by decide +kernel
theorem dX3_audit_16 : decode cX3_audit 16 = .ok (.ifCond .ne 5, 3) := by decide +kernel
theorem dX3_audit_19 : decode cX3_audit 19 = .ok (.iconst 0, 1) := by decide +kernel
theorem dX3_audit_20 : decode cX3_audit 20 = .ok (.ireturn, 1) := by decide +kernel
theorem dX3_audit_21 : decode cX3_audit 21 = .ok (.iconst 0, 1) := by decide +kernel
theorem dX3_audit_22 : decode cX3_audit 22 = .ok (.istore_n 2, 1) := by decide +kernel
theorem dX3_audit_23 : decode cX3_audit 23 = .ok (.iconst 0, 1) := by decide +kernel
theorem dX3_audit_24 : decode cX3_audit 24 = .ok (.istore_n 3, 1) := by decide +kernel
theorem dX3_audit_25 : decode cX3_audit 25 = .ok (.iload_n 3, 1) := by decide +kernel
theorem dX3_audit_26 : decode cX3_audit 26 = .ok (.aload_n 0, 1) := by decide +kernel
theorem dX3_audit_27 : decode cX3_audit 27 = .ok (.getfield 113, 3) := by decide +kernel
theorem dX3_audit_30 : decode cX3_audit 30 = .ok (.if_icmp .ge 38, 3) := by decide +kernel
theorem dX3_audit_33 : decode cX3_audit 33 = .ok (.iload_n 2, 1) := by decide +kernel
theorem dX3_audit_34 : decode cX3_audit 34 = .ok (.aload_n 0, 1) := by decide +kernel
theorem dX3_audit_35 : decode cX3_audit 35 = .ok (.getfield 47, 3) := by decide +kernel
theorem dX3_audit_38 : decode cX3_audit 38 = .ok (.iload_n 3, 1) := by decide +kernel
theorem dX3_audit_39 : decode cX3_audit 39 = .ok (.iaload, 1) := by decide +kernel
theorem dX3_audit_40 : decode cX3_audit 40 = .ok (.ifCond .ne 19, 3) := by decide +kernel
theorem dX3_audit_43 : decode cX3_audit 43 = .ok (.aload_n 0, 1) := by decide +kernel
theorem dX3_audit_44 : decode cX3_audit 44 = .ok (.getfield 50, 3) := by decide +kernel
theorem dX3_audit_47 : decode cX3_audit 47 = .ok (.iload_n 3, 1) := by decide +kernel
theorem dX3_audit_48 : decode cX3_audit 48 = .ok (.iaload, 1) := by decide +kernel
theorem dX3_audit_49 : decode cX3_audit 49 = .ok (.iload_n 1, 1) := by decide +kernel
theorem dX3_audit_50 : decode cX3_audit 50 = .ok (.if_icmp .ne 9, 3) := by decide +kernel
theorem dX3_audit_53 : decode cX3_audit 53 = .ok (.iconst 1, 1) := by decide +kernel
theorem dX3_audit_54 : decode cX3_audit 54 = .ok (.iload_n 3, 1) := by decide +kernel
theorem dX3_audit_55 : decode cX3_audit 55 = .ok (.ishl, 1) := by decide +kernel
theorem dX3_audit_56 : decode cX3_audit 56 = .ok (.goto 4, 3) := by decide +kernel
theorem dX3_audit_59 : decode cX3_audit 59 = .ok (.iconst 0, 1) := by decide +kernel
theorem dX3_audit_60 : decode cX3_audit 60 = .ok (.ior, 1) := by decide +kernel
theorem dX3_audit_61 : decode cX3_audit 61 = .ok (.istore_n 2, 1) := by decide +kernel
theorem dX3_audit_62 : decode cX3_audit 62 = .ok (.iinc 3 1, 3) := by decide +kernel
theorem dX3_audit_65 : decode cX3_audit 65 = .ok (.goto (-40), 3) := by decide +kernel
theorem dX3_audit_68 : decode cX3_audit 68 = .ok (.iload_n 2, 1) := by decide +kernel
theorem dX3_audit_69 : decode cX3_audit 69 = .ok (.ireturn, 1) := by decide +kernel
theorem dJ6_bitCount_0f7a4_0 : decode cJ6_bitCount_0f7a4 0 = .ok (.iload_n 0, 1) := by decide +kernel
theorem dJ6_bitCount_0f7a4_1 : decode cJ6_bitCount_0f7a4 1 = .ok (.iload_n 0, 1) := by decide +kernel
theorem dJ6_bitCount_0f7a4_2 : decode cJ6_bitCount_0f7a4 2 = .ok (.iconst 1, 1) := by decide +kernel
theorem dJ6_bitCount_0f7a4_3 : decode cJ6_bitCount_0f7a4 3 = .ok (.iushr, 1) := by decide +kernel
theorem dJ6_bitCount_0f7a4_4 : decode cJ6_bitCount_0f7a4 4 = .ok (.ldc_w 265, 3) := by decide +kernel
theorem dJ6_bitCount_0f7a4_7 : decode cJ6_bitCount_0f7a4 7 = .ok (.iand, 1) := by decide +kernel
theorem dJ6_bitCount_0f7a4_8 : decode cJ6_bitCount_0f7a4 8 = .ok (.isub, 1) := by decide +kernel
theorem dJ6_bitCount_0f7a4_9 : decode cJ6_bitCount_0f7a4 9 = .ok (.istore_n 0, 1) := by decide +kernel
theorem dJ6_bitCount_0f7a4_10 : decode cJ6_bitCount_0f7a4 10 = .ok (.iload_n 0, 1) := by decide +kernel
theorem dJ6_bitCount_0f7a4_11 : decode cJ6_bitCount_0f7a4 11 = .ok (.ldc_w 266, 3) := by decide +kernel
theorem dJ6_bitCount_0f7a4_14 : decode cJ6_bitCount_0f7a4 14 = .ok (.iand, 1) := by decide +kernel
theorem dJ6_bitCount_0f7a4_15 : decode cJ6_bitCount_0f7a4 15 = .ok (.iload_n 0, 1) := by decide +kernel
theorem dJ6_bitCount_0f7a4_16 : decode cJ6_bitCount_0f7a4 16 = .ok (.iconst 2, 1) := by decide +kernel
theorem dJ6_bitCount_0f7a4_17 : decode cJ6_bitCount_0f7a4 17 = .ok (.iushr, 1) := by decide +kernel
theorem dJ6_bitCount_0f7a4_18 : decode cJ6_bitCount_0f7a4 18 = .ok (.ldc_w 266, 3) := by decide +kernel
theorem dJ6_bitCount_0f7a4_21 : decode cJ6_bitCount_0f7a4 21 = .ok (.iand, 1) := by decide +kernel
theorem dJ6_bitCount_0f7a4_22 : decode cJ6_bitCount_0f7a4 22 = .ok (.iadd, 1) := by decide +kernel
theorem dJ6_bitCount_0f7a4_23 : decode cJ6_bitCount_0f7a4 23 = .ok (.istore_n 0, 1) := by decide +kernel
theorem dJ6_bitCount_0f7a4_24 : decode cJ6_bitCount_0f7a4 24 = .ok (.iload_n 0, 1) := by decide +kernel
theorem dJ6_bitCount_0f7a4_25 : decode cJ6_bitCount_0f7a4 25 = .ok (.iload_n 0, 1) := by decide +kernel
theorem dJ6_bitCount_0f7a4_26 : decode cJ6_bitCount_0f7a4 26 = .ok (.iconst 4, 1) := by decide +kernel
theorem dJ6_bitCount_0f7a4_27 : decode cJ6_bitCount_0f7a4 27 = .ok (.iushr, 1) := by decide +kernel
theorem dJ6_bitCount_0f7a4_28 : decode cJ6_bitCount_0f7a4 28 = .ok (.iadd, 1) := by decide +kernel
theorem dJ6_bitCount_0f7a4_29 : decode cJ6_bitCount_0f7a4 29 = .ok (.ldc_w 267, 3) := by decide +kernel
theorem dJ6_bitCount_0f7a4_32 : decode cJ6_bitCount_0f7a4 32 = .ok (.iand, 1) := by decide +kernel
theorem dJ6_bitCount_0f7a4_33 : decode cJ6_bitCount_0f7a4 33 = .ok (.istore_n 0, 1) := by decide +kernel
theorem dJ6_bitCount_0f7a4_34 : decode cJ6_bitCount_0f7a4 34 = .ok (.iload_n 0, 1) := by decide +kernel
theorem dJ6_bitCount_0f7a4_35 : decode cJ6_bitCount_0f7a4 35 = .ok (.iload_n 0, 1) := by decide +kernel
theorem dJ6_bitCount_0f7a4_36 : decode cJ6_bitCount_0f7a4 36 = .ok (.bipush 8, 2) := by decide +kernel
theorem dJ6_bitCount_0f7a4_38 : decode cJ6_bitCount_0f7a4 38 = .ok (.iushr, 1) := by decide +kernel
theorem dJ6_bitCount_0f7a4_39 : decode cJ6_bitCount_0f7a4 39 = .ok (.iadd, 1) := by decide +kernel
theorem dJ6_bitCount_0f7a4_40 : decode cJ6_bitCount_0f7a4 40 = .ok (.istore_n 0, 1) := by decide +kernel
theorem dJ6_bitCount_0f7a4_41 : decode cJ6_bitCount_0f7a4 41 = .ok (.iload_n 0, 1) := by decide +kernel
theorem dJ6_bitCount_0f7a4_42 : decode cJ6_bitCount_0f7a4 42 = .ok (.iload_n 0, 1) := by decide +kernel
theorem dJ6_bitCount_0f7a4_43 : decode cJ6_bitCount_0f7a4 43 = .ok (.bipush 16, 2) := by decide +kernel
theorem dJ6_bitCount_0f7a4_45 : decode cJ6_bitCount_0f7a4 45 = .ok (.iushr, 1) := by decide +kernel
theorem dJ6_bitCount_0f7a4_46 : decode cJ6_bitCount_0f7a4 46 = .ok (.iadd, 1) := by decide +kernel
theorem dJ6_bitCount_0f7a4_47 : decode cJ6_bitCount_0f7a4 47 = .ok (.istore_n 0, 1) := by decide +kernel
theorem dJ6_bitCount_0f7a4_48 : decode cJ6_bitCount_0f7a4 48 = .ok (.iload_n 0, 1) := by decide +kernel
theorem dJ6_bitCount_0f7a4_49 : decode cJ6_bitCount_0f7a4 49 = .ok (.bipush 63, 2) := by decide +kernel
theorem dJ6_bitCount_0f7a4_51 : decode cJ6_bitCount_0f7a4 51 = .ok (.iand, 1) := by decide +kernel
theorem dJ6_bitCount_0f7a4_52 : decode cJ6_bitCount_0f7a4 52 = .ok (.ireturn, 1) := by decide +kernel
theorem dJ9_abs_0f7a4_0 : decode cJ9_abs_0f7a4 0 = .ok (.iload_n 0, 1) := by decide +kernel
theorem dJ9_abs_0f7a4_1 : decode cJ9_abs_0f7a4 1 = .ok (.ifCond .ge 8, 3) := by decide +kernel
theorem dJ9_abs_0f7a4_4 : decode cJ9_abs_0f7a4 4 = .ok (.iload_n 0, 1) := by decide +kernel
theorem dJ9_abs_0f7a4_5 : decode cJ9_abs_0f7a4 5 = .ok (.ineg, 1) := by decide +kernel
theorem dJ9_abs_0f7a4_6 : decode cJ9_abs_0f7a4 6 = .ok (.goto 4, 3) := by decide +kernel
theorem dJ9_abs_0f7a4_9 : decode cJ9_abs_0f7a4 9 = .ok (.iload_n 0, 1) := by decide +kernel
theorem dJ9_abs_0f7a4_10 : decode cJ9_abs_0f7a4 10 = .ok (.ireturn, 1) := by decide +kernel
theorem dJ9_max_7cf53_0 : decode cJ9_max_7cf53 0 = .ok (.iload_n 0, 1) := by decide +kernel
theorem dJ9_max_7cf53_1 : decode cJ9_max_7cf53 1 = .ok (.iload_n 1, 1) := by decide +kernel
theorem dJ9_max_7cf53_2 : decode cJ9_max_7cf53 2 = .ok (.if_icmp .lt 7, 3) := by decide +kernel
theorem dJ9_max_7cf53_5 : decode cJ9_max_7cf53 5 = .ok (.iload_n 0, 1) := by decide +kernel
theorem dJ9_max_7cf53_6 : decode cJ9_max_7cf53 6 = .ok (.goto 4, 3) := by decide +kernel
theorem dJ9_max_7cf53_9 : decode cJ9_max_7cf53 9 = .ok (.iload_n 1, 1) := by decide +kernel
theorem dJ9_max_7cf53_10 : decode cJ9_max_7cf53 10 = .ok (.ireturn, 1) := by decide +kernel
theorem dJ9_min_7cf53_0 : decode cJ9_min_7cf53 0 = .ok (.iload_n 0, 1) := by decide +kernel
theorem dJ9_min_7cf53_1 : decode cJ9_min_7cf53 1 = .ok (.iload_n 1, 1) := by decide +kernel
theorem dJ9_min_7cf53_2 : decode cJ9_min_7cf53 2 = .ok (.if_icmp .gt 7, 3) := by decide +kernel
theorem dJ9_min_7cf53_5 : decode cJ9_min_7cf53 5 = .ok (.iload_n 0, 1) := by decide +kernel
theorem dJ9_min_7cf53_6 : decode cJ9_min_7cf53 6 = .ok (.goto 4, 3) := by decide +kernel
theorem dJ9_min_7cf53_9 : decode cJ9_min_7cf53 9 = .ok (.iload_n 1, 1) := by decide +kernel
theorem dJ9_min_7cf53_10 : decode cJ9_min_7cf53 10 = .ok (.ireturn, 1) := by decide +kernel
set_option maxRecDepth 20000 in
theorem ggL_near_X2_near : GoodIn wsL_near wsX2_near := goodIn_ca (goodIn_ca (goodIn_r _ [7, 8, 9, 10, 6, 11, 12, 13, 14, 15, 16, 17, 18, 19, 20, 21, 22, 23, 24, 25, 26, 27, 28, 29, 30] (by decide +kernel) (by decide +kernel)) (goodIn_sub (fun _ h => List.mem_cons_of_mem _ (List.mem_append_left _ (List.mem_append_right _ h))) (by decide +kernel))) (goodIn_sub (fun _ h => List.mem_cons_of_mem _ (List.mem_append_right _ h)) (by decide +kernel))
set_option maxRecDepth 20000 in
theorem gL_near_X2_near : GoodIn wsL_near (wsV RL 7 RX2 yX2_near wsX2_near) := goodIn_app (goodIn_of _ (by decide +kernel)) ggL_near_X2_near
theorem dL_near_0 : decode cL_near 0 = .ok (.aload_n 3, 1) := by decide +kernel
theorem dL_near_1 : decode cL_near 1 = .ok (.iconst 0, 1) := by decide +kernel
theorem dL_near_2 : decode cL_near 2 = .ok (.aload_n 0, 1) := by decide +kernel
theorem dL_near_3 : decode cL_near 3 = .ok (.iload_n 1, 1) := by decide +kernel
theorem dL_near_4 : decode cL_near 4 = .ok (.iload_n 2, 1) := by decide +kernel
theorem dL_near_5 : decode cL_near 5 = .ok (.invokevirtual 7, 3) := by decide +kernel
theorem dL_near_8 : decode cL_near 8 = .ok (.ifCond .eq 7, 3) := by decide +kernel
theorem dL_near_11 : decode cL_near 11 = .ok (.lconst 1, 1) := by decide +kernel
theorem dL_near_12 : decode cL_near 12 = .ok (.goto 4, 3) := by decide +kernel
theorem dL_near_15 : decode cL_near 15 = .ok (.lconst 0, 1) := by decide +kernel
theorem dL_near_16 : decode cL_near 16 = .ok (.lastore, 1) := by decide +kernel
theorem dL_near_17 : decode cL_near 17 = .ok (.goto 11, 3) := by decide +kernel
theorem dL_near_20 : decode cL_near 20 = .ok (.astore 4, 2) := by decide +kernel
theorem dL_near_22 : decode cL_near 22 = .ok (.iconst 1, 1) := by decide +kernel
theorem dL_near_23 : decode cL_near 23 = .ok (.ireturn, 1) := by decide +kernel
theorem dL_near_24 : decode cL_near 24 = .ok (.astore 4, 2) := by decide +kernel
theorem dL_near_26 : decode cL_near 26 = .ok (.iconst 2, 1) := by decide +kernel
theorem dL_near_27 : decode cL_near 27 = .ok (.ireturn, 1) := by decide +kernel
theorem dL_near_28 : decode cL_near 28 = .ok (.iconst 0, 1) := by decide +kernel
theorem dL_near_29 : decode cL_near 29 = .ok (.ireturn, 1) := by decide +kernel
set_option maxRecDepth 20000 in
theorem ggL_alike_X2_alike : GoodIn wsL_alike wsX2_alike := goodIn_ca (goodIn_ca (goodIn_r _ [7, 8, 9, 10, 6, 11, 12, 13, 14, 15, 16, 17, 18, 19, 20, 21, 22, 23, 24, 25, 26, 27, 28, 29, 30] (by decide +kernel) (by decide +kernel)) (goodIn_sub (fun _ h => List.mem_cons_of_mem _ (List.mem_append_left _ (List.mem_append_right _ h))) (by decide +kernel))) (goodIn_sub (fun _ h => List.mem_cons_of_mem _ (List.mem_append_right _ h)) (by decide +kernel))
set_option maxRecDepth 20000 in
theorem gL_alike_X2_alike : GoodIn wsL_alike (wsV RL 17 RX2 yX2_alike wsX2_alike) := goodIn_app (goodIn_of _ (by decide +kernel)) ggL_alike_X2_alike
theorem dL_alike_0 : decode cL_alike 0 = .ok (.aload_n 3, 1) := by decide +kernel
theorem dL_alike_1 : decode cL_alike 1 = .ok (.iconst 0, 1) := by decide +kernel
theorem dL_alike_2 : decode cL_alike 2 = .ok (.aload_n 0, 1) := by decide +kernel
theorem dL_alike_3 : decode cL_alike 3 = .ok (.iload_n 1, 1) := by decide +kernel
theorem dL_alike_4 : decode cL_alike 4 = .ok (.iload_n 2, 1) := by decide +kernel
theorem dL_alike_5 : decode cL_alike 5 = .ok (.invokevirtual 17, 3) := by decide +kernel
theorem dL_alike_8 : decode cL_alike 8 = .ok (.ifCond .eq 7, 3) := by decide +kernel
theorem dL_alike_11 : decode cL_alike 11 = .ok (.lconst 1, 1) := by decide +kernel
theorem dL_alike_12 : decode cL_alike 12 = .ok (.goto 4, 3) := by decide +kernel
theorem dL_alike_15 : decode cL_alike 15 = .ok (.lconst 0, 1) := by decide +kernel
theorem dL_alike_16 : decode cL_alike 16 = .ok (.lastore, 1) := by decide +kernel
theorem dL_alike_17 : decode cL_alike 17 = .ok (.goto 11, 3) := by decide +kernel
theorem dL_alike_20 : decode cL_alike 20 = .ok (.astore 4, 2) := by decide +kernel
theorem dL_alike_22 : decode cL_alike 22 = .ok (.iconst 1, 1) := by decide +kernel
theorem dL_alike_23 : decode cL_alike 23 = .ok (.ireturn, 1) := by decide +kernel
theorem dL_alike_24 : decode cL_alike 24 = .ok (.astore 4, 2) := by decide +kernel
theorem dL_alike_26 : decode cL_alike 26 = .ok (.iconst 2, 1) := by decide +kernel
theorem dL_alike_27 : decode cL_alike 27 = .ok (.ireturn, 1) := by decide +kernel
theorem dL_alike_28 : decode cL_alike 28 = .ok (.iconst 0, 1) := by decide +kernel
theorem dL_alike_29 : decode cL_alike 29 = .ok (.ireturn, 1) := by decide +kernel
set_option maxRecDepth 20000 in
theorem ggL_rule_X2_rule : GoodIn wsL_rule wsX2_rule := goodIn_ca (goodIn_ca (goodIn_r _ [7, 8, 9, 10, 11, 12, 13, 14, 15, 6, 16, 17, 18, 19, 20, 21, 22, 23, 24, 25, 26, 27, 28, 29, 30, 31] (by decide +kernel) (by decide +kernel)) (goodIn_sub (fun _ h => List.mem_cons_of_mem _ (List.mem_append_left _ (List.mem_append_right _ h))) (by decide +kernel))) (goodIn_sub (fun _ h => List.mem_cons_of_mem _ (List.mem_append_right _ h)) (by decide +kernel))
set_option maxRecDepth 20000 in
theorem gL_rule_X2_rule : GoodIn wsL_rule (wsV RL 20 RX2 yX2_rule wsX2_rule) := goodIn_app (goodIn_of _ (by decide +kernel)) ggL_rule_X2_rule
theorem dL_rule_0 : decode cL_rule 0 = .ok (.aload 4, 2) := by decide +kernel
theorem dL_rule_2 : decode cL_rule 2 = .ok (.iconst 0, 1) := by decide +kernel
theorem dL_rule_3 : decode cL_rule 3 = .ok (.aload_n 0, 1) := by decide +kernel
theorem dL_rule_4 : decode cL_rule 4 = .ok (.iload_n 1, 1) := by decide +kernel
theorem dL_rule_5 : decode cL_rule 5 = .ok (.iload_n 2, 1) := by decide +kernel
theorem dL_rule_6 : decode cL_rule 6 = .ok (.iload_n 3, 1) := by decide +kernel
theorem dL_rule_7 : decode cL_rule 7 = .ok (.invokevirtual 20, 3) := by decide +kernel
theorem dL_rule_10 : decode cL_rule 10 = .ok (.i2l, 1) := by decide +kernel
theorem dL_rule_11 : decode cL_rule 11 = .ok (.lastore, 1) := by decide +kernel
theorem dL_rule_12 : decode cL_rule 12 = .ok (.goto 11, 3) := by decide +kernel
theorem dL_rule_15 : decode cL_rule 15 = .ok (.astore 5, 2) := by decide +kernel
theorem dL_rule_17 : decode cL_rule 17 = .ok (.iconst 1, 1) := by decide +kernel
theorem dL_rule_18 : decode cL_rule 18 = .ok (.ireturn, 1) := by decide +kernel
theorem dL_rule_19 : decode cL_rule 19 = .ok (.astore 5, 2) := by decide +kernel
theorem dL_rule_21 : decode cL_rule 21 = .ok (.iconst 2, 1) := by decide +kernel
theorem dL_rule_22 : decode cL_rule 22 = .ok (.ireturn, 1) := by decide +kernel
theorem dL_rule_23 : decode cL_rule 23 = .ok (.iconst 0, 1) := by decide +kernel
theorem dL_rule_24 : decode cL_rule 24 = .ok (.ireturn, 1) := by decide +kernel
set_option maxRecDepth 20000 in
theorem ggL_stop_X2_stop : GoodIn wsL_stop wsX2_stop := goodIn_ca (goodIn_ca (goodIn_r _ [7, 8, 9, 10, 11, 12, 13, 14, 6, 15, 16, 17, 18, 19, 20, 21, 22, 23, 24, 25, 26, 27, 28, 29, 30, 31, 32, 33, 34, 35, 36, 37, 38, 39, 40] (by decide +kernel) (by decide +kernel)) (goodIn_sub (fun _ h => List.mem_cons_of_mem _ (List.mem_append_left _ (List.mem_append_right _ h))) (by decide +kernel))) (goodIn_sub (fun _ h => List.mem_cons_of_mem _ (List.mem_append_right _ h)) (by decide +kernel))
set_option maxRecDepth 20000 in
theorem gL_stop_X2_stop : GoodIn wsL_stop (wsV RL 24 RX2 yX2_stop wsX2_stop) := goodIn_app (goodIn_of _ (by decide +kernel)) ggL_stop_X2_stop
theorem dL_stop_0 : decode cL_stop 0 = .ok (.aload_n 3, 1) := by decide +kernel
theorem dL_stop_1 : decode cL_stop 1 = .ok (.iconst 0, 1) := by decide +kernel
theorem dL_stop_2 : decode cL_stop 2 = .ok (.aload_n 0, 1) := by decide +kernel
theorem dL_stop_3 : decode cL_stop 3 = .ok (.iload_n 1, 1) := by decide +kernel
theorem dL_stop_4 : decode cL_stop 4 = .ok (.iload_n 2, 1) := by decide +kernel
theorem dL_stop_5 : decode cL_stop 5 = .ok (.invokevirtual 24, 3) := by decide +kernel
theorem dL_stop_8 : decode cL_stop 8 = .ok (.i2l, 1) := by decide +kernel
theorem dL_stop_9 : decode cL_stop 9 = .ok (.lastore, 1) := by decide +kernel
theorem dL_stop_10 : decode cL_stop 10 = .ok (.goto 11, 3) := by decide +kernel
theorem dL_stop_13 : decode cL_stop 13 = .ok (.astore 4, 2) := by decide +kernel
theorem dL_stop_15 : decode cL_stop 15 = .ok (.iconst 1, 1) := by decide +kernel
theorem dL_stop_16 : decode cL_stop 16 = .ok (.ireturn, 1) := by decide +kernel
theorem dL_stop_17 : decode cL_stop 17 = .ok (.astore 4, 2) := by decide +kernel
theorem dL_stop_19 : decode cL_stop 19 = .ok (.iconst 2, 1) := by decide +kernel
theorem dL_stop_20 : decode cL_stop 20 = .ok (.ireturn, 1) := by decide +kernel
theorem dL_stop_21 : decode cL_stop 21 = .ok (.iconst 0, 1) := by decide +kernel
theorem dL_stop_22 : decode cL_stop 22 = .ok (.ireturn, 1) := by decide +kernel
set_option maxRecDepth 20000 in
theorem ggL_threshold_X2_threshold : GoodIn wsL_threshold wsX2_threshold := goodIn_ca (goodIn_r _ [6, 7, 8, 9, 10, 11, 5, 12, 13, 14, 15, 16, 17, 18, 19, 20, 21, 22, 23, 24, 25, 26, 27] (by decide +kernel) (by decide +kernel)) (goodIn_sub (fun _ h => List.mem_cons_of_mem _ (List.mem_append_right _ h)) (by decide +kernel))
set_option maxRecDepth 20000 in
theorem gL_threshold_X2_threshold : GoodIn wsL_threshold (wsV RL 30 RX2 yX2_threshold wsX2_threshold) := goodIn_app (goodIn_of _ (by decide +kernel)) ggL_threshold_X2_threshold
theorem dL_threshold_0 : decode cL_threshold 0 = .ok (.aload_n 2, 1) := by decide +kernel
theorem dL_threshold_1 : decode cL_threshold 1 = .ok (.iconst 0, 1) := by decide +kernel
theorem dL_threshold_2 : decode cL_threshold 2 = .ok (.aload_n 0, 1) := by decide +kernel
theorem dL_threshold_3 : decode cL_threshold 3 = .ok (.iload_n 1, 1) := by decide +kernel
theorem dL_threshold_4 : decode cL_threshold 4 = .ok (.invokevirtual 30, 3) := by decide +kernel
theorem dL_threshold_7 : decode cL_threshold 7 = .ok (.i2l, 1) := by decide +kernel
theorem dL_threshold_8 : decode cL_threshold 8 = .ok (.lastore, 1) := by decide +kernel
theorem dL_threshold_9 : decode cL_threshold 9 = .ok (.goto 6, 3) := by decide +kernel
theorem dL_threshold_12 : decode cL_threshold 12 = .ok (.astore_n 3, 1) := by decide +kernel
theorem dL_threshold_13 : decode cL_threshold 13 = .ok (.iconst 1, 1) := by decide +kernel
theorem dL_threshold_14 : decode cL_threshold 14 = .ok (.ireturn, 1) := by decide +kernel
theorem dL_threshold_15 : decode cL_threshold 15 = .ok (.iconst 0, 1) := by decide +kernel
theorem dL_threshold_16 : decode cL_threshold 16 = .ok (.ireturn, 1) := by decide +kernel
set_option maxRecDepth 20000 in
theorem ggL_find_X2_find : GoodIn wsL_find wsX2_find := goodIn_ca (goodIn_ca (goodIn_ca (goodIn_r _ [8, 9, 10, 11, 12, 13, 14, 15, 16, 17, 18, 19, 20, 21, 7, 22, 23, 24, 25, 26, 27, 28, 29, 30, 31, 32, 33, 34, 35, 36, 37, 38, 39, 40, 41, 42, 43, 44, 45, 46, 47, 48, 49, 50, 51, 52, 53, 54, 55, 56, 57, 58, 59, 60, 61, 62, 63, 64, 65, 66, 67, 68, 69, 70, 71, 72, 73, 74, 75, 76, 77, 78, 79, 80, 81, 82, 83, 84, 85, 86, 87, 88, 89, 90, 91, 92, 93, 94, 95, 96, 97, 98, 99, 100, 101, 102] (by decide +kernel) (by decide +kernel)) (goodIn_sub (fun _ h => List.mem_cons_of_mem _ (List.mem_append_left _ (List.mem_append_left _ (List.mem_append_right _ h)))) (by decide +kernel))) (goodIn_sub (fun _ h => List.mem_cons_of_mem _ (List.mem_append_left _ (List.mem_append_right _ h))) (by decide +kernel))) (goodIn_sub (fun _ h => List.mem_cons_of_mem _ (List.mem_append_right _ h)) (by decide +kernel))
set_option maxRecDepth 20000 in
theorem gL_find_X2_find : GoodIn wsL_find (wsV RL 34 RX2 yX2_find wsX2_find) := goodIn_app (goodIn_of _ (by decide +kernel)) ggL_find_X2_find
theorem dL_find_0 : decode cL_find 0 = .ok (.aload 8, 2) := by decide +kernel
theorem dL_find_2 : decode cL_find 2 = .ok (.iconst 0, 1) := by decide +kernel
theorem dL_find_3 : decode cL_find 3 = .ok (.aload_n 0, 1) := by decide +kernel
theorem dL_find_4 : decode cL_find 4 = .ok (.iload_n 1, 1) := by decide +kernel
theorem dL_find_5 : decode cL_find 5 = .ok (.iload_n 2, 1) := by decide +kernel
theorem dL_find_6 : decode cL_find 6 = .ok (.iload_n 3, 1) := by decide +kernel
theorem dL_find_7 : decode cL_find 7 = .ok (.iload 4, 2) := by decide +kernel
theorem dL_find_9 : decode cL_find 9 = .ok (.iload 5, 2) := by decide +kernel
theorem dL_find_11 : decode cL_find 11 = .ok (.iload 6, 2) := by decide +kernel
theorem dL_find_13 : decode cL_find 13 = .ok (.iload 7, 2) := by decide +kernel
theorem dL_find_15 : decode cL_find 15 = .ok (.invokevirtual 34, 3) := by decide +kernel
theorem dL_find_18 : decode cL_find 18 = .ok (.i2l, 1) := by decide +kernel
theorem dL_find_19 : decode cL_find 19 = .ok (.lastore, 1) := by decide +kernel
theorem dL_find_20 : decode cL_find 20 = .ok (.goto 15, 3) := by decide +kernel
theorem dL_find_23 : decode cL_find 23 = .ok (.astore 9, 2) := by decide +kernel
theorem dL_find_25 : decode cL_find 25 = .ok (.iconst 1, 1) := by decide +kernel
theorem dL_find_26 : decode cL_find 26 = .ok (.ireturn, 1) := by decide +kernel
theorem dL_find_27 : decode cL_find 27 = .ok (.astore 9, 2) := by decide +kernel
theorem dL_find_29 : decode cL_find 29 = .ok (.iconst 2, 1) := by decide +kernel
theorem dL_find_30 : decode cL_find 30 = .ok (.ireturn, 1) := by decide +kernel
theorem dL_find_31 : decode cL_find 31 = .ok (.astore 9, 2) := by decide +kernel
theorem dL_find_33 : decode cL_find 33 = .ok (.iconst 3, 1) := by decide +kernel
theorem dL_find_34 : decode cL_find 34 = .ok (.ireturn, 1) := by decide +kernel
theorem dL_find_35 : decode cL_find 35 = .ok (.iconst 0, 1) := by decide +kernel
theorem dL_find_36 : decode cL_find 36 = .ok (.ireturn, 1) := by decide +kernel
set_option maxRecDepth 20000 in
theorem ggL_see_X2_see : GoodIn wsL_see wsX2_see := goodIn_ca (goodIn_ca (goodIn_ca (goodIn_r _ [8, 9, 10, 11, 12, 13, 14, 15, 16, 17, 18, 7, 19, 20, 21, 22, 23, 24, 25, 26, 27, 28, 29, 30, 31, 32, 33, 34, 35, 36, 37, 38, 39, 40, 41, 42, 43, 44, 45, 46, 47, 48, 49, 50, 51, 52, 53, 54, 55, 56, 57, 58, 59, 60, 61, 62, 63, 64, 65, 66] (by decide +kernel) (by decide +kernel)) (goodIn_sub (fun _ h => List.mem_cons_of_mem _ (List.mem_append_left _ (List.mem_append_left _ (List.mem_append_right _ h)))) (by decide +kernel))) (goodIn_sub (fun _ h => List.mem_cons_of_mem _ (List.mem_append_left _ (List.mem_append_right _ h))) (by decide +kernel))) (goodIn_sub (fun _ h => List.mem_cons_of_mem _ (List.mem_append_right _ h)) (by decide +kernel))
set_option maxRecDepth 20000 in
theorem gL_see_X2_see : GoodIn wsL_see (wsV RL 38 RX2 yX2_see wsX2_see) := goodIn_app (goodIn_of _ (by decide +kernel)) ggL_see_X2_see
theorem dL_see_0 : decode cL_see 0 = .ok (.aload_n 3, 1) := by decide +kernel
theorem dL_see_1 : decode cL_see 1 = .ok (.iconst 0, 1) := by decide +kernel
theorem dL_see_2 : decode cL_see 2 = .ok (.aload_n 0, 1) := by decide +kernel
theorem dL_see_3 : decode cL_see 3 = .ok (.iload_n 1, 1) := by decide +kernel
theorem dL_see_4 : decode cL_see 4 = .ok (.iload_n 2, 1) := by decide +kernel
theorem dL_see_5 : decode cL_see 5 = .ok (.invokevirtual 38, 3) := by decide +kernel
theorem dL_see_8 : decode cL_see 8 = .ok (.i2l, 1) := by decide +kernel
theorem dL_see_9 : decode cL_see 9 = .ok (.lastore, 1) := by decide +kernel
theorem dL_see_10 : decode cL_see 10 = .ok (.goto 15, 3) := by decide +kernel
theorem dL_see_13 : decode cL_see 13 = .ok (.astore 4, 2) := by decide +kernel
theorem dL_see_15 : decode cL_see 15 = .ok (.iconst 1, 1) := by decide +kernel
theorem dL_see_16 : decode cL_see 16 = .ok (.ireturn, 1) := by decide +kernel
theorem dL_see_17 : decode cL_see 17 = .ok (.astore 4, 2) := by decide +kernel
theorem dL_see_19 : decode cL_see 19 = .ok (.iconst 2, 1) := by decide +kernel
theorem dL_see_20 : decode cL_see 20 = .ok (.ireturn, 1) := by decide +kernel
theorem dL_see_21 : decode cL_see 21 = .ok (.astore 4, 2) := by decide +kernel
theorem dL_see_23 : decode cL_see 23 = .ok (.iconst 3, 1) := by decide +kernel
theorem dL_see_24 : decode cL_see 24 = .ok (.ireturn, 1) := by decide +kernel
theorem dL_see_25 : decode cL_see 25 = .ok (.iconst 0, 1) := by decide +kernel
theorem dL_see_26 : decode cL_see 26 = .ok (.ireturn, 1) := by decide +kernel
set_option maxRecDepth 20000 in
theorem ggL_send_X2_send : GoodIn wsL_send wsX2_send := goodIn_ca (goodIn_ca (goodIn_r _ [7, 8, 9, 10, 11, 12, 13, 14, 6, 15, 16, 17, 18, 19, 20, 21, 22, 23, 24, 25, 26, 27, 28, 29, 30, 31, 32, 33, 34, 35, 36, 37, 38, 39, 40, 41, 42, 43, 44, 45, 46, 47, 48, 49, 50, 51, 52, 53, 54] (by decide +kernel) (by decide +kernel)) (goodIn_sub (fun _ h => List.mem_cons_of_mem _ (List.mem_append_left _ (List.mem_append_right _ h))) (by decide +kernel))) (goodIn_sub (fun _ h => List.mem_cons_of_mem _ (List.mem_append_right _ h)) (by decide +kernel))
set_option maxRecDepth 20000 in
theorem gL_send_X2_send : GoodIn wsL_send (wsV RL 41 RX2 yX2_send wsX2_send) := goodIn_app (goodIn_of _ (by decide +kernel)) ggL_send_X2_send
theorem dL_send_0 : decode cL_send 0 = .ok (.aload_n 3, 1) := by decide +kernel
theorem dL_send_1 : decode cL_send 1 = .ok (.iconst 0, 1) := by decide +kernel
theorem dL_send_2 : decode cL_send 2 = .ok (.aload_n 0, 1) := by decide +kernel
theorem dL_send_3 : decode cL_send 3 = .ok (.iload_n 1, 1) := by decide +kernel
theorem dL_send_4 : decode cL_send 4 = .ok (.iload_n 2, 1) := by decide +kernel
theorem dL_send_5 : decode cL_send 5 = .ok (.invokevirtual 41, 3) := by decide +kernel
theorem dL_send_8 : decode cL_send 8 = .ok (.i2l, 1) := by decide +kernel
theorem dL_send_9 : decode cL_send 9 = .ok (.lastore, 1) := by decide +kernel
theorem dL_send_10 : decode cL_send 10 = .ok (.goto 11, 3) := by decide +kernel
theorem dL_send_13 : decode cL_send 13 = .ok (.astore 4, 2) := by decide +kernel
theorem dL_send_15 : decode cL_send 15 = .ok (.iconst 1, 1) := by decide +kernel
theorem dL_send_16 : decode cL_send 16 = .ok (.ireturn, 1) := by decide +kernel
theorem dL_send_17 : decode cL_send 17 = .ok (.astore 4, 2) := by decide +kernel
theorem dL_send_19 : decode cL_send 19 = .ok (.iconst 2, 1) := by decide +kernel
theorem dL_send_20 : decode cL_send 20 = .ok (.ireturn, 1) := by decide +kernel
theorem dL_send_21 : decode cL_send 21 = .ok (.iconst 0, 1) := by decide +kernel
theorem dL_send_22 : decode cL_send 22 = .ok (.ireturn, 1) := by decide +kernel
set_option maxRecDepth 20000 in
theorem ggL_lose_X2_lose : GoodIn wsL_lose wsX2_lose := goodIn_ca (goodIn_r _ [6, 7, 8, 9, 10, 11, 5, 12, 13, 14, 15, 16, 17, 18, 19, 20, 21, 22, 23, 24, 25, 26, 27, 28, 29, 30, 31, 32, 33, 34, 35, 36, 37, 38, 39, 40, 41, 42, 43, 44, 45, 46, 47] (by decide +kernel) (by decide +kernel)) (goodIn_sub (fun _ h => List.mem_cons_of_mem _ (List.mem_append_right _ h)) (by decide +kernel))
set_option maxRecDepth 20000 in
theorem gL_lose_X2_lose : GoodIn wsL_lose (wsV RL 44 RX2 yX2_lose wsX2_lose) := goodIn_app (goodIn_of _ (by decide +kernel)) ggL_lose_X2_lose
theorem dL_lose_0 : decode cL_lose 0 = .ok (.aload_n 2, 1) := by decide +kernel
theorem dL_lose_1 : decode cL_lose 1 = .ok (.iconst 0, 1) := by decide +kernel
theorem dL_lose_2 : decode cL_lose 2 = .ok (.aload_n 0, 1) := by decide +kernel
theorem dL_lose_3 : decode cL_lose 3 = .ok (.iload_n 1, 1) := by decide +kernel
theorem dL_lose_4 : decode cL_lose 4 = .ok (.invokevirtual 44, 3) := by decide +kernel
theorem dL_lose_7 : decode cL_lose 7 = .ok (.i2l, 1) := by decide +kernel
theorem dL_lose_8 : decode cL_lose 8 = .ok (.lastore, 1) := by decide +kernel
theorem dL_lose_9 : decode cL_lose 9 = .ok (.goto 6, 3) := by decide +kernel
theorem dL_lose_12 : decode cL_lose 12 = .ok (.astore_n 3, 1) := by decide +kernel
theorem dL_lose_13 : decode cL_lose 13 = .ok (.iconst 1, 1) := by decide +kernel
theorem dL_lose_14 : decode cL_lose 14 = .ok (.ireturn, 1) := by decide +kernel
theorem dL_lose_15 : decode cL_lose 15 = .ok (.iconst 0, 1) := by decide +kernel
theorem dL_lose_16 : decode cL_lose 16 = .ok (.ireturn, 1) := by decide +kernel
set_option maxRecDepth 20000 in
theorem ggL_turnUp_X2_turnUp : GoodIn wsL_turnUp wsX2_turnUp := goodIn_ca (goodIn_ca (goodIn_r _ [7, 8, 9, 10, 11, 12, 13, 14, 15, 6, 16, 17, 18, 19, 20, 21, 22, 23, 24, 25, 26, 27, 28, 29, 30, 31, 32, 33, 34, 35, 36, 37, 38, 39, 40, 41, 42, 43, 44, 45, 46, 47, 48, 49, 50, 51, 52, 53, 54, 55, 56, 57, 58, 59, 60, 61, 62, 63, 64, 65, 66, 67, 68, 69] (by decide +kernel) (by decide +kernel)) (goodIn_sub (fun _ h => List.mem_cons_of_mem _ (List.mem_append_left _ (List.mem_append_right _ h))) (by decide +kernel))) (goodIn_sub (fun _ h => List.mem_cons_of_mem _ (List.mem_append_right _ h)) (by decide +kernel))
set_option maxRecDepth 20000 in
theorem gL_turnUp_X2_turnUp : GoodIn wsL_turnUp (wsV RL 47 RX2 yX2_turnUp wsX2_turnUp) := goodIn_app (goodIn_of _ (by decide +kernel)) ggL_turnUp_X2_turnUp
theorem dL_turnUp_0 : decode cL_turnUp 0 = .ok (.aload_n 3, 1) := by decide +kernel
theorem dL_turnUp_1 : decode cL_turnUp 1 = .ok (.iconst 0, 1) := by decide +kernel
theorem dL_turnUp_2 : decode cL_turnUp 2 = .ok (.aload_n 0, 1) := by decide +kernel
theorem dL_turnUp_3 : decode cL_turnUp 3 = .ok (.iload_n 1, 1) := by decide +kernel
theorem dL_turnUp_4 : decode cL_turnUp 4 = .ok (.iload_n 2, 1) := by decide +kernel
theorem dL_turnUp_5 : decode cL_turnUp 5 = .ok (.invokevirtual 47, 3) := by decide +kernel
theorem dL_turnUp_8 : decode cL_turnUp 8 = .ok (.i2l, 1) := by decide +kernel
theorem dL_turnUp_9 : decode cL_turnUp 9 = .ok (.lastore, 1) := by decide +kernel
theorem dL_turnUp_10 : decode cL_turnUp 10 = .ok (.goto 11, 3) := by decide +kernel
theorem dL_turnUp_13 : decode cL_turnUp 13 = .ok (.astore 4, 2) := by decide +kernel
theorem dL_turnUp_15 : decode cL_turnUp 15 = .ok (.iconst 1, 1) := by decide +kernel
theorem dL_turnUp_16 : decode cL_turnUp 16 = .ok (.ireturn, 1) := by decide +kernel
theorem dL_turnUp_17 : decode cL_turnUp 17 = .ok (.astore 4, 2) := by decide +kernel
theorem dL_turnUp_19 : decode cL_turnUp 19 = .ok (.iconst 2, 1) := by decide +kernel
theorem dL_turnUp_20 : decode cL_turnUp 20 = .ok (.ireturn, 1) := by decide +kernel
theorem dL_turnUp_21 : decode cL_turnUp 21 = .ok (.iconst 0, 1) := by decide +kernel
theorem dL_turnUp_22 : decode cL_turnUp 22 = .ok (.ireturn, 1) := by decide +kernel
set_option maxRecDepth 20000 in
theorem ggL_hold_X2_hold : GoodIn wsL_hold wsX2_hold := goodIn_ca (goodIn_ca (goodIn_r _ [7, 8, 9, 10, 11, 12, 13, 6, 14, 15, 16, 17, 18, 19, 20, 21, 22, 23, 24, 25, 26, 27, 28, 29, 30, 31, 32, 33, 34, 35, 36, 37, 38, 39, 40, 41, 42, 43, 44, 45, 46, 47, 48, 49, 50, 51, 52, 53] (by decide +kernel) (by decide +kernel)) (goodIn_sub (fun _ h => List.mem_cons_of_mem _ (List.mem_append_left _ (List.mem_append_right _ h))) (by decide +kernel))) (goodIn_sub (fun _ h => List.mem_cons_of_mem _ (List.mem_append_right _ h)) (by decide +kernel))
set_option maxRecDepth 20000 in
theorem gL_hold_X2_hold : GoodIn wsL_hold (wsV RL 50 RX2 yX2_hold wsX2_hold) := goodIn_app (goodIn_of _ (by decide +kernel)) ggL_hold_X2_hold
theorem dL_hold_0 : decode cL_hold 0 = .ok (.aload_n 3, 1) := by decide +kernel
theorem dL_hold_1 : decode cL_hold 1 = .ok (.iconst 0, 1) := by decide +kernel
theorem dL_hold_2 : decode cL_hold 2 = .ok (.aload_n 0, 1) := by decide +kernel
theorem dL_hold_3 : decode cL_hold 3 = .ok (.iload_n 1, 1) := by decide +kernel
theorem dL_hold_4 : decode cL_hold 4 = .ok (.iload_n 2, 1) := by decide +kernel
theorem dL_hold_5 : decode cL_hold 5 = .ok (.invokevirtual 50, 3) := by decide +kernel
theorem dL_hold_8 : decode cL_hold 8 = .ok (.ifCond .eq 7, 3) := by decide +kernel
theorem dL_hold_11 : decode cL_hold 11 = .ok (.lconst 1, 1) := by decide +kernel
theorem dL_hold_12 : decode cL_hold 12 = .ok (.goto 4, 3) := by decide +kernel
theorem dL_hold_15 : decode cL_hold 15 = .ok (.lconst 0, 1) := by decide +kernel
theorem dL_hold_16 : decode cL_hold 16 = .ok (.lastore, 1) := by decide +kernel
theorem dL_hold_17 : decode cL_hold 17 = .ok (.goto 11, 3) := by decide +kernel
theorem dL_hold_20 : decode cL_hold 20 = .ok (.astore 4, 2) := by decide +kernel
theorem dL_hold_22 : decode cL_hold 22 = .ok (.iconst 1, 1) := by decide +kernel
theorem dL_hold_23 : decode cL_hold 23 = .ok (.ireturn, 1) := by decide +kernel
theorem dL_hold_24 : decode cL_hold 24 = .ok (.astore 4, 2) := by decide +kernel
theorem dL_hold_26 : decode cL_hold 26 = .ok (.iconst 2, 1) := by decide +kernel
theorem dL_hold_27 : decode cL_hold 27 = .ok (.ireturn, 1) := by decide +kernel
theorem dL_hold_28 : decode cL_hold 28 = .ok (.iconst 0, 1) := by decide +kernel
theorem dL_hold_29 : decode cL_hold 29 = .ok (.ireturn, 1) := by decide +kernel
set_option maxRecDepth 20000 in
theorem ggL_claim_X2_claim : GoodIn wsL_claim wsX2_claim := goodIn_ca (goodIn_ca (goodIn_ca (goodIn_r _ [8, 9, 10, 11, 12, 13, 14, 15, 16, 17, 18, 19, 20, 7, 21, 22, 23, 24, 25, 26, 27, 28, 29, 30, 31, 32, 33, 34, 35, 36, 37, 38, 39, 40, 41, 42, 43, 44, 45, 46, 47, 48, 49, 50, 51, 52, 53, 54, 55, 56, 57, 58, 59, 60, 61, 62, 63, 64, 65, 66, 67, 68, 69, 70, 71, 72, 73, 74] (by decide +kernel) (by decide +kernel)) (goodIn_sub (fun _ h => List.mem_cons_of_mem _ (List.mem_append_left _ (List.mem_append_left _ (List.mem_append_right _ h)))) (by decide +kernel))) (goodIn_sub (fun _ h => List.mem_cons_of_mem _ (List.mem_append_left _ (List.mem_append_right _ h))) (by decide +kernel))) (goodIn_sub (fun _ h => List.mem_cons_of_mem _ (List.mem_append_right _ h)) (by decide +kernel))
set_option maxRecDepth 20000 in
theorem gL_claim_X2_claim : GoodIn wsL_claim (wsV RL 54 RX2 yX2_claim wsX2_claim) := goodIn_app (goodIn_of _ (by decide +kernel)) ggL_claim_X2_claim
theorem dL_claim_0 : decode cL_claim 0 = .ok (.aload 6, 2) := by decide +kernel
theorem dL_claim_2 : decode cL_claim 2 = .ok (.iconst 0, 1) := by decide +kernel
theorem dL_claim_3 : decode cL_claim 3 = .ok (.aload_n 0, 1) := by decide +kernel
theorem dL_claim_4 : decode cL_claim 4 = .ok (.iload_n 1, 1) := by decide +kernel
theorem dL_claim_5 : decode cL_claim 5 = .ok (.iload_n 2, 1) := by decide +kernel
theorem dL_claim_6 : decode cL_claim 6 = .ok (.iload_n 3, 1) := by decide +kernel
theorem dL_claim_7 : decode cL_claim 7 = .ok (.iload 4, 2) := by decide +kernel
theorem dL_claim_9 : decode cL_claim 9 = .ok (.iload 5, 2) := by decide +kernel
theorem dL_claim_11 : decode cL_claim 11 = .ok (.invokevirtual 54, 3) := by decide +kernel
theorem dL_claim_14 : decode cL_claim 14 = .ok (.i2l, 1) := by decide +kernel
theorem dL_claim_15 : decode cL_claim 15 = .ok (.lastore, 1) := by decide +kernel
theorem dL_claim_16 : decode cL_claim 16 = .ok (.goto 15, 3) := by decide +kernel
theorem dL_claim_19 : decode cL_claim 19 = .ok (.astore 7, 2) := by decide +kernel
theorem dL_claim_21 : decode cL_claim 21 = .ok (.iconst 1, 1) := by decide +kernel
theorem dL_claim_22 : decode cL_claim 22 = .ok (.ireturn, 1) := by decide +kernel
theorem dL_claim_23 : decode cL_claim 23 = .ok (.astore 7, 2) := by decide +kernel
theorem dL_claim_25 : decode cL_claim 25 = .ok (.iconst 2, 1) := by decide +kernel
theorem dL_claim_26 : decode cL_claim 26 = .ok (.ireturn, 1) := by decide +kernel
theorem dL_claim_27 : decode cL_claim 27 = .ok (.astore 7, 2) := by decide +kernel
theorem dL_claim_29 : decode cL_claim 29 = .ok (.iconst 3, 1) := by decide +kernel
theorem dL_claim_30 : decode cL_claim 30 = .ok (.ireturn, 1) := by decide +kernel
theorem dL_claim_31 : decode cL_claim 31 = .ok (.iconst 0, 1) := by decide +kernel
theorem dL_claim_32 : decode cL_claim 32 = .ok (.ireturn, 1) := by decide +kernel
set_option maxRecDepth 20000 in
theorem ggL_say_X2_say : GoodIn wsL_say wsX2_say := goodIn_ca (goodIn_ca (goodIn_ca (goodIn_r _ [8, 9, 10, 11, 12, 7, 13, 14, 15, 16, 17, 18, 19, 20, 21, 22, 23, 24, 25, 26, 27, 28, 29, 30, 31, 32, 33, 34, 35, 36, 37, 38, 39, 40, 41, 42, 43, 44, 45, 46, 47, 48, 49, 50, 51, 52, 53, 54, 55, 56, 57, 58, 59, 60, 61, 62, 63] (by decide +kernel) (by decide +kernel)) (goodIn_sub (fun _ h => List.mem_cons_of_mem _ (List.mem_append_left _ (List.mem_append_left _ (List.mem_append_right _ h)))) (by decide +kernel))) (goodIn_sub (fun _ h => List.mem_cons_of_mem _ (List.mem_append_left _ (List.mem_append_right _ h))) (by decide +kernel))) (goodIn_sub (fun _ h => List.mem_cons_of_mem _ (List.mem_append_right _ h)) (by decide +kernel))
set_option maxRecDepth 20000 in
theorem gL_say_X2_say : GoodIn wsL_say (wsV RL 58 RX2 yX2_say wsX2_say) := goodIn_app (goodIn_of _ (by decide +kernel)) ggL_say_X2_say
theorem dL_say_0 : decode cL_say 0 = .ok (.aload_n 3, 1) := by decide +kernel
theorem dL_say_1 : decode cL_say 1 = .ok (.iconst 0, 1) := by decide +kernel
theorem dL_say_2 : decode cL_say 2 = .ok (.aload_n 0, 1) := by decide +kernel
theorem dL_say_3 : decode cL_say 3 = .ok (.iload_n 1, 1) := by decide +kernel
theorem dL_say_4 : decode cL_say 4 = .ok (.iload_n 2, 1) := by decide +kernel
theorem dL_say_5 : decode cL_say 5 = .ok (.invokevirtual 58, 3) := by decide +kernel
theorem dL_say_8 : decode cL_say 8 = .ok (.i2l, 1) := by decide +kernel
theorem dL_say_9 : decode cL_say 9 = .ok (.lastore, 1) := by decide +kernel
theorem dL_say_10 : decode cL_say 10 = .ok (.goto 15, 3) := by decide +kernel
theorem dL_say_13 : decode cL_say 13 = .ok (.astore 4, 2) := by decide +kernel
theorem dL_say_15 : decode cL_say 15 = .ok (.iconst 1, 1) := by decide +kernel
theorem dL_say_16 : decode cL_say 16 = .ok (.ireturn, 1) := by decide +kernel
theorem dL_say_17 : decode cL_say 17 = .ok (.astore 4, 2) := by decide +kernel
theorem dL_say_19 : decode cL_say 19 = .ok (.iconst 2, 1) := by decide +kernel
theorem dL_say_20 : decode cL_say 20 = .ok (.ireturn, 1) := by decide +kernel
theorem dL_say_21 : decode cL_say 21 = .ok (.astore 4, 2) := by decide +kernel
theorem dL_say_23 : decode cL_say 23 = .ok (.iconst 3, 1) := by decide +kernel
theorem dL_say_24 : decode cL_say 24 = .ok (.ireturn, 1) := by decide +kernel
theorem dL_say_25 : decode cL_say 25 = .ok (.iconst 0, 1) := by decide +kernel
theorem dL_say_26 : decode cL_say 26 = .ok (.ireturn, 1) := by decide +kernel
set_option maxRecDepth 20000 in
theorem ggL_tell_X2_tell : GoodIn wsL_tell wsX2_tell := goodIn_ca (goodIn_ca (goodIn_ca (goodIn_r _ [8, 9, 10, 11, 12, 13, 7, 14, 15, 16, 17, 18, 19, 20, 21, 22, 23, 24, 25, 26, 27, 28, 29, 30, 31, 32, 33, 34, 35, 36, 37, 38, 39, 40, 41, 42, 43, 44, 45, 46, 47, 48, 49, 50, 51, 52, 53, 54, 55, 56, 57, 58, 59, 60, 61, 62, 63, 64] (by decide +kernel) (by decide +kernel)) (goodIn_sub (fun _ h => List.mem_cons_of_mem _ (List.mem_append_left _ (List.mem_append_left _ (List.mem_append_right _ h)))) (by decide +kernel))) (goodIn_sub (fun _ h => List.mem_cons_of_mem _ (List.mem_append_left _ (List.mem_append_right _ h))) (by decide +kernel))) (goodIn_sub (fun _ h => List.mem_cons_of_mem _ (List.mem_append_right _ h)) (by decide +kernel))
set_option maxRecDepth 20000 in
theorem gL_tell_X2_tell : GoodIn wsL_tell (wsV RL 61 RX2 yX2_tell wsX2_tell) := goodIn_app (goodIn_of _ (by decide +kernel)) ggL_tell_X2_tell
theorem dL_tell_0 : decode cL_tell 0 = .ok (.aload_n 3, 1) := by decide +kernel
theorem dL_tell_1 : decode cL_tell 1 = .ok (.iconst 0, 1) := by decide +kernel
theorem dL_tell_2 : decode cL_tell 2 = .ok (.aload_n 0, 1) := by decide +kernel
theorem dL_tell_3 : decode cL_tell 3 = .ok (.iload_n 1, 1) := by decide +kernel
theorem dL_tell_4 : decode cL_tell 4 = .ok (.iload_n 2, 1) := by decide +kernel
theorem dL_tell_5 : decode cL_tell 5 = .ok (.invokevirtual 61, 3) := by decide +kernel
theorem dL_tell_8 : decode cL_tell 8 = .ok (.i2l, 1) := by decide +kernel
theorem dL_tell_9 : decode cL_tell 9 = .ok (.lastore, 1) := by decide +kernel
theorem dL_tell_10 : decode cL_tell 10 = .ok (.goto 15, 3) := by decide +kernel
theorem dL_tell_13 : decode cL_tell 13 = .ok (.astore 4, 2) := by decide +kernel
theorem dL_tell_15 : decode cL_tell 15 = .ok (.iconst 1, 1) := by decide +kernel
theorem dL_tell_16 : decode cL_tell 16 = .ok (.ireturn, 1) := by decide +kernel
theorem dL_tell_17 : decode cL_tell 17 = .ok (.astore 4, 2) := by decide +kernel
theorem dL_tell_19 : decode cL_tell 19 = .ok (.iconst 2, 1) := by decide +kernel
theorem dL_tell_20 : decode cL_tell 20 = .ok (.ireturn, 1) := by decide +kernel
theorem dL_tell_21 : decode cL_tell 21 = .ok (.astore 4, 2) := by decide +kernel
theorem dL_tell_23 : decode cL_tell 23 = .ok (.iconst 3, 1) := by decide +kernel
theorem dL_tell_24 : decode cL_tell 24 = .ok (.ireturn, 1) := by decide +kernel
theorem dL_tell_25 : decode cL_tell 25 = .ok (.iconst 0, 1) := by decide +kernel
theorem dL_tell_26 : decode cL_tell 26 = .ok (.ireturn, 1) := by decide +kernel
set_option maxRecDepth 20000 in
theorem ggL_withdraw_X2_withdraw : GoodIn wsL_withdraw wsX2_withdraw := goodIn_ca (goodIn_ca (goodIn_r _ [7, 8, 9, 10, 11, 6, 12, 13, 14, 15, 16, 17, 18, 19, 20, 21, 22, 23, 24, 25, 26, 27, 28, 29, 30, 31, 32, 33, 34, 35, 36, 37, 38, 39, 40, 41, 42, 43, 44, 45, 46, 47, 48, 49, 50, 51, 52, 53] (by decide +kernel) (by decide +kernel)) (goodIn_sub (fun _ h => List.mem_cons_of_mem _ (List.mem_append_left _ (List.mem_append_right _ h))) (by decide +kernel))) (goodIn_sub (fun _ h => List.mem_cons_of_mem _ (List.mem_append_right _ h)) (by decide +kernel))
set_option maxRecDepth 20000 in
theorem gL_withdraw_X2_withdraw : GoodIn wsL_withdraw (wsV RL 64 RX2 yX2_withdraw wsX2_withdraw) := goodIn_app (goodIn_of _ (by decide +kernel)) ggL_withdraw_X2_withdraw
theorem dL_withdraw_0 : decode cL_withdraw 0 = .ok (.aload_n 2, 1) := by decide +kernel
theorem dL_withdraw_1 : decode cL_withdraw 1 = .ok (.iconst 0, 1) := by decide +kernel
theorem dL_withdraw_2 : decode cL_withdraw 2 = .ok (.aload_n 0, 1) := by decide +kernel
theorem dL_withdraw_3 : decode cL_withdraw 3 = .ok (.iload_n 1, 1) := by decide +kernel
theorem dL_withdraw_4 : decode cL_withdraw 4 = .ok (.invokevirtual 64, 3) := by decide +kernel
theorem dL_withdraw_7 : decode cL_withdraw 7 = .ok (.i2l, 1) := by decide +kernel
theorem dL_withdraw_8 : decode cL_withdraw 8 = .ok (.lastore, 1) := by decide +kernel
theorem dL_withdraw_9 : decode cL_withdraw 9 = .ok (.goto 9, 3) := by decide +kernel
theorem dL_withdraw_12 : decode cL_withdraw 12 = .ok (.astore_n 3, 1) := by decide +kernel
theorem dL_withdraw_13 : decode cL_withdraw 13 = .ok (.iconst 1, 1) := by decide +kernel
theorem dL_withdraw_14 : decode cL_withdraw 14 = .ok (.ireturn, 1) := by decide +kernel
theorem dL_withdraw_15 : decode cL_withdraw 15 = .ok (.astore_n 3, 1) := by decide +kernel
theorem dL_withdraw_16 : decode cL_withdraw 16 = .ok (.iconst 2, 1) := by decide +kernel
theorem dL_withdraw_17 : decode cL_withdraw 17 = .ok (.ireturn, 1) := by decide +kernel
theorem dL_withdraw_18 : decode cL_withdraw 18 = .ok (.iconst 0, 1) := by decide +kernel
theorem dL_withdraw_19 : decode cL_withdraw 19 = .ok (.ireturn, 1) := by decide +kernel
set_option maxRecDepth 20000 in
theorem ggL_release_X2_release : GoodIn wsL_release wsX2_release := goodIn_ca (goodIn_ca (goodIn_r _ [7, 8, 9, 10, 11, 12, 13, 14, 15, 16, 17, 18, 19, 20, 6, 21, 22, 23, 24, 25, 26, 27, 28, 29, 30, 31, 32, 33, 34, 35, 36, 37, 38, 39, 40, 41, 42, 43, 44, 45, 46, 47, 48, 49, 50, 51, 52, 53, 54, 55, 56, 57, 58, 59, 60, 61, 62, 63, 64, 65, 66, 67, 68, 69, 70, 71, 72, 73, 74, 75, 76, 77, 78, 79, 80, 81, 82, 83, 84, 85, 86, 87, 88, 89, 90, 91, 92, 93, 94, 95, 96, 97, 98, 99, 100, 101, 102, 103, 104, 105, 106, 107, 108, 109, 110, 111, 112, 113, 114, 115, 116, 117, 118, 119, 120, 121, 122, 123, 124, 125, 126, 127, 128, 129, 130, 131, 132, 133, 134, 135, 136, 137, 138, 139, 140, 141, 142, 143, 144, 145, 146, 147, 148, 149, 150, 151, 152, 153, 154, 155, 156, 157, 158, 159, 160, 161] (by decide +kernel) (by decide +kernel)) (goodIn_sub (fun _ h => List.mem_cons_of_mem _ (List.mem_append_left _ (List.mem_append_right _ h))) (by decide +kernel))) (goodIn_sub (fun _ h => List.mem_cons_of_mem _ (List.mem_append_right _ h)) (by decide +kernel))
set_option maxRecDepth 20000 in
theorem gL_release_X2_release : GoodIn wsL_release (wsV RL 67 RX2 yX2_release wsX2_release) := goodIn_app (goodIn_of _ (by decide +kernel)) ggL_release_X2_release
theorem dL_release_0 : decode cL_release 0 = .ok (.aload_n 3, 1) := by decide +kernel
theorem dL_release_1 : decode cL_release 1 = .ok (.iconst 0, 1) := by decide +kernel
theorem dL_release_2 : decode cL_release 2 = .ok (.aload_n 0, 1) := by decide +kernel
theorem dL_release_3 : decode cL_release 3 = .ok (.iload_n 1, 1) := by decide +kernel
theorem dL_release_4 : decode cL_release 4 = .ok (.iload_n 2, 1) := by decide +kernel
theorem dL_release_5 : decode cL_release 5 = .ok (.invokevirtual 67, 3) := by decide +kernel
theorem dL_release_8 : decode cL_release 8 = .ok (.i2l, 1) := by decide +kernel
theorem dL_release_9 : decode cL_release 9 = .ok (.lastore, 1) := by decide +kernel
theorem dL_release_10 : decode cL_release 10 = .ok (.goto 11, 3) := by decide +kernel
theorem dL_release_13 : decode cL_release 13 = .ok (.astore 4, 2) := by decide +kernel
theorem dL_release_15 : decode cL_release 15 = .ok (.iconst 1, 1) := by decide +kernel
theorem dL_release_16 : decode cL_release 16 = .ok (.ireturn, 1) := by decide +kernel
theorem dL_release_17 : decode cL_release 17 = .ok (.astore 4, 2) := by decide +kernel
theorem dL_release_19 : decode cL_release 19 = .ok (.iconst 2, 1) := by decide +kernel
theorem dL_release_20 : decode cL_release 20 = .ok (.ireturn, 1) := by decide +kernel
theorem dL_release_21 : decode cL_release 21 = .ok (.iconst 0, 1) := by decide +kernel
theorem dL_release_22 : decode cL_release 22 = .ok (.ireturn, 1) := by decide +kernel
set_option maxRecDepth 20000 in
theorem ggL_extend_X2_extend : GoodIn wsL_extend wsX2_extend := goodIn_ca (goodIn_ca (goodIn_ca (goodIn_r _ [8, 9, 10, 11, 12, 13, 14, 15, 16, 17, 18, 19, 20, 21, 22, 7, 23, 24, 25, 26, 27, 28, 29, 30, 31, 32, 33, 34, 35, 36, 37, 38, 39, 40, 41, 42, 43, 44, 45, 46, 47, 48, 49, 50, 51, 52, 53, 54, 55, 56, 57, 58, 59, 60, 61, 62, 63, 64, 65] (by decide +kernel) (by decide +kernel)) (goodIn_sub (fun _ h => List.mem_cons_of_mem _ (List.mem_append_left _ (List.mem_append_left _ (List.mem_append_right _ h)))) (by decide +kernel))) (goodIn_sub (fun _ h => List.mem_cons_of_mem _ (List.mem_append_left _ (List.mem_append_right _ h))) (by decide +kernel))) (goodIn_sub (fun _ h => List.mem_cons_of_mem _ (List.mem_append_right _ h)) (by decide +kernel))
set_option maxRecDepth 20000 in
theorem gL_extend_X2_extend : GoodIn wsL_extend (wsV RL 70 RX2 yX2_extend wsX2_extend) := goodIn_app (goodIn_of _ (by decide +kernel)) ggL_extend_X2_extend
theorem dL_extend_0 : decode cL_extend 0 = .ok (.aload_n 3, 1) := by decide +kernel
theorem dL_extend_1 : decode cL_extend 1 = .ok (.iconst 0, 1) := by decide +kernel
theorem dL_extend_2 : decode cL_extend 2 = .ok (.aload_n 0, 1) := by decide +kernel
theorem dL_extend_3 : decode cL_extend 3 = .ok (.iload_n 1, 1) := by decide +kernel
theorem dL_extend_4 : decode cL_extend 4 = .ok (.iload_n 2, 1) := by decide +kernel
theorem dL_extend_5 : decode cL_extend 5 = .ok (.invokevirtual 70, 3) := by decide +kernel
theorem dL_extend_8 : decode cL_extend 8 = .ok (.i2l, 1) := by decide +kernel
theorem dL_extend_9 : decode cL_extend 9 = .ok (.lastore, 1) := by decide +kernel
theorem dL_extend_10 : decode cL_extend 10 = .ok (.goto 15, 3) := by decide +kernel
theorem dL_extend_13 : decode cL_extend 13 = .ok (.astore 4, 2) := by decide +kernel
theorem dL_extend_15 : decode cL_extend 15 = .ok (.iconst 1, 1) := by decide +kernel
theorem dL_extend_16 : decode cL_extend 16 = .ok (.ireturn, 1) := by decide +kernel
theorem dL_extend_17 : decode cL_extend 17 = .ok (.astore 4, 2) := by decide +kernel
theorem dL_extend_19 : decode cL_extend 19 = .ok (.iconst 2, 1) := by decide +kernel
theorem dL_extend_20 : decode cL_extend 20 = .ok (.ireturn, 1) := by decide +kernel
theorem dL_extend_21 : decode cL_extend 21 = .ok (.astore 4, 2) := by decide +kernel
theorem dL_extend_23 : decode cL_extend 23 = .ok (.iconst 3, 1) := by decide +kernel
theorem dL_extend_24 : decode cL_extend 24 = .ok (.ireturn, 1) := by decide +kernel
theorem dL_extend_25 : decode cL_extend 25 = .ok (.iconst 0, 1) := by decide +kernel
theorem dL_extend_26 : decode cL_extend 26 = .ok (.ireturn, 1) := by decide +kernel
set_option maxRecDepth 20000 in
theorem ggL_sell_X2_sell : GoodIn wsL_sell wsX2_sell := goodIn_ca (goodIn_ca (goodIn_ca (goodIn_r _ [8, 9, 10, 11, 12, 13, 14, 15, 16, 17, 18, 19, 20, 21, 7, 22, 23, 24, 25, 26, 27, 28, 29, 30, 31, 32, 33, 34, 35, 36, 37, 38, 39, 40, 41, 42, 43, 44, 45, 46, 47, 48, 49, 50, 51, 52, 53, 54, 55, 56, 57, 58, 59, 60, 61, 62, 63, 64, 65, 66, 67, 68, 69, 70, 71, 72, 73, 74, 75, 76, 77, 78, 79, 80, 81, 82, 83, 84, 85, 86, 87, 88, 89, 90, 91, 92, 93, 94, 95, 96, 97, 98, 99, 100, 101, 102, 103, 104, 105, 106, 107, 108, 109, 110, 111, 112, 113, 114, 115, 116, 117, 118, 119, 120, 121, 122, 123, 124, 125, 126, 127, 128, 129, 130, 131, 132, 133, 134, 135, 136, 137, 138, 139, 140] (by decide +kernel) (by decide +kernel)) (goodIn_sub (fun _ h => List.mem_cons_of_mem _ (List.mem_append_left _ (List.mem_append_left _ (List.mem_append_right _ h)))) (by decide +kernel))) (goodIn_sub (fun _ h => List.mem_cons_of_mem _ (List.mem_append_left _ (List.mem_append_right _ h))) (by decide +kernel))) (goodIn_sub (fun _ h => List.mem_cons_of_mem _ (List.mem_append_right _ h)) (by decide +kernel))
set_option maxRecDepth 20000 in
theorem gL_sell_X2_sell : GoodIn wsL_sell (wsV RL 73 RX2 yX2_sell wsX2_sell) := goodIn_app (goodIn_of _ (by decide +kernel)) ggL_sell_X2_sell
theorem dL_sell_0 : decode cL_sell 0 = .ok (.aload_n 3, 1) := by decide +kernel
theorem dL_sell_1 : decode cL_sell 1 = .ok (.iconst 0, 1) := by decide +kernel
theorem dL_sell_2 : decode cL_sell 2 = .ok (.aload_n 0, 1) := by decide +kernel
theorem dL_sell_3 : decode cL_sell 3 = .ok (.iload_n 1, 1) := by decide +kernel
theorem dL_sell_4 : decode cL_sell 4 = .ok (.iload_n 2, 1) := by decide +kernel
theorem dL_sell_5 : decode cL_sell 5 = .ok (.invokevirtual 73, 3) := by decide +kernel
theorem dL_sell_8 : decode cL_sell 8 = .ok (.i2l, 1) := by decide +kernel
theorem dL_sell_9 : decode cL_sell 9 = .ok (.lastore, 1) := by decide +kernel
theorem dL_sell_10 : decode cL_sell 10 = .ok (.goto 15, 3) := by decide +kernel
theorem dL_sell_13 : decode cL_sell 13 = .ok (.astore 4, 2) := by decide +kernel
theorem dL_sell_15 : decode cL_sell 15 = .ok (.iconst 1, 1) := by decide +kernel
theorem dL_sell_16 : decode cL_sell 16 = .ok (.ireturn, 1) := by decide +kernel
theorem dL_sell_17 : decode cL_sell 17 = .ok (.astore 4, 2) := by decide +kernel
theorem dL_sell_19 : decode cL_sell 19 = .ok (.iconst 2, 1) := by decide +kernel
theorem dL_sell_20 : decode cL_sell 20 = .ok (.ireturn, 1) := by decide +kernel
theorem dL_sell_21 : decode cL_sell 21 = .ok (.astore 4, 2) := by decide +kernel
theorem dL_sell_23 : decode cL_sell 23 = .ok (.iconst 3, 1) := by decide +kernel
theorem dL_sell_24 : decode cL_sell 24 = .ok (.ireturn, 1) := by decide +kernel
theorem dL_sell_25 : decode cL_sell 25 = .ok (.iconst 0, 1) := by decide +kernel
theorem dL_sell_26 : decode cL_sell 26 = .ok (.ireturn, 1) := by decide +kernel
set_option maxRecDepth 20000 in
theorem ggL_destroy_X2_destroy : GoodIn wsL_destroy wsX2_destroy := goodIn_ca (goodIn_ca (goodIn_r _ [7, 8, 9, 10, 11, 12, 13, 14, 6, 15, 16, 17, 18, 19, 20, 21, 22, 23, 24, 25, 26, 27, 28, 29, 30, 31, 32, 33, 34, 35, 36, 37, 38, 39, 40, 41, 42, 43, 44, 45, 46, 47, 48, 49, 50, 51, 52, 53, 54, 55, 56, 57, 58, 59, 60, 61, 62, 63, 64, 65, 66, 67, 68, 69, 70, 71, 72, 73, 74, 75, 76, 77, 78, 79, 80, 81, 82, 83, 84, 85, 86, 87, 88, 89, 90, 91, 92, 93, 94, 95, 96, 97, 98, 99, 100, 101, 102, 103, 104, 105, 106, 107, 108, 109, 110, 111, 112, 113, 114, 115, 116, 117, 118, 119, 120, 121, 122, 123, 124, 125, 126, 127, 128, 129, 130, 131, 132] (by decide +kernel) (by decide +kernel)) (goodIn_sub (fun _ h => List.mem_cons_of_mem _ (List.mem_append_left _ (List.mem_append_right _ h))) (by decide +kernel))) (goodIn_sub (fun _ h => List.mem_cons_of_mem _ (List.mem_append_right _ h)) (by decide +kernel))
set_option maxRecDepth 20000 in
theorem gL_destroy_X2_destroy : GoodIn wsL_destroy (wsV RL 76 RX2 yX2_destroy wsX2_destroy) := goodIn_app (goodIn_of _ (by decide +kernel)) ggL_destroy_X2_destroy
theorem dL_destroy_0 : decode cL_destroy 0 = .ok (.aload_n 2, 1) := by decide +kernel
theorem dL_destroy_1 : decode cL_destroy 1 = .ok (.iconst 0, 1) := by decide +kernel
theorem dL_destroy_2 : decode cL_destroy 2 = .ok (.aload_n 0, 1) := by decide +kernel
theorem dL_destroy_3 : decode cL_destroy 3 = .ok (.iload_n 1, 1) := by decide +kernel
theorem dL_destroy_4 : decode cL_destroy 4 = .ok (.invokevirtual 76, 3) := by decide +kernel
theorem dL_destroy_7 : decode cL_destroy 7 = .ok (.i2l, 1) := by decide +kernel
theorem dL_destroy_8 : decode cL_destroy 8 = .ok (.lastore, 1) := by decide +kernel
theorem dL_destroy_9 : decode cL_destroy 9 = .ok (.goto 9, 3) := by decide +kernel
theorem dL_destroy_12 : decode cL_destroy 12 = .ok (.astore_n 3, 1) := by decide +kernel
theorem dL_destroy_13 : decode cL_destroy 13 = .ok (.iconst 1, 1) := by decide +kernel
theorem dL_destroy_14 : decode cL_destroy 14 = .ok (.ireturn, 1) := by decide +kernel
theorem dL_destroy_15 : decode cL_destroy 15 = .ok (.astore_n 3, 1) := by decide +kernel
theorem dL_destroy_16 : decode cL_destroy 16 = .ok (.iconst 2, 1) := by decide +kernel
theorem dL_destroy_17 : decode cL_destroy 17 = .ok (.ireturn, 1) := by decide +kernel
theorem dL_destroy_18 : decode cL_destroy 18 = .ok (.iconst 0, 1) := by decide +kernel
theorem dL_destroy_19 : decode cL_destroy 19 = .ok (.ireturn, 1) := by decide +kernel
set_option maxRecDepth 20000 in
theorem ggL_payOut_X2_payOut : GoodIn wsL_payOut wsX2_payOut := goodIn_ca (goodIn_ca (goodIn_r _ [7, 8, 9, 10, 11, 12, 13, 14, 15, 16, 17, 18, 19, 20, 21, 22, 23, 6, 24, 25, 26, 27, 28, 29, 30, 31, 32, 33, 34, 35, 36, 37, 38, 39, 40, 41, 42, 43, 44, 45, 46, 47, 48, 49, 50, 51, 52, 53, 54, 55, 56, 57, 58, 59, 60, 61, 62, 63, 64, 65, 66, 67, 68, 69, 70, 71, 72, 73, 74, 75, 76, 77, 78, 79, 80, 81, 82, 83, 84, 85, 86, 87, 88, 89, 90, 91, 92, 93, 94, 95, 96, 97, 98, 99, 100, 101, 102, 103, 104, 105, 106, 107, 108, 109, 110, 111, 112, 113, 114, 115, 116, 117, 118, 119, 120, 121, 122, 123, 124, 125, 126, 127, 128, 129, 130, 131, 132, 133, 134, 135, 136, 137, 138, 139, 140, 141, 142, 143, 144, 145, 146, 147, 148, 149, 150, 151, 152, 153, 154, 155, 156, 157] (by decide +kernel) (by decide +kernel)) (goodIn_sub (fun _ h => List.mem_cons_of_mem _ (List.mem_append_left _ (List.mem_append_right _ h))) (by decide +kernel))) (goodIn_sub (fun _ h => List.mem_cons_of_mem _ (List.mem_append_right _ h)) (by decide +kernel))
set_option maxRecDepth 20000 in
theorem gL_payOut_X2_payOut : GoodIn wsL_payOut (wsV RL 79 RX2 yX2_payOut wsX2_payOut) := goodIn_app (goodIn_of _ (by decide +kernel)) ggL_payOut_X2_payOut
theorem dL_payOut_0 : decode cL_payOut 0 = .ok (.aload_n 3, 1) := by decide +kernel
theorem dL_payOut_1 : decode cL_payOut 1 = .ok (.iconst 0, 1) := by decide +kernel
theorem dL_payOut_2 : decode cL_payOut 2 = .ok (.aload_n 0, 1) := by decide +kernel
theorem dL_payOut_3 : decode cL_payOut 3 = .ok (.iload_n 1, 1) := by decide +kernel
theorem dL_payOut_4 : decode cL_payOut 4 = .ok (.iload_n 2, 1) := by decide +kernel
theorem dL_payOut_5 : decode cL_payOut 5 = .ok (.invokevirtual 79, 3) := by decide +kernel
theorem dL_payOut_8 : decode cL_payOut 8 = .ok (.i2l, 1) := by decide +kernel
theorem dL_payOut_9 : decode cL_payOut 9 = .ok (.lastore, 1) := by decide +kernel
theorem dL_payOut_10 : decode cL_payOut 10 = .ok (.goto 11, 3) := by decide +kernel
theorem dL_payOut_13 : decode cL_payOut 13 = .ok (.astore 4, 2) := by decide +kernel
theorem dL_payOut_15 : decode cL_payOut 15 = .ok (.iconst 1, 1) := by decide +kernel
theorem dL_payOut_16 : decode cL_payOut 16 = .ok (.ireturn, 1) := by decide +kernel
theorem dL_payOut_17 : decode cL_payOut 17 = .ok (.astore 4, 2) := by decide +kernel
theorem dL_payOut_19 : decode cL_payOut 19 = .ok (.iconst 2, 1) := by decide +kernel
theorem dL_payOut_20 : decode cL_payOut 20 = .ok (.ireturn, 1) := by decide +kernel
theorem dL_payOut_21 : decode cL_payOut 21 = .ok (.iconst 0, 1) := by decide +kernel
theorem dL_payOut_22 : decode cL_payOut 22 = .ok (.ireturn, 1) := by decide +kernel
set_option maxRecDepth 20000 in
theorem ggL_pass_X2_pass : GoodIn wsL_pass wsX2_pass := goodIn_ca (goodIn_ca (goodIn_r _ [7, 8, 9, 10, 11, 12, 13, 14, 6, 15, 16, 17, 18, 19, 20, 21, 22, 23, 24, 25, 26, 27, 28, 29, 30, 31, 32, 33, 34, 35, 36, 37, 38, 39, 40, 41, 42, 43, 44, 45, 46, 47, 48, 49, 50, 51, 52, 53, 54, 55, 56, 57, 58, 59, 60, 61, 62, 63, 64, 65, 66, 67, 68, 69, 70, 71, 72, 73, 74, 75, 76, 77, 78, 79, 80, 81, 82, 83, 84, 85, 86, 87, 88, 89, 90] (by decide +kernel) (by decide +kernel)) (goodIn_sub (fun _ h => List.mem_cons_of_mem _ (List.mem_append_left _ (List.mem_append_right _ h))) (by decide +kernel))) (goodIn_sub (fun _ h => List.mem_cons_of_mem _ (List.mem_append_right _ h)) (by decide +kernel))
set_option maxRecDepth 20000 in
theorem gL_pass_X2_pass : GoodIn wsL_pass (wsV RL 82 RX2 yX2_pass wsX2_pass) := goodIn_app (goodIn_of _ (by decide +kernel)) ggL_pass_X2_pass
theorem dL_pass_0 : decode cL_pass 0 = .ok (.aload_n 2, 1) := by decide +kernel
theorem dL_pass_1 : decode cL_pass 1 = .ok (.iconst 0, 1) := by decide +kernel
theorem dL_pass_2 : decode cL_pass 2 = .ok (.aload_n 0, 1) := by decide +kernel
theorem dL_pass_3 : decode cL_pass 3 = .ok (.iload_n 1, 1) := by decide +kernel
theorem dL_pass_4 : decode cL_pass 4 = .ok (.invokevirtual 82, 3) := by decide +kernel
theorem dL_pass_7 : decode cL_pass 7 = .ok (.i2l, 1) := by decide +kernel
theorem dL_pass_8 : decode cL_pass 8 = .ok (.lastore, 1) := by decide +kernel
theorem dL_pass_9 : decode cL_pass 9 = .ok (.goto 9, 3) := by decide +kernel
theorem dL_pass_12 : decode cL_pass 12 = .ok (.astore_n 3, 1) := by decide +kernel
theorem dL_pass_13 : decode cL_pass 13 = .ok (.iconst 1, 1) := by decide +kernel
theorem dL_pass_14 : decode cL_pass 14 = .ok (.ireturn, 1) := by decide +kernel
theorem dL_pass_15 : decode cL_pass 15 = .ok (.astore_n 3, 1) := by decide +kernel
theorem dL_pass_16 : decode cL_pass 16 = .ok (.iconst 2, 1) := by decide +kernel
theorem dL_pass_17 : decode cL_pass 17 = .ok (.ireturn, 1) := by decide +kernel
theorem dL_pass_18 : decode cL_pass 18 = .ok (.iconst 0, 1) := by decide +kernel
theorem dL_pass_19 : decode cL_pass 19 = .ok (.ireturn, 1) := by decide +kernel
set_option maxRecDepth 20000 in
theorem ggL_fit_X2_fit : GoodIn wsL_fit wsX2_fit := goodIn_ca (goodIn_r _ [6, 7, 8, 9, 5, 10, 11, 12, 13, 14, 15, 16, 17, 18, 19, 20, 21, 22, 23, 24, 25, 26, 27, 28, 29, 30, 31, 32, 33, 34, 35, 36, 37, 38, 39, 40, 41, 42, 43, 44, 45, 46, 47, 48, 49, 50, 51, 52, 53, 54, 55, 56, 57, 58, 59, 60, 61, 62, 63, 64, 65, 66, 67, 68, 69, 70, 71, 72, 73, 74, 75, 76, 77, 78, 79, 80, 81, 82, 83, 84, 85, 86, 87, 88, 89, 90, 91, 92, 93, 94, 95, 96, 97, 98, 99, 100, 101, 102, 103, 104, 105, 106, 107, 108, 109, 110, 111, 112, 113, 114] (by decide +kernel) (by decide +kernel)) (goodIn_sub (fun _ h => List.mem_cons_of_mem _ (List.mem_append_right _ h)) (by decide +kernel))
set_option maxRecDepth 20000 in
theorem gL_fit_X2_fit : GoodIn wsL_fit (wsV RL 85 RX2 yX2_fit wsX2_fit) := goodIn_app (goodIn_of _ (by decide +kernel)) ggL_fit_X2_fit
theorem dL_fit_0 : decode cL_fit 0 = .ok (.aload_n 3, 1) := by decide +kernel
theorem dL_fit_1 : decode cL_fit 1 = .ok (.iconst 0, 1) := by decide +kernel
theorem dL_fit_2 : decode cL_fit 2 = .ok (.aload_n 0, 1) := by decide +kernel
theorem dL_fit_3 : decode cL_fit 3 = .ok (.iload_n 1, 1) := by decide +kernel
theorem dL_fit_4 : decode cL_fit 4 = .ok (.iload_n 2, 1) := by decide +kernel
theorem dL_fit_5 : decode cL_fit 5 = .ok (.invokevirtual 85, 3) := by decide +kernel
theorem dL_fit_8 : decode cL_fit 8 = .ok (.i2l, 1) := by decide +kernel
theorem dL_fit_9 : decode cL_fit 9 = .ok (.lastore, 1) := by decide +kernel
theorem dL_fit_10 : decode cL_fit 10 = .ok (.goto 7, 3) := by decide +kernel
theorem dL_fit_13 : decode cL_fit 13 = .ok (.astore 4, 2) := by decide +kernel
theorem dL_fit_15 : decode cL_fit 15 = .ok (.iconst 1, 1) := by decide +kernel
theorem dL_fit_16 : decode cL_fit 16 = .ok (.ireturn, 1) := by decide +kernel
theorem dL_fit_17 : decode cL_fit 17 = .ok (.iconst 0, 1) := by decide +kernel
theorem dL_fit_18 : decode cL_fit 18 = .ok (.ireturn, 1) := by decide +kernel
set_option maxRecDepth 20000 in
theorem ggL_candidate_X2_candidate : GoodIn wsL_candidate wsX2_candidate := goodIn_ca (goodIn_r _ [6, 7, 8, 9, 10, 11, 12, 5, 13, 14, 15, 16, 17, 18, 19, 20, 21, 22, 23, 24, 25, 26, 27, 28, 29, 30, 31, 32, 33, 34, 35, 36, 37, 38, 39, 40, 41, 42, 43, 44, 45, 46, 47, 48, 49, 50, 51, 52, 53, 54, 55, 56, 57, 58, 59, 60, 61, 62, 63, 64, 65, 66, 67, 68, 69, 70, 71, 72, 73, 74, 75, 76, 77, 78, 79, 80, 81, 82, 83, 84, 85, 86, 87, 88, 89, 90, 91, 92, 93, 94, 95, 96, 97, 98, 99, 100, 101, 102, 103, 104, 105, 106, 107, 108, 109, 110, 111, 112, 113, 114, 115, 116, 117, 118, 119, 120, 121, 122, 123, 124, 125, 126, 127, 128, 129, 130, 131] (by decide +kernel) (by decide +kernel)) (goodIn_sub (fun _ h => List.mem_cons_of_mem _ (List.mem_append_right _ h)) (by decide +kernel))
set_option maxRecDepth 20000 in
theorem gL_candidate_X2_candidate : GoodIn wsL_candidate (wsV RL 88 RX2 yX2_candidate wsX2_candidate) := goodIn_app (goodIn_of _ (by decide +kernel)) ggL_candidate_X2_candidate
theorem dL_candidate_0 : decode cL_candidate 0 = .ok (.aload_n 3, 1) := by decide +kernel
theorem dL_candidate_1 : decode cL_candidate 1 = .ok (.iconst 0, 1) := by decide +kernel
theorem dL_candidate_2 : decode cL_candidate 2 = .ok (.aload_n 0, 1) := by decide +kernel
theorem dL_candidate_3 : decode cL_candidate 3 = .ok (.iload_n 1, 1) := by decide +kernel
theorem dL_candidate_4 : decode cL_candidate 4 = .ok (.iload_n 2, 1) := by decide +kernel
theorem dL_candidate_5 : decode cL_candidate 5 = .ok (.invokevirtual 88, 3) := by decide +kernel
theorem dL_candidate_8 : decode cL_candidate 8 = .ok (.i2l, 1) := by decide +kernel
theorem dL_candidate_9 : decode cL_candidate 9 = .ok (.lastore, 1) := by decide +kernel
theorem dL_candidate_10 : decode cL_candidate 10 = .ok (.goto 7, 3) := by decide +kernel
theorem dL_candidate_13 : decode cL_candidate 13 = .ok (.astore 4, 2) := by decide +kernel
theorem dL_candidate_15 : decode cL_candidate 15 = .ok (.iconst 1, 1) := by decide +kernel
theorem dL_candidate_16 : decode cL_candidate 16 = .ok (.ireturn, 1) := by decide +kernel
theorem dL_candidate_17 : decode cL_candidate 17 = .ok (.iconst 0, 1) := by decide +kernel
theorem dL_candidate_18 : decode cL_candidate 18 = .ok (.ireturn, 1) := by decide +kernel
set_option maxRecDepth 20000 in
theorem ggL_question_X2_question : GoodIn wsL_question wsX2_question := goodIn_ca (goodIn_r _ [6, 7, 8, 9, 10, 11, 12, 13, 14, 5, 15, 16, 17, 18, 19, 20, 21, 22, 23, 24, 25, 26, 27, 28, 29, 30, 31, 32, 33, 34, 35, 36, 37, 38, 39, 40, 41, 42, 43, 44, 45, 46, 47, 48, 49, 50, 51, 52, 53, 54, 55, 56, 57, 58, 59, 60, 61, 62, 63, 64, 65, 66, 67, 68, 69, 70, 71, 72, 73, 74, 75, 76, 77, 78, 79, 80, 81, 82, 83, 84, 85, 86, 87, 88, 89, 90, 91, 92, 93, 94, 95, 96, 97, 98, 99, 100, 101, 102, 103, 104, 105, 106, 107, 108, 109, 110, 111, 112, 113, 114, 115, 116, 117, 118, 119, 120, 121, 122, 123, 124, 125, 126, 127, 128, 129, 130, 131, 132, 133, 134] (by decide +kernel) (by decide +kernel)) (goodIn_sub (fun _ h => List.mem_cons_of_mem _ (List.mem_append_right _ h)) (by decide +kernel))
set_option maxRecDepth 20000 in
theorem gL_question_X2_question : GoodIn wsL_question (wsV RL 91 RX2 yX2_question wsX2_question) := goodIn_app (goodIn_of _ (by decide +kernel)) ggL_question_X2_question
theorem dL_question_0 : decode cL_question 0 = .ok (.aload_n 2, 1) := by decide +kernel
theorem dL_question_1 : decode cL_question 1 = .ok (.iconst 0, 1) := by decide +kernel
theorem dL_question_2 : decode cL_question 2 = .ok (.aload_n 0, 1) := by decide +kernel
theorem dL_question_3 : decode cL_question 3 = .ok (.iload_n 1, 1) := by decide +kernel
theorem dL_question_4 : decode cL_question 4 = .ok (.invokevirtual 91, 3) := by decide +kernel
theorem dL_question_7 : decode cL_question 7 = .ok (.i2l, 1) := by decide +kernel
theorem dL_question_8 : decode cL_question 8 = .ok (.lastore, 1) := by decide +kernel
theorem dL_question_9 : decode cL_question 9 = .ok (.goto 6, 3) := by decide +kernel
theorem dL_question_12 : decode cL_question 12 = .ok (.astore_n 3, 1) := by decide +kernel
theorem dL_question_13 : decode cL_question 13 = .ok (.iconst 1, 1) := by decide +kernel
theorem dL_question_14 : decode cL_question 14 = .ok (.ireturn, 1) := by decide +kernel
theorem dL_question_15 : decode cL_question 15 = .ok (.iconst 0, 1) := by decide +kernel
theorem dL_question_16 : decode cL_question 16 = .ok (.ireturn, 1) := by decide +kernel
set_option maxRecDepth 20000 in
theorem ggL_isProven_X2_isProven : GoodIn wsL_isProven wsX2_isProven := goodIn_ca (goodIn_r _ [6, 7, 8, 9, 5, 10, 11, 12, 13, 14, 15, 16, 17, 18, 19, 20, 21, 22, 23, 24, 25, 26, 27, 28, 29, 30, 31, 32, 33, 34, 35, 36, 37, 38, 39, 40, 41, 42, 43, 44, 45, 46, 47, 48, 49, 50, 51, 52, 53, 54, 55, 56, 57, 58, 59, 60, 61, 62, 63, 64, 65, 66, 67, 68, 69, 70, 71, 72, 73, 74, 75, 76] (by decide +kernel) (by decide +kernel)) (goodIn_sub (fun _ h => List.mem_cons_of_mem _ (List.mem_append_right _ h)) (by decide +kernel))
set_option maxRecDepth 20000 in
theorem gL_isProven_X2_isProven : GoodIn wsL_isProven (wsV RL 94 RX2 yX2_isProven wsX2_isProven) := goodIn_app (goodIn_of _ (by decide +kernel)) ggL_isProven_X2_isProven
theorem dL_isProven_0 : decode cL_isProven 0 = .ok (.aload_n 3, 1) := by decide +kernel
theorem dL_isProven_1 : decode cL_isProven 1 = .ok (.iconst 0, 1) := by decide +kernel
theorem dL_isProven_2 : decode cL_isProven 2 = .ok (.aload_n 0, 1) := by decide +kernel
theorem dL_isProven_3 : decode cL_isProven 3 = .ok (.iload_n 1, 1) := by decide +kernel
theorem dL_isProven_4 : decode cL_isProven 4 = .ok (.iload_n 2, 1) := by decide +kernel
theorem dL_isProven_5 : decode cL_isProven 5 = .ok (.invokevirtual 94, 3) := by decide +kernel
theorem dL_isProven_8 : decode cL_isProven 8 = .ok (.ifCond .eq 7, 3) := by decide +kernel
theorem dL_isProven_11 : decode cL_isProven 11 = .ok (.lconst 1, 1) := by decide +kernel
theorem dL_isProven_12 : decode cL_isProven 12 = .ok (.goto 4, 3) := by decide +kernel
theorem dL_isProven_15 : decode cL_isProven 15 = .ok (.lconst 0, 1) := by decide +kernel
theorem dL_isProven_16 : decode cL_isProven 16 = .ok (.lastore, 1) := by decide +kernel
theorem dL_isProven_17 : decode cL_isProven 17 = .ok (.goto 7, 3) := by decide +kernel
theorem dL_isProven_20 : decode cL_isProven 20 = .ok (.astore 4, 2) := by decide +kernel
theorem dL_isProven_22 : decode cL_isProven 22 = .ok (.iconst 1, 1) := by decide +kernel
theorem dL_isProven_23 : decode cL_isProven 23 = .ok (.ireturn, 1) := by decide +kernel
theorem dL_isProven_24 : decode cL_isProven 24 = .ok (.iconst 0, 1) := by decide +kernel
theorem dL_isProven_25 : decode cL_isProven 25 = .ok (.ireturn, 1) := by decide +kernel
set_option maxRecDepth 20000 in
theorem ggL_isDue_X2_isDue : GoodIn wsL_isDue wsX2_isDue := goodIn_ca (goodIn_r _ [6, 7, 8, 9, 5, 10, 11, 12, 13, 14, 15, 16, 17, 18, 19, 20, 21, 22, 23, 24, 25, 26, 27, 28, 29, 30, 31, 32, 33, 34, 35, 36, 37, 38, 39, 40, 41, 42, 43, 44, 45, 46, 47, 48, 49, 50, 51, 52, 53, 54, 55, 56, 57, 58, 59, 60, 61, 62, 63, 64, 65, 66, 67, 68, 69, 70, 71, 72, 73, 74, 75, 76, 77, 78, 79, 80, 81, 82, 83, 84, 85, 86, 87, 88, 89, 90, 91, 92, 93, 94, 95, 96, 97, 98, 99, 100, 101, 102, 103, 104, 105, 106, 107, 108, 109, 110, 111, 112, 113, 114, 115, 116, 117, 118, 119, 120, 121, 122, 123, 124, 125, 126, 127, 128] (by decide +kernel) (by decide +kernel)) (goodIn_sub (fun _ h => List.mem_cons_of_mem _ (List.mem_append_right _ h)) (by decide +kernel))
set_option maxRecDepth 20000 in
theorem gL_isDue_X2_isDue : GoodIn wsL_isDue (wsV RL 97 RX2 yX2_isDue wsX2_isDue) := goodIn_app (goodIn_of _ (by decide +kernel)) ggL_isDue_X2_isDue
theorem dL_isDue_0 : decode cL_isDue 0 = .ok (.aload_n 2, 1) := by decide +kernel
theorem dL_isDue_1 : decode cL_isDue 1 = .ok (.iconst 0, 1) := by decide +kernel
theorem dL_isDue_2 : decode cL_isDue 2 = .ok (.aload_n 0, 1) := by decide +kernel
theorem dL_isDue_3 : decode cL_isDue 3 = .ok (.iload_n 1, 1) := by decide +kernel
theorem dL_isDue_4 : decode cL_isDue 4 = .ok (.invokevirtual 97, 3) := by decide +kernel
theorem dL_isDue_7 : decode cL_isDue 7 = .ok (.ifCond .eq 7, 3) := by decide +kernel
theorem dL_isDue_10 : decode cL_isDue 10 = .ok (.lconst 1, 1) := by decide +kernel
theorem dL_isDue_11 : decode cL_isDue 11 = .ok (.goto 4, 3) := by decide +kernel
theorem dL_isDue_14 : decode cL_isDue 14 = .ok (.lconst 0, 1) := by decide +kernel
theorem dL_isDue_15 : decode cL_isDue 15 = .ok (.lastore, 1) := by decide +kernel
theorem dL_isDue_16 : decode cL_isDue 16 = .ok (.goto 6, 3) := by decide +kernel
theorem dL_isDue_19 : decode cL_isDue 19 = .ok (.astore_n 3, 1) := by decide +kernel
theorem dL_isDue_20 : decode cL_isDue 20 = .ok (.iconst 1, 1) := by decide +kernel
theorem dL_isDue_21 : decode cL_isDue 21 = .ok (.ireturn, 1) := by decide +kernel
theorem dL_isDue_22 : decode cL_isDue 22 = .ok (.iconst 0, 1) := by decide +kernel
theorem dL_isDue_23 : decode cL_isDue 23 = .ok (.ireturn, 1) := by decide +kernel
set_option maxRecDepth 20000 in
theorem ggL_ofFind_X2_ofFind : GoodIn wsL_ofFind wsX2_ofFind := goodIn_ca (goodIn_ca (goodIn_r _ [7, 8, 9, 10, 11, 12, 13, 14, 15, 16, 17, 6, 18, 19, 20, 21, 22, 23, 24, 25, 26, 27, 28, 29, 30, 31, 32, 33, 34, 35, 36, 37, 38, 39, 40, 41, 42, 43, 44, 45, 46, 47, 48, 49, 50, 51] (by decide +kernel) (by decide +kernel)) (goodIn_sub (fun _ h => List.mem_cons_of_mem _ (List.mem_append_left _ (List.mem_append_right _ h))) (by decide +kernel))) (goodIn_sub (fun _ h => List.mem_cons_of_mem _ (List.mem_append_right _ h)) (by decide +kernel))
set_option maxRecDepth 20000 in
theorem gL_ofFind_X2_ofFind : GoodIn wsL_ofFind (wsV RL 101 RX2 yX2_ofFind wsX2_ofFind) := goodIn_app (goodIn_of _ (by decide +kernel)) ggL_ofFind_X2_ofFind
theorem dL_ofFind_0 : decode cL_ofFind 0 = .ok (.aload_n 3, 1) := by decide +kernel
theorem dL_ofFind_1 : decode cL_ofFind 1 = .ok (.iconst 0, 1) := by decide +kernel
theorem dL_ofFind_2 : decode cL_ofFind 2 = .ok (.aload_n 0, 1) := by decide +kernel
theorem dL_ofFind_3 : decode cL_ofFind 3 = .ok (.iload_n 1, 1) := by decide +kernel
theorem dL_ofFind_4 : decode cL_ofFind 4 = .ok (.iload_n 2, 1) := by decide +kernel
theorem dL_ofFind_5 : decode cL_ofFind 5 = .ok (.invokevirtual 101, 3) := by decide +kernel
theorem dL_ofFind_8 : decode cL_ofFind 8 = .ok (.i2l, 1) := by decide +kernel
theorem dL_ofFind_9 : decode cL_ofFind 9 = .ok (.lastore, 1) := by decide +kernel
theorem dL_ofFind_10 : decode cL_ofFind 10 = .ok (.goto 11, 3) := by decide +kernel
theorem dL_ofFind_13 : decode cL_ofFind 13 = .ok (.astore 4, 2) := by decide +kernel
theorem dL_ofFind_15 : decode cL_ofFind 15 = .ok (.iconst 1, 1) := by decide +kernel
theorem dL_ofFind_16 : decode cL_ofFind 16 = .ok (.ireturn, 1) := by decide +kernel
theorem dL_ofFind_17 : decode cL_ofFind 17 = .ok (.astore 4, 2) := by decide +kernel
theorem dL_ofFind_19 : decode cL_ofFind 19 = .ok (.iconst 2, 1) := by decide +kernel
theorem dL_ofFind_20 : decode cL_ofFind 20 = .ok (.ireturn, 1) := by decide +kernel
theorem dL_ofFind_21 : decode cL_ofFind 21 = .ok (.iconst 0, 1) := by decide +kernel
theorem dL_ofFind_22 : decode cL_ofFind 22 = .ok (.ireturn, 1) := by decide +kernel
set_option maxRecDepth 20000 in
theorem ggL_hand_X2_hand : GoodIn wsL_hand wsX2_hand := goodIn_ca (goodIn_r _ [6, 7, 8, 9, 10, 11, 12, 13, 14, 5, 15, 16, 17, 18, 19, 20, 21, 22, 23, 24, 25, 26, 27, 28, 29, 30, 31, 32, 33, 34, 35, 36, 37, 38, 39, 40, 41, 42, 43, 44, 45, 46] (by decide +kernel) (by decide +kernel)) (goodIn_sub (fun _ h => List.mem_cons_of_mem _ (List.mem_append_right _ h)) (by decide +kernel))
set_option maxRecDepth 20000 in
theorem gL_hand_X2_hand : GoodIn wsL_hand (wsV RL 104 RX2 yX2_hand wsX2_hand) := goodIn_app (goodIn_of _ (by decide +kernel)) ggL_hand_X2_hand
theorem dL_hand_0 : decode cL_hand 0 = .ok (.aload 4, 2) := by decide +kernel
theorem dL_hand_2 : decode cL_hand 2 = .ok (.iconst 0, 1) := by decide +kernel
theorem dL_hand_3 : decode cL_hand 3 = .ok (.aload_n 0, 1) := by decide +kernel
theorem dL_hand_4 : decode cL_hand 4 = .ok (.iload_n 1, 1) := by decide +kernel
theorem dL_hand_5 : decode cL_hand 5 = .ok (.iload_n 2, 1) := by decide +kernel
theorem dL_hand_6 : decode cL_hand 6 = .ok (.iload_n 3, 1) := by decide +kernel
theorem dL_hand_7 : decode cL_hand 7 = .ok (.invokevirtual 104, 3) := by decide +kernel
theorem dL_hand_10 : decode cL_hand 10 = .ok (.i2l, 1) := by decide +kernel
theorem dL_hand_11 : decode cL_hand 11 = .ok (.lastore, 1) := by decide +kernel
theorem dL_hand_12 : decode cL_hand 12 = .ok (.goto 7, 3) := by decide +kernel
theorem dL_hand_15 : decode cL_hand 15 = .ok (.astore 5, 2) := by decide +kernel
theorem dL_hand_17 : decode cL_hand 17 = .ok (.iconst 1, 1) := by decide +kernel
theorem dL_hand_18 : decode cL_hand 18 = .ok (.ireturn, 1) := by decide +kernel
theorem dL_hand_19 : decode cL_hand 19 = .ok (.iconst 0, 1) := by decide +kernel
theorem dL_hand_20 : decode cL_hand 20 = .ok (.ireturn, 1) := by decide +kernel
set_option maxRecDepth 20000 in
theorem ggL_ofClaim_X2_ofClaim : GoodIn wsL_ofClaim wsX2_ofClaim := goodIn_ca (goodIn_ca (goodIn_r _ [7, 8, 9, 10, 11, 12, 13, 14, 15, 16, 6, 17, 18, 19, 20, 21, 22, 23, 24, 25, 26, 27, 28, 29, 30, 31, 32, 33, 34, 35, 36, 37, 38, 39, 40, 41, 42, 43, 44, 45] (by decide +kernel) (by decide +kernel)) (goodIn_sub (fun _ h => List.mem_cons_of_mem _ (List.mem_append_left _ (List.mem_append_right _ h))) (by decide +kernel))) (goodIn_sub (fun _ h => List.mem_cons_of_mem _ (List.mem_append_right _ h)) (by decide +kernel))
set_option maxRecDepth 20000 in
theorem gL_ofClaim_X2_ofClaim : GoodIn wsL_ofClaim (wsV RL 108 RX2 yX2_ofClaim wsX2_ofClaim) := goodIn_app (goodIn_of _ (by decide +kernel)) ggL_ofClaim_X2_ofClaim
theorem dL_ofClaim_0 : decode cL_ofClaim 0 = .ok (.aload_n 3, 1) := by decide +kernel
theorem dL_ofClaim_1 : decode cL_ofClaim 1 = .ok (.iconst 0, 1) := by decide +kernel
theorem dL_ofClaim_2 : decode cL_ofClaim 2 = .ok (.aload_n 0, 1) := by decide +kernel
theorem dL_ofClaim_3 : decode cL_ofClaim 3 = .ok (.iload_n 1, 1) := by decide +kernel
theorem dL_ofClaim_4 : decode cL_ofClaim 4 = .ok (.iload_n 2, 1) := by decide +kernel
theorem dL_ofClaim_5 : decode cL_ofClaim 5 = .ok (.invokevirtual 108, 3) := by decide +kernel
theorem dL_ofClaim_8 : decode cL_ofClaim 8 = .ok (.i2l, 1) := by decide +kernel
theorem dL_ofClaim_9 : decode cL_ofClaim 9 = .ok (.lastore, 1) := by decide +kernel
theorem dL_ofClaim_10 : decode cL_ofClaim 10 = .ok (.goto 11, 3) := by decide +kernel
theorem dL_ofClaim_13 : decode cL_ofClaim 13 = .ok (.astore 4, 2) := by decide +kernel
theorem dL_ofClaim_15 : decode cL_ofClaim 15 = .ok (.iconst 1, 1) := by decide +kernel
theorem dL_ofClaim_16 : decode cL_ofClaim 16 = .ok (.ireturn, 1) := by decide +kernel
theorem dL_ofClaim_17 : decode cL_ofClaim 17 = .ok (.astore 4, 2) := by decide +kernel
theorem dL_ofClaim_19 : decode cL_ofClaim 19 = .ok (.iconst 2, 1) := by decide +kernel
theorem dL_ofClaim_20 : decode cL_ofClaim 20 = .ok (.ireturn, 1) := by decide +kernel
theorem dL_ofClaim_21 : decode cL_ofClaim 21 = .ok (.iconst 0, 1) := by decide +kernel
theorem dL_ofClaim_22 : decode cL_ofClaim 22 = .ok (.ireturn, 1) := by decide +kernel
set_option maxRecDepth 20000 in
theorem ggL_money_X2_money : GoodIn wsL_money wsX2_money := goodIn_ca (goodIn_r _ [6, 7, 8, 9, 10, 11, 12, 13, 14, 15, 16, 17, 18, 19, 20, 21, 22, 23, 24, 25, 26] (by decide +kernel) (by decide +kernel)) (goodIn_sub (fun _ h => List.mem_cons_of_mem _ (List.mem_append_right _ h)) (by decide +kernel))
set_option maxRecDepth 20000 in
theorem gL_money_X2_money : GoodIn wsL_money (wsV RL 111 RX2 yX2_money wsX2_money) := goodIn_app (goodIn_of _ (by decide +kernel)) ggL_money_X2_money
theorem dL_money_0 : decode cL_money 0 = .ok (.aload_n 2, 1) := by decide +kernel
theorem dL_money_1 : decode cL_money 1 = .ok (.iconst 0, 1) := by decide +kernel
theorem dL_money_2 : decode cL_money 2 = .ok (.aload_n 0, 1) := by decide +kernel
theorem dL_money_3 : decode cL_money 3 = .ok (.iload_n 1, 1) := by decide +kernel
theorem dL_money_4 : decode cL_money 4 = .ok (.invokevirtual 111, 3) := by decide +kernel
theorem dL_money_7 : decode cL_money 7 = .ok (.i2l, 1) := by decide +kernel
theorem dL_money_8 : decode cL_money 8 = .ok (.lastore, 1) := by decide +kernel
theorem dL_money_9 : decode cL_money 9 = .ok (.goto 6, 3) := by decide +kernel
theorem dL_money_12 : decode cL_money 12 = .ok (.astore_n 3, 1) := by decide +kernel
theorem dL_money_13 : decode cL_money 13 = .ok (.iconst 1, 1) := by decide +kernel
theorem dL_money_14 : decode cL_money 14 = .ok (.ireturn, 1) := by decide +kernel
theorem dL_money_15 : decode cL_money 15 = .ok (.iconst 0, 1) := by decide +kernel
theorem dL_money_16 : decode cL_money 16 = .ok (.ireturn, 1) := by decide +kernel
set_option maxRecDepth 20000 in
theorem ggL_audit_X2_audit : GoodIn wsL_audit wsX2_audit := goodIn_ca (goodIn_r _ [6, 7, 8, 9, 10, 11, 5, 12, 13, 14, 15, 16, 17, 18, 19, 20, 21, 22, 23, 24, 25, 26, 27, 28, 29, 30, 31, 32, 33, 34, 35, 36, 37, 38, 39, 40, 41, 42, 43, 44, 45, 46, 47] (by decide +kernel) (by decide +kernel)) (goodIn_sub (fun _ h => List.mem_cons_of_mem _ (List.mem_append_right _ h)) (by decide +kernel))
set_option maxRecDepth 20000 in
theorem gL_audit_X2_audit : GoodIn wsL_audit (wsV RL 114 RX2 yX2_audit wsX2_audit) := goodIn_app (goodIn_of _ (by decide +kernel)) ggL_audit_X2_audit
theorem dL_audit_0 : decode cL_audit 0 = .ok (.aload_n 2, 1) := by decide +kernel
theorem dL_audit_1 : decode cL_audit 1 = .ok (.iconst 0, 1) := by decide +kernel
theorem dL_audit_2 : decode cL_audit 2 = .ok (.aload_n 0, 1) := by decide +kernel
theorem dL_audit_3 : decode cL_audit 3 = .ok (.iload_n 1, 1) := by decide +kernel
theorem dL_audit_4 : decode cL_audit 4 = .ok (.invokevirtual 114, 3) := by decide +kernel
theorem dL_audit_7 : decode cL_audit 7 = .ok (.i2l, 1) := by decide +kernel
theorem dL_audit_8 : decode cL_audit 8 = .ok (.lastore, 1) := by decide +kernel
theorem dL_audit_9 : decode cL_audit 9 = .ok (.goto 6, 3) := by decide +kernel
theorem dL_audit_12 : decode cL_audit 12 = .ok (.astore_n 3, 1) := by decide +kernel
theorem dL_audit_13 : decode cL_audit 13 = .ok (.iconst 1, 1) := by decide +kernel
theorem dL_audit_14 : decode cL_audit 14 = .ok (.ireturn, 1) := by decide +kernel
theorem dL_audit_15 : decode cL_audit 15 = .ok (.iconst 0, 1) := by decide +kernel
theorem dL_audit_16 : decode cL_audit 16 = .ok (.ireturn, 1) := by decide +kernel
set_option maxRecDepth 20000 in
theorem ggL_law_X2_init : GoodIn wsL_law wsX2_init := goodIn_r _ [9, 10, 11, 12, 13, 14, 15, 16, 17, 18, 19, 20, 21, 22, 23, 24, 25, 26, 27, 28, 29, 30, 741, 742, 743, 744, 745, 746, 747, 748, 749, 750, 751, 752, 753, 754, 755] (by decide +kernel) (by decide +kernel)
set_option maxRecDepth 20000 in
theorem gL_law_X2_init : GoodIn wsL_law (wsX2_init) := ggL_law_X2_init
set_option maxRecDepth 20000 in
theorem ggL_law_X3_init : GoodIn wsL_law wsX3_init := goodIn_r _ [33, 34, 11, 12, 13, 35, 36, 37, 38, 39, 40, 41, 42, 43, 44, 45, 46, 47, 48, 49, 50, 51, 52, 53, 54, 55, 56, 57, 58, 59, 60, 61, 62, 63, 64, 65, 66, 756, 757, 758, 759, 760, 761, 762, 763, 764, 765, 766, 767, 768, 769, 770, 771, 772, 773, 774, 775, 776, 777, 778, 779, 780, 781, 782, 783, 784, 785, 786, 787, 788, 789, 790, 791, 792, 793] (by decide +kernel) (by decide +kernel)
set_option maxRecDepth 20000 in
theorem gL_law_X3_init : GoodIn wsL_law (wsX3_init) := ggL_law_X3_init
set_option maxRecDepth 20000 in
theorem ggL_law_L_near : GoodIn wsL_law wsL_near := goodIn_ca (goodIn_ca (goodIn_r _ [70, 71, 72, 73, 74, 75, 2, 76, 14, 77, 78, 79, 80, 81, 82, 83, 741, 742, 743, 744, 745, 746, 747, 748, 749, 750, 751, 752, 753, 754, 755] (by decide +kernel) (by decide +kernel)) (goodIn_sub (fun _ h => List.mem_append_left _ (List.mem_append_left _ (List.mem_append_right _ h))) (by decide +kernel))) (goodIn_sub (fun _ h => List.mem_append_left _ (List.mem_append_right _ h)) (by decide +kernel))
set_option maxRecDepth 20000 in
theorem gL_law_L_near : GoodIn wsL_law (va_wsS RL 121 yL_near wsL_near) := goodIn_app (goodIn_of _ (by decide +kernel)) ggL_law_L_near
set_option maxRecDepth 20000 in
theorem ggL_law_X3_near : GoodIn wsL_law wsX3_near := goodIn_r _ [87, 35, 88, 89, 5, 90, 91, 92, 93, 94, 95, 96, 97, 98, 756, 757, 758, 759, 760, 761, 762, 763, 764, 765, 766, 767, 768, 769, 770, 771, 772, 773, 774, 775, 776, 777, 778, 779, 780, 781, 782, 783, 784, 785, 786, 787, 788, 789, 790, 791, 792, 793] (by decide +kernel) (by decide +kernel)
set_option maxRecDepth 20000 in
theorem gL_law_X3_near : GoodIn wsL_law (wsV RL 126 RX3 yX3_near wsX3_near) := goodIn_app (goodIn_of _ (by decide +kernel)) ggL_law_X3_near
set_option maxRecDepth 20000 in
theorem ggL_law_X3_thrown : GoodIn wsL_law wsX3_thrown := goodIn_r _ [102, 98, 756, 757, 758, 759, 760, 761, 762, 763, 764, 765, 766, 767, 768, 769, 770, 771, 772, 773, 774, 775, 776, 777, 778, 779, 780, 781, 782, 783, 784, 785, 786, 787, 788, 789, 790, 791, 792, 793] (by decide +kernel) (by decide +kernel)
set_option maxRecDepth 20000 in
theorem gL_law_X3_thrown : GoodIn wsL_law (wsV RL 127 RX3 yX3_thrown wsX3_thrown) := goodIn_app (goodIn_of _ (by decide +kernel)) ggL_law_X3_thrown
set_option maxRecDepth 20000 in
theorem ggL_law_L_alike : GoodIn wsL_law wsL_alike := goodIn_ca (goodIn_ca (goodIn_r _ [105, 71, 72, 106, 107, 108, 2, 109, 15, 77, 78, 79, 80, 81, 82, 83, 741, 742, 743, 744, 745, 746, 747, 748, 749, 750, 751, 752, 753, 754, 755] (by decide +kernel) (by decide +kernel)) (goodIn_sub (fun _ h => List.mem_append_left _ (List.mem_append_left _ (List.mem_append_right _ h))) (by decide +kernel))) (goodIn_sub (fun _ h => List.mem_append_left _ (List.mem_append_right _ h)) (by decide +kernel))
set_option maxRecDepth 20000 in
theorem gL_law_L_alike : GoodIn wsL_law (va_wsS RL 131 yL_alike wsL_alike) := goodIn_app (goodIn_of _ (by decide +kernel)) ggL_law_L_alike
set_option maxRecDepth 20000 in
theorem ggL_law_X3_alike : GoodIn wsL_law wsX3_alike := goodIn_r _ [113, 36, 114, 115, 5, 116, 91, 92, 93, 94, 95, 96, 97, 98, 756, 757, 758, 759, 760, 761, 762, 763, 764, 765, 766, 767, 768, 769, 770, 771, 772, 773, 774, 775, 776, 777, 778, 779, 780, 781, 782, 783, 784, 785, 786, 787, 788, 789, 790, 791, 792, 793] (by decide +kernel) (by decide +kernel)
set_option maxRecDepth 20000 in
theorem gL_law_X3_alike : GoodIn wsL_law (wsV RL 133 RX3 yX3_alike wsX3_alike) := goodIn_app (goodIn_of _ (by decide +kernel)) ggL_law_X3_alike
set_option maxRecDepth 20000 in
theorem ggL_law_L_rule : GoodIn wsL_law wsL_rule := goodIn_ca (goodIn_ca (goodIn_r _ [119, 71, 72, 120, 121, 122, 2, 123, 80, 81, 82, 83, 17, 18, 124, 125, 126, 741, 742, 743, 744, 745, 746, 747, 748, 749, 750, 751, 752, 753, 754, 755] (by decide +kernel) (by decide +kernel)) (goodIn_sub (fun _ h => List.mem_append_left _ (List.mem_append_left _ (List.mem_append_right _ h))) (by decide +kernel))) (goodIn_sub (fun _ h => List.mem_append_left _ (List.mem_append_right _ h)) (by decide +kernel))
set_option maxRecDepth 20000 in
theorem gL_law_L_rule : GoodIn wsL_law (va_wsS RL 134 yL_rule wsL_rule) := goodIn_app (goodIn_of _ (by decide +kernel)) ggL_law_L_rule
set_option maxRecDepth 20000 in
theorem ggL_law_X3_rule : GoodIn wsL_law wsX3_rule := goodIn_r _ [130, 37, 38, 114, 115, 5, 116, 91, 92, 93, 94, 95, 96, 97, 98, 756, 757, 758, 759, 760, 761, 762, 763, 764, 765, 766, 767, 768, 769, 770, 771, 772, 773, 774, 775, 776, 777, 778, 779, 780, 781, 782, 783, 784, 785, 786, 787, 788, 789, 790, 791, 792, 793] (by decide +kernel) (by decide +kernel)
set_option maxRecDepth 20000 in
theorem gL_law_X3_rule : GoodIn wsL_law (wsV RL 137 RX3 yX3_rule wsX3_rule) := goodIn_app (goodIn_of _ (by decide +kernel)) ggL_law_X3_rule
set_option maxRecDepth 20000 in
theorem ggL_law_L_stop : GoodIn wsL_law wsL_stop := goodIn_ca (goodIn_ca (goodIn_r _ [133, 71, 134, 135, 136, 137, 2, 138, 80, 81, 139, 140, 16, 141, 142, 143, 124, 125, 126, 144, 145, 146, 147, 148, 149, 150, 741, 742, 743, 744, 745, 746, 747, 748, 749, 750, 751, 752, 753, 754, 755] (by decide +kernel) (by decide +kernel)) (goodIn_sub (fun _ h => List.mem_append_left _ (List.mem_append_left _ (List.mem_append_right _ h))) (by decide +kernel))) (goodIn_sub (fun _ h => List.mem_append_right _ h) (by decide +kernel))
set_option maxRecDepth 20000 in
theorem gL_law_L_stop : GoodIn wsL_law (va_wsS RL 138 yL_stop wsL_stop) := goodIn_app (goodIn_of _ (by decide +kernel)) ggL_law_L_stop
set_option maxRecDepth 20000 in
theorem ggL_law_X3_stop : GoodIn wsL_law wsX3_stop := goodIn_r _ [154, 39, 91, 92, 5, 93, 155, 156, 157, 94, 95, 96, 97, 98, 158, 159, 160, 756, 757, 758, 759, 760, 761, 762, 763, 764, 765, 766, 767, 768, 769, 770, 771, 772, 773, 774, 775, 776, 777, 778, 779, 780, 781, 782, 783, 784, 785, 786, 787, 788, 789, 790, 791, 792, 793] (by decide +kernel) (by decide +kernel)
set_option maxRecDepth 20000 in
theorem gL_law_X3_stop : GoodIn wsL_law (wsV RL 140 RX3 yX3_stop wsX3_stop) := goodIn_app (goodIn_of _ (by decide +kernel)) ggL_law_X3_stop
set_option maxRecDepth 20000 in
theorem ggL_law_L_threshold : GoodIn wsL_law wsL_threshold := goodIn_ca (goodIn_r _ [163, 72, 164, 165, 166, 2, 167, 82, 83, 27, 124, 125, 126, 741, 742, 743, 744, 745, 746, 747, 748, 749, 750, 751, 752, 753, 754, 755] (by decide +kernel) (by decide +kernel)) (goodIn_sub (fun _ h => List.mem_append_left _ (List.mem_append_right _ h)) (by decide +kernel))
set_option maxRecDepth 20000 in
theorem gL_law_L_threshold : GoodIn wsL_law (va_wsS RL 141 yL_threshold wsL_threshold) := goodIn_app (goodIn_of _ (by decide +kernel)) ggL_law_L_threshold
set_option maxRecDepth 20000 in
theorem ggL_law_X3_threshold : GoodIn wsL_law wsX3_threshold := goodIn_r _ [171, 40, 91, 92, 5, 93, 94, 95, 96, 97, 98, 756, 757, 758, 759, 760, 761, 762, 763, 764, 765, 766, 767, 768, 769, 770, 771, 772, 773, 774, 775, 776, 777, 778, 779, 780, 781, 782, 783, 784, 785, 786, 787, 788, 789, 790, 791, 792, 793] (by decide +kernel) (by decide +kernel)
set_option maxRecDepth 20000 in
theorem gL_law_X3_threshold : GoodIn wsL_law (wsV RL 144 RX3 yX3_threshold wsX3_threshold) := goodIn_app (goodIn_of _ (by decide +kernel)) ggL_law_X3_threshold
set_option maxRecDepth 20000 in
theorem ggL_law_L_find : GoodIn wsL_law wsL_find := goodIn_ca (goodIn_ca (goodIn_ca (goodIn_r _ [174, 71, 72, 134, 175, 176, 177, 2, 178, 82, 83, 139, 140, 26, 24, 20, 19, 179, 180, 181, 182, 183, 184, 80, 81, 124, 125, 126, 185, 186, 187, 141, 142, 143, 188, 189, 190, 191, 192, 193, 194, 195, 11, 12, 13, 196, 197, 198, 199, 200, 201, 202, 203, 204, 205, 206, 207, 208, 209, 210, 211, 212, 213, 214, 17, 215, 216, 217, 218, 219, 220, 221, 222, 741, 742, 743, 744, 745, 746, 747, 748, 749, 750, 751, 752, 753, 754, 755, 794, 795, 796, 797, 798, 799, 800, 801, 802, 803, 804, 805, 806, 807, 808] (by decide +kernel) (by decide +kernel)) (goodIn_sub (fun _ h => List.mem_append_left _ (List.mem_append_right _ h)) (by decide +kernel))) (goodIn_sub (fun _ h => List.mem_append_right _ h) (by decide +kernel))) (goodIn_sub (fun _ h => List.mem_append_left _ (List.mem_append_left _ (List.mem_append_right _ h))) (by decide +kernel))
set_option maxRecDepth 20000 in
theorem gL_law_L_find : GoodIn wsL_law (va_wsS RL 145 yL_find wsL_find) := goodIn_app (goodIn_of _ (by decide +kernel)) ggL_law_L_find
set_option maxRecDepth 20000 in
theorem ggL_law_X3_find : GoodIn wsL_law wsX3_find := goodIn_r _ [226, 227, 228, 41, 42, 43, 44, 45, 46, 50, 37, 114, 115, 5, 116, 91, 92, 93, 229, 230, 231, 155, 156, 157, 232, 233, 234, 235, 94, 95, 96, 97, 98, 236, 237, 238, 239, 47, 48, 55, 56, 57, 756, 757, 758, 759, 760, 761, 762, 763, 764, 765, 766, 767, 768, 769, 770, 771, 772, 773, 774, 775, 776, 777, 778, 779, 780, 781, 782, 783, 784, 785, 786, 787, 788, 789, 790, 791, 792, 793] (by decide +kernel) (by decide +kernel)
set_option maxRecDepth 20000 in
theorem gL_law_X3_find : GoodIn wsL_law (wsV RL 148 RX3 yX3_find wsX3_find) := goodIn_app (goodIn_of _ (by decide +kernel)) ggL_law_X3_find
set_option maxRecDepth 20000 in
theorem ggL_law_L_see : GoodIn wsL_law wsL_see := goodIn_ca (goodIn_ca (goodIn_ca (goodIn_r _ [242, 71, 72, 134, 243, 244, 245, 2, 246, 82, 83, 139, 140, 247, 248, 249, 250, 251, 252, 253, 80, 81, 20, 188, 189, 190, 191, 124, 125, 126, 144, 145, 146, 147, 148, 149, 150, 794, 795, 796, 797, 798, 799, 800, 801, 802, 803, 804, 805, 806, 807, 808, 741, 742, 743, 744, 745, 746, 747, 748, 749, 750, 751, 752, 753, 754, 755] (by decide +kernel) (by decide +kernel)) (goodIn_sub (fun _ h => List.mem_append_left _ (List.mem_append_right _ h)) (by decide +kernel))) (goodIn_sub (fun _ h => List.mem_append_right _ h) (by decide +kernel))) (goodIn_sub (fun _ h => List.mem_append_left _ (List.mem_append_left _ (List.mem_append_right _ h))) (by decide +kernel))
set_option maxRecDepth 20000 in
theorem gL_law_L_see : GoodIn wsL_law (va_wsS RL 149 yL_see wsL_see) := goodIn_app (goodIn_of _ (by decide +kernel)) ggL_law_L_see
set_option maxRecDepth 20000 in
theorem ggL_law_X3_see : GoodIn wsL_law wsX3_see := goodIn_r _ [257, 45, 47, 44, 258, 259, 260, 5, 261, 228, 91, 92, 93, 232, 233, 234, 235, 94, 95, 96, 97, 98, 158, 159, 160, 756, 757, 758, 759, 760, 761, 762, 763, 764, 765, 766, 767, 768, 769, 770, 771, 772, 773, 774, 775, 776, 777, 778, 779, 780, 781, 782, 783, 784, 785, 786, 787, 788, 789, 790, 791, 792, 793] (by decide +kernel) (by decide +kernel)
set_option maxRecDepth 20000 in
theorem gL_law_X3_see : GoodIn wsL_law (wsV RL 151 RX3 yX3_see wsX3_see) := goodIn_app (goodIn_of _ (by decide +kernel)) ggL_law_X3_see
set_option maxRecDepth 20000 in
theorem ggL_law_L_send : GoodIn wsL_law wsL_send := goodIn_ca (goodIn_ca (goodIn_r _ [264, 71, 134, 265, 266, 267, 2, 268, 139, 140, 248, 269, 250, 251, 252, 253, 80, 81, 20, 141, 142, 143, 124, 125, 126, 794, 795, 796, 797, 798, 799, 800, 801, 802, 803, 804, 805, 806, 807, 808, 741, 742, 743, 744, 745, 746, 747, 748, 749, 750, 751, 752, 753, 754, 755] (by decide +kernel) (by decide +kernel)) (goodIn_sub (fun _ h => List.mem_append_right _ h) (by decide +kernel))) (goodIn_sub (fun _ h => List.mem_append_left _ (List.mem_append_left _ (List.mem_append_right _ h))) (by decide +kernel))
set_option maxRecDepth 20000 in
theorem gL_law_L_send : GoodIn wsL_law (va_wsS RL 152 yL_send wsL_send) := goodIn_app (goodIn_of _ (by decide +kernel)) ggL_law_L_send
set_option maxRecDepth 20000 in
theorem ggL_law_X3_send : GoodIn wsL_law wsX3_send := goodIn_r _ [273, 47, 48, 49, 258, 259, 260, 5, 261, 228, 91, 92, 93, 155, 156, 157, 94, 95, 96, 97, 98, 756, 757, 758, 759, 760, 761, 762, 763, 764, 765, 766, 767, 768, 769, 770, 771, 772, 773, 774, 775, 776, 777, 778, 779, 780, 781, 782, 783, 784, 785, 786, 787, 788, 789, 790, 791, 792, 793] (by decide +kernel) (by decide +kernel)
set_option maxRecDepth 20000 in
theorem gL_law_X3_send : GoodIn wsL_law (wsV RL 154 RX3 yX3_send wsX3_send) := goodIn_app (goodIn_of _ (by decide +kernel)) ggL_law_X3_send
set_option maxRecDepth 20000 in
theorem ggL_law_L_lose : GoodIn wsL_law wsL_lose := goodIn_ca (goodIn_r _ [276, 71, 277, 278, 279, 2, 280, 20, 248, 269, 141, 142, 143, 80, 81, 124, 125, 126, 741, 742, 743, 744, 745, 746, 747, 748, 749, 750, 751, 752, 753, 754, 755, 794, 795, 796, 797, 798, 799, 800, 801, 802, 803, 804, 805, 806, 807, 808] (by decide +kernel) (by decide +kernel)) (goodIn_sub (fun _ h => List.mem_append_left _ (List.mem_append_left _ (List.mem_append_right _ h))) (by decide +kernel))
set_option maxRecDepth 20000 in
theorem gL_law_L_lose : GoodIn wsL_law (va_wsS RL 155 yL_lose wsL_lose) := goodIn_app (goodIn_of _ (by decide +kernel)) ggL_law_L_lose
set_option maxRecDepth 20000 in
theorem ggL_law_X3_lose : GoodIn wsL_law wsX3_lose := goodIn_r _ [284, 228, 47, 49, 155, 156, 5, 157, 91, 92, 93, 94, 95, 96, 97, 98, 756, 757, 758, 759, 760, 761, 762, 763, 764, 765, 766, 767, 768, 769, 770, 771, 772, 773, 774, 775, 776, 777, 778, 779, 780, 781, 782, 783, 784, 785, 786, 787, 788, 789, 790, 791, 792, 793] (by decide +kernel) (by decide +kernel)
set_option maxRecDepth 20000 in
theorem gL_law_X3_lose : GoodIn wsL_law (wsV RL 157 RX3 yX3_lose wsX3_lose) := goodIn_app (goodIn_of _ (by decide +kernel)) ggL_law_X3_lose
set_option maxRecDepth 20000 in
theorem ggL_law_L_turnUp : GoodIn wsL_law wsL_turnUp := goodIn_ca (goodIn_ca (goodIn_r _ [287, 71, 134, 288, 289, 290, 2, 291, 139, 140, 248, 26, 292, 250, 251, 252, 253, 80, 81, 20, 141, 142, 143, 124, 125, 126, 215, 216, 217, 180, 218, 199, 200, 198, 196, 197, 219, 220, 221, 222, 794, 795, 796, 797, 798, 799, 800, 801, 802, 803, 804, 805, 806, 807, 808, 741, 742, 743, 744, 745, 746, 747, 748, 749, 750, 751, 752, 753, 754, 755] (by decide +kernel) (by decide +kernel)) (goodIn_sub (fun _ h => List.mem_append_right _ h) (by decide +kernel))) (goodIn_sub (fun _ h => List.mem_append_left _ (List.mem_append_left _ (List.mem_append_right _ h))) (by decide +kernel))
set_option maxRecDepth 20000 in
theorem gL_law_L_turnUp : GoodIn wsL_law (va_wsS RL 158 yL_turnUp wsL_turnUp) := goodIn_app (goodIn_of _ (by decide +kernel)) ggL_law_L_turnUp
set_option maxRecDepth 20000 in
theorem ggL_law_X3_turnUp : GoodIn wsL_law wsX3_turnUp := goodIn_r _ [296, 47, 55, 258, 259, 260, 5, 261, 228, 91, 92, 93, 155, 156, 157, 94, 95, 96, 97, 98, 236, 237, 238, 239, 48, 56, 57, 227, 756, 757, 758, 759, 760, 761, 762, 763, 764, 765, 766, 767, 768, 769, 770, 771, 772, 773, 774, 775, 776, 777, 778, 779, 780, 781, 782, 783, 784, 785, 786, 787, 788, 789, 790, 791, 792, 793] (by decide +kernel) (by decide +kernel)
set_option maxRecDepth 20000 in
theorem gL_law_X3_turnUp : GoodIn wsL_law (wsV RL 160 RX3 yX3_turnUp wsX3_turnUp) := goodIn_app (goodIn_of _ (by decide +kernel)) ggL_law_X3_turnUp
set_option maxRecDepth 20000 in
theorem ggL_law_L_hold : GoodIn wsL_law wsL_hold := goodIn_ca (goodIn_ca (goodIn_r _ [299, 71, 134, 300, 301, 302, 2, 303, 139, 140, 304, 250, 251, 252, 253, 80, 81, 20, 305, 306, 307, 180, 308, 199, 794, 795, 796, 797, 798, 799, 800, 801, 802, 803, 804, 805, 806, 807, 808, 741, 742, 743, 744, 745, 746, 747, 748, 749, 750, 751, 752, 753, 754, 755] (by decide +kernel) (by decide +kernel)) (goodIn_sub (fun _ h => List.mem_append_right _ h) (by decide +kernel))) (goodIn_sub (fun _ h => List.mem_append_left _ (List.mem_append_left _ (List.mem_append_right _ h))) (by decide +kernel))
set_option maxRecDepth 20000 in
theorem gL_law_L_hold : GoodIn wsL_law (va_wsS RL 161 yL_hold wsL_hold) := goodIn_app (goodIn_of _ (by decide +kernel)) ggL_law_L_hold
set_option maxRecDepth 20000 in
theorem ggL_law_X3_hold : GoodIn wsL_law wsX3_hold := goodIn_r _ [312, 52, 258, 259, 260, 5, 261, 228, 91, 92, 93, 313, 314, 315, 316, 47, 94, 95, 96, 97, 98, 756, 757, 758, 759, 760, 761, 762, 763, 764, 765, 766, 767, 768, 769, 770, 771, 772, 773, 774, 775, 776, 777, 778, 779, 780, 781, 782, 783, 784, 785, 786, 787, 788, 789, 790, 791, 792, 793] (by decide +kernel) (by decide +kernel)
set_option maxRecDepth 20000 in
theorem gL_law_X3_hold : GoodIn wsL_law (wsV RL 164 RX3 yX3_hold wsX3_hold) := goodIn_app (goodIn_of _ (by decide +kernel)) ggL_law_X3_hold
set_option maxRecDepth 20000 in
theorem ggL_law_L_claim : GoodIn wsL_law wsL_claim := goodIn_ca (goodIn_ca (goodIn_ca (goodIn_r _ [319, 71, 72, 134, 320, 321, 322, 2, 323, 82, 83, 139, 140, 26, 25, 22, 21, 324, 325, 182, 183, 184, 80, 81, 124, 125, 126, 185, 186, 187, 188, 189, 190, 191, 326, 327, 328, 329, 11, 12, 330, 331, 332, 333, 334, 335, 336, 337, 338, 339, 741, 742, 743, 744, 745, 746, 747, 748, 749, 750, 751, 752, 753, 754, 755, 809, 810, 811, 812, 813, 814, 815, 816, 817, 818] (by decide +kernel) (by decide +kernel)) (goodIn_sub (fun _ h => List.mem_append_left _ (List.mem_append_right _ h)) (by decide +kernel))) (goodIn_sub (fun _ h => List.mem_append_right _ h) (by decide +kernel))) (goodIn_sub (fun _ h => List.mem_append_left _ (List.mem_append_left _ (List.mem_append_right _ h))) (by decide +kernel))
set_option maxRecDepth 20000 in
theorem gL_law_L_claim : GoodIn wsL_law (va_wsS RL 165 yL_claim wsL_claim) := goodIn_app (goodIn_of _ (by decide +kernel)) ggL_law_L_claim
set_option maxRecDepth 20000 in
theorem ggL_law_X3_claim : GoodIn wsL_law wsX3_claim := goodIn_r _ [343, 227, 344, 58, 59, 60, 61, 62, 63, 64, 66, 114, 115, 5, 116, 91, 92, 93, 229, 230, 231, 232, 233, 234, 235, 94, 95, 96, 97, 98, 756, 757, 758, 759, 760, 761, 762, 763, 764, 765, 766, 767, 768, 769, 770, 771, 772, 773, 774, 775, 776, 777, 778, 779, 780, 781, 782, 783, 784, 785, 786, 787, 788, 789, 790, 791, 792, 793] (by decide +kernel) (by decide +kernel)
set_option maxRecDepth 20000 in
theorem gL_law_X3_claim : GoodIn wsL_law (wsV RL 168 RX3 yX3_claim wsX3_claim) := goodIn_app (goodIn_of _ (by decide +kernel)) ggL_law_X3_claim
set_option maxRecDepth 20000 in
theorem ggL_law_L_say : GoodIn wsL_law wsL_say := goodIn_ca (goodIn_ca (goodIn_ca (goodIn_r _ [347, 71, 72, 134, 348, 349, 350, 2, 351, 352, 353, 354, 355, 356, 80, 81, 22, 188, 189, 190, 82, 83, 191, 124, 125, 126, 357, 358, 359, 139, 140, 360, 144, 145, 146, 147, 148, 149, 150, 809, 810, 811, 812, 813, 814, 815, 816, 817, 818, 741, 742, 743, 744, 745, 746, 747, 748, 749, 750, 751, 752, 753, 754, 755] (by decide +kernel) (by decide +kernel)) (goodIn_sub (fun _ h => List.mem_append_left _ (List.mem_append_left _ (List.mem_append_right _ h))) (by decide +kernel))) (goodIn_sub (fun _ h => List.mem_append_left _ (List.mem_append_right _ h)) (by decide +kernel))) (goodIn_sub (fun _ h => List.mem_append_right _ h) (by decide +kernel))
set_option maxRecDepth 20000 in
theorem gL_law_L_say : GoodIn wsL_law (va_wsS RL 169 yL_say wsL_say) := goodIn_app (goodIn_of _ (by decide +kernel)) ggL_law_L_say
set_option maxRecDepth 20000 in
theorem ggL_law_X3_say : GoodIn wsL_law wsX3_say := goodIn_r _ [364, 62, 365, 366, 367, 5, 368, 64, 369, 370, 371, 372, 344, 91, 92, 93, 232, 233, 234, 235, 94, 95, 96, 97, 98, 158, 159, 160, 756, 757, 758, 759, 760, 761, 762, 763, 764, 765, 766, 767, 768, 769, 770, 771, 772, 773, 774, 775, 776, 777, 778, 779, 780, 781, 782, 783, 784, 785, 786, 787, 788, 789, 790, 791, 792, 793] (by decide +kernel) (by decide +kernel)
set_option maxRecDepth 20000 in
theorem gL_law_X3_say : GoodIn wsL_law (wsV RL 171 RX3 yX3_say wsX3_say) := goodIn_app (goodIn_of _ (by decide +kernel)) ggL_law_X3_say
set_option maxRecDepth 20000 in
theorem ggL_law_L_tell : GoodIn wsL_law wsL_tell := goodIn_ca (goodIn_ca (goodIn_ca (goodIn_r _ [375, 71, 72, 134, 376, 377, 378, 2, 379, 352, 380, 353, 354, 355, 356, 80, 81, 22, 188, 189, 190, 82, 83, 191, 124, 125, 126, 357, 358, 359, 139, 140, 360, 144, 145, 146, 147, 148, 149, 150, 809, 810, 811, 812, 813, 814, 815, 816, 817, 818, 741, 742, 743, 744, 745, 746, 747, 748, 749, 750, 751, 752, 753, 754, 755] (by decide +kernel) (by decide +kernel)) (goodIn_sub (fun _ h => List.mem_append_left _ (List.mem_append_left _ (List.mem_append_right _ h))) (by decide +kernel))) (goodIn_sub (fun _ h => List.mem_append_left _ (List.mem_append_right _ h)) (by decide +kernel))) (goodIn_sub (fun _ h => List.mem_append_right _ h) (by decide +kernel))
set_option maxRecDepth 20000 in
theorem gL_law_L_tell : GoodIn wsL_law (va_wsS RL 172 yL_tell wsL_tell) := goodIn_app (goodIn_of _ (by decide +kernel)) ggL_law_L_tell
set_option maxRecDepth 20000 in
theorem ggL_law_X3_tell : GoodIn wsL_law wsX3_tell := goodIn_r _ [384, 62, 63, 365, 366, 367, 5, 368, 64, 369, 370, 371, 372, 344, 91, 92, 93, 232, 233, 234, 235, 94, 95, 96, 97, 98, 158, 159, 160, 756, 757, 758, 759, 760, 761, 762, 763, 764, 765, 766, 767, 768, 769, 770, 771, 772, 773, 774, 775, 776, 777, 778, 779, 780, 781, 782, 783, 784, 785, 786, 787, 788, 789, 790, 791, 792, 793] (by decide +kernel) (by decide +kernel)
set_option maxRecDepth 20000 in
theorem gL_law_X3_tell : GoodIn wsL_law (wsV RL 174 RX3 yX3_tell wsX3_tell) := goodIn_app (goodIn_of _ (by decide +kernel)) ggL_law_X3_tell
set_option maxRecDepth 20000 in
theorem ggL_law_L_withdraw : GoodIn wsL_law wsL_withdraw := goodIn_ca (goodIn_ca (goodIn_r _ [387, 71, 134, 388, 389, 390, 2, 391, 26, 353, 354, 355, 356, 80, 81, 22, 357, 358, 359, 139, 140, 360, 392, 393, 394, 325, 395, 331, 333, 741, 742, 743, 744, 745, 746, 747, 748, 749, 750, 751, 752, 753, 754, 755, 809, 810, 811, 812, 813, 814, 815, 816, 817, 818] (by decide +kernel) (by decide +kernel)) (goodIn_sub (fun _ h => List.mem_append_left _ (List.mem_append_left _ (List.mem_append_right _ h))) (by decide +kernel))) (goodIn_sub (fun _ h => List.mem_append_right _ h) (by decide +kernel))
set_option maxRecDepth 20000 in
theorem gL_law_L_withdraw : GoodIn wsL_law (va_wsS RL 175 yL_withdraw wsL_withdraw) := goodIn_app (goodIn_of _ (by decide +kernel)) ggL_law_L_withdraw
set_option maxRecDepth 20000 in
theorem ggL_law_X3_withdraw : GoodIn wsL_law wsX3_withdraw := goodIn_r _ [399, 64, 227, 369, 370, 371, 5, 372, 344, 91, 92, 93, 94, 95, 96, 97, 98, 400, 401, 402, 403, 65, 66, 756, 757, 758, 759, 760, 761, 762, 763, 764, 765, 766, 767, 768, 769, 770, 771, 772, 773, 774, 775, 776, 777, 778, 779, 780, 781, 782, 783, 784, 785, 786, 787, 788, 789, 790, 791, 792, 793] (by decide +kernel) (by decide +kernel)
set_option maxRecDepth 20000 in
theorem gL_law_X3_withdraw : GoodIn wsL_law (wsV RL 177 RX3 yX3_withdraw wsX3_withdraw) := goodIn_app (goodIn_of _ (by decide +kernel)) ggL_law_X3_withdraw
set_option maxRecDepth 20000 in
theorem ggL_law_L_release : GoodIn wsL_law wsL_release := goodIn_ca (goodIn_ca (goodIn_r _ [406, 71, 134, 407, 408, 409, 2, 410, 139, 140, 248, 304, 411, 412, 26, 413, 28, 29, 250, 251, 252, 253, 80, 81, 20, 353, 354, 355, 356, 22, 414, 415, 416, 417, 418, 419, 420, 421, 360, 27, 422, 423, 424, 425, 426, 427, 428, 429, 430, 431, 432, 433, 434, 435, 436, 437, 438, 439, 440, 441, 442, 443, 15, 444, 445, 446, 447, 448, 449, 450, 451, 16, 452, 453, 454, 455, 456, 457, 458, 249, 247, 380, 352, 459, 460, 461, 462, 14, 144, 145, 146, 147, 148, 149, 150, 463, 464, 465, 325, 466, 467, 468, 469, 470, 330, 471, 472, 473, 474, 475, 476, 477, 478, 479, 480, 18, 392, 393, 394, 395, 331, 333, 794, 795, 796, 797, 798, 799, 800, 801, 802, 803, 804, 805, 806, 807, 808, 741, 742, 743, 744, 745, 746, 747, 748, 749, 750, 751, 752, 753, 754, 755, 809, 810, 811, 812, 813, 814, 815, 816, 817, 818] (by decide +kernel) (by decide +kernel)) (goodIn_sub (fun _ h => List.mem_append_right _ h) (by decide +kernel))) (goodIn_sub (fun _ h => List.mem_append_left _ (List.mem_append_left _ (List.mem_append_right _ h))) (by decide +kernel))
set_option maxRecDepth 20000 in
theorem gL_law_L_release : GoodIn wsL_law (va_wsS RL 178 yL_release wsL_release) := goodIn_app (goodIn_of _ (by decide +kernel)) ggL_law_L_release
set_option maxRecDepth 20000 in
theorem ggL_law_X3_release : GoodIn wsL_law wsX3_release := goodIn_r _ [484, 47, 52, 46, 38, 41, 485, 486, 258, 259, 260, 5, 261, 228, 91, 92, 93, 369, 370, 371, 372, 344, 487, 488, 489, 490, 491, 492, 493, 494, 64, 40, 495, 496, 497, 498, 36, 58, 42, 59, 43, 61, 60, 44, 45, 63, 62, 35, 499, 500, 501, 502, 39, 503, 504, 505, 506, 158, 159, 160, 507, 508, 509, 510, 94, 95, 96, 97, 98, 400, 401, 402, 403, 65, 227, 66, 756, 757, 758, 759, 760, 761, 762, 763, 764, 765, 766, 767, 768, 769, 770, 771, 772, 773, 774, 775, 776, 777, 778, 779, 780, 781, 782, 783, 784, 785, 786, 787, 788, 789, 790, 791, 792, 793] (by decide +kernel) (by decide +kernel)
set_option maxRecDepth 20000 in
theorem gL_law_X3_release : GoodIn wsL_law (wsV RL 180 RX3 yX3_release wsX3_release) := goodIn_app (goodIn_of _ (by decide +kernel)) ggL_law_X3_release
set_option maxRecDepth 20000 in
theorem ggL_law_L_extend : GoodIn wsL_law wsL_extend := goodIn_ca (goodIn_ca (goodIn_ca (goodIn_r _ [513, 71, 72, 134, 514, 515, 516, 2, 517, 82, 83, 139, 140, 412, 181, 26, 432, 433, 434, 435, 250, 251, 252, 253, 80, 81, 20, 124, 125, 126, 305, 306, 307, 180, 308, 199, 794, 795, 796, 797, 798, 799, 800, 801, 802, 803, 804, 805, 806, 807, 808, 741, 742, 743, 744, 745, 746, 747, 748, 749, 750, 751, 752, 753, 754, 755] (by decide +kernel) (by decide +kernel)) (goodIn_sub (fun _ h => List.mem_append_left _ (List.mem_append_right _ h)) (by decide +kernel))) (goodIn_sub (fun _ h => List.mem_append_right _ h) (by decide +kernel))) (goodIn_sub (fun _ h => List.mem_append_left _ (List.mem_append_left _ (List.mem_append_right _ h))) (by decide +kernel))
set_option maxRecDepth 20000 in
theorem gL_law_L_extend : GoodIn wsL_law (va_wsS RL 181 yL_extend wsL_extend) := goodIn_app (goodIn_of _ (by decide +kernel)) ggL_law_L_extend
set_option maxRecDepth 20000 in
theorem ggL_law_X3_extend : GoodIn wsL_law wsX3_extend := goodIn_r _ [521, 41, 50, 227, 258, 259, 260, 5, 261, 228, 91, 92, 93, 313, 314, 315, 316, 47, 94, 95, 96, 97, 98, 756, 757, 758, 759, 760, 761, 762, 763, 764, 765, 766, 767, 768, 769, 770, 771, 772, 773, 774, 775, 776, 777, 778, 779, 780, 781, 782, 783, 784, 785, 786, 787, 788, 789, 790, 791, 792, 793] (by decide +kernel) (by decide +kernel)
set_option maxRecDepth 20000 in
theorem gL_law_X3_extend : GoodIn wsL_law (wsV RL 183 RX3 yX3_extend wsX3_extend) := goodIn_app (goodIn_of _ (by decide +kernel)) ggL_law_X3_extend
set_option maxRecDepth 20000 in
theorem ggL_law_L_sell : GoodIn wsL_law wsL_sell := goodIn_ca (goodIn_ca (goodIn_ca (goodIn_r _ [524, 71, 72, 134, 525, 526, 527, 2, 528, 82, 83, 139, 140, 412, 248, 529, 26, 530, 30, 250, 251, 252, 253, 80, 81, 20, 124, 125, 126, 531, 532, 533, 534, 181, 304, 535, 536, 537, 538, 22, 418, 419, 420, 421, 360, 27, 422, 423, 424, 425, 426, 427, 428, 429, 430, 431, 432, 433, 434, 435, 436, 437, 438, 439, 440, 441, 442, 443, 15, 444, 445, 446, 447, 448, 449, 450, 451, 16, 452, 453, 454, 455, 456, 457, 458, 249, 247, 380, 352, 459, 460, 461, 462, 14, 144, 145, 146, 147, 148, 149, 150, 794, 795, 796, 797, 798, 799, 800, 801, 802, 803, 804, 805, 806, 807, 808, 741, 742, 743, 744, 745, 746, 747, 748, 749, 750, 751, 752, 753, 754, 755, 809, 810, 811, 812, 813, 814, 815, 816, 817, 818] (by decide +kernel) (by decide +kernel)) (goodIn_sub (fun _ h => List.mem_append_left _ (List.mem_append_right _ h)) (by decide +kernel))) (goodIn_sub (fun _ h => List.mem_append_right _ h) (by decide +kernel))) (goodIn_sub (fun _ h => List.mem_append_left _ (List.mem_append_left _ (List.mem_append_right _ h))) (by decide +kernel))
set_option maxRecDepth 20000 in
theorem gL_law_L_sell : GoodIn wsL_law (va_wsS RL 184 yL_sell wsL_sell) := goodIn_app (goodIn_of _ (by decide +kernel)) ggL_law_L_sell
set_option maxRecDepth 20000 in
theorem ggL_law_X3_sell : GoodIn wsL_law wsX3_sell := goodIn_r _ [542, 41, 47, 53, 54, 227, 543, 258, 259, 260, 5, 261, 228, 91, 92, 93, 544, 545, 546, 547, 50, 52, 344, 491, 492, 493, 494, 64, 40, 495, 496, 497, 498, 36, 58, 42, 59, 43, 61, 60, 44, 45, 63, 62, 35, 499, 500, 501, 502, 39, 94, 95, 96, 97, 98, 756, 757, 758, 759, 760, 761, 762, 763, 764, 765, 766, 767, 768, 769, 770, 771, 772, 773, 774, 775, 776, 777, 778, 779, 780, 781, 782, 783, 784, 785, 786, 787, 788, 789, 790, 791, 792, 793] (by decide +kernel) (by decide +kernel)
set_option maxRecDepth 20000 in
theorem gL_law_X3_sell : GoodIn wsL_law (wsV RL 186 RX3 yX3_sell wsX3_sell) := goodIn_app (goodIn_of _ (by decide +kernel)) ggL_law_X3_sell
set_option maxRecDepth 20000 in
theorem ggL_law_L_destroy : GoodIn wsL_law wsL_destroy := goodIn_ca (goodIn_ca (goodIn_r _ [550, 71, 134, 551, 552, 553, 2, 554, 139, 140, 248, 269, 250, 251, 252, 253, 80, 81, 20, 531, 532, 533, 534, 26, 181, 304, 535, 536, 537, 538, 22, 418, 419, 420, 421, 360, 27, 422, 423, 424, 425, 412, 426, 427, 428, 429, 430, 431, 432, 433, 434, 435, 436, 437, 438, 439, 440, 441, 442, 443, 15, 444, 445, 446, 447, 448, 449, 450, 451, 16, 452, 453, 454, 455, 456, 457, 458, 249, 247, 380, 352, 459, 460, 461, 462, 14, 144, 145, 146, 147, 148, 149, 150, 794, 795, 796, 797, 798, 799, 800, 801, 802, 803, 804, 805, 806, 807, 808, 741, 742, 743, 744, 745, 746, 747, 748, 749, 750, 751, 752, 753, 754, 755, 809, 810, 811, 812, 813, 814, 815, 816, 817, 818] (by decide +kernel) (by decide +kernel)) (goodIn_sub (fun _ h => List.mem_append_right _ h) (by decide +kernel))) (goodIn_sub (fun _ h => List.mem_append_left _ (List.mem_append_left _ (List.mem_append_right _ h))) (by decide +kernel))
set_option maxRecDepth 20000 in
theorem gL_law_L_destroy : GoodIn wsL_law (va_wsS RL 187 yL_destroy wsL_destroy) := goodIn_app (goodIn_of _ (by decide +kernel)) ggL_law_L_destroy
set_option maxRecDepth 20000 in
theorem ggL_law_X3_destroy : GoodIn wsL_law wsX3_destroy := goodIn_r _ [558, 47, 48, 258, 259, 260, 5, 261, 228, 91, 92, 93, 544, 545, 546, 547, 50, 227, 52, 344, 491, 492, 493, 494, 64, 40, 495, 496, 497, 498, 41, 36, 58, 42, 59, 43, 61, 60, 44, 45, 63, 62, 35, 499, 500, 501, 502, 39, 94, 95, 96, 97, 98, 756, 757, 758, 759, 760, 761, 762, 763, 764, 765, 766, 767, 768, 769, 770, 771, 772, 773, 774, 775, 776, 777, 778, 779, 780, 781, 782, 783, 784, 785, 786, 787, 788, 789, 790, 791, 792, 793] (by decide +kernel) (by decide +kernel)
set_option maxRecDepth 20000 in
theorem gL_law_X3_destroy : GoodIn wsL_law (wsV RL 189 RX3 yX3_destroy wsX3_destroy) := goodIn_app (goodIn_of _ (by decide +kernel)) ggL_law_X3_destroy
set_option maxRecDepth 20000 in
theorem ggL_law_L_payOut : GoodIn wsL_law wsL_payOut := goodIn_ca (goodIn_ca (goodIn_r _ [561, 71, 134, 562, 563, 564, 2, 565, 139, 140, 248, 26, 530, 529, 566, 469, 434, 470, 413, 28, 30, 250, 251, 252, 253, 80, 81, 20, 353, 354, 355, 356, 22, 414, 415, 416, 417, 418, 419, 420, 421, 360, 27, 422, 423, 424, 425, 412, 426, 427, 428, 429, 430, 431, 432, 433, 435, 436, 437, 438, 439, 440, 441, 442, 443, 15, 444, 445, 446, 447, 448, 449, 450, 451, 16, 452, 453, 454, 455, 456, 457, 458, 249, 247, 380, 352, 459, 460, 461, 462, 14, 144, 145, 146, 147, 148, 149, 150, 463, 464, 465, 325, 466, 467, 468, 330, 471, 472, 473, 474, 475, 476, 392, 393, 394, 395, 331, 333, 794, 795, 796, 797, 798, 799, 800, 801, 802, 803, 804, 805, 806, 807, 808, 741, 742, 743, 744, 745, 746, 747, 748, 749, 750, 751, 752, 753, 754, 755, 809, 810, 811, 812, 813, 814, 815, 816, 817, 818] (by decide +kernel) (by decide +kernel)) (goodIn_sub (fun _ h => List.mem_append_right _ h) (by decide +kernel))) (goodIn_sub (fun _ h => List.mem_append_left _ (List.mem_append_left _ (List.mem_append_right _ h))) (by decide +kernel))
set_option maxRecDepth 20000 in
theorem gL_law_L_payOut : GoodIn wsL_law (va_wsS RL 190 yL_payOut wsL_payOut) := goodIn_app (goodIn_of _ (by decide +kernel)) ggL_law_L_payOut
set_option maxRecDepth 20000 in
theorem ggL_law_X3_payOut : GoodIn wsL_law wsX3_payOut := goodIn_r _ [570, 47, 227, 54, 53, 485, 543, 258, 259, 260, 5, 261, 228, 91, 92, 93, 369, 370, 371, 372, 344, 487, 488, 489, 490, 491, 492, 493, 494, 64, 40, 495, 496, 497, 498, 41, 36, 58, 42, 59, 43, 61, 60, 44, 45, 63, 62, 35, 499, 500, 501, 502, 39, 503, 504, 505, 506, 158, 159, 160, 507, 508, 509, 510, 94, 95, 96, 97, 98, 400, 401, 402, 403, 65, 66, 756, 757, 758, 759, 760, 761, 762, 763, 764, 765, 766, 767, 768, 769, 770, 771, 772, 773, 774, 775, 776, 777, 778, 779, 780, 781, 782, 783, 784, 785, 786, 787, 788, 789, 790, 791, 792, 793] (by decide +kernel) (by decide +kernel)
set_option maxRecDepth 20000 in
theorem gL_law_X3_payOut : GoodIn wsL_law (wsV RL 192 RX3 yX3_payOut wsX3_payOut) := goodIn_app (goodIn_of _ (by decide +kernel)) ggL_law_X3_payOut
set_option maxRecDepth 20000 in
theorem ggL_law_L_pass : GoodIn wsL_law wsL_pass := goodIn_ca (goodIn_ca (goodIn_r _ [573, 72, 134, 574, 575, 576, 2, 577, 82, 83, 139, 140, 26, 124, 125, 126, 578, 579, 580, 581, 20, 248, 269, 215, 216, 217, 180, 218, 199, 200, 198, 196, 197, 219, 220, 221, 222, 582, 583, 584, 585, 22, 586, 587, 588, 325, 589, 331, 333, 339, 330, 741, 742, 743, 744, 745, 746, 747, 748, 749, 750, 751, 752, 753, 754, 755, 794, 795, 796, 797, 798, 799, 800, 801, 802, 803, 804, 805, 806, 807, 808, 809, 810, 811, 812, 813, 814, 815, 816, 817, 818] (by decide +kernel) (by decide +kernel)) (goodIn_sub (fun _ h => List.mem_append_left _ (List.mem_append_right _ h)) (by decide +kernel))) (goodIn_sub (fun _ h => List.mem_append_right _ h) (by decide +kernel))
set_option maxRecDepth 20000 in
theorem gL_law_L_pass : GoodIn wsL_law (va_wsS RL 193 yL_pass wsL_pass) := goodIn_app (goodIn_of _ (by decide +kernel)) ggL_law_L_pass
set_option maxRecDepth 20000 in
theorem ggL_law_X3_pass : GoodIn wsL_law wsX3_pass := goodIn_r _ [593, 227, 91, 92, 5, 93, 94, 95, 96, 97, 98, 594, 595, 596, 597, 228, 47, 49, 344, 64, 65, 62, 63, 236, 237, 238, 239, 48, 55, 56, 57, 756, 757, 758, 759, 760, 761, 762, 763, 764, 765, 766, 767, 768, 769, 770, 771, 772, 773, 774, 775, 776, 777, 778, 779, 780, 781, 782, 783, 784, 785, 786, 787, 788, 789, 790, 791, 792, 793] (by decide +kernel) (by decide +kernel)
set_option maxRecDepth 20000 in
theorem gL_law_X3_pass : GoodIn wsL_law (wsV RL 195 RX3 yX3_pass wsX3_pass) := goodIn_app (goodIn_of _ (by decide +kernel)) ggL_law_X3_pass
set_option maxRecDepth 20000 in
theorem ggL_law_X2_today : GoodIn wsL_law wsX2_today := goodIn_r _ [601, 26, 741, 742, 743, 744, 745, 746, 747, 748, 749, 750, 751, 752, 753, 754, 755] (by decide +kernel) (by decide +kernel)
set_option maxRecDepth 20000 in
theorem gL_law_X2_today : GoodIn wsL_law (wsV RL 196 RX2 yX2_today wsX2_today) := goodIn_app (goodIn_of _ (by decide +kernel)) ggL_law_X2_today
set_option maxRecDepth 20000 in
theorem ggL_law_X3_today : GoodIn wsL_law wsX3_today := goodIn_r _ [605, 98, 227, 756, 757, 758, 759, 760, 761, 762, 763, 764, 765, 766, 767, 768, 769, 770, 771, 772, 773, 774, 775, 776, 777, 778, 779, 780, 781, 782, 783, 784, 785, 786, 787, 788, 789, 790, 791, 792, 793] (by decide +kernel) (by decide +kernel)
set_option maxRecDepth 20000 in
theorem gL_law_X3_today : GoodIn wsL_law (wsV RL 199 RX3 yX3_today wsX3_today) := goodIn_app (goodIn_of _ (by decide +kernel)) ggL_law_X3_today
set_option maxRecDepth 20000 in
theorem ggL_law_L_fit : GoodIn wsL_law wsL_fit := goodIn_ca (goodIn_r _ [608, 71, 609, 610, 611, 2, 612, 250, 251, 252, 253, 80, 81, 20, 353, 354, 355, 356, 22, 422, 423, 424, 425, 412, 426, 427, 428, 429, 430, 431, 432, 433, 434, 435, 436, 437, 438, 439, 440, 441, 442, 443, 15, 444, 445, 446, 447, 448, 449, 450, 451, 16, 452, 453, 454, 455, 456, 457, 458, 249, 247, 380, 352, 459, 460, 461, 462, 14, 144, 145, 146, 147, 148, 149, 150, 741, 742, 743, 744, 745, 746, 747, 748, 749, 750, 751, 752, 753, 754, 755, 794, 795, 796, 797, 798, 799, 800, 801, 802, 803, 804, 805, 806, 807, 808, 809, 810, 811, 812, 813, 814, 815, 816, 817, 818] (by decide +kernel) (by decide +kernel)) (goodIn_sub (fun _ h => List.mem_append_left _ (List.mem_append_left _ (List.mem_append_right _ h))) (by decide +kernel))
set_option maxRecDepth 20000 in
theorem gL_law_L_fit : GoodIn wsL_law (va_wsS RL 200 yL_fit wsL_fit) := goodIn_app (goodIn_of _ (by decide +kernel)) ggL_law_L_fit
set_option maxRecDepth 20000 in
theorem ggL_law_X3_fit : GoodIn wsL_law wsX3_fit := goodIn_r _ [616, 258, 259, 260, 5, 261, 228, 91, 92, 93, 369, 370, 371, 372, 344, 94, 95, 96, 97, 98, 495, 496, 497, 498, 41, 36, 58, 42, 59, 43, 61, 60, 44, 45, 63, 62, 35, 499, 500, 501, 502, 39, 756, 757, 758, 759, 760, 761, 762, 763, 764, 765, 766, 767, 768, 769, 770, 771, 772, 773, 774, 775, 776, 777, 778, 779, 780, 781, 782, 783, 784, 785, 786, 787, 788, 789, 790, 791, 792, 793] (by decide +kernel) (by decide +kernel)
set_option maxRecDepth 20000 in
theorem gL_law_X3_fit : GoodIn wsL_law (wsV RL 202 RX3 yX3_fit wsX3_fit) := goodIn_app (goodIn_of _ (by decide +kernel)) ggL_law_X3_fit
set_option maxRecDepth 20000 in
theorem ggL_law_L_candidate : GoodIn wsL_law wsL_candidate := goodIn_ca (goodIn_r _ [619, 71, 620, 621, 622, 2, 623, 80, 81, 23, 353, 354, 355, 356, 22, 624, 625, 626, 627, 20, 305, 306, 307, 180, 308, 199, 418, 419, 420, 421, 360, 27, 422, 423, 424, 425, 412, 426, 427, 428, 429, 430, 431, 432, 433, 434, 435, 436, 437, 438, 439, 440, 441, 442, 443, 15, 444, 445, 446, 447, 448, 449, 450, 451, 16, 452, 453, 454, 455, 456, 457, 458, 249, 247, 380, 352, 459, 460, 461, 462, 14, 144, 145, 146, 147, 148, 149, 150, 628, 629, 630, 631, 741, 742, 743, 744, 745, 746, 747, 748, 749, 750, 751, 752, 753, 754, 755, 794, 795, 796, 797, 798, 799, 800, 801, 802, 803, 804, 805, 806, 807, 808, 809, 810, 811, 812, 813, 814, 815, 816, 817, 818] (by decide +kernel) (by decide +kernel)) (goodIn_sub (fun _ h => List.mem_append_left _ (List.mem_append_left _ (List.mem_append_right _ h))) (by decide +kernel))
set_option maxRecDepth 20000 in
theorem gL_law_L_candidate : GoodIn wsL_law (va_wsS RL 203 yL_candidate wsL_candidate) := goodIn_app (goodIn_of _ (by decide +kernel)) ggL_law_L_candidate
set_option maxRecDepth 20000 in
theorem ggL_law_X3_candidate : GoodIn wsL_law wsX3_candidate := goodIn_r _ [635, 228, 369, 370, 371, 5, 372, 344, 91, 92, 93, 94, 95, 96, 97, 98, 636, 637, 638, 639, 313, 314, 315, 316, 47, 491, 492, 493, 494, 64, 40, 495, 496, 497, 498, 41, 36, 58, 42, 59, 43, 61, 60, 44, 45, 63, 62, 35, 499, 500, 501, 502, 39, 640, 641, 642, 643, 756, 757, 758, 759, 760, 761, 762, 763, 764, 765, 766, 767, 768, 769, 770, 771, 772, 773, 774, 775, 776, 777, 778, 779, 780, 781, 782, 783, 784, 785, 786, 787, 788, 789, 790, 791, 792, 793] (by decide +kernel) (by decide +kernel)
set_option maxRecDepth 20000 in
theorem gL_law_X3_candidate : GoodIn wsL_law (wsV RL 205 RX3 yX3_candidate wsX3_candidate) := goodIn_app (goodIn_of _ (by decide +kernel)) ggL_law_X3_candidate
set_option maxRecDepth 20000 in
theorem ggL_law_L_question : GoodIn wsL_law wsL_question := goodIn_ca (goodIn_r _ [646, 71, 647, 648, 649, 2, 650, 352, 651, 652, 434, 653, 353, 354, 355, 356, 80, 81, 22, 624, 625, 626, 627, 23, 20, 305, 306, 307, 180, 308, 199, 418, 419, 420, 421, 360, 27, 422, 423, 424, 425, 412, 426, 427, 428, 429, 430, 431, 432, 433, 435, 436, 437, 438, 439, 440, 441, 442, 443, 15, 444, 445, 446, 447, 448, 449, 450, 451, 16, 452, 453, 454, 455, 456, 457, 458, 249, 247, 380, 459, 460, 461, 462, 14, 144, 145, 146, 147, 148, 149, 150, 654, 655, 656, 657, 809, 810, 811, 812, 813, 814, 815, 816, 817, 818, 741, 742, 743, 744, 745, 746, 747, 748, 749, 750, 751, 752, 753, 754, 755, 794, 795, 796, 797, 798, 799, 800, 801, 802, 803, 804, 805, 806, 807, 808] (by decide +kernel) (by decide +kernel)) (goodIn_sub (fun _ h => List.mem_append_left _ (List.mem_append_left _ (List.mem_append_right _ h))) (by decide +kernel))
set_option maxRecDepth 20000 in
theorem gL_law_L_question : GoodIn wsL_law (va_wsS RL 206 yL_question wsL_question) := goodIn_app (goodIn_of _ (by decide +kernel)) ggL_law_L_question
set_option maxRecDepth 20000 in
theorem ggL_law_X3_question : GoodIn wsL_law wsX3_question := goodIn_r _ [661, 228, 44, 45, 62, 369, 370, 371, 5, 372, 344, 91, 92, 93, 94, 95, 96, 97, 98, 636, 637, 638, 639, 313, 314, 315, 316, 47, 491, 492, 493, 494, 64, 40, 495, 496, 497, 498, 41, 36, 58, 42, 59, 43, 61, 60, 63, 35, 499, 500, 501, 502, 39, 756, 757, 758, 759, 760, 761, 762, 763, 764, 765, 766, 767, 768, 769, 770, 771, 772, 773, 774, 775, 776, 777, 778, 779, 780, 781, 782, 783, 784, 785, 786, 787, 788, 789, 790, 791, 792, 793] (by decide +kernel) (by decide +kernel)
set_option maxRecDepth 20000 in
theorem gL_law_X3_question : GoodIn wsL_law (wsV RL 208 RX3 yX3_question wsX3_question) := goodIn_app (goodIn_of _ (by decide +kernel)) ggL_law_X3_question
set_option maxRecDepth 20000 in
theorem ggL_law_L_isProven : GoodIn wsL_law wsL_isProven := goodIn_ca (goodIn_r _ [664, 71, 665, 666, 667, 2, 668, 250, 251, 252, 253, 80, 81, 20, 353, 354, 355, 356, 22, 463, 464, 465, 325, 466, 467, 468, 469, 434, 470, 330, 471, 145, 146, 147, 148, 149, 150, 741, 742, 743, 744, 745, 746, 747, 748, 749, 750, 751, 752, 753, 754, 755, 794, 795, 796, 797, 798, 799, 800, 801, 802, 803, 804, 805, 806, 807, 808, 809, 810, 811, 812, 813, 814, 815, 816, 817, 818] (by decide +kernel) (by decide +kernel)) (goodIn_sub (fun _ h => List.mem_append_left _ (List.mem_append_left _ (List.mem_append_right _ h))) (by decide +kernel))
set_option maxRecDepth 20000 in
theorem gL_law_L_isProven : GoodIn wsL_law (va_wsS RL 209 yL_isProven wsL_isProven) := goodIn_app (goodIn_of _ (by decide +kernel)) ggL_law_L_isProven
set_option maxRecDepth 20000 in
theorem ggL_law_X3_isProven : GoodIn wsL_law wsX3_isProven := goodIn_r _ [672, 258, 259, 260, 5, 261, 228, 91, 92, 93, 369, 370, 371, 372, 344, 94, 95, 96, 97, 98, 503, 504, 505, 506, 45, 63, 158, 159, 160, 756, 757, 758, 759, 760, 761, 762, 763, 764, 765, 766, 767, 768, 769, 770, 771, 772, 773, 774, 775, 776, 777, 778, 779, 780, 781, 782, 783, 784, 785, 786, 787, 788, 789, 790, 791, 792, 793] (by decide +kernel) (by decide +kernel)
set_option maxRecDepth 20000 in
theorem gL_law_X3_isProven : GoodIn wsL_law (wsV RL 211 RX3 yX3_isProven wsX3_isProven) := goodIn_app (goodIn_of _ (by decide +kernel)) ggL_law_X3_isProven
set_option maxRecDepth 20000 in
theorem ggL_law_L_isDue : GoodIn wsL_law wsL_isDue := goodIn_ca (goodIn_r _ [675, 71, 676, 677, 678, 2, 679, 250, 251, 252, 253, 80, 81, 20, 531, 532, 533, 534, 248, 26, 181, 304, 535, 536, 537, 538, 22, 418, 419, 420, 421, 360, 27, 422, 423, 424, 425, 412, 426, 427, 428, 429, 430, 431, 432, 433, 434, 435, 436, 437, 438, 439, 440, 441, 442, 443, 15, 444, 445, 446, 447, 448, 449, 450, 451, 16, 452, 453, 454, 455, 456, 457, 458, 249, 247, 380, 352, 459, 460, 461, 462, 14, 144, 145, 146, 147, 148, 149, 150, 741, 742, 743, 744, 745, 746, 747, 748, 749, 750, 751, 752, 753, 754, 755, 794, 795, 796, 797, 798, 799, 800, 801, 802, 803, 804, 805, 806, 807, 808, 809, 810, 811, 812, 813, 814, 815, 816, 817, 818] (by decide +kernel) (by decide +kernel)) (goodIn_sub (fun _ h => List.mem_append_left _ (List.mem_append_left _ (List.mem_append_right _ h))) (by decide +kernel))
set_option maxRecDepth 20000 in
theorem gL_law_L_isDue : GoodIn wsL_law (va_wsS RL 212 yL_isDue wsL_isDue) := goodIn_app (goodIn_of _ (by decide +kernel)) ggL_law_L_isDue
set_option maxRecDepth 20000 in
theorem ggL_law_X3_isDue : GoodIn wsL_law wsX3_isDue := goodIn_r _ [683, 258, 259, 260, 5, 261, 228, 91, 92, 93, 94, 95, 96, 97, 98, 544, 545, 546, 547, 47, 50, 227, 52, 344, 491, 492, 493, 494, 64, 40, 495, 496, 497, 498, 41, 36, 58, 42, 59, 43, 61, 60, 44, 45, 63, 62, 35, 499, 500, 501, 502, 39, 756, 757, 758, 759, 760, 761, 762, 763, 764, 765, 766, 767, 768, 769, 770, 771, 772, 773, 774, 775, 776, 777, 778, 779, 780, 781, 782, 783, 784, 785, 786, 787, 788, 789, 790, 791, 792, 793] (by decide +kernel) (by decide +kernel)
set_option maxRecDepth 20000 in
theorem gL_law_X3_isDue : GoodIn wsL_law (wsV RL 214 RX3 yX3_isDue wsX3_isDue) := goodIn_app (goodIn_of _ (by decide +kernel)) ggL_law_X3_isDue
set_option maxRecDepth 20000 in
theorem ggL_law_L_ofFind : GoodIn wsL_law wsL_ofFind := goodIn_ca (goodIn_ca (goodIn_r _ [686, 71, 72, 687, 688, 689, 2, 690, 82, 83, 248, 269, 181, 249, 292, 250, 251, 252, 253, 80, 81, 20, 794, 795, 796, 797, 798, 799, 800, 801, 802, 803, 804, 805, 806, 807, 808, 741, 742, 743, 744, 745, 746, 747, 748, 749, 750, 751, 752, 753, 754, 755] (by decide +kernel) (by decide +kernel)) (goodIn_sub (fun _ h => List.mem_append_left _ (List.mem_append_right _ h)) (by decide +kernel))) (goodIn_sub (fun _ h => List.mem_append_left _ (List.mem_append_left _ (List.mem_append_right _ h))) (by decide +kernel))
set_option maxRecDepth 20000 in
theorem gL_law_L_ofFind : GoodIn wsL_law (va_wsS RL 215 yL_ofFind wsL_ofFind) := goodIn_app (goodIn_of _ (by decide +kernel)) ggL_law_L_ofFind
set_option maxRecDepth 20000 in
theorem ggL_law_X3_ofFind : GoodIn wsL_law wsX3_ofFind := goodIn_r _ [694, 47, 49, 48, 50, 44, 55, 258, 259, 260, 5, 261, 228, 91, 92, 93, 94, 95, 96, 97, 98, 756, 757, 758, 759, 760, 761, 762, 763, 764, 765, 766, 767, 768, 769, 770, 771, 772, 773, 774, 775, 776, 777, 778, 779, 780, 781, 782, 783, 784, 785, 786, 787, 788, 789, 790, 791, 792, 793] (by decide +kernel) (by decide +kernel)
set_option maxRecDepth 20000 in
theorem gL_law_X3_ofFind : GoodIn wsL_law (wsV RL 217 RX3 yX3_ofFind wsX3_ofFind) := goodIn_app (goodIn_of _ (by decide +kernel)) ggL_law_X3_ofFind
set_option maxRecDepth 20000 in
theorem ggL_law_L_hand : GoodIn wsL_law wsL_hand := goodIn_ca (goodIn_r _ [697, 71, 698, 699, 700, 2, 701, 80, 81, 292, 702, 703, 250, 251, 252, 253, 20, 794, 795, 796, 797, 798, 799, 800, 801, 802, 803, 804, 805, 806, 807, 808, 741, 742, 743, 744, 745, 746, 747, 748, 749, 750, 751, 752, 753, 754, 755] (by decide +kernel) (by decide +kernel)) (goodIn_sub (fun _ h => List.mem_append_left _ (List.mem_append_left _ (List.mem_append_right _ h))) (by decide +kernel))
set_option maxRecDepth 20000 in
theorem gL_law_L_hand : GoodIn wsL_law (va_wsS RL 218 yL_hand wsL_hand) := goodIn_app (goodIn_of _ (by decide +kernel)) ggL_law_L_hand
set_option maxRecDepth 20000 in
theorem ggL_law_X3_hand : GoodIn wsL_law wsX3_hand := goodIn_r _ [707, 55, 57, 56, 258, 259, 260, 5, 261, 228, 91, 92, 93, 94, 95, 96, 97, 98, 756, 757, 758, 759, 760, 761, 762, 763, 764, 765, 766, 767, 768, 769, 770, 771, 772, 773, 774, 775, 776, 777, 778, 779, 780, 781, 782, 783, 784, 785, 786, 787, 788, 789, 790, 791, 792, 793] (by decide +kernel) (by decide +kernel)
set_option maxRecDepth 20000 in
theorem gL_law_X3_hand : GoodIn wsL_law (wsV RL 221 RX3 yX3_hand wsX3_hand) := goodIn_app (goodIn_of _ (by decide +kernel)) ggL_law_X3_hand
set_option maxRecDepth 20000 in
theorem ggL_law_L_ofClaim : GoodIn wsL_law wsL_ofClaim := goodIn_ca (goodIn_ca (goodIn_r _ [710, 71, 72, 711, 712, 713, 2, 714, 82, 83, 360, 352, 380, 413, 353, 354, 355, 356, 80, 81, 22, 809, 810, 811, 812, 813, 814, 815, 816, 817, 818, 741, 742, 743, 744, 745, 746, 747, 748, 749, 750, 751, 752, 753, 754, 755] (by decide +kernel) (by decide +kernel)) (goodIn_sub (fun _ h => List.mem_append_left _ (List.mem_append_right _ h)) (by decide +kernel))) (goodIn_sub (fun _ h => List.mem_append_left _ (List.mem_append_left _ (List.mem_append_right _ h))) (by decide +kernel))
set_option maxRecDepth 20000 in
theorem gL_law_L_ofClaim : GoodIn wsL_law (va_wsS RL 222 yL_ofClaim wsL_ofClaim) := goodIn_app (goodIn_of _ (by decide +kernel)) ggL_law_L_ofClaim
set_option maxRecDepth 20000 in
theorem ggL_law_X3_ofClaim : GoodIn wsL_law wsX3_ofClaim := goodIn_r _ [718, 64, 62, 63, 66, 369, 370, 371, 5, 372, 344, 91, 92, 93, 94, 95, 96, 97, 98, 756, 757, 758, 759, 760, 761, 762, 763, 764, 765, 766, 767, 768, 769, 770, 771, 772, 773, 774, 775, 776, 777, 778, 779, 780, 781, 782, 783, 784, 785, 786, 787, 788, 789, 790, 791, 792, 793] (by decide +kernel) (by decide +kernel)
set_option maxRecDepth 20000 in
theorem gL_law_X3_ofClaim : GoodIn wsL_law (wsV RL 224 RX3 yX3_ofClaim wsX3_ofClaim) := goodIn_app (goodIn_of _ (by decide +kernel)) ggL_law_X3_ofClaim
set_option maxRecDepth 20000 in
theorem ggL_law_L_money : GoodIn wsL_law wsL_money := goodIn_ca (goodIn_r _ [721, 72, 722, 723, 724, 2, 725, 82, 83, 28, 29, 30, 741, 742, 743, 744, 745, 746, 747, 748, 749, 750, 751, 752, 753, 754, 755] (by decide +kernel) (by decide +kernel)) (goodIn_sub (fun _ h => List.mem_append_left _ (List.mem_append_right _ h)) (by decide +kernel))
set_option maxRecDepth 20000 in
theorem gL_law_L_money : GoodIn wsL_law (va_wsS RL 225 yL_money wsL_money) := goodIn_app (goodIn_of _ (by decide +kernel)) ggL_law_L_money
set_option maxRecDepth 20000 in
theorem ggL_law_X3_money : GoodIn wsL_law wsX3_money := goodIn_r _ [729, 485, 486, 543, 91, 92, 5, 93, 94, 95, 96, 97, 98, 756, 757, 758, 759, 760, 761, 762, 763, 764, 765, 766, 767, 768, 769, 770, 771, 772, 773, 774, 775, 776, 777, 778, 779, 780, 781, 782, 783, 784, 785, 786, 787, 788, 789, 790, 791, 792, 793] (by decide +kernel) (by decide +kernel)
set_option maxRecDepth 20000 in
theorem gL_law_X3_money : GoodIn wsL_law (wsV RL 227 RX3 yX3_money wsX3_money) := goodIn_app (goodIn_of _ (by decide +kernel)) ggL_law_X3_money
set_option maxRecDepth 20000 in
theorem ggL_law_L_audit : GoodIn wsL_law wsL_audit := goodIn_ca (goodIn_r _ [732, 71, 733, 734, 735, 2, 736, 20, 248, 269, 141, 142, 143, 80, 81, 124, 125, 126, 741, 742, 743, 744, 745, 746, 747, 748, 749, 750, 751, 752, 753, 754, 755, 794, 795, 796, 797, 798, 799, 800, 801, 802, 803, 804, 805, 806, 807, 808] (by decide +kernel) (by decide +kernel)) (goodIn_sub (fun _ h => List.mem_append_left _ (List.mem_append_left _ (List.mem_append_right _ h))) (by decide +kernel))
set_option maxRecDepth 20000 in
theorem gL_law_L_audit : GoodIn wsL_law (va_wsS RL 228 yL_audit wsL_audit) := goodIn_app (goodIn_of _ (by decide +kernel)) ggL_law_L_audit
set_option maxRecDepth 20000 in
theorem ggL_law_X3_audit : GoodIn wsL_law wsX3_audit := goodIn_r _ [740, 228, 47, 48, 155, 156, 5, 157, 91, 92, 93, 94, 95, 96, 97, 98, 756, 757, 758, 759, 760, 761, 762, 763, 764, 765, 766, 767, 768, 769, 770, 771, 772, 773, 774, 775, 776, 777, 778, 779, 780, 781, 782, 783, 784, 785, 786, 787, 788, 789, 790, 791, 792, 793] (by decide +kernel) (by decide +kernel)
set_option maxRecDepth 20000 in
theorem gL_law_X3_audit : GoodIn wsL_law (wsV RL 230 RX3 yX3_audit wsX3_audit) := goodIn_app (goodIn_of _ (by decide +kernel)) ggL_law_X3_audit
