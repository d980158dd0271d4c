theorem dX2_pass_0 : decode cX2_pass 0 = .ok (.iload_n 1, 1) := by decide +kernel
theorem dX2_pass_1 : decode cX2_pass 1 = .ok (.iconst 1, 1) := by decide +kernel
theorem dX2_pass_2 : decode cX2_pass 2 = .ok (.sipush 400, 3) := by decide +kernel
theorem dX2_pass_5 : decode cX2_pass 5 = .ok (.invokestatic 73, 3) := by decide +kernel
theorem dX2_pass_8 : decode cX2_pass 8 = .ok (.ifCond .ne 13, 3) := by decide +kernel
theorem dX2_pass_11 : decode cX2_pass 11 = .ok (.new 77, 3) := by decide +kernel
theorem dX2_pass_14 : decode cX2_pass 14 = .ok (.dup, 1) := by decide +kernel
theorem dX2_pass_15 : decode cX2_pass 15 = .ok (.ldc 210, 2) := by decide +kernel
theorem dX2_pass_17 : decode cX2_pass 17 = .ok (.invokespecial 81, 3) := by decide +kernel
theorem dX2_pass_20 : decode cX2_pass 20 = .ok (.athrow, 1) := by decide +kernel
theorem dX2_pass_21 : decode cX2_pass 21 = .ok (.aload_n 0, 1) := by decide +kernel
theorem dX2_pass_22 : decode cX2_pass 22 = .ok (.getfield 47, 3) := by decide +kernel
theorem dX2_pass_25 : decode cX2_pass 25 = .ok (.iload_n 1, 1) := by decide +kernel
theorem dX2_pass_26 : decode cX2_pass 26 = .ok (.iadd, 1) := by decide +kernel
theorem dX2_pass_27 : decode cX2_pass 27 = .ok (.sipush 9999, 3) := by decide +kernel
theorem dX2_pass_30 : decode cX2_pass 30 = .ok (.if_icmp .le 13, 3) := by decide +kernel
theorem dX2_pass_33 : decode cX2_pass 33 = .ok (.new 90, 3) := by decide +kernel
theorem dX2_pass_36 : decode cX2_pass 36 = .ok (.dup, 1) := by decide +kernel
theorem dX2_pass_37 : decode cX2_pass 37 = .ok (.ldc 243, 2) := by decide +kernel
theorem dX2_pass_39 : decode cX2_pass 39 = .ok (.invokespecial 94, 3) := by decide +kernel
theorem dX2_pass_42 : decode cX2_pass 42 = .ok (.athrow, 1) := by decide +kernel
theorem dX2_pass_43 : decode cX2_pass 43 = .ok (.iconst 0, 1) := by decide +kernel
theorem dX2_pass_44 : decode cX2_pass 44 = .ok (.istore_n 2, 1) := by decide +kernel
theorem dX2_pass_45 : decode cX2_pass 45 = .ok (.iload_n 2, 1) := by decide +kernel
theorem dX2_pass_46 : decode cX2_pass 46 = .ok (.iload_n 1, 1) := by decide +kernel
theorem dX2_pass_47 : decode cX2_pass 47 = .ok (.if_icmp .ge 27, 3) := by decide +kernel
theorem dX2_pass_50 : decode cX2_pass 50 = .ok (.aload_n 0, 1) := by decide +kernel
theorem dX2_pass_51 : decode cX2_pass 51 = .ok (.dup, 1) := by decide +kernel
theorem dX2_pass_52 : decode cX2_pass 52 = .ok (.getfield 47, 3) := by decide +kernel
theorem dX2_pass_55 : decode cX2_pass 55 = .ok (.iconst 1, 1) := by decide +kernel
theorem dX2_pass_56 : decode cX2_pass 56 = .ok (.iadd, 1) := by decide +kernel
theorem dX2_pass_57 : decode cX2_pass 57 = .ok (.putfield 47, 3) := by decide +kernel
theorem dX2_pass_60 : decode cX2_pass 60 = .ok (.aload_n 0, 1) := by decide +kernel
theorem dX2_pass_61 : decode cX2_pass 61 = .ok (.invokevirtual 245, 3) := by decide +kernel
theorem dX2_pass_64 : decode cX2_pass 64 = .ok (.aload_n 0, 1) := by decide +kernel
theorem dX2_pass_65 : decode cX2_pass 65 = .ok (.invokevirtual 248, 3) := by decide +kernel
theorem dX2_pass_68 : decode cX2_pass 68 = .ok (.iinc 2 1, 3) := by decide +kernel
theorem dX2_pass_71 : decode cX2_pass 71 = .ok (.goto (-26), 3) := by decide +kernel
theorem dX2_pass_74 : decode cX2_pass 74 = .ok (.aload_n 0, 1) := by decide +kernel
theorem dX2_pass_75 : decode cX2_pass 75 = .ok (.getfield 47, 3) := by decide +kernel
theorem dX2_pass_78 : decode cX2_pass 78 = .ok (.ireturn, 1) := by decide +kernel
theorem dX2_today_0 : decode cX2_today 0 = .ok (.aload_n 0, 1) := by decide +kernel
theorem dX2_today_1 : decode cX2_today 1 = .ok (.getfield 47, 3) := by decide +kernel
theorem dX2_today_4 : decode cX2_today 4 = .ok (.ireturn, 1) := by decide +kernel
set_option maxRecDepth 20000 in
theorem ggX2_fit_X2_foundAt : GoodIn wsX2_fit wsX2_foundAt := goodIn_ca (goodIn_r _ [5, 6, 7, 8, 70, 71, 72, 73, 74, 75, 76, 77, 78, 79, 80, 81, 82, 83, 84] (by decide +kernel) (by decide +kernel)) (goodIn_sub (fun _ h => List.mem_cons_of_mem _ (List.mem_append_right _ h)) (by decide +kernel))
set_option maxRecDepth 20000 in
theorem gX2_fit_X2_foundAt : GoodIn wsX2_fit (wsV RX2 133 RX2 yX2_foundAt wsX2_foundAt) := goodIn_app (goodIn_of _ (by decide +kernel)) ggX2_fit_X2_foundAt
set_option maxRecDepth 20000 in
theorem ggX2_fit_X2_claimAt : GoodIn wsX2_fit wsX2_claimAt := goodIn_ca (goodIn_r _ [12, 6, 7, 13, 70, 71, 72, 73, 74, 75, 76, 77, 78, 79, 80, 81, 82, 83, 84] (by decide +kernel) (by decide +kernel)) (goodIn_sub (fun _ h => List.mem_cons_of_mem _ (List.mem_append_right _ h)) (by decide +kernel))
set_option maxRecDepth 20000 in
theorem gX2_fit_X2_claimAt : GoodIn wsX2_fit (wsV RX2 177 RX2 yX2_claimAt wsX2_claimAt) := goodIn_app (goodIn_of _ (by decide +kernel)) ggX2_fit_X2_claimAt
set_option maxRecDepth 20000 in
theorem ggX2_fit_X2_scoreOf : GoodIn wsX2_fit wsX2_scoreOf := goodIn_r _ [17, 18, 19, 20, 21, 22, 23, 24, 25, 26, 27, 28, 29, 30, 31, 4, 32, 33, 34, 35, 36, 37, 38, 39, 40, 41, 42, 43, 44, 45, 46, 47, 48, 49, 50, 51, 52, 53, 54, 55, 56, 57, 58, 59, 60, 61, 62, 63, 64, 65, 66, 67, 68, 69, 85, 86, 87, 88, 89, 90, 91, 92, 93, 94, 95, 96, 97, 98, 99, 100, 101, 102, 103, 104, 105, 106, 107, 108, 109, 70, 71, 72, 73, 74, 75, 76, 77, 78, 79, 80, 81, 82, 83, 84] (by decide +kernel) (by decide +kernel)
set_option maxRecDepth 20000 in
theorem gX2_fit_X2_scoreOf : GoodIn wsX2_fit (wsV RX2 251 RX2 yX2_scoreOf wsX2_scoreOf) := goodIn_app (goodIn_of _ (by decide +kernel)) ggX2_fit_X2_scoreOf
theorem dX2_fit_0 : decode cX2_fit 0 = .ok (.aload_n 0, 1) := by decide +kernel
theorem dX2_fit_1 : decode cX2_fit 1 = .ok (.iload_n 1, 1) := by decide +kernel
theorem dX2_fit_2 : decode cX2_fit 2 = .ok (.invokevirtual 133, 3) := by decide +kernel
theorem dX2_fit_5 : decode cX2_fit 5 = .ok (.astore_n 3, 1) := by decide +kernel
theorem dX2_fit_6 : decode cX2_fit 6 = .ok (.aload_n 0, 1) := by decide +kernel
theorem dX2_fit_7 : decode cX2_fit 7 = .ok (.aload_n 3, 1) := by decide +kernel
theorem dX2_fit_8 : decode cX2_fit 8 = .ok (.aload_n 0, 1) := by decide +kernel
theorem dX2_fit_9 : decode cX2_fit 9 = .ok (.iload_n 2, 1) := by decide +kernel
theorem dX2_fit_10 : decode cX2_fit 10 = .ok (.invokevirtual 177, 3) := by decide +kernel
theorem dX2_fit_13 : decode cX2_fit 13 = .ok (.invokevirtual 251, 3) := by decide +kernel
theorem dX2_fit_16 : decode cX2_fit 16 = .ok (.ireturn, 1) := by decide +kernel
set_option maxRecDepth 20000 in
theorem ggX2_candidate_X2_claimAt : GoodIn wsX2_candidate wsX2_claimAt := goodIn_ca (goodIn_r _ [8, 1, 2, 9, 87, 88, 89, 90, 91, 92, 93, 94, 95, 96, 97, 98, 99, 100, 101] (by decide +kernel) (by decide +kernel)) (goodIn_sub (fun _ h => List.mem_cons_of_mem _ (List.mem_append_right _ h)) (by decide +kernel))
set_option maxRecDepth 20000 in
theorem gX2_candidate_X2_claimAt : GoodIn wsX2_candidate (wsV RX2 177 RX2 yX2_claimAt wsX2_claimAt) := goodIn_app (goodIn_of _ (by decide +kernel)) ggX2_candidate_X2_claimAt
set_option maxRecDepth 20000 in
theorem ggX2_candidate_X2_noteScores : GoodIn wsX2_candidate wsX2_noteScores := goodIn_r _ [13, 3, 14, 15, 16, 17, 18, 19, 20, 21, 22, 23, 7, 24, 25, 26, 27, 28, 29, 30, 31, 32, 33, 34, 35, 36, 37, 38, 39, 40, 41, 42, 43, 44, 45, 46, 47, 48, 49, 50, 51, 52, 53, 54, 55, 56, 57, 58, 59, 60, 61, 62, 63, 64, 65, 66, 67, 68, 69, 70, 71, 72, 73, 74, 75, 76, 77, 78, 79, 80, 81, 82, 87, 88, 89, 90, 91, 92, 93, 94, 95, 96, 97, 98, 99, 100, 101, 102, 103, 104, 105, 106, 107, 108, 109, 110, 111, 112, 113, 114, 115, 116, 117, 118, 119, 120, 121, 122, 123, 124, 125, 126] (by decide +kernel) (by decide +kernel)
set_option maxRecDepth 20000 in
theorem gX2_candidate_X2_noteScores : GoodIn wsX2_candidate (wsV RX2 257 RX2 yX2_noteScores wsX2_noteScores) := goodIn_app (goodIn_of _ (by decide +kernel)) ggX2_candidate_X2_noteScores
set_option maxRecDepth 20000 in
theorem ggX2_candidate_X2_countBetter : GoodIn wsX2_candidate wsX2_countBetter := goodIn_r _ [86, 3, 87, 88, 89, 90, 91, 92, 93, 94, 95, 96, 97, 98, 99, 100, 101] (by decide +kernel) (by decide +kernel)
set_option maxRecDepth 20000 in
theorem gX2_candidate_X2_countBetter : GoodIn wsX2_candidate (wsV RX2 261 RX2 yX2_countBetter wsX2_countBetter) := goodIn_app (goodIn_of _ (by decide +kernel)) ggX2_candidate_X2_countBetter
theorem dX2_candidate_0 : decode cX2_candidate 0 = .ok (.aload_n 0, 1) := by decide +kernel
theorem dX2_candidate_1 : decode cX2_candidate 1 = .ok (.iload_n 1, 1) := by decide +kernel
theorem dX2_candidate_2 : decode cX2_candidate 2 = .ok (.invokevirtual 177, 3) := by decide +kernel
theorem dX2_candidate_5 : decode cX2_candidate 5 = .ok (.astore_n 3, 1) := by decide +kernel
theorem dX2_candidate_6 : decode cX2_candidate 6 = .ok (.iload_n 2, 1) := by decide +kernel
theorem dX2_candidate_7 : decode cX2_candidate 7 = .ok (.ifCond .ge 13, 3) := by decide +kernel
theorem dX2_candidate_10 : decode cX2_candidate 10 = .ok (.new 66, 3) := by decide +kernel
theorem dX2_candidate_13 : decode cX2_candidate 13 = .ok (.dup, 1) := by decide +kernel
theorem dX2_candidate_14 : decode cX2_candidate 14 = .ok (.ldc 255, 2) := by decide +kernel
theorem dX2_candidate_16 : decode cX2_candidate 16 = .ok (.invokespecial 70, 3) := by decide +kernel
theorem dX2_candidate_19 : decode cX2_candidate 19 = .ok (.athrow, 1) := by decide +kernel
theorem dX2_candidate_20 : decode cX2_candidate 20 = .ok (.aload_n 0, 1) := by decide +kernel
theorem dX2_candidate_21 : decode cX2_candidate 21 = .ok (.aload_n 3, 1) := by decide +kernel
theorem dX2_candidate_22 : decode cX2_candidate 22 = .ok (.invokevirtual 257, 3) := by decide +kernel
theorem dX2_candidate_25 : decode cX2_candidate 25 = .ok (.pop, 1) := by decide +kernel
theorem dX2_candidate_26 : decode cX2_candidate 26 = .ok (.iconst 0, 1) := by decide +kernel
theorem dX2_candidate_27 : decode cX2_candidate 27 = .ok (.istore 4, 2) := by decide +kernel
theorem dX2_candidate_29 : decode cX2_candidate 29 = .ok (.iload 4, 2) := by decide +kernel
theorem dX2_candidate_31 : decode cX2_candidate 31 = .ok (.aload_n 0, 1) := by decide +kernel
theorem dX2_candidate_32 : decode cX2_candidate 32 = .ok (.getfield 37, 3) := by decide +kernel
theorem dX2_candidate_35 : decode cX2_candidate 35 = .ok (.arraylength, 1) := by decide +kernel
theorem dX2_candidate_36 : decode cX2_candidate 36 = .ok (.if_icmp .ge 33, 3) := by decide +kernel
theorem dX2_candidate_39 : decode cX2_candidate 39 = .ok (.aload_n 0, 1) := by decide +kernel
theorem dX2_candidate_40 : decode cX2_candidate 40 = .ok (.getfield 37, 3) := by decide +kernel
theorem dX2_candidate_43 : decode cX2_candidate 43 = .ok (.iload 4, 2) := by decide +kernel
theorem dX2_candidate_45 : decode cX2_candidate 45 = .ok (.iaload, 1) := by decide +kernel
theorem dX2_candidate_46 : decode cX2_candidate 46 = .ok (.iconst (-1), 1) := by decide +kernel
theorem dX2_candidate_47 : decode cX2_candidate 47 = .ok (.if_icmp .eq 16, 3) := by decide +kernel
theorem dX2_candidate_50 : decode cX2_candidate 50 = .ok (.aload_n 0, 1) := by decide +kernel
theorem dX2_candidate_51 : decode cX2_candidate 51 = .ok (.iload 4, 2) := by decide +kernel
theorem dX2_candidate_53 : decode cX2_candidate 53 = .ok (.invokevirtual 261, 3) := by decide +kernel
theorem dX2_candidate_56 : decode cX2_candidate 56 = .ok (.iload_n 2, 1) := by decide +kernel
theorem dX2_candidate_57 : decode cX2_candidate 57 = .ok (.if_icmp .ne 6, 3) := by decide +kernel
theorem dX2_candidate_60 : decode cX2_candidate 60 = .ok (.iload 4, 2) := by decide +kernel
theorem dX2_candidate_62 : decode cX2_candidate 62 = .ok (.ireturn, 1) := by decide +kernel
theorem dX2_candidate_63 : decode cX2_candidate 63 = .ok (.iinc 4 1, 3) := by decide +kernel
theorem dX2_candidate_66 : decode cX2_candidate 66 = .ok (.goto (-37), 3) := by decide +kernel
theorem dX2_candidate_69 : decode cX2_candidate 69 = .ok (.iconst (-1), 1) := by decide +kernel
theorem dX2_candidate_70 : decode cX2_candidate 70 = .ok (.ireturn, 1) := by decide +kernel
set_option maxRecDepth 20000 in
theorem ggX2_question_X2_claimAt : GoodIn wsX2_question wsX2_claimAt := goodIn_ca (goodIn_r _ [10, 11, 12, 13, 100, 101, 102, 103, 104, 105, 106, 107, 108, 109, 110, 111, 112, 113, 114] (by decide +kernel) (by decide +kernel)) (goodIn_sub (fun _ h => List.mem_cons_of_mem _ (List.mem_append_right _ h)) (by decide +kernel))
set_option maxRecDepth 20000 in
theorem gX2_question_X2_claimAt : GoodIn wsX2_question (wsV RX2 177 RX2 yX2_claimAt wsX2_claimAt) := goodIn_app (goodIn_of _ (by decide +kernel)) ggX2_question_X2_claimAt
set_option maxRecDepth 20000 in
theorem ggX2_question_X2_noteScores : GoodIn wsX2_question wsX2_noteScores := goodIn_r _ [17, 18, 19, 20, 21, 22, 23, 24, 25, 26, 27, 28, 9, 29, 30, 31, 32, 33, 34, 35, 36, 37, 38, 39, 40, 41, 42, 43, 44, 4, 45, 46, 47, 48, 49, 50, 51, 52, 53, 54, 55, 56, 57, 58, 59, 60, 61, 62, 63, 64, 65, 66, 67, 68, 69, 70, 71, 72, 73, 1, 74, 75, 76, 77, 78, 79, 80, 81, 82, 83, 84, 85, 100, 101, 102, 103, 104, 105, 106, 107, 108, 109, 110, 111, 112, 113, 114, 115, 116, 117, 118, 119, 120, 121, 122, 123, 124, 125, 126, 127, 128, 129, 90, 91, 92, 93, 94, 95, 96, 97, 98, 99] (by decide +kernel) (by decide +kernel)
set_option maxRecDepth 20000 in
theorem gX2_question_X2_noteScores : GoodIn wsX2_question (wsV RX2 257 RX2 yX2_noteScores wsX2_noteScores) := goodIn_app (goodIn_of _ (by decide +kernel)) ggX2_question_X2_noteScores
set_option maxRecDepth 20000 in
theorem ggX2_question_X2_countNotedWith : GoodIn wsX2_question wsX2_countNotedWith := goodIn_r _ [89, 18, 19, 71, 72, 100, 101, 102, 103, 104, 105, 106, 107, 108, 109, 110, 111, 112, 113, 114, 115, 116, 117, 118, 119, 120, 121, 122, 123, 124, 125, 126, 127, 128, 129] (by decide +kernel) (by decide +kernel)
set_option maxRecDepth 20000 in
theorem gX2_question_X2_countNotedWith : GoodIn wsX2_question (wsV RX2 264 RX2 yX2_countNotedWith wsX2_countNotedWith) := goodIn_app (goodIn_of _ (by decide +kernel)) ggX2_question_X2_countNotedWith
theorem dX2_question_0 : decode cX2_question 0 = .ok (.aload_n 0, 1) := by decide +kernel
theorem dX2_question_1 : decode cX2_question 1 = .ok (.iload_n 1, 1) := by decide +kernel
theorem dX2_question_2 : decode cX2_question 2 = .ok (.invokevirtual 177, 3) := by decide +kernel
theorem dX2_question_5 : decode cX2_question 5 = .ok (.astore_n 2, 1) := by decide +kernel
theorem dX2_question_6 : decode cX2_question 6 = .ok (.aload_n 0, 1) := by decide +kernel
theorem dX2_question_7 : decode cX2_question 7 = .ok (.aload_n 2, 1) := by decide +kernel
theorem dX2_question_8 : decode cX2_question 8 = .ok (.invokevirtual 257, 3) := by decide +kernel
theorem dX2_question_11 : decode cX2_question 11 = .ok (.istore_n 3, 1) := by decide +kernel
theorem dX2_question_12 : decode cX2_question 12 = .ok (.iconst (-1), 1) := by decide +kernel
theorem dX2_question_13 : decode cX2_question 13 = .ok (.istore 4, 2) := by decide +kernel
theorem dX2_question_15 : decode cX2_question 15 = .ok (.iload_n 3, 1) := by decide +kernel
theorem dX2_question_16 : decode cX2_question 16 = .ok (.istore 5, 2) := by decide +kernel
theorem dX2_question_18 : decode cX2_question 18 = .ok (.iconst 0, 1) := by decide +kernel
theorem dX2_question_19 : decode cX2_question 19 = .ok (.istore 6, 2) := by decide +kernel
theorem dX2_question_21 : decode cX2_question 21 = .ok (.iload 6, 2) := by decide +kernel
theorem dX2_question_23 : decode cX2_question 23 = .ok (.bipush 24, 2) := by decide +kernel
theorem dX2_question_25 : decode cX2_question 25 = .ok (.if_icmp .ge 51, 3) := by decide +kernel
theorem dX2_question_28 : decode cX2_question 28 = .ok (.aload_n 2, 1) := by decide +kernel
theorem dX2_question_29 : decode cX2_question 29 = .ok (.getfield 185, 3) := by decide +kernel
theorem dX2_question_32 : decode cX2_question 32 = .ok (.iconst 1, 1) := by decide +kernel
theorem dX2_question_33 : decode cX2_question 33 = .ok (.iload 6, 2) := by decide +kernel
theorem dX2_question_35 : decode cX2_question 35 = .ok (.ishl, 1) := by decide +kernel
theorem dX2_question_36 : decode cX2_question 36 = .ok (.iand, 1) := by decide +kernel
theorem dX2_question_37 : decode cX2_question 37 = .ok (.ifCond .ne 33, 3) := by decide +kernel
theorem dX2_question_40 : decode cX2_question 40 = .ok (.iconst 2, 1) := by decide +kernel
theorem dX2_question_41 : decode cX2_question 41 = .ok (.aload_n 0, 1) := by decide +kernel
theorem dX2_question_42 : decode cX2_question 42 = .ok (.iload 6, 2) := by decide +kernel
theorem dX2_question_44 : decode cX2_question 44 = .ok (.invokevirtual 264, 3) := by decide +kernel
theorem dX2_question_47 : decode cX2_question 47 = .ok (.imul, 1) := by decide +kernel
theorem dX2_question_48 : decode cX2_question 48 = .ok (.iload_n 3, 1) := by decide +kernel
theorem dX2_question_49 : decode cX2_question 49 = .ok (.isub, 1) := by decide +kernel
theorem dX2_question_50 : decode cX2_question 50 = .ok (.invokestatic 267, 3) := by decide +kernel
theorem dX2_question_53 : decode cX2_question 53 = .ok (.istore 7, 2) := by decide +kernel
theorem dX2_question_55 : decode cX2_question 55 = .ok (.iload 7, 2) := by decide +kernel
theorem dX2_question_57 : decode cX2_question 57 = .ok (.iload 5, 2) := by decide +kernel
theorem dX2_question_59 : decode cX2_question 59 = .ok (.if_icmp .ge 11, 3) := by decide +kernel
theorem dX2_question_62 : decode cX2_question 62 = .ok (.iload 6, 2) := by decide +kernel
theorem dX2_question_64 : decode cX2_question 64 = .ok (.istore 4, 2) := by decide +kernel
theorem dX2_question_66 : decode cX2_question 66 = .ok (.iload 7, 2) := by decide +kernel
theorem dX2_question_68 : decode cX2_question 68 = .ok (.istore 5, 2) := by decide +kernel
theorem dX2_question_70 : decode cX2_question 70 = .ok (.iinc 6 1, 3) := by decide +kernel
theorem dX2_question_73 : decode cX2_question 73 = .ok (.goto (-52), 3) := by decide +kernel
theorem dX2_question_76 : decode cX2_question 76 = .ok (.iload 4, 2) := by decide +kernel
theorem dX2_question_78 : decode cX2_question 78 = .ok (.ireturn, 1) := by decide +kernel
set_option maxRecDepth 20000 in
theorem ggX2_isProven_X2_foundAt : GoodIn wsX2_isProven wsX2_foundAt := goodIn_ca (goodIn_r _ [5, 6, 7, 8, 32, 33, 34, 35, 36, 37, 38, 39, 40, 41, 42, 43, 44, 45, 46] (by decide +kernel) (by decide +kernel)) (goodIn_sub (fun _ h => List.mem_cons_of_mem _ (List.mem_append_right _ h)) (by decide +kernel))
set_option maxRecDepth 20000 in
theorem gX2_isProven_X2_foundAt : GoodIn wsX2_isProven (wsV RX2 133 RX2 yX2_foundAt wsX2_foundAt) := goodIn_app (goodIn_of _ (by decide +kernel)) ggX2_isProven_X2_foundAt
set_option maxRecDepth 20000 in
theorem ggX2_isProven_X2_claimAt : GoodIn wsX2_isProven wsX2_claimAt := goodIn_ca (goodIn_r _ [12, 6, 7, 13, 32, 33, 34, 35, 36, 37, 38, 39, 40, 41, 42, 43, 44, 45, 46] (by decide +kernel) (by decide +kernel)) (goodIn_sub (fun _ h => List.mem_cons_of_mem _ (List.mem_append_right _ h)) (by decide +kernel))
set_option maxRecDepth 20000 in
theorem gX2_isProven_X2_claimAt : GoodIn wsX2_isProven (wsV RX2 177 RX2 yX2_claimAt wsX2_claimAt) := goodIn_app (goodIn_of _ (by decide +kernel)) ggX2_isProven_X2_claimAt
set_option maxRecDepth 20000 in
theorem ggX2_isProven_X0_proves : GoodIn wsX2_isProven wsX0_proves := goodIn_r _ [18, 19, 20, 21, 22, 23, 24, 25, 26, 27, 28, 29, 30, 31, 47, 48, 49, 50, 51, 52, 53, 54, 55, 56, 57, 58, 59, 60, 61, 62, 63, 64, 65, 66, 67, 68, 69, 70, 71] (by decide +kernel) (by decide +kernel)
set_option maxRecDepth 20000 in
theorem gX2_isProven_X0_proves : GoodIn wsX2_isProven (wsV RX2 270 RX0 yX0_proves wsX0_proves) := goodIn_app (goodIn_of _ (by decide +kernel)) ggX2_isProven_X0_proves
theorem dX2_isProven_0 : decode cX2_isProven 0 = .ok (.aload_n 0, 1) := by decide +kernel
theorem dX2_isProven_1 : decode cX2_isProven 1 = .ok (.iload_n 1, 1) := by decide +kernel
theorem dX2_isProven_2 : decode cX2_isProven 2 = .ok (.invokevirtual 133, 3) := by decide +kernel
theorem dX2_isProven_5 : decode cX2_isProven 5 = .ok (.astore_n 3, 1) := by decide +kernel
theorem dX2_isProven_6 : decode cX2_isProven 6 = .ok (.aload_n 0, 1) := by decide +kernel
theorem dX2_isProven_7 : decode cX2_isProven 7 = .ok (.iload_n 2, 1) := by decide +kernel
theorem dX2_isProven_8 : decode cX2_isProven 8 = .ok (.invokevirtual 177, 3) := by decide +kernel
theorem dX2_isProven_11 : decode cX2_isProven 11 = .ok (.aload_n 3, 1) := by decide +kernel
theorem dX2_isProven_12 : decode cX2_isProven 12 = .ok (.invokevirtual 270, 3) := by decide +kernel
theorem dX2_isProven_15 : decode cX2_isProven 15 = .ok (.ireturn, 1) := by decide +kernel
set_option maxRecDepth 20000 in
theorem ggX2_isDue_X2_foundAt : GoodIn wsX2_isDue wsX2_foundAt := goodIn_ca (goodIn_r _ [5, 6, 7, 8, 84, 85, 86, 87, 88, 89, 90, 91, 92, 93, 94, 95, 96, 97, 98] (by decide +kernel) (by decide +kernel)) (goodIn_sub (fun _ h => List.mem_cons_of_mem _ (List.mem_append_right _ h)) (by decide +kernel))
set_option maxRecDepth 20000 in
theorem gX2_isDue_X2_foundAt : GoodIn wsX2_isDue (wsV RX2 133 RX2 yX2_foundAt wsX2_foundAt) := goodIn_app (goodIn_of _ (by decide +kernel)) ggX2_isDue_X2_foundAt
set_option maxRecDepth 20000 in
theorem ggX2_isDue_X2_isOver : GoodIn wsX2_isDue wsX2_isOver := goodIn_r _ [12, 13, 14, 15, 16, 17, 18, 19, 4, 20, 21, 22, 23, 24, 25, 26, 27, 28, 29, 30, 31, 32, 33, 34, 35, 36, 37, 38, 39, 40, 41, 42, 43, 44, 45, 46, 47, 48, 49, 50, 51, 52, 53, 54, 55, 56, 57, 58, 59, 60, 61, 62, 63, 64, 65, 66, 67, 68, 69, 70, 71, 72, 73, 74, 75, 76, 77, 78, 79, 80, 81, 82, 83, 99, 100, 101, 102, 103, 104, 105, 106, 107, 108, 109, 110, 111, 112, 113, 84, 85, 86, 87, 88, 89, 90, 91, 92, 93, 94, 95, 96, 97, 98, 114, 115, 116, 117, 118, 119, 120, 121, 122, 123] (by decide +kernel) (by decide +kernel)
set_option maxRecDepth 20000 in
theorem gX2_isDue_X2_isOver : GoodIn wsX2_isDue (wsV RX2 222 RX2 yX2_isOver wsX2_isOver) := goodIn_app (goodIn_of _ (by decide +kernel)) ggX2_isDue_X2_isOver
theorem dX2_isDue_0 : decode cX2_isDue 0 = .ok (.aload_n 0, 1) := by decide +kernel
theorem dX2_isDue_1 : decode cX2_isDue 1 = .ok (.aload_n 0, 1) := by decide +kernel
theorem dX2_isDue_2 : decode cX2_isDue 2 = .ok (.iload_n 1, 1) := by decide +kernel
theorem dX2_isDue_3 : decode cX2_isDue 3 = .ok (.invokevirtual 133, 3) := by decide +kernel
theorem dX2_isDue_6 : decode cX2_isDue 6 = .ok (.invokevirtual 222, 3) := by decide +kernel
theorem dX2_isDue_9 : decode cX2_isDue 9 = .ok (.ireturn, 1) := by decide +kernel
set_option maxRecDepth 20000 in
theorem ggX2_ofFind_X2_foundAt : GoodIn wsX2_ofFind wsX2_foundAt := goodIn_ca (goodIn_r _ [12, 13, 14, 15, 31, 32, 33, 34, 35, 36, 37, 38, 39, 40, 41, 42, 43, 44, 45] (by decide +kernel) (by decide +kernel)) (goodIn_sub (fun _ h => List.mem_cons_of_mem _ (List.mem_append_right _ h)) (by decide +kernel))
set_option maxRecDepth 20000 in
theorem gX2_ofFind_X2_foundAt : GoodIn wsX2_ofFind (wsV RX2 133 RX2 yX2_foundAt wsX2_foundAt) := goodIn_app (goodIn_of _ (by decide +kernel)) ggX2_ofFind_X2_foundAt
theorem dX2_ofFind_0 : decode cX2_ofFind 0 = .ok (.aload_n 0, 1) := by decide +kernel
theorem dX2_ofFind_1 : decode cX2_ofFind 1 = .ok (.iload_n 1, 1) := by decide +kernel
theorem dX2_ofFind_2 : decode cX2_ofFind 2 = .ok (.invokevirtual 133, 3) := by decide +kernel
theorem dX2_ofFind_5 : decode cX2_ofFind 5 = .ok (.astore_n 3, 1) := by decide +kernel
theorem dX2_ofFind_6 : decode cX2_ofFind 6 = .ok (.iload_n 2, 1) := by decide +kernel
theorem dX2_ofFind_7 : decode cX2_ofFind 7 = .ok (.tableswitch 58 0 4 #[33, 38, 43, 48, 53], 33) := by decide +kernel
theorem dX2_ofFind_40 : decode cX2_ofFind 40 = .ok (.aload_n 3, 1) := by decide +kernel
theorem dX2_ofFind_41 : decode cX2_ofFind 41 = .ok (.getfield 142, 3) := by decide +kernel
theorem dX2_ofFind_44 : decode cX2_ofFind 44 = .ok (.ireturn, 1) := by decide +kernel
theorem dX2_ofFind_45 : decode cX2_ofFind 45 = .ok (.aload_n 3, 1) := by decide +kernel
theorem dX2_ofFind_46 : decode cX2_ofFind 46 = .ok (.getfield 150, 3) := by decide +kernel
theorem dX2_ofFind_49 : decode cX2_ofFind 49 = .ok (.ireturn, 1) := by decide +kernel
theorem dX2_ofFind_50 : decode cX2_ofFind 50 = .ok (.aload_n 3, 1) := by decide +kernel
theorem dX2_ofFind_51 : decode cX2_ofFind 51 = .ok (.getfield 126, 3) := by decide +kernel
theorem dX2_ofFind_54 : decode cX2_ofFind 54 = .ok (.ireturn, 1) := by decide +kernel
theorem dX2_ofFind_55 : decode cX2_ofFind 55 = .ok (.aload_n 3, 1) := by decide +kernel
theorem dX2_ofFind_56 : decode cX2_ofFind 56 = .ok (.getfield 147, 3) := by decide +kernel
theorem dX2_ofFind_59 : decode cX2_ofFind 59 = .ok (.ireturn, 1) := by decide +kernel
theorem dX2_ofFind_60 : decode cX2_ofFind 60 = .ok (.aload_n 3, 1) := by decide +kernel
theorem dX2_ofFind_61 : decode cX2_ofFind 61 = .ok (.getfield 157, 3) := by decide +kernel
theorem dX2_ofFind_64 : decode cX2_ofFind 64 = .ok (.ireturn, 1) := by decide +kernel
theorem dX2_ofFind_65 : decode cX2_ofFind 65 = .ok (.new 77, 3) := by decide +kernel
theorem dX2_ofFind_68 : decode cX2_ofFind 68 = .ok (.dup, 1) := by decide +kernel
theorem dX2_ofFind_69 : decode cX2_ofFind 69 = .ok (.ldc_w 273, 3) := by decide +kernel
theorem dX2_ofFind_72 : decode cX2_ofFind 72 = .ok (.invokespecial 81, 3) := by decide +kernel
theorem dX2_ofFind_75 : decode cX2_ofFind 75 = .ok (.athrow, 1) := by decide +kernel
set_option maxRecDepth 20000 in
theorem ggX2_hand_X2_foundAt : GoodIn wsX2_hand wsX2_foundAt := goodIn_ca (goodIn_r _ [10, 1, 2, 11, 27, 28, 29, 30, 31, 32, 33, 34, 35, 36, 37, 38, 39, 40, 41] (by decide +kernel) (by decide +kernel)) (goodIn_sub (fun _ h => List.mem_cons_of_mem _ (List.mem_append_right _ h)) (by decide +kernel))
set_option maxRecDepth 20000 in
theorem gX2_hand_X2_foundAt : GoodIn wsX2_hand (wsV RX2 133 RX2 yX2_foundAt wsX2_foundAt) := goodIn_app (goodIn_of _ (by decide +kernel)) ggX2_hand_X2_foundAt
theorem dX2_hand_0 : decode cX2_hand 0 = .ok (.aload_n 0, 1) := by decide +kernel
theorem dX2_hand_1 : decode cX2_hand 1 = .ok (.iload_n 1, 1) := by decide +kernel
theorem dX2_hand_2 : decode cX2_hand 2 = .ok (.invokevirtual 133, 3) := by decide +kernel
theorem dX2_hand_5 : decode cX2_hand 5 = .ok (.astore 4, 2) := by decide +kernel
theorem dX2_hand_7 : decode cX2_hand 7 = .ok (.iload_n 2, 1) := by decide +kernel
theorem dX2_hand_8 : decode cX2_hand 8 = .ok (.ifCond .lt 32, 3) := by decide +kernel
theorem dX2_hand_11 : decode cX2_hand 11 = .ok (.iload_n 2, 1) := by decide +kernel
theorem dX2_hand_12 : decode cX2_hand 12 = .ok (.aload 4, 2) := by decide +kernel
theorem dX2_hand_14 : decode cX2_hand 14 = .ok (.getfield 157, 3) := by decide +kernel
theorem dX2_hand_17 : decode cX2_hand 17 = .ok (.if_icmp .ge 23, 3) := by decide +kernel
theorem dX2_hand_20 : decode cX2_hand 20 = .ok (.iload_n 2, 1) := by decide +kernel
theorem dX2_hand_21 : decode cX2_hand 21 = .ok (.aload 4, 2) := by decide +kernel
theorem dX2_hand_23 : decode cX2_hand 23 = .ok (.getfield 275, 3) := by decide +kernel
theorem dX2_hand_26 : decode cX2_hand 26 = .ok (.arraylength, 1) := by decide +kernel
theorem dX2_hand_27 : decode cX2_hand 27 = .ok (.if_icmp .ge 13, 3) := by decide +kernel
theorem dX2_hand_30 : decode cX2_hand 30 = .ok (.iload_n 2, 1) := by decide +kernel
theorem dX2_hand_31 : decode cX2_hand 31 = .ok (.aload 4, 2) := by decide +kernel
theorem dX2_hand_33 : decode cX2_hand 33 = .ok (.getfield 278, 3) := by decide +kernel
theorem dX2_hand_36 : decode cX2_hand 36 = .ok (.arraylength, 1) := by decide +kernel
theorem dX2_hand_37 : decode cX2_hand 37 = .ok (.if_icmp .lt 14, 3) := by decide +kernel
theorem dX2_hand_40 : decode cX2_hand 40 = .ok (.new 66, 3) := by decide +kernel
theorem dX2_hand_43 : decode cX2_hand 43 = .ok (.dup, 1) := by decide +kernel
theorem dX2_hand_44 : decode cX2_hand 44 = .ok (.ldc_w 281, 3) := by decide +kernel
theorem dX2_hand_47 : decode cX2_hand 47 = .ok (.invokespecial 70, 3) := by decide +kernel
theorem dX2_hand_50 : decode cX2_hand 50 = .ok (.athrow, 1) := by decide +kernel
theorem dX2_hand_51 : decode cX2_hand 51 = .ok (.iload_n 3, 1) := by decide +kernel
theorem dX2_hand_52 : decode cX2_hand 52 = .ok (.ifCond .eq 13, 3) := by decide +kernel
theorem dX2_hand_55 : decode cX2_hand 55 = .ok (.aload 4, 2) := by decide +kernel
theorem dX2_hand_57 : decode cX2_hand 57 = .ok (.getfield 275, 3) := by decide +kernel
theorem dX2_hand_60 : decode cX2_hand 60 = .ok (.iload_n 2, 1) := by decide +kernel
theorem dX2_hand_61 : decode cX2_hand 61 = .ok (.iaload, 1) := by decide +kernel
theorem dX2_hand_62 : decode cX2_hand 62 = .ok (.goto 10, 3) := by decide +kernel
theorem dX2_hand_65 : decode cX2_hand 65 = .ok (.aload 4, 2) := by decide +kernel
theorem dX2_hand_67 : decode cX2_hand 67 = .ok (.getfield 278, 3) := by decide +kernel
theorem dX2_hand_70 : decode cX2_hand 70 = .ok (.iload_n 2, 1) := by decide +kernel
theorem dX2_hand_71 : decode cX2_hand 71 = .ok (.iaload, 1) := by decide +kernel
theorem dX2_hand_72 : decode cX2_hand 72 = .ok (.ireturn, 1) := by decide +kernel
set_option maxRecDepth 20000 in
theorem ggX2_ofClaim_X2_claimAt : GoodIn wsX2_ofClaim wsX2_claimAt := goodIn_ca (goodIn_r _ [11, 12, 13, 14, 25, 26, 27, 28, 29, 30, 31, 32, 33, 34, 35, 36, 37, 38, 39] (by decide +kernel) (by decide +kernel)) (goodIn_sub (fun _ h => List.mem_cons_of_mem _ (List.mem_append_right _ h)) (by decide +kernel))
set_option maxRecDepth 20000 in
theorem gX2_ofClaim_X2_claimAt : GoodIn wsX2_ofClaim (wsV RX2 177 RX2 yX2_claimAt wsX2_claimAt) := goodIn_app (goodIn_of _ (by decide +kernel)) ggX2_ofClaim_X2_claimAt
theorem dX2_ofClaim_0 : decode cX2_ofClaim 0 = .ok (.aload_n 0, 1) := by decide +kernel
theorem dX2_ofClaim_1 : decode cX2_ofClaim 1 = .ok (.iload_n 1, 1) := by decide +kernel
theorem dX2_ofClaim_2 : decode cX2_ofClaim 2 = .ok (.invokevirtual 177, 3) := by decide +kernel
theorem dX2_ofClaim_5 : decode cX2_ofClaim 5 = .ok (.astore_n 3, 1) := by decide +kernel
theorem dX2_ofClaim_6 : decode cX2_ofClaim 6 = .ok (.iload_n 2, 1) := by decide +kernel
theorem dX2_ofClaim_7 : decode cX2_ofClaim 7 = .ok (.tableswitch 49 0 3 #[29, 34, 39, 44], 29) := by decide +kernel
theorem dX2_ofClaim_36 : decode cX2_ofClaim 36 = .ok (.aload_n 3, 1) := by decide +kernel
theorem dX2_ofClaim_37 : decode cX2_ofClaim 37 = .ok (.getfield 283, 3) := by decide +kernel
theorem dX2_ofClaim_40 : decode cX2_ofClaim 40 = .ok (.ireturn, 1) := by decide +kernel
theorem dX2_ofClaim_41 : decode cX2_ofClaim 41 = .ok (.aload_n 3, 1) := by decide +kernel
theorem dX2_ofClaim_42 : decode cX2_ofClaim 42 = .ok (.getfield 185, 3) := by decide +kernel
theorem dX2_ofClaim_45 : decode cX2_ofClaim 45 = .ok (.ireturn, 1) := by decide +kernel
theorem dX2_ofClaim_46 : decode cX2_ofClaim 46 = .ok (.aload_n 3, 1) := by decide +kernel
theorem dX2_ofClaim_47 : decode cX2_ofClaim 47 = .ok (.getfield 186, 3) := by decide +kernel
theorem dX2_ofClaim_50 : decode cX2_ofClaim 50 = .ok (.ireturn, 1) := by decide +kernel
theorem dX2_ofClaim_51 : decode cX2_ofClaim 51 = .ok (.aload_n 3, 1) := by decide +kernel
theorem dX2_ofClaim_52 : decode cX2_ofClaim 52 = .ok (.getfield 207, 3) := by decide +kernel
theorem dX2_ofClaim_55 : decode cX2_ofClaim 55 = .ok (.ireturn, 1) := by decide +kernel
theorem dX2_ofClaim_56 : decode cX2_ofClaim 56 = .ok (.new 77, 3) := by decide +kernel
theorem dX2_ofClaim_59 : decode cX2_ofClaim 59 = .ok (.dup, 1) := by decide +kernel
theorem dX2_ofClaim_60 : decode cX2_ofClaim 60 = .ok (.ldc_w 273, 3) := by decide +kernel
theorem dX2_ofClaim_63 : decode cX2_ofClaim 63 = .ok (.invokespecial 81, 3) := by decide +kernel
theorem dX2_ofClaim_66 : decode cX2_ofClaim 66 = .ok (.athrow, 1) := by decide +kernel
theorem dX2_money_0 : decode cX2_money 0 = .ok (.iload_n 1, 1) := by decide +kernel
theorem dX2_money_1 : decode cX2_money 1 = .ok (.tableswitch 42 0 2 #[27, 32, 37], 27) := by decide +kernel
theorem dX2_money_28 : decode cX2_money 28 = .ok (.aload_n 0, 1) := by decide +kernel
theorem dX2_money_29 : decode cX2_money 29 = .ok (.getfield 53, 3) := by decide +kernel
theorem dX2_money_32 : decode cX2_money 32 = .ok (.ireturn, 1) := by decide +kernel
theorem dX2_money_33 : decode cX2_money 33 = .ok (.aload_n 0, 1) := by decide +kernel
theorem dX2_money_34 : decode cX2_money 34 = .ok (.getfield 56, 3) := by decide +kernel
theorem dX2_money_37 : decode cX2_money 37 = .ok (.ireturn, 1) := by decide +kernel
theorem dX2_money_38 : decode cX2_money 38 = .ok (.aload_n 0, 1) := by decide +kernel
theorem dX2_money_39 : decode cX2_money 39 = .ok (.getfield 59, 3) := by decide +kernel
theorem dX2_money_42 : decode cX2_money 42 = .ok (.ireturn, 1) := by decide +kernel
theorem dX2_money_43 : decode cX2_money 43 = .ok (.new 77, 3) := by decide +kernel
theorem dX2_money_46 : decode cX2_money 46 = .ok (.dup, 1) := by decide +kernel
theorem dX2_money_47 : decode cX2_money 47 = .ok (.ldc_w 273, 3) := by decide +kernel
theorem dX2_money_50 : decode cX2_money 50 = .ok (.invokespecial 81, 3) := by decide +kernel
theorem dX2_money_53 : decode cX2_money 53 = .ok (.athrow, 1) := by decide +kernel
set_option maxRecDepth 20000 in
theorem ggX2_audit_X2_requireRoom : GoodIn wsX2_audit wsX2_requireRoom := goodIn_ca (goodIn_r _ [7, 8, 9, 10, 11, 6, 12] (by decide +kernel) (by decide +kernel)) (goodIn_sub (fun _ h => List.mem_cons_of_mem _ (List.mem_append_right _ h)) (by decide +kernel))
set_option maxRecDepth 20000 in
theorem gX2_audit_X2_requireRoom : GoodIn wsX2_audit (va_wsS RX2 86 yX2_requireRoom wsX2_requireRoom) := goodIn_app (goodIn_of _ (by decide +kernel)) ggX2_audit_X2_requireRoom
theorem dX2_audit_0 : decode cX2_audit 0 = .ok (.iload_n 1, 1) := by decide +kernel
theorem dX2_audit_1 : decode cX2_audit 1 = .ok (.invokestatic 86, 3) := by decide +kernel
theorem dX2_audit_4 : decode cX2_audit 4 = .ok (.iconst 0, 1) := by decide +kernel
theorem dX2_audit_5 : decode cX2_audit 5 = .ok (.istore_n 2, 1) := by decide +kernel
theorem dX2_audit_6 : decode cX2_audit 6 = .ok (.iconst 0, 1) := by decide +kernel
theorem dX2_audit_7 : decode cX2_audit 7 = .ok (.istore_n 3, 1) := by decide +kernel
theorem dX2_audit_8 : decode cX2_audit 8 = .ok (.iload_n 3, 1) := by decide +kernel
theorem dX2_audit_9 : decode cX2_audit 9 = .ok (.aload_n 0, 1) := by decide +kernel
theorem dX2_audit_10 : decode cX2_audit 10 = .ok (.getfield 27, 3) := by decide +kernel
theorem dX2_audit_13 : decode cX2_audit 13 = .ok (.arraylength, 1) := by decide +kernel
theorem dX2_audit_14 : decode cX2_audit 14 = .ok (.if_icmp .ge 45, 3) := by decide +kernel
theorem dX2_audit_17 : decode cX2_audit 17 = .ok (.aload_n 0, 1) := by decide +kernel
theorem dX2_audit_18 : decode cX2_audit 18 = .ok (.getfield 27, 3) := by decide +kernel
theorem dX2_audit_21 : decode cX2_audit 21 = .ok (.iload_n 3, 1) := by decide +kernel
theorem dX2_audit_22 : decode cX2_audit 22 = .ok (.aaload, 1) := by decide +kernel
theorem dX2_audit_23 : decode cX2_audit 23 = .ok (.astore 4, 2) := by decide +kernel
theorem dX2_audit_25 : decode cX2_audit 25 = .ok (.aload 4, 2) := by decide +kernel
theorem dX2_audit_27 : decode cX2_audit 27 = .ok (.ifnull 26, 3) := by decide +kernel
theorem dX2_audit_30 : decode cX2_audit 30 = .ok (.aload 4, 2) := by decide +kernel
theorem dX2_audit_32 : decode cX2_audit 32 = .ok (.getfield 142, 3) := by decide +kernel
theorem dX2_audit_35 : decode cX2_audit 35 = .ok (.ifCond .ne 18, 3) := by decide +kernel
theorem dX2_audit_38 : decode cX2_audit 38 = .ok (.aload 4, 2) := by decide +kernel
theorem dX2_audit_40 : decode cX2_audit 40 = .ok (.getfield 150, 3) := by decide +kernel
theorem dX2_audit_43 : decode cX2_audit 43 = .ok (.iload_n 1, 1) := by decide +kernel
theorem dX2_audit_44 : decode cX2_audit 44 = .ok (.if_icmp .ne 9, 3) := by decide +kernel
theorem dX2_audit_47 : decode cX2_audit 47 = .ok (.iload_n 2, 1) := by decide +kernel
theorem dX2_audit_48 : decode cX2_audit 48 = .ok (.iconst 1, 1) := by decide +kernel
theorem dX2_audit_49 : decode cX2_audit 49 = .ok (.iload_n 3, 1) := by decide +kernel
theorem dX2_audit_50 : decode cX2_audit 50 = .ok (.ishl, 1) := by decide +kernel
theorem dX2_audit_51 : decode cX2_audit 51 = .ok (.ior, 1) := by decide +kernel
theorem dX2_audit_52 : decode cX2_audit 52 = .ok (.istore_n 2, 1) := by decide +kernel
theorem dX2_audit_53 : decode cX2_audit 53 = .ok (.iinc 3 1, 3) := by decide +kernel
theorem dX2_audit_56 : decode cX2_audit 56 = .ok (.goto (-48), 3) := by decide +kernel
theorem dX2_audit_59 : decode cX2_audit 59 = .ok (.iload_n 2, 1) := by decide +kernel
theorem dX2_audit_60 : decode cX2_audit 60 = .ok (.ireturn, 1) := by decide +kernel
theorem dX2_isWithin_0 : decode cX2_isWithin 0 = .ok (.iload_n 0, 1) := by decide +kernel
theorem dX2_isWithin_1 : decode cX2_isWithin 1 = .ok (.iload_n 1, 1) := by decide +kernel
theorem dX2_isWithin_2 : decode cX2_isWithin 2 = .ok (.if_icmp .lt 12, 3) := by decide +kernel
theorem dX2_isWithin_5 : decode cX2_isWithin 5 = .ok (.iload_n 0, 1) := by decide +kernel
theorem dX2_isWithin_6 : decode cX2_isWithin 6 = .ok (.iload_n 2, 1) := by decide +kernel
theorem dX2_isWithin_7 : decode cX2_isWithin 7 = .ok (.if_icmp .gt 7, 3) := by decide +kernel
theorem dX2_isWithin_10 : decode cX2_isWithin 10 = .ok (.iconst 1, 1) := by decide +kernel
theorem dX2_isWithin_11 : decode cX2_isWithin 11 = .ok (.goto 4, 3) := by decide +kernel
theorem dX2_isWithin_14 : decode cX2_isWithin 14 = .ok (.iconst 0, 1) := by decide +kernel
theorem dX2_isWithin_15 : decode cX2_isWithin 15 = .ok (.ireturn, 1) := by decide +kernel
set_option maxRecDepth 20000 in
theorem ggX2_requireKind_X2_isWithin : GoodIn wsX2_requireKind wsX2_isWithin := goodIn_r _ [6] (by decide +kernel) (by decide +kernel)
set_option maxRecDepth 20000 in
theorem gX2_requireKind_X2_isWithin : GoodIn wsX2_requireKind (va_wsS RX2 73 yX2_isWithin wsX2_isWithin) := goodIn_app (goodIn_of _ (by decide +kernel)) ggX2_requireKind_X2_isWithin
theorem dX2_requireKind_0 : decode cX2_requireKind 0 = .ok (.iload_n 0, 1) := by decide +kernel
theorem dX2_requireKind_1 : decode cX2_requireKind 1 = .ok (.iconst 0, 1) := by decide +kernel
theorem dX2_requireKind_2 : decode cX2_requireKind 2 = .ok (.bipush 7, 2) := by decide +kernel
theorem dX2_requireKind_4 : decode cX2_requireKind 4 = .ok (.invokestatic 73, 3) := by decide +kernel
theorem dX2_requireKind_7 : decode cX2_requireKind 7 = .ok (.ifCond .ne 13, 3) := by decide +kernel
theorem dX2_requireKind_10 : decode cX2_requireKind 10 = .ok (.new 66, 3) := by decide +kernel
theorem dX2_requireKind_13 : decode cX2_requireKind 13 = .ok (.dup, 1) := by decide +kernel
theorem dX2_requireKind_14 : decode cX2_requireKind 14 = .ok (.ldc 68, 2) := by decide +kernel
theorem dX2_requireKind_16 : decode cX2_requireKind 16 = .ok (.invokespecial 70, 3) := by decide +kernel
theorem dX2_requireKind_19 : decode cX2_requireKind 19 = .ok (.athrow, 1) := by decide +kernel
theorem dX2_requireKind_20 : decode cX2_requireKind 20 = .ok (.return_, 1) := by decide +kernel
set_option maxRecDepth 20000 in
theorem ggX2_requirePlace_X2_isWithin : GoodIn wsX2_requirePlace wsX2_isWithin := goodIn_r _ [6] (by decide +kernel) (by decide +kernel)
set_option maxRecDepth 20000 in
theorem gX2_requirePlace_X2_isWithin : GoodIn wsX2_requirePlace (va_wsS RX2 73 yX2_isWithin wsX2_isWithin) := goodIn_app (goodIn_of _ (by decide +kernel)) ggX2_requirePlace_X2_isWithin
theorem dX2_requirePlace_0 : decode cX2_requirePlace 0 = .ok (.iload_n 0, 1) := by decide +kernel
theorem dX2_requirePlace_1 : decode cX2_requirePlace 1 = .ok (.iconst 0, 1) := by decide +kernel
theorem dX2_requirePlace_2 : decode cX2_requirePlace 2 = .ok (.bipush 9, 2) := by decide +kernel
theorem dX2_requirePlace_4 : decode cX2_requirePlace 4 = .ok (.invokestatic 73, 3) := by decide +kernel
theorem dX2_requirePlace_7 : decode cX2_requirePlace 7 = .ok (.ifCond .ne 13, 3) := by decide +kernel
theorem dX2_requirePlace_10 : decode cX2_requirePlace 10 = .ok (.new 66, 3) := by decide +kernel
theorem dX2_requirePlace_13 : decode cX2_requirePlace 13 = .ok (.dup, 1) := by decide +kernel
theorem dX2_requirePlace_14 : decode cX2_requirePlace 14 = .ok (.ldc 255, 2) := by decide +kernel
theorem dX2_requirePlace_16 : decode cX2_requirePlace 16 = .ok (.invokespecial 70, 3) := by decide +kernel
theorem dX2_requirePlace_19 : decode cX2_requirePlace 19 = .ok (.athrow, 1) := by decide +kernel
theorem dX2_requirePlace_20 : decode cX2_requirePlace 20 = .ok (.return_, 1) := by decide +kernel
set_option maxRecDepth 20000 in
theorem ggX2_requireRoom_X2_isWithin : GoodIn wsX2_requireRoom wsX2_isWithin := goodIn_r _ [6] (by decide +kernel) (by decide +kernel)
set_option maxRecDepth 20000 in
theorem gX2_requireRoom_X2_isWithin : GoodIn wsX2_requireRoom (va_wsS RX2 73 yX2_isWithin wsX2_isWithin) := goodIn_app (goodIn_of _ (by decide +kernel)) ggX2_requireRoom_X2_isWithin
theorem dX2_requireRoom_0 : decode cX2_requireRoom 0 = .ok (.iload_n 0, 1) := by decide +kernel
theorem dX2_requireRoom_1 : decode cX2_requireRoom 1 = .ok (.iconst 0, 1) := by decide +kernel
theorem dX2_requireRoom_2 : decode cX2_requireRoom 2 = .ok (.iconst 5, 1) := by decide +kernel
theorem dX2_requireRoom_3 : decode cX2_requireRoom 3 = .ok (.invokestatic 73, 3) := by decide +kernel
theorem dX2_requireRoom_6 : decode cX2_requireRoom 6 = .ok (.ifCond .ne 14, 3) := by decide +kernel
theorem dX2_requireRoom_9 : decode cX2_requireRoom 9 = .ok (.new 66, 3) := by decide +kernel
theorem dX2_requireRoom_12 : decode cX2_requireRoom 12 = .ok (.dup, 1) := by decide +kernel
theorem dX2_requireRoom_13 : decode cX2_requireRoom 13 = .ok (.ldc_w 284, 3) := by decide +kernel
theorem dX2_requireRoom_16 : decode cX2_requireRoom 16 = .ok (.invokespecial 70, 3) := by decide +kernel
theorem dX2_requireRoom_19 : decode cX2_requireRoom 19 = .ok (.athrow, 1) := by decide +kernel
theorem dX2_requireRoom_20 : decode cX2_requireRoom 20 = .ok (.return_, 1) := by decide +kernel
set_option maxRecDepth 20000 in
theorem ggX2_requireWords_X2_isWithin : GoodIn wsX2_requireWords wsX2_isWithin := goodIn_r _ [7] (by decide +kernel) (by decide +kernel)
set_option maxRecDepth 20000 in
theorem gX2_requireWords_X2_isWithin : GoodIn wsX2_requireWords (va_wsS RX2 73 yX2_isWithin wsX2_isWithin) := goodIn_app (goodIn_of _ (by decide +kernel)) ggX2_requireWords_X2_isWithin
theorem dX2_requireWords_0 : decode cX2_requireWords 0 = .ok (.iload_n 0, 1) := by decide +kernel
theorem dX2_requireWords_1 : decode cX2_requireWords 1 = .ok (.iconst 0, 1) := by decide +kernel
theorem dX2_requireWords_2 : decode cX2_requireWords 2 = .ok (.ldc_w 286, 3) := by decide +kernel
theorem dX2_requireWords_5 : decode cX2_requireWords 5 = .ok (.invokestatic 73, 3) := by decide +kernel
theorem dX2_requireWords_8 : decode cX2_requireWords 8 = .ok (.ifCond .ne 14, 3) := by decide +kernel
theorem dX2_requireWords_11 : decode cX2_requireWords 11 = .ok (.new 77, 3) := by decide +kernel
theorem dX2_requireWords_14 : decode cX2_requireWords 14 = .ok (.dup, 1) := by decide +kernel
theorem dX2_requireWords_15 : decode cX2_requireWords 15 = .ok (.ldc_w 287, 3) := by decide +kernel
theorem dX2_requireWords_18 : decode cX2_requireWords 18 = .ok (.invokespecial 81, 3) := by decide +kernel
theorem dX2_requireWords_21 : decode cX2_requireWords 21 = .ok (.athrow, 1) := by decide +kernel
theorem dX2_requireWords_22 : decode cX2_requireWords 22 = .ok (.return_, 1) := by decide +kernel
theorem dX2_requireOpen_0 : decode cX2_requireOpen 0 = .ok (.aload_n 0, 1) := by decide +kernel
theorem dX2_requireOpen_1 : decode cX2_requireOpen 1 = .ok (.getfield 283, 3) := by decide +kernel
theorem dX2_requireOpen_4 : decode cX2_requireOpen 4 = .ok (.ifCond .eq 14, 3) := by decide +kernel
theorem dX2_requireOpen_7 : decode cX2_requireOpen 7 = .ok (.new 90, 3) := by decide +kernel
theorem dX2_requireOpen_10 : decode cX2_requireOpen 10 = .ok (.dup, 1) := by decide +kernel
theorem dX2_requireOpen_11 : decode cX2_requireOpen 11 = .ok (.ldc_w 289, 3) := by decide +kernel
theorem dX2_requireOpen_14 : decode cX2_requireOpen 14 = .ok (.invokespecial 94, 3) := by decide +kernel
theorem dX2_requireOpen_17 : decode cX2_requireOpen 17 = .ok (.athrow, 1) := by decide +kernel
theorem dX2_requireOpen_18 : decode cX2_requireOpen 18 = .ok (.return_, 1) := by decide +kernel
set_option maxRecDepth 20000 in
theorem ggX2_requireEntitled_X2_isCandidate : GoodIn wsX2_requireEntitled wsX2_isCandidate := goodIn_r _ [7, 8, 9, 10, 11, 12, 6, 13, 14, 15, 16, 17, 18, 19, 20, 21, 22, 23, 24, 25, 26, 27, 28, 29, 30, 31, 32, 33, 34, 35, 36, 37, 38, 39, 40, 41, 42, 43, 44, 45, 46, 47, 48, 49, 50, 51, 52, 53, 54, 55, 56, 57, 58, 59, 60, 61, 62, 63, 64, 65, 83, 84, 85, 86, 87, 88, 89, 90, 91, 92, 93, 94, 95, 96, 97, 98, 99, 100, 101, 102, 103, 104, 105, 106, 107, 108, 109, 110, 111, 112, 113, 114, 115, 116, 117, 118, 119, 120, 121, 122] (by decide +kernel) (by decide +kernel)
set_option maxRecDepth 20000 in
theorem gX2_requireEntitled_X2_isCandidate : GoodIn wsX2_requireEntitled (wsV RX2 291 RX2 yX2_isCandidate wsX2_isCandidate) := goodIn_app (goodIn_of _ (by decide +kernel)) ggX2_requireEntitled_X2_isCandidate
set_option maxRecDepth 20000 in
theorem ggX2_requireEntitled_X0_proves : GoodIn wsX2_requireEntitled wsX0_proves := goodIn_r _ [70, 71, 72, 73, 23, 74, 75, 76, 60, 61, 62, 63, 64, 65, 108, 109, 110, 111, 112, 113, 114, 115, 116, 117, 118, 119, 120, 121, 122, 83, 84, 85, 86, 87, 88, 89, 90, 91, 92] (by decide +kernel) (by decide +kernel)
set_option maxRecDepth 20000 in
theorem gX2_requireEntitled_X0_proves : GoodIn wsX2_requireEntitled (wsV RX2 270 RX0 yX0_proves wsX0_proves) := goodIn_app (goodIn_of _ (by decide +kernel)) ggX2_requireEntitled_X0_proves
set_option maxRecDepth 20000 in
theorem ggX2_requireEntitled_X2_isBeaten : GoodIn wsX2_requireEntitled wsX2_isBeaten := goodIn_r _ [80, 81, 82, 8, 10, 11, 12, 6, 13, 14, 15, 16, 17, 18, 19, 20, 21, 22, 23, 24, 25, 26, 27, 28, 29, 30, 31, 32, 33, 34, 35, 36, 37, 38, 39, 40, 41, 42, 43, 44, 45, 46, 47, 48, 49, 50, 51, 52, 53, 54, 55, 56, 57, 58, 59, 60, 61, 62, 63, 64, 65, 66, 67, 68, 69, 70, 71, 72, 73, 74, 75, 76, 93, 94, 95, 96, 97, 98, 99, 100, 101, 102, 103, 104, 105, 106, 107, 83, 84, 85, 86, 87, 88, 89, 90, 91, 92, 108, 109, 110, 111, 112, 113, 114, 115, 116, 117, 118, 119, 120, 121, 122] (by decide +kernel) (by decide +kernel)
set_option maxRecDepth 20000 in
theorem gX2_requireEntitled_X2_isBeaten : GoodIn wsX2_requireEntitled (wsV RX2 299 RX2 yX2_isBeaten wsX2_isBeaten) := goodIn_app (goodIn_of _ (by decide +kernel)) ggX2_requireEntitled_X2_isBeaten
theorem dX2_requireEntitled_0 : decode cX2_requireEntitled 0 = .ok (.aload_n 0, 1) := by decide +kernel
theorem dX2_requireEntitled_1 : decode cX2_requireEntitled 1 = .ok (.aload_n 1, 1) := by decide +kernel
theorem dX2_requireEntitled_2 : decode cX2_requireEntitled 2 = .ok (.aload_n 2, 1) := by decide +kernel
theorem dX2_requireEntitled_3 : decode cX2_requireEntitled 3 = .ok (.invokevirtual 291, 3) := by decide +kernel
theorem dX2_requireEntitled_6 : decode cX2_requireEntitled 6 = .ok (.ifCond .ne 14, 3) := by decide +kernel
theorem dX2_requireEntitled_9 : decode cX2_requireEntitled 9 = .ok (.new 90, 3) := by decide +kernel
theorem dX2_requireEntitled_12 : decode cX2_requireEntitled 12 = .ok (.dup, 1) := by decide +kernel
theorem dX2_requireEntitled_13 : decode cX2_requireEntitled 13 = .ok (.ldc_w 295, 3) := by decide +kernel
theorem dX2_requireEntitled_16 : decode cX2_requireEntitled 16 = .ok (.invokespecial 94, 3) := by decide +kernel
theorem dX2_requireEntitled_19 : decode cX2_requireEntitled 19 = .ok (.athrow, 1) := by decide +kernel
theorem dX2_requireEntitled_20 : decode cX2_requireEntitled 20 = .ok (.aload_n 2, 1) := by decide +kernel
theorem dX2_requireEntitled_21 : decode cX2_requireEntitled 21 = .ok (.aload_n 1, 1) := by decide +kernel
theorem dX2_requireEntitled_22 : decode cX2_requireEntitled 22 = .ok (.invokevirtual 270, 3) := by decide +kernel
theorem dX2_requireEntitled_25 : decode cX2_requireEntitled 25 = .ok (.ifCond .ne 14, 3) := by decide +kernel
theorem dX2_requireEntitled_28 : decode cX2_requireEntitled 28 = .ok (.new 90, 3) := by decide +kernel
theorem dX2_requireEntitled_31 : decode cX2_requireEntitled 31 = .ok (.dup, 1) := by decide +kernel
theorem dX2_requireEntitled_32 : decode cX2_requireEntitled 32 = .ok (.ldc_w 297, 3) := by decide +kernel
theorem dX2_requireEntitled_35 : decode cX2_requireEntitled 35 = .ok (.invokespecial 94, 3) := by decide +kernel
theorem dX2_requireEntitled_38 : decode cX2_requireEntitled 38 = .ok (.athrow, 1) := by decide +kernel
theorem dX2_requireEntitled_39 : decode cX2_requireEntitled 39 = .ok (.aload_n 0, 1) := by decide +kernel
theorem dX2_requireEntitled_40 : decode cX2_requireEntitled 40 = .ok (.aload_n 1, 1) := by decide +kernel
theorem dX2_requireEntitled_41 : decode cX2_requireEntitled 41 = .ok (.aload_n 2, 1) := by decide +kernel
theorem dX2_requireEntitled_42 : decode cX2_requireEntitled 42 = .ok (.invokevirtual 299, 3) := by decide +kernel
theorem dX2_requireEntitled_45 : decode cX2_requireEntitled 45 = .ok (.ifCond .eq 14, 3) := by decide +kernel
theorem dX2_requireEntitled_48 : decode cX2_requireEntitled 48 = .ok (.new 90, 3) := by decide +kernel
theorem dX2_requireEntitled_51 : decode cX2_requireEntitled 51 = .ok (.dup, 1) := by decide +kernel
theorem dX2_requireEntitled_52 : decode cX2_requireEntitled 52 = .ok (.ldc_w 302, 3) := by decide +kernel
theorem dX2_requireEntitled_55 : decode cX2_requireEntitled 55 = .ok (.invokespecial 94, 3) := by decide +kernel
theorem dX2_requireEntitled_58 : decode cX2_requireEntitled 58 = .ok (.athrow, 1) := by decide +kernel
theorem dX2_requireEntitled_59 : decode cX2_requireEntitled 59 = .ok (.return_, 1) := by decide +kernel
theorem dX2_foundAt_0 : decode cX2_foundAt 0 = .ok (.iload_n 1, 1) := by decide +kernel
theorem dX2_foundAt_1 : decode cX2_foundAt 1 = .ok (.ifCond .lt 12, 3) := by decide +kernel
theorem dX2_foundAt_4 : decode cX2_foundAt 4 = .ok (.iload_n 1, 1) := by decide +kernel
theorem dX2_foundAt_5 : decode cX2_foundAt 5 = .ok (.aload_n 0, 1) := by decide +kernel
theorem dX2_foundAt_6 : decode cX2_foundAt 6 = .ok (.getfield 27, 3) := by decide +kernel
theorem dX2_foundAt_9 : decode cX2_foundAt 9 = .ok (.arraylength, 1) := by decide +kernel
theorem dX2_foundAt_10 : decode cX2_foundAt 10 = .ok (.if_icmp .lt 14, 3) := by decide +kernel
theorem dX2_foundAt_13 : decode cX2_foundAt 13 = .ok (.new 66, 3) := by decide +kernel
theorem dX2_foundAt_16 : decode cX2_foundAt 16 = .ok (.dup, 1) := by decide +kernel
theorem dX2_foundAt_17 : decode cX2_foundAt 17 = .ok (.ldc_w 304, 3) := by decide +kernel
theorem dX2_foundAt_20 : decode cX2_foundAt 20 = .ok (.invokespecial 70, 3) := by decide +kernel
theorem dX2_foundAt_23 : decode cX2_foundAt 23 = .ok (.athrow, 1) := by decide +kernel
theorem dX2_foundAt_24 : decode cX2_foundAt 24 = .ok (.aload_n 0, 1) := by decide +kernel
theorem dX2_foundAt_25 : decode cX2_foundAt 25 = .ok (.getfield 27, 3) := by decide +kernel
theorem dX2_foundAt_28 : decode cX2_foundAt 28 = .ok (.iload_n 1, 1) := by decide +kernel
theorem dX2_foundAt_29 : decode cX2_foundAt 29 = .ok (.aaload, 1) := by decide +kernel
theorem dX2_foundAt_30 : decode cX2_foundAt 30 = .ok (.astore_n 2, 1) := by decide +kernel
theorem dX2_foundAt_31 : decode cX2_foundAt 31 = .ok (.aload_n 2, 1) := by decide +kernel
theorem dX2_foundAt_32 : decode cX2_foundAt 32 = .ok (.ifnonnull 14, 3) := by decide +kernel
theorem dX2_foundAt_35 : decode cX2_foundAt 35 = .ok (.new 66, 3) := by decide +kernel
theorem dX2_foundAt_38 : decode cX2_foundAt 38 = .ok (.dup, 1) := by decide +kernel
theorem dX2_foundAt_39 : decode cX2_foundAt 39 = .ok (.ldc_w 304, 3) := by decide +kernel
theorem dX2_foundAt_42 : decode cX2_foundAt 42 = .ok (.invokespecial 70, 3) := by decide +kernel
theorem dX2_foundAt_45 : decode cX2_foundAt 45 = .ok (.athrow, 1) := by decide +kernel
theorem dX2_foundAt_46 : decode cX2_foundAt 46 = .ok (.aload_n 2, 1) := by decide +kernel
theorem dX2_foundAt_47 : decode cX2_foundAt 47 = .ok (.areturn, 1) := by decide +kernel
theorem dX2_claimAt_0 : decode cX2_claimAt 0 = .ok (.iload_n 1, 1) := by decide +kernel
theorem dX2_claimAt_1 : decode cX2_claimAt 1 = .ok (.ifCond .lt 12, 3) := by decide +kernel
theorem dX2_claimAt_4 : decode cX2_claimAt 4 = .ok (.iload_n 1, 1) := by decide +kernel
theorem dX2_claimAt_5 : decode cX2_claimAt 5 = .ok (.aload_n 0, 1) := by decide +kernel
theorem dX2_claimAt_6 : decode cX2_claimAt 6 = .ok (.getfield 33, 3) := by decide +kernel
theorem dX2_claimAt_9 : decode cX2_claimAt 9 = .ok (.arraylength, 1) := by decide +kernel
theorem dX2_claimAt_10 : decode cX2_claimAt 10 = .ok (.if_icmp .lt 14, 3) := by decide +kernel
theorem dX2_claimAt_13 : decode cX2_claimAt 13 = .ok (.new 66, 3) := by decide +kernel
theorem dX2_claimAt_16 : decode cX2_claimAt 16 = .ok (.dup, 1) := by decide +kernel
theorem dX2_claimAt_17 : decode cX2_claimAt 17 = .ok (.ldc_w 306, 3) := by decide +kernel
theorem dX2_claimAt_20 : decode cX2_claimAt 20 = .ok (.invokespecial 70, 3) := by decide +kernel
theorem dX2_claimAt_23 : decode cX2_claimAt 23 = .ok (.athrow, 1) := by decide +kernel
theorem dX2_claimAt_24 : decode cX2_claimAt 24 = .ok (.aload_n 0, 1) := by decide +kernel
theorem dX2_claimAt_25 : decode cX2_claimAt 25 = .ok (.getfield 33, 3) := by decide +kernel
theorem dX2_claimAt_28 : decode cX2_claimAt 28 = .ok (.iload_n 1, 1) := by decide +kernel
theorem dX2_claimAt_29 : decode cX2_claimAt 29 = .ok (.aaload, 1) := by decide +kernel
theorem dX2_claimAt_30 : decode cX2_claimAt 30 = .ok (.astore_n 2, 1) := by decide +kernel
theorem dX2_claimAt_31 : decode cX2_claimAt 31 = .ok (.aload_n 2, 1) := by decide +kernel
theorem dX2_claimAt_32 : decode cX2_claimAt 32 = .ok (.ifnonnull 14, 3) := by decide +kernel
theorem dX2_claimAt_35 : decode cX2_claimAt 35 = .ok (.new 66, 3) := by decide +kernel
theorem dX2_claimAt_38 : decode cX2_claimAt 38 = .ok (.dup, 1) := by decide +kernel
theorem dX2_claimAt_39 : decode cX2_claimAt 39 = .ok (.ldc_w 306, 3) := by decide +kernel
theorem dX2_claimAt_42 : decode cX2_claimAt 42 = .ok (.invokespecial 70, 3) := by decide +kernel
theorem dX2_claimAt_45 : decode cX2_claimAt 45 = .ok (.athrow, 1) := by decide +kernel
theorem dX2_claimAt_46 : decode cX2_claimAt 46 = .ok (.aload_n 2, 1) := by decide +kernel
theorem dX2_claimAt_47 : decode cX2_claimAt 47 = .ok (.areturn, 1) := by decide +kernel
theorem dX2_turned_0 : decode cX2_turned 0 = .ok (.iload_n 1, 1) := by decide +kernel
theorem dX2_turned_1 : decode cX2_turned 1 = .ok (.ifCond .lt 19, 3) := by decide +kernel
theorem dX2_turned_4 : decode cX2_turned 4 = .ok (.iload_n 1, 1) := by decide +kernel
theorem dX2_turned_5 : decode cX2_turned 5 = .ok (.aload_n 0, 1) := by decide +kernel
theorem dX2_turned_6 : decode cX2_turned 6 = .ok (.arraylength, 1) := by decide +kernel
theorem dX2_turned_7 : decode cX2_turned 7 = .ok (.if_icmp .ge 13, 3) := by decide +kernel
theorem dX2_turned_10 : decode cX2_turned 10 = .ok (.iload_n 2, 1) := by decide +kernel
theorem dX2_turned_11 : decode cX2_turned 11 = .ok (.ifCond .lt 9, 3) := by decide +kernel
theorem dX2_turned_14 : decode cX2_turned 14 = .ok (.iload_n 2, 1) := by decide +kernel
theorem dX2_turned_15 : decode cX2_turned 15 = .ok (.aload_n 0, 1) := by decide +kernel
theorem dX2_turned_16 : decode cX2_turned 16 = .ok (.arraylength, 1) := by decide +kernel
theorem dX2_turned_17 : decode cX2_turned 17 = .ok (.if_icmp .lt 14, 3) := by decide +kernel
theorem dX2_turned_20 : decode cX2_turned 20 = .ok (.new 66, 3) := by decide +kernel
theorem dX2_turned_23 : decode cX2_turned 23 = .ok (.dup, 1) := by decide +kernel
theorem dX2_turned_24 : decode cX2_turned 24 = .ok (.ldc_w 308, 3) := by decide +kernel
theorem dX2_turned_27 : decode cX2_turned 27 = .ok (.invokespecial 70, 3) := by decide +kernel
theorem dX2_turned_30 : decode cX2_turned 30 = .ok (.athrow, 1) := by decide +kernel
theorem dX2_turned_31 : decode cX2_turned 31 = .ok (.iload_n 1, 1) := by decide +kernel
theorem dX2_turned_32 : decode cX2_turned 32 = .ok (.iload_n 2, 1) := by decide +kernel
theorem dX2_turned_33 : decode cX2_turned 33 = .ok (.if_icmp .ne 14, 3) := by decide +kernel
theorem dX2_turned_36 : decode cX2_turned 36 = .ok (.new 77, 3) := by decide +kernel
theorem dX2_turned_39 : decode cX2_turned 39 = .ok (.dup, 1) := by decide +kernel
theorem dX2_turned_40 : decode cX2_turned 40 = .ok (.ldc_w 310, 3) := by decide +kernel
theorem dX2_turned_43 : decode cX2_turned 43 = .ok (.invokespecial 81, 3) := by decide +kernel
theorem dX2_turned_46 : decode cX2_turned 46 = .ok (.athrow, 1) := by decide +kernel
theorem dX2_turned_47 : decode cX2_turned 47 = .ok (.aload_n 0, 1) := by decide +kernel
theorem dX2_turned_48 : decode cX2_turned 48 = .ok (.iload_n 1, 1) := by decide +kernel
theorem dX2_turned_49 : decode cX2_turned 49 = .ok (.dup2, 1) := by decide +kernel
theorem dX2_turned_50 : decode cX2_turned 50 = .ok (.iaload, 1) := by decide +kernel
theorem dX2_turned_51 : decode cX2_turned 51 = .ok (.iconst 1, 1) := by decide +kernel
theorem dX2_turned_52 : decode cX2_turned 52 = .ok (.iload_n 2, 1) := by decide +kernel
theorem dX2_turned_53 : decode cX2_turned 53 = .ok (.ishl, 1) := by decide +kernel
theorem dX2_turned_54 : decode cX2_turned 54 = .ok (.ixor, 1) := by decide +kernel
theorem dX2_turned_55 : decode cX2_turned 55 = .ok (.iastore, 1) := by decide +kernel
theorem dX2_turned_56 : decode cX2_turned 56 = .ok (.aload_n 0, 1) := by decide +kernel
theorem dX2_turned_57 : decode cX2_turned 57 = .ok (.iload_n 2, 1) := by decide +kernel
theorem dX2_turned_58 : decode cX2_turned 58 = .ok (.dup2, 1) := by decide +kernel
theorem dX2_turned_59 : decode cX2_turned 59 = .ok (.iaload, 1) := by decide +kernel
theorem dX2_turned_60 : decode cX2_turned 60 = .ok (.iconst 1, 1) := by decide +kernel
theorem dX2_turned_61 : decode cX2_turned 61 = .ok (.iload_n 1, 1) := by decide +kernel
theorem dX2_turned_62 : decode cX2_turned 62 = .ok (.ishl, 1) := by decide +kernel
theorem dX2_turned_63 : decode cX2_turned 63 = .ok (.ixor, 1) := by decide +kernel
theorem dX2_turned_64 : decode cX2_turned 64 = .ok (.iastore, 1) := by decide +kernel
theorem dX2_turned_65 : decode cX2_turned 65 = .ok (.aload_n 0, 1) := by decide +kernel
theorem dX2_turned_66 : decode cX2_turned 66 = .ok (.iload_n 1, 1) := by decide +kernel
theorem dX2_turned_67 : decode cX2_turned 67 = .ok (.iaload, 1) := by decide +kernel
theorem dX2_turned_68 : decode cX2_turned 68 = .ok (.iconst 1, 1) := by decide +kernel
theorem dX2_turned_69 : decode cX2_turned 69 = .ok (.iload_n 2, 1) := by decide +kernel
theorem dX2_turned_70 : decode cX2_turned 70 = .ok (.ishl, 1) := by decide +kernel
theorem dX2_turned_71 : decode cX2_turned 71 = .ok (.iand, 1) := by decide +kernel
theorem dX2_turned_72 : decode cX2_turned 72 = .ok (.ifCond .eq 7, 3) := by decide +kernel
theorem dX2_turned_75 : decode cX2_turned 75 = .ok (.iconst 1, 1) := by decide +kernel
theorem dX2_turned_76 : decode cX2_turned 76 = .ok (.goto 4, 3) := by decide +kernel
theorem dX2_turned_79 : decode cX2_turned 79 = .ok (.iconst 0, 1) := by decide +kernel
theorem dX2_turned_80 : decode cX2_turned 80 = .ok (.ireturn, 1) := by decide +kernel
theorem dX2_areAlike_0 : decode cX2_areAlike 0 = .ok (.iload_n 1, 1) := by decide +kernel
theorem dX2_areAlike_1 : decode cX2_areAlike 1 = .ok (.ifCond .lt 29, 3) := by decide +kernel
theorem dX2_areAlike_4 : decode cX2_areAlike 4 = .ok (.iload_n 1, 1) := by decide +kernel
theorem dX2_areAlike_5 : decode cX2_areAlike 5 = .ok (.aload_n 0, 1) := by decide +kernel
theorem dX2_areAlike_6 : decode cX2_areAlike 6 = .ok (.getfield 13, 3) := by decide +kernel
theorem dX2_areAlike_9 : decode cX2_areAlike 9 = .ok (.arraylength, 1) := by decide +kernel
theorem dX2_areAlike_10 : decode cX2_areAlike 10 = .ok (.if_icmp .ge 20, 3) := by decide +kernel
theorem dX2_areAlike_13 : decode cX2_areAlike 13 = .ok (.aload_n 0, 1) := by decide +kernel
theorem dX2_areAlike_14 : decode cX2_areAlike 14 = .ok (.getfield 13, 3) := by decide +kernel
theorem dX2_areAlike_17 : decode cX2_areAlike 17 = .ok (.iload_n 1, 1) := by decide +kernel
theorem dX2_areAlike_18 : decode cX2_areAlike 18 = .ok (.iaload, 1) := by decide +kernel
theorem dX2_areAlike_19 : decode cX2_areAlike 19 = .ok (.iconst 1, 1) := by decide +kernel
theorem dX2_areAlike_20 : decode cX2_areAlike 20 = .ok (.iload_n 2, 1) := by decide +kernel
theorem dX2_areAlike_21 : decode cX2_areAlike 21 = .ok (.ishl, 1) := by decide +kernel
theorem dX2_areAlike_22 : decode cX2_areAlike 22 = .ok (.iand, 1) := by decide +kernel
theorem dX2_areAlike_23 : decode cX2_areAlike 23 = .ok (.ifCond .eq 7, 3) := by decide +kernel
theorem dX2_areAlike_26 : decode cX2_areAlike 26 = .ok (.iconst 1, 1) := by decide +kernel
theorem dX2_areAlike_27 : decode cX2_areAlike 27 = .ok (.goto 4, 3) := by decide +kernel
theorem dX2_areAlike_30 : decode cX2_areAlike 30 = .ok (.iconst 0, 1) := by decide +kernel
theorem dX2_areAlike_31 : decode cX2_areAlike 31 = .ok (.ireturn, 1) := by decide +kernel
theorem dX2_wordsNear_0 : decode cX2_wordsNear 0 = .ok (.iconst 0, 1) := by decide +kernel
theorem dX2_wordsNear_1 : decode cX2_wordsNear 1 = .ok (.istore_n 2, 1) := by decide +kernel
theorem dX2_wordsNear_2 : decode cX2_wordsNear 2 = .ok (.iconst 0, 1) := by decide +kernel
theorem dX2_wordsNear_3 : decode cX2_wordsNear 3 = .ok (.istore_n 3, 1) := by decide +kernel
theorem dX2_wordsNear_4 : decode cX2_wordsNear 4 = .ok (.iload_n 3, 1) := by decide +kernel
theorem dX2_wordsNear_5 : decode cX2_wordsNear 5 = .ok (.aload_n 0, 1) := by decide +kernel
theorem dX2_wordsNear_6 : decode cX2_wordsNear 6 = .ok (.getfield 9, 3) := by decide +kernel
theorem dX2_wordsNear_9 : decode cX2_wordsNear 9 = .ok (.arraylength, 1) := by decide +kernel
theorem dX2_wordsNear_10 : decode cX2_wordsNear 10 = .ok (.if_icmp .ge 26, 3) := by decide +kernel
theorem dX2_wordsNear_13 : decode cX2_wordsNear 13 = .ok (.iload_n 1, 1) := by decide +kernel
theorem dX2_wordsNear_14 : decode cX2_wordsNear 14 = .ok (.iconst 1, 1) := by decide +kernel
theorem dX2_wordsNear_15 : decode cX2_wordsNear 15 = .ok (.iload_n 3, 1) := by decide +kernel
theorem dX2_wordsNear_16 : decode cX2_wordsNear 16 = .ok (.ishl, 1) := by decide +kernel
theorem dX2_wordsNear_17 : decode cX2_wordsNear 17 = .ok (.iand, 1) := by decide +kernel
theorem dX2_wordsNear_18 : decode cX2_wordsNear 18 = .ok (.ifCond .eq 12, 3) := by decide +kernel
theorem dX2_wordsNear_21 : decode cX2_wordsNear 21 = .ok (.iload_n 2, 1) := by decide +kernel
theorem dX2_wordsNear_22 : decode cX2_wordsNear 22 = .ok (.aload_n 0, 1) := by decide +kernel
theorem dX2_wordsNear_23 : decode cX2_wordsNear 23 = .ok (.getfield 9, 3) := by decide +kernel
theorem dX2_wordsNear_26 : decode cX2_wordsNear 26 = .ok (.iload_n 3, 1) := by decide +kernel
theorem dX2_wordsNear_27 : decode cX2_wordsNear 27 = .ok (.iaload, 1) := by decide +kernel
theorem dX2_wordsNear_28 : decode cX2_wordsNear 28 = .ok (.ior, 1) := by decide +kernel
theorem dX2_wordsNear_29 : decode cX2_wordsNear 29 = .ok (.istore_n 2, 1) := by decide +kernel
theorem dX2_wordsNear_30 : decode cX2_wordsNear 30 = .ok (.iinc 3 1, 3) := by decide +kernel
theorem dX2_wordsNear_33 : decode cX2_wordsNear 33 = .ok (.goto (-29), 3) := by decide +kernel
theorem dX2_wordsNear_36 : decode cX2_wordsNear 36 = .ok (.iload_n 2, 1) := by decide +kernel
theorem dX2_wordsNear_37 : decode cX2_wordsNear 37 = .ok (.ireturn, 1) := by decide +kernel
theorem dX2_roomsOf_0 : decode cX2_roomsOf 0 = .ok (.iload_n 1, 1) := by decide +kernel
theorem dX2_roomsOf_1 : decode cX2_roomsOf 1 = .ok (.bipush 6, 2) := by decide +kernel
theorem dX2_roomsOf_3 : decode cX2_roomsOf 3 = .ok (.if_icmp .ge 7, 3) := by decide +kernel
theorem dX2_roomsOf_6 : decode cX2_roomsOf 6 = .ok (.iconst 1, 1) := by decide +kernel
theorem dX2_roomsOf_7 : decode cX2_roomsOf 7 = .ok (.iload_n 1, 1) := by decide +kernel
theorem dX2_roomsOf_8 : decode cX2_roomsOf 8 = .ok (.ishl, 1) := by decide +kernel
theorem dX2_roomsOf_9 : decode cX2_roomsOf 9 = .ok (.ireturn, 1) := by decide +kernel
theorem dX2_roomsOf_10 : decode cX2_roomsOf 10 = .ok (.iload_n 1, 1) := by decide +kernel
theorem dX2_roomsOf_11 : decode cX2_roomsOf 11 = .ok (.bipush 6, 2) := by decide +kernel
theorem dX2_roomsOf_13 : decode cX2_roomsOf 13 = .ok (.isub, 1) := by decide +kernel
theorem dX2_roomsOf_14 : decode cX2_roomsOf 14 = .ok (.istore_n 2, 1) := by decide +kernel
theorem dX2_roomsOf_15 : decode cX2_roomsOf 15 = .ok (.iload_n 2, 1) := by decide +kernel
theorem dX2_roomsOf_16 : decode cX2_roomsOf 16 = .ok (.ifCond .lt 21, 3) := by decide +kernel
theorem dX2_roomsOf_19 : decode cX2_roomsOf 19 = .ok (.iload_n 2, 1) := by decide +kernel
theorem dX2_roomsOf_20 : decode cX2_roomsOf 20 = .ok (.aload_n 0, 1) := by decide +kernel
theorem dX2_roomsOf_21 : decode cX2_roomsOf 21 = .ok (.getfield 16, 3) := by decide +kernel
theorem dX2_roomsOf_24 : decode cX2_roomsOf 24 = .ok (.arraylength, 1) := by decide +kernel
theorem dX2_roomsOf_25 : decode cX2_roomsOf 25 = .ok (.if_icmp .ge 12, 3) := by decide +kernel
theorem dX2_roomsOf_28 : decode cX2_roomsOf 28 = .ok (.aload_n 0, 1) := by decide +kernel
theorem dX2_roomsOf_29 : decode cX2_roomsOf 29 = .ok (.getfield 16, 3) := by decide +kernel
theorem dX2_roomsOf_32 : decode cX2_roomsOf 32 = .ok (.iload_n 2, 1) := by decide +kernel
theorem dX2_roomsOf_33 : decode cX2_roomsOf 33 = .ok (.iaload, 1) := by decide +kernel
theorem dX2_roomsOf_34 : decode cX2_roomsOf 34 = .ok (.goto 4, 3) := by decide +kernel
theorem dX2_roomsOf_37 : decode cX2_roomsOf 37 = .ok (.iconst 0, 1) := by decide +kernel
theorem dX2_roomsOf_38 : decode cX2_roomsOf 38 = .ok (.ireturn, 1) := by decide +kernel
theorem dX2_termOf_0 : decode cX2_termOf 0 = .ok (.iload_n 1, 1) := by decide +kernel
theorem dX2_termOf_1 : decode cX2_termOf 1 = .ok (.bipush 7, 2) := by decide +kernel
theorem dX2_termOf_3 : decode cX2_termOf 3 = .ok (.if_icmp .ne 5, 3) := by decide +kernel
theorem dX2_termOf_6 : decode cX2_termOf 6 = .ok (.iconst 1, 1) := by decide +kernel
theorem dX2_termOf_7 : decode cX2_termOf 7 = .ok (.ireturn, 1) := by decide +kernel
theorem dX2_termOf_8 : decode cX2_termOf 8 = .ok (.iload_n 1, 1) := by decide +kernel
theorem dX2_termOf_9 : decode cX2_termOf 9 = .ok (.ifCond .lt 21, 3) := by decide +kernel
theorem dX2_termOf_12 : decode cX2_termOf 12 = .ok (.iload_n 1, 1) := by decide +kernel
theorem dX2_termOf_13 : decode cX2_termOf 13 = .ok (.aload_n 0, 1) := by decide +kernel
theorem dX2_termOf_14 : decode cX2_termOf 14 = .ok (.getfield 19, 3) := by decide +kernel
theorem dX2_termOf_17 : decode cX2_termOf 17 = .ok (.arraylength, 1) := by decide +kernel
theorem dX2_termOf_18 : decode cX2_termOf 18 = .ok (.if_icmp .ge 12, 3) := by decide +kernel
theorem dX2_termOf_21 : decode cX2_termOf 21 = .ok (.aload_n 0, 1) := by decide +kernel
theorem dX2_termOf_22 : decode cX2_termOf 22 = .ok (.getfield 19, 3) := by decide +kernel
theorem dX2_termOf_25 : decode cX2_termOf 25 = .ok (.iload_n 1, 1) := by decide +kernel
theorem dX2_termOf_26 : decode cX2_termOf 26 = .ok (.iaload, 1) := by decide +kernel
theorem dX2_termOf_27 : decode cX2_termOf 27 = .ok (.goto 5, 3) := by decide +kernel
theorem dX2_termOf_30 : decode cX2_termOf 30 = .ok (.bipush 60, 2) := by decide +kernel
theorem dX2_termOf_32 : decode cX2_termOf 32 = .ok (.ireturn, 1) := by decide +kernel
theorem dX2_rateOf_0 : decode cX2_rateOf 0 = .ok (.iload_n 1, 1) := by decide +kernel
theorem dX2_rateOf_1 : decode cX2_rateOf 1 = .ok (.ifCond .lt 21, 3) := by decide +kernel
theorem dX2_rateOf_4 : decode cX2_rateOf 4 = .ok (.iload_n 1, 1) := by decide +kernel
theorem dX2_rateOf_5 : decode cX2_rateOf 5 = .ok (.aload_n 0, 1) := by decide +kernel
theorem dX2_rateOf_6 : decode cX2_rateOf 6 = .ok (.getfield 22, 3) := by decide +kernel
theorem dX2_rateOf_9 : decode cX2_rateOf 9 = .ok (.arraylength, 1) := by decide +kernel
theorem dX2_rateOf_10 : decode cX2_rateOf 10 = .ok (.if_icmp .ge 12, 3) := by decide +kernel
theorem dX2_rateOf_13 : decode cX2_rateOf 13 = .ok (.aload_n 0, 1) := by decide +kernel
theorem dX2_rateOf_14 : decode cX2_rateOf 14 = .ok (.getfield 22, 3) := by decide +kernel
theorem dX2_rateOf_17 : decode cX2_rateOf 17 = .ok (.iload_n 1, 1) := by decide +kernel
theorem dX2_rateOf_18 : decode cX2_rateOf 18 = .ok (.iaload, 1) := by decide +kernel
theorem dX2_rateOf_19 : decode cX2_rateOf 19 = .ok (.goto 4, 3) := by decide +kernel
theorem dX2_rateOf_22 : decode cX2_rateOf 22 = .ok (.iconst 0, 1) := by decide +kernel
theorem dX2_rateOf_23 : decode cX2_rateOf 23 = .ok (.ireturn, 1) := by decide +kernel
set_option maxRecDepth 20000 in
theorem ggX2_scoreOf_X2_scoreOfKinds : GoodIn wsX2_scoreOf wsX2_scoreOfKinds := goodIn_r _ [16, 17, 18, 19, 15, 20, 21, 79, 80, 81, 82, 83, 84, 85, 86, 87, 88, 89, 90, 91, 92, 93] (by decide +kernel) (by decide +kernel)
set_option maxRecDepth 20000 in
theorem gX2_scoreOf_X2_scoreOfKinds : GoodIn wsX2_scoreOf (wsV RX2 313 RX2 yX2_scoreOfKinds wsX2_scoreOfKinds) := goodIn_app (goodIn_of _ (by decide +kernel)) ggX2_scoreOf_X2_scoreOfKinds
set_option maxRecDepth 20000 in
theorem ggX2_scoreOf_X2_scoreOfPlaces : GoodIn wsX2_scoreOf wsX2_scoreOfPlaces := goodIn_r _ [25, 26, 27, 28, 15, 29, 30, 79, 80, 81, 82, 83, 84, 85, 86, 87, 88, 89, 90, 91, 92, 93] (by decide +kernel) (by decide +kernel)
set_option maxRecDepth 20000 in
theorem gX2_scoreOf_X2_scoreOfPlaces : GoodIn wsX2_scoreOf (wsV RX2 320 RX2 yX2_scoreOfPlaces wsX2_scoreOfPlaces) := goodIn_app (goodIn_of _ (by decide +kernel)) ggX2_scoreOf_X2_scoreOfPlaces
set_option maxRecDepth 20000 in
theorem ggX2_scoreOf_X2_scoreOfDay : GoodIn wsX2_scoreOf wsX2_scoreOfDay := goodIn_r _ [33, 8, 9, 10, 11] (by decide +kernel) (by decide +kernel)
set_option maxRecDepth 20000 in
theorem gX2_scoreOf_X2_scoreOfDay : GoodIn wsX2_scoreOf (va_wsS RX2 330 yX2_scoreOfDay wsX2_scoreOfDay) := goodIn_app (goodIn_of _ (by decide +kernel)) ggX2_scoreOf_X2_scoreOfDay
set_option maxRecDepth 20000 in
theorem ggX2_scoreOf_X2_scoreOfWords : GoodIn wsX2_scoreOf wsX2_scoreOfWords := goodIn_r _ [37, 38, 39, 40, 41, 42, 43, 44, 15, 45, 46, 47, 48, 49, 50, 51, 52, 53, 54, 55, 56, 57, 58, 59, 60, 61, 62, 63, 64, 65, 66, 67, 68, 69, 70, 71, 72, 73, 74, 75, 76, 77, 78, 79, 80, 81, 82, 83, 84, 85, 86, 87, 88, 89, 90, 91, 92, 93] (by decide +kernel) (by decide +kernel)
set_option maxRecDepth 20000 in
theorem gX2_scoreOf_X2_scoreOfWords : GoodIn wsX2_scoreOf (wsV RX2 334 RX2 yX2_scoreOfWords wsX2_scoreOfWords) := goodIn_app (goodIn_of _ (by decide +kernel)) ggX2_scoreOf_X2_scoreOfWords
theorem dX2_scoreOf_0 : decode cX2_scoreOf 0 = .ok (.aload_n 0, 1) := by decide +kernel
theorem dX2_scoreOf_1 : decode cX2_scoreOf 1 = .ok (.aload_n 1, 1) := by decide +kernel
theorem dX2_scoreOf_2 : decode cX2_scoreOf 2 = .ok (.getfield 201, 3) := by decide +kernel
theorem dX2_scoreOf_5 : decode cX2_scoreOf 5 = .ok (.aload_n 2, 1) := by decide +kernel
theorem dX2_scoreOf_6 : decode cX2_scoreOf 6 = .ok (.getfield 312, 3) := by decide +kernel
theorem dX2_scoreOf_9 : decode cX2_scoreOf 9 = .ok (.invokevirtual 313, 3) := by decide +kernel
theorem dX2_scoreOf_12 : decode cX2_scoreOf 12 = .ok (.istore_n 3, 1) := by decide +kernel
theorem dX2_scoreOf_13 : decode cX2_scoreOf 13 = .ok (.iload_n 3, 1) := by decide +kernel
theorem dX2_scoreOf_14 : decode cX2_scoreOf 14 = .ok (.iconst (-1), 1) := by decide +kernel
theorem dX2_scoreOf_15 : decode cX2_scoreOf 15 = .ok (.if_icmp .ne 5, 3) := by decide +kernel
theorem dX2_scoreOf_18 : decode cX2_scoreOf 18 = .ok (.iconst (-1), 1) := by decide +kernel
theorem dX2_scoreOf_19 : decode cX2_scoreOf 19 = .ok (.ireturn, 1) := by decide +kernel
theorem dX2_scoreOf_20 : decode cX2_scoreOf 20 = .ok (.aload_n 0, 1) := by decide +kernel
theorem dX2_scoreOf_21 : decode cX2_scoreOf 21 = .ok (.aload_n 1, 1) := by decide +kernel
theorem dX2_scoreOf_22 : decode cX2_scoreOf 22 = .ok (.getfield 316, 3) := by decide +kernel
theorem dX2_scoreOf_25 : decode cX2_scoreOf 25 = .ok (.aload_n 2, 1) := by decide +kernel
theorem dX2_scoreOf_26 : decode cX2_scoreOf 26 = .ok (.getfield 319, 3) := by decide +kernel
theorem dX2_scoreOf_29 : decode cX2_scoreOf 29 = .ok (.invokevirtual 320, 3) := by decide +kernel
theorem dX2_scoreOf_32 : decode cX2_scoreOf 32 = .ok (.istore 4, 2) := by decide +kernel
theorem dX2_scoreOf_34 : decode cX2_scoreOf 34 = .ok (.aload_n 1, 1) := by decide +kernel
theorem dX2_scoreOf_35 : decode cX2_scoreOf 35 = .ok (.getfield 323, 3) := by decide +kernel
theorem dX2_scoreOf_38 : decode cX2_scoreOf 38 = .ok (.aload_n 2, 1) := by decide +kernel
theorem dX2_scoreOf_39 : decode cX2_scoreOf 39 = .ok (.getfield 324, 3) := by decide +kernel
theorem dX2_scoreOf_42 : decode cX2_scoreOf 42 = .ok (.aload_n 2, 1) := by decide +kernel
theorem dX2_scoreOf_43 : decode cX2_scoreOf 43 = .ok (.getfield 327, 3) := by decide +kernel
theorem dX2_scoreOf_46 : decode cX2_scoreOf 46 = .ok (.invokestatic 330, 3) := by decide +kernel
theorem dX2_scoreOf_49 : decode cX2_scoreOf 49 = .ok (.istore 5, 2) := by decide +kernel
theorem dX2_scoreOf_51 : decode cX2_scoreOf 51 = .ok (.iconst 0, 1) := by decide +kernel
theorem dX2_scoreOf_52 : decode cX2_scoreOf 52 = .ok (.iload_n 3, 1) := by decide +kernel
theorem dX2_scoreOf_53 : decode cX2_scoreOf 53 = .ok (.iload 4, 2) := by decide +kernel
theorem dX2_scoreOf_55 : decode cX2_scoreOf 55 = .ok (.iadd, 1) := by decide +kernel
theorem dX2_scoreOf_56 : decode cX2_scoreOf 56 = .ok (.iload 5, 2) := by decide +kernel
theorem dX2_scoreOf_58 : decode cX2_scoreOf 58 = .ok (.iadd, 1) := by decide +kernel
theorem dX2_scoreOf_59 : decode cX2_scoreOf 59 = .ok (.aload_n 0, 1) := by decide +kernel
theorem dX2_scoreOf_60 : decode cX2_scoreOf 60 = .ok (.aload_n 1, 1) := by decide +kernel
theorem dX2_scoreOf_61 : decode cX2_scoreOf 61 = .ok (.aload_n 2, 1) := by decide +kernel
theorem dX2_scoreOf_62 : decode cX2_scoreOf 62 = .ok (.invokevirtual 334, 3) := by decide +kernel
theorem dX2_scoreOf_65 : decode cX2_scoreOf 65 = .ok (.iadd, 1) := by decide +kernel
theorem dX2_scoreOf_66 : decode cX2_scoreOf 66 = .ok (.invokestatic 214, 3) := by decide +kernel
theorem dX2_scoreOf_69 : decode cX2_scoreOf 69 = .ok (.ireturn, 1) := by decide +kernel
set_option maxRecDepth 20000 in
theorem ggX2_scoreOfKinds_X2_areAlike : GoodIn wsX2_scoreOfKinds wsX2_areAlike := goodIn_r _ [5, 6, 7, 8, 9, 10, 11, 12, 13, 14, 15, 16, 17, 18, 19, 20, 21] (by decide +kernel) (by decide +kernel)
set_option maxRecDepth 20000 in
theorem gX2_scoreOfKinds_X2_areAlike : GoodIn wsX2_scoreOfKinds (wsV RX2 337 RX2 yX2_areAlike wsX2_areAlike) := goodIn_app (goodIn_of _ (by decide +kernel)) ggX2_scoreOfKinds_X2_areAlike
theorem dX2_scoreOfKinds_0 : decode cX2_scoreOfKinds 0 = .ok (.iload_n 1, 1) := by decide +kernel
theorem dX2_scoreOfKinds_1 : decode cX2_scoreOfKinds 1 = .ok (.iload_n 2, 1) := by decide +kernel
theorem dX2_scoreOfKinds_2 : decode cX2_scoreOfKinds 2 = .ok (.if_icmp .ne 6, 3) := by decide +kernel
theorem dX2_scoreOfKinds_5 : decode cX2_scoreOfKinds 5 = .ok (.bipush 40, 2) := by decide +kernel
theorem dX2_scoreOfKinds_7 : decode cX2_scoreOfKinds 7 = .ok (.ireturn, 1) := by decide +kernel
theorem dX2_scoreOfKinds_8 : decode cX2_scoreOfKinds 8 = .ok (.aload_n 0, 1) := by decide +kernel
theorem dX2_scoreOfKinds_9 : decode cX2_scoreOfKinds 9 = .ok (.iload_n 1, 1) := by decide +kernel
theorem dX2_scoreOfKinds_10 : decode cX2_scoreOfKinds 10 = .ok (.iload_n 2, 1) := by decide +kernel
theorem dX2_scoreOfKinds_11 : decode cX2_scoreOfKinds 11 = .ok (.invokevirtual 337, 3) := by decide +kernel
theorem dX2_scoreOfKinds_14 : decode cX2_scoreOfKinds 14 = .ok (.ifCond .eq 8, 3) := by decide +kernel
theorem dX2_scoreOfKinds_17 : decode cX2_scoreOfKinds 17 = .ok (.bipush 15, 2) := by decide +kernel
theorem dX2_scoreOfKinds_19 : decode cX2_scoreOfKinds 19 = .ok (.goto 4, 3) := by decide +kernel
theorem dX2_scoreOfKinds_22 : decode cX2_scoreOfKinds 22 = .ok (.iconst (-1), 1) := by decide +kernel
theorem dX2_scoreOfKinds_23 : decode cX2_scoreOfKinds 23 = .ok (.ireturn, 1) := by decide +kernel
set_option maxRecDepth 20000 in
theorem ggX2_scoreOfPlaces_X2_roomsOf : GoodIn wsX2_scoreOfPlaces wsX2_roomsOf := goodIn_r _ [5, 6, 7, 8, 9, 10, 11, 12, 13, 14, 15, 16, 17, 18, 19, 20, 21] (by decide +kernel) (by decide +kernel)
set_option maxRecDepth 20000 in
theorem gX2_scoreOfPlaces_X2_roomsOf : GoodIn wsX2_scoreOfPlaces (wsV RX2 341 RX2 yX2_roomsOf wsX2_roomsOf) := goodIn_app (goodIn_of _ (by decide +kernel)) ggX2_scoreOfPlaces_X2_roomsOf
theorem dX2_scoreOfPlaces_0 : decode cX2_scoreOfPlaces 0 = .ok (.iload_n 1, 1) := by decide +kernel
theorem dX2_scoreOfPlaces_1 : decode cX2_scoreOfPlaces 1 = .ok (.iload_n 2, 1) := by decide +kernel
theorem dX2_scoreOfPlaces_2 : decode cX2_scoreOfPlaces 2 = .ok (.if_icmp .ne 6, 3) := by decide +kernel
theorem dX2_scoreOfPlaces_5 : decode cX2_scoreOfPlaces 5 = .ok (.bipush 20, 2) := by decide +kernel
theorem dX2_scoreOfPlaces_7 : decode cX2_scoreOfPlaces 7 = .ok (.ireturn, 1) := by decide +kernel
theorem dX2_scoreOfPlaces_8 : decode cX2_scoreOfPlaces 8 = .ok (.aload_n 0, 1) := by decide +kernel
theorem dX2_scoreOfPlaces_9 : decode cX2_scoreOfPlaces 9 = .ok (.iload_n 1, 1) := by decide +kernel
theorem dX2_scoreOfPlaces_10 : decode cX2_scoreOfPlaces 10 = .ok (.invokevirtual 341, 3) := by decide +kernel
theorem dX2_scoreOfPlaces_13 : decode cX2_scoreOfPlaces 13 = .ok (.aload_n 0, 1) := by decide +kernel
theorem dX2_scoreOfPlaces_14 : decode cX2_scoreOfPlaces 14 = .ok (.iload_n 2, 1) := by decide +kernel
theorem dX2_scoreOfPlaces_15 : decode cX2_scoreOfPlaces 15 = .ok (.invokevirtual 341, 3) := by decide +kernel
theorem dX2_scoreOfPlaces_18 : decode cX2_scoreOfPlaces 18 = .ok (.iand, 1) := by decide +kernel
theorem dX2_scoreOfPlaces_19 : decode cX2_scoreOfPlaces 19 = .ok (.ifCond .eq 8, 3) := by decide +kernel
theorem dX2_scoreOfPlaces_22 : decode cX2_scoreOfPlaces 22 = .ok (.bipush 10, 2) := by decide +kernel
theorem dX2_scoreOfPlaces_24 : decode cX2_scoreOfPlaces 24 = .ok (.goto 4, 3) := by decide +kernel
theorem dX2_scoreOfPlaces_27 : decode cX2_scoreOfPlaces 27 = .ok (.iconst 0, 1) := by decide +kernel
theorem dX2_scoreOfPlaces_28 : decode cX2_scoreOfPlaces 28 = .ok (.ireturn, 1) := by decide +kernel
theorem dX2_scoreOfDay_0 : decode cX2_scoreOfDay 0 = .ok (.iload_n 0, 1) := by decide +kernel
theorem dX2_scoreOfDay_1 : decode cX2_scoreOfDay 1 = .ok (.iload_n 1, 1) := by decide +kernel
theorem dX2_scoreOfDay_2 : decode cX2_scoreOfDay 2 = .ok (.if_icmp .ge 5, 3) := by decide +kernel
theorem dX2_scoreOfDay_5 : decode cX2_scoreOfDay 5 = .ok (.iconst 0, 1) := by decide +kernel
theorem dX2_scoreOfDay_6 : decode cX2_scoreOfDay 6 = .ok (.ireturn, 1) := by decide +kernel
theorem dX2_scoreOfDay_7 : decode cX2_scoreOfDay 7 = .ok (.iconst 0, 1) := by decide +kernel
theorem dX2_scoreOfDay_8 : decode cX2_scoreOfDay 8 = .ok (.iload_n 0, 1) := by decide +kernel
theorem dX2_scoreOfDay_9 : decode cX2_scoreOfDay 9 = .ok (.iload_n 2, 1) := by decide +kernel
theorem dX2_scoreOfDay_10 : decode cX2_scoreOfDay 10 = .ok (.isub, 1) := by decide +kernel
theorem dX2_scoreOfDay_11 : decode cX2_scoreOfDay 11 = .ok (.invokestatic 214, 3) := by decide +kernel
theorem dX2_scoreOfDay_14 : decode cX2_scoreOfDay 14 = .ok (.istore_n 3, 1) := by decide +kernel
theorem dX2_scoreOfDay_15 : decode cX2_scoreOfDay 15 = .ok (.iconst 0, 1) := by decide +kernel
theorem dX2_scoreOfDay_16 : decode cX2_scoreOfDay 16 = .ok (.bipush 20, 2) := by decide +kernel
theorem dX2_scoreOfDay_18 : decode cX2_scoreOfDay 18 = .ok (.iconst 2, 1) := by decide +kernel
theorem dX2_scoreOfDay_19 : decode cX2_scoreOfDay 19 = .ok (.iload_n 3, 1) := by decide +kernel
theorem dX2_scoreOfDay_20 : decode cX2_scoreOfDay 20 = .ok (.imul, 1) := by decide +kernel
theorem dX2_scoreOfDay_21 : decode cX2_scoreOfDay 21 = .ok (.isub, 1) := by decide +kernel
theorem dX2_scoreOfDay_22 : decode cX2_scoreOfDay 22 = .ok (.invokestatic 214, 3) := by decide +kernel
theorem dX2_scoreOfDay_25 : decode cX2_scoreOfDay 25 = .ok (.ireturn, 1) := by decide +kernel
set_option maxRecDepth 20000 in
theorem ggX2_scoreOfWords_X2_wordsNear : GoodIn wsX2_scoreOfWords wsX2_wordsNear := goodIn_r _ [9, 10, 43, 44, 45, 46, 47, 48, 49, 50, 51, 52, 53, 54, 55, 56, 57] (by decide +kernel) (by decide +kernel)
set_option maxRecDepth 20000 in
theorem gX2_scoreOfWords_X2_wordsNear : GoodIn wsX2_scoreOfWords (wsV RX2 344 RX2 yX2_wordsNear wsX2_wordsNear) := goodIn_app (goodIn_of _ (by decide +kernel)) ggX2_scoreOfWords_X2_wordsNear
set_option maxRecDepth 20000 in
theorem ggX2_scoreOfWords_J6_bitCount_0f7a4 : GoodIn wsX2_scoreOfWords wsJ6_bitCount_0f7a4 := goodIn_r _ [14, 15, 16, 17] (by decide +kernel) (by decide +kernel)
set_option maxRecDepth 20000 in
theorem gX2_scoreOfWords_J6_bitCount_0f7a4 : GoodIn wsX2_scoreOfWords (va_wsS RX2 95 yJ6_bitCount_0f7a4 wsJ6_bitCount_0f7a4) := goodIn_app (goodIn_of _ (by decide +kernel)) ggX2_scoreOfWords_J6_bitCount_0f7a4
theorem dX2_scoreOfWords_0 : decode cX2_scoreOfWords 0 = .ok (.aload_n 1, 1) := by decide +kernel
theorem dX2_scoreOfWords_1 : decode cX2_scoreOfWords 1 = .ok (.getfield 147, 3) := by decide +kernel
theorem dX2_scoreOfWords_4 : decode cX2_scoreOfWords 4 = .ok (.aload_n 1, 1) := by decide +kernel
theorem dX2_scoreOfWords_5 : decode cX2_scoreOfWords 5 = .ok (.getfield 137, 3) := by decide +kernel
theorem dX2_scoreOfWords_8 : decode cX2_scoreOfWords 8 = .ok (.aload_n 2, 1) := by decide +kernel
theorem dX2_scoreOfWords_9 : decode cX2_scoreOfWords 9 = .ok (.getfield 186, 3) := by decide +kernel
theorem dX2_scoreOfWords_12 : decode cX2_scoreOfWords 12 = .ok (.iand, 1) := by decide +kernel
theorem dX2_scoreOfWords_13 : decode cX2_scoreOfWords 13 = .ok (.ior, 1) := by decide +kernel
theorem dX2_scoreOfWords_14 : decode cX2_scoreOfWords 14 = .ok (.istore_n 3, 1) := by decide +kernel
theorem dX2_scoreOfWords_15 : decode cX2_scoreOfWords 15 = .ok (.aload_n 2, 1) := by decide +kernel
theorem dX2_scoreOfWords_16 : decode cX2_scoreOfWords 16 = .ok (.getfield 185, 3) := by decide +kernel
theorem dX2_scoreOfWords_19 : decode cX2_scoreOfWords 19 = .ok (.iload_n 3, 1) := by decide +kernel
theorem dX2_scoreOfWords_20 : decode cX2_scoreOfWords 20 = .ok (.iand, 1) := by decide +kernel
theorem dX2_scoreOfWords_21 : decode cX2_scoreOfWords 21 = .ok (.istore 4, 2) := by decide +kernel
theorem dX2_scoreOfWords_23 : decode cX2_scoreOfWords 23 = .ok (.aload_n 2, 1) := by decide +kernel
theorem dX2_scoreOfWords_24 : decode cX2_scoreOfWords 24 = .ok (.getfield 185, 3) := by decide +kernel
theorem dX2_scoreOfWords_27 : decode cX2_scoreOfWords 27 = .ok (.iload_n 3, 1) := by decide +kernel
theorem dX2_scoreOfWords_28 : decode cX2_scoreOfWords 28 = .ok (.iconst (-1), 1) := by decide +kernel
theorem dX2_scoreOfWords_29 : decode cX2_scoreOfWords 29 = .ok (.ixor, 1) := by decide +kernel
theorem dX2_scoreOfWords_30 : decode cX2_scoreOfWords 30 = .ok (.iand, 1) := by decide +kernel
theorem dX2_scoreOfWords_31 : decode cX2_scoreOfWords 31 = .ok (.istore 5, 2) := by decide +kernel
theorem dX2_scoreOfWords_33 : decode cX2_scoreOfWords 33 = .ok (.iload 5, 2) := by decide +kernel
theorem dX2_scoreOfWords_35 : decode cX2_scoreOfWords 35 = .ok (.aload_n 0, 1) := by decide +kernel
theorem dX2_scoreOfWords_36 : decode cX2_scoreOfWords 36 = .ok (.iload_n 3, 1) := by decide +kernel
theorem dX2_scoreOfWords_37 : decode cX2_scoreOfWords 37 = .ok (.invokevirtual 344, 3) := by decide +kernel
theorem dX2_scoreOfWords_40 : decode cX2_scoreOfWords 40 = .ok (.iand, 1) := by decide +kernel
theorem dX2_scoreOfWords_41 : decode cX2_scoreOfWords 41 = .ok (.istore 6, 2) := by decide +kernel
theorem dX2_scoreOfWords_43 : decode cX2_scoreOfWords 43 = .ok (.iload 5, 2) := by decide +kernel
theorem dX2_scoreOfWords_45 : decode cX2_scoreOfWords 45 = .ok (.iload 6, 2) := by decide +kernel
theorem dX2_scoreOfWords_47 : decode cX2_scoreOfWords 47 = .ok (.iconst (-1), 1) := by decide +kernel
theorem dX2_scoreOfWords_48 : decode cX2_scoreOfWords 48 = .ok (.ixor, 1) := by decide +kernel
theorem dX2_scoreOfWords_49 : decode cX2_scoreOfWords 49 = .ok (.iand, 1) := by decide +kernel
theorem dX2_scoreOfWords_50 : decode cX2_scoreOfWords 50 = .ok (.istore 7, 2) := by decide +kernel
theorem dX2_scoreOfWords_52 : decode cX2_scoreOfWords 52 = .ok (.bipush 6, 2) := by decide +kernel
theorem dX2_scoreOfWords_54 : decode cX2_scoreOfWords 54 = .ok (.iload 4, 2) := by decide +kernel
theorem dX2_scoreOfWords_56 : decode cX2_scoreOfWords 56 = .ok (.invokestatic 95, 3) := by decide +kernel
theorem dX2_scoreOfWords_59 : decode cX2_scoreOfWords 59 = .ok (.imul, 1) := by decide +kernel
theorem dX2_scoreOfWords_60 : decode cX2_scoreOfWords 60 = .ok (.iconst 3, 1) := by decide +kernel
theorem dX2_scoreOfWords_61 : decode cX2_scoreOfWords 61 = .ok (.iload 6, 2) := by decide +kernel
theorem dX2_scoreOfWords_63 : decode cX2_scoreOfWords 63 = .ok (.invokestatic 95, 3) := by decide +kernel
theorem dX2_scoreOfWords_66 : decode cX2_scoreOfWords 66 = .ok (.imul, 1) := by decide +kernel
theorem dX2_scoreOfWords_67 : decode cX2_scoreOfWords 67 = .ok (.iadd, 1) := by decide +kernel
theorem dX2_scoreOfWords_68 : decode cX2_scoreOfWords 68 = .ok (.iconst 1, 1) := by decide +kernel
theorem dX2_scoreOfWords_69 : decode cX2_scoreOfWords 69 = .ok (.iload 7, 2) := by decide +kernel
theorem dX2_scoreOfWords_71 : decode cX2_scoreOfWords 71 = .ok (.invokestatic 95, 3) := by decide +kernel
theorem dX2_scoreOfWords_74 : decode cX2_scoreOfWords 74 = .ok (.imul, 1) := by decide +kernel
theorem dX2_scoreOfWords_75 : decode cX2_scoreOfWords 75 = .ok (.isub, 1) := by decide +kernel
theorem dX2_scoreOfWords_76 : decode cX2_scoreOfWords 76 = .ok (.ireturn, 1) := by decide +kernel
set_option maxRecDepth 20000 in
theorem ggX2_isCandidate_X2_scoreOf : GoodIn wsX2_isCandidate wsX2_scoreOf := goodIn_r _ [7, 8, 9, 10, 11, 12, 13, 14, 15, 16, 17, 18, 19, 20, 21, 6, 22, 23, 24, 25, 26, 27, 28, 29, 30, 31, 32, 33, 34, 35, 36, 37, 38, 39, 40, 41, 42, 43, 44, 45, 46, 47, 48, 49, 50, 51, 52, 53, 54, 55, 56, 57, 58, 59, 85, 86, 87, 88, 89, 90, 91, 92, 93, 94, 95, 96, 97, 98, 99, 60, 61, 62, 63, 64, 65, 66, 67, 68, 69, 70, 71, 72, 73, 74, 75, 76, 77, 78, 79, 80, 81, 82, 83, 84] (by decide +kernel) (by decide +kernel)
set_option maxRecDepth 20000 in
theorem gX2_isCandidate_X2_scoreOf : GoodIn wsX2_isCandidate (wsV RX2 251 RX2 yX2_scoreOf wsX2_scoreOf) := goodIn_app (goodIn_of _ (by decide +kernel)) ggX2_isCandidate_X2_scoreOf
theorem dX2_isCandidate_0 : decode cX2_isCandidate 0 = .ok (.aload_n 2, 1) := by decide +kernel
theorem dX2_isCandidate_1 : decode cX2_isCandidate 1 = .ok (.getfield 283, 3) := by decide +kernel
theorem dX2_isCandidate_4 : decode cX2_isCandidate 4 = .ok (.ifCond .ne 20, 3) := by decide +kernel
theorem dX2_isCandidate_7 : decode cX2_isCandidate 7 = .ok (.aload_n 0, 1) := by decide +kernel
theorem dX2_isCandidate_8 : decode cX2_isCandidate 8 = .ok (.aload_n 1, 1) := by decide +kernel
theorem dX2_isCandidate_9 : decode cX2_isCandidate 9 = .ok (.aload_n 2, 1) := by decide +kernel
theorem dX2_isCandidate_10 : decode cX2_isCandidate 10 = .ok (.invokevirtual 251, 3) := by decide +kernel
theorem dX2_isCandidate_13 : decode cX2_isCandidate 13 = .ok (.aload_n 0, 1) := by decide +kernel
theorem dX2_isCandidate_14 : decode cX2_isCandidate 14 = .ok (.getfield 50, 3) := by decide +kernel
theorem dX2_isCandidate_17 : decode cX2_isCandidate 17 = .ok (.if_icmp .lt 7, 3) := by decide +kernel
theorem dX2_isCandidate_20 : decode cX2_isCandidate 20 = .ok (.iconst 1, 1) := by decide +kernel
theorem dX2_isCandidate_21 : decode cX2_isCandidate 21 = .ok (.goto 4, 3) := by decide +kernel
theorem dX2_isCandidate_24 : decode cX2_isCandidate 24 = .ok (.iconst 0, 1) := by decide +kernel
theorem dX2_isCandidate_25 : decode cX2_isCandidate 25 = .ok (.ireturn, 1) := by decide +kernel
set_option maxRecDepth 20000 in
theorem ggX2_isCandidateOfAny_X2_isCandidate : GoodIn wsX2_isCandidateOfAny wsX2_isCandidate := goodIn_r _ [6, 7, 8, 9, 10, 11, 5, 12, 13, 14, 15, 16, 17, 18, 19, 20, 21, 22, 23, 24, 25, 26, 27, 28, 29, 30, 31, 32, 33, 34, 35, 36, 37, 38, 39, 40, 41, 42, 43, 44, 45, 46, 47, 48, 49, 50, 51, 52, 53, 54, 55, 56, 57, 58, 59, 60, 61, 62, 63, 64, 80, 81, 82, 83, 84, 85, 86, 87, 88, 89, 65, 66, 67, 68, 69, 70, 71, 72, 73, 74, 75, 76, 77, 78, 79, 90, 91, 92, 93, 94, 95, 96, 97, 98, 99, 100, 101, 102, 103, 104] (by decide +kernel) (by decide +kernel)
set_option maxRecDepth 20000 in
theorem gX2_isCandidateOfAny_X2_isCandidate : GoodIn wsX2_isCandidateOfAny (wsV RX2 291 RX2 yX2_isCandidate wsX2_isCandidate) := goodIn_app (goodIn_of _ (by decide +kernel)) ggX2_isCandidateOfAny_X2_isCandidate
theorem dX2_isCandidateOfAny_0 : decode cX2_isCandidateOfAny 0 = .ok (.aload_n 0, 1) := by decide +kernel
theorem dX2_isCandidateOfAny_1 : decode cX2_isCandidateOfAny 1 = .ok (.getfield 33, 3) := by decide +kernel
theorem dX2_isCandidateOfAny_4 : decode cX2_isCandidateOfAny 4 = .ok (.astore_n 2, 1) := by decide +kernel
theorem dX2_isCandidateOfAny_5 : decode cX2_isCandidateOfAny 5 = .ok (.aload_n 2, 1) := by decide +kernel
theorem dX2_isCandidateOfAny_6 : decode cX2_isCandidateOfAny 6 = .ok (.arraylength, 1) := by decide +kernel
theorem dX2_isCandidateOfAny_7 : decode cX2_isCandidateOfAny 7 = .ok (.istore_n 3, 1) := by decide +kernel
theorem dX2_isCandidateOfAny_8 : decode cX2_isCandidateOfAny 8 = .ok (.iconst 0, 1) := by decide +kernel
theorem dX2_isCandidateOfAny_9 : decode cX2_isCandidateOfAny 9 = .ok (.istore 4, 2) := by decide +kernel
theorem dX2_isCandidateOfAny_11 : decode cX2_isCandidateOfAny 11 = .ok (.iload 4, 2) := by decide +kernel
theorem dX2_isCandidateOfAny_13 : decode cX2_isCandidateOfAny 13 = .ok (.iload_n 3, 1) := by decide +kernel
theorem dX2_isCandidateOfAny_14 : decode cX2_isCandidateOfAny 14 = .ok (.if_icmp .ge 32, 3) := by decide +kernel
theorem dX2_isCandidateOfAny_17 : decode cX2_isCandidateOfAny 17 = .ok (.aload_n 2, 1) := by decide +kernel
theorem dX2_isCandidateOfAny_18 : decode cX2_isCandidateOfAny 18 = .ok (.iload 4, 2) := by decide +kernel
theorem dX2_isCandidateOfAny_20 : decode cX2_isCandidateOfAny 20 = .ok (.aaload, 1) := by decide +kernel
theorem dX2_isCandidateOfAny_21 : decode cX2_isCandidateOfAny 21 = .ok (.astore 5, 2) := by decide +kernel
theorem dX2_isCandidateOfAny_23 : decode cX2_isCandidateOfAny 23 = .ok (.aload 5, 2) := by decide +kernel
theorem dX2_isCandidateOfAny_25 : decode cX2_isCandidateOfAny 25 = .ok (.ifnull 15, 3) := by decide +kernel
theorem dX2_isCandidateOfAny_28 : decode cX2_isCandidateOfAny 28 = .ok (.aload_n 0, 1) := by decide +kernel
theorem dX2_isCandidateOfAny_29 : decode cX2_isCandidateOfAny 29 = .ok (.aload_n 1, 1) := by decide +kernel
theorem dX2_isCandidateOfAny_30 : decode cX2_isCandidateOfAny 30 = .ok (.aload 5, 2) := by decide +kernel
theorem dX2_isCandidateOfAny_32 : decode cX2_isCandidateOfAny 32 = .ok (.invokevirtual 291, 3) := by decide +kernel
theorem dX2_isCandidateOfAny_35 : decode cX2_isCandidateOfAny 35 = .ok (.ifCond .eq 5, 3) := by decide +kernel
theorem dX2_isCandidateOfAny_38 : decode cX2_isCandidateOfAny 38 = .ok (.iconst 1, 1) := by decide +kernel
theorem dX2_isCandidateOfAny_39 : decode cX2_isCandidateOfAny 39 = .ok (.ireturn, 1) := by decide +kernel
theorem dX2_isCandidateOfAny_40 : decode cX2_isCandidateOfAny 40 = .ok (.iinc 4 1, 3) := by decide +kernel
theorem dX2_isCandidateOfAny_43 : decode cX2_isCandidateOfAny 43 = .ok (.goto (-32), 3) := by decide +kernel
theorem dX2_isCandidateOfAny_46 : decode cX2_isCandidateOfAny 46 = .ok (.iconst 0, 1) := by decide +kernel
theorem dX2_isCandidateOfAny_47 : decode cX2_isCandidateOfAny 47 = .ok (.ireturn, 1) := by decide +kernel
set_option maxRecDepth 20000 in
theorem ggX2_isOver_X2_isCandidateOfAny : GoodIn wsX2_isOver wsX2_isCandidateOfAny := goodIn_r _ [9, 10, 11, 12, 13, 8, 14, 15, 16, 17, 18, 19, 20, 21, 22, 23, 24, 25, 26, 27, 28, 29, 30, 31, 32, 33, 34, 35, 36, 37, 38, 39, 40, 41, 42, 43, 44, 45, 46, 47, 48, 49, 50, 51, 52, 53, 54, 55, 56, 57, 58, 59, 60, 61, 62, 63, 64, 65, 66, 67, 68, 69, 70, 71, 72, 88, 89, 90, 91, 92, 93, 94, 95, 96, 97, 98, 99, 100, 101, 102, 103, 104, 105, 106, 107, 108, 109, 110, 111, 112, 73, 74, 75, 76, 77, 78, 79, 80, 81, 82, 83, 84, 85, 86, 87] (by decide +kernel) (by decide +kernel)
set_option maxRecDepth 20000 in
theorem gX2_isOver_X2_isCandidateOfAny : GoodIn wsX2_isOver (wsV RX2 347 RX2 yX2_isCandidateOfAny wsX2_isCandidateOfAny) := goodIn_app (goodIn_of _ (by decide +kernel)) ggX2_isOver_X2_isCandidateOfAny
theorem dX2_isOver_0 : decode cX2_isOver 0 = .ok (.aload_n 1, 1) := by decide +kernel
theorem dX2_isOver_1 : decode cX2_isOver 1 = .ok (.getfield 142, 3) := by decide +kernel
theorem dX2_isOver_4 : decode cX2_isOver 4 = .ok (.ifCond .ne 33, 3) := by decide +kernel
theorem dX2_isOver_7 : decode cX2_isOver 7 = .ok (.aload_n 0, 1) := by decide +kernel
theorem dX2_isOver_8 : decode cX2_isOver 8 = .ok (.getfield 47, 3) := by decide +kernel
theorem dX2_isOver_11 : decode cX2_isOver 11 = .ok (.aload_n 1, 1) := by decide +kernel
theorem dX2_isOver_12 : decode cX2_isOver 12 = .ok (.getfield 126, 3) := by decide +kernel
theorem dX2_isOver_15 : decode cX2_isOver 15 = .ok (.if_icmp .le 22, 3) := by decide +kernel
theorem dX2_isOver_18 : decode cX2_isOver 18 = .ok (.aload_n 1, 1) := by decide +kernel
theorem dX2_isOver_19 : decode cX2_isOver 19 = .ok (.getfield 166, 3) := by decide +kernel
theorem dX2_isOver_22 : decode cX2_isOver 22 = .ok (.ifCond .ne 15, 3) := by decide +kernel
theorem dX2_isOver_25 : decode cX2_isOver 25 = .ok (.aload_n 0, 1) := by decide +kernel
theorem dX2_isOver_26 : decode cX2_isOver 26 = .ok (.aload_n 1, 1) := by decide +kernel
theorem dX2_isOver_27 : decode cX2_isOver 27 = .ok (.invokevirtual 347, 3) := by decide +kernel
theorem dX2_isOver_30 : decode cX2_isOver 30 = .ok (.ifCond .ne 7, 3) := by decide +kernel
theorem dX2_isOver_33 : decode cX2_isOver 33 = .ok (.iconst 1, 1) := by decide +kernel
theorem dX2_isOver_34 : decode cX2_isOver 34 = .ok (.goto 4, 3) := by decide +kernel
theorem dX2_isOver_37 : decode cX2_isOver 37 = .ok (.iconst 0, 1) := by decide +kernel
theorem dX2_isOver_38 : decode cX2_isOver 38 = .ok (.ireturn, 1) := by decide +kernel
set_option maxRecDepth 20000 in
theorem ggX2_isBeaten_X2_scoreOf : GoodIn wsX2_isBeaten wsX2_scoreOf := goodIn_r _ [8, 9, 10, 11, 12, 13, 14, 15, 16, 17, 18, 19, 20, 21, 22, 7, 23, 24, 25, 26, 27, 28, 29, 30, 31, 32, 33, 34, 35, 36, 37, 38, 39, 40, 41, 42, 43, 44, 45, 46, 47, 48, 49, 50, 51, 52, 53, 54, 55, 56, 57, 58, 59, 60, 97, 98, 99, 100, 101, 102, 103, 104, 105, 106, 107, 108, 109, 110, 111, 87, 88, 89, 90, 91, 92, 93, 94, 95, 96, 72, 73, 74, 75, 76, 77, 78, 79, 80, 81, 82, 83, 84, 85, 86] (by decide +kernel) (by decide +kernel)
set_option maxRecDepth 20000 in
theorem gX2_isBeaten_X2_scoreOf : GoodIn wsX2_isBeaten (wsV RX2 251 RX2 yX2_scoreOf wsX2_scoreOf) := goodIn_app (goodIn_of _ (by decide +kernel)) ggX2_isBeaten_X2_scoreOf
set_option maxRecDepth 20000 in
theorem ggX2_isBeaten_X0_proves : GoodIn wsX2_isBeaten wsX0_proves := goodIn_r _ [65, 66, 67, 68, 18, 69, 70, 71, 55, 56, 57, 58, 59, 60, 97, 98, 99, 100, 101, 102, 103, 104, 105, 106, 107, 108, 109, 110, 111, 87, 88, 89, 90, 91, 92, 93, 94, 95, 96] (by decide +kernel) (by decide +kernel)
set_option maxRecDepth 20000 in
theorem gX2_isBeaten_X0_proves : GoodIn wsX2_isBeaten (wsV RX2 270 RX0 yX0_proves wsX0_proves) := goodIn_app (goodIn_of _ (by decide +kernel)) ggX2_isBeaten_X0_proves
theorem dX2_isBeaten_0 : decode cX2_isBeaten 0 = .ok (.aload_n 0, 1) := by decide +kernel
theorem dX2_isBeaten_1 : decode cX2_isBeaten 1 = .ok (.aload_n 1, 1) := by decide +kernel
theorem dX2_isBeaten_2 : decode cX2_isBeaten 2 = .ok (.aload_n 2, 1) := by decide +kernel
theorem dX2_isBeaten_3 : decode cX2_isBeaten 3 = .ok (.invokevirtual 251, 3) := by decide +kernel
theorem dX2_isBeaten_6 : decode cX2_isBeaten 6 = .ok (.istore_n 3, 1) := by decide +kernel
theorem dX2_isBeaten_7 : decode cX2_isBeaten 7 = .ok (.aload_n 0, 1) := by decide +kernel
theorem dX2_isBeaten_8 : decode cX2_isBeaten 8 = .ok (.getfield 33, 3) := by decide +kernel
theorem dX2_isBeaten_11 : decode cX2_isBeaten 11 = .ok (.astore 4, 2) := by decide +kernel
theorem dX2_isBeaten_13 : decode cX2_isBeaten 13 = .ok (.aload 4, 2) := by decide +kernel
theorem dX2_isBeaten_15 : decode cX2_isBeaten 15 = .ok (.arraylength, 1) := by decide +kernel
theorem dX2_isBeaten_16 : decode cX2_isBeaten 16 = .ok (.istore 5, 2) := by decide +kernel
theorem dX2_isBeaten_18 : decode cX2_isBeaten 18 = .ok (.iconst 0, 1) := by decide +kernel
theorem dX2_isBeaten_19 : decode cX2_isBeaten 19 = .ok (.istore 6, 2) := by decide +kernel
theorem dX2_isBeaten_21 : decode cX2_isBeaten 21 = .ok (.iload 6, 2) := by decide +kernel
theorem dX2_isBeaten_23 : decode cX2_isBeaten 23 = .ok (.iload 5, 2) := by decide +kernel
theorem dX2_isBeaten_25 : decode cX2_isBeaten 25 = .ok (.if_icmp .ge 97, 3) := by decide +kernel
theorem dX2_isBeaten_28 : decode cX2_isBeaten 28 = .ok (.aload 4, 2) := by decide +kernel
theorem dX2_isBeaten_30 : decode cX2_isBeaten 30 = .ok (.iload 6, 2) := by decide +kernel
theorem dX2_isBeaten_32 : decode cX2_isBeaten 32 = .ok (.aaload, 1) := by decide +kernel
theorem dX2_isBeaten_33 : decode cX2_isBeaten 33 = .ok (.astore 7, 2) := by decide +kernel
theorem dX2_isBeaten_35 : decode cX2_isBeaten 35 = .ok (.aload 7, 2) := by decide +kernel
theorem dX2_isBeaten_37 : decode cX2_isBeaten 37 = .ok (.ifnull 27, 3) := by decide +kernel
theorem dX2_isBeaten_40 : decode cX2_isBeaten 40 = .ok (.aload 7, 2) := by decide +kernel
theorem dX2_isBeaten_42 : decode cX2_isBeaten 42 = .ok (.getfield 350, 3) := by decide +kernel
theorem dX2_isBeaten_45 : decode cX2_isBeaten 45 = .ok (.aload_n 2, 1) := by decide +kernel
theorem dX2_isBeaten_46 : decode cX2_isBeaten 46 = .ok (.getfield 350, 3) := by decide +kernel
theorem dX2_isBeaten_49 : decode cX2_isBeaten 49 = .ok (.if_icmp .eq 15, 3) := by decide +kernel
theorem dX2_isBeaten_52 : decode cX2_isBeaten 52 = .ok (.aload 7, 2) := by decide +kernel
theorem dX2_isBeaten_54 : decode cX2_isBeaten 54 = .ok (.getfield 283, 3) := by decide +kernel
theorem dX2_isBeaten_57 : decode cX2_isBeaten 57 = .ok (.ifCond .ne 7, 3) := by decide +kernel
theorem dX2_isBeaten_60 : decode cX2_isBeaten 60 = .ok (.iconst 1, 1) := by decide +kernel
theorem dX2_isBeaten_61 : decode cX2_isBeaten 61 = .ok (.goto 4, 3) := by decide +kernel
theorem dX2_isBeaten_64 : decode cX2_isBeaten 64 = .ok (.iconst 0, 1) := by decide +kernel
theorem dX2_isBeaten_65 : decode cX2_isBeaten 65 = .ok (.istore 8, 2) := by decide +kernel
theorem dX2_isBeaten_67 : decode cX2_isBeaten 67 = .ok (.iload 8, 2) := by decide +kernel
theorem dX2_isBeaten_69 : decode cX2_isBeaten 69 = .ok (.ifCond .eq 47, 3) := by decide +kernel
theorem dX2_isBeaten_72 : decode cX2_isBeaten 72 = .ok (.aload 7, 2) := by decide +kernel
theorem dX2_isBeaten_74 : decode cX2_isBeaten 74 = .ok (.aload_n 1, 1) := by decide +kernel
theorem dX2_isBeaten_75 : decode cX2_isBeaten 75 = .ok (.invokevirtual 270, 3) := by decide +kernel
theorem dX2_isBeaten_78 : decode cX2_isBeaten 78 = .ok (.ifCond .eq 38, 3) := by decide +kernel
theorem dX2_isBeaten_81 : decode cX2_isBeaten 81 = .ok (.aload_n 0, 1) := by decide +kernel
theorem dX2_isBeaten_82 : decode cX2_isBeaten 82 = .ok (.aload_n 1, 1) := by decide +kernel
theorem dX2_isBeaten_83 : decode cX2_isBeaten 83 = .ok (.aload 7, 2) := by decide +kernel
theorem dX2_isBeaten_85 : decode cX2_isBeaten 85 = .ok (.invokevirtual 251, 3) := by decide +kernel
theorem dX2_isBeaten_88 : decode cX2_isBeaten 88 = .ok (.istore 9, 2) := by decide +kernel
theorem dX2_isBeaten_90 : decode cX2_isBeaten 90 = .ok (.iload 9, 2) := by decide +kernel
theorem dX2_isBeaten_92 : decode cX2_isBeaten 92 = .ok (.iload_n 3, 1) := by decide +kernel
theorem dX2_isBeaten_93 : decode cX2_isBeaten 93 = .ok (.if_icmp .gt 21, 3) := by decide +kernel
theorem dX2_isBeaten_96 : decode cX2_isBeaten 96 = .ok (.iload 9, 2) := by decide +kernel
theorem dX2_isBeaten_98 : decode cX2_isBeaten 98 = .ok (.iload_n 3, 1) := by decide +kernel
theorem dX2_isBeaten_99 : decode cX2_isBeaten 99 = .ok (.if_icmp .ne 17, 3) := by decide +kernel
theorem dX2_isBeaten_102 : decode cX2_isBeaten 102 = .ok (.aload 7, 2) := by decide +kernel
theorem dX2_isBeaten_104 : decode cX2_isBeaten 104 = .ok (.getfield 350, 3) := by decide +kernel
theorem dX2_isBeaten_107 : decode cX2_isBeaten 107 = .ok (.aload_n 2, 1) := by decide +kernel
theorem dX2_isBeaten_108 : decode cX2_isBeaten 108 = .ok (.getfield 350, 3) := by decide +kernel
theorem dX2_isBeaten_111 : decode cX2_isBeaten 111 = .ok (.if_icmp .ge 5, 3) := by decide +kernel
theorem dX2_isBeaten_114 : decode cX2_isBeaten 114 = .ok (.iconst 1, 1) := by decide +kernel
theorem dX2_isBeaten_115 : decode cX2_isBeaten 115 = .ok (.ireturn, 1) := by decide +kernel
theorem dX2_isBeaten_116 : decode cX2_isBeaten 116 = .ok (.iinc 6 1, 3) := by decide +kernel
theorem dX2_isBeaten_119 : decode cX2_isBeaten 119 = .ok (.goto (-98), 3) := by decide +kernel
theorem dX2_isBeaten_122 : decode cX2_isBeaten 122 = .ok (.iconst 0, 1) := by decide +kernel
theorem dX2_isBeaten_123 : decode cX2_isBeaten 123 = .ok (.ireturn, 1) := by decide +kernel
set_option maxRecDepth 20000 in
theorem ggX2_noteScores_X1_isHere : GoodIn wsX2_noteScores wsX1_isHere := goodIn_r _ [7, 8, 87, 88, 89, 90, 91, 92, 93, 94, 95, 96, 97, 98, 99, 100, 101] (by decide +kernel) (by decide +kernel)
set_option maxRecDepth 20000 in
theorem gX2_noteScores_X1_isHere : GoodIn wsX2_noteScores (wsV RX2 160 RX1 yX1_isHere wsX1_isHere) := goodIn_app (goodIn_of _ (by decide +kernel)) ggX2_noteScores_X1_isHere
set_option maxRecDepth 20000 in
theorem ggX2_noteScores_X2_isCandidate : GoodIn wsX2_noteScores wsX2_isCandidate := goodIn_r _ [13, 14, 15, 16, 17, 18, 12, 19, 20, 21, 22, 23, 24, 25, 26, 27, 28, 29, 30, 31, 32, 33, 34, 35, 36, 37, 38, 39, 40, 41, 42, 43, 44, 45, 46, 47, 48, 49, 50, 51, 52, 53, 54, 55, 56, 57, 58, 59, 60, 61, 62, 63, 64, 65, 66, 67, 68, 69, 70, 71, 102, 103, 104, 105, 106, 107, 108, 109, 110, 111, 72, 73, 74, 75, 76, 77, 78, 79, 80, 81, 82, 83, 84, 85, 86, 87, 88, 89, 90, 91, 92, 93, 94, 95, 96, 97, 98, 99, 100, 101] (by decide +kernel) (by decide +kernel)
set_option maxRecDepth 20000 in
theorem gX2_noteScores_X2_isCandidate : GoodIn wsX2_noteScores (wsV RX2 291 RX2 yX2_isCandidate wsX2_isCandidate) := goodIn_app (goodIn_of _ (by decide +kernel)) ggX2_noteScores_X2_isCandidate
set_option maxRecDepth 20000 in
theorem ggX2_noteScores_X2_scoreOf : GoodIn wsX2_noteScores wsX2_scoreOf := goodIn_r _ [19, 20, 21, 22, 23, 24, 25, 26, 27, 28, 29, 30, 31, 32, 33, 12, 34, 35, 36, 37, 38, 39, 40, 41, 42, 43, 44, 45, 46, 47, 48, 49, 50, 51, 52, 53, 54, 55, 56, 57, 58, 59, 60, 61, 62, 63, 64, 65, 66, 67, 68, 69, 70, 71, 87, 88, 89, 90, 91, 92, 93, 94, 95, 96, 97, 98, 99, 100, 101, 102, 103, 104, 105, 106, 107, 108, 109, 110, 111, 72, 73, 74, 75, 76, 77, 78, 79, 80, 81, 82, 83, 84, 85, 86] (by decide +kernel) (by decide +kernel)
set_option maxRecDepth 20000 in
theorem gX2_noteScores_X2_scoreOf : GoodIn wsX2_noteScores (wsV RX2 251 RX2 yX2_scoreOf wsX2_scoreOf) := goodIn_app (goodIn_of _ (by decide +kernel)) ggX2_noteScores_X2_scoreOf
theorem dX2_noteScores_0 : decode cX2_noteScores 0 = .ok (.iconst 0, 1) := by decide +kernel
theorem dX2_noteScores_1 : decode cX2_noteScores 1 = .ok (.istore_n 2, 1) := by decide +kernel
theorem dX2_noteScores_2 : decode cX2_noteScores 2 = .ok (.iconst 0, 1) := by decide +kernel
theorem dX2_noteScores_3 : decode cX2_noteScores 3 = .ok (.istore_n 3, 1) := by decide +kernel
theorem dX2_noteScores_4 : decode cX2_noteScores 4 = .ok (.iload_n 3, 1) := by decide +kernel
theorem dX2_noteScores_5 : decode cX2_noteScores 5 = .ok (.aload_n 0, 1) := by decide +kernel
theorem dX2_noteScores_6 : decode cX2_noteScores 6 = .ok (.getfield 37, 3) := by decide +kernel
theorem dX2_noteScores_9 : decode cX2_noteScores 9 = .ok (.arraylength, 1) := by decide +kernel
theorem dX2_noteScores_10 : decode cX2_noteScores 10 = .ok (.if_icmp .ge 86, 3) := by decide +kernel
theorem dX2_noteScores_13 : decode cX2_noteScores 13 = .ok (.iload_n 3, 1) := by decide +kernel
theorem dX2_noteScores_14 : decode cX2_noteScores 14 = .ok (.aload_n 0, 1) := by decide +kernel
theorem dX2_noteScores_15 : decode cX2_noteScores 15 = .ok (.getfield 27, 3) := by decide +kernel
theorem dX2_noteScores_18 : decode cX2_noteScores 18 = .ok (.arraylength, 1) := by decide +kernel
theorem dX2_noteScores_19 : decode cX2_noteScores 19 = .ok (.if_icmp .ge 77, 3) := by decide +kernel
theorem dX2_noteScores_22 : decode cX2_noteScores 22 = .ok (.aload_n 0, 1) := by decide +kernel
theorem dX2_noteScores_23 : decode cX2_noteScores 23 = .ok (.getfield 27, 3) := by decide +kernel
theorem dX2_noteScores_26 : decode cX2_noteScores 26 = .ok (.iload_n 3, 1) := by decide +kernel
theorem dX2_noteScores_27 : decode cX2_noteScores 27 = .ok (.aaload, 1) := by decide +kernel
theorem dX2_noteScores_28 : decode cX2_noteScores 28 = .ok (.astore 4, 2) := by decide +kernel
theorem dX2_noteScores_30 : decode cX2_noteScores 30 = .ok (.aload 4, 2) := by decide +kernel
theorem dX2_noteScores_32 : decode cX2_noteScores 32 = .ok (.ifnull 25, 3) := by decide +kernel
theorem dX2_noteScores_35 : decode cX2_noteScores 35 = .ok (.aload 4, 2) := by decide +kernel
theorem dX2_noteScores_37 : decode cX2_noteScores 37 = .ok (.invokevirtual 160, 3) := by decide +kernel
theorem dX2_noteScores_40 : decode cX2_noteScores 40 = .ok (.ifCond .eq 17, 3) := by decide +kernel
theorem dX2_noteScores_43 : decode cX2_noteScores 43 = .ok (.aload_n 0, 1) := by decide +kernel
theorem dX2_noteScores_44 : decode cX2_noteScores 44 = .ok (.aload 4, 2) := by decide +kernel
theorem dX2_noteScores_46 : decode cX2_noteScores 46 = .ok (.aload_n 1, 1) := by decide +kernel
theorem dX2_noteScores_47 : decode cX2_noteScores 47 = .ok (.invokevirtual 291, 3) := by decide +kernel
theorem dX2_noteScores_50 : decode cX2_noteScores 50 = .ok (.ifCond .eq 7, 3) := by decide +kernel
theorem dX2_noteScores_53 : decode cX2_noteScores 53 = .ok (.iconst 1, 1) := by decide +kernel
theorem dX2_noteScores_54 : decode cX2_noteScores 54 = .ok (.goto 4, 3) := by decide +kernel
theorem dX2_noteScores_57 : decode cX2_noteScores 57 = .ok (.iconst 0, 1) := by decide +kernel
theorem dX2_noteScores_58 : decode cX2_noteScores 58 = .ok (.istore 5, 2) := by decide +kernel
theorem dX2_noteScores_60 : decode cX2_noteScores 60 = .ok (.aload_n 0, 1) := by decide +kernel
theorem dX2_noteScores_61 : decode cX2_noteScores 61 = .ok (.getfield 37, 3) := by decide +kernel
theorem dX2_noteScores_64 : decode cX2_noteScores 64 = .ok (.iload_n 3, 1) := by decide +kernel
theorem dX2_noteScores_65 : decode cX2_noteScores 65 = .ok (.iload 5, 2) := by decide +kernel
theorem dX2_noteScores_67 : decode cX2_noteScores 67 = .ok (.ifCond .eq 13, 3) := by decide +kernel
theorem dX2_noteScores_70 : decode cX2_noteScores 70 = .ok (.aload_n 0, 1) := by decide +kernel
theorem dX2_noteScores_71 : decode cX2_noteScores 71 = .ok (.aload 4, 2) := by decide +kernel
theorem dX2_noteScores_73 : decode cX2_noteScores 73 = .ok (.aload_n 1, 1) := by decide +kernel
theorem dX2_noteScores_74 : decode cX2_noteScores 74 = .ok (.invokevirtual 251, 3) := by decide +kernel
theorem dX2_noteScores_77 : decode cX2_noteScores 77 = .ok (.goto 4, 3) := by decide +kernel
theorem dX2_noteScores_80 : decode cX2_noteScores 80 = .ok (.iconst (-1), 1) := by decide +kernel
theorem dX2_noteScores_81 : decode cX2_noteScores 81 = .ok (.iastore, 1) := by decide +kernel
theorem dX2_noteScores_82 : decode cX2_noteScores 82 = .ok (.iload 5, 2) := by decide +kernel
theorem dX2_noteScores_84 : decode cX2_noteScores 84 = .ok (.ifCond .eq 6, 3) := by decide +kernel
theorem dX2_noteScores_87 : decode cX2_noteScores 87 = .ok (.iinc 2 1, 3) := by decide +kernel
theorem dX2_noteScores_90 : decode cX2_noteScores 90 = .ok (.iinc 3 1, 3) := by decide +kernel
theorem dX2_noteScores_93 : decode cX2_noteScores 93 = .ok (.goto (-89), 3) := by decide +kernel
theorem dX2_noteScores_96 : decode cX2_noteScores 96 = .ok (.iload_n 2, 1) := by decide +kernel
theorem dX2_noteScores_97 : decode cX2_noteScores 97 = .ok (.ireturn, 1) := by decide +kernel
theorem dX2_countBetter_0 : decode cX2_countBetter 0 = .ok (.iload_n 1, 1) := by decide +kernel
theorem dX2_countBetter_1 : decode cX2_countBetter 1 = .ok (.ifCond .lt 12, 3) := by decide +kernel
theorem dX2_countBetter_4 : decode cX2_countBetter 4 = .ok (.iload_n 1, 1) := by decide +kernel
theorem dX2_countBetter_5 : decode cX2_countBetter 5 = .ok (.aload_n 0, 1) := by decide +kernel
theorem dX2_countBetter_6 : decode cX2_countBetter 6 = .ok (.getfield 37, 3) := by decide +kernel
theorem dX2_countBetter_9 : decode cX2_countBetter 9 = .ok (.arraylength, 1) := by decide +kernel
theorem dX2_countBetter_10 : decode cX2_countBetter 10 = .ok (.if_icmp .lt 5, 3) := by decide +kernel
theorem dX2_countBetter_13 : decode cX2_countBetter 13 = .ok (.iconst 0, 1) := by decide +kernel
theorem dX2_countBetter_14 : decode cX2_countBetter 14 = .ok (.ireturn, 1) := by decide +kernel
theorem dX2_countBetter_15 : decode cX2_countBetter 15 = .ok (.aload_n 0, 1) := by decide +kernel
theorem dX2_countBetter_16 : decode cX2_countBetter 16 = .ok (.getfield 37, 3) := by decide +kernel
theorem dX2_countBetter_19 : decode cX2_countBetter 19 = .ok (.iload_n 1, 1) := by decide +kernel
theorem dX2_countBetter_20 : decode cX2_countBetter 20 = .ok (.iaload, 1) := by decide +kernel
theorem dX2_countBetter_21 : decode cX2_countBetter 21 = .ok (.istore_n 2, 1) := by decide +kernel
theorem dX2_countBetter_22 : decode cX2_countBetter 22 = .ok (.iconst 0, 1) := by decide +kernel
theorem dX2_countBetter_23 : decode cX2_countBetter 23 = .ok (.istore_n 3, 1) := by decide +kernel
theorem dX2_countBetter_24 : decode cX2_countBetter 24 = .ok (.iconst 0, 1) := by decide +kernel
theorem dX2_countBetter_25 : decode cX2_countBetter 25 = .ok (.istore 4, 2) := by decide +kernel
theorem dX2_countBetter_27 : decode cX2_countBetter 27 = .ok (.iload 4, 2) := by decide +kernel
theorem dX2_countBetter_29 : decode cX2_countBetter 29 = .ok (.aload_n 0, 1) := by decide +kernel
theorem dX2_countBetter_30 : decode cX2_countBetter 30 = .ok (.getfield 37, 3) := by decide +kernel
theorem dX2_countBetter_33 : decode cX2_countBetter 33 = .ok (.arraylength, 1) := by decide +kernel
theorem dX2_countBetter_34 : decode cX2_countBetter 34 = .ok (.if_icmp .ge 40, 3) := by decide +kernel
theorem dX2_countBetter_37 : decode cX2_countBetter 37 = .ok (.aload_n 0, 1) := by decide +kernel
theorem dX2_countBetter_38 : decode cX2_countBetter 38 = .ok (.getfield 37, 3) := by decide +kernel
theorem dX2_countBetter_41 : decode cX2_countBetter 41 = .ok (.iload 4, 2) := by decide +kernel
theorem dX2_countBetter_43 : decode cX2_countBetter 43 = .ok (.iaload, 1) := by decide +kernel
theorem dX2_countBetter_44 : decode cX2_countBetter 44 = .ok (.iload_n 2, 1) := by decide +kernel
theorem dX2_countBetter_45 : decode cX2_countBetter 45 = .ok (.if_icmp .gt 20, 3) := by decide +kernel
theorem dX2_countBetter_48 : decode cX2_countBetter 48 = .ok (.aload_n 0, 1) := by decide +kernel
theorem dX2_countBetter_49 : decode cX2_countBetter 49 = .ok (.getfield 37, 3) := by decide +kernel
theorem dX2_countBetter_52 : decode cX2_countBetter 52 = .ok (.iload 4, 2) := by decide +kernel
theorem dX2_countBetter_54 : decode cX2_countBetter 54 = .ok (.iaload, 1) := by decide +kernel
theorem dX2_countBetter_55 : decode cX2_countBetter 55 = .ok (.iload_n 2, 1) := by decide +kernel
theorem dX2_countBetter_56 : decode cX2_countBetter 56 = .ok (.if_icmp .ne 12, 3) := by decide +kernel
theorem dX2_countBetter_59 : decode cX2_countBetter 59 = .ok (.iload 4, 2) := by decide +kernel
theorem dX2_countBetter_61 : decode cX2_countBetter 61 = .ok (.iload_n 1, 1) := by decide +kernel
theorem dX2_countBetter_62 : decode cX2_countBetter 62 = .ok (.if_icmp .ge 6, 3) := by decide +kernel
theorem dX2_countBetter_65 : decode cX2_countBetter 65 = .ok (.iinc 3 1, 3) := by decide +kernel
theorem dX2_countBetter_68 : decode cX2_countBetter 68 = .ok (.iinc 4 1, 3) := by decide +kernel
theorem dX2_countBetter_71 : decode cX2_countBetter 71 = .ok (.goto (-44), 3) := by decide +kernel
theorem dX2_countBetter_74 : decode cX2_countBetter 74 = .ok (.iload_n 3, 1) := by decide +kernel
theorem dX2_countBetter_75 : decode cX2_countBetter 75 = .ok (.ireturn, 1) := by decide +kernel
theorem dX2_countNotedWith_0 : decode cX2_countNotedWith 0 = .ok (.iconst 0, 1) := by decide +kernel
theorem dX2_countNotedWith_1 : decode cX2_countNotedWith 1 = .ok (.istore_n 2, 1) := by decide +kernel
theorem dX2_countNotedWith_2 : decode cX2_countNotedWith 2 = .ok (.iconst 0, 1) := by decide +kernel
theorem dX2_countNotedWith_3 : decode cX2_countNotedWith 3 = .ok (.istore_n 3, 1) := by decide +kernel
theorem dX2_countNotedWith_4 : decode cX2_countNotedWith 4 = .ok (.iload_n 3, 1) := by decide +kernel
theorem dX2_countNotedWith_5 : decode cX2_countNotedWith 5 = .ok (.aload_n 0, 1) := by decide +kernel
theorem dX2_countNotedWith_6 : decode cX2_countNotedWith 6 = .ok (.getfield 37, 3) := by decide +kernel
theorem dX2_countNotedWith_9 : decode cX2_countNotedWith 9 = .ok (.arraylength, 1) := by decide +kernel
theorem dX2_countNotedWith_10 : decode cX2_countNotedWith 10 = .ok (.if_icmp .ge 62, 3) := by decide +kernel
theorem dX2_countNotedWith_13 : decode cX2_countNotedWith 13 = .ok (.iload_n 3, 1) := by decide +kernel
theorem dX2_countNotedWith_14 : decode cX2_countNotedWith 14 = .ok (.aload_n 0, 1) := by decide +kernel
theorem dX2_countNotedWith_15 : decode cX2_countNotedWith 15 = .ok (.getfield 27, 3) := by decide +kernel
theorem dX2_countNotedWith_18 : decode cX2_countNotedWith 18 = .ok (.arraylength, 1) := by decide +kernel
theorem dX2_countNotedWith_19 : decode cX2_countNotedWith 19 = .ok (.if_icmp .ge 53, 3) := by decide +kernel
theorem dX2_countNotedWith_22 : decode cX2_countNotedWith 22 = .ok (.aload_n 0, 1) := by decide +kernel
theorem dX2_countNotedWith_23 : decode cX2_countNotedWith 23 = .ok (.getfield 27, 3) := by decide +kernel
theorem dX2_countNotedWith_26 : decode cX2_countNotedWith 26 = .ok (.iload_n 3, 1) := by decide +kernel
theorem dX2_countNotedWith_27 : decode cX2_countNotedWith 27 = .ok (.aaload, 1) := by decide +kernel
theorem dX2_countNotedWith_28 : decode cX2_countNotedWith 28 = .ok (.astore 4, 2) := by decide +kernel
theorem dX2_countNotedWith_30 : decode cX2_countNotedWith 30 = .ok (.aload 4, 2) := by decide +kernel
theorem dX2_countNotedWith_32 : decode cX2_countNotedWith 32 = .ok (.ifnull 34, 3) := by decide +kernel
theorem dX2_countNotedWith_35 : decode cX2_countNotedWith 35 = .ok (.aload_n 0, 1) := by decide +kernel
theorem dX2_countNotedWith_36 : decode cX2_countNotedWith 36 = .ok (.getfield 37, 3) := by decide +kernel
theorem dX2_countNotedWith_39 : decode cX2_countNotedWith 39 = .ok (.iload_n 3, 1) := by decide +kernel
theorem dX2_countNotedWith_40 : decode cX2_countNotedWith 40 = .ok (.iaload, 1) := by decide +kernel
theorem dX2_countNotedWith_41 : decode cX2_countNotedWith 41 = .ok (.iconst (-1), 1) := by decide +kernel
theorem dX2_countNotedWith_42 : decode cX2_countNotedWith 42 = .ok (.if_icmp .eq 24, 3) := by decide +kernel
theorem dX2_countNotedWith_45 : decode cX2_countNotedWith 45 = .ok (.aload 4, 2) := by decide +kernel
theorem dX2_countNotedWith_47 : decode cX2_countNotedWith 47 = .ok (.getfield 147, 3) := by decide +kernel
theorem dX2_countNotedWith_50 : decode cX2_countNotedWith 50 = .ok (.aload 4, 2) := by decide +kernel
theorem dX2_countNotedWith_52 : decode cX2_countNotedWith 52 = .ok (.getfield 137, 3) := by decide +kernel
theorem dX2_countNotedWith_55 : decode cX2_countNotedWith 55 = .ok (.ior, 1) := by decide +kernel
theorem dX2_countNotedWith_56 : decode cX2_countNotedWith 56 = .ok (.iconst 1, 1) := by decide +kernel
theorem dX2_countNotedWith_57 : decode cX2_countNotedWith 57 = .ok (.iload_n 1, 1) := by decide +kernel
theorem dX2_countNotedWith_58 : decode cX2_countNotedWith 58 = .ok (.ishl, 1) := by decide +kernel
theorem dX2_countNotedWith_59 : decode cX2_countNotedWith 59 = .ok (.iand, 1) := by decide +kernel
theorem dX2_countNotedWith_60 : decode cX2_countNotedWith 60 = .ok (.ifCond .eq 6, 3) := by decide +kernel
theorem dX2_countNotedWith_63 : decode cX2_countNotedWith 63 = .ok (.iinc 2 1, 3) := by decide +kernel
theorem dX2_countNotedWith_66 : decode cX2_countNotedWith 66 = .ok (.iinc 3 1, 3) := by decide +kernel
theorem dX2_countNotedWith_69 : decode cX2_countNotedWith 69 = .ok (.goto (-65), 3) := by decide +kernel
theorem dX2_countNotedWith_72 : decode cX2_countNotedWith 72 = .ok (.iload_n 2, 1) := by decide +kernel
theorem dX2_countNotedWith_73 : decode cX2_countNotedWith 73 = .ok (.ireturn, 1) := by decide +kernel
set_option maxRecDepth 20000 in
theorem ggX2_bringBags_X1_comeTo : GoodIn wsX2_bringBags wsX1_comeTo := goodIn_r _ [9, 10, 11, 12, 13, 14, 15, 16, 17, 8, 18, 34, 35, 36, 37, 38, 39, 40, 41, 42, 43, 44, 45, 46, 47, 48] (by decide +kernel) (by decide +kernel)
set_option maxRecDepth 20000 in
theorem gX2_bringBags_X1_comeTo : GoodIn wsX2_bringBags (wsV RX2 129 RX1 yX1_comeTo wsX1_comeTo) := goodIn_app (goodIn_of _ (by decide +kernel)) ggX2_bringBags_X1_comeTo
theorem dX2_bringBags_0 : decode cX2_bringBags 0 = .ok (.aload_n 0, 1) := by decide +kernel
theorem dX2_bringBags_1 : decode cX2_bringBags 1 = .ok (.getfield 27, 3) := by decide +kernel
theorem dX2_bringBags_4 : decode cX2_bringBags 4 = .ok (.astore_n 1, 1) := by decide +kernel
theorem dX2_bringBags_5 : decode cX2_bringBags 5 = .ok (.aload_n 1, 1) := by decide +kernel
theorem dX2_bringBags_6 : decode cX2_bringBags 6 = .ok (.arraylength, 1) := by decide +kernel
theorem dX2_bringBags_7 : decode cX2_bringBags 7 = .ok (.istore_n 2, 1) := by decide +kernel
theorem dX2_bringBags_8 : decode cX2_bringBags 8 = .ok (.iconst 0, 1) := by decide +kernel
theorem dX2_bringBags_9 : decode cX2_bringBags 9 = .ok (.istore_n 3, 1) := by decide +kernel
theorem dX2_bringBags_10 : decode cX2_bringBags 10 = .ok (.iload_n 3, 1) := by decide +kernel
theorem dX2_bringBags_11 : decode cX2_bringBags 11 = .ok (.iload_n 2, 1) := by decide +kernel
theorem dX2_bringBags_12 : decode cX2_bringBags 12 = .ok (.if_icmp .ge 42, 3) := by decide +kernel
theorem dX2_bringBags_15 : decode cX2_bringBags 15 = .ok (.aload_n 1, 1) := by decide +kernel
theorem dX2_bringBags_16 : decode cX2_bringBags 16 = .ok (.iload_n 3, 1) := by decide +kernel
theorem dX2_bringBags_17 : decode cX2_bringBags 17 = .ok (.aaload, 1) := by decide +kernel
theorem dX2_bringBags_18 : decode cX2_bringBags 18 = .ok (.astore 4, 2) := by decide +kernel
theorem dX2_bringBags_20 : decode cX2_bringBags 20 = .ok (.aload 4, 2) := by decide +kernel
theorem dX2_bringBags_22 : decode cX2_bringBags 22 = .ok (.ifnull 26, 3) := by decide +kernel
theorem dX2_bringBags_25 : decode cX2_bringBags 25 = .ok (.aload 4, 2) := by decide +kernel
theorem dX2_bringBags_27 : decode cX2_bringBags 27 = .ok (.getfield 142, 3) := by decide +kernel
theorem dX2_bringBags_30 : decode cX2_bringBags 30 = .ok (.iconst 1, 1) := by decide +kernel
theorem dX2_bringBags_31 : decode cX2_bringBags 31 = .ok (.if_icmp .ne 17, 3) := by decide +kernel
theorem dX2_bringBags_34 : decode cX2_bringBags 34 = .ok (.aload 4, 2) := by decide +kernel
theorem dX2_bringBags_36 : decode cX2_bringBags 36 = .ok (.aload 4, 2) := by decide +kernel
theorem dX2_bringBags_38 : decode cX2_bringBags 38 = .ok (.getfield 150, 3) := by decide +kernel
theorem dX2_bringBags_41 : decode cX2_bringBags 41 = .ok (.aload_n 0, 1) := by decide +kernel
theorem dX2_bringBags_42 : decode cX2_bringBags 42 = .ok (.getfield 47, 3) := by decide +kernel
theorem dX2_bringBags_45 : decode cX2_bringBags 45 = .ok (.invokevirtual 129, 3) := by decide +kernel
theorem dX2_bringBags_48 : decode cX2_bringBags 48 = .ok (.iinc 3 1, 3) := by decide +kernel
theorem dX2_bringBags_51 : decode cX2_bringBags 51 = .ok (.goto (-41), 3) := by decide +kernel
theorem dX2_bringBags_54 : decode cX2_bringBags 54 = .ok (.return_, 1) := by decide +kernel
set_option maxRecDepth 20000 in
theorem ggX2_eraseOldClaims_X0_eraseIfOld : GoodIn wsX2_eraseOldClaims wsX0_eraseIfOld := goodIn_r _ [7, 8, 9, 10, 11, 27, 28, 29, 30, 31, 32, 33, 34, 35, 36] (by decide +kernel) (by decide +kernel)
set_option maxRecDepth 20000 in
theorem gX2_eraseOldClaims_X0_eraseIfOld : GoodIn wsX2_eraseOldClaims (wsV RX2 353 RX0 yX0_eraseIfOld wsX0_eraseIfOld) := goodIn_app (goodIn_of _ (by decide +kernel)) ggX2_eraseOldClaims_X0_eraseIfOld
theorem dX2_eraseOldClaims_0 : decode cX2_eraseOldClaims 0 = .ok (.aload_n 0, 1) := by decide +kernel
theorem dX2_eraseOldClaims_1 : decode cX2_eraseOldClaims 1 = .ok (.getfield 33, 3) := by decide +kernel
theorem dX2_eraseOldClaims_4 : decode cX2_eraseOldClaims 4 = .ok (.astore_n 1, 1) := by decide +kernel
theorem dX2_eraseOldClaims_5 : decode cX2_eraseOldClaims 5 = .ok (.aload_n 1, 1) := by decide +kernel
theorem dX2_eraseOldClaims_6 : decode cX2_eraseOldClaims 6 = .ok (.arraylength, 1) := by decide +kernel
theorem dX2_eraseOldClaims_7 : decode cX2_eraseOldClaims 7 = .ok (.istore_n 2, 1) := by decide +kernel
theorem dX2_eraseOldClaims_8 : decode cX2_eraseOldClaims 8 = .ok (.iconst 0, 1) := by decide +kernel
theorem dX2_eraseOldClaims_9 : decode cX2_eraseOldClaims 9 = .ok (.istore_n 3, 1) := by decide +kernel
theorem dX2_eraseOldClaims_10 : decode cX2_eraseOldClaims 10 = .ok (.iload_n 3, 1) := by decide +kernel
theorem dX2_eraseOldClaims_11 : decode cX2_eraseOldClaims 11 = .ok (.iload_n 2, 1) := by decide +kernel
theorem dX2_eraseOldClaims_12 : decode cX2_eraseOldClaims 12 = .ok (.if_icmp .ge 28, 3) := by decide +kernel
theorem dX2_eraseOldClaims_15 : decode cX2_eraseOldClaims 15 = .ok (.aload_n 1, 1) := by decide +kernel
theorem dX2_eraseOldClaims_16 : decode cX2_eraseOldClaims 16 = .ok (.iload_n 3, 1) := by decide +kernel
theorem dX2_eraseOldClaims_17 : decode cX2_eraseOldClaims 17 = .ok (.aaload, 1) := by decide +kernel
theorem dX2_eraseOldClaims_18 : decode cX2_eraseOldClaims 18 = .ok (.astore 4, 2) := by decide +kernel
theorem dX2_eraseOldClaims_20 : decode cX2_eraseOldClaims 20 = .ok (.aload 4, 2) := by decide +kernel
theorem dX2_eraseOldClaims_22 : decode cX2_eraseOldClaims 22 = .ok (.ifnull 12, 3) := by decide +kernel
theorem dX2_eraseOldClaims_25 : decode cX2_eraseOldClaims 25 = .ok (.aload 4, 2) := by decide +kernel
theorem dX2_eraseOldClaims_27 : decode cX2_eraseOldClaims 27 = .ok (.aload_n 0, 1) := by decide +kernel
theorem dX2_eraseOldClaims_28 : decode cX2_eraseOldClaims 28 = .ok (.getfield 47, 3) := by decide +kernel
theorem dX2_eraseOldClaims_31 : decode cX2_eraseOldClaims 31 = .ok (.invokevirtual 353, 3) := by decide +kernel
theorem dX2_eraseOldClaims_34 : decode cX2_eraseOldClaims 34 = .ok (.iinc 3 1, 3) := by decide +kernel
theorem dX2_eraseOldClaims_37 : decode cX2_eraseOldClaims 37 = .ok (.goto (-27), 3) := by decide +kernel
theorem dX2_eraseOldClaims_40 : decode cX2_eraseOldClaims 40 = .ok (.return_, 1) := by decide +kernel
theorem dJ6_bitCount_0f7a4_0 : decode cJ6_bitCount_0f7a4 0 = .ok (.iload_n 0, 1) := by decide +kernel
theorem dJ6_bitCount_0f7a4_1 : decode cJ6_bitCount_0f7a4 1 = .ok (.iload_n 0, 1) := by decide +kernel
theorem dJ6_bitCount_0f7a4_2 : decode cJ6_bitCount_0f7a4 2 = .ok (.iconst 1, 1) := by decide +kernel
theorem dJ6_bitCount_0f7a4_3 : decode cJ6_bitCount_0f7a4 3 = .ok (.iushr, 1) := by decide +kernel
theorem dJ6_bitCount_0f7a4_4 : decode cJ6_bitCount_0f7a4 4 = .ok (.ldc_w 265, 3) := by decide +kernel
theorem dJ6_bitCount_0f7a4_7 : decode cJ6_bitCount_0f7a4 7 = .ok (.iand, 1) := by decide +kernel
theorem dJ6_bitCount_0f7a4_8 : decode cJ6_bitCount_0f7a4 8 = .ok (.isub, 1) := by decide +kernel
theorem dJ6_bitCount_0f7a4_9 : decode cJ6_bitCount_0f7a4 9 = .ok (.istore_n 0, 1) := by decide +kernel
theorem dJ6_bitCount_0f7a4_10 : decode cJ6_bitCount_0f7a4 10 = .ok (.iload_n 0, 1) := by decide +kernel
theorem dJ6_bitCount_0f7a4_11 : decode cJ6_bitCount_0f7a4 11 = .ok (.ldc_w 266, 3) := by decide +kernel
theorem dJ6_bitCount_0f7a4_14 : decode cJ6_bitCount_0f7a4 14 = .ok (.iand, 1) := by decide +kernel
theorem dJ6_bitCount_0f7a4_15 : decode cJ6_bitCount_0f7a4 15 = .ok (.iload_n 0, 1) := by decide +kernel
theorem dJ6_bitCount_0f7a4_16 : decode cJ6_bitCount_0f7a4 16 = .ok (.iconst 2, 1) := by decide +kernel
theorem dJ6_bitCount_0f7a4_17 : decode cJ6_bitCount_0f7a4 17 = .ok (.iushr, 1) := by decide +kernel
theorem dJ6_bitCount_0f7a4_18 : decode cJ6_bitCount_0f7a4 18 = .ok (.ldc_w 266, 3) := by decide +kernel
theorem dJ6_bitCount_0f7a4_21 : decode cJ6_bitCount_0f7a4 21 = .ok (.iand, 1) := by decide +kernel
theorem dJ6_bitCount_0f7a4_22 : decode cJ6_bitCount_0f7a4 22 = .ok (.iadd, 1) := by decide +kernel
theorem dJ6_bitCount_0f7a4_23 : decode cJ6_bitCount_0f7a4 23 = .ok (.istore_n 0, 1) := by decide +kernel
theorem dJ6_bitCount_0f7a4_24 : decode cJ6_bitCount_0f7a4 24 = .ok (.iload_n 0, 1) := by decide +kernel
theorem dJ6_bitCount_0f7a4_25 : decode cJ6_bitCount_0f7a4 25 = .ok (.iload_n 0, 1) := by decide +kernel
theorem dJ6_bitCount_0f7a4_26 : decode cJ6_bitCount_0f7a4 26 = .ok (.iconst 4, 1) := by decide +kernel
theorem dJ6_bitCount_0f7a4_27 : decode cJ6_bitCount_0f7a4 27 = .ok (.iushr, 1) := by decide +kernel
theorem dJ6_bitCount_0f7a4_28 : decode cJ6_bitCount_0f7a4 28 = .ok (.iadd, 1) := by decide +kernel
theorem dJ6_bitCount_0f7a4_29 : decode cJ6_bitCount_0f7a4 29 = .ok (.ldc_w 267, 3) := by decide +kernel
theorem dJ6_bitCount_0f7a4_32 : decode cJ6_bitCount_0f7a4 32 = .ok (.iand, 1) := by decide +kernel
theorem dJ6_bitCount_0f7a4_33 : decode cJ6_bitCount_0f7a4 33 = .ok (.istore_n 0, 1) := by decide +kernel
theorem dJ6_bitCount_0f7a4_34 : decode cJ6_bitCount_0f7a4 34 = .ok (.iload_n 0, 1) := by decide +kernel
theorem dJ6_bitCount_0f7a4_35 : decode cJ6_bitCount_0f7a4 35 = .ok (.iload_n 0, 1) := by decide +kernel
theorem dJ6_bitCount_0f7a4_36 : decode cJ6_bitCount_0f7a4 36 = .ok (.bipush 8, 2) := by decide +kernel
theorem dJ6_bitCount_0f7a4_38 : decode cJ6_bitCount_0f7a4 38 = .ok (.iushr, 1) := by decide +kernel
theorem dJ6_bitCount_0f7a4_39 : decode cJ6_bitCount_0f7a4 39 = .ok (.iadd, 1) := by decide +kernel
theorem dJ6_bitCount_0f7a4_40 : decode cJ6_bitCount_0f7a4 40 = .ok (.istore_n 0, 1) := by decide +kernel
theorem dJ6_bitCount_0f7a4_41 : decode cJ6_bitCount_0f7a4 41 = .ok (.iload_n 0, 1) := by decide +kernel
theorem dJ6_bitCount_0f7a4_42 : decode cJ6_bitCount_0f7a4 42 = .ok (.iload_n 0, 1) := by decide +kernel
theorem dJ6_bitCount_0f7a4_43 : decode cJ6_bitCount_0f7a4 43 = .ok (.bipush 16, 2) := by decide +kernel
theorem dJ6_bitCount_0f7a4_45 : decode cJ6_bitCount_0f7a4 45 = .ok (.iushr, 1) := by decide +kernel
theorem dJ6_bitCount_0f7a4_46 : decode cJ6_bitCount_0f7a4 46 = .ok (.iadd, 1) := by decide +kernel
theorem dJ6_bitCount_0f7a4_47 : decode cJ6_bitCount_0f7a4 47 = .ok (.istore_n 0, 1) := by decide +kernel
theorem dJ6_bitCount_0f7a4_48 : decode cJ6_bitCount_0f7a4 48 = .ok (.iload_n 0, 1) := by decide +kernel
theorem dJ6_bitCount_0f7a4_49 : decode cJ6_bitCount_0f7a4 49 = .ok (.bipush 63, 2) := by decide +kernel
theorem dJ6_bitCount_0f7a4_51 : decode cJ6_bitCount_0f7a4 51 = .ok (.iand, 1) := by decide +kernel
theorem dJ6_bitCount_0f7a4_52 : decode cJ6_bitCount_0f7a4 52 = .ok (.ireturn, 1) := by decide +kernel
theorem dJ9_abs_0f7a4_0 : decode cJ9_abs_0f7a4 0 = .ok (.iload_n 0, 1) := by decide +kernel
theorem dJ9_abs_0f7a4_1 : decode cJ9_abs_0f7a4 1 = .ok (.ifCond .ge 8, 3) := by decide +kernel
theorem dJ9_abs_0f7a4_4 : decode cJ9_abs_0f7a4 4 = .ok (.iload_n 0, 1) := by decide +kernel
theorem dJ9_abs_0f7a4_5 : decode cJ9_abs_0f7a4 5 = .ok (.ineg, 1) := by decide +kernel
theorem dJ9_abs_0f7a4_6 : decode cJ9_abs_0f7a4 6 = .ok (.goto 4, 3) := by decide +kernel
theorem dJ9_abs_0f7a4_9 : decode cJ9_abs_0f7a4 9 = .ok (.iload_n 0, 1) := by decide +kernel
theorem dJ9_abs_0f7a4_10 : decode cJ9_abs_0f7a4 10 = .ok (.ireturn, 1) := by decide +kernel
theorem dJ9_max_7cf53_0 : decode cJ9_max_7cf53 0 = .ok (.iload_n 0, 1) := by decide +kernel
theorem dJ9_max_7cf53_1 : decode cJ9_max_7cf53 1 = .ok (.iload_n 1, 1) := by decide +kernel
theorem dJ9_max_7cf53_2 : decode cJ9_max_7cf53 2 = .ok (.if_icmp .lt 7, 3) := by decide +kernel
theorem dJ9_max_7cf53_5 : decode cJ9_max_7cf53 5 = .ok (.iload_n 0, 1) := by decide +kernel
theorem dJ9_max_7cf53_6 : decode cJ9_max_7cf53 6 = .ok (.goto 4, 3) := by decide +kernel
theorem dJ9_max_7cf53_9 : decode cJ9_max_7cf53 9 = .ok (.iload_n 1, 1) := by decide +kernel
theorem dJ9_max_7cf53_10 : decode cJ9_max_7cf53 10 = .ok (.ireturn, 1) := by decide +kernel
theorem dJ9_min_7cf53_0 : decode cJ9_min_7cf53 0 = .ok (.iload_n 0, 1) := by decide +kernel
theorem dJ9_min_7cf53_1 : decode cJ9_min_7cf53 1 = .ok (.iload_n 1, 1) := by decide +kernel
theorem dJ9_min_7cf53_2 : decode cJ9_min_7cf53 2 = .ok (.if_icmp .gt 7, 3) := by decide +kernel
theorem dJ9_min_7cf53_5 : decode cJ9_min_7cf53 5 = .ok (.iload_n 0, 1) := by decide +kernel
theorem dJ9_min_7cf53_6 : decode cJ9_min_7cf53 6 = .ok (.goto 4, 3) := by decide +kernel
theorem dJ9_min_7cf53_9 : decode cJ9_min_7cf53 9 = .ok (.iload_n 1, 1) := by decide +kernel
theorem dJ9_min_7cf53_10 : decode cJ9_min_7cf53 10 = .ok (.ireturn, 1) := by decide +kernel
