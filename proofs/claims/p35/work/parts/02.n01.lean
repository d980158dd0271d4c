theorem wsL_law_x0 : ∀ w ∈ (vx_atS RX2 70 "java/lang/IndexOutOfBoundsException" ["java/lang/RuntimeException", "java/lang/Exception"]).filter goodWord, w ∈ lw_tbl := by decide +kernel
theorem wsL_law_x1 : ∀ w ∈ (vx_atS RX2 81 "java/lang/IllegalArgumentException" ["java/lang/RuntimeException", "java/lang/Exception"]).filter goodWord, w ∈ lw_tbl := by decide +kernel
theorem wsL_law_x2 : ∀ w ∈ (vx_atS RX2 94 "java/lang/IllegalStateException" ["java/lang/RuntimeException", "java/lang/Exception"]).filter goodWord, w ∈ lw_tbl := by decide +kernel
theorem wsL_law_in : ∀ w ∈ wsL_law, w ∈ lw_tbl := fun w h => (List.mem_append.mp h).elim (fun h => (List.mem_append.mp h).elim (fun h => (List.mem_append.mp h).elim (fun h => wsL_law_in0 w h) (fun h => wsL_law_x0 w h)) (fun h => wsL_law_x1 w h)) (fun h => wsL_law_x2 w h)
theorem inlX0 : ∀ w ∈ wsX00, w ∈ wsL_law := fun _ h => List.mem_append_left _ (List.mem_append_left _ (List.mem_append_left _ (List.mem_append_left _ (List.mem_append_right _ h))))
theorem inX0 : ∀ w ∈ wsX00, w ∈ lw_tbl := fun w h => wsL_law_in w (inlX0 w h)
theorem inlX1 : ∀ w ∈ wsX10, w ∈ wsL_law := fun _ h => List.mem_append_left _ (List.mem_append_left _ (List.mem_append_left _ (List.mem_append_left _ (List.mem_append_left _ (List.mem_append_right _ h)))))
theorem inX1 : ∀ w ∈ wsX10, w ∈ lw_tbl := fun w h => wsL_law_in w (inlX1 w h)
theorem inlX2 : ∀ w ∈ wsX20, w ∈ wsL_law := fun _ h => List.mem_append_left _ (List.mem_append_left _ (List.mem_append_left _ (List.mem_append_left _ (List.mem_append_left _ (List.mem_append_left _ (List.mem_append_right _ h))))))
theorem inX2 : ∀ w ∈ wsX20, w ∈ lw_tbl := fun w h => wsL_law_in w (inlX2 w h)
theorem inX3 : ∀ w ∈ wsX30, w ∈ lw_tbl := by decide +kernel
theorem inJ6 : ∀ w ∈ wsJ60, w ∈ lw_tbl := by decide +kernel
theorem inJ9 : ∀ w ∈ wsJ90, w ∈ lw_tbl := by decide +kernel
theorem inJ0 : ∀ w ∈ wsJ00, w ∈ lw_tbl := by decide +kernel
theorem dX0_init_0 : decode cX0_init 0 = .ok (.aload_n 0, 1) := by decide +kernel
theorem dX0_init_1 : decode cX0_init 1 = .ok (.invokespecial 3, 3) := by decide +kernel
theorem dX0_init_4 : decode cX0_init 4 = .ok (.aload_n 0, 1) := by decide +kernel
theorem dX0_init_5 : decode cX0_init 5 = .ok (.iconst 0, 1) := by decide +kernel
theorem dX0_init_6 : decode cX0_init 6 = .ok (.putfield 9, 3) := by decide +kernel
theorem dX0_init_9 : decode cX0_init 9 = .ok (.aload_n 0, 1) := by decide +kernel
theorem dX0_init_10 : decode cX0_init 10 = .ok (.iconst 0, 1) := by decide +kernel
theorem dX0_init_11 : decode cX0_init 11 = .ok (.putfield 15, 3) := by decide +kernel
theorem dX0_init_14 : decode cX0_init 14 = .ok (.aload_n 0, 1) := by decide +kernel
theorem dX0_init_15 : decode cX0_init 15 = .ok (.iconst (-1), 1) := by decide +kernel
theorem dX0_init_16 : decode cX0_init 16 = .ok (.putfield 18, 3) := by decide +kernel
theorem dX0_init_19 : decode cX0_init 19 = .ok (.aload_n 0, 1) := by decide +kernel
theorem dX0_init_20 : decode cX0_init 20 = .ok (.iconst 0, 1) := by decide +kernel
theorem dX0_init_21 : decode cX0_init 21 = .ok (.putfield 21, 3) := by decide +kernel
theorem dX0_init_24 : decode cX0_init 24 = .ok (.aload_n 0, 1) := by decide +kernel
theorem dX0_init_25 : decode cX0_init 25 = .ok (.iload_n 1, 1) := by decide +kernel
theorem dX0_init_26 : decode cX0_init 26 = .ok (.putfield 24, 3) := by decide +kernel
theorem dX0_init_29 : decode cX0_init 29 = .ok (.aload_n 0, 1) := by decide +kernel
theorem dX0_init_30 : decode cX0_init 30 = .ok (.iload_n 2, 1) := by decide +kernel
theorem dX0_init_31 : decode cX0_init 31 = .ok (.putfield 27, 3) := by decide +kernel
theorem dX0_init_34 : decode cX0_init 34 = .ok (.aload_n 0, 1) := by decide +kernel
theorem dX0_init_35 : decode cX0_init 35 = .ok (.iload_n 3, 1) := by decide +kernel
theorem dX0_init_36 : decode cX0_init 36 = .ok (.putfield 30, 3) := by decide +kernel
theorem dX0_init_39 : decode cX0_init 39 = .ok (.aload_n 0, 1) := by decide +kernel
theorem dX0_init_40 : decode cX0_init 40 = .ok (.iload 4, 2) := by decide +kernel
theorem dX0_init_42 : decode cX0_init 42 = .ok (.putfield 33, 3) := by decide +kernel
theorem dX0_init_45 : decode cX0_init 45 = .ok (.aload_n 0, 1) := by decide +kernel
theorem dX0_init_46 : decode cX0_init 46 = .ok (.iload 5, 2) := by decide +kernel
theorem dX0_init_48 : decode cX0_init 48 = .ok (.putfield 36, 3) := by decide +kernel
theorem dX0_init_51 : decode cX0_init 51 = .ok (.aload_n 0, 1) := by decide +kernel
theorem dX0_init_52 : decode cX0_init 52 = .ok (.iload 6, 2) := by decide +kernel
theorem dX0_init_54 : decode cX0_init 54 = .ok (.putfield 39, 3) := by decide +kernel
theorem dX0_init_57 : decode cX0_init 57 = .ok (.return_, 1) := by decide +kernel
set_option maxRecDepth 20000 in
theorem ggX0_proves_J6_bitCount_0f7a4 : GoodIn wsX0_proves wsJ6_bitCount_0f7a4 := goodIn_r _ [10, 11, 12, 13] (by decide +kernel) (by decide +kernel)
set_option maxRecDepth 20000 in
theorem gX0_proves_J6_bitCount_0f7a4 : GoodIn wsX0_proves (va_wsS RX0 47 yJ6_bitCount_0f7a4 wsJ6_bitCount_0f7a4) := goodIn_app (goodIn_of _ (by decide +kernel)) ggX0_proves_J6_bitCount_0f7a4
theorem dX0_proves_0 : decode cX0_proves 0 = .ok (.iconst 2, 1) := by decide +kernel
theorem dX0_proves_1 : decode cX0_proves 1 = .ok (.aload_n 1, 1) := by decide +kernel
theorem dX0_proves_2 : decode cX0_proves 2 = .ok (.getfield 42, 3) := by decide +kernel
theorem dX0_proves_5 : decode cX0_proves 5 = .ok (.invokestatic 47, 3) := by decide +kernel
theorem dX0_proves_8 : decode cX0_proves 8 = .ok (.invokestatic 53, 3) := by decide +kernel
theorem dX0_proves_11 : decode cX0_proves 11 = .ok (.istore_n 2, 1) := by decide +kernel
theorem dX0_proves_12 : decode cX0_proves 12 = .ok (.aload_n 0, 1) := by decide +kernel
theorem dX0_proves_13 : decode cX0_proves 13 = .ok (.getfield 9, 3) := by decide +kernel
theorem dX0_proves_16 : decode cX0_proves 16 = .ok (.aload_n 1, 1) := by decide +kernel
theorem dX0_proves_17 : decode cX0_proves 17 = .ok (.getfield 42, 3) := by decide +kernel
theorem dX0_proves_20 : decode cX0_proves 20 = .ok (.iand, 1) := by decide +kernel
theorem dX0_proves_21 : decode cX0_proves 21 = .ok (.invokestatic 47, 3) := by decide +kernel
theorem dX0_proves_24 : decode cX0_proves 24 = .ok (.iload_n 2, 1) := by decide +kernel
theorem dX0_proves_25 : decode cX0_proves 25 = .ok (.if_icmp .lt 25, 3) := by decide +kernel
theorem dX0_proves_28 : decode cX0_proves 28 = .ok (.aload_n 0, 1) := by decide +kernel
theorem dX0_proves_29 : decode cX0_proves 29 = .ok (.getfield 9, 3) := by decide +kernel
theorem dX0_proves_32 : decode cX0_proves 32 = .ok (.aload_n 1, 1) := by decide +kernel
theorem dX0_proves_33 : decode cX0_proves 33 = .ok (.getfield 42, 3) := by decide +kernel
theorem dX0_proves_36 : decode cX0_proves 36 = .ok (.iconst (-1), 1) := by decide +kernel
theorem dX0_proves_37 : decode cX0_proves 37 = .ok (.ixor, 1) := by decide +kernel
theorem dX0_proves_38 : decode cX0_proves 38 = .ok (.iand, 1) := by decide +kernel
theorem dX0_proves_39 : decode cX0_proves 39 = .ok (.invokestatic 47, 3) := by decide +kernel
theorem dX0_proves_42 : decode cX0_proves 42 = .ok (.iconst 1, 1) := by decide +kernel
theorem dX0_proves_43 : decode cX0_proves 43 = .ok (.if_icmp .gt 7, 3) := by decide +kernel
theorem dX0_proves_46 : decode cX0_proves 46 = .ok (.iconst 1, 1) := by decide +kernel
theorem dX0_proves_47 : decode cX0_proves 47 = .ok (.goto 4, 3) := by decide +kernel
theorem dX0_proves_50 : decode cX0_proves 50 = .ok (.iconst 0, 1) := by decide +kernel
theorem dX0_proves_51 : decode cX0_proves 51 = .ok (.ireturn, 1) := by decide +kernel
theorem dX0_end_0 : decode cX0_end 0 = .ok (.aload_n 0, 1) := by decide +kernel
theorem dX0_end_1 : decode cX0_end 1 = .ok (.iload_n 1, 1) := by decide +kernel
theorem dX0_end_2 : decode cX0_end 2 = .ok (.putfield 15, 3) := by decide +kernel
theorem dX0_end_5 : decode cX0_end 5 = .ok (.aload_n 0, 1) := by decide +kernel
theorem dX0_end_6 : decode cX0_end 6 = .ok (.iload_n 2, 1) := by decide +kernel
theorem dX0_end_7 : decode cX0_end 7 = .ok (.putfield 21, 3) := by decide +kernel
theorem dX0_end_10 : decode cX0_end 10 = .ok (.return_, 1) := by decide +kernel
theorem dX0_eraseIfOld_0 : decode cX0_eraseIfOld 0 = .ok (.aload_n 0, 1) := by decide +kernel
theorem dX0_eraseIfOld_1 : decode cX0_eraseIfOld 1 = .ok (.getfield 15, 3) := by decide +kernel
theorem dX0_eraseIfOld_4 : decode cX0_eraseIfOld 4 = .ok (.iconst 1, 1) := by decide +kernel
theorem dX0_eraseIfOld_5 : decode cX0_eraseIfOld 5 = .ok (.if_icmp .eq 11, 3) := by decide +kernel
theorem dX0_eraseIfOld_8 : decode cX0_eraseIfOld 8 = .ok (.aload_n 0, 1) := by decide +kernel
theorem dX0_eraseIfOld_9 : decode cX0_eraseIfOld 9 = .ok (.getfield 15, 3) := by decide +kernel
theorem dX0_eraseIfOld_12 : decode cX0_eraseIfOld 12 = .ok (.iconst 2, 1) := by decide +kernel
theorem dX0_eraseIfOld_13 : decode cX0_eraseIfOld 13 = .ok (.if_icmp .ne 7, 3) := by decide +kernel
theorem dX0_eraseIfOld_16 : decode cX0_eraseIfOld 16 = .ok (.iconst 1, 1) := by decide +kernel
theorem dX0_eraseIfOld_17 : decode cX0_eraseIfOld 17 = .ok (.goto 4, 3) := by decide +kernel
theorem dX0_eraseIfOld_20 : decode cX0_eraseIfOld 20 = .ok (.iconst 0, 1) := by decide +kernel
theorem dX0_eraseIfOld_21 : decode cX0_eraseIfOld 21 = .ok (.istore_n 2, 1) := by decide +kernel
theorem dX0_eraseIfOld_22 : decode cX0_eraseIfOld 22 = .ok (.iload_n 2, 1) := by decide +kernel
theorem dX0_eraseIfOld_23 : decode cX0_eraseIfOld 23 = .ok (.ifCond .eq 29, 3) := by decide +kernel
theorem dX0_eraseIfOld_26 : decode cX0_eraseIfOld 26 = .ok (.iload_n 1, 1) := by decide +kernel
theorem dX0_eraseIfOld_27 : decode cX0_eraseIfOld 27 = .ok (.aload_n 0, 1) := by decide +kernel
theorem dX0_eraseIfOld_28 : decode cX0_eraseIfOld 28 = .ok (.getfield 21, 3) := by decide +kernel
theorem dX0_eraseIfOld_31 : decode cX0_eraseIfOld 31 = .ok (.isub, 1) := by decide +kernel
theorem dX0_eraseIfOld_32 : decode cX0_eraseIfOld 32 = .ok (.bipush 90, 2) := by decide +kernel
theorem dX0_eraseIfOld_34 : decode cX0_eraseIfOld 34 = .ok (.if_icmp .lt 18, 3) := by decide +kernel
theorem dX0_eraseIfOld_37 : decode cX0_eraseIfOld 37 = .ok (.aload_n 0, 1) := by decide +kernel
theorem dX0_eraseIfOld_38 : decode cX0_eraseIfOld 38 = .ok (.iconst 3, 1) := by decide +kernel
theorem dX0_eraseIfOld_39 : decode cX0_eraseIfOld 39 = .ok (.putfield 15, 3) := by decide +kernel
theorem dX0_eraseIfOld_42 : decode cX0_eraseIfOld 42 = .ok (.aload_n 0, 1) := by decide +kernel
theorem dX0_eraseIfOld_43 : decode cX0_eraseIfOld 43 = .ok (.iconst 0, 1) := by decide +kernel
theorem dX0_eraseIfOld_44 : decode cX0_eraseIfOld 44 = .ok (.putfield 39, 3) := by decide +kernel
theorem dX0_eraseIfOld_47 : decode cX0_eraseIfOld 47 = .ok (.aload_n 0, 1) := by decide +kernel
theorem dX0_eraseIfOld_48 : decode cX0_eraseIfOld 48 = .ok (.iconst 0, 1) := by decide +kernel
theorem dX0_eraseIfOld_49 : decode cX0_eraseIfOld 49 = .ok (.putfield 9, 3) := by decide +kernel
theorem dX0_eraseIfOld_52 : decode cX0_eraseIfOld 52 = .ok (.return_, 1) := by decide +kernel
theorem dX1_init_0 : decode cX1_init 0 = .ok (.aload_n 0, 1) := by decide +kernel
theorem dX1_init_1 : decode cX1_init 1 = .ok (.invokespecial 3, 3) := by decide +kernel
theorem dX1_init_4 : decode cX1_init 4 = .ok (.aload_n 0, 1) := by decide +kernel
theorem dX1_init_5 : decode cX1_init 5 = .ok (.bipush 12, 2) := by decide +kernel
theorem dX1_init_7 : decode cX1_init 7 = .ok (.newarray .int, 2) := by decide +kernel
theorem dX1_init_9 : decode cX1_init 9 = .ok (.putfield 9, 3) := by decide +kernel
theorem dX1_init_12 : decode cX1_init 12 = .ok (.aload_n 0, 1) := by decide +kernel
theorem dX1_init_13 : decode cX1_init 13 = .ok (.bipush 12, 2) := by decide +kernel
theorem dX1_init_15 : decode cX1_init 15 = .ok (.newarray .int, 2) := by decide +kernel
theorem dX1_init_17 : decode cX1_init 17 = .ok (.putfield 15, 3) := by decide +kernel
theorem dX1_init_20 : decode cX1_init 20 = .ok (.aload_n 0, 1) := by decide +kernel
theorem dX1_init_21 : decode cX1_init 21 = .ok (.iconst 0, 1) := by decide +kernel
theorem dX1_init_22 : decode cX1_init 22 = .ok (.putfield 18, 3) := by decide +kernel
theorem dX1_init_25 : decode cX1_init 25 = .ok (.aload_n 0, 1) := by decide +kernel
theorem dX1_init_26 : decode cX1_init 26 = .ok (.iconst 0, 1) := by decide +kernel
theorem dX1_init_27 : decode cX1_init 27 = .ok (.putfield 22, 3) := by decide +kernel
theorem dX1_init_30 : decode cX1_init 30 = .ok (.aload_n 0, 1) := by decide +kernel
theorem dX1_init_31 : decode cX1_init 31 = .ok (.iconst (-1), 1) := by decide +kernel
theorem dX1_init_32 : decode cX1_init 32 = .ok (.putfield 25, 3) := by decide +kernel
theorem dX1_init_35 : decode cX1_init 35 = .ok (.aload_n 0, 1) := by decide +kernel
theorem dX1_init_36 : decode cX1_init 36 = .ok (.iconst 0, 1) := by decide +kernel
theorem dX1_init_37 : decode cX1_init 37 = .ok (.putfield 28, 3) := by decide +kernel
theorem dX1_init_40 : decode cX1_init 40 = .ok (.aload_n 0, 1) := by decide +kernel
theorem dX1_init_41 : decode cX1_init 41 = .ok (.iconst 0, 1) := by decide +kernel
theorem dX1_init_42 : decode cX1_init 42 = .ok (.putfield 31, 3) := by decide +kernel
theorem dX1_init_45 : decode cX1_init 45 = .ok (.aload_n 0, 1) := by decide +kernel
theorem dX1_init_46 : decode cX1_init 46 = .ok (.iconst 0, 1) := by decide +kernel
theorem dX1_init_47 : decode cX1_init 47 = .ok (.putfield 35, 3) := by decide +kernel
theorem dX1_init_50 : decode cX1_init 50 = .ok (.aload_n 0, 1) := by decide +kernel
theorem dX1_init_51 : decode cX1_init 51 = .ok (.iconst 0, 1) := by decide +kernel
theorem dX1_init_52 : decode cX1_init 52 = .ok (.putfield 38, 3) := by decide +kernel
theorem dX1_init_55 : decode cX1_init 55 = .ok (.aload_n 0, 1) := by decide +kernel
theorem dX1_init_56 : decode cX1_init 56 = .ok (.iload_n 1, 1) := by decide +kernel
theorem dX1_init_57 : decode cX1_init 57 = .ok (.putfield 41, 3) := by decide +kernel
theorem dX1_init_60 : decode cX1_init 60 = .ok (.aload_n 0, 1) := by decide +kernel
theorem dX1_init_61 : decode cX1_init 61 = .ok (.iload_n 2, 1) := by decide +kernel
theorem dX1_init_62 : decode cX1_init 62 = .ok (.putfield 44, 3) := by decide +kernel
theorem dX1_init_65 : decode cX1_init 65 = .ok (.aload_n 0, 1) := by decide +kernel
theorem dX1_init_66 : decode cX1_init 66 = .ok (.iload_n 3, 1) := by decide +kernel
theorem dX1_init_67 : decode cX1_init 67 = .ok (.putfield 47, 3) := by decide +kernel
theorem dX1_init_70 : decode cX1_init 70 = .ok (.aload_n 0, 1) := by decide +kernel
theorem dX1_init_71 : decode cX1_init 71 = .ok (.iload 4, 2) := by decide +kernel
theorem dX1_init_73 : decode cX1_init 73 = .ok (.putfield 50, 3) := by decide +kernel
theorem dX1_init_76 : decode cX1_init 76 = .ok (.aload_n 0, 1) := by decide +kernel
theorem dX1_init_77 : decode cX1_init 77 = .ok (.iload 5, 2) := by decide +kernel
theorem dX1_init_79 : decode cX1_init 79 = .ok (.putfield 53, 3) := by decide +kernel
theorem dX1_init_82 : decode cX1_init 82 = .ok (.aload_n 0, 1) := by decide +kernel
theorem dX1_init_83 : decode cX1_init 83 = .ok (.iload 6, 2) := by decide +kernel
theorem dX1_init_85 : decode cX1_init 85 = .ok (.putfield 56, 3) := by decide +kernel
theorem dX1_init_88 : decode cX1_init 88 = .ok (.return_, 1) := by decide +kernel
theorem dX1_isHere_0 : decode cX1_isHere 0 = .ok (.aload_n 0, 1) := by decide +kernel
theorem dX1_isHere_1 : decode cX1_isHere 1 = .ok (.getfield 22, 3) := by decide +kernel
theorem dX1_isHere_4 : decode cX1_isHere 4 = .ok (.ifCond .eq 19, 3) := by decide +kernel
theorem dX1_isHere_7 : decode cX1_isHere 7 = .ok (.aload_n 0, 1) := by decide +kernel
theorem dX1_isHere_8 : decode cX1_isHere 8 = .ok (.getfield 22, 3) := by decide +kernel
theorem dX1_isHere_11 : decode cX1_isHere 11 = .ok (.iconst 1, 1) := by decide +kernel
theorem dX1_isHere_12 : decode cX1_isHere 12 = .ok (.if_icmp .eq 11, 3) := by decide +kernel
theorem dX1_isHere_15 : decode cX1_isHere 15 = .ok (.aload_n 0, 1) := by decide +kernel
theorem dX1_isHere_16 : decode cX1_isHere 16 = .ok (.getfield 22, 3) := by decide +kernel
theorem dX1_isHere_19 : decode cX1_isHere 19 = .ok (.iconst 2, 1) := by decide +kernel
theorem dX1_isHere_20 : decode cX1_isHere 20 = .ok (.if_icmp .ne 7, 3) := by decide +kernel
theorem dX1_isHere_23 : decode cX1_isHere 23 = .ok (.iconst 1, 1) := by decide +kernel
theorem dX1_isHere_24 : decode cX1_isHere 24 = .ok (.goto 4, 3) := by decide +kernel
theorem dX1_isHere_27 : decode cX1_isHere 27 = .ok (.iconst 0, 1) := by decide +kernel
theorem dX1_isHere_28 : decode cX1_isHere 28 = .ok (.ireturn, 1) := by decide +kernel
set_option maxRecDepth 20000 in
theorem ggX1_comeTo_X1_dropSecondHand : GoodIn wsX1_comeTo wsX1_dropSecondHand := goodIn_r _ [10, 4, 5, 3, 11, 12, 13, 14, 15, 16, 17, 18, 19, 20, 21, 22, 23, 24, 25] (by decide +kernel) (by decide +kernel)
set_option maxRecDepth 20000 in
theorem gX1_comeTo_X1_dropSecondHand : GoodIn wsX1_comeTo (wsV RX1 59 RX1 yX1_dropSecondHand wsX1_dropSecondHand) := goodIn_app (goodIn_of _ (by decide +kernel)) ggX1_comeTo_X1_dropSecondHand
theorem dX1_comeTo_0 : decode cX1_comeTo 0 = .ok (.aload_n 0, 1) := by decide +kernel
theorem dX1_comeTo_1 : decode cX1_comeTo 1 = .ok (.iconst 0, 1) := by decide +kernel
theorem dX1_comeTo_2 : decode cX1_comeTo 2 = .ok (.putfield 22, 3) := by decide +kernel
theorem dX1_comeTo_5 : decode cX1_comeTo 5 = .ok (.aload_n 0, 1) := by decide +kernel
theorem dX1_comeTo_6 : decode cX1_comeTo 6 = .ok (.iload_n 1, 1) := by decide +kernel
theorem dX1_comeTo_7 : decode cX1_comeTo 7 = .ok (.putfield 25, 3) := by decide +kernel
theorem dX1_comeTo_10 : decode cX1_comeTo 10 = .ok (.aload_n 0, 1) := by decide +kernel
theorem dX1_comeTo_11 : decode cX1_comeTo 11 = .ok (.getfield 18, 3) := by decide +kernel
theorem dX1_comeTo_14 : decode cX1_comeTo 14 = .ok (.bipush 12, 2) := by decide +kernel
theorem dX1_comeTo_16 : decode cX1_comeTo 16 = .ok (.if_icmp .lt 7, 3) := by decide +kernel
theorem dX1_comeTo_19 : decode cX1_comeTo 19 = .ok (.aload_n 0, 1) := by decide +kernel
theorem dX1_comeTo_20 : decode cX1_comeTo 20 = .ok (.invokevirtual 59, 3) := by decide +kernel
theorem dX1_comeTo_23 : decode cX1_comeTo 23 = .ok (.aload_n 0, 1) := by decide +kernel
theorem dX1_comeTo_24 : decode cX1_comeTo 24 = .ok (.getfield 18, 3) := by decide +kernel
theorem dX1_comeTo_27 : decode cX1_comeTo 27 = .ok (.ifCond .lt 57, 3) := by decide +kernel
theorem dX1_comeTo_30 : decode cX1_comeTo 30 = .ok (.aload_n 0, 1) := by decide +kernel
theorem dX1_comeTo_31 : decode cX1_comeTo 31 = .ok (.getfield 18, 3) := by decide +kernel
theorem dX1_comeTo_34 : decode cX1_comeTo 34 = .ok (.aload_n 0, 1) := by decide +kernel
theorem dX1_comeTo_35 : decode cX1_comeTo 35 = .ok (.getfield 9, 3) := by decide +kernel
theorem dX1_comeTo_38 : decode cX1_comeTo 38 = .ok (.arraylength, 1) := by decide +kernel
theorem dX1_comeTo_39 : decode cX1_comeTo 39 = .ok (.if_icmp .ge 45, 3) := by decide +kernel
theorem dX1_comeTo_42 : decode cX1_comeTo 42 = .ok (.aload_n 0, 1) := by decide +kernel
theorem dX1_comeTo_43 : decode cX1_comeTo 43 = .ok (.getfield 18, 3) := by decide +kernel
theorem dX1_comeTo_46 : decode cX1_comeTo 46 = .ok (.aload_n 0, 1) := by decide +kernel
theorem dX1_comeTo_47 : decode cX1_comeTo 47 = .ok (.getfield 15, 3) := by decide +kernel
theorem dX1_comeTo_50 : decode cX1_comeTo 50 = .ok (.arraylength, 1) := by decide +kernel
theorem dX1_comeTo_51 : decode cX1_comeTo 51 = .ok (.if_icmp .ge 33, 3) := by decide +kernel
theorem dX1_comeTo_54 : decode cX1_comeTo 54 = .ok (.aload_n 0, 1) := by decide +kernel
theorem dX1_comeTo_55 : decode cX1_comeTo 55 = .ok (.getfield 9, 3) := by decide +kernel
theorem dX1_comeTo_58 : decode cX1_comeTo 58 = .ok (.aload_n 0, 1) := by decide +kernel
theorem dX1_comeTo_59 : decode cX1_comeTo 59 = .ok (.getfield 18, 3) := by decide +kernel
theorem dX1_comeTo_62 : decode cX1_comeTo 62 = .ok (.iload_n 1, 1) := by decide +kernel
theorem dX1_comeTo_63 : decode cX1_comeTo 63 = .ok (.iastore, 1) := by decide +kernel
theorem dX1_comeTo_64 : decode cX1_comeTo 64 = .ok (.aload_n 0, 1) := by decide +kernel
theorem dX1_comeTo_65 : decode cX1_comeTo 65 = .ok (.getfield 15, 3) := by decide +kernel
theorem dX1_comeTo_68 : decode cX1_comeTo 68 = .ok (.aload_n 0, 1) := by decide +kernel
theorem dX1_comeTo_69 : decode cX1_comeTo 69 = .ok (.getfield 18, 3) := by decide +kernel
theorem dX1_comeTo_72 : decode cX1_comeTo 72 = .ok (.iload_n 2, 1) := by decide +kernel
theorem dX1_comeTo_73 : decode cX1_comeTo 73 = .ok (.iastore, 1) := by decide +kernel
theorem dX1_comeTo_74 : decode cX1_comeTo 74 = .ok (.aload_n 0, 1) := by decide +kernel
theorem dX1_comeTo_75 : decode cX1_comeTo 75 = .ok (.dup, 1) := by decide +kernel
theorem dX1_comeTo_76 : decode cX1_comeTo 76 = .ok (.getfield 18, 3) := by decide +kernel
theorem dX1_comeTo_79 : decode cX1_comeTo 79 = .ok (.iconst 1, 1) := by decide +kernel
theorem dX1_comeTo_80 : decode cX1_comeTo 80 = .ok (.iadd, 1) := by decide +kernel
theorem dX1_comeTo_81 : decode cX1_comeTo 81 = .ok (.putfield 18, 3) := by decide +kernel
theorem dX1_comeTo_84 : decode cX1_comeTo 84 = .ok (.return_, 1) := by decide +kernel
theorem dX1_dropSecondHand_0 : decode cX1_dropSecondHand 0 = .ok (.iconst 2, 1) := by decide +kernel
theorem dX1_dropSecondHand_1 : decode cX1_dropSecondHand 1 = .ok (.istore_n 1, 1) := by decide +kernel
theorem dX1_dropSecondHand_2 : decode cX1_dropSecondHand 2 = .ok (.iload_n 1, 1) := by decide +kernel
theorem dX1_dropSecondHand_3 : decode cX1_dropSecondHand 3 = .ok (.aload_n 0, 1) := by decide +kernel
theorem dX1_dropSecondHand_4 : decode cX1_dropSecondHand 4 = .ok (.getfield 9, 3) := by decide +kernel
theorem dX1_dropSecondHand_7 : decode cX1_dropSecondHand 7 = .ok (.arraylength, 1) := by decide +kernel
theorem dX1_dropSecondHand_8 : decode cX1_dropSecondHand 8 = .ok (.if_icmp .ge 46, 3) := by decide +kernel
theorem dX1_dropSecondHand_11 : decode cX1_dropSecondHand 11 = .ok (.iload_n 1, 1) := by decide +kernel
theorem dX1_dropSecondHand_12 : decode cX1_dropSecondHand 12 = .ok (.aload_n 0, 1) := by decide +kernel
theorem dX1_dropSecondHand_13 : decode cX1_dropSecondHand 13 = .ok (.getfield 15, 3) := by decide +kernel
theorem dX1_dropSecondHand_16 : decode cX1_dropSecondHand 16 = .ok (.arraylength, 1) := by decide +kernel
theorem dX1_dropSecondHand_17 : decode cX1_dropSecondHand 17 = .ok (.if_icmp .ge 37, 3) := by decide +kernel
theorem dX1_dropSecondHand_20 : decode cX1_dropSecondHand 20 = .ok (.aload_n 0, 1) := by decide +kernel
theorem dX1_dropSecondHand_21 : decode cX1_dropSecondHand 21 = .ok (.getfield 9, 3) := by decide +kernel
theorem dX1_dropSecondHand_24 : decode cX1_dropSecondHand 24 = .ok (.iload_n 1, 1) := by decide +kernel
theorem dX1_dropSecondHand_25 : decode cX1_dropSecondHand 25 = .ok (.iconst 1, 1) := by decide +kernel
theorem dX1_dropSecondHand_26 : decode cX1_dropSecondHand 26 = .ok (.isub, 1) := by decide +kernel
theorem dX1_dropSecondHand_27 : decode cX1_dropSecondHand 27 = .ok (.aload_n 0, 1) := by decide +kernel
theorem dX1_dropSecondHand_28 : decode cX1_dropSecondHand 28 = .ok (.getfield 9, 3) := by decide +kernel
theorem dX1_dropSecondHand_31 : decode cX1_dropSecondHand 31 = .ok (.iload_n 1, 1) := by decide +kernel
theorem dX1_dropSecondHand_32 : decode cX1_dropSecondHand 32 = .ok (.iaload, 1) := by decide +kernel
theorem dX1_dropSecondHand_33 : decode cX1_dropSecondHand 33 = .ok (.iastore, 1) := by decide +kernel
theorem dX1_dropSecondHand_34 : decode cX1_dropSecondHand 34 = .ok (.aload_n 0, 1) := by decide +kernel
theorem dX1_dropSecondHand_35 : decode cX1_dropSecondHand 35 = .ok (.getfield 15, 3) := by decide +kernel
theorem dX1_dropSecondHand_38 : decode cX1_dropSecondHand 38 = .ok (.iload_n 1, 1) := by decide +kernel
theorem dX1_dropSecondHand_39 : decode cX1_dropSecondHand 39 = .ok (.iconst 1, 1) := by decide +kernel
theorem dX1_dropSecondHand_40 : decode cX1_dropSecondHand 40 = .ok (.isub, 1) := by decide +kernel
theorem dX1_dropSecondHand_41 : decode cX1_dropSecondHand 41 = .ok (.aload_n 0, 1) := by decide +kernel
theorem dX1_dropSecondHand_42 : decode cX1_dropSecondHand 42 = .ok (.getfield 15, 3) := by decide +kernel
theorem dX1_dropSecondHand_45 : decode cX1_dropSecondHand 45 = .ok (.iload_n 1, 1) := by decide +kernel
theorem dX1_dropSecondHand_46 : decode cX1_dropSecondHand 46 = .ok (.iaload, 1) := by decide +kernel
theorem dX1_dropSecondHand_47 : decode cX1_dropSecondHand 47 = .ok (.iastore, 1) := by decide +kernel
theorem dX1_dropSecondHand_48 : decode cX1_dropSecondHand 48 = .ok (.iinc 1 1, 3) := by decide +kernel
theorem dX1_dropSecondHand_51 : decode cX1_dropSecondHand 51 = .ok (.goto (-49), 3) := by decide +kernel
theorem dX1_dropSecondHand_54 : decode cX1_dropSecondHand 54 = .ok (.aload_n 0, 1) := by decide +kernel
theorem dX1_dropSecondHand_55 : decode cX1_dropSecondHand 55 = .ok (.bipush 11, 2) := by decide +kernel
theorem dX1_dropSecondHand_57 : decode cX1_dropSecondHand 57 = .ok (.putfield 18, 3) := by decide +kernel
theorem dX1_dropSecondHand_60 : decode cX1_dropSecondHand 60 = .ok (.return_, 1) := by decide +kernel
theorem dX2_init_0 : decode cX2_init 0 = .ok (.aload_n 0, 1) := by decide +kernel
theorem dX2_init_1 : decode cX2_init 1 = .ok (.invokespecial 3, 3) := by decide +kernel
theorem dX2_init_4 : decode cX2_init 4 = .ok (.aload_n 0, 1) := by decide +kernel
theorem dX2_init_5 : decode cX2_init 5 = .ok (.bipush 24, 2) := by decide +kernel
theorem dX2_init_7 : decode cX2_init 7 = .ok (.newarray .int, 2) := by decide +kernel
theorem dX2_init_9 : decode cX2_init 9 = .ok (.putfield 9, 3) := by decide +kernel
theorem dX2_init_12 : decode cX2_init 12 = .ok (.aload_n 0, 1) := by decide +kernel
theorem dX2_init_13 : decode cX2_init 13 = .ok (.bipush 8, 2) := by decide +kernel
theorem dX2_init_15 : decode cX2_init 15 = .ok (.newarray .int, 2) := by decide +kernel
theorem dX2_init_17 : decode cX2_init 17 = .ok (.putfield 13, 3) := by decide +kernel
theorem dX2_init_20 : decode cX2_init 20 = .ok (.aload_n 0, 1) := by decide +kernel
theorem dX2_init_21 : decode cX2_init 21 = .ok (.iconst 4, 1) := by decide +kernel
theorem dX2_init_22 : decode cX2_init 22 = .ok (.newarray .int, 2) := by decide +kernel
theorem dX2_init_24 : decode cX2_init 24 = .ok (.putfield 16, 3) := by decide +kernel
theorem dX2_init_27 : decode cX2_init 27 = .ok (.aload_n 0, 1) := by decide +kernel
theorem dX2_init_28 : decode cX2_init 28 = .ok (.bipush 8, 2) := by decide +kernel
theorem dX2_init_30 : decode cX2_init 30 = .ok (.newarray .int, 2) := by decide +kernel
theorem dX2_init_32 : decode cX2_init 32 = .ok (.putfield 19, 3) := by decide +kernel
theorem dX2_init_35 : decode cX2_init 35 = .ok (.aload_n 0, 1) := by decide +kernel
theorem dX2_init_36 : decode cX2_init 36 = .ok (.bipush 8, 2) := by decide +kernel
theorem dX2_init_38 : decode cX2_init 38 = .ok (.newarray .int, 2) := by decide +kernel
theorem dX2_init_40 : decode cX2_init 40 = .ok (.putfield 22, 3) := by decide +kernel
theorem dX2_init_43 : decode cX2_init 43 = .ok (.aload_n 0, 1) := by decide +kernel
theorem dX2_init_44 : decode cX2_init 44 = .ok (.bipush 30, 2) := by decide +kernel
theorem dX2_init_46 : decode cX2_init 46 = .ok (.anewarray 25, 3) := by decide +kernel
theorem dX2_init_49 : decode cX2_init 49 = .ok (.putfield 27, 3) := by decide +kernel
theorem dX2_init_52 : decode cX2_init 52 = .ok (.aload_n 0, 1) := by decide +kernel
theorem dX2_init_53 : decode cX2_init 53 = .ok (.bipush 20, 2) := by decide +kernel
theorem dX2_init_55 : decode cX2_init 55 = .ok (.anewarray 31, 3) := by decide +kernel
theorem dX2_init_58 : decode cX2_init 58 = .ok (.putfield 33, 3) := by decide +kernel
theorem dX2_init_61 : decode cX2_init 61 = .ok (.aload_n 0, 1) := by decide +kernel
theorem dX2_init_62 : decode cX2_init 62 = .ok (.bipush 30, 2) := by decide +kernel
theorem dX2_init_64 : decode cX2_init 64 = .ok (.newarray .int, 2) := by decide +kernel
theorem dX2_init_66 : decode cX2_init 66 = .ok (.putfield 37, 3) := by decide +kernel
theorem dX2_init_69 : decode cX2_init 69 = .ok (.aload_n 0, 1) := by decide +kernel
theorem dX2_init_70 : decode cX2_init 70 = .ok (.iconst 0, 1) := by decide +kernel
theorem dX2_init_71 : decode cX2_init 71 = .ok (.putfield 40, 3) := by decide +kernel
theorem dX2_init_74 : decode cX2_init 74 = .ok (.aload_n 0, 1) := by decide +kernel
theorem dX2_init_75 : decode cX2_init 75 = .ok (.iconst 0, 1) := by decide +kernel
theorem dX2_init_76 : decode cX2_init 76 = .ok (.putfield 44, 3) := by decide +kernel
theorem dX2_init_79 : decode cX2_init 79 = .ok (.aload_n 0, 1) := by decide +kernel
theorem dX2_init_80 : decode cX2_init 80 = .ok (.iconst 0, 1) := by decide +kernel
theorem dX2_init_81 : decode cX2_init 81 = .ok (.putfield 47, 3) := by decide +kernel
theorem dX2_init_84 : decode cX2_init 84 = .ok (.aload_n 0, 1) := by decide +kernel
theorem dX2_init_85 : decode cX2_init 85 = .ok (.bipush 50, 2) := by decide +kernel
theorem dX2_init_87 : decode cX2_init 87 = .ok (.putfield 50, 3) := by decide +kernel
theorem dX2_init_90 : decode cX2_init 90 = .ok (.aload_n 0, 1) := by decide +kernel
theorem dX2_init_91 : decode cX2_init 91 = .ok (.iconst 0, 1) := by decide +kernel
theorem dX2_init_92 : decode cX2_init 92 = .ok (.putfield 53, 3) := by decide +kernel
theorem dX2_init_95 : decode cX2_init 95 = .ok (.aload_n 0, 1) := by decide +kernel
theorem dX2_init_96 : decode cX2_init 96 = .ok (.iconst 0, 1) := by decide +kernel
theorem dX2_init_97 : decode cX2_init 97 = .ok (.putfield 56, 3) := by decide +kernel
theorem dX2_init_100 : decode cX2_init 100 = .ok (.aload_n 0, 1) := by decide +kernel
theorem dX2_init_101 : decode cX2_init 101 = .ok (.iconst 0, 1) := by decide +kernel
theorem dX2_init_102 : decode cX2_init 102 = .ok (.putfield 59, 3) := by decide +kernel
theorem dX2_init_105 : decode cX2_init 105 = .ok (.iconst 0, 1) := by decide +kernel
theorem dX2_init_106 : decode cX2_init 106 = .ok (.istore_n 1, 1) := by decide +kernel
theorem dX2_init_107 : decode cX2_init 107 = .ok (.iload_n 1, 1) := by decide +kernel
theorem dX2_init_108 : decode cX2_init 108 = .ok (.aload_n 0, 1) := by decide +kernel
theorem dX2_init_109 : decode cX2_init 109 = .ok (.getfield 19, 3) := by decide +kernel
theorem dX2_init_112 : decode cX2_init 112 = .ok (.arraylength, 1) := by decide +kernel
theorem dX2_init_113 : decode cX2_init 113 = .ok (.if_icmp .ge 17, 3) := by decide +kernel
theorem dX2_init_116 : decode cX2_init 116 = .ok (.aload_n 0, 1) := by decide +kernel
theorem dX2_init_117 : decode cX2_init 117 = .ok (.getfield 19, 3) := by decide +kernel
theorem dX2_init_120 : decode cX2_init 120 = .ok (.iload_n 1, 1) := by decide +kernel
theorem dX2_init_121 : decode cX2_init 121 = .ok (.bipush 60, 2) := by decide +kernel
theorem dX2_init_123 : decode cX2_init 123 = .ok (.iastore, 1) := by decide +kernel
theorem dX2_init_124 : decode cX2_init 124 = .ok (.iinc 1 1, 3) := by decide +kernel
theorem dX2_init_127 : decode cX2_init 127 = .ok (.goto (-20), 3) := by decide +kernel
theorem dX2_init_130 : decode cX2_init 130 = .ok (.return_, 1) := by decide +kernel
set_option maxRecDepth 20000 in
theorem ggX2_near_X2_turned : GoodIn wsX2_near wsX2_turned := goodIn_ca (goodIn_ca (goodIn_r _ [5, 6, 7, 8, 9] (by decide +kernel) (by decide +kernel)) (goodIn_sub (fun _ h => List.mem_cons_of_mem _ (List.mem_append_left _ (List.mem_append_right _ h))) (by decide +kernel))) (goodIn_sub (fun _ h => List.mem_cons_of_mem _ (List.mem_append_right _ h)) (by decide +kernel))
set_option maxRecDepth 20000 in
theorem gX2_near_X2_turned : GoodIn wsX2_near (va_wsS RX2 62 yX2_turned wsX2_turned) := goodIn_app (goodIn_of _ (by decide +kernel)) ggX2_near_X2_turned
theorem dX2_near_0 : decode cX2_near 0 = .ok (.aload_n 0, 1) := by decide +kernel
theorem dX2_near_1 : decode cX2_near 1 = .ok (.getfield 9, 3) := by decide +kernel
theorem dX2_near_4 : decode cX2_near 4 = .ok (.iload_n 1, 1) := by decide +kernel
theorem dX2_near_5 : decode cX2_near 5 = .ok (.iload_n 2, 1) := by decide +kernel
theorem dX2_near_6 : decode cX2_near 6 = .ok (.invokestatic 62, 3) := by decide +kernel
theorem dX2_near_9 : decode cX2_near 9 = .ok (.ireturn, 1) := by decide +kernel
set_option maxRecDepth 20000 in
theorem ggX2_alike_X2_turned : GoodIn wsX2_alike wsX2_turned := goodIn_ca (goodIn_ca (goodIn_r _ [5, 6, 7, 8, 9] (by decide +kernel) (by decide +kernel)) (goodIn_sub (fun _ h => List.mem_cons_of_mem _ (List.mem_append_left _ (List.mem_append_right _ h))) (by decide +kernel))) (goodIn_sub (fun _ h => List.mem_cons_of_mem _ (List.mem_append_right _ h)) (by decide +kernel))
set_option maxRecDepth 20000 in
theorem gX2_alike_X2_turned : GoodIn wsX2_alike (va_wsS RX2 62 yX2_turned wsX2_turned) := goodIn_app (goodIn_of _ (by decide +kernel)) ggX2_alike_X2_turned
theorem dX2_alike_0 : decode cX2_alike 0 = .ok (.aload_n 0, 1) := by decide +kernel
theorem dX2_alike_1 : decode cX2_alike 1 = .ok (.getfield 13, 3) := by decide +kernel
theorem dX2_alike_4 : decode cX2_alike 4 = .ok (.iload_n 1, 1) := by decide +kernel
theorem dX2_alike_5 : decode cX2_alike 5 = .ok (.iload_n 2, 1) := by decide +kernel
theorem dX2_alike_6 : decode cX2_alike 6 = .ok (.invokestatic 62, 3) := by decide +kernel
theorem dX2_alike_9 : decode cX2_alike 9 = .ok (.ireturn, 1) := by decide +kernel
set_option maxRecDepth 20000 in
theorem ggX2_rule_X2_isWithin : GoodIn wsX2_rule wsX2_isWithin := goodIn_r _ [10] (by decide +kernel) (by decide +kernel)
set_option maxRecDepth 20000 in
theorem gX2_rule_X2_isWithin : GoodIn wsX2_rule (va_wsS RX2 73 yX2_isWithin wsX2_isWithin) := goodIn_app (goodIn_of _ (by decide +kernel)) ggX2_rule_X2_isWithin
theorem dX2_rule_0 : decode cX2_rule 0 = .ok (.iload_n 1, 1) := by decide +kernel
theorem dX2_rule_1 : decode cX2_rule 1 = .ok (.ifCond .lt 21, 3) := by decide +kernel
theorem dX2_rule_4 : decode cX2_rule 4 = .ok (.iload_n 1, 1) := by decide +kernel
theorem dX2_rule_5 : decode cX2_rule 5 = .ok (.aload_n 0, 1) := by decide +kernel
theorem dX2_rule_6 : decode cX2_rule 6 = .ok (.getfield 19, 3) := by decide +kernel
theorem dX2_rule_9 : decode cX2_rule 9 = .ok (.arraylength, 1) := by decide +kernel
theorem dX2_rule_10 : decode cX2_rule 10 = .ok (.if_icmp .ge 12, 3) := by decide +kernel
theorem dX2_rule_13 : decode cX2_rule 13 = .ok (.iload_n 1, 1) := by decide +kernel
theorem dX2_rule_14 : decode cX2_rule 14 = .ok (.aload_n 0, 1) := by decide +kernel
theorem dX2_rule_15 : decode cX2_rule 15 = .ok (.getfield 22, 3) := by decide +kernel
theorem dX2_rule_18 : decode cX2_rule 18 = .ok (.arraylength, 1) := by decide +kernel
theorem dX2_rule_19 : decode cX2_rule 19 = .ok (.if_icmp .lt 13, 3) := by decide +kernel
theorem dX2_rule_22 : decode cX2_rule 22 = .ok (.new 66, 3) := by decide +kernel
theorem dX2_rule_25 : decode cX2_rule 25 = .ok (.dup, 1) := by decide +kernel
theorem dX2_rule_26 : decode cX2_rule 26 = .ok (.ldc 68, 2) := by decide +kernel
theorem dX2_rule_28 : decode cX2_rule 28 = .ok (.invokespecial 70, 3) := by decide +kernel
theorem dX2_rule_31 : decode cX2_rule 31 = .ok (.athrow, 1) := by decide +kernel
theorem dX2_rule_32 : decode cX2_rule 32 = .ok (.iload_n 2, 1) := by decide +kernel
theorem dX2_rule_33 : decode cX2_rule 33 = .ok (.iconst 1, 1) := by decide +kernel
theorem dX2_rule_34 : decode cX2_rule 34 = .ok (.sipush 400, 3) := by decide +kernel
theorem dX2_rule_37 : decode cX2_rule 37 = .ok (.invokestatic 73, 3) := by decide +kernel
theorem dX2_rule_40 : decode cX2_rule 40 = .ok (.ifCond .ne 13, 3) := by decide +kernel
theorem dX2_rule_43 : decode cX2_rule 43 = .ok (.new 77, 3) := by decide +kernel
theorem dX2_rule_46 : decode cX2_rule 46 = .ok (.dup, 1) := by decide +kernel
theorem dX2_rule_47 : decode cX2_rule 47 = .ok (.ldc 79, 2) := by decide +kernel
theorem dX2_rule_49 : decode cX2_rule 49 = .ok (.invokespecial 81, 3) := by decide +kernel
theorem dX2_rule_52 : decode cX2_rule 52 = .ok (.athrow, 1) := by decide +kernel
theorem dX2_rule_53 : decode cX2_rule 53 = .ok (.iload_n 3, 1) := by decide +kernel
theorem dX2_rule_54 : decode cX2_rule 54 = .ok (.iconst 0, 1) := by decide +kernel
theorem dX2_rule_55 : decode cX2_rule 55 = .ok (.bipush 50, 2) := by decide +kernel
theorem dX2_rule_57 : decode cX2_rule 57 = .ok (.invokestatic 73, 3) := by decide +kernel
theorem dX2_rule_60 : decode cX2_rule 60 = .ok (.ifCond .ne 13, 3) := by decide +kernel
theorem dX2_rule_63 : decode cX2_rule 63 = .ok (.new 77, 3) := by decide +kernel
theorem dX2_rule_66 : decode cX2_rule 66 = .ok (.dup, 1) := by decide +kernel
theorem dX2_rule_67 : decode cX2_rule 67 = .ok (.ldc 82, 2) := by decide +kernel
theorem dX2_rule_69 : decode cX2_rule 69 = .ok (.invokespecial 81, 3) := by decide +kernel
theorem dX2_rule_72 : decode cX2_rule 72 = .ok (.athrow, 1) := by decide +kernel
theorem dX2_rule_73 : decode cX2_rule 73 = .ok (.aload_n 0, 1) := by decide +kernel
theorem dX2_rule_74 : decode cX2_rule 74 = .ok (.getfield 19, 3) := by decide +kernel
theorem dX2_rule_77 : decode cX2_rule 77 = .ok (.iload_n 1, 1) := by decide +kernel
theorem dX2_rule_78 : decode cX2_rule 78 = .ok (.iaload, 1) := by decide +kernel
theorem dX2_rule_79 : decode cX2_rule 79 = .ok (.istore 4, 2) := by decide +kernel
theorem dX2_rule_81 : decode cX2_rule 81 = .ok (.aload_n 0, 1) := by decide +kernel
theorem dX2_rule_82 : decode cX2_rule 82 = .ok (.getfield 19, 3) := by decide +kernel
theorem dX2_rule_85 : decode cX2_rule 85 = .ok (.iload_n 1, 1) := by decide +kernel
theorem dX2_rule_86 : decode cX2_rule 86 = .ok (.iload_n 2, 1) := by decide +kernel
theorem dX2_rule_87 : decode cX2_rule 87 = .ok (.iastore, 1) := by decide +kernel
theorem dX2_rule_88 : decode cX2_rule 88 = .ok (.aload_n 0, 1) := by decide +kernel
theorem dX2_rule_89 : decode cX2_rule 89 = .ok (.getfield 22, 3) := by decide +kernel
theorem dX2_rule_92 : decode cX2_rule 92 = .ok (.iload_n 1, 1) := by decide +kernel
theorem dX2_rule_93 : decode cX2_rule 93 = .ok (.iload_n 3, 1) := by decide +kernel
theorem dX2_rule_94 : decode cX2_rule 94 = .ok (.iastore, 1) := by decide +kernel
theorem dX2_rule_95 : decode cX2_rule 95 = .ok (.iload 4, 2) := by decide +kernel
theorem dX2_rule_97 : decode cX2_rule 97 = .ok (.ireturn, 1) := by decide +kernel
set_option maxRecDepth 20000 in
theorem ggX2_stop_X2_requireRoom : GoodIn wsX2_stop wsX2_requireRoom := goodIn_ca (goodIn_r _ [9, 1, 2, 10, 11, 8, 12] (by decide +kernel) (by decide +kernel)) (goodIn_sub (fun _ h => List.mem_cons_of_mem _ (List.mem_append_left _ (List.mem_append_right _ h))) (by decide +kernel))
set_option maxRecDepth 20000 in
theorem gX2_stop_X2_requireRoom : GoodIn wsX2_stop (va_wsS RX2 86 yX2_requireRoom wsX2_requireRoom) := goodIn_app (goodIn_of _ (by decide +kernel)) ggX2_stop_X2_requireRoom
set_option maxRecDepth 20000 in
theorem ggX2_stop_J6_bitCount_0f7a4 : GoodIn wsX2_stop wsJ6_bitCount_0f7a4 := goodIn_r _ [16, 17, 18, 19] (by decide +kernel) (by decide +kernel)
set_option maxRecDepth 20000 in
theorem gX2_stop_J6_bitCount_0f7a4 : GoodIn wsX2_stop (va_wsS RX2 95 yJ6_bitCount_0f7a4 wsJ6_bitCount_0f7a4) := goodIn_app (goodIn_of _ (by decide +kernel)) ggX2_stop_J6_bitCount_0f7a4
theorem dX2_stop_0 : decode cX2_stop 0 = .ok (.iload_n 1, 1) := by decide +kernel
theorem dX2_stop_1 : decode cX2_stop 1 = .ok (.ifCond .lt 12, 3) := by decide +kernel
theorem dX2_stop_4 : decode cX2_stop 4 = .ok (.iload_n 1, 1) := by decide +kernel
theorem dX2_stop_5 : decode cX2_stop 5 = .ok (.aload_n 0, 1) := by decide +kernel
theorem dX2_stop_6 : decode cX2_stop 6 = .ok (.getfield 16, 3) := by decide +kernel
theorem dX2_stop_9 : decode cX2_stop 9 = .ok (.arraylength, 1) := by decide +kernel
theorem dX2_stop_10 : decode cX2_stop 10 = .ok (.if_icmp .lt 13, 3) := by decide +kernel
theorem dX2_stop_13 : decode cX2_stop 13 = .ok (.new 66, 3) := by decide +kernel
theorem dX2_stop_16 : decode cX2_stop 16 = .ok (.dup, 1) := by decide +kernel
theorem dX2_stop_17 : decode cX2_stop 17 = .ok (.ldc 84, 2) := by decide +kernel
theorem dX2_stop_19 : decode cX2_stop 19 = .ok (.invokespecial 70, 3) := by decide +kernel
theorem dX2_stop_22 : decode cX2_stop 22 = .ok (.athrow, 1) := by decide +kernel
theorem dX2_stop_23 : decode cX2_stop 23 = .ok (.iload_n 2, 1) := by decide +kernel
theorem dX2_stop_24 : decode cX2_stop 24 = .ok (.invokestatic 86, 3) := by decide +kernel
theorem dX2_stop_27 : decode cX2_stop 27 = .ok (.iconst 1, 1) := by decide +kernel
theorem dX2_stop_28 : decode cX2_stop 28 = .ok (.iload_n 2, 1) := by decide +kernel
theorem dX2_stop_29 : decode cX2_stop 29 = .ok (.ishl, 1) := by decide +kernel
theorem dX2_stop_30 : decode cX2_stop 30 = .ok (.istore_n 3, 1) := by decide +kernel
theorem dX2_stop_31 : decode cX2_stop 31 = .ok (.aload_n 0, 1) := by decide +kernel
theorem dX2_stop_32 : decode cX2_stop 32 = .ok (.getfield 16, 3) := by decide +kernel
theorem dX2_stop_35 : decode cX2_stop 35 = .ok (.iload_n 1, 1) := by decide +kernel
theorem dX2_stop_36 : decode cX2_stop 36 = .ok (.iaload, 1) := by decide +kernel
theorem dX2_stop_37 : decode cX2_stop 37 = .ok (.iload_n 3, 1) := by decide +kernel
theorem dX2_stop_38 : decode cX2_stop 38 = .ok (.iand, 1) := by decide +kernel
theorem dX2_stop_39 : decode cX2_stop 39 = .ok (.ifCond .eq 13, 3) := by decide +kernel
theorem dX2_stop_42 : decode cX2_stop 42 = .ok (.new 90, 3) := by decide +kernel
theorem dX2_stop_45 : decode cX2_stop 45 = .ok (.dup, 1) := by decide +kernel
theorem dX2_stop_46 : decode cX2_stop 46 = .ok (.ldc 92, 2) := by decide +kernel
theorem dX2_stop_48 : decode cX2_stop 48 = .ok (.invokespecial 94, 3) := by decide +kernel
theorem dX2_stop_51 : decode cX2_stop 51 = .ok (.athrow, 1) := by decide +kernel
theorem dX2_stop_52 : decode cX2_stop 52 = .ok (.aload_n 0, 1) := by decide +kernel
theorem dX2_stop_53 : decode cX2_stop 53 = .ok (.getfield 16, 3) := by decide +kernel
theorem dX2_stop_56 : decode cX2_stop 56 = .ok (.iload_n 1, 1) := by decide +kernel
theorem dX2_stop_57 : decode cX2_stop 57 = .ok (.dup2, 1) := by decide +kernel
theorem dX2_stop_58 : decode cX2_stop 58 = .ok (.iaload, 1) := by decide +kernel
theorem dX2_stop_59 : decode cX2_stop 59 = .ok (.iload_n 3, 1) := by decide +kernel
theorem dX2_stop_60 : decode cX2_stop 60 = .ok (.ior, 1) := by decide +kernel
theorem dX2_stop_61 : decode cX2_stop 61 = .ok (.iastore, 1) := by decide +kernel
theorem dX2_stop_62 : decode cX2_stop 62 = .ok (.aload_n 0, 1) := by decide +kernel
theorem dX2_stop_63 : decode cX2_stop 63 = .ok (.getfield 16, 3) := by decide +kernel
theorem dX2_stop_66 : decode cX2_stop 66 = .ok (.iload_n 1, 1) := by decide +kernel
theorem dX2_stop_67 : decode cX2_stop 67 = .ok (.iaload, 1) := by decide +kernel
theorem dX2_stop_68 : decode cX2_stop 68 = .ok (.invokestatic 95, 3) := by decide +kernel
theorem dX2_stop_71 : decode cX2_stop 71 = .ok (.ireturn, 1) := by decide +kernel
set_option maxRecDepth 20000 in
theorem ggX2_threshold_X2_isWithin : GoodIn wsX2_threshold wsX2_isWithin := goodIn_r _ [7] (by decide +kernel) (by decide +kernel)
set_option maxRecDepth 20000 in
theorem gX2_threshold_X2_isWithin : GoodIn wsX2_threshold (va_wsS RX2 73 yX2_isWithin wsX2_isWithin) := goodIn_app (goodIn_of _ (by decide +kernel)) ggX2_threshold_X2_isWithin
theorem dX2_threshold_0 : decode cX2_threshold 0 = .ok (.iload_n 1, 1) := by decide +kernel
theorem dX2_threshold_1 : decode cX2_threshold 1 = .ok (.iconst 1, 1) := by decide +kernel
theorem dX2_threshold_2 : decode cX2_threshold 2 = .ok (.sipush 200, 3) := by decide +kernel
theorem dX2_threshold_5 : decode cX2_threshold 5 = .ok (.invokestatic 73, 3) := by decide +kernel
theorem dX2_threshold_8 : decode cX2_threshold 8 = .ok (.ifCond .ne 13, 3) := by decide +kernel
theorem dX2_threshold_11 : decode cX2_threshold 11 = .ok (.new 77, 3) := by decide +kernel
theorem dX2_threshold_14 : decode cX2_threshold 14 = .ok (.dup, 1) := by decide +kernel
theorem dX2_threshold_15 : decode cX2_threshold 15 = .ok (.ldc 101, 2) := by decide +kernel
theorem dX2_threshold_17 : decode cX2_threshold 17 = .ok (.invokespecial 81, 3) := by decide +kernel
theorem dX2_threshold_20 : decode cX2_threshold 20 = .ok (.athrow, 1) := by decide +kernel
theorem dX2_threshold_21 : decode cX2_threshold 21 = .ok (.aload_n 0, 1) := by decide +kernel
theorem dX2_threshold_22 : decode cX2_threshold 22 = .ok (.getfield 50, 3) := by decide +kernel
theorem dX2_threshold_25 : decode cX2_threshold 25 = .ok (.istore_n 2, 1) := by decide +kernel
theorem dX2_threshold_26 : decode cX2_threshold 26 = .ok (.aload_n 0, 1) := by decide +kernel
theorem dX2_threshold_27 : decode cX2_threshold 27 = .ok (.iload_n 1, 1) := by decide +kernel
theorem dX2_threshold_28 : decode cX2_threshold 28 = .ok (.putfield 50, 3) := by decide +kernel
theorem dX2_threshold_31 : decode cX2_threshold 31 = .ok (.iload_n 2, 1) := by decide +kernel
theorem dX2_threshold_32 : decode cX2_threshold 32 = .ok (.ireturn, 1) := by decide +kernel
set_option maxRecDepth 20000 in
theorem ggX2_find_X2_requireKind : GoodIn wsX2_find wsX2_requireKind := goodIn_ca (goodIn_r _ [15, 16, 17, 18, 19, 14, 20] (by decide +kernel) (by decide +kernel)) (goodIn_sub (fun _ h => List.mem_cons_of_mem _ (List.mem_append_right _ h)) (by decide +kernel))
set_option maxRecDepth 20000 in
theorem gX2_find_X2_requireKind : GoodIn wsX2_find (va_wsS RX2 103 yX2_requireKind wsX2_requireKind) := goodIn_app (goodIn_of _ (by decide +kernel)) ggX2_find_X2_requireKind
set_option maxRecDepth 20000 in
theorem ggX2_find_X2_requirePlace : GoodIn wsX2_find wsX2_requirePlace := goodIn_ca (goodIn_r _ [23, 16, 17, 18, 19, 14, 20] (by decide +kernel) (by decide +kernel)) (goodIn_sub (fun _ h => List.mem_cons_of_mem _ (List.mem_append_right _ h)) (by decide +kernel))
set_option maxRecDepth 20000 in
theorem gX2_find_X2_requirePlace : GoodIn wsX2_find (va_wsS RX2 106 yX2_requirePlace wsX2_requirePlace) := goodIn_app (goodIn_of _ (by decide +kernel)) ggX2_find_X2_requirePlace
set_option maxRecDepth 20000 in
theorem ggX2_find_X2_requireRoom : GoodIn wsX2_find wsX2_requireRoom := goodIn_ca (goodIn_r _ [26, 16, 17, 18, 19, 14, 20] (by decide +kernel) (by decide +kernel)) (goodIn_sub (fun _ h => List.mem_cons_of_mem _ (List.mem_append_right _ h)) (by decide +kernel))
set_option maxRecDepth 20000 in
theorem gX2_find_X2_requireRoom : GoodIn wsX2_find (va_wsS RX2 86 yX2_requireRoom wsX2_requireRoom) := goodIn_app (goodIn_of _ (by decide +kernel)) ggX2_find_X2_requireRoom
set_option maxRecDepth 20000 in
theorem ggX2_find_X2_isWithin : GoodIn wsX2_find wsX2_isWithin := goodIn_r _ [20] (by decide +kernel) (by decide +kernel)
set_option maxRecDepth 20000 in
theorem gX2_find_X2_isWithin : GoodIn wsX2_find (va_wsS RX2 73 yX2_isWithin wsX2_isWithin) := goodIn_app (goodIn_of _ (by decide +kernel)) ggX2_find_X2_isWithin
set_option maxRecDepth 20000 in
theorem ggX2_find_X2_requireWords : GoodIn wsX2_find wsX2_requireWords := goodIn_ca (goodIn_r _ [29, 1, 2, 30, 18, 19, 14, 20] (by decide +kernel) (by decide +kernel)) (goodIn_sub (fun _ h => List.mem_cons_of_mem _ (List.mem_append_left _ (List.mem_append_left _ (List.mem_append_right _ h)))) (by decide +kernel))
set_option maxRecDepth 20000 in
theorem gX2_find_X2_requireWords : GoodIn wsX2_find (va_wsS RX2 113 yX2_requireWords wsX2_requireWords) := goodIn_app (goodIn_of _ (by decide +kernel)) ggX2_find_X2_requireWords
set_option maxRecDepth 20000 in
theorem ggX2_find_X1_init : GoodIn wsX2_find wsX1_init := goodIn_r _ [33, 34, 35, 36, 37, 38, 39, 40, 41, 42, 43, 44, 45, 46, 47, 48, 49, 50, 51, 52, 81, 82, 83, 84, 85, 86, 87, 88, 89, 90, 91, 92, 93, 94, 95] (by decide +kernel) (by decide +kernel)
set_option maxRecDepth 20000 in
theorem gX2_find_X1_init : GoodIn wsX2_find (wsX1_init) := ggX2_find_X1_init
set_option maxRecDepth 20000 in
theorem ggX2_find_X2_termOf : GoodIn wsX2_find wsX2_termOf := goodIn_r _ [56, 57, 66, 67, 68, 69, 70, 71, 72, 73, 74, 75, 76, 77, 78, 79, 80] (by decide +kernel) (by decide +kernel)
set_option maxRecDepth 20000 in
theorem gX2_find_X2_termOf : GoodIn wsX2_find (wsV RX2 123 RX2 yX2_termOf wsX2_termOf) := goodIn_app (goodIn_of _ (by decide +kernel)) ggX2_find_X2_termOf
set_option maxRecDepth 20000 in
theorem ggX2_find_X1_comeTo : GoodIn wsX2_find wsX1_comeTo := goodIn_r _ [61, 41, 42, 40, 38, 39, 62, 63, 64, 10, 65, 81, 82, 83, 84, 85, 86, 87, 88, 89, 90, 91, 92, 93, 94, 95] (by decide +kernel) (by decide +kernel)
set_option maxRecDepth 20000 in
theorem gX2_find_X1_comeTo : GoodIn wsX2_find (wsV RX2 129 RX1 yX1_comeTo wsX1_comeTo) := goodIn_app (goodIn_of _ (by decide +kernel)) ggX2_find_X1_comeTo
theorem dX2_find_0 : decode cX2_find 0 = .ok (.iload_n 1, 1) := by decide +kernel
theorem dX2_find_1 : decode cX2_find 1 = .ok (.invokestatic 103, 3) := by decide +kernel
theorem dX2_find_4 : decode cX2_find 4 = .ok (.iload_n 2, 1) := by decide +kernel
theorem dX2_find_5 : decode cX2_find 5 = .ok (.invokestatic 106, 3) := by decide +kernel
theorem dX2_find_8 : decode cX2_find 8 = .ok (.iload 7, 2) := by decide +kernel
theorem dX2_find_10 : decode cX2_find 10 = .ok (.invokestatic 86, 3) := by decide +kernel
theorem dX2_find_13 : decode cX2_find 13 = .ok (.iload_n 3, 1) := by decide +kernel
theorem dX2_find_14 : decode cX2_find 14 = .ok (.iconst 0, 1) := by decide +kernel
theorem dX2_find_15 : decode cX2_find 15 = .ok (.aload_n 0, 1) := by decide +kernel
theorem dX2_find_16 : decode cX2_find 16 = .ok (.getfield 47, 3) := by decide +kernel
theorem dX2_find_19 : decode cX2_find 19 = .ok (.invokestatic 73, 3) := by decide +kernel
theorem dX2_find_22 : decode cX2_find 22 = .ok (.ifCond .ne 13, 3) := by decide +kernel
theorem dX2_find_25 : decode cX2_find 25 = .ok (.new 77, 3) := by decide +kernel
theorem dX2_find_28 : decode cX2_find 28 = .ok (.dup, 1) := by decide +kernel
theorem dX2_find_29 : decode cX2_find 29 = .ok (.ldc 109, 2) := by decide +kernel
theorem dX2_find_31 : decode cX2_find 31 = .ok (.invokespecial 81, 3) := by decide +kernel
theorem dX2_find_34 : decode cX2_find 34 = .ok (.athrow, 1) := by decide +kernel
theorem dX2_find_35 : decode cX2_find 35 = .ok (.iload 6, 2) := by decide +kernel
theorem dX2_find_37 : decode cX2_find 37 = .ok (.iconst 0, 1) := by decide +kernel
theorem dX2_find_38 : decode cX2_find 38 = .ok (.sipush 9999, 3) := by decide +kernel
theorem dX2_find_41 : decode cX2_find 41 = .ok (.invokestatic 73, 3) := by decide +kernel
theorem dX2_find_44 : decode cX2_find 44 = .ok (.ifCond .ne 13, 3) := by decide +kernel
theorem dX2_find_47 : decode cX2_find 47 = .ok (.new 77, 3) := by decide +kernel
theorem dX2_find_50 : decode cX2_find 50 = .ok (.dup, 1) := by decide +kernel
theorem dX2_find_51 : decode cX2_find 51 = .ok (.ldc 111, 2) := by decide +kernel
theorem dX2_find_53 : decode cX2_find 53 = .ok (.invokespecial 81, 3) := by decide +kernel
theorem dX2_find_56 : decode cX2_find 56 = .ok (.athrow, 1) := by decide +kernel
theorem dX2_find_57 : decode cX2_find 57 = .ok (.iload 4, 2) := by decide +kernel
theorem dX2_find_59 : decode cX2_find 59 = .ok (.invokestatic 113, 3) := by decide +kernel
theorem dX2_find_62 : decode cX2_find 62 = .ok (.iload 5, 2) := by decide +kernel
theorem dX2_find_64 : decode cX2_find 64 = .ok (.invokestatic 113, 3) := by decide +kernel
theorem dX2_find_67 : decode cX2_find 67 = .ok (.iload 4, 2) := by decide +kernel
theorem dX2_find_69 : decode cX2_find 69 = .ok (.iload 5, 2) := by decide +kernel
theorem dX2_find_71 : decode cX2_find 71 = .ok (.iand, 1) := by decide +kernel
theorem dX2_find_72 : decode cX2_find 72 = .ok (.ifCond .eq 13, 3) := by decide +kernel
theorem dX2_find_75 : decode cX2_find 75 = .ok (.new 77, 3) := by decide +kernel
theorem dX2_find_78 : decode cX2_find 78 = .ok (.dup, 1) := by decide +kernel
theorem dX2_find_79 : decode cX2_find 79 = .ok (.ldc 116, 2) := by decide +kernel
theorem dX2_find_81 : decode cX2_find 81 = .ok (.invokespecial 81, 3) := by decide +kernel
theorem dX2_find_84 : decode cX2_find 84 = .ok (.athrow, 1) := by decide +kernel
theorem dX2_find_85 : decode cX2_find 85 = .ok (.aload_n 0, 1) := by decide +kernel
theorem dX2_find_86 : decode cX2_find 86 = .ok (.getfield 40, 3) := by decide +kernel
theorem dX2_find_89 : decode cX2_find 89 = .ok (.istore 8, 2) := by decide +kernel
theorem dX2_find_91 : decode cX2_find 91 = .ok (.iload 8, 2) := by decide +kernel
theorem dX2_find_93 : decode cX2_find 93 = .ok (.ifCond .lt 13, 3) := by decide +kernel
theorem dX2_find_96 : decode cX2_find 96 = .ok (.iload 8, 2) := by decide +kernel
theorem dX2_find_98 : decode cX2_find 98 = .ok (.aload_n 0, 1) := by decide +kernel
theorem dX2_find_99 : decode cX2_find 99 = .ok (.getfield 27, 3) := by decide +kernel
theorem dX2_find_102 : decode cX2_find 102 = .ok (.arraylength, 1) := by decide +kernel
theorem dX2_find_103 : decode cX2_find 103 = .ok (.if_icmp .lt 13, 3) := by decide +kernel
theorem dX2_find_106 : decode cX2_find 106 = .ok (.new 90, 3) := by decide +kernel
theorem dX2_find_109 : decode cX2_find 109 = .ok (.dup, 1) := by decide +kernel
theorem dX2_find_110 : decode cX2_find 110 = .ok (.ldc 118, 2) := by decide +kernel
theorem dX2_find_112 : decode cX2_find 112 = .ok (.invokespecial 94, 3) := by decide +kernel
theorem dX2_find_115 : decode cX2_find 115 = .ok (.athrow, 1) := by decide +kernel
theorem dX2_find_116 : decode cX2_find 116 = .ok (.new 25, 3) := by decide +kernel
theorem dX2_find_119 : decode cX2_find 119 = .ok (.dup, 1) := by decide +kernel
theorem dX2_find_120 : decode cX2_find 120 = .ok (.iload_n 1, 1) := by decide +kernel
theorem dX2_find_121 : decode cX2_find 121 = .ok (.iload_n 2, 1) := by decide +kernel
theorem dX2_find_122 : decode cX2_find 122 = .ok (.aload_n 0, 1) := by decide +kernel
theorem dX2_find_123 : decode cX2_find 123 = .ok (.getfield 47, 3) := by decide +kernel
theorem dX2_find_126 : decode cX2_find 126 = .ok (.iload_n 3, 1) := by decide +kernel
theorem dX2_find_127 : decode cX2_find 127 = .ok (.isub, 1) := by decide +kernel
theorem dX2_find_128 : decode cX2_find 128 = .ok (.iload 4, 2) := by decide +kernel
theorem dX2_find_130 : decode cX2_find 130 = .ok (.iload 5, 2) := by decide +kernel
theorem dX2_find_132 : decode cX2_find 132 = .ok (.iload 6, 2) := by decide +kernel
theorem dX2_find_134 : decode cX2_find 134 = .ok (.invokespecial 120, 3) := by decide +kernel
theorem dX2_find_137 : decode cX2_find 137 = .ok (.astore 9, 2) := by decide +kernel
theorem dX2_find_139 : decode cX2_find 139 = .ok (.aload 9, 2) := by decide +kernel
theorem dX2_find_141 : decode cX2_find 141 = .ok (.aload_n 0, 1) := by decide +kernel
theorem dX2_find_142 : decode cX2_find 142 = .ok (.getfield 47, 3) := by decide +kernel
theorem dX2_find_145 : decode cX2_find 145 = .ok (.aload_n 0, 1) := by decide +kernel
theorem dX2_find_146 : decode cX2_find 146 = .ok (.iload_n 1, 1) := by decide +kernel
theorem dX2_find_147 : decode cX2_find 147 = .ok (.invokevirtual 123, 3) := by decide +kernel
theorem dX2_find_150 : decode cX2_find 150 = .ok (.iadd, 1) := by decide +kernel
theorem dX2_find_151 : decode cX2_find 151 = .ok (.putfield 126, 3) := by decide +kernel
theorem dX2_find_154 : decode cX2_find 154 = .ok (.aload 9, 2) := by decide +kernel
theorem dX2_find_156 : decode cX2_find 156 = .ok (.iload 7, 2) := by decide +kernel
theorem dX2_find_158 : decode cX2_find 158 = .ok (.aload_n 0, 1) := by decide +kernel
theorem dX2_find_159 : decode cX2_find 159 = .ok (.getfield 47, 3) := by decide +kernel
theorem dX2_find_162 : decode cX2_find 162 = .ok (.invokevirtual 129, 3) := by decide +kernel
theorem dX2_find_165 : decode cX2_find 165 = .ok (.aload_n 0, 1) := by decide +kernel
theorem dX2_find_166 : decode cX2_find 166 = .ok (.getfield 27, 3) := by decide +kernel
theorem dX2_find_169 : decode cX2_find 169 = .ok (.iload 8, 2) := by decide +kernel
theorem dX2_find_171 : decode cX2_find 171 = .ok (.aload 9, 2) := by decide +kernel
theorem dX2_find_173 : decode cX2_find 173 = .ok (.aastore, 1) := by decide +kernel
theorem dX2_find_174 : decode cX2_find 174 = .ok (.aload_n 0, 1) := by decide +kernel
theorem dX2_find_175 : decode cX2_find 175 = .ok (.iload 8, 2) := by decide +kernel
theorem dX2_find_177 : decode cX2_find 177 = .ok (.iconst 1, 1) := by decide +kernel
theorem dX2_find_178 : decode cX2_find 178 = .ok (.iadd, 1) := by decide +kernel
theorem dX2_find_179 : decode cX2_find 179 = .ok (.putfield 40, 3) := by decide +kernel
theorem dX2_find_182 : decode cX2_find 182 = .ok (.iload 8, 2) := by decide +kernel
theorem dX2_find_184 : decode cX2_find 184 = .ok (.ireturn, 1) := by decide +kernel
set_option maxRecDepth 20000 in
theorem ggX2_see_X2_foundAt : GoodIn wsX2_see wsX2_foundAt := goodIn_ca (goodIn_r _ [12, 13, 14, 15, 45, 46, 47, 48, 49, 50, 51, 52, 53, 54, 55, 56, 57, 58, 59] (by decide +kernel) (by decide +kernel)) (goodIn_sub (fun _ h => List.mem_cons_of_mem _ (List.mem_append_right _ h)) (by decide +kernel))
set_option maxRecDepth 20000 in
theorem gX2_see_X2_foundAt : GoodIn wsX2_see (wsV RX2 133 RX2 yX2_foundAt wsX2_foundAt) := goodIn_app (goodIn_of _ (by decide +kernel)) ggX2_see_X2_foundAt
set_option maxRecDepth 20000 in
theorem ggX2_see_X2_requireWords : GoodIn wsX2_see wsX2_requireWords := goodIn_ca (goodIn_r _ [18, 1, 2, 19, 20, 21, 11, 22] (by decide +kernel) (by decide +kernel)) (goodIn_sub (fun _ h => List.mem_cons_of_mem _ (List.mem_append_left _ (List.mem_append_left _ (List.mem_append_right _ h)))) (by decide +kernel))
set_option maxRecDepth 20000 in
theorem gX2_see_X2_requireWords : GoodIn wsX2_see (va_wsS RX2 113 yX2_requireWords wsX2_requireWords) := goodIn_app (goodIn_of _ (by decide +kernel)) ggX2_see_X2_requireWords
set_option maxRecDepth 20000 in
theorem ggX2_see_J6_bitCount_0f7a4 : GoodIn wsX2_see wsJ6_bitCount_0f7a4 := goodIn_r _ [26, 27, 28, 29] (by decide +kernel) (by decide +kernel)
set_option maxRecDepth 20000 in
theorem gX2_see_J6_bitCount_0f7a4 : GoodIn wsX2_see (va_wsS RX2 95 yJ6_bitCount_0f7a4 wsJ6_bitCount_0f7a4) := goodIn_app (goodIn_of _ (by decide +kernel)) ggX2_see_J6_bitCount_0f7a4
theorem dX2_see_0 : decode cX2_see 0 = .ok (.aload_n 0, 1) := by decide +kernel
theorem dX2_see_1 : decode cX2_see 1 = .ok (.iload_n 1, 1) := by decide +kernel
theorem dX2_see_2 : decode cX2_see 2 = .ok (.invokevirtual 133, 3) := by decide +kernel
theorem dX2_see_5 : decode cX2_see 5 = .ok (.astore_n 3, 1) := by decide +kernel
theorem dX2_see_6 : decode cX2_see 6 = .ok (.iload_n 2, 1) := by decide +kernel
theorem dX2_see_7 : decode cX2_see 7 = .ok (.invokestatic 113, 3) := by decide +kernel
theorem dX2_see_10 : decode cX2_see 10 = .ok (.iload_n 2, 1) := by decide +kernel
theorem dX2_see_11 : decode cX2_see 11 = .ok (.aload_n 3, 1) := by decide +kernel
theorem dX2_see_12 : decode cX2_see 12 = .ok (.getfield 137, 3) := by decide +kernel
theorem dX2_see_15 : decode cX2_see 15 = .ok (.iand, 1) := by decide +kernel
theorem dX2_see_16 : decode cX2_see 16 = .ok (.ifCond .eq 13, 3) := by decide +kernel
theorem dX2_see_19 : decode cX2_see 19 = .ok (.new 77, 3) := by decide +kernel
theorem dX2_see_22 : decode cX2_see 22 = .ok (.dup, 1) := by decide +kernel
theorem dX2_see_23 : decode cX2_see 23 = .ok (.ldc 140, 2) := by decide +kernel
theorem dX2_see_25 : decode cX2_see 25 = .ok (.invokespecial 81, 3) := by decide +kernel
theorem dX2_see_28 : decode cX2_see 28 = .ok (.athrow, 1) := by decide +kernel
theorem dX2_see_29 : decode cX2_see 29 = .ok (.aload_n 3, 1) := by decide +kernel
theorem dX2_see_30 : decode cX2_see 30 = .ok (.getfield 142, 3) := by decide +kernel
theorem dX2_see_33 : decode cX2_see 33 = .ok (.ifCond .eq 13, 3) := by decide +kernel
theorem dX2_see_36 : decode cX2_see 36 = .ok (.new 90, 3) := by decide +kernel
theorem dX2_see_39 : decode cX2_see 39 = .ok (.dup, 1) := by decide +kernel
theorem dX2_see_40 : decode cX2_see 40 = .ok (.ldc 145, 2) := by decide +kernel
theorem dX2_see_42 : decode cX2_see 42 = .ok (.invokespecial 94, 3) := by decide +kernel
theorem dX2_see_45 : decode cX2_see 45 = .ok (.athrow, 1) := by decide +kernel
theorem dX2_see_46 : decode cX2_see 46 = .ok (.aload_n 3, 1) := by decide +kernel
theorem dX2_see_47 : decode cX2_see 47 = .ok (.dup, 1) := by decide +kernel
theorem dX2_see_48 : decode cX2_see 48 = .ok (.getfield 147, 3) := by decide +kernel
theorem dX2_see_51 : decode cX2_see 51 = .ok (.iload_n 2, 1) := by decide +kernel
theorem dX2_see_52 : decode cX2_see 52 = .ok (.ior, 1) := by decide +kernel
theorem dX2_see_53 : decode cX2_see 53 = .ok (.putfield 147, 3) := by decide +kernel
theorem dX2_see_56 : decode cX2_see 56 = .ok (.aload_n 3, 1) := by decide +kernel
theorem dX2_see_57 : decode cX2_see 57 = .ok (.getfield 147, 3) := by decide +kernel
theorem dX2_see_60 : decode cX2_see 60 = .ok (.invokestatic 95, 3) := by decide +kernel
theorem dX2_see_63 : decode cX2_see 63 = .ok (.ireturn, 1) := by decide +kernel
set_option maxRecDepth 20000 in
theorem ggX2_send_X2_foundAt : GoodIn wsX2_send wsX2_foundAt := goodIn_ca (goodIn_r _ [9, 10, 11, 12, 34, 35, 36, 37, 38, 39, 40, 41, 42, 43, 44, 45, 46, 47, 48] (by decide +kernel) (by decide +kernel)) (goodIn_sub (fun _ h => List.mem_cons_of_mem _ (List.mem_append_right _ h)) (by decide +kernel))
set_option maxRecDepth 20000 in
theorem gX2_send_X2_foundAt : GoodIn wsX2_send (wsV RX2 133 RX2 yX2_foundAt wsX2_foundAt) := goodIn_app (goodIn_of _ (by decide +kernel)) ggX2_send_X2_foundAt
set_option maxRecDepth 20000 in
theorem ggX2_send_X2_requireRoom : GoodIn wsX2_send wsX2_requireRoom := goodIn_ca (goodIn_r _ [15, 10, 11, 16, 17, 8, 18] (by decide +kernel) (by decide +kernel)) (goodIn_sub (fun _ h => List.mem_cons_of_mem _ (List.mem_append_right _ h)) (by decide +kernel))
set_option maxRecDepth 20000 in
theorem gX2_send_X2_requireRoom : GoodIn wsX2_send (va_wsS RX2 86 yX2_requireRoom wsX2_requireRoom) := goodIn_app (goodIn_of _ (by decide +kernel)) ggX2_send_X2_requireRoom
theorem dX2_send_0 : decode cX2_send 0 = .ok (.aload_n 0, 1) := by decide +kernel
theorem dX2_send_1 : decode cX2_send 1 = .ok (.iload_n 1, 1) := by decide +kernel
theorem dX2_send_2 : decode cX2_send 2 = .ok (.invokevirtual 133, 3) := by decide +kernel
theorem dX2_send_5 : decode cX2_send 5 = .ok (.astore_n 3, 1) := by decide +kernel
theorem dX2_send_6 : decode cX2_send 6 = .ok (.iload_n 2, 1) := by decide +kernel
theorem dX2_send_7 : decode cX2_send 7 = .ok (.invokestatic 86, 3) := by decide +kernel
theorem dX2_send_10 : decode cX2_send 10 = .ok (.aload_n 3, 1) := by decide +kernel
theorem dX2_send_11 : decode cX2_send 11 = .ok (.getfield 142, 3) := by decide +kernel
theorem dX2_send_14 : decode cX2_send 14 = .ok (.ifCond .eq 13, 3) := by decide +kernel
theorem dX2_send_17 : decode cX2_send 17 = .ok (.new 90, 3) := by decide +kernel
theorem dX2_send_20 : decode cX2_send 20 = .ok (.dup, 1) := by decide +kernel
theorem dX2_send_21 : decode cX2_send 21 = .ok (.ldc 145, 2) := by decide +kernel
theorem dX2_send_23 : decode cX2_send 23 = .ok (.invokespecial 94, 3) := by decide +kernel
theorem dX2_send_26 : decode cX2_send 26 = .ok (.athrow, 1) := by decide +kernel
theorem dX2_send_27 : decode cX2_send 27 = .ok (.aload_n 3, 1) := by decide +kernel
theorem dX2_send_28 : decode cX2_send 28 = .ok (.getfield 150, 3) := by decide +kernel
theorem dX2_send_31 : decode cX2_send 31 = .ok (.iload_n 2, 1) := by decide +kernel
theorem dX2_send_32 : decode cX2_send 32 = .ok (.if_icmp .ne 13, 3) := by decide +kernel
theorem dX2_send_35 : decode cX2_send 35 = .ok (.new 90, 3) := by decide +kernel
theorem dX2_send_38 : decode cX2_send 38 = .ok (.dup, 1) := by decide +kernel
theorem dX2_send_39 : decode cX2_send 39 = .ok (.ldc 153, 2) := by decide +kernel
theorem dX2_send_41 : decode cX2_send 41 = .ok (.invokespecial 94, 3) := by decide +kernel
theorem dX2_send_44 : decode cX2_send 44 = .ok (.athrow, 1) := by decide +kernel
theorem dX2_send_45 : decode cX2_send 45 = .ok (.aload_n 3, 1) := by decide +kernel
theorem dX2_send_46 : decode cX2_send 46 = .ok (.getfield 150, 3) := by decide +kernel
theorem dX2_send_49 : decode cX2_send 49 = .ok (.istore 4, 2) := by decide +kernel
theorem dX2_send_51 : decode cX2_send 51 = .ok (.aload_n 3, 1) := by decide +kernel
theorem dX2_send_52 : decode cX2_send 52 = .ok (.iconst 1, 1) := by decide +kernel
theorem dX2_send_53 : decode cX2_send 53 = .ok (.putfield 142, 3) := by decide +kernel
theorem dX2_send_56 : decode cX2_send 56 = .ok (.aload_n 3, 1) := by decide +kernel
theorem dX2_send_57 : decode cX2_send 57 = .ok (.iload_n 2, 1) := by decide +kernel
theorem dX2_send_58 : decode cX2_send 58 = .ok (.putfield 150, 3) := by decide +kernel
theorem dX2_send_61 : decode cX2_send 61 = .ok (.iload 4, 2) := by decide +kernel
theorem dX2_send_63 : decode cX2_send 63 = .ok (.ireturn, 1) := by decide +kernel
set_option maxRecDepth 20000 in
theorem ggX2_lose_X2_requireRoom : GoodIn wsX2_lose wsX2_requireRoom := goodIn_ca (goodIn_r _ [7, 8, 9, 10, 11, 6, 12] (by decide +kernel) (by decide +kernel)) (goodIn_sub (fun _ h => List.mem_cons_of_mem _ (List.mem_append_right _ h)) (by decide +kernel))
set_option maxRecDepth 20000 in
theorem gX2_lose_X2_requireRoom : GoodIn wsX2_lose (va_wsS RX2 86 yX2_requireRoom wsX2_requireRoom) := goodIn_app (goodIn_of _ (by decide +kernel)) ggX2_lose_X2_requireRoom
theorem dX2_lose_0 : decode cX2_lose 0 = .ok (.iload_n 1, 1) := by decide +kernel
theorem dX2_lose_1 : decode cX2_lose 1 = .ok (.invokestatic 86, 3) := by decide +kernel
theorem dX2_lose_4 : decode cX2_lose 4 = .ok (.iconst 0, 1) := by decide +kernel
theorem dX2_lose_5 : decode cX2_lose 5 = .ok (.istore_n 2, 1) := by decide +kernel
theorem dX2_lose_6 : decode cX2_lose 6 = .ok (.aload_n 0, 1) := by decide +kernel
theorem dX2_lose_7 : decode cX2_lose 7 = .ok (.getfield 27, 3) := by decide +kernel
theorem dX2_lose_10 : decode cX2_lose 10 = .ok (.astore_n 3, 1) := by decide +kernel
theorem dX2_lose_11 : decode cX2_lose 11 = .ok (.aload_n 3, 1) := by decide +kernel
theorem dX2_lose_12 : decode cX2_lose 12 = .ok (.arraylength, 1) := by decide +kernel
theorem dX2_lose_13 : decode cX2_lose 13 = .ok (.istore 4, 2) := by decide +kernel
theorem dX2_lose_15 : decode cX2_lose 15 = .ok (.iconst 0, 1) := by decide +kernel
theorem dX2_lose_16 : decode cX2_lose 16 = .ok (.istore 5, 2) := by decide +kernel
theorem dX2_lose_18 : decode cX2_lose 18 = .ok (.iload 5, 2) := by decide +kernel
theorem dX2_lose_20 : decode cX2_lose 20 = .ok (.iload 4, 2) := by decide +kernel
theorem dX2_lose_22 : decode cX2_lose 22 = .ok (.if_icmp .ge 47, 3) := by decide +kernel
theorem dX2_lose_25 : decode cX2_lose 25 = .ok (.aload_n 3, 1) := by decide +kernel
theorem dX2_lose_26 : decode cX2_lose 26 = .ok (.iload 5, 2) := by decide +kernel
theorem dX2_lose_28 : decode cX2_lose 28 = .ok (.aaload, 1) := by decide +kernel
theorem dX2_lose_29 : decode cX2_lose 29 = .ok (.astore 6, 2) := by decide +kernel
theorem dX2_lose_31 : decode cX2_lose 31 = .ok (.aload 6, 2) := by decide +kernel
theorem dX2_lose_33 : decode cX2_lose 33 = .ok (.ifnull 30, 3) := by decide +kernel
theorem dX2_lose_36 : decode cX2_lose 36 = .ok (.aload 6, 2) := by decide +kernel
theorem dX2_lose_38 : decode cX2_lose 38 = .ok (.getfield 142, 3) := by decide +kernel
theorem dX2_lose_41 : decode cX2_lose 41 = .ok (.iconst 1, 1) := by decide +kernel
theorem dX2_lose_42 : decode cX2_lose 42 = .ok (.if_icmp .ne 21, 3) := by decide +kernel
theorem dX2_lose_45 : decode cX2_lose 45 = .ok (.aload 6, 2) := by decide +kernel
theorem dX2_lose_47 : decode cX2_lose 47 = .ok (.getfield 150, 3) := by decide +kernel
theorem dX2_lose_50 : decode cX2_lose 50 = .ok (.iload_n 1, 1) := by decide +kernel
theorem dX2_lose_51 : decode cX2_lose 51 = .ok (.if_icmp .ne 12, 3) := by decide +kernel
theorem dX2_lose_54 : decode cX2_lose 54 = .ok (.aload 6, 2) := by decide +kernel
theorem dX2_lose_56 : decode cX2_lose 56 = .ok (.iconst 2, 1) := by decide +kernel
theorem dX2_lose_57 : decode cX2_lose 57 = .ok (.putfield 142, 3) := by decide +kernel
theorem dX2_lose_60 : decode cX2_lose 60 = .ok (.iinc 2 1, 3) := by decide +kernel
theorem dX2_lose_63 : decode cX2_lose 63 = .ok (.iinc 5 1, 3) := by decide +kernel
theorem dX2_lose_66 : decode cX2_lose 66 = .ok (.goto (-48), 3) := by decide +kernel
theorem dX2_lose_69 : decode cX2_lose 69 = .ok (.iload_n 2, 1) := by decide +kernel
theorem dX2_lose_70 : decode cX2_lose 70 = .ok (.ireturn, 1) := by decide +kernel
set_option maxRecDepth 20000 in
theorem ggX2_turnUp_X2_foundAt : GoodIn wsX2_turnUp wsX2_foundAt := goodIn_ca (goodIn_r _ [10, 11, 12, 13, 49, 50, 51, 52, 53, 54, 55, 56, 57, 58, 59, 60, 61, 62, 63] (by decide +kernel) (by decide +kernel)) (goodIn_sub (fun _ h => List.mem_cons_of_mem _ (List.mem_append_right _ h)) (by decide +kernel))
set_option maxRecDepth 20000 in
theorem gX2_turnUp_X2_foundAt : GoodIn wsX2_turnUp (wsV RX2 133 RX2 yX2_foundAt wsX2_foundAt) := goodIn_app (goodIn_of _ (by decide +kernel)) ggX2_turnUp_X2_foundAt
set_option maxRecDepth 20000 in
theorem ggX2_turnUp_X2_requireRoom : GoodIn wsX2_turnUp wsX2_requireRoom := goodIn_ca (goodIn_r _ [16, 11, 12, 17, 18, 9, 19] (by decide +kernel) (by decide +kernel)) (goodIn_sub (fun _ h => List.mem_cons_of_mem _ (List.mem_append_right _ h)) (by decide +kernel))
set_option maxRecDepth 20000 in
theorem gX2_turnUp_X2_requireRoom : GoodIn wsX2_turnUp (va_wsS RX2 86 yX2_requireRoom wsX2_requireRoom) := goodIn_app (goodIn_of _ (by decide +kernel)) ggX2_turnUp_X2_requireRoom
set_option maxRecDepth 20000 in
theorem ggX2_turnUp_X1_comeTo : GoodIn wsX2_turnUp wsX1_comeTo := goodIn_r _ [24, 25, 26, 27, 28, 29, 30, 31, 32, 23, 33, 34, 35, 36, 37, 38, 39, 40, 41, 42, 43, 44, 45, 46, 47, 48] (by decide +kernel) (by decide +kernel)
set_option maxRecDepth 20000 in
theorem gX2_turnUp_X1_comeTo : GoodIn wsX2_turnUp (wsV RX2 129 RX1 yX1_comeTo wsX1_comeTo) := goodIn_app (goodIn_of _ (by decide +kernel)) ggX2_turnUp_X1_comeTo
theorem dX2_turnUp_0 : decode cX2_turnUp 0 = .ok (.aload_n 0, 1) := by decide +kernel
theorem dX2_turnUp_1 : decode cX2_turnUp 1 = .ok (.iload_n 1, 1) := by decide +kernel
theorem dX2_turnUp_2 : decode cX2_turnUp 2 = .ok (.invokevirtual 133, 3) := by decide +kernel
theorem dX2_turnUp_5 : decode cX2_turnUp 5 = .ok (.astore_n 3, 1) := by decide +kernel
theorem dX2_turnUp_6 : decode cX2_turnUp 6 = .ok (.iload_n 2, 1) := by decide +kernel
theorem dX2_turnUp_7 : decode cX2_turnUp 7 = .ok (.invokestatic 86, 3) := by decide +kernel
theorem dX2_turnUp_10 : decode cX2_turnUp 10 = .ok (.aload_n 3, 1) := by decide +kernel
theorem dX2_turnUp_11 : decode cX2_turnUp 11 = .ok (.getfield 142, 3) := by decide +kernel
theorem dX2_turnUp_14 : decode cX2_turnUp 14 = .ok (.iconst 2, 1) := by decide +kernel
theorem dX2_turnUp_15 : decode cX2_turnUp 15 = .ok (.if_icmp .eq 13, 3) := by decide +kernel
theorem dX2_turnUp_18 : decode cX2_turnUp 18 = .ok (.new 90, 3) := by decide +kernel
theorem dX2_turnUp_21 : decode cX2_turnUp 21 = .ok (.dup, 1) := by decide +kernel
theorem dX2_turnUp_22 : decode cX2_turnUp 22 = .ok (.ldc 155, 2) := by decide +kernel
theorem dX2_turnUp_24 : decode cX2_turnUp 24 = .ok (.invokespecial 94, 3) := by decide +kernel
theorem dX2_turnUp_27 : decode cX2_turnUp 27 = .ok (.athrow, 1) := by decide +kernel
theorem dX2_turnUp_28 : decode cX2_turnUp 28 = .ok (.aload_n 3, 1) := by decide +kernel
theorem dX2_turnUp_29 : decode cX2_turnUp 29 = .ok (.iload_n 2, 1) := by decide +kernel
theorem dX2_turnUp_30 : decode cX2_turnUp 30 = .ok (.aload_n 0, 1) := by decide +kernel
theorem dX2_turnUp_31 : decode cX2_turnUp 31 = .ok (.getfield 47, 3) := by decide +kernel
theorem dX2_turnUp_34 : decode cX2_turnUp 34 = .ok (.invokevirtual 129, 3) := by decide +kernel
theorem dX2_turnUp_37 : decode cX2_turnUp 37 = .ok (.aload_n 3, 1) := by decide +kernel
theorem dX2_turnUp_38 : decode cX2_turnUp 38 = .ok (.getfield 157, 3) := by decide +kernel
theorem dX2_turnUp_41 : decode cX2_turnUp 41 = .ok (.ireturn, 1) := by decide +kernel
set_option maxRecDepth 20000 in
theorem ggX2_hold_X2_foundAt : GoodIn wsX2_hold wsX2_foundAt := goodIn_ca (goodIn_r _ [8, 9, 10, 11, 33, 34, 35, 36, 37, 38, 39, 40, 41, 42, 43, 44, 45, 46, 47] (by decide +kernel) (by decide +kernel)) (goodIn_sub (fun _ h => List.mem_cons_of_mem _ (List.mem_append_right _ h)) (by decide +kernel))
set_option maxRecDepth 20000 in
theorem gX2_hold_X2_foundAt : GoodIn wsX2_hold (wsV RX2 133 RX2 yX2_foundAt wsX2_foundAt) := goodIn_app (goodIn_of _ (by decide +kernel)) ggX2_hold_X2_foundAt
set_option maxRecDepth 20000 in
theorem ggX2_hold_X1_isHere : GoodIn wsX2_hold wsX1_isHere := goodIn_r _ [16, 17, 18, 19, 20, 21, 22, 23, 24, 25, 26, 27, 28, 29, 30, 31, 32] (by decide +kernel) (by decide +kernel)
set_option maxRecDepth 20000 in
theorem gX2_hold_X1_isHere : GoodIn wsX2_hold (wsV RX2 160 RX1 yX1_isHere wsX1_isHere) := goodIn_app (goodIn_of _ (by decide +kernel)) ggX2_hold_X1_isHere
theorem dX2_hold_0 : decode cX2_hold 0 = .ok (.aload_n 0, 1) := by decide +kernel
theorem dX2_hold_1 : decode cX2_hold 1 = .ok (.iload_n 1, 1) := by decide +kernel
theorem dX2_hold_2 : decode cX2_hold 2 = .ok (.invokevirtual 133, 3) := by decide +kernel
theorem dX2_hold_5 : decode cX2_hold 5 = .ok (.astore_n 3, 1) := by decide +kernel
theorem dX2_hold_6 : decode cX2_hold 6 = .ok (.aload_n 3, 1) := by decide +kernel
theorem dX2_hold_7 : decode cX2_hold 7 = .ok (.invokevirtual 160, 3) := by decide +kernel
theorem dX2_hold_10 : decode cX2_hold 10 = .ok (.ifCond .ne 13, 3) := by decide +kernel
theorem dX2_hold_13 : decode cX2_hold 13 = .ok (.new 90, 3) := by decide +kernel
theorem dX2_hold_16 : decode cX2_hold 16 = .ok (.dup, 1) := by decide +kernel
theorem dX2_hold_17 : decode cX2_hold 17 = .ok (.ldc 164, 2) := by decide +kernel
theorem dX2_hold_19 : decode cX2_hold 19 = .ok (.invokespecial 94, 3) := by decide +kernel
theorem dX2_hold_22 : decode cX2_hold 22 = .ok (.athrow, 1) := by decide +kernel
theorem dX2_hold_23 : decode cX2_hold 23 = .ok (.aload_n 3, 1) := by decide +kernel
theorem dX2_hold_24 : decode cX2_hold 24 = .ok (.getfield 166, 3) := by decide +kernel
theorem dX2_hold_27 : decode cX2_hold 27 = .ok (.istore 4, 2) := by decide +kernel
theorem dX2_hold_29 : decode cX2_hold 29 = .ok (.aload_n 3, 1) := by decide +kernel
theorem dX2_hold_30 : decode cX2_hold 30 = .ok (.iload_n 2, 1) := by decide +kernel
theorem dX2_hold_31 : decode cX2_hold 31 = .ok (.putfield 166, 3) := by decide +kernel
theorem dX2_hold_34 : decode cX2_hold 34 = .ok (.iload 4, 2) := by decide +kernel
theorem dX2_hold_36 : decode cX2_hold 36 = .ok (.ireturn, 1) := by decide +kernel
set_option maxRecDepth 20000 in
theorem ggX2_claim_X2_requireKind : GoodIn wsX2_claim wsX2_requireKind := goodIn_ca (goodIn_r _ [14, 15, 16, 17, 18, 13, 19] (by decide +kernel) (by decide +kernel)) (goodIn_sub (fun _ h => List.mem_cons_of_mem _ (List.mem_append_right _ h)) (by decide +kernel))
set_option maxRecDepth 20000 in
theorem gX2_claim_X2_requireKind : GoodIn wsX2_claim (va_wsS RX2 103 yX2_requireKind wsX2_requireKind) := goodIn_app (goodIn_of _ (by decide +kernel)) ggX2_claim_X2_requireKind
set_option maxRecDepth 20000 in
theorem ggX2_claim_X2_requirePlace : GoodIn wsX2_claim wsX2_requirePlace := goodIn_ca (goodIn_r _ [22, 15, 16, 17, 18, 13, 19] (by decide +kernel) (by decide +kernel)) (goodIn_sub (fun _ h => List.mem_cons_of_mem _ (List.mem_append_right _ h)) (by decide +kernel))
set_option maxRecDepth 20000 in
theorem gX2_claim_X2_requirePlace : GoodIn wsX2_claim (va_wsS RX2 106 yX2_requirePlace wsX2_requirePlace) := goodIn_app (goodIn_of _ (by decide +kernel)) ggX2_claim_X2_requirePlace
set_option maxRecDepth 20000 in
theorem ggX2_claim_X2_isWithin : GoodIn wsX2_claim wsX2_isWithin := goodIn_r _ [19] (by decide +kernel) (by decide +kernel)
set_option maxRecDepth 20000 in
theorem gX2_claim_X2_isWithin : GoodIn wsX2_claim (va_wsS RX2 73 yX2_isWithin wsX2_isWithin) := goodIn_app (goodIn_of _ (by decide +kernel)) ggX2_claim_X2_isWithin
set_option maxRecDepth 20000 in
theorem ggX2_claim_X2_requireWords : GoodIn wsX2_claim wsX2_requireWords := goodIn_ca (goodIn_r _ [25, 1, 2, 26, 17, 18, 13, 19] (by decide +kernel) (by decide +kernel)) (goodIn_sub (fun _ h => List.mem_cons_of_mem _ (List.mem_append_left _ (List.mem_append_left _ (List.mem_append_right _ h)))) (by decide +kernel))
set_option maxRecDepth 20000 in
theorem gX2_claim_X2_requireWords : GoodIn wsX2_claim (va_wsS RX2 113 yX2_requireWords wsX2_requireWords) := goodIn_app (goodIn_of _ (by decide +kernel)) ggX2_claim_X2_requireWords
set_option maxRecDepth 20000 in
theorem ggX2_claim_X0_init : GoodIn wsX2_claim wsX0_init := goodIn_r _ [29, 30, 31, 32, 33, 34, 35, 36, 37, 38, 39, 40, 41, 42, 58, 59, 60, 61, 62, 63, 64, 65, 66, 67] (by decide +kernel) (by decide +kernel)
set_option maxRecDepth 20000 in
theorem gX2_claim_X0_init : GoodIn wsX2_claim (wsX0_init) := ggX2_claim_X0_init
theorem dX2_claim_0 : decode cX2_claim 0 = .ok (.iload_n 1, 1) := by decide +kernel
theorem dX2_claim_1 : decode cX2_claim 1 = .ok (.invokestatic 103, 3) := by decide +kernel
theorem dX2_claim_4 : decode cX2_claim 4 = .ok (.iload_n 2, 1) := by decide +kernel
theorem dX2_claim_5 : decode cX2_claim 5 = .ok (.invokestatic 106, 3) := by decide +kernel
theorem dX2_claim_8 : decode cX2_claim 8 = .ok (.iload_n 3, 1) := by decide +kernel
theorem dX2_claim_9 : decode cX2_claim 9 = .ok (.iconst 0, 1) := by decide +kernel
theorem dX2_claim_10 : decode cX2_claim 10 = .ok (.aload_n 0, 1) := by decide +kernel
theorem dX2_claim_11 : decode cX2_claim 11 = .ok (.getfield 47, 3) := by decide +kernel
theorem dX2_claim_14 : decode cX2_claim 14 = .ok (.invokestatic 73, 3) := by decide +kernel
theorem dX2_claim_17 : decode cX2_claim 17 = .ok (.ifCond .ne 13, 3) := by decide +kernel
theorem dX2_claim_20 : decode cX2_claim 20 = .ok (.new 77, 3) := by decide +kernel
theorem dX2_claim_23 : decode cX2_claim 23 = .ok (.dup, 1) := by decide +kernel
theorem dX2_claim_24 : decode cX2_claim 24 = .ok (.ldc 170, 2) := by decide +kernel
theorem dX2_claim_26 : decode cX2_claim 26 = .ok (.invokespecial 81, 3) := by decide +kernel
theorem dX2_claim_29 : decode cX2_claim 29 = .ok (.athrow, 1) := by decide +kernel
theorem dX2_claim_30 : decode cX2_claim 30 = .ok (.iload 4, 2) := by decide +kernel
theorem dX2_claim_32 : decode cX2_claim 32 = .ok (.iload_n 3, 1) := by decide +kernel
theorem dX2_claim_33 : decode cX2_claim 33 = .ok (.aload_n 0, 1) := by decide +kernel
theorem dX2_claim_34 : decode cX2_claim 34 = .ok (.getfield 47, 3) := by decide +kernel
theorem dX2_claim_37 : decode cX2_claim 37 = .ok (.invokestatic 73, 3) := by decide +kernel
theorem dX2_claim_40 : decode cX2_claim 40 = .ok (.ifCond .ne 13, 3) := by decide +kernel
theorem dX2_claim_43 : decode cX2_claim 43 = .ok (.new 77, 3) := by decide +kernel
theorem dX2_claim_46 : decode cX2_claim 46 = .ok (.dup, 1) := by decide +kernel
theorem dX2_claim_47 : decode cX2_claim 47 = .ok (.ldc 172, 2) := by decide +kernel
theorem dX2_claim_49 : decode cX2_claim 49 = .ok (.invokespecial 81, 3) := by decide +kernel
theorem dX2_claim_52 : decode cX2_claim 52 = .ok (.athrow, 1) := by decide +kernel
theorem dX2_claim_53 : decode cX2_claim 53 = .ok (.iload 5, 2) := by decide +kernel
theorem dX2_claim_55 : decode cX2_claim 55 = .ok (.invokestatic 113, 3) := by decide +kernel
theorem dX2_claim_58 : decode cX2_claim 58 = .ok (.aload_n 0, 1) := by decide +kernel
theorem dX2_claim_59 : decode cX2_claim 59 = .ok (.getfield 44, 3) := by decide +kernel
theorem dX2_claim_62 : decode cX2_claim 62 = .ok (.istore 6, 2) := by decide +kernel
theorem dX2_claim_64 : decode cX2_claim 64 = .ok (.iload 6, 2) := by decide +kernel
theorem dX2_claim_66 : decode cX2_claim 66 = .ok (.ifCond .lt 13, 3) := by decide +kernel
theorem dX2_claim_69 : decode cX2_claim 69 = .ok (.iload 6, 2) := by decide +kernel
theorem dX2_claim_71 : decode cX2_claim 71 = .ok (.aload_n 0, 1) := by decide +kernel
theorem dX2_claim_72 : decode cX2_claim 72 = .ok (.getfield 33, 3) := by decide +kernel
theorem dX2_claim_75 : decode cX2_claim 75 = .ok (.arraylength, 1) := by decide +kernel
theorem dX2_claim_76 : decode cX2_claim 76 = .ok (.if_icmp .lt 13, 3) := by decide +kernel
theorem dX2_claim_79 : decode cX2_claim 79 = .ok (.new 90, 3) := by decide +kernel
theorem dX2_claim_82 : decode cX2_claim 82 = .ok (.dup, 1) := by decide +kernel
theorem dX2_claim_83 : decode cX2_claim 83 = .ok (.ldc 174, 2) := by decide +kernel
theorem dX2_claim_85 : decode cX2_claim 85 = .ok (.invokespecial 94, 3) := by decide +kernel
theorem dX2_claim_88 : decode cX2_claim 88 = .ok (.athrow, 1) := by decide +kernel
theorem dX2_claim_89 : decode cX2_claim 89 = .ok (.aload_n 0, 1) := by decide +kernel
theorem dX2_claim_90 : decode cX2_claim 90 = .ok (.getfield 33, 3) := by decide +kernel
theorem dX2_claim_93 : decode cX2_claim 93 = .ok (.iload 6, 2) := by decide +kernel
theorem dX2_claim_95 : decode cX2_claim 95 = .ok (.new 31, 3) := by decide +kernel
theorem dX2_claim_98 : decode cX2_claim 98 = .ok (.dup, 1) := by decide +kernel
theorem dX2_claim_99 : decode cX2_claim 99 = .ok (.iload 6, 2) := by decide +kernel
theorem dX2_claim_101 : decode cX2_claim 101 = .ok (.iload_n 1, 1) := by decide +kernel
theorem dX2_claim_102 : decode cX2_claim 102 = .ok (.iload_n 2, 1) := by decide +kernel
theorem dX2_claim_103 : decode cX2_claim 103 = .ok (.iload_n 3, 1) := by decide +kernel
theorem dX2_claim_104 : decode cX2_claim 104 = .ok (.iload 4, 2) := by decide +kernel
theorem dX2_claim_106 : decode cX2_claim 106 = .ok (.iload 5, 2) := by decide +kernel
theorem dX2_claim_108 : decode cX2_claim 108 = .ok (.invokespecial 176, 3) := by decide +kernel
theorem dX2_claim_111 : decode cX2_claim 111 = .ok (.aastore, 1) := by decide +kernel
theorem dX2_claim_112 : decode cX2_claim 112 = .ok (.aload_n 0, 1) := by decide +kernel
theorem dX2_claim_113 : decode cX2_claim 113 = .ok (.iload 6, 2) := by decide +kernel
theorem dX2_claim_115 : decode cX2_claim 115 = .ok (.iconst 1, 1) := by decide +kernel
theorem dX2_claim_116 : decode cX2_claim 116 = .ok (.iadd, 1) := by decide +kernel
theorem dX2_claim_117 : decode cX2_claim 117 = .ok (.putfield 44, 3) := by decide +kernel
theorem dX2_claim_120 : decode cX2_claim 120 = .ok (.iload 6, 2) := by decide +kernel
theorem dX2_claim_122 : decode cX2_claim 122 = .ok (.ireturn, 1) := by decide +kernel
set_option maxRecDepth 20000 in
theorem ggX2_say_X2_claimAt : GoodIn wsX2_say wsX2_claimAt := goodIn_ca (goodIn_r _ [6, 7, 8, 9, 42, 43, 44, 45, 46, 47, 48, 49, 50, 51, 52, 53, 54, 55, 56] (by decide +kernel) (by decide +kernel)) (goodIn_sub (fun _ h => List.mem_cons_of_mem _ (List.mem_append_left _ (List.mem_append_left _ (List.mem_append_right _ h)))) (by decide +kernel))
set_option maxRecDepth 20000 in
theorem gX2_say_X2_claimAt : GoodIn wsX2_say (wsV RX2 177 RX2 yX2_claimAt wsX2_claimAt) := goodIn_app (goodIn_of _ (by decide +kernel)) ggX2_say_X2_claimAt
set_option maxRecDepth 20000 in
theorem ggX2_say_X2_requireWords : GoodIn wsX2_say wsX2_requireWords := goodIn_ca (goodIn_r _ [12, 13, 14, 15, 16, 17, 5, 18] (by decide +kernel) (by decide +kernel)) (goodIn_sub (fun _ h => List.mem_cons_of_mem _ (List.mem_append_left _ (List.mem_append_right _ h))) (by decide +kernel))
set_option maxRecDepth 20000 in
theorem gX2_say_X2_requireWords : GoodIn wsX2_say (va_wsS RX2 113 yX2_requireWords wsX2_requireWords) := goodIn_app (goodIn_of _ (by decide +kernel)) ggX2_say_X2_requireWords
set_option maxRecDepth 20000 in
theorem ggX2_say_X2_requireOpen : GoodIn wsX2_say wsX2_requireOpen := goodIn_ca (goodIn_r _ [21, 22, 23, 24, 32, 33, 34, 35, 36, 37, 38, 39, 40, 41] (by decide +kernel) (by decide +kernel)) (goodIn_sub (fun _ h => List.mem_cons_of_mem _ (List.mem_append_right _ h)) (by decide +kernel))
set_option maxRecDepth 20000 in
theorem gX2_say_X2_requireOpen : GoodIn wsX2_say (va_wsS RX2 181 yX2_requireOpen wsX2_requireOpen) := goodIn_app (goodIn_of _ (by decide +kernel)) ggX2_say_X2_requireOpen
set_option maxRecDepth 20000 in
theorem ggX2_say_J6_bitCount_0f7a4 : GoodIn wsX2_say wsJ6_bitCount_0f7a4 := goodIn_r _ [28, 29, 30, 31] (by decide +kernel) (by decide +kernel)
set_option maxRecDepth 20000 in
theorem gX2_say_J6_bitCount_0f7a4 : GoodIn wsX2_say (va_wsS RX2 95 yJ6_bitCount_0f7a4 wsJ6_bitCount_0f7a4) := goodIn_app (goodIn_of _ (by decide +kernel)) ggX2_say_J6_bitCount_0f7a4
theorem dX2_say_0 : decode cX2_say 0 = .ok (.aload_n 0, 1) := by decide +kernel
theorem dX2_say_1 : decode cX2_say 1 = .ok (.iload_n 1, 1) := by decide +kernel
theorem dX2_say_2 : decode cX2_say 2 = .ok (.invokevirtual 177, 3) := by decide +kernel
theorem dX2_say_5 : decode cX2_say 5 = .ok (.astore_n 3, 1) := by decide +kernel
theorem dX2_say_6 : decode cX2_say 6 = .ok (.iload_n 2, 1) := by decide +kernel
theorem dX2_say_7 : decode cX2_say 7 = .ok (.invokestatic 113, 3) := by decide +kernel
theorem dX2_say_10 : decode cX2_say 10 = .ok (.aload_n 3, 1) := by decide +kernel
theorem dX2_say_11 : decode cX2_say 11 = .ok (.invokestatic 181, 3) := by decide +kernel
theorem dX2_say_14 : decode cX2_say 14 = .ok (.aload_n 3, 1) := by decide +kernel
theorem dX2_say_15 : decode cX2_say 15 = .ok (.dup, 1) := by decide +kernel
theorem dX2_say_16 : decode cX2_say 16 = .ok (.getfield 185, 3) := by decide +kernel
theorem dX2_say_19 : decode cX2_say 19 = .ok (.iload_n 2, 1) := by decide +kernel
theorem dX2_say_20 : decode cX2_say 20 = .ok (.ior, 1) := by decide +kernel
theorem dX2_say_21 : decode cX2_say 21 = .ok (.putfield 185, 3) := by decide +kernel
theorem dX2_say_24 : decode cX2_say 24 = .ok (.aload_n 3, 1) := by decide +kernel
theorem dX2_say_25 : decode cX2_say 25 = .ok (.getfield 185, 3) := by decide +kernel
theorem dX2_say_28 : decode cX2_say 28 = .ok (.invokestatic 95, 3) := by decide +kernel
theorem dX2_say_31 : decode cX2_say 31 = .ok (.ireturn, 1) := by decide +kernel
set_option maxRecDepth 20000 in
theorem ggX2_tell_X2_claimAt : GoodIn wsX2_tell wsX2_claimAt := goodIn_ca (goodIn_r _ [7, 8, 9, 10, 43, 44, 45, 46, 47, 48, 49, 50, 51, 52, 53, 54, 55, 56, 57] (by decide +kernel) (by decide +kernel)) (goodIn_sub (fun _ h => List.mem_cons_of_mem _ (List.mem_append_left _ (List.mem_append_left _ (List.mem_append_right _ h)))) (by decide +kernel))
set_option maxRecDepth 20000 in
theorem gX2_tell_X2_claimAt : GoodIn wsX2_tell (wsV RX2 177 RX2 yX2_claimAt wsX2_claimAt) := goodIn_app (goodIn_of _ (by decide +kernel)) ggX2_tell_X2_claimAt
set_option maxRecDepth 20000 in
theorem ggX2_tell_X2_requireWords : GoodIn wsX2_tell wsX2_requireWords := goodIn_ca (goodIn_r _ [13, 14, 15, 16, 17, 18, 6, 19] (by decide +kernel) (by decide +kernel)) (goodIn_sub (fun _ h => List.mem_cons_of_mem _ (List.mem_append_left _ (List.mem_append_right _ h))) (by decide +kernel))
set_option maxRecDepth 20000 in
theorem gX2_tell_X2_requireWords : GoodIn wsX2_tell (va_wsS RX2 113 yX2_requireWords wsX2_requireWords) := goodIn_app (goodIn_of _ (by decide +kernel)) ggX2_tell_X2_requireWords
set_option maxRecDepth 20000 in
theorem ggX2_tell_X2_requireOpen : GoodIn wsX2_tell wsX2_requireOpen := goodIn_ca (goodIn_r _ [22, 23, 24, 25, 33, 34, 35, 36, 37, 38, 39, 40, 41, 42] (by decide +kernel) (by decide +kernel)) (goodIn_sub (fun _ h => List.mem_cons_of_mem _ (List.mem_append_right _ h)) (by decide +kernel))
set_option maxRecDepth 20000 in
theorem gX2_tell_X2_requireOpen : GoodIn wsX2_tell (va_wsS RX2 181 yX2_requireOpen wsX2_requireOpen) := goodIn_app (goodIn_of _ (by decide +kernel)) ggX2_tell_X2_requireOpen
set_option maxRecDepth 20000 in
theorem ggX2_tell_J6_bitCount_0f7a4 : GoodIn wsX2_tell wsJ6_bitCount_0f7a4 := goodIn_r _ [29, 30, 31, 32] (by decide +kernel) (by decide +kernel)
set_option maxRecDepth 20000 in
theorem gX2_tell_J6_bitCount_0f7a4 : GoodIn wsX2_tell (va_wsS RX2 95 yJ6_bitCount_0f7a4 wsJ6_bitCount_0f7a4) := goodIn_app (goodIn_of _ (by decide +kernel)) ggX2_tell_J6_bitCount_0f7a4
theorem dX2_tell_0 : decode cX2_tell 0 = .ok (.aload_n 0, 1) := by decide +kernel
theorem dX2_tell_1 : decode cX2_tell 1 = .ok (.iload_n 1, 1) := by decide +kernel
theorem dX2_tell_2 : decode cX2_tell 2 = .ok (.invokevirtual 177, 3) := by decide +kernel
theorem dX2_tell_5 : decode cX2_tell 5 = .ok (.astore_n 3, 1) := by decide +kernel
theorem dX2_tell_6 : decode cX2_tell 6 = .ok (.iload_n 2, 1) := by decide +kernel
theorem dX2_tell_7 : decode cX2_tell 7 = .ok (.invokestatic 113, 3) := by decide +kernel
theorem dX2_tell_10 : decode cX2_tell 10 = .ok (.aload_n 3, 1) := by decide +kernel
theorem dX2_tell_11 : decode cX2_tell 11 = .ok (.invokestatic 181, 3) := by decide +kernel
theorem dX2_tell_14 : decode cX2_tell 14 = .ok (.aload_n 3, 1) := by decide +kernel
theorem dX2_tell_15 : decode cX2_tell 15 = .ok (.dup, 1) := by decide +kernel
theorem dX2_tell_16 : decode cX2_tell 16 = .ok (.getfield 185, 3) := by decide +kernel
theorem dX2_tell_19 : decode cX2_tell 19 = .ok (.iload_n 2, 1) := by decide +kernel
theorem dX2_tell_20 : decode cX2_tell 20 = .ok (.ior, 1) := by decide +kernel
theorem dX2_tell_21 : decode cX2_tell 21 = .ok (.putfield 185, 3) := by decide +kernel
theorem dX2_tell_24 : decode cX2_tell 24 = .ok (.aload_n 3, 1) := by decide +kernel
theorem dX2_tell_25 : decode cX2_tell 25 = .ok (.dup, 1) := by decide +kernel
theorem dX2_tell_26 : decode cX2_tell 26 = .ok (.getfield 186, 3) := by decide +kernel
theorem dX2_tell_29 : decode cX2_tell 29 = .ok (.iload_n 2, 1) := by decide +kernel
theorem dX2_tell_30 : decode cX2_tell 30 = .ok (.ior, 1) := by decide +kernel
theorem dX2_tell_31 : decode cX2_tell 31 = .ok (.putfield 186, 3) := by decide +kernel
theorem dX2_tell_34 : decode cX2_tell 34 = .ok (.aload_n 3, 1) := by decide +kernel
theorem dX2_tell_35 : decode cX2_tell 35 = .ok (.getfield 186, 3) := by decide +kernel
theorem dX2_tell_38 : decode cX2_tell 38 = .ok (.invokestatic 95, 3) := by decide +kernel
theorem dX2_tell_41 : decode cX2_tell 41 = .ok (.ireturn, 1) := by decide +kernel
set_option maxRecDepth 20000 in
theorem ggX2_withdraw_X2_claimAt : GoodIn wsX2_withdraw wsX2_claimAt := goodIn_ca (goodIn_r _ [6, 7, 8, 9, 23, 24, 25, 26, 27, 28, 29, 30, 31, 32, 33, 34, 35, 36, 37] (by decide +kernel) (by decide +kernel)) (goodIn_sub (fun _ h => List.mem_cons_of_mem _ (List.mem_append_left _ (List.mem_append_right _ h))) (by decide +kernel))
set_option maxRecDepth 20000 in
theorem gX2_withdraw_X2_claimAt : GoodIn wsX2_withdraw (wsV RX2 177 RX2 yX2_claimAt wsX2_claimAt) := goodIn_app (goodIn_of _ (by decide +kernel)) ggX2_withdraw_X2_claimAt
set_option maxRecDepth 20000 in
theorem ggX2_withdraw_X2_requireOpen : GoodIn wsX2_withdraw wsX2_requireOpen := goodIn_ca (goodIn_r _ [12, 13, 14, 15, 38, 39, 40, 41, 42, 43, 44, 45, 46, 47] (by decide +kernel) (by decide +kernel)) (goodIn_sub (fun _ h => List.mem_cons_of_mem _ (List.mem_append_right _ h)) (by decide +kernel))
set_option maxRecDepth 20000 in
theorem gX2_withdraw_X2_requireOpen : GoodIn wsX2_withdraw (va_wsS RX2 181 yX2_requireOpen wsX2_requireOpen) := goodIn_app (goodIn_of _ (by decide +kernel)) ggX2_withdraw_X2_requireOpen
set_option maxRecDepth 20000 in
theorem ggX2_withdraw_X0_end : GoodIn wsX2_withdraw wsX0_end := goodIn_r _ [20, 21, 22, 38, 39, 40, 41, 42, 43, 44, 45, 46, 47] (by decide +kernel) (by decide +kernel)
set_option maxRecDepth 20000 in
theorem gX2_withdraw_X0_end : GoodIn wsX2_withdraw (wsV RX2 189 RX0 yX0_end wsX0_end) := goodIn_app (goodIn_of _ (by decide +kernel)) ggX2_withdraw_X0_end
theorem dX2_withdraw_0 : decode cX2_withdraw 0 = .ok (.aload_n 0, 1) := by decide +kernel
theorem dX2_withdraw_1 : decode cX2_withdraw 1 = .ok (.iload_n 1, 1) := by decide +kernel
theorem dX2_withdraw_2 : decode cX2_withdraw 2 = .ok (.invokevirtual 177, 3) := by decide +kernel
theorem dX2_withdraw_5 : decode cX2_withdraw 5 = .ok (.astore_n 2, 1) := by decide +kernel
theorem dX2_withdraw_6 : decode cX2_withdraw 6 = .ok (.aload_n 2, 1) := by decide +kernel
theorem dX2_withdraw_7 : decode cX2_withdraw 7 = .ok (.invokestatic 181, 3) := by decide +kernel
theorem dX2_withdraw_10 : decode cX2_withdraw 10 = .ok (.aload_n 2, 1) := by decide +kernel
theorem dX2_withdraw_11 : decode cX2_withdraw 11 = .ok (.iconst 2, 1) := by decide +kernel
theorem dX2_withdraw_12 : decode cX2_withdraw 12 = .ok (.aload_n 0, 1) := by decide +kernel
theorem dX2_withdraw_13 : decode cX2_withdraw 13 = .ok (.getfield 47, 3) := by decide +kernel
theorem dX2_withdraw_16 : decode cX2_withdraw 16 = .ok (.invokevirtual 189, 3) := by decide +kernel
theorem dX2_withdraw_19 : decode cX2_withdraw 19 = .ok (.aload_n 0, 1) := by decide +kernel
theorem dX2_withdraw_20 : decode cX2_withdraw 20 = .ok (.getfield 47, 3) := by decide +kernel
theorem dX2_withdraw_23 : decode cX2_withdraw 23 = .ok (.ireturn, 1) := by decide +kernel
set_option maxRecDepth 20000 in
theorem ggX2_release_X2_foundAt : GoodIn wsX2_release wsX2_foundAt := goodIn_ca (goodIn_r _ [15, 16, 17, 18, 131, 132, 133, 134, 135, 136, 137, 138, 139, 140, 141, 142, 143, 144, 145] (by decide +kernel) (by decide +kernel)) (goodIn_sub (fun _ h => List.mem_cons_of_mem _ (List.mem_append_right _ h)) (by decide +kernel))
set_option maxRecDepth 20000 in
theorem gX2_release_X2_foundAt : GoodIn wsX2_release (wsV RX2 133 RX2 yX2_foundAt wsX2_foundAt) := goodIn_app (goodIn_of _ (by decide +kernel)) ggX2_release_X2_foundAt
set_option maxRecDepth 20000 in
theorem ggX2_release_X2_claimAt : GoodIn wsX2_release wsX2_claimAt := goodIn_ca (goodIn_r _ [22, 16, 17, 23, 131, 132, 133, 134, 135, 136, 137, 138, 139, 140, 141, 142, 143, 144, 145] (by decide +kernel) (by decide +kernel)) (goodIn_sub (fun _ h => List.mem_cons_of_mem _ (List.mem_append_right _ h)) (by decide +kernel))
set_option maxRecDepth 20000 in
theorem gX2_release_X2_claimAt : GoodIn wsX2_release (wsV RX2 177 RX2 yX2_claimAt wsX2_claimAt) := goodIn_app (goodIn_of _ (by decide +kernel)) ggX2_release_X2_claimAt
set_option maxRecDepth 20000 in
theorem ggX2_release_X2_requireEntitled : GoodIn wsX2_release wsX2_requireEntitled := goodIn_ca (goodIn_r _ [27, 1, 2, 28, 29, 30, 14, 31, 32, 33, 34, 35, 36, 37, 6, 38, 39, 40, 41, 42, 43, 44, 45, 46, 47, 48, 49, 50, 51, 52, 53, 54, 55, 56, 57, 58, 59, 60, 61, 62, 63, 64, 65, 66, 67, 68, 69, 70, 71, 72, 73, 74, 75, 76, 77, 78, 79, 80, 81, 82, 83, 84, 85, 86, 87, 88, 89, 90, 91, 92, 93, 94, 95, 96, 97, 98, 99, 100, 101, 102, 103, 23, 104, 146, 147, 148, 149, 150, 151, 152, 153, 154, 155, 131, 132, 133, 134, 135, 136, 137, 138, 139, 140, 141, 142, 143, 144, 145, 116, 117, 118, 119, 120, 121, 122, 123, 124, 125, 126, 127, 128, 129, 130] (by decide +kernel) (by decide +kernel)) (goodIn_sub (fun _ h => List.mem_cons_of_mem _ (List.mem_append_left _ (List.mem_append_right _ h))) (by decide +kernel))
set_option maxRecDepth 20000 in
theorem gX2_release_X2_requireEntitled : GoodIn wsX2_release (wsV RX2 194 RX2 yX2_requireEntitled wsX2_requireEntitled) := goodIn_app (goodIn_of _ (by decide +kernel)) ggX2_release_X2_requireEntitled
set_option maxRecDepth 20000 in
theorem ggX2_release_X2_rateOf : GoodIn wsX2_release wsX2_rateOf := goodIn_r _ [108, 109, 131, 132, 133, 134, 135, 136, 137, 138, 139, 140, 141, 142, 143, 144, 145] (by decide +kernel) (by decide +kernel)
set_option maxRecDepth 20000 in
theorem gX2_release_X2_rateOf : GoodIn wsX2_release (wsV RX2 204 RX2 yX2_rateOf wsX2_rateOf) := goodIn_app (goodIn_of _ (by decide +kernel)) ggX2_release_X2_rateOf
set_option maxRecDepth 20000 in
theorem ggX2_release_X0_end : GoodIn wsX2_release wsX0_end := goodIn_r _ [113, 114, 115, 146, 147, 148, 149, 150, 151, 152, 153, 154, 155] (by decide +kernel) (by decide +kernel)
set_option maxRecDepth 20000 in
theorem gX2_release_X0_end : GoodIn wsX2_release (wsV RX2 189 RX0 yX0_end wsX0_end) := goodIn_app (goodIn_of _ (by decide +kernel)) ggX2_release_X0_end
theorem dX2_release_0 : decode cX2_release 0 = .ok (.aload_n 0, 1) := by decide +kernel
theorem dX2_release_1 : decode cX2_release 1 = .ok (.iload_n 1, 1) := by decide +kernel
theorem dX2_release_2 : decode cX2_release 2 = .ok (.invokevirtual 133, 3) := by decide +kernel
theorem dX2_release_5 : decode cX2_release 5 = .ok (.astore_n 3, 1) := by decide +kernel
theorem dX2_release_6 : decode cX2_release 6 = .ok (.aload_n 0, 1) := by decide +kernel
theorem dX2_release_7 : decode cX2_release 7 = .ok (.iload_n 2, 1) := by decide +kernel
theorem dX2_release_8 : decode cX2_release 8 = .ok (.invokevirtual 177, 3) := by decide +kernel
theorem dX2_release_11 : decode cX2_release 11 = .ok (.astore 4, 2) := by decide +kernel
theorem dX2_release_13 : decode cX2_release 13 = .ok (.aload_n 3, 1) := by decide +kernel
theorem dX2_release_14 : decode cX2_release 14 = .ok (.getfield 142, 3) := by decide +kernel
theorem dX2_release_17 : decode cX2_release 17 = .ok (.ifCond .ne 10, 3) := by decide +kernel
theorem dX2_release_20 : decode cX2_release 20 = .ok (.aload_n 3, 1) := by decide +kernel
theorem dX2_release_21 : decode cX2_release 21 = .ok (.getfield 166, 3) := by decide +kernel
theorem dX2_release_24 : decode cX2_release 24 = .ok (.ifCond .eq 13, 3) := by decide +kernel
theorem dX2_release_27 : decode cX2_release 27 = .ok (.new 90, 3) := by decide +kernel
theorem dX2_release_30 : decode cX2_release 30 = .ok (.dup, 1) := by decide +kernel
theorem dX2_release_31 : decode cX2_release 31 = .ok (.ldc 192, 2) := by decide +kernel
theorem dX2_release_33 : decode cX2_release 33 = .ok (.invokespecial 94, 3) := by decide +kernel
theorem dX2_release_36 : decode cX2_release 36 = .ok (.athrow, 1) := by decide +kernel
theorem dX2_release_37 : decode cX2_release 37 = .ok (.aload_n 0, 1) := by decide +kernel
theorem dX2_release_38 : decode cX2_release 38 = .ok (.aload_n 3, 1) := by decide +kernel
theorem dX2_release_39 : decode cX2_release 39 = .ok (.aload 4, 2) := by decide +kernel
theorem dX2_release_41 : decode cX2_release 41 = .ok (.invokevirtual 194, 3) := by decide +kernel
theorem dX2_release_44 : decode cX2_release 44 = .ok (.aload_n 3, 1) := by decide +kernel
theorem dX2_release_45 : decode cX2_release 45 = .ok (.getfield 198, 3) := by decide +kernel
theorem dX2_release_48 : decode cX2_release 48 = .ok (.aload_n 0, 1) := by decide +kernel
theorem dX2_release_49 : decode cX2_release 49 = .ok (.aload_n 3, 1) := by decide +kernel
theorem dX2_release_50 : decode cX2_release 50 = .ok (.getfield 201, 3) := by decide +kernel
theorem dX2_release_53 : decode cX2_release 53 = .ok (.invokevirtual 204, 3) := by decide +kernel
theorem dX2_release_56 : decode cX2_release 56 = .ok (.imul, 1) := by decide +kernel
theorem dX2_release_57 : decode cX2_release 57 = .ok (.bipush 100, 2) := by decide +kernel
theorem dX2_release_59 : decode cX2_release 59 = .ok (.idiv, 1) := by decide +kernel
theorem dX2_release_60 : decode cX2_release 60 = .ok (.istore 5, 2) := by decide +kernel
theorem dX2_release_62 : decode cX2_release 62 = .ok (.aload_n 3, 1) := by decide +kernel
theorem dX2_release_63 : decode cX2_release 63 = .ok (.iconst 3, 1) := by decide +kernel
theorem dX2_release_64 : decode cX2_release 64 = .ok (.putfield 142, 3) := by decide +kernel
theorem dX2_release_67 : decode cX2_release 67 = .ok (.aload 4, 2) := by decide +kernel
theorem dX2_release_69 : decode cX2_release 69 = .ok (.iconst 1, 1) := by decide +kernel
theorem dX2_release_70 : decode cX2_release 70 = .ok (.aload_n 0, 1) := by decide +kernel
theorem dX2_release_71 : decode cX2_release 71 = .ok (.getfield 47, 3) := by decide +kernel
theorem dX2_release_74 : decode cX2_release 74 = .ok (.invokevirtual 189, 3) := by decide +kernel
theorem dX2_release_77 : decode cX2_release 77 = .ok (.aload 4, 2) := by decide +kernel
theorem dX2_release_79 : decode cX2_release 79 = .ok (.iload_n 1, 1) := by decide +kernel
theorem dX2_release_80 : decode cX2_release 80 = .ok (.putfield 207, 3) := by decide +kernel
theorem dX2_release_83 : decode cX2_release 83 = .ok (.aload_n 0, 1) := by decide +kernel
theorem dX2_release_84 : decode cX2_release 84 = .ok (.dup, 1) := by decide +kernel
theorem dX2_release_85 : decode cX2_release 85 = .ok (.getfield 53, 3) := by decide +kernel
theorem dX2_release_88 : decode cX2_release 88 = .ok (.iconst 5, 1) := by decide +kernel
theorem dX2_release_89 : decode cX2_release 89 = .ok (.iadd, 1) := by decide +kernel
theorem dX2_release_90 : decode cX2_release 90 = .ok (.putfield 53, 3) := by decide +kernel
theorem dX2_release_93 : decode cX2_release 93 = .ok (.aload_n 0, 1) := by decide +kernel
theorem dX2_release_94 : decode cX2_release 94 = .ok (.dup, 1) := by decide +kernel
theorem dX2_release_95 : decode cX2_release 95 = .ok (.getfield 56, 3) := by decide +kernel
theorem dX2_release_98 : decode cX2_release 98 = .ok (.iload 5, 2) := by decide +kernel
theorem dX2_release_100 : decode cX2_release 100 = .ok (.iadd, 1) := by decide +kernel
theorem dX2_release_101 : decode cX2_release 101 = .ok (.putfield 56, 3) := by decide +kernel
theorem dX2_release_104 : decode cX2_release 104 = .ok (.iconst 5, 1) := by decide +kernel
theorem dX2_release_105 : decode cX2_release 105 = .ok (.iload 5, 2) := by decide +kernel
theorem dX2_release_107 : decode cX2_release 107 = .ok (.iadd, 1) := by decide +kernel
theorem dX2_release_108 : decode cX2_release 108 = .ok (.ireturn, 1) := by decide +kernel
set_option maxRecDepth 20000 in
theorem ggX2_extend_X2_foundAt : GoodIn wsX2_extend wsX2_foundAt := goodIn_ca (goodIn_r _ [16, 17, 18, 19, 44, 45, 46, 47, 48, 49, 50, 51, 52, 53, 54, 55, 56, 57, 58] (by decide +kernel) (by decide +kernel)) (goodIn_sub (fun _ h => List.mem_cons_of_mem _ (List.mem_append_right _ h)) (by decide +kernel))
set_option maxRecDepth 20000 in
theorem gX2_extend_X2_foundAt : GoodIn wsX2_extend (wsV RX2 133 RX2 yX2_foundAt wsX2_foundAt) := goodIn_app (goodIn_of _ (by decide +kernel)) ggX2_extend_X2_foundAt
set_option maxRecDepth 20000 in
theorem ggX2_extend_X2_isWithin : GoodIn wsX2_extend wsX2_isWithin := goodIn_r _ [22] (by decide +kernel) (by decide +kernel)
set_option maxRecDepth 20000 in
theorem gX2_extend_X2_isWithin : GoodIn wsX2_extend (va_wsS RX2 73 yX2_isWithin wsX2_isWithin) := goodIn_app (goodIn_of _ (by decide +kernel)) ggX2_extend_X2_isWithin
set_option maxRecDepth 20000 in
theorem ggX2_extend_X1_isHere : GoodIn wsX2_extend wsX1_isHere := goodIn_r _ [27, 28, 29, 30, 31, 32, 33, 34, 35, 36, 37, 38, 39, 40, 41, 42, 43] (by decide +kernel) (by decide +kernel)
set_option maxRecDepth 20000 in
theorem gX2_extend_X1_isHere : GoodIn wsX2_extend (wsV RX2 160 RX1 yX1_isHere wsX1_isHere) := goodIn_app (goodIn_of _ (by decide +kernel)) ggX2_extend_X1_isHere
theorem dX2_extend_0 : decode cX2_extend 0 = .ok (.aload_n 0, 1) := by decide +kernel
theorem dX2_extend_1 : decode cX2_extend 1 = .ok (.iload_n 1, 1) := by decide +kernel
theorem dX2_extend_2 : decode cX2_extend 2 = .ok (.invokevirtual 133, 3) := by decide +kernel
theorem dX2_extend_5 : decode cX2_extend 5 = .ok (.astore_n 3, 1) := by decide +kernel
theorem dX2_extend_6 : decode cX2_extend 6 = .ok (.iload_n 2, 1) := by decide +kernel
theorem dX2_extend_7 : decode cX2_extend 7 = .ok (.iconst 1, 1) := by decide +kernel
theorem dX2_extend_8 : decode cX2_extend 8 = .ok (.sipush 365, 3) := by decide +kernel
theorem dX2_extend_11 : decode cX2_extend 11 = .ok (.invokestatic 73, 3) := by decide +kernel
theorem dX2_extend_14 : decode cX2_extend 14 = .ok (.ifCond .ne 13, 3) := by decide +kernel
theorem dX2_extend_17 : decode cX2_extend 17 = .ok (.new 77, 3) := by decide +kernel
theorem dX2_extend_20 : decode cX2_extend 20 = .ok (.dup, 1) := by decide +kernel
theorem dX2_extend_21 : decode cX2_extend 21 = .ok (.ldc 210, 2) := by decide +kernel
theorem dX2_extend_23 : decode cX2_extend 23 = .ok (.invokespecial 81, 3) := by decide +kernel
theorem dX2_extend_26 : decode cX2_extend 26 = .ok (.athrow, 1) := by decide +kernel
theorem dX2_extend_27 : decode cX2_extend 27 = .ok (.aload_n 3, 1) := by decide +kernel
theorem dX2_extend_28 : decode cX2_extend 28 = .ok (.invokevirtual 160, 3) := by decide +kernel
theorem dX2_extend_31 : decode cX2_extend 31 = .ok (.ifCond .eq 12, 3) := by decide +kernel
theorem dX2_extend_34 : decode cX2_extend 34 = .ok (.aload_n 3, 1) := by decide +kernel
theorem dX2_extend_35 : decode cX2_extend 35 = .ok (.getfield 201, 3) := by decide +kernel
theorem dX2_extend_38 : decode cX2_extend 38 = .ok (.bipush 7, 2) := by decide +kernel
theorem dX2_extend_40 : decode cX2_extend 40 = .ok (.if_icmp .ne 13, 3) := by decide +kernel
theorem dX2_extend_43 : decode cX2_extend 43 = .ok (.new 90, 3) := by decide +kernel
theorem dX2_extend_46 : decode cX2_extend 46 = .ok (.dup, 1) := by decide +kernel
theorem dX2_extend_47 : decode cX2_extend 47 = .ok (.ldc 212, 2) := by decide +kernel
theorem dX2_extend_49 : decode cX2_extend 49 = .ok (.invokespecial 94, 3) := by decide +kernel
theorem dX2_extend_52 : decode cX2_extend 52 = .ok (.athrow, 1) := by decide +kernel
theorem dX2_extend_53 : decode cX2_extend 53 = .ok (.aload_n 3, 1) := by decide +kernel
theorem dX2_extend_54 : decode cX2_extend 54 = .ok (.aload_n 3, 1) := by decide +kernel
theorem dX2_extend_55 : decode cX2_extend 55 = .ok (.getfield 126, 3) := by decide +kernel
theorem dX2_extend_58 : decode cX2_extend 58 = .ok (.aload_n 0, 1) := by decide +kernel
theorem dX2_extend_59 : decode cX2_extend 59 = .ok (.getfield 47, 3) := by decide +kernel
theorem dX2_extend_62 : decode cX2_extend 62 = .ok (.iload_n 2, 1) := by decide +kernel
theorem dX2_extend_63 : decode cX2_extend 63 = .ok (.iadd, 1) := by decide +kernel
theorem dX2_extend_64 : decode cX2_extend 64 = .ok (.invokestatic 214, 3) := by decide +kernel
theorem dX2_extend_67 : decode cX2_extend 67 = .ok (.putfield 126, 3) := by decide +kernel
theorem dX2_extend_70 : decode cX2_extend 70 = .ok (.aload_n 3, 1) := by decide +kernel
theorem dX2_extend_71 : decode cX2_extend 71 = .ok (.getfield 126, 3) := by decide +kernel
theorem dX2_extend_74 : decode cX2_extend 74 = .ok (.ireturn, 1) := by decide +kernel
set_option maxRecDepth 20000 in
theorem ggX2_sell_X2_foundAt : GoodIn wsX2_sell wsX2_foundAt := goodIn_ca (goodIn_r _ [15, 16, 17, 18, 109, 110, 111, 112, 113, 114, 115, 116, 117, 118, 119, 120, 121, 122, 123] (by decide +kernel) (by decide +kernel)) (goodIn_sub (fun _ h => List.mem_cons_of_mem _ (List.mem_append_right _ h)) (by decide +kernel))
set_option maxRecDepth 20000 in
theorem gX2_sell_X2_foundAt : GoodIn wsX2_sell (wsV RX2 133 RX2 yX2_foundAt wsX2_foundAt) := goodIn_app (goodIn_of _ (by decide +kernel)) ggX2_sell_X2_foundAt
set_option maxRecDepth 20000 in
theorem ggX2_sell_X2_isWithin : GoodIn wsX2_sell wsX2_isWithin := goodIn_r _ [21] (by decide +kernel) (by decide +kernel)
set_option maxRecDepth 20000 in
theorem gX2_sell_X2_isWithin : GoodIn wsX2_sell (va_wsS RX2 73 yX2_isWithin wsX2_isWithin) := goodIn_app (goodIn_of _ (by decide +kernel)) ggX2_sell_X2_isWithin
set_option maxRecDepth 20000 in
theorem ggX2_sell_X2_isOver : GoodIn wsX2_sell wsX2_isOver := goodIn_r _ [25, 6, 8, 26, 27, 28, 29, 30, 14, 31, 32, 33, 34, 35, 36, 37, 38, 39, 40, 41, 42, 5, 43, 44, 45, 46, 47, 48, 49, 50, 51, 52, 53, 54, 55, 56, 57, 58, 59, 60, 61, 62, 63, 64, 65, 66, 67, 68, 69, 70, 71, 72, 73, 74, 75, 76, 77, 78, 79, 80, 81, 82, 83, 84, 85, 86, 87, 88, 89, 90, 91, 92, 93, 94, 95, 96, 97, 98, 99, 100, 101, 102, 103, 104, 105, 106, 107, 108, 109, 110, 111, 112, 113, 114, 115, 116, 117, 118, 119, 120, 121, 122, 123, 124, 125, 126, 127, 128, 129, 130, 131, 132, 133] (by decide +kernel) (by decide +kernel)
set_option maxRecDepth 20000 in
theorem gX2_sell_X2_isOver : GoodIn wsX2_sell (wsV RX2 222 RX2 yX2_isOver wsX2_isOver) := goodIn_app (goodIn_of _ (by decide +kernel)) ggX2_sell_X2_isOver
theorem dX2_sell_0 : decode cX2_sell 0 = .ok (.aload_n 0, 1) := by decide +kernel
theorem dX2_sell_1 : decode cX2_sell 1 = .ok (.iload_n 1, 1) := by decide +kernel
theorem dX2_sell_2 : decode cX2_sell 2 = .ok (.invokevirtual 133, 3) := by decide +kernel
theorem dX2_sell_5 : decode cX2_sell 5 = .ok (.astore_n 3, 1) := by decide +kernel
theorem dX2_sell_6 : decode cX2_sell 6 = .ok (.iload_n 2, 1) := by decide +kernel
theorem dX2_sell_7 : decode cX2_sell 7 = .ok (.iconst 1, 1) := by decide +kernel
theorem dX2_sell_8 : decode cX2_sell 8 = .ok (.sipush 9999, 3) := by decide +kernel
theorem dX2_sell_11 : decode cX2_sell 11 = .ok (.invokestatic 73, 3) := by decide +kernel
theorem dX2_sell_14 : decode cX2_sell 14 = .ok (.ifCond .ne 13, 3) := by decide +kernel
theorem dX2_sell_17 : decode cX2_sell 17 = .ok (.new 77, 3) := by decide +kernel
theorem dX2_sell_20 : decode cX2_sell 20 = .ok (.dup, 1) := by decide +kernel
theorem dX2_sell_21 : decode cX2_sell 21 = .ok (.ldc 220, 2) := by decide +kernel
theorem dX2_sell_23 : decode cX2_sell 23 = .ok (.invokespecial 81, 3) := by decide +kernel
theorem dX2_sell_26 : decode cX2_sell 26 = .ok (.athrow, 1) := by decide +kernel
theorem dX2_sell_27 : decode cX2_sell 27 = .ok (.aload_n 0, 1) := by decide +kernel
theorem dX2_sell_28 : decode cX2_sell 28 = .ok (.aload_n 3, 1) := by decide +kernel
theorem dX2_sell_29 : decode cX2_sell 29 = .ok (.invokevirtual 222, 3) := by decide +kernel
theorem dX2_sell_32 : decode cX2_sell 32 = .ok (.ifCond .eq 12, 3) := by decide +kernel
theorem dX2_sell_35 : decode cX2_sell 35 = .ok (.aload_n 3, 1) := by decide +kernel
theorem dX2_sell_36 : decode cX2_sell 36 = .ok (.getfield 201, 3) := by decide +kernel
theorem dX2_sell_39 : decode cX2_sell 39 = .ok (.bipush 7, 2) := by decide +kernel
theorem dX2_sell_41 : decode cX2_sell 41 = .ok (.if_icmp .ne 13, 3) := by decide +kernel
theorem dX2_sell_44 : decode cX2_sell 44 = .ok (.new 90, 3) := by decide +kernel
theorem dX2_sell_47 : decode cX2_sell 47 = .ok (.dup, 1) := by decide +kernel
theorem dX2_sell_48 : decode cX2_sell 48 = .ok (.ldc 226, 2) := by decide +kernel
theorem dX2_sell_50 : decode cX2_sell 50 = .ok (.invokespecial 94, 3) := by decide +kernel
theorem dX2_sell_53 : decode cX2_sell 53 = .ok (.athrow, 1) := by decide +kernel
theorem dX2_sell_54 : decode cX2_sell 54 = .ok (.aload_n 3, 1) := by decide +kernel
theorem dX2_sell_55 : decode cX2_sell 55 = .ok (.iconst 4, 1) := by decide +kernel
theorem dX2_sell_56 : decode cX2_sell 56 = .ok (.putfield 142, 3) := by decide +kernel
theorem dX2_sell_59 : decode cX2_sell 59 = .ok (.aload_n 3, 1) := by decide +kernel
theorem dX2_sell_60 : decode cX2_sell 60 = .ok (.iload_n 2, 1) := by decide +kernel
theorem dX2_sell_61 : decode cX2_sell 61 = .ok (.putfield 228, 3) := by decide +kernel
theorem dX2_sell_64 : decode cX2_sell 64 = .ok (.aload_n 3, 1) := by decide +kernel
theorem dX2_sell_65 : decode cX2_sell 65 = .ok (.aload_n 0, 1) := by decide +kernel
theorem dX2_sell_66 : decode cX2_sell 66 = .ok (.getfield 47, 3) := by decide +kernel
theorem dX2_sell_69 : decode cX2_sell 69 = .ok (.putfield 231, 3) := by decide +kernel
theorem dX2_sell_72 : decode cX2_sell 72 = .ok (.aload_n 0, 1) := by decide +kernel
theorem dX2_sell_73 : decode cX2_sell 73 = .ok (.dup, 1) := by decide +kernel
theorem dX2_sell_74 : decode cX2_sell 74 = .ok (.getfield 59, 3) := by decide +kernel
theorem dX2_sell_77 : decode cX2_sell 77 = .ok (.iload_n 2, 1) := by decide +kernel
theorem dX2_sell_78 : decode cX2_sell 78 = .ok (.iadd, 1) := by decide +kernel
theorem dX2_sell_79 : decode cX2_sell 79 = .ok (.putfield 59, 3) := by decide +kernel
theorem dX2_sell_82 : decode cX2_sell 82 = .ok (.aload_n 0, 1) := by decide +kernel
theorem dX2_sell_83 : decode cX2_sell 83 = .ok (.getfield 59, 3) := by decide +kernel
theorem dX2_sell_86 : decode cX2_sell 86 = .ok (.ireturn, 1) := by decide +kernel
set_option maxRecDepth 20000 in
theorem ggX2_destroy_X2_foundAt : GoodIn wsX2_destroy wsX2_foundAt := goodIn_ca (goodIn_r _ [9, 10, 11, 12, 102, 103, 104, 105, 106, 107, 108, 109, 110, 111, 112, 113, 114, 115, 116] (by decide +kernel) (by decide +kernel)) (goodIn_sub (fun _ h => List.mem_cons_of_mem _ (List.mem_append_right _ h)) (by decide +kernel))
set_option maxRecDepth 20000 in
theorem gX2_destroy_X2_foundAt : GoodIn wsX2_destroy (wsV RX2 133 RX2 yX2_foundAt wsX2_foundAt) := goodIn_app (goodIn_of _ (by decide +kernel)) ggX2_destroy_X2_foundAt
set_option maxRecDepth 20000 in
theorem ggX2_destroy_X2_isOver : GoodIn wsX2_destroy wsX2_isOver := goodIn_r _ [16, 3, 17, 18, 19, 20, 21, 22, 8, 23, 24, 25, 26, 27, 28, 29, 30, 31, 32, 33, 34, 35, 36, 37, 38, 39, 40, 41, 42, 43, 44, 45, 46, 47, 48, 49, 50, 51, 52, 53, 54, 55, 56, 57, 58, 59, 60, 61, 62, 63, 64, 65, 66, 67, 68, 69, 70, 71, 72, 73, 74, 75, 76, 77, 78, 79, 80, 81, 82, 83, 84, 85, 86, 87, 88, 89, 90, 91, 92, 93, 94, 95, 96, 97, 98, 99, 100, 101, 102, 103, 104, 105, 106, 107, 108, 109, 110, 111, 112, 113, 114, 115, 116, 117, 118, 119, 120, 121, 122, 123, 124, 125, 126] (by decide +kernel) (by decide +kernel)
set_option maxRecDepth 20000 in
theorem gX2_destroy_X2_isOver : GoodIn wsX2_destroy (wsV RX2 222 RX2 yX2_isOver wsX2_isOver) := goodIn_app (goodIn_of _ (by decide +kernel)) ggX2_destroy_X2_isOver
theorem dX2_destroy_0 : decode cX2_destroy 0 = .ok (.aload_n 0, 1) := by decide +kernel
theorem dX2_destroy_1 : decode cX2_destroy 1 = .ok (.iload_n 1, 1) := by decide +kernel
theorem dX2_destroy_2 : decode cX2_destroy 2 = .ok (.invokevirtual 133, 3) := by decide +kernel
theorem dX2_destroy_5 : decode cX2_destroy 5 = .ok (.astore_n 2, 1) := by decide +kernel
theorem dX2_destroy_6 : decode cX2_destroy 6 = .ok (.aload_n 0, 1) := by decide +kernel
theorem dX2_destroy_7 : decode cX2_destroy 7 = .ok (.aload_n 2, 1) := by decide +kernel
theorem dX2_destroy_8 : decode cX2_destroy 8 = .ok (.invokevirtual 222, 3) := by decide +kernel
theorem dX2_destroy_11 : decode cX2_destroy 11 = .ok (.ifCond .ne 13, 3) := by decide +kernel
theorem dX2_destroy_14 : decode cX2_destroy 14 = .ok (.new 90, 3) := by decide +kernel
theorem dX2_destroy_17 : decode cX2_destroy 17 = .ok (.dup, 1) := by decide +kernel
theorem dX2_destroy_18 : decode cX2_destroy 18 = .ok (.ldc 234, 2) := by decide +kernel
theorem dX2_destroy_20 : decode cX2_destroy 20 = .ok (.invokespecial 94, 3) := by decide +kernel
theorem dX2_destroy_23 : decode cX2_destroy 23 = .ok (.athrow, 1) := by decide +kernel
theorem dX2_destroy_24 : decode cX2_destroy 24 = .ok (.aload_n 2, 1) := by decide +kernel
theorem dX2_destroy_25 : decode cX2_destroy 25 = .ok (.iconst 5, 1) := by decide +kernel
theorem dX2_destroy_26 : decode cX2_destroy 26 = .ok (.putfield 142, 3) := by decide +kernel
theorem dX2_destroy_29 : decode cX2_destroy 29 = .ok (.aload_n 2, 1) := by decide +kernel
theorem dX2_destroy_30 : decode cX2_destroy 30 = .ok (.getfield 150, 3) := by decide +kernel
theorem dX2_destroy_33 : decode cX2_destroy 33 = .ok (.ireturn, 1) := by decide +kernel
set_option maxRecDepth 20000 in
theorem ggX2_payOut_X2_foundAt : GoodIn wsX2_payOut wsX2_foundAt := goodIn_ca (goodIn_r _ [18, 19, 20, 21, 127, 128, 129, 130, 131, 132, 133, 134, 135, 136, 137, 138, 139, 140, 141] (by decide +kernel) (by decide +kernel)) (goodIn_sub (fun _ h => List.mem_cons_of_mem _ (List.mem_append_right _ h)) (by decide +kernel))
set_option maxRecDepth 20000 in
theorem gX2_payOut_X2_foundAt : GoodIn wsX2_payOut (wsV RX2 133 RX2 yX2_foundAt wsX2_foundAt) := goodIn_app (goodIn_of _ (by decide +kernel)) ggX2_payOut_X2_foundAt
set_option maxRecDepth 20000 in
theorem ggX2_payOut_X2_claimAt : GoodIn wsX2_payOut wsX2_claimAt := goodIn_ca (goodIn_r _ [25, 19, 20, 26, 127, 128, 129, 130, 131, 132, 133, 134, 135, 136, 137, 138, 139, 140, 141] (by decide +kernel) (by decide +kernel)) (goodIn_sub (fun _ h => List.mem_cons_of_mem _ (List.mem_append_right _ h)) (by decide +kernel))
set_option maxRecDepth 20000 in
theorem gX2_payOut_X2_claimAt : GoodIn wsX2_payOut (wsV RX2 177 RX2 yX2_claimAt wsX2_claimAt) := goodIn_app (goodIn_of _ (by decide +kernel)) ggX2_payOut_X2_claimAt
set_option maxRecDepth 20000 in
theorem ggX2_payOut_X2_requireEntitled : GoodIn wsX2_payOut wsX2_requireEntitled := goodIn_ca (goodIn_r _ [30, 1, 2, 31, 32, 33, 17, 34, 35, 36, 37, 38, 39, 40, 41, 42, 43, 44, 45, 46, 47, 48, 49, 9, 50, 51, 52, 53, 54, 55, 56, 57, 58, 59, 60, 61, 62, 63, 64, 65, 66, 67, 68, 69, 70, 71, 72, 73, 74, 75, 76, 77, 78, 79, 80, 81, 82, 83, 84, 85, 86, 87, 88, 89, 90, 91, 92, 93, 94, 95, 96, 97, 98, 8, 10, 99, 100, 101, 102, 103, 104, 26, 105, 142, 143, 144, 145, 146, 147, 148, 149, 150, 151, 127, 128, 129, 130, 131, 132, 133, 134, 135, 136, 137, 138, 139, 140, 141, 112, 113, 114, 115, 116, 117, 118, 119, 120, 121, 122, 123, 124, 125, 126] (by decide +kernel) (by decide +kernel)) (goodIn_sub (fun _ h => List.mem_cons_of_mem _ (List.mem_append_left _ (List.mem_append_right _ h))) (by decide +kernel))
set_option maxRecDepth 20000 in
theorem gX2_payOut_X2_requireEntitled : GoodIn wsX2_payOut (wsV RX2 194 RX2 yX2_requireEntitled wsX2_requireEntitled) := goodIn_app (goodIn_of _ (by decide +kernel)) ggX2_payOut_X2_requireEntitled
set_option maxRecDepth 20000 in
theorem ggX2_payOut_X0_end : GoodIn wsX2_payOut wsX0_end := goodIn_r _ [109, 110, 111, 142, 143, 144, 145, 146, 147, 148, 149, 150, 151] (by decide +kernel) (by decide +kernel)
set_option maxRecDepth 20000 in
theorem gX2_payOut_X0_end : GoodIn wsX2_payOut (wsV RX2 189 RX0 yX0_end wsX0_end) := goodIn_app (goodIn_of _ (by decide +kernel)) ggX2_payOut_X0_end
theorem dX2_payOut_0 : decode cX2_payOut 0 = .ok (.aload_n 0, 1) := by decide +kernel
theorem dX2_payOut_1 : decode cX2_payOut 1 = .ok (.iload_n 1, 1) := by decide +kernel
theorem dX2_payOut_2 : decode cX2_payOut 2 = .ok (.invokevirtual 133, 3) := by decide +kernel
theorem dX2_payOut_5 : decode cX2_payOut 5 = .ok (.astore_n 3, 1) := by decide +kernel
theorem dX2_payOut_6 : decode cX2_payOut 6 = .ok (.aload_n 0, 1) := by decide +kernel
theorem dX2_payOut_7 : decode cX2_payOut 7 = .ok (.iload_n 2, 1) := by decide +kernel
theorem dX2_payOut_8 : decode cX2_payOut 8 = .ok (.invokevirtual 177, 3) := by decide +kernel
theorem dX2_payOut_11 : decode cX2_payOut 11 = .ok (.astore 4, 2) := by decide +kernel
theorem dX2_payOut_13 : decode cX2_payOut 13 = .ok (.aload_n 3, 1) := by decide +kernel
theorem dX2_payOut_14 : decode cX2_payOut 14 = .ok (.getfield 142, 3) := by decide +kernel
theorem dX2_payOut_17 : decode cX2_payOut 17 = .ok (.iconst 4, 1) := by decide +kernel
theorem dX2_payOut_18 : decode cX2_payOut 18 = .ok (.if_icmp .eq 13, 3) := by decide +kernel
theorem dX2_payOut_21 : decode cX2_payOut 21 = .ok (.new 90, 3) := by decide +kernel
theorem dX2_payOut_24 : decode cX2_payOut 24 = .ok (.dup, 1) := by decide +kernel
theorem dX2_payOut_25 : decode cX2_payOut 25 = .ok (.ldc 236, 2) := by decide +kernel
theorem dX2_payOut_27 : decode cX2_payOut 27 = .ok (.invokespecial 94, 3) := by decide +kernel
theorem dX2_payOut_30 : decode cX2_payOut 30 = .ok (.athrow, 1) := by decide +kernel
theorem dX2_payOut_31 : decode cX2_payOut 31 = .ok (.aload_n 0, 1) := by decide +kernel
theorem dX2_payOut_32 : decode cX2_payOut 32 = .ok (.getfield 47, 3) := by decide +kernel
theorem dX2_payOut_35 : decode cX2_payOut 35 = .ok (.aload_n 3, 1) := by decide +kernel
theorem dX2_payOut_36 : decode cX2_payOut 36 = .ok (.getfield 231, 3) := by decide +kernel
theorem dX2_payOut_39 : decode cX2_payOut 39 = .ok (.isub, 1) := by decide +kernel
theorem dX2_payOut_40 : decode cX2_payOut 40 = .ok (.sipush 365, 3) := by decide +kernel
theorem dX2_payOut_43 : decode cX2_payOut 43 = .ok (.if_icmp .le 13, 3) := by decide +kernel
theorem dX2_payOut_46 : decode cX2_payOut 46 = .ok (.new 90, 3) := by decide +kernel
theorem dX2_payOut_49 : decode cX2_payOut 49 = .ok (.dup, 1) := by decide +kernel
theorem dX2_payOut_50 : decode cX2_payOut 50 = .ok (.ldc 238, 2) := by decide +kernel
theorem dX2_payOut_52 : decode cX2_payOut 52 = .ok (.invokespecial 94, 3) := by decide +kernel
theorem dX2_payOut_55 : decode cX2_payOut 55 = .ok (.athrow, 1) := by decide +kernel
theorem dX2_payOut_56 : decode cX2_payOut 56 = .ok (.aload_n 0, 1) := by decide +kernel
theorem dX2_payOut_57 : decode cX2_payOut 57 = .ok (.aload_n 3, 1) := by decide +kernel
theorem dX2_payOut_58 : decode cX2_payOut 58 = .ok (.aload 4, 2) := by decide +kernel
theorem dX2_payOut_60 : decode cX2_payOut 60 = .ok (.invokevirtual 194, 3) := by decide +kernel
theorem dX2_payOut_63 : decode cX2_payOut 63 = .ok (.iconst 5, 1) := by decide +kernel
theorem dX2_payOut_64 : decode cX2_payOut 64 = .ok (.aload_n 3, 1) := by decide +kernel
theorem dX2_payOut_65 : decode cX2_payOut 65 = .ok (.getfield 228, 3) := by decide +kernel
theorem dX2_payOut_68 : decode cX2_payOut 68 = .ok (.invokestatic 240, 3) := by decide +kernel
theorem dX2_payOut_71 : decode cX2_payOut 71 = .ok (.istore 5, 2) := by decide +kernel
theorem dX2_payOut_73 : decode cX2_payOut 73 = .ok (.aload_n 3, 1) := by decide +kernel
theorem dX2_payOut_74 : decode cX2_payOut 74 = .ok (.bipush 6, 2) := by decide +kernel
theorem dX2_payOut_76 : decode cX2_payOut 76 = .ok (.putfield 142, 3) := by decide +kernel
theorem dX2_payOut_79 : decode cX2_payOut 79 = .ok (.aload 4, 2) := by decide +kernel
theorem dX2_payOut_81 : decode cX2_payOut 81 = .ok (.iconst 1, 1) := by decide +kernel
theorem dX2_payOut_82 : decode cX2_payOut 82 = .ok (.aload_n 0, 1) := by decide +kernel
theorem dX2_payOut_83 : decode cX2_payOut 83 = .ok (.getfield 47, 3) := by decide +kernel
theorem dX2_payOut_86 : decode cX2_payOut 86 = .ok (.invokevirtual 189, 3) := by decide +kernel
theorem dX2_payOut_89 : decode cX2_payOut 89 = .ok (.aload 4, 2) := by decide +kernel
theorem dX2_payOut_91 : decode cX2_payOut 91 = .ok (.iload_n 1, 1) := by decide +kernel
theorem dX2_payOut_92 : decode cX2_payOut 92 = .ok (.putfield 207, 3) := by decide +kernel
theorem dX2_payOut_95 : decode cX2_payOut 95 = .ok (.aload_n 0, 1) := by decide +kernel
theorem dX2_payOut_96 : decode cX2_payOut 96 = .ok (.dup, 1) := by decide +kernel
theorem dX2_payOut_97 : decode cX2_payOut 97 = .ok (.getfield 53, 3) := by decide +kernel
theorem dX2_payOut_100 : decode cX2_payOut 100 = .ok (.iload 5, 2) := by decide +kernel
theorem dX2_payOut_102 : decode cX2_payOut 102 = .ok (.iadd, 1) := by decide +kernel
theorem dX2_payOut_103 : decode cX2_payOut 103 = .ok (.putfield 53, 3) := by decide +kernel
theorem dX2_payOut_106 : decode cX2_payOut 106 = .ok (.aload_n 0, 1) := by decide +kernel
theorem dX2_payOut_107 : decode cX2_payOut 107 = .ok (.dup, 1) := by decide +kernel
theorem dX2_payOut_108 : decode cX2_payOut 108 = .ok (.getfield 59, 3) := by decide +kernel
theorem dX2_payOut_111 : decode cX2_payOut 111 = .ok (.aload_n 3, 1) := by decide +kernel
theorem dX2_payOut_112 : decode cX2_payOut 112 = .ok (.getfield 228, 3) := by decide +kernel
theorem dX2_payOut_115 : decode cX2_payOut 115 = .ok (.isub, 1) := by decide +kernel
theorem dX2_payOut_116 : decode cX2_payOut 116 = .ok (.putfield 59, 3) := by decide +kernel
theorem dX2_payOut_119 : decode cX2_payOut 119 = .ok (.aload_n 3, 1) := by decide +kernel
theorem dX2_payOut_120 : decode cX2_payOut 120 = .ok (.getfield 228, 3) := by decide +kernel
theorem dX2_payOut_123 : decode cX2_payOut 123 = .ok (.iload 5, 2) := by decide +kernel
theorem dX2_payOut_125 : decode cX2_payOut 125 = .ok (.isub, 1) := by decide +kernel
theorem dX2_payOut_126 : decode cX2_payOut 126 = .ok (.ireturn, 1) := by decide +kernel
set_option maxRecDepth 20000 in
theorem ggX2_pass_X2_isWithin : GoodIn wsX2_pass wsX2_isWithin := goodIn_r _ [9] (by decide +kernel) (by decide +kernel)
set_option maxRecDepth 20000 in
theorem gX2_pass_X2_isWithin : GoodIn wsX2_pass (va_wsS RX2 73 yX2_isWithin wsX2_isWithin) := goodIn_app (goodIn_of _ (by decide +kernel)) ggX2_pass_X2_isWithin
set_option maxRecDepth 20000 in
theorem ggX2_pass_X2_bringBags : GoodIn wsX2_pass wsX2_bringBags := goodIn_r _ [13, 14, 15, 16, 5, 17, 18, 19, 20, 21, 22, 23, 24, 25, 26, 27, 28, 29, 30, 45, 46, 47, 48, 49, 50, 51, 52, 53, 54, 55, 56, 57, 58, 59, 60, 61, 62, 63, 64, 65, 66, 67, 68, 69, 70, 71, 72, 73, 74] (by decide +kernel) (by decide +kernel)
set_option maxRecDepth 20000 in
theorem gX2_pass_X2_bringBags : GoodIn wsX2_pass (wsV RX2 245 RX2 yX2_bringBags wsX2_bringBags) := goodIn_app (goodIn_of _ (by decide +kernel)) ggX2_pass_X2_bringBags
set_option maxRecDepth 20000 in
theorem ggX2_pass_X2_eraseOldClaims : GoodIn wsX2_pass wsX2_eraseOldClaims := goodIn_r _ [34, 35, 5, 36, 37, 38, 39, 40, 41, 42, 43, 44, 45, 46, 47, 48, 49, 50, 51, 52, 53, 54, 55, 56, 57, 58, 59, 75, 76, 77, 78, 79, 80, 81, 82, 83, 84] (by decide +kernel) (by decide +kernel)
set_option maxRecDepth 20000 in
theorem gX2_pass_X2_eraseOldClaims : GoodIn wsX2_pass (wsV RX2 248 RX2 yX2_eraseOldClaims wsX2_eraseOldClaims) := goodIn_app (goodIn_of _ (by decide +kernel)) ggX2_pass_X2_eraseOldClaims
