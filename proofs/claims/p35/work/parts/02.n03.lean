theorem dL_cell_0 : decode cL_cell 0 = .ok (.iload_n 1, 1) := by decide +kernel
theorem dL_cell_1 : decode cL_cell 1 = .ok (.aload_n 0, 1) := by decide +kernel
theorem dL_cell_2 : decode cL_cell 2 = .ok (.arraylength, 1) := by decide +kernel
theorem dL_cell_3 : decode cL_cell 3 = .ok (.if_icmp .ge 9, 3) := by decide +kernel
theorem dL_cell_6 : decode cL_cell 6 = .ok (.aload_n 0, 1) := by decide +kernel
theorem dL_cell_7 : decode cL_cell 7 = .ok (.iload_n 1, 1) := by decide +kernel
theorem dL_cell_8 : decode cL_cell 8 = .ok (.iaload, 1) := by decide +kernel
theorem dL_cell_9 : decode cL_cell 9 = .ok (.goto 18, 3) := by decide +kernel
theorem dL_cell_12 : decode cL_cell 12 = .ok (.sipush 7919, 3) := by decide +kernel
theorem dL_cell_15 : decode cL_cell 15 = .ok (.iload_n 1, 1) := by decide +kernel
theorem dL_cell_16 : decode cL_cell 16 = .ok (.sipush 1733, 3) := by decide +kernel
theorem dL_cell_19 : decode cL_cell 19 = .ok (.iadd, 1) := by decide +kernel
theorem dL_cell_20 : decode cL_cell 20 = .ok (.imul, 1) := by decide +kernel
theorem dL_cell_21 : decode cL_cell 21 = .ok (.iload_n 1, 1) := by decide +kernel
theorem dL_cell_22 : decode cL_cell 22 = .ok (.sipush 4253, 3) := by decide +kernel
theorem dL_cell_25 : decode cL_cell 25 = .ok (.iadd, 1) := by decide +kernel
theorem dL_cell_26 : decode cL_cell 26 = .ok (.imul, 1) := by decide +kernel
theorem dL_cell_27 : decode cL_cell 27 = .ok (.ireturn, 1) := by decide +kernel
theorem dL_low_0 : decode cL_low 0 = .ok (.iload_n 0, 1) := by decide +kernel
theorem dL_low_1 : decode cL_low 1 = .ok (.ldc 7, 2) := by decide +kernel
theorem dL_low_3 : decode cL_low 3 = .ok (.iand, 1) := by decide +kernel
theorem dL_low_4 : decode cL_low 4 = .ok (.iload_n 1, 1) := by decide +kernel
theorem dL_low_5 : decode cL_low 5 = .ok (.irem, 1) := by decide +kernel
theorem dL_low_6 : decode cL_low 6 = .ok (.ireturn, 1) := by decide +kernel
set_option maxRecDepth 20000 in
theorem ggL_does_L_early : GoodIn wsL_does wsL_early := goodIn_ca (goodIn_ca (goodIn_ca (goodIn_r _ [8, 9, 10, 11, 12, 13, 14, 15, 16, 17, 18, 19, 20, 21, 22, 23, 24, 25, 26, 27, 28, 29, 30, 31, 32, 33, 34, 35, 36, 37, 38, 39, 40, 41, 42, 43, 44, 45, 46, 47, 48, 49, 50, 51, 52, 53, 54, 55, 56, 57, 58, 59, 60, 61, 62, 63, 64, 65, 66, 67, 68, 69, 70, 71, 72, 73, 74, 75, 76, 77, 78, 79, 80, 81, 82, 83, 84, 85, 86, 87, 88, 89, 90, 91, 92, 93, 94, 95, 96, 97, 98, 99, 100, 101, 102, 103, 104, 105, 106, 107, 108, 109, 110, 111, 323, 324, 325, 326, 327, 328, 329, 330, 331, 332, 333, 334, 335, 336, 337, 338, 339, 340, 341, 342, 343, 344, 345, 346, 347, 348, 349, 350, 351, 352] (by decide +kernel) (by decide +kernel)) (goodIn_sub (fun _ h => List.mem_cons_of_mem _ (List.mem_append_left _ (List.mem_append_left _ (List.mem_append_right _ h)))) (by decide +kernel))) (goodIn_sub (fun _ h => List.mem_cons_of_mem _ (List.mem_append_left _ (List.mem_append_right _ h))) (by decide +kernel))) (goodIn_sub (fun _ h => List.mem_cons_of_mem _ (List.mem_append_right _ h)) (by decide +kernel))
set_option maxRecDepth 20000 in
theorem gL_does_L_early : GoodIn wsL_does (va_wsS RL 8 yL_early wsL_early) := goodIn_app (goodIn_of _ (by decide +kernel)) ggL_does_L_early
set_option maxRecDepth 20000 in
theorem ggL_does_X2_say : GoodIn wsL_does wsX2_say := goodIn_ca (goodIn_ca (goodIn_ca (goodIn_r _ [115, 116, 117, 118, 119, 12, 120, 18, 19, 121, 70, 71, 72, 20, 21, 73, 33, 34, 35, 122, 123, 124, 40, 41, 125, 46, 47, 48, 49, 50, 51, 52, 353, 354, 355, 356, 357, 358, 359, 360, 361, 362, 323, 324, 325, 326, 327, 328, 329, 330, 331, 332, 333, 334, 335, 336, 337] (by decide +kernel) (by decide +kernel)) (goodIn_sub (fun _ h => List.mem_cons_of_mem _ (List.mem_append_left _ (List.mem_append_left _ (List.mem_append_right _ h)))) (by decide +kernel))) (goodIn_sub (fun _ h => List.mem_cons_of_mem _ (List.mem_append_left _ (List.mem_append_right _ h))) (by decide +kernel))) (goodIn_sub (fun _ h => List.mem_cons_of_mem _ (List.mem_append_right _ h)) (by decide +kernel))
set_option maxRecDepth 20000 in
theorem gL_does_X2_say : GoodIn wsL_does (wsV RL 14 RX2 yX2_say wsX2_say) := goodIn_app (goodIn_of _ (by decide +kernel)) ggL_does_X2_say
set_option maxRecDepth 20000 in
theorem ggL_does_X2_tell : GoodIn wsL_does wsX2_tell := goodIn_ca (goodIn_ca (goodIn_ca (goodIn_r _ [129, 116, 130, 117, 118, 119, 12, 120, 18, 19, 121, 70, 71, 72, 20, 21, 73, 33, 34, 35, 122, 123, 124, 40, 41, 125, 46, 47, 48, 49, 50, 51, 52, 353, 354, 355, 356, 357, 358, 359, 360, 361, 362, 323, 324, 325, 326, 327, 328, 329, 330, 331, 332, 333, 334, 335, 336, 337] (by decide +kernel) (by decide +kernel)) (goodIn_sub (fun _ h => List.mem_cons_of_mem _ (List.mem_append_left _ (List.mem_append_left _ (List.mem_append_right _ h)))) (by decide +kernel))) (goodIn_sub (fun _ h => List.mem_cons_of_mem _ (List.mem_append_left _ (List.mem_append_right _ h))) (by decide +kernel))) (goodIn_sub (fun _ h => List.mem_cons_of_mem _ (List.mem_append_right _ h)) (by decide +kernel))
set_option maxRecDepth 20000 in
theorem gL_does_X2_tell : GoodIn wsL_does (wsV RL 20 RX2 yX2_tell wsX2_tell) := goodIn_app (goodIn_of _ (by decide +kernel)) ggL_does_X2_tell
set_option maxRecDepth 20000 in
theorem ggL_does_X2_withdraw : GoodIn wsL_does wsX2_withdraw := goodIn_ca (goodIn_ca (goodIn_r _ [134, 87, 117, 118, 119, 12, 120, 18, 19, 121, 122, 123, 124, 40, 41, 125, 135, 136, 137, 138, 139, 140, 141, 323, 324, 325, 326, 327, 328, 329, 330, 331, 332, 333, 334, 335, 336, 337, 353, 354, 355, 356, 357, 358, 359, 360, 361, 362] (by decide +kernel) (by decide +kernel)) (goodIn_sub (fun _ h => List.mem_cons_of_mem _ (List.mem_append_left _ (List.mem_append_left _ (List.mem_append_right _ h)))) (by decide +kernel))) (goodIn_sub (fun _ h => List.mem_cons_of_mem _ (List.mem_append_right _ h)) (by decide +kernel))
set_option maxRecDepth 20000 in
theorem gL_does_X2_withdraw : GoodIn wsL_does (wsV RL 23 RX2 yX2_withdraw wsX2_withdraw) := goodIn_app (goodIn_of _ (by decide +kernel)) ggL_does_X2_withdraw
set_option maxRecDepth 20000 in
theorem ggL_does_X2_release : GoodIn wsL_does wsX2_release := goodIn_ca (goodIn_ca (goodIn_r _ [145, 40, 41, 63, 107, 146, 147, 87, 148, 149, 150, 65, 66, 67, 12, 68, 18, 19, 69, 117, 118, 119, 120, 121, 151, 152, 153, 154, 155, 156, 157, 158, 125, 57, 159, 160, 161, 162, 163, 164, 165, 166, 167, 168, 169, 170, 171, 172, 173, 174, 175, 176, 177, 178, 179, 180, 26, 181, 182, 183, 184, 185, 186, 187, 188, 42, 189, 190, 191, 192, 193, 194, 195, 64, 62, 130, 116, 196, 197, 198, 199, 14, 46, 47, 48, 49, 50, 51, 52, 200, 201, 202, 138, 203, 204, 205, 206, 207, 208, 209, 210, 211, 212, 213, 214, 215, 216, 217, 218, 32, 135, 136, 137, 139, 140, 141, 338, 339, 340, 341, 342, 343, 344, 345, 346, 347, 348, 349, 350, 351, 352, 323, 324, 325, 326, 327, 328, 329, 330, 331, 332, 333, 334, 335, 336, 337, 353, 354, 355, 356, 357, 358, 359, 360, 361, 362] (by decide +kernel) (by decide +kernel)) (goodIn_sub (fun _ h => List.mem_cons_of_mem _ (List.mem_append_right _ h)) (by decide +kernel))) (goodIn_sub (fun _ h => List.mem_cons_of_mem _ (List.mem_append_left _ (List.mem_append_left _ (List.mem_append_right _ h)))) (by decide +kernel))
set_option maxRecDepth 20000 in
theorem gL_does_X2_release : GoodIn wsL_does (wsV RL 27 RX2 yX2_release wsX2_release) := goodIn_app (goodIn_of _ (by decide +kernel)) ggL_does_X2_release
set_option maxRecDepth 20000 in
theorem ggL_does_X2_extend : GoodIn wsL_does wsX2_extend := goodIn_ca (goodIn_ca (goodIn_ca (goodIn_r _ [222, 20, 21, 40, 41, 147, 223, 87, 169, 170, 171, 172, 65, 66, 67, 12, 68, 18, 19, 69, 33, 34, 35, 108, 109, 110, 92, 111, 94, 338, 339, 340, 341, 342, 343, 344, 345, 346, 347, 348, 349, 350, 351, 352, 323, 324, 325, 326, 327, 328, 329, 330, 331, 332, 333, 334, 335, 336, 337] (by decide +kernel) (by decide +kernel)) (goodIn_sub (fun _ h => List.mem_cons_of_mem _ (List.mem_append_left _ (List.mem_append_right _ h))) (by decide +kernel))) (goodIn_sub (fun _ h => List.mem_cons_of_mem _ (List.mem_append_right _ h)) (by decide +kernel))) (goodIn_sub (fun _ h => List.mem_cons_of_mem _ (List.mem_append_left _ (List.mem_append_left _ (List.mem_append_right _ h)))) (by decide +kernel))
set_option maxRecDepth 20000 in
theorem gL_does_X2_extend : GoodIn wsL_does (wsV RL 30 RX2 yX2_extend wsX2_extend) := goodIn_app (goodIn_of _ (by decide +kernel)) ggL_does_X2_extend
set_option maxRecDepth 20000 in
theorem ggL_does_X2_sell : GoodIn wsL_does wsX2_sell := goodIn_ca (goodIn_ca (goodIn_ca (goodIn_r _ [227, 20, 21, 40, 41, 147, 63, 228, 87, 229, 230, 65, 66, 67, 12, 68, 18, 19, 69, 33, 34, 35, 231, 232, 233, 234, 223, 107, 235, 236, 237, 238, 121, 155, 156, 157, 158, 125, 57, 159, 160, 161, 162, 163, 164, 165, 166, 167, 168, 169, 170, 171, 172, 173, 174, 175, 176, 177, 178, 179, 180, 26, 181, 182, 183, 184, 185, 186, 187, 188, 42, 189, 190, 191, 192, 193, 194, 195, 64, 62, 130, 116, 196, 197, 198, 199, 14, 46, 47, 48, 49, 50, 51, 52, 338, 339, 340, 341, 342, 343, 344, 345, 346, 347, 348, 349, 350, 351, 352, 323, 324, 325, 326, 327, 328, 329, 330, 331, 332, 333, 334, 335, 336, 337, 353, 354, 355, 356, 357, 358, 359, 360, 361, 362] (by decide +kernel) (by decide +kernel)) (goodIn_sub (fun _ h => List.mem_cons_of_mem _ (List.mem_append_left _ (List.mem_append_right _ h))) (by decide +kernel))) (goodIn_sub (fun _ h => List.mem_cons_of_mem _ (List.mem_append_right _ h)) (by decide +kernel))) (goodIn_sub (fun _ h => List.mem_cons_of_mem _ (List.mem_append_left _ (List.mem_append_left _ (List.mem_append_right _ h)))) (by decide +kernel))
set_option maxRecDepth 20000 in
theorem gL_does_X2_sell : GoodIn wsL_does (wsV RL 33 RX2 yX2_sell wsX2_sell) := goodIn_app (goodIn_of _ (by decide +kernel)) ggL_does_X2_sell
set_option maxRecDepth 20000 in
theorem ggL_does_X2_destroy : GoodIn wsL_does wsX2_destroy := goodIn_ca (goodIn_ca (goodIn_r _ [242, 40, 41, 63, 78, 65, 66, 67, 12, 68, 18, 19, 69, 231, 232, 233, 234, 87, 223, 107, 235, 236, 237, 238, 121, 155, 156, 157, 158, 125, 57, 159, 160, 161, 162, 147, 163, 164, 165, 166, 167, 168, 169, 170, 171, 172, 173, 174, 175, 176, 177, 178, 179, 180, 26, 181, 182, 183, 184, 185, 186, 187, 188, 42, 189, 190, 191, 192, 193, 194, 195, 64, 62, 130, 116, 196, 197, 198, 199, 14, 46, 47, 48, 49, 50, 51, 52, 338, 339, 340, 341, 342, 343, 344, 345, 346, 347, 348, 349, 350, 351, 352, 323, 324, 325, 326, 327, 328, 329, 330, 331, 332, 333, 334, 335, 336, 337, 353, 354, 355, 356, 357, 358, 359, 360, 361, 362] (by decide +kernel) (by decide +kernel)) (goodIn_sub (fun _ h => List.mem_cons_of_mem _ (List.mem_append_right _ h)) (by decide +kernel))) (goodIn_sub (fun _ h => List.mem_cons_of_mem _ (List.mem_append_left _ (List.mem_append_left _ (List.mem_append_right _ h)))) (by decide +kernel))
set_option maxRecDepth 20000 in
theorem gL_does_X2_destroy : GoodIn wsL_does (wsV RL 36 RX2 yX2_destroy wsX2_destroy) := goodIn_app (goodIn_of _ (by decide +kernel)) ggL_does_X2_destroy
set_option maxRecDepth 20000 in
theorem ggL_does_X2_payOut : GoodIn wsL_does wsX2_payOut := goodIn_ca (goodIn_ca (goodIn_r _ [246, 40, 41, 63, 87, 229, 228, 247, 206, 171, 207, 148, 149, 230, 65, 66, 67, 12, 68, 18, 19, 69, 117, 118, 119, 120, 121, 151, 152, 153, 154, 155, 156, 157, 158, 125, 57, 159, 160, 161, 162, 147, 163, 164, 165, 166, 167, 168, 169, 170, 172, 173, 174, 175, 176, 177, 178, 179, 180, 26, 181, 182, 183, 184, 185, 186, 187, 188, 42, 189, 190, 191, 192, 193, 194, 195, 64, 62, 130, 116, 196, 197, 198, 199, 14, 46, 47, 48, 49, 50, 51, 52, 200, 201, 202, 138, 203, 204, 205, 208, 209, 210, 211, 212, 213, 214, 135, 136, 137, 139, 140, 141, 338, 339, 340, 341, 342, 343, 344, 345, 346, 347, 348, 349, 350, 351, 352, 323, 324, 325, 326, 327, 328, 329, 330, 331, 332, 333, 334, 335, 336, 337, 353, 354, 355, 356, 357, 358, 359, 360, 361, 362] (by decide +kernel) (by decide +kernel)) (goodIn_sub (fun _ h => List.mem_cons_of_mem _ (List.mem_append_right _ h)) (by decide +kernel))) (goodIn_sub (fun _ h => List.mem_cons_of_mem _ (List.mem_append_left _ (List.mem_append_left _ (List.mem_append_right _ h)))) (by decide +kernel))
set_option maxRecDepth 20000 in
theorem gL_does_X2_payOut : GoodIn wsL_does (wsV RL 39 RX2 yX2_payOut wsX2_payOut) := goodIn_app (goodIn_of _ (by decide +kernel)) ggL_does_X2_payOut
set_option maxRecDepth 20000 in
theorem ggL_does_X2_pass : GoodIn wsL_does wsX2_pass := goodIn_ca (goodIn_ca (goodIn_r _ [251, 20, 21, 40, 41, 87, 33, 34, 12, 35, 252, 253, 254, 255, 69, 63, 78, 89, 90, 91, 92, 93, 94, 95, 96, 97, 98, 99, 100, 101, 102, 256, 257, 258, 259, 121, 260, 261, 262, 138, 263, 140, 141, 264, 208, 323, 324, 325, 326, 327, 328, 329, 330, 331, 332, 333, 334, 335, 336, 337, 338, 339, 340, 341, 342, 343, 344, 345, 346, 347, 348, 349, 350, 351, 352, 353, 354, 355, 356, 357, 358, 359, 360, 361, 362] (by decide +kernel) (by decide +kernel)) (goodIn_sub (fun _ h => List.mem_cons_of_mem _ (List.mem_append_left _ (List.mem_append_right _ h))) (by decide +kernel))) (goodIn_sub (fun _ h => List.mem_cons_of_mem _ (List.mem_append_right _ h)) (by decide +kernel))
set_option maxRecDepth 20000 in
theorem gL_does_X2_pass : GoodIn wsL_does (wsV RL 42 RX2 yX2_pass wsX2_pass) := goodIn_app (goodIn_of _ (by decide +kernel)) ggL_does_X2_pass
set_option maxRecDepth 20000 in
theorem ggL_does_X2_fit : GoodIn wsL_does wsX2_fit := goodIn_ca (goodIn_r _ [268, 65, 66, 67, 12, 68, 18, 19, 69, 117, 118, 119, 120, 121, 159, 160, 161, 162, 147, 163, 164, 165, 166, 167, 168, 169, 170, 171, 172, 173, 174, 175, 176, 177, 178, 179, 180, 26, 181, 182, 183, 184, 185, 186, 187, 188, 42, 189, 190, 191, 192, 193, 194, 195, 64, 62, 130, 116, 196, 197, 198, 199, 14, 46, 47, 48, 49, 50, 51, 52, 323, 324, 325, 326, 327, 328, 329, 330, 331, 332, 333, 334, 335, 336, 337, 338, 339, 340, 341, 342, 343, 344, 345, 346, 347, 348, 349, 350, 351, 352, 353, 354, 355, 356, 357, 358, 359, 360, 361, 362] (by decide +kernel) (by decide +kernel)) (goodIn_sub (fun _ h => List.mem_cons_of_mem _ (List.mem_append_left _ (List.mem_append_left _ (List.mem_append_right _ h)))) (by decide +kernel))
set_option maxRecDepth 20000 in
theorem gL_does_X2_fit : GoodIn wsL_does (wsV RL 45 RX2 yX2_fit wsX2_fit) := goodIn_app (goodIn_of _ (by decide +kernel)) ggL_does_X2_fit
set_option maxRecDepth 20000 in
theorem ggL_does_X2_candidate : GoodIn wsL_does wsX2_candidate := goodIn_ca (goodIn_r _ [272, 18, 19, 273, 117, 118, 119, 12, 120, 121, 274, 275, 276, 277, 69, 108, 109, 110, 92, 111, 94, 155, 156, 157, 158, 125, 57, 159, 160, 161, 162, 147, 163, 164, 165, 166, 167, 168, 169, 170, 171, 172, 173, 174, 175, 176, 177, 178, 179, 180, 26, 181, 182, 183, 184, 185, 186, 187, 188, 42, 189, 190, 191, 192, 193, 194, 195, 64, 62, 130, 116, 196, 197, 198, 199, 14, 46, 47, 48, 49, 50, 51, 52, 278, 279, 280, 281, 323, 324, 325, 326, 327, 328, 329, 330, 331, 332, 333, 334, 335, 336, 337, 338, 339, 340, 341, 342, 343, 344, 345, 346, 347, 348, 349, 350, 351, 352, 353, 354, 355, 356, 357, 358, 359, 360, 361, 362] (by decide +kernel) (by decide +kernel)) (goodIn_sub (fun _ h => List.mem_cons_of_mem _ (List.mem_append_left _ (List.mem_append_left _ (List.mem_append_right _ h)))) (by decide +kernel))
set_option maxRecDepth 20000 in
theorem gL_does_X2_candidate : GoodIn wsL_does (wsV RL 48 RX2 yX2_candidate wsX2_candidate) := goodIn_app (goodIn_of _ (by decide +kernel)) ggL_does_X2_candidate
set_option maxRecDepth 20000 in
theorem ggL_does_X2_question : GoodIn wsL_does wsX2_question := goodIn_ca (goodIn_r _ [285, 116, 286, 287, 171, 288, 117, 118, 119, 12, 120, 18, 19, 121, 274, 275, 276, 277, 273, 69, 108, 109, 110, 92, 111, 94, 155, 156, 157, 158, 125, 57, 159, 160, 161, 162, 147, 163, 164, 165, 166, 167, 168, 169, 170, 172, 173, 174, 175, 176, 177, 178, 179, 180, 26, 181, 182, 183, 184, 185, 186, 187, 188, 42, 189, 190, 191, 192, 193, 194, 195, 64, 62, 130, 196, 197, 198, 199, 14, 46, 47, 48, 49, 50, 51, 52, 289, 290, 291, 292, 353, 354, 355, 356, 357, 358, 359, 360, 361, 362, 323, 324, 325, 326, 327, 328, 329, 330, 331, 332, 333, 334, 335, 336, 337, 338, 339, 340, 341, 342, 343, 344, 345, 346, 347, 348, 349, 350, 351, 352] (by decide +kernel) (by decide +kernel)) (goodIn_sub (fun _ h => List.mem_cons_of_mem _ (List.mem_append_left _ (List.mem_append_left _ (List.mem_append_right _ h)))) (by decide +kernel))
set_option maxRecDepth 20000 in
theorem gL_does_X2_question : GoodIn wsL_does (wsV RL 51 RX2 yX2_question wsX2_question) := goodIn_app (goodIn_of _ (by decide +kernel)) ggL_does_X2_question
set_option maxRecDepth 20000 in
theorem ggL_does_X2_isProven : GoodIn wsL_does wsX2_isProven := goodIn_ca (goodIn_r _ [296, 65, 66, 67, 12, 68, 18, 19, 69, 117, 118, 119, 120, 121, 200, 201, 202, 138, 203, 204, 205, 206, 171, 207, 208, 209, 47, 48, 49, 50, 51, 52, 323, 324, 325, 326, 327, 328, 329, 330, 331, 332, 333, 334, 335, 336, 337, 338, 339, 340, 341, 342, 343, 344, 345, 346, 347, 348, 349, 350, 351, 352, 353, 354, 355, 356, 357, 358, 359, 360, 361, 362] (by decide +kernel) (by decide +kernel)) (goodIn_sub (fun _ h => List.mem_cons_of_mem _ (List.mem_append_left _ (List.mem_append_left _ (List.mem_append_right _ h)))) (by decide +kernel))
set_option maxRecDepth 20000 in
theorem gL_does_X2_isProven : GoodIn wsL_does (wsV RL 54 RX2 yX2_isProven wsX2_isProven) := goodIn_app (goodIn_of _ (by decide +kernel)) ggL_does_X2_isProven
set_option maxRecDepth 20000 in
theorem ggL_does_X2_isDue : GoodIn wsL_does wsX2_isDue := goodIn_ca (goodIn_r _ [300, 65, 66, 67, 12, 68, 18, 19, 69, 231, 232, 233, 234, 63, 87, 223, 107, 235, 236, 237, 238, 121, 155, 156, 157, 158, 125, 57, 159, 160, 161, 162, 147, 163, 164, 165, 166, 167, 168, 169, 170, 171, 172, 173, 174, 175, 176, 177, 178, 179, 180, 26, 181, 182, 183, 184, 185, 186, 187, 188, 42, 189, 190, 191, 192, 193, 194, 195, 64, 62, 130, 116, 196, 197, 198, 199, 14, 46, 47, 48, 49, 50, 51, 52, 323, 324, 325, 326, 327, 328, 329, 330, 331, 332, 333, 334, 335, 336, 337, 338, 339, 340, 341, 342, 343, 344, 345, 346, 347, 348, 349, 350, 351, 352, 353, 354, 355, 356, 357, 358, 359, 360, 361, 362] (by decide +kernel) (by decide +kernel)) (goodIn_sub (fun _ h => List.mem_cons_of_mem _ (List.mem_append_left _ (List.mem_append_left _ (List.mem_append_right _ h)))) (by decide +kernel))
set_option maxRecDepth 20000 in
theorem gL_does_X2_isDue : GoodIn wsL_does (wsV RL 58 RX2 yX2_isDue wsX2_isDue) := goodIn_app (goodIn_of _ (by decide +kernel)) ggL_does_X2_isDue
set_option maxRecDepth 20000 in
theorem ggL_does_X2_ofFind : GoodIn wsL_does wsX2_ofFind := goodIn_ca (goodIn_ca (goodIn_r _ [304, 20, 21, 63, 78, 223, 64, 88, 65, 66, 67, 12, 68, 18, 19, 69, 338, 339, 340, 341, 342, 343, 344, 345, 346, 347, 348, 349, 350, 351, 352, 323, 324, 325, 326, 327, 328, 329, 330, 331, 332, 333, 334, 335, 336, 337] (by decide +kernel) (by decide +kernel)) (goodIn_sub (fun _ h => List.mem_cons_of_mem _ (List.mem_append_left _ (List.mem_append_right _ h))) (by decide +kernel))) (goodIn_sub (fun _ h => List.mem_cons_of_mem _ (List.mem_append_left _ (List.mem_append_left _ (List.mem_append_right _ h)))) (by decide +kernel))
set_option maxRecDepth 20000 in
theorem gL_does_X2_ofFind : GoodIn wsL_does (wsV RL 62 RX2 yX2_ofFind wsX2_ofFind) := goodIn_app (goodIn_of _ (by decide +kernel)) ggL_does_X2_ofFind
set_option maxRecDepth 20000 in
theorem ggL_does_X2_hand : GoodIn wsL_does wsX2_hand := goodIn_ca (goodIn_r _ [308, 18, 19, 88, 309, 310, 65, 66, 67, 12, 68, 69, 338, 339, 340, 341, 342, 343, 344, 345, 346, 347, 348, 349, 350, 351, 352, 323, 324, 325, 326, 327, 328, 329, 330, 331, 332, 333, 334, 335, 336, 337] (by decide +kernel) (by decide +kernel)) (goodIn_sub (fun _ h => List.mem_cons_of_mem _ (List.mem_append_left _ (List.mem_append_left _ (List.mem_append_right _ h)))) (by decide +kernel))
set_option maxRecDepth 20000 in
theorem gL_does_X2_hand : GoodIn wsL_does (wsV RL 65 RX2 yX2_hand wsX2_hand) := goodIn_app (goodIn_of _ (by decide +kernel)) ggL_does_X2_hand
set_option maxRecDepth 20000 in
theorem ggL_does_X2_ofClaim : GoodIn wsL_does wsX2_ofClaim := goodIn_ca (goodIn_ca (goodIn_r _ [314, 20, 21, 125, 116, 130, 148, 117, 118, 119, 12, 120, 18, 19, 121, 353, 354, 355, 356, 357, 358, 359, 360, 361, 362, 323, 324, 325, 326, 327, 328, 329, 330, 331, 332, 333, 334, 335, 336, 337] (by decide +kernel) (by decide +kernel)) (goodIn_sub (fun _ h => List.mem_cons_of_mem _ (List.mem_append_left _ (List.mem_append_right _ h))) (by decide +kernel))) (goodIn_sub (fun _ h => List.mem_cons_of_mem _ (List.mem_append_left _ (List.mem_append_left _ (List.mem_append_right _ h)))) (by decide +kernel))
set_option maxRecDepth 20000 in
theorem gL_does_X2_ofClaim : GoodIn wsL_does (wsV RL 69 RX2 yX2_ofClaim wsX2_ofClaim) := goodIn_app (goodIn_of _ (by decide +kernel)) ggL_does_X2_ofClaim
set_option maxRecDepth 20000 in
theorem ggL_does_X2_money : GoodIn wsL_does wsX2_money := goodIn_ca (goodIn_r _ [318, 20, 21, 149, 150, 230, 323, 324, 325, 326, 327, 328, 329, 330, 331, 332, 333, 334, 335, 336, 337] (by decide +kernel) (by decide +kernel)) (goodIn_sub (fun _ h => List.mem_cons_of_mem _ (List.mem_append_left _ (List.mem_append_right _ h))) (by decide +kernel))
set_option maxRecDepth 20000 in
theorem gL_does_X2_money : GoodIn wsL_does (wsV RL 72 RX2 yX2_money wsX2_money) := goodIn_app (goodIn_of _ (by decide +kernel)) ggL_does_X2_money
set_option maxRecDepth 20000 in
theorem ggL_does_X2_audit : GoodIn wsL_does wsX2_audit := goodIn_ca (goodIn_r _ [322, 69, 63, 78, 43, 44, 12, 45, 18, 19, 33, 34, 35, 323, 324, 325, 326, 327, 328, 329, 330, 331, 332, 333, 334, 335, 336, 337, 338, 339, 340, 341, 342, 343, 344, 345, 346, 347, 348, 349, 350, 351, 352] (by decide +kernel) (by decide +kernel)) (goodIn_sub (fun _ h => List.mem_cons_of_mem _ (List.mem_append_left _ (List.mem_append_left _ (List.mem_append_right _ h)))) (by decide +kernel))
set_option maxRecDepth 20000 in
theorem gL_does_X2_audit : GoodIn wsL_does (wsV RL 75 RX2 yX2_audit wsX2_audit) := goodIn_app (goodIn_of _ (by decide +kernel)) ggL_does_X2_audit
theorem dL_does_0 : decode cL_does 0 = .ok (.iload_n 1, 1) := by decide +kernel
theorem dL_does_1 : decode cL_does 1 = .ok (.bipush 10, 2) := by decide +kernel
theorem dL_does_3 : decode cL_does 3 = .ok (.if_icmp .ge 15, 3) := by decide +kernel
theorem dL_does_6 : decode cL_does 6 = .ok (.aload_n 0, 1) := by decide +kernel
theorem dL_does_7 : decode cL_does 7 = .ok (.iload_n 1, 1) := by decide +kernel
theorem dL_does_8 : decode cL_does 8 = .ok (.iload_n 2, 1) := by decide +kernel
theorem dL_does_9 : decode cL_does 9 = .ok (.iload_n 3, 1) := by decide +kernel
theorem dL_does_10 : decode cL_does 10 = .ok (.iload 4, 2) := by decide +kernel
theorem dL_does_12 : decode cL_does 12 = .ok (.invokestatic 8, 3) := by decide +kernel
theorem dL_does_15 : decode cL_does 15 = .ok (.goto 299, 3) := by decide +kernel
theorem dL_does_18 : decode cL_does 18 = .ok (.iload_n 1, 1) := by decide +kernel
theorem dL_does_19 : decode cL_does 19 = .ok (.bipush 10, 2) := by decide +kernel
theorem dL_does_21 : decode cL_does 21 = .ok (.if_icmp .ne 12, 3) := by decide +kernel
theorem dL_does_24 : decode cL_does 24 = .ok (.aload_n 0, 1) := by decide +kernel
theorem dL_does_25 : decode cL_does 25 = .ok (.iload_n 2, 1) := by decide +kernel
theorem dL_does_26 : decode cL_does 26 = .ok (.iload_n 3, 1) := by decide +kernel
theorem dL_does_27 : decode cL_does 27 = .ok (.invokevirtual 14, 3) := by decide +kernel
theorem dL_does_30 : decode cL_does 30 = .ok (.goto 284, 3) := by decide +kernel
theorem dL_does_33 : decode cL_does 33 = .ok (.iload_n 1, 1) := by decide +kernel
theorem dL_does_34 : decode cL_does 34 = .ok (.bipush 11, 2) := by decide +kernel
theorem dL_does_36 : decode cL_does 36 = .ok (.if_icmp .ne 12, 3) := by decide +kernel
theorem dL_does_39 : decode cL_does 39 = .ok (.aload_n 0, 1) := by decide +kernel
theorem dL_does_40 : decode cL_does 40 = .ok (.iload_n 2, 1) := by decide +kernel
theorem dL_does_41 : decode cL_does 41 = .ok (.iload_n 3, 1) := by decide +kernel
theorem dL_does_42 : decode cL_does 42 = .ok (.invokevirtual 20, 3) := by decide +kernel
theorem dL_does_45 : decode cL_does 45 = .ok (.goto 269, 3) := by decide +kernel
theorem dL_does_48 : decode cL_does 48 = .ok (.iload_n 1, 1) := by decide +kernel
theorem dL_does_49 : decode cL_does 49 = .ok (.bipush 12, 2) := by decide +kernel
theorem dL_does_51 : decode cL_does 51 = .ok (.if_icmp .ne 11, 3) := by decide +kernel
theorem dL_does_54 : decode cL_does 54 = .ok (.aload_n 0, 1) := by decide +kernel
theorem dL_does_55 : decode cL_does 55 = .ok (.iload_n 2, 1) := by decide +kernel
theorem dL_does_56 : decode cL_does 56 = .ok (.invokevirtual 23, 3) := by decide +kernel
theorem dL_does_59 : decode cL_does 59 = .ok (.goto 255, 3) := by decide +kernel
theorem dL_does_62 : decode cL_does 62 = .ok (.iload_n 1, 1) := by decide +kernel
theorem dL_does_63 : decode cL_does 63 = .ok (.bipush 13, 2) := by decide +kernel
theorem dL_does_65 : decode cL_does 65 = .ok (.if_icmp .ne 12, 3) := by decide +kernel
theorem dL_does_68 : decode cL_does 68 = .ok (.aload_n 0, 1) := by decide +kernel
theorem dL_does_69 : decode cL_does 69 = .ok (.iload_n 2, 1) := by decide +kernel
theorem dL_does_70 : decode cL_does 70 = .ok (.iload_n 3, 1) := by decide +kernel
theorem dL_does_71 : decode cL_does 71 = .ok (.invokevirtual 27, 3) := by decide +kernel
theorem dL_does_74 : decode cL_does 74 = .ok (.goto 240, 3) := by decide +kernel
theorem dL_does_77 : decode cL_does 77 = .ok (.iload_n 1, 1) := by decide +kernel
theorem dL_does_78 : decode cL_does 78 = .ok (.bipush 14, 2) := by decide +kernel
theorem dL_does_80 : decode cL_does 80 = .ok (.if_icmp .ne 12, 3) := by decide +kernel
theorem dL_does_83 : decode cL_does 83 = .ok (.aload_n 0, 1) := by decide +kernel
theorem dL_does_84 : decode cL_does 84 = .ok (.iload_n 2, 1) := by decide +kernel
theorem dL_does_85 : decode cL_does 85 = .ok (.iload_n 3, 1) := by decide +kernel
theorem dL_does_86 : decode cL_does 86 = .ok (.invokevirtual 30, 3) := by decide +kernel
theorem dL_does_89 : decode cL_does 89 = .ok (.goto 225, 3) := by decide +kernel
theorem dL_does_92 : decode cL_does 92 = .ok (.iload_n 1, 1) := by decide +kernel
theorem dL_does_93 : decode cL_does 93 = .ok (.bipush 15, 2) := by decide +kernel
theorem dL_does_95 : decode cL_does 95 = .ok (.if_icmp .ne 12, 3) := by decide +kernel
theorem dL_does_98 : decode cL_does 98 = .ok (.aload_n 0, 1) := by decide +kernel
theorem dL_does_99 : decode cL_does 99 = .ok (.iload_n 2, 1) := by decide +kernel
theorem dL_does_100 : decode cL_does 100 = .ok (.iload_n 3, 1) := by decide +kernel
theorem dL_does_101 : decode cL_does 101 = .ok (.invokevirtual 33, 3) := by decide +kernel
theorem dL_does_104 : decode cL_does 104 = .ok (.goto 210, 3) := by decide +kernel
theorem dL_does_107 : decode cL_does 107 = .ok (.iload_n 1, 1) := by decide +kernel
theorem dL_does_108 : decode cL_does 108 = .ok (.bipush 16, 2) := by decide +kernel
theorem dL_does_110 : decode cL_does 110 = .ok (.if_icmp .ne 11, 3) := by decide +kernel
theorem dL_does_113 : decode cL_does 113 = .ok (.aload_n 0, 1) := by decide +kernel
theorem dL_does_114 : decode cL_does 114 = .ok (.iload_n 2, 1) := by decide +kernel
theorem dL_does_115 : decode cL_does 115 = .ok (.invokevirtual 36, 3) := by decide +kernel
theorem dL_does_118 : decode cL_does 118 = .ok (.goto 196, 3) := by decide +kernel
theorem dL_does_121 : decode cL_does 121 = .ok (.iload_n 1, 1) := by decide +kernel
theorem dL_does_122 : decode cL_does 122 = .ok (.bipush 17, 2) := by decide +kernel
theorem dL_does_124 : decode cL_does 124 = .ok (.if_icmp .ne 12, 3) := by decide +kernel
theorem dL_does_127 : decode cL_does 127 = .ok (.aload_n 0, 1) := by decide +kernel
theorem dL_does_128 : decode cL_does 128 = .ok (.iload_n 2, 1) := by decide +kernel
theorem dL_does_129 : decode cL_does 129 = .ok (.iload_n 3, 1) := by decide +kernel
theorem dL_does_130 : decode cL_does 130 = .ok (.invokevirtual 39, 3) := by decide +kernel
theorem dL_does_133 : decode cL_does 133 = .ok (.goto 181, 3) := by decide +kernel
theorem dL_does_136 : decode cL_does 136 = .ok (.iload_n 1, 1) := by decide +kernel
theorem dL_does_137 : decode cL_does 137 = .ok (.bipush 18, 2) := by decide +kernel
theorem dL_does_139 : decode cL_does 139 = .ok (.if_icmp .ne 11, 3) := by decide +kernel
theorem dL_does_142 : decode cL_does 142 = .ok (.aload_n 0, 1) := by decide +kernel
theorem dL_does_143 : decode cL_does 143 = .ok (.iload_n 2, 1) := by decide +kernel
theorem dL_does_144 : decode cL_does 144 = .ok (.invokevirtual 42, 3) := by decide +kernel
theorem dL_does_147 : decode cL_does 147 = .ok (.goto 167, 3) := by decide +kernel
theorem dL_does_150 : decode cL_does 150 = .ok (.iload_n 1, 1) := by decide +kernel
theorem dL_does_151 : decode cL_does 151 = .ok (.bipush 19, 2) := by decide +kernel
theorem dL_does_153 : decode cL_does 153 = .ok (.if_icmp .ne 12, 3) := by decide +kernel
theorem dL_does_156 : decode cL_does 156 = .ok (.aload_n 0, 1) := by decide +kernel
theorem dL_does_157 : decode cL_does 157 = .ok (.iload_n 2, 1) := by decide +kernel
theorem dL_does_158 : decode cL_does 158 = .ok (.iload_n 3, 1) := by decide +kernel
theorem dL_does_159 : decode cL_does 159 = .ok (.invokevirtual 45, 3) := by decide +kernel
theorem dL_does_162 : decode cL_does 162 = .ok (.goto 152, 3) := by decide +kernel
theorem dL_does_165 : decode cL_does 165 = .ok (.iload_n 1, 1) := by decide +kernel
theorem dL_does_166 : decode cL_does 166 = .ok (.bipush 20, 2) := by decide +kernel
theorem dL_does_168 : decode cL_does 168 = .ok (.if_icmp .ne 12, 3) := by decide +kernel
theorem dL_does_171 : decode cL_does 171 = .ok (.aload_n 0, 1) := by decide +kernel
theorem dL_does_172 : decode cL_does 172 = .ok (.iload_n 2, 1) := by decide +kernel
theorem dL_does_173 : decode cL_does 173 = .ok (.iload_n 3, 1) := by decide +kernel
theorem dL_does_174 : decode cL_does 174 = .ok (.invokevirtual 48, 3) := by decide +kernel
theorem dL_does_177 : decode cL_does 177 = .ok (.goto 137, 3) := by decide +kernel
theorem dL_does_180 : decode cL_does 180 = .ok (.iload_n 1, 1) := by decide +kernel
theorem dL_does_181 : decode cL_does 181 = .ok (.bipush 21, 2) := by decide +kernel
theorem dL_does_183 : decode cL_does 183 = .ok (.if_icmp .ne 11, 3) := by decide +kernel
theorem dL_does_186 : decode cL_does 186 = .ok (.aload_n 0, 1) := by decide +kernel
theorem dL_does_187 : decode cL_does 187 = .ok (.iload_n 2, 1) := by decide +kernel
theorem dL_does_188 : decode cL_does 188 = .ok (.invokevirtual 51, 3) := by decide +kernel
theorem dL_does_191 : decode cL_does 191 = .ok (.goto 123, 3) := by decide +kernel
theorem dL_does_194 : decode cL_does 194 = .ok (.iload_n 1, 1) := by decide +kernel
theorem dL_does_195 : decode cL_does 195 = .ok (.bipush 22, 2) := by decide +kernel
theorem dL_does_197 : decode cL_does 197 = .ok (.if_icmp .ne 20, 3) := by decide +kernel
theorem dL_does_200 : decode cL_does 200 = .ok (.aload_n 0, 1) := by decide +kernel
theorem dL_does_201 : decode cL_does 201 = .ok (.iload_n 2, 1) := by decide +kernel
theorem dL_does_202 : decode cL_does 202 = .ok (.iload_n 3, 1) := by decide +kernel
theorem dL_does_203 : decode cL_does 203 = .ok (.invokevirtual 54, 3) := by decide +kernel
theorem dL_does_206 : decode cL_does 206 = .ok (.ifCond .eq 7, 3) := by decide +kernel
theorem dL_does_209 : decode cL_does 209 = .ok (.iconst 1, 1) := by decide +kernel
theorem dL_does_210 : decode cL_does 210 = .ok (.goto 104, 3) := by decide +kernel
theorem dL_does_213 : decode cL_does 213 = .ok (.iconst 0, 1) := by decide +kernel
theorem dL_does_214 : decode cL_does 214 = .ok (.goto 100, 3) := by decide +kernel
theorem dL_does_217 : decode cL_does 217 = .ok (.iload_n 1, 1) := by decide +kernel
theorem dL_does_218 : decode cL_does 218 = .ok (.bipush 23, 2) := by decide +kernel
theorem dL_does_220 : decode cL_does 220 = .ok (.if_icmp .ne 19, 3) := by decide +kernel
theorem dL_does_223 : decode cL_does 223 = .ok (.aload_n 0, 1) := by decide +kernel
theorem dL_does_224 : decode cL_does 224 = .ok (.iload_n 2, 1) := by decide +kernel
theorem dL_does_225 : decode cL_does 225 = .ok (.invokevirtual 58, 3) := by decide +kernel
theorem dL_does_228 : decode cL_does 228 = .ok (.ifCond .eq 7, 3) := by decide +kernel
theorem dL_does_231 : decode cL_does 231 = .ok (.iconst 1, 1) := by decide +kernel
theorem dL_does_232 : decode cL_does 232 = .ok (.goto 82, 3) := by decide +kernel
theorem dL_does_235 : decode cL_does 235 = .ok (.iconst 0, 1) := by decide +kernel
theorem dL_does_236 : decode cL_does 236 = .ok (.goto 78, 3) := by decide +kernel
theorem dL_does_239 : decode cL_does 239 = .ok (.iload_n 1, 1) := by decide +kernel
theorem dL_does_240 : decode cL_does 240 = .ok (.bipush 24, 2) := by decide +kernel
theorem dL_does_242 : decode cL_does 242 = .ok (.if_icmp .ne 12, 3) := by decide +kernel
theorem dL_does_245 : decode cL_does 245 = .ok (.aload_n 0, 1) := by decide +kernel
theorem dL_does_246 : decode cL_does 246 = .ok (.iload_n 2, 1) := by decide +kernel
theorem dL_does_247 : decode cL_does 247 = .ok (.iload_n 3, 1) := by decide +kernel
theorem dL_does_248 : decode cL_does 248 = .ok (.invokevirtual 62, 3) := by decide +kernel
theorem dL_does_251 : decode cL_does 251 = .ok (.goto 63, 3) := by decide +kernel
theorem dL_does_254 : decode cL_does 254 = .ok (.iload_n 1, 1) := by decide +kernel
theorem dL_does_255 : decode cL_does 255 = .ok (.bipush 25, 2) := by decide +kernel
theorem dL_does_257 : decode cL_does 257 = .ok (.if_icmp .ne 23, 3) := by decide +kernel
theorem dL_does_260 : decode cL_does 260 = .ok (.aload_n 0, 1) := by decide +kernel
theorem dL_does_261 : decode cL_does 261 = .ok (.iload_n 2, 1) := by decide +kernel
theorem dL_does_262 : decode cL_does 262 = .ok (.iload_n 3, 1) := by decide +kernel
theorem dL_does_263 : decode cL_does 263 = .ok (.iload 4, 2) := by decide +kernel
theorem dL_does_265 : decode cL_does 265 = .ok (.iconst 1, 1) := by decide +kernel
theorem dL_does_266 : decode cL_does 266 = .ok (.if_icmp .ne 7, 3) := by decide +kernel
theorem dL_does_269 : decode cL_does 269 = .ok (.iconst 1, 1) := by decide +kernel
theorem dL_does_270 : decode cL_does 270 = .ok (.goto 4, 3) := by decide +kernel
theorem dL_does_273 : decode cL_does 273 = .ok (.iconst 0, 1) := by decide +kernel
theorem dL_does_274 : decode cL_does 274 = .ok (.invokevirtual 65, 3) := by decide +kernel
theorem dL_does_277 : decode cL_does 277 = .ok (.goto 37, 3) := by decide +kernel
theorem dL_does_280 : decode cL_does 280 = .ok (.iload_n 1, 1) := by decide +kernel
theorem dL_does_281 : decode cL_does 281 = .ok (.bipush 26, 2) := by decide +kernel
theorem dL_does_283 : decode cL_does 283 = .ok (.if_icmp .ne 12, 3) := by decide +kernel
theorem dL_does_286 : decode cL_does 286 = .ok (.aload_n 0, 1) := by decide +kernel
theorem dL_does_287 : decode cL_does 287 = .ok (.iload_n 2, 1) := by decide +kernel
theorem dL_does_288 : decode cL_does 288 = .ok (.iload_n 3, 1) := by decide +kernel
theorem dL_does_289 : decode cL_does 289 = .ok (.invokevirtual 69, 3) := by decide +kernel
theorem dL_does_292 : decode cL_does 292 = .ok (.goto 22, 3) := by decide +kernel
theorem dL_does_295 : decode cL_does 295 = .ok (.iload_n 1, 1) := by decide +kernel
theorem dL_does_296 : decode cL_does 296 = .ok (.bipush 27, 2) := by decide +kernel
theorem dL_does_298 : decode cL_does 298 = .ok (.if_icmp .ne 11, 3) := by decide +kernel
theorem dL_does_301 : decode cL_does 301 = .ok (.aload_n 0, 1) := by decide +kernel
theorem dL_does_302 : decode cL_does 302 = .ok (.iload_n 2, 1) := by decide +kernel
theorem dL_does_303 : decode cL_does 303 = .ok (.invokevirtual 72, 3) := by decide +kernel
theorem dL_does_306 : decode cL_does 306 = .ok (.goto 8, 3) := by decide +kernel
theorem dL_does_309 : decode cL_does 309 = .ok (.aload_n 0, 1) := by decide +kernel
theorem dL_does_310 : decode cL_does 310 = .ok (.iload_n 2, 1) := by decide +kernel
theorem dL_does_311 : decode cL_does 311 = .ok (.invokevirtual 75, 3) := by decide +kernel
theorem dL_does_314 : decode cL_does 314 = .ok (.ireturn, 1) := by decide +kernel
theorem dL_does_315 : decode cL_does 315 = .ok (.astore 5, 2) := by decide +kernel
theorem dL_does_317 : decode cL_does 317 = .ok (.ldc 80, 2) := by decide +kernel
theorem dL_does_319 : decode cL_does 319 = .ok (.ireturn, 1) := by decide +kernel
theorem dL_does_320 : decode cL_does 320 = .ok (.astore 5, 2) := by decide +kernel
theorem dL_does_322 : decode cL_does 322 = .ok (.ldc 80, 2) := by decide +kernel
theorem dL_does_324 : decode cL_does 324 = .ok (.ireturn, 1) := by decide +kernel
theorem dL_does_325 : decode cL_does 325 = .ok (.astore 5, 2) := by decide +kernel
theorem dL_does_327 : decode cL_does 327 = .ok (.ldc 80, 2) := by decide +kernel
theorem dL_does_329 : decode cL_does 329 = .ok (.ireturn, 1) := by decide +kernel
set_option maxRecDepth 20000 in
theorem ggL_early_X2_near : GoodIn wsL_early wsX2_near := goodIn_ca (goodIn_ca (goodIn_r _ [5, 6, 7, 8, 4, 9, 10, 11, 12, 13, 104, 105, 106, 107, 108, 109, 110, 111, 112, 113, 114, 115, 116, 117, 118] (by decide +kernel) (by decide +kernel)) (goodIn_sub (fun _ h => List.mem_cons_of_mem _ (List.mem_append_left _ (List.mem_append_left _ (List.mem_append_right _ h)))) (by decide +kernel))) (goodIn_sub (fun _ h => List.mem_cons_of_mem _ (List.mem_append_left _ (List.mem_append_right _ h))) (by decide +kernel))
set_option maxRecDepth 20000 in
theorem gL_early_X2_near : GoodIn wsL_early (wsV RL 85 RX2 yX2_near wsX2_near) := goodIn_app (goodIn_of _ (by decide +kernel)) ggL_early_X2_near
set_option maxRecDepth 20000 in
theorem ggL_early_X2_alike : GoodIn wsL_early wsX2_alike := goodIn_ca (goodIn_ca (goodIn_r _ [17, 18, 7, 8, 4, 9, 10, 11, 12, 13, 104, 105, 106, 107, 108, 109, 110, 111, 112, 113, 114, 115, 116, 117, 118] (by decide +kernel) (by decide +kernel)) (goodIn_sub (fun _ h => List.mem_cons_of_mem _ (List.mem_append_left _ (List.mem_append_left _ (List.mem_append_right _ h)))) (by decide +kernel))) (goodIn_sub (fun _ h => List.mem_cons_of_mem _ (List.mem_append_left _ (List.mem_append_right _ h))) (by decide +kernel))
set_option maxRecDepth 20000 in
theorem gL_early_X2_alike : GoodIn wsL_early (wsV RL 88 RX2 yX2_alike wsX2_alike) := goodIn_app (goodIn_of _ (by decide +kernel)) ggL_early_X2_alike
set_option maxRecDepth 20000 in
theorem ggL_early_X2_rule : GoodIn wsL_early wsX2_rule := goodIn_ca (goodIn_ca (goodIn_r _ [22, 10, 11, 12, 13, 23, 24, 25, 26, 4, 27, 104, 105, 106, 107, 108, 109, 110, 111, 112, 113, 114, 115, 116, 117, 118] (by decide +kernel) (by decide +kernel)) (goodIn_sub (fun _ h => List.mem_cons_of_mem _ (List.mem_append_left _ (List.mem_append_left _ (List.mem_append_right _ h)))) (by decide +kernel))) (goodIn_sub (fun _ h => List.mem_cons_of_mem _ (List.mem_append_left _ (List.mem_append_right _ h))) (by decide +kernel))
set_option maxRecDepth 20000 in
theorem gL_early_X2_rule : GoodIn wsL_early (wsV RL 91 RX2 yX2_rule wsX2_rule) := goodIn_app (goodIn_of _ (by decide +kernel)) ggL_early_X2_rule
set_option maxRecDepth 20000 in
theorem ggL_early_X2_stop : GoodIn wsL_early wsX2_stop := goodIn_ca (goodIn_ca (goodIn_r _ [31, 10, 11, 32, 33, 34, 35, 36, 4, 37, 25, 26, 27, 38, 39, 40, 41, 42, 43, 44, 104, 105, 106, 107, 108, 109, 110, 111, 112, 113, 114, 115, 116, 117, 118] (by decide +kernel) (by decide +kernel)) (goodIn_sub (fun _ h => List.mem_cons_of_mem _ (List.mem_append_left _ (List.mem_append_left _ (List.mem_append_right _ h)))) (by decide +kernel))) (goodIn_sub (fun _ h => List.mem_cons_of_mem _ (List.mem_append_right _ h)) (by decide +kernel))
set_option maxRecDepth 20000 in
theorem gL_early_X2_stop : GoodIn wsL_early (wsV RL 95 RX2 yX2_stop wsX2_stop) := goodIn_app (goodIn_of _ (by decide +kernel)) ggL_early_X2_stop
set_option maxRecDepth 20000 in
theorem ggL_early_X2_threshold : GoodIn wsL_early wsX2_threshold := goodIn_ca (goodIn_r _ [48, 12, 13, 49, 25, 26, 4, 27, 104, 105, 106, 107, 108, 109, 110, 111, 112, 113, 114, 115, 116, 117, 118] (by decide +kernel) (by decide +kernel)) (goodIn_sub (fun _ h => List.mem_cons_of_mem _ (List.mem_append_left _ (List.mem_append_right _ h))) (by decide +kernel))
set_option maxRecDepth 20000 in
theorem gL_early_X2_threshold : GoodIn wsL_early (wsV RL 98 RX2 yX2_threshold wsX2_threshold) := goodIn_app (goodIn_of _ (by decide +kernel)) ggL_early_X2_threshold
set_option maxRecDepth 20000 in
theorem ggL_early_X2_see : GoodIn wsL_early wsX2_see := goodIn_ca (goodIn_ca (goodIn_ca (goodIn_r _ [53, 12, 13, 32, 33, 54, 55, 56, 57, 58, 59, 4, 60, 10, 11, 61, 62, 63, 64, 65, 25, 26, 27, 38, 39, 40, 41, 42, 43, 44, 119, 120, 121, 122, 123, 124, 125, 126, 127, 128, 129, 130, 131, 132, 133, 104, 105, 106, 107, 108, 109, 110, 111, 112, 113, 114, 115, 116, 117, 118] (by decide +kernel) (by decide +kernel)) (goodIn_sub (fun _ h => List.mem_cons_of_mem _ (List.mem_append_left _ (List.mem_append_right _ h))) (by decide +kernel))) (goodIn_sub (fun _ h => List.mem_cons_of_mem _ (List.mem_append_right _ h)) (by decide +kernel))) (goodIn_sub (fun _ h => List.mem_cons_of_mem _ (List.mem_append_left _ (List.mem_append_left _ (List.mem_append_right _ h)))) (by decide +kernel))
set_option maxRecDepth 20000 in
theorem gL_early_X2_see : GoodIn wsL_early (wsV RL 101 RX2 yX2_see wsX2_see) := goodIn_app (goodIn_of _ (by decide +kernel)) ggL_early_X2_see
set_option maxRecDepth 20000 in
theorem ggL_early_X2_send : GoodIn wsL_early wsX2_send := goodIn_ca (goodIn_ca (goodIn_r _ [69, 32, 33, 55, 70, 57, 58, 59, 4, 60, 10, 11, 61, 35, 36, 37, 25, 26, 27, 119, 120, 121, 122, 123, 124, 125, 126, 127, 128, 129, 130, 131, 132, 133, 104, 105, 106, 107, 108, 109, 110, 111, 112, 113, 114, 115, 116, 117, 118] (by decide +kernel) (by decide +kernel)) (goodIn_sub (fun _ h => List.mem_cons_of_mem _ (List.mem_append_right _ h)) (by decide +kernel))) (goodIn_sub (fun _ h => List.mem_cons_of_mem _ (List.mem_append_left _ (List.mem_append_left _ (List.mem_append_right _ h)))) (by decide +kernel))
set_option maxRecDepth 20000 in
theorem gL_early_X2_send : GoodIn wsL_early (wsV RL 104 RX2 yX2_send wsX2_send) := goodIn_app (goodIn_of _ (by decide +kernel)) ggL_early_X2_send
set_option maxRecDepth 20000 in
theorem ggL_early_X2_lose : GoodIn wsL_early wsX2_lose := goodIn_ca (goodIn_r _ [74, 61, 55, 70, 35, 36, 4, 37, 10, 11, 25, 26, 27, 104, 105, 106, 107, 108, 109, 110, 111, 112, 113, 114, 115, 116, 117, 118, 119, 120, 121, 122, 123, 124, 125, 126, 127, 128, 129, 130, 131, 132, 133] (by decide +kernel) (by decide +kernel)) (goodIn_sub (fun _ h => List.mem_cons_of_mem _ (List.mem_append_left _ (List.mem_append_left _ (List.mem_append_right _ h)))) (by decide +kernel))
set_option maxRecDepth 20000 in
theorem gL_early_X2_lose : GoodIn wsL_early (wsV RL 107 RX2 yX2_lose wsX2_lose) := goodIn_app (goodIn_of _ (by decide +kernel)) ggL_early_X2_lose
set_option maxRecDepth 20000 in
theorem ggL_early_X2_turnUp : GoodIn wsL_early wsX2_turnUp := goodIn_ca (goodIn_ca (goodIn_r _ [78, 32, 33, 55, 79, 80, 57, 58, 59, 4, 60, 10, 11, 61, 35, 36, 37, 25, 26, 27, 81, 82, 83, 84, 85, 86, 87, 88, 89, 90, 91, 92, 93, 94, 119, 120, 121, 122, 123, 124, 125, 126, 127, 128, 129, 130, 131, 132, 133, 104, 105, 106, 107, 108, 109, 110, 111, 112, 113, 114, 115, 116, 117, 118] (by decide +kernel) (by decide +kernel)) (goodIn_sub (fun _ h => List.mem_cons_of_mem _ (List.mem_append_right _ h)) (by decide +kernel))) (goodIn_sub (fun _ h => List.mem_cons_of_mem _ (List.mem_append_left _ (List.mem_append_left _ (List.mem_append_right _ h)))) (by decide +kernel))
set_option maxRecDepth 20000 in
theorem gL_early_X2_turnUp : GoodIn wsL_early (wsV RL 110 RX2 yX2_turnUp wsX2_turnUp) := goodIn_app (goodIn_of _ (by decide +kernel)) ggL_early_X2_turnUp
set_option maxRecDepth 20000 in
theorem ggL_early_X2_hold : GoodIn wsL_early wsX2_hold := goodIn_ca (goodIn_ca (goodIn_r _ [98, 32, 33, 99, 57, 58, 59, 4, 60, 10, 11, 61, 100, 101, 102, 84, 103, 86, 119, 120, 121, 122, 123, 124, 125, 126, 127, 128, 129, 130, 131, 132, 133, 104, 105, 106, 107, 108, 109, 110, 111, 112, 113, 114, 115, 116, 117, 118] (by decide +kernel) (by decide +kernel)) (goodIn_sub (fun _ h => List.mem_cons_of_mem _ (List.mem_append_right _ h)) (by decide +kernel))) (goodIn_sub (fun _ h => List.mem_cons_of_mem _ (List.mem_append_left _ (List.mem_append_left _ (List.mem_append_right _ h)))) (by decide +kernel))
set_option maxRecDepth 20000 in
theorem gL_early_X2_hold : GoodIn wsL_early (wsV RL 113 RX2 yX2_hold wsX2_hold) := goodIn_app (goodIn_of _ (by decide +kernel)) ggL_early_X2_hold
theorem dL_early_0 : decode cL_early 0 = .ok (.iload_n 1, 1) := by decide +kernel
theorem dL_early_1 : decode cL_early 1 = .ok (.ifCond .ne 20, 3) := by decide +kernel
theorem dL_early_4 : decode cL_early 4 = .ok (.aload_n 0, 1) := by decide +kernel
theorem dL_early_5 : decode cL_early 5 = .ok (.iload_n 2, 1) := by decide +kernel
theorem dL_early_6 : decode cL_early 6 = .ok (.iload_n 3, 1) := by decide +kernel
theorem dL_early_7 : decode cL_early 7 = .ok (.invokevirtual 85, 3) := by decide +kernel
theorem dL_early_10 : decode cL_early 10 = .ok (.ifCond .eq 7, 3) := by decide +kernel
theorem dL_early_13 : decode cL_early 13 = .ok (.iconst 1, 1) := by decide +kernel
theorem dL_early_14 : decode cL_early 14 = .ok (.goto 153, 3) := by decide +kernel
theorem dL_early_17 : decode cL_early 17 = .ok (.iconst 0, 1) := by decide +kernel
theorem dL_early_18 : decode cL_early 18 = .ok (.goto 149, 3) := by decide +kernel
theorem dL_early_21 : decode cL_early 21 = .ok (.iload_n 1, 1) := by decide +kernel
theorem dL_early_22 : decode cL_early 22 = .ok (.iconst 1, 1) := by decide +kernel
theorem dL_early_23 : decode cL_early 23 = .ok (.if_icmp .ne 20, 3) := by decide +kernel
theorem dL_early_26 : decode cL_early 26 = .ok (.aload_n 0, 1) := by decide +kernel
theorem dL_early_27 : decode cL_early 27 = .ok (.iload_n 2, 1) := by decide +kernel
theorem dL_early_28 : decode cL_early 28 = .ok (.iload_n 3, 1) := by decide +kernel
theorem dL_early_29 : decode cL_early 29 = .ok (.invokevirtual 88, 3) := by decide +kernel
theorem dL_early_32 : decode cL_early 32 = .ok (.ifCond .eq 7, 3) := by decide +kernel
theorem dL_early_35 : decode cL_early 35 = .ok (.iconst 1, 1) := by decide +kernel
theorem dL_early_36 : decode cL_early 36 = .ok (.goto 131, 3) := by decide +kernel
theorem dL_early_39 : decode cL_early 39 = .ok (.iconst 0, 1) := by decide +kernel
theorem dL_early_40 : decode cL_early 40 = .ok (.goto 127, 3) := by decide +kernel
theorem dL_early_43 : decode cL_early 43 = .ok (.iload_n 1, 1) := by decide +kernel
theorem dL_early_44 : decode cL_early 44 = .ok (.iconst 2, 1) := by decide +kernel
theorem dL_early_45 : decode cL_early 45 = .ok (.if_icmp .ne 14, 3) := by decide +kernel
theorem dL_early_48 : decode cL_early 48 = .ok (.aload_n 0, 1) := by decide +kernel
theorem dL_early_49 : decode cL_early 49 = .ok (.iload_n 2, 1) := by decide +kernel
theorem dL_early_50 : decode cL_early 50 = .ok (.iload_n 3, 1) := by decide +kernel
theorem dL_early_51 : decode cL_early 51 = .ok (.iload 4, 2) := by decide +kernel
theorem dL_early_53 : decode cL_early 53 = .ok (.invokevirtual 91, 3) := by decide +kernel
theorem dL_early_56 : decode cL_early 56 = .ok (.goto 111, 3) := by decide +kernel
theorem dL_early_59 : decode cL_early 59 = .ok (.iload_n 1, 1) := by decide +kernel
theorem dL_early_60 : decode cL_early 60 = .ok (.iconst 3, 1) := by decide +kernel
theorem dL_early_61 : decode cL_early 61 = .ok (.if_icmp .ne 12, 3) := by decide +kernel
theorem dL_early_64 : decode cL_early 64 = .ok (.aload_n 0, 1) := by decide +kernel
theorem dL_early_65 : decode cL_early 65 = .ok (.iload_n 2, 1) := by decide +kernel
theorem dL_early_66 : decode cL_early 66 = .ok (.iload_n 3, 1) := by decide +kernel
theorem dL_early_67 : decode cL_early 67 = .ok (.invokevirtual 95, 3) := by decide +kernel
theorem dL_early_70 : decode cL_early 70 = .ok (.goto 97, 3) := by decide +kernel
theorem dL_early_73 : decode cL_early 73 = .ok (.iload_n 1, 1) := by decide +kernel
theorem dL_early_74 : decode cL_early 74 = .ok (.iconst 4, 1) := by decide +kernel
theorem dL_early_75 : decode cL_early 75 = .ok (.if_icmp .ne 11, 3) := by decide +kernel
theorem dL_early_78 : decode cL_early 78 = .ok (.aload_n 0, 1) := by decide +kernel
theorem dL_early_79 : decode cL_early 79 = .ok (.iload_n 2, 1) := by decide +kernel
theorem dL_early_80 : decode cL_early 80 = .ok (.invokevirtual 98, 3) := by decide +kernel
theorem dL_early_83 : decode cL_early 83 = .ok (.goto 84, 3) := by decide +kernel
theorem dL_early_86 : decode cL_early 86 = .ok (.iload_n 1, 1) := by decide +kernel
theorem dL_early_87 : decode cL_early 87 = .ok (.iconst 5, 1) := by decide +kernel
theorem dL_early_88 : decode cL_early 88 = .ok (.if_icmp .ne 12, 3) := by decide +kernel
theorem dL_early_91 : decode cL_early 91 = .ok (.aload_n 0, 1) := by decide +kernel
theorem dL_early_92 : decode cL_early 92 = .ok (.iload_n 2, 1) := by decide +kernel
theorem dL_early_93 : decode cL_early 93 = .ok (.iload_n 3, 1) := by decide +kernel
theorem dL_early_94 : decode cL_early 94 = .ok (.invokevirtual 101, 3) := by decide +kernel
theorem dL_early_97 : decode cL_early 97 = .ok (.goto 70, 3) := by decide +kernel
theorem dL_early_100 : decode cL_early 100 = .ok (.iload_n 1, 1) := by decide +kernel
theorem dL_early_101 : decode cL_early 101 = .ok (.bipush 6, 2) := by decide +kernel
theorem dL_early_103 : decode cL_early 103 = .ok (.if_icmp .ne 12, 3) := by decide +kernel
theorem dL_early_106 : decode cL_early 106 = .ok (.aload_n 0, 1) := by decide +kernel
theorem dL_early_107 : decode cL_early 107 = .ok (.iload_n 2, 1) := by decide +kernel
theorem dL_early_108 : decode cL_early 108 = .ok (.iload_n 3, 1) := by decide +kernel
theorem dL_early_109 : decode cL_early 109 = .ok (.invokevirtual 104, 3) := by decide +kernel
theorem dL_early_112 : decode cL_early 112 = .ok (.goto 55, 3) := by decide +kernel
theorem dL_early_115 : decode cL_early 115 = .ok (.iload_n 1, 1) := by decide +kernel
theorem dL_early_116 : decode cL_early 116 = .ok (.bipush 7, 2) := by decide +kernel
theorem dL_early_118 : decode cL_early 118 = .ok (.if_icmp .ne 11, 3) := by decide +kernel
theorem dL_early_121 : decode cL_early 121 = .ok (.aload_n 0, 1) := by decide +kernel
theorem dL_early_122 : decode cL_early 122 = .ok (.iload_n 2, 1) := by decide +kernel
theorem dL_early_123 : decode cL_early 123 = .ok (.invokevirtual 107, 3) := by decide +kernel
theorem dL_early_126 : decode cL_early 126 = .ok (.goto 41, 3) := by decide +kernel
theorem dL_early_129 : decode cL_early 129 = .ok (.iload_n 1, 1) := by decide +kernel
theorem dL_early_130 : decode cL_early 130 = .ok (.bipush 8, 2) := by decide +kernel
theorem dL_early_132 : decode cL_early 132 = .ok (.if_icmp .ne 12, 3) := by decide +kernel
theorem dL_early_135 : decode cL_early 135 = .ok (.aload_n 0, 1) := by decide +kernel
theorem dL_early_136 : decode cL_early 136 = .ok (.iload_n 2, 1) := by decide +kernel
theorem dL_early_137 : decode cL_early 137 = .ok (.iload_n 3, 1) := by decide +kernel
theorem dL_early_138 : decode cL_early 138 = .ok (.invokevirtual 110, 3) := by decide +kernel
theorem dL_early_141 : decode cL_early 141 = .ok (.goto 26, 3) := by decide +kernel
theorem dL_early_144 : decode cL_early 144 = .ok (.aload_n 0, 1) := by decide +kernel
theorem dL_early_145 : decode cL_early 145 = .ok (.iload_n 2, 1) := by decide +kernel
theorem dL_early_146 : decode cL_early 146 = .ok (.iload_n 3, 1) := by decide +kernel
theorem dL_early_147 : decode cL_early 147 = .ok (.iconst 1, 1) := by decide +kernel
theorem dL_early_148 : decode cL_early 148 = .ok (.if_icmp .ne 7, 3) := by decide +kernel
theorem dL_early_151 : decode cL_early 151 = .ok (.iconst 1, 1) := by decide +kernel
theorem dL_early_152 : decode cL_early 152 = .ok (.goto 4, 3) := by decide +kernel
theorem dL_early_155 : decode cL_early 155 = .ok (.iconst 0, 1) := by decide +kernel
theorem dL_early_156 : decode cL_early 156 = .ok (.invokevirtual 113, 3) := by decide +kernel
theorem dL_early_159 : decode cL_early 159 = .ok (.ifCond .eq 7, 3) := by decide +kernel
theorem dL_early_162 : decode cL_early 162 = .ok (.iconst 1, 1) := by decide +kernel
theorem dL_early_163 : decode cL_early 163 = .ok (.goto 4, 3) := by decide +kernel
theorem dL_early_166 : decode cL_early 166 = .ok (.iconst 0, 1) := by decide +kernel
theorem dL_early_167 : decode cL_early 167 = .ok (.ireturn, 1) := by decide +kernel
set_option maxRecDepth 20000 in
theorem ggL_found_X2_find : GoodIn wsL_found wsX2_find := goodIn_ca (goodIn_ca (goodIn_ca (goodIn_r _ [9, 10, 11, 12, 13, 14, 15, 16, 17, 18, 19, 20, 21, 22, 8, 23, 24, 25, 26, 27, 28, 29, 30, 31, 32, 33, 34, 35, 36, 37, 38, 39, 40, 41, 42, 43, 44, 45, 46, 47, 48, 49, 50, 51, 52, 53, 54, 55, 56, 57, 58, 59, 60, 61, 62, 63, 64, 65, 66, 67, 68, 69, 70, 71, 72, 73, 74, 75, 76, 77, 78, 79, 80, 81, 82, 83, 84, 85, 86, 87, 88, 89, 90, 91, 92, 93, 94, 95, 96, 97, 98, 99, 100, 101, 102, 103] (by decide +kernel) (by decide +kernel)) (goodIn_sub (fun _ h => List.mem_cons_of_mem _ (List.mem_append_left _ (List.mem_append_left _ (List.mem_append_right _ h)))) (by decide +kernel))) (goodIn_sub (fun _ h => List.mem_cons_of_mem _ (List.mem_append_left _ (List.mem_append_right _ h))) (by decide +kernel))) (goodIn_sub (fun _ h => List.mem_cons_of_mem _ (List.mem_append_right _ h)) (by decide +kernel))
set_option maxRecDepth 20000 in
theorem gL_found_X2_find : GoodIn wsL_found (wsV RL 117 RX2 yX2_find wsX2_find) := goodIn_app (goodIn_of _ (by decide +kernel)) ggL_found_X2_find
theorem dL_found_0 : decode cL_found 0 = .ok (.aload_n 0, 1) := by decide +kernel
theorem dL_found_1 : decode cL_found 1 = .ok (.iload_n 1, 1) := by decide +kernel
theorem dL_found_2 : decode cL_found 2 = .ok (.bipush 10, 2) := by decide +kernel
theorem dL_found_4 : decode cL_found 4 = .ok (.irem, 1) := by decide +kernel
theorem dL_found_5 : decode cL_found 5 = .ok (.iload_n 1, 1) := by decide +kernel
theorem dL_found_6 : decode cL_found 6 = .ok (.bipush 10, 2) := by decide +kernel
theorem dL_found_8 : decode cL_found 8 = .ok (.idiv, 1) := by decide +kernel
theorem dL_found_9 : decode cL_found 9 = .ok (.iload_n 2, 1) := by decide +kernel
theorem dL_found_10 : decode cL_found 10 = .ok (.iload_n 3, 1) := by decide +kernel
theorem dL_found_11 : decode cL_found 11 = .ok (.iload 4, 2) := by decide +kernel
theorem dL_found_13 : decode cL_found 13 = .ok (.iload 5, 2) := by decide +kernel
theorem dL_found_15 : decode cL_found 15 = .ok (.iload 6, 2) := by decide +kernel
theorem dL_found_17 : decode cL_found 17 = .ok (.invokevirtual 117, 3) := by decide +kernel
theorem dL_found_20 : decode cL_found 20 = .ok (.ireturn, 1) := by decide +kernel
theorem dL_found_21 : decode cL_found 21 = .ok (.astore 7, 2) := by decide +kernel
theorem dL_found_23 : decode cL_found 23 = .ok (.ldc 80, 2) := by decide +kernel
theorem dL_found_25 : decode cL_found 25 = .ok (.ireturn, 1) := by decide +kernel
theorem dL_found_26 : decode cL_found 26 = .ok (.astore 7, 2) := by decide +kernel
theorem dL_found_28 : decode cL_found 28 = .ok (.ldc 80, 2) := by decide +kernel
theorem dL_found_30 : decode cL_found 30 = .ok (.ireturn, 1) := by decide +kernel
theorem dL_found_31 : decode cL_found 31 = .ok (.astore 7, 2) := by decide +kernel
theorem dL_found_33 : decode cL_found 33 = .ok (.ldc 80, 2) := by decide +kernel
theorem dL_found_35 : decode cL_found 35 = .ok (.ireturn, 1) := by decide +kernel
set_option maxRecDepth 20000 in
theorem ggL_claimed_X2_claim : GoodIn wsL_claimed wsX2_claim := goodIn_ca (goodIn_ca (goodIn_ca (goodIn_r _ [9, 10, 11, 12, 13, 14, 15, 16, 17, 18, 19, 20, 21, 8, 22, 23, 24, 25, 26, 27, 28, 29, 30, 31, 32, 33, 34, 35, 36, 37, 38, 39, 40, 41, 42, 43, 44, 45, 46, 47, 48, 49, 50, 51, 52, 53, 54, 55, 56, 57, 58, 59, 60, 61, 62, 63, 64, 65, 66, 67, 68, 69, 70, 71, 72, 73, 74, 75] (by decide +kernel) (by decide +kernel)) (goodIn_sub (fun _ h => List.mem_cons_of_mem _ (List.mem_append_left _ (List.mem_append_left _ (List.mem_append_right _ h)))) (by decide +kernel))) (goodIn_sub (fun _ h => List.mem_cons_of_mem _ (List.mem_append_left _ (List.mem_append_right _ h))) (by decide +kernel))) (goodIn_sub (fun _ h => List.mem_cons_of_mem _ (List.mem_append_right _ h)) (by decide +kernel))
set_option maxRecDepth 20000 in
theorem gL_claimed_X2_claim : GoodIn wsL_claimed (wsV RL 121 RX2 yX2_claim wsX2_claim) := goodIn_app (goodIn_of _ (by decide +kernel)) ggL_claimed_X2_claim
theorem dL_claimed_0 : decode cL_claimed 0 = .ok (.aload_n 0, 1) := by decide +kernel
theorem dL_claimed_1 : decode cL_claimed 1 = .ok (.iload_n 1, 1) := by decide +kernel
theorem dL_claimed_2 : decode cL_claimed 2 = .ok (.bipush 10, 2) := by decide +kernel
theorem dL_claimed_4 : decode cL_claimed 4 = .ok (.irem, 1) := by decide +kernel
theorem dL_claimed_5 : decode cL_claimed 5 = .ok (.iload_n 1, 1) := by decide +kernel
theorem dL_claimed_6 : decode cL_claimed 6 = .ok (.bipush 10, 2) := by decide +kernel
theorem dL_claimed_8 : decode cL_claimed 8 = .ok (.idiv, 1) := by decide +kernel
theorem dL_claimed_9 : decode cL_claimed 9 = .ok (.iload_n 2, 1) := by decide +kernel
theorem dL_claimed_10 : decode cL_claimed 10 = .ok (.iload_n 3, 1) := by decide +kernel
theorem dL_claimed_11 : decode cL_claimed 11 = .ok (.iload 4, 2) := by decide +kernel
theorem dL_claimed_13 : decode cL_claimed 13 = .ok (.invokevirtual 121, 3) := by decide +kernel
theorem dL_claimed_16 : decode cL_claimed 16 = .ok (.ireturn, 1) := by decide +kernel
theorem dL_claimed_17 : decode cL_claimed 17 = .ok (.astore 5, 2) := by decide +kernel
theorem dL_claimed_19 : decode cL_claimed 19 = .ok (.ldc 80, 2) := by decide +kernel
theorem dL_claimed_21 : decode cL_claimed 21 = .ok (.ireturn, 1) := by decide +kernel
theorem dL_claimed_22 : decode cL_claimed 22 = .ok (.astore 5, 2) := by decide +kernel
theorem dL_claimed_24 : decode cL_claimed 24 = .ok (.ldc 80, 2) := by decide +kernel
theorem dL_claimed_26 : decode cL_claimed 26 = .ok (.ireturn, 1) := by decide +kernel
theorem dL_claimed_27 : decode cL_claimed 27 = .ok (.astore 5, 2) := by decide +kernel
theorem dL_claimed_29 : decode cL_claimed 29 = .ok (.ldc 80, 2) := by decide +kernel
theorem dL_claimed_31 : decode cL_claimed 31 = .ok (.ireturn, 1) := by decide +kernel
set_option maxRecDepth 20000 in
theorem ggL_few_L_low : GoodIn wsL_few wsL_low := goodIn_r _ [4, 5] (by decide +kernel) (by decide +kernel)
set_option maxRecDepth 20000 in
theorem gL_few_L_low : GoodIn wsL_few (va_wsS RL 125 yL_low wsL_low) := goodIn_app (goodIn_of _ (by decide +kernel)) ggL_few_L_low
theorem dL_few_0 : decode cL_few 0 = .ok (.iconst 1, 1) := by decide +kernel
theorem dL_few_1 : decode cL_few 1 = .ok (.iload_n 0, 1) := by decide +kernel
theorem dL_few_2 : decode cL_few 2 = .ok (.bipush 9, 2) := by decide +kernel
theorem dL_few_4 : decode cL_few 4 = .ok (.invokestatic 125, 3) := by decide +kernel
theorem dL_few_7 : decode cL_few 7 = .ok (.ishl, 1) := by decide +kernel
theorem dL_few_8 : decode cL_few 8 = .ok (.iconst 1, 1) := by decide +kernel
theorem dL_few_9 : decode cL_few 9 = .ok (.iload_n 0, 1) := by decide +kernel
theorem dL_few_10 : decode cL_few 10 = .ok (.iconst 3, 1) := by decide +kernel
theorem dL_few_11 : decode cL_few 11 = .ok (.ishr, 1) := by decide +kernel
theorem dL_few_12 : decode cL_few 12 = .ok (.bipush 9, 2) := by decide +kernel
theorem dL_few_14 : decode cL_few 14 = .ok (.invokestatic 125, 3) := by decide +kernel
theorem dL_few_17 : decode cL_few 17 = .ok (.ishl, 1) := by decide +kernel
theorem dL_few_18 : decode cL_few 18 = .ok (.ior, 1) := by decide +kernel
theorem dL_few_19 : decode cL_few 19 = .ok (.iload_n 0, 1) := by decide +kernel
theorem dL_few_20 : decode cL_few 20 = .ok (.bipush 6, 2) := by decide +kernel
theorem dL_few_22 : decode cL_few 22 = .ok (.ishr, 1) := by decide +kernel
theorem dL_few_23 : decode cL_few 23 = .ok (.iconst 1, 1) := by decide +kernel
theorem dL_few_24 : decode cL_few 24 = .ok (.iand, 1) := by decide +kernel
theorem dL_few_25 : decode cL_few 25 = .ok (.ifCond .ne 17, 3) := by decide +kernel
theorem dL_few_28 : decode cL_few 28 = .ok (.iconst 1, 1) := by decide +kernel
theorem dL_few_29 : decode cL_few 29 = .ok (.iload_n 0, 1) := by decide +kernel
theorem dL_few_30 : decode cL_few 30 = .ok (.bipush 7, 2) := by decide +kernel
theorem dL_few_32 : decode cL_few 32 = .ok (.ishr, 1) := by decide +kernel
theorem dL_few_33 : decode cL_few 33 = .ok (.bipush 24, 2) := by decide +kernel
theorem dL_few_35 : decode cL_few 35 = .ok (.invokestatic 125, 3) := by decide +kernel
theorem dL_few_38 : decode cL_few 38 = .ok (.ishl, 1) := by decide +kernel
theorem dL_few_39 : decode cL_few 39 = .ok (.goto 4, 3) := by decide +kernel
theorem dL_few_42 : decode cL_few 42 = .ok (.iconst 0, 1) := by decide +kernel
theorem dL_few_43 : decode cL_few 43 = .ok (.ior, 1) := by decide +kernel
theorem dL_few_44 : decode cL_few 44 = .ok (.ireturn, 1) := by decide +kernel
set_option maxRecDepth 20000 in
theorem ggL_act_L_low : GoodIn wsL_act wsL_low := goodIn_r _ [4, 5] (by decide +kernel) (by decide +kernel)
set_option maxRecDepth 20000 in
theorem gL_act_L_low : GoodIn wsL_act (va_wsS RL 125 yL_low wsL_low) := goodIn_app (goodIn_of _ (by decide +kernel)) ggL_act_L_low
theorem gi_cons {big a : List Cond} {c : Cond} (hc : GoodIn big [c]) (ha : GoodIn big a) : GoodIn big (c :: a) := fun w h => (List.mem_cons.mp h).elim (fun e => hc w (e ▸ List.mem_cons_self)) (ha w)
theorem gi_one {big : List Cond} {c : Cond} (h : c ∈ big) (hg : [c].all goodWord = true) : GoodIn big [c] := fun w hw => by
  rw [List.mem_singleton] at hw
  exact ⟨hw ▸ h, good_of_word (List.all_eq_true.mp hg w (hw ▸ List.mem_cons_self))⟩
theorem ggL_act_L_does_wsL_does_r1 : GoodIn wsL_act wsL_does_r1 := goodIn_r _ [9, 10, 11, 12, 13, 14, 3, 15, 16, 17, 18, 19, 20, 21, 22, 23, 24, 25, 26, 27, 28, 29, 30, 31] (by decide +kernel) (by decide +kernel)
theorem ggL_act_L_does_wsL_does_r2 : GoodIn wsL_act wsL_does_r2 := goodIn_r _ [32, 33, 34, 35, 36, 37, 38, 39, 40, 41, 42, 43, 44, 45, 46, 47, 48, 49, 50, 51, 52, 53, 54, 55] (by decide +kernel) (by decide +kernel)
theorem ggL_act_L_does_wsL_does_r3 : GoodIn wsL_act wsL_does_r3 := goodIn_r _ [56, 57, 58, 59, 60, 61, 62, 63, 64, 65, 66, 67, 68, 69, 70, 71, 72, 73, 74, 75, 76, 77, 78, 79] (by decide +kernel) (by decide +kernel)
theorem ggL_act_L_does_wsL_does_r4 : GoodIn wsL_act wsL_does_r4 := goodIn_r _ [80, 81, 82, 83, 84, 85, 86, 87, 88, 89, 90, 91, 92, 93, 94, 95, 96, 97, 98, 99, 100, 101, 102, 103] (by decide +kernel) (by decide +kernel)
theorem ggL_act_L_does_wsL_does_r5 : GoodIn wsL_act wsL_does_r5 := goodIn_r _ [104, 105, 106, 107, 108, 109, 110, 111, 112, 113, 114, 115, 116, 117, 118, 119, 120, 121, 122, 123, 124, 125, 126, 127] (by decide +kernel) (by decide +kernel)
theorem ggL_act_L_does_wsL_does_r6 : GoodIn wsL_act wsL_does_r6 := goodIn_r _ [128, 129, 130, 131, 132, 133, 134, 135, 136, 137, 138, 139, 140, 141, 142, 143, 144, 145, 146, 147, 148, 149, 150, 151] (by decide +kernel) (by decide +kernel)
theorem ggL_act_L_does_wsL_does_r7 : GoodIn wsL_act wsL_does_r7 := goodIn_r _ [152, 153, 154, 155, 156, 157, 158, 159, 160, 161, 162, 163, 164, 165, 166, 167, 168, 169, 170, 171, 172, 173, 174, 175] (by decide +kernel) (by decide +kernel)
theorem ggL_act_L_does_wsL_does_r8 : GoodIn wsL_act wsL_does_r8 := goodIn_r _ [176, 177, 178, 179, 180, 181, 182, 183, 184, 185, 186, 187, 188, 189, 190, 191, 192, 193, 194, 195, 196, 197, 198, 199] (by decide +kernel) (by decide +kernel)
theorem ggL_act_L_does_wsL_does_r9 : GoodIn wsL_act wsL_does_r9 := goodIn_r _ [200, 201, 202, 203, 204, 205, 206, 207, 208, 209, 210, 211, 212, 213, 214, 215, 216, 217, 218, 219, 220, 221, 222, 223] (by decide +kernel) (by decide +kernel)
theorem ggL_act_L_does_wsL_does_r10 : GoodIn wsL_act wsL_does_r10 := goodIn_r _ [224, 225, 226, 227, 228, 229, 230, 231, 232, 233, 234, 235, 236, 237, 238, 239, 240, 241, 242, 243, 244, 245, 246, 247] (by decide +kernel) (by decide +kernel)
theorem ggL_act_L_does_wsL_does_r11 : GoodIn wsL_act wsL_does_r11 := goodIn_r _ [248, 249, 250, 251, 252, 253, 254, 255, 256, 257, 258, 259, 260, 261, 262, 263, 264, 265, 266, 267, 268, 269, 270, 271] (by decide +kernel) (by decide +kernel)
theorem ggL_act_L_does_wsL_does_r12 : GoodIn wsL_act wsL_does_r12 := goodIn_r _ [272, 273, 274, 275, 276, 277, 278, 279, 280, 281, 282, 283, 284, 285, 286, 287, 288, 289, 290, 291, 292, 293, 294, 295] (by decide +kernel) (by decide +kernel)
theorem ggL_act_L_does_wsL_does_r13 : GoodIn wsL_act wsL_does_r13 := goodIn_r _ [296, 297, 298, 299, 300, 301, 302, 303, 304, 305, 306, 307, 308, 309, 310, 311, 312, 313, 314, 315, 316, 317, 318, 319] (by decide +kernel) (by decide +kernel)
theorem ggL_act_L_does_wsL_does_r14 : GoodIn wsL_act wsL_does_r14 := goodIn_r _ [320, 321, 322, 323, 324, 325, 326, 327, 328, 329] (by decide +kernel) (by decide +kernel)
theorem ggL_act_L_does_wsX20 : GoodIn wsL_act wsX20 := goodIn_r _ [390, 391, 392, 393, 394, 395, 396, 397, 398, 399, 400, 401, 402, 403, 404] (by decide +kernel) (by decide +kernel)
theorem ggL_act_L_does_wsX10 : GoodIn wsL_act wsX10 := goodIn_r _ [405, 406, 407, 408, 409, 410, 411, 412, 413, 414, 415, 416, 417, 418, 419] (by decide +kernel) (by decide +kernel)
theorem ggL_act_L_does_wsX00 : GoodIn wsL_act wsX00 := goodIn_r _ [420, 421, 422, 423, 424, 425, 426, 427, 428, 429] (by decide +kernel) (by decide +kernel)
set_option maxRecDepth 100000 in
theorem ggL_act_L_does : GoodIn wsL_act wsL_does := goodIn_ca (goodIn_ca (goodIn_ca (gi_cons (gi_one (List.mem_of_getElem? (i := 8) rfl) (by decide +kernel)) (goodIn_app (goodIn_app (goodIn_app (goodIn_app ggL_act_L_does_wsL_does_r1 (goodIn_app ggL_act_L_does_wsL_does_r2 (goodIn_app ggL_act_L_does_wsL_does_r3 (goodIn_app ggL_act_L_does_wsL_does_r4 (goodIn_app ggL_act_L_does_wsL_does_r5 (goodIn_app ggL_act_L_does_wsL_does_r6 (goodIn_app ggL_act_L_does_wsL_does_r7 (goodIn_app ggL_act_L_does_wsL_does_r8 (goodIn_app ggL_act_L_does_wsL_does_r9 (goodIn_app ggL_act_L_does_wsL_does_r10 (goodIn_app ggL_act_L_does_wsL_does_r11 (goodIn_app ggL_act_L_does_wsL_does_r12 (goodIn_app ggL_act_L_does_wsL_does_r13 ggL_act_L_does_wsL_does_r14))))))))))))) ggL_act_L_does_wsX20) ggL_act_L_does_wsX10) ggL_act_L_does_wsX00)) (goodIn_sub (fun _ h => List.mem_cons_of_mem _ (List.mem_append_left _ (List.mem_append_left _ (List.mem_append_right _ h)))) (by decide +kernel))) (goodIn_sub (fun _ h => List.mem_cons_of_mem _ (List.mem_append_left _ (List.mem_append_right _ h))) (by decide +kernel))) (goodIn_sub (fun _ h => List.mem_cons_of_mem _ (List.mem_append_right _ h)) (by decide +kernel))
set_option maxRecDepth 20000 in
theorem gL_act_L_does : GoodIn wsL_act (va_wsS RL 128 yL_does wsL_does) := goodIn_app (goodIn_of _ (by decide +kernel)) ggL_act_L_does
set_option maxRecDepth 20000 in
theorem ggL_act_L_few : GoodIn wsL_act wsL_few := goodIn_r _ [332, 1, 2, 3, 4, 5] (by decide +kernel) (by decide +kernel)
set_option maxRecDepth 20000 in
theorem gL_act_L_few : GoodIn wsL_act (va_wsS RL 131 yL_few wsL_few) := goodIn_app (goodIn_of _ (by decide +kernel)) ggL_act_L_few
set_option maxRecDepth 20000 in
theorem ggL_act_L_found : GoodIn wsL_act wsL_found := goodIn_ca (goodIn_ca (goodIn_ca (goodIn_r _ [335, 9, 10, 11, 12, 336, 337, 338, 19, 339, 27, 28, 47, 48, 94, 340, 76, 341, 342, 99, 230, 343, 344, 345, 25, 26, 40, 41, 42, 346, 347, 348, 50, 51, 52, 77, 78, 79, 80, 349, 350, 351, 352, 353, 354, 355, 104, 105, 103, 101, 102, 356, 357, 358, 359, 360, 361, 362, 363, 364, 365, 366, 367, 368, 369, 38, 96, 97, 98, 100, 106, 107, 108, 109, 390, 391, 392, 393, 394, 395, 396, 397, 398, 399, 400, 401, 402, 403, 404, 405, 406, 407, 408, 409, 410, 411, 412, 413, 414, 415, 416, 417, 418, 419] (by decide +kernel) (by decide +kernel)) (goodIn_sub (fun _ h => List.mem_cons_of_mem _ (List.mem_append_left _ (List.mem_append_right _ h))) (by decide +kernel))) (goodIn_sub (fun _ h => List.mem_cons_of_mem _ (List.mem_append_right _ h)) (by decide +kernel))) (goodIn_sub (fun _ h => List.mem_cons_of_mem _ (List.mem_append_left _ (List.mem_append_left _ (List.mem_append_right _ h)))) (by decide +kernel))
set_option maxRecDepth 20000 in
theorem gL_act_L_found : GoodIn wsL_act (va_wsS RL 134 yL_found wsL_found) := goodIn_app (goodIn_of _ (by decide +kernel)) ggL_act_L_found
set_option maxRecDepth 20000 in
theorem ggL_act_L_claimed : GoodIn wsL_act wsL_claimed := goodIn_ca (goodIn_ca (goodIn_ca (goodIn_r _ [372, 9, 10, 11, 12, 373, 374, 375, 19, 376, 27, 28, 47, 48, 94, 377, 128, 378, 379, 145, 343, 344, 345, 25, 26, 40, 41, 42, 346, 347, 348, 77, 78, 79, 80, 380, 381, 382, 383, 353, 354, 215, 147, 384, 148, 385, 386, 387, 388, 389, 271, 390, 391, 392, 393, 394, 395, 396, 397, 398, 399, 400, 401, 402, 403, 404, 420, 421, 422, 423, 424, 425, 426, 427, 428, 429] (by decide +kernel) (by decide +kernel)) (goodIn_sub (fun _ h => List.mem_cons_of_mem _ (List.mem_append_left _ (List.mem_append_right _ h))) (by decide +kernel))) (goodIn_sub (fun _ h => List.mem_cons_of_mem _ (List.mem_append_right _ h)) (by decide +kernel))) (goodIn_sub (fun _ h => List.mem_cons_of_mem _ (List.mem_append_left _ (List.mem_append_left _ (List.mem_append_right _ h)))) (by decide +kernel))
set_option maxRecDepth 20000 in
theorem gL_act_L_claimed : GoodIn wsL_act (va_wsS RL 138 yL_claimed wsL_claimed) := goodIn_app (goodIn_of _ (by decide +kernel)) ggL_act_L_claimed
theorem dL_act_0 : decode cL_act 0 = .ok (.iload_n 1, 1) := by decide +kernel
theorem dL_act_1 : decode cL_act 1 = .ok (.bipush 18, 2) := by decide +kernel
theorem dL_act_3 : decode cL_act 3 = .ok (.ishr, 1) := by decide +kernel
theorem dL_act_4 : decode cL_act 4 = .ok (.bipush 7, 2) := by decide +kernel
theorem dL_act_6 : decode cL_act 6 = .ok (.iand, 1) := by decide +kernel
theorem dL_act_7 : decode cL_act 7 = .ok (.bipush 7, 2) := by decide +kernel
theorem dL_act_9 : decode cL_act 9 = .ok (.if_icmp .ne 7, 3) := by decide +kernel
theorem dL_act_12 : decode cL_act 12 = .ok (.iconst 1, 1) := by decide +kernel
theorem dL_act_13 : decode cL_act 13 = .ok (.goto 4, 3) := by decide +kernel
theorem dL_act_16 : decode cL_act 16 = .ok (.iconst 0, 1) := by decide +kernel
theorem dL_act_17 : decode cL_act 17 = .ok (.istore_n 2, 1) := by decide +kernel
theorem dL_act_18 : decode cL_act 18 = .ok (.iload_n 1, 1) := by decide +kernel
theorem dL_act_19 : decode cL_act 19 = .ok (.bipush 52, 2) := by decide +kernel
theorem dL_act_21 : decode cL_act 21 = .ok (.invokestatic 125, 3) := by decide +kernel
theorem dL_act_24 : decode cL_act 24 = .ok (.istore_n 3, 1) := by decide +kernel
theorem dL_act_25 : decode cL_act 25 = .ok (.iload_n 1, 1) := by decide +kernel
theorem dL_act_26 : decode cL_act 26 = .ok (.bipush 6, 2) := by decide +kernel
theorem dL_act_28 : decode cL_act 28 = .ok (.ishr, 1) := by decide +kernel
theorem dL_act_29 : decode cL_act 29 = .ok (.istore 4, 2) := by decide +kernel
theorem dL_act_31 : decode cL_act 31 = .ok (.iload 4, 2) := by decide +kernel
theorem dL_act_33 : decode cL_act 33 = .ok (.iconst 3, 1) := by decide +kernel
theorem dL_act_34 : decode cL_act 34 = .ok (.iand, 1) := by decide +kernel
theorem dL_act_35 : decode cL_act 35 = .ok (.ifCond .ne 24, 3) := by decide +kernel
theorem dL_act_38 : decode cL_act 38 = .ok (.iload 4, 2) := by decide +kernel
theorem dL_act_40 : decode cL_act 40 = .ok (.iconst 2, 1) := by decide +kernel
theorem dL_act_41 : decode cL_act 41 = .ok (.ishr, 1) := by decide +kernel
theorem dL_act_42 : decode cL_act 42 = .ok (.iload_n 2, 1) := by decide +kernel
theorem dL_act_43 : decode cL_act 43 = .ok (.ifCond .eq 8, 3) := by decide +kernel
theorem dL_act_46 : decode cL_act 46 = .ok (.bipush 10, 2) := by decide +kernel
theorem dL_act_48 : decode cL_act 48 = .ok (.goto 5, 3) := by decide +kernel
theorem dL_act_51 : decode cL_act 51 = .ok (.bipush 8, 2) := by decide +kernel
theorem dL_act_53 : decode cL_act 53 = .ok (.invokestatic 125, 3) := by decide +kernel
theorem dL_act_56 : decode cL_act 56 = .ok (.goto 9, 3) := by decide +kernel
theorem dL_act_59 : decode cL_act 59 = .ok (.iload 4, 2) := by decide +kernel
theorem dL_act_61 : decode cL_act 61 = .ok (.iconst 2, 1) := by decide +kernel
theorem dL_act_62 : decode cL_act 62 = .ok (.ishr, 1) := by decide +kernel
theorem dL_act_63 : decode cL_act 63 = .ok (.iconst 1, 1) := by decide +kernel
theorem dL_act_64 : decode cL_act 64 = .ok (.iand, 1) := by decide +kernel
theorem dL_act_65 : decode cL_act 65 = .ok (.istore 5, 2) := by decide +kernel
theorem dL_act_67 : decode cL_act 67 = .ok (.iload_n 3, 1) := by decide +kernel
theorem dL_act_68 : decode cL_act 68 = .ok (.bipush 7, 2) := by decide +kernel
theorem dL_act_70 : decode cL_act 70 = .ok (.if_icmp .ge 203, 3) := by decide +kernel
theorem dL_act_73 : decode cL_act 73 = .ok (.iload_n 3, 1) := by decide +kernel
theorem dL_act_74 : decode cL_act 74 = .ok (.iconst 3, 1) := by decide +kernel
theorem dL_act_75 : decode cL_act 75 = .ok (.if_icmp .ge 37, 3) := by decide +kernel
theorem dL_act_78 : decode cL_act 78 = .ok (.aload_n 0, 1) := by decide +kernel
theorem dL_act_79 : decode cL_act 79 = .ok (.iconst 0, 1) := by decide +kernel
theorem dL_act_80 : decode cL_act 80 = .ok (.iload 4, 2) := by decide +kernel
theorem dL_act_82 : decode cL_act 82 = .ok (.iload_n 2, 1) := by decide +kernel
theorem dL_act_83 : decode cL_act 83 = .ok (.ifCond .eq 8, 3) := by decide +kernel
theorem dL_act_86 : decode cL_act 86 = .ok (.bipush 26, 2) := by decide +kernel
theorem dL_act_88 : decode cL_act 88 = .ok (.goto 5, 3) := by decide +kernel
theorem dL_act_91 : decode cL_act 91 = .ok (.bipush 24, 2) := by decide +kernel
theorem dL_act_93 : decode cL_act 93 = .ok (.invokestatic 125, 3) := by decide +kernel
theorem dL_act_96 : decode cL_act 96 = .ok (.iload 4, 2) := by decide +kernel
theorem dL_act_98 : decode cL_act 98 = .ok (.iconst 5, 1) := by decide +kernel
theorem dL_act_99 : decode cL_act 99 = .ok (.ishr, 1) := by decide +kernel
theorem dL_act_100 : decode cL_act 100 = .ok (.bipush 24, 2) := by decide +kernel
theorem dL_act_102 : decode cL_act 102 = .ok (.invokestatic 125, 3) := by decide +kernel
theorem dL_act_105 : decode cL_act 105 = .ok (.iconst 0, 1) := by decide +kernel
theorem dL_act_106 : decode cL_act 106 = .ok (.invokestatic 128, 3) := by decide +kernel
theorem dL_act_109 : decode cL_act 109 = .ok (.goto 163, 3) := by decide +kernel
theorem dL_act_112 : decode cL_act 112 = .ok (.iload_n 3, 1) := by decide +kernel
theorem dL_act_113 : decode cL_act 113 = .ok (.iconst 3, 1) := by decide +kernel
theorem dL_act_114 : decode cL_act 114 = .ok (.if_icmp .ne 28, 3) := by decide +kernel
theorem dL_act_117 : decode cL_act 117 = .ok (.aload_n 0, 1) := by decide +kernel
theorem dL_act_118 : decode cL_act 118 = .ok (.iconst 1, 1) := by decide +kernel
theorem dL_act_119 : decode cL_act 119 = .ok (.iload 4, 2) := by decide +kernel
theorem dL_act_121 : decode cL_act 121 = .ok (.bipush 8, 2) := by decide +kernel
theorem dL_act_123 : decode cL_act 123 = .ok (.invokestatic 125, 3) := by decide +kernel
theorem dL_act_126 : decode cL_act 126 = .ok (.iload 4, 2) := by decide +kernel
theorem dL_act_128 : decode cL_act 128 = .ok (.iconst 3, 1) := by decide +kernel
theorem dL_act_129 : decode cL_act 129 = .ok (.ishr, 1) := by decide +kernel
theorem dL_act_130 : decode cL_act 130 = .ok (.bipush 8, 2) := by decide +kernel
theorem dL_act_132 : decode cL_act 132 = .ok (.invokestatic 125, 3) := by decide +kernel
theorem dL_act_135 : decode cL_act 135 = .ok (.iconst 0, 1) := by decide +kernel
theorem dL_act_136 : decode cL_act 136 = .ok (.invokestatic 128, 3) := by decide +kernel
theorem dL_act_139 : decode cL_act 139 = .ok (.goto 133, 3) := by decide +kernel
theorem dL_act_142 : decode cL_act 142 = .ok (.iload_n 3, 1) := by decide +kernel
theorem dL_act_143 : decode cL_act 143 = .ok (.iconst 4, 1) := by decide +kernel
theorem dL_act_144 : decode cL_act 144 = .ok (.if_icmp .ne 55, 3) := by decide +kernel
theorem dL_act_147 : decode cL_act 147 = .ok (.aload_n 0, 1) := by decide +kernel
theorem dL_act_148 : decode cL_act 148 = .ok (.iconst 2, 1) := by decide +kernel
theorem dL_act_149 : decode cL_act 149 = .ok (.iload 4, 2) := by decide +kernel
theorem dL_act_151 : decode cL_act 151 = .ok (.bipush 8, 2) := by decide +kernel
theorem dL_act_153 : decode cL_act 153 = .ok (.invokestatic 125, 3) := by decide +kernel
theorem dL_act_156 : decode cL_act 156 = .ok (.iload_n 2, 1) := by decide +kernel
theorem dL_act_157 : decode cL_act 157 = .ok (.ifCond .eq 7, 3) := by decide +kernel
theorem dL_act_160 : decode cL_act 160 = .ok (.iconst 0, 1) := by decide +kernel
theorem dL_act_161 : decode cL_act 161 = .ok (.goto 4, 3) := by decide +kernel
theorem dL_act_164 : decode cL_act 164 = .ok (.iconst 1, 1) := by decide +kernel
theorem dL_act_165 : decode cL_act 165 = .ok (.iload 4, 2) := by decide +kernel
theorem dL_act_167 : decode cL_act 167 = .ok (.iconst 3, 1) := by decide +kernel
theorem dL_act_168 : decode cL_act 168 = .ok (.ishr, 1) := by decide +kernel
theorem dL_act_169 : decode cL_act 169 = .ok (.bipush 60, 2) := by decide +kernel
theorem dL_act_171 : decode cL_act 171 = .ok (.invokestatic 125, 3) := by decide +kernel
theorem dL_act_174 : decode cL_act 174 = .ok (.iadd, 1) := by decide +kernel
theorem dL_act_175 : decode cL_act 175 = .ok (.iload 4, 2) := by decide +kernel
theorem dL_act_177 : decode cL_act 177 = .ok (.iconst 5, 1) := by decide +kernel
theorem dL_act_178 : decode cL_act 178 = .ok (.ishr, 1) := by decide +kernel
theorem dL_act_179 : decode cL_act 179 = .ok (.iload_n 2, 1) := by decide +kernel
theorem dL_act_180 : decode cL_act 180 = .ok (.ifCond .eq 8, 3) := by decide +kernel
theorem dL_act_183 : decode cL_act 183 = .ok (.bipush 60, 2) := by decide +kernel
theorem dL_act_185 : decode cL_act 185 = .ok (.goto 5, 3) := by decide +kernel
theorem dL_act_188 : decode cL_act 188 = .ok (.bipush 51, 2) := by decide +kernel
theorem dL_act_190 : decode cL_act 190 = .ok (.invokestatic 125, 3) := by decide +kernel
theorem dL_act_193 : decode cL_act 193 = .ok (.invokestatic 128, 3) := by decide +kernel
theorem dL_act_196 : decode cL_act 196 = .ok (.goto 76, 3) := by decide +kernel
theorem dL_act_199 : decode cL_act 199 = .ok (.iload_n 3, 1) := by decide +kernel
theorem dL_act_200 : decode cL_act 200 = .ok (.iconst 5, 1) := by decide +kernel
theorem dL_act_201 : decode cL_act 201 = .ok (.if_icmp .ne 36, 3) := by decide +kernel
theorem dL_act_204 : decode cL_act 204 = .ok (.aload_n 0, 1) := by decide +kernel
theorem dL_act_205 : decode cL_act 205 = .ok (.iconst 3, 1) := by decide +kernel
theorem dL_act_206 : decode cL_act 206 = .ok (.iload 4, 2) := by decide +kernel
theorem dL_act_208 : decode cL_act 208 = .ok (.iload_n 2, 1) := by decide +kernel
theorem dL_act_209 : decode cL_act 209 = .ok (.ifCond .eq 8, 3) := by decide +kernel
theorem dL_act_212 : decode cL_act 212 = .ok (.bipush 6, 2) := by decide +kernel
theorem dL_act_214 : decode cL_act 214 = .ok (.goto 4, 3) := by decide +kernel
theorem dL_act_217 : decode cL_act 217 = .ok (.iconst 4, 1) := by decide +kernel
theorem dL_act_218 : decode cL_act 218 = .ok (.invokestatic 125, 3) := by decide +kernel
theorem dL_act_221 : decode cL_act 221 = .ok (.iload 4, 2) := by decide +kernel
theorem dL_act_223 : decode cL_act 223 = .ok (.iconst 2, 1) := by decide +kernel
theorem dL_act_224 : decode cL_act 224 = .ok (.ishr, 1) := by decide +kernel
theorem dL_act_225 : decode cL_act 225 = .ok (.bipush 6, 2) := by decide +kernel
theorem dL_act_227 : decode cL_act 227 = .ok (.invokestatic 125, 3) := by decide +kernel
theorem dL_act_230 : decode cL_act 230 = .ok (.iconst 0, 1) := by decide +kernel
theorem dL_act_231 : decode cL_act 231 = .ok (.invokestatic 128, 3) := by decide +kernel
theorem dL_act_234 : decode cL_act 234 = .ok (.goto 38, 3) := by decide +kernel
theorem dL_act_237 : decode cL_act 237 = .ok (.aload_n 0, 1) := by decide +kernel
theorem dL_act_238 : decode cL_act 238 = .ok (.iconst 4, 1) := by decide +kernel
theorem dL_act_239 : decode cL_act 239 = .ok (.iload_n 2, 1) := by decide +kernel
theorem dL_act_240 : decode cL_act 240 = .ok (.ifCond .eq 7, 3) := by decide +kernel
theorem dL_act_243 : decode cL_act 243 = .ok (.iconst 0, 1) := by decide +kernel
theorem dL_act_244 : decode cL_act 244 = .ok (.goto 5, 3) := by decide +kernel
theorem dL_act_247 : decode cL_act 247 = .ok (.bipush 30, 2) := by decide +kernel
theorem dL_act_249 : decode cL_act 249 = .ok (.iload 4, 2) := by decide +kernel
theorem dL_act_251 : decode cL_act 251 = .ok (.iload_n 2, 1) := by decide +kernel
theorem dL_act_252 : decode cL_act 252 = .ok (.ifCond .eq 9, 3) := by decide +kernel
theorem dL_act_255 : decode cL_act 255 = .ok (.sipush 300, 3) := by decide +kernel
theorem dL_act_258 : decode cL_act 258 = .ok (.goto 5, 3) := by decide +kernel
theorem dL_act_261 : decode cL_act 261 = .ok (.bipush 60, 2) := by decide +kernel
theorem dL_act_263 : decode cL_act 263 = .ok (.invokestatic 125, 3) := by decide +kernel
theorem dL_act_266 : decode cL_act 266 = .ok (.iadd, 1) := by decide +kernel
theorem dL_act_267 : decode cL_act 267 = .ok (.iconst 0, 1) := by decide +kernel
theorem dL_act_268 : decode cL_act 268 = .ok (.iconst 0, 1) := by decide +kernel
theorem dL_act_269 : decode cL_act 269 = .ok (.invokestatic 128, 3) := by decide +kernel
theorem dL_act_272 : decode cL_act 272 = .ok (.ireturn, 1) := by decide +kernel
theorem dL_act_273 : decode cL_act 273 = .ok (.iload_n 3, 1) := by decide +kernel
theorem dL_act_274 : decode cL_act 274 = .ok (.bipush 15, 2) := by decide +kernel
theorem dL_act_276 : decode cL_act 276 = .ok (.if_icmp .ge 175, 3) := by decide +kernel
theorem dL_act_279 : decode cL_act 279 = .ok (.iload_n 3, 1) := by decide +kernel
theorem dL_act_280 : decode cL_act 280 = .ok (.bipush 12, 2) := by decide +kernel
theorem dL_act_282 : decode cL_act 282 = .ok (.if_icmp .ge 104, 3) := by decide +kernel
theorem dL_act_285 : decode cL_act 285 = .ok (.aload_n 0, 1) := by decide +kernel
theorem dL_act_286 : decode cL_act 286 = .ok (.iload 5, 2) := by decide +kernel
theorem dL_act_288 : decode cL_act 288 = .ok (.bipush 10, 2) := by decide +kernel
theorem dL_act_290 : decode cL_act 290 = .ok (.iload 4, 2) := by decide +kernel
theorem dL_act_292 : decode cL_act 292 = .ok (.iconst 3, 1) := by decide +kernel
theorem dL_act_293 : decode cL_act 293 = .ok (.ishr, 1) := by decide +kernel
theorem dL_act_294 : decode cL_act 294 = .ok (.iload_n 2, 1) := by decide +kernel
theorem dL_act_295 : decode cL_act 295 = .ok (.ifCond .eq 8, 3) := by decide +kernel
theorem dL_act_298 : decode cL_act 298 = .ok (.bipush 12, 2) := by decide +kernel
theorem dL_act_300 : decode cL_act 300 = .ok (.goto 5, 3) := by decide +kernel
theorem dL_act_303 : decode cL_act 303 = .ok (.bipush 10, 2) := by decide +kernel
theorem dL_act_305 : decode cL_act 305 = .ok (.invokestatic 125, 3) := by decide +kernel
theorem dL_act_308 : decode cL_act 308 = .ok (.imul, 1) := by decide +kernel
theorem dL_act_309 : decode cL_act 309 = .ok (.iadd, 1) := by decide +kernel
theorem dL_act_310 : decode cL_act 310 = .ok (.iload 4, 2) := by decide +kernel
theorem dL_act_312 : decode cL_act 312 = .ok (.iconst 5, 1) := by decide +kernel
theorem dL_act_313 : decode cL_act 313 = .ok (.ishr, 1) := by decide +kernel
theorem dL_act_314 : decode cL_act 314 = .ok (.iconst 4, 1) := by decide +kernel
theorem dL_act_315 : decode cL_act 315 = .ok (.invokestatic 125, 3) := by decide +kernel
theorem dL_act_318 : decode cL_act 318 = .ok (.iload_n 2, 1) := by decide +kernel
theorem dL_act_319 : decode cL_act 319 = .ok (.ifCond .eq 8, 3) := by decide +kernel
theorem dL_act_322 : decode cL_act 322 = .ok (.iload 4, 2) := by decide +kernel
theorem dL_act_324 : decode cL_act 324 = .ok (.goto 10, 3) := by decide +kernel
theorem dL_act_327 : decode cL_act 327 = .ok (.iload 4, 2) := by decide +kernel
theorem dL_act_329 : decode cL_act 329 = .ok (.iconst 2, 1) := by decide +kernel
theorem dL_act_330 : decode cL_act 330 = .ok (.ishr, 1) := by decide +kernel
theorem dL_act_331 : decode cL_act 331 = .ok (.invokestatic 131, 3) := by decide +kernel
theorem dL_act_334 : decode cL_act 334 = .ok (.iload 4, 2) := by decide +kernel
theorem dL_act_336 : decode cL_act 336 = .ok (.iconst 4, 1) := by decide +kernel
theorem dL_act_337 : decode cL_act 337 = .ok (.ishr, 1) := by decide +kernel
theorem dL_act_338 : decode cL_act 338 = .ok (.invokestatic 131, 3) := by decide +kernel
theorem dL_act_341 : decode cL_act 341 = .ok (.iload 4, 2) := by decide +kernel
theorem dL_act_343 : decode cL_act 343 = .ok (.iconst 2, 1) := by decide +kernel
theorem dL_act_344 : decode cL_act 344 = .ok (.ishr, 1) := by decide +kernel
theorem dL_act_345 : decode cL_act 345 = .ok (.invokestatic 131, 3) := by decide +kernel
theorem dL_act_348 : decode cL_act 348 = .ok (.iconst (-1), 1) := by decide +kernel
theorem dL_act_349 : decode cL_act 349 = .ok (.ixor, 1) := by decide +kernel
theorem dL_act_350 : decode cL_act 350 = .ok (.iand, 1) := by decide +kernel
theorem dL_act_351 : decode cL_act 351 = .ok (.iload 4, 2) := by decide +kernel
theorem dL_act_353 : decode cL_act 353 = .ok (.iconst 1, 1) := by decide +kernel
theorem dL_act_354 : decode cL_act 354 = .ok (.ishr, 1) := by decide +kernel
theorem dL_act_355 : decode cL_act 355 = .ok (.sipush 10000, 3) := by decide +kernel
theorem dL_act_358 : decode cL_act 358 = .ok (.invokestatic 125, 3) := by decide +kernel
theorem dL_act_361 : decode cL_act 361 = .ok (.iload 4, 2) := by decide +kernel
theorem dL_act_363 : decode cL_act 363 = .ok (.bipush 6, 2) := by decide +kernel
theorem dL_act_365 : decode cL_act 365 = .ok (.ishr, 1) := by decide +kernel
theorem dL_act_366 : decode cL_act 366 = .ok (.iload_n 2, 1) := by decide +kernel
theorem dL_act_367 : decode cL_act 367 = .ok (.ifCond .eq 8, 3) := by decide +kernel
theorem dL_act_370 : decode cL_act 370 = .ok (.bipush 8, 2) := by decide +kernel
theorem dL_act_372 : decode cL_act 372 = .ok (.goto 5, 3) := by decide +kernel
theorem dL_act_375 : decode cL_act 375 = .ok (.bipush 6, 2) := by decide +kernel
theorem dL_act_377 : decode cL_act 377 = .ok (.invokestatic 125, 3) := by decide +kernel
theorem dL_act_380 : decode cL_act 380 = .ok (.invokestatic 134, 3) := by decide +kernel
theorem dL_act_383 : decode cL_act 383 = .ok (.goto 67, 3) := by decide +kernel
theorem dL_act_386 : decode cL_act 386 = .ok (.aload_n 0, 1) := by decide +kernel
theorem dL_act_387 : decode cL_act 387 = .ok (.iload 5, 2) := by decide +kernel
theorem dL_act_389 : decode cL_act 389 = .ok (.bipush 10, 2) := by decide +kernel
theorem dL_act_391 : decode cL_act 391 = .ok (.iload 4, 2) := by decide +kernel
theorem dL_act_393 : decode cL_act 393 = .ok (.iconst 3, 1) := by decide +kernel
theorem dL_act_394 : decode cL_act 394 = .ok (.ishr, 1) := by decide +kernel
theorem dL_act_395 : decode cL_act 395 = .ok (.bipush 10, 2) := by decide +kernel
theorem dL_act_397 : decode cL_act 397 = .ok (.invokestatic 125, 3) := by decide +kernel
theorem dL_act_400 : decode cL_act 400 = .ok (.imul, 1) := by decide +kernel
theorem dL_act_401 : decode cL_act 401 = .ok (.iadd, 1) := by decide +kernel
theorem dL_act_402 : decode cL_act 402 = .ok (.iload 4, 2) := by decide +kernel
theorem dL_act_404 : decode cL_act 404 = .ok (.iconst 5, 1) := by decide +kernel
theorem dL_act_405 : decode cL_act 405 = .ok (.ishr, 1) := by decide +kernel
theorem dL_act_406 : decode cL_act 406 = .ok (.bipush 12, 2) := by decide +kernel
theorem dL_act_408 : decode cL_act 408 = .ok (.invokestatic 125, 3) := by decide +kernel
theorem dL_act_411 : decode cL_act 411 = .ok (.iload 4, 2) := by decide +kernel
