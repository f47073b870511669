set_option maxRecDepth 20000 in
theorem ggL_law_X5_init : GoodIn wsL_law wsX5_init := goodIn_r _ [6, 7, 8, 9, 10, 11, 12, 13, 14, 15, 16, 17, 18, 19, 20, 21, 22, 23, 24, 25, 26, 27, 28, 29, 30, 31, 32, 33, 34, 35, 36, 3, 37, 38, 39, 40, 41, 42, 43, 44, 45, 46, 47, 48, 49, 50, 51, 52, 53, 54, 55, 56, 57, 58, 59, 60, 61, 62, 63, 64, 65, 66, 67, 68, 69, 70, 71, 72, 73, 74, 75, 76, 77, 78, 79, 80, 81, 82, 419, 420, 421, 422, 423, 424, 425, 426, 427, 428, 429, 430, 431, 432, 433, 434, 435, 436, 437, 438, 439, 440, 441, 442, 443, 444, 445, 446, 447, 448, 449, 450, 451, 452, 453, 454, 455, 456, 457, 458, 459, 460] (by decide +kernel) (by decide +kernel)
set_option maxRecDepth 20000 in
theorem gL_law_X5_init : GoodIn wsL_law (wsX5_init) := ggL_law_X5_init
set_option maxRecDepth 20000 in
theorem ggL_law_X5_time : GoodIn wsL_law wsX5_time := goodIn_r _ [86, 24, 419, 420, 421, 422, 423, 424, 425, 426, 427] (by decide +kernel) (by decide +kernel)
set_option maxRecDepth 20000 in
theorem gL_law_X5_time : GoodIn wsL_law (wsV RL 56 RX5 yX5_time wsX5_time) := goodIn_app (goodIn_of _ (by decide +kernel)) ggL_law_X5_time
set_option maxRecDepth 20000 in
theorem ggL_law_X5_messages : GoodIn wsL_law wsX5_messages := goodIn_r _ [90, 23, 91, 419, 420, 421, 422, 423, 424, 425, 426, 427, 434, 435, 436] (by decide +kernel) (by decide +kernel)
set_option maxRecDepth 20000 in
theorem gL_law_X5_messages : GoodIn wsL_law (wsV RL 93 RX5 yX5_messages wsX5_messages) := goodIn_app (goodIn_of _ (by decide +kernel)) ggL_law_X5_messages
set_option maxRecDepth 20000 in
theorem ggL_law_X5_queued : GoodIn wsL_law wsX5_queued := goodIn_r _ [95, 19, 96, 97, 98, 18, 99, 38, 39, 419, 420, 421, 422, 423, 424, 425, 426, 427, 428, 429, 430, 431, 432, 433] (by decide +kernel) (by decide +kernel)
set_option maxRecDepth 20000 in
theorem gL_law_X5_queued : GoodIn wsL_law (wsV RL 66 RX5 yX5_queued wsX5_queued) := goodIn_app (goodIn_of _ (by decide +kernel)) ggL_law_X5_queued
set_option maxRecDepth 20000 in
theorem ggL_law_X5_lost : GoodIn wsL_law wsX5_lost := goodIn_r _ [103, 19, 104, 419, 420, 421, 422, 423, 424, 425, 426, 427, 428, 429, 430, 431, 432, 433] (by decide +kernel) (by decide +kernel)
set_option maxRecDepth 20000 in
theorem gL_law_X5_lost : GoodIn wsL_law (wsV RL 110 RX5 yX5_lost wsX5_lost) := goodIn_app (goodIn_of _ (by decide +kernel)) ggL_law_X5_lost
set_option maxRecDepth 20000 in
theorem ggL_law_X5_tokens : GoodIn wsL_law wsX5_tokens := goodIn_ca (goodIn_r _ [108, 109, 110, 111, 112, 2, 113, 114, 115, 11, 437, 438, 439, 440, 441, 442, 443, 444, 445, 419, 420, 421, 422, 423, 424, 425, 426, 427] (by decide +kernel) (by decide +kernel)) (goodIn_sub (fun _ h => List.mem_append_left _ (List.mem_append_left _ (List.mem_append_right _ h))) (by decide +kernel))
set_option maxRecDepth 20000 in
theorem gL_law_X5_tokens : GoodIn wsL_law (wsV RL 63 RX5 yX5_tokens wsX5_tokens) := goodIn_app (goodIn_of _ (by decide +kernel)) ggL_law_X5_tokens
set_option maxRecDepth 20000 in
theorem ggL_law_X5_lines : GoodIn wsL_law wsX5_lines := goodIn_ca (goodIn_r _ [119, 114, 115, 120, 121, 122, 2, 123, 15, 124, 125, 126, 33, 127, 81, 128, 129, 130, 131, 75, 132, 133, 134, 135, 74, 419, 420, 421, 422, 423, 424, 425, 426, 427, 451, 452, 453, 454, 455, 456, 457, 458, 459, 460] (by decide +kernel) (by decide +kernel)) (goodIn_sub (fun _ h => List.mem_append_left _ (List.mem_append_left _ (List.mem_append_right _ h))) (by decide +kernel))
set_option maxRecDepth 20000 in
theorem gL_law_X5_lines : GoodIn wsL_law (wsV RL 40 RX5 yX5_lines wsX5_lines) := goodIn_app (goodIn_of _ (by decide +kernel)) ggL_law_X5_lines
set_option maxRecDepth 20000 in
theorem ggL_law_X5_generations : GoodIn wsL_law wsX5_generations := goodIn_ca (goodIn_r _ [139, 140, 120, 121, 122, 2, 123, 114, 115, 15, 451, 452, 453, 454, 455, 456, 457, 458, 459, 460, 419, 420, 421, 422, 423, 424, 425, 426, 427] (by decide +kernel) (by decide +kernel)) (goodIn_sub (fun _ h => List.mem_append_left _ (List.mem_append_left _ (List.mem_append_right _ h))) (by decide +kernel))
set_option maxRecDepth 20000 in
theorem gL_law_X5_generations : GoodIn wsL_law (wsV RL 31 RX5 yX5_generations wsX5_generations) := goodIn_app (goodIn_of _ (by decide +kernel)) ggL_law_X5_generations
set_option maxRecDepth 20000 in
theorem ggL_law_L_draw : GoodIn wsL_law wsL_draw := goodIn_r _ [144, 145, 146, 147] (by decide +kernel) (by decide +kernel)
set_option maxRecDepth 20000 in
theorem gL_law_L_draw : GoodIn wsL_law (va_wsS RL 114 yL_draw wsL_draw) := goodIn_app (goodIn_of _ (by decide +kernel)) ggL_law_L_draw
theorem ggL_law_L_step_h : GoodIn wsL_law [.code yL_step cL_step 11 (some .boolean)] := goodIn_r _ [150] (by decide +kernel) (by decide +kernel)
set_option maxRecDepth 20000 in
theorem ggL_law_L_step_r1 : GoodIn wsL_law wsL_step_r1 := goodIn_r _ [151, 152, 153, 2, 154, 114, 115, 155, 156, 157, 158, 159, 160, 13, 161, 162, 163, 164, 165, 166, 31, 167, 65, 66] (by decide +kernel) (by decide +kernel)
set_option maxRecDepth 20000 in
theorem ggL_law_L_step_r2 : GoodIn wsL_law wsL_step_r2 := goodIn_r _ [67, 68, 69, 168, 169, 170, 171, 172, 173, 174, 175, 176, 25, 26, 11, 177, 178, 179, 29, 180, 61, 181, 182, 183] (by decide +kernel) (by decide +kernel)
set_option maxRecDepth 20000 in
theorem ggL_law_L_step_r3 : GoodIn wsL_law wsL_step_r3 := goodIn_r _ [184, 27, 185, 186, 187, 188, 189, 120, 121, 122, 123, 15, 190, 191, 192, 33, 193, 76, 77, 78, 81, 194, 195, 196] (by decide +kernel) (by decide +kernel)
set_option maxRecDepth 20000 in
theorem ggL_law_L_step_r4 : GoodIn wsL_law wsL_step_r4 := goodIn_r _ [197, 136, 137, 138, 139, 140, 198, 199, 143, 200, 201, 202, 203, 204, 205, 206, 207, 208, 209, 210, 211, 212, 213, 24] (by decide +kernel) (by decide +kernel)
set_option maxRecDepth 20000 in
theorem ggL_law_L_step_r5 : GoodIn wsL_law wsL_step_r5 := goodIn_r _ [214, 215, 216, 217, 218, 219, 220, 221, 222, 223, 224, 225, 226, 227, 228, 229, 230, 231, 232, 233, 234, 235, 236, 237] (by decide +kernel) (by decide +kernel)
set_option maxRecDepth 20000 in
theorem ggL_law_L_step_r6 : GoodIn wsL_law wsL_step_r6 := goodIn_r _ [238, 239, 240, 241, 242, 243, 19, 244, 245, 246, 247, 248, 249, 250, 251, 80, 79, 75, 73, 252, 253, 254, 255, 74] (by decide +kernel) (by decide +kernel)
set_option maxRecDepth 20000 in
theorem ggL_law_L_step_r7 : GoodIn wsL_law wsL_step_r7 := goodIn_r _ [256, 257, 258, 259, 82, 260, 261, 262, 18, 263, 38, 40, 37, 41, 264, 265, 266, 267, 268, 269, 270, 271, 272, 83] (by decide +kernel) (by decide +kernel)
set_option maxRecDepth 20000 in
theorem ggL_law_L_step_r8 : GoodIn wsL_law wsL_step_r8 := goodIn_r _ [84, 85, 86, 273, 274, 275, 276, 110, 111, 112, 113, 105, 106, 107, 108, 109, 116, 117, 118, 119, 124, 125, 126, 127] (by decide +kernel) (by decide +kernel)
set_option maxRecDepth 20000 in
theorem ggL_law_L_step_r9 : GoodIn wsL_law wsL_step_r9 := goodIn_r _ [128, 129, 130, 131, 132, 133, 134, 135, 277, 278, 279, 280, 281, 282, 283, 284, 285, 286, 92, 93, 94, 95, 96, 97] (by decide +kernel) (by decide +kernel)
set_option maxRecDepth 20000 in
theorem ggL_law_L_step_r10 : GoodIn wsL_law wsL_step_r10 := goodIn_r _ [98, 99, 39, 287, 288, 289, 290, 291, 292, 293, 294, 295, 296, 297, 298, 299, 300, 301, 302, 303, 304, 305, 306, 307] (by decide +kernel) (by decide +kernel)
set_option maxRecDepth 20000 in
theorem ggL_law_L_step_r11 : GoodIn wsL_law wsL_step_r11 := goodIn_r _ [42, 308, 309, 310, 311, 312, 313, 314, 315, 316, 317, 318, 319, 320, 321, 322, 323, 324, 325, 326, 327, 328, 329, 330] (by decide +kernel) (by decide +kernel)
set_option maxRecDepth 20000 in
theorem ggL_law_L_step_r12 : GoodIn wsL_law wsL_step_r12 := goodIn_r _ [331, 332, 333, 334, 335, 336, 337, 338, 339, 340, 341, 342, 343, 344, 345, 346, 347, 348, 349, 350, 23, 91, 351, 352] (by decide +kernel) (by decide +kernel)
set_option maxRecDepth 20000 in
theorem ggL_law_L_step_r13 : GoodIn wsL_law wsL_step_r13 := goodIn_r _ [353, 22, 354, 48, 355, 356, 357, 358, 56, 57, 58, 59, 359, 360, 361, 362, 53, 54, 363, 364, 365, 366, 46, 47] (by decide +kernel) (by decide +kernel)
set_option maxRecDepth 20000 in
theorem ggL_law_L_step_r14 : GoodIn wsL_law wsL_step_r14 := goodIn_r _ [367, 368, 369, 370, 371, 372, 373, 374, 375, 87, 88, 89, 90, 376, 377, 378, 379, 380, 381, 382, 383, 384, 385, 386] (by decide +kernel) (by decide +kernel)
set_option maxRecDepth 20000 in
theorem ggL_law_L_step_r15 : GoodIn wsL_law wsL_step_r15 := goodIn_r _ [387, 388, 389, 390, 391, 392, 393, 394, 395, 396, 397, 398, 399, 400, 401, 402, 403] (by decide +kernel) (by decide +kernel)
set_option maxRecDepth 20000 in
theorem ggL_law_L_step : GoodIn wsL_law wsL_step := fun w h => (List.mem_cons.mp h).elim (fun z => ggL_law_L_step_h w (List.mem_cons.mpr (Or.inl z))) ((goodIn_app (goodIn_app (goodIn_app (goodIn_app (goodIn_app (goodIn_app (goodIn_app (goodIn_app (goodIn_app (goodIn_app ggL_law_L_step_r1 (goodIn_app ggL_law_L_step_r2 (goodIn_app ggL_law_L_step_r3 (goodIn_app ggL_law_L_step_r4 (goodIn_app ggL_law_L_step_r5 (goodIn_app ggL_law_L_step_r6 (goodIn_app ggL_law_L_step_r7 (goodIn_app ggL_law_L_step_r8 (goodIn_app ggL_law_L_step_r9 (goodIn_app ggL_law_L_step_r10 (goodIn_app ggL_law_L_step_r11 (goodIn_app ggL_law_L_step_r12 (goodIn_app ggL_law_L_step_r13 (goodIn_app ggL_law_L_step_r14 ggL_law_L_step_r15)))))))))))))) (goodIn_sub inlX5 (by decide +kernel))) (goodIn_sub inlX3 (by decide +kernel))) (goodIn_sub inlX4 (by decide +kernel))) (goodIn_sub inlX2 (by decide +kernel))) (goodIn_sub inlX0 (by decide +kernel))) (goodIn_sub inlX1 (by decide +kernel))) (goodIn_sub (fun _ h => List.mem_append_left _ (List.mem_append_left _ (List.mem_append_right _ h))) (by decide +kernel))) (goodIn_sub (fun _ h => List.mem_append_left _ (List.mem_append_right _ h)) (by decide +kernel))) (goodIn_sub (fun _ h => List.mem_append_right _ h) (by decide +kernel))) w)
set_option maxRecDepth 20000 in
theorem gL_law_L_step : GoodIn wsL_law (va_wsS RL 118 yL_step wsL_step) := goodIn_app (goodIn_of _ (by decide +kernel)) ggL_law_L_step
set_option maxRecDepth 20000 in
theorem ggL_law_L_areFiles : GoodIn wsL_law wsL_areFiles := goodIn_ca (goodIn_r _ [406, 407, 116, 117, 118, 2, 119, 114, 115, 120, 121, 122, 123, 15, 124, 125, 126, 33, 127, 81, 128, 129, 130, 131, 75, 132, 133, 134, 135, 74, 396, 397, 398, 399, 161, 162, 163, 400, 401, 402, 403, 73, 194, 195, 196, 197, 189, 136, 137, 138, 139, 140, 388, 389, 390, 391, 23, 380, 381, 382, 22, 383, 48, 392, 393, 394, 395, 47, 419, 420, 421, 422, 423, 424, 425, 426, 427, 451, 452, 453, 454, 455, 456, 457, 458, 459, 460, 434, 435, 436] (by decide +kernel) (by decide +kernel)) (goodIn_sub (fun _ h => List.mem_append_left _ (List.mem_append_left _ (List.mem_append_right _ h))) (by decide +kernel))
set_option maxRecDepth 20000 in
theorem gL_law_L_areFiles : GoodIn wsL_law (va_wsS RL 122 yL_areFiles wsL_areFiles) := goodIn_app (goodIn_of _ (by decide +kernel)) ggL_law_L_areFiles
set_option maxRecDepth 20000 in
theorem ggL_law_L_isLedger : GoodIn wsL_law wsL_isLedger := goodIn_ca (goodIn_r _ [410, 3, 87, 88, 89, 2, 90, 23, 91, 376, 377, 378, 379, 114, 115, 380, 381, 382, 22, 383, 48, 384, 385, 386, 387, 46, 388, 389, 390, 391, 392, 393, 394, 395, 47, 411, 412, 413, 414, 161, 162, 163, 415, 416, 417, 418, 342, 343, 344, 345, 346, 110, 111, 112, 113, 11, 273, 274, 275, 276, 230, 105, 106, 107, 108, 109, 92, 93, 94, 95, 19, 96, 97, 98, 18, 99, 38, 39, 287, 288, 289, 290, 291, 292, 293, 294, 40, 308, 309, 310, 311, 312, 100, 101, 102, 103, 104, 419, 420, 421, 422, 423, 424, 425, 426, 427, 434, 435, 436, 437, 438, 439, 440, 441, 442, 443, 444, 445, 428, 429, 430, 431, 432, 433] (by decide +kernel) (by decide +kernel)) (goodIn_sub (fun _ h => List.mem_append_left _ (List.mem_append_left _ (List.mem_append_right _ h))) (by decide +kernel))
set_option maxRecDepth 20000 in
theorem gL_law_L_isLedger : GoodIn wsL_law (va_wsS RL 126 yL_isLedger wsL_isLedger) := goodIn_app (goodIn_of _ (by decide +kernel)) ggL_law_L_isLedger
theorem dL_law_0 : decode cL_law 0 = .ok (.new 11, 3) := by decide +kernel
theorem dL_law_3 : decode cL_law 3 = .ok (.dup, 1) := by decide +kernel
theorem dL_law_4 : decode cL_law 4 = .ok (.invokespecial 113, 3) := by decide +kernel
theorem dL_law_7 : decode cL_law 7 = .ok (.astore_n 1, 1) := by decide +kernel
theorem dL_law_8 : decode cL_law 8 = .ok (.bipush 60, 2) := by decide +kernel
theorem dL_law_10 : decode cL_law 10 = .ok (.newarray .int, 2) := by decide +kernel
theorem dL_law_12 : decode cL_law 12 = .ok (.astore_n 2, 1) := by decide +kernel
theorem dL_law_13 : decode cL_law 13 = .ok (.bipush 14, 2) := by decide +kernel
theorem dL_law_15 : decode cL_law 15 = .ok (.newarray .int, 2) := by decide +kernel
theorem dL_law_17 : decode cL_law 17 = .ok (.astore_n 3, 1) := by decide +kernel
theorem dL_law_18 : decode cL_law 18 = .ok (.aload_n 3, 1) := by decide +kernel
theorem dL_law_19 : decode cL_law 19 = .ok (.iconst 2, 1) := by decide +kernel
theorem dL_law_20 : decode cL_law 20 = .ok (.iconst 5, 1) := by decide +kernel
theorem dL_law_21 : decode cL_law 21 = .ok (.iastore, 1) := by decide +kernel
theorem dL_law_22 : decode cL_law 22 = .ok (.aload_n 3, 1) := by decide +kernel
theorem dL_law_23 : decode cL_law 23 = .ok (.iconst 3, 1) := by decide +kernel
theorem dL_law_24 : decode cL_law 24 = .ok (.bipush 10, 2) := by decide +kernel
theorem dL_law_26 : decode cL_law 26 = .ok (.iastore, 1) := by decide +kernel
theorem dL_law_27 : decode cL_law 27 = .ok (.aload_n 3, 1) := by decide +kernel
theorem dL_law_28 : decode cL_law 28 = .ok (.iconst 4, 1) := by decide +kernel
theorem dL_law_29 : decode cL_law 29 = .ok (.bipush 30, 2) := by decide +kernel
theorem dL_law_31 : decode cL_law 31 = .ok (.iastore, 1) := by decide +kernel
theorem dL_law_32 : decode cL_law 32 = .ok (.iconst 0, 1) := by decide +kernel
theorem dL_law_33 : decode cL_law 33 = .ok (.istore 4, 2) := by decide +kernel
theorem dL_law_35 : decode cL_law 35 = .ok (.iload 4, 2) := by decide +kernel
theorem dL_law_37 : decode cL_law 37 = .ok (.iconst 4, 1) := by decide +kernel
theorem dL_law_38 : decode cL_law 38 = .ok (.if_icmp .ge 27, 3) := by decide +kernel
theorem dL_law_41 : decode cL_law 41 = .ok (.aload_n 3, 1) := by decide +kernel
theorem dL_law_42 : decode cL_law 42 = .ok (.bipush 6, 2) := by decide +kernel
theorem dL_law_44 : decode cL_law 44 = .ok (.iload 4, 2) := by decide +kernel
theorem dL_law_46 : decode cL_law 46 = .ok (.iadd, 1) := by decide +kernel
theorem dL_law_47 : decode cL_law 47 = .ok (.iconst 2, 1) := by decide +kernel
theorem dL_law_48 : decode cL_law 48 = .ok (.iastore, 1) := by decide +kernel
theorem dL_law_49 : decode cL_law 49 = .ok (.aload_n 3, 1) := by decide +kernel
theorem dL_law_50 : decode cL_law 50 = .ok (.bipush 10, 2) := by decide +kernel
theorem dL_law_52 : decode cL_law 52 = .ok (.iload 4, 2) := by decide +kernel
theorem dL_law_54 : decode cL_law 54 = .ok (.iadd, 1) := by decide +kernel
theorem dL_law_55 : decode cL_law 55 = .ok (.sipush 1000, 3) := by decide +kernel
theorem dL_law_58 : decode cL_law 58 = .ok (.iastore, 1) := by decide +kernel
theorem dL_law_59 : decode cL_law 59 = .ok (.iinc 4 1, 3) := by decide +kernel
theorem dL_law_62 : decode cL_law 62 = .ok (.goto (-27), 3) := by decide +kernel
theorem dL_law_65 : decode cL_law 65 = .ok (.aload_n 1, 1) := by decide +kernel
theorem dL_law_66 : decode cL_law 66 = .ok (.invokevirtual 56, 3) := by decide +kernel
theorem dL_law_69 : decode cL_law 69 = .ok (.ifCond .ne 54, 3) := by decide +kernel
theorem dL_law_72 : decode cL_law 72 = .ok (.aload_n 1, 1) := by decide +kernel
theorem dL_law_73 : decode cL_law 73 = .ok (.invokevirtual 93, 3) := by decide +kernel
theorem dL_law_76 : decode cL_law 76 = .ok (.ifCond .ne 47, 3) := by decide +kernel
theorem dL_law_79 : decode cL_law 79 = .ok (.aload_n 1, 1) := by decide +kernel
theorem dL_law_80 : decode cL_law 80 = .ok (.invokevirtual 66, 3) := by decide +kernel
theorem dL_law_83 : decode cL_law 83 = .ok (.ifCond .ne 40, 3) := by decide +kernel
theorem dL_law_86 : decode cL_law 86 = .ok (.aload_n 1, 1) := by decide +kernel
theorem dL_law_87 : decode cL_law 87 = .ok (.invokevirtual 110, 3) := by decide +kernel
theorem dL_law_90 : decode cL_law 90 = .ok (.ifCond .ne 33, 3) := by decide +kernel
theorem dL_law_93 : decode cL_law 93 = .ok (.aload_n 1, 1) := by decide +kernel
theorem dL_law_94 : decode cL_law 94 = .ok (.iconst 5, 1) := by decide +kernel
theorem dL_law_95 : decode cL_law 95 = .ok (.invokevirtual 63, 3) := by decide +kernel
theorem dL_law_98 : decode cL_law 98 = .ok (.iconst 5, 1) := by decide +kernel
theorem dL_law_99 : decode cL_law 99 = .ok (.if_icmp .ne 24, 3) := by decide +kernel
theorem dL_law_102 : decode cL_law 102 = .ok (.aload_n 1, 1) := by decide +kernel
theorem dL_law_103 : decode cL_law 103 = .ok (.iconst 3, 1) := by decide +kernel
theorem dL_law_104 : decode cL_law 104 = .ok (.iconst (-1), 1) := by decide +kernel
theorem dL_law_105 : decode cL_law 105 = .ok (.invokevirtual 40, 3) := by decide +kernel
theorem dL_law_108 : decode cL_law 108 = .ok (.ifCond .ne 15, 3) := by decide +kernel
theorem dL_law_111 : decode cL_law 111 = .ok (.aload_n 1, 1) := by decide +kernel
theorem dL_law_112 : decode cL_law 112 = .ok (.iconst 0, 1) := by decide +kernel
theorem dL_law_113 : decode cL_law 113 = .ok (.invokevirtual 31, 3) := by decide +kernel
theorem dL_law_116 : decode cL_law 116 = .ok (.ifCond .ne 7, 3) := by decide +kernel
theorem dL_law_119 : decode cL_law 119 = .ok (.iconst 1, 1) := by decide +kernel
theorem dL_law_120 : decode cL_law 120 = .ok (.goto 4, 3) := by decide +kernel
theorem dL_law_123 : decode cL_law 123 = .ok (.iconst 0, 1) := by decide +kernel
theorem dL_law_124 : decode cL_law 124 = .ok (.istore 4, 2) := by decide +kernel
theorem dL_law_126 : decode cL_law 126 = .ok (.aload_n 0, 1) := by decide +kernel
theorem dL_law_127 : decode cL_law 127 = .ok (.arraylength, 1) := by decide +kernel
theorem dL_law_128 : decode cL_law 128 = .ok (.iconst 3, 1) := by decide +kernel
theorem dL_law_129 : decode cL_law 129 = .ok (.idiv, 1) := by decide +kernel
theorem dL_law_130 : decode cL_law 130 = .ok (.bipush 100, 2) := by decide +kernel
theorem dL_law_132 : decode cL_law 132 = .ok (.if_icmp .le 8, 3) := by decide +kernel
theorem dL_law_135 : decode cL_law 135 = .ok (.bipush 100, 2) := by decide +kernel
theorem dL_law_137 : decode cL_law 137 = .ok (.goto 7, 3) := by decide +kernel
theorem dL_law_140 : decode cL_law 140 = .ok (.aload_n 0, 1) := by decide +kernel
theorem dL_law_141 : decode cL_law 141 = .ok (.arraylength, 1) := by decide +kernel
theorem dL_law_142 : decode cL_law 142 = .ok (.iconst 3, 1) := by decide +kernel
theorem dL_law_143 : decode cL_law 143 = .ok (.idiv, 1) := by decide +kernel
theorem dL_law_144 : decode cL_law 144 = .ok (.istore 5, 2) := by decide +kernel
theorem dL_law_146 : decode cL_law 146 = .ok (.iconst 0, 1) := by decide +kernel
theorem dL_law_147 : decode cL_law 147 = .ok (.istore 6, 2) := by decide +kernel
theorem dL_law_149 : decode cL_law 149 = .ok (.iload 6, 2) := by decide +kernel
theorem dL_law_151 : decode cL_law 151 = .ok (.iload 5, 2) := by decide +kernel
theorem dL_law_153 : decode cL_law 153 = .ok (.if_icmp .ge 83, 3) := by decide +kernel
theorem dL_law_156 : decode cL_law 156 = .ok (.iload 4, 2) := by decide +kernel
theorem dL_law_158 : decode cL_law 158 = .ok (.ifCond .eq 78, 3) := by decide +kernel
theorem dL_law_161 : decode cL_law 161 = .ok (.aload_n 1, 1) := by decide +kernel
theorem dL_law_162 : decode cL_law 162 = .ok (.aload_n 2, 1) := by decide +kernel
theorem dL_law_163 : decode cL_law 163 = .ok (.aload_n 3, 1) := by decide +kernel
theorem dL_law_164 : decode cL_law 164 = .ok (.aload_n 0, 1) := by decide +kernel
theorem dL_law_165 : decode cL_law 165 = .ok (.iconst 3, 1) := by decide +kernel
theorem dL_law_166 : decode cL_law 166 = .ok (.iload 6, 2) := by decide +kernel
theorem dL_law_168 : decode cL_law 168 = .ok (.imul, 1) := by decide +kernel
theorem dL_law_169 : decode cL_law 169 = .ok (.invokestatic 114, 3) := by decide +kernel
theorem dL_law_172 : decode cL_law 172 = .ok (.aload_n 0, 1) := by decide +kernel
theorem dL_law_173 : decode cL_law 173 = .ok (.iconst 3, 1) := by decide +kernel
theorem dL_law_174 : decode cL_law 174 = .ok (.iload 6, 2) := by decide +kernel
theorem dL_law_176 : decode cL_law 176 = .ok (.imul, 1) := by decide +kernel
theorem dL_law_177 : decode cL_law 177 = .ok (.iconst 1, 1) := by decide +kernel
theorem dL_law_178 : decode cL_law 178 = .ok (.iadd, 1) := by decide +kernel
theorem dL_law_179 : decode cL_law 179 = .ok (.invokestatic 114, 3) := by decide +kernel
theorem dL_law_182 : decode cL_law 182 = .ok (.aload_n 0, 1) := by decide +kernel
theorem dL_law_183 : decode cL_law 183 = .ok (.iconst 3, 1) := by decide +kernel
theorem dL_law_184 : decode cL_law 184 = .ok (.iload 6, 2) := by decide +kernel
theorem dL_law_186 : decode cL_law 186 = .ok (.imul, 1) := by decide +kernel
theorem dL_law_187 : decode cL_law 187 = .ok (.iconst 2, 1) := by decide +kernel
theorem dL_law_188 : decode cL_law 188 = .ok (.iadd, 1) := by decide +kernel
theorem dL_law_189 : decode cL_law 189 = .ok (.invokestatic 114, 3) := by decide +kernel
theorem dL_law_192 : decode cL_law 192 = .ok (.invokestatic 118, 3) := by decide +kernel
theorem dL_law_195 : decode cL_law 195 = .ok (.ifCond .eq 32, 3) := by decide +kernel
theorem dL_law_198 : decode cL_law 198 = .ok (.iload 6, 2) := by decide +kernel
theorem dL_law_200 : decode cL_law 200 = .ok (.iconst 5, 1) := by decide +kernel
theorem dL_law_201 : decode cL_law 201 = .ok (.irem, 1) := by decide +kernel
theorem dL_law_202 : decode cL_law 202 = .ok (.iconst 4, 1) := by decide +kernel
theorem dL_law_203 : decode cL_law 203 = .ok (.if_icmp .lt 20, 3) := by decide +kernel
theorem dL_law_206 : decode cL_law 206 = .ok (.aload_n 1, 1) := by decide +kernel
theorem dL_law_207 : decode cL_law 207 = .ok (.aload_n 2, 1) := by decide +kernel
theorem dL_law_208 : decode cL_law 208 = .ok (.aload_n 3, 1) := by decide +kernel
theorem dL_law_209 : decode cL_law 209 = .ok (.invokestatic 122, 3) := by decide +kernel
theorem dL_law_212 : decode cL_law 212 = .ok (.ifCond .eq 15, 3) := by decide +kernel
theorem dL_law_215 : decode cL_law 215 = .ok (.aload_n 1, 1) := by decide +kernel
theorem dL_law_216 : decode cL_law 216 = .ok (.aload_n 3, 1) := by decide +kernel
theorem dL_law_217 : decode cL_law 217 = .ok (.invokestatic 126, 3) := by decide +kernel
theorem dL_law_220 : decode cL_law 220 = .ok (.ifCond .eq 7, 3) := by decide +kernel
theorem dL_law_223 : decode cL_law 223 = .ok (.iconst 1, 1) := by decide +kernel
theorem dL_law_224 : decode cL_law 224 = .ok (.goto 4, 3) := by decide +kernel
theorem dL_law_227 : decode cL_law 227 = .ok (.iconst 0, 1) := by decide +kernel
theorem dL_law_228 : decode cL_law 228 = .ok (.istore 4, 2) := by decide +kernel
theorem dL_law_230 : decode cL_law 230 = .ok (.iinc 6 1, 3) := by decide +kernel
theorem dL_law_233 : decode cL_law 233 = .ok (.goto (-84), 3) := by decide +kernel
theorem dL_law_236 : decode cL_law 236 = .ok (.iload 4, 2) := by decide +kernel
theorem dL_law_238 : decode cL_law 238 = .ok (.ireturn, 1) := by decide +kernel
