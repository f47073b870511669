theorem dL_draw_0 : decode cL_draw 0 = .ok (.iload_n 1, 1) := by decide +kernel
theorem dL_draw_1 : decode cL_draw 1 = .ok (.aload_n 0, 1) := by decide +kernel
theorem dL_draw_2 : decode cL_draw 2 = .ok (.arraylength, 1) := by decide +kernel
theorem dL_draw_3 : decode cL_draw 3 = .ok (.if_icmp .ge 12, 3) := by decide +kernel
theorem dL_draw_6 : decode cL_draw 6 = .ok (.aload_n 0, 1) := by decide +kernel
theorem dL_draw_7 : decode cL_draw 7 = .ok (.iload_n 1, 1) := by decide +kernel
theorem dL_draw_8 : decode cL_draw 8 = .ok (.iaload, 1) := by decide +kernel
theorem dL_draw_9 : decode cL_draw 9 = .ok (.ldc 7, 2) := by decide +kernel
theorem dL_draw_11 : decode cL_draw 11 = .ok (.iand, 1) := by decide +kernel
theorem dL_draw_12 : decode cL_draw 12 = .ok (.goto 12, 3) := by decide +kernel
theorem dL_draw_15 : decode cL_draw 15 = .ok (.ldc 8, 2) := by decide +kernel
theorem dL_draw_17 : decode cL_draw 17 = .ok (.iload_n 1, 1) := by decide +kernel
theorem dL_draw_18 : decode cL_draw 18 = .ok (.iconst 2, 1) := by decide +kernel
theorem dL_draw_19 : decode cL_draw 19 = .ok (.iadd, 1) := by decide +kernel
theorem dL_draw_20 : decode cL_draw 20 = .ok (.imul, 1) := by decide +kernel
theorem dL_draw_21 : decode cL_draw 21 = .ok (.ldc 9, 2) := by decide +kernel
theorem dL_draw_23 : decode cL_draw 23 = .ok (.irem, 1) := by decide +kernel
theorem dL_draw_24 : decode cL_draw 24 = .ok (.ireturn, 1) := by decide +kernel
set_option maxRecDepth 20000 in
theorem ggL_step_X5_setRule : GoodIn wsL_step wsX5_setRule := goodIn_ca (goodIn_ca (goodIn_r _ [5, 6, 7, 8, 9, 10, 11, 12, 4, 13, 14, 15, 16, 17, 18, 19, 20, 21, 22, 23, 24, 25, 26, 27, 28, 29, 30, 31, 32, 354, 355, 356, 357, 358, 359, 360, 361, 362, 363, 364, 365, 366, 367] (by decide +kernel) (by decide +kernel)) (goodIn_sub (fun _ h => List.mem_cons_of_mem _ (List.mem_append_left _ (List.mem_append_left _ (List.mem_append_right _ h)))) (by decide +kernel))) (goodIn_sub (fun _ h => List.mem_cons_of_mem _ (List.mem_append_left _ (List.mem_append_right _ h))) (by decide +kernel))
set_option maxRecDepth 20000 in
theorem gL_step_X5_setRule : GoodIn wsL_step (wsV RL 10 RX5 yX5_setRule wsX5_setRule) := goodIn_app (goodIn_of _ (by decide +kernel)) ggL_step_X5_setRule
set_option maxRecDepth 20000 in
theorem ggL_step_X5_setRate : GoodIn wsL_step wsX5_setRate := goodIn_ca (goodIn_r _ [36, 8, 9, 37, 38, 39, 15, 16, 4, 17, 40, 41, 42, 43, 44, 45, 354, 355, 356, 357, 358, 359, 360, 361, 362, 368, 369, 370, 371, 372, 373, 374, 375, 376] (by decide +kernel) (by decide +kernel)) (goodIn_sub (fun _ h => List.mem_cons_of_mem _ (List.mem_append_left _ (List.mem_append_right _ h))) (by decide +kernel))
set_option maxRecDepth 20000 in
theorem gL_step_X5_setRate : GoodIn wsL_step (wsV RL 16 RX5 yX5_setRate wsX5_setRate) := goodIn_app (goodIn_of _ (by decide +kernel)) ggL_step_X5_setRate
set_option maxRecDepth 20000 in
theorem ggL_step_X5_setFold : GoodIn wsL_step wsX5_setFold := goodIn_ca (goodIn_r _ [49, 8, 9, 50, 15, 16, 4, 17, 354, 355, 356, 357, 358, 359, 360, 361, 362] (by decide +kernel) (by decide +kernel)) (goodIn_sub (fun _ h => List.mem_cons_of_mem _ (List.mem_append_left _ (List.mem_append_right _ h))) (by decide +kernel))
set_option maxRecDepth 20000 in
theorem gL_step_X5_setFold : GoodIn wsL_step (wsV RL 20 RX5 yX5_setFold wsX5_setFold) := goodIn_app (goodIn_of _ (by decide +kernel)) ggL_step_X5_setFold
set_option maxRecDepth 20000 in
theorem ggL_step_X5_setFile : GoodIn wsL_step wsX5_setFile := goodIn_ca (goodIn_ca (goodIn_r _ [54, 8, 9, 55, 56, 57, 58, 4, 59, 6, 7, 60, 15, 16, 17, 61, 62, 63, 64, 65, 66, 67, 68, 69, 377, 378, 379, 380, 381, 382, 383, 384, 385, 386, 354, 355, 356, 357, 358, 359, 360, 361, 362] (by decide +kernel) (by decide +kernel)) (goodIn_sub (fun _ h => List.mem_cons_of_mem _ (List.mem_append_left _ (List.mem_append_right _ h))) (by decide +kernel))) (goodIn_sub (fun _ h => List.mem_cons_of_mem _ (List.mem_append_left _ (List.mem_append_left _ (List.mem_append_right _ h)))) (by decide +kernel))
set_option maxRecDepth 20000 in
theorem gL_step_X5_setFile : GoodIn wsL_step (wsV RL 24 RX5 yX5_setFile wsX5_setFile) := goodIn_app (goodIn_of _ (by decide +kernel)) ggL_step_X5_setFile
set_option maxRecDepth 20000 in
theorem ggL_step_X5_size : GoodIn wsL_step wsX5_size := goodIn_ca (goodIn_r _ [73, 55, 56, 57, 58, 4, 59, 6, 7, 60, 377, 378, 379, 380, 381, 382, 383, 384, 385, 386, 354, 355, 356, 357, 358, 359, 360, 361, 362] (by decide +kernel) (by decide +kernel)) (goodIn_sub (fun _ h => List.mem_cons_of_mem _ (List.mem_append_left _ (List.mem_append_left _ (List.mem_append_right _ h)))) (by decide +kernel))
set_option maxRecDepth 20000 in
theorem gL_step_X5_size : GoodIn wsL_step (wsV RL 28 RX5 yX5_size wsX5_size) := goodIn_app (goodIn_of _ (by decide +kernel)) ggL_step_X5_size
set_option maxRecDepth 20000 in
theorem ggL_step_X5_generations : GoodIn wsL_step wsX5_generations := goodIn_ca (goodIn_r _ [77, 78, 56, 57, 58, 4, 59, 6, 7, 60, 377, 378, 379, 380, 381, 382, 383, 384, 385, 386, 354, 355, 356, 357, 358, 359, 360, 361, 362] (by decide +kernel) (by decide +kernel)) (goodIn_sub (fun _ h => List.mem_cons_of_mem _ (List.mem_append_left _ (List.mem_append_left _ (List.mem_append_right _ h)))) (by decide +kernel))
set_option maxRecDepth 20000 in
theorem gL_step_X5_generations : GoodIn wsL_step (wsV RL 31 RX5 yX5_generations wsX5_generations) := goodIn_app (goodIn_of _ (by decide +kernel)) ggL_step_X5_generations
set_option maxRecDepth 20000 in
theorem ggL_step_L_passes : GoodIn wsL_step wsL_passes := goodIn_ca (goodIn_ca (goodIn_r _ [82, 83, 84, 85, 4, 86, 8, 9, 15, 16, 17, 87, 88, 89, 90, 60, 91, 92, 93, 94, 95, 96, 38, 97, 98, 99, 100, 39, 37, 101, 102, 103, 43, 104, 45, 105, 106, 107, 108, 109, 110, 111, 112, 113, 114, 50, 115, 116, 117, 118, 119, 120, 121, 122, 123, 124, 125, 14, 126, 127, 128, 129, 130, 21, 131, 23, 24, 25, 26, 132, 133, 134, 64, 135, 136, 66, 137, 138, 139, 140, 141, 142, 143, 144, 145, 146, 147, 148, 149, 69, 68, 150, 151, 152, 153, 154, 155, 156, 157, 158, 159, 160, 161, 162, 163, 164, 165, 166, 67, 167, 168, 169, 170, 171, 172, 173, 174, 175, 176, 177, 178, 179, 6, 7, 180, 181, 182, 183, 184, 354, 355, 356, 357, 358, 359, 360, 361, 362, 377, 378, 379, 380, 381, 382, 383, 384, 385, 386, 368, 369, 370, 371, 372, 373, 374, 375, 376, 363, 364, 365, 366, 367, 387, 388, 389, 390, 391, 392] (by decide +kernel) (by decide +kernel)) (goodIn_sub (fun _ h => List.mem_cons_of_mem _ (List.mem_append_left _ (List.mem_append_right _ h))) (by decide +kernel))) (goodIn_sub (fun _ h => List.mem_cons_of_mem _ (List.mem_append_left _ (List.mem_append_left _ (List.mem_append_right _ h)))) (by decide +kernel))
set_option maxRecDepth 20000 in
theorem gL_step_L_passes : GoodIn wsL_step (va_wsS RL 34 yL_passes wsL_passes) := goodIn_app (goodIn_of _ (by decide +kernel)) ggL_step_L_passes
set_option maxRecDepth 20000 in
theorem ggL_step_X5_lines : GoodIn wsL_step wsX5_lines := goodIn_ca (goodIn_r _ [188, 6, 7, 56, 57, 58, 4, 59, 60, 189, 190, 191, 64, 192, 69, 193, 194, 195, 196, 138, 197, 198, 199, 200, 144, 354, 355, 356, 357, 358, 359, 360, 361, 362, 377, 378, 379, 380, 381, 382, 383, 384, 385, 386] (by decide +kernel) (by decide +kernel)) (goodIn_sub (fun _ h => List.mem_cons_of_mem _ (List.mem_append_left _ (List.mem_append_left _ (List.mem_append_right _ h)))) (by decide +kernel))
set_option maxRecDepth 20000 in
theorem gL_step_X5_lines : GoodIn wsL_step (wsV RL 40 RX5 yX5_lines wsX5_lines) := goodIn_app (goodIn_of _ (by decide +kernel)) ggL_step_X5_lines
set_option maxRecDepth 20000 in
theorem ggL_step_X5_rotate : GoodIn wsL_step wsX5_rotate := goodIn_ca (goodIn_ca (goodIn_r _ [204, 205, 206, 78, 56, 57, 58, 4, 59, 6, 7, 60, 207, 141, 142, 64, 143, 138, 144, 167, 146, 147, 148, 136, 149, 69, 68, 377, 378, 379, 380, 381, 382, 383, 384, 385, 386, 354, 355, 356, 357, 358, 359, 360, 361, 362] (by decide +kernel) (by decide +kernel)) (goodIn_sub (fun _ h => List.mem_cons_of_mem _ (List.mem_append_right _ h)) (by decide +kernel))) (goodIn_sub (fun _ h => List.mem_cons_of_mem _ (List.mem_append_left _ (List.mem_append_left _ (List.mem_append_right _ h)))) (by decide +kernel))
set_option maxRecDepth 20000 in
theorem gL_step_X5_rotate : GoodIn wsL_step (wsV RL 43 RX5 yX5_rotate wsX5_rotate) := goodIn_app (goodIn_of _ (by decide +kernel)) ggL_step_X5_rotate
set_option maxRecDepth 20000 in
theorem ggL_step_L_forwards : GoodIn wsL_step wsL_forwards := goodIn_ca (goodIn_r _ [210, 211, 212, 213, 4, 214, 127, 215, 216, 217, 153, 218, 155, 219, 220, 221, 222, 223, 224, 225, 226, 227, 156, 228, 229, 230, 231, 205, 206, 232, 233, 234, 235, 236, 237, 238, 239, 240, 241, 242, 243, 244, 245, 246, 247, 248, 249, 250, 251, 252, 253, 254, 255, 256, 257, 258, 157, 259, 260, 261, 262, 263, 264, 265, 266, 267, 268, 269, 270, 271, 272, 354, 355, 356, 357, 358, 359, 360, 361, 362, 387, 388, 389, 390, 391, 392] (by decide +kernel) (by decide +kernel)) (goodIn_sub (fun _ h => List.mem_cons_of_mem _ (List.mem_append_right _ h)) (by decide +kernel))
set_option maxRecDepth 20000 in
theorem gL_step_L_forwards : GoodIn wsL_step (va_wsS RL 46 yL_forwards wsL_forwards) := goodIn_app (goodIn_of _ (by decide +kernel)) ggL_step_L_forwards
set_option maxRecDepth 20000 in
theorem ggL_step_L_comes : GoodIn wsL_step wsL_comes := goodIn_ca (goodIn_ca (goodIn_ca (goodIn_r _ [275, 180, 181, 182, 4, 183, 184, 176, 177, 178, 179, 6, 7, 39, 172, 173, 174, 175, 113, 276, 277, 278, 279, 280, 281, 282, 283, 284, 8, 9, 205, 206, 285, 50, 96, 286, 15, 16, 17, 287, 288, 289, 290, 291, 292, 293, 294, 295, 43, 296, 297, 298, 299, 300, 301, 302, 303, 304, 305, 306, 307, 308, 309, 310, 311, 312, 115, 116, 117, 118, 119, 120, 121, 122, 123, 124, 125, 14, 126, 60, 127, 128, 129, 130, 21, 131, 23, 24, 25, 26, 132, 133, 134, 64, 135, 136, 66, 137, 138, 139, 140, 141, 142, 143, 144, 145, 146, 147, 148, 149, 69, 68, 150, 151, 152, 153, 154, 155, 156, 157, 158, 313, 314, 315, 316, 317, 318, 319, 320, 321, 322, 323, 324, 325, 326, 327, 328, 329, 330, 331, 332, 333, 334, 335, 336, 337, 338, 339, 340, 341, 342, 343, 344, 345, 185, 186, 187, 188, 56, 57, 58, 59, 189, 190, 191, 192, 193, 194, 195, 196, 197, 198, 199, 200, 346, 347, 348, 349, 350, 351, 352, 353, 368, 369, 370, 371, 372, 373, 374, 375, 376, 354, 355, 356, 357, 358, 359, 360, 361, 362, 393, 394, 395, 363, 364, 365, 366, 367, 377, 378, 379, 380, 381, 382, 383, 384, 385, 386, 387, 388, 389, 390, 391, 392] (by decide +kernel) (by decide +kernel)) (goodIn_sub (fun _ h => List.mem_cons_of_mem _ (List.mem_append_left _ (List.mem_append_left _ (List.mem_append_right _ h)))) (by decide +kernel))) (goodIn_sub (fun _ h => List.mem_cons_of_mem _ (List.mem_append_left _ (List.mem_append_right _ h))) (by decide +kernel))) (goodIn_sub (fun _ h => List.mem_cons_of_mem _ (List.mem_append_right _ h)) (by decide +kernel))
set_option maxRecDepth 20000 in
theorem gL_step_L_comes : GoodIn wsL_step (va_wsS RL 49 yL_comes wsL_comes) := goodIn_app (goodIn_of _ (by decide +kernel)) ggL_step_L_comes
theorem dL_step_0 : decode cL_step 0 = .ok (.iload_n 3, 1) := by decide +kernel
theorem dL_step_1 : decode cL_step 1 = .ok (.bipush 12, 2) := by decide +kernel
theorem dL_step_3 : decode cL_step 3 = .ok (.irem, 1) := by decide +kernel
theorem dL_step_4 : decode cL_step 4 = .ok (.tableswitch 444 0 6 #[44, 94, 164, 206, 329, 354, 436], 44) := by decide +kernel
theorem dL_step_48 : decode cL_step 48 = .ok (.aload_n 0, 1) := by decide +kernel
theorem dL_step_49 : decode cL_step 49 = .ok (.iload 4, 2) := by decide +kernel
theorem dL_step_51 : decode cL_step 51 = .ok (.bipush 6, 2) := by decide +kernel
theorem dL_step_53 : decode cL_step 53 = .ok (.irem, 1) := by decide +kernel
theorem dL_step_54 : decode cL_step 54 = .ok (.iload 4, 2) := by decide +kernel
theorem dL_step_56 : decode cL_step 56 = .ok (.bipush 6, 2) := by decide +kernel
theorem dL_step_58 : decode cL_step 58 = .ok (.idiv, 1) := by decide +kernel
theorem dL_step_59 : decode cL_step 59 = .ok (.sipush 256, 3) := by decide +kernel
theorem dL_step_62 : decode cL_step 62 = .ok (.irem, 1) := by decide +kernel
theorem dL_step_63 : decode cL_step 63 = .ok (.iload 5, 2) := by decide +kernel
theorem dL_step_65 : decode cL_step 65 = .ok (.bipush 8, 2) := by decide +kernel
theorem dL_step_67 : decode cL_step 67 = .ok (.irem, 1) := by decide +kernel
theorem dL_step_68 : decode cL_step 68 = .ok (.iload 5, 2) := by decide +kernel
theorem dL_step_70 : decode cL_step 70 = .ok (.bipush 8, 2) := by decide +kernel
theorem dL_step_72 : decode cL_step 72 = .ok (.idiv, 1) := by decide +kernel
theorem dL_step_73 : decode cL_step 73 = .ok (.bipush 7, 2) := by decide +kernel
theorem dL_step_75 : decode cL_step 75 = .ok (.irem, 1) := by decide +kernel
theorem dL_step_76 : decode cL_step 76 = .ok (.iconst 1, 1) := by decide +kernel
theorem dL_step_77 : decode cL_step 77 = .ok (.isub, 1) := by decide +kernel
theorem dL_step_78 : decode cL_step 78 = .ok (.iload 5, 2) := by decide +kernel
theorem dL_step_80 : decode cL_step 80 = .ok (.bipush 56, 2) := by decide +kernel
theorem dL_step_82 : decode cL_step 82 = .ok (.idiv, 1) := by decide +kernel
theorem dL_step_83 : decode cL_step 83 = .ok (.iconst 5, 1) := by decide +kernel
theorem dL_step_84 : decode cL_step 84 = .ok (.irem, 1) := by decide +kernel
theorem dL_step_85 : decode cL_step 85 = .ok (.invokevirtual 10, 3) := by decide +kernel
theorem dL_step_88 : decode cL_step 88 = .ok (.iconst 1, 1) := by decide +kernel
theorem dL_step_89 : decode cL_step 89 = .ok (.if_icmp .lt 7, 3) := by decide +kernel
theorem dL_step_92 : decode cL_step 92 = .ok (.iconst 1, 1) := by decide +kernel
theorem dL_step_93 : decode cL_step 93 = .ok (.goto 4, 3) := by decide +kernel
theorem dL_step_96 : decode cL_step 96 = .ok (.iconst 0, 1) := by decide +kernel
theorem dL_step_97 : decode cL_step 97 = .ok (.ireturn, 1) := by decide +kernel
theorem dL_step_98 : decode cL_step 98 = .ok (.aload_n 2, 1) := by decide +kernel
theorem dL_step_99 : decode cL_step 99 = .ok (.iconst 2, 1) := by decide +kernel
theorem dL_step_100 : decode cL_step 100 = .ok (.iaload, 1) := by decide +kernel
theorem dL_step_101 : decode cL_step 101 = .ok (.istore 6, 2) := by decide +kernel
theorem dL_step_103 : decode cL_step 103 = .ok (.aload_n 2, 1) := by decide +kernel
theorem dL_step_104 : decode cL_step 104 = .ok (.iconst 2, 1) := by decide +kernel
theorem dL_step_105 : decode cL_step 105 = .ok (.iconst 1, 1) := by decide +kernel
theorem dL_step_106 : decode cL_step 106 = .ok (.iload 4, 2) := by decide +kernel
theorem dL_step_108 : decode cL_step 108 = .ok (.iload 5, 2) := by decide +kernel
theorem dL_step_110 : decode cL_step 110 = .ok (.iconst 2, 1) := by decide +kernel
theorem dL_step_111 : decode cL_step 111 = .ok (.irem, 1) := by decide +kernel
theorem dL_step_112 : decode cL_step 112 = .ok (.ifCond .ne 8, 3) := by decide +kernel
theorem dL_step_115 : decode cL_step 115 = .ok (.bipush 6, 2) := by decide +kernel
theorem dL_step_117 : decode cL_step 117 = .ok (.goto 5, 3) := by decide +kernel
theorem dL_step_120 : decode cL_step 120 = .ok (.bipush 50, 2) := by decide +kernel
theorem dL_step_122 : decode cL_step 122 = .ok (.irem, 1) := by decide +kernel
theorem dL_step_123 : decode cL_step 123 = .ok (.iadd, 1) := by decide +kernel
theorem dL_step_124 : decode cL_step 124 = .ok (.iastore, 1) := by decide +kernel
theorem dL_step_125 : decode cL_step 125 = .ok (.aload_n 2, 1) := by decide +kernel
theorem dL_step_126 : decode cL_step 126 = .ok (.iconst 3, 1) := by decide +kernel
theorem dL_step_127 : decode cL_step 127 = .ok (.iconst 1, 1) := by decide +kernel
theorem dL_step_128 : decode cL_step 128 = .ok (.iload 5, 2) := by decide +kernel
theorem dL_step_130 : decode cL_step 130 = .ok (.iload 4, 2) := by decide +kernel
theorem dL_step_132 : decode cL_step 132 = .ok (.iconst 2, 1) := by decide +kernel
theorem dL_step_133 : decode cL_step 133 = .ok (.irem, 1) := by decide +kernel
theorem dL_step_134 : decode cL_step 134 = .ok (.ifCond .ne 8, 3) := by decide +kernel
theorem dL_step_137 : decode cL_step 137 = .ok (.bipush 60, 2) := by decide +kernel
theorem dL_step_139 : decode cL_step 139 = .ok (.goto 5, 3) := by decide +kernel
theorem dL_step_142 : decode cL_step 142 = .ok (.bipush 7, 2) := by decide +kernel
theorem dL_step_144 : decode cL_step 144 = .ok (.irem, 1) := by decide +kernel
theorem dL_step_145 : decode cL_step 145 = .ok (.iadd, 1) := by decide +kernel
theorem dL_step_146 : decode cL_step 146 = .ok (.iastore, 1) := by decide +kernel
theorem dL_step_147 : decode cL_step 147 = .ok (.aload_n 0, 1) := by decide +kernel
theorem dL_step_148 : decode cL_step 148 = .ok (.aload_n 2, 1) := by decide +kernel
theorem dL_step_149 : decode cL_step 149 = .ok (.iconst 2, 1) := by decide +kernel
theorem dL_step_150 : decode cL_step 150 = .ok (.iaload, 1) := by decide +kernel
theorem dL_step_151 : decode cL_step 151 = .ok (.aload_n 2, 1) := by decide +kernel
theorem dL_step_152 : decode cL_step 152 = .ok (.iconst 3, 1) := by decide +kernel
theorem dL_step_153 : decode cL_step 153 = .ok (.iaload, 1) := by decide +kernel
theorem dL_step_154 : decode cL_step 154 = .ok (.invokevirtual 16, 3) := by decide +kernel
theorem dL_step_157 : decode cL_step 157 = .ok (.iload 6, 2) := by decide +kernel
theorem dL_step_159 : decode cL_step 159 = .ok (.if_icmp .ne 7, 3) := by decide +kernel
theorem dL_step_162 : decode cL_step 162 = .ok (.iconst 1, 1) := by decide +kernel
theorem dL_step_163 : decode cL_step 163 = .ok (.goto 4, 3) := by decide +kernel
theorem dL_step_166 : decode cL_step 166 = .ok (.iconst 0, 1) := by decide +kernel
theorem dL_step_167 : decode cL_step 167 = .ok (.ireturn, 1) := by decide +kernel
theorem dL_step_168 : decode cL_step 168 = .ok (.aload_n 2, 1) := by decide +kernel
theorem dL_step_169 : decode cL_step 169 = .ok (.iconst 4, 1) := by decide +kernel
theorem dL_step_170 : decode cL_step 170 = .ok (.iaload, 1) := by decide +kernel
theorem dL_step_171 : decode cL_step 171 = .ok (.istore 7, 2) := by decide +kernel
theorem dL_step_173 : decode cL_step 173 = .ok (.aload_n 2, 1) := by decide +kernel
theorem dL_step_174 : decode cL_step 174 = .ok (.iconst 4, 1) := by decide +kernel
theorem dL_step_175 : decode cL_step 175 = .ok (.iload 5, 2) := by decide +kernel
theorem dL_step_177 : decode cL_step 177 = .ok (.iconst 4, 1) := by decide +kernel
theorem dL_step_178 : decode cL_step 178 = .ok (.irem, 1) := by decide +kernel
theorem dL_step_179 : decode cL_step 179 = .ok (.ifCond .ne 7, 3) := by decide +kernel
theorem dL_step_182 : decode cL_step 182 = .ok (.iconst 0, 1) := by decide +kernel
theorem dL_step_183 : decode cL_step 183 = .ok (.goto 8, 3) := by decide +kernel
theorem dL_step_186 : decode cL_step 186 = .ok (.iload 5, 2) := by decide +kernel
theorem dL_step_188 : decode cL_step 188 = .ok (.bipush 101, 2) := by decide +kernel
theorem dL_step_190 : decode cL_step 190 = .ok (.irem, 1) := by decide +kernel
theorem dL_step_191 : decode cL_step 191 = .ok (.iastore, 1) := by decide +kernel
theorem dL_step_192 : decode cL_step 192 = .ok (.aload_n 0, 1) := by decide +kernel
theorem dL_step_193 : decode cL_step 193 = .ok (.aload_n 2, 1) := by decide +kernel
theorem dL_step_194 : decode cL_step 194 = .ok (.iconst 4, 1) := by decide +kernel
theorem dL_step_195 : decode cL_step 195 = .ok (.iaload, 1) := by decide +kernel
theorem dL_step_196 : decode cL_step 196 = .ok (.invokevirtual 20, 3) := by decide +kernel
theorem dL_step_199 : decode cL_step 199 = .ok (.iload 7, 2) := by decide +kernel
theorem dL_step_201 : decode cL_step 201 = .ok (.if_icmp .ne 7, 3) := by decide +kernel
theorem dL_step_204 : decode cL_step 204 = .ok (.iconst 1, 1) := by decide +kernel
theorem dL_step_205 : decode cL_step 205 = .ok (.goto 4, 3) := by decide +kernel
theorem dL_step_208 : decode cL_step 208 = .ok (.iconst 0, 1) := by decide +kernel
theorem dL_step_209 : decode cL_step 209 = .ok (.ireturn, 1) := by decide +kernel
theorem dL_step_210 : decode cL_step 210 = .ok (.iload 4, 2) := by decide +kernel
theorem dL_step_212 : decode cL_step 212 = .ok (.iconst 4, 1) := by decide +kernel
theorem dL_step_213 : decode cL_step 213 = .ok (.irem, 1) := by decide +kernel
theorem dL_step_214 : decode cL_step 214 = .ok (.istore 8, 2) := by decide +kernel
theorem dL_step_216 : decode cL_step 216 = .ok (.aload_n 2, 1) := by decide +kernel
theorem dL_step_217 : decode cL_step 217 = .ok (.bipush 6, 2) := by decide +kernel
theorem dL_step_219 : decode cL_step 219 = .ok (.iload 8, 2) := by decide +kernel
theorem dL_step_221 : decode cL_step 221 = .ok (.iadd, 1) := by decide +kernel
theorem dL_step_222 : decode cL_step 222 = .ok (.iload 5, 2) := by decide +kernel
theorem dL_step_224 : decode cL_step 224 = .ok (.bipush 6, 2) := by decide +kernel
theorem dL_step_226 : decode cL_step 226 = .ok (.irem, 1) := by decide +kernel
theorem dL_step_227 : decode cL_step 227 = .ok (.iastore, 1) := by decide +kernel
theorem dL_step_228 : decode cL_step 228 = .ok (.aload_n 2, 1) := by decide +kernel
theorem dL_step_229 : decode cL_step 229 = .ok (.bipush 10, 2) := by decide +kernel
theorem dL_step_231 : decode cL_step 231 = .ok (.iload 8, 2) := by decide +kernel
theorem dL_step_233 : decode cL_step 233 = .ok (.iadd, 1) := by decide +kernel
theorem dL_step_234 : decode cL_step 234 = .ok (.sipush 200, 3) := by decide +kernel
theorem dL_step_237 : decode cL_step 237 = .ok (.iload 5, 2) := by decide +kernel
theorem dL_step_239 : decode cL_step 239 = .ok (.bipush 6, 2) := by decide +kernel
theorem dL_step_241 : decode cL_step 241 = .ok (.idiv, 1) := by decide +kernel
theorem dL_step_242 : decode cL_step 242 = .ok (.iload 4, 2) := by decide +kernel
theorem dL_step_244 : decode cL_step 244 = .ok (.iconst 3, 1) := by decide +kernel
theorem dL_step_245 : decode cL_step 245 = .ok (.irem, 1) := by decide +kernel
theorem dL_step_246 : decode cL_step 246 = .ok (.ifCond .ne 9, 3) := by decide +kernel
theorem dL_step_249 : decode cL_step 249 = .ok (.sipush 4801, 3) := by decide +kernel
theorem dL_step_252 : decode cL_step 252 = .ok (.goto 6, 3) := by decide +kernel
theorem dL_step_255 : decode cL_step 255 = .ok (.sipush 200, 3) := by decide +kernel
theorem dL_step_258 : decode cL_step 258 = .ok (.irem, 1) := by decide +kernel
theorem dL_step_259 : decode cL_step 259 = .ok (.iadd, 1) := by decide +kernel
theorem dL_step_260 : decode cL_step 260 = .ok (.iastore, 1) := by decide +kernel
theorem dL_step_261 : decode cL_step 261 = .ok (.aload_n 0, 1) := by decide +kernel
theorem dL_step_262 : decode cL_step 262 = .ok (.iload 8, 2) := by decide +kernel
theorem dL_step_264 : decode cL_step 264 = .ok (.aload_n 2, 1) := by decide +kernel
theorem dL_step_265 : decode cL_step 265 = .ok (.bipush 10, 2) := by decide +kernel
theorem dL_step_267 : decode cL_step 267 = .ok (.iload 8, 2) := by decide +kernel
theorem dL_step_269 : decode cL_step 269 = .ok (.iadd, 1) := by decide +kernel
theorem dL_step_270 : decode cL_step 270 = .ok (.iaload, 1) := by decide +kernel
theorem dL_step_271 : decode cL_step 271 = .ok (.iload 4, 2) := by decide +kernel
theorem dL_step_273 : decode cL_step 273 = .ok (.iconst 4, 1) := by decide +kernel
theorem dL_step_274 : decode cL_step 274 = .ok (.idiv, 1) := by decide +kernel
theorem dL_step_275 : decode cL_step 275 = .ok (.iconst 3, 1) := by decide +kernel
theorem dL_step_276 : decode cL_step 276 = .ok (.irem, 1) := by decide +kernel
theorem dL_step_277 : decode cL_step 277 = .ok (.ifCond .ne 16, 3) := by decide +kernel
theorem dL_step_280 : decode cL_step 280 = .ok (.iconst 1, 1) := by decide +kernel
theorem dL_step_281 : decode cL_step 281 = .ok (.iload 4, 2) := by decide +kernel
theorem dL_step_283 : decode cL_step 283 = .ok (.bipush 12, 2) := by decide +kernel
theorem dL_step_285 : decode cL_step 285 = .ok (.idiv, 1) := by decide +kernel
theorem dL_step_286 : decode cL_step 286 = .ok (.bipush 60, 2) := by decide +kernel
theorem dL_step_288 : decode cL_step 288 = .ok (.irem, 1) := by decide +kernel
theorem dL_step_289 : decode cL_step 289 = .ok (.iadd, 1) := by decide +kernel
theorem dL_step_290 : decode cL_step 290 = .ok (.goto 4, 3) := by decide +kernel
theorem dL_step_293 : decode cL_step 293 = .ok (.iconst 0, 1) := by decide +kernel
theorem dL_step_294 : decode cL_step 294 = .ok (.iload 5, 2) := by decide +kernel
theorem dL_step_296 : decode cL_step 296 = .ok (.bipush 6, 2) := by decide +kernel
theorem dL_step_298 : decode cL_step 298 = .ok (.irem, 1) := by decide +kernel
theorem dL_step_299 : decode cL_step 299 = .ok (.invokevirtual 24, 3) := by decide +kernel
theorem dL_step_302 : decode cL_step 302 = .ok (.aload_n 0, 1) := by decide +kernel
theorem dL_step_303 : decode cL_step 303 = .ok (.iload 8, 2) := by decide +kernel
theorem dL_step_305 : decode cL_step 305 = .ok (.invokevirtual 28, 3) := by decide +kernel
theorem dL_step_308 : decode cL_step 308 = .ok (.if_icmp .ne 23, 3) := by decide +kernel
theorem dL_step_311 : decode cL_step 311 = .ok (.aload_n 0, 1) := by decide +kernel
theorem dL_step_312 : decode cL_step 312 = .ok (.iload 8, 2) := by decide +kernel
theorem dL_step_314 : decode cL_step 314 = .ok (.invokevirtual 31, 3) := by decide +kernel
theorem dL_step_317 : decode cL_step 317 = .ok (.aload_n 2, 1) := by decide +kernel
theorem dL_step_318 : decode cL_step 318 = .ok (.bipush 6, 2) := by decide +kernel
theorem dL_step_320 : decode cL_step 320 = .ok (.iload 8, 2) := by decide +kernel
theorem dL_step_322 : decode cL_step 322 = .ok (.iadd, 1) := by decide +kernel
theorem dL_step_323 : decode cL_step 323 = .ok (.iaload, 1) := by decide +kernel
theorem dL_step_324 : decode cL_step 324 = .ok (.if_icmp .gt 7, 3) := by decide +kernel
theorem dL_step_327 : decode cL_step 327 = .ok (.iconst 1, 1) := by decide +kernel
theorem dL_step_328 : decode cL_step 328 = .ok (.goto 4, 3) := by decide +kernel
theorem dL_step_331 : decode cL_step 331 = .ok (.iconst 0, 1) := by decide +kernel
theorem dL_step_332 : decode cL_step 332 = .ok (.ireturn, 1) := by decide +kernel
theorem dL_step_333 : decode cL_step 333 = .ok (.aload_n 0, 1) := by decide +kernel
theorem dL_step_334 : decode cL_step 334 = .ok (.aload_n 2, 1) := by decide +kernel
theorem dL_step_335 : decode cL_step 335 = .ok (.iconst 1, 1) := by decide +kernel
theorem dL_step_336 : decode cL_step 336 = .ok (.iload 5, 2) := by decide +kernel
theorem dL_step_338 : decode cL_step 338 = .ok (.iload 4, 2) := by decide +kernel
theorem dL_step_340 : decode cL_step 340 = .ok (.iconst 4, 1) := by decide +kernel
theorem dL_step_341 : decode cL_step 341 = .ok (.irem, 1) := by decide +kernel
theorem dL_step_342 : decode cL_step 342 = .ok (.ifCond .ne 8, 3) := by decide +kernel
theorem dL_step_345 : decode cL_step 345 = .ok (.bipush 100, 2) := by decide +kernel
theorem dL_step_347 : decode cL_step 347 = .ok (.goto 5, 3) := by decide +kernel
theorem dL_step_350 : decode cL_step 350 = .ok (.bipush 9, 2) := by decide +kernel
theorem dL_step_352 : decode cL_step 352 = .ok (.irem, 1) := by decide +kernel
theorem dL_step_353 : decode cL_step 353 = .ok (.iadd, 1) := by decide +kernel
theorem dL_step_354 : decode cL_step 354 = .ok (.invokestatic 34, 3) := by decide +kernel
theorem dL_step_357 : decode cL_step 357 = .ok (.ireturn, 1) := by decide +kernel
theorem dL_step_358 : decode cL_step 358 = .ok (.iload 4, 2) := by decide +kernel
theorem dL_step_360 : decode cL_step 360 = .ok (.iconst 4, 1) := by decide +kernel
theorem dL_step_361 : decode cL_step 361 = .ok (.irem, 1) := by decide +kernel
theorem dL_step_362 : decode cL_step 362 = .ok (.istore 9, 2) := by decide +kernel
theorem dL_step_364 : decode cL_step 364 = .ok (.aload_n 0, 1) := by decide +kernel
theorem dL_step_365 : decode cL_step 365 = .ok (.iload 9, 2) := by decide +kernel
theorem dL_step_367 : decode cL_step 367 = .ok (.iconst (-1), 1) := by decide +kernel
theorem dL_step_368 : decode cL_step 368 = .ok (.invokevirtual 40, 3) := by decide +kernel
theorem dL_step_371 : decode cL_step 371 = .ok (.istore 10, 2) := by decide +kernel
theorem dL_step_373 : decode cL_step 373 = .ok (.iload 10, 2) := by decide +kernel
theorem dL_step_375 : decode cL_step 375 = .ok (.ifCond .eq 59, 3) := by decide +kernel
theorem dL_step_378 : decode cL_step 378 = .ok (.aload_n 0, 1) := by decide +kernel
theorem dL_step_379 : decode cL_step 379 = .ok (.iload 9, 2) := by decide +kernel
theorem dL_step_381 : decode cL_step 381 = .ok (.invokevirtual 43, 3) := by decide +kernel
theorem dL_step_384 : decode cL_step 384 = .ok (.aload_n 0, 1) := by decide +kernel
theorem dL_step_385 : decode cL_step 385 = .ok (.iload 9, 2) := by decide +kernel
theorem dL_step_387 : decode cL_step 387 = .ok (.invokevirtual 31, 3) := by decide +kernel
theorem dL_step_390 : decode cL_step 390 = .ok (.if_icmp .ne 48, 3) := by decide +kernel
theorem dL_step_393 : decode cL_step 393 = .ok (.aload_n 0, 1) := by decide +kernel
theorem dL_step_394 : decode cL_step 394 = .ok (.iload 9, 2) := by decide +kernel
theorem dL_step_396 : decode cL_step 396 = .ok (.invokevirtual 28, 3) := by decide +kernel
theorem dL_step_399 : decode cL_step 399 = .ok (.ifCond .ne 39, 3) := by decide +kernel
theorem dL_step_402 : decode cL_step 402 = .ok (.aload_n 0, 1) := by decide +kernel
theorem dL_step_403 : decode cL_step 403 = .ok (.iload 9, 2) := by decide +kernel
theorem dL_step_405 : decode cL_step 405 = .ok (.iconst (-1), 1) := by decide +kernel
theorem dL_step_406 : decode cL_step 406 = .ok (.invokevirtual 40, 3) := by decide +kernel
theorem dL_step_409 : decode cL_step 409 = .ok (.ifCond .ne 29, 3) := by decide +kernel
theorem dL_step_412 : decode cL_step 412 = .ok (.aload_n 2, 1) := by decide +kernel
theorem dL_step_413 : decode cL_step 413 = .ok (.bipush 6, 2) := by decide +kernel
theorem dL_step_415 : decode cL_step 415 = .ok (.iload 9, 2) := by decide +kernel
theorem dL_step_417 : decode cL_step 417 = .ok (.iadd, 1) := by decide +kernel
theorem dL_step_418 : decode cL_step 418 = .ok (.iaload, 1) := by decide +kernel
theorem dL_step_419 : decode cL_step 419 = .ok (.ifCond .eq 15, 3) := by decide +kernel
theorem dL_step_422 : decode cL_step 422 = .ok (.aload_n 0, 1) := by decide +kernel
theorem dL_step_423 : decode cL_step 423 = .ok (.iload 9, 2) := by decide +kernel
theorem dL_step_425 : decode cL_step 425 = .ok (.iconst 0, 1) := by decide +kernel
theorem dL_step_426 : decode cL_step 426 = .ok (.invokevirtual 40, 3) := by decide +kernel
theorem dL_step_429 : decode cL_step 429 = .ok (.iload 10, 2) := by decide +kernel
theorem dL_step_431 : decode cL_step 431 = .ok (.if_icmp .ne 7, 3) := by decide +kernel
theorem dL_step_434 : decode cL_step 434 = .ok (.iconst 1, 1) := by decide +kernel
theorem dL_step_435 : decode cL_step 435 = .ok (.goto 4, 3) := by decide +kernel
theorem dL_step_438 : decode cL_step 438 = .ok (.iconst 0, 1) := by decide +kernel
theorem dL_step_439 : decode cL_step 439 = .ok (.ireturn, 1) := by decide +kernel
theorem dL_step_440 : decode cL_step 440 = .ok (.aload_n 0, 1) := by decide +kernel
theorem dL_step_441 : decode cL_step 441 = .ok (.aload_n 2, 1) := by decide +kernel
theorem dL_step_442 : decode cL_step 442 = .ok (.iload 5, 2) := by decide +kernel
theorem dL_step_444 : decode cL_step 444 = .ok (.invokestatic 46, 3) := by decide +kernel
theorem dL_step_447 : decode cL_step 447 = .ok (.ireturn, 1) := by decide +kernel
theorem dL_step_448 : decode cL_step 448 = .ok (.aload_n 2, 1) := by decide +kernel
theorem dL_step_449 : decode cL_step 449 = .ok (.iconst 0, 1) := by decide +kernel
theorem dL_step_450 : decode cL_step 450 = .ok (.iaload, 1) := by decide +kernel
theorem dL_step_451 : decode cL_step 451 = .ok (.bipush 60, 2) := by decide +kernel
theorem dL_step_453 : decode cL_step 453 = .ok (.if_icmp .eq 56, 3) := by decide +kernel
theorem dL_step_456 : decode cL_step 456 = .ok (.aload_n 0, 1) := by decide +kernel
theorem dL_step_457 : decode cL_step 457 = .ok (.aload_n 1, 1) := by decide +kernel
theorem dL_step_458 : decode cL_step 458 = .ok (.aload_n 2, 1) := by decide +kernel
theorem dL_step_459 : decode cL_step 459 = .ok (.iload 4, 2) := by decide +kernel
theorem dL_step_461 : decode cL_step 461 = .ok (.bipush 6, 2) := by decide +kernel
theorem dL_step_463 : decode cL_step 463 = .ok (.irem, 1) := by decide +kernel
theorem dL_step_464 : decode cL_step 464 = .ok (.iload 5, 2) := by decide +kernel
theorem dL_step_466 : decode cL_step 466 = .ok (.iconst 3, 1) := by decide +kernel
theorem dL_step_467 : decode cL_step 467 = .ok (.irem, 1) := by decide +kernel
theorem dL_step_468 : decode cL_step 468 = .ok (.iload 4, 2) := by decide +kernel
theorem dL_step_470 : decode cL_step 470 = .ok (.bipush 6, 2) := by decide +kernel
theorem dL_step_472 : decode cL_step 472 = .ok (.idiv, 1) := by decide +kernel
theorem dL_step_473 : decode cL_step 473 = .ok (.iconst 3, 1) := by decide +kernel
theorem dL_step_474 : decode cL_step 474 = .ok (.irem, 1) := by decide +kernel
theorem dL_step_475 : decode cL_step 475 = .ok (.iload 5, 2) := by decide +kernel
theorem dL_step_477 : decode cL_step 477 = .ok (.iconst 3, 1) := by decide +kernel
theorem dL_step_478 : decode cL_step 478 = .ok (.idiv, 1) := by decide +kernel
theorem dL_step_479 : decode cL_step 479 = .ok (.iconst 2, 1) := by decide +kernel
theorem dL_step_480 : decode cL_step 480 = .ok (.irem, 1) := by decide +kernel
theorem dL_step_481 : decode cL_step 481 = .ok (.iconst 1, 1) := by decide +kernel
theorem dL_step_482 : decode cL_step 482 = .ok (.iload 5, 2) := by decide +kernel
theorem dL_step_484 : decode cL_step 484 = .ok (.bipush 6, 2) := by decide +kernel
theorem dL_step_486 : decode cL_step 486 = .ok (.idiv, 1) := by decide +kernel
theorem dL_step_487 : decode cL_step 487 = .ok (.iload 4, 2) := by decide +kernel
theorem dL_step_489 : decode cL_step 489 = .ok (.iconst 2, 1) := by decide +kernel
theorem dL_step_490 : decode cL_step 490 = .ok (.irem, 1) := by decide +kernel
theorem dL_step_491 : decode cL_step 491 = .ok (.ifCond .ne 9, 3) := by decide +kernel
theorem dL_step_494 : decode cL_step 494 = .ok (.sipush 200, 3) := by decide +kernel
theorem dL_step_497 : decode cL_step 497 = .ok (.goto 4, 3) := by decide +kernel
theorem dL_step_500 : decode cL_step 500 = .ok (.iconst 2, 1) := by decide +kernel
theorem dL_step_501 : decode cL_step 501 = .ok (.irem, 1) := by decide +kernel
theorem dL_step_502 : decode cL_step 502 = .ok (.iadd, 1) := by decide +kernel
theorem dL_step_503 : decode cL_step 503 = .ok (.invokestatic 49, 3) := by decide +kernel
theorem dL_step_506 : decode cL_step 506 = .ok (.ifCond .eq 7, 3) := by decide +kernel
theorem dL_step_509 : decode cL_step 509 = .ok (.iconst 1, 1) := by decide +kernel
theorem dL_step_510 : decode cL_step 510 = .ok (.goto 4, 3) := by decide +kernel
theorem dL_step_513 : decode cL_step 513 = .ok (.iconst 0, 1) := by decide +kernel
theorem dL_step_514 : decode cL_step 514 = .ok (.ireturn, 1) := by decide +kernel
set_option maxRecDepth 20000 in
theorem ggL_passes_X5_pass : GoodIn wsL_passes wsX5_pass := goodIn_ca (goodIn_r _ [5, 6, 7, 8, 9, 4, 10, 11, 12, 13, 14, 15, 16, 17, 18, 19, 20, 21, 22, 23, 24, 25, 26, 27, 28, 29, 30, 31, 32, 33, 34, 35, 36, 37, 38, 39, 40, 41, 42, 43, 44, 45, 46, 47, 48, 49, 50, 51, 52, 53, 54, 55, 56, 57, 58, 59, 60, 61, 62, 63, 64, 65, 66, 67, 68, 69, 70, 71, 72, 73, 74, 75, 76, 77, 78, 79, 80, 81, 82, 83, 84, 85, 86, 87, 88, 89, 90, 91, 92, 93, 94, 95, 96, 97, 98, 99, 100, 101, 102, 103, 104, 105, 106, 107, 108, 109, 129, 130, 131, 132, 133, 134, 135, 136, 137, 138, 139, 140, 141, 142, 143, 144, 145, 146, 147, 148, 149, 150, 151, 152, 153, 154, 155, 156, 157, 158, 159, 160, 161, 162, 163, 164, 165, 166, 167] (by decide +kernel) (by decide +kernel)) (goodIn_sub (fun _ h => List.mem_cons_of_mem _ (List.mem_append_left _ (List.mem_append_right _ h))) (by decide +kernel))
set_option maxRecDepth 20000 in
theorem gL_passes_X5_pass : GoodIn wsL_passes (wsV RL 53 RX5 yX5_pass wsX5_pass) := goodIn_app (goodIn_of _ (by decide +kernel)) ggL_passes_X5_pass
set_option maxRecDepth 20000 in
theorem ggL_passes_X5_time : GoodIn wsL_passes wsX5_time := goodIn_r _ [113, 21, 129, 130, 131, 132, 133, 134, 135, 136, 137] (by decide +kernel) (by decide +kernel)
set_option maxRecDepth 20000 in
theorem gL_passes_X5_time : GoodIn wsL_passes (wsV RL 56 RX5 yX5_time wsX5_time) := goodIn_app (goodIn_of _ (by decide +kernel)) ggL_passes_X5_time
set_option maxRecDepth 20000 in
theorem ggL_passes_X5_repeats : GoodIn wsL_passes wsX5_repeats := goodIn_ca (goodIn_r _ [117, 43, 118, 119, 120, 4, 121, 122, 123, 27, 148, 149, 150, 151, 152, 153, 154, 155, 156, 129, 130, 131, 132, 133, 134, 135, 136, 137] (by decide +kernel) (by decide +kernel)) (goodIn_sub (fun _ h => List.mem_cons_of_mem _ (List.mem_append_right _ h)) (by decide +kernel))
set_option maxRecDepth 20000 in
theorem gL_passes_X5_repeats : GoodIn wsL_passes (wsV RL 60 RX5 yX5_repeats wsX5_repeats) := goodIn_app (goodIn_of _ (by decide +kernel)) ggL_passes_X5_repeats
set_option maxRecDepth 20000 in
theorem ggL_passes_X5_tokens : GoodIn wsL_passes wsX5_tokens := goodIn_ca (goodIn_r _ [127, 128, 118, 119, 120, 4, 121, 122, 123, 27, 148, 149, 150, 151, 152, 153, 154, 155, 156, 129, 130, 131, 132, 133, 134, 135, 136, 137] (by decide +kernel) (by decide +kernel)) (goodIn_sub (fun _ h => List.mem_cons_of_mem _ (List.mem_append_right _ h)) (by decide +kernel))
set_option maxRecDepth 20000 in
theorem gL_passes_X5_tokens : GoodIn wsL_passes (wsV RL 63 RX5 yX5_tokens wsX5_tokens) := goodIn_app (goodIn_of _ (by decide +kernel)) ggL_passes_X5_tokens
theorem dL_passes_0 : decode cL_passes 0 = .ok (.aload_n 1, 1) := by decide +kernel
theorem dL_passes_1 : decode cL_passes 1 = .ok (.iconst 1, 1) := by decide +kernel
theorem dL_passes_2 : decode cL_passes 2 = .ok (.dup2, 1) := by decide +kernel
theorem dL_passes_3 : decode cL_passes 3 = .ok (.iaload, 1) := by decide +kernel
theorem dL_passes_4 : decode cL_passes 4 = .ok (.iload_n 2, 1) := by decide +kernel
theorem dL_passes_5 : decode cL_passes 5 = .ok (.iadd, 1) := by decide +kernel
theorem dL_passes_6 : decode cL_passes 6 = .ok (.iastore, 1) := by decide +kernel
theorem dL_passes_7 : decode cL_passes 7 = .ok (.aload_n 0, 1) := by decide +kernel
theorem dL_passes_8 : decode cL_passes 8 = .ok (.iload_n 2, 1) := by decide +kernel
theorem dL_passes_9 : decode cL_passes 9 = .ok (.invokevirtual 53, 3) := by decide +kernel
theorem dL_passes_12 : decode cL_passes 12 = .ok (.ifCond .lt 17, 3) := by decide +kernel
theorem dL_passes_15 : decode cL_passes 15 = .ok (.aload_n 0, 1) := by decide +kernel
theorem dL_passes_16 : decode cL_passes 16 = .ok (.invokevirtual 56, 3) := by decide +kernel
theorem dL_passes_19 : decode cL_passes 19 = .ok (.aload_n 1, 1) := by decide +kernel
theorem dL_passes_20 : decode cL_passes 20 = .ok (.iconst 1, 1) := by decide +kernel
theorem dL_passes_21 : decode cL_passes 21 = .ok (.iaload, 1) := by decide +kernel
theorem dL_passes_22 : decode cL_passes 22 = .ok (.if_icmp .ne 7, 3) := by decide +kernel
theorem dL_passes_25 : decode cL_passes 25 = .ok (.iconst 1, 1) := by decide +kernel
theorem dL_passes_26 : decode cL_passes 26 = .ok (.goto 4, 3) := by decide +kernel
theorem dL_passes_29 : decode cL_passes 29 = .ok (.iconst 0, 1) := by decide +kernel
theorem dL_passes_30 : decode cL_passes 30 = .ok (.istore_n 3, 1) := by decide +kernel
theorem dL_passes_31 : decode cL_passes 31 = .ok (.iconst 0, 1) := by decide +kernel
theorem dL_passes_32 : decode cL_passes 32 = .ok (.istore 4, 2) := by decide +kernel
theorem dL_passes_34 : decode cL_passes 34 = .ok (.iload 4, 2) := by decide +kernel
theorem dL_passes_36 : decode cL_passes 36 = .ok (.bipush 6, 2) := by decide +kernel
theorem dL_passes_38 : decode cL_passes 38 = .ok (.if_icmp .ge 51, 3) := by decide +kernel
theorem dL_passes_41 : decode cL_passes 41 = .ok (.iload_n 3, 1) := by decide +kernel
theorem dL_passes_42 : decode cL_passes 42 = .ok (.ifCond .eq 39, 3) := by decide +kernel
theorem dL_passes_45 : decode cL_passes 45 = .ok (.iload_n 2, 1) := by decide +kernel
theorem dL_passes_46 : decode cL_passes 46 = .ok (.aload_n 1, 1) := by decide +kernel
theorem dL_passes_47 : decode cL_passes 47 = .ok (.iconst 4, 1) := by decide +kernel
theorem dL_passes_48 : decode cL_passes 48 = .ok (.iaload, 1) := by decide +kernel
theorem dL_passes_49 : decode cL_passes 49 = .ok (.if_icmp .lt 12, 3) := by decide +kernel
theorem dL_passes_52 : decode cL_passes 52 = .ok (.aload_n 0, 1) := by decide +kernel
theorem dL_passes_53 : decode cL_passes 53 = .ok (.iload 4, 2) := by decide +kernel
theorem dL_passes_55 : decode cL_passes 55 = .ok (.invokevirtual 60, 3) := by decide +kernel
theorem dL_passes_58 : decode cL_passes 58 = .ok (.ifCond .ne 23, 3) := by decide +kernel
theorem dL_passes_61 : decode cL_passes 61 = .ok (.iload_n 2, 1) := by decide +kernel
theorem dL_passes_62 : decode cL_passes 62 = .ok (.aload_n 1, 1) := by decide +kernel
theorem dL_passes_63 : decode cL_passes 63 = .ok (.iconst 3, 1) := by decide +kernel
theorem dL_passes_64 : decode cL_passes 64 = .ok (.iaload, 1) := by decide +kernel
theorem dL_passes_65 : decode cL_passes 65 = .ok (.if_icmp .lt 12, 3) := by decide +kernel
theorem dL_passes_68 : decode cL_passes 68 = .ok (.aload_n 0, 1) := by decide +kernel
theorem dL_passes_69 : decode cL_passes 69 = .ok (.iload 4, 2) := by decide +kernel
theorem dL_passes_71 : decode cL_passes 71 = .ok (.invokevirtual 63, 3) := by decide +kernel
theorem dL_passes_74 : decode cL_passes 74 = .ok (.ifCond .le 7, 3) := by decide +kernel
theorem dL_passes_77 : decode cL_passes 77 = .ok (.iconst 1, 1) := by decide +kernel
theorem dL_passes_78 : decode cL_passes 78 = .ok (.goto 4, 3) := by decide +kernel
theorem dL_passes_81 : decode cL_passes 81 = .ok (.iconst 0, 1) := by decide +kernel
theorem dL_passes_82 : decode cL_passes 82 = .ok (.istore_n 3, 1) := by decide +kernel
theorem dL_passes_83 : decode cL_passes 83 = .ok (.iinc 4 1, 3) := by decide +kernel
theorem dL_passes_86 : decode cL_passes 86 = .ok (.goto (-52), 3) := by decide +kernel
theorem dL_passes_89 : decode cL_passes 89 = .ok (.iload_n 3, 1) := by decide +kernel
theorem dL_passes_90 : decode cL_passes 90 = .ok (.ireturn, 1) := by decide +kernel
set_option maxRecDepth 20000 in
theorem ggL_forwards_X5_queued : GoodIn wsL_forwards wsX5_queued := goodIn_r _ [5, 6, 7, 8, 9, 10, 11, 12, 13, 71, 72, 73, 74, 75, 76, 77, 78, 79, 80, 81, 82, 83, 84, 85] (by decide +kernel) (by decide +kernel)
set_option maxRecDepth 20000 in
theorem gL_forwards_X5_queued : GoodIn wsL_forwards (wsV RL 66 RX5 yX5_queued wsX5_queued) := goodIn_app (goodIn_of _ (by decide +kernel)) ggL_forwards_X5_queued
set_option maxRecDepth 20000 in
theorem ggL_forwards_X5_inFlight : GoodIn wsL_forwards wsX5_inFlight := goodIn_r _ [17, 6, 18, 19, 20, 10, 21, 13, 22, 71, 72, 73, 74, 75, 76, 77, 78, 79, 80, 81, 82, 83, 84, 85] (by decide +kernel) (by decide +kernel)
set_option maxRecDepth 20000 in
theorem gL_forwards_X5_inFlight : GoodIn wsL_forwards (wsV RL 69 RX5 yX5_inFlight wsX5_inFlight) := goodIn_app (goodIn_of _ (by decide +kernel)) ggL_forwards_X5_inFlight
set_option maxRecDepth 20000 in
theorem ggL_forwards_X5_connect : GoodIn wsL_forwards wsX5_connect := goodIn_ca (goodIn_r _ [26, 27, 28, 6, 29, 7, 8, 9, 10, 11, 12, 13, 71, 72, 73, 74, 75, 76, 77, 78, 79, 80, 81, 82, 83, 84, 85] (by decide +kernel) (by decide +kernel)) (goodIn_sub (fun _ h => List.mem_cons_of_mem _ (List.mem_append_right _ h)) (by decide +kernel))
set_option maxRecDepth 20000 in
theorem gL_forwards_X5_connect : GoodIn wsL_forwards (wsV RL 72 RX5 yX5_connect wsX5_connect) := goodIn_app (goodIn_of _ (by decide +kernel)) ggL_forwards_X5_connect
set_option maxRecDepth 20000 in
theorem ggL_forwards_X5_disconnect : GoodIn wsL_forwards wsX5_disconnect := goodIn_ca (goodIn_r _ [33, 27, 28, 6, 29, 18, 19, 20, 10, 21, 13, 22, 34, 35, 36, 37, 38, 71, 72, 73, 74, 75, 76, 77, 78, 79, 80, 81, 82, 83, 84, 85] (by decide +kernel) (by decide +kernel)) (goodIn_sub (fun _ h => List.mem_cons_of_mem _ (List.mem_append_right _ h)) (by decide +kernel))
set_option maxRecDepth 20000 in
theorem gL_forwards_X5_disconnect : GoodIn wsL_forwards (wsV RL 75 RX5 yX5_disconnect wsX5_disconnect) := goodIn_app (goodIn_of _ (by decide +kernel)) ggL_forwards_X5_disconnect
set_option maxRecDepth 20000 in
theorem ggL_forwards_X5_acknowledged : GoodIn wsL_forwards wsX5_acknowledged := goodIn_r _ [42, 6, 43, 71, 72, 73, 74, 75, 76, 77, 78, 79, 80, 81, 82, 83, 84, 85] (by decide +kernel) (by decide +kernel)
set_option maxRecDepth 20000 in
theorem gL_forwards_X5_acknowledged : GoodIn wsL_forwards (wsV RL 78 RX5 yX5_acknowledged wsX5_acknowledged) := goodIn_app (goodIn_of _ (by decide +kernel)) ggL_forwards_X5_acknowledged
set_option maxRecDepth 20000 in
theorem ggL_forwards_X5_acknowledge : GoodIn wsL_forwards wsX5_acknowledge := goodIn_ca (goodIn_r _ [47, 27, 28, 6, 18, 19, 20, 10, 21, 13, 22, 48, 49, 50, 51, 52, 53, 54, 55, 56, 71, 72, 73, 74, 75, 76, 77, 78, 79, 80, 81, 82, 83, 84, 85] (by decide +kernel) (by decide +kernel)) (goodIn_sub (fun _ h => List.mem_cons_of_mem _ (List.mem_append_right _ h)) (by decide +kernel))
set_option maxRecDepth 20000 in
theorem gL_forwards_X5_acknowledge : GoodIn wsL_forwards (wsV RL 81 RX5 yX5_acknowledge wsX5_acknowledge) := goodIn_app (goodIn_of _ (by decide +kernel)) ggL_forwards_X5_acknowledge
set_option maxRecDepth 20000 in
theorem ggL_forwards_X5_send : GoodIn wsL_forwards wsX5_send := goodIn_ca (goodIn_r _ [60, 27, 28, 6, 61, 62, 63, 10, 64, 38, 65, 8, 9, 11, 12, 13, 66, 19, 20, 21, 22, 67, 68, 69, 70, 52, 53, 54, 55, 56, 71, 72, 73, 74, 75, 76, 77, 78, 79, 80, 81, 82, 83, 84, 85] (by decide +kernel) (by decide +kernel)) (goodIn_sub (fun _ h => List.mem_cons_of_mem _ (List.mem_append_right _ h)) (by decide +kernel))
set_option maxRecDepth 20000 in
theorem gL_forwards_X5_send : GoodIn wsL_forwards (wsV RL 84 RX5 yX5_send wsX5_send) := goodIn_app (goodIn_of _ (by decide +kernel)) ggL_forwards_X5_send
theorem dL_forwards_0 : decode cL_forwards 0 = .ok (.aload_n 0, 1) := by decide +kernel
theorem dL_forwards_1 : decode cL_forwards 1 = .ok (.invokevirtual 66, 3) := by decide +kernel
theorem dL_forwards_4 : decode cL_forwards 4 = .ok (.istore_n 3, 1) := by decide +kernel
theorem dL_forwards_5 : decode cL_forwards 5 = .ok (.aload_n 0, 1) := by decide +kernel
theorem dL_forwards_6 : decode cL_forwards 6 = .ok (.invokevirtual 69, 3) := by decide +kernel
theorem dL_forwards_9 : decode cL_forwards 9 = .ok (.istore 4, 2) := by decide +kernel
theorem dL_forwards_11 : decode cL_forwards 11 = .ok (.aload_n 1, 1) := by decide +kernel
theorem dL_forwards_12 : decode cL_forwards 12 = .ok (.iconst 5, 1) := by decide +kernel
theorem dL_forwards_13 : decode cL_forwards 13 = .ok (.iaload, 1) := by decide +kernel
theorem dL_forwards_14 : decode cL_forwards 14 = .ok (.ifCond .ne 26, 3) := by decide +kernel
theorem dL_forwards_17 : decode cL_forwards 17 = .ok (.aload_n 1, 1) := by decide +kernel
theorem dL_forwards_18 : decode cL_forwards 18 = .ok (.iconst 5, 1) := by decide +kernel
theorem dL_forwards_19 : decode cL_forwards 19 = .ok (.iconst 1, 1) := by decide +kernel
theorem dL_forwards_20 : decode cL_forwards 20 = .ok (.iastore, 1) := by decide +kernel
theorem dL_forwards_21 : decode cL_forwards 21 = .ok (.iload 4, 2) := by decide +kernel
theorem dL_forwards_23 : decode cL_forwards 23 = .ok (.ifCond .ne 15, 3) := by decide +kernel
theorem dL_forwards_26 : decode cL_forwards 26 = .ok (.aload_n 0, 1) := by decide +kernel
theorem dL_forwards_27 : decode cL_forwards 27 = .ok (.invokevirtual 72, 3) := by decide +kernel
theorem dL_forwards_30 : decode cL_forwards 30 = .ok (.iload_n 3, 1) := by decide +kernel
theorem dL_forwards_31 : decode cL_forwards 31 = .ok (.if_icmp .ne 7, 3) := by decide +kernel
theorem dL_forwards_34 : decode cL_forwards 34 = .ok (.iconst 1, 1) := by decide +kernel
theorem dL_forwards_35 : decode cL_forwards 35 = .ok (.goto 4, 3) := by decide +kernel
theorem dL_forwards_38 : decode cL_forwards 38 = .ok (.iconst 0, 1) := by decide +kernel
theorem dL_forwards_39 : decode cL_forwards 39 = .ok (.ireturn, 1) := by decide +kernel
theorem dL_forwards_40 : decode cL_forwards 40 = .ok (.iload_n 2, 1) := by decide +kernel
theorem dL_forwards_41 : decode cL_forwards 41 = .ok (.iconst 5, 1) := by decide +kernel
theorem dL_forwards_42 : decode cL_forwards 42 = .ok (.irem, 1) := by decide +kernel
theorem dL_forwards_43 : decode cL_forwards 43 = .ok (.ifCond .ne 40, 3) := by decide +kernel
theorem dL_forwards_46 : decode cL_forwards 46 = .ok (.aload_n 1, 1) := by decide +kernel
theorem dL_forwards_47 : decode cL_forwards 47 = .ok (.iconst 5, 1) := by decide +kernel
theorem dL_forwards_48 : decode cL_forwards 48 = .ok (.iconst 0, 1) := by decide +kernel
theorem dL_forwards_49 : decode cL_forwards 49 = .ok (.iastore, 1) := by decide +kernel
theorem dL_forwards_50 : decode cL_forwards 50 = .ok (.aload_n 0, 1) := by decide +kernel
theorem dL_forwards_51 : decode cL_forwards 51 = .ok (.invokevirtual 75, 3) := by decide +kernel
theorem dL_forwards_54 : decode cL_forwards 54 = .ok (.iload 4, 2) := by decide +kernel
theorem dL_forwards_56 : decode cL_forwards 56 = .ok (.if_icmp .ne 25, 3) := by decide +kernel
theorem dL_forwards_59 : decode cL_forwards 59 = .ok (.aload_n 0, 1) := by decide +kernel
theorem dL_forwards_60 : decode cL_forwards 60 = .ok (.invokevirtual 66, 3) := by decide +kernel
theorem dL_forwards_63 : decode cL_forwards 63 = .ok (.iload_n 3, 1) := by decide +kernel
theorem dL_forwards_64 : decode cL_forwards 64 = .ok (.iload 4, 2) := by decide +kernel
theorem dL_forwards_66 : decode cL_forwards 66 = .ok (.iadd, 1) := by decide +kernel
theorem dL_forwards_67 : decode cL_forwards 67 = .ok (.if_icmp .ne 14, 3) := by decide +kernel
theorem dL_forwards_70 : decode cL_forwards 70 = .ok (.aload_n 0, 1) := by decide +kernel
theorem dL_forwards_71 : decode cL_forwards 71 = .ok (.invokevirtual 69, 3) := by decide +kernel
theorem dL_forwards_74 : decode cL_forwards 74 = .ok (.ifCond .ne 7, 3) := by decide +kernel
theorem dL_forwards_77 : decode cL_forwards 77 = .ok (.iconst 1, 1) := by decide +kernel
theorem dL_forwards_78 : decode cL_forwards 78 = .ok (.goto 4, 3) := by decide +kernel
theorem dL_forwards_81 : decode cL_forwards 81 = .ok (.iconst 0, 1) := by decide +kernel
theorem dL_forwards_82 : decode cL_forwards 82 = .ok (.ireturn, 1) := by decide +kernel
theorem dL_forwards_83 : decode cL_forwards 83 = .ok (.iload_n 2, 1) := by decide +kernel
theorem dL_forwards_84 : decode cL_forwards 84 = .ok (.iconst 2, 1) := by decide +kernel
theorem dL_forwards_85 : decode cL_forwards 85 = .ok (.irem, 1) := by decide +kernel
theorem dL_forwards_86 : decode cL_forwards 86 = .ok (.ifCond .ne 57, 3) := by decide +kernel
theorem dL_forwards_89 : decode cL_forwards 89 = .ok (.iload 4, 2) := by decide +kernel
theorem dL_forwards_91 : decode cL_forwards 91 = .ok (.ifCond .le 52, 3) := by decide +kernel
theorem dL_forwards_94 : decode cL_forwards 94 = .ok (.aload_n 0, 1) := by decide +kernel
theorem dL_forwards_95 : decode cL_forwards 95 = .ok (.invokevirtual 78, 3) := by decide +kernel
theorem dL_forwards_98 : decode cL_forwards 98 = .ok (.istore 5, 2) := by decide +kernel
theorem dL_forwards_100 : decode cL_forwards 100 = .ok (.aload_n 0, 1) := by decide +kernel
theorem dL_forwards_101 : decode cL_forwards 101 = .ok (.invokevirtual 81, 3) := by decide +kernel
theorem dL_forwards_104 : decode cL_forwards 104 = .ok (.ifCond .lt 37, 3) := by decide +kernel
theorem dL_forwards_107 : decode cL_forwards 107 = .ok (.aload_n 0, 1) := by decide +kernel
theorem dL_forwards_108 : decode cL_forwards 108 = .ok (.invokevirtual 78, 3) := by decide +kernel
theorem dL_forwards_111 : decode cL_forwards 111 = .ok (.iload 5, 2) := by decide +kernel
theorem dL_forwards_113 : decode cL_forwards 113 = .ok (.iconst 1, 1) := by decide +kernel
theorem dL_forwards_114 : decode cL_forwards 114 = .ok (.iadd, 1) := by decide +kernel
theorem dL_forwards_115 : decode cL_forwards 115 = .ok (.if_icmp .ne 26, 3) := by decide +kernel
theorem dL_forwards_118 : decode cL_forwards 118 = .ok (.aload_n 0, 1) := by decide +kernel
theorem dL_forwards_119 : decode cL_forwards 119 = .ok (.invokevirtual 69, 3) := by decide +kernel
theorem dL_forwards_122 : decode cL_forwards 122 = .ok (.iload 4, 2) := by decide +kernel
theorem dL_forwards_124 : decode cL_forwards 124 = .ok (.iconst 1, 1) := by decide +kernel
theorem dL_forwards_125 : decode cL_forwards 125 = .ok (.isub, 1) := by decide +kernel
theorem dL_forwards_126 : decode cL_forwards 126 = .ok (.if_icmp .ne 15, 3) := by decide +kernel
theorem dL_forwards_129 : decode cL_forwards 129 = .ok (.aload_n 0, 1) := by decide +kernel
theorem dL_forwards_130 : decode cL_forwards 130 = .ok (.invokevirtual 66, 3) := by decide +kernel
theorem dL_forwards_133 : decode cL_forwards 133 = .ok (.iload_n 3, 1) := by decide +kernel
theorem dL_forwards_134 : decode cL_forwards 134 = .ok (.if_icmp .ne 7, 3) := by decide +kernel
theorem dL_forwards_137 : decode cL_forwards 137 = .ok (.iconst 1, 1) := by decide +kernel
theorem dL_forwards_138 : decode cL_forwards 138 = .ok (.goto 4, 3) := by decide +kernel
theorem dL_forwards_141 : decode cL_forwards 141 = .ok (.iconst 0, 1) := by decide +kernel
theorem dL_forwards_142 : decode cL_forwards 142 = .ok (.ireturn, 1) := by decide +kernel
theorem dL_forwards_143 : decode cL_forwards 143 = .ok (.iload_n 3, 1) := by decide +kernel
theorem dL_forwards_144 : decode cL_forwards 144 = .ok (.ifCond .eq 37, 3) := by decide +kernel
theorem dL_forwards_147 : decode cL_forwards 147 = .ok (.iload 4, 2) := by decide +kernel
theorem dL_forwards_149 : decode cL_forwards 149 = .ok (.iconst 5, 1) := by decide +kernel
theorem dL_forwards_150 : decode cL_forwards 150 = .ok (.if_icmp .eq 31, 3) := by decide +kernel
theorem dL_forwards_153 : decode cL_forwards 153 = .ok (.aload_n 0, 1) := by decide +kernel
theorem dL_forwards_154 : decode cL_forwards 154 = .ok (.invokevirtual 84, 3) := by decide +kernel
theorem dL_forwards_157 : decode cL_forwards 157 = .ok (.ifCond .lt 28, 3) := by decide +kernel
theorem dL_forwards_160 : decode cL_forwards 160 = .ok (.aload_n 0, 1) := by decide +kernel
theorem dL_forwards_161 : decode cL_forwards 161 = .ok (.invokevirtual 69, 3) := by decide +kernel
theorem dL_forwards_164 : decode cL_forwards 164 = .ok (.iload 4, 2) := by decide +kernel
theorem dL_forwards_166 : decode cL_forwards 166 = .ok (.iconst 1, 1) := by decide +kernel
theorem dL_forwards_167 : decode cL_forwards 167 = .ok (.iadd, 1) := by decide +kernel
theorem dL_forwards_168 : decode cL_forwards 168 = .ok (.if_icmp .ne 17, 3) := by decide +kernel
theorem dL_forwards_171 : decode cL_forwards 171 = .ok (.aload_n 0, 1) := by decide +kernel
theorem dL_forwards_172 : decode cL_forwards 172 = .ok (.invokevirtual 66, 3) := by decide +kernel
theorem dL_forwards_175 : decode cL_forwards 175 = .ok (.iload_n 3, 1) := by decide +kernel
theorem dL_forwards_176 : decode cL_forwards 176 = .ok (.iconst 1, 1) := by decide +kernel
theorem dL_forwards_177 : decode cL_forwards 177 = .ok (.isub, 1) := by decide +kernel
theorem dL_forwards_178 : decode cL_forwards 178 = .ok (.if_icmp .ne 7, 3) := by decide +kernel
theorem dL_forwards_181 : decode cL_forwards 181 = .ok (.iconst 1, 1) := by decide +kernel
theorem dL_forwards_182 : decode cL_forwards 182 = .ok (.goto 4, 3) := by decide +kernel
theorem dL_forwards_185 : decode cL_forwards 185 = .ok (.iconst 0, 1) := by decide +kernel
theorem dL_forwards_186 : decode cL_forwards 186 = .ok (.ireturn, 1) := by decide +kernel
set_option maxRecDepth 20000 in
theorem ggL_comes_X5_tokens : GoodIn wsL_comes wsX5_tokens := goodIn_ca (goodIn_r _ [5, 6, 7, 8, 9, 4, 10, 11, 12, 13, 182, 183, 184, 185, 186, 187, 188, 189, 190, 191, 192, 193, 194, 195, 196, 197, 198, 199] (by decide +kernel) (by decide +kernel)) (goodIn_sub (fun _ h => List.mem_cons_of_mem _ (List.mem_append_left _ (List.mem_append_left _ (List.mem_append_right _ h)))) (by decide +kernel))
set_option maxRecDepth 20000 in
theorem gL_comes_X5_tokens : GoodIn wsL_comes (wsV RL 63 RX5 yX5_tokens wsX5_tokens) := goodIn_app (goodIn_of _ (by decide +kernel)) ggL_comes_X5_tokens
set_option maxRecDepth 20000 in
theorem ggL_comes_X5_repeats : GoodIn wsL_comes wsX5_repeats := goodIn_ca (goodIn_r _ [17, 18, 7, 8, 9, 4, 10, 11, 12, 13, 182, 183, 184, 185, 186, 187, 188, 189, 190, 191, 192, 193, 194, 195, 196, 197, 198, 199] (by decide +kernel) (by decide +kernel)) (goodIn_sub (fun _ h => List.mem_cons_of_mem _ (List.mem_append_left _ (List.mem_append_left _ (List.mem_append_right _ h)))) (by decide +kernel))
set_option maxRecDepth 20000 in
theorem gL_comes_X5_repeats : GoodIn wsL_comes (wsV RL 60 RX5 yX5_repeats wsX5_repeats) := goodIn_app (goodIn_of _ (by decide +kernel)) ggL_comes_X5_repeats
set_option maxRecDepth 20000 in
theorem ggL_comes_X5_drops : GoodIn wsL_comes wsX5_drops := goodIn_ca (goodIn_r _ [22, 23, 7, 8, 9, 4, 10, 11, 12, 13, 182, 183, 184, 185, 186, 187, 188, 189, 190, 191, 192, 193, 194, 195, 196, 197, 198, 199] (by decide +kernel) (by decide +kernel)) (goodIn_sub (fun _ h => List.mem_cons_of_mem _ (List.mem_append_left _ (List.mem_append_left _ (List.mem_append_right _ h)))) (by decide +kernel))
set_option maxRecDepth 20000 in
theorem gL_comes_X5_drops : GoodIn wsL_comes (wsV RL 87 RX5 yX5_drops wsX5_drops) := goodIn_app (goodIn_of _ (by decide +kernel)) ggL_comes_X5_drops
set_option maxRecDepth 20000 in
theorem ggL_comes_X5_message : GoodIn wsL_comes wsX5_message := goodIn_ca (goodIn_ca (goodIn_ca (goodIn_r _ [27, 28, 29, 30, 31, 32, 33, 34, 6, 23, 35, 7, 8, 9, 4, 10, 11, 12, 13, 36, 37, 38, 39, 40, 41, 42, 43, 44, 45, 46, 47, 48, 49, 50, 51, 52, 53, 54, 55, 56, 57, 58, 59, 60, 61, 62, 63, 64, 65, 66, 67, 68, 69, 18, 70, 71, 72, 73, 74, 75, 76, 77, 78, 79, 80, 81, 82, 83, 84, 85, 86, 87, 88, 89, 90, 91, 92, 93, 94, 95, 96, 97, 98, 99, 100, 101, 102, 103, 104, 105, 106, 107, 108, 109, 110, 111, 112, 113, 114, 115, 116, 117, 118, 119, 120, 121, 122, 123, 124, 125, 126, 127, 128, 129, 191, 192, 193, 194, 195, 196, 197, 198, 199, 182, 183, 184, 185, 186, 187, 188, 189, 190, 200, 201, 202, 203, 204, 205, 206, 207, 208, 209, 210, 211, 212, 213, 214, 215, 216, 217, 218, 219, 220, 221, 222, 223] (by decide +kernel) (by decide +kernel)) (goodIn_sub (fun _ h => List.mem_cons_of_mem _ (List.mem_append_left _ (List.mem_append_right _ h))) (by decide +kernel))) (goodIn_sub (fun _ h => List.mem_cons_of_mem _ (List.mem_append_right _ h)) (by decide +kernel))) (goodIn_sub (fun _ h => List.mem_cons_of_mem _ (List.mem_append_left _ (List.mem_append_left _ (List.mem_append_right _ h)))) (by decide +kernel))
set_option maxRecDepth 20000 in
theorem gL_comes_X5_message : GoodIn wsL_comes (wsV RL 90 RX5 yX5_message wsX5_message) := goodIn_app (goodIn_of _ (by decide +kernel)) ggL_comes_X5_message
set_option maxRecDepth 20000 in
theorem ggL_comes_X5_messages : GoodIn wsL_comes wsX5_messages := goodIn_r _ [133, 32, 35, 191, 192, 193, 194, 195, 196, 197, 198, 199, 200, 201, 202] (by decide +kernel) (by decide +kernel)
set_option maxRecDepth 20000 in
theorem gL_comes_X5_messages : GoodIn wsL_comes (wsV RL 93 RX5 yX5_messages wsX5_messages) := goodIn_app (goodIn_of _ (by decide +kernel)) ggL_comes_X5_messages
set_option maxRecDepth 20000 in
theorem ggL_comes_X5_fateOf : GoodIn wsL_comes wsX5_fateOf := goodIn_ca (goodIn_r _ [137, 11, 12, 32, 138, 139, 140, 42, 141, 44, 142, 143, 144, 145, 64, 191, 192, 193, 194, 195, 196, 197, 198, 199, 200, 201, 202] (by decide +kernel) (by decide +kernel)) (goodIn_sub (fun _ h => List.mem_cons_of_mem _ (List.mem_append_left _ (List.mem_append_left _ (List.mem_append_right _ h)))) (by decide +kernel))
set_option maxRecDepth 20000 in
theorem gL_comes_X5_fateOf : GoodIn wsL_comes (wsV RL 96 RX5 yX5_fateOf wsX5_fateOf) := goodIn_app (goodIn_of _ (by decide +kernel)) ggL_comes_X5_fateOf
set_option maxRecDepth 20000 in
theorem ggL_comes_X5_targetsOf : GoodIn wsL_comes wsX5_targetsOf := goodIn_ca (goodIn_r _ [149, 11, 12, 32, 138, 139, 140, 42, 141, 44, 150, 151, 152, 153, 65, 191, 192, 193, 194, 195, 196, 197, 198, 199, 200, 201, 202] (by decide +kernel) (by decide +kernel)) (goodIn_sub (fun _ h => List.mem_cons_of_mem _ (List.mem_append_left _ (List.mem_append_left _ (List.mem_append_right _ h)))) (by decide +kernel))
set_option maxRecDepth 20000 in
theorem gL_comes_X5_targetsOf : GoodIn wsL_comes (wsV RL 99 RX5 yX5_targetsOf wsX5_targetsOf) := goodIn_app (goodIn_of _ (by decide +kernel)) ggL_comes_X5_targetsOf
set_option maxRecDepth 20000 in
theorem ggL_comes_X5_lines : GoodIn wsL_comes wsX5_lines := goodIn_ca (goodIn_r _ [157, 11, 12, 158, 159, 160, 4, 161, 79, 162, 163, 164, 93, 165, 110, 166, 167, 168, 169, 98, 170, 171, 172, 173, 104, 191, 192, 193, 194, 195, 196, 197, 198, 199, 208, 209, 210, 211, 212, 213, 214, 215, 216, 217] (by decide +kernel) (by decide +kernel)) (goodIn_sub (fun _ h => List.mem_cons_of_mem _ (List.mem_append_left _ (List.mem_append_left _ (List.mem_append_right _ h)))) (by decide +kernel))
set_option maxRecDepth 20000 in
theorem gL_comes_X5_lines : GoodIn wsL_comes (wsV RL 40 RX5 yX5_lines wsX5_lines) := goodIn_app (goodIn_of _ (by decide +kernel)) ggL_comes_X5_lines
set_option maxRecDepth 20000 in
theorem ggL_comes_X5_line : GoodIn wsL_comes wsX5_line := goodIn_ca (goodIn_r _ [177, 11, 12, 158, 159, 160, 4, 161, 79, 162, 163, 164, 93, 165, 110, 166, 167, 168, 169, 98, 170, 171, 172, 173, 104, 36, 37, 38, 178, 179, 180, 181, 99, 191, 192, 193, 194, 195, 196, 197, 198, 199, 208, 209, 210, 211, 212, 213, 214, 215, 216, 217] (by decide +kernel) (by decide +kernel)) (goodIn_sub (fun _ h => List.mem_cons_of_mem _ (List.mem_append_left _ (List.mem_append_left _ (List.mem_append_right _ h)))) (by decide +kernel))
set_option maxRecDepth 20000 in
theorem gL_comes_X5_line : GoodIn wsL_comes (wsV RL 102 RX5 yX5_line wsX5_line) := goodIn_app (goodIn_of _ (by decide +kernel)) ggL_comes_X5_line
theorem dL_comes_0 : decode cL_comes 0 = .ok (.aload_n 0, 1) := by decide +kernel
theorem dL_comes_1 : decode cL_comes 1 = .ok (.iload_n 3, 1) := by decide +kernel
theorem dL_comes_2 : decode cL_comes 2 = .ok (.invokevirtual 63, 3) := by decide +kernel
theorem dL_comes_5 : decode cL_comes 5 = .ok (.istore 8, 2) := by decide +kernel
theorem dL_comes_7 : decode cL_comes 7 = .ok (.aload_n 0, 1) := by decide +kernel
theorem dL_comes_8 : decode cL_comes 8 = .ok (.iload_n 3, 1) := by decide +kernel
theorem dL_comes_9 : decode cL_comes 9 = .ok (.invokevirtual 60, 3) := by decide +kernel
theorem dL_comes_12 : decode cL_comes 12 = .ok (.istore 9, 2) := by decide +kernel
theorem dL_comes_14 : decode cL_comes 14 = .ok (.aload_n 0, 1) := by decide +kernel
theorem dL_comes_15 : decode cL_comes 15 = .ok (.iload_n 3, 1) := by decide +kernel
theorem dL_comes_16 : decode cL_comes 16 = .ok (.invokevirtual 87, 3) := by decide +kernel
theorem dL_comes_19 : decode cL_comes 19 = .ok (.istore 10, 2) := by decide +kernel
theorem dL_comes_21 : decode cL_comes 21 = .ok (.aload_n 2, 1) := by decide +kernel
theorem dL_comes_22 : decode cL_comes 22 = .ok (.iconst 0, 1) := by decide +kernel
theorem dL_comes_23 : decode cL_comes 23 = .ok (.iaload, 1) := by decide +kernel
theorem dL_comes_24 : decode cL_comes 24 = .ok (.istore 11, 2) := by decide +kernel
theorem dL_comes_26 : decode cL_comes 26 = .ok (.aload_n 1, 1) := by decide +kernel
theorem dL_comes_27 : decode cL_comes 27 = .ok (.iload 11, 2) := by decide +kernel
theorem dL_comes_29 : decode cL_comes 29 = .ok (.iload 7, 2) := by decide +kernel
theorem dL_comes_31 : decode cL_comes 31 = .ok (.iastore, 1) := by decide +kernel
theorem dL_comes_32 : decode cL_comes 32 = .ok (.aload_n 2, 1) := by decide +kernel
theorem dL_comes_33 : decode cL_comes 33 = .ok (.iconst 0, 1) := by decide +kernel
theorem dL_comes_34 : decode cL_comes 34 = .ok (.dup2, 1) := by decide +kernel
theorem dL_comes_35 : decode cL_comes 35 = .ok (.iaload, 1) := by decide +kernel
theorem dL_comes_36 : decode cL_comes 36 = .ok (.iconst 1, 1) := by decide +kernel
theorem dL_comes_37 : decode cL_comes 37 = .ok (.iadd, 1) := by decide +kernel
theorem dL_comes_38 : decode cL_comes 38 = .ok (.iastore, 1) := by decide +kernel
theorem dL_comes_39 : decode cL_comes 39 = .ok (.aload_n 0, 1) := by decide +kernel
theorem dL_comes_40 : decode cL_comes 40 = .ok (.iload_n 3, 1) := by decide +kernel
theorem dL_comes_41 : decode cL_comes 41 = .ok (.iload 4, 2) := by decide +kernel
theorem dL_comes_43 : decode cL_comes 43 = .ok (.iload 5, 2) := by decide +kernel
theorem dL_comes_45 : decode cL_comes 45 = .ok (.iload 6, 2) := by decide +kernel
theorem dL_comes_47 : decode cL_comes 47 = .ok (.iload 7, 2) := by decide +kernel
theorem dL_comes_49 : decode cL_comes 49 = .ok (.invokevirtual 90, 3) := by decide +kernel
theorem dL_comes_52 : decode cL_comes 52 = .ok (.istore 12, 2) := by decide +kernel
theorem dL_comes_54 : decode cL_comes 54 = .ok (.aload_n 0, 1) := by decide +kernel
theorem dL_comes_55 : decode cL_comes 55 = .ok (.invokevirtual 93, 3) := by decide +kernel
theorem dL_comes_58 : decode cL_comes 58 = .ok (.iload 11, 2) := by decide +kernel
theorem dL_comes_60 : decode cL_comes 60 = .ok (.iconst 1, 1) := by decide +kernel
theorem dL_comes_61 : decode cL_comes 61 = .ok (.iadd, 1) := by decide +kernel
theorem dL_comes_62 : decode cL_comes 62 = .ok (.if_icmp .ne 46, 3) := by decide +kernel
theorem dL_comes_65 : decode cL_comes 65 = .ok (.aload_n 0, 1) := by decide +kernel
theorem dL_comes_66 : decode cL_comes 66 = .ok (.iload 11, 2) := by decide +kernel
theorem dL_comes_68 : decode cL_comes 68 = .ok (.invokevirtual 96, 3) := by decide +kernel
theorem dL_comes_71 : decode cL_comes 71 = .ok (.iload 12, 2) := by decide +kernel
theorem dL_comes_73 : decode cL_comes 73 = .ok (.if_icmp .ne 35, 3) := by decide +kernel
theorem dL_comes_76 : decode cL_comes 76 = .ok (.iload 12, 2) := by decide +kernel
theorem dL_comes_78 : decode cL_comes 78 = .ok (.iconst 3, 1) := by decide +kernel
theorem dL_comes_79 : decode cL_comes 79 = .ok (.if_icmp .ne 7, 3) := by decide +kernel
theorem dL_comes_82 : decode cL_comes 82 = .ok (.iconst 1, 1) := by decide +kernel
theorem dL_comes_83 : decode cL_comes 83 = .ok (.goto 4, 3) := by decide +kernel
theorem dL_comes_86 : decode cL_comes 86 = .ok (.iconst 0, 1) := by decide +kernel
theorem dL_comes_87 : decode cL_comes 87 = .ok (.aload_n 0, 1) := by decide +kernel
theorem dL_comes_88 : decode cL_comes 88 = .ok (.iload 11, 2) := by decide +kernel
theorem dL_comes_90 : decode cL_comes 90 = .ok (.invokevirtual 99, 3) := by decide +kernel
theorem dL_comes_93 : decode cL_comes 93 = .ok (.ifCond .eq 7, 3) := by decide +kernel
theorem dL_comes_96 : decode cL_comes 96 = .ok (.iconst 1, 1) := by decide +kernel
theorem dL_comes_97 : decode cL_comes 97 = .ok (.goto 4, 3) := by decide +kernel
theorem dL_comes_100 : decode cL_comes 100 = .ok (.iconst 0, 1) := by decide +kernel
theorem dL_comes_101 : decode cL_comes 101 = .ok (.if_icmp .ne 7, 3) := by decide +kernel
theorem dL_comes_104 : decode cL_comes 104 = .ok (.iconst 1, 1) := by decide +kernel
theorem dL_comes_105 : decode cL_comes 105 = .ok (.goto 4, 3) := by decide +kernel
theorem dL_comes_108 : decode cL_comes 108 = .ok (.iconst 0, 1) := by decide +kernel
theorem dL_comes_109 : decode cL_comes 109 = .ok (.istore 13, 2) := by decide +kernel
theorem dL_comes_111 : decode cL_comes 111 = .ok (.iload 12, 2) := by decide +kernel
theorem dL_comes_113 : decode cL_comes 113 = .ok (.ifCond .ne 52, 3) := by decide +kernel
theorem dL_comes_116 : decode cL_comes 116 = .ok (.iload 13, 2) := by decide +kernel
theorem dL_comes_118 : decode cL_comes 118 = .ok (.ifCond .eq 45, 3) := by decide +kernel
theorem dL_comes_121 : decode cL_comes 121 = .ok (.aload_n 2, 1) := by decide +kernel
theorem dL_comes_122 : decode cL_comes 122 = .ok (.iconst 4, 1) := by decide +kernel
theorem dL_comes_123 : decode cL_comes 123 = .ok (.iaload, 1) := by decide +kernel
theorem dL_comes_124 : decode cL_comes 124 = .ok (.ifCond .le 39, 3) := by decide +kernel
theorem dL_comes_127 : decode cL_comes 127 = .ok (.aload_n 0, 1) := by decide +kernel
theorem dL_comes_128 : decode cL_comes 128 = .ok (.iload_n 3, 1) := by decide +kernel
theorem dL_comes_129 : decode cL_comes 129 = .ok (.invokevirtual 60, 3) := by decide +kernel
theorem dL_comes_132 : decode cL_comes 132 = .ok (.iload 9, 2) := by decide +kernel
theorem dL_comes_134 : decode cL_comes 134 = .ok (.iconst 1, 1) := by decide +kernel
theorem dL_comes_135 : decode cL_comes 135 = .ok (.iadd, 1) := by decide +kernel
theorem dL_comes_136 : decode cL_comes 136 = .ok (.if_icmp .ne 27, 3) := by decide +kernel
theorem dL_comes_139 : decode cL_comes 139 = .ok (.aload_n 0, 1) := by decide +kernel
theorem dL_comes_140 : decode cL_comes 140 = .ok (.iload_n 3, 1) := by decide +kernel
theorem dL_comes_141 : decode cL_comes 141 = .ok (.invokevirtual 63, 3) := by decide +kernel
theorem dL_comes_144 : decode cL_comes 144 = .ok (.iload 8, 2) := by decide +kernel
theorem dL_comes_146 : decode cL_comes 146 = .ok (.if_icmp .ne 17, 3) := by decide +kernel
theorem dL_comes_149 : decode cL_comes 149 = .ok (.aload_n 0, 1) := by decide +kernel
theorem dL_comes_150 : decode cL_comes 150 = .ok (.iload_n 3, 1) := by decide +kernel
theorem dL_comes_151 : decode cL_comes 151 = .ok (.invokevirtual 87, 3) := by decide +kernel
theorem dL_comes_154 : decode cL_comes 154 = .ok (.iload 10, 2) := by decide +kernel
theorem dL_comes_156 : decode cL_comes 156 = .ok (.if_icmp .ne 7, 3) := by decide +kernel
theorem dL_comes_159 : decode cL_comes 159 = .ok (.iconst 1, 1) := by decide +kernel
theorem dL_comes_160 : decode cL_comes 160 = .ok (.goto 4, 3) := by decide +kernel
theorem dL_comes_163 : decode cL_comes 163 = .ok (.iconst 0, 1) := by decide +kernel
theorem dL_comes_164 : decode cL_comes 164 = .ok (.ireturn, 1) := by decide +kernel
theorem dL_comes_165 : decode cL_comes 165 = .ok (.iload 13, 2) := by decide +kernel
theorem dL_comes_167 : decode cL_comes 167 = .ok (.ifCond .eq 15, 3) := by decide +kernel
theorem dL_comes_170 : decode cL_comes 170 = .ok (.aload_n 0, 1) := by decide +kernel
theorem dL_comes_171 : decode cL_comes 171 = .ok (.iload_n 3, 1) := by decide +kernel
theorem dL_comes_172 : decode cL_comes 172 = .ok (.invokevirtual 60, 3) := by decide +kernel
theorem dL_comes_175 : decode cL_comes 175 = .ok (.ifCond .ne 7, 3) := by decide +kernel
theorem dL_comes_178 : decode cL_comes 178 = .ok (.iconst 1, 1) := by decide +kernel
theorem dL_comes_179 : decode cL_comes 179 = .ok (.goto 4, 3) := by decide +kernel
theorem dL_comes_182 : decode cL_comes 182 = .ok (.iconst 0, 1) := by decide +kernel
theorem dL_comes_183 : decode cL_comes 183 = .ok (.istore 13, 2) := by decide +kernel
theorem dL_comes_185 : decode cL_comes 185 = .ok (.iload 12, 2) := by decide +kernel
theorem dL_comes_187 : decode cL_comes 187 = .ok (.iconst 1, 1) := by decide +kernel
theorem dL_comes_188 : decode cL_comes 188 = .ok (.if_icmp .ne 39, 3) := by decide +kernel
theorem dL_comes_191 : decode cL_comes 191 = .ok (.iload 13, 2) := by decide +kernel
theorem dL_comes_193 : decode cL_comes 193 = .ok (.ifCond .eq 32, 3) := by decide +kernel
theorem dL_comes_196 : decode cL_comes 196 = .ok (.iload 8, 2) := by decide +kernel
theorem dL_comes_198 : decode cL_comes 198 = .ok (.ifCond .ne 27, 3) := by decide +kernel
theorem dL_comes_201 : decode cL_comes 201 = .ok (.aload_n 0, 1) := by decide +kernel
theorem dL_comes_202 : decode cL_comes 202 = .ok (.iload_n 3, 1) := by decide +kernel
theorem dL_comes_203 : decode cL_comes 203 = .ok (.invokevirtual 63, 3) := by decide +kernel
theorem dL_comes_206 : decode cL_comes 206 = .ok (.ifCond .ne 19, 3) := by decide +kernel
theorem dL_comes_209 : decode cL_comes 209 = .ok (.aload_n 0, 1) := by decide +kernel
theorem dL_comes_210 : decode cL_comes 210 = .ok (.iload_n 3, 1) := by decide +kernel
theorem dL_comes_211 : decode cL_comes 211 = .ok (.invokevirtual 87, 3) := by decide +kernel
theorem dL_comes_214 : decode cL_comes 214 = .ok (.iload 10, 2) := by decide +kernel
theorem dL_comes_216 : decode cL_comes 216 = .ok (.iconst 1, 1) := by decide +kernel
theorem dL_comes_217 : decode cL_comes 217 = .ok (.iadd, 1) := by decide +kernel
theorem dL_comes_218 : decode cL_comes 218 = .ok (.if_icmp .ne 7, 3) := by decide +kernel
theorem dL_comes_221 : decode cL_comes 221 = .ok (.iconst 1, 1) := by decide +kernel
theorem dL_comes_222 : decode cL_comes 222 = .ok (.goto 4, 3) := by decide +kernel
theorem dL_comes_225 : decode cL_comes 225 = .ok (.iconst 0, 1) := by decide +kernel
theorem dL_comes_226 : decode cL_comes 226 = .ok (.ireturn, 1) := by decide +kernel
theorem dL_comes_227 : decode cL_comes 227 = .ok (.iconst 0, 1) := by decide +kernel
theorem dL_comes_228 : decode cL_comes 228 = .ok (.istore 14, 2) := by decide +kernel
theorem dL_comes_230 : decode cL_comes 230 = .ok (.iload 14, 2) := by decide +kernel
theorem dL_comes_232 : decode cL_comes 232 = .ok (.iconst 4, 1) := by decide +kernel
theorem dL_comes_233 : decode cL_comes 233 = .ok (.if_icmp .ge 56, 3) := by decide +kernel
theorem dL_comes_236 : decode cL_comes 236 = .ok (.iload 13, 2) := by decide +kernel
theorem dL_comes_238 : decode cL_comes 238 = .ok (.ifCond .eq 42, 3) := by decide +kernel
theorem dL_comes_241 : decode cL_comes 241 = .ok (.aload_n 0, 1) := by decide +kernel
theorem dL_comes_242 : decode cL_comes 242 = .ok (.iload 11, 2) := by decide +kernel
theorem dL_comes_244 : decode cL_comes 244 = .ok (.invokevirtual 99, 3) := by decide +kernel
theorem dL_comes_247 : decode cL_comes 247 = .ok (.iload 14, 2) := by decide +kernel
theorem dL_comes_249 : decode cL_comes 249 = .ok (.ishr, 1) := by decide +kernel
theorem dL_comes_250 : decode cL_comes 250 = .ok (.iconst 1, 1) := by decide +kernel
theorem dL_comes_251 : decode cL_comes 251 = .ok (.iand, 1) := by decide +kernel
theorem dL_comes_252 : decode cL_comes 252 = .ok (.ifCond .eq 24, 3) := by decide +kernel
theorem dL_comes_255 : decode cL_comes 255 = .ok (.aload_n 0, 1) := by decide +kernel
theorem dL_comes_256 : decode cL_comes 256 = .ok (.iload 14, 2) := by decide +kernel
theorem dL_comes_258 : decode cL_comes 258 = .ok (.iconst (-1), 1) := by decide +kernel
theorem dL_comes_259 : decode cL_comes 259 = .ok (.aload_n 0, 1) := by decide +kernel
theorem dL_comes_260 : decode cL_comes 260 = .ok (.iload 14, 2) := by decide +kernel
theorem dL_comes_262 : decode cL_comes 262 = .ok (.iconst (-1), 1) := by decide +kernel
theorem dL_comes_263 : decode cL_comes 263 = .ok (.invokevirtual 40, 3) := by decide +kernel
theorem dL_comes_266 : decode cL_comes 266 = .ok (.iconst 1, 1) := by decide +kernel
theorem dL_comes_267 : decode cL_comes 267 = .ok (.isub, 1) := by decide +kernel
theorem dL_comes_268 : decode cL_comes 268 = .ok (.invokevirtual 102, 3) := by decide +kernel
theorem dL_comes_271 : decode cL_comes 271 = .ok (.iload 11, 2) := by decide +kernel
theorem dL_comes_273 : decode cL_comes 273 = .ok (.if_icmp .ne 7, 3) := by decide +kernel
theorem dL_comes_276 : decode cL_comes 276 = .ok (.iconst 1, 1) := by decide +kernel
theorem dL_comes_277 : decode cL_comes 277 = .ok (.goto 4, 3) := by decide +kernel
theorem dL_comes_280 : decode cL_comes 280 = .ok (.iconst 0, 1) := by decide +kernel
theorem dL_comes_281 : decode cL_comes 281 = .ok (.istore 13, 2) := by decide +kernel
theorem dL_comes_283 : decode cL_comes 283 = .ok (.iinc 14 1, 3) := by decide +kernel
theorem dL_comes_286 : decode cL_comes 286 = .ok (.goto (-56), 3) := by decide +kernel
theorem dL_comes_289 : decode cL_comes 289 = .ok (.iload 13, 2) := by decide +kernel
theorem dL_comes_291 : decode cL_comes 291 = .ok (.ifCond .eq 32, 3) := by decide +kernel
theorem dL_comes_294 : decode cL_comes 294 = .ok (.iload 8, 2) := by decide +kernel
theorem dL_comes_296 : decode cL_comes 296 = .ok (.ifCond .le 27, 3) := by decide +kernel
theorem dL_comes_299 : decode cL_comes 299 = .ok (.aload_n 0, 1) := by decide +kernel
theorem dL_comes_300 : decode cL_comes 300 = .ok (.iload_n 3, 1) := by decide +kernel
theorem dL_comes_301 : decode cL_comes 301 = .ok (.invokevirtual 63, 3) := by decide +kernel
theorem dL_comes_304 : decode cL_comes 304 = .ok (.iload 8, 2) := by decide +kernel
theorem dL_comes_306 : decode cL_comes 306 = .ok (.iconst 1, 1) := by decide +kernel
theorem dL_comes_307 : decode cL_comes 307 = .ok (.isub, 1) := by decide +kernel
theorem dL_comes_308 : decode cL_comes 308 = .ok (.if_icmp .ne 15, 3) := by decide +kernel
theorem dL_comes_311 : decode cL_comes 311 = .ok (.aload_n 0, 1) := by decide +kernel
theorem dL_comes_312 : decode cL_comes 312 = .ok (.iload_n 3, 1) := by decide +kernel
theorem dL_comes_313 : decode cL_comes 313 = .ok (.invokevirtual 87, 3) := by decide +kernel
theorem dL_comes_316 : decode cL_comes 316 = .ok (.ifCond .ne 7, 3) := by decide +kernel
theorem dL_comes_319 : decode cL_comes 319 = .ok (.iconst 1, 1) := by decide +kernel
theorem dL_comes_320 : decode cL_comes 320 = .ok (.goto 4, 3) := by decide +kernel
theorem dL_comes_323 : decode cL_comes 323 = .ok (.iconst 0, 1) := by decide +kernel
theorem dL_comes_324 : decode cL_comes 324 = .ok (.ireturn, 1) := by decide +kernel
set_option maxRecDepth 20000 in
theorem ggL_areFiles_X5_lines : GoodIn wsL_areFiles wsX5_lines := goodIn_ca (goodIn_r _ [6, 7, 8, 9, 10, 11, 5, 12, 13, 14, 15, 16, 17, 18, 19, 20, 21, 22, 23, 24, 25, 26, 27, 28, 29, 68, 69, 70, 71, 72, 73, 74, 75, 76, 77, 78, 79, 80, 81, 82, 83, 84, 85, 86] (by decide +kernel) (by decide +kernel)) (goodIn_sub (fun _ h => List.mem_cons_of_mem _ (List.mem_append_right _ h)) (by decide +kernel))
set_option maxRecDepth 20000 in
theorem gL_areFiles_X5_lines : GoodIn wsL_areFiles (wsV RL 40 RX5 yX5_lines wsX5_lines) := goodIn_app (goodIn_of _ (by decide +kernel)) ggL_areFiles_X5_lines
set_option maxRecDepth 20000 in
theorem ggL_areFiles_X5_line : GoodIn wsL_areFiles wsX5_line := goodIn_ca (goodIn_r _ [33, 7, 8, 9, 10, 11, 5, 12, 13, 14, 15, 16, 17, 18, 19, 20, 21, 22, 23, 24, 25, 26, 27, 28, 29, 34, 35, 36, 37, 38, 39, 40, 41, 68, 69, 70, 71, 72, 73, 74, 75, 76, 77, 78, 79, 80, 81, 82, 83, 84, 85, 86] (by decide +kernel) (by decide +kernel)) (goodIn_sub (fun _ h => List.mem_cons_of_mem _ (List.mem_append_right _ h)) (by decide +kernel))
set_option maxRecDepth 20000 in
theorem gL_areFiles_X5_line : GoodIn wsL_areFiles (wsV RL 102 RX5 yX5_line wsX5_line) := goodIn_app (goodIn_of _ (by decide +kernel)) ggL_areFiles_X5_line
set_option maxRecDepth 20000 in
theorem ggL_areFiles_X5_size : GoodIn wsL_areFiles wsX5_size := goodIn_ca (goodIn_r _ [45, 46, 9, 10, 11, 5, 12, 7, 8, 13, 77, 78, 79, 80, 81, 82, 83, 84, 85, 86, 68, 69, 70, 71, 72, 73, 74, 75, 76] (by decide +kernel) (by decide +kernel)) (goodIn_sub (fun _ h => List.mem_cons_of_mem _ (List.mem_append_right _ h)) (by decide +kernel))
set_option maxRecDepth 20000 in
theorem gL_areFiles_X5_size : GoodIn wsL_areFiles (wsV RL 28 RX5 yX5_size wsX5_size) := goodIn_app (goodIn_of _ (by decide +kernel)) ggL_areFiles_X5_size
set_option maxRecDepth 20000 in
theorem ggL_areFiles_X5_generations : GoodIn wsL_areFiles wsX5_generations := goodIn_ca (goodIn_r _ [50, 51, 9, 10, 11, 5, 12, 7, 8, 13, 77, 78, 79, 80, 81, 82, 83, 84, 85, 86, 68, 69, 70, 71, 72, 73, 74, 75, 76] (by decide +kernel) (by decide +kernel)) (goodIn_sub (fun _ h => List.mem_cons_of_mem _ (List.mem_append_right _ h)) (by decide +kernel))
set_option maxRecDepth 20000 in
theorem gL_areFiles_X5_generations : GoodIn wsL_areFiles (wsV RL 31 RX5 yX5_generations wsX5_generations) := goodIn_app (goodIn_of _ (by decide +kernel)) ggL_areFiles_X5_generations
set_option maxRecDepth 20000 in
theorem ggL_areFiles_X5_targetsOf : GoodIn wsL_areFiles wsX5_targetsOf := goodIn_ca (goodIn_r _ [55, 7, 8, 56, 57, 58, 59, 60, 61, 62, 63, 64, 65, 66, 67, 68, 69, 70, 71, 72, 73, 74, 75, 76, 87, 88, 89] (by decide +kernel) (by decide +kernel)) (goodIn_sub (fun _ h => List.mem_cons_of_mem _ (List.mem_append_right _ h)) (by decide +kernel))
set_option maxRecDepth 20000 in
theorem gL_areFiles_X5_targetsOf : GoodIn wsL_areFiles (wsV RL 99 RX5 yX5_targetsOf wsX5_targetsOf) := goodIn_app (goodIn_of _ (by decide +kernel)) ggL_areFiles_X5_targetsOf
theorem dL_areFiles_0 : decode cL_areFiles 0 = .ok (.iconst 1, 1) := by decide +kernel
theorem dL_areFiles_1 : decode cL_areFiles 1 = .ok (.istore_n 3, 1) := by decide +kernel
theorem dL_areFiles_2 : decode cL_areFiles 2 = .ok (.iconst 0, 1) := by decide +kernel
theorem dL_areFiles_3 : decode cL_areFiles 3 = .ok (.istore 4, 2) := by decide +kernel
theorem dL_areFiles_5 : decode cL_areFiles 5 = .ok (.iload 4, 2) := by decide +kernel
theorem dL_areFiles_7 : decode cL_areFiles 7 = .ok (.iconst 4, 1) := by decide +kernel
theorem dL_areFiles_8 : decode cL_areFiles 8 = .ok (.if_icmp .ge 269, 3) := by decide +kernel
theorem dL_areFiles_11 : decode cL_areFiles 11 = .ok (.iload_n 3, 1) := by decide +kernel
theorem dL_areFiles_12 : decode cL_areFiles 12 = .ok (.ifCond .eq 265, 3) := by decide +kernel
theorem dL_areFiles_15 : decode cL_areFiles 15 = .ok (.iconst 0, 1) := by decide +kernel
theorem dL_areFiles_16 : decode cL_areFiles 16 = .ok (.istore 5, 2) := by decide +kernel
theorem dL_areFiles_18 : decode cL_areFiles 18 = .ok (.aload_n 0, 1) := by decide +kernel
theorem dL_areFiles_19 : decode cL_areFiles 19 = .ok (.iload 4, 2) := by decide +kernel
theorem dL_areFiles_21 : decode cL_areFiles 21 = .ok (.iconst (-1), 1) := by decide +kernel
theorem dL_areFiles_22 : decode cL_areFiles 22 = .ok (.invokevirtual 40, 3) := by decide +kernel
theorem dL_areFiles_25 : decode cL_areFiles 25 = .ok (.istore 6, 2) := by decide +kernel
theorem dL_areFiles_27 : decode cL_areFiles 27 = .ok (.iconst 0, 1) := by decide +kernel
theorem dL_areFiles_28 : decode cL_areFiles 28 = .ok (.istore 7, 2) := by decide +kernel
theorem dL_areFiles_30 : decode cL_areFiles 30 = .ok (.iload 7, 2) := by decide +kernel
theorem dL_areFiles_32 : decode cL_areFiles 32 = .ok (.iload 6, 2) := by decide +kernel
theorem dL_areFiles_34 : decode cL_areFiles 34 = .ok (.if_icmp .ge 54, 3) := by decide +kernel
theorem dL_areFiles_37 : decode cL_areFiles 37 = .ok (.aload_n 0, 1) := by decide +kernel
theorem dL_areFiles_38 : decode cL_areFiles 38 = .ok (.iload 4, 2) := by decide +kernel
theorem dL_areFiles_40 : decode cL_areFiles 40 = .ok (.iconst (-1), 1) := by decide +kernel
theorem dL_areFiles_41 : decode cL_areFiles 41 = .ok (.iload 7, 2) := by decide +kernel
theorem dL_areFiles_43 : decode cL_areFiles 43 = .ok (.invokevirtual 102, 3) := by decide +kernel
theorem dL_areFiles_46 : decode cL_areFiles 46 = .ok (.istore 8, 2) := by decide +kernel
theorem dL_areFiles_48 : decode cL_areFiles 48 = .ok (.iload 5, 2) := by decide +kernel
theorem dL_areFiles_50 : decode cL_areFiles 50 = .ok (.iload 8, 2) := by decide +kernel
theorem dL_areFiles_52 : decode cL_areFiles 52 = .ok (.ldc 106, 2) := by decide +kernel
theorem dL_areFiles_54 : decode cL_areFiles 54 = .ok (.if_icmp .lt 8, 3) := by decide +kernel
theorem dL_areFiles_57 : decode cL_areFiles 57 = .ok (.bipush 20, 2) := by decide +kernel
theorem dL_areFiles_59 : decode cL_areFiles 59 = .ok (.goto 20, 3) := by decide +kernel
theorem dL_areFiles_62 : decode cL_areFiles 62 = .ok (.iload 8, 2) := by decide +kernel
theorem dL_areFiles_64 : decode cL_areFiles 64 = .ok (.sipush 10000, 3) := by decide +kernel
theorem dL_areFiles_67 : decode cL_areFiles 67 = .ok (.if_icmp .lt 8, 3) := by decide +kernel
theorem dL_areFiles_70 : decode cL_areFiles 70 = .ok (.bipush 15, 2) := by decide +kernel
theorem dL_areFiles_72 : decode cL_areFiles 72 = .ok (.goto 7, 3) := by decide +kernel
theorem dL_areFiles_75 : decode cL_areFiles 75 = .ok (.aload_n 1, 1) := by decide +kernel
theorem dL_areFiles_76 : decode cL_areFiles 76 = .ok (.iload 8, 2) := by decide +kernel
theorem dL_areFiles_78 : decode cL_areFiles 78 = .ok (.iaload, 1) := by decide +kernel
theorem dL_areFiles_79 : decode cL_areFiles 79 = .ok (.iadd, 1) := by decide +kernel
theorem dL_areFiles_80 : decode cL_areFiles 80 = .ok (.istore 5, 2) := by decide +kernel
theorem dL_areFiles_82 : decode cL_areFiles 82 = .ok (.iinc 7 1, 3) := by decide +kernel
theorem dL_areFiles_85 : decode cL_areFiles 85 = .ok (.goto (-55), 3) := by decide +kernel
theorem dL_areFiles_88 : decode cL_areFiles 88 = .ok (.aload_n 0, 1) := by decide +kernel
theorem dL_areFiles_89 : decode cL_areFiles 89 = .ok (.iload 4, 2) := by decide +kernel
theorem dL_areFiles_91 : decode cL_areFiles 91 = .ok (.invokevirtual 28, 3) := by decide +kernel
theorem dL_areFiles_94 : decode cL_areFiles 94 = .ok (.iload 5, 2) := by decide +kernel
theorem dL_areFiles_96 : decode cL_areFiles 96 = .ok (.if_icmp .ne 32, 3) := by decide +kernel
theorem dL_areFiles_99 : decode cL_areFiles 99 = .ok (.aload_n 0, 1) := by decide +kernel
theorem dL_areFiles_100 : decode cL_areFiles 100 = .ok (.iload 4, 2) := by decide +kernel
theorem dL_areFiles_102 : decode cL_areFiles 102 = .ok (.invokevirtual 31, 3) := by decide +kernel
theorem dL_areFiles_105 : decode cL_areFiles 105 = .ok (.ifCond .lt 23, 3) := by decide +kernel
theorem dL_areFiles_108 : decode cL_areFiles 108 = .ok (.aload_n 0, 1) := by decide +kernel
theorem dL_areFiles_109 : decode cL_areFiles 109 = .ok (.iload 4, 2) := by decide +kernel
theorem dL_areFiles_111 : decode cL_areFiles 111 = .ok (.invokevirtual 31, 3) := by decide +kernel
theorem dL_areFiles_114 : decode cL_areFiles 114 = .ok (.aload_n 2, 1) := by decide +kernel
theorem dL_areFiles_115 : decode cL_areFiles 115 = .ok (.bipush 6, 2) := by decide +kernel
theorem dL_areFiles_117 : decode cL_areFiles 117 = .ok (.iload 4, 2) := by decide +kernel
theorem dL_areFiles_119 : decode cL_areFiles 119 = .ok (.iadd, 1) := by decide +kernel
theorem dL_areFiles_120 : decode cL_areFiles 120 = .ok (.iaload, 1) := by decide +kernel
theorem dL_areFiles_121 : decode cL_areFiles 121 = .ok (.if_icmp .gt 7, 3) := by decide +kernel
theorem dL_areFiles_124 : decode cL_areFiles 124 = .ok (.iconst 1, 1) := by decide +kernel
theorem dL_areFiles_125 : decode cL_areFiles 125 = .ok (.goto 4, 3) := by decide +kernel
theorem dL_areFiles_128 : decode cL_areFiles 128 = .ok (.iconst 0, 1) := by decide +kernel
theorem dL_areFiles_129 : decode cL_areFiles 129 = .ok (.istore_n 3, 1) := by decide +kernel
theorem dL_areFiles_130 : decode cL_areFiles 130 = .ok (.iconst (-1), 1) := by decide +kernel
theorem dL_areFiles_131 : decode cL_areFiles 131 = .ok (.istore 7, 2) := by decide +kernel
theorem dL_areFiles_133 : decode cL_areFiles 133 = .ok (.aload_n 0, 1) := by decide +kernel
theorem dL_areFiles_134 : decode cL_areFiles 134 = .ok (.iload 4, 2) := by decide +kernel
theorem dL_areFiles_136 : decode cL_areFiles 136 = .ok (.invokevirtual 31, 3) := by decide +kernel
theorem dL_areFiles_139 : decode cL_areFiles 139 = .ok (.iconst 1, 1) := by decide +kernel
theorem dL_areFiles_140 : decode cL_areFiles 140 = .ok (.isub, 1) := by decide +kernel
theorem dL_areFiles_141 : decode cL_areFiles 141 = .ok (.istore 8, 2) := by decide +kernel
theorem dL_areFiles_143 : decode cL_areFiles 143 = .ok (.iload 8, 2) := by decide +kernel
theorem dL_areFiles_145 : decode cL_areFiles 145 = .ok (.iconst (-1), 1) := by decide +kernel
theorem dL_areFiles_146 : decode cL_areFiles 146 = .ok (.if_icmp .lt 125, 3) := by decide +kernel
theorem dL_areFiles_149 : decode cL_areFiles 149 = .ok (.iload_n 3, 1) := by decide +kernel
theorem dL_areFiles_150 : decode cL_areFiles 150 = .ok (.ifCond .eq 121, 3) := by decide +kernel
theorem dL_areFiles_153 : decode cL_areFiles 153 = .ok (.aload_n 0, 1) := by decide +kernel
theorem dL_areFiles_154 : decode cL_areFiles 154 = .ok (.iload 4, 2) := by decide +kernel
theorem dL_areFiles_156 : decode cL_areFiles 156 = .ok (.iload 8, 2) := by decide +kernel
theorem dL_areFiles_158 : decode cL_areFiles 158 = .ok (.invokevirtual 40, 3) := by decide +kernel
theorem dL_areFiles_161 : decode cL_areFiles 161 = .ok (.istore 9, 2) := by decide +kernel
theorem dL_areFiles_163 : decode cL_areFiles 163 = .ok (.iload 9, 2) := by decide +kernel
theorem dL_areFiles_165 : decode cL_areFiles 165 = .ok (.ifCond .gt 9, 3) := by decide +kernel
theorem dL_areFiles_168 : decode cL_areFiles 168 = .ok (.iload 8, 2) := by decide +kernel
theorem dL_areFiles_170 : decode cL_areFiles 170 = .ok (.iconst (-1), 1) := by decide +kernel
theorem dL_areFiles_171 : decode cL_areFiles 171 = .ok (.if_icmp .ne 7, 3) := by decide +kernel
theorem dL_areFiles_174 : decode cL_areFiles 174 = .ok (.iconst 1, 1) := by decide +kernel
theorem dL_areFiles_175 : decode cL_areFiles 175 = .ok (.goto 4, 3) := by decide +kernel
theorem dL_areFiles_178 : decode cL_areFiles 178 = .ok (.iconst 0, 1) := by decide +kernel
theorem dL_areFiles_179 : decode cL_areFiles 179 = .ok (.istore_n 3, 1) := by decide +kernel
theorem dL_areFiles_180 : decode cL_areFiles 180 = .ok (.iconst 0, 1) := by decide +kernel
theorem dL_areFiles_181 : decode cL_areFiles 181 = .ok (.istore 10, 2) := by decide +kernel
theorem dL_areFiles_183 : decode cL_areFiles 183 = .ok (.iload 10, 2) := by decide +kernel
theorem dL_areFiles_185 : decode cL_areFiles 185 = .ok (.iload 9, 2) := by decide +kernel
theorem dL_areFiles_187 : decode cL_areFiles 187 = .ok (.if_icmp .ge 78, 3) := by decide +kernel
theorem dL_areFiles_190 : decode cL_areFiles 190 = .ok (.aload_n 0, 1) := by decide +kernel
theorem dL_areFiles_191 : decode cL_areFiles 191 = .ok (.iload 4, 2) := by decide +kernel
theorem dL_areFiles_193 : decode cL_areFiles 193 = .ok (.iload 8, 2) := by decide +kernel
theorem dL_areFiles_195 : decode cL_areFiles 195 = .ok (.iload 10, 2) := by decide +kernel
theorem dL_areFiles_197 : decode cL_areFiles 197 = .ok (.invokevirtual 102, 3) := by decide +kernel
theorem dL_areFiles_200 : decode cL_areFiles 200 = .ok (.istore 11, 2) := by decide +kernel
theorem dL_areFiles_202 : decode cL_areFiles 202 = .ok (.iload_n 3, 1) := by decide +kernel
theorem dL_areFiles_203 : decode cL_areFiles 203 = .ok (.ifCond .eq 37, 3) := by decide +kernel
theorem dL_areFiles_206 : decode cL_areFiles 206 = .ok (.iload 11, 2) := by decide +kernel
theorem dL_areFiles_208 : decode cL_areFiles 208 = .ok (.sipush 10000, 3) := by decide +kernel
theorem dL_areFiles_211 : decode cL_areFiles 211 = .ok (.if_icmp .ge 25, 3) := by decide +kernel
theorem dL_areFiles_214 : decode cL_areFiles 214 = .ok (.iload 11, 2) := by decide +kernel
theorem dL_areFiles_216 : decode cL_areFiles 216 = .ok (.iload 7, 2) := by decide +kernel
theorem dL_areFiles_218 : decode cL_areFiles 218 = .ok (.if_icmp .le 22, 3) := by decide +kernel
theorem dL_areFiles_221 : decode cL_areFiles 221 = .ok (.aload_n 0, 1) := by decide +kernel
theorem dL_areFiles_222 : decode cL_areFiles 222 = .ok (.iload 11, 2) := by decide +kernel
theorem dL_areFiles_224 : decode cL_areFiles 224 = .ok (.invokevirtual 99, 3) := by decide +kernel
theorem dL_areFiles_227 : decode cL_areFiles 227 = .ok (.iload 4, 2) := by decide +kernel
theorem dL_areFiles_229 : decode cL_areFiles 229 = .ok (.ishr, 1) := by decide +kernel
theorem dL_areFiles_230 : decode cL_areFiles 230 = .ok (.iconst 1, 1) := by decide +kernel
theorem dL_areFiles_231 : decode cL_areFiles 231 = .ok (.iand, 1) := by decide +kernel
theorem dL_areFiles_232 : decode cL_areFiles 232 = .ok (.iconst 1, 1) := by decide +kernel
theorem dL_areFiles_233 : decode cL_areFiles 233 = .ok (.if_icmp .ne 7, 3) := by decide +kernel
theorem dL_areFiles_236 : decode cL_areFiles 236 = .ok (.iconst 1, 1) := by decide +kernel
theorem dL_areFiles_237 : decode cL_areFiles 237 = .ok (.goto 4, 3) := by decide +kernel
theorem dL_areFiles_240 : decode cL_areFiles 240 = .ok (.iconst 0, 1) := by decide +kernel
theorem dL_areFiles_241 : decode cL_areFiles 241 = .ok (.istore_n 3, 1) := by decide +kernel
theorem dL_areFiles_242 : decode cL_areFiles 242 = .ok (.iload 11, 2) := by decide +kernel
theorem dL_areFiles_244 : decode cL_areFiles 244 = .ok (.sipush 10000, 3) := by decide +kernel
theorem dL_areFiles_247 : decode cL_areFiles 247 = .ok (.if_icmp .ge 8, 3) := by decide +kernel
theorem dL_areFiles_250 : decode cL_areFiles 250 = .ok (.iload 11, 2) := by decide +kernel
theorem dL_areFiles_252 : decode cL_areFiles 252 = .ok (.goto 5, 3) := by decide +kernel
theorem dL_areFiles_255 : decode cL_areFiles 255 = .ok (.iload 7, 2) := by decide +kernel
theorem dL_areFiles_257 : decode cL_areFiles 257 = .ok (.istore 7, 2) := by decide +kernel
theorem dL_areFiles_259 : decode cL_areFiles 259 = .ok (.iinc 10 1, 3) := by decide +kernel
theorem dL_areFiles_262 : decode cL_areFiles 262 = .ok (.goto (-79), 3) := by decide +kernel
theorem dL_areFiles_265 : decode cL_areFiles 265 = .ok (.iinc 8 (-1), 3) := by decide +kernel
theorem dL_areFiles_268 : decode cL_areFiles 268 = .ok (.goto (-125), 3) := by decide +kernel
theorem dL_areFiles_271 : decode cL_areFiles 271 = .ok (.iinc 4 1, 3) := by decide +kernel
theorem dL_areFiles_274 : decode cL_areFiles 274 = .ok (.goto (-269), 3) := by decide +kernel
theorem dL_areFiles_277 : decode cL_areFiles 277 = .ok (.iload_n 3, 1) := by decide +kernel
theorem dL_areFiles_278 : decode cL_areFiles 278 = .ok (.ireturn, 1) := by decide +kernel
set_option maxRecDepth 20000 in
theorem ggL_isLedger_X5_messages : GoodIn wsL_isLedger wsX5_messages := goodIn_r _ [6, 7, 8, 97, 98, 99, 100, 101, 102, 103, 104, 105, 106, 107, 108] (by decide +kernel) (by decide +kernel)
set_option maxRecDepth 20000 in
theorem gL_isLedger_X5_messages : GoodIn wsL_isLedger (wsV RL 93 RX5 yX5_messages wsX5_messages) := goodIn_app (goodIn_of _ (by decide +kernel)) ggL_isLedger_X5_messages
set_option maxRecDepth 20000 in
theorem ggL_isLedger_X5_fateOf : GoodIn wsL_isLedger wsX5_fateOf := goodIn_ca (goodIn_r _ [12, 13, 14, 7, 15, 16, 17, 18, 19, 20, 21, 22, 23, 24, 25, 97, 98, 99, 100, 101, 102, 103, 104, 105, 106, 107, 108] (by decide +kernel) (by decide +kernel)) (goodIn_sub (fun _ h => List.mem_cons_of_mem _ (List.mem_append_right _ h)) (by decide +kernel))
set_option maxRecDepth 20000 in
theorem gL_isLedger_X5_fateOf : GoodIn wsL_isLedger (wsV RL 96 RX5 yX5_fateOf wsX5_fateOf) := goodIn_app (goodIn_of _ (by decide +kernel)) ggL_isLedger_X5_fateOf
set_option maxRecDepth 20000 in
theorem ggL_isLedger_X5_targetsOf : GoodIn wsL_isLedger wsX5_targetsOf := goodIn_ca (goodIn_r _ [29, 13, 14, 7, 15, 16, 17, 18, 19, 20, 30, 31, 32, 33, 34, 97, 98, 99, 100, 101, 102, 103, 104, 105, 106, 107, 108] (by decide +kernel) (by decide +kernel)) (goodIn_sub (fun _ h => List.mem_cons_of_mem _ (List.mem_append_right _ h)) (by decide +kernel))
set_option maxRecDepth 20000 in
theorem gL_isLedger_X5_targetsOf : GoodIn wsL_isLedger (wsV RL 99 RX5 yX5_targetsOf wsX5_targetsOf) := goodIn_app (goodIn_of _ (by decide +kernel)) ggL_isLedger_X5_targetsOf
set_option maxRecDepth 20000 in
theorem ggL_isLedger_X5_count : GoodIn wsL_isLedger wsX5_count := goodIn_ca (goodIn_r _ [38, 13, 14, 7, 39, 40, 5, 41, 42, 43, 44, 18, 45, 20, 25, 97, 98, 99, 100, 101, 102, 103, 104, 105, 106, 107, 108] (by decide +kernel) (by decide +kernel)) (goodIn_sub (fun _ h => List.mem_cons_of_mem _ (List.mem_append_right _ h)) (by decide +kernel))
set_option maxRecDepth 20000 in
theorem gL_isLedger_X5_count : GoodIn wsL_isLedger (wsV RL 107 RX5 yX5_count wsX5_count) := goodIn_app (goodIn_of _ (by decide +kernel)) ggL_isLedger_X5_count
set_option maxRecDepth 20000 in
theorem ggL_isLedger_X5_drops : GoodIn wsL_isLedger wsX5_drops := goodIn_ca (goodIn_r _ [49, 50, 51, 52, 53, 5, 54, 13, 14, 55, 109, 110, 111, 112, 113, 114, 115, 116, 117, 97, 98, 99, 100, 101, 102, 103, 104, 105] (by decide +kernel) (by decide +kernel)) (goodIn_sub (fun _ h => List.mem_cons_of_mem _ (List.mem_append_right _ h)) (by decide +kernel))
set_option maxRecDepth 20000 in
theorem gL_isLedger_X5_drops : GoodIn wsL_isLedger (wsV RL 87 RX5 yX5_drops wsX5_drops) := goodIn_app (goodIn_of _ (by decide +kernel)) ggL_isLedger_X5_drops
set_option maxRecDepth 20000 in
theorem ggL_isLedger_X5_repeats : GoodIn wsL_isLedger wsX5_repeats := goodIn_ca (goodIn_r _ [59, 60, 51, 52, 53, 5, 54, 13, 14, 55, 109, 110, 111, 112, 113, 114, 115, 116, 117, 97, 98, 99, 100, 101, 102, 103, 104, 105] (by decide +kernel) (by decide +kernel)) (goodIn_sub (fun _ h => List.mem_cons_of_mem _ (List.mem_append_right _ h)) (by decide +kernel))
set_option maxRecDepth 20000 in
theorem gL_isLedger_X5_repeats : GoodIn wsL_isLedger (wsV RL 60 RX5 yX5_repeats wsX5_repeats) := goodIn_app (goodIn_of _ (by decide +kernel)) ggL_isLedger_X5_repeats
set_option maxRecDepth 20000 in
theorem ggL_isLedger_X5_tokens : GoodIn wsL_isLedger wsX5_tokens := goodIn_ca (goodIn_r _ [64, 65, 51, 52, 53, 5, 54, 13, 14, 55, 109, 110, 111, 112, 113, 114, 115, 116, 117, 97, 98, 99, 100, 101, 102, 103, 104, 105] (by decide +kernel) (by decide +kernel)) (goodIn_sub (fun _ h => List.mem_cons_of_mem _ (List.mem_append_right _ h)) (by decide +kernel))
set_option maxRecDepth 20000 in
theorem gL_isLedger_X5_tokens : GoodIn wsL_isLedger (wsV RL 63 RX5 yX5_tokens wsX5_tokens) := goodIn_app (goodIn_of _ (by decide +kernel)) ggL_isLedger_X5_tokens
set_option maxRecDepth 20000 in
theorem ggL_isLedger_X5_queued : GoodIn wsL_isLedger wsX5_queued := goodIn_r _ [69, 70, 71, 72, 73, 74, 75, 76, 77, 97, 98, 99, 100, 101, 102, 103, 104, 105, 118, 119, 120, 121, 122, 123] (by decide +kernel) (by decide +kernel)
set_option maxRecDepth 20000 in
theorem gL_isLedger_X5_queued : GoodIn wsL_isLedger (wsV RL 66 RX5 yX5_queued wsX5_queued) := goodIn_app (goodIn_of _ (by decide +kernel)) ggL_isLedger_X5_queued
set_option maxRecDepth 20000 in
theorem ggL_isLedger_X5_inFlight : GoodIn wsL_isLedger wsX5_inFlight := goodIn_r _ [81, 70, 82, 83, 84, 74, 85, 77, 86, 97, 98, 99, 100, 101, 102, 103, 104, 105, 118, 119, 120, 121, 122, 123] (by decide +kernel) (by decide +kernel)
set_option maxRecDepth 20000 in
theorem gL_isLedger_X5_inFlight : GoodIn wsL_isLedger (wsV RL 69 RX5 yX5_inFlight wsX5_inFlight) := goodIn_app (goodIn_of _ (by decide +kernel)) ggL_isLedger_X5_inFlight
set_option maxRecDepth 20000 in
theorem ggL_isLedger_X5_acknowledged : GoodIn wsL_isLedger wsX5_acknowledged := goodIn_r _ [90, 70, 91, 97, 98, 99, 100, 101, 102, 103, 104, 105, 118, 119, 120, 121, 122, 123] (by decide +kernel) (by decide +kernel)
set_option maxRecDepth 20000 in
theorem gL_isLedger_X5_acknowledged : GoodIn wsL_isLedger (wsV RL 78 RX5 yX5_acknowledged wsX5_acknowledged) := goodIn_app (goodIn_of _ (by decide +kernel)) ggL_isLedger_X5_acknowledged
set_option maxRecDepth 20000 in
theorem ggL_isLedger_X5_lost : GoodIn wsL_isLedger wsX5_lost := goodIn_r _ [95, 70, 96, 97, 98, 99, 100, 101, 102, 103, 104, 105, 118, 119, 120, 121, 122, 123] (by decide +kernel) (by decide +kernel)
set_option maxRecDepth 20000 in
theorem gL_isLedger_X5_lost : GoodIn wsL_isLedger (wsV RL 110 RX5 yX5_lost wsX5_lost) := goodIn_app (goodIn_of _ (by decide +kernel)) ggL_isLedger_X5_lost
theorem dL_isLedger_0 : decode cL_isLedger 0 = .ok (.iconst 4, 1) := by decide +kernel
theorem dL_isLedger_1 : decode cL_isLedger 1 = .ok (.newarray .int, 2) := by decide +kernel
theorem dL_isLedger_3 : decode cL_isLedger 3 = .ok (.astore_n 2, 1) := by decide +kernel
theorem dL_isLedger_4 : decode cL_isLedger 4 = .ok (.iconst 0, 1) := by decide +kernel
theorem dL_isLedger_5 : decode cL_isLedger 5 = .ok (.istore_n 3, 1) := by decide +kernel
theorem dL_isLedger_6 : decode cL_isLedger 6 = .ok (.aload_n 0, 1) := by decide +kernel
theorem dL_isLedger_7 : decode cL_isLedger 7 = .ok (.invokevirtual 93, 3) := by decide +kernel
theorem dL_isLedger_10 : decode cL_isLedger 10 = .ok (.aload_n 1, 1) := by decide +kernel
theorem dL_isLedger_11 : decode cL_isLedger 11 = .ok (.iconst 0, 1) := by decide +kernel
theorem dL_isLedger_12 : decode cL_isLedger 12 = .ok (.iaload, 1) := by decide +kernel
theorem dL_isLedger_13 : decode cL_isLedger 13 = .ok (.if_icmp .ne 7, 3) := by decide +kernel
theorem dL_isLedger_16 : decode cL_isLedger 16 = .ok (.iconst 1, 1) := by decide +kernel
theorem dL_isLedger_17 : decode cL_isLedger 17 = .ok (.goto 4, 3) := by decide +kernel
theorem dL_isLedger_20 : decode cL_isLedger 20 = .ok (.iconst 0, 1) := by decide +kernel
theorem dL_isLedger_21 : decode cL_isLedger 21 = .ok (.istore 4, 2) := by decide +kernel
theorem dL_isLedger_23 : decode cL_isLedger 23 = .ok (.iconst 0, 1) := by decide +kernel
theorem dL_isLedger_24 : decode cL_isLedger 24 = .ok (.istore 5, 2) := by decide +kernel
theorem dL_isLedger_26 : decode cL_isLedger 26 = .ok (.iload 5, 2) := by decide +kernel
theorem dL_isLedger_28 : decode cL_isLedger 28 = .ok (.aload_n 1, 1) := by decide +kernel
theorem dL_isLedger_29 : decode cL_isLedger 29 = .ok (.iconst 0, 1) := by decide +kernel
theorem dL_isLedger_30 : decode cL_isLedger 30 = .ok (.iaload, 1) := by decide +kernel
theorem dL_isLedger_31 : decode cL_isLedger 31 = .ok (.if_icmp .ge 32, 3) := by decide +kernel
theorem dL_isLedger_34 : decode cL_isLedger 34 = .ok (.aload_n 2, 1) := by decide +kernel
theorem dL_isLedger_35 : decode cL_isLedger 35 = .ok (.aload_n 0, 1) := by decide +kernel
theorem dL_isLedger_36 : decode cL_isLedger 36 = .ok (.iload 5, 2) := by decide +kernel
theorem dL_isLedger_38 : decode cL_isLedger 38 = .ok (.invokevirtual 96, 3) := by decide +kernel
theorem dL_isLedger_41 : decode cL_isLedger 41 = .ok (.dup2, 1) := by decide +kernel
theorem dL_isLedger_42 : decode cL_isLedger 42 = .ok (.iaload, 1) := by decide +kernel
theorem dL_isLedger_43 : decode cL_isLedger 43 = .ok (.iconst 1, 1) := by decide +kernel
theorem dL_isLedger_44 : decode cL_isLedger 44 = .ok (.iadd, 1) := by decide +kernel
theorem dL_isLedger_45 : decode cL_isLedger 45 = .ok (.iastore, 1) := by decide +kernel
theorem dL_isLedger_46 : decode cL_isLedger 46 = .ok (.iload_n 3, 1) := by decide +kernel
theorem dL_isLedger_47 : decode cL_isLedger 47 = .ok (.aload_n 0, 1) := by decide +kernel
theorem dL_isLedger_48 : decode cL_isLedger 48 = .ok (.iload 5, 2) := by decide +kernel
theorem dL_isLedger_50 : decode cL_isLedger 50 = .ok (.invokevirtual 99, 3) := by decide +kernel
theorem dL_isLedger_53 : decode cL_isLedger 53 = .ok (.iconst 4, 1) := by decide +kernel
theorem dL_isLedger_54 : decode cL_isLedger 54 = .ok (.ishr, 1) := by decide +kernel
theorem dL_isLedger_55 : decode cL_isLedger 55 = .ok (.iadd, 1) := by decide +kernel
theorem dL_isLedger_56 : decode cL_isLedger 56 = .ok (.istore_n 3, 1) := by decide +kernel
theorem dL_isLedger_57 : decode cL_isLedger 57 = .ok (.iinc 5 1, 3) := by decide +kernel
theorem dL_isLedger_60 : decode cL_isLedger 60 = .ok (.goto (-34), 3) := by decide +kernel
theorem dL_isLedger_63 : decode cL_isLedger 63 = .ok (.iconst 0, 1) := by decide +kernel
theorem dL_isLedger_64 : decode cL_isLedger 64 = .ok (.istore 5, 2) := by decide +kernel
theorem dL_isLedger_66 : decode cL_isLedger 66 = .ok (.iload 5, 2) := by decide +kernel
theorem dL_isLedger_68 : decode cL_isLedger 68 = .ok (.iconst 4, 1) := by decide +kernel
theorem dL_isLedger_69 : decode cL_isLedger 69 = .ok (.if_icmp .ge 34, 3) := by decide +kernel
theorem dL_isLedger_72 : decode cL_isLedger 72 = .ok (.iload 4, 2) := by decide +kernel
theorem dL_isLedger_74 : decode cL_isLedger 74 = .ok (.ifCond .eq 20, 3) := by decide +kernel
theorem dL_isLedger_77 : decode cL_isLedger 77 = .ok (.aload_n 0, 1) := by decide +kernel
theorem dL_isLedger_78 : decode cL_isLedger 78 = .ok (.iload 5, 2) := by decide +kernel
theorem dL_isLedger_80 : decode cL_isLedger 80 = .ok (.invokevirtual 107, 3) := by decide +kernel
theorem dL_isLedger_83 : decode cL_isLedger 83 = .ok (.aload_n 2, 1) := by decide +kernel
theorem dL_isLedger_84 : decode cL_isLedger 84 = .ok (.iload 5, 2) := by decide +kernel
theorem dL_isLedger_86 : decode cL_isLedger 86 = .ok (.iaload, 1) := by decide +kernel
theorem dL_isLedger_87 : decode cL_isLedger 87 = .ok (.if_icmp .ne 7, 3) := by decide +kernel
theorem dL_isLedger_90 : decode cL_isLedger 90 = .ok (.iconst 1, 1) := by decide +kernel
theorem dL_isLedger_91 : decode cL_isLedger 91 = .ok (.goto 4, 3) := by decide +kernel
theorem dL_isLedger_94 : decode cL_isLedger 94 = .ok (.iconst 0, 1) := by decide +kernel
theorem dL_isLedger_95 : decode cL_isLedger 95 = .ok (.istore 4, 2) := by decide +kernel
theorem dL_isLedger_97 : decode cL_isLedger 97 = .ok (.iinc 5 1, 3) := by decide +kernel
theorem dL_isLedger_100 : decode cL_isLedger 100 = .ok (.goto (-34), 3) := by decide +kernel
theorem dL_isLedger_103 : decode cL_isLedger 103 = .ok (.iconst 0, 1) := by decide +kernel
theorem dL_isLedger_104 : decode cL_isLedger 104 = .ok (.istore 5, 2) := by decide +kernel
theorem dL_isLedger_106 : decode cL_isLedger 106 = .ok (.iconst 0, 1) := by decide +kernel
theorem dL_isLedger_107 : decode cL_isLedger 107 = .ok (.istore 6, 2) := by decide +kernel
theorem dL_isLedger_109 : decode cL_isLedger 109 = .ok (.iconst 0, 1) := by decide +kernel
theorem dL_isLedger_110 : decode cL_isLedger 110 = .ok (.istore 7, 2) := by decide +kernel
theorem dL_isLedger_112 : decode cL_isLedger 112 = .ok (.iload 7, 2) := by decide +kernel
theorem dL_isLedger_114 : decode cL_isLedger 114 = .ok (.bipush 6, 2) := by decide +kernel
theorem dL_isLedger_116 : decode cL_isLedger 116 = .ok (.if_icmp .ge 64, 3) := by decide +kernel
theorem dL_isLedger_119 : decode cL_isLedger 119 = .ok (.iload 5, 2) := by decide +kernel
theorem dL_isLedger_121 : decode cL_isLedger 121 = .ok (.aload_n 0, 1) := by decide +kernel
theorem dL_isLedger_122 : decode cL_isLedger 122 = .ok (.iload 7, 2) := by decide +kernel
theorem dL_isLedger_124 : decode cL_isLedger 124 = .ok (.invokevirtual 87, 3) := by decide +kernel
theorem dL_isLedger_127 : decode cL_isLedger 127 = .ok (.iadd, 1) := by decide +kernel
theorem dL_isLedger_128 : decode cL_isLedger 128 = .ok (.istore 5, 2) := by decide +kernel
theorem dL_isLedger_130 : decode cL_isLedger 130 = .ok (.iload 6, 2) := by decide +kernel
theorem dL_isLedger_132 : decode cL_isLedger 132 = .ok (.aload_n 0, 1) := by decide +kernel
theorem dL_isLedger_133 : decode cL_isLedger 133 = .ok (.iload 7, 2) := by decide +kernel
theorem dL_isLedger_135 : decode cL_isLedger 135 = .ok (.invokevirtual 60, 3) := by decide +kernel
theorem dL_isLedger_138 : decode cL_isLedger 138 = .ok (.iadd, 1) := by decide +kernel
theorem dL_isLedger_139 : decode cL_isLedger 139 = .ok (.istore 6, 2) := by decide +kernel
theorem dL_isLedger_141 : decode cL_isLedger 141 = .ok (.iload 4, 2) := by decide +kernel
theorem dL_isLedger_143 : decode cL_isLedger 143 = .ok (.ifCond .eq 28, 3) := by decide +kernel
theorem dL_isLedger_146 : decode cL_isLedger 146 = .ok (.aload_n 0, 1) := by decide +kernel
theorem dL_isLedger_147 : decode cL_isLedger 147 = .ok (.iload 7, 2) := by decide +kernel
theorem dL_isLedger_149 : decode cL_isLedger 149 = .ok (.invokevirtual 63, 3) := by decide +kernel
theorem dL_isLedger_152 : decode cL_isLedger 152 = .ok (.ifCond .lt 19, 3) := by decide +kernel
theorem dL_isLedger_155 : decode cL_isLedger 155 = .ok (.aload_n 0, 1) := by decide +kernel
theorem dL_isLedger_156 : decode cL_isLedger 156 = .ok (.iload 7, 2) := by decide +kernel
theorem dL_isLedger_158 : decode cL_isLedger 158 = .ok (.invokevirtual 63, 3) := by decide +kernel
theorem dL_isLedger_161 : decode cL_isLedger 161 = .ok (.aload_n 1, 1) := by decide +kernel
theorem dL_isLedger_162 : decode cL_isLedger 162 = .ok (.iconst 2, 1) := by decide +kernel
theorem dL_isLedger_163 : decode cL_isLedger 163 = .ok (.iaload, 1) := by decide +kernel
theorem dL_isLedger_164 : decode cL_isLedger 164 = .ok (.if_icmp .gt 7, 3) := by decide +kernel
theorem dL_isLedger_167 : decode cL_isLedger 167 = .ok (.iconst 1, 1) := by decide +kernel
theorem dL_isLedger_168 : decode cL_isLedger 168 = .ok (.goto 4, 3) := by decide +kernel
theorem dL_isLedger_171 : decode cL_isLedger 171 = .ok (.iconst 0, 1) := by decide +kernel
theorem dL_isLedger_172 : decode cL_isLedger 172 = .ok (.istore 4, 2) := by decide +kernel
theorem dL_isLedger_174 : decode cL_isLedger 174 = .ok (.iinc 7 1, 3) := by decide +kernel
theorem dL_isLedger_177 : decode cL_isLedger 177 = .ok (.goto (-65), 3) := by decide +kernel
theorem dL_isLedger_180 : decode cL_isLedger 180 = .ok (.iload 4, 2) := by decide +kernel
theorem dL_isLedger_182 : decode cL_isLedger 182 = .ok (.ifCond .eq 68, 3) := by decide +kernel
theorem dL_isLedger_185 : decode cL_isLedger 185 = .ok (.iload 5, 2) := by decide +kernel
theorem dL_isLedger_187 : decode cL_isLedger 187 = .ok (.aload_n 2, 1) := by decide +kernel
theorem dL_isLedger_188 : decode cL_isLedger 188 = .ok (.iconst 1, 1) := by decide +kernel
theorem dL_isLedger_189 : decode cL_isLedger 189 = .ok (.iaload, 1) := by decide +kernel
theorem dL_isLedger_190 : decode cL_isLedger 190 = .ok (.if_icmp .gt 60, 3) := by decide +kernel
theorem dL_isLedger_193 : decode cL_isLedger 193 = .ok (.iload 6, 2) := by decide +kernel
theorem dL_isLedger_195 : decode cL_isLedger 195 = .ok (.aload_n 2, 1) := by decide +kernel
theorem dL_isLedger_196 : decode cL_isLedger 196 = .ok (.iconst 0, 1) := by decide +kernel
theorem dL_isLedger_197 : decode cL_isLedger 197 = .ok (.iaload, 1) := by decide +kernel
theorem dL_isLedger_198 : decode cL_isLedger 198 = .ok (.if_icmp .gt 52, 3) := by decide +kernel
theorem dL_isLedger_201 : decode cL_isLedger 201 = .ok (.aload_n 0, 1) := by decide +kernel
theorem dL_isLedger_202 : decode cL_isLedger 202 = .ok (.invokevirtual 66, 3) := by decide +kernel
theorem dL_isLedger_205 : decode cL_isLedger 205 = .ok (.aload_n 0, 1) := by decide +kernel
theorem dL_isLedger_206 : decode cL_isLedger 206 = .ok (.invokevirtual 69, 3) := by decide +kernel
theorem dL_isLedger_209 : decode cL_isLedger 209 = .ok (.iadd, 1) := by decide +kernel
theorem dL_isLedger_210 : decode cL_isLedger 210 = .ok (.bipush 30, 2) := by decide +kernel
theorem dL_isLedger_212 : decode cL_isLedger 212 = .ok (.if_icmp .gt 38, 3) := by decide +kernel
theorem dL_isLedger_215 : decode cL_isLedger 215 = .ok (.aload_n 0, 1) := by decide +kernel
theorem dL_isLedger_216 : decode cL_isLedger 216 = .ok (.invokevirtual 69, 3) := by decide +kernel
theorem dL_isLedger_219 : decode cL_isLedger 219 = .ok (.iconst 5, 1) := by decide +kernel
theorem dL_isLedger_220 : decode cL_isLedger 220 = .ok (.if_icmp .gt 30, 3) := by decide +kernel
theorem dL_isLedger_223 : decode cL_isLedger 223 = .ok (.aload_n 0, 1) := by decide +kernel
theorem dL_isLedger_224 : decode cL_isLedger 224 = .ok (.invokevirtual 66, 3) := by decide +kernel
theorem dL_isLedger_227 : decode cL_isLedger 227 = .ok (.aload_n 0, 1) := by decide +kernel
theorem dL_isLedger_228 : decode cL_isLedger 228 = .ok (.invokevirtual 69, 3) := by decide +kernel
theorem dL_isLedger_231 : decode cL_isLedger 231 = .ok (.iadd, 1) := by decide +kernel
theorem dL_isLedger_232 : decode cL_isLedger 232 = .ok (.aload_n 0, 1) := by decide +kernel
theorem dL_isLedger_233 : decode cL_isLedger 233 = .ok (.invokevirtual 78, 3) := by decide +kernel
theorem dL_isLedger_236 : decode cL_isLedger 236 = .ok (.iadd, 1) := by decide +kernel
theorem dL_isLedger_237 : decode cL_isLedger 237 = .ok (.aload_n 0, 1) := by decide +kernel
theorem dL_isLedger_238 : decode cL_isLedger 238 = .ok (.invokevirtual 110, 3) := by decide +kernel
theorem dL_isLedger_241 : decode cL_isLedger 241 = .ok (.iadd, 1) := by decide +kernel
theorem dL_isLedger_242 : decode cL_isLedger 242 = .ok (.iload_n 3, 1) := by decide +kernel
theorem dL_isLedger_243 : decode cL_isLedger 243 = .ok (.if_icmp .lt 7, 3) := by decide +kernel
theorem dL_isLedger_246 : decode cL_isLedger 246 = .ok (.iconst 1, 1) := by decide +kernel
theorem dL_isLedger_247 : decode cL_isLedger 247 = .ok (.goto 4, 3) := by decide +kernel
theorem dL_isLedger_250 : decode cL_isLedger 250 = .ok (.iconst 0, 1) := by decide +kernel
theorem dL_isLedger_251 : decode cL_isLedger 251 = .ok (.ireturn, 1) := by decide +kernel
