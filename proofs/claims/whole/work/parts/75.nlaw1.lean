set_option maxRecDepth 20000 in
theorem ggL_law_X5_init : GoodIn wsL_law wsX5_init := goodIn_r _ [9, 10, 11, 12, 13, 14, 15, 16, 17, 18, 19, 20, 21, 22, 23, 24, 25, 26, 27, 28, 29, 30, 31, 32, 33, 34, 35, 36, 37, 38, 39, 40, 41, 42, 43, 44, 45, 46, 47, 48, 49, 50, 51, 52, 53, 54, 55, 56, 57, 58, 59, 60, 61, 62, 63, 64, 65, 66, 67, 68, 69, 70, 71, 72, 73, 74, 75, 76, 77, 78, 79, 80, 81, 82, 83, 84, 85, 86, 698, 699, 700, 701, 702, 703, 704, 705, 706, 741, 742, 743, 744, 745, 746, 747, 748, 749, 750, 751, 752, 753, 754, 755, 756, 757, 758, 759, 760, 761, 762, 763, 764, 765, 766, 767, 768, 769, 770, 771, 772, 773] (by decide +kernel) (by decide +kernel)
set_option maxRecDepth 20000 in
theorem gL_law_X5_init : GoodIn wsL_law (wsX5_init) := ggL_law_X5_init
set_option maxRecDepth 20000 in
theorem ggL_law_X6_init : GoodIn wsL_law wsX6_init := goodIn_r _ [89, 90, 11, 12, 91, 92, 93, 40, 94, 95, 96, 97, 98, 99, 100, 101, 102, 103, 104, 105, 106, 107, 108, 109, 110, 111, 112, 113, 114, 115, 116, 707, 708, 709, 710, 711, 712, 713, 714, 715, 716, 717, 718, 719, 720, 721, 722, 723, 724, 725, 726, 727, 728, 729, 730, 731, 732, 733, 734, 735, 736, 737, 738, 739, 740] (by decide +kernel) (by decide +kernel)
set_option maxRecDepth 20000 in
theorem gL_law_X6_init : GoodIn wsL_law (wsX6_init) := ggL_law_X6_init
set_option maxRecDepth 20000 in
theorem ggL_law_L_setRate : GoodIn wsL_law wsL_setRate := goodIn_ca (goodIn_r _ [120, 121, 122, 123, 124, 2, 125, 126, 127, 28, 29, 14, 128, 129, 130, 131, 132, 133, 32, 134, 65, 698, 699, 700, 701, 702, 703, 704, 705, 706, 750, 751, 752, 753, 754, 755, 756, 757, 758] (by decide +kernel) (by decide +kernel)) (goodIn_sub (fun _ h => List.mem_append_left _ (List.mem_append_left _ (List.mem_append_right _ h))) (by decide +kernel))
set_option maxRecDepth 20000 in
theorem gL_law_L_setRate : GoodIn wsL_law (va_wsS RL 92 yL_setRate wsL_setRate) := goodIn_app (goodIn_of _ (by decide +kernel)) ggL_law_L_setRate
set_option maxRecDepth 20000 in
theorem ggL_law_X6_setRate : GoodIn wsL_law wsX6_setRate := goodIn_r _ [138, 91, 92, 94, 139, 140, 5, 141, 142, 143, 144, 145, 146, 707, 708, 709, 710, 711, 712, 713, 714, 715, 716, 717, 718, 719, 720, 721, 722, 723, 724, 725, 726, 727, 728, 729, 730, 731, 732, 733, 734, 735, 736, 737, 738, 739, 740] (by decide +kernel) (by decide +kernel)
set_option maxRecDepth 20000 in
theorem gL_law_X6_setRate : GoodIn wsL_law (wsV RL 97 RX6 yX6_setRate wsX6_setRate) := goodIn_app (goodIn_of _ (by decide +kernel)) ggL_law_X6_setRate
set_option maxRecDepth 20000 in
theorem ggL_law_X6_thrown : GoodIn wsL_law wsX6_thrown := goodIn_r _ [150, 146, 707, 708, 709, 710, 711, 712, 713, 714, 715, 716, 717, 718, 719, 720, 721, 722, 723, 724, 725, 726, 727, 728, 729, 730, 731, 732, 733, 734, 735, 736, 737, 738, 739, 740] (by decide +kernel) (by decide +kernel)
set_option maxRecDepth 20000 in
theorem gL_law_X6_thrown : GoodIn wsL_law (wsV RL 98 RX6 yX6_thrown wsX6_thrown) := goodIn_app (goodIn_of _ (by decide +kernel)) ggL_law_X6_thrown
set_option maxRecDepth 20000 in
theorem ggL_law_L_setFold : GoodIn wsL_law wsL_setFold := goodIn_ca (goodIn_r _ [153, 121, 154, 155, 156, 2, 157, 126, 127, 30, 128, 129, 130, 698, 699, 700, 701, 702, 703, 704, 705, 706] (by decide +kernel) (by decide +kernel)) (goodIn_sub (fun _ h => List.mem_append_left _ (List.mem_append_left _ (List.mem_append_right _ h))) (by decide +kernel))
set_option maxRecDepth 20000 in
theorem gL_law_L_setFold : GoodIn wsL_law (va_wsS RL 101 yL_setFold wsL_setFold) := goodIn_app (goodIn_of _ (by decide +kernel)) ggL_law_L_setFold
set_option maxRecDepth 20000 in
theorem ggL_law_X6_setFold : GoodIn wsL_law wsX6_setFold := goodIn_r _ [161, 93, 139, 140, 5, 141, 142, 143, 144, 145, 146, 707, 708, 709, 710, 711, 712, 713, 714, 715, 716, 717, 718, 719, 720, 721, 722, 723, 724, 725, 726, 727, 728, 729, 730, 731, 732, 733, 734, 735, 736, 737, 738, 739, 740] (by decide +kernel) (by decide +kernel)
set_option maxRecDepth 20000 in
theorem gL_law_X6_setFold : GoodIn wsL_law (wsV RL 104 RX6 yX6_setFold wsX6_setFold) := goodIn_app (goodIn_of _ (by decide +kernel)) ggL_law_X6_setFold
set_option maxRecDepth 20000 in
theorem ggL_law_L_setRule : GoodIn wsL_law wsL_setRule := goodIn_ca (goodIn_ca (goodIn_r _ [164, 165, 121, 166, 167, 168, 2, 169, 170, 171, 126, 127, 172, 173, 174, 175, 16, 128, 129, 130, 176, 177, 178, 34, 179, 69, 70, 71, 72, 73, 180, 181, 182, 183, 184, 698, 699, 700, 701, 702, 703, 704, 705, 706, 759, 760, 761, 762, 763] (by decide +kernel) (by decide +kernel)) (goodIn_sub (fun _ h => List.mem_append_left _ (List.mem_append_right _ h)) (by decide +kernel))) (goodIn_sub (fun _ h => List.mem_append_left _ (List.mem_append_left _ (List.mem_append_right _ h))) (by decide +kernel))
set_option maxRecDepth 20000 in
theorem gL_law_L_setRule : GoodIn wsL_law (va_wsS RL 105 yL_setRule wsL_setRule) := goodIn_app (goodIn_of _ (by decide +kernel)) ggL_law_L_setRule
set_option maxRecDepth 20000 in
theorem ggL_law_X6_setRule : GoodIn wsL_law wsX6_setRule := goodIn_r _ [188, 100, 101, 102, 103, 104, 139, 140, 5, 141, 142, 143, 144, 145, 146, 707, 708, 709, 710, 711, 712, 713, 714, 715, 716, 717, 718, 719, 720, 721, 722, 723, 724, 725, 726, 727, 728, 729, 730, 731, 732, 733, 734, 735, 736, 737, 738, 739, 740] (by decide +kernel) (by decide +kernel)
set_option maxRecDepth 20000 in
theorem gL_law_X6_setRule : GoodIn wsL_law (wsV RL 108 RX6 yX6_setRule wsX6_setRule) := goodIn_app (goodIn_of _ (by decide +kernel)) ggL_law_X6_setRule
set_option maxRecDepth 20000 in
theorem ggL_law_L_removeRule : GoodIn wsL_law wsL_removeRule := goodIn_ca (goodIn_r _ [191, 165, 192, 193, 194, 2, 195, 184, 172, 173, 174, 175, 170, 171, 16, 759, 760, 761, 762, 763, 698, 699, 700, 701, 702, 703, 704, 705, 706] (by decide +kernel) (by decide +kernel)) (goodIn_sub (fun _ h => List.mem_append_left _ (List.mem_append_right _ h)) (by decide +kernel))
set_option maxRecDepth 20000 in
theorem gL_law_L_removeRule : GoodIn wsL_law (va_wsS RL 109 yL_removeRule wsL_removeRule) := goodIn_app (goodIn_of _ (by decide +kernel)) ggL_law_L_removeRule
set_option maxRecDepth 20000 in
theorem ggL_law_X6_removeRule : GoodIn wsL_law wsX6_removeRule := goodIn_r _ [199, 100, 139, 140, 5, 141, 142, 143, 144, 145, 146, 707, 708, 709, 710, 711, 712, 713, 714, 715, 716, 717, 718, 719, 720, 721, 722, 723, 724, 725, 726, 727, 728, 729, 730, 731, 732, 733, 734, 735, 736, 737, 738, 739, 740] (by decide +kernel) (by decide +kernel)
set_option maxRecDepth 20000 in
theorem gL_law_X6_removeRule : GoodIn wsL_law (wsV RL 111 RX6 yX6_removeRule wsX6_removeRule) := goodIn_app (goodIn_of _ (by decide +kernel)) ggL_law_X6_removeRule
set_option maxRecDepth 20000 in
theorem ggL_law_L_setFile : GoodIn wsL_law wsL_setFile := goodIn_ca (goodIn_ca (goodIn_r _ [202, 165, 121, 203, 204, 205, 2, 206, 126, 127, 207, 208, 209, 210, 211, 170, 171, 18, 128, 129, 130, 212, 213, 214, 36, 215, 80, 81, 82, 85, 764, 765, 766, 767, 768, 769, 770, 771, 772, 773, 698, 699, 700, 701, 702, 703, 704, 705, 706] (by decide +kernel) (by decide +kernel)) (goodIn_sub (fun _ h => List.mem_append_left _ (List.mem_append_left _ (List.mem_append_right _ h))) (by decide +kernel))) (goodIn_sub (fun _ h => List.mem_append_left _ (List.mem_append_right _ h)) (by decide +kernel))
set_option maxRecDepth 20000 in
theorem gL_law_L_setFile : GoodIn wsL_law (va_wsS RL 112 yL_setFile wsL_setFile) := goodIn_app (goodIn_of _ (by decide +kernel)) ggL_law_L_setFile
set_option maxRecDepth 20000 in
theorem ggL_law_X6_setFile : GoodIn wsL_law wsX6_setFile := goodIn_r _ [219, 105, 106, 107, 110, 108, 139, 140, 5, 141, 220, 221, 222, 142, 143, 144, 145, 146, 707, 708, 709, 710, 711, 712, 713, 714, 715, 716, 717, 718, 719, 720, 721, 722, 723, 724, 725, 726, 727, 728, 729, 730, 731, 732, 733, 734, 735, 736, 737, 738, 739, 740] (by decide +kernel) (by decide +kernel)
set_option maxRecDepth 20000 in
theorem gL_law_X6_setFile : GoodIn wsL_law (wsV RL 115 RX6 yX6_setFile wsX6_setFile) := goodIn_app (goodIn_of _ (by decide +kernel)) ggL_law_X6_setFile
set_option maxRecDepth 20000 in
theorem ggL_law_L_message : GoodIn wsL_law wsL_message := goodIn_ca (goodIn_ca (goodIn_ca (goodIn_r _ [225, 165, 121, 226, 227, 228, 229, 2, 230, 126, 127, 231, 232, 26, 30, 27, 233, 234, 235, 236, 237, 238, 239, 170, 171, 14, 128, 129, 130, 240, 241, 242, 25, 243, 52, 244, 245, 246, 32, 247, 60, 61, 62, 63, 248, 249, 250, 251, 57, 58, 252, 253, 254, 255, 50, 51, 256, 257, 258, 259, 260, 261, 262, 263, 264, 265, 266, 267, 16, 268, 18, 22, 269, 270, 271, 34, 272, 69, 70, 71, 72, 273, 274, 275, 36, 276, 84, 80, 83, 79, 77, 277, 278, 279, 280, 78, 281, 282, 283, 284, 86, 85, 82, 285, 286, 287, 21, 288, 42, 44, 41, 45, 289, 290, 291, 292, 293, 294, 295, 296, 297, 698, 699, 700, 701, 702, 703, 704, 705, 706, 750, 751, 752, 753, 754, 755, 756, 757, 758, 747, 748, 749, 759, 760, 761, 762, 763, 764, 765, 766, 767, 768, 769, 770, 771, 772, 773, 741, 742, 743, 744, 745, 746] (by decide +kernel) (by decide +kernel)) (goodIn_sub (fun _ h => List.mem_append_left _ (List.mem_append_left _ (List.mem_append_right _ h))) (by decide +kernel))) (goodIn_sub (fun _ h => List.mem_append_right _ h) (by decide +kernel))) (goodIn_sub (fun _ h => List.mem_append_left _ (List.mem_append_right _ h)) (by decide +kernel))
set_option maxRecDepth 20000 in
theorem gL_law_L_message : GoodIn wsL_law (va_wsS RL 116 yL_message wsL_message) := goodIn_app (goodIn_of _ (by decide +kernel)) ggL_law_L_message
set_option maxRecDepth 20000 in
theorem ggL_law_X6_message : GoodIn wsL_law wsX6_message := goodIn_r _ [301, 302, 303, 93, 98, 96, 95, 304, 94, 97, 139, 140, 5, 141, 142, 143, 144, 145, 146, 305, 306, 307, 308, 115, 116, 309, 310, 311, 312, 313, 314, 315, 316, 100, 101, 102, 103, 104, 317, 318, 319, 320, 321, 322, 323, 114, 324, 325, 326, 327, 108, 105, 112, 109, 113, 328, 329, 330, 331, 111, 332, 333, 334, 335, 110, 107, 336, 337, 338, 339, 340, 341, 707, 708, 709, 710, 711, 712, 713, 714, 715, 716, 717, 718, 719, 720, 721, 722, 723, 724, 725, 726, 727, 728, 729, 730, 731, 732, 733, 734, 735, 736, 737, 738, 739, 740] (by decide +kernel) (by decide +kernel)
set_option maxRecDepth 20000 in
theorem gL_law_X6_message : GoodIn wsL_law (wsV RL 118 RX6 yX6_message wsX6_message) := goodIn_app (goodIn_of _ (by decide +kernel)) ggL_law_X6_message
set_option maxRecDepth 20000 in
theorem ggL_law_L_pass : GoodIn wsL_law wsL_pass := goodIn_ca (goodIn_r _ [344, 121, 345, 346, 347, 2, 348, 126, 127, 128, 129, 130, 349, 350, 351, 352, 18, 353, 354, 355, 356, 357, 27, 29, 358, 359, 360, 361, 14, 28, 362, 363, 364, 32, 365, 65, 366, 367, 368, 369, 370, 371, 372, 373, 260, 374, 30, 256, 257, 258, 259, 261, 262, 263, 264, 265, 266, 267, 16, 268, 22, 269, 270, 271, 34, 272, 69, 70, 71, 72, 273, 274, 275, 36, 276, 84, 80, 83, 79, 77, 277, 278, 279, 280, 78, 281, 282, 283, 284, 86, 85, 82, 285, 286, 287, 21, 288, 42, 44, 41, 45, 375, 376, 377, 378, 379, 380, 381, 382, 81, 383, 698, 699, 700, 701, 702, 703, 704, 705, 706, 764, 765, 766, 767, 768, 769, 770, 771, 772, 773, 750, 751, 752, 753, 754, 755, 756, 757, 758, 759, 760, 761, 762, 763, 741, 742, 743, 744, 745, 746] (by decide +kernel) (by decide +kernel)) (goodIn_sub (fun _ h => List.mem_append_left _ (List.mem_append_left _ (List.mem_append_right _ h))) (by decide +kernel))
set_option maxRecDepth 20000 in
theorem gL_law_L_pass : GoodIn wsL_law (va_wsS RL 119 yL_pass wsL_pass) := goodIn_app (goodIn_of _ (by decide +kernel)) ggL_law_L_pass
set_option maxRecDepth 20000 in
theorem ggL_law_X6_pass : GoodIn wsL_law wsX6_pass := goodIn_r _ [387, 336, 139, 140, 5, 141, 142, 143, 144, 145, 146, 388, 389, 390, 391, 304, 94, 92, 91, 106, 113, 111, 392, 393, 394, 395, 95, 96, 93, 309, 310, 311, 312, 98, 303, 313, 314, 315, 316, 100, 101, 102, 103, 104, 317, 318, 319, 320, 321, 322, 323, 114, 324, 325, 326, 327, 108, 105, 112, 109, 328, 329, 330, 331, 332, 333, 334, 335, 110, 107, 707, 708, 709, 710, 711, 712, 713, 714, 715, 716, 717, 718, 719, 720, 721, 722, 723, 724, 725, 726, 727, 728, 729, 730, 731, 732, 733, 734, 735, 736, 737, 738, 739, 740] (by decide +kernel) (by decide +kernel)
set_option maxRecDepth 20000 in
theorem gL_law_X6_pass : GoodIn wsL_law (wsV RL 121 RX6 yX6_pass wsX6_pass) := goodIn_app (goodIn_of _ (by decide +kernel)) ggL_law_X6_pass
set_option maxRecDepth 20000 in
theorem ggL_law_L_rotate : GoodIn wsL_law wsL_rotate := goodIn_ca (goodIn_ca (goodIn_r _ [398, 165, 226, 399, 400, 401, 2, 402, 231, 232, 403, 208, 209, 210, 211, 170, 171, 18, 404, 278, 279, 36, 280, 79, 78, 383, 282, 283, 284, 84, 86, 85, 82, 764, 765, 766, 767, 768, 769, 770, 771, 772, 773, 698, 699, 700, 701, 702, 703, 704, 705, 706] (by decide +kernel) (by decide +kernel)) (goodIn_sub (fun _ h => List.mem_append_right _ h) (by decide +kernel))) (goodIn_sub (fun _ h => List.mem_append_left _ (List.mem_append_right _ h)) (by decide +kernel))
set_option maxRecDepth 20000 in
theorem gL_law_L_rotate : GoodIn wsL_law (va_wsS RL 122 yL_rotate wsL_rotate) := goodIn_app (goodIn_of _ (by decide +kernel)) ggL_law_L_rotate
set_option maxRecDepth 20000 in
theorem ggL_law_X6_rotate : GoodIn wsL_law wsX6_rotate := goodIn_r _ [408, 110, 220, 221, 5, 222, 139, 140, 141, 328, 329, 330, 331, 109, 111, 142, 143, 144, 145, 146, 332, 333, 334, 335, 107, 108, 336, 707, 708, 709, 710, 711, 712, 713, 714, 715, 716, 717, 718, 719, 720, 721, 722, 723, 724, 725, 726, 727, 728, 729, 730, 731, 732, 733, 734, 735, 736, 737, 738, 739, 740] (by decide +kernel) (by decide +kernel)
set_option maxRecDepth 20000 in
theorem gL_law_X6_rotate : GoodIn wsL_law (wsV RL 124 RX6 yX6_rotate wsX6_rotate) := goodIn_app (goodIn_of _ (by decide +kernel)) ggL_law_X6_rotate
set_option maxRecDepth 20000 in
theorem ggL_law_L_connect : GoodIn wsL_law wsL_connect := goodIn_ca (goodIn_r _ [411, 226, 412, 413, 414, 2, 415, 231, 232, 22, 416, 417, 418, 419, 21, 420, 42, 43, 698, 699, 700, 701, 702, 703, 704, 705, 706, 741, 742, 743, 744, 745, 746] (by decide +kernel) (by decide +kernel)) (goodIn_sub (fun _ h => List.mem_append_right _ h) (by decide +kernel))
set_option maxRecDepth 20000 in
theorem gL_law_L_connect : GoodIn wsL_law (va_wsS RL 125 yL_connect wsL_connect) := goodIn_app (goodIn_of _ (by decide +kernel)) ggL_law_L_connect
set_option maxRecDepth 20000 in
theorem ggL_law_X6_connect : GoodIn wsL_law wsX6_connect := goodIn_r _ [424, 425, 321, 426, 142, 143, 144, 5, 145, 146, 707, 708, 709, 710, 711, 712, 713, 714, 715, 716, 717, 718, 719, 720, 721, 722, 723, 724, 725, 726, 727, 728, 729, 730, 731, 732, 733, 734, 735, 736, 737, 738, 739, 740] (by decide +kernel) (by decide +kernel)
set_option maxRecDepth 20000 in
theorem gL_law_X6_connect : GoodIn wsL_law (wsV RL 128 RX6 yX6_connect wsX6_connect) := goodIn_app (goodIn_of _ (by decide +kernel)) ggL_law_X6_connect
set_option maxRecDepth 20000 in
theorem ggL_law_L_disconnect : GoodIn wsL_law wsL_disconnect := goodIn_ca (goodIn_r _ [429, 226, 430, 431, 432, 2, 433, 231, 232, 22, 416, 434, 435, 436, 21, 437, 43, 44, 438, 439, 440, 441, 46, 698, 699, 700, 701, 702, 703, 704, 705, 706, 741, 742, 743, 744, 745, 746] (by decide +kernel) (by decide +kernel)) (goodIn_sub (fun _ h => List.mem_append_right _ h) (by decide +kernel))
set_option maxRecDepth 20000 in
theorem gL_law_L_disconnect : GoodIn wsL_law (va_wsS RL 129 yL_disconnect wsL_disconnect) := goodIn_app (goodIn_of _ (by decide +kernel)) ggL_law_L_disconnect
set_option maxRecDepth 20000 in
theorem ggL_law_X6_disconnect : GoodIn wsL_law wsX6_disconnect := goodIn_r _ [445, 425, 426, 322, 142, 143, 144, 5, 145, 146, 707, 708, 709, 710, 711, 712, 713, 714, 715, 716, 717, 718, 719, 720, 721, 722, 723, 724, 725, 726, 727, 728, 729, 730, 731, 732, 733, 734, 735, 736, 737, 738, 739, 740] (by decide +kernel) (by decide +kernel)
set_option maxRecDepth 20000 in
theorem gL_law_X6_disconnect : GoodIn wsL_law (wsV RL 131 RX6 yX6_disconnect wsX6_disconnect) := goodIn_app (goodIn_of _ (by decide +kernel)) ggL_law_X6_disconnect
set_option maxRecDepth 20000 in
theorem ggL_law_L_send : GoodIn wsL_law wsL_send := goodIn_ca (goodIn_r _ [448, 226, 449, 450, 451, 2, 452, 231, 232, 22, 453, 454, 455, 21, 456, 46, 457, 418, 419, 420, 42, 43, 458, 435, 436, 437, 44, 459, 460, 461, 462, 463, 464, 465, 466, 41, 698, 699, 700, 701, 702, 703, 704, 705, 706, 741, 742, 743, 744, 745, 746] (by decide +kernel) (by decide +kernel)) (goodIn_sub (fun _ h => List.mem_append_right _ h) (by decide +kernel))
set_option maxRecDepth 20000 in
theorem gL_law_L_send : GoodIn wsL_law (va_wsS RL 132 yL_send wsL_send) := goodIn_app (goodIn_of _ (by decide +kernel)) ggL_law_L_send
set_option maxRecDepth 20000 in
theorem ggL_law_X6_send : GoodIn wsL_law wsX6_send := goodIn_r _ [470, 425, 321, 426, 322, 114, 142, 143, 144, 5, 145, 146, 707, 708, 709, 710, 711, 712, 713, 714, 715, 716, 717, 718, 719, 720, 721, 722, 723, 724, 725, 726, 727, 728, 729, 730, 731, 732, 733, 734, 735, 736, 737, 738, 739, 740] (by decide +kernel) (by decide +kernel)
set_option maxRecDepth 20000 in
theorem gL_law_X6_send : GoodIn wsL_law (wsV RL 134 RX6 yX6_send wsX6_send) := goodIn_app (goodIn_of _ (by decide +kernel)) ggL_law_X6_send
set_option maxRecDepth 20000 in
theorem ggL_law_L_acknowledge : GoodIn wsL_law wsL_acknowledge := goodIn_ca (goodIn_r _ [473, 226, 474, 475, 476, 2, 477, 231, 232, 22, 434, 435, 436, 21, 437, 43, 44, 478, 479, 480, 481, 463, 464, 465, 466, 41, 698, 699, 700, 701, 702, 703, 704, 705, 706, 741, 742, 743, 744, 745, 746] (by decide +kernel) (by decide +kernel)) (goodIn_sub (fun _ h => List.mem_append_right _ h) (by decide +kernel))
set_option maxRecDepth 20000 in
theorem gL_law_L_acknowledge : GoodIn wsL_law (va_wsS RL 135 yL_acknowledge wsL_acknowledge) := goodIn_app (goodIn_of _ (by decide +kernel)) ggL_law_L_acknowledge
set_option maxRecDepth 20000 in
theorem ggL_law_X6_acknowledge : GoodIn wsL_law wsX6_acknowledge := goodIn_r _ [485, 426, 322, 114, 142, 143, 144, 5, 145, 146, 707, 708, 709, 710, 711, 712, 713, 714, 715, 716, 717, 718, 719, 720, 721, 722, 723, 724, 725, 726, 727, 728, 729, 730, 731, 732, 733, 734, 735, 736, 737, 738, 739, 740] (by decide +kernel) (by decide +kernel)
set_option maxRecDepth 20000 in
theorem gL_law_X6_acknowledge : GoodIn wsL_law (wsV RL 137 RX6 yX6_acknowledge wsX6_acknowledge) := goodIn_app (goodIn_of _ (by decide +kernel)) ggL_law_X6_acknowledge
set_option maxRecDepth 20000 in
theorem ggL_law_X5_time : GoodIn wsL_law wsX5_time := goodIn_r _ [489, 27, 698, 699, 700, 701, 702, 703, 704, 705, 706] (by decide +kernel) (by decide +kernel)
set_option maxRecDepth 20000 in
theorem gL_law_X5_time : GoodIn wsL_law (wsV RL 138 RX5 yX5_time wsX5_time) := goodIn_app (goodIn_of _ (by decide +kernel)) ggL_law_X5_time
set_option maxRecDepth 20000 in
theorem ggL_law_X6_time : GoodIn wsL_law wsX6_time := goodIn_r _ [493, 146, 304, 707, 708, 709, 710, 711, 712, 713, 714, 715, 716, 717, 718, 719, 720, 721, 722, 723, 724, 725, 726, 727, 728, 729, 730, 731, 732, 733, 734, 735, 736, 737, 738, 739, 740] (by decide +kernel) (by decide +kernel)
set_option maxRecDepth 20000 in
theorem gL_law_X6_time : GoodIn wsL_law (wsV RL 141 RX6 yX6_time wsX6_time) := goodIn_app (goodIn_of _ (by decide +kernel)) ggL_law_X6_time
set_option maxRecDepth 20000 in
theorem ggL_law_L_tokens : GoodIn wsL_law wsL_tokens := goodIn_ca (goodIn_r _ [496, 165, 497, 498, 499, 2, 500, 233, 236, 237, 238, 239, 170, 171, 14, 750, 751, 752, 753, 754, 755, 756, 757, 758, 698, 699, 700, 701, 702, 703, 704, 705, 706] (by decide +kernel) (by decide +kernel)) (goodIn_sub (fun _ h => List.mem_append_left _ (List.mem_append_right _ h)) (by decide +kernel))
set_option maxRecDepth 20000 in
theorem gL_law_L_tokens : GoodIn wsL_law (va_wsS RL 142 yL_tokens wsL_tokens) := goodIn_app (goodIn_of _ (by decide +kernel)) ggL_law_L_tokens
set_option maxRecDepth 20000 in
theorem ggL_law_X6_tokens : GoodIn wsL_law wsX6_tokens := goodIn_r _ [504, 94, 505, 506, 507, 5, 508, 139, 140, 141, 142, 143, 144, 145, 146, 707, 708, 709, 710, 711, 712, 713, 714, 715, 716, 717, 718, 719, 720, 721, 722, 723, 724, 725, 726, 727, 728, 729, 730, 731, 732, 733, 734, 735, 736, 737, 738, 739, 740] (by decide +kernel) (by decide +kernel)
set_option maxRecDepth 20000 in
theorem gL_law_X6_tokens : GoodIn wsL_law (wsV RL 144 RX6 yX6_tokens wsX6_tokens) := goodIn_app (goodIn_of _ (by decide +kernel)) ggL_law_X6_tokens
set_option maxRecDepth 20000 in
theorem ggL_law_L_repeats : GoodIn wsL_law wsL_repeats := goodIn_ca (goodIn_r _ [511, 165, 512, 513, 514, 2, 515, 260, 236, 237, 238, 239, 170, 171, 14, 750, 751, 752, 753, 754, 755, 756, 757, 758, 698, 699, 700, 701, 702, 703, 704, 705, 706] (by decide +kernel) (by decide +kernel)) (goodIn_sub (fun _ h => List.mem_append_left _ (List.mem_append_right _ h)) (by decide +kernel))
set_option maxRecDepth 20000 in
theorem gL_law_L_repeats : GoodIn wsL_law (va_wsS RL 145 yL_repeats wsL_repeats) := goodIn_app (goodIn_of _ (by decide +kernel)) ggL_law_L_repeats
set_option maxRecDepth 20000 in
theorem ggL_law_X6_repeats : GoodIn wsL_law wsX6_repeats := goodIn_r _ [519, 95, 505, 506, 507, 5, 508, 139, 140, 141, 142, 143, 144, 145, 146, 707, 708, 709, 710, 711, 712, 713, 714, 715, 716, 717, 718, 719, 720, 721, 722, 723, 724, 725, 726, 727, 728, 729, 730, 731, 732, 733, 734, 735, 736, 737, 738, 739, 740] (by decide +kernel) (by decide +kernel)
set_option maxRecDepth 20000 in
theorem gL_law_X6_repeats : GoodIn wsL_law (wsV RL 147 RX6 yX6_repeats wsX6_repeats) := goodIn_app (goodIn_of _ (by decide +kernel)) ggL_law_X6_repeats
set_option maxRecDepth 20000 in
theorem ggL_law_L_drops : GoodIn wsL_law wsL_drops := goodIn_ca (goodIn_r _ [522, 165, 523, 524, 525, 2, 526, 234, 236, 237, 238, 239, 170, 171, 14, 750, 751, 752, 753, 754, 755, 756, 757, 758, 698, 699, 700, 701, 702, 703, 704, 705, 706] (by decide +kernel) (by decide +kernel)) (goodIn_sub (fun _ h => List.mem_append_left _ (List.mem_append_right _ h)) (by decide +kernel))
set_option maxRecDepth 20000 in
theorem gL_law_L_drops : GoodIn wsL_law (va_wsS RL 148 yL_drops wsL_drops) := goodIn_app (goodIn_of _ (by decide +kernel)) ggL_law_L_drops
set_option maxRecDepth 20000 in
theorem ggL_law_X6_drops : GoodIn wsL_law wsX6_drops := goodIn_r _ [530, 97, 505, 506, 507, 5, 508, 139, 140, 141, 142, 143, 144, 145, 146, 707, 708, 709, 710, 711, 712, 713, 714, 715, 716, 717, 718, 719, 720, 721, 722, 723, 724, 725, 726, 727, 728, 729, 730, 731, 732, 733, 734, 735, 736, 737, 738, 739, 740] (by decide +kernel) (by decide +kernel)
set_option maxRecDepth 20000 in
theorem gL_law_X6_drops : GoodIn wsL_law (wsV RL 150 RX6 yX6_drops wsX6_drops) := goodIn_app (goodIn_of _ (by decide +kernel)) ggL_law_X6_drops
set_option maxRecDepth 20000 in
theorem ggL_law_L_size : GoodIn wsL_law wsL_size := goodIn_ca (goodIn_r _ [533, 165, 534, 535, 536, 2, 537, 207, 208, 209, 210, 211, 170, 171, 18, 764, 765, 766, 767, 768, 769, 770, 771, 772, 773, 698, 699, 700, 701, 702, 703, 704, 705, 706] (by decide +kernel) (by decide +kernel)) (goodIn_sub (fun _ h => List.mem_append_left _ (List.mem_append_right _ h)) (by decide +kernel))
set_option maxRecDepth 20000 in
theorem gL_law_L_size : GoodIn wsL_law (va_wsS RL 151 yL_size wsL_size) := goodIn_app (goodIn_of _ (by decide +kernel)) ggL_law_L_size
set_option maxRecDepth 20000 in
theorem ggL_law_X6_size : GoodIn wsL_law wsX6_size := goodIn_r _ [541, 108, 220, 221, 5, 222, 139, 140, 141, 142, 143, 144, 145, 146, 707, 708, 709, 710, 711, 712, 713, 714, 715, 716, 717, 718, 719, 720, 721, 722, 723, 724, 725, 726, 727, 728, 729, 730, 731, 732, 733, 734, 735, 736, 737, 738, 739, 740] (by decide +kernel) (by decide +kernel)
set_option maxRecDepth 20000 in
theorem gL_law_X6_size : GoodIn wsL_law (wsV RL 153 RX6 yX6_size wsX6_size) := goodIn_app (goodIn_of _ (by decide +kernel)) ggL_law_X6_size
set_option maxRecDepth 20000 in
theorem ggL_law_L_lines : GoodIn wsL_law wsL_lines := goodIn_ca (goodIn_r _ [544, 165, 545, 546, 547, 2, 548, 170, 171, 208, 209, 210, 211, 18, 549, 550, 551, 36, 552, 85, 553, 554, 555, 556, 79, 557, 558, 559, 560, 78, 698, 699, 700, 701, 702, 703, 704, 705, 706, 764, 765, 766, 767, 768, 769, 770, 771, 772, 773] (by decide +kernel) (by decide +kernel)) (goodIn_sub (fun _ h => List.mem_append_left _ (List.mem_append_right _ h)) (by decide +kernel))
set_option maxRecDepth 20000 in
theorem gL_law_L_lines : GoodIn wsL_law (va_wsS RL 154 yL_lines wsL_lines) := goodIn_app (goodIn_of _ (by decide +kernel)) ggL_law_L_lines
set_option maxRecDepth 20000 in
theorem ggL_law_X6_lines : GoodIn wsL_law wsX6_lines := goodIn_r _ [564, 565, 566, 567, 5, 568, 110, 220, 221, 222, 139, 140, 141, 142, 143, 144, 145, 146, 569, 570, 571, 572, 109, 111, 573, 574, 575, 576, 707, 708, 709, 710, 711, 712, 713, 714, 715, 716, 717, 718, 719, 720, 721, 722, 723, 724, 725, 726, 727, 728, 729, 730, 731, 732, 733, 734, 735, 736, 737, 738, 739, 740] (by decide +kernel) (by decide +kernel)
set_option maxRecDepth 20000 in
theorem gL_law_X6_lines : GoodIn wsL_law (wsV RL 156 RX6 yX6_lines wsX6_lines) := goodIn_app (goodIn_of _ (by decide +kernel)) ggL_law_X6_lines
set_option maxRecDepth 20000 in
theorem ggL_law_L_line : GoodIn wsL_law wsL_line := goodIn_ca (goodIn_r _ [579, 165, 580, 581, 582, 2, 583, 170, 171, 208, 209, 210, 211, 18, 549, 550, 551, 36, 552, 85, 553, 554, 555, 556, 79, 557, 558, 559, 560, 78, 128, 129, 130, 584, 585, 586, 587, 77, 698, 699, 700, 701, 702, 703, 704, 705, 706, 764, 765, 766, 767, 768, 769, 770, 771, 772, 773] (by decide +kernel) (by decide +kernel)) (goodIn_sub (fun _ h => List.mem_append_left _ (List.mem_append_right _ h)) (by decide +kernel))
set_option maxRecDepth 20000 in
theorem gL_law_L_line : GoodIn wsL_law (va_wsS RL 157 yL_line wsL_line) := goodIn_app (goodIn_of _ (by decide +kernel)) ggL_law_L_line
set_option maxRecDepth 20000 in
theorem ggL_law_X6_line : GoodIn wsL_law wsX6_line := goodIn_r _ [591, 112, 565, 566, 567, 5, 568, 110, 220, 221, 222, 139, 140, 141, 569, 570, 571, 572, 109, 111, 573, 574, 575, 576, 142, 143, 144, 145, 146, 707, 708, 709, 710, 711, 712, 713, 714, 715, 716, 717, 718, 719, 720, 721, 722, 723, 724, 725, 726, 727, 728, 729, 730, 731, 732, 733, 734, 735, 736, 737, 738, 739, 740] (by decide +kernel) (by decide +kernel)
set_option maxRecDepth 20000 in
theorem gL_law_X6_line : GoodIn wsL_law (wsV RL 160 RX6 yX6_line wsX6_line) := goodIn_app (goodIn_of _ (by decide +kernel)) ggL_law_X6_line
set_option maxRecDepth 20000 in
theorem ggL_law_L_generations : GoodIn wsL_law wsL_generations := goodIn_ca (goodIn_r _ [594, 165, 595, 596, 597, 2, 598, 403, 208, 209, 210, 211, 170, 171, 18, 764, 765, 766, 767, 768, 769, 770, 771, 772, 773, 698, 699, 700, 701, 702, 703, 704, 705, 706] (by decide +kernel) (by decide +kernel)) (goodIn_sub (fun _ h => List.mem_append_left _ (List.mem_append_right _ h)) (by decide +kernel))
set_option maxRecDepth 20000 in
theorem gL_law_L_generations : GoodIn wsL_law (va_wsS RL 161 yL_generations wsL_generations) := goodIn_app (goodIn_of _ (by decide +kernel)) ggL_law_L_generations
set_option maxRecDepth 20000 in
theorem ggL_law_X6_generations : GoodIn wsL_law wsX6_generations := goodIn_r _ [602, 110, 220, 221, 5, 222, 139, 140, 141, 142, 143, 144, 145, 146, 707, 708, 709, 710, 711, 712, 713, 714, 715, 716, 717, 718, 719, 720, 721, 722, 723, 724, 725, 726, 727, 728, 729, 730, 731, 732, 733, 734, 735, 736, 737, 738, 739, 740] (by decide +kernel) (by decide +kernel)
set_option maxRecDepth 20000 in
theorem gL_law_X6_generations : GoodIn wsL_law (wsV RL 163 RX6 yX6_generations wsX6_generations) := goodIn_app (goodIn_of _ (by decide +kernel)) ggL_law_X6_generations
set_option maxRecDepth 20000 in
theorem ggL_law_X5_queued : GoodIn wsL_law wsX5_queued := goodIn_r _ [606, 22, 417, 418, 419, 21, 420, 42, 43, 698, 699, 700, 701, 702, 703, 704, 705, 706, 741, 742, 743, 744, 745, 746] (by decide +kernel) (by decide +kernel)
set_option maxRecDepth 20000 in
theorem gL_law_X5_queued : GoodIn wsL_law (wsV RL 164 RX5 yX5_queued wsX5_queued) := goodIn_app (goodIn_of _ (by decide +kernel)) ggL_law_X5_queued
set_option maxRecDepth 20000 in
theorem ggL_law_X6_queued : GoodIn wsL_law wsX6_queued := goodIn_r _ [610, 146, 321, 426, 707, 708, 709, 710, 711, 712, 713, 714, 715, 716, 717, 718, 719, 720, 721, 722, 723, 724, 725, 726, 727, 728, 729, 730, 731, 732, 733, 734, 735, 736, 737, 738, 739, 740] (by decide +kernel) (by decide +kernel)
set_option maxRecDepth 20000 in
theorem gL_law_X6_queued : GoodIn wsL_law (wsV RL 167 RX6 yX6_queued wsX6_queued) := goodIn_app (goodIn_of _ (by decide +kernel)) ggL_law_X6_queued
set_option maxRecDepth 20000 in
theorem ggL_law_X5_inFlight : GoodIn wsL_law wsX5_inFlight := goodIn_r _ [614, 22, 434, 435, 436, 21, 437, 43, 44, 698, 699, 700, 701, 702, 703, 704, 705, 706, 741, 742, 743, 744, 745, 746] (by decide +kernel) (by decide +kernel)
set_option maxRecDepth 20000 in
theorem gL_law_X5_inFlight : GoodIn wsL_law (wsV RL 168 RX5 yX5_inFlight wsX5_inFlight) := goodIn_app (goodIn_of _ (by decide +kernel)) ggL_law_X5_inFlight
set_option maxRecDepth 20000 in
theorem ggL_law_X6_inFlight : GoodIn wsL_law wsX6_inFlight := goodIn_r _ [618, 146, 426, 322, 707, 708, 709, 710, 711, 712, 713, 714, 715, 716, 717, 718, 719, 720, 721, 722, 723, 724, 725, 726, 727, 728, 729, 730, 731, 732, 733, 734, 735, 736, 737, 738, 739, 740] (by decide +kernel) (by decide +kernel)
set_option maxRecDepth 20000 in
theorem gL_law_X6_inFlight : GoodIn wsL_law (wsV RL 171 RX6 yX6_inFlight wsX6_inFlight) := goodIn_app (goodIn_of _ (by decide +kernel)) ggL_law_X6_inFlight
set_option maxRecDepth 20000 in
theorem ggL_law_X5_acknowledged : GoodIn wsL_law wsX5_acknowledged := goodIn_r _ [622, 22, 623, 698, 699, 700, 701, 702, 703, 704, 705, 706, 741, 742, 743, 744, 745, 746] (by decide +kernel) (by decide +kernel)
set_option maxRecDepth 20000 in
theorem gL_law_X5_acknowledged : GoodIn wsL_law (wsV RL 172 RX5 yX5_acknowledged wsX5_acknowledged) := goodIn_app (goodIn_of _ (by decide +kernel)) ggL_law_X5_acknowledged
set_option maxRecDepth 20000 in
theorem ggL_law_X6_acknowledged : GoodIn wsL_law wsX6_acknowledged := goodIn_r _ [627, 146, 322, 707, 708, 709, 710, 711, 712, 713, 714, 715, 716, 717, 718, 719, 720, 721, 722, 723, 724, 725, 726, 727, 728, 729, 730, 731, 732, 733, 734, 735, 736, 737, 738, 739, 740] (by decide +kernel) (by decide +kernel)
set_option maxRecDepth 20000 in
theorem gL_law_X6_acknowledged : GoodIn wsL_law (wsV RL 175 RX6 yX6_acknowledged wsX6_acknowledged) := goodIn_app (goodIn_of _ (by decide +kernel)) ggL_law_X6_acknowledged
set_option maxRecDepth 20000 in
theorem ggL_law_X5_lost : GoodIn wsL_law wsX5_lost := goodIn_r _ [631, 22, 632, 698, 699, 700, 701, 702, 703, 704, 705, 706, 741, 742, 743, 744, 745, 746] (by decide +kernel) (by decide +kernel)
set_option maxRecDepth 20000 in
theorem gL_law_X5_lost : GoodIn wsL_law (wsV RL 176 RX5 yX5_lost wsX5_lost) := goodIn_app (goodIn_of _ (by decide +kernel)) ggL_law_X5_lost
set_option maxRecDepth 20000 in
theorem ggL_law_X6_lost : GoodIn wsL_law wsX6_lost := goodIn_r _ [636, 146, 323, 707, 708, 709, 710, 711, 712, 713, 714, 715, 716, 717, 718, 719, 720, 721, 722, 723, 724, 725, 726, 727, 728, 729, 730, 731, 732, 733, 734, 735, 736, 737, 738, 739, 740] (by decide +kernel) (by decide +kernel)
set_option maxRecDepth 20000 in
theorem gL_law_X6_lost : GoodIn wsL_law (wsV RL 179 RX6 yX6_lost wsX6_lost) := goodIn_app (goodIn_of _ (by decide +kernel)) ggL_law_X6_lost
set_option maxRecDepth 20000 in
theorem ggL_law_X5_messages : GoodIn wsL_law wsX5_messages := goodIn_r _ [640, 26, 235, 698, 699, 700, 701, 702, 703, 704, 705, 706, 747, 748, 749] (by decide +kernel) (by decide +kernel)
set_option maxRecDepth 20000 in
theorem gL_law_X5_messages : GoodIn wsL_law (wsV RL 180 RX5 yX5_messages wsX5_messages) := goodIn_app (goodIn_of _ (by decide +kernel)) ggL_law_X5_messages
set_option maxRecDepth 20000 in
theorem ggL_law_X6_messages : GoodIn wsL_law wsX6_messages := goodIn_r _ [644, 146, 302, 707, 708, 709, 710, 711, 712, 713, 714, 715, 716, 717, 718, 719, 720, 721, 722, 723, 724, 725, 726, 727, 728, 729, 730, 731, 732, 733, 734, 735, 736, 737, 738, 739, 740] (by decide +kernel) (by decide +kernel)
set_option maxRecDepth 20000 in
theorem gL_law_X6_messages : GoodIn wsL_law (wsV RL 183 RX6 yX6_messages wsX6_messages) := goodIn_app (goodIn_of _ (by decide +kernel)) ggL_law_X6_messages
set_option maxRecDepth 20000 in
theorem ggL_law_L_fateOf : GoodIn wsL_law wsL_fateOf := goodIn_ca (goodIn_r _ [647, 165, 648, 649, 650, 2, 651, 170, 171, 26, 652, 653, 654, 25, 655, 52, 656, 657, 658, 659, 50, 698, 699, 700, 701, 702, 703, 704, 705, 706, 747, 748, 749] (by decide +kernel) (by decide +kernel)) (goodIn_sub (fun _ h => List.mem_append_left _ (List.mem_append_right _ h)) (by decide +kernel))
set_option maxRecDepth 20000 in
theorem gL_law_L_fateOf : GoodIn wsL_law (va_wsS RL 184 yL_fateOf wsL_fateOf) := goodIn_app (goodIn_of _ (by decide +kernel)) ggL_law_L_fateOf
set_option maxRecDepth 20000 in
theorem ggL_law_X6_fateOf : GoodIn wsL_law wsX6_fateOf := goodIn_r _ [663, 115, 664, 665, 666, 5, 667, 302, 142, 143, 144, 145, 146, 707, 708, 709, 710, 711, 712, 713, 714, 715, 716, 717, 718, 719, 720, 721, 722, 723, 724, 725, 726, 727, 728, 729, 730, 731, 732, 733, 734, 735, 736, 737, 738, 739, 740] (by decide +kernel) (by decide +kernel)
set_option maxRecDepth 20000 in
theorem gL_law_X6_fateOf : GoodIn wsL_law (wsV RL 186 RX6 yX6_fateOf wsX6_fateOf) := goodIn_app (goodIn_of _ (by decide +kernel)) ggL_law_X6_fateOf
set_option maxRecDepth 20000 in
theorem ggL_law_L_count : GoodIn wsL_law wsL_count := goodIn_ca (goodIn_r _ [670, 165, 671, 672, 673, 2, 674, 170, 171, 26, 128, 129, 130, 675, 676, 677, 25, 678, 52, 50, 698, 699, 700, 701, 702, 703, 704, 705, 706, 747, 748, 749] (by decide +kernel) (by decide +kernel)) (goodIn_sub (fun _ h => List.mem_append_left _ (List.mem_append_right _ h)) (by decide +kernel))
set_option maxRecDepth 20000 in
theorem gL_law_L_count : GoodIn wsL_law (va_wsS RL 187 yL_count wsL_count) := goodIn_app (goodIn_of _ (by decide +kernel)) ggL_law_L_count
set_option maxRecDepth 20000 in
theorem ggL_law_X6_count : GoodIn wsL_law wsX6_count := goodIn_r _ [682, 302, 115, 139, 140, 5, 141, 142, 143, 144, 145, 146, 707, 708, 709, 710, 711, 712, 713, 714, 715, 716, 717, 718, 719, 720, 721, 722, 723, 724, 725, 726, 727, 728, 729, 730, 731, 732, 733, 734, 735, 736, 737, 738, 739, 740] (by decide +kernel) (by decide +kernel)
set_option maxRecDepth 20000 in
theorem gL_law_X6_count : GoodIn wsL_law (wsV RL 189 RX6 yX6_count wsX6_count) := goodIn_app (goodIn_of _ (by decide +kernel)) ggL_law_X6_count
set_option maxRecDepth 20000 in
theorem ggL_law_L_targetsOf : GoodIn wsL_law wsL_targetsOf := goodIn_ca (goodIn_r _ [685, 165, 686, 687, 688, 2, 689, 170, 171, 26, 652, 653, 654, 25, 655, 52, 690, 691, 692, 693, 51, 698, 699, 700, 701, 702, 703, 704, 705, 706, 747, 748, 749] (by decide +kernel) (by decide +kernel)) (goodIn_sub (fun _ h => List.mem_append_left _ (List.mem_append_right _ h)) (by decide +kernel))
set_option maxRecDepth 20000 in
theorem gL_law_L_targetsOf : GoodIn wsL_law (va_wsS RL 190 yL_targetsOf wsL_targetsOf) := goodIn_app (goodIn_of _ (by decide +kernel)) ggL_law_L_targetsOf
set_option maxRecDepth 20000 in
theorem ggL_law_X6_targetsOf : GoodIn wsL_law wsX6_targetsOf := goodIn_r _ [697, 116, 664, 665, 666, 5, 667, 302, 142, 143, 144, 145, 146, 707, 708, 709, 710, 711, 712, 713, 714, 715, 716, 717, 718, 719, 720, 721, 722, 723, 724, 725, 726, 727, 728, 729, 730, 731, 732, 733, 734, 735, 736, 737, 738, 739, 740] (by decide +kernel) (by decide +kernel)
set_option maxRecDepth 20000 in
theorem gL_law_X6_targetsOf : GoodIn wsL_law (wsV RL 192 RX6 yX6_targetsOf wsX6_targetsOf) := goodIn_app (goodIn_of _ (by decide +kernel)) ggL_law_X6_targetsOf
